section
/-! the reference's tape: a token ahead -/
variable {n : Nat} {h : PH} {y : Nat → Nat} {t : Nat} {d : Nat} {g : Nat → Nat → Int32} {Q : Option Value → PH → Prop}
def tqS (g : Nat → Nat → Int32) (b e k v o : Int32) : Nat → Nat → Int32 := fun a j => if a = 233 ∧ j = 9 then b else if a = 233 ∧ j = 10 then e else if a = 233 ∧ j = 8 then k else if a = 233 ∧ j = 12 then v else if a = 233 ∧ j = 13 then o else g a j
theorem tm_9 {b e k v o : Int32} : tqS g b e k v o 233 9 = b := if_pos ⟨rfl, rfl⟩
theorem tm_10 {b e k v o : Int32} : tqS g b e k v o 233 10 = e := by
  unfold tqS
  rw [if_neg (by omega), if_pos ⟨rfl, rfl⟩]
theorem tm_8 {b e k v o : Int32} : tqS g b e k v o 233 8 = k := by
  unfold tqS
  rw [if_neg (by omega), if_neg (by omega), if_pos ⟨rfl, rfl⟩]
theorem tm_12 {b e k v o : Int32} : tqS g b e k v o 233 12 = v := by
  unfold tqS
  rw [if_neg (by omega), if_neg (by omega), if_neg (by omega), if_pos ⟨rfl, rfl⟩]
theorem tm_13 {b e k v o : Int32} : tqS g b e k v o 233 13 = o := by
  unfold tqS
  rw [if_neg (by omega), if_neg (by omega), if_neg (by omega), if_neg (by omega), if_pos ⟨rfl, rfl⟩]
theorem tm_o {b e k v o : Int32} {a j : Nat} (ha : ¬ (a = 233 ∧ 8 ≤ j)) : tqS g b e k v o a j = g a j := by
  unfold tqS
  rw [if_neg (by omega), if_neg (by omega), if_neg (by omega), if_neg (by omega), if_neg (by omega)]
theorem tm_u9 {b e k v o x : Int32} : up2 (tqS g b e k v o) 233 9 x = tqS g x e k v o := by
  funext a j
  unfold up2 tqS
  by_cases z : a = 233 ∧ j = 9
  · rw [if_pos z, if_pos z]
  · rw [if_neg z, if_neg z, if_neg z]
theorem tm_u10 {b e k v o x : Int32} : up2 (tqS g b e k v o) 233 10 x = tqS g b x k v o := by
  funext a j
  unfold up2 tqS
  by_cases z : a = 233 ∧ j = 10
  · rw [if_pos z, if_neg (by omega), if_pos z]
  · rw [if_neg z, if_neg z, if_neg z]
theorem tm_u8 {b e k v o x : Int32} : up2 (tqS g b e k v o) 233 8 x = tqS g b e x v o := by
  funext a j
  unfold up2 tqS
  by_cases z : a = 233 ∧ j = 8
  · rw [if_pos z, if_neg (by omega), if_neg (by omega), if_pos z]
  · rw [if_neg z, if_neg z, if_neg z]
theorem tm_u12 {b e k v o x : Int32} : up2 (tqS g b e k v o) 233 12 x = tqS g b e k x o := by
  funext a j
  unfold up2 tqS
  by_cases z : a = 233 ∧ j = 12
  · rw [if_pos z, if_neg (by omega), if_neg (by omega), if_neg (by omega), if_pos z]
  · rw [if_neg z, if_neg z, if_neg z]
theorem tm_u13 {b e k v o x : Int32} : up2 (tqS g b e k v o) 233 13 x = tqS g b e k v x := by
  funext a j
  unfold up2 tqS
  by_cases z : a = 233 ∧ j = 13
  · rw [if_pos z, if_neg (by omega), if_neg (by omega), if_neg (by omega), if_neg (by omega), if_pos z]
  · rw [if_neg z, if_neg z, if_neg z]
theorem tm_uo {b e k v o x : Int32} {a j : Nat} (ha : ¬ a = 233) : up2 (tqS g b e k v o) a j x = tqS (up2 g a j x) b e k v o := by
  funext c i
  show (if c = a ∧ i = j then x else tqS g b e k v o c i) = tqS (up2 g a j x) b e k v o c i
  have eu : up2 g a j x c i = if c = a ∧ i = j then x else g c i := rfl
  unfold tqS
  rw [eu]
  by_cases z : c = a ∧ i = j
  · rw [if_pos z, if_neg (by omega), if_neg (by omega), if_neg (by omega), if_neg (by omega), if_neg (by omega), if_pos z]
  · rw [if_neg z]
    by_cases z1 : c = 233 ∧ i = 9
    · rw [if_pos z1, if_pos z1]
    rw [if_neg z1, if_neg z1]
    by_cases z2 : c = 233 ∧ i = 10
    · rw [if_pos z2, if_pos z2]
    rw [if_neg z2, if_neg z2]
    by_cases z3 : c = 233 ∧ i = 8
    · rw [if_pos z3, if_pos z3]
    rw [if_neg z3, if_neg z3]
    by_cases z4 : c = 233 ∧ i = 12
    · rw [if_pos z4, if_pos z4]
    rw [if_neg z4, if_neg z4]
    by_cases z5 : c = 233 ∧ i = 13
    · rw [if_pos z5, if_pos z5]
    rw [if_neg z5, if_neg z5, if_neg z]
theorem tm_self : tqS g (g 233 9) (g 233 10) (g 233 8) (g 233 12) (g 233 13) = g := by
  funext a j
  unfold tqS
  by_cases z1 : a = 233 ∧ j = 9
  · rw [if_pos z1, z1.1, z1.2]
  rw [if_neg z1]
  by_cases z2 : a = 233 ∧ j = 10
  · rw [if_pos z2, z2.1, z2.2]
  rw [if_neg z2]
  by_cases z3 : a = 233 ∧ j = 8
  · rw [if_pos z3, z3.1, z3.2]
  rw [if_neg z3]
  by_cases z4 : a = 233 ∧ j = 12
  · rw [if_pos z4, z4.1, z4.2]
  rw [if_neg z4]
  by_cases z5 : a = 233 ∧ j = 13
  · rw [if_pos z5, z5.1, z5.2]
  rw [if_neg z5]
/-- the frame with another word -/
def jW (h : PH) (w : Int64) : PH := sJ h 233 11 w
theorem jW_jW (h : PH) (w w' : Int64) : jW (jW h w) w' = jW h w' := by
  have e : up2 (up2 h.2.2.2.1 233 11 w) 233 11 w' = up2 h.2.2.2.1 233 11 w' := by
    funext a k
    unfold up2
    by_cases z : a = 233 ∧ k = 11
    · rw [if_pos z, if_pos z]
    · rw [if_neg z, if_neg z, if_neg z]
  show (h.1, h.2.1, h.2.2.1, up2 (up2 h.2.2.2.1 233 11 w) 233 11 w', h.2.2.2.2) = _
  rw [e]
  rfl
theorem sJ_jW (h : PH) (w w' : Int64) (f : Nat → Nat → Int32) : sJ (wI (jW h w) f) 233 11 w' = wI (jW h w') f := by
  show wI (jW (jW h w) w') f = _
  rw [jW_jW]
theorem hT_jW (h : PH) (w : Int64) (a : Nat) : hT (jW h w) a = hT h a := rfl
theorem hL_jW (h : PH) (w : Int64) (a : Nat) : hL (jW h w) a = hL h a := rfl
theorem hR_jW (h : PH) (w : Int64) (a k : Nat) : hR (jW h w) a k = hR h a k := rfl
theorem hJ_jW (h : PH) (w : Int64) : hJ (jW h w) 233 11 = w := by
  show up2 h.2.2.2.1 233 11 w 233 11 = w
  rw [up2_same]
theorem hJ_jWn (h : PH) (w : Int64) {a k : Nat} (ha : ¬ a = 233) : hJ (jW h w) a k = hJ h a k := by
  show up2 h.2.2.2.1 233 11 w a k = _
  rw [up2_ne _ _ ha]
  rfl
theorem jW_self (h : PH) : jW h (hJ h 233 11) = h := by
  have e : up2 h.2.2.2.1 233 11 (h.2.2.2.1 233 11) = h.2.2.2.1 := by
    funext a k
    unfold up2
    by_cases z : a = 233 ∧ k = 11
    · rw [if_pos z, z.1, z.2]
    · rw [if_neg z]
  show (h.1, h.2.1, h.2.2.1, up2 h.2.2.2.1 233 11 (h.2.2.2.1 233 11), h.2.2.2.2) = h
  rw [e]
theorem FR.jW (F : FR h) (w : Int64) : FR (jW h w) := F
def MG (y : Nat → Nat) (t : Nat) (g : Nat → Nat → Int32) : Prop := t ≤ 200 ∧ (∀ k, y k ≤ 255) ∧ g 233 7 = nI t ∧ ∀ k, k < t → g 239 k = nI (y k)
theorem MG.tm (G : MG y t g) (b e k v o : Int32) : MG y t (tqS g b e k v o) := ⟨G.1, G.2.1, by rw [tm_o (by omega)]; exact G.2.2.1, fun k hk => by rw [tm_o (by omega)]; exact G.2.2.2 k hk⟩
def bA (y : Nat → Nat) (t k : Nat) : Int32 := if k < t then nI (y k) else Int32.ofInt (-1)
theorem e_byteAt (F : FR h) (G : MG y t g) (k : Nat) (hk : k ≤ 1000) : Run d 633 [.ref 233, .int (nI k)] (wI h g) Q = Q (some (.int (bA y t k))) (wI h g) := by
  obtain ⟨g1, g2, g3, g4⟩ := G
  unfold bA
  by_cases z : k < t
  · have g : ¬ t ≤ k := by omega
    rw [if_pos z]
    simp -implicitDefEqProofs (disch := first | omega | (simp (disch := omega) only [nb_upr]; omega)) only [R_633, w_633_0, w_633_1, w_633_2, zi_88, zi_0, zi_0n, zi_363, zi_186, zi_364, zi_106, zi_112, zi_37, zi_113, zi_67w1, zi_67w2, F.t233, F.r233_6, F.t239, F.l239, kC_eq, toL_s, toL_n, okS0, okS1, okS2, okS3, okS4, okS5, true_and, and_true, hT_wI, hL_wI, hR_wI, hI_wI, hJ_wI, sI_wI, rfP, isIA_100, isIA_120, inb_ok, nI_clamp, nI_add, nI_mul, ↓reduceIte, not_false_eq_true, not_true_eq_false, true_or, or_true, ↓bI_01, ↓b01_0, ↓b01_1, bI_0, z00, z10, n4, n5, n2, n8, Nat.reduceMul, Nat.reduceAdd, Nat.reduceLT, Nat.reduceLeDiff, nI_eq, nI_leI, nI_ltI, Nat.reduceEqDiff, pk_div, nI_sub, Nat.reduceDiv, Nat.reduceSub, g3, g4 k z, g]
  · have g : t ≤ k := by omega
    rw [if_neg z]
    simp -implicitDefEqProofs (disch := first | omega | (simp (disch := omega) only [nb_upr]; omega)) only [R_633, w_633_0, w_633_1, w_633_2, zi_88, zi_0, zi_0n, zi_363, zi_186, zi_364, zi_106, zi_112, zi_37, zi_113, zi_67w1, zi_67w2, F.t233, F.r233_6, F.t239, F.l239, kC_eq, toL_s, toL_n, okS0, okS1, okS2, okS3, okS4, okS5, true_and, and_true, hT_wI, hL_wI, hR_wI, hI_wI, hJ_wI, sI_wI, rfP, isIA_100, isIA_120, inb_ok, nI_clamp, nI_add, nI_mul, ↓reduceIte, not_false_eq_true, not_true_eq_false, true_or, or_true, ↓bI_01, ↓b01_0, ↓b01_1, bI_0, z00, z10, n4, n5, n2, n8, Nat.reduceMul, Nat.reduceAdd, Nat.reduceLT, Nat.reduceLeDiff, nI_eq, nI_leI, nI_ltI, Nat.reduceEqDiff, pk_div, nI_sub, Nat.reduceDiv, Nat.reduceSub, g3, g]
theorem e_mL (b : Nat) (hb : b ≤ 255) (hd : 1 ≤ d) : Run d 641 [.int (nI b)] h Q = Q (some (.int (bI (isL b = true)))) h := by
  have e : bI (¬ (nI b < nI 97 ∨ nI 122 < nI b)) = bI (isL b = true) := by
    have q : (nI b < nI 97 ∨ nI 122 < nI b) ↔ (b < 97 ∨ 122 < b) := by
      rw [nI_ltI (by omega) (by omega), nI_ltI (by omega) (by omega)]
    by_cases z : isL b = true
    · have := isL_iff.mp z
      rw [bI_t z, bI_t (show ¬ (nI b < nI 97 ∨ nI 122 < nI b) from fun x => by have := q.mp x; omega)]
    · rw [bI_f z, bI_f (fun x => z (isL_iff.mpr (by
        have : ¬ (b < 97 ∨ 122 < b) := fun u => x (q.mpr u)
        omega)))]
  simp -implicitDefEqProofs (disch := first | omega | (simp (disch := omega) only [nb_upr]; omega)) only [R_641, w_641_0, zi_87, zi_409, zi_410, zi_362, zi_67w1, zi_67w2, kC_eq, toL_s, toL_n, okS0, okS1, okS2, okS3, okS4, okS5, true_and, and_true, hT_wI, hL_wI, hR_wI, hI_wI, hJ_wI, sI_wI, rfP, isIA_100, isIA_120, inb_ok, nI_clamp, nI_add, nI_mul, ↓reduceIte, not_false_eq_true, not_true_eq_false, true_or, or_true, ↓bI_01, ↓b01_0, ↓b01_1, bI_0, z00, z10, n4, n5, n2, n8, Nat.reduceMul, Nat.reduceAdd, Nat.reduceLT, Nat.reduceLeDiff, e_in, e]
theorem e_mD (b : Nat) (hb : b ≤ 255) (hd : 1 ≤ d) : Run d 649 [.int (nI b)] h Q = Q (some (.int (bI (isD b = true)))) h := by
  have e : bI (¬ (nI b < nI 48 ∨ nI 57 < nI b)) = bI (isD b = true) := by
    have q : (nI b < nI 48 ∨ nI 57 < nI b) ↔ (b < 48 ∨ 57 < b) := by
      rw [nI_ltI (by omega) (by omega), nI_ltI (by omega) (by omega)]
    by_cases z : isD b = true
    · have := isD_iff.mp z
      rw [bI_t z, bI_t (show ¬ (nI b < nI 48 ∨ nI 57 < nI b) from fun x => by have := q.mp x; omega)]
    · rw [bI_f z, bI_f (fun x => z (isD_iff.mpr (by
        have : ¬ (b < 48 ∨ 57 < b) := fun u => x (q.mpr u)
        omega)))]
  simp -implicitDefEqProofs (disch := first | omega | (simp (disch := omega) only [nb_upr]; omega)) only [R_649, w_649_0, zi_87, zi_159, zi_411, zi_362, zi_67w1, zi_67w2, kC_eq, toL_s, toL_n, okS0, okS1, okS2, okS3, okS4, okS5, true_and, and_true, hT_wI, hL_wI, hR_wI, hI_wI, hJ_wI, sI_wI, rfP, isIA_100, isIA_120, inb_ok, nI_clamp, nI_add, nI_mul, ↓reduceIte, not_false_eq_true, not_true_eq_false, true_or, or_true, ↓bI_01, ↓b01_0, ↓b01_1, bI_0, z00, z10, n4, n5, n2, n8, Nat.reduceMul, Nat.reduceAdd, Nat.reduceLT, Nat.reduceLeDiff, e_in, e]
theorem e_mLx (hd : 1 ≤ d) : Run d 641 [.int (Int32.ofInt (-1))] h Q = Q (some (.int (nI 0))) h := by
  have e : bI (¬ (Int32.ofInt (-1) < nI 97 ∨ nI 122 < Int32.ofInt (-1))) = nI 0 := bI_f (fun z => z (Or.inl (by decide)))
  simp -implicitDefEqProofs (disch := first | omega | (simp (disch := omega) only [nb_upr]; omega)) only [R_641, w_641_0, zi_87, zi_409, zi_410, zi_362, zi_67w1, zi_67w2, kC_eq, toL_s, toL_n, okS0, okS1, okS2, okS3, okS4, okS5, true_and, and_true, hT_wI, hL_wI, hR_wI, hI_wI, hJ_wI, sI_wI, rfP, isIA_100, isIA_120, inb_ok, nI_clamp, nI_add, nI_mul, ↓reduceIte, not_false_eq_true, not_true_eq_false, true_or, or_true, ↓bI_01, ↓b01_0, ↓b01_1, bI_0, z00, z10, n4, n5, n2, n8, Nat.reduceMul, Nat.reduceAdd, Nat.reduceLT, Nat.reduceLeDiff, e_in, e]
theorem e_mDx (hd : 1 ≤ d) : Run d 649 [.int (Int32.ofInt (-1))] h Q = Q (some (.int (nI 0))) h := by
  have e : bI (¬ (Int32.ofInt (-1) < nI 48 ∨ nI 57 < Int32.ofInt (-1))) = nI 0 := bI_f (fun z => z (Or.inl (by decide)))
  simp -implicitDefEqProofs (disch := first | omega | (simp (disch := omega) only [nb_upr]; omega)) only [R_649, w_649_0, zi_87, zi_159, zi_411, zi_362, zi_67w1, zi_67w2, kC_eq, toL_s, toL_n, okS0, okS1, okS2, okS3, okS4, okS5, true_and, and_true, hT_wI, hL_wI, hR_wI, hI_wI, hJ_wI, sI_wI, rfP, isIA_100, isIA_120, inb_ok, nI_clamp, nI_add, nI_mul, ↓reduceIte, not_false_eq_true, not_true_eq_false, true_or, or_true, ↓bI_01, ↓b01_0, ↓b01_1, bI_0, z00, z10, n4, n5, n2, n8, Nat.reduceMul, Nat.reduceAdd, Nat.reduceLT, Nat.reduceLeDiff, e_in, e]
theorem bA_lt {k : Nat} (hk : k < t) : bA y t k = nI (y k) := if_pos hk
theorem bA_ge {k : Nat} (hk : t ≤ k) : bA y t k = Int32.ofInt (-1) := if_neg (by omega)
theorem ma_skip (F : FR h) (G : MG y t g) (w : Int64) (e k v o : Int32) (d : Nat) (hd : 1 ≤ d) (Q : Option Value → PH → Prop) :
    ∀ (j p : Nat), p + j = t → WP d 624 1 [.ref 233, .retAddr 0] [] (wI (jW h w) (tqS g (nI p) e k v o)) Q = WP d 624 2 [.ref 233, .retAddr 0] [] (wI (jW h w) (tqS g (nI (skJ y j p)) e k v o)) Q := by
  obtain ⟨g1, g2, g3, g4⟩ := id G
  have m32 : ¬ Int32.ofInt (-1) = nI 32 := by decide
  intro j
  induction j with
  | zero =>
    intro p hp
    obtain rfl : p = t := by omega
    rw [w_624_1]
    simp -implicitDefEqProofs (disch := first | omega | (simp (disch := omega) only [nb_upr]; omega)) only [zi_0, zi_0n, zi_380, zi_381, zi_33, zi_377, zi_382, zi_383, zi_384, zi_3i, zi_3r, zi_48, zi_70, zi_40, zi_370, zi_96i, zi_96r, zi_96u, zi_96a, zi_88, zi_385, zi_31, zi_236, zi_386, zi_287, zi_387, zi_134, zi_51, zi_54, zi_237, zi_388, zi_264, zi_389, zi_375, zi_243, zi_390, zi_391, zi_392, zi_393, zi_305, zi_394, zi_395, zi_101, zi_130, zi_396, zi_397, zi_398, zi_245, zi_232, zi_277, zi_399, zi_255, zi_400, zi_251, zi_401, zi_304, zi_402, zi_403, zi_404, zi_140, zi_405, zi_79, zi_159, zi_406, zi_37, zi_407, zi_408, zi_41, hT_jW, F.t233, kC_eq, toL_s, toL_n, okS0, okS1, okS2, okS3, okS4, okS5, true_and, and_true, hT_wI, hL_wI, hR_wI, hI_wI, hJ_wI, sI_wI, rfP, isIA_100, isIA_120, inb_ok, nI_clamp, nI_add, nI_mul, ↓reduceIte, not_false_eq_true, not_true_eq_false, true_or, or_true, ↓bI_01, ↓b01_0, ↓b01_1, bI_0, z00, z10, n4, n5, n2, n8, Nat.reduceMul, Nat.reduceAdd, Nat.reduceLT, Nat.reduceLeDiff, nI_eq, nI_leI, nI_ltI, Nat.reduceEqDiff, pk_div, nI_sub, Nat.reduceDiv, Nat.reduceSub, tm_9, e_byteAt (F.jW w) (G.tm (nI p) e k v o), bA_ge (Nat.le_refl p), m32]
    rfl
  | succ j ih0 =>
    intro p hp
    have hy := g2 p
    have e' : skJ y (j + 1) p = if y p = 32 then skJ y j (p + 1) else p := rfl
    rw [e', w_624_1]
    by_cases z : y p = 32
    · rw [if_pos z, ← ih0 (p + 1) (by omega)]
      simp -implicitDefEqProofs (disch := first | omega | (simp (disch := omega) only [nb_upr]; omega)) only [zi_0, zi_0n, zi_380, zi_381, zi_33, zi_377, zi_382, zi_383, zi_384, zi_3i, zi_3r, zi_48, zi_70, zi_40, zi_370, zi_96i, zi_96r, zi_96u, zi_96a, zi_88, zi_385, zi_31, zi_236, zi_386, zi_287, zi_387, zi_134, zi_51, zi_54, zi_237, zi_388, zi_264, zi_389, zi_375, zi_243, zi_390, zi_391, zi_392, zi_393, zi_305, zi_394, zi_395, zi_101, zi_130, zi_396, zi_397, zi_398, zi_245, zi_232, zi_277, zi_399, zi_255, zi_400, zi_251, zi_401, zi_304, zi_402, zi_403, zi_404, zi_140, zi_405, zi_79, zi_159, zi_406, zi_37, zi_407, zi_408, zi_41, hT_jW, F.t233, kC_eq, toL_s, toL_n, okS0, okS1, okS2, okS3, okS4, okS5, true_and, and_true, hT_wI, hL_wI, hR_wI, hI_wI, hJ_wI, sI_wI, rfP, isIA_100, isIA_120, inb_ok, nI_clamp, nI_add, nI_mul, ↓reduceIte, not_false_eq_true, not_true_eq_false, true_or, or_true, ↓bI_01, ↓b01_0, ↓b01_1, bI_0, z00, z10, n4, n5, n2, n8, Nat.reduceMul, Nat.reduceAdd, Nat.reduceLT, Nat.reduceLeDiff, nI_eq, nI_leI, nI_ltI, Nat.reduceEqDiff, pk_div, nI_sub, Nat.reduceDiv, Nat.reduceSub, tm_9, tm_u9, e_byteAt (F.jW w) (G.tm (nI p) e k v o), bA_lt (show p < t by omega), z]
    · rw [if_neg z]
      simp -implicitDefEqProofs (disch := first | omega | (simp (disch := omega) only [nb_upr]; omega)) only [zi_0, zi_0n, zi_380, zi_381, zi_33, zi_377, zi_382, zi_383, zi_384, zi_3i, zi_3r, zi_48, zi_70, zi_40, zi_370, zi_96i, zi_96r, zi_96u, zi_96a, zi_88, zi_385, zi_31, zi_236, zi_386, zi_287, zi_387, zi_134, zi_51, zi_54, zi_237, zi_388, zi_264, zi_389, zi_375, zi_243, zi_390, zi_391, zi_392, zi_393, zi_305, zi_394, zi_395, zi_101, zi_130, zi_396, zi_397, zi_398, zi_245, zi_232, zi_277, zi_399, zi_255, zi_400, zi_251, zi_401, zi_304, zi_402, zi_403, zi_404, zi_140, zi_405, zi_79, zi_159, zi_406, zi_37, zi_407, zi_408, zi_41, hT_jW, F.t233, kC_eq, toL_s, toL_n, okS0, okS1, okS2, okS3, okS4, okS5, true_and, and_true, hT_wI, hL_wI, hR_wI, hI_wI, hJ_wI, sI_wI, rfP, isIA_100, isIA_120, inb_ok, nI_clamp, nI_add, nI_mul, ↓reduceIte, not_false_eq_true, not_true_eq_false, true_or, or_true, ↓bI_01, ↓b01_0, ↓b01_1, bI_0, z00, z10, n4, n5, n2, n8, Nat.reduceMul, Nat.reduceAdd, Nat.reduceLT, Nat.reduceLeDiff, nI_eq, nI_leI, nI_ltI, Nat.reduceEqDiff, pk_div, nI_sub, Nat.reduceDiv, Nat.reduceSub, tm_9, tm_u9, e_byteAt (F.jW w) (G.tm (nI p) e k v o), bA_lt (show p < t by omega), z]
theorem ma_name (F : FR h) (G : MG y t g) (s : Nat) (v o : Int32) (x1 : Value) (d : Nat) (hd : 2 ≤ d) (Q : Option Value → PH → Prop) :
    ∀ (j p : Nat) (w : Int64), p + j = t → s ≤ p → WP d 624 9 [.ref 233, x1] [] (wI (jW h w) (tqS g (nI s) (nI p) (nI 1) v o)) Q = WP d 624 12 [.ref 233, x1] [] (wI (jW h (wdJ y s j p w)) (tqS g (nI s) (nI (leJ y j p)) (nI 1) v o)) Q := by
  obtain ⟨g1, g2, g3, g4⟩ := id G
  intro j
  induction j with
  | zero =>
    intro p w hp hs
    obtain rfl : p = t := by omega
    rw [w_624_9]
    simp -implicitDefEqProofs (disch := first | omega | (simp (disch := omega) only [nb_upr]; omega)) only [zi_0, zi_0n, zi_380, zi_381, zi_33, zi_377, zi_382, zi_383, zi_384, zi_3i, zi_3r, zi_48, zi_70, zi_40, zi_370, zi_96i, zi_96r, zi_96u, zi_96a, zi_88, zi_385, zi_31, zi_236, zi_386, zi_287, zi_387, zi_134, zi_51, zi_54, zi_237, zi_388, zi_264, zi_389, zi_375, zi_243, zi_390, zi_391, zi_392, zi_393, zi_305, zi_394, zi_395, zi_101, zi_130, zi_396, zi_397, zi_398, zi_245, zi_232, zi_277, zi_399, zi_255, zi_400, zi_251, zi_401, zi_304, zi_402, zi_403, zi_404, zi_140, zi_405, zi_79, zi_159, zi_406, zi_37, zi_407, zi_408, zi_41, hT_jW, F.t233, kC_eq, toL_s, toL_n, okS0, okS1, okS2, okS3, okS4, okS5, true_and, and_true, hT_wI, hL_wI, hR_wI, hI_wI, hJ_wI, sI_wI, rfP, isIA_100, isIA_120, inb_ok, nI_clamp, nI_add, nI_mul, ↓reduceIte, not_false_eq_true, not_true_eq_false, true_or, or_true, ↓bI_01, ↓b01_0, ↓b01_1, bI_0, z00, z10, n4, n5, n2, n8, Nat.reduceMul, Nat.reduceAdd, Nat.reduceLT, Nat.reduceLeDiff, nI_eq, nI_leI, nI_ltI, Nat.reduceEqDiff, pk_div, nI_sub, Nat.reduceDiv, Nat.reduceSub, tm_8, tm_10, e_byteAt (F.jW w) (G.tm (nI s) (nI p) (nI 1) v o), bA_ge (Nat.le_refl p), e_mLx]
    rfl
  | succ j ih0 =>
    intro p w hp hs
    have hy := g2 p
    have e' : leJ y (j + 1) p = if isL (y p) = true then leJ y j (p + 1) else p := rfl
    have ew : wdJ y s (j + 1) p w = if isL (y p) = true then wdJ y s j (p + 1) (if p - s < 9 then lN 27 * w + (nI (y p)).toInt64 - lN 96 else Int64.ofInt (-1)) else w := rfl
    rw [e', ew, w_624_9]
    by_cases z : isL (y p) = true
    · rw [if_pos z, if_pos z]
      by_cases z9 : p - s < 9
      · have z9' : ¬ 9 ≤ p - s := by omega
        rw [if_pos z9, ← ih0 (p + 1) _ (by omega) (by omega)]
        simp -implicitDefEqProofs (disch := first | omega | (simp (disch := omega) only [nb_upr]; omega)) only [w_624_10, w_624_11, zi_0, zi_0n, zi_380, zi_381, zi_33, zi_377, zi_382, zi_383, zi_384, zi_3i, zi_3r, zi_48, zi_70, zi_40, zi_370, zi_96i, zi_96r, zi_96u, zi_96a, zi_88, zi_385, zi_31, zi_236, zi_386, zi_287, zi_387, zi_134, zi_51, zi_54, zi_237, zi_388, zi_264, zi_389, zi_375, zi_243, zi_390, zi_391, zi_392, zi_393, zi_305, zi_394, zi_395, zi_101, zi_130, zi_396, zi_397, zi_398, zi_245, zi_232, zi_277, zi_399, zi_255, zi_400, zi_251, zi_401, zi_304, zi_402, zi_403, zi_404, zi_140, zi_405, zi_79, zi_159, zi_406, zi_37, zi_407, zi_408, zi_41, hT_jW, hJ_jW, sJ_jW, F.t233, kC_eq, toL_s, toL_n, okS0, okS1, okS2, okS3, okS4, okS5, true_and, and_true, hT_wI, hL_wI, hR_wI, hI_wI, hJ_wI, sI_wI, rfP, isIA_100, isIA_120, inb_ok, nI_clamp, nI_add, nI_mul, ↓reduceIte, not_false_eq_true, not_true_eq_false, true_or, or_true, ↓bI_01, ↓b01_0, ↓b01_1, bI_0, z00, z10, n4, n5, n2, n8, Nat.reduceMul, Nat.reduceAdd, Nat.reduceLT, Nat.reduceLeDiff, nI_eq, nI_leI, nI_ltI, Nat.reduceEqDiff, pk_div, nI_sub, Nat.reduceDiv, Nat.reduceSub, tm_8, tm_9, tm_10, tm_u10, e_byteAt (F.jW w) (G.tm (nI s) (nI p) (nI 1) v o), bA_lt (show p < t by omega), e_mL (y p) hy, z, z9', Bool.false_eq_true]
      · have z9' : 9 ≤ p - s := by omega
        rw [if_neg z9, ← ih0 (p + 1) _ (by omega) (by omega)]
        simp -implicitDefEqProofs (disch := first | omega | (simp (disch := omega) only [nb_upr]; omega)) only [w_624_10, w_624_11, zi_0, zi_0n, zi_380, zi_381, zi_33, zi_377, zi_382, zi_383, zi_384, zi_3i, zi_3r, zi_48, zi_70, zi_40, zi_370, zi_96i, zi_96r, zi_96u, zi_96a, zi_88, zi_385, zi_31, zi_236, zi_386, zi_287, zi_387, zi_134, zi_51, zi_54, zi_237, zi_388, zi_264, zi_389, zi_375, zi_243, zi_390, zi_391, zi_392, zi_393, zi_305, zi_394, zi_395, zi_101, zi_130, zi_396, zi_397, zi_398, zi_245, zi_232, zi_277, zi_399, zi_255, zi_400, zi_251, zi_401, zi_304, zi_402, zi_403, zi_404, zi_140, zi_405, zi_79, zi_159, zi_406, zi_37, zi_407, zi_408, zi_41, hT_jW, hJ_jW, sJ_jW, F.t233, kC_eq, toL_s, toL_n, okS0, okS1, okS2, okS3, okS4, okS5, true_and, and_true, hT_wI, hL_wI, hR_wI, hI_wI, hJ_wI, sI_wI, rfP, isIA_100, isIA_120, inb_ok, nI_clamp, nI_add, nI_mul, ↓reduceIte, not_false_eq_true, not_true_eq_false, true_or, or_true, ↓bI_01, ↓b01_0, ↓b01_1, bI_0, z00, z10, n4, n5, n2, n8, Nat.reduceMul, Nat.reduceAdd, Nat.reduceLT, Nat.reduceLeDiff, nI_eq, nI_leI, nI_ltI, Nat.reduceEqDiff, pk_div, nI_sub, Nat.reduceDiv, Nat.reduceSub, tm_8, tm_9, tm_10, tm_u10, e_byteAt (F.jW w) (G.tm (nI s) (nI p) (nI 1) v o), bA_lt (show p < t by omega), e_mL (y p) hy, z, z9', Bool.false_eq_true]
    · rw [if_neg z, if_neg z]
      simp -implicitDefEqProofs (disch := first | omega | (simp (disch := omega) only [nb_upr]; omega)) only [zi_0, zi_0n, zi_380, zi_381, zi_33, zi_377, zi_382, zi_383, zi_384, zi_3i, zi_3r, zi_48, zi_70, zi_40, zi_370, zi_96i, zi_96r, zi_96u, zi_96a, zi_88, zi_385, zi_31, zi_236, zi_386, zi_287, zi_387, zi_134, zi_51, zi_54, zi_237, zi_388, zi_264, zi_389, zi_375, zi_243, zi_390, zi_391, zi_392, zi_393, zi_305, zi_394, zi_395, zi_101, zi_130, zi_396, zi_397, zi_398, zi_245, zi_232, zi_277, zi_399, zi_255, zi_400, zi_251, zi_401, zi_304, zi_402, zi_403, zi_404, zi_140, zi_405, zi_79, zi_159, zi_406, zi_37, zi_407, zi_408, zi_41, hT_jW, F.t233, kC_eq, toL_s, toL_n, okS0, okS1, okS2, okS3, okS4, okS5, true_and, and_true, hT_wI, hL_wI, hR_wI, hI_wI, hJ_wI, sI_wI, rfP, isIA_100, isIA_120, inb_ok, nI_clamp, nI_add, nI_mul, ↓reduceIte, not_false_eq_true, not_true_eq_false, true_or, or_true, ↓bI_01, ↓b01_0, ↓b01_1, bI_0, z00, z10, n4, n5, n2, n8, Nat.reduceMul, Nat.reduceAdd, Nat.reduceLT, Nat.reduceLeDiff, nI_eq, nI_leI, nI_ltI, Nat.reduceEqDiff, pk_div, nI_sub, Nat.reduceDiv, Nat.reduceSub, tm_8, tm_9, tm_10, e_byteAt (F.jW w) (G.tm (nI s) (nI p) (nI 1) v o), bA_lt (show p < t by omega), e_mL (y p) hy, z, Bool.false_eq_true]
theorem ma_digs (F : FR h) (G : MG y t g) (s : Nat) (w : Int64) (o : Int32) (x1 : Value) (d : Nat) (hd : 2 ≤ d) (Q : Option Value → PH → Prop) :
    ∀ (j p : Nat) (v : Int32), p + j = t → s ≤ p → WP d 624 12 [.ref 233, x1] [] (wI (jW h w) (tqS g (nI s) (nI p) (nI 2) v o)) Q = Q none (wI (jW h w) (tqS g (nI s) (nI (deJ y j p)) (nI 2) (vlJ y s j p v) o)) := by
  obtain ⟨g1, g2, g3, g4⟩ := id G
  intro j
  induction j with
  | zero =>
    intro p v hp hs
    obtain rfl : p = t := by omega
    rw [w_624_12]
    simp -implicitDefEqProofs (disch := first | omega | (simp (disch := omega) only [nb_upr]; omega)) only [w_624_15, zi_0, zi_0n, zi_380, zi_381, zi_33, zi_377, zi_382, zi_383, zi_384, zi_3i, zi_3r, zi_48, zi_70, zi_40, zi_370, zi_96i, zi_96r, zi_96u, zi_96a, zi_88, zi_385, zi_31, zi_236, zi_386, zi_287, zi_387, zi_134, zi_51, zi_54, zi_237, zi_388, zi_264, zi_389, zi_375, zi_243, zi_390, zi_391, zi_392, zi_393, zi_305, zi_394, zi_395, zi_101, zi_130, zi_396, zi_397, zi_398, zi_245, zi_232, zi_277, zi_399, zi_255, zi_400, zi_251, zi_401, zi_304, zi_402, zi_403, zi_404, zi_140, zi_405, zi_79, zi_159, zi_406, zi_37, zi_407, zi_408, zi_41, hT_jW, F.t233, kC_eq, toL_s, toL_n, okS0, okS1, okS2, okS3, okS4, okS5, true_and, and_true, hT_wI, hL_wI, hR_wI, hI_wI, hJ_wI, sI_wI, rfP, isIA_100, isIA_120, inb_ok, nI_clamp, nI_add, nI_mul, ↓reduceIte, not_false_eq_true, not_true_eq_false, true_or, or_true, ↓bI_01, ↓b01_0, ↓b01_1, bI_0, z00, z10, n4, n5, n2, n8, Nat.reduceMul, Nat.reduceAdd, Nat.reduceLT, Nat.reduceLeDiff, nI_eq, nI_leI, nI_ltI, Nat.reduceEqDiff, pk_div, nI_sub, Nat.reduceDiv, Nat.reduceSub, tm_8, tm_10, e_byteAt (F.jW w) (G.tm (nI s) (nI p) (nI 2) v o), bA_ge (Nat.le_refl p), e_mDx]
    rfl
  | succ j ih0 =>
    intro p v hp hs
    have hy := g2 p
    have e' : deJ y (j + 1) p = if isD (y p) = true then deJ y j (p + 1) else p := rfl
    have ev : vlJ y s (j + 1) p v = if isD (y p) = true then vlJ y s j (p + 1) (if p - s < 3 then v * nI 10 + nI (y p) - nI 48 else Int32.ofInt (-1)) else v := rfl
    have ecm : nI 10 * v = v * nI 10 := Int32.mul_comm _ _
    rw [e', ev, w_624_12]
    by_cases z : isD (y p) = true
    · rw [if_pos z, if_pos z]
      by_cases z3 : p - s < 3
      · have z3' : ¬ 3 ≤ p - s := by omega
        rw [if_pos z3, ← ih0 (p + 1) _ (by omega) (by omega)]
        simp -implicitDefEqProofs (disch := first | omega | (simp (disch := omega) only [nb_upr]; omega)) only [w_624_13, w_624_14, zi_0, zi_0n, zi_380, zi_381, zi_33, zi_377, zi_382, zi_383, zi_384, zi_3i, zi_3r, zi_48, zi_70, zi_40, zi_370, zi_96i, zi_96r, zi_96u, zi_96a, zi_88, zi_385, zi_31, zi_236, zi_386, zi_287, zi_387, zi_134, zi_51, zi_54, zi_237, zi_388, zi_264, zi_389, zi_375, zi_243, zi_390, zi_391, zi_392, zi_393, zi_305, zi_394, zi_395, zi_101, zi_130, zi_396, zi_397, zi_398, zi_245, zi_232, zi_277, zi_399, zi_255, zi_400, zi_251, zi_401, zi_304, zi_402, zi_403, zi_404, zi_140, zi_405, zi_79, zi_159, zi_406, zi_37, zi_407, zi_408, zi_41, hT_jW, F.t233, kC_eq, toL_s, toL_n, okS0, okS1, okS2, okS3, okS4, okS5, true_and, and_true, hT_wI, hL_wI, hR_wI, hI_wI, hJ_wI, sI_wI, rfP, isIA_100, isIA_120, inb_ok, nI_clamp, nI_add, nI_mul, ↓reduceIte, not_false_eq_true, not_true_eq_false, true_or, or_true, ↓bI_01, ↓b01_0, ↓b01_1, bI_0, z00, z10, n4, n5, n2, n8, Nat.reduceMul, Nat.reduceAdd, Nat.reduceLT, Nat.reduceLeDiff, nI_eq, nI_leI, nI_ltI, Nat.reduceEqDiff, pk_div, nI_sub, Nat.reduceDiv, Nat.reduceSub, tm_8, tm_9, tm_10, tm_12, tm_u10, tm_u12, e_byteAt (F.jW w) (G.tm (nI s) (nI p) (nI 2) v o), bA_lt (show p < t by omega), e_mD (y p) hy, z, z3', ecm, Bool.false_eq_true]
      · have z3' : 3 ≤ p - s := by omega
        rw [if_neg z3, ← ih0 (p + 1) _ (by omega) (by omega)]
        simp -implicitDefEqProofs (disch := first | omega | (simp (disch := omega) only [nb_upr]; omega)) only [w_624_13, w_624_14, zi_0, zi_0n, zi_380, zi_381, zi_33, zi_377, zi_382, zi_383, zi_384, zi_3i, zi_3r, zi_48, zi_70, zi_40, zi_370, zi_96i, zi_96r, zi_96u, zi_96a, zi_88, zi_385, zi_31, zi_236, zi_386, zi_287, zi_387, zi_134, zi_51, zi_54, zi_237, zi_388, zi_264, zi_389, zi_375, zi_243, zi_390, zi_391, zi_392, zi_393, zi_305, zi_394, zi_395, zi_101, zi_130, zi_396, zi_397, zi_398, zi_245, zi_232, zi_277, zi_399, zi_255, zi_400, zi_251, zi_401, zi_304, zi_402, zi_403, zi_404, zi_140, zi_405, zi_79, zi_159, zi_406, zi_37, zi_407, zi_408, zi_41, hT_jW, F.t233, kC_eq, toL_s, toL_n, okS0, okS1, okS2, okS3, okS4, okS5, true_and, and_true, hT_wI, hL_wI, hR_wI, hI_wI, hJ_wI, sI_wI, rfP, isIA_100, isIA_120, inb_ok, nI_clamp, nI_add, nI_mul, ↓reduceIte, not_false_eq_true, not_true_eq_false, true_or, or_true, ↓bI_01, ↓b01_0, ↓b01_1, bI_0, z00, z10, n4, n5, n2, n8, Nat.reduceMul, Nat.reduceAdd, Nat.reduceLT, Nat.reduceLeDiff, nI_eq, nI_leI, nI_ltI, Nat.reduceEqDiff, pk_div, nI_sub, Nat.reduceDiv, Nat.reduceSub, tm_8, tm_9, tm_10, tm_12, tm_u10, tm_u12, e_byteAt (F.jW w) (G.tm (nI s) (nI p) (nI 2) v o), bA_lt (show p < t by omega), e_mD (y p) hy, z, z3', ecm, Bool.false_eq_true]
    · rw [if_neg z, if_neg z]
      simp -implicitDefEqProofs (disch := first | omega | (simp (disch := omega) only [nb_upr]; omega)) only [w_624_15, zi_0, zi_0n, zi_380, zi_381, zi_33, zi_377, zi_382, zi_383, zi_384, zi_3i, zi_3r, zi_48, zi_70, zi_40, zi_370, zi_96i, zi_96r, zi_96u, zi_96a, zi_88, zi_385, zi_31, zi_236, zi_386, zi_287, zi_387, zi_134, zi_51, zi_54, zi_237, zi_388, zi_264, zi_389, zi_375, zi_243, zi_390, zi_391, zi_392, zi_393, zi_305, zi_394, zi_395, zi_101, zi_130, zi_396, zi_397, zi_398, zi_245, zi_232, zi_277, zi_399, zi_255, zi_400, zi_251, zi_401, zi_304, zi_402, zi_403, zi_404, zi_140, zi_405, zi_79, zi_159, zi_406, zi_37, zi_407, zi_408, zi_41, hT_jW, F.t233, kC_eq, toL_s, toL_n, okS0, okS1, okS2, okS3, okS4, okS5, true_and, and_true, hT_wI, hL_wI, hR_wI, hI_wI, hJ_wI, sI_wI, rfP, isIA_100, isIA_120, inb_ok, nI_clamp, nI_add, nI_mul, ↓reduceIte, not_false_eq_true, not_true_eq_false, true_or, or_true, ↓bI_01, ↓b01_0, ↓b01_1, bI_0, z00, z10, n4, n5, n2, n8, Nat.reduceMul, Nat.reduceAdd, Nat.reduceLT, Nat.reduceLeDiff, nI_eq, nI_leI, nI_ltI, Nat.reduceEqDiff, pk_div, nI_sub, Nat.reduceDiv, Nat.reduceSub, tm_8, tm_9, tm_10, e_byteAt (F.jW w) (G.tm (nI s) (nI p) (nI 2) v o), bA_lt (show p < t by omega), e_mD (y p) hy, z, Bool.false_eq_true]
def tWW (y : Nat → Nat) (t p : Nat) : Int64 := if tK y t p = 1 then tW y t p else lN 0
def tRV (y : Nat → Nat) (t p : Nat) : Int32 := if tK y t p = 2 then tV y t p else bA y t (tS y t p)
/-- the frame and the fields with the token behind p -/
def jP (h : PH) (y : Nat → Nat) (t p : Nat) : PH := jW h (tWW y t p)
def tmP (g : Nat → Nat → Int32) (y : Nat → Nat) (t p : Nat) (o : Int32) : Nat → Nat → Int32 := tqS g (nI (tS y t p)) (nI (tE y t p)) (nI (tK y t p)) (tRV y t p) o
theorem e_adv (F : FR h) (G : MG y t g) (p : Nat) (hp : p ≤ t) (w : Int64) (b k v o : Int32) (d : Nat) (hd : 2 ≤ d) (Q : Option Value → PH → Prop) : Run d 624 [.ref 233] (wI (jW h w) (tqS g b (nI p) k v o)) Q = Q none (wI (jP h y t p) (tmP g y t p o)) := by
  have hs := ma_skip F G w (nI p) k v o d (by omega) Q (t - p) p (by omega)
  have hb := tS_b (y := y) hp
  obtain ⟨g1, g2, g3, g4⟩ := id G
  have e : skJ y (t - p) p = tS y t p := rfl
  have p0 : WP d 624 0 [.ref 233, .retAddr 0] [] (wI (jW h w) (tqS g b (nI p) k v o)) Q = WP d 624 1 [.ref 233, .retAddr 0] [] (wI (jW h w) (tqS g (nI p) (nI p) k v o)) Q := by
    rw [w_624_0]
    simp -implicitDefEqProofs (disch := first | omega | (simp (disch := omega) only [nb_upr]; omega)) only [zi_0, zi_0n, zi_380, zi_381, zi_33, zi_377, zi_382, zi_383, zi_384, zi_3i, zi_3r, zi_48, zi_70, zi_40, zi_370, zi_96i, zi_96r, zi_96u, zi_96a, zi_88, zi_385, zi_31, zi_236, zi_386, zi_287, zi_387, zi_134, zi_51, zi_54, zi_237, zi_388, zi_264, zi_389, zi_375, zi_243, zi_390, zi_391, zi_392, zi_393, zi_305, zi_394, zi_395, zi_101, zi_130, zi_396, zi_397, zi_398, zi_245, zi_232, zi_277, zi_399, zi_255, zi_400, zi_251, zi_401, zi_304, zi_402, zi_403, zi_404, zi_140, zi_405, zi_79, zi_159, zi_406, zi_37, zi_407, zi_408, zi_41, hT_jW, F.t233, kC_eq, toL_s, toL_n, okS0, okS1, okS2, okS3, okS4, okS5, true_and, and_true, hT_wI, hL_wI, hR_wI, hI_wI, hJ_wI, sI_wI, rfP, isIA_100, isIA_120, inb_ok, nI_clamp, nI_add, nI_mul, ↓reduceIte, not_false_eq_true, not_true_eq_false, true_or, or_true, ↓bI_01, ↓b01_0, ↓b01_1, bI_0, z00, z10, n4, n5, n2, n8, Nat.reduceMul, Nat.reduceAdd, Nat.reduceLT, Nat.reduceLeDiff, tm_10, tm_u9]
  rw [e] at hs
  rw [R_624, p0, hs, w_624_2]
  obtain ⟨S, hS⟩ : ∃ S, tS y t p = S := ⟨_, rfl⟩
  have hy := g2 S
  have m0 : ¬ (0 ≤ Int32.ofInt (-1)) := by decide
  unfold jP tmP tWW tRV tE tV tW
  by_cases k0 : t ≤ S
  · have eK : tK y t p = 0 := tK_0.mpr (by rw [hS]; exact k0)
    have q02 : ¬ (0 : Nat) = 2 := by decide
    have q01 : ¬ (0 : Nat) = 1 := by decide
    have q03 : ¬ (0 : Nat) = 3 := by decide
    rw [eK, hS, if_pos rfl, if_neg q02, if_neg q01]
    simp -implicitDefEqProofs (disch := first | omega | (simp (disch := omega) only [nb_upr]; omega)) only [w_624_6, w_624_7, w_624_8, w_624_9, w_624_12, w_624_15, zi_0, zi_0n, zi_380, zi_381, zi_33, zi_377, zi_382, zi_383, zi_384, zi_3i, zi_3r, zi_48, zi_70, zi_40, zi_370, zi_96i, zi_96r, zi_96u, zi_96a, zi_88, zi_385, zi_31, zi_236, zi_386, zi_287, zi_387, zi_134, zi_51, zi_54, zi_237, zi_388, zi_264, zi_389, zi_375, zi_243, zi_390, zi_391, zi_392, zi_393, zi_305, zi_394, zi_395, zi_101, zi_130, zi_396, zi_397, zi_398, zi_245, zi_232, zi_277, zi_399, zi_255, zi_400, zi_251, zi_401, zi_304, zi_402, zi_403, zi_404, zi_140, zi_405, zi_79, zi_159, zi_406, zi_37, zi_407, zi_408, zi_41, hT_jW, hJ_jW, sJ_jW, F.t233, kC_eq, toL_s, toL_n, okS0, okS1, okS2, okS3, okS4, okS5, true_and, and_true, hT_wI, hL_wI, hR_wI, hI_wI, hJ_wI, sI_wI, rfP, isIA_100, isIA_120, inb_ok, nI_clamp, nI_add, nI_mul, ↓reduceIte, not_false_eq_true, not_true_eq_false, true_or, or_true, ↓bI_01, ↓b01_0, ↓b01_1, bI_0, z00, z10, n4, n5, n2, n8, Nat.reduceMul, Nat.reduceAdd, Nat.reduceLT, Nat.reduceLeDiff, nI_eq, nI_leI, nI_ltI, Nat.reduceEqDiff, pk_div, nI_sub, Nat.reduceDiv, Nat.reduceSub, tm_8, tm_9, tm_u8, tm_u10, tm_u12, e_byteAt (F.jW w) (G.tm _ _ _ _ _), bA_ge k0, m0, q02, q01, q03]
  have k0' : S < t := by omega
  have pos : 0 ≤ nI (y S) := nI_pos' (by omega)
  by_cases k1 : isL (y S) = true
  · have eK : tK y t p = 1 := tK_1.mpr (by rw [hS]; exact ⟨k0', k1⟩)
    have q10 : ¬ (1 : Nat) = 0 := by decide
    have q12 : ¬ (1 : Nat) = 2 := by decide
    have q13 : ¬ (1 : Nat) = 3 := by decide
    have hn := ma_name F G S (nI (y S)) o (.int (nI (y S))) d (by omega) Q (t - S) S (lN 0) (by omega) (Nat.le_refl S)
    rw [eK, hS, if_neg q10, if_pos rfl, if_neg q12, if_pos rfl]
    simp -implicitDefEqProofs (disch := first | omega | (simp (disch := omega) only [nb_upr]; omega)) only [w_624_3, w_624_6, w_624_7, w_624_8, zi_0, zi_0n, zi_380, zi_381, zi_33, zi_377, zi_382, zi_383, zi_384, zi_3i, zi_3r, zi_48, zi_70, zi_40, zi_370, zi_96i, zi_96r, zi_96u, zi_96a, zi_88, zi_385, zi_31, zi_236, zi_386, zi_287, zi_387, zi_134, zi_51, zi_54, zi_237, zi_388, zi_264, zi_389, zi_375, zi_243, zi_390, zi_391, zi_392, zi_393, zi_305, zi_394, zi_395, zi_101, zi_130, zi_396, zi_397, zi_398, zi_245, zi_232, zi_277, zi_399, zi_255, zi_400, zi_251, zi_401, zi_304, zi_402, zi_403, zi_404, zi_140, zi_405, zi_79, zi_159, zi_406, zi_37, zi_407, zi_408, zi_41, hT_jW, hJ_jW, sJ_jW, F.t233, kC_eq, toL_s, toL_n, okS0, okS1, okS2, okS3, okS4, okS5, true_and, and_true, hT_wI, hL_wI, hR_wI, hI_wI, hJ_wI, sI_wI, rfP, isIA_100, isIA_120, inb_ok, nI_clamp, nI_add, nI_mul, ↓reduceIte, not_false_eq_true, not_true_eq_false, true_or, or_true, ↓bI_01, ↓b01_0, ↓b01_1, bI_0, z00, z10, n4, n5, n2, n8, Nat.reduceMul, Nat.reduceAdd, Nat.reduceLT, Nat.reduceLeDiff, nI_eq, nI_leI, nI_ltI, Nat.reduceEqDiff, pk_div, nI_sub, Nat.reduceDiv, Nat.reduceSub, tm_8, tm_9, tm_u8, tm_u10, tm_u12, e_byteAt (F.jW w) (G.tm _ _ _ _ _), bA_lt k0', pos, e_mL (y S) hy, k1, q12, q13, Bool.false_eq_true]
    rw [hn]
    simp -implicitDefEqProofs (disch := first | omega | (simp (disch := omega) only [nb_upr]; omega)) only [w_624_12, w_624_15, zi_0, zi_0n, zi_380, zi_381, zi_33, zi_377, zi_382, zi_383, zi_384, zi_3i, zi_3r, zi_48, zi_70, zi_40, zi_370, zi_96i, zi_96r, zi_96u, zi_96a, zi_88, zi_385, zi_31, zi_236, zi_386, zi_287, zi_387, zi_134, zi_51, zi_54, zi_237, zi_388, zi_264, zi_389, zi_375, zi_243, zi_390, zi_391, zi_392, zi_393, zi_305, zi_394, zi_395, zi_101, zi_130, zi_396, zi_397, zi_398, zi_245, zi_232, zi_277, zi_399, zi_255, zi_400, zi_251, zi_401, zi_304, zi_402, zi_403, zi_404, zi_140, zi_405, zi_79, zi_159, zi_406, zi_37, zi_407, zi_408, zi_41, hT_jW, F.t233, kC_eq, toL_s, toL_n, okS0, okS1, okS2, okS3, okS4, okS5, true_and, and_true, hT_wI, hL_wI, hR_wI, hI_wI, hJ_wI, sI_wI, rfP, isIA_100, isIA_120, inb_ok, nI_clamp, nI_add, nI_mul, ↓reduceIte, not_false_eq_true, not_true_eq_false, true_or, or_true, ↓bI_01, ↓b01_0, ↓b01_1, bI_0, z00, z10, n4, n5, n2, n8, Nat.reduceMul, Nat.reduceAdd, Nat.reduceLT, Nat.reduceLeDiff, nI_eq, nI_leI, nI_ltI, Nat.reduceEqDiff, pk_div, nI_sub, Nat.reduceDiv, Nat.reduceSub, tm_8, q12]
  by_cases k2 : isD (y S) = true
  · have eK : tK y t p = 2 := by
      unfold tK
      rw [hS, if_neg k0, if_neg k1, if_pos k2]
    have q20 : ¬ (2 : Nat) = 0 := by decide
    have q21 : ¬ (2 : Nat) = 1 := by decide
    have q23 : ¬ (2 : Nat) = 3 := by decide
    have hn := ma_digs F G S (lN 0) o (.int (nI (y S))) d (by omega) Q (t - S) S (nI 0) (by omega) (Nat.le_refl S)
    rw [eK, hS, if_neg q20, if_neg q21, if_pos rfl, if_pos rfl, if_neg q21]
    simp -implicitDefEqProofs (disch := first | omega | (simp (disch := omega) only [nb_upr]; omega)) only [w_624_3, w_624_4, w_624_6, w_624_7, w_624_8, w_624_9, zi_0, zi_0n, zi_380, zi_381, zi_33, zi_377, zi_382, zi_383, zi_384, zi_3i, zi_3r, zi_48, zi_70, zi_40, zi_370, zi_96i, zi_96r, zi_96u, zi_96a, zi_88, zi_385, zi_31, zi_236, zi_386, zi_287, zi_387, zi_134, zi_51, zi_54, zi_237, zi_388, zi_264, zi_389, zi_375, zi_243, zi_390, zi_391, zi_392, zi_393, zi_305, zi_394, zi_395, zi_101, zi_130, zi_396, zi_397, zi_398, zi_245, zi_232, zi_277, zi_399, zi_255, zi_400, zi_251, zi_401, zi_304, zi_402, zi_403, zi_404, zi_140, zi_405, zi_79, zi_159, zi_406, zi_37, zi_407, zi_408, zi_41, hT_jW, hJ_jW, sJ_jW, F.t233, kC_eq, toL_s, toL_n, okS0, okS1, okS2, okS3, okS4, okS5, true_and, and_true, hT_wI, hL_wI, hR_wI, hI_wI, hJ_wI, sI_wI, rfP, isIA_100, isIA_120, inb_ok, nI_clamp, nI_add, nI_mul, ↓reduceIte, not_false_eq_true, not_true_eq_false, true_or, or_true, ↓bI_01, ↓b01_0, ↓b01_1, bI_0, z00, z10, n4, n5, n2, n8, Nat.reduceMul, Nat.reduceAdd, Nat.reduceLT, Nat.reduceLeDiff, nI_eq, nI_leI, nI_ltI, Nat.reduceEqDiff, pk_div, nI_sub, Nat.reduceDiv, Nat.reduceSub, tm_8, tm_9, tm_u8, tm_u10, tm_u12, e_byteAt (F.jW w) (G.tm _ _ _ _ _), bA_lt k0', pos, e_mL (y S) hy, k1, e_mD (y S) hy, k2, q21, q23, Bool.false_eq_true]
    rw [hn]
  · have eK : tK y t p = 3 := by
      unfold tK
      rw [hS, if_neg k0, if_neg k1, if_neg k2]
    have q30 : ¬ (3 : Nat) = 0 := by decide
    have q31 : ¬ (3 : Nat) = 1 := by decide
    have q32 : ¬ (3 : Nat) = 2 := by decide
    rw [eK, hS, if_neg q30, if_neg q31, if_neg q32, if_neg q32, if_neg q31]
    simp -implicitDefEqProofs (disch := first | omega | (simp (disch := omega) only [nb_upr]; omega)) only [w_624_3, w_624_4, w_624_5, w_624_6, w_624_7, w_624_8, w_624_9, w_624_12, w_624_15, zi_0, zi_0n, zi_380, zi_381, zi_33, zi_377, zi_382, zi_383, zi_384, zi_3i, zi_3r, zi_48, zi_70, zi_40, zi_370, zi_96i, zi_96r, zi_96u, zi_96a, zi_88, zi_385, zi_31, zi_236, zi_386, zi_287, zi_387, zi_134, zi_51, zi_54, zi_237, zi_388, zi_264, zi_389, zi_375, zi_243, zi_390, zi_391, zi_392, zi_393, zi_305, zi_394, zi_395, zi_101, zi_130, zi_396, zi_397, zi_398, zi_245, zi_232, zi_277, zi_399, zi_255, zi_400, zi_251, zi_401, zi_304, zi_402, zi_403, zi_404, zi_140, zi_405, zi_79, zi_159, zi_406, zi_37, zi_407, zi_408, zi_41, hT_jW, hJ_jW, sJ_jW, F.t233, kC_eq, toL_s, toL_n, okS0, okS1, okS2, okS3, okS4, okS5, true_and, and_true, hT_wI, hL_wI, hR_wI, hI_wI, hJ_wI, sI_wI, rfP, isIA_100, isIA_120, inb_ok, nI_clamp, nI_add, nI_mul, ↓reduceIte, not_false_eq_true, not_true_eq_false, true_or, or_true, ↓bI_01, ↓b01_0, ↓b01_1, bI_0, z00, z10, n4, n5, n2, n8, Nat.reduceMul, Nat.reduceAdd, Nat.reduceLT, Nat.reduceLeDiff, nI_eq, nI_leI, nI_ltI, Nat.reduceEqDiff, pk_div, nI_sub, Nat.reduceDiv, Nat.reduceSub, tm_8, tm_9, tm_10, tm_u8, tm_u10, tm_u12, e_byteAt (F.jW w) (G.tm _ _ _ _ _), bA_lt k0', pos, e_mL (y S) hy, k1, e_mD (y S) hy, k2, q31, q32, Bool.false_eq_true]
end
