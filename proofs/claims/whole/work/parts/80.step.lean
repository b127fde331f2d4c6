section
/-! the class's tape: a step, and what a token is held against -/
variable {n : Nat} {h : PH} {y : Nat → Nat} {t : Nat} {d : Nat} {g : Nat → Nat → Int32} {Q : Option Value → PH → Prop}
def tcS (g : Nat → Nat → Int32) (p s k v : Int32) : Nat → Nat → Int32 := fun a j => if a = 101 ∧ j = 3 then p else if a = 101 ∧ j = 2 then s else if a = 101 ∧ j = 4 then k else if a = 101 ∧ j = 5 then v else g a j
theorem tc_3 {p s k v : Int32} : tcS g p s k v 101 3 = p := if_pos ⟨rfl, rfl⟩
theorem tc_2 {p s k v : Int32} : tcS g p s k v 101 2 = s := by
  unfold tcS
  rw [if_neg (by omega), if_pos ⟨rfl, rfl⟩]
theorem tc_4 {p s k v : Int32} : tcS g p s k v 101 4 = k := by
  unfold tcS
  rw [if_neg (by omega), if_neg (by omega), if_pos ⟨rfl, rfl⟩]
theorem tc_5 {p s k v : Int32} : tcS g p s k v 101 5 = v := by
  unfold tcS
  rw [if_neg (by omega), if_neg (by omega), if_neg (by omega), if_pos ⟨rfl, rfl⟩]
theorem tc_o {p s k v : Int32} {a j : Nat} (ha : ¬ (a = 101 ∧ 2 ≤ j)) : tcS g p s k v a j = g a j := by
  unfold tcS
  rw [if_neg (by omega), if_neg (by omega), if_neg (by omega), if_neg (by omega)]
theorem tc_u3 {p s k v x : Int32} : up2 (tcS g p s k v) 101 3 x = tcS g x s k v := by
  funext a j
  unfold up2 tcS
  by_cases z : a = 101 ∧ j = 3
  · rw [if_pos z, if_pos z]
  · rw [if_neg z, if_neg z, if_neg z]
theorem tc_u2 {p s k v x : Int32} : up2 (tcS g p s k v) 101 2 x = tcS g p x k v := by
  funext a j
  unfold up2 tcS
  by_cases z : a = 101 ∧ j = 2
  · rw [if_pos z, if_neg (by omega), if_pos z]
  · rw [if_neg z, if_neg z, if_neg z]
theorem tc_u4 {p s k v x : Int32} : up2 (tcS g p s k v) 101 4 x = tcS g p s x v := by
  funext a j
  unfold up2 tcS
  by_cases z : a = 101 ∧ j = 4
  · rw [if_pos z, if_neg (by omega), if_neg (by omega), if_pos z]
  · rw [if_neg z, if_neg z, if_neg z]
theorem tc_u5 {p s k v x : Int32} : up2 (tcS g p s k v) 101 5 x = tcS g p s k x := by
  funext a j
  unfold up2 tcS
  by_cases z : a = 101 ∧ j = 5
  · rw [if_pos z, if_neg (by omega), if_neg (by omega), if_neg (by omega), if_pos z]
  · rw [if_neg z, if_neg z, if_neg z]
theorem tc_uo {p s k v x : Int32} {a j : Nat} (ha : ¬ a = 101) : up2 (tcS g p s k v) a j x = tcS (up2 g a j x) p s k v := by
  funext c i
  show (if c = a ∧ i = j then x else tcS g p s k v c i) = tcS (up2 g a j x) p s k v c i
  have eu : up2 g a j x c i = if c = a ∧ i = j then x else g c i := rfl
  unfold tcS
  rw [eu]
  by_cases z : c = a ∧ i = j
  · rw [if_pos z, if_neg (by omega), if_neg (by omega), if_neg (by omega), if_neg (by omega), if_pos z]
  · rw [if_neg z]
    by_cases z1 : c = 101 ∧ i = 3
    · rw [if_pos z1, if_pos z1]
    rw [if_neg z1, if_neg z1]
    by_cases z2 : c = 101 ∧ i = 2
    · rw [if_pos z2, if_pos z2]
    rw [if_neg z2, if_neg z2]
    by_cases z3 : c = 101 ∧ i = 4
    · rw [if_pos z3, if_pos z3]
    rw [if_neg z3, if_neg z3]
    by_cases z4 : c = 101 ∧ i = 5
    · rw [if_pos z4, if_pos z4]
    rw [if_neg z4, if_neg z4, if_neg z]
theorem tc_self : tcS g (g 101 3) (g 101 2) (g 101 4) (g 101 5) = g := by
  funext a j
  unfold tcS
  by_cases z1 : a = 101 ∧ j = 3
  · rw [if_pos z1, z1.1, z1.2]
  rw [if_neg z1]
  by_cases z2 : a = 101 ∧ j = 2
  · rw [if_pos z2, z2.1, z2.2]
  rw [if_neg z2]
  by_cases z3 : a = 101 ∧ j = 4
  · rw [if_pos z3, z3.1, z3.2]
  rw [if_neg z3]
  by_cases z4 : a = 101 ∧ j = 5
  · rw [if_pos z4, z4.1, z4.2]
  rw [if_neg z4]
/-- what is fed -/
def TG (y : Nat → Nat) (t : Nat) (g : Nat → Nat → Int32) : Prop := t ≤ 200 ∧ (∀ k, y k ≤ 255) ∧ g 101 1 = nI t ∧ ∀ k, k < t → g 102 k = nI (y k)
theorem e_cL (b : Nat) (hb : b ≤ 255) : Run d 1793 [.int (nI b)] h Q = Q (some (.int (bI (isL b = true)))) h := by
  by_cases h1 : 97 ≤ b
  · by_cases h2 : b ≤ 122
    · have e : isL b = true := isL_iff.mpr ⟨h1, h2⟩
      have g1 : ¬ b < 97 := by omega
      have g2 : ¬ 122 < b := by omega
      rw [bI_t e]
      simp -implicitDefEqProofs (disch := first | omega | (simp (disch := omega) only [nb_upr]; omega)) only [R_1793, w_1793_0, w_1793_1, w_1793_2, zi_87, zi_409, zi_89, zi_410, zi_369, zi_48, zi_112, zi_31, zi_113, zi_67w1, zi_67w2, kC_eq, toL_s, toL_n, okS0, okS1, okS2, okS3, okS4, okS5, true_and, and_true, hT_wI, hL_wI, hR_wI, hI_wI, hJ_wI, sI_wI, rfP, isIA_100, isIA_120, inb_ok, nI_clamp, nI_add, nI_mul, ↓reduceIte, not_false_eq_true, not_true_eq_false, true_or, or_true, ↓bI_01, ↓b01_0, ↓b01_1, bI_0, z00, z10, n4, n5, n2, n8, Nat.reduceMul, Nat.reduceAdd, Nat.reduceLT, Nat.reduceLeDiff, nI_eq, nI_leI, nI_ltI, Nat.reduceEqDiff, pk_div, nI_sub, Nat.reduceDiv, Nat.reduceSub, g1, g2]
    · have e : ¬ isL b = true := fun z => h2 (isL_iff.mp z).2
      have g1 : ¬ b < 97 := by omega
      have g2 : 122 < b := by omega
      rw [bI_f e]
      simp -implicitDefEqProofs (disch := first | omega | (simp (disch := omega) only [nb_upr]; omega)) only [R_1793, w_1793_0, w_1793_1, w_1793_2, zi_87, zi_409, zi_89, zi_410, zi_369, zi_48, zi_112, zi_31, zi_113, zi_67w1, zi_67w2, kC_eq, toL_s, toL_n, okS0, okS1, okS2, okS3, okS4, okS5, true_and, and_true, hT_wI, hL_wI, hR_wI, hI_wI, hJ_wI, sI_wI, rfP, isIA_100, isIA_120, inb_ok, nI_clamp, nI_add, nI_mul, ↓reduceIte, not_false_eq_true, not_true_eq_false, true_or, or_true, ↓bI_01, ↓b01_0, ↓b01_1, bI_0, z00, z10, n4, n5, n2, n8, Nat.reduceMul, Nat.reduceAdd, Nat.reduceLT, Nat.reduceLeDiff, nI_eq, nI_leI, nI_ltI, Nat.reduceEqDiff, pk_div, nI_sub, Nat.reduceDiv, Nat.reduceSub, g1, g2]
  · have e : ¬ isL b = true := fun z => h1 (isL_iff.mp z).1
    have g1 : b < 97 := by omega
    rw [bI_f e]
    simp -implicitDefEqProofs (disch := first | omega | (simp (disch := omega) only [nb_upr]; omega)) only [R_1793, w_1793_0, w_1793_1, w_1793_2, zi_87, zi_409, zi_89, zi_410, zi_369, zi_48, zi_112, zi_31, zi_113, zi_67w1, zi_67w2, kC_eq, toL_s, toL_n, okS0, okS1, okS2, okS3, okS4, okS5, true_and, and_true, hT_wI, hL_wI, hR_wI, hI_wI, hJ_wI, sI_wI, rfP, isIA_100, isIA_120, inb_ok, nI_clamp, nI_add, nI_mul, ↓reduceIte, not_false_eq_true, not_true_eq_false, true_or, or_true, ↓bI_01, ↓b01_0, ↓b01_1, bI_0, z00, z10, n4, n5, n2, n8, Nat.reduceMul, Nat.reduceAdd, Nat.reduceLT, Nat.reduceLeDiff, nI_eq, nI_leI, nI_ltI, Nat.reduceEqDiff, pk_div, nI_sub, Nat.reduceDiv, Nat.reduceSub, g1]
theorem e_cD (b : Nat) (hb : b ≤ 255) : Run d 1801 [.int (nI b)] h Q = Q (some (.int (bI (isD b = true)))) h := by
  by_cases h1 : 48 ≤ b
  · by_cases h2 : b ≤ 57
    · have e : isD b = true := isD_iff.mpr ⟨h1, h2⟩
      have g1 : ¬ b < 48 := by omega
      have g2 : ¬ 57 < b := by omega
      rw [bI_t e]
      simp -implicitDefEqProofs (disch := first | omega | (simp (disch := omega) only [nb_upr]; omega)) only [R_1801, w_1801_0, w_1801_1, w_1801_2, zi_87, zi_159, zi_89, zi_411, zi_369, zi_48, zi_112, zi_31, zi_113, zi_67w1, zi_67w2, kC_eq, toL_s, toL_n, okS0, okS1, okS2, okS3, okS4, okS5, true_and, and_true, hT_wI, hL_wI, hR_wI, hI_wI, hJ_wI, sI_wI, rfP, isIA_100, isIA_120, inb_ok, nI_clamp, nI_add, nI_mul, ↓reduceIte, not_false_eq_true, not_true_eq_false, true_or, or_true, ↓bI_01, ↓b01_0, ↓b01_1, bI_0, z00, z10, n4, n5, n2, n8, Nat.reduceMul, Nat.reduceAdd, Nat.reduceLT, Nat.reduceLeDiff, nI_eq, nI_leI, nI_ltI, Nat.reduceEqDiff, pk_div, nI_sub, Nat.reduceDiv, Nat.reduceSub, g1, g2]
    · have e : ¬ isD b = true := fun z => h2 (isD_iff.mp z).2
      have g1 : ¬ b < 48 := by omega
      have g2 : 57 < b := by omega
      rw [bI_f e]
      simp -implicitDefEqProofs (disch := first | omega | (simp (disch := omega) only [nb_upr]; omega)) only [R_1801, w_1801_0, w_1801_1, w_1801_2, zi_87, zi_159, zi_89, zi_411, zi_369, zi_48, zi_112, zi_31, zi_113, zi_67w1, zi_67w2, kC_eq, toL_s, toL_n, okS0, okS1, okS2, okS3, okS4, okS5, true_and, and_true, hT_wI, hL_wI, hR_wI, hI_wI, hJ_wI, sI_wI, rfP, isIA_100, isIA_120, inb_ok, nI_clamp, nI_add, nI_mul, ↓reduceIte, not_false_eq_true, not_true_eq_false, true_or, or_true, ↓bI_01, ↓b01_0, ↓b01_1, bI_0, z00, z10, n4, n5, n2, n8, Nat.reduceMul, Nat.reduceAdd, Nat.reduceLT, Nat.reduceLeDiff, nI_eq, nI_leI, nI_ltI, Nat.reduceEqDiff, pk_div, nI_sub, Nat.reduceDiv, Nat.reduceSub, g1, g2]
  · have e : ¬ isD b = true := fun z => h1 (isD_iff.mp z).1
    have g1 : b < 48 := by omega
    rw [bI_f e]
    simp -implicitDefEqProofs (disch := first | omega | (simp (disch := omega) only [nb_upr]; omega)) only [R_1801, w_1801_0, w_1801_1, w_1801_2, zi_87, zi_159, zi_89, zi_411, zi_369, zi_48, zi_112, zi_31, zi_113, zi_67w1, zi_67w2, kC_eq, toL_s, toL_n, okS0, okS1, okS2, okS3, okS4, okS5, true_and, and_true, hT_wI, hL_wI, hR_wI, hI_wI, hJ_wI, sI_wI, rfP, isIA_100, isIA_120, inb_ok, nI_clamp, nI_add, nI_mul, ↓reduceIte, not_false_eq_true, not_true_eq_false, true_or, or_true, ↓bI_01, ↓b01_0, ↓b01_1, bI_0, z00, z10, n4, n5, n2, n8, Nat.reduceMul, Nat.reduceAdd, Nat.reduceLT, Nat.reduceLeDiff, nI_eq, nI_leI, nI_ltI, Nat.reduceEqDiff, pk_div, nI_sub, Nat.reduceDiv, Nat.reduceSub, g1]
theorem cs_skip (F : FR h) (G : TG y t g) (s k v : Int32) (d : Nat) (Q : Option Value → PH → Prop) :
    ∀ (j p : Nat), p + j = t → WP d 1784 0 [.ref 101] [] (wI h (tcS g (nI p) s k v)) Q = WP d 1784 1 [.ref 101] [] (wI h (tcS g (nI (skJ y j p)) s k v)) Q := by
  obtain ⟨g1, g2, g3, g4⟩ := G
  intro j
  induction j with
  | zero =>
    intro p hp
    obtain rfl : p = t := by omega
    rw [w_1784_0]
    simp -implicitDefEqProofs (disch := first | omega | (simp (disch := omega) only [nb_upr]; omega)) only [zi_0, zi_0n, zi_629, zi_69, zi_186, zi_624, zi_106, zi_383, zi_431, zi_3i, zi_3r, zi_48, zi_70, zi_625, zi_630, zi_631, zi_187, zi_31, zi_632, zi_304, zi_633, zi_287, zi_75, zi_522, zi_313, zi_86, zi_634, zi_325, zi_51, zi_636, zi_206, zi_100, zi_101, zi_54, zi_195, zi_637, zi_140, zi_79, zi_159, zi_213, zi_37, zi_214, zi_224, zi_305, zi_41, F.t101, kC_eq, toL_s, toL_n, okS0, okS1, okS2, okS3, okS4, okS5, true_and, and_true, hT_wI, hL_wI, hR_wI, hI_wI, hJ_wI, sI_wI, rfP, isIA_100, isIA_120, inb_ok, nI_clamp, nI_add, nI_mul, ↓reduceIte, not_false_eq_true, not_true_eq_false, true_or, or_true, ↓bI_01, ↓b01_0, ↓b01_1, bI_0, z00, z10, n4, n5, n2, n8, Nat.reduceMul, Nat.reduceAdd, Nat.reduceLT, Nat.reduceLeDiff, nI_eq, nI_leI, nI_ltI, Nat.reduceEqDiff, pk_div, nI_sub, Nat.reduceDiv, Nat.reduceSub, Nat.le_refl, tc_3, tc_o, g3]
    rfl
  | succ j ih0 =>
    intro p hp
    have g : ¬ t ≤ p := by omega
    have hy := g2 p
    have e : skJ y (j + 1) p = if y p = 32 then skJ y j (p + 1) else p := rfl
    rw [e, w_1784_0]
    by_cases z : y p = 32
    · rw [if_pos z, ← ih0 (p + 1) (by omega)]
      simp -implicitDefEqProofs (disch := first | omega | (simp (disch := omega) only [nb_upr]; omega)) only [zi_0, zi_0n, zi_629, zi_69, zi_186, zi_624, zi_106, zi_383, zi_431, zi_3i, zi_3r, zi_48, zi_70, zi_625, zi_630, zi_631, zi_187, zi_31, zi_632, zi_304, zi_633, zi_287, zi_75, zi_522, zi_313, zi_86, zi_634, zi_325, zi_51, zi_636, zi_206, zi_100, zi_101, zi_54, zi_195, zi_637, zi_140, zi_79, zi_159, zi_213, zi_37, zi_214, zi_224, zi_305, zi_41, F.t101, F.r101_0, F.t102, F.l102, kC_eq, toL_s, toL_n, okS0, okS1, okS2, okS3, okS4, okS5, true_and, and_true, hT_wI, hL_wI, hR_wI, hI_wI, hJ_wI, sI_wI, rfP, isIA_100, isIA_120, inb_ok, nI_clamp, nI_add, nI_mul, ↓reduceIte, not_false_eq_true, not_true_eq_false, true_or, or_true, ↓bI_01, ↓b01_0, ↓b01_1, bI_0, z00, z10, n4, n5, n2, n8, Nat.reduceMul, Nat.reduceAdd, Nat.reduceLT, Nat.reduceLeDiff, nI_eq, nI_leI, nI_ltI, Nat.reduceEqDiff, pk_div, nI_sub, Nat.reduceDiv, Nat.reduceSub, g, tc_3, tc_o, tc_u3, g3, g4 p (by omega), z]
    · rw [if_neg z]
      simp -implicitDefEqProofs (disch := first | omega | (simp (disch := omega) only [nb_upr]; omega)) only [zi_0, zi_0n, zi_629, zi_69, zi_186, zi_624, zi_106, zi_383, zi_431, zi_3i, zi_3r, zi_48, zi_70, zi_625, zi_630, zi_631, zi_187, zi_31, zi_632, zi_304, zi_633, zi_287, zi_75, zi_522, zi_313, zi_86, zi_634, zi_325, zi_51, zi_636, zi_206, zi_100, zi_101, zi_54, zi_195, zi_637, zi_140, zi_79, zi_159, zi_213, zi_37, zi_214, zi_224, zi_305, zi_41, F.t101, F.r101_0, F.t102, F.l102, kC_eq, toL_s, toL_n, okS0, okS1, okS2, okS3, okS4, okS5, true_and, and_true, hT_wI, hL_wI, hR_wI, hI_wI, hJ_wI, sI_wI, rfP, isIA_100, isIA_120, inb_ok, nI_clamp, nI_add, nI_mul, ↓reduceIte, not_false_eq_true, not_true_eq_false, true_or, or_true, ↓bI_01, ↓b01_0, ↓b01_1, bI_0, z00, z10, n4, n5, n2, n8, Nat.reduceMul, Nat.reduceAdd, Nat.reduceLT, Nat.reduceLeDiff, nI_eq, nI_leI, nI_ltI, Nat.reduceEqDiff, pk_div, nI_sub, Nat.reduceDiv, Nat.reduceSub, g, tc_3, tc_o, tc_u3, g3, g4 p (by omega), z]
theorem cs_name (F : FR h) (G : TG y t g) (s k v : Int32) (d : Nat) (hd : 1 ≤ d) (Q : Option Value → PH → Prop) :
    ∀ (j p : Nat), p + j = t → WP d 1784 3 [.ref 101] [] (wI h (tcS g (nI p) s k v)) Q = WP d 1784 9 [.ref 101] [] (wI h (tcS g (nI (leJ y j p)) s k v)) Q := by
  obtain ⟨g1, g2, g3, g4⟩ := G
  intro j
  induction j with
  | zero =>
    intro p hp
    obtain rfl : p = t := by omega
    rw [w_1784_3]
    simp -implicitDefEqProofs (disch := first | omega | (simp (disch := omega) only [nb_upr]; omega)) only [zi_0, zi_0n, zi_629, zi_69, zi_186, zi_624, zi_106, zi_383, zi_431, zi_3i, zi_3r, zi_48, zi_70, zi_625, zi_630, zi_631, zi_187, zi_31, zi_632, zi_304, zi_633, zi_287, zi_75, zi_522, zi_313, zi_86, zi_634, zi_325, zi_51, zi_636, zi_206, zi_100, zi_101, zi_54, zi_195, zi_637, zi_140, zi_79, zi_159, zi_213, zi_37, zi_214, zi_224, zi_305, zi_41, F.t101, kC_eq, toL_s, toL_n, okS0, okS1, okS2, okS3, okS4, okS5, true_and, and_true, hT_wI, hL_wI, hR_wI, hI_wI, hJ_wI, sI_wI, rfP, isIA_100, isIA_120, inb_ok, nI_clamp, nI_add, nI_mul, ↓reduceIte, not_false_eq_true, not_true_eq_false, true_or, or_true, ↓bI_01, ↓b01_0, ↓b01_1, bI_0, z00, z10, n4, n5, n2, n8, Nat.reduceMul, Nat.reduceAdd, Nat.reduceLT, Nat.reduceLeDiff, nI_eq, nI_leI, nI_ltI, Nat.reduceEqDiff, pk_div, nI_sub, Nat.reduceDiv, Nat.reduceSub, Nat.le_refl, tc_3, tc_o, g3]
    rfl
  | succ j ih0 =>
    intro p hp
    have g : ¬ t ≤ p := by omega
    have hy := g2 p
    have e : leJ y (j + 1) p = if isL (y p) = true then leJ y j (p + 1) else p := rfl
    rw [e, w_1784_3]
    by_cases z : isL (y p) = true
    · rw [if_pos z, ← ih0 (p + 1) (by omega)]
      simp -implicitDefEqProofs (disch := first | omega | (simp (disch := omega) only [nb_upr]; omega)) only [zi_0, zi_0n, zi_629, zi_69, zi_186, zi_624, zi_106, zi_383, zi_431, zi_3i, zi_3r, zi_48, zi_70, zi_625, zi_630, zi_631, zi_187, zi_31, zi_632, zi_304, zi_633, zi_287, zi_75, zi_522, zi_313, zi_86, zi_634, zi_325, zi_51, zi_636, zi_206, zi_100, zi_101, zi_54, zi_195, zi_637, zi_140, zi_79, zi_159, zi_213, zi_37, zi_214, zi_224, zi_305, zi_41, F.t101, F.r101_0, F.t102, F.l102, kC_eq, toL_s, toL_n, okS0, okS1, okS2, okS3, okS4, okS5, true_and, and_true, hT_wI, hL_wI, hR_wI, hI_wI, hJ_wI, sI_wI, rfP, isIA_100, isIA_120, inb_ok, nI_clamp, nI_add, nI_mul, ↓reduceIte, not_false_eq_true, not_true_eq_false, true_or, or_true, ↓bI_01, ↓b01_0, ↓b01_1, bI_0, z00, z10, n4, n5, n2, n8, Nat.reduceMul, Nat.reduceAdd, Nat.reduceLT, Nat.reduceLeDiff, nI_eq, nI_leI, nI_ltI, Nat.reduceEqDiff, pk_div, nI_sub, Nat.reduceDiv, Nat.reduceSub, g, tc_3, tc_o, tc_u3, g3, g4 p (by omega), e_cL (y p) hy, z, Bool.false_eq_true]
    · rw [if_neg z]
      simp -implicitDefEqProofs (disch := first | omega | (simp (disch := omega) only [nb_upr]; omega)) only [zi_0, zi_0n, zi_629, zi_69, zi_186, zi_624, zi_106, zi_383, zi_431, zi_3i, zi_3r, zi_48, zi_70, zi_625, zi_630, zi_631, zi_187, zi_31, zi_632, zi_304, zi_633, zi_287, zi_75, zi_522, zi_313, zi_86, zi_634, zi_325, zi_51, zi_636, zi_206, zi_100, zi_101, zi_54, zi_195, zi_637, zi_140, zi_79, zi_159, zi_213, zi_37, zi_214, zi_224, zi_305, zi_41, F.t101, F.r101_0, F.t102, F.l102, kC_eq, toL_s, toL_n, okS0, okS1, okS2, okS3, okS4, okS5, true_and, and_true, hT_wI, hL_wI, hR_wI, hI_wI, hJ_wI, sI_wI, rfP, isIA_100, isIA_120, inb_ok, nI_clamp, nI_add, nI_mul, ↓reduceIte, not_false_eq_true, not_true_eq_false, true_or, or_true, ↓bI_01, ↓b01_0, ↓b01_1, bI_0, z00, z10, n4, n5, n2, n8, Nat.reduceMul, Nat.reduceAdd, Nat.reduceLT, Nat.reduceLeDiff, nI_eq, nI_leI, nI_ltI, Nat.reduceEqDiff, pk_div, nI_sub, Nat.reduceDiv, Nat.reduceSub, g, tc_3, tc_o, tc_u3, g3, g4 p (by omega), e_cL (y p) hy, z, Bool.false_eq_true]
theorem cs_digs (F : FR h) (G : TG y t g) (s : Nat) (k : Int32) (d : Nat) (hd : 1 ≤ d) (Q : Option Value → PH → Prop) :
    ∀ (j p : Nat) (v : Int32), p + j = t → s ≤ p → WP d 1784 5 [.ref 101] [] (wI h (tcS g (nI p) (nI s) k v)) Q = WP d 1784 9 [.ref 101] [] (wI h (tcS g (nI (deJ y j p)) (nI s) k (vlJ y s j p v))) Q := by
  obtain ⟨g1, g2, g3, g4⟩ := G
  intro j
  induction j with
  | zero =>
    intro p v hp hs
    obtain rfl : p = t := by omega
    rw [w_1784_5]
    simp -implicitDefEqProofs (disch := first | omega | (simp (disch := omega) only [nb_upr]; omega)) only [zi_0, zi_0n, zi_629, zi_69, zi_186, zi_624, zi_106, zi_383, zi_431, zi_3i, zi_3r, zi_48, zi_70, zi_625, zi_630, zi_631, zi_187, zi_31, zi_632, zi_304, zi_633, zi_287, zi_75, zi_522, zi_313, zi_86, zi_634, zi_325, zi_51, zi_636, zi_206, zi_100, zi_101, zi_54, zi_195, zi_637, zi_140, zi_79, zi_159, zi_213, zi_37, zi_214, zi_224, zi_305, zi_41, F.t101, kC_eq, toL_s, toL_n, okS0, okS1, okS2, okS3, okS4, okS5, true_and, and_true, hT_wI, hL_wI, hR_wI, hI_wI, hJ_wI, sI_wI, rfP, isIA_100, isIA_120, inb_ok, nI_clamp, nI_add, nI_mul, ↓reduceIte, not_false_eq_true, not_true_eq_false, true_or, or_true, ↓bI_01, ↓b01_0, ↓b01_1, bI_0, z00, z10, n4, n5, n2, n8, Nat.reduceMul, Nat.reduceAdd, Nat.reduceLT, Nat.reduceLeDiff, nI_eq, nI_leI, nI_ltI, Nat.reduceEqDiff, pk_div, nI_sub, Nat.reduceDiv, Nat.reduceSub, Nat.le_refl, tc_3, tc_o, g3]
    rfl
  | succ j ih0 =>
    intro p v hp hs
    have g : ¬ t ≤ p := by omega
    have hy := g2 p
    have e : deJ y (j + 1) p = if isD (y p) = true then deJ y j (p + 1) else p := rfl
    have ev : vlJ y s (j + 1) p v = if isD (y p) = true then vlJ y s j (p + 1) (if p - s < 3 then v * nI 10 + nI (y p) - nI 48 else Int32.ofInt (-1)) else v := rfl
    rw [e, ev, w_1784_5]
    by_cases z : isD (y p) = true
    · rw [if_pos z, if_pos z]
      by_cases z3 : p - s < 3
      · have z3' : ¬ 3 ≤ p - s := by omega
        rw [if_pos z3, ← ih0 (p + 1) _ (by omega) (by omega)]
        simp -implicitDefEqProofs (disch := first | omega | (simp (disch := omega) only [nb_upr]; omega)) only [w_1784_6, w_1784_7, zi_0, zi_0n, zi_629, zi_69, zi_186, zi_624, zi_106, zi_383, zi_431, zi_3i, zi_3r, zi_48, zi_70, zi_625, zi_630, zi_631, zi_187, zi_31, zi_632, zi_304, zi_633, zi_287, zi_75, zi_522, zi_313, zi_86, zi_634, zi_325, zi_51, zi_636, zi_206, zi_100, zi_101, zi_54, zi_195, zi_637, zi_140, zi_79, zi_159, zi_213, zi_37, zi_214, zi_224, zi_305, zi_41, F.t101, F.r101_0, F.t102, F.l102, kC_eq, toL_s, toL_n, okS0, okS1, okS2, okS3, okS4, okS5, true_and, and_true, hT_wI, hL_wI, hR_wI, hI_wI, hJ_wI, sI_wI, rfP, isIA_100, isIA_120, inb_ok, nI_clamp, nI_add, nI_mul, ↓reduceIte, not_false_eq_true, not_true_eq_false, true_or, or_true, ↓bI_01, ↓b01_0, ↓b01_1, bI_0, z00, z10, n4, n5, n2, n8, Nat.reduceMul, Nat.reduceAdd, Nat.reduceLT, Nat.reduceLeDiff, nI_eq, nI_leI, nI_ltI, Nat.reduceEqDiff, pk_div, nI_sub, Nat.reduceDiv, Nat.reduceSub, g, tc_3, tc_2, tc_5, tc_o, tc_u3, tc_u5, g3, g4 p (by omega), e_cD (y p) hy, z, z3', Bool.false_eq_true]
      · have z3' : 3 ≤ p - s := by omega
        rw [if_neg z3, ← ih0 (p + 1) _ (by omega) (by omega)]
        simp -implicitDefEqProofs (disch := first | omega | (simp (disch := omega) only [nb_upr]; omega)) only [w_1784_6, w_1784_7, zi_0, zi_0n, zi_629, zi_69, zi_186, zi_624, zi_106, zi_383, zi_431, zi_3i, zi_3r, zi_48, zi_70, zi_625, zi_630, zi_631, zi_187, zi_31, zi_632, zi_304, zi_633, zi_287, zi_75, zi_522, zi_313, zi_86, zi_634, zi_325, zi_51, zi_636, zi_206, zi_100, zi_101, zi_54, zi_195, zi_637, zi_140, zi_79, zi_159, zi_213, zi_37, zi_214, zi_224, zi_305, zi_41, F.t101, F.r101_0, F.t102, F.l102, kC_eq, toL_s, toL_n, okS0, okS1, okS2, okS3, okS4, okS5, true_and, and_true, hT_wI, hL_wI, hR_wI, hI_wI, hJ_wI, sI_wI, rfP, isIA_100, isIA_120, inb_ok, nI_clamp, nI_add, nI_mul, ↓reduceIte, not_false_eq_true, not_true_eq_false, true_or, or_true, ↓bI_01, ↓b01_0, ↓b01_1, bI_0, z00, z10, n4, n5, n2, n8, Nat.reduceMul, Nat.reduceAdd, Nat.reduceLT, Nat.reduceLeDiff, nI_eq, nI_leI, nI_ltI, Nat.reduceEqDiff, pk_div, nI_sub, Nat.reduceDiv, Nat.reduceSub, g, tc_3, tc_2, tc_5, tc_o, tc_u3, tc_u5, g3, g4 p (by omega), e_cD (y p) hy, z, z3', Bool.false_eq_true]
    · rw [if_neg z, if_neg z]
      simp -implicitDefEqProofs (disch := first | omega | (simp (disch := omega) only [nb_upr]; omega)) only [zi_0, zi_0n, zi_629, zi_69, zi_186, zi_624, zi_106, zi_383, zi_431, zi_3i, zi_3r, zi_48, zi_70, zi_625, zi_630, zi_631, zi_187, zi_31, zi_632, zi_304, zi_633, zi_287, zi_75, zi_522, zi_313, zi_86, zi_634, zi_325, zi_51, zi_636, zi_206, zi_100, zi_101, zi_54, zi_195, zi_637, zi_140, zi_79, zi_159, zi_213, zi_37, zi_214, zi_224, zi_305, zi_41, F.t101, F.r101_0, F.t102, F.l102, kC_eq, toL_s, toL_n, okS0, okS1, okS2, okS3, okS4, okS5, true_and, and_true, hT_wI, hL_wI, hR_wI, hI_wI, hJ_wI, sI_wI, rfP, isIA_100, isIA_120, inb_ok, nI_clamp, nI_add, nI_mul, ↓reduceIte, not_false_eq_true, not_true_eq_false, true_or, or_true, ↓bI_01, ↓b01_0, ↓b01_1, bI_0, z00, z10, n4, n5, n2, n8, Nat.reduceMul, Nat.reduceAdd, Nat.reduceLT, Nat.reduceLeDiff, nI_eq, nI_leI, nI_ltI, Nat.reduceEqDiff, pk_div, nI_sub, Nat.reduceDiv, Nat.reduceSub, g, tc_3, tc_o, tc_u3, g3, g4 p (by omega), e_cD (y p) hy, z, Bool.false_eq_true]
/-- the value behind a step -/
def tVV (y : Nat → Nat) (t p : Nat) (v : Int32) : Int32 := if tK y t p = 2 then tV y t p else v
theorem e_step (F : FR h) (G : TG y t g) (p : Nat) (hp : p ≤ t) (s k v : Int32) (d : Nat) (hd : 2 ≤ d) (Q : Option Value → PH → Prop) : Run d 1784 [.ref 101] (wI h (tcS g (nI p) s k v)) Q = Q none (wI h (tcS g (nI (tE y t p)) (nI (tS y t p)) (nI (tK y t p)) (tVV y t p v))) := by
  have hs := cs_skip F G s k v d Q (t - p) p (by omega)
  have hb := tS_b (y := y) hp
  obtain ⟨g1, g2, g3, g4⟩ := id G
  have e : skJ y (t - p) p = tS y t p := rfl
  rw [e] at hs
  rw [R_1784, hs, w_1784_1]
  obtain ⟨S, hS⟩ : ∃ S, tS y t p = S := ⟨_, rfl⟩
  have hy := g2 S
  unfold tVV tE tV
  by_cases k0 : t ≤ S
  · have eK : tK y t p = 0 := tK_0.mpr (by rw [hS]; exact k0)
    have k0' : ¬ S < t := by omega
    have q02 : ¬ (0 : Nat) = 2 := by decide
    rw [eK, hS, if_pos rfl, if_neg q02]
    simp -implicitDefEqProofs (disch := first | omega | (simp (disch := omega) only [nb_upr]; omega)) only [w_1784_9, zi_0, zi_0n, zi_629, zi_69, zi_186, zi_624, zi_106, zi_383, zi_431, zi_3i, zi_3r, zi_48, zi_70, zi_625, zi_630, zi_631, zi_187, zi_31, zi_632, zi_304, zi_633, zi_287, zi_75, zi_522, zi_313, zi_86, zi_634, zi_325, zi_51, zi_636, zi_206, zi_100, zi_101, zi_54, zi_195, zi_637, zi_140, zi_79, zi_159, zi_213, zi_37, zi_214, zi_224, zi_305, zi_41, F.t101, kC_eq, toL_s, toL_n, okS0, okS1, okS2, okS3, okS4, okS5, true_and, and_true, hT_wI, hL_wI, hR_wI, hI_wI, hJ_wI, sI_wI, rfP, isIA_100, isIA_120, inb_ok, nI_clamp, nI_add, nI_mul, ↓reduceIte, not_false_eq_true, not_true_eq_false, true_or, or_true, ↓bI_01, ↓b01_0, ↓b01_1, bI_0, z00, z10, n4, n5, n2, n8, Nat.reduceMul, Nat.reduceAdd, Nat.reduceLT, Nat.reduceLeDiff, nI_eq, nI_leI, nI_ltI, Nat.reduceEqDiff, pk_div, nI_sub, Nat.reduceDiv, Nat.reduceSub, tc_3, tc_o, tc_u2, tc_u4, g3, k0']
  have k0' : S < t := by omega
  by_cases k1 : isL (y S) = true
  · have eK : tK y t p = 1 := tK_1.mpr (by rw [hS]; exact ⟨k0', k1⟩)
    have q10 : ¬ (1 : Nat) = 0 := by decide
    have q12 : ¬ (1 : Nat) = 2 := by decide
    have hn := cs_name F G (nI S) (nI 1) v d (by omega) Q (t - S) S (by omega)
    rw [eK, hS, if_neg q10, if_pos rfl, if_neg q12]
    simp -implicitDefEqProofs (disch := first | omega | (simp (disch := omega) only [nb_upr]; omega)) only [w_1784_2, zi_0, zi_0n, zi_629, zi_69, zi_186, zi_624, zi_106, zi_383, zi_431, zi_3i, zi_3r, zi_48, zi_70, zi_625, zi_630, zi_631, zi_187, zi_31, zi_632, zi_304, zi_633, zi_287, zi_75, zi_522, zi_313, zi_86, zi_634, zi_325, zi_51, zi_636, zi_206, zi_100, zi_101, zi_54, zi_195, zi_637, zi_140, zi_79, zi_159, zi_213, zi_37, zi_214, zi_224, zi_305, zi_41, F.t101, F.r101_0, F.t102, F.l102, kC_eq, toL_s, toL_n, okS0, okS1, okS2, okS3, okS4, okS5, true_and, and_true, hT_wI, hL_wI, hR_wI, hI_wI, hJ_wI, sI_wI, rfP, isIA_100, isIA_120, inb_ok, nI_clamp, nI_add, nI_mul, ↓reduceIte, not_false_eq_true, not_true_eq_false, true_or, or_true, ↓bI_01, ↓b01_0, ↓b01_1, bI_0, z00, z10, n4, n5, n2, n8, Nat.reduceMul, Nat.reduceAdd, Nat.reduceLT, Nat.reduceLeDiff, nI_eq, nI_leI, nI_ltI, Nat.reduceEqDiff, pk_div, nI_sub, Nat.reduceDiv, Nat.reduceSub, tc_3, tc_o, tc_u2, tc_u4, g3, g4 S k0', k0', e_cL (y S) hy, k1, Bool.false_eq_true]
    rw [hn]
    simp -implicitDefEqProofs (disch := first | omega | (simp (disch := omega) only [nb_upr]; omega)) only [w_1784_9, zi_0, zi_0n, zi_629, zi_69, zi_186, zi_624, zi_106, zi_383, zi_431, zi_3i, zi_3r, zi_48, zi_70, zi_625, zi_630, zi_631, zi_187, zi_31, zi_632, zi_304, zi_633, zi_287, zi_75, zi_522, zi_313, zi_86, zi_634, zi_325, zi_51, zi_636, zi_206, zi_100, zi_101, zi_54, zi_195, zi_637, zi_140, zi_79, zi_159, zi_213, zi_37, zi_214, zi_224, zi_305, zi_41, kC_eq, toL_s, toL_n, okS0, okS1, okS2, okS3, okS4, okS5, true_and, and_true, hT_wI, hL_wI, hR_wI, hI_wI, hJ_wI, sI_wI, rfP, isIA_100, isIA_120, inb_ok, nI_clamp, nI_add, nI_mul, ↓reduceIte, not_false_eq_true, not_true_eq_false, true_or, or_true, ↓bI_01, ↓b01_0, ↓b01_1, bI_0, z00, z10, n4, n5, n2, n8, Nat.reduceMul, Nat.reduceAdd, Nat.reduceLT, Nat.reduceLeDiff]
  by_cases k2 : isD (y S) = true
  · have eK : tK y t p = 2 := by
      unfold tK
      rw [hS, if_neg k0, if_neg k1, if_pos k2]
    have q20 : ¬ (2 : Nat) = 0 := by decide
    have q21 : ¬ (2 : Nat) = 1 := by decide
    rw [eK, hS, if_neg q20, if_neg q21, if_pos rfl, if_pos rfl]
    have hn := cs_digs F G S (nI 2) d (by omega) Q (t - S) S (nI 0) (by omega) (Nat.le_refl S)
    simp -implicitDefEqProofs (disch := first | omega | (simp (disch := omega) only [nb_upr]; omega)) only [w_1784_2, w_1784_4, zi_0, zi_0n, zi_629, zi_69, zi_186, zi_624, zi_106, zi_383, zi_431, zi_3i, zi_3r, zi_48, zi_70, zi_625, zi_630, zi_631, zi_187, zi_31, zi_632, zi_304, zi_633, zi_287, zi_75, zi_522, zi_313, zi_86, zi_634, zi_325, zi_51, zi_636, zi_206, zi_100, zi_101, zi_54, zi_195, zi_637, zi_140, zi_79, zi_159, zi_213, zi_37, zi_214, zi_224, zi_305, zi_41, F.t101, F.r101_0, F.t102, F.l102, kC_eq, toL_s, toL_n, okS0, okS1, okS2, okS3, okS4, okS5, true_and, and_true, hT_wI, hL_wI, hR_wI, hI_wI, hJ_wI, sI_wI, rfP, isIA_100, isIA_120, inb_ok, nI_clamp, nI_add, nI_mul, ↓reduceIte, not_false_eq_true, not_true_eq_false, true_or, or_true, ↓bI_01, ↓b01_0, ↓b01_1, bI_0, z00, z10, n4, n5, n2, n8, Nat.reduceMul, Nat.reduceAdd, Nat.reduceLT, Nat.reduceLeDiff, nI_eq, nI_leI, nI_ltI, Nat.reduceEqDiff, pk_div, nI_sub, Nat.reduceDiv, Nat.reduceSub, tc_3, tc_o, tc_u2, tc_u4, tc_u5, g3, g4 S k0', k0', e_cL (y S) hy, k1, e_cD (y S) hy, k2, Bool.false_eq_true]
    rw [hn]
    simp -implicitDefEqProofs (disch := first | omega | (simp (disch := omega) only [nb_upr]; omega)) only [w_1784_9, zi_0, zi_0n, zi_629, zi_69, zi_186, zi_624, zi_106, zi_383, zi_431, zi_3i, zi_3r, zi_48, zi_70, zi_625, zi_630, zi_631, zi_187, zi_31, zi_632, zi_304, zi_633, zi_287, zi_75, zi_522, zi_313, zi_86, zi_634, zi_325, zi_51, zi_636, zi_206, zi_100, zi_101, zi_54, zi_195, zi_637, zi_140, zi_79, zi_159, zi_213, zi_37, zi_214, zi_224, zi_305, zi_41, kC_eq, toL_s, toL_n, okS0, okS1, okS2, okS3, okS4, okS5, true_and, and_true, hT_wI, hL_wI, hR_wI, hI_wI, hJ_wI, sI_wI, rfP, isIA_100, isIA_120, inb_ok, nI_clamp, nI_add, nI_mul, ↓reduceIte, not_false_eq_true, not_true_eq_false, true_or, or_true, ↓bI_01, ↓b01_0, ↓b01_1, bI_0, z00, z10, n4, n5, n2, n8, Nat.reduceMul, Nat.reduceAdd, Nat.reduceLT, Nat.reduceLeDiff]
  · have eK : tK y t p = 3 := by
      unfold tK
      rw [hS, if_neg k0, if_neg k1, if_neg k2]
    have q30 : ¬ (3 : Nat) = 0 := by decide
    have q31 : ¬ (3 : Nat) = 1 := by decide
    have q32 : ¬ (3 : Nat) = 2 := by decide
    rw [eK, hS, if_neg q30, if_neg q31, if_neg q32, if_neg q32]
    simp -implicitDefEqProofs (disch := first | omega | (simp (disch := omega) only [nb_upr]; omega)) only [w_1784_2, w_1784_4, w_1784_8, w_1784_9, zi_0, zi_0n, zi_629, zi_69, zi_186, zi_624, zi_106, zi_383, zi_431, zi_3i, zi_3r, zi_48, zi_70, zi_625, zi_630, zi_631, zi_187, zi_31, zi_632, zi_304, zi_633, zi_287, zi_75, zi_522, zi_313, zi_86, zi_634, zi_325, zi_51, zi_636, zi_206, zi_100, zi_101, zi_54, zi_195, zi_637, zi_140, zi_79, zi_159, zi_213, zi_37, zi_214, zi_224, zi_305, zi_41, F.t101, F.r101_0, F.t102, F.l102, kC_eq, toL_s, toL_n, okS0, okS1, okS2, okS3, okS4, okS5, true_and, and_true, hT_wI, hL_wI, hR_wI, hI_wI, hJ_wI, sI_wI, rfP, isIA_100, isIA_120, inb_ok, nI_clamp, nI_add, nI_mul, ↓reduceIte, not_false_eq_true, not_true_eq_false, true_or, or_true, ↓bI_01, ↓b01_0, ↓b01_1, bI_0, z00, z10, n4, n5, n2, n8, Nat.reduceMul, Nat.reduceAdd, Nat.reduceLT, Nat.reduceLeDiff, nI_eq, nI_leI, nI_ltI, Nat.reduceEqDiff, pk_div, nI_sub, Nat.reduceDiv, Nat.reduceSub, tc_3, tc_o, tc_u2, tc_u3, tc_u4, g3, g4 S k0', k0', e_cL (y S) hy, k1, e_cD (y S) hy, k2, Bool.false_eq_true]
/-- the texts -/
def TX (h : PH) (g : Nat → Nat → Int32) : Prop := ∀ k, 10 ≤ k → k < 28 → hT h k = 130 ∧ hL h k = (WT k).length ∧ ∀ j, j < (WT k).length → g k j = nI ((WT k).getD j 0)
theorem cs_word (F : FR h) (G : TG y t g) (X : TX h g) (k : Nat) (k1 : 10 ≤ k) (k2 : k < 28) (p c v : Int32) (S : Nat) (hS : S + (WT k).length ≤ t) (d : Nat) (Q : Option Value → PH → Prop) :
    ∀ (j i : Nat), i + j = (WT k).length → WP d 1833 3 [.ref 101, .ref k, .int (nI i)] [] (wI h (tcS g p (nI S) c v)) Q = Q (some (.int (bI (eqW y S (WT k) j i = true)))) (wI h (tcS g p (nI S) c v)) := by
  obtain ⟨g1, g2, g3, g4⟩ := G
  obtain ⟨x1, x2, x3⟩ := X k k1 k2
  obtain ⟨w1, w2, -⟩ := WT_ok k k2 k1
  intro j
  induction j with
  | zero =>
    intro i hi
    obtain rfl : i = (WT k).length := by omega
    rw [w_1833_3]
    simp -implicitDefEqProofs (disch := first | omega | (simp (disch := omega) only [nb_upr]; omega)) only [w_1833_5, zi_0, zi_0n, zi_627, zi_48, zi_431, zi_629, zi_100, zi_101, zi_23, zi_23n, zi_656, zi_447, zi_33, zi_31, zi_67w1, zi_67w2, zi_32i, zi_32r, zi_32u, zi_32a, zi_75, zi_34, zi_166, zi_624, zi_70, zi_106, zi_657, zi_239, zi_39i, zi_39r, zi_39u, zi_39a, zi_86, x1, x2, kC_eq, toL_s, toL_n, okS0, okS1, okS2, okS3, okS4, okS5, true_and, and_true, hT_wI, hL_wI, hR_wI, hI_wI, hJ_wI, sI_wI, rfP, isIA_100, isIA_120, inb_ok, nI_clamp, nI_add, nI_mul, ↓reduceIte, not_false_eq_true, not_true_eq_false, true_or, or_true, ↓bI_01, ↓b01_0, ↓b01_1, bI_0, z00, z10, n4, n5, n2, n8, Nat.reduceMul, Nat.reduceAdd, Nat.reduceLT, Nat.reduceLeDiff, nI_eq, nI_leI, nI_ltI, Nat.reduceEqDiff, pk_div, nI_sub, Nat.reduceDiv, Nat.reduceSub, Nat.le_refl]
    rw [bI_t (show eqW y S (WT k) 0 _ = true from rfl)]
  | succ j ih0 =>
    intro i hi
    have g : ¬ (WT k).length ≤ i := by omega
    have hy := g2 (S + i)
    have hw := w2 i (by omega)
    have e : eqW y S (WT k) (j + 1) i = if y (S + i) = (WT k).getD i 0 then eqW y S (WT k) j (i + 1) else false := rfl
    rw [e, w_1833_3]
    by_cases z : y (S + i) = (WT k).getD i 0
    · rw [if_pos z, ← ih0 (i + 1) (by omega)]
      have q : inb (nI i) (WT k).length := inb_of (by omega) (by omega)
      simp -implicitDefEqProofs (disch := first | omega | (simp (disch := omega) only [nb_upr]; omega)) only [w_1833_4, zi_0, zi_0n, zi_627, zi_48, zi_431, zi_629, zi_100, zi_101, zi_23, zi_23n, zi_656, zi_447, zi_33, zi_31, zi_67w1, zi_67w2, zi_32i, zi_32r, zi_32u, zi_32a, zi_75, zi_34, zi_166, zi_624, zi_70, zi_106, zi_657, zi_239, zi_39i, zi_39r, zi_39u, zi_39a, zi_86, F.t101, F.r101_0, F.t102, F.l102, x1, x2, kC_eq, toL_s, toL_n, okS0, okS1, okS2, okS3, okS4, okS5, true_and, and_true, hT_wI, hL_wI, hR_wI, hI_wI, hJ_wI, sI_wI, rfP, isIA_100, isIA_120, inb_ok, nI_clamp, nI_add, nI_mul, ↓reduceIte, not_false_eq_true, not_true_eq_false, true_or, or_true, ↓bI_01, ↓b01_0, ↓b01_1, bI_0, z00, z10, n4, n5, n2, n8, Nat.reduceMul, Nat.reduceAdd, Nat.reduceLT, Nat.reduceLeDiff, nI_eq, nI_leI, nI_ltI, Nat.reduceEqDiff, pk_div, nI_sub, Nat.reduceDiv, Nat.reduceSub, g, tc_2, tc_o, g4 (S + i) (by omega), x3 i (by omega), z]
    · rw [if_neg z, bI_f (show ¬ false = true by decide)]
      simp -implicitDefEqProofs (disch := first | omega | (simp (disch := omega) only [nb_upr]; omega)) only [w_1833_4, zi_0, zi_0n, zi_627, zi_48, zi_431, zi_629, zi_100, zi_101, zi_23, zi_23n, zi_656, zi_447, zi_33, zi_31, zi_67w1, zi_67w2, zi_32i, zi_32r, zi_32u, zi_32a, zi_75, zi_34, zi_166, zi_624, zi_70, zi_106, zi_657, zi_239, zi_39i, zi_39r, zi_39u, zi_39a, zi_86, F.t101, F.r101_0, F.t102, F.l102, x1, x2, kC_eq, toL_s, toL_n, okS0, okS1, okS2, okS3, okS4, okS5, true_and, and_true, hT_wI, hL_wI, hR_wI, hI_wI, hJ_wI, sI_wI, rfP, isIA_100, isIA_120, inb_ok, nI_clamp, nI_add, nI_mul, ↓reduceIte, not_false_eq_true, not_true_eq_false, true_or, or_true, ↓bI_01, ↓b01_0, ↓b01_1, bI_0, z00, z10, n4, n5, n2, n8, Nat.reduceMul, Nat.reduceAdd, Nat.reduceLT, Nat.reduceLeDiff, nI_eq, nI_leI, nI_ltI, Nat.reduceEqDiff, pk_div, nI_sub, Nat.reduceDiv, Nat.reduceSub, g, tc_2, tc_o, g4 (S + i) (by omega), x3 i (by omega), z]
theorem e_cW (F : FR h) (G : TG y t g) (X : TX h g) (k : Nat) (k1 : 10 ≤ k) (k2 : k < 28) (p : Nat) (hp : p ≤ t) (v : Int32) (d : Nat) (Q : Option Value → PH → Prop) :
    Run d 1833 [.ref 101, .ref k] (wI h (tcS g (nI (tE y t p)) (nI (tS y t p)) (nI (tK y t p)) v)) Q = Q (some (.int (bI (isW y t p k = true)))) (wI h (tcS g (nI (tE y t p)) (nI (tS y t p)) (nI (tK y t p)) v)) := by
  have hb := tE_b (y := y) hp
  obtain ⟨x1, x2, x3⟩ := X k k1 k2
  obtain ⟨w1, w2, -⟩ := WT_ok k k2 k1
  have t200 := G.1
  have hk3 : tK y t p < 4 := by
    unfold tK
    split
    · omega
    · split
      · omega
      · split <;> omega
  by_cases h1 : tK y t p = 1
  · by_cases h2 : tE y t p - tS y t p = (WT k).length
    · have e : isW y t p k = eqW y (tS y t p) (WT k) (WT k).length 0 := by
        unfold isW
        rw [h1, h2, decide_eq_true rfl, decide_eq_true rfl, Bool.true_and, Bool.true_and]
      have hl := cs_word F G X k k1 k2 (nI (tE y t p)) (nI (tK y t p)) v (tS y t p) (by omega) d Q (WT k).length 0 (by omega)
      rw [e, ← hl]
      simp -implicitDefEqProofs (disch := first | omega | (simp (disch := omega) only [nb_upr]; omega)) only [R_1833, w_1833_0, w_1833_2, zi_0, zi_0n, zi_627, zi_48, zi_431, zi_629, zi_100, zi_101, zi_23, zi_23n, zi_656, zi_447, zi_33, zi_31, zi_67w1, zi_67w2, zi_32i, zi_32r, zi_32u, zi_32a, zi_75, zi_34, zi_166, zi_624, zi_70, zi_106, zi_657, zi_239, zi_39i, zi_39r, zi_39u, zi_39a, zi_86, F.t101, x1, x2, kC_eq, toL_s, toL_n, okS0, okS1, okS2, okS3, okS4, okS5, true_and, and_true, hT_wI, hL_wI, hR_wI, hI_wI, hJ_wI, sI_wI, rfP, isIA_100, isIA_120, inb_ok, nI_clamp, nI_add, nI_mul, ↓reduceIte, not_false_eq_true, not_true_eq_false, true_or, or_true, ↓bI_01, ↓b01_0, ↓b01_1, bI_0, z00, z10, n4, n5, n2, n8, Nat.reduceMul, Nat.reduceAdd, Nat.reduceLT, Nat.reduceLeDiff, nI_eq, nI_leI, nI_ltI, Nat.reduceEqDiff, pk_div, nI_sub, Nat.reduceDiv, Nat.reduceSub, tc_2, tc_3, tc_4, h1, h2]
    · have e : ¬ isW y t p k = true := fun z => by
        unfold isW at z
        rw [Bool.and_eq_true, Bool.and_eq_true, decide_eq_true_iff, decide_eq_true_iff] at z
        exact h2 z.2.1
      rw [bI_f e]
      simp -implicitDefEqProofs (disch := first | omega | (simp (disch := omega) only [nb_upr]; omega)) only [R_1833, w_1833_0, w_1833_1, zi_0, zi_0n, zi_627, zi_48, zi_431, zi_629, zi_100, zi_101, zi_23, zi_23n, zi_656, zi_447, zi_33, zi_31, zi_67w1, zi_67w2, zi_32i, zi_32r, zi_32u, zi_32a, zi_75, zi_34, zi_166, zi_624, zi_70, zi_106, zi_657, zi_239, zi_39i, zi_39r, zi_39u, zi_39a, zi_86, F.t101, x1, x2, kC_eq, toL_s, toL_n, okS0, okS1, okS2, okS3, okS4, okS5, true_and, and_true, hT_wI, hL_wI, hR_wI, hI_wI, hJ_wI, sI_wI, rfP, isIA_100, isIA_120, inb_ok, nI_clamp, nI_add, nI_mul, ↓reduceIte, not_false_eq_true, not_true_eq_false, true_or, or_true, ↓bI_01, ↓b01_0, ↓b01_1, bI_0, z00, z10, n4, n5, n2, n8, Nat.reduceMul, Nat.reduceAdd, Nat.reduceLT, Nat.reduceLeDiff, nI_eq, nI_leI, nI_ltI, Nat.reduceEqDiff, pk_div, nI_sub, Nat.reduceDiv, Nat.reduceSub, tc_2, tc_3, tc_4, h1, h2]
  · have e : ¬ isW y t p k = true := fun z => by
      unfold isW at z
      rw [Bool.and_eq_true, decide_eq_true_iff] at z
      exact h1 z.1
    rw [bI_f e]
    simp -implicitDefEqProofs (disch := first | omega | (simp (disch := omega) only [nb_upr]; omega)) only [R_1833, w_1833_0, w_1833_1, zi_0, zi_0n, zi_627, zi_48, zi_431, zi_629, zi_100, zi_101, zi_23, zi_23n, zi_656, zi_447, zi_33, zi_31, zi_67w1, zi_67w2, zi_32i, zi_32r, zi_32u, zi_32a, zi_75, zi_34, zi_166, zi_624, zi_70, zi_106, zi_657, zi_239, zi_39i, zi_39r, zi_39u, zi_39a, zi_86, F.t101, x1, x2, kC_eq, toL_s, toL_n, okS0, okS1, okS2, okS3, okS4, okS5, true_and, and_true, hT_wI, hL_wI, hR_wI, hI_wI, hJ_wI, sI_wI, rfP, isIA_100, isIA_120, inb_ok, nI_clamp, nI_add, nI_mul, ↓reduceIte, not_false_eq_true, not_true_eq_false, true_or, or_true, ↓bI_01, ↓b01_0, ↓b01_1, bI_0, z00, z10, n4, n5, n2, n8, Nat.reduceMul, Nat.reduceAdd, Nat.reduceLT, Nat.reduceLeDiff, nI_eq, nI_leI, nI_ltI, Nat.reduceEqDiff, pk_div, nI_sub, Nat.reduceDiv, Nat.reduceSub, tc_2, tc_3, tc_4, h1]
theorem tK_lt {p : Nat} : tK y t p < 4 := by
  unfold tK
  split
  · omega
  · split
    · omega
    · split <;> omega
theorem e_cN (F : FR h) (G : TG y t g) (p : Nat) (hp : p ≤ t) (s k v lo hi : Int32) (d : Nat) (hd : 3 ≤ d) (Q : Option Value → PH → Prop) :
    Run d 1850 [.ref 101, .int lo, .int hi] (wI h (tcS g (nI p) s k v)) Q = Q (some (.int (if tK y t p = 2 ∧ ¬ (tV y t p < lo ∨ hi < tV y t p) then nI 1 else nI 0))) (wI h (tcS g (nI (tE y t p)) (nI (tS y t p)) (nI (tK y t p)) (tVV y t p v))) := by
  have hk := tK_lt (y := y) (t := t) (p := p)
  by_cases h1 : tK y t p = 2
  · have ev : tVV y t p v = tV y t p := if_pos h1
    rw [ev]
    by_cases h2 : tV y t p < lo ∨ hi < tV y t p
    · rw [if_neg (fun z => z.2 h2)]
      simp -implicitDefEqProofs (disch := first | omega | (simp (disch := omega) only [nb_upr]; omega)) only [R_1850, w_1850_0, w_1850_1, w_1850_2, zi_0, zi_0n, zi_626, zi_627, zi_51, zi_431, zi_637, zi_88, zi_34, zi_65, zi_98, zi_48, zi_112, zi_31, zi_113, zi_67w1, zi_67w2, F.t101, kC_eq, toL_s, toL_n, okS0, okS1, okS2, okS3, okS4, okS5, true_and, and_true, hT_wI, hL_wI, hR_wI, hI_wI, hJ_wI, sI_wI, rfP, isIA_100, isIA_120, inb_ok, nI_clamp, nI_add, nI_mul, ↓reduceIte, not_false_eq_true, not_true_eq_false, true_or, or_true, ↓bI_01, ↓b01_0, ↓b01_1, bI_0, z00, z10, n4, n5, n2, n8, Nat.reduceMul, Nat.reduceAdd, Nat.reduceLT, Nat.reduceLeDiff, nI_eq, nI_leI, nI_ltI, Nat.reduceEqDiff, pk_div, nI_sub, Nat.reduceDiv, Nat.reduceSub, e_step F G p hp, tc_4, tc_5, ev, e_outside, h1, h2]
    · rw [if_pos ⟨h1, h2⟩]
      simp -implicitDefEqProofs (disch := first | omega | (simp (disch := omega) only [nb_upr]; omega)) only [R_1850, w_1850_0, w_1850_1, w_1850_2, zi_0, zi_0n, zi_626, zi_627, zi_51, zi_431, zi_637, zi_88, zi_34, zi_65, zi_98, zi_48, zi_112, zi_31, zi_113, zi_67w1, zi_67w2, F.t101, kC_eq, toL_s, toL_n, okS0, okS1, okS2, okS3, okS4, okS5, true_and, and_true, hT_wI, hL_wI, hR_wI, hI_wI, hJ_wI, sI_wI, rfP, isIA_100, isIA_120, inb_ok, nI_clamp, nI_add, nI_mul, ↓reduceIte, not_false_eq_true, not_true_eq_false, true_or, or_true, ↓bI_01, ↓b01_0, ↓b01_1, bI_0, z00, z10, n4, n5, n2, n8, Nat.reduceMul, Nat.reduceAdd, Nat.reduceLT, Nat.reduceLeDiff, nI_eq, nI_leI, nI_ltI, Nat.reduceEqDiff, pk_div, nI_sub, Nat.reduceDiv, Nat.reduceSub, e_step F G p hp, tc_4, tc_5, ev, e_outside, h1, h2]
  · rw [if_neg (fun z => h1 z.1)]
    simp -implicitDefEqProofs (disch := first | omega | (simp (disch := omega) only [nb_upr]; omega)) only [R_1850, w_1850_0, w_1850_1, w_1850_2, zi_0, zi_0n, zi_626, zi_627, zi_51, zi_431, zi_637, zi_88, zi_34, zi_65, zi_98, zi_48, zi_112, zi_31, zi_113, zi_67w1, zi_67w2, F.t101, kC_eq, toL_s, toL_n, okS0, okS1, okS2, okS3, okS4, okS5, true_and, and_true, hT_wI, hL_wI, hR_wI, hI_wI, hJ_wI, sI_wI, rfP, isIA_100, isIA_120, inb_ok, nI_clamp, nI_add, nI_mul, ↓reduceIte, not_false_eq_true, not_true_eq_false, true_or, or_true, ↓bI_01, ↓b01_0, ↓b01_1, bI_0, z00, z10, n4, n5, n2, n8, Nat.reduceMul, Nat.reduceAdd, Nat.reduceLT, Nat.reduceLeDiff, nI_eq, nI_leI, nI_ltI, Nat.reduceEqDiff, pk_div, nI_sub, Nat.reduceDiv, Nat.reduceSub, e_step F G p hp, tc_4, h1]
theorem e_cRW (F : FR h) (G : TG y t g) (X : TX h g) (q : Nat) (q1 : 10 ≤ q) (q2 : q < 28) (p : Nat) (hp : p ≤ t) (s k v : Int32) (d : Nat) (hd : 3 ≤ d) (Q : Option Value → PH → Prop) :
    Run d 1857 [.ref 101, .ref q] (wI h (tcS g (nI p) s k v)) Q = Q (some (.int (bI (isW y t p q = true)))) (wI h (tcS g (nI (tE y t p)) (nI (tS y t p)) (nI (tK y t p)) (tVV y t p v))) := by
  simp -implicitDefEqProofs (disch := first | omega | (simp (disch := omega) only [nb_upr]; omega)) only [R_1857, w_1857_0, zi_0, zi_0n, zi_626, zi_23, zi_23n, zi_639, zi_67w1, zi_67w2, F.t101, kC_eq, toL_s, toL_n, okS0, okS1, okS2, okS3, okS4, okS5, true_and, and_true, hT_wI, hL_wI, hR_wI, hI_wI, hJ_wI, sI_wI, rfP, isIA_100, isIA_120, inb_ok, nI_clamp, nI_add, nI_mul, ↓reduceIte, not_false_eq_true, not_true_eq_false, true_or, or_true, ↓bI_01, ↓b01_0, ↓b01_1, bI_0, z00, z10, n4, n5, n2, n8, Nat.reduceMul, Nat.reduceAdd, Nat.reduceLT, Nat.reduceLeDiff, e_step F G p hp, e_cW F G X q q1 q2 p hp, Bool.false_eq_true]
theorem e_cE (F : FR h) (G : TG y t g) (p : Nat) (hp : p ≤ t) (s k v : Int32) (d : Nat) (hd : 3 ≤ d) (Q : Option Value → PH → Prop) :
    Run d 1864 [.ref 101] (wI h (tcS g (nI p) s k v)) Q = Q (some (.int (if tK y t p = 3 ∧ y (tS y t p) = 59 then nI 1 else nI 0))) (wI h (tcS g (nI (tE y t p)) (nI (tS y t p)) (nI (tK y t p)) (tVV y t p v))) := by
  have hk := tK_lt (y := y) (t := t) (p := p)
  have hb := tS_b (y := y) hp
  obtain ⟨g1, g2, g3, g4⟩ := id G
  have hy := g2 (tS y t p)
  by_cases h1 : tK y t p = 3
  · have hlt : tS y t p < t := by
      by_cases z : t ≤ tS y t p
      · have := tK_0.mpr z
        omega
      · omega
    by_cases h2 : y (tS y t p) = 59
    · rw [if_pos ⟨h1, h2⟩]
      simp -implicitDefEqProofs (disch := first | omega | (simp (disch := omega) only [nb_upr]; omega)) only [R_1864, w_1864_0, w_1864_1, w_1864_2, zi_0, zi_0n, zi_626, zi_627, zi_54, zi_431, zi_624, zi_100, zi_106, zi_437, zi_48, zi_112, zi_31, zi_113, zi_67w1, zi_67w2, F.t101, F.r101_0, F.t102, F.l102, kC_eq, toL_s, toL_n, okS0, okS1, okS2, okS3, okS4, okS5, true_and, and_true, hT_wI, hL_wI, hR_wI, hI_wI, hJ_wI, sI_wI, rfP, isIA_100, isIA_120, inb_ok, nI_clamp, nI_add, nI_mul, ↓reduceIte, not_false_eq_true, not_true_eq_false, true_or, or_true, ↓bI_01, ↓b01_0, ↓b01_1, bI_0, z00, z10, n4, n5, n2, n8, Nat.reduceMul, Nat.reduceAdd, Nat.reduceLT, Nat.reduceLeDiff, nI_eq, nI_leI, nI_ltI, Nat.reduceEqDiff, pk_div, nI_sub, Nat.reduceDiv, Nat.reduceSub, e_step F G p hp, tc_2, tc_4, tc_o, g4 _ hlt, h1, h2]
    · rw [if_neg (fun z => h2 z.2)]
      simp -implicitDefEqProofs (disch := first | omega | (simp (disch := omega) only [nb_upr]; omega)) only [R_1864, w_1864_0, w_1864_1, w_1864_2, zi_0, zi_0n, zi_626, zi_627, zi_54, zi_431, zi_624, zi_100, zi_106, zi_437, zi_48, zi_112, zi_31, zi_113, zi_67w1, zi_67w2, F.t101, F.r101_0, F.t102, F.l102, kC_eq, toL_s, toL_n, okS0, okS1, okS2, okS3, okS4, okS5, true_and, and_true, hT_wI, hL_wI, hR_wI, hI_wI, hJ_wI, sI_wI, rfP, isIA_100, isIA_120, inb_ok, nI_clamp, nI_add, nI_mul, ↓reduceIte, not_false_eq_true, not_true_eq_false, true_or, or_true, ↓bI_01, ↓b01_0, ↓b01_1, bI_0, z00, z10, n4, n5, n2, n8, Nat.reduceMul, Nat.reduceAdd, Nat.reduceLT, Nat.reduceLeDiff, nI_eq, nI_leI, nI_ltI, Nat.reduceEqDiff, pk_div, nI_sub, Nat.reduceDiv, Nat.reduceSub, e_step F G p hp, tc_2, tc_4, tc_o, g4 _ hlt, h1, h2]
  · rw [if_neg (fun z => h1 z.1)]
    simp -implicitDefEqProofs (disch := first | omega | (simp (disch := omega) only [nb_upr]; omega)) only [R_1864, w_1864_0, w_1864_1, w_1864_2, zi_0, zi_0n, zi_626, zi_627, zi_54, zi_431, zi_624, zi_100, zi_106, zi_437, zi_48, zi_112, zi_31, zi_113, zi_67w1, zi_67w2, F.t101, kC_eq, toL_s, toL_n, okS0, okS1, okS2, okS3, okS4, okS5, true_and, and_true, hT_wI, hL_wI, hR_wI, hI_wI, hJ_wI, sI_wI, rfP, isIA_100, isIA_120, inb_ok, nI_clamp, nI_add, nI_mul, ↓reduceIte, not_false_eq_true, not_true_eq_false, true_or, or_true, ↓bI_01, ↓b01_0, ↓b01_1, bI_0, z00, z10, n4, n5, n2, n8, Nat.reduceMul, Nat.reduceAdd, Nat.reduceLT, Nat.reduceLeDiff, nI_eq, nI_leI, nI_ltI, Nat.reduceEqDiff, pk_div, nI_sub, Nat.reduceDiv, Nat.reduceSub, e_step F G p hp, tc_4, h1]
end
