section
/-! the pieces of one, whose ward gave most -/
variable {b n : Nat} {h : PH} {r : Nat → Int32}
def pcF : Nat → Nat → Nat
  | 0, _ => 0
  | k + 1, s => if s = 0 then 0 else 1 + pcF k (s &&& (s - 1))
def bcE0 (x : Int32) : Int32 := x - (UInt32.toInt32 (x.toUInt32 >>> (nI 1 &&& 31).toUInt32) &&& nI 1431655765)
def bcE1 (x : Int32) : Int32 := (x &&& nI 858993459) + (UInt32.toInt32 (x.toUInt32 >>> (nI 2 &&& 31).toUInt32) &&& nI 858993459)
def bcE2 (x : Int32) : Int32 := x + UInt32.toInt32 (x.toUInt32 >>> (nI 4 &&& 31).toUInt32) &&& nI 252645135
def bcE3 (x : Int32) : Int32 := x + UInt32.toInt32 (x.toUInt32 >>> (nI 8 &&& 31).toUInt32)
def bcE4 (x : Int32) : Int32 := x + UInt32.toInt32 (x.toUInt32 >>> (nI 16 &&& 31).toUInt32)
theorem bc_all : ∀ s, s < 64 → (bcE4 (bcE3 (bcE2 (bcE1 (bcE0 (nI s))))) &&& nI 63) = nI (pcF 7 s) := by decide +kernel
theorem e_bitCount (d s : Nat) (hs : s < 64) (h : PH) (Q : Option Value → PH → Prop) : Run d 2273 [.int (nI s)] h Q = Q (some (.int (nI (pcF 7 s)))) h := by
  have e := bc_all s hs
  generalize nI s = x at *
  rw [← e, R_2273, w_2273_0]
  simp -implicitDefEqProofs only [zi_87, zi_48, zi_485, zi_703, zi_83, zi_101, zi_704, zi_705, zi_51, zi_70, zi_9, zi_706, zi_64, zi_484, zi_707, zi_67w1, zi_67w2, bcE0, bcE1, bcE2, bcE3, bcE4]
theorem ones_step : ∀ s, s < 64 → ¬ s = 0 → (nI s &&& nI s - nI 1) = nI (s &&& (s - 1)) ∧ (s &&& (s - 1)) < 64 := by decide +kernel
def pcOK : Nat → Nat → Bool
  | 0, s => s == 0
  | k + 1, s => s == 0 || pcOK k (s &&& (s - 1))
theorem pcOK_all : ∀ s, s < 64 → pcOK 6 s = true := by decide +kernel
theorem pc_le : ∀ s, s < 64 → pcF 7 s ≤ 6 := by decide +kernel
theorem ones_loop (d : Nat) (h : PH) (x : Int32) (Q : Option Value → PH → Prop) : ∀ (k s m : Nat), s < 64 → pcOK k s = true → WP d 1233 1 [.int x, .int (nI m), .int (nI s)] [] h Q = Q (some (.int (nI (m + pcF (k + 1) s)))) h
  | 0, s, m, hs, hk => by
    obtain rfl : s = 0 := by simpa [pcOK] using hk
    rw [w_1233_1]
    simp -implicitDefEqProofs (disch := first | omega | (simp (disch := omega) only [nb_upr]; omega)) only [w_1233_2, zi_31, zi_96i, zi_96r, zi_96u, zi_96a, zi_87, zi_32i, zi_32r, zi_32u, zi_32a, zi_33, zi_34, zi_108, zi_216i, zi_216r, zi_216u, zi_216a, zi_48, zi_101, zi_83, zi_40, zi_88, zi_67w1, zi_67w2, kC_eq, toL_s, toL_n, okS0, okS1, okS2, okS3, okS4, okS5, true_and, and_true, hT_wI, hL_wI, hR_wI, hI_wI, hJ_wI, sI_wI, rfP, isIA_100, isIA_120, inb_ok, nI_clamp, nI_add, nI_mul, ↓reduceIte, not_false_eq_true, not_true_eq_false, true_or, or_true, ↓bI_01, ↓b01_0, ↓b01_1, bI_0, z00, z10, n4, n5, n2, n8, Nat.reduceMul, Nat.reduceAdd, Nat.reduceLT, Nat.reduceLeDiff, pcF]
    rfl
  | k + 1, s, m, hs, hk => by
    by_cases h0 : s = 0
    · subst h0
      rw [w_1233_1]
      simp -implicitDefEqProofs (disch := first | omega | (simp (disch := omega) only [nb_upr]; omega)) only [w_1233_2, zi_31, zi_96i, zi_96r, zi_96u, zi_96a, zi_87, zi_32i, zi_32r, zi_32u, zi_32a, zi_33, zi_34, zi_108, zi_216i, zi_216r, zi_216u, zi_216a, zi_48, zi_101, zi_83, zi_40, zi_88, zi_67w1, zi_67w2, kC_eq, toL_s, toL_n, okS0, okS1, okS2, okS3, okS4, okS5, true_and, and_true, hT_wI, hL_wI, hR_wI, hI_wI, hJ_wI, sI_wI, rfP, isIA_100, isIA_120, inb_ok, nI_clamp, nI_add, nI_mul, ↓reduceIte, not_false_eq_true, not_true_eq_false, true_or, or_true, ↓bI_01, ↓b01_0, ↓b01_1, bI_0, z00, z10, n4, n5, n2, n8, Nat.reduceMul, Nat.reduceAdd, Nat.reduceLT, Nat.reduceLeDiff, pcF]
      rfl
    · have hk' : pcOK k (s &&& (s - 1)) = true := by
        have : (s == 0 || pcOK k (s &&& (s - 1))) = true := hk
        simpa [h0] using this
      obtain ⟨e1, e2⟩ := ones_step s hs h0
      have ih := ones_loop d h x Q k (s &&& (s - 1)) (m + 1) e2 hk'
      have z : ¬ nI s = 0 := nI_ne0 (by omega) (by omega)
      have ep : pcF (k + 1 + 1) s = 1 + pcF (k + 1) (s &&& (s - 1)) := by
        show (if s = 0 then 0 else 1 + pcF (k + 1) (s &&& (s - 1))) = _
        rw [if_neg h0]
      rw [ep, ← Nat.add_assoc, ← ih, w_1233_1]
      simp -implicitDefEqProofs (disch := first | omega | (simp (disch := omega) only [nb_upr]; omega)) only [zi_31, zi_96i, zi_96r, zi_96u, zi_96a, zi_87, zi_32i, zi_32r, zi_32u, zi_32a, zi_33, zi_34, zi_108, zi_216i, zi_216r, zi_216u, zi_216a, zi_48, zi_101, zi_83, zi_40, zi_88, zi_67w1, zi_67w2, kC_eq, toL_s, toL_n, okS0, okS1, okS2, okS3, okS4, okS5, true_and, and_true, hT_wI, hL_wI, hR_wI, hI_wI, hJ_wI, sI_wI, rfP, isIA_100, isIA_120, inb_ok, nI_clamp, nI_add, nI_mul, ↓reduceIte, not_false_eq_true, not_true_eq_false, true_or, or_true, ↓bI_01, ↓b01_0, ↓b01_1, bI_0, z00, z10, n4, n5, n2, n8, Nat.reduceMul, Nat.reduceAdd, Nat.reduceLT, Nat.reduceLeDiff, z, e1]
theorem e_ones (d s : Nat) (hs : s < 64) (h : PH) (Q : Option Value → PH → Prop) : Run d 1233 [.int (nI s)] h Q = Q (some (.int (nI (pcF 7 s)))) h := by
  have := ones_loop d h (nI s) Q 6 s 0 hs (pcOK_all s hs)
  rw [Nat.zero_add] at this
  rw [← this]
  simp -implicitDefEqProofs (disch := first | omega | (simp (disch := omega) only [nb_upr]; omega)) only [R_1233, w_1233_0, zi_31, zi_96i, zi_96r, zi_96u, zi_96a, zi_87, zi_32i, zi_32r, zi_32u, zi_32a, zi_33, zi_34, zi_108, zi_216i, zi_216r, zi_216u, zi_216a, zi_48, zi_101, zi_83, zi_40, zi_88, zi_67w1, zi_67w2, kC_eq, toL_s, toL_n, okS0, okS1, okS2, okS3, okS4, okS5, true_and, and_true, hT_wI, hL_wI, hR_wI, hI_wI, hJ_wI, sI_wI, rfP, isIA_100, isIA_120, inb_ok, nI_clamp, nI_add, nI_mul, ↓reduceIte, not_false_eq_true, not_true_eq_false, true_or, or_true, ↓bI_01, ↓b01_0, ↓b01_1, bI_0, z00, z10, n4, n5, n2, n8, Nat.reduceMul, Nat.reduceAdd, Nat.reduceLT, Nat.reduceLeDiff]
/-- the best set among the first t -/
def pbo (r : Nat → Int32) (s : Nat) (v : Int32) : Nat → Option Nat
  | 0 => none
  | t + 1 => match pbo r s v t with
    | none => if hbs r (nI t) s (nb r) = v then some t else none
    | some x => if hbs r (nI t) s (nb r) = v ∧ ¬ pcF 7 x ≤ pcF 7 t then some t else some x
theorem pbo_lt (r : Nat → Int32) (s : Nat) (v : Int32) : ∀ t x, pbo r s v t = some x → x < t
  | 0, x, h => by cases h
  | t + 1, x, h => by
    have ih := pbo_lt r s v t
    unfold pbo at h
    split at h
    · split at h
      · cases h; omega
      · cases h
    · rename_i y hy
      have := ih y hy
      split at h
      · cases h; omega
      · cases h; omega
def pbI (m : Int32) (o : Option Nat) : Int32 := match o with | none => m | some x => nI x
theorem shl_n : ∀ k, k ≤ 6 → (nI 1 <<< (nI k &&& 31)) = nI (2 ^ k) := by decide +kernel
theorem pow_le64 : ∀ k, k ≤ 6 → 2 ^ k ≤ 64 := by decide +kernel
theorem m3_ne {x : Nat} (hx : x < 2 ^ 31) : ¬ nI x = Int32.ofInt (-3) := fun z => by
  have h1 : 0 ≤ nI x := nI_pos' hx
  rw [z] at h1
  exact absurd h1 (by decide)
theorem pieces_loop (d b : Nat) (h : PH) (f : Nat → Nat → Int32) (r : Nat → Int32) (F : FR h) (hn : hR h 100 0 = some b) (w : WB h b) (V : Vr n r) (s : Nat) (hs : s < 5) (v : Int32) (hd : 2 ≤ d) (Q : Option Value → PH → Prop) :
    ∀ (j t : Nat) (v5 : Value), t + j = 2 ^ nb r → WP d 394 3 [.ref 100, .int (nI s), .int v, .int (pbI (Int32.ofInt (-3)) (pbo r s v t)), .int (nI t), v5] [] (wI h (ww f b r)) Q = Q (some (.int (pbI (Int32.ofInt (-3)) (pbo r s v (2 ^ nb r))))) (wI h (ww f b r))
  | 0, t, v5, hk => by
    obtain rfl : t = 2 ^ nb r := by omega
    have h6 := V.nb6
    have p6 := pow_le64 _ h6
    rw [w_394_3]
    simp -implicitDefEqProofs (disch := first | omega | (simp (disch := omega) only [nb_upr]; omega)) only [w_394_8, zi_88, zi_114, zi_98, zi_34, zi_31, zi_117, zi_65, zi_108, zi_33, zi_37, zi_67w1, zi_67w2, zi_208, zi_111i, zi_111r, zi_111u, zi_111a, zi_74i, zi_74r, zi_74u, zi_74a, zi_75, zi_76, zi_48, zi_0, zi_0n, zi_92, zi_104, zi_174, zi_229, zi_63, zi_239, zi_240, zi_166, zi_133, zi_236, zi_237, zi_164i, zi_164r, zi_164u, zi_164a, zi_165, zi_241, zi_242, zi_243, zi_214, zi_85i, zi_85r, zi_85u, zi_85a, zi_86, F.t100, hn, w.t, kC_eq, toL_s, toL_n, okS0, okS1, okS2, okS3, okS4, okS5, true_and, and_true, hT_wI, hL_wI, hR_wI, hI_wI, hJ_wI, sI_wI, rfP, isIA_100, isIA_120, inb_ok, nI_clamp, nI_add, nI_mul, ↓reduceIte, not_false_eq_true, not_true_eq_false, true_or, or_true, ↓bI_01, ↓b01_0, ↓b01_1, bI_0, z00, z10, n4, n5, n2, n8, Nat.reduceMul, Nat.reduceAdd, Nat.reduceLT, Nat.reduceLeDiff, nI_eq, nI_leI, nI_ltI, Nat.reduceEqDiff, pk_div, nI_sub, Nat.reduceDiv, Nat.reduceSub, Nat.le_refl, ww_0_14, V.r5, shl_n _ h6]
  | j + 1, t, v5, hk => by
    have h6 := V.nb6
    have p6 := pow_le64 _ h6
    have g : ¬ 2 ^ nb r ≤ t := by omega
    have ht : t < 64 := by omega
    have ih := fun v5 => pieces_loop d b h f r F hn w V s hs v hd Q j (t + 1) v5 (by omega)
    have e : pbo r s v (t + 1) = match pbo r s v t with
      | none => if hbs r (nI t) s (nb r) = v then some t else none
      | some x => if hbs r (nI t) s (nb r) = v ∧ ¬ pcF 7 x ≤ pcF 7 t then some t else some x := rfl
    rw [e] at ih
    have lt := pbo_lt r s v t
    generalize pbo r s v t = o at *
    match o with
    | none =>
      simp only at ih
      show WP d 394 3 [.ref 100, .int (nI s), .int v, .int (Int32.ofInt (-3)), .int (nI t), v5] [] (wI h (ww f b r)) Q = _
      rw [w_394_3]
      simp -implicitDefEqProofs (disch := first | omega | (simp (disch := omega) only [nb_upr]; omega)) only [w_394_4, w_394_6, w_394_7, zi_88, zi_114, zi_98, zi_34, zi_31, zi_117, zi_65, zi_108, zi_33, zi_37, zi_67w1, zi_67w2, zi_208, zi_111i, zi_111r, zi_111u, zi_111a, zi_74i, zi_74r, zi_74u, zi_74a, zi_75, zi_76, zi_48, zi_0, zi_0n, zi_92, zi_104, zi_174, zi_229, zi_63, zi_239, zi_240, zi_166, zi_133, zi_236, zi_237, zi_164i, zi_164r, zi_164u, zi_164a, zi_165, zi_241, zi_242, zi_243, zi_214, zi_85i, zi_85r, zi_85u, zi_85a, zi_86, F.t100, hn, w.t, kC_eq, toL_s, toL_n, okS0, okS1, okS2, okS3, okS4, okS5, true_and, and_true, hT_wI, hL_wI, hR_wI, hI_wI, hJ_wI, sI_wI, rfP, isIA_100, isIA_120, inb_ok, nI_clamp, nI_add, nI_mul, ↓reduceIte, not_false_eq_true, not_true_eq_false, true_or, or_true, ↓bI_01, ↓b01_0, ↓b01_1, bI_0, z00, z10, n4, n5, n2, n8, Nat.reduceMul, Nat.reduceAdd, Nat.reduceLT, Nat.reduceLeDiff, nI_eq, nI_leI, nI_ltI, Nat.reduceEqDiff, pk_div, nI_sub, Nat.reduceDiv, Nat.reduceSub, g, ww_0_14, V.r5, shl_n _ h6, e_heldBySet _ b h f r w h6 V.r5 (nI t) s hs]
      by_cases hz : hbs r (nI t) s (nb r) = v
      · simp only [hz, ↓reduceIte] at ih ⊢
        exact ih _
      · simp only [hz, ↓reduceIte] at ih ⊢
        exact ih _
    | some x =>
      have hx := lt x rfl
      have hx6 : x < 64 := by omega
      have m3 := m3_ne (show x < 2 ^ 31 by omega)
      have q1 := pc_le x hx6
      have q2 := pc_le t ht
      simp only at ih
      show WP d 394 3 [.ref 100, .int (nI s), .int v, .int (nI x), .int (nI t), v5] [] (wI h (ww f b r)) Q = _
      rw [w_394_3]
      simp -implicitDefEqProofs (disch := first | omega | (simp (disch := omega) only [nb_upr]; omega)) only [w_394_4, w_394_5, w_394_6, w_394_7, zi_88, zi_114, zi_98, zi_34, zi_31, zi_117, zi_65, zi_108, zi_33, zi_37, zi_67w1, zi_67w2, zi_208, zi_111i, zi_111r, zi_111u, zi_111a, zi_74i, zi_74r, zi_74u, zi_74a, zi_75, zi_76, zi_48, zi_0, zi_0n, zi_92, zi_104, zi_174, zi_229, zi_63, zi_239, zi_240, zi_166, zi_133, zi_236, zi_237, zi_164i, zi_164r, zi_164u, zi_164a, zi_165, zi_241, zi_242, zi_243, zi_214, zi_85i, zi_85r, zi_85u, zi_85a, zi_86, F.t100, hn, w.t, kC_eq, toL_s, toL_n, okS0, okS1, okS2, okS3, okS4, okS5, true_and, and_true, hT_wI, hL_wI, hR_wI, hI_wI, hJ_wI, sI_wI, rfP, isIA_100, isIA_120, inb_ok, nI_clamp, nI_add, nI_mul, ↓reduceIte, not_false_eq_true, not_true_eq_false, true_or, or_true, ↓bI_01, ↓b01_0, ↓b01_1, bI_0, z00, z10, n4, n5, n2, n8, Nat.reduceMul, Nat.reduceAdd, Nat.reduceLT, Nat.reduceLeDiff, nI_eq, nI_leI, nI_ltI, Nat.reduceEqDiff, pk_div, nI_sub, Nat.reduceDiv, Nat.reduceSub, g, m3, ww_0_14, V.r5, shl_n _ h6, e_bitCount _ x hx6, e_bitCount _ t ht, e_heldBySet _ b h f r w h6 V.r5 (nI t) s hs]
      by_cases hp : pcF 7 x ≤ pcF 7 t
      · simp only [hp, not_true_eq_false, and_false, ↓reduceIte] at ih ⊢
        exact ih _
      · simp only [hp, not_false_eq_true, and_true, ↓reduceIte] at ih ⊢
        by_cases hz : hbs r (nI t) s (nb r) = v
        · simp only [hz, ↓reduceIte] at ih ⊢
          exact ih _
        · simp only [hz, ↓reduceIte] at ih ⊢
          exact ih _
theorem mhbs_loop (d : Nat) (h : PH) (f : Nat → Nat → Int32) (r : Nat → Int32) (F : FR h) (V : Vr n r) (s : Nat) (hs : s < 5) (v v3 : Int32) (t : Nat) (hd : 2 ≤ d) (Q : Option Value → PH → Prop) :
    ∀ (j k : Nat), k + j = nb r → WP d 1226 4 [.ref 233, .int (nI s), .int v, .int v3, .int (nI t), .int (hbs r (nI t) s k), .int (nI k)] [] (wI h (mw f 234 r)) Q = WP d 1226 7 [.ref 233, .int (nI s), .int v, .int v3, .int (nI t), .int (hbs r (nI t) s (nb r)), .int (nI (nb r))] [] (wI h (mw f 234 r)) Q
  | 0, k, hk => by
    obtain rfl : k = nb r := by omega
    have h6 := V.nb6
    rw [w_1226_4]
    simp -implicitDefEqProofs (disch := first | omega | (simp (disch := omega) only [nb_upr]; omega)) only [zi_88, zi_450, zi_66, zi_34, zi_31, zi_117, zi_362, zi_452, zi_33, zi_37, zi_67w1, zi_67w2, zi_111i, zi_111r, zi_111u, zi_111a, zi_74i, zi_74r, zi_74u, zi_74a, zi_75, zi_76, zi_48, zi_0, zi_0n, zi_357, zi_59, zi_106, zi_174, zi_404, zi_164i, zi_164r, zi_164u, zi_164a, zi_193i, zi_193r, zi_193u, zi_193a, zi_133, zi_194, zi_230, zi_165, zi_519, zi_83, zi_200, zi_70, zi_459, zi_236, zi_237, zi_207i, zi_207r, zi_207u, zi_207a, zi_131, zi_393, zi_63, zi_520, zi_521, zi_522, zi_391, zi_314, zi_315, zi_523, zi_408, zi_465, zi_85i, zi_85r, zi_85u, zi_85a, zi_86, zi_524, zi_208, zi_525, zi_526, F.t233, F.r233_0, F.t234, F.l234, kC_eq, toL_s, toL_n, okS0, okS1, okS2, okS3, okS4, okS5, true_and, and_true, hT_wI, hL_wI, hR_wI, hI_wI, hJ_wI, sI_wI, rfP, isIA_100, isIA_120, inb_ok, nI_clamp, nI_add, nI_mul, ↓reduceIte, not_false_eq_true, not_true_eq_false, true_or, or_true, ↓bI_01, ↓b01_0, ↓b01_1, bI_0, z00, z10, n4, n5, n2, n8, Nat.reduceMul, Nat.reduceAdd, Nat.reduceLT, Nat.reduceLeDiff, nI_eq, nI_leI, nI_ltI, Nat.reduceEqDiff, pk_div, nI_sub, Nat.reduceDiv, Nat.reduceSub, Nat.le_refl, mw_r, V.r5]
  | j + 1, k, hk => by
    have h6 := V.nb6
    have g : ¬ nb r ≤ k := by omega
    have hk' : k < nb r := by omega
    have ih := mhbs_loop d h f r F V s hs v v3 t hd Q j (k + 1) (by omega)
    have e : hbs r (nI t) s (k + 1) = if nI t >>> (nI k &&& 31) &&& nI 1 = nI 1 then hbs r (nI t) s k + r (81 + 10 * k + s) else hbs r (nI t) s k := rfl
    rw [e] at ih
    rw [w_1226_4]
    simp -implicitDefEqProofs (disch := first | omega | (simp (disch := omega) only [nb_upr]; omega)) only [w_1226_5, w_1226_6, zi_88, zi_450, zi_66, zi_34, zi_31, zi_117, zi_362, zi_452, zi_33, zi_37, zi_67w1, zi_67w2, zi_111i, zi_111r, zi_111u, zi_111a, zi_74i, zi_74r, zi_74u, zi_74a, zi_75, zi_76, zi_48, zi_0, zi_0n, zi_357, zi_59, zi_106, zi_174, zi_404, zi_164i, zi_164r, zi_164u, zi_164a, zi_193i, zi_193r, zi_193u, zi_193a, zi_133, zi_194, zi_230, zi_165, zi_519, zi_83, zi_200, zi_70, zi_459, zi_236, zi_237, zi_207i, zi_207r, zi_207u, zi_207a, zi_131, zi_393, zi_63, zi_520, zi_521, zi_522, zi_391, zi_314, zi_315, zi_523, zi_408, zi_465, zi_85i, zi_85r, zi_85u, zi_85a, zi_86, zi_524, zi_208, zi_525, zi_526, F.t233, F.t233, F.r233_0, F.t234, F.l234, kC_eq, toL_s, toL_n, okS0, okS1, okS2, okS3, okS4, okS5, true_and, and_true, hT_wI, hL_wI, hR_wI, hI_wI, hJ_wI, sI_wI, rfP, isIA_100, isIA_120, inb_ok, nI_clamp, nI_add, nI_mul, ↓reduceIte, not_false_eq_true, not_true_eq_false, true_or, or_true, ↓bI_01, ↓b01_0, ↓b01_1, bI_0, z00, z10, n4, n5, n2, n8, Nat.reduceMul, Nat.reduceAdd, Nat.reduceLT, Nat.reduceLeDiff, nI_eq, nI_leI, nI_ltI, Nat.reduceEqDiff, pk_div, nI_sub, Nat.reduceDiv, Nat.reduceSub, g, mw_r, V.r5, e_itsh F, i32_add0]
    by_cases hz : nI t >>> (nI k &&& 31) &&& nI 1 = nI 1
    · simp only [hz, ↓reduceIte] at ih ⊢
      exact ih
    · simp only [hz, ↓reduceIte] at ih ⊢
      exact ih
theorem m1_lt : (Int32.ofInt (-1) < 0) = True := by decide
theorem mpieces_loop (d : Nat) (h : PH) (f : Nat → Nat → Int32) (r : Nat → Int32) (F : FR h) (V : Vr n r) (s : Nat) (hs : s < 5) (v : Int32) (hd : 2 ≤ d) (Q : Option Value → PH → Prop) :
    ∀ (j t : Nat) (v5 v6 : Value), t + j = 2 ^ nb r → WP d 1226 3 [.ref 233, .int (nI s), .int v, .int (pbI (Int32.ofInt (-1)) (pbo r s v t)), .int (nI t), v5, v6] [] (wI h (mw f 234 r)) Q = Q (some (.int (pbI (Int32.ofInt (-3)) (pbo r s v (2 ^ nb r))))) (wI h (mw f 234 r))
  | 0, t, v5, v6, hk => by
    obtain rfl : t = 2 ^ nb r := by omega
    have h6 := V.nb6
    have p6 := pow_le64 _ h6
    have lt := pbo_lt r s v (2 ^ nb r)
    rw [w_1226_3]
    simp -implicitDefEqProofs (disch := first | omega | (simp (disch := omega) only [nb_upr]; omega)) only [w_1226_13, w_1226_14, w_1226_15, zi_88, zi_450, zi_66, zi_34, zi_31, zi_117, zi_362, zi_452, zi_33, zi_37, zi_67w1, zi_67w2, zi_111i, zi_111r, zi_111u, zi_111a, zi_74i, zi_74r, zi_74u, zi_74a, zi_75, zi_76, zi_48, zi_0, zi_0n, zi_357, zi_59, zi_106, zi_174, zi_404, zi_164i, zi_164r, zi_164u, zi_164a, zi_193i, zi_193r, zi_193u, zi_193a, zi_133, zi_194, zi_230, zi_165, zi_519, zi_83, zi_200, zi_70, zi_459, zi_236, zi_237, zi_207i, zi_207r, zi_207u, zi_207a, zi_131, zi_393, zi_63, zi_520, zi_521, zi_522, zi_391, zi_314, zi_315, zi_523, zi_408, zi_465, zi_85i, zi_85r, zi_85u, zi_85a, zi_86, zi_524, zi_208, zi_525, zi_526, F.t233, F.r233_0, F.t234, F.l234, kC_eq, toL_s, toL_n, okS0, okS1, okS2, okS3, okS4, okS5, true_and, and_true, hT_wI, hL_wI, hR_wI, hI_wI, hJ_wI, sI_wI, rfP, isIA_100, isIA_120, inb_ok, nI_clamp, nI_add, nI_mul, ↓reduceIte, not_false_eq_true, not_true_eq_false, true_or, or_true, ↓bI_01, ↓b01_0, ↓b01_1, bI_0, z00, z10, n4, n5, n2, n8, Nat.reduceMul, Nat.reduceAdd, Nat.reduceLT, Nat.reduceLeDiff, nI_eq, nI_leI, nI_ltI, Nat.reduceEqDiff, pk_div, nI_sub, Nat.reduceDiv, Nat.reduceSub, Nat.le_refl, mw_r, V.r5, shl_n _ h6]
    generalize pbo r s v (2 ^ nb r) = o at *
    match o with
    | none =>
      have z : ¬ (0 : Int32) ≤ Int32.ofInt (-1) := by decide
      simp only [pbI, z, ↓reduceIte]
    | some x =>
      have hx := lt x rfl
      have z : (0 : Int32) ≤ nI x := nI_pos' (by omega)
      simp only [pbI, z, ↓reduceIte]
  | j + 1, t, v5, v6, hk => by
    have h6 := V.nb6
    have p6 := pow_le64 _ h6
    have g : ¬ 2 ^ nb r ≤ t := by omega
    have ht : t < 64 := by omega
    have ih := fun v5 v6 => mpieces_loop d h f r F V s hs v hd Q j (t + 1) v5 v6 (by omega)
    have e : pbo r s v (t + 1) = match pbo r s v t with
      | none => if hbs r (nI t) s (nb r) = v then some t else none
      | some x => if hbs r (nI t) s (nb r) = v ∧ ¬ pcF 7 x ≤ pcF 7 t then some t else some x := rfl
    rw [e] at ih
    have lt := pbo_lt r s v t
    have hl := fun v3 => mhbs_loop d h f r F V s hs v v3 t hd Q (nb r) 0 (by omega)
    generalize pbo r s v t = o at *
    rw [w_1226_3]
    match o with
    | none =>
      simp only [pbI] at ih ⊢
      have e0 : hbs r (nI t) s 0 = nI 0 := rfl
      rw [e0] at hl
      simp -implicitDefEqProofs (disch := first | omega | (simp (disch := omega) only [nb_upr]; omega)) only [w_1226_8, w_1226_9, w_1226_10, w_1226_11, w_1226_12, w_1226_7, zi_88, zi_450, zi_66, zi_34, zi_31, zi_117, zi_362, zi_452, zi_33, zi_37, zi_67w1, zi_67w2, zi_111i, zi_111r, zi_111u, zi_111a, zi_74i, zi_74r, zi_74u, zi_74a, zi_75, zi_76, zi_48, zi_0, zi_0n, zi_357, zi_59, zi_106, zi_174, zi_404, zi_164i, zi_164r, zi_164u, zi_164a, zi_193i, zi_193r, zi_193u, zi_193a, zi_133, zi_194, zi_230, zi_165, zi_519, zi_83, zi_200, zi_70, zi_459, zi_236, zi_237, zi_207i, zi_207r, zi_207u, zi_207a, zi_131, zi_393, zi_63, zi_520, zi_521, zi_522, zi_391, zi_314, zi_315, zi_523, zi_408, zi_465, zi_85i, zi_85r, zi_85u, zi_85a, zi_86, zi_524, zi_208, zi_525, zi_526, F.t233, F.r233_0, F.t234, F.l234, kC_eq, toL_s, toL_n, okS0, okS1, okS2, okS3, okS4, okS5, true_and, and_true, hT_wI, hL_wI, hR_wI, hI_wI, hJ_wI, sI_wI, rfP, isIA_100, isIA_120, inb_ok, nI_clamp, nI_add, nI_mul, ↓reduceIte, not_false_eq_true, not_true_eq_false, true_or, or_true, ↓bI_01, ↓b01_0, ↓b01_1, bI_0, z00, z10, n4, n5, n2, n8, Nat.reduceMul, Nat.reduceAdd, Nat.reduceLT, Nat.reduceLeDiff, nI_eq, nI_leI, nI_ltI, Nat.reduceEqDiff, pk_div, nI_sub, Nat.reduceDiv, Nat.reduceSub, g, mw_r, V.r5, shl_n _ h6, hl, m1_lt]
      by_cases hz : hbs r (nI t) s (nb r) = v
      · simp only [hz, ↓reduceIte] at ih ⊢
        exact ih _ _
      · simp only [hz, ↓reduceIte] at ih ⊢
        exact ih _ _
    | some x =>
      have hx := lt x rfl
      have hx6 : x < 64 := by omega
      have z : ¬ nI x < 0 := nI_pos (by omega)
      have q1 := pc_le x hx6
      have q2 := pc_le t ht
      simp only [pbI] at ih ⊢
      have e0 : hbs r (nI t) s 0 = nI 0 := rfl
      rw [e0] at hl
      simp -implicitDefEqProofs (disch := first | omega | (simp (disch := omega) only [nb_upr]; omega)) only [w_1226_8, w_1226_9, w_1226_10, w_1226_11, w_1226_12, w_1226_7, zi_88, zi_450, zi_66, zi_34, zi_31, zi_117, zi_362, zi_452, zi_33, zi_37, zi_67w1, zi_67w2, zi_111i, zi_111r, zi_111u, zi_111a, zi_74i, zi_74r, zi_74u, zi_74a, zi_75, zi_76, zi_48, zi_0, zi_0n, zi_357, zi_59, zi_106, zi_174, zi_404, zi_164i, zi_164r, zi_164u, zi_164a, zi_193i, zi_193r, zi_193u, zi_193a, zi_133, zi_194, zi_230, zi_165, zi_519, zi_83, zi_200, zi_70, zi_459, zi_236, zi_237, zi_207i, zi_207r, zi_207u, zi_207a, zi_131, zi_393, zi_63, zi_520, zi_521, zi_522, zi_391, zi_314, zi_315, zi_523, zi_408, zi_465, zi_85i, zi_85r, zi_85u, zi_85a, zi_86, zi_524, zi_208, zi_525, zi_526, F.t233, F.r233_0, F.t234, F.l234, kC_eq, toL_s, toL_n, okS0, okS1, okS2, okS3, okS4, okS5, true_and, and_true, hT_wI, hL_wI, hR_wI, hI_wI, hJ_wI, sI_wI, rfP, isIA_100, isIA_120, inb_ok, nI_clamp, nI_add, nI_mul, ↓reduceIte, not_false_eq_true, not_true_eq_false, true_or, or_true, ↓bI_01, ↓b01_0, ↓b01_1, bI_0, z00, z10, n4, n5, n2, n8, Nat.reduceMul, Nat.reduceAdd, Nat.reduceLT, Nat.reduceLeDiff, nI_eq, nI_leI, nI_ltI, Nat.reduceEqDiff, pk_div, nI_sub, Nat.reduceDiv, Nat.reduceSub, g, mw_r, V.r5, shl_n _ h6, hl, z, e_ones _ x hx6, e_ones _ t ht]
      by_cases hp : pcF 7 x ≤ pcF 7 t
      · simp only [hp, not_true_eq_false, and_false, ↓reduceIte, ite_self] at ih ⊢
        exact ih _ _
      · simp only [hp, not_false_eq_true, and_true, ↓reduceIte] at ih ⊢
        by_cases hz : hbs r (nI t) s (nb r) = v
        · simp only [hz, ↓reduceIte] at ih ⊢
          exact ih _ _
        · simp only [hz, ↓reduceIte] at ih ⊢
          exact ih _ _
theorem p_pieces (F : FR h) (hn : hR h 100 0 = some b) (w : WB h b) (V : Vr n r) (s v : Int32) : Pair h b n r 394 1226 [.int s, .int v] := by
  have V' := V.mono (show n ≤ n + 6 by omega)
  by_cases hs : s < nI 0 ∨ nI 4 < s
  · exact ⟨.int (Int32.ofInt (-1)), r, V', fun f T => ⟨f, ScC.refl f, fun Q => by simp -implicitDefEqProofs (disch := first | omega | (simp (disch := omega) only [nb_upr]; omega)) only [R_394, w_394_0, w_394_1, zi_88, zi_114, zi_98, zi_34, zi_31, zi_117, zi_65, zi_108, zi_33, zi_37, zi_67w1, zi_67w2, zi_208, zi_111i, zi_111r, zi_111u, zi_111a, zi_74i, zi_74r, zi_74u, zi_74a, zi_75, zi_76, zi_48, zi_0, zi_0n, zi_92, zi_104, zi_174, zi_229, zi_63, zi_239, zi_240, zi_166, zi_133, zi_236, zi_237, zi_164i, zi_164r, zi_164u, zi_164a, zi_165, zi_241, zi_242, zi_243, zi_214, zi_85i, zi_85r, zi_85u, zi_85a, zi_86, kC_eq, toL_s, toL_n, okS0, okS1, okS2, okS3, okS4, okS5, true_and, and_true, hT_wI, hL_wI, hR_wI, hI_wI, hJ_wI, sI_wI, rfP, isIA_100, isIA_120, inb_ok, nI_clamp, nI_add, nI_mul, ↓reduceIte, not_false_eq_true, not_true_eq_false, true_or, or_true, ↓bI_01, ↓b01_0, ↓b01_1, bI_0, z00, z10, n4, n5, n2, n8, Nat.reduceMul, Nat.reduceAdd, Nat.reduceLT, Nat.reduceLeDiff, e_noSort, hs]⟩, fun f T => ⟨f, Sc.refl f, fun Q => by simp -implicitDefEqProofs (disch := first | omega | (simp (disch := omega) only [nb_upr]; omega)) only [R_1226, w_1226_0, w_1226_1, zi_88, zi_450, zi_66, zi_34, zi_31, zi_117, zi_362, zi_452, zi_33, zi_37, zi_67w1, zi_67w2, zi_111i, zi_111r, zi_111u, zi_111a, zi_74i, zi_74r, zi_74u, zi_74a, zi_75, zi_76, zi_48, zi_0, zi_0n, zi_357, zi_59, zi_106, zi_174, zi_404, zi_164i, zi_164r, zi_164u, zi_164a, zi_193i, zi_193r, zi_193u, zi_193a, zi_133, zi_194, zi_230, zi_165, zi_519, zi_83, zi_200, zi_70, zi_459, zi_236, zi_237, zi_207i, zi_207r, zi_207u, zi_207a, zi_131, zi_393, zi_63, zi_520, zi_521, zi_522, zi_391, zi_314, zi_315, zi_523, zi_408, zi_465, zi_85i, zi_85r, zi_85u, zi_85a, zi_86, zi_524, zi_208, zi_525, zi_526, kC_eq, toL_s, toL_n, okS0, okS1, okS2, okS3, okS4, okS5, true_and, and_true, hT_wI, hL_wI, hR_wI, hI_wI, hJ_wI, sI_wI, rfP, isIA_100, isIA_120, inb_ok, nI_clamp, nI_add, nI_mul, ↓reduceIte, not_false_eq_true, not_true_eq_false, true_or, or_true, ↓bI_01, ↓b01_0, ↓b01_1, bI_0, z00, z10, n4, n5, n2, n8, Nat.reduceMul, Nat.reduceAdd, Nat.reduceLT, Nat.reduceLeDiff, e_isSort, hs]⟩⟩
  by_cases hv : v < nI 0 ∨ nI 999 < v
  · exact ⟨.int (Int32.ofInt (-1)), r, V', fun f T => ⟨f, ScC.refl f, fun Q => by simp -implicitDefEqProofs (disch := first | omega | (simp (disch := omega) only [nb_upr]; omega)) only [R_394, w_394_0, w_394_1, zi_88, zi_114, zi_98, zi_34, zi_31, zi_117, zi_65, zi_108, zi_33, zi_37, zi_67w1, zi_67w2, zi_208, zi_111i, zi_111r, zi_111u, zi_111a, zi_74i, zi_74r, zi_74u, zi_74a, zi_75, zi_76, zi_48, zi_0, zi_0n, zi_92, zi_104, zi_174, zi_229, zi_63, zi_239, zi_240, zi_166, zi_133, zi_236, zi_237, zi_164i, zi_164r, zi_164u, zi_164a, zi_165, zi_241, zi_242, zi_243, zi_214, zi_85i, zi_85r, zi_85u, zi_85a, zi_86, kC_eq, toL_s, toL_n, okS0, okS1, okS2, okS3, okS4, okS5, true_and, and_true, hT_wI, hL_wI, hR_wI, hI_wI, hJ_wI, sI_wI, rfP, isIA_100, isIA_120, inb_ok, nI_clamp, nI_add, nI_mul, ↓reduceIte, not_false_eq_true, not_true_eq_false, true_or, or_true, ↓bI_01, ↓b01_0, ↓b01_1, bI_0, z00, z10, n4, n5, n2, n8, Nat.reduceMul, Nat.reduceAdd, Nat.reduceLT, Nat.reduceLeDiff, e_noSort, hs, e_outside, hv]⟩, fun f T => ⟨f, Sc.refl f, fun Q => by simp -implicitDefEqProofs (disch := first | omega | (simp (disch := omega) only [nb_upr]; omega)) only [R_1226, w_1226_0, w_1226_1, zi_88, zi_450, zi_66, zi_34, zi_31, zi_117, zi_362, zi_452, zi_33, zi_37, zi_67w1, zi_67w2, zi_111i, zi_111r, zi_111u, zi_111a, zi_74i, zi_74r, zi_74u, zi_74a, zi_75, zi_76, zi_48, zi_0, zi_0n, zi_357, zi_59, zi_106, zi_174, zi_404, zi_164i, zi_164r, zi_164u, zi_164a, zi_193i, zi_193r, zi_193u, zi_193a, zi_133, zi_194, zi_230, zi_165, zi_519, zi_83, zi_200, zi_70, zi_459, zi_236, zi_237, zi_207i, zi_207r, zi_207u, zi_207a, zi_131, zi_393, zi_63, zi_520, zi_521, zi_522, zi_391, zi_314, zi_315, zi_523, zi_408, zi_465, zi_85i, zi_85r, zi_85u, zi_85a, zi_86, zi_524, zi_208, zi_525, zi_526, kC_eq, toL_s, toL_n, okS0, okS1, okS2, okS3, okS4, okS5, true_and, and_true, hT_wI, hL_wI, hR_wI, hI_wI, hJ_wI, sI_wI, rfP, isIA_100, isIA_120, inb_ok, nI_clamp, nI_add, nI_mul, ↓reduceIte, not_false_eq_true, not_true_eq_false, true_or, or_true, ↓bI_01, ↓b01_0, ↓b01_1, bI_0, z00, z10, n4, n5, n2, n8, Nat.reduceMul, Nat.reduceAdd, Nat.reduceLT, Nat.reduceLeDiff, e_isSort, hs, e_in, hv]⟩⟩
  obtain ⟨k, -, hk, rfl⟩ := btw (by decide) (by decide) hs
  refine ⟨.int (pbI (Int32.ofInt (-3)) (pbo r k v (2 ^ nb r))), r, V', fun f T => ⟨f, ScC.refl f, fun Q => ?_⟩, fun f T => ⟨f, Sc.refl f, fun Q => ?_⟩⟩
  · simp -implicitDefEqProofs (disch := first | omega | (simp (disch := omega) only [nb_upr]; omega)) only [R_394, w_394_0, w_394_2, zi_88, zi_114, zi_98, zi_34, zi_31, zi_117, zi_65, zi_108, zi_33, zi_37, zi_67w1, zi_67w2, zi_208, zi_111i, zi_111r, zi_111u, zi_111a, zi_74i, zi_74r, zi_74u, zi_74a, zi_75, zi_76, zi_48, zi_0, zi_0n, zi_92, zi_104, zi_174, zi_229, zi_63, zi_239, zi_240, zi_166, zi_133, zi_236, zi_237, zi_164i, zi_164r, zi_164u, zi_164a, zi_165, zi_241, zi_242, zi_243, zi_214, zi_85i, zi_85r, zi_85u, zi_85a, zi_86, kC_eq, toL_s, toL_n, okS0, okS1, okS2, okS3, okS4, okS5, true_and, and_true, hT_wI, hL_wI, hR_wI, hI_wI, hJ_wI, sI_wI, rfP, isIA_100, isIA_120, inb_ok, nI_clamp, nI_add, nI_mul, ↓reduceIte, not_false_eq_true, not_true_eq_false, true_or, or_true, ↓bI_01, ↓b01_0, ↓b01_1, bI_0, z00, z10, n4, n5, n2, n8, Nat.reduceMul, Nat.reduceAdd, Nat.reduceLT, Nat.reduceLeDiff, e_noSort, hs, e_outside, hv]
    exact pieces_loop 30 b h f r F hn w V k (by omega) v (by decide) Q (2 ^ nb r) 0 _ (by omega)
  · simp -implicitDefEqProofs (disch := first | omega | (simp (disch := omega) only [nb_upr]; omega)) only [R_1226, w_1226_0, w_1226_2, zi_88, zi_450, zi_66, zi_34, zi_31, zi_117, zi_362, zi_452, zi_33, zi_37, zi_67w1, zi_67w2, zi_111i, zi_111r, zi_111u, zi_111a, zi_74i, zi_74r, zi_74u, zi_74a, zi_75, zi_76, zi_48, zi_0, zi_0n, zi_357, zi_59, zi_106, zi_174, zi_404, zi_164i, zi_164r, zi_164u, zi_164a, zi_193i, zi_193r, zi_193u, zi_193a, zi_133, zi_194, zi_230, zi_165, zi_519, zi_83, zi_200, zi_70, zi_459, zi_236, zi_237, zi_207i, zi_207r, zi_207u, zi_207a, zi_131, zi_393, zi_63, zi_520, zi_521, zi_522, zi_391, zi_314, zi_315, zi_523, zi_408, zi_465, zi_85i, zi_85r, zi_85u, zi_85a, zi_86, zi_524, zi_208, zi_525, zi_526, kC_eq, toL_s, toL_n, okS0, okS1, okS2, okS3, okS4, okS5, true_and, and_true, hT_wI, hL_wI, hR_wI, hI_wI, hJ_wI, sI_wI, rfP, isIA_100, isIA_120, inb_ok, nI_clamp, nI_add, nI_mul, ↓reduceIte, not_false_eq_true, not_true_eq_false, true_or, or_true, ↓bI_01, ↓b01_0, ↓b01_1, bI_0, z00, z10, n4, n5, n2, n8, Nat.reduceMul, Nat.reduceAdd, Nat.reduceLT, Nat.reduceLeDiff, e_isSort, hs, e_in, hv]
    exact mpieces_loop 30 h f r F V k (by omega) v (by decide) Q (2 ^ nb r) 0 _ _ (by omega)
/-! gives -/
def mx (r : Nat → Int32) (w : Nat) : Int32 := if nI 1 < r (17 + 14 * w) + r (24 + 14 * w) then r (17 + 14 * w) + r (24 + 14 * w) else nI 1
def gvN (r : Nat → Int32) : Nat → Nat
  | 0 => 0
  | w + 1 => if lg_cmp ((r (69 + 2 * w)).toInt64 * (mx r (gvN r w)).toInt64) ((r (69 + 2 * gvN r w)).toInt64 * (mx r w).toInt64) ≤ 0 then gvN r w else w
theorem gvN_lt (r : Nat → Int32) : ∀ w, gvN r w < max 1 w
  | 0 => by show 0 < max 1 0; decide
  | w + 1 => by
    have := gvN_lt r w
    unfold gvN
    split <;> omega
theorem gvN_1 (r : Nat → Int32) : gvN r 1 = 0 := by
  show (if _ then 0 else 0) = 0
  split <;> rfl
theorem mx_held {n w : Nat} {r : Nat → Int32} (V : Vr n r) (hw : w < 4) : (if r (17 + 14 * w) + r (24 + 14 * w) < nI 1 then nI 1 else if nI 18 < r (17 + 14 * w) + r (24 + 14 * w) then nI 18 else r (17 + 14 * w) + r (24 + 14 * w)) = mx r w := by
  obtain ⟨x, hx, ex⟩ := V.sl (s := 2 * w) (by omega)
  obtain ⟨y, hy, ey⟩ := V.sl (s := 2 * w + 1) (by omega)
  rw [show 17 + 7 * (2 * w) = 17 + 14 * w by omega] at ex
  rw [show 17 + 7 * (2 * w + 1) = 24 + 14 * w by omega] at ey
  unfold mx
  rw [ex, ey, nI_add]
  have l1 : (nI (x + y) < nI 1) = (x + y < 1) := propext (nI_ltI (by omega) (by decide))
  have l2 : (nI 18 < nI (x + y)) = (18 < x + y) := propext (nI_ltI (by decide) (by omega))
  have l3 : (nI 1 < nI (x + y)) = (1 < x + y) := propext (nI_ltI (by decide) (by omega))
  simp only [l1, l2, l3]
  rw [if_neg (show ¬ 18 < x + y by omega)]
  by_cases z : x + y < 1
  · rw [if_pos z, if_neg (by omega)]
  · rw [if_neg z]
    by_cases z2 : 1 < x + y
    · rw [if_pos z2]
    · rw [if_neg z2, show x + y = 1 by omega]
theorem gives_loop (d b : Nat) (h : PH) (f : Nat → Nat → Int32) (r : Nat → Int32) (F : FR h) (hn : hR h 100 0 = some b) (w : WB h b) (hd : 1 ≤ d) (Q : Option Value → PH → Prop) :
    ∀ (j k : Nat) (v3 v4 v5 v6 : Value), k + j = 4 → 1 ≤ k → WP d 400 1 [.ref 100, .int (nI (gvN r k)), .int (nI k), v3, v4, v5, v6] [] (wI h (ww f b r)) Q = Q (some (.int (nI (gvN r 4)))) (wI h (ww f b r))
  | 0, k, v3, v4, v5, v6, hk, _ => by
    obtain rfl : k = 4 := by omega
    rw [w_400_1]
    simp -implicitDefEqProofs (disch := first | omega | (simp (disch := omega) only [nb_upr]; omega)) only [w_400_3, zi_31, zi_96i, zi_96r, zi_96u, zi_96a, zi_48, zi_32i, zi_32r, zi_32u, zi_32a, zi_33, zi_34, zi_9, zi_157, zi_0, zi_0n, zi_92, zi_120, zi_106, zi_232, zi_88, zi_121, zi_244, zi_245, zi_246i, zi_246r, zi_246u, zi_246a, zi_247i, zi_247r, zi_247u, zi_247a, zi_248, zi_249, zi_234, zi_250, zi_113, zi_39i, zi_39r, zi_39u, zi_39a, zi_40, zi_67w1, zi_67w2, kC_eq, toL_s, toL_n, okS0, okS1, okS2, okS3, okS4, okS5, true_and, and_true, hT_wI, hL_wI, hR_wI, hI_wI, hJ_wI, sI_wI, rfP, isIA_100, isIA_120, inb_ok, nI_clamp, nI_add, nI_mul, ↓reduceIte, not_false_eq_true, not_true_eq_false, true_or, or_true, ↓bI_01, ↓b01_0, ↓b01_1, bI_0, z00, z10, n4, n5, n2, n8, Nat.reduceMul, Nat.reduceAdd, Nat.reduceLT, Nat.reduceLeDiff, nI_eq, nI_leI, nI_ltI, Nat.reduceEqDiff, pk_div, nI_sub, Nat.reduceDiv, Nat.reduceSub, Nat.le_refl]
  | j + 1, k, v3, v4, v5, v6, hk, h1 => by
    have g : ¬ 4 ≤ k := by omega
    have hg := gvN_lt r k
    have ih := fun v3 v4 v5 v6 => gives_loop d b h f r F hn w hd Q j (k + 1) v3 v4 v5 v6 (by omega) (by omega)
    have e : gvN r (k + 1) = if lg_cmp ((r (69 + 2 * k)).toInt64 * (mx r (gvN r k)).toInt64) ((r (69 + 2 * gvN r k)).toInt64 * (mx r k).toInt64) ≤ 0 then gvN r k else k := rfl
    rw [e] at ih
    generalize gvN r k = G at *
    have hG : G < 4 := by omega
    have em : ∀ w, (if nI 1 < r (17 + 14 * w) + r (24 + 14 * w) then r (17 + 14 * w) + r (24 + 14 * w) else nI 1) = mx r w := fun w => rfl
    rw [w_400_1]
    simp -implicitDefEqProofs (disch := first | omega | (simp (disch := omega) only [nb_upr]; omega)) only [w_400_2, zi_31, zi_96i, zi_96r, zi_96u, zi_96a, zi_48, zi_32i, zi_32r, zi_32u, zi_32a, zi_33, zi_34, zi_9, zi_157, zi_0, zi_0n, zi_92, zi_120, zi_106, zi_232, zi_88, zi_121, zi_244, zi_245, zi_246i, zi_246r, zi_246u, zi_246a, zi_247i, zi_247r, zi_247u, zi_247a, zi_248, zi_249, zi_234, zi_250, zi_113, zi_39i, zi_39r, zi_39u, zi_39a, zi_40, zi_67w1, zi_67w2, F.t100, hn, w.t, w.r7, w.t7, w.l7, kC_eq, toL_s, toL_n, okS0, okS1, okS2, okS3, okS4, okS5, true_and, and_true, hT_wI, hL_wI, hR_wI, hI_wI, hJ_wI, sI_wI, rfP, isIA_100, isIA_120, inb_ok, nI_clamp, nI_add, nI_mul, ↓reduceIte, not_false_eq_true, not_true_eq_false, true_or, or_true, ↓bI_01, ↓b01_0, ↓b01_1, bI_0, z00, z10, n4, n5, n2, n8, Nat.reduceMul, Nat.reduceAdd, Nat.reduceLT, Nat.reduceLeDiff, nI_eq, nI_leI, nI_ltI, Nat.reduceEqDiff, pk_div, nI_sub, Nat.reduceDiv, Nat.reduceSub, g, ww_7, e_sleepersIn _ b h f r w, em]
    by_cases hz : lg_cmp ((r (69 + 2 * k)).toInt64 * (mx r G).toInt64) ((r (69 + 2 * G)).toInt64 * (mx r k).toInt64) ≤ 0
    · simp only [hz, ↓reduceIte] at ih ⊢
      exact ih _ _ _ _
    · simp only [hz, ↓reduceIte] at ih ⊢
      exact ih _ _ _ _
theorem e_ward2 {d : Nat} {f : Nat → Nat → Int32} {Q : Option Value → PH → Prop} (F : FR h) {k : Nat} (hk : k < 4) (hd : 2 ≤ d) : Run d 826 [.ref 233, .int (nI k), .int (nI 2)] (wI h (mw f 234 r)) Q = Q (some (.int (r (17 + 14 * k) + r (24 + 14 * k)))) (wI h (mw f 234 r)) := by
  have hs : ¬ (nI k < nI 0 ∨ nI 3 < nI k) := by
    rintro (z | z)
    · have := (nI_ltI (by omega) (by omega)).mp z; omega
    · have := (nI_ltI (by omega) (by omega)).mp z; omega
  have hv : ¬ (nI 2 < nI 0 ∨ nI 2 < nI 2) := by decide
  have c22 : nI 2 ≤ nI 2 := by decide
  have e1 : 17 + 7 * (2 * k) = 17 + 14 * k := by omega
  have e2 : 17 + 7 * (2 * k + 1) = 24 + 14 * k := by omega
  simp -implicitDefEqProofs (disch := first | omega | (simp (disch := omega) only [nb_upr]; omega)) only [R_826, w_826_0, w_826_1, w_826_2, w_826_3, w_826_4, zi_88, zi_451, zi_66, zi_34, zi_31, zi_51, zi_362, zi_452, zi_33, zi_37, zi_67w1, zi_67w2, zi_157, zi_0, zi_0n, zi_357, zi_361, zi_79, zi_70, zi_106, zi_131, zi_59, zi_453, zi_48, zi_133, F.t233, kC_eq, toL_s, toL_n, okS0, okS1, okS2, okS3, okS4, okS5, true_and, and_true, hT_wI, hL_wI, hR_wI, hI_wI, hJ_wI, sI_wI, rfP, isIA_100, isIA_120, inb_ok, nI_clamp, nI_add, nI_mul, ↓reduceIte, not_false_eq_true, not_true_eq_false, true_or, or_true, ↓bI_01, ↓b01_0, ↓b01_1, bI_0, z00, z10, n4, n5, n2, n8, Nat.reduceMul, Nat.reduceAdd, Nat.reduceLT, Nat.reduceLeDiff, e_isWard, hs, e_in, hv, c22, e_at5 F, e1, e2]
theorem mgives_loop (d : Nat) (h : PH) (f : Nat → Nat → Int32) (r : Nat → Int32) (F : FR h) (V : Vr n r) (hd : 3 ≤ d) (Q : Option Value → PH → Prop) :
    ∀ (j k : Nat) (v3 v4 v5 v6 : Value), k + j = 4 → 1 ≤ k → WP d 1240 1 [.ref 233, .int (nI (gvN r k)), .int (nI k), v3, v4, v5, v6] [] (wI h (mw f 234 r)) Q = Q (some (.int (nI (gvN r 4)))) (wI h (mw f 234 r))
  | 0, k, v3, v4, v5, v6, hk, _ => by
    obtain rfl : k = 4 := by omega
    rw [w_1240_1]
    simp -implicitDefEqProofs (disch := first | omega | (simp (disch := omega) only [nb_upr]; omega)) only [w_1240_4, zi_31, zi_96i, zi_96r, zi_96u, zi_96a, zi_48, zi_32i, zi_32r, zi_32u, zi_32a, zi_33, zi_34, zi_9, zi_77, zi_0, zi_0n, zi_357, zi_361, zi_51, zi_79, zi_70, zi_106, zi_232, zi_88, zi_527, zi_528, zi_477, zi_245, zi_246i, zi_246r, zi_246u, zi_246a, zi_247i, zi_247r, zi_247u, zi_247a, zi_248, zi_249, zi_234, zi_250, zi_86, zi_75, zi_39i, zi_39r, zi_39u, zi_39a, zi_40, zi_67w1, zi_67w2, kC_eq, toL_s, toL_n, okS0, okS1, okS2, okS3, okS4, okS5, true_and, and_true, hT_wI, hL_wI, hR_wI, hI_wI, hJ_wI, sI_wI, rfP, isIA_100, isIA_120, inb_ok, nI_clamp, nI_add, nI_mul, ↓reduceIte, not_false_eq_true, not_true_eq_false, true_or, or_true, ↓bI_01, ↓b01_0, ↓b01_1, bI_0, z00, z10, n4, n5, n2, n8, Nat.reduceMul, Nat.reduceAdd, Nat.reduceLT, Nat.reduceLeDiff, nI_eq, nI_leI, nI_ltI, Nat.reduceEqDiff, pk_div, nI_sub, Nat.reduceDiv, Nat.reduceSub, Nat.le_refl]
  | j + 1, k, v3, v4, v5, v6, hk, h1 => by
    have g : ¬ 4 ≤ k := by omega
    have hg := gvN_lt r k
    have ih := fun v3 v4 v5 v6 => mgives_loop d h f r F V hd Q j (k + 1) v3 v4 v5 v6 (by omega) (by omega)
    have e : gvN r (k + 1) = if lg_cmp ((r (69 + 2 * k)).toInt64 * (mx r (gvN r k)).toInt64) ((r (69 + 2 * gvN r k)).toInt64 * (mx r k).toInt64) ≤ 0 then gvN r k else k := rfl
    rw [e] at ih
    generalize gvN r k = G at *
    have hG : G < 4 := by omega
    have x1 : 68 + 2 * k + 1 = 69 + 2 * k := by omega
    have x2 : 68 + 2 * G + 1 = 69 + 2 * G := by omega
    rw [w_1240_1]
    simp -implicitDefEqProofs (disch := first | omega | (simp (disch := omega) only [nb_upr]; omega)) only [w_1240_2, w_1240_3, zi_31, zi_96i, zi_96r, zi_96u, zi_96a, zi_48, zi_32i, zi_32r, zi_32u, zi_32a, zi_33, zi_34, zi_9, zi_77, zi_0, zi_0n, zi_357, zi_361, zi_51, zi_79, zi_70, zi_106, zi_232, zi_88, zi_527, zi_528, zi_477, zi_245, zi_246i, zi_246r, zi_246u, zi_246a, zi_247i, zi_247r, zi_247u, zi_247a, zi_248, zi_249, zi_234, zi_250, zi_86, zi_75, zi_39i, zi_39r, zi_39u, zi_39a, zi_40, zi_67w1, zi_67w2, F.t233, F.r233_0, F.t234, F.l234, kC_eq, toL_s, toL_n, okS0, okS1, okS2, okS3, okS4, okS5, true_and, and_true, hT_wI, hL_wI, hR_wI, hI_wI, hJ_wI, sI_wI, rfP, isIA_100, isIA_120, inb_ok, nI_clamp, nI_add, nI_mul, ↓reduceIte, not_false_eq_true, not_true_eq_false, true_or, or_true, ↓bI_01, ↓b01_0, ↓b01_1, bI_0, z00, z10, n4, n5, n2, n8, Nat.reduceMul, Nat.reduceAdd, Nat.reduceLT, Nat.reduceLeDiff, nI_eq, nI_leI, nI_ltI, Nat.reduceEqDiff, pk_div, nI_sub, Nat.reduceDiv, Nat.reduceSub, g, x1, x2, mw_r, e_ward2 F, e_held, mx_held V (show G < 4 by omega), mx_held V (show k < 4 by omega)]
    by_cases hz : lg_cmp ((r (69 + 2 * k)).toInt64 * (mx r G).toInt64) ((r (69 + 2 * G)).toInt64 * (mx r k).toInt64) ≤ 0
    · simp only [hz, ↓reduceIte] at ih ⊢
      exact ih _ _ _ _
    · simp only [hz, ↓reduceIte] at ih ⊢
      exact ih _ _ _ _
theorem p_gives (F : FR h) (hn : hR h 100 0 = some b) (w : WB h b) (V : Vr n r) : Pair h b n r 400 1240 [] := by
  have V' := V.mono (show n ≤ n + 6 by omega)
  refine ⟨.int (nI (gvN r 4)), r, V', fun f T => ⟨f, ScC.refl f, fun Q => ?_⟩, fun f T => ⟨f, Sc.refl f, fun Q => ?_⟩⟩
  · have hl := gives_loop 30 b h f r F hn w (by decide) Q 3 1 (.retAddr 0) (.retAddr 0) (.retAddr 0) (.retAddr 0) rfl (by decide)
    rw [gvN_1] at hl
    simp -implicitDefEqProofs (disch := first | omega | (simp (disch := omega) only [nb_upr]; omega)) only [R_400, w_400_0, zi_31, zi_96i, zi_96r, zi_96u, zi_96a, zi_48, zi_32i, zi_32r, zi_32u, zi_32a, zi_33, zi_34, zi_9, zi_157, zi_0, zi_0n, zi_92, zi_120, zi_106, zi_232, zi_88, zi_121, zi_244, zi_245, zi_246i, zi_246r, zi_246u, zi_246a, zi_247i, zi_247r, zi_247u, zi_247a, zi_248, zi_249, zi_234, zi_250, zi_113, zi_39i, zi_39r, zi_39u, zi_39a, zi_40, zi_67w1, zi_67w2, kC_eq, toL_s, toL_n, okS0, okS1, okS2, okS3, okS4, okS5, true_and, and_true, hT_wI, hL_wI, hR_wI, hI_wI, hJ_wI, sI_wI, rfP, isIA_100, isIA_120, inb_ok, nI_clamp, nI_add, nI_mul, ↓reduceIte, not_false_eq_true, not_true_eq_false, true_or, or_true, ↓bI_01, ↓b01_0, ↓b01_1, bI_0, z00, z10, n4, n5, n2, n8, Nat.reduceMul, Nat.reduceAdd, Nat.reduceLT, Nat.reduceLeDiff]
    exact hl
  · have hl := mgives_loop 30 h f r F V (by decide) Q 3 1 (.retAddr 0) (.retAddr 0) (.retAddr 0) (.retAddr 0) rfl (by decide)
    rw [gvN_1] at hl
    simp -implicitDefEqProofs (disch := first | omega | (simp (disch := omega) only [nb_upr]; omega)) only [R_1240, w_1240_0, zi_31, zi_96i, zi_96r, zi_96u, zi_96a, zi_48, zi_32i, zi_32r, zi_32u, zi_32a, zi_33, zi_34, zi_9, zi_77, zi_0, zi_0n, zi_357, zi_361, zi_51, zi_79, zi_70, zi_106, zi_232, zi_88, zi_527, zi_528, zi_477, zi_245, zi_246i, zi_246r, zi_246u, zi_246a, zi_247i, zi_247r, zi_247u, zi_247a, zi_248, zi_249, zi_234, zi_250, zi_86, zi_75, zi_39i, zi_39r, zi_39u, zi_39a, zi_40, zi_67w1, zi_67w2, kC_eq, toL_s, toL_n, okS0, okS1, okS2, okS3, okS4, okS5, true_and, and_true, hT_wI, hL_wI, hR_wI, hI_wI, hJ_wI, sI_wI, rfP, isIA_100, isIA_120, inb_ok, nI_clamp, nI_add, nI_mul, ↓reduceIte, not_false_eq_true, not_true_eq_false, true_or, or_true, ↓bI_01, ↓b01_0, ↓b01_1, bI_0, z00, z10, n4, n5, n2, n8, Nat.reduceMul, Nat.reduceAdd, Nat.reduceLT, Nat.reduceLeDiff]
    exact hl
end
