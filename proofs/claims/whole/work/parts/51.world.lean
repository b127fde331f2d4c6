section
/-! the class's world: sums, sets, draws, casts, nights -/
def stIn (r : Nat → Int32) (s : Nat) : Nat → Int32
  | 0 => nI 0
  | n + 1 => stIn r s n + r (12 + 7 * s + n)
def woIn (r : Nat → Int32) (β : Nat) : Nat → Int32
  | 0 => nI 0
  | n + 1 => woIn r β n + r (81 + 10 * β + n) * r (7 + n)
def emp (r : Nat → Int32) : Nat → Int32
  | 0 => nI 0
  | n + 1 => if stIn r n 5 = 0 then emp r n ||| nI 1 <<< (nI n &&& 31) else emp r n
def hbs (r : Nat → Int32) (set : Int32) (s : Nat) : Nat → Int32
  | 0 => nI 0
  | n + 1 => if set >>> (nI n &&& 31) &&& nI 1 = nI 1 then hbs r set s n + r (81 + 10 * n + s) else hbs r set s n
def mst (r : Nat → Int32) (s : Nat) : Nat → Nat
  | 0 => 0
  | k + 1 => if r (12 + 7 * s + k) ≤ r (12 + 7 * s + mst r s k) then mst r s k else k
def tcn (r : Nat → Int32) : Nat → Nat
  | 0 => 0
  | n + 1 => if r (80 + 10 * n) = nI 9 then tcn r n + 1 else tcn r n
def fwn (r : Nat → Int32) : Nat → Nat
  | 0 => 0
  | n + 1 => if r (69 + 2 * n) < r (68 + 2 * n) then fwn r n else fwn r n + 1
theorem mst_lt (r : Nat → Int32) (s : Nat) : ∀ k, mst r s k < max 1 k
  | 0 => by
    show 0 < max 1 0
    decide
  | k + 1 => by
    have := mst_lt r s k
    unfold mst
    split <;> omega
theorem tcn_le (r : Nat → Int32) : ∀ n, tcn r n ≤ n
  | 0 => Nat.le_refl _
  | n + 1 => by
    have := tcn_le r n
    unfold tcn
    split <;> omega
theorem fwn_le (r : Nat → Int32) : ∀ n, fwn r n ≤ n
  | 0 => Nat.le_refl _
  | n + 1 => by
    have := fwn_le r n
    unfold fwn
    split <;> omega
theorem stockIn_loop (d b : Nat) (h : PH) (f : Nat → Nat → Int32) (r : Nat → Int32) (w : WB h b) (s : Nat) (hs : s < 8) (Q : Option Value → PH → Prop) :
    ∀ (j k : Nat), k + j = 5 → WP d 1609 1 [.ref b, .int (nI s), .int (stIn r s k), .int (nI k)] [] (wI h (ww f b r)) Q = Q (some (.int (stIn r s 5))) (wI h (ww f b r))
  | 0, k, hk => by
    obtain rfl : k = 5 := by omega
    rw [w_1609_1]
    simp (disch := first | omega | (simp (disch := omega) only [nb_upr]; omega)) only [w_1609_2, zi_31, zi_32i, zi_32r, zi_32u, zi_32a, zi_111i, zi_111r, zi_111u, zi_111a, zi_33, zi_63, zi_59, zi_35, zi_34, zi_0, zi_0n, zi_128, zi_88, zi_79, zi_70, zi_106, zi_158i, zi_158r, zi_158u, zi_158a, zi_40, zi_67w1, zi_67w2, w.t, w.r3, w.t3, w.l3, kC_eq, toL_s, toL_n, okS0, okS1, okS2, okS3, okS4, okS5, true_and, and_true, hT_wI, hL_wI, hR_wI, hI_wI, hJ_wI, sI_wI, rfP, isIA_100, isIA_120, inb_ok, nI_clamp, nI_add, nI_mul, ↓reduceIte, not_false_eq_true, not_true_eq_false, true_or, or_true, ↓bI_01, ↓b01_0, ↓b01_1, bI_0, z00, z10, n4, n5, n2, n8, Nat.reduceMul, Nat.reduceAdd, Nat.reduceLT, Nat.reduceLeDiff, nI_leI, Nat.le_refl]
  | j + 1, k, hk => by
    have g : ¬ 5 ≤ k := by omega
    rw [w_1609_1]
    simp (disch := first | omega | (simp (disch := omega) only [nb_upr]; omega)) only [zi_31, zi_32i, zi_32r, zi_32u, zi_32a, zi_111i, zi_111r, zi_111u, zi_111a, zi_33, zi_63, zi_59, zi_35, zi_34, zi_0, zi_0n, zi_128, zi_88, zi_79, zi_70, zi_106, zi_158i, zi_158r, zi_158u, zi_158a, zi_40, zi_67w1, zi_67w2, w.t, w.r3, w.t3, w.l3, kC_eq, toL_s, toL_n, okS0, okS1, okS2, okS3, okS4, okS5, true_and, and_true, hT_wI, hL_wI, hR_wI, hI_wI, hJ_wI, sI_wI, rfP, isIA_100, isIA_120, inb_ok, nI_clamp, nI_add, nI_mul, ↓reduceIte, not_false_eq_true, not_true_eq_false, true_or, or_true, ↓bI_01, ↓b01_0, ↓b01_1, bI_0, z00, z10, n4, n5, n2, n8, Nat.reduceMul, Nat.reduceAdd, Nat.reduceLT, Nat.reduceLeDiff, nI_leI, g, ww_s]
    exact stockIn_loop d b h f r w s hs Q j (k + 1) (by omega)
theorem e_stockIn (d b : Nat) (h : PH) (f : Nat → Nat → Int32) (r : Nat → Int32) (w : WB h b) (s : Nat) (hs : s < 8) (Q : Option Value → PH → Prop) :
    Run d 1609 [.ref b, .int (nI s)] (wI h (ww f b r)) Q = Q (some (.int (stIn r s 5))) (wI h (ww f b r)) := by
  simp (disch := first | omega | (simp (disch := omega) only [nb_upr]; omega)) only [R_1609, w_1609_0, zi_31, zi_32i, zi_32r, zi_32u, zi_32a, zi_111i, zi_111r, zi_111u, zi_111a, zi_33, zi_63, zi_59, zi_35, zi_34, zi_0, zi_0n, zi_128, zi_88, zi_79, zi_70, zi_106, zi_158i, zi_158r, zi_158u, zi_158a, zi_40, zi_67w1, zi_67w2, w.t, w.r3, w.t3, w.l3, kC_eq, toL_s, toL_n, okS0, okS1, okS2, okS3, okS4, okS5, true_and, and_true, hT_wI, hL_wI, hR_wI, hI_wI, hJ_wI, sI_wI, rfP, isIA_100, isIA_120, inb_ok, nI_clamp, nI_add, nI_mul, ↓reduceIte, not_false_eq_true, not_true_eq_false, true_or, or_true, ↓bI_01, ↓b01_0, ↓b01_1, bI_0, z00, z10, n4, n5, n2, n8, Nat.reduceMul, Nat.reduceAdd, Nat.reduceLT, Nat.reduceLeDiff]
  exact stockIn_loop d b h f r w s hs Q 5 0 rfl
theorem worthHeld_loop (d b : Nat) (h : PH) (f : Nat → Nat → Int32) (r : Nat → Int32) (w : WB h b) (β : Nat) (hβ : β < nb r) (h6 : β < 6) (Q : Option Value → PH → Prop) :
    ∀ (j k : Nat), k + j = 5 → WP d 1617 1 [.ref b, .int (nI β), .int (woIn r β k), .int (nI k)] [] (wI h (ww f b r)) Q = Q (some (.int (woIn r β 5))) (wI h (ww f b r))
  | 0, k, hk => by
    obtain rfl : k = 5 := by omega
    rw [w_1617_1]
    simp (disch := first | omega | (simp (disch := omega) only [nb_upr]; omega)) only [w_1617_2, zi_31, zi_32i, zi_32r, zi_32u, zi_32a, zi_111i, zi_111r, zi_111u, zi_111a, zi_33, zi_63, zi_59, zi_35, zi_34, zi_0, zi_0n, zi_148, zi_88, zi_79, zi_70, zi_106, zi_115, zi_158i, zi_158r, zi_158u, zi_158a, zi_40, zi_67w1, zi_67w2, w.t, w.r13, w.t13, w.l13, w.r2, w.t2, w.l2, kC_eq, toL_s, toL_n, okS0, okS1, okS2, okS3, okS4, okS5, true_and, and_true, hT_wI, hL_wI, hR_wI, hI_wI, hJ_wI, sI_wI, rfP, isIA_100, isIA_120, inb_ok, nI_clamp, nI_add, nI_mul, ↓reduceIte, not_false_eq_true, not_true_eq_false, true_or, or_true, ↓bI_01, ↓b01_0, ↓b01_1, bI_0, z00, z10, n4, n5, n2, n8, Nat.reduceMul, Nat.reduceAdd, Nat.reduceLT, Nat.reduceLeDiff, nI_leI, Nat.le_refl]
  | j + 1, k, hk => by
    have g : ¬ 5 ≤ k := by omega
    rw [w_1617_1]
    simp (disch := first | omega | (simp (disch := omega) only [nb_upr]; omega)) only [zi_31, zi_32i, zi_32r, zi_32u, zi_32a, zi_111i, zi_111r, zi_111u, zi_111a, zi_33, zi_63, zi_59, zi_35, zi_34, zi_0, zi_0n, zi_148, zi_88, zi_79, zi_70, zi_106, zi_115, zi_158i, zi_158r, zi_158u, zi_158a, zi_40, zi_67w1, zi_67w2, w.t, w.r13, w.t13, w.l13, w.r2, w.t2, w.l2, kC_eq, toL_s, toL_n, okS0, okS1, okS2, okS3, okS4, okS5, true_and, and_true, hT_wI, hL_wI, hR_wI, hI_wI, hJ_wI, sI_wI, rfP, isIA_100, isIA_120, inb_ok, nI_clamp, nI_add, nI_mul, ↓reduceIte, not_false_eq_true, not_true_eq_false, true_or, or_true, ↓bI_01, ↓b01_0, ↓b01_1, bI_0, z00, z10, n4, n5, n2, n8, Nat.reduceMul, Nat.reduceAdd, Nat.reduceLT, Nat.reduceLeDiff, nI_leI, g, ww_h, ww_2]
    exact worthHeld_loop d b h f r w β hβ h6 Q j (k + 1) (by omega)
theorem e_worthHeld (d b : Nat) (h : PH) (f : Nat → Nat → Int32) (r : Nat → Int32) (w : WB h b) (β : Nat) (hβ : β < nb r) (h6 : β < 6) (Q : Option Value → PH → Prop) :
    Run d 1617 [.ref b, .int (nI β)] (wI h (ww f b r)) Q = Q (some (.int (woIn r β 5))) (wI h (ww f b r)) := by
  simp (disch := first | omega | (simp (disch := omega) only [nb_upr]; omega)) only [R_1617, w_1617_0, zi_31, zi_32i, zi_32r, zi_32u, zi_32a, zi_111i, zi_111r, zi_111u, zi_111a, zi_33, zi_63, zi_59, zi_35, zi_34, zi_0, zi_0n, zi_148, zi_88, zi_79, zi_70, zi_106, zi_115, zi_158i, zi_158r, zi_158u, zi_158a, zi_40, zi_67w1, zi_67w2, w.t, w.r13, w.t13, w.l13, w.r2, w.t2, w.l2, kC_eq, toL_s, toL_n, okS0, okS1, okS2, okS3, okS4, okS5, true_and, and_true, hT_wI, hL_wI, hR_wI, hI_wI, hJ_wI, sI_wI, rfP, isIA_100, isIA_120, inb_ok, nI_clamp, nI_add, nI_mul, ↓reduceIte, not_false_eq_true, not_true_eq_false, true_or, or_true, ↓bI_01, ↓b01_0, ↓b01_1, bI_0, z00, z10, n4, n5, n2, n8, Nat.reduceMul, Nat.reduceAdd, Nat.reduceLT, Nat.reduceLeDiff]
  exact worthHeld_loop d b h f r w β hβ h6 Q 5 0 rfl
theorem empty_loop (d b : Nat) (h : PH) (f : Nat → Nat → Int32) (r : Nat → Int32) (w : WB h b) (hd : 1 ≤ d) (Q : Option Value → PH → Prop) :
    ∀ (j k : Nat), k + j = 8 → WP d 1704 1 [.ref b, .int (emp r k), .int (nI k)] [] (wI h (ww f b r)) Q = Q (some (.int (emp r 8))) (wI h (ww f b r))
  | 0, k, hk => by
    obtain rfl : k = 8 := by omega
    rw [w_1704_1]
    simp (disch := first | omega | (simp (disch := omega) only [nb_upr]; omega)) only [w_1704_3, zi_31, zi_96i, zi_96r, zi_96u, zi_96a, zi_32i, zi_32r, zi_32u, zi_32a, zi_33, zi_34, zi_64, zi_157, zi_0, zi_0n, zi_127, zi_452, zi_88, zi_48, zi_174, zi_175, zi_113, zi_39i, zi_39r, zi_39u, zi_39a, zi_40, zi_67w1, zi_67w2, w.t, kC_eq, toL_s, toL_n, okS0, okS1, okS2, okS3, okS4, okS5, true_and, and_true, hT_wI, hL_wI, hR_wI, hI_wI, hJ_wI, sI_wI, rfP, isIA_100, isIA_120, inb_ok, nI_clamp, nI_add, nI_mul, ↓reduceIte, not_false_eq_true, not_true_eq_false, true_or, or_true, ↓bI_01, ↓b01_0, ↓b01_1, bI_0, z00, z10, n4, n5, n2, n8, Nat.reduceMul, Nat.reduceAdd, Nat.reduceLT, Nat.reduceLeDiff, nI_leI, Nat.le_refl]
  | j + 1, k, hk => by
    have g : ¬ 8 ≤ k := by omega
    have ih := empty_loop d b h f r w hd Q j (k + 1) (by omega)
    rw [w_1704_1]
    simp (disch := first | omega | (simp (disch := omega) only [nb_upr]; omega)) only [w_1704_2, zi_31, zi_96i, zi_96r, zi_96u, zi_96a, zi_32i, zi_32r, zi_32u, zi_32a, zi_33, zi_34, zi_64, zi_157, zi_0, zi_0n, zi_127, zi_452, zi_88, zi_48, zi_174, zi_175, zi_113, zi_39i, zi_39r, zi_39u, zi_39a, zi_40, zi_67w1, zi_67w2, w.t, kC_eq, toL_s, toL_n, okS0, okS1, okS2, okS3, okS4, okS5, true_and, and_true, hT_wI, hL_wI, hR_wI, hI_wI, hJ_wI, sI_wI, rfP, isIA_100, isIA_120, inb_ok, nI_clamp, nI_add, nI_mul, ↓reduceIte, not_false_eq_true, not_true_eq_false, true_or, or_true, ↓bI_01, ↓b01_0, ↓b01_1, bI_0, z00, z10, n4, n5, n2, n8, Nat.reduceMul, Nat.reduceAdd, Nat.reduceLT, Nat.reduceLeDiff, nI_leI, g, e_stockIn _ b h f r w]
    have e : emp r (k + 1) = if stIn r k 5 = 0 then emp r k ||| nI 1 <<< (nI k &&& 31) else emp r k := rfl
    rw [e] at ih
    by_cases hz : stIn r k 5 = 0
    · simp only [hz, ↓reduceIte] at ih ⊢
      exact ih
    · simp only [hz, ↓reduceIte] at ih ⊢
      exact ih
theorem e_emptyStreets (d b : Nat) (h : PH) (f : Nat → Nat → Int32) (r : Nat → Int32) (w : WB h b) (hd : 1 ≤ d) (Q : Option Value → PH → Prop) :
    Run d 1704 [.ref b] (wI h (ww f b r)) Q = Q (some (.int (emp r 8))) (wI h (ww f b r)) := by
  simp (disch := first | omega | (simp (disch := omega) only [nb_upr]; omega)) only [R_1704, w_1704_0, zi_31, zi_96i, zi_96r, zi_96u, zi_96a, zi_32i, zi_32r, zi_32u, zi_32a, zi_33, zi_34, zi_64, zi_157, zi_0, zi_0n, zi_127, zi_452, zi_88, zi_48, zi_174, zi_175, zi_113, zi_39i, zi_39r, zi_39u, zi_39a, zi_40, zi_67w1, zi_67w2, w.t, kC_eq, toL_s, toL_n, okS0, okS1, okS2, okS3, okS4, okS5, true_and, and_true, hT_wI, hL_wI, hR_wI, hI_wI, hJ_wI, sI_wI, rfP, isIA_100, isIA_120, inb_ok, nI_clamp, nI_add, nI_mul, ↓reduceIte, not_false_eq_true, not_true_eq_false, true_or, or_true, ↓bI_01, ↓b01_0, ↓b01_1, bI_0, z00, z10, n4, n5, n2, n8, Nat.reduceMul, Nat.reduceAdd, Nat.reduceLT, Nat.reduceLeDiff]
  exact empty_loop d b h f r w hd Q 8 0 rfl
theorem hbs_loop (d b : Nat) (h : PH) (f : Nat → Nat → Int32) (r : Nat → Int32) (w : WB h b) (h6 : nb r ≤ 6) (h5 : r 5 = nI (nb r)) (set : Int32) (s : Nat) (hs : s < 5) (Q : Option Value → PH → Prop) :
    ∀ (j k : Nat), k + j = nb r → WP d 1722 1 [.ref b, .int set, .int (nI s), .int (hbs r set s k), .int (nI k)] [] (wI h (ww f b r)) Q = Q (some (.int (hbs r set s (nb r)))) (wI h (ww f b r))
  | 0, k, hk => by
    obtain rfl : k = nb r := by omega
    rw [w_1722_1]
    simp (disch := first | omega | (simp (disch := omega) only [nb_upr]; omega)) only [w_1722_3, zi_31, zi_111i, zi_111r, zi_111u, zi_111a, zi_74i, zi_74r, zi_74u, zi_74a, zi_33, zi_76, zi_0, zi_0n, zi_104, zi_157, zi_88, zi_519, zi_48, zi_83, zi_384, zi_63, zi_148, zi_59, zi_79, zi_34, zi_70, zi_106, zi_113, zi_85i, zi_85r, zi_85u, zi_85a, zi_40, zi_67w1, zi_67w2, w.t, w.r13, w.t13, w.l13, kC_eq, toL_s, toL_n, okS0, okS1, okS2, okS3, okS4, okS5, true_and, and_true, hT_wI, hL_wI, hR_wI, hI_wI, hJ_wI, sI_wI, rfP, isIA_100, isIA_120, inb_ok, nI_clamp, nI_add, nI_mul, ↓reduceIte, not_false_eq_true, not_true_eq_false, true_or, or_true, ↓bI_01, ↓b01_0, ↓b01_1, bI_0, z00, z10, n4, n5, n2, n8, Nat.reduceMul, Nat.reduceAdd, Nat.reduceLT, Nat.reduceLeDiff, ww_0_14, h5, nI_leI, Nat.le_refl]
  | j + 1, k, hk => by
    have g : ¬ nb r ≤ k := by omega
    have ih := hbs_loop d b h f r w h6 h5 set s hs Q j (k + 1) (by omega)
    rw [w_1722_1]
    simp (disch := first | omega | (simp (disch := omega) only [nb_upr]; omega)) only [w_1722_2, zi_31, zi_111i, zi_111r, zi_111u, zi_111a, zi_74i, zi_74r, zi_74u, zi_74a, zi_33, zi_76, zi_0, zi_0n, zi_104, zi_157, zi_88, zi_519, zi_48, zi_83, zi_384, zi_63, zi_148, zi_59, zi_79, zi_34, zi_70, zi_106, zi_113, zi_85i, zi_85r, zi_85u, zi_85a, zi_40, zi_67w1, zi_67w2, w.t, w.r13, w.t13, w.l13, kC_eq, toL_s, toL_n, okS0, okS1, okS2, okS3, okS4, okS5, true_and, and_true, hT_wI, hL_wI, hR_wI, hI_wI, hJ_wI, sI_wI, rfP, isIA_100, isIA_120, inb_ok, nI_clamp, nI_add, nI_mul, ↓reduceIte, not_false_eq_true, not_true_eq_false, true_or, or_true, ↓bI_01, ↓b01_0, ↓b01_1, bI_0, z00, z10, n4, n5, n2, n8, Nat.reduceMul, Nat.reduceAdd, Nat.reduceLT, Nat.reduceLeDiff, ww_0_14, h5, nI_leI, g, ww_h]
    have e : hbs r set s (k + 1) = if set >>> (nI k &&& 31) &&& nI 1 = nI 1 then hbs r set s k + r (81 + 10 * k + s) else hbs r set s k := rfl
    rw [e] at ih
    by_cases hz : set >>> (nI k &&& 31) &&& nI 1 = nI 1
    · simp only [hz, ↓reduceIte] at ih ⊢
      exact ih
    · simp only [hz, ↓reduceIte] at ih ⊢
      exact ih
theorem e_heldBySet (d b : Nat) (h : PH) (f : Nat → Nat → Int32) (r : Nat → Int32) (w : WB h b) (h6 : nb r ≤ 6) (h5 : r 5 = nI (nb r)) (set : Int32) (s : Nat) (hs : s < 5) (Q : Option Value → PH → Prop) :
    Run d 1722 [.ref b, .int set, .int (nI s)] (wI h (ww f b r)) Q = Q (some (.int (hbs r set s (nb r)))) (wI h (ww f b r)) := by
  simp (disch := first | omega | (simp (disch := omega) only [nb_upr]; omega)) only [R_1722, w_1722_0, zi_31, zi_111i, zi_111r, zi_111u, zi_111a, zi_74i, zi_74r, zi_74u, zi_74a, zi_33, zi_76, zi_0, zi_0n, zi_104, zi_157, zi_88, zi_519, zi_48, zi_83, zi_384, zi_63, zi_148, zi_59, zi_79, zi_34, zi_70, zi_106, zi_113, zi_85i, zi_85r, zi_85u, zi_85a, zi_40, zi_67w1, zi_67w2, w.t, w.r13, w.t13, w.l13, kC_eq, toL_s, toL_n, okS0, okS1, okS2, okS3, okS4, okS5, true_and, and_true, hT_wI, hL_wI, hR_wI, hI_wI, hJ_wI, sI_wI, rfP, isIA_100, isIA_120, inb_ok, nI_clamp, nI_add, nI_mul, ↓reduceIte, not_false_eq_true, not_true_eq_false, true_or, or_true, ↓bI_01, ↓b01_0, ↓b01_1, bI_0, z00, z10, n4, n5, n2, n8, Nat.reduceMul, Nat.reduceAdd, Nat.reduceLT, Nat.reduceLeDiff]
  exact hbs_loop d b h f r w h6 h5 set s hs Q (nb r) 0 (by omega)
theorem mostIn_loop (d b : Nat) (h : PH) (f : Nat → Nat → Int32) (r : Nat → Int32) (w : WB h b) (s : Nat) (hs : s < 8) (Q : Option Value → PH → Prop) :
    ∀ (j k : Nat), k + j = 5 → 1 ≤ k → WP d 1737 1 [.ref b, .int (nI s), .int (nI (mst r s k)), .int (nI k)] [] (wI h (ww f b r)) Q = Q (some (.int (nI (mst r s 5)))) (wI h (ww f b r))
  | 0, k, hk, _ => by
    obtain rfl : k = 5 := by omega
    rw [w_1737_1]
    simp (disch := first | omega | (simp (disch := omega) only [nb_upr]; omega)) only [w_1737_3, zi_31, zi_32i, zi_32r, zi_32u, zi_32a, zi_48, zi_111i, zi_111r, zi_111u, zi_111a, zi_33, zi_63, zi_59, zi_157, zi_0, zi_0n, zi_128, zi_88, zi_79, zi_70, zi_106, zi_34, zi_72, zi_113, zi_158i, zi_158r, zi_158u, zi_158a, zi_40, zi_67w1, zi_67w2, w.t, w.r3, w.t3, w.l3, kC_eq, toL_s, toL_n, okS0, okS1, okS2, okS3, okS4, okS5, true_and, and_true, hT_wI, hL_wI, hR_wI, hI_wI, hJ_wI, sI_wI, rfP, isIA_100, isIA_120, inb_ok, nI_clamp, nI_add, nI_mul, ↓reduceIte, not_false_eq_true, not_true_eq_false, true_or, or_true, ↓bI_01, ↓b01_0, ↓b01_1, bI_0, z00, z10, n4, n5, n2, n8, Nat.reduceMul, Nat.reduceAdd, Nat.reduceLT, Nat.reduceLeDiff, nI_leI, Nat.le_refl]
  | j + 1, k, hk, h1 => by
    have g : ¬ 5 ≤ k := by omega
    have ih := mostIn_loop d b h f r w s hs Q j (k + 1) (by omega) (by omega)
    have hm : mst r s k < 5 := by have := mst_lt r s k; omega
    rw [w_1737_1]
    simp (disch := first | omega | (simp (disch := omega) only [nb_upr]; omega)) only [w_1737_2, zi_31, zi_32i, zi_32r, zi_32u, zi_32a, zi_48, zi_111i, zi_111r, zi_111u, zi_111a, zi_33, zi_63, zi_59, zi_157, zi_0, zi_0n, zi_128, zi_88, zi_79, zi_70, zi_106, zi_34, zi_72, zi_113, zi_158i, zi_158r, zi_158u, zi_158a, zi_40, zi_67w1, zi_67w2, w.t, w.r3, w.t3, w.l3, kC_eq, toL_s, toL_n, okS0, okS1, okS2, okS3, okS4, okS5, true_and, and_true, hT_wI, hL_wI, hR_wI, hI_wI, hJ_wI, sI_wI, rfP, isIA_100, isIA_120, inb_ok, nI_clamp, nI_add, nI_mul, ↓reduceIte, not_false_eq_true, not_true_eq_false, true_or, or_true, ↓bI_01, ↓b01_0, ↓b01_1, bI_0, z00, z10, n4, n5, n2, n8, Nat.reduceMul, Nat.reduceAdd, Nat.reduceLT, Nat.reduceLeDiff, nI_leI, g, ww_s]
    have e : mst r s (k + 1) = if r (12 + 7 * s + k) ≤ r (12 + 7 * s + mst r s k) then mst r s k else k := rfl
    rw [e] at ih
    by_cases hz : r (12 + 7 * s + k) ≤ r (12 + 7 * s + mst r s k)
    · simp only [hz, ↓reduceIte] at ih ⊢
      exact ih
    · simp only [hz, ↓reduceIte] at ih ⊢
      exact ih
theorem mst_1 (r : Nat → Int32) (s : Nat) : mst r s 1 = 0 := by
  show (if r (12 + 7 * s + 0) ≤ r (12 + 7 * s + 0) then 0 else 0) = 0
  split <;> rfl
theorem e_mostIn (d b : Nat) (h : PH) (f : Nat → Nat → Int32) (r : Nat → Int32) (w : WB h b) (s : Nat) (hs : s < 8) (Q : Option Value → PH → Prop) :
    Run d 1737 [.ref b, .int (nI s)] (wI h (ww f b r)) Q = Q (some (.int (nI (mst r s 5)))) (wI h (ww f b r)) := by
  simp (disch := first | omega | (simp (disch := omega) only [nb_upr]; omega)) only [R_1737, w_1737_0, zi_31, zi_32i, zi_32r, zi_32u, zi_32a, zi_48, zi_111i, zi_111r, zi_111u, zi_111a, zi_33, zi_63, zi_59, zi_157, zi_0, zi_0n, zi_128, zi_88, zi_79, zi_70, zi_106, zi_34, zi_72, zi_113, zi_158i, zi_158r, zi_158u, zi_158a, zi_40, zi_67w1, zi_67w2, w.t, w.r3, w.t3, w.l3, kC_eq, toL_s, toL_n, okS0, okS1, okS2, okS3, okS4, okS5, true_and, and_true, hT_wI, hL_wI, hR_wI, hI_wI, hJ_wI, sI_wI, rfP, isIA_100, isIA_120, inb_ok, nI_clamp, nI_add, nI_mul, ↓reduceIte, not_false_eq_true, not_true_eq_false, true_or, or_true, ↓bI_01, ↓b01_0, ↓b01_1, bI_0, z00, z10, n4, n5, n2, n8, Nat.reduceMul, Nat.reduceAdd, Nat.reduceLT, Nat.reduceLeDiff]
  have := mostIn_loop d b h f r w s hs Q 4 1 rfl (by decide)
  rw [mst_1] at this
  exact this
theorem torn_loop (d b : Nat) (h : PH) (f : Nat → Nat → Int32) (r : Nat → Int32) (w : WB h b) (h6 : nb r ≤ 6) (h5 : r 5 = nI (nb r)) (Q : Option Value → PH → Prop) :
    ∀ (j k : Nat), k + j = nb r → WP d 1744 1 [.ref b, .int (nI (tcn r k)), .int (nI k)] [] (wI h (ww f b r)) Q = Q (some (.int (nI (tcn r (nb r))))) (wI h (ww f b r))
  | 0, k, hk => by
    obtain rfl : k = nb r := by omega
    rw [w_1744_1]
    simp (disch := first | omega | (simp (disch := omega) only [nb_upr]; omega)) only [w_1744_3, zi_31, zi_96i, zi_96r, zi_96u, zi_96a, zi_32i, zi_32r, zi_32u, zi_32a, zi_33, zi_34, zi_0, zi_0n, zi_104, zi_157, zi_146, zi_106, zi_130, zi_384, zi_216i, zi_216r, zi_216u, zi_216a, zi_113, zi_39i, zi_39r, zi_39u, zi_39a, zi_40, zi_88, zi_67w1, zi_67w2, w.t, w.r12, w.t12, w.l12, kC_eq, toL_s, toL_n, okS0, okS1, okS2, okS3, okS4, okS5, true_and, and_true, hT_wI, hL_wI, hR_wI, hI_wI, hJ_wI, sI_wI, rfP, isIA_100, isIA_120, inb_ok, nI_clamp, nI_add, nI_mul, ↓reduceIte, not_false_eq_true, not_true_eq_false, true_or, or_true, ↓bI_01, ↓b01_0, ↓b01_1, bI_0, z00, z10, n4, n5, n2, n8, Nat.reduceMul, Nat.reduceAdd, Nat.reduceLT, Nat.reduceLeDiff, ww_0_14, h5, nI_leI, Nat.le_refl]
  | j + 1, k, hk => by
    have g : ¬ nb r ≤ k := by omega
    have ih := torn_loop d b h f r w h6 h5 Q j (k + 1) (by omega)
    rw [w_1744_1]
    simp (disch := first | omega | (simp (disch := omega) only [nb_upr]; omega)) only [w_1744_2, zi_31, zi_96i, zi_96r, zi_96u, zi_96a, zi_32i, zi_32r, zi_32u, zi_32a, zi_33, zi_34, zi_0, zi_0n, zi_104, zi_157, zi_146, zi_106, zi_130, zi_384, zi_216i, zi_216r, zi_216u, zi_216a, zi_113, zi_39i, zi_39r, zi_39u, zi_39a, zi_40, zi_88, zi_67w1, zi_67w2, w.t, w.r12, w.t12, w.l12, kC_eq, toL_s, toL_n, okS0, okS1, okS2, okS3, okS4, okS5, true_and, and_true, hT_wI, hL_wI, hR_wI, hI_wI, hJ_wI, sI_wI, rfP, isIA_100, isIA_120, inb_ok, nI_clamp, nI_add, nI_mul, ↓reduceIte, not_false_eq_true, not_true_eq_false, true_or, or_true, ↓bI_01, ↓b01_0, ↓b01_1, bI_0, z00, z10, n4, n5, n2, n8, Nat.reduceMul, Nat.reduceAdd, Nat.reduceLT, Nat.reduceLeDiff, ww_0_14, h5, nI_leI, g, ww_12]
    have e : tcn r (k + 1) = if r (80 + 10 * k) = nI 9 then tcn r k + 1 else tcn r k := rfl
    rw [e] at ih
    by_cases hz : r (80 + 10 * k) = nI 9
    · simp only [hz, ↓reduceIte] at ih ⊢
      exact ih
    · simp only [hz, ↓reduceIte] at ih ⊢
      exact ih
theorem e_tornBoats (d b : Nat) (h : PH) (f : Nat → Nat → Int32) (r : Nat → Int32) (w : WB h b) (h6 : nb r ≤ 6) (h5 : r 5 = nI (nb r)) (Q : Option Value → PH → Prop) :
    Run d 1744 [.ref b] (wI h (ww f b r)) Q = Q (some (.int (nI (tcn r (nb r))))) (wI h (ww f b r)) := by
  simp (disch := first | omega | (simp (disch := omega) only [nb_upr]; omega)) only [R_1744, w_1744_0, zi_31, zi_96i, zi_96r, zi_96u, zi_96a, zi_32i, zi_32r, zi_32u, zi_32a, zi_33, zi_34, zi_0, zi_0n, zi_104, zi_157, zi_146, zi_106, zi_130, zi_384, zi_216i, zi_216r, zi_216u, zi_216a, zi_113, zi_39i, zi_39r, zi_39u, zi_39a, zi_40, zi_88, zi_67w1, zi_67w2, w.t, w.r12, w.t12, w.l12, kC_eq, toL_s, toL_n, okS0, okS1, okS2, okS3, okS4, okS5, true_and, and_true, hT_wI, hL_wI, hR_wI, hI_wI, hJ_wI, sI_wI, rfP, isIA_100, isIA_120, inb_ok, nI_clamp, nI_add, nI_mul, ↓reduceIte, not_false_eq_true, not_true_eq_false, true_or, or_true, ↓bI_01, ↓b01_0, ↓b01_1, bI_0, z00, z10, n4, n5, n2, n8, Nat.reduceMul, Nat.reduceAdd, Nat.reduceLT, Nat.reduceLeDiff]
  exact torn_loop d b h f r w h6 h5 Q (nb r) 0 (by omega)
theorem full_loop (d b : Nat) (h : PH) (f : Nat → Nat → Int32) (r : Nat → Int32) (w : WB h b) (Q : Option Value → PH → Prop) :
    ∀ (j k : Nat), k + j = 4 → WP d 1752 1 [.ref b, .int (nI (fwn r k)), .int (nI k)] [] (wI h (ww f b r)) Q = Q (some (.int (nI (fwn r 4)))) (wI h (ww f b r))
  | 0, k, hk => by
    obtain rfl : k = 4 := by omega
    rw [w_1752_1]
    simp (disch := first | omega | (simp (disch := omega) only [nb_upr]; omega)) only [w_1752_3, zi_31, zi_96i, zi_96r, zi_96u, zi_96a, zi_32i, zi_32r, zi_32u, zi_32a, zi_33, zi_34, zi_9, zi_157, zi_0, zi_0n, zi_120, zi_106, zi_118, zi_187, zi_216i, zi_216r, zi_216u, zi_216a, zi_113, zi_39i, zi_39r, zi_39u, zi_39a, zi_40, zi_88, zi_67w1, zi_67w2, w.t, w.r7, w.t7, w.l7, w.r6, w.t6, w.l6, kC_eq, toL_s, toL_n, okS0, okS1, okS2, okS3, okS4, okS5, true_and, and_true, hT_wI, hL_wI, hR_wI, hI_wI, hJ_wI, sI_wI, rfP, isIA_100, isIA_120, inb_ok, nI_clamp, nI_add, nI_mul, ↓reduceIte, not_false_eq_true, not_true_eq_false, true_or, or_true, ↓bI_01, ↓b01_0, ↓b01_1, bI_0, z00, z10, n4, n5, n2, n8, Nat.reduceMul, Nat.reduceAdd, Nat.reduceLT, Nat.reduceLeDiff, nI_leI, Nat.le_refl]
  | j + 1, k, hk => by
    have g : ¬ 4 ≤ k := by omega
    have ih := full_loop d b h f r w Q j (k + 1) (by omega)
    rw [w_1752_1]
    simp (disch := first | omega | (simp (disch := omega) only [nb_upr]; omega)) only [w_1752_2, zi_31, zi_96i, zi_96r, zi_96u, zi_96a, zi_32i, zi_32r, zi_32u, zi_32a, zi_33, zi_34, zi_9, zi_157, zi_0, zi_0n, zi_120, zi_106, zi_118, zi_187, zi_216i, zi_216r, zi_216u, zi_216a, zi_113, zi_39i, zi_39r, zi_39u, zi_39a, zi_40, zi_88, zi_67w1, zi_67w2, w.t, w.r7, w.t7, w.l7, w.r6, w.t6, w.l6, kC_eq, toL_s, toL_n, okS0, okS1, okS2, okS3, okS4, okS5, true_and, and_true, hT_wI, hL_wI, hR_wI, hI_wI, hJ_wI, sI_wI, rfP, isIA_100, isIA_120, inb_ok, nI_clamp, nI_add, nI_mul, ↓reduceIte, not_false_eq_true, not_true_eq_false, true_or, or_true, ↓bI_01, ↓b01_0, ↓b01_1, bI_0, z00, z10, n4, n5, n2, n8, Nat.reduceMul, Nat.reduceAdd, Nat.reduceLT, Nat.reduceLeDiff, nI_leI, g, ww_6, ww_7]
    have e : fwn r (k + 1) = if r (69 + 2 * k) < r (68 + 2 * k) then fwn r k else fwn r k + 1 := rfl
    rw [e] at ih
    by_cases hz : r (69 + 2 * k) < r (68 + 2 * k)
    · simp only [hz, ↓reduceIte] at ih ⊢
      exact ih
    · simp only [hz, ↓reduceIte] at ih ⊢
      exact ih
theorem e_fullWards (d b : Nat) (h : PH) (f : Nat → Nat → Int32) (r : Nat → Int32) (w : WB h b) (Q : Option Value → PH → Prop) :
    Run d 1752 [.ref b] (wI h (ww f b r)) Q = Q (some (.int (nI (fwn r 4)))) (wI h (ww f b r)) := by
  simp (disch := first | omega | (simp (disch := omega) only [nb_upr]; omega)) only [R_1752, w_1752_0, zi_31, zi_96i, zi_96r, zi_96u, zi_96a, zi_32i, zi_32r, zi_32u, zi_32a, zi_33, zi_34, zi_9, zi_157, zi_0, zi_0n, zi_120, zi_106, zi_118, zi_187, zi_216i, zi_216r, zi_216u, zi_216a, zi_113, zi_39i, zi_39r, zi_39u, zi_39a, zi_40, zi_88, zi_67w1, zi_67w2, w.t, w.r7, w.t7, w.l7, w.r6, w.t6, w.l6, kC_eq, toL_s, toL_n, okS0, okS1, okS2, okS3, okS4, okS5, true_and, and_true, hT_wI, hL_wI, hR_wI, hI_wI, hJ_wI, sI_wI, rfP, isIA_100, isIA_120, inb_ok, nI_clamp, nI_add, nI_mul, ↓reduceIte, not_false_eq_true, not_true_eq_false, true_or, or_true, ↓bI_01, ↓b01_0, ↓b01_1, bI_0, z00, z10, n4, n5, n2, n8, Nat.reduceMul, Nat.reduceAdd, Nat.reduceLT, Nat.reduceLeDiff]
  exact full_loop d b h f r w Q 4 0 rfl
theorem e_sleepersIn (d b : Nat) (h : PH) (f : Nat → Nat → Int32) (r : Nat → Int32) (w : WB h b) (s : Nat) (hs : s < 4) (Q : Option Value → PH → Prop) :
    Run d 1601 [.ref b, .int (nI s)] (wI h (ww f b r)) Q = Q (some (.int (r (17 + 14 * s) + r (24 + 14 * s)))) (wI h (ww f b r)) := Run.det (r_sleepersIn d b s h f r w hs) Q
theorem e_ring (d b : Nat) (h : PH) (f : Nat → Nat → Int32) (r : Nat → Int32) (w : WB h b) (V : Vs r) (hd : 1 ≤ d) (Q : Option Value → PH → Prop) : Run d 1664 [.ref b] (wI h (ww f b r)) Q = Q none (wI h (ww f b (bell r))) := by
  obtain ⟨d, rfl⟩ : ∃ e, d = e + 1 := ⟨d - 1, by omega⟩
  exact Run.det (r_ring d b h f r w V) Q
/-! draws -/
def zn (z : Int32) : Int32 := z * nI 1103515245 + nI 12345
def dN (z : Int32) : Nat := (zn z).toUInt32.toNat / 65536
theorem dN_lt (z : Int32) : dN z < 65536 := by
  unfold dN
  have := (zn z).toUInt32.toNat_lt
  omega
theorem toI_n (u : UInt32) : UInt32.toInt32 u = nI u.toNat := by
  apply Int32.toBitVec_inj.mp
  show u.toBitVec = BitVec.ofNat 32 u.toBitVec.toNat
  rw [BitVec.ofNat_toNat, BitVec.setWidth_eq]
theorem shr16 (x : Int32) : UInt32.toInt32 (x.toUInt32 >>> (nI 16 &&& 31).toUInt32) = nI (x.toUInt32.toNat / 65536) := by
  have e : (nI 16 &&& 31).toUInt32 = 16 := by decide
  rw [e, toI_n, UInt32.toNat_shiftRight]
  show nI (x.toUInt32.toNat >>> 16) = _
  rw [Nat.shiftRight_eq_div_pow]
theorem e_draw (d b : Nat) (h : PH) (f : Nat → Nat → Int32) (r : Nat → Int32) (w : WB h b) (Q : Option Value → PH → Prop) :
    Run d 1688 [.ref b] (wI h (ww f b r)) Q = Q (some (.int (nI (dN (r 6))))) (wI h (ww f b (upr r 6 (zn (r 6))))) := by
  simp -implicitDefEqProofs (disch := first | omega | (simp (disch := omega) only [nb_upr]; omega)) only [dN, zn, R_1688, w_1688_0, zi_0, zi_0n, zi_93, zi_482, zi_79, zi_483, zi_70, zi_94, zi_484, zi_485, zi_67w1, zi_67w2, w.t, kC_eq, toL_s, toL_n, okS0, okS1, okS2, okS3, okS4, okS5, true_and, and_true, hT_wI, hL_wI, hR_wI, hI_wI, hJ_wI, sI_wI, rfP, isIA_100, isIA_120, inb_ok, nI_clamp, nI_add, nI_mul, ↓reduceIte, not_false_eq_true, not_true_eq_false, true_or, or_true, ↓bI_01, ↓b01_0, ↓b01_1, bI_0, z00, z10, n4, n5, n2, n8, Nat.reduceMul, Nat.reduceAdd, Nat.reduceLT, Nat.reduceLeDiff, ww_0_17, ws_0_17, upr_same, shr16]
theorem hl_worth_aux (r : Nat → Int32) (β a k : Nat) (ha : a < 8) : ∀ s, s ≤ 5 → ∀ m, m ≤ 5 → woIn (dgr r β a k s) β m = woIn r β m + (if s ≤ m then dgw r β a k s else dgw r β a k m) := by
  intro s hs m
  have pr : ∀ q, q < 5 → dgr r β a k s (7 + q) = r (7 + q) := fun q hq => dgr_out (by omega) s (fun j hj => by omega)
  have hh : ∀ q, q < s → dgr r β a k s (81 + 10 * β + q) = r (81 + 10 * β + q) + tkV (dgr r β a k q) β a k q := by
    intro q hq
    have keep : ∀ t, q + 1 + t ≤ 5 → dgr r β a k (q + 1 + t) (81 + 10 * β + q) = dgr r β a k (q + 1) (81 + 10 * β + q) := by
      intro t
      induction t with
      | zero => intro _; rfl
      | succ t ih =>
        intro ht
        show dg1 (dgr r β a k (q + 1 + t)) β a k (q + 1 + t) _ = _
        rw [dg1_out (by omega) (by omega) (by omega)]
        exact ih (by omega)
    have e1 : dgr r β a k s (81 + 10 * β + q) = dgr r β a k (q + 1) (81 + 10 * β + q) := by
      have := keep (s - (q + 1)) (by omega)
      rwa [show q + 1 + (s - (q + 1)) = s by omega] at this
    have e2 : dgr r β a k q (81 + 10 * β + q) = r (81 + 10 * β + q) := dgr_out (by omega) q (fun j hj => by omega)
    rw [e1]
    show dg1 (dgr r β a k q) β a k q _ = _
    unfold dg1
    split
    · rw [dgT_out (by omega)]; unfold dg2; rw [upr_same, e2]
    · unfold dg2; rw [upr_same, e2]
  have hl : ∀ q, s ≤ q → dgr r β a k s (81 + 10 * β + q) = r (81 + 10 * β + q) := fun q hq => dgr_out (by omega) s (fun j hj => by omega)
  induction m with
  | zero =>
    intro _
    show nI 0 = nI 0 + _
    by_cases h0 : s ≤ 0
    · rw [if_pos h0]
      obtain rfl : s = 0 := by omega
      rfl
    · rw [if_neg h0]; rfl
  | succ m ih =>
    intro hm
    have im := ih (by omega)
    show woIn (dgr r β a k s) β m + dgr r β a k s (81 + 10 * β + m) * dgr r β a k s (7 + m) = (woIn r β m + r (81 + 10 * β + m) * r (7 + m)) + _
    rw [im, pr m (by omega)]
    by_cases h1 : s ≤ m
    · rw [if_pos h1, if_pos (by omega), hl m h1]
      ac_rfl
    · rw [if_neg h1, hh m (by omega), Int32.add_mul]
      have e3 : (if s ≤ m + 1 then dgw r β a k s else dgw r β a k (m + 1)) = dgw r β a k (m + 1) := by
        split
        · rw [show s = m + 1 by omega]
        · rfl
      rw [e3]
      show _ = (woIn r β m + r (81 + 10 * β + m) * r (7 + m)) + (dgw r β a k m + tkV (dgr r β a k m) β a k m * r (7 + m))
      ac_rfl
theorem hl_worth (r : Nat → Int32) (β a k : Nat) (ha : a < 8) : woIn (hlR r β a k) β 5 - woIn r β 5 = hlW r β a k := by
  unfold hlR hlW
  split
  · rw [Int32.sub_self]; rfl
  · have e : ∀ m, m ≤ 5 → woIn (dgE (dgr r β a k 5) a (dga r β a k 5)) β m = woIn (dgr r β a k 5) β m := by
      intro m
      induction m with
      | zero => intro _; rfl
      | succ m ih =>
        intro hm
        show woIn _ β m + _ * _ = woIn _ β m + _ * _
        rw [ih (by omega), dgE_out (by omega) (by omega), dgE_out (by omega) (by omega)]
    rw [e 5 (Nat.le_refl 5), hl_worth_aux r β a k ha 5 (Nat.le_refl 5) 5 (Nat.le_refl 5), if_pos (Nat.le_refl 5), Int32.add_comm, Int32.add_sub_cancel]
theorem e_worthOfDrag (d b : Nat) (h : PH) (f : Nat → Nat → Int32) (r : Nat → Int32) (F : FR h) (w : WB h b) (hb : 100 ≤ b) (T : TB f) (β a k : Nat) (hβ : β < nb r) (h6 : β < 6) (ha : a < 8) (hk : k < 6) (e1 : r (78 + 10 * β) = nI a) (e2 : r (76 + 10 * β) = nI k) (hd : 5 ≤ d) (Q : Option Value → PH → Prop) :
    Run d 1713 [.ref b, .int (nI β)] (wI h (ww f b r)) Q = Q (some (.int (hlW r β a k))) (wI h (ww f b (hlR r β a k))) := by
  have hn : nb (hlR r β a k) = nb r := nb_hl
  simp (disch := first | omega | (simp (disch := omega) only [nb_upr]; omega)) only [R_1713, w_1713_0, zi_0, zi_0n, zi_88, zi_147, zi_32i, zi_32r, zi_32u, zi_32a, zi_152, zi_215i, zi_215r, zi_34, zi_101, zi_67w1, zi_67w2, w.t, kC_eq, toL_s, toL_n, okS0, okS1, okS2, okS3, okS4, okS5, true_and, and_true, hT_wI, hL_wI, hR_wI, hI_wI, hJ_wI, sI_wI, rfP, isIA_100, isIA_120, inb_ok, nI_clamp, nI_add, nI_mul, ↓reduceIte, not_false_eq_true, not_true_eq_false, true_or, or_true, ↓bI_01, ↓b01_0, ↓b01_1, bI_0, z00, z10, n4, n5, n2, n8, Nat.reduceMul, Nat.reduceAdd, Nat.reduceLT, Nat.reduceLeDiff, e_worthHeld _ b h f _ w, e_drag _ b h f r F w hb T β a k hβ h6 ha hk e1 e2, e_worthHeld _ b h f (hlR r β a k) w β (by rw [hn]; exact hβ) h6, hl_worth _ _ _ _ ha]
theorem e_rowPart (d b : Nat) (h : PH) (f : Nat → Nat → Int32) (r : Nat → Int32) (w : WB h b) (s t : Nat) (hs : s < 8) (ht : t < 3) (hd : 1 ≤ d) (Q : Option Value → PH → Prop) :
    Run d 1730 [.ref b, .int (nI s), .int (nI t)] (wI h (ww f b r)) Q = Q (some (.int (if t = 0 then stIn r s 5 else if t = 1 then r (12 + 7 * s + 0) else nI (mst r s 5)))) (wI h (ww f b r)) := by
  have z1 : (nI 0 : Int32) = 0 := nI_0
  match t, ht with
  | 0, _ => simp (disch := first | omega | (simp (disch := omega) only [nb_upr]; omega)) only [R_1730, w_1730_0, w_1730_1, w_1730_2, w_1730_3, zi_34, zi_98, zi_0, zi_0n, zi_88, zi_127, zi_67w1, zi_67w2, zi_48, zi_384, zi_128, zi_59, zi_79, zi_31, zi_70, zi_106, zi_86, zi_622, zi_75, w.t, w.r3, w.t3, w.l3, kC_eq, toL_s, toL_n, okS0, okS1, okS2, okS3, okS4, okS5, true_and, and_true, hT_wI, hL_wI, hR_wI, hI_wI, hJ_wI, sI_wI, rfP, isIA_100, isIA_120, inb_ok, nI_clamp, nI_add, nI_mul, ↓reduceIte, not_false_eq_true, not_true_eq_false, true_or, or_true, ↓bI_01, ↓b01_0, ↓b01_1, bI_0, z00, z10, n4, n5, n2, n8, Nat.reduceMul, Nat.reduceAdd, Nat.reduceLT, Nat.reduceLeDiff, nI_0, e_stockIn _ b h f r w]
  | 1, _ =>
    have n1 : (nI 1 : Int32) = 0 ↔ False := by decide
    simp (disch := first | omega | (simp (disch := omega) only [nb_upr]; omega)) only [R_1730, w_1730_0, w_1730_1, w_1730_2, w_1730_3, zi_34, zi_98, zi_0, zi_0n, zi_88, zi_127, zi_67w1, zi_67w2, zi_48, zi_384, zi_128, zi_59, zi_79, zi_31, zi_70, zi_106, zi_86, zi_622, zi_75, w.t, w.r3, w.t3, w.l3, kC_eq, toL_s, toL_n, okS0, okS1, okS2, okS3, okS4, okS5, true_and, and_true, hT_wI, hL_wI, hR_wI, hI_wI, hJ_wI, sI_wI, rfP, isIA_100, isIA_120, inb_ok, nI_clamp, nI_add, nI_mul, ↓reduceIte, not_false_eq_true, not_true_eq_false, true_or, or_true, ↓bI_01, ↓b01_0, ↓b01_1, bI_0, z00, z10, n4, n5, n2, n8, Nat.reduceMul, Nat.reduceAdd, Nat.reduceLT, Nat.reduceLeDiff, n1, ww_s]
    rfl
  | 2, _ =>
    have n1 : (nI 2 : Int32) = nI 1 ↔ False := by decide
    simp (disch := first | omega | (simp (disch := omega) only [nb_upr]; omega)) only [R_1730, w_1730_0, w_1730_1, w_1730_2, w_1730_3, zi_34, zi_98, zi_0, zi_0n, zi_88, zi_127, zi_67w1, zi_67w2, zi_48, zi_384, zi_128, zi_59, zi_79, zi_31, zi_70, zi_106, zi_86, zi_622, zi_75, w.t, w.r3, w.t3, w.l3, kC_eq, toL_s, toL_n, okS0, okS1, okS2, okS3, okS4, okS5, true_and, and_true, hT_wI, hL_wI, hR_wI, hI_wI, hJ_wI, sI_wI, rfP, isIA_100, isIA_120, inb_ok, nI_clamp, nI_add, nI_mul, ↓reduceIte, not_false_eq_true, not_true_eq_false, true_or, or_true, ↓bI_01, ↓b01_0, ↓b01_1, bI_0, z00, z10, n4, n5, n2, n8, Nat.reduceMul, Nat.reduceAdd, Nat.reduceLT, Nat.reduceLeDiff, n1, n2, e_mostIn _ b h f r w]
    rfl
end
