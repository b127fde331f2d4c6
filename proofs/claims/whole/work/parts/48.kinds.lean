section
/-! what each kind takes and how it tears; a boat's chances in the class's world -/
def ktag : Nat → Nat
  | 0 => 2
  | 1 => 7
  | 2 => 4
  | 3 => 10
  | 4 => 3
  | _ => 5
def ctch (k : Nat) (x s m : Int32) : Int32 := match k with
  | 0 => x / nI 4
  | 1 => x / nI 4 * nI 2
  | 2 => x / nI 4 + m
  | 3 => if s = nI 2 then nI 0 else x / nI 4 * nI 2
  | 4 => (x / nI 4 + m) * nI 2
  | _ => if s = rem5 m then x else x / nI 4
def tear (k : Nat) (m e : Int32) : Int32 := match k with
  | 0 => nI 1
  | 1 => nI 0
  | 2 => nI 2
  | 3 => if nI 3 ≤ e then nI 0 else nI 1
  | 4 => nI 2 + m
  | _ => nI 0
theorem FR.r110 {h : PH} (w : FR h) {k : Nat} (hk : k < 6) : hR h 110 k = some (111 + k) := by
  match k, hk with
  | 0, _ => exact w.r110_0
  | 1, _ => exact w.r110_1
  | 2, _ => exact w.r110_2
  | 3, _ => exact w.r110_3
  | 4, _ => exact w.r110_4
  | 5, _ => exact w.r110_5
theorem FR.tK {h : PH} (w : FR h) {k : Nat} (hk : k < 6) : hT h (111 + k) = ktag k := by
  match k, hk with
  | 0, _ => exact w.t111
  | 1, _ => exact w.t112
  | 2, _ => exact w.t113
  | 3, _ => exact w.t114
  | 4, _ => exact w.t115
  | 5, _ => exact w.t116
theorem FR.tK13 {h : PH} (w : FR h) {k : Nat} (hk : k < 6) : 1 ≤ hT h (111 + k) ∧ hT h (111 + k) ≤ 13 := by
  rw [w.tK hk]
  match k, hk with
  | 0, _ => decide
  | 1, _ => decide
  | 2, _ => decide
  | 3, _ => decide
  | 4, _ => decide
  | 5, _ => decide
theorem pvok_c {k : Nat} (hk : k < 6) : (pvok 43 (ktag k) = true) = True := by
  match k, hk with
  | 0, _ | 1, _ | 2, _ | 3, _ | 4, _ | 5, _ => exact eq_true rfl
theorem pvok_t {k : Nat} (hk : k < 6) : (pvok 50 (ktag k) = true) = True := by
  match k, hk with
  | 0, _ | 1, _ | 2, _ | 3, _ | 4, _ | 5, _ => exact eq_true rfl
theorem e_ctch (d : Nat) (h : PH) (w : FR h) (k : Nat) (hk : k < 6) (x s m : Int32) (hd : 2 ≤ d) (Q : Option Value → PH → Prop) :
    Run d (pvsel 43 (ktag k)) [.ref (111 + k), .int x, .int s, .int m] h Q = Q (some (.int (ctch k x s m))) h := by
  have t := w.tK13 hk
  match k, hk, t with
  | 0, _, t =>
    show Run d 1971 _ _ _ = _
    simp (disch := omega) only [R_1971, w_1971_0, zi_88, zi_9, zi_238, zi_67w1, zi_67w2, kC_eq, toL_s, toL_n, okS0, okS1, okS2, okS3, okS4, okS5, true_and, and_true, hT_wI, hL_wI, hR_wI, hI_wI, hJ_wI, sI_wI, rfP, isIA_100, isIA_120, inb_ok, nI_clamp, nI_add, nI_mul, ↓reduceIte, not_false_eq_true, not_true_eq_false, true_or, or_true, ↓bI_01, ↓b01_0, ↓b01_1, bI_0, z00, z10, n4, n5, n2, n8, Nat.reduceMul, Nat.reduceAdd, Nat.reduceLT, Nat.reduceLeDiff]
    rfl
  | 1, _, t =>
    show Run d 2035 _ _ _ = _
    simp (disch := omega) only [R_2035, w_2035_0, R_1971, w_1971_0, zi_0, zi_0n, zi_88, zi_34, zi_63, zi_681, zi_51, zi_79, zi_67w1, zi_67w2, zi_9, zi_238, kC_eq, toL_s, toL_n, okS0, okS1, okS2, okS3, okS4, okS5, true_and, and_true, hT_wI, hL_wI, hR_wI, hI_wI, hJ_wI, sI_wI, rfP, isIA_100, isIA_120, inb_ok, nI_clamp, nI_add, nI_mul, ↓reduceIte, not_false_eq_true, not_true_eq_false, true_or, or_true, ↓bI_01, ↓b01_0, ↓b01_1, bI_0, z00, z10, n4, n5, n2, n8, Nat.reduceMul, Nat.reduceAdd, Nat.reduceLT, Nat.reduceLeDiff, t]
    rfl
  | 2, _, t =>
    show Run d 2075 _ _ _ = _
    simp (disch := omega) only [R_2075, w_2075_0, R_1971, w_1971_0, zi_0, zi_0n, zi_88, zi_34, zi_63, zi_681, zi_70, zi_67w1, zi_67w2, zi_9, zi_238, kC_eq, toL_s, toL_n, okS0, okS1, okS2, okS3, okS4, okS5, true_and, and_true, hT_wI, hL_wI, hR_wI, hI_wI, hJ_wI, sI_wI, rfP, isIA_100, isIA_120, inb_ok, nI_clamp, nI_add, nI_mul, ↓reduceIte, not_false_eq_true, not_true_eq_false, true_or, or_true, ↓bI_01, ↓b01_0, ↓b01_1, bI_0, z00, z10, n4, n5, n2, n8, Nat.reduceMul, Nat.reduceAdd, Nat.reduceLT, Nat.reduceLeDiff, t]
    rfl
  | 3, _, t =>
    show Run d 2123 _ _ _ = _
    simp (disch := omega) only [R_2123, w_2123_0, w_2123_1, w_2123_2, R_2035, w_2035_0, R_1971, w_1971_0, zi_34, zi_51, zi_431, zi_31, zi_112, zi_0, zi_0n, zi_88, zi_63, zi_688, zi_113, zi_67w1, zi_67w2, zi_681, zi_79, zi_9, zi_238, kC_eq, toL_s, toL_n, okS0, okS1, okS2, okS3, okS4, okS5, true_and, and_true, hT_wI, hL_wI, hR_wI, hI_wI, hJ_wI, sI_wI, rfP, isIA_100, isIA_120, inb_ok, nI_clamp, nI_add, nI_mul, ↓reduceIte, not_false_eq_true, not_true_eq_false, true_or, or_true, ↓bI_01, ↓b01_0, ↓b01_1, bI_0, z00, z10, n4, n5, n2, n8, Nat.reduceMul, Nat.reduceAdd, Nat.reduceLT, Nat.reduceLeDiff, t]
    unfold ctch
    split <;> rfl
  | 4, _, t =>
    show Run d 2171 _ _ _ = _
    simp (disch := omega) only [R_2171, w_2171_0, R_2075, w_2075_0, R_1971, w_1971_0, zi_0, zi_0n, zi_88, zi_34, zi_63, zi_692, zi_51, zi_79, zi_67w1, zi_67w2, zi_681, zi_70, zi_9, zi_238, kC_eq, toL_s, toL_n, okS0, okS1, okS2, okS3, okS4, okS5, true_and, and_true, hT_wI, hL_wI, hR_wI, hI_wI, hJ_wI, sI_wI, rfP, isIA_100, isIA_120, inb_ok, nI_clamp, nI_add, nI_mul, ↓reduceIte, not_false_eq_true, not_true_eq_false, true_or, or_true, ↓bI_01, ↓b01_0, ↓b01_1, bI_0, z00, z10, n4, n5, n2, n8, Nat.reduceMul, Nat.reduceAdd, Nat.reduceLT, Nat.reduceLeDiff, t]
    rfl
  | 5, _, t =>
    show Run d 2219 _ _ _ = _
    simp (disch := omega) only [R_2219, w_2219_0, w_2219_1, w_2219_2, R_1971, w_1971_0, zi_34, zi_63, zi_59, zi_196, zi_431, zi_88, zi_112, zi_0, zi_0n, zi_681, zi_113, zi_67w1, zi_67w2, zi_9, zi_238, kC_eq, toL_s, toL_n, okS0, okS1, okS2, okS3, okS4, okS5, true_and, and_true, hT_wI, hL_wI, hR_wI, hI_wI, hJ_wI, sI_wI, rfP, isIA_100, isIA_120, inb_ok, nI_clamp, nI_add, nI_mul, ↓reduceIte, not_false_eq_true, not_true_eq_false, true_or, or_true, ↓bI_01, ↓b01_0, ↓b01_1, bI_0, z00, z10, n4, n5, n2, n8, Nat.reduceMul, Nat.reduceAdd, Nat.reduceLT, Nat.reduceLeDiff, t]
    unfold ctch rem5
    split <;> rfl
theorem e_tear (d : Nat) (h : PH) (w : FR h) (k : Nat) (hk : k < 6) (m e : Int32) (hd : 2 ≤ d) (Q : Option Value → PH → Prop) :
    Run d (pvsel 50 (ktag k)) [.ref (111 + k), .int m, .int e] h Q = Q (some (.int (tear k m e))) h := by
  have t := w.tK13 hk
  match k, hk, t with
  | 0, _, t =>
    show Run d 1978 _ _ _ = _
    simp (disch := omega) only [R_1978, w_1978_0, zi_48, zi_67w1, zi_67w2, kC_eq, toL_s, toL_n, okS0, okS1, okS2, okS3, okS4, okS5, true_and, and_true, hT_wI, hL_wI, hR_wI, hI_wI, hJ_wI, sI_wI, rfP, isIA_100, isIA_120, inb_ok, nI_clamp, nI_add, nI_mul, ↓reduceIte, not_false_eq_true, not_true_eq_false, true_or, or_true, ↓bI_01, ↓b01_0, ↓b01_1, bI_0, z00, z10, n4, n5, n2, n8, Nat.reduceMul, Nat.reduceAdd, Nat.reduceLT, Nat.reduceLeDiff]
    rfl
  | 1, _, t =>
    show Run d 2042 _ _ _ = _
    simp (disch := omega) only [R_2042, w_2042_0, zi_31, zi_67w1, zi_67w2, kC_eq, toL_s, toL_n, okS0, okS1, okS2, okS3, okS4, okS5, true_and, and_true, hT_wI, hL_wI, hR_wI, hI_wI, hJ_wI, sI_wI, rfP, isIA_100, isIA_120, inb_ok, nI_clamp, nI_add, nI_mul, ↓reduceIte, not_false_eq_true, not_true_eq_false, true_or, or_true, ↓bI_01, ↓b01_0, ↓b01_1, bI_0, z00, z10, n4, n5, n2, n8, Nat.reduceMul, Nat.reduceAdd, Nat.reduceLT, Nat.reduceLeDiff, t]
    rfl
  | 2, _, t =>
    show Run d 2082 _ _ _ = _
    simp (disch := omega) only [R_2082, w_2082_0, R_1978, w_1978_0, zi_0, zi_0n, zi_88, zi_34, zi_684, zi_48, zi_70, zi_67w1, zi_67w2, kC_eq, toL_s, toL_n, okS0, okS1, okS2, okS3, okS4, okS5, true_and, and_true, hT_wI, hL_wI, hR_wI, hI_wI, hJ_wI, sI_wI, rfP, isIA_100, isIA_120, inb_ok, nI_clamp, nI_add, nI_mul, ↓reduceIte, not_false_eq_true, not_true_eq_false, true_or, or_true, ↓bI_01, ↓b01_0, ↓b01_1, bI_0, z00, z10, n4, n5, n2, n8, Nat.reduceMul, Nat.reduceAdd, Nat.reduceLT, Nat.reduceLeDiff, t]
    rfl
  | 3, _, t =>
    show Run d 2130 _ _ _ = _
    simp (disch := omega) only [R_2130, w_2130_0, w_2130_1, w_2130_2, R_2042, w_2042_0, zi_0, zi_0n, zi_88, zi_34, zi_689, zi_54, zi_186, zi_48, zi_112, zi_31, zi_113, zi_70, zi_67w1, zi_67w2, kC_eq, toL_s, toL_n, okS0, okS1, okS2, okS3, okS4, okS5, true_and, and_true, hT_wI, hL_wI, hR_wI, hI_wI, hJ_wI, sI_wI, rfP, isIA_100, isIA_120, inb_ok, nI_clamp, nI_add, nI_mul, ↓reduceIte, not_false_eq_true, not_true_eq_false, true_or, or_true, ↓bI_01, ↓b01_0, ↓b01_1, bI_0, z00, z10, n4, n5, n2, n8, Nat.reduceMul, Nat.reduceAdd, Nat.reduceLT, Nat.reduceLeDiff, t]
    unfold tear
    split <;> rfl
  | 4, _, t =>
    show Run d 2178 _ _ _ = _
    simp (disch := omega) only [R_2178, w_2178_0, R_2082, w_2082_0, R_1978, w_1978_0, zi_0, zi_0n, zi_88, zi_34, zi_693, zi_70, zi_67w1, zi_67w2, zi_684, zi_48, kC_eq, toL_s, toL_n, okS0, okS1, okS2, okS3, okS4, okS5, true_and, and_true, hT_wI, hL_wI, hR_wI, hI_wI, hJ_wI, sI_wI, rfP, isIA_100, isIA_120, inb_ok, nI_clamp, nI_add, nI_mul, ↓reduceIte, not_false_eq_true, not_true_eq_false, true_or, or_true, ↓bI_01, ↓b01_0, ↓b01_1, bI_0, z00, z10, n4, n5, n2, n8, Nat.reduceMul, Nat.reduceAdd, Nat.reduceLT, Nat.reduceLeDiff, t]
    rfl
  | 5, _, t =>
    show Run d 2226 _ _ _ = _
    simp (disch := omega) only [R_2226, w_2226_0, zi_31, zi_67w1, zi_67w2, kC_eq, toL_s, toL_n, okS0, okS1, okS2, okS3, okS4, okS5, true_and, and_true, hT_wI, hL_wI, hR_wI, hI_wI, hJ_wI, sI_wI, rfP, isIA_100, isIA_120, inb_ok, nI_clamp, nI_add, nI_mul, ↓reduceIte, not_false_eq_true, not_true_eq_false, true_or, or_true, ↓bI_01, ↓b01_0, ↓b01_1, bI_0, z00, z10, n4, n5, n2, n8, Nat.reduceMul, Nat.reduceAdd, Nat.reduceLT, Nat.reduceLeDiff, t]
    rfl
def mayH (r : Nat → Int32) (β a : Nat) : Int32 := bI (¬ (nI 9 ≤ r (80 + 10 * β) ∨ r (68 + 2 * (a / 2)) ≤ r (69 + 2 * (a / 2))))
theorem e_mayHaul (d b : Nat) (h : PH) (f : Nat → Nat → Int32) (r : Nat → Int32) (w : WB h b) (β a : Nat) (hβ : β < nb r) (h6 : β < 6) (ha : a < 8) (e : r (78 + 10 * β) = nI a) (Q : Option Value → PH → Prop) :
    Run d 1649 [.ref b, .int (nI β)] (wI h (ww f b r)) Q = Q (some (.int (mayH r β a))) (wI h (ww f b r)) := by
  simp (disch := omega) only [R_1649, w_1649_0, w_1649_1, w_1649_2, zi_0, zi_0n, zi_144, zi_88, zi_106, zi_51, zi_238, zi_32i, zi_32r, zi_32u, zi_32a, zi_146, zi_130, zi_186, zi_120, zi_34, zi_118, zi_48, zi_112, zi_31, zi_113, zi_67w1, zi_67w2, w.t, w.r10, w.t10, w.l10, w.r12, w.t12, w.l12, w.r7, w.t7, w.l7, w.r6, w.t6, w.l6, kC_eq, toL_s, toL_n, okS0, okS1, okS2, okS3, okS4, okS5, true_and, and_true, hT_wI, hL_wI, hR_wI, hI_wI, hJ_wI, sI_wI, rfP, isIA_100, isIA_120, inb_ok, nI_clamp, nI_add, nI_mul, ↓reduceIte, not_false_eq_true, not_true_eq_false, true_or, or_true, ↓bI_01, ↓b01_0, ↓b01_1, bI_0, z00, z10, n4, n5, n2, n8, Nat.reduceMul, Nat.reduceAdd, Nat.reduceLT, Nat.reduceLeDiff, ww_10, ww_12, ww_6, ww_7, e, pk_div]
  unfold mayH
  by_cases h1 : nI 9 ≤ r (80 + 10 * β)
  · simp only [h1, ↓reduceIte, true_or, not_true_eq_false, bI]
  · by_cases h2 : r (68 + 2 * (a / 2)) ≤ r (69 + 2 * (a / 2))
    · simp only [h1, h2, ↓reduceIte, or_true, not_true_eq_false, bI]
    · simp only [h1, h2, ↓reduceIte, or_self, not_false_eq_true, bI]
theorem e_kindOf (d b : Nat) (h : PH) (f : Nat → Nat → Int32) (r : Nat → Int32) (F : FR h) (w : WB h b) (β k : Nat) (hβ : β < nb r) (h6 : β < 6) (hk : k < 6) (e : r (76 + 10 * β) = nI k) (Q : Option Value → PH → Prop) :
    Run d 1633 [.ref b, .int (nI β)] (wI h (ww f b r)) Q = Q (some (.ref (111 + k))) (wI h (ww f b r)) := by
  simp (disch := omega) only [R_1633, w_1633_0, zi_0, zi_0n, zi_615, zi_142, zi_88, zi_106, zi_183, zi_62r, w.t, w.r0, w.r8, w.t8, w.l8, kC_eq, toL_s, toL_n, okS0, okS1, okS2, okS3, okS4, okS5, true_and, and_true, hT_wI, hL_wI, hR_wI, hI_wI, hJ_wI, sI_wI, rfP, isIA_100, isIA_120, inb_ok, nI_clamp, nI_add, nI_mul, ↓reduceIte, not_false_eq_true, not_true_eq_false, true_or, or_true, ↓bI_01, ↓b01_0, ↓b01_1, bI_0, z00, z10, n4, n5, n2, n8, Nat.reduceMul, Nat.reduceAdd, Nat.reduceLT, Nat.reduceLeDiff, ww_8, e, F.t110, F.l110, F.r110 hk]
/-- what a boat takes of a sort -/
def tk (r : Nat → Int32) (β a k s : Nat) : Int32 := if ctch k (r (12 + 7 * a + s)) (nI s) (r (77 + 10 * β)) < r (12 + 7 * a + s) then ctch k (r (12 + 7 * a + s)) (nI s) (r (77 + 10 * β)) else r (12 + 7 * a + s)
theorem e_takeOf (d b : Nat) (h : PH) (f : Nat → Nat → Int32) (r : Nat → Int32) (F : FR h) (w : WB h b) (β a k s : Nat) (hβ : β < nb r) (h6 : β < 6) (ha : a < 8) (hk : k < 6) (hs : s < 5) (e1 : r (78 + 10 * β) = nI a) (e2 : r (76 + 10 * β) = nI k) (hd : 3 ≤ d) (Q : Option Value → PH → Prop) :
    Run d 1626 [.ref b, .int (nI β), .int (nI s)] (wI h (ww f b r)) Q = Q (some (.int (tk r β a k s))) (wI h (ww f b r)) := by
  simp (disch := omega) only [R_1626, w_1626_0, zi_0, zi_0n, zi_128, zi_144, zi_88, zi_106, zi_59, zi_79, zi_34, zi_70, zi_111i, zi_111r, zi_111u, zi_111a, zi_63, zi_311, zi_143, zi_614, zi_154, zi_67w1, zi_67w2, w.t, w.r3, w.t3, w.l3, w.r10, w.t10, w.l10, w.r9, w.t9, w.l9, kC_eq, toL_s, toL_n, okS0, okS1, okS2, okS3, okS4, okS5, true_and, and_true, hT_wI, hL_wI, hR_wI, hI_wI, hJ_wI, sI_wI, rfP, isIA_100, isIA_120, inb_ok, nI_clamp, nI_add, nI_mul, ↓reduceIte, not_false_eq_true, not_true_eq_false, true_or, or_true, ↓bI_01, ↓b01_0, ↓b01_1, bI_0, z00, z10, n4, n5, n2, n8, Nat.reduceMul, Nat.reduceAdd, Nat.reduceLT, Nat.reduceLeDiff, ww_10, ww_s, ww_9, e1, e_kindOf _ b h f r F w β k hβ h6 hk e2, F.tK hk, pvok_c hk, e_ctch _ _ (show FR (wI h (ww f b r)) from F) k hk]
  rfl
theorem e_tearOf (d b : Nat) (h : PH) (f : Nat → Nat → Int32) (r : Nat → Int32) (F : FR h) (w : WB h b) (β k : Nat) (hβ : β < nb r) (h6 : β < 6) (hk : k < 6) (e2 : r (76 + 10 * β) = nI k) (hd : 3 ≤ d) (Q : Option Value → PH → Prop) :
    Run d 1641 [.ref b, .int (nI β)] (wI h (ww f b r)) Q = Q (some (.int (tear k (r (77 + 10 * β)) (r (79 + 10 * β))))) (wI h (ww f b r)) := by
  simp (disch := omega) only [R_1641, w_1641_0, zi_0, zi_0n, zi_88, zi_311, zi_143, zi_106, zi_145, zi_616, zi_67w1, zi_67w2, w.t, w.r9, w.t9, w.l9, w.r11, w.t11, w.l11, kC_eq, toL_s, toL_n, okS0, okS1, okS2, okS3, okS4, okS5, true_and, and_true, hT_wI, hL_wI, hR_wI, hI_wI, hJ_wI, sI_wI, rfP, isIA_100, isIA_120, inb_ok, nI_clamp, nI_add, nI_mul, ↓reduceIte, not_false_eq_true, not_true_eq_false, true_or, or_true, ↓bI_01, ↓b01_0, ↓b01_1, bI_0, z00, z10, n4, n5, n2, n8, Nat.reduceMul, Nat.reduceAdd, Nat.reduceLT, Nat.reduceLeDiff, ww_11, ww_9, e_kindOf _ b h f r F w β k hβ h6 hk e2, F.tK hk, pvok_t hk, e_tear _ _ (show FR (wI h (ww f b r)) from F) k hk]
end
