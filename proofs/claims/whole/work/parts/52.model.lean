section
/-! the reference's row methods -/
variable {d : Nat} {h : PH} {f : Nat → Nat → Int32} {r : Nat → Int32} {Q : Option Value → PH → Prop}
theorem mw_b {f : Nat → Nat → Int32} {c β k : Nat} {r : Nat → Int32} (h : β < nb r) (h6 : β < 6) (hk : k < 10) : mw f c r c (76 + 10 * β + k) = r (76 + 10 * β + k) := mw_read (lim_b h h6 hk)
theorem mw_wb {f : Nat → Nat → Int32} {c β k : Nat} {r : Nat → Int32} {x : Int32} (h : β < nb r) (h6 : β < 6) (hk : k < 10) : up2 (mw f c r) c (76 + 10 * β + k) x = mw f c (upr r (76 + 10 * β + k) x) := mw_write (lim_b h h6 hk) (by omega)
theorem e_itsg (F : FR h) {β k : Nat} (hβ : β < nb r) (h6 : β < 6) (hk : k < 10) : Run d 914 [.ref 233, .int (nI β), .int (nI k)] (wI h (mw f 234 r)) Q = Q (some (.int (r (76 + 10 * β + k)))) (wI h (mw f 234 r)) := by
  simp (disch := first | omega | (simp (disch := omega) only [nb_upr]; omega)) only [R_914, w_914_0, zi_0, zi_0n, zi_357, zi_435, zi_140, zi_88, zi_79, zi_70, zi_34, zi_106, zi_67w1, zi_67w2, F.t233, F.r233_0, F.t234, F.l234, kC_eq, toL_s, toL_n, okS0, okS1, okS2, okS3, okS4, true_and, and_true, hT_wI, hL_wI, hR_wI, hI_wI, hJ_wI, sI_wI, rfP, isIA_100, isIA_120, inb_ok, nI_clamp, nI_add, nI_mul, ↓reduceIte, not_false_eq_true, not_true_eq_false, true_or, or_true, bI_01, b01_0, b01_1, bI_0, n4, n5, n2, n8, Nat.reduceMul, Nat.reduceAdd, Nat.reduceLT, Nat.reduceLeDiff, mw_b hβ h6 hk]
theorem e_setsg (F : FR h) {β k : Nat} {v : Int32} (hβ : β < nb r) (h6 : β < 6) (hk : k < 10) : Run d 891 [.ref 233, .int (nI β), .int (nI k), .int v] (wI h (mw f 234 r)) Q = Q none (wI h (mw f 234 (upr r (76 + 10 * β + k) v))) := by
  simp (disch := first | omega | (simp (disch := omega) only [nb_upr]; omega)) only [R_891, w_891_0, zi_0, zi_0n, zi_357, zi_435, zi_140, zi_88, zi_79, zi_70, zi_34, zi_63, zi_38, zi_41, F.t233, F.r233_0, F.t234, F.l234, kC_eq, toL_s, toL_n, okS0, okS1, okS2, okS3, okS4, true_and, and_true, hT_wI, hL_wI, hR_wI, hI_wI, hJ_wI, sI_wI, rfP, isIA_100, isIA_120, inb_ok, nI_clamp, nI_add, nI_mul, ↓reduceIte, not_false_eq_true, not_true_eq_false, true_or, or_true, bI_01, b01_0, b01_1, bI_0, n4, n5, n2, n8, Nat.reduceMul, Nat.reduceAdd, Nat.reduceLT, Nat.reduceLeDiff, mw_wb hβ h6 hk]
theorem e_its0 (F : FR h) {β : Nat} (hβ : β < nb r) (h6 : β < 6) : Run d 914 [.ref 233, .int (nI β), .int (nI 0)] (wI h (mw f 234 r)) Q = Q (some (.int (r (76 + 10 * β)))) (wI h (mw f 234 r)) := e_itsg F hβ h6 (by decide)
theorem e_its1 (F : FR h) {β : Nat} (hβ : β < nb r) (h6 : β < 6) : Run d 914 [.ref 233, .int (nI β), .int (nI 1)] (wI h (mw f 234 r)) Q = Q (some (.int (r (77 + 10 * β)))) (wI h (mw f 234 r)) := by
  rw [e_itsg F hβ h6 (by decide), show 76 + 10 * β + 1 = 77 + 10 * β by omega]
theorem e_its2 (F : FR h) {β : Nat} (hβ : β < nb r) (h6 : β < 6) : Run d 914 [.ref 233, .int (nI β), .int (nI 2)] (wI h (mw f 234 r)) Q = Q (some (.int (r (78 + 10 * β)))) (wI h (mw f 234 r)) := by
  rw [e_itsg F hβ h6 (by decide), show 76 + 10 * β + 2 = 78 + 10 * β by omega]
theorem e_its3 (F : FR h) {β : Nat} (hβ : β < nb r) (h6 : β < 6) : Run d 914 [.ref 233, .int (nI β), .int (nI 3)] (wI h (mw f 234 r)) Q = Q (some (.int (r (79 + 10 * β)))) (wI h (mw f 234 r)) := by
  rw [e_itsg F hβ h6 (by decide), show 76 + 10 * β + 3 = 79 + 10 * β by omega]
theorem e_its4 (F : FR h) {β : Nat} (hβ : β < nb r) (h6 : β < 6) : Run d 914 [.ref 233, .int (nI β), .int (nI 4)] (wI h (mw f 234 r)) Q = Q (some (.int (r (80 + 10 * β)))) (wI h (mw f 234 r)) := by
  rw [e_itsg F hβ h6 (by decide), show 76 + 10 * β + 4 = 80 + 10 * β by omega]
theorem e_itsh (F : FR h) {β k : Nat} (hβ : β < nb r) (h6 : β < 6) (hk : k < 5) : Run d 914 [.ref 233, .int (nI β), .int (nI (5 + k))] (wI h (mw f 234 r)) Q = Q (some (.int (r (81 + 10 * β + k)))) (wI h (mw f 234 r)) := by
  rw [e_itsg F hβ h6 (by omega), show 76 + 10 * β + (5 + k) = 81 + 10 * β + k by omega]
theorem e_sets0 (F : FR h) {β : Nat} {v : Int32} (hβ : β < nb r) (h6 : β < 6) : Run d 891 [.ref 233, .int (nI β), .int (nI 0), .int v] (wI h (mw f 234 r)) Q = Q none (wI h (mw f 234 (upr r (76 + 10 * β) v))) := e_setsg F hβ h6 (by decide)
theorem e_sets1 (F : FR h) {β : Nat} {v : Int32} (hβ : β < nb r) (h6 : β < 6) : Run d 891 [.ref 233, .int (nI β), .int (nI 1), .int v] (wI h (mw f 234 r)) Q = Q none (wI h (mw f 234 (upr r (77 + 10 * β) v))) := by
  rw [e_setsg F hβ h6 (by decide), show 76 + 10 * β + 1 = 77 + 10 * β by omega]
theorem e_sets2 (F : FR h) {β : Nat} {v : Int32} (hβ : β < nb r) (h6 : β < 6) : Run d 891 [.ref 233, .int (nI β), .int (nI 2), .int v] (wI h (mw f 234 r)) Q = Q none (wI h (mw f 234 (upr r (78 + 10 * β) v))) := by
  rw [e_setsg F hβ h6 (by decide), show 76 + 10 * β + 2 = 78 + 10 * β by omega]
theorem e_sets3 (F : FR h) {β : Nat} {v : Int32} (hβ : β < nb r) (h6 : β < 6) : Run d 891 [.ref 233, .int (nI β), .int (nI 3), .int v] (wI h (mw f 234 r)) Q = Q none (wI h (mw f 234 (upr r (79 + 10 * β) v))) := by
  rw [e_setsg F hβ h6 (by decide), show 76 + 10 * β + 3 = 79 + 10 * β by omega]
theorem e_sets4 (F : FR h) {β : Nat} {v : Int32} (hβ : β < nb r) (h6 : β < 6) : Run d 891 [.ref 233, .int (nI β), .int (nI 4), .int v] (wI h (mw f 234 r)) Q = Q none (wI h (mw f 234 (upr r (80 + 10 * β) v))) := by
  rw [e_setsg F hβ h6 (by decide), show 76 + 10 * β + 4 = 80 + 10 * β by omega]
theorem e_setsh (F : FR h) {β k : Nat} {v : Int32} (hβ : β < nb r) (h6 : β < 6) (hk : k < 5) : Run d 891 [.ref 233, .int (nI β), .int (nI (5 + k)), .int v] (wI h (mw f 234 r)) Q = Q none (wI h (mw f 234 (upr r (81 + 10 * β + k) v))) := by
  rw [e_setsg F hβ h6 (by omega), show 76 + 10 * β + (5 + k) = 81 + 10 * β + k by omega]
theorem e_at (F : FR h) {s k : Nat} (hs : s < 8) (hk : k < 5) : Run d 834 [.ref 233, .int (nI s), .int (nI k)] (wI h (mw f 234 r)) Q = Q (some (.int (r (12 + 7 * s + k)))) (wI h (mw f 234 r)) := Run.det (r_at d h f r F (by omega)) Q
theorem e_at5 (F : FR h) {s : Nat} (hs : s < 8) : Run d 834 [.ref 233, .int (nI s), .int (nI 5)] (wI h (mw f 234 r)) Q = Q (some (.int (r (17 + 7 * s)))) (wI h (mw f 234 r)) := by
  rw [Run.det (r_at d h f r F (s := s) (k := 5) (by omega)) Q, show 12 + 7 * s + 5 = 17 + 7 * s by omega]
theorem e_at6 (F : FR h) {s : Nat} (hs : s < 8) : Run d 834 [.ref 233, .int (nI s), .int (nI 6)] (wI h (mw f 234 r)) Q = Q (some (.int (r (18 + 7 * s)))) (wI h (mw f 234 r)) := by
  rw [Run.det (r_at d h f r F (s := s) (k := 6) (by omega)) Q, show 12 + 7 * s + 6 = 18 + 7 * s by omega]
theorem e_setsAt (F : FR h) {s k : Nat} {v : Int32} (hs : s < 8) (hk : k < 5) : Run d 1019 [.ref 233, .int (nI s), .int (nI k), .int v] (wI h (mw f 234 r)) Q = Q none (wI h (mw f 234 (upr r (12 + 7 * s + k) v))) := Run.det (r_setsAt d h f r F (by omega)) Q
theorem e_setsAt6 (F : FR h) {s : Nat} {v : Int32} (hs : s < 8) : Run d 1019 [.ref 233, .int (nI s), .int (nI 6), .int v] (wI h (mw f 234 r)) Q = Q none (wI h (mw f 234 (upr r (18 + 7 * s) v))) := by
  rw [Run.det (r_setsAt d h f r F (s := s) (k := 6) (by omega)) Q, show 12 + 7 * s + 6 = 18 + 7 * s by omega]
theorem e_becomes (F : FR h) {q : Nat} {v : Int32} (hq : q < lim r) (h5 : ¬ q = 5) : Run d 778 [.ref 233, .int (nI q), .int v] (wI h (mw f 234 r)) Q = Q (some (.int (r q))) (wI h (mw f 234 (upr r q v))) := by
  have hl := lim_le r
  simp (disch := first | omega | (simp (disch := omega) only [nb_upr]; omega)) only [R_778, w_778_0, zi_0, zi_0n, zi_357, zi_88, zi_106, zi_111i, zi_111r, zi_111u, zi_111a, zi_34, zi_38, zi_63, zi_67w1, zi_67w2, F.t233, F.r233_0, F.t234, F.l234, kC_eq, toL_s, toL_n, okS0, okS1, okS2, okS3, okS4, true_and, and_true, hT_wI, hL_wI, hR_wI, hI_wI, hJ_wI, sI_wI, rfP, isIA_100, isIA_120, inb_ok, nI_clamp, nI_add, nI_mul, ↓reduceIte, not_false_eq_true, not_true_eq_false, true_or, or_true, bI_01, b01_0, b01_1, bI_0, n4, n5, n2, n8, Nat.reduceMul, Nat.reduceAdd, Nat.reduceLT, Nat.reduceLeDiff, mw_read hq, mw_write hq h5]
theorem e_isSort (v : Int32) (hd : 1 ≤ d) : Run d 801 [.int v] h Q = Q (some (.int (bI (¬ (v < nI 0 ∨ nI 4 < v))))) h := by
  simp (disch := first | omega | (simp (disch := omega) only [nb_upr]; omega)) only [R_801, w_801_0, zi_87, zi_31, zi_9, zi_362, zi_67w1, zi_67w2, kC_eq, toL_s, toL_n, okS0, okS1, okS2, okS3, okS4, true_and, and_true, hT_wI, hL_wI, hR_wI, hI_wI, hJ_wI, sI_wI, rfP, isIA_100, isIA_120, inb_ok, nI_clamp, nI_add, nI_mul, ↓reduceIte, not_false_eq_true, not_true_eq_false, true_or, or_true, bI_01, b01_0, b01_1, bI_0, n4, n5, n2, n8, Nat.reduceMul, Nat.reduceAdd, Nat.reduceLT, Nat.reduceLeDiff, e_in]
theorem e_isStreet (v : Int32) (hd : 1 ≤ d) : Run d 849 [.int v] h Q = Q (some (.int (bI (¬ (v < nI 0 ∨ nI 7 < v))))) h := by
  simp (disch := first | omega | (simp (disch := omega) only [nb_upr]; omega)) only [R_849, w_849_0, zi_87, zi_31, zi_123, zi_362, zi_67w1, zi_67w2, kC_eq, toL_s, toL_n, okS0, okS1, okS2, okS3, okS4, true_and, and_true, hT_wI, hL_wI, hR_wI, hI_wI, hJ_wI, sI_wI, rfP, isIA_100, isIA_120, inb_ok, nI_clamp, nI_add, nI_mul, ↓reduceIte, not_false_eq_true, not_true_eq_false, true_or, or_true, bI_01, b01_0, b01_1, bI_0, n4, n5, n2, n8, Nat.reduceMul, Nat.reduceAdd, Nat.reduceLT, Nat.reduceLeDiff, e_in]
theorem e_isWard (v : Int32) (hd : 1 ≤ d) : Run d 817 [.int v] h Q = Q (some (.int (bI (¬ (v < nI 0 ∨ nI 3 < v))))) h := by
  simp (disch := first | omega | (simp (disch := omega) only [nb_upr]; omega)) only [R_817, w_817_0, zi_87, zi_31, zi_54, zi_362, zi_67w1, zi_67w2, kC_eq, toL_s, toL_n, okS0, okS1, okS2, okS3, okS4, true_and, and_true, hT_wI, hL_wI, hR_wI, hI_wI, hJ_wI, sI_wI, rfP, isIA_100, isIA_120, inb_ok, nI_clamp, nI_add, nI_mul, ↓reduceIte, not_false_eq_true, not_true_eq_false, true_or, or_true, bI_01, b01_0, b01_1, bI_0, n4, n5, n2, n8, Nat.reduceMul, Nat.reduceAdd, Nat.reduceLT, Nat.reduceLeDiff, e_in]
theorem e_isShelf (v : Int32) (hd : 1 ≤ d) : Run d 1217 [.int v] h Q = Q (some (.int (bI (¬ (v < nI 0 ∨ nI 3 < v))))) h := by
  simp (disch := first | omega | (simp (disch := omega) only [nb_upr]; omega)) only [R_1217, w_1217_0, zi_87, zi_31, zi_54, zi_362, zi_67w1, zi_67w2, kC_eq, toL_s, toL_n, okS0, okS1, okS2, okS3, okS4, true_and, and_true, hT_wI, hL_wI, hR_wI, hI_wI, hJ_wI, sI_wI, rfP, isIA_100, isIA_120, inb_ok, nI_clamp, nI_add, nI_mul, ↓reduceIte, not_false_eq_true, not_true_eq_false, true_or, or_true, bI_01, b01_0, b01_1, bI_0, n4, n5, n2, n8, Nat.reduceMul, Nat.reduceAdd, Nat.reduceLT, Nat.reduceLeDiff, e_in]
theorem e_isKind (v m : Int32) (hd : 1 ≤ d) : Run d 882 [.int v, .int m] h Q = Q (some (.int (bI (¬ (v < nI 0 ∨ nI 5 < v) ∧ ¬ (m < nI 0 ∨ nI 9 < m))))) h := by
  simp (disch := first | omega | (simp (disch := omega) only [nb_upr]; omega)) only [R_882, w_882_0, w_882_1, w_882_2, zi_87, zi_31, zi_59, zi_362, zi_66, zi_88, zi_130, zi_48, zi_112, zi_113, zi_67w1, zi_67w2, kC_eq, toL_s, toL_n, okS0, okS1, okS2, okS3, okS4, true_and, and_true, hT_wI, hL_wI, hR_wI, hI_wI, hJ_wI, sI_wI, rfP, isIA_100, isIA_120, inb_ok, nI_clamp, nI_add, nI_mul, ↓reduceIte, not_false_eq_true, not_true_eq_false, true_or, or_true, bI_01, b01_0, b01_1, bI_0, n4, n5, n2, n8, Nat.reduceMul, Nat.reduceAdd, Nat.reduceLT, Nat.reduceLeDiff, e_in]
  by_cases h1 : v < nI 0 ∨ nI 5 < v
  · simp only [h1, not_true_eq_false, not_false_eq_true, false_and, ↓reduceIte, bI]
  · by_cases h2 : m < nI 0 ∨ nI 9 < m
    · simp only [h1, h2, not_true_eq_false, not_false_eq_true, and_false, ↓reduceIte, bI]
    · simp only [h1, h2, not_true_eq_false, not_false_eq_true, and_self, ↓reduceIte, bI]
theorem e_noSort (v : Int32) (hd : 1 ≤ d) : Run d 73 [.int v] h Q = Q (some (.int (bI (v < nI 0 ∨ nI 4 < v)))) h := by
  simp (disch := first | omega | (simp (disch := omega) only [nb_upr]; omega)) only [R_73, w_73_0, zi_87, zi_31, zi_9, zi_65, zi_67w1, zi_67w2, kC_eq, toL_s, toL_n, okS0, okS1, okS2, okS3, okS4, true_and, and_true, hT_wI, hL_wI, hR_wI, hI_wI, hJ_wI, sI_wI, rfP, isIA_100, isIA_120, inb_ok, nI_clamp, nI_add, nI_mul, ↓reduceIte, not_false_eq_true, not_true_eq_false, true_or, or_true, bI_01, b01_0, b01_1, bI_0, n4, n5, n2, n8, Nat.reduceMul, Nat.reduceAdd, Nat.reduceLT, Nat.reduceLeDiff, e_outside]
theorem e_noStreet (v : Int32) (hd : 1 ≤ d) : Run d 113 [.int v] h Q = Q (some (.int (bI (v < nI 0 ∨ nI 7 < v)))) h := by
  simp (disch := first | omega | (simp (disch := omega) only [nb_upr]; omega)) only [R_113, w_113_0, zi_87, zi_31, zi_123, zi_65, zi_67w1, zi_67w2, kC_eq, toL_s, toL_n, okS0, okS1, okS2, okS3, okS4, true_and, and_true, hT_wI, hL_wI, hR_wI, hI_wI, hJ_wI, sI_wI, rfP, isIA_100, isIA_120, inb_ok, nI_clamp, nI_add, nI_mul, ↓reduceIte, not_false_eq_true, not_true_eq_false, true_or, or_true, bI_01, b01_0, b01_1, bI_0, n4, n5, n2, n8, Nat.reduceMul, Nat.reduceAdd, Nat.reduceLT, Nat.reduceLeDiff, e_outside]
theorem e_noWard (v : Int32) (hd : 1 ≤ d) : Run d 89 [.int v] h Q = Q (some (.int (bI (v < nI 0 ∨ nI 3 < v)))) h := by
  simp (disch := first | omega | (simp (disch := omega) only [nb_upr]; omega)) only [R_89, w_89_0, zi_87, zi_31, zi_54, zi_65, zi_67w1, zi_67w2, kC_eq, toL_s, toL_n, okS0, okS1, okS2, okS3, okS4, true_and, and_true, hT_wI, hL_wI, hR_wI, hI_wI, hJ_wI, sI_wI, rfP, isIA_100, isIA_120, inb_ok, nI_clamp, nI_add, nI_mul, ↓reduceIte, not_false_eq_true, not_true_eq_false, true_or, or_true, bI_01, b01_0, b01_1, bI_0, n4, n5, n2, n8, Nat.reduceMul, Nat.reduceAdd, Nat.reduceLT, Nat.reduceLeDiff, e_outside]
theorem e_noKind (v : Int32) (hd : 1 ≤ d) : Run d 137 [.int v] h Q = Q (some (.int (bI (v < nI 0 ∨ nI 5 < v)))) h := by
  simp (disch := first | omega | (simp (disch := omega) only [nb_upr]; omega)) only [R_137, w_137_0, zi_87, zi_31, zi_59, zi_65, zi_67w1, zi_67w2, kC_eq, toL_s, toL_n, okS0, okS1, okS2, okS3, okS4, true_and, and_true, hT_wI, hL_wI, hR_wI, hI_wI, hJ_wI, sI_wI, rfP, isIA_100, isIA_120, inb_ok, nI_clamp, nI_add, nI_mul, ↓reduceIte, not_false_eq_true, not_true_eq_false, true_or, or_true, bI_01, b01_0, b01_1, bI_0, n4, n5, n2, n8, Nat.reduceMul, Nat.reduceAdd, Nat.reduceLT, Nat.reduceLeDiff, e_outside]
theorem e_noSheet (v : Int32) (hd : 1 ≤ d) : Run d 361 [.int v] h Q = Q (some (.int (bI (v < nI 0 ∨ nI 3 < v)))) h := by
  simp (disch := first | omega | (simp (disch := omega) only [nb_upr]; omega)) only [R_361, w_361_0, zi_87, zi_31, zi_54, zi_65, zi_67w1, zi_67w2, kC_eq, toL_s, toL_n, okS0, okS1, okS2, okS3, okS4, true_and, and_true, hT_wI, hL_wI, hR_wI, hI_wI, hJ_wI, sI_wI, rfP, isIA_100, isIA_120, inb_ok, nI_clamp, nI_add, nI_mul, ↓reduceIte, not_false_eq_true, not_true_eq_false, true_or, or_true, bI_01, b01_0, b01_1, bI_0, n4, n5, n2, n8, Nat.reduceMul, Nat.reduceAdd, Nat.reduceLT, Nat.reduceLeDiff, e_outside]
theorem e_noShelf (v : Int32) (hd : 1 ≤ d) : Run d 529 [.int v] h Q = Q (some (.int (bI (v < nI 0 ∨ nI 3 < v)))) h := by
  simp (disch := first | omega | (simp (disch := omega) only [nb_upr]; omega)) only [R_529, w_529_0, zi_87, zi_31, zi_54, zi_65, zi_67w1, zi_67w2, kC_eq, toL_s, toL_n, okS0, okS1, okS2, okS3, okS4, true_and, and_true, hT_wI, hL_wI, hR_wI, hI_wI, hJ_wI, sI_wI, rfP, isIA_100, isIA_120, inb_ok, nI_clamp, nI_add, nI_mul, ↓reduceIte, not_false_eq_true, not_true_eq_false, true_or, or_true, bI_01, b01_0, b01_1, bI_0, n4, n5, n2, n8, Nat.reduceMul, Nat.reduceAdd, Nat.reduceLT, Nat.reduceLeDiff, e_outside]
/-- no such boat -/
def noB (r : Nat → Int32) (v : Int32) : Prop := v < nI 0 ∨ nI (nb r) - nI 1 < v
theorem e_isBoat (F : FR h) (h5 : r 5 = nI (nb r)) (v : Int32) (hd : 1 ≤ d) : Run d 905 [.ref 233, .int v] (wI h (mw f 234 r)) Q = Q (some (.int (bI (¬ (v < nI 0 ∨ nI (nb r) - nI 1 < v))))) (wI h (mw f 234 r)) := by
  simp (disch := first | omega | (simp (disch := omega) only [nb_upr]; omega)) only [R_905, w_905_0, zi_88, zi_31, zi_0, zi_0n, zi_357, zi_59, zi_106, zi_48, zi_101, zi_362, zi_67w1, zi_67w2, F.t233, F.r233_0, F.t234, F.l234, kC_eq, toL_s, toL_n, okS0, okS1, okS2, okS3, okS4, true_and, and_true, hT_wI, hL_wI, hR_wI, hI_wI, hJ_wI, sI_wI, rfP, isIA_100, isIA_120, inb_ok, nI_clamp, nI_add, nI_mul, ↓reduceIte, not_false_eq_true, not_true_eq_false, true_or, or_true, bI_01, b01_0, b01_1, bI_0, n4, n5, n2, n8, Nat.reduceMul, Nat.reduceAdd, Nat.reduceLT, Nat.reduceLeDiff, e_in, mw_r, h5]
theorem e_noBoat {b : Nat} (F : FR h) (hn : hR h 100 0 = some b) (w : WB h b) (h5 : r 5 = nI (nb r)) (v : Int32) (hd : 1 ≤ d) : Run d 153 [.ref 100, .int v] (wI h (ww f b r)) Q = Q (some (.int (bI (v < nI 0 ∨ nI (nb r) - nI 1 < v)))) (wI h (ww f b r)) := by
  simp (disch := first | omega | (simp (disch := omega) only [nb_upr]; omega)) only [R_153, w_153_0, zi_88, zi_31, zi_0, zi_0n, zi_92, zi_104, zi_48, zi_101, zi_65, zi_67w1, zi_67w2, F.t100, hn, w.t, kC_eq, toL_s, toL_n, okS0, okS1, okS2, okS3, okS4, true_and, and_true, hT_wI, hL_wI, hR_wI, hI_wI, hJ_wI, sI_wI, rfP, isIA_100, isIA_120, inb_ok, nI_clamp, nI_add, nI_mul, ↓reduceIte, not_false_eq_true, not_true_eq_false, true_or, or_true, bI_01, b01_0, b01_1, bI_0, n4, n5, n2, n8, Nat.reduceMul, Nat.reduceAdd, Nat.reduceLT, Nat.reduceLeDiff, e_outside, ww_0_14, h5]
theorem e_held (x lo hi : Int32) : Run d 1027 [.int x, .int lo, .int hi] h Q = Q (some (.int (if x < lo then lo else if hi < x then hi else x))) h := Run.det (r_held d x lo hi h) Q
/-! sums -/
theorem stockOf_loop (F : FR h) (s : Nat) (hs : s < 8) (hd : 1 ≤ d) :
    ∀ (j k : Nat), k + j = 5 → WP d 857 1 [.ref 233, .int (nI s), .int (stIn r s k), .int (nI k)] [] (wI h (mw f 234 r)) Q = Q (some (.int (stIn r s 5))) (wI h (mw f 234 r))
  | 0, k, hk => by
    obtain rfl : k = 5 := by omega
    rw [w_857_1]
    simp (disch := first | omega | (simp (disch := omega) only [nb_upr]; omega)) only [w_857_2, zi_31, zi_32i, zi_32r, zi_32u, zi_32a, zi_111i, zi_111r, zi_111u, zi_111a, zi_33, zi_63, zi_59, zi_35, zi_34, zi_0, zi_0n, zi_88, zi_453, zi_70, zi_158i, zi_158r, zi_158u, zi_158a, zi_40, zi_67w1, zi_67w2, , kC_eq, toL_s, toL_n, okS0, okS1, okS2, okS3, okS4, true_and, and_true, hT_wI, hL_wI, hR_wI, hI_wI, hJ_wI, sI_wI, rfP, isIA_100, isIA_120, inb_ok, nI_clamp, nI_add, nI_mul, ↓reduceIte, not_false_eq_true, not_true_eq_false, true_or, or_true, bI_01, b01_0, b01_1, bI_0, n4, n5, n2, n8, Nat.reduceMul, Nat.reduceAdd, Nat.reduceLT, Nat.reduceLeDiff, nI_eq, nI_leI, nI_ltI, Nat.reduceEqDiff, pk_div, nI_sub, Nat.reduceDiv, Nat.reduceSub, Nat.le_refl]
  | j + 1, k, hk => by
    have g : ¬ 5 ≤ k := by omega
    rw [w_857_1]
    simp (disch := first | omega | (simp (disch := omega) only [nb_upr]; omega)) only [zi_31, zi_32i, zi_32r, zi_32u, zi_32a, zi_111i, zi_111r, zi_111u, zi_111a, zi_33, zi_63, zi_59, zi_35, zi_34, zi_0, zi_0n, zi_88, zi_453, zi_70, zi_158i, zi_158r, zi_158u, zi_158a, zi_40, zi_67w1, zi_67w2, F.t233, , kC_eq, toL_s, toL_n, okS0, okS1, okS2, okS3, okS4, true_and, and_true, hT_wI, hL_wI, hR_wI, hI_wI, hJ_wI, sI_wI, rfP, isIA_100, isIA_120, inb_ok, nI_clamp, nI_add, nI_mul, ↓reduceIte, not_false_eq_true, not_true_eq_false, true_or, or_true, bI_01, b01_0, b01_1, bI_0, n4, n5, n2, n8, Nat.reduceMul, Nat.reduceAdd, Nat.reduceLT, Nat.reduceLeDiff, nI_eq, nI_leI, nI_ltI, Nat.reduceEqDiff, pk_div, nI_sub, Nat.reduceDiv, Nat.reduceSub, g, e_at F]
    exact stockOf_loop F s hs hd j (k + 1) (by omega)
theorem e_stockOf (F : FR h) (s : Nat) (hs : s < 8) (hd : 1 ≤ d) : Run d 857 [.ref 233, .int (nI s)] (wI h (mw f 234 r)) Q = Q (some (.int (stIn r s 5))) (wI h (mw f 234 r)) := by
  simp (disch := first | omega | (simp (disch := omega) only [nb_upr]; omega)) only [R_857, w_857_0, zi_31, zi_32i, zi_32r, zi_32u, zi_32a, zi_111i, zi_111r, zi_111u, zi_111a, zi_33, zi_63, zi_59, zi_35, zi_34, zi_0, zi_0n, zi_88, zi_453, zi_70, zi_158i, zi_158r, zi_158u, zi_158a, zi_40, zi_67w1, zi_67w2, kC_eq, toL_s, toL_n, okS0, okS1, okS2, okS3, okS4, true_and, and_true, hT_wI, hL_wI, hR_wI, hI_wI, hJ_wI, sI_wI, rfP, isIA_100, isIA_120, inb_ok, nI_clamp, nI_add, nI_mul, ↓reduceIte, not_false_eq_true, not_true_eq_false, true_or, or_true, bI_01, b01_0, b01_1, bI_0, n4, n5, n2, n8, Nat.reduceMul, Nat.reduceAdd, Nat.reduceLT, Nat.reduceLeDiff]
  exact stockOf_loop F s hs hd 5 0 rfl
theorem worthOf_loop (F : FR h) (β : Nat) (hβ : β < nb r) (h6 : β < 6) (hd : 1 ≤ d) :
    ∀ (j k : Nat), k + j = 5 → WP d 921 1 [.ref 233, .int (nI β), .int (woIn r β k), .int (nI k)] [] (wI h (mw f 234 r)) Q = Q (some (.int (woIn r β 5))) (wI h (mw f 234 r))
  | 0, k, hk => by
    obtain rfl : k = 5 := by omega
    rw [w_921_1]
    simp (disch := first | omega | (simp (disch := omega) only [nb_upr]; omega)) only [w_921_2, zi_31, zi_32i, zi_32r, zi_32u, zi_32a, zi_111i, zi_111r, zi_111u, zi_111a, zi_33, zi_63, zi_59, zi_35, zi_34, zi_0, zi_0n, zi_88, zi_70, zi_459, zi_357, zi_123, zi_106, zi_79, zi_158i, zi_158r, zi_158u, zi_158a, zi_40, zi_67w1, zi_67w2, F.t233, F.r233_0, F.t234, F.l234, kC_eq, toL_s, toL_n, okS0, okS1, okS2, okS3, okS4, true_and, and_true, hT_wI, hL_wI, hR_wI, hI_wI, hJ_wI, sI_wI, rfP, isIA_100, isIA_120, inb_ok, nI_clamp, nI_add, nI_mul, ↓reduceIte, not_false_eq_true, not_true_eq_false, true_or, or_true, bI_01, b01_0, b01_1, bI_0, n4, n5, n2, n8, Nat.reduceMul, Nat.reduceAdd, Nat.reduceLT, Nat.reduceLeDiff, nI_eq, nI_leI, nI_ltI, Nat.reduceEqDiff, pk_div, nI_sub, Nat.reduceDiv, Nat.reduceSub, Nat.le_refl]
  | j + 1, k, hk => by
    have g : ¬ 5 ≤ k := by omega
    rw [w_921_1]
    simp (disch := first | omega | (simp (disch := omega) only [nb_upr]; omega)) only [zi_31, zi_32i, zi_32r, zi_32u, zi_32a, zi_111i, zi_111r, zi_111u, zi_111a, zi_33, zi_63, zi_59, zi_35, zi_34, zi_0, zi_0n, zi_88, zi_70, zi_459, zi_357, zi_123, zi_106, zi_79, zi_158i, zi_158r, zi_158u, zi_158a, zi_40, zi_67w1, zi_67w2, F.t233, F.t233, F.r233_0, F.t234, F.l234, kC_eq, toL_s, toL_n, okS0, okS1, okS2, okS3, okS4, true_and, and_true, hT_wI, hL_wI, hR_wI, hI_wI, hJ_wI, sI_wI, rfP, isIA_100, isIA_120, inb_ok, nI_clamp, nI_add, nI_mul, ↓reduceIte, not_false_eq_true, not_true_eq_false, true_or, or_true, bI_01, b01_0, b01_1, bI_0, n4, n5, n2, n8, Nat.reduceMul, Nat.reduceAdd, Nat.reduceLT, Nat.reduceLeDiff, nI_eq, nI_leI, nI_ltI, Nat.reduceEqDiff, pk_div, nI_sub, Nat.reduceDiv, Nat.reduceSub, g, e_itsh F hβ h6, mw_r]
    exact worthOf_loop F β hβ h6 hd j (k + 1) (by omega)
theorem e_worthOf (F : FR h) (β : Nat) (hβ : β < nb r) (h6 : β < 6) (hd : 1 ≤ d) : Run d 921 [.ref 233, .int (nI β)] (wI h (mw f 234 r)) Q = Q (some (.int (woIn r β 5))) (wI h (mw f 234 r)) := by
  simp (disch := first | omega | (simp (disch := omega) only [nb_upr]; omega)) only [R_921, w_921_0, zi_31, zi_32i, zi_32r, zi_32u, zi_32a, zi_111i, zi_111r, zi_111u, zi_111a, zi_33, zi_63, zi_59, zi_35, zi_34, zi_0, zi_0n, zi_88, zi_70, zi_459, zi_357, zi_123, zi_106, zi_79, zi_158i, zi_158r, zi_158u, zi_158a, zi_40, zi_67w1, zi_67w2, kC_eq, toL_s, toL_n, okS0, okS1, okS2, okS3, okS4, true_and, and_true, hT_wI, hL_wI, hR_wI, hI_wI, hJ_wI, sI_wI, rfP, isIA_100, isIA_120, inb_ok, nI_clamp, nI_add, nI_mul, ↓reduceIte, not_false_eq_true, not_true_eq_false, true_or, or_true, bI_01, b01_0, b01_1, bI_0, n4, n5, n2, n8, Nat.reduceMul, Nat.reduceAdd, Nat.reduceLT, Nat.reduceLeDiff]
  exact worthOf_loop F β hβ h6 hd 5 0 rfl
theorem or0 (x : Int32) : x ||| nI 0 = x := by rw [nI_0]; exact Int32.or_zero
theorem emptySet_loop (F : FR h) (hd : 2 ≤ d) :
    ∀ (j k : Nat), k + j = 8 → WP d 1136 1 [.ref 233, .int (emp r k), .int (nI k)] [] (wI h (mw f 234 r)) Q = Q (some (.int (emp r 8))) (wI h (mw f 234 r))
  | 0, k, hk => by
    obtain rfl : k = 8 := by omega
    rw [w_1136_1]
    simp (disch := first | omega | (simp (disch := omega) only [nb_upr]; omega)) only [w_1136_4, zi_31, zi_96i, zi_96r, zi_96u, zi_96a, zi_32i, zi_32r, zi_32u, zi_32a, zi_33, zi_34, zi_64, zi_77, zi_88, zi_0, zi_0n, zi_455, zi_452, zi_48, zi_174, zi_86, zi_75, zi_175, zi_39i, zi_39r, zi_39u, zi_39a, zi_40, zi_67w1, zi_67w2, kC_eq, toL_s, toL_n, okS0, okS1, okS2, okS3, okS4, true_and, and_true, hT_wI, hL_wI, hR_wI, hI_wI, hJ_wI, sI_wI, rfP, isIA_100, isIA_120, inb_ok, nI_clamp, nI_add, nI_mul, ↓reduceIte, not_false_eq_true, not_true_eq_false, true_or, or_true, bI_01, b01_0, b01_1, bI_0, n4, n5, n2, n8, Nat.reduceMul, Nat.reduceAdd, Nat.reduceLT, Nat.reduceLeDiff, nI_eq, nI_leI, nI_ltI, Nat.reduceEqDiff, pk_div, nI_sub, Nat.reduceDiv, Nat.reduceSub, Nat.le_refl]
  | j + 1, k, hk => by
    have g : ¬ 8 ≤ k := by omega
    have ih := emptySet_loop F hd j (k + 1) (by omega)
    rw [w_1136_1]
    simp (disch := first | omega | (simp (disch := omega) only [nb_upr]; omega)) only [w_1136_2, w_1136_3, zi_31, zi_96i, zi_96r, zi_96u, zi_96a, zi_32i, zi_32r, zi_32u, zi_32a, zi_33, zi_34, zi_64, zi_77, zi_88, zi_0, zi_0n, zi_455, zi_452, zi_48, zi_174, zi_86, zi_75, zi_175, zi_39i, zi_39r, zi_39u, zi_39a, zi_40, zi_67w1, zi_67w2, F.t233, kC_eq, toL_s, toL_n, okS0, okS1, okS2, okS3, okS4, true_and, and_true, hT_wI, hL_wI, hR_wI, hI_wI, hJ_wI, sI_wI, rfP, isIA_100, isIA_120, inb_ok, nI_clamp, nI_add, nI_mul, ↓reduceIte, not_false_eq_true, not_true_eq_false, true_or, or_true, bI_01, b01_0, b01_1, bI_0, n4, n5, n2, n8, Nat.reduceMul, Nat.reduceAdd, Nat.reduceLT, Nat.reduceLeDiff, nI_eq, nI_leI, nI_ltI, Nat.reduceEqDiff, pk_div, nI_sub, Nat.reduceDiv, Nat.reduceSub, g, e_stockOf F, or0]
    have e : emp r (k + 1) = if stIn r k 5 = 0 then emp r k ||| nI 1 <<< (nI k &&& 31) else emp r k := rfl
    rw [e] at ih
    by_cases hz : stIn r k 5 = 0
    · simp only [hz, ↓reduceIte] at ih ⊢
      exact ih
    · simp only [hz, ↓reduceIte] at ih ⊢
      exact ih
theorem e_emptySet (F : FR h) (hd : 2 ≤ d) : Run d 1136 [.ref 233] (wI h (mw f 234 r)) Q = Q (some (.int (emp r 8))) (wI h (mw f 234 r)) := by
  simp (disch := first | omega | (simp (disch := omega) only [nb_upr]; omega)) only [R_1136, w_1136_0, zi_31, zi_96i, zi_96r, zi_96u, zi_96a, zi_32i, zi_32r, zi_32u, zi_32a, zi_33, zi_34, zi_64, zi_77, zi_88, zi_0, zi_0n, zi_455, zi_452, zi_48, zi_174, zi_86, zi_75, zi_175, zi_39i, zi_39r, zi_39u, zi_39a, zi_40, zi_67w1, zi_67w2, kC_eq, toL_s, toL_n, okS0, okS1, okS2, okS3, okS4, true_and, and_true, hT_wI, hL_wI, hR_wI, hI_wI, hJ_wI, sI_wI, rfP, isIA_100, isIA_120, inb_ok, nI_clamp, nI_add, nI_mul, ↓reduceIte, not_false_eq_true, not_true_eq_false, true_or, or_true, bI_01, b01_0, b01_1, bI_0, n4, n5, n2, n8, Nat.reduceMul, Nat.reduceAdd, Nat.reduceLT, Nat.reduceLeDiff]
  exact emptySet_loop F hd 8 0 rfl
theorem tornMany_loop (F : FR h) (h6 : nb r ≤ 6) (h5 : r 5 = nI (nb r)) (hd : 1 ≤ d) :
    ∀ (j k : Nat), k + j = nb r → WP d 1528 1 [.ref 233, .int (nI (tcn r k)), .int (nI k)] [] (wI h (mw f 234 r)) Q = Q (some (.int (nI (tcn r (nb r))))) (wI h (mw f 234 r))
  | 0, k, hk => by
    obtain rfl : k = nb r := by omega
    rw [w_1528_1]
    simp (disch := first | omega | (simp (disch := omega) only [nb_upr]; omega)) only [w_1528_4, zi_31, zi_96i, zi_96r, zi_96u, zi_96a, zi_32i, zi_32r, zi_32u, zi_32a, zi_33, zi_34, zi_0, zi_0n, zi_357, zi_59, zi_106, zi_77, zi_88, zi_9, zi_459, zi_130, zi_384, zi_48, zi_86, zi_75, zi_70, zi_39i, zi_39r, zi_39u, zi_39a, zi_40, zi_67w1, zi_67w2, F.t233, F.r233_0, F.t234, F.l234, kC_eq, toL_s, toL_n, okS0, okS1, okS2, okS3, okS4, true_and, and_true, hT_wI, hL_wI, hR_wI, hI_wI, hJ_wI, sI_wI, rfP, isIA_100, isIA_120, inb_ok, nI_clamp, nI_add, nI_mul, ↓reduceIte, not_false_eq_true, not_true_eq_false, true_or, or_true, bI_01, b01_0, b01_1, bI_0, n4, n5, n2, n8, Nat.reduceMul, Nat.reduceAdd, Nat.reduceLT, Nat.reduceLeDiff, nI_eq, nI_leI, nI_ltI, Nat.reduceEqDiff, pk_div, nI_sub, Nat.reduceDiv, Nat.reduceSub, mw_r, h5, Nat.le_refl]
  | j + 1, k, hk => by
    have g : ¬ nb r ≤ k := by omega
    have ih := tornMany_loop F h6 h5 hd j (k + 1) (by omega)
    rw [w_1528_1]
    simp (disch := first | omega | (simp (disch := omega) only [nb_upr]; omega)) only [w_1528_2, w_1528_3, zi_31, zi_96i, zi_96r, zi_96u, zi_96a, zi_32i, zi_32r, zi_32u, zi_32a, zi_33, zi_34, zi_0, zi_0n, zi_357, zi_59, zi_106, zi_77, zi_88, zi_9, zi_459, zi_130, zi_384, zi_48, zi_86, zi_75, zi_70, zi_39i, zi_39r, zi_39u, zi_39a, zi_40, zi_67w1, zi_67w2, F.t233, F.r233_0, F.t234, F.l234, kC_eq, toL_s, toL_n, okS0, okS1, okS2, okS3, okS4, true_and, and_true, hT_wI, hL_wI, hR_wI, hI_wI, hJ_wI, sI_wI, rfP, isIA_100, isIA_120, inb_ok, nI_clamp, nI_add, nI_mul, ↓reduceIte, not_false_eq_true, not_true_eq_false, true_or, or_true, bI_01, b01_0, b01_1, bI_0, n4, n5, n2, n8, Nat.reduceMul, Nat.reduceAdd, Nat.reduceLT, Nat.reduceLeDiff, nI_eq, nI_leI, nI_ltI, Nat.reduceEqDiff, pk_div, nI_sub, Nat.reduceDiv, Nat.reduceSub, mw_r, h5, g, e_its4 F, Nat.add_zero]
    have e : tcn r (k + 1) = if r (80 + 10 * k) = nI 9 then tcn r k + 1 else tcn r k := rfl
    rw [e] at ih
    by_cases hz : r (80 + 10 * k) = nI 9
    · simp only [hz, ↓reduceIte] at ih ⊢
      exact ih
    · simp only [hz, ↓reduceIte] at ih ⊢
      exact ih
theorem e_tornMany (F : FR h) (h6 : nb r ≤ 6) (h5 : r 5 = nI (nb r)) (hd : 1 ≤ d) : Run d 1528 [.ref 233] (wI h (mw f 234 r)) Q = Q (some (.int (nI (tcn r (nb r))))) (wI h (mw f 234 r)) := by
  simp (disch := first | omega | (simp (disch := omega) only [nb_upr]; omega)) only [R_1528, w_1528_0, zi_31, zi_96i, zi_96r, zi_96u, zi_96a, zi_32i, zi_32r, zi_32u, zi_32a, zi_33, zi_34, zi_0, zi_0n, zi_357, zi_59, zi_106, zi_77, zi_88, zi_9, zi_459, zi_130, zi_384, zi_48, zi_86, zi_75, zi_70, zi_39i, zi_39r, zi_39u, zi_39a, zi_40, zi_67w1, zi_67w2, kC_eq, toL_s, toL_n, okS0, okS1, okS2, okS3, okS4, true_and, and_true, hT_wI, hL_wI, hR_wI, hI_wI, hJ_wI, sI_wI, rfP, isIA_100, isIA_120, inb_ok, nI_clamp, nI_add, nI_mul, ↓reduceIte, not_false_eq_true, not_true_eq_false, true_or, or_true, bI_01, b01_0, b01_1, bI_0, n4, n5, n2, n8, Nat.reduceMul, Nat.reduceAdd, Nat.reduceLT, Nat.reduceLeDiff]
  exact tornMany_loop F h6 h5 hd (nb r) 0 (by omega)
theorem fullMany_loop (F : FR h) :
    ∀ (j k : Nat), k + j = 4 → WP d 1544 1 [.ref 233, .int (nI (fwn r k)), .int (nI k)] [] (wI h (mw f 234 r)) Q = Q (some (.int (nI (fwn r 4)))) (wI h (mw f 234 r))
  | 0, k, hk => by
    obtain rfl : k = 4 := by omega
    rw [w_1544_1]
    simp (disch := first | omega | (simp (disch := omega) only [nb_upr]; omega)) only [w_1544_4, zi_31, zi_96i, zi_96r, zi_96u, zi_96a, zi_32i, zi_32r, zi_32u, zi_32a, zi_33, zi_34, zi_9, zi_77, zi_88, zi_0, zi_0n, zi_357, zi_361, zi_51, zi_79, zi_70, zi_48, zi_106, zi_187, zi_86, zi_75, zi_39i, zi_39r, zi_39u, zi_39a, zi_40, zi_67w1, zi_67w2, F.t233, F.r233_0, F.t234, F.l234, kC_eq, toL_s, toL_n, okS0, okS1, okS2, okS3, okS4, true_and, and_true, hT_wI, hL_wI, hR_wI, hI_wI, hJ_wI, sI_wI, rfP, isIA_100, isIA_120, inb_ok, nI_clamp, nI_add, nI_mul, ↓reduceIte, not_false_eq_true, not_true_eq_false, true_or, or_true, bI_01, b01_0, b01_1, bI_0, n4, n5, n2, n8, Nat.reduceMul, Nat.reduceAdd, Nat.reduceLT, Nat.reduceLeDiff, nI_eq, nI_leI, nI_ltI, Nat.reduceEqDiff, pk_div, nI_sub, Nat.reduceDiv, Nat.reduceSub, Nat.le_refl]
  | j + 1, k, hk => by
    have g : ¬ 4 ≤ k := by omega
    have ih := fullMany_loop F j (k + 1) (by omega)
    have e1 : 68 + 2 * k + 1 = 69 + 2 * k := by omega
    rw [w_1544_1]
    simp (disch := first | omega | (simp (disch := omega) only [nb_upr]; omega)) only [w_1544_2, w_1544_3, zi_31, zi_96i, zi_96r, zi_96u, zi_96a, zi_32i, zi_32r, zi_32u, zi_32a, zi_33, zi_34, zi_9, zi_77, zi_88, zi_0, zi_0n, zi_357, zi_361, zi_51, zi_79, zi_70, zi_48, zi_106, zi_187, zi_86, zi_75, zi_39i, zi_39r, zi_39u, zi_39a, zi_40, zi_67w1, zi_67w2, F.t233, F.r233_0, F.t234, F.l234, kC_eq, toL_s, toL_n, okS0, okS1, okS2, okS3, okS4, true_and, and_true, hT_wI, hL_wI, hR_wI, hI_wI, hJ_wI, sI_wI, rfP, isIA_100, isIA_120, inb_ok, nI_clamp, nI_add, nI_mul, ↓reduceIte, not_false_eq_true, not_true_eq_false, true_or, or_true, bI_01, b01_0, b01_1, bI_0, n4, n5, n2, n8, Nat.reduceMul, Nat.reduceAdd, Nat.reduceLT, Nat.reduceLeDiff, nI_eq, nI_leI, nI_ltI, Nat.reduceEqDiff, pk_div, nI_sub, Nat.reduceDiv, Nat.reduceSub, mw_r, g, Nat.add_zero, e1]
    have e : fwn r (k + 1) = if r (69 + 2 * k) < r (68 + 2 * k) then fwn r k else fwn r k + 1 := rfl
    rw [e] at ih
    by_cases hz : r (69 + 2 * k) < r (68 + 2 * k)
    · simp only [hz, ↓reduceIte] at ih ⊢
      exact ih
    · simp only [hz, ↓reduceIte] at ih ⊢
      exact ih
theorem e_fullMany (F : FR h) : Run d 1544 [.ref 233] (wI h (mw f 234 r)) Q = Q (some (.int (nI (fwn r 4)))) (wI h (mw f 234 r)) := by
  simp (disch := first | omega | (simp (disch := omega) only [nb_upr]; omega)) only [R_1544, w_1544_0, zi_31, zi_96i, zi_96r, zi_96u, zi_96a, zi_32i, zi_32r, zi_32u, zi_32a, zi_33, zi_34, zi_9, zi_77, zi_88, zi_0, zi_0n, zi_357, zi_361, zi_51, zi_79, zi_70, zi_48, zi_106, zi_187, zi_86, zi_75, zi_39i, zi_39r, zi_39u, zi_39a, zi_40, zi_67w1, zi_67w2, kC_eq, toL_s, toL_n, okS0, okS1, okS2, okS3, okS4, true_and, and_true, hT_wI, hL_wI, hR_wI, hI_wI, hJ_wI, sI_wI, rfP, isIA_100, isIA_120, inb_ok, nI_clamp, nI_add, nI_mul, ↓reduceIte, not_false_eq_true, not_true_eq_false, true_or, or_true, bI_01, b01_0, b01_1, bI_0, n4, n5, n2, n8, Nat.reduceMul, Nat.reduceAdd, Nat.reduceLT, Nat.reduceLeDiff]
  exact fullMany_loop F 4 0 rfl
/-! what a boat may, takes and tears -/
theorem e_mMay (F : FR h) (β a : Nat) (hβ : β < nb r) (h6 : β < 6) (ha : a < 8) (e : r (78 + 10 * β) = nI a) (hd : 1 ≤ d) :
    Run d 1001 [.ref 233, .int (nI β)] (wI h (mw f 234 r)) Q = Q (some (.int (mayH r β a))) (wI h (mw f 234 r)) := by
  have e1 : 68 + a / 2 * 2 = 68 + 2 * (a / 2) := by omega
  have e2 : 68 + 2 * (a / 2) + 1 = 69 + 2 * (a / 2) := by omega
  simp (disch := first | omega | (simp (disch := omega) only [nb_upr]; omega)) only [R_1001, w_1001_0, w_1001_1, w_1001_2, zi_361, zi_0, zi_0n, zi_88, zi_51, zi_459, zi_238, zi_79, zi_70, zi_32i, zi_32r, zi_32u, zi_32a, zi_9, zi_130, zi_186, zi_357, zi_34, zi_48, zi_106, zi_112, zi_31, zi_113, zi_67w1, zi_67w2, F.t233, F.r233_0, F.t234, F.l234, kC_eq, toL_s, toL_n, okS0, okS1, okS2, okS3, okS4, true_and, and_true, hT_wI, hL_wI, hR_wI, hI_wI, hJ_wI, sI_wI, rfP, isIA_100, isIA_120, inb_ok, nI_clamp, nI_add, nI_mul, ↓reduceIte, not_false_eq_true, not_true_eq_false, true_or, or_true, bI_01, b01_0, b01_1, bI_0, n4, n5, n2, n8, Nat.reduceMul, Nat.reduceAdd, Nat.reduceLT, Nat.reduceLeDiff, nI_eq, nI_leI, nI_ltI, Nat.reduceEqDiff, pk_div, nI_sub, Nat.reduceDiv, Nat.reduceSub, e_its2 F hβ h6, e_its4 F hβ h6, e, e1, e2, mw_r]
  unfold mayH
  by_cases h1 : nI 9 ≤ r (80 + 10 * β)
  · simp only [h1, ↓reduceIte, true_or, not_true_eq_false, bI]
  · by_cases h2 : r (68 + 2 * (a / 2)) ≤ r (69 + 2 * (a / 2))
    · simp only [h1, h2, ↓reduceIte, or_true, not_true_eq_false, bI]
    · simp only [h1, h2, ↓reduceIte, or_self, not_false_eq_true, bI]
theorem e_takesOf (F : FR h) (β a k s : Nat) (hβ : β < nb r) (h6 : β < 6) (ha : a < 8) (hk : k < 6) (hs : s < 5) (e1 : r (78 + 10 * β) = nI a) (e2 : r (76 + 10 * β) = nI k) (hd : 1 ≤ d) :
    Run d 970 [.ref 233, .int (nI β), .int (nI s)] (wI h (mw f 234 r)) Q = Q (some (.int (tk r β a k s))) (wI h (mw f 234 r)) := by
  simp (disch := first | omega | (simp (disch := omega) only [nb_upr]; omega)) only [R_970, w_970_0, zi_0, zi_0n, zi_88, zi_51, zi_459, zi_34, zi_453, zi_111i, zi_111r, zi_111u, zi_111a, zi_48, zi_74i, zi_74r, zi_74u, zi_74a, zi_63, zi_9, zi_238, zi_164i, zi_164r, zi_164u, zi_164a, zi_31, zi_462, zi_165, zi_79, zi_314, zi_76, zi_70, zi_463, zi_224, zi_206, zi_59, zi_196, zi_302, zi_304, zi_305, zi_464, zi_408, zi_465, zi_67w1, zi_67w2, F.t233, kC_eq, toL_s, toL_n, okS0, okS1, okS2, okS3, okS4, true_and, and_true, hT_wI, hL_wI, hR_wI, hI_wI, hJ_wI, sI_wI, rfP, isIA_100, isIA_120, inb_ok, nI_clamp, nI_add, nI_mul, ↓reduceIte, not_false_eq_true, not_true_eq_false, true_or, or_true, bI_01, b01_0, b01_1, bI_0, n4, n5, n2, n8, Nat.reduceMul, Nat.reduceAdd, Nat.reduceLT, Nat.reduceLeDiff, nI_eq, nI_leI, nI_ltI, Nat.reduceEqDiff, pk_div, nI_sub, Nat.reduceDiv, Nat.reduceSub, e_its0 F hβ h6, e_its1 F hβ h6, e_its2 F hβ h6, e_at F, e1, e2]
  unfold tk
  match k, hk with
  | 0, _ =>
    simp (disch := first | omega | (simp (disch := omega) only [nb_upr]; omega)) only [w_970_10, w_970_11, w_970_12, zi_0, zi_0n, zi_88, zi_51, zi_459, zi_34, zi_453, zi_111i, zi_111r, zi_111u, zi_111a, zi_48, zi_74i, zi_74r, zi_74u, zi_74a, zi_63, zi_9, zi_238, zi_164i, zi_164r, zi_164u, zi_164a, zi_31, zi_462, zi_165, zi_79, zi_314, zi_76, zi_70, zi_463, zi_224, zi_206, zi_59, zi_196, zi_302, zi_304, zi_305, zi_464, zi_408, zi_465, zi_67w1, zi_67w2, kC_eq, toL_s, toL_n, okS0, okS1, okS2, okS3, okS4, true_and, and_true, hT_wI, hL_wI, hR_wI, hI_wI, hJ_wI, sI_wI, rfP, isIA_100, isIA_120, inb_ok, nI_clamp, nI_add, nI_mul, ↓reduceIte, not_false_eq_true, not_true_eq_false, true_or, or_true, bI_01, b01_0, b01_1, bI_0, n4, n5, n2, n8, Nat.reduceMul, Nat.reduceAdd, Nat.reduceLT, Nat.reduceLeDiff, nI_eq, nI_leI, nI_ltI, Nat.reduceEqDiff, pk_div, nI_sub, Nat.reduceDiv, Nat.reduceSub, ctch]
    by_cases g : r (12 + 7 * a + s) ≤ r (12 + 7 * a + s) / nI 4
    · simp only [g, Int32.not_lt.mpr g, ↓reduceIte]
    · simp only [g, Int32.not_le.mp g, ↓reduceIte]
  | 1, _ =>
    simp (disch := first | omega | (simp (disch := omega) only [nb_upr]; omega)) only [w_970_1, w_970_10, w_970_11, w_970_12, zi_0, zi_0n, zi_88, zi_51, zi_459, zi_34, zi_453, zi_111i, zi_111r, zi_111u, zi_111a, zi_48, zi_74i, zi_74r, zi_74u, zi_74a, zi_63, zi_9, zi_238, zi_164i, zi_164r, zi_164u, zi_164a, zi_31, zi_462, zi_165, zi_79, zi_314, zi_76, zi_70, zi_463, zi_224, zi_206, zi_59, zi_196, zi_302, zi_304, zi_305, zi_464, zi_408, zi_465, zi_67w1, zi_67w2, kC_eq, toL_s, toL_n, okS0, okS1, okS2, okS3, okS4, true_and, and_true, hT_wI, hL_wI, hR_wI, hI_wI, hJ_wI, sI_wI, rfP, isIA_100, isIA_120, inb_ok, nI_clamp, nI_add, nI_mul, ↓reduceIte, not_false_eq_true, not_true_eq_false, true_or, or_true, bI_01, b01_0, b01_1, bI_0, n4, n5, n2, n8, Nat.reduceMul, Nat.reduceAdd, Nat.reduceLT, Nat.reduceLeDiff, nI_eq, nI_leI, nI_ltI, Nat.reduceEqDiff, pk_div, nI_sub, Nat.reduceDiv, Nat.reduceSub, ctch, Int32.mul_comm (nI 2)]
    by_cases g : r (12 + 7 * a + s) ≤ r (12 + 7 * a + s) / nI 4 * nI 2
    · simp only [g, Int32.not_lt.mpr g, ↓reduceIte]
    · simp only [g, Int32.not_le.mp g, ↓reduceIte]
  | 2, _ =>
    simp (disch := first | omega | (simp (disch := omega) only [nb_upr]; omega)) only [w_970_2, w_970_10, w_970_11, w_970_12, zi_0, zi_0n, zi_88, zi_51, zi_459, zi_34, zi_453, zi_111i, zi_111r, zi_111u, zi_111a, zi_48, zi_74i, zi_74r, zi_74u, zi_74a, zi_63, zi_9, zi_238, zi_164i, zi_164r, zi_164u, zi_164a, zi_31, zi_462, zi_165, zi_79, zi_314, zi_76, zi_70, zi_463, zi_224, zi_206, zi_59, zi_196, zi_302, zi_304, zi_305, zi_464, zi_408, zi_465, zi_67w1, zi_67w2, kC_eq, toL_s, toL_n, okS0, okS1, okS2, okS3, okS4, true_and, and_true, hT_wI, hL_wI, hR_wI, hI_wI, hJ_wI, sI_wI, rfP, isIA_100, isIA_120, inb_ok, nI_clamp, nI_add, nI_mul, ↓reduceIte, not_false_eq_true, not_true_eq_false, true_or, or_true, bI_01, b01_0, b01_1, bI_0, n4, n5, n2, n8, Nat.reduceMul, Nat.reduceAdd, Nat.reduceLT, Nat.reduceLeDiff, nI_eq, nI_leI, nI_ltI, Nat.reduceEqDiff, pk_div, nI_sub, Nat.reduceDiv, Nat.reduceSub, ctch]
    by_cases g : r (12 + 7 * a + s) ≤ r (12 + 7 * a + s) / nI 4 + r (77 + 10 * β)
    · simp only [g, Int32.not_lt.mpr g, ↓reduceIte]
    · simp only [g, Int32.not_le.mp g, ↓reduceIte]
  | 3, _ =>
    simp (disch := first | omega | (simp (disch := omega) only [nb_upr]; omega)) only [w_970_3, w_970_4, w_970_5, w_970_10, w_970_11, w_970_12, zi_0, zi_0n, zi_88, zi_51, zi_459, zi_34, zi_453, zi_111i, zi_111r, zi_111u, zi_111a, zi_48, zi_74i, zi_74r, zi_74u, zi_74a, zi_63, zi_9, zi_238, zi_164i, zi_164r, zi_164u, zi_164a, zi_31, zi_462, zi_165, zi_79, zi_314, zi_76, zi_70, zi_463, zi_224, zi_206, zi_59, zi_196, zi_302, zi_304, zi_305, zi_464, zi_408, zi_465, zi_67w1, zi_67w2, kC_eq, toL_s, toL_n, okS0, okS1, okS2, okS3, okS4, true_and, and_true, hT_wI, hL_wI, hR_wI, hI_wI, hJ_wI, sI_wI, rfP, isIA_100, isIA_120, inb_ok, nI_clamp, nI_add, nI_mul, ↓reduceIte, not_false_eq_true, not_true_eq_false, true_or, or_true, bI_01, b01_0, b01_1, bI_0, n4, n5, n2, n8, Nat.reduceMul, Nat.reduceAdd, Nat.reduceLT, Nat.reduceLeDiff, nI_eq, nI_leI, nI_ltI, Nat.reduceEqDiff, pk_div, nI_sub, Nat.reduceDiv, Nat.reduceSub, ctch, Int32.mul_comm (nI 2)]
    by_cases z : s = 2
    · simp only [z, ↓reduceIte]
      by_cases g : r (12 + 7 * a + 2) ≤ nI 0
      · simp only [g, Int32.not_lt.mpr g, ↓reduceIte]
      · simp only [g, Int32.not_le.mp g, ↓reduceIte]
    · simp only [z, ↓reduceIte]
      by_cases g : r (12 + 7 * a + s) ≤ r (12 + 7 * a + s) / nI 4 * nI 2
      · simp only [g, Int32.not_lt.mpr g, ↓reduceIte]
      · simp only [g, Int32.not_le.mp g, ↓reduceIte]
  | 4, _ =>
    simp (disch := first | omega | (simp (disch := omega) only [nb_upr]; omega)) only [w_970_6, w_970_10, w_970_11, w_970_12, zi_0, zi_0n, zi_88, zi_51, zi_459, zi_34, zi_453, zi_111i, zi_111r, zi_111u, zi_111a, zi_48, zi_74i, zi_74r, zi_74u, zi_74a, zi_63, zi_9, zi_238, zi_164i, zi_164r, zi_164u, zi_164a, zi_31, zi_462, zi_165, zi_79, zi_314, zi_76, zi_70, zi_463, zi_224, zi_206, zi_59, zi_196, zi_302, zi_304, zi_305, zi_464, zi_408, zi_465, zi_67w1, zi_67w2, kC_eq, toL_s, toL_n, okS0, okS1, okS2, okS3, okS4, true_and, and_true, hT_wI, hL_wI, hR_wI, hI_wI, hJ_wI, sI_wI, rfP, isIA_100, isIA_120, inb_ok, nI_clamp, nI_add, nI_mul, ↓reduceIte, not_false_eq_true, not_true_eq_false, true_or, or_true, bI_01, b01_0, b01_1, bI_0, n4, n5, n2, n8, Nat.reduceMul, Nat.reduceAdd, Nat.reduceLT, Nat.reduceLeDiff, nI_eq, nI_leI, nI_ltI, Nat.reduceEqDiff, pk_div, nI_sub, Nat.reduceDiv, Nat.reduceSub, ctch, Int32.mul_comm (nI 2)]
    by_cases g : r (12 + 7 * a + s) ≤ (r (12 + 7 * a + s) / nI 4 + r (77 + 10 * β)) * nI 2
    · simp only [g, Int32.not_lt.mpr g, ↓reduceIte]
    · simp only [g, Int32.not_le.mp g, ↓reduceIte]
  | 5, _ =>
    simp (disch := first | omega | (simp (disch := omega) only [nb_upr]; omega)) only [w_970_7, w_970_8, w_970_9, w_970_10, w_970_11, w_970_12, zi_0, zi_0n, zi_88, zi_51, zi_459, zi_34, zi_453, zi_111i, zi_111r, zi_111u, zi_111a, zi_48, zi_74i, zi_74r, zi_74u, zi_74a, zi_63, zi_9, zi_238, zi_164i, zi_164r, zi_164u, zi_164a, zi_31, zi_462, zi_165, zi_79, zi_314, zi_76, zi_70, zi_463, zi_224, zi_206, zi_59, zi_196, zi_302, zi_304, zi_305, zi_464, zi_408, zi_465, zi_67w1, zi_67w2, kC_eq, toL_s, toL_n, okS0, okS1, okS2, okS3, okS4, true_and, and_true, hT_wI, hL_wI, hR_wI, hI_wI, hJ_wI, sI_wI, rfP, isIA_100, isIA_120, inb_ok, nI_clamp, nI_add, nI_mul, ↓reduceIte, not_false_eq_true, not_true_eq_false, true_or, or_true, bI_01, b01_0, b01_1, bI_0, n4, n5, n2, n8, Nat.reduceMul, Nat.reduceAdd, Nat.reduceLT, Nat.reduceLeDiff, nI_eq, nI_leI, nI_ltI, Nat.reduceEqDiff, pk_div, nI_sub, Nat.reduceDiv, Nat.reduceSub, ctch, rem5]
    by_cases z : nI s = r (77 + 10 * β) - r (77 + 10 * β) / nI 5 * nI 5
    · simp only [z, ↓reduceIte]
      by_cases g : r (12 + 7 * a + s) ≤ r (12 + 7 * a + s)
      · simp only [g, Int32.not_lt.mpr g, ↓reduceIte]
      · simp only [g, Int32.not_le.mp g, ↓reduceIte]
    · simp only [z, ↓reduceIte]
      by_cases g : r (12 + 7 * a + s) ≤ r (12 + 7 * a + s) / nI 4
      · simp only [g, Int32.not_lt.mpr g, ↓reduceIte]
      · simp only [g, Int32.not_le.mp g, ↓reduceIte]
theorem e_tearsOf (F : FR h) (β k : Nat) (hβ : β < nb r) (h6 : β < 6) (hk : k < 6) (e2 : r (76 + 10 * β) = nI k) (hd : 1 ≤ d) :
    Run d 985 [.ref 233, .int (nI β)] (wI h (mw f 234 r)) Q = Q (some (.int (tear k (r (77 + 10 * β)) (r (79 + 10 * β))))) (wI h (mw f 234 r)) := by
  simp (disch := first | omega | (simp (disch := omega) only [nb_upr]; omega)) only [R_985, w_985_0, zi_0, zi_0n, zi_88, zi_31, zi_459, zi_467, zi_67w1, zi_67w2, zi_51, zi_54, zi_77, zi_48, zi_224, zi_206, zi_70, F.t233, kC_eq, toL_s, toL_n, okS0, okS1, okS2, okS3, okS4, true_and, and_true, hT_wI, hL_wI, hR_wI, hI_wI, hJ_wI, sI_wI, rfP, isIA_100, isIA_120, inb_ok, nI_clamp, nI_add, nI_mul, ↓reduceIte, not_false_eq_true, not_true_eq_false, true_or, or_true, bI_01, b01_0, b01_1, bI_0, n4, n5, n2, n8, Nat.reduceMul, Nat.reduceAdd, Nat.reduceLT, Nat.reduceLeDiff, nI_eq, nI_leI, nI_ltI, Nat.reduceEqDiff, pk_div, nI_sub, Nat.reduceDiv, Nat.reduceSub, e_its0 F hβ h6, e2]
  match k, hk with
  | 0, _ => simp (disch := first | omega | (simp (disch := omega) only [nb_upr]; omega)) only [w_985_7, zi_0, zi_0n, zi_88, zi_31, zi_459, zi_467, zi_67w1, zi_67w2, zi_51, zi_54, zi_77, zi_48, zi_224, zi_206, zi_70, kC_eq, toL_s, toL_n, okS0, okS1, okS2, okS3, okS4, true_and, and_true, hT_wI, hL_wI, hR_wI, hI_wI, hJ_wI, sI_wI, rfP, isIA_100, isIA_120, inb_ok, nI_clamp, nI_add, nI_mul, ↓reduceIte, not_false_eq_true, not_true_eq_false, true_or, or_true, bI_01, b01_0, b01_1, bI_0, n4, n5, n2, n8, Nat.reduceMul, Nat.reduceAdd, Nat.reduceLT, Nat.reduceLeDiff, nI_eq, nI_leI, nI_ltI, Nat.reduceEqDiff, pk_div, nI_sub, Nat.reduceDiv, Nat.reduceSub, tear]
  | 1, _ => simp (disch := first | omega | (simp (disch := omega) only [nb_upr]; omega)) only [w_985_1, zi_0, zi_0n, zi_88, zi_31, zi_459, zi_467, zi_67w1, zi_67w2, zi_51, zi_54, zi_77, zi_48, zi_224, zi_206, zi_70, kC_eq, toL_s, toL_n, okS0, okS1, okS2, okS3, okS4, true_and, and_true, hT_wI, hL_wI, hR_wI, hI_wI, hJ_wI, sI_wI, rfP, isIA_100, isIA_120, inb_ok, nI_clamp, nI_add, nI_mul, ↓reduceIte, not_false_eq_true, not_true_eq_false, true_or, or_true, bI_01, b01_0, b01_1, bI_0, n4, n5, n2, n8, Nat.reduceMul, Nat.reduceAdd, Nat.reduceLT, Nat.reduceLeDiff, nI_eq, nI_leI, nI_ltI, Nat.reduceEqDiff, pk_div, nI_sub, Nat.reduceDiv, Nat.reduceSub, tear]
  | 2, _ => simp (disch := first | omega | (simp (disch := omega) only [nb_upr]; omega)) only [w_985_2, zi_0, zi_0n, zi_88, zi_31, zi_459, zi_467, zi_67w1, zi_67w2, zi_51, zi_54, zi_77, zi_48, zi_224, zi_206, zi_70, kC_eq, toL_s, toL_n, okS0, okS1, okS2, okS3, okS4, true_and, and_true, hT_wI, hL_wI, hR_wI, hI_wI, hJ_wI, sI_wI, rfP, isIA_100, isIA_120, inb_ok, nI_clamp, nI_add, nI_mul, ↓reduceIte, not_false_eq_true, not_true_eq_false, true_or, or_true, bI_01, b01_0, b01_1, bI_0, n4, n5, n2, n8, Nat.reduceMul, Nat.reduceAdd, Nat.reduceLT, Nat.reduceLeDiff, nI_eq, nI_leI, nI_ltI, Nat.reduceEqDiff, pk_div, nI_sub, Nat.reduceDiv, Nat.reduceSub, tear]
  | 3, _ =>
    simp (disch := first | omega | (simp (disch := omega) only [nb_upr]; omega)) only [w_985_3, w_985_4, w_985_5, zi_0, zi_0n, zi_88, zi_31, zi_459, zi_467, zi_67w1, zi_67w2, zi_51, zi_54, zi_77, zi_48, zi_224, zi_206, zi_70, F.t233, kC_eq, toL_s, toL_n, okS0, okS1, okS2, okS3, okS4, true_and, and_true, hT_wI, hL_wI, hR_wI, hI_wI, hJ_wI, sI_wI, rfP, isIA_100, isIA_120, inb_ok, nI_clamp, nI_add, nI_mul, ↓reduceIte, not_false_eq_true, not_true_eq_false, true_or, or_true, bI_01, b01_0, b01_1, bI_0, n4, n5, n2, n8, Nat.reduceMul, Nat.reduceAdd, Nat.reduceLT, Nat.reduceLeDiff, nI_eq, nI_leI, nI_ltI, Nat.reduceEqDiff, pk_div, nI_sub, Nat.reduceDiv, Nat.reduceSub, e_its3 F hβ h6, tear]
    split <;> rfl
  | 4, _ => simp (disch := first | omega | (simp (disch := omega) only [nb_upr]; omega)) only [w_985_6, zi_0, zi_0n, zi_88, zi_31, zi_459, zi_467, zi_67w1, zi_67w2, zi_51, zi_54, zi_77, zi_48, zi_224, zi_206, zi_70, F.t233, kC_eq, toL_s, toL_n, okS0, okS1, okS2, okS3, okS4, true_and, and_true, hT_wI, hL_wI, hR_wI, hI_wI, hJ_wI, sI_wI, rfP, isIA_100, isIA_120, inb_ok, nI_clamp, nI_add, nI_mul, ↓reduceIte, not_false_eq_true, not_true_eq_false, true_or, or_true, bI_01, b01_0, b01_1, bI_0, n4, n5, n2, n8, Nat.reduceMul, Nat.reduceAdd, Nat.reduceLT, Nat.reduceLeDiff, nI_eq, nI_leI, nI_ltI, Nat.reduceEqDiff, pk_div, nI_sub, Nat.reduceDiv, Nat.reduceSub, e_its1 F hβ h6, tear]
  | 5, _ => simp (disch := first | omega | (simp (disch := omega) only [nb_upr]; omega)) only [w_985_1, zi_0, zi_0n, zi_88, zi_31, zi_459, zi_467, zi_67w1, zi_67w2, zi_51, zi_54, zi_77, zi_48, zi_224, zi_206, zi_70, kC_eq, toL_s, toL_n, okS0, okS1, okS2, okS3, okS4, true_and, and_true, hT_wI, hL_wI, hR_wI, hI_wI, hJ_wI, sI_wI, rfP, isIA_100, isIA_120, inb_ok, nI_clamp, nI_add, nI_mul, ↓reduceIte, not_false_eq_true, not_true_eq_false, true_or, or_true, bI_01, b01_0, b01_1, bI_0, n4, n5, n2, n8, Nat.reduceMul, Nat.reduceAdd, Nat.reduceLT, Nat.reduceLeDiff, nI_eq, nI_leI, nI_ltI, Nat.reduceEqDiff, pk_div, nI_sub, Nat.reduceDiv, Nat.reduceSub, tear]
theorem e_drawn (F : FR h) : Run d 1080 [.ref 233] (wI h (mw f 234 r)) Q = Q (some (.int (nI (dN (r 6))))) (wI h (mw f 234 (upr r 6 (zn (r 6))))) := by
  simp -implicitDefEqProofs (disch := first | omega | (simp (disch := omega) only [nb_upr]; omega)) only [dN, zn, R_1080, w_1080_0, zi_0, zi_0n, zi_357, zi_42, zi_106, zi_482, zi_79, zi_483, zi_70, zi_38, zi_484, zi_485, zi_67w1, zi_67w2, F.t233, F.r233_0, F.t234, F.l234, kC_eq, toL_s, toL_n, okS0, okS1, okS2, okS3, okS4, true_and, and_true, hT_wI, hL_wI, hR_wI, hI_wI, hJ_wI, sI_wI, rfP, isIA_100, isIA_120, inb_ok, nI_clamp, nI_add, nI_mul, ↓reduceIte, not_false_eq_true, not_true_eq_false, true_or, or_true, bI_01, b01_0, b01_1, bI_0, n4, n5, n2, n8, Nat.reduceMul, Nat.reduceAdd, Nat.reduceLT, Nat.reduceLeDiff, nI_eq, nI_leI, nI_ltI, Nat.reduceEqDiff, pk_div, nI_sub, Nat.reduceDiv, Nat.reduceSub, mw_r, mw_w, upr_same, shr16]
end
