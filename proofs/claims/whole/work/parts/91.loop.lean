section
/-! the law's loop -/
variable {L : Nat}
theorem law_any {n i : Nat} {h : PH} {f : Nat → Nat → Int32} (I : LI n L h f) (hn4 : n ≤ 4000) (hL : L ≤ 2560) (hi : i + 5 ≤ L) : ∃ h' f', NX n L h h' f f' ∧ ∀ Q, WP 31 2281 1 [.ref 0, .ref 100, .ref 233, .int (nI i)] [] (wI h f) Q = WP 31 2281 1 [.ref 0, .ref 100, .ref 233, .int (nI (i + 5))] [] (wI h' f') Q := by
  have q0 := I.2.2.1
  have q9 := I.2.2.2
  have g : ¬ L - 5 < i := by omega
  by_cases c0 : f 0 i &&& nI 63 = nI 0
  · obtain ⟨h', f', N, e⟩ := lw_0 I hn4 hL hi
    refine ⟨h', f', N, fun Q => ?_⟩
    rw [← e Q, w_2281_1]
    simp -implicitDefEqProofs (disch := first | omega | (simp (disch := omega) only [nb_upr]; omega)) only [zi_63, zi_0, zi_0n, zi_173, zi_59, zi_101, zi_713, zi_106, zi_707, zi_83, zi_714, zi_822i, zi_822r, zi_822u, zi_822a, zi_40, zi_48, zi_67w1, zi_67w2, q0, q9, kC_eq, toL_s, toL_n, okS0, okS1, okS2, okS3, okS4, okS5, true_and, and_true, hT_wI, hL_wI, hR_wI, hI_wI, hJ_wI, sI_wI, rfP, isIA_100, isIA_120, inb_ok, nI_clamp, nI_add, nI_mul, ↓reduceIte, not_false_eq_true, not_true_eq_false, true_or, or_true, ↓bI_01, ↓b01_0, ↓b01_1, bI_0, z00, z10, n4, n5, n2, n8, Nat.reduceMul, Nat.reduceAdd, Nat.reduceLT, Nat.reduceLeDiff, nI_eq, nI_leI, nI_ltI, Nat.reduceEqDiff, pk_div, nI_sub, Nat.reduceDiv, Nat.reduceSub, g, c0]
  by_cases c1 : f 0 i &&& nI 63 = nI 1
  · obtain ⟨h', f', N, e⟩ := lw_1 I hn4 hL hi
    refine ⟨h', f', N, fun Q => ?_⟩
    rw [← e Q, w_2281_1]
    simp -implicitDefEqProofs (disch := first | omega | (simp (disch := omega) only [nb_upr]; omega)) only [zi_63, zi_0, zi_0n, zi_173, zi_59, zi_101, zi_713, zi_106, zi_707, zi_83, zi_714, zi_822i, zi_822r, zi_822u, zi_822a, zi_40, zi_48, zi_67w1, zi_67w2, q0, q9, kC_eq, toL_s, toL_n, okS0, okS1, okS2, okS3, okS4, okS5, true_and, and_true, hT_wI, hL_wI, hR_wI, hI_wI, hJ_wI, sI_wI, rfP, isIA_100, isIA_120, inb_ok, nI_clamp, nI_add, nI_mul, ↓reduceIte, not_false_eq_true, not_true_eq_false, true_or, or_true, ↓bI_01, ↓b01_0, ↓b01_1, bI_0, z00, z10, n4, n5, n2, n8, Nat.reduceMul, Nat.reduceAdd, Nat.reduceLT, Nat.reduceLeDiff, nI_eq, nI_leI, nI_ltI, Nat.reduceEqDiff, pk_div, nI_sub, Nat.reduceDiv, Nat.reduceSub, g, c1]
  by_cases c2 : f 0 i &&& nI 63 = nI 2
  · obtain ⟨h', f', N, e⟩ := lw_2 I hn4 hL hi
    refine ⟨h', f', N, fun Q => ?_⟩
    rw [← e Q, w_2281_1]
    simp -implicitDefEqProofs (disch := first | omega | (simp (disch := omega) only [nb_upr]; omega)) only [zi_63, zi_0, zi_0n, zi_173, zi_59, zi_101, zi_713, zi_106, zi_707, zi_83, zi_714, zi_822i, zi_822r, zi_822u, zi_822a, zi_40, zi_48, zi_67w1, zi_67w2, q0, q9, kC_eq, toL_s, toL_n, okS0, okS1, okS2, okS3, okS4, okS5, true_and, and_true, hT_wI, hL_wI, hR_wI, hI_wI, hJ_wI, sI_wI, rfP, isIA_100, isIA_120, inb_ok, nI_clamp, nI_add, nI_mul, ↓reduceIte, not_false_eq_true, not_true_eq_false, true_or, or_true, ↓bI_01, ↓b01_0, ↓b01_1, bI_0, z00, z10, n4, n5, n2, n8, Nat.reduceMul, Nat.reduceAdd, Nat.reduceLT, Nat.reduceLeDiff, nI_eq, nI_leI, nI_ltI, Nat.reduceEqDiff, pk_div, nI_sub, Nat.reduceDiv, Nat.reduceSub, g, c2]
  by_cases c3 : f 0 i &&& nI 63 = nI 3
  · obtain ⟨h', f', N, e⟩ := lw_3 I hn4 hL hi
    refine ⟨h', f', N, fun Q => ?_⟩
    rw [← e Q, w_2281_1]
    simp -implicitDefEqProofs (disch := first | omega | (simp (disch := omega) only [nb_upr]; omega)) only [zi_63, zi_0, zi_0n, zi_173, zi_59, zi_101, zi_713, zi_106, zi_707, zi_83, zi_714, zi_822i, zi_822r, zi_822u, zi_822a, zi_40, zi_48, zi_67w1, zi_67w2, q0, q9, kC_eq, toL_s, toL_n, okS0, okS1, okS2, okS3, okS4, okS5, true_and, and_true, hT_wI, hL_wI, hR_wI, hI_wI, hJ_wI, sI_wI, rfP, isIA_100, isIA_120, inb_ok, nI_clamp, nI_add, nI_mul, ↓reduceIte, not_false_eq_true, not_true_eq_false, true_or, or_true, ↓bI_01, ↓b01_0, ↓b01_1, bI_0, z00, z10, n4, n5, n2, n8, Nat.reduceMul, Nat.reduceAdd, Nat.reduceLT, Nat.reduceLeDiff, nI_eq, nI_leI, nI_ltI, Nat.reduceEqDiff, pk_div, nI_sub, Nat.reduceDiv, Nat.reduceSub, g, c3]
  by_cases c4 : f 0 i &&& nI 63 = nI 4
  · obtain ⟨h', f', N, e⟩ := lw_4 I hn4 hL hi
    refine ⟨h', f', N, fun Q => ?_⟩
    rw [← e Q, w_2281_1]
    simp -implicitDefEqProofs (disch := first | omega | (simp (disch := omega) only [nb_upr]; omega)) only [zi_63, zi_0, zi_0n, zi_173, zi_59, zi_101, zi_713, zi_106, zi_707, zi_83, zi_714, zi_822i, zi_822r, zi_822u, zi_822a, zi_40, zi_48, zi_67w1, zi_67w2, q0, q9, kC_eq, toL_s, toL_n, okS0, okS1, okS2, okS3, okS4, okS5, true_and, and_true, hT_wI, hL_wI, hR_wI, hI_wI, hJ_wI, sI_wI, rfP, isIA_100, isIA_120, inb_ok, nI_clamp, nI_add, nI_mul, ↓reduceIte, not_false_eq_true, not_true_eq_false, true_or, or_true, ↓bI_01, ↓b01_0, ↓b01_1, bI_0, z00, z10, n4, n5, n2, n8, Nat.reduceMul, Nat.reduceAdd, Nat.reduceLT, Nat.reduceLeDiff, nI_eq, nI_leI, nI_ltI, Nat.reduceEqDiff, pk_div, nI_sub, Nat.reduceDiv, Nat.reduceSub, g, c4]
  by_cases c5 : f 0 i &&& nI 63 = nI 5
  · obtain ⟨h', f', N, e⟩ := lw_5 I hn4 hL hi
    refine ⟨h', f', N, fun Q => ?_⟩
    rw [← e Q, w_2281_1]
    simp -implicitDefEqProofs (disch := first | omega | (simp (disch := omega) only [nb_upr]; omega)) only [zi_63, zi_0, zi_0n, zi_173, zi_59, zi_101, zi_713, zi_106, zi_707, zi_83, zi_714, zi_822i, zi_822r, zi_822u, zi_822a, zi_40, zi_48, zi_67w1, zi_67w2, q0, q9, kC_eq, toL_s, toL_n, okS0, okS1, okS2, okS3, okS4, okS5, true_and, and_true, hT_wI, hL_wI, hR_wI, hI_wI, hJ_wI, sI_wI, rfP, isIA_100, isIA_120, inb_ok, nI_clamp, nI_add, nI_mul, ↓reduceIte, not_false_eq_true, not_true_eq_false, true_or, or_true, ↓bI_01, ↓b01_0, ↓b01_1, bI_0, z00, z10, n4, n5, n2, n8, Nat.reduceMul, Nat.reduceAdd, Nat.reduceLT, Nat.reduceLeDiff, nI_eq, nI_leI, nI_ltI, Nat.reduceEqDiff, pk_div, nI_sub, Nat.reduceDiv, Nat.reduceSub, g, c5]
  by_cases c6 : f 0 i &&& nI 63 = nI 6
  · obtain ⟨h', f', N, e⟩ := lw_6 I hn4 hL hi
    refine ⟨h', f', N, fun Q => ?_⟩
    rw [← e Q, w_2281_1]
    simp -implicitDefEqProofs (disch := first | omega | (simp (disch := omega) only [nb_upr]; omega)) only [zi_63, zi_0, zi_0n, zi_173, zi_59, zi_101, zi_713, zi_106, zi_707, zi_83, zi_714, zi_822i, zi_822r, zi_822u, zi_822a, zi_40, zi_48, zi_67w1, zi_67w2, q0, q9, kC_eq, toL_s, toL_n, okS0, okS1, okS2, okS3, okS4, okS5, true_and, and_true, hT_wI, hL_wI, hR_wI, hI_wI, hJ_wI, sI_wI, rfP, isIA_100, isIA_120, inb_ok, nI_clamp, nI_add, nI_mul, ↓reduceIte, not_false_eq_true, not_true_eq_false, true_or, or_true, ↓bI_01, ↓b01_0, ↓b01_1, bI_0, z00, z10, n4, n5, n2, n8, Nat.reduceMul, Nat.reduceAdd, Nat.reduceLT, Nat.reduceLeDiff, nI_eq, nI_leI, nI_ltI, Nat.reduceEqDiff, pk_div, nI_sub, Nat.reduceDiv, Nat.reduceSub, g, c6]
  by_cases c7 : f 0 i &&& nI 63 = nI 7
  · obtain ⟨h', f', N, e⟩ := lw_7 I hn4 hL hi
    refine ⟨h', f', N, fun Q => ?_⟩
    rw [← e Q, w_2281_1]
    simp -implicitDefEqProofs (disch := first | omega | (simp (disch := omega) only [nb_upr]; omega)) only [zi_63, zi_0, zi_0n, zi_173, zi_59, zi_101, zi_713, zi_106, zi_707, zi_83, zi_714, zi_822i, zi_822r, zi_822u, zi_822a, zi_40, zi_48, zi_67w1, zi_67w2, q0, q9, kC_eq, toL_s, toL_n, okS0, okS1, okS2, okS3, okS4, okS5, true_and, and_true, hT_wI, hL_wI, hR_wI, hI_wI, hJ_wI, sI_wI, rfP, isIA_100, isIA_120, inb_ok, nI_clamp, nI_add, nI_mul, ↓reduceIte, not_false_eq_true, not_true_eq_false, true_or, or_true, ↓bI_01, ↓b01_0, ↓b01_1, bI_0, z00, z10, n4, n5, n2, n8, Nat.reduceMul, Nat.reduceAdd, Nat.reduceLT, Nat.reduceLeDiff, nI_eq, nI_leI, nI_ltI, Nat.reduceEqDiff, pk_div, nI_sub, Nat.reduceDiv, Nat.reduceSub, g, c7]
  by_cases c8 : f 0 i &&& nI 63 = nI 8
  · obtain ⟨h', f', N, e⟩ := lw_8 I hn4 hL hi
    refine ⟨h', f', N, fun Q => ?_⟩
    rw [← e Q, w_2281_1]
    simp -implicitDefEqProofs (disch := first | omega | (simp (disch := omega) only [nb_upr]; omega)) only [zi_63, zi_0, zi_0n, zi_173, zi_59, zi_101, zi_713, zi_106, zi_707, zi_83, zi_714, zi_822i, zi_822r, zi_822u, zi_822a, zi_40, zi_48, zi_67w1, zi_67w2, q0, q9, kC_eq, toL_s, toL_n, okS0, okS1, okS2, okS3, okS4, okS5, true_and, and_true, hT_wI, hL_wI, hR_wI, hI_wI, hJ_wI, sI_wI, rfP, isIA_100, isIA_120, inb_ok, nI_clamp, nI_add, nI_mul, ↓reduceIte, not_false_eq_true, not_true_eq_false, true_or, or_true, ↓bI_01, ↓b01_0, ↓b01_1, bI_0, z00, z10, n4, n5, n2, n8, Nat.reduceMul, Nat.reduceAdd, Nat.reduceLT, Nat.reduceLeDiff, nI_eq, nI_leI, nI_ltI, Nat.reduceEqDiff, pk_div, nI_sub, Nat.reduceDiv, Nat.reduceSub, g, c8]
  by_cases c9 : f 0 i &&& nI 63 = nI 9
  · obtain ⟨h', f', N, e⟩ := lw_9 I hn4 hL hi
    refine ⟨h', f', N, fun Q => ?_⟩
    rw [← e Q, w_2281_1]
    simp -implicitDefEqProofs (disch := first | omega | (simp (disch := omega) only [nb_upr]; omega)) only [zi_63, zi_0, zi_0n, zi_173, zi_59, zi_101, zi_713, zi_106, zi_707, zi_83, zi_714, zi_822i, zi_822r, zi_822u, zi_822a, zi_40, zi_48, zi_67w1, zi_67w2, q0, q9, kC_eq, toL_s, toL_n, okS0, okS1, okS2, okS3, okS4, okS5, true_and, and_true, hT_wI, hL_wI, hR_wI, hI_wI, hJ_wI, sI_wI, rfP, isIA_100, isIA_120, inb_ok, nI_clamp, nI_add, nI_mul, ↓reduceIte, not_false_eq_true, not_true_eq_false, true_or, or_true, ↓bI_01, ↓b01_0, ↓b01_1, bI_0, z00, z10, n4, n5, n2, n8, Nat.reduceMul, Nat.reduceAdd, Nat.reduceLT, Nat.reduceLeDiff, nI_eq, nI_leI, nI_ltI, Nat.reduceEqDiff, pk_div, nI_sub, Nat.reduceDiv, Nat.reduceSub, g, c9]
  by_cases c10 : f 0 i &&& nI 63 = nI 10
  · obtain ⟨h', f', N, e⟩ := lw_10 I hn4 hL hi
    refine ⟨h', f', N, fun Q => ?_⟩
    rw [← e Q, w_2281_1]
    simp -implicitDefEqProofs (disch := first | omega | (simp (disch := omega) only [nb_upr]; omega)) only [zi_63, zi_0, zi_0n, zi_173, zi_59, zi_101, zi_713, zi_106, zi_707, zi_83, zi_714, zi_822i, zi_822r, zi_822u, zi_822a, zi_40, zi_48, zi_67w1, zi_67w2, q0, q9, kC_eq, toL_s, toL_n, okS0, okS1, okS2, okS3, okS4, okS5, true_and, and_true, hT_wI, hL_wI, hR_wI, hI_wI, hJ_wI, sI_wI, rfP, isIA_100, isIA_120, inb_ok, nI_clamp, nI_add, nI_mul, ↓reduceIte, not_false_eq_true, not_true_eq_false, true_or, or_true, ↓bI_01, ↓b01_0, ↓b01_1, bI_0, z00, z10, n4, n5, n2, n8, Nat.reduceMul, Nat.reduceAdd, Nat.reduceLT, Nat.reduceLeDiff, nI_eq, nI_leI, nI_ltI, Nat.reduceEqDiff, pk_div, nI_sub, Nat.reduceDiv, Nat.reduceSub, g, c10]
  by_cases c11 : f 0 i &&& nI 63 = nI 11
  · obtain ⟨h', f', N, e⟩ := lw_11 I hn4 hL hi
    refine ⟨h', f', N, fun Q => ?_⟩
    rw [← e Q, w_2281_1]
    simp -implicitDefEqProofs (disch := first | omega | (simp (disch := omega) only [nb_upr]; omega)) only [zi_63, zi_0, zi_0n, zi_173, zi_59, zi_101, zi_713, zi_106, zi_707, zi_83, zi_714, zi_822i, zi_822r, zi_822u, zi_822a, zi_40, zi_48, zi_67w1, zi_67w2, q0, q9, kC_eq, toL_s, toL_n, okS0, okS1, okS2, okS3, okS4, okS5, true_and, and_true, hT_wI, hL_wI, hR_wI, hI_wI, hJ_wI, sI_wI, rfP, isIA_100, isIA_120, inb_ok, nI_clamp, nI_add, nI_mul, ↓reduceIte, not_false_eq_true, not_true_eq_false, true_or, or_true, ↓bI_01, ↓b01_0, ↓b01_1, bI_0, z00, z10, n4, n5, n2, n8, Nat.reduceMul, Nat.reduceAdd, Nat.reduceLT, Nat.reduceLeDiff, nI_eq, nI_leI, nI_ltI, Nat.reduceEqDiff, pk_div, nI_sub, Nat.reduceDiv, Nat.reduceSub, g, c11]
  by_cases c12 : f 0 i &&& nI 63 = nI 12
  · obtain ⟨h', f', N, e⟩ := lw_12 I hn4 hL hi
    refine ⟨h', f', N, fun Q => ?_⟩
    rw [← e Q, w_2281_1]
    simp -implicitDefEqProofs (disch := first | omega | (simp (disch := omega) only [nb_upr]; omega)) only [zi_63, zi_0, zi_0n, zi_173, zi_59, zi_101, zi_713, zi_106, zi_707, zi_83, zi_714, zi_822i, zi_822r, zi_822u, zi_822a, zi_40, zi_48, zi_67w1, zi_67w2, q0, q9, kC_eq, toL_s, toL_n, okS0, okS1, okS2, okS3, okS4, okS5, true_and, and_true, hT_wI, hL_wI, hR_wI, hI_wI, hJ_wI, sI_wI, rfP, isIA_100, isIA_120, inb_ok, nI_clamp, nI_add, nI_mul, ↓reduceIte, not_false_eq_true, not_true_eq_false, true_or, or_true, ↓bI_01, ↓b01_0, ↓b01_1, bI_0, z00, z10, n4, n5, n2, n8, Nat.reduceMul, Nat.reduceAdd, Nat.reduceLT, Nat.reduceLeDiff, nI_eq, nI_leI, nI_ltI, Nat.reduceEqDiff, pk_div, nI_sub, Nat.reduceDiv, Nat.reduceSub, g, c12]
  by_cases c13 : f 0 i &&& nI 63 = nI 13
  · obtain ⟨h', f', N, e⟩ := lw_13 I hn4 hL hi
    refine ⟨h', f', N, fun Q => ?_⟩
    rw [← e Q, w_2281_1]
    simp -implicitDefEqProofs (disch := first | omega | (simp (disch := omega) only [nb_upr]; omega)) only [zi_63, zi_0, zi_0n, zi_173, zi_59, zi_101, zi_713, zi_106, zi_707, zi_83, zi_714, zi_822i, zi_822r, zi_822u, zi_822a, zi_40, zi_48, zi_67w1, zi_67w2, q0, q9, kC_eq, toL_s, toL_n, okS0, okS1, okS2, okS3, okS4, okS5, true_and, and_true, hT_wI, hL_wI, hR_wI, hI_wI, hJ_wI, sI_wI, rfP, isIA_100, isIA_120, inb_ok, nI_clamp, nI_add, nI_mul, ↓reduceIte, not_false_eq_true, not_true_eq_false, true_or, or_true, ↓bI_01, ↓b01_0, ↓b01_1, bI_0, z00, z10, n4, n5, n2, n8, Nat.reduceMul, Nat.reduceAdd, Nat.reduceLT, Nat.reduceLeDiff, nI_eq, nI_leI, nI_ltI, Nat.reduceEqDiff, pk_div, nI_sub, Nat.reduceDiv, Nat.reduceSub, g, c13]
  by_cases c14 : f 0 i &&& nI 63 = nI 14
  · obtain ⟨h', f', N, e⟩ := lw_14 I hn4 hL hi
    refine ⟨h', f', N, fun Q => ?_⟩
    rw [← e Q, w_2281_1]
    simp -implicitDefEqProofs (disch := first | omega | (simp (disch := omega) only [nb_upr]; omega)) only [zi_63, zi_0, zi_0n, zi_173, zi_59, zi_101, zi_713, zi_106, zi_707, zi_83, zi_714, zi_822i, zi_822r, zi_822u, zi_822a, zi_40, zi_48, zi_67w1, zi_67w2, q0, q9, kC_eq, toL_s, toL_n, okS0, okS1, okS2, okS3, okS4, okS5, true_and, and_true, hT_wI, hL_wI, hR_wI, hI_wI, hJ_wI, sI_wI, rfP, isIA_100, isIA_120, inb_ok, nI_clamp, nI_add, nI_mul, ↓reduceIte, not_false_eq_true, not_true_eq_false, true_or, or_true, ↓bI_01, ↓b01_0, ↓b01_1, bI_0, z00, z10, n4, n5, n2, n8, Nat.reduceMul, Nat.reduceAdd, Nat.reduceLT, Nat.reduceLeDiff, nI_eq, nI_leI, nI_ltI, Nat.reduceEqDiff, pk_div, nI_sub, Nat.reduceDiv, Nat.reduceSub, g, c14]
  by_cases c15 : f 0 i &&& nI 63 = nI 15
  · obtain ⟨h', f', N, e⟩ := lw_15 I hn4 hL hi
    refine ⟨h', f', N, fun Q => ?_⟩
    rw [← e Q, w_2281_1]
    simp -implicitDefEqProofs (disch := first | omega | (simp (disch := omega) only [nb_upr]; omega)) only [zi_63, zi_0, zi_0n, zi_173, zi_59, zi_101, zi_713, zi_106, zi_707, zi_83, zi_714, zi_822i, zi_822r, zi_822u, zi_822a, zi_40, zi_48, zi_67w1, zi_67w2, q0, q9, kC_eq, toL_s, toL_n, okS0, okS1, okS2, okS3, okS4, okS5, true_and, and_true, hT_wI, hL_wI, hR_wI, hI_wI, hJ_wI, sI_wI, rfP, isIA_100, isIA_120, inb_ok, nI_clamp, nI_add, nI_mul, ↓reduceIte, not_false_eq_true, not_true_eq_false, true_or, or_true, ↓bI_01, ↓b01_0, ↓b01_1, bI_0, z00, z10, n4, n5, n2, n8, Nat.reduceMul, Nat.reduceAdd, Nat.reduceLT, Nat.reduceLeDiff, nI_eq, nI_leI, nI_ltI, Nat.reduceEqDiff, pk_div, nI_sub, Nat.reduceDiv, Nat.reduceSub, g, c15]
  by_cases c16 : f 0 i &&& nI 63 = nI 16
  · obtain ⟨h', f', N, e⟩ := lw_16 I hn4 hL hi
    refine ⟨h', f', N, fun Q => ?_⟩
    rw [← e Q, w_2281_1]
    simp -implicitDefEqProofs (disch := first | omega | (simp (disch := omega) only [nb_upr]; omega)) only [zi_63, zi_0, zi_0n, zi_173, zi_59, zi_101, zi_713, zi_106, zi_707, zi_83, zi_714, zi_822i, zi_822r, zi_822u, zi_822a, zi_40, zi_48, zi_67w1, zi_67w2, q0, q9, kC_eq, toL_s, toL_n, okS0, okS1, okS2, okS3, okS4, okS5, true_and, and_true, hT_wI, hL_wI, hR_wI, hI_wI, hJ_wI, sI_wI, rfP, isIA_100, isIA_120, inb_ok, nI_clamp, nI_add, nI_mul, ↓reduceIte, not_false_eq_true, not_true_eq_false, true_or, or_true, ↓bI_01, ↓b01_0, ↓b01_1, bI_0, z00, z10, n4, n5, n2, n8, Nat.reduceMul, Nat.reduceAdd, Nat.reduceLT, Nat.reduceLeDiff, nI_eq, nI_leI, nI_ltI, Nat.reduceEqDiff, pk_div, nI_sub, Nat.reduceDiv, Nat.reduceSub, g, c16]
  by_cases c17 : f 0 i &&& nI 63 = nI 17
  · obtain ⟨h', f', N, e⟩ := lw_17 I hn4 hL hi
    refine ⟨h', f', N, fun Q => ?_⟩
    rw [← e Q, w_2281_1]
    simp -implicitDefEqProofs (disch := first | omega | (simp (disch := omega) only [nb_upr]; omega)) only [zi_63, zi_0, zi_0n, zi_173, zi_59, zi_101, zi_713, zi_106, zi_707, zi_83, zi_714, zi_822i, zi_822r, zi_822u, zi_822a, zi_40, zi_48, zi_67w1, zi_67w2, q0, q9, kC_eq, toL_s, toL_n, okS0, okS1, okS2, okS3, okS4, okS5, true_and, and_true, hT_wI, hL_wI, hR_wI, hI_wI, hJ_wI, sI_wI, rfP, isIA_100, isIA_120, inb_ok, nI_clamp, nI_add, nI_mul, ↓reduceIte, not_false_eq_true, not_true_eq_false, true_or, or_true, ↓bI_01, ↓b01_0, ↓b01_1, bI_0, z00, z10, n4, n5, n2, n8, Nat.reduceMul, Nat.reduceAdd, Nat.reduceLT, Nat.reduceLeDiff, nI_eq, nI_leI, nI_ltI, Nat.reduceEqDiff, pk_div, nI_sub, Nat.reduceDiv, Nat.reduceSub, g, c17]
  by_cases c18 : f 0 i &&& nI 63 = nI 18
  · obtain ⟨h', f', N, e⟩ := lw_18 I hn4 hL hi
    refine ⟨h', f', N, fun Q => ?_⟩
    rw [← e Q, w_2281_1]
    simp -implicitDefEqProofs (disch := first | omega | (simp (disch := omega) only [nb_upr]; omega)) only [zi_63, zi_0, zi_0n, zi_173, zi_59, zi_101, zi_713, zi_106, zi_707, zi_83, zi_714, zi_822i, zi_822r, zi_822u, zi_822a, zi_40, zi_48, zi_67w1, zi_67w2, q0, q9, kC_eq, toL_s, toL_n, okS0, okS1, okS2, okS3, okS4, okS5, true_and, and_true, hT_wI, hL_wI, hR_wI, hI_wI, hJ_wI, sI_wI, rfP, isIA_100, isIA_120, inb_ok, nI_clamp, nI_add, nI_mul, ↓reduceIte, not_false_eq_true, not_true_eq_false, true_or, or_true, ↓bI_01, ↓b01_0, ↓b01_1, bI_0, z00, z10, n4, n5, n2, n8, Nat.reduceMul, Nat.reduceAdd, Nat.reduceLT, Nat.reduceLeDiff, nI_eq, nI_leI, nI_ltI, Nat.reduceEqDiff, pk_div, nI_sub, Nat.reduceDiv, Nat.reduceSub, g, c18]
  by_cases c19 : f 0 i &&& nI 63 = nI 19
  · obtain ⟨h', f', N, e⟩ := lw_19 I hn4 hL hi
    refine ⟨h', f', N, fun Q => ?_⟩
    rw [← e Q, w_2281_1]
    simp -implicitDefEqProofs (disch := first | omega | (simp (disch := omega) only [nb_upr]; omega)) only [zi_63, zi_0, zi_0n, zi_173, zi_59, zi_101, zi_713, zi_106, zi_707, zi_83, zi_714, zi_822i, zi_822r, zi_822u, zi_822a, zi_40, zi_48, zi_67w1, zi_67w2, q0, q9, kC_eq, toL_s, toL_n, okS0, okS1, okS2, okS3, okS4, okS5, true_and, and_true, hT_wI, hL_wI, hR_wI, hI_wI, hJ_wI, sI_wI, rfP, isIA_100, isIA_120, inb_ok, nI_clamp, nI_add, nI_mul, ↓reduceIte, not_false_eq_true, not_true_eq_false, true_or, or_true, ↓bI_01, ↓b01_0, ↓b01_1, bI_0, z00, z10, n4, n5, n2, n8, Nat.reduceMul, Nat.reduceAdd, Nat.reduceLT, Nat.reduceLeDiff, nI_eq, nI_leI, nI_ltI, Nat.reduceEqDiff, pk_div, nI_sub, Nat.reduceDiv, Nat.reduceSub, g, c19]
  by_cases c20 : f 0 i &&& nI 63 = nI 20
  · obtain ⟨h', f', N, e⟩ := lw_20 I hn4 hL hi
    refine ⟨h', f', N, fun Q => ?_⟩
    rw [← e Q, w_2281_1]
    simp -implicitDefEqProofs (disch := first | omega | (simp (disch := omega) only [nb_upr]; omega)) only [zi_63, zi_0, zi_0n, zi_173, zi_59, zi_101, zi_713, zi_106, zi_707, zi_83, zi_714, zi_822i, zi_822r, zi_822u, zi_822a, zi_40, zi_48, zi_67w1, zi_67w2, q0, q9, kC_eq, toL_s, toL_n, okS0, okS1, okS2, okS3, okS4, okS5, true_and, and_true, hT_wI, hL_wI, hR_wI, hI_wI, hJ_wI, sI_wI, rfP, isIA_100, isIA_120, inb_ok, nI_clamp, nI_add, nI_mul, ↓reduceIte, not_false_eq_true, not_true_eq_false, true_or, or_true, ↓bI_01, ↓b01_0, ↓b01_1, bI_0, z00, z10, n4, n5, n2, n8, Nat.reduceMul, Nat.reduceAdd, Nat.reduceLT, Nat.reduceLeDiff, nI_eq, nI_leI, nI_ltI, Nat.reduceEqDiff, pk_div, nI_sub, Nat.reduceDiv, Nat.reduceSub, g, c20]
  by_cases c21 : f 0 i &&& nI 63 = nI 21
  · obtain ⟨h', f', N, e⟩ := lw_21 I hn4 hL hi
    refine ⟨h', f', N, fun Q => ?_⟩
    rw [← e Q, w_2281_1]
    simp -implicitDefEqProofs (disch := first | omega | (simp (disch := omega) only [nb_upr]; omega)) only [zi_63, zi_0, zi_0n, zi_173, zi_59, zi_101, zi_713, zi_106, zi_707, zi_83, zi_714, zi_822i, zi_822r, zi_822u, zi_822a, zi_40, zi_48, zi_67w1, zi_67w2, q0, q9, kC_eq, toL_s, toL_n, okS0, okS1, okS2, okS3, okS4, okS5, true_and, and_true, hT_wI, hL_wI, hR_wI, hI_wI, hJ_wI, sI_wI, rfP, isIA_100, isIA_120, inb_ok, nI_clamp, nI_add, nI_mul, ↓reduceIte, not_false_eq_true, not_true_eq_false, true_or, or_true, ↓bI_01, ↓b01_0, ↓b01_1, bI_0, z00, z10, n4, n5, n2, n8, Nat.reduceMul, Nat.reduceAdd, Nat.reduceLT, Nat.reduceLeDiff, nI_eq, nI_leI, nI_ltI, Nat.reduceEqDiff, pk_div, nI_sub, Nat.reduceDiv, Nat.reduceSub, g, c21]
  by_cases c22 : f 0 i &&& nI 63 = nI 22
  · obtain ⟨h', f', N, e⟩ := lw_22 I hn4 hL hi
    refine ⟨h', f', N, fun Q => ?_⟩
    rw [← e Q, w_2281_1]
    simp -implicitDefEqProofs (disch := first | omega | (simp (disch := omega) only [nb_upr]; omega)) only [zi_63, zi_0, zi_0n, zi_173, zi_59, zi_101, zi_713, zi_106, zi_707, zi_83, zi_714, zi_822i, zi_822r, zi_822u, zi_822a, zi_40, zi_48, zi_67w1, zi_67w2, q0, q9, kC_eq, toL_s, toL_n, okS0, okS1, okS2, okS3, okS4, okS5, true_and, and_true, hT_wI, hL_wI, hR_wI, hI_wI, hJ_wI, sI_wI, rfP, isIA_100, isIA_120, inb_ok, nI_clamp, nI_add, nI_mul, ↓reduceIte, not_false_eq_true, not_true_eq_false, true_or, or_true, ↓bI_01, ↓b01_0, ↓b01_1, bI_0, z00, z10, n4, n5, n2, n8, Nat.reduceMul, Nat.reduceAdd, Nat.reduceLT, Nat.reduceLeDiff, nI_eq, nI_leI, nI_ltI, Nat.reduceEqDiff, pk_div, nI_sub, Nat.reduceDiv, Nat.reduceSub, g, c22]
  by_cases c23 : f 0 i &&& nI 63 = nI 23
  · obtain ⟨h', f', N, e⟩ := lw_23 I hn4 hL hi
    refine ⟨h', f', N, fun Q => ?_⟩
    rw [← e Q, w_2281_1]
    simp -implicitDefEqProofs (disch := first | omega | (simp (disch := omega) only [nb_upr]; omega)) only [zi_63, zi_0, zi_0n, zi_173, zi_59, zi_101, zi_713, zi_106, zi_707, zi_83, zi_714, zi_822i, zi_822r, zi_822u, zi_822a, zi_40, zi_48, zi_67w1, zi_67w2, q0, q9, kC_eq, toL_s, toL_n, okS0, okS1, okS2, okS3, okS4, okS5, true_and, and_true, hT_wI, hL_wI, hR_wI, hI_wI, hJ_wI, sI_wI, rfP, isIA_100, isIA_120, inb_ok, nI_clamp, nI_add, nI_mul, ↓reduceIte, not_false_eq_true, not_true_eq_false, true_or, or_true, ↓bI_01, ↓b01_0, ↓b01_1, bI_0, z00, z10, n4, n5, n2, n8, Nat.reduceMul, Nat.reduceAdd, Nat.reduceLT, Nat.reduceLeDiff, nI_eq, nI_leI, nI_ltI, Nat.reduceEqDiff, pk_div, nI_sub, Nat.reduceDiv, Nat.reduceSub, g, c23]
  by_cases c24 : f 0 i &&& nI 63 = nI 24
  · obtain ⟨h', f', N, e⟩ := lw_24 I hn4 hL hi
    refine ⟨h', f', N, fun Q => ?_⟩
    rw [← e Q, w_2281_1]
    simp -implicitDefEqProofs (disch := first | omega | (simp (disch := omega) only [nb_upr]; omega)) only [zi_63, zi_0, zi_0n, zi_173, zi_59, zi_101, zi_713, zi_106, zi_707, zi_83, zi_714, zi_822i, zi_822r, zi_822u, zi_822a, zi_40, zi_48, zi_67w1, zi_67w2, q0, q9, kC_eq, toL_s, toL_n, okS0, okS1, okS2, okS3, okS4, okS5, true_and, and_true, hT_wI, hL_wI, hR_wI, hI_wI, hJ_wI, sI_wI, rfP, isIA_100, isIA_120, inb_ok, nI_clamp, nI_add, nI_mul, ↓reduceIte, not_false_eq_true, not_true_eq_false, true_or, or_true, ↓bI_01, ↓b01_0, ↓b01_1, bI_0, z00, z10, n4, n5, n2, n8, Nat.reduceMul, Nat.reduceAdd, Nat.reduceLT, Nat.reduceLeDiff, nI_eq, nI_leI, nI_ltI, Nat.reduceEqDiff, pk_div, nI_sub, Nat.reduceDiv, Nat.reduceSub, g, c24]
  by_cases c25 : f 0 i &&& nI 63 = nI 25
  · obtain ⟨h', f', N, e⟩ := lw_25 I hn4 hL hi
    refine ⟨h', f', N, fun Q => ?_⟩
    rw [← e Q, w_2281_1]
    simp -implicitDefEqProofs (disch := first | omega | (simp (disch := omega) only [nb_upr]; omega)) only [zi_63, zi_0, zi_0n, zi_173, zi_59, zi_101, zi_713, zi_106, zi_707, zi_83, zi_714, zi_822i, zi_822r, zi_822u, zi_822a, zi_40, zi_48, zi_67w1, zi_67w2, q0, q9, kC_eq, toL_s, toL_n, okS0, okS1, okS2, okS3, okS4, okS5, true_and, and_true, hT_wI, hL_wI, hR_wI, hI_wI, hJ_wI, sI_wI, rfP, isIA_100, isIA_120, inb_ok, nI_clamp, nI_add, nI_mul, ↓reduceIte, not_false_eq_true, not_true_eq_false, true_or, or_true, ↓bI_01, ↓b01_0, ↓b01_1, bI_0, z00, z10, n4, n5, n2, n8, Nat.reduceMul, Nat.reduceAdd, Nat.reduceLT, Nat.reduceLeDiff, nI_eq, nI_leI, nI_ltI, Nat.reduceEqDiff, pk_div, nI_sub, Nat.reduceDiv, Nat.reduceSub, g, c25]
  by_cases c26 : f 0 i &&& nI 63 = nI 26
  · obtain ⟨h', f', N, e⟩ := lw_26 I hn4 hL hi
    refine ⟨h', f', N, fun Q => ?_⟩
    rw [← e Q, w_2281_1]
    simp -implicitDefEqProofs (disch := first | omega | (simp (disch := omega) only [nb_upr]; omega)) only [zi_63, zi_0, zi_0n, zi_173, zi_59, zi_101, zi_713, zi_106, zi_707, zi_83, zi_714, zi_822i, zi_822r, zi_822u, zi_822a, zi_40, zi_48, zi_67w1, zi_67w2, q0, q9, kC_eq, toL_s, toL_n, okS0, okS1, okS2, okS3, okS4, okS5, true_and, and_true, hT_wI, hL_wI, hR_wI, hI_wI, hJ_wI, sI_wI, rfP, isIA_100, isIA_120, inb_ok, nI_clamp, nI_add, nI_mul, ↓reduceIte, not_false_eq_true, not_true_eq_false, true_or, or_true, ↓bI_01, ↓b01_0, ↓b01_1, bI_0, z00, z10, n4, n5, n2, n8, Nat.reduceMul, Nat.reduceAdd, Nat.reduceLT, Nat.reduceLeDiff, nI_eq, nI_leI, nI_ltI, Nat.reduceEqDiff, pk_div, nI_sub, Nat.reduceDiv, Nat.reduceSub, g, c26]
  by_cases c27 : f 0 i &&& nI 63 = nI 27
  · obtain ⟨h', f', N, e⟩ := lw_27 I hn4 hL hi
    refine ⟨h', f', N, fun Q => ?_⟩
    rw [← e Q, w_2281_1]
    simp -implicitDefEqProofs (disch := first | omega | (simp (disch := omega) only [nb_upr]; omega)) only [zi_63, zi_0, zi_0n, zi_173, zi_59, zi_101, zi_713, zi_106, zi_707, zi_83, zi_714, zi_822i, zi_822r, zi_822u, zi_822a, zi_40, zi_48, zi_67w1, zi_67w2, q0, q9, kC_eq, toL_s, toL_n, okS0, okS1, okS2, okS3, okS4, okS5, true_and, and_true, hT_wI, hL_wI, hR_wI, hI_wI, hJ_wI, sI_wI, rfP, isIA_100, isIA_120, inb_ok, nI_clamp, nI_add, nI_mul, ↓reduceIte, not_false_eq_true, not_true_eq_false, true_or, or_true, ↓bI_01, ↓b01_0, ↓b01_1, bI_0, z00, z10, n4, n5, n2, n8, Nat.reduceMul, Nat.reduceAdd, Nat.reduceLT, Nat.reduceLeDiff, nI_eq, nI_leI, nI_ltI, Nat.reduceEqDiff, pk_div, nI_sub, Nat.reduceDiv, Nat.reduceSub, g, c27]
  by_cases c28 : f 0 i &&& nI 63 = nI 28
  · obtain ⟨h', f', N, e⟩ := lw_28 I hn4 hL hi
    refine ⟨h', f', N, fun Q => ?_⟩
    rw [← e Q, w_2281_1]
    simp -implicitDefEqProofs (disch := first | omega | (simp (disch := omega) only [nb_upr]; omega)) only [zi_63, zi_0, zi_0n, zi_173, zi_59, zi_101, zi_713, zi_106, zi_707, zi_83, zi_714, zi_822i, zi_822r, zi_822u, zi_822a, zi_40, zi_48, zi_67w1, zi_67w2, q0, q9, kC_eq, toL_s, toL_n, okS0, okS1, okS2, okS3, okS4, okS5, true_and, and_true, hT_wI, hL_wI, hR_wI, hI_wI, hJ_wI, sI_wI, rfP, isIA_100, isIA_120, inb_ok, nI_clamp, nI_add, nI_mul, ↓reduceIte, not_false_eq_true, not_true_eq_false, true_or, or_true, ↓bI_01, ↓b01_0, ↓b01_1, bI_0, z00, z10, n4, n5, n2, n8, Nat.reduceMul, Nat.reduceAdd, Nat.reduceLT, Nat.reduceLeDiff, nI_eq, nI_leI, nI_ltI, Nat.reduceEqDiff, pk_div, nI_sub, Nat.reduceDiv, Nat.reduceSub, g, c28]
  by_cases c29 : f 0 i &&& nI 63 = nI 29
  · obtain ⟨h', f', N, e⟩ := lw_29 I hn4 hL hi
    refine ⟨h', f', N, fun Q => ?_⟩
    rw [← e Q, w_2281_1]
    simp -implicitDefEqProofs (disch := first | omega | (simp (disch := omega) only [nb_upr]; omega)) only [zi_63, zi_0, zi_0n, zi_173, zi_59, zi_101, zi_713, zi_106, zi_707, zi_83, zi_714, zi_822i, zi_822r, zi_822u, zi_822a, zi_40, zi_48, zi_67w1, zi_67w2, q0, q9, kC_eq, toL_s, toL_n, okS0, okS1, okS2, okS3, okS4, okS5, true_and, and_true, hT_wI, hL_wI, hR_wI, hI_wI, hJ_wI, sI_wI, rfP, isIA_100, isIA_120, inb_ok, nI_clamp, nI_add, nI_mul, ↓reduceIte, not_false_eq_true, not_true_eq_false, true_or, or_true, ↓bI_01, ↓b01_0, ↓b01_1, bI_0, z00, z10, n4, n5, n2, n8, Nat.reduceMul, Nat.reduceAdd, Nat.reduceLT, Nat.reduceLeDiff, nI_eq, nI_leI, nI_ltI, Nat.reduceEqDiff, pk_div, nI_sub, Nat.reduceDiv, Nat.reduceSub, g, c29]
  by_cases c30 : f 0 i &&& nI 63 = nI 30
  · obtain ⟨h', f', N, e⟩ := lw_30 I hn4 hL hi
    refine ⟨h', f', N, fun Q => ?_⟩
    rw [← e Q, w_2281_1]
    simp -implicitDefEqProofs (disch := first | omega | (simp (disch := omega) only [nb_upr]; omega)) only [zi_63, zi_0, zi_0n, zi_173, zi_59, zi_101, zi_713, zi_106, zi_707, zi_83, zi_714, zi_822i, zi_822r, zi_822u, zi_822a, zi_40, zi_48, zi_67w1, zi_67w2, q0, q9, kC_eq, toL_s, toL_n, okS0, okS1, okS2, okS3, okS4, okS5, true_and, and_true, hT_wI, hL_wI, hR_wI, hI_wI, hJ_wI, sI_wI, rfP, isIA_100, isIA_120, inb_ok, nI_clamp, nI_add, nI_mul, ↓reduceIte, not_false_eq_true, not_true_eq_false, true_or, or_true, ↓bI_01, ↓b01_0, ↓b01_1, bI_0, z00, z10, n4, n5, n2, n8, Nat.reduceMul, Nat.reduceAdd, Nat.reduceLT, Nat.reduceLeDiff, nI_eq, nI_leI, nI_ltI, Nat.reduceEqDiff, pk_div, nI_sub, Nat.reduceDiv, Nat.reduceSub, g, c30]
  by_cases c31 : f 0 i &&& nI 63 = nI 31
  · obtain ⟨h', f', N, e⟩ := lw_31 I hn4 hL hi
    refine ⟨h', f', N, fun Q => ?_⟩
    rw [← e Q, w_2281_1]
    simp -implicitDefEqProofs (disch := first | omega | (simp (disch := omega) only [nb_upr]; omega)) only [zi_63, zi_0, zi_0n, zi_173, zi_59, zi_101, zi_713, zi_106, zi_707, zi_83, zi_714, zi_822i, zi_822r, zi_822u, zi_822a, zi_40, zi_48, zi_67w1, zi_67w2, q0, q9, kC_eq, toL_s, toL_n, okS0, okS1, okS2, okS3, okS4, okS5, true_and, and_true, hT_wI, hL_wI, hR_wI, hI_wI, hJ_wI, sI_wI, rfP, isIA_100, isIA_120, inb_ok, nI_clamp, nI_add, nI_mul, ↓reduceIte, not_false_eq_true, not_true_eq_false, true_or, or_true, ↓bI_01, ↓b01_0, ↓b01_1, bI_0, z00, z10, n4, n5, n2, n8, Nat.reduceMul, Nat.reduceAdd, Nat.reduceLT, Nat.reduceLeDiff, nI_eq, nI_leI, nI_ltI, Nat.reduceEqDiff, pk_div, nI_sub, Nat.reduceDiv, Nat.reduceSub, g, c31]
  by_cases c32 : f 0 i &&& nI 63 = nI 32
  · obtain ⟨h', f', N, e⟩ := lw_32 I hn4 hL hi
    refine ⟨h', f', N, fun Q => ?_⟩
    rw [← e Q, w_2281_1]
    simp -implicitDefEqProofs (disch := first | omega | (simp (disch := omega) only [nb_upr]; omega)) only [zi_63, zi_0, zi_0n, zi_173, zi_59, zi_101, zi_713, zi_106, zi_707, zi_83, zi_714, zi_822i, zi_822r, zi_822u, zi_822a, zi_40, zi_48, zi_67w1, zi_67w2, q0, q9, kC_eq, toL_s, toL_n, okS0, okS1, okS2, okS3, okS4, okS5, true_and, and_true, hT_wI, hL_wI, hR_wI, hI_wI, hJ_wI, sI_wI, rfP, isIA_100, isIA_120, inb_ok, nI_clamp, nI_add, nI_mul, ↓reduceIte, not_false_eq_true, not_true_eq_false, true_or, or_true, ↓bI_01, ↓b01_0, ↓b01_1, bI_0, z00, z10, n4, n5, n2, n8, Nat.reduceMul, Nat.reduceAdd, Nat.reduceLT, Nat.reduceLeDiff, nI_eq, nI_leI, nI_ltI, Nat.reduceEqDiff, pk_div, nI_sub, Nat.reduceDiv, Nat.reduceSub, g, c32]
  by_cases c33 : f 0 i &&& nI 63 = nI 33
  · obtain ⟨h', f', N, e⟩ := lw_33 I hn4 hL hi
    refine ⟨h', f', N, fun Q => ?_⟩
    rw [← e Q, w_2281_1]
    simp -implicitDefEqProofs (disch := first | omega | (simp (disch := omega) only [nb_upr]; omega)) only [zi_63, zi_0, zi_0n, zi_173, zi_59, zi_101, zi_713, zi_106, zi_707, zi_83, zi_714, zi_822i, zi_822r, zi_822u, zi_822a, zi_40, zi_48, zi_67w1, zi_67w2, q0, q9, kC_eq, toL_s, toL_n, okS0, okS1, okS2, okS3, okS4, okS5, true_and, and_true, hT_wI, hL_wI, hR_wI, hI_wI, hJ_wI, sI_wI, rfP, isIA_100, isIA_120, inb_ok, nI_clamp, nI_add, nI_mul, ↓reduceIte, not_false_eq_true, not_true_eq_false, true_or, or_true, ↓bI_01, ↓b01_0, ↓b01_1, bI_0, z00, z10, n4, n5, n2, n8, Nat.reduceMul, Nat.reduceAdd, Nat.reduceLT, Nat.reduceLeDiff, nI_eq, nI_leI, nI_ltI, Nat.reduceEqDiff, pk_div, nI_sub, Nat.reduceDiv, Nat.reduceSub, g, c33]
  by_cases c34 : f 0 i &&& nI 63 = nI 34
  · obtain ⟨h', f', N, e⟩ := lw_34 I hn4 hL hi
    refine ⟨h', f', N, fun Q => ?_⟩
    rw [← e Q, w_2281_1]
    simp -implicitDefEqProofs (disch := first | omega | (simp (disch := omega) only [nb_upr]; omega)) only [zi_63, zi_0, zi_0n, zi_173, zi_59, zi_101, zi_713, zi_106, zi_707, zi_83, zi_714, zi_822i, zi_822r, zi_822u, zi_822a, zi_40, zi_48, zi_67w1, zi_67w2, q0, q9, kC_eq, toL_s, toL_n, okS0, okS1, okS2, okS3, okS4, okS5, true_and, and_true, hT_wI, hL_wI, hR_wI, hI_wI, hJ_wI, sI_wI, rfP, isIA_100, isIA_120, inb_ok, nI_clamp, nI_add, nI_mul, ↓reduceIte, not_false_eq_true, not_true_eq_false, true_or, or_true, ↓bI_01, ↓b01_0, ↓b01_1, bI_0, z00, z10, n4, n5, n2, n8, Nat.reduceMul, Nat.reduceAdd, Nat.reduceLT, Nat.reduceLeDiff, nI_eq, nI_leI, nI_ltI, Nat.reduceEqDiff, pk_div, nI_sub, Nat.reduceDiv, Nat.reduceSub, g, c34]
  by_cases c35 : f 0 i &&& nI 63 = nI 35
  · obtain ⟨h', f', N, e⟩ := lw_35 I hn4 hL hi
    refine ⟨h', f', N, fun Q => ?_⟩
    rw [← e Q, w_2281_1]
    simp -implicitDefEqProofs (disch := first | omega | (simp (disch := omega) only [nb_upr]; omega)) only [zi_63, zi_0, zi_0n, zi_173, zi_59, zi_101, zi_713, zi_106, zi_707, zi_83, zi_714, zi_822i, zi_822r, zi_822u, zi_822a, zi_40, zi_48, zi_67w1, zi_67w2, q0, q9, kC_eq, toL_s, toL_n, okS0, okS1, okS2, okS3, okS4, okS5, true_and, and_true, hT_wI, hL_wI, hR_wI, hI_wI, hJ_wI, sI_wI, rfP, isIA_100, isIA_120, inb_ok, nI_clamp, nI_add, nI_mul, ↓reduceIte, not_false_eq_true, not_true_eq_false, true_or, or_true, ↓bI_01, ↓b01_0, ↓b01_1, bI_0, z00, z10, n4, n5, n2, n8, Nat.reduceMul, Nat.reduceAdd, Nat.reduceLT, Nat.reduceLeDiff, nI_eq, nI_leI, nI_ltI, Nat.reduceEqDiff, pk_div, nI_sub, Nat.reduceDiv, Nat.reduceSub, g, c35]
  by_cases c36 : f 0 i &&& nI 63 = nI 36
  · obtain ⟨h', f', N, e⟩ := lw_36 I hn4 hL hi
    refine ⟨h', f', N, fun Q => ?_⟩
    rw [← e Q, w_2281_1]
    simp -implicitDefEqProofs (disch := first | omega | (simp (disch := omega) only [nb_upr]; omega)) only [zi_63, zi_0, zi_0n, zi_173, zi_59, zi_101, zi_713, zi_106, zi_707, zi_83, zi_714, zi_822i, zi_822r, zi_822u, zi_822a, zi_40, zi_48, zi_67w1, zi_67w2, q0, q9, kC_eq, toL_s, toL_n, okS0, okS1, okS2, okS3, okS4, okS5, true_and, and_true, hT_wI, hL_wI, hR_wI, hI_wI, hJ_wI, sI_wI, rfP, isIA_100, isIA_120, inb_ok, nI_clamp, nI_add, nI_mul, ↓reduceIte, not_false_eq_true, not_true_eq_false, true_or, or_true, ↓bI_01, ↓b01_0, ↓b01_1, bI_0, z00, z10, n4, n5, n2, n8, Nat.reduceMul, Nat.reduceAdd, Nat.reduceLT, Nat.reduceLeDiff, nI_eq, nI_leI, nI_ltI, Nat.reduceEqDiff, pk_div, nI_sub, Nat.reduceDiv, Nat.reduceSub, g, c36]
  by_cases c37 : f 0 i &&& nI 63 = nI 37
  · obtain ⟨h', f', N, e⟩ := lw_37 I hn4 hL hi
    refine ⟨h', f', N, fun Q => ?_⟩
    rw [← e Q, w_2281_1]
    simp -implicitDefEqProofs (disch := first | omega | (simp (disch := omega) only [nb_upr]; omega)) only [zi_63, zi_0, zi_0n, zi_173, zi_59, zi_101, zi_713, zi_106, zi_707, zi_83, zi_714, zi_822i, zi_822r, zi_822u, zi_822a, zi_40, zi_48, zi_67w1, zi_67w2, q0, q9, kC_eq, toL_s, toL_n, okS0, okS1, okS2, okS3, okS4, okS5, true_and, and_true, hT_wI, hL_wI, hR_wI, hI_wI, hJ_wI, sI_wI, rfP, isIA_100, isIA_120, inb_ok, nI_clamp, nI_add, nI_mul, ↓reduceIte, not_false_eq_true, not_true_eq_false, true_or, or_true, ↓bI_01, ↓b01_0, ↓b01_1, bI_0, z00, z10, n4, n5, n2, n8, Nat.reduceMul, Nat.reduceAdd, Nat.reduceLT, Nat.reduceLeDiff, nI_eq, nI_leI, nI_ltI, Nat.reduceEqDiff, pk_div, nI_sub, Nat.reduceDiv, Nat.reduceSub, g, c37]
  by_cases c38 : f 0 i &&& nI 63 = nI 38
  · obtain ⟨h', f', N, e⟩ := lw_38 I hn4 hL hi
    refine ⟨h', f', N, fun Q => ?_⟩
    rw [← e Q, w_2281_1]
    simp -implicitDefEqProofs (disch := first | omega | (simp (disch := omega) only [nb_upr]; omega)) only [zi_63, zi_0, zi_0n, zi_173, zi_59, zi_101, zi_713, zi_106, zi_707, zi_83, zi_714, zi_822i, zi_822r, zi_822u, zi_822a, zi_40, zi_48, zi_67w1, zi_67w2, q0, q9, kC_eq, toL_s, toL_n, okS0, okS1, okS2, okS3, okS4, okS5, true_and, and_true, hT_wI, hL_wI, hR_wI, hI_wI, hJ_wI, sI_wI, rfP, isIA_100, isIA_120, inb_ok, nI_clamp, nI_add, nI_mul, ↓reduceIte, not_false_eq_true, not_true_eq_false, true_or, or_true, ↓bI_01, ↓b01_0, ↓b01_1, bI_0, z00, z10, n4, n5, n2, n8, Nat.reduceMul, Nat.reduceAdd, Nat.reduceLT, Nat.reduceLeDiff, nI_eq, nI_leI, nI_ltI, Nat.reduceEqDiff, pk_div, nI_sub, Nat.reduceDiv, Nat.reduceSub, g, c38]
  by_cases c39 : f 0 i &&& nI 63 = nI 39
  · obtain ⟨h', f', N, e⟩ := lw_39 I hn4 hL hi
    refine ⟨h', f', N, fun Q => ?_⟩
    rw [← e Q, w_2281_1]
    simp -implicitDefEqProofs (disch := first | omega | (simp (disch := omega) only [nb_upr]; omega)) only [zi_63, zi_0, zi_0n, zi_173, zi_59, zi_101, zi_713, zi_106, zi_707, zi_83, zi_714, zi_822i, zi_822r, zi_822u, zi_822a, zi_40, zi_48, zi_67w1, zi_67w2, q0, q9, kC_eq, toL_s, toL_n, okS0, okS1, okS2, okS3, okS4, okS5, true_and, and_true, hT_wI, hL_wI, hR_wI, hI_wI, hJ_wI, sI_wI, rfP, isIA_100, isIA_120, inb_ok, nI_clamp, nI_add, nI_mul, ↓reduceIte, not_false_eq_true, not_true_eq_false, true_or, or_true, ↓bI_01, ↓b01_0, ↓b01_1, bI_0, z00, z10, n4, n5, n2, n8, Nat.reduceMul, Nat.reduceAdd, Nat.reduceLT, Nat.reduceLeDiff, nI_eq, nI_leI, nI_ltI, Nat.reduceEqDiff, pk_div, nI_sub, Nat.reduceDiv, Nat.reduceSub, g, c39]
  by_cases c40 : f 0 i &&& nI 63 = nI 40
  · obtain ⟨h', f', N, e⟩ := lw_40 I hn4 hL hi
    refine ⟨h', f', N, fun Q => ?_⟩
    rw [← e Q, w_2281_1]
    simp -implicitDefEqProofs (disch := first | omega | (simp (disch := omega) only [nb_upr]; omega)) only [zi_63, zi_0, zi_0n, zi_173, zi_59, zi_101, zi_713, zi_106, zi_707, zi_83, zi_714, zi_822i, zi_822r, zi_822u, zi_822a, zi_40, zi_48, zi_67w1, zi_67w2, q0, q9, kC_eq, toL_s, toL_n, okS0, okS1, okS2, okS3, okS4, okS5, true_and, and_true, hT_wI, hL_wI, hR_wI, hI_wI, hJ_wI, sI_wI, rfP, isIA_100, isIA_120, inb_ok, nI_clamp, nI_add, nI_mul, ↓reduceIte, not_false_eq_true, not_true_eq_false, true_or, or_true, ↓bI_01, ↓b01_0, ↓b01_1, bI_0, z00, z10, n4, n5, n2, n8, Nat.reduceMul, Nat.reduceAdd, Nat.reduceLT, Nat.reduceLeDiff, nI_eq, nI_leI, nI_ltI, Nat.reduceEqDiff, pk_div, nI_sub, Nat.reduceDiv, Nat.reduceSub, g, c40]
  by_cases c41 : f 0 i &&& nI 63 = nI 41
  · obtain ⟨h', f', N, e⟩ := lw_41 I hn4 hL hi
    refine ⟨h', f', N, fun Q => ?_⟩
    rw [← e Q, w_2281_1]
    simp -implicitDefEqProofs (disch := first | omega | (simp (disch := omega) only [nb_upr]; omega)) only [zi_63, zi_0, zi_0n, zi_173, zi_59, zi_101, zi_713, zi_106, zi_707, zi_83, zi_714, zi_822i, zi_822r, zi_822u, zi_822a, zi_40, zi_48, zi_67w1, zi_67w2, q0, q9, kC_eq, toL_s, toL_n, okS0, okS1, okS2, okS3, okS4, okS5, true_and, and_true, hT_wI, hL_wI, hR_wI, hI_wI, hJ_wI, sI_wI, rfP, isIA_100, isIA_120, inb_ok, nI_clamp, nI_add, nI_mul, ↓reduceIte, not_false_eq_true, not_true_eq_false, true_or, or_true, ↓bI_01, ↓b01_0, ↓b01_1, bI_0, z00, z10, n4, n5, n2, n8, Nat.reduceMul, Nat.reduceAdd, Nat.reduceLT, Nat.reduceLeDiff, nI_eq, nI_leI, nI_ltI, Nat.reduceEqDiff, pk_div, nI_sub, Nat.reduceDiv, Nat.reduceSub, g, c41]
  by_cases c42 : f 0 i &&& nI 63 = nI 42
  · obtain ⟨h', f', N, e⟩ := lw_42 I hn4 hL hi
    refine ⟨h', f', N, fun Q => ?_⟩
    rw [← e Q, w_2281_1]
    simp -implicitDefEqProofs (disch := first | omega | (simp (disch := omega) only [nb_upr]; omega)) only [zi_63, zi_0, zi_0n, zi_173, zi_59, zi_101, zi_713, zi_106, zi_707, zi_83, zi_714, zi_822i, zi_822r, zi_822u, zi_822a, zi_40, zi_48, zi_67w1, zi_67w2, q0, q9, kC_eq, toL_s, toL_n, okS0, okS1, okS2, okS3, okS4, okS5, true_and, and_true, hT_wI, hL_wI, hR_wI, hI_wI, hJ_wI, sI_wI, rfP, isIA_100, isIA_120, inb_ok, nI_clamp, nI_add, nI_mul, ↓reduceIte, not_false_eq_true, not_true_eq_false, true_or, or_true, ↓bI_01, ↓b01_0, ↓b01_1, bI_0, z00, z10, n4, n5, n2, n8, Nat.reduceMul, Nat.reduceAdd, Nat.reduceLT, Nat.reduceLeDiff, nI_eq, nI_leI, nI_ltI, Nat.reduceEqDiff, pk_div, nI_sub, Nat.reduceDiv, Nat.reduceSub, g, c42]
  by_cases c43 : f 0 i &&& nI 63 = nI 43
  · obtain ⟨h', f', N, e⟩ := lw_43 I hn4 hL hi
    refine ⟨h', f', N, fun Q => ?_⟩
    rw [← e Q, w_2281_1]
    simp -implicitDefEqProofs (disch := first | omega | (simp (disch := omega) only [nb_upr]; omega)) only [zi_63, zi_0, zi_0n, zi_173, zi_59, zi_101, zi_713, zi_106, zi_707, zi_83, zi_714, zi_822i, zi_822r, zi_822u, zi_822a, zi_40, zi_48, zi_67w1, zi_67w2, q0, q9, kC_eq, toL_s, toL_n, okS0, okS1, okS2, okS3, okS4, okS5, true_and, and_true, hT_wI, hL_wI, hR_wI, hI_wI, hJ_wI, sI_wI, rfP, isIA_100, isIA_120, inb_ok, nI_clamp, nI_add, nI_mul, ↓reduceIte, not_false_eq_true, not_true_eq_false, true_or, or_true, ↓bI_01, ↓b01_0, ↓b01_1, bI_0, z00, z10, n4, n5, n2, n8, Nat.reduceMul, Nat.reduceAdd, Nat.reduceLT, Nat.reduceLeDiff, nI_eq, nI_leI, nI_ltI, Nat.reduceEqDiff, pk_div, nI_sub, Nat.reduceDiv, Nat.reduceSub, g, c43]
  by_cases c44 : f 0 i &&& nI 63 = nI 44
  · obtain ⟨h', f', N, e⟩ := lw_44 I hn4 hL hi
    refine ⟨h', f', N, fun Q => ?_⟩
    rw [← e Q, w_2281_1]
    simp -implicitDefEqProofs (disch := first | omega | (simp (disch := omega) only [nb_upr]; omega)) only [zi_63, zi_0, zi_0n, zi_173, zi_59, zi_101, zi_713, zi_106, zi_707, zi_83, zi_714, zi_822i, zi_822r, zi_822u, zi_822a, zi_40, zi_48, zi_67w1, zi_67w2, q0, q9, kC_eq, toL_s, toL_n, okS0, okS1, okS2, okS3, okS4, okS5, true_and, and_true, hT_wI, hL_wI, hR_wI, hI_wI, hJ_wI, sI_wI, rfP, isIA_100, isIA_120, inb_ok, nI_clamp, nI_add, nI_mul, ↓reduceIte, not_false_eq_true, not_true_eq_false, true_or, or_true, ↓bI_01, ↓b01_0, ↓b01_1, bI_0, z00, z10, n4, n5, n2, n8, Nat.reduceMul, Nat.reduceAdd, Nat.reduceLT, Nat.reduceLeDiff, nI_eq, nI_leI, nI_ltI, Nat.reduceEqDiff, pk_div, nI_sub, Nat.reduceDiv, Nat.reduceSub, g, c44]
  by_cases c45 : f 0 i &&& nI 63 = nI 45
  · obtain ⟨h', f', N, e⟩ := lw_45 I hn4 hL hi
    refine ⟨h', f', N, fun Q => ?_⟩
    rw [← e Q, w_2281_1]
    simp -implicitDefEqProofs (disch := first | omega | (simp (disch := omega) only [nb_upr]; omega)) only [zi_63, zi_0, zi_0n, zi_173, zi_59, zi_101, zi_713, zi_106, zi_707, zi_83, zi_714, zi_822i, zi_822r, zi_822u, zi_822a, zi_40, zi_48, zi_67w1, zi_67w2, q0, q9, kC_eq, toL_s, toL_n, okS0, okS1, okS2, okS3, okS4, okS5, true_and, and_true, hT_wI, hL_wI, hR_wI, hI_wI, hJ_wI, sI_wI, rfP, isIA_100, isIA_120, inb_ok, nI_clamp, nI_add, nI_mul, ↓reduceIte, not_false_eq_true, not_true_eq_false, true_or, or_true, ↓bI_01, ↓b01_0, ↓b01_1, bI_0, z00, z10, n4, n5, n2, n8, Nat.reduceMul, Nat.reduceAdd, Nat.reduceLT, Nat.reduceLeDiff, nI_eq, nI_leI, nI_ltI, Nat.reduceEqDiff, pk_div, nI_sub, Nat.reduceDiv, Nat.reduceSub, g, c45]
  by_cases c46 : f 0 i &&& nI 63 = nI 46
  · obtain ⟨h', f', N, e⟩ := lw_46 I hn4 hL hi
    refine ⟨h', f', N, fun Q => ?_⟩
    rw [← e Q, w_2281_1]
    simp -implicitDefEqProofs (disch := first | omega | (simp (disch := omega) only [nb_upr]; omega)) only [zi_63, zi_0, zi_0n, zi_173, zi_59, zi_101, zi_713, zi_106, zi_707, zi_83, zi_714, zi_822i, zi_822r, zi_822u, zi_822a, zi_40, zi_48, zi_67w1, zi_67w2, q0, q9, kC_eq, toL_s, toL_n, okS0, okS1, okS2, okS3, okS4, okS5, true_and, and_true, hT_wI, hL_wI, hR_wI, hI_wI, hJ_wI, sI_wI, rfP, isIA_100, isIA_120, inb_ok, nI_clamp, nI_add, nI_mul, ↓reduceIte, not_false_eq_true, not_true_eq_false, true_or, or_true, ↓bI_01, ↓b01_0, ↓b01_1, bI_0, z00, z10, n4, n5, n2, n8, Nat.reduceMul, Nat.reduceAdd, Nat.reduceLT, Nat.reduceLeDiff, nI_eq, nI_leI, nI_ltI, Nat.reduceEqDiff, pk_div, nI_sub, Nat.reduceDiv, Nat.reduceSub, g, c46]
  by_cases c47 : f 0 i &&& nI 63 = nI 47
  · obtain ⟨h', f', N, e⟩ := lw_47 I hn4 hL hi
    refine ⟨h', f', N, fun Q => ?_⟩
    rw [← e Q, w_2281_1]
    simp -implicitDefEqProofs (disch := first | omega | (simp (disch := omega) only [nb_upr]; omega)) only [zi_63, zi_0, zi_0n, zi_173, zi_59, zi_101, zi_713, zi_106, zi_707, zi_83, zi_714, zi_822i, zi_822r, zi_822u, zi_822a, zi_40, zi_48, zi_67w1, zi_67w2, q0, q9, kC_eq, toL_s, toL_n, okS0, okS1, okS2, okS3, okS4, okS5, true_and, and_true, hT_wI, hL_wI, hR_wI, hI_wI, hJ_wI, sI_wI, rfP, isIA_100, isIA_120, inb_ok, nI_clamp, nI_add, nI_mul, ↓reduceIte, not_false_eq_true, not_true_eq_false, true_or, or_true, ↓bI_01, ↓b01_0, ↓b01_1, bI_0, z00, z10, n4, n5, n2, n8, Nat.reduceMul, Nat.reduceAdd, Nat.reduceLT, Nat.reduceLeDiff, nI_eq, nI_leI, nI_ltI, Nat.reduceEqDiff, pk_div, nI_sub, Nat.reduceDiv, Nat.reduceSub, g, c47]
  by_cases c48 : f 0 i &&& nI 63 = nI 48
  · obtain ⟨h', f', N, e⟩ := lw_48 I hn4 hL hi
    refine ⟨h', f', N, fun Q => ?_⟩
    rw [← e Q, w_2281_1]
    simp -implicitDefEqProofs (disch := first | omega | (simp (disch := omega) only [nb_upr]; omega)) only [zi_63, zi_0, zi_0n, zi_173, zi_59, zi_101, zi_713, zi_106, zi_707, zi_83, zi_714, zi_822i, zi_822r, zi_822u, zi_822a, zi_40, zi_48, zi_67w1, zi_67w2, q0, q9, kC_eq, toL_s, toL_n, okS0, okS1, okS2, okS3, okS4, okS5, true_and, and_true, hT_wI, hL_wI, hR_wI, hI_wI, hJ_wI, sI_wI, rfP, isIA_100, isIA_120, inb_ok, nI_clamp, nI_add, nI_mul, ↓reduceIte, not_false_eq_true, not_true_eq_false, true_or, or_true, ↓bI_01, ↓b01_0, ↓b01_1, bI_0, z00, z10, n4, n5, n2, n8, Nat.reduceMul, Nat.reduceAdd, Nat.reduceLT, Nat.reduceLeDiff, nI_eq, nI_leI, nI_ltI, Nat.reduceEqDiff, pk_div, nI_sub, Nat.reduceDiv, Nat.reduceSub, g, c48]
  by_cases c49 : f 0 i &&& nI 63 = nI 49
  · obtain ⟨h', f', N, e⟩ := lw_49 I hn4 hL hi
    refine ⟨h', f', N, fun Q => ?_⟩
    rw [← e Q, w_2281_1]
    simp -implicitDefEqProofs (disch := first | omega | (simp (disch := omega) only [nb_upr]; omega)) only [zi_63, zi_0, zi_0n, zi_173, zi_59, zi_101, zi_713, zi_106, zi_707, zi_83, zi_714, zi_822i, zi_822r, zi_822u, zi_822a, zi_40, zi_48, zi_67w1, zi_67w2, q0, q9, kC_eq, toL_s, toL_n, okS0, okS1, okS2, okS3, okS4, okS5, true_and, and_true, hT_wI, hL_wI, hR_wI, hI_wI, hJ_wI, sI_wI, rfP, isIA_100, isIA_120, inb_ok, nI_clamp, nI_add, nI_mul, ↓reduceIte, not_false_eq_true, not_true_eq_false, true_or, or_true, ↓bI_01, ↓b01_0, ↓b01_1, bI_0, z00, z10, n4, n5, n2, n8, Nat.reduceMul, Nat.reduceAdd, Nat.reduceLT, Nat.reduceLeDiff, nI_eq, nI_leI, nI_ltI, Nat.reduceEqDiff, pk_div, nI_sub, Nat.reduceDiv, Nat.reduceSub, g, c49]
  by_cases c50 : f 0 i &&& nI 63 = nI 50
  · obtain ⟨h', f', N, e⟩ := lw_50 I hn4 hL hi
    refine ⟨h', f', N, fun Q => ?_⟩
    rw [← e Q, w_2281_1]
    simp -implicitDefEqProofs (disch := first | omega | (simp (disch := omega) only [nb_upr]; omega)) only [zi_63, zi_0, zi_0n, zi_173, zi_59, zi_101, zi_713, zi_106, zi_707, zi_83, zi_714, zi_822i, zi_822r, zi_822u, zi_822a, zi_40, zi_48, zi_67w1, zi_67w2, q0, q9, kC_eq, toL_s, toL_n, okS0, okS1, okS2, okS3, okS4, okS5, true_and, and_true, hT_wI, hL_wI, hR_wI, hI_wI, hJ_wI, sI_wI, rfP, isIA_100, isIA_120, inb_ok, nI_clamp, nI_add, nI_mul, ↓reduceIte, not_false_eq_true, not_true_eq_false, true_or, or_true, ↓bI_01, ↓b01_0, ↓b01_1, bI_0, z00, z10, n4, n5, n2, n8, Nat.reduceMul, Nat.reduceAdd, Nat.reduceLT, Nat.reduceLeDiff, nI_eq, nI_leI, nI_ltI, Nat.reduceEqDiff, pk_div, nI_sub, Nat.reduceDiv, Nat.reduceSub, g, c50]
  refine ⟨h, f, ⟨⟨I.1.mono (by omega), I.2⟩, by omega, by omega⟩, fun Q => ?_⟩
  rw [w_2281_1]
  simp -implicitDefEqProofs (disch := first | omega | (simp (disch := omega) only [nb_upr]; omega)) only [w_2281_53, zi_63, zi_0, zi_0n, zi_173, zi_59, zi_101, zi_713, zi_106, zi_707, zi_83, zi_714, zi_822i, zi_822r, zi_822u, zi_822a, zi_40, zi_48, zi_67w1, zi_67w2, q0, q9, kC_eq, toL_s, toL_n, okS0, okS1, okS2, okS3, okS4, okS5, true_and, and_true, hT_wI, hL_wI, hR_wI, hI_wI, hJ_wI, sI_wI, rfP, isIA_100, isIA_120, inb_ok, nI_clamp, nI_add, nI_mul, ↓reduceIte, not_false_eq_true, not_true_eq_false, true_or, or_true, ↓bI_01, ↓b01_0, ↓b01_1, bI_0, z00, z10, n4, n5, n2, n8, Nat.reduceMul, Nat.reduceAdd, Nat.reduceLT, Nat.reduceLeDiff, nI_eq, nI_leI, nI_ltI, Nat.reduceEqDiff, pk_div, nI_sub, Nat.reduceDiv, Nat.reduceSub, g, c0, c1, c2, c3, c4, c5, c6, c7, c8, c9, c10, c11, c12, c13, c14, c15, c16, c17, c18, c19, c20, c21, c22, c23, c24, c25, c26, c27, c28, c29, c30, c31, c32, c33, c34, c35, c36, c37, c38, c39, c40, c41, c42, c43, c44, c45, c46, c47, c48, c49, c50]
theorem law_end {i : Nat} {h : PH} {f : Nat → Nat → Int32} (q0 : hT h 0 = 120) (q9 : hL h 0 = L) (hL : L ≤ 2560) (h3 : i ≤ 3000) (hi : ¬ i + 5 ≤ L) (Q : Option Value → PH → Prop) : WP 31 2281 1 [.ref 0, .ref 100, .ref 233, .int (nI i)] [] (wI h f) Q = Q (some (.int (nI 1))) (wI h f) := by
  have g : nI L - nI 5 < nI i := by
    by_cases h5 : 5 ≤ L
    · rw [nI_sub h5]
      exact (nI_ltI (by omega) (by omega)).mpr (by omega)
    · have hh : ∀ L, L < 5 → nI L - nI 5 < 0 := by decide
      exact Int32.lt_of_lt_of_le (hh L (by omega)) (nI_pos' (by omega))
  rw [w_2281_1]
  simp -implicitDefEqProofs (disch := first | omega | (simp (disch := omega) only [nb_upr]; omega)) only [w_2281_54, zi_63, zi_0, zi_0n, zi_173, zi_59, zi_101, zi_713, zi_106, zi_707, zi_83, zi_714, zi_822i, zi_822r, zi_822u, zi_822a, zi_40, zi_48, zi_67w1, zi_67w2, q0, q9, kC_eq, toL_s, toL_n, okS0, okS1, okS2, okS3, okS4, okS5, true_and, and_true, hT_wI, hL_wI, hR_wI, hI_wI, hJ_wI, sI_wI, rfP, isIA_100, isIA_120, inb_ok, nI_clamp, nI_add, nI_mul, ↓reduceIte, not_false_eq_true, not_true_eq_false, true_or, or_true, ↓bI_01, ↓b01_0, ↓b01_1, bI_0, z00, z10, n4, n5, n2, n8, Nat.reduceMul, Nat.reduceAdd, Nat.reduceLT, Nat.reduceLeDiff, g]
theorem law_all (hL : L ≤ 2560) : ∀ (j n i : Nat) (h : PH) (f : Nat → Nat → Int32), LI n L h f → n + 6 * j ≤ 4000 → i ≤ 2565 → L < i + 5 * j + 5 →
    ∃ h' f', hN h' ≤ hN h + 2 * j ∧ hU h' ≤ hU h + 60 * j ∧ ∀ Q, WP 31 2281 1 [.ref 0, .ref 100, .ref 233, .int (nI i)] [] (wI h f) Q = Q (some (.int (nI 1))) (wI h' f') := by
  intro j
  induction j with
  | zero =>
    intro n i h f I hn hi hj
    exact ⟨h, f, by omega, by omega, fun Q => law_end I.2.2.1 I.2.2.2 hL (by omega) (by omega) Q⟩
  | succ j ih =>
    intro n i h f I hn hi hj
    by_cases z : i + 5 ≤ L
    · obtain ⟨h1, f1, ⟨I1, n1, u1⟩, e1⟩ := law_any I (by omega) hL z
      obtain ⟨h2, f2, n2, u2, e2⟩ := ih (n + 6) (i + 5) h1 f1 I1 (by omega) (by omega) (by omega)
      exact ⟨h2, f2, by omega, by omega, fun Q => by rw [e1, e2]⟩
    · exact ⟨h, f, by omega, by omega, fun Q => law_end I.2.2.1 I.2.2.2 hL (by omega) z Q⟩
end
