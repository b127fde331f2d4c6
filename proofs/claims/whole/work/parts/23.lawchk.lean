section
theorem lk_28 : ([28, 29] : List Nat).all (okMF 2281) = true := by decide +kernel
theorem lk_30 : ([30, 31] : List Nat).all (okMF 2281) = true := by decide +kernel
theorem lk_32 : ([32, 33] : List Nat).all (okMF 2281) = true := by decide +kernel
theorem lk_34 : ([34, 35] : List Nat).all (okMF 2281) = true := by decide +kernel
theorem lk_36 : ([36, 37] : List Nat).all (okMF 2281) = true := by decide +kernel
theorem lk_38 : ([38, 39] : List Nat).all (okMF 2281) = true := by decide +kernel
theorem lk_40 : ([40, 41] : List Nat).all (okMF 2281) = true := by decide +kernel
theorem lk_42 : ([42, 43] : List Nat).all (okMF 2281) = true := by decide +kernel
theorem lk_44 : ([44, 45] : List Nat).all (okMF 2281) = true := by decide +kernel
theorem lk_46 : ([46, 47] : List Nat).all (okMF 2281) = true := by decide +kernel
theorem lk_48 : ([48, 49] : List Nat).all (okMF 2281) = true := by decide +kernel
theorem lk_50 : ([50, 51] : List Nat).all (okMF 2281) = true := by decide +kernel
theorem lk_52 : ([52, 53] : List Nat).all (okMF 2281) = true := by decide +kernel
theorem lk_54 : ([54] : List Nat).all (okMF 2281) = true := by decide +kernel
theorem law_fs : okFs (2281, 55) = true := by
  unfold okFs
  simp only [Bool.and_eq_true, List.all_eq_true]
  refine ⟨⟨⟨by decide +kernel, by decide +kernel⟩, by decide +kernel⟩, fun b hb => ?_⟩
  have hb : b < 55 := List.mem_range.mp hb
  by_cases z0 : b < 2
  · exact List.all_eq_true.mp lk_0 b (by simp only [List.mem_cons, List.not_mem_nil]; omega)
  by_cases z2 : b < 4
  · exact List.all_eq_true.mp lk_2 b (by simp only [List.mem_cons, List.not_mem_nil]; omega)
  by_cases z4 : b < 6
  · exact List.all_eq_true.mp lk_4 b (by simp only [List.mem_cons, List.not_mem_nil]; omega)
  by_cases z6 : b < 8
  · exact List.all_eq_true.mp lk_6 b (by simp only [List.mem_cons, List.not_mem_nil]; omega)
  by_cases z8 : b < 10
  · exact List.all_eq_true.mp lk_8 b (by simp only [List.mem_cons, List.not_mem_nil]; omega)
  by_cases z10 : b < 12
  · exact List.all_eq_true.mp lk_10 b (by simp only [List.mem_cons, List.not_mem_nil]; omega)
  by_cases z12 : b < 14
  · exact List.all_eq_true.mp lk_12 b (by simp only [List.mem_cons, List.not_mem_nil]; omega)
  by_cases z14 : b < 16
  · exact List.all_eq_true.mp lk_14 b (by simp only [List.mem_cons, List.not_mem_nil]; omega)
  by_cases z16 : b < 18
  · exact List.all_eq_true.mp lk_16 b (by simp only [List.mem_cons, List.not_mem_nil]; omega)
  by_cases z18 : b < 20
  · exact List.all_eq_true.mp lk_18 b (by simp only [List.mem_cons, List.not_mem_nil]; omega)
  by_cases z20 : b < 22
  · exact List.all_eq_true.mp lk_20 b (by simp only [List.mem_cons, List.not_mem_nil]; omega)
  by_cases z22 : b < 24
  · exact List.all_eq_true.mp lk_22 b (by simp only [List.mem_cons, List.not_mem_nil]; omega)
  by_cases z24 : b < 26
  · exact List.all_eq_true.mp lk_24 b (by simp only [List.mem_cons, List.not_mem_nil]; omega)
  by_cases z26 : b < 28
  · exact List.all_eq_true.mp lk_26 b (by simp only [List.mem_cons, List.not_mem_nil]; omega)
  by_cases z28 : b < 30
  · exact List.all_eq_true.mp lk_28 b (by simp only [List.mem_cons, List.not_mem_nil]; omega)
  by_cases z30 : b < 32
  · exact List.all_eq_true.mp lk_30 b (by simp only [List.mem_cons, List.not_mem_nil]; omega)
  by_cases z32 : b < 34
  · exact List.all_eq_true.mp lk_32 b (by simp only [List.mem_cons, List.not_mem_nil]; omega)
  by_cases z34 : b < 36
  · exact List.all_eq_true.mp lk_34 b (by simp only [List.mem_cons, List.not_mem_nil]; omega)
  by_cases z36 : b < 38
  · exact List.all_eq_true.mp lk_36 b (by simp only [List.mem_cons, List.not_mem_nil]; omega)
  by_cases z38 : b < 40
  · exact List.all_eq_true.mp lk_38 b (by simp only [List.mem_cons, List.not_mem_nil]; omega)
  by_cases z40 : b < 42
  · exact List.all_eq_true.mp lk_40 b (by simp only [List.mem_cons, List.not_mem_nil]; omega)
  by_cases z42 : b < 44
  · exact List.all_eq_true.mp lk_42 b (by simp only [List.mem_cons, List.not_mem_nil]; omega)
  by_cases z44 : b < 46
  · exact List.all_eq_true.mp lk_44 b (by simp only [List.mem_cons, List.not_mem_nil]; omega)
  by_cases z46 : b < 48
  · exact List.all_eq_true.mp lk_46 b (by simp only [List.mem_cons, List.not_mem_nil]; omega)
  by_cases z48 : b < 50
  · exact List.all_eq_true.mp lk_48 b (by simp only [List.mem_cons, List.not_mem_nil]; omega)
  by_cases z50 : b < 52
  · exact List.all_eq_true.mp lk_50 b (by simp only [List.mem_cons, List.not_mem_nil]; omega)
  by_cases z52 : b < 54
  · exact List.all_eq_true.mp lk_52 b (by simp only [List.mem_cons, List.not_mem_nil]; omega)
  by_cases z54 : b < 55
  · exact List.all_eq_true.mp lk_54 b (by simp only [List.mem_cons, List.not_mem_nil]; omega)
  omega
theorem okAll : ∀ q ∈ pids, okMs q = true := by
  have e : pids = (pids.drop 0).take 20 ++ ((pids.drop 20).take 20 ++ ((pids.drop 40).take 20 ++ ((pids.drop 60).take 20 ++ ((pids.drop 80).take 20 ++ ((pids.drop 100).take 20 ++ ((pids.drop 120).take 20 ++ ((pids.drop 140).take 20 ++ ((pids.drop 160).take 20 ++ ((pids.drop 180).take 20 ++ ((pids.drop 200).take 20 ++ ((pids.drop 220).take 20 ++ ((pids.drop 240).take 20 ++ ((pids.drop 260).take 20 ++ ((pids.drop 280).take 4 ++ [(2281, 55)])))))))))))))) := by decide +kernel
  intro q hq
  rw [e] at hq
  simp only [List.mem_append, List.mem_singleton] at hq
  rcases hq with h | h | h | h | h | h | h | h | h | h | h | h | h | h | h | h
  · exact okFs_ok (List.all_eq_true.mp ck_0 q h)
  · exact okFs_ok (List.all_eq_true.mp ck_1 q h)
  · exact okFs_ok (List.all_eq_true.mp ck_2 q h)
  · exact okFs_ok (List.all_eq_true.mp ck_3 q h)
  · exact okFs_ok (List.all_eq_true.mp ck_4 q h)
  · exact okFs_ok (List.all_eq_true.mp ck_5 q h)
  · exact okFs_ok (List.all_eq_true.mp ck_6 q h)
  · exact okFs_ok (List.all_eq_true.mp ck_7 q h)
  · exact okFs_ok (List.all_eq_true.mp ck_8 q h)
  · exact okFs_ok (List.all_eq_true.mp ck_9 q h)
  · exact okFs_ok (List.all_eq_true.mp ck_10 q h)
  · exact okFs_ok (List.all_eq_true.mp ck_11 q h)
  · exact okFs_ok (List.all_eq_true.mp ck_12 q h)
  · exact okFs_ok (List.all_eq_true.mp ck_13 q h)
  · exact okFs_ok (List.all_eq_true.mp ck_14 q h)
  · subst h
    exact okFs_ok law_fs
end
