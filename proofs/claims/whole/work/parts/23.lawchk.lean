section
theorem lk_24 : ([24, 25, 26, 27, 28, 29, 30, 31, 32, 33, 34, 35] : List Nat).all (okMF 2281) = true := by decide +kernel
theorem lk_36 : ([36, 37, 38, 39, 40, 41, 42, 43, 44, 45, 46, 47] : List Nat).all (okMF 2281) = true := by decide +kernel
theorem lk_48 : ([48, 49, 50, 51, 52, 53, 54] : List Nat).all (okMF 2281) = true := by decide +kernel
theorem law_fs : okFs (2281, 55) = true := by
  unfold okFs
  simp only [Bool.and_eq_true, List.all_eq_true]
  refine ⟨⟨⟨by decide +kernel, by decide +kernel⟩, by decide +kernel⟩, fun b hb => ?_⟩
  have hb : b < 55 := List.mem_range.mp hb
  by_cases z0 : b < 12
  · exact List.all_eq_true.mp lk_0 b (by simp only [List.mem_cons, List.not_mem_nil]; omega)
  by_cases z12 : b < 24
  · exact List.all_eq_true.mp lk_12 b (by simp only [List.mem_cons, List.not_mem_nil]; omega)
  by_cases z24 : b < 36
  · exact List.all_eq_true.mp lk_24 b (by simp only [List.mem_cons, List.not_mem_nil]; omega)
  by_cases z36 : b < 48
  · exact List.all_eq_true.mp lk_36 b (by simp only [List.mem_cons, List.not_mem_nil]; omega)
  by_cases z48 : b < 55
  · exact List.all_eq_true.mp lk_48 b (by simp only [List.mem_cons, List.not_mem_nil]; omega)
  omega
theorem okAll : ∀ q ∈ pids, okMs q = true := by
  have e : pids = (pids.drop 0).take 20 ++ ((pids.drop 20).take 20 ++ ((pids.drop 40).take 20 ++ ((pids.drop 60).take 20 ++ ((pids.drop 80).take 20 ++ ((pids.drop 100).take 20 ++ ((pids.drop 120).take 20 ++ ((pids.drop 140).take 20 ++ ((pids.drop 160).take 20 ++ ((pids.drop 180).take 20 ++ ((pids.drop 200).take 20 ++ ((pids.drop 220).take 20 ++ ((pids.drop 240).take 20 ++ ((pids.drop 260).take 20 ++ ((pids.drop 280).take 5 ++ [(2281, 55)])))))))))))))) := by decide +kernel
  intro q hq
  rw [e] at hq
  simp only [List.mem_append, List.mem_singleton] at hq
  rcases hq with h | h | h | h | h | h | h | h | h | h | h | h | h | h | h | h
  · exact okFs_ok (List.all_eq_true.mp ck_0 q h)
  · exact okFs_ok (List.all_eq_true.mp ck_1 q h)
  · exact okFs_ok (List.all_eq_true.mp ck_2 q h)
  · exact okFs_ok (List.all_eq_true.mp ck_3 q h)
  · exact okFs_ok (List.all_eq_true.mp ck_4 q h)
  · exact okFs_ok (List.all_eq_true.mp ck_5 q h)
  · exact okFs_ok (List.all_eq_true.mp ck_6 q h)
  · exact okFs_ok (List.all_eq_true.mp ck_7 q h)
  · exact okFs_ok (List.all_eq_true.mp ck_8 q h)
  · exact okFs_ok (List.all_eq_true.mp ck_9 q h)
  · exact okFs_ok (List.all_eq_true.mp ck_10 q h)
  · exact okFs_ok (List.all_eq_true.mp ck_11 q h)
  · exact okFs_ok (List.all_eq_true.mp ck_12 q h)
  · exact okFs_ok (List.all_eq_true.mp ck_13 q h)
  · exact okFs_ok (List.all_eq_true.mp ck_14 q h)
  · subst h
    exact okFs_ok law_fs
end
