section
theorem ck_0 : ((pids.drop 0).take 20).all okFs = true := by decide +kernel
theorem ck_1 : ((pids.drop 20).take 20).all okFs = true := by decide +kernel
theorem ck_2 : ((pids.drop 40).take 20).all okFs = true := by decide +kernel
theorem ck_3 : ((pids.drop 60).take 20).all okFs = true := by decide +kernel
theorem ck_4 : ((pids.drop 80).take 20).all okFs = true := by decide +kernel
theorem ck_5 : ((pids.drop 100).take 20).all okFs = true := by decide +kernel
theorem ck_6 : ((pids.drop 120).take 20).all okFs = true := by decide +kernel
theorem ck_7 : ((pids.drop 140).take 20).all okFs = true := by decide +kernel
theorem ck_8 : ((pids.drop 160).take 20).all okFs = true := by decide +kernel
theorem ck_9 : ((pids.drop 180).take 20).all okFs = true := by decide +kernel
theorem ck_10 : ((pids.drop 200).take 20).all okFs = true := by decide +kernel
theorem ck_11 : ((pids.drop 220).take 20).all okFs = true := by decide +kernel
theorem ck_12 : ((pids.drop 240).take 20).all okFs = true := by decide +kernel
theorem ck_13 : ((pids.drop 260).take 20).all okFs = true := by decide +kernel
theorem ck_14 : ((pids.drop 280).take 6).all okFs = true := by decide +kernel
theorem okAll : ∀ q ∈ pids, okMs q = true := by
  have e : pids = (pids.drop 0).take 20 ++ ((pids.drop 20).take 20 ++ ((pids.drop 40).take 20 ++ ((pids.drop 60).take 20 ++ ((pids.drop 80).take 20 ++ ((pids.drop 100).take 20 ++ ((pids.drop 120).take 20 ++ ((pids.drop 140).take 20 ++ ((pids.drop 160).take 20 ++ ((pids.drop 180).take 20 ++ ((pids.drop 200).take 20 ++ ((pids.drop 220).take 20 ++ ((pids.drop 240).take 20 ++ ((pids.drop 260).take 20 ++ ((pids.drop 280).take 6)))))))))))))) := by decide +kernel
  intro q hq
  rw [e] at hq
  simp only [List.mem_append] at hq
  rcases hq with h | h | h | h | h | h | h | h | h | h | h | h | h | h | h
  · exact okFs_ok (List.all_eq_true.mp ck_0 q h)
  · exact okFs_ok (List.all_eq_true.mp ck_1 q h)
  · exact okFs_ok (List.all_eq_true.mp ck_2 q h)
  · exact okFs_ok (List.all_eq_true.mp ck_3 q h)
  · exact okFs_ok (List.all_eq_true.mp ck_4 q h)
  · exact okFs_ok (List.all_eq_true.mp ck_5 q h)
  · exact okFs_ok (List.all_eq_true.mp ck_6 q h)
  · exact okFs_ok (List.all_eq_true.mp ck_7 q h)
  · exact okFs_ok (List.all_eq_true.mp ck_8 q h)
  · exact okFs_ok (List.all_eq_true.mp ck_9 q h)
  · exact okFs_ok (List.all_eq_true.mp ck_10 q h)
  · exact okFs_ok (List.all_eq_true.mp ck_11 q h)
  · exact okFs_ok (List.all_eq_true.mp ck_12 q h)
  · exact okFs_ok (List.all_eq_true.mp ck_13 q h)
  · exact okFs_ok (List.all_eq_true.mp ck_14 q h)
end
