section
theorem ck_0 : ((pids.drop 0).take 20).all okFs = true := by decide +kernel
theorem ck_1 : ((pids.drop 20).take 20).all okFs = true := by decide +kernel
theorem ck_2 : ((pids.drop 40).take 20).all okFs = true := by decide +kernel
theorem ck_3 : ((pids.drop 60).take 20).all okFs = true := by decide +kernel
theorem ck_4 : ((pids.drop 80).take 20).all okFs = true := by decide +kernel
theorem ck_5 : ((pids.drop 100).take 20).all okFs = true := by decide +kernel
theorem ck_6 : ((pids.drop 120).take 20).all okFs = true := by decide +kernel
theorem ck_7 : ((pids.drop 140).take 20).all okFs = true := by decide +kernel
theorem ck_8 : ((pids.drop 160).take 20).all okFs = true := by decide +kernel
theorem ck_9 : ((pids.drop 180).take 20).all okFs = true := by decide +kernel
theorem ck_10 : ((pids.drop 200).take 20).all okFs = true := by decide +kernel
theorem ck_11 : ((pids.drop 220).take 20).all okFs = true := by decide +kernel
theorem ck_12 : ((pids.drop 240).take 20).all okFs = true := by decide +kernel
theorem ck_13 : ((pids.drop 260).take 20).all okFs = true := by decide +kernel
theorem ck_14 : ((pids.drop 280).take 4).all okFs = true := by decide +kernel
end
