section
theorem lk_0 : ([0, 1, 2, 3, 4, 5, 6, 7, 8, 9, 10, 11] : List Nat).all (okMF 2281) = true := by decide +kernel
theorem lk_12 : ([12, 13, 14, 15, 16, 17, 18, 19, 20, 21, 22, 23] : List Nat).all (okMF 2281) = true := by decide +kernel
end
