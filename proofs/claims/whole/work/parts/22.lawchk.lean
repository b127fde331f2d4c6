section
theorem lk_0 : ([0, 1] : List Nat).all (okMF 2281) = true := by decide +kernel
theorem lk_2 : ([2, 3] : List Nat).all (okMF 2281) = true := by decide +kernel
theorem lk_4 : ([4, 5] : List Nat).all (okMF 2281) = true := by decide +kernel
theorem lk_6 : ([6, 7] : List Nat).all (okMF 2281) = true := by decide +kernel
theorem lk_8 : ([8, 9] : List Nat).all (okMF 2281) = true := by decide +kernel
theorem lk_10 : ([10, 11] : List Nat).all (okMF 2281) = true := by decide +kernel
theorem lk_12 : ([12, 13] : List Nat).all (okMF 2281) = true := by decide +kernel
theorem lk_14 : ([14, 15] : List Nat).all (okMF 2281) = true := by decide +kernel
theorem lk_16 : ([16, 17] : List Nat).all (okMF 2281) = true := by decide +kernel
theorem lk_18 : ([18, 19] : List Nat).all (okMF 2281) = true := by decide +kernel
theorem lk_20 : ([20, 21] : List Nat).all (okMF 2281) = true := by decide +kernel
theorem lk_22 : ([22, 23] : List Nat).all (okMF 2281) = true := by decide +kernel
theorem lk_24 : ([24, 25] : List Nat).all (okMF 2281) = true := by decide +kernel
theorem lk_26 : ([26, 27] : List Nat).all (okMF 2281) = true := by decide +kernel
end
