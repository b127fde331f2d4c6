section
theorem r_held (d : Nat) (x lo hi : Int32) (h : PH) : Run d 1027 [.int x, .int lo, .int hi] h (fun r g => r = some (.int (if x < lo then lo else if hi < x then hi else x)) ∧ g = h) := by
  have fin : ∀ y : Int32, y = (if x < lo then lo else if hi < x then hi else x) → WP d 1027 3 [.int x, .int lo, .int hi] [.int y] h (fun r g => r = some (.int (if x < lo then lo else if hi < x then hi else x)) ∧ g = h) := by
    intro y hy
    refine WP.blk c_1027_3 1 rfl rfl rfl ?_
    simp only [c_1027_3, wpL, wpI]
    exact ⟨Or.inl trivial, by rw [hy], trivial⟩
  refine Run.blk c_1027_0 1 3 rfl rfl rfl rfl rfl ?_
  simp only [c_1027_0, wpL, wpI, nth, lay, pad, wJump, Int.reduceToNat]
  split
  · rename_i h1
    refine WP.blk c_1027_1 1 rfl rfl rfl ?_
    simp only [c_1027_1, wpL, wpI, nth, wJump, Int.reduceToNat]
    split
    · rename_i h2
      refine WP.blk c_1027_2 1 rfl rfl rfl ?_
      simp only [c_1027_2, wpL, wpI, nth, wJump, Int.reduceToNat]
      exact fin _ (by rw [if_neg (Int32.not_lt.mpr h1), if_neg (Int32.not_lt.mpr h2)])
    · rename_i h2
      exact fin _ (by rw [if_neg (Int32.not_lt.mpr h1), if_pos (Int32.not_le.mp h2)])
  · rename_i h1
    exact fin _ (by rw [if_pos (Int32.not_le.mp h1)])
end
