section
/-! what each kind takes and how it tears -/
theorem n4 : ¬ nI 4 = 0 := by decide
theorem n5 : ¬ nI 5 = 0 := by decide
theorem r_catch0 (d c : Nat) (x s m : Int32) (h : PH) : Run d 1971 [.ref c, .int x, .int s, .int m] h (fun v g => v = some (.int (x / nI 4)) ∧ g = h) := by
  refine Run.blk c_1971_0 1 4 rfl rfl rfl rfl rfl ?_
  simp only [c_1971_0, wpL, wpI, nth, lay, pad, n4, not_false_eq_true, true_and, true_or, and_self]
theorem r_catch1 (d c : Nat) (x s m : Int32) (h : PH) (t : 1 ≤ hT h c ∧ hT h c ≤ 13) : Run (d + 1) 2035 [.ref c, .int x, .int s, .int m] h (fun v g => v = some (.int (x / nI 4 * nI 2)) ∧ g = h) := by
  refine Run.blk c_2035_0 1 4 rfl rfl rfl rfl rfl ?_
  simp only [c_2035_0, wpL, wpI, nth, lay, pad, takeR, dropN, okStack, List.length, Nat.reduceMod, Nat.reduceAdd, Nat.le_refl, true_and]
  refine ⟨t, d, rfl, (r_catch0 d c x s m h).mono ?_⟩
  rintro _ _ ⟨rfl, rfl⟩
  simp only [Option.toList, List.cons_append, List.nil_append, and_self, and_true, true_and, true_or]
theorem r_catch2 (d c : Nat) (x s m : Int32) (h : PH) (t : 1 ≤ hT h c ∧ hT h c ≤ 13) : Run (d + 1) 2075 [.ref c, .int x, .int s, .int m] h (fun v g => v = some (.int (x / nI 4 + m)) ∧ g = h) := by
  refine Run.blk c_2075_0 1 4 rfl rfl rfl rfl rfl ?_
  simp only [c_2075_0, wpL, wpI, nth, lay, pad, takeR, dropN, okStack, List.length, Nat.reduceMod, Nat.reduceAdd, Nat.le_refl, true_and]
  refine ⟨t, d, rfl, (r_catch0 d c x s m h).mono ?_⟩
  rintro _ _ ⟨rfl, rfl⟩
  simp only [Option.toList, List.cons_append, List.nil_append, nth, and_self, and_true, true_and, true_or]
theorem r_catch4 (d c : Nat) (x s m : Int32) (h : PH) (t : 1 ≤ hT h c ∧ hT h c ≤ 13) : Run (d + 1 + 1) 2171 [.ref c, .int x, .int s, .int m] h (fun v g => v = some (.int ((x / nI 4 + m) * nI 2)) ∧ g = h) := by
  refine Run.blk c_2171_0 1 4 rfl rfl rfl rfl rfl ?_
  simp only [c_2171_0, wpL, wpI, nth, lay, pad, takeR, dropN, okStack, List.length, Nat.reduceMod, Nat.reduceAdd, Nat.le_refl, true_and]
  refine ⟨t, d + 1, rfl, (r_catch2 d c x s m h t).mono ?_⟩
  rintro _ _ ⟨rfl, rfl⟩
  simp only [Option.toList, List.cons_append, List.nil_append, and_self, and_true, true_and, true_or]
theorem r_tear0 (d c : Nat) (m e : Int32) (h : PH) : Run d 1978 [.ref c, .int m, .int e] h (fun v g => v = some (.int (nI 1)) ∧ g = h) := by
  refine Run.blk c_1978_0 1 3 rfl rfl rfl rfl rfl ?_
  simp only [c_1978_0, wpL, wpI, nth, lay, pad, true_and, true_or, and_self]
theorem r_tear1 (d c : Nat) (m e : Int32) (h : PH) : Run d 2042 [.ref c, .int m, .int e] h (fun v g => v = some (.int (nI 0)) ∧ g = h) := by
  refine Run.blk c_2042_0 1 3 rfl rfl rfl rfl rfl ?_
  simp only [c_2042_0, wpL, wpI, nth, lay, pad, true_and, true_or, and_self]
theorem r_tear5 (d c : Nat) (m e : Int32) (h : PH) : Run d 2226 [.ref c, .int m, .int e] h (fun v g => v = some (.int (nI 0)) ∧ g = h) := by
  refine Run.blk c_2226_0 1 3 rfl rfl rfl rfl rfl ?_
  simp only [c_2226_0, wpL, wpI, nth, lay, pad, true_and, true_or, and_self]
theorem r_tear2 (d c : Nat) (m e : Int32) (h : PH) (t : 1 ≤ hT h c ∧ hT h c ≤ 13) : Run (d + 1) 2082 [.ref c, .int m, .int e] h (fun v g => v = some (.int (nI 1 + nI 1)) ∧ g = h) := by
  refine Run.blk c_2082_0 1 3 rfl rfl rfl rfl rfl ?_
  simp only [c_2082_0, wpL, wpI, nth, lay, pad, takeR, dropN, okStack, List.length, Nat.reduceMod, Nat.reduceAdd, Nat.le_refl, true_and]
  refine ⟨t, d, rfl, (r_tear0 d c m e h).mono ?_⟩
  rintro _ _ ⟨rfl, rfl⟩
  simp only [Option.toList, List.cons_append, List.nil_append, nth, and_self, and_true, true_and, true_or]
theorem r_tear4 (d c : Nat) (m e : Int32) (h : PH) (t : 1 ≤ hT h c ∧ hT h c ≤ 13) : Run (d + 1 + 1) 2178 [.ref c, .int m, .int e] h (fun v g => v = some (.int (nI 1 + nI 1 + m)) ∧ g = h) := by
  refine Run.blk c_2178_0 1 3 rfl rfl rfl rfl rfl ?_
  simp only [c_2178_0, wpL, wpI, nth, lay, pad, takeR, dropN, okStack, List.length, Nat.reduceMod, Nat.reduceAdd, Nat.le_refl, true_and]
  refine ⟨t, d + 1, rfl, (r_tear2 d c m e h t).mono ?_⟩
  rintro _ _ ⟨rfl, rfl⟩
  simp only [Option.toList, List.cons_append, List.nil_append, nth, and_self, and_true, true_and, true_or]
theorem r_catch3 (d c : Nat) (x s m : Int32) (h : PH) (t : 1 ≤ hT h c ∧ hT h c ≤ 13) : Run (d + 1 + 1) 2123 [.ref c, .int x, .int s, .int m] h (fun v g => v = some (.int (if s = nI 2 then nI 0 else x / nI 4 * nI 2)) ∧ g = h) := by
  have fin : ∀ (y : Int32), y = (if s = nI 2 then nI 0 else x / nI 4 * nI 2) → WP (d + 1 + 1) 2123 2 [.ref c, .int x, .int s, .int m] [.int y] h (fun v g => v = some (.int (if s = nI 2 then nI 0 else x / nI 4 * nI 2)) ∧ g = h) := by
    intro y hy
    refine WP.blk c_2123_2 1 rfl rfl rfl ?_
    simp only [c_2123_2, wpL, wpI, nth, ← hy, and_true, true_and, true_or]
  refine Run.blk c_2123_0 1 4 rfl rfl rfl rfl rfl ?_
  simp only [c_2123_0, wpL, wpI, nth, lay, pad, okStack, wJump, Int.reduceToNat, true_and]
  split
  · rename_i g
    simp only [if_pos g] at fin
    exact fin _ rfl
  · rename_i g
    refine WP.blk c_2123_1 1 rfl rfl rfl ?_
    simp only [c_2123_1, wpL, wpI, nth, lay, pad, takeR, dropN, okStack, List.length, Nat.reduceMod, Nat.reduceAdd, Nat.le_refl, true_and]
    refine ⟨t, d + 1, rfl, (r_catch1 d c x s m h t).mono ?_⟩
    rintro _ _ ⟨rfl, rfl⟩
    simp only [Option.toList, List.cons_append, List.nil_append, wJump, Int.reduceToNat, and_self, and_true, true_and, true_or]
    simp only [if_neg g] at fin
    exact fin _ rfl
theorem r_catch5 (d c : Nat) (x s m : Int32) (h : PH) (t : 1 ≤ hT h c ∧ hT h c ≤ 13) : Run (d + 1) 2219 [.ref c, .int x, .int s, .int m] h (fun v g => v = some (.int (if s = rem5 m then x else x / nI 4)) ∧ g = h) := by
  have fin : ∀ (y : Int32), y = (if s = rem5 m then x else x / nI 4) → WP (d + 1) 2219 2 [.ref c, .int x, .int s, .int m] [.int y] h (fun v g => v = some (.int (if s = rem5 m then x else x / nI 4)) ∧ g = h) := by
    intro y hy
    refine WP.blk c_2219_2 1 rfl rfl rfl ?_
    simp only [c_2219_2, wpL, wpI, nth, ← hy, and_true, true_and, true_or]
  unfold rem5 at fin ⊢
  refine Run.blk c_2219_0 1 4 rfl rfl rfl rfl rfl ?_
  simp only [c_2219_0, wpL, wpI, nth, lay, pad, okStack, wJump, Int.reduceToNat, true_and, n5, not_false_eq_true]
  split
  · rename_i g
    simp only [if_pos g] at fin
    exact fin _ rfl
  · rename_i g
    refine WP.blk c_2219_1 1 rfl rfl rfl ?_
    simp only [c_2219_1, wpL, wpI, nth, lay, pad, takeR, dropN, okStack, List.length, Nat.reduceMod, Nat.reduceAdd, Nat.le_refl, true_and]
    refine ⟨t, d, rfl, (r_catch0 d c x s m h).mono ?_⟩
    rintro _ _ ⟨rfl, rfl⟩
    simp only [Option.toList, List.cons_append, List.nil_append, wJump, Int.reduceToNat, and_self, and_true, true_and, true_or]
    simp only [if_neg g] at fin
    exact fin _ rfl
theorem r_tear3 (d c : Nat) (m e : Int32) (h : PH) (t : 1 ≤ hT h c ∧ hT h c ≤ 13) : Run (d + 1) 2130 [.ref c, .int m, .int e] h (fun v g => v = some (.int (nI 0 + (if nI 3 ≤ e then nI 0 else nI 1))) ∧ g = h) := by
  have fin : ∀ (y : Int32), y = (if nI 3 ≤ e then nI 0 else nI 1) → WP (d + 1) 2130 2 [.ref c, .int m, .int e] [.int y, .int (nI 0)] h (fun v g => v = some (.int (nI 0 + (if nI 3 ≤ e then nI 0 else nI 1))) ∧ g = h) := by
    intro y hy
    refine WP.blk c_2130_2 1 rfl rfl rfl ?_
    simp only [c_2130_2, wpL, wpI, nth, ← hy, and_true, true_and, true_or]
  refine Run.blk c_2130_0 1 3 rfl rfl rfl rfl rfl ?_
  simp only [c_2130_0, wpL, wpI, nth, lay, pad, takeR, dropN, okStack, List.length, Nat.reduceMod, Nat.reduceAdd, Nat.le_refl, true_and]
  refine ⟨t, d, rfl, (r_tear1 d c m e h).mono ?_⟩
  rintro _ _ ⟨rfl, rfl⟩
  simp only [Option.toList, List.cons_append, List.nil_append, wJump, Int.reduceToNat, nth, and_self, and_true, true_and, true_or]
  split
  · rename_i g
    refine WP.blk c_2130_1 1 rfl rfl rfl ?_
    simp only [c_2130_1, wpL, wpI, wJump, Int.reduceToNat]
    simp only [if_pos g] at fin
    exact fin _ rfl
  · rename_i g
    simp only [if_neg g] at fin
    exact fin _ rfl
end
