section
theorem r_outside (d : Nat) (v a b : Int32) (h : PH) : Run d 27 [.int v, .int a, .int b] h (fun r g => r = some (.int (if v < a ∨ b < v then 1 else 0)) ∧ g = h) := by
  have fin : ∀ x : Int32, (x = 0 ∨ x = 1) → x = (if v < a ∨ b < v then 1 else 0) → WP d 27 3 [.int v, .int a, .int b] [.int x] h (fun r g => r = some (.int (if v < a ∨ b < v then 1 else 0)) ∧ g = h) := by
    intro x h01 hx
    refine WP.blk c_27_3 2 rfl rfl rfl ?_
    simp only [c_27_3, wpL, wpI]
    exact ⟨Or.inr ⟨trivial, h01⟩, by rw [hx], trivial⟩
  refine Run.blk c_27_0 2 3 rfl rfl rfl rfl rfl ?_
  simp only [c_27_0, wpL, wpI, nth, lay, pad, wJump, Int.reduceToNat]
  have one : WP d 27 1 [.int v, .int a, .int b] [] h (fun r g => r = some (.int (if v < a ∨ b < v then 1 else 0)) ∧ g = h) ∨ ¬ (v < a ∨ b < v) := by
    by_cases hq : v < a ∨ b < v
    · left
      refine WP.blk c_27_1 2 rfl rfl rfl ?_
      simp only [c_27_1, wpL, wpI, wJump, Int.reduceToNat]
      exact fin _ (Or.inr rfl) (by rw [if_pos hq]; rfl)
    · right; exact hq
  split
  · rename_i h1
    exact one.resolve_right (fun z => z (Or.inl h1))
  · rename_i h1
    split
    · rename_i h2
      have hq : ¬ (v < a ∨ b < v) := by
        rintro (z | z)
        · exact h1 z
        · exact absurd z (Int32.not_lt.mpr h2)
      refine WP.blk c_27_2 2 rfl rfl rfl ?_
      simp only [c_27_2, wpL, wpI, wJump, Int.reduceToNat]
      exact fin _ (Or.inl rfl) (by rw [if_neg hq]; rfl)
    · rename_i h2
      exact one.resolve_right (fun z => z (Or.inr (Int32.not_le.mp h2)))
set_option maxHeartbeats 1000000 in
theorem r_sleepersIn (d b w : Nat) (h : PH) (f : Nat → Nat → Int32) (r : Nat → Int32) (hw : WB h b) (hw4 : w < 4) : Run d 1601 [.ref b, .int (nI w)] (wI h (ww f b r)) (fun x g => x = some (.int (r (17 + 14 * w) + r (24 + 14 * w))) ∧ g = wI h (ww f b r)) := by
  refine Run.blk c_1601_0 1 2 rfl rfl rfl rfl rfl ?_
  have e1 : (2 * w) < 8 := by omega
  have e2 : (2 * w + 1) < 8 := by omega
  have e3 : 12 + 7 * (2 * w) + 5 = 17 + 14 * w := by omega
  have e4 : 12 + 7 * (2 * w + 1) + 5 = 24 + 14 * w := by omega
  simp only [c_1601_0, wpL, wpI, nth, lay, pad, wJump, Int.reduceToNat, Nat.reduceDiv, Nat.reduceMod, rfP, hT_wI, hL_wI, hR_wI, hI_wI, hw.t, hw.r4, hw.t4, hw.l4, isIA, BEq.rfl, Bool.true_or, true_and, and_true, nI_mul, nI_add, inb_of e1 (by decide), inb_of e2 (by decide), nI_clamp (Nat.lt_trans e1 (by decide)), nI_clamp (Nat.lt_trans e2 (by decide)), ww_4 e1, ww_4 e2, true_or, e3, e4]
theorem r_noSort (d : Nat) (v : Int32) (h : PH) : Run (d + 1) 73 [.int v] h (fun r g => r = some (.int (if v < nI 0 ∨ nI 4 < v then 1 else 0)) ∧ g = h) := by
  refine Run.blk c_73_0 2 1 rfl rfl rfl rfl rfl ?_
  simp only [c_73_0, wpL, wpI, nth, lay, pad, takeR, dropN, okStack, List.length, Nat.reduceMod, Nat.reduceAdd, Nat.le_refl, true_and]
  refine ⟨d, rfl, (r_outside d v (nI 0) (nI 4) h).mono ?_⟩
  rintro _ _ ⟨rfl, rfl⟩
  simp only [Option.toList, List.cons_append, List.nil_append, and_self, and_true, true_and]
  split
  · exact Or.inr (Or.inr rfl)
  · exact Or.inr (Or.inl rfl)
theorem r_noStreet (d : Nat) (v : Int32) (h : PH) : Run (d + 1) 113 [.int v] h (fun r g => r = some (.int (if v < nI 0 ∨ nI 7 < v then 1 else 0)) ∧ g = h) := by
  refine Run.blk c_113_0 2 1 rfl rfl rfl rfl rfl ?_
  simp only [c_113_0, wpL, wpI, nth, lay, pad, takeR, dropN, okStack, List.length, Nat.reduceMod, Nat.reduceAdd, Nat.le_refl, true_and]
  refine ⟨d, rfl, (r_outside d v (nI 0) (nI 7) h).mono ?_⟩
  rintro _ _ ⟨rfl, rfl⟩
  simp only [Option.toList, List.cons_append, List.nil_append, and_self, and_true, true_and]
  split
  · exact Or.inr (Or.inr rfl)
  · exact Or.inr (Or.inl rfl)
theorem r_noWard (d : Nat) (v : Int32) (h : PH) : Run (d + 1) 89 [.int v] h (fun r g => r = some (.int (if v < nI 0 ∨ nI 3 < v then 1 else 0)) ∧ g = h) := by
  refine Run.blk c_89_0 2 1 rfl rfl rfl rfl rfl ?_
  simp only [c_89_0, wpL, wpI, nth, lay, pad, takeR, dropN, okStack, List.length, Nat.reduceMod, Nat.reduceAdd, Nat.le_refl, true_and]
  refine ⟨d, rfl, (r_outside d v (nI 0) (nI 3) h).mono ?_⟩
  rintro _ _ ⟨rfl, rfl⟩
  simp only [Option.toList, List.cons_append, List.nil_append, and_self, and_true, true_and]
  split
  · exact Or.inr (Or.inr rfl)
  · exact Or.inr (Or.inl rfl)
theorem r_noKind (d : Nat) (v : Int32) (h : PH) : Run (d + 1) 137 [.int v] h (fun r g => r = some (.int (if v < nI 0 ∨ nI 5 < v then 1 else 0)) ∧ g = h) := by
  refine Run.blk c_137_0 2 1 rfl rfl rfl rfl rfl ?_
  simp only [c_137_0, wpL, wpI, nth, lay, pad, takeR, dropN, okStack, List.length, Nat.reduceMod, Nat.reduceAdd, Nat.le_refl, true_and]
  refine ⟨d, rfl, (r_outside d v (nI 0) (nI 5) h).mono ?_⟩
  rintro _ _ ⟨rfl, rfl⟩
  simp only [Option.toList, List.cons_append, List.nil_append, and_self, and_true, true_and]
  split
  · exact Or.inr (Or.inr rfl)
  · exact Or.inr (Or.inl rfl)
theorem r_noSheet (d : Nat) (v : Int32) (h : PH) : Run (d + 1) 361 [.int v] h (fun r g => r = some (.int (if v < nI 0 ∨ nI 3 < v then 1 else 0)) ∧ g = h) := by
  refine Run.blk c_361_0 2 1 rfl rfl rfl rfl rfl ?_
  simp only [c_361_0, wpL, wpI, nth, lay, pad, takeR, dropN, okStack, List.length, Nat.reduceMod, Nat.reduceAdd, Nat.le_refl, true_and]
  refine ⟨d, rfl, (r_outside d v (nI 0) (nI 3) h).mono ?_⟩
  rintro _ _ ⟨rfl, rfl⟩
  simp only [Option.toList, List.cons_append, List.nil_append, and_self, and_true, true_and]
  split
  · exact Or.inr (Or.inr rfl)
  · exact Or.inr (Or.inl rfl)
theorem r_noShelf (d : Nat) (v : Int32) (h : PH) : Run (d + 1) 529 [.int v] h (fun r g => r = some (.int (if v < nI 0 ∨ nI 3 < v then 1 else 0)) ∧ g = h) := by
  refine Run.blk c_529_0 2 1 rfl rfl rfl rfl rfl ?_
  simp only [c_529_0, wpL, wpI, nth, lay, pad, takeR, dropN, okStack, List.length, Nat.reduceMod, Nat.reduceAdd, Nat.le_refl, true_and]
  refine ⟨d, rfl, (r_outside d v (nI 0) (nI 3) h).mono ?_⟩
  rintro _ _ ⟨rfl, rfl⟩
  simp only [Option.toList, List.cons_append, List.nil_append, and_self, and_true, true_and]
  split
  · exact Or.inr (Or.inr rfl)
  · exact Or.inr (Or.inl rfl)
end
