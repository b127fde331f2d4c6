section
/-! may a boat haul -/
def mayH (r : Nat → Int32) (β a : Nat) : Int32 := if nI 9 ≤ r (80 + 10 * β) then nI 0 else if r (68 + 2 * (a / 2)) ≤ r (69 + 2 * (a / 2)) then nI 0 else nI 1
theorem mayH_01 (r : Nat → Int32) (β a : Nat) : mayH r β a = 0 ∨ mayH r β a = 1 := by
  unfold mayH
  split
  · exact Or.inl rfl
  · split
    · exact Or.inl rfl
    · exact Or.inr rfl
theorem r_mayHaul (d b : Nat) (h : PH) (f : Nat → Nat → Int32) (r : Nat → Int32) (w : WB h b) (β a : Nat) (hs : β < 6) (ha : a < 8) (e : r (78 + 10 * β) = nI a) :
    Run d 1649 [.ref b, .int (nI β)] (wI h (ww f b r)) (fun x g => x = some (.int (mayH r β a)) ∧ g = wI h (ww f b r)) := by
  have h4 : a / 2 < 4 := by omega
  have h2 : ¬ nI 2 = 0 := by decide
  have fin : ∀ (v : Value) (x : Int32), x = mayH r β a → WP d 1649 2 [.ref b, .int (nI β), v] [.int x] (wI h (ww f b r)) (fun x g => x = some (.int (mayH r β a)) ∧ g = wI h (ww f b r)) := by
    intro v x hx
    refine WP.blk c_1649_2 2 rfl rfl rfl ?_
    simp only [c_1649_2, wpL, wpI, nth, hx, and_true, true_and]
    first | exact mayH_01 r β a | exact Or.inr (mayH_01 r β a)
  refine Run.blk c_1649_0 2 3 rfl rfl rfl rfl rfl ?_
  simp only [c_1649_0, wpL, wpI, nth, setN, noLong, lay, pad, okStack, wJump, Int.reduceToNat, true_and, Nat.reduceDiv, Nat.reduceMod, rfP, hT_wI, hL_wI, hR_wI, hI_wI, w.t, w.r6, w.t6, w.l6, w.r7, w.t7, w.l7, w.r10, w.t10, w.l10, w.r12, w.t12, w.l12, isIA, BEq.rfl, Bool.true_or, inb_of hs (by decide), nI_clamp (lt31 hs (by decide)), ww_10 hs, ww_12 hs, e, h2, not_false_eq_true, pk_div (show a < 2 ^ 31 by omega) (show 0 < 2 by decide) (show 2 < 2 ^ 31 by decide), inb_of h4 (by decide), nI_clamp (lt31 h4 (by decide)), ww_6 h4, ww_7 h4]
  split
  · rename_i g
    refine WP.blk c_1649_1 2 rfl rfl rfl ?_
    simp only [c_1649_1, wpL, wpI, wJump, Int.reduceToNat]
    exact fin _ _ (by unfold mayH; rw [if_pos g])
  · rename_i g
    split
    · rename_i g2
      refine WP.blk c_1649_1 2 rfl rfl rfl ?_
      simp only [c_1649_1, wpL, wpI, wJump, Int.reduceToNat]
      exact fin _ _ (by unfold mayH; rw [if_neg g, if_pos g2])
    · rename_i g2
      exact fin _ _ (by unfold mayH; rw [if_neg g, if_neg g2])
end
