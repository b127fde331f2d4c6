section
/-! sums over a street and over a hold, of the class's world -/
/-- what the first n sorts of street s come to -/
def stIn (r : Nat → Int32) (s : Nat) : Nat → Int32
  | 0 => nI 0
  | n + 1 => stIn r s n + r (pq (s * 5 + n))
theorem stockIn_loop (d b : Nat) (h : PH) (f : Nat → Nat → Int32) (r : Nat → Int32) (w : WB h b) (s : Nat) (hs : s < 8) :
    ∀ (j k : Nat), k + j = 5 → WP d 1609 1 [.ref b, .int (nI s), .int (stIn r s k), .int (nI k)] [] (wI h (ww f b r)) (fun x g => x = some (.int (stIn r s 5)) ∧ g = wI h (ww f b r))
  | 0, k, hk => by
    obtain rfl : k = 5 := by omega
    refine WP.blk c_1609_1 1 rfl rfl rfl ?_
    simp only [c_1609_1, wpL, wpI, nth, wJump, Int.reduceToNat, Int32.le_refl, if_true]
    refine WP.blk c_1609_2 1 rfl rfl rfl ?_
    simp only [c_1609_2, wpL, wpI, nth, and_self, true_and, true_or]
  | j + 1, k, hk => by
    have g1 : ¬ nI 5 ≤ nI k := nI_ge (by omega) (by decide)
    have hn : s * 5 + k < 40 := by omega
    refine WP.blk c_1609_1 1 rfl rfl rfl ?_
    simp only [c_1609_1, wpL, wpI, nth, setN, noLong, okStack, wJump, Int.reduceToNat, if_neg g1, nI_mul, nI_add, true_and, Nat.reduceDiv, Nat.reduceMod, rfP, hT_wI, hL_wI, hR_wI, hI_wI, w.t, w.r3, w.t3, w.l3, isIA, BEq.rfl, Bool.true_or, inb_of hn (by decide), nI_clamp (lt31 hn (by decide)), ww_3 hn, oI_1]
    exact stockIn_loop d b h f r w s hs j (k + 1) (by omega)
theorem r_stockIn (d b : Nat) (h : PH) (f : Nat → Nat → Int32) (r : Nat → Int32) (w : WB h b) (s : Nat) (hs : s < 8) :
    Run d 1609 [.ref b, .int (nI s)] (wI h (ww f b r)) (fun x g => x = some (.int (stIn r s 5)) ∧ g = wI h (ww f b r)) := by
  refine Run.blk c_1609_0 1 4 rfl rfl rfl rfl rfl ?_
  simp only [c_1609_0, wpL, wpI, nth, setN, noLong, lay, pad, wJump, Int.reduceToNat, true_and]
  exact stockIn_loop d b h f r w s hs 5 0 rfl
/-- the worth of the first n sorts that boat β holds -/
def woIn (r : Nat → Int32) (β : Nat) : Nat → Int32
  | 0 => nI 0
  | n + 1 => woIn r β n + r (81 + 10 * β + n) * r (7 + n)
theorem worthHeld_loop (d b : Nat) (h : PH) (f : Nat → Nat → Int32) (r : Nat → Int32) (w : WB h b) (β : Nat) (hs : β < 6) :
    ∀ (j k : Nat), k + j = 5 → WP d 1617 1 [.ref b, .int (nI β), .int (woIn r β k), .int (nI k)] [] (wI h (ww f b r)) (fun x g => x = some (.int (woIn r β 5)) ∧ g = wI h (ww f b r))
  | 0, k, hk => by
    obtain rfl : k = 5 := by omega
    refine WP.blk c_1617_1 1 rfl rfl rfl ?_
    simp only [c_1617_1, wpL, wpI, nth, wJump, Int.reduceToNat, Int32.le_refl, if_true]
    refine WP.blk c_1617_2 1 rfl rfl rfl ?_
    simp only [c_1617_2, wpL, wpI, nth, and_self, true_and, true_or]
  | j + 1, k, hk => by
    have g1 : ¬ nI 5 ≤ nI k := nI_ge (by omega) (by decide)
    have hn : β * 5 + k < 30 := by omega
    have h5 : k < 5 := by omega
    have hp : 81 + 10 * ((β * 5 + k) / 5) + (β * 5 + k) % 5 = 81 + 10 * β + k := by omega
    refine WP.blk c_1617_1 1 rfl rfl rfl ?_
    simp only [c_1617_1, wpL, wpI, nth, setN, noLong, okStack, wJump, Int.reduceToNat, if_neg g1, nI_mul, nI_add, true_and, Nat.reduceDiv, Nat.reduceMod, rfP, hT_wI, hL_wI, hR_wI, hI_wI, w.t, w.r13, w.t13, w.l13, w.r2, w.t2, w.l2, isIA, BEq.rfl, Bool.true_or, inb_of hn (by decide), inb_of h5 (by decide), nI_clamp (lt31 hn (by decide)), nI_clamp (lt31 h5 (by decide)), ww_13 hn, ww_2 h5, oI_1, hp]
    exact worthHeld_loop d b h f r w β hs j (k + 1) (by omega)
theorem r_worthHeld (d b : Nat) (h : PH) (f : Nat → Nat → Int32) (r : Nat → Int32) (w : WB h b) (β : Nat) (hs : β < 6) :
    Run d 1617 [.ref b, .int (nI β)] (wI h (ww f b r)) (fun x g => x = some (.int (woIn r β 5)) ∧ g = wI h (ww f b r)) := by
  refine Run.blk c_1617_0 1 4 rfl rfl rfl rfl rfl ?_
  simp only [c_1617_0, wpL, wpI, nth, setN, noLong, lay, pad, wJump, Int.reduceToNat, true_and]
  exact worthHeld_loop d b h f r w β hs 5 0 rfl
end
