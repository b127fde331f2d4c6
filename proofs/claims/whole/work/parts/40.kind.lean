section
/-! the boat's kind -/
theorem FR.r110 {h : PH} (w : FR h) {k : Nat} (hk : k < 6) : hR h 110 k = some (111 + k) := by
  match k, hk with
  | 0, _ => exact w.r110_0
  | 1, _ => exact w.r110_1
  | 2, _ => exact w.r110_2
  | 3, _ => exact w.r110_3
  | 4, _ => exact w.r110_4
  | 5, _ => exact w.r110_5
theorem r_kindOf (d b : Nat) (h : PH) (f : Nat → Nat → Int32) (r : Nat → Int32) (F : FR h) (w : WB h b) (β k : Nat) (hs : β < 6) (hk : k < 6) (e : r (76 + 10 * β) = nI k) :
    Run d 1633 [.ref b, .int (nI β)] (wI h (ww f b r)) (fun x g => x = some (.ref (111 + k)) ∧ g = wI h (ww f b r)) := by
  refine Run.blk c_1633_0 4 2 rfl rfl rfl rfl rfl ?_
  simp only [c_1633_0, wpL, wpI, nth, setN, noLong, lay, pad, okStack, true_and, Nat.reduceDiv, Nat.reduceMod, rfP, hT_wI, hL_wI, hR_wI, hI_wI, w.t, w.r0, w.r8, w.t8, w.l8, F.t110, F.l110, isIA, BEq.rfl, Bool.true_or, inb_of hs (by decide), nI_clamp (lt31 hs (by decide)), ww_8 hs, e, inb_of hk (by decide), nI_clamp (lt31 hk (by decide)), F.r110 hk, Option.map_some, and_self]
  exact ⟨by decide, by decide, trivial⟩
end
