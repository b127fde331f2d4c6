section
/-- what is left: the law on the second machine -/
def PureLaw : Prop := ∀ (L : Nat) (xs : Nat → Int32), L ≤ 2560 → ∃ n d hf, d ≤ 500 ∧ Ex n d 2281 0 (pad 4 (lay [.ref 0])) [] (h0 L xs) (some (.int 1)) hf ∧ hN hf ≤ 600100 ∧ hU hf ≤ 7302250
theorem law_consts : pnl 2281 = 4 ∧ pnm 2281 = ⟨R_law, "law", "([I)Z"⟩ ∧ prk 2281 = 2 ∧ ppc 2281 0 = 0 ∧ pnb 2281 = pnb 2281 := ⟨rfl, rfl, rfl, rfl, rfl⟩
theorem law_code : pcd 2281 = code := rfl
theorem law_pid : (2281, pnb 2281) ∈ pids := by decide +kernel
set_option maxRecDepth 100000 in
theorem whole_of (hAll : ∀ q ∈ pids, okMs q = true) (hP : PureLaw) {p : Program} {e : Env} {s : State} {m : MethodId} {below : List Frame} {meth : Method} {c : Code} (l : Launch) {b L : Nat} {xs : Nat → Int32} (hL : L ≤ 2560) (C0 : lw_At p s m meth c b L xs) : W p l e room_1 s m #[Value.ref b] below meth c s.heap [] 0 0 (lw_Z below #[Value.ref b] s) (entryFrame m ([Value.ref b] : List Value).toArray 4) := by
  obtain ⟨X, x1, x2, x3, hKU, hPic⟩ := start_of C0
  obtain ⟨hx, hb, hr, hml, hown, hts, hX, hbl, hlocks, hgv⟩ := id C0
  obtain ⟨n, d, hf, hd, H, hn, hu⟩ := hP L xs hL
  have htg : ∀ w ∈ lw_good, w.before #[Value.ref b] s = true := fun w hw => hts w (List.mem_filter.mp hw).1
  have G := (sound hAll KSt.same KSt.warm (strW X) n).1 (p := p) (l := l) (e := e) (R := room_1) (s := s) (m := m) (args := #[Value.ref b]) (below := below) (meth := meth) (c := c) (n0 := 100) (u0 := 0) (Q := lw_Z below #[Value.ref b] s) d 2281 0 _ _ _ _ hf H law_pid hx (hb.trans law_code.symm) (hml.trans law_consts.1.symm) (by rw [law_consts.2.1]; exact hown) htg hKU (fun z => by rw [law_consts.2.1] at z; exact absurd z (by decide)) (by show d + 6 ≤ 2048; omega) (by show 100 * (d + 6) ≤ 84000; omega) (by show hN hf - 100 ≤ 600000; omega) (by show hU hf - 0 ≤ 7302250; omega) ?_
  · rw [law_consts.2.2.2.1, law_consts.1] at G
    rw [lg_entry_eq]
    have hle := lv_entry [.ref b] (n := 4) (Nat.le_of_ble_eq_true rfl)
    generalize (lg_sl [Value.ref b] ++ List.replicate (4 - (lg_sl [Value.ref b]).length) Slot.unset).toArray = lsM at hle ⊢
    have e1 : ([.ref 0] : List Value).map (rnv X) = [.ref b] := by
      show [Value.ref (ad X 0)] = _
      have : ad X 0 = xo X 0 := by unfold ad; rw [if_pos (by omega)]
      rw [this, x3]
    have := G s.heap [] lsM hPic (entry_LOK (a := [.ref 0]) (by decide) (by rw [e1]; exact hle)) (fun q hq => by cases hq) (Nat.le_refl _) (Nat.le_refl _)
    exact this
  · intro H1 locs lsM pc P1 B1 B2 B3
    refine ⟨fun h1 => (by cases h1), fun x h1 h2 h3 => ?_, fun x h1 => (by cases h1), fun v h1 h2 => ?_⟩
    · cases h1
      refine va_forget (fun q hq => by rw [← x1]; exact B1 q hq) ?_
      refine W.widen (k := 600000) (n := 7302250) (by omega) (by omega) ?_
      exact lw_ret hx hb hr hlocks (by rw [← law_code]; exact h3)
    · rw [law_consts.2.2.1] at h2
      cases h2
end
