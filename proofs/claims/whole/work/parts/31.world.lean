section
/-! a world of the class, at b: its cell and its thirteen rows; read as a row of 136 ints, placed as in the reference -/
def wlen (c : Nat) : Nat := match c with
  | 1 => 3
  | 2 => 5
  | 3 => 40
  | 4 => 8
  | 5 => 8
  | 6 => 4
  | 7 => 4
  | 8 => 6
  | 9 => 6
  | 10 => 6
  | 11 => 6
  | 12 => 6
  | 13 => 30
  | _ => 0
def plc (c k : Nat) : Nat := match c with
  | 0 => (match k with | 14 => 5 | 15 => 3 | 16 => 4 | _ => 6)
  | 1 => k
  | 2 => 7 + k
  | 3 => 12 + 7 * (k / 5) + k % 5
  | 4 => 12 + 7 * k + 5
  | 5 => 12 + 7 * k + 6
  | 6 => 68 + 2 * k
  | 7 => 69 + 2 * k
  | 8 => 76 + 10 * k
  | 9 => 77 + 10 * k
  | 10 => 78 + 10 * k
  | 11 => 79 + 10 * k
  | 12 => 80 + 10 * k
  | 13 => 81 + 10 * (k / 5) + k % 5
  | _ => 0
def pvd (c k : Nat) : Bool := match c with
  | 0 => Nat.ble 14 k && Nat.blt k 18
  | 1 => Nat.blt k 3
  | 2 => Nat.blt k 5
  | 3 => Nat.blt k 40
  | 4 => Nat.blt k 8
  | 5 => Nat.blt k 8
  | 6 => Nat.blt k 4
  | 7 => Nat.blt k 4
  | 8 => Nat.blt k 6
  | 9 => Nat.blt k 6
  | 10 => Nat.blt k 6
  | 11 => Nat.blt k 6
  | 12 => Nat.blt k 6
  | 13 => Nat.blt k 30
  | _ => false
def cel (q : Nat) : Nat := [1, 1, 1, 0, 0, 0, 0, 2, 2, 2, 2, 2, 3, 3, 3, 3, 3, 4, 5, 3, 3, 3, 3, 3, 4, 5, 3, 3, 3, 3, 3, 4, 5, 3, 3, 3, 3, 3, 4, 5, 3, 3, 3, 3, 3, 4, 5, 3, 3, 3, 3, 3, 4, 5, 3, 3, 3, 3, 3, 4, 5, 3, 3, 3, 3, 3, 4, 5, 6, 7, 6, 7, 6, 7, 6, 7, 8, 9, 10, 11, 12, 13, 13, 13, 13, 13, 8, 9, 10, 11, 12, 13, 13, 13, 13, 13, 8, 9, 10, 11, 12, 13, 13, 13, 13, 13, 8, 9, 10, 11, 12, 13, 13, 13, 13, 13, 8, 9, 10, 11, 12, 13, 13, 13, 13, 13, 8, 9, 10, 11, 12, 13, 13, 13, 13, 13].getD q 0
def slt (q : Nat) : Nat := [0, 1, 2, 15, 16, 14, 17, 0, 1, 2, 3, 4, 0, 1, 2, 3, 4, 0, 0, 5, 6, 7, 8, 9, 1, 1, 10, 11, 12, 13, 14, 2, 2, 15, 16, 17, 18, 19, 3, 3, 20, 21, 22, 23, 24, 4, 4, 25, 26, 27, 28, 29, 5, 5, 30, 31, 32, 33, 34, 6, 6, 35, 36, 37, 38, 39, 7, 7, 0, 0, 1, 1, 2, 2, 3, 3, 0, 0, 0, 0, 0, 0, 1, 2, 3, 4, 1, 1, 1, 1, 1, 5, 6, 7, 8, 9, 2, 2, 2, 2, 2, 10, 11, 12, 13, 14, 3, 3, 3, 3, 3, 15, 16, 17, 18, 19, 4, 4, 4, 4, 4, 20, 21, 22, 23, 24, 5, 5, 5, 5, 5, 25, 26, 27, 28, 29].getD q 0
theorem plc_left : ∀ c, c < 14 → ∀ k, k < 40 → pvd c k = true → cel (plc c k) = c ∧ slt (plc c k) = k ∧ plc c k < 136 := by decide +kernel
theorem plc_right : ∀ q, q < 136 → cel q < 14 ∧ pvd (cel q) (slt q) = true ∧ plc (cel q) (slt q) = q := by decide +kernel
theorem pvd_lt {c k : Nat} (h : pvd c k = true) : c < 14 ∧ k < 40 := by
  unfold pvd at h
  split at h
  all_goals first
    | (simp only [Bool.and_eq_true, Nat.blt_eq, Nat.ble_eq] at h; omega)
    | cases h
theorem plc_inv {c k : Nat} (h : pvd c k = true) : cel (plc c k) = c ∧ slt (plc c k) = k ∧ plc c k < 136 := by
  obtain ⟨h1, h2⟩ := pvd_lt h
  exact plc_left c h1 k h2 h
/-- a row's end: what stands behind the last boat is no part of it -/
def nb (r : Nat → Int32) : Nat := (r 5).toNatClampNeg
def lim (r : Nat → Int32) : Nat := min 136 (76 + 10 * nb r)
theorem lim_ge (r : Nat → Int32) : 76 ≤ lim r := by unfold lim; omega
theorem lim_le (r : Nat → Int32) : lim r ≤ 136 := by unfold lim; omega
/-- the ints f, but for the world at b, which is r -/
def ww (f : Nat → Nat → Int32) (b : Nat) (r : Nat → Int32) : Nat → Nat → Int32 := fun a k => if b ≤ a ∧ pvd (a - b) k = true ∧ plc (a - b) k < lim r then r (plc (a - b) k) else f a k
/-- the world at b -/
def rv (f : Nat → Nat → Int32) (b : Nat) : Nat → Int32 := fun q => if q < min 136 (76 + 10 * (f b 14).toNatClampNeg) then f (b + cel q) (slt q) else 0
def Z (r : Nat → Int32) : Prop := ∀ q, lim r ≤ q → r q = 0
theorem rv_5 (f : Nat → Nat → Int32) (b : Nat) : rv f b 5 = f b 14 := by
  unfold rv
  rw [if_pos (by omega)]
  rfl
theorem lim_rv (f : Nat → Nat → Int32) (b : Nat) : lim (rv f b) = min 136 (76 + 10 * (f b 14).toNatClampNeg) := by
  unfold lim nb
  rw [rv_5]
theorem Z_rv (f : Nat → Nat → Int32) (b : Nat) : Z (rv f b) := fun q hq => by
  rw [lim_rv] at hq
  exact if_neg (by omega)
theorem lim_upr {r : Nat → Int32} {q : Nat} {x : Int32} (h : ¬ q = 5) : lim (upr r q x) = lim r := by
  unfold lim nb upr
  rw [if_neg (fun z => h z.symm)]
theorem nb_upr {r : Nat → Int32} {q : Nat} {x : Int32} (h : ¬ q = 5) : nb (upr r q x) = nb r := by
  unfold nb upr
  rw [if_neg (fun z => h z.symm)]
theorem Z_upr {r : Nat → Int32} (h : Z r) {q : Nat} {x : Int32} (hq : q < lim r) (h5 : ¬ q = 5) : Z (upr r q x) := fun j hj => by
  rw [lim_upr h5] at hj
  unfold upr
  rw [if_neg (by omega)]
  exact h j hj
theorem ww_rv (f : Nat → Nat → Int32) (b : Nat) : ww f b (rv f b) = f := by
  funext a k
  unfold ww
  by_cases h : b ≤ a ∧ pvd (a - b) k = true ∧ plc (a - b) k < lim (rv f b)
  · rw [if_pos h]
    obtain ⟨h1, h2, h3⟩ := plc_inv h.2.1
    have h4 := h.2.2
    rw [lim_rv] at h4
    unfold rv
    rw [if_pos h4, h1, h2, show b + (a - b) = a by omega]
  · rw [if_neg h]
theorem ww_read {f : Nat → Nat → Int32} {b : Nat} {r : Nat → Int32} (c k : Nat) (h : pvd c k = true) (hl : plc c k < lim r) : ww f b r (b + c) k = r (plc c k) := by
  unfold ww
  rw [show b + c - b = c by omega, if_pos ⟨by omega, h, hl⟩]
theorem rv_ww {f : Nat → Nat → Int32} {b : Nat} {r : Nat → Int32} (hz : Z r) : rv (ww f b r) b = r := by
  have e5 : ww f b r b 14 = r 5 := ww_read (b := b) 0 14 rfl (Nat.lt_of_lt_of_le (by decide) (lim_ge r))
  funext q
  unfold rv
  rw [e5]
  show (if q < lim r then _ else _) = _
  by_cases h : q < lim r
  · rw [if_pos h]
    have hq : q < 136 := Nat.lt_of_lt_of_le h (lim_le r)
    obtain ⟨h1, h2, h3⟩ := plc_right q hq
    unfold ww
    rw [show b + cel q - b = cel q by omega, if_pos ⟨by omega, h2, by rw [h3]; exact h⟩, h3]
  · rw [if_neg h]
    exact (hz q (by omega)).symm
theorem ww_ww (f : Nat → Nat → Int32) (b : Nat) {r r' : Nat → Int32} (hl : lim r ≤ lim r') : ww (ww f b r) b r' = ww f b r' := by
  funext a k
  unfold ww
  by_cases h : b ≤ a ∧ pvd (a - b) k = true ∧ plc (a - b) k < lim r'
  · rw [if_pos h, if_pos h]
  · rw [if_neg h, if_neg h, if_neg (fun z => h ⟨z.1, z.2.1, Nat.lt_of_lt_of_le z.2.2 hl⟩)]
theorem ww_out {f : Nat → Nat → Int32} {b : Nat} {r : Nat → Int32} {a k : Nat} (h : ¬ (b ≤ a ∧ a < b + 14)) : ww f b r a k = f a k := by
  unfold ww
  rw [if_neg]
  rintro ⟨h1, h2, -⟩
  have := (pvd_lt h2).1
  omega
theorem ww_comm {f : Nat → Nat → Int32} {b b' : Nat} {r r' : Nat → Int32} (h : b + 14 ≤ b' ∨ b' + 14 ≤ b) : ww (ww f b r) b' r' = ww (ww f b' r') b r := by
  funext a k
  by_cases h1 : b ≤ a ∧ a < b + 14
  · rw [ww_out (b := b') (by omega)]
    unfold ww
    by_cases h2 : b ≤ a ∧ pvd (a - b) k = true ∧ plc (a - b) k < lim r
    · rw [if_pos h2, if_pos h2]
    · rw [if_neg h2, if_neg h2, if_neg]
      rintro ⟨h3, h4, -⟩
      have := (pvd_lt h4).1
      omega
  · rw [ww_out (b := b) h1]
    by_cases h2 : b' ≤ a ∧ a < b' + 14
    · unfold ww
      by_cases h3 : b' ≤ a ∧ pvd (a - b') k = true ∧ plc (a - b') k < lim r'
      · rw [if_pos h3, if_pos h3]
      · rw [if_neg h3, if_neg h3, if_neg]
        rintro ⟨h4, h5, -⟩
        have := (pvd_lt h5).1
        omega
    · rw [ww_out h2, ww_out h2, ww_out h1]
theorem ww_up2 {f : Nat → Nat → Int32} {b a k : Nat} {r : Nat → Int32} {x : Int32} (h : ¬ (b ≤ a ∧ a < b + 14)) : up2 (ww f b r) a k x = ww (up2 f a k x) b r := by
  funext c j
  by_cases h1 : c = a ∧ j = k
  · obtain ⟨rfl, rfl⟩ := h1
    rw [up2_same, ww_out h, up2_same]
  · have e : ∀ g : Nat → Nat → Int32, up2 g a k x c j = g c j := fun g => if_neg h1
    rw [e]
    unfold ww
    rw [e]
theorem ww_write {f : Nat → Nat → Int32} {b : Nat} {r : Nat → Int32} (c k : Nat) (x : Int32) (h : pvd c k = true) (hl : plc c k < lim r) (h5 : ¬ plc c k = 5) : up2 (ww f b r) (b + c) k x = ww f b (upr r (plc c k) x) := by
  have hlu : lim (upr r (plc c k) x) = lim r := lim_upr h5
  funext a j
  unfold up2
  by_cases h1 : a = b + c ∧ j = k
  · rw [if_pos h1]
    obtain ⟨rfl, rfl⟩ := h1
    rw [ww_read c j h (by rw [hlu]; exact hl)]
    unfold upr
    rw [if_pos rfl]
  · rw [if_neg h1]
    unfold ww
    rw [hlu]
    by_cases h2 : b ≤ a ∧ pvd (a - b) j = true ∧ plc (a - b) j < lim r
    · rw [if_pos h2, if_pos h2]
      unfold upr
      rw [if_neg]
      intro e
      obtain ⟨i1, i2, -⟩ := plc_inv h2.2.1
      obtain ⟨i3, i4, -⟩ := plc_inv h
      rw [e] at i1 i2
      exact h1 ⟨by omega, by omega⟩
    · rw [if_neg h2, if_neg h2]
theorem lim_lt {r : Nat → Int32} {q : Nat} (h : q < 76) : q < lim r := Nat.lt_of_lt_of_le h (lim_ge r)
theorem lim_b {r : Nat → Int32} {β k : Nat} (h : β < nb r) (h6 : β < 6) (hk : k < 10) : 76 + 10 * β + k < lim r := by unfold lim; omega
/-- the frame of a world: kinds and lengths, and where its rows stand -/
def WB (h : PH) (b : Nat) : Prop := hT h b = 11 ∧ hR h b 0 = some 110 ∧ ∀ c, 1 ≤ c → c < 14 → hR h b c = some (b + c) ∧ hT h (b + c) = 100 ∧ hL h (b + c) = wlen c
theorem WB.t {h : PH} {b : Nat} (w : WB h b) : hT h b = 11 := w.1
theorem WB.r0 {h : PH} {b : Nat} (w : WB h b) : hR h b 0 = some 110 := w.2.1
theorem WB.r1 {h : PH} {b : Nat} (w : WB h b) : hR h b 1 = some (b + 1) := (w.2.2 1 (by decide) (by decide)).1
theorem WB.t1 {h : PH} {b : Nat} (w : WB h b) : hT h (b + 1) = 100 := (w.2.2 1 (by decide) (by decide)).2.1
theorem WB.l1 {h : PH} {b : Nat} (w : WB h b) : hL h (b + 1) = 3 := (w.2.2 1 (by decide) (by decide)).2.2
theorem ww_1 {f : Nat → Nat → Int32} {b k : Nat} {r : Nat → Int32} (h : k < 3) : ww f b r (b + 1) k = r (k) := ww_read 1 k (Nat.ble_eq.mpr h) (lim_lt (show k < 76 by omega))
theorem ws_1 {f : Nat → Nat → Int32} {b k : Nat} {r : Nat → Int32} {x : Int32} (h : k < 3) : up2 (ww f b r) (b + 1) k x = ww f b (upr r (k) x) := ww_write 1 k x (Nat.ble_eq.mpr h) (lim_lt (show k < 76 by omega)) (show ¬ k = 5 by omega)
theorem WB.r2 {h : PH} {b : Nat} (w : WB h b) : hR h b 2 = some (b + 2) := (w.2.2 2 (by decide) (by decide)).1
theorem WB.t2 {h : PH} {b : Nat} (w : WB h b) : hT h (b + 2) = 100 := (w.2.2 2 (by decide) (by decide)).2.1
theorem WB.l2 {h : PH} {b : Nat} (w : WB h b) : hL h (b + 2) = 5 := (w.2.2 2 (by decide) (by decide)).2.2
theorem ww_2 {f : Nat → Nat → Int32} {b k : Nat} {r : Nat → Int32} (h : k < 5) : ww f b r (b + 2) k = r (7 + k) := ww_read 2 k (Nat.ble_eq.mpr h) (lim_lt (show 7 + k < 76 by omega))
theorem ws_2 {f : Nat → Nat → Int32} {b k : Nat} {r : Nat → Int32} {x : Int32} (h : k < 5) : up2 (ww f b r) (b + 2) k x = ww f b (upr r (7 + k) x) := ww_write 2 k x (Nat.ble_eq.mpr h) (lim_lt (show 7 + k < 76 by omega)) (show ¬ 7 + k = 5 by omega)
theorem WB.r3 {h : PH} {b : Nat} (w : WB h b) : hR h b 3 = some (b + 3) := (w.2.2 3 (by decide) (by decide)).1
theorem WB.t3 {h : PH} {b : Nat} (w : WB h b) : hT h (b + 3) = 100 := (w.2.2 3 (by decide) (by decide)).2.1
theorem WB.l3 {h : PH} {b : Nat} (w : WB h b) : hL h (b + 3) = 40 := (w.2.2 3 (by decide) (by decide)).2.2
theorem ww_3 {f : Nat → Nat → Int32} {b k : Nat} {r : Nat → Int32} (h : k < 40) : ww f b r (b + 3) k = r (12 + 7 * (k / 5) + k % 5) := ww_read 3 k (Nat.ble_eq.mpr h) (lim_lt (show 12 + 7 * (k / 5) + k % 5 < 76 by omega))
theorem ws_3 {f : Nat → Nat → Int32} {b k : Nat} {r : Nat → Int32} {x : Int32} (h : k < 40) : up2 (ww f b r) (b + 3) k x = ww f b (upr r (12 + 7 * (k / 5) + k % 5) x) := ww_write 3 k x (Nat.ble_eq.mpr h) (lim_lt (show 12 + 7 * (k / 5) + k % 5 < 76 by omega)) (show ¬ 12 + 7 * (k / 5) + k % 5 = 5 by omega)
theorem WB.r4 {h : PH} {b : Nat} (w : WB h b) : hR h b 4 = some (b + 4) := (w.2.2 4 (by decide) (by decide)).1
theorem WB.t4 {h : PH} {b : Nat} (w : WB h b) : hT h (b + 4) = 100 := (w.2.2 4 (by decide) (by decide)).2.1
theorem WB.l4 {h : PH} {b : Nat} (w : WB h b) : hL h (b + 4) = 8 := (w.2.2 4 (by decide) (by decide)).2.2
theorem ww_4 {f : Nat → Nat → Int32} {b k : Nat} {r : Nat → Int32} (h : k < 8) : ww f b r (b + 4) k = r (12 + 7 * k + 5) := ww_read 4 k (Nat.ble_eq.mpr h) (lim_lt (show 12 + 7 * k + 5 < 76 by omega))
theorem ws_4 {f : Nat → Nat → Int32} {b k : Nat} {r : Nat → Int32} {x : Int32} (h : k < 8) : up2 (ww f b r) (b + 4) k x = ww f b (upr r (12 + 7 * k + 5) x) := ww_write 4 k x (Nat.ble_eq.mpr h) (lim_lt (show 12 + 7 * k + 5 < 76 by omega)) (show ¬ 12 + 7 * k + 5 = 5 by omega)
theorem WB.r5 {h : PH} {b : Nat} (w : WB h b) : hR h b 5 = some (b + 5) := (w.2.2 5 (by decide) (by decide)).1
theorem WB.t5 {h : PH} {b : Nat} (w : WB h b) : hT h (b + 5) = 100 := (w.2.2 5 (by decide) (by decide)).2.1
theorem WB.l5 {h : PH} {b : Nat} (w : WB h b) : hL h (b + 5) = 8 := (w.2.2 5 (by decide) (by decide)).2.2
theorem ww_5 {f : Nat → Nat → Int32} {b k : Nat} {r : Nat → Int32} (h : k < 8) : ww f b r (b + 5) k = r (12 + 7 * k + 6) := ww_read 5 k (Nat.ble_eq.mpr h) (lim_lt (show 12 + 7 * k + 6 < 76 by omega))
theorem ws_5 {f : Nat → Nat → Int32} {b k : Nat} {r : Nat → Int32} {x : Int32} (h : k < 8) : up2 (ww f b r) (b + 5) k x = ww f b (upr r (12 + 7 * k + 6) x) := ww_write 5 k x (Nat.ble_eq.mpr h) (lim_lt (show 12 + 7 * k + 6 < 76 by omega)) (show ¬ 12 + 7 * k + 6 = 5 by omega)
theorem WB.r6 {h : PH} {b : Nat} (w : WB h b) : hR h b 6 = some (b + 6) := (w.2.2 6 (by decide) (by decide)).1
theorem WB.t6 {h : PH} {b : Nat} (w : WB h b) : hT h (b + 6) = 100 := (w.2.2 6 (by decide) (by decide)).2.1
theorem WB.l6 {h : PH} {b : Nat} (w : WB h b) : hL h (b + 6) = 4 := (w.2.2 6 (by decide) (by decide)).2.2
theorem ww_6 {f : Nat → Nat → Int32} {b k : Nat} {r : Nat → Int32} (h : k < 4) : ww f b r (b + 6) k = r (68 + 2 * k) := ww_read 6 k (Nat.ble_eq.mpr h) (lim_lt (show 68 + 2 * k < 76 by omega))
theorem ws_6 {f : Nat → Nat → Int32} {b k : Nat} {r : Nat → Int32} {x : Int32} (h : k < 4) : up2 (ww f b r) (b + 6) k x = ww f b (upr r (68 + 2 * k) x) := ww_write 6 k x (Nat.ble_eq.mpr h) (lim_lt (show 68 + 2 * k < 76 by omega)) (show ¬ 68 + 2 * k = 5 by omega)
theorem WB.r7 {h : PH} {b : Nat} (w : WB h b) : hR h b 7 = some (b + 7) := (w.2.2 7 (by decide) (by decide)).1
theorem WB.t7 {h : PH} {b : Nat} (w : WB h b) : hT h (b + 7) = 100 := (w.2.2 7 (by decide) (by decide)).2.1
theorem WB.l7 {h : PH} {b : Nat} (w : WB h b) : hL h (b + 7) = 4 := (w.2.2 7 (by decide) (by decide)).2.2
theorem ww_7 {f : Nat → Nat → Int32} {b k : Nat} {r : Nat → Int32} (h : k < 4) : ww f b r (b + 7) k = r (69 + 2 * k) := ww_read 7 k (Nat.ble_eq.mpr h) (lim_lt (show 69 + 2 * k < 76 by omega))
theorem ws_7 {f : Nat → Nat → Int32} {b k : Nat} {r : Nat → Int32} {x : Int32} (h : k < 4) : up2 (ww f b r) (b + 7) k x = ww f b (upr r (69 + 2 * k) x) := ww_write 7 k x (Nat.ble_eq.mpr h) (lim_lt (show 69 + 2 * k < 76 by omega)) (show ¬ 69 + 2 * k = 5 by omega)
theorem WB.r8 {h : PH} {b : Nat} (w : WB h b) : hR h b 8 = some (b + 8) := (w.2.2 8 (by decide) (by decide)).1
theorem WB.t8 {h : PH} {b : Nat} (w : WB h b) : hT h (b + 8) = 100 := (w.2.2 8 (by decide) (by decide)).2.1
theorem WB.l8 {h : PH} {b : Nat} (w : WB h b) : hL h (b + 8) = 6 := (w.2.2 8 (by decide) (by decide)).2.2
theorem ww_8 {f : Nat → Nat → Int32} {b k : Nat} {r : Nat → Int32} (h : k < nb r) (h6 : k < 6) : ww f b r (b + 8) k = r (76 + 10 * k) := ww_read 8 k (Nat.ble_eq.mpr h6) (show 76 + 10 * k < lim r by have := lim_b (k := 0) h h6 (by decide); omega)
theorem ws_8 {f : Nat → Nat → Int32} {b k : Nat} {r : Nat → Int32} {x : Int32} (h : k < nb r) (h6 : k < 6) : up2 (ww f b r) (b + 8) k x = ww f b (upr r (76 + 10 * k) x) := ww_write 8 k x (Nat.ble_eq.mpr h6) (show 76 + 10 * k < lim r by have := lim_b (k := 0) h h6 (by decide); omega) (show ¬ 76 + 10 * k = 5 by omega)
theorem WB.r9 {h : PH} {b : Nat} (w : WB h b) : hR h b 9 = some (b + 9) := (w.2.2 9 (by decide) (by decide)).1
theorem WB.t9 {h : PH} {b : Nat} (w : WB h b) : hT h (b + 9) = 100 := (w.2.2 9 (by decide) (by decide)).2.1
theorem WB.l9 {h : PH} {b : Nat} (w : WB h b) : hL h (b + 9) = 6 := (w.2.2 9 (by decide) (by decide)).2.2
theorem ww_9 {f : Nat → Nat → Int32} {b k : Nat} {r : Nat → Int32} (h : k < nb r) (h6 : k < 6) : ww f b r (b + 9) k = r (77 + 10 * k) := ww_read 9 k (Nat.ble_eq.mpr h6) (show 77 + 10 * k < lim r by have := lim_b (k := 1) h h6 (by decide); omega)
theorem ws_9 {f : Nat → Nat → Int32} {b k : Nat} {r : Nat → Int32} {x : Int32} (h : k < nb r) (h6 : k < 6) : up2 (ww f b r) (b + 9) k x = ww f b (upr r (77 + 10 * k) x) := ww_write 9 k x (Nat.ble_eq.mpr h6) (show 77 + 10 * k < lim r by have := lim_b (k := 1) h h6 (by decide); omega) (show ¬ 77 + 10 * k = 5 by omega)
theorem WB.r10 {h : PH} {b : Nat} (w : WB h b) : hR h b 10 = some (b + 10) := (w.2.2 10 (by decide) (by decide)).1
theorem WB.t10 {h : PH} {b : Nat} (w : WB h b) : hT h (b + 10) = 100 := (w.2.2 10 (by decide) (by decide)).2.1
theorem WB.l10 {h : PH} {b : Nat} (w : WB h b) : hL h (b + 10) = 6 := (w.2.2 10 (by decide) (by decide)).2.2
theorem ww_10 {f : Nat → Nat → Int32} {b k : Nat} {r : Nat → Int32} (h : k < nb r) (h6 : k < 6) : ww f b r (b + 10) k = r (78 + 10 * k) := ww_read 10 k (Nat.ble_eq.mpr h6) (show 78 + 10 * k < lim r by have := lim_b (k := 2) h h6 (by decide); omega)
theorem ws_10 {f : Nat → Nat → Int32} {b k : Nat} {r : Nat → Int32} {x : Int32} (h : k < nb r) (h6 : k < 6) : up2 (ww f b r) (b + 10) k x = ww f b (upr r (78 + 10 * k) x) := ww_write 10 k x (Nat.ble_eq.mpr h6) (show 78 + 10 * k < lim r by have := lim_b (k := 2) h h6 (by decide); omega) (show ¬ 78 + 10 * k = 5 by omega)
theorem WB.r11 {h : PH} {b : Nat} (w : WB h b) : hR h b 11 = some (b + 11) := (w.2.2 11 (by decide) (by decide)).1
theorem WB.t11 {h : PH} {b : Nat} (w : WB h b) : hT h (b + 11) = 100 := (w.2.2 11 (by decide) (by decide)).2.1
theorem WB.l11 {h : PH} {b : Nat} (w : WB h b) : hL h (b + 11) = 6 := (w.2.2 11 (by decide) (by decide)).2.2
theorem ww_11 {f : Nat → Nat → Int32} {b k : Nat} {r : Nat → Int32} (h : k < nb r) (h6 : k < 6) : ww f b r (b + 11) k = r (79 + 10 * k) := ww_read 11 k (Nat.ble_eq.mpr h6) (show 79 + 10 * k < lim r by have := lim_b (k := 3) h h6 (by decide); omega)
theorem ws_11 {f : Nat → Nat → Int32} {b k : Nat} {r : Nat → Int32} {x : Int32} (h : k < nb r) (h6 : k < 6) : up2 (ww f b r) (b + 11) k x = ww f b (upr r (79 + 10 * k) x) := ww_write 11 k x (Nat.ble_eq.mpr h6) (show 79 + 10 * k < lim r by have := lim_b (k := 3) h h6 (by decide); omega) (show ¬ 79 + 10 * k = 5 by omega)
theorem WB.r12 {h : PH} {b : Nat} (w : WB h b) : hR h b 12 = some (b + 12) := (w.2.2 12 (by decide) (by decide)).1
theorem WB.t12 {h : PH} {b : Nat} (w : WB h b) : hT h (b + 12) = 100 := (w.2.2 12 (by decide) (by decide)).2.1
theorem WB.l12 {h : PH} {b : Nat} (w : WB h b) : hL h (b + 12) = 6 := (w.2.2 12 (by decide) (by decide)).2.2
theorem ww_12 {f : Nat → Nat → Int32} {b k : Nat} {r : Nat → Int32} (h : k < nb r) (h6 : k < 6) : ww f b r (b + 12) k = r (80 + 10 * k) := ww_read 12 k (Nat.ble_eq.mpr h6) (show 80 + 10 * k < lim r by have := lim_b (k := 4) h h6 (by decide); omega)
theorem ws_12 {f : Nat → Nat → Int32} {b k : Nat} {r : Nat → Int32} {x : Int32} (h : k < nb r) (h6 : k < 6) : up2 (ww f b r) (b + 12) k x = ww f b (upr r (80 + 10 * k) x) := ww_write 12 k x (Nat.ble_eq.mpr h6) (show 80 + 10 * k < lim r by have := lim_b (k := 4) h h6 (by decide); omega) (show ¬ 80 + 10 * k = 5 by omega)
theorem WB.r13 {h : PH} {b : Nat} (w : WB h b) : hR h b 13 = some (b + 13) := (w.2.2 13 (by decide) (by decide)).1
theorem WB.t13 {h : PH} {b : Nat} (w : WB h b) : hT h (b + 13) = 100 := (w.2.2 13 (by decide) (by decide)).2.1
theorem WB.l13 {h : PH} {b : Nat} (w : WB h b) : hL h (b + 13) = 30 := (w.2.2 13 (by decide) (by decide)).2.2
theorem ww_13 {f : Nat → Nat → Int32} {b k : Nat} {r : Nat → Int32} (h : k / 5 < nb r) (h6 : k < 30) : ww f b r (b + 13) k = r (81 + 10 * (k / 5) + k % 5) := ww_read 13 k (Nat.ble_eq.mpr h6) (show 81 + 10 * (k / 5) + k % 5 < lim r by have := lim_b (k := 5 + k % 5) h (by omega) (by omega); omega)
theorem ws_13 {f : Nat → Nat → Int32} {b k : Nat} {r : Nat → Int32} {x : Int32} (h : k / 5 < nb r) (h6 : k < 30) : up2 (ww f b r) (b + 13) k x = ww f b (upr r (81 + 10 * (k / 5) + k % 5) x) := ww_write 13 k x (Nat.ble_eq.mpr h6) (show 81 + 10 * (k / 5) + k % 5 < lim r by have := lim_b (k := 5 + k % 5) h (by omega) (by omega); omega) (show ¬ 81 + 10 * (k / 5) + k % 5 = 5 by omega)
theorem ww_0_14 {f : Nat → Nat → Int32} {b : Nat} {r : Nat → Int32} : ww f b r b 14 = r 5 := ww_read (b := b) 0 14 rfl (lim_lt (show 5 < 76 by decide))
theorem ww_0_15 {f : Nat → Nat → Int32} {b : Nat} {r : Nat → Int32} : ww f b r b 15 = r 3 := ww_read (b := b) 0 15 rfl (lim_lt (show 3 < 76 by decide))
theorem ws_0_15 {f : Nat → Nat → Int32} {b : Nat} {r : Nat → Int32} {x : Int32} : up2 (ww f b r) b 15 x = ww f b (upr r 3 x) := ww_write (b := b) 0 15 x rfl (lim_lt (show 3 < 76 by decide)) (show ¬ 3 = 5 by decide)
theorem ww_0_16 {f : Nat → Nat → Int32} {b : Nat} {r : Nat → Int32} : ww f b r b 16 = r 4 := ww_read (b := b) 0 16 rfl (lim_lt (show 4 < 76 by decide))
theorem ws_0_16 {f : Nat → Nat → Int32} {b : Nat} {r : Nat → Int32} {x : Int32} : up2 (ww f b r) b 16 x = ww f b (upr r 4 x) := ww_write (b := b) 0 16 x rfl (lim_lt (show 4 < 76 by decide)) (show ¬ 4 = 5 by decide)
theorem ww_0_17 {f : Nat → Nat → Int32} {b : Nat} {r : Nat → Int32} : ww f b r b 17 = r 6 := ww_read (b := b) 0 17 rfl (lim_lt (show 6 < 76 by decide))
theorem ws_0_17 {f : Nat → Nat → Int32} {b : Nat} {r : Nat → Int32} {x : Int32} : up2 (ww f b r) b 17 x = ww f b (upr r 6 x) := ww_write (b := b) 0 17 x rfl (lim_lt (show 6 < 76 by decide)) (show ¬ 6 = 5 by decide)
theorem ww_s {f : Nat → Nat → Int32} {b s k : Nat} {r : Nat → Int32} (hs : s < 8) (hk : k < 5) : ww f b r (b + 3) (s * 5 + k) = r (12 + 7 * s + k) := by
  rw [ww_3 (by omega), show (s * 5 + k) / 5 = s by omega, show (s * 5 + k) % 5 = k by omega]
theorem ws_s {f : Nat → Nat → Int32} {b s k : Nat} {r : Nat → Int32} {x : Int32} (hs : s < 8) (hk : k < 5) : up2 (ww f b r) (b + 3) (s * 5 + k) x = ww f b (upr r (12 + 7 * s + k) x) := by
  rw [ws_3 (by omega), show (s * 5 + k) / 5 = s by omega, show (s * 5 + k) % 5 = k by omega]
theorem ww_h {f : Nat → Nat → Int32} {b s k : Nat} {r : Nat → Int32} (hs : s < nb r) (h6 : s < 6) (hk : k < 5) : ww f b r (b + 13) (s * 5 + k) = r (81 + 10 * s + k) := by
  rw [ww_13 (by rw [show (s * 5 + k) / 5 = s by omega]; exact hs) (by omega), show (s * 5 + k) / 5 = s by omega, show (s * 5 + k) % 5 = k by omega]
theorem ws_h {f : Nat → Nat → Int32} {b s k : Nat} {r : Nat → Int32} {x : Int32} (hs : s < nb r) (h6 : s < 6) (hk : k < 5) : up2 (ww f b r) (b + 13) (s * 5 + k) x = ww f b (upr r (81 + 10 * s + k) x) := by
  rw [ws_13 (by rw [show (s * 5 + k) / 5 = s by omega]; exact hs) (by omega), show (s * 5 + k) / 5 = s by omega, show (s * 5 + k) % 5 = k by omega]
end
