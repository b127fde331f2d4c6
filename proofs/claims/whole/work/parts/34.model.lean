section
/-! the reference's rows: cell c (row 234, fresh 235, kept 236, tried 237) is r -/
def mw (f : Nat → Nat → Int32) (c : Nat) (r : Nat → Int32) : Nat → Nat → Int32 := fun a k => if a = c ∧ k < lim r then r k else f a k
def rm (f : Nat → Nat → Int32) (c : Nat) : Nat → Int32 := fun q => if q < min 136 (76 + 10 * (f c 5).toNatClampNeg) then f c q else 0
theorem rm_5 (f : Nat → Nat → Int32) (c : Nat) : rm f c 5 = f c 5 := by
  unfold rm
  rw [if_pos (by omega)]
theorem lim_rm (f : Nat → Nat → Int32) (c : Nat) : lim (rm f c) = min 136 (76 + 10 * (f c 5).toNatClampNeg) := by
  unfold lim nb
  rw [rm_5]
theorem Z_rm (f : Nat → Nat → Int32) (c : Nat) : Z (rm f c) := fun q hq => by
  rw [lim_rm] at hq
  exact if_neg (by omega)
theorem mw_rm (f : Nat → Nat → Int32) (c : Nat) : mw f c (rm f c) = f := by
  funext a k
  unfold mw
  by_cases h : a = c ∧ k < lim (rm f c)
  · rw [if_pos h]
    have h2 := h.2
    rw [lim_rm] at h2
    unfold rm
    rw [if_pos h2, h.1]
  · rw [if_neg h]
theorem mw_read {f : Nat → Nat → Int32} {c k : Nat} {r : Nat → Int32} (h : k < lim r) : mw f c r c k = r k := by
  unfold mw
  rw [if_pos ⟨rfl, h⟩]
theorem rm_mw {f : Nat → Nat → Int32} {c : Nat} {r : Nat → Int32} (hz : Z r) : rm (mw f c r) c = r := by
  funext q
  unfold rm
  rw [mw_read (lim_lt (show 5 < 76 by decide))]
  show (if q < lim r then _ else _) = _
  by_cases h : q < lim r
  · rw [if_pos h, mw_read h]
  · rw [if_neg h]
    exact (hz q (by omega)).symm
theorem mw_mw (f : Nat → Nat → Int32) (c : Nat) {r r' : Nat → Int32} (hl : lim r ≤ lim r') : mw (mw f c r) c r' = mw f c r' := by
  funext a k
  unfold mw
  by_cases h : a = c ∧ k < lim r'
  · rw [if_pos h, if_pos h]
  · rw [if_neg h, if_neg h, if_neg (fun z => h ⟨z.1, Nat.lt_of_lt_of_le z.2 hl⟩)]
theorem mw_out {f : Nat → Nat → Int32} {c a k : Nat} {r : Nat → Int32} (h : ¬ a = c) : mw f c r a k = f a k := by
  unfold mw
  rw [if_neg (fun z => h z.1)]
theorem mw_write {f : Nat → Nat → Int32} {c k : Nat} {r : Nat → Int32} {x : Int32} (h : k < lim r) (h5 : ¬ k = 5) : up2 (mw f c r) c k x = mw f c (upr r k x) := by
  have hlu : lim (upr r k x) = lim r := lim_upr h5
  funext a j
  unfold up2 mw
  rw [hlu]
  unfold upr
  by_cases h1 : a = c ∧ j = k
  · obtain ⟨rfl, rfl⟩ := h1
    rw [if_pos ⟨rfl, rfl⟩, if_pos ⟨rfl, h⟩, if_pos rfl]
  · rw [if_neg h1]
    by_cases h2 : a = c ∧ j < lim r
    · rw [if_pos h2, if_pos h2, if_neg (fun z => h1 ⟨h2.1, z⟩)]
    · rw [if_neg h2, if_neg h2]
theorem mw_r {f : Nat → Nat → Int32} {c k : Nat} {r : Nat → Int32} (h : k < 76) : mw f c r c k = r k := mw_read (lim_lt h)
theorem mw_w {f : Nat → Nat → Int32} {c k : Nat} {r : Nat → Int32} {x : Int32} (h : k < 76) (h5 : ¬ k = 5) : up2 (mw f c r) c k x = mw f c (upr r k x) := mw_write (lim_lt h) h5
theorem lt31 {n m : Nat} (h : n < m) (hm : Nat.ble m 2147483648 = true) : n < 2 ^ 31 := Nat.lt_of_lt_of_le h (Nat.ble_eq.mp hm)
theorem r_in (d : Nat) (v a b : Int32) (h : PH) : Run d 611 [.int v, .int a, .int b] h (fun r g => r = some (.int (if a ≤ v ∧ v ≤ b then 1 else 0)) ∧ g = h) := by
  have fin : ∀ x : Int32, (x = 0 ∨ x = 1) → x = (if a ≤ v ∧ v ≤ b then 1 else 0) → WP d 611 2 [.int v, .int a, .int b] [.int x] h (fun r g => r = some (.int (if a ≤ v ∧ v ≤ b then 1 else 0)) ∧ g = h) := by
    intro x h01 hx
    refine WP.blk c_611_2 2 rfl rfl rfl ?_
    simp only [c_611_2, wpL, wpI]
    exact ⟨Or.inr ⟨trivial, h01⟩, by rw [hx], trivial⟩
  have no : ¬ (a ≤ v ∧ v ≤ b) → WP d 611 1 [.int v, .int a, .int b] [] h (fun r g => r = some (.int (if a ≤ v ∧ v ≤ b then 1 else 0)) ∧ g = h) := by
    intro hq
    refine WP.blk c_611_1 2 rfl rfl rfl ?_
    simp only [c_611_1, wpL, wpI, wJump, Int.reduceToNat]
    exact fin _ (Or.inl rfl) (by rw [if_neg hq]; rfl)
  refine Run.blk c_611_0 2 3 rfl rfl rfl rfl rfl ?_
  simp only [c_611_0, wpL, wpI, nth, lay, pad, wJump, Int.reduceToNat]
  split
  · rename_i h1
    exact no (fun z => absurd z.1 (Int32.not_le.mpr h1))
  · rename_i h1
    split
    · rename_i h2
      exact no (fun z => absurd z.2 (Int32.not_le.mpr h2))
    · rename_i h2
      exact fin _ (Or.inr rfl) (by rw [if_pos ⟨Int32.not_lt.mp h1, Int32.not_lt.mp h2⟩]; rfl)
theorem r_at (d : Nat) {s k : Nat} (h : PH) (f : Nat → Nat → Int32) (r : Nat → Int32) (w : FR h) (hb : 7 * s + k < 56) : Run d 834 [.ref 233, .int (nI s), .int (nI k)] (wI h (mw f 234 r)) (fun x g => x = some (.int (r (12 + 7 * s + k))) ∧ g = wI h (mw f 234 r)) := by
  have e1 : 12 + 7 * s + k < 136 := by omega
  have e0 : 12 + 7 * s + k < 76 := by omega
  refine Run.blk c_834_0 1 3 rfl rfl rfl rfl rfl ?_
  simp only [c_834_0, wpL, wpI, nth, lay, pad, wJump, Nat.reduceDiv, Nat.reduceMod, rfP, hT_wI, hL_wI, hR_wI, hI_wI, w.t233, w.r233_0, w.t234, w.l234, isIA, BEq.rfl, Bool.true_or, true_and, and_true, nI_mul, nI_add, inb_of e1 (by decide), nI_clamp (lt31 e1 (by decide)), mw_r e0, true_or]
theorem r_setsAt (d : Nat) {s k : Nat} {v : Int32} (h : PH) (f : Nat → Nat → Int32) (r : Nat → Int32) (w : FR h) (hb : 7 * s + k < 56) : Run d 1019 [.ref 233, .int (nI s), .int (nI k), .int v] (wI h (mw f 234 r)) (fun x g => x = none ∧ g = wI h (mw f 234 (upr r (12 + 7 * s + k) v))) := by
  have e1 : 12 + 7 * s + k < 136 := by omega
  have e0 : 12 + 7 * s + k < 76 := by omega
  refine Run.blk c_1019_0 0 4 rfl rfl rfl rfl rfl ?_
  simp only [c_1019_0, wpL, wpI, nth, lay, pad, wJump, Nat.reduceDiv, Nat.reduceMod, rfP, hT_wI, hL_wI, hR_wI, hI_wI, w.t233, w.r233_0, w.t234, w.l234, true_and, and_true, nI_mul, nI_add, inb_of e1 (by decide), nI_clamp (lt31 e1 (by decide)), sI_wI, mw_w e0 (by omega)]
end
