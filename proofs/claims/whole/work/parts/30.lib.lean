section
/-! PURE: numbers, and the heap of the second machine as ints over a fixed frame -/
theorem nI_mul (a b : Nat) : nI a * nI b = nI (a * b) := (Int32.ofNat_mul a b).symm
theorem nI_sub {a b : Nat} (h : b ≤ a) : nI a - nI b = nI (a - b) := by
  have := nI_add (a - b) b
  rw [Nat.sub_add_cancel h] at this
  rw [← this, Int32.add_sub_cancel]
theorem inb_nI {a n : Nat} (ha : a < 2 ^ 31) : inb (nI a) n ↔ a < n := by
  unfold inb
  rw [nI_clamp ha]
  exact ⟨fun h => h.2, fun h => ⟨nI_pos' ha, h⟩⟩
theorem inb_of {a n : Nat} (h : a < n) (hn : n < 2 ^ 31) : inb (nI a) n := (inb_nI (by omega)).mpr h
theorem oI_1 : Int32.ofInt 1 = nI 1 := rfl
theorem zI : (0 : Int32) = nI 0 := rfl
/-- ints over a frame -/
def wI (h : PH) (f : Nat → Nat → Int32) : PH := (h.1, h.2.1, f, h.2.2.2.1, h.2.2.2.2)
theorem hT_wI (h : PH) (f : Nat → Nat → Int32) (a : Nat) : hT (wI h f) a = hT h a := rfl
theorem hL_wI (h : PH) (f : Nat → Nat → Int32) (a : Nat) : hL (wI h f) a = hL h a := rfl
theorem hR_wI (h : PH) (f : Nat → Nat → Int32) (a k : Nat) : hR (wI h f) a k = hR h a k := rfl
theorem hJ_wI (h : PH) (f : Nat → Nat → Int32) (a k : Nat) : hJ (wI h f) a k = hJ h a k := rfl
theorem hI_wI (h : PH) (f : Nat → Nat → Int32) (a k : Nat) : hI (wI h f) a k = f a k := rfl
theorem hN_wI (h : PH) (f : Nat → Nat → Int32) : hN (wI h f) = hN h := rfl
theorem hU_wI (h : PH) (f : Nat → Nat → Int32) : hU (wI h f) = hU h := rfl
theorem sI_wI (h : PH) (f : Nat → Nat → Int32) (a k : Nat) (x : Int32) : sI (wI h f) a k x = wI h (up2 f a k x) := rfl
theorem wI_wI (h : PH) (f g : Nat → Nat → Int32) : wI (wI h f) g = wI h g := rfl
theorem wI_self (h : PH) : wI h (hI h) = h := rfl
theorem up2_same {α : Type} (f : Nat → Nat → α) (a k : Nat) (x : α) : up2 f a k x a k = x := by simp [up2]
theorem up2_ne {α : Type} (f : Nat → Nat → α) {a k b j : Nat} (x : α) (h : ¬ b = a) : up2 f a k x b j = f b j := by simp [up2, h]
theorem up2_nk {α : Type} (f : Nat → Nat → α) {a k b j : Nat} (x : α) (h : ¬ j = k) : up2 f a k x b j = f b j := by simp [up2, h]
/-- a row changed in one place -/
def upr (r : Nat → Int32) (q : Nat) (x : Int32) : Nat → Int32 := fun j => if j = q then x else r j
theorem WP.blk {d m b : Nat} {ls st : List Value} {h : PH} {Q : Option Value → PH → Prop} (is : List Instr) (rk : Nat) (e0 : Nat.blt b (pnb m) = true) (e1 : pblk m b = is) (e2 : prk m = rk) (H : wpL (wCall d) (wJump d m Q) Q rk is ls st h) : WP d m b ls st h Q := by
  subst e1; subst e2; exact WP.of (Nat.ble_eq.mp e0) H
theorem Run.blk {d m : Nat} {a : List Value} {h : PH} {Q : Option Value → PH → Prop} (is : List Instr) (rk nl : Nat) (e0 : Nat.blt 0 (pnb m) = true) (e1 : pblk m 0 = is) (e2 : prk m = rk) (e3 : pnl m = nl) (e4 : Nat.ble (lay a).length nl = true) (H : wpL (wCall d) (wJump d m Q) Q rk is (pad nl (lay a)) [] h) : Run d m a h Q := by
  subst e1; subst e2; subst e3; exact ⟨Nat.ble_eq.mp e4, WP.of (Nat.ble_eq.mp e0) H⟩
/-- a call, by what is known of the method -/
theorem wCall.of {d m : Nat} {a : List Value} {g : PH} {P : Option Value → PH → Prop} {J : Option Value → PH → Prop} (H : Run d m a g P) (k : ∀ r g1, P r g1 → J r g1) : wCall (d + 1) m a g J := ⟨d, rfl, H.mono k⟩
end
