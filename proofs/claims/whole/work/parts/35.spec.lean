section
/-! what the calls do to a row, said once for both sides -/
def inR (x : Int32) (n : Nat) : Prop := ∃ m : Nat, m ≤ n ∧ x = nI m
def cl99 (x : Int32) : Int32 := if x < 0 then 0 else if nI 99 < x then nI 99 else x
theorem cl99_nI {m : Nat} (h : m < 2 ^ 31) : cl99 (nI m) = nI (min 99 m) := by
  unfold cl99
  rw [if_neg (nI_pos h)]
  by_cases h1 : 99 < m
  · rw [if_pos (nI_lt h1 h), Nat.min_eq_left (by omega)]
  · rw [if_neg (nI_nlt (by omega) (by decide)), Nat.min_eq_right (by omega)]
theorem inR_cl {x : Int32} (h : ∃ m : Nat, m < 2 ^ 31 ∧ x = nI m) : inR (cl99 x) 99 := by
  obtain ⟨m, h1, rfl⟩ := h
  exact ⟨min 99 m, Nat.min_le_left _ _, cl99_nI h1⟩
/-- the place of stock number n (8 streets of 5 sorts) -/
def pq (n : Nat) : Nat := 12 + 7 * (n / 5) + n % 5
theorem pq_lt {n : Nat} (h : n < 40) : pq n < 136 := by unfold pq; omega
theorem pq_inj {a b : Nat} (h : pq a = pq b) : a = b := by unfold pq at h; omega
def rem5 (x : Int32) : Int32 := x - x / nI 5 * nI 5
def grow (r : Nat → Int32) (n : Nat) : Int32 := r (pq n) + r (pq n) / r 1 + (if rem5 (r 3) = nI (n % 5) then r (17 + 7 * (n / 5)) else 0)
def bell1 (r : Nat → Int32) : Nat → Nat → Int32
  | 0 => r
  | n + 1 => upr (bell1 r n) (pq n) (cl99 (grow (bell1 r n) n))
/-- what of flying goes on from street s -/
def goes (r : Nat → Int32) (s : Nat) : Int32 := r (12 + 7 * s) / r 2
def bell2 (r : Nat → Int32) : Nat → Nat → Int32
  | 0 => r
  | s + 1 => upr (bell2 r s) (12 + 7 * s) (cl99 (r (12 + 7 * s) - goes r s + goes r ((s + 7) % 8)))
/-- a BELL goes -/
def bell (r : Nat → Int32) : Nat → Int32 := upr (bell2 (bell1 r 40) 8) 3 (r 3 + nI 1)
/-- the ranges that a row keeps: stocks, sleepers, laws -/
def Vs (r : Nat → Int32) : Prop := (∀ n, n < 40 → inR (r (pq n)) 99) ∧ (∀ s, s < 8 → inR (r (17 + 7 * s)) 9) ∧ (∃ m : Nat, 1 ≤ m ∧ m ≤ 20 ∧ r 1 = nI m) ∧ (∃ m : Nat, 1 ≤ m ∧ m ≤ 20 ∧ r 2 = nI m)
theorem upr_same (r : Nat → Int32) (q : Nat) (x : Int32) : upr r q x q = x := if_pos rfl
theorem upr_ne (r : Nat → Int32) {q j : Nat} (x : Int32) (h : ¬ j = q) : upr r q x j = r j := if_neg h
theorem pq_mod {n : Nat} (h : n < 40) : (pq n - 12) % 7 < 5 ∧ 12 ≤ pq n ∧ pq n < 68 := by unfold pq; omega
theorem Vs.put {r : Nat → Int32} (h : Vs r) {n : Nat} (hn : n < 40) {x : Int32} (hx : inR x 99) : Vs (upr r (pq n) x) := by
  obtain ⟨h1, h2, h3, h4⟩ := h
  obtain ⟨p1, p2, p3⟩ := pq_mod hn
  refine ⟨fun j hj => ?_, fun s hs => ?_, ?_, ?_⟩
  · by_cases e : j = n
    · subst e; rw [upr_same]; exact hx
    · rw [upr_ne _ _ (fun z => e (pq_inj z))]; exact h1 j hj
  · rw [upr_ne _ _ (by omega)]; exact h2 s hs
  · rw [upr_ne _ _ (by omega)]; exact h3
  · rw [upr_ne _ _ (by omega)]; exact h4
theorem Vs_grow {r : Nat → Int32} (h : Vs r) {n : Nat} (hn : n < 40) : ∃ m : Nat, m < 2 ^ 31 ∧ grow r n = nI m := by
  obtain ⟨h1, h2, ⟨b, b1, b2, hb⟩, -⟩ := h
  obtain ⟨a, ha, ea⟩ := h1 n hn
  obtain ⟨c, hc, ec⟩ := h2 (n / 5) (by omega)
  have hab : a / b ≤ a := Nat.div_le_self a b
  unfold grow
  rw [ea, hb, ec, pk_div (by omega) (by omega) (by omega), nI_add]
  split
  · exact ⟨_, by omega, nI_add _ _⟩
  · exact ⟨a + a / b, by omega, by rw [zI, nI_add]; rfl⟩
theorem Vs_bell1 {r : Nat → Int32} (h : Vs r) : ∀ n, n ≤ 40 → Vs (bell1 r n)
  | 0, _ => h
  | n + 1, hn => (Vs_bell1 h n (by omega)).put (by omega) (inR_cl (Vs_grow (Vs_bell1 h n (by omega)) (by omega)))
end
