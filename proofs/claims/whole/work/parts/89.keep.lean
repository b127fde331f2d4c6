section
/-! what a run never changes: kinds and lengths of cells, the rows of others, texts; and what kind of thing it answers -/
def Kp (h h' : PH) : Prop := hN h ≤ hN h' ∧ ∀ a, a < hN h → hT h' a = hT h a ∧ hL h' a = hL h a ∧ ((hT h a = 120 ∨ hT h a = 130) → ∀ k, hI h' a k = hI h a k)
theorem Kp.refl (h : PH) : Kp h h := ⟨Nat.le_refl _, fun _ _ => ⟨rfl, rfl, fun _ _ => rfl⟩⟩
theorem Kp.trans {h g k : PH} (h1 : Kp h g) (h2 : Kp g k) : Kp h k := ⟨Nat.le_trans h1.1 h2.1, fun a ha => by
  obtain ⟨a1, a2, a3⟩ := h1.2 a ha
  obtain ⟨b1, b2, b3⟩ := h2.2 a (Nat.lt_of_lt_of_le ha h1.1)
  exact ⟨b1.trans a1, b2.trans a2, fun z j => (b3 (by rw [a1]; exact z) j).trans (a3 z j)⟩⟩
theorem Kp.wI0 {h : PH} {a k : Nat} {x : Int32} (hn : ¬ hT h a = 120) (hn2 : ¬ hT h a = 130) : Kp h (sI h a k x) := ⟨Nat.le_refl _, fun b _ => ⟨rfl, rfl, fun z j => up2_ne _ _ (fun e => by rw [e] at z; exact z.elim hn hn2)⟩⟩
theorem Kp.f {h : PH} {a k n m : Nat} {x : Int32} (ht : hT h a = n / m % 16) : Kp h (sI h a k x) := Kp.wI0 (by omega) (by omega)
theorem Kp.i {h : PH} {a k : Nat} {x : Int32} (ht : hT h a = 100) : Kp h (sI h a k x) := Kp.wI0 (by omega) (by omega)
theorem Kp.b {h : PH} {a k : Nat} {x : Int32} (ht : hT h a = 101) : Kp h (sI h a k x) := Kp.wI0 (by omega) (by omega)
theorem Kp.wJ0 {h : PH} {a k : Nat} {x : Int64} : Kp h (sJ h a k x) := ⟨Nat.le_refl _, fun _ _ => ⟨rfl, rfl, fun _ _ => rfl⟩⟩
theorem Kp.wR0 {h : PH} {a k : Nat} {x : Option Nat} : Kp h (sR h a k x) := ⟨Nat.le_refl _, fun _ _ => ⟨rfl, rfl, fun _ _ => rfl⟩⟩
theorem Kp.cp {h : PH} {s p d q n : Nat} (ht : hT h d = 100) : Kp h (cpI h s p d q n) := ⟨Nat.le_refl _, fun b _ => ⟨rfl, rfl, fun z j => if_neg (fun e => by rw [e.1, ht] at z; omega)⟩⟩
theorem Kp.wC0 {h : PH} {t n : Nat} : Kp h (nC h t n) := ⟨Nat.le_succ _, fun b hb => by
  have hne : ¬ b = hN h := by omega
  exact ⟨hT_nCn hne, hL_nCn hne, fun _ j => if_neg hne⟩⟩
def RK (rk : Nat) (r : Option Value) : Prop := (rk = 1 → ∃ v, r = some (.int v)) ∧ (rk = 3 → ∃ v, r = some (.long v))
set_option maxHeartbeats 8000000 in
theorem wpI_keep {call : Nat → List Value → PH → (Option Value → PH → Prop) → Prop} {jump : Nat → List Value → List Value → PH → Prop} {fin : Option Value → PH → Prop} {rk : Nat} {K : List Value → List Value → PH → Prop}
    (i : Instr) (ls st : List Value) (h : PH) : wpI call jump fin rk i K ls st h →
    (∃ ls' st' h', K ls' st' h' ∧ Kp h h') ∨ (∃ b st', jump b ls st' h) ∨ (∃ m a st', call m a h (fun r h1 => K ls (r.toList ++ st') h1)) ∨ (∃ r, fin r h ∧ RK rk r) := by
  unfold wpI
  repeat' split
  all_goals intro H
  all_goals first
    | exact H.elim
    | exact Or.inl ⟨_, _, _, H, Kp.refl _⟩
    | exact Or.inl ⟨_, _, _, H.2, Kp.refl _⟩
    | exact Or.inl ⟨_, _, _, H.2.2, Kp.refl _⟩
    | exact Or.inl ⟨_, _, _, H.2.2.2, Kp.refl _⟩
    | exact Or.inl ⟨_, _, _, H.2.2, Kp.f H.1⟩
    | exact Or.inl ⟨_, _, _, H.2.2, Kp.i H.1⟩
    | exact Or.inl ⟨_, _, _, H.2.2.2, Kp.b H.1⟩
    | exact Or.inl ⟨_, _, _, H.2.2, Kp.wJ0⟩
    | exact Or.inl ⟨_, _, _, H.2.2, Kp.wR0⟩
    | exact Or.inl ⟨_, _, _, H.2.2.2, Kp.wR0⟩
    | exact Or.inl ⟨_, _, _, H.2.2.2.2, Kp.refl _⟩
    | exact Or.inl ⟨_, _, _, H.2.2.2.2.2.2.2.2, Kp.cp H.2.1⟩
    | exact Or.inl ⟨_, _, _, H.2.2, Kp.wC0⟩
    | exact Or.inl ⟨_, _, _, H.2.2.2, Kp.wC0⟩
    | exact Or.inl ⟨_, _, _, H.2.2.2.2, Kp.wC0⟩
    | exact Or.inr (Or.inl ⟨_, _, H⟩)
    | exact Or.inr (Or.inr (Or.inl ⟨_, _, _, H.2.2⟩))
    | exact Or.inr (Or.inr (Or.inr ⟨_, H.2, fun _ => ⟨_, rfl⟩, fun e => by have := H.1; omega⟩))
    | exact Or.inr (Or.inr (Or.inr ⟨_, H.2, fun e => by have := H.1; omega, fun _ => ⟨_, rfl⟩⟩))
    | exact Or.inr (Or.inr (Or.inr ⟨_, H.2, fun e => by have := H.1; omega, fun e => by have := H.1; omega⟩))
    | skip
theorem wpL_keep {call : Nat → List Value → PH → (Option Value → PH → Prop) → Prop} {jump : Nat → List Value → List Value → PH → Prop} {fin : Option Value → PH → Prop} {rk : Nat} {hf : PH} {X : Prop}
    (hc : ∀ m a g J, call m a g J → ∃ r g1, Kp g g1 ∧ J r g1) (hj : ∀ b ls st h, jump b ls st h → Kp h hf ∧ X) (hfn : ∀ r h, fin r h → RK rk r → Kp h hf ∧ X) : ∀ (is : List Instr) (ls st : List Value) (h : PH), wpL call jump fin rk is ls st h → Kp h hf ∧ X
  | [], _, _, _, H => False.elim H
  | i :: is, ls, st, h, H => by
    rcases wpI_keep i ls st h H with ⟨ls', st', h', h1, h2⟩ | ⟨b, st', h1⟩ | ⟨m, a, st', h1⟩ | ⟨r, h1, h2⟩
    · have := wpL_keep hc hj hfn is _ _ _ h1
      exact ⟨h2.trans this.1, this.2⟩
    · exact hj _ _ _ _ h1
    · obtain ⟨r, g1, h2, h4⟩ := hc _ _ _ _ h1
      have := wpL_keep hc hj hfn is _ _ _ h4
      exact ⟨h2.trans this.1, this.2⟩
    · exact hfn _ _ h1 h2
theorem Ex_keep : ∀ (n d m b : Nat) (ls st : List Value) (h : PH) (r : Option Value) (h' : PH), Ex n d m b ls st h r h' → Kp h h' ∧ RK (prk m) r
  | 0, _, _, _, _, _, _, _, _, H => False.elim H
  | n + 1, d, m, b, ls, st, h, r, h', H => by
    unfold Ex at H
    refine wpL_keep ?_ ?_ ?_ _ _ _ _ H.2
    · rintro m' a g J ⟨d', e, hl, r1, g1, h1, h2⟩
      exact ⟨r1, g1, (Ex_keep n _ _ _ _ _ _ _ _ h1).1, h2⟩
    · intro b' ls' st' g q
      exact Ex_keep n _ _ _ _ _ _ _ _ q
    · rintro r' g ⟨rfl, rfl⟩ hr
      exact ⟨Kp.refl _, hr⟩
/-- of a run that is known -/
theorem Run.keep {d m : Nat} {a : List Value} {h h1 : PH} {r : Option Value} (H : ∀ Q : Option Value → PH → Prop, Run d m a h Q = Q r h1) : Kp h h1 ∧ RK (prk m) r := by
  have e : Run d m a h (fun x g => x = r ∧ g = h1) := by
    rw [H]
    exact ⟨rfl, rfl⟩
  obtain ⟨-, n, x, g, hx, rfl, rfl⟩ := e
  exact Ex_keep _ _ _ _ _ _ _ _ _ hx
end
