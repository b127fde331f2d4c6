section
set_option maxHeartbeats 4000000 in
theorem wpI_mono {call call' : Nat → List Value → PH → (Option Value → PH → Prop) → Prop} {jump jump' : Nat → List Value → List Value → PH → Prop} {fin fin' : Option Value → PH → Prop} {rk : Nat} {K K' : List Value → List Value → PH → Prop}
    (hc : ∀ m a h J J', (∀ r g, J r g → J' r g) → call m a h J → call' m a h J') (hj : ∀ b ls st h, jump b ls st h → jump' b ls st h) (hf : ∀ r h, fin r h → fin' r h) (hK : ∀ ls st h, K ls st h → K' ls st h)
    (i : Instr) (ls st : List Value) (h : PH) : wpI call jump fin rk i K ls st h → wpI call' jump' fin' rk i K' ls st h := by
  unfold wpI
  repeat' split
  all_goals first
    | exact hK _ _ _
    | exact hj _ _ _ _
    | exact hf _ _
    | exact False.elim
    | exact And.imp_right (hK _ _ _)
    | exact And.imp_right (hf _ _)
    | exact And.imp_right (And.imp_right (hK _ _ _))
    | exact And.imp_right (And.imp_right (And.imp_right (hK _ _ _)))
    | exact And.imp_right (And.imp_right (And.imp_right (And.imp_right (hK _ _ _))))
    | exact And.imp_right (And.imp_right (And.imp_right (And.imp_right (And.imp_right (And.imp_right (And.imp_right (And.imp_right (hK _ _ _))))))))
    | exact And.imp_right (And.imp_right (hc _ _ _ _ _ fun _ _ => hK _ _ _))
    | exact And.imp_right (hc _ _ _ _ _ fun _ _ => hK _ _ _)
    | skip
set_option maxHeartbeats 8000000 in
/-- what a step does: it goes on, or jumps, or calls, or ends; and whoever can go on, jump, call or end so, can do the step -/
theorem wpI_shape {call : Nat → List Value → PH → (Option Value → PH → Prop) → Prop} {jump : Nat → List Value → List Value → PH → Prop} {fin : Option Value → PH → Prop} {rk : Nat} {K : List Value → List Value → PH → Prop}
    (i : Instr) (ls st : List Value) (h : PH) : wpI call jump fin rk i K ls st h →
    (∃ ls' st' h', K ls' st' h' ∧ ∀ (c : Nat → List Value → PH → (Option Value → PH → Prop) → Prop) (j : Nat → List Value → List Value → PH → Prop) (f : Option Value → PH → Prop) (J : List Value → List Value → PH → Prop), J ls' st' h' → wpI c j f rk i J ls st h)
    ∨ (∃ b st', jump b ls st' h ∧ ∀ (c : Nat → List Value → PH → (Option Value → PH → Prop) → Prop) (j : Nat → List Value → List Value → PH → Prop) (f : Option Value → PH → Prop) (J : List Value → List Value → PH → Prop), j b ls st' h → wpI c j f rk i J ls st h)
    ∨ (∃ m a st', call m a h (fun r h1 => K ls (r.toList ++ st') h1) ∧ ∀ (c : Nat → List Value → PH → (Option Value → PH → Prop) → Prop) (j : Nat → List Value → List Value → PH → Prop) (f : Option Value → PH → Prop) (J : List Value → List Value → PH → Prop), c m a h (fun r h1 => J ls (r.toList ++ st') h1) → wpI c j f rk i J ls st h)
    ∨ (∃ r, fin r h ∧ ∀ (c : Nat → List Value → PH → (Option Value → PH → Prop) → Prop) (j : Nat → List Value → List Value → PH → Prop) (f : Option Value → PH → Prop) (J : List Value → List Value → PH → Prop), f r h → wpI c j f rk i J ls st h) := by
  unfold wpI
  repeat' split
  all_goals intro H
  all_goals first
    | exact H.elim
    | exact Or.inl ⟨_, _, _, H, fun _ _ _ _ g => g⟩
    | exact Or.inl ⟨_, _, _, H.2, fun _ _ _ _ g => ⟨H.1, g⟩⟩
    | exact Or.inl ⟨_, _, _, H.2.2, fun _ _ _ _ g => ⟨H.1, H.2.1, g⟩⟩
    | exact Or.inl ⟨_, _, _, H.2.2.2, fun _ _ _ _ g => ⟨H.1, H.2.1, H.2.2.1, g⟩⟩
    | exact Or.inl ⟨_, _, _, H.2.2.2.2, fun _ _ _ _ g => ⟨H.1, H.2.1, H.2.2.1, H.2.2.2.1, g⟩⟩
    | exact Or.inl ⟨_, _, _, H.2.2.2.2.2.2.2.2, fun _ _ _ _ g => ⟨H.1, H.2.1, H.2.2.1, H.2.2.2.1, H.2.2.2.2.1, H.2.2.2.2.2.1, H.2.2.2.2.2.2.1, H.2.2.2.2.2.2.2.1, g⟩⟩
    | exact Or.inr (Or.inl ⟨_, _, H, fun _ _ _ _ g => g⟩)
    | exact Or.inr (Or.inr (Or.inl ⟨_, _, _, H.2, fun _ _ _ _ g => ⟨H.1, g⟩⟩))
    | exact Or.inr (Or.inr (Or.inl ⟨_, _, _, H.2.2, fun _ _ _ _ g => ⟨H.1, H.2.1, g⟩⟩))
    | exact Or.inr (Or.inr (Or.inr ⟨_, H.2, fun _ _ _ _ g => ⟨H.1, g⟩⟩))
    | skip
def wpL (call : Nat → List Value → PH → (Option Value → PH → Prop) → Prop) (jump : Nat → List Value → List Value → PH → Prop) (fin : Option Value → PH → Prop) (rk : Nat) : List Instr → List Value → List Value → PH → Prop
  | [] => fun _ _ _ => False
  | i :: is => wpI call jump fin rk i (wpL call jump fin rk is)
theorem wpL_mono {call call' : Nat → List Value → PH → (Option Value → PH → Prop) → Prop} {jump jump' : Nat → List Value → List Value → PH → Prop} {fin fin' : Option Value → PH → Prop} {rk : Nat}
    (hc : ∀ m a h J J', (∀ r g, J r g → J' r g) → call m a h J → call' m a h J') (hj : ∀ b ls st h, jump b ls st h → jump' b ls st h) (hf : ∀ r h, fin r h → fin' r h) : ∀ (is : List Instr) (ls st : List Value) (h : PH), wpL call jump fin rk is ls st h → wpL call' jump' fin' rk is ls st h
  | [], _, _, _ => id
  | i :: is, ls, st, h => wpI_mono hc hj hf (wpL_mono hc hj hf is) i ls st h
/-- method m, at block b, with n rounds and d calls open at most, ends with r and h' -/
def Ex : Nat → Nat → Nat → Nat → List Value → List Value → PH → Option Value → PH → Prop
  | 0, _, _, _, _, _, _, _, _ => False
  | n + 1, d, m, b, ls, st, h, r, h' => b < pnb m ∧ wpL (fun m' a g J => ∃ d', d = d' + 1 ∧ (lay a).length ≤ pnl m' ∧ ∃ r1 g1, Ex n d' m' 0 (pad (pnl m') (lay a)) [] g r1 g1 ∧ J r1 g1) (fun b' ls' st' g => Ex n d m b' ls' st' g r h') (fun r' g => r' = r ∧ g = h') (prk m) (pblk m b) ls st h
theorem Ex_mono : ∀ (n d m b : Nat) (ls st : List Value) (h : PH) (r : Option Value) (h' : PH), Ex n d m b ls st h r h' → Ex (n + 1) d m b ls st h r h'
  | 0, _, _, _, _, _, _, _, _, H => False.elim H
  | n + 1, d, m, b, ls, st, h, r, h', H => by
    unfold Ex at H ⊢
    refine ⟨H.1, wpL_mono ?_ ?_ (fun _ _ q => q) _ _ _ _ H.2⟩
    · rintro m' a g J J' hJ ⟨d', e, hl, r1, g1, h1, h2⟩
      exact ⟨d', e, hl, r1, g1, Ex_mono n _ _ _ _ _ _ _ _ h1, hJ _ _ h2⟩
    · intro b' ls' st' g q
      exact Ex_mono n _ _ _ _ _ _ _ _ q
theorem Ex_le {n k d m b : Nat} {ls st : List Value} {h h' : PH} {r : Option Value} (H : Ex n d m b ls st h r h') (hk : n ≤ k) : Ex k d m b ls st h r h' := by
  induction hk with
  | refl => exact H
  | step _ ih => exact Ex_mono _ _ _ _ _ _ _ _ _ ih
/-- one more open call does no harm -/
theorem Ex_deep : ∀ (n d m b : Nat) (ls st : List Value) (h : PH) (r : Option Value) (h' : PH), Ex n d m b ls st h r h' → Ex n (d + 1) m b ls st h r h'
  | 0, _, _, _, _, _, _, _, _, H => False.elim H
  | n + 1, d, m, b, ls, st, h, r, h', H => by
    unfold Ex at H ⊢
    refine ⟨H.1, wpL_mono ?_ ?_ (fun _ _ q => q) _ _ _ _ H.2⟩
    · rintro m' a g J J' hJ ⟨d', e, hl, r1, g1, h1, h2⟩
      exact ⟨d' + 1, by rw [e], hl, r1, g1, Ex_deep n _ _ _ _ _ _ _ _ h1, hJ _ _ h2⟩
    · intro b' ls' st' g q
      exact Ex_deep n _ _ _ _ _ _ _ _ q
/-- from here it ends, with Q -/
def WP (d m b : Nat) (ls st : List Value) (h : PH) (Q : Option Value → PH → Prop) : Prop := ∃ n r h', Ex n d m b ls st h r h' ∧ Q r h'
def Run (d m : Nat) (a : List Value) (h : PH) (Q : Option Value → PH → Prop) : Prop := (lay a).length ≤ pnl m ∧ WP d m 0 (pad (pnl m) (lay a)) [] h Q
theorem WP.mono {d m b : Nat} {ls st : List Value} {h : PH} {Q Q' : Option Value → PH → Prop} (H : WP d m b ls st h Q) (hQ : ∀ r g, Q r g → Q' r g) : WP d m b ls st h Q' := by
  obtain ⟨n, r, h', h1, h2⟩ := H
  exact ⟨n, r, h', h1, hQ _ _ h2⟩
theorem Run.mono {d m : Nat} {a : List Value} {h : PH} {Q Q' : Option Value → PH → Prop} (H : Run d m a h Q) (hQ : ∀ r g, Q r g → Q' r g) : Run d m a h Q' := ⟨H.1, WP.mono H.2 hQ⟩
theorem Run.deep {d m : Nat} {a : List Value} {h : PH} {Q : Option Value → PH → Prop} (k : Nat) (H : Run d m a h Q) : Run (d + k) m a h Q := by
  induction k with
  | zero => exact H
  | succ k ih =>
    obtain ⟨hl, n, r, h', h1, h2⟩ := ih
    exact ⟨hl, n, r, h', Ex_deep _ _ _ _ _ _ _ _ _ h1, h2⟩
/-- the calls and jumps of a walk -/
abbrev wCall (d : Nat) : Nat → List Value → PH → (Option Value → PH → Prop) → Prop := fun m' a g J => ∃ d', d = d' + 1 ∧ Run d' m' a g J
abbrev wJump (d m : Nat) (Q : Option Value → PH → Prop) : Nat → List Value → List Value → PH → Prop := fun b ls st g => WP d m b ls st g Q
theorem wpL_ex {d m : Nat} {Q : Option Value → PH → Prop} {rk : Nat} : ∀ (is : List Instr) (ls st : List Value) (h : PH), wpL (wCall d) (wJump d m Q) Q rk is ls st h →
    ∃ n r h', wpL (fun m' a g J => ∃ d', d = d' + 1 ∧ (lay a).length ≤ pnl m' ∧ ∃ r1 g1, Ex n d' m' 0 (pad (pnl m') (lay a)) [] g r1 g1 ∧ J r1 g1) (fun b' ls' st' g => Ex n d m b' ls' st' g r h') (fun r' g => r' = r ∧ g = h') rk is ls st h ∧ Q r h'
  | [], _, _, _, H => False.elim H
  | i :: is, ls, st, h, H => by
    rcases wpI_shape i ls st h H with ⟨ls', st', g, h1, h2⟩ | ⟨b, st', h1, h2⟩ | ⟨m', a, st', h1, h2⟩ | ⟨r, h1, h2⟩
    · obtain ⟨n, r, h', h3, h4⟩ := wpL_ex is _ _ _ h1
      exact ⟨n, r, h', h2 _ _ _ _ h3, h4⟩
    · obtain ⟨n, r, h', h3, h4⟩ := h1
      exact ⟨n, r, h', h2 _ _ _ _ h3, h4⟩
    · obtain ⟨d', e, hl, n1, r1, g1, h3, h4⟩ := h1
      obtain ⟨n, r, h', h5, h6⟩ := wpL_ex is _ _ _ h4
      refine ⟨n1 + n, r, h', h2 _ _ _ _ ⟨d', e, hl, r1, g1, Ex_le h3 (Nat.le_add_right _ _), ?_⟩, h6⟩
      refine wpL_mono ?_ ?_ (fun _ _ q => q) _ _ _ _ h5
      · rintro m' a g J J' hJ ⟨d', e, hl, r1, g1, h1, h2⟩
        exact ⟨d', e, hl, r1, g1, Ex_le h1 (Nat.le_add_left _ _), hJ _ _ h2⟩
      · intro b' ls' st' g q
        exact Ex_le q (Nat.le_add_left _ _)
    · exact ⟨0, r, h, h2 _ _ _ _ ⟨rfl, rfl⟩, h1⟩
/-- THE WALK: a block, by what must hold ahead of its instructions -/
theorem WP.of {d m b : Nat} {ls st : List Value} {h : PH} {Q : Option Value → PH → Prop} (hb : b < pnb m) (H : wpL (wCall d) (wJump d m Q) Q (prk m) (pblk m b) ls st h) : WP d m b ls st h Q := by
  obtain ⟨n, r, h', h1, h2⟩ := wpL_ex _ _ _ _ H
  exact ⟨n + 1, r, h', ⟨hb, h1⟩, h2⟩
set_option maxHeartbeats 8000000 in
/-- a step never makes the heap smaller -/
theorem wpI_grow {call : Nat → List Value → PH → (Option Value → PH → Prop) → Prop} {jump : Nat → List Value → List Value → PH → Prop} {fin : Option Value → PH → Prop} {rk : Nat} {K : List Value → List Value → PH → Prop}
    (i : Instr) (ls st : List Value) (h : PH) : wpI call jump fin rk i K ls st h →
    (∃ ls' st' h', K ls' st' h' ∧ hN h ≤ hN h' ∧ hU h ≤ hU h') ∨ (∃ b st', jump b ls st' h) ∨ (∃ m a st', call m a h (fun r h1 => K ls (r.toList ++ st') h1)) ∨ (∃ r, fin r h) := by
  unfold wpI
  repeat' split
  all_goals intro H
  all_goals first
    | exact H.elim
    | exact Or.inl ⟨_, _, _, H, Nat.le_refl _, Nat.le_refl _⟩
    | exact Or.inl ⟨_, _, _, H.2, Nat.le_refl _, Nat.le_refl _⟩
    | exact Or.inl ⟨_, _, _, H.2.2, Nat.le_refl _, Nat.le_refl _⟩
    | exact Or.inl ⟨_, _, _, H.2.2.2, Nat.le_refl _, Nat.le_refl _⟩
    | exact Or.inl ⟨_, _, _, H.2.2.2.2, Nat.le_refl _, Nat.le_refl _⟩
    | exact Or.inl ⟨_, _, _, H.2.2.2.2.2.2.2.2, Nat.le_refl _, Nat.le_refl _⟩
    | exact Or.inl ⟨_, _, _, H.2.2, Nat.le_succ _, Nat.le_add_right _ _⟩
    | exact Or.inl ⟨_, _, _, H.2.2.2, Nat.le_succ _, Nat.le_add_right _ _⟩
    | exact Or.inl ⟨_, _, _, H.2.2.2.2, Nat.le_succ _, Nat.le_add_right _ _⟩
    | exact Or.inr (Or.inl ⟨_, _, H⟩)
    | exact Or.inr (Or.inr (Or.inl ⟨_, _, _, H.2.2⟩))
    | exact Or.inr (Or.inr (Or.inr ⟨_, H.2⟩))
    | skip
theorem wpL_grow {call : Nat → List Value → PH → (Option Value → PH → Prop) → Prop} {jump : Nat → List Value → List Value → PH → Prop} {fin : Option Value → PH → Prop} {rk N U : Nat}
    (hc : ∀ m a g J, call m a g J → ∃ r g1, hN g ≤ hN g1 ∧ hU g ≤ hU g1 ∧ J r g1) (hj : ∀ b ls st h, jump b ls st h → hN h ≤ N ∧ hU h ≤ U) (hf : ∀ r h, fin r h → hN h ≤ N ∧ hU h ≤ U) : ∀ (is : List Instr) (ls st : List Value) (h : PH), wpL call jump fin rk is ls st h → hN h ≤ N ∧ hU h ≤ U
  | [], _, _, _, H => False.elim H
  | i :: is, ls, st, h, H => by
    rcases wpI_grow i ls st h H with ⟨ls', st', h', h1, h2, h3⟩ | ⟨b, st', h1⟩ | ⟨m, a, st', h1⟩ | ⟨r, h1⟩
    · have := wpL_grow hc hj hf is _ _ _ h1
      exact ⟨Nat.le_trans h2 this.1, Nat.le_trans h3 this.2⟩
    · exact hj _ _ _ _ h1
    · obtain ⟨r, g1, h2, h3, h4⟩ := hc _ _ _ _ h1
      have := wpL_grow hc hj hf is _ _ _ h4
      exact ⟨Nat.le_trans h2 this.1, Nat.le_trans h3 this.2⟩
    · exact hf _ _ h1
theorem Ex_grow : ∀ (n d m b : Nat) (ls st : List Value) (h : PH) (r : Option Value) (h' : PH), Ex n d m b ls st h r h' → hN h ≤ hN h' ∧ hU h ≤ hU h'
  | 0, _, _, _, _, _, _, _, _, H => False.elim H
  | n + 1, d, m, b, ls, st, h, r, h', H => by
    unfold Ex at H
    refine wpL_grow ?_ ?_ ?_ _ _ _ _ H.2
    · rintro m' a g J ⟨d', e, hl, r1, g1, h1, h2⟩
      have := Ex_grow n _ _ _ _ _ _ _ _ h1
      exact ⟨r1, g1, this.1, this.2, h2⟩
    · intro b' ls' st' g q
      exact Ex_grow n _ _ _ _ _ _ _ _ q
    · rintro r' g ⟨-, rfl⟩
      exact ⟨Nat.le_refl _, Nat.le_refl _⟩
end
