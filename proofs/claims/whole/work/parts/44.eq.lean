section
/-! the second machine is a function: what a run ends with is one thing; so a walk may be said as an equation, and simp walks -/
set_option maxHeartbeats 8000000 in
theorem wpI_and {C1 C2 C : Nat → List Value → PH → (Option Value → PH → Prop) → Prop} {J1 J2 J : Nat → List Value → List Value → PH → Prop} {F1 F2 F : Option Value → PH → Prop} {rk : Nat} {K1 K2 K : List Value → List Value → PH → Prop}
    (hc : ∀ m a h P1 P2 P, (∀ r g, P1 r g → P2 r g → P r g) → C1 m a h P1 → C2 m a h P2 → C m a h P) (hj : ∀ b ls st h, J1 b ls st h → J2 b ls st h → J b ls st h) (hf : ∀ r h, F1 r h → F2 r h → F r h) (hK : ∀ ls st h, K1 ls st h → K2 ls st h → K ls st h)
    (i : Instr) (ls st : List Value) (h : PH) : wpI C1 J1 F1 rk i K1 ls st h → wpI C2 J2 F2 rk i K2 ls st h → wpI C J F rk i K ls st h := by
  unfold wpI
  repeat' split
  all_goals first
    | exact hK _ _ _
    | exact hj _ _ _ _
    | exact hf _ _
    | exact fun z _ => z.elim
    | exact fun z w => ⟨z.1, hK _ _ _ z.2 w.2⟩
    | exact fun z w => ⟨z.1, hf _ _ z.2 w.2⟩
    | exact fun z w => ⟨z.1, z.2.1, hK _ _ _ z.2.2 w.2.2⟩
    | exact fun z w => ⟨z.1, z.2.1, z.2.2.1, hK _ _ _ z.2.2.2 w.2.2.2⟩
    | exact fun z w => ⟨z.1, z.2.1, z.2.2.1, z.2.2.2.1, hK _ _ _ z.2.2.2.2 w.2.2.2.2⟩
    | exact fun z w => ⟨z.1, z.2.1, z.2.2.1, z.2.2.2.1, z.2.2.2.2.1, z.2.2.2.2.2.1, z.2.2.2.2.2.2.1, z.2.2.2.2.2.2.2.1, hK _ _ _ z.2.2.2.2.2.2.2.2 w.2.2.2.2.2.2.2.2⟩
    | exact fun z w => ⟨z.1, z.2.1, hc _ _ _ _ _ _ (fun _ _ => hK _ _ _) z.2.2 w.2.2⟩
    | exact fun z w => ⟨z.1, hc _ _ _ _ _ _ (fun _ _ => hK _ _ _) z.2 w.2⟩
theorem wpL_and {C1 C2 C : Nat → List Value → PH → (Option Value → PH → Prop) → Prop} {J1 J2 J : Nat → List Value → List Value → PH → Prop} {F1 F2 F : Option Value → PH → Prop} {rk : Nat}
    (hc : ∀ m a h P1 P2 P, (∀ r g, P1 r g → P2 r g → P r g) → C1 m a h P1 → C2 m a h P2 → C m a h P) (hj : ∀ b ls st h, J1 b ls st h → J2 b ls st h → J b ls st h) (hf : ∀ r h, F1 r h → F2 r h → F r h) :
    ∀ (is : List Instr) (ls st : List Value) (h : PH), wpL C1 J1 F1 rk is ls st h → wpL C2 J2 F2 rk is ls st h → wpL C J F rk is ls st h
  | [], _, _, _ => fun z _ => z
  | i :: is, ls, st, h => wpI_and hc hj hf (wpL_and hc hj hf is) i ls st h
theorem wpL_end {X : Prop} {rk : Nat} : ∀ (is : List Instr) (ls st : List Value) (h : PH), wpL (fun _ _ _ P => ∃ r g, P r g) (fun _ _ _ _ => X) (fun _ _ => X) rk is ls st h → X
  | [], _, _, _, H => False.elim H
  | i :: is, ls, st, h, H => by
    rcases wpI_shape i ls st h H with ⟨ls', st', h', h1, -⟩ | ⟨b, st', h1, -⟩ | ⟨m, a, st', h1, -⟩ | ⟨r, h1, -⟩
    · exact wpL_end is _ _ _ h1
    · exact h1
    · obtain ⟨r, g, h2⟩ := h1
      exact wpL_end is _ _ _ h2
    · exact h1
theorem Ex_det : ∀ (n n' d d' m b : Nat) (ls st : List Value) (h : PH) (r r' : Option Value) (g g' : PH), Ex n d m b ls st h r g → Ex n' d' m b ls st h r' g' → r = r' ∧ g = g'
  | 0, _, _, _, _, _, _, _, _, _, _, _, _, H, _ => False.elim H
  | _ + 1, 0, _, _, _, _, _, _, _, _, _, _, _, _, H => False.elim H
  | n + 1, n' + 1, d, d', m, b, ls, st, h, r, r', g, g', H, H' => by
    unfold Ex at H H'
    refine wpL_end (X := r = r' ∧ g = g') _ _ _ _ (wpL_and ?_ ?_ ?_ _ _ _ _ H.2 H'.2)
    · rintro m1 a h1 P1 P2 P hP ⟨e, -, -, x1, y1, z1, w1⟩ ⟨e', -, -, x2, y2, z2, w2⟩
      obtain ⟨rfl, rfl⟩ := Ex_det n n' _ _ _ _ _ _ _ _ _ _ _ z1 z2
      exact ⟨x1, y1, hP _ _ w1 w2⟩
    · intro b' ls' st' h' z w
      exact Ex_det n n' _ _ _ _ _ _ _ _ _ _ _ z w
    · rintro x y ⟨rfl, rfl⟩ ⟨rfl, rfl⟩
      exact ⟨rfl, rfl⟩
/-- the calls and jumps of a walk, as words that simp takes when it is told -/
def kC (d : Nat) (m : Nat) (a : List Value) (g : PH) (J : Option Value → PH → Prop) : Prop := wCall d m a g J
def kJ (d m : Nat) (Q : Option Value → PH → Prop) (b : Nat) (ls st : List Value) (g : PH) : Prop := WP d m b ls st g Q
theorem kJ_eq (d m : Nat) (Q : Option Value → PH → Prop) (b : Nat) (ls st : List Value) (g : PH) : kJ d m Q b ls st g = WP d m b ls st g Q := rfl
theorem kC_eq {d : Nat} (m : Nat) (a : List Value) (g : PH) (J : Option Value → PH → Prop) (hd : 1 ≤ d) : kC d m a g J = Run (d - 1) m a g J := by
  match d, hd with
  | d + 1, _ => exact propext ⟨fun ⟨d', e, H⟩ => by cases e; exact H, fun H => ⟨d, rfl, H⟩⟩
theorem WP.eqn {d m b : Nat} {ls st : List Value} {h : PH} {Q : Option Value → PH → Prop} (is : List Instr) (rk : Nat) (e0 : Nat.blt b (pnb m) = true) (e1 : pblk m b = is) (e2 : prk m = rk) :
    WP d m b ls st h Q = wpL (kC d) (kJ d m Q) Q rk is ls st h := by
  refine propext ⟨?_, WP.blk is rk e0 e1 e2⟩
  rintro ⟨n, r, h', H, hQ⟩
  match n, H with
  | n + 1, H =>
    unfold Ex at H
    rw [e1, e2] at H
    refine wpL_mono ?_ ?_ ?_ _ _ _ _ H.2
    · rintro m' a g J J' hJ ⟨d', e, hl, r1, g1, h1, h2⟩
      exact ⟨d', e, hl, n, r1, g1, h1, hJ _ _ h2⟩
    · intro b' ls' st' g q
      exact ⟨n, r, h', q, hQ⟩
    · rintro _ _ ⟨rfl, rfl⟩
      exact hQ
theorem Run.eqn {d m : Nat} {a : List Value} {h : PH} {Q : Option Value → PH → Prop} (nl : Nat) (e3 : pnl m = nl) (e4 : Nat.ble (lay a).length nl = true) : Run d m a h Q = WP d m 0 (pad nl (lay a)) [] h Q := by
  subst e3
  exact propext ⟨fun H => H.2, fun H => ⟨Nat.ble_eq.mp e4, H⟩⟩
/-- what a method is known to do, as an equation -/
theorem Run.det {d m : Nat} {a : List Value} {h g : PH} {r : Option Value} (H : Run d m a h (fun x y => x = r ∧ y = g)) (Q : Option Value → PH → Prop) : Run d m a h Q = Q r g := by
  refine propext ⟨fun H' => ?_, fun q => H.mono (fun x y e => by obtain ⟨rfl, rfl⟩ := e; exact q)⟩
  obtain ⟨-, n, x, y, h1, rfl, rfl⟩ := H
  obtain ⟨-, n', x', y', h1', q⟩ := H'
  obtain ⟨rfl, rfl⟩ := Ex_det _ _ _ _ _ _ _ _ _ _ _ _ _ h1 h1'
  exact q
theorem i_cons {c : Nat → List Value → PH → (Option Value → PH → Prop) → Prop} {j : Nat → List Value → List Value → PH → Prop} {f : Option Value → PH → Prop} {rk : Nat} {i : Instr} {is : List Instr} {ls st : List Value} {h : PH} :
    wpL c j f rk (i :: is) ls st h = wpI c j f rk i (wpL c j f rk is) ls st h := rfl
/-- a loop that counts: from 0 to n, by a step on a state that keeps I -/
theorem loopN {σ : Type} (I : Nat → σ → Prop) (P : Nat → σ → Prop) (g : Nat → σ → σ) (n : Nat) (hs : ∀ i x, i < n → I i x → P i x = P (i + 1) (g i x) ∧ I (i + 1) (g i x)) :
    ∀ (j i : Nat) (x : σ), i + j = n → I i x → P i x = P n (Nat.rec (motive := fun _ => σ) x (fun t y => g (i + t) y) j)
  | 0, i, x, e, _ => by
    obtain rfl : i = n := by omega
    rfl
  | j + 1, i, x, e, hI => by
    obtain ⟨h1, h2⟩ := hs i x (by omega) hI
    rw [h1, loopN I P g n hs j (i + 1) (g i x) (by omega) h2]
    congr 1
    have : ∀ t, (Nat.rec (motive := fun _ => σ) (g i x) (fun t y => g (i + 1 + t) y) t : σ) = Nat.rec (motive := fun _ => σ) x (fun t y => g (i + t) y) (t + 1) := by
      intro t
      induction t with
      | zero => rfl
      | succ t ih =>
        show g (i + 1 + t) _ = g (i + (t + 1)) _
        rw [ih, show i + 1 + t = i + (t + 1) by omega]
    exact this j
end
