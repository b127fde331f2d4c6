section
theorem str_at {X : CX} {KS : CX → State → Prop} {s : State} {h : PH} {H : Heap} {a : Nat} (hK : KSt X s) (P : Pic X h H) (ht : hT h a = 130) : ∃ i, i < 18 ∧ a = 10 + i ∧ ad X a = xo X (10 + i) ∧ hL h a = slen.getD i 0 ∧ ∀ j, j < hL h a → hI h a j = (sbyt.getD i []).getD j 0 := by
  obtain ⟨-, -, -, -, hX1, -⟩ := hK
  obtain ⟨q1, q2⟩ := P.2.2.2.1 a (by omega)
  have ha : a < 100 := by
    rcases q2 with ⟨a1, -⟩ | ⟨a1, -⟩ | ⟨-, a2⟩
    · rw [ht] at a1; cases a1
    · rw [ht] at a1; cases a1
    · exact a2
  obtain ⟨e1, e2, e3⟩ := P.2.2.2.2 a ha
  obtain ⟨b1, b2, b3, b4⟩ := hX1 a ha (by rw [← e1]; exact ht)
  refine ⟨a - 10, by omega, by omega, ?_, by rw [e2]; exact b3, fun j hj => ?_⟩
  · unfold ad
    rw [if_pos ha, show 10 + (a - 10) = a by omega]
  · rw [e3]
    exact b4 j (by rw [← e2]; exact hj)
theorem AgH.of {X : CX} {h : PH} {H : Heap} (P : Pic X h H) : AgH X H := P.2.2.1
theorem strW (X : CX) : StrW X KSt := by
  intro p l e R s m args below meth c nL n0 u0 Q cc own pc ls st h hx hb hml hown hts hKU hR1 hR2 hfit
  have hK : KSt X s := hKU.2.2.2.2.2.2.2.2
  refine ⟨fun i k ho hw hk1 hk2 ht hd G2 => ?_, fun i a hw ht hos hd G2 => ?_, fun i a j hw ht hj hos hd G2 => ?_⟩
  · intro H locs lsM P L B1 B2 B3
    subst ho
    have kk := G2 H locs lsM P L B1 B2 B3
    have e1 : ad X k = xo X k := by unfold ad; rw [if_pos (by omega)]
    have e2 : (Value.ref k :: st).map (rnv X) = .ref (xo X k) :: st.map (rnv X) := by
      show Value.ref (ad X k) :: _ = _
      rw [e1]
    rw [e2] at kk
    exact va_ldcS hx hb hown (hK.2.1 i k hk1 hk2 hw) hd kk
  · intro H locs lsM P L B1 B2 B3
    have kk := G2 H locs lsM P L B1 B2 B3
    obtain ⟨i', hi, ea, ead, el, eb⟩ := str_at (KS := KSt) hK P ht
    obtain ⟨⟨adV, hS1⟩, -, -, -, -, hsz⟩ := id hK
    have hag : ∀ a : Nat, a < (xH X).size → ¬ xs0 X ≤ a → H[a]? = (xH X)[a]? := fun a ha _ => AgH.of P a (by rw [← hsz]; exact ha)
    have hS1 := hS1.kept hag
    have hp : PreV s H "java/lang/String" (xo X (10 + i')) (PcJ X [.ref (xo X (10 + i'))]) [] := ⟨blindJ, (by obtain ⟨cell, c1, c2, c3, -⟩ := (hS1.1 i' hi).1; exact ⟨cell, c1, c2, c3⟩), fun U hU hW => ⟨rfl, KSt.warm _ _ hW hK, by rw [hU]; exact AgH.of P⟩⟩
    have es : (Value.ref a :: st).map (rnv X) = .ref (xo X (10 + i')) :: st.map (rnv X) := by
      show Value.ref (ad X a) :: _ = _
      rw [ead]
    rw [es]
    rw [el] at kk
    exact afterJ (rest := st.map (rnv X)) (va_runV (n := 0) ⟨hx, hb, hml, hown, hts⟩ (jc_length l hi) ⟨callJ hts (jw 0 rfl) (jw 7 rfl) hw (by decide) (by decide) (by decide) (by omega) (by omega), hts _ (jw 26 rfl), hts _ (jw 27 rfl)⟩ hp rfl rfl L.1 rfl (by show 2 * 0 + _ ≤ 8; have := okStack_sum (X := X) hos; omega) hd ⟨hfit.1, hfit.2⟩) kk
  · intro H locs lsM P L B1 B2 B3
    have kk := G2 H locs lsM P L B1 B2 B3
    obtain ⟨i', hi, ea, ead, el, eb⟩ := str_at (KS := KSt) hK P ht
    obtain ⟨⟨adV, hS1⟩, -, -, -, -, hsz⟩ := id hK
    have hag : ∀ a : Nat, a < (xH X).size → ¬ xs0 X ≤ a → H[a]? = (xH X)[a]? := fun a ha _ => AgH.of P a (by rw [← hsz]; exact ha)
    have hS1 := hS1.kept hag
    have hp : PreV s H "java/lang/String" (xo X (10 + i')) (PcJ X [.ref (xo X (10 + i')), .int j]) [.int j] := ⟨blindJ, (by obtain ⟨cell, c1, c2, c3, -⟩ := (hS1.1 i' hi).1; exact ⟨cell, c1, c2, c3⟩), fun U hU hW => ⟨rfl, KSt.warm _ _ hW hK, by rw [hU]; exact AgH.of P⟩⟩
    have es : (Value.int j :: .ref a :: st).map (rnv X) = .int j :: .ref (xo X (10 + i')) :: st.map (rnv X) := by
      show Value.int j :: Value.ref (ad X a) :: _ = _
      rw [ead]
    rw [es]
    rw [eb _ hj.2] at kk
    rw [el] at hj
    exact afterJ (rest := st.map (rnv X)) (va_runV (n := 1) (As := [.int j]) ⟨hx, hb, hml, hown, hts⟩ (jc_charAt l hi hj) ⟨callJ hts (jw 2 rfl) (jw 7 rfl) hw (by decide) (by decide) (by decide) (by omega) (by omega), hts _ (jw 28 rfl), hts _ (jw 29 rfl)⟩ hp rfl rfl L.1 rfl (by show 2 * 0 + _ ≤ 8; have := okStack_sum (X := X) hos; omega) hd ⟨hfit.1, hfit.2⟩) kk
end
