section
theorem in_lay : ∀ t, isTg t = true → ∀ w ∈ u_ws (pC t) (pT t) (pNf t), w ∈ lw_good := by
  have h : ∀ t, t < 14 → (u_ws (pC t) (pT t) (pNf t)).all (fun w => lw_good.contains w) = true := by decide +kernel
  intro t ht w hw
  simp only [isTg, Bool.and_eq_true, decide_eq_true_eq] at ht
  have := List.all_eq_true.mp (h t (by omega)) w hw
  simpa using this
theorem ty_ok : ∀ t, isTg t = true → ∀ k, k < pNf t → parseFieldDescriptor (pT t k).2.2.1 = some (pTy t k) := by
  have h : ∀ t, t < 14 → ∀ k, k < pNf t → parseFieldDescriptor (pT t k).2.2.1 = some (pTy t k) := by decide +kernel
  intro t ht
  simp only [isTg, Bool.and_eq_true, decide_eq_true_eq] at ht
  exact h t (by omega)
theorem kd_ok : ∀ t, isTg t = true → ∀ k, k < pNf t → (pTy t k = .int ∧ pK t k = 0) ∨ (pTy t k = .boolean ∧ pK t k = 3) ∨ (pTy t k = .long ∧ pK t k = 1) ∨ (pK t k = 2 ∧ (pTy t k).isReference = true) := by
  have h : ∀ t, t < 14 → ∀ k, k < pNf t → (pTy t k = .int ∧ pK t k = 0) ∨ (pTy t k = .boolean ∧ pK t k = 3) ∨ (pTy t k = .long ∧ pK t k = 1) ∨ (pK t k = 2 ∧ (pTy t k).isReference = true) := by decide +kernel
  intro t ht
  simp only [isTg, Bool.and_eq_true, decide_eq_true_eq] at ht
  exact h t (by omega)
theorem nm_ok : ∀ t, isTg t = true → ∀ a, a < pNf t → ∀ b, b < pNf t → a ≠ b → (pT t a).2.1 ≠ (pT t b).2.1 := by
  have h : ∀ t, t < 14 → ∀ a, a < pNf t → ∀ b, b < pNf t → a ≠ b → (pT t a).2.1 ≠ (pT t b).2.1 := by decide +kernel
  intro t ht
  simp only [isTg, Bool.and_eq_true, decide_eq_true_eq] at ht
  exact h t (by omega)
def clP : List vw_C := (List.range 13).map (fun i => (pC (i + 1), pT (i + 1), pNf (i + 1)))
theorem clP_at {t : Nat} (ht : isTg t = true) : clP[t - 1]? = some (pC t, pT t, pNf t) := by
  simp only [isTg, Bool.and_eq_true, decide_eq_true_eq] at ht
  have h1 : t - 1 < 13 := by omega
  have h2 : t - 1 + 1 = t := by omega
  simp [clP, h1, h2]
theorem KU.K {X : CX} {KS : CX → State → Prop} {U : State} (h : KU X KS U) : va_K (fun c => xD X (c + 1), fun c => xS X (c + 1)) clP [] U := by
  refine ⟨fun c q hq => ?_, fun k q hq => by simp at hq⟩
  have hc : c < 13 := by
    rcases Nat.lt_or_ge c 13 with z | z
    · exact z
    · rw [List.getElem?_eq_none (by simpa [clP] using z)] at hq
      cases hq
  have e : q = (pC (c + 1), pT (c + 1), pNf (c + 1)) := by
    simp [clP, hc] at hq
    exact hq.symm
  subst e
  exact h.1 (c + 1) (by simp [isTg]; omega)
def SameC (h h' : PH) (b : Nat) : Prop := hT h' b = hT h b ∧ hL h' b = hL h b ∧ (∀ j, hI h' b j = hI h b j) ∧ (∀ j, hJ h' b j = hJ h b j) ∧ ∀ j, hR h' b j = hR h b j
theorem SameC.sv {h h' : PH} {b : Nat} (q : SameC h h' b) (t k : Nat) : svP h' t b k = svP h t b k := by
  obtain ⟨-, -, h3, h4, h5⟩ := q
  unfold svP
  split <;> simp [h3, h4, h5]
theorem SameC.ev {h h' : PH} {b : Nat} (q : SameC h h' b) (t k : Nat) : evP h' t b k = evP h t b k := by
  obtain ⟨-, -, h3, h4, h5⟩ := q
  unfold evP
  split <;> simp [h3, h4, h5]
theorem cellP.same {X : CX} {h h' : PH} {H H' : Heap} {b : Nat} (c : cellP X h H b) (q : SameC h h' b) (hq : 100 ≤ b → H'[ad X b]? = H[ad X b]?) : cellP X h' H' b := by
  unfold cellP at c ⊢
  rw [q.1, q.2.1]
  rcases c with ⟨a1, a2, a3⟩ | ⟨a1, a2, a3⟩ | a
  · exact Or.inl ⟨a1, a2, (a3.to (fun k _ => by rw [q.sv])).kept (hq a2)⟩
  · refine Or.inr (Or.inl ⟨a1, a2, ?_⟩)
    rw [hq a2, a3]
    congr 2
    funext j
    rw [q.ev]
  · exact Or.inr (Or.inr a)
theorem ad_ge {X : CX} {a : Nat} (ha : 100 ≤ a) : ad X a = xs0 X + (a - 100) := by
  unfold ad
  rw [if_neg (by omega)]
theorem ad_inj {X : CX} {a b : Nat} (ha : 100 ≤ a) (hb : 100 ≤ b) (h : ad X a = ad X b) : a = b := by
  rw [ad_ge ha, ad_ge hb] at h
  omega
/-- one cell of ours has changed -/
theorem Pic.upd {X : CX} {h h' : PH} {H H' : Heap} {a : Nat} (P : Pic X h H) (ht : hT h' a ≠ 0) (ha : 100 ≤ a) (han : a < hN h) (hn : hN h' = hN h) (hs : H'.size = H.size) (ho : ∀ q, q ≠ ad X a → H'[q]? = H[q]?) (hsame : ∀ b, b ≠ a → SameC h h' b) (hc : cellP X h' H' a) : Pic X h' H' := by
  obtain ⟨p1, p2, p3, p4, p5⟩ := P
  refine ⟨by rw [hn]; exact p1, by rw [hs, hn]; exact p2, fun q hq => ?_, fun b hb => ?_, fun b hb => ?_⟩
  · rw [ho q (by rw [ad_ge ha]; omega)]
    exact p3 q hq
  · rw [hn]
    by_cases hba : b = a
    · subst hba
      exact ⟨han, hc⟩
    · have hs' := hsame b hba
      rw [hs'.1] at hb
      obtain ⟨q1, q2⟩ := p4 b hb
      exact ⟨q1, q2.same hs' (fun h100 => ho _ (fun z => hba (ad_inj h100 ha z)))⟩
  · have hs' := hsame b (by omega)
    obtain ⟨q1, q2, q3⟩ := p5 b hb
    exact ⟨hs'.1.trans q1, hs'.2.1.trans q2, fun j => (hs'.2.2.1 j).trans (q3 j)⟩
/-- a cell of ours more -/
theorem Pic.new {X : CX} {h : PH} {H H' : Heap} {t n : Nat} (P : Pic X h H) (hs : H'.size = H.size + 1) (ho : ∀ q, q < H.size → H'[q]? = H[q]?) (hc : cellP X (nC h t n) H' (hN h)) : Pic X (nC h t n) H' := by
  obtain ⟨p1, p2, p3, p4, p5⟩ := P
  have hne : ∀ b, b ≠ hN h → SameC h (nC h t n) b := by
    intro b hb
    have hb' : ¬ b = h.1.1 := hb
    refine ⟨?_, ?_, fun j => ?_, fun j => ?_, fun j => ?_⟩ <;> simp [nC, hT, hL, hI, hJ, hR, hb']
  refine ⟨?_, ?_, fun q hq => ?_, fun b hb => ?_, fun b hb => ?_⟩
  · show 100 ≤ h.1.1 + 1
    have : 100 ≤ h.1.1 := p1
    omega
  · rw [hs, p2]
    show _ = xs0 X + (h.1.1 + 1 - 100)
    have : 100 ≤ h.1.1 := p1
    show xs0 X + (h.1.1 - 100) + 1 = _
    omega
  · rw [ho q (by omega)]
    exact p3 q hq
  · by_cases hba : b = hN h
    · subst hba
      exact ⟨Nat.lt_succ_self _, hc⟩
    · have hs' := hne b hba
      rw [hs'.1] at hb
      obtain ⟨q1, q2⟩ := p4 b hb
      refine ⟨Nat.lt_succ_of_lt q1, q2.same hs' (fun h100 => ho _ ?_)⟩
      rw [ad_ge h100, p2]
      omega
  · have hs' := hne b (by omega)
    obtain ⟨q1, q2, q3⟩ := p5 b hb
    exact ⟨hs'.1.trans q1, hs'.2.1.trans q2, fun j => (hs'.2.2.1 j).trans (q3 j)⟩
theorem isTg_not {t : Nat} (h : isTg t = true) : isAT t = false ∧ t ≠ 120 ∧ t ≠ 130 ∧ t ≠ 0 := by
  simp only [isTg, Bool.and_eq_true, decide_eq_true_eq] at h
  refine ⟨?_, by omega, by omega, by omega⟩
  simp [isAT]
  omega
theorem isAT_not {t : Nat} (h : isAT t = true) : isTg t = false ∧ t ≠ 120 ∧ t ≠ 130 ∧ t ≠ 0 := by
  simp [isAT] at h
  refine ⟨?_, by omega, by omega, by omega⟩
  simp [isTg]
  omega
theorem Pic.obj {X : CX} {h : PH} {H : Heap} {a : Nat} (P : Pic X h H) (ht : isTg (hT h a) = true) : a < hN h ∧ 100 ≤ a ∧ t_OB (ad X a) (xD X (hT h a)) (pNf (hT h a)) (xS X (hT h a)) H (fun k => rnv X (svP h (hT h a) a k)) := by
  obtain ⟨q1, q2⟩ := P.2.2.2.1 a (isTg_not ht).2.2.2
  rcases q2 with ⟨-, a2, a3⟩ | ⟨a1, -⟩ | ⟨a1, -⟩
  · exact ⟨q1, a2, a3⟩
  · rw [(isTg_not ht).1] at a1; cases a1
  · rcases a1 with a1 | a1
    · exact absurd a1 (isTg_not ht).2.1
    · exact absurd a1 (isTg_not ht).2.2.1
theorem Pic.arr {X : CX} {h : PH} {H : Heap} {a : Nat} (P : Pic X h H) (ht : isAT (hT h a) = true) : a < hN h ∧ 100 ≤ a ∧ H[ad X a]? = some (arrV (xA X (hT h a)) (hL h a) (fun j => rnv X (evP h (hT h a) a j))) := by
  obtain ⟨q1, q2⟩ := P.2.2.2.1 a (isAT_not ht).2.2.2
  rcases q2 with ⟨a1, -⟩ | ⟨-, a2, a3⟩ | ⟨a1, -⟩
  · rw [(isAT_not ht).1] at a1; cases a1
  · exact ⟨q1, a2, a3⟩
  · rcases a1 with a1 | a1
    · exact absurd a1 (isAT_not ht).2.1
    · exact absurd a1 (isAT_not ht).2.2.1
/-- the ints of an array, ours or not -/
theorem Pic.ints {X : CX} {KS : CX → State → Prop} {U : State} {h : PH} {H : Heap} {a : Nat} (P : Pic X h H) (hK : KU X KS U) (ht : isIA (hT h a) = true) : ∃ cell : Cell, H[ad X a]? = some cell ∧ U.isArrayOf cell .int ∧ cell.vm ≠ .unknown ∧ (hL h a ≤ cell.slots.size ∧ cell.slots.size.toInt32 = nI (hL h a)) ∧ ∀ j, j < hL h a → cell.slots[j]? = some (.int (hI h a j)) := by
  simp only [isIA, Bool.or_eq_true, beq_iff_eq] at ht
  rcases ht with ht | ht
  · have hat : isAT (hT h a) = true := by rw [ht]; rfl
    obtain ⟨-, -, q3⟩ := P.arr hat
    rw [ht] at q3
    refine ⟨_, q3, (hK.2.1 100 rfl).1 _ _, (fun z => by cases z), ⟨Nat.le_of_eq (arrV_size _ _ _).symm, by rw [arrV_size]; rfl⟩, fun j hj => ?_⟩
    rw [arrV_read _ _ hj]
    rfl
  · obtain ⟨q1, q2⟩ := P.2.2.2.1 a (by omega)
    have ha : a < 100 := by
      rcases q2 with ⟨a1, -⟩ | ⟨a1, -⟩ | ⟨-, a2⟩
      · rw [ht] at a1; cases a1
      · rw [ht] at a1; cases a1
      · exact a2
    obtain ⟨e1, e2, e3⟩ := P.2.2.2.2 a ha
    obtain ⟨cell, c1, c2, c3, c4, c5, c6⟩ := hK.2.2.2.2.2.2.1 a ha (e1 ▸ ht)
    have hada : ad X a = xo X a := by unfold ad; rw [if_pos ha]
    refine ⟨cell, ?_, c3, c4, by rw [e2]; exact c5, fun j hj => ?_⟩
    · rw [hada, P.2.2.1 _ c2]
      exact c1
    · rw [e3]
      exact c6 j (by rw [← e2]; exact hj)
end
