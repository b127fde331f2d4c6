section
/-! what a row keeps: each place its range; n bounds what boats hold -/
def okq (n q : Nat) (x : Int32) : Prop :=
  if q = 0 then inR x 99 else if q = 1 ∨ q = 2 then (∃ m : Nat, 1 ≤ m ∧ m ≤ 20 ∧ x = nI m) else if 7 ≤ q ∧ q < 12 then inR x 30
  else if 12 ≤ q ∧ q < 68 then (if (q - 12) % 7 < 5 then inR x 99 else if (q - 12) % 7 = 5 then inR x 9 else True)
  else if 76 ≤ q then (if (q - 76) % 10 = 0 then inR x 5 else if (q - 76) % 10 = 2 then inR x 7 else if (q - 76) % 10 < 5 then inR x 9 else inR x (99 * n)) else True
def Vr (n : Nat) (r : Nat → Int32) : Prop := (∀ q, q < lim r → okq n q (r q)) ∧ (nb r ≤ 6 ∧ r 5 = nI (nb r)) ∧ Z r
theorem okq_0 {n : Nat} {x : Int32} : okq n 0 x = inR x 99 := rfl
theorem okq_l {n q : Nat} {x : Int32} (h : q = 1 ∨ q = 2) : okq n q x = ∃ m : Nat, 1 ≤ m ∧ m ≤ 20 ∧ x = nI m := by
  unfold okq; rw [if_neg (by omega), if_pos h]
theorem okq_p {n s : Nat} {x : Int32} (h : s < 5) : okq n (7 + s) x = inR x 30 := by
  unfold okq; rw [if_neg (by omega), if_neg (by omega), if_pos (by omega)]
theorem okq_s {n s k : Nat} {x : Int32} (hs : s < 8) (hk : k < 5) : okq n (12 + 7 * s + k) x = inR x 99 := by
  unfold okq; rw [if_neg (by omega), if_neg (by omega), if_neg (by omega), if_pos (by omega), if_pos (by omega)]
theorem okq_sl {n s : Nat} {x : Int32} (hs : s < 8) : okq n (17 + 7 * s) x = inR x 9 := by
  unfold okq; rw [if_neg (by omega), if_neg (by omega), if_neg (by omega), if_pos (by omega), if_neg (by omega), if_pos (by omega)]
theorem okq_k {n β : Nat} {x : Int32} : okq n (76 + 10 * β) x = inR x 5 := by
  unfold okq; rw [if_neg (by omega), if_neg (by omega), if_neg (by omega), if_neg (by omega), if_pos (by omega), if_pos (by omega)]
theorem okq_a {n β : Nat} {x : Int32} : okq n (78 + 10 * β) x = inR x 7 := by
  unfold okq; rw [if_neg (by omega), if_neg (by omega), if_neg (by omega), if_neg (by omega), if_pos (by omega), if_neg (by omega), if_pos (by omega)]
theorem okq_9 {n β k : Nat} {x : Int32} (h : k = 1 ∨ k = 3 ∨ k = 4) : okq n (76 + 10 * β + k) x = inR x 9 := by
  unfold okq; rw [if_neg (by omega), if_neg (by omega), if_neg (by omega), if_neg (by omega), if_pos (by omega), if_neg (by omega), if_neg (by omega), if_pos (by omega)]
theorem okq_m {n β : Nat} {x : Int32} : okq n (77 + 10 * β) x = inR x 9 := by rw [show 77 + 10 * β = 76 + 10 * β + 1 by omega, okq_9 (Or.inl rfl)]
theorem okq_e {n β : Nat} {x : Int32} : okq n (79 + 10 * β) x = inR x 9 := by rw [show 79 + 10 * β = 76 + 10 * β + 3 by omega, okq_9 (Or.inr (Or.inl rfl))]
theorem okq_t {n β : Nat} {x : Int32} : okq n (80 + 10 * β) x = inR x 9 := by rw [show 80 + 10 * β = 76 + 10 * β + 4 by omega, okq_9 (Or.inr (Or.inr rfl))]
theorem okq_h {n β s : Nat} {x : Int32} (hs : s < 5) : okq n (81 + 10 * β + s) x = inR x (99 * n) := by
  unfold okq; rw [if_neg (by omega), if_neg (by omega), if_neg (by omega), if_neg (by omega), if_pos (by omega), if_neg (by omega), if_neg (by omega), if_neg (by omega)]
/-- places of which nothing is asked -/
theorem okq_f {n q : Nat} {x : Int32} (h : 3 ≤ q ∧ q < 7 ∨ 68 ≤ q ∧ q < 76 ∨ 12 ≤ q ∧ q < 68 ∧ (q - 12) % 7 = 6) : okq n q x = True := by
  unfold okq
  rw [if_neg (by omega), if_neg (by omega), if_neg (by omega)]
  by_cases h2 : 12 ≤ q ∧ q < 68
  · rw [if_pos h2, if_neg (by omega), if_neg (by omega)]
  · rw [if_neg h2, if_neg (by omega)]
theorem inR.mono {x : Int32} {n m : Nat} (h : inR x n) (hm : n ≤ m) : inR x m := by
  obtain ⟨a, h1, h2⟩ := h
  exact ⟨a, Nat.le_trans h1 hm, h2⟩
theorem okq_mono {n m q : Nat} {x : Int32} (hm : n ≤ m) (h : okq n q x) : okq m q x := by
  unfold okq at h ⊢
  repeat' split at h
  all_goals simp_all only [↓reduceIte]
  all_goals try exact h
  all_goals first
    | exact h.mono (by omega)
    | (repeat' split) <;> first | exact h | exact h.mono (by omega) | trivial | omega
theorem Vr.mono {n m : Nat} {r : Nat → Int32} (h : Vr n r) (hm : n ≤ m) : Vr m r := ⟨fun q hq => okq_mono hm (h.1 q hq), h.2⟩
theorem Vr.put {n q : Nat} {r : Nat → Int32} {x : Int32} (h : Vr n r) (hq : q < lim r) (h5 : ¬ q = 5) (hx : okq n q x) : Vr n (upr r q x) := by
  refine ⟨fun j hj => ?_, ⟨?_, ?_⟩, Z_upr h.2.2 hq h5⟩
  · by_cases e : j = q
    · subst e; rw [upr_same]; exact hx
    · rw [upr_ne _ _ e]; rw [lim_upr h5] at hj; exact h.1 j hj
  · rw [nb_upr h5]; exact h.2.1.1
  · rw [upr_ne _ _ (by omega), nb_upr h5]; exact h.2.1.2
theorem Vr.nb6 {n : Nat} {r : Nat → Int32} (h : Vr n r) : nb r ≤ 6 := h.2.1.1
theorem Vr.r5 {n : Nat} {r : Nat → Int32} (h : Vr n r) : r 5 = nI (nb r) := h.2.1.2
theorem Vr.z {n : Nat} {r : Nat → Int32} (h : Vr n r) : Z r := h.2.2
theorem Vr.st {n s k : Nat} {r : Nat → Int32} (h : Vr n r) (hs : s < 8) (hk : k < 5) : inR (r (12 + 7 * s + k)) 99 := by
  have := h.1 (12 + 7 * s + k) (lim_lt (by omega))
  rwa [okq_s hs hk] at this
theorem Vr.sl {n s : Nat} {r : Nat → Int32} (h : Vr n r) (hs : s < 8) : inR (r (17 + 7 * s)) 9 := by
  have := h.1 (17 + 7 * s) (lim_lt (by omega))
  rwa [okq_sl hs] at this
theorem Vr.w {n : Nat} {r : Nat → Int32} (h : Vr n r) : inR (r 0) 99 := h.1 0 (lim_lt (by omega))
theorem Vr.l {n q : Nat} {r : Nat → Int32} (h : Vr n r) (hq : q = 1 ∨ q = 2) : ∃ m : Nat, 1 ≤ m ∧ m ≤ 20 ∧ r q = nI m := by
  have := h.1 q (lim_lt (by omega))
  rwa [okq_l hq] at this
theorem Vr.p {n s : Nat} {r : Nat → Int32} (h : Vr n r) (hs : s < 5) : inR (r (7 + s)) 30 := by
  have := h.1 (7 + s) (lim_lt (by omega))
  rwa [okq_p hs] at this
theorem Vr.lt {n β k : Nat} {r : Nat → Int32} (h : Vr n r) (hβ : β < nb r) (hk : k < 10) : 76 + 10 * β + k < lim r := lim_b hβ (by have := h.nb6; omega) hk
theorem Vr.k {n β : Nat} {r : Nat → Int32} (h : Vr n r) (hβ : β < nb r) : ∃ k : Nat, k < 6 ∧ r (76 + 10 * β) = nI k := by
  have := h.1 (76 + 10 * β) (h.lt hβ (show 0 < 10 by decide))
  rw [okq_k] at this
  obtain ⟨k, h1, h2⟩ := this
  exact ⟨k, by omega, h2⟩
theorem Vr.a {n β : Nat} {r : Nat → Int32} (h : Vr n r) (hβ : β < nb r) : ∃ k : Nat, k < 8 ∧ r (78 + 10 * β) = nI k := by
  have := h.1 (78 + 10 * β) (by have := h.lt hβ (show 2 < 10 by decide); omega)
  rw [okq_a] at this
  obtain ⟨k, h1, h2⟩ := this
  exact ⟨k, by omega, h2⟩
theorem Vr.m {n β : Nat} {r : Nat → Int32} (h : Vr n r) (hβ : β < nb r) : inR (r (77 + 10 * β)) 9 := by
  have := h.1 (77 + 10 * β) (by have := h.lt hβ (show 1 < 10 by decide); omega)
  rwa [okq_m] at this
theorem Vr.e {n β : Nat} {r : Nat → Int32} (h : Vr n r) (hβ : β < nb r) : inR (r (79 + 10 * β)) 9 := by
  have := h.1 (79 + 10 * β) (by have := h.lt hβ (show 3 < 10 by decide); omega)
  rwa [okq_e] at this
theorem Vr.t {n β : Nat} {r : Nat → Int32} (h : Vr n r) (hβ : β < nb r) : inR (r (80 + 10 * β)) 9 := by
  have := h.1 (80 + 10 * β) (by have := h.lt hβ (show 4 < 10 by decide); omega)
  rwa [okq_t] at this
theorem Vr.h {n β s : Nat} {r : Nat → Int32} (h : Vr n r) (hβ : β < nb r) (hs : s < 5) : inR (r (81 + 10 * β + s)) (99 * n) := by
  have := h.1 (81 + 10 * β + s) (by have := h.lt hβ (show 5 + s < 10 by omega); omega)
  rwa [okq_h hs] at this
theorem Vr.vs {n : Nat} {r : Nat → Int32} (h : Vr n r) : Vs r := by
  refine ⟨fun j hj => ?_, fun s hs => h.sl hs, h.l (Or.inl rfl), h.l (Or.inr rfl)⟩
  have := h.st (s := j / 5) (k := j % 5) (by omega) (by omega)
  exact this
/-! what a boat takes lies within the stock -/
theorem ctch_n {k a m s : Nat} (hk : k < 6) (ha : a ≤ 99) (hm : m ≤ 9) : ∃ c : Nat, c < 2 ^ 31 ∧ ctch k (nI a) (nI s) (nI m) = nI c := by
  have e : nI a / nI 4 = nI (a / 4) := pk_div (by omega) (by omega) (by omega)
  match k, hk with
  | 0, _ => exact ⟨a / 4, by omega, e⟩
  | 1, _ => exact ⟨a / 4 * 2, by omega, by show nI a / nI 4 * nI 2 = _; rw [e, nI_mul]⟩
  | 2, _ => exact ⟨a / 4 + m, by omega, by show nI a / nI 4 + nI m = _; rw [e, nI_add]⟩
  | 3, _ =>
    show ∃ c : Nat, c < 2 ^ 31 ∧ (if nI s = nI 2 then nI 0 else nI a / nI 4 * nI 2) = nI c
    split
    · exact ⟨0, by omega, rfl⟩
    · exact ⟨a / 4 * 2, by omega, by rw [e, nI_mul]⟩
  | 4, _ => exact ⟨(a / 4 + m) * 2, by omega, by show (nI a / nI 4 + nI m) * nI 2 = _; rw [e, nI_add, nI_mul]⟩
  | 5, _ =>
    show ∃ c : Nat, c < 2 ^ 31 ∧ (if nI s = rem5 (nI m) then nI a else nI a / nI 4) = nI c
    split
    · exact ⟨a, by omega, rfl⟩
    · exact ⟨a / 4, by omega, e⟩
theorem tear_n {k m e : Nat} (hk : k < 6) (hm : m ≤ 9) : ∃ c : Nat, c ≤ 11 ∧ tear k (nI m) (nI e) = nI c := by
  match k, hk with
  | 0, _ => exact ⟨1, by omega, rfl⟩
  | 1, _ => exact ⟨0, by omega, rfl⟩
  | 2, _ => exact ⟨2, by omega, rfl⟩
  | 3, _ =>
    show ∃ c : Nat, c ≤ 11 ∧ (if nI 3 ≤ nI e then nI 0 else nI 1) = nI c
    split
    · exact ⟨0, by omega, rfl⟩
    · exact ⟨1, by omega, rfl⟩
  | 4, _ => exact ⟨2 + m, by omega, by show nI 2 + nI m = _; rw [nI_add]⟩
  | 5, _ => exact ⟨0, by omega, rfl⟩
theorem tkV_n {n β a k s : Nat} {r : Nat → Int32} (V : Vr n r) (hβ : β < nb r) (ha : a < 8) (hk : k < 6) (hs : s < 5) : ∃ x v : Nat, v ≤ x ∧ x ≤ 99 ∧ r (12 + 7 * a + s) = nI x ∧ tkV r β a k s = nI v := by
  obtain ⟨x, hx, ex⟩ := V.st ha hs
  obtain ⟨m, hm, em⟩ := V.m hβ
  obtain ⟨c, hc, ec⟩ := ctch_n (s := s) hk hx hm
  unfold tkV tk
  rw [ex, em, ec]
  by_cases h1 : szI s < r (79 + 10 * β)
  · rw [if_pos h1]; exact ⟨x, 0, by omega, hx, rfl, rfl⟩
  · rw [if_neg h1]
    by_cases h2 : c < x
    · rw [if_pos ((nI_ltI hc (by omega)).mpr h2)]; exact ⟨x, c, by omega, hx, rfl, rfl⟩
    · rw [if_neg (fun z => h2 ((nI_ltI hc (by omega)).mp z))]; exact ⟨x, x, by omega, hx, rfl, rfl⟩
theorem cl9_n {x : Nat} (h : x < 2 ^ 31) : inR (cl9 (nI x)) 9 := by
  unfold cl9
  split
  · rename_i z
    have := (nI_ltI h (by decide)).mp z
    exact ⟨x, by omega, rfl⟩
  · exact ⟨9, by omega, rfl⟩
theorem Vr_dg2 {n β a k s : Nat} {r : Nat → Int32} (V : Vr (n + 1) r) (hβ : β < nb r) (ha : a < 8) (hk : k < 6) (hs : s < 5) (hh : inR (r (81 + 10 * β + s)) (99 * n)) : Vr (n + 1) (dg2 r β a s (tkV r β a k s)) := by
  obtain ⟨x, v, h1, h2, ex, ev⟩ := tkV_n V hβ ha hk hs
  obtain ⟨y, hy, ey⟩ := hh
  unfold dg2
  refine (V.put (lim_lt (by omega)) (by omega) ?_).put ?_ (by omega) ?_
  · rw [okq_s ha hs, ex, ev, nI_sub h1]; exact ⟨x - v, by omega, rfl⟩
  · rw [lim_upr (by omega)]; have := V.lt hβ (show 5 + s < 10 by omega); omega
  · rw [okq_h hs, ey, ev, nI_add]; exact ⟨y + v, by omega, rfl⟩
theorem Vr_dgT {n β k : Nat} {r : Nat → Int32} (V : Vr n r) (hβ : β < nb r) (hk : k < 6) : Vr n (dgT r β k) := by
  obtain ⟨t, ht, et⟩ := V.t hβ
  obtain ⟨m, hm, em⟩ := V.m hβ
  obtain ⟨e, he, ee⟩ := V.e hβ
  obtain ⟨c, hc, ec⟩ := tear_n (e := e) hk hm
  unfold dgT
  refine V.put (by have := V.lt hβ (show 4 < 10 by omega); omega) (by omega) ?_
  rw [okq_t, et, em, ee, ec, nI_add]
  exact cl9_n (by omega)
theorem nb_dgT {r : Nat → Int32} {β k : Nat} : nb (dgT r β k) = nb r := by
  unfold nb
  rw [dgT_out (by omega)]
theorem Vr_dgr {n β a k : Nat} {r : Nat → Int32} (V : Vr n r) (hβ : β < nb r) (ha : a < 8) (hk : k < 6) : ∀ s, s ≤ 5 → Vr (n + 1) (dgr r β a k s)
  | 0, _ => V.mono (by omega)
  | s + 1, hs => by
    have V1 := Vr_dgr V hβ ha hk s (by omega)
    have hk' := dgr_keep (r := r) (β := β) (a := a) (k := k) (n := s) ha (by omega)
    have hβ1 : β < nb (dgr r β a k s) := by rw [hk'.2.2.2.2.2.1]; exact hβ
    have hh : inR (dgr r β a k s (81 + 10 * β + s)) (99 * n) := by
      rw [dgr_out (by omega) s (fun j hj => by omega)]
      exact V.h hβ (by omega)
    have V2 := Vr_dg2 V1 hβ1 ha hk (show s < 5 by omega) hh
    show Vr (n + 1) (dg1 (dgr r β a k s) β a k s)
    unfold dg1
    split
    · exact Vr_dgT V2 (by rw [nb_dg2]; exact hβ1) hk
    · exact V2
theorem Vr_dgE {n a : Nat} {r : Nat → Int32} {x : Int32} (V : Vr n r) (ha : a < 8) : Vr n (dgE r a x) := by
  unfold dgE
  refine (V.put (lim_lt (by omega)) (by omega) ?_).put ?_ (by omega) ?_
  · rw [okq_f (by omega)]; trivial
  · rw [lim_upr (by omega)]; exact lim_lt (by omega)
  · rw [okq_f (by omega)]; trivial
theorem Vr_hl {n β a k : Nat} {r : Nat → Int32} (V : Vr n r) (hβ : β < nb r) (ha : a < 8) (hk : k < 6) : Vr (n + 1) (hlR r β a k) := by
  unfold hlR
  split
  · exact V.mono (by omega)
  · exact Vr_dgE (Vr_dgr V hβ ha hk 5 (by omega)) ha
theorem dgE_out {r : Nat → Int32} {a q : Nat} {x : Int32} (h1 : ¬ q = 18 + 7 * a) (h2 : ¬ q = 69 + 2 * (a / 2)) : dgE r a x q = r q := by
  unfold dgE
  rw [upr_ne _ _ h2, upr_ne _ _ h1]
/-- what a haul leaves as it is -/
theorem hlR_out {r : Nat → Int32} {β a k q : Nat} (h1 : ¬ (12 + 7 * a ≤ q ∧ q < 17 + 7 * a)) (h2 : ¬ (80 + 10 * β ≤ q ∧ q < 86 + 10 * β)) (h3 : ¬ q = 18 + 7 * a) (h4 : ¬ q = 69 + 2 * (a / 2)) : hlR r β a k q = r q := by
  unfold hlR
  split
  · rfl
  · rw [dgE_out h3 h4, dgr_out (by omega) 5 (fun s hs => by omega)]
theorem nb_hl {r : Nat → Int32} {β a k : Nat} : nb (hlR r β a k) = nb r := by
  unfold nb
  rw [hlR_out (by omega) (by omega) (by omega) (by omega)]
theorem Vr_bell1 {n : Nat} {r : Nat → Int32} (V : Vr n r) : ∀ j, j ≤ 40 → Vr n (bell1 r j)
  | 0, _ => V
  | j + 1, hj => by
    have V1 := Vr_bell1 V j (by omega)
    show Vr n (upr (bell1 r j) (pq j) _)
    refine V1.put (lim_lt (by unfold pq; omega)) (by unfold pq; omega) ?_
    have : pq j = 12 + 7 * (j / 5) + j % 5 := rfl
    rw [this, okq_s (by omega) (by omega)]
    exact inR_cl (Vs_grow V1.vs (by omega))
theorem Vr_bell2 {n : Nat} {r : Nat → Int32} (V : Vr n r) : ∀ s, s ≤ 8 → Vr n (bell2 r s)
  | 0, _ => V
  | s + 1, hs => by
    have V1 := Vr_bell2 V s (by omega)
    show Vr n (upr (bell2 r s) (12 + 7 * s) _)
    refine V1.put (lim_lt (by omega)) (by omega) ?_
    have h0 : ∀ x, okq n (12 + 7 * s) x = inR x 99 := fun x => okq_s (s := s) (k := 0) (by omega) (by omega)
    rw [h0]
    exact inR_cl (Vs_flow V.vs (by omega))
theorem Vr_bell {n : Nat} {r : Nat → Int32} (V : Vr n r) : Vr n (bell r) := by
  unfold bell
  refine (Vr_bell2 (Vr_bell1 V 40 (by omega)) 8 (by omega)).put (lim_lt (by omega)) (by omega) ?_
  rw [okq_f (by omega)]; trivial
theorem bell1_outn {r : Nat → Int32} {q : Nat} : ∀ n, (∀ j, j < n → ¬ q = pq j) → bell1 r n q = r q
  | 0, _ => rfl
  | n + 1, h => by
    show upr (bell1 r n) (pq n) _ q = r q
    rw [upr_ne _ _ (h n (by omega))]
    exact bell1_outn n (fun j hj => h j (by omega))
theorem bell_out {r : Nat → Int32} {q : Nat} (h : q < 3 ∨ 4 ≤ q ∧ q < 12 ∨ 68 ≤ q ∨ 12 ≤ q ∧ q < 68 ∧ 5 ≤ (q - 12) % 7) : bell r q = r q := by
  unfold bell
  rw [upr_ne _ _ (by omega), bell2_out 8 (fun s hs => by omega), bell1_outn 40 (fun j hj => by unfold pq; omega)]
theorem nb_bell {r : Nat → Int32} : nb (bell r) = nb r := by
  unfold nb
  rw [bell_out (by omega)]
end
