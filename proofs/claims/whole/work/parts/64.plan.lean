section
/-! plans: the ways, said once -/
def opt (a d : Nat) : Nat := if a = 0 then (if d < 2 then d else 7) else if a = 7 then (if d = 0 then 0 else 5 + d) else a - 1 + d
theorem opt_lt : ∀ a, a < 8 → ∀ d, d < 3 → opt a d < 8 := by decide +kernel
def stpR (r : Nat → Int32) (β k s : Nat) : Nat → Int32 := bell (hlR (upr r (78 + 10 * β) (nI s)) β s k)
def stpW (r : Nat → Int32) (β k s : Nat) : Nat := (hlW (upr r (78 + 10 * β) (nI s)) β s k).toNatClampNeg
def updB (w : Nat) (p : Nat → Nat) (B : Option (Nat × (Nat → Nat))) : Option (Nat × (Nat → Nat)) := match B with
  | none => some (w, p)
  | some x => if x.1 < w then some (w, p) else some x
def setp (p : Nat → Nat) (i s : Nat) : Nat → Nat := fun q => if q = i then s else p q
def fd {α : Type} (g : Nat → α → α) : Nat → α → α
  | 0, B => B
  | m + 1, B => g m (fd g m B)
def EW (β k : Nat) : Nat → Nat → (Nat → Int32) → Nat → (Nat → Nat) → Option (Nat × (Nat → Nat)) → Option (Nat × (Nat → Nat))
  | 0, _, _, w, p, B => updB w p B
  | j + 1, i, r, w, p, B => fd (fun d B => EW β k j (i + 1) (stpR r β k (opt (aN r β) d)) (w + stpW r β k (opt (aN r β) d)) (setp p i (opt (aN r β) d)) B) 3 B
theorem stp_ok {n β k : Nat} {r : Nat → Int32} (V : Vr n r) (hβ : β < nb r) (hk : k < 6) (ek : r (76 + 10 * β) = nI k) {s : Nat} (hs : s < 8) :
    Vr n (upr r (78 + 10 * β) (nI s)) ∧ Bt (upr r (78 + 10 * β) (nI s)) β s k ∧ Vr (n + 1) (stpR r β k s) ∧ Bt (stpR r β k s) β s k ∧ stpW r β k s ≤ 14850 ∧ hlW (upr r (78 + 10 * β) (nI s)) β s k = nI (stpW r β k s) := by
  have V1 : Vr n (upr r (78 + 10 * β) (nI s)) := V.put (by have := V.lt hβ (show 2 < 10 by decide); omega) (by omega) (by rw [okq_a]; exact ⟨s, by omega, rfl⟩)
  have hb : β < nb (upr r (78 + 10 * β) (nI s)) := by rw [nb_upr (by omega)]; exact hβ
  have B1 : Bt (upr r (78 + 10 * β) (nI s)) β s k := ⟨hb, hs, hk, upr_same _ _ _, by rw [upr_ne _ _ (by omega)]; exact ek⟩
  obtain ⟨x, hx, ex⟩ := hlW_n V1 hb hs hk
  refine ⟨V1, B1, Vr_bell (Vr_hl V1 hb hs hk), (B1.hl hs).bell, ?_, ?_⟩
  · unfold stpW; rw [ex, nI_clamp (by omega)]; exact hx
  · unfold stpW; rw [ex, nI_clamp (by omega)]
theorem Bt.an {r : Nat → Int32} {β a k : Nat} (B : Bt r β a k) : aN r β = a := by
  have := B.2.1
  unfold aN
  rw [B.2.2.2.1, nI_clamp (by omega)]
/-! the class's: explore -/
variable {b n : Nat} {h : PH} {r : Nat → Int32} {f : Nat → Nat → Int32}
theorem FR.r160 (F : FR h) {i : Nat} (hi : i < 5) : hR h 160 i = some (163 + 14 * i) := by
  match i, hi with
  | 0, _ => exact F.r160_0
  | 1, _ => exact F.r160_1
  | 2, _ => exact F.r160_2
  | 3, _ => exact F.r160_3
  | 4, _ => exact F.r160_4
theorem FR.wS (F : FR h) {i : Nat} (hi : i < 5) : WB h (163 + 14 * i) := by
  match i, hi with
  | 0, _ => exact F.w163
  | 1, _ => exact F.w177
  | 2, _ => exact F.w191
  | 3, _ => exact F.w205
  | 4, _ => exact F.w219
def repB (f : Nat → Nat → Int32) (t : Nat) (B : Option (Nat × (Nat → Nat))) : Prop := match B with
  | none => f 159 5 = Int32.ofInt (-1)
  | some x => f 159 5 = nI x.1 ∧ x.1 < 1000000 ∧ ∀ q, q < t → f 162 q = nI (x.2 q)
def OUT (i : Nat) (f f' : Nat → Nat → Int32) : Prop := ∀ a k, ¬ (163 + 14 * (i + 1) ≤ a ∧ a < 233) → ¬ (a = 161 ∧ i ≤ k) → ¬ a = 162 → ¬ (a = 159 ∧ k = 5) → f' a k = f a k
theorem OUT.refl (i : Nat) (f : Nat → Nat → Int32) : OUT i f f := fun _ _ _ _ _ _ => rfl
theorem OUT.trans {i : Nat} {f g k : Nat → Nat → Int32} (h1 : OUT i f g) (h2 : OUT i g k) : OUT i f k := fun a j x y z w => (h2 a j x y z w).trans (h1 a j x y z w)
theorem OUT.down {i : Nat} {f g : Nat → Nat → Int32} (h1 : OUT (i + 1) f g) : OUT i f g := fun a j x y z w => h1 a j (by omega) (by omega) z w
theorem TB_of {f g : Nat → Nat → Int32} (e : ∀ a k, a < 100 ∨ a = 238 → g a k = f a k) (T : TB f) : TB g := by
  obtain ⟨t1, ⟨a1, a2, a3⟩, ⟨b1, b2, b3⟩, ⟨c1, c2, c3⟩, d1, d2, d3, d4, d5⟩ := T
  exact ⟨fun s hs => ⟨(e 5 s (by decide)).trans (t1 s hs).1, (e 238 s (by decide)).trans (t1 s hs).2⟩, ⟨(e 3 0 (by decide)).trans a1, (e 3 1 (by decide)).trans a2, (e 3 2 (by decide)).trans a3⟩, ⟨(e 4 0 (by decide)).trans b1, (e 4 1 (by decide)).trans b2, (e 4 2 (by decide)).trans b3⟩, ⟨(e 1 0 (by decide)).trans c1, (e 1 1 (by decide)).trans c2, (e 1 2 (by decide)).trans c3⟩, (e 2 0 (by decide)).trans d1, (e 2 1 (by decide)).trans d2, (e 2 2 (by decide)).trans d3, (e 2 3 (by decide)).trans d4, (e 2 4 (by decide)).trans d5⟩
theorem OUT.tb {i : Nat} {f g : Nat → Nat → Int32} (H : OUT i f g) (T : TB f) : TB g := TB_of (fun a k ha => H a k (by omega) (by omega) (by omega) (by omega)) T
theorem m1_nle {w : Nat} (hw : w < 1000000) : ¬ nI w ≤ Int32.ofInt (-1) := fun z => by
  have : nI w < nI 0 := Int32.lt_of_le_of_lt z (by decide)
  have := (nI_ltI (by omega) (by decide)).mp this
  omega
theorem repB_copy {f : Nat → Nat → Int32} {t w : Nat} {p : Nat → Nat} (ht : t ≤ 4) (hw : w < 1000000) (hp : ∀ q, q < t → f 161 q = nI (p q)) : repB (cpf (up2 f 159 5 (nI w)) 161 162 4) t (some (w, p)) := by
  refine ⟨?_, hw, fun q hq => ?_⟩
  · rw [cpf_ne (by decide), up2_same]
  · rw [cpf_eq, if_pos (show q < 4 by omega), up2_ne _ _ (show ¬ 161 = 159 by decide)]
    exact hp q hq
theorem e_endWay (F : FR h) (d t w : Nat) (p : Nat → Nat) (B : Option (Nat × (Nat → Nat))) (ht : t ≤ 4) (hw : w < 1000000) (f : Nat → Nat → Int32) (hB : repB f t B) (hp : ∀ q, q < t → f 161 q = nI (p q)) (i : Nat) :
    ∃ f', OUT i f f' ∧ repB f' t (updB w p B) ∧ ∀ Q, Run d 2265 [.ref 159, .int (nI w)] (wI h f) Q = Q none (wI h f') := by
  have go : OUT i f (cpf (up2 f 159 5 (nI w)) 161 162 4) := fun a k x y z u => by
    rw [cpf_ne z]
    by_cases h1 : a = 159
    · subst h1; rw [up2_nk _ _ (fun e => u ⟨rfl, e⟩)]
    · rw [up2_ne _ _ h1]
  match B, hB with
  | none, hB =>
    have hB' : f 159 5 = Int32.ofInt (-1) := hB
    have z := m1_nle hw
    refine ⟨cpf (up2 f 159 5 (nI w)) 161 162 4, go, repB_copy ht hw hp, fun Q => ?_⟩
    simp -implicitDefEqProofs (disch := first | omega | (simp (disch := omega) only [nb_upr]; omega)) only [R_2265, w_2265_0, w_2265_1, zi_88, zi_0, zi_0n, zi_178, zi_702, zi_181, zi_202, zi_31, zi_209, zi_9, zi_610, zi_33, zi_41, F.t159, F.r159_1, F.t161, F.l161, F.r159_2, F.t162, F.l162, kC_eq, toL_s, toL_n, okS0, okS1, okS2, okS3, okS4, okS5, true_and, and_true, hT_wI, hL_wI, hR_wI, hI_wI, hJ_wI, sI_wI, rfP, isIA_100, isIA_120, inb_ok, nI_clamp, nI_add, nI_mul, ↓reduceIte, not_false_eq_true, not_true_eq_false, true_or, or_true, ↓bI_01, ↓b01_0, ↓b01_1, bI_0, z00, z10, n4, n5, n2, n8, Nat.reduceMul, Nat.reduceAdd, Nat.reduceLT, Nat.reduceLeDiff, hB', z, nIp, cpI_wI, Nat.zero_add, Nat.le_refl]
  | some x, hB =>
    obtain ⟨h1, h2, h3⟩ := hB
    by_cases z : x.1 < w
    · have z' : ¬ w ≤ x.1 := by omega
      refine ⟨cpf (up2 f 159 5 (nI w)) 161 162 4, go, ?_, fun Q => ?_⟩
      · have e : updB w p (some x) = some (w, p) := if_pos z
        rw [e]
        exact repB_copy ht hw hp
      · simp -implicitDefEqProofs (disch := first | omega | (simp (disch := omega) only [nb_upr]; omega)) only [R_2265, w_2265_0, w_2265_1, zi_88, zi_0, zi_0n, zi_178, zi_702, zi_181, zi_202, zi_31, zi_209, zi_9, zi_610, zi_33, zi_41, F.t159, F.r159_1, F.t161, F.l161, F.r159_2, F.t162, F.l162, kC_eq, toL_s, toL_n, okS0, okS1, okS2, okS3, okS4, okS5, true_and, and_true, hT_wI, hL_wI, hR_wI, hI_wI, hJ_wI, sI_wI, rfP, isIA_100, isIA_120, inb_ok, nI_clamp, nI_add, nI_mul, ↓reduceIte, not_false_eq_true, not_true_eq_false, true_or, or_true, ↓bI_01, ↓b01_0, ↓b01_1, bI_0, z00, z10, n4, n5, n2, n8, Nat.reduceMul, Nat.reduceAdd, Nat.reduceLT, Nat.reduceLeDiff, nI_eq, nI_leI, nI_ltI, Nat.reduceEqDiff, pk_div, nI_sub, Nat.reduceDiv, Nat.reduceSub, h1, z', nIp, cpI_wI, Nat.zero_add, Nat.le_refl]
    · have z' : w ≤ x.1 := by omega
      refine ⟨f, OUT.refl i f, ?_, fun Q => ?_⟩
      · have e : updB w p (some x) = some x := if_neg z
        rw [e]
        exact ⟨h1, h2, h3⟩
      · simp -implicitDefEqProofs (disch := first | omega | (simp (disch := omega) only [nb_upr]; omega)) only [R_2265, w_2265_0, w_2265_1, zi_88, zi_0, zi_0n, zi_178, zi_702, zi_181, zi_202, zi_31, zi_209, zi_9, zi_610, zi_33, zi_41, F.t159, F.r159_1, F.t161, F.l161, F.r159_2, F.t162, F.l162, kC_eq, toL_s, toL_n, okS0, okS1, okS2, okS3, okS4, okS5, true_and, and_true, hT_wI, hL_wI, hR_wI, hI_wI, hJ_wI, sI_wI, rfP, isIA_100, isIA_120, inb_ok, nI_clamp, nI_add, nI_mul, ↓reduceIte, not_false_eq_true, not_true_eq_false, true_or, or_true, ↓bI_01, ↓b01_0, ↓b01_1, bI_0, z00, z10, n4, n5, n2, n8, Nat.reduceMul, Nat.reduceAdd, Nat.reduceLT, Nat.reduceLeDiff, nI_eq, nI_leI, nI_ltI, Nat.reduceEqDiff, pk_div, nI_sub, Nat.reduceDiv, Nat.reduceSub, h1, z']
def onw (a s : Nat) : Nat := (s + 8 - a) % 8
theorem on_eq : ∀ a, a < 8 → ∀ s, s < 8 → nI s - nI a + nI 8 - (nI s - nI a + nI 8) / nI 8 * nI 8 = nI (onw a s) := by decide +kernel
def cnt (a s : Nat) : Nat := (if opt a 0 < s then 1 else 0) + (if opt a 1 < s then 1 else 0) + (if opt a 2 < s then 1 else 0)
theorem cnt_v : ∀ a, a < 8 → ∀ s, s < 8 → (onw a s ≤ 1 ∨ onw a s = 7) → cnt a s < 3 ∧ opt a (cnt a s) = s ∧ cnt a (s + 1) = cnt a s + 1 := by decide +kernel
theorem cnt_n : ∀ a, a < 8 → ∀ s, s < 8 → ¬ (onw a s ≤ 1 ∨ onw a s = 7) → cnt a (s + 1) = cnt a s := by decide +kernel
theorem cnt_0 : ∀ a, a < 8 → cnt a 0 = 0 ∧ cnt a 8 = 3 := by decide +kernel
/-! what a boat holds more than at first is what it hauled -/
theorem woIn_eq {r r' : Nat → Int32} {β : Nat} : ∀ m, m ≤ 5 → (∀ q, q < 5 → r' (81 + 10 * β + q) = r (81 + 10 * β + q)) → (∀ q, q < 5 → r' (7 + q) = r (7 + q)) → woIn r' β m = woIn r β m
  | 0, _, _, _ => rfl
  | m + 1, hm, h1, h2 => by
    show woIn r' β m + r' (81 + 10 * β + m) * r' (7 + m) = woIn r β m + r (81 + 10 * β + m) * r (7 + m)
    rw [woIn_eq m (by omega) h1 h2, h1 m (by omega), h2 m (by omega)]
theorem woIn_stp {n β k : Nat} {r : Nat → Int32} (V : Vr n r) (hβ : β < nb r) (hk : k < 6) (ek : r (76 + 10 * β) = nI k) {s : Nat} (hs : s < 8) : woIn (stpR r β k s) β 5 = woIn r β 5 + nI (stpW r β k s) := by
  obtain ⟨-, -, -, -, -, ew⟩ := stp_ok V hβ hk ek hs
  have hw := hl_worth (upr r (78 + 10 * β) (nI s)) β s k hs
  have e1 : woIn (stpR r β k s) β 5 = woIn (hlR (upr r (78 + 10 * β) (nI s)) β s k) β 5 := woIn_eq 5 (Nat.le_refl 5) (fun q hq => bell_out (by omega)) (fun q hq => bell_out (by omega))
  have e2 : woIn (upr r (78 + 10 * β) (nI s)) β 5 = woIn r β 5 := woIn_eq 5 (Nat.le_refl 5) (fun q hq => upr_ne _ _ (by omega)) (fun q hq => upr_ne _ _ (by omega))
  rw [ew, e2] at hw
  rw [e1, ← hw, Int32.add_comm, Int32.sub_add_cancel]
theorem e_heldW (w : WB h b) (e : rv f b = r) {β : Nat} (hβ : β < nb r) (h6 : β < 6) (d : Nat) (Q : Option Value → PH → Prop) : Run d 1617 [.ref b, .int (nI β)] (wI h f) Q = Q (some (.int (woIn r β 5))) (wI h f) := by
  have := e_worthHeld d b h f r w β hβ h6 Q
  rwa [← e, ww_rv, e] at this
theorem ex_loop (F : FR h) (d t i j w a β k : Nat) (r0 : Nat → Int32) (p : Nat → Nat) (B0 : Option (Nat × (Nat → Nat))) (V : Vr n r) (Bb : Bt r β a k) (hit : i + (j + 1) = t) (ht : t ≤ 4) (hd : 7 ≤ d) (hw : w ≤ 14850 * i) (hr : woIn r β 5 = woIn r0 β 5 + nI w)
    (IH : ∀ (r' : Nat → Int32) (a' w' : Nat) (p' : Nat → Nat) (B : Option (Nat × (Nat → Nat))) (f : Nat → Nat → Int32), Vr (n + 1) r' → Bt r' β a' k → w' ≤ 14850 * (i + 1) → woIn r' β 5 = woIn r0 β 5 + nI w' → rv f 163 = r0 → TB f → rv f (163 + 14 * (i + 1)) = r' → (∀ q, q < i + 1 → f 161 q = nI (p' q)) → f 159 3 = nI β → f 159 4 = nI t → repB f t B →
      ∃ f', OUT (i + 1) f f' ∧ repB f' t (EW β k j (i + 1) r' w' p' B) ∧ ∀ Q, Run (d - 1) 314 [.ref 159, .int (nI (i + 1))] (wI h f) Q = Q none (wI h f')) :
    ∀ (l s : Nat) (f : Nat → Nat → Int32) (v6 : Value), s + l = 8 → rv f 163 = r0 → TB f → rv f (163 + 14 * i) = r → (∀ q, q < i → f 161 q = nI (p q)) → f 159 3 = nI β → f 159 4 = nI t → repB f t (fd (fun dd B => EW β k j (i + 1) (stpR r β k (opt a dd)) (w + stpW r β k (opt a dd)) (setp p i (opt a dd)) B) (cnt a s) B0) →
      ∃ f', OUT i f f' ∧ repB f' t (fd (fun dd B => EW β k j (i + 1) (stpR r β k (opt a dd)) (w + stpW r β k (opt a dd)) (setp p i (opt a dd)) B) 3 B0) ∧ ∀ Q, WP d 314 3 [.ref 159, .int (nI i), .ref (163 + 14 * i), .ref (163 + 14 * (i + 1)), .int (nI a), .int (nI s), v6] [] (wI h f) Q = Q none (wI h f') := by
  intro l
  induction l with
  | zero =>
    intro s f v6 hs e0 T e1 e2 e3 e4 e5
    obtain rfl : s = 8 := by omega
    rw [(cnt_0 a Bb.2.1).2] at e5
    refine ⟨f, OUT.refl i f, e5, fun Q => ?_⟩
    rw [w_314_3]
    simp -implicitDefEqProofs (disch := first | omega | (simp (disch := omega) only [nb_upr]; omega)) only [w_314_6, zi_0, zi_0n, zi_182, zi_88, zi_183, zi_712i, zi_712r, zi_712u, zi_712a, zi_712ni, zi_712nr, zi_712nu, zi_712na, zi_185, zi_186, zi_9, zi_187, zi_33, zi_719, zi_719n, zi_192, zi_147, zi_31, zi_101, zi_188, zi_41, zi_48, zi_70, zi_189i, zi_189r, zi_189u, zi_189a, zi_189ni, zi_189nr, zi_189nu, zi_189na, zi_144, zi_106, zi_74i, zi_74r, zi_74u, zi_74a, zi_164i, zi_164r, zi_164u, zi_164a, zi_75, zi_165, zi_64, zi_195, zi_76, zi_196, zi_193i, zi_193r, zi_193u, zi_193a, zi_194, zi_199, zi_123, zi_200, zi_133, zi_191, zi_191n, zi_102, zi_38, zi_202, zi_152, zi_215i, zi_215r, zi_160, zi_823, zi_206, zi_168i, zi_168r, zi_168u, zi_168a, zi_86, kC_eq, toL_s, toL_n, okS0, okS1, okS2, okS3, okS4, okS5, true_and, and_true, hT_wI, hL_wI, hR_wI, hI_wI, hJ_wI, sI_wI, rfP, isIA_100, isIA_120, inb_ok, nI_clamp, nI_add, nI_mul, ↓reduceIte, not_false_eq_true, not_true_eq_false, true_or, or_true, ↓bI_01, ↓b01_0, ↓b01_1, bI_0, z00, z10, n4, n5, n2, n8, Nat.reduceMul, Nat.reduceAdd, Nat.reduceLT, Nat.reduceLeDiff, nI_eq, nI_leI, nI_ltI, Nat.reduceEqDiff, pk_div, nI_sub, Nat.reduceDiv, Nat.reduceSub, Nat.le_refl]
  | succ l ih0 =>
    intro s f v6 hs e0 T e1 e2 e3 e4 e5
    have hg : ¬ nI 8 ≤ nI s := nI_ge (by omega) (by decide)
    have ha := Bb.2.1
    have hs8 : s < 8 := by omega
    have eo := on_eq a ha s hs8
    have ho : onw a s < 8 := Nat.mod_lt _ (by decide)
    by_cases hv : onw a s ≤ 1 ∨ onw a s = 7
    · obtain ⟨c1, c2, c3⟩ := cnt_v a ha s hs8 hv
      have hβ := Bb.1
      have h6 := V.nb6
      have wf := F.wS (i := i) (by omega)
      have wt := F.wS (i := i + 1) (by omega)
      obtain ⟨V1, B1, V2, B2, hw2, ew⟩ := stp_ok V hβ Bb.2.2.1 Bb.2.2.2.2 hs8
      obtain ⟨X, hX, ec⟩ := e_copy (h := h) (163 + 14 * (i + 1)) (163 + 14 * i) wt wf (by omega) f
      rw [e1] at ec
      have TX : TB (up2 X 161 i (nI s)) := TB_of (fun a k ha => by rw [up2_ne _ _ (by omega), hX a k (by omega)]) T
      have eG : ∀ a k, ¬ (163 + 14 * (i + 1) ≤ a ∧ a < 163 + 14 * (i + 1) + 14) → ww (up2 X 161 i (nI s)) (163 + 14 * (i + 1)) (stpR r β k (opt a (cnt a s))) a k = up2 X 161 i (nI s) a k := fun a k ha => ww_out ha
      have eG' : ∀ (ρ : Nat → Int32) (a k : Nat), ¬ (163 + 14 * (i + 1) ≤ a ∧ a < 163 + 14 * (i + 1) + 14) → ¬ (a = 161 ∧ i ≤ k) → ww (up2 X 161 i (nI s)) (163 + 14 * (i + 1)) ρ a k = f a k := fun ρ a k ha hb => by
        rw [ww_out ha]
        by_cases h1 : a = 161
        · subst h1; rw [up2_nk _ _ (fun e => hb ⟨rfl, by omega⟩), hX _ _ ha]
        · rw [up2_ne _ _ h1, hX _ _ ha]
      obtain ⟨f1, o1, r1, x1⟩ := IH (stpR r β k s) s (w + stpW r β k s) (setp p i s) _ (ww (up2 X 161 i (nI s)) (163 + 14 * (i + 1)) (stpR r β k s)) V2 B2 (by omega) (by rw [woIn_stp V hβ Bb.2.2.1 Bb.2.2.2.2 hs8, hr, Int32.add_assoc, nI_add])
        (by rw [← e0]; exact rv_eq (fun a k h1 h2 => eG' _ a k (by omega) (by omega)))
        (TB_of (fun a k ha => by rw [ww_out (by omega)]) TX) (rv_ww V2.z) (fun q hq => by
          rw [ww_out (by omega)]
          unfold setp
          by_cases h1 : q = i
          · subst h1; rw [if_pos rfl, up2_same]
          · rw [if_neg h1, up2_nk _ _ h1, hX _ _ (by omega)]; exact e2 q (by omega)) (by rw [eG' _ _ _ (by omega) (by omega)]; exact e3) (by rw [eG' _ _ _ (by omega) (by omega)]; exact e4)
        (show repB _ t _ from by
          have e6 : ∀ B, repB f t B → repB (ww (up2 X 161 i (nI s)) (163 + 14 * (i + 1)) (stpR r β k s)) t B := fun B hB => by
            match B, hB with
            | none, hB => show ww _ _ _ 159 5 = _; rw [eG' _ _ _ (by omega) (by omega)]; exact hB
            | some x, hB =>
              refine ⟨?_, hB.2.1, fun q hq => ?_⟩
              · rw [eG' _ _ _ (by omega) (by omega)]; exact hB.1
              · rw [eG' _ _ _ (by omega) (by omega)]; exact hB.2.2 q hq
          exact e6 _ e5)
      have o0 : OUT i f (ww (up2 X 161 i (nI s)) (163 + 14 * (i + 1)) (stpR r β k s)) := fun a k x y z u => eG' _ a k (by omega) (by omega)
      have oo := o0.trans o1.down
      have ef : fd (fun dd B => EW β k j (i + 1) (stpR r β k (opt a dd)) (w + stpW r β k (opt a dd)) (setp p i (opt a dd)) B) (cnt a (s + 1)) B0 = EW β k j (i + 1) (stpR r β k s) (w + stpW r β k s) (setp p i s) (fd (fun dd B => EW β k j (i + 1) (stpR r β k (opt a dd)) (w + stpW r β k (opt a dd)) (setp p i (opt a dd)) B) (cnt a s) B0) := by
        rw [c3]
        show EW β k j (i + 1) (stpR r β k (opt a (cnt a s))) (w + stpW r β k (opt a (cnt a s))) (setp p i (opt a (cnt a s))) _ = _
        rw [c2]
      obtain ⟨f2, o2, r2, x2⟩ := ih0 (s + 1) f1 (.int (nI (onw a s))) (by omega) (by rw [← e0]; exact rv_eq (fun a k h1 h2 => oo a k (by omega) (by omega) (by omega) (by omega))) (oo.tb T)
        (by rw [← e1]; exact rv_eq (fun a k h1 h2 => oo a k (by omega) (by omega) (by omega) (by omega))) (fun q hq => by rw [oo 161 q (by omega) (by omega) (by omega) (by omega)]; exact e2 q hq)
        (by rw [oo 159 3 (by omega) (by omega) (by omega) (by omega)]; exact e3) (by rw [oo 159 4 (by omega) (by omega) (by omega) (by omega)]; exact e4) (by rw [ef]; exact r1)
      refine ⟨f2, oo.trans o2, r2, fun Q => ?_⟩
      have hb : β < nb r := hβ
      have T3 : f 159 3 = nI β := e3
      have go4 : WP d 314 4 [.ref 159, .int (nI i), .ref (163 + 14 * i), .ref (163 + 14 * (i + 1)), .int (nI a), .int (nI s), .int (nI (onw a s))] [] (wI h f) Q = Q none (wI h f2) := by
        have y3 : ∀ ρ, ww X (163 + 14 * (i + 1)) ρ 159 3 = nI β := fun ρ => by rw [ww_out (by omega), hX _ _ (by omega)]; exact e3
        have y3' : ∀ ρ, ww (up2 X 161 i (nI s)) (163 + 14 * (i + 1)) ρ 159 3 = nI β := fun ρ => by rw [eG' _ _ _ (by omega) (by omega)]; exact e3
        have yw : ∀ ρ, up2 (ww X (163 + 14 * (i + 1)) ρ) 161 i (nI s) = ww (up2 X 161 i (nI s)) (163 + 14 * (i + 1)) ρ := fun ρ => ww_up2 (by omega)
        have er : bell (hlR (upr r (78 + 10 * β) (nI s)) β s k) = stpR r β k s := rfl
        simp -implicitDefEqProofs (disch := first | omega | (simp (disch := omega) only [nb_upr]; omega)) only [w_314_4, w_314_5, zi_0, zi_0n, zi_182, zi_88, zi_183, zi_712i, zi_712r, zi_712u, zi_712a, zi_712ni, zi_712nr, zi_712nu, zi_712na, zi_185, zi_186, zi_9, zi_187, zi_33, zi_719, zi_719n, zi_192, zi_147, zi_31, zi_101, zi_188, zi_41, zi_48, zi_70, zi_189i, zi_189r, zi_189u, zi_189a, zi_189ni, zi_189nr, zi_189nu, zi_189na, zi_144, zi_106, zi_74i, zi_74r, zi_74u, zi_74a, zi_164i, zi_164r, zi_164u, zi_164a, zi_75, zi_165, zi_64, zi_195, zi_76, zi_196, zi_193i, zi_193r, zi_193u, zi_193a, zi_194, zi_199, zi_123, zi_200, zi_133, zi_191, zi_191n, zi_102, zi_38, zi_202, zi_152, zi_215i, zi_215r, zi_160, zi_823, zi_206, zi_168i, zi_168r, zi_168u, zi_168a, zi_86, F.t159, F.r159_0, F.r159_1, F.t161, F.l161, wt.t, wt.r10, wt.t10, wt.l10, wf.t, kC_eq, toL_s, toL_n, okS0, okS1, okS2, okS3, okS4, okS5, true_and, and_true, hT_wI, hL_wI, hR_wI, hI_wI, hJ_wI, sI_wI, rfP, isIA_100, isIA_120, inb_ok, nI_clamp, nI_add, nI_mul, ↓reduceIte, not_false_eq_true, not_true_eq_false, true_or, or_true, ↓bI_01, ↓b01_0, ↓b01_1, bI_0, z00, z10, n4, n5, n2, n8, Nat.reduceMul, Nat.reduceAdd, Nat.reduceLT, Nat.reduceLeDiff, ec, y3, y3', ws_10, yw, e_drag _ (163 + 14 * (i + 1)) h (up2 X 161 i (nI s)) _ F wt (by omega) TX β s k B1.1 (show β < 6 by omega) B1.2.1 B1.2.2.1 B1.2.2.2.1 B1.2.2.2.2, e_ring _ (163 + 14 * (i + 1)) h (up2 X 161 i (nI s)) _ wt (Vr_hl V1 B1.1 B1.2.1 B1.2.2.1).vs, er, x1]
        exact x2 Q
      rw [w_314_3]
      have q1 : (nI (onw a s) ≤ nI 1) = (onw a s ≤ 1) := propext (nI_leI (by omega) (by decide))
      have q2 : (nI (onw a s) = nI 7) = (onw a s = 7) := propext (nI_eq (by omega) (by decide))
      simp -implicitDefEqProofs (disch := first | omega | (simp (disch := omega) only [nb_upr]; omega)) only [zi_0, zi_0n, zi_182, zi_88, zi_183, zi_712i, zi_712r, zi_712u, zi_712a, zi_712ni, zi_712nr, zi_712nu, zi_712na, zi_185, zi_186, zi_9, zi_187, zi_33, zi_719, zi_719n, zi_192, zi_147, zi_31, zi_101, zi_188, zi_41, zi_48, zi_70, zi_189i, zi_189r, zi_189u, zi_189a, zi_189ni, zi_189nr, zi_189nu, zi_189na, zi_144, zi_106, zi_74i, zi_74r, zi_74u, zi_74a, zi_164i, zi_164r, zi_164u, zi_164a, zi_75, zi_165, zi_64, zi_195, zi_76, zi_196, zi_193i, zi_193r, zi_193u, zi_193a, zi_194, zi_199, zi_123, zi_200, zi_133, zi_191, zi_191n, zi_102, zi_38, zi_202, zi_152, zi_215i, zi_215r, zi_160, zi_823, zi_206, zi_168i, zi_168r, zi_168u, zi_168a, zi_86, kC_eq, toL_s, toL_n, okS0, okS1, okS2, okS3, okS4, okS5, true_and, and_true, hT_wI, hL_wI, hR_wI, hI_wI, hJ_wI, sI_wI, rfP, isIA_100, isIA_120, inb_ok, nI_clamp, nI_add, nI_mul, ↓reduceIte, not_false_eq_true, not_true_eq_false, true_or, or_true, ↓bI_01, ↓b01_0, ↓b01_1, bI_0, z00, z10, n4, n5, n2, n8, Nat.reduceMul, Nat.reduceAdd, Nat.reduceLT, Nat.reduceLeDiff, hg, eo, q1, q2, go4]
      by_cases h1 : onw a s ≤ 1
      · simp only [h1, ↓reduceIte]
      · have h7 : onw a s = 7 := by omega
        rw [if_neg h1, if_pos h7]
    · have c3 := cnt_n a ha s hs8 hv
      rw [← c3] at e5
      obtain ⟨f2, o2, r2, x2⟩ := ih0 (s + 1) f (.int (nI (onw a s))) (by omega) e0 T e1 e2 e3 e4 e5
      refine ⟨f2, o2, r2, fun Q => ?_⟩
      rw [w_314_3]
      have q1 : (nI (onw a s) ≤ nI 1) = (onw a s ≤ 1) := propext (nI_leI (by omega) (by decide))
      have q2 : (nI (onw a s) = nI 7) = (onw a s = 7) := propext (nI_eq (by omega) (by decide))
      have n1 : ¬ onw a s ≤ 1 := fun z => hv (Or.inl z)
      have n7 : ¬ onw a s = 7 := fun z => hv (Or.inr z)
      simp -implicitDefEqProofs (disch := first | omega | (simp (disch := omega) only [nb_upr]; omega)) only [w_314_5, zi_0, zi_0n, zi_182, zi_88, zi_183, zi_712i, zi_712r, zi_712u, zi_712a, zi_712ni, zi_712nr, zi_712nu, zi_712na, zi_185, zi_186, zi_9, zi_187, zi_33, zi_719, zi_719n, zi_192, zi_147, zi_31, zi_101, zi_188, zi_41, zi_48, zi_70, zi_189i, zi_189r, zi_189u, zi_189a, zi_189ni, zi_189nr, zi_189nu, zi_189na, zi_144, zi_106, zi_74i, zi_74r, zi_74u, zi_74a, zi_164i, zi_164r, zi_164u, zi_164a, zi_75, zi_165, zi_64, zi_195, zi_76, zi_196, zi_193i, zi_193r, zi_193u, zi_193a, zi_194, zi_199, zi_123, zi_200, zi_133, zi_191, zi_191n, zi_102, zi_38, zi_202, zi_152, zi_215i, zi_215r, zi_160, zi_823, zi_206, zi_168i, zi_168r, zi_168u, zi_168a, zi_86, kC_eq, toL_s, toL_n, okS0, okS1, okS2, okS3, okS4, okS5, true_and, and_true, hT_wI, hL_wI, hR_wI, hI_wI, hJ_wI, sI_wI, rfP, isIA_100, isIA_120, inb_ok, nI_clamp, nI_add, nI_mul, ↓reduceIte, not_false_eq_true, not_true_eq_false, true_or, or_true, ↓bI_01, ↓b01_0, ↓b01_1, bI_0, z00, z10, n4, n5, n2, n8, Nat.reduceMul, Nat.reduceAdd, Nat.reduceLT, Nat.reduceLeDiff, hg, eo, q1, q2, n1, n7]
      exact x2 Q
theorem e_explore (F : FR h) (β k t : Nat) (r0 : Nat → Int32) (h0 : β < nb r0) (ht : t ≤ 4) : ∀ (j : Nat) (d i n a w : Nat) (r : Nat → Int32) (p : Nat → Nat) (B : Option (Nat × (Nat → Nat))) (f : Nat → Nat → Int32), i + j = t → 8 + j ≤ d → Vr n r → Bt r β a k → w ≤ 14850 * i → woIn r β 5 = woIn r0 β 5 + nI w → rv f 163 = r0 → TB f → rv f (163 + 14 * i) = r → (∀ q, q < i → f 161 q = nI (p q)) → f 159 3 = nI β → f 159 4 = nI t → repB f t B →
    ∃ f', OUT i f f' ∧ repB f' t (EW β k j i r w p B) ∧ ∀ Q, Run d 314 [.ref 159, .int (nI i)] (wI h f) Q = Q none (wI h f') := by
  intro j
  induction j with
  | zero =>
    intro d i n a w r p B f hi hd V Bb hw hr e0 T e1 e2 e3 e4 e5
    obtain rfl : i = t := by omega
    obtain ⟨f', o, rp, x⟩ := e_endWay F (d - 1) i w p B ht (by omega) f e5 e2 i
    refine ⟨f', o, rp, fun Q => ?_⟩
    have h6 := V.nb6
    have wf := F.wS (i := i) (by omega)
    have hz : woIn r0 β 5 + nI w - woIn r0 β 5 = nI w := by rw [Int32.add_comm, Int32.add_sub_cancel]
    simp -implicitDefEqProofs (disch := first | omega | (simp (disch := omega) only [nb_upr]; omega)) only [R_314, w_314_0, w_314_1, zi_0, zi_0n, zi_182, zi_88, zi_183, zi_712i, zi_712r, zi_712u, zi_712a, zi_712ni, zi_712nr, zi_712nu, zi_712na, zi_185, zi_186, zi_9, zi_187, zi_33, zi_719, zi_719n, zi_192, zi_147, zi_31, zi_101, zi_188, zi_41, zi_48, zi_70, zi_189i, zi_189r, zi_189u, zi_189a, zi_189ni, zi_189nr, zi_189nu, zi_189na, zi_144, zi_106, zi_74i, zi_74r, zi_74u, zi_74a, zi_164i, zi_164r, zi_164u, zi_164a, zi_75, zi_165, zi_64, zi_195, zi_76, zi_196, zi_193i, zi_193r, zi_193u, zi_193a, zi_194, zi_199, zi_123, zi_200, zi_133, zi_191, zi_191n, zi_102, zi_38, zi_202, zi_152, zi_215i, zi_215r, zi_160, zi_823, zi_206, zi_168i, zi_168r, zi_168u, zi_168a, zi_86, F.t159, F.r159_0, F.t160, F.l160, F.r160_0, F.r160, wf.t, F.w163.t, kC_eq, toL_s, toL_n, okS0, okS1, okS2, okS3, okS4, okS5, true_and, and_true, hT_wI, hL_wI, hR_wI, hI_wI, hJ_wI, sI_wI, rfP, isIA_100, isIA_120, inb_ok, nI_clamp, nI_add, nI_mul, ↓reduceIte, not_false_eq_true, not_true_eq_false, true_or, or_true, ↓bI_01, ↓b01_0, ↓b01_1, bI_0, z00, z10, n4, n5, n2, n8, Nat.reduceMul, Nat.reduceAdd, Nat.reduceLT, Nat.reduceLeDiff, nI_eq, nI_leI, nI_ltI, Nat.reduceEqDiff, pk_div, nI_sub, Nat.reduceDiv, Nat.reduceSub, e3, e4, Nat.le_refl, e_heldW wf e1 Bb.1 (show β < 6 by have := Bb.1; omega), e_heldW F.w163 e0 h0 (show β < 6 by have := Bb.1; omega), hr, hz, x]
  | succ j ih =>
    intro d i n a w r p B f hi hd V Bb hw hr e0 T e1 e2 e3 e4 e5
    have g1 : ¬ t ≤ i := by omega
    have g2 : i < 4 := by omega
    have ha := Bb.2.1
    have hβ := Bb.1
    have h6 := V.nb6
    have wf := F.wS (i := i) (by omega)
    obtain ⟨f', o, rp, x⟩ := ex_loop F d t i j w a β k r0 p B V Bb hi ht (by omega) hw hr
      (fun r' a' w' p' B f V' B' h1 g3 g4 h2 h3 h4 h5 h6 h7 => ih (d - 1) (i + 1) (n + 1) a' w' r' p' B f (by omega) (by omega) V' B' h1 g3 g4 h2 h3 h4 h5 h6 h7)
      8 0 f (.retAddr 0) rfl e0 T e1 e2 e3 e4 (by rw [(cnt_0 a ha).1]; exact e5)
    have eE : EW β k (j + 1) i r w p B = fd (fun dd B => EW β k j (i + 1) (stpR r β k (opt a dd)) (w + stpW r β k (opt a dd)) (setp p i (opt a dd)) B) 3 B := by
      show fd (fun dd B => EW β k j (i + 1) (stpR r β k (opt (aN r β) dd)) (w + stpW r β k (opt (aN r β) dd)) (setp p i (opt (aN r β) dd)) B) 3 B = _
      rw [Bb.an]
    refine ⟨f', o, by rw [eE]; exact rp, fun Q => ?_⟩
    have ef : f = ww f (163 + 14 * i) r := by rw [← e1, ww_rv]
    have eat : f (163 + 14 * i + 10) β = nI a := by
      rw [ef, ww_10 hβ (by omega)]
      exact Bb.2.2.2.1
    rw [← x Q]
    simp -implicitDefEqProofs (disch := first | omega | (simp (disch := omega) only [nb_upr]; omega)) only [R_314, w_314_0, w_314_2, zi_0, zi_0n, zi_182, zi_88, zi_183, zi_712i, zi_712r, zi_712u, zi_712a, zi_712ni, zi_712nr, zi_712nu, zi_712na, zi_185, zi_186, zi_9, zi_187, zi_33, zi_719, zi_719n, zi_192, zi_147, zi_31, zi_101, zi_188, zi_41, zi_48, zi_70, zi_189i, zi_189r, zi_189u, zi_189a, zi_189ni, zi_189nr, zi_189nu, zi_189na, zi_144, zi_106, zi_74i, zi_74r, zi_74u, zi_74a, zi_164i, zi_164r, zi_164u, zi_164a, zi_75, zi_165, zi_64, zi_195, zi_76, zi_196, zi_193i, zi_193r, zi_193u, zi_193a, zi_194, zi_199, zi_123, zi_200, zi_133, zi_191, zi_191n, zi_102, zi_38, zi_202, zi_152, zi_215i, zi_215r, zi_160, zi_823, zi_206, zi_168i, zi_168r, zi_168u, zi_168a, zi_86, F.t159, F.r159_0, F.t160, F.l160, wf.t, wf.r10, wf.t10, wf.l10, F.r160, kC_eq, toL_s, toL_n, okS0, okS1, okS2, okS3, okS4, okS5, true_and, and_true, hT_wI, hL_wI, hR_wI, hI_wI, hJ_wI, sI_wI, rfP, isIA_100, isIA_120, inb_ok, nI_clamp, nI_add, nI_mul, ↓reduceIte, not_false_eq_true, not_true_eq_false, true_or, or_true, ↓bI_01, ↓b01_0, ↓b01_1, bI_0, z00, z10, n4, n5, n2, n8, Nat.reduceMul, Nat.reduceAdd, Nat.reduceLT, Nat.reduceLeDiff, nI_eq, nI_leI, nI_ltI, Nat.reduceEqDiff, pk_div, nI_sub, Nat.reduceDiv, Nat.reduceSub, e4, g1, g2, e3, eat]
end
