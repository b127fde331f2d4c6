section
/-! lasts, month -/
variable {b n : Nat} {h : PH} {r : Nat → Int32} {f : Nat → Nat → Int32}
/-- all boats haul, the first m of them -/
def alR (r : Nat → Int32) : Nat → Nat → Int32
  | 0 => r
  | m + 1 => hlR (alR r m) m (aN (alR r m) m) (kN (alR r m) m)
theorem al_ok {n : Nat} {r : Nat → Int32} (V : Vr n r) : ∀ m, m ≤ nb r → Vr (n + m) (alR r m) ∧ nb (alR r m) = nb r
  | 0, _ => ⟨V, rfl⟩
  | m + 1, hm => by
    obtain ⟨V1, e⟩ := al_ok V m (by omega)
    have hb : m < nb (alR r m) := by omega
    refine ⟨Vr_hl V1 hb (V1.an hb).1 (V1.kn hb).1, ?_⟩
    show nb (hlR _ _ _ _) = _
    rw [nb_hl, e]
def laR (r : Nat → Int32) : Nat → Nat → Int32
  | 0 => r
  | i + 1 => bell (alR (laR r i) (nb r))
theorem la_ok {n : Nat} {r : Nat → Int32} (V : Vr n r) : ∀ i, Vr (n + 6 * i) (laR r i) ∧ nb (laR r i) = nb r
  | 0 => ⟨V, rfl⟩
  | i + 1 => by
    obtain ⟨V1, e⟩ := la_ok V i
    obtain ⟨V2, e2⟩ := al_ok V1 (nb r) (by rw [e]; exact Nat.le_refl _)
    have h6 := V.nb6
    refine ⟨(Vr_bell V2).mono (by omega), ?_⟩
    show nb (bell _) = _
    rw [nb_bell, e2, e]
def laN (r : Nat → Int32) : Nat → Nat → Int32
  | 0, _ => Int32.ofInt (-3)
  | j + 1, i => if emp (laR r i) 8 = 0 then laN r j (i + 1) else nI i
theorem lasts_in (d : Nat) (F : FR h) {n : Nat} {ρ : Nat → Int32} (V : Vr n ρ) (hn : hR h 100 2 = some 145) (T : TB f) (i : Nat) (hd : 6 ≤ d) (Q : Option Value → PH → Prop) :
    ∀ (j m : Nat), m + j = nb ρ → WP d 344 3 [.ref 100, .int (nI i), .int (nI m)] [] (wI h (ww f 145 (alR ρ m))) Q = WP d 344 1 [.ref 100, .int (nI (i + 1)), .int (nI (nb ρ))] [] (wI h (ww f 145 (bell (alR ρ (nb ρ))))) Q
  | 0, m, hm => by
    obtain rfl : m = nb ρ := by omega
    obtain ⟨V1, e⟩ := al_ok V (nb ρ) (Nat.le_refl _)
    have w := F.w145
    have h6 := V.nb6
    have h5 := V1.r5
    rw [e] at h5
    rw [w_344_3]
    simp -implicitDefEqProofs (disch := first | omega | (simp (disch := omega) only [nb_upr]; omega)) only [w_344_4, zi_0, zi_0n, zi_90, zi_92, zi_102, zi_31, zi_96i, zi_96r, zi_96u, zi_96a, zi_33, zi_88, zi_159, zi_210, zi_171, zi_108, zi_67w1, zi_67w2, zi_32i, zi_32r, zi_32u, zi_32a, zi_75, zi_34, zi_104, zi_77, zi_152, zi_215i, zi_215r, zi_39i, zi_39r, zi_39u, zi_39a, zi_86, zi_160, zi_216i, zi_216r, zi_216u, zi_216a, zi_40, zi_208, F.t100, hn, w.t, kC_eq, toL_s, toL_n, okS0, okS1, okS2, okS3, okS4, okS5, true_and, and_true, hT_wI, hL_wI, hR_wI, hI_wI, hJ_wI, sI_wI, rfP, isIA_100, isIA_120, inb_ok, nI_clamp, nI_add, nI_mul, ↓reduceIte, not_false_eq_true, not_true_eq_false, true_or, or_true, ↓bI_01, ↓b01_0, ↓b01_1, bI_0, z00, z10, n4, n5, n2, n8, Nat.reduceMul, Nat.reduceAdd, Nat.reduceLT, Nat.reduceLeDiff, nI_eq, nI_leI, nI_ltI, Nat.reduceEqDiff, pk_div, nI_sub, Nat.reduceDiv, Nat.reduceSub, Nat.le_refl, ww_0_14, h5, e_ring _ 145 h f _ w V1.vs]
  | j + 1, m, hm => by
    obtain ⟨V1, e⟩ := al_ok V m (by omega)
    have w := F.w145
    have h6 := V.nb6
    have h5 := V1.r5
    rw [e] at h5
    have g : ¬ nb ρ ≤ m := by omega
    have hb : m < nb (alR ρ m) := by omega
    obtain ⟨a1, a2⟩ := V1.an hb
    obtain ⟨k1, k2⟩ := V1.kn hb
    have ih := lasts_in d F V hn T i hd Q j (m + 1) (by omega)
    have e1 : alR ρ (m + 1) = hlR (alR ρ m) m (aN (alR ρ m) m) (kN (alR ρ m) m) := rfl
    rw [e1] at ih
    rw [← ih, w_344_3]
    simp -implicitDefEqProofs (disch := first | omega | (simp (disch := omega) only [nb_upr]; omega)) only [zi_0, zi_0n, zi_90, zi_92, zi_102, zi_31, zi_96i, zi_96r, zi_96u, zi_96a, zi_33, zi_88, zi_159, zi_210, zi_171, zi_108, zi_67w1, zi_67w2, zi_32i, zi_32r, zi_32u, zi_32a, zi_75, zi_34, zi_104, zi_77, zi_152, zi_215i, zi_215r, zi_39i, zi_39r, zi_39u, zi_39a, zi_86, zi_160, zi_216i, zi_216r, zi_216u, zi_216a, zi_40, zi_208, F.t100, hn, w.t, kC_eq, toL_s, toL_n, okS0, okS1, okS2, okS3, okS4, okS5, true_and, and_true, hT_wI, hL_wI, hR_wI, hI_wI, hJ_wI, sI_wI, rfP, isIA_100, isIA_120, inb_ok, nI_clamp, nI_add, nI_mul, ↓reduceIte, not_false_eq_true, not_true_eq_false, true_or, or_true, ↓bI_01, ↓b01_0, ↓b01_1, bI_0, z00, z10, n4, n5, n2, n8, Nat.reduceMul, Nat.reduceAdd, Nat.reduceLT, Nat.reduceLeDiff, nI_eq, nI_leI, nI_ltI, Nat.reduceEqDiff, pk_div, nI_sub, Nat.reduceDiv, Nat.reduceSub, g, ww_0_14, h5, e_drag _ 145 h f _ F w (by decide) T m _ _ hb (by omega) a1 k1 a2 k2]
theorem lasts_loop (d : Nat) (F : FR h) (V : Vr n r) (hn : hR h 100 2 = some 145) (T : TB f) (hd : 6 ≤ d) :
    ∀ (j i : Nat) (v2 : Value), i + j = 49 → ∃ ρ, ∀ Q, WP d 344 1 [.ref 100, .int (nI i), v2] [] (wI h (ww f 145 (laR r i))) Q = Q (some (.int (laN r j i))) (wI h (ww f 145 ρ)) := by
  intro j
  induction j with
  | zero =>
    intro i v2 hi
    obtain rfl : i = 49 := by omega
    refine ⟨laR r 49, fun Q => ?_⟩
    have g : ¬ 49 ≤ 48 := by decide
    rw [w_344_1]
    simp -implicitDefEqProofs (disch := first | omega | (simp (disch := omega) only [nb_upr]; omega)) only [w_344_5, zi_0, zi_0n, zi_90, zi_92, zi_102, zi_31, zi_96i, zi_96r, zi_96u, zi_96a, zi_33, zi_88, zi_159, zi_210, zi_171, zi_108, zi_67w1, zi_67w2, zi_32i, zi_32r, zi_32u, zi_32a, zi_75, zi_34, zi_104, zi_77, zi_152, zi_215i, zi_215r, zi_39i, zi_39r, zi_39u, zi_39a, zi_86, zi_160, zi_216i, zi_216r, zi_216u, zi_216a, zi_40, zi_208, kC_eq, toL_s, toL_n, okS0, okS1, okS2, okS3, okS4, okS5, true_and, and_true, hT_wI, hL_wI, hR_wI, hI_wI, hJ_wI, sI_wI, rfP, isIA_100, isIA_120, inb_ok, nI_clamp, nI_add, nI_mul, ↓reduceIte, not_false_eq_true, not_true_eq_false, true_or, or_true, ↓bI_01, ↓b01_0, ↓b01_1, bI_0, z00, z10, n4, n5, n2, n8, Nat.reduceMul, Nat.reduceAdd, Nat.reduceLT, Nat.reduceLeDiff, nI_eq, nI_leI, nI_ltI, Nat.reduceEqDiff, pk_div, nI_sub, Nat.reduceDiv, Nat.reduceSub, laN]
  | succ j ih =>
    intro i v2 hi
    have w := F.w145
    have g : ¬ 48 < i := by omega
    obtain ⟨V1, e1⟩ := la_ok V i
    obtain ⟨ρ, ih⟩ := ih (i + 1) (.int (nI (nb (laR r i)))) (by omega)
    have e : laN r (j + 1) i = if emp (laR r i) 8 = 0 then laN r j (i + 1) else nI i := rfl
    by_cases hz : emp (laR r i) 8 = 0
    · refine ⟨ρ, fun Q => ?_⟩
      have el := lasts_in d F V1 hn T i hd Q (nb (laR r i)) 0 (by omega)
      have ex : bell (alR (laR r i) (nb (laR r i))) = laR r (i + 1) := by rw [e1]; rfl
      rw [ex] at el
      rw [e, if_pos hz, ← ih Q, ← el, w_344_1]
      simp -implicitDefEqProofs (disch := first | omega | (simp (disch := omega) only [nb_upr]; omega)) only [w_344_2, zi_0, zi_0n, zi_90, zi_92, zi_102, zi_31, zi_96i, zi_96r, zi_96u, zi_96a, zi_33, zi_88, zi_159, zi_210, zi_171, zi_108, zi_67w1, zi_67w2, zi_32i, zi_32r, zi_32u, zi_32a, zi_75, zi_34, zi_104, zi_77, zi_152, zi_215i, zi_215r, zi_39i, zi_39r, zi_39u, zi_39a, zi_86, zi_160, zi_216i, zi_216r, zi_216u, zi_216a, zi_40, zi_208, F.t100, hn, w.t, kC_eq, toL_s, toL_n, okS0, okS1, okS2, okS3, okS4, okS5, true_and, and_true, hT_wI, hL_wI, hR_wI, hI_wI, hJ_wI, sI_wI, rfP, isIA_100, isIA_120, inb_ok, nI_clamp, nI_add, nI_mul, ↓reduceIte, not_false_eq_true, not_true_eq_false, true_or, or_true, ↓bI_01, ↓b01_0, ↓b01_1, bI_0, z00, z10, n4, n5, n2, n8, Nat.reduceMul, Nat.reduceAdd, Nat.reduceLT, Nat.reduceLeDiff, nI_eq, nI_leI, nI_ltI, Nat.reduceEqDiff, pk_div, nI_sub, Nat.reduceDiv, Nat.reduceSub, g, e_emptyStreets _ 145 h f _ w, hz]
      rfl
    · refine ⟨laR r i, fun Q => ?_⟩
      rw [e, if_neg hz, w_344_1]
      simp -implicitDefEqProofs (disch := first | omega | (simp (disch := omega) only [nb_upr]; omega)) only [zi_0, zi_0n, zi_90, zi_92, zi_102, zi_31, zi_96i, zi_96r, zi_96u, zi_96a, zi_33, zi_88, zi_159, zi_210, zi_171, zi_108, zi_67w1, zi_67w2, zi_32i, zi_32r, zi_32u, zi_32a, zi_75, zi_34, zi_104, zi_77, zi_152, zi_215i, zi_215r, zi_39i, zi_39r, zi_39u, zi_39a, zi_86, zi_160, zi_216i, zi_216r, zi_216u, zi_216a, zi_40, zi_208, F.t100, hn, w.t, kC_eq, toL_s, toL_n, okS0, okS1, okS2, okS3, okS4, okS5, true_and, and_true, hT_wI, hL_wI, hR_wI, hI_wI, hJ_wI, sI_wI, rfP, isIA_100, isIA_120, inb_ok, nI_clamp, nI_add, nI_mul, ↓reduceIte, not_false_eq_true, not_true_eq_false, true_or, or_true, ↓bI_01, ↓b01_0, ↓b01_1, bI_0, z00, z10, n4, n5, n2, n8, Nat.reduceMul, Nat.reduceAdd, Nat.reduceLT, Nat.reduceLeDiff, nI_eq, nI_leI, nI_ltI, Nat.reduceEqDiff, pk_div, nI_sub, Nat.reduceDiv, Nat.reduceSub, g, e_emptyStreets _ 145 h f _ w, hz]
theorem mlasts_in (d : Nat) (F : FR h) {n : Nat} {ρ : Nat → Int32} (V : Vr n ρ) (i : Nat) (hd : 6 ≤ d) :
    ∀ (j m : Nat) (f1 : Nat → Nat → Int32), TB f1 → m + j = nb ρ → ∃ f2, S1 f1 f2 ∧ ∀ Q, WP d 1200 2 [.ref 233, .int (nI i), .int (nI m)] [] (wI h (mw f1 234 (alR ρ m))) Q = WP d 1200 1 [.ref 233, .int (nI (i + 1)), .int (nI (nb ρ))] [] (wI h (mw f2 234 (bell (alR ρ (nb ρ))))) Q
  | 0, m, f1, T, hm => by
    obtain rfl : m = nb ρ := by omega
    obtain ⟨V1, e⟩ := al_ok V (nb ρ) (Nat.le_refl _)
    have h6 := V.nb6
    have h5 := V1.r5
    rw [e] at h5
    obtain ⟨f2, ⟨s2, -⟩, eb⟩ := e_bellGoes (d := d - 1) (f := f1) F V1.vs (by omega)
    refine ⟨f2, s2, fun Q => ?_⟩
    rw [w_1200_2]
    simp -implicitDefEqProofs (disch := first | omega | (simp (disch := omega) only [nb_upr]; omega)) only [w_1200_3, zi_0, zi_0n, zi_357, zi_487, zi_378, zi_31, zi_96i, zi_96r, zi_96u, zi_96a, zi_33, zi_88, zi_159, zi_275, zi_490, zi_222, zi_32i, zi_32r, zi_32u, zi_32a, zi_113, zi_34, zi_59, zi_106, zi_157, zi_469, zi_39i, zi_39r, zi_39u, zi_39a, zi_112, zi_478, zi_216i, zi_216r, zi_216u, zi_216a, zi_40, zi_498, zi_208, zi_236, zi_237, zi_67w1, zi_67w2, F.t233, F.r233_0, F.t234, F.l234, F.r233_3, F.t237, F.l237, kC_eq, toL_s, toL_n, okS0, okS1, okS2, okS3, okS4, okS5, true_and, and_true, hT_wI, hL_wI, hR_wI, hI_wI, hJ_wI, sI_wI, rfP, isIA_100, isIA_120, inb_ok, nI_clamp, nI_add, nI_mul, ↓reduceIte, not_false_eq_true, not_true_eq_false, true_or, or_true, ↓bI_01, ↓b01_0, ↓b01_1, bI_0, z00, z10, n4, n5, n2, n8, Nat.reduceMul, Nat.reduceAdd, Nat.reduceLT, Nat.reduceLeDiff, nI_eq, nI_leI, nI_ltI, Nat.reduceEqDiff, pk_div, nI_sub, Nat.reduceDiv, Nat.reduceSub, Nat.le_refl, mw_r, h5, eb]
  | j + 1, m, f1, T, hm => by
    obtain ⟨V1, e⟩ := al_ok V m (by omega)
    have h6 := V.nb6
    have h5 := V1.r5
    rw [e] at h5
    have g : ¬ nb ρ ≤ m := by omega
    have hb : m < nb (alR ρ m) := by omega
    obtain ⟨a1, a2⟩ := V1.an hb
    obtain ⟨k1, k2⟩ := V1.kn hb
    have s1 := S1.hw f1 (hlA (alR ρ m) m (aN (alR ρ m) m) (kN (alR ρ m) m)) (hlW (alR ρ m) m (aN (alR ρ m) m) (kN (alR ρ m) m))
    obtain ⟨f2, s2, ih⟩ := mlasts_in d F V i hd j (m + 1) _ (s1.tb T) (by omega)
    have e1 : alR ρ (m + 1) = hlR (alR ρ m) m (aN (alR ρ m) m) (kN (alR ρ m) m) := rfl
    rw [e1] at ih
    refine ⟨f2, s1.trans s2, fun Q => ?_⟩
    rw [← ih Q, w_1200_2]
    simp -implicitDefEqProofs (disch := first | omega | (simp (disch := omega) only [nb_upr]; omega)) only [zi_0, zi_0n, zi_357, zi_487, zi_378, zi_31, zi_96i, zi_96r, zi_96u, zi_96a, zi_33, zi_88, zi_159, zi_275, zi_490, zi_222, zi_32i, zi_32r, zi_32u, zi_32a, zi_113, zi_34, zi_59, zi_106, zi_157, zi_469, zi_39i, zi_39r, zi_39u, zi_39a, zi_112, zi_478, zi_216i, zi_216r, zi_216u, zi_216a, zi_40, zi_498, zi_208, zi_236, zi_237, zi_67w1, zi_67w2, F.t233, F.r233_0, F.t234, F.l234, F.r233_3, F.t237, F.l237, kC_eq, toL_s, toL_n, okS0, okS1, okS2, okS3, okS4, okS5, true_and, and_true, hT_wI, hL_wI, hR_wI, hI_wI, hJ_wI, sI_wI, rfP, isIA_100, isIA_120, inb_ok, nI_clamp, nI_add, nI_mul, ↓reduceIte, not_false_eq_true, not_true_eq_false, true_or, or_true, ↓bI_01, ↓b01_0, ↓b01_1, bI_0, z00, z10, n4, n5, n2, n8, Nat.reduceMul, Nat.reduceAdd, Nat.reduceLT, Nat.reduceLeDiff, nI_eq, nI_leI, nI_ltI, Nat.reduceEqDiff, pk_div, nI_sub, Nat.reduceDiv, Nat.reduceSub, g, mw_r, h5, e_hauls F T V1 m _ _ hb (by omega) a1 k1 a2 k2]
theorem mlasts_loop (d : Nat) (F : FR h) (V : Vr n r) (hd : 6 ≤ d) (f0 : Nat → Nat → Int32) (T : TB f0) :
    ∀ (j i : Nat) (v2 : Value) (f1 : Nat → Nat → Int32), (Sc f0 f1 ∧ rm f1 237 = r) → i + j = 49 → ∃ f2, Sc f0 f2 ∧ ∀ Q, WP d 1200 1 [.ref 233, .int (nI i), v2] [] (wI h (mw f1 234 (laR r i))) Q = Q (some (.int (laN r j i))) (wI h (mw f2 234 r)) := by
  intro j
  induction j with
  | zero =>
    intro i v2 f1 H hi
    obtain rfl : i = 49 := by omega
    obtain ⟨f2, ⟨s2, -⟩, em⟩ := moveB F H.1 H.2 (laR r 49)
    refine ⟨f2, s2, fun Q => ?_⟩
    have g : ¬ 49 ≤ 48 := by decide
    rw [w_1200_1]
    simp -implicitDefEqProofs (disch := first | omega | (simp (disch := omega) only [nb_upr]; omega)) only [w_1200_4, w_1200_6, zi_0, zi_0n, zi_357, zi_487, zi_378, zi_31, zi_96i, zi_96r, zi_96u, zi_96a, zi_33, zi_88, zi_159, zi_275, zi_490, zi_222, zi_32i, zi_32r, zi_32u, zi_32a, zi_113, zi_34, zi_59, zi_106, zi_157, zi_469, zi_39i, zi_39r, zi_39u, zi_39a, zi_112, zi_478, zi_216i, zi_216r, zi_216u, zi_216a, zi_40, zi_498, zi_208, zi_236, zi_237, zi_67w1, zi_67w2, F.t233, F.r233_0, F.t234, F.l234, F.r233_3, F.t237, F.l237, kC_eq, toL_s, toL_n, okS0, okS1, okS2, okS3, okS4, okS5, true_and, and_true, hT_wI, hL_wI, hR_wI, hI_wI, hJ_wI, sI_wI, rfP, isIA_100, isIA_120, inb_ok, nI_clamp, nI_add, nI_mul, ↓reduceIte, not_false_eq_true, not_true_eq_false, true_or, or_true, ↓bI_01, ↓b01_0, ↓b01_1, bI_0, z00, z10, n4, n5, n2, n8, Nat.reduceMul, Nat.reduceAdd, Nat.reduceLT, Nat.reduceLeDiff, nI_eq, nI_leI, nI_ltI, Nat.reduceEqDiff, pk_div, nI_sub, Nat.reduceDiv, Nat.reduceSub, laN, em]
  | succ j ih0 =>
    intro i v2 f1 H hi
    have g : ¬ 48 < i := by omega
    have g2 : i ≤ 48 := by omega
    obtain ⟨V1, e1⟩ := la_ok V i
    have e : laN r (j + 1) i = if emp (laR r i) 8 = 0 then laN r j (i + 1) else nI i := rfl
    by_cases hz : emp (laR r i) 8 = 0
    · obtain ⟨f2, s2, el⟩ := mlasts_in d F V1 i hd (nb (laR r i)) 0 f1 (H.1.tb T) (by omega)
      have ex : bell (alR (laR r i) (nb (laR r i))) = laR r (i + 1) := by rw [e1]; rfl
      rw [ex] at el
      obtain ⟨f3, s3, ih⟩ := ih0 (i + 1) (.int (nI (nb (laR r i)))) f2 ⟨H.1.trans s2.sc, by rw [s2.r237, H.2]⟩ (by omega)
      refine ⟨f3, s3, fun Q => ?_⟩
      rw [e, if_pos hz, ← ih Q, ← el Q, w_1200_1]
      simp -implicitDefEqProofs (disch := first | omega | (simp (disch := omega) only [nb_upr]; omega)) only [zi_0, zi_0n, zi_357, zi_487, zi_378, zi_31, zi_96i, zi_96r, zi_96u, zi_96a, zi_33, zi_88, zi_159, zi_275, zi_490, zi_222, zi_32i, zi_32r, zi_32u, zi_32a, zi_113, zi_34, zi_59, zi_106, zi_157, zi_469, zi_39i, zi_39r, zi_39u, zi_39a, zi_112, zi_478, zi_216i, zi_216r, zi_216u, zi_216a, zi_40, zi_498, zi_208, zi_236, zi_237, zi_67w1, zi_67w2, F.t233, kC_eq, toL_s, toL_n, okS0, okS1, okS2, okS3, okS4, okS5, true_and, and_true, hT_wI, hL_wI, hR_wI, hI_wI, hJ_wI, sI_wI, rfP, isIA_100, isIA_120, inb_ok, nI_clamp, nI_add, nI_mul, ↓reduceIte, not_false_eq_true, not_true_eq_false, true_or, or_true, ↓bI_01, ↓b01_0, ↓b01_1, bI_0, z00, z10, n4, n5, n2, n8, Nat.reduceMul, Nat.reduceAdd, Nat.reduceLT, Nat.reduceLeDiff, nI_eq, nI_leI, nI_ltI, Nat.reduceEqDiff, pk_div, nI_sub, Nat.reduceDiv, Nat.reduceSub, g, e_emptySet F, hz]
      rfl
    · obtain ⟨f2, ⟨s2, -⟩, em⟩ := moveB F H.1 H.2 (laR r i)
      refine ⟨f2, s2, fun Q => ?_⟩
      rw [e, if_neg hz, w_1200_1]
      simp -implicitDefEqProofs (disch := first | omega | (simp (disch := omega) only [nb_upr]; omega)) only [w_1200_4, w_1200_5, w_1200_6, zi_0, zi_0n, zi_357, zi_487, zi_378, zi_31, zi_96i, zi_96r, zi_96u, zi_96a, zi_33, zi_88, zi_159, zi_275, zi_490, zi_222, zi_32i, zi_32r, zi_32u, zi_32a, zi_113, zi_34, zi_59, zi_106, zi_157, zi_469, zi_39i, zi_39r, zi_39u, zi_39a, zi_112, zi_478, zi_216i, zi_216r, zi_216u, zi_216a, zi_40, zi_498, zi_208, zi_236, zi_237, zi_67w1, zi_67w2, F.t233, F.t233, F.r233_0, F.t234, F.l234, F.r233_3, F.t237, F.l237, kC_eq, toL_s, toL_n, okS0, okS1, okS2, okS3, okS4, okS5, true_and, and_true, hT_wI, hL_wI, hR_wI, hI_wI, hJ_wI, sI_wI, rfP, isIA_100, isIA_120, inb_ok, nI_clamp, nI_add, nI_mul, ↓reduceIte, not_false_eq_true, not_true_eq_false, true_or, or_true, ↓bI_01, ↓b01_0, ↓b01_1, bI_0, z00, z10, n4, n5, n2, n8, Nat.reduceMul, Nat.reduceAdd, Nat.reduceLT, Nat.reduceLeDiff, nI_eq, nI_leI, nI_ltI, Nat.reduceEqDiff, pk_div, nI_sub, Nat.reduceDiv, Nat.reduceSub, g, g2, e_emptySet F, hz, em]
theorem p_lasts (F : FR h) (hn : hR h 100 0 = some b) (hb : b = 117) (V : Vr n r) : Pair h b n r 344 1200 [] := by
  have V' := V.mono (show n ≤ n + 6 by omega)
  have hn2 := F.r100_2
  refine ⟨.int (laN r 49 0), r, V', fun f T => ?_, fun f T => ?_⟩
  · obtain ⟨X, H, ec⟩ := copyT (f := f) F hb V.z XT.refl
    obtain ⟨ρ, el⟩ := lasts_loop 30 F V hn2 (H.tb hb T) (by decide) 49 0 (.retAddr 0) rfl
    obtain ⟨sc, eg⟩ := (H.wt ρ).fin hb V.z
    refine ⟨ww X 145 ρ, sc, fun Q => ?_⟩
    rw [eg, ← el Q]
    simp -implicitDefEqProofs (disch := first | omega | (simp (disch := omega) only [nb_upr]; omega)) only [R_344, w_344_0, zi_0, zi_0n, zi_90, zi_92, zi_102, zi_31, zi_96i, zi_96r, zi_96u, zi_96a, zi_33, zi_88, zi_159, zi_210, zi_171, zi_108, zi_67w1, zi_67w2, zi_32i, zi_32r, zi_32u, zi_32a, zi_75, zi_34, zi_104, zi_77, zi_152, zi_215i, zi_215r, zi_39i, zi_39r, zi_39u, zi_39a, zi_86, zi_160, zi_216i, zi_216r, zi_216u, zi_216a, zi_40, zi_208, kC_eq, toL_s, toL_n, okS0, okS1, okS2, okS3, okS4, okS5, true_and, and_true, hT_wI, hL_wI, hR_wI, hI_wI, hJ_wI, sI_wI, rfP, isIA_100, isIA_120, inb_ok, nI_clamp, nI_add, nI_mul, ↓reduceIte, not_false_eq_true, not_true_eq_false, true_or, or_true, ↓bI_01, ↓b01_0, ↓b01_1, bI_0, z00, z10, n4, n5, n2, n8, Nat.reduceMul, Nat.reduceAdd, Nat.reduceLT, Nat.reduceLeDiff, F.t100, F.w145.t, hn, hn2, ec]
    rfl
  · obtain ⟨f1, H, em⟩ := moveT F V.z f
    obtain ⟨f2, s2, el⟩ := mlasts_loop 30 F V (by decide) f T 49 0 (.retAddr 0) f1 H rfl
    refine ⟨f2, s2, fun Q => ?_⟩
    rw [← el Q]
    simp -implicitDefEqProofs (disch := first | omega | (simp (disch := omega) only [nb_upr]; omega)) only [R_1200, w_1200_0, zi_0, zi_0n, zi_357, zi_487, zi_378, zi_31, zi_96i, zi_96r, zi_96u, zi_96a, zi_33, zi_88, zi_159, zi_275, zi_490, zi_222, zi_32i, zi_32r, zi_32u, zi_32a, zi_113, zi_34, zi_59, zi_106, zi_157, zi_469, zi_39i, zi_39r, zi_39u, zi_39a, zi_112, zi_478, zi_216i, zi_216r, zi_216u, zi_216a, zi_40, zi_498, zi_208, zi_236, zi_237, zi_67w1, zi_67w2, F.t233, F.r233_0, F.t234, F.l234, F.r233_3, F.t237, F.l237, kC_eq, toL_s, toL_n, okS0, okS1, okS2, okS3, okS4, okS5, true_and, and_true, hT_wI, hL_wI, hR_wI, hI_wI, hJ_wI, sI_wI, rfP, isIA_100, isIA_120, inb_ok, nI_clamp, nI_add, nI_mul, ↓reduceIte, not_false_eq_true, not_true_eq_false, true_or, or_true, ↓bI_01, ↓b01_0, ↓b01_1, bI_0, z00, z10, n4, n5, n2, n8, Nat.reduceMul, Nat.reduceAdd, Nat.reduceLT, Nat.reduceLeDiff, em]
    rfl
/-! month -/
def ntR (r : Nat → Int32) (z : Int32) : Nat → Int32 := bell (ngR (upr r 6 z) (nb r))
def ntA (r : Nat → Int32) (z : Int32) : Int32 := ngA (upr r 6 z) (nb r)
def moZ (r : Nat → Int32) : Nat → Int32
  | 0 => r 6
  | i + 1 => ntR r (moZ r i) 6
def moC (r : Nat → Int32) (v : Int32) : Nat → Nat
  | 0 => 0
  | i + 1 => if ntA r (moZ r i) < v then moC r v i else moC r v i + 1
theorem moC_le (r : Nat → Int32) (v : Int32) : ∀ i, moC r v i ≤ i
  | 0 => Nat.le_refl _
  | i + 1 => by
    have := moC_le r v i
    unfold moC
    split <;> omega
theorem Vr_z {n : Nat} {r : Nat → Int32} (V : Vr n r) (z : Int32) : Vr n (upr r 6 z) := V.put (lim_lt (by decide)) (by decide) (by rw [okq_f (by decide)]; trivial)
theorem month_loop (d : Nat) (F : FR h) (hn : hR h 100 0 = some b) (V : Vr n r) (hb : b = 117) (T : TB f) (m : Nat) (hm : m ≤ 30) (v : Int32) (hd : 7 ≤ d) :
    ∀ (j i : Nat) (X : Nat → Nat → Int32), XT f b r X → i + j = m → ∃ X', XT f b r X' ∧ ∀ Q, WP d 266 3 [.ref 100, .int (nI m), .int v, .int (moZ r i), .int (nI (moC r v i)), .int (nI i)] [] (wI h X) Q = Q (some (.int (nI (moC r v m)))) (wI h X') := by
  intro j
  induction j with
  | zero =>
    intro i X H hi
    obtain rfl : i = m := by omega
    refine ⟨X, H, fun Q => ?_⟩
    rw [w_266_3]
    simp -implicitDefEqProofs (disch := first | omega | (simp (disch := omega) only [nb_upr]; omega)) only [w_266_5, zi_88, zi_48, zi_15, zi_65, zi_98, zi_34, zi_31, zi_117, zi_108, zi_33, zi_37, zi_67w1, zi_67w2, zi_0, zi_0n, zi_92, zi_93, zi_111i, zi_111r, zi_111u, zi_111a, zi_74i, zi_74r, zi_74u, zi_74a, zi_164i, zi_164r, zi_164u, zi_164a, zi_75, zi_165, zi_166, zi_90, zi_102, zi_63, zi_94, zi_163, zi_167, zi_85i, zi_85r, zi_85u, zi_85a, zi_133, zi_168i, zi_168r, zi_168u, zi_168a, zi_86, zi_76, kC_eq, toL_s, toL_n, okS0, okS1, okS2, okS3, okS4, okS5, true_and, and_true, hT_wI, hL_wI, hR_wI, hI_wI, hJ_wI, sI_wI, rfP, isIA_100, isIA_120, inb_ok, nI_clamp, nI_add, nI_mul, ↓reduceIte, not_false_eq_true, not_true_eq_false, true_or, or_true, ↓bI_01, ↓b01_0, ↓b01_1, bI_0, z00, z10, n4, n5, n2, n8, Nat.reduceMul, Nat.reduceAdd, Nat.reduceLT, Nat.reduceLeDiff, nI_eq, nI_leI, nI_ltI, Nat.reduceEqDiff, pk_div, nI_sub, Nat.reduceDiv, Nat.reduceSub, Nat.le_refl]
  | succ j ih0 =>
    intro i X H hi
    have w := F.w145
    have g : ¬ m ≤ i := by omega
    obtain ⟨X1, H1, ec⟩ := copyT F hb V.z H
    have Vz := Vr_z V (moZ r i)
    have enb : nb (upr r 6 (moZ r i)) = nb r := nb_upr (by decide)
    have en := fun d (hd : 6 ≤ d) Q => e_nightByDraws d 145 h X1 (upr r 6 (moZ r i)) Vz F w (by decide) (H1.tb hb T) hd Q
    rw [enb] at en
    have en' : ∀ d, 6 ≤ d → ∀ Q, Run d 1696 [.ref 145] (wI h (ww X1 145 (upr r 6 (moZ r i)))) Q = Q (some (.int (ntA r (moZ r i)))) (wI h (ww X1 145 (ntR r (moZ r i)))) := en
    have e : moC r v (i + 1) = if ntA r (moZ r i) < v then moC r v i else moC r v i + 1 := rfl
    have ez : moZ r (i + 1) = ntR r (moZ r i) 6 := rfl
    obtain ⟨X2, H2, ih⟩ := ih0 (i + 1) (ww X1 145 (ntR r (moZ r i))) (H1.wt _) (by omega)
    refine ⟨X2, H2, fun Q => ?_⟩
    rw [e, ez] at ih
    rw [← ih Q, w_266_3]
    by_cases hz : ntA r (moZ r i) < v
    · simp -implicitDefEqProofs (disch := first | omega | (simp (disch := omega) only [nb_upr]; omega)) only [w_266_4, zi_88, zi_48, zi_15, zi_65, zi_98, zi_34, zi_31, zi_117, zi_108, zi_33, zi_37, zi_67w1, zi_67w2, zi_0, zi_0n, zi_92, zi_93, zi_111i, zi_111r, zi_111u, zi_111a, zi_74i, zi_74r, zi_74u, zi_74a, zi_164i, zi_164r, zi_164u, zi_164a, zi_75, zi_165, zi_166, zi_90, zi_102, zi_63, zi_94, zi_163, zi_167, zi_85i, zi_85r, zi_85u, zi_85a, zi_133, zi_168i, zi_168r, zi_168u, zi_168a, zi_86, zi_76, F.t100, hn, F.r100_2, w.t, kC_eq, toL_s, toL_n, okS0, okS1, okS2, okS3, okS4, okS5, true_and, and_true, hT_wI, hL_wI, hR_wI, hI_wI, hJ_wI, sI_wI, rfP, isIA_100, isIA_120, inb_ok, nI_clamp, nI_add, nI_mul, ↓reduceIte, not_false_eq_true, not_true_eq_false, true_or, or_true, ↓bI_01, ↓b01_0, ↓b01_1, bI_0, z00, z10, n4, n5, n2, n8, Nat.reduceMul, Nat.reduceAdd, Nat.reduceLT, Nat.reduceLeDiff, nI_eq, nI_leI, nI_ltI, Nat.reduceEqDiff, pk_div, nI_sub, Nat.reduceDiv, Nat.reduceSub, g, ec, ws_0_17, en', hz, ww_0_17]
    · simp -implicitDefEqProofs (disch := first | omega | (simp (disch := omega) only [nb_upr]; omega)) only [w_266_4, zi_88, zi_48, zi_15, zi_65, zi_98, zi_34, zi_31, zi_117, zi_108, zi_33, zi_37, zi_67w1, zi_67w2, zi_0, zi_0n, zi_92, zi_93, zi_111i, zi_111r, zi_111u, zi_111a, zi_74i, zi_74r, zi_74u, zi_74a, zi_164i, zi_164r, zi_164u, zi_164a, zi_75, zi_165, zi_166, zi_90, zi_102, zi_63, zi_94, zi_163, zi_167, zi_85i, zi_85r, zi_85u, zi_85a, zi_133, zi_168i, zi_168r, zi_168u, zi_168a, zi_86, zi_76, F.t100, hn, F.r100_2, w.t, kC_eq, toL_s, toL_n, okS0, okS1, okS2, okS3, okS4, okS5, true_and, and_true, hT_wI, hL_wI, hR_wI, hI_wI, hJ_wI, sI_wI, rfP, isIA_100, isIA_120, inb_ok, nI_clamp, nI_add, nI_mul, ↓reduceIte, not_false_eq_true, not_true_eq_false, true_or, or_true, ↓bI_01, ↓b01_0, ↓b01_1, bI_0, z00, z10, n4, n5, n2, n8, Nat.reduceMul, Nat.reduceAdd, Nat.reduceLT, Nat.reduceLeDiff, nI_eq, nI_leI, nI_ltI, Nat.reduceEqDiff, pk_div, nI_sub, Nat.reduceDiv, Nat.reduceSub, g, ec, ws_0_17, en', hz, ww_0_17]
theorem mmonth_loop (d : Nat) (F : FR h) (V : Vr n r) (m : Nat) (hm : m ≤ 30) (v : Int32) (hd : 7 ≤ d) (f0 : Nat → Nat → Int32) (T : TB f0) :
    ∀ (j i : Nat) (v5 : Value) (f1 : Nat → Nat → Int32) (ρ : Nat → Int32), (Sc f0 f1 ∧ rm f1 237 = r) → ρ 6 = moZ r i → i + j = m → ∃ f2, Sc f0 f2 ∧ ∀ Q, WP d 1114 3 [.ref 233, .int (nI m), .int v, .int (nI (moC r v i)), .int (nI i), v5] [] (wI h (mw f1 234 ρ)) Q = Q (some (.int (nI (moC r v m)))) (wI h (mw f2 234 r)) := by
  intro j
  induction j with
  | zero =>
    intro i v5 f1 ρ H hρ hi
    obtain rfl : i = m := by omega
    obtain ⟨f2, ⟨s2, -⟩, em⟩ := moveB F H.1 H.2 ρ
    refine ⟨f2, s2, fun Q => ?_⟩
    rw [w_1114_3]
    simp -implicitDefEqProofs (disch := first | omega | (simp (disch := omega) only [nb_upr]; omega)) only [w_1114_6, zi_88, zi_48, zi_15, zi_362, zi_66, zi_34, zi_31, zi_117, zi_452, zi_33, zi_37, zi_67w1, zi_67w2, zi_0, zi_0n, zi_357, zi_487, zi_378, zi_111i, zi_111r, zi_111u, zi_111a, zi_74i, zi_74r, zi_74u, zi_74a, zi_75, zi_76, zi_195, zi_42, zi_106, zi_164i, zi_164r, zi_164u, zi_164a, zi_165, zi_38, zi_63, zi_486, zi_167, zi_224, zi_206, zi_70, zi_85i, zi_85r, zi_85u, zi_85a, zi_86, F.t233, F.r233_0, F.t234, F.l234, F.r233_3, F.t237, F.l237, kC_eq, toL_s, toL_n, okS0, okS1, okS2, okS3, okS4, okS5, true_and, and_true, hT_wI, hL_wI, hR_wI, hI_wI, hJ_wI, sI_wI, rfP, isIA_100, isIA_120, inb_ok, nI_clamp, nI_add, nI_mul, ↓reduceIte, not_false_eq_true, not_true_eq_false, true_or, or_true, ↓bI_01, ↓b01_0, ↓b01_1, bI_0, z00, z10, n4, n5, n2, n8, Nat.reduceMul, Nat.reduceAdd, Nat.reduceLT, Nat.reduceLeDiff, nI_eq, nI_leI, nI_ltI, Nat.reduceEqDiff, pk_div, nI_sub, Nat.reduceDiv, Nat.reduceSub, Nat.le_refl, em]
  | succ j ih0 =>
    intro i v5 f1 ρ H hρ hi
    have g : ¬ m ≤ i := by omega
    obtain ⟨f2, H2, em⟩ := moveB F H.1 H.2 ρ
    have Vz := Vr_z V (moZ r i)
    have enb : nb (upr r 6 (moZ r i)) = nb r := nb_upr (by decide)
    obtain ⟨f3, s3, en⟩ := e_nightGoes (d := d - 1) (f := f2) Vz F (H2.1.tb T) (by omega)
    rw [enb] at en
    have en' : ∀ Q, Run (d - 1) 1104 [.ref 233] (wI h (mw f2 234 (upr r 6 (moZ r i)))) Q = Q (some (.int (ntA r (moZ r i)))) (wI h (mw f3 234 (ntR r (moZ r i)))) := en
    have e : moC r v (i + 1) = if ntA r (moZ r i) < v then moC r v i else moC r v i + 1 := rfl
    obtain ⟨f4, s4, ih⟩ := ih0 (i + 1) (.int (moZ r i)) f3 (ntR r (moZ r i)) ⟨H2.1.trans s3.sc, by rw [s3.r237, H2.2]⟩ rfl (by omega)
    refine ⟨f4, s4, fun Q => ?_⟩
    rw [e] at ih
    rw [← ih Q, w_1114_3]
    by_cases hz : ntA r (moZ r i) < v
    · simp -implicitDefEqProofs (disch := first | omega | (simp (disch := omega) only [nb_upr]; omega)) only [w_1114_4, w_1114_5, zi_88, zi_48, zi_15, zi_362, zi_66, zi_34, zi_31, zi_117, zi_452, zi_33, zi_37, zi_67w1, zi_67w2, zi_0, zi_0n, zi_357, zi_487, zi_378, zi_111i, zi_111r, zi_111u, zi_111a, zi_74i, zi_74r, zi_74u, zi_74a, zi_75, zi_76, zi_195, zi_42, zi_106, zi_164i, zi_164r, zi_164u, zi_164a, zi_165, zi_38, zi_63, zi_486, zi_167, zi_224, zi_206, zi_70, zi_85i, zi_85r, zi_85u, zi_85a, zi_86, F.t233, F.r233_0, F.t234, F.l234, F.r233_3, F.t237, F.l237, kC_eq, toL_s, toL_n, okS0, okS1, okS2, okS3, okS4, okS5, true_and, and_true, hT_wI, hL_wI, hR_wI, hI_wI, hJ_wI, sI_wI, rfP, isIA_100, isIA_120, inb_ok, nI_clamp, nI_add, nI_mul, ↓reduceIte, not_false_eq_true, not_true_eq_false, true_or, or_true, ↓bI_01, ↓b01_0, ↓b01_1, bI_0, z00, z10, n4, n5, n2, n8, Nat.reduceMul, Nat.reduceAdd, Nat.reduceLT, Nat.reduceLeDiff, nI_eq, nI_leI, nI_ltI, Nat.reduceEqDiff, pk_div, nI_sub, Nat.reduceDiv, Nat.reduceSub, g, mw_r, hρ, em, mw_w, en', hz, Nat.add_zero]
    · simp -implicitDefEqProofs (disch := first | omega | (simp (disch := omega) only [nb_upr]; omega)) only [w_1114_4, w_1114_5, zi_88, zi_48, zi_15, zi_362, zi_66, zi_34, zi_31, zi_117, zi_452, zi_33, zi_37, zi_67w1, zi_67w2, zi_0, zi_0n, zi_357, zi_487, zi_378, zi_111i, zi_111r, zi_111u, zi_111a, zi_74i, zi_74r, zi_74u, zi_74a, zi_75, zi_76, zi_195, zi_42, zi_106, zi_164i, zi_164r, zi_164u, zi_164a, zi_165, zi_38, zi_63, zi_486, zi_167, zi_224, zi_206, zi_70, zi_85i, zi_85r, zi_85u, zi_85a, zi_86, F.t233, F.r233_0, F.t234, F.l234, F.r233_3, F.t237, F.l237, kC_eq, toL_s, toL_n, okS0, okS1, okS2, okS3, okS4, okS5, true_and, and_true, hT_wI, hL_wI, hR_wI, hI_wI, hJ_wI, sI_wI, rfP, isIA_100, isIA_120, inb_ok, nI_clamp, nI_add, nI_mul, ↓reduceIte, not_false_eq_true, not_true_eq_false, true_or, or_true, ↓bI_01, ↓b01_0, ↓b01_1, bI_0, z00, z10, n4, n5, n2, n8, Nat.reduceMul, Nat.reduceAdd, Nat.reduceLT, Nat.reduceLeDiff, nI_eq, nI_leI, nI_ltI, Nat.reduceEqDiff, pk_div, nI_sub, Nat.reduceDiv, Nat.reduceSub, g, mw_r, hρ, em, mw_w, en', hz]
theorem p_month (F : FR h) (hn : hR h 100 0 = some b) (w : WB h b) (hb : b = 117) (V : Vr n r) (s v : Int32) : Pair h b n r 266 1114 [.int s, .int v] := by
  have V' := V.mono (show n ≤ n + 6 by omega)
  by_cases hs : s < nI 1 ∨ nI 30 < s
  · exact ⟨.int (Int32.ofInt (-1)), r, V', fun f T => ⟨f, ScC.refl f, fun Q => by simp -implicitDefEqProofs (disch := first | omega | (simp (disch := omega) only [nb_upr]; omega)) only [R_266, w_266_0, w_266_1, zi_88, zi_48, zi_15, zi_65, zi_98, zi_34, zi_31, zi_117, zi_108, zi_33, zi_37, zi_67w1, zi_67w2, zi_0, zi_0n, zi_92, zi_93, zi_111i, zi_111r, zi_111u, zi_111a, zi_74i, zi_74r, zi_74u, zi_74a, zi_164i, zi_164r, zi_164u, zi_164a, zi_75, zi_165, zi_166, zi_90, zi_102, zi_63, zi_94, zi_163, zi_167, zi_85i, zi_85r, zi_85u, zi_85a, zi_133, zi_168i, zi_168r, zi_168u, zi_168a, zi_86, zi_76, kC_eq, toL_s, toL_n, okS0, okS1, okS2, okS3, okS4, okS5, true_and, and_true, hT_wI, hL_wI, hR_wI, hI_wI, hJ_wI, sI_wI, rfP, isIA_100, isIA_120, inb_ok, nI_clamp, nI_add, nI_mul, ↓reduceIte, not_false_eq_true, not_true_eq_false, true_or, or_true, ↓bI_01, ↓b01_0, ↓b01_1, bI_0, z00, z10, n4, n5, n2, n8, Nat.reduceMul, Nat.reduceAdd, Nat.reduceLT, Nat.reduceLeDiff, e_outside, hs]⟩, fun f T => ⟨f, Sc.refl f, fun Q => by simp -implicitDefEqProofs (disch := first | omega | (simp (disch := omega) only [nb_upr]; omega)) only [R_1114, w_1114_0, w_1114_1, zi_88, zi_48, zi_15, zi_362, zi_66, zi_34, zi_31, zi_117, zi_452, zi_33, zi_37, zi_67w1, zi_67w2, zi_0, zi_0n, zi_357, zi_487, zi_378, zi_111i, zi_111r, zi_111u, zi_111a, zi_74i, zi_74r, zi_74u, zi_74a, zi_75, zi_76, zi_195, zi_42, zi_106, zi_164i, zi_164r, zi_164u, zi_164a, zi_165, zi_38, zi_63, zi_486, zi_167, zi_224, zi_206, zi_70, zi_85i, zi_85r, zi_85u, zi_85a, zi_86, kC_eq, toL_s, toL_n, okS0, okS1, okS2, okS3, okS4, okS5, true_and, and_true, hT_wI, hL_wI, hR_wI, hI_wI, hJ_wI, sI_wI, rfP, isIA_100, isIA_120, inb_ok, nI_clamp, nI_add, nI_mul, ↓reduceIte, not_false_eq_true, not_true_eq_false, true_or, or_true, ↓bI_01, ↓b01_0, ↓b01_1, bI_0, z00, z10, n4, n5, n2, n8, Nat.reduceMul, Nat.reduceAdd, Nat.reduceLT, Nat.reduceLeDiff, e_in, hs]⟩⟩
  by_cases hv : v < nI 0 ∨ nI 999 < v
  · exact ⟨.int (Int32.ofInt (-1)), r, V', fun f T => ⟨f, ScC.refl f, fun Q => by simp -implicitDefEqProofs (disch := first | omega | (simp (disch := omega) only [nb_upr]; omega)) only [R_266, w_266_0, w_266_1, zi_88, zi_48, zi_15, zi_65, zi_98, zi_34, zi_31, zi_117, zi_108, zi_33, zi_37, zi_67w1, zi_67w2, zi_0, zi_0n, zi_92, zi_93, zi_111i, zi_111r, zi_111u, zi_111a, zi_74i, zi_74r, zi_74u, zi_74a, zi_164i, zi_164r, zi_164u, zi_164a, zi_75, zi_165, zi_166, zi_90, zi_102, zi_63, zi_94, zi_163, zi_167, zi_85i, zi_85r, zi_85u, zi_85a, zi_133, zi_168i, zi_168r, zi_168u, zi_168a, zi_86, zi_76, kC_eq, toL_s, toL_n, okS0, okS1, okS2, okS3, okS4, okS5, true_and, and_true, hT_wI, hL_wI, hR_wI, hI_wI, hJ_wI, sI_wI, rfP, isIA_100, isIA_120, inb_ok, nI_clamp, nI_add, nI_mul, ↓reduceIte, not_false_eq_true, not_true_eq_false, true_or, or_true, ↓bI_01, ↓b01_0, ↓b01_1, bI_0, z00, z10, n4, n5, n2, n8, Nat.reduceMul, Nat.reduceAdd, Nat.reduceLT, Nat.reduceLeDiff, e_outside, hs, hv]⟩, fun f T => ⟨f, Sc.refl f, fun Q => by simp -implicitDefEqProofs (disch := first | omega | (simp (disch := omega) only [nb_upr]; omega)) only [R_1114, w_1114_0, w_1114_1, zi_88, zi_48, zi_15, zi_362, zi_66, zi_34, zi_31, zi_117, zi_452, zi_33, zi_37, zi_67w1, zi_67w2, zi_0, zi_0n, zi_357, zi_487, zi_378, zi_111i, zi_111r, zi_111u, zi_111a, zi_74i, zi_74r, zi_74u, zi_74a, zi_75, zi_76, zi_195, zi_42, zi_106, zi_164i, zi_164r, zi_164u, zi_164a, zi_165, zi_38, zi_63, zi_486, zi_167, zi_224, zi_206, zi_70, zi_85i, zi_85r, zi_85u, zi_85a, zi_86, kC_eq, toL_s, toL_n, okS0, okS1, okS2, okS3, okS4, okS5, true_and, and_true, hT_wI, hL_wI, hR_wI, hI_wI, hJ_wI, sI_wI, rfP, isIA_100, isIA_120, inb_ok, nI_clamp, nI_add, nI_mul, ↓reduceIte, not_false_eq_true, not_true_eq_false, true_or, or_true, ↓bI_01, ↓b01_0, ↓b01_1, bI_0, z00, z10, n4, n5, n2, n8, Nat.reduceMul, Nat.reduceAdd, Nat.reduceLT, Nat.reduceLeDiff, e_in, hs, hv]⟩⟩
  obtain ⟨m, -, hm, rfl⟩ := btw (by decide) (by decide) hs
  refine ⟨.int (nI (moC r v m)), r, V', fun f T => ?_, fun f T => ?_⟩
  · obtain ⟨X, H, el⟩ := month_loop 30 F hn V hb T m hm v (by decide) m 0 _ XT.refl (by omega)
    obtain ⟨sc, eg⟩ := H.fin hb V.z
    refine ⟨X, sc, fun Q => ?_⟩
    rw [eg, ← el Q]
    simp -implicitDefEqProofs (disch := first | omega | (simp (disch := omega) only [nb_upr]; omega)) only [R_266, w_266_0, w_266_2, zi_88, zi_48, zi_15, zi_65, zi_98, zi_34, zi_31, zi_117, zi_108, zi_33, zi_37, zi_67w1, zi_67w2, zi_0, zi_0n, zi_92, zi_93, zi_111i, zi_111r, zi_111u, zi_111a, zi_74i, zi_74r, zi_74u, zi_74a, zi_164i, zi_164r, zi_164u, zi_164a, zi_75, zi_165, zi_166, zi_90, zi_102, zi_63, zi_94, zi_163, zi_167, zi_85i, zi_85r, zi_85u, zi_85a, zi_133, zi_168i, zi_168r, zi_168u, zi_168a, zi_86, zi_76, kC_eq, toL_s, toL_n, okS0, okS1, okS2, okS3, okS4, okS5, true_and, and_true, hT_wI, hL_wI, hR_wI, hI_wI, hJ_wI, sI_wI, rfP, isIA_100, isIA_120, inb_ok, nI_clamp, nI_add, nI_mul, ↓reduceIte, not_false_eq_true, not_true_eq_false, true_or, or_true, ↓bI_01, ↓b01_0, ↓b01_1, bI_0, z00, z10, n4, n5, n2, n8, Nat.reduceMul, Nat.reduceAdd, Nat.reduceLT, Nat.reduceLeDiff, F.t100, hn, w.t, e_outside, hs, hv, ww_0_17]
    rfl
  · obtain ⟨f1, H, em⟩ := moveT F V.z f
    obtain ⟨f2, s2, el⟩ := mmonth_loop 30 F V m hm v (by decide) f T m 0 (.retAddr 0) f1 r H rfl (by omega)
    refine ⟨f2, s2, fun Q => ?_⟩
    rw [← el Q]
    simp -implicitDefEqProofs (disch := first | omega | (simp (disch := omega) only [nb_upr]; omega)) only [R_1114, w_1114_0, w_1114_2, zi_88, zi_48, zi_15, zi_362, zi_66, zi_34, zi_31, zi_117, zi_452, zi_33, zi_37, zi_67w1, zi_67w2, zi_0, zi_0n, zi_357, zi_487, zi_378, zi_111i, zi_111r, zi_111u, zi_111a, zi_74i, zi_74r, zi_74u, zi_74a, zi_75, zi_76, zi_195, zi_42, zi_106, zi_164i, zi_164r, zi_164u, zi_164a, zi_165, zi_38, zi_63, zi_486, zi_167, zi_224, zi_206, zi_70, zi_85i, zi_85r, zi_85u, zi_85a, zi_86, F.t233, F.r233_0, F.t234, F.l234, F.r233_3, F.t237, F.l237, kC_eq, toL_s, toL_n, okS0, okS1, okS2, okS3, okS4, okS5, true_and, and_true, hT_wI, hL_wI, hR_wI, hI_wI, hJ_wI, sI_wI, rfP, isIA_100, isIA_120, inb_ok, nI_clamp, nI_add, nI_mul, ↓reduceIte, not_false_eq_true, not_true_eq_false, true_or, or_true, ↓bI_01, ↓b01_0, ↓b01_1, bI_0, z00, z10, n4, n5, n2, n8, Nat.reduceMul, Nat.reduceAdd, Nat.reduceLT, Nat.reduceLeDiff, e_in, hs, hv, em]
    rfl
end
