section
/-! what is tried: the class's trial world (cell 145), the reference's row 237 -/
variable {b n : Nat} {h : PH} {r : Nat → Int32} {f : Nat → Nat → Int32}
def XT (f : Nat → Nat → Int32) (b : Nat) (r : Nat → Int32) (X : Nat → Nat → Int32) : Prop := ∀ a k, ¬ (145 ≤ a ∧ a < 159) → X a k = ww f b r a k
theorem XT.refl : XT f b r (ww f b r) := fun _ _ _ => rfl
theorem XT.wt {X : Nat → Nat → Int32} (H : XT f b r X) (ρ : Nat → Int32) : XT f b r (ww X 145 ρ) := fun a k ha => by
  rw [ww_out (by omega)]
  exact H a k ha
theorem XT.tb {X : Nat → Nat → Int32} (H : XT f b r X) (hb : b = 117) (T : TB f) : TB X := by
  subst hb
  have e : ∀ a k, a < 100 ∨ a = 238 → X a k = f a k := fun a k ha => by rw [H a k (by omega), ww_out (by omega)]
  obtain ⟨t1, ⟨a1, a2, a3⟩, ⟨b1, b2, b3⟩, ⟨c1, c2, c3⟩, d1, d2, d3, d4, d5⟩ := T
  exact ⟨fun s hs => ⟨(e 5 s (by decide)).trans (t1 s hs).1, (e 238 s (by decide)).trans (t1 s hs).2⟩, ⟨(e 3 0 (by decide)).trans a1, (e 3 1 (by decide)).trans a2, (e 3 2 (by decide)).trans a3⟩, ⟨(e 4 0 (by decide)).trans b1, (e 4 1 (by decide)).trans b2, (e 4 2 (by decide)).trans b3⟩, ⟨(e 1 0 (by decide)).trans c1, (e 1 1 (by decide)).trans c2, (e 1 2 (by decide)).trans c3⟩, (e 2 0 (by decide)).trans d1, (e 2 1 (by decide)).trans d2, (e 2 2 (by decide)).trans d3, (e 2 3 (by decide)).trans d4, (e 2 4 (by decide)).trans d5⟩
theorem XT.rv {X : Nat → Nat → Int32} (H : XT f b r X) (hb : b = 117) (hz : Z r) : rv X b = r := by
  subst hb
  rw [rv_eq (g := ww f 117 r) (fun a k h1 h2 => H a k (by omega)), rv_ww hz]
theorem XT.fin {X : Nat → Nat → Int32} (H : XT f b r X) (hb : b = 117) (hz : Z r) : ScC f X ∧ ww X b r = X := by
  refine ⟨fun a k ha => ?_, ?_⟩
  · subst hb
    have h1 : ¬ (145 ≤ a ∧ a < 233) := fun z => by
      unfold scrC at ha
      simp [show Nat.ble 145 a = true from Nat.ble_eq.mpr z.1, show Nat.blt a 233 = true from Nat.blt_eq.mpr z.2] at ha
    have h2 : ¬ (117 ≤ a ∧ a < 131) := fun z => by
      unfold scrC at ha
      simp [show Nat.ble 117 a = true from Nat.ble_eq.mpr z.1, show Nat.blt a 131 = true from Nat.blt_eq.mpr z.2] at ha
    rw [H a k (by omega), ww_out (by omega)]
  · have := H.rv hb hz
    rw [← this, ww_rv]
theorem copyT (F : FR h) (hb : b = 117) (hz : Z r) {X : Nat → Nat → Int32} (H : XT f b r X) : ∃ X', XT f b r X' ∧ ∀ d Q, Run d 1593 [.ref 145, .ref b] (wI h X) Q = Q none (wI h (ww X' 145 r)) := by
  obtain ⟨X', h1, h2⟩ := e_copy (h := h) 145 b F.w145 (by rw [hb]; exact F.w117) (by omega) X
  refine ⟨X', fun a k ha => by rw [h1 a k (by omega), H a k ha], fun d Q => ?_⟩
  rw [h2, H.rv hb hz]
theorem S1.r237 {f g : Nat → Nat → Int32} (H : S1 f g) : rm g 237 = rm f 237 := rm_eq (by funext k; exact H 237 k rfl)
theorem moveT (F : FR h) (hz : Z r) (f : Nat → Nat → Int32) : ∃ f1, (Sc f f1 ∧ rm f1 237 = r) ∧ ∀ d Q, Run d 762 [.ref 234, .ref 237] (wI h (mw f 234 r)) Q = Q none (wI h (mw f1 234 r)) := by
  obtain ⟨X, h1, h2, h3⟩ := e_move (h := h) 234 237 F.t234 F.l234 F.t237 F.l237 (by decide) (mw f 234 r)
  rw [rm_mw hz] at h2
  have h4 : rm X 234 = r := by rw [rm_eq (h1 234 (by decide)), rm_mw hz]
  refine ⟨X, ⟨fun a k ha => ?_, h2⟩, fun d Q => ?_⟩
  · rw [h1 a (by rintro rfl; cases ha), mw_out (by rintro rfl; cases ha)]
  · have e : mw X 234 r = X := by
      have := mw_rm X 234
      rwa [h4] at this
    rw [h3, e]
theorem moveB (F : FR h) {f f1 : Nat → Nat → Int32} (s : Sc f f1) (h7 : rm f1 237 = r) (ρ : Nat → Int32) : ∃ f2, (Sc f f2 ∧ rm f2 237 = r) ∧ ∀ d Q, Run d 762 [.ref 237, .ref 234] (wI h (mw f1 234 ρ)) Q = Q none (wI h (mw f2 234 r)) := by
  obtain ⟨X, h1, h2, h3⟩ := e_move (h := h) 237 234 F.t237 F.l237 F.t234 F.l234 (by decide) (mw f1 234 ρ)
  have e7 : (mw f1 234 ρ) 237 = f1 237 := by funext k; exact mw_out (by decide)
  rw [rm_eq e7, h7] at h2
  refine ⟨X, ⟨fun a k ha => ?_, ?_⟩, fun d Q => ?_⟩
  · rw [h1 a (by rintro rfl; cases ha), mw_out (by rintro rfl; cases ha)]
    exact s a k ha
  · rw [rm_eq ((h1 237 (by decide)).trans e7), h7]
  · have e : mw X 234 r = X := by
      have := mw_rm X 234
      rwa [h2] at this
    rw [h3, e]
/-! when -/
def whN (r : Nat → Int32) (q : Nat) (v : Int32) : Nat → Nat → Int32
  | 0, _ => Int32.ofInt (-3)
  | j + 1, i => if bel r i q < v then whN r q v j (i + 1) else nI i
theorem when_loop (d : Nat) (F : FR h) (hn : hR h 100 2 = some 145) (V : Vr n r) (hb : b = 117) (s k : Nat) (hs : s < 8) (hk : k < 5) (v : Int32) (hd : 2 ≤ d) :
    ∀ (j i : Nat) (X : Nat → Nat → Int32), XT f b r X → i + j = 49 → ∃ ρ, ∀ Q, WP d 411 3 [.ref 100, .int (nI s), .int (nI k), .int v, .int (nI i)] [] (wI h (ww X 145 (bel r i))) Q = Q (some (.int (whN r (12 + 7 * s + k) v j i))) (wI h (ww X 145 ρ))
  | 0, i, X, H, hi => by
    obtain rfl : i = 49 := by omega
    refine ⟨bel r 49, fun Q => ?_⟩
    have g : ¬ 49 ≤ 48 := by decide
    rw [w_411_3]
    simp -implicitDefEqProofs (disch := first | omega | (simp (disch := omega) only [nb_upr]; omega)) only [w_411_5, zi_88, zi_122, zi_98, zi_34, zi_114, zi_63, zi_31, zi_132, zi_65, zi_108, zi_33, zi_37, zi_67w1, zi_67w2, zi_0, zi_0n, zi_90, zi_92, zi_102, zi_74i, zi_74r, zi_74u, zi_74a, zi_75, zi_76, zi_159, zi_210, zi_128, zi_59, zi_79, zi_70, zi_106, zi_167, zi_160, zi_85i, zi_85r, zi_85u, zi_85a, zi_86, zi_208, kC_eq, toL_s, toL_n, okS0, okS1, okS2, okS3, okS4, okS5, true_and, and_true, hT_wI, hL_wI, hR_wI, hI_wI, hJ_wI, sI_wI, rfP, isIA_100, isIA_120, inb_ok, nI_clamp, nI_add, nI_mul, ↓reduceIte, not_false_eq_true, not_true_eq_false, true_or, or_true, ↓bI_01, ↓b01_0, ↓b01_1, bI_0, z00, z10, n4, n5, n2, n8, Nat.reduceMul, Nat.reduceAdd, Nat.reduceLT, Nat.reduceLeDiff, nI_eq, nI_leI, nI_ltI, Nat.reduceEqDiff, pk_div, nI_sub, Nat.reduceDiv, Nat.reduceSub, whN]
  | j + 1, i, X, H, hi => by
    have g : ¬ 48 < i := by omega
    have w := F.w145
    obtain ⟨ρ, ih⟩ := when_loop d F hn V hb s k hs hk v hd j (i + 1) X H (by omega)
    have e : whN r (12 + 7 * s + k) v (j + 1) i = if bel r i (12 + 7 * s + k) < v then whN r (12 + 7 * s + k) v j (i + 1) else nI i := rfl
    by_cases hz : bel r i (12 + 7 * s + k) < v
    · refine ⟨ρ, fun Q => ?_⟩
      rw [e, if_pos hz, ← ih Q, w_411_3]
      simp -implicitDefEqProofs (disch := first | omega | (simp (disch := omega) only [nb_upr]; omega)) only [w_411_4, zi_88, zi_122, zi_98, zi_34, zi_114, zi_63, zi_31, zi_132, zi_65, zi_108, zi_33, zi_37, zi_67w1, zi_67w2, zi_0, zi_0n, zi_90, zi_92, zi_102, zi_74i, zi_74r, zi_74u, zi_74a, zi_75, zi_76, zi_159, zi_210, zi_128, zi_59, zi_79, zi_70, zi_106, zi_167, zi_160, zi_85i, zi_85r, zi_85u, zi_85a, zi_86, zi_208, F.t100, hn, w.t, w.r3, w.t3, w.l3, kC_eq, toL_s, toL_n, okS0, okS1, okS2, okS3, okS4, okS5, true_and, and_true, hT_wI, hL_wI, hR_wI, hI_wI, hJ_wI, sI_wI, rfP, isIA_100, isIA_120, inb_ok, nI_clamp, nI_add, nI_mul, ↓reduceIte, not_false_eq_true, not_true_eq_false, true_or, or_true, ↓bI_01, ↓b01_0, ↓b01_1, bI_0, z00, z10, n4, n5, n2, n8, Nat.reduceMul, Nat.reduceAdd, Nat.reduceLT, Nat.reduceLeDiff, nI_eq, nI_leI, nI_ltI, Nat.reduceEqDiff, pk_div, nI_sub, Nat.reduceDiv, Nat.reduceSub, g, ww_s, hz, e_ring _ 145 h X _ w (Vr_bel V i).vs]
      rfl
    · refine ⟨bel r i, fun Q => ?_⟩
      rw [e, if_neg hz, w_411_3]
      simp -implicitDefEqProofs (disch := first | omega | (simp (disch := omega) only [nb_upr]; omega)) only [zi_88, zi_122, zi_98, zi_34, zi_114, zi_63, zi_31, zi_132, zi_65, zi_108, zi_33, zi_37, zi_67w1, zi_67w2, zi_0, zi_0n, zi_90, zi_92, zi_102, zi_74i, zi_74r, zi_74u, zi_74a, zi_75, zi_76, zi_159, zi_210, zi_128, zi_59, zi_79, zi_70, zi_106, zi_167, zi_160, zi_85i, zi_85r, zi_85u, zi_85a, zi_86, zi_208, F.t100, hn, w.t, w.r3, w.t3, w.l3, kC_eq, toL_s, toL_n, okS0, okS1, okS2, okS3, okS4, okS5, true_and, and_true, hT_wI, hL_wI, hR_wI, hI_wI, hJ_wI, sI_wI, rfP, isIA_100, isIA_120, inb_ok, nI_clamp, nI_add, nI_mul, ↓reduceIte, not_false_eq_true, not_true_eq_false, true_or, or_true, ↓bI_01, ↓b01_0, ↓b01_1, bI_0, z00, z10, n4, n5, n2, n8, Nat.reduceMul, Nat.reduceAdd, Nat.reduceLT, Nat.reduceLeDiff, nI_eq, nI_leI, nI_ltI, Nat.reduceEqDiff, pk_div, nI_sub, Nat.reduceDiv, Nat.reduceSub, g, ww_s, hz]
theorem mwhen_loop (d : Nat) (F : FR h) (V : Vr n r) (s k : Nat) (hs : s < 8) (hk : k < 5) (v : Int32) (hd : 2 ≤ d) (f : Nat → Nat → Int32) :
    ∀ (j i : Nat) (f1 : Nat → Nat → Int32), (Sc f f1 ∧ rm f1 237 = r) → i + j = 49 → ∃ f', Sc f f' ∧ ∀ Q, WP d 1251 3 [.ref 233, .int (nI s), .int (nI k), .int v, .int (nI i)] [] (wI h (mw f1 234 (bel r i))) Q = Q (some (.int (whN r (12 + 7 * s + k) v j i))) (wI h (mw f' 234 r))
  | 0, i, f1, H, hi => by
    obtain rfl : i = 49 := by omega
    obtain ⟨f2, ⟨s2, -⟩, em⟩ := moveB F H.1 H.2 (bel r 49)
    refine ⟨f2, s2, fun Q => ?_⟩
    rw [w_1251_3]
    simp -implicitDefEqProofs (disch := first | omega | (simp (disch := omega) only [nb_upr]; omega)) only [w_1251_4, w_1251_6, zi_88, zi_454, zi_66, zi_34, zi_450, zi_63, zi_31, zi_132, zi_362, zi_452, zi_33, zi_37, zi_67w1, zi_67w2, zi_0, zi_0n, zi_357, zi_487, zi_378, zi_74i, zi_74r, zi_74u, zi_74a, zi_75, zi_76, zi_159, zi_275, zi_453, zi_77, zi_478, zi_85i, zi_85r, zi_85u, zi_85a, zi_86, zi_498, zi_208, zi_236, zi_237, F.t233, F.r233_0, F.t234, F.l234, F.r233_3, F.t237, F.l237, kC_eq, toL_s, toL_n, okS0, okS1, okS2, okS3, okS4, okS5, true_and, and_true, hT_wI, hL_wI, hR_wI, hI_wI, hJ_wI, sI_wI, rfP, isIA_100, isIA_120, inb_ok, nI_clamp, nI_add, nI_mul, ↓reduceIte, not_false_eq_true, not_true_eq_false, true_or, or_true, ↓bI_01, ↓b01_0, ↓b01_1, bI_0, z00, z10, n4, n5, n2, n8, Nat.reduceMul, Nat.reduceAdd, Nat.reduceLT, Nat.reduceLeDiff, nI_eq, nI_leI, nI_ltI, Nat.reduceEqDiff, pk_div, nI_sub, Nat.reduceDiv, Nat.reduceSub, whN, em]
  | j + 1, i, f1, H, hi => by
    have g : ¬ 48 < i := by omega
    have g2 : i ≤ 48 := by omega
    have e : whN r (12 + 7 * s + k) v (j + 1) i = if bel r i (12 + 7 * s + k) < v then whN r (12 + 7 * s + k) v j (i + 1) else nI i := rfl
    by_cases hz : bel r i (12 + 7 * s + k) < v
    · obtain ⟨f2, ⟨s2, -⟩, eb⟩ := e_bellGoes (d := d - 1) (f := f1) F (Vr_bel V i).vs (by omega)
      obtain ⟨f3, s3, ih⟩ := mwhen_loop d F V s k hs hk v hd f j (i + 1) f2 ⟨H.1.trans s2.sc, by rw [s2.r237, H.2]⟩ (by omega)
      refine ⟨f3, s3, fun Q => ?_⟩
      rw [e, if_pos hz, ← ih Q, w_1251_3]
      have hz' := Int32.not_le.mpr hz
      simp -implicitDefEqProofs (disch := first | omega | (simp (disch := omega) only [nb_upr]; omega)) only [zi_88, zi_454, zi_66, zi_34, zi_450, zi_63, zi_31, zi_132, zi_362, zi_452, zi_33, zi_37, zi_67w1, zi_67w2, zi_0, zi_0n, zi_357, zi_487, zi_378, zi_74i, zi_74r, zi_74u, zi_74a, zi_75, zi_76, zi_159, zi_275, zi_453, zi_77, zi_478, zi_85i, zi_85r, zi_85u, zi_85a, zi_86, zi_498, zi_208, zi_236, zi_237, F.t233, F.t233, F.r233_0, F.t234, F.l234, F.r233_3, F.t237, F.l237, kC_eq, toL_s, toL_n, okS0, okS1, okS2, okS3, okS4, okS5, true_and, and_true, hT_wI, hL_wI, hR_wI, hI_wI, hJ_wI, sI_wI, rfP, isIA_100, isIA_120, inb_ok, nI_clamp, nI_add, nI_mul, ↓reduceIte, not_false_eq_true, not_true_eq_false, true_or, or_true, ↓bI_01, ↓b01_0, ↓b01_1, bI_0, z00, z10, n4, n5, n2, n8, Nat.reduceMul, Nat.reduceAdd, Nat.reduceLT, Nat.reduceLeDiff, nI_eq, nI_leI, nI_ltI, Nat.reduceEqDiff, pk_div, nI_sub, Nat.reduceDiv, Nat.reduceSub, g, e_at F, hz', eb]
      rfl
    · obtain ⟨f2, ⟨s2, -⟩, em⟩ := moveB F H.1 H.2 (bel r i)
      refine ⟨f2, s2, fun Q => ?_⟩
      have hz' := Int32.not_lt.mp hz
      rw [e, if_neg hz, w_1251_3]
      simp -implicitDefEqProofs (disch := first | omega | (simp (disch := omega) only [nb_upr]; omega)) only [w_1251_4, w_1251_5, w_1251_6, zi_88, zi_454, zi_66, zi_34, zi_450, zi_63, zi_31, zi_132, zi_362, zi_452, zi_33, zi_37, zi_67w1, zi_67w2, zi_0, zi_0n, zi_357, zi_487, zi_378, zi_74i, zi_74r, zi_74u, zi_74a, zi_75, zi_76, zi_159, zi_275, zi_453, zi_77, zi_478, zi_85i, zi_85r, zi_85u, zi_85a, zi_86, zi_498, zi_208, zi_236, zi_237, F.t233, F.t233, F.r233_0, F.t234, F.l234, F.r233_3, F.t237, F.l237, kC_eq, toL_s, toL_n, okS0, okS1, okS2, okS3, okS4, okS5, true_and, and_true, hT_wI, hL_wI, hR_wI, hI_wI, hJ_wI, sI_wI, rfP, isIA_100, isIA_120, inb_ok, nI_clamp, nI_add, nI_mul, ↓reduceIte, not_false_eq_true, not_true_eq_false, true_or, or_true, ↓bI_01, ↓b01_0, ↓b01_1, bI_0, z00, z10, n4, n5, n2, n8, Nat.reduceMul, Nat.reduceAdd, Nat.reduceLT, Nat.reduceLeDiff, nI_eq, nI_leI, nI_ltI, Nat.reduceEqDiff, pk_div, nI_sub, Nat.reduceDiv, Nat.reduceSub, g, g2, e_at F, hz', em]
theorem p_when (F : FR h) (hn : hR h 100 0 = some b) (hb : b = 117) (V : Vr n r) (s t v : Int32) : Pair h b n r 411 1251 [.int s, .int t, .int v] := by
  have V' := V.mono (show n ≤ n + 6 by omega)
  have hn2 := F.r100_2
  by_cases hs : s < nI 0 ∨ nI 7 < s
  · exact ⟨.int (Int32.ofInt (-1)), r, V', fun f T => ⟨f, ScC.refl f, fun Q => by simp -implicitDefEqProofs (disch := first | omega | (simp (disch := omega) only [nb_upr]; omega)) only [R_411, w_411_0, w_411_1, zi_88, zi_122, zi_98, zi_34, zi_114, zi_63, zi_31, zi_132, zi_65, zi_108, zi_33, zi_37, zi_67w1, zi_67w2, zi_0, zi_0n, zi_90, zi_92, zi_102, zi_74i, zi_74r, zi_74u, zi_74a, zi_75, zi_76, zi_159, zi_210, zi_128, zi_59, zi_79, zi_70, zi_106, zi_167, zi_160, zi_85i, zi_85r, zi_85u, zi_85a, zi_86, zi_208, kC_eq, toL_s, toL_n, okS0, okS1, okS2, okS3, okS4, okS5, true_and, and_true, hT_wI, hL_wI, hR_wI, hI_wI, hJ_wI, sI_wI, rfP, isIA_100, isIA_120, inb_ok, nI_clamp, nI_add, nI_mul, ↓reduceIte, not_false_eq_true, not_true_eq_false, true_or, or_true, ↓bI_01, ↓b01_0, ↓b01_1, bI_0, z00, z10, n4, n5, n2, n8, Nat.reduceMul, Nat.reduceAdd, Nat.reduceLT, Nat.reduceLeDiff, e_noStreet, hs]⟩, fun f T => ⟨f, Sc.refl f, fun Q => by simp -implicitDefEqProofs (disch := first | omega | (simp (disch := omega) only [nb_upr]; omega)) only [R_1251, w_1251_0, w_1251_1, zi_88, zi_454, zi_66, zi_34, zi_450, zi_63, zi_31, zi_132, zi_362, zi_452, zi_33, zi_37, zi_67w1, zi_67w2, zi_0, zi_0n, zi_357, zi_487, zi_378, zi_74i, zi_74r, zi_74u, zi_74a, zi_75, zi_76, zi_159, zi_275, zi_453, zi_77, zi_478, zi_85i, zi_85r, zi_85u, zi_85a, zi_86, zi_498, zi_208, zi_236, zi_237, kC_eq, toL_s, toL_n, okS0, okS1, okS2, okS3, okS4, okS5, true_and, and_true, hT_wI, hL_wI, hR_wI, hI_wI, hJ_wI, sI_wI, rfP, isIA_100, isIA_120, inb_ok, nI_clamp, nI_add, nI_mul, ↓reduceIte, not_false_eq_true, not_true_eq_false, true_or, or_true, ↓bI_01, ↓b01_0, ↓b01_1, bI_0, z00, z10, n4, n5, n2, n8, Nat.reduceMul, Nat.reduceAdd, Nat.reduceLT, Nat.reduceLeDiff, e_isStreet, hs]⟩⟩
  by_cases ht : t < nI 0 ∨ nI 4 < t
  · exact ⟨.int (Int32.ofInt (-1)), r, V', fun f T => ⟨f, ScC.refl f, fun Q => by simp -implicitDefEqProofs (disch := first | omega | (simp (disch := omega) only [nb_upr]; omega)) only [R_411, w_411_0, w_411_1, zi_88, zi_122, zi_98, zi_34, zi_114, zi_63, zi_31, zi_132, zi_65, zi_108, zi_33, zi_37, zi_67w1, zi_67w2, zi_0, zi_0n, zi_90, zi_92, zi_102, zi_74i, zi_74r, zi_74u, zi_74a, zi_75, zi_76, zi_159, zi_210, zi_128, zi_59, zi_79, zi_70, zi_106, zi_167, zi_160, zi_85i, zi_85r, zi_85u, zi_85a, zi_86, zi_208, kC_eq, toL_s, toL_n, okS0, okS1, okS2, okS3, okS4, okS5, true_and, and_true, hT_wI, hL_wI, hR_wI, hI_wI, hJ_wI, sI_wI, rfP, isIA_100, isIA_120, inb_ok, nI_clamp, nI_add, nI_mul, ↓reduceIte, not_false_eq_true, not_true_eq_false, true_or, or_true, ↓bI_01, ↓b01_0, ↓b01_1, bI_0, z00, z10, n4, n5, n2, n8, Nat.reduceMul, Nat.reduceAdd, Nat.reduceLT, Nat.reduceLeDiff, e_noStreet, hs, e_noSort, ht]⟩, fun f T => ⟨f, Sc.refl f, fun Q => by simp -implicitDefEqProofs (disch := first | omega | (simp (disch := omega) only [nb_upr]; omega)) only [R_1251, w_1251_0, w_1251_1, zi_88, zi_454, zi_66, zi_34, zi_450, zi_63, zi_31, zi_132, zi_362, zi_452, zi_33, zi_37, zi_67w1, zi_67w2, zi_0, zi_0n, zi_357, zi_487, zi_378, zi_74i, zi_74r, zi_74u, zi_74a, zi_75, zi_76, zi_159, zi_275, zi_453, zi_77, zi_478, zi_85i, zi_85r, zi_85u, zi_85a, zi_86, zi_498, zi_208, zi_236, zi_237, kC_eq, toL_s, toL_n, okS0, okS1, okS2, okS3, okS4, okS5, true_and, and_true, hT_wI, hL_wI, hR_wI, hI_wI, hJ_wI, sI_wI, rfP, isIA_100, isIA_120, inb_ok, nI_clamp, nI_add, nI_mul, ↓reduceIte, not_false_eq_true, not_true_eq_false, true_or, or_true, ↓bI_01, ↓b01_0, ↓b01_1, bI_0, z00, z10, n4, n5, n2, n8, Nat.reduceMul, Nat.reduceAdd, Nat.reduceLT, Nat.reduceLeDiff, e_isStreet, hs, e_isSort, ht]⟩⟩
  by_cases hv : v < nI 0 ∨ nI 99 < v
  · exact ⟨.int (Int32.ofInt (-1)), r, V', fun f T => ⟨f, ScC.refl f, fun Q => by simp -implicitDefEqProofs (disch := first | omega | (simp (disch := omega) only [nb_upr]; omega)) only [R_411, w_411_0, w_411_1, zi_88, zi_122, zi_98, zi_34, zi_114, zi_63, zi_31, zi_132, zi_65, zi_108, zi_33, zi_37, zi_67w1, zi_67w2, zi_0, zi_0n, zi_90, zi_92, zi_102, zi_74i, zi_74r, zi_74u, zi_74a, zi_75, zi_76, zi_159, zi_210, zi_128, zi_59, zi_79, zi_70, zi_106, zi_167, zi_160, zi_85i, zi_85r, zi_85u, zi_85a, zi_86, zi_208, kC_eq, toL_s, toL_n, okS0, okS1, okS2, okS3, okS4, okS5, true_and, and_true, hT_wI, hL_wI, hR_wI, hI_wI, hJ_wI, sI_wI, rfP, isIA_100, isIA_120, inb_ok, nI_clamp, nI_add, nI_mul, ↓reduceIte, not_false_eq_true, not_true_eq_false, true_or, or_true, ↓bI_01, ↓b01_0, ↓b01_1, bI_0, z00, z10, n4, n5, n2, n8, Nat.reduceMul, Nat.reduceAdd, Nat.reduceLT, Nat.reduceLeDiff, e_noStreet, hs, e_noSort, ht, e_outside, hv]⟩, fun f T => ⟨f, Sc.refl f, fun Q => by simp -implicitDefEqProofs (disch := first | omega | (simp (disch := omega) only [nb_upr]; omega)) only [R_1251, w_1251_0, w_1251_1, zi_88, zi_454, zi_66, zi_34, zi_450, zi_63, zi_31, zi_132, zi_362, zi_452, zi_33, zi_37, zi_67w1, zi_67w2, zi_0, zi_0n, zi_357, zi_487, zi_378, zi_74i, zi_74r, zi_74u, zi_74a, zi_75, zi_76, zi_159, zi_275, zi_453, zi_77, zi_478, zi_85i, zi_85r, zi_85u, zi_85a, zi_86, zi_498, zi_208, zi_236, zi_237, kC_eq, toL_s, toL_n, okS0, okS1, okS2, okS3, okS4, okS5, true_and, and_true, hT_wI, hL_wI, hR_wI, hI_wI, hJ_wI, sI_wI, rfP, isIA_100, isIA_120, inb_ok, nI_clamp, nI_add, nI_mul, ↓reduceIte, not_false_eq_true, not_true_eq_false, true_or, or_true, ↓bI_01, ↓b01_0, ↓b01_1, bI_0, z00, z10, n4, n5, n2, n8, Nat.reduceMul, Nat.reduceAdd, Nat.reduceLT, Nat.reduceLeDiff, e_isStreet, hs, e_isSort, ht, e_in, hv]⟩⟩
  obtain ⟨j, -, hj, rfl⟩ := btw (by decide) (by decide) hs
  obtain ⟨k, -, hk, rfl⟩ := btw (by decide) (by decide) ht
  refine ⟨.int (whN r (12 + 7 * j + k) v 49 0), r, V', fun f T => ?_, fun f T => ?_⟩
  · obtain ⟨X, H, ec⟩ := copyT (f := f) F hb V.z XT.refl
    obtain ⟨ρ, el⟩ := when_loop 30 F hn2 V hb j k (by omega) (by omega) v (by decide) 49 0 X H rfl
    obtain ⟨sc, eg⟩ := (H.wt ρ).fin hb V.z
    refine ⟨ww X 145 ρ, sc, fun Q => ?_⟩
    rw [eg, ← el Q]
    simp -implicitDefEqProofs (disch := first | omega | (simp (disch := omega) only [nb_upr]; omega)) only [R_411, w_411_0, w_411_2, zi_88, zi_122, zi_98, zi_34, zi_114, zi_63, zi_31, zi_132, zi_65, zi_108, zi_33, zi_37, zi_67w1, zi_67w2, zi_0, zi_0n, zi_90, zi_92, zi_102, zi_74i, zi_74r, zi_74u, zi_74a, zi_75, zi_76, zi_159, zi_210, zi_128, zi_59, zi_79, zi_70, zi_106, zi_167, zi_160, zi_85i, zi_85r, zi_85u, zi_85a, zi_86, zi_208, kC_eq, toL_s, toL_n, okS0, okS1, okS2, okS3, okS4, okS5, true_and, and_true, hT_wI, hL_wI, hR_wI, hI_wI, hJ_wI, sI_wI, rfP, isIA_100, isIA_120, inb_ok, nI_clamp, nI_add, nI_mul, ↓reduceIte, not_false_eq_true, not_true_eq_false, true_or, or_true, ↓bI_01, ↓b01_0, ↓b01_1, bI_0, z00, z10, n4, n5, n2, n8, Nat.reduceMul, Nat.reduceAdd, Nat.reduceLT, Nat.reduceLeDiff, F.t100, hn, hn2, F.w145.t, e_noStreet, hs, e_noSort, ht, e_outside, hv, ec]
    rfl
  · obtain ⟨f1, H, em⟩ := moveT F V.z f
    obtain ⟨f2, s2, el⟩ := mwhen_loop 30 F V j k (by omega) (by omega) v (by decide) f 49 0 f1 H rfl
    refine ⟨f2, s2, fun Q => ?_⟩
    rw [← el Q]
    simp -implicitDefEqProofs (disch := first | omega | (simp (disch := omega) only [nb_upr]; omega)) only [R_1251, w_1251_0, w_1251_2, zi_88, zi_454, zi_66, zi_34, zi_450, zi_63, zi_31, zi_132, zi_362, zi_452, zi_33, zi_37, zi_67w1, zi_67w2, zi_0, zi_0n, zi_357, zi_487, zi_378, zi_74i, zi_74r, zi_74u, zi_74a, zi_75, zi_76, zi_159, zi_275, zi_453, zi_77, zi_478, zi_85i, zi_85r, zi_85u, zi_85a, zi_86, zi_498, zi_208, zi_236, zi_237, F.t233, F.r233_0, F.t234, F.l234, F.r233_3, F.t237, F.l237, kC_eq, toL_s, toL_n, okS0, okS1, okS2, okS3, okS4, okS5, true_and, and_true, hT_wI, hL_wI, hR_wI, hI_wI, hJ_wI, sI_wI, rfP, isIA_100, isIA_120, inb_ok, nI_clamp, nI_add, nI_mul, ↓reduceIte, not_false_eq_true, not_true_eq_false, true_or, or_true, ↓bI_01, ↓b01_0, ↓b01_1, bI_0, z00, z10, n4, n5, n2, n8, Nat.reduceMul, Nat.reduceAdd, Nat.reduceLT, Nat.reduceLeDiff, e_isStreet, hs, e_isSort, ht, e_in, hv, em]
    rfl
end
