section
/-! land, bells, state, pieces, gives -/
variable {b n : Nat} {h : PH} {r : Nat → Int32}
def lnR (r : Nat → Int32) (β : Nat) : Nat → Nat → Int32
  | 0 => r
  | s + 1 => upr (lnR r β s) (81 + 10 * β + s) (nI 0)
theorem Vr_ln {n β : Nat} {r : Nat → Int32} (V : Vr n r) (hβ : β < nb r) : ∀ s, s ≤ 5 → Vr n (lnR r β s) ∧ nb (lnR r β s) = nb r
  | 0, _ => ⟨V, rfl⟩
  | s + 1, hs => by
    obtain ⟨V1, e⟩ := Vr_ln V hβ s (by omega)
    refine ⟨V1.put ?_ (by omega) ?_, ?_⟩
    · have := V1.lt (by rw [e]; exact hβ) (show 5 + s < 10 by omega); omega
    · rw [okq_h (by omega)]; exact ⟨0, by omega, rfl⟩
    · show nb (upr _ _ _) = _
      rw [nb_upr (by omega), e]
theorem land_loop (d b : Nat) (h : PH) (f : Nat → Nat → Int32) (r : Nat → Int32) (F : FR h) (hn : hR h 100 0 = some b) (w : WB h b) (V : Vr n r) (β : Nat) (hβ : β < nb r) (x : Int32) (Q : Option Value → PH → Prop) :
    ∀ (j k : Nat), k + j = 5 → WP d 225 2 [.ref 100, .int (nI β), .int x, .int (nI k)] [] (wI h (ww f b (lnR r β k))) Q = Q (some (.int x)) (wI h (ww f b (lnR r β 5)))
  | 0, k, hk => by
    obtain rfl : k = 5 := by omega
    rw [w_225_2]
    simp -implicitDefEqProofs (disch := first | omega | (simp (disch := omega) only [nb_upr]; omega)) only [w_225_3, zi_0, zi_0n, zi_88, zi_139, zi_66, zi_37, zi_67w1, zi_67w2, zi_92, zi_147, zi_32i, zi_32r, zi_32u, zi_32a, zi_3i, zi_3r, zi_155, zi_34, zi_70, zi_156, zi_31, zi_111i, zi_111r, zi_111u, zi_111a, zi_113, zi_63, zi_59, zi_157, zi_148, zi_79, zi_38, zi_158i, zi_158r, zi_158u, zi_158a, zi_112, w.t, w.r13, w.t13, w.l13, kC_eq, toL_s, toL_n, okS0, okS1, okS2, okS3, okS4, okS5, true_and, and_true, hT_wI, hL_wI, hR_wI, hI_wI, hJ_wI, sI_wI, rfP, isIA_100, isIA_120, inb_ok, nI_clamp, nI_add, nI_mul, ↓reduceIte, not_false_eq_true, not_true_eq_false, true_or, or_true, ↓bI_01, ↓b01_0, ↓b01_1, bI_0, z00, z10, n4, n5, n2, n8, Nat.reduceMul, Nat.reduceAdd, Nat.reduceLT, Nat.reduceLeDiff, nI_eq, nI_leI, nI_ltI, Nat.reduceEqDiff, pk_div, nI_sub, Nat.reduceDiv, Nat.reduceSub, Nat.le_refl]
  | j + 1, k, hk => by
    have g : ¬ 5 ≤ k := by omega
    have ih := land_loop d b h f r F hn w V β hβ x Q j (k + 1) (by omega)
    have e : nb (lnR r β k) = nb r := (Vr_ln V hβ k (by omega)).2
    have h6 := V.nb6
    have e1 : lnR r β (k + 1) = upr (lnR r β k) (81 + 10 * β + k) (nI 0) := rfl
    rw [e1] at ih
    generalize lnR r β k = ρ at *
    have hβ' : β < nb ρ := by omega
    rw [w_225_2]
    simp -implicitDefEqProofs (disch := first | omega | (simp (disch := omega) only [nb_upr]; omega)) only [zi_0, zi_0n, zi_88, zi_139, zi_66, zi_37, zi_67w1, zi_67w2, zi_92, zi_147, zi_32i, zi_32r, zi_32u, zi_32a, zi_3i, zi_3r, zi_155, zi_34, zi_70, zi_156, zi_31, zi_111i, zi_111r, zi_111u, zi_111a, zi_113, zi_63, zi_59, zi_157, zi_148, zi_79, zi_38, zi_158i, zi_158r, zi_158u, zi_158a, zi_112, F.t100, hn, w.t, w.r13, w.t13, w.l13, kC_eq, toL_s, toL_n, okS0, okS1, okS2, okS3, okS4, okS5, true_and, and_true, hT_wI, hL_wI, hR_wI, hI_wI, hJ_wI, sI_wI, rfP, isIA_100, isIA_120, inb_ok, nI_clamp, nI_add, nI_mul, ↓reduceIte, not_false_eq_true, not_true_eq_false, true_or, or_true, ↓bI_01, ↓b01_0, ↓b01_1, bI_0, z00, z10, n4, n5, n2, n8, Nat.reduceMul, Nat.reduceAdd, Nat.reduceLT, Nat.reduceLeDiff, nI_eq, nI_leI, nI_ltI, Nat.reduceEqDiff, pk_div, nI_sub, Nat.reduceDiv, Nat.reduceSub, g, ws_h]
    exact ih
theorem mland_loop (d : Nat) (h : PH) (f : Nat → Nat → Int32) (r : Nat → Int32) (F : FR h) (V : Vr n r) (β : Nat) (hβ : β < nb r) (x : Int32) (hd : 1 ≤ d) (Q : Option Value → PH → Prop) :
    ∀ (j k : Nat), k + j = 5 → WP d 1041 2 [.ref 233, .int (nI β), .int x, .int (nI k)] [] (wI h (mw f 234 (lnR r β k))) Q = Q (some (.int x)) (wI h (mw f 234 (lnR r β 5)))
  | 0, k, hk => by
    obtain rfl : k = 5 := by omega
    rw [w_1041_2]
    simp -implicitDefEqProofs (disch := first | omega | (simp (disch := omega) only [nb_upr]; omega)) only [w_1041_3, zi_0, zi_0n, zi_88, zi_458, zi_98, zi_37, zi_67w1, zi_67w2, zi_460, zi_32i, zi_32r, zi_32u, zi_32a, zi_357, zi_9, zi_436i, zi_436l, zi_106, zi_34, zi_70, zi_38, zi_31, zi_111i, zi_111r, zi_111u, zi_111a, zi_113, zi_63, zi_59, zi_157, zi_457, zi_158i, zi_158r, zi_158u, zi_158a, zi_112, kC_eq, toL_s, toL_n, okS0, okS1, okS2, okS3, okS4, okS5, true_and, and_true, hT_wI, hL_wI, hR_wI, hI_wI, hJ_wI, sI_wI, rfP, isIA_100, isIA_120, inb_ok, nI_clamp, nI_add, nI_mul, ↓reduceIte, not_false_eq_true, not_true_eq_false, true_or, or_true, ↓bI_01, ↓b01_0, ↓b01_1, bI_0, z00, z10, n4, n5, n2, n8, Nat.reduceMul, Nat.reduceAdd, Nat.reduceLT, Nat.reduceLeDiff, nI_eq, nI_leI, nI_ltI, Nat.reduceEqDiff, pk_div, nI_sub, Nat.reduceDiv, Nat.reduceSub, Nat.le_refl]
  | j + 1, k, hk => by
    have g : ¬ 5 ≤ k := by omega
    have ih := mland_loop d h f r F V β hβ x hd Q j (k + 1) (by omega)
    have e : nb (lnR r β k) = nb r := (Vr_ln V hβ k (by omega)).2
    have h6 := V.nb6
    have e1 : lnR r β (k + 1) = upr (lnR r β k) (81 + 10 * β + k) (nI 0) := rfl
    rw [e1] at ih
    generalize lnR r β k = ρ at *
    have hβ' : β < nb ρ := by omega
    rw [w_1041_2]
    simp -implicitDefEqProofs (disch := first | omega | (simp (disch := omega) only [nb_upr]; omega)) only [zi_0, zi_0n, zi_88, zi_458, zi_98, zi_37, zi_67w1, zi_67w2, zi_460, zi_32i, zi_32r, zi_32u, zi_32a, zi_357, zi_9, zi_436i, zi_436l, zi_106, zi_34, zi_70, zi_38, zi_31, zi_111i, zi_111r, zi_111u, zi_111a, zi_113, zi_63, zi_59, zi_157, zi_457, zi_158i, zi_158r, zi_158u, zi_158a, zi_112, F.t233, kC_eq, toL_s, toL_n, okS0, okS1, okS2, okS3, okS4, okS5, true_and, and_true, hT_wI, hL_wI, hR_wI, hI_wI, hJ_wI, sI_wI, rfP, isIA_100, isIA_120, inb_ok, nI_clamp, nI_add, nI_mul, ↓reduceIte, not_false_eq_true, not_true_eq_false, true_or, or_true, ↓bI_01, ↓b01_0, ↓b01_1, bI_0, z00, z10, n4, n5, n2, n8, Nat.reduceMul, Nat.reduceAdd, Nat.reduceLT, Nat.reduceLeDiff, nI_eq, nI_leI, nI_ltI, Nat.reduceEqDiff, pk_div, nI_sub, Nat.reduceDiv, Nat.reduceSub, g, e_setsh F]
    exact ih
theorem p_land (F : FR h) (hn : hR h 100 0 = some b) (w : WB h b) (V : Vr n r) (s : Int32) : Pair h b n r 225 1041 [.int s] := by
  have V' := V.mono (show n ≤ n + 6 by omega)
  have h5 := V.r5
  have h6 := V.nb6
  by_cases hs : s < nI 0 ∨ nI (nb r) - nI 1 < s
  · exact ⟨.int (Int32.ofInt (-1)), r, V', fun f T => ⟨f, ScC.refl f, fun Q => by simp -implicitDefEqProofs (disch := first | omega | (simp (disch := omega) only [nb_upr]; omega)) only [R_225, w_225_0, zi_0, zi_0n, zi_88, zi_139, zi_66, zi_37, zi_67w1, zi_67w2, zi_92, zi_147, zi_32i, zi_32r, zi_32u, zi_32a, zi_3i, zi_3r, zi_155, zi_34, zi_70, zi_156, zi_31, zi_111i, zi_111r, zi_111u, zi_111a, zi_113, zi_63, zi_59, zi_157, zi_148, zi_79, zi_38, zi_158i, zi_158r, zi_158u, zi_158a, zi_112, F.t100, hn, kC_eq, toL_s, toL_n, okS0, okS1, okS2, okS3, okS4, okS5, true_and, and_true, hT_wI, hL_wI, hR_wI, hI_wI, hJ_wI, sI_wI, rfP, isIA_100, isIA_120, inb_ok, nI_clamp, nI_add, nI_mul, ↓reduceIte, not_false_eq_true, not_true_eq_false, true_or, or_true, ↓bI_01, ↓b01_0, ↓b01_1, bI_0, z00, z10, n4, n5, n2, n8, Nat.reduceMul, Nat.reduceAdd, Nat.reduceLT, Nat.reduceLeDiff, e_noBoat F hn w h5, hs]⟩, fun f T => ⟨f, Sc.refl f, fun Q => by simp -implicitDefEqProofs (disch := first | omega | (simp (disch := omega) only [nb_upr]; omega)) only [R_1041, w_1041_0, zi_0, zi_0n, zi_88, zi_458, zi_98, zi_37, zi_67w1, zi_67w2, zi_460, zi_32i, zi_32r, zi_32u, zi_32a, zi_357, zi_9, zi_436i, zi_436l, zi_106, zi_34, zi_70, zi_38, zi_31, zi_111i, zi_111r, zi_111u, zi_111a, zi_113, zi_63, zi_59, zi_157, zi_457, zi_158i, zi_158r, zi_158u, zi_158a, zi_112, F.t233, kC_eq, toL_s, toL_n, okS0, okS1, okS2, okS3, okS4, okS5, true_and, and_true, hT_wI, hL_wI, hR_wI, hI_wI, hJ_wI, sI_wI, rfP, isIA_100, isIA_120, inb_ok, nI_clamp, nI_add, nI_mul, ↓reduceIte, not_false_eq_true, not_true_eq_false, true_or, or_true, ↓bI_01, ↓b01_0, ↓b01_1, bI_0, z00, z10, n4, n5, n2, n8, Nat.reduceMul, Nat.reduceAdd, Nat.reduceLT, Nat.reduceLeDiff, e_isBoat F h5, hs]⟩⟩
  obtain ⟨β, hβ, rfl⟩ := btwB V hs
  have hβ6 : β < 6 := by omega
  have V2 := V'.put (q := 4) (x := r 4 + woIn r β 5) (lim_lt (by decide)) (by decide) (by rw [okq_f (by decide)]; trivial)
  have hb2 : β < nb (upr r 4 (r 4 + woIn r β 5)) := by rw [nb_upr (by decide)]; exact hβ
  have V3 := (Vr_ln V2 hb2 5 (by decide)).1
  refine ⟨.int (woIn r β 5), _, V3, fun f T => ⟨f, ScC.refl f, fun Q => ?_⟩, fun f T => ⟨f, Sc.refl f, fun Q => ?_⟩⟩
  · have hl := land_loop 30 b h f _ F hn w V2 β hb2 (woIn r β 5) Q 5 0 rfl
    simp -implicitDefEqProofs (disch := first | omega | (simp (disch := omega) only [nb_upr]; omega)) only [R_225, w_225_0, w_225_1, zi_0, zi_0n, zi_88, zi_139, zi_66, zi_37, zi_67w1, zi_67w2, zi_92, zi_147, zi_32i, zi_32r, zi_32u, zi_32a, zi_3i, zi_3r, zi_155, zi_34, zi_70, zi_156, zi_31, zi_111i, zi_111r, zi_111u, zi_111a, zi_113, zi_63, zi_59, zi_157, zi_148, zi_79, zi_38, zi_158i, zi_158r, zi_158u, zi_158a, zi_112, F.t100, hn, w.t, w.r13, w.t13, w.l13, kC_eq, toL_s, toL_n, okS0, okS1, okS2, okS3, okS4, okS5, true_and, and_true, hT_wI, hL_wI, hR_wI, hI_wI, hJ_wI, sI_wI, rfP, isIA_100, isIA_120, inb_ok, nI_clamp, nI_add, nI_mul, ↓reduceIte, not_false_eq_true, not_true_eq_false, true_or, or_true, ↓bI_01, ↓b01_0, ↓b01_1, bI_0, z00, z10, n4, n5, n2, n8, Nat.reduceMul, Nat.reduceAdd, Nat.reduceLT, Nat.reduceLeDiff, e_noBoat F hn w h5, hs, e_worthHeld _ b h f r w β hβ hβ6, ww_0_16, ws_0_16]
    exact hl
  · have hl := mland_loop 30 h f _ F V2 β hb2 (woIn r β 5) (by decide) Q 5 0 rfl
    simp -implicitDefEqProofs (disch := first | omega | (simp (disch := omega) only [nb_upr]; omega)) only [R_1041, w_1041_0, w_1041_1, zi_0, zi_0n, zi_88, zi_458, zi_98, zi_37, zi_67w1, zi_67w2, zi_460, zi_32i, zi_32r, zi_32u, zi_32a, zi_357, zi_9, zi_436i, zi_436l, zi_106, zi_34, zi_70, zi_38, zi_31, zi_111i, zi_111r, zi_111u, zi_111a, zi_113, zi_63, zi_59, zi_157, zi_457, zi_158i, zi_158r, zi_158u, zi_158a, zi_112, F.t233, F.t233, F.r233_0, F.t234, F.l234, kC_eq, toL_s, toL_n, okS0, okS1, okS2, okS3, okS4, okS5, true_and, and_true, hT_wI, hL_wI, hR_wI, hI_wI, hJ_wI, sI_wI, rfP, isIA_100, isIA_120, inb_ok, nI_clamp, nI_add, nI_mul, ↓reduceIte, not_false_eq_true, not_true_eq_false, true_or, or_true, ↓bI_01, ↓b01_0, ↓b01_1, bI_0, z00, z10, n4, n5, n2, n8, Nat.reduceMul, Nat.reduceAdd, Nat.reduceLT, Nat.reduceLeDiff, e_isBoat F h5, hs, e_worthOf F β hβ hβ6, mw_r, mw_w]
    exact hl
/-! bells -/
def bel (r : Nat → Int32) : Nat → Nat → Int32
  | 0 => r
  | k + 1 => bell (bel r k)
theorem Vr_bel {n : Nat} {r : Nat → Int32} (V : Vr n r) : ∀ k, Vr n (bel r k)
  | 0 => V
  | k + 1 => Vr_bell (Vr_bel V k)
theorem bells_loop (d b : Nat) (h : PH) (f : Nat → Nat → Int32) (r : Nat → Int32) (F : FR h) (hn : hR h 100 0 = some b) (w : WB h b) (V : Vr n r) (m : Nat) (hm : m ≤ 48) (hd : 2 ≤ d) (Q : Option Value → PH → Prop) :
    ∀ (j k : Nat), k + j = m → WP d 233 2 [.ref 100, .int (nI m), .int (nI k)] [] (wI h (ww f b (bel r k))) Q = Q (some (.int (bel r m 3))) (wI h (ww f b (bel r m)))
  | 0, k, hk => by
    obtain rfl : k = m := by omega
    rw [w_233_2]
    simp -implicitDefEqProofs (disch := first | omega | (simp (disch := omega) only [nb_upr]; omega)) only [w_233_3, zi_88, zi_48, zi_159, zi_65, zi_66, zi_37, zi_67w1, zi_67w2, zi_31, zi_32i, zi_32r, zi_32u, zi_32a, zi_113, zi_34, zi_157, zi_0, zi_0n, zi_92, zi_160, zi_39i, zi_39r, zi_39u, zi_39a, zi_112, zi_161, F.t100, hn, w.t, kC_eq, toL_s, toL_n, okS0, okS1, okS2, okS3, okS4, okS5, true_and, and_true, hT_wI, hL_wI, hR_wI, hI_wI, hJ_wI, sI_wI, rfP, isIA_100, isIA_120, inb_ok, nI_clamp, nI_add, nI_mul, ↓reduceIte, not_false_eq_true, not_true_eq_false, true_or, or_true, ↓bI_01, ↓b01_0, ↓b01_1, bI_0, z00, z10, n4, n5, n2, n8, Nat.reduceMul, Nat.reduceAdd, Nat.reduceLT, Nat.reduceLeDiff, nI_eq, nI_leI, nI_ltI, Nat.reduceEqDiff, pk_div, nI_sub, Nat.reduceDiv, Nat.reduceSub, Nat.le_refl, ww_0_15]
  | j + 1, k, hk => by
    have g : ¬ m ≤ k := by omega
    have ih := bells_loop d b h f r F hn w V m hm hd Q j (k + 1) (by omega)
    rw [w_233_2]
    simp -implicitDefEqProofs (disch := first | omega | (simp (disch := omega) only [nb_upr]; omega)) only [zi_88, zi_48, zi_159, zi_65, zi_66, zi_37, zi_67w1, zi_67w2, zi_31, zi_32i, zi_32r, zi_32u, zi_32a, zi_113, zi_34, zi_157, zi_0, zi_0n, zi_92, zi_160, zi_39i, zi_39r, zi_39u, zi_39a, zi_112, zi_161, F.t100, hn, w.t, kC_eq, toL_s, toL_n, okS0, okS1, okS2, okS3, okS4, okS5, true_and, and_true, hT_wI, hL_wI, hR_wI, hI_wI, hJ_wI, sI_wI, rfP, isIA_100, isIA_120, inb_ok, nI_clamp, nI_add, nI_mul, ↓reduceIte, not_false_eq_true, not_true_eq_false, true_or, or_true, ↓bI_01, ↓b01_0, ↓b01_1, bI_0, z00, z10, n4, n5, n2, n8, Nat.reduceMul, Nat.reduceAdd, Nat.reduceLT, Nat.reduceLeDiff, nI_eq, nI_leI, nI_ltI, Nat.reduceEqDiff, pk_div, nI_sub, Nat.reduceDiv, Nat.reduceSub, g, e_ring _ b h f _ w (Vr_bel V k).vs]
    exact ih
theorem mbells_loop (d : Nat) (h : PH) (r : Nat → Int32) (F : FR h) (V : Vr n r) (m : Nat) (hm : m ≤ 48) (hd : 2 ≤ d) :
    ∀ (j k : Nat) (f : Nat → Nat → Int32), k + j = m → ∃ f', S1 f f' ∧ ∀ Q, WP d 1049 2 [.ref 233, .int (nI m), .int (nI k)] [] (wI h (mw f 234 (bel r k))) Q = Q (some (.int (bel r m 3))) (wI h (mw f' 234 (bel r m)))
  | 0, k, f, hk => by
    obtain rfl : k = m := by omega
    refine ⟨f, S1.refl f, fun Q => ?_⟩
    rw [w_1049_2]
    simp -implicitDefEqProofs (disch := first | omega | (simp (disch := omega) only [nb_upr]; omega)) only [w_1049_3, zi_88, zi_48, zi_159, zi_362, zi_98, zi_37, zi_67w1, zi_67w2, zi_31, zi_32i, zi_32r, zi_32u, zi_32a, zi_113, zi_34, zi_157, zi_0, zi_0n, zi_478, zi_39i, zi_39r, zi_39u, zi_39a, zi_112, zi_357, zi_54, zi_106, F.t233, F.r233_0, F.t234, F.l234, kC_eq, toL_s, toL_n, okS0, okS1, okS2, okS3, okS4, okS5, true_and, and_true, hT_wI, hL_wI, hR_wI, hI_wI, hJ_wI, sI_wI, rfP, isIA_100, isIA_120, inb_ok, nI_clamp, nI_add, nI_mul, ↓reduceIte, not_false_eq_true, not_true_eq_false, true_or, or_true, ↓bI_01, ↓b01_0, ↓b01_1, bI_0, z00, z10, n4, n5, n2, n8, Nat.reduceMul, Nat.reduceAdd, Nat.reduceLT, Nat.reduceLeDiff, nI_eq, nI_leI, nI_ltI, Nat.reduceEqDiff, pk_div, nI_sub, Nat.reduceDiv, Nat.reduceSub, Nat.le_refl, mw_r]
  | j + 1, k, f, hk => by
    have g : ¬ m ≤ k := by omega
    obtain ⟨f1, ⟨s1, -⟩, eb⟩ := e_bellGoes (d := d - 1) (f := f) F (Vr_bel V k).vs (by omega)
    obtain ⟨f2, s2, ih⟩ := mbells_loop d h r F V m hm hd j (k + 1) f1 (by omega)
    refine ⟨f2, s1.trans s2, fun Q => ?_⟩
    rw [w_1049_2]
    simp -implicitDefEqProofs (disch := first | omega | (simp (disch := omega) only [nb_upr]; omega)) only [zi_88, zi_48, zi_159, zi_362, zi_98, zi_37, zi_67w1, zi_67w2, zi_31, zi_32i, zi_32r, zi_32u, zi_32a, zi_113, zi_34, zi_157, zi_0, zi_0n, zi_478, zi_39i, zi_39r, zi_39u, zi_39a, zi_112, zi_357, zi_54, zi_106, F.t233, F.t233, F.r233_0, F.t234, F.l234, kC_eq, toL_s, toL_n, okS0, okS1, okS2, okS3, okS4, okS5, true_and, and_true, hT_wI, hL_wI, hR_wI, hI_wI, hJ_wI, sI_wI, rfP, isIA_100, isIA_120, inb_ok, nI_clamp, nI_add, nI_mul, ↓reduceIte, not_false_eq_true, not_true_eq_false, true_or, or_true, ↓bI_01, ↓b01_0, ↓b01_1, bI_0, z00, z10, n4, n5, n2, n8, Nat.reduceMul, Nat.reduceAdd, Nat.reduceLT, Nat.reduceLeDiff, nI_eq, nI_leI, nI_ltI, Nat.reduceEqDiff, pk_div, nI_sub, Nat.reduceDiv, Nat.reduceSub, g, eb]
    exact ih Q
theorem p_bells (F : FR h) (hn : hR h 100 0 = some b) (w : WB h b) (V : Vr n r) (v : Int32) : Pair h b n r 233 1049 [.int v] := by
  have V' := V.mono (show n ≤ n + 6 by omega)
  by_cases hv : v < nI 1 ∨ nI 48 < v
  · exact ⟨.int (Int32.ofInt (-1)), r, V', fun f T => ⟨f, ScC.refl f, fun Q => by simp -implicitDefEqProofs (disch := first | omega | (simp (disch := omega) only [nb_upr]; omega)) only [R_233, w_233_0, zi_88, zi_48, zi_159, zi_65, zi_66, zi_37, zi_67w1, zi_67w2, zi_31, zi_32i, zi_32r, zi_32u, zi_32a, zi_113, zi_34, zi_157, zi_0, zi_0n, zi_92, zi_160, zi_39i, zi_39r, zi_39u, zi_39a, zi_112, zi_161, kC_eq, toL_s, toL_n, okS0, okS1, okS2, okS3, okS4, okS5, true_and, and_true, hT_wI, hL_wI, hR_wI, hI_wI, hJ_wI, sI_wI, rfP, isIA_100, isIA_120, inb_ok, nI_clamp, nI_add, nI_mul, ↓reduceIte, not_false_eq_true, not_true_eq_false, true_or, or_true, ↓bI_01, ↓b01_0, ↓b01_1, bI_0, z00, z10, n4, n5, n2, n8, Nat.reduceMul, Nat.reduceAdd, Nat.reduceLT, Nat.reduceLeDiff, e_outside, hv]⟩, fun f T => ⟨f, Sc.refl f, fun Q => by simp -implicitDefEqProofs (disch := first | omega | (simp (disch := omega) only [nb_upr]; omega)) only [R_1049, w_1049_0, zi_88, zi_48, zi_159, zi_362, zi_98, zi_37, zi_67w1, zi_67w2, zi_31, zi_32i, zi_32r, zi_32u, zi_32a, zi_113, zi_34, zi_157, zi_0, zi_0n, zi_478, zi_39i, zi_39r, zi_39u, zi_39a, zi_112, zi_357, zi_54, zi_106, kC_eq, toL_s, toL_n, okS0, okS1, okS2, okS3, okS4, okS5, true_and, and_true, hT_wI, hL_wI, hR_wI, hI_wI, hJ_wI, sI_wI, rfP, isIA_100, isIA_120, inb_ok, nI_clamp, nI_add, nI_mul, ↓reduceIte, not_false_eq_true, not_true_eq_false, true_or, or_true, ↓bI_01, ↓b01_0, ↓b01_1, bI_0, z00, z10, n4, n5, n2, n8, Nat.reduceMul, Nat.reduceAdd, Nat.reduceLT, Nat.reduceLeDiff, e_in, hv]⟩⟩
  obtain ⟨m, -, hm, rfl⟩ := btw (by decide) (by decide) hv
  refine ⟨.int (bel r m 3), bel r m, (Vr_bel V m).mono (by omega), fun f T => ⟨f, ScC.refl f, fun Q => ?_⟩, fun f T => ?_⟩
  · simp -implicitDefEqProofs (disch := first | omega | (simp (disch := omega) only [nb_upr]; omega)) only [R_233, w_233_0, w_233_1, zi_88, zi_48, zi_159, zi_65, zi_66, zi_37, zi_67w1, zi_67w2, zi_31, zi_32i, zi_32r, zi_32u, zi_32a, zi_113, zi_34, zi_157, zi_0, zi_0n, zi_92, zi_160, zi_39i, zi_39r, zi_39u, zi_39a, zi_112, zi_161, kC_eq, toL_s, toL_n, okS0, okS1, okS2, okS3, okS4, okS5, true_and, and_true, hT_wI, hL_wI, hR_wI, hI_wI, hJ_wI, sI_wI, rfP, isIA_100, isIA_120, inb_ok, nI_clamp, nI_add, nI_mul, ↓reduceIte, not_false_eq_true, not_true_eq_false, true_or, or_true, ↓bI_01, ↓b01_0, ↓b01_1, bI_0, z00, z10, n4, n5, n2, n8, Nat.reduceMul, Nat.reduceAdd, Nat.reduceLT, Nat.reduceLeDiff, e_outside, hv]
    exact bells_loop 30 b h f r F hn w V m hm (by decide) Q m 0 (by omega)
  · obtain ⟨f', s1, e⟩ := mbells_loop 30 h r F V m hm (by decide) m 0 f (by omega)
    refine ⟨f', s1.sc, fun Q => ?_⟩
    simp -implicitDefEqProofs (disch := first | omega | (simp (disch := omega) only [nb_upr]; omega)) only [R_1049, w_1049_0, w_1049_1, zi_88, zi_48, zi_159, zi_362, zi_98, zi_37, zi_67w1, zi_67w2, zi_31, zi_32i, zi_32r, zi_32u, zi_32a, zi_113, zi_34, zi_157, zi_0, zi_0n, zi_478, zi_39i, zi_39r, zi_39u, zi_39a, zi_112, zi_357, zi_54, zi_106, kC_eq, toL_s, toL_n, okS0, okS1, okS2, okS3, okS4, okS5, true_and, and_true, hT_wI, hL_wI, hR_wI, hI_wI, hJ_wI, sI_wI, rfP, isIA_100, isIA_120, inb_ok, nI_clamp, nI_add, nI_mul, ↓reduceIte, not_false_eq_true, not_true_eq_false, true_or, or_true, ↓bI_01, ↓b01_0, ↓b01_1, bI_0, z00, z10, n4, n5, n2, n8, Nat.reduceMul, Nat.reduceAdd, Nat.reduceLT, Nat.reduceLeDiff, e_in, hv]
    exact e Q
/-! state -/
def sumA (f : Nat → Nat → Int32) (c : Nat) : Nat → Int32
  | 0 => nI 0
  | k + 1 => sumA f c k + f c k
theorem sum_loop (d c : Nat) (h : PH) (f : Nat → Nat → Int32) (ht : hT h c = 100) (m : Nat) (hm : m ≤ hL h c) (hl : hL h c < 1000) (Q : Option Value → PH → Prop) :
    ∀ (j k : Nat), k + j = m → WP d 282 1 [.ref c, .int (nI m), .int (sumA f c k), .int (nI k)] [] (wI h f) Q = Q (some (.int (sumA f c m))) (wI h f)
  | 0, k, hk => by
    obtain rfl : k = m := by omega
    rw [w_282_1]
    simp -implicitDefEqProofs (disch := first | omega | (simp (disch := omega) only [nb_upr]; omega)) only [w_282_2, zi_31, zi_32i, zi_32r, zi_32u, zi_32a, zi_111i, zi_111r, zi_111u, zi_111a, zi_33, zi_63, zi_88, zi_35, zi_0, zi_0n, zi_173, zi_34, zi_106, zi_70, zi_158i, zi_158r, zi_158u, zi_158a, zi_40, zi_67w1, zi_67w2, kC_eq, toL_s, toL_n, okS0, okS1, okS2, okS3, okS4, okS5, true_and, and_true, hT_wI, hL_wI, hR_wI, hI_wI, hJ_wI, sI_wI, rfP, isIA_100, isIA_120, inb_ok, nI_clamp, nI_add, nI_mul, ↓reduceIte, not_false_eq_true, not_true_eq_false, true_or, or_true, ↓bI_01, ↓b01_0, ↓b01_1, bI_0, z00, z10, n4, n5, n2, n8, Nat.reduceMul, Nat.reduceAdd, Nat.reduceLT, Nat.reduceLeDiff, nI_eq, nI_leI, nI_ltI, Nat.reduceEqDiff, pk_div, nI_sub, Nat.reduceDiv, Nat.reduceSub, Nat.le_refl]
  | j + 1, k, hk => by
    have g : ¬ m ≤ k := by omega
    have g2 : ¬ hL h c ≤ k := by omega
    have ih := sum_loop d c h f ht m hm hl Q j (k + 1) (by omega)
    rw [w_282_1]
    simp -implicitDefEqProofs (disch := first | omega | (simp (disch := omega) only [nb_upr]; omega)) only [zi_31, zi_32i, zi_32r, zi_32u, zi_32a, zi_111i, zi_111r, zi_111u, zi_111a, zi_33, zi_63, zi_88, zi_35, zi_0, zi_0n, zi_173, zi_34, zi_106, zi_70, zi_158i, zi_158r, zi_158u, zi_158a, zi_40, zi_67w1, zi_67w2, kC_eq, toL_s, toL_n, okS0, okS1, okS2, okS3, okS4, okS5, true_and, and_true, hT_wI, hL_wI, hR_wI, hI_wI, hJ_wI, sI_wI, rfP, isIA_100, isIA_120, inb_ok, nI_clamp, nI_add, nI_mul, ↓reduceIte, not_false_eq_true, not_true_eq_false, true_or, or_true, ↓bI_01, ↓b01_0, ↓b01_1, bI_0, z00, z10, n4, n5, n2, n8, Nat.reduceMul, Nat.reduceAdd, Nat.reduceLT, Nat.reduceLeDiff, nI_eq, nI_leI, nI_ltI, Nat.reduceEqDiff, pk_div, nI_sub, Nat.reduceDiv, Nat.reduceSub, g, ht, g2]
    exact ih
theorem e_sum (d c : Nat) (h : PH) (f : Nat → Nat → Int32) (ht : hT h c = 100) (m : Nat) (hm : m ≤ hL h c) (hl : hL h c < 1000) (Q : Option Value → PH → Prop) :
    Run d 282 [.ref c, .int (nI m)] (wI h f) Q = Q (some (.int (sumA f c m))) (wI h f) := by
  simp -implicitDefEqProofs (disch := first | omega | (simp (disch := omega) only [nb_upr]; omega)) only [R_282, w_282_0, zi_31, zi_32i, zi_32r, zi_32u, zi_32a, zi_111i, zi_111r, zi_111u, zi_111a, zi_33, zi_63, zi_88, zi_35, zi_0, zi_0n, zi_173, zi_34, zi_106, zi_70, zi_158i, zi_158r, zi_158u, zi_158a, zi_40, zi_67w1, zi_67w2, kC_eq, toL_s, toL_n, okS0, okS1, okS2, okS3, okS4, okS5, true_and, and_true, hT_wI, hL_wI, hR_wI, hI_wI, hJ_wI, sI_wI, rfP, isIA_100, isIA_120, inb_ok, nI_clamp, nI_add, nI_mul, ↓reduceIte, not_false_eq_true, not_true_eq_false, true_or, or_true, ↓bI_01, ↓b01_0, ↓b01_1, bI_0, z00, z10, n4, n5, n2, n8, Nat.reduceMul, Nat.reduceAdd, Nat.reduceLT, Nat.reduceLeDiff]
  exact sum_loop d c h f ht m hm hl Q m 0 (by omega)
def smS (r : Nat → Int32) : Nat → Int32
  | 0 => nI 0
  | s + 1 => smS r s + stIn r s 5
def hoIn (r : Nat → Int32) (x : Int32) (β : Nat) : Nat → Int32
  | 0 => x
  | k + 1 => hoIn r x β k + r (81 + 10 * β + k)
def smH (r : Nat → Int32) : Nat → Int32
  | 0 => nI 0
  | β + 1 => hoIn r (smH r β) β 5
theorem sumA_st {f : Nat → Nat → Int32} {r : Nat → Int32} {b : Nat} : ∀ s, s ≤ 8 → sumA (ww f b r) (b + 3) (s * 5) = smS r s
  | 0, _ => rfl
  | s + 1, hs => by
    have ih := sumA_st (f := f) (r := r) (b := b) s (by omega)
    have e : ∀ k, k ≤ 5 → sumA (ww f b r) (b + 3) (s * 5 + k) = smS r s + stIn r s k := by
      intro k
      induction k with
      | zero => intro _; show sumA _ _ (s * 5) = smS r s + nI 0; rw [ih, i32_add0]
      | succ k ik =>
        intro hk
        show sumA _ _ (s * 5 + k) + ww f b r (b + 3) (s * 5 + k) = smS r s + (stIn r s k + r (12 + 7 * s + k))
        rw [ik (by omega), ww_s (by omega) (by omega), Int32.add_assoc]
    rw [show (s + 1) * 5 = s * 5 + 5 by omega]
    exact e 5 (by decide)
theorem sumA_ho {f : Nat → Nat → Int32} {r : Nat → Int32} {b : Nat} (h6 : nb r ≤ 6) : ∀ s, s ≤ nb r → sumA (ww f b r) (b + 13) (s * 5) = smH r s
  | 0, _ => rfl
  | s + 1, hs => by
    have ih := sumA_ho (f := f) (r := r) (b := b) h6 s (by omega)
    have e : ∀ k, k ≤ 5 → sumA (ww f b r) (b + 13) (s * 5 + k) = hoIn r (smH r s) s k := by
      intro k
      induction k with
      | zero => intro _; exact ih
      | succ k ik =>
        intro hk
        show sumA _ _ (s * 5 + k) + ww f b r (b + 13) (s * 5 + k) = hoIn r (smH r s) s k + r (81 + 10 * s + k)
        rw [ik (by omega), ww_h (by omega) (by omega) (by omega)]
    rw [show (s + 1) * 5 = s * 5 + 5 by omega]
    exact e 5 (by decide)
theorem sumOf2_loop (d : Nat) (h : PH) (f : Nat → Nat → Int32) (r : Nat → Int32) (F : FR h) (hd : 2 ≤ d) (v4 : Value) (h5 : r 5 = nI (nb r)) (Q : Option Value → PH → Prop) (h6 : nb r ≤ 6) :
    ∀ (j k : Nat), k + j = 8 → WP d 1129 1 [.ref 233, .int (nI 2), .int (smS r k), .int (nI k), v4] [] (wI h (mw f 234 r)) Q = Q (some (.int (smS r 8))) (wI h (mw f 234 r))
  | 0, k, hk => by
    obtain rfl : k = 8 := by omega
    rw [w_1129_1]
    simp -implicitDefEqProofs (disch := first | omega | (simp (disch := omega) only [nb_upr]; omega)) only [w_1129_2, w_1129_3, w_1129_6, zi_31, zi_32i, zi_32r, zi_32u, zi_32a, zi_111i, zi_111r, zi_111u, zi_111a, zi_33, zi_63, zi_64, zi_35, zi_88, zi_51, zi_384, zi_34, zi_0, zi_0n, zi_455, zi_70, zi_158i, zi_158r, zi_158u, zi_158a, zi_40, zi_75, zi_357, zi_59, zi_106, zi_195, zi_54, zi_135, zi_74i, zi_74r, zi_74u, zi_74a, zi_133, zi_76, zi_166, zi_459, zi_85i, zi_85r, zi_85u, zi_85a, zi_131, zi_86, zi_67w1, zi_67w2, F.t233, F.r233_0, F.t234, F.l234, kC_eq, toL_s, toL_n, okS0, okS1, okS2, okS3, okS4, okS5, true_and, and_true, hT_wI, hL_wI, hR_wI, hI_wI, hJ_wI, sI_wI, rfP, isIA_100, isIA_120, inb_ok, nI_clamp, nI_add, nI_mul, ↓reduceIte, not_false_eq_true, not_true_eq_false, true_or, or_true, ↓bI_01, ↓b01_0, ↓b01_1, bI_0, z00, z10, n4, n5, n2, n8, Nat.reduceMul, Nat.reduceAdd, Nat.reduceLT, Nat.reduceLeDiff, nI_eq, nI_leI, nI_ltI, Nat.reduceEqDiff, pk_div, nI_sub, Nat.reduceDiv, Nat.reduceSub, Nat.le_refl, mw_r, h5, ite_self]
  | j + 1, k, hk => by
    have g : ¬ 8 ≤ k := by omega
    have ih := sumOf2_loop d h f r F hd v4 h5 Q h6 j (k + 1) (by omega)
    rw [w_1129_1]
    simp -implicitDefEqProofs (disch := first | omega | (simp (disch := omega) only [nb_upr]; omega)) only [zi_31, zi_32i, zi_32r, zi_32u, zi_32a, zi_111i, zi_111r, zi_111u, zi_111a, zi_33, zi_63, zi_64, zi_35, zi_88, zi_51, zi_384, zi_34, zi_0, zi_0n, zi_455, zi_70, zi_158i, zi_158r, zi_158u, zi_158a, zi_40, zi_75, zi_357, zi_59, zi_106, zi_195, zi_54, zi_135, zi_74i, zi_74r, zi_74u, zi_74a, zi_133, zi_76, zi_166, zi_459, zi_85i, zi_85r, zi_85u, zi_85a, zi_131, zi_86, zi_67w1, zi_67w2, F.t233, F.r233_0, F.t234, F.l234, kC_eq, toL_s, toL_n, okS0, okS1, okS2, okS3, okS4, okS5, true_and, and_true, hT_wI, hL_wI, hR_wI, hI_wI, hJ_wI, sI_wI, rfP, isIA_100, isIA_120, inb_ok, nI_clamp, nI_add, nI_mul, ↓reduceIte, not_false_eq_true, not_true_eq_false, true_or, or_true, ↓bI_01, ↓b01_0, ↓b01_1, bI_0, z00, z10, n4, n5, n2, n8, Nat.reduceMul, Nat.reduceAdd, Nat.reduceLT, Nat.reduceLeDiff, nI_eq, nI_leI, nI_ltI, Nat.reduceEqDiff, pk_div, nI_sub, Nat.reduceDiv, Nat.reduceSub, g, e_stockOf F]
    exact ih
theorem sumOf3_in (d : Nat) (h : PH) (f : Nat → Nat → Int32) (r : Nat → Int32) (F : FR h) (hd : 2 ≤ d) (β : Nat) (hβ : β < nb r) (h6 : nb r ≤ 6) (x : Int32) (Q : Option Value → PH → Prop) :
    ∀ (j k : Nat), k + j = 5 → WP d 1129 4 [.ref 233, .int (nI 3), .int (hoIn r x β k), .int (nI β), .int (nI k)] [] (wI h (mw f 234 r)) Q = WP d 1129 3 [.ref 233, .int (nI 3), .int (hoIn r x β 5), .int (nI (β + 1)), .int (nI 5)] [] (wI h (mw f 234 r)) Q
  | 0, k, hk => by
    obtain rfl : k = 5 := by omega
    rw [w_1129_4]
    simp -implicitDefEqProofs (disch := first | omega | (simp (disch := omega) only [nb_upr]; omega)) only [w_1129_5, zi_31, zi_32i, zi_32r, zi_32u, zi_32a, zi_111i, zi_111r, zi_111u, zi_111a, zi_33, zi_63, zi_64, zi_35, zi_88, zi_51, zi_384, zi_34, zi_0, zi_0n, zi_455, zi_70, zi_158i, zi_158r, zi_158u, zi_158a, zi_40, zi_75, zi_357, zi_59, zi_106, zi_195, zi_54, zi_135, zi_74i, zi_74r, zi_74u, zi_74a, zi_133, zi_76, zi_166, zi_459, zi_85i, zi_85r, zi_85u, zi_85a, zi_131, zi_86, zi_67w1, zi_67w2, F.t233, F.r233_0, F.t234, F.l234, kC_eq, toL_s, toL_n, okS0, okS1, okS2, okS3, okS4, okS5, true_and, and_true, hT_wI, hL_wI, hR_wI, hI_wI, hJ_wI, sI_wI, rfP, isIA_100, isIA_120, inb_ok, nI_clamp, nI_add, nI_mul, ↓reduceIte, not_false_eq_true, not_true_eq_false, true_or, or_true, ↓bI_01, ↓b01_0, ↓b01_1, bI_0, z00, z10, n4, n5, n2, n8, Nat.reduceMul, Nat.reduceAdd, Nat.reduceLT, Nat.reduceLeDiff, nI_eq, nI_leI, nI_ltI, Nat.reduceEqDiff, pk_div, nI_sub, Nat.reduceDiv, Nat.reduceSub, Nat.le_refl]
  | j + 1, k, hk => by
    have g : ¬ 5 ≤ k := by omega
    have ih := sumOf3_in d h f r F hd β hβ h6 x Q j (k + 1) (by omega)
    rw [w_1129_4]
    simp -implicitDefEqProofs (disch := first | omega | (simp (disch := omega) only [nb_upr]; omega)) only [zi_31, zi_32i, zi_32r, zi_32u, zi_32a, zi_111i, zi_111r, zi_111u, zi_111a, zi_33, zi_63, zi_64, zi_35, zi_88, zi_51, zi_384, zi_34, zi_0, zi_0n, zi_455, zi_70, zi_158i, zi_158r, zi_158u, zi_158a, zi_40, zi_75, zi_357, zi_59, zi_106, zi_195, zi_54, zi_135, zi_74i, zi_74r, zi_74u, zi_74a, zi_133, zi_76, zi_166, zi_459, zi_85i, zi_85r, zi_85u, zi_85a, zi_131, zi_86, zi_67w1, zi_67w2, F.t233, F.r233_0, F.t234, F.l234, kC_eq, toL_s, toL_n, okS0, okS1, okS2, okS3, okS4, okS5, true_and, and_true, hT_wI, hL_wI, hR_wI, hI_wI, hJ_wI, sI_wI, rfP, isIA_100, isIA_120, inb_ok, nI_clamp, nI_add, nI_mul, ↓reduceIte, not_false_eq_true, not_true_eq_false, true_or, or_true, ↓bI_01, ↓b01_0, ↓b01_1, bI_0, z00, z10, n4, n5, n2, n8, Nat.reduceMul, Nat.reduceAdd, Nat.reduceLT, Nat.reduceLeDiff, nI_eq, nI_leI, nI_ltI, Nat.reduceEqDiff, pk_div, nI_sub, Nat.reduceDiv, Nat.reduceSub, g, e_itsh F hβ]
    exact ih
theorem sumOf3_loop (d : Nat) (h : PH) (f : Nat → Nat → Int32) (r : Nat → Int32) (F : FR h) (hd : 2 ≤ d) (h5 : r 5 = nI (nb r)) (h6 : nb r ≤ 6) (Q : Option Value → PH → Prop) :
    ∀ (j β : Nat) (v4 : Value), β + j = nb r → WP d 1129 3 [.ref 233, .int (nI 3), .int (smH r β), .int (nI β), v4] [] (wI h (mw f 234 r)) Q = Q (some (.int (smH r (nb r)))) (wI h (mw f 234 r))
  | 0, β, v4, hk => by
    obtain rfl : β = nb r := by omega
    rw [w_1129_3]
    simp -implicitDefEqProofs (disch := first | omega | (simp (disch := omega) only [nb_upr]; omega)) only [w_1129_6, zi_31, zi_32i, zi_32r, zi_32u, zi_32a, zi_111i, zi_111r, zi_111u, zi_111a, zi_33, zi_63, zi_64, zi_35, zi_88, zi_51, zi_384, zi_34, zi_0, zi_0n, zi_455, zi_70, zi_158i, zi_158r, zi_158u, zi_158a, zi_40, zi_75, zi_357, zi_59, zi_106, zi_195, zi_54, zi_135, zi_74i, zi_74r, zi_74u, zi_74a, zi_133, zi_76, zi_166, zi_459, zi_85i, zi_85r, zi_85u, zi_85a, zi_131, zi_86, zi_67w1, zi_67w2, F.t233, F.r233_0, F.t234, F.l234, kC_eq, toL_s, toL_n, okS0, okS1, okS2, okS3, okS4, okS5, true_and, and_true, hT_wI, hL_wI, hR_wI, hI_wI, hJ_wI, sI_wI, rfP, isIA_100, isIA_120, inb_ok, nI_clamp, nI_add, nI_mul, ↓reduceIte, not_false_eq_true, not_true_eq_false, true_or, or_true, ↓bI_01, ↓b01_0, ↓b01_1, bI_0, z00, z10, n4, n5, n2, n8, Nat.reduceMul, Nat.reduceAdd, Nat.reduceLT, Nat.reduceLeDiff, nI_eq, nI_leI, nI_ltI, Nat.reduceEqDiff, pk_div, nI_sub, Nat.reduceDiv, Nat.reduceSub, Nat.le_refl, mw_r, h5]
  | j + 1, β, v4, hk => by
    have g : ¬ nb r ≤ β := by omega
    have ih := sumOf3_loop d h f r F hd h5 h6 Q j (β + 1) (.int (nI 5)) (by omega)
    rw [w_1129_3]
    simp -implicitDefEqProofs (disch := first | omega | (simp (disch := omega) only [nb_upr]; omega)) only [zi_31, zi_32i, zi_32r, zi_32u, zi_32a, zi_111i, zi_111r, zi_111u, zi_111a, zi_33, zi_63, zi_64, zi_35, zi_88, zi_51, zi_384, zi_34, zi_0, zi_0n, zi_455, zi_70, zi_158i, zi_158r, zi_158u, zi_158a, zi_40, zi_75, zi_357, zi_59, zi_106, zi_195, zi_54, zi_135, zi_74i, zi_74r, zi_74u, zi_74a, zi_133, zi_76, zi_166, zi_459, zi_85i, zi_85r, zi_85u, zi_85a, zi_131, zi_86, zi_67w1, zi_67w2, F.t233, F.r233_0, F.t234, F.l234, kC_eq, toL_s, toL_n, okS0, okS1, okS2, okS3, okS4, okS5, true_and, and_true, hT_wI, hL_wI, hR_wI, hI_wI, hJ_wI, sI_wI, rfP, isIA_100, isIA_120, inb_ok, nI_clamp, nI_add, nI_mul, ↓reduceIte, not_false_eq_true, not_true_eq_false, true_or, or_true, ↓bI_01, ↓b01_0, ↓b01_1, bI_0, z00, z10, n4, n5, n2, n8, Nat.reduceMul, Nat.reduceAdd, Nat.reduceLT, Nat.reduceLeDiff, nI_eq, nI_leI, nI_ltI, Nat.reduceEqDiff, pk_div, nI_sub, Nat.reduceDiv, Nat.reduceSub, g, mw_r, h5]
    rw [← ih]
    exact sumOf3_in d h f r F hd β (by omega) h6 (smH r β) Q 5 0 rfl
def aN (r : Nat → Int32) (β : Nat) : Nat := (r (78 + 10 * β)).toNatClampNeg
theorem Vr.an {n β : Nat} {r : Nat → Int32} (V : Vr n r) (hβ : β < nb r) : aN r β < 8 ∧ r (78 + 10 * β) = nI (aN r β) := by
  obtain ⟨k, hk, e⟩ := V.a hβ
  unfold aN
  rw [e, nI_clamp (by omega)]
  exact ⟨hk, rfl⟩
def mayS (r : Nat → Int32) : Nat → Int32
  | 0 => nI 0
  | β + 1 => if mayH r β (aN r β) = 0 then mayS r β else mayS r β ||| nI 1 <<< (nI β &&& 31)
theorem may_loop (d b : Nat) (h : PH) (f : Nat → Nat → Int32) (r : Nat → Int32) (F : FR h) (hn : hR h 100 0 = some b) (w : WB h b) (V : Vr n r) (hd : 2 ≤ d) (Q : Option Value → PH → Prop) :
    ∀ (j β : Nat), β + j = nb r → WP d 288 1 [.ref 100, .int (mayS r β), .int (nI β)] [] (wI h (ww f b r)) Q = Q (some (.int (mayS r (nb r)))) (wI h (ww f b r))
  | 0, β, hk => by
    obtain rfl : β = nb r := by omega
    have h6 := V.nb6
    rw [w_288_1]
    simp -implicitDefEqProofs (disch := first | omega | (simp (disch := omega) only [nb_upr]; omega)) only [w_288_3, zi_31, zi_96i, zi_96r, zi_96u, zi_96a, zi_32i, zi_32r, zi_32u, zi_32a, zi_33, zi_34, zi_0, zi_0n, zi_92, zi_104, zi_157, zi_151, zi_108, zi_88, zi_48, zi_174, zi_175, zi_113, zi_39i, zi_39r, zi_39u, zi_39a, zi_40, zi_67w1, zi_67w2, F.t100, hn, w.t, kC_eq, toL_s, toL_n, okS0, okS1, okS2, okS3, okS4, okS5, true_and, and_true, hT_wI, hL_wI, hR_wI, hI_wI, hJ_wI, sI_wI, rfP, isIA_100, isIA_120, inb_ok, nI_clamp, nI_add, nI_mul, ↓reduceIte, not_false_eq_true, not_true_eq_false, true_or, or_true, ↓bI_01, ↓b01_0, ↓b01_1, bI_0, z00, z10, n4, n5, n2, n8, Nat.reduceMul, Nat.reduceAdd, Nat.reduceLT, Nat.reduceLeDiff, nI_eq, nI_leI, nI_ltI, Nat.reduceEqDiff, pk_div, nI_sub, Nat.reduceDiv, Nat.reduceSub, Nat.le_refl, ww_0_14, V.r5]
  | j + 1, β, hk => by
    have g : ¬ nb r ≤ β := by omega
    have h6 := V.nb6
    have hβ : β < nb r := by omega
    have ih := may_loop d b h f r F hn w V hd Q j (β + 1) (by omega)
    obtain ⟨a1, a2⟩ := V.an hβ
    have e : mayS r (β + 1) = if mayH r β (aN r β) = 0 then mayS r β else mayS r β ||| nI 1 <<< (nI β &&& 31) := rfl
    rw [e] at ih
    rw [w_288_1]
    simp -implicitDefEqProofs (disch := first | omega | (simp (disch := omega) only [nb_upr]; omega)) only [w_288_2, zi_31, zi_96i, zi_96r, zi_96u, zi_96a, zi_32i, zi_32r, zi_32u, zi_32a, zi_33, zi_34, zi_0, zi_0n, zi_92, zi_104, zi_157, zi_151, zi_108, zi_88, zi_48, zi_174, zi_175, zi_113, zi_39i, zi_39r, zi_39u, zi_39a, zi_40, zi_67w1, zi_67w2, F.t100, hn, w.t, kC_eq, toL_s, toL_n, okS0, okS1, okS2, okS3, okS4, okS5, true_and, and_true, hT_wI, hL_wI, hR_wI, hI_wI, hJ_wI, sI_wI, rfP, isIA_100, isIA_120, inb_ok, nI_clamp, nI_add, nI_mul, ↓reduceIte, not_false_eq_true, not_true_eq_false, true_or, or_true, ↓bI_01, ↓b01_0, ↓b01_1, bI_0, z00, z10, n4, n5, n2, n8, Nat.reduceMul, Nat.reduceAdd, Nat.reduceLT, Nat.reduceLeDiff, nI_eq, nI_leI, nI_ltI, Nat.reduceEqDiff, pk_div, nI_sub, Nat.reduceDiv, Nat.reduceSub, g, ww_0_14, V.r5, e_mayHaul _ b h f r w β _ hβ (show β < 6 by omega) a1 a2]
    by_cases hz : mayH r β (aN r β) = 0
    · simp only [hz, ↓reduceIte] at ih ⊢
      exact ih
    · simp only [hz, ↓reduceIte] at ih ⊢
      exact ih
theorem mmay_loop (d : Nat) (h : PH) (f : Nat → Nat → Int32) (r : Nat → Int32) (F : FR h) (V : Vr n r) (hd : 2 ≤ d) (Q : Option Value → PH → Prop) :
    ∀ (j β : Nat), β + j = nb r → WP d 1144 1 [.ref 233, .int (mayS r β), .int (nI β)] [] (wI h (mw f 234 r)) Q = Q (some (.int (mayS r (nb r)))) (wI h (mw f 234 r))
  | 0, β, hk => by
    obtain rfl : β = nb r := by omega
    have h6 := V.nb6
    rw [w_1144_1]
    simp -implicitDefEqProofs (disch := first | omega | (simp (disch := omega) only [nb_upr]; omega)) only [w_1144_4, zi_31, zi_96i, zi_96r, zi_96u, zi_96a, zi_32i, zi_32r, zi_32u, zi_32a, zi_33, zi_34, zi_0, zi_0n, zi_357, zi_59, zi_106, zi_77, zi_88, zi_468, zi_108, zi_48, zi_174, zi_86, zi_75, zi_175, zi_39i, zi_39r, zi_39u, zi_39a, zi_40, zi_67w1, zi_67w2, F.t233, F.r233_0, F.t234, F.l234, kC_eq, toL_s, toL_n, okS0, okS1, okS2, okS3, okS4, okS5, true_and, and_true, hT_wI, hL_wI, hR_wI, hI_wI, hJ_wI, sI_wI, rfP, isIA_100, isIA_120, inb_ok, nI_clamp, nI_add, nI_mul, ↓reduceIte, not_false_eq_true, not_true_eq_false, true_or, or_true, ↓bI_01, ↓b01_0, ↓b01_1, bI_0, z00, z10, n4, n5, n2, n8, Nat.reduceMul, Nat.reduceAdd, Nat.reduceLT, Nat.reduceLeDiff, nI_eq, nI_leI, nI_ltI, Nat.reduceEqDiff, pk_div, nI_sub, Nat.reduceDiv, Nat.reduceSub, Nat.le_refl, mw_r, V.r5]
  | j + 1, β, hk => by
    have g : ¬ nb r ≤ β := by omega
    have h6 := V.nb6
    have hβ : β < nb r := by omega
    have ih := mmay_loop d h f r F V hd Q j (β + 1) (by omega)
    obtain ⟨a1, a2⟩ := V.an hβ
    have e : mayS r (β + 1) = if mayH r β (aN r β) = 0 then mayS r β else mayS r β ||| nI 1 <<< (nI β &&& 31) := rfl
    rw [e] at ih
    rw [w_1144_1]
    simp -implicitDefEqProofs (disch := first | omega | (simp (disch := omega) only [nb_upr]; omega)) only [w_1144_2, w_1144_3, zi_31, zi_96i, zi_96r, zi_96u, zi_96a, zi_32i, zi_32r, zi_32u, zi_32a, zi_33, zi_34, zi_0, zi_0n, zi_357, zi_59, zi_106, zi_77, zi_88, zi_468, zi_108, zi_48, zi_174, zi_86, zi_75, zi_175, zi_39i, zi_39r, zi_39u, zi_39a, zi_40, zi_67w1, zi_67w2, F.t233, F.r233_0, F.t234, F.l234, kC_eq, toL_s, toL_n, okS0, okS1, okS2, okS3, okS4, okS5, true_and, and_true, hT_wI, hL_wI, hR_wI, hI_wI, hJ_wI, sI_wI, rfP, isIA_100, isIA_120, inb_ok, nI_clamp, nI_add, nI_mul, ↓reduceIte, not_false_eq_true, not_true_eq_false, true_or, or_true, ↓bI_01, ↓b01_0, ↓b01_1, bI_0, z00, z10, n4, n5, n2, n8, Nat.reduceMul, Nat.reduceAdd, Nat.reduceLT, Nat.reduceLeDiff, nI_eq, nI_leI, nI_ltI, Nat.reduceEqDiff, pk_div, nI_sub, Nat.reduceDiv, Nat.reduceSub, g, mw_r, V.r5, e_mMay F β _ hβ (show β < 6 by omega) a1 a2, or0]
    by_cases hz : mayH r β (aN r β) = 0
    · simp only [hz, ↓reduceIte] at ih ⊢
      exact ih
    · simp only [hz, ↓reduceIte] at ih ⊢
      exact ih
theorem e_sumOf2 (d : Nat) (h : PH) (f : Nat → Nat → Int32) (r : Nat → Int32) (F : FR h) (hd : 2 ≤ d) (h5 : r 5 = nI (nb r)) (h6 : nb r ≤ 6) (Q : Option Value → PH → Prop) : Run d 1129 [.ref 233, .int (nI 2)] (wI h (mw f 234 r)) Q = Q (some (.int (smS r 8))) (wI h (mw f 234 r)) := by
  simp -implicitDefEqProofs (disch := first | omega | (simp (disch := omega) only [nb_upr]; omega)) only [R_1129, w_1129_0, zi_31, zi_32i, zi_32r, zi_32u, zi_32a, zi_111i, zi_111r, zi_111u, zi_111a, zi_33, zi_63, zi_64, zi_35, zi_88, zi_51, zi_384, zi_34, zi_0, zi_0n, zi_455, zi_70, zi_158i, zi_158r, zi_158u, zi_158a, zi_40, zi_75, zi_357, zi_59, zi_106, zi_195, zi_54, zi_135, zi_74i, zi_74r, zi_74u, zi_74a, zi_133, zi_76, zi_166, zi_459, zi_85i, zi_85r, zi_85u, zi_85a, zi_131, zi_86, zi_67w1, zi_67w2, kC_eq, toL_s, toL_n, okS0, okS1, okS2, okS3, okS4, okS5, true_and, and_true, hT_wI, hL_wI, hR_wI, hI_wI, hJ_wI, sI_wI, rfP, isIA_100, isIA_120, inb_ok, nI_clamp, nI_add, nI_mul, ↓reduceIte, not_false_eq_true, not_true_eq_false, true_or, or_true, ↓bI_01, ↓b01_0, ↓b01_1, bI_0, z00, z10, n4, n5, n2, n8, Nat.reduceMul, Nat.reduceAdd, Nat.reduceLT, Nat.reduceLeDiff]
  exact sumOf2_loop d h f r F hd _ h5 Q h6 8 0 rfl
theorem e_sumOf3 (d : Nat) (h : PH) (f : Nat → Nat → Int32) (r : Nat → Int32) (F : FR h) (hd : 2 ≤ d) (h5 : r 5 = nI (nb r)) (h6 : nb r ≤ 6) (Q : Option Value → PH → Prop) : Run d 1129 [.ref 233, .int (nI 3)] (wI h (mw f 234 r)) Q = Q (some (.int (smH r (nb r)))) (wI h (mw f 234 r)) := by
  have x8 : ¬ (8 : Nat) ≤ 0 := by decide
  simp -implicitDefEqProofs (disch := first | omega | (simp (disch := omega) only [nb_upr]; omega)) only [R_1129, w_1129_0, w_1129_1, w_1129_2, zi_31, zi_32i, zi_32r, zi_32u, zi_32a, zi_111i, zi_111r, zi_111u, zi_111a, zi_33, zi_63, zi_64, zi_35, zi_88, zi_51, zi_384, zi_34, zi_0, zi_0n, zi_455, zi_70, zi_158i, zi_158r, zi_158u, zi_158a, zi_40, zi_75, zi_357, zi_59, zi_106, zi_195, zi_54, zi_135, zi_74i, zi_74r, zi_74u, zi_74a, zi_133, zi_76, zi_166, zi_459, zi_85i, zi_85r, zi_85u, zi_85a, zi_131, zi_86, zi_67w1, zi_67w2, kC_eq, toL_s, toL_n, okS0, okS1, okS2, okS3, okS4, okS5, true_and, and_true, hT_wI, hL_wI, hR_wI, hI_wI, hJ_wI, sI_wI, rfP, isIA_100, isIA_120, inb_ok, nI_clamp, nI_add, nI_mul, ↓reduceIte, not_false_eq_true, not_true_eq_false, true_or, or_true, ↓bI_01, ↓b01_0, ↓b01_1, bI_0, z00, z10, n4, n5, n2, n8, Nat.reduceMul, Nat.reduceAdd, Nat.reduceLT, Nat.reduceLeDiff, nI_eq, nI_leI, nI_ltI, Nat.reduceEqDiff, pk_div, nI_sub, Nat.reduceDiv, Nat.reduceSub, x8]
  exact sumOf3_loop d h f r F hd h5 h6 Q (nb r) 0 _ (by omega)
theorem e_boatsThatMay (d b : Nat) (h : PH) (f : Nat → Nat → Int32) (r : Nat → Int32) (F : FR h) (hn : hR h 100 0 = some b) (w : WB h b) (V : Vr n r) (hd : 2 ≤ d) (Q : Option Value → PH → Prop) : Run d 288 [.ref 100] (wI h (ww f b r)) Q = Q (some (.int (mayS r (nb r)))) (wI h (ww f b r)) := by
  simp -implicitDefEqProofs (disch := first | omega | (simp (disch := omega) only [nb_upr]; omega)) only [R_288, w_288_0, zi_31, zi_96i, zi_96r, zi_96u, zi_96a, zi_32i, zi_32r, zi_32u, zi_32a, zi_33, zi_34, zi_0, zi_0n, zi_92, zi_104, zi_157, zi_151, zi_108, zi_88, zi_48, zi_174, zi_175, zi_113, zi_39i, zi_39r, zi_39u, zi_39a, zi_40, zi_67w1, zi_67w2, kC_eq, toL_s, toL_n, okS0, okS1, okS2, okS3, okS4, okS5, true_and, and_true, hT_wI, hL_wI, hR_wI, hI_wI, hJ_wI, sI_wI, rfP, isIA_100, isIA_120, inb_ok, nI_clamp, nI_add, nI_mul, ↓reduceIte, not_false_eq_true, not_true_eq_false, true_or, or_true, ↓bI_01, ↓b01_0, ↓b01_1, bI_0, z00, z10, n4, n5, n2, n8, Nat.reduceMul, Nat.reduceAdd, Nat.reduceLT, Nat.reduceLeDiff]
  exact may_loop d b h f r F hn w V hd Q (nb r) 0 (by omega)
theorem e_maySet (d : Nat) (h : PH) (f : Nat → Nat → Int32) (r : Nat → Int32) (F : FR h) (V : Vr n r) (hd : 2 ≤ d) (Q : Option Value → PH → Prop) : Run d 1144 [.ref 233] (wI h (mw f 234 r)) Q = Q (some (.int (mayS r (nb r)))) (wI h (mw f 234 r)) := by
  simp -implicitDefEqProofs (disch := first | omega | (simp (disch := omega) only [nb_upr]; omega)) only [R_1144, w_1144_0, zi_31, zi_96i, zi_96r, zi_96u, zi_96a, zi_32i, zi_32r, zi_32u, zi_32a, zi_33, zi_34, zi_0, zi_0n, zi_357, zi_59, zi_106, zi_77, zi_88, zi_468, zi_108, zi_48, zi_174, zi_86, zi_75, zi_175, zi_39i, zi_39r, zi_39u, zi_39a, zi_40, zi_67w1, zi_67w2, kC_eq, toL_s, toL_n, okS0, okS1, okS2, okS3, okS4, okS5, true_and, and_true, hT_wI, hL_wI, hR_wI, hI_wI, hJ_wI, sI_wI, rfP, isIA_100, isIA_120, inb_ok, nI_clamp, nI_add, nI_mul, ↓reduceIte, not_false_eq_true, not_true_eq_false, true_or, or_true, ↓bI_01, ↓b01_0, ↓b01_1, bI_0, z00, z10, n4, n5, n2, n8, Nat.reduceMul, Nat.reduceAdd, Nat.reduceLT, Nat.reduceLeDiff]
  exact mmay_loop d h f r F V hd Q (nb r) 0 (by omega)
theorem p_state (F : FR h) (hn : hR h 100 0 = some b) (w : WB h b) (V : Vr n r) (v : Int32) : Pair h b n r 273 1121 [.int v] := by
  have V' := V.mono (show n ≤ n + 6 by omega)
  have h5 := V.r5
  have h6 := V.nb6
  by_cases hv : v < nI 0 ∨ nI 5 < v
  · have c0 : ¬ v = nI 0 := by rintro rfl; exact absurd hv (by decide)
    have c1 : ¬ v = nI 1 := by rintro rfl; exact absurd hv (by decide)
    have c2 : ¬ v = nI 2 := by rintro rfl; exact absurd hv (by decide)
    have c3 : ¬ v = nI 3 := by rintro rfl; exact absurd hv (by decide)
    have c4 : ¬ v = nI 4 := by rintro rfl; exact absurd hv (by decide)
    have c5 : ¬ v = nI 5 := by rintro rfl; exact absurd hv (by decide)
    exact ⟨.int (Int32.ofInt (-1)), r, V', fun f T => ⟨f, ScC.refl f, fun Q => by simp -implicitDefEqProofs (disch := first | omega | (simp (disch := omega) only [nb_upr]; omega)) only [R_273, w_273_0, w_273_1, w_273_2, w_273_3, w_273_4, w_273_5, w_273_6, w_273_7, zi_88, zi_169, zi_0, zi_0n, zi_92, zi_161, zi_67w1, zi_67w2, zi_155, zi_128, zi_17, zi_170, zi_148, zi_104, zi_59, zi_79, zi_171, zi_172, zi_37, F.t100, hn, w.t, w.r3, w.t3, w.l3, w.r13, w.t13, w.l13, kC_eq, toL_s, toL_n, okS0, okS1, okS2, okS3, okS4, okS5, true_and, and_true, hT_wI, hL_wI, hR_wI, hI_wI, hJ_wI, sI_wI, rfP, isIA_100, isIA_120, inb_ok, nI_clamp, nI_add, nI_mul, ↓reduceIte, not_false_eq_true, not_true_eq_false, true_or, or_true, ↓bI_01, ↓b01_0, ↓b01_1, bI_0, z00, z10, n4, n5, n2, n8, Nat.reduceMul, Nat.reduceAdd, Nat.reduceLT, Nat.reduceLeDiff, c0, c1, c2, c3, c4, c5]⟩, fun f T => ⟨f, Sc.refl f, fun Q => by simp -implicitDefEqProofs (disch := first | omega | (simp (disch := omega) only [nb_upr]; omega)) only [R_1121, w_1121_0, w_1121_1, w_1121_2, w_1121_3, w_1121_4, w_1121_5, w_1121_6, zi_88, zi_488, zi_0, zi_0n, zi_357, zi_54, zi_106, zi_67w1, zi_67w2, zi_9, zi_489, zi_490, zi_491, zi_37, F.t233, F.t233, F.r233_0, F.t234, F.l234, kC_eq, toL_s, toL_n, okS0, okS1, okS2, okS3, okS4, okS5, true_and, and_true, hT_wI, hL_wI, hR_wI, hI_wI, hJ_wI, sI_wI, rfP, isIA_100, isIA_120, inb_ok, nI_clamp, nI_add, nI_mul, ↓reduceIte, not_false_eq_true, not_true_eq_false, true_or, or_true, ↓bI_01, ↓b01_0, ↓b01_1, bI_0, z00, z10, n4, n5, n2, n8, Nat.reduceMul, Nat.reduceAdd, Nat.reduceLT, Nat.reduceLeDiff, c0, c1, c2, c3, c4, c5]⟩⟩
  obtain ⟨j, -, hj, rfl⟩ := btw (by decide) (by decide) hv
  match j, hj with
  | 0, _ => exact ⟨.int (r 3), r, V', fun f T => ⟨f, ScC.refl f, fun Q => by simp -implicitDefEqProofs (disch := first | omega | (simp (disch := omega) only [nb_upr]; omega)) only [R_273, w_273_0, w_273_1, w_273_2, w_273_3, w_273_4, w_273_5, w_273_6, w_273_7, zi_88, zi_169, zi_0, zi_0n, zi_92, zi_161, zi_67w1, zi_67w2, zi_155, zi_128, zi_17, zi_170, zi_148, zi_104, zi_59, zi_79, zi_171, zi_172, zi_37, F.t100, hn, w.t, w.r3, w.t3, w.l3, w.r13, w.t13, w.l13, kC_eq, toL_s, toL_n, okS0, okS1, okS2, okS3, okS4, okS5, true_and, and_true, hT_wI, hL_wI, hR_wI, hI_wI, hJ_wI, sI_wI, rfP, isIA_100, isIA_120, inb_ok, nI_clamp, nI_add, nI_mul, ↓reduceIte, not_false_eq_true, not_true_eq_false, true_or, or_true, ↓bI_01, ↓b01_0, ↓b01_1, bI_0, z00, z10, n4, n5, n2, n8, Nat.reduceMul, Nat.reduceAdd, Nat.reduceLT, Nat.reduceLeDiff, nI_eq, ww_0_15]⟩, fun f T => ⟨f, Sc.refl f, fun Q => by simp -implicitDefEqProofs (disch := first | omega | (simp (disch := omega) only [nb_upr]; omega)) only [R_1121, w_1121_0, w_1121_1, w_1121_2, w_1121_3, w_1121_4, w_1121_5, w_1121_6, zi_88, zi_488, zi_0, zi_0n, zi_357, zi_54, zi_106, zi_67w1, zi_67w2, zi_9, zi_489, zi_490, zi_491, zi_37, F.t233, F.t233, F.r233_0, F.t234, F.l234, kC_eq, toL_s, toL_n, okS0, okS1, okS2, okS3, okS4, okS5, true_and, and_true, hT_wI, hL_wI, hR_wI, hI_wI, hJ_wI, sI_wI, rfP, isIA_100, isIA_120, inb_ok, nI_clamp, nI_add, nI_mul, ↓reduceIte, not_false_eq_true, not_true_eq_false, true_or, or_true, ↓bI_01, ↓b01_0, ↓b01_1, bI_0, z00, z10, n4, n5, n2, n8, Nat.reduceMul, Nat.reduceAdd, Nat.reduceLT, Nat.reduceLeDiff, nI_eq, mw_r]⟩⟩
  | 1, _ => exact ⟨.int (r 4), r, V', fun f T => ⟨f, ScC.refl f, fun Q => by simp -implicitDefEqProofs (disch := first | omega | (simp (disch := omega) only [nb_upr]; omega)) only [R_273, w_273_0, w_273_1, w_273_2, w_273_3, w_273_4, w_273_5, w_273_6, w_273_7, zi_88, zi_169, zi_0, zi_0n, zi_92, zi_161, zi_67w1, zi_67w2, zi_155, zi_128, zi_17, zi_170, zi_148, zi_104, zi_59, zi_79, zi_171, zi_172, zi_37, F.t100, hn, w.t, w.r3, w.t3, w.l3, w.r13, w.t13, w.l13, kC_eq, toL_s, toL_n, okS0, okS1, okS2, okS3, okS4, okS5, true_and, and_true, hT_wI, hL_wI, hR_wI, hI_wI, hJ_wI, sI_wI, rfP, isIA_100, isIA_120, inb_ok, nI_clamp, nI_add, nI_mul, ↓reduceIte, not_false_eq_true, not_true_eq_false, true_or, or_true, ↓bI_01, ↓b01_0, ↓b01_1, bI_0, z00, z10, n4, n5, n2, n8, Nat.reduceMul, Nat.reduceAdd, Nat.reduceLT, Nat.reduceLeDiff, nI_eq, Nat.reduceEqDiff, ww_0_16]⟩, fun f T => ⟨f, Sc.refl f, fun Q => by simp -implicitDefEqProofs (disch := first | omega | (simp (disch := omega) only [nb_upr]; omega)) only [R_1121, w_1121_0, w_1121_1, w_1121_2, w_1121_3, w_1121_4, w_1121_5, w_1121_6, zi_88, zi_488, zi_0, zi_0n, zi_357, zi_54, zi_106, zi_67w1, zi_67w2, zi_9, zi_489, zi_490, zi_491, zi_37, F.t233, F.t233, F.r233_0, F.t234, F.l234, kC_eq, toL_s, toL_n, okS0, okS1, okS2, okS3, okS4, okS5, true_and, and_true, hT_wI, hL_wI, hR_wI, hI_wI, hJ_wI, sI_wI, rfP, isIA_100, isIA_120, inb_ok, nI_clamp, nI_add, nI_mul, ↓reduceIte, not_false_eq_true, not_true_eq_false, true_or, or_true, ↓bI_01, ↓b01_0, ↓b01_1, bI_0, z00, z10, n4, n5, n2, n8, Nat.reduceMul, Nat.reduceAdd, Nat.reduceLT, Nat.reduceLeDiff, nI_eq, Nat.reduceEqDiff, mw_r]⟩⟩
  | 2, _ =>
    have e8 : sumA (ww (fun _ _ => 0) b r) (b + 3) 40 = smS r 8 := sumA_st 8 (by decide)
    have e9 : ∀ f, sumA (ww f b r) (b + 3) 40 = smS r 8 := fun f => sumA_st 8 (by decide)
    refine ⟨.int (smS r 8), r, V', fun f T => ⟨f, ScC.refl f, fun Q => ?_⟩, fun f T => ⟨f, Sc.refl f, fun Q => ?_⟩⟩
    · simp -implicitDefEqProofs (disch := first | omega | (simp (disch := omega) only [nb_upr]; omega)) only [R_273, w_273_0, w_273_1, w_273_2, w_273_3, w_273_4, w_273_5, w_273_6, w_273_7, zi_88, zi_169, zi_0, zi_0n, zi_92, zi_161, zi_67w1, zi_67w2, zi_155, zi_128, zi_17, zi_170, zi_148, zi_104, zi_59, zi_79, zi_171, zi_172, zi_37, F.t100, hn, w.t, w.r3, w.t3, w.l3, w.r13, w.t13, w.l13, kC_eq, toL_s, toL_n, okS0, okS1, okS2, okS3, okS4, okS5, true_and, and_true, hT_wI, hL_wI, hR_wI, hI_wI, hJ_wI, sI_wI, rfP, isIA_100, isIA_120, inb_ok, nI_clamp, nI_add, nI_mul, ↓reduceIte, not_false_eq_true, not_true_eq_false, true_or, or_true, ↓bI_01, ↓b01_0, ↓b01_1, bI_0, z00, z10, n4, n5, n2, n8, Nat.reduceMul, Nat.reduceAdd, Nat.reduceLT, Nat.reduceLeDiff, nI_eq, nI_leI, nI_ltI, Nat.reduceEqDiff, pk_div, nI_sub, Nat.reduceDiv, Nat.reduceSub, e_sum _ (b + 3) h _ w.t3 40 (by rw [w.l3]; decide) (by rw [w.l3]; decide), e9]
    · simp -implicitDefEqProofs (disch := first | omega | (simp (disch := omega) only [nb_upr]; omega)) only [R_1121, w_1121_0, w_1121_1, w_1121_2, w_1121_3, w_1121_4, w_1121_5, w_1121_6, zi_88, zi_488, zi_0, zi_0n, zi_357, zi_54, zi_106, zi_67w1, zi_67w2, zi_9, zi_489, zi_490, zi_491, zi_37, F.t233, F.t233, F.r233_0, F.t234, F.l234, kC_eq, toL_s, toL_n, okS0, okS1, okS2, okS3, okS4, okS5, true_and, and_true, hT_wI, hL_wI, hR_wI, hI_wI, hJ_wI, sI_wI, rfP, isIA_100, isIA_120, inb_ok, nI_clamp, nI_add, nI_mul, ↓reduceIte, not_false_eq_true, not_true_eq_false, true_or, or_true, ↓bI_01, ↓b01_0, ↓b01_1, bI_0, z00, z10, n4, n5, n2, n8, Nat.reduceMul, Nat.reduceAdd, Nat.reduceLT, Nat.reduceLeDiff, nI_eq, nI_leI, nI_ltI, Nat.reduceEqDiff, pk_div, nI_sub, Nat.reduceDiv, Nat.reduceSub, e_sumOf2 _ h f r F]
  | 3, _ =>
    have e9 : ∀ f, sumA (ww f b r) (b + 13) (nb r * 5) = smH r (nb r) := fun f => sumA_ho h6 (nb r) (Nat.le_refl _)
    have x8 : ¬ (8 : Nat) ≤ 0 := by decide
    refine ⟨.int (smH r (nb r)), r, V', fun f T => ⟨f, ScC.refl f, fun Q => ?_⟩, fun f T => ⟨f, Sc.refl f, fun Q => ?_⟩⟩
    · simp -implicitDefEqProofs (disch := first | omega | (simp (disch := omega) only [nb_upr]; omega)) only [R_273, w_273_0, w_273_1, w_273_2, w_273_3, w_273_4, w_273_5, w_273_6, w_273_7, zi_88, zi_169, zi_0, zi_0n, zi_92, zi_161, zi_67w1, zi_67w2, zi_155, zi_128, zi_17, zi_170, zi_148, zi_104, zi_59, zi_79, zi_171, zi_172, zi_37, F.t100, hn, w.t, w.r3, w.t3, w.l3, w.r13, w.t13, w.l13, kC_eq, toL_s, toL_n, okS0, okS1, okS2, okS3, okS4, okS5, true_and, and_true, hT_wI, hL_wI, hR_wI, hI_wI, hJ_wI, sI_wI, rfP, isIA_100, isIA_120, inb_ok, nI_clamp, nI_add, nI_mul, ↓reduceIte, not_false_eq_true, not_true_eq_false, true_or, or_true, ↓bI_01, ↓b01_0, ↓b01_1, bI_0, z00, z10, n4, n5, n2, n8, Nat.reduceMul, Nat.reduceAdd, Nat.reduceLT, Nat.reduceLeDiff, nI_eq, nI_leI, nI_ltI, Nat.reduceEqDiff, pk_div, nI_sub, Nat.reduceDiv, Nat.reduceSub, ww_0_14, h5, e_sum _ (b + 13) h _ w.t13 (nb r * 5) (by rw [w.l13]; omega) (by rw [w.l13]; decide), e9]
    · simp -implicitDefEqProofs (disch := first | omega | (simp (disch := omega) only [nb_upr]; omega)) only [R_1121, w_1121_0, w_1121_1, w_1121_2, w_1121_3, w_1121_4, w_1121_5, w_1121_6, zi_88, zi_488, zi_0, zi_0n, zi_357, zi_54, zi_106, zi_67w1, zi_67w2, zi_9, zi_489, zi_490, zi_491, zi_37, F.t233, F.t233, F.r233_0, F.t234, F.l234, kC_eq, toL_s, toL_n, okS0, okS1, okS2, okS3, okS4, okS5, true_and, and_true, hT_wI, hL_wI, hR_wI, hI_wI, hJ_wI, sI_wI, rfP, isIA_100, isIA_120, inb_ok, nI_clamp, nI_add, nI_mul, ↓reduceIte, not_false_eq_true, not_true_eq_false, true_or, or_true, ↓bI_01, ↓b01_0, ↓b01_1, bI_0, z00, z10, n4, n5, n2, n8, Nat.reduceMul, Nat.reduceAdd, Nat.reduceLT, Nat.reduceLeDiff, nI_eq, nI_leI, nI_ltI, Nat.reduceEqDiff, pk_div, nI_sub, Nat.reduceDiv, Nat.reduceSub, e_sumOf3 _ h f r F]
  | 4, _ => exact ⟨.int (emp r 8), r, V', fun f T => ⟨f, ScC.refl f, fun Q => by simp -implicitDefEqProofs (disch := first | omega | (simp (disch := omega) only [nb_upr]; omega)) only [R_273, w_273_0, w_273_1, w_273_2, w_273_3, w_273_4, w_273_5, w_273_6, w_273_7, zi_88, zi_169, zi_0, zi_0n, zi_92, zi_161, zi_67w1, zi_67w2, zi_155, zi_128, zi_17, zi_170, zi_148, zi_104, zi_59, zi_79, zi_171, zi_172, zi_37, F.t100, hn, w.t, w.r3, w.t3, w.l3, w.r13, w.t13, w.l13, kC_eq, toL_s, toL_n, okS0, okS1, okS2, okS3, okS4, okS5, true_and, and_true, hT_wI, hL_wI, hR_wI, hI_wI, hJ_wI, sI_wI, rfP, isIA_100, isIA_120, inb_ok, nI_clamp, nI_add, nI_mul, ↓reduceIte, not_false_eq_true, not_true_eq_false, true_or, or_true, ↓bI_01, ↓b01_0, ↓b01_1, bI_0, z00, z10, n4, n5, n2, n8, Nat.reduceMul, Nat.reduceAdd, Nat.reduceLT, Nat.reduceLeDiff, nI_eq, Nat.reduceEqDiff, e_emptyStreets _ b h _ r w]⟩, fun f T => ⟨f, Sc.refl f, fun Q => by simp -implicitDefEqProofs (disch := first | omega | (simp (disch := omega) only [nb_upr]; omega)) only [R_1121, w_1121_0, w_1121_1, w_1121_2, w_1121_3, w_1121_4, w_1121_5, w_1121_6, zi_88, zi_488, zi_0, zi_0n, zi_357, zi_54, zi_106, zi_67w1, zi_67w2, zi_9, zi_489, zi_490, zi_491, zi_37, F.t233, F.t233, F.r233_0, F.t234, F.l234, kC_eq, toL_s, toL_n, okS0, okS1, okS2, okS3, okS4, okS5, true_and, and_true, hT_wI, hL_wI, hR_wI, hI_wI, hJ_wI, sI_wI, rfP, isIA_100, isIA_120, inb_ok, nI_clamp, nI_add, nI_mul, ↓reduceIte, not_false_eq_true, not_true_eq_false, true_or, or_true, ↓bI_01, ↓b01_0, ↓b01_1, bI_0, z00, z10, n4, n5, n2, n8, Nat.reduceMul, Nat.reduceAdd, Nat.reduceLT, Nat.reduceLeDiff, nI_eq, Nat.reduceEqDiff, e_emptySet F]⟩⟩
  | 5, _ => exact ⟨.int (mayS r (nb r)), r, V', fun f T => ⟨f, ScC.refl f, fun Q => by simp -implicitDefEqProofs (disch := first | omega | (simp (disch := omega) only [nb_upr]; omega)) only [R_273, w_273_0, w_273_1, w_273_2, w_273_3, w_273_4, w_273_5, w_273_6, w_273_7, zi_88, zi_169, zi_0, zi_0n, zi_92, zi_161, zi_67w1, zi_67w2, zi_155, zi_128, zi_17, zi_170, zi_148, zi_104, zi_59, zi_79, zi_171, zi_172, zi_37, F.t100, hn, w.t, w.r3, w.t3, w.l3, w.r13, w.t13, w.l13, kC_eq, toL_s, toL_n, okS0, okS1, okS2, okS3, okS4, okS5, true_and, and_true, hT_wI, hL_wI, hR_wI, hI_wI, hJ_wI, sI_wI, rfP, isIA_100, isIA_120, inb_ok, nI_clamp, nI_add, nI_mul, ↓reduceIte, not_false_eq_true, not_true_eq_false, true_or, or_true, ↓bI_01, ↓b01_0, ↓b01_1, bI_0, z00, z10, n4, n5, n2, n8, Nat.reduceMul, Nat.reduceAdd, Nat.reduceLT, Nat.reduceLeDiff, nI_eq, Nat.reduceEqDiff, e_boatsThatMay _ b h _ r F hn w V]⟩, fun f T => ⟨f, Sc.refl f, fun Q => by simp -implicitDefEqProofs (disch := first | omega | (simp (disch := omega) only [nb_upr]; omega)) only [R_1121, w_1121_0, w_1121_1, w_1121_2, w_1121_3, w_1121_4, w_1121_5, w_1121_6, zi_88, zi_488, zi_0, zi_0n, zi_357, zi_54, zi_106, zi_67w1, zi_67w2, zi_9, zi_489, zi_490, zi_491, zi_37, F.t233, F.t233, F.r233_0, F.t234, F.l234, kC_eq, toL_s, toL_n, okS0, okS1, okS2, okS3, okS4, okS5, true_and, and_true, hT_wI, hL_wI, hR_wI, hI_wI, hJ_wI, sI_wI, rfP, isIA_100, isIA_120, inb_ok, nI_clamp, nI_add, nI_mul, ↓reduceIte, not_false_eq_true, not_true_eq_false, true_or, or_true, ↓bI_01, ↓b01_0, ↓b01_1, bI_0, z00, z10, n4, n5, n2, n8, Nat.reduceMul, Nat.reduceAdd, Nat.reduceLT, Nat.reduceLeDiff, nI_eq, Nat.reduceEqDiff, e_maySet _ h _ r F V]⟩⟩
end
