section
/-! fine, lasts, month -/
variable {b n : Nat} {h : PH} {r : Nat → Int32} {f : Nat → Nat → Int32}
theorem dgw_n {n β a k : Nat} {r : Nat → Int32} (V : Vr n r) (hβ : β < nb r) (ha : a < 8) (hk : k < 6) : ∀ s, s ≤ 5 → ∃ x : Nat, x ≤ 2970 * s ∧ dgw r β a k s = nI x
  | 0, _ => ⟨0, by omega, rfl⟩
  | s + 1, hs => by
    obtain ⟨x, hx, ex⟩ := dgw_n V hβ ha hk s (by omega)
    have hk' := dgr_keep (r := r) (β := β) (a := a) (k := k) (n := s) ha (by omega)
    obtain ⟨y, v, h1, h2, -, ev⟩ := tkV_n (Vr_dgr V hβ ha hk s (by omega)) (by rw [hk'.2.2.2.2.2.1]; exact hβ) ha hk (show s < 5 by omega)
    obtain ⟨p, hp, ep⟩ := V.p (show s < 5 by omega)
    refine ⟨x + v * p, ?_, ?_⟩
    · have : v * p ≤ 99 * 30 := Nat.mul_le_mul (by omega) hp
      omega
    · show dgw r β a k s + tkV (dgr r β a k s) β a k s * r (7 + s) = _
      rw [ex, ev, ep, nI_mul, nI_add]
theorem hlW_n {n β a k : Nat} {r : Nat → Int32} (V : Vr n r) (hβ : β < nb r) (ha : a < 8) (hk : k < 6) : ∃ x : Nat, x ≤ 14850 ∧ hlW r β a k = nI x := by
  unfold hlW
  split
  · exact ⟨0, by omega, rfl⟩
  · exact dgw_n V hβ ha hk 5 (by omega)
/-- the boat β stays where it is, and of its kind -/
def Bt (r : Nat → Int32) (β a k : Nat) : Prop := β < nb r ∧ a < 8 ∧ k < 6 ∧ r (78 + 10 * β) = nI a ∧ r (76 + 10 * β) = nI k
theorem Bt.hl {r : Nat → Int32} {β a k β' a' k' : Nat} (H : Bt r β a k) (ha' : a' < 8) : Bt (hlR r β' a' k') β a k := by
  obtain ⟨h1, h2, h3, h4, h5⟩ := H
  exact ⟨by rw [nb_hl]; exact h1, h2, h3, by rw [hlR_out (by omega) (by omega) (by omega) (by omega)]; exact h4, by rw [hlR_out (by omega) (by omega) (by omega) (by omega)]; exact h5⟩
theorem Bt.bell {r : Nat → Int32} {β a k : Nat} (H : Bt r β a k) : Bt (bell r) β a k := by
  obtain ⟨h1, h2, h3, h4, h5⟩ := H
  exact ⟨by rw [nb_bell]; exact h1, h2, h3, by rw [bell_out (by omega)]; exact h4, by rw [bell_out (by omega)]; exact h5⟩
theorem Vr.bt {n β : Nat} {r : Nat → Int32} (V : Vr n r) (hβ : β < nb r) : ∃ a k, Bt r β a k := by
  obtain ⟨k, hk, e2⟩ := V.k hβ
  obtain ⟨a, ha, e1⟩ := V.a hβ
  exact ⟨a, k, hβ, ha, hk, e1, e2⟩
/-- the row and the worth behind i hauls with a mesh, a bell behind each -/
def fnR (r : Nat → Int32) (β a k m : Nat) : Nat → Nat → Int32
  | 0 => upr r (79 + 10 * β) (nI m)
  | i + 1 => bell (hlR (fnR r β a k m i) β a k)
def fnW (r : Nat → Int32) (β a k m : Nat) : Nat → Int32
  | 0 => nI 0
  | i + 1 => fnW r β a k m i + hlW (fnR r β a k m i) β a k
theorem fn_ok {n β a k m : Nat} {r : Nat → Int32} (V : Vr n r) (B : Bt r β a k) (hm : m ≤ 9) : ∀ i, Vr (n + i) (fnR r β a k m i) ∧ Bt (fnR r β a k m i) β a k ∧ ∃ x : Nat, x ≤ 14850 * i ∧ fnW r β a k m i = nI x
  | 0 => by
    obtain ⟨h1, h2, h3, h4, h5⟩ := id B
    refine ⟨V.put (by have := V.lt h1 (show 3 < 10 by decide); omega) (by omega) (by rw [okq_e]; exact ⟨m, hm, rfl⟩), ⟨?_, h2, h3, ?_, ?_⟩, 0, by omega, rfl⟩
    · show β < nb (upr _ _ _); rw [nb_upr (by omega)]; exact h1
    · show upr _ _ _ _ = _; rw [upr_ne _ _ (by omega)]; exact h4
    · show upr _ _ _ _ = _; rw [upr_ne _ _ (by omega)]; exact h5
  | i + 1 => by
    obtain ⟨V1, B1, x, hx, ex⟩ := fn_ok V B hm i
    obtain ⟨y, hy, ey⟩ := hlW_n V1 B1.1 B1.2.1 B1.2.2.1
    refine ⟨Vr_bell (Vr_hl V1 B1.1 B1.2.1 B1.2.2.1), (B1.hl B1.2.1).bell, x + y, by omega, ?_⟩
    show fnW r β a k m i + hlW (fnR r β a k m i) β a k = _
    rw [ex, ey, nI_add]
theorem fine_in (d : Nat) (F : FR h) (V : Vr n r) (hb : b = 117) (T : TB f) (β a k m t : Nat) (B : Bt r β a k) (hm : m ≤ 9) (ht : t ≤ 9) (hd : 7 ≤ d) (X : Nat → Nat → Int32) (H : XT f b r X) (Q : Option Value → PH → Prop) :
    ∀ (j i : Nat), i + j = t → WP d 339 1 [.ref 100, .int (nI β), .int (nI m), .int (nI t), .int (fnW r β a k m i), .int (nI i)] [] (wI h (ww X 145 (fnR r β a k m i))) Q = Q (some (.int (fnW r β a k m t))) (wI h (ww X 145 (fnR r β a k m t)))
  | 0, i, hi => by
    obtain rfl : i = t := by omega
    rw [w_339_1]
    simp -implicitDefEqProofs (disch := first | omega | (simp (disch := omega) only [nb_upr]; omega)) only [w_339_2, zi_0, zi_0n, zi_90, zi_92, zi_102, zi_145, zi_88, zi_34, zi_38, zi_31, zi_74i, zi_74r, zi_74u, zi_74a, zi_164i, zi_164r, zi_164u, zi_164a, zi_33, zi_165, zi_63, zi_35, zi_76, zi_203, zi_70, zi_160, zi_168i, zi_168r, zi_168u, zi_168a, zi_40, zi_67w1, zi_67w2, kC_eq, toL_s, toL_n, okS0, okS1, okS2, okS3, okS4, okS5, true_and, and_true, hT_wI, hL_wI, hR_wI, hI_wI, hJ_wI, sI_wI, rfP, isIA_100, isIA_120, inb_ok, nI_clamp, nI_add, nI_mul, ↓reduceIte, not_false_eq_true, not_true_eq_false, true_or, or_true, ↓bI_01, ↓b01_0, ↓b01_1, bI_0, z00, z10, n4, n5, n2, n8, Nat.reduceMul, Nat.reduceAdd, Nat.reduceLT, Nat.reduceLeDiff, nI_eq, nI_leI, nI_ltI, Nat.reduceEqDiff, pk_div, nI_sub, Nat.reduceDiv, Nat.reduceSub, Nat.le_refl]
  | j + 1, i, hi => by
    have g : ¬ t ≤ i := by omega
    have w := F.w145
    have ih := fine_in d F V hb T β a k m t B hm ht hd X H Q j (i + 1) (by omega)
    obtain ⟨V1, B1, -⟩ := fn_ok V B hm i
    obtain ⟨h1, h2, h3, h4, h5⟩ := B1
    have h6 := V1.nb6
    have e1 : fnR r β a k m (i + 1) = bell (hlR (fnR r β a k m i) β a k) := rfl
    have e2 : fnW r β a k m (i + 1) = fnW r β a k m i + hlW (fnR r β a k m i) β a k := rfl
    rw [e1, e2] at ih
    rw [← ih, w_339_1]
    simp -implicitDefEqProofs (disch := first | omega | (simp (disch := omega) only [nb_upr]; omega)) only [zi_0, zi_0n, zi_90, zi_92, zi_102, zi_145, zi_88, zi_34, zi_38, zi_31, zi_74i, zi_74r, zi_74u, zi_74a, zi_164i, zi_164r, zi_164u, zi_164a, zi_33, zi_165, zi_63, zi_35, zi_76, zi_203, zi_70, zi_160, zi_168i, zi_168r, zi_168u, zi_168a, zi_40, zi_67w1, zi_67w2, F.t100, F.r100_2, w.t, kC_eq, toL_s, toL_n, okS0, okS1, okS2, okS3, okS4, okS5, true_and, and_true, hT_wI, hL_wI, hR_wI, hI_wI, hJ_wI, sI_wI, rfP, isIA_100, isIA_120, inb_ok, nI_clamp, nI_add, nI_mul, ↓reduceIte, not_false_eq_true, not_true_eq_false, true_or, or_true, ↓bI_01, ↓b01_0, ↓b01_1, bI_0, z00, z10, n4, n5, n2, n8, Nat.reduceMul, Nat.reduceAdd, Nat.reduceLT, Nat.reduceLeDiff, nI_eq, nI_leI, nI_ltI, Nat.reduceEqDiff, pk_div, nI_sub, Nat.reduceDiv, Nat.reduceSub, g, e_worthOfDrag _ 145 h X _ F w (by decide) (H.tb hb T) β a k h1 (show β < 6 by omega) h2 h3 h4 h5, e_ring _ 145 h X _ w (Vr_hl V1 h1 h2 h3).vs]
theorem e_worthByMesh (F : FR h) (hn : hR h 100 0 = some b) (V : Vr n r) (hb : b = 117) (T : TB f) (β a k m t : Nat) (B : Bt r β a k) (hm : m ≤ 9) (ht : t ≤ 9) (X : Nat → Nat → Int32) (H : XT f b r X) :
    ∃ X', XT f b r X' ∧ ∀ d, 8 ≤ d → ∀ Q, Run d 339 [.ref 100, .int (nI β), .int (nI m), .int (nI t)] (wI h X) Q = Q (some (.int (fnW r β a k m t))) (wI h X') := by
  obtain ⟨X1, H1, ec⟩ := copyT F hb V.z H
  refine ⟨ww X1 145 (fnR r β a k m t), H1.wt _, fun d hd Q => ?_⟩
  have w := F.w145
  have h1 := B.1
  have h6 := V.nb6
  rw [← fine_in d F V hb T β a k m t B hm ht (by omega) X1 H1 Q t 0 (by omega)]
  simp -implicitDefEqProofs (disch := first | omega | (simp (disch := omega) only [nb_upr]; omega)) only [R_339, w_339_0, zi_0, zi_0n, zi_90, zi_92, zi_102, zi_145, zi_88, zi_34, zi_38, zi_31, zi_74i, zi_74r, zi_74u, zi_74a, zi_164i, zi_164r, zi_164u, zi_164a, zi_33, zi_165, zi_63, zi_35, zi_76, zi_203, zi_70, zi_160, zi_168i, zi_168r, zi_168u, zi_168a, zi_40, zi_67w1, zi_67w2, F.t100, hn, F.r100_2, w.t, w.r11, w.t11, w.l11, kC_eq, toL_s, toL_n, okS0, okS1, okS2, okS3, okS4, okS5, true_and, and_true, hT_wI, hL_wI, hR_wI, hI_wI, hJ_wI, sI_wI, rfP, isIA_100, isIA_120, inb_ok, nI_clamp, nI_add, nI_mul, ↓reduceIte, not_false_eq_true, not_true_eq_false, true_or, or_true, ↓bI_01, ↓b01_0, ↓b01_1, bI_0, z00, z10, n4, n5, n2, n8, Nat.reduceMul, Nat.reduceAdd, Nat.reduceLT, Nat.reduceLeDiff, nI_eq, nI_leI, nI_ltI, Nat.reduceEqDiff, pk_div, nI_sub, Nat.reduceDiv, Nat.reduceSub, ec, ws_11]
  rfl
def fnB (r : Nat → Int32) (β a k t : Nat) : Nat → Nat
  | 0 => 0
  | m + 1 => if fnW r β a k m t < fnW r β a k (fnB r β a k t m) t then fnB r β a k t m else m
theorem fnB_lt (r : Nat → Int32) (β a k t : Nat) : ∀ m, fnB r β a k t m < max 1 m
  | 0 => by show 0 < max 1 0; decide
  | m + 1 => by
    have := fnB_lt r β a k t m
    unfold fnB
    split <;> omega
theorem fine_loop (d : Nat) (F : FR h) (hn : hR h 100 0 = some b) (V : Vr n r) (hb : b = 117) (T : TB f) (β a k t what : Nat) (B : Bt r β a k) (ht : t ≤ 9) (hw : what ≤ 1) (hd : 9 ≤ d) :
    ∀ (j m : Nat) (v7 : Value) (X : Nat → Nat → Int32), XT f b r X → m + j = 10 → 1 ≤ m → ∃ X', XT f b r X' ∧ ∀ Q, WP d 331 3 [.ref 100, .int (nI β), .int (nI t), .int (nI what), .int (nI (fnB r β a k t m)), .int (fnW r β a k (fnB r β a k t m) t), .int (nI m), v7] [] (wI h X) Q = Q (some (.int (if what = 0 then nI (fnB r β a k t 10) else fnW r β a k (fnB r β a k t 10) t))) (wI h X')
  | 0, m, v7, X, H, hm, _ => by
    obtain rfl : m = 10 := by omega
    refine ⟨X, H, fun Q => ?_⟩
    have g : ¬ 10 ≤ 9 := by decide
    have cases : what = 0 ∨ what = 1 := by omega
    rw [w_331_3]
    rcases cases with rfl | rfl
    · simp -implicitDefEqProofs (disch := first | omega | (simp (disch := omega) only [nb_upr]; omega)) only [w_331_5, w_331_7, zi_0, zi_0n, zi_88, zi_139, zi_98, zi_34, zi_48, zi_130, zi_65, zi_63, zi_31, zi_108, zi_33, zi_37, zi_67w1, zi_67w2, zi_74i, zi_74r, zi_74u, zi_74a, zi_164i, zi_164r, zi_164u, zi_164a, zi_193i, zi_193r, zi_193u, zi_193a, zi_75, zi_194, zi_210, zi_211, zi_197i, zi_197r, zi_197u, zi_197a, zi_198, zi_165, zi_167, zi_133, zi_207i, zi_207r, zi_207u, zi_207a, zi_86, zi_212, zi_76, zi_213, zi_214, kC_eq, toL_s, toL_n, okS0, okS1, okS2, okS3, okS4, okS5, true_and, and_true, hT_wI, hL_wI, hR_wI, hI_wI, hJ_wI, sI_wI, rfP, isIA_100, isIA_120, inb_ok, nI_clamp, nI_add, nI_mul, ↓reduceIte, not_false_eq_true, not_true_eq_false, true_or, or_true, ↓bI_01, ↓b01_0, ↓b01_1, bI_0, z00, z10, n4, n5, n2, n8, Nat.reduceMul, Nat.reduceAdd, Nat.reduceLT, Nat.reduceLeDiff, nI_eq, nI_leI, nI_ltI, Nat.reduceEqDiff, pk_div, nI_sub, Nat.reduceDiv, Nat.reduceSub]
    · have z : ¬ (1 : Nat) = 0 := by decide
      simp -implicitDefEqProofs (disch := first | omega | (simp (disch := omega) only [nb_upr]; omega)) only [w_331_5, w_331_6, w_331_7, zi_0, zi_0n, zi_88, zi_139, zi_98, zi_34, zi_48, zi_130, zi_65, zi_63, zi_31, zi_108, zi_33, zi_37, zi_67w1, zi_67w2, zi_74i, zi_74r, zi_74u, zi_74a, zi_164i, zi_164r, zi_164u, zi_164a, zi_193i, zi_193r, zi_193u, zi_193a, zi_75, zi_194, zi_210, zi_211, zi_197i, zi_197r, zi_197u, zi_197a, zi_198, zi_165, zi_167, zi_133, zi_207i, zi_207r, zi_207u, zi_207a, zi_86, zi_212, zi_76, zi_213, zi_214, kC_eq, toL_s, toL_n, okS0, okS1, okS2, okS3, okS4, okS5, true_and, and_true, hT_wI, hL_wI, hR_wI, hI_wI, hJ_wI, sI_wI, rfP, isIA_100, isIA_120, inb_ok, nI_clamp, nI_add, nI_mul, ↓reduceIte, not_false_eq_true, not_true_eq_false, true_or, or_true, ↓bI_01, ↓b01_0, ↓b01_1, bI_0, z00, z10, n4, n5, n2, n8, Nat.reduceMul, Nat.reduceAdd, Nat.reduceLT, Nat.reduceLeDiff, nI_eq, nI_leI, nI_ltI, Nat.reduceEqDiff, pk_div, nI_sub, Nat.reduceDiv, Nat.reduceSub, z]
  | j + 1, m, v7, X, H, hm, h1 => by
    have g : ¬ 9 < m := by omega
    obtain ⟨X1, H1, e1⟩ := e_worthByMesh F hn V hb T β a k m t B (by omega) ht X H
    have e : fnB r β a k t (m + 1) = if fnW r β a k m t < fnW r β a k (fnB r β a k t m) t then fnB r β a k t m else m := rfl
    by_cases hz : fnW r β a k m t < fnW r β a k (fnB r β a k t m) t
    · obtain ⟨X2, H2, ih⟩ := fine_loop d F hn V hb T β a k t what B ht hw hd j (m + 1) (.int (fnW r β a k m t)) X1 H1 (by omega) (by omega)
      refine ⟨X2, H2, fun Q => ?_⟩
      rw [e, if_pos hz] at ih
      rw [← ih Q, w_331_3]
      simp -implicitDefEqProofs (disch := first | omega | (simp (disch := omega) only [nb_upr]; omega)) only [w_331_4, zi_0, zi_0n, zi_88, zi_139, zi_98, zi_34, zi_48, zi_130, zi_65, zi_63, zi_31, zi_108, zi_33, zi_37, zi_67w1, zi_67w2, zi_74i, zi_74r, zi_74u, zi_74a, zi_164i, zi_164r, zi_164u, zi_164a, zi_193i, zi_193r, zi_193u, zi_193a, zi_75, zi_194, zi_210, zi_211, zi_197i, zi_197r, zi_197u, zi_197a, zi_198, zi_165, zi_167, zi_133, zi_207i, zi_207r, zi_207u, zi_207a, zi_86, zi_212, zi_76, zi_213, zi_214, F.t100, kC_eq, toL_s, toL_n, okS0, okS1, okS2, okS3, okS4, okS5, true_and, and_true, hT_wI, hL_wI, hR_wI, hI_wI, hJ_wI, sI_wI, rfP, isIA_100, isIA_120, inb_ok, nI_clamp, nI_add, nI_mul, ↓reduceIte, not_false_eq_true, not_true_eq_false, true_or, or_true, ↓bI_01, ↓b01_0, ↓b01_1, bI_0, z00, z10, n4, n5, n2, n8, Nat.reduceMul, Nat.reduceAdd, Nat.reduceLT, Nat.reduceLeDiff, nI_eq, nI_leI, nI_ltI, Nat.reduceEqDiff, pk_div, nI_sub, Nat.reduceDiv, Nat.reduceSub, g, e1, hz]
    · obtain ⟨X2, H2, ih⟩ := fine_loop d F hn V hb T β a k t what B ht hw hd j (m + 1) (.int (fnW r β a k m t)) X1 H1 (by omega) (by omega)
      refine ⟨X2, H2, fun Q => ?_⟩
      rw [e, if_neg hz] at ih
      rw [← ih Q, w_331_3]
      simp -implicitDefEqProofs (disch := first | omega | (simp (disch := omega) only [nb_upr]; omega)) only [w_331_4, zi_0, zi_0n, zi_88, zi_139, zi_98, zi_34, zi_48, zi_130, zi_65, zi_63, zi_31, zi_108, zi_33, zi_37, zi_67w1, zi_67w2, zi_74i, zi_74r, zi_74u, zi_74a, zi_164i, zi_164r, zi_164u, zi_164a, zi_193i, zi_193r, zi_193u, zi_193a, zi_75, zi_194, zi_210, zi_211, zi_197i, zi_197r, zi_197u, zi_197a, zi_198, zi_165, zi_167, zi_133, zi_207i, zi_207r, zi_207u, zi_207a, zi_86, zi_212, zi_76, zi_213, zi_214, F.t100, kC_eq, toL_s, toL_n, okS0, okS1, okS2, okS3, okS4, okS5, true_and, and_true, hT_wI, hL_wI, hR_wI, hI_wI, hJ_wI, sI_wI, rfP, isIA_100, isIA_120, inb_ok, nI_clamp, nI_add, nI_mul, ↓reduceIte, not_false_eq_true, not_true_eq_false, true_or, or_true, ↓bI_01, ↓b01_0, ↓b01_1, bI_0, z00, z10, n4, n5, n2, n8, Nat.reduceMul, Nat.reduceAdd, Nat.reduceLT, Nat.reduceLeDiff, nI_eq, nI_leI, nI_ltI, Nat.reduceEqDiff, pk_div, nI_sub, Nat.reduceDiv, Nat.reduceSub, g, e1, hz]
theorem mfine_in (d : Nat) (F : FR h) (V : Vr n r) (β a k m t : Nat) (B : Bt r β a k) (hm : m ≤ 9) (ht : t ≤ 9) (hd : 4 ≤ d) (v3 v4 v5 v6 : Value) :
    ∀ (j i : Nat) (f1 : Nat → Nat → Int32), TB f1 → i + j = t → ∃ f2, S1 f1 f2 ∧ ∀ Q, WP d 1195 4 [.ref 233, .int (nI β), .int (nI t), v3, v4, v5, .int (nI m), .int (fnW r β a k m i), .int (nI i)] [] (wI h (mw f1 234 (fnR r β a k m i))) Q = WP d 1195 5 [.ref 233, .int (nI β), .int (nI t), v3, v4, v5, .int (nI m), .int (fnW r β a k m t), .int (nI t)] [] (wI h (mw f2 234 (fnR r β a k m t))) Q
  | 0, i, f1, T, hi => by
    obtain rfl : i = t := by omega
    refine ⟨f1, S1.refl f1, fun Q => ?_⟩
    rw [w_1195_4]
    simp -implicitDefEqProofs (disch := first | omega | (simp (disch := omega) only [nb_upr]; omega)) only [zi_0, zi_0n, zi_88, zi_458, zi_66, zi_34, zi_48, zi_130, zi_362, zi_63, zi_31, zi_452, zi_33, zi_37, zi_67w1, zi_67w2, zi_357, zi_487, zi_378, zi_74i, zi_74r, zi_74u, zi_74a, zi_164i, zi_164r, zi_164u, zi_164a, zi_193i, zi_193r, zi_193u, zi_193a, zi_75, zi_194, zi_500, zi_197i, zi_197r, zi_197u, zi_197a, zi_54, zi_457, zi_204i, zi_204r, zi_204u, zi_204a, zi_133, zi_205, zi_166, zi_469, zi_198, zi_475, zi_70, zi_478, zi_501i, zi_501r, zi_501u, zi_501a, zi_131, zi_165, zi_502, zi_213, zi_76, zi_214, zi_503, zi_304, zi_305, zi_207i, zi_207r, zi_207u, zi_207a, zi_86, zi_504, zi_408, zi_465, kC_eq, toL_s, toL_n, okS0, okS1, okS2, okS3, okS4, okS5, true_and, and_true, hT_wI, hL_wI, hR_wI, hI_wI, hJ_wI, sI_wI, rfP, isIA_100, isIA_120, inb_ok, nI_clamp, nI_add, nI_mul, ↓reduceIte, not_false_eq_true, not_true_eq_false, true_or, or_true, ↓bI_01, ↓b01_0, ↓b01_1, bI_0, z00, z10, n4, n5, n2, n8, Nat.reduceMul, Nat.reduceAdd, Nat.reduceLT, Nat.reduceLeDiff, nI_eq, nI_leI, nI_ltI, Nat.reduceEqDiff, pk_div, nI_sub, Nat.reduceDiv, Nat.reduceSub, Nat.le_refl]
  | j + 1, i, f1, T, hi => by
    have g : ¬ t ≤ i := by omega
    obtain ⟨V1, B1, -⟩ := fn_ok V B hm i
    obtain ⟨h1, h2, h3, h4, h5⟩ := B1
    have h6 := V1.nb6
    have s1 := S1.hw f1 (hlA (fnR r β a k m i) β a k) (hlW (fnR r β a k m i) β a k)
    obtain ⟨f2, ⟨s2, k2⟩, eb⟩ := e_bellGoes (d := d - 1) (f := hw f1 (hlA (fnR r β a k m i) β a k) (hlW (fnR r β a k m i) β a k)) F (Vr_hl V1 h1 h2 h3).vs (by omega)
    obtain ⟨f3, s3, ih⟩ := mfine_in d F V β a k m t B hm ht hd v3 v4 v5 v6 j (i + 1) f2 ((s1.trans s2).tb T) (by omega)
    have e1 : fnR r β a k m (i + 1) = bell (hlR (fnR r β a k m i) β a k) := rfl
    have e2 : fnW r β a k m (i + 1) = fnW r β a k m i + hlW (fnR r β a k m i) β a k := rfl
    rw [e1, e2] at ih
    refine ⟨f3, (s1.trans s2).trans s3, fun Q => ?_⟩
    rw [← ih Q, w_1195_4]
    simp -implicitDefEqProofs (disch := first | omega | (simp (disch := omega) only [nb_upr]; omega)) only [zi_0, zi_0n, zi_88, zi_458, zi_66, zi_34, zi_48, zi_130, zi_362, zi_63, zi_31, zi_452, zi_33, zi_37, zi_67w1, zi_67w2, zi_357, zi_487, zi_378, zi_74i, zi_74r, zi_74u, zi_74a, zi_164i, zi_164r, zi_164u, zi_164a, zi_193i, zi_193r, zi_193u, zi_193a, zi_75, zi_194, zi_500, zi_197i, zi_197r, zi_197u, zi_197a, zi_54, zi_457, zi_204i, zi_204r, zi_204u, zi_204a, zi_133, zi_205, zi_166, zi_469, zi_198, zi_475, zi_70, zi_478, zi_501i, zi_501r, zi_501u, zi_501a, zi_131, zi_165, zi_502, zi_213, zi_76, zi_214, zi_503, zi_304, zi_305, zi_207i, zi_207r, zi_207u, zi_207a, zi_86, zi_504, zi_408, zi_465, F.t233, kC_eq, toL_s, toL_n, okS0, okS1, okS2, okS3, okS4, okS5, true_and, and_true, hT_wI, hL_wI, hR_wI, hI_wI, hJ_wI, sI_wI, rfP, isIA_100, isIA_120, inb_ok, nI_clamp, nI_add, nI_mul, ↓reduceIte, not_false_eq_true, not_true_eq_false, true_or, or_true, ↓bI_01, ↓b01_0, ↓b01_1, bI_0, z00, z10, n4, n5, n2, n8, Nat.reduceMul, Nat.reduceAdd, Nat.reduceLT, Nat.reduceLeDiff, nI_eq, nI_leI, nI_ltI, Nat.reduceEqDiff, pk_div, nI_sub, Nat.reduceDiv, Nat.reduceSub, g, e_hauls F T V1 β a k h1 (show β < 6 by omega) h2 h3 h4 h5, mw_out, hw_15, eb]
theorem mfine_5 (d : Nat) (F : FR h) (β t what m G i : Nat) (W S : Int32) (f2 f3 : Nat → Nat → Int32) (ρ : Nat → Int32) (em : ∀ d Q, Run d 762 [.ref 237, .ref 234] (wI h (mw f2 234 ρ)) Q = Q none (wI h (mw f3 234 r))) (hd : 4 ≤ d) (Q : Option Value → PH → Prop) :
    WP d 1195 5 [.ref 233, .int (nI β), .int (nI t), .int (nI what), .int (nI G), .int W, .int (nI m), .int S, .int (nI i)] [] (wI h (mw f2 234 ρ)) Q = WP d 1195 3 [.ref 233, .int (nI β), .int (nI t), .int (nI what), .int (if S < W then nI G else nI m), .int (if S < W then W else S), .int (nI (m + 1)), .int S, .int (nI i)] [] (wI h (mw f3 234 r)) Q := by
  by_cases hz : S < W
  · simp (disch := first | omega | (simp (disch := omega) only [nb_upr]; omega)) only [w_1195_5, w_1195_6, w_1195_7, w_1195_8, w_1195_9, zi_0, zi_0n, zi_88, zi_458, zi_66, zi_34, zi_48, zi_130, zi_362, zi_63, zi_31, zi_452, zi_33, zi_37, zi_67w1, zi_67w2, zi_357, zi_487, zi_378, zi_74i, zi_74r, zi_74u, zi_74a, zi_164i, zi_164r, zi_164u, zi_164a, zi_193i, zi_193r, zi_193u, zi_193a, zi_75, zi_194, zi_500, zi_197i, zi_197r, zi_197u, zi_197a, zi_54, zi_457, zi_204i, zi_204r, zi_204u, zi_204a, zi_133, zi_205, zi_166, zi_469, zi_198, zi_475, zi_70, zi_478, zi_501i, zi_501r, zi_501u, zi_501a, zi_131, zi_165, zi_502, zi_213, zi_76, zi_214, zi_503, zi_304, zi_305, zi_207i, zi_207r, zi_207u, zi_207a, zi_86, zi_504, zi_408, zi_465, F.t233, F.t233, F.r233_0, F.t234, F.l234, F.r233_3, F.t237, F.l237, kC_eq, toL_s, toL_n, okS0, okS1, okS2, okS3, okS4, okS5, true_and, and_true, hT_wI, hL_wI, hR_wI, hI_wI, hJ_wI, sI_wI, rfP, isIA_100, isIA_120, inb_ok, nI_clamp, nI_add, nI_mul, ↓reduceIte, not_false_eq_true, not_true_eq_false, true_or, or_true, ↓bI_01, ↓b01_0, ↓b01_1, bI_0, z00, z10, n4, n5, n2, n8, Nat.reduceMul, Nat.reduceAdd, Nat.reduceLT, Nat.reduceLeDiff, em, hz]
  · simp (disch := first | omega | (simp (disch := omega) only [nb_upr]; omega)) only [w_1195_5, w_1195_6, w_1195_7, w_1195_8, w_1195_9, zi_0, zi_0n, zi_88, zi_458, zi_66, zi_34, zi_48, zi_130, zi_362, zi_63, zi_31, zi_452, zi_33, zi_37, zi_67w1, zi_67w2, zi_357, zi_487, zi_378, zi_74i, zi_74r, zi_74u, zi_74a, zi_164i, zi_164r, zi_164u, zi_164a, zi_193i, zi_193r, zi_193u, zi_193a, zi_75, zi_194, zi_500, zi_197i, zi_197r, zi_197u, zi_197a, zi_54, zi_457, zi_204i, zi_204r, zi_204u, zi_204a, zi_133, zi_205, zi_166, zi_469, zi_198, zi_475, zi_70, zi_478, zi_501i, zi_501r, zi_501u, zi_501a, zi_131, zi_165, zi_502, zi_213, zi_76, zi_214, zi_503, zi_304, zi_305, zi_207i, zi_207r, zi_207u, zi_207a, zi_86, zi_504, zi_408, zi_465, F.t233, F.t233, F.r233_0, F.t234, F.l234, F.r233_3, F.t237, F.l237, kC_eq, toL_s, toL_n, okS0, okS1, okS2, okS3, okS4, okS5, true_and, and_true, hT_wI, hL_wI, hR_wI, hI_wI, hJ_wI, sI_wI, rfP, isIA_100, isIA_120, inb_ok, nI_clamp, nI_add, nI_mul, ↓reduceIte, not_false_eq_true, not_true_eq_false, true_or, or_true, ↓bI_01, ↓b01_0, ↓b01_1, bI_0, z00, z10, n4, n5, n2, n8, Nat.reduceMul, Nat.reduceAdd, Nat.reduceLT, Nat.reduceLeDiff, em, hz]
theorem mfine_loop (d : Nat) (F : FR h) (V : Vr n r) (β a k t what : Nat) (B : Bt r β a k) (ht : t ≤ 9) (hw : what ≤ 1) (hd : 4 ≤ d) (f0 : Nat → Nat → Int32) (T : TB f0) :
    ∀ (j m : Nat) (v7 v8 : Value) (f1 : Nat → Nat → Int32), (Sc f0 f1 ∧ rm f1 237 = r) → m + j = 10 → 1 ≤ m → ∃ f2, Sc f0 f2 ∧ ∀ Q, WP d 1195 3 [.ref 233, .int (nI β), .int (nI t), .int (nI what), .int (nI (fnB r β a k t m)), .int (fnW r β a k (fnB r β a k t m) t), .int (nI m), v7, v8] [] (wI h (mw f1 234 r)) Q = Q (some (.int (if what = 0 then nI (fnB r β a k t 10) else fnW r β a k (fnB r β a k t 10) t))) (wI h (mw f2 234 r)) := by
  intro j
  induction j with
  | zero =>
    intro m v7 v8 f1 H hm _
    obtain rfl : m = 10 := by omega
    refine ⟨f1, H.1, fun Q => ?_⟩
    have g : ¬ 10 ≤ 9 := by decide
    have cases : what = 0 ∨ what = 1 := by omega
    rw [w_1195_3]
    rcases cases with rfl | rfl
    · simp -implicitDefEqProofs (disch := first | omega | (simp (disch := omega) only [nb_upr]; omega)) only [w_1195_10, w_1195_12, zi_0, zi_0n, zi_88, zi_458, zi_66, zi_34, zi_48, zi_130, zi_362, zi_63, zi_31, zi_452, zi_33, zi_37, zi_67w1, zi_67w2, zi_357, zi_487, zi_378, zi_74i, zi_74r, zi_74u, zi_74a, zi_164i, zi_164r, zi_164u, zi_164a, zi_193i, zi_193r, zi_193u, zi_193a, zi_75, zi_194, zi_500, zi_197i, zi_197r, zi_197u, zi_197a, zi_54, zi_457, zi_204i, zi_204r, zi_204u, zi_204a, zi_133, zi_205, zi_166, zi_469, zi_198, zi_475, zi_70, zi_478, zi_501i, zi_501r, zi_501u, zi_501a, zi_131, zi_165, zi_502, zi_213, zi_76, zi_214, zi_503, zi_304, zi_305, zi_207i, zi_207r, zi_207u, zi_207a, zi_86, zi_504, zi_408, zi_465, kC_eq, toL_s, toL_n, okS0, okS1, okS2, okS3, okS4, okS5, true_and, and_true, hT_wI, hL_wI, hR_wI, hI_wI, hJ_wI, sI_wI, rfP, isIA_100, isIA_120, inb_ok, nI_clamp, nI_add, nI_mul, ↓reduceIte, not_false_eq_true, not_true_eq_false, true_or, or_true, ↓bI_01, ↓b01_0, ↓b01_1, bI_0, z00, z10, n4, n5, n2, n8, Nat.reduceMul, Nat.reduceAdd, Nat.reduceLT, Nat.reduceLeDiff, nI_eq, nI_leI, nI_ltI, Nat.reduceEqDiff, pk_div, nI_sub, Nat.reduceDiv, Nat.reduceSub]
    · have z : ¬ (1 : Nat) = 0 := by decide
      simp -implicitDefEqProofs (disch := first | omega | (simp (disch := omega) only [nb_upr]; omega)) only [w_1195_10, w_1195_11, w_1195_12, zi_0, zi_0n, zi_88, zi_458, zi_66, zi_34, zi_48, zi_130, zi_362, zi_63, zi_31, zi_452, zi_33, zi_37, zi_67w1, zi_67w2, zi_357, zi_487, zi_378, zi_74i, zi_74r, zi_74u, zi_74a, zi_164i, zi_164r, zi_164u, zi_164a, zi_193i, zi_193r, zi_193u, zi_193a, zi_75, zi_194, zi_500, zi_197i, zi_197r, zi_197u, zi_197a, zi_54, zi_457, zi_204i, zi_204r, zi_204u, zi_204a, zi_133, zi_205, zi_166, zi_469, zi_198, zi_475, zi_70, zi_478, zi_501i, zi_501r, zi_501u, zi_501a, zi_131, zi_165, zi_502, zi_213, zi_76, zi_214, zi_503, zi_304, zi_305, zi_207i, zi_207r, zi_207u, zi_207a, zi_86, zi_504, zi_408, zi_465, kC_eq, toL_s, toL_n, okS0, okS1, okS2, okS3, okS4, okS5, true_and, and_true, hT_wI, hL_wI, hR_wI, hI_wI, hJ_wI, sI_wI, rfP, isIA_100, isIA_120, inb_ok, nI_clamp, nI_add, nI_mul, ↓reduceIte, not_false_eq_true, not_true_eq_false, true_or, or_true, ↓bI_01, ↓b01_0, ↓b01_1, bI_0, z00, z10, n4, n5, n2, n8, Nat.reduceMul, Nat.reduceAdd, Nat.reduceLT, Nat.reduceLeDiff, nI_eq, nI_leI, nI_ltI, Nat.reduceEqDiff, pk_div, nI_sub, Nat.reduceDiv, Nat.reduceSub, z]
  | succ j ih0 =>
    intro m v7 v8 f1 H hm h1
    have g : ¬ 9 < m := by omega
    have hβ := B.1
    have h6 := V.nb6
    obtain ⟨f2, s2, ei⟩ := mfine_in d F V β a k m t B (by omega) ht hd (.int (nI what)) (.int (nI (fnB r β a k t m))) (.int (fnW r β a k (fnB r β a k t m) t)) .null t 0 f1 (H.1.tb T) (by omega)
    obtain ⟨f3, H3, em⟩ := moveB F (H.1.trans s2.sc) (by rw [s2.r237, H.2]) (fnR r β a k m t)
    have e : fnB r β a k t (m + 1) = if fnW r β a k m t < fnW r β a k (fnB r β a k t m) t then fnB r β a k t m else m := rfl
    have e0 : fnR r β a k m 0 = upr r (79 + 10 * β) (nI m) := rfl
    have e00 : fnW r β a k m 0 = nI 0 := rfl
    rw [e0, e00] at ei
    obtain ⟨f4, s4, ih⟩ := ih0 (m + 1) (.int (fnW r β a k m t)) (.int (nI t)) f3 H3 (by omega) (by omega)
    refine ⟨f4, s4, fun Q => ?_⟩
    have e5 := mfine_5 d F β t what m (fnB r β a k t m) t (fnW r β a k (fnB r β a k t m) t) (fnW r β a k m t) f2 f3 (fnR r β a k m t) em hd Q
    rw [w_1195_3]
    simp (disch := first | omega | (simp (disch := omega) only [nb_upr]; omega)) only [zi_0, zi_0n, zi_88, zi_458, zi_66, zi_34, zi_48, zi_130, zi_362, zi_63, zi_31, zi_452, zi_33, zi_37, zi_67w1, zi_67w2, zi_357, zi_487, zi_378, zi_74i, zi_74r, zi_74u, zi_74a, zi_164i, zi_164r, zi_164u, zi_164a, zi_193i, zi_193r, zi_193u, zi_193a, zi_75, zi_194, zi_500, zi_197i, zi_197r, zi_197u, zi_197a, zi_54, zi_457, zi_204i, zi_204r, zi_204u, zi_204a, zi_133, zi_205, zi_166, zi_469, zi_198, zi_475, zi_70, zi_478, zi_501i, zi_501r, zi_501u, zi_501a, zi_131, zi_165, zi_502, zi_213, zi_76, zi_214, zi_503, zi_304, zi_305, zi_207i, zi_207r, zi_207u, zi_207a, zi_86, zi_504, zi_408, zi_465, F.t233, kC_eq, toL_s, toL_n, okS0, okS1, okS2, okS3, okS4, okS5, true_and, and_true, hT_wI, hL_wI, hR_wI, hI_wI, hJ_wI, sI_wI, rfP, isIA_100, isIA_120, inb_ok, nI_clamp, nI_add, nI_mul, ↓reduceIte, not_false_eq_true, not_true_eq_false, true_or, or_true, ↓bI_01, ↓b01_0, ↓b01_1, bI_0, z00, z10, n4, n5, n2, n8, Nat.reduceMul, Nat.reduceAdd, Nat.reduceLT, Nat.reduceLeDiff, nI_eq, nI_leI, nI_ltI, Nat.reduceEqDiff, pk_div, nI_sub, Nat.reduceDiv, Nat.reduceSub, g, e_sets3 F hβ]
    rw [ei, e5, ← ih Q, e]
    by_cases hz : fnW r β a k m t < fnW r β a k (fnB r β a k t m) t
    · simp only [hz, ↓reduceIte]
    · simp only [hz, ↓reduceIte]
theorem fnB_1 (r : Nat → Int32) (β a k t : Nat) : fnB r β a k t 1 = 0 := by
  show (if _ then 0 else 0) = 0
  split <;> rfl
theorem p_fine (F : FR h) (hn : hR h 100 0 = some b) (w : WB h b) (hb : b = 117) (V : Vr n r) (s t v : Int32) : Pair h b n r 331 1195 [.int s, .int t, .int v] := by
  have V' := V.mono (show n ≤ n + 6 by omega)
  have h5 := V.r5
  have h6 := V.nb6
  by_cases hs : s < nI 0 ∨ nI (nb r) - nI 1 < s
  · exact ⟨.int (Int32.ofInt (-1)), r, V', fun f T => ⟨f, ScC.refl f, fun Q => by simp -implicitDefEqProofs (disch := first | omega | (simp (disch := omega) only [nb_upr]; omega)) only [R_331, w_331_0, w_331_1, zi_0, zi_0n, zi_88, zi_139, zi_98, zi_34, zi_48, zi_130, zi_65, zi_63, zi_31, zi_108, zi_33, zi_37, zi_67w1, zi_67w2, zi_74i, zi_74r, zi_74u, zi_74a, zi_164i, zi_164r, zi_164u, zi_164a, zi_193i, zi_193r, zi_193u, zi_193a, zi_75, zi_194, zi_210, zi_211, zi_197i, zi_197r, zi_197u, zi_197a, zi_198, zi_165, zi_167, zi_133, zi_207i, zi_207r, zi_207u, zi_207a, zi_86, zi_212, zi_76, zi_213, zi_214, F.t100, kC_eq, toL_s, toL_n, okS0, okS1, okS2, okS3, okS4, okS5, true_and, and_true, hT_wI, hL_wI, hR_wI, hI_wI, hJ_wI, sI_wI, rfP, isIA_100, isIA_120, inb_ok, nI_clamp, nI_add, nI_mul, ↓reduceIte, not_false_eq_true, not_true_eq_false, true_or, or_true, ↓bI_01, ↓b01_0, ↓b01_1, bI_0, z00, z10, n4, n5, n2, n8, Nat.reduceMul, Nat.reduceAdd, Nat.reduceLT, Nat.reduceLeDiff, e_noBoat F hn w h5, hs]⟩, fun f T => ⟨f, Sc.refl f, fun Q => by simp -implicitDefEqProofs (disch := first | omega | (simp (disch := omega) only [nb_upr]; omega)) only [R_1195, w_1195_0, w_1195_1, zi_0, zi_0n, zi_88, zi_458, zi_66, zi_34, zi_48, zi_130, zi_362, zi_63, zi_31, zi_452, zi_33, zi_37, zi_67w1, zi_67w2, zi_357, zi_487, zi_378, zi_74i, zi_74r, zi_74u, zi_74a, zi_164i, zi_164r, zi_164u, zi_164a, zi_193i, zi_193r, zi_193u, zi_193a, zi_75, zi_194, zi_500, zi_197i, zi_197r, zi_197u, zi_197a, zi_54, zi_457, zi_204i, zi_204r, zi_204u, zi_204a, zi_133, zi_205, zi_166, zi_469, zi_198, zi_475, zi_70, zi_478, zi_501i, zi_501r, zi_501u, zi_501a, zi_131, zi_165, zi_502, zi_213, zi_76, zi_214, zi_503, zi_304, zi_305, zi_207i, zi_207r, zi_207u, zi_207a, zi_86, zi_504, zi_408, zi_465, F.t233, kC_eq, toL_s, toL_n, okS0, okS1, okS2, okS3, okS4, okS5, true_and, and_true, hT_wI, hL_wI, hR_wI, hI_wI, hJ_wI, sI_wI, rfP, isIA_100, isIA_120, inb_ok, nI_clamp, nI_add, nI_mul, ↓reduceIte, not_false_eq_true, not_true_eq_false, true_or, or_true, ↓bI_01, ↓b01_0, ↓b01_1, bI_0, z00, z10, n4, n5, n2, n8, Nat.reduceMul, Nat.reduceAdd, Nat.reduceLT, Nat.reduceLeDiff, e_isBoat F h5, hs]⟩⟩
  by_cases ht : t < nI 1 ∨ nI 9 < t
  · exact ⟨.int (Int32.ofInt (-1)), r, V', fun f T => ⟨f, ScC.refl f, fun Q => by simp -implicitDefEqProofs (disch := first | omega | (simp (disch := omega) only [nb_upr]; omega)) only [R_331, w_331_0, w_331_1, zi_0, zi_0n, zi_88, zi_139, zi_98, zi_34, zi_48, zi_130, zi_65, zi_63, zi_31, zi_108, zi_33, zi_37, zi_67w1, zi_67w2, zi_74i, zi_74r, zi_74u, zi_74a, zi_164i, zi_164r, zi_164u, zi_164a, zi_193i, zi_193r, zi_193u, zi_193a, zi_75, zi_194, zi_210, zi_211, zi_197i, zi_197r, zi_197u, zi_197a, zi_198, zi_165, zi_167, zi_133, zi_207i, zi_207r, zi_207u, zi_207a, zi_86, zi_212, zi_76, zi_213, zi_214, F.t100, kC_eq, toL_s, toL_n, okS0, okS1, okS2, okS3, okS4, okS5, true_and, and_true, hT_wI, hL_wI, hR_wI, hI_wI, hJ_wI, sI_wI, rfP, isIA_100, isIA_120, inb_ok, nI_clamp, nI_add, nI_mul, ↓reduceIte, not_false_eq_true, not_true_eq_false, true_or, or_true, ↓bI_01, ↓b01_0, ↓b01_1, bI_0, z00, z10, n4, n5, n2, n8, Nat.reduceMul, Nat.reduceAdd, Nat.reduceLT, Nat.reduceLeDiff, e_noBoat F hn w h5, hs, e_outside, ht]⟩, fun f T => ⟨f, Sc.refl f, fun Q => by simp -implicitDefEqProofs (disch := first | omega | (simp (disch := omega) only [nb_upr]; omega)) only [R_1195, w_1195_0, w_1195_1, zi_0, zi_0n, zi_88, zi_458, zi_66, zi_34, zi_48, zi_130, zi_362, zi_63, zi_31, zi_452, zi_33, zi_37, zi_67w1, zi_67w2, zi_357, zi_487, zi_378, zi_74i, zi_74r, zi_74u, zi_74a, zi_164i, zi_164r, zi_164u, zi_164a, zi_193i, zi_193r, zi_193u, zi_193a, zi_75, zi_194, zi_500, zi_197i, zi_197r, zi_197u, zi_197a, zi_54, zi_457, zi_204i, zi_204r, zi_204u, zi_204a, zi_133, zi_205, zi_166, zi_469, zi_198, zi_475, zi_70, zi_478, zi_501i, zi_501r, zi_501u, zi_501a, zi_131, zi_165, zi_502, zi_213, zi_76, zi_214, zi_503, zi_304, zi_305, zi_207i, zi_207r, zi_207u, zi_207a, zi_86, zi_504, zi_408, zi_465, F.t233, kC_eq, toL_s, toL_n, okS0, okS1, okS2, okS3, okS4, okS5, true_and, and_true, hT_wI, hL_wI, hR_wI, hI_wI, hJ_wI, sI_wI, rfP, isIA_100, isIA_120, inb_ok, nI_clamp, nI_add, nI_mul, ↓reduceIte, not_false_eq_true, not_true_eq_false, true_or, or_true, ↓bI_01, ↓b01_0, ↓b01_1, bI_0, z00, z10, n4, n5, n2, n8, Nat.reduceMul, Nat.reduceAdd, Nat.reduceLT, Nat.reduceLeDiff, e_isBoat F h5, hs, e_in, ht]⟩⟩
  by_cases hv : v < nI 0 ∨ nI 1 < v
  · exact ⟨.int (Int32.ofInt (-1)), r, V', fun f T => ⟨f, ScC.refl f, fun Q => by simp -implicitDefEqProofs (disch := first | omega | (simp (disch := omega) only [nb_upr]; omega)) only [R_331, w_331_0, w_331_1, zi_0, zi_0n, zi_88, zi_139, zi_98, zi_34, zi_48, zi_130, zi_65, zi_63, zi_31, zi_108, zi_33, zi_37, zi_67w1, zi_67w2, zi_74i, zi_74r, zi_74u, zi_74a, zi_164i, zi_164r, zi_164u, zi_164a, zi_193i, zi_193r, zi_193u, zi_193a, zi_75, zi_194, zi_210, zi_211, zi_197i, zi_197r, zi_197u, zi_197a, zi_198, zi_165, zi_167, zi_133, zi_207i, zi_207r, zi_207u, zi_207a, zi_86, zi_212, zi_76, zi_213, zi_214, F.t100, kC_eq, toL_s, toL_n, okS0, okS1, okS2, okS3, okS4, okS5, true_and, and_true, hT_wI, hL_wI, hR_wI, hI_wI, hJ_wI, sI_wI, rfP, isIA_100, isIA_120, inb_ok, nI_clamp, nI_add, nI_mul, ↓reduceIte, not_false_eq_true, not_true_eq_false, true_or, or_true, ↓bI_01, ↓b01_0, ↓b01_1, bI_0, z00, z10, n4, n5, n2, n8, Nat.reduceMul, Nat.reduceAdd, Nat.reduceLT, Nat.reduceLeDiff, e_noBoat F hn w h5, hs, e_outside, ht, hv]⟩, fun f T => ⟨f, Sc.refl f, fun Q => by simp -implicitDefEqProofs (disch := first | omega | (simp (disch := omega) only [nb_upr]; omega)) only [R_1195, w_1195_0, w_1195_1, zi_0, zi_0n, zi_88, zi_458, zi_66, zi_34, zi_48, zi_130, zi_362, zi_63, zi_31, zi_452, zi_33, zi_37, zi_67w1, zi_67w2, zi_357, zi_487, zi_378, zi_74i, zi_74r, zi_74u, zi_74a, zi_164i, zi_164r, zi_164u, zi_164a, zi_193i, zi_193r, zi_193u, zi_193a, zi_75, zi_194, zi_500, zi_197i, zi_197r, zi_197u, zi_197a, zi_54, zi_457, zi_204i, zi_204r, zi_204u, zi_204a, zi_133, zi_205, zi_166, zi_469, zi_198, zi_475, zi_70, zi_478, zi_501i, zi_501r, zi_501u, zi_501a, zi_131, zi_165, zi_502, zi_213, zi_76, zi_214, zi_503, zi_304, zi_305, zi_207i, zi_207r, zi_207u, zi_207a, zi_86, zi_504, zi_408, zi_465, F.t233, kC_eq, toL_s, toL_n, okS0, okS1, okS2, okS3, okS4, okS5, true_and, and_true, hT_wI, hL_wI, hR_wI, hI_wI, hJ_wI, sI_wI, rfP, isIA_100, isIA_120, inb_ok, nI_clamp, nI_add, nI_mul, ↓reduceIte, not_false_eq_true, not_true_eq_false, true_or, or_true, ↓bI_01, ↓b01_0, ↓b01_1, bI_0, z00, z10, n4, n5, n2, n8, Nat.reduceMul, Nat.reduceAdd, Nat.reduceLT, Nat.reduceLeDiff, e_isBoat F h5, hs, e_in, ht, hv]⟩⟩
  obtain ⟨β, hβ, rfl⟩ := btwB V hs
  obtain ⟨t, -, ht9, rfl⟩ := btw (by decide) (by decide) ht
  obtain ⟨what, -, hw, rfl⟩ := btw (by decide) (by decide) hv
  obtain ⟨a, k, B⟩ := V.bt hβ
  have hβ6 : β < 6 := by omega
  obtain ⟨V0, B0, x, hx, ex⟩ := fn_ok V B (show 0 ≤ 9 by decide) t
  have n0 : ¬ nI x < nI 0 := fun z => by have := (nI_ltI (by omega) (by decide)).mp z; omega
  have n1 : ¬ nI x < Int32.ofInt (-1) := fun z => absurd (Int32.lt_trans z (show Int32.ofInt (-1) < nI 0 by decide)) n0
  refine ⟨.int (if what = 0 then nI (fnB r β a k t 10) else fnW r β a k (fnB r β a k t 10) t), r, V', fun f T => ?_, fun f T => ?_⟩
  · obtain ⟨X1, H1, e1⟩ := e_worthByMesh F hn V hb T β a k 0 t B (by decide) ht9 _ XT.refl
    obtain ⟨X2, H2, el⟩ := fine_loop 30 F hn V hb T β a k t what B ht9 hw (by decide) 9 1 (.int (fnW r β a k 0 t)) X1 H1 rfl (by decide)
    obtain ⟨sc, eg⟩ := H2.fin hb V.z
    refine ⟨X2, sc, fun Q => ?_⟩
    rw [fnB_1, ex] at el
    rw [ex] at e1
    rw [eg, ← el Q]
    simp -implicitDefEqProofs (disch := first | omega | (simp (disch := omega) only [nb_upr]; omega)) only [R_331, w_331_0, w_331_2, zi_0, zi_0n, zi_88, zi_139, zi_98, zi_34, zi_48, zi_130, zi_65, zi_63, zi_31, zi_108, zi_33, zi_37, zi_67w1, zi_67w2, zi_74i, zi_74r, zi_74u, zi_74a, zi_164i, zi_164r, zi_164u, zi_164a, zi_193i, zi_193r, zi_193u, zi_193a, zi_75, zi_194, zi_210, zi_211, zi_197i, zi_197r, zi_197u, zi_197a, zi_198, zi_165, zi_167, zi_133, zi_207i, zi_207r, zi_207u, zi_207a, zi_86, zi_212, zi_76, zi_213, zi_214, F.t100, kC_eq, toL_s, toL_n, okS0, okS1, okS2, okS3, okS4, okS5, true_and, and_true, hT_wI, hL_wI, hR_wI, hI_wI, hJ_wI, sI_wI, rfP, isIA_100, isIA_120, inb_ok, nI_clamp, nI_add, nI_mul, ↓reduceIte, not_false_eq_true, not_true_eq_false, true_or, or_true, ↓bI_01, ↓b01_0, ↓b01_1, bI_0, z00, z10, n4, n5, n2, n8, Nat.reduceMul, Nat.reduceAdd, Nat.reduceLT, Nat.reduceLeDiff, e_noBoat F hn w h5, hs, e_outside, ht, hv]
    rw [w_331_3]
    have z9 : ¬ nI 9 < nI 0 := by decide
    simp -implicitDefEqProofs (disch := first | omega | (simp (disch := omega) only [nb_upr]; omega)) only [w_331_4, zi_0, zi_0n, zi_88, zi_139, zi_98, zi_34, zi_48, zi_130, zi_65, zi_63, zi_31, zi_108, zi_33, zi_37, zi_67w1, zi_67w2, zi_74i, zi_74r, zi_74u, zi_74a, zi_164i, zi_164r, zi_164u, zi_164a, zi_193i, zi_193r, zi_193u, zi_193a, zi_75, zi_194, zi_210, zi_211, zi_197i, zi_197r, zi_197u, zi_197a, zi_198, zi_165, zi_167, zi_133, zi_207i, zi_207r, zi_207u, zi_207a, zi_86, zi_212, zi_76, zi_213, zi_214, F.t100, kC_eq, toL_s, toL_n, okS0, okS1, okS2, okS3, okS4, okS5, true_and, and_true, hT_wI, hL_wI, hR_wI, hI_wI, hJ_wI, sI_wI, rfP, isIA_100, isIA_120, inb_ok, nI_clamp, nI_add, nI_mul, ↓reduceIte, not_false_eq_true, not_true_eq_false, true_or, or_true, ↓bI_01, ↓b01_0, ↓b01_1, bI_0, z00, z10, n4, n5, n2, n8, Nat.reduceMul, Nat.reduceAdd, Nat.reduceLT, Nat.reduceLeDiff, z9, e1, n0]
  · obtain ⟨f1, H1, em⟩ := moveT F V.z f
    obtain ⟨f2, s2, ei⟩ := mfine_in 30 F V β a k 0 t B (by decide) ht9 (by decide) (.int (nI what)) (.int (nI 0)) (.int (Int32.ofInt (-1))) .null t 0 f1 (H1.1.tb T) (by omega)
    obtain ⟨f3, H3, em3⟩ := moveB F (H1.1.trans s2.sc) (by rw [s2.r237, H1.2]) (fnR r β a k 0 t)
    obtain ⟨f4, s4, el⟩ := mfine_loop 30 F V β a k t what B ht9 hw (by decide) f T 9 1 (.int (fnW r β a k 0 t)) (.int (nI t)) f3 H3 rfl (by decide)
    have e0 : fnR r β a k 0 0 = upr r (79 + 10 * β) (nI 0) := rfl
    have e00 : fnW r β a k 0 0 = nI 0 := rfl
    rw [e0, e00, ex] at ei
    rw [fnB_1, ex] at el
    refine ⟨f4, s4, fun Q => ?_⟩
    rw [← el Q]
    simp -implicitDefEqProofs (disch := first | omega | (simp (disch := omega) only [nb_upr]; omega)) only [R_1195, w_1195_0, w_1195_2, zi_0, zi_0n, zi_88, zi_458, zi_66, zi_34, zi_48, zi_130, zi_362, zi_63, zi_31, zi_452, zi_33, zi_37, zi_67w1, zi_67w2, zi_357, zi_487, zi_378, zi_74i, zi_74r, zi_74u, zi_74a, zi_164i, zi_164r, zi_164u, zi_164a, zi_193i, zi_193r, zi_193u, zi_193a, zi_75, zi_194, zi_500, zi_197i, zi_197r, zi_197u, zi_197a, zi_54, zi_457, zi_204i, zi_204r, zi_204u, zi_204a, zi_133, zi_205, zi_166, zi_469, zi_198, zi_475, zi_70, zi_478, zi_501i, zi_501r, zi_501u, zi_501a, zi_131, zi_165, zi_502, zi_213, zi_76, zi_214, zi_503, zi_304, zi_305, zi_207i, zi_207r, zi_207u, zi_207a, zi_86, zi_504, zi_408, zi_465, F.t233, F.t233, F.r233_0, F.t234, F.l234, F.r233_3, F.t237, F.l237, kC_eq, toL_s, toL_n, okS0, okS1, okS2, okS3, okS4, okS5, true_and, and_true, hT_wI, hL_wI, hR_wI, hI_wI, hJ_wI, sI_wI, rfP, isIA_100, isIA_120, inb_ok, nI_clamp, nI_add, nI_mul, ↓reduceIte, not_false_eq_true, not_true_eq_false, true_or, or_true, ↓bI_01, ↓b01_0, ↓b01_1, bI_0, z00, z10, n4, n5, n2, n8, Nat.reduceMul, Nat.reduceAdd, Nat.reduceLT, Nat.reduceLeDiff, e_isBoat F h5, hs, e_in, ht, hv, em]
    rw [w_1195_3]
    have z9 : ¬ nI 9 < nI 0 := by decide
    simp -implicitDefEqProofs (disch := first | omega | (simp (disch := omega) only [nb_upr]; omega)) only [zi_0, zi_0n, zi_88, zi_458, zi_66, zi_34, zi_48, zi_130, zi_362, zi_63, zi_31, zi_452, zi_33, zi_37, zi_67w1, zi_67w2, zi_357, zi_487, zi_378, zi_74i, zi_74r, zi_74u, zi_74a, zi_164i, zi_164r, zi_164u, zi_164a, zi_193i, zi_193r, zi_193u, zi_193a, zi_75, zi_194, zi_500, zi_197i, zi_197r, zi_197u, zi_197a, zi_54, zi_457, zi_204i, zi_204r, zi_204u, zi_204a, zi_133, zi_205, zi_166, zi_469, zi_198, zi_475, zi_70, zi_478, zi_501i, zi_501r, zi_501u, zi_501a, zi_131, zi_165, zi_502, zi_213, zi_76, zi_214, zi_503, zi_304, zi_305, zi_207i, zi_207r, zi_207u, zi_207a, zi_86, zi_504, zi_408, zi_465, F.t233, kC_eq, toL_s, toL_n, okS0, okS1, okS2, okS3, okS4, okS5, true_and, and_true, hT_wI, hL_wI, hR_wI, hI_wI, hJ_wI, sI_wI, rfP, isIA_100, isIA_120, inb_ok, nI_clamp, nI_add, nI_mul, ↓reduceIte, not_false_eq_true, not_true_eq_false, true_or, or_true, ↓bI_01, ↓b01_0, ↓b01_1, bI_0, z00, z10, n4, n5, n2, n8, Nat.reduceMul, Nat.reduceAdd, Nat.reduceLT, Nat.reduceLeDiff, z9, e_sets3 F hβ]
    rw [ei]
    rw [mfine_5 30 F β t what 0 0 t (Int32.ofInt (-1)) (nI x) f2 f3 (fnR r β a k 0 t) em3 (by decide) Q]
    simp only [n1, ↓reduceIte]
end
