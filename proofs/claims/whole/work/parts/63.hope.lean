section
/-! hope -/
variable {b n : Nat} {h : PH} {r : Nat → Int32} {f : Nat → Nat → Int32}
def hpR (r : Nat → Int32) (β a k : Nat) : Nat → Nat → Int32
  | 0 => r
  | i + 1 => hlR (hpR r β a k i) β a k
def hpW (r : Nat → Int32) (β a k : Nat) : Nat → Nat
  | 0 => 0
  | i + 1 => hpW r β a k i + (hlW (hpR r β a k i) β a k).toNatClampNeg
theorem hp_ok {n β a k : Nat} {r : Nat → Int32} (V : Vr n r) (B : Bt r β a k) : ∀ i, Vr (n + i) (hpR r β a k i) ∧ Bt (hpR r β a k i) β a k ∧ hpW r β a k i ≤ 14850 * i ∧ hlW (hpR r β a k i) β a k = nI (hlW (hpR r β a k i) β a k).toNatClampNeg ∧ (hlW (hpR r β a k i) β a k).toNatClampNeg ≤ 14850
  | 0 => by
    obtain ⟨y, hy, ey⟩ := hlW_n V B.1 B.2.1 B.2.2.1
    refine ⟨V, B, Nat.zero_le _, ?_⟩
    show hlW r β a k = nI (hlW r β a k).toNatClampNeg ∧ (hlW r β a k).toNatClampNeg ≤ 14850
    rw [ey, nI_clamp (by omega)]
    exact ⟨rfl, hy⟩
  | i + 1 => by
    obtain ⟨V1, B1, h1, h2, h3⟩ := hp_ok V B i
    have V2 : Vr (n + (i + 1)) (hpR r β a k (i + 1)) := Vr_hl V1 B1.1 B1.2.1 B1.2.2.1
    have B2 : Bt (hpR r β a k (i + 1)) β a k := B1.hl B1.2.1
    obtain ⟨y, hy, ey⟩ := hlW_n V2 B2.1 B2.2.1 B2.2.2.1
    refine ⟨V2, B2, ?_, ?_⟩
    · show hpW r β a k i + (hlW (hpR r β a k i) β a k).toNatClampNeg ≤ _
      omega
    · rw [ey, nI_clamp (by omega)]
      exact ⟨rfl, hy⟩
def chN (t : Nat) : Nat → Nat
  | 0 => 1
  | i + 1 => chN t i * (t - i) / (i + 1)
theorem chN_le : ∀ t, t ≤ 5 → ∀ i, i ≤ 6 → chN t i ≤ 10 := by decide +kernel
def hpS (r : Nat → Int32) (β a k t m : Nat) : Nat → Nat
  | 0 => 0
  | i + 1 => hpS r β a k t m i + hpW r β a k i * chN t i * (100 - m) ^ i * m ^ (t - i)
def hpM (r : Nat → Int32) (β a k t m : Nat) : Nat → Nat
  | 0 => 0
  | i + 1 => hpM r β a k t m i + hpW r β a k (i + 1) * (chN t (i + 1) * (100 - m) ^ (i + 1) * m ^ (t - (i + 1)))
theorem hp_SM (r : Nat → Int32) (β a k t m : Nat) : ∀ i, hpS r β a k t m (i + 1) = hpM r β a k t m i
  | 0 => by
    show 0 + 0 * chN t 0 * (100 - m) ^ 0 * m ^ (t - 0) = 0
    rw [Nat.zero_mul, Nat.zero_mul, Nat.zero_mul]
  | i + 1 => by
    show hpS r β a k t m (i + 1) + _ = hpM r β a k t m i + _
    rw [hp_SM r β a k t m i, ← Nat.mul_assoc, ← Nat.mul_assoc]
theorem hp_pq {t m i : Nat} (ht : t ≤ 5) (hm : m ≤ 99) (hi : i ≤ t) : (100 - m) ^ i * m ^ (t - i) ≤ 10000000000 := by
  have h1 : (100 - m) ^ i ≤ 100 ^ i := Nat.pow_le_pow_left (by omega) i
  have h2 : m ^ (t - i) ≤ 100 ^ (t - i) := Nat.pow_le_pow_left (by omega) (t - i)
  have h3 : (100 - m) ^ i * m ^ (t - i) ≤ 100 ^ i * 100 ^ (t - i) := Nat.mul_le_mul h1 h2
  rw [← Nat.pow_add, show i + (t - i) = t by omega] at h3
  have h4 : 100 ^ t ≤ 100 ^ 5 := Nat.pow_le_pow_right (by decide) ht
  have h5 : (100 : Nat) ^ 5 = 10000000000 := by decide
  omega
theorem hp_M_le {n β a k t m : Nat} {r : Nat → Int32} (V : Vr n r) (B : Bt r β a k) (ht : t ≤ 5) (hm : m ≤ 99) : ∀ i, i ≤ t → hpM r β a k t m i ≤ 7425000000000000 * i
  | 0, _ => Nat.le_refl _
  | i + 1, hi => by
    have ih := hp_M_le V B ht hm i (by omega)
    have h1 := (hp_ok V B (i + 1)).2.2.1
    have h2 := chN_le t ht (i + 1) (by omega)
    have h3 := hp_pq (i := i + 1) ht hm hi
    show hpM r β a k t m i + _ ≤ _
    have h4 : chN t (i + 1) * (100 - m) ^ (i + 1) * m ^ (t - (i + 1)) ≤ 10 * 10000000000 := by
      rw [Nat.mul_assoc]
      exact Nat.mul_le_mul h2 h3
    have h5 : hpW r β a k (i + 1) * (chN t (i + 1) * (100 - m) ^ (i + 1) * m ^ (t - (i + 1))) ≤ 74250 * (10 * 10000000000) := Nat.mul_le_mul (by omega) h4
    omega
theorem hope_loop (d : Nat) (F : FR h) (hn2 : hR h 100 2 = some 145) (V : Vr n r) (T : TB f) (β a k t m : Nat) (p : Int32) (B : Bt r β a k) (ht : t ≤ 5) (hm : m ≤ 99) (hd : 7 ≤ d) (Q : Option Value → PH → Prop) :
    ∀ (j i : Nat), i + j = t + 1 → WP d 443 3 [.ref 100, .int (nI β), .int (nI t), .int p, .int (nI m), .long (lN (hpS r β a k t m i)), .retAddr 0, .long (lN (hpW r β a k i)), .retAddr 0, .long (lN (chN t i)), .retAddr 0, .int (nI i)] [] (wI h (ww f 145 (hpR r β a k i))) Q
      = WP d 443 4 [.ref 100, .int (nI β), .int (nI t), .int p, .int (nI m), .long (lN (hpS r β a k t m (t + 1))), .retAddr 0, .long (lN (hpW r β a k (t + 1))), .retAddr 0, .long (lN (chN t (t + 1))), .retAddr 0, .int (nI (t + 1))] [] (wI h (ww f 145 (hpR r β a k (t + 1)))) Q := by
  intro j
  induction j with
  | zero =>
    intro i hi
    obtain rfl : i = t + 1 := by omega
    have g : t < t + 1 := by omega
    rw [w_443_3]
    simp -implicitDefEqProofs (disch := first | omega | (simp (disch := omega) only [nb_upr]; omega)) only [zi_0, zi_0n, zi_88, zi_139, zi_98, zi_34, zi_31, zi_59, zi_65, zi_63, zi_48, zi_108, zi_33, zi_251, zi_252, zi_92, zi_109, zi_106, zi_74i, zi_74r, zi_74u, zi_74a, zi_264, zi_247i, zi_247r, zi_247u, zi_247a, zi_260i, zi_260r, zi_260u, zi_260a, zi_257, zi_270i, zi_270r, zi_270u, zi_270a, zi_90, zi_102, zi_273i, zi_273r, zi_273u, zi_273a, zi_75, zi_274, zi_275, zi_249, zi_263, zi_271, zi_245, zi_276, zi_76, zi_101, zi_232, zi_254, zi_277, zi_70, zi_272, zi_203, zi_278i, zi_278r, zi_278u, zi_278a, zi_86, zi_253, zi_256, kC_eq, toL_s, toL_n, okS0, okS1, okS2, okS3, okS4, okS5, true_and, and_true, hT_wI, hL_wI, hR_wI, hI_wI, hJ_wI, sI_wI, rfP, isIA_100, isIA_120, inb_ok, nI_clamp, nI_add, nI_mul, ↓reduceIte, not_false_eq_true, not_true_eq_false, true_or, or_true, ↓bI_01, ↓b01_0, ↓b01_1, bI_0, z00, z10, n4, n5, n2, n8, Nat.reduceMul, Nat.reduceAdd, Nat.reduceLT, Nat.reduceLeDiff, nI_eq, nI_leI, nI_ltI, Nat.reduceEqDiff, pk_div, nI_sub, Nat.reduceDiv, Nat.reduceSub, g]
  | succ j ih0 =>
    intro i hi
    have g : ¬ t < i := by omega
    have w := F.w145
    have ih := ih0 (i + 1) (by omega)
    obtain ⟨V1, B1, -, h2, h3⟩ := hp_ok V B i
    obtain ⟨b1, b2, b3, b4, b5⟩ := B1
    have h6 := V1.nb6
    have e1 : hpR r β a k (i + 1) = hlR (hpR r β a k i) β a k := rfl
    have e2 : hpW r β a k (i + 1) = hpW r β a k i + (hlW (hpR r β a k i) β a k).toNatClampNeg := rfl
    have e3 : chN t (i + 1) = chN t i * (t - i) / (i + 1) := rfl
    have e4 : hpS r β a k t m (i + 1) = hpS r β a k t m i + hpW r β a k i * chN t i * (100 - m) ^ i * m ^ (t - i) := rfl
    have c1 := chN_le t ht i (by omega)
    have c2 : chN t i * (t - i) ≤ 10 * 5 := Nat.mul_le_mul c1 (by omega)
    rw [e1, e2, e3, e4] at ih
    rw [← ih, w_443_3]
    simp -implicitDefEqProofs (disch := first | omega | (simp (disch := omega) only [nb_upr]; omega)) only [zi_0, zi_0n, zi_88, zi_139, zi_98, zi_34, zi_31, zi_59, zi_65, zi_63, zi_48, zi_108, zi_33, zi_251, zi_252, zi_92, zi_109, zi_106, zi_74i, zi_74r, zi_74u, zi_74a, zi_264, zi_247i, zi_247r, zi_247u, zi_247a, zi_260i, zi_260r, zi_260u, zi_260a, zi_257, zi_270i, zi_270r, zi_270u, zi_270a, zi_90, zi_102, zi_273i, zi_273r, zi_273u, zi_273a, zi_75, zi_274, zi_275, zi_249, zi_263, zi_271, zi_245, zi_276, zi_76, zi_101, zi_232, zi_254, zi_277, zi_70, zi_272, zi_203, zi_278i, zi_278r, zi_278u, zi_278a, zi_86, zi_253, zi_256, F.t100, hn2, w.t, kC_eq, toL_s, toL_n, okS0, okS1, okS2, okS3, okS4, okS5, true_and, and_true, hT_wI, hL_wI, hR_wI, hI_wI, hJ_wI, sI_wI, rfP, isIA_100, isIA_120, inb_ok, nI_clamp, nI_add, nI_mul, ↓reduceIte, not_false_eq_true, not_true_eq_false, true_or, or_true, ↓bI_01, ↓b01_0, ↓b01_1, bI_0, z00, z10, n4, n5, n2, n8, Nat.reduceMul, Nat.reduceAdd, Nat.reduceLT, Nat.reduceLeDiff, nI_eq, nI_leI, nI_ltI, Nat.reduceEqDiff, pk_div, nI_sub, Nat.reduceDiv, Nat.reduceSub, g, lN_mul, i2lN, e_power, lN_add, lNd, lNn, e_worthOfDrag _ 145 h f _ F w (by decide) T β a k b1 (show β < 6 by omega) b2 b3 b4 b5]
    rw [h2, i2lN (by omega), nI_clamp (by omega)]
    simp -implicitDefEqProofs (disch := first | omega | (simp (disch := omega) only [nb_upr]; omega)) only [zi_0, zi_0n, zi_88, zi_139, zi_98, zi_34, zi_31, zi_59, zi_65, zi_63, zi_48, zi_108, zi_33, zi_251, zi_252, zi_92, zi_109, zi_106, zi_74i, zi_74r, zi_74u, zi_74a, zi_264, zi_247i, zi_247r, zi_247u, zi_247a, zi_260i, zi_260r, zi_260u, zi_260a, zi_257, zi_270i, zi_270r, zi_270u, zi_270a, zi_90, zi_102, zi_273i, zi_273r, zi_273u, zi_273a, zi_75, zi_274, zi_275, zi_249, zi_263, zi_271, zi_245, zi_276, zi_76, zi_101, zi_232, zi_254, zi_277, zi_70, zi_272, zi_203, zi_278i, zi_278r, zi_278u, zi_278a, zi_86, zi_253, zi_256, kC_eq, toL_s, toL_n, okS0, okS1, okS2, okS3, okS4, okS5, true_and, and_true, hT_wI, hL_wI, hR_wI, hI_wI, hJ_wI, sI_wI, rfP, isIA_100, isIA_120, inb_ok, nI_clamp, nI_add, nI_mul, ↓reduceIte, not_false_eq_true, not_true_eq_false, true_or, or_true, ↓bI_01, ↓b01_0, ↓b01_1, bI_0, z00, z10, n4, n5, n2, n8, Nat.reduceMul, Nat.reduceAdd, Nat.reduceLT, Nat.reduceLeDiff, nI_eq, nI_leI, nI_ltI, Nat.reduceEqDiff, pk_div, nI_sub, Nat.reduceDiv, Nat.reduceSub, lN_add]
theorem just_loop (d : Nat) (F : FR h) (t kk : Nat) (ht : t ≤ 5) (hk : kk ≤ t) (f : Nat → Nat → Int32) (Q : Option Value → PH → Prop) :
    ∀ (j i : Nat), i + j = kk → WP d 1290 1 [.ref 233, .int (nI t), .int (nI kk), .long (lN (chN t i)), .retAddr 0, .int (nI i)] [] (wI h f) Q = WP d 1290 2 [.ref 233, .int (nI t), .int (nI kk), .long (lN (chN t kk)), .retAddr 0, .int (nI kk)] [] (wI h f) Q := by
  intro j
  induction j with
  | zero =>
    intro i hi
    obtain rfl : i = kk := by omega
    rw [w_1290_1]
    simp -implicitDefEqProofs (disch := first | omega | (simp (disch := omega) only [nb_upr]; omega)) only [zi_257, zi_246i, zi_246r, zi_246u, zi_246a, zi_31, zi_164i, zi_164r, zi_164u, zi_164a, zi_33, zi_165, zi_34, zi_35, zi_248, zi_88, zi_101, zi_232, zi_245, zi_48, zi_70, zi_272, zi_168i, zi_168r, zi_168u, zi_168a, zi_40, zi_276, zi_0, zi_0n, zi_357, zi_106, zi_529, zi_252, kC_eq, toL_s, toL_n, okS0, okS1, okS2, okS3, okS4, okS5, true_and, and_true, hT_wI, hL_wI, hR_wI, hI_wI, hJ_wI, sI_wI, rfP, isIA_100, isIA_120, inb_ok, nI_clamp, nI_add, nI_mul, ↓reduceIte, not_false_eq_true, not_true_eq_false, true_or, or_true, ↓bI_01, ↓b01_0, ↓b01_1, bI_0, z00, z10, n4, n5, n2, n8, Nat.reduceMul, Nat.reduceAdd, Nat.reduceLT, Nat.reduceLeDiff, nI_eq, nI_leI, nI_ltI, Nat.reduceEqDiff, pk_div, nI_sub, Nat.reduceDiv, Nat.reduceSub, Nat.le_refl]
  | succ j ih0 =>
    intro i hi
    have g : ¬ kk ≤ i := by omega
    have ih := ih0 (i + 1) (by omega)
    have e3 : chN t (i + 1) = chN t i * (t - i) / (i + 1) := rfl
    have c1 := chN_le t ht i (by omega)
    have c2 : chN t i * (t - i) ≤ 10 * 5 := Nat.mul_le_mul c1 (by omega)
    rw [e3] at ih
    rw [← ih, w_1290_1]
    simp -implicitDefEqProofs (disch := first | omega | (simp (disch := omega) only [nb_upr]; omega)) only [zi_257, zi_246i, zi_246r, zi_246u, zi_246a, zi_31, zi_164i, zi_164r, zi_164u, zi_164a, zi_33, zi_165, zi_34, zi_35, zi_248, zi_88, zi_101, zi_232, zi_245, zi_48, zi_70, zi_272, zi_168i, zi_168r, zi_168u, zi_168a, zi_40, zi_276, zi_0, zi_0n, zi_357, zi_106, zi_529, zi_252, kC_eq, toL_s, toL_n, okS0, okS1, okS2, okS3, okS4, okS5, true_and, and_true, hT_wI, hL_wI, hR_wI, hI_wI, hJ_wI, sI_wI, rfP, isIA_100, isIA_120, inb_ok, nI_clamp, nI_add, nI_mul, ↓reduceIte, not_false_eq_true, not_true_eq_false, true_or, or_true, ↓bI_01, ↓b01_0, ↓b01_1, bI_0, z00, z10, n4, n5, n2, n8, Nat.reduceMul, Nat.reduceAdd, Nat.reduceLT, Nat.reduceLeDiff, nI_eq, nI_leI, nI_ltI, Nat.reduceEqDiff, pk_div, nI_sub, Nat.reduceDiv, Nat.reduceSub, g, lN_mul, i2lN, lNd, lNn]
theorem e_just (d : Nat) (F : FR h) (t kk m : Nat) (ht : t ≤ 5) (hk : kk ≤ t) (hm : m ≤ 99) (em : r 0 = nI m) (hd : 1 ≤ d) (Q : Option Value → PH → Prop) :
    Run d 1290 [.ref 233, .int (nI t), .int (nI kk)] (wI h (mw f 234 r)) Q = Q (some (.long (lN (chN t kk * (100 - m) ^ kk * m ^ (t - kk))))) (wI h (mw f 234 r)) := by
  simp -implicitDefEqProofs (disch := first | omega | (simp (disch := omega) only [nb_upr]; omega)) only [R_1290, w_1290_0, zi_257, zi_246i, zi_246r, zi_246u, zi_246a, zi_31, zi_164i, zi_164r, zi_164u, zi_164a, zi_33, zi_165, zi_34, zi_35, zi_248, zi_88, zi_101, zi_232, zi_245, zi_48, zi_70, zi_272, zi_168i, zi_168r, zi_168u, zi_168a, zi_40, zi_276, zi_0, zi_0n, zi_357, zi_106, zi_529, zi_252, kC_eq, toL_s, toL_n, okS0, okS1, okS2, okS3, okS4, okS5, true_and, and_true, hT_wI, hL_wI, hR_wI, hI_wI, hJ_wI, sI_wI, rfP, isIA_100, isIA_120, inb_ok, nI_clamp, nI_add, nI_mul, ↓reduceIte, not_false_eq_true, not_true_eq_false, true_or, or_true, ↓bI_01, ↓b01_0, ↓b01_1, bI_0, z00, z10, n4, n5, n2, n8, Nat.reduceMul, Nat.reduceAdd, Nat.reduceLT, Nat.reduceLeDiff]
  have := just_loop d F t kk ht hk (mw f 234 r) Q kk 0 (by omega)
  have e0 : chN t 0 = 1 := rfl
  rw [e0] at this
  rw [this]
  simp -implicitDefEqProofs (disch := first | omega | (simp (disch := omega) only [nb_upr]; omega)) only [w_1290_2, zi_257, zi_246i, zi_246r, zi_246u, zi_246a, zi_31, zi_164i, zi_164r, zi_164u, zi_164a, zi_33, zi_165, zi_34, zi_35, zi_248, zi_88, zi_101, zi_232, zi_245, zi_48, zi_70, zi_272, zi_168i, zi_168r, zi_168u, zi_168a, zi_40, zi_276, zi_0, zi_0n, zi_357, zi_106, zi_529, zi_252, F.t233, F.r233_0, F.t234, F.l234, kC_eq, toL_s, toL_n, okS0, okS1, okS2, okS3, okS4, okS5, true_and, and_true, hT_wI, hL_wI, hR_wI, hI_wI, hJ_wI, sI_wI, rfP, isIA_100, isIA_120, inb_ok, nI_clamp, nI_add, nI_mul, ↓reduceIte, not_false_eq_true, not_true_eq_false, true_or, or_true, ↓bI_01, ↓b01_0, ↓b01_1, bI_0, z00, z10, n4, n5, n2, n8, Nat.reduceMul, Nat.reduceAdd, Nat.reduceLT, Nat.reduceLeDiff, nI_eq, nI_leI, nI_ltI, Nat.reduceEqDiff, pk_div, nI_sub, Nat.reduceDiv, Nat.reduceSub, mw_r, em, e_powerOf, lN_mul]
theorem mhope_loop (d : Nat) (F : FR h) (V : Vr n r) (β a k t m : Nat) (p : Int32) (B : Bt r β a k) (ht : t ≤ 5) (hm : m ≤ 99) (em : r 0 = nI m) (hd : 7 ≤ d) :
    ∀ (j i : Nat) (f1 : Nat → Nat → Int32), TB f1 → i + j = t → ∃ f2, S1 f1 f2 ∧ ∀ Q, WP d 1283 3 [.ref 233, .int (nI β), .int (nI t), .int p, .long (lN (hpM r β a k t m i)), .retAddr 0, .long (lN (hpW r β a k i)), .retAddr 0, .int (nI (i + 1))] [] (wI h (mw f1 234 (hpR r β a k i))) Q
      = WP d 1283 4 [.ref 233, .int (nI β), .int (nI t), .int p, .long (lN (hpM r β a k t m t)), .retAddr 0, .long (lN (hpW r β a k t)), .retAddr 0, .int (nI (t + 1))] [] (wI h (mw f2 234 (hpR r β a k t))) Q := by
  intro j
  induction j with
  | zero =>
    intro i f1 T hi
    obtain rfl : i = t := by omega
    have g : i < i + 1 := by omega
    refine ⟨f1, S1.refl f1, fun Q => ?_⟩
    rw [w_1283_3]
    simp -implicitDefEqProofs (disch := first | omega | (simp (disch := omega) only [nb_upr]; omega)) only [zi_0, zi_0n, zi_88, zi_458, zi_66, zi_34, zi_31, zi_59, zi_362, zi_63, zi_48, zi_452, zi_33, zi_251, zi_252, zi_357, zi_487, zi_378, zi_264, zi_532i, zi_532r, zi_532u, zi_532a, zi_533i, zi_533r, zi_533u, zi_533a, zi_204i, zi_204r, zi_204u, zi_204a, zi_75, zi_205, zi_275, zi_469, zi_534, zi_475, zi_232, zi_277, zi_535, zi_536, zi_245, zi_501i, zi_501r, zi_501u, zi_501a, zi_86, zi_276, zi_529, zi_530, kC_eq, toL_s, toL_n, okS0, okS1, okS2, okS3, okS4, okS5, true_and, and_true, hT_wI, hL_wI, hR_wI, hI_wI, hJ_wI, sI_wI, rfP, isIA_100, isIA_120, inb_ok, nI_clamp, nI_add, nI_mul, ↓reduceIte, not_false_eq_true, not_true_eq_false, true_or, or_true, ↓bI_01, ↓b01_0, ↓b01_1, bI_0, z00, z10, n4, n5, n2, n8, Nat.reduceMul, Nat.reduceAdd, Nat.reduceLT, Nat.reduceLeDiff, nI_eq, nI_leI, nI_ltI, Nat.reduceEqDiff, pk_div, nI_sub, Nat.reduceDiv, Nat.reduceSub, g]
  | succ j ih0 =>
    intro i f1 T hi
    have g : ¬ t < i + 1 := by omega
    obtain ⟨V1, B1, -, h2, h3⟩ := hp_ok V B i
    obtain ⟨b1, b2, b3, b4, b5⟩ := B1
    have h6 := V1.nb6
    have s1 := S1.hw f1 (hlA (hpR r β a k i) β a k) (hlW (hpR r β a k i) β a k)
    obtain ⟨f2, s2, ih⟩ := ih0 (i + 1) _ (s1.tb T) (by omega)
    have e1 : hpR r β a k (i + 1) = hlR (hpR r β a k i) β a k := rfl
    have e2 : hpW r β a k (i + 1) = hpW r β a k i + (hlW (hpR r β a k i) β a k).toNatClampNeg := rfl
    have e4 : hpM r β a k t m (i + 1) = hpM r β a k t m i + hpW r β a k (i + 1) * (chN t (i + 1) * (100 - m) ^ (i + 1) * m ^ (t - (i + 1))) := rfl
    rw [e4, e2, e1] at ih
    have em1 : ∀ i, hpR r β a k i 0 = nI m := by
      intro i
      induction i with
      | zero => exact em
      | succ i ih => show hlR _ _ _ _ _ = _; rw [hlR_out (by omega) (by omega) (by omega) (by omega)]; exact ih
    have em2 : hlR (hpR r β a k i) β a k 0 = nI m := em1 (i + 1)
    refine ⟨f2, s1.trans s2, fun Q => ?_⟩
    rw [← ih Q, w_1283_3]
    simp -implicitDefEqProofs (disch := first | omega | (simp (disch := omega) only [nb_upr]; omega)) only [zi_0, zi_0n, zi_88, zi_458, zi_66, zi_34, zi_31, zi_59, zi_362, zi_63, zi_48, zi_452, zi_33, zi_251, zi_252, zi_357, zi_487, zi_378, zi_264, zi_532i, zi_532r, zi_532u, zi_532a, zi_533i, zi_533r, zi_533u, zi_533a, zi_204i, zi_204r, zi_204u, zi_204a, zi_75, zi_205, zi_275, zi_469, zi_534, zi_475, zi_232, zi_277, zi_535, zi_536, zi_245, zi_501i, zi_501r, zi_501u, zi_501a, zi_86, zi_276, zi_529, zi_530, F.t233, kC_eq, toL_s, toL_n, okS0, okS1, okS2, okS3, okS4, okS5, true_and, and_true, hT_wI, hL_wI, hR_wI, hI_wI, hJ_wI, sI_wI, rfP, isIA_100, isIA_120, inb_ok, nI_clamp, nI_add, nI_mul, ↓reduceIte, not_false_eq_true, not_true_eq_false, true_or, or_true, ↓bI_01, ↓b01_0, ↓b01_1, bI_0, z00, z10, n4, n5, n2, n8, Nat.reduceMul, Nat.reduceAdd, Nat.reduceLT, Nat.reduceLeDiff, nI_eq, nI_leI, nI_ltI, Nat.reduceEqDiff, pk_div, nI_sub, Nat.reduceDiv, Nat.reduceSub, g, e_hauls F T V1 β a k b1 (show β < 6 by omega) b2 b3 b4 b5, mw_out, hw_15]
    have e6 : (hlW (hpR r β a k i) β a k).toInt64 = lN (hlW (hpR r β a k i) β a k).toNatClampNeg := by
      rw [h2, i2lN (by omega), nI_clamp (by omega)]
    simp -implicitDefEqProofs (disch := first | omega | (simp (disch := omega) only [nb_upr]; omega)) only [zi_0, zi_0n, zi_88, zi_458, zi_66, zi_34, zi_31, zi_59, zi_362, zi_63, zi_48, zi_452, zi_33, zi_251, zi_252, zi_357, zi_487, zi_378, zi_264, zi_532i, zi_532r, zi_532u, zi_532a, zi_533i, zi_533r, zi_533u, zi_533a, zi_204i, zi_204r, zi_204u, zi_204a, zi_75, zi_205, zi_275, zi_469, zi_534, zi_475, zi_232, zi_277, zi_535, zi_536, zi_245, zi_501i, zi_501r, zi_501u, zi_501a, zi_86, zi_276, zi_529, zi_530, F.t233, kC_eq, toL_s, toL_n, okS0, okS1, okS2, okS3, okS4, okS5, true_and, and_true, hT_wI, hL_wI, hR_wI, hI_wI, hJ_wI, sI_wI, rfP, isIA_100, isIA_120, inb_ok, nI_clamp, nI_add, nI_mul, ↓reduceIte, not_false_eq_true, not_true_eq_false, true_or, or_true, ↓bI_01, ↓b01_0, ↓b01_1, bI_0, z00, z10, n4, n5, n2, n8, Nat.reduceMul, Nat.reduceAdd, Nat.reduceLT, Nat.reduceLeDiff, nI_eq, nI_leI, nI_ltI, Nat.reduceEqDiff, pk_div, nI_sub, Nat.reduceDiv, Nat.reduceSub, e6, lN_add, e_just _ F t (i + 1) m ht (by omega) hm em2, lN_mul]
theorem p_hope (F : FR h) (hn : hR h 100 0 = some b) (w : WB h b) (hb : b = 117) (V : Vr n r) (s t v : Int32) : Pair h b n r 443 1283 [.int s, .int t, .int v] := by
  have V' := V.mono (show n ≤ n + 6 by omega)
  have h5 := V.r5
  have h6 := V.nb6
  by_cases hs : s < nI 0 ∨ nI (nb r) - nI 1 < s
  · exact ⟨.long (Int64.ofInt (-1)), r, V', fun f T => ⟨f, ScC.refl f, fun Q => by simp -implicitDefEqProofs (disch := first | omega | (simp (disch := omega) only [nb_upr]; omega)) only [R_443, w_443_0, w_443_1, zi_0, zi_0n, zi_88, zi_139, zi_98, zi_34, zi_31, zi_59, zi_65, zi_63, zi_48, zi_108, zi_33, zi_251, zi_252, zi_92, zi_109, zi_106, zi_74i, zi_74r, zi_74u, zi_74a, zi_264, zi_247i, zi_247r, zi_247u, zi_247a, zi_260i, zi_260r, zi_260u, zi_260a, zi_257, zi_270i, zi_270r, zi_270u, zi_270a, zi_90, zi_102, zi_273i, zi_273r, zi_273u, zi_273a, zi_75, zi_274, zi_275, zi_249, zi_263, zi_271, zi_245, zi_276, zi_76, zi_101, zi_232, zi_254, zi_277, zi_70, zi_272, zi_203, zi_278i, zi_278r, zi_278u, zi_278a, zi_86, zi_253, zi_256, F.t100, kC_eq, toL_s, toL_n, okS0, okS1, okS2, okS3, okS4, okS5, true_and, and_true, hT_wI, hL_wI, hR_wI, hI_wI, hJ_wI, sI_wI, rfP, isIA_100, isIA_120, inb_ok, nI_clamp, nI_add, nI_mul, ↓reduceIte, not_false_eq_true, not_true_eq_false, true_or, or_true, ↓bI_01, ↓b01_0, ↓b01_1, bI_0, z00, z10, n4, n5, n2, n8, Nat.reduceMul, Nat.reduceAdd, Nat.reduceLT, Nat.reduceLeDiff, e_noBoat F hn w h5, hs]⟩, fun f T => ⟨f, Sc.refl f, fun Q => by simp -implicitDefEqProofs (disch := first | omega | (simp (disch := omega) only [nb_upr]; omega)) only [R_1283, w_1283_0, w_1283_1, zi_0, zi_0n, zi_88, zi_458, zi_66, zi_34, zi_31, zi_59, zi_362, zi_63, zi_48, zi_452, zi_33, zi_251, zi_252, zi_357, zi_487, zi_378, zi_264, zi_532i, zi_532r, zi_532u, zi_532a, zi_533i, zi_533r, zi_533u, zi_533a, zi_204i, zi_204r, zi_204u, zi_204a, zi_75, zi_205, zi_275, zi_469, zi_534, zi_475, zi_232, zi_277, zi_535, zi_536, zi_245, zi_501i, zi_501r, zi_501u, zi_501a, zi_86, zi_276, zi_529, zi_530, F.t233, kC_eq, toL_s, toL_n, okS0, okS1, okS2, okS3, okS4, okS5, true_and, and_true, hT_wI, hL_wI, hR_wI, hI_wI, hJ_wI, sI_wI, rfP, isIA_100, isIA_120, inb_ok, nI_clamp, nI_add, nI_mul, ↓reduceIte, not_false_eq_true, not_true_eq_false, true_or, or_true, ↓bI_01, ↓b01_0, ↓b01_1, bI_0, z00, z10, n4, n5, n2, n8, Nat.reduceMul, Nat.reduceAdd, Nat.reduceLT, Nat.reduceLeDiff, e_isBoat F h5, hs]⟩⟩
  by_cases ht : t < nI 0 ∨ nI 5 < t
  · exact ⟨.long (Int64.ofInt (-1)), r, V', fun f T => ⟨f, ScC.refl f, fun Q => by simp -implicitDefEqProofs (disch := first | omega | (simp (disch := omega) only [nb_upr]; omega)) only [R_443, w_443_0, w_443_1, zi_0, zi_0n, zi_88, zi_139, zi_98, zi_34, zi_31, zi_59, zi_65, zi_63, zi_48, zi_108, zi_33, zi_251, zi_252, zi_92, zi_109, zi_106, zi_74i, zi_74r, zi_74u, zi_74a, zi_264, zi_247i, zi_247r, zi_247u, zi_247a, zi_260i, zi_260r, zi_260u, zi_260a, zi_257, zi_270i, zi_270r, zi_270u, zi_270a, zi_90, zi_102, zi_273i, zi_273r, zi_273u, zi_273a, zi_75, zi_274, zi_275, zi_249, zi_263, zi_271, zi_245, zi_276, zi_76, zi_101, zi_232, zi_254, zi_277, zi_70, zi_272, zi_203, zi_278i, zi_278r, zi_278u, zi_278a, zi_86, zi_253, zi_256, F.t100, kC_eq, toL_s, toL_n, okS0, okS1, okS2, okS3, okS4, okS5, true_and, and_true, hT_wI, hL_wI, hR_wI, hI_wI, hJ_wI, sI_wI, rfP, isIA_100, isIA_120, inb_ok, nI_clamp, nI_add, nI_mul, ↓reduceIte, not_false_eq_true, not_true_eq_false, true_or, or_true, ↓bI_01, ↓b01_0, ↓b01_1, bI_0, z00, z10, n4, n5, n2, n8, Nat.reduceMul, Nat.reduceAdd, Nat.reduceLT, Nat.reduceLeDiff, e_noBoat F hn w h5, hs, e_outside, ht]⟩, fun f T => ⟨f, Sc.refl f, fun Q => by simp -implicitDefEqProofs (disch := first | omega | (simp (disch := omega) only [nb_upr]; omega)) only [R_1283, w_1283_0, w_1283_1, zi_0, zi_0n, zi_88, zi_458, zi_66, zi_34, zi_31, zi_59, zi_362, zi_63, zi_48, zi_452, zi_33, zi_251, zi_252, zi_357, zi_487, zi_378, zi_264, zi_532i, zi_532r, zi_532u, zi_532a, zi_533i, zi_533r, zi_533u, zi_533a, zi_204i, zi_204r, zi_204u, zi_204a, zi_75, zi_205, zi_275, zi_469, zi_534, zi_475, zi_232, zi_277, zi_535, zi_536, zi_245, zi_501i, zi_501r, zi_501u, zi_501a, zi_86, zi_276, zi_529, zi_530, F.t233, kC_eq, toL_s, toL_n, okS0, okS1, okS2, okS3, okS4, okS5, true_and, and_true, hT_wI, hL_wI, hR_wI, hI_wI, hJ_wI, sI_wI, rfP, isIA_100, isIA_120, inb_ok, nI_clamp, nI_add, nI_mul, ↓reduceIte, not_false_eq_true, not_true_eq_false, true_or, or_true, ↓bI_01, ↓b01_0, ↓b01_1, bI_0, z00, z10, n4, n5, n2, n8, Nat.reduceMul, Nat.reduceAdd, Nat.reduceLT, Nat.reduceLeDiff, e_isBoat F h5, hs, e_in, ht]⟩⟩
  by_cases hv : v < nI 0 ∨ nI 1 < v
  · exact ⟨.long (Int64.ofInt (-1)), r, V', fun f T => ⟨f, ScC.refl f, fun Q => by simp -implicitDefEqProofs (disch := first | omega | (simp (disch := omega) only [nb_upr]; omega)) only [R_443, w_443_0, w_443_1, zi_0, zi_0n, zi_88, zi_139, zi_98, zi_34, zi_31, zi_59, zi_65, zi_63, zi_48, zi_108, zi_33, zi_251, zi_252, zi_92, zi_109, zi_106, zi_74i, zi_74r, zi_74u, zi_74a, zi_264, zi_247i, zi_247r, zi_247u, zi_247a, zi_260i, zi_260r, zi_260u, zi_260a, zi_257, zi_270i, zi_270r, zi_270u, zi_270a, zi_90, zi_102, zi_273i, zi_273r, zi_273u, zi_273a, zi_75, zi_274, zi_275, zi_249, zi_263, zi_271, zi_245, zi_276, zi_76, zi_101, zi_232, zi_254, zi_277, zi_70, zi_272, zi_203, zi_278i, zi_278r, zi_278u, zi_278a, zi_86, zi_253, zi_256, F.t100, kC_eq, toL_s, toL_n, okS0, okS1, okS2, okS3, okS4, okS5, true_and, and_true, hT_wI, hL_wI, hR_wI, hI_wI, hJ_wI, sI_wI, rfP, isIA_100, isIA_120, inb_ok, nI_clamp, nI_add, nI_mul, ↓reduceIte, not_false_eq_true, not_true_eq_false, true_or, or_true, ↓bI_01, ↓b01_0, ↓b01_1, bI_0, z00, z10, n4, n5, n2, n8, Nat.reduceMul, Nat.reduceAdd, Nat.reduceLT, Nat.reduceLeDiff, e_noBoat F hn w h5, hs, e_outside, ht, hv]⟩, fun f T => ⟨f, Sc.refl f, fun Q => by simp -implicitDefEqProofs (disch := first | omega | (simp (disch := omega) only [nb_upr]; omega)) only [R_1283, w_1283_0, w_1283_1, zi_0, zi_0n, zi_88, zi_458, zi_66, zi_34, zi_31, zi_59, zi_362, zi_63, zi_48, zi_452, zi_33, zi_251, zi_252, zi_357, zi_487, zi_378, zi_264, zi_532i, zi_532r, zi_532u, zi_532a, zi_533i, zi_533r, zi_533u, zi_533a, zi_204i, zi_204r, zi_204u, zi_204a, zi_75, zi_205, zi_275, zi_469, zi_534, zi_475, zi_232, zi_277, zi_535, zi_536, zi_245, zi_501i, zi_501r, zi_501u, zi_501a, zi_86, zi_276, zi_529, zi_530, F.t233, kC_eq, toL_s, toL_n, okS0, okS1, okS2, okS3, okS4, okS5, true_and, and_true, hT_wI, hL_wI, hR_wI, hI_wI, hJ_wI, sI_wI, rfP, isIA_100, isIA_120, inb_ok, nI_clamp, nI_add, nI_mul, ↓reduceIte, not_false_eq_true, not_true_eq_false, true_or, or_true, ↓bI_01, ↓b01_0, ↓b01_1, bI_0, z00, z10, n4, n5, n2, n8, Nat.reduceMul, Nat.reduceAdd, Nat.reduceLT, Nat.reduceLeDiff, e_isBoat F h5, hs, e_in, ht, hv]⟩⟩
  obtain ⟨β, hβ, rfl⟩ := btwB V hs
  obtain ⟨t, -, ht5, rfl⟩ := btw (by decide) (by decide) ht
  obtain ⟨p, -, hp, rfl⟩ := btw (by decide) (by decide) hv
  obtain ⟨a, k, B⟩ := V.bt hβ
  obtain ⟨m, hm, em⟩ := V.w
  have hM := hp_M_le V B ht5 hm t (Nat.le_refl _)
  obtain ⟨p1, p2⟩ := pow100 t (by omega)
  refine ⟨.long (lN (frac (hpM r β a k t m t) (100 ^ t) p)), r, V', fun f T => ?_, fun f T => ?_⟩
  · obtain ⟨X, H, ec⟩ := copyT (f := f) F hb V.z XT.refl
    obtain ⟨sc, eg⟩ := (H.wt (hpR r β a k (t + 1))).fin hb V.z
    refine ⟨ww X 145 (hpR r β a k (t + 1)), sc, fun Q => ?_⟩
    have el := hope_loop 30 F F.r100_2 V (H.tb hb T) β a k t m (nI p) B ht5 hm (by decide) Q (t + 1) 0 (by omega)
    have e0 : hpS r β a k t m 0 = 0 := rfl
    have e1 : hpW r β a k 0 = 0 := rfl
    have e2 : chN t 0 = 1 := rfl
    have e3 : hpR r β a k 0 = r := rfl
    rw [e0, e1, e2, e3, hp_SM] at el
    rw [eg]
    simp -implicitDefEqProofs (disch := first | omega | (simp (disch := omega) only [nb_upr]; omega)) only [R_443, w_443_0, w_443_2, zi_0, zi_0n, zi_88, zi_139, zi_98, zi_34, zi_31, zi_59, zi_65, zi_63, zi_48, zi_108, zi_33, zi_251, zi_252, zi_92, zi_109, zi_106, zi_74i, zi_74r, zi_74u, zi_74a, zi_264, zi_247i, zi_247r, zi_247u, zi_247a, zi_260i, zi_260r, zi_260u, zi_260a, zi_257, zi_270i, zi_270r, zi_270u, zi_270a, zi_90, zi_102, zi_273i, zi_273r, zi_273u, zi_273a, zi_75, zi_274, zi_275, zi_249, zi_263, zi_271, zi_245, zi_276, zi_76, zi_101, zi_232, zi_254, zi_277, zi_70, zi_272, zi_203, zi_278i, zi_278r, zi_278u, zi_278a, zi_86, zi_253, zi_256, kC_eq, toL_s, toL_n, okS0, okS1, okS2, okS3, okS4, okS5, true_and, and_true, hT_wI, hL_wI, hR_wI, hI_wI, hJ_wI, sI_wI, rfP, isIA_100, isIA_120, inb_ok, nI_clamp, nI_add, nI_mul, ↓reduceIte, not_false_eq_true, not_true_eq_false, true_or, or_true, ↓bI_01, ↓b01_0, ↓b01_1, bI_0, z00, z10, n4, n5, n2, n8, Nat.reduceMul, Nat.reduceAdd, Nat.reduceLT, Nat.reduceLeDiff, F.t100, F.w145.t, hn, F.r100_2, w.t, w.r1, w.t1, w.l1, ww_1, em, e_noBoat F hn w h5, hs, e_outside, ht, hv, ec]
    rw [el]
    simp -implicitDefEqProofs (disch := first | omega | (simp (disch := omega) only [nb_upr]; omega)) only [w_443_4, zi_0, zi_0n, zi_88, zi_139, zi_98, zi_34, zi_31, zi_59, zi_65, zi_63, zi_48, zi_108, zi_33, zi_251, zi_252, zi_92, zi_109, zi_106, zi_74i, zi_74r, zi_74u, zi_74a, zi_264, zi_247i, zi_247r, zi_247u, zi_247a, zi_260i, zi_260r, zi_260u, zi_260a, zi_257, zi_270i, zi_270r, zi_270u, zi_270a, zi_90, zi_102, zi_273i, zi_273r, zi_273u, zi_273a, zi_75, zi_274, zi_275, zi_249, zi_263, zi_271, zi_245, zi_276, zi_76, zi_101, zi_232, zi_254, zi_277, zi_70, zi_272, zi_203, zi_278i, zi_278r, zi_278u, zi_278a, zi_86, zi_253, zi_256, kC_eq, toL_s, toL_n, okS0, okS1, okS2, okS3, okS4, okS5, true_and, and_true, hT_wI, hL_wI, hR_wI, hI_wI, hJ_wI, sI_wI, rfP, isIA_100, isIA_120, inb_ok, nI_clamp, nI_add, nI_mul, ↓reduceIte, not_false_eq_true, not_true_eq_false, true_or, or_true, ↓bI_01, ↓b01_0, ↓b01_1, bI_0, z00, z10, n4, n5, n2, n8, Nat.reduceMul, Nat.reduceAdd, Nat.reduceLT, Nat.reduceLeDiff, e_power, e_partOf]
  · obtain ⟨f1, H1, emv⟩ := moveT F V.z f
    obtain ⟨f2, s2, el⟩ := mhope_loop 30 F V β a k t m (nI p) B ht5 hm em (by decide) t 0 f1 (H1.1.tb T) (by omega)
    obtain ⟨f3, H3, em3⟩ := moveB F (H1.1.trans s2.sc) (by rw [s2.r237, H1.2]) (hpR r β a k t)
    refine ⟨f3, H3.1, fun Q => ?_⟩
    have e0 : hpM r β a k t m 0 = 0 := rfl
    have e1 : hpW r β a k 0 = 0 := rfl
    have e3 : hpR r β a k 0 = r := rfl
    rw [e0, e1, e3] at el
    simp -implicitDefEqProofs (disch := first | omega | (simp (disch := omega) only [nb_upr]; omega)) only [R_1283, w_1283_0, w_1283_2, zi_0, zi_0n, zi_88, zi_458, zi_66, zi_34, zi_31, zi_59, zi_362, zi_63, zi_48, zi_452, zi_33, zi_251, zi_252, zi_357, zi_487, zi_378, zi_264, zi_532i, zi_532r, zi_532u, zi_532a, zi_533i, zi_533r, zi_533u, zi_533a, zi_204i, zi_204r, zi_204u, zi_204a, zi_75, zi_205, zi_275, zi_469, zi_534, zi_475, zi_232, zi_277, zi_535, zi_536, zi_245, zi_501i, zi_501r, zi_501u, zi_501a, zi_86, zi_276, zi_529, zi_530, F.t233, F.t233, F.r233_0, F.t234, F.l234, F.r233_3, F.t237, F.l237, kC_eq, toL_s, toL_n, okS0, okS1, okS2, okS3, okS4, okS5, true_and, and_true, hT_wI, hL_wI, hR_wI, hI_wI, hJ_wI, sI_wI, rfP, isIA_100, isIA_120, inb_ok, nI_clamp, nI_add, nI_mul, ↓reduceIte, not_false_eq_true, not_true_eq_false, true_or, or_true, ↓bI_01, ↓b01_0, ↓b01_1, bI_0, z00, z10, n4, n5, n2, n8, Nat.reduceMul, Nat.reduceAdd, Nat.reduceLT, Nat.reduceLeDiff, e_isBoat F h5, hs, e_in, ht, hv, emv]
    rw [el]
    simp -implicitDefEqProofs (disch := first | omega | (simp (disch := omega) only [nb_upr]; omega)) only [w_1283_4, zi_0, zi_0n, zi_88, zi_458, zi_66, zi_34, zi_31, zi_59, zi_362, zi_63, zi_48, zi_452, zi_33, zi_251, zi_252, zi_357, zi_487, zi_378, zi_264, zi_532i, zi_532r, zi_532u, zi_532a, zi_533i, zi_533r, zi_533u, zi_533a, zi_204i, zi_204r, zi_204u, zi_204a, zi_75, zi_205, zi_275, zi_469, zi_534, zi_475, zi_232, zi_277, zi_535, zi_536, zi_245, zi_501i, zi_501r, zi_501u, zi_501a, zi_86, zi_276, zi_529, zi_530, F.t233, F.t233, F.r233_0, F.t234, F.l234, F.r233_3, F.t237, F.l237, kC_eq, toL_s, toL_n, okS0, okS1, okS2, okS3, okS4, okS5, true_and, and_true, hT_wI, hL_wI, hR_wI, hI_wI, hJ_wI, sI_wI, rfP, isIA_100, isIA_120, inb_ok, nI_clamp, nI_add, nI_mul, ↓reduceIte, not_false_eq_true, not_true_eq_false, true_or, or_true, ↓bI_01, ↓b01_0, ↓b01_1, bI_0, z00, z10, n4, n5, n2, n8, Nat.reduceMul, Nat.reduceAdd, Nat.reduceLT, Nat.reduceLeDiff, em3, e_powerOf, e_lowest]
end
