section
/-! rows of bells: prove and judge -/
variable {n : Nat} {h : PH} {r : Nat → Int32}
theorem scr_lt {a k : Nat} (ha : a < 233) : scr a k = false := by
  unfold scr
  simp [show Nat.ble 240 a = false from Bool.eq_false_iff.mpr (fun z => by have := Nat.ble_eq.mp z; omega)]
  omega
theorem scrC_ge {a k : Nat} (ha : 233 ≤ a) : scrC a k = false := by
  unfold scrC
  simp [show Nat.blt a 233 = false from Bool.eq_false_iff.mpr (fun z => by have := Nat.blt_eq.mp z; omega), show Nat.blt a 131 = false from Bool.eq_false_iff.mpr (fun z => by have := Nat.blt_eq.mp z; omega)]
  omega
theorem scrC_hi {a k : Nat} (h : scrC a k = false) : ¬ (145 ≤ a ∧ a < 233) := fun z => by
  unfold scrC at h
  simp [show Nat.ble 145 a = true from Nat.ble_eq.mpr z.1, show Nat.blt a 233 = true from Nat.blt_eq.mpr z.2] at h
theorem scrC_now {a k : Nat} (h : scrC a k = false) : ¬ (117 ≤ a ∧ a < 131) := fun z => by
  unfold scrC at h
  simp [show Nat.ble 117 a = true from Nat.ble_eq.mpr z.1, show Nat.blt a 131 = true from Nat.blt_eq.mpr z.2] at h
def rpt (r : Nat → Int32) (s t : Nat) : Int32 := if t = 0 then stIn r s 5 else if t = 1 then r (12 + 7 * s + 0) else nI (mst r s 5)
def rpk (r : Nat → Int32) (s k : Nat) : Int32 := rpt (bel r (k / 3 + 1)) s (k % 3)
theorem rpk_e {r : Nat → Int32} {s i t : Nat} (ht : t < 3) : rpk r s (3 * i + t) = rpt (bel r (i + 1)) s t := by
  unfold rpk
  rw [show (3 * i + t) / 3 = i by omega, show (3 * i + t) % 3 = t by omega]
def pvW (f : Nat → Nat → Int32) (r : Nat → Int32) (s m : Nat) : Nat → Nat → Int32 := fun a k => if a = 108 ∧ k < m then rpk r s k else f a k
theorem pvW_up {f : Nat → Nat → Int32} {s m : Nat} : up2 (pvW f r s m) 108 m (rpk r s m) = pvW f r s (m + 1) := by
  funext a k
  unfold up2 pvW
  by_cases z : a = 108 ∧ k = m
  · rw [if_pos z, if_pos ⟨z.1, by omega⟩, z.2]
  · rw [if_neg z]
    by_cases y : a = 108 ∧ k < m
    · rw [if_pos y, if_pos ⟨y.1, by omega⟩]
    · rw [if_neg y, if_neg (fun x => by by_cases u : k = m; exact z ⟨x.1, u⟩; exact y ⟨x.1, by omega⟩)]
theorem pvW_0 {f : Nat → Nat → Int32} {s : Nat} : pvW f r s 0 = f := by
  funext a k
  unfold pvW
  rw [if_neg (by omega)]
theorem pvW_ne {f : Nat → Nat → Int32} {s m a k : Nat} (ha : ¬ a = 108) : pvW f r s m a k = f a k := if_neg (fun z => ha z.1)
theorem pvW_in {f : Nat → Nat → Int32} {s m k : Nat} (hk : k < m) : pvW f r s m 108 k = rpk r s k := if_pos ⟨rfl, hk⟩
theorem e_rowPart' (d b : Nat) (h : PH) (f : Nat → Nat → Int32) (r : Nat → Int32) (w : WB h b) (s t : Nat) (hs : s < 8) (ht : t < 3) (hd : 1 ≤ d) (Q : Option Value → PH → Prop) :
    Run d 1730 [.ref b, .int (nI s), .int (nI t)] (wI h (ww f b r)) Q = Q (some (.int (rpt r s t))) (wI h (ww f b r)) := e_rowPart d b h f r w s t hs ht hd Q
theorem prove_in (F : FR h) (X : Nat → Nat → Int32) (s i t : Nat) (hs : s < 8) (hi : i < 10) (ht : t < 3) (m : Int32) (d : Nat) (hd : 2 ≤ d) (Q : Option Value → PH → Prop) :
    WP d 450 4 [.ref 100, .int (nI s), .int m, .int (nI i), .int (nI t)] [] (wI h (ww (pvW X r s (3 * i + t)) 145 (bel r (i + 1)))) Q = WP d 450 4 [.ref 100, .int (nI s), .int m, .int (nI i), .int (nI (t + 1))] [] (wI h (ww (pvW X r s (3 * i + t + 1)) 145 (bel r (i + 1)))) Q := by
  have w := F.w145
  have g : ¬ 3 ≤ t := by omega
  have e1 : i * 3 + t = 3 * i + t := by omega
  have e2 := (rpk_e (r := r) (s := s) (i := i) ht).symm
  have e3 : up2 (ww (pvW X r s (3 * i + t)) 145 (bel r (i + 1))) 108 (3 * i + t) (rpk r s (3 * i + t)) = ww (pvW X r s (3 * i + t + 1)) 145 (bel r (i + 1)) := by
    rw [ww_up2 (by omega), pvW_up]
  rw [w_450_4]
  simp -implicitDefEqProofs (disch := first | omega | (simp (disch := omega) only [nb_upr]; omega)) only [zi_88, zi_122, zi_98, zi_34, zi_48, zi_140, zi_65, zi_108, zi_33, zi_37, zi_67w1, zi_67w2, zi_0, zi_0n, zi_90, zi_92, zi_102, zi_31, zi_111i, zi_111r, zi_111u, zi_111a, zi_75, zi_63, zi_195, zi_160, zi_74i, zi_74r, zi_74u, zi_74a, zi_133, zi_76, zi_54, zi_166, zi_279, zi_79, zi_70, zi_280, zi_38, zi_85i, zi_85r, zi_85u, zi_85a, zi_131, zi_158i, zi_158r, zi_158u, zi_158a, zi_86, zi_103, F.t100, F.r100_2, F.r100_9, F.t108, F.l108, w.t, kC_eq, toL_s, toL_n, okS0, okS1, okS2, okS3, okS4, okS5, true_and, and_true, hT_wI, hL_wI, hR_wI, hI_wI, hJ_wI, sI_wI, rfP, isIA_100, isIA_120, inb_ok, nI_clamp, nI_add, nI_mul, ↓reduceIte, not_false_eq_true, not_true_eq_false, true_or, or_true, ↓bI_01, ↓b01_0, ↓b01_1, bI_0, z00, z10, n4, n5, n2, n8, Nat.reduceMul, Nat.reduceAdd, Nat.reduceLT, Nat.reduceLeDiff, nI_eq, nI_leI, nI_ltI, Nat.reduceEqDiff, pk_div, nI_sub, Nat.reduceDiv, Nat.reduceSub, g, e1, e_rowPart' _ 145 h _ _ w s t hs ht, e2, e3]
theorem prove_loop (F : FR h) (V : Vr n r) (X : Nat → Nat → Int32) (s m : Nat) (hs : s < 8) (hm : m ≤ 10) (d : Nat) (hd : 3 ≤ d) (Q : Option Value → PH → Prop) :
    ∀ (j i : Nat) (v4 : Value), i + j = m → WP d 450 3 [.ref 100, .int (nI s), .int (nI m), .int (nI i), v4] [] (wI h (ww (pvW X r s (3 * i)) 145 (bel r i))) Q = Q (some (.int (nI m))) (wI h (up2 (ww (pvW X r s (3 * m)) 145 (bel r m)) 100 11 (nI m)))
  | 0, i, v4, hi => by
    obtain rfl : i = m := by omega
    rw [w_450_3]
    simp -implicitDefEqProofs (disch := first | omega | (simp (disch := omega) only [nb_upr]; omega)) only [w_450_6, zi_88, zi_122, zi_98, zi_34, zi_48, zi_140, zi_65, zi_108, zi_33, zi_37, zi_67w1, zi_67w2, zi_0, zi_0n, zi_90, zi_92, zi_102, zi_31, zi_111i, zi_111r, zi_111u, zi_111a, zi_75, zi_63, zi_195, zi_160, zi_74i, zi_74r, zi_74u, zi_74a, zi_133, zi_76, zi_54, zi_166, zi_279, zi_79, zi_70, zi_280, zi_38, zi_85i, zi_85r, zi_85u, zi_85a, zi_131, zi_158i, zi_158r, zi_158u, zi_158a, zi_86, zi_103, F.t100, kC_eq, toL_s, toL_n, okS0, okS1, okS2, okS3, okS4, okS5, true_and, and_true, hT_wI, hL_wI, hR_wI, hI_wI, hJ_wI, sI_wI, rfP, isIA_100, isIA_120, inb_ok, nI_clamp, nI_add, nI_mul, ↓reduceIte, not_false_eq_true, not_true_eq_false, true_or, or_true, ↓bI_01, ↓b01_0, ↓b01_1, bI_0, z00, z10, n4, n5, n2, n8, Nat.reduceMul, Nat.reduceAdd, Nat.reduceLT, Nat.reduceLeDiff, nI_eq, nI_leI, nI_ltI, Nat.reduceEqDiff, pk_div, nI_sub, Nat.reduceDiv, Nat.reduceSub, Nat.le_refl]
  | j + 1, i, v4, hi => by
    have w := F.w145
    have g : ¬ m ≤ i := by omega
    have ih := prove_loop F V X s m hs hm d hd Q j (i + 1) (.int (nI 3)) (by omega)
    have p0 := prove_in F X (r := r) s i 0 hs (by omega) (by decide) (nI m) d (by omega) Q
    have p1 := prove_in F X (r := r) s i 1 hs (by omega) (by decide) (nI m) d (by omega) Q
    have p2 := prove_in F X (r := r) s i 2 hs (by omega) (by decide) (nI m) d (by omega) Q
    have p3 : WP d 450 4 [.ref 100, .int (nI s), .int (nI m), .int (nI i), .int (nI 3)] [] (wI h (ww (pvW X r s (3 * (i + 1))) 145 (bel r (i + 1)))) Q = WP d 450 3 [.ref 100, .int (nI s), .int (nI m), .int (nI (i + 1)), .int (nI 3)] [] (wI h (ww (pvW X r s (3 * (i + 1))) 145 (bel r (i + 1)))) Q := by
      rw [w_450_4]
      simp -implicitDefEqProofs (disch := first | omega | (simp (disch := omega) only [nb_upr]; omega)) only [w_450_5, zi_88, zi_122, zi_98, zi_34, zi_48, zi_140, zi_65, zi_108, zi_33, zi_37, zi_67w1, zi_67w2, zi_0, zi_0n, zi_90, zi_92, zi_102, zi_31, zi_111i, zi_111r, zi_111u, zi_111a, zi_75, zi_63, zi_195, zi_160, zi_74i, zi_74r, zi_74u, zi_74a, zi_133, zi_76, zi_54, zi_166, zi_279, zi_79, zi_70, zi_280, zi_38, zi_85i, zi_85r, zi_85u, zi_85a, zi_131, zi_158i, zi_158r, zi_158u, zi_158a, zi_86, zi_103, kC_eq, toL_s, toL_n, okS0, okS1, okS2, okS3, okS4, okS5, true_and, and_true, hT_wI, hL_wI, hR_wI, hI_wI, hJ_wI, sI_wI, rfP, isIA_100, isIA_120, inb_ok, nI_clamp, nI_add, nI_mul, ↓reduceIte, not_false_eq_true, not_true_eq_false, true_or, or_true, ↓bI_01, ↓b01_0, ↓b01_1, bI_0, z00, z10, n4, n5, n2, n8, Nat.reduceMul, Nat.reduceAdd, Nat.reduceLT, Nat.reduceLeDiff, nI_eq, nI_leI, nI_ltI, Nat.reduceEqDiff, pk_div, nI_sub, Nat.reduceDiv, Nat.reduceSub, Nat.le_refl]
    rw [← ih, ← p3]
    refine Eq.trans ?_ (p0.trans (p1.trans p2))
    rw [w_450_3]
    simp -implicitDefEqProofs (disch := first | omega | (simp (disch := omega) only [nb_upr]; omega)) only [zi_88, zi_122, zi_98, zi_34, zi_48, zi_140, zi_65, zi_108, zi_33, zi_37, zi_67w1, zi_67w2, zi_0, zi_0n, zi_90, zi_92, zi_102, zi_31, zi_111i, zi_111r, zi_111u, zi_111a, zi_75, zi_63, zi_195, zi_160, zi_74i, zi_74r, zi_74u, zi_74a, zi_133, zi_76, zi_54, zi_166, zi_279, zi_79, zi_70, zi_280, zi_38, zi_85i, zi_85r, zi_85u, zi_85a, zi_131, zi_158i, zi_158r, zi_158u, zi_158a, zi_86, zi_103, F.t100, F.r100_2, w.t, kC_eq, toL_s, toL_n, okS0, okS1, okS2, okS3, okS4, okS5, true_and, and_true, hT_wI, hL_wI, hR_wI, hI_wI, hJ_wI, sI_wI, rfP, isIA_100, isIA_120, inb_ok, nI_clamp, nI_add, nI_mul, ↓reduceIte, not_false_eq_true, not_true_eq_false, true_or, or_true, ↓bI_01, ↓b01_0, ↓b01_1, bI_0, z00, z10, n4, n5, n2, n8, Nat.reduceMul, Nat.reduceAdd, Nat.reduceLT, Nat.reduceLeDiff, nI_eq, nI_leI, nI_ltI, Nat.reduceEqDiff, pk_div, nI_sub, Nat.reduceDiv, Nat.reduceSub, g, e_ring _ 145 h _ _ w (Vr_bel V i).vs]
    rfl
theorem e_prove (F : FR h) (V : Vr n r) (f : Nat → Nat → Int32) (hrv : rv f 117 = r) (s m : Nat) (hs : s < 8) (h1 : 1 ≤ m) (hm : m ≤ 10) : ∃ X, (∀ a k, ¬ (145 ≤ a ∧ a < 159) → X a k = f a k) ∧
    ∀ Q, Run 30 450 [.ref 100, .int (nI s), .int (nI m)] (wI h f) Q = Q (some (.int (nI m))) (wI h (up2 (ww (pvW X r s (3 * m)) 145 (bel r m)) 100 11 (nI m))) := by
  obtain ⟨X, h2, h3⟩ := e_copy (h := h) 145 117 F.w145 F.w117 (by omega) f
  refine ⟨X, h2, fun Q => ?_⟩
  have hl := prove_loop F V X s m hs hm 30 (by decide) Q m 0 (.retAddr 0) (by omega)
  have c1 : ¬ (nI s < nI 0 ∨ nI 7 < nI s) := by
    rw [nI_ltI (by omega) (by omega), nI_ltI (by omega) (by omega)]; omega
  have c2 : ¬ (nI m < nI 1 ∨ nI 10 < nI m) := by
    rw [nI_ltI (by omega) (by omega), nI_ltI (by omega) (by omega)]; omega
  rw [hrv] at h3
  rw [pvW_0] at hl
  rw [← hl]
  simp -implicitDefEqProofs (disch := first | omega | (simp (disch := omega) only [nb_upr]; omega)) only [R_450, w_450_0, w_450_2, zi_88, zi_122, zi_98, zi_34, zi_48, zi_140, zi_65, zi_108, zi_33, zi_37, zi_67w1, zi_67w2, zi_0, zi_0n, zi_90, zi_92, zi_102, zi_31, zi_111i, zi_111r, zi_111u, zi_111a, zi_75, zi_63, zi_195, zi_160, zi_74i, zi_74r, zi_74u, zi_74a, zi_133, zi_76, zi_54, zi_166, zi_279, zi_79, zi_70, zi_280, zi_38, zi_85i, zi_85r, zi_85u, zi_85a, zi_131, zi_158i, zi_158r, zi_158u, zi_158a, zi_86, zi_103, F.t100, F.r100_0, F.r100_2, F.w145.t, kC_eq, toL_s, toL_n, okS0, okS1, okS2, okS3, okS4, okS5, true_and, and_true, hT_wI, hL_wI, hR_wI, hI_wI, hJ_wI, sI_wI, rfP, isIA_100, isIA_120, inb_ok, nI_clamp, nI_add, nI_mul, ↓reduceIte, not_false_eq_true, not_true_eq_false, true_or, or_true, ↓bI_01, ↓b01_0, ↓b01_1, bI_0, z00, z10, n4, n5, n2, n8, Nat.reduceMul, Nat.reduceAdd, Nat.reduceLT, Nat.reduceLeDiff, e_noStreet, c1, e_outside, c2, h3]
  rfl
/-! the reference: what the rows must be -/
theorem fr_most (F : FR h) (f : Nat → Nat → Int32) (ρ : Nat → Int32) (s : Nat) (hs : s < 8) (v2 v3 : Int32) (d : Nat) (hd : 1 ≤ d) (Q : Option Value → PH → Prop) :
    ∀ (j k : Nat), k + j = 5 → 1 ≤ k → WP d 1306 2 [.ref 233, .int (nI s), .int v2, .int v3, .int (nI (mst ρ s k)), .int (nI k)] [] (wI h (mw f 234 ρ)) Q = WP d 1306 5 [.ref 233, .int (nI s), .int v2, .int v3, .int (nI (mst ρ s 5)), .int (nI 5)] [] (wI h (mw f 234 ρ)) Q := by
  intro j
  induction j with
  | zero =>
    intro k hk _
    obtain rfl : k = 5 := by omega
    rw [w_1306_2]
    simp -implicitDefEqProofs (disch := first | omega | (simp (disch := omega) only [nb_upr]; omega)) only [zi_0, zi_0n, zi_357, zi_487, zi_378, zi_31, zi_111i, zi_111r, zi_111u, zi_111a, zi_33, zi_63, zi_34, zi_195, zi_478, zi_74i, zi_74r, zi_74u, zi_74a, zi_48, zi_164i, zi_164r, zi_164u, zi_164a, zi_113, zi_165, zi_59, zi_166, zi_88, zi_453, zi_76, zi_540, zi_131, zi_133, zi_168i, zi_168r, zi_168u, zi_168a, zi_112, zi_539, zi_54, zi_79, zi_455, zi_38, zi_70, zi_51, zi_158i, zi_158r, zi_158u, zi_158a, zi_40, zi_41, kC_eq, toL_s, toL_n, okS0, okS1, okS2, okS3, okS4, okS5, true_and, and_true, hT_wI, hL_wI, hR_wI, hI_wI, hJ_wI, sI_wI, rfP, isIA_100, isIA_120, inb_ok, nI_clamp, nI_add, nI_mul, ↓reduceIte, not_false_eq_true, not_true_eq_false, true_or, or_true, ↓bI_01, ↓b01_0, ↓b01_1, bI_0, z00, z10, n4, n5, n2, n8, Nat.reduceMul, Nat.reduceAdd, Nat.reduceLT, Nat.reduceLeDiff, nI_eq, nI_leI, nI_ltI, Nat.reduceEqDiff, pk_div, nI_sub, Nat.reduceDiv, Nat.reduceSub, Nat.le_refl]
  | succ j ih0 =>
    intro k hk h1
    have g : ¬ 5 ≤ k := by omega
    have ih := ih0 (k + 1) (by omega) (by omega)
    have hm : mst ρ s k < 5 := by have := mst_lt ρ s k; omega
    rw [← ih, w_1306_2]
    have e : mst ρ s (k + 1) = if ρ (12 + 7 * s + k) ≤ ρ (12 + 7 * s + mst ρ s k) then mst ρ s k else k := rfl
    rw [e]
    by_cases hz : ρ (12 + 7 * s + k) ≤ ρ (12 + 7 * s + mst ρ s k)
    · rw [if_pos hz]
      simp -implicitDefEqProofs (disch := first | omega | (simp (disch := omega) only [nb_upr]; omega)) only [w_1306_3, w_1306_4, zi_0, zi_0n, zi_357, zi_487, zi_378, zi_31, zi_111i, zi_111r, zi_111u, zi_111a, zi_33, zi_63, zi_34, zi_195, zi_478, zi_74i, zi_74r, zi_74u, zi_74a, zi_48, zi_164i, zi_164r, zi_164u, zi_164a, zi_113, zi_165, zi_59, zi_166, zi_88, zi_453, zi_76, zi_540, zi_131, zi_133, zi_168i, zi_168r, zi_168u, zi_168a, zi_112, zi_539, zi_54, zi_79, zi_455, zi_38, zi_70, zi_51, zi_158i, zi_158r, zi_158u, zi_158a, zi_40, zi_41, F.t233, kC_eq, toL_s, toL_n, okS0, okS1, okS2, okS3, okS4, okS5, true_and, and_true, hT_wI, hL_wI, hR_wI, hI_wI, hJ_wI, sI_wI, rfP, isIA_100, isIA_120, inb_ok, nI_clamp, nI_add, nI_mul, ↓reduceIte, not_false_eq_true, not_true_eq_false, true_or, or_true, ↓bI_01, ↓b01_0, ↓b01_1, bI_0, z00, z10, n4, n5, n2, n8, Nat.reduceMul, Nat.reduceAdd, Nat.reduceLT, Nat.reduceLeDiff, nI_eq, nI_leI, nI_ltI, Nat.reduceEqDiff, pk_div, nI_sub, Nat.reduceDiv, Nat.reduceSub, g, e_at F, hz]
    · rw [if_neg hz]
      simp -implicitDefEqProofs (disch := first | omega | (simp (disch := omega) only [nb_upr]; omega)) only [w_1306_3, w_1306_4, zi_0, zi_0n, zi_357, zi_487, zi_378, zi_31, zi_111i, zi_111r, zi_111u, zi_111a, zi_33, zi_63, zi_34, zi_195, zi_478, zi_74i, zi_74r, zi_74u, zi_74a, zi_48, zi_164i, zi_164r, zi_164u, zi_164a, zi_113, zi_165, zi_59, zi_166, zi_88, zi_453, zi_76, zi_540, zi_131, zi_133, zi_168i, zi_168r, zi_168u, zi_168a, zi_112, zi_539, zi_54, zi_79, zi_455, zi_38, zi_70, zi_51, zi_158i, zi_158r, zi_158u, zi_158a, zi_40, zi_41, F.t233, kC_eq, toL_s, toL_n, okS0, okS1, okS2, okS3, okS4, okS5, true_and, and_true, hT_wI, hL_wI, hR_wI, hI_wI, hJ_wI, sI_wI, rfP, isIA_100, isIA_120, inb_ok, nI_clamp, nI_add, nI_mul, ↓reduceIte, not_false_eq_true, not_true_eq_false, true_or, or_true, ↓bI_01, ↓b01_0, ↓b01_1, bI_0, z00, z10, n4, n5, n2, n8, Nat.reduceMul, Nat.reduceAdd, Nat.reduceLT, Nat.reduceLeDiff, nI_eq, nI_leI, nI_ltI, Nat.reduceEqDiff, pk_div, nI_sub, Nat.reduceDiv, Nat.reduceSub, g, e_at F, hz]
theorem fr_loop (F : FR h) (V : Vr n r) (s m : Nat) (hs : s < 8) (hm : m ≤ 10) (d : Nat) (hd : 3 ≤ d) (g : Nat → Nat → Int32) :
    ∀ (j i : Nat) (f1 : Nat → Nat → Int32) (v4 v5 : Value), (Sc g f1 ∧ rm f1 237 = r ∧ ∀ k, k < 3 * i → f1 245 k = rpk r s k) → i + j = m →
      ∃ f', Sc g f' ∧ (∀ k, k < 3 * m → f' 245 k = rpk r s k) ∧ ∀ Q, WP d 1306 1 [.ref 233, .int (nI s), .int (nI m), .int (nI i), v4, v5] [] (wI h (mw f1 234 (bel r i))) Q = Q none (wI h (mw f' 234 r)) := by
  intro j
  induction j with
  | zero =>
    intro i f1 v4 v5 H hi
    obtain rfl : i = m := by omega
    obtain ⟨X, h1, h2, h3⟩ := e_move (h := h) 237 234 F.t237 F.l237 F.t234 F.l234 (by decide) (mw f1 234 (bel r i))
    have e7 : (mw f1 234 (bel r i)) 237 = f1 237 := by funext k; exact mw_out (by decide)
    rw [rm_eq e7, H.2.1] at h2
    have e : mw X 234 r = X := by
      have := mw_rm X 234
      rwa [h2] at this
    refine ⟨X, fun a k ha => ?_, fun k hk => ?_, fun Q => ?_⟩
    · rw [h1 a (by rintro rfl; cases ha), mw_out (by rintro rfl; cases ha)]
      exact H.1 a k ha
    · rw [h1 245 (by decide), mw_out (by decide)]
      exact H.2.2 k hk
    · rw [e, w_1306_1]
      simp -implicitDefEqProofs (disch := first | omega | (simp (disch := omega) only [nb_upr]; omega)) only [w_1306_6, zi_0, zi_0n, zi_357, zi_487, zi_378, zi_31, zi_111i, zi_111r, zi_111u, zi_111a, zi_33, zi_63, zi_34, zi_195, zi_478, zi_74i, zi_74r, zi_74u, zi_74a, zi_48, zi_164i, zi_164r, zi_164u, zi_164a, zi_113, zi_165, zi_59, zi_166, zi_88, zi_453, zi_76, zi_540, zi_131, zi_133, zi_168i, zi_168r, zi_168u, zi_168a, zi_112, zi_539, zi_54, zi_79, zi_455, zi_38, zi_70, zi_51, zi_158i, zi_158r, zi_158u, zi_158a, zi_40, zi_41, F.t233, F.r233_0, F.t234, F.l234, F.r233_3, F.t237, F.l237, F.r233_22, F.t245, F.l245, kC_eq, toL_s, toL_n, okS0, okS1, okS2, okS3, okS4, okS5, true_and, and_true, hT_wI, hL_wI, hR_wI, hI_wI, hJ_wI, sI_wI, rfP, isIA_100, isIA_120, inb_ok, nI_clamp, nI_add, nI_mul, ↓reduceIte, not_false_eq_true, not_true_eq_false, true_or, or_true, ↓bI_01, ↓b01_0, ↓b01_1, bI_0, z00, z10, n4, n5, n2, n8, Nat.reduceMul, Nat.reduceAdd, Nat.reduceLT, Nat.reduceLeDiff, nI_eq, nI_leI, nI_ltI, Nat.reduceEqDiff, pk_div, nI_sub, Nat.reduceDiv, Nat.reduceSub, Nat.le_refl, h3]
  | succ j ih0 =>
    intro i f1 v4 v5 H hi
    have g0 : ¬ m ≤ i := by omega
    obtain ⟨f2, ⟨s2, -⟩, eb⟩ := e_bellGoes (d := d - 1) (f := f1) F (Vr_bel V i).vs (by omega)
    obtain ⟨ρ, hρ⟩ : ∃ ρ, bel r (i + 1) = ρ := ⟨_, rfl⟩
    have hρ' : bell (bel r i) = ρ := hρ
    have sc3 : Sc f2 (up2 (up2 (up2 f2 245 (3 * i) (stIn ρ s 5)) 245 (3 * i + 1) (ρ (12 + 7 * s + 0))) 245 (3 * i + 2) (nI (mst ρ s 5))) := ((Sc.up (a := 245) (k := 3 * i) rfl).trans (Sc.up (a := 245) (k := 3 * i + 1) rfl)).trans (Sc.up (a := 245) (k := 3 * i + 2) rfl)
    obtain ⟨f', sc', hv, ih⟩ := ih0 (i + 1) (up2 (up2 (up2 f2 245 (3 * i) (stIn ρ s 5)) 245 (3 * i + 1) (ρ (12 + 7 * s + 0))) 245 (3 * i + 2) (nI (mst ρ s 5))) (.int (nI (mst ρ s 5))) (.int (nI 5)) ⟨(H.1.trans s2.sc).trans sc3, by
      rw [rm_eq (g := f2) (by funext k; rw [up2_ne _ _ (by decide), up2_ne _ _ (by decide), up2_ne _ _ (by decide)]), s2.r237, H.2.1], fun k hk => by
      by_cases k2 : k = 3 * i + 2
      · subst k2
        rw [up2_same, rpk_e (by decide), hρ]; rfl
      rw [up2_nk _ _ k2]
      by_cases k1 : k = 3 * i + 1
      · subst k1
        rw [up2_same, rpk_e (by decide), hρ]; rfl
      rw [up2_nk _ _ k1]
      by_cases k0 : k = 3 * i
      · subst k0
        rw [up2_same, ← Nat.add_zero (3 * i), rpk_e (by decide), hρ]; rfl
      rw [up2_nk _ _ k0, s2 245 k rfl]
      exact H.2.2 k (by omega)⟩ (by omega)
    refine ⟨f', sc', hv, fun Q => ?_⟩
    rw [← ih Q, hρ, w_1306_1]
    simp -implicitDefEqProofs (disch := first | omega | (simp (disch := omega) only [nb_upr]; omega)) only [zi_0, zi_0n, zi_357, zi_487, zi_378, zi_31, zi_111i, zi_111r, zi_111u, zi_111a, zi_33, zi_63, zi_34, zi_195, zi_478, zi_74i, zi_74r, zi_74u, zi_74a, zi_48, zi_164i, zi_164r, zi_164u, zi_164a, zi_113, zi_165, zi_59, zi_166, zi_88, zi_453, zi_76, zi_540, zi_131, zi_133, zi_168i, zi_168r, zi_168u, zi_168a, zi_112, zi_539, zi_54, zi_79, zi_455, zi_38, zi_70, zi_51, zi_158i, zi_158r, zi_158u, zi_158a, zi_40, zi_41, F.t233, kC_eq, toL_s, toL_n, okS0, okS1, okS2, okS3, okS4, okS5, true_and, and_true, hT_wI, hL_wI, hR_wI, hI_wI, hJ_wI, sI_wI, rfP, isIA_100, isIA_120, inb_ok, nI_clamp, nI_add, nI_mul, ↓reduceIte, not_false_eq_true, not_true_eq_false, true_or, or_true, ↓bI_01, ↓b01_0, ↓b01_1, bI_0, z00, z10, n4, n5, n2, n8, Nat.reduceMul, Nat.reduceAdd, Nat.reduceLT, Nat.reduceLeDiff, nI_eq, nI_leI, nI_ltI, Nat.reduceEqDiff, pk_div, nI_sub, Nat.reduceDiv, Nat.reduceSub, g0, eb, hρ']
    have hmm := fr_most F f2 ρ s hs (nI m) (nI i) d (by omega) Q 4 1 rfl (by decide)
    rw [mst_1] at hmm
    refine hmm.trans ?_
    rw [w_1306_5]
    simp -implicitDefEqProofs (disch := first | omega | (simp (disch := omega) only [nb_upr]; omega)) only [zi_0, zi_0n, zi_357, zi_487, zi_378, zi_31, zi_111i, zi_111r, zi_111u, zi_111a, zi_33, zi_63, zi_34, zi_195, zi_478, zi_74i, zi_74r, zi_74u, zi_74a, zi_48, zi_164i, zi_164r, zi_164u, zi_164a, zi_113, zi_165, zi_59, zi_166, zi_88, zi_453, zi_76, zi_540, zi_131, zi_133, zi_168i, zi_168r, zi_168u, zi_168a, zi_112, zi_539, zi_54, zi_79, zi_455, zi_38, zi_70, zi_51, zi_158i, zi_158r, zi_158u, zi_158a, zi_40, zi_41, F.t233, F.t233, F.r233_0, F.t234, F.l234, F.r233_3, F.t237, F.l237, F.r233_22, F.t245, F.l245, kC_eq, toL_s, toL_n, okS0, okS1, okS2, okS3, okS4, okS5, true_and, and_true, hT_wI, hL_wI, hR_wI, hI_wI, hJ_wI, sI_wI, rfP, isIA_100, isIA_120, inb_ok, nI_clamp, nI_add, nI_mul, ↓reduceIte, not_false_eq_true, not_true_eq_false, true_or, or_true, ↓bI_01, ↓b01_0, ↓b01_1, bI_0, z00, z10, n4, n5, n2, n8, Nat.reduceMul, Nat.reduceAdd, Nat.reduceLT, Nat.reduceLeDiff, nI_eq, nI_leI, nI_ltI, Nat.reduceEqDiff, pk_div, nI_sub, Nat.reduceDiv, Nat.reduceSub, e_stockOf F s hs, e_at F, mw_up2 (show ¬ 245 = 234 by decide)]
theorem e_findRows (F : FR h) (V : Vr n r) (s m : Nat) (hs : s < 8) (hm : m ≤ 10) (d : Nat) (hd : 3 ≤ d) (g : Nat → Nat → Int32) :
    ∃ f', Sc g f' ∧ (∀ k, k < 3 * m → f' 245 k = rpk r s k) ∧ ∀ Q, Run d 1306 [.ref 233, .int (nI s), .int (nI m)] (wI h (mw g 234 r)) Q = Q none (wI h (mw f' 234 r)) := by
  obtain ⟨f1, H, em⟩ := moveT F V.z g
  obtain ⟨f', sc, hv, el⟩ := fr_loop F V s m hs hm d hd g m 0 f1 (.retAddr 0) (.retAddr 0) ⟨H.1, H.2, fun k hk => absurd hk (by omega)⟩ (by omega)
  refine ⟨f', sc, hv, fun Q => ?_⟩
  rw [← el Q]
  simp -implicitDefEqProofs (disch := first | omega | (simp (disch := omega) only [nb_upr]; omega)) only [R_1306, w_1306_0, zi_0, zi_0n, zi_357, zi_487, zi_378, zi_31, zi_111i, zi_111r, zi_111u, zi_111a, zi_33, zi_63, zi_34, zi_195, zi_478, zi_74i, zi_74r, zi_74u, zi_74a, zi_48, zi_164i, zi_164r, zi_164u, zi_164a, zi_113, zi_165, zi_59, zi_166, zi_88, zi_453, zi_76, zi_540, zi_131, zi_133, zi_168i, zi_168r, zi_168u, zi_168a, zi_112, zi_539, zi_54, zi_79, zi_455, zi_38, zi_70, zi_51, zi_158i, zi_158r, zi_158u, zi_158a, zi_40, zi_41, F.t233, F.r233_0, F.t234, F.l234, F.r233_3, F.t237, F.l237, F.r233_22, F.t245, F.l245, kC_eq, toL_s, toL_n, okS0, okS1, okS2, okS3, okS4, okS5, true_and, and_true, hT_wI, hL_wI, hR_wI, hI_wI, hJ_wI, sI_wI, rfP, isIA_100, isIA_120, inb_ok, nI_clamp, nI_add, nI_mul, ↓reduceIte, not_false_eq_true, not_true_eq_false, true_or, or_true, ↓bI_01, ↓b01_0, ↓b01_1, bI_0, z00, z10, n4, n5, n2, n8, Nat.reduceMul, Nat.reduceAdd, Nat.reduceLT, Nat.reduceLeDiff, em]
  rfl
theorem mprove_loop (F : FR h) (s : Int32) (m : Nat) (hm : m ≤ 10) (G : Nat → Nat → Int32) (d : Nat) (Q : Option Value → PH → Prop) :
    ∀ (j k : Nat), k + j = 3 * m → WP d 1298 3 [.ref 233, .int s, .int (nI m), .int (nI k)] [] (wI h (cpf G 245 244 k)) Q = Q (some (.int (nI m))) (wI h (cpf G 245 244 (3 * m)))
  | 0, k, hk => by
    obtain rfl : k = 3 * m := by omega
    rw [w_1298_3]
    simp -implicitDefEqProofs (disch := first | omega | (simp (disch := omega) only [nb_upr]; omega)) only [w_1298_4, zi_88, zi_454, zi_66, zi_34, zi_48, zi_140, zi_362, zi_452, zi_33, zi_37, zi_67w1, zi_67w2, zi_0, zi_0n, zi_537, zi_379, zi_31, zi_111i, zi_111r, zi_111u, zi_111a, zi_75, zi_63, zi_54, zi_79, zi_77, zi_538, zi_539, zi_106, zi_38, zi_158i, zi_158r, zi_158u, zi_158a, zi_86, kC_eq, toL_s, toL_n, okS0, okS1, okS2, okS3, okS4, okS5, true_and, and_true, hT_wI, hL_wI, hR_wI, hI_wI, hJ_wI, sI_wI, rfP, isIA_100, isIA_120, inb_ok, nI_clamp, nI_add, nI_mul, ↓reduceIte, not_false_eq_true, not_true_eq_false, true_or, or_true, ↓bI_01, ↓b01_0, ↓b01_1, bI_0, z00, z10, n4, n5, n2, n8, Nat.reduceMul, Nat.reduceAdd, Nat.reduceLT, Nat.reduceLeDiff, nI_eq, nI_leI, nI_ltI, Nat.reduceEqDiff, pk_div, nI_sub, Nat.reduceDiv, Nat.reduceSub, Nat.le_refl]
  | j + 1, k, hk => by
    have g : ¬ 3 * m ≤ k := by omega
    have ih := mprove_loop F s m hm G d Q j (k + 1) (by omega)
    have e : up2 (cpf G 245 244 k) 244 k (G 245 k) = cpf G 245 244 (k + 1) := by
      funext a q
      unfold up2 cpf
      by_cases z : a = 244 ∧ q = k
      · rw [if_pos z, if_pos ⟨z.1, by omega⟩, z.2]
      · rw [if_neg z]
        by_cases y : a = 244 ∧ q < k
        · rw [if_pos y, if_pos ⟨y.1, by omega⟩]
        · rw [if_neg y, if_neg (fun x => by by_cases u : q = k; exact z ⟨x.1, u⟩; exact y ⟨x.1, by omega⟩)]
    rw [w_1298_3]
    simp -implicitDefEqProofs (disch := first | omega | (simp (disch := omega) only [nb_upr]; omega)) only [zi_88, zi_454, zi_66, zi_34, zi_48, zi_140, zi_362, zi_452, zi_33, zi_37, zi_67w1, zi_67w2, zi_0, zi_0n, zi_537, zi_379, zi_31, zi_111i, zi_111r, zi_111u, zi_111a, zi_75, zi_63, zi_54, zi_79, zi_77, zi_538, zi_539, zi_106, zi_38, zi_158i, zi_158r, zi_158u, zi_158a, zi_86, F.t233, F.r233_21, F.t244, F.l244, F.r233_22, F.t245, F.l245, kC_eq, toL_s, toL_n, okS0, okS1, okS2, okS3, okS4, okS5, true_and, and_true, hT_wI, hL_wI, hR_wI, hI_wI, hJ_wI, sI_wI, rfP, isIA_100, isIA_120, inb_ok, nI_clamp, nI_add, nI_mul, ↓reduceIte, not_false_eq_true, not_true_eq_false, true_or, or_true, ↓bI_01, ↓b01_0, ↓b01_1, bI_0, z00, z10, n4, n5, n2, n8, Nat.reduceMul, Nat.reduceAdd, Nat.reduceLT, Nat.reduceLeDiff, nI_eq, nI_leI, nI_ltI, Nat.reduceEqDiff, pk_div, nI_sub, Nat.reduceDiv, Nat.reduceSub, g, cpf_ne, e]
    exact ih
theorem c_prove (n : Nat) (s v : Int32) : CALL 450 1298 [.int s, .int v] n := by
  rintro h f ⟨F, T, V, em, hk, ht, hr, he, hs, hv⟩
  have same : ∀ x, (∀ Q, Run 30 450 [.ref 100, .int s, .int v] (wI h f) Q = Q (some x) (wI h f)) → (∀ Q, Run 30 1298 [.ref 233, .int s, .int v] (wI h f) Q = Q (some x) (wI h f)) → ∃ x h1 h' f', (∀ Q, Run 30 450 [.ref 100, .int s, .int v] (wI h f) Q = Q (some x) h1) ∧ (∀ Q, Run 30 1298 [.ref 233, .int s, .int v] h1 Q = Q (some x) (wI h' f')) ∧ INVf (n + 6) h' f' ∧ FIX h h' f f' :=
    fun x e1 e2 => ⟨x, wI h f, h, f, e1, e2, ⟨F, T, V.mono (by omega), em, hk.mono (by omega), ht, hr, he, hs, hv⟩, FIX.refl h f⟩
  by_cases c1 : s < nI 0 ∨ nI 7 < s
  · exact same (.int (Int32.ofInt (-1))) (fun Q => by simp -implicitDefEqProofs (disch := first | omega | (simp (disch := omega) only [nb_upr]; omega)) only [R_450, w_450_0, w_450_1, zi_88, zi_122, zi_98, zi_34, zi_48, zi_140, zi_65, zi_108, zi_33, zi_37, zi_67w1, zi_67w2, zi_0, zi_0n, zi_90, zi_92, zi_102, zi_31, zi_111i, zi_111r, zi_111u, zi_111a, zi_75, zi_63, zi_195, zi_160, zi_74i, zi_74r, zi_74u, zi_74a, zi_133, zi_76, zi_54, zi_166, zi_279, zi_79, zi_70, zi_280, zi_38, zi_85i, zi_85r, zi_85u, zi_85a, zi_131, zi_158i, zi_158r, zi_158u, zi_158a, zi_86, zi_103, kC_eq, toL_s, toL_n, okS0, okS1, okS2, okS3, okS4, okS5, true_and, and_true, hT_wI, hL_wI, hR_wI, hI_wI, hJ_wI, sI_wI, rfP, isIA_100, isIA_120, inb_ok, nI_clamp, nI_add, nI_mul, ↓reduceIte, not_false_eq_true, not_true_eq_false, true_or, or_true, ↓bI_01, ↓b01_0, ↓b01_1, bI_0, z00, z10, n4, n5, n2, n8, Nat.reduceMul, Nat.reduceAdd, Nat.reduceLT, Nat.reduceLeDiff, e_noStreet, c1]) (fun Q => by simp -implicitDefEqProofs (disch := first | omega | (simp (disch := omega) only [nb_upr]; omega)) only [R_1298, w_1298_0, w_1298_1, zi_88, zi_454, zi_66, zi_34, zi_48, zi_140, zi_362, zi_452, zi_33, zi_37, zi_67w1, zi_67w2, zi_0, zi_0n, zi_537, zi_379, zi_31, zi_111i, zi_111r, zi_111u, zi_111a, zi_75, zi_63, zi_54, zi_79, zi_77, zi_538, zi_539, zi_106, zi_38, zi_158i, zi_158r, zi_158u, zi_158a, zi_86, kC_eq, toL_s, toL_n, okS0, okS1, okS2, okS3, okS4, okS5, true_and, and_true, hT_wI, hL_wI, hR_wI, hI_wI, hJ_wI, sI_wI, rfP, isIA_100, isIA_120, inb_ok, nI_clamp, nI_add, nI_mul, ↓reduceIte, not_false_eq_true, not_true_eq_false, true_or, or_true, ↓bI_01, ↓b01_0, ↓b01_1, bI_0, z00, z10, n4, n5, n2, n8, Nat.reduceMul, Nat.reduceAdd, Nat.reduceLT, Nat.reduceLeDiff, e_isStreet, c1])
  by_cases c2 : v < nI 1 ∨ nI 10 < v
  · exact same (.int (Int32.ofInt (-1))) (fun Q => by simp -implicitDefEqProofs (disch := first | omega | (simp (disch := omega) only [nb_upr]; omega)) only [R_450, w_450_0, w_450_1, zi_88, zi_122, zi_98, zi_34, zi_48, zi_140, zi_65, zi_108, zi_33, zi_37, zi_67w1, zi_67w2, zi_0, zi_0n, zi_90, zi_92, zi_102, zi_31, zi_111i, zi_111r, zi_111u, zi_111a, zi_75, zi_63, zi_195, zi_160, zi_74i, zi_74r, zi_74u, zi_74a, zi_133, zi_76, zi_54, zi_166, zi_279, zi_79, zi_70, zi_280, zi_38, zi_85i, zi_85r, zi_85u, zi_85a, zi_131, zi_158i, zi_158r, zi_158u, zi_158a, zi_86, zi_103, kC_eq, toL_s, toL_n, okS0, okS1, okS2, okS3, okS4, okS5, true_and, and_true, hT_wI, hL_wI, hR_wI, hI_wI, hJ_wI, sI_wI, rfP, isIA_100, isIA_120, inb_ok, nI_clamp, nI_add, nI_mul, ↓reduceIte, not_false_eq_true, not_true_eq_false, true_or, or_true, ↓bI_01, ↓b01_0, ↓b01_1, bI_0, z00, z10, n4, n5, n2, n8, Nat.reduceMul, Nat.reduceAdd, Nat.reduceLT, Nat.reduceLeDiff, e_noStreet, c1, e_outside, c2]) (fun Q => by simp -implicitDefEqProofs (disch := first | omega | (simp (disch := omega) only [nb_upr]; omega)) only [R_1298, w_1298_0, w_1298_1, zi_88, zi_454, zi_66, zi_34, zi_48, zi_140, zi_362, zi_452, zi_33, zi_37, zi_67w1, zi_67w2, zi_0, zi_0n, zi_537, zi_379, zi_31, zi_111i, zi_111r, zi_111u, zi_111a, zi_75, zi_63, zi_54, zi_79, zi_77, zi_538, zi_539, zi_106, zi_38, zi_158i, zi_158r, zi_158u, zi_158a, zi_86, kC_eq, toL_s, toL_n, okS0, okS1, okS2, okS3, okS4, okS5, true_and, and_true, hT_wI, hL_wI, hR_wI, hI_wI, hJ_wI, sI_wI, rfP, isIA_100, isIA_120, inb_ok, nI_clamp, nI_add, nI_mul, ↓reduceIte, not_false_eq_true, not_true_eq_false, true_or, or_true, ↓bI_01, ↓b01_0, ↓b01_1, bI_0, z00, z10, n4, n5, n2, n8, Nat.reduceMul, Nat.reduceAdd, Nat.reduceLT, Nat.reduceLeDiff, e_isStreet, c1, e_in, c2])
  obtain ⟨s, -, hs7, rfl⟩ := btw (by decide) (by decide) c1
  obtain ⟨m, hm1, hm, rfl⟩ := btw (by decide) (by decide) c2
  obtain ⟨r, hrv⟩ : ∃ r, rv f 117 = r := ⟨_, rfl⟩
  rw [hrv] at V em
  obtain ⟨X, hX, ep⟩ := e_prove F V f hrv s m (by omega) hm1 hm
  obtain ⟨G, hG⟩ : ∃ G, up2 (ww (pvW X r s (3 * m)) 145 (bel r m)) 100 11 (nI m) = G := ⟨_, rfl⟩
  rw [hG] at ep
  have Gn : G 100 11 = nI m := by rw [← hG, up2_same]
  have Go : ∀ a k, ¬ (145 ≤ a ∧ a < 159) → ¬ (a = 100 ∧ k = 11) → G a k = pvW f r s (3 * m) a k := fun a k h1 h2 => by
    rw [← hG, up2_out h2, ww_out (by omega)]
    unfold pvW
    by_cases z : a = 108 ∧ k < 3 * m
    · rw [if_pos z, if_pos z]
    · rw [if_neg z, if_neg z]
      exact hX a k h1
  have G234 : mw G 234 r = G := by
    have e1 : rm G 234 = r := by
      rw [rm_eq (g := f) (by funext k; rw [Go 234 k (by omega) (by omega), pvW_ne (by decide)]), em]
    have := mw_rm G 234
    rwa [e1] at this
  obtain ⟨g', sc, hmust, ef⟩ := e_findRows F V s m (by omega) hm 29 (by decide) G
  rw [G234] at ef
  obtain ⟨K, hK⟩ : ∃ K, up2 (mw g' 234 r) 233 23 (nI m) = K := ⟨_, rfl⟩
  have el := fun Q => mprove_loop F (nI s) m hm K 30 Q (3 * m) 0 (by omega)
  have K0 : cpf K 245 244 0 = K := by
    funext a k
    unfold cpf
    rw [if_neg (by omega)]
  have Kn : K 233 23 = nI m := by rw [← hK, up2_same]
  have K245 : ∀ k, k < 3 * m → K 245 k = rpk r s k := fun k hk => by rw [← hK, up2_ne _ _ (by decide), mw_out (by decide)]; exact hmust k hk
  have Ko : ∀ a k, ¬ a = 234 → ¬ (a = 233 ∧ k = 23) → scr a k = false → K a k = G a k := fun a k h1 h2 h3 => by
    rw [← hK, up2_out h2, mw_out h1]
    exact sc a k h3
  have K234 : rm K 234 = r := by
    rw [← hK, rm_eq (g := mw g' 234 r) (by funext k; rw [up2_ne _ _ (by decide)]), rm_mw V.z]
  obtain ⟨H, hH⟩ : ∃ H, cpf K 245 244 (3 * m) = H := ⟨_, rfl⟩
  rw [hH] at el
  rw [K0] at el
  have H244 : ∀ k, k < 3 * m → H 244 k = rpk r s k := fun k hk => by rw [← hH, cpf_eq, if_pos hk]; exact K245 k hk
  have Ho : ∀ a k, ¬ (a = 244 ∧ k < 3 * m) → H a k = K a k := fun a k h1 => by rw [← hH]; exact if_neg h1
  -- the rows alone changed
  obtain ⟨f1, hf1⟩ : ∃ f1 : Nat → Nat → Int32, (fun a k => if (a = 108 ∨ a = 244) ∧ k < 3 * m then rpk r s k else if (a = 100 ∧ k = 11) ∨ (a = 233 ∧ k = 23) then nI m else f a k) = f1 := ⟨_, rfl⟩
  have f1r : ∀ a k, (a = 108 ∨ a = 244) ∧ k < 3 * m → f1 a k = rpk r s k := fun a k z => by rw [← hf1]; exact if_pos z
  have f1n : ∀ a k, (a = 100 ∧ k = 11) ∨ (a = 233 ∧ k = 23) → f1 a k = nI m := fun a k z => by
    rw [← hf1]
    show (if _ then _ else if _ then _ else _) = _
    rw [if_neg (by omega), if_pos z]
  have f1o : ∀ a k, ¬ a = 108 → ¬ a = 244 → ¬ ((a = 100 ∧ k = 11) ∨ (a = 233 ∧ k = 23)) → f1 a k = f a k := fun a k z1 z2 z3 => by
    rw [← hf1]
    show (if _ then _ else if _ then _ else _) = _
    rw [if_neg (by omega), if_neg z3]
  have f1q : ∀ a k, ¬ ((a = 108 ∨ a = 244) ∧ k < 3 * m) → ¬ ((a = 100 ∧ k = 11) ∨ (a = 233 ∧ k = 23)) → f1 a k = f a k := fun a k z1 z3 => by
    rw [← hf1]
    show (if _ then _ else if _ then _ else _) = _
    rw [if_neg z1, if_neg z3]
  have R1 : REST n h f1 := ⟨hk.of (fun a k ha => f1o a k (by unfold kK at ha; omega) (by unfold kK at ha; omega) (by unfold kK at ha; omega)), ht.of (fun a k ha => f1o a k (by unfold kT at ha; omega) (by unfold kT at ha; omega) (by unfold kT at ha; omega)), ⟨m, hm, f1n 100 11 (by omega), f1n 233 23 (by omega), fun k hk => by rw [f1r 244 k (by omega), f1r 108 k (by omega)]⟩, he.of (fun a k ha => f1o a k (by unfold kE at ha; omega) (by unfold kE at ha; omega) (by unfold kE at ha; omega)), hs.of (fun a k ha => f1o a k (by unfold kS at ha; omega) (by unfold kS at ha; omega) (by unfold kS at ha; omega)), hv.of (fun a k ha => f1o a k (by unfold kV at ha; omega) (by unfold kV at ha; omega) (by unfold kV at ha; omega))⟩
  have HF : ∀ a k, ¬ (145 ≤ a ∧ a < 159) → scr a k = false → H a k = f1 a k := fun a k h1 h2 => by
    have n234 : ¬ a = 234 := by rintro rfl; cases h2
    by_cases z : a = 244 ∧ k < 3 * m
    · obtain ⟨rfl, z2⟩ := z
      rw [H244 k z2, f1r 244 k (by omega)]
    rw [Ho a k z]
    by_cases z2 : a = 233 ∧ k = 23
    · obtain ⟨rfl, rfl⟩ := z2
      rw [Kn, f1n 233 23 (by omega)]
    rw [Ko a k n234 z2 h2]
    by_cases z3 : a = 100 ∧ k = 11
    · obtain ⟨rfl, rfl⟩ := z3
      rw [Gn, f1n 100 11 (by omega)]
    rw [Go a k h1 z3]
    by_cases z4 : a = 108 ∧ k < 3 * m
    · obtain ⟨rfl, z5⟩ := z4
      rw [pvW_in z5, f1r 108 k (by omega)]
    rw [f1q a k (by omega) (by omega)]
    exact if_neg z4
  have RSH : RS f1 H := fun a k h1 h2 => HF a k (fun z => scrC_hi h1 (by omega)) h2
  refine ⟨.int (nI m), wI h G, h, H, ep, fun Q => ?_, ⟨F, TB_of (fun a k ha => ?_) T, ?_, ?_, (R1.rs RSH).mono (by omega)⟩, FIX.ints (fun a k ha => ?_)⟩
  · rw [← el Q]
    simp -implicitDefEqProofs (disch := first | omega | (simp (disch := omega) only [nb_upr]; omega)) only [R_1298, w_1298_0, w_1298_2, zi_88, zi_454, zi_66, zi_34, zi_48, zi_140, zi_362, zi_452, zi_33, zi_37, zi_67w1, zi_67w2, zi_0, zi_0n, zi_537, zi_379, zi_31, zi_111i, zi_111r, zi_111u, zi_111a, zi_75, zi_63, zi_54, zi_79, zi_77, zi_538, zi_539, zi_106, zi_38, zi_158i, zi_158r, zi_158u, zi_158a, zi_86, F.t233, kC_eq, toL_s, toL_n, okS0, okS1, okS2, okS3, okS4, okS5, true_and, and_true, hT_wI, hL_wI, hR_wI, hI_wI, hJ_wI, sI_wI, rfP, isIA_100, isIA_120, inb_ok, nI_clamp, nI_add, nI_mul, ↓reduceIte, not_false_eq_true, not_true_eq_false, true_or, or_true, ↓bI_01, ↓b01_0, ↓b01_1, bI_0, z00, z10, n4, n5, n2, n8, Nat.reduceMul, Nat.reduceAdd, Nat.reduceLT, Nat.reduceLeDiff, Nat.reduceSub, e_isStreet, c1, e_in, c2, ef, hK]
  · rcases ha with z | rfl
    · rw [HF a k (by omega) (scr_lt (by omega)), f1o a k (by omega) (by omega) (by omega)]
    · rw [HF 238 k (by omega) rfl, f1o 238 k (by omega) (by omega) (by omega)]
  · rw [rv_eq (g := f) (fun a k h1 h2 => by rw [HF a k (by omega) (scr_lt (by omega)), f1o a k (by omega) (by omega) (by omega)]), hrv]
    exact V.mono (by omega)
  · rw [rv_eq (g := f) (fun a k h1 h2 => by rw [HF a k (by omega) (scr_lt (by omega)), f1o a k (by omega) (by omega) (by omega)]), hrv, rm_eq (g := K) (by funext k; exact Ho 234 k (by omega)), K234]
  · rw [HF a k (by omega) (scr_lt (by omega)), f1o a k (by omega) (by omega) (by omega)]
/-- calls that change the row alone, but look at what lies beside it -/
theorem call_ofF {mc mm : Nat} {args : List Value} {n : Nat} (P : ∀ (h : PH) (f : Nat → Nat → Int32) (r : Nat → Int32), INVf n h f → FR h → TB f → Vr n r → rv f 117 = r → ∃ x r', Vr (n + 6) r' ∧
    (∃ f', ScC f f' ∧ ∀ Q, Run 30 mc (.ref 100 :: args) (wI h (ww f 117 r)) Q = Q (some x) (wI h (ww f' 117 r'))) ∧
    (∀ g, RS f g → TB g → ∃ g', Sc g g' ∧ ∀ Q, Run 30 mm (.ref 233 :: args) (wI h (mw g 234 r)) Q = Q (some x) (wI h (mw g' 234 r')))) : CALL mc mm args n := by
  rintro h f I
  obtain ⟨F, T, V, em, R⟩ := id I
  obtain ⟨x, r', V', ⟨f1, s1, e1⟩, hm⟩ := P h f (rv f 117) I F T V rfl
  rw [ww_rv] at e1
  have q1 : RS f (ww f1 117 r') := s1.rs.trans RS.ww
  have e234 : (ww f1 117 r') 234 = f 234 := by funext k; rw [ww_out (by decide)]; exact s1 234 k rfl
  have T1 : TB (ww f1 117 r') := TB_of (fun a k ha => by rw [ww_out (by omega)]) (s1.tb T)
  have er : mw (ww f1 117 r') 234 (rv f 117) = ww f1 117 r' := by
    have := mw_rm (ww f1 117 r') 234
    rwa [rm_eq e234, em] at this
  obtain ⟨f2, s2, e2⟩ := hm (ww f1 117 r') q1 T1
  rw [er] at e2
  have q2 : RS f (mw f2 234 r') := (q1.trans s2.rs).trans RS.mw
  have v2 : rv (mw f2 234 r') 117 = r' := by
    rw [rv_eq (g := ww f1 117 r') (fun a k h1 h2 => by
      rw [mw_out (by omega)]
      exact s2 a k (scr_lt (by omega))), rv_ww V'.z]
  refine ⟨x, wI h (ww f1 117 r'), h, mw f2 234 r', e1, e2, ⟨F, TB_of (fun a k ha => mw_out (by omega)) (s2.tb T1), ?_, ?_, (R.rs q2).mono (by omega)⟩, q2.fix⟩
  · rw [v2]; exact V'
  · rw [v2, rm_mw V'.z]
def jk (P q : Nat → Int32) : Nat → Nat → Int32
  | 0, _ => nI 0
  | j + 1, k => if P k = q k then jk P q j (k + 1) else nI (k / 3 + 1)
theorem judge_in (F : FR h) (X : Nat → Nat → Int32) (ρ : Nat → Int32) (s i t : Nat) (hs : s < 8) (hi : i < 10) (ht : t < 3) (d : Nat) (hd : 2 ≤ d) (Q : Option Value → PH → Prop) :
    WP d 481 3 [.ref 100, .int (nI s), .int (nI i), .int (nI t)] [] (wI h (ww X 145 ρ)) Q = if X 108 (3 * i + t) = rpt ρ s t then WP d 481 3 [.ref 100, .int (nI s), .int (nI i), .int (nI (t + 1))] [] (wI h (ww X 145 ρ)) Q else Q (some (.int (nI (i + 1)))) (wI h (ww X 145 ρ)) := by
  have w := F.w145
  have g : ¬ 3 ≤ t := by omega
  have e1 : i * 3 + t = 3 * i + t := by omega
  have e2 : ww X 145 ρ 108 (3 * i + t) = X 108 (3 * i + t) := ww_out (by omega)
  rw [w_481_3]
  by_cases hz : X 108 (3 * i + t) = rpt ρ s t
  · rw [if_pos hz]
    simp -implicitDefEqProofs (disch := first | omega | (simp (disch := omega) only [nb_upr]; omega)) only [w_481_4, zi_88, zi_122, zi_66, zi_37, zi_67w1, zi_67w2, zi_0, zi_0n, zi_90, zi_92, zi_102, zi_31, zi_32i, zi_32r, zi_32u, zi_32a, zi_113, zi_34, zi_283, zi_195, zi_160, zi_111i, zi_111r, zi_111u, zi_111a, zi_75, zi_63, zi_54, zi_166, zi_279, zi_79, zi_70, zi_106, zi_280, zi_239, zi_48, zi_158i, zi_158r, zi_158u, zi_158a, zi_86, zi_39i, zi_39r, zi_39u, zi_39a, zi_112, F.t100, F.r100_2, F.r100_9, F.t108, F.l108, w.t, kC_eq, toL_s, toL_n, okS0, okS1, okS2, okS3, okS4, okS5, true_and, and_true, hT_wI, hL_wI, hR_wI, hI_wI, hJ_wI, sI_wI, rfP, isIA_100, isIA_120, inb_ok, nI_clamp, nI_add, nI_mul, ↓reduceIte, not_false_eq_true, not_true_eq_false, true_or, or_true, ↓bI_01, ↓b01_0, ↓b01_1, bI_0, z00, z10, n4, n5, n2, n8, Nat.reduceMul, Nat.reduceAdd, Nat.reduceLT, Nat.reduceLeDiff, nI_eq, nI_leI, nI_ltI, Nat.reduceEqDiff, pk_div, nI_sub, Nat.reduceDiv, Nat.reduceSub, g, e1, e2, e_rowPart' _ 145 h _ _ w s t hs ht, hz]
  · rw [if_neg hz]
    simp -implicitDefEqProofs (disch := first | omega | (simp (disch := omega) only [nb_upr]; omega)) only [w_481_4, zi_88, zi_122, zi_66, zi_37, zi_67w1, zi_67w2, zi_0, zi_0n, zi_90, zi_92, zi_102, zi_31, zi_32i, zi_32r, zi_32u, zi_32a, zi_113, zi_34, zi_283, zi_195, zi_160, zi_111i, zi_111r, zi_111u, zi_111a, zi_75, zi_63, zi_54, zi_166, zi_279, zi_79, zi_70, zi_106, zi_280, zi_239, zi_48, zi_158i, zi_158r, zi_158u, zi_158a, zi_86, zi_39i, zi_39r, zi_39u, zi_39a, zi_112, F.t100, F.r100_2, F.r100_9, F.t108, F.l108, w.t, kC_eq, toL_s, toL_n, okS0, okS1, okS2, okS3, okS4, okS5, true_and, and_true, hT_wI, hL_wI, hR_wI, hI_wI, hJ_wI, sI_wI, rfP, isIA_100, isIA_120, inb_ok, nI_clamp, nI_add, nI_mul, ↓reduceIte, not_false_eq_true, not_true_eq_false, true_or, or_true, ↓bI_01, ↓b01_0, ↓b01_1, bI_0, z00, z10, n4, n5, n2, n8, Nat.reduceMul, Nat.reduceAdd, Nat.reduceLT, Nat.reduceLeDiff, nI_eq, nI_leI, nI_ltI, Nat.reduceEqDiff, pk_div, nI_sub, Nat.reduceDiv, Nat.reduceSub, g, e1, e2, e_rowPart' _ 145 h _ _ w s t hs ht, hz]
theorem judge_loop (F : FR h) (V : Vr n r) (X : Nat → Nat → Int32) (s m : Nat) (hs : s < 8) (hm : m ≤ 10) (hX : X 100 11 = nI m) (d : Nat) (hd : 3 ≤ d) :
    ∀ (j i : Nat) (v3 : Value), i + j = m → ∃ ρ, ∀ Q, WP d 481 2 [.ref 100, .int (nI s), .int (nI i), v3] [] (wI h (ww X 145 (bel r i))) Q = Q (some (.int (jk (X 108) (rpk r s) (3 * j) (3 * i)))) (wI h (ww X 145 ρ)) := by
  intro j
  induction j with
  | zero =>
    intro i v3 hi
    obtain rfl : i = m := by omega
    refine ⟨bel r i, fun Q => ?_⟩
    have e2 : ww X 145 (bel r i) 100 11 = nI i := by rw [ww_out (by omega), hX]
    rw [w_481_2]
    simp -implicitDefEqProofs (disch := first | omega | (simp (disch := omega) only [nb_upr]; omega)) only [w_481_6, zi_88, zi_122, zi_66, zi_37, zi_67w1, zi_67w2, zi_0, zi_0n, zi_90, zi_92, zi_102, zi_31, zi_32i, zi_32r, zi_32u, zi_32a, zi_113, zi_34, zi_283, zi_195, zi_160, zi_111i, zi_111r, zi_111u, zi_111a, zi_75, zi_63, zi_54, zi_166, zi_279, zi_79, zi_70, zi_106, zi_280, zi_239, zi_48, zi_158i, zi_158r, zi_158u, zi_158a, zi_86, zi_39i, zi_39r, zi_39u, zi_39a, zi_112, F.t100, kC_eq, toL_s, toL_n, okS0, okS1, okS2, okS3, okS4, okS5, true_and, and_true, hT_wI, hL_wI, hR_wI, hI_wI, hJ_wI, sI_wI, rfP, isIA_100, isIA_120, inb_ok, nI_clamp, nI_add, nI_mul, ↓reduceIte, not_false_eq_true, not_true_eq_false, true_or, or_true, ↓bI_01, ↓b01_0, ↓b01_1, bI_0, z00, z10, n4, n5, n2, n8, Nat.reduceMul, Nat.reduceAdd, Nat.reduceLT, Nat.reduceLeDiff, nI_eq, nI_leI, nI_ltI, Nat.reduceEqDiff, pk_div, nI_sub, Nat.reduceDiv, Nat.reduceSub, Nat.le_refl, e2]
    rfl
  | succ j ih0 =>
    intro i v3 hi
    have w := F.w145
    have g : ¬ m ≤ i := by omega
    have e2 : ww X 145 (bel r i) 100 11 = nI m := by rw [ww_out (by omega), hX]
    obtain ⟨ρ, ih⟩ := ih0 (i + 1) (.int (nI 3)) (by omega)
    have hd0 : ∀ Q, WP d 481 2 [.ref 100, .int (nI s), .int (nI i), v3] [] (wI h (ww X 145 (bel r i))) Q = WP d 481 3 [.ref 100, .int (nI s), .int (nI i), .int (nI 0)] [] (wI h (ww X 145 (bel r (i + 1)))) Q := fun Q => by
      rw [w_481_2]
      simp -implicitDefEqProofs (disch := first | omega | (simp (disch := omega) only [nb_upr]; omega)) only [zi_88, zi_122, zi_66, zi_37, zi_67w1, zi_67w2, zi_0, zi_0n, zi_90, zi_92, zi_102, zi_31, zi_32i, zi_32r, zi_32u, zi_32a, zi_113, zi_34, zi_283, zi_195, zi_160, zi_111i, zi_111r, zi_111u, zi_111a, zi_75, zi_63, zi_54, zi_166, zi_279, zi_79, zi_70, zi_106, zi_280, zi_239, zi_48, zi_158i, zi_158r, zi_158u, zi_158a, zi_86, zi_39i, zi_39r, zi_39u, zi_39a, zi_112, F.t100, F.r100_2, w.t, kC_eq, toL_s, toL_n, okS0, okS1, okS2, okS3, okS4, okS5, true_and, and_true, hT_wI, hL_wI, hR_wI, hI_wI, hJ_wI, sI_wI, rfP, isIA_100, isIA_120, inb_ok, nI_clamp, nI_add, nI_mul, ↓reduceIte, not_false_eq_true, not_true_eq_false, true_or, or_true, ↓bI_01, ↓b01_0, ↓b01_1, bI_0, z00, z10, n4, n5, n2, n8, Nat.reduceMul, Nat.reduceAdd, Nat.reduceLT, Nat.reduceLeDiff, nI_eq, nI_leI, nI_ltI, Nat.reduceEqDiff, pk_div, nI_sub, Nat.reduceDiv, Nat.reduceSub, g, e2, e_ring _ 145 h _ _ w (Vr_bel V i).vs]
      rfl
    have p3 : ∀ Q, WP d 481 3 [.ref 100, .int (nI s), .int (nI i), .int (nI (2 + 1))] [] (wI h (ww X 145 (bel r (i + 1)))) Q = WP d 481 2 [.ref 100, .int (nI s), .int (nI (i + 1)), .int (nI 3)] [] (wI h (ww X 145 (bel r (i + 1)))) Q := fun Q => by
      rw [w_481_3]
      simp -implicitDefEqProofs (disch := first | omega | (simp (disch := omega) only [nb_upr]; omega)) only [w_481_5, zi_88, zi_122, zi_66, zi_37, zi_67w1, zi_67w2, zi_0, zi_0n, zi_90, zi_92, zi_102, zi_31, zi_32i, zi_32r, zi_32u, zi_32a, zi_113, zi_34, zi_283, zi_195, zi_160, zi_111i, zi_111r, zi_111u, zi_111a, zi_75, zi_63, zi_54, zi_166, zi_279, zi_79, zi_70, zi_106, zi_280, zi_239, zi_48, zi_158i, zi_158r, zi_158u, zi_158a, zi_86, zi_39i, zi_39r, zi_39u, zi_39a, zi_112, kC_eq, toL_s, toL_n, okS0, okS1, okS2, okS3, okS4, okS5, true_and, and_true, hT_wI, hL_wI, hR_wI, hI_wI, hJ_wI, sI_wI, rfP, isIA_100, isIA_120, inb_ok, nI_clamp, nI_add, nI_mul, ↓reduceIte, not_false_eq_true, not_true_eq_false, true_or, or_true, ↓bI_01, ↓b01_0, ↓b01_1, bI_0, z00, z10, n4, n5, n2, n8, Nat.reduceMul, Nat.reduceAdd, Nat.reduceLT, Nat.reduceLeDiff, nI_eq, nI_leI, nI_ltI, Nat.reduceEqDiff, pk_div, nI_sub, Nat.reduceDiv, Nat.reduceSub, Nat.le_refl]
    have ej : jk (X 108) (rpk r s) (3 * (j + 1)) (3 * i) = if X 108 (3 * i) = rpk r s (3 * i) then (if X 108 (3 * i + 1) = rpk r s (3 * i + 1) then (if X 108 (3 * i + 2) = rpk r s (3 * i + 2) then jk (X 108) (rpk r s) (3 * j) (3 * (i + 1)) else nI ((3 * i + 2) / 3 + 1)) else nI ((3 * i + 1) / 3 + 1)) else nI (3 * i / 3 + 1) := rfl
    have d0 : 3 * i / 3 = i := by omega
    have d1 : (3 * i + 1) / 3 = i := by omega
    have d2 : (3 * i + 2) / 3 = i := by omega
    rw [d0, d1, d2] at ej
    have q0 : rpk r s (3 * i) = rpt (bel r (i + 1)) s 0 := rpk_e (i := i) (t := 0) (by decide)
    have q1 : rpk r s (3 * i + 1) = rpt (bel r (i + 1)) s 1 := rpk_e (by decide)
    have q2 : rpk r s (3 * i + 2) = rpt (bel r (i + 1)) s 2 := rpk_e (by decide)
    have i0 := fun Q => judge_in F X (bel r (i + 1)) s i 0 hs (by omega) (by decide) d (by omega) Q
    have i1 := fun Q => judge_in F X (bel r (i + 1)) s i 1 hs (by omega) (by decide) d (by omega) Q
    have i2 := fun Q => judge_in F X (bel r (i + 1)) s i 2 hs (by omega) (by decide) d (by omega) Q
    by_cases z0 : X 108 (3 * i) = rpk r s (3 * i)
    · rw [if_pos z0] at ej
      have z0' : X 108 (3 * i + 0) = rpt (bel r (i + 1)) s 0 := by rw [← q0]; exact z0
      by_cases z1 : X 108 (3 * i + 1) = rpk r s (3 * i + 1)
      · rw [if_pos z1] at ej
        rw [q1] at z1
        by_cases z2 : X 108 (3 * i + 2) = rpk r s (3 * i + 2)
        · rw [if_pos z2] at ej
          rw [q2] at z2
          refine ⟨ρ, fun Q => ?_⟩
          rw [hd0, i0, if_pos z0', i1, if_pos z1, i2, if_pos z2, p3, ih, ej]
        · rw [if_neg z2] at ej
          rw [q2] at z2
          refine ⟨bel r (i + 1), fun Q => ?_⟩
          rw [hd0, i0, if_pos z0', i1, if_pos z1, i2, if_neg z2, ej]
      · rw [if_neg z1] at ej
        rw [q1] at z1
        refine ⟨bel r (i + 1), fun Q => ?_⟩
        rw [hd0, i0, if_pos z0', i1, if_neg z1, ej]
    · rw [if_neg z0] at ej
      have z0' : ¬ X 108 (3 * i + 0) = rpt (bel r (i + 1)) s 0 := by rw [← q0]; exact z0
      refine ⟨bel r (i + 1), fun Q => ?_⟩
      rw [hd0, i0, if_neg z0', ej]
theorem mjudge_loop (F : FR h) (s : Int32) (m : Nat) (hm : m ≤ 10) (G : Nat → Nat → Int32) (hG : G 233 23 = nI m) (d : Nat) (Q : Option Value → PH → Prop) :
    ∀ (j k : Nat), k + j = 3 * m → WP d 1337 2 [.ref 233, .int s, .int (nI k)] [] (wI h G) Q = Q (some (.int (jk (G 244) (G 245) j k))) (wI h G) := by
  intro j
  induction j with
  | zero =>
    intro k hk
    obtain rfl : k = 3 * m := by omega
    rw [w_1337_2]
    simp -implicitDefEqProofs (disch := first | omega | (simp (disch := omega) only [nb_upr]; omega)) only [w_1337_4, zi_88, zi_454, zi_98, zi_37, zi_67w1, zi_67w2, zi_0, zi_0n, zi_542, zi_537, zi_31, zi_32i, zi_32r, zi_32u, zi_32a, zi_113, zi_34, zi_54, zi_79, zi_77, zi_538, zi_106, zi_539, zi_543, zi_238, zi_48, zi_70, zi_39i, zi_39r, zi_39u, zi_39a, zi_112, F.t233, kC_eq, toL_s, toL_n, okS0, okS1, okS2, okS3, okS4, okS5, true_and, and_true, hT_wI, hL_wI, hR_wI, hI_wI, hJ_wI, sI_wI, rfP, isIA_100, isIA_120, inb_ok, nI_clamp, nI_add, nI_mul, ↓reduceIte, not_false_eq_true, not_true_eq_false, true_or, or_true, ↓bI_01, ↓b01_0, ↓b01_1, bI_0, z00, z10, n4, n5, n2, n8, Nat.reduceMul, Nat.reduceAdd, Nat.reduceLT, Nat.reduceLeDiff, nI_eq, nI_leI, nI_ltI, Nat.reduceEqDiff, pk_div, nI_sub, Nat.reduceDiv, Nat.reduceSub, Nat.le_refl, hG]
    rfl
  | succ j ih0 =>
    intro k hk
    have g : ¬ 3 * m ≤ k := by omega
    have ih := ih0 (k + 1) (by omega)
    have ej : jk (G 244) (G 245) (j + 1) k = if G 244 k = G 245 k then jk (G 244) (G 245) j (k + 1) else nI (k / 3 + 1) := rfl
    have z3 : (nI 3 = (0 : Int32)) = False := eq_false (by decide)
    rw [ej, w_1337_2]
    by_cases z : G 244 k = G 245 k
    · rw [if_pos z]
      simp -implicitDefEqProofs (disch := first | omega | (simp (disch := omega) only [nb_upr]; omega)) only [w_1337_3, zi_88, zi_454, zi_98, zi_37, zi_67w1, zi_67w2, zi_0, zi_0n, zi_542, zi_537, zi_31, zi_32i, zi_32r, zi_32u, zi_32a, zi_113, zi_34, zi_54, zi_79, zi_77, zi_538, zi_106, zi_539, zi_543, zi_238, zi_48, zi_70, zi_39i, zi_39r, zi_39u, zi_39a, zi_112, F.t233, F.r233_21, F.t244, F.l244, F.r233_22, F.t245, F.l245, kC_eq, toL_s, toL_n, okS0, okS1, okS2, okS3, okS4, okS5, true_and, and_true, hT_wI, hL_wI, hR_wI, hI_wI, hJ_wI, sI_wI, rfP, isIA_100, isIA_120, inb_ok, nI_clamp, nI_add, nI_mul, ↓reduceIte, not_false_eq_true, not_true_eq_false, true_or, or_true, ↓bI_01, ↓b01_0, ↓b01_1, bI_0, z00, z10, n4, n5, n2, n8, Nat.reduceMul, Nat.reduceAdd, Nat.reduceLT, Nat.reduceLeDiff, nI_eq, nI_leI, nI_ltI, Nat.reduceEqDiff, pk_div, nI_sub, Nat.reduceDiv, Nat.reduceSub, g, hG, z]
      exact ih
    · rw [if_neg z]
      simp -implicitDefEqProofs (disch := first | omega | (simp (disch := omega) only [nb_upr]; omega)) only [zi_88, zi_454, zi_98, zi_37, zi_67w1, zi_67w2, zi_0, zi_0n, zi_542, zi_537, zi_31, zi_32i, zi_32r, zi_32u, zi_32a, zi_113, zi_34, zi_54, zi_79, zi_77, zi_538, zi_106, zi_539, zi_543, zi_238, zi_48, zi_70, zi_39i, zi_39r, zi_39u, zi_39a, zi_112, F.t233, F.r233_21, F.t244, F.l244, F.r233_22, F.t245, F.l245, kC_eq, toL_s, toL_n, okS0, okS1, okS2, okS3, okS4, okS5, true_and, and_true, hT_wI, hL_wI, hR_wI, hI_wI, hJ_wI, sI_wI, rfP, isIA_100, isIA_120, inb_ok, nI_clamp, nI_add, nI_mul, ↓reduceIte, not_false_eq_true, not_true_eq_false, true_or, or_true, ↓bI_01, ↓b01_0, ↓b01_1, bI_0, z00, z10, n4, n5, n2, n8, Nat.reduceMul, Nat.reduceAdd, Nat.reduceLT, Nat.reduceLeDiff, nI_eq, nI_leI, nI_ltI, Nat.reduceEqDiff, pk_div, nI_sub, Nat.reduceDiv, Nat.reduceSub, g, hG, z, z3]
theorem jk_eq {P P' q q' : Nat → Int32} {M : Nat} (h1 : ∀ k, k < M → P k = P' k) (h2 : ∀ k, k < M → q k = q' k) : ∀ j k, k + j ≤ M → jk P q j k = jk P' q' j k
  | 0, _, _ => rfl
  | j + 1, k, hk => by
    show (if P k = q k then jk P q j (k + 1) else nI (k / 3 + 1)) = (if P' k = q' k then jk P' q' j (k + 1) else nI (k / 3 + 1))
    rw [h1 k (by omega), h2 k (by omega), jk_eq h1 h2 j (k + 1) (by omega)]
theorem c_judge (n : Nat) (s : Int32) : CALL 481 1337 [.int s] n := by
  refine call_ofF (fun h f r I F T V hrv => ?_)
  obtain ⟨m, m1, m2, m3, m4⟩ := I.2.2.2.2.2.2.1
  by_cases c1 : s < nI 0 ∨ nI 7 < s
  · exact ⟨.int (Int32.ofInt (-1)), r, V.mono (by omega), ⟨f, ScC.refl f, fun Q => by simp -implicitDefEqProofs (disch := first | omega | (simp (disch := omega) only [nb_upr]; omega)) only [R_481, w_481_0, zi_88, zi_122, zi_66, zi_37, zi_67w1, zi_67w2, zi_0, zi_0n, zi_90, zi_92, zi_102, zi_31, zi_32i, zi_32r, zi_32u, zi_32a, zi_113, zi_34, zi_283, zi_195, zi_160, zi_111i, zi_111r, zi_111u, zi_111a, zi_75, zi_63, zi_54, zi_166, zi_279, zi_79, zi_70, zi_106, zi_280, zi_239, zi_48, zi_158i, zi_158r, zi_158u, zi_158a, zi_86, zi_39i, zi_39r, zi_39u, zi_39a, zi_112, kC_eq, toL_s, toL_n, okS0, okS1, okS2, okS3, okS4, okS5, true_and, and_true, hT_wI, hL_wI, hR_wI, hI_wI, hJ_wI, sI_wI, rfP, isIA_100, isIA_120, inb_ok, nI_clamp, nI_add, nI_mul, ↓reduceIte, not_false_eq_true, not_true_eq_false, true_or, or_true, ↓bI_01, ↓b01_0, ↓b01_1, bI_0, z00, z10, n4, n5, n2, n8, Nat.reduceMul, Nat.reduceAdd, Nat.reduceLT, Nat.reduceLeDiff, e_noStreet, c1]⟩, fun g _ _ => ⟨g, Sc.refl g, fun Q => by simp -implicitDefEqProofs (disch := first | omega | (simp (disch := omega) only [nb_upr]; omega)) only [R_1337, w_1337_0, zi_88, zi_454, zi_98, zi_37, zi_67w1, zi_67w2, zi_0, zi_0n, zi_542, zi_537, zi_31, zi_32i, zi_32r, zi_32u, zi_32a, zi_113, zi_34, zi_54, zi_79, zi_77, zi_538, zi_106, zi_539, zi_543, zi_238, zi_48, zi_70, zi_39i, zi_39r, zi_39u, zi_39a, zi_112, kC_eq, toL_s, toL_n, okS0, okS1, okS2, okS3, okS4, okS5, true_and, and_true, hT_wI, hL_wI, hR_wI, hI_wI, hJ_wI, sI_wI, rfP, isIA_100, isIA_120, inb_ok, nI_clamp, nI_add, nI_mul, ↓reduceIte, not_false_eq_true, not_true_eq_false, true_or, or_true, ↓bI_01, ↓b01_0, ↓b01_1, bI_0, z00, z10, n4, n5, n2, n8, Nat.reduceMul, Nat.reduceAdd, Nat.reduceLT, Nat.reduceLeDiff, e_isStreet, c1]⟩⟩
  obtain ⟨s, -, hs7, rfl⟩ := btw (by decide) (by decide) c1
  have hn := F.r100_0
  refine ⟨.int (jk (f 108) (rpk r s) (3 * m) 0), r, V.mono (by omega), ?_, fun g hg Tg => ?_⟩
  · obtain ⟨X, H, ec⟩ := copyT (f := f) F rfl V.z XT.refl
    have X108 : X 108 = f 108 := by funext k; rw [H 108 k (by omega), ww_out (by omega)]
    obtain ⟨ρ, el⟩ := judge_loop F V X s m (by omega) m1 (by rw [H 100 11 (by omega), ww_out (by omega)]; exact m2) 30 (by decide) m 0 (.retAddr 0) (by omega)
    obtain ⟨sc, eg⟩ := (H.wt ρ).fin rfl V.z
    refine ⟨ww X 145 ρ, sc, fun Q => ?_⟩
    rw [eg]
    rw [X108] at el
    refine Eq.trans ?_ (el Q)
    simp -implicitDefEqProofs (disch := first | omega | (simp (disch := omega) only [nb_upr]; omega)) only [R_481, w_481_0, w_481_1, zi_88, zi_122, zi_66, zi_37, zi_67w1, zi_67w2, zi_0, zi_0n, zi_90, zi_92, zi_102, zi_31, zi_32i, zi_32r, zi_32u, zi_32a, zi_113, zi_34, zi_283, zi_195, zi_160, zi_111i, zi_111r, zi_111u, zi_111a, zi_75, zi_63, zi_54, zi_166, zi_279, zi_79, zi_70, zi_106, zi_280, zi_239, zi_48, zi_158i, zi_158r, zi_158u, zi_158a, zi_86, zi_39i, zi_39r, zi_39u, zi_39a, zi_112, kC_eq, toL_s, toL_n, okS0, okS1, okS2, okS3, okS4, okS5, true_and, and_true, hT_wI, hL_wI, hR_wI, hI_wI, hJ_wI, sI_wI, rfP, isIA_100, isIA_120, inb_ok, nI_clamp, nI_add, nI_mul, ↓reduceIte, not_false_eq_true, not_true_eq_false, true_or, or_true, ↓bI_01, ↓b01_0, ↓b01_1, bI_0, z00, z10, n4, n5, n2, n8, Nat.reduceMul, Nat.reduceAdd, Nat.reduceLT, Nat.reduceLeDiff, F.t100, hn, F.r100_2, F.w145.t, e_noStreet, c1, ec]
    rfl
  · obtain ⟨g', sc, hmust, ef⟩ := e_findRows F V s m (by omega) m1 29 (by decide) g
    refine ⟨g', sc, fun Q => ?_⟩
    have g23 : mw g 234 r 233 23 = nI m := by rw [mw_out (by decide), hg 233 23 rfl rfl]; exact m3
    have g23' : mw g' 234 r 233 23 = nI m := by rw [mw_out (by decide), sc 233 23 rfl, hg 233 23 rfl rfl]; exact m3
    have el := mjudge_loop F (nI s) m m1 (mw g' 234 r) g23' 30 Q (3 * m) 0 (by omega)
    have ej : jk (mw g' 234 r 244) (mw g' 234 r 245) (3 * m) 0 = jk (f 108) (rpk r s) (3 * m) 0 := jk_eq (M := 3 * m) (fun k hk => by
      rw [mw_out (by decide), sc 244 k rfl, hg 244 k rfl rfl]; exact m4 k hk) (fun k hk => by rw [mw_out (by decide)]; exact hmust k hk) (3 * m) 0 (by omega)
    rw [ej] at el
    rw [← el]
    simp -implicitDefEqProofs (disch := first | omega | (simp (disch := omega) only [nb_upr]; omega)) only [R_1337, w_1337_0, w_1337_1, zi_88, zi_454, zi_98, zi_37, zi_67w1, zi_67w2, zi_0, zi_0n, zi_542, zi_537, zi_31, zi_32i, zi_32r, zi_32u, zi_32a, zi_113, zi_34, zi_54, zi_79, zi_77, zi_538, zi_106, zi_539, zi_543, zi_238, zi_48, zi_70, zi_39i, zi_39r, zi_39u, zi_39a, zi_112, F.t233, kC_eq, toL_s, toL_n, okS0, okS1, okS2, okS3, okS4, okS5, true_and, and_true, hT_wI, hL_wI, hR_wI, hI_wI, hJ_wI, sI_wI, rfP, isIA_100, isIA_120, inb_ok, nI_clamp, nI_add, nI_mul, ↓reduceIte, not_false_eq_true, not_true_eq_false, true_or, or_true, ↓bI_01, ↓b01_0, ↓b01_1, bI_0, z00, z10, n4, n5, n2, n8, Nat.reduceMul, Nat.reduceAdd, Nat.reduceLT, Nat.reduceLeDiff, Nat.reduceSub, e_isStreet, c1, g23, ef]
end
