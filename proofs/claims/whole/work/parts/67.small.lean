section
/-! calls that touch what lies beside the row: keep, again, row, alterRow, trace, many -/
variable {n : Nat} {h : PH} {f g : Nat → Nat → Int32}
theorem up2_out {f : Nat → Nat → Int32} {c q a k : Nat} {x : Int32} (h : ¬ (a = c ∧ k = q)) : up2 f c q x a k = f a k := if_neg h
def kK (a k : Nat) : Prop := (a = 100 ∧ k = 12) ∨ (a = 233 ∧ k = 5) ∨ (131 ≤ a ∧ a < 145) ∨ a = 236
def kT (a k : Nat) : Prop := (a = 101 ∧ k = 1) ∨ (a = 233 ∧ k = 7) ∨ a = 102 ∨ a = 239
def kR (a k : Nat) : Prop := (a = 100 ∧ k = 11) ∨ (a = 233 ∧ k = 23) ∨ a = 108 ∨ a = 244
def kE (a k : Nat) : Prop := (a = 103 ∧ k = 1) ∨ (a = 233 ∧ k = 34) ∨ a = 104 ∨ a = 252
def kS (a : Nat) : Prop := a = 246 ∨ a = 247 ∨ 253 ≤ a
def kV (a : Nat) : Prop := a = 106 ∨ a = 249 ∨ a = 250 ∨ a = 251 ∨ 253 ≤ a
theorem KEEP.of (H : KEEP n f) (e : ∀ a k, kK a k → g a k = f a k) : KEEP n g := by
  rcases H with ⟨k1, k2⟩ | ⟨k1, k2, k3, k4⟩
  · exact Or.inl ⟨(e 100 12 (Or.inl ⟨rfl, rfl⟩)).trans k1, (e 233 5 (Or.inr (Or.inl ⟨rfl, rfl⟩))).trans k2⟩
  · have ev : rv g 131 = rv f 131 := rv_eq (fun a k h1 h2 => e a k (by unfold kK; omega))
    have em : rm g 236 = rm f 236 := rm_eq (by funext k; exact e 236 k (by unfold kK; omega))
    exact Or.inr ⟨(e 100 12 (Or.inl ⟨rfl, rfl⟩)).trans k1, (e 233 5 (Or.inr (Or.inl ⟨rfl, rfl⟩))).trans k2, by rw [ev]; exact k3, by rw [ev, em]; exact k4⟩
theorem TAPE.of (H : TAPE f) (e : ∀ a k, kT a k → g a k = f a k) : TAPE g := by
  obtain ⟨t, t1, t2, t3, t4⟩ := H
  exact ⟨t, t1, (e 101 1 (by unfold kT; omega)).trans t2, (e 233 7 (by unfold kT; omega)).trans t3, fun k hk => by rw [e 239 k (by unfold kT; omega), e 102 k (by unfold kT; omega)]; exact t4 k hk⟩
theorem ROWS.of (H : ROWS f) (e : ∀ a k, kR a k → g a k = f a k) : ROWS g := by
  obtain ⟨t, t1, t2, t3, t4⟩ := H
  exact ⟨t, t1, (e 100 11 (by unfold kR; omega)).trans t2, (e 233 23 (by unfold kR; omega)).trans t3, fun k hk => by rw [e 244 k (by unfold kR; omega), e 108 k (by unfold kR; omega)]; exact t4 k hk⟩
theorem TRACE.of (H : TRACE f) (e : ∀ a k, kE a k → g a k = f a k) : TRACE g := by
  obtain ⟨t, t1, t2, t3, t4⟩ := H
  exact ⟨t, t1, (e 103 1 (by unfold kE; omega)).trans t2, (e 233 34 (by unfold kE; omega)).trans t3, fun k hk => by rw [e 252 k (by unfold kE; omega), e 104 k (by unfold kE; omega)]; exact t4 k hk⟩
theorem Sht.of {c l t m : Nat} (H : Sht h f c l t m) (e : ∀ a k, 253 ≤ a → g a k = f a k) : Sht h g c l t m := ⟨H.1, H.2.1, H.2.2.1, (e c 0 H.1).trans H.2.2.2.1, H.2.2.2.2⟩
theorem SHEETS.of (H : SHEETS h f) (e : ∀ a k, kS a → g a k = f a k) : SHEETS h g := by
  refine ⟨H.1, fun s hs => ?_, H.2.2⟩
  rcases H.2.1 s hs with ⟨z1, z2⟩ | ⟨c, l, t, m, z1, z2, z3, z4, z5⟩
  · exact Or.inl ⟨z1, (e 246 s (by unfold kS; omega)).trans z2⟩
  · exact Or.inr ⟨c, l, t, m, z1, z2.of (fun a k ha => e a k (by unfold kS; omega)), (e 246 s (by unfold kS; omega)).trans z3, (e 247 s (by unfold kS; omega)).trans z4, z5⟩
theorem SHELVES.of (H : SHELVES h f) (e : ∀ a k, kV a → g a k = f a k) : SHELVES h g := by
  intro s hs
  rcases H s hs with ⟨z1, z2, z3⟩ | ⟨β, z0, z1, z2, z3, z4⟩ | ⟨c, l, t, m, z1, z2, z3, z4, z5, z6⟩
  · exact Or.inl ⟨(e 106 s (by unfold kV; omega)).trans z1, z2, (e 249 s (by unfold kV; omega)).trans z3⟩
  · exact Or.inr (Or.inl ⟨β, z0, (e 106 s (by unfold kV; omega)).trans z1, z2, (e 249 s (by unfold kV; omega)).trans z3, (e 250 s (by unfold kV; omega)).trans z4⟩)
  · exact Or.inr (Or.inr ⟨c, l, t, m, (e 106 s (by unfold kV; omega)).trans z1, z2, z3.of (fun a k ha => e a k (by unfold kV; omega)), (e 249 s (by unfold kV; omega)).trans z4, (e 250 s (by unfold kV; omega)).trans z5, (e 251 s (by unfold kV; omega)).trans z6⟩)
theorem FIX.refl (h : PH) (f : Nat → Nat → Int32) : FIX h h f f := ⟨fun _ _ _ => rfl, rfl, rfl, by omega, by omega, by omega, by omega⟩
theorem FIX.ints (e : ∀ a k, a < 6 → g a k = f a k) : FIX h h f g := ⟨e, rfl, rfl, by omega, by omega, by omega, by omega⟩
theorem INVf.mono {m : Nat} (H : INVf n h f) (hm : n ≤ m) : INVf m h f := ⟨H.1, H.2.1, H.2.2.1.mono hm, H.2.2.2.1, H.2.2.2.2.mono hm⟩
/-- a call that changes nothing -/
theorem call_same {mc mm : Nat} {args : List Value} {n : Nat} (P : ∀ (h : PH) (f : Nat → Nat → Int32) (r : Nat → Int32), INVf n h f → FR h → TB f → Vr n r → ww f 117 r = f → mw f 234 r = f → ∃ x, (∀ Q, Run 30 mc (.ref 100 :: args) (wI h f) Q = Q (some x) (wI h f)) ∧ (∀ Q, Run 30 mm (.ref 233 :: args) (wI h f) Q = Q (some x) (wI h f))) : CALL mc mm args n := by
  intro h f I
  obtain ⟨x, e1, e2⟩ := P h f (rv f 117) I I.1 I.2.1 I.2.2.1 (ww_rv f 117) (by rw [← I.2.2.2.1, mw_rm])
  exact ⟨x, wI h f, h, f, e1, e2, I.mono (by omega), FIX.refl h f⟩
theorem c_keep (n : Nat) : CALL 568 1552 [] n := by
  rintro h f ⟨F, T, V, em, hk, ht, hr, he, hs, hv⟩
  have e234 : rm (up2 (cpW f 131 117) 100 12 (nI 1)) 234 = rm f 234 := rm_eq (by funext k; rw [up2_out (by omega), cpW_out (by omega)])
  have e131 : rv (up2 (cpf (up2 (cpW f 131 117) 100 12 (nI 1)) 234 236 136) 233 5 (nI 1)) 131 = rv f 117 := by
    rw [rv_eq (g := cpW f 131 117) (fun a k h1 h2 => by simp (disch := omega) only [up2_out, cpf_ne]), rv_cpW]
  have e236 : rm (up2 (cpf (up2 (cpW f 131 117) 100 12 (nI 1)) 234 236 136) 233 5 (nI 1)) 236 = rv f 117 := by
    rw [rm_eq (g := cpf (up2 (cpW f 131 117) 100 12 (nI 1)) 234 236 136) (by funext k; simp (disch := omega) only [up2_out]), rm_cpf, e234, em]
  have off : ∀ a k, ¬ kK a k → up2 (cpf (up2 (cpW f 131 117) 100 12 (nI 1)) 234 236 136) 233 5 (nI 1) a k = f a k := fun a k ha => by
    unfold kK at ha
    simp (disch := omega) only [up2_out, cpf_ne, cpW_out]
  have v117 : rv (up2 (cpf (up2 (cpW f 131 117) 100 12 (nI 1)) 234 236 136) 233 5 (nI 1)) 117 = rv f 117 := rv_eq (fun a k h1 h2 => off a k (by unfold kK; omega))
  have m234 : rm (up2 (cpf (up2 (cpW f 131 117) 100 12 (nI 1)) 234 236 136) 233 5 (nI 1)) 234 = rm f 234 := rm_eq (by funext k; exact off 234 k (by unfold kK; omega))
  refine ⟨.int (nI 1), wI h (up2 (cpW f 131 117) 100 12 (nI 1)), h, up2 (cpf (up2 (cpW f 131 117) 100 12 (nI 1)) 234 236 136) 233 5 (nI 1), fun Q => ?_, fun Q => ?_, ⟨F, TB_of (fun a k ha => off a k (by unfold kK; omega)) T, ?_, ?_, ?_, ht.of (fun a k ha => off a k (by unfold kT at ha; unfold kK; omega)), hr.of (fun a k ha => off a k (by unfold kR at ha; unfold kK; omega)), he.of (fun a k ha => off a k (by unfold kE at ha; unfold kK; omega)), hs.of (fun a k ha => off a k (by unfold kS at ha; unfold kK; omega)), hv.of (fun a k ha => off a k (by unfold kV at ha; unfold kK; omega))⟩, FIX.ints (fun a k ha => off a k (by unfold kK; omega))⟩
  · simp -implicitDefEqProofs (disch := first | omega | (simp (disch := omega) only [nb_upr]; omega)) only [R_568, w_568_0, zi_0, zi_0n, zi_332, zi_92, zi_102, zi_48, zi_333, zi_67w1, zi_67w2, F.t100, F.r100_0, F.r100_1, F.w131.t, kC_eq, toL_s, toL_n, okS0, okS1, okS2, okS3, okS4, okS5, true_and, and_true, hT_wI, hL_wI, hR_wI, hI_wI, hJ_wI, sI_wI, rfP, isIA_100, isIA_120, inb_ok, nI_clamp, nI_add, nI_mul, ↓reduceIte, not_false_eq_true, not_true_eq_false, true_or, or_true, ↓bI_01, ↓b01_0, ↓b01_1, bI_0, z00, z10, n4, n5, n2, n8, Nat.reduceMul, Nat.reduceAdd, Nat.reduceLT, Nat.reduceLeDiff, e_copyFrom _ 131 117 F.w131 F.w117 (by decide)]
  · simp -implicitDefEqProofs (disch := first | omega | (simp (disch := omega) only [nb_upr]; omega)) only [R_1552, w_1552_0, zi_0, zi_0n, zi_357, zi_592, zi_378, zi_48, zi_593, zi_67w1, zi_67w2, F.t233, F.r233_0, F.t234, F.l234, F.r233_2, F.t236, F.l236, kC_eq, toL_s, toL_n, okS0, okS1, okS2, okS3, okS4, okS5, true_and, and_true, hT_wI, hL_wI, hR_wI, hI_wI, hJ_wI, sI_wI, rfP, isIA_100, isIA_120, inb_ok, nI_clamp, nI_add, nI_mul, ↓reduceIte, not_false_eq_true, not_true_eq_false, true_or, or_true, ↓bI_01, ↓b01_0, ↓b01_1, bI_0, z00, z10, n4, n5, n2, n8, Nat.reduceMul, Nat.reduceAdd, Nat.reduceLT, Nat.reduceLeDiff, e_moveAll _ 234 236 _ F.t234 F.l234 F.t236 F.l236 (by decide)]
  · rw [v117]; exact V.mono (by omega)
  · rw [v117, m234, em]
  · refine Or.inr ⟨?_, ?_, ?_, ?_⟩
    · simp (disch := omega) only [up2_out, cpf_ne, up2_same]
    · rw [up2_same]
    · rw [e131]; exact V.mono (by omega)
    · rw [e131, e236]
theorem c_again (n : Nat) : CALL 576 1560 [] n := by
  rintro h f ⟨F, T, V, em, hk, ht, hr, he, hs, hv⟩
  rcases id hk with ⟨k1, k2⟩ | ⟨k1, k2, k3, k4⟩
  · refine ⟨.int (Int32.ofInt (-3)), wI h f, h, f, fun Q => ?_, fun Q => ?_, ⟨F, T, V.mono (by omega), em, hk.mono (by omega), ht, hr, he, hs, hv⟩, FIX.refl h f⟩
    · simp -implicitDefEqProofs (disch := first | omega | (simp (disch := omega) only [nb_upr]; omega)) only [R_576, w_576_0, w_576_1, zi_0, zi_0n, zi_334, zi_98, zi_208, zi_67w1, zi_67w2, zi_92, zi_332, zi_102, zi_104, F.t100, kC_eq, toL_s, toL_n, okS0, okS1, okS2, okS3, okS4, okS5, true_and, and_true, hT_wI, hL_wI, hR_wI, hI_wI, hJ_wI, sI_wI, rfP, isIA_100, isIA_120, inb_ok, nI_clamp, nI_add, nI_mul, ↓reduceIte, not_false_eq_true, not_true_eq_false, true_or, or_true, ↓bI_01, ↓b01_0, ↓b01_1, bI_0, z00, z10, n4, n5, n2, n8, Nat.reduceMul, Nat.reduceAdd, Nat.reduceLT, Nat.reduceLeDiff, k1]
    · simp -implicitDefEqProofs (disch := first | omega | (simp (disch := omega) only [nb_upr]; omega)) only [R_1560, w_1560_0, w_1560_1, zi_0, zi_0n, zi_594, zi_98, zi_208, zi_67w1, zi_67w2, zi_592, zi_357, zi_378, zi_59, zi_106, F.t233, kC_eq, toL_s, toL_n, okS0, okS1, okS2, okS3, okS4, okS5, true_and, and_true, hT_wI, hL_wI, hR_wI, hI_wI, hJ_wI, sI_wI, rfP, isIA_100, isIA_120, inb_ok, nI_clamp, nI_add, nI_mul, ↓reduceIte, not_false_eq_true, not_true_eq_false, true_or, or_true, ↓bI_01, ↓b01_0, ↓b01_1, bI_0, z00, z10, n4, n5, n2, n8, Nat.reduceMul, Nat.reduceAdd, Nat.reduceLT, Nat.reduceLeDiff, k2]
  · have off : ∀ a k, ¬ (117 ≤ a ∧ a < 131) → ¬ a = 234 → cpf (cpW f 117 131) 236 234 136 a k = f a k := fun a k h1 h2 => by
      simp (disch := omega) only [cpf_ne, cpW_out]
    have v117 : rv (cpf (cpW f 117 131) 236 234 136) 117 = rv f 131 := by
      rw [rv_eq (g := cpW f 117 131) (fun a k h1 h2 => by simp (disch := omega) only [cpf_ne]), rv_cpW]
    have m234 : rm (cpf (cpW f 117 131) 236 234 136) 234 = rv f 131 := by
      rw [rm_cpf, rm_eq (g := f) (by funext k; rw [cpW_out (by omega)]), k4]
    have e5 : cpW f 117 131 117 14 = rv f 131 5 := by
      have := rv_5 (cpW f 117 131) 117
      rw [rv_cpW] at this
      exact this.symm
    have e5' : cpf (cpW f 117 131) 236 234 136 234 5 = rv f 131 5 := by
      have := rm_5 (cpf (cpW f 117 131) 236 234 136) 234
      rw [m234] at this
      exact this.symm
    refine ⟨.int (rv f 131 5), wI h (cpW f 117 131), h, cpf (cpW f 117 131) 236 234 136, fun Q => ?_, fun Q => ?_, ⟨F, TB_of (fun a k ha => off a k (by omega) (by omega)) T, ?_, ?_, (hk.of (fun a k ha => off a k (by unfold kK at ha; omega) (by unfold kK at ha; omega))).mono (by omega), ht.of (fun a k ha => off a k (by unfold kT at ha; omega) (by unfold kT at ha; omega)), hr.of (fun a k ha => off a k (by unfold kR at ha; omega) (by unfold kR at ha; omega)), he.of (fun a k ha => off a k (by unfold kE at ha; omega) (by unfold kE at ha; omega)), hs.of (fun a k ha => off a k (by unfold kS at ha; omega) (by unfold kS at ha; omega)), hv.of (fun a k ha => off a k (by unfold kV at ha; omega) (by unfold kV at ha; omega))⟩, FIX.ints (fun a k ha => off a k (by omega) (by omega))⟩
    · have z1 : ¬ nI 1 = (0 : Int32) := by decide
      simp -implicitDefEqProofs (disch := first | omega | (simp (disch := omega) only [nb_upr]; omega)) only [R_576, w_576_0, w_576_1, zi_0, zi_0n, zi_334, zi_98, zi_208, zi_67w1, zi_67w2, zi_92, zi_332, zi_102, zi_104, F.t100, F.r100_0, F.r100_1, F.w117.t, kC_eq, toL_s, toL_n, okS0, okS1, okS2, okS3, okS4, okS5, true_and, and_true, hT_wI, hL_wI, hR_wI, hI_wI, hJ_wI, sI_wI, rfP, isIA_100, isIA_120, inb_ok, nI_clamp, nI_add, nI_mul, ↓reduceIte, not_false_eq_true, not_true_eq_false, true_or, or_true, ↓bI_01, ↓b01_0, ↓b01_1, bI_0, z00, z10, n4, n5, n2, n8, Nat.reduceMul, Nat.reduceAdd, Nat.reduceLT, Nat.reduceLeDiff, k1, z1, e_copyFrom _ 117 131 F.w117 F.w131 (by decide), e5]
    · have c5 : cpW f 117 131 233 5 = nI 1 := by rw [cpW_out (by decide)]; exact k2
      have z1 : ¬ nI 1 = (0 : Int32) := by decide
      simp -implicitDefEqProofs (disch := first | omega | (simp (disch := omega) only [nb_upr]; omega)) only [R_1560, w_1560_0, w_1560_1, zi_0, zi_0n, zi_594, zi_98, zi_208, zi_67w1, zi_67w2, zi_592, zi_357, zi_378, zi_59, zi_106, F.t233, F.r233_2, F.t236, F.l236, F.r233_0, F.t234, F.l234, kC_eq, toL_s, toL_n, okS0, okS1, okS2, okS3, okS4, okS5, true_and, and_true, hT_wI, hL_wI, hR_wI, hI_wI, hJ_wI, sI_wI, rfP, isIA_100, isIA_120, inb_ok, nI_clamp, nI_add, nI_mul, ↓reduceIte, not_false_eq_true, not_true_eq_false, true_or, or_true, ↓bI_01, ↓b01_0, ↓b01_1, bI_0, z00, z10, n4, n5, n2, n8, Nat.reduceMul, Nat.reduceAdd, Nat.reduceLT, Nat.reduceLeDiff, c5, z1, e_moveAll _ 236 234 _ F.t236 F.l236 F.t234 F.l234 (by decide), e5']
    · rw [v117]; exact k3.mono (by omega)
    · rw [v117, m234]
theorem btwM {m : Nat} (hm : m ≤ 1000) {v : Int32} (h : ¬ (v < nI 0 ∨ nI m - nI 1 < v)) : ∃ k : Nat, k < m ∧ v = nI k := by
  by_cases h0 : m = 0
  · rw [h0] at h
    exfalso
    have h1 : nI 0 ≤ v := Int32.not_lt.mp (fun z => h (Or.inl z))
    have h2 : v ≤ nI 0 - nI 1 := Int32.not_lt.mp (fun z => h (Or.inr z))
    exact absurd (Int32.le_trans h1 h2) (by decide)
  · rw [nI_sub (by omega)] at h
    obtain ⟨k, -, h2, rfl⟩ := btw (by omega) (by omega) h
    exact ⟨k, by omega, rfl⟩
theorem e_noRow (F : FR h) {m : Nat} (hm : f 100 11 = nI m) (d : Nat) (hd : 1 ≤ d) (i w : Int32) (Q : Option Value → PH → Prop) : Run d 466 [.ref 100, .int i, .int w] (wI h f) Q = Q (some (.int (bI ((i < nI 0 ∨ nI m - nI 1 < i) ∨ (w < nI 0 ∨ nI 2 < w))))) (wI h f) := by
  simp -implicitDefEqProofs (disch := first | omega | (simp (disch := omega) only [nb_upr]; omega)) only [R_466, w_466_0, w_466_1, w_466_2, w_466_3, zi_88, zi_31, zi_0, zi_0n, zi_283, zi_48, zi_101, zi_65, zi_98, zi_34, zi_51, zi_108, zi_33, zi_86, zi_75, zi_67w1, zi_67w2, F.t100, kC_eq, toL_s, toL_n, okS0, okS1, okS2, okS3, okS4, okS5, true_and, and_true, hT_wI, hL_wI, hR_wI, hI_wI, hJ_wI, sI_wI, rfP, isIA_100, isIA_120, inb_ok, nI_clamp, nI_add, nI_mul, ↓reduceIte, not_false_eq_true, not_true_eq_false, true_or, or_true, ↓bI_01, ↓b01_0, ↓b01_1, bI_0, z00, z10, n4, n5, n2, n8, Nat.reduceMul, Nat.reduceAdd, Nat.reduceLT, Nat.reduceLeDiff, hm, e_outside]
  by_cases h1 : i < nI 0 ∨ nI m - nI 1 < i
  · simp only [h1, true_or, not_true_eq_false, ↓reduceIte, bI]
  · by_cases h2 : w < nI 0 ∨ nI 2 < w
    · simp only [h1, h2, or_true, not_true_eq_false, not_false_eq_true, ↓reduceIte, bI]
    · simp only [h1, h2, or_self, not_false_eq_true, ↓reduceIte, bI]
theorem e_isRow (F : FR h) {m : Nat} (hm : f 233 23 = nI m) (d : Nat) (hd : 1 ≤ d) (i w : Int32) (Q : Option Value → PH → Prop) : Run d 1322 [.ref 233, .int i, .int w] (wI h f) Q = Q (some (.int (bI (¬ ((i < nI 0 ∨ nI m - nI 1 < i) ∨ (w < nI 0 ∨ nI 2 < w)))))) (wI h f) := by
  simp -implicitDefEqProofs (disch := first | omega | (simp (disch := omega) only [nb_upr]; omega)) only [R_1322, w_1322_0, w_1322_1, w_1322_2, zi_88, zi_31, zi_0, zi_0n, zi_542, zi_48, zi_101, zi_362, zi_66, zi_34, zi_51, zi_112, zi_113, zi_67w1, zi_67w2, F.t233, kC_eq, toL_s, toL_n, okS0, okS1, okS2, okS3, okS4, okS5, true_and, and_true, hT_wI, hL_wI, hR_wI, hI_wI, hJ_wI, sI_wI, rfP, isIA_100, isIA_120, inb_ok, nI_clamp, nI_add, nI_mul, ↓reduceIte, not_false_eq_true, not_true_eq_false, true_or, or_true, ↓bI_01, ↓b01_0, ↓b01_1, bI_0, z00, z10, n4, n5, n2, n8, Nat.reduceMul, Nat.reduceAdd, Nat.reduceLT, Nat.reduceLeDiff, hm, e_in]
  by_cases h1 : i < nI 0 ∨ nI m - nI 1 < i
  · simp only [h1, true_or, not_true_eq_false, not_false_eq_true, ↓reduceIte, bI]
  · by_cases h2 : w < nI 0 ∨ nI 2 < w
    · simp only [h1, h2, or_true, not_true_eq_false, not_false_eq_true, ↓reduceIte, bI]
    · simp only [h1, h2, or_self, not_true_eq_false, not_false_eq_true, ↓reduceIte, bI]
theorem c_row (n : Nat) (i w : Int32) : CALL 458 1314 [.int i, .int w] n := by
  refine call_same (fun h f r I F T V e1 e2 => ?_)
  obtain ⟨m, m1, m2, m3, m4⟩ := I.2.2.2.2.2.2.1
  by_cases hz : (i < nI 0 ∨ nI m - nI 1 < i) ∨ (w < nI 0 ∨ nI 2 < w)
  · refine ⟨.int (Int32.ofInt (-9)), fun Q => ?_, fun Q => ?_⟩
    · simp -implicitDefEqProofs (disch := first | omega | (simp (disch := omega) only [nb_upr]; omega)) only [R_458, w_458_0, w_458_1, w_458_2, zi_0, zi_0n, zi_88, zi_34, zi_281, zi_66, zi_282, zi_112, zi_279, zi_54, zi_79, zi_70, zi_106, zi_113, zi_67w1, zi_67w2, F.t100, kC_eq, toL_s, toL_n, okS0, okS1, okS2, okS3, okS4, okS5, true_and, and_true, hT_wI, hL_wI, hR_wI, hI_wI, hJ_wI, sI_wI, rfP, isIA_100, isIA_120, inb_ok, nI_clamp, nI_add, nI_mul, ↓reduceIte, not_false_eq_true, not_true_eq_false, true_or, or_true, ↓bI_01, ↓b01_0, ↓b01_1, bI_0, z00, z10, n4, n5, n2, n8, Nat.reduceMul, Nat.reduceAdd, Nat.reduceLT, Nat.reduceLeDiff, e_noRow F m2, hz]
    · simp -implicitDefEqProofs (disch := first | omega | (simp (disch := omega) only [nb_upr]; omega)) only [R_1314, w_1314_0, w_1314_1, w_1314_2, zi_0, zi_0n, zi_88, zi_34, zi_541, zi_66, zi_538, zi_54, zi_79, zi_70, zi_106, zi_112, zi_282, zi_113, zi_67w1, zi_67w2, F.t233, kC_eq, toL_s, toL_n, okS0, okS1, okS2, okS3, okS4, okS5, true_and, and_true, hT_wI, hL_wI, hR_wI, hI_wI, hJ_wI, sI_wI, rfP, isIA_100, isIA_120, inb_ok, nI_clamp, nI_add, nI_mul, ↓reduceIte, not_false_eq_true, not_true_eq_false, true_or, or_true, ↓bI_01, ↓b01_0, ↓b01_1, bI_0, z00, z10, n4, n5, n2, n8, Nat.reduceMul, Nat.reduceAdd, Nat.reduceLT, Nat.reduceLeDiff, e_isRow F m3, hz]
  · obtain ⟨k, hk, rfl⟩ := btwM (by omega) (fun z => hz (Or.inl z))
    obtain ⟨q, -, hq, rfl⟩ := btw (by decide) (by decide) (fun z => hz (Or.inr z))
    have ek : 3 * k + q = k * 3 + q := by omega
    refine ⟨.int (f 108 (k * 3 + q)), fun Q => ?_, fun Q => ?_⟩
    · simp -implicitDefEqProofs (disch := first | omega | (simp (disch := omega) only [nb_upr]; omega)) only [R_458, w_458_0, w_458_1, w_458_2, zi_0, zi_0n, zi_88, zi_34, zi_281, zi_66, zi_282, zi_112, zi_279, zi_54, zi_79, zi_70, zi_106, zi_113, zi_67w1, zi_67w2, F.t100, F.r100_9, F.t108, F.l108, kC_eq, toL_s, toL_n, okS0, okS1, okS2, okS3, okS4, okS5, true_and, and_true, hT_wI, hL_wI, hR_wI, hI_wI, hJ_wI, sI_wI, rfP, isIA_100, isIA_120, inb_ok, nI_clamp, nI_add, nI_mul, ↓reduceIte, not_false_eq_true, not_true_eq_false, true_or, or_true, ↓bI_01, ↓b01_0, ↓b01_1, bI_0, z00, z10, n4, n5, n2, n8, Nat.reduceMul, Nat.reduceAdd, Nat.reduceLT, Nat.reduceLeDiff, e_noRow F m2, hz]
    · simp -implicitDefEqProofs (disch := first | omega | (simp (disch := omega) only [nb_upr]; omega)) only [R_1314, w_1314_0, w_1314_1, w_1314_2, zi_0, zi_0n, zi_88, zi_34, zi_541, zi_66, zi_538, zi_54, zi_79, zi_70, zi_106, zi_112, zi_282, zi_113, zi_67w1, zi_67w2, F.t233, F.r233_21, F.t244, F.l244, kC_eq, toL_s, toL_n, okS0, okS1, okS2, okS3, okS4, okS5, true_and, and_true, hT_wI, hL_wI, hR_wI, hI_wI, hJ_wI, sI_wI, rfP, isIA_100, isIA_120, inb_ok, nI_clamp, nI_add, nI_mul, ↓reduceIte, not_false_eq_true, not_true_eq_false, true_or, or_true, ↓bI_01, ↓b01_0, ↓b01_1, bI_0, z00, z10, n4, n5, n2, n8, Nat.reduceMul, Nat.reduceAdd, Nat.reduceLT, Nat.reduceLeDiff, e_isRow F m3, hz, ek, m4 (k * 3 + q) (by omega)]
theorem c_alterRow (n : Nat) (i w v : Int32) : CALL 475 1331 [.int i, .int w, .int v] n := by
  rintro h f ⟨F, T, V, em, hk, ht, hr, he, hs, hv⟩
  obtain ⟨m, m1, m2, m3, m4⟩ := id hr
  by_cases hz : (i < nI 0 ∨ nI m - nI 1 < i) ∨ (w < nI 0 ∨ nI 2 < w)
  · refine ⟨.int (Int32.ofInt (-9)), wI h f, h, f, fun Q => ?_, fun Q => ?_, ⟨F, T, V.mono (by omega), em, hk.mono (by omega), ht, hr, he, hs, hv⟩, FIX.refl h f⟩
    · simp -implicitDefEqProofs (disch := first | omega | (simp (disch := omega) only [nb_upr]; omega)) only [R_475, w_475_0, w_475_1, w_475_2, zi_0, zi_0n, zi_88, zi_34, zi_281, zi_66, zi_282, zi_112, zi_279, zi_54, zi_79, zi_70, zi_63, zi_110, zi_113, zi_67w1, zi_67w2, F.t100, kC_eq, toL_s, toL_n, okS0, okS1, okS2, okS3, okS4, okS5, true_and, and_true, hT_wI, hL_wI, hR_wI, hI_wI, hJ_wI, sI_wI, rfP, isIA_100, isIA_120, inb_ok, nI_clamp, nI_add, nI_mul, ↓reduceIte, not_false_eq_true, not_true_eq_false, true_or, or_true, ↓bI_01, ↓b01_0, ↓b01_1, bI_0, z00, z10, n4, n5, n2, n8, Nat.reduceMul, Nat.reduceAdd, Nat.reduceLT, Nat.reduceLeDiff, e_noRow F m2, hz]
    · simp -implicitDefEqProofs (disch := first | omega | (simp (disch := omega) only [nb_upr]; omega)) only [R_1331, w_1331_0, w_1331_1, zi_0, zi_0n, zi_88, zi_34, zi_541, zi_98, zi_282, zi_67w1, zi_67w2, zi_538, zi_54, zi_79, zi_70, zi_106, zi_74i, zi_74r, zi_74u, zi_74a, zi_63, zi_38, zi_76, F.t233, kC_eq, toL_s, toL_n, okS0, okS1, okS2, okS3, okS4, okS5, true_and, and_true, hT_wI, hL_wI, hR_wI, hI_wI, hJ_wI, sI_wI, rfP, isIA_100, isIA_120, inb_ok, nI_clamp, nI_add, nI_mul, ↓reduceIte, not_false_eq_true, not_true_eq_false, true_or, or_true, ↓bI_01, ↓b01_0, ↓b01_1, bI_0, z00, z10, n4, n5, n2, n8, Nat.reduceMul, Nat.reduceAdd, Nat.reduceLT, Nat.reduceLeDiff, e_isRow F m3, hz]
  · obtain ⟨k, hk1, rfl⟩ := btwM (by omega) (fun z => hz (Or.inl z))
    obtain ⟨q, -, hq, rfl⟩ := btw (by decide) (by decide) (fun z => hz (Or.inr z))
    have ek : 3 * k + q = k * 3 + q := by omega
    have off : ∀ a j, ¬ a = 108 → ¬ a = 244 → up2 (up2 f 108 (k * 3 + q) v) 244 (k * 3 + q) v a j = f a j := fun a j h1 h2 => by
      simp (disch := omega) only [up2_out]
    have m3' : up2 f 108 (k * 3 + q) v 233 23 = nI m := by rw [up2_ne _ _ (by decide)]; exact m3
    have e244 : up2 f 108 (k * 3 + q) v 244 (k * 3 + q) = f 108 (k * 3 + q) := by rw [up2_ne _ _ (by decide)]; exact m4 (k * 3 + q) (by omega)
    refine ⟨.int (f 108 (k * 3 + q)), wI h (up2 f 108 (k * 3 + q) v), h, up2 (up2 f 108 (k * 3 + q) v) 244 (k * 3 + q) v, fun Q => ?_, fun Q => ?_, ⟨F, TB_of (fun a k ha => off a k (by omega) (by omega)) T, ?_, ?_, (hk.of (fun a k ha => off a k (by unfold kK at ha; omega) (by unfold kK at ha; omega))).mono (by omega), ht.of (fun a k ha => off a k (by unfold kT at ha; omega) (by unfold kT at ha; omega)), ⟨m, m1, ?_, ?_, fun j hj => ?_⟩, he.of (fun a k ha => off a k (by unfold kE at ha; omega) (by unfold kE at ha; omega)), hs.of (fun a k ha => off a k (by unfold kS at ha; omega) (by unfold kS at ha; omega)), hv.of (fun a k ha => off a k (by unfold kV at ha; omega) (by unfold kV at ha; omega))⟩, FIX.ints (fun a k ha => off a k (by omega) (by omega))⟩
    · simp -implicitDefEqProofs (disch := first | omega | (simp (disch := omega) only [nb_upr]; omega)) only [R_475, w_475_0, w_475_1, w_475_2, R_51, w_51_0, zi_0, zi_0n, zi_88, zi_34, zi_281, zi_66, zi_282, zi_112, zi_279, zi_54, zi_79, zi_70, zi_63, zi_110, zi_113, zi_67w1, zi_67w2, zi_106, zi_111i, zi_111r, zi_111u, zi_111a, zi_38, F.t100, F.r100_9, F.t108, F.l108, kC_eq, toL_s, toL_n, okS0, okS1, okS2, okS3, okS4, okS5, true_and, and_true, hT_wI, hL_wI, hR_wI, hI_wI, hJ_wI, sI_wI, rfP, isIA_100, isIA_120, inb_ok, nI_clamp, nI_add, nI_mul, ↓reduceIte, not_false_eq_true, not_true_eq_false, true_or, or_true, ↓bI_01, ↓b01_0, ↓b01_1, bI_0, z00, z10, n4, n5, n2, n8, Nat.reduceMul, Nat.reduceAdd, Nat.reduceLT, Nat.reduceLeDiff, e_noRow F m2, hz]
    · simp -implicitDefEqProofs (disch := first | omega | (simp (disch := omega) only [nb_upr]; omega)) only [R_1331, w_1331_0, w_1331_1, zi_0, zi_0n, zi_88, zi_34, zi_541, zi_98, zi_282, zi_67w1, zi_67w2, zi_538, zi_54, zi_79, zi_70, zi_106, zi_74i, zi_74r, zi_74u, zi_74a, zi_63, zi_38, zi_76, F.t233, F.r233_21, F.t244, F.l244, kC_eq, toL_s, toL_n, okS0, okS1, okS2, okS3, okS4, okS5, true_and, and_true, hT_wI, hL_wI, hR_wI, hI_wI, hJ_wI, sI_wI, rfP, isIA_100, isIA_120, inb_ok, nI_clamp, nI_add, nI_mul, ↓reduceIte, not_false_eq_true, not_true_eq_false, true_or, or_true, ↓bI_01, ↓b01_0, ↓b01_1, bI_0, z00, z10, n4, n5, n2, n8, Nat.reduceMul, Nat.reduceAdd, Nat.reduceLT, Nat.reduceLeDiff, e_isRow F m3', hz, ek, e244]
    · rw [rv_eq (g := f) (fun a k h1 h2 => off a k (by omega) (by omega))]; exact V.mono (by omega)
    · rw [rv_eq (g := f) (fun a k h1 h2 => off a k (by omega) (by omega)), rm_eq (g := f) (by funext k; exact off 234 k (by omega) (by omega)), em]
    · rw [off 100 11 (by decide) (by decide)]; exact m2
    · rw [off 233 23 (by decide) (by decide)]; exact m3
    · by_cases z : j = k * 3 + q
      · subst z
        rw [up2_same, up2_ne _ _ (by decide), up2_same]
      · simp (disch := omega) only [up2_out]
        exact m4 j hj
theorem c_trace (n : Nat) (i : Int32) : CALL 553 1513 [.int i] n := by
  refine call_same (fun h f r I F T V e1 e2 => ?_)
  obtain ⟨m, m1, m2, m3, m4⟩ := I.2.2.2.2.2.2.2.1
  by_cases hz : i < nI 0 ∨ nI m - nI 1 < i
  · refine ⟨.int (Int32.ofInt (-3)), fun Q => ?_, fun Q => ?_⟩
    · simp -implicitDefEqProofs (disch := first | omega | (simp (disch := omega) only [nb_upr]; omega)) only [R_553, w_553_0, w_553_1, w_553_2, zi_88, zi_31, zi_0, zi_0n, zi_316, zi_327, zi_48, zi_101, zi_65, zi_66, zi_208, zi_112, zi_328, zi_106, zi_113, zi_67w1, zi_67w2, F.t100, F.r100_5, F.t103, F.r103_0, F.t104, F.l104, kC_eq, toL_s, toL_n, okS0, okS1, okS2, okS3, okS4, okS5, true_and, and_true, hT_wI, hL_wI, hR_wI, hI_wI, hJ_wI, sI_wI, rfP, isIA_100, isIA_120, inb_ok, nI_clamp, nI_add, nI_mul, ↓reduceIte, not_false_eq_true, not_true_eq_false, true_or, or_true, ↓bI_01, ↓b01_0, ↓b01_1, bI_0, z00, z10, n4, n5, n2, n8, Nat.reduceMul, Nat.reduceAdd, Nat.reduceLT, Nat.reduceLeDiff, m2, e_outside, hz]
    · simp -implicitDefEqProofs (disch := first | omega | (simp (disch := omega) only [nb_upr]; omega)) only [R_1513, w_1513_0, w_1513_1, w_1513_2, zi_88, zi_31, zi_0, zi_0n, zi_578, zi_48, zi_101, zi_362, zi_66, zi_579, zi_106, zi_112, zi_208, zi_113, zi_67w1, zi_67w2, F.t233, F.r233_33, F.t252, F.l252, kC_eq, toL_s, toL_n, okS0, okS1, okS2, okS3, okS4, okS5, true_and, and_true, hT_wI, hL_wI, hR_wI, hI_wI, hJ_wI, sI_wI, rfP, isIA_100, isIA_120, inb_ok, nI_clamp, nI_add, nI_mul, ↓reduceIte, not_false_eq_true, not_true_eq_false, true_or, or_true, ↓bI_01, ↓b01_0, ↓b01_1, bI_0, z00, z10, n4, n5, n2, n8, Nat.reduceMul, Nat.reduceAdd, Nat.reduceLT, Nat.reduceLeDiff, m3, e_in, hz]
  · obtain ⟨k, hk, rfl⟩ := btwM (by omega) hz
    refine ⟨.int (f 104 k), fun Q => ?_, fun Q => ?_⟩
    · simp -implicitDefEqProofs (disch := first | omega | (simp (disch := omega) only [nb_upr]; omega)) only [R_553, w_553_0, w_553_1, w_553_2, zi_88, zi_31, zi_0, zi_0n, zi_316, zi_327, zi_48, zi_101, zi_65, zi_66, zi_208, zi_112, zi_328, zi_106, zi_113, zi_67w1, zi_67w2, F.t100, F.r100_5, F.t103, F.r103_0, F.t104, F.l104, kC_eq, toL_s, toL_n, okS0, okS1, okS2, okS3, okS4, okS5, true_and, and_true, hT_wI, hL_wI, hR_wI, hI_wI, hJ_wI, sI_wI, rfP, isIA_100, isIA_120, inb_ok, nI_clamp, nI_add, nI_mul, ↓reduceIte, not_false_eq_true, not_true_eq_false, true_or, or_true, ↓bI_01, ↓b01_0, ↓b01_1, bI_0, z00, z10, n4, n5, n2, n8, Nat.reduceMul, Nat.reduceAdd, Nat.reduceLT, Nat.reduceLeDiff, m2, e_outside, hz]
    · simp -implicitDefEqProofs (disch := first | omega | (simp (disch := omega) only [nb_upr]; omega)) only [R_1513, w_1513_0, w_1513_1, w_1513_2, zi_88, zi_31, zi_0, zi_0n, zi_578, zi_48, zi_101, zi_362, zi_66, zi_579, zi_106, zi_112, zi_208, zi_113, zi_67w1, zi_67w2, F.t233, F.r233_33, F.t252, F.l252, kC_eq, toL_s, toL_n, okS0, okS1, okS2, okS3, okS4, okS5, true_and, and_true, hT_wI, hL_wI, hR_wI, hI_wI, hJ_wI, sI_wI, rfP, isIA_100, isIA_120, inb_ok, nI_clamp, nI_add, nI_mul, ↓reduceIte, not_false_eq_true, not_true_eq_false, true_or, or_true, ↓bI_01, ↓b01_0, ↓b01_1, bI_0, z00, z10, n4, n5, n2, n8, Nat.reduceMul, Nat.reduceAdd, Nat.reduceLT, Nat.reduceLeDiff, m3, e_in, hz, m4 k hk]
/-- sleepers, all -/
def slS (r : Nat → Int32) : Nat → Int32
  | 0 => nI 0
  | s + 1 => slS r s + r (17 + 7 * s)
theorem sumA_sl {f : Nat → Nat → Int32} {r : Nat → Int32} {b : Nat} : ∀ s, s ≤ 8 → sumA (ww f b r) (b + 4) s = slS r s
  | 0, _ => rfl
  | s + 1, hs => by
    show sumA _ _ s + ww f b r (b + 4) s = slS r s + r (17 + 7 * s)
    rw [sumA_sl s (by omega), ww_4 (by omega), show 12 + 7 * s + 5 = 17 + 7 * s by omega]
theorem sleepersMany_loop (d : Nat) (h : PH) (f : Nat → Nat → Int32) (r : Nat → Int32) (F : FR h) (hd : 2 ≤ d) (Q : Option Value → PH → Prop) :
    ∀ (j k : Nat), k + j = 8 → WP d 1536 1 [.ref 233, .int (slS r k), .int (nI k)] [] (wI h (mw f 234 r)) Q = Q (some (.int (slS r 8))) (wI h (mw f 234 r))
  | 0, k, hk => by
    obtain rfl : k = 8 := by omega
    rw [w_1536_1]
    simp -implicitDefEqProofs (disch := first | omega | (simp (disch := omega) only [nb_upr]; omega)) only [w_1536_2, zi_31, zi_96i, zi_96r, zi_96u, zi_96a, zi_32i, zi_32r, zi_32u, zi_32a, zi_33, zi_34, zi_64, zi_35, zi_88, zi_0, zi_0n, zi_59, zi_453, zi_70, zi_39i, zi_39r, zi_39u, zi_39a, zi_40, zi_67w1, zi_67w2, kC_eq, toL_s, toL_n, okS0, okS1, okS2, okS3, okS4, okS5, true_and, and_true, hT_wI, hL_wI, hR_wI, hI_wI, hJ_wI, sI_wI, rfP, isIA_100, isIA_120, inb_ok, nI_clamp, nI_add, nI_mul, ↓reduceIte, not_false_eq_true, not_true_eq_false, true_or, or_true, ↓bI_01, ↓b01_0, ↓b01_1, bI_0, z00, z10, n4, n5, n2, n8, Nat.reduceMul, Nat.reduceAdd, Nat.reduceLT, Nat.reduceLeDiff, nI_eq, nI_leI, nI_ltI, Nat.reduceEqDiff, pk_div, nI_sub, Nat.reduceDiv, Nat.reduceSub, Nat.le_refl]
  | j + 1, k, hk => by
    have g : ¬ 8 ≤ k := by omega
    have ih := sleepersMany_loop d h f r F hd Q j (k + 1) (by omega)
    rw [w_1536_1]
    simp -implicitDefEqProofs (disch := first | omega | (simp (disch := omega) only [nb_upr]; omega)) only [zi_31, zi_96i, zi_96r, zi_96u, zi_96a, zi_32i, zi_32r, zi_32u, zi_32a, zi_33, zi_34, zi_64, zi_35, zi_88, zi_0, zi_0n, zi_59, zi_453, zi_70, zi_39i, zi_39r, zi_39u, zi_39a, zi_40, zi_67w1, zi_67w2, F.t233, kC_eq, toL_s, toL_n, okS0, okS1, okS2, okS3, okS4, okS5, true_and, and_true, hT_wI, hL_wI, hR_wI, hI_wI, hJ_wI, sI_wI, rfP, isIA_100, isIA_120, inb_ok, nI_clamp, nI_add, nI_mul, ↓reduceIte, not_false_eq_true, not_true_eq_false, true_or, or_true, ↓bI_01, ↓b01_0, ↓b01_1, bI_0, z00, z10, n4, n5, n2, n8, Nat.reduceMul, Nat.reduceAdd, Nat.reduceLT, Nat.reduceLeDiff, nI_eq, nI_leI, nI_ltI, Nat.reduceEqDiff, pk_div, nI_sub, Nat.reduceDiv, Nat.reduceSub, g, e_at5 F]
    exact ih
theorem e_sleepersMany {d : Nat} {r : Nat → Int32} (F : FR h) (hd : 2 ≤ d) (Q : Option Value → PH → Prop) : Run d 1536 [.ref 233] (wI h (mw f 234 r)) Q = Q (some (.int (slS r 8))) (wI h (mw f 234 r)) := by
  simp -implicitDefEqProofs (disch := first | omega | (simp (disch := omega) only [nb_upr]; omega)) only [R_1536, w_1536_0, zi_31, zi_96i, zi_96r, zi_96u, zi_96a, zi_32i, zi_32r, zi_32u, zi_32a, zi_33, zi_34, zi_64, zi_35, zi_88, zi_0, zi_0n, zi_59, zi_453, zi_70, zi_39i, zi_39r, zi_39u, zi_39a, zi_40, zi_67w1, zi_67w2, kC_eq, toL_s, toL_n, okS0, okS1, okS2, okS3, okS4, okS5, true_and, and_true, hT_wI, hL_wI, hR_wI, hI_wI, hJ_wI, sI_wI, rfP, isIA_100, isIA_120, inb_ok, nI_clamp, nI_add, nI_mul, ↓reduceIte, not_false_eq_true, not_true_eq_false, true_or, or_true, ↓bI_01, ↓b01_0, ↓b01_1, bI_0, z00, z10, n4, n5, n2, n8, Nat.reduceMul, Nat.reduceAdd, Nat.reduceLT, Nat.reduceLeDiff]
  exact sleepersMany_loop d h f r F hd Q 8 0 rfl
theorem c_many (n : Nat) (v : Int32) : CALL 561 1521 [.int v] n := by
  refine call_same (fun h f r I F T V e1 e2 => ?_)
  obtain ⟨m, m1, m2, m3, -⟩ := I.2.2.2.2.2.2.1
  obtain ⟨t, t1, t2, t3, -⟩ := I.2.2.2.2.2.1
  obtain ⟨u, u1, u2, u3, -⟩ := I.2.2.2.2.2.2.2.1
  have h5 := V.r5
  have h6 := V.nb6
  have w := F.w117
  by_cases hv : v < nI 0 ∨ nI 6 < v
  · have c0 : ¬ v = nI 0 := by rintro rfl; exact absurd hv (by decide)
    have c1 : ¬ v = nI 1 := by rintro rfl; exact absurd hv (by decide)
    have c2 : ¬ v = nI 2 := by rintro rfl; exact absurd hv (by decide)
    have c3 : ¬ v = nI 3 := by rintro rfl; exact absurd hv (by decide)
    have c4 : ¬ v = nI 4 := by rintro rfl; exact absurd hv (by decide)
    have c5 : ¬ v = nI 5 := by rintro rfl; exact absurd hv (by decide)
    have c6 : ¬ v = nI 6 := by rintro rfl; exact absurd hv (by decide)
    refine ⟨.int (Int32.ofInt (-1)), fun Q => ?_, fun Q => ?_⟩
    · simp -implicitDefEqProofs (disch := first | omega | (simp (disch := omega) only [nb_upr]; omega)) only [R_561, w_561_0, w_561_1, w_561_2, w_561_3, w_561_4, w_561_5, w_561_6, w_561_7, w_561_8, zi_88, zi_329, zi_0, zi_0n, zi_92, zi_104, zi_67w1, zi_67w2, zi_330, zi_125, zi_64, zi_170, zi_331, zi_283, zi_68, zi_69, zi_316, zi_327, zi_37, kC_eq, toL_s, toL_n, okS0, okS1, okS2, okS3, okS4, okS5, true_and, and_true, hT_wI, hL_wI, hR_wI, hI_wI, hJ_wI, sI_wI, rfP, isIA_100, isIA_120, inb_ok, nI_clamp, nI_add, nI_mul, ↓reduceIte, not_false_eq_true, not_true_eq_false, true_or, or_true, ↓bI_01, ↓b01_0, ↓b01_1, bI_0, z00, z10, n4, n5, n2, n8, Nat.reduceMul, Nat.reduceAdd, Nat.reduceLT, Nat.reduceLeDiff, c0, c1, c2, c3, c4, c5, c6]
    · simp -implicitDefEqProofs (disch := first | omega | (simp (disch := omega) only [nb_upr]; omega)) only [R_1521, w_1521_0, w_1521_1, w_1521_2, w_1521_3, w_1521_4, w_1521_5, w_1521_6, w_1521_7, w_1521_8, zi_88, zi_329, zi_0, zi_0n, zi_357, zi_59, zi_106, zi_67w1, zi_67w2, zi_589, zi_590, zi_591, zi_542, zi_363, zi_578, zi_37, kC_eq, toL_s, toL_n, okS0, okS1, okS2, okS3, okS4, okS5, true_and, and_true, hT_wI, hL_wI, hR_wI, hI_wI, hJ_wI, sI_wI, rfP, isIA_100, isIA_120, inb_ok, nI_clamp, nI_add, nI_mul, ↓reduceIte, not_false_eq_true, not_true_eq_false, true_or, or_true, ↓bI_01, ↓b01_0, ↓b01_1, bI_0, z00, z10, n4, n5, n2, n8, Nat.reduceMul, Nat.reduceAdd, Nat.reduceLT, Nat.reduceLeDiff, c0, c1, c2, c3, c4, c5, c6]
  obtain ⟨j, -, hj, rfl⟩ := btw (by decide) (by decide) hv
  match j, hj with
  | 0, _ =>
    refine ⟨.int (nI (nb r)), fun Q => ?_, fun Q => ?_⟩
    · rw [← e1]
      simp -implicitDefEqProofs (disch := first | omega | (simp (disch := omega) only [nb_upr]; omega)) only [R_561, w_561_0, w_561_1, w_561_2, w_561_3, w_561_4, w_561_5, w_561_6, w_561_7, w_561_8, zi_88, zi_329, zi_0, zi_0n, zi_92, zi_104, zi_67w1, zi_67w2, zi_330, zi_125, zi_64, zi_170, zi_331, zi_283, zi_68, zi_69, zi_316, zi_327, zi_37, F.t100, F.r100_0, w.t, kC_eq, toL_s, toL_n, okS0, okS1, okS2, okS3, okS4, okS5, true_and, and_true, hT_wI, hL_wI, hR_wI, hI_wI, hJ_wI, sI_wI, rfP, isIA_100, isIA_120, inb_ok, nI_clamp, nI_add, nI_mul, ↓reduceIte, not_false_eq_true, not_true_eq_false, true_or, or_true, ↓bI_01, ↓b01_0, ↓b01_1, bI_0, z00, z10, n4, n5, n2, n8, Nat.reduceMul, Nat.reduceAdd, Nat.reduceLT, Nat.reduceLeDiff, nI_eq, nI_leI, nI_ltI, Nat.reduceEqDiff, pk_div, nI_sub, Nat.reduceDiv, Nat.reduceSub, ww_0_14, h5]
    · rw [← e2]
      simp -implicitDefEqProofs (disch := first | omega | (simp (disch := omega) only [nb_upr]; omega)) only [R_1521, w_1521_0, w_1521_1, w_1521_2, w_1521_3, w_1521_4, w_1521_5, w_1521_6, w_1521_7, w_1521_8, zi_88, zi_329, zi_0, zi_0n, zi_357, zi_59, zi_106, zi_67w1, zi_67w2, zi_589, zi_590, zi_591, zi_542, zi_363, zi_578, zi_37, F.t233, F.r233_0, F.t234, F.l234, kC_eq, toL_s, toL_n, okS0, okS1, okS2, okS3, okS4, okS5, true_and, and_true, hT_wI, hL_wI, hR_wI, hI_wI, hJ_wI, sI_wI, rfP, isIA_100, isIA_120, inb_ok, nI_clamp, nI_add, nI_mul, ↓reduceIte, not_false_eq_true, not_true_eq_false, true_or, or_true, ↓bI_01, ↓b01_0, ↓b01_1, bI_0, z00, z10, n4, n5, n2, n8, Nat.reduceMul, Nat.reduceAdd, Nat.reduceLT, Nat.reduceLeDiff, nI_eq, nI_leI, nI_ltI, Nat.reduceEqDiff, pk_div, nI_sub, Nat.reduceDiv, Nat.reduceSub, mw_r, h5]
  | 1, _ =>
    refine ⟨.int (nI (tcn r (nb r))), fun Q => ?_, fun Q => ?_⟩
    · rw [← e1]
      simp -implicitDefEqProofs (disch := first | omega | (simp (disch := omega) only [nb_upr]; omega)) only [R_561, w_561_0, w_561_1, w_561_2, w_561_3, w_561_4, w_561_5, w_561_6, w_561_7, w_561_8, zi_88, zi_329, zi_0, zi_0n, zi_92, zi_104, zi_67w1, zi_67w2, zi_330, zi_125, zi_64, zi_170, zi_331, zi_283, zi_68, zi_69, zi_316, zi_327, zi_37, F.t100, F.r100_0, w.t, kC_eq, toL_s, toL_n, okS0, okS1, okS2, okS3, okS4, okS5, true_and, and_true, hT_wI, hL_wI, hR_wI, hI_wI, hJ_wI, sI_wI, rfP, isIA_100, isIA_120, inb_ok, nI_clamp, nI_add, nI_mul, ↓reduceIte, not_false_eq_true, not_true_eq_false, true_or, or_true, ↓bI_01, ↓b01_0, ↓b01_1, bI_0, z00, z10, n4, n5, n2, n8, Nat.reduceMul, Nat.reduceAdd, Nat.reduceLT, Nat.reduceLeDiff, nI_eq, nI_leI, nI_ltI, Nat.reduceEqDiff, pk_div, nI_sub, Nat.reduceDiv, Nat.reduceSub, e_tornBoats _ 117 h f r w h6 h5]
    · rw [← e2]
      simp -implicitDefEqProofs (disch := first | omega | (simp (disch := omega) only [nb_upr]; omega)) only [R_1521, w_1521_0, w_1521_1, w_1521_2, w_1521_3, w_1521_4, w_1521_5, w_1521_6, w_1521_7, w_1521_8, zi_88, zi_329, zi_0, zi_0n, zi_357, zi_59, zi_106, zi_67w1, zi_67w2, zi_589, zi_590, zi_591, zi_542, zi_363, zi_578, zi_37, F.t233, kC_eq, toL_s, toL_n, okS0, okS1, okS2, okS3, okS4, okS5, true_and, and_true, hT_wI, hL_wI, hR_wI, hI_wI, hJ_wI, sI_wI, rfP, isIA_100, isIA_120, inb_ok, nI_clamp, nI_add, nI_mul, ↓reduceIte, not_false_eq_true, not_true_eq_false, true_or, or_true, ↓bI_01, ↓b01_0, ↓b01_1, bI_0, z00, z10, n4, n5, n2, n8, Nat.reduceMul, Nat.reduceAdd, Nat.reduceLT, Nat.reduceLeDiff, nI_eq, nI_leI, nI_ltI, Nat.reduceEqDiff, pk_div, nI_sub, Nat.reduceDiv, Nat.reduceSub, e_tornMany F h6 h5]
  | 2, _ =>
    obtain ⟨b, hb⟩ : ∃ b, b = 117 := ⟨_, rfl⟩
    have hn := F.r100_0
    rw [← hb] at w hn e1
    have e9 : sumA (ww f b r) (b + 4) 8 = slS r 8 := sumA_sl 8 (by decide)
    refine ⟨.int (slS r 8), fun Q => ?_, fun Q => ?_⟩
    · rw [← e1]
      simp -implicitDefEqProofs (disch := first | omega | (simp (disch := omega) only [nb_upr]; omega)) only [R_561, w_561_0, w_561_1, w_561_2, w_561_3, w_561_4, w_561_5, w_561_6, w_561_7, w_561_8, zi_88, zi_329, zi_0, zi_0n, zi_92, zi_104, zi_67w1, zi_67w2, zi_330, zi_125, zi_64, zi_170, zi_331, zi_283, zi_68, zi_69, zi_316, zi_327, zi_37, F.t100, hn, w.t, w.r4, w.t4, w.l4, kC_eq, toL_s, toL_n, okS0, okS1, okS2, okS3, okS4, okS5, true_and, and_true, hT_wI, hL_wI, hR_wI, hI_wI, hJ_wI, sI_wI, rfP, isIA_100, isIA_120, inb_ok, nI_clamp, nI_add, nI_mul, ↓reduceIte, not_false_eq_true, not_true_eq_false, true_or, or_true, ↓bI_01, ↓b01_0, ↓b01_1, bI_0, z00, z10, n4, n5, n2, n8, Nat.reduceMul, Nat.reduceAdd, Nat.reduceLT, Nat.reduceLeDiff, nI_eq, nI_leI, nI_ltI, Nat.reduceEqDiff, pk_div, nI_sub, Nat.reduceDiv, Nat.reduceSub, e_sum _ (b + 4) h _ w.t4 8 (by rw [w.l4]; decide) (by rw [w.l4]; decide), e9]
    · rw [← e2]
      simp -implicitDefEqProofs (disch := first | omega | (simp (disch := omega) only [nb_upr]; omega)) only [R_1521, w_1521_0, w_1521_1, w_1521_2, w_1521_3, w_1521_4, w_1521_5, w_1521_6, w_1521_7, w_1521_8, zi_88, zi_329, zi_0, zi_0n, zi_357, zi_59, zi_106, zi_67w1, zi_67w2, zi_589, zi_590, zi_591, zi_542, zi_363, zi_578, zi_37, F.t233, kC_eq, toL_s, toL_n, okS0, okS1, okS2, okS3, okS4, okS5, true_and, and_true, hT_wI, hL_wI, hR_wI, hI_wI, hJ_wI, sI_wI, rfP, isIA_100, isIA_120, inb_ok, nI_clamp, nI_add, nI_mul, ↓reduceIte, not_false_eq_true, not_true_eq_false, true_or, or_true, ↓bI_01, ↓b01_0, ↓b01_1, bI_0, z00, z10, n4, n5, n2, n8, Nat.reduceMul, Nat.reduceAdd, Nat.reduceLT, Nat.reduceLeDiff, nI_eq, nI_leI, nI_ltI, Nat.reduceEqDiff, pk_div, nI_sub, Nat.reduceDiv, Nat.reduceSub, e_sleepersMany F]
  | 3, _ =>
    refine ⟨.int (nI (fwn r 4)), fun Q => ?_, fun Q => ?_⟩
    · rw [← e1]
      simp -implicitDefEqProofs (disch := first | omega | (simp (disch := omega) only [nb_upr]; omega)) only [R_561, w_561_0, w_561_1, w_561_2, w_561_3, w_561_4, w_561_5, w_561_6, w_561_7, w_561_8, zi_88, zi_329, zi_0, zi_0n, zi_92, zi_104, zi_67w1, zi_67w2, zi_330, zi_125, zi_64, zi_170, zi_331, zi_283, zi_68, zi_69, zi_316, zi_327, zi_37, F.t100, F.r100_0, w.t, kC_eq, toL_s, toL_n, okS0, okS1, okS2, okS3, okS4, okS5, true_and, and_true, hT_wI, hL_wI, hR_wI, hI_wI, hJ_wI, sI_wI, rfP, isIA_100, isIA_120, inb_ok, nI_clamp, nI_add, nI_mul, ↓reduceIte, not_false_eq_true, not_true_eq_false, true_or, or_true, ↓bI_01, ↓b01_0, ↓b01_1, bI_0, z00, z10, n4, n5, n2, n8, Nat.reduceMul, Nat.reduceAdd, Nat.reduceLT, Nat.reduceLeDiff, nI_eq, nI_leI, nI_ltI, Nat.reduceEqDiff, pk_div, nI_sub, Nat.reduceDiv, Nat.reduceSub, e_fullWards _ 117 h f r w]
    · rw [← e2]
      simp -implicitDefEqProofs (disch := first | omega | (simp (disch := omega) only [nb_upr]; omega)) only [R_1521, w_1521_0, w_1521_1, w_1521_2, w_1521_3, w_1521_4, w_1521_5, w_1521_6, w_1521_7, w_1521_8, zi_88, zi_329, zi_0, zi_0n, zi_357, zi_59, zi_106, zi_67w1, zi_67w2, zi_589, zi_590, zi_591, zi_542, zi_363, zi_578, zi_37, F.t233, kC_eq, toL_s, toL_n, okS0, okS1, okS2, okS3, okS4, okS5, true_and, and_true, hT_wI, hL_wI, hR_wI, hI_wI, hJ_wI, sI_wI, rfP, isIA_100, isIA_120, inb_ok, nI_clamp, nI_add, nI_mul, ↓reduceIte, not_false_eq_true, not_true_eq_false, true_or, or_true, ↓bI_01, ↓b01_0, ↓b01_1, bI_0, z00, z10, n4, n5, n2, n8, Nat.reduceMul, Nat.reduceAdd, Nat.reduceLT, Nat.reduceLeDiff, nI_eq, nI_leI, nI_ltI, Nat.reduceEqDiff, pk_div, nI_sub, Nat.reduceDiv, Nat.reduceSub, e_fullMany F]
  | 4, _ =>
    refine ⟨.int (nI m), fun Q => ?_, fun Q => ?_⟩
    · simp -implicitDefEqProofs (disch := first | omega | (simp (disch := omega) only [nb_upr]; omega)) only [R_561, w_561_0, w_561_1, w_561_2, w_561_3, w_561_4, w_561_5, w_561_6, w_561_7, w_561_8, zi_88, zi_329, zi_0, zi_0n, zi_92, zi_104, zi_67w1, zi_67w2, zi_330, zi_125, zi_64, zi_170, zi_331, zi_283, zi_68, zi_69, zi_316, zi_327, zi_37, F.t100, kC_eq, toL_s, toL_n, okS0, okS1, okS2, okS3, okS4, okS5, true_and, and_true, hT_wI, hL_wI, hR_wI, hI_wI, hJ_wI, sI_wI, rfP, isIA_100, isIA_120, inb_ok, nI_clamp, nI_add, nI_mul, ↓reduceIte, not_false_eq_true, not_true_eq_false, true_or, or_true, ↓bI_01, ↓b01_0, ↓b01_1, bI_0, z00, z10, n4, n5, n2, n8, Nat.reduceMul, Nat.reduceAdd, Nat.reduceLT, Nat.reduceLeDiff, nI_eq, nI_leI, nI_ltI, Nat.reduceEqDiff, pk_div, nI_sub, Nat.reduceDiv, Nat.reduceSub, m2]
    · simp -implicitDefEqProofs (disch := first | omega | (simp (disch := omega) only [nb_upr]; omega)) only [R_1521, w_1521_0, w_1521_1, w_1521_2, w_1521_3, w_1521_4, w_1521_5, w_1521_6, w_1521_7, w_1521_8, zi_88, zi_329, zi_0, zi_0n, zi_357, zi_59, zi_106, zi_67w1, zi_67w2, zi_589, zi_590, zi_591, zi_542, zi_363, zi_578, zi_37, F.t233, kC_eq, toL_s, toL_n, okS0, okS1, okS2, okS3, okS4, okS5, true_and, and_true, hT_wI, hL_wI, hR_wI, hI_wI, hJ_wI, sI_wI, rfP, isIA_100, isIA_120, inb_ok, nI_clamp, nI_add, nI_mul, ↓reduceIte, not_false_eq_true, not_true_eq_false, true_or, or_true, ↓bI_01, ↓b01_0, ↓b01_1, bI_0, z00, z10, n4, n5, n2, n8, Nat.reduceMul, Nat.reduceAdd, Nat.reduceLT, Nat.reduceLeDiff, nI_eq, nI_leI, nI_ltI, Nat.reduceEqDiff, pk_div, nI_sub, Nat.reduceDiv, Nat.reduceSub, m3]
  | 5, _ =>
    refine ⟨.int (nI t), fun Q => ?_, fun Q => ?_⟩
    · simp -implicitDefEqProofs (disch := first | omega | (simp (disch := omega) only [nb_upr]; omega)) only [R_561, w_561_0, w_561_1, w_561_2, w_561_3, w_561_4, w_561_5, w_561_6, w_561_7, w_561_8, zi_88, zi_329, zi_0, zi_0n, zi_92, zi_104, zi_67w1, zi_67w2, zi_330, zi_125, zi_64, zi_170, zi_331, zi_283, zi_68, zi_69, zi_316, zi_327, zi_37, F.t100, F.r100_4, F.t101, kC_eq, toL_s, toL_n, okS0, okS1, okS2, okS3, okS4, okS5, true_and, and_true, hT_wI, hL_wI, hR_wI, hI_wI, hJ_wI, sI_wI, rfP, isIA_100, isIA_120, inb_ok, nI_clamp, nI_add, nI_mul, ↓reduceIte, not_false_eq_true, not_true_eq_false, true_or, or_true, ↓bI_01, ↓b01_0, ↓b01_1, bI_0, z00, z10, n4, n5, n2, n8, Nat.reduceMul, Nat.reduceAdd, Nat.reduceLT, Nat.reduceLeDiff, nI_eq, nI_leI, nI_ltI, Nat.reduceEqDiff, pk_div, nI_sub, Nat.reduceDiv, Nat.reduceSub, t2]
    · simp -implicitDefEqProofs (disch := first | omega | (simp (disch := omega) only [nb_upr]; omega)) only [R_1521, w_1521_0, w_1521_1, w_1521_2, w_1521_3, w_1521_4, w_1521_5, w_1521_6, w_1521_7, w_1521_8, zi_88, zi_329, zi_0, zi_0n, zi_357, zi_59, zi_106, zi_67w1, zi_67w2, zi_589, zi_590, zi_591, zi_542, zi_363, zi_578, zi_37, F.t233, kC_eq, toL_s, toL_n, okS0, okS1, okS2, okS3, okS4, okS5, true_and, and_true, hT_wI, hL_wI, hR_wI, hI_wI, hJ_wI, sI_wI, rfP, isIA_100, isIA_120, inb_ok, nI_clamp, nI_add, nI_mul, ↓reduceIte, not_false_eq_true, not_true_eq_false, true_or, or_true, ↓bI_01, ↓b01_0, ↓b01_1, bI_0, z00, z10, n4, n5, n2, n8, Nat.reduceMul, Nat.reduceAdd, Nat.reduceLT, Nat.reduceLeDiff, nI_eq, nI_leI, nI_ltI, Nat.reduceEqDiff, pk_div, nI_sub, Nat.reduceDiv, Nat.reduceSub, t3]
  | 6, _ =>
    refine ⟨.int (nI u), fun Q => ?_, fun Q => ?_⟩
    · simp -implicitDefEqProofs (disch := first | omega | (simp (disch := omega) only [nb_upr]; omega)) only [R_561, w_561_0, w_561_1, w_561_2, w_561_3, w_561_4, w_561_5, w_561_6, w_561_7, w_561_8, zi_88, zi_329, zi_0, zi_0n, zi_92, zi_104, zi_67w1, zi_67w2, zi_330, zi_125, zi_64, zi_170, zi_331, zi_283, zi_68, zi_69, zi_316, zi_327, zi_37, F.t100, F.r100_5, F.t103, kC_eq, toL_s, toL_n, okS0, okS1, okS2, okS3, okS4, okS5, true_and, and_true, hT_wI, hL_wI, hR_wI, hI_wI, hJ_wI, sI_wI, rfP, isIA_100, isIA_120, inb_ok, nI_clamp, nI_add, nI_mul, ↓reduceIte, not_false_eq_true, not_true_eq_false, true_or, or_true, ↓bI_01, ↓b01_0, ↓b01_1, bI_0, z00, z10, n4, n5, n2, n8, Nat.reduceMul, Nat.reduceAdd, Nat.reduceLT, Nat.reduceLeDiff, nI_eq, nI_leI, nI_ltI, Nat.reduceEqDiff, pk_div, nI_sub, Nat.reduceDiv, Nat.reduceSub, u2]
    · simp -implicitDefEqProofs (disch := first | omega | (simp (disch := omega) only [nb_upr]; omega)) only [R_1521, w_1521_0, w_1521_1, w_1521_2, w_1521_3, w_1521_4, w_1521_5, w_1521_6, w_1521_7, w_1521_8, zi_88, zi_329, zi_0, zi_0n, zi_357, zi_59, zi_106, zi_67w1, zi_67w2, zi_589, zi_590, zi_591, zi_542, zi_363, zi_578, zi_37, F.t233, kC_eq, toL_s, toL_n, okS0, okS1, okS2, okS3, okS4, okS5, true_and, and_true, hT_wI, hL_wI, hR_wI, hI_wI, hJ_wI, sI_wI, rfP, isIA_100, isIA_120, inb_ok, nI_clamp, nI_add, nI_mul, ↓reduceIte, not_false_eq_true, not_true_eq_false, true_or, or_true, ↓bI_01, ↓b01_0, ↓b01_1, bI_0, z00, z10, n4, n5, n2, n8, Nat.reduceMul, Nat.reduceAdd, Nat.reduceLT, Nat.reduceLeDiff, nI_eq, nI_leI, nI_ltI, Nat.reduceEqDiff, pk_div, nI_sub, Nat.reduceDiv, Nat.reduceSub, u3]
end
