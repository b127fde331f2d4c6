section
/-! a clause, both sides: quotas, streets, wake -/
variable {n : Nat} {h : PH} {y : Nat → Nat} {t p : Nat} {d d' : Nat} {g : Nat → Nat → Int32} {ρ : Nat → Int32} {Q : Option Value → PH → Prop}
theorem j_quota (F : FR h) (V : Vr n ρ) (hp : p ≤ t) (hk : tK y t p = 1) (hd : 5 ≤ d) (hd' : 4 ≤ d') :
    JO h y t n p ρ (fun X v Q => Run d 1913 [.ref 101, .ref 145] (wI h (tcS (ww X 145 ρ) (nI (tE y t p)) (nI (tS y t p)) (nI (tK y t p)) v)) Q) (fun g Q => Run d' 752 [.ref 233] (wI (jP h y t p) (tmP (mf g ρ) y t p (nI 1))) Q) := by
  have a0 := tE_gt1 hk
  have a1 := tS_b (y := y) hp
  have a2 := tE_b (y := y) hp
  obtain ⟨p1, e1⟩ : ∃ p1, tE y t p = p1 := ⟨_, rfl⟩
  have hp1 : p1 ≤ t := by omega
  have b1 := tS_b (y := y) hp1
  have b2 := tE_b (y := y) hp1
  by_cases ok1 : okN y t p1 (nI 0) (nI 3)
  · obtain ⟨q, -, q3, eq⟩ := ok1.nat (by decide) (by decide)
    obtain ⟨p2, e2⟩ : ∃ p2, tE y t p1 = p2 := ⟨_, rfl⟩
    have hp2 : p2 ≤ t := by omega
    have c1 := tS_b (y := y) hp2
    have c2 := tE_b (y := y) hp2
    have er0 := fun (g : Nat → Nat → Int32) (MG0 : MG y t g) d hd Q => e_advP (g := mf g ρ) F (MG.mf (g := g) MG0 ρ) hp (nI 1) d hd Q
    have er1 := fun (g : Nat → Nat → Int32) (MG0 : MG y t g) d hd Q => e_mN1 (g := mf g ρ) F (MG.mf (g := g) MG0 ρ) hp1 (nI 0) (nI 3) ok1.1 ok1.2 d hd Q
    rw [e1] at er0
    rw [e2, eq] at er1
    by_cases ok : okN y t p2 (nI 0) (nI 999)
    · obtain ⟨p3, e3⟩ : ∃ p3, tE y t p2 = p3 := ⟨_, rfl⟩
      have hp3 : p3 ≤ t := by omega
      have f1 := tS_b (y := y) hp3
      have f2 := tE_b (y := y) hp3
      have er2 := fun (g : Nat → Nat → Int32) (MG0 : MG y t g) d hd Q => e_mN1 (g := mf g ρ) F (MG.mf (g := g) MG0 ρ) hp2 (nI 0) (nI 999) ok.1 ok.2 d hd Q
      rw [e3] at er2
      by_cases he : isE y t p3
      · refine Or.inl ⟨tE y t p3, upr ρ (68 + 2 * q) (tV y t p2), by omega, by omega, V.put (lim_lt (by omega)) (by omega) (by rw [okq_f (by omega)]; trivial), upr_ne _ _ (by omega), fun X v G0 X0 T0 => ⟨X, nI (tS y t p3), nI (tK y t p3), tVV y t p3 (tV y t p2), XO.refl X, fun Q => ?_⟩, fun g MG0 Q => ?_⟩
        · obtain ⟨b, hb⟩ : ∃ b, b = 145 := ⟨_, rfl⟩
          have w := F.w145
          have G1 := G0.xo (XO.ww (X := X) ρ)
          rw [← hb] at w G1 ⊢
          have he' : isE y t (tE y t p2) := by rw [e3]; exact he
          have q4 : q < 4 := by omega
          have hn := fun s k v d hd Q => c_num1 (a := b + 6) (i := q) F G1 hp2 ok he' w.t6 w.l6 q4 (by decide) (by omega) s k v d hd Q
          rw [e3] at hn
          have hr1 := fun s k v d hd Q => e_cN1 F G1 hp1 ok1 s k v d hd Q
          rw [e2, eq] at hr1
          rw [e1]
          simp -implicitDefEqProofs (disch := first | omega | (simp (disch := omega) only [nb_upr]; omega)) only [R_1913, w_1913_0, w_1913_1, zi_0, zi_0n, zi_31, zi_54, zi_658, zi_98, zi_67w1, zi_67w2, zi_23, zi_23n, zi_118, zi_637, zi_117, zi_648, F.t101, w.t, w.r6, kC_eq, toL_s, toL_n, okS0, okS1, okS2, okS3, okS4, okS5, true_and, and_true, hT_wI, hL_wI, hR_wI, hI_wI, hJ_wI, sI_wI, rfP, isIA_100, isIA_120, inb_ok, nI_clamp, nI_add, nI_mul, ↓reduceIte, not_false_eq_true, not_true_eq_false, true_or, or_true, ↓bI_01, ↓b01_0, ↓b01_1, bI_0, z00, z10, n4, n5, n2, n8, Nat.reduceMul, Nat.reduceAdd, Nat.reduceLT, Nat.reduceLeDiff, hr1, hn, tc_5, ws_6]
        · have er3 := fun d hd Q => e_mE1 (g := mf g ρ) F (MG0.mf ρ) hp3 he d hd Q
          simp -implicitDefEqProofs (disch := first | omega | (simp (disch := omega) only [nb_upr]; omega)) only [R_752, w_752_0, w_752_1, zi_0, zi_0n, zi_373, zi_31, zi_54, zi_423, zi_96i, zi_96r, zi_96u, zi_96a, zi_117, zi_32i, zi_32r, zi_32u, zi_32a, zi_424, zi_374, zi_66, zi_372, zi_361, zi_51, zi_88, zi_79, zi_70, zi_34, zi_38, zi_33, zi_41, hT_jP, hL_jP, hR_jP, F.t233, F.r233_1, F.t235, F.l235, kC_eq, toL_s, toL_n, okS0, okS1, okS2, okS3, okS4, okS5, true_and, and_true, hT_wI, hL_wI, hR_wI, hI_wI, hJ_wI, sI_wI, rfP, isIA_100, isIA_120, inb_ok, nI_clamp, nI_add, nI_mul, ↓reduceIte, not_false_eq_true, not_true_eq_false, true_or, or_true, ↓bI_01, ↓b01_0, ↓b01_1, bI_0, z00, z10, n4, n5, n2, n8, Nat.reduceMul, Nat.reduceAdd, Nat.reduceLT, Nat.reduceLeDiff, er0 g MG0, er1 g MG0, er2 g MG0, er3, tp_13, tp_uo, mf_w]
      · refine Or.inr ⟨p3, hp3, fun X v G0 X0 T0 => ⟨X, ρ, nI (tE y t p3), nI (tK y t p3), tVV y t p3 (tV y t p2), XO.refl X, fun Q => ?_⟩, fun g MG0 => ⟨ρ, fun Q => ?_⟩⟩
        · obtain ⟨b, hb⟩ : ∃ b, b = 145 := ⟨_, rfl⟩
          have w := F.w145
          have G1 := G0.xo (XO.ww (X := X) ρ)
          rw [← hb] at w G1 ⊢
          have he' : ¬ isE y t (tE y t p2) := by rw [e3]; exact he
          have hn := fun i s k v d hd Q => c_num3 F G1 hp2 ok he' (b + 6) i s k v d hd Q
          rw [e3] at hn
          have hr1 := fun s k v d hd Q => e_cN1 F G1 hp1 ok1 s k v d hd Q
          rw [e2, eq] at hr1
          rw [e1]
          simp -implicitDefEqProofs (disch := first | omega | (simp (disch := omega) only [nb_upr]; omega)) only [R_1913, w_1913_0, w_1913_1, zi_0, zi_0n, zi_31, zi_54, zi_658, zi_98, zi_67w1, zi_67w2, zi_23, zi_23n, zi_118, zi_637, zi_117, zi_648, F.t101, w.t, w.r6, kC_eq, toL_s, toL_n, okS0, okS1, okS2, okS3, okS4, okS5, true_and, and_true, hT_wI, hL_wI, hR_wI, hI_wI, hJ_wI, sI_wI, rfP, isIA_100, isIA_120, inb_ok, nI_clamp, nI_add, nI_mul, ↓reduceIte, not_false_eq_true, not_true_eq_false, true_or, or_true, ↓bI_01, ↓b01_0, ↓b01_1, bI_0, z00, z10, n4, n5, n2, n8, Nat.reduceMul, Nat.reduceAdd, Nat.reduceLT, Nat.reduceLeDiff, hr1, hn, tc_5]
        · have er3 := fun d hd Q => e_mE0 (g := mf g ρ) F (MG0.mf ρ) he d hd Q
          simp -implicitDefEqProofs (disch := first | omega | (simp (disch := omega) only [nb_upr]; omega)) only [R_752, w_752_0, w_752_1, zi_0, zi_0n, zi_373, zi_31, zi_54, zi_423, zi_96i, zi_96r, zi_96u, zi_96a, zi_117, zi_32i, zi_32r, zi_32u, zi_32a, zi_424, zi_374, zi_66, zi_372, zi_361, zi_51, zi_88, zi_79, zi_70, zi_34, zi_38, zi_33, zi_41, hT_jP, hL_jP, hR_jP, F.t233, F.r233_1, F.t235, F.l235, kC_eq, toL_s, toL_n, okS0, okS1, okS2, okS3, okS4, okS5, true_and, and_true, hT_wI, hL_wI, hR_wI, hI_wI, hJ_wI, sI_wI, rfP, isIA_100, isIA_120, inb_ok, nI_clamp, nI_add, nI_mul, ↓reduceIte, not_false_eq_true, not_true_eq_false, true_or, or_true, ↓bI_01, ↓b01_0, ↓b01_1, bI_0, z00, z10, n4, n5, n2, n8, Nat.reduceMul, Nat.reduceAdd, Nat.reduceLT, Nat.reduceLeDiff, er0 g MG0, er1 g MG0, er2 g MG0, er3, tp_13]
    · refine Or.inr ⟨p2, hp2, fun X v G0 X0 T0 => ⟨X, ρ, nI (tE y t p2), nI (tK y t p2), tVV y t p2 (nI q), XO.refl X, fun Q => ?_⟩, fun g MG0 => ⟨ρ, fun Q => ?_⟩⟩
      · obtain ⟨b, hb⟩ : ∃ b, b = 145 := ⟨_, rfl⟩
        have w := F.w145
        have G1 := G0.xo (XO.ww (X := X) ρ)
        rw [← hb] at w G1 ⊢
        have hn := fun i s k v d hd Q => c_num2 F G1 hp2 ok (b + 6) i s k v d hd Q
        have hr1 := fun s k v d hd Q => e_cN1 F G1 hp1 ok1 s k v d hd Q
        rw [e2, eq] at hr1
        rw [e1]
        simp -implicitDefEqProofs (disch := first | omega | (simp (disch := omega) only [nb_upr]; omega)) only [R_1913, w_1913_0, w_1913_1, zi_0, zi_0n, zi_31, zi_54, zi_658, zi_98, zi_67w1, zi_67w2, zi_23, zi_23n, zi_118, zi_637, zi_117, zi_648, F.t101, w.t, w.r6, kC_eq, toL_s, toL_n, okS0, okS1, okS2, okS3, okS4, okS5, true_and, and_true, hT_wI, hL_wI, hR_wI, hI_wI, hJ_wI, sI_wI, rfP, isIA_100, isIA_120, inb_ok, nI_clamp, nI_add, nI_mul, ↓reduceIte, not_false_eq_true, not_true_eq_false, true_or, or_true, ↓bI_01, ↓b01_0, ↓b01_1, bI_0, z00, z10, n4, n5, n2, n8, Nat.reduceMul, Nat.reduceAdd, Nat.reduceLT, Nat.reduceLeDiff, hr1, hn, tc_5]
      · have er2 := fun d hd Q => e_mN0 (g := mf g ρ) F (nI 0) (nI 999) ok d hd Q
        simp -implicitDefEqProofs (disch := first | omega | (simp (disch := omega) only [nb_upr]; omega)) only [R_752, w_752_0, w_752_1, zi_0, zi_0n, zi_373, zi_31, zi_54, zi_423, zi_96i, zi_96r, zi_96u, zi_96a, zi_117, zi_32i, zi_32r, zi_32u, zi_32a, zi_424, zi_374, zi_66, zi_372, zi_361, zi_51, zi_88, zi_79, zi_70, zi_34, zi_38, zi_33, zi_41, hT_jP, hL_jP, hR_jP, F.t233, F.r233_1, F.t235, F.l235, kC_eq, toL_s, toL_n, okS0, okS1, okS2, okS3, okS4, okS5, true_and, and_true, hT_wI, hL_wI, hR_wI, hI_wI, hJ_wI, sI_wI, rfP, isIA_100, isIA_120, inb_ok, nI_clamp, nI_add, nI_mul, ↓reduceIte, not_false_eq_true, not_true_eq_false, true_or, or_true, ↓bI_01, ↓b01_0, ↓b01_1, bI_0, z00, z10, n4, n5, n2, n8, Nat.reduceMul, Nat.reduceAdd, Nat.reduceLT, Nat.reduceLeDiff, er0 g MG0, er1 g MG0, er2, e_mEz F, tp_13]
  · refine Or.inr ⟨p1, hp1, fun X v G0 X0 T0 => ⟨X, ρ, nI (tE y t p1), nI (tK y t p1), tVV y t p1 v, XO.refl X, fun Q => ?_⟩, fun g MG0 => ⟨ρ, fun Q => ?_⟩⟩
    · have G1 := G0.xo (XO.ww (X := X) ρ)
      have hr1 := fun s k v d hd Q => e_cN0 F G1 hp1 ok1 s k v d hd Q
      rw [e1]
      simp -implicitDefEqProofs (disch := first | omega | (simp (disch := omega) only [nb_upr]; omega)) only [R_1913, w_1913_0, w_1913_1, zi_0, zi_0n, zi_31, zi_54, zi_658, zi_98, zi_67w1, zi_67w2, zi_23, zi_23n, zi_118, zi_637, zi_117, zi_648, F.t101, kC_eq, toL_s, toL_n, okS0, okS1, okS2, okS3, okS4, okS5, true_and, and_true, hT_wI, hL_wI, hR_wI, hI_wI, hJ_wI, sI_wI, rfP, isIA_100, isIA_120, inb_ok, nI_clamp, nI_add, nI_mul, ↓reduceIte, not_false_eq_true, not_true_eq_false, true_or, or_true, ↓bI_01, ↓b01_0, ↓b01_1, bI_0, z00, z10, n4, n5, n2, n8, Nat.reduceMul, Nat.reduceAdd, Nat.reduceLT, Nat.reduceLeDiff, hr1]
    · have er1 := fun d hd Q => e_mN0 (g := mf g ρ) F (nI 0) (nI 3) ok1 d hd Q
      have er0 := fun d hd Q => e_advP (g := mf g ρ) F (MG0.mf ρ) hp (nI 1) d hd Q
      rw [e1] at er0
      simp -implicitDefEqProofs (disch := first | omega | (simp (disch := omega) only [nb_upr]; omega)) only [R_752, w_752_0, w_752_1, zi_0, zi_0n, zi_373, zi_31, zi_54, zi_423, zi_96i, zi_96r, zi_96u, zi_96a, zi_117, zi_32i, zi_32r, zi_32u, zi_32a, zi_424, zi_374, zi_66, zi_372, zi_361, zi_51, zi_88, zi_79, zi_70, zi_34, zi_38, zi_33, zi_41, hT_jP, hL_jP, hR_jP, F.t233, F.r233_1, F.t235, F.l235, kC_eq, toL_s, toL_n, okS0, okS1, okS2, okS3, okS4, okS5, true_and, and_true, hT_wI, hL_wI, hR_wI, hI_wI, hJ_wI, sI_wI, rfP, isIA_100, isIA_120, inb_ok, nI_clamp, nI_add, nI_mul, ↓reduceIte, not_false_eq_true, not_true_eq_false, true_or, or_true, ↓bI_01, ↓b01_0, ↓b01_1, bI_0, z00, z10, n4, n5, n2, n8, Nat.reduceMul, Nat.reduceAdd, Nat.reduceLT, Nat.reduceLeDiff, er0, er1, e_mNz F, e_mEz F, tp_13]
theorem j_street (F : FR h) (V : Vr n ρ) (hp : p ≤ t) (hk : tK y t p = 1) (hd : 5 ≤ d) (hd' : 4 ≤ d') :
    JO h y t n p ρ (fun X v Q => Run d 1873 [.ref 101, .ref 145] (wI h (tcS (ww X 145 ρ) (nI (tE y t p)) (nI (tS y t p)) (nI (tK y t p)) v)) Q) (fun g Q => Run d' 720 [.ref 233] (wI (jP h y t p) (tmP (mf g ρ) y t p (nI 1))) Q) := by
  have a0 := tE_gt1 hk
  have a1 := tS_b (y := y) hp
  have a2 := tE_b (y := y) hp
  obtain ⟨p1, e1⟩ : ∃ p1, tE y t p = p1 := ⟨_, rfl⟩
  have hp1 : p1 ≤ t := by omega
  have b1 := tS_b (y := y) hp1
  have b2 := tE_b (y := y) hp1
  have lt0 : Int32.ofInt (-3) < (0 : Int32) := by decide
  have x19 := fun (g : Nat → Nat → Int32) (X : TX h g) => (X 19 (by decide) (by decide)).1
  have cw19 : wc 19 = 203470477543 := by decide +kernel
  have er0 := fun (g : Nat → Nat → Int32) (MG0 : MG y t g) d hd Q => e_advP (g := mf g ρ) F (MG.mf (g := g) MG0 ρ) hp (nI 1) d hd Q
  rw [e1] at er0
  by_cases ok1 : okN y t p1 (nI 0) (nI 7)
  · obtain ⟨q, -, q7, eq⟩ := ok1.nat (by decide) (by decide)
    obtain ⟨p2, e2⟩ : ∃ p2, tE y t p1 = p2 := ⟨_, rfl⟩
    have hp2 : p2 ≤ t := by omega
    have c1 := tS_b (y := y) hp2
    have c2 := tE_b (y := y) hp2
    have er1 := fun (g : Nat → Nat → Int32) (MG0 : MG y t g) d hd Q => e_mN1 (g := mf g ρ) F (MG.mf (g := g) MG0 ρ) hp1 (nI 0) (nI 7) ok1.1 ok1.2 d hd Q
    rw [e2, eq] at er1
    obtain ⟨p3, e3⟩ : ∃ p3, tE y t p2 = p3 := ⟨_, rfl⟩
    have hp3 : p3 ≤ t := by omega
    have f1 := tS_b (y := y) hp3
    have f2 := tE_b (y := y) hp3
    obtain ⟨p4, e4⟩ : ∃ p4, tE y t p3 = p4 := ⟨_, rfl⟩
    have hp4 : p4 ≤ t := by omega
    have g1 := tS_b (y := y) hp4
    have g2 := tE_b (y := y) hp4
    have er2 := fun (g : Nat → Nat → Int32) (MG0 : MG y t g) d hd Q => e_advP (g := mf g ρ) F (MG.mf (g := g) MG0 ρ) hp2 (nI 1) d hd Q
    rw [e3] at er2
    by_cases hw : isW y t p2 19 = true
    · by_cases ok : okN y t p3 (nI 0) (nI 9)
      · have er3 := fun (g : Nat → Nat → Int32) (MG0 : MG y t g) d hd Q => e_mN1 (g := mf g ρ) F (MG.mf (g := g) MG0 ρ) hp3 (nI 0) (nI 9) ok.1 ok.2 d hd Q
        rw [e4] at er3
        by_cases he : isE y t p4
        · obtain ⟨k, -, k9, ek⟩ := ok.nat (by decide) (by decide)
          have e17 : 12 + 7 * q + 5 = 17 + 7 * q := by omega
          refine Or.inl ⟨tE y t p4, upr ρ (17 + 7 * q) (tV y t p3), by omega, by omega, V.put (lim_lt (by omega)) (by omega) (by rw [okq_sl (by omega), ek]; exact ⟨k, k9, rfl⟩), upr_ne _ _ (by omega), fun X v G0 X0 T0 => ⟨X, nI (tS y t p4), nI (tK y t p4), tVV y t p4 (tV y t p3), XO.refl X, fun Q => ?_⟩, fun g MG0 Q => ?_⟩
          · obtain ⟨b, hb⟩ : ∃ b, b = 145 := ⟨_, rfl⟩
            have w := F.w145
            have G1 := G0.xo (XO.ww (X := X) ρ)
            have X1 := X0.xo (XO.ww (X := X) ρ)
            rw [← hb] at w G1 X1 ⊢
            have he' : isE y t (tE y t p3) := by rw [e4]; exact he
            have q8 : q < 8 := by omega
            have hn := fun s k v d hd Q => c_num1 (a := b + 4) (i := q) F G1 hp3 ok he' w.t4 w.l4 q8 (by decide) (by omega) s k v d hd Q
            rw [e4] at hn
            have hr1 := fun s k v d hd Q => e_cN1 F G1 hp1 ok1 s k v d hd Q
            rw [e2, eq] at hr1
            have hst := fun s k v d hd Q => e_step F G1 p2 hp2 s k v d hd Q
            have hwd := fun v d Q => e_cW F G1 X1 19 (by decide) (by decide) p2 hp2 v d Q
            rw [e3] at hst hwd
            rw [e1]
            simp -implicitDefEqProofs (disch := first | omega | (simp (disch := omega) only [nb_upr]; omega)) only [R_1873, w_1873_0, w_1873_1, w_1873_2, w_1873_3, w_1873_4, zi_0, zi_0n, zi_31, zi_123, zi_658, zi_98, zi_67w1, zi_67w2, zi_637, zi_32i, zi_32r, zi_32u, zi_32a, zi_626, zi_663, zi_639, zi_108, zi_23, zi_23n, zi_125, zi_34, zi_130, zi_648, zi_664, zi_111i, zi_111r, zi_111u, zi_111a, zi_63, zi_548, zi_128, zi_59, zi_79, zi_70, zi_132, zi_297, zi_48, zi_131, zi_133, F.t101, x19 _ X1, w.t, w.r4, kC_eq, toL_s, toL_n, okS0, okS1, okS2, okS3, okS4, okS5, true_and, and_true, hT_wI, hL_wI, hR_wI, hI_wI, hJ_wI, sI_wI, rfP, isIA_100, isIA_120, inb_ok, nI_clamp, nI_add, nI_mul, ↓reduceIte, not_false_eq_true, not_true_eq_false, true_or, or_true, ↓bI_01, ↓b01_0, ↓b01_1, bI_0, z00, z10, n4, n5, n2, n8, Nat.reduceMul, Nat.reduceAdd, Nat.reduceLT, Nat.reduceLeDiff, hr1, hst, hwd, hw, hn, tc_5, ws_4, e17]
          · have er4 := fun d hd Q => e_mE1 (g := mf g ρ) F (MG0.mf ρ) hp4 he d hd Q
            simp -implicitDefEqProofs (disch := first | omega | (simp (disch := omega) only [nb_upr]; omega)) only [R_720, w_720_0, w_720_1, w_720_2, w_720_3, w_720_4, w_720_5, w_720_6, w_720_7, zi_0, zi_0n, zi_373, zi_31, zi_123, zi_423, zi_96i, zi_96r, zi_96u, zi_96a, zi_374, zi_66, zi_439, zi_416, zi_48, zi_112, zi_113, zi_32i, zi_32r, zi_32u, zi_32a, zi_59, zi_111i, zi_111r, zi_111u, zi_111a, zi_34, zi_297, zi_131, zi_287, zi_440, zi_133, zi_134, zi_130, zi_236, zi_132, zi_237, zi_74i, zi_74r, zi_74u, zi_74a, zi_424, zi_241, zi_372, zi_360, zi_88, zi_79, zi_70, zi_63, zi_76, zi_38, zi_214, zi_41, hT_jP, hL_jP, hR_jP, F.t233, F.r233_1, F.t235, F.l235, kC_eq, toL_s, toL_n, okS0, okS1, okS2, okS3, okS4, okS5, true_and, and_true, hT_wI, hL_wI, hR_wI, hI_wI, hJ_wI, sI_wI, rfP, isIA_100, isIA_120, inb_ok, nI_clamp, nI_add, nI_mul, ↓reduceIte, not_false_eq_true, not_true_eq_false, true_or, or_true, ↓bI_01, ↓b01_0, ↓b01_1, bI_0, z00, z10, n4, n5, n2, n8, Nat.reduceMul, Nat.reduceAdd, Nat.reduceLT, Nat.reduceLeDiff, er0 g MG0, er1 g MG0, e_mW F _ _ cw19, hw, er2 g MG0, er3 g MG0, er4, tp_13, tp_uo, mf_w, e17]
        · refine Or.inr ⟨p4, hp4, fun X v G0 X0 T0 => ⟨X, ρ, nI (tE y t p4), nI (tK y t p4), tVV y t p4 (tV y t p3), XO.refl X, fun Q => ?_⟩, fun g MG0 => ⟨ρ, fun Q => ?_⟩⟩
          · obtain ⟨b, hb⟩ : ∃ b, b = 145 := ⟨_, rfl⟩
            have w := F.w145
            have G1 := G0.xo (XO.ww (X := X) ρ)
            have X1 := X0.xo (XO.ww (X := X) ρ)
            rw [← hb] at w G1 X1 ⊢
            have he' : ¬ isE y t (tE y t p3) := by rw [e4]; exact he
            have hn := fun i s k v d hd Q => c_num3 F G1 hp3 ok he' (b + 4) i s k v d hd Q
            rw [e4] at hn
            have hr1 := fun s k v d hd Q => e_cN1 F G1 hp1 ok1 s k v d hd Q
            rw [e2, eq] at hr1
            have hst := fun s k v d hd Q => e_step F G1 p2 hp2 s k v d hd Q
            have hwd := fun v d Q => e_cW F G1 X1 19 (by decide) (by decide) p2 hp2 v d Q
            rw [e3] at hst hwd
            rw [e1]
            simp -implicitDefEqProofs (disch := first | omega | (simp (disch := omega) only [nb_upr]; omega)) only [R_1873, w_1873_0, w_1873_1, w_1873_2, w_1873_3, w_1873_4, zi_0, zi_0n, zi_31, zi_123, zi_658, zi_98, zi_67w1, zi_67w2, zi_637, zi_32i, zi_32r, zi_32u, zi_32a, zi_626, zi_663, zi_639, zi_108, zi_23, zi_23n, zi_125, zi_34, zi_130, zi_648, zi_664, zi_111i, zi_111r, zi_111u, zi_111a, zi_63, zi_548, zi_128, zi_59, zi_79, zi_70, zi_132, zi_297, zi_48, zi_131, zi_133, F.t101, x19 _ X1, w.t, w.r4, kC_eq, toL_s, toL_n, okS0, okS1, okS2, okS3, okS4, okS5, true_and, and_true, hT_wI, hL_wI, hR_wI, hI_wI, hJ_wI, sI_wI, rfP, isIA_100, isIA_120, inb_ok, nI_clamp, nI_add, nI_mul, ↓reduceIte, not_false_eq_true, not_true_eq_false, true_or, or_true, ↓bI_01, ↓b01_0, ↓b01_1, bI_0, z00, z10, n4, n5, n2, n8, Nat.reduceMul, Nat.reduceAdd, Nat.reduceLT, Nat.reduceLeDiff, hr1, hst, hwd, hw, hn, tc_5]
          · have er4 := fun d hd Q => e_mE0 (g := mf g ρ) F (MG0.mf ρ) he d hd Q
            simp -implicitDefEqProofs (disch := first | omega | (simp (disch := omega) only [nb_upr]; omega)) only [R_720, w_720_0, w_720_1, w_720_2, w_720_3, w_720_4, w_720_5, w_720_6, w_720_7, zi_0, zi_0n, zi_373, zi_31, zi_123, zi_423, zi_96i, zi_96r, zi_96u, zi_96a, zi_374, zi_66, zi_439, zi_416, zi_48, zi_112, zi_113, zi_32i, zi_32r, zi_32u, zi_32a, zi_59, zi_111i, zi_111r, zi_111u, zi_111a, zi_34, zi_297, zi_131, zi_287, zi_440, zi_133, zi_134, zi_130, zi_236, zi_132, zi_237, zi_74i, zi_74r, zi_74u, zi_74a, zi_424, zi_241, zi_372, zi_360, zi_88, zi_79, zi_70, zi_63, zi_76, zi_38, zi_214, zi_41, hT_jP, hL_jP, hR_jP, F.t233, F.r233_1, F.t235, F.l235, kC_eq, toL_s, toL_n, okS0, okS1, okS2, okS3, okS4, okS5, true_and, and_true, hT_wI, hL_wI, hR_wI, hI_wI, hJ_wI, sI_wI, rfP, isIA_100, isIA_120, inb_ok, nI_clamp, nI_add, nI_mul, ↓reduceIte, not_false_eq_true, not_true_eq_false, true_or, or_true, ↓bI_01, ↓b01_0, ↓b01_1, bI_0, z00, z10, n4, n5, n2, n8, Nat.reduceMul, Nat.reduceAdd, Nat.reduceLT, Nat.reduceLeDiff, er0 g MG0, er1 g MG0, e_mW F _ _ cw19, hw, er2 g MG0, er3 g MG0, er4, tp_13]
      · refine Or.inr ⟨p3, hp3, fun X v G0 X0 T0 => ⟨X, ρ, nI (tE y t p3), nI (tK y t p3), tVV y t p3 (tVV y t p2 (nI q)), XO.refl X, fun Q => ?_⟩, fun g MG0 => ⟨ρ, fun Q => ?_⟩⟩
        · obtain ⟨b, hb⟩ : ∃ b, b = 145 := ⟨_, rfl⟩
          have w := F.w145
          have G1 := G0.xo (XO.ww (X := X) ρ)
          have X1 := X0.xo (XO.ww (X := X) ρ)
          rw [← hb] at w G1 X1 ⊢
          have hn := fun i s k v d hd Q => c_num2 F G1 hp3 ok (b + 4) i s k v d hd Q
          have hr1 := fun s k v d hd Q => e_cN1 F G1 hp1 ok1 s k v d hd Q
          rw [e2, eq] at hr1
          have hst := fun s k v d hd Q => e_step F G1 p2 hp2 s k v d hd Q
          have hwd := fun v d Q => e_cW F G1 X1 19 (by decide) (by decide) p2 hp2 v d Q
          rw [e3] at hst hwd
          rw [e1]
          simp -implicitDefEqProofs (disch := first | omega | (simp (disch := omega) only [nb_upr]; omega)) only [R_1873, w_1873_0, w_1873_1, w_1873_2, w_1873_3, w_1873_4, zi_0, zi_0n, zi_31, zi_123, zi_658, zi_98, zi_67w1, zi_67w2, zi_637, zi_32i, zi_32r, zi_32u, zi_32a, zi_626, zi_663, zi_639, zi_108, zi_23, zi_23n, zi_125, zi_34, zi_130, zi_648, zi_664, zi_111i, zi_111r, zi_111u, zi_111a, zi_63, zi_548, zi_128, zi_59, zi_79, zi_70, zi_132, zi_297, zi_48, zi_131, zi_133, F.t101, x19 _ X1, w.t, w.r4, kC_eq, toL_s, toL_n, okS0, okS1, okS2, okS3, okS4, okS5, true_and, and_true, hT_wI, hL_wI, hR_wI, hI_wI, hJ_wI, sI_wI, rfP, isIA_100, isIA_120, inb_ok, nI_clamp, nI_add, nI_mul, ↓reduceIte, not_false_eq_true, not_true_eq_false, true_or, or_true, ↓bI_01, ↓b01_0, ↓b01_1, bI_0, z00, z10, n4, n5, n2, n8, Nat.reduceMul, Nat.reduceAdd, Nat.reduceLT, Nat.reduceLeDiff, hr1, hst, hwd, hw, hn, tc_5]
        · have er3 := fun d hd Q => e_mN0 (g := mf g ρ) F (nI 0) (nI 9) ok d hd Q
          simp -implicitDefEqProofs (disch := first | omega | (simp (disch := omega) only [nb_upr]; omega)) only [R_720, w_720_0, w_720_1, w_720_2, w_720_3, w_720_4, w_720_5, w_720_6, w_720_7, zi_0, zi_0n, zi_373, zi_31, zi_123, zi_423, zi_96i, zi_96r, zi_96u, zi_96a, zi_374, zi_66, zi_439, zi_416, zi_48, zi_112, zi_113, zi_32i, zi_32r, zi_32u, zi_32a, zi_59, zi_111i, zi_111r, zi_111u, zi_111a, zi_34, zi_297, zi_131, zi_287, zi_440, zi_133, zi_134, zi_130, zi_236, zi_132, zi_237, zi_74i, zi_74r, zi_74u, zi_74a, zi_424, zi_241, zi_372, zi_360, zi_88, zi_79, zi_70, zi_63, zi_76, zi_38, zi_214, zi_41, hT_jP, hL_jP, hR_jP, F.t233, F.r233_1, F.t235, F.l235, kC_eq, toL_s, toL_n, okS0, okS1, okS2, okS3, okS4, okS5, true_and, and_true, hT_wI, hL_wI, hR_wI, hI_wI, hJ_wI, sI_wI, rfP, isIA_100, isIA_120, inb_ok, nI_clamp, nI_add, nI_mul, ↓reduceIte, not_false_eq_true, not_true_eq_false, true_or, or_true, ↓bI_01, ↓b01_0, ↓b01_1, bI_0, z00, z10, n4, n5, n2, n8, Nat.reduceMul, Nat.reduceAdd, Nat.reduceLT, Nat.reduceLeDiff, er0 g MG0, er1 g MG0, e_mW F _ _ cw19, hw, er2 g MG0, er3, e_mEz F, tp_13]
    · by_cases hs : srt y t p2 < 5
      · have nlt : ¬ nI (srt y t p2) < (0 : Int32) := nI_pos (by omega)
        have er2s := fun (g : Nat → Nat → Int32) (MG0 : MG y t g) d hd Q => e_mS1 (g := mf g ρ) F (MG.mf (g := g) MG0 ρ) hp2 hs d hd Q
        rw [e3] at er2s
        by_cases ok : okN y t p3 (nI 0) (nI 99)
        · have er3 := fun (g : Nat → Nat → Int32) (MG0 : MG y t g) d hd Q => e_mN1 (g := mf g ρ) F (MG.mf (g := g) MG0 ρ) hp3 (nI 0) (nI 99) ok.1 ok.2 d hd Q
          rw [e4] at er3
          by_cases he : isE y t p4
          · obtain ⟨k, -, k99, ek⟩ := ok.nat (by decide) (by decide)
            refine Or.inl ⟨tE y t p4, upr ρ (12 + 7 * q + srt y t p2) (tV y t p3), by omega, by omega, V.put (lim_lt (by omega)) (by omega) (by rw [okq_s (by omega) hs, ek]; exact ⟨k, k99, rfl⟩), upr_ne _ _ (by omega), fun X v G0 X0 T0 => ⟨X, nI (tS y t p4), nI (tK y t p4), tVV y t p4 (tV y t p3), XO.refl X, fun Q => ?_⟩, fun g MG0 Q => ?_⟩
            · obtain ⟨b, hb⟩ : ∃ b, b = 145 := ⟨_, rfl⟩
              have w := F.w145
              have G1 := G0.xo (XO.ww (X := X) ρ)
              have X1 := X0.xo (XO.ww (X := X) ρ)
              rw [← hb] at w G1 X1 ⊢
              have he' : isE y t (tE y t p3) := by rw [e4]; exact he
              have q40 : q * 5 + srt y t p2 < 40 := by omega
              have hn := fun s k v d hd Q => c_num1 (a := b + 3) (i := q * 5 + srt y t p2) F G1 hp3 ok he' w.t3 w.l3 q40 (by decide) (by omega) s k v d hd Q
              rw [e4] at hn
              have hr1 := fun s k v d hd Q => e_cN1 F G1 hp1 ok1 s k v d hd Q
              rw [e2, eq] at hr1
              have hst := fun s k v d hd Q => e_step F G1 p2 hp2 s k v d hd Q
              have hwd := fun v d Q => e_cW F G1 X1 19 (by decide) (by decide) p2 hp2 v d Q
              have hsr := fun v d hd Q => e_cS1 F G1 X1 hp2 hs v d hd Q
              rw [e3] at hst hwd hsr
              rw [e1]
              simp -implicitDefEqProofs (disch := first | omega | (simp (disch := omega) only [nb_upr]; omega)) only [R_1873, w_1873_0, w_1873_1, w_1873_2, w_1873_3, w_1873_4, zi_0, zi_0n, zi_31, zi_123, zi_658, zi_98, zi_67w1, zi_67w2, zi_637, zi_32i, zi_32r, zi_32u, zi_32a, zi_626, zi_663, zi_639, zi_108, zi_23, zi_23n, zi_125, zi_34, zi_130, zi_648, zi_664, zi_111i, zi_111r, zi_111u, zi_111a, zi_63, zi_548, zi_128, zi_59, zi_79, zi_70, zi_132, zi_297, zi_48, zi_131, zi_133, F.t101, x19 _ X1, w.t, w.r3, kC_eq, toL_s, toL_n, okS0, okS1, okS2, okS3, okS4, okS5, true_and, and_true, hT_wI, hL_wI, hR_wI, hI_wI, hJ_wI, sI_wI, rfP, isIA_100, isIA_120, inb_ok, nI_clamp, nI_add, nI_mul, ↓reduceIte, not_false_eq_true, not_true_eq_false, true_or, or_true, ↓bI_01, ↓b01_0, ↓b01_1, bI_0, z00, z10, n4, n5, n2, n8, Nat.reduceMul, Nat.reduceAdd, Nat.reduceLT, Nat.reduceLeDiff, hr1, hst, hwd, hw, hsr, nlt, hn, tc_5, ws_s, Bool.false_eq_true]
            · have er4 := fun d hd Q => e_mE1 (g := mf g ρ) F (MG0.mf ρ) hp4 he d hd Q
              simp -implicitDefEqProofs (disch := first | omega | (simp (disch := omega) only [nb_upr]; omega)) only [R_720, w_720_0, w_720_1, w_720_2, w_720_3, w_720_4, w_720_5, w_720_6, w_720_7, zi_0, zi_0n, zi_373, zi_31, zi_123, zi_423, zi_96i, zi_96r, zi_96u, zi_96a, zi_374, zi_66, zi_439, zi_416, zi_48, zi_112, zi_113, zi_32i, zi_32r, zi_32u, zi_32a, zi_59, zi_111i, zi_111r, zi_111u, zi_111a, zi_34, zi_297, zi_131, zi_287, zi_440, zi_133, zi_134, zi_130, zi_236, zi_132, zi_237, zi_74i, zi_74r, zi_74u, zi_74a, zi_424, zi_241, zi_372, zi_360, zi_88, zi_79, zi_70, zi_63, zi_76, zi_38, zi_214, zi_41, hT_jP, hL_jP, hR_jP, F.t233, F.r233_1, F.t235, F.l235, kC_eq, toL_s, toL_n, okS0, okS1, okS2, okS3, okS4, okS5, true_and, and_true, hT_wI, hL_wI, hR_wI, hI_wI, hJ_wI, sI_wI, rfP, isIA_100, isIA_120, inb_ok, nI_clamp, nI_add, nI_mul, ↓reduceIte, not_false_eq_true, not_true_eq_false, true_or, or_true, ↓bI_01, ↓b01_0, ↓b01_1, bI_0, z00, z10, n4, n5, n2, n8, Nat.reduceMul, Nat.reduceAdd, Nat.reduceLT, Nat.reduceLeDiff, er0 g MG0, er1 g MG0, e_mW F _ _ cw19, hw, er2s g MG0, er3 g MG0, er4, tp_13, tp_uo, mf_w, Bool.false_eq_true]
          · refine Or.inr ⟨p4, hp4, fun X v G0 X0 T0 => ⟨X, ρ, nI (tE y t p4), nI (tK y t p4), tVV y t p4 (tV y t p3), XO.refl X, fun Q => ?_⟩, fun g MG0 => ⟨ρ, fun Q => ?_⟩⟩
            · obtain ⟨b, hb⟩ : ∃ b, b = 145 := ⟨_, rfl⟩
              have w := F.w145
              have G1 := G0.xo (XO.ww (X := X) ρ)
              have X1 := X0.xo (XO.ww (X := X) ρ)
              rw [← hb] at w G1 X1 ⊢
              have he' : ¬ isE y t (tE y t p3) := by rw [e4]; exact he
              have hn := fun i s k v d hd Q => c_num3 F G1 hp3 ok he' (b + 3) i s k v d hd Q
              rw [e4] at hn
              have hr1 := fun s k v d hd Q => e_cN1 F G1 hp1 ok1 s k v d hd Q
              rw [e2, eq] at hr1
              have hst := fun s k v d hd Q => e_step F G1 p2 hp2 s k v d hd Q
              have hwd := fun v d Q => e_cW F G1 X1 19 (by decide) (by decide) p2 hp2 v d Q
              have hsr := fun v d hd Q => e_cS1 F G1 X1 hp2 hs v d hd Q
              rw [e3] at hst hwd hsr
              rw [e1]
              simp -implicitDefEqProofs (disch := first | omega | (simp (disch := omega) only [nb_upr]; omega)) only [R_1873, w_1873_0, w_1873_1, w_1873_2, w_1873_3, w_1873_4, zi_0, zi_0n, zi_31, zi_123, zi_658, zi_98, zi_67w1, zi_67w2, zi_637, zi_32i, zi_32r, zi_32u, zi_32a, zi_626, zi_663, zi_639, zi_108, zi_23, zi_23n, zi_125, zi_34, zi_130, zi_648, zi_664, zi_111i, zi_111r, zi_111u, zi_111a, zi_63, zi_548, zi_128, zi_59, zi_79, zi_70, zi_132, zi_297, zi_48, zi_131, zi_133, F.t101, x19 _ X1, w.t, w.r3, kC_eq, toL_s, toL_n, okS0, okS1, okS2, okS3, okS4, okS5, true_and, and_true, hT_wI, hL_wI, hR_wI, hI_wI, hJ_wI, sI_wI, rfP, isIA_100, isIA_120, inb_ok, nI_clamp, nI_add, nI_mul, ↓reduceIte, not_false_eq_true, not_true_eq_false, true_or, or_true, ↓bI_01, ↓b01_0, ↓b01_1, bI_0, z00, z10, n4, n5, n2, n8, Nat.reduceMul, Nat.reduceAdd, Nat.reduceLT, Nat.reduceLeDiff, hr1, hst, hwd, hw, hsr, nlt, hn, tc_5, Bool.false_eq_true]
            · have er4 := fun d hd Q => e_mE0 (g := mf g ρ) F (MG0.mf ρ) he d hd Q
              simp -implicitDefEqProofs (disch := first | omega | (simp (disch := omega) only [nb_upr]; omega)) only [R_720, w_720_0, w_720_1, w_720_2, w_720_3, w_720_4, w_720_5, w_720_6, w_720_7, zi_0, zi_0n, zi_373, zi_31, zi_123, zi_423, zi_96i, zi_96r, zi_96u, zi_96a, zi_374, zi_66, zi_439, zi_416, zi_48, zi_112, zi_113, zi_32i, zi_32r, zi_32u, zi_32a, zi_59, zi_111i, zi_111r, zi_111u, zi_111a, zi_34, zi_297, zi_131, zi_287, zi_440, zi_133, zi_134, zi_130, zi_236, zi_132, zi_237, zi_74i, zi_74r, zi_74u, zi_74a, zi_424, zi_241, zi_372, zi_360, zi_88, zi_79, zi_70, zi_63, zi_76, zi_38, zi_214, zi_41, hT_jP, hL_jP, hR_jP, F.t233, F.r233_1, F.t235, F.l235, kC_eq, toL_s, toL_n, okS0, okS1, okS2, okS3, okS4, okS5, true_and, and_true, hT_wI, hL_wI, hR_wI, hI_wI, hJ_wI, sI_wI, rfP, isIA_100, isIA_120, inb_ok, nI_clamp, nI_add, nI_mul, ↓reduceIte, not_false_eq_true, not_true_eq_false, true_or, or_true, ↓bI_01, ↓b01_0, ↓b01_1, bI_0, z00, z10, n4, n5, n2, n8, Nat.reduceMul, Nat.reduceAdd, Nat.reduceLT, Nat.reduceLeDiff, er0 g MG0, er1 g MG0, e_mW F _ _ cw19, hw, er2s g MG0, er3 g MG0, er4, tp_13, Bool.false_eq_true]
        · refine Or.inr ⟨p3, hp3, fun X v G0 X0 T0 => ⟨X, ρ, nI (tE y t p3), nI (tK y t p3), tVV y t p3 (tVV y t p2 (nI q)), XO.refl X, fun Q => ?_⟩, fun g MG0 => ⟨ρ, fun Q => ?_⟩⟩
          · obtain ⟨b, hb⟩ : ∃ b, b = 145 := ⟨_, rfl⟩
            have w := F.w145
            have G1 := G0.xo (XO.ww (X := X) ρ)
            have X1 := X0.xo (XO.ww (X := X) ρ)
            rw [← hb] at w G1 X1 ⊢
            have hn := fun i s k v d hd Q => c_num2 F G1 hp3 ok (b + 3) i s k v d hd Q
            have hr1 := fun s k v d hd Q => e_cN1 F G1 hp1 ok1 s k v d hd Q
            rw [e2, eq] at hr1
            have hst := fun s k v d hd Q => e_step F G1 p2 hp2 s k v d hd Q
            have hwd := fun v d Q => e_cW F G1 X1 19 (by decide) (by decide) p2 hp2 v d Q
            have hsr := fun v d hd Q => e_cS1 F G1 X1 hp2 hs v d hd Q
            rw [e3] at hst hwd hsr
            rw [e1]
            simp -implicitDefEqProofs (disch := first | omega | (simp (disch := omega) only [nb_upr]; omega)) only [R_1873, w_1873_0, w_1873_1, w_1873_2, w_1873_3, w_1873_4, zi_0, zi_0n, zi_31, zi_123, zi_658, zi_98, zi_67w1, zi_67w2, zi_637, zi_32i, zi_32r, zi_32u, zi_32a, zi_626, zi_663, zi_639, zi_108, zi_23, zi_23n, zi_125, zi_34, zi_130, zi_648, zi_664, zi_111i, zi_111r, zi_111u, zi_111a, zi_63, zi_548, zi_128, zi_59, zi_79, zi_70, zi_132, zi_297, zi_48, zi_131, zi_133, F.t101, x19 _ X1, w.t, w.r3, kC_eq, toL_s, toL_n, okS0, okS1, okS2, okS3, okS4, okS5, true_and, and_true, hT_wI, hL_wI, hR_wI, hI_wI, hJ_wI, sI_wI, rfP, isIA_100, isIA_120, inb_ok, nI_clamp, nI_add, nI_mul, ↓reduceIte, not_false_eq_true, not_true_eq_false, true_or, or_true, ↓bI_01, ↓b01_0, ↓b01_1, bI_0, z00, z10, n4, n5, n2, n8, Nat.reduceMul, Nat.reduceAdd, Nat.reduceLT, Nat.reduceLeDiff, hr1, hst, hwd, hw, hsr, nlt, hn, tc_5, Bool.false_eq_true]
          · have er3 := fun d hd Q => e_mN0 (g := mf g ρ) F (nI 0) (nI 99) ok d hd Q
            simp -implicitDefEqProofs (disch := first | omega | (simp (disch := omega) only [nb_upr]; omega)) only [R_720, w_720_0, w_720_1, w_720_2, w_720_3, w_720_4, w_720_5, w_720_6, w_720_7, zi_0, zi_0n, zi_373, zi_31, zi_123, zi_423, zi_96i, zi_96r, zi_96u, zi_96a, zi_374, zi_66, zi_439, zi_416, zi_48, zi_112, zi_113, zi_32i, zi_32r, zi_32u, zi_32a, zi_59, zi_111i, zi_111r, zi_111u, zi_111a, zi_34, zi_297, zi_131, zi_287, zi_440, zi_133, zi_134, zi_130, zi_236, zi_132, zi_237, zi_74i, zi_74r, zi_74u, zi_74a, zi_424, zi_241, zi_372, zi_360, zi_88, zi_79, zi_70, zi_63, zi_76, zi_38, zi_214, zi_41, hT_jP, hL_jP, hR_jP, F.t233, F.r233_1, F.t235, F.l235, kC_eq, toL_s, toL_n, okS0, okS1, okS2, okS3, okS4, okS5, true_and, and_true, hT_wI, hL_wI, hR_wI, hI_wI, hJ_wI, sI_wI, rfP, isIA_100, isIA_120, inb_ok, nI_clamp, nI_add, nI_mul, ↓reduceIte, not_false_eq_true, not_true_eq_false, true_or, or_true, ↓bI_01, ↓b01_0, ↓b01_1, bI_0, z00, z10, n4, n5, n2, n8, Nat.reduceMul, Nat.reduceAdd, Nat.reduceLT, Nat.reduceLeDiff, er0 g MG0, er1 g MG0, e_mW F _ _ cw19, hw, er2s g MG0, er3, e_mEz F, tp_13, Bool.false_eq_true]
      · refine Or.inr ⟨p2, hp2, fun X v G0 X0 T0 => ⟨X, ρ, nI (tE y t p2), nI (tK y t p2), tVV y t p2 (nI q), XO.refl X, fun Q => ?_⟩, fun g MG0 => ⟨ρ, fun Q => ?_⟩⟩
        · have G1 := G0.xo (XO.ww (X := X) ρ)
          have X1 := X0.xo (XO.ww (X := X) ρ)
          have hr1 := fun s k v d hd Q => e_cN1 F G1 hp1 ok1 s k v d hd Q
          rw [e2, eq] at hr1
          have hst := fun s k v d hd Q => e_step F G1 p2 hp2 s k v d hd Q
          have hwd := fun v d Q => e_cW F G1 X1 19 (by decide) (by decide) p2 hp2 v d Q
          have hsr := fun v d hd Q => e_cS0 F G1 X1 hp2 hs v d hd Q
          rw [e1]
          simp -implicitDefEqProofs (disch := first | omega | (simp (disch := omega) only [nb_upr]; omega)) only [R_1873, w_1873_0, w_1873_1, w_1873_2, w_1873_3, w_1873_4, zi_0, zi_0n, zi_31, zi_123, zi_658, zi_98, zi_67w1, zi_67w2, zi_637, zi_32i, zi_32r, zi_32u, zi_32a, zi_626, zi_663, zi_639, zi_108, zi_23, zi_23n, zi_125, zi_34, zi_130, zi_648, zi_664, zi_111i, zi_111r, zi_111u, zi_111a, zi_63, zi_548, zi_128, zi_59, zi_79, zi_70, zi_132, zi_297, zi_48, zi_131, zi_133, F.t101, x19 _ X1, kC_eq, toL_s, toL_n, okS0, okS1, okS2, okS3, okS4, okS5, true_and, and_true, hT_wI, hL_wI, hR_wI, hI_wI, hJ_wI, sI_wI, rfP, isIA_100, isIA_120, inb_ok, nI_clamp, nI_add, nI_mul, ↓reduceIte, not_false_eq_true, not_true_eq_false, true_or, or_true, ↓bI_01, ↓b01_0, ↓b01_1, bI_0, z00, z10, n4, n5, n2, n8, Nat.reduceMul, Nat.reduceAdd, Nat.reduceLT, Nat.reduceLeDiff, hr1, hst, hwd, hw, hsr, lt0, tc_5, Bool.false_eq_true]
        · have er2s := fun d hd Q => e_mS0 (g := mf g ρ) F hs d hd Q
          simp -implicitDefEqProofs (disch := first | omega | (simp (disch := omega) only [nb_upr]; omega)) only [R_720, w_720_0, w_720_1, w_720_2, w_720_3, w_720_4, w_720_5, w_720_6, w_720_7, zi_0, zi_0n, zi_373, zi_31, zi_123, zi_423, zi_96i, zi_96r, zi_96u, zi_96a, zi_374, zi_66, zi_439, zi_416, zi_48, zi_112, zi_113, zi_32i, zi_32r, zi_32u, zi_32a, zi_59, zi_111i, zi_111r, zi_111u, zi_111a, zi_34, zi_297, zi_131, zi_287, zi_440, zi_133, zi_134, zi_130, zi_236, zi_132, zi_237, zi_74i, zi_74r, zi_74u, zi_74a, zi_424, zi_241, zi_372, zi_360, zi_88, zi_79, zi_70, zi_63, zi_76, zi_38, zi_214, zi_41, hT_jP, hL_jP, hR_jP, F.t233, F.r233_1, F.t235, F.l235, kC_eq, toL_s, toL_n, okS0, okS1, okS2, okS3, okS4, okS5, true_and, and_true, hT_wI, hL_wI, hR_wI, hI_wI, hJ_wI, sI_wI, rfP, isIA_100, isIA_120, inb_ok, nI_clamp, nI_add, nI_mul, ↓reduceIte, not_false_eq_true, not_true_eq_false, true_or, or_true, ↓bI_01, ↓b01_0, ↓b01_1, bI_0, z00, z10, n4, n5, n2, n8, Nat.reduceMul, Nat.reduceAdd, Nat.reduceLT, Nat.reduceLeDiff, er0 g MG0, er1 g MG0, e_mW F _ _ cw19, hw, er2s, e_mNz F, e_mEz F, tp_13, Bool.false_eq_true]
  · refine Or.inr ⟨p1, hp1, fun X v G0 X0 T0 => ⟨X, ρ, nI (tE y t p1), nI (tK y t p1), tVV y t p1 v, XO.refl X, fun Q => ?_⟩, fun g MG0 => ⟨ρ, fun Q => ?_⟩⟩
    · have G1 := G0.xo (XO.ww (X := X) ρ)
      have hr1 := fun s k v d hd Q => e_cN0 F G1 hp1 ok1 s k v d hd Q
      rw [e1]
      simp -implicitDefEqProofs (disch := first | omega | (simp (disch := omega) only [nb_upr]; omega)) only [R_1873, w_1873_0, w_1873_1, w_1873_2, w_1873_3, w_1873_4, zi_0, zi_0n, zi_31, zi_123, zi_658, zi_98, zi_67w1, zi_67w2, zi_637, zi_32i, zi_32r, zi_32u, zi_32a, zi_626, zi_663, zi_639, zi_108, zi_23, zi_23n, zi_125, zi_34, zi_130, zi_648, zi_664, zi_111i, zi_111r, zi_111u, zi_111a, zi_63, zi_548, zi_128, zi_59, zi_79, zi_70, zi_132, zi_297, zi_48, zi_131, zi_133, F.t101, kC_eq, toL_s, toL_n, okS0, okS1, okS2, okS3, okS4, okS5, true_and, and_true, hT_wI, hL_wI, hR_wI, hI_wI, hJ_wI, sI_wI, rfP, isIA_100, isIA_120, inb_ok, nI_clamp, nI_add, nI_mul, ↓reduceIte, not_false_eq_true, not_true_eq_false, true_or, or_true, ↓bI_01, ↓b01_0, ↓b01_1, bI_0, z00, z10, n4, n5, n2, n8, Nat.reduceMul, Nat.reduceAdd, Nat.reduceLT, Nat.reduceLeDiff, hr1]
    · have er1 := fun d hd Q => e_mN0 (g := mf g ρ) F (nI 0) (nI 7) ok1 d hd Q
      simp -implicitDefEqProofs (disch := first | omega | (simp (disch := omega) only [nb_upr]; omega)) only [R_720, w_720_0, w_720_1, w_720_2, w_720_3, w_720_4, w_720_5, w_720_6, w_720_7, zi_0, zi_0n, zi_373, zi_31, zi_123, zi_423, zi_96i, zi_96r, zi_96u, zi_96a, zi_374, zi_66, zi_439, zi_416, zi_48, zi_112, zi_113, zi_32i, zi_32r, zi_32u, zi_32a, zi_59, zi_111i, zi_111r, zi_111u, zi_111a, zi_34, zi_297, zi_131, zi_287, zi_440, zi_133, zi_134, zi_130, zi_236, zi_132, zi_237, zi_74i, zi_74r, zi_74u, zi_74a, zi_424, zi_241, zi_372, zi_360, zi_88, zi_79, zi_70, zi_63, zi_76, zi_38, zi_214, zi_41, hT_jP, hL_jP, hR_jP, F.t233, F.r233_1, F.t235, F.l235, kC_eq, toL_s, toL_n, okS0, okS1, okS2, okS3, okS4, okS5, true_and, and_true, hT_wI, hL_wI, hR_wI, hI_wI, hJ_wI, sI_wI, rfP, isIA_100, isIA_120, inb_ok, nI_clamp, nI_add, nI_mul, ↓reduceIte, not_false_eq_true, not_true_eq_false, true_or, or_true, ↓bI_01, ↓b01_0, ↓b01_1, bI_0, z00, z10, n4, n5, n2, n8, Nat.reduceMul, Nat.reduceAdd, Nat.reduceLT, Nat.reduceLeDiff, er0 g MG0, er1, e_mNz F, e_mEz F, tp_13]
end
