section
/-! a clause, both sides: boats, wake; any clause -/
variable {n : Nat} {h : PH} {y : Nat → Nat} {t p : Nat} {d d' : Nat} {g : Nat → Nat → Int32} {ρ : Nat → Int32} {Q : Option Value → PH → Prop}
theorem tc_ww {X : Nat → Nat → Int32} {q s k v : Int32} : tcS (ww X 145 ρ) q s k v = ww (tcS X q s k v) 145 ρ := by
  funext a j
  by_cases z : a = 101
  · have e : ∀ f : Nat → Nat → Int32, ww f 145 ρ a j = f a j := fun f => ww_out (by omega)
    rw [e]
    unfold tcS
    rw [e]
  · rw [tc_o (by omega)]
    unfold ww
    rw [tc_o (by omega)]
theorem e_addBoatT (F : FR h) {X : Nat → Nat → Int32} {b : Nat} (hb : b = 145) (h6 : nb ρ < 6) (h5 : ρ 5 = nI (nb ρ)) (k m s e q1 q2 q3 q4 : Int32) (d : Nat) (Q : Option Value → PH → Prop) : Run d 1588 [.ref b, .int k, .int m, .int s, .int e] (wI h (tcS (ww X b ρ) q1 q2 q3 q4)) Q = Q (some (.int (nI (nb ρ)))) (wI h (tcS (adb (ww X b ρ) b (nb ρ) k m s e) q1 q2 q3 q4)) := by
  subst hb
  have e1 : tcS (adb (ww X 145 ρ) 145 (nb ρ) k m s e) q1 q2 q3 q4 = adb (ww (tcS X q1 q2 q3 q4) 145 ρ) 145 (nb ρ) k m s e := by
    rw [← tc_ww]
    unfold adb
    simp (disch := omega) only [tc_uo]
  rw [tc_ww, e1]
  exact e_addBoat F.w145 h6 h5 k m s e d Q
theorem upr_bR (hz : Z ρ) (h6 : nb ρ < 6) (k m s e : Int32) : upr (upr (upr (upr (upr ρ (76 + 10 * nb ρ) k) (76 + 10 * nb ρ + 1) m) (76 + 10 * nb ρ + 2) s) (76 + 10 * nb ρ + 3) e) 5 (nI (nb ρ + 1)) = bR ρ k m s e := by
  have hl0 : lim ρ = 76 + 10 * nb ρ := by unfold lim; omega
  obtain ⟨N, hN⟩ : ∃ N, nb ρ = N := ⟨_, rfl⟩
  rw [hN]
  funext q
  unfold upr bR
  rw [hN]
  by_cases c5 : q = 5
  · rw [if_pos c5, if_pos c5]
  rw [if_neg c5, if_neg c5]
  by_cases c3 : q = 76 + 10 * N + 3
  · rw [if_pos c3, if_neg (by omega), if_neg (by omega), if_neg (by omega), if_pos (by omega)]
  rw [if_neg c3]
  by_cases c2 : q = 76 + 10 * N + 2
  · rw [if_pos c2, if_neg (by omega), if_neg (by omega), if_pos (by omega)]
  rw [if_neg c2]
  by_cases c1 : q = 76 + 10 * N + 1
  · rw [if_pos c1, if_neg (by omega), if_pos (by omega)]
  rw [if_neg c1]
  by_cases c0 : q = 76 + 10 * N
  · rw [if_pos c0, if_pos c0]
  rw [if_neg c0, if_neg c0, if_neg (by omega), if_neg (by omega), if_neg (by omega)]
  by_cases c4 : 80 + 10 * N ≤ q ∧ q < 86 + 10 * N
  · rw [if_pos c4]
    exact hz q (by omega)
  · rw [if_neg c4]
theorem j_boat (F : FR h) (V : Vr n ρ) (hp : p ≤ t) (hk : tK y t p = 1) (h6 : nb ρ < 6) (κ : Nat) (hκ : κ ≤ 5) (hd : 6 ≤ d) (hd' : 4 ≤ d') :
    JO h y t n p ρ (fun X v Q => Run d 1842 [.ref 101, .ref 145, .int (nI κ)] (wI h (tcS (ww X 145 ρ) (nI (tE y t p)) (nI (tS y t p)) (nI (tK y t p)) v)) Q) (fun g Q => Run d' 681 [.ref 233, .int (nI κ)] (wI (jP h y t p) (tmP (mf g ρ) y t p (nI 1))) Q) := by
  have a0 := tE_gt1 hk
  have a1 := tS_b (y := y) hp
  have a2 := tE_b (y := y) hp
  have h5 := V.r5
  have n6 : ¬ 6 ≤ nb ρ := by omega
  have cw16 : wc 16 = 47 := by decide +kernel
  have cw17 : wc 17 = 260045 := by decide +kernel
  have x16 := fun (g : Nat → Nat → Int32) (X : TX h g) => (X 16 (by decide) (by decide)).1
  have x17 := fun (g : Nat → Nat → Int32) (X : TX h g) => (X 17 (by decide) (by decide)).1
  obtain ⟨p1, e1⟩ : ∃ p1, tE y t p = p1 := ⟨_, rfl⟩
  have hp1 : p1 ≤ t := by omega
  have b1 := tS_b (y := y) hp1
  have B1 := tE_b (y := y) hp1
  obtain ⟨p2, e2⟩ : ∃ q, tE y t p1 = q := ⟨_, rfl⟩
  have hp2 : p2 ≤ t := by omega
  have b2 := tS_b (y := y) hp2
  have B2 := tE_b (y := y) hp2
  obtain ⟨p3, e3⟩ : ∃ q, tE y t p2 = q := ⟨_, rfl⟩
  have hp3 : p3 ≤ t := by omega
  have b3 := tS_b (y := y) hp3
  have B3 := tE_b (y := y) hp3
  obtain ⟨p4, e4⟩ : ∃ q, tE y t p3 = q := ⟨_, rfl⟩
  have hp4 : p4 ≤ t := by omega
  have b4 := tS_b (y := y) hp4
  have B4 := tE_b (y := y) hp4
  obtain ⟨p5, e5⟩ : ∃ q, tE y t p4 = q := ⟨_, rfl⟩
  have hp5 : p5 ≤ t := by omega
  have b5 := tS_b (y := y) hp5
  have B5 := tE_b (y := y) hp5
  obtain ⟨p6, e6⟩ : ∃ q, tE y t p5 = q := ⟨_, rfl⟩
  have hp6 : p6 ≤ t := by omega
  have b6 := tS_b (y := y) hp6
  have B6 := tE_b (y := y) hp6
  have er0 := fun (g : Nat → Nat → Int32) (MG0 : MG y t g) d hd Q => e_advP (g := mf g ρ) F (MG.mf (g := g) MG0 ρ) hp (nI 1) d hd Q
  rw [e1] at er0
  by_cases ok1 : okN y t p1 (nI 0) (nI 9)
  · obtain ⟨m1, -, M1, em1⟩ := ok1.nat (by decide) (by decide)
    have er1 := fun (g : Nat → Nat → Int32) (MG0 : MG y t g) d hd Q => e_mN1 (g := mf g ρ) F (MG.mf (g := g) MG0 ρ) hp1 (nI 0) (nI 9) ok1.1 ok1.2 d hd Q
    rw [e2, em1] at er1
    by_cases ok2 : isW y t p2 16 = true
    · have er2 := fun (g : Nat → Nat → Int32) (MG0 : MG y t g) d hd Q => e_mR1 (g := mf g ρ) F (MG.mf (g := g) MG0 ρ) hp2 (k := 16) (by decide) (by decide) cw16 ok2 d hd Q
      rw [e3] at er2
      by_cases ok3 : okN y t p3 (nI 0) (nI 7)
      · obtain ⟨m3, -, M3, em3⟩ := ok3.nat (by decide) (by decide)
        have er3 := fun (g : Nat → Nat → Int32) (MG0 : MG y t g) d hd Q => e_mN1 (g := mf g ρ) F (MG.mf (g := g) MG0 ρ) hp3 (nI 0) (nI 7) ok3.1 ok3.2 d hd Q
        rw [e4, em3] at er3
        by_cases ok4 : isW y t p4 17 = true
        · have er4 := fun (g : Nat → Nat → Int32) (MG0 : MG y t g) d hd Q => e_mR1 (g := mf g ρ) F (MG.mf (g := g) MG0 ρ) hp4 (k := 17) (by decide) (by decide) cw17 ok4 d hd Q
          rw [e5] at er4
          by_cases ok5 : okN y t p5 (nI 0) (nI 9)
          · obtain ⟨m5, -, M5, em5⟩ := ok5.nat (by decide) (by decide)
            have er5 := fun (g : Nat → Nat → Int32) (MG0 : MG y t g) d hd Q => e_mN1 (g := mf g ρ) F (MG.mf (g := g) MG0 ρ) hp5 (nI 0) (nI 9) ok5.1 ok5.2 d hd Q
            rw [e6, em5] at er5
            by_cases ok6 : isE y t p6
            · have er6 := fun (g : Nat → Nat → Int32) (MG0 : MG y t g) d hd Q => e_mE1 (g := mf g ρ) F (MG.mf (g := g) MG0 ρ) hp6 ok6 d hd Q
              have eB := upr_bR V.z h6 (nI κ) (nI m1) (nI m3) (nI m5)
              refine Or.inl ⟨tE y t p6, bR ρ (nI κ) (nI m1) (nI m3) (nI m5), by omega, by omega, Vr_bR V h6 hκ M1 M3 M5, ?_, fun X v G0 X0 T0 => ⟨adb (ww X 145 ρ) 145 (nb ρ) (nI κ) (nI m1) (nI m3) (nI m5), nI (tS y t p6), nI (tK y t p6), (tVV y t p6 (nI m5)), fun a q ha => by rw [adb_out ha, ww_out (by omega)], fun Q => ?_⟩, fun g MG0 Q => ?_⟩
              · unfold bR
                rw [if_neg (by omega), if_neg (by omega), if_neg (by omega), if_neg (by omega), if_neg (by omega), if_neg (by omega)]
              · have eX : ww (adb (ww X 145 ρ) 145 (nb ρ) (nI κ) (nI m1) (nI m3) (nI m5)) 145 (bR ρ (nI κ) (nI m1) (nI m3) (nI m5)) = adb (ww X 145 ρ) 145 (nb ρ) (nI κ) (nI m1) (nI m3) (nI m5) := by
                  rw [← rv_adb (f := X) (b := 145) V.z h6 (nI κ) (nI m1) (nI m3) (nI m5), ww_rv]
                rw [eX]
                obtain ⟨b, hb⟩ : ∃ b, b = 145 := ⟨_, rfl⟩
                have w := F.w145
                have G1 := G0.xo (XO.ww (X := X) ρ)
                have X1 := X0.xo (XO.ww (X := X) ρ)
                rw [← hb] at w G1 X1 ⊢
                have hr1 := fun s k v d hd Q => e_cN1 F G1 hp1 ok1 s k v d hd Q
                rw [e2] at hr1
                rw [em1] at hr1
                have hr2 := fun s k v d hd Q => e_cRW F G1 X1 16 (by decide) (by decide) p2 hp2 s k v d hd Q
                rw [e3] at hr2
                have hr3 := fun s k v d hd Q => e_cN1 F G1 hp3 ok3 s k v d hd Q
                rw [e4] at hr3
                rw [em3] at hr3
                have hr4 := fun s k v d hd Q => e_cRW F G1 X1 17 (by decide) (by decide) p4 hp4 s k v d hd Q
                rw [e5] at hr4
                have hr5 := fun s k v d hd Q => e_cN1 F G1 hp5 ok5 s k v d hd Q
                rw [e6] at hr5
                rw [em5] at hr5
                have hr6 := fun s k v d hd Q => e_cE1 F G1 hp6 ok6 s k v d hd Q
                rw [e1]
                simp -implicitDefEqProofs (disch := first | omega | (simp (disch := omega) only [nb_upr]; omega)) only [R_1842, w_1842_0, w_1842_1, w_1842_2, w_1842_3, w_1842_4, w_1842_5, w_1842_6, zi_0, zi_0n, zi_31, zi_130, zi_658, zi_98, zi_67w1, zi_67w2, zi_637, zi_111i, zi_111r, zi_111u, zi_111a, zi_659, zi_660, zi_108, zi_123, zi_269, zi_113, zi_74i, zi_74r, zi_74u, zi_74a, zi_661, zi_287, zi_235, zi_133, zi_164i, zi_164r, zi_164u, zi_164a, zi_662, zi_212, zi_23, zi_23n, zi_34, zi_63, zi_76, zi_165, zi_138, zi_215i, zi_215r, zi_48, F.t101, x16 _ X1, x17 _ X1, w.t, kC_eq, toL_s, toL_n, okS0, okS1, okS2, okS3, okS4, okS5, true_and, and_true, hT_wI, hL_wI, hR_wI, hI_wI, hJ_wI, sI_wI, rfP, isIA_100, isIA_120, inb_ok, nI_clamp, nI_add, nI_mul, ↓reduceIte, not_false_eq_true, not_true_eq_false, true_or, or_true, ↓bI_01, ↓b01_0, ↓b01_1, bI_0, z00, z10, n4, n5, n2, n8, Nat.reduceMul, Nat.reduceAdd, Nat.reduceLT, Nat.reduceLeDiff, hr1, hr2, ok2, hr3, hr4, ok4, hr5, hr6, tc_5, e_addBoatT F hb h6 h5]
              · rw [← eB]
                simp -implicitDefEqProofs (disch := first | omega | (simp (disch := omega) only [nb_upr]; omega)) only [R_681, w_681_0, w_681_1, w_681_2, w_681_3, w_681_4, zi_0, zi_0n, zi_372, zi_59, zi_106, zi_42, zi_186, zi_48, zi_112, zi_31, zi_113, zi_371, zi_374, zi_297, zi_373, zi_75, zi_130, zi_423, zi_32i, zi_32r, zi_32u, zi_32a, zi_432, zi_433, zi_123, zi_111i, zi_111r, zi_111u, zi_111a, zi_434, zi_74i, zi_74r, zi_74u, zi_74a, zi_424, zi_287, zi_435, zi_140, zi_79, zi_70, zi_164i, zi_164r, zi_164u, zi_164a, zi_165, zi_88, zi_38, zi_34, zi_51, zi_63, zi_54, zi_76, zi_436i, zi_436l, zi_133, zi_41, hT_jP, hL_jP, hR_jP, F.t233, F.r233_1, F.t235, F.l235, kC_eq, toL_s, toL_n, okS0, okS1, okS2, okS3, okS4, okS5, true_and, and_true, hT_wI, hL_wI, hR_wI, hI_wI, hJ_wI, sI_wI, rfP, isIA_100, isIA_120, inb_ok, nI_clamp, nI_add, nI_mul, ↓reduceIte, not_false_eq_true, not_true_eq_false, true_or, or_true, ↓bI_01, ↓b01_0, ↓b01_1, bI_0, z00, z10, n4, n5, n2, n8, Nat.reduceMul, Nat.reduceAdd, Nat.reduceLT, Nat.reduceLeDiff, nI_eq, nI_leI, nI_ltI, Nat.reduceEqDiff, pk_div, nI_sub, Nat.reduceDiv, Nat.reduceSub, er0 g MG0, er1 g MG0, er2 g MG0, er3 g MG0, er4 g MG0, er5 g MG0, er6 g MG0, tp_13, tp_u13, tp_o, tp_uo, mf_r, mf_w, upr_ne, h5, n6]
            · skip
              refine Or.inr ⟨p6, hp6, fun X v G0 X0 T0 => ⟨X, ρ, nI (tE y t p6), nI (tK y t p6), (tVV y t p6 (nI m5)), XO.refl X, fun Q => ?_⟩, fun g MG0 => ⟨ρ, fun Q => ?_⟩⟩
              · obtain ⟨b, hb⟩ : ∃ b, b = 145 := ⟨_, rfl⟩
                have w := F.w145
                have G1 := G0.xo (XO.ww (X := X) ρ)
                have X1 := X0.xo (XO.ww (X := X) ρ)
                rw [← hb] at w G1 X1 ⊢
                have hr1 := fun s k v d hd Q => e_cN1 F G1 hp1 ok1 s k v d hd Q
                rw [e2] at hr1
                rw [em1] at hr1
                have hr2 := fun s k v d hd Q => e_cRW F G1 X1 16 (by decide) (by decide) p2 hp2 s k v d hd Q
                rw [e3] at hr2
                have hr3 := fun s k v d hd Q => e_cN1 F G1 hp3 ok3 s k v d hd Q
                rw [e4] at hr3
                rw [em3] at hr3
                have hr4 := fun s k v d hd Q => e_cRW F G1 X1 17 (by decide) (by decide) p4 hp4 s k v d hd Q
                rw [e5] at hr4
                have hr5 := fun s k v d hd Q => e_cN1 F G1 hp5 ok5 s k v d hd Q
                rw [e6] at hr5
                rw [em5] at hr5
                have hr6 := fun s k v d hd Q => e_cE0 F G1 hp6 ok6 s k v d hd Q
                rw [e1]
                simp -implicitDefEqProofs (disch := first | omega | (simp (disch := omega) only [nb_upr]; omega)) only [R_1842, w_1842_0, w_1842_1, w_1842_2, w_1842_3, w_1842_4, w_1842_5, w_1842_6, zi_0, zi_0n, zi_31, zi_130, zi_658, zi_98, zi_67w1, zi_67w2, zi_637, zi_111i, zi_111r, zi_111u, zi_111a, zi_659, zi_660, zi_108, zi_123, zi_269, zi_113, zi_74i, zi_74r, zi_74u, zi_74a, zi_661, zi_287, zi_235, zi_133, zi_164i, zi_164r, zi_164u, zi_164a, zi_662, zi_212, zi_23, zi_23n, zi_34, zi_63, zi_76, zi_165, zi_138, zi_215i, zi_215r, zi_48, F.t101, x16 _ X1, x17 _ X1, kC_eq, toL_s, toL_n, okS0, okS1, okS2, okS3, okS4, okS5, true_and, and_true, hT_wI, hL_wI, hR_wI, hI_wI, hJ_wI, sI_wI, rfP, isIA_100, isIA_120, inb_ok, nI_clamp, nI_add, nI_mul, ↓reduceIte, not_false_eq_true, not_true_eq_false, true_or, or_true, ↓bI_01, ↓b01_0, ↓b01_1, bI_0, z00, z10, n4, n5, n2, n8, Nat.reduceMul, Nat.reduceAdd, Nat.reduceLT, Nat.reduceLeDiff, hr1, hr2, ok2, hr3, hr4, ok4, hr5, hr6, tc_5, Bool.false_eq_true]
              · have er6 := fun d hd Q => e_mE0 (g := mf g ρ) F (MG0.mf ρ) ok6 d hd Q
                simp -implicitDefEqProofs (disch := first | omega | (simp (disch := omega) only [nb_upr]; omega)) only [R_681, w_681_0, w_681_1, w_681_2, w_681_3, w_681_4, zi_0, zi_0n, zi_372, zi_59, zi_106, zi_42, zi_186, zi_48, zi_112, zi_31, zi_113, zi_371, zi_374, zi_297, zi_373, zi_75, zi_130, zi_423, zi_32i, zi_32r, zi_32u, zi_32a, zi_432, zi_433, zi_123, zi_111i, zi_111r, zi_111u, zi_111a, zi_434, zi_74i, zi_74r, zi_74u, zi_74a, zi_424, zi_287, zi_435, zi_140, zi_79, zi_70, zi_164i, zi_164r, zi_164u, zi_164a, zi_165, zi_88, zi_38, zi_34, zi_51, zi_63, zi_54, zi_76, zi_436i, zi_436l, zi_133, zi_41, hT_jP, hL_jP, hR_jP, F.t233, F.r233_1, F.t235, F.l235, kC_eq, toL_s, toL_n, okS0, okS1, okS2, okS3, okS4, okS5, true_and, and_true, hT_wI, hL_wI, hR_wI, hI_wI, hJ_wI, sI_wI, rfP, isIA_100, isIA_120, inb_ok, nI_clamp, nI_add, nI_mul, ↓reduceIte, not_false_eq_true, not_true_eq_false, true_or, or_true, ↓bI_01, ↓b01_0, ↓b01_1, bI_0, z00, z10, n4, n5, n2, n8, Nat.reduceMul, Nat.reduceAdd, Nat.reduceLT, Nat.reduceLeDiff, nI_eq, nI_leI, nI_ltI, Nat.reduceEqDiff, pk_div, nI_sub, Nat.reduceDiv, Nat.reduceSub, er0 g MG0, er1 g MG0, er2 g MG0, er3 g MG0, er4 g MG0, er5 g MG0, er6, e_mNz F, e_mRz F, e_mEz F, tp_13, tp_u13, tp_o, mf_r, h5, n6]
          · skip
            refine Or.inr ⟨p5, hp5, fun X v G0 X0 T0 => ⟨X, ρ, nI (tE y t p5), nI (tK y t p5), (tVV y t p5 (tVV y t p4 (nI m3))), XO.refl X, fun Q => ?_⟩, fun g MG0 => ⟨ρ, fun Q => ?_⟩⟩
            · obtain ⟨b, hb⟩ : ∃ b, b = 145 := ⟨_, rfl⟩
              have w := F.w145
              have G1 := G0.xo (XO.ww (X := X) ρ)
              have X1 := X0.xo (XO.ww (X := X) ρ)
              rw [← hb] at w G1 X1 ⊢
              have hr1 := fun s k v d hd Q => e_cN1 F G1 hp1 ok1 s k v d hd Q
              rw [e2] at hr1
              rw [em1] at hr1
              have hr2 := fun s k v d hd Q => e_cRW F G1 X1 16 (by decide) (by decide) p2 hp2 s k v d hd Q
              rw [e3] at hr2
              have hr3 := fun s k v d hd Q => e_cN1 F G1 hp3 ok3 s k v d hd Q
              rw [e4] at hr3
              rw [em3] at hr3
              have hr4 := fun s k v d hd Q => e_cRW F G1 X1 17 (by decide) (by decide) p4 hp4 s k v d hd Q
              rw [e5] at hr4
              have hr5 := fun s k v d hd Q => e_cN0 F G1 hp5 ok5 s k v d hd Q
              rw [e6] at hr5
              rw [e1]
              rw [e6]
              simp -implicitDefEqProofs (disch := first | omega | (simp (disch := omega) only [nb_upr]; omega)) only [R_1842, w_1842_0, w_1842_1, w_1842_2, w_1842_3, w_1842_4, w_1842_5, w_1842_6, zi_0, zi_0n, zi_31, zi_130, zi_658, zi_98, zi_67w1, zi_67w2, zi_637, zi_111i, zi_111r, zi_111u, zi_111a, zi_659, zi_660, zi_108, zi_123, zi_269, zi_113, zi_74i, zi_74r, zi_74u, zi_74a, zi_661, zi_287, zi_235, zi_133, zi_164i, zi_164r, zi_164u, zi_164a, zi_662, zi_212, zi_23, zi_23n, zi_34, zi_63, zi_76, zi_165, zi_138, zi_215i, zi_215r, zi_48, F.t101, x16 _ X1, x17 _ X1, kC_eq, toL_s, toL_n, okS0, okS1, okS2, okS3, okS4, okS5, true_and, and_true, hT_wI, hL_wI, hR_wI, hI_wI, hJ_wI, sI_wI, rfP, isIA_100, isIA_120, inb_ok, nI_clamp, nI_add, nI_mul, ↓reduceIte, not_false_eq_true, not_true_eq_false, true_or, or_true, ↓bI_01, ↓b01_0, ↓b01_1, bI_0, z00, z10, n4, n5, n2, n8, Nat.reduceMul, Nat.reduceAdd, Nat.reduceLT, Nat.reduceLeDiff, hr1, hr2, ok2, hr3, hr4, ok4, hr5, tc_5, Bool.false_eq_true]
            · have er5 := fun d hd Q => e_mN0 (g := mf g ρ) F (nI 0) (nI 9) ok5 d hd Q
              simp -implicitDefEqProofs (disch := first | omega | (simp (disch := omega) only [nb_upr]; omega)) only [R_681, w_681_0, w_681_1, w_681_2, w_681_3, w_681_4, zi_0, zi_0n, zi_372, zi_59, zi_106, zi_42, zi_186, zi_48, zi_112, zi_31, zi_113, zi_371, zi_374, zi_297, zi_373, zi_75, zi_130, zi_423, zi_32i, zi_32r, zi_32u, zi_32a, zi_432, zi_433, zi_123, zi_111i, zi_111r, zi_111u, zi_111a, zi_434, zi_74i, zi_74r, zi_74u, zi_74a, zi_424, zi_287, zi_435, zi_140, zi_79, zi_70, zi_164i, zi_164r, zi_164u, zi_164a, zi_165, zi_88, zi_38, zi_34, zi_51, zi_63, zi_54, zi_76, zi_436i, zi_436l, zi_133, zi_41, hT_jP, hL_jP, hR_jP, F.t233, F.r233_1, F.t235, F.l235, kC_eq, toL_s, toL_n, okS0, okS1, okS2, okS3, okS4, okS5, true_and, and_true, hT_wI, hL_wI, hR_wI, hI_wI, hJ_wI, sI_wI, rfP, isIA_100, isIA_120, inb_ok, nI_clamp, nI_add, nI_mul, ↓reduceIte, not_false_eq_true, not_true_eq_false, true_or, or_true, ↓bI_01, ↓b01_0, ↓b01_1, bI_0, z00, z10, n4, n5, n2, n8, Nat.reduceMul, Nat.reduceAdd, Nat.reduceLT, Nat.reduceLeDiff, nI_eq, nI_leI, nI_ltI, Nat.reduceEqDiff, pk_div, nI_sub, Nat.reduceDiv, Nat.reduceSub, er0 g MG0, er1 g MG0, er2 g MG0, er3 g MG0, er4 g MG0, er5, e_mNz F, e_mRz F, e_mEz F, tp_13, tp_u13, tp_o, mf_r, h5, n6]
        · skip
          refine Or.inr ⟨p4, hp4, fun X v G0 X0 T0 => ⟨X, ρ, nI (tE y t p4), nI (tK y t p4), (tVV y t p4 (nI m3)), XO.refl X, fun Q => ?_⟩, fun g MG0 => ⟨ρ, fun Q => ?_⟩⟩
          · obtain ⟨b, hb⟩ : ∃ b, b = 145 := ⟨_, rfl⟩
            have w := F.w145
            have G1 := G0.xo (XO.ww (X := X) ρ)
            have X1 := X0.xo (XO.ww (X := X) ρ)
            rw [← hb] at w G1 X1 ⊢
            have hr1 := fun s k v d hd Q => e_cN1 F G1 hp1 ok1 s k v d hd Q
            rw [e2] at hr1
            rw [em1] at hr1
            have hr2 := fun s k v d hd Q => e_cRW F G1 X1 16 (by decide) (by decide) p2 hp2 s k v d hd Q
            rw [e3] at hr2
            have hr3 := fun s k v d hd Q => e_cN1 F G1 hp3 ok3 s k v d hd Q
            rw [e4] at hr3
            rw [em3] at hr3
            have hr4 := fun s k v d hd Q => e_cRW F G1 X1 17 (by decide) (by decide) p4 hp4 s k v d hd Q
            rw [e5] at hr4
            rw [e1]
            rw [e5]
            simp -implicitDefEqProofs (disch := first | omega | (simp (disch := omega) only [nb_upr]; omega)) only [R_1842, w_1842_0, w_1842_1, w_1842_2, w_1842_3, w_1842_4, w_1842_5, w_1842_6, zi_0, zi_0n, zi_31, zi_130, zi_658, zi_98, zi_67w1, zi_67w2, zi_637, zi_111i, zi_111r, zi_111u, zi_111a, zi_659, zi_660, zi_108, zi_123, zi_269, zi_113, zi_74i, zi_74r, zi_74u, zi_74a, zi_661, zi_287, zi_235, zi_133, zi_164i, zi_164r, zi_164u, zi_164a, zi_662, zi_212, zi_23, zi_23n, zi_34, zi_63, zi_76, zi_165, zi_138, zi_215i, zi_215r, zi_48, F.t101, x16 _ X1, x17 _ X1, kC_eq, toL_s, toL_n, okS0, okS1, okS2, okS3, okS4, okS5, true_and, and_true, hT_wI, hL_wI, hR_wI, hI_wI, hJ_wI, sI_wI, rfP, isIA_100, isIA_120, inb_ok, nI_clamp, nI_add, nI_mul, ↓reduceIte, not_false_eq_true, not_true_eq_false, true_or, or_true, ↓bI_01, ↓b01_0, ↓b01_1, bI_0, z00, z10, n4, n5, n2, n8, Nat.reduceMul, Nat.reduceAdd, Nat.reduceLT, Nat.reduceLeDiff, hr1, hr2, ok2, hr3, hr4, ok4, tc_5, Bool.false_eq_true]
          · have er4 := fun d hd Q => e_mR0 (g := mf g ρ) F (k := 17) (by decide) (by decide) cw17 ok4 d hd Q
            simp -implicitDefEqProofs (disch := first | omega | (simp (disch := omega) only [nb_upr]; omega)) only [R_681, w_681_0, w_681_1, w_681_2, w_681_3, w_681_4, zi_0, zi_0n, zi_372, zi_59, zi_106, zi_42, zi_186, zi_48, zi_112, zi_31, zi_113, zi_371, zi_374, zi_297, zi_373, zi_75, zi_130, zi_423, zi_32i, zi_32r, zi_32u, zi_32a, zi_432, zi_433, zi_123, zi_111i, zi_111r, zi_111u, zi_111a, zi_434, zi_74i, zi_74r, zi_74u, zi_74a, zi_424, zi_287, zi_435, zi_140, zi_79, zi_70, zi_164i, zi_164r, zi_164u, zi_164a, zi_165, zi_88, zi_38, zi_34, zi_51, zi_63, zi_54, zi_76, zi_436i, zi_436l, zi_133, zi_41, hT_jP, hL_jP, hR_jP, F.t233, F.r233_1, F.t235, F.l235, kC_eq, toL_s, toL_n, okS0, okS1, okS2, okS3, okS4, okS5, true_and, and_true, hT_wI, hL_wI, hR_wI, hI_wI, hJ_wI, sI_wI, rfP, isIA_100, isIA_120, inb_ok, nI_clamp, nI_add, nI_mul, ↓reduceIte, not_false_eq_true, not_true_eq_false, true_or, or_true, ↓bI_01, ↓b01_0, ↓b01_1, bI_0, z00, z10, n4, n5, n2, n8, Nat.reduceMul, Nat.reduceAdd, Nat.reduceLT, Nat.reduceLeDiff, nI_eq, nI_leI, nI_ltI, Nat.reduceEqDiff, pk_div, nI_sub, Nat.reduceDiv, Nat.reduceSub, er0 g MG0, er1 g MG0, er2 g MG0, er3 g MG0, er4, e_mNz F, e_mRz F, e_mEz F, tp_13, tp_u13, tp_o, mf_r, h5, n6]
      · skip
        refine Or.inr ⟨p3, hp3, fun X v G0 X0 T0 => ⟨X, ρ, nI (tE y t p3), nI (tK y t p3), (tVV y t p3 (tVV y t p2 (nI m1))), XO.refl X, fun Q => ?_⟩, fun g MG0 => ⟨ρ, fun Q => ?_⟩⟩
        · obtain ⟨b, hb⟩ : ∃ b, b = 145 := ⟨_, rfl⟩
          have w := F.w145
          have G1 := G0.xo (XO.ww (X := X) ρ)
          have X1 := X0.xo (XO.ww (X := X) ρ)
          rw [← hb] at w G1 X1 ⊢
          have hr1 := fun s k v d hd Q => e_cN1 F G1 hp1 ok1 s k v d hd Q
          rw [e2] at hr1
          rw [em1] at hr1
          have hr2 := fun s k v d hd Q => e_cRW F G1 X1 16 (by decide) (by decide) p2 hp2 s k v d hd Q
          rw [e3] at hr2
          have hr3 := fun s k v d hd Q => e_cN0 F G1 hp3 ok3 s k v d hd Q
          rw [e4] at hr3
          rw [e1]
          rw [e4]
          simp -implicitDefEqProofs (disch := first | omega | (simp (disch := omega) only [nb_upr]; omega)) only [R_1842, w_1842_0, w_1842_1, w_1842_2, w_1842_3, w_1842_4, w_1842_5, w_1842_6, zi_0, zi_0n, zi_31, zi_130, zi_658, zi_98, zi_67w1, zi_67w2, zi_637, zi_111i, zi_111r, zi_111u, zi_111a, zi_659, zi_660, zi_108, zi_123, zi_269, zi_113, zi_74i, zi_74r, zi_74u, zi_74a, zi_661, zi_287, zi_235, zi_133, zi_164i, zi_164r, zi_164u, zi_164a, zi_662, zi_212, zi_23, zi_23n, zi_34, zi_63, zi_76, zi_165, zi_138, zi_215i, zi_215r, zi_48, F.t101, x16 _ X1, x17 _ X1, kC_eq, toL_s, toL_n, okS0, okS1, okS2, okS3, okS4, okS5, true_and, and_true, hT_wI, hL_wI, hR_wI, hI_wI, hJ_wI, sI_wI, rfP, isIA_100, isIA_120, inb_ok, nI_clamp, nI_add, nI_mul, ↓reduceIte, not_false_eq_true, not_true_eq_false, true_or, or_true, ↓bI_01, ↓b01_0, ↓b01_1, bI_0, z00, z10, n4, n5, n2, n8, Nat.reduceMul, Nat.reduceAdd, Nat.reduceLT, Nat.reduceLeDiff, hr1, hr2, ok2, hr3, tc_5, Bool.false_eq_true]
        · have er3 := fun d hd Q => e_mN0 (g := mf g ρ) F (nI 0) (nI 7) ok3 d hd Q
          simp -implicitDefEqProofs (disch := first | omega | (simp (disch := omega) only [nb_upr]; omega)) only [R_681, w_681_0, w_681_1, w_681_2, w_681_3, w_681_4, zi_0, zi_0n, zi_372, zi_59, zi_106, zi_42, zi_186, zi_48, zi_112, zi_31, zi_113, zi_371, zi_374, zi_297, zi_373, zi_75, zi_130, zi_423, zi_32i, zi_32r, zi_32u, zi_32a, zi_432, zi_433, zi_123, zi_111i, zi_111r, zi_111u, zi_111a, zi_434, zi_74i, zi_74r, zi_74u, zi_74a, zi_424, zi_287, zi_435, zi_140, zi_79, zi_70, zi_164i, zi_164r, zi_164u, zi_164a, zi_165, zi_88, zi_38, zi_34, zi_51, zi_63, zi_54, zi_76, zi_436i, zi_436l, zi_133, zi_41, hT_jP, hL_jP, hR_jP, F.t233, F.r233_1, F.t235, F.l235, kC_eq, toL_s, toL_n, okS0, okS1, okS2, okS3, okS4, okS5, true_and, and_true, hT_wI, hL_wI, hR_wI, hI_wI, hJ_wI, sI_wI, rfP, isIA_100, isIA_120, inb_ok, nI_clamp, nI_add, nI_mul, ↓reduceIte, not_false_eq_true, not_true_eq_false, true_or, or_true, ↓bI_01, ↓b01_0, ↓b01_1, bI_0, z00, z10, n4, n5, n2, n8, Nat.reduceMul, Nat.reduceAdd, Nat.reduceLT, Nat.reduceLeDiff, nI_eq, nI_leI, nI_ltI, Nat.reduceEqDiff, pk_div, nI_sub, Nat.reduceDiv, Nat.reduceSub, er0 g MG0, er1 g MG0, er2 g MG0, er3, e_mNz F, e_mRz F, e_mEz F, tp_13, tp_u13, tp_o, mf_r, h5, n6]
    · skip
      refine Or.inr ⟨p2, hp2, fun X v G0 X0 T0 => ⟨X, ρ, nI (tE y t p2), nI (tK y t p2), (tVV y t p2 (nI m1)), XO.refl X, fun Q => ?_⟩, fun g MG0 => ⟨ρ, fun Q => ?_⟩⟩
      · obtain ⟨b, hb⟩ : ∃ b, b = 145 := ⟨_, rfl⟩
        have w := F.w145
        have G1 := G0.xo (XO.ww (X := X) ρ)
        have X1 := X0.xo (XO.ww (X := X) ρ)
        rw [← hb] at w G1 X1 ⊢
        have hr1 := fun s k v d hd Q => e_cN1 F G1 hp1 ok1 s k v d hd Q
        rw [e2] at hr1
        rw [em1] at hr1
        have hr2 := fun s k v d hd Q => e_cRW F G1 X1 16 (by decide) (by decide) p2 hp2 s k v d hd Q
        rw [e3] at hr2
        rw [e1]
        rw [e3]
        simp -implicitDefEqProofs (disch := first | omega | (simp (disch := omega) only [nb_upr]; omega)) only [R_1842, w_1842_0, w_1842_1, w_1842_2, w_1842_3, w_1842_4, w_1842_5, w_1842_6, zi_0, zi_0n, zi_31, zi_130, zi_658, zi_98, zi_67w1, zi_67w2, zi_637, zi_111i, zi_111r, zi_111u, zi_111a, zi_659, zi_660, zi_108, zi_123, zi_269, zi_113, zi_74i, zi_74r, zi_74u, zi_74a, zi_661, zi_287, zi_235, zi_133, zi_164i, zi_164r, zi_164u, zi_164a, zi_662, zi_212, zi_23, zi_23n, zi_34, zi_63, zi_76, zi_165, zi_138, zi_215i, zi_215r, zi_48, F.t101, x16 _ X1, x17 _ X1, kC_eq, toL_s, toL_n, okS0, okS1, okS2, okS3, okS4, okS5, true_and, and_true, hT_wI, hL_wI, hR_wI, hI_wI, hJ_wI, sI_wI, rfP, isIA_100, isIA_120, inb_ok, nI_clamp, nI_add, nI_mul, ↓reduceIte, not_false_eq_true, not_true_eq_false, true_or, or_true, ↓bI_01, ↓b01_0, ↓b01_1, bI_0, z00, z10, n4, n5, n2, n8, Nat.reduceMul, Nat.reduceAdd, Nat.reduceLT, Nat.reduceLeDiff, hr1, hr2, ok2, tc_5, Bool.false_eq_true]
      · have er2 := fun d hd Q => e_mR0 (g := mf g ρ) F (k := 16) (by decide) (by decide) cw16 ok2 d hd Q
        simp -implicitDefEqProofs (disch := first | omega | (simp (disch := omega) only [nb_upr]; omega)) only [R_681, w_681_0, w_681_1, w_681_2, w_681_3, w_681_4, zi_0, zi_0n, zi_372, zi_59, zi_106, zi_42, zi_186, zi_48, zi_112, zi_31, zi_113, zi_371, zi_374, zi_297, zi_373, zi_75, zi_130, zi_423, zi_32i, zi_32r, zi_32u, zi_32a, zi_432, zi_433, zi_123, zi_111i, zi_111r, zi_111u, zi_111a, zi_434, zi_74i, zi_74r, zi_74u, zi_74a, zi_424, zi_287, zi_435, zi_140, zi_79, zi_70, zi_164i, zi_164r, zi_164u, zi_164a, zi_165, zi_88, zi_38, zi_34, zi_51, zi_63, zi_54, zi_76, zi_436i, zi_436l, zi_133, zi_41, hT_jP, hL_jP, hR_jP, F.t233, F.r233_1, F.t235, F.l235, kC_eq, toL_s, toL_n, okS0, okS1, okS2, okS3, okS4, okS5, true_and, and_true, hT_wI, hL_wI, hR_wI, hI_wI, hJ_wI, sI_wI, rfP, isIA_100, isIA_120, inb_ok, nI_clamp, nI_add, nI_mul, ↓reduceIte, not_false_eq_true, not_true_eq_false, true_or, or_true, ↓bI_01, ↓b01_0, ↓b01_1, bI_0, z00, z10, n4, n5, n2, n8, Nat.reduceMul, Nat.reduceAdd, Nat.reduceLT, Nat.reduceLeDiff, nI_eq, nI_leI, nI_ltI, Nat.reduceEqDiff, pk_div, nI_sub, Nat.reduceDiv, Nat.reduceSub, er0 g MG0, er1 g MG0, er2, e_mNz F, e_mRz F, e_mEz F, tp_13, tp_u13, tp_o, mf_r, h5, n6]
  · skip
    refine Or.inr ⟨p1, hp1, fun X v G0 X0 T0 => ⟨X, ρ, nI (tE y t p1), nI (tK y t p1), (tVV y t p1 v), XO.refl X, fun Q => ?_⟩, fun g MG0 => ⟨ρ, fun Q => ?_⟩⟩
    · obtain ⟨b, hb⟩ : ∃ b, b = 145 := ⟨_, rfl⟩
      have w := F.w145
      have G1 := G0.xo (XO.ww (X := X) ρ)
      have X1 := X0.xo (XO.ww (X := X) ρ)
      rw [← hb] at w G1 X1 ⊢
      have hr1 := fun s k v d hd Q => e_cN0 F G1 hp1 ok1 s k v d hd Q
      rw [e2] at hr1
      rw [e1]
      rw [e2]
      simp -implicitDefEqProofs (disch := first | omega | (simp (disch := omega) only [nb_upr]; omega)) only [R_1842, w_1842_0, w_1842_1, w_1842_2, w_1842_3, w_1842_4, w_1842_5, w_1842_6, zi_0, zi_0n, zi_31, zi_130, zi_658, zi_98, zi_67w1, zi_67w2, zi_637, zi_111i, zi_111r, zi_111u, zi_111a, zi_659, zi_660, zi_108, zi_123, zi_269, zi_113, zi_74i, zi_74r, zi_74u, zi_74a, zi_661, zi_287, zi_235, zi_133, zi_164i, zi_164r, zi_164u, zi_164a, zi_662, zi_212, zi_23, zi_23n, zi_34, zi_63, zi_76, zi_165, zi_138, zi_215i, zi_215r, zi_48, F.t101, x16 _ X1, x17 _ X1, kC_eq, toL_s, toL_n, okS0, okS1, okS2, okS3, okS4, okS5, true_and, and_true, hT_wI, hL_wI, hR_wI, hI_wI, hJ_wI, sI_wI, rfP, isIA_100, isIA_120, inb_ok, nI_clamp, nI_add, nI_mul, ↓reduceIte, not_false_eq_true, not_true_eq_false, true_or, or_true, ↓bI_01, ↓b01_0, ↓b01_1, bI_0, z00, z10, n4, n5, n2, n8, Nat.reduceMul, Nat.reduceAdd, Nat.reduceLT, Nat.reduceLeDiff, hr1, tc_5, Bool.false_eq_true]
    · have er1 := fun d hd Q => e_mN0 (g := mf g ρ) F (nI 0) (nI 9) ok1 d hd Q
      simp -implicitDefEqProofs (disch := first | omega | (simp (disch := omega) only [nb_upr]; omega)) only [R_681, w_681_0, w_681_1, w_681_2, w_681_3, w_681_4, zi_0, zi_0n, zi_372, zi_59, zi_106, zi_42, zi_186, zi_48, zi_112, zi_31, zi_113, zi_371, zi_374, zi_297, zi_373, zi_75, zi_130, zi_423, zi_32i, zi_32r, zi_32u, zi_32a, zi_432, zi_433, zi_123, zi_111i, zi_111r, zi_111u, zi_111a, zi_434, zi_74i, zi_74r, zi_74u, zi_74a, zi_424, zi_287, zi_435, zi_140, zi_79, zi_70, zi_164i, zi_164r, zi_164u, zi_164a, zi_165, zi_88, zi_38, zi_34, zi_51, zi_63, zi_54, zi_76, zi_436i, zi_436l, zi_133, zi_41, hT_jP, hL_jP, hR_jP, F.t233, F.r233_1, F.t235, F.l235, kC_eq, toL_s, toL_n, okS0, okS1, okS2, okS3, okS4, okS5, true_and, and_true, hT_wI, hL_wI, hR_wI, hI_wI, hJ_wI, sI_wI, rfP, isIA_100, isIA_120, inb_ok, nI_clamp, nI_add, nI_mul, ↓reduceIte, not_false_eq_true, not_true_eq_false, true_or, or_true, ↓bI_01, ↓b01_0, ↓b01_1, bI_0, z00, z10, n4, n5, n2, n8, Nat.reduceMul, Nat.reduceAdd, Nat.reduceLT, Nat.reduceLeDiff, nI_eq, nI_leI, nI_ltI, Nat.reduceEqDiff, pk_div, nI_sub, Nat.reduceDiv, Nat.reduceSub, er0 g MG0, er1, e_mNz F, e_mRz F, e_mEz F, tp_13, tp_u13, tp_o, mf_r, h5, n6]
end
