section
/-! any clause, both sides; the whole text -/
variable {n : Nat} {h : PH} {y : Nat → Nat} {t p : Nat} {d d' : Nat} {g : Nat → Nat → Int32} {ρ : Nat → Int32} {Q : Option Value → PH → Prop}
theorem isW_1 {k : Nat} (hw : isW y t p k = true) : tK y t p = 1 := by
  unfold isW at hw
  rw [Bool.and_eq_true, decide_eq_true_iff] at hw
  exact hw.1
theorem kdN_le : kdN y t p ≤ 6 := (fst1_le (fun i => isW y t p (10 + i)) 6 0).2
theorem kd_no {i : Nat} (hi : i < kdN y t p) : ¬ isW y t p (10 + i) = true := fst1_no (fun i => isW y t p (10 + i)) 6 0 i (Nat.zero_le i) hi
theorem kd_yes (hi : kdN y t p < 6) : isW y t p (10 + kdN y t p) = true := fst1_yes (fun i => isW y t p (10 + i)) 6 0 (by
  show fst1 (fun i => isW y t p (10 + i)) 6 0 < 0 + 6
  have : kdN y t p < 0 + 6 := by omega
  exact this)
theorem c_kinds (F : FR h) (G : TG y t g) (X : TX h g) (hp : p ≤ t) (b : Nat) (v : Int32) (d : Nat) (hd : 1 ≤ d) (Q : Option Value → PH → Prop) :
    ∀ i, i ≤ kdN y t p → WP d 1817 1 [.ref 101, .ref b, .int (nI 0)] [] (wI h (tcS g (nI (tE y t p)) (nI (tS y t p)) (nI (tK y t p)) v)) Q = WP d 1817 1 [.ref 101, .ref b, .int (nI i)] [] (wI h (tcS g (nI (tE y t p)) (nI (tS y t p)) (nI (tK y t p)) v)) Q
  | 0, _ => rfl
  | i + 1, hi => by
    have h6 := kdN_le (y := y) (t := t) (p := p)
    have g6 : ¬ 6 ≤ i := by omega
    have hw := kd_no (y := y) (t := t) (p := p) (i := i) (by omega)
    rw [c_kinds F G X hp b v d hd Q i (by omega), w_1817_1]
    simp -implicitDefEqProofs (disch := first | omega | (simp (disch := omega) only [nb_upr]; omega)) only [w_1817_4, zi_31, zi_32i, zi_32r, zi_32u, zi_32a, zi_33, zi_34, zi_42, zi_166, zi_0, zi_0n, zi_638, zi_639, zi_287, zi_23, zi_23n, zi_104, zi_35, zi_640, zi_108, zi_48, zi_86, zi_75, zi_67w1, zi_67w2, zi_39i, zi_39r, zi_39u, zi_39a, zi_40, zi_641, zi_309, zi_642, zi_643, zi_241, zi_644, zi_645, zi_325, zi_646, zi_647, zi_313, zi_109, zi_107, zi_106, zi_648, zi_314, zi_315, F.t101, kC_eq, toL_s, toL_n, okS0, okS1, okS2, okS3, okS4, okS5, true_and, and_true, hT_wI, hL_wI, hR_wI, hI_wI, hJ_wI, sI_wI, rfP, isIA_100, isIA_120, inb_ok, nI_clamp, nI_add, nI_mul, ↓reduceIte, not_false_eq_true, not_true_eq_false, true_or, or_true, ↓bI_01, ↓b01_0, ↓b01_1, bI_0, z00, z10, n4, n5, n2, n8, Nat.reduceMul, Nat.reduceAdd, Nat.reduceLT, Nat.reduceLeDiff, nI_eq, nI_leI, nI_ltI, Nat.reduceEqDiff, pk_div, nI_sub, Nat.reduceDiv, Nat.reduceSub, g6, e_kindName X, e_cW F G X _ _ _ p hp, hw, Bool.false_eq_true]
theorem c_part_k (F : FR h) (G : TG y t g) (X : TX h g) (hp : p ≤ t) (b : Nat) (v : Int32) (d : Nat) (hd : 1 ≤ d) (Q : Option Value → PH → Prop) :
    Run d 1817 [.ref 101, .ref b] (wI h (tcS g (nI (tE y t p)) (nI (tS y t p)) (nI (tK y t p)) v)) Q = WP d 1817 1 [.ref 101, .ref b, .int (nI (kdN y t p))] [] (wI h (tcS g (nI (tE y t p)) (nI (tS y t p)) (nI (tK y t p)) v)) Q := by
  rw [← c_kinds F G X hp b v d hd Q (kdN y t p) (Nat.le_refl _)]
  simp -implicitDefEqProofs (disch := first | omega | (simp (disch := omega) only [nb_upr]; omega)) only [R_1817, w_1817_0, zi_31, zi_32i, zi_32r, zi_32u, zi_32a, zi_33, zi_34, zi_42, zi_166, zi_0, zi_0n, zi_638, zi_639, zi_287, zi_23, zi_23n, zi_104, zi_35, zi_640, zi_108, zi_48, zi_86, zi_75, zi_67w1, zi_67w2, zi_39i, zi_39r, zi_39u, zi_39a, zi_40, zi_641, zi_309, zi_642, zi_643, zi_241, zi_644, zi_645, zi_325, zi_646, zi_647, zi_313, zi_109, zi_107, zi_106, zi_648, zi_314, zi_315, kC_eq, toL_s, toL_n, okS0, okS1, okS2, okS3, okS4, okS5, true_and, and_true, hT_wI, hL_wI, hR_wI, hI_wI, hJ_wI, sI_wI, rfP, isIA_100, isIA_120, inb_ok, nI_clamp, nI_add, nI_mul, ↓reduceIte, not_false_eq_true, not_true_eq_false, true_or, or_true, ↓bI_01, ↓b01_0, ↓b01_1, bI_0, z00, z10, n4, n5, n2, n8, Nat.reduceMul, Nat.reduceAdd, Nat.reduceLT, Nat.reduceLeDiff]
/-- no clause begins so -/
theorem m_none (F : FR h) (hk : ¬ kdN y t p < 6) (h18 : ¬ isW y t p 18 = true) (h25 : ¬ isW y t p 25 = true) (h26 : ¬ isW y t p 26 = true) (h27 : ¬ isW y t p 27 = true) (d : Nat) (hd : 2 ≤ d) (Q : Option Value → PH → Prop) :
    Run d 656 [.ref 233] (wI (jP h y t p) (tmP g y t p (nI 1))) Q = Q none (wI (jP h y t p) (tmP g y t p (nI 0))) := by
  have c18 : wc 18 = 283616147 := by decide +kernel
  have c25 : wc 25 = 8863997 := by decide +kernel
  have c26 : wc 26 = 9459316 := by decide +kernel
  have c27 : wc 27 = 453740 := by decide +kernel
  have lt0 : Int32.ofInt (-1) < (0 : Int32) := by decide
  have ek := fun d hd Q => e_mKd (g := g) (y := y) (t := t) (p := p) F (nI 1) d hd Q
  rw [if_neg hk] at ek
  simp -implicitDefEqProofs (disch := first | omega | (simp (disch := omega) only [nb_upr]; omega)) only [R_656, w_656_0, w_656_1, w_656_2, w_656_3, w_656_4, w_656_5, w_656_6, zi_0, zi_0n, zi_412, zi_413, zi_414, zi_236, zi_415, zi_416, zi_108, zi_417, zi_418, zi_297, zi_419, zi_420, zi_287, zi_421, zi_422, zi_134, zi_373, zi_372, zi_31, zi_132, zi_423, zi_38, zi_424, zi_371, zi_237, zi_41, hT_jP, F.t233, kC_eq, toL_s, toL_n, okS0, okS1, okS2, okS3, okS4, okS5, true_and, and_true, hT_wI, hL_wI, hR_wI, hI_wI, hJ_wI, sI_wI, rfP, isIA_100, isIA_120, inb_ok, nI_clamp, nI_add, nI_mul, ↓reduceIte, not_false_eq_true, not_true_eq_false, true_or, or_true, ↓bI_01, ↓b01_0, ↓b01_1, bI_0, z00, z10, n4, n5, n2, n8, Nat.reduceMul, Nat.reduceAdd, Nat.reduceLT, Nat.reduceLeDiff, ek, lt0, e_mW F _ _ c18, e_mW F _ _ c25, e_mW F _ _ c26, e_mW F _ _ c27, h18, h25, h26, h27, tp_u13, Bool.false_eq_true]
theorem m_noname (F : FR h) (hk : ¬ tK y t p = 1) (d : Nat) (hd : 2 ≤ d) (Q : Option Value → PH → Prop) :
    Run d 656 [.ref 233] (wI (jP h y t p) (tmP g y t p (nI 1))) Q = Q none (wI (jP h y t p) (tmP g y t p (nI 0))) :=
  m_none F (fun z => hk (isW_1 (kd_yes z))) (fun z => hk (isW_1 z)) (fun z => hk (isW_1 z)) (fun z => hk (isW_1 z)) (fun z => hk (isW_1 z)) d hd Q
theorem j_wake (F : FR h) (V : Vr n ρ) (hp : p ≤ t) (hk : tK y t p = 1) (hk6 : ¬ kdN y t p < 6) (h18 : ¬ isW y t p 18 = true) (h25 : ¬ isW y t p 25 = true) (h26 : ¬ isW y t p 26 = true) (h27 : isW y t p 27 = true) (hd : 6 ≤ d) (hd' : 5 ≤ d') :
    JO h y t n p ρ (fun X v Q => Run d 1817 [.ref 101, .ref 145] (wI h (tcS (ww X 145 ρ) (nI (tE y t p)) (nI (tS y t p)) (nI (tK y t p)) v)) Q) (fun g Q => Run d' 656 [.ref 233] (wI (jP h y t p) (tmP (mf g ρ) y t p (nI 1))) Q) := by
  have c18 : wc 18 = 283616147 := by decide +kernel
  have c25 : wc 25 = 8863997 := by decide +kernel
  have c26 : wc 26 = 9459316 := by decide +kernel
  have c27 : wc 27 = 453740 := by decide +kernel
  have x18 := fun (g : Nat → Nat → Int32) (X : TX h g) => (X 18 (by decide) (by decide)).1
  have x25 := fun (g : Nat → Nat → Int32) (X : TX h g) => (X 25 (by decide) (by decide)).1
  have x26 := fun (g : Nat → Nat → Int32) (X : TX h g) => (X 26 (by decide) (by decide)).1
  have x27 := fun (g : Nat → Nat → Int32) (X : TX h g) => (X 27 (by decide) (by decide)).1
  have lt0 : Int32.ofInt (-1) < (0 : Int32) := by decide
  have k6 : kdN y t p = 6 := by have := kdN_le (y := y) (t := t) (p := p); omega
  have a0 := tE_gt1 hk
  have a1 := tS_b (y := y) hp
  have a2 := tE_b (y := y) hp
  obtain ⟨p1, e1⟩ : ∃ p1, tE y t p = p1 := ⟨_, rfl⟩
  have hp1 : p1 ≤ t := by omega
  have b1 := tS_b (y := y) hp1
  have b2 := tE_b (y := y) hp1
  have er0 := fun (g : Nat → Nat → Int32) (MG0 : MG y t g) d hd Q => e_advP (g := mf g ρ) F (MG.mf (g := g) MG0 ρ) hp (nI 1) d hd Q
  rw [e1] at er0
  have ek := fun (g : Nat → Nat → Int32) d hd Q => e_mKd (g := mf g ρ) (y := y) (t := t) (p := p) F (nI 1) d hd Q
  rw [if_neg hk6] at ek
  have st4 : ∀ X, TB X → ∀ s k v q, tcS (ww X 145 ρ) s k v q 4 0 = nI 99 := fun X T0 s k v q => by
    rw [tc_o (by omega), ww_out (by omega)]
    exact T0.2.2.1.1
  by_cases ok : okN y t p1 (nI 0) (nI 99)
  · obtain ⟨p2, e2⟩ : ∃ p2, tE y t p1 = p2 := ⟨_, rfl⟩
    have hp2 : p2 ≤ t := by omega
    have c1 := tS_b (y := y) hp2
    have c2 := tE_b (y := y) hp2
    have er1 := fun (g : Nat → Nat → Int32) (MG0 : MG y t g) d hd Q => e_mN1 (g := mf g ρ) F (MG.mf (g := g) MG0 ρ) hp1 (nI 0) (nI 99) ok.1 ok.2 d hd Q
    rw [e2] at er1
    by_cases he : isE y t p2
    · obtain ⟨k, -, k99, ekk⟩ := ok.nat (by decide) (by decide)
      refine Or.inl ⟨tE y t p2, upr ρ 0 (tV y t p1), by omega, by omega, V.put (lim_lt (by omega)) (by omega) (by rw [okq_0, ekk]; exact ⟨k, k99, rfl⟩), upr_ne _ _ (by omega), fun X v G0 X0 T0 => ⟨X, nI (tS y t p2), nI (tK y t p2), tVV y t p2 (tV y t p1), XO.refl X, fun Q => ?_⟩, fun g MG0 Q => ?_⟩
      · have G1 := G0.xo (XO.ww (X := X) ρ)
        have X1 := X0.xo (XO.ww (X := X) ρ)
        refine (c_part_k F G1 X1 hp 145 v d (by omega) Q).trans ?_
        have hs4 := st4 X T0
        obtain ⟨b, hb⟩ : ∃ b, b = 145 := ⟨_, rfl⟩
        have w := F.w145
        rw [← hb] at w G1 X1 hs4 ⊢
        have he' : isE y t (tE y t p1) := by rw [e2]; exact he
        have hn := fun s k v d hd Q => c_num1 (a := b + 1) (i := 0) F G1 hp1 ok he' w.t1 w.l1 (by decide) (by decide) (by omega) s k v d hd Q
        have hwd := fun k k1 k2 v d Q => e_cW F G1 X1 k k1 k2 p hp v d Q
        rw [e2] at hn
        rw [e1] at hwd
        rw [k6, e1, w_1817_1]
        simp -implicitDefEqProofs (disch := first | omega | (simp (disch := omega) only [nb_upr]; omega)) only [w_1817_5, w_1817_6, w_1817_7, w_1817_8, w_1817_9, w_1817_10, zi_31, zi_32i, zi_32r, zi_32u, zi_32a, zi_33, zi_34, zi_42, zi_166, zi_0, zi_0n, zi_638, zi_639, zi_287, zi_23, zi_23n, zi_104, zi_35, zi_640, zi_108, zi_48, zi_86, zi_75, zi_67w1, zi_67w2, zi_39i, zi_39r, zi_39u, zi_39a, zi_40, zi_641, zi_309, zi_642, zi_643, zi_241, zi_644, zi_645, zi_325, zi_646, zi_647, zi_313, zi_109, zi_107, zi_106, zi_648, zi_314, zi_315, F.t101, F.o4, F.p4, x18 _ X1, x25 _ X1, x26 _ X1, x27 _ X1, w.t, w.r1, kC_eq, toL_s, toL_n, okS0, okS1, okS2, okS3, okS4, okS5, true_and, and_true, hT_wI, hL_wI, hR_wI, hI_wI, hJ_wI, sI_wI, rfP, isIA_100, isIA_120, inb_ok, nI_clamp, nI_add, nI_mul, ↓reduceIte, not_false_eq_true, not_true_eq_false, true_or, or_true, ↓bI_01, ↓b01_0, ↓b01_1, bI_0, z00, z10, n4, n5, n2, n8, Nat.reduceMul, Nat.reduceAdd, Nat.reduceLT, Nat.reduceLeDiff, nI_eq, nI_leI, nI_ltI, Nat.reduceEqDiff, pk_div, nI_sub, Nat.reduceDiv, Nat.reduceSub, hwd, h18, h25, h26, h27, hs4, hn, ws_1, Bool.false_eq_true]
      · have er2 := fun d hd Q => e_mE1 (g := mf g (upr ρ 0 (tV y t p1))) F (MG0.mf _) hp2 he d hd Q
        simp -implicitDefEqProofs (disch := first | omega | (simp (disch := omega) only [nb_upr]; omega)) only [R_656, w_656_0, w_656_1, w_656_2, w_656_3, w_656_4, w_656_5, w_656_6, zi_0, zi_0n, zi_412, zi_413, zi_414, zi_236, zi_415, zi_416, zi_108, zi_417, zi_418, zi_297, zi_419, zi_420, zi_287, zi_421, zi_422, zi_134, zi_373, zi_372, zi_31, zi_132, zi_423, zi_38, zi_424, zi_371, zi_237, zi_41, hT_jP, hL_jP, hR_jP, F.t233, F.r233_1, F.t235, F.l235, kC_eq, toL_s, toL_n, okS0, okS1, okS2, okS3, okS4, okS5, true_and, and_true, hT_wI, hL_wI, hR_wI, hI_wI, hJ_wI, sI_wI, rfP, isIA_100, isIA_120, inb_ok, nI_clamp, nI_add, nI_mul, ↓reduceIte, not_false_eq_true, not_true_eq_false, true_or, or_true, ↓bI_01, ↓b01_0, ↓b01_1, bI_0, z00, z10, n4, n5, n2, n8, Nat.reduceMul, Nat.reduceAdd, Nat.reduceLT, Nat.reduceLeDiff, ek g, lt0, e_mW F _ _ c18, e_mW F _ _ c25, e_mW F _ _ c26, e_mW F _ _ c27, h18, h25, h26, h27, er0 g MG0, er1 g MG0, er2, tp_uo, mf_w, Bool.false_eq_true]
    · refine Or.inr ⟨p2, hp2, fun X v G0 X0 T0 => ⟨X, ρ, nI (tE y t p2), nI (tK y t p2), tVV y t p2 (tV y t p1), XO.refl X, fun Q => ?_⟩, fun g MG0 => ⟨upr ρ 0 (tV y t p1), fun Q => ?_⟩⟩
      · have G1 := G0.xo (XO.ww (X := X) ρ)
        have X1 := X0.xo (XO.ww (X := X) ρ)
        refine (c_part_k F G1 X1 hp 145 v d (by omega) Q).trans ?_
        have hs4 := st4 X T0
        obtain ⟨b, hb⟩ : ∃ b, b = 145 := ⟨_, rfl⟩
        have w := F.w145
        rw [← hb] at w G1 X1 hs4 ⊢
        have he' : ¬ isE y t (tE y t p1) := by rw [e2]; exact he
        have hn := fun i s k v d hd Q => c_num3 F G1 hp1 ok he' (b + 1) i s k v d hd Q
        have hwd := fun k k1 k2 v d Q => e_cW F G1 X1 k k1 k2 p hp v d Q
        rw [e2] at hn
        rw [e1] at hwd
        rw [k6, e1, w_1817_1]
        simp -implicitDefEqProofs (disch := first | omega | (simp (disch := omega) only [nb_upr]; omega)) only [w_1817_5, w_1817_6, w_1817_7, w_1817_8, w_1817_9, w_1817_10, zi_31, zi_32i, zi_32r, zi_32u, zi_32a, zi_33, zi_34, zi_42, zi_166, zi_0, zi_0n, zi_638, zi_639, zi_287, zi_23, zi_23n, zi_104, zi_35, zi_640, zi_108, zi_48, zi_86, zi_75, zi_67w1, zi_67w2, zi_39i, zi_39r, zi_39u, zi_39a, zi_40, zi_641, zi_309, zi_642, zi_643, zi_241, zi_644, zi_645, zi_325, zi_646, zi_647, zi_313, zi_109, zi_107, zi_106, zi_648, zi_314, zi_315, F.t101, F.o4, F.p4, x18 _ X1, x25 _ X1, x26 _ X1, x27 _ X1, w.t, w.r1, kC_eq, toL_s, toL_n, okS0, okS1, okS2, okS3, okS4, okS5, true_and, and_true, hT_wI, hL_wI, hR_wI, hI_wI, hJ_wI, sI_wI, rfP, isIA_100, isIA_120, inb_ok, nI_clamp, nI_add, nI_mul, ↓reduceIte, not_false_eq_true, not_true_eq_false, true_or, or_true, ↓bI_01, ↓b01_0, ↓b01_1, bI_0, z00, z10, n4, n5, n2, n8, Nat.reduceMul, Nat.reduceAdd, Nat.reduceLT, Nat.reduceLeDiff, nI_eq, nI_leI, nI_ltI, Nat.reduceEqDiff, pk_div, nI_sub, Nat.reduceDiv, Nat.reduceSub, hwd, h18, h25, h26, h27, hs4, hn, Bool.false_eq_true]
      · have er2 := fun d hd Q => e_mE0 (g := mf g (upr ρ 0 (tV y t p1))) F (MG0.mf _) he d hd Q
        simp -implicitDefEqProofs (disch := first | omega | (simp (disch := omega) only [nb_upr]; omega)) only [R_656, w_656_0, w_656_1, w_656_2, w_656_3, w_656_4, w_656_5, w_656_6, zi_0, zi_0n, zi_412, zi_413, zi_414, zi_236, zi_415, zi_416, zi_108, zi_417, zi_418, zi_297, zi_419, zi_420, zi_287, zi_421, zi_422, zi_134, zi_373, zi_372, zi_31, zi_132, zi_423, zi_38, zi_424, zi_371, zi_237, zi_41, hT_jP, hL_jP, hR_jP, F.t233, F.r233_1, F.t235, F.l235, kC_eq, toL_s, toL_n, okS0, okS1, okS2, okS3, okS4, okS5, true_and, and_true, hT_wI, hL_wI, hR_wI, hI_wI, hJ_wI, sI_wI, rfP, isIA_100, isIA_120, inb_ok, nI_clamp, nI_add, nI_mul, ↓reduceIte, not_false_eq_true, not_true_eq_false, true_or, or_true, ↓bI_01, ↓b01_0, ↓b01_1, bI_0, z00, z10, n4, n5, n2, n8, Nat.reduceMul, Nat.reduceAdd, Nat.reduceLT, Nat.reduceLeDiff, ek g, lt0, e_mW F _ _ c18, e_mW F _ _ c25, e_mW F _ _ c26, e_mW F _ _ c27, h18, h25, h26, h27, er0 g MG0, er1 g MG0, er2, tp_uo, mf_w, Bool.false_eq_true]
  · refine Or.inr ⟨p1, hp1, fun X v G0 X0 T0 => ⟨X, ρ, nI (tE y t p1), nI (tK y t p1), tVV y t p1 v, XO.refl X, fun Q => ?_⟩, fun g MG0 => ⟨upr ρ 0 (tRV y t p1), fun Q => ?_⟩⟩
    · have G1 := G0.xo (XO.ww (X := X) ρ)
      have X1 := X0.xo (XO.ww (X := X) ρ)
      refine (c_part_k F G1 X1 hp 145 v d (by omega) Q).trans ?_
      have hs4 := st4 X T0
      obtain ⟨b, hb⟩ : ∃ b, b = 145 := ⟨_, rfl⟩
      have w := F.w145
      rw [← hb] at w G1 X1 hs4 ⊢
      have hn := fun i s k v d hd Q => c_num2 F G1 hp1 ok (b + 1) i s k v d hd Q
      have hwd := fun k k1 k2 v d Q => e_cW F G1 X1 k k1 k2 p hp v d Q
      rw [e1] at hwd
      rw [k6, e1, w_1817_1]
      simp -implicitDefEqProofs (disch := first | omega | (simp (disch := omega) only [nb_upr]; omega)) only [w_1817_5, w_1817_6, w_1817_7, w_1817_8, w_1817_9, w_1817_10, zi_31, zi_32i, zi_32r, zi_32u, zi_32a, zi_33, zi_34, zi_42, zi_166, zi_0, zi_0n, zi_638, zi_639, zi_287, zi_23, zi_23n, zi_104, zi_35, zi_640, zi_108, zi_48, zi_86, zi_75, zi_67w1, zi_67w2, zi_39i, zi_39r, zi_39u, zi_39a, zi_40, zi_641, zi_309, zi_642, zi_643, zi_241, zi_644, zi_645, zi_325, zi_646, zi_647, zi_313, zi_109, zi_107, zi_106, zi_648, zi_314, zi_315, F.t101, F.o4, F.p4, x18 _ X1, x25 _ X1, x26 _ X1, x27 _ X1, w.t, w.r1, kC_eq, toL_s, toL_n, okS0, okS1, okS2, okS3, okS4, okS5, true_and, and_true, hT_wI, hL_wI, hR_wI, hI_wI, hJ_wI, sI_wI, rfP, isIA_100, isIA_120, inb_ok, nI_clamp, nI_add, nI_mul, ↓reduceIte, not_false_eq_true, not_true_eq_false, true_or, or_true, ↓bI_01, ↓b01_0, ↓b01_1, bI_0, z00, z10, n4, n5, n2, n8, Nat.reduceMul, Nat.reduceAdd, Nat.reduceLT, Nat.reduceLeDiff, nI_eq, nI_leI, nI_ltI, Nat.reduceEqDiff, pk_div, nI_sub, Nat.reduceDiv, Nat.reduceSub, hwd, h18, h25, h26, h27, hs4, hn, Bool.false_eq_true]
    · have er1 := fun d hd Q => e_mN0 (g := mf g ρ) F (nI 0) (nI 99) ok d hd Q
      simp -implicitDefEqProofs (disch := first | omega | (simp (disch := omega) only [nb_upr]; omega)) only [R_656, w_656_0, w_656_1, w_656_2, w_656_3, w_656_4, w_656_5, w_656_6, zi_0, zi_0n, zi_412, zi_413, zi_414, zi_236, zi_415, zi_416, zi_108, zi_417, zi_418, zi_297, zi_419, zi_420, zi_287, zi_421, zi_422, zi_134, zi_373, zi_372, zi_31, zi_132, zi_423, zi_38, zi_424, zi_371, zi_237, zi_41, hT_jP, hL_jP, hR_jP, F.t233, F.r233_1, F.t235, F.l235, kC_eq, toL_s, toL_n, okS0, okS1, okS2, okS3, okS4, okS5, true_and, and_true, hT_wI, hL_wI, hR_wI, hI_wI, hJ_wI, sI_wI, rfP, isIA_100, isIA_120, inb_ok, nI_clamp, nI_add, nI_mul, ↓reduceIte, not_false_eq_true, not_true_eq_false, true_or, or_true, ↓bI_01, ↓b01_0, ↓b01_1, bI_0, z00, z10, n4, n5, n2, n8, Nat.reduceMul, Nat.reduceAdd, Nat.reduceLT, Nat.reduceLeDiff, ek g, lt0, e_mW F _ _ c18, e_mW F _ _ c25, e_mW F _ _ c26, e_mW F _ _ c27, h18, h25, h26, h27, er0 g MG0, er1, e_mEz F, tp_uo, mf_w, Bool.false_eq_true]
theorem m_boat6 (F : FR h) (h6 : nb ρ = 6) (h5 : ρ 5 = nI (nb ρ)) (κ : Int32) (d : Nat) (hd : 1 ≤ d) (Q : Option Value → PH → Prop) :
    Run d 681 [.ref 233, .int κ] (wI (jP h y t p) (tmP (mf g ρ) y t p (nI 1))) Q = Q none (wI (jP h y t p) (tmP (mf g ρ) y t p (nI 0))) := by
  have r6 : ρ 5 = nI 6 := by rw [h5, h6]
  simp -implicitDefEqProofs (disch := first | omega | (simp (disch := omega) only [nb_upr]; omega)) only [R_681, w_681_0, w_681_1, w_681_2, w_681_3, w_681_4, zi_0, zi_0n, zi_372, zi_59, zi_106, zi_42, zi_186, zi_48, zi_112, zi_31, zi_113, zi_371, zi_374, zi_297, zi_373, zi_75, zi_130, zi_423, zi_32i, zi_32r, zi_32u, zi_32a, zi_432, zi_433, zi_123, zi_111i, zi_111r, zi_111u, zi_111a, zi_434, zi_74i, zi_74r, zi_74u, zi_74a, zi_424, zi_287, zi_435, zi_140, zi_79, zi_70, zi_164i, zi_164r, zi_164u, zi_164a, zi_165, zi_88, zi_38, zi_34, zi_51, zi_63, zi_54, zi_76, zi_436i, zi_436l, zi_133, zi_41, hT_jP, hL_jP, hR_jP, F.t233, F.r233_1, F.t235, F.l235, kC_eq, toL_s, toL_n, okS0, okS1, okS2, okS3, okS4, okS5, true_and, and_true, hT_wI, hL_wI, hR_wI, hI_wI, hJ_wI, sI_wI, rfP, isIA_100, isIA_120, inb_ok, nI_clamp, nI_add, nI_mul, ↓reduceIte, not_false_eq_true, not_true_eq_false, true_or, or_true, ↓bI_01, ↓b01_0, ↓b01_1, bI_0, z00, z10, n4, n5, n2, n8, Nat.reduceMul, Nat.reduceAdd, Nat.reduceLT, Nat.reduceLeDiff, nI_eq, nI_leI, nI_ltI, Nat.reduceEqDiff, pk_div, nI_sub, Nat.reduceDiv, Nat.reduceSub, e_mNz F, e_mRz F, e_mEz F, tp_13, tp_u13, tp_o, mf_r, r6, Nat.le_refl]
theorem j_part (F : FR h) (V : Vr n ρ) (hp : p ≤ t) (hk : tK y t p = 1) (hd : 7 ≤ d) (hd' : 5 ≤ d') :
    JO h y t n p ρ (fun X v Q => Run d 1817 [.ref 101, .ref 145] (wI h (tcS (ww X 145 ρ) (nI (tE y t p)) (nI (tS y t p)) (nI (tK y t p)) v)) Q) (fun g Q => Run d' 656 [.ref 233] (wI (jP h y t p) (tmP (mf g ρ) y t p (nI 1))) Q) := by
  have c18 : wc 18 = 283616147 := by decide +kernel
  have c25 : wc 25 = 8863997 := by decide +kernel
  have c26 : wc 26 = 9459316 := by decide +kernel
  have c27 : wc 27 = 453740 := by decide +kernel
  have x18 := fun (g : Nat → Nat → Int32) (X : TX h g) => (X 18 (by decide) (by decide)).1
  have x25 := fun (g : Nat → Nat → Int32) (X : TX h g) => (X 25 (by decide) (by decide)).1
  have x26 := fun (g : Nat → Nat → Int32) (X : TX h g) => (X 26 (by decide) (by decide)).1
  have x27 := fun (g : Nat → Nat → Int32) (X : TX h g) => (X 27 (by decide) (by decide)).1
  have lt0 : Int32.ofInt (-1) < (0 : Int32) := by decide
  have w := F.w145
  have h5 := V.r5
  have hN6 := V.nb6
  have ek := fun (g : Nat → Nat → Int32) d hd Q => e_mKd (g := mf g ρ) (y := y) (t := t) (p := p) F (nI 1) d hd Q
  by_cases hk6 : kdN y t p < 6
  · rw [if_pos hk6] at ek
    have hw := kd_yes hk6
    obtain ⟨κ, eκ⟩ : ∃ κ, kdN y t p = κ := ⟨_, rfl⟩
    rw [eκ] at ek hw hk6
    have g6 : ¬ 6 ≤ κ := by omega
    have nlt : ¬ nI κ < (0 : Int32) := nI_pos (by omega)
    by_cases hb6 : nb ρ < 6
    · have nb6' : ¬ 6 ≤ nb ρ := by omega
      rcases j_boat (d := d - 1) (d' := d' - 1) F V hp hk hb6 κ (by omega) (by omega) (by omega) with ⟨p', ρ', q1, q2, q3, q4, hc, hm⟩ | ⟨q, q1, hc, hm⟩
      · refine Or.inl ⟨p', ρ', q1, q2, q3, q4, fun X v G0 X0 T0 => ?_, fun g MG0 Q => ?_⟩
        · obtain ⟨X', s, k, v', xo, ec⟩ := hc X v G0 X0 T0
          have ec : ∀ Q, Run (d - 1) 1842 [.ref 101, .ref 145, .int (nI κ)] (wI h (tcS (ww X 145 ρ) (nI (tE y t p)) (nI (tS y t p)) (nI (tK y t p)) v)) Q = Q (some (.int (nI 1))) (wI h (tcS (ww X' 145 ρ') (nI p') s k v')) := ec
          have G1 := G0.xo (XO.ww (X := X) ρ)
          have X1 := X0.xo (XO.ww (X := X) ρ)
          refine ⟨X', s, k, v', xo, fun Q => (c_part_k F G1 X1 hp 145 v d (by omega) Q).trans ?_⟩
          rw [eκ, w_1817_1]
          simp -implicitDefEqProofs (disch := first | omega | (simp (disch := omega) only [nb_upr]; omega)) only [w_1817_3, zi_31, zi_32i, zi_32r, zi_32u, zi_32a, zi_33, zi_34, zi_42, zi_166, zi_0, zi_0n, zi_638, zi_639, zi_287, zi_23, zi_23n, zi_104, zi_35, zi_640, zi_108, zi_48, zi_86, zi_75, zi_67w1, zi_67w2, zi_39i, zi_39r, zi_39u, zi_39a, zi_40, zi_641, zi_309, zi_642, zi_643, zi_241, zi_644, zi_645, zi_325, zi_646, zi_647, zi_313, zi_109, zi_107, zi_106, zi_648, zi_314, zi_315, F.t101, w.t, kC_eq, toL_s, toL_n, okS0, okS1, okS2, okS3, okS4, okS5, true_and, and_true, hT_wI, hL_wI, hR_wI, hI_wI, hJ_wI, sI_wI, rfP, isIA_100, isIA_120, inb_ok, nI_clamp, nI_add, nI_mul, ↓reduceIte, not_false_eq_true, not_true_eq_false, true_or, or_true, ↓bI_01, ↓b01_0, ↓b01_1, bI_0, z00, z10, n4, n5, n2, n8, Nat.reduceMul, Nat.reduceAdd, Nat.reduceLT, Nat.reduceLeDiff, nI_eq, nI_leI, nI_ltI, Nat.reduceEqDiff, pk_div, nI_sub, Nat.reduceDiv, Nat.reduceSub, g6, e_kindName X1, e_cW F G1 X1 _ _ _ p hp, hw, tc_o, ww_0_14, h5, nb6', ec]
        · have em : ∀ Q, Run (d' - 1) 681 [.ref 233, .int (nI κ)] (wI (jP h y t p) (tmP (mf g ρ) y t p (nI 1))) Q = Q none (wI (jP h y t p') (tmP (mf g ρ') y t p' (nI 1))) := hm g MG0
          simp -implicitDefEqProofs (disch := first | omega | (simp (disch := omega) only [nb_upr]; omega)) only [R_656, w_656_0, w_656_6, zi_0, zi_0n, zi_412, zi_413, zi_414, zi_236, zi_415, zi_416, zi_108, zi_417, zi_418, zi_297, zi_419, zi_420, zi_287, zi_421, zi_422, zi_134, zi_373, zi_372, zi_31, zi_132, zi_423, zi_38, zi_424, zi_371, zi_237, zi_41, hT_jP, F.t233, kC_eq, toL_s, toL_n, okS0, okS1, okS2, okS3, okS4, okS5, true_and, and_true, hT_wI, hL_wI, hR_wI, hI_wI, hJ_wI, sI_wI, rfP, isIA_100, isIA_120, inb_ok, nI_clamp, nI_add, nI_mul, ↓reduceIte, not_false_eq_true, not_true_eq_false, true_or, or_true, ↓bI_01, ↓b01_0, ↓b01_1, bI_0, z00, z10, n4, n5, n2, n8, Nat.reduceMul, Nat.reduceAdd, Nat.reduceLT, Nat.reduceLeDiff, ek g, nlt, em]
      · refine Or.inr ⟨q, q1, fun X v G0 X0 T0 => ?_, fun g MG0 => ?_⟩
        · obtain ⟨X', ρ', s, k, v', xo, ec⟩ := hc X v G0 X0 T0
          have ec : ∀ Q, Run (d - 1) 1842 [.ref 101, .ref 145, .int (nI κ)] (wI h (tcS (ww X 145 ρ) (nI (tE y t p)) (nI (tS y t p)) (nI (tK y t p)) v)) Q = Q (some (.int (nI 0))) (wI h (tcS (ww X' 145 ρ') s (nI (tS y t q)) k v')) := ec
          have G1 := G0.xo (XO.ww (X := X) ρ)
          have X1 := X0.xo (XO.ww (X := X) ρ)
          refine ⟨X', ρ', s, k, v', xo, fun Q => (c_part_k F G1 X1 hp 145 v d (by omega) Q).trans ?_⟩
          rw [eκ, w_1817_1]
          simp -implicitDefEqProofs (disch := first | omega | (simp (disch := omega) only [nb_upr]; omega)) only [w_1817_2, w_1817_3, zi_31, zi_32i, zi_32r, zi_32u, zi_32a, zi_33, zi_34, zi_42, zi_166, zi_0, zi_0n, zi_638, zi_639, zi_287, zi_23, zi_23n, zi_104, zi_35, zi_640, zi_108, zi_48, zi_86, zi_75, zi_67w1, zi_67w2, zi_39i, zi_39r, zi_39u, zi_39a, zi_40, zi_641, zi_309, zi_642, zi_643, zi_241, zi_644, zi_645, zi_325, zi_646, zi_647, zi_313, zi_109, zi_107, zi_106, zi_648, zi_314, zi_315, F.t101, w.t, kC_eq, toL_s, toL_n, okS0, okS1, okS2, okS3, okS4, okS5, true_and, and_true, hT_wI, hL_wI, hR_wI, hI_wI, hJ_wI, sI_wI, rfP, isIA_100, isIA_120, inb_ok, nI_clamp, nI_add, nI_mul, ↓reduceIte, not_false_eq_true, not_true_eq_false, true_or, or_true, ↓bI_01, ↓b01_0, ↓b01_1, bI_0, z00, z10, n4, n5, n2, n8, Nat.reduceMul, Nat.reduceAdd, Nat.reduceLT, Nat.reduceLeDiff, nI_eq, nI_leI, nI_ltI, Nat.reduceEqDiff, pk_div, nI_sub, Nat.reduceDiv, Nat.reduceSub, g6, e_kindName X1, e_cW F G1 X1 _ _ _ p hp, hw, tc_o, ww_0_14, h5, nb6', ec]
        · obtain ⟨ρ', em⟩ := hm g MG0
          have em : ∀ Q, Run (d' - 1) 681 [.ref 233, .int (nI κ)] (wI (jP h y t p) (tmP (mf g ρ) y t p (nI 1))) Q = Q none (wI (jP h y t q) (tmP (mf g ρ') y t q (nI 0))) := em
          refine ⟨ρ', fun Q => ?_⟩
          simp -implicitDefEqProofs (disch := first | omega | (simp (disch := omega) only [nb_upr]; omega)) only [R_656, w_656_0, w_656_6, zi_0, zi_0n, zi_412, zi_413, zi_414, zi_236, zi_415, zi_416, zi_108, zi_417, zi_418, zi_297, zi_419, zi_420, zi_287, zi_421, zi_422, zi_134, zi_373, zi_372, zi_31, zi_132, zi_423, zi_38, zi_424, zi_371, zi_237, zi_41, hT_jP, F.t233, kC_eq, toL_s, toL_n, okS0, okS1, okS2, okS3, okS4, okS5, true_and, and_true, hT_wI, hL_wI, hR_wI, hI_wI, hJ_wI, sI_wI, rfP, isIA_100, isIA_120, inb_ok, nI_clamp, nI_add, nI_mul, ↓reduceIte, not_false_eq_true, not_true_eq_false, true_or, or_true, ↓bI_01, ↓b01_0, ↓b01_1, bI_0, z00, z10, n4, n5, n2, n8, Nat.reduceMul, Nat.reduceAdd, Nat.reduceLT, Nat.reduceLeDiff, ek g, nlt, em]
    · have nb6' : 6 ≤ nb ρ := by omega
      refine Or.inr ⟨p, hp, fun X v G0 X0 T0 => ⟨X, ρ, nI (tE y t p), nI (tK y t p), v, XO.refl X, fun Q => ?_⟩, fun g MG0 => ⟨ρ, fun Q => ?_⟩⟩
      · have G1 := G0.xo (XO.ww (X := X) ρ)
        have X1 := X0.xo (XO.ww (X := X) ρ)
        refine (c_part_k F G1 X1 hp 145 v d (by omega) Q).trans ?_
        rw [eκ, w_1817_1]
        simp -implicitDefEqProofs (disch := first | omega | (simp (disch := omega) only [nb_upr]; omega)) only [w_1817_2, w_1817_3, zi_31, zi_32i, zi_32r, zi_32u, zi_32a, zi_33, zi_34, zi_42, zi_166, zi_0, zi_0n, zi_638, zi_639, zi_287, zi_23, zi_23n, zi_104, zi_35, zi_640, zi_108, zi_48, zi_86, zi_75, zi_67w1, zi_67w2, zi_39i, zi_39r, zi_39u, zi_39a, zi_40, zi_641, zi_309, zi_642, zi_643, zi_241, zi_644, zi_645, zi_325, zi_646, zi_647, zi_313, zi_109, zi_107, zi_106, zi_648, zi_314, zi_315, F.t101, w.t, kC_eq, toL_s, toL_n, okS0, okS1, okS2, okS3, okS4, okS5, true_and, and_true, hT_wI, hL_wI, hR_wI, hI_wI, hJ_wI, sI_wI, rfP, isIA_100, isIA_120, inb_ok, nI_clamp, nI_add, nI_mul, ↓reduceIte, not_false_eq_true, not_true_eq_false, true_or, or_true, ↓bI_01, ↓b01_0, ↓b01_1, bI_0, z00, z10, n4, n5, n2, n8, Nat.reduceMul, Nat.reduceAdd, Nat.reduceLT, Nat.reduceLeDiff, nI_eq, nI_leI, nI_ltI, Nat.reduceEqDiff, pk_div, nI_sub, Nat.reduceDiv, Nat.reduceSub, g6, e_kindName X1, e_cW F G1 X1 _ _ _ p hp, hw, tc_o, ww_0_14, h5, nb6']
      · simp -implicitDefEqProofs (disch := first | omega | (simp (disch := omega) only [nb_upr]; omega)) only [R_656, w_656_0, w_656_6, zi_0, zi_0n, zi_412, zi_413, zi_414, zi_236, zi_415, zi_416, zi_108, zi_417, zi_418, zi_297, zi_419, zi_420, zi_287, zi_421, zi_422, zi_134, zi_373, zi_372, zi_31, zi_132, zi_423, zi_38, zi_424, zi_371, zi_237, zi_41, hT_jP, F.t233, kC_eq, toL_s, toL_n, okS0, okS1, okS2, okS3, okS4, okS5, true_and, and_true, hT_wI, hL_wI, hR_wI, hI_wI, hJ_wI, sI_wI, rfP, isIA_100, isIA_120, inb_ok, nI_clamp, nI_add, nI_mul, ↓reduceIte, not_false_eq_true, not_true_eq_false, true_or, or_true, ↓bI_01, ↓b01_0, ↓b01_1, bI_0, z00, z10, n4, n5, n2, n8, Nat.reduceMul, Nat.reduceAdd, Nat.reduceLT, Nat.reduceLeDiff, ek g, nlt, m_boat6 F (show nb ρ = 6 by omega) h5]
  have k6 : kdN y t p = 6 := by have := kdN_le (y := y) (t := t) (p := p); omega
  by_cases h18 : isW y t p 18 = true
  · rw [if_neg hk6] at ek
    rcases j_street (d := d - 1) (d' := d' - 1) F V hp hk (by omega) (by omega) with ⟨p', ρ', q1, q2, q3, q4, hc, hm⟩ | ⟨q, q1, hc, hm⟩
    · refine Or.inl ⟨p', ρ', q1, q2, q3, q4, fun X v G0 X0 T0 => ?_, fun g MG0 Q => ?_⟩
      · obtain ⟨X', s, k, v', xo, ec⟩ := hc X v G0 X0 T0
        have ec : ∀ Q, Run (d - 1) 1873 [.ref 101, .ref 145] (wI h (tcS (ww X 145 ρ) (nI (tE y t p)) (nI (tS y t p)) (nI (tK y t p)) v)) Q = Q (some (.int (nI 1))) (wI h (tcS (ww X' 145 ρ') (nI p') s k v')) := ec
        have G1 := G0.xo (XO.ww (X := X) ρ)
        have X1 := X0.xo (XO.ww (X := X) ρ)
        refine ⟨X', s, k, v', xo, fun Q => (c_part_k F G1 X1 hp 145 v d (by omega) Q).trans ?_⟩
        rw [k6, w_1817_1]
        simp -implicitDefEqProofs (disch := first | omega | (simp (disch := omega) only [nb_upr]; omega)) only [w_1817_5, zi_31, zi_32i, zi_32r, zi_32u, zi_32a, zi_33, zi_34, zi_42, zi_166, zi_0, zi_0n, zi_638, zi_639, zi_287, zi_23, zi_23n, zi_104, zi_35, zi_640, zi_108, zi_48, zi_86, zi_75, zi_67w1, zi_67w2, zi_39i, zi_39r, zi_39u, zi_39a, zi_40, zi_641, zi_309, zi_642, zi_643, zi_241, zi_644, zi_645, zi_325, zi_646, zi_647, zi_313, zi_109, zi_107, zi_106, zi_648, zi_314, zi_315, F.t101, x18 _ X1, kC_eq, toL_s, toL_n, okS0, okS1, okS2, okS3, okS4, okS5, true_and, and_true, hT_wI, hL_wI, hR_wI, hI_wI, hJ_wI, sI_wI, rfP, isIA_100, isIA_120, inb_ok, nI_clamp, nI_add, nI_mul, ↓reduceIte, not_false_eq_true, not_true_eq_false, true_or, or_true, ↓bI_01, ↓b01_0, ↓b01_1, bI_0, z00, z10, n4, n5, n2, n8, Nat.reduceMul, Nat.reduceAdd, Nat.reduceLT, Nat.reduceLeDiff, nI_eq, nI_leI, nI_ltI, Nat.reduceEqDiff, pk_div, nI_sub, Nat.reduceDiv, Nat.reduceSub, e_cW F G1 X1 _ _ _ p hp, h18, ec]
      · have em : ∀ Q, Run (d' - 1) 720 [.ref 233] (wI (jP h y t p) (tmP (mf g ρ) y t p (nI 1))) Q = Q none (wI (jP h y t p') (tmP (mf g ρ') y t p' (nI 1))) := hm g MG0
        simp -implicitDefEqProofs (disch := first | omega | (simp (disch := omega) only [nb_upr]; omega)) only [R_656, w_656_0, w_656_1, w_656_6, zi_0, zi_0n, zi_412, zi_413, zi_414, zi_236, zi_415, zi_416, zi_108, zi_417, zi_418, zi_297, zi_419, zi_420, zi_287, zi_421, zi_422, zi_134, zi_373, zi_372, zi_31, zi_132, zi_423, zi_38, zi_424, zi_371, zi_237, zi_41, hT_jP, F.t233, kC_eq, toL_s, toL_n, okS0, okS1, okS2, okS3, okS4, okS5, true_and, and_true, hT_wI, hL_wI, hR_wI, hI_wI, hJ_wI, sI_wI, rfP, isIA_100, isIA_120, inb_ok, nI_clamp, nI_add, nI_mul, ↓reduceIte, not_false_eq_true, not_true_eq_false, true_or, or_true, ↓bI_01, ↓b01_0, ↓b01_1, bI_0, z00, z10, n4, n5, n2, n8, Nat.reduceMul, Nat.reduceAdd, Nat.reduceLT, Nat.reduceLeDiff, ek g, lt0, e_mW F _ _ c18, h18, em]
    · refine Or.inr ⟨q, q1, fun X v G0 X0 T0 => ?_, fun g MG0 => ?_⟩
      · obtain ⟨X', ρ', s, k, v', xo, ec⟩ := hc X v G0 X0 T0
        have ec : ∀ Q, Run (d - 1) 1873 [.ref 101, .ref 145] (wI h (tcS (ww X 145 ρ) (nI (tE y t p)) (nI (tS y t p)) (nI (tK y t p)) v)) Q = Q (some (.int (nI 0))) (wI h (tcS (ww X' 145 ρ') s (nI (tS y t q)) k v')) := ec
        have G1 := G0.xo (XO.ww (X := X) ρ)
        have X1 := X0.xo (XO.ww (X := X) ρ)
        refine ⟨X', ρ', s, k, v', xo, fun Q => (c_part_k F G1 X1 hp 145 v d (by omega) Q).trans ?_⟩
        rw [k6, w_1817_1]
        simp -implicitDefEqProofs (disch := first | omega | (simp (disch := omega) only [nb_upr]; omega)) only [w_1817_5, zi_31, zi_32i, zi_32r, zi_32u, zi_32a, zi_33, zi_34, zi_42, zi_166, zi_0, zi_0n, zi_638, zi_639, zi_287, zi_23, zi_23n, zi_104, zi_35, zi_640, zi_108, zi_48, zi_86, zi_75, zi_67w1, zi_67w2, zi_39i, zi_39r, zi_39u, zi_39a, zi_40, zi_641, zi_309, zi_642, zi_643, zi_241, zi_644, zi_645, zi_325, zi_646, zi_647, zi_313, zi_109, zi_107, zi_106, zi_648, zi_314, zi_315, F.t101, x18 _ X1, kC_eq, toL_s, toL_n, okS0, okS1, okS2, okS3, okS4, okS5, true_and, and_true, hT_wI, hL_wI, hR_wI, hI_wI, hJ_wI, sI_wI, rfP, isIA_100, isIA_120, inb_ok, nI_clamp, nI_add, nI_mul, ↓reduceIte, not_false_eq_true, not_true_eq_false, true_or, or_true, ↓bI_01, ↓b01_0, ↓b01_1, bI_0, z00, z10, n4, n5, n2, n8, Nat.reduceMul, Nat.reduceAdd, Nat.reduceLT, Nat.reduceLeDiff, nI_eq, nI_leI, nI_ltI, Nat.reduceEqDiff, pk_div, nI_sub, Nat.reduceDiv, Nat.reduceSub, e_cW F G1 X1 _ _ _ p hp, h18, ec]
      · obtain ⟨ρ', em⟩ := hm g MG0
        have em : ∀ Q, Run (d' - 1) 720 [.ref 233] (wI (jP h y t p) (tmP (mf g ρ) y t p (nI 1))) Q = Q none (wI (jP h y t q) (tmP (mf g ρ') y t q (nI 0))) := em
        refine ⟨ρ', fun Q => ?_⟩
        simp -implicitDefEqProofs (disch := first | omega | (simp (disch := omega) only [nb_upr]; omega)) only [R_656, w_656_0, w_656_1, w_656_6, zi_0, zi_0n, zi_412, zi_413, zi_414, zi_236, zi_415, zi_416, zi_108, zi_417, zi_418, zi_297, zi_419, zi_420, zi_287, zi_421, zi_422, zi_134, zi_373, zi_372, zi_31, zi_132, zi_423, zi_38, zi_424, zi_371, zi_237, zi_41, hT_jP, F.t233, kC_eq, toL_s, toL_n, okS0, okS1, okS2, okS3, okS4, okS5, true_and, and_true, hT_wI, hL_wI, hR_wI, hI_wI, hJ_wI, sI_wI, rfP, isIA_100, isIA_120, inb_ok, nI_clamp, nI_add, nI_mul, ↓reduceIte, not_false_eq_true, not_true_eq_false, true_or, or_true, ↓bI_01, ↓b01_0, ↓b01_1, bI_0, z00, z10, n4, n5, n2, n8, Nat.reduceMul, Nat.reduceAdd, Nat.reduceLT, Nat.reduceLeDiff, ek g, lt0, e_mW F _ _ c18, h18, em]
  by_cases h25 : isW y t p 25 = true
  · rw [if_neg hk6] at ek
    rcases j_price (d := d - 1) (d' := d' - 1) F V hp hk (by omega) (by omega) with ⟨p', ρ', q1, q2, q3, q4, hc, hm⟩ | ⟨q, q1, hc, hm⟩
    · refine Or.inl ⟨p', ρ', q1, q2, q3, q4, fun X v G0 X0 T0 => ?_, fun g MG0 Q => ?_⟩
      · obtain ⟨X', s, k, v', xo, ec⟩ := hc X v G0 X0 T0
        have ec : ∀ Q, Run (d - 1) 1905 [.ref 101, .ref 145] (wI h (tcS (ww X 145 ρ) (nI (tE y t p)) (nI (tS y t p)) (nI (tK y t p)) v)) Q = Q (some (.int (nI 1))) (wI h (tcS (ww X' 145 ρ') (nI p') s k v')) := ec
        have G1 := G0.xo (XO.ww (X := X) ρ)
        have X1 := X0.xo (XO.ww (X := X) ρ)
        refine ⟨X', s, k, v', xo, fun Q => (c_part_k F G1 X1 hp 145 v d (by omega) Q).trans ?_⟩
        rw [k6, w_1817_1]
        simp -implicitDefEqProofs (disch := first | omega | (simp (disch := omega) only [nb_upr]; omega)) only [w_1817_5, w_1817_6, zi_31, zi_32i, zi_32r, zi_32u, zi_32a, zi_33, zi_34, zi_42, zi_166, zi_0, zi_0n, zi_638, zi_639, zi_287, zi_23, zi_23n, zi_104, zi_35, zi_640, zi_108, zi_48, zi_86, zi_75, zi_67w1, zi_67w2, zi_39i, zi_39r, zi_39u, zi_39a, zi_40, zi_641, zi_309, zi_642, zi_643, zi_241, zi_644, zi_645, zi_325, zi_646, zi_647, zi_313, zi_109, zi_107, zi_106, zi_648, zi_314, zi_315, F.t101, x18 _ X1, x25 _ X1, kC_eq, toL_s, toL_n, okS0, okS1, okS2, okS3, okS4, okS5, true_and, and_true, hT_wI, hL_wI, hR_wI, hI_wI, hJ_wI, sI_wI, rfP, isIA_100, isIA_120, inb_ok, nI_clamp, nI_add, nI_mul, ↓reduceIte, not_false_eq_true, not_true_eq_false, true_or, or_true, ↓bI_01, ↓b01_0, ↓b01_1, bI_0, z00, z10, n4, n5, n2, n8, Nat.reduceMul, Nat.reduceAdd, Nat.reduceLT, Nat.reduceLeDiff, nI_eq, nI_leI, nI_ltI, Nat.reduceEqDiff, pk_div, nI_sub, Nat.reduceDiv, Nat.reduceSub, e_cW F G1 X1 _ _ _ p hp, h18, h25, ec, Bool.false_eq_true]
      · have em : ∀ Q, Run (d' - 1) 744 [.ref 233] (wI (jP h y t p) (tmP (mf g ρ) y t p (nI 1))) Q = Q none (wI (jP h y t p') (tmP (mf g ρ') y t p' (nI 1))) := hm g MG0
        simp -implicitDefEqProofs (disch := first | omega | (simp (disch := omega) only [nb_upr]; omega)) only [R_656, w_656_0, w_656_1, w_656_2, w_656_6, zi_0, zi_0n, zi_412, zi_413, zi_414, zi_236, zi_415, zi_416, zi_108, zi_417, zi_418, zi_297, zi_419, zi_420, zi_287, zi_421, zi_422, zi_134, zi_373, zi_372, zi_31, zi_132, zi_423, zi_38, zi_424, zi_371, zi_237, zi_41, hT_jP, F.t233, kC_eq, toL_s, toL_n, okS0, okS1, okS2, okS3, okS4, okS5, true_and, and_true, hT_wI, hL_wI, hR_wI, hI_wI, hJ_wI, sI_wI, rfP, isIA_100, isIA_120, inb_ok, nI_clamp, nI_add, nI_mul, ↓reduceIte, not_false_eq_true, not_true_eq_false, true_or, or_true, ↓bI_01, ↓b01_0, ↓b01_1, bI_0, z00, z10, n4, n5, n2, n8, Nat.reduceMul, Nat.reduceAdd, Nat.reduceLT, Nat.reduceLeDiff, ek g, lt0, e_mW F _ _ c18, e_mW F _ _ c25, h18, h25, em, Bool.false_eq_true]
    · refine Or.inr ⟨q, q1, fun X v G0 X0 T0 => ?_, fun g MG0 => ?_⟩
      · obtain ⟨X', ρ', s, k, v', xo, ec⟩ := hc X v G0 X0 T0
        have ec : ∀ Q, Run (d - 1) 1905 [.ref 101, .ref 145] (wI h (tcS (ww X 145 ρ) (nI (tE y t p)) (nI (tS y t p)) (nI (tK y t p)) v)) Q = Q (some (.int (nI 0))) (wI h (tcS (ww X' 145 ρ') s (nI (tS y t q)) k v')) := ec
        have G1 := G0.xo (XO.ww (X := X) ρ)
        have X1 := X0.xo (XO.ww (X := X) ρ)
        refine ⟨X', ρ', s, k, v', xo, fun Q => (c_part_k F G1 X1 hp 145 v d (by omega) Q).trans ?_⟩
        rw [k6, w_1817_1]
        simp -implicitDefEqProofs (disch := first | omega | (simp (disch := omega) only [nb_upr]; omega)) only [w_1817_5, w_1817_6, zi_31, zi_32i, zi_32r, zi_32u, zi_32a, zi_33, zi_34, zi_42, zi_166, zi_0, zi_0n, zi_638, zi_639, zi_287, zi_23, zi_23n, zi_104, zi_35, zi_640, zi_108, zi_48, zi_86, zi_75, zi_67w1, zi_67w2, zi_39i, zi_39r, zi_39u, zi_39a, zi_40, zi_641, zi_309, zi_642, zi_643, zi_241, zi_644, zi_645, zi_325, zi_646, zi_647, zi_313, zi_109, zi_107, zi_106, zi_648, zi_314, zi_315, F.t101, x18 _ X1, x25 _ X1, kC_eq, toL_s, toL_n, okS0, okS1, okS2, okS3, okS4, okS5, true_and, and_true, hT_wI, hL_wI, hR_wI, hI_wI, hJ_wI, sI_wI, rfP, isIA_100, isIA_120, inb_ok, nI_clamp, nI_add, nI_mul, ↓reduceIte, not_false_eq_true, not_true_eq_false, true_or, or_true, ↓bI_01, ↓b01_0, ↓b01_1, bI_0, z00, z10, n4, n5, n2, n8, Nat.reduceMul, Nat.reduceAdd, Nat.reduceLT, Nat.reduceLeDiff, nI_eq, nI_leI, nI_ltI, Nat.reduceEqDiff, pk_div, nI_sub, Nat.reduceDiv, Nat.reduceSub, e_cW F G1 X1 _ _ _ p hp, h18, h25, ec, Bool.false_eq_true]
      · obtain ⟨ρ', em⟩ := hm g MG0
        have em : ∀ Q, Run (d' - 1) 744 [.ref 233] (wI (jP h y t p) (tmP (mf g ρ) y t p (nI 1))) Q = Q none (wI (jP h y t q) (tmP (mf g ρ') y t q (nI 0))) := em
        refine ⟨ρ', fun Q => ?_⟩
        simp -implicitDefEqProofs (disch := first | omega | (simp (disch := omega) only [nb_upr]; omega)) only [R_656, w_656_0, w_656_1, w_656_2, w_656_6, zi_0, zi_0n, zi_412, zi_413, zi_414, zi_236, zi_415, zi_416, zi_108, zi_417, zi_418, zi_297, zi_419, zi_420, zi_287, zi_421, zi_422, zi_134, zi_373, zi_372, zi_31, zi_132, zi_423, zi_38, zi_424, zi_371, zi_237, zi_41, hT_jP, F.t233, kC_eq, toL_s, toL_n, okS0, okS1, okS2, okS3, okS4, okS5, true_and, and_true, hT_wI, hL_wI, hR_wI, hI_wI, hJ_wI, sI_wI, rfP, isIA_100, isIA_120, inb_ok, nI_clamp, nI_add, nI_mul, ↓reduceIte, not_false_eq_true, not_true_eq_false, true_or, or_true, ↓bI_01, ↓b01_0, ↓b01_1, bI_0, z00, z10, n4, n5, n2, n8, Nat.reduceMul, Nat.reduceAdd, Nat.reduceLT, Nat.reduceLeDiff, ek g, lt0, e_mW F _ _ c18, e_mW F _ _ c25, h18, h25, em, Bool.false_eq_true]
  by_cases h26 : isW y t p 26 = true
  · rw [if_neg hk6] at ek
    rcases j_quota (d := d - 1) (d' := d' - 1) F V hp hk (by omega) (by omega) with ⟨p', ρ', q1, q2, q3, q4, hc, hm⟩ | ⟨q, q1, hc, hm⟩
    · refine Or.inl ⟨p', ρ', q1, q2, q3, q4, fun X v G0 X0 T0 => ?_, fun g MG0 Q => ?_⟩
      · obtain ⟨X', s, k, v', xo, ec⟩ := hc X v G0 X0 T0
        have ec : ∀ Q, Run (d - 1) 1913 [.ref 101, .ref 145] (wI h (tcS (ww X 145 ρ) (nI (tE y t p)) (nI (tS y t p)) (nI (tK y t p)) v)) Q = Q (some (.int (nI 1))) (wI h (tcS (ww X' 145 ρ') (nI p') s k v')) := ec
        have G1 := G0.xo (XO.ww (X := X) ρ)
        have X1 := X0.xo (XO.ww (X := X) ρ)
        refine ⟨X', s, k, v', xo, fun Q => (c_part_k F G1 X1 hp 145 v d (by omega) Q).trans ?_⟩
        rw [k6, w_1817_1]
        simp -implicitDefEqProofs (disch := first | omega | (simp (disch := omega) only [nb_upr]; omega)) only [w_1817_5, w_1817_6, w_1817_7, zi_31, zi_32i, zi_32r, zi_32u, zi_32a, zi_33, zi_34, zi_42, zi_166, zi_0, zi_0n, zi_638, zi_639, zi_287, zi_23, zi_23n, zi_104, zi_35, zi_640, zi_108, zi_48, zi_86, zi_75, zi_67w1, zi_67w2, zi_39i, zi_39r, zi_39u, zi_39a, zi_40, zi_641, zi_309, zi_642, zi_643, zi_241, zi_644, zi_645, zi_325, zi_646, zi_647, zi_313, zi_109, zi_107, zi_106, zi_648, zi_314, zi_315, F.t101, x18 _ X1, x25 _ X1, x26 _ X1, kC_eq, toL_s, toL_n, okS0, okS1, okS2, okS3, okS4, okS5, true_and, and_true, hT_wI, hL_wI, hR_wI, hI_wI, hJ_wI, sI_wI, rfP, isIA_100, isIA_120, inb_ok, nI_clamp, nI_add, nI_mul, ↓reduceIte, not_false_eq_true, not_true_eq_false, true_or, or_true, ↓bI_01, ↓b01_0, ↓b01_1, bI_0, z00, z10, n4, n5, n2, n8, Nat.reduceMul, Nat.reduceAdd, Nat.reduceLT, Nat.reduceLeDiff, nI_eq, nI_leI, nI_ltI, Nat.reduceEqDiff, pk_div, nI_sub, Nat.reduceDiv, Nat.reduceSub, e_cW F G1 X1 _ _ _ p hp, h18, h25, h26, ec, Bool.false_eq_true]
      · have em : ∀ Q, Run (d' - 1) 752 [.ref 233] (wI (jP h y t p) (tmP (mf g ρ) y t p (nI 1))) Q = Q none (wI (jP h y t p') (tmP (mf g ρ') y t p' (nI 1))) := hm g MG0
        simp -implicitDefEqProofs (disch := first | omega | (simp (disch := omega) only [nb_upr]; omega)) only [R_656, w_656_0, w_656_1, w_656_2, w_656_3, w_656_6, zi_0, zi_0n, zi_412, zi_413, zi_414, zi_236, zi_415, zi_416, zi_108, zi_417, zi_418, zi_297, zi_419, zi_420, zi_287, zi_421, zi_422, zi_134, zi_373, zi_372, zi_31, zi_132, zi_423, zi_38, zi_424, zi_371, zi_237, zi_41, hT_jP, F.t233, kC_eq, toL_s, toL_n, okS0, okS1, okS2, okS3, okS4, okS5, true_and, and_true, hT_wI, hL_wI, hR_wI, hI_wI, hJ_wI, sI_wI, rfP, isIA_100, isIA_120, inb_ok, nI_clamp, nI_add, nI_mul, ↓reduceIte, not_false_eq_true, not_true_eq_false, true_or, or_true, ↓bI_01, ↓b01_0, ↓b01_1, bI_0, z00, z10, n4, n5, n2, n8, Nat.reduceMul, Nat.reduceAdd, Nat.reduceLT, Nat.reduceLeDiff, ek g, lt0, e_mW F _ _ c18, e_mW F _ _ c25, e_mW F _ _ c26, h18, h25, h26, em, Bool.false_eq_true]
    · refine Or.inr ⟨q, q1, fun X v G0 X0 T0 => ?_, fun g MG0 => ?_⟩
      · obtain ⟨X', ρ', s, k, v', xo, ec⟩ := hc X v G0 X0 T0
        have ec : ∀ Q, Run (d - 1) 1913 [.ref 101, .ref 145] (wI h (tcS (ww X 145 ρ) (nI (tE y t p)) (nI (tS y t p)) (nI (tK y t p)) v)) Q = Q (some (.int (nI 0))) (wI h (tcS (ww X' 145 ρ') s (nI (tS y t q)) k v')) := ec
        have G1 := G0.xo (XO.ww (X := X) ρ)
        have X1 := X0.xo (XO.ww (X := X) ρ)
        refine ⟨X', ρ', s, k, v', xo, fun Q => (c_part_k F G1 X1 hp 145 v d (by omega) Q).trans ?_⟩
        rw [k6, w_1817_1]
        simp -implicitDefEqProofs (disch := first | omega | (simp (disch := omega) only [nb_upr]; omega)) only [w_1817_5, w_1817_6, w_1817_7, zi_31, zi_32i, zi_32r, zi_32u, zi_32a, zi_33, zi_34, zi_42, zi_166, zi_0, zi_0n, zi_638, zi_639, zi_287, zi_23, zi_23n, zi_104, zi_35, zi_640, zi_108, zi_48, zi_86, zi_75, zi_67w1, zi_67w2, zi_39i, zi_39r, zi_39u, zi_39a, zi_40, zi_641, zi_309, zi_642, zi_643, zi_241, zi_644, zi_645, zi_325, zi_646, zi_647, zi_313, zi_109, zi_107, zi_106, zi_648, zi_314, zi_315, F.t101, x18 _ X1, x25 _ X1, x26 _ X1, kC_eq, toL_s, toL_n, okS0, okS1, okS2, okS3, okS4, okS5, true_and, and_true, hT_wI, hL_wI, hR_wI, hI_wI, hJ_wI, sI_wI, rfP, isIA_100, isIA_120, inb_ok, nI_clamp, nI_add, nI_mul, ↓reduceIte, not_false_eq_true, not_true_eq_false, true_or, or_true, ↓bI_01, ↓b01_0, ↓b01_1, bI_0, z00, z10, n4, n5, n2, n8, Nat.reduceMul, Nat.reduceAdd, Nat.reduceLT, Nat.reduceLeDiff, nI_eq, nI_leI, nI_ltI, Nat.reduceEqDiff, pk_div, nI_sub, Nat.reduceDiv, Nat.reduceSub, e_cW F G1 X1 _ _ _ p hp, h18, h25, h26, ec, Bool.false_eq_true]
      · obtain ⟨ρ', em⟩ := hm g MG0
        have em : ∀ Q, Run (d' - 1) 752 [.ref 233] (wI (jP h y t p) (tmP (mf g ρ) y t p (nI 1))) Q = Q none (wI (jP h y t q) (tmP (mf g ρ') y t q (nI 0))) := em
        refine ⟨ρ', fun Q => ?_⟩
        simp -implicitDefEqProofs (disch := first | omega | (simp (disch := omega) only [nb_upr]; omega)) only [R_656, w_656_0, w_656_1, w_656_2, w_656_3, w_656_6, zi_0, zi_0n, zi_412, zi_413, zi_414, zi_236, zi_415, zi_416, zi_108, zi_417, zi_418, zi_297, zi_419, zi_420, zi_287, zi_421, zi_422, zi_134, zi_373, zi_372, zi_31, zi_132, zi_423, zi_38, zi_424, zi_371, zi_237, zi_41, hT_jP, F.t233, kC_eq, toL_s, toL_n, okS0, okS1, okS2, okS3, okS4, okS5, true_and, and_true, hT_wI, hL_wI, hR_wI, hI_wI, hJ_wI, sI_wI, rfP, isIA_100, isIA_120, inb_ok, nI_clamp, nI_add, nI_mul, ↓reduceIte, not_false_eq_true, not_true_eq_false, true_or, or_true, ↓bI_01, ↓b01_0, ↓b01_1, bI_0, z00, z10, n4, n5, n2, n8, Nat.reduceMul, Nat.reduceAdd, Nat.reduceLT, Nat.reduceLeDiff, ek g, lt0, e_mW F _ _ c18, e_mW F _ _ c25, e_mW F _ _ c26, h18, h25, h26, em, Bool.false_eq_true]
  by_cases h27 : isW y t p 27 = true
  · exact j_wake F V hp hk hk6 h18 h25 h26 h27 (by omega) hd'
  · refine Or.inr ⟨p, hp, fun X v G0 X0 T0 => ⟨X, ρ, nI (tE y t p), nI (tK y t p), v, XO.refl X, fun Q => ?_⟩, fun g MG0 => ⟨ρ, fun Q => m_none F hk6 h18 h25 h26 h27 d' (by omega) Q⟩⟩
    have G1 := G0.xo (XO.ww (X := X) ρ)
    have X1 := X0.xo (XO.ww (X := X) ρ)
    refine (c_part_k F G1 X1 hp 145 v d (by omega) Q).trans ?_
    rw [k6, w_1817_1]
    simp -implicitDefEqProofs (disch := first | omega | (simp (disch := omega) only [nb_upr]; omega)) only [w_1817_5, w_1817_6, w_1817_7, w_1817_8, w_1817_9, w_1817_10, zi_31, zi_32i, zi_32r, zi_32u, zi_32a, zi_33, zi_34, zi_42, zi_166, zi_0, zi_0n, zi_638, zi_639, zi_287, zi_23, zi_23n, zi_104, zi_35, zi_640, zi_108, zi_48, zi_86, zi_75, zi_67w1, zi_67w2, zi_39i, zi_39r, zi_39u, zi_39a, zi_40, zi_641, zi_309, zi_642, zi_643, zi_241, zi_644, zi_645, zi_325, zi_646, zi_647, zi_313, zi_109, zi_107, zi_106, zi_648, zi_314, zi_315, F.t101, x18 _ X1, x25 _ X1, x26 _ X1, x27 _ X1, kC_eq, toL_s, toL_n, okS0, okS1, okS2, okS3, okS4, okS5, true_and, and_true, hT_wI, hL_wI, hR_wI, hI_wI, hJ_wI, sI_wI, rfP, isIA_100, isIA_120, inb_ok, nI_clamp, nI_add, nI_mul, ↓reduceIte, not_false_eq_true, not_true_eq_false, true_or, or_true, ↓bI_01, ↓b01_0, ↓b01_1, bI_0, z00, z10, n4, n5, n2, n8, Nat.reduceMul, Nat.reduceAdd, Nat.reduceLT, Nat.reduceLeDiff, nI_eq, nI_leI, nI_ltI, Nat.reduceEqDiff, pk_div, nI_sub, Nat.reduceDiv, Nat.reduceSub, e_cW F G1 X1 _ _ _ p hp, h18, h25, h26, h27, Bool.false_eq_true]
/-- the whole text: told, or a fault at the same place -/
theorem j_text (F : FR h) (hd : 9 ≤ d) (hd' : 7 ≤ d') : ∀ (j p : Nat) (ρ : Nat → Int32) (i : Nat), t - p ≤ j → p ≤ t → i ≤ p → t ≤ 200 → Vr n ρ →
    (∃ ρ', Vr n ρ' ∧ ρ' 6 = ρ 6 ∧
      (∀ X s k v, TG y t X → TX h X → TB X → ∃ X' e s' k' v', XO X X' ∧ ∀ Q, WP d 1777 1 [.ref 101, .ref 145, .int (nI i)] [] (wI h (tcS (ww X 145 ρ) (nI p) s k v)) Q = Q (some (.int (nI 1))) (wI h (tcS (ww X' 145 ρ') e s' k' v'))) ∧
      (∀ g, MG y t g → ∃ q, ∀ Q, WP d' 616 1 [.ref 233] [] (wI (jP h y t p) (tmP (mf g ρ) y t p (nI 1))) Q = WP d' 616 2 [.ref 233] [] (wI (jP h y t q) (tmP (mf g ρ') y t q (nI 1))) Q))
    ∨ (∃ q, q ≤ t ∧
      (∀ X s k v, TG y t X → TX h X → TB X → ∃ X' ρ' e k' v', XO X X' ∧ ∀ Q, WP d 1777 1 [.ref 101, .ref 145, .int (nI i)] [] (wI h (tcS (ww X 145 ρ) (nI p) s k v)) Q = Q (some (.int (nI 0))) (wI h (tcS (ww X' 145 ρ') e (nI (tS y t q)) k' v'))) ∧
      (∀ g, MG y t g → ∃ ρ', ∀ Q, WP d' 616 1 [.ref 233] [] (wI (jP h y t p) (tmP (mf g ρ) y t p (nI 1))) Q = WP d' 616 2 [.ref 233] [] (wI (jP h y t q) (tmP (mf g ρ') y t q (nI 0))) Q)) := by
  intro j
  induction j with
  | zero =>
    intro p ρ i hj hp hi ht V
    have a1 := tS_b (y := y) hp
    have hK : tK y t p = 0 := tK_0.mpr (by omega)
    have g200 : ¬ 200 < i := by omega
    refine Or.inl ⟨ρ, V, rfl, fun X s k v G0 X0 T0 => ⟨X, nI (tE y t p), nI (tS y t p), nI 0, tVV y t p v, XO.refl X, fun Q => ?_⟩, fun g MG0 => ⟨p, fun Q => ?_⟩⟩
    · have hst := fun s k v d hd Q => e_step F (G0.xo (XO.ww (X := X) ρ)) p hp s k v d hd Q
      rw [hK] at hst
      rw [w_1777_1]
      simp -implicitDefEqProofs (disch := first | omega | (simp (disch := omega) only [nb_upr]; omega)) only [zi_0, zi_0n, zi_31, zi_625, zi_32i, zi_32r, zi_32u, zi_32a, zi_33, zi_34, zi_71, zi_210, zi_626, zi_627, zi_452, zi_48, zi_67w1, zi_67w2, zi_129, zi_23, zi_23n, zi_628, zi_222, zi_75, zi_39i, zi_39r, zi_39u, zi_39a, zi_40, F.t101, kC_eq, toL_s, toL_n, okS0, okS1, okS2, okS3, okS4, okS5, true_and, and_true, hT_wI, hL_wI, hR_wI, hI_wI, hJ_wI, sI_wI, rfP, isIA_100, isIA_120, inb_ok, nI_clamp, nI_add, nI_mul, ↓reduceIte, not_false_eq_true, not_true_eq_false, true_or, or_true, ↓bI_01, ↓b01_0, ↓b01_1, bI_0, z00, z10, n4, n5, n2, n8, Nat.reduceMul, Nat.reduceAdd, Nat.reduceLT, Nat.reduceLeDiff, nI_eq, nI_leI, nI_ltI, Nat.reduceEqDiff, pk_div, nI_sub, Nat.reduceDiv, Nat.reduceSub, g200, hst, tc_4]
    · rw [w_616_1]
      simp -implicitDefEqProofs (disch := first | omega | (simp (disch := omega) only [nb_upr]; omega)) only [zi_0, zi_0n, zi_31, zi_370, zi_48, zi_371, zi_372, zi_358, zi_373, zi_33, zi_374, zi_108, zi_375, zi_376, zi_40, zi_368, zi_269, zi_99, zi_377, zi_101, zi_67w1, zi_67w2, zi_42, zi_357, zi_106, zi_38, zi_378, zi_379, zi_59, hT_jP, F.t233, kC_eq, toL_s, toL_n, okS0, okS1, okS2, okS3, okS4, okS5, true_and, and_true, hT_wI, hL_wI, hR_wI, hI_wI, hJ_wI, sI_wI, rfP, isIA_100, isIA_120, inb_ok, nI_clamp, nI_add, nI_mul, ↓reduceIte, not_false_eq_true, not_true_eq_false, true_or, or_true, ↓bI_01, ↓b01_0, ↓b01_1, bI_0, z00, z10, n4, n5, n2, n8, Nat.reduceMul, Nat.reduceAdd, Nat.reduceLT, Nat.reduceLeDiff, nI_eq, nI_leI, nI_ltI, Nat.reduceEqDiff, pk_div, nI_sub, Nat.reduceDiv, Nat.reduceSub, tp_13, tp_8, hK]
  | succ j ih0 =>
    intro p ρ i hj hp hi ht V
    have a1 := tS_b (y := y) hp
    have hK4 := tK_lt (y := y) (t := t) (p := p)
    have g200 : ¬ 200 < i := by omega
    by_cases hK : tK y t p = 0
    · refine Or.inl ⟨ρ, V, rfl, fun X s k v G0 X0 T0 => ⟨X, nI (tE y t p), nI (tS y t p), nI 0, tVV y t p v, XO.refl X, fun Q => ?_⟩, fun g MG0 => ⟨p, fun Q => ?_⟩⟩
      · have hst := fun s k v d hd Q => e_step F (G0.xo (XO.ww (X := X) ρ)) p hp s k v d hd Q
        rw [hK] at hst
        rw [w_1777_1]
        simp -implicitDefEqProofs (disch := first | omega | (simp (disch := omega) only [nb_upr]; omega)) only [zi_0, zi_0n, zi_31, zi_625, zi_32i, zi_32r, zi_32u, zi_32a, zi_33, zi_34, zi_71, zi_210, zi_626, zi_627, zi_452, zi_48, zi_67w1, zi_67w2, zi_129, zi_23, zi_23n, zi_628, zi_222, zi_75, zi_39i, zi_39r, zi_39u, zi_39a, zi_40, F.t101, kC_eq, toL_s, toL_n, okS0, okS1, okS2, okS3, okS4, okS5, true_and, and_true, hT_wI, hL_wI, hR_wI, hI_wI, hJ_wI, sI_wI, rfP, isIA_100, isIA_120, inb_ok, nI_clamp, nI_add, nI_mul, ↓reduceIte, not_false_eq_true, not_true_eq_false, true_or, or_true, ↓bI_01, ↓b01_0, ↓b01_1, bI_0, z00, z10, n4, n5, n2, n8, Nat.reduceMul, Nat.reduceAdd, Nat.reduceLT, Nat.reduceLeDiff, nI_eq, nI_leI, nI_ltI, Nat.reduceEqDiff, pk_div, nI_sub, Nat.reduceDiv, Nat.reduceSub, g200, hst, tc_4]
      · rw [w_616_1]
        simp -implicitDefEqProofs (disch := first | omega | (simp (disch := omega) only [nb_upr]; omega)) only [zi_0, zi_0n, zi_31, zi_370, zi_48, zi_371, zi_372, zi_358, zi_373, zi_33, zi_374, zi_108, zi_375, zi_376, zi_40, zi_368, zi_269, zi_99, zi_377, zi_101, zi_67w1, zi_67w2, zi_42, zi_357, zi_106, zi_38, zi_378, zi_379, zi_59, hT_jP, F.t233, kC_eq, toL_s, toL_n, okS0, okS1, okS2, okS3, okS4, okS5, true_and, and_true, hT_wI, hL_wI, hR_wI, hI_wI, hJ_wI, sI_wI, rfP, isIA_100, isIA_120, inb_ok, nI_clamp, nI_add, nI_mul, ↓reduceIte, not_false_eq_true, not_true_eq_false, true_or, or_true, ↓bI_01, ↓b01_0, ↓b01_1, bI_0, z00, z10, n4, n5, n2, n8, Nat.reduceMul, Nat.reduceAdd, Nat.reduceLT, Nat.reduceLeDiff, nI_eq, nI_leI, nI_ltI, Nat.reduceEqDiff, pk_div, nI_sub, Nat.reduceDiv, Nat.reduceSub, tp_13, tp_8, hK]
    have nK0 : ¬ nI (tK y t p) = (0 : Int32) := nI_ne0 (by omega) (by omega)
    by_cases hK1 : tK y t p = 1
    · have n1 : nI (tK y t p) = nI 1 := by rw [hK1]
      rcases j_part (d := d - 1) (d' := d' - 1) F V hp hK1 (by omega) (by omega) with ⟨p', ρ1, q1, q2, V1, q4, hc, hm⟩ | ⟨q, q1, hc, hm⟩
      · rcases ih0 p' ρ1 (i + 1) (by omega) q2 (by omega) ht V1 with ⟨ρ', V', q5, hc2, hm2⟩ | ⟨q, q5, hc2, hm2⟩
        · refine Or.inl ⟨ρ', V', q5.trans q4, fun X s k v G0 X0 T0 => ?_, fun g MG0 => ?_⟩
          · obtain ⟨X1, s1, k1, v1, xo, ec⟩ := hc X (tVV y t p v) G0 X0 T0
            have ec : ∀ Q, Run (d - 1) 1817 [.ref 101, .ref 145] (wI h (tcS (ww X 145 ρ) (nI (tE y t p)) (nI (tS y t p)) (nI (tK y t p)) (tVV y t p v))) Q = Q (some (.int (nI 1))) (wI h (tcS (ww X1 145 ρ1) (nI p') s1 k1 v1)) := ec
            obtain ⟨X2, e2, s2, k2, v2, xo2, ec2⟩ := hc2 X1 s1 k1 v1 (G0.xo xo) (X0.xo xo) (xo.tb T0)
            refine ⟨X2, e2, s2, k2, v2, xo.trans xo2, fun Q => ?_⟩
            have hst := fun s k v d hd Q => e_step F (G0.xo (XO.ww (X := X) ρ)) p hp s k v d hd Q
            rw [← ec2 Q, w_1777_1]
            simp -implicitDefEqProofs (disch := first | omega | (simp (disch := omega) only [nb_upr]; omega)) only [w_1777_2, w_1777_4, zi_0, zi_0n, zi_31, zi_625, zi_32i, zi_32r, zi_32u, zi_32a, zi_33, zi_34, zi_71, zi_210, zi_626, zi_627, zi_452, zi_48, zi_67w1, zi_67w2, zi_129, zi_23, zi_23n, zi_628, zi_222, zi_75, zi_39i, zi_39r, zi_39u, zi_39a, zi_40, F.t101, kC_eq, toL_s, toL_n, okS0, okS1, okS2, okS3, okS4, okS5, true_and, and_true, hT_wI, hL_wI, hR_wI, hI_wI, hJ_wI, sI_wI, rfP, isIA_100, isIA_120, inb_ok, nI_clamp, nI_add, nI_mul, ↓reduceIte, not_false_eq_true, not_true_eq_false, true_or, or_true, ↓bI_01, ↓b01_0, ↓b01_1, bI_0, z00, z10, n4, n5, n2, n8, Nat.reduceMul, Nat.reduceAdd, Nat.reduceLT, Nat.reduceLeDiff, nI_ltI, g200, hst, tc_4, nK0, n1]
            rw [← n1]
            simp -implicitDefEqProofs (disch := first | omega | (simp (disch := omega) only [nb_upr]; omega)) only [w_1777_4, zi_0, zi_0n, zi_31, zi_625, zi_32i, zi_32r, zi_32u, zi_32a, zi_33, zi_34, zi_71, zi_210, zi_626, zi_627, zi_452, zi_48, zi_67w1, zi_67w2, zi_129, zi_23, zi_23n, zi_628, zi_222, zi_75, zi_39i, zi_39r, zi_39u, zi_39a, zi_40, kC_eq, toL_s, toL_n, okS0, okS1, okS2, okS3, okS4, okS5, true_and, and_true, hT_wI, hL_wI, hR_wI, hI_wI, hJ_wI, sI_wI, rfP, isIA_100, isIA_120, inb_ok, nI_clamp, nI_add, nI_mul, ↓reduceIte, not_false_eq_true, not_true_eq_false, true_or, or_true, ↓bI_01, ↓b01_0, ↓b01_1, bI_0, z00, z10, n4, n5, n2, n8, Nat.reduceMul, Nat.reduceAdd, Nat.reduceLT, Nat.reduceLeDiff, ec]
          · have em : ∀ Q, Run (d' - 1) 656 [.ref 233] (wI (jP h y t p) (tmP (mf g ρ) y t p (nI 1))) Q = Q none (wI (jP h y t p') (tmP (mf g ρ1) y t p' (nI 1))) := hm g MG0
            obtain ⟨q, em2⟩ := hm2 g MG0
            refine ⟨q, fun Q => ?_⟩
            rw [← em2 Q, w_616_1]
            simp -implicitDefEqProofs (disch := first | omega | (simp (disch := omega) only [nb_upr]; omega)) only [zi_0, zi_0n, zi_31, zi_370, zi_48, zi_371, zi_372, zi_358, zi_373, zi_33, zi_374, zi_108, zi_375, zi_376, zi_40, zi_368, zi_269, zi_99, zi_377, zi_101, zi_67w1, zi_67w2, zi_42, zi_357, zi_106, zi_38, zi_378, zi_379, zi_59, hT_jP, F.t233, kC_eq, toL_s, toL_n, okS0, okS1, okS2, okS3, okS4, okS5, true_and, and_true, hT_wI, hL_wI, hR_wI, hI_wI, hJ_wI, sI_wI, rfP, isIA_100, isIA_120, inb_ok, nI_clamp, nI_add, nI_mul, ↓reduceIte, not_false_eq_true, not_true_eq_false, true_or, or_true, ↓bI_01, ↓b01_0, ↓b01_1, bI_0, z00, z10, n4, n5, n2, n8, Nat.reduceMul, Nat.reduceAdd, Nat.reduceLT, Nat.reduceLeDiff, tp_13, tp_8, nK0, em]
        · refine Or.inr ⟨q, q5, fun X s k v G0 X0 T0 => ?_, fun g MG0 => ?_⟩
          · obtain ⟨X1, s1, k1, v1, xo, ec⟩ := hc X (tVV y t p v) G0 X0 T0
            have ec : ∀ Q, Run (d - 1) 1817 [.ref 101, .ref 145] (wI h (tcS (ww X 145 ρ) (nI (tE y t p)) (nI (tS y t p)) (nI (tK y t p)) (tVV y t p v))) Q = Q (some (.int (nI 1))) (wI h (tcS (ww X1 145 ρ1) (nI p') s1 k1 v1)) := ec
            obtain ⟨X2, ρ2, e2, k2, v2, xo2, ec2⟩ := hc2 X1 s1 k1 v1 (G0.xo xo) (X0.xo xo) (xo.tb T0)
            refine ⟨X2, ρ2, e2, k2, v2, xo.trans xo2, fun Q => ?_⟩
            have hst := fun s k v d hd Q => e_step F (G0.xo (XO.ww (X := X) ρ)) p hp s k v d hd Q
            rw [← ec2 Q, w_1777_1]
            simp -implicitDefEqProofs (disch := first | omega | (simp (disch := omega) only [nb_upr]; omega)) only [w_1777_2, w_1777_4, zi_0, zi_0n, zi_31, zi_625, zi_32i, zi_32r, zi_32u, zi_32a, zi_33, zi_34, zi_71, zi_210, zi_626, zi_627, zi_452, zi_48, zi_67w1, zi_67w2, zi_129, zi_23, zi_23n, zi_628, zi_222, zi_75, zi_39i, zi_39r, zi_39u, zi_39a, zi_40, F.t101, kC_eq, toL_s, toL_n, okS0, okS1, okS2, okS3, okS4, okS5, true_and, and_true, hT_wI, hL_wI, hR_wI, hI_wI, hJ_wI, sI_wI, rfP, isIA_100, isIA_120, inb_ok, nI_clamp, nI_add, nI_mul, ↓reduceIte, not_false_eq_true, not_true_eq_false, true_or, or_true, ↓bI_01, ↓b01_0, ↓b01_1, bI_0, z00, z10, n4, n5, n2, n8, Nat.reduceMul, Nat.reduceAdd, Nat.reduceLT, Nat.reduceLeDiff, nI_ltI, g200, hst, tc_4, nK0, n1]
            rw [← n1]
            simp -implicitDefEqProofs (disch := first | omega | (simp (disch := omega) only [nb_upr]; omega)) only [w_1777_4, zi_0, zi_0n, zi_31, zi_625, zi_32i, zi_32r, zi_32u, zi_32a, zi_33, zi_34, zi_71, zi_210, zi_626, zi_627, zi_452, zi_48, zi_67w1, zi_67w2, zi_129, zi_23, zi_23n, zi_628, zi_222, zi_75, zi_39i, zi_39r, zi_39u, zi_39a, zi_40, kC_eq, toL_s, toL_n, okS0, okS1, okS2, okS3, okS4, okS5, true_and, and_true, hT_wI, hL_wI, hR_wI, hI_wI, hJ_wI, sI_wI, rfP, isIA_100, isIA_120, inb_ok, nI_clamp, nI_add, nI_mul, ↓reduceIte, not_false_eq_true, not_true_eq_false, true_or, or_true, ↓bI_01, ↓b01_0, ↓b01_1, bI_0, z00, z10, n4, n5, n2, n8, Nat.reduceMul, Nat.reduceAdd, Nat.reduceLT, Nat.reduceLeDiff, ec]
          · have em : ∀ Q, Run (d' - 1) 656 [.ref 233] (wI (jP h y t p) (tmP (mf g ρ) y t p (nI 1))) Q = Q none (wI (jP h y t p') (tmP (mf g ρ1) y t p' (nI 1))) := hm g MG0
            obtain ⟨ρ', em2⟩ := hm2 g MG0
            refine ⟨ρ', fun Q => ?_⟩
            rw [← em2 Q, w_616_1]
            simp -implicitDefEqProofs (disch := first | omega | (simp (disch := omega) only [nb_upr]; omega)) only [zi_0, zi_0n, zi_31, zi_370, zi_48, zi_371, zi_372, zi_358, zi_373, zi_33, zi_374, zi_108, zi_375, zi_376, zi_40, zi_368, zi_269, zi_99, zi_377, zi_101, zi_67w1, zi_67w2, zi_42, zi_357, zi_106, zi_38, zi_378, zi_379, zi_59, hT_jP, F.t233, kC_eq, toL_s, toL_n, okS0, okS1, okS2, okS3, okS4, okS5, true_and, and_true, hT_wI, hL_wI, hR_wI, hI_wI, hJ_wI, sI_wI, rfP, isIA_100, isIA_120, inb_ok, nI_clamp, nI_add, nI_mul, ↓reduceIte, not_false_eq_true, not_true_eq_false, true_or, or_true, ↓bI_01, ↓b01_0, ↓b01_1, bI_0, z00, z10, n4, n5, n2, n8, Nat.reduceMul, Nat.reduceAdd, Nat.reduceLT, Nat.reduceLeDiff, tp_13, tp_8, nK0, em]
      · refine Or.inr ⟨q, q1, fun X s k v G0 X0 T0 => ?_, fun g MG0 => ?_⟩
        · obtain ⟨X1, ρ2, s1, k1, v1, xo, ec⟩ := hc X (tVV y t p v) G0 X0 T0
          have ec : ∀ Q, Run (d - 1) 1817 [.ref 101, .ref 145] (wI h (tcS (ww X 145 ρ) (nI (tE y t p)) (nI (tS y t p)) (nI (tK y t p)) (tVV y t p v))) Q = Q (some (.int (nI 0))) (wI h (tcS (ww X1 145 ρ2) s1 (nI (tS y t q)) k1 v1)) := ec
          refine ⟨X1, ρ2, s1, k1, v1, xo, fun Q => ?_⟩
          have hst := fun s k v d hd Q => e_step F (G0.xo (XO.ww (X := X) ρ)) p hp s k v d hd Q
          rw [w_1777_1]
          simp -implicitDefEqProofs (disch := first | omega | (simp (disch := omega) only [nb_upr]; omega)) only [w_1777_2, w_1777_3, zi_0, zi_0n, zi_31, zi_625, zi_32i, zi_32r, zi_32u, zi_32a, zi_33, zi_34, zi_71, zi_210, zi_626, zi_627, zi_452, zi_48, zi_67w1, zi_67w2, zi_129, zi_23, zi_23n, zi_628, zi_222, zi_75, zi_39i, zi_39r, zi_39u, zi_39a, zi_40, F.t101, kC_eq, toL_s, toL_n, okS0, okS1, okS2, okS3, okS4, okS5, true_and, and_true, hT_wI, hL_wI, hR_wI, hI_wI, hJ_wI, sI_wI, rfP, isIA_100, isIA_120, inb_ok, nI_clamp, nI_add, nI_mul, ↓reduceIte, not_false_eq_true, not_true_eq_false, true_or, or_true, ↓bI_01, ↓b01_0, ↓b01_1, bI_0, z00, z10, n4, n5, n2, n8, Nat.reduceMul, Nat.reduceAdd, Nat.reduceLT, Nat.reduceLeDiff, nI_ltI, g200, hst, tc_4, nK0, n1]
          rw [← n1]
          simp -implicitDefEqProofs (disch := first | omega | (simp (disch := omega) only [nb_upr]; omega)) only [w_1777_3, zi_0, zi_0n, zi_31, zi_625, zi_32i, zi_32r, zi_32u, zi_32a, zi_33, zi_34, zi_71, zi_210, zi_626, zi_627, zi_452, zi_48, zi_67w1, zi_67w2, zi_129, zi_23, zi_23n, zi_628, zi_222, zi_75, zi_39i, zi_39r, zi_39u, zi_39a, zi_40, kC_eq, toL_s, toL_n, okS0, okS1, okS2, okS3, okS4, okS5, true_and, and_true, hT_wI, hL_wI, hR_wI, hI_wI, hJ_wI, sI_wI, rfP, isIA_100, isIA_120, inb_ok, nI_clamp, nI_add, nI_mul, ↓reduceIte, not_false_eq_true, not_true_eq_false, true_or, or_true, ↓bI_01, ↓b01_0, ↓b01_1, bI_0, z00, z10, n4, n5, n2, n8, Nat.reduceMul, Nat.reduceAdd, Nat.reduceLT, Nat.reduceLeDiff, ec]
        · obtain ⟨ρ', em⟩ := hm g MG0
          have em : ∀ Q, Run (d' - 1) 656 [.ref 233] (wI (jP h y t p) (tmP (mf g ρ) y t p (nI 1))) Q = Q none (wI (jP h y t q) (tmP (mf g ρ') y t q (nI 0))) := em
          refine ⟨ρ', fun Q => ?_⟩
          have p1 : WP d' 616 1 [.ref 233] [] (wI (jP h y t q) (tmP (mf g ρ') y t q (nI 0))) Q = WP d' 616 2 [.ref 233] [] (wI (jP h y t q) (tmP (mf g ρ') y t q (nI 0))) Q := by
            rw [w_616_1]
            simp -implicitDefEqProofs (disch := first | omega | (simp (disch := omega) only [nb_upr]; omega)) only [zi_0, zi_0n, zi_31, zi_370, zi_48, zi_371, zi_372, zi_358, zi_373, zi_33, zi_374, zi_108, zi_375, zi_376, zi_40, zi_368, zi_269, zi_99, zi_377, zi_101, zi_67w1, zi_67w2, zi_42, zi_357, zi_106, zi_38, zi_378, zi_379, zi_59, hT_jP, F.t233, kC_eq, toL_s, toL_n, okS0, okS1, okS2, okS3, okS4, okS5, true_and, and_true, hT_wI, hL_wI, hR_wI, hI_wI, hJ_wI, sI_wI, rfP, isIA_100, isIA_120, inb_ok, nI_clamp, nI_add, nI_mul, ↓reduceIte, not_false_eq_true, not_true_eq_false, true_or, or_true, ↓bI_01, ↓b01_0, ↓b01_1, bI_0, z00, z10, n4, n5, n2, n8, Nat.reduceMul, Nat.reduceAdd, Nat.reduceLT, Nat.reduceLeDiff, tp_13]
          rw [← p1, w_616_1]
          simp -implicitDefEqProofs (disch := first | omega | (simp (disch := omega) only [nb_upr]; omega)) only [zi_0, zi_0n, zi_31, zi_370, zi_48, zi_371, zi_372, zi_358, zi_373, zi_33, zi_374, zi_108, zi_375, zi_376, zi_40, zi_368, zi_269, zi_99, zi_377, zi_101, zi_67w1, zi_67w2, zi_42, zi_357, zi_106, zi_38, zi_378, zi_379, zi_59, hT_jP, F.t233, kC_eq, toL_s, toL_n, okS0, okS1, okS2, okS3, okS4, okS5, true_and, and_true, hT_wI, hL_wI, hR_wI, hI_wI, hJ_wI, sI_wI, rfP, isIA_100, isIA_120, inb_ok, nI_clamp, nI_add, nI_mul, ↓reduceIte, not_false_eq_true, not_true_eq_false, true_or, or_true, ↓bI_01, ↓b01_0, ↓b01_1, bI_0, z00, z10, n4, n5, n2, n8, Nat.reduceMul, Nat.reduceAdd, Nat.reduceLT, Nat.reduceLeDiff, tp_13, tp_8, nK0, em]
    · have n1 : ¬ nI (tK y t p) = nI 1 := fun z => hK1 ((nI_eq (by omega) (by omega)).mp z)
      refine Or.inr ⟨p, hp, fun X s k v G0 X0 T0 => ⟨X, ρ, nI (tE y t p), nI (tK y t p), tVV y t p v, XO.refl X, fun Q => ?_⟩, fun g MG0 => ⟨ρ, fun Q => ?_⟩⟩
      · have hst := fun s k v d hd Q => e_step F (G0.xo (XO.ww (X := X) ρ)) p hp s k v d hd Q
        rw [w_1777_1]
        simp -implicitDefEqProofs (disch := first | omega | (simp (disch := omega) only [nb_upr]; omega)) only [w_1777_2, w_1777_3, zi_0, zi_0n, zi_31, zi_625, zi_32i, zi_32r, zi_32u, zi_32a, zi_33, zi_34, zi_71, zi_210, zi_626, zi_627, zi_452, zi_48, zi_67w1, zi_67w2, zi_129, zi_23, zi_23n, zi_628, zi_222, zi_75, zi_39i, zi_39r, zi_39u, zi_39a, zi_40, F.t101, kC_eq, toL_s, toL_n, okS0, okS1, okS2, okS3, okS4, okS5, true_and, and_true, hT_wI, hL_wI, hR_wI, hI_wI, hJ_wI, sI_wI, rfP, isIA_100, isIA_120, inb_ok, nI_clamp, nI_add, nI_mul, ↓reduceIte, not_false_eq_true, not_true_eq_false, true_or, or_true, ↓bI_01, ↓b01_0, ↓b01_1, bI_0, z00, z10, n4, n5, n2, n8, Nat.reduceMul, Nat.reduceAdd, Nat.reduceLT, Nat.reduceLeDiff, nI_ltI, g200, hst, tc_4, nK0, n1]
      · have em := fun Q => m_noname (g := mf g ρ) F hK1 (d' - 1) (by omega) Q
        have p1 : WP d' 616 1 [.ref 233] [] (wI (jP h y t p) (tmP (mf g ρ) y t p (nI 0))) Q = WP d' 616 2 [.ref 233] [] (wI (jP h y t p) (tmP (mf g ρ) y t p (nI 0))) Q := by
          rw [w_616_1]
          simp -implicitDefEqProofs (disch := first | omega | (simp (disch := omega) only [nb_upr]; omega)) only [zi_0, zi_0n, zi_31, zi_370, zi_48, zi_371, zi_372, zi_358, zi_373, zi_33, zi_374, zi_108, zi_375, zi_376, zi_40, zi_368, zi_269, zi_99, zi_377, zi_101, zi_67w1, zi_67w2, zi_42, zi_357, zi_106, zi_38, zi_378, zi_379, zi_59, hT_jP, F.t233, kC_eq, toL_s, toL_n, okS0, okS1, okS2, okS3, okS4, okS5, true_and, and_true, hT_wI, hL_wI, hR_wI, hI_wI, hJ_wI, sI_wI, rfP, isIA_100, isIA_120, inb_ok, nI_clamp, nI_add, nI_mul, ↓reduceIte, not_false_eq_true, not_true_eq_false, true_or, or_true, ↓bI_01, ↓b01_0, ↓b01_1, bI_0, z00, z10, n4, n5, n2, n8, Nat.reduceMul, Nat.reduceAdd, Nat.reduceLT, Nat.reduceLeDiff, tp_13]
        rw [← p1, w_616_1]
        simp -implicitDefEqProofs (disch := first | omega | (simp (disch := omega) only [nb_upr]; omega)) only [zi_0, zi_0n, zi_31, zi_370, zi_48, zi_371, zi_372, zi_358, zi_373, zi_33, zi_374, zi_108, zi_375, zi_376, zi_40, zi_368, zi_269, zi_99, zi_377, zi_101, zi_67w1, zi_67w2, zi_42, zi_357, zi_106, zi_38, zi_378, zi_379, zi_59, hT_jP, F.t233, kC_eq, toL_s, toL_n, okS0, okS1, okS2, okS3, okS4, okS5, true_and, and_true, hT_wI, hL_wI, hR_wI, hI_wI, hJ_wI, sI_wI, rfP, isIA_100, isIA_120, inb_ok, nI_clamp, nI_add, nI_mul, ↓reduceIte, not_false_eq_true, not_true_eq_false, true_or, or_true, ↓bI_01, ↓b01_0, ↓b01_1, bI_0, z00, z10, n4, n5, n2, n8, Nat.reduceMul, Nat.reduceAdd, Nat.reduceLT, Nat.reduceLeDiff, tp_13, tp_8, nK0, em]
end
