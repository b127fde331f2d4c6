section
/-! acts: mends, hums; the reference's; act -/
variable {n : Nat} {h : PH} {f g : Nat → Nat → Int32}
def PF (f : Nat → Nat → Int32) : Nat → Nat → Int32 := up2 f 103 4 (nI 1)
theorem sub0 {x y : Int32} : x - y = 0 ↔ x = y := by
  constructor
  · intro z
    have := congrArg (· + y) z
    simpa using this
  · rintro rfl
    exact Int32.sub_self x
theorem e_mends (F : FR h) (d k : Nat) (hk : k < 6) (hd : 5 ≤ d) (ν m x : Int32) (e2 : f 103 2 = ν) (e3 : f 103 3 = m) (e4 : f 103 4 = nI 0) (hne : ¬ ν = m) (t : List Nat) (ht : t.length ≤ 22) (Q : Option Value → PH → Prop) :
    Run d (pvsel 26 (ktag k)) [.ref (111 + k), .ref 103, .int x] (wI h (TrC f t)) Q = Q (some (.int (eV k ν m x))) (wI h (TrC f (t ++ eU k))) := by
  have hz : ¬ ν - m = 0 := fun z => hne (sub0.mp z)
  have tt := F.tK13 hk
  have L1 : ∀ b, (t ++ [b]).length = t.length + 1 := fun b => by rw [List.length_append]; rfl
  have L2 : ∀ b c, (t ++ [b] ++ [c]).length = t.length + 2 := fun b c => by rw [List.length_append, L1]; rfl
  have b0 := fun d b (Q : Option Value → PH → Prop) => e_begin (Q := Q) F d b t (by omega) e4
  have b1 := fun d b c (Q : Option Value → PH → Prop) => e_begin (Q := Q) F d c (t ++ [b]) (by rw [L1]; omega) e4
  have tk := F.tK hk
  have pd := pvok_d hk
  have g2 := fun d (hd : 3 ≤ d) b c x (Q : Option Value → PH → Prop) => e_drags (Q := Q) F d k hk hd ν m x e2 e3 e4 (t ++ [b] ++ [c]) (by rw [L2]; omega)
  rcases (show k = 0 ∨ k = 1 ∨ k = 2 ∨ k = 3 ∨ k = 4 ∨ k = 5 by omega) with rfl | rfl | rfl | rfl | rfl | rfl
  · show Run d 2010 _ _ _ = _
    simp -implicitDefEqProofs (disch := first | omega | (simp (disch := omega) only [nb_upr]; omega)) only [R_2010, w_2010_0, w_2010_1, zi_23, zi_23n, zi_360, zi_678, zi_679, zi_680, zi_101, zi_111i, zi_111r, zi_111u, zi_111a, zi_63, zi_98, zi_48, zi_675, zi_31, zi_67w1, zi_67w2, zi_34, zi_238, F.t103, kC_eq, toL_s, toL_n, okS0, okS1, okS2, okS3, okS4, okS5, true_and, and_true, hT_wI, hL_wI, hR_wI, hI_wI, hJ_wI, sI_wI, rfP, isIA_100, isIA_120, inb_ok, nI_clamp, nI_add, nI_mul, ↓reduceIte, not_false_eq_true, not_true_eq_false, true_or, or_true, ↓bI_01, ↓b01_0, ↓b01_1, bI_0, z00, z10, n4, n5, n2, n8, Nat.reduceMul, Nat.reduceAdd, Nat.reduceLT, Nat.reduceLeDiff, b0, TrC_2, TrC_3, e2, e3, hz]
    rfl
  · show Run d 2010 _ _ _ = _
    simp -implicitDefEqProofs (disch := first | omega | (simp (disch := omega) only [nb_upr]; omega)) only [R_2010, w_2010_0, w_2010_1, zi_23, zi_23n, zi_360, zi_678, zi_679, zi_680, zi_101, zi_111i, zi_111r, zi_111u, zi_111a, zi_63, zi_98, zi_48, zi_675, zi_31, zi_67w1, zi_67w2, zi_34, zi_238, F.t103, kC_eq, toL_s, toL_n, okS0, okS1, okS2, okS3, okS4, okS5, true_and, and_true, hT_wI, hL_wI, hR_wI, hI_wI, hJ_wI, sI_wI, rfP, isIA_100, isIA_120, inb_ok, nI_clamp, nI_add, nI_mul, ↓reduceIte, not_false_eq_true, not_true_eq_false, true_or, or_true, ↓bI_01, ↓b01_0, ↓b01_1, bI_0, z00, z10, n4, n5, n2, n8, Nat.reduceMul, Nat.reduceAdd, Nat.reduceLT, Nat.reduceLeDiff, b0, TrC_2, TrC_3, e2, e3, hz]
    rfl
  · show Run d 2010 _ _ _ = _
    simp -implicitDefEqProofs (disch := first | omega | (simp (disch := omega) only [nb_upr]; omega)) only [R_2010, w_2010_0, w_2010_1, zi_23, zi_23n, zi_360, zi_678, zi_679, zi_680, zi_101, zi_111i, zi_111r, zi_111u, zi_111a, zi_63, zi_98, zi_48, zi_675, zi_31, zi_67w1, zi_67w2, zi_34, zi_238, F.t103, kC_eq, toL_s, toL_n, okS0, okS1, okS2, okS3, okS4, okS5, true_and, and_true, hT_wI, hL_wI, hR_wI, hI_wI, hJ_wI, sI_wI, rfP, isIA_100, isIA_120, inb_ok, nI_clamp, nI_add, nI_mul, ↓reduceIte, not_false_eq_true, not_true_eq_false, true_or, or_true, ↓bI_01, ↓b01_0, ↓b01_1, bI_0, z00, z10, n4, n5, n2, n8, Nat.reduceMul, Nat.reduceAdd, Nat.reduceLT, Nat.reduceLeDiff, b0, TrC_2, TrC_3, e2, e3, hz]
    rfl
  · show Run d 2154 _ _ _ = _
    simp -implicitDefEqProofs (disch := first | omega | (simp (disch := omega) only [nb_upr]; omega)) only [R_2154, w_2154_0, R_2010, w_2010_0, w_2010_1, zi_23, zi_23n, zi_583, zi_678, zi_0, zi_0n, zi_34, zi_59, zi_70, zi_691, zi_51, zi_79, zi_67w1, zi_67w2, zi_360, zi_679, zi_680, zi_101, zi_111i, zi_111r, zi_111u, zi_111a, zi_63, zi_98, zi_48, zi_675, zi_31, zi_238, F.t103, kC_eq, toL_s, toL_n, okS0, okS1, okS2, okS3, okS4, okS5, true_and, and_true, hT_wI, hL_wI, hR_wI, hI_wI, hJ_wI, sI_wI, rfP, isIA_100, isIA_120, inb_ok, nI_clamp, nI_add, nI_mul, ↓reduceIte, not_false_eq_true, not_true_eq_false, true_or, or_true, ↓bI_01, ↓b01_0, ↓b01_1, bI_0, z00, z10, n4, n5, n2, n8, Nat.reduceMul, Nat.reduceAdd, Nat.reduceLT, Nat.reduceLeDiff, b0, b1, TrC_2, TrC_3, e2, e3, hz, tt]
    simp only [List.append_assoc, List.cons_append, List.nil_append]
    rfl
  · show Run d 2010 _ _ _ = _
    simp -implicitDefEqProofs (disch := first | omega | (simp (disch := omega) only [nb_upr]; omega)) only [R_2010, w_2010_0, w_2010_1, zi_23, zi_23n, zi_360, zi_678, zi_679, zi_680, zi_101, zi_111i, zi_111r, zi_111u, zi_111a, zi_63, zi_98, zi_48, zi_675, zi_31, zi_67w1, zi_67w2, zi_34, zi_238, F.t103, kC_eq, toL_s, toL_n, okS0, okS1, okS2, okS3, okS4, okS5, true_and, and_true, hT_wI, hL_wI, hR_wI, hI_wI, hJ_wI, sI_wI, rfP, isIA_100, isIA_120, inb_ok, nI_clamp, nI_add, nI_mul, ↓reduceIte, not_false_eq_true, not_true_eq_false, true_or, or_true, ↓bI_01, ↓b01_0, ↓b01_1, bI_0, z00, z10, n4, n5, n2, n8, Nat.reduceMul, Nat.reduceAdd, Nat.reduceLT, Nat.reduceLeDiff, b0, TrC_2, TrC_3, e2, e3, hz]
    rfl
  · have g2' : ∀ d, 3 ≤ d → ∀ b c x Q, Run d (pvsel 66 5) [.ref (111 + 5), .ref 103, .int x] (wI h (TrC f (t ++ [b] ++ [c]))) Q = Q (some (.int (dV 5 ν m x))) (wI h (TrC f (t ++ [b] ++ [c] ++ dT 5))) := g2
    have p66 : (pvok 66 5 = true) = True := eq_true rfl
    have k1 : 1 ≤ ktag 5 := by decide
    have k2 : ktag 5 ≤ 13 := by decide
    have k3 : ktag 5 = 5 := rfl
    have q1 : (1 ≤ (5 : Nat)) = True := by decide
    have q2 : ((5 : Nat) ≤ 13) = True := by decide
    show Run d 2242 _ _ _ = _
    simp -implicitDefEqProofs (disch := first | omega | (simp (disch := omega) only [nb_upr]; omega)) only [R_2242, w_2242_0, R_2010, w_2010_0, w_2010_1, zi_23, zi_23n, zi_585, zi_678, zi_0, zi_0n, zi_34, zi_691, zi_680, zi_697, zi_577, zi_67w1, zi_67w2, zi_360, zi_679, zi_101, zi_111i, zi_111r, zi_111u, zi_111a, zi_63, zi_98, zi_48, zi_675, zi_31, zi_238, F.t103, kC_eq, toL_s, toL_n, okS0, okS1, okS2, okS3, okS4, okS5, true_and, and_true, hT_wI, hL_wI, hR_wI, hI_wI, hJ_wI, sI_wI, rfP, isIA_100, isIA_120, inb_ok, nI_clamp, nI_add, nI_mul, ↓reduceIte, not_false_eq_true, not_true_eq_false, true_or, or_true, ↓bI_01, ↓b01_0, ↓b01_1, bI_0, z00, z10, n4, n5, n2, n8, Nat.reduceMul, Nat.reduceAdd, Nat.reduceLT, Nat.reduceLeDiff, b0, b1, TrC_2, TrC_3, e2, e3, hz, tk, k3, q1, q2, p66, g2']
    simp only [List.append_assoc, List.cons_append, List.nil_append]
    rfl
theorem e_mendsP (F : FR h) (d k : Nat) (hk : k < 6) (hd : 5 ≤ d) (ν m x : Int32) (e2 : f 103 2 = ν) (e3 : f 103 3 = m) (e4 : f 103 4 = nI 0) (he : ν = m) (t : List Nat) (ht : t.length ≤ 22) :
    ∃ y, ∀ Q, Run d (pvsel 26 (ktag k)) [.ref (111 + k), .ref 103, .int x] (wI h (TrC f t)) Q = Q (some (.int y)) (wI h (TrC (PF f) (t ++ eT k))) := by
  have hz : (ν - m = 0) = True := eq_true (sub0.mpr he)
  have tt := F.tK13 hk
  have L1 : ∀ b, (t ++ [b]).length = t.length + 1 := fun b => by rw [List.length_append]; rfl
  have b0 := fun d b (Q : Option Value → PH → Prop) => e_begin (Q := Q) F d b t (by omega) e4
  have b1 := fun d b c (Q : Option Value → PH → Prop) => e_begin (Q := Q) F d c (t ++ [b]) (by rw [L1]; omega) e4
  have p4 : PF f 103 4 = nI 1 := up2_same _ _ _ _
  have p2 : PF f 103 2 = ν := by unfold PF; rw [up2_nk _ _ (by decide)]; exact e2
  have p3 : PF f 103 3 = m := by unfold PF; rw [up2_nk _ _ (by decide)]; exact e3
  have up : ∀ t, up2 (TrC f t) 103 4 (nI 1) = TrC (PF f) t := fun t => TrC_up (by decide)
  have bp := fun d b t (Q : Option Value → PH → Prop) => e_beginP (Q := Q) F d b t p4
  match k, hk, tt with
  | 0, _, tt =>
    refine ⟨nI 0, fun Q => ?_⟩
    show Run d 2010 _ _ _ = _
    simp -implicitDefEqProofs (disch := first | omega | (simp (disch := omega) only [nb_upr]; omega)) only [R_2010, w_2010_0, w_2010_1, zi_23, zi_23n, zi_360, zi_678, zi_679, zi_680, zi_101, zi_111i, zi_111r, zi_111u, zi_111a, zi_63, zi_98, zi_48, zi_675, zi_31, zi_67w1, zi_67w2, zi_34, zi_238, F.t103, kC_eq, toL_s, toL_n, okS0, okS1, okS2, okS3, okS4, okS5, true_and, and_true, hT_wI, hL_wI, hR_wI, hI_wI, hJ_wI, sI_wI, rfP, isIA_100, isIA_120, inb_ok, nI_clamp, nI_add, nI_mul, ↓reduceIte, not_false_eq_true, not_true_eq_false, true_or, or_true, ↓bI_01, ↓b01_0, ↓b01_1, bI_0, z00, z10, n4, n5, n2, n8, Nat.reduceMul, Nat.reduceAdd, Nat.reduceLT, Nat.reduceLeDiff, b0, TrC_2, TrC_3, e2, e3, hz, up]
    rfl
  | 1, _, tt =>
    refine ⟨nI 0, fun Q => ?_⟩
    show Run d 2010 _ _ _ = _
    simp -implicitDefEqProofs (disch := first | omega | (simp (disch := omega) only [nb_upr]; omega)) only [R_2010, w_2010_0, w_2010_1, zi_23, zi_23n, zi_360, zi_678, zi_679, zi_680, zi_101, zi_111i, zi_111r, zi_111u, zi_111a, zi_63, zi_98, zi_48, zi_675, zi_31, zi_67w1, zi_67w2, zi_34, zi_238, F.t103, kC_eq, toL_s, toL_n, okS0, okS1, okS2, okS3, okS4, okS5, true_and, and_true, hT_wI, hL_wI, hR_wI, hI_wI, hJ_wI, sI_wI, rfP, isIA_100, isIA_120, inb_ok, nI_clamp, nI_add, nI_mul, ↓reduceIte, not_false_eq_true, not_true_eq_false, true_or, or_true, ↓bI_01, ↓b01_0, ↓b01_1, bI_0, z00, z10, n4, n5, n2, n8, Nat.reduceMul, Nat.reduceAdd, Nat.reduceLT, Nat.reduceLeDiff, b0, TrC_2, TrC_3, e2, e3, hz, up]
    rfl
  | 2, _, tt =>
    refine ⟨nI 0, fun Q => ?_⟩
    show Run d 2010 _ _ _ = _
    simp -implicitDefEqProofs (disch := first | omega | (simp (disch := omega) only [nb_upr]; omega)) only [R_2010, w_2010_0, w_2010_1, zi_23, zi_23n, zi_360, zi_678, zi_679, zi_680, zi_101, zi_111i, zi_111r, zi_111u, zi_111a, zi_63, zi_98, zi_48, zi_675, zi_31, zi_67w1, zi_67w2, zi_34, zi_238, F.t103, kC_eq, toL_s, toL_n, okS0, okS1, okS2, okS3, okS4, okS5, true_and, and_true, hT_wI, hL_wI, hR_wI, hI_wI, hJ_wI, sI_wI, rfP, isIA_100, isIA_120, inb_ok, nI_clamp, nI_add, nI_mul, ↓reduceIte, not_false_eq_true, not_true_eq_false, true_or, or_true, ↓bI_01, ↓b01_0, ↓b01_1, bI_0, z00, z10, n4, n5, n2, n8, Nat.reduceMul, Nat.reduceAdd, Nat.reduceLT, Nat.reduceLeDiff, b0, TrC_2, TrC_3, e2, e3, hz, up]
    rfl
  | 3, _, tt =>
    refine ⟨nI 0 * nI 2, fun Q => ?_⟩
    show Run d 2154 _ _ _ = _
    simp -implicitDefEqProofs (disch := first | omega | (simp (disch := omega) only [nb_upr]; omega)) only [R_2154, w_2154_0, R_2010, w_2010_0, w_2010_1, zi_23, zi_23n, zi_583, zi_678, zi_0, zi_0n, zi_34, zi_59, zi_70, zi_691, zi_51, zi_79, zi_67w1, zi_67w2, zi_360, zi_679, zi_680, zi_101, zi_111i, zi_111r, zi_111u, zi_111a, zi_63, zi_98, zi_48, zi_675, zi_31, zi_238, F.t103, kC_eq, toL_s, toL_n, okS0, okS1, okS2, okS3, okS4, okS5, true_and, and_true, hT_wI, hL_wI, hR_wI, hI_wI, hJ_wI, sI_wI, rfP, isIA_100, isIA_120, inb_ok, nI_clamp, nI_add, nI_mul, ↓reduceIte, not_false_eq_true, not_true_eq_false, true_or, or_true, ↓bI_01, ↓b01_0, ↓b01_1, bI_0, z00, z10, n4, n5, n2, n8, Nat.reduceMul, Nat.reduceAdd, Nat.reduceLT, Nat.reduceLeDiff, b0, b1, TrC_2, TrC_3, e2, e3, hz, tt, up]
    simp only [List.append_assoc, List.cons_append, List.nil_append]
    rfl
  | 4, _, tt =>
    refine ⟨nI 0, fun Q => ?_⟩
    show Run d 2010 _ _ _ = _
    simp -implicitDefEqProofs (disch := first | omega | (simp (disch := omega) only [nb_upr]; omega)) only [R_2010, w_2010_0, w_2010_1, zi_23, zi_23n, zi_360, zi_678, zi_679, zi_680, zi_101, zi_111i, zi_111r, zi_111u, zi_111a, zi_63, zi_98, zi_48, zi_675, zi_31, zi_67w1, zi_67w2, zi_34, zi_238, F.t103, kC_eq, toL_s, toL_n, okS0, okS1, okS2, okS3, okS4, okS5, true_and, and_true, hT_wI, hL_wI, hR_wI, hI_wI, hJ_wI, sI_wI, rfP, isIA_100, isIA_120, inb_ok, nI_clamp, nI_add, nI_mul, ↓reduceIte, not_false_eq_true, not_true_eq_false, true_or, or_true, ↓bI_01, ↓b01_0, ↓b01_1, bI_0, z00, z10, n4, n5, n2, n8, Nat.reduceMul, Nat.reduceAdd, Nat.reduceLT, Nat.reduceLeDiff, b0, TrC_2, TrC_3, e2, e3, hz, up]
    rfl
  | 5, _, tt =>
    have tk : hT h (111 + 5) = 5 := F.tK (show 5 < 6 by decide)
    have p66 : (pvok 66 5 = true) = True := eq_true rfl
    have s66 : pvsel 66 5 = 1994 := rfl
    have q1 : (1 ≤ (5 : Nat)) = True := by decide
    have q2 : ((5 : Nat) ≤ 13) = True := by decide
    refine ⟨nI 0 ^^^ (m - ν), fun Q => ?_⟩
    show Run d 2242 _ _ _ = _
    simp -implicitDefEqProofs (disch := first | omega | (simp (disch := omega) only [nb_upr]; omega)) only [R_2242, w_2242_0, R_2010, w_2010_0, w_2010_1, R_1994, w_1994_0, zi_23, zi_23n, zi_585, zi_678, zi_0, zi_0n, zi_34, zi_691, zi_680, zi_697, zi_577, zi_67w1, zi_67w2, zi_360, zi_679, zi_101, zi_111i, zi_111r, zi_111u, zi_111a, zi_63, zi_98, zi_48, zi_675, zi_31, zi_238, zi_140, F.t103, kC_eq, toL_s, toL_n, okS0, okS1, okS2, okS3, okS4, okS5, true_and, and_true, hT_wI, hL_wI, hR_wI, hI_wI, hJ_wI, sI_wI, rfP, isIA_100, isIA_120, inb_ok, nI_clamp, nI_add, nI_mul, ↓reduceIte, not_false_eq_true, not_true_eq_false, true_or, or_true, ↓bI_01, ↓b01_0, ↓b01_1, bI_0, z00, z10, n4, n5, n2, n8, Nat.reduceMul, Nat.reduceAdd, Nat.reduceLT, Nat.reduceLeDiff, b0, b1, bp, TrC_2, TrC_3, e2, e3, p2, p3, hz, tk, q1, q2, p66, s66, up]
    simp only [List.append_assoc, List.cons_append, List.nil_append]
    rfl
def uV (k : Nat) (ν m x : Int32) : Int32 := match k with
  | 2 => lV 2 ν m x + m + eV 2 ν m m
  | 4 => lV 4 ν m x + m + eV 4 ν m m
  | 5 => nI 7 - (lV 5 ν m x + m)
  | k => lV k ν m x + m
def uT (k : Nat) : List Nat := match k with
  | 2 => [31, 13] ++ lT 2 ++ [12]
  | 4 => [31, 13] ++ lT 4 ++ [12]
  | 5 => [60, 13] ++ lT 5
  | k => [13] ++ lT k
theorem lT_len : ∀ k, k < 6 → (lT k).length ≤ 8 := by decide
theorem e_hums (F : FR h) (d k : Nat) (hk : k < 6) (hd : 9 ≤ d) (ν m x : Int32) (e2 : f 103 2 = ν) (e3 : f 103 3 = m) (e4 : f 103 4 = nI 0) (t : List Nat) (ht : t.length ≤ 10) :
    if ν = m ∧ (k = 2 ∨ k = 4) then ∃ y, ∀ Q, Run d (pvsel 34 (ktag k)) [.ref (111 + k), .ref 103, .int x] (wI h (TrC f t)) Q = Q (some (.int y)) (wI h (TrC (PF f) (t ++ uT k)))
    else ∀ Q, Run d (pvsel 34 (ktag k)) [.ref (111 + k), .ref 103, .int x] (wI h (TrC f t)) Q = Q (some (.int (uV k ν m x))) (wI h (TrC f (t ++ uT k))) := by
  have tt := F.tK13 hk
  have L1 : ∀ b, (t ++ [b]).length = t.length + 1 := fun b => by rw [List.length_append]; rfl
  have L2 : ∀ b c, (t ++ [b] ++ [c]).length = t.length + 2 := fun b c => by rw [List.length_append, L1]; rfl
  have b0 := fun d b (Q : Option Value → PH → Prop) => e_begin (Q := Q) F d b t (by omega) e4
  have b1 := fun d b c (Q : Option Value → PH → Prop) => e_begin (Q := Q) F d c (t ++ [b]) (by rw [L1]; omega) e4
  have tk := F.tK hk
  have pd := pvok_l hk
  have dl := lT_len k hk
  have g1 := fun d (hd : 6 ≤ d) b x (Q : Option Value → PH → Prop) => e_lands (Q := Q) F d k hk hd ν m x e2 e3 e4 (t ++ [b]) (by rw [L1]; omega)
  have g2 := fun d (hd : 6 ≤ d) b c x (Q : Option Value → PH → Prop) => e_lands (Q := Q) F d k hk hd ν m x e2 e3 e4 (t ++ [b] ++ [c]) (by rw [L2]; omega)
  have hum2 : ∀ k, k < 6 → (k = 2 ∨ k = 4) → hT h (111 + k) = ktag k → (∀ d, 6 ≤ d → ∀ b c x Q, Run d (pvsel 18 (ktag k)) [.ref (111 + k), .ref 103, .int x] (wI h (TrC f (t ++ [b] ++ [c]))) Q = Q (some (.int (lV k ν m x))) (wI h (TrC f (t ++ [b] ++ [c] ++ lT k)))) → (lT k).length ≤ 8 →
      if ν = m then ∃ y, ∀ Q, Run d 2106 [.ref (111 + k), .ref 103, .int x] (wI h (TrC f t)) Q = Q (some (.int y)) (wI h (TrC (PF f) (t ++ ([31, 13] ++ lT k ++ [12]))))
      else ∀ Q, Run d 2106 [.ref (111 + k), .ref 103, .int x] (wI h (TrC f t)) Q = Q (some (.int (lV k ν m x + m + m / (ν - m)))) (wI h (TrC f (t ++ ([31, 13] ++ lT k ++ [12])))) := by
    intro k hk h24 tk gg dl
    have pl := pvok_l hk
    have L3 : ∀ b c, (t ++ [b] ++ [c] ++ lT k).length ≤ 22 := fun b c => by rw [List.length_append, L2]; omega
    have p58 : (pvok 58 (ktag k) = true) = True := by rcases h24 with rfl | rfl <;> exact eq_true rfl
    have s58 : pvsel 58 (ktag k) = 2010 := by rcases h24 with rfl | rfl <;> rfl
    have k1 : (1 ≤ ktag k) = True := by rcases h24 with rfl | rfl <;> decide
    have k2 : (ktag k ≤ 13) = True := by rcases h24 with rfl | rfl <;> decide
    by_cases he : ν = m
    · rw [if_pos he]
      have hm := fun d (hd : 5 ≤ d) b c => e_mendsP F d 0 (by decide) hd ν m m e2 e3 e4 he (t ++ [b] ++ [c] ++ lT k) (L3 b c)
      have hz : (ν - m = 0) = True := eq_true (sub0.mpr he)
      have bb := fun d b c e (Q : Option Value → PH → Prop) => e_begin (Q := Q) F d e (t ++ [b] ++ [c] ++ lT k) (by have := L3 b c; omega) e4
      have up : ∀ t, up2 (TrC f t) 103 4 (nI 1) = TrC (PF f) t := fun t => TrC_up (by decide)
      refine ⟨lV k ν m x + m + nI 0, fun Q => ?_⟩
      simp -implicitDefEqProofs (disch := first | omega | (simp (disch := omega) only [nb_upr]; omega)) only [R_2106, w_2106_0, R_2018, w_2018_0, R_2010, w_2010_0, w_2010_1, zi_23, zi_23n, zi_586, zi_678, zi_0, zi_0n, zi_34, zi_686, zi_680, zi_687, zi_70, zi_67w1, zi_67w2, zi_306, zi_321, zi_360, zi_679, zi_101, zi_111i, zi_111r, zi_111u, zi_111a, zi_63, zi_98, zi_48, zi_675, zi_31, zi_238, F.t103, kC_eq, toL_s, toL_n, okS0, okS1, okS2, okS3, okS4, okS5, true_and, and_true, hT_wI, hL_wI, hR_wI, hI_wI, hJ_wI, sI_wI, rfP, isIA_100, isIA_120, inb_ok, nI_clamp, nI_add, nI_mul, ↓reduceIte, not_false_eq_true, not_true_eq_false, true_or, or_true, ↓bI_01, ↓b01_0, ↓b01_1, bI_0, z00, z10, n4, n5, n2, n8, Nat.reduceMul, Nat.reduceAdd, Nat.reduceLT, Nat.reduceLeDiff, b0, b1, tk, pl, gg, TrC_2, TrC_3, e2, e3, p58, s58, k1, k2, bb, hz, up]
      simp only [List.append_assoc, List.cons_append, List.nil_append]
    · rw [if_neg he]
      have hz : ¬ ν - m = 0 := fun z => he (sub0.mp z)
      have bb := fun d b c e (Q : Option Value → PH → Prop) => e_begin (Q := Q) F d e (t ++ [b] ++ [c] ++ lT k) (by have := L3 b c; omega) e4
      intro Q
      simp -implicitDefEqProofs (disch := first | omega | (simp (disch := omega) only [nb_upr]; omega)) only [R_2106, w_2106_0, R_2018, w_2018_0, R_2010, w_2010_0, w_2010_1, zi_23, zi_23n, zi_586, zi_678, zi_0, zi_0n, zi_34, zi_686, zi_680, zi_687, zi_70, zi_67w1, zi_67w2, zi_306, zi_321, zi_360, zi_679, zi_101, zi_111i, zi_111r, zi_111u, zi_111a, zi_63, zi_98, zi_48, zi_675, zi_31, zi_238, F.t103, kC_eq, toL_s, toL_n, okS0, okS1, okS2, okS3, okS4, okS5, true_and, and_true, hT_wI, hL_wI, hR_wI, hI_wI, hJ_wI, sI_wI, rfP, isIA_100, isIA_120, inb_ok, nI_clamp, nI_add, nI_mul, ↓reduceIte, not_false_eq_true, not_true_eq_false, true_or, or_true, ↓bI_01, ↓b01_0, ↓b01_1, bI_0, z00, z10, n4, n5, n2, n8, Nat.reduceMul, Nat.reduceAdd, Nat.reduceLT, Nat.reduceLeDiff, b0, b1, tk, pl, gg, TrC_2, TrC_3, e2, e3, p58, s58, k1, k2, bb, hz]
      simp only [List.append_assoc, List.cons_append, List.nil_append]
  rcases (show k = 0 ∨ k = 1 ∨ k = 2 ∨ k = 3 ∨ k = 4 ∨ k = 5 by omega) with rfl | rfl | rfl | rfl | rfl | rfl
  · rw [if_neg (by omega)]
    intro Q
    show Run d 2018 _ _ _ = _
    simp -implicitDefEqProofs (disch := first | omega | (simp (disch := omega) only [nb_upr]; omega)) only [R_2018, w_2018_0, zi_23, zi_23n, zi_306, zi_678, zi_0, zi_0n, zi_34, zi_321, zi_680, zi_70, zi_67w1, zi_67w2, F.t103, kC_eq, toL_s, toL_n, okS0, okS1, okS2, okS3, okS4, okS5, true_and, and_true, hT_wI, hL_wI, hR_wI, hI_wI, hJ_wI, sI_wI, rfP, isIA_100, isIA_120, inb_ok, nI_clamp, nI_add, nI_mul, ↓reduceIte, not_false_eq_true, not_true_eq_false, true_or, or_true, ↓bI_01, ↓b01_0, ↓b01_1, bI_0, z00, z10, n4, n5, n2, n8, Nat.reduceMul, Nat.reduceAdd, Nat.reduceLT, Nat.reduceLeDiff, b0, tk, pd, g1, TrC_3, e3]
    simp only [List.append_assoc, List.cons_append, List.nil_append]
    rfl
  · rw [if_neg (by omega)]
    intro Q
    show Run d 2018 _ _ _ = _
    simp -implicitDefEqProofs (disch := first | omega | (simp (disch := omega) only [nb_upr]; omega)) only [R_2018, w_2018_0, zi_23, zi_23n, zi_306, zi_678, zi_0, zi_0n, zi_34, zi_321, zi_680, zi_70, zi_67w1, zi_67w2, F.t103, kC_eq, toL_s, toL_n, okS0, okS1, okS2, okS3, okS4, okS5, true_and, and_true, hT_wI, hL_wI, hR_wI, hI_wI, hJ_wI, sI_wI, rfP, isIA_100, isIA_120, inb_ok, nI_clamp, nI_add, nI_mul, ↓reduceIte, not_false_eq_true, not_true_eq_false, true_or, or_true, ↓bI_01, ↓b01_0, ↓b01_1, bI_0, z00, z10, n4, n5, n2, n8, Nat.reduceMul, Nat.reduceAdd, Nat.reduceLT, Nat.reduceLeDiff, b0, tk, pd, g1, TrC_3, e3]
    simp only [List.append_assoc, List.cons_append, List.nil_append]
    rfl
  · have := hum2 2 (by decide) (Or.inl rfl) tk g2 dl
    by_cases he : ν = m
    · rw [if_pos ⟨he, Or.inl rfl⟩]; rw [if_pos he] at this; exact this
    · rw [if_neg (fun z => he z.1)]; rw [if_neg he] at this; exact this
  · rw [if_neg (by omega)]
    intro Q
    show Run d 2018 _ _ _ = _
    simp -implicitDefEqProofs (disch := first | omega | (simp (disch := omega) only [nb_upr]; omega)) only [R_2018, w_2018_0, zi_23, zi_23n, zi_306, zi_678, zi_0, zi_0n, zi_34, zi_321, zi_680, zi_70, zi_67w1, zi_67w2, F.t103, kC_eq, toL_s, toL_n, okS0, okS1, okS2, okS3, okS4, okS5, true_and, and_true, hT_wI, hL_wI, hR_wI, hI_wI, hJ_wI, sI_wI, rfP, isIA_100, isIA_120, inb_ok, nI_clamp, nI_add, nI_mul, ↓reduceIte, not_false_eq_true, not_true_eq_false, true_or, or_true, ↓bI_01, ↓b01_0, ↓b01_1, bI_0, z00, z10, n4, n5, n2, n8, Nat.reduceMul, Nat.reduceAdd, Nat.reduceLT, Nat.reduceLeDiff, b0, tk, pd, g1, TrC_3, e3]
    simp only [List.append_assoc, List.cons_append, List.nil_append]
    rfl
  · have := hum2 4 (by decide) (Or.inr rfl) tk g2 dl
    by_cases he : ν = m
    · rw [if_pos ⟨he, Or.inr rfl⟩]; rw [if_pos he] at this; exact this
    · rw [if_neg (fun z => he z.1)]; rw [if_neg he] at this; exact this
  · rw [if_neg (by omega)]
    intro Q
    have k1 : 1 ≤ ktag 5 := by decide
    have k2 : ktag 5 ≤ 13 := by decide
    show Run d 2250 _ _ _ = _
    simp -implicitDefEqProofs (disch := first | omega | (simp (disch := omega) only [nb_upr]; omega)) only [R_2250, w_2250_0, R_2018, w_2018_0, zi_23, zi_23n, zi_588, zi_678, zi_123, zi_0, zi_0n, zi_34, zi_686, zi_101, zi_67w1, zi_67w2, zi_306, zi_321, zi_680, zi_70, F.t103, kC_eq, toL_s, toL_n, okS0, okS1, okS2, okS3, okS4, okS5, true_and, and_true, hT_wI, hL_wI, hR_wI, hI_wI, hJ_wI, sI_wI, rfP, isIA_100, isIA_120, inb_ok, nI_clamp, nI_add, nI_mul, ↓reduceIte, not_false_eq_true, not_true_eq_false, true_or, or_true, ↓bI_01, ↓b01_0, ↓b01_1, bI_0, z00, z10, n4, n5, n2, n8, Nat.reduceMul, Nat.reduceAdd, Nat.reduceLT, Nat.reduceLeDiff, b0, b1, tk, pd, g2, TrC_3, e3, k1, k2]
    simp only [List.append_assoc, List.cons_append, List.nil_append]
    rfl
/-! the reference's bodies -/
theorem TrM_30 {t : List Nat} : TrM f t 233 30 = f 233 30 := TrM_o (by decide) (by decide)
theorem TrM_31 {t : List Nat} : TrM f t 233 31 = f 233 31 := TrM_o (by decide) (by decide)
theorem TrM_32 {t : List Nat} : TrM f t 233 32 = f 233 32 := TrM_o (by decide) (by decide)
theorem TrM_35 {t : List Nat} : TrM f t 233 35 = f 233 35 := TrM_o (by decide) (by decide)
theorem m_drags (F : FR h) (d k : Nat) (hk : k < 6) (hd : 3 ≤ d) (ν m x : Int32) (e1 : f 233 30 = nI k) (e2 : f 233 31 = ν) (e3 : f 233 32 = m) (t : List Nat) (ht : t.length ≤ 26) (Q : Option Value → PH → Prop) :
    Run d 1433 [.ref 233, .int x] (wI h (TrM f t)) Q = Q (some (.int (dV k ν m x))) (wI h (TrM f (t ++ dT k))) := by
  have L1 : ∀ b, (t ++ [b]).length = t.length + 1 := fun b => by rw [List.length_append]; rfl
  have L2 : ∀ b c, (t ++ [b] ++ [c]).length = t.length + 2 := fun b c => by rw [List.length_append, L1]; rfl
  have b0 := fun d b (Q : Option Value → PH → Prop) => e_ran (Q := Q) (f := f) F d b t (by omega)
  have b1 := fun d b c (Q : Option Value → PH → Prop) => e_ran (Q := Q) (f := f) F d c (t ++ [b]) (by rw [L1]; omega)
  have b2 := fun d b c e (Q : Option Value → PH → Prop) => e_ran (Q := Q) (f := f) F d e (t ++ [b] ++ [c]) (by rw [L2]; omega)
  have hk' : k = 0 ∨ k = 1 ∨ k = 2 ∨ k = 3 ∨ k = 4 ∨ k = 5 := by omega
  rcases hk' with rfl | rfl | rfl | rfl | rfl | rfl <;>
    (simp -implicitDefEqProofs (disch := first | omega | (simp (disch := omega) only [nb_upr]; omega)) only [R_1433, w_1433_0, w_1433_1, w_1433_2, w_1433_3, w_1433_4, R_1441, w_1441_0, R_1457, w_1457_0, zi_0, zi_0n, zi_570, zi_571, zi_88, zi_572, zi_67w1, zi_67w2, zi_17, zi_573, zi_51, zi_79, zi_574, zi_575, zi_562, zi_70, zi_15, zi_576, zi_577, zi_140, zi_101, F.t233, kC_eq, toL_s, toL_n, okS0, okS1, okS2, okS3, okS4, okS5, true_and, and_true, hT_wI, hL_wI, hR_wI, hI_wI, hJ_wI, sI_wI, rfP, isIA_100, isIA_120, inb_ok, nI_clamp, nI_add, nI_mul, ↓reduceIte, not_false_eq_true, not_true_eq_false, true_or, or_true, ↓bI_01, ↓b01_0, ↓b01_1, bI_0, z00, z10, n4, n5, n2, n8, Nat.reduceMul, Nat.reduceAdd, Nat.reduceLT, Nat.reduceLeDiff, nI_eq, nI_leI, nI_ltI, Nat.reduceEqDiff, pk_div, nI_sub, Nat.reduceDiv, Nat.reduceSub, TrM_30, TrM_31, TrM_32, e1, e2, e3, b0, b1, b2]
     try simp only [List.append_assoc, List.cons_append, List.nil_append]
     rfl)
theorem m_lands (F : FR h) (d k : Nat) (hk : k < 6) (hd : 6 ≤ d) (ν m x : Int32) (e1 : f 233 30 = nI k) (e2 : f 233 31 = ν) (e3 : f 233 32 = m) (t : List Nat) (ht : t.length ≤ 18) (Q : Option Value → PH → Prop) :
    Run d 1465 [.ref 233, .int x] (wI h (TrM f t)) Q = Q (some (.int (lV k ν m x))) (wI h (TrM f (t ++ lT k))) := by
  have L1 : ∀ b, (t ++ [b]).length = t.length + 1 := fun b => by rw [List.length_append]; rfl
  have L2 : ∀ b c, (t ++ [b] ++ [c]).length = t.length + 2 := fun b c => by rw [List.length_append, L1]; rfl
  have b0 := fun d b (Q : Option Value → PH → Prop) => e_ran (Q := Q) (f := f) F d b t (by omega)
  have b1 := fun d b c (Q : Option Value → PH → Prop) => e_ran (Q := Q) (f := f) F d c (t ++ [b]) (by rw [L1]; omega)
  have g1 := fun d (hd : 3 ≤ d) b x (Q : Option Value → PH → Prop) => m_drags (Q := Q) F d k hk hd ν m x e1 e2 e3 (t ++ [b]) (by rw [L1]; omega)
  have g2 := fun d (hd : 3 ≤ d) b c x (Q : Option Value → PH → Prop) => m_drags (Q := Q) F d k hk hd ν m x e1 e2 e3 (t ++ [b] ++ [c]) (by rw [L2]; omega)
  have dl := dT_len k hk
  have g3 := fun d (hd : 3 ≤ d) b c x (Q : Option Value → PH → Prop) => m_drags (Q := Q) F d k hk hd ν m x e1 e2 e3 (t ++ [b] ++ [c] ++ dT k) (by rw [List.length_append, L2]; omega)
  have hk' : k = 0 ∨ k = 1 ∨ k = 2 ∨ k = 3 ∨ k = 4 ∨ k = 5 := by omega
  rcases hk' with rfl | rfl | rfl | rfl | rfl | rfl <;>
    (simp -implicitDefEqProofs (disch := first | omega | (simp (disch := omega) only [nb_upr]; omega)) only [R_1465, w_1465_0, w_1465_1, w_1465_2, w_1465_3, R_1473, w_1473_0, zi_0, zi_0n, zi_570, zi_48, zi_580, zi_54, zi_384, zi_33, zi_448, zi_573, zi_88, zi_581, zi_562, zi_101, zi_67w1, zi_67w2, zi_9, zi_129, zi_582, zi_32i, zi_32r, zi_32u, zi_32a, zi_34, zi_565, zi_359, zi_79, F.t233, kC_eq, toL_s, toL_n, okS0, okS1, okS2, okS3, okS4, okS5, true_and, and_true, hT_wI, hL_wI, hR_wI, hI_wI, hJ_wI, sI_wI, rfP, isIA_100, isIA_120, inb_ok, nI_clamp, nI_add, nI_mul, ↓reduceIte, not_false_eq_true, not_true_eq_false, true_or, or_true, ↓bI_01, ↓b01_0, ↓b01_1, bI_0, z00, z10, n4, n5, n2, n8, Nat.reduceMul, Nat.reduceAdd, Nat.reduceLT, Nat.reduceLeDiff, nI_eq, nI_leI, nI_ltI, Nat.reduceEqDiff, pk_div, nI_sub, Nat.reduceDiv, Nat.reduceSub, TrM_30, TrM_31, e1, e2, b0, b1, g1, g2, g3]
     simp only [List.append_assoc, List.cons_append, List.nil_append]
     rfl)
def PM (f : Nat → Nat → Int32) : Nat → Nat → Int32 := up2 f 233 35 (nI 1)
theorem m_mends (F : FR h) (d k : Nat) (hk : k < 6) (hd : 5 ≤ d) (ν m x : Int32) (e1 : f 233 30 = nI k) (e2 : f 233 31 = ν) (e3 : f 233 32 = m) (e4 : f 233 35 = nI 0) (hne : ¬ ν = m) (t : List Nat) (ht : t.length ≤ 22) (Q : Option Value → PH → Prop) :
    Run d 1481 [.ref 233, .int x] (wI h (TrM f t)) Q = Q (some (.int (eV k ν m x))) (wI h (TrM f (t ++ eU k))) := by
  have hz : ¬ ν - m = 0 := fun z => hne (sub0.mp z)
  have L1 : ∀ b, (t ++ [b]).length = t.length + 1 := fun b => by rw [List.length_append]; rfl
  have L2 : ∀ b c, (t ++ [b] ++ [c]).length = t.length + 2 := fun b c => by rw [List.length_append, L1]; rfl
  have b0 := fun d b (Q : Option Value → PH → Prop) => e_ran (Q := Q) (f := f) F d b t (by omega)
  have b1 := fun d b c (Q : Option Value → PH → Prop) => e_ran (Q := Q) (f := f) F d c (t ++ [b]) (by rw [L1]; omega)
  have g2 := fun d (hd : 3 ≤ d) b c x (Q : Option Value → PH → Prop) => m_drags (Q := Q) F d k hk hd ν m x e1 e2 e3 (t ++ [b] ++ [c]) (by rw [L2]; omega)
  have hk' : k = 0 ∨ k = 1 ∨ k = 2 ∨ k = 3 ∨ k = 4 ∨ k = 5 := by omega
  rcases hk' with rfl | rfl | rfl | rfl | rfl | rfl <;>
    (simp -implicitDefEqProofs (disch := first | omega | (simp (disch := omega) only [nb_upr]; omega)) only [R_1481, w_1481_0, w_1481_1, w_1481_2, w_1481_3, w_1481_4, R_1489, w_1489_0, w_1489_1, zi_0, zi_0n, zi_570, zi_54, zi_431, zi_583, zi_573, zi_88, zi_59, zi_70, zi_584, zi_51, zi_79, zi_67w1, zi_67w2, zi_463, zi_585, zi_32i, zi_32r, zi_32u, zi_32a, zi_569, zi_108, zi_31, zi_86, zi_34, zi_576, zi_565, zi_577, zi_75, zi_360, zi_562, zi_48, zi_564, zi_101, zi_238, F.t233, kC_eq, toL_s, toL_n, okS0, okS1, okS2, okS3, okS4, okS5, true_and, and_true, hT_wI, hL_wI, hR_wI, hI_wI, hJ_wI, sI_wI, rfP, isIA_100, isIA_120, inb_ok, nI_clamp, nI_add, nI_mul, ↓reduceIte, not_false_eq_true, not_true_eq_false, true_or, or_true, ↓bI_01, ↓b01_0, ↓b01_1, bI_0, z00, z10, n4, n5, n2, n8, Nat.reduceMul, Nat.reduceAdd, Nat.reduceLT, Nat.reduceLeDiff, nI_eq, nI_leI, nI_ltI, Nat.reduceEqDiff, pk_div, nI_sub, Nat.reduceDiv, Nat.reduceSub, TrM_30, TrM_31, TrM_32, TrM_35, e1, e2, e3, e4, b0, b1, g2, hne, hz]
     try simp only [List.append_assoc, List.cons_append, List.nil_append]
     rfl)
theorem m_mendsP (F : FR h) (d k : Nat) (hk : k < 6) (hd : 5 ≤ d) (ν m x : Int32) (e1 : f 233 30 = nI k) (e2 : f 233 31 = ν) (e3 : f 233 32 = m) (e4 : f 233 35 = nI 0) (he : ν = m) (t : List Nat) (ht : t.length ≤ 22) :
    ∃ y, ∀ Q, Run d 1481 [.ref 233, .int x] (wI h (TrM f t)) Q = Q (some (.int y)) (wI h (TrM (PM f) (t ++ eT k))) := by
  have L1 : ∀ b, (t ++ [b]).length = t.length + 1 := fun b => by rw [List.length_append]; rfl
  have b0 := fun d b (Q : Option Value → PH → Prop) => e_ran (Q := Q) (f := f) F d b t (by omega)
  have b1 := fun d b c (Q : Option Value → PH → Prop) => e_ran (Q := Q) (f := f) F d c (t ++ [b]) (by rw [L1]; omega)
  have up : ∀ t, up2 (TrM f t) 233 35 (nI 1) = TrM (PM f) t := fun t => TrM_up (by decide)
  have p30 : ∀ t, TrM (PM f) t 233 30 = f 233 30 := fun t => by rw [TrM_30]; unfold PM; rw [up2_nk _ _ (by decide)]
  have p35 : ∀ t, TrM (PM f) t 233 35 = nI 1 := fun t => by rw [TrM_35]; exact up2_same _ _ _ _
  have hk' : k = 0 ∨ k = 1 ∨ k = 2 ∨ k = 3 ∨ k = 4 ∨ k = 5 := by omega
  refine ⟨if k = 3 then nI 0 * nI 2 else nI 0, fun Q => ?_⟩
  rcases hk' with rfl | rfl | rfl | rfl | rfl | rfl <;>
    (simp -implicitDefEqProofs (disch := first | omega | (simp (disch := omega) only [nb_upr]; omega)) only [R_1481, w_1481_0, w_1481_1, w_1481_2, w_1481_3, w_1481_4, R_1489, w_1489_0, w_1489_1, zi_0, zi_0n, zi_570, zi_54, zi_431, zi_583, zi_573, zi_88, zi_59, zi_70, zi_584, zi_51, zi_79, zi_67w1, zi_67w2, zi_463, zi_585, zi_32i, zi_32r, zi_32u, zi_32a, zi_569, zi_108, zi_31, zi_86, zi_34, zi_576, zi_565, zi_577, zi_75, zi_360, zi_562, zi_48, zi_564, zi_101, zi_238, F.t233, kC_eq, toL_s, toL_n, okS0, okS1, okS2, okS3, okS4, okS5, true_and, and_true, hT_wI, hL_wI, hR_wI, hI_wI, hJ_wI, sI_wI, rfP, isIA_100, isIA_120, inb_ok, nI_clamp, nI_add, nI_mul, ↓reduceIte, not_false_eq_true, not_true_eq_false, true_or, or_true, ↓bI_01, ↓b01_0, ↓b01_1, bI_0, z00, z10, n4, n5, n2, n8, Nat.reduceMul, Nat.reduceAdd, Nat.reduceLT, Nat.reduceLeDiff, nI_eq, nI_leI, nI_ltI, Nat.reduceEqDiff, pk_div, nI_sub, Nat.reduceDiv, Nat.reduceSub, TrM_30, TrM_31, TrM_32, p35, e1, e2, e3, b0, b1, he, up]
     try simp only [List.append_assoc, List.cons_append, List.nil_append]
     rfl)
theorem m_hums (F : FR h) (d k : Nat) (hk : k < 6) (hd : 9 ≤ d) (ν m x : Int32) (e1 : f 233 30 = nI k) (e2 : f 233 31 = ν) (e3 : f 233 32 = m) (e4 : f 233 35 = nI 0) (t : List Nat) (ht : t.length ≤ 10) :
    if ν = m ∧ (k = 2 ∨ k = 4) then ∃ y, ∀ Q, Run d 1497 [.ref 233, .int x] (wI h (TrM f t)) Q = Q (some (.int y)) (wI h (TrM (PM f) (t ++ uT k)))
    else ∀ Q, Run d 1497 [.ref 233, .int x] (wI h (TrM f t)) Q = Q (some (.int (uV k ν m x))) (wI h (TrM f (t ++ uT k))) := by
  have L1 : ∀ b, (t ++ [b]).length = t.length + 1 := fun b => by rw [List.length_append]; rfl
  have L2 : ∀ b c, (t ++ [b] ++ [c]).length = t.length + 2 := fun b c => by rw [List.length_append, L1]; rfl
  have b0 := fun d b (Q : Option Value → PH → Prop) => e_ran (Q := Q) (f := f) F d b t (by omega)
  have b1 := fun d b c (Q : Option Value → PH → Prop) => e_ran (Q := Q) (f := f) F d c (t ++ [b]) (by rw [L1]; omega)
  have dl := lT_len k hk
  have g1 := fun d (hd : 6 ≤ d) b x (Q : Option Value → PH → Prop) => m_lands (Q := Q) F d k hk hd ν m x e1 e2 e3 (t ++ [b]) (by rw [L1]; omega)
  have g2 := fun d (hd : 6 ≤ d) b c x (Q : Option Value → PH → Prop) => m_lands (Q := Q) F d k hk hd ν m x e1 e2 e3 (t ++ [b] ++ [c]) (by rw [L2]; omega)
  have L3 : ∀ b c, (t ++ [b] ++ [c] ++ lT k).length ≤ 22 := fun b c => by rw [List.length_append, L2]; omega
  have hk' : k = 0 ∨ k = 1 ∨ k = 2 ∨ k = 3 ∨ k = 4 ∨ k = 5 := by omega
  by_cases h24 : ν = m ∧ (k = 2 ∨ k = 4)
  · rw [if_pos h24]
    obtain ⟨he, hk2⟩ := h24
    have hm := fun d (hd : 5 ≤ d) b c => m_mendsP F d k hk hd ν m m e1 e2 e3 e4 he (t ++ [b] ++ [c] ++ lT k) (L3 b c)
    obtain ⟨y, hy⟩ := hm (d - 1) (by omega) 31 13
    refine ⟨lV k ν m x + m + y, fun Q => ?_⟩
    rcases hk2 with rfl | rfl
    · simp -implicitDefEqProofs (disch := first | omega | (simp (disch := omega) only [nb_upr]; omega)) only [R_1497, w_1497_0, w_1497_1, w_1497_2, w_1497_3, R_1505, w_1505_0, zi_0, zi_0n, zi_570, zi_51, zi_580, zi_9, zi_384, zi_33, zi_586, zi_573, zi_88, zi_587, zi_32i, zi_32r, zi_32u, zi_32a, zi_34, zi_576, zi_567, zi_70, zi_67w1, zi_67w2, zi_59, zi_129, zi_588, zi_123, zi_101, zi_306, zi_566, F.t233, kC_eq, toL_s, toL_n, okS0, okS1, okS2, okS3, okS4, okS5, true_and, and_true, hT_wI, hL_wI, hR_wI, hI_wI, hJ_wI, sI_wI, rfP, isIA_100, isIA_120, inb_ok, nI_clamp, nI_add, nI_mul, ↓reduceIte, not_false_eq_true, not_true_eq_false, true_or, or_true, ↓bI_01, ↓b01_0, ↓b01_1, bI_0, z00, z10, n4, n5, n2, n8, Nat.reduceMul, Nat.reduceAdd, Nat.reduceLT, Nat.reduceLeDiff, nI_eq, nI_leI, nI_ltI, Nat.reduceEqDiff, pk_div, nI_sub, Nat.reduceDiv, Nat.reduceSub, TrM_30, TrM_32, e1, e3, b0, b1, g2, hy]
      simp only [List.append_assoc, List.cons_append, List.nil_append]
      rfl
    · simp -implicitDefEqProofs (disch := first | omega | (simp (disch := omega) only [nb_upr]; omega)) only [R_1497, w_1497_0, w_1497_1, w_1497_2, w_1497_3, R_1505, w_1505_0, zi_0, zi_0n, zi_570, zi_51, zi_580, zi_9, zi_384, zi_33, zi_586, zi_573, zi_88, zi_587, zi_32i, zi_32r, zi_32u, zi_32a, zi_34, zi_576, zi_567, zi_70, zi_67w1, zi_67w2, zi_59, zi_129, zi_588, zi_123, zi_101, zi_306, zi_566, F.t233, kC_eq, toL_s, toL_n, okS0, okS1, okS2, okS3, okS4, okS5, true_and, and_true, hT_wI, hL_wI, hR_wI, hI_wI, hJ_wI, sI_wI, rfP, isIA_100, isIA_120, inb_ok, nI_clamp, nI_add, nI_mul, ↓reduceIte, not_false_eq_true, not_true_eq_false, true_or, or_true, ↓bI_01, ↓b01_0, ↓b01_1, bI_0, z00, z10, n4, n5, n2, n8, Nat.reduceMul, Nat.reduceAdd, Nat.reduceLT, Nat.reduceLeDiff, nI_eq, nI_leI, nI_ltI, Nat.reduceEqDiff, pk_div, nI_sub, Nat.reduceDiv, Nat.reduceSub, TrM_30, TrM_32, e1, e3, b0, b1, g2, hy]
      simp only [List.append_assoc, List.cons_append, List.nil_append]
      rfl
  · rw [if_neg h24]
    intro Q
    by_cases he : ν = m
    · have hk3 : k = 0 ∨ k = 1 ∨ k = 3 ∨ k = 5 := by
        rcases hk' with z | z | z | z | z | z
        · omega
        · omega
        · exact absurd ⟨he, Or.inl z⟩ h24
        · omega
        · exact absurd ⟨he, Or.inr z⟩ h24
        · omega
      rcases hk3 with rfl | rfl | rfl | rfl <;>
        (simp -implicitDefEqProofs (disch := first | omega | (simp (disch := omega) only [nb_upr]; omega)) only [R_1497, w_1497_0, w_1497_1, w_1497_2, w_1497_3, R_1505, w_1505_0, zi_0, zi_0n, zi_570, zi_51, zi_580, zi_9, zi_384, zi_33, zi_586, zi_573, zi_88, zi_587, zi_32i, zi_32r, zi_32u, zi_32a, zi_34, zi_576, zi_567, zi_70, zi_67w1, zi_67w2, zi_59, zi_129, zi_588, zi_123, zi_101, zi_306, zi_566, F.t233, kC_eq, toL_s, toL_n, okS0, okS1, okS2, okS3, okS4, okS5, true_and, and_true, hT_wI, hL_wI, hR_wI, hI_wI, hJ_wI, sI_wI, rfP, isIA_100, isIA_120, inb_ok, nI_clamp, nI_add, nI_mul, ↓reduceIte, not_false_eq_true, not_true_eq_false, true_or, or_true, ↓bI_01, ↓b01_0, ↓b01_1, bI_0, z00, z10, n4, n5, n2, n8, Nat.reduceMul, Nat.reduceAdd, Nat.reduceLT, Nat.reduceLeDiff, nI_eq, nI_leI, nI_ltI, Nat.reduceEqDiff, pk_div, nI_sub, Nat.reduceDiv, Nat.reduceSub, TrM_30, TrM_32, e1, e3, b0, b1, g1, g2]
         simp only [List.append_assoc, List.cons_append, List.nil_append]
         rfl)
    · have gm := fun d (hd : 5 ≤ d) b c x (Q : Option Value → PH → Prop) => m_mends (Q := Q) F d k hk hd ν m x e1 e2 e3 e4 he (t ++ [b] ++ [c] ++ lT k) (L3 b c)
      rcases hk' with rfl | rfl | rfl | rfl | rfl | rfl <;>
        (simp -implicitDefEqProofs (disch := first | omega | (simp (disch := omega) only [nb_upr]; omega)) only [R_1497, w_1497_0, w_1497_1, w_1497_2, w_1497_3, R_1505, w_1505_0, zi_0, zi_0n, zi_570, zi_51, zi_580, zi_9, zi_384, zi_33, zi_586, zi_573, zi_88, zi_587, zi_32i, zi_32r, zi_32u, zi_32a, zi_34, zi_576, zi_567, zi_70, zi_67w1, zi_67w2, zi_59, zi_129, zi_588, zi_123, zi_101, zi_306, zi_566, F.t233, kC_eq, toL_s, toL_n, okS0, okS1, okS2, okS3, okS4, okS5, true_and, and_true, hT_wI, hL_wI, hR_wI, hI_wI, hJ_wI, sI_wI, rfP, isIA_100, isIA_120, inb_ok, nI_clamp, nI_add, nI_mul, ↓reduceIte, not_false_eq_true, not_true_eq_false, true_or, or_true, ↓bI_01, ↓b01_0, ↓b01_1, bI_0, z00, z10, n4, n5, n2, n8, Nat.reduceMul, Nat.reduceAdd, Nat.reduceLT, Nat.reduceLeDiff, nI_eq, nI_leI, nI_ltI, Nat.reduceEqDiff, pk_div, nI_sub, Nat.reduceDiv, Nat.reduceSub, TrM_30, TrM_32, e1, e3, b0, b1, g1, g2, gm]
         simp only [List.append_assoc, List.cons_append, List.nil_append]
         rfl)
end
