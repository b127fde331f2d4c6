section
/-! acts: what each body answers, and which run -/
variable {n : Nat} {h : PH} {f g : Nat → Nat → Int32}
def TrC (f : Nat → Nat → Int32) (t : List Nat) : Nat → Nat → Int32 := fun a k => if a = 103 ∧ k = 1 then nI t.length else if a = 104 ∧ k < t.length then nI (t.getD k 0) else f a k
def TrM (f : Nat → Nat → Int32) (t : List Nat) : Nat → Nat → Int32 := fun a k => if a = 233 ∧ k = 34 then nI t.length else if a = 252 ∧ k < t.length then nI (t.getD k 0) else f a k
theorem TrC_n {t : List Nat} : TrC f t 103 1 = nI t.length := if_pos ⟨rfl, rfl⟩
theorem TrM_n {t : List Nat} : TrM f t 233 34 = nI t.length := if_pos ⟨rfl, rfl⟩
theorem TrC_o {t : List Nat} {a k : Nat} (h1 : ¬ (a = 103 ∧ k = 1)) (h2 : ¬ a = 104) : TrC f t a k = f a k := by
  unfold TrC
  rw [if_neg h1, if_neg (fun z => h2 z.1)]
theorem TrM_o {t : List Nat} {a k : Nat} (h1 : ¬ (a = 233 ∧ k = 34)) (h2 : ¬ a = 252) : TrM f t a k = f a k := by
  unfold TrM
  rw [if_neg h1, if_neg (fun z => h2 z.1)]
theorem getD_app {t : List Nat} {b k : Nat} : (t ++ [b]).getD k 0 = if k < t.length then t.getD k 0 else if k = t.length then b else 0 := by
  by_cases h1 : k < t.length
  · rw [if_pos h1]
    simp [List.getD, List.getElem?_append_left h1]
  · rw [if_neg h1]
    by_cases h2 : k = t.length
    · subst h2
      rw [if_pos rfl]
      simp [List.getD]
    · rw [if_neg h2]
      show ((t ++ [b])[k]?).getD 0 = 0
      rw [List.getElem?_eq_none (by rw [List.length_append]; show t.length + 1 ≤ k; omega)]
      rfl
theorem TrC_app {t : List Nat} {b : Nat} : up2 (up2 (TrC f t) 104 t.length (nI b)) 103 1 (nI (t.length + 1)) = TrC f (t ++ [b]) := by
  funext a k
  by_cases h1 : a = 103 ∧ k = 1
  · obtain ⟨rfl, rfl⟩ := h1
    rw [up2_same, TrC_n, List.length_append]
    rfl
  · rw [up2_out h1]
    by_cases h2 : a = 104 ∧ k = t.length
    · obtain ⟨rfl, rfl⟩ := h2
      rw [up2_same]
      unfold TrC
      rw [if_neg h1, if_pos ⟨rfl, by rw [List.length_append]; simp⟩, getD_app, if_neg (Nat.lt_irrefl _), if_pos rfl]
    · rw [up2_out h2]
      unfold TrC
      rw [if_neg h1, if_neg h1]
      by_cases h3 : a = 104 ∧ k < t.length
      · rw [if_pos h3, if_pos ⟨h3.1, by rw [List.length_append]; have := h3.2; omega⟩, getD_app, if_pos h3.2]
      · rw [if_neg h3, if_neg (fun z => by
          have z2 := z.2
          rw [List.length_append] at z2
          have : k < t.length + 1 := z2
          by_cases y : k = t.length
          · exact h2 ⟨z.1, y⟩
          · exact h3 ⟨z.1, by omega⟩)]
theorem TrM_app {t : List Nat} {b : Nat} : up2 (up2 (TrM f t) 252 t.length (nI b)) 233 34 (nI (t.length + 1)) = TrM f (t ++ [b]) := by
  funext a k
  by_cases h1 : a = 233 ∧ k = 34
  · obtain ⟨rfl, rfl⟩ := h1
    rw [up2_same, TrM_n, List.length_append]
    rfl
  · rw [up2_out h1]
    by_cases h2 : a = 252 ∧ k = t.length
    · obtain ⟨rfl, rfl⟩ := h2
      rw [up2_same]
      unfold TrM
      rw [if_neg h1, if_pos ⟨rfl, by rw [List.length_append]; simp⟩, getD_app, if_neg (Nat.lt_irrefl _), if_pos rfl]
    · rw [up2_out h2]
      unfold TrM
      rw [if_neg h1, if_neg h1]
      by_cases h3 : a = 252 ∧ k < t.length
      · rw [if_pos h3, if_pos ⟨h3.1, by rw [List.length_append]; have := h3.2; omega⟩, getD_app, if_pos h3.2]
      · rw [if_neg h3, if_neg (fun z => by
          have z2 := z.2
          rw [List.length_append] at z2
          have : k < t.length + 1 := z2
          by_cases y : k = t.length
          · exact h2 ⟨z.1, y⟩
          · exact h3 ⟨z.1, by omega⟩)]
theorem TrC_up {t : List Nat} {j : Nat} {x : Int32} (hj : ¬ j = 1) : up2 (TrC f t) 103 j x = TrC (up2 f 103 j x) t := by
  funext a k
  by_cases h1 : a = 103 ∧ k = j
  · obtain ⟨rfl, rfl⟩ := h1
    rw [up2_same, TrC_o (by omega) (by decide), up2_same]
  · rw [up2_out h1]
    unfold TrC
    rw [up2_out h1]
theorem TrM_up {t : List Nat} {j : Nat} {x : Int32} (hj : ¬ j = 34) : up2 (TrM f t) 233 j x = TrM (up2 f 233 j x) t := by
  funext a k
  by_cases h1 : a = 233 ∧ k = j
  · obtain ⟨rfl, rfl⟩ := h1
    rw [up2_same, TrM_o (by omega) (by decide), up2_same]
  · rw [up2_out h1]
    unfold TrM
    rw [up2_out h1]
theorem TrC_0 : up2 f 103 1 (nI 0) = TrC f [] := by
  funext a k
  unfold up2 TrC
  by_cases h1 : a = 103 ∧ k = 1
  · rw [if_pos h1, if_pos h1]; rfl
  · rw [if_neg h1, if_neg h1, if_neg (fun z => absurd z.2 (Nat.not_lt_zero _))]
theorem TrM_0 : up2 f 233 34 (nI 0) = TrM f [] := by
  funext a k
  unfold up2 TrM
  by_cases h1 : a = 233 ∧ k = 34
  · rw [if_pos h1, if_pos h1]; rfl
  · rw [if_neg h1, if_neg h1, if_neg (fun z => absurd z.2 (Nat.not_lt_zero _))]
theorem e_begin (F : FR h) (d b : Nat) (t : List Nat) (ht : t.length < 30) (h4 : f 103 4 = nI 0) (Q : Option Value → PH → Prop) : Run d 1937 [.ref 103, .int (nI b)] (wI h (TrC f t)) Q = Q none (wI h (TrC f (t ++ [b]))) := by
  have g : ¬ 30 ≤ t.length := by omega
  have e4 : TrC f t 103 4 = nI 0 := by rw [TrC_o (by decide) (by decide)]; exact h4
  have e1 : up2 (TrC f t) 104 t.length (nI b) 103 1 = nI t.length := by rw [up2_ne _ _ (by decide), TrC_n]
  rw [← TrC_app]
  simp -implicitDefEqProofs (disch := first | omega | (simp (disch := omega) only [nb_upr]; omega)) only [R_1937, w_1937_0, w_1937_1, zi_0, zi_0n, zi_324, zi_98, zi_327, zi_15, zi_186, zi_328, zi_88, zi_38, zi_3i, zi_3r, zi_48, zi_70, zi_317, zi_33, zi_41, F.t103, F.r103_0, F.t104, F.l104, kC_eq, toL_s, toL_n, okS0, okS1, okS2, okS3, okS4, okS5, true_and, and_true, hT_wI, hL_wI, hR_wI, hI_wI, hJ_wI, sI_wI, rfP, isIA_100, isIA_120, inb_ok, nI_clamp, nI_add, nI_mul, ↓reduceIte, not_false_eq_true, not_true_eq_false, true_or, or_true, ↓bI_01, ↓b01_0, ↓b01_1, bI_0, z00, z10, n4, n5, n2, n8, Nat.reduceMul, Nat.reduceAdd, Nat.reduceLT, Nat.reduceLeDiff, nI_eq, nI_leI, nI_ltI, Nat.reduceEqDiff, pk_div, nI_sub, Nat.reduceDiv, Nat.reduceSub, e4, TrC_n, g, e1]
theorem e_beginP (F : FR h) (d b : Nat) (t : List Nat) (h4 : f 103 4 = nI 1) (Q : Option Value → PH → Prop) : Run d 1937 [.ref 103, .int (nI b)] (wI h (TrC f t)) Q = Q none (wI h (TrC f t)) := by
  have e4 : TrC f t 103 4 = nI 1 := by rw [TrC_o (by decide) (by decide)]; exact h4
  simp -implicitDefEqProofs (disch := first | omega | (simp (disch := omega) only [nb_upr]; omega)) only [R_1937, w_1937_0, w_1937_1, zi_0, zi_0n, zi_324, zi_98, zi_327, zi_15, zi_186, zi_328, zi_88, zi_38, zi_3i, zi_3r, zi_48, zi_70, zi_317, zi_33, zi_41, F.t103, F.r103_0, F.t104, F.l104, kC_eq, toL_s, toL_n, okS0, okS1, okS2, okS3, okS4, okS5, true_and, and_true, hT_wI, hL_wI, hR_wI, hI_wI, hJ_wI, sI_wI, rfP, isIA_100, isIA_120, inb_ok, nI_clamp, nI_add, nI_mul, ↓reduceIte, not_false_eq_true, not_true_eq_false, true_or, or_true, ↓bI_01, ↓b01_0, ↓b01_1, bI_0, z00, z10, n4, n5, n2, n8, Nat.reduceMul, Nat.reduceAdd, Nat.reduceLT, Nat.reduceLeDiff, nI_eq, nI_leI, nI_ltI, Nat.reduceEqDiff, pk_div, nI_sub, Nat.reduceDiv, Nat.reduceSub, e4]
theorem e_ran (F : FR h) (d b : Nat) (t : List Nat) (ht : t.length < 30) (Q : Option Value → PH → Prop) : Run d 1449 [.ref 233, .int (nI b)] (wI h (TrM f t)) Q = Q none (wI h (TrM f (t ++ [b]))) := by
  have g : ¬ 30 ≤ t.length := by omega
  have e1 : up2 (TrM f t) 252 t.length (nI b) 233 34 = nI t.length := by rw [up2_ne _ _ (by decide), TrM_n]
  rw [← TrM_app]
  simp -implicitDefEqProofs (disch := first | omega | (simp (disch := omega) only [nb_upr]; omega)) only [R_1449, w_1449_0, w_1449_1, zi_0, zi_0n, zi_578, zi_15, zi_186, zi_579, zi_88, zi_38, zi_3i, zi_3r, zi_48, zi_70, zi_559, zi_33, zi_41, F.t233, F.r233_33, F.t252, F.l252, kC_eq, toL_s, toL_n, okS0, okS1, okS2, okS3, okS4, okS5, true_and, and_true, hT_wI, hL_wI, hR_wI, hI_wI, hJ_wI, sI_wI, rfP, isIA_100, isIA_120, inb_ok, nI_clamp, nI_add, nI_mul, ↓reduceIte, not_false_eq_true, not_true_eq_false, true_or, or_true, ↓bI_01, ↓b01_0, ↓b01_1, bI_0, z00, z10, n4, n5, n2, n8, Nat.reduceMul, Nat.reduceAdd, Nat.reduceLT, Nat.reduceLeDiff, nI_eq, nI_leI, nI_ltI, Nat.reduceEqDiff, pk_div, nI_sub, Nat.reduceDiv, Nat.reduceSub, TrM_n, g, e1]
def dV (k : Nat) (ν m x : Int32) : Int32 := match k with
  | 2 => (x - ν) ^^^ m
  | 3 => x - ν + ν
  | 4 => ((x - ν) ^^^ m) * nI 2
  | _ => x - ν
def dT (k : Nat) : List Nat := match k with
  | 2 => [30, 10]
  | 3 => [51, 10]
  | 4 => [40, 30, 10]
  | _ => [10]
def lV (k : Nat) (ν m x : Int32) : Int32 := match k with
  | 1 => dV 1 ν m x * nI 3 - ν
  | 3 => dV 3 ν m x * nI 3 - ν
  | 4 => dV 4 ν m x * nI 3 - dV 4 ν m ν
  | k => dV k ν m x * nI 3
def lT (k : Nat) : List Nat := match k with
  | 1 => [20, 11] ++ dT 1
  | 3 => [20, 11] ++ dT 3
  | 4 => [41, 11] ++ dT 4 ++ dT 4
  | k => [11] ++ dT k
def eT (k : Nat) : List Nat := match k with
  | 3 => [50, 12]
  | 5 => [61, 12]
  | _ => [12]
def eV (k : Nat) (ν m x : Int32) : Int32 := match k with
  | 3 => (x + nI 5) / (ν - m) * nI 2
  | 5 => (x / (ν - m)) ^^^ dV 5 ν m m
  | _ => x / (ν - m)
def eU (k : Nat) : List Nat := match k with
  | 5 => [61, 12] ++ dT 5
  | k => eT k
theorem dT_len : ∀ k, k < 6 → (dT k).length ≤ 3 := by decide
theorem pvok_d {k : Nat} (hk : k < 6) : (pvok 10 (ktag k) = true) = True := by
  match k, hk with
  | 0, _ | 1, _ | 2, _ | 3, _ | 4, _ | 5, _ => exact eq_true rfl
theorem pvok_l {k : Nat} (hk : k < 6) : (pvok 18 (ktag k) = true) = True := by
  match k, hk with
  | 0, _ | 1, _ | 2, _ | 3, _ | 4, _ | 5, _ => exact eq_true rfl
theorem pvok_e {k : Nat} (hk : k < 6) : (pvok 26 (ktag k) = true) = True := by
  match k, hk with
  | 0, _ | 1, _ | 2, _ | 3, _ | 4, _ | 5, _ => exact eq_true rfl
theorem pvok_h {k : Nat} (hk : k < 6) : (pvok 34 (ktag k) = true) = True := by
  match k, hk with
  | 0, _ | 1, _ | 2, _ | 3, _ | 4, _ | 5, _ => exact eq_true rfl
theorem TrC_2 {t : List Nat} : TrC f t 103 2 = f 103 2 := TrC_o (by decide) (by decide)
theorem TrC_3 {t : List Nat} : TrC f t 103 3 = f 103 3 := TrC_o (by decide) (by decide)
theorem e_drags (F : FR h) (d k : Nat) (hk : k < 6) (hd : 3 ≤ d) (ν m x : Int32) (e2 : f 103 2 = ν) (e3 : f 103 3 = m) (e4 : f 103 4 = nI 0) (t : List Nat) (ht : t.length ≤ 26) (Q : Option Value → PH → Prop) :
    Run d (pvsel 10 (ktag k)) [.ref (111 + k), .ref 103, .int x] (wI h (TrC f t)) Q = Q (some (.int (dV k ν m x))) (wI h (TrC f (t ++ dT k))) := by
  have tt := F.tK13 hk
  have L1 : ∀ b, (t ++ [b]).length = t.length + 1 := fun b => by rw [List.length_append]; rfl
  have L2 : ∀ b c, (t ++ [b] ++ [c]).length = t.length + 2 := fun b c => by rw [List.length_append, L1]; rfl
  have b0 := fun d b (Q : Option Value → PH → Prop) => e_begin (Q := Q) F d b t (by omega) e4
  have b1 := fun d b c (Q : Option Value → PH → Prop) => e_begin (Q := Q) F d c (t ++ [b]) (by rw [L1]; omega) e4
  have b2 := fun d b c e (Q : Option Value → PH → Prop) => e_begin (Q := Q) F d e (t ++ [b] ++ [c]) (by rw [L2]; omega) e4
  match k, hk, tt with
  | 0, _, tt =>
    show Run d 1994 _ _ _ = _
    simp -implicitDefEqProofs (disch := first | omega | (simp (disch := omega) only [nb_upr]; omega)) only [R_1994, w_1994_0, zi_23, zi_23n, zi_140, zi_678, zi_34, zi_679, zi_101, zi_67w1, zi_67w2, F.t103, kC_eq, toL_s, toL_n, okS0, okS1, okS2, okS3, okS4, okS5, true_and, and_true, hT_wI, hL_wI, hR_wI, hI_wI, hJ_wI, sI_wI, rfP, isIA_100, isIA_120, inb_ok, nI_clamp, nI_add, nI_mul, ↓reduceIte, not_false_eq_true, not_true_eq_false, true_or, or_true, ↓bI_01, ↓b01_0, ↓b01_1, bI_0, z00, z10, n4, n5, n2, n8, Nat.reduceMul, Nat.reduceAdd, Nat.reduceLT, Nat.reduceLeDiff, b0, TrC_2, e2]
    rfl
  | 1, _, tt =>
    show Run d 1994 _ _ _ = _
    simp -implicitDefEqProofs (disch := first | omega | (simp (disch := omega) only [nb_upr]; omega)) only [R_1994, w_1994_0, zi_23, zi_23n, zi_140, zi_678, zi_34, zi_679, zi_101, zi_67w1, zi_67w2, F.t103, kC_eq, toL_s, toL_n, okS0, okS1, okS2, okS3, okS4, okS5, true_and, and_true, hT_wI, hL_wI, hR_wI, hI_wI, hJ_wI, sI_wI, rfP, isIA_100, isIA_120, inb_ok, nI_clamp, nI_add, nI_mul, ↓reduceIte, not_false_eq_true, not_true_eq_false, true_or, or_true, ↓bI_01, ↓b01_0, ↓b01_1, bI_0, z00, z10, n4, n5, n2, n8, Nat.reduceMul, Nat.reduceAdd, Nat.reduceLT, Nat.reduceLeDiff, b0, TrC_2, e2]
    rfl
  | 2, _, tt =>
    show Run d 2098 _ _ _ = _
    simp -implicitDefEqProofs (disch := first | omega | (simp (disch := omega) only [nb_upr]; omega)) only [R_2098, w_2098_0, R_1994, w_1994_0, zi_23, zi_23n, zi_15, zi_678, zi_0, zi_0n, zi_34, zi_685, zi_680, zi_577, zi_67w1, zi_67w2, zi_140, zi_679, zi_101, F.t103, kC_eq, toL_s, toL_n, okS0, okS1, okS2, okS3, okS4, okS5, true_and, and_true, hT_wI, hL_wI, hR_wI, hI_wI, hJ_wI, sI_wI, rfP, isIA_100, isIA_120, inb_ok, nI_clamp, nI_add, nI_mul, ↓reduceIte, not_false_eq_true, not_true_eq_false, true_or, or_true, ↓bI_01, ↓b01_0, ↓b01_1, bI_0, z00, z10, n4, n5, n2, n8, Nat.reduceMul, Nat.reduceAdd, Nat.reduceLT, Nat.reduceLeDiff, b0, b1, TrC_2, TrC_3, e2, e3, tt]
    simp only [List.append_assoc, List.cons_append, List.nil_append]
    rfl
  | 3, _, tt =>
    show Run d 2146 _ _ _ = _
    simp -implicitDefEqProofs (disch := first | omega | (simp (disch := omega) only [nb_upr]; omega)) only [R_2146, w_2146_0, R_1994, w_1994_0, zi_23, zi_23n, zi_574, zi_678, zi_0, zi_0n, zi_34, zi_685, zi_679, zi_70, zi_67w1, zi_67w2, zi_140, zi_101, F.t103, kC_eq, toL_s, toL_n, okS0, okS1, okS2, okS3, okS4, okS5, true_and, and_true, hT_wI, hL_wI, hR_wI, hI_wI, hJ_wI, sI_wI, rfP, isIA_100, isIA_120, inb_ok, nI_clamp, nI_add, nI_mul, ↓reduceIte, not_false_eq_true, not_true_eq_false, true_or, or_true, ↓bI_01, ↓b01_0, ↓b01_1, bI_0, z00, z10, n4, n5, n2, n8, Nat.reduceMul, Nat.reduceAdd, Nat.reduceLT, Nat.reduceLeDiff, b0, b1, TrC_2, TrC_3, e2, e3, tt]
    simp only [List.append_assoc, List.cons_append, List.nil_append]
    rfl
  | 4, _, tt =>
    show Run d 2194 _ _ _ = _
    simp -implicitDefEqProofs (disch := first | omega | (simp (disch := omega) only [nb_upr]; omega)) only [R_2194, w_2194_0, R_2098, w_2098_0, R_1994, w_1994_0, zi_23, zi_23n, zi_17, zi_678, zi_0, zi_0n, zi_34, zi_695, zi_51, zi_79, zi_67w1, zi_67w2, zi_15, zi_685, zi_680, zi_577, zi_140, zi_679, zi_101, F.t103, kC_eq, toL_s, toL_n, okS0, okS1, okS2, okS3, okS4, okS5, true_and, and_true, hT_wI, hL_wI, hR_wI, hI_wI, hJ_wI, sI_wI, rfP, isIA_100, isIA_120, inb_ok, nI_clamp, nI_add, nI_mul, ↓reduceIte, not_false_eq_true, not_true_eq_false, true_or, or_true, ↓bI_01, ↓b01_0, ↓b01_1, bI_0, z00, z10, n4, n5, n2, n8, Nat.reduceMul, Nat.reduceAdd, Nat.reduceLT, Nat.reduceLeDiff, b0, b1, b2, TrC_2, TrC_3, e2, e3, tt]
    simp only [List.append_assoc, List.cons_append, List.nil_append]
    rfl
  | 5, _, tt =>
    show Run d 1994 _ _ _ = _
    simp -implicitDefEqProofs (disch := first | omega | (simp (disch := omega) only [nb_upr]; omega)) only [R_1994, w_1994_0, zi_23, zi_23n, zi_140, zi_678, zi_34, zi_679, zi_101, zi_67w1, zi_67w2, F.t103, kC_eq, toL_s, toL_n, okS0, okS1, okS2, okS3, okS4, okS5, true_and, and_true, hT_wI, hL_wI, hR_wI, hI_wI, hJ_wI, sI_wI, rfP, isIA_100, isIA_120, inb_ok, nI_clamp, nI_add, nI_mul, ↓reduceIte, not_false_eq_true, not_true_eq_false, true_or, or_true, ↓bI_01, ↓b01_0, ↓b01_1, bI_0, z00, z10, n4, n5, n2, n8, Nat.reduceMul, Nat.reduceAdd, Nat.reduceLT, Nat.reduceLeDiff, b0, TrC_2, e2]
    rfl
theorem e_lands (F : FR h) (d k : Nat) (hk : k < 6) (hd : 6 ≤ d) (ν m x : Int32) (e2 : f 103 2 = ν) (e3 : f 103 3 = m) (e4 : f 103 4 = nI 0) (t : List Nat) (ht : t.length ≤ 18) (Q : Option Value → PH → Prop) :
    Run d (pvsel 18 (ktag k)) [.ref (111 + k), .ref 103, .int x] (wI h (TrC f t)) Q = Q (some (.int (lV k ν m x))) (wI h (TrC f (t ++ lT k))) := by
  have tt := F.tK13 hk
  have L1 : ∀ b, (t ++ [b]).length = t.length + 1 := fun b => by rw [List.length_append]; rfl
  have L2 : ∀ b c, (t ++ [b] ++ [c]).length = t.length + 2 := fun b c => by rw [List.length_append, L1]; rfl
  have b0 := fun d b (Q : Option Value → PH → Prop) => e_begin (Q := Q) F d b t (by omega) e4
  have b1 := fun d b c (Q : Option Value → PH → Prop) => e_begin (Q := Q) F d c (t ++ [b]) (by rw [L1]; omega) e4
  have tk := F.tK hk
  have pd := pvok_d hk
  have g1 := fun d (hd : 3 ≤ d) b x (Q : Option Value → PH → Prop) => e_drags (Q := Q) F d k hk hd ν m x e2 e3 e4 (t ++ [b]) (by rw [L1]; omega)
  have g2 := fun d (hd : 3 ≤ d) b c x (Q : Option Value → PH → Prop) => e_drags (Q := Q) F d k hk hd ν m x e2 e3 e4 (t ++ [b] ++ [c]) (by rw [L2]; omega)
  have dl := dT_len k hk
  have g3 := fun d (hd : 3 ≤ d) b c x (Q : Option Value → PH → Prop) => e_drags (Q := Q) F d k hk hd ν m x e2 e3 e4 (t ++ [b] ++ [c] ++ dT k) (by rw [List.length_append, L2]; omega)
  rcases (show k = 0 ∨ k = 1 ∨ k = 2 ∨ k = 3 ∨ k = 4 ∨ k = 5 by omega) with rfl | rfl | rfl | rfl | rfl | rfl
  · show Run d 2002 _ _ _ = _
    simp -implicitDefEqProofs (disch := first | omega | (simp (disch := omega) only [nb_upr]; omega)) only [R_2002, w_2002_0, zi_23, zi_23n, zi_359, zi_678, zi_0, zi_0n, zi_34, zi_320, zi_54, zi_79, zi_67w1, zi_67w2, F.t103, kC_eq, toL_s, toL_n, okS0, okS1, okS2, okS3, okS4, okS5, true_and, and_true, hT_wI, hL_wI, hR_wI, hI_wI, hJ_wI, sI_wI, rfP, isIA_100, isIA_120, inb_ok, nI_clamp, nI_add, nI_mul, ↓reduceIte, not_false_eq_true, not_true_eq_false, true_or, or_true, ↓bI_01, ↓b01_0, ↓b01_1, bI_0, z00, z10, n4, n5, n2, n8, Nat.reduceMul, Nat.reduceAdd, Nat.reduceLT, Nat.reduceLeDiff, b0, tk, pd, g1]
    simp only [List.append_assoc, List.cons_append, List.nil_append]
    rfl
  · have k1 : 1 ≤ ktag 1 := by decide
    have k2 : ktag 1 ≤ 13 := by decide
    show Run d 2058 _ _ _ = _
    simp -implicitDefEqProofs (disch := first | omega | (simp (disch := omega) only [nb_upr]; omega)) only [R_2058, w_2058_0, R_2002, w_2002_0, zi_23, zi_23n, zi_448, zi_678, zi_0, zi_0n, zi_34, zi_683, zi_679, zi_101, zi_67w1, zi_67w2, zi_359, zi_320, zi_54, zi_79, F.t103, kC_eq, toL_s, toL_n, okS0, okS1, okS2, okS3, okS4, okS5, true_and, and_true, hT_wI, hL_wI, hR_wI, hI_wI, hJ_wI, sI_wI, rfP, isIA_100, isIA_120, inb_ok, nI_clamp, nI_add, nI_mul, ↓reduceIte, not_false_eq_true, not_true_eq_false, true_or, or_true, ↓bI_01, ↓b01_0, ↓b01_1, bI_0, z00, z10, n4, n5, n2, n8, Nat.reduceMul, Nat.reduceAdd, Nat.reduceLT, Nat.reduceLeDiff, b0, b1, tk, pd, g2, TrC_2, e2, k1, k2]
    simp only [List.append_assoc, List.cons_append, List.nil_append]
    rfl
  · show Run d 2002 _ _ _ = _
    simp -implicitDefEqProofs (disch := first | omega | (simp (disch := omega) only [nb_upr]; omega)) only [R_2002, w_2002_0, zi_23, zi_23n, zi_359, zi_678, zi_0, zi_0n, zi_34, zi_320, zi_54, zi_79, zi_67w1, zi_67w2, F.t103, kC_eq, toL_s, toL_n, okS0, okS1, okS2, okS3, okS4, okS5, true_and, and_true, hT_wI, hL_wI, hR_wI, hI_wI, hJ_wI, sI_wI, rfP, isIA_100, isIA_120, inb_ok, nI_clamp, nI_add, nI_mul, ↓reduceIte, not_false_eq_true, not_true_eq_false, true_or, or_true, ↓bI_01, ↓b01_0, ↓b01_1, bI_0, z00, z10, n4, n5, n2, n8, Nat.reduceMul, Nat.reduceAdd, Nat.reduceLT, Nat.reduceLeDiff, b0, tk, pd, g1]
    simp only [List.append_assoc, List.cons_append, List.nil_append]
    rfl
  · have k1 : 1 ≤ ktag 3 := by decide
    have k2 : ktag 3 ≤ 13 := by decide
    show Run d 2058 _ _ _ = _
    simp -implicitDefEqProofs (disch := first | omega | (simp (disch := omega) only [nb_upr]; omega)) only [R_2058, w_2058_0, R_2002, w_2002_0, zi_23, zi_23n, zi_448, zi_678, zi_0, zi_0n, zi_34, zi_683, zi_679, zi_101, zi_67w1, zi_67w2, zi_359, zi_320, zi_54, zi_79, F.t103, kC_eq, toL_s, toL_n, okS0, okS1, okS2, okS3, okS4, okS5, true_and, and_true, hT_wI, hL_wI, hR_wI, hI_wI, hJ_wI, sI_wI, rfP, isIA_100, isIA_120, inb_ok, nI_clamp, nI_add, nI_mul, ↓reduceIte, not_false_eq_true, not_true_eq_false, true_or, or_true, ↓bI_01, ↓b01_0, ↓b01_1, bI_0, z00, z10, n4, n5, n2, n8, Nat.reduceMul, Nat.reduceAdd, Nat.reduceLT, Nat.reduceLeDiff, b0, b1, tk, pd, g2, TrC_2, e2, k1, k2]
    simp only [List.append_assoc, List.cons_append, List.nil_append]
    rfl
  · have k1 : 1 ≤ ktag 4 := by decide
    have k2 : ktag 4 ≤ 13 := by decide
    have k3 : ktag 4 = 3 := rfl
    have pd' : (pvok 10 3 = true) = True := pd
    have g2' : ∀ d, 3 ≤ d → ∀ b c x Q, Run d (pvsel 10 3) [.ref (111 + 4), .ref 103, .int x] (wI h (TrC f (t ++ [b] ++ [c]))) Q = Q (some (.int (dV 4 ν m x))) (wI h (TrC f (t ++ [b] ++ [c] ++ dT 4))) := g2
    have g3' : ∀ d, 3 ≤ d → ∀ b c x Q, Run d 2194 [.ref (111 + 4), .ref 103, .int x] (wI h (TrC f (t ++ [b] ++ [c] ++ dT 4))) Q = Q (some (.int (dV 4 ν m x))) (wI h (TrC f (t ++ [b] ++ [c] ++ dT 4 ++ dT 4))) := g3
    show Run d 2202 _ _ _ = _
    simp -implicitDefEqProofs (disch := first | omega | (simp (disch := omega) only [nb_upr]; omega)) only [R_2202, w_2202_0, R_2002, w_2002_0, zi_23, zi_23n, zi_582, zi_678, zi_0, zi_0n, zi_34, zi_683, zi_679, zi_696, zi_101, zi_67w1, zi_67w2, zi_359, zi_320, zi_54, zi_79, F.t103, kC_eq, toL_s, toL_n, okS0, okS1, okS2, okS3, okS4, okS5, true_and, and_true, hT_wI, hL_wI, hR_wI, hI_wI, hJ_wI, sI_wI, rfP, isIA_100, isIA_120, inb_ok, nI_clamp, nI_add, nI_mul, ↓reduceIte, not_false_eq_true, not_true_eq_false, true_or, or_true, ↓bI_01, ↓b01_0, ↓b01_1, bI_0, z00, z10, n4, n5, n2, n8, Nat.reduceMul, Nat.reduceAdd, Nat.reduceLT, Nat.reduceLeDiff, b0, b1, tk, pd', g2', TrC_2, e2, k1, k2, k3, g3']
    simp only [List.append_assoc, List.cons_append, List.nil_append]
    rfl
  · show Run d 2002 _ _ _ = _
    simp -implicitDefEqProofs (disch := first | omega | (simp (disch := omega) only [nb_upr]; omega)) only [R_2002, w_2002_0, zi_23, zi_23n, zi_359, zi_678, zi_0, zi_0n, zi_34, zi_320, zi_54, zi_79, zi_67w1, zi_67w2, F.t103, kC_eq, toL_s, toL_n, okS0, okS1, okS2, okS3, okS4, okS5, true_and, and_true, hT_wI, hL_wI, hR_wI, hI_wI, hJ_wI, sI_wI, rfP, isIA_100, isIA_120, inb_ok, nI_clamp, nI_add, nI_mul, ↓reduceIte, not_false_eq_true, not_true_eq_false, true_or, or_true, ↓bI_01, ↓b01_0, ↓b01_1, bI_0, z00, z10, n4, n5, n2, n8, Nat.reduceMul, Nat.reduceAdd, Nat.reduceLT, Nat.reduceLeDiff, b0, tk, pd, g1]
    simp only [List.append_assoc, List.cons_append, List.nil_append]
    rfl
end
