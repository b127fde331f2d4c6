section
/-! the reference's tape: what is wanted -/
variable {n : Nat} {h : PH} {y : Nat → Nat} {t p : Nat} {d : Nat} {g : Nat → Nat → Int32} {Q : Option Value → PH → Prop}
theorem tp_9 {o : Int32} : tmP g y t p o 233 9 = nI (tS y t p) := tm_9
theorem tp_8 {o : Int32} : tmP g y t p o 233 8 = nI (tK y t p) := tm_8
theorem tp_12 {o : Int32} : tmP g y t p o 233 12 = tRV y t p := tm_12
theorem tp_13 {o : Int32} : tmP g y t p o 233 13 = o := tm_13
theorem tp_u13 {o x : Int32} : up2 (tmP g y t p o) 233 13 x = tmP g y t p x := tm_u13
theorem tp_o {o : Int32} {a j : Nat} (ha : ¬ (a = 233 ∧ 8 ≤ j)) : tmP g y t p o a j = g a j := tm_o ha
theorem tp_uo {o x : Int32} {a j : Nat} (ha : ¬ a = 233) : up2 (tmP g y t p o) a j x = tmP (up2 g a j x) y t p o := tm_uo ha
theorem hT_jP (a : Nat) : hT (jP h y t p) a = hT h a := rfl
theorem hL_jP (a : Nat) : hL (jP h y t p) a = hL h a := rfl
theorem hR_jP (a k : Nat) : hR (jP h y t p) a k = hR h a k := rfl
theorem hJ_jP : hJ (jP h y t p) 233 11 = tWW y t p := hJ_jW h _
theorem e_advP (F : FR h) (G : MG y t g) (hp : p ≤ t) (o : Int32) (d : Nat) (hd : 2 ≤ d) (Q : Option Value → PH → Prop) : Run d 624 [.ref 233] (wI (jP h y t p) (tmP g y t p o)) Q = Q none (wI (jP h y t (tE y t p)) (tmP g y t (tE y t p) o)) :=
  e_adv F G (tE y t p) (tE_b hp).2 (tWW y t p) (nI (tS y t p)) (nI (tK y t p)) (tRV y t p) o d hd Q
theorem tK_3 (h3 : tK y t p = 3) : tS y t p < t := by
  by_cases z : t ≤ tS y t p
  · have := tK_0.mpr z
    omega
  · omega
theorem e_mW (F : FR h) {k : Nat} (k1 : 10 ≤ k) (k2 : k < 28) {c : Nat} (hc : wc k = c) (o : Int32) : Run d 673 [.ref 233, .long (lN c)] (wI (jP h y t p) (tmP g y t p o)) Q = Q (some (.int (bI (isW y t p k = true)))) (wI (jP h y t p) (tmP g y t p o)) := by
  have hk := tK_lt (y := y) (t := t) (p := p)
  have iff := isW_word (y := y) (t := t) (p := p) k1 k2
  rw [hc] at iff
  by_cases h1 : tK y t p = 1
  · have ew : tWW y t p = tW y t p := if_pos h1
    by_cases h2 : tW y t p = lN c
    · rw [bI_t (iff.mpr ⟨h1, h2⟩)]
      simp -implicitDefEqProofs (disch := first | omega | (simp (disch := omega) only [nb_upr]; omega)) only [R_673, w_673_0, w_673_1, w_673_2, zi_0, zi_0n, zi_375, zi_48, zi_431, zi_398, zi_78, zi_234, zi_98, zi_112, zi_31, zi_113, zi_67w1, zi_67w2, hT_jP, hJ_jP, F.t233, kC_eq, toL_s, toL_n, okS0, okS1, okS2, okS3, okS4, okS5, true_and, and_true, hT_wI, hL_wI, hR_wI, hI_wI, hJ_wI, sI_wI, rfP, isIA_100, isIA_120, inb_ok, nI_clamp, nI_add, nI_mul, ↓reduceIte, not_false_eq_true, not_true_eq_false, true_or, or_true, ↓bI_01, ↓b01_0, ↓b01_1, bI_0, z00, z10, n4, n5, n2, n8, Nat.reduceMul, Nat.reduceAdd, Nat.reduceLT, Nat.reduceLeDiff, nI_eq, nI_leI, nI_ltI, Nat.reduceEqDiff, pk_div, nI_sub, Nat.reduceDiv, Nat.reduceSub, tp_8, lgz, ew, h1, h2]
    · rw [bI_f (fun z => h2 (iff.mp z).2)]
      simp -implicitDefEqProofs (disch := first | omega | (simp (disch := omega) only [nb_upr]; omega)) only [R_673, w_673_0, w_673_1, w_673_2, zi_0, zi_0n, zi_375, zi_48, zi_431, zi_398, zi_78, zi_234, zi_98, zi_112, zi_31, zi_113, zi_67w1, zi_67w2, hT_jP, hJ_jP, F.t233, kC_eq, toL_s, toL_n, okS0, okS1, okS2, okS3, okS4, okS5, true_and, and_true, hT_wI, hL_wI, hR_wI, hI_wI, hJ_wI, sI_wI, rfP, isIA_100, isIA_120, inb_ok, nI_clamp, nI_add, nI_mul, ↓reduceIte, not_false_eq_true, not_true_eq_false, true_or, or_true, ↓bI_01, ↓b01_0, ↓b01_1, bI_0, z00, z10, n4, n5, n2, n8, Nat.reduceMul, Nat.reduceAdd, Nat.reduceLT, Nat.reduceLeDiff, nI_eq, nI_leI, nI_ltI, Nat.reduceEqDiff, pk_div, nI_sub, Nat.reduceDiv, Nat.reduceSub, tp_8, lgz, ew, h1, h2]
  · rw [bI_f (fun z => h1 (iff.mp z).1)]
    simp -implicitDefEqProofs (disch := first | omega | (simp (disch := omega) only [nb_upr]; omega)) only [R_673, w_673_0, w_673_1, w_673_2, zi_0, zi_0n, zi_375, zi_48, zi_431, zi_398, zi_78, zi_234, zi_98, zi_112, zi_31, zi_113, zi_67w1, zi_67w2, hT_jP, hJ_jP, F.t233, kC_eq, toL_s, toL_n, okS0, okS1, okS2, okS3, okS4, okS5, true_and, and_true, hT_wI, hL_wI, hR_wI, hI_wI, hJ_wI, sI_wI, rfP, isIA_100, isIA_120, inb_ok, nI_clamp, nI_add, nI_mul, ↓reduceIte, not_false_eq_true, not_true_eq_false, true_or, or_true, ↓bI_01, ↓b01_0, ↓b01_1, bI_0, z00, z10, n4, n5, n2, n8, Nat.reduceMul, Nat.reduceAdd, Nat.reduceLT, Nat.reduceLeDiff, nI_eq, nI_leI, nI_ltI, Nat.reduceEqDiff, pk_div, nI_sub, Nat.reduceDiv, Nat.reduceSub, tp_8, lgz, h1]
def fst1 (P : Nat → Bool) : Nat → Nat → Nat
  | 0, i => i
  | j + 1, i => if P i = true then i else fst1 P j (i + 1)
theorem fst1_le (P : Nat → Bool) : ∀ j i, i ≤ fst1 P j i ∧ fst1 P j i ≤ i + j
  | 0, i => ⟨Nat.le_refl _, Nat.le_refl _⟩
  | j + 1, i => by
    have := fst1_le P j (i + 1)
    show i ≤ (if P i = true then i else fst1 P j (i + 1)) ∧ (if P i = true then i else fst1 P j (i + 1)) ≤ i + (j + 1)
    split <;> omega
theorem fst1_no (P : Nat → Bool) : ∀ j i q, i ≤ q → q < fst1 P j i → ¬ P q = true
  | 0, i, q, h1, h2 => by
    have : q < i := h2
    omega
  | j + 1, i, q, h1, h2 => by
    have e : fst1 P (j + 1) i = if P i = true then i else fst1 P j (i + 1) := rfl
    rw [e] at h2
    by_cases z : P i = true
    · rw [if_pos z] at h2; omega
    · rw [if_neg z] at h2
      by_cases u : q = i
      · rw [u]; exact z
      · exact fst1_no P j (i + 1) q (by omega) h2
theorem fst1_yes (P : Nat → Bool) : ∀ j i, fst1 P j i < i + j → P (fst1 P j i) = true
  | 0, i, h => by
    have : i < i + 0 := h
    omega
  | j + 1, i, h => by
    have e : fst1 P (j + 1) i = if P i = true then i else fst1 P j (i + 1) := rfl
    rw [e] at h ⊢
    by_cases z : P i = true
    · rw [if_pos z]; exact z
    · rw [if_neg z] at h ⊢
      exact fst1_yes P j (i + 1) (by omega)
/-- which kind the token names, which sort -/
def kdN (y : Nat → Nat) (t p : Nat) : Nat := fst1 (fun i => isW y t p (10 + i)) 6 0
def srt (y : Nat → Nat) (t p : Nat) : Nat := fst1 (fun i => isW y t p (20 + i)) 5 0
theorem e_mKd (F : FR h) (o : Int32) (d : Nat) (hd : 1 ≤ d) (Q : Option Value → PH → Prop) : Run d 664 [.ref 233] (wI (jP h y t p) (tmP g y t p o)) Q = Q (some (.int (if kdN y t p < 6 then nI (kdN y t p) else Int32.ofInt (-1)))) (wI (jP h y t p) (tmP g y t p o)) := by
  have e : kdN y t p = if isW y t p 10 = true then 0 else if isW y t p 11 = true then 1 else if isW y t p 12 = true then 2 else if isW y t p 13 = true then 3 else if isW y t p 14 = true then 4 else if isW y t p 15 = true then 5 else 6 := rfl
  have c0 : wc 10 = 50348 := by decide +kernel
  have c1 : wc 11 = 275473944 := by decide +kernel
  have c2 : wc 12 = 1812878082 := by decide +kernel
  have c3 : wc 13 = 15154 := by decide +kernel
  have c4 : wc 14 = 1810703475 := by decide +kernel
  have c5 : wc 15 = 6414557904 := by decide +kernel
  rw [e]
  by_cases h0 : isW y t p 10 = true
  · rw [if_pos h0, if_pos (by decide)]
    simp -implicitDefEqProofs (disch := first | omega | (simp (disch := omega) only [nb_upr]; omega)) only [R_664, w_664_0, w_664_1, w_664_2, w_664_3, w_664_4, w_664_5, w_664_6, w_664_7, zi_0, zi_0n, zi_425, zi_416, zi_66, zi_31, zi_213, zi_426, zi_108, zi_48, zi_427, zi_297, zi_51, zi_428, zi_287, zi_54, zi_429, zi_134, zi_9, zi_430, zi_309, zi_59, zi_37, zi_214, zi_67w1, zi_67w2, hT_jP, F.t233, kC_eq, toL_s, toL_n, okS0, okS1, okS2, okS3, okS4, okS5, true_and, and_true, hT_wI, hL_wI, hR_wI, hI_wI, hJ_wI, sI_wI, rfP, isIA_100, isIA_120, inb_ok, nI_clamp, nI_add, nI_mul, ↓reduceIte, not_false_eq_true, not_true_eq_false, true_or, or_true, ↓bI_01, ↓b01_0, ↓b01_1, bI_0, z00, z10, n4, n5, n2, n8, Nat.reduceMul, Nat.reduceAdd, Nat.reduceLT, Nat.reduceLeDiff, e_mW F (by decide) (by decide) c0 o, h0, Bool.false_eq_true]
  rw [if_neg h0]
  by_cases h1 : isW y t p 11 = true
  · rw [if_pos h1, if_pos (by decide)]
    simp -implicitDefEqProofs (disch := first | omega | (simp (disch := omega) only [nb_upr]; omega)) only [R_664, w_664_0, w_664_1, w_664_2, w_664_3, w_664_4, w_664_5, w_664_6, w_664_7, zi_0, zi_0n, zi_425, zi_416, zi_66, zi_31, zi_213, zi_426, zi_108, zi_48, zi_427, zi_297, zi_51, zi_428, zi_287, zi_54, zi_429, zi_134, zi_9, zi_430, zi_309, zi_59, zi_37, zi_214, zi_67w1, zi_67w2, hT_jP, F.t233, kC_eq, toL_s, toL_n, okS0, okS1, okS2, okS3, okS4, okS5, true_and, and_true, hT_wI, hL_wI, hR_wI, hI_wI, hJ_wI, sI_wI, rfP, isIA_100, isIA_120, inb_ok, nI_clamp, nI_add, nI_mul, ↓reduceIte, not_false_eq_true, not_true_eq_false, true_or, or_true, ↓bI_01, ↓b01_0, ↓b01_1, bI_0, z00, z10, n4, n5, n2, n8, Nat.reduceMul, Nat.reduceAdd, Nat.reduceLT, Nat.reduceLeDiff, e_mW F (by decide) (by decide) c0 o, e_mW F (by decide) (by decide) c1 o, h0, h1, Bool.false_eq_true]
  rw [if_neg h1]
  by_cases h2 : isW y t p 12 = true
  · rw [if_pos h2, if_pos (by decide)]
    simp -implicitDefEqProofs (disch := first | omega | (simp (disch := omega) only [nb_upr]; omega)) only [R_664, w_664_0, w_664_1, w_664_2, w_664_3, w_664_4, w_664_5, w_664_6, w_664_7, zi_0, zi_0n, zi_425, zi_416, zi_66, zi_31, zi_213, zi_426, zi_108, zi_48, zi_427, zi_297, zi_51, zi_428, zi_287, zi_54, zi_429, zi_134, zi_9, zi_430, zi_309, zi_59, zi_37, zi_214, zi_67w1, zi_67w2, hT_jP, F.t233, kC_eq, toL_s, toL_n, okS0, okS1, okS2, okS3, okS4, okS5, true_and, and_true, hT_wI, hL_wI, hR_wI, hI_wI, hJ_wI, sI_wI, rfP, isIA_100, isIA_120, inb_ok, nI_clamp, nI_add, nI_mul, ↓reduceIte, not_false_eq_true, not_true_eq_false, true_or, or_true, ↓bI_01, ↓b01_0, ↓b01_1, bI_0, z00, z10, n4, n5, n2, n8, Nat.reduceMul, Nat.reduceAdd, Nat.reduceLT, Nat.reduceLeDiff, e_mW F (by decide) (by decide) c0 o, e_mW F (by decide) (by decide) c1 o, e_mW F (by decide) (by decide) c2 o, h0, h1, h2, Bool.false_eq_true]
  rw [if_neg h2]
  by_cases h3 : isW y t p 13 = true
  · rw [if_pos h3, if_pos (by decide)]
    simp -implicitDefEqProofs (disch := first | omega | (simp (disch := omega) only [nb_upr]; omega)) only [R_664, w_664_0, w_664_1, w_664_2, w_664_3, w_664_4, w_664_5, w_664_6, w_664_7, zi_0, zi_0n, zi_425, zi_416, zi_66, zi_31, zi_213, zi_426, zi_108, zi_48, zi_427, zi_297, zi_51, zi_428, zi_287, zi_54, zi_429, zi_134, zi_9, zi_430, zi_309, zi_59, zi_37, zi_214, zi_67w1, zi_67w2, hT_jP, F.t233, kC_eq, toL_s, toL_n, okS0, okS1, okS2, okS3, okS4, okS5, true_and, and_true, hT_wI, hL_wI, hR_wI, hI_wI, hJ_wI, sI_wI, rfP, isIA_100, isIA_120, inb_ok, nI_clamp, nI_add, nI_mul, ↓reduceIte, not_false_eq_true, not_true_eq_false, true_or, or_true, ↓bI_01, ↓b01_0, ↓b01_1, bI_0, z00, z10, n4, n5, n2, n8, Nat.reduceMul, Nat.reduceAdd, Nat.reduceLT, Nat.reduceLeDiff, e_mW F (by decide) (by decide) c0 o, e_mW F (by decide) (by decide) c1 o, e_mW F (by decide) (by decide) c2 o, e_mW F (by decide) (by decide) c3 o, h0, h1, h2, h3, Bool.false_eq_true]
  rw [if_neg h3]
  by_cases h4 : isW y t p 14 = true
  · rw [if_pos h4, if_pos (by decide)]
    simp -implicitDefEqProofs (disch := first | omega | (simp (disch := omega) only [nb_upr]; omega)) only [R_664, w_664_0, w_664_1, w_664_2, w_664_3, w_664_4, w_664_5, w_664_6, w_664_7, zi_0, zi_0n, zi_425, zi_416, zi_66, zi_31, zi_213, zi_426, zi_108, zi_48, zi_427, zi_297, zi_51, zi_428, zi_287, zi_54, zi_429, zi_134, zi_9, zi_430, zi_309, zi_59, zi_37, zi_214, zi_67w1, zi_67w2, hT_jP, F.t233, kC_eq, toL_s, toL_n, okS0, okS1, okS2, okS3, okS4, okS5, true_and, and_true, hT_wI, hL_wI, hR_wI, hI_wI, hJ_wI, sI_wI, rfP, isIA_100, isIA_120, inb_ok, nI_clamp, nI_add, nI_mul, ↓reduceIte, not_false_eq_true, not_true_eq_false, true_or, or_true, ↓bI_01, ↓b01_0, ↓b01_1, bI_0, z00, z10, n4, n5, n2, n8, Nat.reduceMul, Nat.reduceAdd, Nat.reduceLT, Nat.reduceLeDiff, e_mW F (by decide) (by decide) c0 o, e_mW F (by decide) (by decide) c1 o, e_mW F (by decide) (by decide) c2 o, e_mW F (by decide) (by decide) c3 o, e_mW F (by decide) (by decide) c4 o, h0, h1, h2, h3, h4, Bool.false_eq_true]
  rw [if_neg h4]
  by_cases h5 : isW y t p 15 = true
  · rw [if_pos h5, if_pos (by decide)]
    simp -implicitDefEqProofs (disch := first | omega | (simp (disch := omega) only [nb_upr]; omega)) only [R_664, w_664_0, w_664_1, w_664_2, w_664_3, w_664_4, w_664_5, w_664_6, w_664_7, zi_0, zi_0n, zi_425, zi_416, zi_66, zi_31, zi_213, zi_426, zi_108, zi_48, zi_427, zi_297, zi_51, zi_428, zi_287, zi_54, zi_429, zi_134, zi_9, zi_430, zi_309, zi_59, zi_37, zi_214, zi_67w1, zi_67w2, hT_jP, F.t233, kC_eq, toL_s, toL_n, okS0, okS1, okS2, okS3, okS4, okS5, true_and, and_true, hT_wI, hL_wI, hR_wI, hI_wI, hJ_wI, sI_wI, rfP, isIA_100, isIA_120, inb_ok, nI_clamp, nI_add, nI_mul, ↓reduceIte, not_false_eq_true, not_true_eq_false, true_or, or_true, ↓bI_01, ↓b01_0, ↓b01_1, bI_0, z00, z10, n4, n5, n2, n8, Nat.reduceMul, Nat.reduceAdd, Nat.reduceLT, Nat.reduceLeDiff, e_mW F (by decide) (by decide) c0 o, e_mW F (by decide) (by decide) c1 o, e_mW F (by decide) (by decide) c2 o, e_mW F (by decide) (by decide) c3 o, e_mW F (by decide) (by decide) c4 o, e_mW F (by decide) (by decide) c5 o, h0, h1, h2, h3, h4, h5, Bool.false_eq_true]
  rw [if_neg h5, if_neg (by decide)]
  simp -implicitDefEqProofs (disch := first | omega | (simp (disch := omega) only [nb_upr]; omega)) only [R_664, w_664_0, w_664_1, w_664_2, w_664_3, w_664_4, w_664_5, w_664_6, w_664_7, zi_0, zi_0n, zi_425, zi_416, zi_66, zi_31, zi_213, zi_426, zi_108, zi_48, zi_427, zi_297, zi_51, zi_428, zi_287, zi_54, zi_429, zi_134, zi_9, zi_430, zi_309, zi_59, zi_37, zi_214, zi_67w1, zi_67w2, hT_jP, F.t233, kC_eq, toL_s, toL_n, okS0, okS1, okS2, okS3, okS4, okS5, true_and, and_true, hT_wI, hL_wI, hR_wI, hI_wI, hJ_wI, sI_wI, rfP, isIA_100, isIA_120, inb_ok, nI_clamp, nI_add, nI_mul, ↓reduceIte, not_false_eq_true, not_true_eq_false, true_or, or_true, ↓bI_01, ↓b01_0, ↓b01_1, bI_0, z00, z10, n4, n5, n2, n8, Nat.reduceMul, Nat.reduceAdd, Nat.reduceLT, Nat.reduceLeDiff, e_mW F (by decide) (by decide) c0 o, e_mW F (by decide) (by decide) c1 o, e_mW F (by decide) (by decide) c2 o, e_mW F (by decide) (by decide) c3 o, e_mW F (by decide) (by decide) c4 o, e_mW F (by decide) (by decide) c5 o, h0, h1, h2, h3, h4, h5, Bool.false_eq_true]
theorem e_mSr (F : FR h) (o : Int32) (d : Nat) (hd : 1 ≤ d) (Q : Option Value → PH → Prop) : Run d 736 [.ref 233] (wI (jP h y t p) (tmP g y t p o)) Q = Q (some (.int (if srt y t p < 5 then nI (srt y t p) else Int32.ofInt (-1)))) (wI (jP h y t p) (tmP g y t p o)) := by
  have e : srt y t p = if isW y t p 20 = true then 0 else if isW y t p 21 = true then 1 else if isW y t p 22 = true then 2 else if isW y t p 23 = true then 3 else if isW y t p 24 = true then 4 else 5 := rfl
  have c0 : wc 20 = 92969755 := by decide +kernel
  have c1 : wc 21 = 2345492275 := by decide +kernel
  have c2 : wc 22 = 10731428 := by decide +kernel
  have c3 : wc 23 = 274392372 := by decide +kernel
  have c4 : wc 24 = 4050994310159 := by decide +kernel
  rw [e]
  by_cases h0 : isW y t p 20 = true
  · rw [if_pos h0, if_pos (by decide)]
    simp -implicitDefEqProofs (disch := first | omega | (simp (disch := omega) only [nb_upr]; omega)) only [R_736, w_736_0, w_736_1, w_736_2, w_736_3, w_736_4, w_736_5, w_736_6, zi_0, zi_0n, zi_442, zi_416, zi_66, zi_31, zi_236, zi_443, zi_108, zi_48, zi_444, zi_297, zi_51, zi_445, zi_287, zi_54, zi_446, zi_134, zi_9, zi_37, zi_237, zi_67w1, zi_67w2, hT_jP, F.t233, kC_eq, toL_s, toL_n, okS0, okS1, okS2, okS3, okS4, okS5, true_and, and_true, hT_wI, hL_wI, hR_wI, hI_wI, hJ_wI, sI_wI, rfP, isIA_100, isIA_120, inb_ok, nI_clamp, nI_add, nI_mul, ↓reduceIte, not_false_eq_true, not_true_eq_false, true_or, or_true, ↓bI_01, ↓b01_0, ↓b01_1, bI_0, z00, z10, n4, n5, n2, n8, Nat.reduceMul, Nat.reduceAdd, Nat.reduceLT, Nat.reduceLeDiff, e_mW F (by decide) (by decide) c0 o, h0, Bool.false_eq_true]
  rw [if_neg h0]
  by_cases h1 : isW y t p 21 = true
  · rw [if_pos h1, if_pos (by decide)]
    simp -implicitDefEqProofs (disch := first | omega | (simp (disch := omega) only [nb_upr]; omega)) only [R_736, w_736_0, w_736_1, w_736_2, w_736_3, w_736_4, w_736_5, w_736_6, zi_0, zi_0n, zi_442, zi_416, zi_66, zi_31, zi_236, zi_443, zi_108, zi_48, zi_444, zi_297, zi_51, zi_445, zi_287, zi_54, zi_446, zi_134, zi_9, zi_37, zi_237, zi_67w1, zi_67w2, hT_jP, F.t233, kC_eq, toL_s, toL_n, okS0, okS1, okS2, okS3, okS4, okS5, true_and, and_true, hT_wI, hL_wI, hR_wI, hI_wI, hJ_wI, sI_wI, rfP, isIA_100, isIA_120, inb_ok, nI_clamp, nI_add, nI_mul, ↓reduceIte, not_false_eq_true, not_true_eq_false, true_or, or_true, ↓bI_01, ↓b01_0, ↓b01_1, bI_0, z00, z10, n4, n5, n2, n8, Nat.reduceMul, Nat.reduceAdd, Nat.reduceLT, Nat.reduceLeDiff, e_mW F (by decide) (by decide) c0 o, e_mW F (by decide) (by decide) c1 o, h0, h1, Bool.false_eq_true]
  rw [if_neg h1]
  by_cases h2 : isW y t p 22 = true
  · rw [if_pos h2, if_pos (by decide)]
    simp -implicitDefEqProofs (disch := first | omega | (simp (disch := omega) only [nb_upr]; omega)) only [R_736, w_736_0, w_736_1, w_736_2, w_736_3, w_736_4, w_736_5, w_736_6, zi_0, zi_0n, zi_442, zi_416, zi_66, zi_31, zi_236, zi_443, zi_108, zi_48, zi_444, zi_297, zi_51, zi_445, zi_287, zi_54, zi_446, zi_134, zi_9, zi_37, zi_237, zi_67w1, zi_67w2, hT_jP, F.t233, kC_eq, toL_s, toL_n, okS0, okS1, okS2, okS3, okS4, okS5, true_and, and_true, hT_wI, hL_wI, hR_wI, hI_wI, hJ_wI, sI_wI, rfP, isIA_100, isIA_120, inb_ok, nI_clamp, nI_add, nI_mul, ↓reduceIte, not_false_eq_true, not_true_eq_false, true_or, or_true, ↓bI_01, ↓b01_0, ↓b01_1, bI_0, z00, z10, n4, n5, n2, n8, Nat.reduceMul, Nat.reduceAdd, Nat.reduceLT, Nat.reduceLeDiff, e_mW F (by decide) (by decide) c0 o, e_mW F (by decide) (by decide) c1 o, e_mW F (by decide) (by decide) c2 o, h0, h1, h2, Bool.false_eq_true]
  rw [if_neg h2]
  by_cases h3 : isW y t p 23 = true
  · rw [if_pos h3, if_pos (by decide)]
    simp -implicitDefEqProofs (disch := first | omega | (simp (disch := omega) only [nb_upr]; omega)) only [R_736, w_736_0, w_736_1, w_736_2, w_736_3, w_736_4, w_736_5, w_736_6, zi_0, zi_0n, zi_442, zi_416, zi_66, zi_31, zi_236, zi_443, zi_108, zi_48, zi_444, zi_297, zi_51, zi_445, zi_287, zi_54, zi_446, zi_134, zi_9, zi_37, zi_237, zi_67w1, zi_67w2, hT_jP, F.t233, kC_eq, toL_s, toL_n, okS0, okS1, okS2, okS3, okS4, okS5, true_and, and_true, hT_wI, hL_wI, hR_wI, hI_wI, hJ_wI, sI_wI, rfP, isIA_100, isIA_120, inb_ok, nI_clamp, nI_add, nI_mul, ↓reduceIte, not_false_eq_true, not_true_eq_false, true_or, or_true, ↓bI_01, ↓b01_0, ↓b01_1, bI_0, z00, z10, n4, n5, n2, n8, Nat.reduceMul, Nat.reduceAdd, Nat.reduceLT, Nat.reduceLeDiff, e_mW F (by decide) (by decide) c0 o, e_mW F (by decide) (by decide) c1 o, e_mW F (by decide) (by decide) c2 o, e_mW F (by decide) (by decide) c3 o, h0, h1, h2, h3, Bool.false_eq_true]
  rw [if_neg h3]
  by_cases h4 : isW y t p 24 = true
  · rw [if_pos h4, if_pos (by decide)]
    simp -implicitDefEqProofs (disch := first | omega | (simp (disch := omega) only [nb_upr]; omega)) only [R_736, w_736_0, w_736_1, w_736_2, w_736_3, w_736_4, w_736_5, w_736_6, zi_0, zi_0n, zi_442, zi_416, zi_66, zi_31, zi_236, zi_443, zi_108, zi_48, zi_444, zi_297, zi_51, zi_445, zi_287, zi_54, zi_446, zi_134, zi_9, zi_37, zi_237, zi_67w1, zi_67w2, hT_jP, F.t233, kC_eq, toL_s, toL_n, okS0, okS1, okS2, okS3, okS4, okS5, true_and, and_true, hT_wI, hL_wI, hR_wI, hI_wI, hJ_wI, sI_wI, rfP, isIA_100, isIA_120, inb_ok, nI_clamp, nI_add, nI_mul, ↓reduceIte, not_false_eq_true, not_true_eq_false, true_or, or_true, ↓bI_01, ↓b01_0, ↓b01_1, bI_0, z00, z10, n4, n5, n2, n8, Nat.reduceMul, Nat.reduceAdd, Nat.reduceLT, Nat.reduceLeDiff, e_mW F (by decide) (by decide) c0 o, e_mW F (by decide) (by decide) c1 o, e_mW F (by decide) (by decide) c2 o, e_mW F (by decide) (by decide) c3 o, e_mW F (by decide) (by decide) c4 o, h0, h1, h2, h3, h4, Bool.false_eq_true]
  rw [if_neg h4, if_neg (by decide)]
  simp -implicitDefEqProofs (disch := first | omega | (simp (disch := omega) only [nb_upr]; omega)) only [R_736, w_736_0, w_736_1, w_736_2, w_736_3, w_736_4, w_736_5, w_736_6, zi_0, zi_0n, zi_442, zi_416, zi_66, zi_31, zi_236, zi_443, zi_108, zi_48, zi_444, zi_297, zi_51, zi_445, zi_287, zi_54, zi_446, zi_134, zi_9, zi_37, zi_237, zi_67w1, zi_67w2, hT_jP, F.t233, kC_eq, toL_s, toL_n, okS0, okS1, okS2, okS3, okS4, okS5, true_and, and_true, hT_wI, hL_wI, hR_wI, hI_wI, hJ_wI, sI_wI, rfP, isIA_100, isIA_120, inb_ok, nI_clamp, nI_add, nI_mul, ↓reduceIte, not_false_eq_true, not_true_eq_false, true_or, or_true, ↓bI_01, ↓b01_0, ↓b01_1, bI_0, z00, z10, n4, n5, n2, n8, Nat.reduceMul, Nat.reduceAdd, Nat.reduceLT, Nat.reduceLeDiff, e_mW F (by decide) (by decide) c0 o, e_mW F (by decide) (by decide) c1 o, e_mW F (by decide) (by decide) c2 o, e_mW F (by decide) (by decide) c3 o, e_mW F (by decide) (by decide) c4 o, h0, h1, h2, h3, h4, Bool.false_eq_true]
/-! a number is wanted -/
theorem e_mN1 (F : FR h) (G : MG y t g) (hp : p ≤ t) (lo hi : Int32) (h1 : tK y t p = 2) (h2 : ¬ (tV y t p < lo ∨ hi < tV y t p)) (d : Nat) (hd : 3 ≤ d) (Q : Option Value → PH → Prop) : Run d 690 [.ref 233, .int lo, .int hi] (wI (jP h y t p) (tmP g y t p (nI 1))) Q = Q (some (.int (tV y t p))) (wI (jP h y t (tE y t p)) (tmP g y t (tE y t p) (nI 1))) := by
  have er : tRV y t p = tV y t p := if_pos h1
  simp -implicitDefEqProofs (disch := first | omega | (simp (disch := omega) only [nb_upr]; omega)) only [R_690, w_690_0, w_690_1, w_690_2, w_690_3, zi_0, zi_0n, zi_405, zi_111i, zi_111r, zi_111u, zi_111a, zi_374, zi_66, zi_375, zi_51, zi_431, zi_63, zi_88, zi_34, zi_362, zi_48, zi_112, zi_31, zi_113, zi_371, zi_297, zi_373, zi_75, zi_67w1, zi_67w2, hT_jP, F.t233, kC_eq, toL_s, toL_n, okS0, okS1, okS2, okS3, okS4, okS5, true_and, and_true, hT_wI, hL_wI, hR_wI, hI_wI, hJ_wI, sI_wI, rfP, isIA_100, isIA_120, inb_ok, nI_clamp, nI_add, nI_mul, ↓reduceIte, not_false_eq_true, not_true_eq_false, true_or, or_true, ↓bI_01, ↓b01_0, ↓b01_1, bI_0, z00, z10, n4, n5, n2, n8, Nat.reduceMul, Nat.reduceAdd, Nat.reduceLT, Nat.reduceLeDiff, nI_eq, nI_leI, nI_ltI, Nat.reduceEqDiff, pk_div, nI_sub, Nat.reduceDiv, Nat.reduceSub, tp_8, tp_12, tp_13, tp_u13, e_in, er, h1, h2, e_advP F G hp]
theorem e_mN0 (F : FR h) (lo hi : Int32) (hn : ¬ (tK y t p = 2 ∧ ¬ (tV y t p < lo ∨ hi < tV y t p))) (d : Nat) (hd : 3 ≤ d) (Q : Option Value → PH → Prop) : Run d 690 [.ref 233, .int lo, .int hi] (wI (jP h y t p) (tmP g y t p (nI 1))) Q = Q (some (.int (tRV y t p))) (wI (jP h y t p) (tmP g y t p (nI 0))) := by
  have hk := tK_lt (y := y) (t := t) (p := p)
  by_cases h1 : tK y t p = 2
  · have h2 : tV y t p < lo ∨ hi < tV y t p := Decidable.of_not_not (fun z => hn ⟨h1, z⟩)
    have er : tRV y t p = tV y t p := if_pos h1
    simp -implicitDefEqProofs (disch := first | omega | (simp (disch := omega) only [nb_upr]; omega)) only [R_690, w_690_0, w_690_1, w_690_2, w_690_3, zi_0, zi_0n, zi_405, zi_111i, zi_111r, zi_111u, zi_111a, zi_374, zi_66, zi_375, zi_51, zi_431, zi_63, zi_88, zi_34, zi_362, zi_48, zi_112, zi_31, zi_113, zi_371, zi_297, zi_373, zi_75, zi_67w1, zi_67w2, hT_jP, F.t233, kC_eq, toL_s, toL_n, okS0, okS1, okS2, okS3, okS4, okS5, true_and, and_true, hT_wI, hL_wI, hR_wI, hI_wI, hJ_wI, sI_wI, rfP, isIA_100, isIA_120, inb_ok, nI_clamp, nI_add, nI_mul, ↓reduceIte, not_false_eq_true, not_true_eq_false, true_or, or_true, ↓bI_01, ↓b01_0, ↓b01_1, bI_0, z00, z10, n4, n5, n2, n8, Nat.reduceMul, Nat.reduceAdd, Nat.reduceLT, Nat.reduceLeDiff, nI_eq, nI_leI, nI_ltI, Nat.reduceEqDiff, pk_div, nI_sub, Nat.reduceDiv, Nat.reduceSub, tp_8, tp_12, tp_13, tp_u13, e_in, er, h1, h2]
  · simp -implicitDefEqProofs (disch := first | omega | (simp (disch := omega) only [nb_upr]; omega)) only [R_690, w_690_0, w_690_1, w_690_2, w_690_3, zi_0, zi_0n, zi_405, zi_111i, zi_111r, zi_111u, zi_111a, zi_374, zi_66, zi_375, zi_51, zi_431, zi_63, zi_88, zi_34, zi_362, zi_48, zi_112, zi_31, zi_113, zi_371, zi_297, zi_373, zi_75, zi_67w1, zi_67w2, hT_jP, F.t233, kC_eq, toL_s, toL_n, okS0, okS1, okS2, okS3, okS4, okS5, true_and, and_true, hT_wI, hL_wI, hR_wI, hI_wI, hJ_wI, sI_wI, rfP, isIA_100, isIA_120, inb_ok, nI_clamp, nI_add, nI_mul, ↓reduceIte, not_false_eq_true, not_true_eq_false, true_or, or_true, ↓bI_01, ↓b01_0, ↓b01_1, bI_0, z00, z10, n4, n5, n2, n8, Nat.reduceMul, Nat.reduceAdd, Nat.reduceLT, Nat.reduceLeDiff, nI_eq, nI_leI, nI_ltI, Nat.reduceEqDiff, pk_div, nI_sub, Nat.reduceDiv, Nat.reduceSub, tp_8, tp_12, tp_13, tp_u13, h1]
theorem e_mNz (F : FR h) (lo hi : Int32) (d : Nat) (Q : Option Value → PH → Prop) : Run d 690 [.ref 233, .int lo, .int hi] (wI (jP h y t p) (tmP g y t p (nI 0))) Q = Q (some (.int (tRV y t p))) (wI (jP h y t p) (tmP g y t p (nI 0))) := by
  simp -implicitDefEqProofs (disch := first | omega | (simp (disch := omega) only [nb_upr]; omega)) only [R_690, w_690_0, w_690_1, w_690_2, w_690_3, zi_0, zi_0n, zi_405, zi_111i, zi_111r, zi_111u, zi_111a, zi_374, zi_66, zi_375, zi_51, zi_431, zi_63, zi_88, zi_34, zi_362, zi_48, zi_112, zi_31, zi_113, zi_371, zi_297, zi_373, zi_75, zi_67w1, zi_67w2, hT_jP, F.t233, kC_eq, toL_s, toL_n, okS0, okS1, okS2, okS3, okS4, okS5, true_and, and_true, hT_wI, hL_wI, hR_wI, hI_wI, hJ_wI, sI_wI, rfP, isIA_100, isIA_120, inb_ok, nI_clamp, nI_add, nI_mul, ↓reduceIte, not_false_eq_true, not_true_eq_false, true_or, or_true, ↓bI_01, ↓b01_0, ↓b01_1, bI_0, z00, z10, n4, n5, n2, n8, Nat.reduceMul, Nat.reduceAdd, Nat.reduceLT, Nat.reduceLeDiff, tp_8, tp_12, tp_13, tp_u13]
/-! a word is wanted -/
theorem e_mR1 (F : FR h) (G : MG y t g) (hp : p ≤ t) {k : Nat} (k1 : 10 ≤ k) (k2 : k < 28) {c : Nat} (hc : wc k = c) (hw : isW y t p k = true) (d : Nat) (hd : 3 ≤ d) (Q : Option Value → PH → Prop) : Run d 697 [.ref 233, .long (lN c)] (wI (jP h y t p) (tmP g y t p (nI 1))) Q = Q none (wI (jP h y t (tE y t p)) (tmP g y t (tE y t p) (nI 1))) := by
  simp -implicitDefEqProofs (disch := first | omega | (simp (disch := omega) only [nb_upr]; omega)) only [R_697, w_697_0, w_697_1, w_697_2, w_697_3, zi_0, zi_0n, zi_374, zi_66, zi_78, zi_416, zi_48, zi_112, zi_31, zi_113, zi_371, zi_297, zi_373, zi_75, zi_41, hT_jP, F.t233, kC_eq, toL_s, toL_n, okS0, okS1, okS2, okS3, okS4, okS5, true_and, and_true, hT_wI, hL_wI, hR_wI, hI_wI, hJ_wI, sI_wI, rfP, isIA_100, isIA_120, inb_ok, nI_clamp, nI_add, nI_mul, ↓reduceIte, not_false_eq_true, not_true_eq_false, true_or, or_true, ↓bI_01, ↓b01_0, ↓b01_1, bI_0, z00, z10, n4, n5, n2, n8, Nat.reduceMul, Nat.reduceAdd, Nat.reduceLT, Nat.reduceLeDiff, tp_13, tp_u13, e_mW F k1 k2 hc, hw, e_advP F G hp]
theorem e_mR0 (F : FR h) {k : Nat} (k1 : 10 ≤ k) (k2 : k < 28) {c : Nat} (hc : wc k = c) (hw : ¬ isW y t p k = true) (d : Nat) (hd : 3 ≤ d) (Q : Option Value → PH → Prop) : Run d 697 [.ref 233, .long (lN c)] (wI (jP h y t p) (tmP g y t p (nI 1))) Q = Q none (wI (jP h y t p) (tmP g y t p (nI 0))) := by
  simp -implicitDefEqProofs (disch := first | omega | (simp (disch := omega) only [nb_upr]; omega)) only [R_697, w_697_0, w_697_1, w_697_2, w_697_3, zi_0, zi_0n, zi_374, zi_66, zi_78, zi_416, zi_48, zi_112, zi_31, zi_113, zi_371, zi_297, zi_373, zi_75, zi_41, hT_jP, F.t233, kC_eq, toL_s, toL_n, okS0, okS1, okS2, okS3, okS4, okS5, true_and, and_true, hT_wI, hL_wI, hR_wI, hI_wI, hJ_wI, sI_wI, rfP, isIA_100, isIA_120, inb_ok, nI_clamp, nI_add, nI_mul, ↓reduceIte, not_false_eq_true, not_true_eq_false, true_or, or_true, ↓bI_01, ↓b01_0, ↓b01_1, bI_0, z00, z10, n4, n5, n2, n8, Nat.reduceMul, Nat.reduceAdd, Nat.reduceLT, Nat.reduceLeDiff, tp_13, tp_u13, e_mW F k1 k2 hc, hw, Bool.false_eq_true]
theorem e_mRz (F : FR h) (c : Nat) (d : Nat) (Q : Option Value → PH → Prop) : Run d 697 [.ref 233, .long (lN c)] (wI (jP h y t p) (tmP g y t p (nI 0))) Q = Q none (wI (jP h y t p) (tmP g y t p (nI 0))) := by
  simp -implicitDefEqProofs (disch := first | omega | (simp (disch := omega) only [nb_upr]; omega)) only [R_697, w_697_0, w_697_1, w_697_2, w_697_3, zi_0, zi_0n, zi_374, zi_66, zi_78, zi_416, zi_48, zi_112, zi_31, zi_113, zi_371, zi_297, zi_373, zi_75, zi_41, hT_jP, F.t233, kC_eq, toL_s, toL_n, okS0, okS1, okS2, okS3, okS4, okS5, true_and, and_true, hT_wI, hL_wI, hR_wI, hI_wI, hJ_wI, sI_wI, rfP, isIA_100, isIA_120, inb_ok, nI_clamp, nI_add, nI_mul, ↓reduceIte, not_false_eq_true, not_true_eq_false, true_or, or_true, ↓bI_01, ↓b01_0, ↓b01_1, bI_0, z00, z10, n4, n5, n2, n8, Nat.reduceMul, Nat.reduceAdd, Nat.reduceLT, Nat.reduceLeDiff, tp_13, tp_u13]
/-! a stop is wanted -/
theorem e_mE1 (F : FR h) (G : MG y t g) (hp : p ≤ t) (he : isE y t p) (d : Nat) (hd : 3 ≤ d) (Q : Option Value → PH → Prop) : Run d 704 [.ref 233] (wI (jP h y t p) (tmP g y t p (nI 1))) Q = Q none (wI (jP h y t (tE y t p)) (tmP g y t (tE y t p) (nI 1))) := by
  obtain ⟨h1, h2⟩ := he
  have q32 : ¬ (3 : Nat) = 2 := by decide
  have er : tRV y t p = nI 59 := by
    unfold tRV
    rw [h1, if_neg q32, bA_lt (tK_3 h1), h2]
  simp -implicitDefEqProofs (disch := first | omega | (simp (disch := omega) only [nb_upr]; omega)) only [R_704, w_704_0, w_704_1, w_704_2, w_704_3, R_713, w_713_0, w_713_1, w_713_2, zi_0, zi_0n, zi_374, zi_66, zi_437, zi_438, zi_48, zi_112, zi_31, zi_113, zi_371, zi_297, zi_373, zi_75, zi_41, zi_375, zi_54, zi_431, zi_405, zi_88, zi_67w1, zi_67w2, hT_jP, F.t233, kC_eq, toL_s, toL_n, okS0, okS1, okS2, okS3, okS4, okS5, true_and, and_true, hT_wI, hL_wI, hR_wI, hI_wI, hJ_wI, sI_wI, rfP, isIA_100, isIA_120, inb_ok, nI_clamp, nI_add, nI_mul, ↓reduceIte, not_false_eq_true, not_true_eq_false, true_or, or_true, ↓bI_01, ↓b01_0, ↓b01_1, bI_0, z00, z10, n4, n5, n2, n8, Nat.reduceMul, Nat.reduceAdd, Nat.reduceLT, Nat.reduceLeDiff, nI_eq, nI_leI, nI_ltI, Nat.reduceEqDiff, pk_div, nI_sub, Nat.reduceDiv, Nat.reduceSub, tp_8, tp_12, tp_13, tp_u13, er, h1, e_advP F G hp]
theorem e_mE0 (F : FR h) (G : MG y t g) (he : ¬ isE y t p) (d : Nat) (hd : 3 ≤ d) (Q : Option Value → PH → Prop) : Run d 704 [.ref 233] (wI (jP h y t p) (tmP g y t p (nI 1))) Q = Q none (wI (jP h y t p) (tmP g y t p (nI 0))) := by
  have hk := tK_lt (y := y) (t := t) (p := p)
  by_cases h1 : tK y t p = 3
  · have q32 : ¬ (3 : Nat) = 2 := by decide
    have er : tRV y t p = nI (y (tS y t p)) := by
      unfold tRV
      rw [h1, if_neg q32, bA_lt (tK_3 h1)]
    have hy := G.2.1 (tS y t p)
    have h2 : ¬ y (tS y t p) = 59 := fun z => he ⟨h1, z⟩
    simp -implicitDefEqProofs (disch := first | omega | (simp (disch := omega) only [nb_upr]; omega)) only [R_704, w_704_0, w_704_1, w_704_2, w_704_3, R_713, w_713_0, w_713_1, w_713_2, zi_0, zi_0n, zi_374, zi_66, zi_437, zi_438, zi_48, zi_112, zi_31, zi_113, zi_371, zi_297, zi_373, zi_75, zi_41, zi_375, zi_54, zi_431, zi_405, zi_88, zi_67w1, zi_67w2, hT_jP, F.t233, kC_eq, toL_s, toL_n, okS0, okS1, okS2, okS3, okS4, okS5, true_and, and_true, hT_wI, hL_wI, hR_wI, hI_wI, hJ_wI, sI_wI, rfP, isIA_100, isIA_120, inb_ok, nI_clamp, nI_add, nI_mul, ↓reduceIte, not_false_eq_true, not_true_eq_false, true_or, or_true, ↓bI_01, ↓b01_0, ↓b01_1, bI_0, z00, z10, n4, n5, n2, n8, Nat.reduceMul, Nat.reduceAdd, Nat.reduceLT, Nat.reduceLeDiff, nI_eq, nI_leI, nI_ltI, Nat.reduceEqDiff, pk_div, nI_sub, Nat.reduceDiv, Nat.reduceSub, tp_8, tp_12, tp_13, tp_u13, er, h1, h2]
  · simp -implicitDefEqProofs (disch := first | omega | (simp (disch := omega) only [nb_upr]; omega)) only [R_704, w_704_0, w_704_1, w_704_2, w_704_3, R_713, w_713_0, w_713_1, w_713_2, zi_0, zi_0n, zi_374, zi_66, zi_437, zi_438, zi_48, zi_112, zi_31, zi_113, zi_371, zi_297, zi_373, zi_75, zi_41, zi_375, zi_54, zi_431, zi_405, zi_88, zi_67w1, zi_67w2, hT_jP, F.t233, kC_eq, toL_s, toL_n, okS0, okS1, okS2, okS3, okS4, okS5, true_and, and_true, hT_wI, hL_wI, hR_wI, hI_wI, hJ_wI, sI_wI, rfP, isIA_100, isIA_120, inb_ok, nI_clamp, nI_add, nI_mul, ↓reduceIte, not_false_eq_true, not_true_eq_false, true_or, or_true, ↓bI_01, ↓b01_0, ↓b01_1, bI_0, z00, z10, n4, n5, n2, n8, Nat.reduceMul, Nat.reduceAdd, Nat.reduceLT, Nat.reduceLeDiff, nI_eq, nI_leI, nI_ltI, Nat.reduceEqDiff, pk_div, nI_sub, Nat.reduceDiv, Nat.reduceSub, tp_8, tp_12, tp_13, tp_u13, h1]
theorem e_mEz (F : FR h) (d : Nat) (Q : Option Value → PH → Prop) : Run d 704 [.ref 233] (wI (jP h y t p) (tmP g y t p (nI 0))) Q = Q none (wI (jP h y t p) (tmP g y t p (nI 0))) := by
  simp -implicitDefEqProofs (disch := first | omega | (simp (disch := omega) only [nb_upr]; omega)) only [R_704, w_704_0, w_704_1, w_704_2, w_704_3, zi_0, zi_0n, zi_374, zi_66, zi_437, zi_438, zi_48, zi_112, zi_31, zi_113, zi_371, zi_297, zi_373, zi_75, zi_41, hT_jP, F.t233, kC_eq, toL_s, toL_n, okS0, okS1, okS2, okS3, okS4, okS5, true_and, and_true, hT_wI, hL_wI, hR_wI, hI_wI, hJ_wI, sI_wI, rfP, isIA_100, isIA_120, inb_ok, nI_clamp, nI_add, nI_mul, ↓reduceIte, not_false_eq_true, not_true_eq_false, true_or, or_true, ↓bI_01, ↓b01_0, ↓b01_1, bI_0, z00, z10, n4, n5, n2, n8, Nat.reduceMul, Nat.reduceAdd, Nat.reduceLT, Nat.reduceLeDiff, tp_13, tp_u13]
/-! a sort is wanted -/
theorem e_mS1 (F : FR h) (G : MG y t g) (hp : p ≤ t) (hs : srt y t p < 5) (d : Nat) (hd : 3 ≤ d) (Q : Option Value → PH → Prop) : Run d 728 [.ref 233] (wI (jP h y t p) (tmP g y t p (nI 1))) Q = Q (some (.int (nI (srt y t p)))) (wI (jP h y t (tE y t p)) (tmP g y t (tE y t p) (nI 1))) := by
  have c : ¬ nI (srt y t p) < (0 : Int32) := nI_pos (by omega)
  have er := fun d hd Q => e_mSr (h := h) (g := g) (y := y) (t := t) (p := p) F (nI 1) d hd Q
  rw [if_pos hs] at er
  simp -implicitDefEqProofs (disch := first | omega | (simp (disch := omega) only [nb_upr]; omega)) only [R_728, w_728_0, w_728_1, w_728_2, w_728_3, zi_0, zi_0n, zi_441, zi_96i, zi_96r, zi_96u, zi_96a, zi_374, zi_66, zi_88, zi_413, zi_48, zi_112, zi_31, zi_113, zi_371, zi_297, zi_373, zi_75, zi_67w1, zi_67w2, hT_jP, F.t233, kC_eq, toL_s, toL_n, okS0, okS1, okS2, okS3, okS4, okS5, true_and, and_true, hT_wI, hL_wI, hR_wI, hI_wI, hJ_wI, sI_wI, rfP, isIA_100, isIA_120, inb_ok, nI_clamp, nI_add, nI_mul, ↓reduceIte, not_false_eq_true, not_true_eq_false, true_or, or_true, ↓bI_01, ↓b01_0, ↓b01_1, bI_0, z00, z10, n4, n5, n2, n8, Nat.reduceMul, Nat.reduceAdd, Nat.reduceLT, Nat.reduceLeDiff, tp_13, tp_u13, er, c, e_advP F G hp]
theorem e_mS0 (F : FR h) (hs : ¬ srt y t p < 5) (d : Nat) (hd : 3 ≤ d) (Q : Option Value → PH → Prop) : Run d 728 [.ref 233] (wI (jP h y t p) (tmP g y t p (nI 1))) Q = Q (some (.int (Int32.ofInt (-1)))) (wI (jP h y t p) (tmP g y t p (nI 0))) := by
  have c : Int32.ofInt (-1) < (0 : Int32) := by decide
  have er := fun d hd Q => e_mSr (h := h) (g := g) (y := y) (t := t) (p := p) F (nI 1) d hd Q
  rw [if_neg hs] at er
  simp -implicitDefEqProofs (disch := first | omega | (simp (disch := omega) only [nb_upr]; omega)) only [R_728, w_728_0, w_728_1, w_728_2, w_728_3, zi_0, zi_0n, zi_441, zi_96i, zi_96r, zi_96u, zi_96a, zi_374, zi_66, zi_88, zi_413, zi_48, zi_112, zi_31, zi_113, zi_371, zi_297, zi_373, zi_75, zi_67w1, zi_67w2, hT_jP, F.t233, kC_eq, toL_s, toL_n, okS0, okS1, okS2, okS3, okS4, okS5, true_and, and_true, hT_wI, hL_wI, hR_wI, hI_wI, hJ_wI, sI_wI, rfP, isIA_100, isIA_120, inb_ok, nI_clamp, nI_add, nI_mul, ↓reduceIte, not_false_eq_true, not_true_eq_false, true_or, or_true, ↓bI_01, ↓b01_0, ↓b01_1, bI_0, z00, z10, n4, n5, n2, n8, Nat.reduceMul, Nat.reduceAdd, Nat.reduceLT, Nat.reduceLeDiff, tp_13, tp_u13, er, c]
theorem e_mSz (F : FR h) (d : Nat) (hd : 3 ≤ d) (Q : Option Value → PH → Prop) : Run d 728 [.ref 233] (wI (jP h y t p) (tmP g y t p (nI 0))) Q = Q (some (.int (if srt y t p < 5 then nI (srt y t p) else Int32.ofInt (-1)))) (wI (jP h y t p) (tmP g y t p (nI 0))) := by
  simp -implicitDefEqProofs (disch := first | omega | (simp (disch := omega) only [nb_upr]; omega)) only [R_728, w_728_0, w_728_1, w_728_2, w_728_3, zi_0, zi_0n, zi_441, zi_96i, zi_96r, zi_96u, zi_96a, zi_374, zi_66, zi_88, zi_413, zi_48, zi_112, zi_31, zi_113, zi_371, zi_297, zi_373, zi_75, zi_67w1, zi_67w2, hT_jP, F.t233, kC_eq, toL_s, toL_n, okS0, okS1, okS2, okS3, okS4, okS5, true_and, and_true, hT_wI, hL_wI, hR_wI, hI_wI, hJ_wI, sI_wI, rfP, isIA_100, isIA_120, inb_ok, nI_clamp, nI_add, nI_mul, ↓reduceIte, not_false_eq_true, not_true_eq_false, true_or, or_true, ↓bI_01, ↓b01_0, ↓b01_1, bI_0, z00, z10, n4, n5, n2, n8, Nat.reduceMul, Nat.reduceAdd, Nat.reduceLT, Nat.reduceLeDiff, tp_13, tp_u13, e_mSr F]
end
