section
/-! longs: powers, parts of fractions; odds -/
variable {b n : Nat} {h : PH} {r : Nat → Int32}
theorem lNt {a : Nat} (ha : a < 2 ^ 63) : (lN a).toInt = (a : Int) := Int64.toInt_ofNat_of_lt ha
theorem lNe {a c : Nat} (ha : a < 2 ^ 63) (hc : c < 2 ^ 63) : (lN a = lN c) = (a = c) := propext ⟨fun z => by
  have := congrArg Int64.toInt z
  rw [lNt ha, lNt hc] at this
  omega, fun z => by rw [z]⟩
theorem lNd {a c : Nat} (ha : a < 2 ^ 63) (hc : c < 2 ^ 63) : lN a / lN c = lN (a / c) := (Int64.ofNat_div ha hc).symm
theorem lNm {a c : Nat} (ha : a < 2 ^ 63) (hc : c < 2 ^ 63) : lN a - lN a / lN c * lN c = lN (a % c) := by
  rw [lNd ha hc, lN_mul, lN_sub (Nat.div_mul_le_self a c)]
  congr 1
  have := Nat.div_add_mod a c
  have e : c * (a / c) = a / c * c := Nat.mul_comm _ _
  omega
theorem lNz {a : Nat} (ha : a < 2 ^ 63) : (lg_cmp (lN a) (lN 0) = 0) = (a = 0) := by
  rw [propext (lg_cmp_eq _ _)]
  exact lNe ha (by decide)
theorem lNn {a : Nat} (ha : a < 2 ^ 63) (h0 : 0 < a) : (lN a = (0 : Int64)) = False := by
  have e : (0 : Int64) = lN 0 := rfl
  rw [e, lNe ha (by decide)]
  exact eq_false (by omega)
theorem i2lN {m : Nat} (hm : m < 2 ^ 31) : (nI m).toInt64 = lN m := nI_l hm
theorem power_loop (d : Nat) (h : PH) (m e : Nat) (he : e ≤ 100) (v4 : Value) (Q : Option Value → PH → Prop) :
    ∀ (j k : Nat), k + j = e → WP d 426 1 [.long (lN m), .retAddr 0, .int (nI e), .long (lN (m ^ k)), .retAddr 0, .int (nI k)] [] h Q = Q (some (.long (lN (m ^ e)))) h
  | 0, k, hk => by
    obtain rfl : k = e := by omega
    rw [w_426_1]
    simp -implicitDefEqProofs (disch := first | omega | (simp (disch := omega) only [nb_upr]; omega)) only [w_426_2, zi_257, zi_246i, zi_246r, zi_246u, zi_246a, zi_31, zi_164i, zi_164r, zi_164u, zi_164a, zi_33, zi_165, zi_34, zi_35, zi_248, zi_258, zi_245, zi_168i, zi_168r, zi_168u, zi_168a, zi_40, zi_252, kC_eq, toL_s, toL_n, okS0, okS1, okS2, okS3, okS4, okS5, true_and, and_true, hT_wI, hL_wI, hR_wI, hI_wI, hJ_wI, sI_wI, rfP, isIA_100, isIA_120, inb_ok, nI_clamp, nI_add, nI_mul, ↓reduceIte, not_false_eq_true, not_true_eq_false, true_or, or_true, ↓bI_01, ↓b01_0, ↓b01_1, bI_0, z00, z10, n4, n5, n2, n8, Nat.reduceMul, Nat.reduceAdd, Nat.reduceLT, Nat.reduceLeDiff, nI_eq, nI_leI, nI_ltI, Nat.reduceEqDiff, pk_div, nI_sub, Nat.reduceDiv, Nat.reduceSub, Nat.le_refl]
  | j + 1, k, hk => by
    have g : ¬ e ≤ k := by omega
    have ih := power_loop d h m e he v4 Q j (k + 1) (by omega)
    rw [Nat.pow_succ] at ih
    rw [w_426_1]
    simp -implicitDefEqProofs (disch := first | omega | (simp (disch := omega) only [nb_upr]; omega)) only [zi_257, zi_246i, zi_246r, zi_246u, zi_246a, zi_31, zi_164i, zi_164r, zi_164u, zi_164a, zi_33, zi_165, zi_34, zi_35, zi_248, zi_258, zi_245, zi_168i, zi_168r, zi_168u, zi_168a, zi_40, zi_252, kC_eq, toL_s, toL_n, okS0, okS1, okS2, okS3, okS4, okS5, true_and, and_true, hT_wI, hL_wI, hR_wI, hI_wI, hJ_wI, sI_wI, rfP, isIA_100, isIA_120, inb_ok, nI_clamp, nI_add, nI_mul, ↓reduceIte, not_false_eq_true, not_true_eq_false, true_or, or_true, ↓bI_01, ↓b01_0, ↓b01_1, bI_0, z00, z10, n4, n5, n2, n8, Nat.reduceMul, Nat.reduceAdd, Nat.reduceLT, Nat.reduceLeDiff, nI_eq, nI_leI, nI_ltI, Nat.reduceEqDiff, pk_div, nI_sub, Nat.reduceDiv, Nat.reduceSub, g, lN_mul]
    exact ih
theorem e_power (d : Nat) (h : PH) (m e : Nat) (he : e ≤ 100) (Q : Option Value → PH → Prop) : Run d 426 [.long (lN m), .int (nI e)] h Q = Q (some (.long (lN (m ^ e)))) h := by
  simp -implicitDefEqProofs (disch := first | omega | (simp (disch := omega) only [nb_upr]; omega)) only [R_426, w_426_0, zi_257, zi_246i, zi_246r, zi_246u, zi_246a, zi_31, zi_164i, zi_164r, zi_164u, zi_164a, zi_33, zi_165, zi_34, zi_35, zi_248, zi_258, zi_245, zi_168i, zi_168r, zi_168u, zi_168a, zi_40, zi_252, kC_eq, toL_s, toL_n, okS0, okS1, okS2, okS3, okS4, okS5, true_and, and_true, hT_wI, hL_wI, hR_wI, hI_wI, hJ_wI, sI_wI, rfP, isIA_100, isIA_120, inb_ok, nI_clamp, nI_add, nI_mul, ↓reduceIte, not_false_eq_true, not_true_eq_false, true_or, or_true, ↓bI_01, ↓b01_0, ↓b01_1, bI_0, z00, z10, n4, n5, n2, n8, Nat.reduceMul, Nat.reduceAdd, Nat.reduceLT, Nat.reduceLeDiff]
  exact power_loop d h m e he (.retAddr 0) Q e 0 (by omega)
theorem powerOf_loop (d : Nat) (h : PH) (m e : Nat) (hm : m < 2 ^ 31) (he : e ≤ 100) (Q : Option Value → PH → Prop) :
    ∀ (j k : Nat), k + j = e → WP d 1266 1 [.int (nI m), .int (nI e), .long (lN (m ^ k)), .retAddr 0, .int (nI k)] [] h Q = Q (some (.long (lN (m ^ e)))) h
  | 0, k, hk => by
    obtain rfl : k = e := by omega
    rw [w_1266_1]
    simp -implicitDefEqProofs (disch := first | omega | (simp (disch := omega) only [nb_upr]; omega)) only [w_1266_2, zi_257, zi_531i, zi_531r, zi_531u, zi_531a, zi_31, zi_74i, zi_74r, zi_74u, zi_74a, zi_33, zi_76, zi_88, zi_35, zi_259, zi_87, zi_232, zi_245, zi_85i, zi_85r, zi_85u, zi_85a, zi_40, zi_252, kC_eq, toL_s, toL_n, okS0, okS1, okS2, okS3, okS4, okS5, true_and, and_true, hT_wI, hL_wI, hR_wI, hI_wI, hJ_wI, sI_wI, rfP, isIA_100, isIA_120, inb_ok, nI_clamp, nI_add, nI_mul, ↓reduceIte, not_false_eq_true, not_true_eq_false, true_or, or_true, ↓bI_01, ↓b01_0, ↓b01_1, bI_0, z00, z10, n4, n5, n2, n8, Nat.reduceMul, Nat.reduceAdd, Nat.reduceLT, Nat.reduceLeDiff, nI_eq, nI_leI, nI_ltI, Nat.reduceEqDiff, pk_div, nI_sub, Nat.reduceDiv, Nat.reduceSub, Nat.le_refl]
  | j + 1, k, hk => by
    have g : ¬ e ≤ k := by omega
    have ih := powerOf_loop d h m e hm he Q j (k + 1) (by omega)
    rw [Nat.pow_succ] at ih
    rw [w_1266_1]
    simp -implicitDefEqProofs (disch := first | omega | (simp (disch := omega) only [nb_upr]; omega)) only [zi_257, zi_531i, zi_531r, zi_531u, zi_531a, zi_31, zi_74i, zi_74r, zi_74u, zi_74a, zi_33, zi_76, zi_88, zi_35, zi_259, zi_87, zi_232, zi_245, zi_85i, zi_85r, zi_85u, zi_85a, zi_40, zi_252, kC_eq, toL_s, toL_n, okS0, okS1, okS2, okS3, okS4, okS5, true_and, and_true, hT_wI, hL_wI, hR_wI, hI_wI, hJ_wI, sI_wI, rfP, isIA_100, isIA_120, inb_ok, nI_clamp, nI_add, nI_mul, ↓reduceIte, not_false_eq_true, not_true_eq_false, true_or, or_true, ↓bI_01, ↓b01_0, ↓b01_1, bI_0, z00, z10, n4, n5, n2, n8, Nat.reduceMul, Nat.reduceAdd, Nat.reduceLT, Nat.reduceLeDiff, nI_eq, nI_leI, nI_ltI, Nat.reduceEqDiff, pk_div, nI_sub, Nat.reduceDiv, Nat.reduceSub, g, i2lN, lN_mul]
    exact ih
theorem e_powerOf (d : Nat) (h : PH) (m e : Nat) (hm : m < 2 ^ 31) (he : e ≤ 100) (Q : Option Value → PH → Prop) : Run d 1266 [.int (nI m), .int (nI e)] h Q = Q (some (.long (lN (m ^ e)))) h := by
  simp -implicitDefEqProofs (disch := first | omega | (simp (disch := omega) only [nb_upr]; omega)) only [R_1266, w_1266_0, zi_257, zi_531i, zi_531r, zi_531u, zi_531a, zi_31, zi_74i, zi_74r, zi_74u, zi_74a, zi_33, zi_76, zi_88, zi_35, zi_259, zi_87, zi_232, zi_245, zi_85i, zi_85r, zi_85u, zi_85a, zi_40, zi_252, kC_eq, toL_s, toL_n, okS0, okS1, okS2, okS3, okS4, okS5, true_and, and_true, hT_wI, hL_wI, hR_wI, hI_wI, hJ_wI, sI_wI, rfP, isIA_100, isIA_120, inb_ok, nI_clamp, nI_add, nI_mul, ↓reduceIte, not_false_eq_true, not_true_eq_false, true_or, or_true, ↓bI_01, ↓b01_0, ↓b01_1, bI_0, z00, z10, n4, n5, n2, n8, Nat.reduceMul, Nat.reduceAdd, Nat.reduceLT, Nat.reduceLeDiff]
  exact powerOf_loop d h m e hm he Q e 0 (by omega)
/-- a part of the fraction A by B -/
def frac (A B p : Nat) : Nat := if p = 0 then A / Nat.gcd A B else B / Nat.gcd A B
theorem mod_half {y c : Nat} (hc : 0 < c) (hy : c ≤ y) : 2 * (y % c) < y := by
  have h1 := Nat.mod_lt y hc
  have h2 := Nat.div_add_mod y c
  have h3 : 1 ≤ y / c := (Nat.le_div_iff_mul_le hc).mpr (by omega)
  have h4 : c * 1 ≤ c * (y / c) := Nat.mul_le_mul_left c h3
  omega
theorem part_loop (d : Nat) (h : PH) (A B : Int64) (p : Int32) (Q : Option Value → PH → Prop) :
    ∀ (k x y i : Nat) (v10 v11 : Value), y < 2 ^ k → x < 2 ^ 63 → y < 2 ^ 63 → i + 2 * k ≤ 199 → ∃ v9 v10' v11' : Value, ∃ i', v9 = .int i' ∧ WP d 435 1 [.long A, .retAddr 0, .long B, .retAddr 0, .int p, .long (lN x), .retAddr 0, .long (lN y), .retAddr 0, .int (nI i), v10, v11] [] h Q = WP d 435 2 [.long A, .retAddr 0, .long B, .retAddr 0, .int p, .long (lN (Nat.gcd y x)), .retAddr 0, .long (lN 0), .retAddr 0, v9, v10', v11'] [] h Q
  | 0, x, y, i, v10, v11, hy, hx, hy6, hi => by
    obtain rfl : y = 0 := by simpa using hy
    refine ⟨_, v10, v11, nI i, rfl, ?_⟩
    have g : ¬ 200 ≤ i := by omega
    rw [w_435_1]
    simp -implicitDefEqProofs (disch := first | omega | (simp (disch := omega) only [nb_upr]; omega)) only [zi_259, zi_247i, zi_247r, zi_247u, zi_247a, zi_258, zi_260i, zi_260r, zi_260u, zi_260a, zi_31, zi_261i, zi_261r, zi_261u, zi_261a, zi_33, zi_262, zi_71, zi_35, zi_263, zi_264, zi_234, zi_108, zi_249, zi_265, zi_266i, zi_266r, zi_266u, zi_266a, zi_267, zi_268i, zi_268r, zi_268u, zi_268a, zi_40, zi_76, zi_269, zi_131, zi_133, zi_270i, zi_270r, zi_270u, zi_270a, zi_235, zi_271, zi_236, zi_272, zi_237, zi_252, kC_eq, toL_s, toL_n, okS0, okS1, okS2, okS3, okS4, okS5, true_and, and_true, hT_wI, hL_wI, hR_wI, hI_wI, hJ_wI, sI_wI, rfP, isIA_100, isIA_120, inb_ok, nI_clamp, nI_add, nI_mul, ↓reduceIte, not_false_eq_true, not_true_eq_false, true_or, or_true, ↓bI_01, ↓b01_0, ↓b01_1, bI_0, z00, z10, n4, n5, n2, n8, Nat.reduceMul, Nat.reduceAdd, Nat.reduceLT, Nat.reduceLeDiff, nI_eq, nI_leI, nI_ltI, Nat.reduceEqDiff, pk_div, nI_sub, Nat.reduceDiv, Nat.reduceSub, g, lNz, Nat.gcd_zero_left]
  | k + 1, x, y, i, v10, v11, hy, hx, hy6, hi => by
    have g : ¬ 200 ≤ i := by omega
    by_cases h0 : y = 0
    · subst h0
      refine ⟨_, v10, v11, nI i, rfl, ?_⟩
      rw [w_435_1]
      simp -implicitDefEqProofs (disch := first | omega | (simp (disch := omega) only [nb_upr]; omega)) only [zi_259, zi_247i, zi_247r, zi_247u, zi_247a, zi_258, zi_260i, zi_260r, zi_260u, zi_260a, zi_31, zi_261i, zi_261r, zi_261u, zi_261a, zi_33, zi_262, zi_71, zi_35, zi_263, zi_264, zi_234, zi_108, zi_249, zi_265, zi_266i, zi_266r, zi_266u, zi_266a, zi_267, zi_268i, zi_268r, zi_268u, zi_268a, zi_40, zi_76, zi_269, zi_131, zi_133, zi_270i, zi_270r, zi_270u, zi_270a, zi_235, zi_271, zi_236, zi_272, zi_237, zi_252, kC_eq, toL_s, toL_n, okS0, okS1, okS2, okS3, okS4, okS5, true_and, and_true, hT_wI, hL_wI, hR_wI, hI_wI, hJ_wI, sI_wI, rfP, isIA_100, isIA_120, inb_ok, nI_clamp, nI_add, nI_mul, ↓reduceIte, not_false_eq_true, not_true_eq_false, true_or, or_true, ↓bI_01, ↓b01_0, ↓b01_1, bI_0, z00, z10, n4, n5, n2, n8, Nat.reduceMul, Nat.reduceAdd, Nat.reduceLT, Nat.reduceLeDiff, nI_eq, nI_leI, nI_ltI, Nat.reduceEqDiff, pk_div, nI_sub, Nat.reduceDiv, Nat.reduceSub, g, lNz, Nat.gcd_zero_left]
    · have m1 := Nat.mod_lt x (show 0 < y by omega)
      have g2 : ¬ 200 ≤ i + 1 := by omega
      by_cases h1 : x % y = 0
      · refine ⟨_, .long (lN 0), .retAddr 0, nI (i + 1), rfl, ?_⟩
        have eg : Nat.gcd y x = y := by rw [Nat.gcd_rec, h1, Nat.gcd_zero_left]
        rw [eg, w_435_1]
        simp -implicitDefEqProofs (disch := first | omega | (simp (disch := omega) only [nb_upr]; omega)) only [zi_259, zi_247i, zi_247r, zi_247u, zi_247a, zi_258, zi_260i, zi_260r, zi_260u, zi_260a, zi_31, zi_261i, zi_261r, zi_261u, zi_261a, zi_33, zi_262, zi_71, zi_35, zi_263, zi_264, zi_234, zi_108, zi_249, zi_265, zi_266i, zi_266r, zi_266u, zi_266a, zi_267, zi_268i, zi_268r, zi_268u, zi_268a, zi_40, zi_76, zi_269, zi_131, zi_133, zi_270i, zi_270r, zi_270u, zi_270a, zi_235, zi_271, zi_236, zi_272, zi_237, zi_252, kC_eq, toL_s, toL_n, okS0, okS1, okS2, okS3, okS4, okS5, true_and, and_true, hT_wI, hL_wI, hR_wI, hI_wI, hJ_wI, sI_wI, rfP, isIA_100, isIA_120, inb_ok, nI_clamp, nI_add, nI_mul, ↓reduceIte, not_false_eq_true, not_true_eq_false, true_or, or_true, ↓bI_01, ↓b01_0, ↓b01_1, bI_0, z00, z10, n4, n5, n2, n8, Nat.reduceMul, Nat.reduceAdd, Nat.reduceLT, Nat.reduceLeDiff, nI_eq, nI_leI, nI_ltI, Nat.reduceEqDiff, pk_div, nI_sub, Nat.reduceDiv, Nat.reduceSub, g, lNz, h0, lNe, lNn, lNm, h1]
        rw [w_435_1]
        simp -implicitDefEqProofs (disch := first | omega | (simp (disch := omega) only [nb_upr]; omega)) only [zi_259, zi_247i, zi_247r, zi_247u, zi_247a, zi_258, zi_260i, zi_260r, zi_260u, zi_260a, zi_31, zi_261i, zi_261r, zi_261u, zi_261a, zi_33, zi_262, zi_71, zi_35, zi_263, zi_264, zi_234, zi_108, zi_249, zi_265, zi_266i, zi_266r, zi_266u, zi_266a, zi_267, zi_268i, zi_268r, zi_268u, zi_268a, zi_40, zi_76, zi_269, zi_131, zi_133, zi_270i, zi_270r, zi_270u, zi_270a, zi_235, zi_271, zi_236, zi_272, zi_237, zi_252, kC_eq, toL_s, toL_n, okS0, okS1, okS2, okS3, okS4, okS5, true_and, and_true, hT_wI, hL_wI, hR_wI, hI_wI, hJ_wI, sI_wI, rfP, isIA_100, isIA_120, inb_ok, nI_clamp, nI_add, nI_mul, ↓reduceIte, not_false_eq_true, not_true_eq_false, true_or, or_true, ↓bI_01, ↓b01_0, ↓b01_1, bI_0, z00, z10, n4, n5, n2, n8, Nat.reduceMul, Nat.reduceAdd, Nat.reduceLT, Nat.reduceLeDiff, nI_eq, nI_leI, nI_ltI, Nat.reduceEqDiff, pk_div, nI_sub, Nat.reduceDiv, Nat.reduceSub, g2, lNz, h0, lNe, lNn, lNm]
      · have m2 := Nat.mod_lt y (show 0 < x % y by omega)
        have m3 := mod_half (show 0 < x % y by omega) (show x % y ≤ y by omega)
        have hk : y % (x % y) < 2 ^ k := by rw [Nat.pow_succ] at hy; omega
        obtain ⟨w9, w10, w11, i', e9, ih⟩ := part_loop d h A B p Q k (x % y) (y % (x % y)) (i + 2) (.long (lN (y % (x % y)))) (.retAddr 0) hk (by omega) (by omega) (by omega)
        refine ⟨w9, w10, w11, i', e9, ?_⟩
        have eg : Nat.gcd y x = Nat.gcd (y % (x % y)) (x % y) := by rw [Nat.gcd_rec y x, Nat.gcd_rec (x % y) y]
        rw [eg, ← ih, w_435_1]
        simp -implicitDefEqProofs (disch := first | omega | (simp (disch := omega) only [nb_upr]; omega)) only [zi_259, zi_247i, zi_247r, zi_247u, zi_247a, zi_258, zi_260i, zi_260r, zi_260u, zi_260a, zi_31, zi_261i, zi_261r, zi_261u, zi_261a, zi_33, zi_262, zi_71, zi_35, zi_263, zi_264, zi_234, zi_108, zi_249, zi_265, zi_266i, zi_266r, zi_266u, zi_266a, zi_267, zi_268i, zi_268r, zi_268u, zi_268a, zi_40, zi_76, zi_269, zi_131, zi_133, zi_270i, zi_270r, zi_270u, zi_270a, zi_235, zi_271, zi_236, zi_272, zi_237, zi_252, kC_eq, toL_s, toL_n, okS0, okS1, okS2, okS3, okS4, okS5, true_and, and_true, hT_wI, hL_wI, hR_wI, hI_wI, hJ_wI, sI_wI, rfP, isIA_100, isIA_120, inb_ok, nI_clamp, nI_add, nI_mul, ↓reduceIte, not_false_eq_true, not_true_eq_false, true_or, or_true, ↓bI_01, ↓b01_0, ↓b01_1, bI_0, z00, z10, n4, n5, n2, n8, Nat.reduceMul, Nat.reduceAdd, Nat.reduceLT, Nat.reduceLeDiff, nI_eq, nI_leI, nI_ltI, Nat.reduceEqDiff, pk_div, nI_sub, Nat.reduceDiv, Nat.reduceSub, g, lNz, h0, lNe, lNn, lNm]
        rw [w_435_1]
        simp -implicitDefEqProofs (disch := first | omega | (simp (disch := omega) only [nb_upr]; omega)) only [zi_259, zi_247i, zi_247r, zi_247u, zi_247a, zi_258, zi_260i, zi_260r, zi_260u, zi_260a, zi_31, zi_261i, zi_261r, zi_261u, zi_261a, zi_33, zi_262, zi_71, zi_35, zi_263, zi_264, zi_234, zi_108, zi_249, zi_265, zi_266i, zi_266r, zi_266u, zi_266a, zi_267, zi_268i, zi_268r, zi_268u, zi_268a, zi_40, zi_76, zi_269, zi_131, zi_133, zi_270i, zi_270r, zi_270u, zi_270a, zi_235, zi_271, zi_236, zi_272, zi_237, zi_252, kC_eq, toL_s, toL_n, okS0, okS1, okS2, okS3, okS4, okS5, true_and, and_true, hT_wI, hL_wI, hR_wI, hI_wI, hJ_wI, sI_wI, rfP, isIA_100, isIA_120, inb_ok, nI_clamp, nI_add, nI_mul, ↓reduceIte, not_false_eq_true, not_true_eq_false, true_or, or_true, ↓bI_01, ↓b01_0, ↓b01_1, bI_0, z00, z10, n4, n5, n2, n8, Nat.reduceMul, Nat.reduceAdd, Nat.reduceLT, Nat.reduceLeDiff, nI_eq, nI_leI, nI_ltI, Nat.reduceEqDiff, pk_div, nI_sub, Nat.reduceDiv, Nat.reduceSub, g2, lNz, h1, lNe, lNn, lNm]
theorem e_partOf (d : Nat) (h : PH) (A B p : Nat) (hA : A < 2 ^ 63) (hB : B < 2 ^ 63) (h0 : 0 < B) (hp : p ≤ 1) (Q : Option Value → PH → Prop) : Run d 435 [.long (lN A), .long (lN B), .int (nI p)] h Q = Q (some (.long (lN (frac A B p)))) h := by
  obtain ⟨w9, w10, w11, i', rfl, e⟩ := part_loop d h (lN A) (lN B) (nI p) Q 63 B A 0 (.retAddr 0) (.retAddr 0) (by omega) (by omega) (by omega) (by omega)
  simp -implicitDefEqProofs (disch := first | omega | (simp (disch := omega) only [nb_upr]; omega)) only [R_435, w_435_0, zi_259, zi_247i, zi_247r, zi_247u, zi_247a, zi_258, zi_260i, zi_260r, zi_260u, zi_260a, zi_31, zi_261i, zi_261r, zi_261u, zi_261a, zi_33, zi_262, zi_71, zi_35, zi_263, zi_264, zi_234, zi_108, zi_249, zi_265, zi_266i, zi_266r, zi_266u, zi_266a, zi_267, zi_268i, zi_268r, zi_268u, zi_268a, zi_40, zi_76, zi_269, zi_131, zi_133, zi_270i, zi_270r, zi_270u, zi_270a, zi_235, zi_271, zi_236, zi_272, zi_237, zi_252, kC_eq, toL_s, toL_n, okS0, okS1, okS2, okS3, okS4, okS5, true_and, and_true, hT_wI, hL_wI, hR_wI, hI_wI, hJ_wI, sI_wI, rfP, isIA_100, isIA_120, inb_ok, nI_clamp, nI_add, nI_mul, ↓reduceIte, not_false_eq_true, not_true_eq_false, true_or, or_true, ↓bI_01, ↓b01_0, ↓b01_1, bI_0, z00, z10, n4, n5, n2, n8, Nat.reduceMul, Nat.reduceAdd, Nat.reduceLT, Nat.reduceLeDiff]
  rw [e]
  have hg : 0 < Nat.gcd A B := Nat.gcd_pos_of_pos_right A h0
  have hl : Nat.gcd A B ≤ B := Nat.gcd_le_right A h0
  have hgn : ¬ Nat.gcd A B = 0 := by omega
  have cases : p = 0 ∨ p = 1 := by omega
  unfold frac
  rcases cases with rfl | rfl
  · simp -implicitDefEqProofs (disch := first | omega | (simp (disch := omega) only [nb_upr]; omega)) only [w_435_2, w_435_3, w_435_4, w_435_5, w_435_6, zi_259, zi_247i, zi_247r, zi_247u, zi_247a, zi_258, zi_260i, zi_260r, zi_260u, zi_260a, zi_31, zi_261i, zi_261r, zi_261u, zi_261a, zi_33, zi_262, zi_71, zi_35, zi_263, zi_264, zi_234, zi_108, zi_249, zi_265, zi_266i, zi_266r, zi_266u, zi_266a, zi_267, zi_268i, zi_268r, zi_268u, zi_268a, zi_40, zi_76, zi_269, zi_131, zi_133, zi_270i, zi_270r, zi_270u, zi_270a, zi_235, zi_271, zi_236, zi_272, zi_237, zi_252, kC_eq, toL_s, toL_n, okS0, okS1, okS2, okS3, okS4, okS5, true_and, and_true, hT_wI, hL_wI, hR_wI, hI_wI, hJ_wI, sI_wI, rfP, isIA_100, isIA_120, inb_ok, nI_clamp, nI_add, nI_mul, ↓reduceIte, not_false_eq_true, not_true_eq_false, true_or, or_true, ↓bI_01, ↓b01_0, ↓b01_1, bI_0, z00, z10, n4, n5, n2, n8, Nat.reduceMul, Nat.reduceAdd, Nat.reduceLT, Nat.reduceLeDiff, nI_eq, nI_leI, nI_ltI, Nat.reduceEqDiff, pk_div, nI_sub, Nat.reduceDiv, Nat.reduceSub, lNz, hgn, lNe, lNn, lNd]
  · have z : ¬ (1 : Nat) = 0 := by decide
    simp -implicitDefEqProofs (disch := first | omega | (simp (disch := omega) only [nb_upr]; omega)) only [w_435_2, w_435_3, w_435_4, w_435_5, w_435_6, zi_259, zi_247i, zi_247r, zi_247u, zi_247a, zi_258, zi_260i, zi_260r, zi_260u, zi_260a, zi_31, zi_261i, zi_261r, zi_261u, zi_261a, zi_33, zi_262, zi_71, zi_35, zi_263, zi_264, zi_234, zi_108, zi_249, zi_265, zi_266i, zi_266r, zi_266u, zi_266a, zi_267, zi_268i, zi_268r, zi_268u, zi_268a, zi_40, zi_76, zi_269, zi_131, zi_133, zi_270i, zi_270r, zi_270u, zi_270a, zi_235, zi_271, zi_236, zi_272, zi_237, zi_252, kC_eq, toL_s, toL_n, okS0, okS1, okS2, okS3, okS4, okS5, true_and, and_true, hT_wI, hL_wI, hR_wI, hI_wI, hJ_wI, sI_wI, rfP, isIA_100, isIA_120, inb_ok, nI_clamp, nI_add, nI_mul, ↓reduceIte, not_false_eq_true, not_true_eq_false, true_or, or_true, ↓bI_01, ↓b01_0, ↓b01_1, bI_0, z00, z10, n4, n5, n2, n8, Nat.reduceMul, Nat.reduceAdd, Nat.reduceLT, Nat.reduceLeDiff, nI_eq, nI_leI, nI_ltI, Nat.reduceEqDiff, pk_div, nI_sub, Nat.reduceDiv, Nat.reduceSub, lNz, hgn, lNe, lNn, lNd, z]
theorem lowest_loop (d : Nat) (h : PH) (A B : Int64) (p : Int32) (Q : Option Value → PH → Prop) :
    ∀ (y : Nat), ∀ (x : Nat) (v9 v10 : Value), x < 2 ^ 63 → y < 2 ^ 63 → ∃ v9' v10' : Value, WP d 1275 1 [.long A, .retAddr 0, .long B, .retAddr 0, .int p, .long (lN x), .retAddr 0, .long (lN y), .retAddr 0, v9, v10] [] h Q = WP d 1275 2 [.long A, .retAddr 0, .long B, .retAddr 0, .int p, .long (lN (Nat.gcd y x)), .retAddr 0, .long (lN 0), .retAddr 0, v9', v10'] [] h Q := by
  intro y
  induction y using Nat.strongRecOn with
  | _ y ih =>
    intro x v9 v10 hx hy
    by_cases h0 : y = 0
    · subst h0
      refine ⟨v9, v10, ?_⟩
      rw [w_1275_1]
      simp -implicitDefEqProofs (disch := first | omega | (simp (disch := omega) only [nb_upr]; omega)) only [zi_259, zi_247i, zi_247r, zi_247u, zi_247a, zi_258, zi_260i, zi_260r, zi_260u, zi_260a, zi_33, zi_263, zi_264, zi_234, zi_108, zi_249, zi_265, zi_270i, zi_270r, zi_270u, zi_270a, zi_271, zi_40, zi_76, zi_269, zi_272, zi_131, zi_133, zi_252, kC_eq, toL_s, toL_n, okS0, okS1, okS2, okS3, okS4, okS5, true_and, and_true, hT_wI, hL_wI, hR_wI, hI_wI, hJ_wI, sI_wI, rfP, isIA_100, isIA_120, inb_ok, nI_clamp, nI_add, nI_mul, ↓reduceIte, not_false_eq_true, not_true_eq_false, true_or, or_true, ↓bI_01, ↓b01_0, ↓b01_1, bI_0, z00, z10, n4, n5, n2, n8, Nat.reduceMul, Nat.reduceAdd, Nat.reduceLT, Nat.reduceLeDiff, nI_eq, nI_leI, nI_ltI, Nat.reduceEqDiff, pk_div, nI_sub, Nat.reduceDiv, Nat.reduceSub, lNz, Nat.gcd_zero_left]
    · have m1 := Nat.mod_lt x (show 0 < y by omega)
      obtain ⟨a9, a10, e⟩ := ih (x % y) m1 y (.long (lN (x % y))) (.retAddr 0) hy (by omega)
      refine ⟨a9, a10, ?_⟩
      rw [Nat.gcd_rec y x, ← e, w_1275_1]
      simp -implicitDefEqProofs (disch := first | omega | (simp (disch := omega) only [nb_upr]; omega)) only [zi_259, zi_247i, zi_247r, zi_247u, zi_247a, zi_258, zi_260i, zi_260r, zi_260u, zi_260a, zi_33, zi_263, zi_264, zi_234, zi_108, zi_249, zi_265, zi_270i, zi_270r, zi_270u, zi_270a, zi_271, zi_40, zi_76, zi_269, zi_272, zi_131, zi_133, zi_252, kC_eq, toL_s, toL_n, okS0, okS1, okS2, okS3, okS4, okS5, true_and, and_true, hT_wI, hL_wI, hR_wI, hI_wI, hJ_wI, sI_wI, rfP, isIA_100, isIA_120, inb_ok, nI_clamp, nI_add, nI_mul, ↓reduceIte, not_false_eq_true, not_true_eq_false, true_or, or_true, ↓bI_01, ↓b01_0, ↓b01_1, bI_0, z00, z10, n4, n5, n2, n8, Nat.reduceMul, Nat.reduceAdd, Nat.reduceLT, Nat.reduceLeDiff, nI_eq, nI_leI, nI_ltI, Nat.reduceEqDiff, pk_div, nI_sub, Nat.reduceDiv, Nat.reduceSub, lNz, h0, lNe, lNn, lNm]
theorem e_lowest (d : Nat) (h : PH) (A B p : Nat) (hA : A < 2 ^ 63) (hB : B < 2 ^ 63) (h0 : 0 < B) (hp : p ≤ 1) (Q : Option Value → PH → Prop) : Run d 1275 [.long (lN A), .long (lN B), .int (nI p)] h Q = Q (some (.long (lN (frac A B p)))) h := by
  obtain ⟨w9, w10, e⟩ := lowest_loop d h (lN A) (lN B) (nI p) Q A B (.retAddr 0) (.retAddr 0) hB hA
  simp -implicitDefEqProofs (disch := first | omega | (simp (disch := omega) only [nb_upr]; omega)) only [R_1275, w_1275_0, zi_259, zi_247i, zi_247r, zi_247u, zi_247a, zi_258, zi_260i, zi_260r, zi_260u, zi_260a, zi_33, zi_263, zi_264, zi_234, zi_108, zi_249, zi_265, zi_270i, zi_270r, zi_270u, zi_270a, zi_271, zi_40, zi_76, zi_269, zi_272, zi_131, zi_133, zi_252, kC_eq, toL_s, toL_n, okS0, okS1, okS2, okS3, okS4, okS5, true_and, and_true, hT_wI, hL_wI, hR_wI, hI_wI, hJ_wI, sI_wI, rfP, isIA_100, isIA_120, inb_ok, nI_clamp, nI_add, nI_mul, ↓reduceIte, not_false_eq_true, not_true_eq_false, true_or, or_true, ↓bI_01, ↓b01_0, ↓b01_1, bI_0, z00, z10, n4, n5, n2, n8, Nat.reduceMul, Nat.reduceAdd, Nat.reduceLT, Nat.reduceLeDiff]
  rw [e]
  have hg : 0 < Nat.gcd A B := Nat.gcd_pos_of_pos_right A h0
  have hl : Nat.gcd A B ≤ B := Nat.gcd_le_right A h0
  have hgn : ¬ Nat.gcd A B = 0 := by omega
  have cases : p = 0 ∨ p = 1 := by omega
  unfold frac
  rcases cases with rfl | rfl
  · simp -implicitDefEqProofs (disch := first | omega | (simp (disch := omega) only [nb_upr]; omega)) only [w_1275_2, w_1275_3, w_1275_4, zi_259, zi_247i, zi_247r, zi_247u, zi_247a, zi_258, zi_260i, zi_260r, zi_260u, zi_260a, zi_33, zi_263, zi_264, zi_234, zi_108, zi_249, zi_265, zi_270i, zi_270r, zi_270u, zi_270a, zi_271, zi_40, zi_76, zi_269, zi_272, zi_131, zi_133, zi_252, kC_eq, toL_s, toL_n, okS0, okS1, okS2, okS3, okS4, okS5, true_and, and_true, hT_wI, hL_wI, hR_wI, hI_wI, hJ_wI, sI_wI, rfP, isIA_100, isIA_120, inb_ok, nI_clamp, nI_add, nI_mul, ↓reduceIte, not_false_eq_true, not_true_eq_false, true_or, or_true, ↓bI_01, ↓b01_0, ↓b01_1, bI_0, z00, z10, n4, n5, n2, n8, Nat.reduceMul, Nat.reduceAdd, Nat.reduceLT, Nat.reduceLeDiff, nI_eq, nI_leI, nI_ltI, Nat.reduceEqDiff, pk_div, nI_sub, Nat.reduceDiv, Nat.reduceSub, lNe, lNn, lNd, hgn]
  · have z : ¬ (1 : Nat) = 0 := by decide
    simp -implicitDefEqProofs (disch := first | omega | (simp (disch := omega) only [nb_upr]; omega)) only [w_1275_2, w_1275_3, w_1275_4, zi_259, zi_247i, zi_247r, zi_247u, zi_247a, zi_258, zi_260i, zi_260r, zi_260u, zi_260a, zi_33, zi_263, zi_264, zi_234, zi_108, zi_249, zi_265, zi_270i, zi_270r, zi_270u, zi_270a, zi_271, zi_40, zi_76, zi_269, zi_272, zi_131, zi_133, zi_252, kC_eq, toL_s, toL_n, okS0, okS1, okS2, okS3, okS4, okS5, true_and, and_true, hT_wI, hL_wI, hR_wI, hI_wI, hJ_wI, sI_wI, rfP, isIA_100, isIA_120, inb_ok, nI_clamp, nI_add, nI_mul, ↓reduceIte, not_false_eq_true, not_true_eq_false, true_or, or_true, ↓bI_01, ↓b01_0, ↓b01_1, bI_0, z00, z10, n4, n5, n2, n8, Nat.reduceMul, Nat.reduceAdd, Nat.reduceLT, Nat.reduceLeDiff, nI_eq, nI_leI, nI_ltI, Nat.reduceEqDiff, pk_div, nI_sub, Nat.reduceDiv, Nat.reduceSub, lNe, lNn, lNd, hgn, z]
theorem pow100 : ∀ e, e ≤ 8 → 100 ^ e < 2 ^ 60 ∧ 0 < 100 ^ e := by decide +kernel
theorem p_odds (F : FR h) (hn : hR h 100 0 = some b) (w : WB h b) (V : Vr n r) (s v : Int32) : Pair h b n r 418 1258 [.int s, .int v] := by
  have V' := V.mono (show n ≤ n + 6 by omega)
  by_cases hs : s < nI 0 ∨ nI 8 < s
  · exact ⟨.long (Int64.ofInt (-1)), r, V', fun f T => ⟨f, ScC.refl f, fun Q => by simp -implicitDefEqProofs (disch := first | omega | (simp (disch := omega) only [nb_upr]; omega)) only [R_418, w_418_0, w_418_1, w_418_2, zi_88, zi_31, zi_64, zi_65, zi_98, zi_34, zi_48, zi_108, zi_33, zi_251, zi_252, zi_253, zi_254, zi_246i, zi_246r, zi_246u, zi_246a, zi_248, zi_0, zi_0n, zi_92, zi_109, zi_106, zi_232, zi_255, zi_256, F.t100, hn, w.t, w.r1, w.t1, w.l1, kC_eq, toL_s, toL_n, okS0, okS1, okS2, okS3, okS4, okS5, true_and, and_true, hT_wI, hL_wI, hR_wI, hI_wI, hJ_wI, sI_wI, rfP, isIA_100, isIA_120, inb_ok, nI_clamp, nI_add, nI_mul, ↓reduceIte, not_false_eq_true, not_true_eq_false, true_or, or_true, ↓bI_01, ↓b01_0, ↓b01_1, bI_0, z00, z10, n4, n5, n2, n8, Nat.reduceMul, Nat.reduceAdd, Nat.reduceLT, Nat.reduceLeDiff, e_outside, hs]⟩, fun f T => ⟨f, Sc.refl f, fun Q => by simp -implicitDefEqProofs (disch := first | omega | (simp (disch := omega) only [nb_upr]; omega)) only [R_1258, w_1258_0, w_1258_1, w_1258_2, zi_88, zi_31, zi_64, zi_362, zi_66, zi_34, zi_48, zi_452, zi_33, zi_251, zi_252, zi_276, zi_529, zi_246i, zi_246r, zi_246u, zi_246a, zi_248, zi_0, zi_0n, zi_357, zi_106, zi_255, zi_530, F.t233, F.t233, F.r233_0, F.t234, F.l234, kC_eq, toL_s, toL_n, okS0, okS1, okS2, okS3, okS4, okS5, true_and, and_true, hT_wI, hL_wI, hR_wI, hI_wI, hJ_wI, sI_wI, rfP, isIA_100, isIA_120, inb_ok, nI_clamp, nI_add, nI_mul, ↓reduceIte, not_false_eq_true, not_true_eq_false, true_or, or_true, ↓bI_01, ↓b01_0, ↓b01_1, bI_0, z00, z10, n4, n5, n2, n8, Nat.reduceMul, Nat.reduceAdd, Nat.reduceLT, Nat.reduceLeDiff, e_in, hs]⟩⟩
  by_cases hv : v < nI 0 ∨ nI 1 < v
  · exact ⟨.long (Int64.ofInt (-1)), r, V', fun f T => ⟨f, ScC.refl f, fun Q => by simp -implicitDefEqProofs (disch := first | omega | (simp (disch := omega) only [nb_upr]; omega)) only [R_418, w_418_0, w_418_1, w_418_2, zi_88, zi_31, zi_64, zi_65, zi_98, zi_34, zi_48, zi_108, zi_33, zi_251, zi_252, zi_253, zi_254, zi_246i, zi_246r, zi_246u, zi_246a, zi_248, zi_0, zi_0n, zi_92, zi_109, zi_106, zi_232, zi_255, zi_256, F.t100, hn, w.t, w.r1, w.t1, w.l1, kC_eq, toL_s, toL_n, okS0, okS1, okS2, okS3, okS4, okS5, true_and, and_true, hT_wI, hL_wI, hR_wI, hI_wI, hJ_wI, sI_wI, rfP, isIA_100, isIA_120, inb_ok, nI_clamp, nI_add, nI_mul, ↓reduceIte, not_false_eq_true, not_true_eq_false, true_or, or_true, ↓bI_01, ↓b01_0, ↓b01_1, bI_0, z00, z10, n4, n5, n2, n8, Nat.reduceMul, Nat.reduceAdd, Nat.reduceLT, Nat.reduceLeDiff, e_outside, hs, hv]⟩, fun f T => ⟨f, Sc.refl f, fun Q => by simp -implicitDefEqProofs (disch := first | omega | (simp (disch := omega) only [nb_upr]; omega)) only [R_1258, w_1258_0, w_1258_1, w_1258_2, zi_88, zi_31, zi_64, zi_362, zi_66, zi_34, zi_48, zi_452, zi_33, zi_251, zi_252, zi_276, zi_529, zi_246i, zi_246r, zi_246u, zi_246a, zi_248, zi_0, zi_0n, zi_357, zi_106, zi_255, zi_530, F.t233, F.t233, F.r233_0, F.t234, F.l234, kC_eq, toL_s, toL_n, okS0, okS1, okS2, okS3, okS4, okS5, true_and, and_true, hT_wI, hL_wI, hR_wI, hI_wI, hJ_wI, sI_wI, rfP, isIA_100, isIA_120, inb_ok, nI_clamp, nI_add, nI_mul, ↓reduceIte, not_false_eq_true, not_true_eq_false, true_or, or_true, ↓bI_01, ↓b01_0, ↓b01_1, bI_0, z00, z10, n4, n5, n2, n8, Nat.reduceMul, Nat.reduceAdd, Nat.reduceLT, Nat.reduceLeDiff, e_in, hs, hv]⟩⟩
  obtain ⟨k, -, hk, rfl⟩ := btw (by decide) (by decide) hs
  obtain ⟨p, -, hp, rfl⟩ := btw (by decide) (by decide) hv
  obtain ⟨m, hm, em⟩ := V.w
  obtain ⟨p1, p2⟩ := pow100 k hk
  have p3 : m ^ k ≤ 100 ^ k := Nat.pow_le_pow_left (by omega) k
  exact ⟨.long (lN (frac (100 ^ k - m ^ k) (100 ^ k) p)), r, V', fun f T => ⟨f, ScC.refl f, fun Q => by simp -implicitDefEqProofs (disch := first | omega | (simp (disch := omega) only [nb_upr]; omega)) only [R_418, w_418_0, w_418_1, w_418_2, zi_88, zi_31, zi_64, zi_65, zi_98, zi_34, zi_48, zi_108, zi_33, zi_251, zi_252, zi_253, zi_254, zi_246i, zi_246r, zi_246u, zi_246a, zi_248, zi_0, zi_0n, zi_92, zi_109, zi_106, zi_232, zi_255, zi_256, F.t100, hn, w.t, w.r1, w.t1, w.l1, kC_eq, toL_s, toL_n, okS0, okS1, okS2, okS3, okS4, okS5, true_and, and_true, hT_wI, hL_wI, hR_wI, hI_wI, hJ_wI, sI_wI, rfP, isIA_100, isIA_120, inb_ok, nI_clamp, nI_add, nI_mul, ↓reduceIte, not_false_eq_true, not_true_eq_false, true_or, or_true, ↓bI_01, ↓b01_0, ↓b01_1, bI_0, z00, z10, n4, n5, n2, n8, Nat.reduceMul, Nat.reduceAdd, Nat.reduceLT, Nat.reduceLeDiff, e_outside, hs, hv, e_power, ww_1, em, i2lN, lN_sub, e_partOf]⟩, fun f T => ⟨f, Sc.refl f, fun Q => by simp -implicitDefEqProofs (disch := first | omega | (simp (disch := omega) only [nb_upr]; omega)) only [R_1258, w_1258_0, w_1258_1, w_1258_2, zi_88, zi_31, zi_64, zi_362, zi_66, zi_34, zi_48, zi_452, zi_33, zi_251, zi_252, zi_276, zi_529, zi_246i, zi_246r, zi_246u, zi_246a, zi_248, zi_0, zi_0n, zi_357, zi_106, zi_255, zi_530, F.t233, F.t233, F.r233_0, F.t234, F.l234, kC_eq, toL_s, toL_n, okS0, okS1, okS2, okS3, okS4, okS5, true_and, and_true, hT_wI, hL_wI, hR_wI, hI_wI, hJ_wI, sI_wI, rfP, isIA_100, isIA_120, inb_ok, nI_clamp, nI_add, nI_mul, ↓reduceIte, not_false_eq_true, not_true_eq_false, true_or, or_true, ↓bI_01, ↓b01_0, ↓b01_1, bI_0, z00, z10, n4, n5, n2, n8, Nat.reduceMul, Nat.reduceAdd, Nat.reduceLT, Nat.reduceLeDiff, e_in, hs, hv, e_powerOf, mw_r, em, lN_sub, e_lowest]⟩⟩
end
