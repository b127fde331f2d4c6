section
/-! where a shoal is -/
variable {n : Nat} {h : PH} {r : Nat → Int32}
theorem lgz (x y : Int64) : (lg_cmp x y = 0) = (x = y) := propext (lg_cmp_eq x y)
def ft (r : Nat → Int32) (J : Nat → Int64) : Nat → Nat → Int32
  | 0, _ => nI 1
  | i + 1, p => if ft r J i p = 0 then nI 0 else if (bel r i (pq p)).toInt64 = J i then nI 1 else nI 0
def ftW (X : Nat → Nat → Int32) (c : Nat) (r : Nat → Int32) (J : Nat → Int64) (i m : Nat) : Nat → Nat → Int32 := fun a k => if a = c ∧ k < 40 then (if k < m then ft r J (i + 1) k else ft r J i k) else X a k
theorem ftW_ne {X : Nat → Nat → Int32} {c i m a k : Nat} {J : Nat → Int64} (ha : ¬ a = c) : ftW X c r J i m a k = X a k := if_neg (fun z => ha z.1)
theorem ftW_at {X : Nat → Nat → Int32} {c i m k : Nat} {J : Nat → Int64} (hk : k < 40) (hm : m ≤ k) : ftW X c r J i m c k = ft r J i k := by
  unfold ftW
  rw [if_pos ⟨rfl, hk⟩, if_neg (by omega)]
theorem ftW_up {X : Nat → Nat → Int32} {c i m : Nat} {J : Nat → Int64} (hm : m < 40) : up2 (ftW X c r J i m) c m (ft r J (i + 1) m) = ftW X c r J i (m + 1) := by
  funext a k
  unfold up2 ftW
  by_cases z : a = c ∧ k = m
  · obtain ⟨rfl, rfl⟩ := z
    rw [if_pos ⟨rfl, rfl⟩, if_pos ⟨rfl, hm⟩, if_pos (by omega)]
  · rw [if_neg z]
    by_cases y : a = c ∧ k < 40
    · rw [if_pos y, if_pos y]
      by_cases u : k < m
      · rw [if_pos u, if_pos (by omega)]
      · rw [if_neg u, if_neg (fun v => z ⟨y.1, by omega⟩)]
    · rw [if_neg y, if_neg y]
theorem ftW_end {X : Nat → Nat → Int32} {c i : Nat} {J : Nat → Int64} : ftW X c r J i 40 = ftW X c r J (i + 1) 0 := by
  funext a k
  unfold ftW
  by_cases y : a = c ∧ k < 40
  · rw [if_pos y, if_pos y, if_pos y.2, if_neg (by omega)]
  · rw [if_neg y, if_neg y]
theorem ftW_self {X : Nat → Nat → Int32} {c i : Nat} {J : Nat → Int64} (H : ∀ k, k < 40 → X c k = ft r J i k) : ftW X c r J i 0 = X := by
  funext a k
  unfold ftW
  by_cases y : a = c ∧ k < 40
  · rw [if_pos y, if_neg (by omega), y.1, H k y.2]
  · rw [if_neg y]
/-- what a place becomes by a bell more -/
theorem ft_0 {J : Nat → Int64} {i p : Nat} (h0 : ft r J i p = 0) : ft r J (i + 1) p = nI 0 := if_pos h0
theorem ft_1 {J : Nat → Int64} {i p : Nat} (h0 : ¬ ft r J i p = 0) (h1 : (bel r i (pq p)).toInt64 = J i) : ft r J (i + 1) p = nI 1 := by
  show (if _ then _ else if _ then _ else _) = _
  rw [if_neg h0, if_pos h1]
theorem ft_2 {J : Nat → Int64} {i p : Nat} (h0 : ¬ ft r J i p = 0) (h1 : ¬ (bel r i (pq p)).toInt64 = J i) : ft r J (i + 1) p = nI 0 := by
  show (if _ then _ else if _ then _ else _) = _
  rw [if_neg h0, if_neg h1]
def fl1 (X : Nat → Nat → Int32) (c m : Nat) : Nat → Nat → Int32 := fun a k => if a = c ∧ k < m then nI 1 else X a k
theorem fl1_up {X : Nat → Nat → Int32} {c m : Nat} : up2 (fl1 X c m) c m (nI 1) = fl1 X c (m + 1) := by
  funext a k
  unfold up2 fl1
  by_cases z : a = c ∧ k = m
  · rw [if_pos z, if_pos ⟨z.1, by omega⟩]
  · rw [if_neg z]
    by_cases y : a = c ∧ k < m
    · rw [if_pos y, if_pos ⟨y.1, by omega⟩]
    · rw [if_neg y, if_neg (fun x => by by_cases u : k = m; exact z ⟨x.1, u⟩; exact y ⟨x.1, by omega⟩)]
theorem fl1_0 {X : Nat → Nat → Int32} {c : Nat} : fl1 X c 0 = X := by
  funext a k
  unfold fl1
  rw [if_neg (by omega)]
theorem fl1_ne {X : Nat → Nat → Int32} {c m a k : Nat} (ha : ¬ a = c) : fl1 X c m a k = X a k := if_neg (fun z => ha z.1)
/-! the class -/
theorem fits_1 (F : FR h) (X : Nat → Nat → Int32) (c : Nat) (d : Nat) (Q : Option Value → PH → Prop) :
    ∀ (j p : Nat), p + j = 40 → WP d 369 1 [.ref 100, .ref c, .int (nI p), .retAddr 0] [] (wI h (fl1 X 109 p)) Q = WP d 369 2 [.ref 100, .ref c, .int (nI 40), .retAddr 0] [] (wI h (fl1 X 109 40)) Q := by
  intro j
  induction j with
  | zero =>
    intro p hp
    obtain rfl : p = 40 := by omega
    rw [w_369_1]
    simp -implicitDefEqProofs (disch := first | omega | (simp (disch := omega) only [nb_upr]; omega)) only [zi_31, zi_32i, zi_32r, zi_32u, zi_32a, zi_33, zi_34, zi_0, zi_0n, zi_226, zi_173, zi_35, zi_48, zi_227, zi_39i, zi_39r, zi_39u, zi_39a, zi_40, zi_90, zi_92, zi_102, zi_75, zi_23, zi_23n, zi_228, zi_229, zi_111i, zi_111r, zi_111u, zi_111a, zi_133, zi_63, zi_230, zi_231, zi_134, zi_128, zi_106, zi_232, zi_233, zi_234, zi_235, zi_236, zi_237, zi_158i, zi_158r, zi_158u, zi_158a, zi_131, zi_160, zi_86, zi_41, F.t100, F.r100_10, F.t109, F.l109, kC_eq, toL_s, toL_n, okS0, okS1, okS2, okS3, okS4, okS5, true_and, and_true, hT_wI, hL_wI, hR_wI, hI_wI, hJ_wI, sI_wI, rfP, isIA_100, isIA_120, inb_ok, nI_clamp, nI_add, nI_mul, ↓reduceIte, not_false_eq_true, not_true_eq_false, true_or, or_true, ↓bI_01, ↓b01_0, ↓b01_1, bI_0, z00, z10, n4, n5, n2, n8, Nat.reduceMul, Nat.reduceAdd, Nat.reduceLT, Nat.reduceLeDiff, nI_eq, nI_leI, nI_ltI, Nat.reduceEqDiff, pk_div, nI_sub, Nat.reduceDiv, Nat.reduceSub, Nat.le_refl]
  | succ j ih0 =>
    intro p hp
    have g : ¬ 40 ≤ p := by omega
    rw [← ih0 (p + 1) (by omega), w_369_1]
    simp -implicitDefEqProofs (disch := first | omega | (simp (disch := omega) only [nb_upr]; omega)) only [zi_31, zi_32i, zi_32r, zi_32u, zi_32a, zi_33, zi_34, zi_0, zi_0n, zi_226, zi_173, zi_35, zi_48, zi_227, zi_39i, zi_39r, zi_39u, zi_39a, zi_40, zi_90, zi_92, zi_102, zi_75, zi_23, zi_23n, zi_228, zi_229, zi_111i, zi_111r, zi_111u, zi_111a, zi_133, zi_63, zi_230, zi_231, zi_134, zi_128, zi_106, zi_232, zi_233, zi_234, zi_235, zi_236, zi_237, zi_158i, zi_158r, zi_158u, zi_158a, zi_131, zi_160, zi_86, zi_41, F.t100, F.r100_10, F.t109, F.l109, kC_eq, toL_s, toL_n, okS0, okS1, okS2, okS3, okS4, okS5, true_and, and_true, hT_wI, hL_wI, hR_wI, hI_wI, hJ_wI, sI_wI, rfP, isIA_100, isIA_120, inb_ok, nI_clamp, nI_add, nI_mul, ↓reduceIte, not_false_eq_true, not_true_eq_false, true_or, or_true, ↓bI_01, ↓b01_0, ↓b01_1, bI_0, z00, z10, n4, n5, n2, n8, Nat.reduceMul, Nat.reduceAdd, Nat.reduceLT, Nat.reduceLeDiff, nI_eq, nI_leI, nI_ltI, Nat.reduceEqDiff, pk_div, nI_sub, Nat.reduceDiv, Nat.reduceSub, g, fl1_up]
theorem fits_in (F : FR h) (X : Nat → Nat → Int32) (c l m i : Nat) (h8 : hT h c = 8) (h1 : hR h c 1 = some l) (ht : hT h l = 102) (hl : hL h l = m) (hm : m ≤ 40) (hi : i < m) (d : Nat) (Q : Option Value → PH → Prop) :
    ∀ (j p : Nat), p + j = 40 → WP d 369 4 [.ref 100, .ref c, .int (nI i), .int (nI p)] [] (wI h (ww (ftW X 109 r (hJ h l) i p) 145 (bel r i))) Q = WP d 369 7 [.ref 100, .ref c, .int (nI i), .int (nI 40)] [] (wI h (ww (ftW X 109 r (hJ h l) i 40) 145 (bel r i))) Q := by
  intro j
  induction j with
  | zero =>
    intro p hp
    obtain rfl : p = 40 := by omega
    rw [w_369_4]
    simp -implicitDefEqProofs (disch := first | omega | (simp (disch := omega) only [nb_upr]; omega)) only [zi_31, zi_32i, zi_32r, zi_32u, zi_32a, zi_33, zi_34, zi_0, zi_0n, zi_226, zi_173, zi_35, zi_48, zi_227, zi_39i, zi_39r, zi_39u, zi_39a, zi_40, zi_90, zi_92, zi_102, zi_75, zi_23, zi_23n, zi_228, zi_229, zi_111i, zi_111r, zi_111u, zi_111a, zi_133, zi_63, zi_230, zi_231, zi_134, zi_128, zi_106, zi_232, zi_233, zi_234, zi_235, zi_236, zi_237, zi_158i, zi_158r, zi_158u, zi_158a, zi_131, zi_160, zi_86, zi_41, F.t100, F.r100_10, F.t109, F.l109, kC_eq, toL_s, toL_n, okS0, okS1, okS2, okS3, okS4, okS5, true_and, and_true, hT_wI, hL_wI, hR_wI, hI_wI, hJ_wI, sI_wI, rfP, isIA_100, isIA_120, inb_ok, nI_clamp, nI_add, nI_mul, ↓reduceIte, not_false_eq_true, not_true_eq_false, true_or, or_true, ↓bI_01, ↓b01_0, ↓b01_1, bI_0, z00, z10, n4, n5, n2, n8, Nat.reduceMul, Nat.reduceAdd, Nat.reduceLT, Nat.reduceLeDiff, nI_eq, nI_leI, nI_ltI, Nat.reduceEqDiff, pk_div, nI_sub, Nat.reduceDiv, Nat.reduceSub, Nat.le_refl]
  | succ j ih0 =>
    intro p hp
    have w := F.w145
    have g : ¬ 40 ≤ p := by omega
    have e1 : ww (ftW X 109 r (hJ h l) i p) 145 (bel r i) 109 p = ft r (hJ h l) i p := by rw [ww_out (by omega), ftW_at (by omega) (Nat.le_refl p)]
    have e3 : up2 (ww (ftW X 109 r (hJ h l) i p) 145 (bel r i)) 109 p (ft r (hJ h l) (i + 1) p) = ww (ftW X 109 r (hJ h l) i (p + 1)) 145 (bel r i) := by
      rw [ww_up2 (by omega), ftW_up (by omega)]
    have e4 : 12 + 7 * (p / 5) + p % 5 = pq p := rfl
    rw [← ih0 (p + 1) (by omega), w_369_4]
    by_cases z0 : ft r (hJ h l) i p = 0
    · rw [ft_0 z0] at e3
      simp -implicitDefEqProofs (disch := first | omega | (simp (disch := omega) only [nb_upr]; omega)) only [w_369_5, w_369_6, zi_31, zi_32i, zi_32r, zi_32u, zi_32a, zi_33, zi_34, zi_0, zi_0n, zi_226, zi_173, zi_35, zi_48, zi_227, zi_39i, zi_39r, zi_39u, zi_39a, zi_40, zi_90, zi_92, zi_102, zi_75, zi_23, zi_23n, zi_228, zi_229, zi_111i, zi_111r, zi_111u, zi_111a, zi_133, zi_63, zi_230, zi_231, zi_134, zi_128, zi_106, zi_232, zi_233, zi_234, zi_235, zi_236, zi_237, zi_158i, zi_158r, zi_158u, zi_158a, zi_131, zi_160, zi_86, zi_41, F.t100, F.r100_10, F.t109, F.l109, kC_eq, toL_s, toL_n, okS0, okS1, okS2, okS3, okS4, okS5, true_and, and_true, hT_wI, hL_wI, hR_wI, hI_wI, hJ_wI, sI_wI, rfP, isIA_100, isIA_120, inb_ok, nI_clamp, nI_add, nI_mul, ↓reduceIte, not_false_eq_true, not_true_eq_false, true_or, or_true, ↓bI_01, ↓b01_0, ↓b01_1, bI_0, z00, z10, n4, n5, n2, n8, Nat.reduceMul, Nat.reduceAdd, Nat.reduceLT, Nat.reduceLeDiff, nI_eq, nI_leI, nI_ltI, Nat.reduceEqDiff, pk_div, nI_sub, Nat.reduceDiv, Nat.reduceSub, g, e1, z0, e3]
    · by_cases z1 : (bel r i (pq p)).toInt64 = hJ h l i
      · rw [ft_1 z0 z1] at e3
        simp -implicitDefEqProofs (disch := first | omega | (simp (disch := omega) only [nb_upr]; omega)) only [w_369_5, w_369_6, zi_31, zi_32i, zi_32r, zi_32u, zi_32a, zi_33, zi_34, zi_0, zi_0n, zi_226, zi_173, zi_35, zi_48, zi_227, zi_39i, zi_39r, zi_39u, zi_39a, zi_40, zi_90, zi_92, zi_102, zi_75, zi_23, zi_23n, zi_228, zi_229, zi_111i, zi_111r, zi_111u, zi_111a, zi_133, zi_63, zi_230, zi_231, zi_134, zi_128, zi_106, zi_232, zi_233, zi_234, zi_235, zi_236, zi_237, zi_158i, zi_158r, zi_158u, zi_158a, zi_131, zi_160, zi_86, zi_41, F.t100, F.r100_10, F.t109, F.l109, F.r100_2, w.t, w.r3, w.t3, w.l3, kC_eq, toL_s, toL_n, okS0, okS1, okS2, okS3, okS4, okS5, true_and, and_true, hT_wI, hL_wI, hR_wI, hI_wI, hJ_wI, sI_wI, rfP, isIA_100, isIA_120, inb_ok, nI_clamp, nI_add, nI_mul, ↓reduceIte, not_false_eq_true, not_true_eq_false, true_or, or_true, ↓bI_01, ↓b01_0, ↓b01_1, bI_0, z00, z10, n4, n5, n2, n8, Nat.reduceMul, Nat.reduceAdd, Nat.reduceLT, Nat.reduceLeDiff, nI_eq, nI_leI, nI_ltI, Nat.reduceEqDiff, pk_div, nI_sub, Nat.reduceDiv, Nat.reduceSub, g, e1, z0, ww_3, e4, h8, h1, ht, hl, lgz, z1, e3]
      · rw [ft_2 z0 z1] at e3
        simp -implicitDefEqProofs (disch := first | omega | (simp (disch := omega) only [nb_upr]; omega)) only [w_369_5, w_369_6, zi_31, zi_32i, zi_32r, zi_32u, zi_32a, zi_33, zi_34, zi_0, zi_0n, zi_226, zi_173, zi_35, zi_48, zi_227, zi_39i, zi_39r, zi_39u, zi_39a, zi_40, zi_90, zi_92, zi_102, zi_75, zi_23, zi_23n, zi_228, zi_229, zi_111i, zi_111r, zi_111u, zi_111a, zi_133, zi_63, zi_230, zi_231, zi_134, zi_128, zi_106, zi_232, zi_233, zi_234, zi_235, zi_236, zi_237, zi_158i, zi_158r, zi_158u, zi_158a, zi_131, zi_160, zi_86, zi_41, F.t100, F.r100_10, F.t109, F.l109, F.r100_2, w.t, w.r3, w.t3, w.l3, kC_eq, toL_s, toL_n, okS0, okS1, okS2, okS3, okS4, okS5, true_and, and_true, hT_wI, hL_wI, hR_wI, hI_wI, hJ_wI, sI_wI, rfP, isIA_100, isIA_120, inb_ok, nI_clamp, nI_add, nI_mul, ↓reduceIte, not_false_eq_true, not_true_eq_false, true_or, or_true, ↓bI_01, ↓b01_0, ↓b01_1, bI_0, z00, z10, n4, n5, n2, n8, Nat.reduceMul, Nat.reduceAdd, Nat.reduceLT, Nat.reduceLeDiff, nI_eq, nI_leI, nI_ltI, Nat.reduceEqDiff, pk_div, nI_sub, Nat.reduceDiv, Nat.reduceSub, g, e1, z0, ww_3, e4, h8, h1, ht, hl, lgz, z1, e3]
theorem fits_loop (F : FR h) (V : Vr n r) (X : Nat → Nat → Int32) (c l m : Nat) (h8 : hT h c = 8) (h1 : hR h c 1 = some l) (ht : hT h l = 102) (hl : hL h l = m) (hm : m ≤ 40) (d : Nat) (hd : 3 ≤ d) (Q : Option Value → PH → Prop) :
    ∀ (j i : Nat) (v3 : Value), i + j = m → WP d 369 3 [.ref 100, .ref c, .int (nI i), v3] [] (wI h (ww (ftW X 109 r (hJ h l) i 0) 145 (bel r i))) Q = Q none (wI h (ww (ftW X 109 r (hJ h l) m 0) 145 (bel r m))) := by
  intro j
  induction j with
  | zero =>
    intro i v3 hi
    obtain rfl : i = m := by omega
    rw [w_369_3]
    simp -implicitDefEqProofs (disch := first | omega | (simp (disch := omega) only [nb_upr]; omega)) only [w_369_8, zi_31, zi_32i, zi_32r, zi_32u, zi_32a, zi_33, zi_34, zi_0, zi_0n, zi_226, zi_173, zi_35, zi_48, zi_227, zi_39i, zi_39r, zi_39u, zi_39a, zi_40, zi_90, zi_92, zi_102, zi_75, zi_23, zi_23n, zi_228, zi_229, zi_111i, zi_111r, zi_111u, zi_111a, zi_133, zi_63, zi_230, zi_231, zi_134, zi_128, zi_106, zi_232, zi_233, zi_234, zi_235, zi_236, zi_237, zi_158i, zi_158r, zi_158u, zi_158a, zi_131, zi_160, zi_86, zi_41, kC_eq, toL_s, toL_n, okS0, okS1, okS2, okS3, okS4, okS5, true_and, and_true, hT_wI, hL_wI, hR_wI, hI_wI, hJ_wI, sI_wI, rfP, isIA_100, isIA_120, inb_ok, nI_clamp, nI_add, nI_mul, ↓reduceIte, not_false_eq_true, not_true_eq_false, true_or, or_true, ↓bI_01, ↓b01_0, ↓b01_1, bI_0, z00, z10, n4, n5, n2, n8, Nat.reduceMul, Nat.reduceAdd, Nat.reduceLT, Nat.reduceLeDiff, nI_eq, nI_leI, nI_ltI, Nat.reduceEqDiff, pk_div, nI_sub, Nat.reduceDiv, Nat.reduceSub, Nat.le_refl, h8, h1, ht, hl]
  | succ j ih0 =>
    intro i v3 hi
    have w := F.w145
    have g : ¬ m ≤ i := by omega
    have ih := ih0 (i + 1) (.int (nI 40)) (by omega)
    have p7 : WP d 369 7 [.ref 100, .ref c, .int (nI i), .int (nI 40)] [] (wI h (ww (ftW X 109 r (hJ h l) i 40) 145 (bel r i))) Q = WP d 369 3 [.ref 100, .ref c, .int (nI (i + 1)), .int (nI 40)] [] (wI h (ww (ftW X 109 r (hJ h l) (i + 1) 0) 145 (bel r (i + 1)))) Q := by
      rw [ftW_end, w_369_7]
      simp -implicitDefEqProofs (disch := first | omega | (simp (disch := omega) only [nb_upr]; omega)) only [zi_31, zi_32i, zi_32r, zi_32u, zi_32a, zi_33, zi_34, zi_0, zi_0n, zi_226, zi_173, zi_35, zi_48, zi_227, zi_39i, zi_39r, zi_39u, zi_39a, zi_40, zi_90, zi_92, zi_102, zi_75, zi_23, zi_23n, zi_228, zi_229, zi_111i, zi_111r, zi_111u, zi_111a, zi_133, zi_63, zi_230, zi_231, zi_134, zi_128, zi_106, zi_232, zi_233, zi_234, zi_235, zi_236, zi_237, zi_158i, zi_158r, zi_158u, zi_158a, zi_131, zi_160, zi_86, zi_41, F.t100, F.r100_2, w.t, kC_eq, toL_s, toL_n, okS0, okS1, okS2, okS3, okS4, okS5, true_and, and_true, hT_wI, hL_wI, hR_wI, hI_wI, hJ_wI, sI_wI, rfP, isIA_100, isIA_120, inb_ok, nI_clamp, nI_add, nI_mul, ↓reduceIte, not_false_eq_true, not_true_eq_false, true_or, or_true, ↓bI_01, ↓b01_0, ↓b01_1, bI_0, z00, z10, n4, n5, n2, n8, Nat.reduceMul, Nat.reduceAdd, Nat.reduceLT, Nat.reduceLeDiff, nI_eq, nI_leI, nI_ltI, Nat.reduceEqDiff, pk_div, nI_sub, Nat.reduceDiv, Nat.reduceSub, e_ring _ 145 h _ _ w (Vr_bel V i).vs]
      rfl
    rw [← ih, ← p7, ← fits_in F X c l m i h8 h1 ht hl hm (by omega) d Q 40 0 rfl, w_369_3]
    simp -implicitDefEqProofs (disch := first | omega | (simp (disch := omega) only [nb_upr]; omega)) only [zi_31, zi_32i, zi_32r, zi_32u, zi_32a, zi_33, zi_34, zi_0, zi_0n, zi_226, zi_173, zi_35, zi_48, zi_227, zi_39i, zi_39r, zi_39u, zi_39a, zi_40, zi_90, zi_92, zi_102, zi_75, zi_23, zi_23n, zi_228, zi_229, zi_111i, zi_111r, zi_111u, zi_111a, zi_133, zi_63, zi_230, zi_231, zi_134, zi_128, zi_106, zi_232, zi_233, zi_234, zi_235, zi_236, zi_237, zi_158i, zi_158r, zi_158u, zi_158a, zi_131, zi_160, zi_86, zi_41, kC_eq, toL_s, toL_n, okS0, okS1, okS2, okS3, okS4, okS5, true_and, and_true, hT_wI, hL_wI, hR_wI, hI_wI, hJ_wI, sI_wI, rfP, isIA_100, isIA_120, inb_ok, nI_clamp, nI_add, nI_mul, ↓reduceIte, not_false_eq_true, not_true_eq_false, true_or, or_true, ↓bI_01, ↓b01_0, ↓b01_1, bI_0, z00, z10, n4, n5, n2, n8, Nat.reduceMul, Nat.reduceAdd, Nat.reduceLT, Nat.reduceLeDiff, nI_eq, nI_leI, nI_ltI, Nat.reduceEqDiff, pk_div, nI_sub, Nat.reduceDiv, Nat.reduceSub, g, h8, h1, ht, hl]
theorem e_findShoal (F : FR h) (V : Vr n r) (f : Nat → Nat → Int32) (hrv : rv f 117 = r) (c l m : Nat) (h8 : hT h c = 8) (h1 : hR h c 1 = some l) (ht : hT h l = 102) (hl : hL h l = m) (hm : m ≤ 40) :
    ∃ Y, (∀ a k, ¬ (145 ≤ a ∧ a < 159) → ¬ a = 109 → Y a k = f a k) ∧ (∀ k, k < 40 → Y 109 k = ft r (hJ h l) m k) ∧ ∀ Q, Run 29 369 [.ref 100, .ref c] (wI h f) Q = Q none (wI h Y) := by
  obtain ⟨X, h2, h3⟩ := e_copy (h := h) 145 117 F.w145 F.w117 (by omega) (fl1 f 109 40)
  have hr2 : rv (fl1 f 109 40) 117 = r := by rw [rv_eq (g := f) (fun a k h1 h2 => fl1_ne (by omega)), hrv]
  rw [hr2] at h3
  have hX : ftW X 109 r (hJ h l) 0 0 = X := ftW_self (fun k hk => by rw [h2 109 k (by omega)]; exact if_pos ⟨rfl, hk⟩)
  refine ⟨ww (ftW X 109 r (hJ h l) m 0) 145 (bel r m), fun a k ha h9 => ?_, fun k hk => ?_, fun Q => ?_⟩
  · rw [ww_out (by omega), ftW_ne h9, h2 a k ha, fl1_ne h9]
  · rw [ww_out (by omega), ftW_at hk (Nat.zero_le k)]
  · have hl0 := fits_1 F f c 29 Q 40 0 rfl
    have hl1 := fits_loop F V X c l m h8 h1 ht hl hm 29 (by decide) Q m 0 (.retAddr 0) (by omega)
    rw [hX] at hl1
    rw [fl1_0] at hl0
    have p : WP 29 369 2 [.ref 100, .ref c, .int (nI 40), .retAddr 0] [] (wI h (fl1 f 109 40)) Q = WP 29 369 3 [.ref 100, .ref c, .int (nI 0), .retAddr 0] [] (wI h (ww X 145 r)) Q := by
      rw [w_369_2]
      simp -implicitDefEqProofs (disch := first | omega | (simp (disch := omega) only [nb_upr]; omega)) only [zi_31, zi_32i, zi_32r, zi_32u, zi_32a, zi_33, zi_34, zi_0, zi_0n, zi_226, zi_173, zi_35, zi_48, zi_227, zi_39i, zi_39r, zi_39u, zi_39a, zi_40, zi_90, zi_92, zi_102, zi_75, zi_23, zi_23n, zi_228, zi_229, zi_111i, zi_111r, zi_111u, zi_111a, zi_133, zi_63, zi_230, zi_231, zi_134, zi_128, zi_106, zi_232, zi_233, zi_234, zi_235, zi_236, zi_237, zi_158i, zi_158r, zi_158u, zi_158a, zi_131, zi_160, zi_86, zi_41, F.t100, F.r100_0, F.r100_2, F.w145.t, kC_eq, toL_s, toL_n, okS0, okS1, okS2, okS3, okS4, okS5, true_and, and_true, hT_wI, hL_wI, hR_wI, hI_wI, hJ_wI, sI_wI, rfP, isIA_100, isIA_120, inb_ok, nI_clamp, nI_add, nI_mul, ↓reduceIte, not_false_eq_true, not_true_eq_false, true_or, or_true, ↓bI_01, ↓b01_0, ↓b01_1, bI_0, z00, z10, n4, n5, n2, n8, Nat.reduceMul, Nat.reduceAdd, Nat.reduceLT, Nat.reduceLeDiff, h3]
    rw [← hl1]
    refine Eq.trans ?_ (hl0.trans p)
    simp -implicitDefEqProofs (disch := first | omega | (simp (disch := omega) only [nb_upr]; omega)) only [R_369, w_369_0, zi_31, zi_32i, zi_32r, zi_32u, zi_32a, zi_33, zi_34, zi_0, zi_0n, zi_226, zi_173, zi_35, zi_48, zi_227, zi_39i, zi_39r, zi_39u, zi_39a, zi_40, zi_90, zi_92, zi_102, zi_75, zi_23, zi_23n, zi_228, zi_229, zi_111i, zi_111r, zi_111u, zi_111a, zi_133, zi_63, zi_230, zi_231, zi_134, zi_128, zi_106, zi_232, zi_233, zi_234, zi_235, zi_236, zi_237, zi_158i, zi_158r, zi_158u, zi_158a, zi_131, zi_160, zi_86, zi_41, kC_eq, toL_s, toL_n, okS0, okS1, okS2, okS3, okS4, okS5, true_and, and_true, hT_wI, hL_wI, hR_wI, hI_wI, hJ_wI, sI_wI, rfP, isIA_100, isIA_120, inb_ok, nI_clamp, nI_add, nI_mul, ↓reduceIte, not_false_eq_true, not_true_eq_false, true_or, or_true, ↓bI_01, ↓b01_0, ↓b01_1, bI_0, z00, z10, n4, n5, n2, n8, Nat.reduceMul, Nat.reduceAdd, Nat.reduceLT, Nat.reduceLeDiff]
def cu (P : Nat → Int32) : Nat → Nat
  | 0 => 0
  | k + 1 => if P k = 0 then cu P k else cu P k + 1
def ff (P : Nat → Int32) : Nat → Nat → Int32
  | 0, _ => Int32.ofInt (-3)
  | j + 1, p => if P p = 0 then ff P j (p + 1) else nI (10 * (p / 5) + p % 5)
theorem cu_le (P : Nat → Int32) : ∀ k, cu P k ≤ k
  | 0 => Nat.le_refl _
  | k + 1 => by
    have := cu_le P k
    show (if P k = 0 then cu P k else cu P k + 1) ≤ k + 1
    split <;> omega
theorem cu_mono (P : Nat → Int32) (k : Nat) : ∀ j, cu P k ≤ cu P (k + j)
  | 0 => Nat.le_refl _
  | j + 1 => by
    have := cu_mono P k j
    show _ ≤ (if P (k + j) = 0 then cu P (k + j) else cu P (k + j) + 1)
    split <;> omega
theorem count_loop (F : FR h) (Y : Nat → Nat → Int32) (d : Nat) (Q : Option Value → PH → Prop) :
    ∀ (j k : Nat), k + j = 40 → WP d 376 1 [.ref 100, .int (nI (cu (Y 109) k)), .int (nI k)] [] (wI h Y) Q = Q (some (.int (nI (cu (Y 109) 40)))) (wI h Y) := by
  intro j
  induction j with
  | zero =>
    intro k hk
    obtain rfl : k = 40 := by omega
    rw [w_376_1]
    simp -implicitDefEqProofs (disch := first | omega | (simp (disch := omega) only [nb_upr]; omega)) only [w_376_3, zi_31, zi_96i, zi_96r, zi_96u, zi_96a, zi_32i, zi_32r, zi_32u, zi_32a, zi_33, zi_34, zi_0, zi_0n, zi_226, zi_173, zi_157, zi_231, zi_108, zi_216i, zi_216r, zi_216u, zi_216a, zi_113, zi_39i, zi_39r, zi_39u, zi_39a, zi_40, zi_88, zi_67w1, zi_67w2, F.t100, F.r100_10, F.t109, F.l109, kC_eq, toL_s, toL_n, okS0, okS1, okS2, okS3, okS4, okS5, true_and, and_true, hT_wI, hL_wI, hR_wI, hI_wI, hJ_wI, sI_wI, rfP, isIA_100, isIA_120, inb_ok, nI_clamp, nI_add, nI_mul, ↓reduceIte, not_false_eq_true, not_true_eq_false, true_or, or_true, ↓bI_01, ↓b01_0, ↓b01_1, bI_0, z00, z10, n4, n5, n2, n8, Nat.reduceMul, Nat.reduceAdd, Nat.reduceLT, Nat.reduceLeDiff, nI_eq, nI_leI, nI_ltI, Nat.reduceEqDiff, pk_div, nI_sub, Nat.reduceDiv, Nat.reduceSub, Nat.le_refl]
  | succ j ih0 =>
    intro k hk
    have g : ¬ 40 ≤ k := by omega
    have ih := ih0 (k + 1) (by omega)
    have e : cu (Y 109) (k + 1) = if Y 109 k = 0 then cu (Y 109) k else cu (Y 109) k + 1 := rfl
    rw [← ih, e, w_376_1]
    by_cases z : Y 109 k = 0
    · rw [if_pos z]
      simp -implicitDefEqProofs (disch := first | omega | (simp (disch := omega) only [nb_upr]; omega)) only [w_376_2, zi_31, zi_96i, zi_96r, zi_96u, zi_96a, zi_32i, zi_32r, zi_32u, zi_32a, zi_33, zi_34, zi_0, zi_0n, zi_226, zi_173, zi_157, zi_231, zi_108, zi_216i, zi_216r, zi_216u, zi_216a, zi_113, zi_39i, zi_39r, zi_39u, zi_39a, zi_40, zi_88, zi_67w1, zi_67w2, F.t100, F.r100_10, F.t109, F.l109, kC_eq, toL_s, toL_n, okS0, okS1, okS2, okS3, okS4, okS5, true_and, and_true, hT_wI, hL_wI, hR_wI, hI_wI, hJ_wI, sI_wI, rfP, isIA_100, isIA_120, inb_ok, nI_clamp, nI_add, nI_mul, ↓reduceIte, not_false_eq_true, not_true_eq_false, true_or, or_true, ↓bI_01, ↓b01_0, ↓b01_1, bI_0, z00, z10, n4, n5, n2, n8, Nat.reduceMul, Nat.reduceAdd, Nat.reduceLT, Nat.reduceLeDiff, nI_eq, nI_leI, nI_ltI, Nat.reduceEqDiff, pk_div, nI_sub, Nat.reduceDiv, Nat.reduceSub, g, z]
    · rw [if_neg z]
      simp -implicitDefEqProofs (disch := first | omega | (simp (disch := omega) only [nb_upr]; omega)) only [w_376_2, zi_31, zi_96i, zi_96r, zi_96u, zi_96a, zi_32i, zi_32r, zi_32u, zi_32a, zi_33, zi_34, zi_0, zi_0n, zi_226, zi_173, zi_157, zi_231, zi_108, zi_216i, zi_216r, zi_216u, zi_216a, zi_113, zi_39i, zi_39r, zi_39u, zi_39a, zi_40, zi_88, zi_67w1, zi_67w2, F.t100, F.r100_10, F.t109, F.l109, kC_eq, toL_s, toL_n, okS0, okS1, okS2, okS3, okS4, okS5, true_and, and_true, hT_wI, hL_wI, hR_wI, hI_wI, hJ_wI, sI_wI, rfP, isIA_100, isIA_120, inb_ok, nI_clamp, nI_add, nI_mul, ↓reduceIte, not_false_eq_true, not_true_eq_false, true_or, or_true, ↓bI_01, ↓b01_0, ↓b01_1, bI_0, z00, z10, n4, n5, n2, n8, Nat.reduceMul, Nat.reduceAdd, Nat.reduceLT, Nat.reduceLeDiff, nI_eq, nI_leI, nI_ltI, Nat.reduceEqDiff, pk_div, nI_sub, Nat.reduceDiv, Nat.reduceSub, g, z]
theorem first_loop (F : FR h) (Y : Nat → Nat → Int32) (d : Nat) (Q : Option Value → PH → Prop) :
    ∀ (j k : Nat), k + j = 40 → WP d 384 1 [.ref 100, .int (nI k)] [] (wI h Y) Q = Q (some (.int (ff (Y 109) j k))) (wI h Y) := by
  intro j
  induction j with
  | zero =>
    intro k hk
    obtain rfl : k = 40 := by omega
    rw [w_384_1]
    simp -implicitDefEqProofs (disch := first | omega | (simp (disch := omega) only [nb_upr]; omega)) only [w_384_3, zi_31, zi_96i, zi_96r, zi_96u, zi_96a, zi_33, zi_88, zi_0, zi_0n, zi_226, zi_173, zi_157, zi_231, zi_108, zi_140, zi_59, zi_238, zi_79, zi_196, zi_70, zi_67w1, zi_67w2, zi_216i, zi_216r, zi_216u, zi_216a, zi_40, zi_208, F.t100, F.r100_10, F.t109, F.l109, kC_eq, toL_s, toL_n, okS0, okS1, okS2, okS3, okS4, okS5, true_and, and_true, hT_wI, hL_wI, hR_wI, hI_wI, hJ_wI, sI_wI, rfP, isIA_100, isIA_120, inb_ok, nI_clamp, nI_add, nI_mul, ↓reduceIte, not_false_eq_true, not_true_eq_false, true_or, or_true, ↓bI_01, ↓b01_0, ↓b01_1, bI_0, z00, z10, n4, n5, n2, n8, Nat.reduceMul, Nat.reduceAdd, Nat.reduceLT, Nat.reduceLeDiff, nI_eq, nI_leI, nI_ltI, Nat.reduceEqDiff, pk_div, nI_sub, Nat.reduceDiv, Nat.reduceSub, Nat.le_refl]
    rfl
  | succ j ih0 =>
    intro k hk
    have g : ¬ 40 ≤ k := by omega
    have ih := ih0 (k + 1) (by omega)
    have em : k - k / 5 * 5 = k % 5 := by omega
    have e : ff (Y 109) (j + 1) k = if Y 109 k = 0 then ff (Y 109) j (k + 1) else nI (10 * (k / 5) + k % 5) := rfl
    rw [e, w_384_1]
    by_cases z : Y 109 k = 0
    · rw [if_pos z]
      simp -implicitDefEqProofs (disch := first | omega | (simp (disch := omega) only [nb_upr]; omega)) only [w_384_2, zi_31, zi_96i, zi_96r, zi_96u, zi_96a, zi_33, zi_88, zi_0, zi_0n, zi_226, zi_173, zi_157, zi_231, zi_108, zi_140, zi_59, zi_238, zi_79, zi_196, zi_70, zi_67w1, zi_67w2, zi_216i, zi_216r, zi_216u, zi_216a, zi_40, zi_208, F.t100, F.r100_10, F.t109, F.l109, kC_eq, toL_s, toL_n, okS0, okS1, okS2, okS3, okS4, okS5, true_and, and_true, hT_wI, hL_wI, hR_wI, hI_wI, hJ_wI, sI_wI, rfP, isIA_100, isIA_120, inb_ok, nI_clamp, nI_add, nI_mul, ↓reduceIte, not_false_eq_true, not_true_eq_false, true_or, or_true, ↓bI_01, ↓b01_0, ↓b01_1, bI_0, z00, z10, n4, n5, n2, n8, Nat.reduceMul, Nat.reduceAdd, Nat.reduceLT, Nat.reduceLeDiff, nI_eq, nI_leI, nI_ltI, Nat.reduceEqDiff, pk_div, nI_sub, Nat.reduceDiv, Nat.reduceSub, g, z]
      exact ih
    · rw [if_neg z]
      simp -implicitDefEqProofs (disch := first | omega | (simp (disch := omega) only [nb_upr]; omega)) only [w_384_2, zi_31, zi_96i, zi_96r, zi_96u, zi_96a, zi_33, zi_88, zi_0, zi_0n, zi_226, zi_173, zi_157, zi_231, zi_108, zi_140, zi_59, zi_238, zi_79, zi_196, zi_70, zi_67w1, zi_67w2, zi_216i, zi_216r, zi_216u, zi_216a, zi_40, zi_208, F.t100, F.r100_10, F.t109, F.l109, kC_eq, toL_s, toL_n, okS0, okS1, okS2, okS3, okS4, okS5, true_and, and_true, hT_wI, hL_wI, hR_wI, hI_wI, hJ_wI, sI_wI, rfP, isIA_100, isIA_120, inb_ok, nI_clamp, nI_add, nI_mul, ↓reduceIte, not_false_eq_true, not_true_eq_false, true_or, or_true, ↓bI_01, ↓b01_0, ↓b01_1, bI_0, z00, z10, n4, n5, n2, n8, Nat.reduceMul, Nat.reduceAdd, Nat.reduceLT, Nat.reduceLeDiff, nI_eq, nI_leI, nI_ltI, Nat.reduceEqDiff, pk_div, nI_sub, Nat.reduceDiv, Nat.reduceSub, g, z, em]
theorem e_countFits (F : FR h) (Y : Nat → Nat → Int32) (d : Nat) (Q : Option Value → PH → Prop) : Run d 376 [.ref 100] (wI h Y) Q = Q (some (.int (nI (cu (Y 109) 40)))) (wI h Y) := by
  have l1 := count_loop F Y d Q 40 0 rfl
  rw [← l1]
  simp -implicitDefEqProofs (disch := first | omega | (simp (disch := omega) only [nb_upr]; omega)) only [R_376, w_376_0, zi_31, zi_96i, zi_96r, zi_96u, zi_96a, zi_32i, zi_32r, zi_32u, zi_32a, zi_33, zi_34, zi_0, zi_0n, zi_226, zi_173, zi_157, zi_231, zi_108, zi_216i, zi_216r, zi_216u, zi_216a, zi_113, zi_39i, zi_39r, zi_39u, zi_39a, zi_40, zi_88, zi_67w1, zi_67w2, kC_eq, toL_s, toL_n, okS0, okS1, okS2, okS3, okS4, okS5, true_and, and_true, hT_wI, hL_wI, hR_wI, hI_wI, hJ_wI, sI_wI, rfP, isIA_100, isIA_120, inb_ok, nI_clamp, nI_add, nI_mul, ↓reduceIte, not_false_eq_true, not_true_eq_false, true_or, or_true, ↓bI_01, ↓b01_0, ↓b01_1, bI_0, z00, z10, n4, n5, n2, n8, Nat.reduceMul, Nat.reduceAdd, Nat.reduceLT, Nat.reduceLeDiff]
  rfl
theorem e_firstFit (F : FR h) (Y : Nat → Nat → Int32) (d : Nat) (Q : Option Value → PH → Prop) : Run d 384 [.ref 100] (wI h Y) Q = Q (some (.int (ff (Y 109) 40 0))) (wI h Y) := by
  have l1 := first_loop F Y d Q 40 0 rfl
  rw [← l1]
  simp -implicitDefEqProofs (disch := first | omega | (simp (disch := omega) only [nb_upr]; omega)) only [R_384, w_384_0, zi_31, zi_96i, zi_96r, zi_96u, zi_96a, zi_33, zi_88, zi_0, zi_0n, zi_226, zi_173, zi_157, zi_231, zi_108, zi_140, zi_59, zi_238, zi_79, zi_196, zi_70, zi_67w1, zi_67w2, zi_216i, zi_216r, zi_216u, zi_216a, zi_40, zi_208, kC_eq, toL_s, toL_n, okS0, okS1, okS2, okS3, okS4, okS5, true_and, and_true, hT_wI, hL_wI, hR_wI, hI_wI, hJ_wI, sI_wI, rfP, isIA_100, isIA_120, inb_ok, nI_clamp, nI_add, nI_mul, ↓reduceIte, not_false_eq_true, not_true_eq_false, true_or, or_true, ↓bI_01, ↓b01_0, ↓b01_1, bI_0, z00, z10, n4, n5, n2, n8, Nat.reduceMul, Nat.reduceAdd, Nat.reduceLT, Nat.reduceLeDiff]
/-! the reference -/
theorem mfits_1 (F : FR h) (X : Nat → Nat → Int32) (s v : Int32) (d : Nat) (Q : Option Value → PH → Prop) :
    ∀ (j p : Nat), p + j = 40 → WP d 1210 4 [.ref 233, .int s, .int v, .int (nI p), .retAddr 0, .retAddr 0] [] (wI h (fl1 X 243 p)) Q = WP d 1210 5 [.ref 233, .int s, .int v, .int (nI 40), .retAddr 0, .retAddr 0] [] (wI h (fl1 X 243 40)) Q := by
  intro j
  induction j with
  | zero =>
    intro p hp
    obtain rfl : p = 40 := by omega
    rw [w_1210_4]
    simp -implicitDefEqProofs (disch := first | omega | (simp (disch := omega) only [nb_upr]; omega)) only [zi_88, zi_505, zi_66, zi_34, zi_31, zi_48, zi_362, zi_452, zi_33, zi_37, zi_67w1, zi_67w2, zi_0, zi_0n, zi_506, zi_106, zi_385, zi_220, zi_111i, zi_111r, zi_111u, zi_111a, zi_133, zi_63, zi_17, zi_166, zi_507, zi_227, zi_158i, zi_158r, zi_158u, zi_158a, zi_131, zi_357, zi_487, zi_378, zi_237, zi_508, zi_464, zi_74i, zi_74r, zi_74u, zi_74a, zi_214, zi_76, zi_396, zi_231, zi_325, zi_509, zi_79, zi_70, zi_233, zi_59, zi_238, zi_196, zi_453, zi_232, zi_234, zi_303, zi_304, zi_305, zi_85i, zi_85r, zi_85u, zi_85a, zi_213, zi_478, zi_236, zi_208, zi_510, zi_164i, zi_164r, zi_164u, zi_164a, zi_465, zi_165, zi_511, zi_512, zi_406, zi_407, zi_403, zi_140, zi_513, zi_514, zi_515i, zi_515r, zi_515u, zi_515a, zi_408, zi_516, zi_517, zi_518, kC_eq, toL_s, toL_n, okS0, okS1, okS2, okS3, okS4, okS5, true_and, and_true, hT_wI, hL_wI, hR_wI, hI_wI, hJ_wI, sI_wI, rfP, isIA_100, isIA_120, inb_ok, nI_clamp, nI_add, nI_mul, ↓reduceIte, not_false_eq_true, not_true_eq_false, true_or, or_true, ↓bI_01, ↓b01_0, ↓b01_1, bI_0, z00, z10, n4, n5, n2, n8, Nat.reduceMul, Nat.reduceAdd, Nat.reduceLT, Nat.reduceLeDiff, nI_eq, nI_leI, nI_ltI, Nat.reduceEqDiff, pk_div, nI_sub, Nat.reduceDiv, Nat.reduceSub, Nat.le_refl]
  | succ j ih0 =>
    intro p hp
    have g : ¬ 40 ≤ p := by omega
    rw [← ih0 (p + 1) (by omega), w_1210_4]
    simp -implicitDefEqProofs (disch := first | omega | (simp (disch := omega) only [nb_upr]; omega)) only [zi_88, zi_505, zi_66, zi_34, zi_31, zi_48, zi_362, zi_452, zi_33, zi_37, zi_67w1, zi_67w2, zi_0, zi_0n, zi_506, zi_106, zi_385, zi_220, zi_111i, zi_111r, zi_111u, zi_111a, zi_133, zi_63, zi_17, zi_166, zi_507, zi_227, zi_158i, zi_158r, zi_158u, zi_158a, zi_131, zi_357, zi_487, zi_378, zi_237, zi_508, zi_464, zi_74i, zi_74r, zi_74u, zi_74a, zi_214, zi_76, zi_396, zi_231, zi_325, zi_509, zi_79, zi_70, zi_233, zi_59, zi_238, zi_196, zi_453, zi_232, zi_234, zi_303, zi_304, zi_305, zi_85i, zi_85r, zi_85u, zi_85a, zi_213, zi_478, zi_236, zi_208, zi_510, zi_164i, zi_164r, zi_164u, zi_164a, zi_465, zi_165, zi_511, zi_512, zi_406, zi_407, zi_403, zi_140, zi_513, zi_514, zi_515i, zi_515r, zi_515u, zi_515a, zi_408, zi_516, zi_517, zi_518, F.t233, F.r233_20, F.t243, F.l243, kC_eq, toL_s, toL_n, okS0, okS1, okS2, okS3, okS4, okS5, true_and, and_true, hT_wI, hL_wI, hR_wI, hI_wI, hJ_wI, sI_wI, rfP, isIA_100, isIA_120, inb_ok, nI_clamp, nI_add, nI_mul, ↓reduceIte, not_false_eq_true, not_true_eq_false, true_or, or_true, ↓bI_01, ↓b01_0, ↓b01_1, bI_0, z00, z10, n4, n5, n2, n8, Nat.reduceMul, Nat.reduceAdd, Nat.reduceLT, Nat.reduceLeDiff, nI_eq, nI_leI, nI_ltI, Nat.reduceEqDiff, pk_div, nI_sub, Nat.reduceDiv, Nat.reduceSub, g, fl1_up]
theorem mfits_in (F : FR h) (X : Nat → Nat → Int32) (J : Nat → Int64) (s m i : Nat) (hs : s < 4) (hm : m ≤ 40) (hi : i < m) (hJ' : hJ h 248 (40 * s + i) = J i) (v : Int32) (v5 : Value) (d : Nat) (hd : 1 ≤ d) (Q : Option Value → PH → Prop) :
    ∀ (j p : Nat), p + j = 40 → WP d 1210 7 [.ref 233, .int (nI s), .int v, .int (nI i), .int (nI p), v5] [] (wI h (mw (ftW X 243 r J i p) 234 (bel r i))) Q = WP d 1210 10 [.ref 233, .int (nI s), .int v, .int (nI i), .int (nI 40), v5] [] (wI h (mw (ftW X 243 r J i 40) 234 (bel r i))) Q := by
  intro j
  induction j with
  | zero =>
    intro p hp
    obtain rfl : p = 40 := by omega
    rw [w_1210_7]
    simp -implicitDefEqProofs (disch := first | omega | (simp (disch := omega) only [nb_upr]; omega)) only [zi_88, zi_505, zi_66, zi_34, zi_31, zi_48, zi_362, zi_452, zi_33, zi_37, zi_67w1, zi_67w2, zi_0, zi_0n, zi_506, zi_106, zi_385, zi_220, zi_111i, zi_111r, zi_111u, zi_111a, zi_133, zi_63, zi_17, zi_166, zi_507, zi_227, zi_158i, zi_158r, zi_158u, zi_158a, zi_131, zi_357, zi_487, zi_378, zi_237, zi_508, zi_464, zi_74i, zi_74r, zi_74u, zi_74a, zi_214, zi_76, zi_396, zi_231, zi_325, zi_509, zi_79, zi_70, zi_233, zi_59, zi_238, zi_196, zi_453, zi_232, zi_234, zi_303, zi_304, zi_305, zi_85i, zi_85r, zi_85u, zi_85a, zi_213, zi_478, zi_236, zi_208, zi_510, zi_164i, zi_164r, zi_164u, zi_164a, zi_465, zi_165, zi_511, zi_512, zi_406, zi_407, zi_403, zi_140, zi_513, zi_514, zi_515i, zi_515r, zi_515u, zi_515a, zi_408, zi_516, zi_517, zi_518, kC_eq, toL_s, toL_n, okS0, okS1, okS2, okS3, okS4, okS5, true_and, and_true, hT_wI, hL_wI, hR_wI, hI_wI, hJ_wI, sI_wI, rfP, isIA_100, isIA_120, inb_ok, nI_clamp, nI_add, nI_mul, ↓reduceIte, not_false_eq_true, not_true_eq_false, true_or, or_true, ↓bI_01, ↓b01_0, ↓b01_1, bI_0, z00, z10, n4, n5, n2, n8, Nat.reduceMul, Nat.reduceAdd, Nat.reduceLT, Nat.reduceLeDiff, nI_eq, nI_leI, nI_ltI, Nat.reduceEqDiff, pk_div, nI_sub, Nat.reduceDiv, Nat.reduceSub, Nat.le_refl]
  | succ j ih0 =>
    intro p hp
    have g : ¬ 40 ≤ p := by omega
    have e1 : mw (ftW X 243 r J i p) 234 (bel r i) 243 p = ft r J i p := by rw [mw_out (by decide), ftW_at (by omega) (Nat.le_refl p)]
    have e3 : up2 (mw (ftW X 243 r J i p) 234 (bel r i)) 243 p (ft r J (i + 1) p) = mw (ftW X 243 r J i (p + 1)) 234 (bel r i) := by
      rw [mw_up2 (by decide), ftW_up (by omega)]
    have e4 : 12 + 7 * (p / 5) + p % 5 = pq p := rfl
    have em : p - p / 5 * 5 = p % 5 := by omega
    have b1 : p / 5 < 8 := by omega
    have b2 : p % 5 < 5 := by omega
    have sy : (J i = (bel r i (pq p)).toInt64) = ((bel r i (pq p)).toInt64 = J i) := propext eq_comm
    rw [← ih0 (p + 1) (by omega), w_1210_7]
    by_cases z0 : ft r J i p = 0
    · rw [ft_0 z0] at e3
      simp -implicitDefEqProofs (disch := first | omega | (simp (disch := omega) only [nb_upr]; omega)) only [w_1210_8, w_1210_9, zi_88, zi_505, zi_66, zi_34, zi_31, zi_48, zi_362, zi_452, zi_33, zi_37, zi_67w1, zi_67w2, zi_0, zi_0n, zi_506, zi_106, zi_385, zi_220, zi_111i, zi_111r, zi_111u, zi_111a, zi_133, zi_63, zi_17, zi_166, zi_507, zi_227, zi_158i, zi_158r, zi_158u, zi_158a, zi_131, zi_357, zi_487, zi_378, zi_237, zi_508, zi_464, zi_74i, zi_74r, zi_74u, zi_74a, zi_214, zi_76, zi_396, zi_231, zi_325, zi_509, zi_79, zi_70, zi_233, zi_59, zi_238, zi_196, zi_453, zi_232, zi_234, zi_303, zi_304, zi_305, zi_85i, zi_85r, zi_85u, zi_85a, zi_213, zi_478, zi_236, zi_208, zi_510, zi_164i, zi_164r, zi_164u, zi_164a, zi_465, zi_165, zi_511, zi_512, zi_406, zi_407, zi_403, zi_140, zi_513, zi_514, zi_515i, zi_515r, zi_515u, zi_515a, zi_408, zi_516, zi_517, zi_518, F.t233, F.r233_20, F.t243, F.l243, kC_eq, toL_s, toL_n, okS0, okS1, okS2, okS3, okS4, okS5, true_and, and_true, hT_wI, hL_wI, hR_wI, hI_wI, hJ_wI, sI_wI, rfP, isIA_100, isIA_120, inb_ok, nI_clamp, nI_add, nI_mul, ↓reduceIte, not_false_eq_true, not_true_eq_false, true_or, or_true, ↓bI_01, ↓b01_0, ↓b01_1, bI_0, z00, z10, n4, n5, n2, n8, Nat.reduceMul, Nat.reduceAdd, Nat.reduceLT, Nat.reduceLeDiff, nI_eq, nI_leI, nI_ltI, Nat.reduceEqDiff, pk_div, nI_sub, Nat.reduceDiv, Nat.reduceSub, g, e1, z0, e3]
    · by_cases z1 : (bel r i (pq p)).toInt64 = J i
      · rw [ft_1 z0 z1] at e3
        simp -implicitDefEqProofs (disch := first | omega | (simp (disch := omega) only [nb_upr]; omega)) only [w_1210_8, w_1210_9, zi_88, zi_505, zi_66, zi_34, zi_31, zi_48, zi_362, zi_452, zi_33, zi_37, zi_67w1, zi_67w2, zi_0, zi_0n, zi_506, zi_106, zi_385, zi_220, zi_111i, zi_111r, zi_111u, zi_111a, zi_133, zi_63, zi_17, zi_166, zi_507, zi_227, zi_158i, zi_158r, zi_158u, zi_158a, zi_131, zi_357, zi_487, zi_378, zi_237, zi_508, zi_464, zi_74i, zi_74r, zi_74u, zi_74a, zi_214, zi_76, zi_396, zi_231, zi_325, zi_509, zi_79, zi_70, zi_233, zi_59, zi_238, zi_196, zi_453, zi_232, zi_234, zi_303, zi_304, zi_305, zi_85i, zi_85r, zi_85u, zi_85a, zi_213, zi_478, zi_236, zi_208, zi_510, zi_164i, zi_164r, zi_164u, zi_164a, zi_465, zi_165, zi_511, zi_512, zi_406, zi_407, zi_403, zi_140, zi_513, zi_514, zi_515i, zi_515r, zi_515u, zi_515a, zi_408, zi_516, zi_517, zi_518, F.t233, F.r233_20, F.t243, F.l243, F.r233_26, F.t248, F.l248, kC_eq, toL_s, toL_n, okS0, okS1, okS2, okS3, okS4, okS5, true_and, and_true, hT_wI, hL_wI, hR_wI, hI_wI, hJ_wI, sI_wI, rfP, isIA_100, isIA_120, inb_ok, nI_clamp, nI_add, nI_mul, ↓reduceIte, not_false_eq_true, not_true_eq_false, true_or, or_true, ↓bI_01, ↓b01_0, ↓b01_1, bI_0, z00, z10, n4, n5, n2, n8, Nat.reduceMul, Nat.reduceAdd, Nat.reduceLT, Nat.reduceLeDiff, nI_eq, nI_leI, nI_ltI, Nat.reduceEqDiff, pk_div, nI_sub, Nat.reduceDiv, Nat.reduceSub, g, e1, z0, em, e_at F b1 b2, e4, hJ', lgz, sy, z1, e3]
      · rw [ft_2 z0 z1] at e3
        simp -implicitDefEqProofs (disch := first | omega | (simp (disch := omega) only [nb_upr]; omega)) only [w_1210_8, w_1210_9, zi_88, zi_505, zi_66, zi_34, zi_31, zi_48, zi_362, zi_452, zi_33, zi_37, zi_67w1, zi_67w2, zi_0, zi_0n, zi_506, zi_106, zi_385, zi_220, zi_111i, zi_111r, zi_111u, zi_111a, zi_133, zi_63, zi_17, zi_166, zi_507, zi_227, zi_158i, zi_158r, zi_158u, zi_158a, zi_131, zi_357, zi_487, zi_378, zi_237, zi_508, zi_464, zi_74i, zi_74r, zi_74u, zi_74a, zi_214, zi_76, zi_396, zi_231, zi_325, zi_509, zi_79, zi_70, zi_233, zi_59, zi_238, zi_196, zi_453, zi_232, zi_234, zi_303, zi_304, zi_305, zi_85i, zi_85r, zi_85u, zi_85a, zi_213, zi_478, zi_236, zi_208, zi_510, zi_164i, zi_164r, zi_164u, zi_164a, zi_465, zi_165, zi_511, zi_512, zi_406, zi_407, zi_403, zi_140, zi_513, zi_514, zi_515i, zi_515r, zi_515u, zi_515a, zi_408, zi_516, zi_517, zi_518, F.t233, F.r233_20, F.t243, F.l243, F.r233_26, F.t248, F.l248, kC_eq, toL_s, toL_n, okS0, okS1, okS2, okS3, okS4, okS5, true_and, and_true, hT_wI, hL_wI, hR_wI, hI_wI, hJ_wI, sI_wI, rfP, isIA_100, isIA_120, inb_ok, nI_clamp, nI_add, nI_mul, ↓reduceIte, not_false_eq_true, not_true_eq_false, true_or, or_true, ↓bI_01, ↓b01_0, ↓b01_1, bI_0, z00, z10, n4, n5, n2, n8, Nat.reduceMul, Nat.reduceAdd, Nat.reduceLT, Nat.reduceLeDiff, nI_eq, nI_leI, nI_ltI, Nat.reduceEqDiff, pk_div, nI_sub, Nat.reduceDiv, Nat.reduceSub, g, e1, z0, em, e_at F b1 b2, e4, hJ', lgz, sy, z1, e3]
theorem mfits_loop (F : FR h) (V : Vr n r) (J : Nat → Int64) (s m : Nat) (hs : s < 4) (hm : m ≤ 40) (hJ' : ∀ i, i < m → hJ h 248 (40 * s + i) = J i) (v : Int32) (d : Nat) (hd : 3 ≤ d) (g : Nat → Nat → Int32) (hg : g 247 s = nI m) :
    ∀ (j i : Nat) (f1 : Nat → Nat → Int32) (v4 : Value), (Sc g f1 ∧ rm f1 237 = r ∧ ∀ k, k < 40 → f1 243 k = ft r J i k) → i + j = m →
      ∃ f', Sc g f' ∧ (∀ k, k < 40 → f' 243 k = ft r J m k) ∧ ∀ Q, WP d 1210 6 [.ref 233, .int (nI s), .int v, .int (nI i), v4, .retAddr 0] [] (wI h (mw f1 234 (bel r i))) Q = WP d 1210 12 [.ref 233, .int (nI s), .int v, .int (nI 0), .int (Int32.ofInt (-3)), .int (nI 39)] [] (wI h (mw f' 234 r)) Q := by
  intro j
  induction j with
  | zero =>
    intro i f1 v4 H hi
    obtain rfl : i = m := by omega
    have e7 : mw f1 234 (bel r i) 247 s = nI i := by rw [mw_out (by decide), H.1 247 s rfl, hg]
    obtain ⟨X, h1, h2, h3⟩ := e_move (h := h) 237 234 F.t237 F.l237 F.t234 F.l234 (by decide) (mw f1 234 (bel r i))
    have e8 : (mw f1 234 (bel r i)) 237 = f1 237 := by funext k; exact mw_out (by decide)
    rw [rm_eq e8, H.2.1] at h2
    have e : mw X 234 r = X := by
      have := mw_rm X 234
      rwa [h2] at this
    refine ⟨X, fun a k ha => ?_, fun k hk => ?_, fun Q => ?_⟩
    · rw [h1 a (by rintro rfl; cases ha), mw_out (by rintro rfl; cases ha)]
      exact H.1 a k ha
    · rw [h1 243 (by decide), mw_out (by decide)]
      exact H.2.2 k hk
    · rw [e, w_1210_6]
      simp -implicitDefEqProofs (disch := first | omega | (simp (disch := omega) only [nb_upr]; omega)) only [w_1210_11, zi_88, zi_505, zi_66, zi_34, zi_31, zi_48, zi_362, zi_452, zi_33, zi_37, zi_67w1, zi_67w2, zi_0, zi_0n, zi_506, zi_106, zi_385, zi_220, zi_111i, zi_111r, zi_111u, zi_111a, zi_133, zi_63, zi_17, zi_166, zi_507, zi_227, zi_158i, zi_158r, zi_158u, zi_158a, zi_131, zi_357, zi_487, zi_378, zi_237, zi_508, zi_464, zi_74i, zi_74r, zi_74u, zi_74a, zi_214, zi_76, zi_396, zi_231, zi_325, zi_509, zi_79, zi_70, zi_233, zi_59, zi_238, zi_196, zi_453, zi_232, zi_234, zi_303, zi_304, zi_305, zi_85i, zi_85r, zi_85u, zi_85a, zi_213, zi_478, zi_236, zi_208, zi_510, zi_164i, zi_164r, zi_164u, zi_164a, zi_465, zi_165, zi_511, zi_512, zi_406, zi_407, zi_403, zi_140, zi_513, zi_514, zi_515i, zi_515r, zi_515u, zi_515a, zi_408, zi_516, zi_517, zi_518, F.t233, F.r233_24, F.t246, F.l246, F.r233_20, F.t243, F.l243, F.r233_0, F.t234, F.l234, F.r233_3, F.t237, F.l237, F.r233_25, F.t247, F.l247, F.r233_26, F.t248, F.l248, kC_eq, toL_s, toL_n, okS0, okS1, okS2, okS3, okS4, okS5, true_and, and_true, hT_wI, hL_wI, hR_wI, hI_wI, hJ_wI, sI_wI, rfP, isIA_100, isIA_120, inb_ok, nI_clamp, nI_add, nI_mul, ↓reduceIte, not_false_eq_true, not_true_eq_false, true_or, or_true, ↓bI_01, ↓b01_0, ↓b01_1, bI_0, z00, z10, n4, n5, n2, n8, Nat.reduceMul, Nat.reduceAdd, Nat.reduceLT, Nat.reduceLeDiff, nI_eq, nI_leI, nI_ltI, Nat.reduceEqDiff, pk_div, nI_sub, Nat.reduceDiv, Nat.reduceSub, Nat.le_refl, e7, h3]
  | succ j ih0 =>
    intro i f1 v4 H hi
    have g0 : ¬ m ≤ i := by omega
    have e7 : mw f1 234 (bel r i) 247 s = nI m := by rw [mw_out (by decide), H.1 247 s rfl, hg]
    have es : ftW f1 243 r J i 0 = f1 := ftW_self H.2.2
    obtain ⟨f2, ⟨s2, -⟩, eb⟩ := e_bellGoes (d := d - 1) (f := ftW f1 243 r J i 40) F (Vr_bel V i).vs (by omega)
    have sc1 : Sc f1 (ftW f1 243 r J i 40) := fun a k ha => ftW_ne (by rintro rfl; cases ha)
    obtain ⟨f', sc', hv, ih⟩ := ih0 (i + 1) f2 (.int (nI 40)) ⟨(H.1.trans sc1).trans s2.sc, by
      rw [s2.r237, rm_eq (g := f1) (by funext k; exact ftW_ne (by decide)), H.2.1], fun k hk => by
      rw [s2 243 k rfl, ftW_end, ftW_at hk (Nat.zero_le k)]⟩ (by omega)
    refine ⟨f', sc', hv, fun Q => ?_⟩
    have p10 : WP d 1210 10 [.ref 233, .int (nI s), .int v, .int (nI i), .int (nI 40), .retAddr 0] [] (wI h (mw (ftW f1 243 r J i 40) 234 (bel r i))) Q = WP d 1210 6 [.ref 233, .int (nI s), .int v, .int (nI (i + 1)), .int (nI 40), .retAddr 0] [] (wI h (mw f2 234 (bel r (i + 1)))) Q := by
      rw [w_1210_10]
      simp -implicitDefEqProofs (disch := first | omega | (simp (disch := omega) only [nb_upr]; omega)) only [zi_88, zi_505, zi_66, zi_34, zi_31, zi_48, zi_362, zi_452, zi_33, zi_37, zi_67w1, zi_67w2, zi_0, zi_0n, zi_506, zi_106, zi_385, zi_220, zi_111i, zi_111r, zi_111u, zi_111a, zi_133, zi_63, zi_17, zi_166, zi_507, zi_227, zi_158i, zi_158r, zi_158u, zi_158a, zi_131, zi_357, zi_487, zi_378, zi_237, zi_508, zi_464, zi_74i, zi_74r, zi_74u, zi_74a, zi_214, zi_76, zi_396, zi_231, zi_325, zi_509, zi_79, zi_70, zi_233, zi_59, zi_238, zi_196, zi_453, zi_232, zi_234, zi_303, zi_304, zi_305, zi_85i, zi_85r, zi_85u, zi_85a, zi_213, zi_478, zi_236, zi_208, zi_510, zi_164i, zi_164r, zi_164u, zi_164a, zi_465, zi_165, zi_511, zi_512, zi_406, zi_407, zi_403, zi_140, zi_513, zi_514, zi_515i, zi_515r, zi_515u, zi_515a, zi_408, zi_516, zi_517, zi_518, F.t233, kC_eq, toL_s, toL_n, okS0, okS1, okS2, okS3, okS4, okS5, true_and, and_true, hT_wI, hL_wI, hR_wI, hI_wI, hJ_wI, sI_wI, rfP, isIA_100, isIA_120, inb_ok, nI_clamp, nI_add, nI_mul, ↓reduceIte, not_false_eq_true, not_true_eq_false, true_or, or_true, ↓bI_01, ↓b01_0, ↓b01_1, bI_0, z00, z10, n4, n5, n2, n8, Nat.reduceMul, Nat.reduceAdd, Nat.reduceLT, Nat.reduceLeDiff, nI_eq, nI_leI, nI_ltI, Nat.reduceEqDiff, pk_div, nI_sub, Nat.reduceDiv, Nat.reduceSub, eb]
      rfl
    rw [← ih Q, ← p10, ← mfits_in F f1 J s m i hs hm (by omega) (hJ' i (by omega)) v (.retAddr 0) d (by omega) Q 40 0 rfl, es, w_1210_6]
    simp -implicitDefEqProofs (disch := first | omega | (simp (disch := omega) only [nb_upr]; omega)) only [zi_88, zi_505, zi_66, zi_34, zi_31, zi_48, zi_362, zi_452, zi_33, zi_37, zi_67w1, zi_67w2, zi_0, zi_0n, zi_506, zi_106, zi_385, zi_220, zi_111i, zi_111r, zi_111u, zi_111a, zi_133, zi_63, zi_17, zi_166, zi_507, zi_227, zi_158i, zi_158r, zi_158u, zi_158a, zi_131, zi_357, zi_487, zi_378, zi_237, zi_508, zi_464, zi_74i, zi_74r, zi_74u, zi_74a, zi_214, zi_76, zi_396, zi_231, zi_325, zi_509, zi_79, zi_70, zi_233, zi_59, zi_238, zi_196, zi_453, zi_232, zi_234, zi_303, zi_304, zi_305, zi_85i, zi_85r, zi_85u, zi_85a, zi_213, zi_478, zi_236, zi_208, zi_510, zi_164i, zi_164r, zi_164u, zi_164a, zi_465, zi_165, zi_511, zi_512, zi_406, zi_407, zi_403, zi_140, zi_513, zi_514, zi_515i, zi_515r, zi_515u, zi_515a, zi_408, zi_516, zi_517, zi_518, F.t233, F.r233_24, F.t246, F.l246, F.r233_20, F.t243, F.l243, F.r233_0, F.t234, F.l234, F.r233_3, F.t237, F.l237, F.r233_25, F.t247, F.l247, F.r233_26, F.t248, F.l248, kC_eq, toL_s, toL_n, okS0, okS1, okS2, okS3, okS4, okS5, true_and, and_true, hT_wI, hL_wI, hR_wI, hI_wI, hJ_wI, sI_wI, rfP, isIA_100, isIA_120, inb_ok, nI_clamp, nI_add, nI_mul, ↓reduceIte, not_false_eq_true, not_true_eq_false, true_or, or_true, ↓bI_01, ↓b01_0, ↓b01_1, bI_0, z00, z10, n4, n5, n2, n8, Nat.reduceMul, Nat.reduceAdd, Nat.reduceLT, Nat.reduceLeDiff, nI_eq, nI_leI, nI_ltI, Nat.reduceEqDiff, pk_div, nI_sub, Nat.reduceDiv, Nat.reduceSub, g0, e7]
theorem nI_m1 (q : Nat) : nI (q + 1) + Int32.ofInt (-1) = nI q := by
  rw [← nI_add q 1]
  show nI q + nI 1 + Int32.ofInt (-1) = nI q
  have : (Int32.ofInt (-1) : Int32) = - nI 1 := by decide
  rw [this, ← Int32.sub_eq_add_neg, Int32.add_sub_cancel]
theorem mcount_loop (F : FR h) (G : Nat → Nat → Int32) (s v : Int32) (d : Nat) (Q : Option Value → PH → Prop) :
    ∀ q, q ≤ 40 → WP d 1210 12 [.ref 233, .int s, .int v, .int (nI (cu (G 243) 40 - cu (G 243) q)), .int (ff (G 243) (40 - q) q), .int (nI q + Int32.ofInt (-1))] [] (wI h G) Q = Q (some (.int (if v = 0 then nI (cu (G 243) 40) else ff (G 243) 40 0))) (wI h G) := by
  intro q
  induction q with
  | zero =>
    intro _
    have z : (nI 0 + Int32.ofInt (-1) < 0) = True := by decide
    have e0 : cu (G 243) 40 - cu (G 243) 0 = cu (G 243) 40 := rfl
    rw [e0, w_1210_12]
    by_cases hv : v = 0
    · rw [if_pos hv]
      simp -implicitDefEqProofs (disch := first | omega | (simp (disch := omega) only [nb_upr]; omega)) only [w_1210_17, w_1210_18, w_1210_19, zi_88, zi_505, zi_66, zi_34, zi_31, zi_48, zi_362, zi_452, zi_33, zi_37, zi_67w1, zi_67w2, zi_0, zi_0n, zi_506, zi_106, zi_385, zi_220, zi_111i, zi_111r, zi_111u, zi_111a, zi_133, zi_63, zi_17, zi_166, zi_507, zi_227, zi_158i, zi_158r, zi_158u, zi_158a, zi_131, zi_357, zi_487, zi_378, zi_237, zi_508, zi_464, zi_74i, zi_74r, zi_74u, zi_74a, zi_214, zi_76, zi_396, zi_231, zi_325, zi_509, zi_79, zi_70, zi_233, zi_59, zi_238, zi_196, zi_453, zi_232, zi_234, zi_303, zi_304, zi_305, zi_85i, zi_85r, zi_85u, zi_85a, zi_213, zi_478, zi_236, zi_208, zi_510, zi_164i, zi_164r, zi_164u, zi_164a, zi_465, zi_165, zi_511, zi_512, zi_406, zi_407, zi_403, zi_140, zi_513, zi_514, zi_515i, zi_515r, zi_515u, zi_515a, zi_408, zi_516, zi_517, zi_518, kC_eq, toL_s, toL_n, okS0, okS1, okS2, okS3, okS4, okS5, true_and, and_true, hT_wI, hL_wI, hR_wI, hI_wI, hJ_wI, sI_wI, rfP, isIA_100, isIA_120, inb_ok, nI_clamp, nI_add, nI_mul, ↓reduceIte, not_false_eq_true, not_true_eq_false, true_or, or_true, ↓bI_01, ↓b01_0, ↓b01_1, bI_0, z00, z10, n4, n5, n2, n8, Nat.reduceMul, Nat.reduceAdd, Nat.reduceLT, Nat.reduceLeDiff, nI_eq, nI_leI, nI_ltI, Nat.reduceEqDiff, pk_div, nI_sub, Nat.reduceDiv, Nat.reduceSub, z, hv]
    · rw [if_neg hv]
      simp -implicitDefEqProofs (disch := first | omega | (simp (disch := omega) only [nb_upr]; omega)) only [w_1210_17, w_1210_18, w_1210_19, zi_88, zi_505, zi_66, zi_34, zi_31, zi_48, zi_362, zi_452, zi_33, zi_37, zi_67w1, zi_67w2, zi_0, zi_0n, zi_506, zi_106, zi_385, zi_220, zi_111i, zi_111r, zi_111u, zi_111a, zi_133, zi_63, zi_17, zi_166, zi_507, zi_227, zi_158i, zi_158r, zi_158u, zi_158a, zi_131, zi_357, zi_487, zi_378, zi_237, zi_508, zi_464, zi_74i, zi_74r, zi_74u, zi_74a, zi_214, zi_76, zi_396, zi_231, zi_325, zi_509, zi_79, zi_70, zi_233, zi_59, zi_238, zi_196, zi_453, zi_232, zi_234, zi_303, zi_304, zi_305, zi_85i, zi_85r, zi_85u, zi_85a, zi_213, zi_478, zi_236, zi_208, zi_510, zi_164i, zi_164r, zi_164u, zi_164a, zi_465, zi_165, zi_511, zi_512, zi_406, zi_407, zi_403, zi_140, zi_513, zi_514, zi_515i, zi_515r, zi_515u, zi_515a, zi_408, zi_516, zi_517, zi_518, kC_eq, toL_s, toL_n, okS0, okS1, okS2, okS3, okS4, okS5, true_and, and_true, hT_wI, hL_wI, hR_wI, hI_wI, hJ_wI, sI_wI, rfP, isIA_100, isIA_120, inb_ok, nI_clamp, nI_add, nI_mul, ↓reduceIte, not_false_eq_true, not_true_eq_false, true_or, or_true, ↓bI_01, ↓b01_0, ↓b01_1, bI_0, z00, z10, n4, n5, n2, n8, Nat.reduceMul, Nat.reduceAdd, Nat.reduceLT, Nat.reduceLeDiff, nI_eq, nI_leI, nI_ltI, Nat.reduceEqDiff, pk_div, nI_sub, Nat.reduceDiv, Nat.reduceSub, z, hv]
  | succ q ih0 =>
    intro hq
    have ih := ih0 (by omega)
    have hp : ¬ nI q < (0 : Int32) := nI_pos (by omega)
    have em : q - q / 5 * 5 = q % 5 := by omega
    have ec : cu (G 243) (q + 1) = if G 243 q = 0 then cu (G 243) q else cu (G 243) q + 1 := rfl
    have ef : ff (G 243) (40 - q) q = if G 243 q = 0 then ff (G 243) (40 - (q + 1)) (q + 1) else nI (10 * (q / 5) + q % 5) := by
      rw [show 40 - q = (40 - (q + 1)) + 1 by omega]
      rfl
    have hc := cu_mono (G 243) (q + 1) (40 - (q + 1))
    rw [show q + 1 + (40 - (q + 1)) = 40 by omega] at hc
    rw [ef] at ih
    rw [nI_m1, w_1210_12]
    by_cases z : G 243 q = 0
    · rw [if_pos z] at ec ih
      rw [ec, ← ih]
      simp -implicitDefEqProofs (disch := first | omega | (simp (disch := omega) only [nb_upr]; omega)) only [w_1210_13, w_1210_14, w_1210_15, w_1210_16, zi_88, zi_505, zi_66, zi_34, zi_31, zi_48, zi_362, zi_452, zi_33, zi_37, zi_67w1, zi_67w2, zi_0, zi_0n, zi_506, zi_106, zi_385, zi_220, zi_111i, zi_111r, zi_111u, zi_111a, zi_133, zi_63, zi_17, zi_166, zi_507, zi_227, zi_158i, zi_158r, zi_158u, zi_158a, zi_131, zi_357, zi_487, zi_378, zi_237, zi_508, zi_464, zi_74i, zi_74r, zi_74u, zi_74a, zi_214, zi_76, zi_396, zi_231, zi_325, zi_509, zi_79, zi_70, zi_233, zi_59, zi_238, zi_196, zi_453, zi_232, zi_234, zi_303, zi_304, zi_305, zi_85i, zi_85r, zi_85u, zi_85a, zi_213, zi_478, zi_236, zi_208, zi_510, zi_164i, zi_164r, zi_164u, zi_164a, zi_465, zi_165, zi_511, zi_512, zi_406, zi_407, zi_403, zi_140, zi_513, zi_514, zi_515i, zi_515r, zi_515u, zi_515a, zi_408, zi_516, zi_517, zi_518, F.t233, F.r233_20, F.t243, F.l243, kC_eq, toL_s, toL_n, okS0, okS1, okS2, okS3, okS4, okS5, true_and, and_true, hT_wI, hL_wI, hR_wI, hI_wI, hJ_wI, sI_wI, rfP, isIA_100, isIA_120, inb_ok, nI_clamp, nI_add, nI_mul, ↓reduceIte, not_false_eq_true, not_true_eq_false, true_or, or_true, ↓bI_01, ↓b01_0, ↓b01_1, bI_0, z00, z10, n4, n5, n2, n8, Nat.reduceMul, Nat.reduceAdd, Nat.reduceLT, Nat.reduceLeDiff, nI_eq, nI_leI, nI_ltI, Nat.reduceEqDiff, pk_div, nI_sub, Nat.reduceDiv, Nat.reduceSub, hp, z, Nat.add_zero]
    · rw [if_neg z] at ec ih
      rw [ec] at hc ⊢
      have e2 : cu (G 243) 40 - (cu (G 243) q + 1) + 1 = cu (G 243) 40 - cu (G 243) q := by omega
      rw [← ih]
      simp -implicitDefEqProofs (disch := first | omega | (simp (disch := omega) only [nb_upr]; omega)) only [w_1210_13, w_1210_14, w_1210_15, w_1210_16, zi_88, zi_505, zi_66, zi_34, zi_31, zi_48, zi_362, zi_452, zi_33, zi_37, zi_67w1, zi_67w2, zi_0, zi_0n, zi_506, zi_106, zi_385, zi_220, zi_111i, zi_111r, zi_111u, zi_111a, zi_133, zi_63, zi_17, zi_166, zi_507, zi_227, zi_158i, zi_158r, zi_158u, zi_158a, zi_131, zi_357, zi_487, zi_378, zi_237, zi_508, zi_464, zi_74i, zi_74r, zi_74u, zi_74a, zi_214, zi_76, zi_396, zi_231, zi_325, zi_509, zi_79, zi_70, zi_233, zi_59, zi_238, zi_196, zi_453, zi_232, zi_234, zi_303, zi_304, zi_305, zi_85i, zi_85r, zi_85u, zi_85a, zi_213, zi_478, zi_236, zi_208, zi_510, zi_164i, zi_164r, zi_164u, zi_164a, zi_465, zi_165, zi_511, zi_512, zi_406, zi_407, zi_403, zi_140, zi_513, zi_514, zi_515i, zi_515r, zi_515u, zi_515a, zi_408, zi_516, zi_517, zi_518, F.t233, F.r233_20, F.t243, F.l243, kC_eq, toL_s, toL_n, okS0, okS1, okS2, okS3, okS4, okS5, true_and, and_true, hT_wI, hL_wI, hR_wI, hI_wI, hJ_wI, sI_wI, rfP, isIA_100, isIA_120, inb_ok, nI_clamp, nI_add, nI_mul, ↓reduceIte, not_false_eq_true, not_true_eq_false, true_or, or_true, ↓bI_01, ↓b01_0, ↓b01_1, bI_0, z00, z10, n4, n5, n2, n8, Nat.reduceMul, Nat.reduceAdd, Nat.reduceLT, Nat.reduceLeDiff, nI_eq, nI_leI, nI_ltI, Nat.reduceEqDiff, pk_div, nI_sub, Nat.reduceDiv, Nat.reduceSub, hp, z, e2, em]
theorem cu_eq {P P' : Nat → Int32} (h : ∀ k, k < 40 → P k = P' k) : ∀ k, k ≤ 40 → cu P k = cu P' k
  | 0, _ => rfl
  | k + 1, hk => by
    show (if P k = 0 then cu P k else cu P k + 1) = (if P' k = 0 then cu P' k else cu P' k + 1)
    rw [h k (by omega), cu_eq h k (by omega)]
theorem ff_eq {P P' : Nat → Int32} (h : ∀ k, k < 40 → P k = P' k) : ∀ j k, k + j ≤ 40 → ff P j k = ff P' j k
  | 0, _, _ => rfl
  | j + 1, k, hk => by
    show (if P k = 0 then ff P j (k + 1) else nI (10 * (k / 5) + k % 5)) = (if P' k = 0 then ff P' j (k + 1) else nI (10 * (k / 5) + k % 5))
    rw [h k (by omega), ff_eq h j (k + 1) (by omega)]
theorem e_mshoal (F : FR h) (V : Vr n r) (J : Nat → Int64) (s m : Nat) (hs : s < 4) (hm : m ≤ 40) (hJ' : ∀ i, i < m → hJ h 248 (40 * s + i) = J i) (v : Int32) (g : Nat → Nat → Int32) (hg : g 247 s = nI m) :
    ∃ g', Sc g g' ∧ ∀ Q, WP 30 1210 3 [.ref 233, .int (nI s), .int v, .retAddr 0, .retAddr 0, .retAddr 0] [] (wI h (mw g 234 r)) Q = Q (some (.int (if v = 0 then nI (cu (ft r J m) 40) else ff (ft r J m) 40 0))) (wI h (mw g' 234 r)) := by
  obtain ⟨A, hA⟩ : ∃ A, fl1 (mw g 234 r) 243 40 = A := ⟨_, rfl⟩
  have A234 : rm A 234 = r := by rw [← hA, rm_eq (g := mw g 234 r) (by funext k; exact fl1_ne (by decide)), rm_mw V.z]
  obtain ⟨X, h1, h2, h3⟩ := e_move (h := h) 234 237 F.t234 F.l234 F.t237 F.l237 (by decide) A
  rw [A234] at h2
  have eX : mw X 234 r = X := by
    have := mw_rm X 234
    rwa [rm_eq (h1 234 (by decide)), A234] at this
  have sX : Sc g X := fun a k ha => by
    rw [h1 a (by rintro rfl; cases ha), ← hA, fl1_ne (by rintro rfl; cases ha), mw_out (by rintro rfl; cases ha)]
  obtain ⟨f', sc, hv, el⟩ := mfits_loop F V J s m hs hm hJ' v 30 (by decide) g hg m 0 X (.retAddr 0) ⟨sX, h2, fun k hk => by
    rw [h1 243 (by decide), ← hA]
    exact if_pos ⟨rfl, hk⟩⟩ (by omega)
  have ebel : bel r 0 = r := rfl
  rw [ebel, eX] at el
  refine ⟨f', sc, fun Q => ?_⟩
  have P : ∀ k, k < 40 → mw f' 234 r 243 k = ft r J m k := fun k hk => by rw [mw_out (by decide)]; exact hv k hk
  have hc := mcount_loop F (mw f' 234 r) (nI s) v 30 Q 40 (Nat.le_refl 40)
  have e39 : nI 40 + Int32.ofInt (-1) = nI 39 := nI_m1 39
  have ef : ff (mw f' 234 r 243) (40 - 40) 40 = Int32.ofInt (-3) := rfl
  rw [Nat.sub_self, e39, ef, cu_eq P 40 (Nat.le_refl 40), ff_eq P 40 0 (Nat.le_refl 40)] at hc
  have hl0 := mfits_1 F (mw g 234 r) (nI s) v 30 Q 40 0 rfl
  rw [fl1_0, hA] at hl0
  have p5 : WP 30 1210 5 [.ref 233, .int (nI s), .int v, .int (nI 40), .retAddr 0, .retAddr 0] [] (wI h A) Q = WP 30 1210 6 [.ref 233, .int (nI s), .int v, .int (nI 0), .retAddr 0, .retAddr 0] [] (wI h X) Q := by
    rw [w_1210_5]
    simp -implicitDefEqProofs (disch := first | omega | (simp (disch := omega) only [nb_upr]; omega)) only [zi_88, zi_505, zi_66, zi_34, zi_31, zi_48, zi_362, zi_452, zi_33, zi_37, zi_67w1, zi_67w2, zi_0, zi_0n, zi_506, zi_106, zi_385, zi_220, zi_111i, zi_111r, zi_111u, zi_111a, zi_133, zi_63, zi_17, zi_166, zi_507, zi_227, zi_158i, zi_158r, zi_158u, zi_158a, zi_131, zi_357, zi_487, zi_378, zi_237, zi_508, zi_464, zi_74i, zi_74r, zi_74u, zi_74a, zi_214, zi_76, zi_396, zi_231, zi_325, zi_509, zi_79, zi_70, zi_233, zi_59, zi_238, zi_196, zi_453, zi_232, zi_234, zi_303, zi_304, zi_305, zi_85i, zi_85r, zi_85u, zi_85a, zi_213, zi_478, zi_236, zi_208, zi_510, zi_164i, zi_164r, zi_164u, zi_164a, zi_465, zi_165, zi_511, zi_512, zi_406, zi_407, zi_403, zi_140, zi_513, zi_514, zi_515i, zi_515r, zi_515u, zi_515a, zi_408, zi_516, zi_517, zi_518, F.t233, F.r233_0, F.r233_3, kC_eq, toL_s, toL_n, okS0, okS1, okS2, okS3, okS4, okS5, true_and, and_true, hT_wI, hL_wI, hR_wI, hI_wI, hJ_wI, sI_wI, rfP, isIA_100, isIA_120, inb_ok, nI_clamp, nI_add, nI_mul, ↓reduceIte, not_false_eq_true, not_true_eq_false, true_or, or_true, ↓bI_01, ↓b01_0, ↓b01_1, bI_0, z00, z10, n4, n5, n2, n8, Nat.reduceMul, Nat.reduceAdd, Nat.reduceLT, Nat.reduceLeDiff, h3]
  rw [← hc, ← el Q]
  refine Eq.trans ?_ (hl0.trans p5)
  rw [w_1210_3]
  simp -implicitDefEqProofs (disch := first | omega | (simp (disch := omega) only [nb_upr]; omega)) only [zi_88, zi_505, zi_66, zi_34, zi_31, zi_48, zi_362, zi_452, zi_33, zi_37, zi_67w1, zi_67w2, zi_0, zi_0n, zi_506, zi_106, zi_385, zi_220, zi_111i, zi_111r, zi_111u, zi_111a, zi_133, zi_63, zi_17, zi_166, zi_507, zi_227, zi_158i, zi_158r, zi_158u, zi_158a, zi_131, zi_357, zi_487, zi_378, zi_237, zi_508, zi_464, zi_74i, zi_74r, zi_74u, zi_74a, zi_214, zi_76, zi_396, zi_231, zi_325, zi_509, zi_79, zi_70, zi_233, zi_59, zi_238, zi_196, zi_453, zi_232, zi_234, zi_303, zi_304, zi_305, zi_85i, zi_85r, zi_85u, zi_85a, zi_213, zi_478, zi_236, zi_208, zi_510, zi_164i, zi_164r, zi_164u, zi_164a, zi_465, zi_165, zi_511, zi_512, zi_406, zi_407, zi_403, zi_140, zi_513, zi_514, zi_515i, zi_515r, zi_515u, zi_515a, zi_408, zi_516, zi_517, zi_518, kC_eq, toL_s, toL_n, okS0, okS1, okS2, okS3, okS4, okS5, true_and, and_true, hT_wI, hL_wI, hR_wI, hI_wI, hJ_wI, sI_wI, rfP, isIA_100, isIA_120, inb_ok, nI_clamp, nI_add, nI_mul, ↓reduceIte, not_false_eq_true, not_true_eq_false, true_or, or_true, ↓bI_01, ↓b01_0, ↓b01_1, bI_0, z00, z10, n4, n5, n2, n8, Nat.reduceMul, Nat.reduceAdd, Nat.reduceLT, Nat.reduceLeDiff]
theorem c_shoal (n : Nat) (s v : Int32) : CALL 354 1210 [.int s, .int v] n := by
  refine call_ofF (fun h f r I F T V hrv => ?_)
  have hs := I.2.2.2.2.2.2.2.2.1
  have e1 : ww f 117 r = f := by rw [← hrv, ww_rv]
  by_cases hb : s < nI 0 ∨ nI 3 < s
  · exact ⟨.int (Int32.ofInt (-1)), r, V.mono (by omega), ⟨f, ScC.refl f, fun Q => by simp -implicitDefEqProofs (disch := first | omega | (simp (disch := omega) only [nb_upr]; omega)) only [R_354, w_354_0, w_354_1, zi_88, zi_217, zi_98, zi_34, zi_31, zi_48, zi_65, zi_108, zi_33, zi_37, zi_67w1, zi_67w2, zi_0, zi_0n, zi_218, zi_183, zi_219n, zi_219r, zi_220, zi_221, zi_222, zi_223, zi_224, zi_225, zi_206, kC_eq, toL_s, toL_n, okS0, okS1, okS2, okS3, okS4, okS5, true_and, and_true, hT_wI, hL_wI, hR_wI, hI_wI, hJ_wI, sI_wI, rfP, isIA_100, isIA_120, inb_ok, nI_clamp, nI_add, nI_mul, ↓reduceIte, not_false_eq_true, not_true_eq_false, true_or, or_true, ↓bI_01, ↓b01_0, ↓b01_1, bI_0, z00, z10, n4, n5, n2, n8, Nat.reduceMul, Nat.reduceAdd, Nat.reduceLT, Nat.reduceLeDiff, e_noSheet, hb]⟩, fun g _ _ => ⟨g, Sc.refl g, fun Q => by simp -implicitDefEqProofs (disch := first | omega | (simp (disch := omega) only [nb_upr]; omega)) only [R_1210, w_1210_0, w_1210_1, zi_88, zi_505, zi_66, zi_34, zi_31, zi_48, zi_362, zi_452, zi_33, zi_37, zi_67w1, zi_67w2, zi_0, zi_0n, zi_506, zi_106, zi_385, zi_220, zi_111i, zi_111r, zi_111u, zi_111a, zi_133, zi_63, zi_17, zi_166, zi_507, zi_227, zi_158i, zi_158r, zi_158u, zi_158a, zi_131, zi_357, zi_487, zi_378, zi_237, zi_508, zi_464, zi_74i, zi_74r, zi_74u, zi_74a, zi_214, zi_76, zi_396, zi_231, zi_325, zi_509, zi_79, zi_70, zi_233, zi_59, zi_238, zi_196, zi_453, zi_232, zi_234, zi_303, zi_304, zi_305, zi_85i, zi_85r, zi_85u, zi_85a, zi_213, zi_478, zi_236, zi_208, zi_510, zi_164i, zi_164r, zi_164u, zi_164a, zi_465, zi_165, zi_511, zi_512, zi_406, zi_407, zi_403, zi_140, zi_513, zi_514, zi_515i, zi_515r, zi_515u, zi_515a, zi_408, zi_516, zi_517, zi_518, kC_eq, toL_s, toL_n, okS0, okS1, okS2, okS3, okS4, okS5, true_and, and_true, hT_wI, hL_wI, hR_wI, hI_wI, hJ_wI, sI_wI, rfP, isIA_100, isIA_120, inb_ok, nI_clamp, nI_add, nI_mul, ↓reduceIte, not_false_eq_true, not_true_eq_false, true_or, or_true, ↓bI_01, ↓b01_0, ↓b01_1, bI_0, z00, z10, n4, n5, n2, n8, Nat.reduceMul, Nat.reduceAdd, Nat.reduceLT, Nat.reduceLeDiff, e_isShelf, hb]⟩⟩
  by_cases hz : v < nI 0 ∨ nI 1 < v
  · exact ⟨.int (Int32.ofInt (-1)), r, V.mono (by omega), ⟨f, ScC.refl f, fun Q => by simp -implicitDefEqProofs (disch := first | omega | (simp (disch := omega) only [nb_upr]; omega)) only [R_354, w_354_0, w_354_1, zi_88, zi_217, zi_98, zi_34, zi_31, zi_48, zi_65, zi_108, zi_33, zi_37, zi_67w1, zi_67w2, zi_0, zi_0n, zi_218, zi_183, zi_219n, zi_219r, zi_220, zi_221, zi_222, zi_223, zi_224, zi_225, zi_206, kC_eq, toL_s, toL_n, okS0, okS1, okS2, okS3, okS4, okS5, true_and, and_true, hT_wI, hL_wI, hR_wI, hI_wI, hJ_wI, sI_wI, rfP, isIA_100, isIA_120, inb_ok, nI_clamp, nI_add, nI_mul, ↓reduceIte, not_false_eq_true, not_true_eq_false, true_or, or_true, ↓bI_01, ↓b01_0, ↓b01_1, bI_0, z00, z10, n4, n5, n2, n8, Nat.reduceMul, Nat.reduceAdd, Nat.reduceLT, Nat.reduceLeDiff, e_noSheet, hb, e_outside, hz]⟩, fun g _ _ => ⟨g, Sc.refl g, fun Q => by simp -implicitDefEqProofs (disch := first | omega | (simp (disch := omega) only [nb_upr]; omega)) only [R_1210, w_1210_0, w_1210_1, zi_88, zi_505, zi_66, zi_34, zi_31, zi_48, zi_362, zi_452, zi_33, zi_37, zi_67w1, zi_67w2, zi_0, zi_0n, zi_506, zi_106, zi_385, zi_220, zi_111i, zi_111r, zi_111u, zi_111a, zi_133, zi_63, zi_17, zi_166, zi_507, zi_227, zi_158i, zi_158r, zi_158u, zi_158a, zi_131, zi_357, zi_487, zi_378, zi_237, zi_508, zi_464, zi_74i, zi_74r, zi_74u, zi_74a, zi_214, zi_76, zi_396, zi_231, zi_325, zi_509, zi_79, zi_70, zi_233, zi_59, zi_238, zi_196, zi_453, zi_232, zi_234, zi_303, zi_304, zi_305, zi_85i, zi_85r, zi_85u, zi_85a, zi_213, zi_478, zi_236, zi_208, zi_510, zi_164i, zi_164r, zi_164u, zi_164a, zi_465, zi_165, zi_511, zi_512, zi_406, zi_407, zi_403, zi_140, zi_513, zi_514, zi_515i, zi_515r, zi_515u, zi_515a, zi_408, zi_516, zi_517, zi_518, kC_eq, toL_s, toL_n, okS0, okS1, okS2, okS3, okS4, okS5, true_and, and_true, hT_wI, hL_wI, hR_wI, hI_wI, hJ_wI, sI_wI, rfP, isIA_100, isIA_120, inb_ok, nI_clamp, nI_add, nI_mul, ↓reduceIte, not_false_eq_true, not_true_eq_false, true_or, or_true, ↓bI_01, ↓b01_0, ↓b01_1, bI_0, z00, z10, n4, n5, n2, n8, Nat.reduceMul, Nat.reduceAdd, Nat.reduceLT, Nat.reduceLeDiff, e_isShelf, hb, e_in, hz]⟩⟩
  obtain ⟨s, -, hs4, rfl⟩ := btw (by decide) (by decide) hb
  have s4 : s < 4 := by omega
  have neg : (0 ≤ Int32.ofInt (-1)) = False := by decide
  rcases hs.2.1 s s4 with ⟨z1, z2⟩ | ⟨c, l, t, m, z1, z2, z3, z4, z5⟩
  · refine ⟨.int (Int32.ofInt (-11)), r, V.mono (by omega), ⟨f, ScC.refl f, fun Q => by simp -implicitDefEqProofs (disch := first | omega | (simp (disch := omega) only [nb_upr]; omega)) only [R_354, w_354_0, w_354_2, zi_88, zi_217, zi_98, zi_34, zi_31, zi_48, zi_65, zi_108, zi_33, zi_37, zi_67w1, zi_67w2, zi_0, zi_0n, zi_218, zi_183, zi_219n, zi_219r, zi_220, zi_221, zi_222, zi_223, zi_224, zi_225, zi_206, F.t100, F.r100_6, F.t105, F.l105, kC_eq, toL_s, toL_n, okS0, okS1, okS2, okS3, okS4, okS5, true_and, and_true, hT_wI, hL_wI, hR_wI, hI_wI, hJ_wI, sI_wI, rfP, isIA_100, isIA_120, inb_ok, nI_clamp, nI_add, nI_mul, ↓reduceIte, not_false_eq_true, not_true_eq_false, true_or, or_true, ↓bI_01, ↓b01_0, ↓b01_1, bI_0, z00, z10, n4, n5, n2, n8, Nat.reduceMul, Nat.reduceAdd, Nat.reduceLT, Nat.reduceLeDiff, e_noSheet, hb, e_outside, hz, z1]⟩, fun g hg _ => ⟨g, Sc.refl g, fun Q => ?_⟩⟩
    have g6 : mw g 234 r 246 s = Int32.ofInt (-1) := by rw [mw_out (by decide), hg 246 s rfl rfl]; exact z2
    simp -implicitDefEqProofs (disch := first | omega | (simp (disch := omega) only [nb_upr]; omega)) only [R_1210, w_1210_0, w_1210_2, zi_88, zi_505, zi_66, zi_34, zi_31, zi_48, zi_362, zi_452, zi_33, zi_37, zi_67w1, zi_67w2, zi_0, zi_0n, zi_506, zi_106, zi_385, zi_220, zi_111i, zi_111r, zi_111u, zi_111a, zi_133, zi_63, zi_17, zi_166, zi_507, zi_227, zi_158i, zi_158r, zi_158u, zi_158a, zi_131, zi_357, zi_487, zi_378, zi_237, zi_508, zi_464, zi_74i, zi_74r, zi_74u, zi_74a, zi_214, zi_76, zi_396, zi_231, zi_325, zi_509, zi_79, zi_70, zi_233, zi_59, zi_238, zi_196, zi_453, zi_232, zi_234, zi_303, zi_304, zi_305, zi_85i, zi_85r, zi_85u, zi_85a, zi_213, zi_478, zi_236, zi_208, zi_510, zi_164i, zi_164r, zi_164u, zi_164a, zi_465, zi_165, zi_511, zi_512, zi_406, zi_407, zi_403, zi_140, zi_513, zi_514, zi_515i, zi_515r, zi_515u, zi_515a, zi_408, zi_516, zi_517, zi_518, F.t233, F.r233_24, F.t246, F.l246, kC_eq, toL_s, toL_n, okS0, okS1, okS2, okS3, okS4, okS5, true_and, and_true, hT_wI, hL_wI, hR_wI, hI_wI, hJ_wI, sI_wI, rfP, isIA_100, isIA_120, inb_ok, nI_clamp, nI_add, nI_mul, ↓reduceIte, not_false_eq_true, not_true_eq_false, true_or, or_true, ↓bI_01, ↓b01_0, ↓b01_1, bI_0, z00, z10, n4, n5, n2, n8, Nat.reduceMul, Nat.reduceAdd, Nat.reduceLT, Nat.reduceLeDiff, e_isShelf, hb, e_in, hz, g6, neg]
  obtain ⟨a1, a2, a3, a4, a5, a6, a7, a8, a9, a10, a11⟩ := id z2
  have p0 : (0 ≤ nI t) = True := eq_true (nI_pos' (by omega))
  obtain ⟨Y, y1, y2, ey⟩ := e_findShoal F V f hrv c l m a3 a6 a9 a10 a11
  refine ⟨.int (if v = 0 then nI (cu (ft r (hJ h l) m) 40) else ff (ft r (hJ h l) m) 40 0), r, V.mono (by omega), ⟨Y, fun a k ha => y1 a k (fun z => scrC_hi ha (by omega)) (by rintro rfl; cases ha), fun Q => ?_⟩, fun g hg Tg => ?_⟩
  · have eY : ww Y 117 r = Y := by
      have := ww_rv Y 117
      rwa [rv_eq (g := f) (fun a k h1 h2 => y1 a k (by omega) (by omega)), hrv] at this
    rw [e1, eY, ← cu_eq y2 40 (Nat.le_refl 40), ← ff_eq y2 40 0 (Nat.le_refl 40)]
    by_cases hv : v = 0
    · subst hv
      have v0 : ((0 : Int32) = 0) = True := eq_true rfl
      rw [if_pos rfl]
      simp -implicitDefEqProofs (disch := first | omega | (simp (disch := omega) only [nb_upr]; omega)) only [v0, R_354, w_354_0, w_354_2, w_354_3, w_354_4, w_354_5, zi_88, zi_217, zi_98, zi_34, zi_31, zi_48, zi_65, zi_108, zi_33, zi_37, zi_67w1, zi_67w2, zi_0, zi_0n, zi_218, zi_183, zi_219n, zi_219r, zi_220, zi_221, zi_222, zi_223, zi_224, zi_225, zi_206, F.t100, F.r100_6, F.t105, F.l105, kC_eq, toL_s, toL_n, okS0, okS1, okS2, okS3, okS4, okS5, true_and, and_true, hT_wI, hL_wI, hR_wI, hI_wI, hJ_wI, sI_wI, rfP, isIA_100, isIA_120, inb_ok, nI_clamp, nI_add, nI_mul, ↓reduceIte, not_false_eq_true, not_true_eq_false, true_or, or_true, ↓bI_01, ↓b01_0, ↓b01_1, bI_0, z00, z10, n4, n5, n2, n8, Nat.reduceMul, Nat.reduceAdd, Nat.reduceLT, Nat.reduceLeDiff, Nat.reduceSub, e_noSheet, hb, e_outside, hz, z1, ey, e_countFits F Y, e_firstFit F Y]
    · rw [if_neg hv]
      simp -implicitDefEqProofs (disch := first | omega | (simp (disch := omega) only [nb_upr]; omega)) only [R_354, w_354_0, w_354_2, w_354_3, w_354_4, w_354_5, zi_88, zi_217, zi_98, zi_34, zi_31, zi_48, zi_65, zi_108, zi_33, zi_37, zi_67w1, zi_67w2, zi_0, zi_0n, zi_218, zi_183, zi_219n, zi_219r, zi_220, zi_221, zi_222, zi_223, zi_224, zi_225, zi_206, F.t100, F.r100_6, F.t105, F.l105, kC_eq, toL_s, toL_n, okS0, okS1, okS2, okS3, okS4, okS5, true_and, and_true, hT_wI, hL_wI, hR_wI, hI_wI, hJ_wI, sI_wI, rfP, isIA_100, isIA_120, inb_ok, nI_clamp, nI_add, nI_mul, ↓reduceIte, not_false_eq_true, not_true_eq_false, true_or, or_true, ↓bI_01, ↓b01_0, ↓b01_1, bI_0, z00, z10, n4, n5, n2, n8, Nat.reduceMul, Nat.reduceAdd, Nat.reduceLT, Nat.reduceLeDiff, Nat.reduceSub, e_noSheet, hb, e_outside, hz, z1, ey, e_countFits F Y, e_firstFit F Y, hv]
  · have g6 : mw g 234 r 246 s = nI t := by rw [mw_out (by decide), hg 246 s rfl rfl]; exact z3
    have g7 : g 247 s = nI m := by rw [hg 247 s rfl rfl]; exact z4
    obtain ⟨g', sc, el⟩ := e_mshoal F V (hJ h l) s m s4 a11 z5 v g g7
    refine ⟨g', sc, fun Q => ?_⟩
    rw [← el Q]
    simp -implicitDefEqProofs (disch := first | omega | (simp (disch := omega) only [nb_upr]; omega)) only [R_1210, w_1210_0, w_1210_2, zi_88, zi_505, zi_66, zi_34, zi_31, zi_48, zi_362, zi_452, zi_33, zi_37, zi_67w1, zi_67w2, zi_0, zi_0n, zi_506, zi_106, zi_385, zi_220, zi_111i, zi_111r, zi_111u, zi_111a, zi_133, zi_63, zi_17, zi_166, zi_507, zi_227, zi_158i, zi_158r, zi_158u, zi_158a, zi_131, zi_357, zi_487, zi_378, zi_237, zi_508, zi_464, zi_74i, zi_74r, zi_74u, zi_74a, zi_214, zi_76, zi_396, zi_231, zi_325, zi_509, zi_79, zi_70, zi_233, zi_59, zi_238, zi_196, zi_453, zi_232, zi_234, zi_303, zi_304, zi_305, zi_85i, zi_85r, zi_85u, zi_85a, zi_213, zi_478, zi_236, zi_208, zi_510, zi_164i, zi_164r, zi_164u, zi_164a, zi_465, zi_165, zi_511, zi_512, zi_406, zi_407, zi_403, zi_140, zi_513, zi_514, zi_515i, zi_515r, zi_515u, zi_515a, zi_408, zi_516, zi_517, zi_518, F.t233, F.r233_24, F.t246, F.l246, kC_eq, toL_s, toL_n, okS0, okS1, okS2, okS3, okS4, okS5, true_and, and_true, hT_wI, hL_wI, hR_wI, hI_wI, hJ_wI, sI_wI, rfP, isIA_100, isIA_120, inb_ok, nI_clamp, nI_add, nI_mul, ↓reduceIte, not_false_eq_true, not_true_eq_false, true_or, or_true, ↓bI_01, ↓b01_0, ↓b01_1, bI_0, z00, z10, n4, n5, n2, n8, Nat.reduceMul, Nat.reduceAdd, Nat.reduceLT, Nat.reduceLeDiff, e_isShelf, hb, e_in, hz, g6, p0]
end
