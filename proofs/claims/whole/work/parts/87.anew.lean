section
/-! a harbour as at first, both sides -/
variable {n : Nat} {h : PH} {b : Nat} {f : Nat → Nat → Int32}
def ini (z : Int32) : Nat → Int32 := fun q =>
  if q = 0 then nI 10 else if q = 1 then nI 8 else if q = 2 then nI 4 else if q = 6 then z else if q = 7 then nI 9 else if q = 8 then nI 4 else if q = 9 then nI 2 else if q = 10 then nI 6 else if q = 11 then nI 12
  else if 12 ≤ q ∧ q < 68 ∧ (q - 12) % 7 = 5 then nI 3 else if 68 ≤ q ∧ q < 76 ∧ q % 2 = 0 then nI 999 else nI 0
theorem ini_s {z : Int32} {s : Nat} (hs : s < 8) : ini z (17 + 7 * s) = nI 3 := by
  unfold ini
  rw [if_neg (by omega), if_neg (by omega), if_neg (by omega), if_neg (by omega), if_neg (by omega), if_neg (by omega), if_neg (by omega), if_neg (by omega), if_neg (by omega), if_pos (by omega)]
theorem ini_q {z : Int32} {s : Nat} (hs : s < 4) : ini z (68 + 2 * s) = nI 999 := by
  unfold ini
  rw [if_neg (by omega), if_neg (by omega), if_neg (by omega), if_neg (by omega), if_neg (by omega), if_neg (by omega), if_neg (by omega), if_neg (by omega), if_neg (by omega), if_neg (by omega), if_pos (by omega)]
theorem ini_0 {z : Int32} {q : Nat} (h : 3 ≤ q ∧ q < 6 ∨ 12 ≤ q ∧ q < 68 ∧ ¬ (q - 12) % 7 = 5 ∨ 68 ≤ q ∧ q < 76 ∧ ¬ q % 2 = 0 ∨ 76 ≤ q) : ini z q = nI 0 := by
  unfold ini
  rw [if_neg (by omega), if_neg (by omega), if_neg (by omega), if_neg (by omega), if_neg (by omega), if_neg (by omega), if_neg (by omega), if_neg (by omega), if_neg (by omega), if_neg (by omega), if_neg (by omega)]
theorem ini_6 {z : Int32} : ini z 6 = z := rfl
theorem ini_z {z z' : Int32} {q : Nat} (h6 : ¬ q = 6) : ini z q = ini z' q := by
  unfold ini
  rw [if_neg h6, if_neg h6]
theorem upr_ini {z z' : Int32} : upr (ini z) 6 z' = ini z' := by
  funext q
  unfold upr
  by_cases h6 : q = 6
  · rw [if_pos h6, h6]; rfl
  · rw [if_neg h6]; exact ini_z h6
theorem nb_ini {z : Int32} : nb (ini z) = 0 := by
  show (ini z 5).toNatClampNeg = 0
  rw [ini_0 (by omega), nI_clamp (by omega)]
theorem lim_ini {z : Int32} : lim (ini z) = 76 := by
  unfold lim
  rw [nb_ini]
  rfl
theorem Z_ini {z : Int32} : Z (ini z) := fun q hq => by
  rw [lim_ini] at hq
  exact ini_0 (by omega)
theorem Vr_ini {z : Int32} : Vr n (ini z) := by
  refine ⟨fun q hq => ?_, ⟨by rw [nb_ini]; omega, by rw [nb_ini]; rfl⟩, Z_ini⟩
  rw [lim_ini] at hq
  by_cases c0 : q = 0
  · rw [c0, okq_0]; exact ⟨10, by omega, rfl⟩
  by_cases c1 : q = 1
  · rw [c1, okq_l (Or.inl rfl)]; exact ⟨8, by omega, by omega, rfl⟩
  by_cases c2 : q = 2
  · rw [c2, okq_l (Or.inr rfl)]; exact ⟨4, by omega, by omega, rfl⟩
  by_cases c7 : 7 ≤ q ∧ q < 12
  · obtain ⟨s, hs, rfl⟩ : ∃ s, s < 5 ∧ q = 7 + s := ⟨q - 7, by omega, by omega⟩
    rw [okq_p hs]
    have hs' : s = 0 ∨ s = 1 ∨ s = 2 ∨ s = 3 ∨ s = 4 := by omega
    rcases hs' with rfl | rfl | rfl | rfl | rfl
    · exact ⟨9, by omega, rfl⟩
    · exact ⟨4, by omega, rfl⟩
    · exact ⟨2, by omega, rfl⟩
    · exact ⟨6, by omega, rfl⟩
    · exact ⟨12, by omega, rfl⟩
  by_cases c12 : 12 ≤ q ∧ q < 68
  · obtain ⟨s, k, hs, hk, rfl⟩ : ∃ s k, s < 8 ∧ k < 7 ∧ q = 12 + 7 * s + k := ⟨(q - 12) / 7, (q - 12) % 7, by omega, by omega, by omega⟩
    by_cases k5 : k < 5
    · rw [okq_s hs k5, ini_0 (by omega)]; exact ⟨0, by omega, rfl⟩
    · by_cases k6 : k = 5
      · subst k6
        rw [show 12 + 7 * s + 5 = 17 + 7 * s by omega, okq_sl hs, ini_s hs]; exact ⟨3, by omega, rfl⟩
      · rw [okq_f (by omega)]; trivial
  · rw [okq_f (by omega)]; trivial
/-! the class -/
def fil (f : Nat → Nat → Int32) (c m : Nat) (x : Int32) : Nat → Nat → Int32 := fun a k => if a = c ∧ k < m then x else f a k
theorem fil_up {c m : Nat} {x : Int32} : up2 (fil f c m x) c m x = fil f c (m + 1) x := by
  funext a k
  unfold up2 fil
  by_cases z : a = c ∧ k = m
  · rw [if_pos z, if_pos ⟨z.1, by omega⟩]
  · rw [if_neg z]
    by_cases u : a = c ∧ k < m
    · rw [if_pos u, if_pos ⟨u.1, by omega⟩]
    · rw [if_neg u, if_neg (fun v => by by_cases w : k = m; exact z ⟨v.1, w⟩; exact u ⟨v.1, by omega⟩)]
theorem fil_uo {c m a k : Nat} {x y : Int32} (h : ¬ a = c) : up2 (fil f c m x) a k y = fil (up2 f a k y) c m x := by
  funext i j
  show (if i = a ∧ j = k then y else fil f c m x i j) = if i = c ∧ j < m then x else (if i = a ∧ j = k then y else f i j)
  unfold fil
  by_cases z : i = a ∧ j = k
  · rw [if_pos z, if_neg (fun u => h (z.1.symm.trans u.1)), if_pos z]
  · rw [if_neg z, if_neg z]
theorem fil_0 {c : Nat} {x : Int32} : fil f c 0 x = f := by
  funext a k
  unfold fil
  rw [if_neg (by omega)]
theorem fil_ne {c m a k : Nat} {x : Int32} (h : ¬ a = c) : fil f c m x a k = f a k := if_neg (fun z => h z.1)
theorem fil_in {c m k : Nat} {x : Int32} (h : k < m) : fil f c m x c k = x := if_pos ⟨rfl, h⟩
theorem sa_1 (w : WB h b) (G : Nat → Nat → Int32) (d : Nat) (Q : Option Value → PH → Prop) :
    ∀ (j k : Nat), k + j = 40 → WP d 1576 1 [.ref b, .int (nI k)] [] (wI h (fil G (b + 3) k (nI 0))) Q = WP d 1576 2 [.ref b, .int (nI 40)] [] (wI h (fil G (b + 3) 40 (nI 0))) Q := by
  intro j
  induction j with
  | zero =>
    intro k hk
    obtain rfl : k = 40 := by omega
    rw [w_1576_1]
    simp -implicitDefEqProofs (disch := first | omega | (simp (disch := omega) only [nb_upr]; omega)) only [zi_609, zi_31, zi_0, zi_0n, zi_109, zi_173, zi_610, zi_611, zi_115, zi_59, zi_96i, zi_96r, zi_96u, zi_96a, zi_33, zi_88, zi_128, zi_35, zi_38, zi_216i, zi_216r, zi_216u, zi_216a, zi_40, zi_75, zi_64, zi_77, zi_125, zi_54, zi_126, zi_86, zi_206, zi_9, zi_195, zi_118, zi_117, zi_120, zi_224, zi_612, zi_613, zi_156, zi_41, w.t, w.r3, w.t3, w.l3, kC_eq, toL_s, toL_n, okS0, okS1, okS2, okS3, okS4, okS5, true_and, and_true, hT_wI, hL_wI, hR_wI, hI_wI, hJ_wI, sI_wI, rfP, isIA_100, isIA_120, inb_ok, nI_clamp, nI_add, nI_mul, ↓reduceIte, not_false_eq_true, not_true_eq_false, true_or, or_true, ↓bI_01, ↓b01_0, ↓b01_1, bI_0, z00, z10, n4, n5, n2, n8, Nat.reduceMul, Nat.reduceAdd, Nat.reduceLT, Nat.reduceLeDiff, nI_eq, nI_leI, nI_ltI, Nat.reduceEqDiff, pk_div, nI_sub, Nat.reduceDiv, Nat.reduceSub, Nat.le_refl]
  | succ j ih0 =>
    intro k hk
    have g : ¬ 40 ≤ k := by omega
    rw [← ih0 (k + 1) (by omega), w_1576_1]
    simp -implicitDefEqProofs (disch := first | omega | (simp (disch := omega) only [nb_upr]; omega)) only [zi_609, zi_31, zi_0, zi_0n, zi_109, zi_173, zi_610, zi_611, zi_115, zi_59, zi_96i, zi_96r, zi_96u, zi_96a, zi_33, zi_88, zi_128, zi_35, zi_38, zi_216i, zi_216r, zi_216u, zi_216a, zi_40, zi_75, zi_64, zi_77, zi_125, zi_54, zi_126, zi_86, zi_206, zi_9, zi_195, zi_118, zi_117, zi_120, zi_224, zi_612, zi_613, zi_156, zi_41, w.t, w.r3, w.t3, w.l3, kC_eq, toL_s, toL_n, okS0, okS1, okS2, okS3, okS4, okS5, true_and, and_true, hT_wI, hL_wI, hR_wI, hI_wI, hJ_wI, sI_wI, rfP, isIA_100, isIA_120, inb_ok, nI_clamp, nI_add, nI_mul, ↓reduceIte, not_false_eq_true, not_true_eq_false, true_or, or_true, ↓bI_01, ↓b01_0, ↓b01_1, bI_0, z00, z10, n4, n5, n2, n8, Nat.reduceMul, Nat.reduceAdd, Nat.reduceLT, Nat.reduceLeDiff, nI_eq, nI_leI, nI_ltI, Nat.reduceEqDiff, pk_div, nI_sub, Nat.reduceDiv, Nat.reduceSub, g, fil_up]
theorem sa_3 (w : WB h b) (G : Nat → Nat → Int32) (d : Nat) (Q : Option Value → PH → Prop) :
    ∀ (j k : Nat), k + j = 8 → WP d 1576 3 [.ref b, .int (nI k)] [] (wI h (fil (fil G (b + 4) k (nI 3)) (b + 5) k (nI 0))) Q = WP d 1576 4 [.ref b, .int (nI 8)] [] (wI h (fil (fil G (b + 4) 8 (nI 3)) (b + 5) 8 (nI 0))) Q := by
  intro j
  induction j with
  | zero =>
    intro k hk
    obtain rfl : k = 8 := by omega
    rw [w_1576_3]
    simp -implicitDefEqProofs (disch := first | omega | (simp (disch := omega) only [nb_upr]; omega)) only [zi_609, zi_31, zi_0, zi_0n, zi_109, zi_173, zi_610, zi_611, zi_115, zi_59, zi_96i, zi_96r, zi_96u, zi_96a, zi_33, zi_88, zi_128, zi_35, zi_38, zi_216i, zi_216r, zi_216u, zi_216a, zi_40, zi_75, zi_64, zi_77, zi_125, zi_54, zi_126, zi_86, zi_206, zi_9, zi_195, zi_118, zi_117, zi_120, zi_224, zi_612, zi_613, zi_156, zi_41, kC_eq, toL_s, toL_n, okS0, okS1, okS2, okS3, okS4, okS5, true_and, and_true, hT_wI, hL_wI, hR_wI, hI_wI, hJ_wI, sI_wI, rfP, isIA_100, isIA_120, inb_ok, nI_clamp, nI_add, nI_mul, ↓reduceIte, not_false_eq_true, not_true_eq_false, true_or, or_true, ↓bI_01, ↓b01_0, ↓b01_1, bI_0, z00, z10, n4, n5, n2, n8, Nat.reduceMul, Nat.reduceAdd, Nat.reduceLT, Nat.reduceLeDiff, nI_eq, nI_leI, nI_ltI, Nat.reduceEqDiff, pk_div, nI_sub, Nat.reduceDiv, Nat.reduceSub, Nat.le_refl]
  | succ j ih0 =>
    intro k hk
    have g : ¬ 8 ≤ k := by omega
    have e : up2 (fil (fil G (b + 4) k (nI 3)) (b + 5) k (nI 0)) (b + 4) k (nI 3) = fil (fil G (b + 4) (k + 1) (nI 3)) (b + 5) k (nI 0) := by
      rw [fil_uo (by omega), fil_up]
    rw [← ih0 (k + 1) (by omega), w_1576_3]
    simp -implicitDefEqProofs (disch := first | omega | (simp (disch := omega) only [nb_upr]; omega)) only [zi_609, zi_31, zi_0, zi_0n, zi_109, zi_173, zi_610, zi_611, zi_115, zi_59, zi_96i, zi_96r, zi_96u, zi_96a, zi_33, zi_88, zi_128, zi_35, zi_38, zi_216i, zi_216r, zi_216u, zi_216a, zi_40, zi_75, zi_64, zi_77, zi_125, zi_54, zi_126, zi_86, zi_206, zi_9, zi_195, zi_118, zi_117, zi_120, zi_224, zi_612, zi_613, zi_156, zi_41, w.t, w.r4, w.t4, w.l4, w.r5, w.t5, w.l5, kC_eq, toL_s, toL_n, okS0, okS1, okS2, okS3, okS4, okS5, true_and, and_true, hT_wI, hL_wI, hR_wI, hI_wI, hJ_wI, sI_wI, rfP, isIA_100, isIA_120, inb_ok, nI_clamp, nI_add, nI_mul, ↓reduceIte, not_false_eq_true, not_true_eq_false, true_or, or_true, ↓bI_01, ↓b01_0, ↓b01_1, bI_0, z00, z10, n4, n5, n2, n8, Nat.reduceMul, Nat.reduceAdd, Nat.reduceLT, Nat.reduceLeDiff, nI_eq, nI_leI, nI_ltI, Nat.reduceEqDiff, pk_div, nI_sub, Nat.reduceDiv, Nat.reduceSub, g, e, fil_up]
theorem sa_5 (w : WB h b) (G : Nat → Nat → Int32) (d : Nat) (Q : Option Value → PH → Prop) :
    ∀ (j k : Nat), k + j = 4 → WP d 1576 5 [.ref b, .int (nI k)] [] (wI h (fil (fil G (b + 6) k (nI 999)) (b + 7) k (nI 0))) Q = WP d 1576 6 [.ref b, .int (nI 4)] [] (wI h (fil (fil G (b + 6) 4 (nI 999)) (b + 7) 4 (nI 0))) Q := by
  intro j
  induction j with
  | zero =>
    intro k hk
    obtain rfl : k = 4 := by omega
    rw [w_1576_5]
    simp -implicitDefEqProofs (disch := first | omega | (simp (disch := omega) only [nb_upr]; omega)) only [zi_609, zi_31, zi_0, zi_0n, zi_109, zi_173, zi_610, zi_611, zi_115, zi_59, zi_96i, zi_96r, zi_96u, zi_96a, zi_33, zi_88, zi_128, zi_35, zi_38, zi_216i, zi_216r, zi_216u, zi_216a, zi_40, zi_75, zi_64, zi_77, zi_125, zi_54, zi_126, zi_86, zi_206, zi_9, zi_195, zi_118, zi_117, zi_120, zi_224, zi_612, zi_613, zi_156, zi_41, kC_eq, toL_s, toL_n, okS0, okS1, okS2, okS3, okS4, okS5, true_and, and_true, hT_wI, hL_wI, hR_wI, hI_wI, hJ_wI, sI_wI, rfP, isIA_100, isIA_120, inb_ok, nI_clamp, nI_add, nI_mul, ↓reduceIte, not_false_eq_true, not_true_eq_false, true_or, or_true, ↓bI_01, ↓b01_0, ↓b01_1, bI_0, z00, z10, n4, n5, n2, n8, Nat.reduceMul, Nat.reduceAdd, Nat.reduceLT, Nat.reduceLeDiff, nI_eq, nI_leI, nI_ltI, Nat.reduceEqDiff, pk_div, nI_sub, Nat.reduceDiv, Nat.reduceSub, Nat.le_refl]
  | succ j ih0 =>
    intro k hk
    have g : ¬ 4 ≤ k := by omega
    have e : up2 (fil (fil G (b + 6) k (nI 999)) (b + 7) k (nI 0)) (b + 6) k (nI 999) = fil (fil G (b + 6) (k + 1) (nI 999)) (b + 7) k (nI 0) := by
      rw [fil_uo (by omega), fil_up]
    rw [← ih0 (k + 1) (by omega), w_1576_5]
    simp -implicitDefEqProofs (disch := first | omega | (simp (disch := omega) only [nb_upr]; omega)) only [zi_609, zi_31, zi_0, zi_0n, zi_109, zi_173, zi_610, zi_611, zi_115, zi_59, zi_96i, zi_96r, zi_96u, zi_96a, zi_33, zi_88, zi_128, zi_35, zi_38, zi_216i, zi_216r, zi_216u, zi_216a, zi_40, zi_75, zi_64, zi_77, zi_125, zi_54, zi_126, zi_86, zi_206, zi_9, zi_195, zi_118, zi_117, zi_120, zi_224, zi_612, zi_613, zi_156, zi_41, w.t, w.r6, w.t6, w.l6, w.r7, w.t7, w.l7, kC_eq, toL_s, toL_n, okS0, okS1, okS2, okS3, okS4, okS5, true_and, and_true, hT_wI, hL_wI, hR_wI, hI_wI, hJ_wI, sI_wI, rfP, isIA_100, isIA_120, inb_ok, nI_clamp, nI_add, nI_mul, ↓reduceIte, not_false_eq_true, not_true_eq_false, true_or, or_true, ↓bI_01, ↓b01_0, ↓b01_1, bI_0, z00, z10, n4, n5, n2, n8, Nat.reduceMul, Nat.reduceAdd, Nat.reduceLT, Nat.reduceLeDiff, nI_eq, nI_leI, nI_ltI, Nat.reduceEqDiff, pk_div, nI_sub, Nat.reduceDiv, Nat.reduceSub, g, e, fil_up]
def saF (f : Nat → Nat → Int32) (b : Nat) : Nat → Nat → Int32 :=
  up2 (up2 (up2 (fil (fil (fil (fil (fil (cpf (cpf f 1 (b + 1) 3) 2 (b + 2) 5) (b + 3) 40 (nI 0)) (b + 4) 8 (nI 3)) (b + 5) 8 (nI 0)) (b + 6) 4 (nI 999)) (b + 7) 4 (nI 0)) b 14 (nI 0)) b 15 (nI 0)) b 16 (nI 0)
theorem saF_out {a k : Nat} (ha : ¬ (b ≤ a ∧ a < b + 14)) : saF f b a k = f a k := by
  unfold saF
  simp (disch := omega) only [up2_ne, fil_ne, cpf_ne]
theorem saF_17 : saF f b b 17 = f b 17 := by
  unfold saF
  rw [up2_nk _ _ (by decide), up2_nk _ _ (by decide), up2_nk _ _ (by decide)]
  simp (disch := omega) only [fil_ne, cpf_ne]
theorem e_startAnew (w : WB h b) (hb : 100 ≤ b) (o1 : hT h 1 = 120) (p1 : hL h 1 = 3) (o2 : hT h 2 = 120) (p2 : hL h 2 = 5) (f : Nat → Nat → Int32) (d : Nat) (Q : Option Value → PH → Prop) :
    Run d 1576 [.ref b] (wI h f) Q = Q none (wI h (saF f b)) := by
  have h1 := sa_1 w (cpf (cpf f 1 (b + 1) 3) 2 (b + 2) 5) d Q 40 0 rfl
  have h3 := sa_3 w (fil (cpf (cpf f 1 (b + 1) 3) 2 (b + 2) 5) (b + 3) 40 (nI 0)) d Q 8 0 rfl
  have h5 := sa_5 w (fil (fil (fil (cpf (cpf f 1 (b + 1) 3) 2 (b + 2) 5) (b + 3) 40 (nI 0)) (b + 4) 8 (nI 3)) (b + 5) 8 (nI 0)) d Q 4 0 rfl
  rw [fil_0] at h1
  rw [fil_0, fil_0] at h3 h5
  have p2' : ∀ G, WP d 1576 2 [.ref b, .int (nI 40)] [] (wI h G) Q = WP d 1576 3 [.ref b, .int (nI 0)] [] (wI h G) Q := fun G => by
    rw [w_1576_2]
    simp -implicitDefEqProofs (disch := first | omega | (simp (disch := omega) only [nb_upr]; omega)) only [zi_609, zi_31, zi_0, zi_0n, zi_109, zi_173, zi_610, zi_611, zi_115, zi_59, zi_96i, zi_96r, zi_96u, zi_96a, zi_33, zi_88, zi_128, zi_35, zi_38, zi_216i, zi_216r, zi_216u, zi_216a, zi_40, zi_75, zi_64, zi_77, zi_125, zi_54, zi_126, zi_86, zi_206, zi_9, zi_195, zi_118, zi_117, zi_120, zi_224, zi_612, zi_613, zi_156, zi_41, kC_eq, toL_s, toL_n, okS0, okS1, okS2, okS3, okS4, okS5, true_and, and_true, hT_wI, hL_wI, hR_wI, hI_wI, hJ_wI, sI_wI, rfP, isIA_100, isIA_120, inb_ok, nI_clamp, nI_add, nI_mul, ↓reduceIte, not_false_eq_true, not_true_eq_false, true_or, or_true, ↓bI_01, ↓b01_0, ↓b01_1, bI_0, z00, z10, n4, n5, n2, n8, Nat.reduceMul, Nat.reduceAdd, Nat.reduceLT, Nat.reduceLeDiff]
  have p4' : ∀ G, WP d 1576 4 [.ref b, .int (nI 8)] [] (wI h G) Q = WP d 1576 5 [.ref b, .int (nI 0)] [] (wI h G) Q := fun G => by
    rw [w_1576_4]
    simp -implicitDefEqProofs (disch := first | omega | (simp (disch := omega) only [nb_upr]; omega)) only [zi_609, zi_31, zi_0, zi_0n, zi_109, zi_173, zi_610, zi_611, zi_115, zi_59, zi_96i, zi_96r, zi_96u, zi_96a, zi_33, zi_88, zi_128, zi_35, zi_38, zi_216i, zi_216r, zi_216u, zi_216a, zi_40, zi_75, zi_64, zi_77, zi_125, zi_54, zi_126, zi_86, zi_206, zi_9, zi_195, zi_118, zi_117, zi_120, zi_224, zi_612, zi_613, zi_156, zi_41, kC_eq, toL_s, toL_n, okS0, okS1, okS2, okS3, okS4, okS5, true_and, and_true, hT_wI, hL_wI, hR_wI, hI_wI, hJ_wI, sI_wI, rfP, isIA_100, isIA_120, inb_ok, nI_clamp, nI_add, nI_mul, ↓reduceIte, not_false_eq_true, not_true_eq_false, true_or, or_true, ↓bI_01, ↓b01_0, ↓b01_1, bI_0, z00, z10, n4, n5, n2, n8, Nat.reduceMul, Nat.reduceAdd, Nat.reduceLT, Nat.reduceLeDiff]
  have p0 : Run d 1576 [.ref b] (wI h f) Q = WP d 1576 1 [.ref b, .int (nI 0)] [] (wI h (cpf (cpf f 1 (b + 1) 3) 2 (b + 2) 5)) Q := by
    simp -implicitDefEqProofs (disch := first | omega | (simp (disch := omega) only [nb_upr]; omega)) only [R_1576, w_1576_0, zi_609, zi_31, zi_0, zi_0n, zi_109, zi_173, zi_610, zi_611, zi_115, zi_59, zi_96i, zi_96r, zi_96u, zi_96a, zi_33, zi_88, zi_128, zi_35, zi_38, zi_216i, zi_216r, zi_216u, zi_216a, zi_40, zi_75, zi_64, zi_77, zi_125, zi_54, zi_126, zi_86, zi_206, zi_9, zi_195, zi_118, zi_117, zi_120, zi_224, zi_612, zi_613, zi_156, zi_41, o1, p1, o2, p2, w.t, w.r1, w.t1, w.l1, w.r2, w.t2, w.l2, kC_eq, toL_s, toL_n, okS0, okS1, okS2, okS3, okS4, okS5, true_and, and_true, hT_wI, hL_wI, hR_wI, hI_wI, hJ_wI, sI_wI, rfP, isIA_100, isIA_120, inb_ok, nI_clamp, nI_add, nI_mul, ↓reduceIte, not_false_eq_true, not_true_eq_false, true_or, or_true, ↓bI_01, ↓b01_0, ↓b01_1, bI_0, z00, z10, n4, n5, n2, n8, Nat.reduceMul, Nat.reduceAdd, Nat.reduceLT, Nat.reduceLeDiff, nIp, cpI_wI, Nat.zero_add, Nat.le_refl]
  rw [p0, h1, p2', h3, p4', h5, w_1576_6]
  unfold saF
  simp -implicitDefEqProofs (disch := first | omega | (simp (disch := omega) only [nb_upr]; omega)) only [zi_609, zi_31, zi_0, zi_0n, zi_109, zi_173, zi_610, zi_611, zi_115, zi_59, zi_96i, zi_96r, zi_96u, zi_96a, zi_33, zi_88, zi_128, zi_35, zi_38, zi_216i, zi_216r, zi_216u, zi_216a, zi_40, zi_75, zi_64, zi_77, zi_125, zi_54, zi_126, zi_86, zi_206, zi_9, zi_195, zi_118, zi_117, zi_120, zi_224, zi_612, zi_613, zi_156, zi_41, w.t, kC_eq, toL_s, toL_n, okS0, okS1, okS2, okS3, okS4, okS5, true_and, and_true, hT_wI, hL_wI, hR_wI, hI_wI, hJ_wI, sI_wI, rfP, isIA_100, isIA_120, inb_ok, nI_clamp, nI_add, nI_mul, ↓reduceIte, not_false_eq_true, not_true_eq_false, true_or, or_true, ↓bI_01, ↓b01_0, ↓b01_1, bI_0, z00, z10, n4, n5, n2, n8, Nat.reduceMul, Nat.reduceAdd, Nat.reduceLT, Nat.reduceLeDiff]
theorem rv_saF (hb : 100 ≤ b) (T : TB f) : rv (saF f b) b = ini (f b 17) := by
  obtain ⟨-, -, -, ⟨a0, a1, a2⟩, q0, q1, q2, q3, q4⟩ := T
  have e14 : saF f b b 14 = nI 0 := by
    unfold saF
    rw [up2_nk _ _ (by decide), up2_nk _ _ (by decide), up2_same]
  have key : ∀ c k, c < 8 → pvd c k = true → saF f b (b + c) k = ini (f b 17) (plc c k) := by
    intro c k hc hp
    match c, hc with
    | 0, _ =>
      have hk : 14 ≤ k ∧ k < 18 := by
        have hp : (Nat.ble 14 k && Nat.blt k 18) = true := hp
        rw [Bool.and_eq_true, Nat.ble_eq, Nat.blt_eq] at hp
        exact hp
      have hk' : k = 14 ∨ k = 15 ∨ k = 16 ∨ k = 17 := by omega
      rcases hk' with rfl | rfl | rfl | rfl
      · exact e14
      · show saF f b b 15 = nI 0
        unfold saF
        rw [up2_nk _ _ (by decide), up2_same]
      · show saF f b b 16 = nI 0
        unfold saF
        rw [up2_same]
      · exact saF_17
    | 1, _ =>
      have hk : k < 3 := Nat.blt_eq.mp hp
      have e : saF f b (b + 1) k = f 1 k := by
        unfold saF
        simp (disch := omega) only [up2_ne, fil_ne, cpf_ne, cpf_eq]
        rw [if_pos hk]
      rw [e]
      have hk' : k = 0 ∨ k = 1 ∨ k = 2 := by omega
      rcases hk' with rfl | rfl | rfl
      · exact a0
      · exact a1
      · exact a2
    | 2, _ =>
      have hk : k < 5 := Nat.blt_eq.mp hp
      have e : saF f b (b + 2) k = f 2 k := by
        unfold saF
        simp (disch := omega) only [up2_ne, fil_ne, cpf_eq]
        rw [if_pos hk, cpf_ne (by omega)]
      rw [e]
      have hk' : k = 0 ∨ k = 1 ∨ k = 2 ∨ k = 3 ∨ k = 4 := by omega
      rcases hk' with rfl | rfl | rfl | rfl | rfl
      · exact q0
      · exact q1
      · exact q2
      · exact q3
      · exact q4
    | 3, _ =>
      have hk : k < 40 := Nat.blt_eq.mp hp
      have e : saF f b (b + 3) k = nI 0 := by
        unfold saF
        simp (disch := omega) only [up2_ne, fil_ne, fil_in]
      rw [e]
      show nI 0 = ini (f b 17) (12 + 7 * (k / 5) + k % 5)
      rw [ini_0 (by omega)]
    | 4, _ =>
      have hk : k < 8 := Nat.blt_eq.mp hp
      have e : saF f b (b + 4) k = nI 3 := by
        unfold saF
        simp (disch := omega) only [up2_ne, fil_ne, fil_in]
      rw [e]
      show nI 3 = ini (f b 17) (12 + 7 * k + 5)
      rw [show 12 + 7 * k + 5 = 17 + 7 * k by omega, ini_s hk]
    | 5, _ =>
      have hk : k < 8 := Nat.blt_eq.mp hp
      have e : saF f b (b + 5) k = nI 0 := by
        unfold saF
        simp (disch := omega) only [up2_ne, fil_ne, fil_in]
      rw [e]
      show nI 0 = ini (f b 17) (12 + 7 * k + 6)
      rw [ini_0 (by omega)]
    | 6, _ =>
      have hk : k < 4 := Nat.blt_eq.mp hp
      have e : saF f b (b + 6) k = nI 999 := by
        unfold saF
        simp (disch := omega) only [up2_ne, fil_ne, fil_in]
      rw [e]
      show nI 999 = ini (f b 17) (68 + 2 * k)
      rw [ini_q hk]
    | 7, _ =>
      have hk : k < 4 := Nat.blt_eq.mp hp
      have e : saF f b (b + 7) k = nI 0 := by
        unfold saF
        simp (disch := omega) only [up2_ne, fil_in]
      rw [e]
      show nI 0 = ini (f b 17) (69 + 2 * k)
      rw [ini_0 (by omega)]
    | c + 8, hc => omega
  have cl : ∀ q, q < 76 → cel q < 8 := by decide +kernel
  funext q
  unfold rv
  rw [e14, nI_clamp (by omega)]
  by_cases hq : q < 76
  · rw [if_pos (by omega)]
    obtain ⟨j1, j2, j3⟩ := plc_right q (by omega)
    rw [key (cel q) (slt q) (cl q hq) j2, j3]
  · rw [if_neg (by omega)]
    exact (ini_0 (by omega)).symm
/-! the reference -/
theorem bg_1 {c : Nat} (tc : hT h c = 100) (lc : hL h c = 136) (f : Nat → Nat → Int32) (d : Nat) (Q : Option Value → PH → Prop) :
    ∀ (j k : Nat), k + j = 136 → WP d 593 1 [.ref c, .int (nI k)] [] (wI h (fil f c k (nI 0))) Q = WP d 593 2 [.ref c, .int (nI 136)] [] (wI h (fil f c 136 (nI 0))) Q := by
  intro j
  induction j with
  | zero =>
    intro k hk
    obtain rfl : k = 136 := by omega
    rw [w_593_1]
    simp -implicitDefEqProofs (disch := first | omega | (simp (disch := omega) only [nb_upr]; omega)) only [zi_31, zi_96i, zi_96r, zi_96u, zi_96a, zi_33, zi_88, zi_335, zi_35, zi_0, zi_0n, zi_38, zi_216i, zi_216r, zi_216u, zi_216a, zi_40, zi_140, zi_48, zi_64, zi_51, zi_9, zi_123, zi_130, zi_42, zi_359, zi_360, zi_75, zi_77, zi_79, zi_70, zi_59, zi_54, zi_86, zi_206, zi_195, zi_361, zi_117, zi_224, zi_41, kC_eq, toL_s, toL_n, okS0, okS1, okS2, okS3, okS4, okS5, true_and, and_true, hT_wI, hL_wI, hR_wI, hI_wI, hJ_wI, sI_wI, rfP, isIA_100, isIA_120, inb_ok, nI_clamp, nI_add, nI_mul, ↓reduceIte, not_false_eq_true, not_true_eq_false, true_or, or_true, ↓bI_01, ↓b01_0, ↓b01_1, bI_0, z00, z10, n4, n5, n2, n8, Nat.reduceMul, Nat.reduceAdd, Nat.reduceLT, Nat.reduceLeDiff, nI_eq, nI_leI, nI_ltI, Nat.reduceEqDiff, pk_div, nI_sub, Nat.reduceDiv, Nat.reduceSub, Nat.le_refl]
  | succ j ih0 =>
    intro k hk
    have g : ¬ 136 ≤ k := by omega
    rw [← ih0 (k + 1) (by omega), w_593_1]
    simp -implicitDefEqProofs (disch := first | omega | (simp (disch := omega) only [nb_upr]; omega)) only [zi_31, zi_96i, zi_96r, zi_96u, zi_96a, zi_33, zi_88, zi_335, zi_35, zi_0, zi_0n, zi_38, zi_216i, zi_216r, zi_216u, zi_216a, zi_40, zi_140, zi_48, zi_64, zi_51, zi_9, zi_123, zi_130, zi_42, zi_359, zi_360, zi_75, zi_77, zi_79, zi_70, zi_59, zi_54, zi_86, zi_206, zi_195, zi_361, zi_117, zi_224, zi_41, tc, lc, kC_eq, toL_s, toL_n, okS0, okS1, okS2, okS3, okS4, okS5, true_and, and_true, hT_wI, hL_wI, hR_wI, hI_wI, hJ_wI, sI_wI, rfP, isIA_100, isIA_120, inb_ok, nI_clamp, nI_add, nI_mul, ↓reduceIte, not_false_eq_true, not_true_eq_false, true_or, or_true, ↓bI_01, ↓b01_0, ↓b01_1, bI_0, z00, z10, n4, n5, n2, n8, Nat.reduceMul, Nat.reduceAdd, Nat.reduceLT, Nat.reduceLeDiff, nI_eq, nI_leI, nI_ltI, Nat.reduceEqDiff, pk_div, nI_sub, Nat.reduceDiv, Nat.reduceSub, g, fil_up]
def slF (G : Nat → Nat → Int32) (c j : Nat) : Nat → Nat → Int32 := fun a q => if a = c ∧ 12 ≤ q ∧ q < 12 + 7 * j ∧ (q - 12) % 7 = 5 then nI 3 else G a q
theorem slF_up {G : Nat → Nat → Int32} {c j : Nat} : up2 (slF G c j) c (12 + 7 * j + 5) (nI 3) = slF G c (j + 1) := by
  funext a q
  unfold up2 slF
  by_cases z : a = c ∧ q = 12 + 7 * j + 5
  · rw [if_pos z, if_pos ⟨z.1, by omega, by omega, by omega⟩]
  · rw [if_neg z]
    by_cases u : a = c ∧ 12 ≤ q ∧ q < 12 + 7 * j ∧ (q - 12) % 7 = 5
    · rw [if_pos u, if_pos ⟨u.1, u.2.1, by omega, u.2.2.2⟩]
    · rw [if_neg u, if_neg (fun v => by
        by_cases x : q = 12 + 7 * j + 5
        · exact z ⟨v.1, x⟩
        · exact u ⟨v.1, v.2.1, by omega, v.2.2.2⟩)]
theorem slF_0 {G : Nat → Nat → Int32} {c : Nat} : slF G c 0 = G := by
  funext a q
  unfold slF
  rw [if_neg (by omega)]
theorem slF_ne {G : Nat → Nat → Int32} {c j a q : Nat} (h : ¬ (a = c ∧ 12 ≤ q ∧ q < 12 + 7 * j ∧ (q - 12) % 7 = 5)) : slF G c j a q = G a q := if_neg h
def quF (G : Nat → Nat → Int32) (c j : Nat) : Nat → Nat → Int32 := fun a q => if a = c ∧ 68 ≤ q ∧ q < 68 + 2 * j ∧ q % 2 = 0 then nI 999 else G a q
theorem quF_up {G : Nat → Nat → Int32} {c j : Nat} : up2 (quF G c j) c (68 + 2 * j) (nI 999) = quF G c (j + 1) := by
  funext a q
  unfold up2 quF
  by_cases z : a = c ∧ q = 68 + 2 * j
  · rw [if_pos z, if_pos ⟨z.1, by omega, by omega, by omega⟩]
  · rw [if_neg z]
    by_cases u : a = c ∧ 68 ≤ q ∧ q < 68 + 2 * j ∧ q % 2 = 0
    · rw [if_pos u, if_pos ⟨u.1, u.2.1, by omega, u.2.2.2⟩]
    · rw [if_neg u, if_neg (fun v => by
        by_cases x : q = 68 + 2 * j
        · exact z ⟨v.1, x⟩
        · exact u ⟨v.1, v.2.1, by omega, v.2.2.2⟩)]
theorem quF_0 {G : Nat → Nat → Int32} {c : Nat} : quF G c 0 = G := by
  funext a q
  unfold quF
  rw [if_neg (by omega)]
theorem quF_ne {G : Nat → Nat → Int32} {c j a q : Nat} (h : ¬ (a = c ∧ 68 ≤ q ∧ q < 68 + 2 * j ∧ q % 2 = 0)) : quF G c j a q = G a q := if_neg h
theorem bg_3 {c : Nat} (tc : hT h c = 100) (lc : hL h c = 136) (G : Nat → Nat → Int32) (d : Nat) (Q : Option Value → PH → Prop) :
    ∀ (i j : Nat), j + i = 8 → WP d 593 3 [.ref c, .int (nI j)] [] (wI h (slF G c j)) Q = WP d 593 4 [.ref c, .int (nI 8)] [] (wI h (slF G c 8)) Q := by
  intro i
  induction i with
  | zero =>
    intro j hj
    obtain rfl : j = 8 := by omega
    rw [w_593_3]
    simp -implicitDefEqProofs (disch := first | omega | (simp (disch := omega) only [nb_upr]; omega)) only [zi_31, zi_96i, zi_96r, zi_96u, zi_96a, zi_33, zi_88, zi_335, zi_35, zi_0, zi_0n, zi_38, zi_216i, zi_216r, zi_216u, zi_216a, zi_40, zi_140, zi_48, zi_64, zi_51, zi_9, zi_123, zi_130, zi_42, zi_359, zi_360, zi_75, zi_77, zi_79, zi_70, zi_59, zi_54, zi_86, zi_206, zi_195, zi_361, zi_117, zi_224, zi_41, kC_eq, toL_s, toL_n, okS0, okS1, okS2, okS3, okS4, okS5, true_and, and_true, hT_wI, hL_wI, hR_wI, hI_wI, hJ_wI, sI_wI, rfP, isIA_100, isIA_120, inb_ok, nI_clamp, nI_add, nI_mul, ↓reduceIte, not_false_eq_true, not_true_eq_false, true_or, or_true, ↓bI_01, ↓b01_0, ↓b01_1, bI_0, z00, z10, n4, n5, n2, n8, Nat.reduceMul, Nat.reduceAdd, Nat.reduceLT, Nat.reduceLeDiff, nI_eq, nI_leI, nI_ltI, Nat.reduceEqDiff, pk_div, nI_sub, Nat.reduceDiv, Nat.reduceSub, Nat.le_refl]
  | succ i ih0 =>
    intro j hj
    have g : ¬ 8 ≤ j := by omega
    rw [← ih0 (j + 1) (by omega), w_593_3]
    simp -implicitDefEqProofs (disch := first | omega | (simp (disch := omega) only [nb_upr]; omega)) only [zi_31, zi_96i, zi_96r, zi_96u, zi_96a, zi_33, zi_88, zi_335, zi_35, zi_0, zi_0n, zi_38, zi_216i, zi_216r, zi_216u, zi_216a, zi_40, zi_140, zi_48, zi_64, zi_51, zi_9, zi_123, zi_130, zi_42, zi_359, zi_360, zi_75, zi_77, zi_79, zi_70, zi_59, zi_54, zi_86, zi_206, zi_195, zi_361, zi_117, zi_224, zi_41, tc, lc, kC_eq, toL_s, toL_n, okS0, okS1, okS2, okS3, okS4, okS5, true_and, and_true, hT_wI, hL_wI, hR_wI, hI_wI, hJ_wI, sI_wI, rfP, isIA_100, isIA_120, inb_ok, nI_clamp, nI_add, nI_mul, ↓reduceIte, not_false_eq_true, not_true_eq_false, true_or, or_true, ↓bI_01, ↓b01_0, ↓b01_1, bI_0, z00, z10, n4, n5, n2, n8, Nat.reduceMul, Nat.reduceAdd, Nat.reduceLT, Nat.reduceLeDiff, nI_eq, nI_leI, nI_ltI, Nat.reduceEqDiff, pk_div, nI_sub, Nat.reduceDiv, Nat.reduceSub, g, slF_up]
theorem bg_5 {c : Nat} (tc : hT h c = 100) (lc : hL h c = 136) (G : Nat → Nat → Int32) (d : Nat) (Q : Option Value → PH → Prop) :
    ∀ (i j : Nat), j + i = 4 → WP d 593 5 [.ref c, .int (nI j)] [] (wI h (quF G c j)) Q = Q none (wI h (quF G c 4)) := by
  intro i
  induction i with
  | zero =>
    intro j hj
    obtain rfl : j = 4 := by omega
    rw [w_593_5]
    simp -implicitDefEqProofs (disch := first | omega | (simp (disch := omega) only [nb_upr]; omega)) only [w_593_6, zi_31, zi_96i, zi_96r, zi_96u, zi_96a, zi_33, zi_88, zi_335, zi_35, zi_0, zi_0n, zi_38, zi_216i, zi_216r, zi_216u, zi_216a, zi_40, zi_140, zi_48, zi_64, zi_51, zi_9, zi_123, zi_130, zi_42, zi_359, zi_360, zi_75, zi_77, zi_79, zi_70, zi_59, zi_54, zi_86, zi_206, zi_195, zi_361, zi_117, zi_224, zi_41, kC_eq, toL_s, toL_n, okS0, okS1, okS2, okS3, okS4, okS5, true_and, and_true, hT_wI, hL_wI, hR_wI, hI_wI, hJ_wI, sI_wI, rfP, isIA_100, isIA_120, inb_ok, nI_clamp, nI_add, nI_mul, ↓reduceIte, not_false_eq_true, not_true_eq_false, true_or, or_true, ↓bI_01, ↓b01_0, ↓b01_1, bI_0, z00, z10, n4, n5, n2, n8, Nat.reduceMul, Nat.reduceAdd, Nat.reduceLT, Nat.reduceLeDiff, nI_eq, nI_leI, nI_ltI, Nat.reduceEqDiff, pk_div, nI_sub, Nat.reduceDiv, Nat.reduceSub, Nat.le_refl]
  | succ i ih0 =>
    intro j hj
    have g : ¬ 4 ≤ j := by omega
    rw [← ih0 (j + 1) (by omega), w_593_5]
    simp -implicitDefEqProofs (disch := first | omega | (simp (disch := omega) only [nb_upr]; omega)) only [zi_31, zi_96i, zi_96r, zi_96u, zi_96a, zi_33, zi_88, zi_335, zi_35, zi_0, zi_0n, zi_38, zi_216i, zi_216r, zi_216u, zi_216a, zi_40, zi_140, zi_48, zi_64, zi_51, zi_9, zi_123, zi_130, zi_42, zi_359, zi_360, zi_75, zi_77, zi_79, zi_70, zi_59, zi_54, zi_86, zi_206, zi_195, zi_361, zi_117, zi_224, zi_41, tc, lc, kC_eq, toL_s, toL_n, okS0, okS1, okS2, okS3, okS4, okS5, true_and, and_true, hT_wI, hL_wI, hR_wI, hI_wI, hJ_wI, sI_wI, rfP, isIA_100, isIA_120, inb_ok, nI_clamp, nI_add, nI_mul, ↓reduceIte, not_false_eq_true, not_true_eq_false, true_or, or_true, ↓bI_01, ↓b01_0, ↓b01_1, bI_0, z00, z10, n4, n5, n2, n8, Nat.reduceMul, Nat.reduceAdd, Nat.reduceLT, Nat.reduceLeDiff, nI_eq, nI_leI, nI_ltI, Nat.reduceEqDiff, pk_div, nI_sub, Nat.reduceDiv, Nat.reduceSub, g, quF_up]
def bgF (f : Nat → Nat → Int32) (c : Nat) : Nat → Nat → Int32 := fun a k => if a = c ∧ k < 136 then ini (nI 0) k else f a k
theorem bgF_eq {c : Nat} : quF (slF (up2 (up2 (up2 (up2 (up2 (up2 (up2 (up2 (fil f c 136 (nI 0)) c 0 (nI 10)) c 1 (nI 8)) c 2 (nI 4)) c 7 (nI 9)) c 8 (nI 4)) c 9 (nI 2)) c 10 (nI 6)) c 11 (nI 12)) c 8) c 4 = bgF f c := by
  funext a q
  by_cases ha : a = c
  · subst ha
    by_cases hq : q < 136
    · have eR : bgF f a a q = ini (nI 0) q := if_pos ⟨rfl, hq⟩
      rw [eR]
      by_cases c4 : 68 ≤ q ∧ q < 76 ∧ q % 2 = 0
      · obtain ⟨s, hs, rfl⟩ : ∃ s, s < 4 ∧ q = 68 + 2 * s := ⟨(q - 68) / 2, by omega, by omega⟩
        rw [ini_q hs]
        exact if_pos ⟨rfl, by omega, by omega, by omega⟩
      rw [quF_ne (by omega)]
      by_cases c5 : 12 ≤ q ∧ q < 68 ∧ (q - 12) % 7 = 5
      · obtain ⟨s, hs, rfl⟩ : ∃ s, s < 8 ∧ q = 17 + 7 * s := ⟨(q - 17) / 7, by omega, by omega⟩
        rw [ini_s hs]
        exact if_pos ⟨rfl, by omega, by omega, by omega⟩
      rw [slF_ne (by omega)]
      by_cases q11 : q = 11
      · subst q11; rw [up2_same]; rfl
      rw [up2_nk _ _ q11]
      by_cases q10 : q = 10
      · subst q10; rw [up2_same]; rfl
      rw [up2_nk _ _ q10]
      by_cases q9 : q = 9
      · subst q9; rw [up2_same]; rfl
      rw [up2_nk _ _ q9]
      by_cases q8 : q = 8
      · subst q8; rw [up2_same]; rfl
      rw [up2_nk _ _ q8]
      by_cases q7 : q = 7
      · subst q7; rw [up2_same]; rfl
      rw [up2_nk _ _ q7]
      by_cases q2 : q = 2
      · subst q2; rw [up2_same]; rfl
      rw [up2_nk _ _ q2]
      by_cases q1 : q = 1
      · subst q1; rw [up2_same]; rfl
      rw [up2_nk _ _ q1]
      by_cases q0 : q = 0
      · subst q0; rw [up2_same]; rfl
      rw [up2_nk _ _ q0, fil_in hq]
      by_cases q6 : q = 6
      · rw [q6]; rfl
      · rw [ini_0 (by omega)]
    · rw [quF_ne (by omega), slF_ne (by omega), up2_nk _ _ (by omega), up2_nk _ _ (by omega), up2_nk _ _ (by omega), up2_nk _ _ (by omega), up2_nk _ _ (by omega), up2_nk _ _ (by omega), up2_nk _ _ (by omega), up2_nk _ _ (by omega)]
      have e1 : fil f a 136 (nI 0) a q = f a q := if_neg (fun z => hq z.2)
      have e2 : bgF f a a q = f a q := if_neg (fun z => hq z.2)
      rw [e1, e2]
  · have e2 : bgF f c a q = f a q := if_neg (fun z => ha z.1)
    rw [e2, quF_ne (fun z => ha z.1), slF_ne (fun z => ha z.1), up2_ne _ _ ha, up2_ne _ _ ha, up2_ne _ _ ha, up2_ne _ _ ha, up2_ne _ _ ha, up2_ne _ _ ha, up2_ne _ _ ha, up2_ne _ _ ha, fil_ne ha]
theorem e_begins {c : Nat} (tc : hT h c = 100) (lc : hL h c = 136) (f : Nat → Nat → Int32) (d : Nat) (Q : Option Value → PH → Prop) : Run d 593 [.ref c] (wI h f) Q = Q none (wI h (bgF f c)) := by
  have h1 := bg_1 tc lc f d Q 136 0 rfl
  obtain ⟨G, hG⟩ : ∃ G, up2 (up2 (up2 (up2 (up2 (up2 (up2 (up2 (fil f c 136 (nI 0)) c 0 (nI 10)) c 1 (nI 8)) c 2 (nI 4)) c 7 (nI 9)) c 8 (nI 4)) c 9 (nI 2)) c 10 (nI 6)) c 11 (nI 12) = G := ⟨_, rfl⟩
  have h3 := bg_3 tc lc G d Q 8 0 rfl
  have h5 := bg_5 tc lc (slF G c 8) d Q 4 0 rfl
  rw [fil_0] at h1
  rw [slF_0] at h3
  rw [quF_0] at h5
  have p2 : WP d 593 2 [.ref c, .int (nI 136)] [] (wI h (fil f c 136 (nI 0))) Q = WP d 593 3 [.ref c, .int (nI 0)] [] (wI h G) Q := by
    rw [← hG, w_593_2]
    simp -implicitDefEqProofs (disch := first | omega | (simp (disch := omega) only [nb_upr]; omega)) only [zi_31, zi_96i, zi_96r, zi_96u, zi_96a, zi_33, zi_88, zi_335, zi_35, zi_0, zi_0n, zi_38, zi_216i, zi_216r, zi_216u, zi_216a, zi_40, zi_140, zi_48, zi_64, zi_51, zi_9, zi_123, zi_130, zi_42, zi_359, zi_360, zi_75, zi_77, zi_79, zi_70, zi_59, zi_54, zi_86, zi_206, zi_195, zi_361, zi_117, zi_224, zi_41, tc, lc, kC_eq, toL_s, toL_n, okS0, okS1, okS2, okS3, okS4, okS5, true_and, and_true, hT_wI, hL_wI, hR_wI, hI_wI, hJ_wI, sI_wI, rfP, isIA_100, isIA_120, inb_ok, nI_clamp, nI_add, nI_mul, ↓reduceIte, not_false_eq_true, not_true_eq_false, true_or, or_true, ↓bI_01, ↓b01_0, ↓b01_1, bI_0, z00, z10, n4, n5, n2, n8, Nat.reduceMul, Nat.reduceAdd, Nat.reduceLT, Nat.reduceLeDiff]
  have p4 : WP d 593 4 [.ref c, .int (nI 8)] [] (wI h (slF G c 8)) Q = WP d 593 5 [.ref c, .int (nI 0)] [] (wI h (slF G c 8)) Q := by
    rw [w_593_4]
    simp -implicitDefEqProofs (disch := first | omega | (simp (disch := omega) only [nb_upr]; omega)) only [zi_31, zi_96i, zi_96r, zi_96u, zi_96a, zi_33, zi_88, zi_335, zi_35, zi_0, zi_0n, zi_38, zi_216i, zi_216r, zi_216u, zi_216a, zi_40, zi_140, zi_48, zi_64, zi_51, zi_9, zi_123, zi_130, zi_42, zi_359, zi_360, zi_75, zi_77, zi_79, zi_70, zi_59, zi_54, zi_86, zi_206, zi_195, zi_361, zi_117, zi_224, zi_41, kC_eq, toL_s, toL_n, okS0, okS1, okS2, okS3, okS4, okS5, true_and, and_true, hT_wI, hL_wI, hR_wI, hI_wI, hJ_wI, sI_wI, rfP, isIA_100, isIA_120, inb_ok, nI_clamp, nI_add, nI_mul, ↓reduceIte, not_false_eq_true, not_true_eq_false, true_or, or_true, ↓bI_01, ↓b01_0, ↓b01_1, bI_0, z00, z10, n4, n5, n2, n8, Nat.reduceMul, Nat.reduceAdd, Nat.reduceLT, Nat.reduceLeDiff]
  have p0 : Run d 593 [.ref c] (wI h f) Q = WP d 593 1 [.ref c, .int (nI 0)] [] (wI h f) Q := by
    simp -implicitDefEqProofs (disch := first | omega | (simp (disch := omega) only [nb_upr]; omega)) only [R_593, w_593_0, zi_31, zi_96i, zi_96r, zi_96u, zi_96a, zi_33, zi_88, zi_335, zi_35, zi_0, zi_0n, zi_38, zi_216i, zi_216r, zi_216u, zi_216a, zi_40, zi_140, zi_48, zi_64, zi_51, zi_9, zi_123, zi_130, zi_42, zi_359, zi_360, zi_75, zi_77, zi_79, zi_70, zi_59, zi_54, zi_86, zi_206, zi_195, zi_361, zi_117, zi_224, zi_41, kC_eq, toL_s, toL_n, okS0, okS1, okS2, okS3, okS4, okS5, true_and, and_true, hT_wI, hL_wI, hR_wI, hI_wI, hJ_wI, sI_wI, rfP, isIA_100, isIA_120, inb_ok, nI_clamp, nI_add, nI_mul, ↓reduceIte, not_false_eq_true, not_true_eq_false, true_or, or_true, ↓bI_01, ↓b01_0, ↓b01_1, bI_0, z00, z10, n4, n5, n2, n8, Nat.reduceMul, Nat.reduceAdd, Nat.reduceLT, Nat.reduceLeDiff]
  rw [p0, h1, p2, h3, p4, h5, ← hG, bgF_eq]
end
