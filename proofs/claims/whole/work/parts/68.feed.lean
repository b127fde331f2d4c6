section
/-! feed; a boat more -/
variable {n : Nat} {h : PH} {f g : Nat → Nat → Int32}
def byt (x : Int64) (i : Nat) : Int32 := (UInt64.toInt64 (x.toUInt64 >>> ((nI (8 * i)).toInt64 &&& 63).toUInt64)).toInt32 &&& nI 255
theorem sh63 : ∀ i, i < 8 → ((nI (8 * i)).toInt64 &&& 63) = lN (8 * i) := by decide +kernel
theorem byt_eq (x : Int64) {i : Nat} (hi : i < 8) : ((x >>> ((nI (8 * i)).toInt64 &&& 63)) &&& lN 255).toInt32 = byt x i := by
  unfold byt
  rw [sh63 i hi]
  apply Int32.toBitVec_inj.mp
  have e1 : (lN (8 * i)).toBitVec = BitVec.ofNat 64 (8 * i) := rfl
  have e2 : (nI 255).toBitVec = BitVec.ofNat 32 255 := rfl
  have e3 : (lN 255).toBitVec = BitVec.ofNat 64 255 := rfl
  have hs1 : x.toBitVec.sshiftRight' ((BitVec.ofNat 64 (8 * i)).smod 64) = x.toBitVec.sshiftRight (8 * i) := by
    have : (BitVec.ofNat 64 (8 * i)).smod 64 = BitVec.ofNat 64 (8 * i) := by
      have h : ∀ i, i < 8 → (BitVec.ofNat 64 (8 * i)).smod 64 = BitVec.ofNat 64 (8 * i) := by decide +kernel
      exact h i hi
    rw [this, BitVec.sshiftRight_eq', BitVec.toNat_ofNat, Nat.mod_eq_of_lt (by omega)]
  have L : (((x >>> lN (8 * i)) &&& lN 255).toInt32).toBitVec = ((x.toBitVec.sshiftRight (8 * i)) &&& BitVec.ofNat 64 255).signExtend 32 := by
    rw [Int64.toBitVec_toInt32, Int64.toBitVec_and, Int64.toBitVec_shiftRight, e1, e3, hs1]
  have hs2 : (x.toUInt64 >>> (lN (8 * i)).toUInt64).toInt64.toBitVec = x.toBitVec >>> (8 * i) := by
    show (x.toUInt64 >>> (lN (8 * i)).toUInt64).toBitVec = _
    rw [UInt64.toBitVec_shiftRight]
    have : ((lN (8 * i)).toUInt64.toBitVec % 64) = BitVec.ofNat 64 (8 * i) := by
      have h : ∀ i, i < 8 → ((lN (8 * i)).toUInt64.toBitVec % 64) = BitVec.ofNat 64 (8 * i) := by decide +kernel
      exact h i hi
    rw [this, BitVec.ushiftRight_eq', BitVec.toNat_ofNat, Nat.mod_eq_of_lt (by omega)]
    rfl
  have R : ((UInt64.toInt64 (x.toUInt64 >>> (lN (8 * i)).toUInt64)).toInt32 &&& nI 255).toBitVec = ((x.toBitVec >>> (8 * i)).signExtend 32) &&& BitVec.ofNat 32 255 := by
    rw [Int32.toBitVec_and, e2, Int64.toBitVec_toInt32, hs2]
  rw [L, R]
  apply BitVec.eq_of_getLsbD_eq
  intro j hj
  simp only [BitVec.getLsbD_signExtend, BitVec.getLsbD_and, BitVec.getLsbD_sshiftRight, BitVec.getLsbD_ushiftRight]
  by_cases h8 : j < 8
  · have a1 : 8 * i + j < 64 := by omega
    have a2 : ¬ 64 ≤ j := by omega
    have a3 : (BitVec.ofNat 64 255).getLsbD j = (BitVec.ofNat 32 255).getLsbD j := by
      have h : ∀ j, j < 8 → (BitVec.ofNat 64 255).getLsbD j = (BitVec.ofNat 32 255).getLsbD j := by decide +kernel
      exact h j h8
    have a5 : j < 64 := by omega
    simp only [hj, a1, a2, a3, a5, decide_true, decide_false, Bool.not_false, Bool.true_and, ↓reduceIte]
  · have a3 : (BitVec.ofNat 64 255).getLsbD j = false := by
      have h : ∀ j, j < 32 → ¬ j < 8 → (BitVec.ofNat 64 255).getLsbD j = false := by decide +kernel
      exact h j hj h8
    have a4 : (BitVec.ofNat 32 255).getLsbD j = false := by
      have h : ∀ j, j < 32 → ¬ j < 8 → (BitVec.ofNat 32 255).getLsbD j = false := by decide +kernel
      exact h j hj h8
    have a5 : j < 64 := by omega
    simp only [hj, a3, a4, a5, decide_true, Bool.and_false, ↓reduceIte]
theorem and255 (y : Int32) : inR (y &&& nI 255) 255 := by
  refine ⟨(y.toBitVec &&& BitVec.ofNat 32 255).toNat, ?_, ?_⟩
  · rw [BitVec.toNat_and]
    exact Nat.and_le_right
  · apply Int32.toBitVec_inj.mp
    show y.toBitVec &&& BitVec.ofNat 32 255 = BitVec.ofNat 32 (y.toBitVec &&& BitVec.ofNat 32 255).toNat
    rw [BitVec.ofNat_toNat, BitVec.setWidth_eq]
def cFd (f : Nat → Nat → Int32) (c e q : Nat) (t : Nat) (x : Int64) (i : Nat) : Nat → Nat → Int32 := fun a k => if a = c ∧ k = q then nI (t + i) else if a = e ∧ t ≤ k ∧ k < t + i then byt x (k - t) else f a k
theorem cFd_c {f : Nat → Nat → Int32} {c e q t i : Nat} {x : Int64} : cFd f c e q t x i c q = nI (t + i) := if_pos ⟨rfl, rfl⟩
theorem cFd_up {f : Nat → Nat → Int32} {c e q t i : Nat} {x : Int64} (hne : ¬ c = e) : up2 (up2 (cFd f c e q t x i) e (t + i) (byt x i)) c q (nI (t + i + 1)) = cFd f c e q t x (i + 1) := by
  funext a k
  by_cases h1 : a = c ∧ k = q
  · obtain ⟨rfl, rfl⟩ := h1
    rw [up2_same, cFd_c]
    rfl
  · rw [up2_out h1]
    by_cases h2 : a = e ∧ k = t + i
    · obtain ⟨rfl, rfl⟩ := h2
      rw [up2_same]
      unfold cFd
      rw [if_neg h1, if_pos ⟨rfl, by omega, by omega⟩, show t + i - t = i by omega]
    · rw [up2_out h2]
      unfold cFd
      rw [if_neg h1, if_neg h1]
      by_cases h3 : a = e ∧ t ≤ k ∧ k < t + i
      · rw [if_pos h3, if_pos ⟨h3.1, h3.2.1, by omega⟩]
      · rw [if_neg h3, if_neg (fun z => h3 ⟨z.1, z.2.1, by have := z.2.2; by_cases y : k = t + i; exact absurd ⟨z.1, y⟩ h2; omega⟩)]
theorem cFd_0 {f : Nat → Nat → Int32} {c e q t : Nat} {x : Int64} (h : f c q = nI t) : cFd f c e q t x 0 = f := by
  funext a k
  unfold cFd
  by_cases h1 : a = c ∧ k = q
  · obtain ⟨rfl, rfl⟩ := h1
    rw [if_pos ⟨rfl, rfl⟩]
    exact h.symm
  · rw [if_neg h1, if_neg (by omega)]
theorem cFd_out {f : Nat → Nat → Int32} {c e q t i a k : Nat} {x : Int64} (h1 : ¬ (a = c ∧ k = q)) (h2 : ¬ a = e) : cFd f c e q t x i a k = f a k := by
  unfold cFd
  rw [if_neg h1, if_neg (fun z => h2 z.1)]
theorem feed_loop (F : FR h) (t m : Nat) (x : Int64) (hm : m ≤ 8) (ht : t + m ≤ 200) (d : Nat) (hd : 2 ≤ d) (f : Nat → Nat → Int32) (Q : Option Value → PH → Prop) :
    ∀ (j i : Nat), i + j = m → WP d 18 3 [.ref 100, .long x, .retAddr 0, .int (nI m), .int (nI i)] [] (wI h (cFd f 101 102 1 t x i)) Q = Q (some (.int (nI (t + m)))) (wI h (cFd f 101 102 1 t x m)) := by
  intro j
  induction j with
  | zero =>
    intro i hi
    obtain rfl : i = m := by omega
    rw [w_18_3]
    simp -implicitDefEqProofs (disch := first | omega | (simp (disch := omega) only [nb_upr]; omega)) only [w_18_4, zi_63, zi_48, zi_64, zi_65, zi_66, zi_37, zi_67w1, zi_67w2, zi_0, zi_0n, zi_68, zi_69, zi_70, zi_71, zi_72, zi_73, zi_31, zi_74i, zi_74r, zi_74u, zi_74a, zi_75, zi_76, zi_77, zi_78, zi_79, zi_80, zi_81, zi_82, zi_83, zi_84, zi_85i, zi_85r, zi_85u, zi_85a, zi_86, F.t100, F.r100_4, F.t101, kC_eq, toL_s, toL_n, okS0, okS1, okS2, okS3, okS4, okS5, true_and, and_true, hT_wI, hL_wI, hR_wI, hI_wI, hJ_wI, sI_wI, rfP, isIA_100, isIA_120, inb_ok, nI_clamp, nI_add, nI_mul, ↓reduceIte, not_false_eq_true, not_true_eq_false, true_or, or_true, ↓bI_01, ↓b01_0, ↓b01_1, bI_0, z00, z10, n4, n5, n2, n8, Nat.reduceMul, Nat.reduceAdd, Nat.reduceLT, Nat.reduceLeDiff, nI_eq, nI_leI, nI_ltI, Nat.reduceEqDiff, pk_div, nI_sub, Nat.reduceDiv, Nat.reduceSub, Nat.le_refl, cFd_c]
  | succ j ih0 =>
    intro i hi
    have g : ¬ m ≤ i := by omega
    have g2 : ¬ 200 ≤ t + i := by omega
    have ih := ih0 (i + 1) (by omega)
    have eb : (UInt64.toInt64 (x.toUInt64 >>> ((nI (8 * i)).toInt64 &&& 63).toUInt64)).toInt32 &&& nI 255 = byt x i := rfl
    have e2 : up2 (cFd f 101 102 1 t x i) 102 (t + i) (byt x i) 101 1 = nI (t + i) := by rw [up2_ne _ _ (by decide), cFd_c]
    rw [← ih, ← cFd_up (show ¬ 101 = 102 by decide), w_18_3]
    simp -implicitDefEqProofs (disch := first | omega | (simp (disch := omega) only [nb_upr]; omega)) only [R_1769, w_1769_0, w_1769_1, zi_0, zi_0n, zi_69, zi_71, zi_186, zi_624, zi_88, zi_38, zi_3i, zi_3r, zi_48, zi_70, zi_97, zi_33, zi_41, zi_63, zi_48, zi_64, zi_65, zi_66, zi_37, zi_67w1, zi_67w2, zi_0, zi_0n, zi_68, zi_69, zi_70, zi_71, zi_72, zi_73, zi_31, zi_74i, zi_74r, zi_74u, zi_74a, zi_75, zi_76, zi_77, zi_78, zi_79, zi_80, zi_81, zi_82, zi_83, zi_84, zi_85i, zi_85r, zi_85u, zi_85a, zi_86, F.t100, F.r100_4, F.t101, F.r101_0, F.t102, F.l102, kC_eq, toL_s, toL_n, okS0, okS1, okS2, okS3, okS4, okS5, true_and, and_true, hT_wI, hL_wI, hR_wI, hI_wI, hJ_wI, sI_wI, rfP, isIA_100, isIA_120, inb_ok, nI_clamp, nI_add, nI_mul, ↓reduceIte, not_false_eq_true, not_true_eq_false, true_or, or_true, ↓bI_01, ↓b01_0, ↓b01_1, bI_0, z00, z10, n4, n5, n2, n8, Nat.reduceMul, Nat.reduceAdd, Nat.reduceLT, Nat.reduceLeDiff, nI_eq, nI_leI, nI_ltI, Nat.reduceEqDiff, pk_div, nI_sub, Nat.reduceDiv, Nat.reduceSub, g, g2, cFd_c, eb, e2]
theorem mfeed_loop (F : FR h) (t m : Nat) (x : Int64) (hm : m ≤ 8) (ht : t + m ≤ 200) (d : Nat) (f : Nat → Nat → Int32) (Q : Option Value → PH → Prop) :
    ∀ (j i : Nat), i + j = m → WP d 602 3 [.ref 233, .long x, .retAddr 0, .int (nI m), .int (nI i)] [] (wI h (cFd f 233 239 7 t x i)) Q = Q (some (.int (nI (t + m)))) (wI h (cFd f 233 239 7 t x m)) := by
  intro j
  induction j with
  | zero =>
    intro i hi
    obtain rfl : i = m := by omega
    rw [w_602_3]
    simp -implicitDefEqProofs (disch := first | omega | (simp (disch := omega) only [nb_upr]; omega)) only [w_602_4, zi_63, zi_48, zi_64, zi_362, zi_98, zi_37, zi_67w1, zi_67w2, zi_0, zi_0n, zi_363, zi_70, zi_71, zi_72, zi_73, zi_31, zi_74i, zi_74r, zi_74u, zi_74a, zi_75, zi_76, zi_77, zi_364, zi_78, zi_79, zi_365, zi_366, zi_367, zi_81, zi_38, zi_3i, zi_3r, zi_368, zi_85i, zi_85r, zi_85u, zi_85a, zi_86, F.t233, kC_eq, toL_s, toL_n, okS0, okS1, okS2, okS3, okS4, okS5, true_and, and_true, hT_wI, hL_wI, hR_wI, hI_wI, hJ_wI, sI_wI, rfP, isIA_100, isIA_120, inb_ok, nI_clamp, nI_add, nI_mul, ↓reduceIte, not_false_eq_true, not_true_eq_false, true_or, or_true, ↓bI_01, ↓b01_0, ↓b01_1, bI_0, z00, z10, n4, n5, n2, n8, Nat.reduceMul, Nat.reduceAdd, Nat.reduceLT, Nat.reduceLeDiff, nI_eq, nI_leI, nI_ltI, Nat.reduceEqDiff, pk_div, nI_sub, Nat.reduceDiv, Nat.reduceSub, Nat.le_refl, cFd_c]
  | succ j ih0 =>
    intro i hi
    have g : ¬ m ≤ i := by omega
    have ih := ih0 (i + 1) (by omega)
    have eb := byt_eq x (show i < 8 by omega)
    have e2 : up2 (cFd f 233 239 7 t x i) 239 (t + i) (byt x i) 233 7 = nI (t + i) := by rw [up2_ne _ _ (by decide), cFd_c]
    rw [← ih, ← cFd_up (show ¬ 233 = 239 by decide), w_602_3]
    simp -implicitDefEqProofs (disch := first | omega | (simp (disch := omega) only [nb_upr]; omega)) only [zi_63, zi_48, zi_64, zi_362, zi_98, zi_37, zi_67w1, zi_67w2, zi_0, zi_0n, zi_363, zi_70, zi_71, zi_72, zi_73, zi_31, zi_74i, zi_74r, zi_74u, zi_74a, zi_75, zi_76, zi_77, zi_364, zi_78, zi_79, zi_365, zi_366, zi_367, zi_81, zi_38, zi_3i, zi_3r, zi_368, zi_85i, zi_85r, zi_85u, zi_85a, zi_86, F.t233, F.r233_6, F.t239, F.l239, kC_eq, toL_s, toL_n, okS0, okS1, okS2, okS3, okS4, okS5, true_and, and_true, hT_wI, hL_wI, hR_wI, hI_wI, hJ_wI, sI_wI, rfP, isIA_100, isIA_120, inb_ok, nI_clamp, nI_add, nI_mul, ↓reduceIte, not_false_eq_true, not_true_eq_false, true_or, or_true, ↓bI_01, ↓b01_0, ↓b01_1, bI_0, z00, z10, n4, n5, n2, n8, Nat.reduceMul, Nat.reduceAdd, Nat.reduceLT, Nat.reduceLeDiff, nI_eq, nI_leI, nI_ltI, Nat.reduceEqDiff, pk_div, nI_sub, Nat.reduceDiv, Nat.reduceSub, g, cFd_c, eb, e2]
theorem c_feed (n : Nat) (x : Int64) (v : Int32) : CALL 18 602 [.long x, .int v] n := by
  rintro h f ⟨F, T, V, em, hk, ht, hr, he, hs, hv⟩
  obtain ⟨t, t1, t2, t3, t4⟩ := id ht
  by_cases hz : v < nI 1 ∨ nI 8 < v
  · refine ⟨.int (Int32.ofInt (-1)), wI h f, h, f, fun Q => ?_, fun Q => ?_, ⟨F, T, V.mono (by omega), em, hk.mono (by omega), ht, hr, he, hs, hv⟩, FIX.refl h f⟩
    · simp -implicitDefEqProofs (disch := first | omega | (simp (disch := omega) only [nb_upr]; omega)) only [R_18, w_18_0, zi_63, zi_48, zi_64, zi_65, zi_66, zi_37, zi_67w1, zi_67w2, zi_0, zi_0n, zi_68, zi_69, zi_70, zi_71, zi_72, zi_73, zi_31, zi_74i, zi_74r, zi_74u, zi_74a, zi_75, zi_76, zi_77, zi_78, zi_79, zi_80, zi_81, zi_82, zi_83, zi_84, zi_85i, zi_85r, zi_85u, zi_85a, zi_86, kC_eq, toL_s, toL_n, okS0, okS1, okS2, okS3, okS4, okS5, true_and, and_true, hT_wI, hL_wI, hR_wI, hI_wI, hJ_wI, sI_wI, rfP, isIA_100, isIA_120, inb_ok, nI_clamp, nI_add, nI_mul, ↓reduceIte, not_false_eq_true, not_true_eq_false, true_or, or_true, ↓bI_01, ↓b01_0, ↓b01_1, bI_0, z00, z10, n4, n5, n2, n8, Nat.reduceMul, Nat.reduceAdd, Nat.reduceLT, Nat.reduceLeDiff, e_outside, hz]
    · simp -implicitDefEqProofs (disch := first | omega | (simp (disch := omega) only [nb_upr]; omega)) only [R_602, w_602_0, zi_63, zi_48, zi_64, zi_362, zi_98, zi_37, zi_67w1, zi_67w2, zi_0, zi_0n, zi_363, zi_70, zi_71, zi_72, zi_73, zi_31, zi_74i, zi_74r, zi_74u, zi_74a, zi_75, zi_76, zi_77, zi_364, zi_78, zi_79, zi_365, zi_366, zi_367, zi_81, zi_38, zi_3i, zi_3r, zi_368, zi_85i, zi_85r, zi_85u, zi_85a, zi_86, kC_eq, toL_s, toL_n, okS0, okS1, okS2, okS3, okS4, okS5, true_and, and_true, hT_wI, hL_wI, hR_wI, hI_wI, hJ_wI, sI_wI, rfP, isIA_100, isIA_120, inb_ok, nI_clamp, nI_add, nI_mul, ↓reduceIte, not_false_eq_true, not_true_eq_false, true_or, or_true, ↓bI_01, ↓b01_0, ↓b01_1, bI_0, z00, z10, n4, n5, n2, n8, Nat.reduceMul, Nat.reduceAdd, Nat.reduceLT, Nat.reduceLeDiff, e_in, hz]
  obtain ⟨m, -, hm, rfl⟩ := btw (by decide) (by decide) hz
  by_cases hf : t + m ≤ 200
  · have hle : nI (t + m) ≤ nI 200 := nI_le hf (by decide)
    have f3 : cFd f 101 102 1 t x m 233 7 = nI t := by rw [cFd_out (by decide) (by decide)]; exact t3
    have off : ∀ a k, ¬ (a = 101 ∧ k = 1) → ¬ a = 102 → ¬ (a = 233 ∧ k = 7) → ¬ a = 239 → cFd (cFd f 101 102 1 t x m) 233 239 7 t x m a k = f a k := fun a k h1 h2 h3 h4 => by
      rw [cFd_out h3 h4, cFd_out h1 h2]
    refine ⟨.int (nI (t + m)), wI h (cFd f 101 102 1 t x m), h, cFd (cFd f 101 102 1 t x m) 233 239 7 t x m, fun Q => ?_, fun Q => ?_, ⟨F, TB_of (fun a k ha => off a k (by omega) (by omega) (by omega) (by omega)) T, ?_, ?_, (hk.of (fun a k ha => off a k (by unfold kK at ha; omega) (by unfold kK at ha; omega) (by unfold kK at ha; omega) (by unfold kK at ha; omega))).mono (by omega), ⟨t + m, hf, ?_, ?_, fun k hk => ?_⟩, hr.of (fun a k ha => off a k (by unfold kR at ha; omega) (by unfold kR at ha; omega) (by unfold kR at ha; omega) (by unfold kR at ha; omega)), he.of (fun a k ha => off a k (by unfold kE at ha; omega) (by unfold kE at ha; omega) (by unfold kE at ha; omega) (by unfold kE at ha; omega)), hs.of (fun a k ha => off a k (by unfold kS at ha; omega) (by unfold kS at ha; omega) (by unfold kS at ha; omega) (by unfold kS at ha; omega)), hv.of (fun a k ha => off a k (by unfold kV at ha; omega) (by unfold kV at ha; omega) (by unfold kV at ha; omega) (by unfold kV at ha; omega))⟩, FIX.ints (fun a k ha => off a k (by omega) (by omega) (by omega) (by omega))⟩
    · have hl := feed_loop F t m x hm hf 30 (by decide) f Q m 0 (by omega)
      rw [cFd_0 t2] at hl
      simp -implicitDefEqProofs (disch := first | omega | (simp (disch := omega) only [nb_upr]; omega)) only [R_18, w_18_0, w_18_1, w_18_2, zi_63, zi_48, zi_64, zi_65, zi_66, zi_37, zi_67w1, zi_67w2, zi_0, zi_0n, zi_68, zi_69, zi_70, zi_71, zi_72, zi_73, zi_31, zi_74i, zi_74r, zi_74u, zi_74a, zi_75, zi_76, zi_77, zi_78, zi_79, zi_80, zi_81, zi_82, zi_83, zi_84, zi_85i, zi_85r, zi_85u, zi_85a, zi_86, F.t100, F.r100_4, F.t101, kC_eq, toL_s, toL_n, okS0, okS1, okS2, okS3, okS4, okS5, true_and, and_true, hT_wI, hL_wI, hR_wI, hI_wI, hJ_wI, sI_wI, rfP, isIA_100, isIA_120, inb_ok, nI_clamp, nI_add, nI_mul, ↓reduceIte, not_false_eq_true, not_true_eq_false, true_or, or_true, ↓bI_01, ↓b01_0, ↓b01_1, bI_0, z00, z10, n4, n5, n2, n8, Nat.reduceMul, Nat.reduceAdd, Nat.reduceLT, Nat.reduceLeDiff, e_outside, hz, t2, hle]
      exact hl
    · have hl := mfeed_loop F t m x hm hf 30 (cFd f 101 102 1 t x m) Q m 0 (by omega)
      rw [cFd_0 f3] at hl
      simp -implicitDefEqProofs (disch := first | omega | (simp (disch := omega) only [nb_upr]; omega)) only [R_602, w_602_0, w_602_1, w_602_2, zi_63, zi_48, zi_64, zi_362, zi_98, zi_37, zi_67w1, zi_67w2, zi_0, zi_0n, zi_363, zi_70, zi_71, zi_72, zi_73, zi_31, zi_74i, zi_74r, zi_74u, zi_74a, zi_75, zi_76, zi_77, zi_364, zi_78, zi_79, zi_365, zi_366, zi_367, zi_81, zi_38, zi_3i, zi_3r, zi_368, zi_85i, zi_85r, zi_85u, zi_85a, zi_86, F.t233, kC_eq, toL_s, toL_n, okS0, okS1, okS2, okS3, okS4, okS5, true_and, and_true, hT_wI, hL_wI, hR_wI, hI_wI, hJ_wI, sI_wI, rfP, isIA_100, isIA_120, inb_ok, nI_clamp, nI_add, nI_mul, ↓reduceIte, not_false_eq_true, not_true_eq_false, true_or, or_true, ↓bI_01, ↓b01_0, ↓b01_1, bI_0, z00, z10, n4, n5, n2, n8, Nat.reduceMul, Nat.reduceAdd, Nat.reduceLT, Nat.reduceLeDiff, e_in, hz, f3, hle]
      exact hl
    · rw [rv_eq (g := f) (fun a k h1 h2 => off a k (by omega) (by omega) (by omega) (by omega))]; exact V.mono (by omega)
    · rw [rv_eq (g := f) (fun a k h1 h2 => off a k (by omega) (by omega) (by omega) (by omega)), rm_eq (g := f) (by funext k; exact off 234 k (by omega) (by omega) (by omega) (by omega)), em]
    · rw [cFd_out (by decide) (by decide), cFd_c]
    · rw [cFd_c]
    · have q1 : cFd (cFd f 101 102 1 t x m) 233 239 7 t x m 102 k = cFd f 101 102 1 t x m 102 k := cFd_out (by omega) (by omega)
      rw [q1]
      by_cases z : k < t
      · have q2 : cFd f 101 102 1 t x m 102 k = f 102 k := by unfold cFd; rw [if_neg (by omega), if_neg (by omega)]
        have q3 : cFd (cFd f 101 102 1 t x m) 233 239 7 t x m 239 k = f 239 k := by
          have : cFd (cFd f 101 102 1 t x m) 233 239 7 t x m 239 k = cFd f 101 102 1 t x m 239 k := by
            show (if 239 = 233 ∧ k = 7 then _ else if 239 = 239 ∧ t ≤ k ∧ k < t + m then _ else _) = _
            rw [if_neg (by omega), if_neg (by omega)]
          rw [this, cFd_out (by omega) (by omega)]
        rw [q2, q3]
        exact t4 k z
      · have q2 : cFd f 101 102 1 t x m 102 k = byt x (k - t) := by unfold cFd; rw [if_neg (by omega), if_pos ⟨rfl, by omega, hk⟩]
        have q3 : cFd (cFd f 101 102 1 t x m) 233 239 7 t x m 239 k = byt x (k - t) := by
          show (if 239 = 233 ∧ k = 7 then _ else if 239 = 239 ∧ t ≤ k ∧ k < t + m then _ else _) = _
          rw [if_neg (by omega), if_pos ⟨rfl, by omega, hk⟩]
        rw [q2, q3]
        exact ⟨rfl, and255 _⟩
  · have hle : ¬ nI (t + m) ≤ nI 200 := nI_ge (by omega) (by omega)
    refine ⟨.int (Int32.ofInt (-2)), wI h f, h, f, fun Q => ?_, fun Q => ?_, ⟨F, T, V.mono (by omega), em, hk.mono (by omega), ht, hr, he, hs, hv⟩, FIX.refl h f⟩
    · simp -implicitDefEqProofs (disch := first | omega | (simp (disch := omega) only [nb_upr]; omega)) only [R_18, w_18_0, w_18_1, zi_63, zi_48, zi_64, zi_65, zi_66, zi_37, zi_67w1, zi_67w2, zi_0, zi_0n, zi_68, zi_69, zi_70, zi_71, zi_72, zi_73, zi_31, zi_74i, zi_74r, zi_74u, zi_74a, zi_75, zi_76, zi_77, zi_78, zi_79, zi_80, zi_81, zi_82, zi_83, zi_84, zi_85i, zi_85r, zi_85u, zi_85a, zi_86, F.t100, F.r100_4, F.t101, kC_eq, toL_s, toL_n, okS0, okS1, okS2, okS3, okS4, okS5, true_and, and_true, hT_wI, hL_wI, hR_wI, hI_wI, hJ_wI, sI_wI, rfP, isIA_100, isIA_120, inb_ok, nI_clamp, nI_add, nI_mul, ↓reduceIte, not_false_eq_true, not_true_eq_false, true_or, or_true, ↓bI_01, ↓b01_0, ↓b01_1, bI_0, z00, z10, n4, n5, n2, n8, Nat.reduceMul, Nat.reduceAdd, Nat.reduceLT, Nat.reduceLeDiff, e_outside, hz, t2, hle]
    · simp -implicitDefEqProofs (disch := first | omega | (simp (disch := omega) only [nb_upr]; omega)) only [R_602, w_602_0, w_602_1, zi_63, zi_48, zi_64, zi_362, zi_98, zi_37, zi_67w1, zi_67w2, zi_0, zi_0n, zi_363, zi_70, zi_71, zi_72, zi_73, zi_31, zi_74i, zi_74r, zi_74u, zi_74a, zi_75, zi_76, zi_77, zi_364, zi_78, zi_79, zi_365, zi_366, zi_367, zi_81, zi_38, zi_3i, zi_3r, zi_368, zi_85i, zi_85r, zi_85u, zi_85a, zi_86, F.t233, kC_eq, toL_s, toL_n, okS0, okS1, okS2, okS3, okS4, okS5, true_and, and_true, hT_wI, hL_wI, hR_wI, hI_wI, hJ_wI, sI_wI, rfP, isIA_100, isIA_120, inb_ok, nI_clamp, nI_add, nI_mul, ↓reduceIte, not_false_eq_true, not_true_eq_false, true_or, or_true, ↓bI_01, ↓b01_0, ↓b01_1, bI_0, z00, z10, n4, n5, n2, n8, Nat.reduceMul, Nat.reduceAdd, Nat.reduceLT, Nat.reduceLeDiff, e_in, hz, t3, hle]
/-! a boat more -/
/-- the world at b, read raw -/
def rw0 (f : Nat → Nat → Int32) (b : Nat) : Nat → Int32 := fun q => if q < 136 then f (b + cel q) (slt q) else 0
theorem rw0_up {f : Nat → Nat → Int32} {b c k : Nat} {x : Int32} (hp : pvd c k = true) : rw0 (up2 f (b + c) k x) b = upr (rw0 f b) (plc c k) x := by
  obtain ⟨i1, i2, i3⟩ := plc_inv hp
  funext q
  simp only [rw0, upr]
  by_cases h1 : q < 136
  · rw [if_pos h1, if_pos h1]
    obtain ⟨j1, j2, j3⟩ := plc_right q h1
    by_cases h2 : q = plc c k
    · subst h2
      rw [if_pos rfl, i1, i2, up2_same]
    · rw [if_neg h2, up2_out (fun z => h2 (by rw [← j3, show cel q = c by omega, z.2]))]
  · rw [if_neg h1, if_neg h1, if_neg (by omega)]
theorem rv_rw0 {f : Nat → Nat → Int32} {b : Nat} : rv f b = fun q => if q < min 136 (76 + 10 * (rw0 f b 5).toNatClampNeg) then rw0 f b q else 0 := by
  have e5 : rw0 f b 5 = f b 14 := rfl
  funext q
  unfold rv
  rw [e5]
  by_cases z : q < min 136 (76 + 10 * (f b 14).toNatClampNeg)
  · rw [if_pos z, if_pos z]
    unfold rw0
    rw [if_pos (by omega)]
  · rw [if_neg z, if_neg z]
theorem rw0_ww {f : Nat → Nat → Int32} {b q : Nat} {r : Nat → Int32} (hq : q < lim r) : rw0 (ww f b r) b q = r q := by
  have h1 := lim_le r
  unfold rw0
  rw [if_pos (by omega)]
  obtain ⟨j1, j2, j3⟩ := plc_right q (by omega)
  rw [ww_read _ _ j2 (by rw [j3]; exact hq), j3]
def bR (r : Nat → Int32) (k m s e : Int32) : Nat → Int32 := fun q => if q = 5 then nI (nb r + 1) else if q = 76 + 10 * nb r then k else if q = 77 + 10 * nb r then m else if q = 78 + 10 * nb r then s else if q = 79 + 10 * nb r then e else if 80 + 10 * nb r ≤ q ∧ q < 86 + 10 * nb r then nI 0 else r q
theorem nb_bR {r : Nat → Int32} {k m s e : Int32} (h6 : nb r < 6) : nb (bR r k m s e) = nb r + 1 := by
  show (bR r k m s e 5).toNatClampNeg = _
  have : bR r k m s e 5 = nI (nb r + 1) := if_pos rfl
  rw [this, nI_clamp (by omega)]
theorem Vr_bR {n : Nat} {r : Nat → Int32} (V : Vr n r) (h6 : nb r < 6) {k m s e : Nat} (hk : k ≤ 5) (hm : m ≤ 9) (hs : s ≤ 7) (he : e ≤ 9) : Vr n (bR r (nI k) (nI m) (nI s) (nI e)) := by
  have hl : lim (bR r (nI k) (nI m) (nI s) (nI e)) = 86 + 10 * nb r := by unfold lim; rw [nb_bR h6]; omega
  have hl0 : lim r = 76 + 10 * nb r := by unfold lim; omega
  refine ⟨fun q hq => ?_, ⟨by rw [nb_bR h6]; omega, by rw [nb_bR h6]; exact if_pos rfl⟩, fun q hq => ?_⟩
  · rw [hl] at hq
    unfold bR
    by_cases c5 : q = 5
    · rw [if_pos c5, c5, okq_f (by decide)]; trivial
    rw [if_neg c5]
    by_cases c0 : q = 76 + 10 * nb r
    · rw [if_pos c0, c0, okq_k]; exact ⟨k, hk, rfl⟩
    rw [if_neg c0]
    by_cases c1 : q = 77 + 10 * nb r
    · rw [if_pos c1, c1, okq_m]; exact ⟨m, hm, rfl⟩
    rw [if_neg c1]
    by_cases c2 : q = 78 + 10 * nb r
    · rw [if_pos c2, c2, okq_a]; exact ⟨s, hs, rfl⟩
    rw [if_neg c2]
    by_cases c3 : q = 79 + 10 * nb r
    · rw [if_pos c3, c3, okq_e]; exact ⟨e, he, rfl⟩
    rw [if_neg c3]
    by_cases c4 : 80 + 10 * nb r ≤ q ∧ q < 86 + 10 * nb r
    · rw [if_pos c4]
      by_cases c6 : q = 80 + 10 * nb r
      · rw [c6, okq_t]; exact ⟨0, by omega, rfl⟩
      · obtain ⟨j, hj, rfl⟩ : ∃ j, j < 5 ∧ q = 81 + 10 * nb r + j := ⟨q - (81 + 10 * nb r), by omega, by omega⟩
        rw [okq_h hj]; exact ⟨0, by omega, rfl⟩
    · rw [if_neg c4]
      exact V.1 q (by omega)
  · rw [hl] at hq
    unfold bR
    rw [if_neg (by omega), if_neg (by omega), if_neg (by omega), if_neg (by omega), if_neg (by omega), if_neg (by omega)]
    exact V.z q (by omega)
end
