section
/-! minds: bytes of a sheet go to a street -/
variable {n : Nat} {h : PH} {r : Nat → Int32}
def mR (r : Nat → Int32) (s : Nat) (J : Nat → Int64) : Nat → Nat → Int32
  | 0 => r
  | k + 1 => upr (mR r s J k) (12 + 7 * s + k) (cl99 (J k).toInt32)
theorem cl99_in (x : Int32) : inR (cl99 x) 99 := by
  unfold cl99
  by_cases h1 : x < 0
  · rw [if_pos h1]; exact ⟨0, by omega, rfl⟩
  · rw [if_neg h1]
    by_cases h2 : nI 99 < x
    · rw [if_pos h2]; exact ⟨99, by omega, rfl⟩
    · rw [if_neg h2]
      obtain ⟨k, -, hk, rfl⟩ := btw (v := x) (a := 0) (c := 99) (by decide) (by decide) (fun z => z.elim h1 h2)
      exact ⟨k, hk, rfl⟩
theorem mm99 (x : Int32) : (if nI 0 < (if x < nI 99 then x else nI 99) then (if x < nI 99 then x else nI 99) else nI 0) = cl99 x := by
  unfold cl99
  by_cases h1 : x < 0
  · have h2 : x < nI 99 := Int32.lt_trans h1 (by decide)
    have h3 : ¬ nI 0 < x := fun z => Int32.lt_irrefl (Int32.lt_trans (show x < nI 0 from h1) z)
    rw [if_pos h1, if_pos h2, if_neg h3]
    rfl
  · rw [if_neg h1]
    by_cases h2 : nI 99 < x
    · have h3 : ¬ x < nI 99 := fun z => Int32.lt_irrefl (Int32.lt_trans z h2)
      rw [if_pos h2, if_neg h3, if_pos (by decide)]
    · rw [if_neg h2]
      obtain ⟨k, -, hk, rfl⟩ := btw (v := x) (a := 0) (c := 99) (by decide) (by decide) (fun z => z.elim h1 h2)
      by_cases h3 : k < 99
      · rw [if_pos ((nI_ltI (by omega) (by omega)).mpr h3)]
        by_cases h4 : 0 < k
        · rw [if_pos ((nI_ltI (by omega) (by omega)).mpr h4)]
        · rw [if_neg (fun z => h4 ((nI_ltI (by omega) (by omega)).mp z)), show k = 0 by omega]
      · obtain rfl : k = 99 := by omega
        decide
theorem Vr_mR {s : Nat} {J : Nat → Int64} (V : Vr n r) (hs : s < 8) : ∀ k, k ≤ 5 → Vr n (mR r s J k)
  | 0, _ => V
  | k + 1, hk => by
    have := Vr_mR (J := J) V hs k (by omega)
    exact this.put (lim_lt (by omega)) (by omega) (by rw [okq_s hs (by omega)]; exact cl99_in _)
theorem mR_eq {s : Nat} {J J' : Nat → Int64} {M : Nat} (e : ∀ k, k < M → J k = J' k) : ∀ k, k ≤ M → mR r s J k = mR r s J' k
  | 0, _ => rfl
  | k + 1, hk => by
    show upr (mR r s J k) _ (cl99 (J k).toInt32) = upr (mR r s J' k) _ (cl99 (J' k).toInt32)
    rw [e k (by omega), mR_eq e k (by omega)]
theorem minds_loop (F : FR h) (f : Nat → Nat → Int32) (c l m s i N : Nat) (h8 : hT h c = 8) (h1 : hR h c 1 = some l) (ht : hT h l = 102) (hl : hL h l = m) (hm : m ≤ 40) (hs : s < 8) (hN : N ≤ 5) (hi : i + N ≤ m) (x1 : Int32) (d : Nat) (Q : Option Value → PH → Prop) :
    ∀ (j k : Nat) (v7 : Value), k + j = N → WP d 492 7 [.ref 100, .int x1, .int (nI i), .int (nI s), .int (nI N), .ref c, .int (nI k), v7] [] (wI h (ww f 117 (mR r s (fun k => hJ h l (i + k)) k))) Q = Q (some (.int (nI N))) (wI h (ww f 117 (mR r s (fun k => hJ h l (i + k)) N))) := by
  intro j
  induction j with
  | zero =>
    intro k v7 hk
    obtain rfl : k = N := by omega
    rw [w_492_7]
    simp -implicitDefEqProofs (disch := first | omega | (simp (disch := omega) only [nb_upr]; omega)) only [w_492_8, zi_88, zi_217, zi_98, zi_63, zi_122, zi_76, zi_31, zi_59, zi_65, zi_108, zi_33, zi_37, zi_67w1, zi_67w2, zi_0, zi_0n, zi_218, zi_183, zi_284i, zi_284r, zi_284u, zi_284a, zi_284ni, zi_284nr, zi_284nu, zi_284na, zi_285, zi_285n, zi_219n, zi_219r, zi_220, zi_286, zi_287, zi_288, zi_34, zi_228, zi_173, zi_235, zi_101, zi_289, zi_206, zi_290, zi_193i, zi_193r, zi_193u, zi_193a, zi_214, zi_194, zi_229, zi_132, zi_70, zi_233, zi_81, zi_154, zi_244, zi_197i, zi_197r, zi_197u, zi_197a, zi_92, zi_128, zi_79, zi_198, zi_38, zi_207i, zi_207r, zi_207u, zi_207a, zi_213, kC_eq, toL_s, toL_n, okS0, okS1, okS2, okS3, okS4, okS5, true_and, and_true, hT_wI, hL_wI, hR_wI, hI_wI, hJ_wI, sI_wI, rfP, isIA_100, isIA_120, inb_ok, nI_clamp, nI_add, nI_mul, ↓reduceIte, not_false_eq_true, not_true_eq_false, true_or, or_true, ↓bI_01, ↓b01_0, ↓b01_1, bI_0, z00, z10, n4, n5, n2, n8, Nat.reduceMul, Nat.reduceAdd, Nat.reduceLT, Nat.reduceLeDiff, nI_eq, nI_leI, nI_ltI, Nat.reduceEqDiff, pk_div, nI_sub, Nat.reduceDiv, Nat.reduceSub, Nat.le_refl]
  | succ j ih0 =>
    intro k v7 hk
    obtain ⟨b, hb⟩ : ∃ b, b = 117 := ⟨_, rfl⟩
    have w := F.w117
    have hn := F.r100_0
    rw [← hb] at w hn
    have g : ¬ N ≤ k := by omega
    have ih := ih0 (k + 1) (.int (cl99 (hJ h l (i + k)).toInt32)) (by omega)
    have e : mR r s (fun k => hJ h l (i + k)) (k + 1) = upr (mR r s (fun k => hJ h l (i + k)) k) (12 + 7 * s + k) (cl99 (hJ h l (i + k)).toInt32) := rfl
    rw [← ih, e, ← hb, w_492_7]
    simp -implicitDefEqProofs (disch := first | omega | (simp (disch := omega) only [nb_upr]; omega)) only [zi_88, zi_217, zi_98, zi_63, zi_122, zi_76, zi_31, zi_59, zi_65, zi_108, zi_33, zi_37, zi_67w1, zi_67w2, zi_0, zi_0n, zi_218, zi_183, zi_284i, zi_284r, zi_284u, zi_284a, zi_284ni, zi_284nr, zi_284nu, zi_284na, zi_285, zi_285n, zi_219n, zi_219r, zi_220, zi_286, zi_287, zi_288, zi_34, zi_228, zi_173, zi_235, zi_101, zi_289, zi_206, zi_290, zi_193i, zi_193r, zi_193u, zi_193a, zi_214, zi_194, zi_229, zi_132, zi_70, zi_233, zi_81, zi_154, zi_244, zi_197i, zi_197r, zi_197u, zi_197a, zi_92, zi_128, zi_79, zi_198, zi_38, zi_207i, zi_207r, zi_207u, zi_207a, zi_213, F.t100, hn, w.t, w.r3, w.t3, w.l3, kC_eq, toL_s, toL_n, okS0, okS1, okS2, okS3, okS4, okS5, true_and, and_true, hT_wI, hL_wI, hR_wI, hI_wI, hJ_wI, sI_wI, rfP, isIA_100, isIA_120, inb_ok, nI_clamp, nI_add, nI_mul, ↓reduceIte, not_false_eq_true, not_true_eq_false, true_or, or_true, ↓bI_01, ↓b01_0, ↓b01_1, bI_0, z00, z10, n4, n5, n2, n8, Nat.reduceMul, Nat.reduceAdd, Nat.reduceLT, Nat.reduceLeDiff, nI_eq, nI_leI, nI_ltI, Nat.reduceEqDiff, pk_div, nI_sub, Nat.reduceDiv, Nat.reduceSub, g, h8, h1, ht, hl, mm99, ws_s]
theorem mminds_loop (F : FR h) (f : Nat → Nat → Int32) (s p i N : Nat) (hs : s < 8) (hp : p < 4) (hN : N ≤ 5) (hi : i + N ≤ 40) (x5 : Int32) (d : Nat) (hd : 1 ≤ d) (Q : Option Value → PH → Prop) :
    ∀ (j k : Nat), k + j = N → WP d 1348 6 [.ref 233, .int (nI p), .int (nI i), .int (nI s), .int (nI N), .int x5, .int (nI k)] [] (wI h (mw f 234 (mR r s (fun k => hJ h 248 (40 * p + i + k)) k))) Q = Q (some (.int (nI N))) (wI h (mw f 234 (mR r s (fun k => hJ h 248 (40 * p + i + k)) N))) := by
  intro j
  induction j with
  | zero =>
    intro k hk
    obtain rfl : k = N := by omega
    rw [w_1348_6]
    simp -implicitDefEqProofs (disch := first | omega | (simp (disch := omega) only [nb_upr]; omega)) only [w_1348_7, zi_88, zi_505, zi_66, zi_63, zi_454, zi_76, zi_31, zi_59, zi_362, zi_452, zi_33, zi_37, zi_67w1, zi_67w2, zi_0, zi_0n, zi_544, zi_164i, zi_164r, zi_164u, zi_164a, zi_165, zi_297, zi_34, zi_545, zi_508, zi_106, zi_101, zi_498, zi_133, zi_290, zi_193i, zi_193r, zi_193u, zi_193a, zi_237, zi_194, zi_230, zi_509, zi_17, zi_79, zi_70, zi_233, zi_81, zi_132, zi_477, zi_474, zi_207i, zi_207r, zi_207u, zi_207a, zi_236, kC_eq, toL_s, toL_n, okS0, okS1, okS2, okS3, okS4, okS5, true_and, and_true, hT_wI, hL_wI, hR_wI, hI_wI, hJ_wI, sI_wI, rfP, isIA_100, isIA_120, inb_ok, nI_clamp, nI_add, nI_mul, ↓reduceIte, not_false_eq_true, not_true_eq_false, true_or, or_true, ↓bI_01, ↓b01_0, ↓b01_1, bI_0, z00, z10, n4, n5, n2, n8, Nat.reduceMul, Nat.reduceAdd, Nat.reduceLT, Nat.reduceLeDiff, nI_eq, nI_leI, nI_ltI, Nat.reduceEqDiff, pk_div, nI_sub, Nat.reduceDiv, Nat.reduceSub, Nat.le_refl]
  | succ j ih0 =>
    intro k hk
    have g : ¬ N ≤ k := by omega
    have ih := ih0 (k + 1) (by omega)
    have e : mR r s (fun k => hJ h 248 (40 * p + i + k)) (k + 1) = upr (mR r s (fun k => hJ h 248 (40 * p + i + k)) k) (12 + 7 * s + k) (cl99 (hJ h 248 (40 * p + i + k)).toInt32) := rfl
    have ec : (if (hJ h 248 (40 * p + i + k)).toInt32 < nI 0 then nI 0 else if nI 99 < (hJ h 248 (40 * p + i + k)).toInt32 then nI 99 else (hJ h 248 (40 * p + i + k)).toInt32) = cl99 (hJ h 248 (40 * p + i + k)).toInt32 := rfl
    have k5 : k < 5 := by omega
    rw [← ih, e, w_1348_6]
    simp -implicitDefEqProofs (disch := first | omega | (simp (disch := omega) only [nb_upr]; omega)) only [zi_88, zi_505, zi_66, zi_63, zi_454, zi_76, zi_31, zi_59, zi_362, zi_452, zi_33, zi_37, zi_67w1, zi_67w2, zi_0, zi_0n, zi_544, zi_164i, zi_164r, zi_164u, zi_164a, zi_165, zi_297, zi_34, zi_545, zi_508, zi_106, zi_101, zi_498, zi_133, zi_290, zi_193i, zi_193r, zi_193u, zi_193a, zi_237, zi_194, zi_230, zi_509, zi_17, zi_79, zi_70, zi_233, zi_81, zi_132, zi_477, zi_474, zi_207i, zi_207r, zi_207u, zi_207a, zi_236, F.t233, F.r233_26, F.t248, F.l248, kC_eq, toL_s, toL_n, okS0, okS1, okS2, okS3, okS4, okS5, true_and, and_true, hT_wI, hL_wI, hR_wI, hI_wI, hJ_wI, sI_wI, rfP, isIA_100, isIA_120, inb_ok, nI_clamp, nI_add, nI_mul, ↓reduceIte, not_false_eq_true, not_true_eq_false, true_or, or_true, ↓bI_01, ↓b01_0, ↓b01_1, bI_0, z00, z10, n4, n5, n2, n8, Nat.reduceMul, Nat.reduceAdd, Nat.reduceLT, Nat.reduceLeDiff, nI_eq, nI_leI, nI_ltI, Nat.reduceEqDiff, pk_div, nI_sub, Nat.reduceDiv, Nat.reduceSub, g, e_held, ec, e_setsAt F hs k5]
theorem c_minds (n : Nat) (p i s v : Int32) : CALL 492 1348 [.int p, .int i, .int s, .int v] n := by
  refine call_ofF (fun h f r I F T V hrv => ?_)
  have hs := I.2.2.2.2.2.2.2.2.1
  by_cases hb : p < nI 0 ∨ nI 3 < p
  · exact ⟨.int (Int32.ofInt (-1)), r, V.mono (by omega), ⟨f, ScC.refl f, fun Q => by simp -implicitDefEqProofs (disch := first | omega | (simp (disch := omega) only [nb_upr]; omega)) only [R_492, w_492_0, w_492_1, zi_88, zi_217, zi_98, zi_63, zi_122, zi_76, zi_31, zi_59, zi_65, zi_108, zi_33, zi_37, zi_67w1, zi_67w2, zi_0, zi_0n, zi_218, zi_183, zi_284i, zi_284r, zi_284u, zi_284a, zi_284ni, zi_284nr, zi_284nu, zi_284na, zi_285, zi_285n, zi_219n, zi_219r, zi_220, zi_286, zi_287, zi_288, zi_34, zi_228, zi_173, zi_235, zi_101, zi_289, zi_206, zi_290, zi_193i, zi_193r, zi_193u, zi_193a, zi_214, zi_194, zi_229, zi_132, zi_70, zi_233, zi_81, zi_154, zi_244, zi_197i, zi_197r, zi_197u, zi_197a, zi_92, zi_128, zi_79, zi_198, zi_38, zi_207i, zi_207r, zi_207u, zi_207a, zi_213, kC_eq, toL_s, toL_n, okS0, okS1, okS2, okS3, okS4, okS5, true_and, and_true, hT_wI, hL_wI, hR_wI, hI_wI, hJ_wI, sI_wI, rfP, isIA_100, isIA_120, inb_ok, nI_clamp, nI_add, nI_mul, ↓reduceIte, not_false_eq_true, not_true_eq_false, true_or, or_true, ↓bI_01, ↓b01_0, ↓b01_1, bI_0, z00, z10, n4, n5, n2, n8, Nat.reduceMul, Nat.reduceAdd, Nat.reduceLT, Nat.reduceLeDiff, e_noSheet, hb]⟩, fun g _ _ => ⟨g, Sc.refl g, fun Q => by simp -implicitDefEqProofs (disch := first | omega | (simp (disch := omega) only [nb_upr]; omega)) only [R_1348, w_1348_0, w_1348_1, zi_88, zi_505, zi_66, zi_63, zi_454, zi_76, zi_31, zi_59, zi_362, zi_452, zi_33, zi_37, zi_67w1, zi_67w2, zi_0, zi_0n, zi_544, zi_164i, zi_164r, zi_164u, zi_164a, zi_165, zi_297, zi_34, zi_545, zi_508, zi_106, zi_101, zi_498, zi_133, zi_290, zi_193i, zi_193r, zi_193u, zi_193a, zi_237, zi_194, zi_230, zi_509, zi_17, zi_79, zi_70, zi_233, zi_81, zi_132, zi_477, zi_474, zi_207i, zi_207r, zi_207u, zi_207a, zi_236, kC_eq, toL_s, toL_n, okS0, okS1, okS2, okS3, okS4, okS5, true_and, and_true, hT_wI, hL_wI, hR_wI, hI_wI, hJ_wI, sI_wI, rfP, isIA_100, isIA_120, inb_ok, nI_clamp, nI_add, nI_mul, ↓reduceIte, not_false_eq_true, not_true_eq_false, true_or, or_true, ↓bI_01, ↓b01_0, ↓b01_1, bI_0, z00, z10, n4, n5, n2, n8, Nat.reduceMul, Nat.reduceAdd, Nat.reduceLT, Nat.reduceLeDiff, e_isShelf, hb]⟩⟩
  by_cases hz : s < nI 0 ∨ nI 7 < s
  · exact ⟨.int (Int32.ofInt (-1)), r, V.mono (by omega), ⟨f, ScC.refl f, fun Q => by simp -implicitDefEqProofs (disch := first | omega | (simp (disch := omega) only [nb_upr]; omega)) only [R_492, w_492_0, w_492_1, zi_88, zi_217, zi_98, zi_63, zi_122, zi_76, zi_31, zi_59, zi_65, zi_108, zi_33, zi_37, zi_67w1, zi_67w2, zi_0, zi_0n, zi_218, zi_183, zi_284i, zi_284r, zi_284u, zi_284a, zi_284ni, zi_284nr, zi_284nu, zi_284na, zi_285, zi_285n, zi_219n, zi_219r, zi_220, zi_286, zi_287, zi_288, zi_34, zi_228, zi_173, zi_235, zi_101, zi_289, zi_206, zi_290, zi_193i, zi_193r, zi_193u, zi_193a, zi_214, zi_194, zi_229, zi_132, zi_70, zi_233, zi_81, zi_154, zi_244, zi_197i, zi_197r, zi_197u, zi_197a, zi_92, zi_128, zi_79, zi_198, zi_38, zi_207i, zi_207r, zi_207u, zi_207a, zi_213, kC_eq, toL_s, toL_n, okS0, okS1, okS2, okS3, okS4, okS5, true_and, and_true, hT_wI, hL_wI, hR_wI, hI_wI, hJ_wI, sI_wI, rfP, isIA_100, isIA_120, inb_ok, nI_clamp, nI_add, nI_mul, ↓reduceIte, not_false_eq_true, not_true_eq_false, true_or, or_true, ↓bI_01, ↓b01_0, ↓b01_1, bI_0, z00, z10, n4, n5, n2, n8, Nat.reduceMul, Nat.reduceAdd, Nat.reduceLT, Nat.reduceLeDiff, e_noSheet, hb, e_noStreet, hz]⟩, fun g _ _ => ⟨g, Sc.refl g, fun Q => by simp -implicitDefEqProofs (disch := first | omega | (simp (disch := omega) only [nb_upr]; omega)) only [R_1348, w_1348_0, w_1348_1, zi_88, zi_505, zi_66, zi_63, zi_454, zi_76, zi_31, zi_59, zi_362, zi_452, zi_33, zi_37, zi_67w1, zi_67w2, zi_0, zi_0n, zi_544, zi_164i, zi_164r, zi_164u, zi_164a, zi_165, zi_297, zi_34, zi_545, zi_508, zi_106, zi_101, zi_498, zi_133, zi_290, zi_193i, zi_193r, zi_193u, zi_193a, zi_237, zi_194, zi_230, zi_509, zi_17, zi_79, zi_70, zi_233, zi_81, zi_132, zi_477, zi_474, zi_207i, zi_207r, zi_207u, zi_207a, zi_236, kC_eq, toL_s, toL_n, okS0, okS1, okS2, okS3, okS4, okS5, true_and, and_true, hT_wI, hL_wI, hR_wI, hI_wI, hJ_wI, sI_wI, rfP, isIA_100, isIA_120, inb_ok, nI_clamp, nI_add, nI_mul, ↓reduceIte, not_false_eq_true, not_true_eq_false, true_or, or_true, ↓bI_01, ↓b01_0, ↓b01_1, bI_0, z00, z10, n4, n5, n2, n8, Nat.reduceMul, Nat.reduceAdd, Nat.reduceLT, Nat.reduceLeDiff, e_isShelf, hb, e_isStreet, hz]⟩⟩
  by_cases hv : v < nI 0 ∨ nI 5 < v
  · exact ⟨.int (Int32.ofInt (-1)), r, V.mono (by omega), ⟨f, ScC.refl f, fun Q => by simp -implicitDefEqProofs (disch := first | omega | (simp (disch := omega) only [nb_upr]; omega)) only [R_492, w_492_0, w_492_1, zi_88, zi_217, zi_98, zi_63, zi_122, zi_76, zi_31, zi_59, zi_65, zi_108, zi_33, zi_37, zi_67w1, zi_67w2, zi_0, zi_0n, zi_218, zi_183, zi_284i, zi_284r, zi_284u, zi_284a, zi_284ni, zi_284nr, zi_284nu, zi_284na, zi_285, zi_285n, zi_219n, zi_219r, zi_220, zi_286, zi_287, zi_288, zi_34, zi_228, zi_173, zi_235, zi_101, zi_289, zi_206, zi_290, zi_193i, zi_193r, zi_193u, zi_193a, zi_214, zi_194, zi_229, zi_132, zi_70, zi_233, zi_81, zi_154, zi_244, zi_197i, zi_197r, zi_197u, zi_197a, zi_92, zi_128, zi_79, zi_198, zi_38, zi_207i, zi_207r, zi_207u, zi_207a, zi_213, kC_eq, toL_s, toL_n, okS0, okS1, okS2, okS3, okS4, okS5, true_and, and_true, hT_wI, hL_wI, hR_wI, hI_wI, hJ_wI, sI_wI, rfP, isIA_100, isIA_120, inb_ok, nI_clamp, nI_add, nI_mul, ↓reduceIte, not_false_eq_true, not_true_eq_false, true_or, or_true, ↓bI_01, ↓b01_0, ↓b01_1, bI_0, z00, z10, n4, n5, n2, n8, Nat.reduceMul, Nat.reduceAdd, Nat.reduceLT, Nat.reduceLeDiff, e_noSheet, hb, e_noStreet, hz, e_outside, hv]⟩, fun g _ _ => ⟨g, Sc.refl g, fun Q => by simp -implicitDefEqProofs (disch := first | omega | (simp (disch := omega) only [nb_upr]; omega)) only [R_1348, w_1348_0, w_1348_1, zi_88, zi_505, zi_66, zi_63, zi_454, zi_76, zi_31, zi_59, zi_362, zi_452, zi_33, zi_37, zi_67w1, zi_67w2, zi_0, zi_0n, zi_544, zi_164i, zi_164r, zi_164u, zi_164a, zi_165, zi_297, zi_34, zi_545, zi_508, zi_106, zi_101, zi_498, zi_133, zi_290, zi_193i, zi_193r, zi_193u, zi_193a, zi_237, zi_194, zi_230, zi_509, zi_17, zi_79, zi_70, zi_233, zi_81, zi_132, zi_477, zi_474, zi_207i, zi_207r, zi_207u, zi_207a, zi_236, kC_eq, toL_s, toL_n, okS0, okS1, okS2, okS3, okS4, okS5, true_and, and_true, hT_wI, hL_wI, hR_wI, hI_wI, hJ_wI, sI_wI, rfP, isIA_100, isIA_120, inb_ok, nI_clamp, nI_add, nI_mul, ↓reduceIte, not_false_eq_true, not_true_eq_false, true_or, or_true, ↓bI_01, ↓b01_0, ↓b01_1, bI_0, z00, z10, n4, n5, n2, n8, Nat.reduceMul, Nat.reduceAdd, Nat.reduceLT, Nat.reduceLeDiff, e_isShelf, hb, e_isStreet, hz, e_in, hv]⟩⟩
  obtain ⟨p, -, hp3, rfl⟩ := btw (by decide) (by decide) hb
  obtain ⟨s, -, hs7, rfl⟩ := btw (by decide) (by decide) hz
  obtain ⟨N, -, hN5, rfl⟩ := btw (by decide) (by decide) hv
  have p4 : p < 4 := by omega
  have neg : (0 ≤ Int32.ofInt (-1)) = False := by decide
  have n11 : ¬ Int32.ofInt (-11) = 0 := by decide
  have n13 : ¬ Int32.ofInt (-13) = 0 := by decide
  have sp := hs.2.1 p p4
  rcases sp with ⟨z1, z2⟩ | ⟨c, l, t, m, z1, z2, z3, z4, z5⟩
  · refine ⟨.int (Int32.ofInt (-11)), r, V.mono (by omega), ⟨f, ScC.refl f, fun Q => by simp -implicitDefEqProofs (disch := first | omega | (simp (disch := omega) only [nb_upr]; omega)) only [R_492, w_492_0, w_492_2, zi_88, zi_217, zi_98, zi_63, zi_122, zi_76, zi_31, zi_59, zi_65, zi_108, zi_33, zi_37, zi_67w1, zi_67w2, zi_0, zi_0n, zi_218, zi_183, zi_284i, zi_284r, zi_284u, zi_284a, zi_284ni, zi_284nr, zi_284nu, zi_284na, zi_285, zi_285n, zi_219n, zi_219r, zi_220, zi_286, zi_287, zi_288, zi_34, zi_228, zi_173, zi_235, zi_101, zi_289, zi_206, zi_290, zi_193i, zi_193r, zi_193u, zi_193a, zi_214, zi_194, zi_229, zi_132, zi_70, zi_233, zi_81, zi_154, zi_244, zi_197i, zi_197r, zi_197u, zi_197a, zi_92, zi_128, zi_79, zi_198, zi_38, zi_207i, zi_207r, zi_207u, zi_207a, zi_213, F.t100, F.r100_6, F.t105, F.l105, kC_eq, toL_s, toL_n, okS0, okS1, okS2, okS3, okS4, okS5, true_and, and_true, hT_wI, hL_wI, hR_wI, hI_wI, hJ_wI, sI_wI, rfP, isIA_100, isIA_120, inb_ok, nI_clamp, nI_add, nI_mul, ↓reduceIte, not_false_eq_true, not_true_eq_false, true_or, or_true, ↓bI_01, ↓b01_0, ↓b01_1, bI_0, z00, z10, n4, n5, n2, n8, Nat.reduceMul, Nat.reduceAdd, Nat.reduceLT, Nat.reduceLeDiff, e_noSheet, hb, e_noStreet, hz, e_outside, hv, z1]⟩, fun g hg _ => ⟨g, Sc.refl g, fun Q => ?_⟩⟩
    have g6 : mw g 234 r 246 p = Int32.ofInt (-1) := by rw [mw_out (by decide), hg 246 p rfl rfl]; exact z2
    simp -implicitDefEqProofs (disch := first | omega | (simp (disch := omega) only [nb_upr]; omega)) only [R_1348, w_1348_0, w_1348_2, zi_88, zi_505, zi_66, zi_63, zi_454, zi_76, zi_31, zi_59, zi_362, zi_452, zi_33, zi_37, zi_67w1, zi_67w2, zi_0, zi_0n, zi_544, zi_164i, zi_164r, zi_164u, zi_164a, zi_165, zi_297, zi_34, zi_545, zi_508, zi_106, zi_101, zi_498, zi_133, zi_290, zi_193i, zi_193r, zi_193u, zi_193a, zi_237, zi_194, zi_230, zi_509, zi_17, zi_79, zi_70, zi_233, zi_81, zi_132, zi_477, zi_474, zi_207i, zi_207r, zi_207u, zi_207a, zi_236, R_1354, w_1354_0, w_1354_1, w_1354_2, w_1354_3, zi_0, zi_0n, zi_506, zi_88, zi_106, zi_546, zi_220, zi_86, zi_34, zi_447, zi_288, zi_31, zi_75, zi_67w1, zi_67w2, F.t233, F.r233_24, F.t246, F.l246, kC_eq, toL_s, toL_n, okS0, okS1, okS2, okS3, okS4, okS5, true_and, and_true, hT_wI, hL_wI, hR_wI, hI_wI, hJ_wI, sI_wI, rfP, isIA_100, isIA_120, inb_ok, nI_clamp, nI_add, nI_mul, ↓reduceIte, not_false_eq_true, not_true_eq_false, true_or, or_true, ↓bI_01, ↓b01_0, ↓b01_1, bI_0, z00, z10, n4, n5, n2, n8, Nat.reduceMul, Nat.reduceAdd, Nat.reduceLT, Nat.reduceLeDiff, e_isShelf, hb, e_isStreet, hz, e_in, hv, g6, neg, n11]
  obtain ⟨a1, a2, a3, a4, a5, a6, a7, a8, a9, a10, a11⟩ := id z2
  have p0 : (0 ≤ nI t) = True := eq_true (nI_pos' (by omega))
  have e4 : ww f 117 r c 0 = nI t := by rw [ww_out (by omega)]; exact a4
  have g6 : ∀ g, RS f g → mw g 234 r 246 p = nI t := fun g hg => by rw [mw_out (by decide), hg 246 p rfl rfl]; exact z3
  have g7 : ∀ g, RS f g → mw g 234 r 247 p = nI m := fun g hg => by rw [mw_out (by decide), hg 247 p rfl rfl]; exact z4
  by_cases t0 : t = 0
  · subst t0
    have l4 : ww f 117 r c 0 = 0 := e4
    by_cases hi : i < nI 0 ∨ nI m < i
    · refine ⟨.int (Int32.ofInt (-12)), r, V.mono (by omega), ⟨f, ScC.refl f, fun Q => by simp -implicitDefEqProofs (disch := first | omega | (simp (disch := omega) only [nb_upr]; omega)) only [R_492, w_492_0, w_492_2, w_492_3, w_492_4, w_492_5, zi_88, zi_217, zi_98, zi_63, zi_122, zi_76, zi_31, zi_59, zi_65, zi_108, zi_33, zi_37, zi_67w1, zi_67w2, zi_0, zi_0n, zi_218, zi_183, zi_284i, zi_284r, zi_284u, zi_284a, zi_284ni, zi_284nr, zi_284nu, zi_284na, zi_285, zi_285n, zi_219n, zi_219r, zi_220, zi_286, zi_287, zi_288, zi_34, zi_228, zi_173, zi_235, zi_101, zi_289, zi_206, zi_290, zi_193i, zi_193r, zi_193u, zi_193a, zi_214, zi_194, zi_229, zi_132, zi_70, zi_233, zi_81, zi_154, zi_244, zi_197i, zi_197r, zi_197u, zi_197a, zi_92, zi_128, zi_79, zi_198, zi_38, zi_207i, zi_207r, zi_207u, zi_207a, zi_213, F.t100, F.r100_6, F.t105, F.l105, kC_eq, toL_s, toL_n, okS0, okS1, okS2, okS3, okS4, okS5, true_and, and_true, hT_wI, hL_wI, hR_wI, hI_wI, hJ_wI, sI_wI, rfP, isIA_100, isIA_120, inb_ok, nI_clamp, nI_add, nI_mul, ↓reduceIte, not_false_eq_true, not_true_eq_false, true_or, or_true, ↓bI_01, ↓b01_0, ↓b01_1, bI_0, z00, z10, n4, n5, n2, n8, Nat.reduceMul, Nat.reduceAdd, Nat.reduceLT, Nat.reduceLeDiff, e_noSheet, hb, e_noStreet, hz, e_outside, hv, z1, a3, l4, a6, a9, a10, hi, Nat.reduceLeDiff]⟩, fun g hg _ => ⟨g, Sc.refl g, fun Q => ?_⟩⟩
      have q6 := g6 g hg
      have q7 := g7 g hg
      by_cases i0 : i < nI 0
      · have i0' : i < 0 := i0
        simp -implicitDefEqProofs (disch := first | omega | (simp (disch := omega) only [nb_upr]; omega)) only [R_1348, w_1348_0, w_1348_2, w_1348_3, w_1348_4, zi_88, zi_505, zi_66, zi_63, zi_454, zi_76, zi_31, zi_59, zi_362, zi_452, zi_33, zi_37, zi_67w1, zi_67w2, zi_0, zi_0n, zi_544, zi_164i, zi_164r, zi_164u, zi_164a, zi_165, zi_297, zi_34, zi_545, zi_508, zi_106, zi_101, zi_498, zi_133, zi_290, zi_193i, zi_193r, zi_193u, zi_193a, zi_237, zi_194, zi_230, zi_509, zi_17, zi_79, zi_70, zi_233, zi_81, zi_132, zi_477, zi_474, zi_207i, zi_207r, zi_207u, zi_207a, zi_236, R_1354, w_1354_0, w_1354_1, w_1354_2, w_1354_3, zi_0, zi_0n, zi_506, zi_88, zi_106, zi_546, zi_220, zi_86, zi_34, zi_447, zi_288, zi_31, zi_75, zi_67w1, zi_67w2, F.t233, F.r233_24, F.t246, F.l246, F.r233_25, F.t247, F.l247, kC_eq, toL_s, toL_n, okS0, okS1, okS2, okS3, okS4, okS5, true_and, and_true, hT_wI, hL_wI, hR_wI, hI_wI, hJ_wI, sI_wI, rfP, isIA_100, isIA_120, inb_ok, nI_clamp, nI_add, nI_mul, ↓reduceIte, not_false_eq_true, not_true_eq_false, true_or, or_true, ↓bI_01, ↓b01_0, ↓b01_1, bI_0, z00, z10, n4, n5, n2, n8, Nat.reduceMul, Nat.reduceAdd, Nat.reduceLT, Nat.reduceLeDiff, e_isShelf, hb, e_isStreet, hz, e_in, hv, q6, q7, i0', p0]
      · have i0' : ¬ i < 0 := i0
        have i1 : nI m < i := hi.elim (fun z => absurd z i0) id
        have i2 : ¬ i ≤ nI m - nI N := by
          intro z
          obtain ⟨j, hj, rfl⟩ := nI_of i0'
          by_cases hNm : N ≤ m
          · rw [nI_sub hNm, nI_leI hj (by omega)] at z
            rw [nI_ltI (by omega) hj] at i1
            omega
          · have e : nI m - nI N < 0 := by
              have hh : ∀ N, N ≤ 5 → ∀ m, m < N → nI m - nI N < 0 := by decide +kernel
              exact hh N hN5 m (by omega)
            exact i0' (Int32.lt_of_le_of_lt z e)
        simp -implicitDefEqProofs (disch := first | omega | (simp (disch := omega) only [nb_upr]; omega)) only [R_1348, w_1348_0, w_1348_2, w_1348_3, w_1348_4, zi_88, zi_505, zi_66, zi_63, zi_454, zi_76, zi_31, zi_59, zi_362, zi_452, zi_33, zi_37, zi_67w1, zi_67w2, zi_0, zi_0n, zi_544, zi_164i, zi_164r, zi_164u, zi_164a, zi_165, zi_297, zi_34, zi_545, zi_508, zi_106, zi_101, zi_498, zi_133, zi_290, zi_193i, zi_193r, zi_193u, zi_193a, zi_237, zi_194, zi_230, zi_509, zi_17, zi_79, zi_70, zi_233, zi_81, zi_132, zi_477, zi_474, zi_207i, zi_207r, zi_207u, zi_207a, zi_236, R_1354, w_1354_0, w_1354_1, w_1354_2, w_1354_3, zi_0, zi_0n, zi_506, zi_88, zi_106, zi_546, zi_220, zi_86, zi_34, zi_447, zi_288, zi_31, zi_75, zi_67w1, zi_67w2, F.t233, F.r233_24, F.t246, F.l246, F.r233_25, F.t247, F.l247, kC_eq, toL_s, toL_n, okS0, okS1, okS2, okS3, okS4, okS5, true_and, and_true, hT_wI, hL_wI, hR_wI, hI_wI, hJ_wI, sI_wI, rfP, isIA_100, isIA_120, inb_ok, nI_clamp, nI_add, nI_mul, ↓reduceIte, not_false_eq_true, not_true_eq_false, true_or, or_true, ↓bI_01, ↓b01_0, ↓b01_1, bI_0, z00, z10, n4, n5, n2, n8, Nat.reduceMul, Nat.reduceAdd, Nat.reduceLT, Nat.reduceLeDiff, e_isShelf, hb, e_isStreet, hz, e_in, hv, q6, q7, i0', i2, p0]
    obtain ⟨i, -, him, rfl⟩ := btw (by decide) (by omega) hi
    have i0' : ¬ nI i < 0 := nI_pos (by omega)
    have em : nI m - nI i = nI (m - i) := nI_sub him
    by_cases hf : i + N ≤ m
    · have c1 : nI N ≤ nI (m - i) := nI_le (by omega) (by omega)
      have c2 : nI i ≤ nI m - nI N := by rw [nI_sub (by omega)]; exact nI_le (by omega) (by omega)
      have eJ : mR r s (fun k => hJ h l (i + k)) N = mR r s (fun k => hJ h 248 (40 * p + i + k)) N := mR_eq (M := N) (fun k hk => by
        show hJ h l (i + k) = hJ h 248 (40 * p + i + k)
        rw [Nat.add_assoc, z5 (i + k) (by omega)]) N (Nat.le_refl N)
      refine ⟨.int (nI N), mR r s (fun k => hJ h l (i + k)) N, (Vr_mR V (by omega) N hN5).mono (by omega), ⟨f, ScC.refl f, fun Q => ?_⟩, fun g hg _ => ⟨g, Sc.refl g, fun Q => ?_⟩⟩
      · have hl := minds_loop (r := r) F f c l m s i N a3 a6 a9 a10 a11 (by omega) hN5 hf (nI p) 30 Q N 0 (.retAddr 0) (by omega)
        rw [← hl]
        simp -implicitDefEqProofs (disch := first | omega | (simp (disch := omega) only [nb_upr]; omega)) only [R_492, w_492_0, w_492_2, w_492_3, w_492_4, w_492_6, zi_88, zi_217, zi_98, zi_63, zi_122, zi_76, zi_31, zi_59, zi_65, zi_108, zi_33, zi_37, zi_67w1, zi_67w2, zi_0, zi_0n, zi_218, zi_183, zi_284i, zi_284r, zi_284u, zi_284a, zi_284ni, zi_284nr, zi_284nu, zi_284na, zi_285, zi_285n, zi_219n, zi_219r, zi_220, zi_286, zi_287, zi_288, zi_34, zi_228, zi_173, zi_235, zi_101, zi_289, zi_206, zi_290, zi_193i, zi_193r, zi_193u, zi_193a, zi_214, zi_194, zi_229, zi_132, zi_70, zi_233, zi_81, zi_154, zi_244, zi_197i, zi_197r, zi_197u, zi_197a, zi_92, zi_128, zi_79, zi_198, zi_38, zi_207i, zi_207r, zi_207u, zi_207a, zi_213, F.t100, F.r100_6, F.t105, F.l105, kC_eq, toL_s, toL_n, okS0, okS1, okS2, okS3, okS4, okS5, true_and, and_true, hT_wI, hL_wI, hR_wI, hI_wI, hJ_wI, sI_wI, rfP, isIA_100, isIA_120, inb_ok, nI_clamp, nI_add, nI_mul, ↓reduceIte, not_false_eq_true, not_true_eq_false, true_or, or_true, ↓bI_01, ↓b01_0, ↓b01_1, bI_0, z00, z10, n4, n5, n2, n8, Nat.reduceMul, Nat.reduceAdd, Nat.reduceLT, Nat.reduceLeDiff, e_noSheet, hb, e_noStreet, hz, e_outside, hv, z1, a3, l4, a6, a9, a10, hi, em, c1, Nat.reduceLeDiff]
        rfl
      · have hl := mminds_loop (r := r) F g s p i N (by omega) p4 hN5 (by omega) (nI 0) 30 (by decide) Q N 0 (by omega)
        have q6 := g6 g hg
        have q7 := g7 g hg
        rw [eJ, ← hl]
        simp -implicitDefEqProofs (disch := first | omega | (simp (disch := omega) only [nb_upr]; omega)) only [R_1348, w_1348_0, w_1348_2, w_1348_3, w_1348_5, zi_88, zi_505, zi_66, zi_63, zi_454, zi_76, zi_31, zi_59, zi_362, zi_452, zi_33, zi_37, zi_67w1, zi_67w2, zi_0, zi_0n, zi_544, zi_164i, zi_164r, zi_164u, zi_164a, zi_165, zi_297, zi_34, zi_545, zi_508, zi_106, zi_101, zi_498, zi_133, zi_290, zi_193i, zi_193r, zi_193u, zi_193a, zi_237, zi_194, zi_230, zi_509, zi_17, zi_79, zi_70, zi_233, zi_81, zi_132, zi_477, zi_474, zi_207i, zi_207r, zi_207u, zi_207a, zi_236, R_1354, w_1354_0, w_1354_1, w_1354_2, w_1354_3, zi_0, zi_0n, zi_506, zi_88, zi_106, zi_546, zi_220, zi_86, zi_34, zi_447, zi_288, zi_31, zi_75, zi_67w1, zi_67w2, F.t233, F.r233_24, F.t246, F.l246, F.r233_25, F.t247, F.l247, kC_eq, toL_s, toL_n, okS0, okS1, okS2, okS3, okS4, okS5, true_and, and_true, hT_wI, hL_wI, hR_wI, hI_wI, hJ_wI, sI_wI, rfP, isIA_100, isIA_120, inb_ok, nI_clamp, nI_add, nI_mul, ↓reduceIte, not_false_eq_true, not_true_eq_false, true_or, or_true, ↓bI_01, ↓b01_0, ↓b01_1, bI_0, z00, z10, n4, n5, n2, n8, Nat.reduceMul, Nat.reduceAdd, Nat.reduceLT, Nat.reduceLeDiff, e_isShelf, hb, e_isStreet, hz, e_in, hv, q6, q7, i0', c2, p0]
        rfl
    · have c1 : ¬ nI N ≤ nI (m - i) := nI_ge (by omega) (by omega)
      have c2 : ¬ nI i ≤ nI m - nI N := by
        intro z
        by_cases hNm : N ≤ m
        · rw [nI_sub hNm, nI_leI (by omega) (by omega)] at z
          omega
        · have e : nI m - nI N < 0 := by
            have hh : ∀ N, N ≤ 5 → ∀ m, m < N → nI m - nI N < 0 := by decide +kernel
            exact hh N hN5 m (by omega)
          exact i0' (Int32.lt_of_le_of_lt z e)
      refine ⟨.int (Int32.ofInt (-12)), r, V.mono (by omega), ⟨f, ScC.refl f, fun Q => by simp -implicitDefEqProofs (disch := first | omega | (simp (disch := omega) only [nb_upr]; omega)) only [R_492, w_492_0, w_492_2, w_492_3, w_492_4, w_492_5, zi_88, zi_217, zi_98, zi_63, zi_122, zi_76, zi_31, zi_59, zi_65, zi_108, zi_33, zi_37, zi_67w1, zi_67w2, zi_0, zi_0n, zi_218, zi_183, zi_284i, zi_284r, zi_284u, zi_284a, zi_284ni, zi_284nr, zi_284nu, zi_284na, zi_285, zi_285n, zi_219n, zi_219r, zi_220, zi_286, zi_287, zi_288, zi_34, zi_228, zi_173, zi_235, zi_101, zi_289, zi_206, zi_290, zi_193i, zi_193r, zi_193u, zi_193a, zi_214, zi_194, zi_229, zi_132, zi_70, zi_233, zi_81, zi_154, zi_244, zi_197i, zi_197r, zi_197u, zi_197a, zi_92, zi_128, zi_79, zi_198, zi_38, zi_207i, zi_207r, zi_207u, zi_207a, zi_213, F.t100, F.r100_6, F.t105, F.l105, kC_eq, toL_s, toL_n, okS0, okS1, okS2, okS3, okS4, okS5, true_and, and_true, hT_wI, hL_wI, hR_wI, hI_wI, hJ_wI, sI_wI, rfP, isIA_100, isIA_120, inb_ok, nI_clamp, nI_add, nI_mul, ↓reduceIte, not_false_eq_true, not_true_eq_false, true_or, or_true, ↓bI_01, ↓b01_0, ↓b01_1, bI_0, z00, z10, n4, n5, n2, n8, Nat.reduceMul, Nat.reduceAdd, Nat.reduceLT, Nat.reduceLeDiff, e_noSheet, hb, e_noStreet, hz, e_outside, hv, z1, a3, l4, a6, a9, a10, hi, em, c1, Nat.reduceLeDiff]⟩, fun g hg _ => ⟨g, Sc.refl g, fun Q => ?_⟩⟩
      have q6 := g6 g hg
      have q7 := g7 g hg
      simp -implicitDefEqProofs (disch := first | omega | (simp (disch := omega) only [nb_upr]; omega)) only [R_1348, w_1348_0, w_1348_2, w_1348_3, w_1348_4, zi_88, zi_505, zi_66, zi_63, zi_454, zi_76, zi_31, zi_59, zi_362, zi_452, zi_33, zi_37, zi_67w1, zi_67w2, zi_0, zi_0n, zi_544, zi_164i, zi_164r, zi_164u, zi_164a, zi_165, zi_297, zi_34, zi_545, zi_508, zi_106, zi_101, zi_498, zi_133, zi_290, zi_193i, zi_193r, zi_193u, zi_193a, zi_237, zi_194, zi_230, zi_509, zi_17, zi_79, zi_70, zi_233, zi_81, zi_132, zi_477, zi_474, zi_207i, zi_207r, zi_207u, zi_207a, zi_236, R_1354, w_1354_0, w_1354_1, w_1354_2, w_1354_3, zi_0, zi_0n, zi_506, zi_88, zi_106, zi_546, zi_220, zi_86, zi_34, zi_447, zi_288, zi_31, zi_75, zi_67w1, zi_67w2, F.t233, F.r233_24, F.t246, F.l246, F.r233_25, F.t247, F.l247, kC_eq, toL_s, toL_n, okS0, okS1, okS2, okS3, okS4, okS5, true_and, and_true, hT_wI, hL_wI, hR_wI, hI_wI, hJ_wI, sI_wI, rfP, isIA_100, isIA_120, inb_ok, nI_clamp, nI_add, nI_mul, ↓reduceIte, not_false_eq_true, not_true_eq_false, true_or, or_true, ↓bI_01, ↓b01_0, ↓b01_1, bI_0, z00, z10, n4, n5, n2, n8, Nat.reduceMul, Nat.reduceAdd, Nat.reduceLT, Nat.reduceLeDiff, e_isShelf, hb, e_isStreet, hz, e_in, hv, q6, q7, i0', c2, p0]
  · have tz : ¬ nI t = (0 : Int32) := nI_ne0 (by omega) (by omega)
    have l4 : ¬ ww f 117 r c 0 = 0 := by rw [e4]; exact tz
    have tz2 : ¬ nI t = nI 0 := tz
    refine ⟨.int (Int32.ofInt (-13)), r, V.mono (by omega), ⟨f, ScC.refl f, fun Q => by simp -implicitDefEqProofs (disch := first | omega | (simp (disch := omega) only [nb_upr]; omega)) only [R_492, w_492_0, w_492_2, w_492_3, zi_88, zi_217, zi_98, zi_63, zi_122, zi_76, zi_31, zi_59, zi_65, zi_108, zi_33, zi_37, zi_67w1, zi_67w2, zi_0, zi_0n, zi_218, zi_183, zi_284i, zi_284r, zi_284u, zi_284a, zi_284ni, zi_284nr, zi_284nu, zi_284na, zi_285, zi_285n, zi_219n, zi_219r, zi_220, zi_286, zi_287, zi_288, zi_34, zi_228, zi_173, zi_235, zi_101, zi_289, zi_206, zi_290, zi_193i, zi_193r, zi_193u, zi_193a, zi_214, zi_194, zi_229, zi_132, zi_70, zi_233, zi_81, zi_154, zi_244, zi_197i, zi_197r, zi_197u, zi_197a, zi_92, zi_128, zi_79, zi_198, zi_38, zi_207i, zi_207r, zi_207u, zi_207a, zi_213, F.t100, F.r100_6, F.t105, F.l105, kC_eq, toL_s, toL_n, okS0, okS1, okS2, okS3, okS4, okS5, true_and, and_true, hT_wI, hL_wI, hR_wI, hI_wI, hJ_wI, sI_wI, rfP, isIA_100, isIA_120, inb_ok, nI_clamp, nI_add, nI_mul, ↓reduceIte, not_false_eq_true, not_true_eq_false, true_or, or_true, ↓bI_01, ↓b01_0, ↓b01_1, bI_0, z00, z10, n4, n5, n2, n8, Nat.reduceMul, Nat.reduceAdd, Nat.reduceLT, Nat.reduceLeDiff, e_noSheet, hb, e_noStreet, hz, e_outside, hv, z1, a3, l4]⟩, fun g hg _ => ⟨g, Sc.refl g, fun Q => ?_⟩⟩
    have q6 := g6 g hg
    simp -implicitDefEqProofs (disch := first | omega | (simp (disch := omega) only [nb_upr]; omega)) only [R_1348, w_1348_0, w_1348_2, w_1348_3, zi_88, zi_505, zi_66, zi_63, zi_454, zi_76, zi_31, zi_59, zi_362, zi_452, zi_33, zi_37, zi_67w1, zi_67w2, zi_0, zi_0n, zi_544, zi_164i, zi_164r, zi_164u, zi_164a, zi_165, zi_297, zi_34, zi_545, zi_508, zi_106, zi_101, zi_498, zi_133, zi_290, zi_193i, zi_193r, zi_193u, zi_193a, zi_237, zi_194, zi_230, zi_509, zi_17, zi_79, zi_70, zi_233, zi_81, zi_132, zi_477, zi_474, zi_207i, zi_207r, zi_207u, zi_207a, zi_236, R_1354, w_1354_0, w_1354_1, w_1354_2, w_1354_3, zi_0, zi_0n, zi_506, zi_88, zi_106, zi_546, zi_220, zi_86, zi_34, zi_447, zi_288, zi_31, zi_75, zi_67w1, zi_67w2, F.t233, F.r233_24, F.t246, F.l246, kC_eq, toL_s, toL_n, okS0, okS1, okS2, okS3, okS4, okS5, true_and, and_true, hT_wI, hL_wI, hR_wI, hI_wI, hJ_wI, sI_wI, rfP, isIA_100, isIA_120, inb_ok, nI_clamp, nI_add, nI_mul, ↓reduceIte, not_false_eq_true, not_true_eq_false, true_or, or_true, ↓bI_01, ↓b01_0, ↓b01_1, bI_0, z00, z10, n4, n5, n2, n8, Nat.reduceMul, Nat.reduceAdd, Nat.reduceLT, Nat.reduceLeDiff, e_isShelf, hb, e_isStreet, hz, e_in, hv, q6, p0, tz2, n13]
end
