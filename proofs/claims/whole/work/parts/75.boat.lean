section
/-! a boat more, both sides -/
variable {n : Nat} {h : PH} {b : Nat} {r : Nat → Int32}
theorem rw0_up0 {f : Nat → Nat → Int32} {b k : Nat} {x : Int32} (hp : pvd 0 k = true) : rw0 (up2 f b k x) b = upr (rw0 f b) (plc 0 k) x := rw0_up (c := 0) hp
def adb (f : Nat → Nat → Int32) (b N : Nat) (k m s e : Int32) : Nat → Nat → Int32 :=
  up2 (up2 (up2 (up2 (up2 (up2 (up2 (up2 (up2 (up2 (up2 f (b + 8) N k) (b + 9) N m) (b + 10) N s) (b + 11) N e) (b + 12) N (nI 0)) (b + 13) (N * 5 + 0) (nI 0)) (b + 13) (N * 5 + 1) (nI 0)) (b + 13) (N * 5 + 2) (nI 0)) (b + 13) (N * 5 + 3) (nI 0)) (b + 13) (N * 5 + 4) (nI 0)) b 14 (nI (N + 1))
theorem adb_out {f : Nat → Nat → Int32} {b N a q : Nat} {k m s e : Int32} (ha : ¬ (b ≤ a ∧ a < b + 14)) : adb f b N k m s e a q = f a q := by
  unfold adb
  simp (disch := omega) only [up2_ne]
theorem rv_adb {f : Nat → Nat → Int32} (hz : Z r) (h6 : nb r < 6) (k m s e : Int32) : rv (adb (ww f b r) b (nb r) k m s e) b = bR r k m s e := by
  have hl0 : lim r = 76 + 10 * nb r := by unfold lim; omega
  obtain ⟨N, hN⟩ : ∃ N, nb r = N := ⟨_, rfl⟩
  have p8 : pvd 8 N = true := Nat.blt_eq.mpr (by omega)
  have p9 : pvd 9 N = true := Nat.blt_eq.mpr (by omega)
  have p10 : pvd 10 N = true := Nat.blt_eq.mpr (by omega)
  have p11 : pvd 11 N = true := Nat.blt_eq.mpr (by omega)
  have p12 : pvd 12 N = true := Nat.blt_eq.mpr (by omega)
  have p13 : ∀ j, j < 5 → pvd 13 (N * 5 + j) = true := fun j hj => Nat.blt_eq.mpr (by omega)
  have q13 : ∀ j, j < 5 → plc 13 (N * 5 + j) = 81 + 10 * N + j := fun j hj => by
    show 81 + 10 * ((N * 5 + j) / 5) + (N * 5 + j) % 5 = _
    omega
  have e0 : rw0 (adb (ww f b r) b N k m s e) b = upr (upr (upr (upr (upr (upr (upr (upr (upr (upr (upr (rw0 (ww f b r) b) (76 + 10 * N) k) (77 + 10 * N) m) (78 + 10 * N) s) (79 + 10 * N) e) (80 + 10 * N) (nI 0)) (81 + 10 * N + 0) (nI 0)) (81 + 10 * N + 1) (nI 0)) (81 + 10 * N + 2) (nI 0)) (81 + 10 * N + 3) (nI 0)) (81 + 10 * N + 4) (nI 0)) 5 (nI (N + 1)) := by
    unfold adb
    rw [rw0_up0 rfl, rw0_up (p13 4 (by decide)), rw0_up (p13 3 (by decide)), rw0_up (p13 2 (by decide)), rw0_up (p13 1 (by decide)), rw0_up (p13 0 (by decide)), rw0_up p12, rw0_up p11, rw0_up p10, rw0_up p9, rw0_up p8, q13 4 (by decide), q13 3 (by decide), q13 2 (by decide), q13 1 (by decide), q13 0 (by decide)]
    rfl
  rw [hN, rv_rw0, e0]
  funext q
  unfold bR
  rw [hN]
  rw [upr_same, nI_clamp (by omega)]
  by_cases hq : q < min 136 (76 + 10 * (N + 1))
  · rw [if_pos hq]
    unfold upr
    by_cases c5 : q = 5
    · rw [if_pos c5, if_pos c5]
    rw [if_neg c5, if_neg c5]
    by_cases c0 : q = 76 + 10 * N
    · rw [if_neg (by omega), if_neg (by omega), if_neg (by omega), if_neg (by omega), if_neg (by omega), if_neg (by omega), if_neg (by omega), if_neg (by omega), if_neg (by omega), if_pos c0, if_pos c0]
    by_cases c1 : q = 77 + 10 * N
    · rw [if_neg (by omega), if_neg (by omega), if_neg (by omega), if_neg (by omega), if_neg (by omega), if_neg (by omega), if_neg (by omega), if_neg (by omega), if_pos c1, if_neg c0, if_pos c1]
    by_cases c2 : q = 78 + 10 * N
    · rw [if_neg (by omega), if_neg (by omega), if_neg (by omega), if_neg (by omega), if_neg (by omega), if_neg (by omega), if_neg (by omega), if_pos c2, if_neg c0, if_neg c1, if_pos c2]
    by_cases c3 : q = 79 + 10 * N
    · rw [if_neg (by omega), if_neg (by omega), if_neg (by omega), if_neg (by omega), if_neg (by omega), if_neg (by omega), if_pos c3, if_neg c0, if_neg c1, if_neg c2, if_pos c3]
    by_cases c4 : 80 + 10 * N ≤ q ∧ q < 86 + 10 * N
    · rw [if_pos c4]
      by_cases d4 : q = 81 + 10 * N + 4
      · rw [if_pos d4, if_neg c0, if_neg c1, if_neg c2, if_neg c3]
      rw [if_neg d4]
      by_cases d3 : q = 81 + 10 * N + 3
      · rw [if_pos d3, if_neg c0, if_neg c1, if_neg c2, if_neg c3]
      rw [if_neg d3]
      by_cases d2 : q = 81 + 10 * N + 2
      · rw [if_pos d2, if_neg c0, if_neg c1, if_neg c2, if_neg c3]
      rw [if_neg d2]
      by_cases d1 : q = 81 + 10 * N + 1
      · rw [if_pos d1, if_neg c0, if_neg c1, if_neg c2, if_neg c3]
      rw [if_neg d1]
      by_cases d0 : q = 81 + 10 * N + 0
      · rw [if_pos d0, if_neg c0, if_neg c1, if_neg c2, if_neg c3]
      rw [if_neg d0, if_pos (by omega), if_neg c0, if_neg c1, if_neg c2, if_neg c3]
    · rw [if_neg c4, if_neg (by omega), if_neg (by omega), if_neg (by omega), if_neg (by omega), if_neg (by omega), if_neg (by omega), if_neg c3, if_neg c2, if_neg c1, if_neg c0, if_neg c0, if_neg c1, if_neg c2, if_neg c3]
      exact rw0_ww (by omega)
  · rw [if_neg hq, if_neg (by omega), if_neg (by omega), if_neg (by omega), if_neg (by omega), if_neg (by omega), if_neg (by omega)]
    exact (hz q (by omega)).symm
theorem e_addBoat {f : Nat → Nat → Int32} (w : WB h b) (h6 : nb r < 6) (h5 : r 5 = nI (nb r)) (k m s e : Int32) (d : Nat) (Q : Option Value → PH → Prop) : Run d 1588 [.ref b, .int k, .int m, .int s, .int e] (wI h (ww f b r)) Q = Q (some (.int (nI (nb r)))) (wI h (adb (ww f b r) b (nb r) k m s e)) := by
  unfold adb
  simp -implicitDefEqProofs (disch := first | omega | (simp (disch := omega) only [nb_upr]; omega)) only [R_1588, w_1588_0, w_1588_1, w_1588_2, zi_0, zi_0n, zi_104, zi_164i, zi_164r, zi_164u, zi_164a, zi_142, zi_165, zi_88, zi_38, zi_143, zi_34, zi_144, zi_63, zi_145, zi_76, zi_146, zi_31, zi_193i, zi_193r, zi_193u, zi_193a, zi_33, zi_194, zi_59, zi_35, zi_148, zi_79, zi_70, zi_207i, zi_207r, zi_207u, zi_207a, zi_40, zi_3i, zi_3r, zi_48, zi_612, zi_67w1, zi_67w2, w.t, w.r8, w.t8, w.l8, w.r9, w.t9, w.l9, w.r10, w.t10, w.l10, w.r11, w.t11, w.l11, w.r12, w.t12, w.l12, w.r13, w.t13, w.l13, kC_eq, toL_s, toL_n, okS0, okS1, okS2, okS3, okS4, okS5, true_and, and_true, hT_wI, hL_wI, hR_wI, hI_wI, hJ_wI, sI_wI, rfP, isIA_100, isIA_120, inb_ok, nI_clamp, nI_add, nI_mul, ↓reduceIte, not_false_eq_true, not_true_eq_false, true_or, or_true, ↓bI_01, ↓b01_0, ↓b01_1, bI_0, z00, z10, n4, n5, n2, n8, Nat.reduceMul, Nat.reduceAdd, Nat.reduceLT, Nat.reduceLeDiff, nI_eq, nI_leI, nI_ltI, Nat.reduceEqDiff, pk_div, nI_sub, Nat.reduceDiv, Nat.reduceSub, ww_0_14, h5, up2_ne]
def zB (f : Nat → Nat → Int32) (N j : Nat) : Nat → Nat → Int32 := fun a q => if a = 234 ∧ 76 + 10 * N ≤ q ∧ q < 76 + 10 * N + j then nI 0 else f a q
theorem zB_up {f : Nat → Nat → Int32} {N j : Nat} : up2 (zB f N j) 234 (76 + 10 * N + j) (nI 0) = zB f N (j + 1) := by
  funext a q
  unfold up2 zB
  by_cases z : a = 234 ∧ q = 76 + 10 * N + j
  · rw [if_pos z, if_pos ⟨z.1, by omega, by omega⟩]
  · rw [if_neg z]
    by_cases y : a = 234 ∧ 76 + 10 * N ≤ q ∧ q < 76 + 10 * N + j
    · rw [if_pos y, if_pos ⟨y.1, y.2.1, by omega⟩]
    · rw [if_neg y, if_neg (fun x => by by_cases u : q = 76 + 10 * N + j; exact z ⟨x.1, u⟩; exact y ⟨x.1, x.2.1, by omega⟩)]
theorem zB_0 {f : Nat → Nat → Int32} {N : Nat} : zB f N 0 = f := by
  funext a q
  unfold zB
  rw [if_neg (by omega)]
theorem e_setsR (F : FR h) {β k : Nat} {v : Int32} (h6 : β < 6) (hk : k < 10) {f : Nat → Nat → Int32} {d : Nat} {Q : Option Value → PH → Prop} : Run d 891 [.ref 233, .int (nI β), .int (nI k), .int v] (wI h f) Q = Q none (wI h (up2 f 234 (76 + 10 * β + k) v)) := by
  simp -implicitDefEqProofs (disch := first | omega | (simp (disch := omega) only [nb_upr]; omega)) only [R_891, w_891_0, zi_0, zi_0n, zi_357, zi_435, zi_140, zi_88, zi_79, zi_70, zi_34, zi_63, zi_38, zi_41, F.t233, F.r233_0, F.t234, F.l234, kC_eq, toL_s, toL_n, okS0, okS1, okS2, okS3, okS4, okS5, true_and, and_true, hT_wI, hL_wI, hR_wI, hI_wI, hJ_wI, sI_wI, rfP, isIA_100, isIA_120, inb_ok, nI_clamp, nI_add, nI_mul, ↓reduceIte, not_false_eq_true, not_true_eq_false, true_or, or_true, ↓bI_01, ↓b01_0, ↓b01_1, bI_0, z00, z10, n4, n5, n2, n8, Nat.reduceMul, Nat.reduceAdd, Nat.reduceLT, Nat.reduceLeDiff]
theorem mboat_loop (F : FR h) (f : Nat → Nat → Int32) (N : Nat) (hN : N < 6) (x1 x2 x3 x4 : Int32) (d : Nat) (hd : 1 ≤ d) (Q : Option Value → PH → Prop) :
    ∀ (i j : Nat), j + i = 10 → WP d 876 4 [.ref 233, .int x1, .int x2, .int x3, .int x4, .int (nI N), .int (nI j)] [] (wI h (zB f N j)) Q = WP d 876 5 [.ref 233, .int x1, .int x2, .int x3, .int x4, .int (nI N), .int (nI 10)] [] (wI h (zB f N 10)) Q
  | 0, j, hj => by
    obtain rfl : j = 10 := by omega
    rw [w_876_4]
    simp -implicitDefEqProofs (disch := first | omega | (simp (disch := omega) only [nb_upr]; omega)) only [zi_0, zi_88, zi_88, zi_34, zi_456, zi_66, zi_63, zi_454, zi_76, zi_31, zi_130, zi_362, zi_452, zi_33, zi_37, zi_67w1, zi_67w2, zi_0, zi_0n, zi_357, zi_59, zi_106, zi_42, zi_129, zi_73, zi_164i, zi_164r, zi_164u, zi_164a, zi_193i, zi_193r, zi_193u, zi_193a, zi_133, zi_194, zi_140, zi_166, zi_165, zi_457, zi_207i, zi_207r, zi_207u, zi_207a, zi_131, zi_48, zi_51, zi_54, zi_436i, zi_436l, zi_70, zi_38, kC_eq, toL_s, toL_n, okS0, okS1, okS2, okS3, okS4, okS5, true_and, and_true, hT_wI, hL_wI, hR_wI, hI_wI, hJ_wI, sI_wI, rfP, isIA_100, isIA_120, inb_ok, nI_clamp, nI_add, nI_mul, ↓reduceIte, not_false_eq_true, not_true_eq_false, true_or, or_true, ↓bI_01, ↓b01_0, ↓b01_1, bI_0, z00, z10, n4, n5, n2, n8, Nat.reduceMul, Nat.reduceAdd, Nat.reduceLT, Nat.reduceLeDiff, nI_eq, nI_leI, nI_ltI, Nat.reduceEqDiff, pk_div, nI_sub, Nat.reduceDiv, Nat.reduceSub, Nat.le_refl]
  | i + 1, j, hj => by
    have g : ¬ 10 ≤ j := by omega
    have ih := mboat_loop F f N hN x1 x2 x3 x4 d hd Q i (j + 1) (by omega)
    rw [← ih, w_876_4]
    simp -implicitDefEqProofs (disch := first | omega | (simp (disch := omega) only [nb_upr]; omega)) only [zi_88, zi_34, zi_456, zi_66, zi_63, zi_454, zi_76, zi_31, zi_130, zi_362, zi_452, zi_33, zi_37, zi_67w1, zi_67w2, zi_0, zi_0n, zi_357, zi_59, zi_106, zi_42, zi_129, zi_73, zi_164i, zi_164r, zi_164u, zi_164a, zi_193i, zi_193r, zi_193u, zi_193a, zi_133, zi_194, zi_140, zi_166, zi_165, zi_457, zi_207i, zi_207r, zi_207u, zi_207a, zi_131, zi_48, zi_51, zi_54, zi_436i, zi_436l, zi_70, zi_38, F.t233, kC_eq, toL_s, toL_n, okS0, okS1, okS2, okS3, okS4, okS5, true_and, and_true, hT_wI, hL_wI, hR_wI, hI_wI, hJ_wI, sI_wI, rfP, isIA_100, isIA_120, inb_ok, nI_clamp, nI_add, nI_mul, ↓reduceIte, not_false_eq_true, not_true_eq_false, true_or, or_true, ↓bI_01, ↓b01_0, ↓b01_1, bI_0, z00, z10, n4, n5, n2, n8, Nat.reduceMul, Nat.reduceAdd, Nat.reduceLT, Nat.reduceLeDiff, nI_eq, nI_leI, nI_ltI, Nat.reduceEqDiff, pk_div, nI_sub, Nat.reduceDiv, Nat.reduceSub, g, e_setsR F hN, zB_up]
def mbd (f : Nat → Nat → Int32) (N : Nat) (k m s e : Int32) : Nat → Nat → Int32 := up2 (up2 (up2 (up2 (up2 (zB f N 10) 234 (76 + 10 * N) k) 234 (77 + 10 * N) m) 234 (78 + 10 * N) s) 234 (79 + 10 * N) e) 234 5 (nI (N + 1))
theorem mbd_out {f : Nat → Nat → Int32} {N a q : Nat} {k m s e : Int32} (ha : ¬ a = 234) : mbd f N k m s e a q = f a q := by
  unfold mbd
  simp (disch := omega) only [up2_ne]
  unfold zB
  rw [if_neg (fun z => ha z.1)]
theorem rm_mbd {f : Nat → Nat → Int32} (hz : Z r) (h6 : nb r < 6) (k m s e : Int32) : rm (mbd (mw f 234 r) (nb r) k m s e) 234 = bR r k m s e := by
  have hl0 : lim r = 76 + 10 * nb r := by unfold lim; omega
  obtain ⟨N, hN⟩ : ∃ N, nb r = N := ⟨_, rfl⟩
  rw [hN]
  have e5 : mbd (mw f 234 r) N k m s e 234 5 = nI (N + 1) := by unfold mbd; rw [up2_same]
  funext q
  unfold rm bR
  rw [e5, hN, nI_clamp (by omega)]
  by_cases hq : q < min 136 (76 + 10 * (N + 1))
  · rw [if_pos hq]
    by_cases c5 : q = 5
    · rw [if_pos c5, c5, e5]
    rw [if_neg c5]
    unfold mbd
    rw [up2_nk _ _ c5]
    by_cases c3 : q = 79 + 10 * N
    · subst c3
      rw [up2_same, if_neg (by omega), if_neg (by omega), if_neg (by omega), if_pos rfl]
    rw [up2_nk _ _ c3]
    by_cases c2 : q = 78 + 10 * N
    · subst c2
      rw [up2_same, if_neg (by omega), if_neg (by omega), if_pos rfl]
    rw [up2_nk _ _ c2]
    by_cases c1 : q = 77 + 10 * N
    · subst c1
      rw [up2_same, if_neg (by omega), if_pos rfl]
    rw [up2_nk _ _ c1]
    by_cases c0 : q = 76 + 10 * N
    · subst c0
      rw [up2_same, if_pos rfl]
    rw [up2_nk _ _ c0, if_neg c0, if_neg c1, if_neg c2, if_neg c3]
    unfold zB
    by_cases c4 : 80 + 10 * N ≤ q ∧ q < 86 + 10 * N
    · rw [if_pos c4, if_pos ⟨rfl, by omega, by omega⟩]
    · rw [if_neg c4, if_neg (by omega)]
      exact mw_read (by omega)
  · rw [if_neg hq, if_neg (by omega), if_neg (by omega), if_neg (by omega), if_neg (by omega), if_neg (by omega), if_neg (by omega)]
    exact (hz q (by omega)).symm
theorem p_boat (F : FR h) (hn : hR h 100 0 = some b) (w : WB h b) (hb : b = 117) (V : Vr n r) (k m s e : Int32) : Pair h b n r 132 876 [.int k, .int m, .int s, .int e] := by
  have V' := V.mono (show n ≤ n + 6 by omega)
  have h5 := V.r5
  have h6 := V.nb6
  by_cases hk : k < nI 0 ∨ nI 5 < k
  · exact ⟨.int (Int32.ofInt (-1)), r, V', fun f T => ⟨f, ScC.refl f, fun Q => by simp -implicitDefEqProofs (disch := first | omega | (simp (disch := omega) only [nb_upr]; omega)) only [R_132, w_132_0, w_132_1, zi_88, zi_136, zi_98, zi_34, zi_31, zi_130, zi_65, zi_63, zi_122, zi_76, zi_108, zi_33, zi_37, zi_67w1, zi_67w2, zi_0, zi_0n, zi_92, zi_104, zi_42, zi_137, zi_73, zi_138, kC_eq, toL_s, toL_n, okS0, okS1, okS2, okS3, okS4, okS5, true_and, and_true, hT_wI, hL_wI, hR_wI, hI_wI, hJ_wI, sI_wI, rfP, isIA_100, isIA_120, inb_ok, nI_clamp, nI_add, nI_mul, ↓reduceIte, not_false_eq_true, not_true_eq_false, true_or, or_true, ↓bI_01, ↓b01_0, ↓b01_1, bI_0, z00, z10, n4, n5, n2, n8, Nat.reduceMul, Nat.reduceAdd, Nat.reduceLT, Nat.reduceLeDiff, e_noKind, hk]⟩, fun f T => ⟨f, Sc.refl f, fun Q => by simp -implicitDefEqProofs (disch := first | omega | (simp (disch := omega) only [nb_upr]; omega)) only [R_876, w_876_0, w_876_1, zi_88, zi_34, zi_456, zi_66, zi_63, zi_454, zi_76, zi_31, zi_130, zi_362, zi_452, zi_33, zi_37, zi_67w1, zi_67w2, zi_0, zi_0n, zi_357, zi_59, zi_106, zi_42, zi_129, zi_73, zi_164i, zi_164r, zi_164u, zi_164a, zi_193i, zi_193r, zi_193u, zi_193a, zi_133, zi_194, zi_140, zi_166, zi_165, zi_457, zi_207i, zi_207r, zi_207u, zi_207a, zi_131, zi_48, zi_51, zi_54, zi_436i, zi_436l, zi_70, zi_38, kC_eq, toL_s, toL_n, okS0, okS1, okS2, okS3, okS4, okS5, true_and, and_true, hT_wI, hL_wI, hR_wI, hI_wI, hJ_wI, sI_wI, rfP, isIA_100, isIA_120, inb_ok, nI_clamp, nI_add, nI_mul, ↓reduceIte, not_false_eq_true, not_true_eq_false, true_or, or_true, ↓bI_01, ↓b01_0, ↓b01_1, bI_0, z00, z10, n4, n5, n2, n8, Nat.reduceMul, Nat.reduceAdd, Nat.reduceLT, Nat.reduceLeDiff, e_isKind, hk, false_and, not_true_eq_false]⟩⟩
  by_cases hm : m < nI 0 ∨ nI 9 < m
  · exact ⟨.int (Int32.ofInt (-1)), r, V', fun f T => ⟨f, ScC.refl f, fun Q => by simp -implicitDefEqProofs (disch := first | omega | (simp (disch := omega) only [nb_upr]; omega)) only [R_132, w_132_0, w_132_1, zi_88, zi_136, zi_98, zi_34, zi_31, zi_130, zi_65, zi_63, zi_122, zi_76, zi_108, zi_33, zi_37, zi_67w1, zi_67w2, zi_0, zi_0n, zi_92, zi_104, zi_42, zi_137, zi_73, zi_138, kC_eq, toL_s, toL_n, okS0, okS1, okS2, okS3, okS4, okS5, true_and, and_true, hT_wI, hL_wI, hR_wI, hI_wI, hJ_wI, sI_wI, rfP, isIA_100, isIA_120, inb_ok, nI_clamp, nI_add, nI_mul, ↓reduceIte, not_false_eq_true, not_true_eq_false, true_or, or_true, ↓bI_01, ↓b01_0, ↓b01_1, bI_0, z00, z10, n4, n5, n2, n8, Nat.reduceMul, Nat.reduceAdd, Nat.reduceLT, Nat.reduceLeDiff, e_noKind, hk, e_outside, hm]⟩, fun f T => ⟨f, Sc.refl f, fun Q => by simp -implicitDefEqProofs (disch := first | omega | (simp (disch := omega) only [nb_upr]; omega)) only [R_876, w_876_0, w_876_1, zi_88, zi_34, zi_456, zi_66, zi_63, zi_454, zi_76, zi_31, zi_130, zi_362, zi_452, zi_33, zi_37, zi_67w1, zi_67w2, zi_0, zi_0n, zi_357, zi_59, zi_106, zi_42, zi_129, zi_73, zi_164i, zi_164r, zi_164u, zi_164a, zi_193i, zi_193r, zi_193u, zi_193a, zi_133, zi_194, zi_140, zi_166, zi_165, zi_457, zi_207i, zi_207r, zi_207u, zi_207a, zi_131, zi_48, zi_51, zi_54, zi_436i, zi_436l, zi_70, zi_38, kC_eq, toL_s, toL_n, okS0, okS1, okS2, okS3, okS4, okS5, true_and, and_true, hT_wI, hL_wI, hR_wI, hI_wI, hJ_wI, sI_wI, rfP, isIA_100, isIA_120, inb_ok, nI_clamp, nI_add, nI_mul, ↓reduceIte, not_false_eq_true, not_true_eq_false, true_or, or_true, ↓bI_01, ↓b01_0, ↓b01_1, bI_0, z00, z10, n4, n5, n2, n8, Nat.reduceMul, Nat.reduceAdd, Nat.reduceLT, Nat.reduceLeDiff, e_isKind, hk, hm, and_false, not_true_eq_false]⟩⟩
  by_cases hs : s < nI 0 ∨ nI 7 < s
  · exact ⟨.int (Int32.ofInt (-1)), r, V', fun f T => ⟨f, ScC.refl f, fun Q => by simp -implicitDefEqProofs (disch := first | omega | (simp (disch := omega) only [nb_upr]; omega)) only [R_132, w_132_0, w_132_1, zi_88, zi_136, zi_98, zi_34, zi_31, zi_130, zi_65, zi_63, zi_122, zi_76, zi_108, zi_33, zi_37, zi_67w1, zi_67w2, zi_0, zi_0n, zi_92, zi_104, zi_42, zi_137, zi_73, zi_138, kC_eq, toL_s, toL_n, okS0, okS1, okS2, okS3, okS4, okS5, true_and, and_true, hT_wI, hL_wI, hR_wI, hI_wI, hJ_wI, sI_wI, rfP, isIA_100, isIA_120, inb_ok, nI_clamp, nI_add, nI_mul, ↓reduceIte, not_false_eq_true, not_true_eq_false, true_or, or_true, ↓bI_01, ↓b01_0, ↓b01_1, bI_0, z00, z10, n4, n5, n2, n8, Nat.reduceMul, Nat.reduceAdd, Nat.reduceLT, Nat.reduceLeDiff, e_noKind, hk, e_outside, hm, e_noStreet, hs]⟩, fun f T => ⟨f, Sc.refl f, fun Q => by simp -implicitDefEqProofs (disch := first | omega | (simp (disch := omega) only [nb_upr]; omega)) only [R_876, w_876_0, w_876_1, zi_88, zi_34, zi_456, zi_66, zi_63, zi_454, zi_76, zi_31, zi_130, zi_362, zi_452, zi_33, zi_37, zi_67w1, zi_67w2, zi_0, zi_0n, zi_357, zi_59, zi_106, zi_42, zi_129, zi_73, zi_164i, zi_164r, zi_164u, zi_164a, zi_193i, zi_193r, zi_193u, zi_193a, zi_133, zi_194, zi_140, zi_166, zi_165, zi_457, zi_207i, zi_207r, zi_207u, zi_207a, zi_131, zi_48, zi_51, zi_54, zi_436i, zi_436l, zi_70, zi_38, kC_eq, toL_s, toL_n, okS0, okS1, okS2, okS3, okS4, okS5, true_and, and_true, hT_wI, hL_wI, hR_wI, hI_wI, hJ_wI, sI_wI, rfP, isIA_100, isIA_120, inb_ok, nI_clamp, nI_add, nI_mul, ↓reduceIte, not_false_eq_true, not_true_eq_false, true_or, or_true, ↓bI_01, ↓b01_0, ↓b01_1, bI_0, z00, z10, n4, n5, n2, n8, Nat.reduceMul, Nat.reduceAdd, Nat.reduceLT, Nat.reduceLeDiff, e_isKind, hk, hm, and_self, not_true_eq_false, e_isStreet, hs]⟩⟩
  by_cases he : e < nI 0 ∨ nI 9 < e
  · exact ⟨.int (Int32.ofInt (-1)), r, V', fun f T => ⟨f, ScC.refl f, fun Q => by simp -implicitDefEqProofs (disch := first | omega | (simp (disch := omega) only [nb_upr]; omega)) only [R_132, w_132_0, w_132_1, zi_88, zi_136, zi_98, zi_34, zi_31, zi_130, zi_65, zi_63, zi_122, zi_76, zi_108, zi_33, zi_37, zi_67w1, zi_67w2, zi_0, zi_0n, zi_92, zi_104, zi_42, zi_137, zi_73, zi_138, kC_eq, toL_s, toL_n, okS0, okS1, okS2, okS3, okS4, okS5, true_and, and_true, hT_wI, hL_wI, hR_wI, hI_wI, hJ_wI, sI_wI, rfP, isIA_100, isIA_120, inb_ok, nI_clamp, nI_add, nI_mul, ↓reduceIte, not_false_eq_true, not_true_eq_false, true_or, or_true, ↓bI_01, ↓b01_0, ↓b01_1, bI_0, z00, z10, n4, n5, n2, n8, Nat.reduceMul, Nat.reduceAdd, Nat.reduceLT, Nat.reduceLeDiff, e_noKind, hk, e_outside, hm, e_noStreet, hs, he]⟩, fun f T => ⟨f, Sc.refl f, fun Q => by simp -implicitDefEqProofs (disch := first | omega | (simp (disch := omega) only [nb_upr]; omega)) only [R_876, w_876_0, w_876_1, zi_88, zi_34, zi_456, zi_66, zi_63, zi_454, zi_76, zi_31, zi_130, zi_362, zi_452, zi_33, zi_37, zi_67w1, zi_67w2, zi_0, zi_0n, zi_357, zi_59, zi_106, zi_42, zi_129, zi_73, zi_164i, zi_164r, zi_164u, zi_164a, zi_193i, zi_193r, zi_193u, zi_193a, zi_133, zi_194, zi_140, zi_166, zi_165, zi_457, zi_207i, zi_207r, zi_207u, zi_207a, zi_131, zi_48, zi_51, zi_54, zi_436i, zi_436l, zi_70, zi_38, kC_eq, toL_s, toL_n, okS0, okS1, okS2, okS3, okS4, okS5, true_and, and_true, hT_wI, hL_wI, hR_wI, hI_wI, hJ_wI, sI_wI, rfP, isIA_100, isIA_120, inb_ok, nI_clamp, nI_add, nI_mul, ↓reduceIte, not_false_eq_true, not_true_eq_false, true_or, or_true, ↓bI_01, ↓b01_0, ↓b01_1, bI_0, z00, z10, n4, n5, n2, n8, Nat.reduceMul, Nat.reduceAdd, Nat.reduceLT, Nat.reduceLeDiff, e_isKind, hk, hm, and_self, not_true_eq_false, e_isStreet, hs, e_in, he]⟩⟩
  by_cases hf : nb r < 6
  · obtain ⟨k, -, hk5, rfl⟩ := btw (by decide) (by decide) hk
    obtain ⟨m, -, hm9, rfl⟩ := btw (by decide) (by decide) hm
    obtain ⟨s, -, hs7, rfl⟩ := btw (by decide) (by decide) hs
    obtain ⟨e, -, he9, rfl⟩ := btw (by decide) (by decide) he
    have g6 : ¬ nb r = 6 := by omega
    have ak : (k < 0 ∨ 5 < k) = False := eq_false (by omega)
    have am : (m < 0 ∨ 9 < m) = False := eq_false (by omega)
    have as : (s < 0 ∨ 7 < s) = False := eq_false (by omega)
    have ae : (e < 0 ∨ 9 < e) = False := eq_false (by omega)
    refine ⟨.int (nI (nb r)), bR r (nI k) (nI m) (nI s) (nI e), (Vr_bR V hf hk5 hm9 hs7 he9).mono (by omega), fun f T => ⟨adb (ww f b r) b (nb r) (nI k) (nI m) (nI s) (nI e), fun a q ha => ?_, fun Q => ?_⟩, fun f T => ⟨mbd (mw f 234 r) (nb r) (nI k) (nI m) (nI s) (nI e), fun a q ha => ?_, fun Q => ?_⟩⟩
    · have : ¬ (b ≤ a ∧ a < b + 14) := fun z => by
        subst hb
        unfold scrC at ha
        simp [show Nat.ble 117 a = true from Nat.ble_eq.mpr z.1, show Nat.blt a 131 = true from Nat.blt_eq.mpr z.2] at ha
      rw [adb_out this, ww_out this]
    · have eX : ww (adb (ww f b r) b (nb r) (nI k) (nI m) (nI s) (nI e)) b (bR r (nI k) (nI m) (nI s) (nI e)) = adb (ww f b r) b (nb r) (nI k) (nI m) (nI s) (nI e) := by
        rw [← rv_adb (f := f) (b := b) V.z hf (nI k) (nI m) (nI s) (nI e), ww_rv]
      rw [eX]
      simp -implicitDefEqProofs (disch := first | omega | (simp (disch := omega) only [nb_upr]; omega)) only [R_132, w_132_0, w_132_2, w_132_3, zi_88, zi_136, zi_98, zi_34, zi_31, zi_130, zi_65, zi_63, zi_122, zi_76, zi_108, zi_33, zi_37, zi_67w1, zi_67w2, zi_0, zi_0n, zi_92, zi_104, zi_42, zi_137, zi_73, zi_138, F.t100, hn, w.t, kC_eq, toL_s, toL_n, okS0, okS1, okS2, okS3, okS4, okS5, true_and, and_true, hT_wI, hL_wI, hR_wI, hI_wI, hJ_wI, sI_wI, rfP, isIA_100, isIA_120, inb_ok, nI_clamp, nI_add, nI_mul, ↓reduceIte, not_false_eq_true, not_true_eq_false, true_or, or_true, ↓bI_01, ↓b01_0, ↓b01_1, bI_0, z00, z10, n4, n5, n2, n8, Nat.reduceMul, Nat.reduceAdd, Nat.reduceLT, Nat.reduceLeDiff, nI_eq, nI_leI, nI_ltI, Nat.reduceEqDiff, pk_div, nI_sub, Nat.reduceDiv, Nat.reduceSub, e_noKind, ak, e_outside, am, e_noStreet, as, ae, ww_0_14, h5, hf, e_addBoat w hf h5]
    · rw [mbd_out (by rintro rfl; cases ha), mw_out (by rintro rfl; cases ha)]
    · have eX : mw (mbd (mw f 234 r) (nb r) (nI k) (nI m) (nI s) (nI e)) 234 (bR r (nI k) (nI m) (nI s) (nI e)) = mbd (mw f 234 r) (nb r) (nI k) (nI m) (nI s) (nI e) := by
        rw [← rm_mbd (f := f) V.z hf (nI k) (nI m) (nI s) (nI e), mw_rm]
      have hl := mboat_loop F (mw f 234 r) (nb r) hf (nI k) (nI m) (nI s) (nI e) 30 (by decide) Q 10 0 rfl
      rw [zB_0] at hl
      have e5 : zB (mw f 234 r) (nb r) 10 234 5 = nI (nb r) := by
        unfold zB
        rw [if_neg (by omega), mw_r (by decide), h5]
      have a1 : 76 + 10 * nb r + 0 = 76 + 10 * nb r := rfl
      have a2 : 76 + 10 * nb r + 1 = 77 + 10 * nb r := by omega
      have a3 : 76 + 10 * nb r + 2 = 78 + 10 * nb r := by omega
      have a4 : 76 + 10 * nb r + 3 = 79 + 10 * nb r := by omega
      rw [eX]
      simp -implicitDefEqProofs (disch := first | omega | (simp (disch := omega) only [nb_upr]; omega)) only [R_876, w_876_0, w_876_2, w_876_3, zi_88, zi_34, zi_456, zi_66, zi_63, zi_454, zi_76, zi_31, zi_130, zi_362, zi_452, zi_33, zi_37, zi_67w1, zi_67w2, zi_0, zi_0n, zi_357, zi_59, zi_106, zi_42, zi_129, zi_73, zi_164i, zi_164r, zi_164u, zi_164a, zi_193i, zi_193r, zi_193u, zi_193a, zi_133, zi_194, zi_140, zi_166, zi_165, zi_457, zi_207i, zi_207r, zi_207u, zi_207a, zi_131, zi_48, zi_51, zi_54, zi_436i, zi_436l, zi_70, zi_38, F.t233, F.r233_0, F.t234, F.l234, kC_eq, toL_s, toL_n, okS0, okS1, okS2, okS3, okS4, okS5, true_and, and_true, hT_wI, hL_wI, hR_wI, hI_wI, hJ_wI, sI_wI, rfP, isIA_100, isIA_120, inb_ok, nI_clamp, nI_add, nI_mul, ↓reduceIte, not_false_eq_true, not_true_eq_false, true_or, or_true, ↓bI_01, ↓b01_0, ↓b01_1, bI_0, z00, z10, n4, n5, n2, n8, Nat.reduceMul, Nat.reduceAdd, Nat.reduceLT, Nat.reduceLeDiff, nI_eq, nI_leI, nI_ltI, Nat.reduceEqDiff, pk_div, nI_sub, Nat.reduceDiv, Nat.reduceSub, e_isKind, ak, am, and_self, not_true_eq_false, e_isStreet, as, e_in, ae, mw_r, h5, g6]
      rw [hl, w_876_5]
      unfold mbd
      simp -implicitDefEqProofs (disch := first | omega | (simp (disch := omega) only [nb_upr]; omega)) only [zi_88, zi_34, zi_456, zi_66, zi_63, zi_454, zi_76, zi_31, zi_130, zi_362, zi_452, zi_33, zi_37, zi_67w1, zi_67w2, zi_0, zi_0n, zi_357, zi_59, zi_106, zi_42, zi_129, zi_73, zi_164i, zi_164r, zi_164u, zi_164a, zi_193i, zi_193r, zi_193u, zi_193a, zi_133, zi_194, zi_140, zi_166, zi_165, zi_457, zi_207i, zi_207r, zi_207u, zi_207a, zi_131, zi_48, zi_51, zi_54, zi_436i, zi_436l, zi_70, zi_38, F.t233, F.r233_0, F.t234, F.l234, kC_eq, toL_s, toL_n, okS0, okS1, okS2, okS3, okS4, okS5, true_and, and_true, hT_wI, hL_wI, hR_wI, hI_wI, hJ_wI, sI_wI, rfP, isIA_100, isIA_120, inb_ok, nI_clamp, nI_add, nI_mul, ↓reduceIte, not_false_eq_true, not_true_eq_false, true_or, or_true, ↓bI_01, ↓b01_0, ↓b01_1, bI_0, z00, z10, n4, n5, n2, n8, Nat.reduceMul, Nat.reduceAdd, Nat.reduceLT, Nat.reduceLeDiff, nI_eq, nI_leI, nI_ltI, Nat.reduceEqDiff, pk_div, nI_sub, Nat.reduceDiv, Nat.reduceSub, e_setsR F hf, a1, a2, a3, a4, up2_nk, e5]
  · have g6 : nb r = 6 := by omega
    have r6 : r 5 = nI 6 := by rw [h5, g6]
    have c6 : ¬ nI 6 < nI 6 := by decide
    exact ⟨.int (Int32.ofInt (-2)), r, V', fun f T => ⟨f, ScC.refl f, fun Q => by simp -implicitDefEqProofs (disch := first | omega | (simp (disch := omega) only [nb_upr]; omega)) only [R_132, w_132_0, w_132_2, zi_88, zi_136, zi_98, zi_34, zi_31, zi_130, zi_65, zi_63, zi_122, zi_76, zi_108, zi_33, zi_37, zi_67w1, zi_67w2, zi_0, zi_0n, zi_92, zi_104, zi_42, zi_137, zi_73, zi_138, F.t100, hn, w.t, kC_eq, toL_s, toL_n, okS0, okS1, okS2, okS3, okS4, okS5, true_and, and_true, hT_wI, hL_wI, hR_wI, hI_wI, hJ_wI, sI_wI, rfP, isIA_100, isIA_120, inb_ok, nI_clamp, nI_add, nI_mul, ↓reduceIte, not_false_eq_true, not_true_eq_false, true_or, or_true, ↓bI_01, ↓b01_0, ↓b01_1, bI_0, z00, z10, n4, n5, n2, n8, Nat.reduceMul, Nat.reduceAdd, Nat.reduceLT, Nat.reduceLeDiff, e_noKind, hk, e_outside, hm, e_noStreet, hs, he, ww_0_14, r6, c6]⟩, fun f T => ⟨f, Sc.refl f, fun Q => by simp -implicitDefEqProofs (disch := first | omega | (simp (disch := omega) only [nb_upr]; omega)) only [R_876, w_876_0, w_876_2, zi_88, zi_34, zi_456, zi_66, zi_63, zi_454, zi_76, zi_31, zi_130, zi_362, zi_452, zi_33, zi_37, zi_67w1, zi_67w2, zi_0, zi_0n, zi_357, zi_59, zi_106, zi_42, zi_129, zi_73, zi_164i, zi_164r, zi_164u, zi_164a, zi_193i, zi_193r, zi_193u, zi_193a, zi_133, zi_194, zi_140, zi_166, zi_165, zi_457, zi_207i, zi_207r, zi_207u, zi_207a, zi_131, zi_48, zi_51, zi_54, zi_436i, zi_436l, zi_70, zi_38, F.t233, F.r233_0, F.t234, F.l234, kC_eq, toL_s, toL_n, okS0, okS1, okS2, okS3, okS4, okS5, true_and, and_true, hT_wI, hL_wI, hR_wI, hI_wI, hJ_wI, sI_wI, rfP, isIA_100, isIA_120, inb_ok, nI_clamp, nI_add, nI_mul, ↓reduceIte, not_false_eq_true, not_true_eq_false, true_or, or_true, ↓bI_01, ↓b01_0, ↓b01_1, bI_0, z00, z10, n4, n5, n2, n8, Nat.reduceMul, Nat.reduceAdd, Nat.reduceLT, Nat.reduceLeDiff, e_isKind, hk, hm, and_self, not_true_eq_false, e_isStreet, hs, e_in, he, mw_r, r6]⟩⟩
end
