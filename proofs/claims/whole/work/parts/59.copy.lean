section
/-! copies of worlds and of rows -/
variable {n : Nat} {h : PH}
def cpf (f : Nat → Nat → Int32) (s d n : Nat) : Nat → Nat → Int32 := fun a j => if a = d ∧ j < n then f s j else f a j
theorem cpI_wI (h : PH) (f : Nat → Nat → Int32) (s d n : Nat) : cpI (wI h f) s 0 d 0 n = wI h (cpf f s d n) := by
  have e : (fun b j => if b = d ∧ 0 ≤ j ∧ j < 0 + n then f s (0 + (j - 0)) else f b j) = cpf f s d n := by
    funext b j
    unfold cpf
    by_cases z : b = d ∧ j < n
    · rw [if_pos z, if_pos ⟨z.1, Nat.zero_le _, by omega⟩]
      congr 1
      omega
    · rw [if_neg z, if_neg (fun q => z ⟨q.1, by omega⟩)]
  show (h.1, h.2.1, (fun b j => if b = d ∧ 0 ≤ j ∧ j < 0 + n then f s (0 + (j - 0)) else f b j), h.2.2.2.1, h.2.2.2.2) = _
  rw [e]
  rfl
theorem cpf_ne {f : Nat → Nat → Int32} {s d n a k : Nat} (h : ¬ a = d) : cpf f s d n a k = f a k := if_neg (fun z => h z.1)
theorem cpf_eq {f : Nat → Nat → Int32} {s d n k : Nat} : cpf f s d n d k = if k < n then f s k else f d k := by
  unfold cpf
  by_cases z : k < n
  · rw [if_pos ⟨rfl, z⟩, if_pos z]
  · rw [if_neg (fun q => z q.2), if_neg z]
theorem nIp {a : Nat} (h : a < 2147483648) : (0 ≤ nI a) = True := eq_true (nI_pos' h)
/-- the world at dst becomes that at src -/
def cpW (F : Nat → Nat → Int32) (dst src : Nat) : Nat → Nat → Int32 := fun a k => if dst ≤ a ∧ pvd (a - dst) k = true then F (a - dst + src) k else F a k
theorem cpW_out {F : Nat → Nat → Int32} {dst src a k : Nat} (h : ¬ (dst ≤ a ∧ a < dst + 14)) : cpW F dst src a k = F a k := by
  unfold cpW
  rw [if_neg]
  rintro ⟨h1, h2⟩
  have := (pvd_lt h2).1
  omega
theorem cpW_c {F : Nat → Nat → Int32} {dst src c k : Nat} : cpW F dst src (dst + c) k = if pvd c k = true then F (src + c) k else F (dst + c) k := by
  unfold cpW
  rw [show dst + c - dst = c by omega, show c + src = src + c by omega]
  by_cases z : pvd c k = true
  · rw [if_pos z, if_pos ⟨by omega, z⟩]
  · rw [if_neg z, if_neg (fun q => z q.2)]
theorem rv_cpW {F : Nat → Nat → Int32} {dst src : Nat} : rv (cpW F dst src) dst = rv F src := by
  have e : ∀ q, q < 136 → cpW F dst src (dst + cel q) (slt q) = F (src + cel q) (slt q) := fun q hq => by
    rw [cpW_c, if_pos (plc_right q hq).2.1]
  have e5 := e 5 (by decide)
  have e5' : cpW F dst src dst 14 = F src 14 := e5
  funext q
  unfold rv
  rw [e5']
  by_cases z : q < min 136 (76 + 10 * (F src 14).toNatClampNeg)
  · rw [if_pos z, if_pos z, e q (by omega)]
  · rw [if_neg z, if_neg z]
set_option maxRecDepth 10000 in
theorem cp_all {F : Nat → Nat → Int32} {d s : Nat} (hd : d + 14 ≤ s ∨ s + 14 ≤ d) :
    up2 (up2 (up2 (up2 (cpf (cpf (cpf (cpf (cpf (cpf (cpf (cpf (cpf (cpf (cpf (cpf (cpf F (s + 1) (d + 1) 3) (s + 2) (d + 2) 5) (s + 3) (d + 3) 40) (s + 4) (d + 4) 8) (s + 5) (d + 5) 8) (s + 6) (d + 6) 4) (s + 7) (d + 7) 4) (s + 8) (d + 8) 6) (s + 9) (d + 9) 6) (s + 10) (d + 10) 6) (s + 11) (d + 11) 6) (s + 12) (d + 12) 6) (s + 13) (d + 13) 30) d 14 (F s 14)) d 15 (F s 15)) d 16 (F s 16)) d 17 (F s 17) = cpW F d s := by
  funext a k
  by_cases ha : d ≤ a ∧ a < d + 14
  · obtain ⟨c, rfl⟩ : ∃ c, a = d + c := ⟨a - d, by omega⟩
    have hc : c < 14 := by omega
    rw [cpW_c]
    have out : ∀ g : Nat → Nat → Int32, ∀ x y z t, 1 ≤ c → up2 (up2 (up2 (up2 g d 14 x) d 15 y) d 16 z) d 17 t (d + c) k = g (d + c) k := fun g x y z t h1 => by
      rw [up2_ne _ _ (by omega), up2_ne _ _ (by omega), up2_ne _ _ (by omega), up2_ne _ _ (by omega)]
    match c, hc with
    | 0, _ =>
      show up2 _ d 17 _ d k = if (Nat.ble 14 k && Nat.blt k 18) = true then F s k else F d k
      by_cases e17 : k = 17
      · subst e17; rw [up2_same]; rfl
      rw [up2_nk _ _ e17]
      by_cases e16 : k = 16
      · subst e16; rw [up2_same]; rfl
      rw [up2_nk _ _ e16]
      by_cases e15 : k = 15
      · subst e15; rw [up2_same]; rfl
      rw [up2_nk _ _ e15]
      by_cases e14 : k = 14
      · subst e14; rw [up2_same]; rfl
      rw [up2_nk _ _ e14, if_neg (by rw [Bool.and_eq_true, Nat.ble_eq, Nat.blt_eq]; omega)]
      simp (disch := omega) only [cpf_ne]
    | 1, _ =>
      rw [out _ _ _ _ _ (by decide)]
      simp (disch := omega) only [cpf_ne, cpf_eq]
      simp only [pvd, Nat.blt_eq]
    | 2, _ =>
      rw [out _ _ _ _ _ (by decide)]
      simp (disch := omega) only [cpf_ne, cpf_eq]
      simp only [pvd, Nat.blt_eq]
    | 3, _ =>
      rw [out _ _ _ _ _ (by decide)]
      simp (disch := omega) only [cpf_ne, cpf_eq]
      simp only [pvd, Nat.blt_eq]
    | 4, _ =>
      rw [out _ _ _ _ _ (by decide)]
      simp (disch := omega) only [cpf_ne, cpf_eq]
      simp only [pvd, Nat.blt_eq]
    | 5, _ =>
      rw [out _ _ _ _ _ (by decide)]
      simp (disch := omega) only [cpf_ne, cpf_eq]
      simp only [pvd, Nat.blt_eq]
    | 6, _ =>
      rw [out _ _ _ _ _ (by decide)]
      simp (disch := omega) only [cpf_ne, cpf_eq]
      simp only [pvd, Nat.blt_eq]
    | 7, _ =>
      rw [out _ _ _ _ _ (by decide)]
      simp (disch := omega) only [cpf_ne, cpf_eq]
      simp only [pvd, Nat.blt_eq]
    | 8, _ =>
      rw [out _ _ _ _ _ (by decide)]
      simp (disch := omega) only [cpf_ne, cpf_eq]
      simp only [pvd, Nat.blt_eq]
    | 9, _ =>
      rw [out _ _ _ _ _ (by decide)]
      simp (disch := omega) only [cpf_ne, cpf_eq]
      simp only [pvd, Nat.blt_eq]
    | 10, _ =>
      rw [out _ _ _ _ _ (by decide)]
      simp (disch := omega) only [cpf_ne, cpf_eq]
      simp only [pvd, Nat.blt_eq]
    | 11, _ =>
      rw [out _ _ _ _ _ (by decide)]
      simp (disch := omega) only [cpf_ne, cpf_eq]
      simp only [pvd, Nat.blt_eq]
    | 12, _ =>
      rw [out _ _ _ _ _ (by decide)]
      simp (disch := omega) only [cpf_ne, cpf_eq]
      simp only [pvd, Nat.blt_eq]
    | 13, _ =>
      rw [out _ _ _ _ _ (by decide)]
      simp (disch := omega) only [cpf_ne, cpf_eq]
      simp only [pvd, Nat.blt_eq]
    | c + 14, h => exact absurd h (by omega)
  · rw [cpW_out ha, up2_ne _ _ (by omega), up2_ne _ _ (by omega), up2_ne _ _ (by omega), up2_ne _ _ (by omega)]
    simp (disch := omega) only [cpf_ne]
theorem e_copyFrom (d b s : Nat) (w : WB h b) (v : WB h s) (hd : b + 14 ≤ s ∨ s + 14 ≤ b) (F : Nat → Nat → Int32) (Q : Option Value → PH → Prop) : Run d 1593 [.ref b, .ref s] (wI h F) Q = Q none (wI h (cpW F b s)) := by
  rw [← cp_all hd]
  simp -implicitDefEqProofs (disch := first | omega | (simp (disch := omega) only [nb_upr]; omega)) only [R_1593, w_1593_0, zi_23, zi_23n, zi_109, zi_31, zi_0, zi_0n, zi_173, zi_610, zi_115, zi_59, zi_128, zi_125, zi_64, zi_126, zi_118, zi_9, zi_120, zi_142, zi_42, zi_143, zi_144, zi_145, zi_146, zi_148, zi_104, zi_612, zi_161, zi_613, zi_155, zi_156, zi_93, zi_94, zi_41, w.t, w.r1, w.t1, w.l1, w.r2, w.t2, w.l2, w.r3, w.t3, w.l3, w.r4, w.t4, w.l4, w.r5, w.t5, w.l5, w.r6, w.t6, w.l6, w.r7, w.t7, w.l7, w.r8, w.t8, w.l8, w.r9, w.t9, w.l9, w.r10, w.t10, w.l10, w.r11, w.t11, w.l11, w.r12, w.t12, w.l12, w.r13, w.t13, w.l13, v.t, v.r1, v.t1, v.l1, v.r2, v.t2, v.l2, v.r3, v.t3, v.l3, v.r4, v.t4, v.l4, v.r5, v.t5, v.l5, v.r6, v.t6, v.l6, v.r7, v.t7, v.l7, v.r8, v.t8, v.l8, v.r9, v.t9, v.l9, v.r10, v.t10, v.l10, v.r11, v.t11, v.l11, v.r12, v.t12, v.l12, v.r13, v.t13, v.l13, kC_eq, toL_s, toL_n, okS0, okS1, okS2, okS3, okS4, okS5, true_and, and_true, hT_wI, hL_wI, hR_wI, hI_wI, hJ_wI, sI_wI, rfP, isIA_100, isIA_120, inb_ok, nI_clamp, nI_add, nI_mul, ↓reduceIte, not_false_eq_true, not_true_eq_false, true_or, or_true, ↓bI_01, ↓b01_0, ↓b01_1, bI_0, z00, z10, n4, n5, n2, n8, Nat.reduceMul, Nat.reduceAdd, Nat.reduceLT, Nat.reduceLeDiff, nIp, cpI_wI, cpf_ne, up2_ne, Nat.zero_add, Nat.le_refl]
theorem e_copy (b s : Nat) (w : WB h b) (v : WB h s) (hd : b + 14 ≤ s ∨ s + 14 ≤ b) (F : Nat → Nat → Int32) : ∃ X, (∀ a k, ¬ (b ≤ a ∧ a < b + 14) → X a k = F a k) ∧ ∀ d Q, Run d 1593 [.ref b, .ref s] (wI h F) Q = Q none (wI h (ww X b (rv F s))) := by
  refine ⟨cpW F b s, fun a k ha => cpW_out ha, fun d Q => ?_⟩
  rw [e_copyFrom d b s w v hd, ← rv_cpW (dst := b), ww_rv]
theorem moveAll_loop (d c c' : Nat) (f : Nat → Nat → Int32) (t1 : hT h c = 100) (l1 : hL h c = 136) (t2 : hT h c' = 100) (l2 : hL h c' = 136) (hne : ¬ c = c') (Q : Option Value → PH → Prop) :
    ∀ (j k : Nat), k + j = 136 → WP d 762 1 [.ref c, .ref c', .int (nI k)] [] (wI h (cpf f c c' k)) Q = Q none (wI h (cpf f c c' 136))
  | 0, k, hk => by
    obtain rfl : k = 136 := by omega
    rw [w_762_1]
    simp -implicitDefEqProofs (disch := first | omega | (simp (disch := omega) only [nb_upr]; omega)) only [w_762_2, zi_31, zi_32i, zi_32r, zi_32u, zi_32a, zi_33, zi_34, zi_335, zi_35, zi_23, zi_23n, zi_0, zi_0n, zi_106, zi_38, zi_39i, zi_39r, zi_39u, zi_39a, zi_40, zi_41, kC_eq, toL_s, toL_n, okS0, okS1, okS2, okS3, okS4, okS5, true_and, and_true, hT_wI, hL_wI, hR_wI, hI_wI, hJ_wI, sI_wI, rfP, isIA_100, isIA_120, inb_ok, nI_clamp, nI_add, nI_mul, ↓reduceIte, not_false_eq_true, not_true_eq_false, true_or, or_true, ↓bI_01, ↓b01_0, ↓b01_1, bI_0, z00, z10, n4, n5, n2, n8, Nat.reduceMul, Nat.reduceAdd, Nat.reduceLT, Nat.reduceLeDiff, nI_eq, nI_leI, nI_ltI, Nat.reduceEqDiff, pk_div, nI_sub, Nat.reduceDiv, Nat.reduceSub, Nat.le_refl]
  | j + 1, k, hk => by
    have g : ¬ 136 ≤ k := by omega
    have ih := moveAll_loop d c c' f t1 l1 t2 l2 hne Q j (k + 1) (by omega)
    have e : up2 (cpf f c c' k) c' k (f c k) = cpf f c c' (k + 1) := by
      funext a q
      unfold up2 cpf
      by_cases z : a = c' ∧ q = k
      · rw [if_pos z, if_pos ⟨z.1, by omega⟩, z.2]
      · rw [if_neg z]
        by_cases y : a = c' ∧ q < k
        · rw [if_pos y, if_pos ⟨y.1, by omega⟩]
        · rw [if_neg y, if_neg (fun x => by have := x.1; have := x.2; by_cases q = k; exact z ⟨x.1, by assumption⟩; exact y ⟨x.1, by omega⟩)]
    rw [w_762_1]
    simp -implicitDefEqProofs (disch := first | omega | (simp (disch := omega) only [nb_upr]; omega)) only [zi_31, zi_32i, zi_32r, zi_32u, zi_32a, zi_33, zi_34, zi_335, zi_35, zi_23, zi_23n, zi_0, zi_0n, zi_106, zi_38, zi_39i, zi_39r, zi_39u, zi_39a, zi_40, zi_41, kC_eq, toL_s, toL_n, okS0, okS1, okS2, okS3, okS4, okS5, true_and, and_true, hT_wI, hL_wI, hR_wI, hI_wI, hJ_wI, sI_wI, rfP, isIA_100, isIA_120, inb_ok, nI_clamp, nI_add, nI_mul, ↓reduceIte, not_false_eq_true, not_true_eq_false, true_or, or_true, ↓bI_01, ↓b01_0, ↓b01_1, bI_0, z00, z10, n4, n5, n2, n8, Nat.reduceMul, Nat.reduceAdd, Nat.reduceLT, Nat.reduceLeDiff, nI_eq, nI_leI, nI_ltI, Nat.reduceEqDiff, pk_div, nI_sub, Nat.reduceDiv, Nat.reduceSub, g, t1, l1, t2, l2, cpf_ne, e]
    exact ih
theorem e_moveAll (d c c' : Nat) (f : Nat → Nat → Int32) (t1 : hT h c = 100) (l1 : hL h c = 136) (t2 : hT h c' = 100) (l2 : hL h c' = 136) (hne : ¬ c = c') (Q : Option Value → PH → Prop) : Run d 762 [.ref c, .ref c'] (wI h f) Q = Q none (wI h (cpf f c c' 136)) := by
  have e : cpf f c c' 0 = f := by
    funext a k
    unfold cpf
    rw [if_neg (by omega)]
  have := moveAll_loop (h := h) d c c' f t1 l1 t2 l2 hne Q 136 0 rfl
  rw [e] at this
  rw [← this]
  simp -implicitDefEqProofs (disch := first | omega | (simp (disch := omega) only [nb_upr]; omega)) only [R_762, w_762_0, zi_31, zi_32i, zi_32r, zi_32u, zi_32a, zi_33, zi_34, zi_335, zi_35, zi_23, zi_23n, zi_0, zi_0n, zi_106, zi_38, zi_39i, zi_39r, zi_39u, zi_39a, zi_40, zi_41, kC_eq, toL_s, toL_n, okS0, okS1, okS2, okS3, okS4, okS5, true_and, and_true, hT_wI, hL_wI, hR_wI, hI_wI, hJ_wI, sI_wI, rfP, isIA_100, isIA_120, inb_ok, nI_clamp, nI_add, nI_mul, ↓reduceIte, not_false_eq_true, not_true_eq_false, true_or, or_true, ↓bI_01, ↓b01_0, ↓b01_1, bI_0, z00, z10, n4, n5, n2, n8, Nat.reduceMul, Nat.reduceAdd, Nat.reduceLT, Nat.reduceLeDiff]
theorem rm_cpf {f : Nat → Nat → Int32} {c c' : Nat} : rm (cpf f c c' 136) c' = rm f c := by
  have e : ∀ q, q < 136 → cpf f c c' 136 c' q = f c q := fun q hq => by rw [cpf_eq, if_pos hq]
  funext q
  unfold rm
  rw [e 5 (by decide)]
  by_cases z : q < min 136 (76 + 10 * (f c 5).toNatClampNeg)
  · rw [if_pos z, if_pos z, e q (by omega)]
  · rw [if_neg z, if_neg z]
/-- the reference's row moved from cell c to c' -/
theorem e_move (c c' : Nat) (t1 : hT h c = 100) (l1 : hL h c = 136) (t2 : hT h c' = 100) (l2 : hL h c' = 136) (hne : ¬ c = c') (f : Nat → Nat → Int32) : ∃ X, (∀ a, ¬ a = c' → X a = f a) ∧ rm X c' = rm f c ∧ ∀ d Q, Run d 762 [.ref c, .ref c'] (wI h f) Q = Q none (wI h X) := by
  refine ⟨cpf f c c' 136, fun a ha => ?_, rm_cpf, fun d Q => e_moveAll d c c' f t1 l1 t2 l2 hne Q⟩
  funext k
  exact cpf_ne ha
theorem rm_eq {f g : Nat → Nat → Int32} {c : Nat} (h : f c = g c) : rm f c = rm g c := by
  unfold rm
  rw [h]
theorem rv_eq {f g : Nat → Nat → Int32} {b : Nat} (h : ∀ a k, b ≤ a → a < b + 14 → f a k = g a k) : rv f b = rv g b := by
  funext q
  unfold rv
  rw [h b 14 (by omega) (by omega)]
  by_cases z : q < min 136 (76 + 10 * (g b 14).toNatClampNeg)
  · rw [if_pos z, if_pos z, h _ _ (by omega) (by have := (plc_right q (by omega)).1; omega)]
  · rw [if_neg z, if_neg z]
end
