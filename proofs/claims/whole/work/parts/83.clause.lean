section
/-! a clause, both sides: prices, quotas, streets -/
variable {n : Nat} {h : PH} {y : Nat → Nat} {t p : Nat} {d d' : Nat} {g : Nat → Nat → Int32} {ρ : Nat → Int32} {Q : Option Value → PH → Prop}
def XO (X X' : Nat → Nat → Int32) : Prop := ∀ a k, ¬ (145 ≤ a ∧ a < 159) → X' a k = X a k
theorem XO.refl (X : Nat → Nat → Int32) : XO X X := fun _ _ _ => rfl
theorem XO.trans {X Y W : Nat → Nat → Int32} (h1 : XO X Y) (h2 : XO Y W) : XO X W := fun a k ha => (h2 a k ha).trans (h1 a k ha)
theorem TG.xo {X Y : Nat → Nat → Int32} (G : TG y t X) (e : XO X Y) : TG y t Y := ⟨G.1, G.2.1, by rw [e 101 1 (by omega)]; exact G.2.2.1, fun k hk => by rw [e 102 k (by omega)]; exact G.2.2.2 k hk⟩
theorem TX.xo {X Y : Nat → Nat → Int32} (G : TX h X) (e : XO X Y) : TX h Y := fun k k1 k2 => ⟨(G k k1 k2).1, (G k k1 k2).2.1, fun j hj => by rw [e k j (by omega)]; exact (G k k1 k2).2.2 j hj⟩
theorem XO.tb {X Y : Nat → Nat → Int32} (e : XO X Y) (T : TB X) : TB Y := TB_of (fun a k ha => e a k (by omega)) T
theorem XO.ww {X : Nat → Nat → Int32} (ρ : Nat → Int32) : XO X (ww X 145 ρ) := fun a k ha => ww_out (by omega)
/-- the reference's fresh row, but for its z -/
def mf (g : Nat → Nat → Int32) (ρ : Nat → Int32) : Nat → Nat → Int32 := fun a k => if a = 235 ∧ k < 136 ∧ ¬ k = 6 then ρ k else g a k
theorem mf_r {k : Nat} (hk : k < 136) (h6 : ¬ k = 6) : mf g ρ 235 k = ρ k := if_pos ⟨rfl, hk, h6⟩
theorem mf_o {a k : Nat} (ha : ¬ a = 235) : mf g ρ a k = g a k := if_neg (fun z => ha z.1)
theorem mf_w {k : Nat} {x : Int32} (hk : k < 136) (h6 : ¬ k = 6) : up2 (mf g ρ) 235 k x = mf g (upr ρ k x) := by
  funext a j
  unfold up2 mf upr
  by_cases z : a = 235 ∧ j = k
  · rw [if_pos z, if_pos ⟨z.1, by omega, by omega⟩, if_pos z.2]
  · rw [if_neg z]
    by_cases u : a = 235 ∧ j < 136 ∧ ¬ j = 6
    · rw [if_pos u, if_pos u, if_neg (fun v => z ⟨u.1, v⟩)]
    · rw [if_neg u, if_neg u]
theorem MG.mf (G : MG y t g) (ρ : Nat → Int32) : MG y t (mf g ρ) := ⟨G.1, G.2.1, by rw [mf_o (by decide)]; exact G.2.2.1, fun k hk => by rw [mf_o (by decide)]; exact G.2.2.2 k hk⟩
/-- both sides come from p to p' with the same row, or stop at the same token -/
def JO (h : PH) (y : Nat → Nat) (t n p : Nat) (ρ : Nat → Int32) (C : (Nat → Nat → Int32) → Int32 → (Option Value → PH → Prop) → Prop) (M : (Nat → Nat → Int32) → (Option Value → PH → Prop) → Prop) : Prop :=
  (∃ p' ρ', p < p' ∧ p' ≤ t ∧ Vr n ρ' ∧ ρ' 6 = ρ 6 ∧
    (∀ X v, TG y t X → TX h X → TB X → ∃ X' s k v', XO X X' ∧ ∀ Q, C X v Q = Q (some (.int (nI 1))) (wI h (tcS (ww X' 145 ρ') (nI p') s k v'))) ∧
    (∀ g, MG y t g → ∀ Q, M g Q = Q none (wI (jP h y t p') (tmP (mf g ρ') y t p' (nI 1)))))
  ∨ (∃ q, q ≤ t ∧
    (∀ X v, TG y t X → TX h X → TB X → ∃ X' ρ' e k v', XO X X' ∧ ∀ Q, C X v Q = Q (some (.int (nI 0))) (wI h (tcS (ww X' 145 ρ') e (nI (tS y t q)) k v'))) ∧
    (∀ g, MG y t g → ∃ ρ', ∀ Q, M g Q = Q none (wI (jP h y t q) (tmP (mf g ρ') y t q (nI 0)))))
theorem e_cN1 (F : FR h) (G : TG y t g) (hp : p ≤ t) {lo hi : Int32} (ok : okN y t p lo hi) (s k v : Int32) (d : Nat) (hd : 3 ≤ d) (Q : Option Value → PH → Prop) :
    Run d 1850 [.ref 101, .int lo, .int hi] (wI h (tcS g (nI p) s k v)) Q = Q (some (.int (nI 1))) (wI h (tcS g (nI (tE y t p)) (nI (tS y t p)) (nI (tK y t p)) (tV y t p))) := by
  have e : tVV y t p v = tV y t p := if_pos ok.1
  have ok' : tK y t p = 2 ∧ ¬ (tV y t p < lo ∨ hi < tV y t p) := ok
  rw [e_cN F G p hp s k v lo hi d hd Q, if_pos ok', e]
theorem e_cN0 (F : FR h) (G : TG y t g) (hp : p ≤ t) {lo hi : Int32} (ok : ¬ okN y t p lo hi) (s k v : Int32) (d : Nat) (hd : 3 ≤ d) (Q : Option Value → PH → Prop) :
    Run d 1850 [.ref 101, .int lo, .int hi] (wI h (tcS g (nI p) s k v)) Q = Q (some (.int (nI 0))) (wI h (tcS g (nI (tE y t p)) (nI (tS y t p)) (nI (tK y t p)) (tVV y t p v))) := by
  have ok' : ¬ (tK y t p = 2 ∧ ¬ (tV y t p < lo ∨ hi < tV y t p)) := ok
  rw [e_cN F G p hp s k v lo hi d hd Q, if_neg ok']
theorem e_cE1 (F : FR h) (G : TG y t g) (hp : p ≤ t) (he : isE y t p) (s k v : Int32) (d : Nat) (hd : 3 ≤ d) (Q : Option Value → PH → Prop) :
    Run d 1864 [.ref 101] (wI h (tcS g (nI p) s k v)) Q = Q (some (.int (nI 1))) (wI h (tcS g (nI (tE y t p)) (nI (tS y t p)) (nI (tK y t p)) (tVV y t p v))) := by
  have he' : tK y t p = 3 ∧ y (tS y t p) = 59 := he
  rw [e_cE F G p hp s k v d hd Q, if_pos he']
theorem e_cE0 (F : FR h) (G : TG y t g) (hp : p ≤ t) (he : ¬ isE y t p) (s k v : Int32) (d : Nat) (hd : 3 ≤ d) (Q : Option Value → PH → Prop) :
    Run d 1864 [.ref 101] (wI h (tcS g (nI p) s k v)) Q = Q (some (.int (nI 0))) (wI h (tcS g (nI (tE y t p)) (nI (tS y t p)) (nI (tK y t p)) (tVV y t p v))) := by
  have he' : ¬ (tK y t p = 3 ∧ y (tS y t p) = 59) := he
  rw [e_cE F G p hp s k v d hd Q, if_neg he']
/-- a number and a stop: they are there, no number, no stop -/
theorem c_num1 (F : FR h) (G : TG y t g) (hp : p ≤ t) {lo hi : Int32} (ok : okN y t p lo hi) (he : isE y t (tE y t p)) {a i m : Nat} (ta : hT h a = 100) (la : hL h a = m) (hi' : i < m) (hm : m < 2147483648) (ha : ¬ a = 101) (s k v : Int32) (d : Nat) (hd : 4 ≤ d) (Q : Option Value → PH → Prop) :
    Run d 1884 [.ref 101, .ref a, .int (nI i), .int lo, .int hi] (wI h (tcS g (nI p) s k v)) Q = Q (some (.int (nI 1))) (wI h (tcS (up2 g a i (tV y t p)) (nI (tE y t (tE y t p))) (nI (tS y t (tE y t p))) (nI (tK y t (tE y t p))) (tVV y t (tE y t p) (tV y t p)))) := by
  have hp1 := (tE_b (y := y) hp).2
  simp -implicitDefEqProofs (disch := first | omega | (simp (disch := omega) only [nb_upr]; omega)) only [R_1884, w_1884_0, w_1884_1, w_1884_2, zi_0, zi_0n, zi_63, zi_76, zi_658, zi_98, zi_31, zi_67w1, zi_67w2, zi_637, zi_164i, zi_164r, zi_164u, zi_164a, zi_662, zi_452, zi_23, zi_23n, zi_34, zi_165, zi_38, zi_48, F.t101, kC_eq, toL_s, toL_n, okS0, okS1, okS2, okS3, okS4, okS5, true_and, and_true, hT_wI, hL_wI, hR_wI, hI_wI, hJ_wI, sI_wI, rfP, isIA_100, isIA_120, inb_ok, nI_clamp, nI_add, nI_mul, ↓reduceIte, not_false_eq_true, not_true_eq_false, true_or, or_true, ↓bI_01, ↓b01_0, ↓b01_1, bI_0, z00, z10, n4, n5, n2, n8, Nat.reduceMul, Nat.reduceAdd, Nat.reduceLT, Nat.reduceLeDiff, e_cN1 F G hp ok, e_cE1 F G hp1 he, tc_5, ta, la, tc_uo ha]
theorem c_num2 (F : FR h) (G : TG y t g) (hp : p ≤ t) {lo hi : Int32} (ok : ¬ okN y t p lo hi) (a : Nat) (i s k v : Int32) (d : Nat) (hd : 4 ≤ d) (Q : Option Value → PH → Prop) :
    Run d 1884 [.ref 101, .ref a, .int i, .int lo, .int hi] (wI h (tcS g (nI p) s k v)) Q = Q (some (.int (nI 0))) (wI h (tcS g (nI (tE y t p)) (nI (tS y t p)) (nI (tK y t p)) (tVV y t p v))) := by
  simp -implicitDefEqProofs (disch := first | omega | (simp (disch := omega) only [nb_upr]; omega)) only [R_1884, w_1884_0, w_1884_1, w_1884_2, zi_0, zi_0n, zi_63, zi_76, zi_658, zi_98, zi_31, zi_67w1, zi_67w2, zi_637, zi_164i, zi_164r, zi_164u, zi_164a, zi_662, zi_452, zi_23, zi_23n, zi_34, zi_165, zi_38, zi_48, F.t101, kC_eq, toL_s, toL_n, okS0, okS1, okS2, okS3, okS4, okS5, true_and, and_true, hT_wI, hL_wI, hR_wI, hI_wI, hJ_wI, sI_wI, rfP, isIA_100, isIA_120, inb_ok, nI_clamp, nI_add, nI_mul, ↓reduceIte, not_false_eq_true, not_true_eq_false, true_or, or_true, ↓bI_01, ↓b01_0, ↓b01_1, bI_0, z00, z10, n4, n5, n2, n8, Nat.reduceMul, Nat.reduceAdd, Nat.reduceLT, Nat.reduceLeDiff, e_cN0 F G hp ok]
theorem c_num3 (F : FR h) (G : TG y t g) (hp : p ≤ t) {lo hi : Int32} (ok : okN y t p lo hi) (he : ¬ isE y t (tE y t p)) (a : Nat) (i s k v : Int32) (d : Nat) (hd : 4 ≤ d) (Q : Option Value → PH → Prop) :
    Run d 1884 [.ref 101, .ref a, .int i, .int lo, .int hi] (wI h (tcS g (nI p) s k v)) Q = Q (some (.int (nI 0))) (wI h (tcS g (nI (tE y t (tE y t p))) (nI (tS y t (tE y t p))) (nI (tK y t (tE y t p))) (tVV y t (tE y t p) (tV y t p)))) := by
  have hp1 := (tE_b (y := y) hp).2
  simp -implicitDefEqProofs (disch := first | omega | (simp (disch := omega) only [nb_upr]; omega)) only [R_1884, w_1884_0, w_1884_1, w_1884_2, zi_0, zi_0n, zi_63, zi_76, zi_658, zi_98, zi_31, zi_67w1, zi_67w2, zi_637, zi_164i, zi_164r, zi_164u, zi_164a, zi_662, zi_452, zi_23, zi_23n, zi_34, zi_165, zi_38, zi_48, F.t101, kC_eq, toL_s, toL_n, okS0, okS1, okS2, okS3, okS4, okS5, true_and, and_true, hT_wI, hL_wI, hR_wI, hI_wI, hJ_wI, sI_wI, rfP, isIA_100, isIA_120, inb_ok, nI_clamp, nI_add, nI_mul, ↓reduceIte, not_false_eq_true, not_true_eq_false, true_or, or_true, ↓bI_01, ↓b01_0, ↓b01_1, bI_0, z00, z10, n4, n5, n2, n8, Nat.reduceMul, Nat.reduceAdd, Nat.reduceLT, Nat.reduceLeDiff, e_cN1 F G hp ok, e_cE0 F G hp1 he, tc_5]
/-! which sort -/
theorem e_sortName (X : TX h g) (j : Nat) (hj : j < 5) (f : Nat → Nat → Int32) (d : Nat) (Q : Option Value → PH → Prop) : Run d 1897 [.int (nI j)] (wI h f) Q = Q (some (.ref (20 + j))) (wI h f) := by
  have x0 := (X 20 (by decide) (by decide)).1
  have x1 := (X 21 (by decide) (by decide)).1
  have x2 := (X 22 (by decide) (by decide)).1
  have x3 := (X 23 (by decide) (by decide)).1
  have x4 := (X 24 (by decide) (by decide)).1
  have hj' : j = 0 ∨ j = 1 ∨ j = 2 ∨ j = 3 ∨ j = 4 := by omega
  rcases hj' with rfl | rfl | rfl | rfl | rfl <;> simp -implicitDefEqProofs (disch := first | omega | (simp (disch := omega) only [nb_upr]; omega)) only [R_1897, w_1897_0, w_1897_1, w_1897_2, w_1897_3, w_1897_4, w_1897_5, zi_87, zi_666, zi_667, zi_62r, zi_668, zi_669, zi_670, zi_671, kC_eq, toL_s, toL_n, okS0, okS1, okS2, okS3, okS4, okS5, true_and, and_true, hT_wI, hL_wI, hR_wI, hI_wI, hJ_wI, sI_wI, rfP, isIA_100, isIA_120, inb_ok, nI_clamp, nI_add, nI_mul, ↓reduceIte, not_false_eq_true, not_true_eq_false, true_or, or_true, ↓bI_01, ↓b01_0, ↓b01_1, bI_0, z00, z10, n4, n5, n2, n8, Nat.reduceMul, Nat.reduceAdd, Nat.reduceLT, Nat.reduceLeDiff, nI_eq, nI_leI, nI_ltI, Nat.reduceEqDiff, pk_div, nI_sub, Nat.reduceDiv, Nat.reduceSub, x0, x1, x2, x3, x4]
theorem e_kindName (X : TX h g) (j : Nat) (hj : j < 6) (f : Nat → Nat → Int32) (d : Nat) (Q : Option Value → PH → Prop) : Run d 1825 [.int (nI j)] (wI h f) Q = Q (some (.ref (10 + j))) (wI h f) := by
  have x0 := (X 10 (by decide) (by decide)).1
  have x1 := (X 11 (by decide) (by decide)).1
  have x2 := (X 12 (by decide) (by decide)).1
  have x3 := (X 13 (by decide) (by decide)).1
  have x4 := (X 14 (by decide) (by decide)).1
  have x5 := (X 15 (by decide) (by decide)).1
  have hj' : j = 0 ∨ j = 1 ∨ j = 2 ∨ j = 3 ∨ j = 4 ∨ j = 5 := by omega
  rcases hj' with rfl | rfl | rfl | rfl | rfl | rfl <;> simp -implicitDefEqProofs (disch := first | omega | (simp (disch := omega) only [nb_upr]; omega)) only [R_1825, w_1825_0, w_1825_1, w_1825_2, w_1825_3, w_1825_4, w_1825_5, w_1825_6, zi_87, zi_649, zi_650, zi_62r, zi_651, zi_652, zi_653, zi_654, zi_655, kC_eq, toL_s, toL_n, okS0, okS1, okS2, okS3, okS4, okS5, true_and, and_true, hT_wI, hL_wI, hR_wI, hI_wI, hJ_wI, sI_wI, rfP, isIA_100, isIA_120, inb_ok, nI_clamp, nI_add, nI_mul, ↓reduceIte, not_false_eq_true, not_true_eq_false, true_or, or_true, ↓bI_01, ↓b01_0, ↓b01_1, bI_0, z00, z10, n4, n5, n2, n8, Nat.reduceMul, Nat.reduceAdd, Nat.reduceLT, Nat.reduceLeDiff, nI_eq, nI_leI, nI_ltI, Nat.reduceEqDiff, pk_div, nI_sub, Nat.reduceDiv, Nat.reduceSub, x0, x1, x2, x3, x4, x5]
theorem cs_sort (F : FR h) (G : TG y t g) (X : TX h g) (hp : p ≤ t) (v : Int32) (d : Nat) (hd : 1 ≤ d) (Q : Option Value → PH → Prop) :
    ∀ (j i : Nat), i + j = 5 → i ≤ srt y t p → WP d 1888 1 [.ref 101, .int (nI i)] [] (wI h (tcS g (nI (tE y t p)) (nI (tS y t p)) (nI (tK y t p)) v)) Q = Q (some (.int (if srt y t p < 5 then nI (srt y t p) else Int32.ofInt (-3)))) (wI h (tcS g (nI (tE y t p)) (nI (tS y t p)) (nI (tK y t p)) v)) := by
  have hle := (fst1_le (fun i => isW y t p (20 + i)) 5 0).2
  intro j
  induction j with
  | zero =>
    intro i hi hs
    obtain rfl : i = 5 := by omega
    rw [if_neg (by omega), w_1888_1]
    simp -implicitDefEqProofs (disch := first | omega | (simp (disch := omega) only [nb_upr]; omega)) only [w_1888_3, zi_31, zi_96i, zi_96r, zi_96u, zi_96a, zi_33, zi_88, zi_59, zi_157, zi_0, zi_0n, zi_665, zi_639, zi_108, zi_67w1, zi_67w2, zi_216i, zi_216r, zi_216u, zi_216a, zi_40, zi_208, kC_eq, toL_s, toL_n, okS0, okS1, okS2, okS3, okS4, okS5, true_and, and_true, hT_wI, hL_wI, hR_wI, hI_wI, hJ_wI, sI_wI, rfP, isIA_100, isIA_120, inb_ok, nI_clamp, nI_add, nI_mul, ↓reduceIte, not_false_eq_true, not_true_eq_false, true_or, or_true, ↓bI_01, ↓b01_0, ↓b01_1, bI_0, z00, z10, n4, n5, n2, n8, Nat.reduceMul, Nat.reduceAdd, Nat.reduceLT, Nat.reduceLeDiff, nI_eq, nI_leI, nI_ltI, Nat.reduceEqDiff, pk_div, nI_sub, Nat.reduceDiv, Nat.reduceSub, Nat.le_refl]
  | succ j ih0 =>
    intro i hi hs
    have g5 : ¬ 5 ≤ i := by omega
    by_cases z : i = srt y t p
    · have hw : isW y t p (20 + i) = true := by
        rw [z]
        exact fst1_yes (fun i => isW y t p (20 + i)) 5 0 (show fst1 _ 5 0 < 0 + 5 by have : srt y t p < 5 := by omega
                                                                                     exact this)
      rw [if_pos (by omega), ← z, w_1888_1]
      simp -implicitDefEqProofs (disch := first | omega | (simp (disch := omega) only [nb_upr]; omega)) only [zi_31, zi_96i, zi_96r, zi_96u, zi_96a, zi_33, zi_88, zi_59, zi_157, zi_0, zi_0n, zi_665, zi_639, zi_108, zi_67w1, zi_67w2, zi_216i, zi_216r, zi_216u, zi_216a, zi_40, zi_208, F.t101, kC_eq, toL_s, toL_n, okS0, okS1, okS2, okS3, okS4, okS5, true_and, and_true, hT_wI, hL_wI, hR_wI, hI_wI, hJ_wI, sI_wI, rfP, isIA_100, isIA_120, inb_ok, nI_clamp, nI_add, nI_mul, ↓reduceIte, not_false_eq_true, not_true_eq_false, true_or, or_true, ↓bI_01, ↓b01_0, ↓b01_1, bI_0, z00, z10, n4, n5, n2, n8, Nat.reduceMul, Nat.reduceAdd, Nat.reduceLT, Nat.reduceLeDiff, nI_eq, nI_leI, nI_ltI, Nat.reduceEqDiff, pk_div, nI_sub, Nat.reduceDiv, Nat.reduceSub, g5, e_sortName X, e_cW F G X _ _ _ p hp, hw]
    · have hw : ¬ isW y t p (20 + i) = true := fst1_no (fun i => isW y t p (20 + i)) 5 0 i (by omega) (show i < srt y t p by omega)
      rw [← ih0 (i + 1) (by omega) (by omega), w_1888_1]
      simp -implicitDefEqProofs (disch := first | omega | (simp (disch := omega) only [nb_upr]; omega)) only [w_1888_2, zi_31, zi_96i, zi_96r, zi_96u, zi_96a, zi_33, zi_88, zi_59, zi_157, zi_0, zi_0n, zi_665, zi_639, zi_108, zi_67w1, zi_67w2, zi_216i, zi_216r, zi_216u, zi_216a, zi_40, zi_208, F.t101, kC_eq, toL_s, toL_n, okS0, okS1, okS2, okS3, okS4, okS5, true_and, and_true, hT_wI, hL_wI, hR_wI, hI_wI, hJ_wI, sI_wI, rfP, isIA_100, isIA_120, inb_ok, nI_clamp, nI_add, nI_mul, ↓reduceIte, not_false_eq_true, not_true_eq_false, true_or, or_true, ↓bI_01, ↓b01_0, ↓b01_1, bI_0, z00, z10, n4, n5, n2, n8, Nat.reduceMul, Nat.reduceAdd, Nat.reduceLT, Nat.reduceLeDiff, nI_eq, nI_leI, nI_ltI, Nat.reduceEqDiff, pk_div, nI_sub, Nat.reduceDiv, Nat.reduceSub, g5, e_sortName X, e_cW F G X _ _ _ p hp, hw, Bool.false_eq_true]
theorem e_cSr (F : FR h) (G : TG y t g) (X : TX h g) (hp : p ≤ t) (v : Int32) (d : Nat) (hd : 1 ≤ d) (Q : Option Value → PH → Prop) :
    Run d 1888 [.ref 101] (wI h (tcS g (nI (tE y t p)) (nI (tS y t p)) (nI (tK y t p)) v)) Q = Q (some (.int (if srt y t p < 5 then nI (srt y t p) else Int32.ofInt (-3)))) (wI h (tcS g (nI (tE y t p)) (nI (tS y t p)) (nI (tK y t p)) v)) := by
  rw [← cs_sort F G X hp v d hd Q 5 0 rfl (Nat.zero_le _)]
  simp -implicitDefEqProofs (disch := first | omega | (simp (disch := omega) only [nb_upr]; omega)) only [R_1888, w_1888_0, zi_31, zi_96i, zi_96r, zi_96u, zi_96a, zi_33, zi_88, zi_59, zi_157, zi_0, zi_0n, zi_665, zi_639, zi_108, zi_67w1, zi_67w2, zi_216i, zi_216r, zi_216u, zi_216a, zi_40, zi_208, kC_eq, toL_s, toL_n, okS0, okS1, okS2, okS3, okS4, okS5, true_and, and_true, hT_wI, hL_wI, hR_wI, hI_wI, hJ_wI, sI_wI, rfP, isIA_100, isIA_120, inb_ok, nI_clamp, nI_add, nI_mul, ↓reduceIte, not_false_eq_true, not_true_eq_false, true_or, or_true, ↓bI_01, ↓b01_0, ↓b01_1, bI_0, z00, z10, n4, n5, n2, n8, Nat.reduceMul, Nat.reduceAdd, Nat.reduceLT, Nat.reduceLeDiff]
theorem e_cS1 (F : FR h) (G : TG y t g) (X : TX h g) (hp : p ≤ t) (hs : srt y t p < 5) (v : Int32) (d : Nat) (hd : 1 ≤ d) (Q : Option Value → PH → Prop) :
    Run d 1888 [.ref 101] (wI h (tcS g (nI (tE y t p)) (nI (tS y t p)) (nI (tK y t p)) v)) Q = Q (some (.int (nI (srt y t p)))) (wI h (tcS g (nI (tE y t p)) (nI (tS y t p)) (nI (tK y t p)) v)) := by
  rw [e_cSr F G X hp v d hd Q, if_pos hs]
theorem e_cS0 (F : FR h) (G : TG y t g) (X : TX h g) (hp : p ≤ t) (hs : ¬ srt y t p < 5) (v : Int32) (d : Nat) (hd : 1 ≤ d) (Q : Option Value → PH → Prop) :
    Run d 1888 [.ref 101] (wI h (tcS g (nI (tE y t p)) (nI (tS y t p)) (nI (tK y t p)) v)) Q = Q (some (.int (Int32.ofInt (-3)))) (wI h (tcS g (nI (tE y t p)) (nI (tS y t p)) (nI (tK y t p)) v)) := by
  rw [e_cSr F G X hp v d hd Q, if_neg hs]
theorem okN.nat {lo hi : Nat} (hlo : lo < 2 ^ 31) (hhi : hi < 2 ^ 31) (ok : okN y t p (nI lo) (nI hi)) : ∃ k : Nat, lo ≤ k ∧ k ≤ hi ∧ tV y t p = nI k := btw hlo hhi ok.2
theorem j_price (F : FR h) (V : Vr n ρ) (hp : p ≤ t) (hk : tK y t p = 1) (hd : 5 ≤ d) (hd' : 4 ≤ d') :
    JO h y t n p ρ (fun X v Q => Run d 1905 [.ref 101, .ref 145] (wI h (tcS (ww X 145 ρ) (nI (tE y t p)) (nI (tS y t p)) (nI (tK y t p)) v)) Q) (fun g Q => Run d' 744 [.ref 233] (wI (jP h y t p) (tmP (mf g ρ) y t p (nI 1))) Q) := by
  have a0 := tE_gt1 hk
  have a1 := tS_b (y := y) hp
  have a2 := tE_b (y := y) hp
  obtain ⟨p1, e1⟩ : ∃ p1, tE y t p = p1 := ⟨_, rfl⟩
  have hp1 : p1 ≤ t := by omega
  have b1 := tS_b (y := y) hp1
  have b2 := tE_b (y := y) hp1
  have lt0 : Int32.ofInt (-3) < (0 : Int32) := by decide
  by_cases hs : srt y t p1 < 5
  · obtain ⟨p2, e2⟩ : ∃ p2, tE y t p1 = p2 := ⟨_, rfl⟩
    have hp2 : p2 ≤ t := by omega
    have c1 := tS_b (y := y) hp2
    have c2 := tE_b (y := y) hp2
    have nlt : ¬ nI (srt y t p1) < (0 : Int32) := nI_pos (by omega)
    by_cases ok : okN y t p2 (nI 1) (nI 30)
    · obtain ⟨p3, e3⟩ : ∃ p3, tE y t p2 = p3 := ⟨_, rfl⟩
      have hp3 : p3 ≤ t := by omega
      have f1 := tS_b (y := y) hp3
      have f2 := tE_b (y := y) hp3
      by_cases he : isE y t p3
      · obtain ⟨k, k1, k30, ek⟩ := ok.nat (by decide) (by decide)
        refine Or.inl ⟨tE y t p3, upr ρ (7 + srt y t p1) (tV y t p2), by omega, by omega, V.put (lim_lt (by omega)) (by omega) (by rw [okq_p hs, ek]; exact ⟨k, k30, rfl⟩), upr_ne _ _ (by omega), fun X v G0 X0 T0 => ⟨X, nI (tS y t p3), nI (tK y t p3), tVV y t p3 (tV y t p2), XO.refl X, fun Q => ?_⟩, fun g MG0 Q => ?_⟩
        · obtain ⟨b, hb⟩ : ∃ b, b = 145 := ⟨_, rfl⟩
          have w := F.w145
          have G1 := G0.xo (XO.ww (X := X) ρ)
          have X1 := X0.xo (XO.ww (X := X) ρ)
          rw [← hb] at w G1 X1 ⊢
          have he' : isE y t (tE y t p2) := by rw [e3]; exact he
          have hn := fun s k v d hd Q => c_num1 (a := b + 2) (i := srt y t p1) F G1 hp2 ok he' w.t2 w.l2 hs (by decide) (by omega) s k v d hd Q
          rw [e3] at hn
          have hst := fun s k v d hd Q => e_step F G1 p1 hp1 s k v d hd Q
          have hsr := fun v d hd Q => e_cS1 F G1 X1 hp1 hs v d hd Q
          rw [e2] at hst hsr
          rw [e1]
          simp -implicitDefEqProofs (disch := first | omega | (simp (disch := omega) only [nb_upr]; omega)) only [R_1905, w_1905_0, w_1905_1, w_1905_2, zi_0, zi_0n, zi_626, zi_664, zi_32i, zi_32r, zi_32u, zi_32a, zi_34, zi_413, zi_23, zi_23n, zi_115, zi_48, zi_15, zi_648, zi_66, zi_112, zi_31, zi_113, zi_67w1, zi_67w2, F.t101, w.t, w.r2, kC_eq, toL_s, toL_n, okS0, okS1, okS2, okS3, okS4, okS5, true_and, and_true, hT_wI, hL_wI, hR_wI, hI_wI, hJ_wI, sI_wI, rfP, isIA_100, isIA_120, inb_ok, nI_clamp, nI_add, nI_mul, ↓reduceIte, not_false_eq_true, not_true_eq_false, true_or, or_true, ↓bI_01, ↓b01_0, ↓b01_1, bI_0, z00, z10, n4, n5, n2, n8, Nat.reduceMul, Nat.reduceAdd, Nat.reduceLT, Nat.reduceLeDiff, hst, hsr, nlt, hn, ws_2]
        · have er1 := fun d hd Q => e_mS1 (g := mf g ρ) F (MG0.mf ρ) hp1 hs d hd Q
          have er2 := fun d hd Q => e_mN1 (g := mf g ρ) F (MG0.mf ρ) hp2 (nI 1) (nI 30) ok.1 ok.2 d hd Q
          have er3 := fun d hd Q => e_mE1 (g := mf g ρ) F (MG0.mf ρ) hp3 he d hd Q
          have er0 := fun d hd Q => e_advP (g := mf g ρ) F (MG0.mf ρ) hp (nI 1) d hd Q
          rw [e1] at er0
          rw [e2] at er1
          rw [e3] at er2
          simp -implicitDefEqProofs (disch := first | omega | (simp (disch := omega) only [nb_upr]; omega)) only [R_744, w_744_0, w_744_1, zi_0, zi_0n, zi_373, zi_440, zi_96i, zi_96r, zi_96u, zi_96a, zi_48, zi_15, zi_423, zi_32i, zi_32r, zi_32u, zi_32a, zi_424, zi_374, zi_66, zi_372, zi_123, zi_88, zi_70, zi_34, zi_38, zi_33, zi_41, hT_jP, hL_jP, hR_jP, F.t233, F.r233_1, F.t235, F.l235, kC_eq, toL_s, toL_n, okS0, okS1, okS2, okS3, okS4, okS5, true_and, and_true, hT_wI, hL_wI, hR_wI, hI_wI, hJ_wI, sI_wI, rfP, isIA_100, isIA_120, inb_ok, nI_clamp, nI_add, nI_mul, ↓reduceIte, not_false_eq_true, not_true_eq_false, true_or, or_true, ↓bI_01, ↓b01_0, ↓b01_1, bI_0, z00, z10, n4, n5, n2, n8, Nat.reduceMul, Nat.reduceAdd, Nat.reduceLT, Nat.reduceLeDiff, er0, er1, er2, er3, tp_13, tp_uo, mf_w]
      · refine Or.inr ⟨p3, hp3, fun X v G0 X0 T0 => ⟨X, ρ, nI (tE y t p3), nI (tK y t p3), tVV y t p3 (tV y t p2), XO.refl X, fun Q => ?_⟩, fun g MG0 => ⟨ρ, fun Q => ?_⟩⟩
        · obtain ⟨b, hb⟩ : ∃ b, b = 145 := ⟨_, rfl⟩
          have w := F.w145
          have G1 := G0.xo (XO.ww (X := X) ρ)
          have X1 := X0.xo (XO.ww (X := X) ρ)
          rw [← hb] at w G1 X1 ⊢
          have he' : ¬ isE y t (tE y t p2) := by rw [e3]; exact he
          have hn := fun i s k v d hd Q => c_num3 F G1 hp2 ok he' (b + 2) i s k v d hd Q
          rw [e3] at hn
          have hst := fun s k v d hd Q => e_step F G1 p1 hp1 s k v d hd Q
          have hsr := fun v d hd Q => e_cS1 F G1 X1 hp1 hs v d hd Q
          rw [e2] at hst hsr
          rw [e1]
          simp -implicitDefEqProofs (disch := first | omega | (simp (disch := omega) only [nb_upr]; omega)) only [R_1905, w_1905_0, w_1905_1, w_1905_2, zi_0, zi_0n, zi_626, zi_664, zi_32i, zi_32r, zi_32u, zi_32a, zi_34, zi_413, zi_23, zi_23n, zi_115, zi_48, zi_15, zi_648, zi_66, zi_112, zi_31, zi_113, zi_67w1, zi_67w2, F.t101, w.t, w.r2, kC_eq, toL_s, toL_n, okS0, okS1, okS2, okS3, okS4, okS5, true_and, and_true, hT_wI, hL_wI, hR_wI, hI_wI, hJ_wI, sI_wI, rfP, isIA_100, isIA_120, inb_ok, nI_clamp, nI_add, nI_mul, ↓reduceIte, not_false_eq_true, not_true_eq_false, true_or, or_true, ↓bI_01, ↓b01_0, ↓b01_1, bI_0, z00, z10, n4, n5, n2, n8, Nat.reduceMul, Nat.reduceAdd, Nat.reduceLT, Nat.reduceLeDiff, hst, hsr, nlt, hn]
        · have er1 := fun d hd Q => e_mS1 (g := mf g ρ) F (MG0.mf ρ) hp1 hs d hd Q
          have er2 := fun d hd Q => e_mN1 (g := mf g ρ) F (MG0.mf ρ) hp2 (nI 1) (nI 30) ok.1 ok.2 d hd Q
          have er3 := fun d hd Q => e_mE0 (g := mf g ρ) F (MG0.mf ρ) he d hd Q
          have er0 := fun d hd Q => e_advP (g := mf g ρ) F (MG0.mf ρ) hp (nI 1) d hd Q
          rw [e1] at er0
          rw [e2] at er1
          rw [e3] at er2
          simp -implicitDefEqProofs (disch := first | omega | (simp (disch := omega) only [nb_upr]; omega)) only [R_744, w_744_0, w_744_1, zi_0, zi_0n, zi_373, zi_440, zi_96i, zi_96r, zi_96u, zi_96a, zi_48, zi_15, zi_423, zi_32i, zi_32r, zi_32u, zi_32a, zi_424, zi_374, zi_66, zi_372, zi_123, zi_88, zi_70, zi_34, zi_38, zi_33, zi_41, hT_jP, hL_jP, hR_jP, F.t233, F.r233_1, F.t235, F.l235, kC_eq, toL_s, toL_n, okS0, okS1, okS2, okS3, okS4, okS5, true_and, and_true, hT_wI, hL_wI, hR_wI, hI_wI, hJ_wI, sI_wI, rfP, isIA_100, isIA_120, inb_ok, nI_clamp, nI_add, nI_mul, ↓reduceIte, not_false_eq_true, not_true_eq_false, true_or, or_true, ↓bI_01, ↓b01_0, ↓b01_1, bI_0, z00, z10, n4, n5, n2, n8, Nat.reduceMul, Nat.reduceAdd, Nat.reduceLT, Nat.reduceLeDiff, er0, er1, er2, er3, tp_13]
    · refine Or.inr ⟨p2, hp2, fun X v G0 X0 T0 => ⟨X, ρ, nI (tE y t p2), nI (tK y t p2), tVV y t p2 (tVV y t p1 v), XO.refl X, fun Q => ?_⟩, fun g MG0 => ⟨ρ, fun Q => ?_⟩⟩
      · obtain ⟨b, hb⟩ : ∃ b, b = 145 := ⟨_, rfl⟩
        have w := F.w145
        have G1 := G0.xo (XO.ww (X := X) ρ)
        have X1 := X0.xo (XO.ww (X := X) ρ)
        rw [← hb] at w G1 X1 ⊢
        have hn := fun i s k v d hd Q => c_num2 F G1 hp2 ok (b + 2) i s k v d hd Q
        have hst := fun s k v d hd Q => e_step F G1 p1 hp1 s k v d hd Q
        have hsr := fun v d hd Q => e_cS1 F G1 X1 hp1 hs v d hd Q
        rw [e2] at hst hsr
        rw [e1]
        simp -implicitDefEqProofs (disch := first | omega | (simp (disch := omega) only [nb_upr]; omega)) only [R_1905, w_1905_0, w_1905_1, w_1905_2, zi_0, zi_0n, zi_626, zi_664, zi_32i, zi_32r, zi_32u, zi_32a, zi_34, zi_413, zi_23, zi_23n, zi_115, zi_48, zi_15, zi_648, zi_66, zi_112, zi_31, zi_113, zi_67w1, zi_67w2, F.t101, w.t, w.r2, kC_eq, toL_s, toL_n, okS0, okS1, okS2, okS3, okS4, okS5, true_and, and_true, hT_wI, hL_wI, hR_wI, hI_wI, hJ_wI, sI_wI, rfP, isIA_100, isIA_120, inb_ok, nI_clamp, nI_add, nI_mul, ↓reduceIte, not_false_eq_true, not_true_eq_false, true_or, or_true, ↓bI_01, ↓b01_0, ↓b01_1, bI_0, z00, z10, n4, n5, n2, n8, Nat.reduceMul, Nat.reduceAdd, Nat.reduceLT, Nat.reduceLeDiff, hst, hsr, nlt, hn]
      · have er1 := fun d hd Q => e_mS1 (g := mf g ρ) F (MG0.mf ρ) hp1 hs d hd Q
        have er2 := fun d hd Q => e_mN0 (g := mf g ρ) F (nI 1) (nI 30) ok d hd Q
        have er0 := fun d hd Q => e_advP (g := mf g ρ) F (MG0.mf ρ) hp (nI 1) d hd Q
        rw [e1] at er0
        rw [e2] at er1
        simp -implicitDefEqProofs (disch := first | omega | (simp (disch := omega) only [nb_upr]; omega)) only [R_744, w_744_0, w_744_1, zi_0, zi_0n, zi_373, zi_440, zi_96i, zi_96r, zi_96u, zi_96a, zi_48, zi_15, zi_423, zi_32i, zi_32r, zi_32u, zi_32a, zi_424, zi_374, zi_66, zi_372, zi_123, zi_88, zi_70, zi_34, zi_38, zi_33, zi_41, hT_jP, hL_jP, hR_jP, F.t233, F.r233_1, F.t235, F.l235, kC_eq, toL_s, toL_n, okS0, okS1, okS2, okS3, okS4, okS5, true_and, and_true, hT_wI, hL_wI, hR_wI, hI_wI, hJ_wI, sI_wI, rfP, isIA_100, isIA_120, inb_ok, nI_clamp, nI_add, nI_mul, ↓reduceIte, not_false_eq_true, not_true_eq_false, true_or, or_true, ↓bI_01, ↓b01_0, ↓b01_1, bI_0, z00, z10, n4, n5, n2, n8, Nat.reduceMul, Nat.reduceAdd, Nat.reduceLT, Nat.reduceLeDiff, er0, er1, er2, e_mEz F, tp_13]
  · refine Or.inr ⟨p1, hp1, fun X v G0 X0 T0 => ⟨X, ρ, nI (tE y t p1), nI (tK y t p1), tVV y t p1 v, XO.refl X, fun Q => ?_⟩, fun g MG0 => ⟨ρ, fun Q => ?_⟩⟩
    · have G1 := G0.xo (XO.ww (X := X) ρ)
      have X1 := X0.xo (XO.ww (X := X) ρ)
      have hst := fun s k v d hd Q => e_step F G1 p1 hp1 s k v d hd Q
      have hsr := fun v d hd Q => e_cS0 F G1 X1 hp1 hs v d hd Q
      rw [e1]
      simp -implicitDefEqProofs (disch := first | omega | (simp (disch := omega) only [nb_upr]; omega)) only [R_1905, w_1905_0, w_1905_1, w_1905_2, zi_0, zi_0n, zi_626, zi_664, zi_32i, zi_32r, zi_32u, zi_32a, zi_34, zi_413, zi_23, zi_23n, zi_115, zi_48, zi_15, zi_648, zi_66, zi_112, zi_31, zi_113, zi_67w1, zi_67w2, F.t101, kC_eq, toL_s, toL_n, okS0, okS1, okS2, okS3, okS4, okS5, true_and, and_true, hT_wI, hL_wI, hR_wI, hI_wI, hJ_wI, sI_wI, rfP, isIA_100, isIA_120, inb_ok, nI_clamp, nI_add, nI_mul, ↓reduceIte, not_false_eq_true, not_true_eq_false, true_or, or_true, ↓bI_01, ↓b01_0, ↓b01_1, bI_0, z00, z10, n4, n5, n2, n8, Nat.reduceMul, Nat.reduceAdd, Nat.reduceLT, Nat.reduceLeDiff, hst, hsr, lt0]
    · have er1 := fun d hd Q => e_mS0 (g := mf g ρ) F hs d hd Q
      have er0 := fun d hd Q => e_advP (g := mf g ρ) F (MG0.mf ρ) hp (nI 1) d hd Q
      rw [e1] at er0
      simp -implicitDefEqProofs (disch := first | omega | (simp (disch := omega) only [nb_upr]; omega)) only [R_744, w_744_0, w_744_1, zi_0, zi_0n, zi_373, zi_440, zi_96i, zi_96r, zi_96u, zi_96a, zi_48, zi_15, zi_423, zi_32i, zi_32r, zi_32u, zi_32a, zi_424, zi_374, zi_66, zi_372, zi_123, zi_88, zi_70, zi_34, zi_38, zi_33, zi_41, hT_jP, hL_jP, hR_jP, F.t233, F.r233_1, F.t235, F.l235, kC_eq, toL_s, toL_n, okS0, okS1, okS2, okS3, okS4, okS5, true_and, and_true, hT_wI, hL_wI, hR_wI, hI_wI, hJ_wI, sI_wI, rfP, isIA_100, isIA_120, inb_ok, nI_clamp, nI_add, nI_mul, ↓reduceIte, not_false_eq_true, not_true_eq_false, true_or, or_true, ↓bI_01, ↓b01_0, ↓b01_1, bI_0, z00, z10, n4, n5, n2, n8, Nat.reduceMul, Nat.reduceAdd, Nat.reduceLT, Nat.reduceLeDiff, er0, er1, e_mNz F, e_mEz F, tp_13]
end
