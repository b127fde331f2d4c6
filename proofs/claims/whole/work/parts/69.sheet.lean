section
/-! sheets -/
variable {n : Nat} {h : PH} {f g : Nat → Nat → Int32}
theorem sR_wI (h : PH) (f : Nat → Nat → Int32) (a k : Nat) (x : Option Nat) : sR (wI h f) a k x = wI (sR h a k x) f := rfl
theorem sJ_wI (h : PH) (f : Nat → Nat → Int32) (a k : Nat) (x : Int64) : sJ (wI h f) a k x = wI (sJ h a k x) f := rfl
def nf (f : Nat → Nat → Int32) (c : Nat) : Nat → Nat → Int32 := fun b j => if b = c then 0 else f b j
theorem nC_wI (h : PH) (f : Nat → Nat → Int32) (t m : Nat) : nC (wI h f) t m = wI (nC h t m) (nf f (hN h)) := rfl
theorem nf_ne {c a k : Nat} (h : ¬ a = c) : nf f c a k = f a k := if_neg h
theorem hT_sR (h : PH) (a k : Nat) (x : Option Nat) (b : Nat) : hT (sR h a k x) b = hT h b := rfl
theorem hL_sR (h : PH) (a k : Nat) (x : Option Nat) (b : Nat) : hL (sR h a k x) b = hL h b := rfl
theorem hN_sR (h : PH) (a k : Nat) (x : Option Nat) : hN (sR h a k x) = hN h := rfl
theorem hJ_sR (h : PH) (a k : Nat) (x : Option Nat) (b j : Nat) : hJ (sR h a k x) b j = hJ h b j := rfl
theorem hR_sR (h : PH) (a k : Nat) (x : Option Nat) (b j : Nat) : hR (sR h a k x) b j = if b = a ∧ j = k then x else hR h b j := rfl
theorem hT_sJ (h : PH) (a k : Nat) (x : Int64) (b : Nat) : hT (sJ h a k x) b = hT h b := rfl
theorem hL_sJ (h : PH) (a k : Nat) (x : Int64) (b : Nat) : hL (sJ h a k x) b = hL h b := rfl
theorem hR_sJ (h : PH) (a k : Nat) (x : Int64) (b j : Nat) : hR (sJ h a k x) b j = hR h b j := rfl
theorem hN_sJ (h : PH) (a k : Nat) (x : Int64) : hN (sJ h a k x) = hN h := rfl
theorem hJ_sJ (h : PH) (a k : Nat) (x : Int64) (b j : Nat) : hJ (sJ h a k x) b j = if b = a ∧ j = k then x else hJ h b j := rfl
theorem hT_nC (h : PH) (t m b : Nat) : hT (nC h t m) b = if b = hN h then t else hT h b := by
  show (if b = h.1.1 then (t, m) else h.2.1 b).1 = _
  unfold hN
  split <;> rfl
theorem hL_nC (h : PH) (t m b : Nat) : hL (nC h t m) b = if b = hN h then m else hL h b := by
  show (if b = h.1.1 then (t, m) else h.2.1 b).2 = _
  unfold hN
  split <;> rfl
theorem hR_nC (h : PH) (t m b j : Nat) : hR (nC h t m) b j = if b = hN h then none else hR h b j := rfl
theorem hJ_nC (h : PH) (t m b j : Nat) : hJ (nC h t m) b j = if b = hN h then 0 else hJ h b j := rfl
theorem hN_nC (h : PH) (t m : Nat) : hN (nC h t m) = hN h + 1 := rfl
theorem hU_nC (h : PH) (t m : Nat) : hU (nC h t m) = hU h + m := rfl
theorem fRL_ne : ∀ q ∈ fRL, ¬ q.1 = 105 ∧ ¬ q.1 = 107 ∧ q.1 < 253 := by decide +kernel
theorem oTL_lt : ∀ q ∈ oTL, q.1 < 253 := by decide +kernel
/-- the frame holds where the cells below 253 are of the same kinds and refer alike, but for 105 and 107 -/
theorem FR.of {h h' : PH} (F : FR h) (e : ∀ a, a < 253 → hT h' a = hT h a ∧ hL h' a = hL h a) (er : ∀ a k, a < 253 → ¬ a = 105 → ¬ a = 107 → hR h' a k = hR h a k) : FR h' := by
  refine ⟨fun i hi => ?_, fun q hq => ?_, fun q hq => ?_⟩
  · rw [(e _ (by omega)).1, (e _ (by omega)).2]; exact F.1 i hi
  · obtain ⟨h1, h2, h3⟩ := fRL_ne q hq
    rw [er _ _ h3 h1 h2]; exact F.2.1 q hq
  · have := oTL_lt q hq
    rw [(e _ this).1, (e _ this).2]; exact F.2.2 q hq
/-- the longs of a sheet's place, the first m of them 0 -/
def zJ (h : PH) (s m : Nat) : PH := (h.1, h.2.1, h.2.2.1, (fun b j => if b = 248 ∧ 40 * s ≤ j ∧ j < 40 * s + m then lN 0 else h.2.2.2.1 b j), h.2.2.2.2)
theorem zJ_0 (h : PH) (s : Nat) : zJ h s 0 = h := by
  have e : (fun b j => if b = 248 ∧ 40 * s ≤ j ∧ j < 40 * s + 0 then lN 0 else h.2.2.2.1 b j) = h.2.2.2.1 := by
    funext b j
    rw [if_neg (by omega)]
  unfold zJ
  rw [e]
theorem zJ_up (h : PH) (s m : Nat) : sJ (zJ h s m) 248 (40 * s + m) (lN 0) = zJ h s (m + 1) := by
  have e : up2 (fun b j => if b = 248 ∧ 40 * s ≤ j ∧ j < 40 * s + m then lN 0 else h.2.2.2.1 b j) 248 (40 * s + m) (lN 0) = (fun b j => if b = 248 ∧ 40 * s ≤ j ∧ j < 40 * s + (m + 1) then lN 0 else h.2.2.2.1 b j) := by
    funext b j
    simp only [up2]
    by_cases z : b = 248 ∧ j = 40 * s + m
    · rw [if_pos z, if_pos ⟨z.1, by omega, by omega⟩]
    · rw [if_neg z]
      by_cases y : b = 248 ∧ 40 * s ≤ j ∧ j < 40 * s + m
      · rw [if_pos y, if_pos ⟨y.1, y.2.1, by omega⟩]
      · rw [if_neg y, if_neg (fun x => by obtain ⟨x1, x2, x3⟩ := x; by_cases j = 40 * s + m; exact z ⟨x1, by assumption⟩; exact y ⟨x1, x2, by omega⟩)]
  show (h.1, h.2.1, h.2.2.1, up2 (fun b j => if b = 248 ∧ 40 * s ≤ j ∧ j < 40 * s + m then lN 0 else h.2.2.2.1 b j) 248 (40 * s + m) (lN 0), h.2.2.2.2) = _
  rw [e]
  rfl
theorem hJ_zJ (h : PH) (s m b j : Nat) : hJ (zJ h s m) b j = if b = 248 ∧ 40 * s ≤ j ∧ j < 40 * s + m then lN 0 else hJ h b j := rfl
theorem hT_zJ (h : PH) (s m b : Nat) : hT (zJ h s m) b = hT h b := rfl
theorem hL_zJ (h : PH) (s m b : Nat) : hL (zJ h s m) b = hL h b := rfl
theorem hR_zJ (h : PH) (s m b j : Nat) : hR (zJ h s m) b j = hR h b j := rfl
theorem hN_zJ (h : PH) (s m : Nat) : hN (zJ h s m) = hN h := rfl
theorem zero_loop (F : FR h) (s : Nat) (hs : s < 4) (v1 v2 : Int32) (d : Nat) (Q : Option Value → PH → Prop) :
    ∀ (j k : Nat), k + j = 40 → WP d 1363 6 [.ref 233, .int (nI s), .int v1, .int v2, .int (nI k)] [] (wI (zJ h s k) f) Q = Q (some (.int (nI 1))) (wI (zJ h s 40) f) := by
  intro j
  induction j with
  | zero =>
    intro k hk
    obtain rfl : k = 40 := by omega
    rw [w_1363_6]
    simp -implicitDefEqProofs (disch := first | omega | (simp (disch := omega) only [nb_upr]; omega)) only [w_1363_7, zi_88, zi_505, zi_66, zi_34, zi_37, zi_54, zi_362, zi_547, zi_63, zi_17, zi_72, zi_33, zi_67w1, zi_67w2, zi_548, zi_385, zi_293, zi_0, zi_0n, zi_506, zi_38, zi_508, zi_549, zi_31, zi_224, zi_206, zi_74i, zi_74r, zi_74u, zi_74a, zi_237, zi_76, zi_230, zi_509, zi_79, zi_70, zi_264, zi_299, zi_85i, zi_85r, zi_85u, zi_85a, zi_236, zi_48, kC_eq, toL_s, toL_n, okS0, okS1, okS2, okS3, okS4, okS5, true_and, and_true, hT_wI, hL_wI, hR_wI, hI_wI, hJ_wI, sI_wI, rfP, isIA_100, isIA_120, inb_ok, nI_clamp, nI_add, nI_mul, ↓reduceIte, not_false_eq_true, not_true_eq_false, true_or, or_true, ↓bI_01, ↓b01_0, ↓b01_1, bI_0, z00, z10, n4, n5, n2, n8, Nat.reduceMul, Nat.reduceAdd, Nat.reduceLT, Nat.reduceLeDiff, nI_eq, nI_leI, nI_ltI, Nat.reduceEqDiff, pk_div, nI_sub, Nat.reduceDiv, Nat.reduceSub, Nat.le_refl]
  | succ j ih0 =>
    intro k hk
    have g : ¬ 40 ≤ k := by omega
    have ih := ih0 (k + 1) (by omega)
    rw [← ih, ← zJ_up, w_1363_6]
    simp -implicitDefEqProofs (disch := first | omega | (simp (disch := omega) only [nb_upr]; omega)) only [zi_88, zi_505, zi_66, zi_34, zi_37, zi_54, zi_362, zi_547, zi_63, zi_17, zi_72, zi_33, zi_67w1, zi_67w2, zi_548, zi_385, zi_293, zi_0, zi_0n, zi_506, zi_38, zi_508, zi_549, zi_31, zi_224, zi_206, zi_74i, zi_74r, zi_74u, zi_74a, zi_237, zi_76, zi_230, zi_509, zi_79, zi_70, zi_264, zi_299, zi_85i, zi_85r, zi_85u, zi_85a, zi_236, zi_48, hT_zJ, hL_zJ, hR_zJ, F.t233, F.r233_26, F.t248, F.l248, kC_eq, toL_s, toL_n, okS0, okS1, okS2, okS3, okS4, okS5, true_and, and_true, hT_wI, hL_wI, hR_wI, hI_wI, hJ_wI, sI_wI, rfP, isIA_100, isIA_120, inb_ok, nI_clamp, nI_add, nI_mul, ↓reduceIte, not_false_eq_true, not_true_eq_false, true_or, or_true, ↓bI_01, ↓b01_0, ↓b01_1, bI_0, z00, z10, n4, n5, n2, n8, Nat.reduceMul, Nat.reduceAdd, Nat.reduceLT, Nat.reduceLeDiff, nI_eq, nI_leI, nI_ltI, Nat.reduceEqDiff, pk_div, nI_sub, Nat.reduceDiv, Nat.reduceSub, g, sJ_wI]
theorem btwN {t : Int32} (hz : ¬ (t < Int32.ofInt (-1) ∨ nI 3 < t)) : t = Int32.ofInt (-1) ∨ ∃ k : Nat, k ≤ 3 ∧ t = nI k := by
  by_cases h0 : t < nI 0
  · left
    have h1 : Int32.ofInt (-1) ≤ t := Int32.not_lt.mp (fun z => hz (Or.inl z))
    have e1 := Int32.le_iff_toInt_le.mp h1
    have e2 := Int32.lt_iff_toInt_lt.mp h0
    have e3 : (Int32.ofInt (-1)).toInt = -1 := by decide
    have e4 : (nI 0).toInt = 0 := by decide
    apply Int32.toInt_inj.mp
    omega
  · right
    obtain ⟨k, -, hk, rfl⟩ := btw (a := 0) (c := 3) (by decide) (by decide) (fun z => z.elim h0 (fun y => hz (Or.inr y)))
    exact ⟨k, hk, rfl⟩
/-- what lies from 253 on stays -/
def OLD (h h' : PH) (f f' : Nat → Nat → Int32) : Prop := hN h ≤ hN h' ∧ ∀ a, 253 ≤ a → a < hN h → hT h' a = hT h a ∧ hL h' a = hL h a ∧ (∀ k, hR h' a k = hR h a k) ∧ f' a 0 = f a 0
theorem Sht.chg {h h' : PH} {f f' : Nat → Nat → Int32} {c l t m : Nat} (H : Sht h f c l t m) (o : OLD h h' f f') : Sht h' f' c l t m := by
  obtain ⟨a1, a2, a3, a4, a5, a6, a7, a8, a9, a10, a11⟩ := H
  have := o.1
  obtain ⟨c1, c2, c3, c4⟩ := o.2 c a1 a2
  obtain ⟨l1, l2, l3, l4⟩ := o.2 l a7 a8
  exact ⟨a1, by omega, by rw [c1]; exact a3, by rw [c4]; exact a4, a5, by rw [c3]; exact a6, a7, by omega, by rw [l1]; exact a9, by rw [l2]; exact a10, a11⟩
theorem SHELVES.chg {h h' : PH} {f f' : Nat → Nat → Int32} (H : SHELVES h f) (o : OLD h h' f f') (e : ∀ a k, a = 106 ∨ a = 249 ∨ a = 250 ∨ a = 251 → f' a k = f a k) (er : ∀ q, hR h' 107 q = hR h 107 q) : SHELVES h' f' := by
  intro s hs
  rcases H s hs with ⟨z1, z2, z3⟩ | ⟨β, z0, z1, z2, z3, z4⟩ | ⟨c, l, t, m, z1, z2, z3, z4, z5, z6⟩
  · exact Or.inl ⟨by rw [e 106 s (by omega)]; exact z1, by rw [er]; exact z2, by rw [e 249 s (by omega)]; exact z3⟩
  · exact Or.inr (Or.inl ⟨β, z0, by rw [e 106 s (by omega)]; exact z1, by rw [er]; exact z2, by rw [e 249 s (by omega)]; exact z3, by rw [e 250 s (by omega)]; exact z4⟩)
  · exact Or.inr (Or.inr ⟨c, l, t, m, by rw [e 106 s (by omega)]; exact z1, by rw [er]; exact z2, z3.chg o, by rw [e 249 s (by omega)]; exact z4, by rw [e 250 s (by omega)]; exact z5, by rw [e 251 s (by omega)]; exact z6⟩)
/-- sheet s is another, the others stay -/
theorem SHEETS.chg {h h' : PH} {f f' : Nat → Nat → Int32} {s : Nat} (H : SHEETS h f) (o : OLD h h' f f') (er : ∀ q, q < 4 → ¬ q = s → hR h' 105 q = hR h 105 q) (e : ∀ q, q < 4 → ¬ q = s → f' 246 q = f 246 q ∧ f' 247 q = f 247 q)
    (ej : ∀ q, q < 4 → ¬ q = s → ∀ k, k < 40 → hJ h' 248 (40 * q + k) = hJ h 248 (40 * q + k)) (el : ∀ q c l, q < 4 → ¬ q = s → hR h 105 q = some c → hR h c 1 = some l → ∀ k, k < 40 → hJ h' l k = hJ h l k)
    (hs : s < 4 → SHEET h' f' s) (hd : ∀ q c c', q < 4 → ¬ q = s → hR h' 105 s = some c → hR h 105 q = some c' → ¬ hR h' c 1 = hR h c' 1) : SHEETS h' f' := by
  have n1 := H.1
  have n2 := o.1
  have cell : ∀ q c, q < 4 → hR h 105 q = some c → 253 ≤ c ∧ c < hN h := by
    intro q c hq hc
    rcases H.2.1 q hq with ⟨z1, -⟩ | ⟨c2, l, t, m, z1, z2, -⟩
    · rw [z1] at hc; cases hc
    · rw [z1] at hc; cases hc; exact ⟨z2.1, z2.2.1⟩
  refine ⟨by omega, fun q hq => ?_, fun q q' c c' h1 h2 h3 h4 h5 => ?_⟩
  · by_cases g : q = s
    · subst g; exact hs hq
    · rcases H.2.1 q hq with ⟨z1, z2⟩ | ⟨c, l, t, m, z1, z2, z3, z4, z5⟩
      · exact Or.inl ⟨by rw [er q hq g]; exact z1, by rw [(e q hq g).1]; exact z2⟩
      · refine Or.inr ⟨c, l, t, m, by rw [er q hq g]; exact z1, z2.chg o, by rw [(e q hq g).1]; exact z3, by rw [(e q hq g).2]; exact z4, fun k hk => ?_⟩
        have m40 := z2.2.2.2.2.2.2.2.2.2.2
        rw [ej q hq g k (by omega), el q c l hq g z1 z2.2.2.2.2.2.1 k (by omega)]
        exact z5 k hk
  · by_cases g1 : q = s
    · subst g1
      have g2 : ¬ q' = q := fun z => h3 z.symm
      rw [er q' h2 g2] at h5
      have := cell q' c' h2 h5
      rw [(o.2 c' this.1 this.2).2.2.1]
      exact hd q' c c' h2 g2 h4 h5
    · by_cases g2 : q' = s
      · subst g2
        rw [er q h1 g1] at h4
        have := cell q c h1 h4
        rw [(o.2 c this.1 this.2).2.2.1]
        exact fun z => hd q c' c h1 g1 h5 h4 z.symm
      · rw [er q h1 g1] at h4
        rw [er q' h2 g2] at h5
        have k1 := cell q c h1 h4
        have k2 := cell q' c' h2 h5
        rw [(o.2 c k1.1 k1.2).2.2.1, (o.2 c' k2.1 k2.2).2.2.1]
        exact H.2.2 q q' c c' h1 h2 h3 h4 h5
theorem hT_nCe (h : PH) (t m : Nat) : hT (nC h t m) (hN h) = t := by rw [hT_nC, if_pos rfl]
theorem hT_nCn {h : PH} {t m b : Nat} (z : ¬ b = hN h) : hT (nC h t m) b = hT h b := by rw [hT_nC, if_neg z]
theorem hL_nCn {h : PH} {t m b : Nat} (z : ¬ b = hN h) : hL (nC h t m) b = hL h b := by rw [hL_nC, if_neg z]
theorem hR_nCn {h : PH} {t m b j : Nat} (z : ¬ b = hN h) : hR (nC h t m) b j = hR h b j := by rw [hR_nC, if_neg z]
theorem hJ_nCn {h : PH} {t m b j : Nat} (z : ¬ b = hN h) : hJ (nC h t m) b j = hJ h b j := by rw [hJ_nC, if_neg z]
theorem hR_sRn {h : PH} {a k b j : Nat} {x : Option Nat} (z : ¬ (b = a ∧ j = k)) : hR (sR h a k x) b j = hR h b j := by rw [hR_sR, if_neg z]
theorem hR_sRe {h : PH} {a k : Nat} {x : Option Nat} : hR (sR h a k x) a k = x := by rw [hR_sR, if_pos ⟨rfl, rfl⟩]
theorem max0 {m : Nat} (hm : m < 2 ^ 31) : (if nI 0 < nI m then nI m else nI 0) = nI m := by
  by_cases z : 0 < m
  · rw [if_pos ((nI_ltI (by decide) hm).mpr z)]
  · rw [if_neg (fun y => z ((nI_ltI (by decide) hm).mp y)), show m = 0 by omega]
theorem hN_uf (h : PH) : hN h = h.1.1 := rfl
theorem newSheet (F : FR h) (h253 : 253 ≤ hN h) (s t m : Nat) (hs : s < 4) (ht : t < 4) (hm : m ≤ 40) (Q : Option Value → PH → Prop) :
    WP 30 499 5 [.ref 100, .int (nI s), .int (nI t), .int (nI m)] [] (wI h f) Q = Q (some (.int (nI 1))) (wI (sR (sR (nC (nC h 8 2) 102 m) (hN h) 1 (some (hN h + 1))) 105 s (some (hN h))) (nf (up2 (nf f (hN h)) (hN h) 0 (nI t)) (hN h + 1))) := by
  have e1 := max0 (show m < 2 ^ 31 by omega)
  have t105 : ∀ x y z u, hT (nC (nC h x y) z u) 105 = 110 := fun x y z u => by rw [hT_nCn (by rw [hN_nC]; omega), hT_nCn (by omega)]; exact F.t105
  have l105 : ∀ x y z u, hL (nC (nC h x y) z u) 105 = 4 := fun x y z u => by rw [hL_nCn (by rw [hN_nC]; omega), hL_nCn (by omega)]; exact F.l105
  have tc2 : ∀ z u, hT (nC (nC h 8 2) z u) (hN h) = 8 := fun z u => by rw [hT_nCn (by rw [hN_nC]; omega), hT_nCe]
  have or1 : (110 = 110 ∧ 8 = 8 ∨ 110 = 111 ∧ 2 ≤ 8 ∧ (8 ≤ 5 ∨ 8 = 7 ∨ 8 = 10) ∨ 110 = 112 ∧ 8 = 11) = True := eq_true (Or.inl ⟨rfl, rfl⟩)
  have m1000 : (m ≤ 1000) = True := eq_true (by omega)
  rw [w_499_5]
  simp -implicitDefEqProofs (disch := first | omega | (simp (disch := omega) only [nb_upr]; omega)) only [R_1946, w_1946_0, zi_0, zi_0n, zi_1, zi_88, zi_676, zi_31, zi_34, zi_244, zi_351, zi_677n, zi_677r, zi_41, zi_88, zi_217, zi_98, zi_34, zi_37, zi_54, zi_65, zi_108, zi_33, zi_67w1, zi_67w2, zi_129, zi_0, zi_0n, zi_218, zi_291, zi_47n, zi_47r, zi_48, zi_63, zi_17, zi_199, zi_292, zi_293, zi_294, zi_3i, zi_3r, zi_295, F.t100, F.r100_6, kC_eq, toL_s, toL_n, okS0, okS1, okS2, okS3, okS4, okS5, true_and, and_true, hT_wI, hL_wI, hR_wI, hI_wI, hJ_wI, sI_wI, rfP, isIA_100, isIA_120, inb_ok, nI_clamp, nI_add, nI_mul, ↓reduceIte, not_false_eq_true, not_true_eq_false, true_or, or_true, ↓bI_01, ↓b01_0, ↓b01_1, bI_0, z00, z10, n4, n5, n2, n8, Nat.reduceMul, Nat.reduceAdd, Nat.reduceLT, Nat.reduceLeDiff, nC_wI, hN_wI, hT_nCe, nIp, e1, hN_nC, hT_sR, hL_sR, sR_wI, t105, l105, tc2, or1, m1000, show (1 : Nat) ≤ 8 from by decide, show (8 : Nat) ≤ 13 from by decide]
theorem c_sheet (n : Nat) (s t v : Int32) : CALL 499 1363 [.int s, .int t, .int v] n := by
  rintro h f ⟨F, T, V, em, hk, ht, hr, he, hs, hv⟩
  have same : ∀ x, (∀ Q, Run 30 499 [.ref 100, .int s, .int t, .int v] (wI h f) Q = Q (some x) (wI h f)) → (∀ Q, Run 30 1363 [.ref 233, .int s, .int t, .int v] (wI h f) Q = Q (some x) (wI h f)) → ∃ x h1 h' f', (∀ Q, Run 30 499 [.ref 100, .int s, .int t, .int v] (wI h f) Q = Q (some x) h1) ∧ (∀ Q, Run 30 1363 [.ref 233, .int s, .int t, .int v] h1 Q = Q (some x) (wI h' f')) ∧ INVf (n + 6) h' f' ∧ FIX h h' f f' :=
    fun x e1 e2 => ⟨x, wI h f, h, f, e1, e2, ⟨F, T, V.mono (by omega), em, hk.mono (by omega), ht, hr, he, hs, hv⟩, FIX.refl h f⟩
  by_cases hb : s < nI 0 ∨ nI 3 < s
  · exact same (.int (Int32.ofInt (-1))) (fun Q => by simp -implicitDefEqProofs (disch := first | omega | (simp (disch := omega) only [nb_upr]; omega)) only [R_499, w_499_0, w_499_1, zi_88, zi_217, zi_98, zi_34, zi_37, zi_54, zi_65, zi_108, zi_33, zi_67w1, zi_67w2, zi_129, zi_0, zi_0n, zi_218, zi_291, zi_47n, zi_47r, zi_48, zi_63, zi_17, zi_199, zi_292, zi_293, zi_294, zi_3i, zi_3r, zi_295, kC_eq, toL_s, toL_n, okS0, okS1, okS2, okS3, okS4, okS5, true_and, and_true, hT_wI, hL_wI, hR_wI, hI_wI, hJ_wI, sI_wI, rfP, isIA_100, isIA_120, inb_ok, nI_clamp, nI_add, nI_mul, ↓reduceIte, not_false_eq_true, not_true_eq_false, true_or, or_true, ↓bI_01, ↓b01_0, ↓b01_1, bI_0, z00, z10, n4, n5, n2, n8, Nat.reduceMul, Nat.reduceAdd, Nat.reduceLT, Nat.reduceLeDiff, e_noSheet, hb]) (fun Q => by simp -implicitDefEqProofs (disch := first | omega | (simp (disch := omega) only [nb_upr]; omega)) only [R_1363, w_1363_0, w_1363_1, zi_88, zi_505, zi_66, zi_34, zi_37, zi_54, zi_362, zi_547, zi_63, zi_17, zi_72, zi_33, zi_67w1, zi_67w2, zi_548, zi_385, zi_293, zi_0, zi_0n, zi_506, zi_38, zi_508, zi_549, zi_31, zi_224, zi_206, zi_74i, zi_74r, zi_74u, zi_74a, zi_237, zi_76, zi_230, zi_509, zi_79, zi_70, zi_264, zi_299, zi_85i, zi_85r, zi_85u, zi_85a, zi_236, zi_48, kC_eq, toL_s, toL_n, okS0, okS1, okS2, okS3, okS4, okS5, true_and, and_true, hT_wI, hL_wI, hR_wI, hI_wI, hJ_wI, sI_wI, rfP, isIA_100, isIA_120, inb_ok, nI_clamp, nI_add, nI_mul, ↓reduceIte, not_false_eq_true, not_true_eq_false, true_or, or_true, ↓bI_01, ↓b01_0, ↓b01_1, bI_0, z00, z10, n4, n5, n2, n8, Nat.reduceMul, Nat.reduceAdd, Nat.reduceLT, Nat.reduceLeDiff, e_isShelf, hb])
  by_cases hz : t < Int32.ofInt (-1) ∨ nI 3 < t
  · exact same (.int (Int32.ofInt (-1))) (fun Q => by simp -implicitDefEqProofs (disch := first | omega | (simp (disch := omega) only [nb_upr]; omega)) only [R_499, w_499_0, w_499_1, zi_88, zi_217, zi_98, zi_34, zi_37, zi_54, zi_65, zi_108, zi_33, zi_67w1, zi_67w2, zi_129, zi_0, zi_0n, zi_218, zi_291, zi_47n, zi_47r, zi_48, zi_63, zi_17, zi_199, zi_292, zi_293, zi_294, zi_3i, zi_3r, zi_295, kC_eq, toL_s, toL_n, okS0, okS1, okS2, okS3, okS4, okS5, true_and, and_true, hT_wI, hL_wI, hR_wI, hI_wI, hJ_wI, sI_wI, rfP, isIA_100, isIA_120, inb_ok, nI_clamp, nI_add, nI_mul, ↓reduceIte, not_false_eq_true, not_true_eq_false, true_or, or_true, ↓bI_01, ↓b01_0, ↓b01_1, bI_0, z00, z10, n4, n5, n2, n8, Nat.reduceMul, Nat.reduceAdd, Nat.reduceLT, Nat.reduceLeDiff, e_noSheet, hb, e_outside, hz]) (fun Q => by simp -implicitDefEqProofs (disch := first | omega | (simp (disch := omega) only [nb_upr]; omega)) only [R_1363, w_1363_0, w_1363_1, zi_88, zi_505, zi_66, zi_34, zi_37, zi_54, zi_362, zi_547, zi_63, zi_17, zi_72, zi_33, zi_67w1, zi_67w2, zi_548, zi_385, zi_293, zi_0, zi_0n, zi_506, zi_38, zi_508, zi_549, zi_31, zi_224, zi_206, zi_74i, zi_74r, zi_74u, zi_74a, zi_237, zi_76, zi_230, zi_509, zi_79, zi_70, zi_264, zi_299, zi_85i, zi_85r, zi_85u, zi_85a, zi_236, zi_48, kC_eq, toL_s, toL_n, okS0, okS1, okS2, okS3, okS4, okS5, true_and, and_true, hT_wI, hL_wI, hR_wI, hI_wI, hJ_wI, sI_wI, rfP, isIA_100, isIA_120, inb_ok, nI_clamp, nI_add, nI_mul, ↓reduceIte, not_false_eq_true, not_true_eq_false, true_or, or_true, ↓bI_01, ↓b01_0, ↓b01_1, bI_0, z00, z10, n4, n5, n2, n8, Nat.reduceMul, Nat.reduceAdd, Nat.reduceLT, Nat.reduceLeDiff, e_isShelf, hb, e_in, hz])
  obtain ⟨s, -, hs4, rfl⟩ := btw (by decide) (by decide) hb
  have s4 : s < 4 := by omega
  have h253 := hs.1
  rcases btwN hz with rfl | ⟨t, ht3, rfl⟩
  · have neg : (Int32.ofInt (-1) < (0 : Int32)) = True := by decide
    have off : ∀ a k, ¬ a = 246 → ¬ a = 247 → up2 (up2 f 246 s (Int32.ofInt (-1))) 247 s (nI 0) a k = f a k := fun a k h1 h2 => by
      simp (disch := omega) only [up2_out]
    have o : OLD h (zJ (sR h 105 s none) s 40) f (up2 (up2 f 246 s (Int32.ofInt (-1))) 247 s (nI 0)) := ⟨Nat.le_refl _, fun a h1 h2 => ⟨rfl, rfl, fun k => by rw [hR_zJ, hR_sRn (by omega)], off a 0 (by omega) (by omega)⟩⟩
    refine ⟨.int (nI 1), wI (sR h 105 s none) f, zJ (sR h 105 s none) s 40, up2 (up2 f 246 s (Int32.ofInt (-1))) 247 s (nI 0), fun Q => ?_, fun Q => ?_, ⟨?_, TB_of (fun a k ha => off a k (by omega) (by omega)) T, ?_, ?_, (hk.of (fun a k ha => off a k (by unfold kK at ha; omega) (by unfold kK at ha; omega))).mono (by omega), ht.of (fun a k ha => off a k (by unfold kT at ha; omega) (by unfold kT at ha; omega)), hr.of (fun a k ha => off a k (by unfold kR at ha; omega) (by unfold kR at ha; omega)), he.of (fun a k ha => off a k (by unfold kE at ha; omega) (by unfold kE at ha; omega)), ?_, hv.chg o (fun a k ha => off a k (by omega) (by omega)) (fun q => by rw [hR_zJ, hR_sRn (by omega)])⟩, ⟨fun a k ha => off a k (by omega) (by omega), rfl, rfl, ?_, ?_, ?_, ?_⟩⟩
    · simp -implicitDefEqProofs (disch := first | omega | (simp (disch := omega) only [nb_upr]; omega)) only [R_499, w_499_0, w_499_2, zi_88, zi_217, zi_98, zi_34, zi_37, zi_54, zi_65, zi_108, zi_33, zi_67w1, zi_67w2, zi_129, zi_0, zi_0n, zi_218, zi_291, zi_47n, zi_47r, zi_48, zi_63, zi_17, zi_199, zi_292, zi_293, zi_294, zi_3i, zi_3r, zi_295, F.t100, F.r100_6, F.t105, F.l105, kC_eq, toL_s, toL_n, okS0, okS1, okS2, okS3, okS4, okS5, true_and, and_true, hT_wI, hL_wI, hR_wI, hI_wI, hJ_wI, sI_wI, rfP, isIA_100, isIA_120, inb_ok, nI_clamp, nI_add, nI_mul, ↓reduceIte, not_false_eq_true, not_true_eq_false, true_or, or_true, ↓bI_01, ↓b01_0, ↓b01_1, bI_0, z00, z10, n4, n5, n2, n8, Nat.reduceMul, Nat.reduceAdd, Nat.reduceLT, Nat.reduceLeDiff, e_noSheet, hb, e_outside, hz, sR_wI]
    · have F' : FR (sR h 105 s none) := F.of (fun a ha => ⟨rfl, rfl⟩) (fun a k h1 h2 h3 => by rw [hR_sRn (by omega)])
      have hl := zero_loop (f := up2 (up2 f 246 s (Int32.ofInt (-1))) 247 s (nI 0)) F' s s4 (Int32.ofInt (-1)) v 30 Q 40 0 rfl
      rw [zJ_0] at hl
      simp -implicitDefEqProofs (disch := first | omega | (simp (disch := omega) only [nb_upr]; omega)) only [R_1363, w_1363_0, w_1363_2, w_1363_3, w_1363_5, zi_88, zi_505, zi_66, zi_34, zi_37, zi_54, zi_362, zi_547, zi_63, zi_17, zi_72, zi_33, zi_67w1, zi_67w2, zi_548, zi_385, zi_293, zi_0, zi_0n, zi_506, zi_38, zi_508, zi_549, zi_31, zi_224, zi_206, zi_74i, zi_74r, zi_74u, zi_74a, zi_237, zi_76, zi_230, zi_509, zi_79, zi_70, zi_264, zi_299, zi_85i, zi_85r, zi_85u, zi_85a, zi_236, zi_48, F'.t233, F'.r233_24, F'.t246, F'.l246, F'.r233_25, F'.t247, F'.l247, kC_eq, toL_s, toL_n, okS0, okS1, okS2, okS3, okS4, okS5, true_and, and_true, hT_wI, hL_wI, hR_wI, hI_wI, hJ_wI, sI_wI, rfP, isIA_100, isIA_120, inb_ok, nI_clamp, nI_add, nI_mul, ↓reduceIte, not_false_eq_true, not_true_eq_false, true_or, or_true, ↓bI_01, ↓b01_0, ↓b01_1, bI_0, z00, z10, n4, n5, n2, n8, Nat.reduceMul, Nat.reduceAdd, Nat.reduceLT, Nat.reduceLeDiff, e_isShelf, hb, e_in, hz, neg]
      exact hl
    · exact F.of (fun a ha => ⟨rfl, rfl⟩) (fun a k h1 h2 h3 => by rw [hR_zJ, hR_sRn (by omega)])
    · rw [rv_eq (g := f) (fun a k h1 h2 => off a k (by omega) (by omega))]; exact V.mono (by omega)
    · rw [rv_eq (g := f) (fun a k h1 h2 => off a k (by omega) (by omega)), rm_eq (g := f) (by funext k; exact off 234 k (by omega) (by omega)), em]
    · refine hs.chg (s := s) o (fun q _ g => by rw [hR_zJ, hR_sRn (by omega)]) (fun q _ g => ⟨by simp (disch := omega) only [up2_out], by simp (disch := omega) only [up2_out]⟩) (fun q hq g k hk => by rw [hJ_zJ, if_neg (by omega)]; rfl) (fun q c l hq g h1 h2 k hk => ?_) (fun _ => Or.inl ⟨by rw [hR_zJ, hR_sRe], by rw [up2_out (by omega), up2_same]⟩) (fun q c c' hq g h1 h2 => by rw [hR_zJ, hR_sRe] at h1; cases h1)
      rcases hs.2.1 q hq with ⟨z1, -⟩ | ⟨c2, l2, t, m, z1, z2, -⟩
      · rw [z1] at h1; cases h1
      · rw [z1] at h1; cases h1
        rw [z2.2.2.2.2.2.1] at h2; cases h2
        have := z2.2.2.2.2.2.2.1
        rw [hJ_zJ, if_neg (by omega)]; rfl
    · show hN h ≤ hN h + 2; omega
    · show hU h ≤ hU h + 60; omega
    · show hN h ≤ hN h; omega
    · show hU h ≤ hU h; omega
  · have nneg : ¬ nI t < (0 : Int32) := nI_pos (by omega)
    have nm1 : ¬ nI t = Int32.ofInt (-1) := fun z => nneg (by rw [z]; decide)
    by_cases h40 : v ≤ nI 40
    · by_cases h0 : 0 ≤ v
      · obtain ⟨m, -, hm, rfl⟩ := btw (v := v) (a := 0) (c := 40) (by decide) (by decide) (fun z => z.elim (fun y => absurd y (Int32.not_lt.mpr h0)) (fun y => absurd y (Int32.not_lt.mpr h40)))
        have off : ∀ a k, a < 253 → ¬ a = 246 → ¬ a = 247 → up2 (up2 (nf (up2 (nf f (hN h)) (hN h) 0 (nI t)) (hN h + 1)) 246 s (nI t)) 247 s (nI m) a k = f a k := fun a k h0 h1 h2 => by
          simp (disch := omega) only [up2_out, nf_ne]
        have offN : ∀ a k, 253 ≤ a → a < hN h → up2 (up2 (nf (up2 (nf f (hN h)) (hN h) 0 (nI t)) (hN h + 1)) 246 s (nI t)) 247 s (nI m) a k = f a k := fun a k h0 h1 => by
          simp (disch := omega) only [up2_out, nf_ne]
        have F' : FR (sR (sR (nC (nC h 8 2) 102 m) (hN h) 1 (some (hN h + 1))) 105 s (some (hN h))) := F.of (fun a ha => ⟨by rw [hT_sR, hT_sR, hT_nCn (by rw [hN_nC]; omega), hT_nCn (by omega)], by rw [hL_sR, hL_sR, hL_nCn (by rw [hN_nC]; omega), hL_nCn (by omega)]⟩) (fun a k h1 h2 h3 => by rw [hR_sRn (by omega), hR_sRn (by omega), hR_nCn (by rw [hN_nC]; omega), hR_nCn (by omega)])
        have o : OLD h (zJ (sR (sR (nC (nC h 8 2) 102 m) (hN h) 1 (some (hN h + 1))) 105 s (some (hN h))) s 40) f (up2 (up2 (nf (up2 (nf f (hN h)) (hN h) 0 (nI t)) (hN h + 1)) 246 s (nI t)) 247 s (nI m)) :=
          ⟨by show hN h ≤ hN h + 1 + 1; omega, fun a h1 h2 => ⟨by rw [hT_zJ, hT_sR, hT_sR, hT_nCn (by rw [hN_nC]; omega), hT_nCn (by omega)], by rw [hL_zJ, hL_sR, hL_sR, hL_nCn (by rw [hN_nC]; omega), hL_nCn (by omega)], fun k => by rw [hR_zJ, hR_sRn (by omega), hR_sRn (by omega), hR_nCn (by rw [hN_nC]; omega), hR_nCn (by omega)], offN a 0 h1 h2⟩⟩
        have jj : ∀ b j, ¬ b = hN h → ¬ b = hN h + 1 → ¬ (b = 248 ∧ 40 * s ≤ j ∧ j < 40 * s + 40) → hJ (zJ (sR (sR (nC (nC h 8 2) 102 m) (hN h) 1 (some (hN h + 1))) 105 s (some (hN h))) s 40) b j = hJ h b j := fun b j h1 h2 h3 => by
          rw [hJ_zJ, if_neg h3, hJ_sR, hJ_sR, hJ_nCn (by rw [hN_nC]; exact h2), hJ_nCn h1]
        refine ⟨.int (nI 1), wI (sR (sR (nC (nC h 8 2) 102 m) (hN h) 1 (some (hN h + 1))) 105 s (some (hN h))) (nf (up2 (nf f (hN h)) (hN h) 0 (nI t)) (hN h + 1)), zJ (sR (sR (nC (nC h 8 2) 102 m) (hN h) 1 (some (hN h + 1))) 105 s (some (hN h))) s 40, up2 (up2 (nf (up2 (nf f (hN h)) (hN h) 0 (nI t)) (hN h + 1)) 246 s (nI t)) 247 s (nI m), fun Q => ?_, fun Q => ?_, ⟨?_, TB_of (fun a k ha => off a k (by omega) (by omega) (by omega)) T, ?_, ?_, (hk.of (fun a k ha => off a k (by unfold kK at ha; omega) (by unfold kK at ha; omega) (by unfold kK at ha; omega))).mono (by omega), ht.of (fun a k ha => off a k (by unfold kT at ha; omega) (by unfold kT at ha; omega) (by unfold kT at ha; omega)), hr.of (fun a k ha => off a k (by unfold kR at ha; omega) (by unfold kR at ha; omega) (by unfold kR at ha; omega)), he.of (fun a k ha => off a k (by unfold kE at ha; omega) (by unfold kE at ha; omega) (by unfold kE at ha; omega)), ?_, hv.chg o (fun a k ha => off a k (by omega) (by omega) (by omega)) (fun q => by rw [hR_zJ, hR_sRn (by omega), hR_sRn (by omega), hR_nCn (by rw [hN_nC]; omega), hR_nCn (by omega)])⟩, ⟨fun a k ha => off a k (by omega) (by omega) (by omega), ?_, ?_, ?_, ?_, ?_, ?_⟩⟩
        · rw [← newSheet F h253 s t m s4 (by omega) hm Q]
          simp -implicitDefEqProofs (disch := first | omega | (simp (disch := omega) only [nb_upr]; omega)) only [R_499, w_499_0, w_499_2, w_499_3, w_499_4, zi_88, zi_217, zi_98, zi_34, zi_37, zi_54, zi_65, zi_108, zi_33, zi_67w1, zi_67w2, zi_129, zi_0, zi_0n, zi_218, zi_291, zi_47n, zi_47r, zi_48, zi_63, zi_17, zi_199, zi_292, zi_293, zi_294, zi_3i, zi_3r, zi_295, kC_eq, toL_s, toL_n, okS0, okS1, okS2, okS3, okS4, okS5, true_and, and_true, hT_wI, hL_wI, hR_wI, hI_wI, hJ_wI, sI_wI, rfP, isIA_100, isIA_120, inb_ok, nI_clamp, nI_add, nI_mul, ↓reduceIte, not_false_eq_true, not_true_eq_false, true_or, or_true, ↓bI_01, ↓b01_0, ↓b01_1, bI_0, z00, z10, n4, n5, n2, n8, Nat.reduceMul, Nat.reduceAdd, Nat.reduceLT, Nat.reduceLeDiff, e_noSheet, hb, e_outside, hz, nm1, h40, h0]
        · have hl := zero_loop (f := up2 (up2 (nf (up2 (nf f (hN h)) (hN h) 0 (nI t)) (hN h + 1)) 246 s (nI t)) 247 s (nI m)) F' s s4 (nI t) (nI m) 30 Q 40 0 rfl
          rw [zJ_0] at hl
          have p0 : (0 ≤ nI t) = True := eq_true (nI_pos' (by omega))
          simp -implicitDefEqProofs (disch := first | omega | (simp (disch := omega) only [nb_upr]; omega)) only [R_1363, w_1363_0, w_1363_2, w_1363_3, w_1363_4, w_1363_5, zi_88, zi_505, zi_66, zi_34, zi_37, zi_54, zi_362, zi_547, zi_63, zi_17, zi_72, zi_33, zi_67w1, zi_67w2, zi_548, zi_385, zi_293, zi_0, zi_0n, zi_506, zi_38, zi_508, zi_549, zi_31, zi_224, zi_206, zi_74i, zi_74r, zi_74u, zi_74a, zi_237, zi_76, zi_230, zi_509, zi_79, zi_70, zi_264, zi_299, zi_85i, zi_85r, zi_85u, zi_85a, zi_236, zi_48, F'.t233, F'.r233_24, F'.t246, F'.l246, F'.r233_25, F'.t247, F'.l247, kC_eq, toL_s, toL_n, okS0, okS1, okS2, okS3, okS4, okS5, true_and, and_true, hT_wI, hL_wI, hR_wI, hI_wI, hJ_wI, sI_wI, rfP, isIA_100, isIA_120, inb_ok, nI_clamp, nI_add, nI_mul, ↓reduceIte, not_false_eq_true, not_true_eq_false, true_or, or_true, ↓bI_01, ↓b01_0, ↓b01_1, bI_0, z00, z10, n4, n5, n2, n8, Nat.reduceMul, Nat.reduceAdd, Nat.reduceLT, Nat.reduceLeDiff, e_isShelf, hb, e_in, hz, nneg, h40, h0, p0]
          exact hl
        · exact F'.of (fun a ha => ⟨rfl, rfl⟩) (fun a k h1 h2 h3 => rfl)
        · rw [rv_eq (g := f) (fun a k h1 h2 => off a k (by omega) (by omega) (by omega))]; exact V.mono (by omega)
        · rw [rv_eq (g := f) (fun a k h1 h2 => off a k (by omega) (by omega) (by omega)), rm_eq (g := f) (by funext k; exact off 234 k (by omega) (by omega) (by omega)), em]
        · have cl : ∀ q c l, q < 4 → hR h 105 q = some c → hR h c 1 = some l → 253 ≤ l ∧ l < hN h := by
            intro q c l hq h1 h2
            rcases hs.2.1 q hq with ⟨z1, -⟩ | ⟨c2, l2, t, m, z1, z2, -⟩
            · rw [z1] at h1; cases h1
            · rw [z1] at h1; cases h1
              rw [z2.2.2.2.2.2.1] at h2; cases h2
              exact ⟨z2.2.2.2.2.2.2.1, z2.2.2.2.2.2.2.2.1⟩
          refine hs.chg (s := s) o (fun q _ g => by rw [hR_zJ, hR_sRn (by omega), hR_sRn (by omega), hR_nCn (by rw [hN_nC]; omega), hR_nCn (by omega)]) (fun q _ g => ?_) (fun q hq g k hk => jj _ _ (by omega) (by omega) (by omega)) (fun q c l hq g h1 h2 k hk => ?_) (fun _ => Or.inr ⟨hN h, hN h + 1, t, m, by rw [hR_zJ, hR_sRe], ⟨h253, by show hN h < hN h + 1 + 1; omega, ?_, ?_, by omega, ?_, by omega, by show hN h + 1 < hN h + 1 + 1; omega, ?_, ?_, hm⟩, ?_, ?_, fun k hk => ?_⟩) (fun q c c' hq g h1 h2 => ?_)
          · constructor
            · simp (disch := omega) only [up2_out, nf_ne]
            · simp (disch := omega) only [up2_out, nf_ne]
          · have := cl q c l hq h1 h2
            exact jj _ _ (by omega) (by omega) (by omega)
          · rw [hT_zJ, hT_sR, hT_sR, hT_nCn (by rw [hN_nC]; omega), hT_nCe]
          · rw [up2_out (by omega), up2_out (by omega), nf_ne (by omega), up2_same]
          · rw [hR_zJ, hR_sRn (by omega), hR_sRe]
          · rw [hT_zJ, hT_sR, hT_sR]; exact hT_nCe (nC h 8 2) 102 m
          · rw [hL_zJ, hL_sR, hL_sR, hL_nC, if_pos (show hN h + 1 = hN (nC h 8 2) from rfl)]
          · rw [up2_out (by omega), up2_same]
          · rw [up2_same]
          · rw [hJ_zJ, if_pos ⟨rfl, by omega, by omega⟩, hJ_zJ, if_neg (by omega), hJ_sR, hJ_sR, hJ_nC, if_pos (show hN h + 1 = hN (nC h 8 2) from rfl)]
            rfl
          · rw [hR_zJ, hR_sRe] at h1
            cases h1
            rw [hR_zJ, hR_sRn (by omega), hR_sRe]
            intro z
            have := cl q c' (hN h + 1) hq h2 z.symm
            omega
        · rw [hT_zJ, hT_sR, hT_sR, hT_nCn (by rw [hN_nC]; omega), hT_nCn (by omega)]
        · rw [hL_zJ, hL_sR, hL_sR, hL_nCn (by rw [hN_nC]; omega), hL_nCn (by omega)]
        · show hN h + 1 + 1 ≤ hN h + 2; omega
        · show hU h + 2 + m ≤ hU h + 60; omega
        · show hN h ≤ hN h + 1 + 1; omega
        · show hU h ≤ hU h + 2 + m; omega
      · have p0 : (0 ≤ nI t) = True := eq_true (nI_pos' (by omega))
        exact same (.int (Int32.ofInt (-14))) (fun Q => by simp -implicitDefEqProofs (disch := first | omega | (simp (disch := omega) only [nb_upr]; omega)) only [R_499, w_499_0, w_499_2, w_499_3, w_499_4, zi_88, zi_217, zi_98, zi_34, zi_37, zi_54, zi_65, zi_108, zi_33, zi_67w1, zi_67w2, zi_129, zi_0, zi_0n, zi_218, zi_291, zi_47n, zi_47r, zi_48, zi_63, zi_17, zi_199, zi_292, zi_293, zi_294, zi_3i, zi_3r, zi_295, kC_eq, toL_s, toL_n, okS0, okS1, okS2, okS3, okS4, okS5, true_and, and_true, hT_wI, hL_wI, hR_wI, hI_wI, hJ_wI, sI_wI, rfP, isIA_100, isIA_120, inb_ok, nI_clamp, nI_add, nI_mul, ↓reduceIte, not_false_eq_true, not_true_eq_false, true_or, or_true, ↓bI_01, ↓b01_0, ↓b01_1, bI_0, z00, z10, n4, n5, n2, n8, Nat.reduceMul, Nat.reduceAdd, Nat.reduceLT, Nat.reduceLeDiff, e_noSheet, hb, e_outside, hz, nm1, h40, h0]) (fun Q => by simp -implicitDefEqProofs (disch := first | omega | (simp (disch := omega) only [nb_upr]; omega)) only [R_1363, w_1363_0, w_1363_2, zi_88, zi_505, zi_66, zi_34, zi_37, zi_54, zi_362, zi_547, zi_63, zi_17, zi_72, zi_33, zi_67w1, zi_67w2, zi_548, zi_385, zi_293, zi_0, zi_0n, zi_506, zi_38, zi_508, zi_549, zi_31, zi_224, zi_206, zi_74i, zi_74r, zi_74u, zi_74a, zi_237, zi_76, zi_230, zi_509, zi_79, zi_70, zi_264, zi_299, zi_85i, zi_85r, zi_85u, zi_85a, zi_236, zi_48, kC_eq, toL_s, toL_n, okS0, okS1, okS2, okS3, okS4, okS5, true_and, and_true, hT_wI, hL_wI, hR_wI, hI_wI, hJ_wI, sI_wI, rfP, isIA_100, isIA_120, inb_ok, nI_clamp, nI_add, nI_mul, ↓reduceIte, not_false_eq_true, not_true_eq_false, true_or, or_true, ↓bI_01, ↓b01_0, ↓b01_1, bI_0, z00, z10, n4, n5, n2, n8, Nat.reduceMul, Nat.reduceAdd, Nat.reduceLT, Nat.reduceLeDiff, e_isShelf, hb, e_in, hz, nneg, h40, h0])
    · exact same (.int (Int32.ofInt (-1))) (fun Q => by simp -implicitDefEqProofs (disch := first | omega | (simp (disch := omega) only [nb_upr]; omega)) only [R_499, w_499_0, w_499_2, w_499_3, zi_88, zi_217, zi_98, zi_34, zi_37, zi_54, zi_65, zi_108, zi_33, zi_67w1, zi_67w2, zi_129, zi_0, zi_0n, zi_218, zi_291, zi_47n, zi_47r, zi_48, zi_63, zi_17, zi_199, zi_292, zi_293, zi_294, zi_3i, zi_3r, zi_295, kC_eq, toL_s, toL_n, okS0, okS1, okS2, okS3, okS4, okS5, true_and, and_true, hT_wI, hL_wI, hR_wI, hI_wI, hJ_wI, sI_wI, rfP, isIA_100, isIA_120, inb_ok, nI_clamp, nI_add, nI_mul, ↓reduceIte, not_false_eq_true, not_true_eq_false, true_or, or_true, ↓bI_01, ↓b01_0, ↓b01_1, bI_0, z00, z10, n4, n5, n2, n8, Nat.reduceMul, Nat.reduceAdd, Nat.reduceLT, Nat.reduceLeDiff, e_noSheet, hb, e_outside, hz, nm1, h40]) (fun Q => by simp -implicitDefEqProofs (disch := first | omega | (simp (disch := omega) only [nb_upr]; omega)) only [R_1363, w_1363_0, w_1363_1, zi_88, zi_505, zi_66, zi_34, zi_37, zi_54, zi_362, zi_547, zi_63, zi_17, zi_72, zi_33, zi_67w1, zi_67w2, zi_548, zi_385, zi_293, zi_0, zi_0n, zi_506, zi_38, zi_508, zi_549, zi_31, zi_224, zi_206, zi_74i, zi_74r, zi_74u, zi_74a, zi_237, zi_76, zi_230, zi_509, zi_79, zi_70, zi_264, zi_299, zi_85i, zi_85r, zi_85u, zi_85a, zi_236, zi_48, kC_eq, toL_s, toL_n, okS0, okS1, okS2, okS3, okS4, okS5, true_and, and_true, hT_wI, hL_wI, hR_wI, hI_wI, hJ_wI, sI_wI, rfP, isIA_100, isIA_120, inb_ok, nI_clamp, nI_add, nI_mul, ↓reduceIte, not_false_eq_true, not_true_eq_false, true_or, or_true, ↓bI_01, ↓b01_0, ↓b01_1, bI_0, z00, z10, n4, n5, n2, n8, Nat.reduceMul, Nat.reduceAdd, Nat.reduceLT, Nat.reduceLeDiff, e_isShelf, hb, e_in, hz, nneg, h40])
end
