section
/-! cells of which nothing is kept between calls -/
def scr (a k : Nat) : Bool := (a == 233 && ((Nat.ble 8 k && Nat.ble k 15) || k == 19 || (Nat.ble 30 k && Nat.ble k 32) || k == 35)) || a == 234 || a == 235 || a == 237 || (Nat.ble 240 a && Nat.ble a 243) || a == 245
def Sc (f f' : Nat → Nat → Int32) : Prop := ∀ a k, scr a k = false → f' a k = f a k
theorem Sc.refl (f : Nat → Nat → Int32) : Sc f f := fun _ _ _ => rfl
theorem Sc.trans {f g k : Nat → Nat → Int32} (h1 : Sc f g) (h2 : Sc g k) : Sc f k := fun a j h => (h2 a j h).trans (h1 a j h)
theorem Sc.up {f : Nat → Nat → Int32} {a k : Nat} {x : Int32} (h : scr a k = true) : Sc f (up2 f a k x) := fun b j hb => by
  unfold up2
  rw [if_neg]
  rintro ⟨rfl, rfl⟩
  rw [h] at hb; cases hb
theorem Sc.tb {f g : Nat → Nat → Int32} (h : Sc f g) (T : TB f) : TB g := by
  obtain ⟨t1, ⟨a1, a2, a3⟩, ⟨b1, b2, b3⟩, ⟨c1, c2, c3⟩, d1, d2, d3, d4, d5⟩ := T
  exact ⟨fun s hs => ⟨(h 5 s rfl).trans (t1 s hs).1, (h 238 s rfl).trans (t1 s hs).2⟩, ⟨(h 3 0 rfl).trans a1, (h 3 1 rfl).trans a2, (h 3 2 rfl).trans a3⟩, ⟨(h 4 0 rfl).trans b1, (h 4 1 rfl).trans b2, (h 4 2 rfl).trans b3⟩, ⟨(h 1 0 rfl).trans c1, (h 1 1 rfl).trans c2, (h 1 2 rfl).trans c3⟩, (h 2 0 rfl).trans d1, (h 2 1 rfl).trans d2, (h 2 2 rfl).trans d3, (h 2 3 rfl).trans d4, (h 2 4 rfl).trans d5⟩
/-- what hauls and bells use up: the reference's drifts, hauled, hauledWorth -/
def sc1 (a k : Nat) : Bool := a == 240 || (a == 233 && (k == 14 || k == 15))
def S1 (f f' : Nat → Nat → Int32) : Prop := ∀ a k, sc1 a k = false → f' a k = f a k
theorem S1.refl (f : Nat → Nat → Int32) : S1 f f := fun _ _ _ => rfl
theorem S1.trans {f g k : Nat → Nat → Int32} (h1 : S1 f g) (h2 : S1 g k) : S1 f k := fun a j h => (h2 a j h).trans (h1 a j h)
theorem S1.up {f : Nat → Nat → Int32} {a k : Nat} {x : Int32} (h : sc1 a k = true) : S1 f (up2 f a k x) := fun b j hb => by
  unfold up2
  rw [if_neg]
  rintro ⟨rfl, rfl⟩
  rw [h] at hb; cases hb
theorem S1.sc {f g : Nat → Nat → Int32} (h : S1 f g) : Sc f g := fun a k hk => h a k (by
  unfold scr at hk
  unfold sc1
  by_cases h1 : a = 240
  · subst h1; cases hk
  · by_cases h2 : a = 233
    · subst h2
      by_cases h3 : k = 14
      · subst h3; cases hk
      · by_cases h4 : k = 15
        · subst h4; cases hk
        · simp [h3, h4]
    · simp [h1, h2])
theorem S1.tb {f g : Nat → Nat → Int32} (h : S1 f g) (T : TB f) : TB g := h.sc.tb T
/-! the reference's haul -/
def hw (f : Nat → Nat → Int32) (x y : Int32) : Nat → Nat → Int32 := up2 (up2 f 233 14 x) 233 15 y
theorem hw_14 (f : Nat → Nat → Int32) (x y : Int32) : hw f x y 233 14 = x := by unfold hw; rw [up2_nk _ _ (by decide), up2_same]
theorem hw_15 (f : Nat → Nat → Int32) (x y : Int32) : hw f x y 233 15 = y := by unfold hw; rw [up2_same]
theorem hw_o {f : Nat → Nat → Int32} {x y : Int32} {a k : Nat} (h : ¬ a = 233) : hw f x y a k = f a k := by unfold hw; rw [up2_ne _ _ h, up2_ne _ _ h]
theorem hw_w14 (f : Nat → Nat → Int32) (x y z : Int32) : up2 (hw f x y) 233 14 z = hw f z y := by
  funext a k
  simp only [hw, up2]
  by_cases h1 : a = 233 ∧ k = 14
  · rw [if_pos h1, if_neg (by omega), if_pos h1]
  · rw [if_neg h1, if_neg h1, if_neg h1]
theorem hw_w15 (f : Nat → Nat → Int32) (x y z : Int32) : up2 (hw f x y) 233 15 z = hw f x z := by
  funext a k
  simp only [hw, up2]
  by_cases h1 : a = 233 ∧ k = 15
  · rw [if_pos h1, if_pos h1]
  · rw [if_neg h1, if_neg h1, if_neg h1]
theorem S1.hw (f : Nat → Nat → Int32) (x y : Int32) : S1 f (hw f x y) := (S1.up (a := 233) (k := 14) rfl).trans (S1.up (a := 233) (k := 15) rfl)
theorem Sc.hw (f : Nat → Nat → Int32) (x y : Int32) : Sc f (hw f x y) := (S1.hw f x y).sc
theorem held_cl9 {x : Int32} (h : ∃ m : Nat, m < 2 ^ 31 ∧ x = nI m) : (if x < nI 0 then nI 0 else if nI 9 < x then nI 9 else x) = cl9 x := by
  obtain ⟨m, hm, rfl⟩ := h
  unfold cl9
  have h0 : ¬ nI m < nI 0 := fun z => by have := (nI_ltI hm (by decide)).mp z; omega
  rw [if_neg h0]
  by_cases h1 : 9 < m
  · rw [if_pos ((nI_ltI (by decide) hm).mpr h1), if_neg (fun z => by have := (nI_ltI hm (by decide)).mp z; omega)]
  · rw [if_neg (fun z => h1 ((nI_ltI (by decide) hm).mp z))]
    by_cases h2 : m < 9
    · rw [if_pos ((nI_ltI hm (by decide)).mpr h2)]
    · rw [if_neg (fun z => h2 ((nI_ltI hm (by decide)).mp z)), show m = 9 by omega]
theorem hauls_4 {d : Nat} {h : PH} {f : Nat → Nat → Int32} {ρ : Nat → Int32} {Q : Option Value → PH → Prop} (F : FR h) (β a k s : Nat) (hβ : β < nb ρ) (h6 : β < 6) (ha : a < 8) (hk : k < 6) (hs : s < 5) (e2 : ρ (76 + 10 * β) = nI k) (hd : 3 ≤ d) (A W v : Int32) (v4 : Value)
    (ht : ∃ m : Nat, m < 2 ^ 31 ∧ ρ (80 + 10 * β) + tear k (ρ (77 + 10 * β)) (ρ (79 + 10 * β)) = nI m) :
    WP d 1009 4 [.ref 233, .int (nI β), .int (nI a), .int (nI s), v4] [.int v] (wI h (mw (hw f A W) 234 ρ)) Q = WP d 1009 2 [.ref 233, .int (nI β), .int (nI a), .int (nI (s + 1)), .int v] [] (wI h (mw (hw f (A + v) (W + v * ρ (7 + s))) 234 (if s = 4 ∧ ¬ v ≤ 0 then dgT (dg2 ρ β a s v) β k else dg2 ρ β a s v))) Q := by
  have et := fun (d : Nat) (hd : 1 ≤ d) (x y : Int32) (f : Nat → Nat → Int32) (Q : Option Value → PH → Prop) => e_tearsOf (d := d) (h := h) (f := f) (r := upr (upr ρ (12 + 7 * a + s) x) (81 + 10 * β + s) y) (Q := Q) F β k (by rw [nb_upr (by omega), nb_upr (by omega)]; exact hβ) h6 hk (by rw [upr_ne _ _ (by omega), upr_ne _ _ (by omega)]; exact e2) hd
  simp (disch := first | omega | (simp (disch := omega) only [nb_upr]; omega)) only [w_1009_4, w_1009_5, zi_0, zi_0n, zi_31, zi_471, zi_472, zi_88, zi_468, zi_98, zi_41, zi_51, zi_459, zi_32i, zi_32r, zi_32u, zi_32a, zi_111i, zi_111r, zi_111u, zi_111a, zi_113, zi_63, zi_59, zi_195, zi_473, zi_106, zi_54, zi_137, zi_461, zi_131, zi_133, zi_74i, zi_74r, zi_74u, zi_74a, zi_34, zi_453, zi_76, zi_101, zi_474, zi_70, zi_457, zi_3i, zi_3r, zi_470, zi_475, zi_357, zi_123, zi_79, zi_9, zi_200, zi_476, zi_466, zi_130, zi_477, zi_206, zi_158i, zi_158r, zi_158u, zi_158a, zi_112, zi_42, zi_361, zi_238, zi_48, zi_436i, zi_436l, zi_38, F.t233, F.r233_4, F.t238, F.l238, F.r233_0, F.t234, F.l234, kC_eq, toL_s, toL_n, okS0, okS1, okS2, okS3, okS4, okS5, true_and, and_true, hT_wI, hL_wI, hR_wI, hI_wI, hJ_wI, sI_wI, rfP, isIA_100, isIA_120, inb_ok, nI_clamp, nI_add, nI_mul, ↓reduceIte, not_false_eq_true, not_true_eq_false, true_or, or_true, ↓bI_01, ↓b01_0, ↓b01_1, bI_0, z00, z10, n4, n5, n2, n8, Nat.reduceMul, Nat.reduceAdd, Nat.reduceLT, Nat.reduceLeDiff, nI_eq, nI_leI, nI_ltI, Nat.reduceEqDiff, pk_div, nI_sub, Nat.reduceDiv, Nat.reduceSub, e_at F, e_setsAt F, e_itsh F, e_setsh F, e_its4 F, e_sets4 F, e_held, et, mw_out, mw_up2, hw_14, hw_15, hw_w14, hw_w15, mw_r, upr_ne]
  unfold dgT dg2
  by_cases h4 : s = 4
  · subst h4
    by_cases hv : v ≤ 0
    · simp only [hv, ↓reduceIte, not_true_eq_false, and_false]
    · simp only [hv, ↓reduceIte, not_false_eq_true, and_self]
      simp (disch := first | omega | (simp (disch := omega) only [nb_upr]; omega)) only [held_cl9 ht, upr_ne]
  · simp only [h4, ↓reduceIte, false_and]
theorem hauls_loop {d : Nat} {h : PH} {f : Nat → Nat → Int32} {r : Nat → Int32} {Q : Option Value → PH → Prop} {n : Nat} (F : FR h) (T : TB f) (V : Vr n r) (β a k : Nat) (hβ : β < nb r) (h6 : β < 6) (ha : a < 8) (hk : k < 6) (e1 : r (78 + 10 * β) = nI a) (e2 : r (76 + 10 * β) = nI k) (hd : 3 ≤ d) :
    ∀ (j s : Nat) (v4 : Value), s + j = 5 → WP d 1009 2 [.ref 233, .int (nI β), .int (nI a), .int (nI s), v4] [] (wI h (mw (hw f (dga r β a k s) (dgw r β a k s)) 234 (dgr r β a k s))) Q = Q none (wI h (mw (hw f (dga r β a k 5) (dgw r β a k 5)) 234 (dgE (dgr r β a k 5) a (dga r β a k 5))))
  | 0, s, v4, hs => by
    obtain rfl : s = 5 := by omega
    obtain ⟨k1, k2, k3, k4, k5, k6, k7⟩ := dgr_keep (r := r) (β := β) (a := a) (k := k) ha (Nat.le_refl 5)
    have x1 : 68 + a / 2 * 2 = 68 + 2 * (a / 2) := by omega
    have x2 : 68 + 2 * (a / 2) + 1 = 69 + 2 * (a / 2) := by omega
    rw [w_1009_2]
    simp (disch := first | omega | (simp (disch := omega) only [nb_upr]; omega)) only [w_1009_6, zi_0, zi_0n, zi_31, zi_471, zi_472, zi_88, zi_468, zi_98, zi_41, zi_51, zi_459, zi_32i, zi_32r, zi_32u, zi_32a, zi_111i, zi_111r, zi_111u, zi_111a, zi_113, zi_63, zi_59, zi_195, zi_473, zi_106, zi_54, zi_137, zi_461, zi_131, zi_133, zi_74i, zi_74r, zi_74u, zi_74a, zi_34, zi_453, zi_76, zi_101, zi_474, zi_70, zi_457, zi_3i, zi_3r, zi_470, zi_475, zi_357, zi_123, zi_79, zi_9, zi_200, zi_476, zi_466, zi_130, zi_477, zi_206, zi_158i, zi_158r, zi_158u, zi_158a, zi_112, zi_42, zi_361, zi_238, zi_48, zi_436i, zi_436l, zi_38, F.t233, F.r233_4, F.t238, F.l238, F.r233_0, F.t234, F.l234, kC_eq, toL_s, toL_n, okS0, okS1, okS2, okS3, okS4, okS5, true_and, and_true, hT_wI, hL_wI, hR_wI, hI_wI, hJ_wI, sI_wI, rfP, isIA_100, isIA_120, inb_ok, nI_clamp, nI_add, nI_mul, ↓reduceIte, not_false_eq_true, not_true_eq_false, true_or, or_true, ↓bI_01, ↓b01_0, ↓b01_1, bI_0, z00, z10, n4, n5, n2, n8, Nat.reduceMul, Nat.reduceAdd, Nat.reduceLT, Nat.reduceLeDiff, nI_eq, nI_leI, nI_ltI, Nat.reduceEqDiff, pk_div, nI_sub, Nat.reduceDiv, Nat.reduceSub, Nat.le_refl, e_at6 F, e_setsAt6 F, mw_out, hw_14, mw_r, mw_w, x1, x2, upr_ne]
    rfl
  | j + 1, s, v4, hs => by
    have ih := fun v4 => hauls_loop (Q := Q) F T V β a k hβ h6 ha hk e1 e2 hd j (s + 1) v4 (by omega)
    have hg : ¬ 5 ≤ s := by omega
    have hs5 : s < 5 := by omega
    obtain ⟨k1, k2, k3, k4, k5, k6, k7⟩ := dgr_keep (r := r) (β := β) (a := a) (k := k) (n := s) ha (by omega)
    have VV := Vr_dgr V hβ ha hk s (by omega)
    have T5 : f 238 s = szI s := (T.1 s hs5).2
    have a1 : dga r β a k (s + 1) = dga r β a k s + tkV (dgr r β a k s) β a k s := rfl
    have a2 : dgr r β a k (s + 1) = dg1 (dgr r β a k s) β a k s := rfl
    have a3 : dgw r β a k (s + 1) = dgw r β a k s + tkV (dgr r β a k s) β a k s * dgr r β a k s (7 + s) := by
      rw [dgr_out (by omega) s (fun j hj => by omega)]; rfl
    rw [a1, a2, a3] at ih
    generalize dgr r β a k s = ρ at *
    generalize dga r β a k s = A at *
    generalize dgw r β a k s = W at *
    rw [← k6] at hβ
    rw [← k3] at e1
    rw [← k1] at e2
    have ht : ∃ m : Nat, m < 2 ^ 31 ∧ ρ (80 + 10 * β) + tear k (ρ (77 + 10 * β)) (ρ (79 + 10 * β)) = nI m := by
      obtain ⟨t, ht, et⟩ := VV.t hβ
      obtain ⟨m, hm, em⟩ := VV.m hβ
      obtain ⟨e, he, ee⟩ := VV.e hβ
      obtain ⟨c, hc, ec⟩ := tear_n (e := e) hk hm
      exact ⟨t + c, by omega, by rw [et, em, ee, ec, nI_add]⟩
    have x4 := fun v => hauls_4 (d := d) (h := h) (f := f) (ρ := ρ) (Q := Q) F β a k s hβ h6 ha hk hs5 e2 hd A W v v4 ht
    unfold dg1 at ih
    rw [w_1009_2]
    simp (disch := first | omega | (simp (disch := omega) only [nb_upr]; omega)) only [w_1009_3, zi_0, zi_0n, zi_31, zi_471, zi_472, zi_88, zi_468, zi_98, zi_41, zi_51, zi_459, zi_32i, zi_32r, zi_32u, zi_32a, zi_111i, zi_111r, zi_111u, zi_111a, zi_113, zi_63, zi_59, zi_195, zi_473, zi_106, zi_54, zi_137, zi_461, zi_131, zi_133, zi_74i, zi_74r, zi_74u, zi_74a, zi_34, zi_453, zi_76, zi_101, zi_474, zi_70, zi_457, zi_3i, zi_3r, zi_470, zi_475, zi_357, zi_123, zi_79, zi_9, zi_200, zi_476, zi_466, zi_130, zi_477, zi_206, zi_158i, zi_158r, zi_158u, zi_158a, zi_112, zi_42, zi_361, zi_238, zi_48, zi_436i, zi_436l, zi_38, F.t233, F.r233_4, F.t238, F.l238, F.r233_0, F.t234, F.l234, kC_eq, toL_s, toL_n, okS0, okS1, okS2, okS3, okS4, okS5, true_and, and_true, hT_wI, hL_wI, hR_wI, hI_wI, hJ_wI, sI_wI, rfP, isIA_100, isIA_120, inb_ok, nI_clamp, nI_add, nI_mul, ↓reduceIte, not_false_eq_true, not_true_eq_false, true_or, or_true, ↓bI_01, ↓b01_0, ↓b01_1, bI_0, z00, z10, n4, n5, n2, n8, Nat.reduceMul, Nat.reduceAdd, Nat.reduceLT, Nat.reduceLeDiff, nI_eq, nI_leI, nI_ltI, Nat.reduceEqDiff, pk_div, nI_sub, Nat.reduceDiv, Nat.reduceSub, hg, mw_out, hw_o, T5, e_its3 F hβ h6, e_takesOf F β a k s hβ h6 ha hk hs5 e1 e2, x4]
    by_cases hc : szI s < ρ (79 + 10 * β)
    · have c2 : tkV ρ β a k s = nI 0 := if_pos hc
      simp only [hc, ↓reduceIte]
      rw [c2] at ih
      exact ih _
    · have c2 : tkV ρ β a k s = tk ρ β a k s := if_neg hc
      simp only [hc, ↓reduceIte]
      rw [c2] at ih
      exact ih _
theorem e_hauls {d : Nat} {h : PH} {f : Nat → Nat → Int32} {r : Nat → Int32} {Q : Option Value → PH → Prop} {n : Nat} (F : FR h) (T : TB f) (V : Vr n r) (β a k : Nat) (hβ : β < nb r) (h6 : β < 6) (ha : a < 8) (hk : k < 6) (e1 : r (78 + 10 * β) = nI a) (e2 : r (76 + 10 * β) = nI k) (hd : 3 ≤ d) :
    Run d 1009 [.ref 233, .int (nI β)] (wI h (mw f 234 r)) Q = Q none (wI h (mw (hw f (hlA r β a k) (hlW r β a k)) 234 (hlR r β a k))) := by
  have eh : up2 (up2 f 233 14 (nI 0)) 233 15 (nI 0) = hw f (nI 0) (nI 0) := rfl
  simp (disch := first | omega | (simp (disch := omega) only [nb_upr]; omega)) only [R_1009, w_1009_0, w_1009_1, zi_0, zi_0n, zi_31, zi_471, zi_472, zi_88, zi_468, zi_98, zi_41, zi_51, zi_459, zi_32i, zi_32r, zi_32u, zi_32a, zi_111i, zi_111r, zi_111u, zi_111a, zi_113, zi_63, zi_59, zi_195, zi_473, zi_106, zi_54, zi_137, zi_461, zi_131, zi_133, zi_74i, zi_74r, zi_74u, zi_74a, zi_34, zi_453, zi_76, zi_101, zi_474, zi_70, zi_457, zi_3i, zi_3r, zi_470, zi_475, zi_357, zi_123, zi_79, zi_9, zi_200, zi_476, zi_466, zi_130, zi_477, zi_206, zi_158i, zi_158r, zi_158u, zi_158a, zi_112, zi_42, zi_361, zi_238, zi_48, zi_436i, zi_436l, zi_38, F.t233, F.r233_4, F.t238, F.l238, F.r233_0, F.t234, F.l234, kC_eq, toL_s, toL_n, okS0, okS1, okS2, okS3, okS4, okS5, true_and, and_true, hT_wI, hL_wI, hR_wI, hI_wI, hJ_wI, sI_wI, rfP, isIA_100, isIA_120, inb_ok, nI_clamp, nI_add, nI_mul, ↓reduceIte, not_false_eq_true, not_true_eq_false, true_or, or_true, ↓bI_01, ↓b01_0, ↓b01_1, bI_0, z00, z10, n4, n5, n2, n8, Nat.reduceMul, Nat.reduceAdd, Nat.reduceLT, Nat.reduceLeDiff, nI_eq, nI_leI, nI_ltI, Nat.reduceEqDiff, pk_div, nI_sub, Nat.reduceDiv, Nat.reduceSub, mw_up2, eh, e_mMay F β a hβ h6 ha e1, e_its2 F hβ h6, e1]
  unfold hlA hlW hlR
  by_cases hm : mayH r β a = 0
  · simp only [hm, ↓reduceIte]
  · simp only [hm, ↓reduceIte]
    exact hauls_loop F T V β a k hβ h6 ha hk e1 e2 hd 5 0 _ rfl
/-! casts and nights -/
def cstR (r : Nat → Int32) (β a k : Nat) : Nat → Int32 := if r 0 ≤ nI (dN (r 6) - dN (r 6) / 100 * 100) then hlR (upr r 6 (zn (r 6))) β a k else upr r 6 (zn (r 6))
def cstA (r : Nat → Int32) (β a k : Nat) : Int32 := if r 0 ≤ nI (dN (r 6) - dN (r 6) / 100 * 100) then hlA (upr r 6 (zn (r 6))) β a k else nI 0
theorem n100 : (nI 100 = (0 : Int32)) = False := eq_false (by decide)
theorem e_castNet (d b : Nat) (h : PH) (f : Nat → Nat → Int32) (r : Nat → Int32) (F : FR h) (w : WB h b) (hb : 100 ≤ b) (T : TB f) (β a k : Nat) (hβ : β < nb r) (h6 : β < 6) (ha : a < 8) (hk : k < 6) (e1 : r (78 + 10 * β) = nI a) (e2 : r (76 + 10 * β) = nI k) (hd : 5 ≤ d) (Q : Option Value → PH → Prop) :
    Run d 1681 [.ref b, .int (nI β)] (wI h (ww f b r)) Q = Q (some (.int (cstA r β a k))) (wI h (ww f b (cstR r β a k))) := by
  have hz := dN_lt (r 6)
  have ed := fun (d : Nat) (hd : 4 ≤ d) (Q : Option Value → PH → Prop) => e_drag d b h f (upr r 6 (zn (r 6))) F w hb T β a k (by rw [nb_upr (by omega)]; exact hβ) h6 ha hk (by rw [upr_ne _ _ (by omega)]; exact e1) (by rw [upr_ne _ _ (by omega)]; exact e2) hd Q
  simp -implicitDefEqProofs (disch := first | omega | (simp (disch := omega) only [nb_upr]; omega)) only [R_1681, w_1681_0, w_1681_1, w_1681_2, zi_0, zi_0n, zi_621, zi_276, zi_196, zi_109, zi_31, zi_106, zi_186, zi_112, zi_88, zi_152, zi_113, zi_67w1, zi_67w2, w.t, w.r1, w.t1, w.l1, kC_eq, toL_s, toL_n, okS0, okS1, okS2, okS3, okS4, okS5, true_and, and_true, hT_wI, hL_wI, hR_wI, hI_wI, hJ_wI, sI_wI, rfP, isIA_100, isIA_120, inb_ok, nI_clamp, nI_add, nI_mul, ↓reduceIte, not_false_eq_true, not_true_eq_false, true_or, or_true, ↓bI_01, ↓b01_0, ↓b01_1, bI_0, z00, z10, n4, n5, n2, n8, Nat.reduceMul, Nat.reduceAdd, Nat.reduceLT, Nat.reduceLeDiff, nI_eq, nI_leI, nI_ltI, Nat.reduceEqDiff, pk_div, nI_sub, Nat.reduceDiv, Nat.reduceSub, n100, e_draw _ b h f r w, ww_1, upr_ne, ed]
  unfold cstA cstR
  by_cases hc : r 0 ≤ nI (dN (r 6) - dN (r 6) / 100 * 100)
  · simp only [hc, ↓reduceIte]
  · simp only [hc, ↓reduceIte]
theorem e_casts {d : Nat} {h : PH} {f : Nat → Nat → Int32} {r : Nat → Int32} {n : Nat} (F : FR h) (T : TB f) (V : Vr n r) (β a k : Nat) (hβ : β < nb r) (h6 : β < 6) (ha : a < 8) (hk : k < 6) (e1 : r (78 + 10 * β) = nI a) (e2 : r (76 + 10 * β) = nI k) (hd : 4 ≤ d) :
    ∃ f', S1 f f' ∧ ∀ Q, Run d 1073 [.ref 233, .int (nI β)] (wI h (mw f 234 r)) Q = Q (some (.int (cstA r β a k))) (wI h (mw f' 234 (cstR r β a k))) := by
  have hz := dN_lt (r 6)
  have V1 : Vr n (upr r 6 (zn (r 6))) := V.put (lim_lt (by decide)) (by decide) (by rw [okq_f (by decide)]; trivial)
  have es : S1 f (up2 f 233 14 (nI 0)) := S1.up rfl
  have ed := fun (d : Nat) (hd : 3 ≤ d) (Q : Option Value → PH → Prop) => e_hauls (d := d) (Q := Q) F (es.tb T) V1 β a k (by rw [nb_upr (by omega)]; exact hβ) h6 ha hk (by rw [upr_ne _ _ (by omega)]; exact e1) (by rw [upr_ne _ _ (by omega)]; exact e2) hd
  by_cases hc : r 0 ≤ nI (dN (r 6) - dN (r 6) / 100 * 100)
  · refine ⟨hw (up2 f 233 14 (nI 0)) (hlA (upr r 6 (zn (r 6))) β a k) (hlW (upr r 6 (zn (r 6))) β a k), es.trans (S1.hw _ _ _), fun Q => ?_⟩
    simp -implicitDefEqProofs (disch := first | omega | (simp (disch := omega) only [nb_upr]; omega)) only [R_1073, w_1073_0, w_1073_1, w_1073_2, w_1073_3, zi_0, zi_0n, zi_481, zi_276, zi_196, zi_357, zi_31, zi_106, zi_186, zi_48, zi_112, zi_113, zi_32i, zi_32r, zi_32u, zi_32a, zi_471, zi_34, zi_269, zi_88, zi_469, zi_75, zi_470, zi_67w1, zi_67w2, F.t233, F.r233_0, F.t234, F.l234, kC_eq, toL_s, toL_n, okS0, okS1, okS2, okS3, okS4, okS5, true_and, and_true, hT_wI, hL_wI, hR_wI, hI_wI, hJ_wI, sI_wI, rfP, isIA_100, isIA_120, inb_ok, nI_clamp, nI_add, nI_mul, ↓reduceIte, not_false_eq_true, not_true_eq_false, true_or, or_true, ↓bI_01, ↓b01_0, ↓b01_1, bI_0, z00, z10, n4, n5, n2, n8, Nat.reduceMul, Nat.reduceAdd, Nat.reduceLT, Nat.reduceLeDiff, nI_eq, nI_leI, nI_ltI, Nat.reduceEqDiff, pk_div, nI_sub, Nat.reduceDiv, Nat.reduceSub, n100, e_drawn F, mw_r, mw_up2, upr_ne, hc, ed, mw_out, hw_14]
    unfold cstA cstR
    simp only [hc, ↓reduceIte]
  · refine ⟨_, es, fun Q => ?_⟩
    have z1 : ¬ nI 1 = (0 : Int32) := by decide
    simp -implicitDefEqProofs (disch := first | omega | (simp (disch := omega) only [nb_upr]; omega)) only [R_1073, w_1073_0, w_1073_1, w_1073_2, w_1073_3, zi_0, zi_0n, zi_481, zi_276, zi_196, zi_357, zi_31, zi_106, zi_186, zi_48, zi_112, zi_113, zi_32i, zi_32r, zi_32u, zi_32a, zi_471, zi_34, zi_269, zi_88, zi_469, zi_75, zi_470, zi_67w1, zi_67w2, F.t233, F.r233_0, F.t234, F.l234, kC_eq, toL_s, toL_n, okS0, okS1, okS2, okS3, okS4, okS5, true_and, and_true, hT_wI, hL_wI, hR_wI, hI_wI, hJ_wI, sI_wI, rfP, isIA_100, isIA_120, inb_ok, nI_clamp, nI_add, nI_mul, ↓reduceIte, not_false_eq_true, not_true_eq_false, true_or, or_true, ↓bI_01, ↓b01_0, ↓b01_1, bI_0, z00, z10, n4, n5, n2, n8, Nat.reduceMul, Nat.reduceAdd, Nat.reduceLT, Nat.reduceLeDiff, nI_eq, nI_leI, nI_ltI, Nat.reduceEqDiff, pk_div, nI_sub, Nat.reduceDiv, Nat.reduceSub, n100, z1, e_drawn F, mw_r, mw_up2, upr_ne, hc, mw_out, up2_same]
    unfold cstA cstR
    simp only [hc, ↓reduceIte]
theorem Vr_cst {n β a k : Nat} {r : Nat → Int32} (V : Vr n r) (hβ : β < nb r) (ha : a < 8) (hk : k < 6) : Vr (n + 1) (cstR r β a k) := by
  have V1 : Vr n (upr r 6 (zn (r 6))) := V.put (lim_lt (by decide)) (by decide) (by rw [okq_f (by decide)]; trivial)
  unfold cstR
  split
  · exact Vr_hl V1 (by rw [nb_upr (by omega)]; exact hβ) ha hk
  · exact V1.mono (by omega)
theorem nb_cst {r : Nat → Int32} {β a k : Nat} : nb (cstR r β a k) = nb r := by
  unfold cstR
  split
  · rw [nb_hl, nb_upr (by omega)]
  · rw [nb_upr (by omega)]
/-- a night by draws: the row behind the first n boats, and how much -/
def kN (r : Nat → Int32) (β : Nat) : Nat := (r (76 + 10 * β)).toNatClampNeg
def aD (r : Nat → Int32) : Nat := dN (r 6) - dN (r 6) / 8 * 8
def nR0 (r : Nat → Int32) (β : Nat) : Nat → Int32 := upr (upr r 6 (zn (r 6))) (78 + 10 * β) (nI (aD r))
def ngR (r : Nat → Int32) : Nat → Nat → Int32
  | 0 => r
  | β + 1 => cstR (nR0 (ngR r β) β) β (aD (ngR r β)) (kN (ngR r β) β)
def ngA (r : Nat → Int32) : Nat → Int32
  | 0 => nI 0
  | β + 1 => ngA r β + cstA (nR0 (ngR r β) β) β (aD (ngR r β)) (kN (ngR r β) β)
theorem aD_lt (r : Nat → Int32) : aD r < 8 := by unfold aD; omega
theorem Vr.kn {n β : Nat} {r : Nat → Int32} (V : Vr n r) (hβ : β < nb r) : kN r β < 6 ∧ r (76 + 10 * β) = nI (kN r β) := by
  obtain ⟨k, hk, e⟩ := V.k hβ
  unfold kN
  rw [e, nI_clamp (by omega)]
  exact ⟨hk, rfl⟩
theorem Vr_nR0 {n β : Nat} {r : Nat → Int32} (V : Vr n r) (hβ : β < nb r) : Vr n (nR0 r β) := by
  have V1 : Vr n (upr r 6 (zn (r 6))) := V.put (lim_lt (by decide)) (by decide) (by rw [okq_f (by decide)]; trivial)
  unfold nR0
  refine V1.put ?_ (by omega) ?_
  · rw [lim_upr (by omega)]; have := V.lt hβ (show 2 < 10 by decide); omega
  · rw [okq_a]; exact ⟨aD r, by have := aD_lt r; omega, rfl⟩
theorem nb_nR0 {r : Nat → Int32} {β : Nat} : nb (nR0 r β) = nb r := by unfold nR0; rw [nb_upr (by omega), nb_upr (by omega)]
theorem nb_ngR {r : Nat → Int32} : ∀ β, nb (ngR r β) = nb r
  | 0 => rfl
  | β + 1 => by
    show nb (cstR _ _ _ _) = _
    rw [nb_cst, nb_nR0, nb_ngR β]
theorem nR0_k {r : Nat → Int32} {β : Nat} : nR0 r β (76 + 10 * β) = r (76 + 10 * β) := by
  unfold nR0
  rw [upr_ne _ _ (by omega), upr_ne _ _ (by omega)]
theorem Vr_ngR {n : Nat} {r : Nat → Int32} (V : Vr n r) : ∀ β, β ≤ nb r → Vr (n + β) (ngR r β)
  | 0, _ => V
  | β + 1, h => by
    have V1 := Vr_ngR V β (by omega)
    have hb : β < nb (ngR r β) := by rw [nb_ngR]; omega
    exact Vr_cst (Vr_nR0 V1 hb) (by rw [nb_nR0]; exact hb) (aD_lt _) (V1.kn hb).1
theorem night_loop (d b : Nat) (h : PH) (f : Nat → Nat → Int32) (r : Nat → Int32) {n : Nat} (V : Vr n r) (F : FR h) (w : WB h b) (hb : 100 ≤ b) (T : TB f) (hd : 6 ≤ d) (Q : Option Value → PH → Prop) :
    ∀ (j β : Nat), β + j = nb r → WP d 1696 1 [.ref b, .int (ngA r β), .int (nI β)] [] (wI h (ww f b (ngR r β))) Q = Q (some (.int (ngA r (nb r)))) (wI h (ww f b (bell (ngR r (nb r)))))
  | 0, β, hs => by
    obtain rfl : β = nb r := by omega
    have V1 := Vr_ngR V (nb r) (Nat.le_refl _)
    have h5 := V1.r5
    rw [nb_ngR] at h5
    have h6 := V.nb6
    rw [w_1696_1]
    simp -implicitDefEqProofs (disch := first | omega | (simp (disch := omega) only [nb_upr]; omega)) only [w_1696_2, zi_31, zi_96i, zi_96r, zi_96u, zi_96a, zi_32i, zi_32r, zi_32u, zi_32a, zi_33, zi_34, zi_0, zi_0n, zi_104, zi_35, zi_144, zi_621, zi_64, zi_196, zi_38, zi_88, zi_162, zi_70, zi_39i, zi_39r, zi_39u, zi_39a, zi_40, zi_160, zi_67w1, zi_67w2, w.t, w.r10, w.t10, w.l10, kC_eq, toL_s, toL_n, okS0, okS1, okS2, okS3, okS4, okS5, true_and, and_true, hT_wI, hL_wI, hR_wI, hI_wI, hJ_wI, sI_wI, rfP, isIA_100, isIA_120, inb_ok, nI_clamp, nI_add, nI_mul, ↓reduceIte, not_false_eq_true, not_true_eq_false, true_or, or_true, ↓bI_01, ↓b01_0, ↓b01_1, bI_0, z00, z10, n4, n5, n2, n8, Nat.reduceMul, Nat.reduceAdd, Nat.reduceLT, Nat.reduceLeDiff, nI_eq, nI_leI, nI_ltI, Nat.reduceEqDiff, pk_div, nI_sub, Nat.reduceDiv, Nat.reduceSub, ww_0_14, h5, Nat.le_refl, e_ring _ b h f _ w V1.vs]
  | β + 1, s, hs => by
    have ih := night_loop d b h f r V F w hb T hd Q β (s + 1) (by omega)
    have V1 := Vr_ngR V s (by omega)
    have h5 := V1.r5
    have hn := nb_ngR (r := r) s
    have h6 := V.nb6
    have hβ : s < nb (ngR r s) := by rw [hn]; omega
    have e1 : ngR r (s + 1) = cstR (nR0 (ngR r s) s) s (aD (ngR r s)) (kN (ngR r s) s) := rfl
    have e2 : ngA r (s + 1) = ngA r s + cstA (nR0 (ngR r s) s) s (aD (ngR r s)) (kN (ngR r s) s) := rfl
    rw [e1, e2] at ih
    obtain ⟨k1, k2⟩ := V1.kn hβ
    generalize ngR r s = ρ at *
    generalize ngA r s = A at *
    have hz := dN_lt (ρ 6)
    have hg : ¬ nb ρ ≤ s := by omega
    have ha := aD_lt ρ
    have er : upr (upr ρ 6 (zn (ρ 6))) (78 + 10 * s) (nI (dN (ρ 6) - dN (ρ 6) / 8 * 8)) = nR0 ρ s := rfl
    have x1 : nR0 ρ s (78 + 10 * s) = nI (aD ρ) := by unfold nR0; rw [upr_same]
    have ec := fun (d : Nat) (hd : 5 ≤ d) (Q : Option Value → PH → Prop) => e_castNet d b h f (nR0 ρ s) F w hb T s (aD ρ) (kN ρ s) (by rw [nb_nR0]; exact hβ) (by omega) ha k1 x1 (by rw [nR0_k]; exact k2) hd Q
    rw [w_1696_1]
    simp -implicitDefEqProofs (disch := first | omega | (simp (disch := omega) only [nb_upr]; omega)) only [zi_31, zi_96i, zi_96r, zi_96u, zi_96a, zi_32i, zi_32r, zi_32u, zi_32a, zi_33, zi_34, zi_0, zi_0n, zi_104, zi_35, zi_144, zi_621, zi_64, zi_196, zi_38, zi_88, zi_162, zi_70, zi_39i, zi_39r, zi_39u, zi_39a, zi_40, zi_160, zi_67w1, zi_67w2, w.t, w.r10, w.t10, w.l10, kC_eq, toL_s, toL_n, okS0, okS1, okS2, okS3, okS4, okS5, true_and, and_true, hT_wI, hL_wI, hR_wI, hI_wI, hJ_wI, sI_wI, rfP, isIA_100, isIA_120, inb_ok, nI_clamp, nI_add, nI_mul, ↓reduceIte, not_false_eq_true, not_true_eq_false, true_or, or_true, ↓bI_01, ↓b01_0, ↓b01_1, bI_0, z00, z10, n4, n5, n2, n8, Nat.reduceMul, Nat.reduceAdd, Nat.reduceLT, Nat.reduceLeDiff, nI_eq, nI_leI, nI_ltI, Nat.reduceEqDiff, pk_div, nI_sub, Nat.reduceDiv, Nat.reduceSub, ww_0_14, h5, hg, e_draw _ b h f _ w, ws_10, er, ec]
    exact ih
theorem e_nightByDraws (d b : Nat) (h : PH) (f : Nat → Nat → Int32) (r : Nat → Int32) {n : Nat} (V : Vr n r) (F : FR h) (w : WB h b) (hb : 100 ≤ b) (T : TB f) (hd : 6 ≤ d) (Q : Option Value → PH → Prop) :
    Run d 1696 [.ref b] (wI h (ww f b r)) Q = Q (some (.int (ngA r (nb r)))) (wI h (ww f b (bell (ngR r (nb r))))) := by
  simp -implicitDefEqProofs (disch := first | omega | (simp (disch := omega) only [nb_upr]; omega)) only [R_1696, w_1696_0, zi_31, zi_96i, zi_96r, zi_96u, zi_96a, zi_32i, zi_32r, zi_32u, zi_32a, zi_33, zi_34, zi_0, zi_0n, zi_104, zi_35, zi_144, zi_621, zi_64, zi_196, zi_38, zi_88, zi_162, zi_70, zi_39i, zi_39r, zi_39u, zi_39a, zi_40, zi_160, zi_67w1, zi_67w2, kC_eq, toL_s, toL_n, okS0, okS1, okS2, okS3, okS4, okS5, true_and, and_true, hT_wI, hL_wI, hR_wI, hI_wI, hJ_wI, sI_wI, rfP, isIA_100, isIA_120, inb_ok, nI_clamp, nI_add, nI_mul, ↓reduceIte, not_false_eq_true, not_true_eq_false, true_or, or_true, ↓bI_01, ↓b01_0, ↓b01_1, bI_0, z00, z10, n4, n5, n2, n8, Nat.reduceMul, Nat.reduceAdd, Nat.reduceLT, Nat.reduceLeDiff]
  exact night_loop d b h f r V F w hb T hd Q (nb r) 0 (by omega)
theorem e_bellGoes {d : Nat} {h : PH} {f : Nat → Nat → Int32} {r : Nat → Int32} (F : FR h) (V : Vs r) (hd : 1 ≤ d) :
    ∃ f', (S1 f f' ∧ ∀ a, ¬ a = 240 → f' a = f a) ∧ ∀ Q, Run d 1056 [.ref 233] (wI h (mw f 234 r)) Q = Q none (wI h (mw f' 234 (bell r))) := by
  obtain ⟨d, rfl⟩ : ∃ e, d = e + 1 := ⟨d - 1, by omega⟩
  have H := r_bellGoes d h f r F V
  obtain ⟨hl, n, x, y, h1, rfl, f', h2, rfl⟩ := H
  refine ⟨f', ⟨fun a k ha => ?_, h2⟩, fun Q => Run.det ⟨hl, n, _, _, h1, rfl, rfl⟩ Q⟩
  rw [h2 a]
  rintro rfl
  cases ha
theorem mnight_loop {d : Nat} {h : PH} {r : Nat → Int32} {n : Nat} (V : Vr n r) (F : FR h) (hd : 5 ≤ d) :
    ∀ (j β : Nat) (f : Nat → Nat → Int32), TB f → β + j = nb r → ∃ f', S1 f f' ∧ ∀ Q, WP d 1104 1 [.ref 233, .int (ngA r β), .int (nI β)] [] (wI h (mw f 234 (ngR r β))) Q = Q (some (.int (ngA r (nb r)))) (wI h (mw f' 234 (bell (ngR r (nb r)))))
  | 0, β, f, T, hs => by
    obtain rfl : β = nb r := by omega
    have V1 := Vr_ngR V (nb r) (Nat.le_refl _)
    have h5 := V1.r5
    rw [nb_ngR] at h5
    have h6 := V.nb6
    obtain ⟨f', ⟨s1, -⟩, eb⟩ := e_bellGoes (d := d - 1) (f := f) F V1.vs (by omega)
    refine ⟨f', s1, fun Q => ?_⟩
    rw [w_1104_1]
    simp -implicitDefEqProofs (disch := first | omega | (simp (disch := omega) only [nb_upr]; omega)) only [w_1104_2, zi_31, zi_96i, zi_96r, zi_96u, zi_96a, zi_32i, zi_32r, zi_32u, zi_32a, zi_33, zi_34, zi_0, zi_0n, zi_357, zi_59, zi_106, zi_35, zi_51, zi_481, zi_64, zi_196, zi_457, zi_88, zi_480, zi_70, zi_39i, zi_39r, zi_39u, zi_39a, zi_40, zi_478, zi_67w1, zi_67w2, F.t233, F.r233_0, F.t234, F.l234, kC_eq, toL_s, toL_n, okS0, okS1, okS2, okS3, okS4, okS5, true_and, and_true, hT_wI, hL_wI, hR_wI, hI_wI, hJ_wI, sI_wI, rfP, isIA_100, isIA_120, inb_ok, nI_clamp, nI_add, nI_mul, ↓reduceIte, not_false_eq_true, not_true_eq_false, true_or, or_true, ↓bI_01, ↓b01_0, ↓b01_1, bI_0, z00, z10, n4, n5, n2, n8, Nat.reduceMul, Nat.reduceAdd, Nat.reduceLT, Nat.reduceLeDiff, nI_eq, nI_leI, nI_ltI, Nat.reduceEqDiff, pk_div, nI_sub, Nat.reduceDiv, Nat.reduceSub, mw_r, h5, Nat.le_refl, eb]
  | β + 1, s, f, T, hs => by
    have V1 := Vr_ngR V s (by omega)
    have h5 := V1.r5
    have hn := nb_ngR (r := r) s
    have h6 := V.nb6
    have hβ : s < nb (ngR r s) := by rw [hn]; omega
    have VN := Vr_nR0 V1 hβ
    obtain ⟨k1, k2⟩ := V1.kn hβ
    have e1 : ngR r (s + 1) = cstR (nR0 (ngR r s) s) s (aD (ngR r s)) (kN (ngR r s) s) := rfl
    have e2 : ngA r (s + 1) = ngA r s + cstA (nR0 (ngR r s) s) s (aD (ngR r s)) (kN (ngR r s) s) := rfl
    have ih := fun f T => mnight_loop (d := d) V F hd β (s + 1) f T (by omega)
    rw [e1, e2] at ih
    generalize ngR r s = ρ at *
    generalize ngA r s = A at *
    have hz := dN_lt (ρ 6)
    have hg : ¬ nb ρ ≤ s := by omega
    have ha := aD_lt ρ
    have er : upr (upr ρ 6 (zn (ρ 6))) (78 + 10 * s) (nI (dN (ρ 6) - dN (ρ 6) / 8 * 8)) = nR0 ρ s := rfl
    have x1 : nR0 ρ s (78 + 10 * s) = nI (aD ρ) := by unfold nR0; rw [upr_same]
    obtain ⟨f1, s1, ec⟩ := e_casts (d := d - 1) (f := f) F T VN s (aD ρ) (kN ρ s) (by rw [nb_nR0]; exact hβ) (by omega) ha k1 x1 (by rw [nR0_k]; exact k2) (by omega)
    obtain ⟨f2, s2, ih2⟩ := ih f1 (s1.tb T)
    refine ⟨f2, s1.trans s2, fun Q => ?_⟩
    rw [w_1104_1]
    simp -implicitDefEqProofs (disch := first | omega | (simp (disch := omega) only [nb_upr]; omega)) only [zi_31, zi_96i, zi_96r, zi_96u, zi_96a, zi_32i, zi_32r, zi_32u, zi_32a, zi_33, zi_34, zi_0, zi_0n, zi_357, zi_59, zi_106, zi_35, zi_51, zi_481, zi_64, zi_196, zi_457, zi_88, zi_480, zi_70, zi_39i, zi_39r, zi_39u, zi_39a, zi_40, zi_478, zi_67w1, zi_67w2, F.t233, F.r233_0, F.t234, F.l234, kC_eq, toL_s, toL_n, okS0, okS1, okS2, okS3, okS4, okS5, true_and, and_true, hT_wI, hL_wI, hR_wI, hI_wI, hJ_wI, sI_wI, rfP, isIA_100, isIA_120, inb_ok, nI_clamp, nI_add, nI_mul, ↓reduceIte, not_false_eq_true, not_true_eq_false, true_or, or_true, ↓bI_01, ↓b01_0, ↓b01_1, bI_0, z00, z10, n4, n5, n2, n8, Nat.reduceMul, Nat.reduceAdd, Nat.reduceLT, Nat.reduceLeDiff, nI_eq, nI_leI, nI_ltI, Nat.reduceEqDiff, pk_div, nI_sub, Nat.reduceDiv, Nat.reduceSub, n8, mw_r, h5, hg, e_drawn F, e_sets2 F, er, ec]
    exact ih2 Q
theorem e_nightGoes {d : Nat} {h : PH} {f : Nat → Nat → Int32} {r : Nat → Int32} {n : Nat} (V : Vr n r) (F : FR h) (T : TB f) (hd : 5 ≤ d) :
    ∃ f', S1 f f' ∧ ∀ Q, Run d 1104 [.ref 233] (wI h (mw f 234 r)) Q = Q (some (.int (ngA r (nb r)))) (wI h (mw f' 234 (bell (ngR r (nb r))))) := by
  obtain ⟨f', s1, e⟩ := mnight_loop (d := d) V F hd (nb r) 0 f T (by omega)
  refine ⟨f', s1, fun Q => ?_⟩
  simp -implicitDefEqProofs (disch := first | omega | (simp (disch := omega) only [nb_upr]; omega)) only [R_1104, w_1104_0, zi_31, zi_96i, zi_96r, zi_96u, zi_96a, zi_32i, zi_32r, zi_32u, zi_32a, zi_33, zi_34, zi_0, zi_0n, zi_357, zi_59, zi_106, zi_35, zi_51, zi_481, zi_64, zi_196, zi_457, zi_88, zi_480, zi_70, zi_39i, zi_39r, zi_39u, zi_39a, zi_40, zi_478, zi_67w1, zi_67w2, kC_eq, toL_s, toL_n, okS0, okS1, okS2, okS3, okS4, okS5, true_and, and_true, hT_wI, hL_wI, hR_wI, hI_wI, hJ_wI, sI_wI, rfP, isIA_100, isIA_120, inb_ok, nI_clamp, nI_add, nI_mul, ↓reduceIte, not_false_eq_true, not_true_eq_false, true_or, or_true, ↓bI_01, ↓b01_0, ↓b01_1, bI_0, z00, z10, n4, n5, n2, n8, Nat.reduceMul, Nat.reduceAdd, Nat.reduceLT, Nat.reduceLeDiff]
  exact e Q
end
