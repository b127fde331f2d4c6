section
/-! a haul, said once for both sides; the class's -/
def szI (s : Nat) : Int32 := nI ([2, 3, 1, 5, 8].getD s 0)
def tkV (r : Nat → Int32) (β a k s : Nat) : Int32 := if szI s < r (79 + 10 * β) then nI 0 else tk r β a k s
def cl9 (x : Int32) : Int32 := if x < nI 9 then x else nI 9
def dg2 (r : Nat → Int32) (β a s : Nat) (v : Int32) : Nat → Int32 := upr (upr r (12 + 7 * a + s) (r (12 + 7 * a + s) - v)) (81 + 10 * β + s) (r (81 + 10 * β + s) + v)
def dgT (r : Nat → Int32) (β k : Nat) : Nat → Int32 := upr r (80 + 10 * β) (cl9 (r (80 + 10 * β) + tear k (r (77 + 10 * β)) (r (79 + 10 * β))))
def dg1 (r : Nat → Int32) (β a k s : Nat) : Nat → Int32 := if s = 4 ∧ ¬ tkV r β a k s ≤ 0 then dgT (dg2 r β a s (tkV r β a k s)) β k else dg2 r β a s (tkV r β a k s)
def dgr (r : Nat → Int32) (β a k : Nat) : Nat → Nat → Int32
  | 0 => r
  | s + 1 => dg1 (dgr r β a k s) β a k s
def dga (r : Nat → Int32) (β a k : Nat) : Nat → Int32
  | 0 => nI 0
  | s + 1 => dga r β a k s + tkV (dgr r β a k s) β a k s
def dgw (r : Nat → Int32) (β a k : Nat) : Nat → Int32
  | 0 => nI 0
  | s + 1 => dgw r β a k s + tkV (dgr r β a k s) β a k s * r (7 + s)
def dgE (r : Nat → Int32) (a : Nat) (x : Int32) : Nat → Int32 := upr (upr r (18 + 7 * a) (r (18 + 7 * a) + x)) (69 + 2 * (a / 2)) (r (69 + 2 * (a / 2)) + x)
/-- the row behind a haul, how much, what worth -/
def hlR (r : Nat → Int32) (β a k : Nat) : Nat → Int32 := if mayH r β a = 0 then r else dgE (dgr r β a k 5) a (dga r β a k 5)
def hlA (r : Nat → Int32) (β a k : Nat) : Int32 := if mayH r β a = 0 then nI 0 else dga r β a k 5
def hlW (r : Nat → Int32) (β a k : Nat) : Int32 := if mayH r β a = 0 then nI 0 else dgw r β a k 5
theorem upr_self (r : Nat → Int32) (q : Nat) : upr r q (r q) = r := by
  funext j
  unfold upr
  by_cases h : j = q
  · rw [if_pos h, h]
  · rw [if_neg h]
theorem i32_sub0 (x : Int32) : x - nI 0 = x := by rw [nI_0]; exact Int32.sub_zero x
theorem i32_add0 (x : Int32) : x + nI 0 = x := by rw [nI_0]; exact Int32.add_zero x
theorem dg2_0 (r : Nat → Int32) (β a s : Nat) : dg2 r β a s (nI 0) = r := by
  unfold dg2
  rw [i32_sub0, i32_add0, upr_self, upr_self]
theorem dg1_skip {r : Nat → Int32} {β a k s : Nat} (h : szI s < r (79 + 10 * β)) : dg1 r β a k s = r ∧ tkV r β a k s = nI 0 := by
  have e : tkV r β a k s = nI 0 := if_pos h
  refine ⟨?_, e⟩
  unfold dg1
  rw [e, if_neg (fun z => z.2 (by decide)), dg2_0]
theorem dg2_out {r : Nat → Int32} {β a s q : Nat} {v : Int32} (h1 : ¬ q = 12 + 7 * a + s) (h2 : ¬ q = 81 + 10 * β + s) : dg2 r β a s v q = r q := by
  unfold dg2
  rw [upr_ne _ _ h2, upr_ne _ _ h1]
theorem dgT_out {r : Nat → Int32} {β k q : Nat} (h1 : ¬ q = 80 + 10 * β) : dgT r β k q = r q := by
  unfold dgT
  rw [upr_ne _ _ h1]
theorem dg1_out {r : Nat → Int32} {β a k s q : Nat} (h1 : ¬ q = 12 + 7 * a + s) (h2 : ¬ q = 81 + 10 * β + s) (h3 : ¬ q = 80 + 10 * β) : dg1 r β a k s q = r q := by
  unfold dg1
  split
  · rw [dgT_out h3, dg2_out h1 h2]
  · rw [dg2_out h1 h2]
theorem dgr_out {r : Nat → Int32} {β a k q : Nat} (h3 : ¬ q = 80 + 10 * β) : ∀ n, (∀ s, s < n → ¬ q = 12 + 7 * a + s ∧ ¬ q = 81 + 10 * β + s) → dgr r β a k n q = r q
  | 0, _ => rfl
  | n + 1, h => by
    show dg1 (dgr r β a k n) β a k n q = r q
    rw [dg1_out (h n (by omega)).1 (h n (by omega)).2 h3]
    exact dgr_out h3 n (fun s hs => h s (by omega))
theorem dgr_keep {r : Nat → Int32} {β a k n : Nat} (ha : a < 8) (hn : n ≤ 5) : dgr r β a k n (76 + 10 * β) = r (76 + 10 * β) ∧ dgr r β a k n (77 + 10 * β) = r (77 + 10 * β) ∧ dgr r β a k n (78 + 10 * β) = r (78 + 10 * β) ∧ dgr r β a k n (79 + 10 * β) = r (79 + 10 * β) ∧ dgr r β a k n 5 = r 5 ∧ nb (dgr r β a k n) = nb r ∧ lim (dgr r β a k n) = lim r := by
  have e5 : dgr r β a k n 5 = r 5 := dgr_out (by omega) n (fun s hs => by omega)
  refine ⟨dgr_out (by omega) n (fun s hs => by omega), dgr_out (by omega) n (fun s hs => by omega), dgr_out (by omega) n (fun s hs => by omega), dgr_out (by omega) n (fun s hs => by omega), e5, ?_, ?_⟩
  · unfold nb; rw [e5]
  · unfold lim nb; rw [e5]
theorem nb_dg2 {r : Nat → Int32} {β a s : Nat} {v : Int32} : nb (dg2 r β a s v) = nb r := by
  unfold nb
  rw [dg2_out (by omega) (by omega)]
theorem ww_st {f : Nat → Nat → Int32} {b k : Nat} {r : Nat → Int32} (hb : 100 ≤ b) : ww f b r 5 k = f 5 k := ww_out (by omega)
/-- the tables that the code reads -/
def TB (f : Nat → Nat → Int32) : Prop := (∀ s, s < 5 → f 5 s = szI s ∧ f 238 s = szI s) ∧ (f 3 0 = nI 0 ∧ f 3 1 = nI 1 ∧ f 3 2 = nI 1) ∧ (f 4 0 = nI 99 ∧ f 4 1 = nI 20 ∧ f 4 2 = nI 20) ∧ (f 1 0 = nI 10 ∧ f 1 1 = nI 8 ∧ f 1 2 = nI 4) ∧ (f 2 0 = nI 9 ∧ f 2 1 = nI 4 ∧ f 2 2 = nI 2 ∧ f 2 3 = nI 6 ∧ f 2 4 = nI 12)
set_option maxHeartbeats 1000000 in
theorem drag_loop (d b : Nat) (h : PH) (f : Nat → Nat → Int32) (r : Nat → Int32) (F : FR h) (w : WB h b) (hb : 100 ≤ b) (T : TB f) (β a k : Nat) (hβ : β < nb r) (h6 : β < 6) (ha : a < 8) (hk : k < 6) (e1 : r (78 + 10 * β) = nI a) (e2 : r (76 + 10 * β) = nI k) (hd : 4 ≤ d) (Q : Option Value → PH → Prop) :
    ∀ (j s : Nat) (v4 : Value), s + j = 5 → WP d 1657 2 [.ref b, .int (nI β), .int (dga r β a k s), .int (nI s), v4] [] (wI h (ww f b (dgr r β a k s))) Q = Q (some (.int (dga r β a k 5))) (wI h (ww f b (dgE (dgr r β a k 5) a (dga r β a k 5))))
  | 0, s, v4, hs => by
    obtain rfl : s = 5 := by omega
    obtain ⟨k1, k2, k3, k4, k5, k6, k7⟩ := dgr_keep (r := r) (β := β) (a := a) (k := k) ha (Nat.le_refl 5)
    rw [← k6] at hβ
    rw [← k3] at e1
    rw [w_1657_2]
    simp (disch := first | omega | (simp (disch := omega) only [nb_upr]; omega)) only [w_1657_4, zi_0, zi_0n, zi_88, zi_151, zi_98, zi_31, zi_67w1, zi_67w2, zi_32i, zi_32r, zi_32u, zi_32a, zi_111i, zi_111r, zi_111u, zi_111a, zi_113, zi_63, zi_59, zi_77, zi_617, zi_106, zi_145, zi_137, zi_149, zi_74i, zi_74r, zi_74u, zi_74a, zi_128, zi_144, zi_79, zi_70, zi_436i, zi_436l, zi_76, zi_101, zi_38, zi_148, zi_34, zi_9, zi_129, zi_618, zi_146, zi_130, zi_150, zi_154, zi_75, zi_158i, zi_158r, zi_158u, zi_158a, zi_112, zi_126, zi_120, zi_51, zi_238, w.t, w.r11, w.t11, w.l11, w.r3, w.t3, w.l3, w.r10, w.t10, w.l10, w.r13, w.t13, w.l13, w.r12, w.t12, w.l12, w.r5, w.t5, w.l5, w.r7, w.t7, w.l7, kC_eq, toL_s, toL_n, okS0, okS1, okS2, okS3, okS4, okS5, true_and, and_true, hT_wI, hL_wI, hR_wI, hI_wI, hJ_wI, sI_wI, rfP, isIA_100, isIA_120, inb_ok, nI_clamp, nI_add, nI_mul, ↓reduceIte, not_false_eq_true, not_true_eq_false, true_or, or_true, ↓bI_01, ↓b01_0, ↓b01_1, bI_0, z00, z10, n4, n5, n2, n8, Nat.reduceMul, Nat.reduceAdd, Nat.reduceLT, Nat.reduceLeDiff, ww_10, e1, nI_leI, Nat.le_refl, pk_div, ww_5, ww_7, ws_5, ws_7, upr_ne, nb_upr]
    have e : 12 + 7 * a + 6 = 18 + 7 * a := by omega
    rw [e]
    rfl
  | j + 1, s, v4, hs => by
    have ih := drag_loop d b h f r F w hb T β a k hβ h6 ha hk e1 e2 hd Q j (s + 1)
    have hg : ¬ 5 ≤ s := by omega
    have hs5 : s < 5 := by omega
    obtain ⟨k1, k2, k3, k4, k5, k6, k7⟩ := dgr_keep (r := r) (β := β) (a := a) (k := k) (n := s) ha (by omega)
    have T5 : f 5 s = szI s := (T.1 s hs5).1
    have a1 : dga r β a k (s + 1) = dga r β a k s + tkV (dgr r β a k s) β a k s := rfl
    have a2 : dgr r β a k (s + 1) = dg1 (dgr r β a k s) β a k s := rfl
    rw [a1, a2] at ih
    generalize dgr r β a k s = ρ at *
    generalize dga r β a k s = A at *
    rw [← k6] at hβ
    rw [← k3] at e1
    rw [← k1] at e2
    have et := fun (x y : Int32) (Q : Option Value → PH → Prop) => e_tearOf (d - 1) b h f (upr (upr ρ (12 + 7 * a + s) x) (81 + 10 * β + s) y) F w β k (by rw [nb_upr (by omega), nb_upr (by omega)]; exact hβ) h6 hk (by rw [upr_ne _ _ (by omega), upr_ne _ _ (by omega)]; exact e2) (by omega) Q
    by_cases hc : szI s < ρ (79 + 10 * β)
    · obtain ⟨c1, c2⟩ := dg1_skip (a := a) (k := k) hc
      rw [c1, c2, i32_add0] at ih
      rw [w_1657_2]
      simp (disch := first | omega | (simp (disch := omega) only [nb_upr]; omega)) only [w_1657_3, zi_0, zi_0n, zi_88, zi_151, zi_98, zi_31, zi_67w1, zi_67w2, zi_32i, zi_32r, zi_32u, zi_32a, zi_111i, zi_111r, zi_111u, zi_111a, zi_113, zi_63, zi_59, zi_77, zi_617, zi_106, zi_145, zi_137, zi_149, zi_74i, zi_74r, zi_74u, zi_74a, zi_128, zi_144, zi_79, zi_70, zi_436i, zi_436l, zi_76, zi_101, zi_38, zi_148, zi_34, zi_9, zi_129, zi_618, zi_146, zi_130, zi_150, zi_154, zi_75, zi_158i, zi_158r, zi_158u, zi_158a, zi_112, zi_126, zi_120, zi_51, zi_238, w.t, w.r11, w.t11, w.l11, w.r3, w.t3, w.l3, w.r10, w.t10, w.l10, w.r13, w.t13, w.l13, w.r12, w.t12, w.l12, w.r5, w.t5, w.l5, w.r7, w.t7, w.l7, F.o5, F.p5, kC_eq, toL_s, toL_n, okS0, okS1, okS2, okS3, okS4, okS5, true_and, and_true, hT_wI, hL_wI, hR_wI, hI_wI, hJ_wI, sI_wI, rfP, isIA_100, isIA_120, inb_ok, nI_clamp, nI_add, nI_mul, ↓reduceIte, not_false_eq_true, not_true_eq_false, true_or, or_true, ↓bI_01, ↓b01_0, ↓b01_1, bI_0, z00, z10, n4, n5, n2, n8, Nat.reduceMul, Nat.reduceAdd, Nat.reduceLT, Nat.reduceLeDiff, nI_leI, hg, ww_st, T5, ww_11, hc]
      exact ih _ (by omega)
    · have c2 : tkV ρ β a k s = tk ρ β a k s := if_neg hc
      rw [c2] at ih
      rw [w_1657_2]
      simp (disch := first | omega | (simp (disch := omega) only [nb_upr]; omega)) only [w_1657_3, zi_0, zi_0n, zi_88, zi_151, zi_98, zi_31, zi_67w1, zi_67w2, zi_32i, zi_32r, zi_32u, zi_32a, zi_111i, zi_111r, zi_111u, zi_111a, zi_113, zi_63, zi_59, zi_77, zi_617, zi_106, zi_145, zi_137, zi_149, zi_74i, zi_74r, zi_74u, zi_74a, zi_128, zi_144, zi_79, zi_70, zi_436i, zi_436l, zi_76, zi_101, zi_38, zi_148, zi_34, zi_9, zi_129, zi_618, zi_146, zi_130, zi_150, zi_154, zi_75, zi_158i, zi_158r, zi_158u, zi_158a, zi_112, zi_126, zi_120, zi_51, zi_238, w.t, w.r11, w.t11, w.l11, w.r3, w.t3, w.l3, w.r10, w.t10, w.l10, w.r13, w.t13, w.l13, w.r12, w.t12, w.l12, w.r5, w.t5, w.l5, w.r7, w.t7, w.l7, F.o5, F.p5, kC_eq, toL_s, toL_n, okS0, okS1, okS2, okS3, okS4, okS5, true_and, and_true, hT_wI, hL_wI, hR_wI, hI_wI, hJ_wI, sI_wI, rfP, isIA_100, isIA_120, inb_ok, nI_clamp, nI_add, nI_mul, ↓reduceIte, not_false_eq_true, not_true_eq_false, true_or, or_true, ↓bI_01, ↓b01_0, ↓b01_1, bI_0, z00, z10, n4, n5, n2, n8, Nat.reduceMul, Nat.reduceAdd, Nat.reduceLT, Nat.reduceLeDiff, nI_leI, hg, ww_st, T5, ww_11, hc, e_takeOf _ b h f ρ F w β a k s hβ h6 ha hk hs5 e1 e2, ww_10, e1, ww_s, ws_s, nb_upr, ww_h, ws_h, upr_ne, nI_eq, et, ww_12, ws_12]
      unfold dg1 at ih
      rw [c2] at ih
      by_cases h4 : s = 4
      · by_cases hv : tk ρ β a k s ≤ 0
        · rw [if_neg (fun z => z.2 hv)] at ih
          subst h4
          simp only [hv, ↓reduceIte]
          exact ih _ (by omega)
        · rw [if_pos ⟨h4, hv⟩] at ih
          subst h4
          simp only [hv, ↓reduceIte]
          have := ih (.int (tk ρ β a k 4)) (by omega)
          rw [← this]
          unfold dgT dg2 cl9
          simp (disch := omega) only [upr_ne]
      · rw [if_neg (fun z => h4 z.1)] at ih
        simp only [h4, ↓reduceIte]
        exact ih _ (by omega)
theorem e_drag (d b : Nat) (h : PH) (f : Nat → Nat → Int32) (r : Nat → Int32) (F : FR h) (w : WB h b) (hb : 100 ≤ b) (T : TB f) (β a k : Nat) (hβ : β < nb r) (h6 : β < 6) (ha : a < 8) (hk : k < 6) (e1 : r (78 + 10 * β) = nI a) (e2 : r (76 + 10 * β) = nI k) (hd : 4 ≤ d) (Q : Option Value → PH → Prop) :
    Run d 1657 [.ref b, .int (nI β)] (wI h (ww f b r)) Q = Q (some (.int (hlA r β a k))) (wI h (ww f b (hlR r β a k))) := by
  simp (disch := omega) only [R_1657, w_1657_0, w_1657_1, zi_0, zi_0n, zi_88, zi_151, zi_98, zi_31, zi_67w1, zi_67w2, zi_32i, zi_32r, zi_32u, zi_32a, zi_111i, zi_111r, zi_111u, zi_111a, zi_113, zi_63, zi_59, zi_77, zi_617, zi_106, zi_145, zi_137, zi_149, zi_74i, zi_74r, zi_74u, zi_74a, zi_128, zi_144, zi_79, zi_70, zi_436i, zi_436l, zi_76, zi_101, zi_38, zi_148, zi_34, zi_9, zi_129, zi_618, zi_146, zi_130, zi_150, zi_154, zi_75, zi_158i, zi_158r, zi_158u, zi_158a, zi_112, zi_126, zi_120, zi_51, zi_238, w.t, w.r11, w.t11, w.l11, w.r3, w.t3, w.l3, w.r10, w.t10, w.l10, w.r13, w.t13, w.l13, w.r12, w.t12, w.l12, w.r5, w.t5, w.l5, w.r7, w.t7, w.l7, kC_eq, toL_s, toL_n, okS0, okS1, okS2, okS3, okS4, okS5, true_and, and_true, hT_wI, hL_wI, hR_wI, hI_wI, hJ_wI, sI_wI, rfP, isIA_100, isIA_120, inb_ok, nI_clamp, nI_add, nI_mul, ↓reduceIte, not_false_eq_true, not_true_eq_false, true_or, or_true, ↓bI_01, ↓b01_0, ↓b01_1, bI_0, z00, z10, n4, n5, n2, n8, Nat.reduceMul, Nat.reduceAdd, Nat.reduceLT, Nat.reduceLeDiff, e_mayHaul _ b h f r w β a hβ h6 ha e1]
  unfold hlA hlR
  by_cases hm : mayH r β a = 0
  · simp only [hm, ↓reduceIte]
  · simp only [hm, ↓reduceIte]
    exact drag_loop d b h f r F w hb T β a k hβ h6 ha hk e1 e2 hd Q 5 0 _ rfl
end
