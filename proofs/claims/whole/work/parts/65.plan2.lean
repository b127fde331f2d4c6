section
/-! the ways of the reference, code by code, are those of the tree; plan and stop -/
variable {b n : Nat} {h : PH} {r : Nat → Int32} {f : Nat → Nat → Int32}
/-- the row, the worth and the street behind i steps, by the choices δ -/
def yR (r : Nat → Int32) (β k : Nat) (δ : Nat → Nat) : Nat → Nat → Int32
  | 0 => r
  | i + 1 => stpR (yR r β k δ i) β k (opt (aN (yR r β k δ i) β) (δ i))
def pth (r : Nat → Int32) (β k : Nat) (δ : Nat → Nat) (i : Nat) : Nat := opt (aN (yR r β k δ i) β) (δ i)
def yW (r : Nat → Int32) (β k : Nat) (δ : Nat → Nat) : Nat → Nat
  | 0 => 0
  | i + 1 => yW r β k δ i + stpW (yR r β k δ i) β k (pth r β k δ i)
def lp (r : Nat → Int32) (β k : Nat) (δ : Nat → Nat) (i : Nat) : Nat → Nat := fun q => if q < i then pth r β k δ q else 0
theorem yR_congr {r : Nat → Int32} {β k : Nat} {δ ε : Nat → Nat} : ∀ i, (∀ q, q < i → δ q = ε q) → yR r β k δ i = yR r β k ε i
  | 0, _ => rfl
  | i + 1, hq => by
    have ih := yR_congr (r := r) (β := β) (k := k) i (fun q h => hq q (by omega))
    show stpR (yR r β k δ i) β k (opt (aN (yR r β k δ i) β) (δ i)) = stpR (yR r β k ε i) β k (opt (aN (yR r β k ε i) β) (ε i))
    rw [ih, hq i (by omega)]
theorem pth_congr {r : Nat → Int32} {β k : Nat} {δ ε : Nat → Nat} (i : Nat) (hq : ∀ q, q < i + 1 → δ q = ε q) : pth r β k δ i = pth r β k ε i := by
  unfold pth
  rw [yR_congr i (fun q h => hq q (by omega)), hq i (by omega)]
theorem yW_congr {r : Nat → Int32} {β k : Nat} {δ ε : Nat → Nat} : ∀ i, (∀ q, q < i → δ q = ε q) → yW r β k δ i = yW r β k ε i
  | 0, _ => rfl
  | i + 1, hq => by
    show yW r β k δ i + stpW (yR r β k δ i) β k (pth r β k δ i) = yW r β k ε i + stpW (yR r β k ε i) β k (pth r β k ε i)
    rw [yW_congr i (fun q h => hq q (by omega)), yR_congr i (fun q h => hq q (by omega)), pth_congr i hq]
theorem lp_congr {r : Nat → Int32} {β k : Nat} {δ ε : Nat → Nat} (i : Nat) (hq : ∀ q, q < i → δ q = ε q) : lp r β k δ i = lp r β k ε i := by
  funext q
  unfold lp
  by_cases z : q < i
  · rw [if_pos z, if_pos z, pth_congr q (fun t h => hq t (by omega))]
  · rw [if_neg z, if_neg z]
theorem setp_lp {r : Nat → Int32} {β k : Nat} {δ : Nat → Nat} (i : Nat) : setp (lp r β k δ i) i (pth r β k δ i) = lp r β k δ (i + 1) := by
  funext q
  unfold setp lp
  by_cases z : q = i
  · subst z; rw [if_pos rfl, if_pos (by omega)]
  · rw [if_neg z]
    by_cases y : q < i
    · rw [if_pos y, if_pos (by omega)]
    · rw [if_neg y, if_neg (by omega)]
theorem fd_congr {α : Type} {g g' : Nat → α → α} : ∀ m (B : α), (∀ c, c < m → g c = g' c) → fd g m B = fd g' m B
  | 0, _, _ => rfl
  | m + 1, B, hq => by
    show g m (fd g m B) = g' m (fd g' m B)
    rw [fd_congr m B (fun c h => hq c (by omega)), hq m (by omega)]
theorem fd_add {α : Type} {g : Nat → α → α} (a : Nat) (B : α) : ∀ m, fd g (a + m) B = fd (fun c => g (a + c)) m (fd g a B)
  | 0 => rfl
  | m + 1 => by
    show g (a + m) (fd g (a + m) B) = g (a + m) (fd (fun c => g (a + c)) m (fd g a B))
    rw [fd_add a B m]
def ovr (δ : Nat → Nat) (i t c : Nat) : Nat → Nat := fun q => if q < i then δ q else c / 3 ^ (t - 1 - q) % 3
theorem dig_low {d c e x : Nat} : (d * 3 ^ (x + 1 + e) + c) / 3 ^ e % 3 = c / 3 ^ e % 3 := by
  have h0 : 0 < 3 ^ e := Nat.pow_pos (by decide)
  have e1 : d * 3 ^ (x + 1 + e) = 3 ^ e * (3 * (d * 3 ^ x)) := by
    rw [Nat.pow_add, Nat.pow_succ]
    ac_rfl
  rw [e1, Nat.add_comm, Nat.add_mul_div_left _ _ h0, Nat.add_mul_mod_self_left]
theorem dig_top {d c m : Nat} (hd : d < 3) (hc : c < m) : (d * m + c) / m % 3 = d := by
  have e : (d * m + c) / m = d := by
    rw [Nat.mul_comm, Nat.mul_add_div (by omega), Nat.div_eq_of_lt hc, Nat.add_zero]
  rw [e, Nat.mod_eq_of_lt hd]
theorem EW_fold (β k t : Nat) : ∀ (j i : Nat) (δ : Nat → Nat) (B : Option (Nat × (Nat → Nat))), i + j = t →
    EW β k j i (yR r β k δ i) (yW r β k δ i) (lp r β k δ i) B = fd (fun c B => updB (yW r β k (ovr δ i t c) t) (lp r β k (ovr δ i t c) t) B) (3 ^ j) B
  | 0, i, δ, B, hi => by
    obtain rfl : i = t := by omega
    have e : ∀ q, q < i → δ q = ovr δ i i 0 q := fun q h => (if_pos h).symm
    show updB _ _ B = updB _ _ B
    rw [yW_congr i e, lp_congr i e]
  | j + 1, i, δ, B, hi => by
    have key : ∀ d, d < 3 → ∀ B, EW β k j (i + 1) (stpR (yR r β k δ i) β k (opt (aN (yR r β k δ i) β) d)) (yW r β k δ i + stpW (yR r β k δ i) β k (opt (aN (yR r β k δ i) β) d)) (setp (lp r β k δ i) i (opt (aN (yR r β k δ i) β) d)) B
        = fd (fun c B => updB (yW r β k (ovr δ i t (d * 3 ^ j + c)) t) (lp r β k (ovr δ i t (d * 3 ^ j + c)) t) B) (3 ^ j) B := by
      intro d hd B
      have ih := EW_fold β k t j (i + 1) (fun q => if q < i then δ q else d) B (by omega)
      have e0 : ∀ q, q < i → δ q = (fun q => if q < i then δ q else d) q := fun q h => (if_pos h).symm
      have eR : yR r β k (fun q => if q < i then δ q else d) i = yR r β k δ i := (yR_congr i e0).symm
      have ep : pth r β k (fun q => if q < i then δ q else d) i = opt (aN (yR r β k δ i) β) d := by
        unfold pth
        rw [eR]
        show opt _ (if i < i then δ i else d) = _
        rw [if_neg (by omega)]
      have e1 : yR r β k (fun q => if q < i then δ q else d) (i + 1) = stpR (yR r β k δ i) β k (opt (aN (yR r β k δ i) β) d) := by
        show stpR (yR r β k _ i) β k (pth r β k _ i) = _
        rw [ep, eR]
      have e2 : yW r β k (fun q => if q < i then δ q else d) (i + 1) = yW r β k δ i + stpW (yR r β k δ i) β k (opt (aN (yR r β k δ i) β) d) := by
        show yW r β k _ i + stpW (yR r β k _ i) β k (pth r β k _ i) = _
        rw [ep, eR, ← yW_congr i e0]
      have e3 : lp r β k (fun q => if q < i then δ q else d) (i + 1) = setp (lp r β k δ i) i (opt (aN (yR r β k δ i) β) d) := by
        rw [← setp_lp, ep, ← lp_congr i e0]
      rw [e1, e2, e3] at ih
      rw [ih]
      refine fd_congr _ _ (fun c hc => ?_)
      have eo : ∀ q, q < t → ovr (fun q => if q < i then δ q else d) (i + 1) t c q = ovr δ i t (d * 3 ^ j + c) q := by
        intro q hq
        unfold ovr
        by_cases z : q < i
        · rw [if_pos (by omega), if_pos z]
          show (if q < i then δ q else d) = _
          rw [if_pos z]
        · rw [if_neg z]
          by_cases y : q = i
          · subst y
            rw [if_pos (by omega)]
            show (if q < q then δ q else d) = _
            rw [if_neg (by omega), show t - 1 - q = j by omega, dig_top hd hc]
          · rw [if_neg (by omega)]
            obtain ⟨x, hx⟩ : ∃ x, j = x + 1 + (t - 1 - q) := ⟨j - 1 - (t - 1 - q), by omega⟩
            rw [hx]
            rw [show t - 1 - q = t - 1 - q from rfl, dig_low]
      rw [yW_congr t eo, lp_congr t eo]
    have e3 : 3 ^ (j + 1) = 3 ^ j + 3 ^ j + 3 ^ j := by rw [Nat.pow_succ]; omega
    show EW β k j (i + 1) _ _ _ (EW β k j (i + 1) _ _ _ (EW β k j (i + 1) _ _ _ B)) = _
    rw [key 2 (by decide), key 1 (by decide), key 0 (by decide), e3, fd_add (3 ^ j + 3 ^ j) B, fd_add (3 ^ j) B]
    have m1 : ∀ c, 1 * 3 ^ j + c = 3 ^ j + c := fun c => by omega
    have m2 : ∀ c, 2 * 3 ^ j + c = 3 ^ j + 3 ^ j + c := fun c => by omega
    have m0 : ∀ c, 0 * 3 ^ j + c = c := fun c => by omega
    simp only [m0, m1, m2]
/-- the best way of t steps -/
def bestP (r : Nat → Int32) (β k t : Nat) : Option (Nat × (Nat → Nat)) := fd (fun c B => updB (yW r β k (ovr (fun _ => 0) 0 t c) t) (lp r β k (ovr (fun _ => 0) 0 t c) t) B) (3 ^ t) none
theorem EW_best (β k t : Nat) : EW β k t 0 r 0 (fun _ => 0) none = bestP r β k t := by
  have := EW_fold (r := r) β k t t 0 (fun _ => 0) none (by omega)
  unfold bestP
  rw [← this]
  show EW β k t 0 r 0 (fun _ => 0) none = EW β k t 0 r 0 (lp r β k (fun _ => 0) 0) none
  congr 1
theorem fd_some {g : Nat → Nat × (Nat → Nat)} : ∀ m, 0 < m → ∃ x, fd (fun c B => updB (g c).1 (g c).2 B) m none = some x
  | 0, h => absurd h (by decide)
  | m + 1, _ => by
    show ∃ x, updB (g m).1 (g m).2 (fd _ m none) = some x
    generalize fd (fun c B => updB (g c).1 (g c).2 B) m none = o
    match o with
    | none => exact ⟨_, rfl⟩
    | some y =>
      show ∃ x, (if y.1 < (g m).1 then some ((g m).1, (g m).2) else some y) = some x
      split
      · exact ⟨_, rfl⟩
      · exact ⟨_, rfl⟩
theorem best_some (r : Nat → Int32) (β k t : Nat) : ∃ x, bestP r β k t = some x :=
  fd_some (g := fun c => (yW r β k (ovr (fun _ => 0) 0 t c) t, lp r β k (ovr (fun _ => 0) 0 t c) t)) (3 ^ t) (Nat.pow_pos (by decide))
/-- the class's: findWay -/
theorem e_findWay (F : FR h) (hb : b = 117) (V : Vr n r) (β a k t : Nat) (Bb : Bt r β a k) (ht : t ≤ 4) (f : Nat → Nat → Int32) (T : TB f) (hn : hR h 100 0 = some b) (d : Nat) (hd : 15 ≤ d) :
    ∃ f', ScC f f' ∧ ww f' b r = f' ∧ (∃ x, bestP r β k t = some x ∧ f' 159 5 = nI x.1 ∧ ∀ q, q < t → f' 162 q = nI (x.2 q)) ∧ ∀ Q, Run d 306 [.ref 100, .int (nI β), .int (nI t)] (wI h (ww f b r)) Q = Q none (wI h f') := by
  have w := F.w117
  have hβ := Bb.1
  have h6 := V.nb6
  subst hb
  obtain ⟨X, hX, ec⟩ := e_copy (h := h) 163 117 F.w163 w (by decide) (up2 (up2 (up2 (ww f 117 r) 159 3 (nI β)) 159 4 (nI t)) 159 5 (Int32.ofInt (-1)))
  have y : ∀ a k, a < 159 ∨ 177 ≤ a → X a k = ww f 117 r a k := fun a k ha => by
    rw [hX a k (by omega), up2_ne _ _ (by omega), up2_ne _ _ (by omega), up2_ne _ _ (by omega)]
  have erv : rv (up2 (up2 (up2 (ww f 117 r) 159 3 (nI β)) 159 4 (nI t)) 159 5 (Int32.ofInt (-1))) 117 = r := by
    rw [rv_eq (g := ww f 117 r) (fun a k h1 h2 => by rw [up2_ne _ _ (by omega), up2_ne _ _ (by omega), up2_ne _ _ (by omega)]), rv_ww V.z]
  rw [erv] at ec
  have TX : TB (ww X 163 r) := TB_of (fun a k ha => by rw [ww_out (by omega), y a k (by omega), ww_out (by omega)]) T
  have x3 : ww X 163 r 159 3 = nI β := by
    rw [ww_out (by omega), hX 159 3 (by omega), up2_nk _ _ (by decide), up2_nk _ _ (by decide), up2_same]
  have x4 : ww X 163 r 159 4 = nI t := by
    rw [ww_out (by omega), hX 159 4 (by omega), up2_nk _ _ (by decide), up2_same]
  have x5 : repB (ww X 163 r) t none := by
    show ww X 163 r 159 5 = _
    rw [ww_out (by omega), hX 159 5 (by omega), up2_same]
  obtain ⟨f', o, rp, ex⟩ := e_explore F β k t r Bb.1 ht t (d - 1) 0 n a 0 r (fun _ => 0) none (ww X 163 r) (by omega) (by omega) V Bb (by omega) (by rw [nI_0, Int32.add_zero]) (rv_ww V.z) TX (rv_ww V.z) (fun q hq => absurd hq (by omega)) x3 x4 x5
  have keep : ∀ a k, a < 159 ∨ 233 ≤ a → f' a k = ww f 117 r a k := fun a k ha => by
    rw [o a k (by omega) (by omega) (by omega) (by omega), ww_out (by omega), y a k (by omega)]
  have er : rv f' 117 = r := by rw [rv_eq (g := ww f 117 r) (fun a k h1 h2 => keep a k (by omega)), rv_ww V.z]
  rw [EW_best] at rp
  obtain ⟨x, hx⟩ := best_some r β k t
  rw [hx] at rp
  refine ⟨f', fun a k ha => ?_, by rw [← er, ww_rv], ⟨x, hx, rp.1, rp.2.2⟩, fun Q => ?_⟩
  · have h1 : ¬ (145 ≤ a ∧ a < 233) := fun z => by
      unfold scrC at ha
      simp [show Nat.ble 145 a = true from Nat.ble_eq.mpr z.1, show Nat.blt a 233 = true from Nat.blt_eq.mpr z.2] at ha
    have h2 : ¬ (117 ≤ a ∧ a < 131) := fun z => by
      unfold scrC at ha
      simp [show Nat.ble 117 a = true from Nat.ble_eq.mpr z.1, show Nat.blt a 131 = true from Nat.blt_eq.mpr z.2] at ha
    rw [keep a k (by omega), ww_out (by omega)]
  · simp -implicitDefEqProofs (disch := first | omega | (simp (disch := omega) only [nb_upr]; omega)) only [R_306, w_306_0, zi_0, zi_0n, zi_177, zi_88, zi_179, zi_34, zi_180, zi_37, zi_181, zi_182, zi_31, zi_183, zi_92, zi_102, zi_823, zi_41, F.t100, hn, F.r100_3, F.t159, F.r159_0, F.t160, F.l160, F.r160_0, F.w163.t, kC_eq, toL_s, toL_n, okS0, okS1, okS2, okS3, okS4, okS5, true_and, and_true, hT_wI, hL_wI, hR_wI, hI_wI, hJ_wI, sI_wI, rfP, isIA_100, isIA_120, inb_ok, nI_clamp, nI_add, nI_mul, ↓reduceIte, not_false_eq_true, not_true_eq_false, true_or, or_true, ↓bI_01, ↓b01_0, ↓b01_1, bI_0, z00, z10, n4, n5, n2, n8, Nat.reduceMul, Nat.reduceAdd, Nat.reduceLT, Nat.reduceLeDiff, ec, ex]
/-! the reference's -/
theorem moveB2 (F : FR h) {f f1 : Nat → Nat → Int32} (s : Sc f f1) (h7 : rm f1 237 = r) (ρ : Nat → Int32) : ∃ f2, (Sc f f2 ∧ rm f2 237 = r) ∧ (∀ a, ¬ a = 234 → f2 a = f1 a) ∧ ∀ d Q, Run d 762 [.ref 237, .ref 234] (wI h (mw f1 234 ρ)) Q = Q none (wI h (mw f2 234 r)) := by
  obtain ⟨X, h1, h2, h3⟩ := e_move (h := h) 237 234 F.t237 F.l237 F.t234 F.l234 (by decide) (mw f1 234 ρ)
  have e7 : (mw f1 234 ρ) 237 = f1 237 := by funext k; exact mw_out (by decide)
  rw [rm_eq e7, h7] at h2
  have ho : ∀ a, ¬ a = 234 → X a = f1 a := fun a ha => by
    rw [h1 a ha]
    funext k
    exact mw_out ha
  refine ⟨X, ⟨fun a k ha => ?_, ?_⟩, ho, fun d Q => ?_⟩
  · rw [ho a (by rintro rfl; cases ha)]
    exact s a k ha
  · rw [rm_eq ((h1 237 (by decide)).trans e7), h7]
  · have e : mw X 234 r = X := by
      have := mw_rm X 234
      rwa [h2] at this
    rw [h3, e]
theorem pow3_loop (d e : Nat) (he : e ≤ 10) (Q : Option Value → PH → Prop) : ∀ (j i : Nat), i + j = e → WP d 1169 1 [.int (nI e), .int (nI (3 ^ i)), .int (nI i)] [] h Q = Q (some (.int (nI (3 ^ e)))) h
  | 0, i, hi => by
    obtain rfl : i = e := by omega
    rw [w_1169_1]
    simp -implicitDefEqProofs (disch := first | omega | (simp (disch := omega) only [nb_upr]; omega)) only [w_1169_2, zi_48, zi_96i, zi_96r, zi_96u, zi_96a, zi_31, zi_32i, zi_32r, zi_32u, zi_32a, zi_33, zi_34, zi_87, zi_35, zi_88, zi_54, zi_79, zi_39i, zi_39r, zi_39u, zi_39a, zi_40, zi_67w1, zi_67w2, kC_eq, toL_s, toL_n, okS0, okS1, okS2, okS3, okS4, okS5, true_and, and_true, hT_wI, hL_wI, hR_wI, hI_wI, hJ_wI, sI_wI, rfP, isIA_100, isIA_120, inb_ok, nI_clamp, nI_add, nI_mul, ↓reduceIte, not_false_eq_true, not_true_eq_false, true_or, or_true, ↓bI_01, ↓b01_0, ↓b01_1, bI_0, z00, z10, n4, n5, n2, n8, Nat.reduceMul, Nat.reduceAdd, Nat.reduceLT, Nat.reduceLeDiff, nI_eq, nI_leI, nI_ltI, Nat.reduceEqDiff, pk_div, nI_sub, Nat.reduceDiv, Nat.reduceSub, Nat.le_refl]
  | j + 1, i, hi => by
    have g : ¬ e ≤ i := by omega
    have ih := pow3_loop d e he Q j (i + 1) (by omega)
    rw [Nat.pow_succ] at ih
    rw [w_1169_1]
    simp -implicitDefEqProofs (disch := first | omega | (simp (disch := omega) only [nb_upr]; omega)) only [zi_48, zi_96i, zi_96r, zi_96u, zi_96a, zi_31, zi_32i, zi_32r, zi_32u, zi_32a, zi_33, zi_34, zi_87, zi_35, zi_88, zi_54, zi_79, zi_39i, zi_39r, zi_39u, zi_39a, zi_40, zi_67w1, zi_67w2, kC_eq, toL_s, toL_n, okS0, okS1, okS2, okS3, okS4, okS5, true_and, and_true, hT_wI, hL_wI, hR_wI, hI_wI, hJ_wI, sI_wI, rfP, isIA_100, isIA_120, inb_ok, nI_clamp, nI_add, nI_mul, ↓reduceIte, not_false_eq_true, not_true_eq_false, true_or, or_true, ↓bI_01, ↓b01_0, ↓b01_1, bI_0, z00, z10, n4, n5, n2, n8, Nat.reduceMul, Nat.reduceAdd, Nat.reduceLT, Nat.reduceLeDiff, nI_eq, nI_leI, nI_ltI, Nat.reduceEqDiff, pk_div, nI_sub, Nat.reduceDiv, Nat.reduceSub, g]
    exact ih
theorem e_pow3 (d e : Nat) (he : e ≤ 10) (Q : Option Value → PH → Prop) : Run d 1169 [.int (nI e)] h Q = Q (some (.int (nI (3 ^ e)))) h := by
  simp -implicitDefEqProofs (disch := first | omega | (simp (disch := omega) only [nb_upr]; omega)) only [R_1169, w_1169_0, zi_48, zi_96i, zi_96r, zi_96u, zi_96a, zi_31, zi_32i, zi_32r, zi_32u, zi_32a, zi_33, zi_34, zi_87, zi_35, zi_88, zi_54, zi_79, zi_39i, zi_39r, zi_39u, zi_39a, zi_40, zi_67w1, zi_67w2, kC_eq, toL_s, toL_n, okS0, okS1, okS2, okS3, okS4, okS5, true_and, and_true, hT_wI, hL_wI, hR_wI, hI_wI, hJ_wI, sI_wI, rfP, isIA_100, isIA_120, inb_ok, nI_clamp, nI_add, nI_mul, ↓reduceIte, not_false_eq_true, not_true_eq_false, true_or, or_true, ↓bI_01, ↓b01_0, ↓b01_1, bI_0, z00, z10, n4, n5, n2, n8, Nat.reduceMul, Nat.reduceAdd, Nat.reduceLT, Nat.reduceLeDiff]
  exact pow3_loop d e he Q e 0 (by omega)
theorem nIn {x : Nat} (hx : x < 2147483648) (h0 : 0 < x) : (nI x = (0 : Int32)) = False := eq_false (nI_ne0 h0 hx)
theorem e_option (d a c : Nat) (ha : a < 8) (hc : c < 3) (Q : Option Value → PH → Prop) : Run d 1178 [.int (nI a), .int (nI c)] h Q = Q (some (.int (nI (opt a c)))) h := by
  unfold opt
  by_cases h0 : a = 0
  · subst h0
    by_cases h2 : c < 2
    · have g : ¬ 2 ≤ c := by omega
      simp -implicitDefEqProofs (disch := first | omega | (simp (disch := omega) only [nb_upr]; omega)) only [R_1178, w_1178_0, w_1178_1, w_1178_2, w_1178_3, w_1178_4, w_1178_5, w_1178_6, zi_87, zi_269, zi_88, zi_51, zi_186, zi_112, zi_123, zi_113, zi_67w1, zi_67w2, zi_135, zi_222, zi_31, zi_224, zi_59, zi_70, zi_206, zi_48, zi_101, kC_eq, toL_s, toL_n, okS0, okS1, okS2, okS3, okS4, okS5, true_and, and_true, hT_wI, hL_wI, hR_wI, hI_wI, hJ_wI, sI_wI, rfP, isIA_100, isIA_120, inb_ok, nI_clamp, nI_add, nI_mul, ↓reduceIte, not_false_eq_true, not_true_eq_false, true_or, or_true, ↓bI_01, ↓b01_0, ↓b01_1, bI_0, z00, z10, n4, n5, n2, n8, Nat.reduceMul, Nat.reduceAdd, Nat.reduceLT, Nat.reduceLeDiff, nI_eq, nI_leI, nI_ltI, Nat.reduceEqDiff, pk_div, nI_sub, Nat.reduceDiv, Nat.reduceSub, g, h2]
    · have g : 2 ≤ c := by omega
      simp -implicitDefEqProofs (disch := first | omega | (simp (disch := omega) only [nb_upr]; omega)) only [R_1178, w_1178_0, w_1178_1, w_1178_2, w_1178_3, w_1178_4, w_1178_5, w_1178_6, zi_87, zi_269, zi_88, zi_51, zi_186, zi_112, zi_123, zi_113, zi_67w1, zi_67w2, zi_135, zi_222, zi_31, zi_224, zi_59, zi_70, zi_206, zi_48, zi_101, kC_eq, toL_s, toL_n, okS0, okS1, okS2, okS3, okS4, okS5, true_and, and_true, hT_wI, hL_wI, hR_wI, hI_wI, hJ_wI, sI_wI, rfP, isIA_100, isIA_120, inb_ok, nI_clamp, nI_add, nI_mul, ↓reduceIte, not_false_eq_true, not_true_eq_false, true_or, or_true, ↓bI_01, ↓b01_0, ↓b01_1, bI_0, z00, z10, n4, n5, n2, n8, Nat.reduceMul, Nat.reduceAdd, Nat.reduceLT, Nat.reduceLeDiff, nI_eq, nI_leI, nI_ltI, Nat.reduceEqDiff, pk_div, nI_sub, Nat.reduceDiv, Nat.reduceSub, g, h2]
  · by_cases h7 : a = 7
    · subst h7
      have z : ¬ (7 : Nat) = 0 := by decide
      by_cases c0 : c = 0
      · subst c0
        simp -implicitDefEqProofs (disch := first | omega | (simp (disch := omega) only [nb_upr]; omega)) only [R_1178, w_1178_0, w_1178_1, w_1178_2, w_1178_3, w_1178_4, w_1178_5, w_1178_6, zi_87, zi_269, zi_88, zi_51, zi_186, zi_112, zi_123, zi_113, zi_67w1, zi_67w2, zi_135, zi_222, zi_31, zi_224, zi_59, zi_70, zi_206, zi_48, zi_101, kC_eq, toL_s, toL_n, okS0, okS1, okS2, okS3, okS4, okS5, true_and, and_true, hT_wI, hL_wI, hR_wI, hI_wI, hJ_wI, sI_wI, rfP, isIA_100, isIA_120, inb_ok, nI_clamp, nI_add, nI_mul, ↓reduceIte, not_false_eq_true, not_true_eq_false, true_or, or_true, ↓bI_01, ↓b01_0, ↓b01_1, bI_0, z00, z10, n4, n5, n2, n8, Nat.reduceMul, Nat.reduceAdd, Nat.reduceLT, Nat.reduceLeDiff, nI_eq, nI_leI, nI_ltI, Nat.reduceEqDiff, pk_div, nI_sub, Nat.reduceDiv, Nat.reduceSub, nIn, z]
      · simp -implicitDefEqProofs (disch := first | omega | (simp (disch := omega) only [nb_upr]; omega)) only [R_1178, w_1178_0, w_1178_1, w_1178_2, w_1178_3, w_1178_4, w_1178_5, w_1178_6, zi_87, zi_269, zi_88, zi_51, zi_186, zi_112, zi_123, zi_113, zi_67w1, zi_67w2, zi_135, zi_222, zi_31, zi_224, zi_59, zi_70, zi_206, zi_48, zi_101, kC_eq, toL_s, toL_n, okS0, okS1, okS2, okS3, okS4, okS5, true_and, and_true, hT_wI, hL_wI, hR_wI, hI_wI, hJ_wI, sI_wI, rfP, isIA_100, isIA_120, inb_ok, nI_clamp, nI_add, nI_mul, ↓reduceIte, not_false_eq_true, not_true_eq_false, true_or, or_true, ↓bI_01, ↓b01_0, ↓b01_1, bI_0, z00, z10, n4, n5, n2, n8, Nat.reduceMul, Nat.reduceAdd, Nat.reduceLT, Nat.reduceLeDiff, nI_eq, nI_leI, nI_ltI, Nat.reduceEqDiff, pk_div, nI_sub, Nat.reduceDiv, Nat.reduceSub, nIn, z, c0]
    · simp -implicitDefEqProofs (disch := first | omega | (simp (disch := omega) only [nb_upr]; omega)) only [R_1178, w_1178_0, w_1178_1, w_1178_2, w_1178_3, w_1178_4, w_1178_5, w_1178_6, zi_87, zi_269, zi_88, zi_51, zi_186, zi_112, zi_123, zi_113, zi_67w1, zi_67w2, zi_135, zi_222, zi_31, zi_224, zi_59, zi_70, zi_206, zi_48, zi_101, kC_eq, toL_s, toL_n, okS0, okS1, okS2, okS3, okS4, okS5, true_and, and_true, hT_wI, hL_wI, hR_wI, hI_wI, hJ_wI, sI_wI, rfP, isIA_100, isIA_120, inb_ok, nI_clamp, nI_add, nI_mul, ↓reduceIte, not_false_eq_true, not_true_eq_false, true_or, or_true, ↓bI_01, ↓b01_0, ↓b01_1, bI_0, z00, z10, n4, n5, n2, n8, Nat.reduceMul, Nat.reduceAdd, Nat.reduceLT, Nat.reduceLeDiff, nI_eq, nI_leI, nI_ltI, Nat.reduceEqDiff, pk_div, nI_sub, Nat.reduceDiv, Nat.reduceSub, nIn, h0, h7]
def repM (f : Nat → Nat → Int32) (t : Nat) (B : Option (Nat × (Nat → Nat))) : Prop := match B with
  | none => f 233 19 = Int32.ofInt (-1)
  | some x => f 233 19 = nI x.1 ∧ x.1 < 1000000 ∧ ∀ q, q < t → f 241 q = nI (x.2 q)
theorem dg_lt (x : Nat) : x % 3 < 3 := Nat.mod_lt x (by decide)
theorem Bt_yR {n β a k : Nat} (V : Vr n r) (Bb : Bt r β a k) {δ : Nat → Nat} : ∀ i, (∀ q, q < i → δ q < 3) → ∃ a', Vr (n + i) (yR r β k δ i) ∧ Bt (yR r β k δ i) β a' k ∧ yW r β k δ i ≤ 14850 * i
  | 0, _ => ⟨a, V, Bb, by show 0 ≤ _; omega⟩
  | i + 1, hq => by
    obtain ⟨a', V1, B1, hw⟩ := Bt_yR V Bb i (fun q h => hq q (by omega))
    have hs : pth r β k δ i < 8 := by
      unfold pth
      rw [B1.an]
      exact opt_lt a' B1.2.1 _ (hq i (by omega))
    obtain ⟨-, -, V2, B2, hw2, -⟩ := stp_ok V1 B1.1 B1.2.2.1 B1.2.2.2.2 hs
    refine ⟨pth r β k δ i, V2, B2, ?_⟩
    show yW r β k δ i + stpW (yR r β k δ i) β k (pth r β k δ i) ≤ _
    omega
theorem fp_in (F : FR h) (V : Vr n r) (β a k t c : Nat) (Bb : Bt r β a k) (ht : t ≤ 4) (hc : c < 100) (d : Nat) (hd : 5 ≤ d) :
    ∀ (j i : Nat) (f1 : Nat → Nat → Int32), TB f1 → i + j = t → (∀ q, q < i → f1 242 q = nI (pth r β k (ovr (fun _ => 0) 0 t c) q)) →
      ∃ f2, (∀ a k, ¬ a = 242 → sc1 a k = false → f2 a k = f1 a k) ∧ (∀ q, q < t → f2 242 q = nI (pth r β k (ovr (fun _ => 0) 0 t c) q)) ∧ ∀ Q, WP d 1162 2 [.ref 233, .int (nI β), .int (nI t), .int (nI c), .int (nI (yW r β k (ovr (fun _ => 0) 0 t c) i)), .int (nI i)] [] (wI h (mw f1 234 (yR r β k (ovr (fun _ => 0) 0 t c) i))) Q
        = WP d 1162 3 [.ref 233, .int (nI β), .int (nI t), .int (nI c), .int (nI (yW r β k (ovr (fun _ => 0) 0 t c) t)), .int (nI t)] [] (wI h (mw f2 234 (yR r β k (ovr (fun _ => 0) 0 t c) t))) Q := by
  have hdg : ∀ q, ovr (fun _ => 0) 0 t c q < 3 := fun q => dg_lt _
  have hdv : ∀ q, ovr (fun _ => 0) 0 t c q = c / 3 ^ (t - 1 - q) % 3 := fun q => rfl
  generalize ovr (fun _ => 0) 0 t c = δ at *
  intro j
  induction j with
  | zero =>
    intro i f1 T hi hp
    obtain rfl : i = t := by omega
    refine ⟨f1, fun _ _ _ _ => rfl, hp, fun Q => ?_⟩
    rw [w_1162_2]
    simp -implicitDefEqProofs (disch := first | omega | (simp (disch := omega) only [nb_upr]; omega)) only [zi_0, zi_0n, zi_357, zi_487, zi_378, zi_37, zi_494, zi_31, zi_111i, zi_111r, zi_111u, zi_111a, zi_33, zi_63, zi_34, zi_495, zi_195, zi_74i, zi_74r, zi_74u, zi_74a, zi_164i, zi_164r, zi_164u, zi_164a, zi_113, zi_165, zi_157, zi_88, zi_51, zi_459, zi_48, zi_101, zi_238, zi_54, zi_196, zi_496, zi_457, zi_497, zi_38, zi_469, zi_76, zi_475, zi_70, zi_478, zi_168i, zi_168r, zi_168u, zi_168a, zi_112, zi_493, zi_498, zi_133, zi_166, zi_499, zi_106, zi_131, zi_158i, zi_158r, zi_158u, zi_158a, zi_40, zi_41, kC_eq, toL_s, toL_n, okS0, okS1, okS2, okS3, okS4, okS5, true_and, and_true, hT_wI, hL_wI, hR_wI, hI_wI, hJ_wI, sI_wI, rfP, isIA_100, isIA_120, inb_ok, nI_clamp, nI_add, nI_mul, ↓reduceIte, not_false_eq_true, not_true_eq_false, true_or, or_true, ↓bI_01, ↓b01_0, ↓b01_1, bI_0, z00, z10, n4, n5, n2, n8, Nat.reduceMul, Nat.reduceAdd, Nat.reduceLT, Nat.reduceLeDiff, nI_eq, nI_leI, nI_ltI, Nat.reduceEqDiff, pk_div, nI_sub, Nat.reduceDiv, Nat.reduceSub, Nat.le_refl]
  | succ j ih0 =>
    intro i f1 T hi hp
    have g : ¬ t ≤ i := by omega
    obtain ⟨a', V1, B1, hwi⟩ := Bt_yR V Bb i (fun q _ => hdg q)
    have hβ := B1.1
    have h6 := V1.nb6
    have hs : pth r β k δ i < 8 := by
      unfold pth
      rw [B1.an]
      exact opt_lt a' B1.2.1 _ (hdg i)
    obtain ⟨V2, B2, V3, B3, hw2, ew⟩ := stp_ok V1 hβ B1.2.2.1 B1.2.2.2.2 hs
    have ep : opt a' (δ i) = pth r β k δ i := by unfold pth; rw [B1.an]
    have edg : c / 3 ^ (t - 1 - i) - c / 3 ^ (t - 1 - i) / 3 * 3 = δ i := by rw [hdv]; omega
    have hpw : 0 < 3 ^ (t - 1 - i) := Nat.pow_pos (by decide)
    have hpw2 : 3 ^ (t - 1 - i) ≤ 3 ^ 4 := Nat.pow_le_pow_right (by decide) (by omega)
    have hpw3 : (3 : Nat) ^ 4 = 81 := by decide
    have hcd : c / 3 ^ (t - 1 - i) ≤ c := Nat.div_le_self _ _
    have e1 : yR r β k δ (i + 1) = stpR (yR r β k δ i) β k (pth r β k δ i) := rfl
    have e2 : yW r β k δ (i + 1) = yW r β k δ i + stpW (yR r β k δ i) β k (pth r β k δ i) := rfl
    generalize eS : pth r β k δ i = S at *
    generalize yR r β k δ i = ρ at *
    have T1 : TB (up2 f1 242 i (nI S)) := TB_of (fun a k ha => up2_ne _ _ (by omega)) T
    have s1 := S1.hw (up2 f1 242 i (nI S)) (hlA (upr ρ (78 + 10 * β) (nI S)) β S k) (hlW (upr ρ (78 + 10 * β) (nI S)) β S k)
    obtain ⟨f3, ⟨s3, k3⟩, eb⟩ := e_bellGoes (d := d - 1) (f := hw (up2 f1 242 i (nI S)) (hlA (upr ρ (78 + 10 * β) (nI S)) β S k) (hlW (upr ρ (78 + 10 * β) (nI S)) β S k)) F (Vr_hl V2 B2.1 B2.2.1 B2.2.2.1).vs (by omega)
    have s13 := s1.trans s3
    rw [ew] at eb
    obtain ⟨f4, o4, p4, x4⟩ := ih0 (i + 1) f3 (s13.tb T1) (by omega) (fun q hq => by
      rw [s13 242 q rfl]
      by_cases z : q = i
      · subst z; rw [up2_same, eS]
      · rw [up2_nk _ _ z]; exact hp q (by omega))
    refine ⟨f4, fun a k ha hk => by rw [o4 a k ha hk, s13 a k hk, up2_ne _ _ ha], p4, fun Q => ?_⟩
    rw [e1, e2] at x4
    rw [← x4 Q, w_1162_2]
    have n3 : (nI 3 = (0 : Int32)) = False := eq_false (by decide)
    have er : bell (hlR (upr ρ (78 + 10 * β) (nI S)) β S k) = stpR ρ β k S := rfl
    simp -implicitDefEqProofs (disch := first | omega | (simp (disch := omega) only [nb_upr]; omega)) only [zi_0, zi_0n, zi_357, zi_487, zi_378, zi_37, zi_494, zi_31, zi_111i, zi_111r, zi_111u, zi_111a, zi_33, zi_63, zi_34, zi_495, zi_195, zi_74i, zi_74r, zi_74u, zi_74a, zi_164i, zi_164r, zi_164u, zi_164a, zi_113, zi_165, zi_157, zi_88, zi_51, zi_459, zi_48, zi_101, zi_238, zi_54, zi_196, zi_496, zi_457, zi_497, zi_38, zi_469, zi_76, zi_475, zi_70, zi_478, zi_168i, zi_168r, zi_168u, zi_168a, zi_112, zi_493, zi_498, zi_133, zi_166, zi_499, zi_106, zi_131, zi_158i, zi_158r, zi_158u, zi_158a, zi_40, zi_41, F.t233, F.r233_18, F.t242, F.l242, kC_eq, toL_s, toL_n, okS0, okS1, okS2, okS3, okS4, okS5, true_and, and_true, hT_wI, hL_wI, hR_wI, hI_wI, hJ_wI, sI_wI, rfP, isIA_100, isIA_120, inb_ok, nI_clamp, nI_add, nI_mul, ↓reduceIte, not_false_eq_true, not_true_eq_false, true_or, or_true, ↓bI_01, ↓b01_0, ↓b01_1, bI_0, z00, z10, n4, n5, n2, n8, Nat.reduceMul, Nat.reduceAdd, Nat.reduceLT, Nat.reduceLeDiff, nI_eq, nI_leI, nI_ltI, Nat.reduceEqDiff, pk_div, nI_sub, Nat.reduceDiv, Nat.reduceSub, g, n3, e_its2 F, B1.2.2.2.1, e_pow3, nIn, edg, e_option _ a' (δ i) B1.2.1 (hdg i), ep, e_sets2 F, upr_same, mw_up2, e_hauls F T1 V2 β S k B2.1 (show β < 6 by omega) B2.2.1 B2.2.2.1 B2.2.2.2.1 B2.2.2.2.2, mw_out, hw_15, ew, eb, er]
theorem cp_stops (F : FR h) (β t c W : Nat) (ht : t ≤ 4) (d : Nat) (ρ : Nat → Int32) (f1 : Nat → Nat → Int32) (Q : Option Value → PH → Prop) :
    ∀ (j i : Nat), i + j = t → WP d 1162 4 [.ref 233, .int (nI β), .int (nI t), .int (nI c), .int (nI W), .int (nI i)] [] (wI h (mw (cpf f1 242 241 i) 234 ρ)) Q = WP d 1162 1 [.ref 233, .int (nI β), .int (nI t), .int (nI (c + 1)), .int (nI W), .int (nI t)] [] (wI h (mw (cpf f1 242 241 t) 234 ρ)) Q := by
  intro j
  induction j with
  | zero =>
    intro i hi
    obtain rfl : i = t := by omega
    rw [w_1162_4]
    simp -implicitDefEqProofs (disch := first | omega | (simp (disch := omega) only [nb_upr]; omega)) only [w_1162_5, zi_0, zi_0n, zi_357, zi_487, zi_378, zi_37, zi_494, zi_31, zi_111i, zi_111r, zi_111u, zi_111a, zi_33, zi_63, zi_34, zi_495, zi_195, zi_74i, zi_74r, zi_74u, zi_74a, zi_164i, zi_164r, zi_164u, zi_164a, zi_113, zi_165, zi_157, zi_88, zi_51, zi_459, zi_48, zi_101, zi_238, zi_54, zi_196, zi_496, zi_457, zi_497, zi_38, zi_469, zi_76, zi_475, zi_70, zi_478, zi_168i, zi_168r, zi_168u, zi_168a, zi_112, zi_493, zi_498, zi_133, zi_166, zi_499, zi_106, zi_131, zi_158i, zi_158r, zi_158u, zi_158a, zi_40, zi_41, kC_eq, toL_s, toL_n, okS0, okS1, okS2, okS3, okS4, okS5, true_and, and_true, hT_wI, hL_wI, hR_wI, hI_wI, hJ_wI, sI_wI, rfP, isIA_100, isIA_120, inb_ok, nI_clamp, nI_add, nI_mul, ↓reduceIte, not_false_eq_true, not_true_eq_false, true_or, or_true, ↓bI_01, ↓b01_0, ↓b01_1, bI_0, z00, z10, n4, n5, n2, n8, Nat.reduceMul, Nat.reduceAdd, Nat.reduceLT, Nat.reduceLeDiff, nI_eq, nI_leI, nI_ltI, Nat.reduceEqDiff, pk_div, nI_sub, Nat.reduceDiv, Nat.reduceSub, Nat.le_refl]
  | succ j ih0 =>
    intro i hi
    have g : ¬ t ≤ i := by omega
    have ih := ih0 (i + 1) (by omega)
    have e : up2 (cpf f1 242 241 i) 241 i (f1 242 i) = cpf f1 242 241 (i + 1) := by
      funext a q
      unfold up2 cpf
      by_cases z : a = 241 ∧ q = i
      · rw [if_pos z, if_pos ⟨z.1, by omega⟩, z.2]
      · rw [if_neg z]
        by_cases y : a = 241 ∧ q < i
        · rw [if_pos y, if_pos ⟨y.1, by omega⟩]
        · rw [if_neg y, if_neg (fun x => by have := x.1; have := x.2; by_cases q = i; exact z ⟨x.1, by assumption⟩; exact y ⟨x.1, by omega⟩)]
    rw [← ih, w_1162_4]
    simp -implicitDefEqProofs (disch := first | omega | (simp (disch := omega) only [nb_upr]; omega)) only [zi_0, zi_0n, zi_357, zi_487, zi_378, zi_37, zi_494, zi_31, zi_111i, zi_111r, zi_111u, zi_111a, zi_33, zi_63, zi_34, zi_495, zi_195, zi_74i, zi_74r, zi_74u, zi_74a, zi_164i, zi_164r, zi_164u, zi_164a, zi_113, zi_165, zi_157, zi_88, zi_51, zi_459, zi_48, zi_101, zi_238, zi_54, zi_196, zi_496, zi_457, zi_497, zi_38, zi_469, zi_76, zi_475, zi_70, zi_478, zi_168i, zi_168r, zi_168u, zi_168a, zi_112, zi_493, zi_498, zi_133, zi_166, zi_499, zi_106, zi_131, zi_158i, zi_158r, zi_158u, zi_158a, zi_40, zi_41, F.t233, F.r233_17, F.r233_18, F.t241, F.l241, F.t242, F.l242, kC_eq, toL_s, toL_n, okS0, okS1, okS2, okS3, okS4, okS5, true_and, and_true, hT_wI, hL_wI, hR_wI, hI_wI, hJ_wI, sI_wI, rfP, isIA_100, isIA_120, inb_ok, nI_clamp, nI_add, nI_mul, ↓reduceIte, not_false_eq_true, not_true_eq_false, true_or, or_true, ↓bI_01, ↓b01_0, ↓b01_1, bI_0, z00, z10, n4, n5, n2, n8, Nat.reduceMul, Nat.reduceAdd, Nat.reduceLT, Nat.reduceLeDiff, nI_eq, nI_leI, nI_ltI, Nat.reduceEqDiff, pk_div, nI_sub, Nat.reduceDiv, Nat.reduceSub, g, mw_out, mw_up2, cpf_ne, e]
theorem fp_loop (F : FR h) (V : Vr n r) (β a k t : Nat) (Bb : Bt r β a k) (ht : t ≤ 4) (d : Nat) (hd : 5 ≤ d) (f0 : Nat → Nat → Int32) (T : TB f0) :
    ∀ (j c : Nat) (v4 v5 : Value) (f1 : Nat → Nat → Int32), (Sc f0 f1 ∧ rm f1 237 = r) → c + j = 3 ^ t → repM f1 t (fd (fun c B => updB (yW r β k (ovr (fun _ => 0) 0 t c) t) (lp r β k (ovr (fun _ => 0) 0 t c) t) B) c none) →
      ∃ f2, Sc f0 f2 ∧ repM f2 t (bestP r β k t) ∧ ∀ Q, WP d 1162 1 [.ref 233, .int (nI β), .int (nI t), .int (nI c), v4, v5] [] (wI h (mw f1 234 r)) Q = Q none (wI h (mw f2 234 r)) := by
  have hp2 : 3 ^ t ≤ 3 ^ 4 := Nat.pow_le_pow_right (by decide) ht
  have hp3 : (3 : Nat) ^ 4 = 81 := by decide
  intro j
  induction j with
  | zero =>
    intro c v4 v5 f1 H hc hB
    obtain rfl : c = 3 ^ t := by omega
    refine ⟨f1, H.1, hB, fun Q => ?_⟩
    rw [w_1162_1]
    simp -implicitDefEqProofs (disch := first | omega | (simp (disch := omega) only [nb_upr]; omega)) only [w_1162_6, zi_0, zi_0n, zi_357, zi_487, zi_378, zi_37, zi_494, zi_31, zi_111i, zi_111r, zi_111u, zi_111a, zi_33, zi_63, zi_34, zi_495, zi_195, zi_74i, zi_74r, zi_74u, zi_74a, zi_164i, zi_164r, zi_164u, zi_164a, zi_113, zi_165, zi_157, zi_88, zi_51, zi_459, zi_48, zi_101, zi_238, zi_54, zi_196, zi_496, zi_457, zi_497, zi_38, zi_469, zi_76, zi_475, zi_70, zi_478, zi_168i, zi_168r, zi_168u, zi_168a, zi_112, zi_493, zi_498, zi_133, zi_166, zi_499, zi_106, zi_131, zi_158i, zi_158r, zi_158u, zi_158a, zi_40, zi_41, kC_eq, toL_s, toL_n, okS0, okS1, okS2, okS3, okS4, okS5, true_and, and_true, hT_wI, hL_wI, hR_wI, hI_wI, hJ_wI, sI_wI, rfP, isIA_100, isIA_120, inb_ok, nI_clamp, nI_add, nI_mul, ↓reduceIte, not_false_eq_true, not_true_eq_false, true_or, or_true, ↓bI_01, ↓b01_0, ↓b01_1, bI_0, z00, z10, n4, n5, n2, n8, Nat.reduceMul, Nat.reduceAdd, Nat.reduceLT, Nat.reduceLeDiff, nI_eq, nI_leI, nI_ltI, Nat.reduceEqDiff, pk_div, nI_sub, Nat.reduceDiv, Nat.reduceSub, e_pow3, Nat.le_refl]
  | succ j ih0 =>
    intro c v4 v5 f1 H hc hB
    have g : ¬ 3 ^ t ≤ c := by omega
    obtain ⟨f2, o2, p2, x2⟩ := fp_in F V β a k t c Bb ht (by omega) d hd t 0 f1 (H.1.tb T) (by omega) (fun q hq => absurd hq (by omega))
    have sc2 : Sc f0 f2 := fun a k ha => by
      rw [o2 a k (by rintro rfl; cases ha) (by
        unfold scr at ha
        unfold sc1
        by_cases h1 : a = 240
        · subst h1; cases ha
        · by_cases h2 : a = 233
          · subst h2
            by_cases h3 : k = 14
            · subst h3; cases ha
            · by_cases h4 : k = 15
              · subst h4; cases ha
              · simp [h3, h4]
          · simp [h1, h2])]
      exact H.1 a k ha
    have r2 : rm f2 237 = r := by rw [rm_eq (show f2 237 = f1 237 by funext k; exact o2 237 k (by decide) rfl), H.2]
    obtain ⟨f3, ⟨s3, r3⟩, k3, em⟩ := moveB2 F sc2 r2 (yR r β k (ovr (fun _ => 0) 0 t c) t)
    have hdg : ∀ q, ovr (fun _ => 0) 0 t c q < 3 := fun q => dg_lt _
    obtain ⟨a', -, -, hW⟩ := Bt_yR V Bb t (δ := ovr (fun _ => 0) 0 t c) (fun q _ => hdg q)
    have b19 : f3 233 19 = f1 233 19 := by rw [k3 233 (by decide), o2 233 19 (by decide) rfl]
    have b241 : f3 241 = f1 241 := by rw [k3 241 (by decide)]; funext q; exact o2 241 q (by decide) rfl
    have b242 : ∀ q, q < t → f3 242 q = nI (lp r β k (ovr (fun _ => 0) 0 t c) t q) := fun q hq => by
      rw [k3 242 (by decide), p2 q hq]
      unfold lp
      rw [if_pos hq]
    have ef : fd (fun c B => updB (yW r β k (ovr (fun _ => 0) 0 t c) t) (lp r β k (ovr (fun _ => 0) 0 t c) t) B) (c + 1) none = updB (yW r β k (ovr (fun _ => 0) 0 t c) t) (lp r β k (ovr (fun _ => 0) 0 t c) t) (fd (fun c B => updB (yW r β k (ovr (fun _ => 0) 0 t c) t) (lp r β k (ovr (fun _ => 0) 0 t c) t) B) c none) := rfl
    have y0 : yW r β k (ovr (fun _ => 0) 0 t c) 0 = 0 := rfl
    have y1 : yR r β k (ovr (fun _ => 0) 0 t c) 0 = r := rfl
    rw [y0, y1] at x2
    generalize fd (fun c B => updB (yW r β k (ovr (fun _ => 0) 0 t c) t) (lp r β k (ovr (fun _ => 0) 0 t c) t) B) c none = B at *
    generalize yW r β k (ovr (fun _ => 0) 0 t c) t = W at *
    generalize lp r β k (ovr (fun _ => 0) 0 t c) t = P at *
    have take : ¬ nI W ≤ f1 233 19 → updB W P B = some (W, P) → ∃ f2, Sc f0 f2 ∧ repM f2 t (bestP r β k t) ∧ ∀ Q, WP d 1162 1 [.ref 233, .int (nI β), .int (nI t), .int (nI c), v4, v5] [] (wI h (mw f1 234 r)) Q = Q none (wI h (mw f2 234 r)) := by
      intro hz he
      have s4 : Sc f0 (cpf (up2 f3 233 19 (nI W)) 242 241 t) := fun a k ha => by
        rw [cpf_ne (by rintro rfl; cases ha)]
        by_cases h1 : a = 233 ∧ k = 19
        · obtain ⟨rfl, rfl⟩ := h1; cases ha
        · unfold up2; rw [if_neg h1]; exact s3 a k ha
      have r4 : rm (cpf (up2 f3 233 19 (nI W)) 242 241 t) 237 = r := by
        rw [rm_eq (show cpf (up2 f3 233 19 (nI W)) 242 241 t 237 = f3 237 by funext q; rw [cpf_ne (by decide), up2_ne _ _ (by decide)]), r3]
      obtain ⟨f5, s5, rp5, x5⟩ := ih0 (c + 1) (.int (nI W)) (.int (nI t)) (cpf (up2 f3 233 19 (nI W)) 242 241 t) ⟨s4, r4⟩ (by omega) (by
        rw [ef, he]
        refine ⟨?_, by show W < 1000000; omega, fun q hq => ?_⟩
        · rw [cpf_ne (by decide), up2_same]
        · rw [cpf_eq, if_pos hq, up2_ne _ _ (by decide)]; exact b242 q hq)
      refine ⟨f5, s5, rp5, fun Q => ?_⟩
      have hcp := cp_stops F β t c W ht d r (up2 f3 233 19 (nI W)) Q t 0 (by omega)
      have e0 : cpf (up2 f3 233 19 (nI W)) 242 241 0 = up2 f3 233 19 (nI W) := by
        funext a q
        unfold cpf
        rw [if_neg (by omega)]
      rw [e0] at hcp
      rw [← x5 Q, ← hcp, w_1162_1]
      simp -implicitDefEqProofs (disch := first | omega | (simp (disch := omega) only [nb_upr]; omega)) only [zi_0, zi_0n, zi_357, zi_487, zi_378, zi_37, zi_494, zi_31, zi_111i, zi_111r, zi_111u, zi_111a, zi_33, zi_63, zi_34, zi_495, zi_195, zi_74i, zi_74r, zi_74u, zi_74a, zi_164i, zi_164r, zi_164u, zi_164a, zi_113, zi_165, zi_157, zi_88, zi_51, zi_459, zi_48, zi_101, zi_238, zi_54, zi_196, zi_496, zi_457, zi_497, zi_38, zi_469, zi_76, zi_475, zi_70, zi_478, zi_168i, zi_168r, zi_168u, zi_168a, zi_112, zi_493, zi_498, zi_133, zi_166, zi_499, zi_106, zi_131, zi_158i, zi_158r, zi_158u, zi_158a, zi_40, zi_41, kC_eq, toL_s, toL_n, okS0, okS1, okS2, okS3, okS4, okS5, true_and, and_true, hT_wI, hL_wI, hR_wI, hI_wI, hJ_wI, sI_wI, rfP, isIA_100, isIA_120, inb_ok, nI_clamp, nI_add, nI_mul, ↓reduceIte, not_false_eq_true, not_true_eq_false, true_or, or_true, ↓bI_01, ↓b01_0, ↓b01_1, bI_0, z00, z10, n4, n5, n2, n8, Nat.reduceMul, Nat.reduceAdd, Nat.reduceLT, Nat.reduceLeDiff, nI_eq, nI_leI, nI_ltI, Nat.reduceEqDiff, pk_div, nI_sub, Nat.reduceDiv, Nat.reduceSub, e_pow3, g, x2]
      simp -implicitDefEqProofs (disch := first | omega | (simp (disch := omega) only [nb_upr]; omega)) only [w_1162_3, zi_0, zi_0n, zi_357, zi_487, zi_378, zi_37, zi_494, zi_31, zi_111i, zi_111r, zi_111u, zi_111a, zi_33, zi_63, zi_34, zi_495, zi_195, zi_74i, zi_74r, zi_74u, zi_74a, zi_164i, zi_164r, zi_164u, zi_164a, zi_113, zi_165, zi_157, zi_88, zi_51, zi_459, zi_48, zi_101, zi_238, zi_54, zi_196, zi_496, zi_457, zi_497, zi_38, zi_469, zi_76, zi_475, zi_70, zi_478, zi_168i, zi_168r, zi_168u, zi_168a, zi_112, zi_493, zi_498, zi_133, zi_166, zi_499, zi_106, zi_131, zi_158i, zi_158r, zi_158u, zi_158a, zi_40, zi_41, F.t233, F.r233_0, F.r233_3, kC_eq, toL_s, toL_n, okS0, okS1, okS2, okS3, okS4, okS5, true_and, and_true, hT_wI, hL_wI, hR_wI, hI_wI, hJ_wI, sI_wI, rfP, isIA_100, isIA_120, inb_ok, nI_clamp, nI_add, nI_mul, ↓reduceIte, not_false_eq_true, not_true_eq_false, true_or, or_true, ↓bI_01, ↓b01_0, ↓b01_1, bI_0, z00, z10, n4, n5, n2, n8, Nat.reduceMul, Nat.reduceAdd, Nat.reduceLT, Nat.reduceLeDiff, em, mw_out, b19, hz, mw_up2]
    have leave : nI W ≤ f1 233 19 → updB W P B = B → ∃ f2, Sc f0 f2 ∧ repM f2 t (bestP r β k t) ∧ ∀ Q, WP d 1162 1 [.ref 233, .int (nI β), .int (nI t), .int (nI c), v4, v5] [] (wI h (mw f1 234 r)) Q = Q none (wI h (mw f2 234 r)) := by
      intro hz he
      obtain ⟨f5, s5, rp5, x5⟩ := ih0 (c + 1) (.int (nI W)) (.int (nI t)) f3 ⟨s3, r3⟩ (by omega) (by
        rw [ef, he]
        match B, hB with
        | none, hB => exact b19.trans hB
        | some x, hB => exact ⟨b19.trans hB.1, hB.2.1, fun q hq => by rw [b241]; exact hB.2.2 q hq⟩)
      refine ⟨f5, s5, rp5, fun Q => ?_⟩
      rw [← x5 Q, w_1162_1]
      simp -implicitDefEqProofs (disch := first | omega | (simp (disch := omega) only [nb_upr]; omega)) only [zi_0, zi_0n, zi_357, zi_487, zi_378, zi_37, zi_494, zi_31, zi_111i, zi_111r, zi_111u, zi_111a, zi_33, zi_63, zi_34, zi_495, zi_195, zi_74i, zi_74r, zi_74u, zi_74a, zi_164i, zi_164r, zi_164u, zi_164a, zi_113, zi_165, zi_157, zi_88, zi_51, zi_459, zi_48, zi_101, zi_238, zi_54, zi_196, zi_496, zi_457, zi_497, zi_38, zi_469, zi_76, zi_475, zi_70, zi_478, zi_168i, zi_168r, zi_168u, zi_168a, zi_112, zi_493, zi_498, zi_133, zi_166, zi_499, zi_106, zi_131, zi_158i, zi_158r, zi_158u, zi_158a, zi_40, zi_41, kC_eq, toL_s, toL_n, okS0, okS1, okS2, okS3, okS4, okS5, true_and, and_true, hT_wI, hL_wI, hR_wI, hI_wI, hJ_wI, sI_wI, rfP, isIA_100, isIA_120, inb_ok, nI_clamp, nI_add, nI_mul, ↓reduceIte, not_false_eq_true, not_true_eq_false, true_or, or_true, ↓bI_01, ↓b01_0, ↓b01_1, bI_0, z00, z10, n4, n5, n2, n8, Nat.reduceMul, Nat.reduceAdd, Nat.reduceLT, Nat.reduceLeDiff, nI_eq, nI_leI, nI_ltI, Nat.reduceEqDiff, pk_div, nI_sub, Nat.reduceDiv, Nat.reduceSub, e_pow3, g, x2]
      simp -implicitDefEqProofs (disch := first | omega | (simp (disch := omega) only [nb_upr]; omega)) only [w_1162_3, w_1162_5, zi_0, zi_0n, zi_357, zi_487, zi_378, zi_37, zi_494, zi_31, zi_111i, zi_111r, zi_111u, zi_111a, zi_33, zi_63, zi_34, zi_495, zi_195, zi_74i, zi_74r, zi_74u, zi_74a, zi_164i, zi_164r, zi_164u, zi_164a, zi_113, zi_165, zi_157, zi_88, zi_51, zi_459, zi_48, zi_101, zi_238, zi_54, zi_196, zi_496, zi_457, zi_497, zi_38, zi_469, zi_76, zi_475, zi_70, zi_478, zi_168i, zi_168r, zi_168u, zi_168a, zi_112, zi_493, zi_498, zi_133, zi_166, zi_499, zi_106, zi_131, zi_158i, zi_158r, zi_158u, zi_158a, zi_40, zi_41, F.t233, F.r233_0, F.r233_3, kC_eq, toL_s, toL_n, okS0, okS1, okS2, okS3, okS4, okS5, true_and, and_true, hT_wI, hL_wI, hR_wI, hI_wI, hJ_wI, sI_wI, rfP, isIA_100, isIA_120, inb_ok, nI_clamp, nI_add, nI_mul, ↓reduceIte, not_false_eq_true, not_true_eq_false, true_or, or_true, ↓bI_01, ↓b01_0, ↓b01_1, bI_0, z00, z10, n4, n5, n2, n8, Nat.reduceMul, Nat.reduceAdd, Nat.reduceLT, Nat.reduceLeDiff, em, mw_out, b19, hz]
    match B, hB with
    | none, hB => exact take (by rw [show f1 233 19 = _ from hB]; exact m1_nle (by omega)) rfl
    | some x, hB =>
      by_cases z : x.1 < W
      · exact take (by rw [hB.1]; exact nI_ge z (by omega)) (if_pos z)
      · exact leave (by rw [hB.1]; exact nI_le (by omega) (by have := hB.2.1; omega)) (if_neg z)
theorem e_findPlan (F : FR h) (V : Vr n r) (β a k t : Nat) (Bb : Bt r β a k) (ht : t ≤ 4) (d : Nat) (hd : 5 ≤ d) (f : Nat → Nat → Int32) (T : TB f) :
    ∃ f', Sc f f' ∧ repM f' t (bestP r β k t) ∧ ∀ Q, Run d 1162 [.ref 233, .int (nI β), .int (nI t)] (wI h (mw f 234 r)) Q = Q none (wI h (mw f' 234 r)) := by
  obtain ⟨f1, ⟨s1, r1⟩, em⟩ := moveT F V.z f
  have s2 : Sc f (up2 f1 233 19 (Int32.ofInt (-1))) := s1.trans (Sc.up rfl)
  have r2 : rm (up2 f1 233 19 (Int32.ofInt (-1))) 237 = r := by rw [rm_eq (show up2 f1 233 19 (Int32.ofInt (-1)) 237 = f1 237 by funext q; rw [up2_ne _ _ (by decide)]), r1]
  obtain ⟨f2, s3, rp, x⟩ := fp_loop F V β a k t Bb ht d hd f T (3 ^ t) 0 (.retAddr 0) (.retAddr 0) (up2 f1 233 19 (Int32.ofInt (-1))) ⟨s2, r2⟩ (by omega) (by show up2 f1 233 19 _ 233 19 = _; rw [up2_same])
  refine ⟨f2, s3, rp, fun Q => ?_⟩
  rw [← x Q]
  simp -implicitDefEqProofs (disch := first | omega | (simp (disch := omega) only [nb_upr]; omega)) only [R_1162, w_1162_0, zi_0, zi_0n, zi_357, zi_487, zi_378, zi_37, zi_494, zi_31, zi_111i, zi_111r, zi_111u, zi_111a, zi_33, zi_63, zi_34, zi_495, zi_195, zi_74i, zi_74r, zi_74u, zi_74a, zi_164i, zi_164r, zi_164u, zi_164a, zi_113, zi_165, zi_157, zi_88, zi_51, zi_459, zi_48, zi_101, zi_238, zi_54, zi_196, zi_496, zi_457, zi_497, zi_38, zi_469, zi_76, zi_475, zi_70, zi_478, zi_168i, zi_168r, zi_168u, zi_168a, zi_112, zi_493, zi_498, zi_133, zi_166, zi_499, zi_106, zi_131, zi_158i, zi_158r, zi_158u, zi_158a, zi_40, zi_41, F.t233, F.r233_0, F.r233_3, kC_eq, toL_s, toL_n, okS0, okS1, okS2, okS3, okS4, okS5, true_and, and_true, hT_wI, hL_wI, hR_wI, hI_wI, hJ_wI, sI_wI, rfP, isIA_100, isIA_120, inb_ok, nI_clamp, nI_add, nI_mul, ↓reduceIte, not_false_eq_true, not_true_eq_false, true_or, or_true, ↓bI_01, ↓b01_0, ↓b01_1, bI_0, z00, z10, n4, n5, n2, n8, Nat.reduceMul, Nat.reduceAdd, Nat.reduceLT, Nat.reduceLeDiff, em, mw_up2]
theorem p_plan (F : FR h) (hn : hR h 100 0 = some b) (w : WB h b) (hb : b = 117) (V : Vr n r) (s t : Int32) : Pair h b n r 298 1154 [.int s, .int t] := by
  have V' := V.mono (show n ≤ n + 6 by omega)
  have h5 := V.r5
  have h6 := V.nb6
  by_cases hs : s < nI 0 ∨ nI (nb r) - nI 1 < s
  · exact ⟨.int (Int32.ofInt (-1)), r, V', fun f T => ⟨f, ScC.refl f, fun Q => by simp -implicitDefEqProofs (disch := first | omega | (simp (disch := omega) only [nb_upr]; omega)) only [R_298, w_298_0, w_298_1, w_298_2, zi_0, zi_0n, zi_88, zi_139, zi_98, zi_34, zi_31, zi_9, zi_65, zi_108, zi_33, zi_37, zi_67w1, zi_67w2, zi_176, zi_177, zi_178, F.t100, hn, w.t, kC_eq, toL_s, toL_n, okS0, okS1, okS2, okS3, okS4, okS5, true_and, and_true, hT_wI, hL_wI, hR_wI, hI_wI, hJ_wI, sI_wI, rfP, isIA_100, isIA_120, inb_ok, nI_clamp, nI_add, nI_mul, ↓reduceIte, not_false_eq_true, not_true_eq_false, true_or, or_true, ↓bI_01, ↓b01_0, ↓b01_1, bI_0, z00, z10, n4, n5, n2, n8, Nat.reduceMul, Nat.reduceAdd, Nat.reduceLT, Nat.reduceLeDiff, e_noBoat F hn w h5, hs]⟩, fun f T => ⟨f, Sc.refl f, fun Q => by simp -implicitDefEqProofs (disch := first | omega | (simp (disch := omega) only [nb_upr]; omega)) only [R_1154, w_1154_0, w_1154_1, w_1154_2, zi_0, zi_0n, zi_88, zi_458, zi_66, zi_34, zi_31, zi_9, zi_362, zi_452, zi_33, zi_37, zi_67w1, zi_67w2, zi_492, zi_493, F.t233, F.t233, kC_eq, toL_s, toL_n, okS0, okS1, okS2, okS3, okS4, okS5, true_and, and_true, hT_wI, hL_wI, hR_wI, hI_wI, hJ_wI, sI_wI, rfP, isIA_100, isIA_120, inb_ok, nI_clamp, nI_add, nI_mul, ↓reduceIte, not_false_eq_true, not_true_eq_false, true_or, or_true, ↓bI_01, ↓b01_0, ↓b01_1, bI_0, z00, z10, n4, n5, n2, n8, Nat.reduceMul, Nat.reduceAdd, Nat.reduceLT, Nat.reduceLeDiff, e_isBoat F h5, hs]⟩⟩
  by_cases ht : t < nI 0 ∨ nI 4 < t
  · exact ⟨.int (Int32.ofInt (-1)), r, V', fun f T => ⟨f, ScC.refl f, fun Q => by simp -implicitDefEqProofs (disch := first | omega | (simp (disch := omega) only [nb_upr]; omega)) only [R_298, w_298_0, w_298_1, w_298_2, zi_0, zi_0n, zi_88, zi_139, zi_98, zi_34, zi_31, zi_9, zi_65, zi_108, zi_33, zi_37, zi_67w1, zi_67w2, zi_176, zi_177, zi_178, F.t100, hn, w.t, kC_eq, toL_s, toL_n, okS0, okS1, okS2, okS3, okS4, okS5, true_and, and_true, hT_wI, hL_wI, hR_wI, hI_wI, hJ_wI, sI_wI, rfP, isIA_100, isIA_120, inb_ok, nI_clamp, nI_add, nI_mul, ↓reduceIte, not_false_eq_true, not_true_eq_false, true_or, or_true, ↓bI_01, ↓b01_0, ↓b01_1, bI_0, z00, z10, n4, n5, n2, n8, Nat.reduceMul, Nat.reduceAdd, Nat.reduceLT, Nat.reduceLeDiff, e_noBoat F hn w h5, hs, e_outside, ht]⟩, fun f T => ⟨f, Sc.refl f, fun Q => by simp -implicitDefEqProofs (disch := first | omega | (simp (disch := omega) only [nb_upr]; omega)) only [R_1154, w_1154_0, w_1154_1, w_1154_2, zi_0, zi_0n, zi_88, zi_458, zi_66, zi_34, zi_31, zi_9, zi_362, zi_452, zi_33, zi_37, zi_67w1, zi_67w2, zi_492, zi_493, F.t233, F.t233, kC_eq, toL_s, toL_n, okS0, okS1, okS2, okS3, okS4, okS5, true_and, and_true, hT_wI, hL_wI, hR_wI, hI_wI, hJ_wI, sI_wI, rfP, isIA_100, isIA_120, inb_ok, nI_clamp, nI_add, nI_mul, ↓reduceIte, not_false_eq_true, not_true_eq_false, true_or, or_true, ↓bI_01, ↓b01_0, ↓b01_1, bI_0, z00, z10, n4, n5, n2, n8, Nat.reduceMul, Nat.reduceAdd, Nat.reduceLT, Nat.reduceLeDiff, e_isBoat F h5, hs, e_in, ht]⟩⟩
  obtain ⟨β, hβ, rfl⟩ := btwB V hs
  obtain ⟨t, -, ht4, rfl⟩ := btw (by decide) (by decide) ht
  obtain ⟨a, k, B⟩ := V.bt hβ
  obtain ⟨x, hx⟩ := best_some r β k t
  refine ⟨.int (nI x.1), r, V', fun f T => ?_, fun f T => ?_⟩
  · obtain ⟨f', sc, eg, ⟨y, hy, e1, -⟩, ex⟩ := e_findWay F hb V β a k t B ht4 f T hn 29 (by decide)
    obtain rfl : y = x := by rw [hx] at hy; cases hy; rfl
    refine ⟨f', sc, fun Q => ?_⟩
    rw [eg]
    simp -implicitDefEqProofs (disch := first | omega | (simp (disch := omega) only [nb_upr]; omega)) only [R_298, w_298_0, w_298_1, w_298_2, zi_0, zi_0n, zi_88, zi_139, zi_98, zi_34, zi_31, zi_9, zi_65, zi_108, zi_33, zi_37, zi_67w1, zi_67w2, zi_176, zi_177, zi_178, F.t100, F.r100_3, F.t159, kC_eq, toL_s, toL_n, okS0, okS1, okS2, okS3, okS4, okS5, true_and, and_true, hT_wI, hL_wI, hR_wI, hI_wI, hJ_wI, sI_wI, rfP, isIA_100, isIA_120, inb_ok, nI_clamp, nI_add, nI_mul, ↓reduceIte, not_false_eq_true, not_true_eq_false, true_or, or_true, ↓bI_01, ↓b01_0, ↓b01_1, bI_0, z00, z10, n4, n5, n2, n8, Nat.reduceMul, Nat.reduceAdd, Nat.reduceLT, Nat.reduceLeDiff, Nat.reduceSub, e_noBoat F hn w h5, hs, e_outside, ht, ex, e1]
  · obtain ⟨f', s2, rp, ex⟩ := e_findPlan F V β a k t B ht4 29 (by decide) f T
    rw [hx] at rp
    refine ⟨f', s2, fun Q => ?_⟩
    simp -implicitDefEqProofs (disch := first | omega | (simp (disch := omega) only [nb_upr]; omega)) only [R_1154, w_1154_0, w_1154_1, w_1154_2, zi_0, zi_0n, zi_88, zi_458, zi_66, zi_34, zi_31, zi_9, zi_362, zi_452, zi_33, zi_37, zi_67w1, zi_67w2, zi_492, zi_493, F.t233, kC_eq, toL_s, toL_n, okS0, okS1, okS2, okS3, okS4, okS5, true_and, and_true, hT_wI, hL_wI, hR_wI, hI_wI, hJ_wI, sI_wI, rfP, isIA_100, isIA_120, inb_ok, nI_clamp, nI_add, nI_mul, ↓reduceIte, not_false_eq_true, not_true_eq_false, true_or, or_true, ↓bI_01, ↓b01_0, ↓b01_1, bI_0, z00, z10, n4, n5, n2, n8, Nat.reduceMul, Nat.reduceAdd, Nat.reduceLT, Nat.reduceLeDiff, Nat.reduceSub, e_isBoat F h5, hs, e_in, ht, ex, mw_out, rp.1]
theorem p_stop (F : FR h) (hn : hR h 100 0 = some b) (w : WB h b) (hb : b = 117) (V : Vr n r) (s t v : Int32) : Pair h b n r 323 1187 [.int s, .int t, .int v] := by
  have V' := V.mono (show n ≤ n + 6 by omega)
  have h5 := V.r5
  have h6 := V.nb6
  by_cases hs : s < nI 0 ∨ nI (nb r) - nI 1 < s
  · exact ⟨.int (Int32.ofInt (-1)), r, V', fun f T => ⟨f, ScC.refl f, fun Q => by simp -implicitDefEqProofs (disch := first | omega | (simp (disch := omega) only [nb_upr]; omega)) only [R_323, w_323_0, w_323_1, w_323_2, w_323_3, zi_0, zi_0n, zi_88, zi_139, zi_98, zi_34, zi_31, zi_9, zi_65, zi_63, zi_54, zi_108, zi_33, zi_37, zi_67w1, zi_67w2, zi_137, zi_208, zi_176, zi_177, zi_209, zi_106, F.t100, hn, w.t, kC_eq, toL_s, toL_n, okS0, okS1, okS2, okS3, okS4, okS5, true_and, and_true, hT_wI, hL_wI, hR_wI, hI_wI, hJ_wI, sI_wI, rfP, isIA_100, isIA_120, inb_ok, nI_clamp, nI_add, nI_mul, ↓reduceIte, not_false_eq_true, not_true_eq_false, true_or, or_true, ↓bI_01, ↓b01_0, ↓b01_1, bI_0, z00, z10, n4, n5, n2, n8, Nat.reduceMul, Nat.reduceAdd, Nat.reduceLT, Nat.reduceLeDiff, e_noBoat F hn w h5, hs]⟩, fun f T => ⟨f, Sc.refl f, fun Q => by simp -implicitDefEqProofs (disch := first | omega | (simp (disch := omega) only [nb_upr]; omega)) only [R_1187, w_1187_0, w_1187_1, w_1187_2, w_1187_3, w_1187_4, zi_0, zi_0n, zi_88, zi_458, zi_66, zi_34, zi_31, zi_9, zi_362, zi_63, zi_54, zi_452, zi_33, zi_37, zi_67w1, zi_67w2, zi_492, zi_157, zi_499, zi_106, zi_131, zi_208, zi_133, F.t233, F.t233, F.r233_17, F.t241, F.l241, kC_eq, toL_s, toL_n, okS0, okS1, okS2, okS3, okS4, okS5, true_and, and_true, hT_wI, hL_wI, hR_wI, hI_wI, hJ_wI, sI_wI, rfP, isIA_100, isIA_120, inb_ok, nI_clamp, nI_add, nI_mul, ↓reduceIte, not_false_eq_true, not_true_eq_false, true_or, or_true, ↓bI_01, ↓b01_0, ↓b01_1, bI_0, z00, z10, n4, n5, n2, n8, Nat.reduceMul, Nat.reduceAdd, Nat.reduceLT, Nat.reduceLeDiff, e_isBoat F h5, hs]⟩⟩
  by_cases ht : t < nI 0 ∨ nI 4 < t
  · exact ⟨.int (Int32.ofInt (-1)), r, V', fun f T => ⟨f, ScC.refl f, fun Q => by simp -implicitDefEqProofs (disch := first | omega | (simp (disch := omega) only [nb_upr]; omega)) only [R_323, w_323_0, w_323_1, w_323_2, w_323_3, zi_0, zi_0n, zi_88, zi_139, zi_98, zi_34, zi_31, zi_9, zi_65, zi_63, zi_54, zi_108, zi_33, zi_37, zi_67w1, zi_67w2, zi_137, zi_208, zi_176, zi_177, zi_209, zi_106, F.t100, hn, w.t, kC_eq, toL_s, toL_n, okS0, okS1, okS2, okS3, okS4, okS5, true_and, and_true, hT_wI, hL_wI, hR_wI, hI_wI, hJ_wI, sI_wI, rfP, isIA_100, isIA_120, inb_ok, nI_clamp, nI_add, nI_mul, ↓reduceIte, not_false_eq_true, not_true_eq_false, true_or, or_true, ↓bI_01, ↓b01_0, ↓b01_1, bI_0, z00, z10, n4, n5, n2, n8, Nat.reduceMul, Nat.reduceAdd, Nat.reduceLT, Nat.reduceLeDiff, e_noBoat F hn w h5, hs, e_outside, ht]⟩, fun f T => ⟨f, Sc.refl f, fun Q => by simp -implicitDefEqProofs (disch := first | omega | (simp (disch := omega) only [nb_upr]; omega)) only [R_1187, w_1187_0, w_1187_1, w_1187_2, w_1187_3, w_1187_4, zi_0, zi_0n, zi_88, zi_458, zi_66, zi_34, zi_31, zi_9, zi_362, zi_63, zi_54, zi_452, zi_33, zi_37, zi_67w1, zi_67w2, zi_492, zi_157, zi_499, zi_106, zi_131, zi_208, zi_133, F.t233, F.t233, F.r233_17, F.t241, F.l241, kC_eq, toL_s, toL_n, okS0, okS1, okS2, okS3, okS4, okS5, true_and, and_true, hT_wI, hL_wI, hR_wI, hI_wI, hJ_wI, sI_wI, rfP, isIA_100, isIA_120, inb_ok, nI_clamp, nI_add, nI_mul, ↓reduceIte, not_false_eq_true, not_true_eq_false, true_or, or_true, ↓bI_01, ↓b01_0, ↓b01_1, bI_0, z00, z10, n4, n5, n2, n8, Nat.reduceMul, Nat.reduceAdd, Nat.reduceLT, Nat.reduceLeDiff, e_isBoat F h5, hs, e_in, ht]⟩⟩
  by_cases hv : v < nI 0 ∨ nI 3 < v
  · exact ⟨.int (Int32.ofInt (-1)), r, V', fun f T => ⟨f, ScC.refl f, fun Q => by simp -implicitDefEqProofs (disch := first | omega | (simp (disch := omega) only [nb_upr]; omega)) only [R_323, w_323_0, w_323_1, w_323_2, w_323_3, zi_0, zi_0n, zi_88, zi_139, zi_98, zi_34, zi_31, zi_9, zi_65, zi_63, zi_54, zi_108, zi_33, zi_37, zi_67w1, zi_67w2, zi_137, zi_208, zi_176, zi_177, zi_209, zi_106, F.t100, hn, w.t, kC_eq, toL_s, toL_n, okS0, okS1, okS2, okS3, okS4, okS5, true_and, and_true, hT_wI, hL_wI, hR_wI, hI_wI, hJ_wI, sI_wI, rfP, isIA_100, isIA_120, inb_ok, nI_clamp, nI_add, nI_mul, ↓reduceIte, not_false_eq_true, not_true_eq_false, true_or, or_true, ↓bI_01, ↓b01_0, ↓b01_1, bI_0, z00, z10, n4, n5, n2, n8, Nat.reduceMul, Nat.reduceAdd, Nat.reduceLT, Nat.reduceLeDiff, e_noBoat F hn w h5, hs, e_outside, ht, hv]⟩, fun f T => ⟨f, Sc.refl f, fun Q => by simp -implicitDefEqProofs (disch := first | omega | (simp (disch := omega) only [nb_upr]; omega)) only [R_1187, w_1187_0, w_1187_1, w_1187_2, w_1187_3, w_1187_4, zi_0, zi_0n, zi_88, zi_458, zi_66, zi_34, zi_31, zi_9, zi_362, zi_63, zi_54, zi_452, zi_33, zi_37, zi_67w1, zi_67w2, zi_492, zi_157, zi_499, zi_106, zi_131, zi_208, zi_133, F.t233, F.t233, F.r233_17, F.t241, F.l241, kC_eq, toL_s, toL_n, okS0, okS1, okS2, okS3, okS4, okS5, true_and, and_true, hT_wI, hL_wI, hR_wI, hI_wI, hJ_wI, sI_wI, rfP, isIA_100, isIA_120, inb_ok, nI_clamp, nI_add, nI_mul, ↓reduceIte, not_false_eq_true, not_true_eq_false, true_or, or_true, ↓bI_01, ↓b01_0, ↓b01_1, bI_0, z00, z10, n4, n5, n2, n8, Nat.reduceMul, Nat.reduceAdd, Nat.reduceLT, Nat.reduceLeDiff, e_isBoat F h5, hs, e_in, ht, hv]⟩⟩
  obtain ⟨β, hβ, rfl⟩ := btwB V hs
  obtain ⟨t, -, ht4, rfl⟩ := btw (by decide) (by decide) ht
  obtain ⟨i, -, hi, rfl⟩ := btw (by decide) (by decide) hv
  obtain ⟨a, k, B⟩ := V.bt hβ
  obtain ⟨x, hx⟩ := best_some r β k t
  by_cases hz : i < t
  · have q1 : nI i < nI t := (nI_ltI (by omega) (by omega)).mpr hz
    have q2 : ¬ nI t ≤ nI i := nI_ge hz (by omega)
    refine ⟨.int (nI (x.2 i)), r, V', fun f T => ?_, fun f T => ?_⟩
    · obtain ⟨f', sc, eg, ⟨y, hy, -, e1⟩, ex⟩ := e_findWay F hb V β a k t B ht4 f T hn 29 (by decide)
      obtain rfl : y = x := by rw [hx] at hy; cases hy; rfl
      refine ⟨f', sc, fun Q => ?_⟩
      have e1' := e1 i hz
      rw [eg]
      simp -implicitDefEqProofs (disch := first | omega | (simp (disch := omega) only [nb_upr]; omega)) only [R_323, w_323_0, w_323_1, w_323_2, w_323_3, zi_0, zi_0n, zi_88, zi_139, zi_98, zi_34, zi_31, zi_9, zi_65, zi_63, zi_54, zi_108, zi_33, zi_37, zi_67w1, zi_67w2, zi_137, zi_208, zi_176, zi_177, zi_209, zi_106, F.t100, F.r100_3, F.t159, F.r159_2, F.t162, F.l162, kC_eq, toL_s, toL_n, okS0, okS1, okS2, okS3, okS4, okS5, true_and, and_true, hT_wI, hL_wI, hR_wI, hI_wI, hJ_wI, sI_wI, rfP, isIA_100, isIA_120, inb_ok, nI_clamp, nI_add, nI_mul, ↓reduceIte, not_false_eq_true, not_true_eq_false, true_or, or_true, ↓bI_01, ↓b01_0, ↓b01_1, bI_0, z00, z10, n4, n5, n2, n8, Nat.reduceMul, Nat.reduceAdd, Nat.reduceLT, Nat.reduceLeDiff, Nat.reduceSub, e_noBoat F hn w h5, hs, e_outside, ht, hv, q1, ex, e1']
    · obtain ⟨f', s2, rp, ex⟩ := e_findPlan F V β a k t B ht4 29 (by decide) f T
      rw [hx] at rp
      have e1' := rp.2.2 i hz
      refine ⟨f', s2, fun Q => ?_⟩
      simp -implicitDefEqProofs (disch := first | omega | (simp (disch := omega) only [nb_upr]; omega)) only [R_1187, w_1187_0, w_1187_1, w_1187_2, w_1187_3, w_1187_4, zi_0, zi_0n, zi_88, zi_458, zi_66, zi_34, zi_31, zi_9, zi_362, zi_63, zi_54, zi_452, zi_33, zi_37, zi_67w1, zi_67w2, zi_492, zi_157, zi_499, zi_106, zi_131, zi_208, zi_133, F.t233, F.r233_17, F.t241, F.l241, kC_eq, toL_s, toL_n, okS0, okS1, okS2, okS3, okS4, okS5, true_and, and_true, hT_wI, hL_wI, hR_wI, hI_wI, hJ_wI, sI_wI, rfP, isIA_100, isIA_120, inb_ok, nI_clamp, nI_add, nI_mul, ↓reduceIte, not_false_eq_true, not_true_eq_false, true_or, or_true, ↓bI_01, ↓b01_0, ↓b01_1, bI_0, z00, z10, n4, n5, n2, n8, Nat.reduceMul, Nat.reduceAdd, Nat.reduceLT, Nat.reduceLeDiff, Nat.reduceSub, e_isBoat F h5, hs, e_in, ht, hv, q2, ex, mw_out, e1']
  · have q1 : ¬ nI i < nI t := nI_nlt (by omega) (by omega)
    have q2 : nI t ≤ nI i := nI_le (by omega) (by omega)
    refine ⟨.int (Int32.ofInt (-3)), r, V', fun f T => ⟨f, ScC.refl f, fun Q => ?_⟩, fun f T => ?_⟩
    · simp -implicitDefEqProofs (disch := first | omega | (simp (disch := omega) only [nb_upr]; omega)) only [R_323, w_323_0, w_323_1, w_323_2, w_323_3, zi_0, zi_0n, zi_88, zi_139, zi_98, zi_34, zi_31, zi_9, zi_65, zi_63, zi_54, zi_108, zi_33, zi_37, zi_67w1, zi_67w2, zi_137, zi_208, zi_176, zi_177, zi_209, zi_106, F.t100, kC_eq, toL_s, toL_n, okS0, okS1, okS2, okS3, okS4, okS5, true_and, and_true, hT_wI, hL_wI, hR_wI, hI_wI, hJ_wI, sI_wI, rfP, isIA_100, isIA_120, inb_ok, nI_clamp, nI_add, nI_mul, ↓reduceIte, not_false_eq_true, not_true_eq_false, true_or, or_true, ↓bI_01, ↓b01_0, ↓b01_1, bI_0, z00, z10, n4, n5, n2, n8, Nat.reduceMul, Nat.reduceAdd, Nat.reduceLT, Nat.reduceLeDiff, e_noBoat F hn w h5, hs, e_outside, ht, hv, q1]
    · obtain ⟨f', s2, rp, ex⟩ := e_findPlan F V β a k t B ht4 29 (by decide) f T
      refine ⟨f', s2, fun Q => ?_⟩
      simp -implicitDefEqProofs (disch := first | omega | (simp (disch := omega) only [nb_upr]; omega)) only [R_1187, w_1187_0, w_1187_1, w_1187_2, w_1187_3, w_1187_4, zi_0, zi_0n, zi_88, zi_458, zi_66, zi_34, zi_31, zi_9, zi_362, zi_63, zi_54, zi_452, zi_33, zi_37, zi_67w1, zi_67w2, zi_492, zi_157, zi_499, zi_106, zi_131, zi_208, zi_133, F.t233, kC_eq, toL_s, toL_n, okS0, okS1, okS2, okS3, okS4, okS5, true_and, and_true, hT_wI, hL_wI, hR_wI, hI_wI, hJ_wI, sI_wI, rfP, isIA_100, isIA_120, inb_ok, nI_clamp, nI_add, nI_mul, ↓reduceIte, not_false_eq_true, not_true_eq_false, true_or, or_true, ↓bI_01, ↓b01_0, ↓b01_1, bI_0, z00, z10, n4, n5, n2, n8, Nat.reduceMul, Nat.reduceAdd, Nat.reduceLT, Nat.reduceLeDiff, Nat.reduceSub, e_isBoat F h5, hs, e_in, ht, hv, q2, ex]
end
