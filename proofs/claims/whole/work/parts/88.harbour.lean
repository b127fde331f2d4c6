section
/-! harbour, both sides -/
variable {n : Nat} {h : PH} {y : Nat → Nat} {t p : Nat} {g : Nat → Nat → Int32} {ρ : Nat → Int32}
theorem tc_u1 {p s k v x : Int32} : up2 (tcS g p s k v) 101 1 x = tcS (up2 g 101 1 x) p s k v := by
  funext c i
  show (if c = 101 ∧ i = 1 then x else tcS g p s k v c i) = tcS (up2 g 101 1 x) p s k v c i
  have eu : up2 g 101 1 x c i = if c = 101 ∧ i = 1 then x else g c i := rfl
  unfold tcS
  rw [eu]
  by_cases z : c = 101 ∧ i = 1
  · rw [if_pos z, if_neg (by omega), if_neg (by omega), if_neg (by omega), if_neg (by omega), if_pos z]
  · rw [if_neg z, if_neg z]
theorem tc_first {x : Int32} : up2 g 101 3 x = tcS g x (g 101 2) (g 101 4) (g 101 5) := by
  have e := tc_u3 (g := g) (p := g 101 3) (s := g 101 2) (k := g 101 4) (v := g 101 5) (x := x)
  rw [tc_self] at e
  exact e
theorem tm_u7 {b e k v o x : Int32} : up2 (tqS g b e k v o) 233 7 x = tqS (up2 g 233 7 x) b e k v o := by
  funext c i
  show (if c = 233 ∧ i = 7 then x else tqS g b e k v o c i) = tqS (up2 g 233 7 x) b e k v o c i
  have eu : up2 g 233 7 x c i = if c = 233 ∧ i = 7 then x else g c i := rfl
  unfold tqS
  rw [eu]
  by_cases z : c = 233 ∧ i = 7
  · rw [if_pos z, if_neg (by omega), if_neg (by omega), if_neg (by omega), if_neg (by omega), if_neg (by omega), if_pos z]
  · rw [if_neg z, if_neg z]
theorem tp_u7 {o x : Int32} : up2 (tmP g y t p o) 233 7 x = tmP (up2 g 233 7 x) y t p o := tm_u7
theorem tm_first {x z : Int32} : up2 (up2 g 233 10 x) 233 13 z = tqS g (g 233 9) x (g 233 8) (g 233 12) z := by
  have e := tm_u10 (g := g) (b := g 233 9) (e := g 233 10) (k := g 233 8) (v := g 233 12) (o := g 233 13) (x := x)
  rw [tm_self] at e
  rw [e, tm_u13]
theorem bgF_tq {b e k v o : Int32} : bgF (tqS g b e k v o) 235 = tqS (bgF g 235) b e k v o := by
  funext a j
  by_cases z : a = 235 ∧ j < 136
  · have e1 : bgF (tqS g b e k v o) 235 a j = ini (nI 0) j := if_pos z
    have e2 : tqS (bgF g 235) b e k v o a j = bgF g 235 a j := tm_o (by omega)
    have e3 : bgF g 235 a j = ini (nI 0) j := if_pos z
    rw [e1, e2, e3]
  · have e1 : bgF (tqS g b e k v o) 235 a j = tqS g b e k v o a j := if_neg z
    have e3 : bgF g 235 a j = g a j := if_neg z
    rw [e1]
    unfold tqS
    rw [e3]
theorem mf_bg {z : Int32} : mf (bgF g 235) (ini z) = bgF g 235 := by
  funext a k
  unfold mf
  by_cases u : a = 235 ∧ k < 136 ∧ ¬ k = 6
  · rw [if_pos u]
    have e : bgF g 235 a k = ini (nI 0) k := if_pos ⟨u.1, u.2.1⟩
    rw [e, ini_z u.2.2]
  · rw [if_neg u]
/-- the tape as bytes -/
def yB (f : Nat → Nat → Int32) (t : Nat) : Nat → Nat := fun k => if k < t then (f 102 k).toNatClampNeg else 0
theorem yB_ok {f : Nat → Nat → Int32} {t : Nat} (H : ∀ k, k < t → inR (f 102 k) 255) : (∀ k, yB f t k ≤ 255) ∧ ∀ k, k < t → f 102 k = nI (yB f t k) := by
  refine ⟨fun k => ?_, fun k hk => ?_⟩
  · unfold yB
    by_cases hk : k < t
    · obtain ⟨m, hm, e⟩ := H k hk
      rw [if_pos hk, e, nI_clamp (by omega)]
      exact hm
    · rw [if_neg hk]; omega
  · obtain ⟨m, hm, e⟩ := H k hk
    unfold yB
    rw [if_pos hk, e, nI_clamp (by omega)]
theorem TX.of {f f' : Nat → Nat → Int32} (X : TX h f) (e : ∀ a k, a < 28 → f' a k = f a k) : TX h f' := fun k k1 k2 => ⟨(X k k1 k2).1, (X k k1 k2).2.1, fun j hj => by rw [e k j k2]; exact (X k k1 k2).2.2 j hj⟩
theorem cpW_self {f : Nat → Nat → Int32} {a k : Nat} (ha : ¬ (117 ≤ a ∧ a < 131)) : cpW f 117 145 a k = f a k := cpW_out (by omega)
theorem SHEETS.jW {f : Nat → Nat → Int32} (H : SHEETS h f) (w : Int64) : SHEETS (jW h w) f := by
  refine ⟨H.1, fun s hs => ?_, H.2.2⟩
  rcases H.2.1 s hs with ⟨z1, z2⟩ | ⟨c, l, t, m, z1, z2, z3, z4, z5⟩
  · exact Or.inl ⟨z1, z2⟩
  · refine Or.inr ⟨c, l, t, m, z1, z2, z3, z4, fun k hk => ?_⟩
    have hl := z2.2.2.2.2.2.2.1
    rw [hJ_jWn h w (by omega), hJ_jWn h w (by omega)]
    exact z5 k hk
theorem REST.jW {f : Nat → Nat → Int32} (R : REST n h f) (w : Int64) : REST n (jW h w) f := ⟨R.1, R.2.1, R.2.2.1, R.2.2.2.1, R.2.2.2.2.1.jW w, R.2.2.2.2.2⟩
/-- the tape is at its start again, and so are the rows of bells, if told -/
def fH (f : Nat → Nat → Int32) (told : Bool) : Nat → Nat → Int32 := fun a k => if (a = 101 ∧ k = 1) ∨ (a = 233 ∧ k = 7) then nI 0 else if told = true ∧ ((a = 100 ∧ k = 11) ∨ (a = 233 ∧ k = 23)) then nI 0 else f a k
theorem fH_t {f : Nat → Nat → Int32} {told : Bool} {a k : Nat} (z : (a = 101 ∧ k = 1) ∨ (a = 233 ∧ k = 7)) : fH f told a k = nI 0 := if_pos z
theorem fH_r {f : Nat → Nat → Int32} {a k : Nat} (z : (a = 100 ∧ k = 11) ∨ (a = 233 ∧ k = 23)) : fH f true a k = nI 0 := by
  unfold fH
  rw [if_neg (by omega), if_pos ⟨rfl, z⟩]
theorem fH_o {f : Nat → Nat → Int32} {told : Bool} {a k : Nat} (z1 : ¬ ((a = 101 ∧ k = 1) ∨ (a = 233 ∧ k = 7))) (z2 : ¬ ((a = 100 ∧ k = 11) ∨ (a = 233 ∧ k = 23))) : fH f told a k = f a k := by
  unfold fH
  rw [if_neg z1, if_neg (fun u => z2 u.2)]
theorem fH_f {f : Nat → Nat → Int32} {a k : Nat} (z1 : ¬ ((a = 101 ∧ k = 1) ∨ (a = 233 ∧ k = 7))) : fH f false a k = f a k := by
  unfold fH
  rw [if_neg z1, if_neg (fun u => by cases u.1)]
theorem REST.fH {f : Nat → Nat → Int32} (R : REST n h f) (told : Bool) : REST n h (fH f told) := by
  obtain ⟨hk, ht, hr, he, hs, hv⟩ := R
  refine ⟨hk.of (fun a k ha => fH_o (by unfold kK at ha; omega) (by unfold kK at ha; omega)), ⟨0, by omega, fH_t (Or.inl ⟨rfl, rfl⟩), fH_t (Or.inr ⟨rfl, rfl⟩), fun k hk => absurd hk (by omega)⟩, ?_, he.of (fun a k ha => fH_o (by unfold kE at ha; omega) (by unfold kE at ha; omega)), hs.of (fun a k ha => fH_o (by unfold kS at ha; omega) (by unfold kS at ha; omega)), hv.of (fun a k ha => fH_o (by unfold kV at ha; omega) (by unfold kV at ha; omega))⟩
  cases told with
  | true => exact ⟨0, by omega, fH_r (Or.inl ⟨rfl, rfl⟩), fH_r (Or.inr ⟨rfl, rfl⟩), fun k hk => absurd hk (by omega)⟩
  | false => exact hr.of (fun a k ha => fH_f (by unfold kR at ha; omega))
theorem c_harbour (n : Nat) (h : PH) (f : Nat → Nat → Int32) (I : INVf n h f) (X0 : TX h f) :
    ∃ x h1 h' f', (∀ Q, Run 30 32 [.ref 100] (wI h f) Q = Q (some x) h1) ∧ (∀ Q, Run 30 616 [.ref 233] h1 Q = Q (some x) (wI h' f')) ∧ INVf (n + 6) h' f' ∧ FIX h h' f f' := by
  obtain ⟨F, T, V, em, R⟩ := id I
  obtain ⟨t, ht, t2, t3, t4⟩ := R.2.1
  obtain ⟨r, hrv⟩ : ∃ r, rv f 117 = r := ⟨_, rfl⟩
  rw [hrv] at V em
  obtain ⟨y, hy⟩ : ∃ y, yB f t = y := ⟨_, rfl⟩
  obtain ⟨y1, y2⟩ := yB_ok (f := f) (t := t) (fun k hk => (t4 k hk).2)
  rw [hy] at y1 y2
  have r6 : f 117 17 = r 6 := by
    rw [← hrv]
    show f 117 17 = rv f 117 6
    unfold rv
    rw [if_pos (by omega)]
    rfl
  -- the class: a harbour as at first, in the trial world
  obtain ⟨X, hX⟩ : ∃ X, saF f 145 = X := ⟨_, rfl⟩
  have Xo : XO f X := fun a k ha => by rw [← hX]; exact saF_out ha
  have eX : ww X 145 (ini (f 145 17)) = X := by
    rw [← rv_saF (b := 145) (by omega) T, hX, ww_rv]
  have eZ : up2 X 145 17 (r 6) = ww X 145 (ini (r 6)) := by
    have := ws_0_17 (f := X) (b := 145) (r := ini (f 145 17)) (x := r 6)
    rw [eX, upr_ini] at this
    exact this
  have esa := fun d Q => e_startAnew (h := h) F.w145 (by omega) F.o1 F.p1 F.o2 F.p2 f d Q
  rw [hX] at esa
  have X117 : X 117 17 = r 6 := by rw [Xo 117 17 (by omega)]; exact r6
  obtain ⟨W, hW⟩ : ∃ W, ww X 145 (ini (r 6)) = W := ⟨_, rfl⟩
  have Wo : XO f W := by rw [← hW]; exact Xo.trans (XO.ww _)
  have GX : TG y t f := ⟨ht, y1, t2, y2⟩
  have TXX := X0.xo Xo
  -- the reference: from whatever the class leaves
  have ref : ∀ (G : Nat → Nat → Int32), (∀ a k, a = 233 ∨ a = 239 → G a k = f a k) →
      MG y t (bgF G 235) ∧ ∀ Q, Run 30 616 [.ref 233] (wI h G) Q = WP 30 616 1 [.ref 233] [] (wI (jP h y t 0) (tmP (mf (bgF G 235) (ini (r 6))) y t 0 (nI 1))) Q := by
    intro G e
    have M0 : MG y t (bgF G 235) := ⟨ht, y1, by
      show (if _ then _ else G 233 7) = _
      rw [if_neg (by omega), e 233 7 (Or.inl rfl)]; exact t3, fun k hk => by
      show (if _ then _ else G 239 k) = _
      rw [if_neg (by omega), e 239 k (Or.inr rfl), (t4 k hk).1]; exact y2 k hk⟩
    refine ⟨M0, fun Q => ?_⟩
    have ea := fun d hd Q => e_adv (d := d) F M0 0 (Nat.zero_le t) (hJ h 233 11) (G 233 9) (G 233 8) (G 233 12) (nI 1) hd Q
    rw [jW_self] at ea
    rw [mf_bg]
    have eb := fun f d Q => e_begins (h := h) F.t235 F.l235 f d Q
    simp -implicitDefEqProofs (disch := first | omega | (simp (disch := omega) only [nb_upr]; omega)) only [R_616, w_616_0, zi_0, zi_0n, zi_31, zi_370, zi_48, zi_371, zi_372, zi_358, zi_373, zi_33, zi_374, zi_108, zi_375, zi_376, zi_40, zi_368, zi_269, zi_99, zi_377, zi_101, zi_67w1, zi_67w2, zi_42, zi_357, zi_106, zi_38, zi_378, zi_379, zi_59, F.t233, F.r233_1, kC_eq, toL_s, toL_n, okS0, okS1, okS2, okS3, okS4, okS5, true_and, and_true, hT_wI, hL_wI, hR_wI, hI_wI, hJ_wI, sI_wI, rfP, isIA_100, isIA_120, inb_ok, nI_clamp, nI_add, nI_mul, ↓reduceIte, not_false_eq_true, not_true_eq_false, true_or, or_true, ↓bI_01, ↓b01_0, ↓b01_1, bI_0, z00, z10, n4, n5, n2, n8, Nat.reduceMul, Nat.reduceAdd, Nat.reduceLT, Nat.reduceLeDiff, tm_first, eb, bgF_tq, ea]
  rcases j_text (n := n) (d := 29) (d' := 30) F (by decide) (by decide) t 0 (ini (r 6)) 0 (by omega) (Nat.zero_le t) (Nat.le_refl 0) ht Vr_ini with ⟨ρ', V', z6, hc, hm⟩ | ⟨q, hq, hc, hm⟩
  · -- told
    obtain ⟨X1, e, s, k, v, xo, ec⟩ := hc X (W 101 2) (W 101 4) (W 101 5) (GX.xo Xo) TXX (Xo.tb T)
    rw [hW] at ec
    rw [ini_6] at z6
    obtain ⟨G0, hG0⟩ : ∃ G0, tcS (up2 (ww X1 145 ρ') 101 1 (nI 0)) e s k v = G0 := ⟨_, rfl⟩
    have rvG0 : rv G0 145 = ρ' := by
      rw [← hG0, rv_eq (g := ww X1 145 ρ') (fun a k h1 h2 => by rw [tc_o (by omega), up2_ne _ _ (by omega)]), rv_ww V'.z]
    have hcp := fun d Q => e_copyFrom (h := h) d 117 145 F.w117 F.w145 (by omega) G0 Q
    obtain ⟨G, hG⟩ : ∃ G, up2 (cpW G0 117 145) 100 11 (nI 0) = G := ⟨_, rfl⟩
    have rvG : rv G 117 = ρ' := by
      rw [← hG, rv_eq (g := cpW G0 117 145) (fun a k h1 h2 => up2_ne _ _ (by omega)), rv_cpW, rvG0]
    have G14 : cpW G0 117 145 117 14 = ρ' 5 := by
      have := rv_5 (cpW G0 117 145) 117
      rw [rv_cpW, rvG0] at this
      exact this.symm
    have Go : ∀ a k, ¬ (117 ≤ a ∧ a < 131) → ¬ (145 ≤ a ∧ a < 159) → ¬ (a = 101 ∧ 1 ≤ k) → ¬ (a = 100 ∧ k = 11) → G a k = f a k := fun a k h1 h2 h3 h4 => by
      rw [← hG, up2_out h4, cpW_out (by omega), ← hG0, tc_o (by omega), up2_out (by omega), ww_out (by omega), xo a k h2, Xo a k h2]
    have G101 : G 101 1 = nI 0 := by
      rw [← hG, up2_ne _ _ (by omega), cpW_out (by omega), ← hG0, tc_o (by omega), up2_same]
    have G100 : G 100 11 = nI 0 := by rw [← hG, up2_same]
    obtain ⟨M0, er⟩ := ref G (fun a k ha => Go a k (by omega) (by omega) (by omega) (by omega))
    obtain ⟨p, er2⟩ := hm (bgF G 235) M0
    have gb6 : bgF G 235 234 6 = r 6 := by
      show (if _ then _ else G 234 6) = _
      rw [if_neg (by omega), Go 234 6 (by omega) (by omega) (by omega) (by omega)]
      have : rm f 234 6 = r 6 := by rw [em]
      rw [← this]
      unfold rm
      rw [if_pos (by omega)]
    obtain ⟨H1, hH1⟩ : ∃ H1, up2 (tmP (up2 (mf (bgF G 235) ρ') 233 7 (nI 0)) y t p (nI 1)) 235 6 (r 6) = H1 := ⟨_, rfl⟩
    have rd6 : tmP (up2 (mf (bgF G 235) ρ') 233 7 (nI 0)) y t p (nI 1) 234 6 = r 6 := by
      rw [tp_o (by omega), up2_ne _ _ (by omega), mf_o (by omega), gb6]
    have H1r : ∀ k, k < 136 → H1 235 k = ρ' k := fun k hk => by
      rw [← hH1]
      by_cases k6 : k = 6
      · rw [k6, up2_same, z6]
      · rw [up2_nk _ _ k6, tp_o (by omega), up2_ne _ _ (by omega), mf_r hk k6]
    have rmH1 : rm H1 235 = ρ' := by
      funext q
      unfold rm
      rw [H1r 5 (by omega)]
      show (if q < lim ρ' then _ else _) = _
      have := lim_le ρ'
      by_cases z : q < lim ρ'
      · rw [if_pos z, H1r q (by omega)]
      · rw [if_neg z]; exact (V'.z q (by omega)).symm
    have emv := fun d Q => e_moveAll (h := jP h y t p) d 235 234 H1 F.t235 F.l235 F.t234 F.l234 (by decide) Q
    obtain ⟨H, hH⟩ : ∃ H, up2 (cpf H1 235 234 136) 233 23 (nI 0) = H := ⟨_, rfl⟩
    have H5 : H 234 5 = ρ' 5 := by
      rw [← hH, up2_ne _ _ (by omega), cpf_eq, if_pos (by omega)]
      exact H1r 5 (by omega)
    have rmH : rm H 234 = ρ' := by
      rw [← hH, rm_eq (g := cpf H1 235 234 136) (by funext k; exact up2_ne _ _ (by omega)), rm_cpf, rmH1]
    have HF : ∀ a k, ¬ (117 ≤ a ∧ a < 131) → ¬ (145 ≤ a ∧ a < 159) → ¬ (a = 101 ∧ 2 ≤ k) → scr a k = false → H a k = fH f true a k := fun a k h1 h2 h3 h4 => by
      have n235 : ¬ a = 235 := by rintro rfl; cases h4
      have n234 : ¬ a = 234 := by rintro rfl; cases h4
      rw [← hH]
      by_cases z : a = 233 ∧ k = 23
      · obtain ⟨rfl, rfl⟩ := z
        rw [up2_same, fH_r (Or.inr ⟨rfl, rfl⟩)]
      rw [up2_out z, cpf_ne n234, ← hH1, up2_ne _ _ n235]
      by_cases z2 : a = 233 ∧ k = 7
      · obtain ⟨rfl, rfl⟩ := z2
        rw [tp_o (by omega), up2_same, fH_t (Or.inr ⟨rfl, rfl⟩)]
      have hq : tmP (up2 (mf (bgF G 235) ρ') 233 7 (nI 0)) y t p (nI 1) a k = up2 (mf (bgF G 235) ρ') 233 7 (nI 0) a k := by
        show tqS _ _ _ _ _ _ a k = _
        unfold tqS
        by_cases w9 : a = 233 ∧ k = 9
        · obtain ⟨rfl, rfl⟩ := w9; cases h4
        by_cases w10 : a = 233 ∧ k = 10
        · obtain ⟨rfl, rfl⟩ := w10; cases h4
        by_cases w8 : a = 233 ∧ k = 8
        · obtain ⟨rfl, rfl⟩ := w8; cases h4
        by_cases w12 : a = 233 ∧ k = 12
        · obtain ⟨rfl, rfl⟩ := w12; cases h4
        by_cases w13 : a = 233 ∧ k = 13
        · obtain ⟨rfl, rfl⟩ := w13; cases h4
        rw [if_neg w9, if_neg w10, if_neg w8, if_neg w12, if_neg w13]
      rw [hq, up2_out z2, mf_o n235]
      show (if _ then _ else G a k) = _
      rw [if_neg (fun u => n235 u.1)]
      by_cases z3 : a = 101 ∧ k = 1
      · obtain ⟨rfl, rfl⟩ := z3
        rw [G101, fH_t (Or.inl ⟨rfl, rfl⟩)]
      by_cases z4 : a = 100 ∧ k = 11
      · obtain ⟨rfl, rfl⟩ := z4
        rw [G100, fH_r (Or.inl ⟨rfl, rfl⟩)]
      rw [Go a k h1 h2 (by omega) z4, fH_o (by omega) (by omega)]
    have RSH : RS (fH f true) H := fun a k h1 h2 => HF a k (scrC_now h1) (fun z => scrC_hi h1 (by omega)) (by
      rintro ⟨rfl, z⟩
      unfold scrC at h1
      simp [show Nat.ble 2 k = true from Nat.ble_eq.mpr z] at h1) h2
    have H117 : rv H 117 = ρ' := by
      rw [rv_eq (g := G) (fun a k h1 h2 => ?_), rvG]
      rw [← hH, up2_ne _ _ (by omega), cpf_ne (by omega), ← hH1, up2_ne _ _ (by omega), tp_o (by omega), up2_ne _ _ (by omega), mf_o (by omega)]
      show (if _ then _ else G a k) = _
      rw [if_neg (by omega)]
    refine ⟨.int (ρ' 5), wI h G, jP h y t p, H, fun Q => ?_, fun Q => ?_, ⟨F, TB_of (fun a k ha => ?_) T, ?_, ?_, (((R.fH true).rs RSH).jW _).mono (by omega)⟩, ⟨fun a k ha => ?_, rfl, rfl, Nat.le_add_right _ _, Nat.le_add_right _ _, Nat.le_refl _, Nat.le_refl _⟩⟩
    · have etl : Run 29 1777 [.ref 101, .ref 145] (wI h W) = fun Q => Q (some (.int (nI 1))) (wI h (tcS (ww X1 145 ρ') e s k v)) := by
        funext Q
        rw [← ec Q]
        simp -implicitDefEqProofs (disch := first | omega | (simp (disch := omega) only [nb_upr]; omega)) only [R_1777, w_1777_0, zi_0, zi_0n, zi_31, zi_625, zi_32i, zi_32r, zi_32u, zi_32a, zi_33, zi_34, zi_71, zi_210, zi_626, zi_627, zi_452, zi_48, zi_67w1, zi_67w2, zi_129, zi_23, zi_23n, zi_628, zi_222, zi_75, zi_39i, zi_39r, zi_39u, zi_39a, zi_40, F.t101, kC_eq, toL_s, toL_n, okS0, okS1, okS2, okS3, okS4, okS5, true_and, and_true, hT_wI, hL_wI, hR_wI, hI_wI, hJ_wI, sI_wI, rfP, isIA_100, isIA_120, inb_ok, nI_clamp, nI_add, nI_mul, ↓reduceIte, not_false_eq_true, not_true_eq_false, true_or, or_true, ↓bI_01, ↓b01_0, ↓b01_1, bI_0, z00, z10, n4, n5, n2, n8, Nat.reduceMul, Nat.reduceAdd, Nat.reduceLT, Nat.reduceLeDiff, tc_first]
      have G14' : up2 (cpW G0 117 145) 100 11 (nI 0) 117 14 = ρ' 5 := by rw [up2_ne _ _ (by decide), G14]
      rw [← hG]
      simp -implicitDefEqProofs (disch := first | omega | (simp (disch := omega) only [nb_upr]; omega)) only [R_32, w_32_0, w_32_1, zi_0, zi_0n, zi_90, zi_91, zi_92, zi_93, zi_94, zi_68, zi_95, zi_96i, zi_96r, zi_96u, zi_96a, zi_31, zi_97, zi_88, zi_98, zi_99, zi_100, zi_101, zi_67w1, zi_67w2, zi_102, zi_103, zi_104, F.t100, F.r100_0, F.r100_2, F.r100_4, F.t101, F.w117.t, F.w145.t, kC_eq, toL_s, toL_n, okS0, okS1, okS2, okS3, okS4, okS5, true_and, and_true, hT_wI, hL_wI, hR_wI, hI_wI, hJ_wI, sI_wI, rfP, isIA_100, isIA_120, inb_ok, nI_clamp, nI_add, nI_mul, ↓reduceIte, not_false_eq_true, not_true_eq_false, true_or, or_true, ↓bI_01, ↓b01_0, ↓b01_1, bI_0, z00, z10, n4, n5, n2, n8, Nat.reduceMul, Nat.reduceAdd, Nat.reduceLT, Nat.reduceLeDiff, Nat.reduceSub, esa, X117, eZ, hW, etl, tc_u1, hG0, hcp, G14']
    · rw [er Q, er2 Q, w_616_2]
      have c1 : ¬ nI 1 = (0 : Int32) := by decide
      rw [← hH] at H5 ⊢
      simp -implicitDefEqProofs (disch := first | omega | (simp (disch := omega) only [nb_upr]; omega)) only [w_616_3, zi_0, zi_0n, zi_31, zi_370, zi_48, zi_371, zi_372, zi_358, zi_373, zi_33, zi_374, zi_108, zi_375, zi_376, zi_40, zi_368, zi_269, zi_99, zi_377, zi_101, zi_67w1, zi_67w2, zi_42, zi_357, zi_106, zi_38, zi_378, zi_379, zi_59, hT_jP, hL_jP, hR_jP, F.t233, F.r233_0, F.t234, F.l234, F.r233_1, F.t235, F.l235, kC_eq, toL_s, toL_n, okS0, okS1, okS2, okS3, okS4, okS5, true_and, and_true, hT_wI, hL_wI, hR_wI, hI_wI, hJ_wI, sI_wI, rfP, isIA_100, isIA_120, inb_ok, nI_clamp, nI_add, nI_mul, ↓reduceIte, not_false_eq_true, not_true_eq_false, true_or, or_true, ↓bI_01, ↓b01_0, ↓b01_1, bI_0, z00, z10, n4, n5, n2, n8, Nat.reduceMul, Nat.reduceAdd, Nat.reduceLT, Nat.reduceLeDiff, tp_13, tp_u7, rd6, hH1, emv, H5]
    · rcases ha with z | rfl
      · rw [HF a k (by omega) (by omega) (by omega) (scr_lt (by omega)), fH_o (by omega) (by omega)]
      · rw [HF 238 k (by omega) (by omega) (by omega) rfl, fH_o (by omega) (by omega)]
    · rw [H117]; exact V'.mono (by omega)
    · rw [H117, rmH]
    · rw [HF a k (by omega) (by omega) (by omega) (scr_lt (by omega)), fH_o (by omega) (by omega)]
  · -- a fault
    obtain ⟨X1, ρ', e, k, v, xo, ec⟩ := hc X (W 101 2) (W 101 4) (W 101 5) (GX.xo Xo) TXX (Xo.tb T)
    rw [hW] at ec
    obtain ⟨G, hG⟩ : ∃ G, tcS (up2 (ww X1 145 ρ') 101 1 (nI 0)) e (nI (tS y t q)) k v = G := ⟨_, rfl⟩
    have Go : ∀ a k, ¬ (145 ≤ a ∧ a < 159) → ¬ (a = 101 ∧ 1 ≤ k) → G a k = f a k := fun a k h2 h3 => by
      rw [← hG, tc_o (by omega), up2_out (by omega), ww_out (by omega), xo a k h2, Xo a k h2]
    have G101 : G 101 1 = nI 0 := by
      rw [← hG, tc_o (by omega), up2_same]
    have G2 : G 101 2 = nI (tS y t q) := by rw [← hG, tc_2]
    obtain ⟨M0, er⟩ := ref G (fun a k ha => Go a k (by omega) (by omega))
    obtain ⟨ρ2, er2⟩ := hm (bgF G 235) M0
    obtain ⟨H, hH⟩ : ∃ H, tmP (up2 (mf (bgF G 235) ρ2) 233 7 (nI 0)) y t q (nI 0) = H := ⟨_, rfl⟩
    have H9 : H 233 9 = nI (tS y t q) := by rw [← hH, tp_9]
    have H13 : H 233 13 = nI 0 := by rw [← hH, tp_13]
    have HF : ∀ a k, ¬ (145 ≤ a ∧ a < 159) → ¬ (a = 101 ∧ 2 ≤ k) → (scr a k = false ∨ a = 234) → H a k = fH f false a k := fun a k h2 h3 h4 => by
      have n235 : ¬ a = 235 := by rintro rfl; rcases h4 with u | u; cases u; cases u
      rw [← hH]
      by_cases z2 : a = 233 ∧ k = 7
      · obtain ⟨rfl, rfl⟩ := z2
        rw [tp_o (by omega), up2_same, fH_t (Or.inr ⟨rfl, rfl⟩)]
      have hq : tmP (up2 (mf (bgF G 235) ρ2) 233 7 (nI 0)) y t q (nI 0) a k = up2 (mf (bgF G 235) ρ2) 233 7 (nI 0) a k := by
        show tqS _ _ _ _ _ _ a k = _
        unfold tqS
        by_cases w9 : a = 233 ∧ k = 9
        · obtain ⟨rfl, rfl⟩ := w9; rcases h4 with u | u; cases u; cases u
        by_cases w10 : a = 233 ∧ k = 10
        · obtain ⟨rfl, rfl⟩ := w10; rcases h4 with u | u; cases u; cases u
        by_cases w8 : a = 233 ∧ k = 8
        · obtain ⟨rfl, rfl⟩ := w8; rcases h4 with u | u; cases u; cases u
        by_cases w12 : a = 233 ∧ k = 12
        · obtain ⟨rfl, rfl⟩ := w12; rcases h4 with u | u; cases u; cases u
        by_cases w13 : a = 233 ∧ k = 13
        · obtain ⟨rfl, rfl⟩ := w13; rcases h4 with u | u; cases u; cases u
        rw [if_neg w9, if_neg w10, if_neg w8, if_neg w12, if_neg w13]
      rw [hq, up2_out z2, mf_o n235]
      show (if _ then _ else G a k) = _
      rw [if_neg (fun u => n235 u.1)]
      by_cases z3 : a = 101 ∧ k = 1
      · obtain ⟨rfl, rfl⟩ := z3
        rw [G101, fH_t (Or.inl ⟨rfl, rfl⟩)]
      rw [Go a k h2 (by omega), fH_f (by omega)]
    have RSH : RS (fH f false) H := fun a k h1 h2 => HF a k (fun z => scrC_hi h1 (by omega)) (by
      rintro ⟨rfl, z⟩
      unfold scrC at h1
      simp [show Nat.ble 2 k = true from Nat.ble_eq.mpr z] at h1) (Or.inl h2)
    have H117 : rv H 117 = r := by
      rw [rv_eq (g := f) (fun a k h1 h2 => by rw [HF a k (by omega) (by omega) (Or.inl (scr_lt (by omega))), fH_f (by omega)]), hrv]
    refine ⟨.int (Int32.ofInt (-100) - nI (tS y t q)), wI h G, jP h y t q, H, fun Q => ?_, fun Q => ?_, ⟨F, TB_of (fun a k ha => ?_) T, ?_, ?_, (((R.fH false).rs RSH).jW _).mono (by omega)⟩, ⟨fun a k ha => ?_, rfl, rfl, Nat.le_add_right _ _, Nat.le_add_right _ _, Nat.le_refl _, Nat.le_refl _⟩⟩
    · have etl : Run 29 1777 [.ref 101, .ref 145] (wI h W) = fun Q => Q (some (.int (nI 0))) (wI h (tcS (ww X1 145 ρ') e (nI (tS y t q)) k v)) := by
        funext Q
        rw [← ec Q]
        simp -implicitDefEqProofs (disch := first | omega | (simp (disch := omega) only [nb_upr]; omega)) only [R_1777, w_1777_0, zi_0, zi_0n, zi_31, zi_625, zi_32i, zi_32r, zi_32u, zi_32a, zi_33, zi_34, zi_71, zi_210, zi_626, zi_627, zi_452, zi_48, zi_67w1, zi_67w2, zi_129, zi_23, zi_23n, zi_628, zi_222, zi_75, zi_39i, zi_39r, zi_39u, zi_39a, zi_40, F.t101, kC_eq, toL_s, toL_n, okS0, okS1, okS2, okS3, okS4, okS5, true_and, and_true, hT_wI, hL_wI, hR_wI, hI_wI, hJ_wI, sI_wI, rfP, isIA_100, isIA_120, inb_ok, nI_clamp, nI_add, nI_mul, ↓reduceIte, not_false_eq_true, not_true_eq_false, true_or, or_true, ↓bI_01, ↓b01_0, ↓b01_1, bI_0, z00, z10, n4, n5, n2, n8, Nat.reduceMul, Nat.reduceAdd, Nat.reduceLT, Nat.reduceLeDiff, tc_first]
      simp -implicitDefEqProofs (disch := first | omega | (simp (disch := omega) only [nb_upr]; omega)) only [R_32, w_32_0, zi_0, zi_0n, zi_90, zi_91, zi_92, zi_93, zi_94, zi_68, zi_95, zi_96i, zi_96r, zi_96u, zi_96a, zi_31, zi_97, zi_88, zi_98, zi_99, zi_100, zi_101, zi_67w1, zi_67w2, zi_102, zi_103, zi_104, F.t100, F.r100_0, F.r100_2, F.r100_4, F.t101, F.w117.t, F.w145.t, kC_eq, toL_s, toL_n, okS0, okS1, okS2, okS3, okS4, okS5, true_and, and_true, hT_wI, hL_wI, hR_wI, hI_wI, hJ_wI, sI_wI, rfP, isIA_100, isIA_120, inb_ok, nI_clamp, nI_add, nI_mul, ↓reduceIte, not_false_eq_true, not_true_eq_false, true_or, or_true, ↓bI_01, ↓b01_0, ↓b01_1, bI_0, z00, z10, n4, n5, n2, n8, Nat.reduceMul, Nat.reduceAdd, Nat.reduceLT, Nat.reduceLeDiff, Nat.reduceSub, esa, X117, eZ, hW, etl, tc_u1, hG, G2]
    · rw [er Q, er2 Q, w_616_2]
      simp -implicitDefEqProofs (disch := first | omega | (simp (disch := omega) only [nb_upr]; omega)) only [zi_0, zi_0n, zi_31, zi_370, zi_48, zi_371, zi_372, zi_358, zi_373, zi_33, zi_374, zi_108, zi_375, zi_376, zi_40, zi_368, zi_269, zi_99, zi_377, zi_101, zi_67w1, zi_67w2, zi_42, zi_357, zi_106, zi_38, zi_378, zi_379, zi_59, hT_jP, F.t233, kC_eq, toL_s, toL_n, okS0, okS1, okS2, okS3, okS4, okS5, true_and, and_true, hT_wI, hL_wI, hR_wI, hI_wI, hJ_wI, sI_wI, rfP, isIA_100, isIA_120, inb_ok, nI_clamp, nI_add, nI_mul, ↓reduceIte, not_false_eq_true, not_true_eq_false, true_or, or_true, ↓bI_01, ↓b01_0, ↓b01_1, bI_0, z00, z10, n4, n5, n2, n8, Nat.reduceMul, Nat.reduceAdd, Nat.reduceLT, Nat.reduceLeDiff, tp_u7, hH, H13, H9]
    · rcases ha with z | rfl
      · rw [HF a k (by omega) (by omega) (Or.inl (scr_lt (by omega))), fH_f (by omega)]
      · rw [HF 238 k (by omega) (by omega) (Or.inl rfl), fH_f (by omega)]
    · rw [H117]; exact V.mono (by omega)
    · rw [H117, rm_eq (g := f) (by funext k; rw [HF 234 k (by omega) (by omega) (Or.inr rfl), fH_f (by omega)]), em]
    · rw [HF a k (by omega) (by omega) (Or.inl (scr_lt (by omega))), fH_f (by omega)]
end
