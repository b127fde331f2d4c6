section
/-! the two objects side by side at first; the whole law -/
variable {L : Nat} {xs : Nat → Int32}
theorem h0_N : hN (h0 L xs) = 100 := rfl
theorem h0_U : hU (h0 L xs) = 0 := rfl
theorem h0_z : ∀ a, 100 ≤ a → hT (h0 L xs) a = 0 ∧ hL (h0 L xs) a = 0 := fun a ha => by
  have h1 : ¬ a = 0 := by omega
  have h2 : ¬ a < 6 := by omega
  have h3 : ¬ (10 ≤ a ∧ a < 28) := by omega
  constructor
  · rw [hT_h0, if_neg h2, if_neg h3]
  · show (if a = 0 then (120, L) else if a < 6 then (120, (statV a).length) else if 10 ≤ a ∧ a < 28 then (130, slen.getD (a - 10) 0) else (0, 0)).2 = 0
    rw [if_neg h1, if_neg h2, if_neg h3]
theorem h0_R (a k : Nat) : hR (h0 L xs) a k = none := rfl
theorem sb28 : sbyt.length = 18 := by decide +kernel
theorem h0_I : ZF (hI (h0 L xs)) 100 := fun a j ha => by
  show (if a = 0 then xs j else if a < 6 then (statV a).getD j 0 else (sbyt.getD (a - 10) []).getD j 0) = 0
  rw [if_neg (by omega), if_neg (by omega)]
  have e : sbyt.getD (a - 10) [] = [] := by
    show (sbyt[a - 10]?).getD [] = []
    rw [List.getElem?_eq_none (by rw [sb28]; omega)]
    rfl
  rw [e]
  rfl
theorem h0_s (k j : Nat) (h1 : 1 ≤ k) (h6 : k < 6) : hI (h0 L xs) k j = (statV k).getD j 0 := by
  show (if k = 0 then xs j else if k < 6 then (statV k).getD j 0 else (sbyt.getD (k - 10) []).getD j 0) = _
  rw [if_neg (by omega), if_pos h6]
theorem sb_ok : ∀ k, k < 28 → 10 ≤ k → slen.getD (k - 10) 0 = (WT k).length ∧ ∀ j, j < (WT k).length → (sbyt.getD (k - 10) []).getD j 0 = nI ((WT k).getD j 0) := by decide +kernel
theorem h0_X : TX (h0 L xs) (hI (h0 L xs)) := fun k k1 k2 => by
  obtain ⟨s1, s2⟩ := sb_ok k k2 k1
  refine ⟨?_, ?_, fun j hj => ?_⟩
  · rw [hT_h0, if_neg (by omega), if_pos ⟨k1, k2⟩]
  · show (if k = 0 then (120, L) else if k < 6 then (120, (statV k).length) else if 10 ≤ k ∧ k < 28 then (130, slen.getD (k - 10) 0) else (0, 0)).2 = _
    rw [if_neg (by omega), if_neg (by omega), if_pos ⟨k1, k2⟩]
    exact s1
  · show (if k = 0 then xs j else if k < 6 then (statV k).getD j 0 else (sbyt.getD (k - 10) []).getD j 0) = _
    rw [if_neg (by omega), if_neg (by omega)]
    exact s2 j hj
theorem ops_T : ∀ i, i < 153 → eTL (ops.take 311) 100 (100 + i) (0, 0) = fTL.getD i (0, 0) := by decide +kernel
theorem ops_R : ∀ q ∈ fRL, eRL (ops.take 311) 100 q.1 q.2.1 none = some q.2.2 := by decide +kernel
theorem ops_n : (∀ s, s < 4 → eRL (ops.take 311) 100 105 s none = none) ∧ ∀ s, s < 4 → eRL (ops.take 311) 100 107 s none = none := by decide +kernel
theorem ops_U : eUL (ops.take 311) ≤ 10000 := by decide +kernel
theorem o_lo : ∀ q ∈ oTL, 1 ≤ q.1 ∧ q.1 < 6 ∧ q.2.1 = 120 ∧ (statV q.1).length = q.2.2 := by decide +kernel
theorem h0_O {a : Nat} (h1 : 1 ≤ a) (h6 : a < 6) : hT (h0 L xs) a = 120 ∧ hL (h0 L xs) a = (statV a).length := by
  constructor
  · rw [hT_h0, if_pos h6]
  · show (if a = 0 then (120, L) else if a < 6 then (120, (statV a).length) else if 10 ≤ a ∧ a < 28 then (130, slen.getD (a - 10) 0) else (0, 0)).2 = _
    rw [if_neg (by omega), if_pos h6]
theorem fo_FR : FR (fo (h0 L xs) 311) := by
  refine ⟨fun i hi => ?_, fun q hq => ?_, fun q hq => ?_⟩
  · have e := ops_T i hi
    obtain ⟨e1, e2⟩ := fo_T h0_N h0_z (j := 311) (a := 100 + i) (t := (fTL.getD i (0, 0)).1) (m := (fTL.getD i (0, 0)).2) (by omega) e
    exact ⟨e1, e2⟩
  · rw [fo_R h0_N (h0_R _ _)]
    exact ops_R q hq
  · obtain ⟨q1, q2, q3, q4⟩ := o_lo q hq
    obtain ⟨e1, e2⟩ := fo_lo (h := h0 L xs) h0_N (j := 311) (a := q.1) (by omega)
    obtain ⟨e3, e4⟩ := h0_O (L := L) (xs := xs) q1 q2
    exact ⟨e1.trans (e3.trans q3.symm), e2.trans (e4.trans q4)⟩
/-- the ints behind the constructors -/
def fI (f : Nat → Nat → Int32) : Nat → Nat → Int32 := up2 (up2 (up2 (up2 (FW f 8) 106 0 (Int32.ofInt (-1))) 106 1 (Int32.ofInt (-1))) 106 2 (Int32.ofInt (-1))) 106 3 (Int32.ofInt (-1))
def fM (f : Nat → Nat → Int32) : Nat → Nat → Int32 := up2 (bgF (up2 (up2 (up2 (up2 (up2 (up2 (up2 (up2 (up2 (up2 (up2 (up2 (up2 f 238 0 (nI 2)) 238 1 (nI 3)) 238 2 (nI 1)) 238 3 (nI 5)) 238 4 (nI 8)) 246 0 (Int32.ofInt (-1))) 246 1 (Int32.ofInt (-1))) 246 2 (Int32.ofInt (-1))) 246 3 (Int32.ofInt (-1))) 249 0 (Int32.ofInt (-1))) 249 1 (Int32.ofInt (-1))) 249 2 (Int32.ofInt (-1))) 249 3 (Int32.ofInt (-1))) 234) 234 6 (nI 1)
theorem FW_o {f : Nat → Nat → Int32} {a k : Nat} (h1 : ¬ (117 ≤ a ∧ a < 159)) (h2 : ¬ (163 ≤ a ∧ a < 233)) : FW f 8 a k = f a k := by
  show saF (up2 (saF (up2 (saF (up2 (saF (up2 (saF (up2 (saF (up2 (saF (up2 (saF (up2 f 117 17 (nI 1)) 117) 131 17 (nI 1)) 131) 145 17 (nI 1)) 145) 163 17 (nI 1)) 163) 177 17 (nI 1)) 177) 191 17 (nI 1)) 191) 205 17 (nI 1)) 205) 219 17 (nI 1)) 219 a k = f a k
  simp (disch := omega) only [saF_out, up2_ne]
theorem FW_117 {f : Nat → Nat → Int32} {a k : Nat} (h1 : 117 ≤ a) (h2 : a < 131) : FW f 8 a k = saF (up2 f 117 17 (nI 1)) 117 a k := by
  show saF (up2 (saF (up2 (saF (up2 (saF (up2 (saF (up2 (saF (up2 (saF (up2 (saF (up2 f 117 17 (nI 1)) 117) 131 17 (nI 1)) 131) 145 17 (nI 1)) 145) 163 17 (nI 1)) 163) 177 17 (nI 1)) 177) 191 17 (nI 1)) 191) 205 17 (nI 1)) 205) 219 17 (nI 1)) 219 a k = _
  rw [saF_out (by omega), up2_ne _ _ (by omega), saF_out (by omega), up2_ne _ _ (by omega), saF_out (by omega), up2_ne _ _ (by omega), saF_out (by omega), up2_ne _ _ (by omega), saF_out (by omega), up2_ne _ _ (by omega), saF_out (by omega), up2_ne _ _ (by omega), saF_out (by omega), up2_ne _ _ (by omega)]
theorem bgF_o {f : Nat → Nat → Int32} {c a k : Nat} (h : ¬ a = c) : bgF f c a k = f a k := if_neg (fun z => h z.1)
theorem fM_o {f : Nat → Nat → Int32} {a k : Nat} (h1 : ¬ a = 234) (h2 : ¬ a = 238) (h3 : ¬ a = 246) (h4 : ¬ a = 249) : fM f a k = f a k := by
  unfold fM
  rw [up2_ne _ _ h1, bgF_o h1]
  simp (disch := omega) only [up2_ne]
theorem fI_o {f : Nat → Nat → Int32} {a k : Nat} (h1 : ¬ a = 106) (h2 : ¬ (117 ≤ a ∧ a < 159)) (h3 : ¬ (163 ≤ a ∧ a < 233)) : fI f a k = f a k := by
  unfold fI
  simp (disch := omega) only [up2_ne]
  exact FW_o h2 h3
theorem four {c s : Nat} {x : Int32} {f : Nat → Nat → Int32} (hs : s < 4) : up2 (up2 (up2 (up2 f c 0 x) c 1 x) c 2 x) c 3 x c s = x := by
  have h : s = 0 ∨ s = 1 ∨ s = 2 ∨ s = 3 := by omega
  rcases h with rfl | rfl | rfl | rfl
  · rw [up2_nk _ _ (by decide), up2_nk _ _ (by decide), up2_nk _ _ (by decide), up2_same]
  · rw [up2_nk _ _ (by decide), up2_nk _ _ (by decide), up2_same]
  · rw [up2_nk _ _ (by decide), up2_same]
  · rw [up2_same]
theorem fI_106 {f : Nat → Nat → Int32} {s : Nat} (hs : s < 4) : fI f 106 s = Int32.ofInt (-1) := four hs
theorem fM_246 {f : Nat → Nat → Int32} {s : Nat} (hs : s < 4) : fM f 246 s = Int32.ofInt (-1) := by
  unfold fM
  rw [up2_ne _ _ (by decide), bgF_o (by decide), up2_ne _ _ (by decide), up2_ne _ _ (by decide), up2_ne _ _ (by decide), up2_ne _ _ (by decide)]
  exact four hs
theorem fM_249 {f : Nat → Nat → Int32} {s : Nat} (hs : s < 4) : fM f 249 s = Int32.ofInt (-1) := by
  unfold fM
  rw [up2_ne _ _ (by decide), bgF_o (by decide)]
  exact four hs
theorem fM_238 {f : Nat → Nat → Int32} {s : Nat} (hs : s < 5) : fM f 238 s = szI s := by
  unfold fM
  rw [up2_ne _ _ (by decide), bgF_o (by decide), up2_ne _ _ (by decide), up2_ne _ _ (by decide), up2_ne _ _ (by decide), up2_ne _ _ (by decide), up2_ne _ _ (by decide), up2_ne _ _ (by decide), up2_ne _ _ (by decide), up2_ne _ _ (by decide)]
  have h : s = 0 ∨ s = 1 ∨ s = 2 ∨ s = 3 ∨ s = 4 := by omega
  rcases h with rfl | rfl | rfl | rfl | rfl
  · rw [up2_nk _ _ (by decide), up2_nk _ _ (by decide), up2_nk _ _ (by decide), up2_nk _ _ (by decide), up2_same]; rfl
  · rw [up2_nk _ _ (by decide), up2_nk _ _ (by decide), up2_nk _ _ (by decide), up2_same]; rfl
  · rw [up2_nk _ _ (by decide), up2_nk _ _ (by decide), up2_same]; rfl
  · rw [up2_nk _ _ (by decide), up2_same]; rfl
  · rw [up2_same]; rfl
theorem rm_fM {f : Nat → Nat → Int32} : rm (fM f) 234 = ini (nI 1) := by
  have e : ∀ k, k < 136 → fM f 234 k = ini (nI 1) k := fun k hk => by
    unfold fM
    by_cases k6 : k = 6
    · rw [k6, up2_same]; rfl
    · rw [up2_nk _ _ k6]
      have e1 : ∀ g : Nat → Nat → Int32, bgF g 234 234 k = ini (nI 0) k := fun g => if_pos ⟨rfl, hk⟩
      rw [e1, ini_z k6]
  have e5 : ini (nI 1) 5 = nI 0 := rfl
  funext q
  unfold rm
  rw [e 5 (by decide), e5, nI_clamp (by decide)]
  by_cases z : q < min 136 (76 + 10 * 0)
  · rw [if_pos z, e q (by omega)]
  · rw [if_neg z]
    exact (Z_ini q (by rw [lim_ini]; omega)).symm
theorem pre_rv {f : Nat → Nat → Int32} (S : ∀ k j, 1 ≤ k → k < 6 → f k j = (statV k).getD j 0) : rv (fM (fI f)) 117 = ini (nI 1) := by
  obtain ⟨g, hg⟩ : ∃ g : Nat → Nat → Int32, (fun a k => if a = 238 then szI k else up2 f 117 17 (nI 1) a k) = g := ⟨_, rfl⟩
  have go : ∀ a k, ¬ a = 238 → g a k = up2 f 117 17 (nI 1) a k := fun a k h => by rw [← hg]; exact if_neg h
  have gs : ∀ k j, 1 ≤ k → k < 6 → g k j = (statV k).getD j 0 := fun k j h1 h6 => by
    rw [go k j (by omega), up2_ne _ _ (by omega), S k j h1 h6]
  have T : TB g := by
    refine ⟨fun s hs => ⟨?_, ?_⟩, ⟨gs 3 0 (by decide) (by decide), gs 3 1 (by decide) (by decide), gs 3 2 (by decide) (by decide)⟩, ⟨gs 4 0 (by decide) (by decide), gs 4 1 (by decide) (by decide), gs 4 2 (by decide) (by decide)⟩, ⟨gs 1 0 (by decide) (by decide), gs 1 1 (by decide) (by decide), gs 1 2 (by decide) (by decide)⟩, gs 2 0 (by decide) (by decide), gs 2 1 (by decide) (by decide), gs 2 2 (by decide) (by decide), gs 2 3 (by decide) (by decide), gs 2 4 (by decide) (by decide)⟩
    · rw [gs 5 s (by decide) (by decide)]
      have hh : ∀ s, s < 5 → (statV 5).getD s 0 = szI s := by decide
      exact hh s hs
    · rw [← hg]; rfl
  have e := rv_saF (b := 117) (by decide) T
  have e17 : g 117 17 = nI 1 := by rw [go 117 17 (by decide), up2_same]
  rw [e17] at e
  rw [← e]
  refine rv_eq (fun a k h1 h2 => ?_)
  rw [fM_o (by omega) (by omega) (by omega) (by omega)]
  have e2 : fI f a k = FW f 8 a k := by
    unfold fI
    rw [up2_ne _ _ (by omega), up2_ne _ _ (by omega), up2_ne _ _ (by omega), up2_ne _ _ (by omega)]
  rw [e2, FW_117 h1 h2]
  unfold saF
  have o1 : ∀ k, up2 f 117 17 (nI 1) 1 k = g 1 k := fun k => (go 1 k (by decide)).symm
  have o2 : ∀ k, up2 f 117 17 (nI 1) 2 k = g 2 k := fun k => (go 2 k (by decide)).symm
  have oo : up2 f 117 17 (nI 1) a k = g a k := (go a k (by omega)).symm
  simp only [up2, fil, cpf]
  have o1' : ∀ k, (if 1 = 117 ∧ k = 17 then nI 1 else f 1 k) = g 1 k := o1
  have o2' : ∀ k, (if 2 = 117 ∧ k = 17 then nI 1 else f 2 k) = g 2 k := o2
  have oo' : (if a = 117 ∧ k = 17 then nI 1 else f a k) = g a k := oo
  simp only [o1', o2', oo']
theorem first_I : INVf 0 (fo (h0 L xs) 311) (fM (fI (hI (h0 L xs)))) := by
  have S := fun k j h1 h6 => h0_s (L := L) (xs := xs) k j h1 h6
  have o : ∀ a k, ¬ a = 106 → ¬ (117 ≤ a ∧ a < 159) → ¬ (163 ≤ a ∧ a < 233) → ¬ a = 234 → ¬ a = 238 → ¬ a = 246 → ¬ a = 249 → fM (fI (hI (h0 L xs))) a k = hI (h0 L xs) a k := fun a k h1 h2 h3 h4 h5 h6 h7 => by
    rw [fM_o h4 h5 h6 h7, fI_o h1 h2 h3]
  have os : ∀ k j, 1 ≤ k → k < 6 → fM (fI (hI (h0 L xs))) k j = (statV k).getD j 0 := fun k j h1 h6 => by
    rw [o k j (by omega) (by omega) (by omega) (by omega) (by omega) (by omega) (by omega)]
    exact S k j h1 h6
  have oz : ∀ a k, 100 ≤ a → ¬ a = 106 → ¬ (117 ≤ a ∧ a < 159) → ¬ (163 ≤ a ∧ a < 233) → ¬ a = 234 → ¬ a = 238 → ¬ a = 246 → ¬ a = 249 → fM (fI (hI (h0 L xs))) a k = nI 0 := fun a k h0' h1 h2 h3 h4 h5 h6 h7 => by
    rw [o a k h1 h2 h3 h4 h5 h6 h7]
    exact h0_I a k h0'
  have hv := pre_rv S
  have N253 : hN (fo (h0 L xs) 311) = 253 := fo_N h0_N (by decide +kernel)
  refine ⟨fo_FR, ?_, ?_, ?_, Or.inl ⟨oz 100 12 (by decide) (by decide) (by decide) (by decide) (by decide) (by decide) (by decide) (by decide), oz 233 5 (by decide) (by decide) (by decide) (by decide) (by decide) (by decide) (by decide) (by decide)⟩, ⟨0, by decide, oz 101 1 (by decide) (by decide) (by decide) (by decide) (by decide) (by decide) (by decide) (by decide), oz 233 7 (by decide) (by decide) (by decide) (by decide) (by decide) (by decide) (by decide) (by decide), fun k hk => absurd hk (by omega)⟩, ⟨0, by decide, oz 100 11 (by decide) (by decide) (by decide) (by decide) (by decide) (by decide) (by decide) (by decide), oz 233 23 (by decide) (by decide) (by decide) (by decide) (by decide) (by decide) (by decide) (by decide), fun k hk => absurd hk (by omega)⟩, ⟨0, by decide, oz 103 1 (by decide) (by decide) (by decide) (by decide) (by decide) (by decide) (by decide) (by decide), oz 233 34 (by decide) (by decide) (by decide) (by decide) (by decide) (by decide) (by decide) (by decide), fun k hk => absurd hk (by omega)⟩, ⟨by rw [N253]; omega, fun s hs => Or.inl ⟨?_, ?_⟩, fun s s' c c' h1 h2 h3 h4 h5 => ?_⟩, fun s hs => Or.inl ⟨?_, ?_, ?_⟩⟩
  · refine ⟨fun s hs => ⟨?_, ?_⟩, ⟨os 3 0 (by decide) (by decide), os 3 1 (by decide) (by decide), os 3 2 (by decide) (by decide)⟩, ⟨os 4 0 (by decide) (by decide), os 4 1 (by decide) (by decide), os 4 2 (by decide) (by decide)⟩, ⟨os 1 0 (by decide) (by decide), os 1 1 (by decide) (by decide), os 1 2 (by decide) (by decide)⟩, os 2 0 (by decide) (by decide), os 2 1 (by decide) (by decide), os 2 2 (by decide) (by decide), os 2 3 (by decide) (by decide), os 2 4 (by decide) (by decide)⟩
    · rw [os 5 s (by decide) (by decide)]
      have hh : ∀ s, s < 5 → (statV 5).getD s 0 = szI s := by decide
      exact hh s hs
    · exact fM_238 hs
  · rw [hv]; exact Vr_ini
  · rw [hv]; exact rm_fM
  · rw [fo_R h0_N (h0_R _ _)]
    exact ops_n.1 s hs
  · exact fM_246 hs
  · rw [fo_R h0_N (h0_R _ _), ops_n.1 s h1] at h4
    cases h4
  · rw [fM_o (by decide) (by decide) (by decide) (by decide)]
    exact fI_106 hs
  · rw [fo_R h0_N (h0_R _ _)]
    exact ops_n.2 s hs
  · exact fM_249 hs
theorem first_LI : LI 0 L (fo (h0 L xs) 311) (fM (fI (hI (h0 L xs)))) := by
  refine ⟨first_I, fun k k1 k2 => ?_, ?_, ?_⟩
  · obtain ⟨x1, x2, x3⟩ := h0_X (L := L) (xs := xs) k k1 k2
    obtain ⟨e1, e2⟩ := fo_lo (h := h0 L xs) h0_N (j := 311) (a := k) (by omega)
    refine ⟨e1.trans x1, e2.trans x2, fun j hj => ?_⟩
    rw [fM_o (by omega) (by omega) (by omega) (by omega), fI_o (by omega) (by omega) (by omega)]
    exact x3 j hj
  · exact (fo_lo (h := h0 L xs) h0_N (j := 311) (a := 0) (by decide)).1
  · exact (fo_lo (h := h0 L xs) h0_N (j := 311) (a := 0) (by decide)).2
theorem law_new (Q : Option Value → PH → Prop) : Run 31 2281 [.ref 0] (h0 L xs) Q = WP 31 2281 1 [.ref 0, .ref 100, .ref 233, .int (nI 0)] [] (wI (fo (h0 L xs) 311) (fM (fI (hI (h0 L xs))))) Q := by
  have o1 := (h0_O (L := L) (xs := xs) (a := 1) (by decide) (by decide))
  have o2 := (h0_O (L := L) (xs := xs) (a := 2) (by decide) (by decide))
  have ki := fun d hd Q => k_init (h := h0 L xs) (f := hI (h0 L xs)) h0_N h0_z o1.1 o1.2 o2.1 o2.2 h0_I d hd Q
  have zI0 : ZF (fI (hI (h0 L xs))) 233 := by
    have z8 := FW_z8 (h0_I (L := L) (xs := xs))
    exact (((((z8.mono (show 233 ≤ 233 by decide)).up (a := 106) (M := 233) (by omega) (by omega)).up (M := 233) (by omega) (by omega)).up (M := 233) (by omega) (by omega)).up (M := 233) (by omega) (by omega))
  have km := fun d hd Q => k_model (h := h0 L xs) (f := fI (hI (h0 L xs))) h0_N h0_z zI0 d hd Q
  obtain ⟨f0, hf0⟩ : ∃ f0, hI (h0 L xs) = f0 := ⟨_, rfl⟩
  have hI0 := h0_I (L := L) (xs := xs)
  rw [hf0] at ki km zI0 hI0 ⊢
  have eM : ∀ f, up2 (bgF (up2 (up2 (up2 (up2 (up2 (up2 (up2 (up2 (up2 (up2 (up2 (up2 (up2 f 238 0 (nI 2)) 238 1 (nI 3)) 238 2 (nI 1)) 238 3 (nI 5)) 238 4 (nI 8)) 246 0 (Int32.ofInt (-1))) 246 1 (Int32.ofInt (-1))) 246 2 (Int32.ofInt (-1))) 246 3 (Int32.ofInt (-1))) 249 0 (Int32.ofInt (-1))) 249 1 (Int32.ofInt (-1))) 249 2 (Int32.ofInt (-1))) 249 3 (Int32.ofInt (-1))) 234) 234 6 (nI 1) = fM f := fun f => rfl
  have eI : up2 (up2 (up2 (up2 (FW f0 8) 106 0 (Int32.ofInt (-1))) 106 1 (Int32.ofInt (-1))) 106 2 (Int32.ofInt (-1))) 106 3 (Int32.ofInt (-1)) = fI f0 := rfl
  rw [eM] at km
  rw [eI] at ki
  have e0 : h0 L xs = wI (fo (h0 L xs) 0) f0 := by rw [← hf0]; rfl
  have U0 : nC (fo (h0 L xs) 0) 12 13 = fo (h0 L xs) 1 := fo_n (by decide +kernel)
  have N0 : hN (fo (h0 L xs) 0) = 100 := fo_N h0_N (by decide +kernel)
  have U272 : nC (fo (h0 L xs) 272) 13 36 = fo (h0 L xs) 273 := fo_n (by decide +kernel)
  have N272 : hN (fo (h0 L xs) 272) = 233 := fo_N h0_N (by decide +kernel)
  have T1 : hT (fo (h0 L xs) 1) 100 = 12 := (fo_T h0_N h0_z (by decide) (show eTL (ops.take 1) 100 100 (0, 0) = (12, 13) by decide +kernel)).1
  have T273 : hT (fo (h0 L xs) 273) 233 = 13 := (fo_T h0_N h0_z (by decide) (show eTL (ops.take 273) 100 233 (0, 0) = (13, 36) by decide +kernel)).1
  have zf : ∀ c, 100 ≤ c → nf f0 c = f0 := fun c hc => hI0.nf c hc
  have zi : ∀ c, 233 ≤ c → nf (fI f0) c = fI f0 := fun c hc => zI0.nf c hc
  conv => lhs; rw [e0]
  simp -implicitDefEqProofs (disch := first | omega | (simp (disch := omega) only [nb_upr]; omega)) only [R_2281, w_2281_0, zi_708, zi_3i, zi_3r, zi_709, zi_21i, zi_21r, zi_21u, zi_21a, zi_21ni, zi_21nr, zi_21nu, zi_21na, zi_710, zi_711, zi_712i, zi_712r, zi_712u, zi_712a, zi_712ni, zi_712nr, zi_712nu, zi_712na, zi_31, zi_111i, zi_111r, zi_111u, zi_111a, zi_33, zi_63, zi_0, zi_0n, zi_173, zi_59, zi_101, zi_713, zi_106, zi_707, zi_83, zi_714, zi_23, zi_23n, zi_48, zi_70, zi_232, zi_383, zi_715, zi_51, zi_716, zi_367, zi_717, zi_54, zi_718, zi_719, zi_719n, zi_720, zi_721, zi_67w1, zi_67w2, zi_722, zi_723, zi_724, zi_725, zi_726, zi_727, zi_728, zi_729, zi_730, zi_731, zi_732, zi_527, zi_733, zi_734, zi_735, zi_736, zi_9, zi_737, zi_738, zi_739, zi_740, zi_741, zi_742, zi_743, zi_744, zi_745, zi_746, zi_747, zi_748, zi_749, zi_750, zi_751, zi_752, zi_753, zi_754, zi_755, zi_756, zi_757, zi_758, zi_759, zi_760, zi_761, zi_762, zi_763, zi_764, zi_765, zi_766, zi_767, zi_768, zi_769, zi_770, zi_771, zi_772, zi_773, zi_774, zi_775, zi_776, zi_777, zi_778, zi_779, zi_780, zi_781, zi_782, zi_783, zi_784, zi_785, zi_786, zi_787, zi_788, zi_234, zi_789, zi_790, zi_791, zi_792, zi_793, zi_794, zi_795, zi_796, zi_797, zi_798, zi_799, zi_800, zi_801, zi_802, zi_803, zi_804, zi_805, zi_806, zi_807, zi_808, zi_809, zi_810, zi_811, zi_812, zi_813, zi_814, zi_815, zi_816, zi_817, zi_818, zi_819, zi_820, zi_821, zi_822i, zi_822r, zi_822u, zi_822a, zi_40, kC_eq, toL_s, toL_n, okS0, okS1, okS2, okS3, okS4, okS5, true_and, and_true, hT_wI, hL_wI, hR_wI, hI_wI, hJ_wI, sI_wI, rfP, isIA_100, isIA_120, inb_ok, nI_clamp, nI_add, nI_mul, ↓reduceIte, not_false_eq_true, not_true_eq_false, true_or, or_true, ↓bI_01, ↓b01_0, ↓b01_1, bI_0, z00, z10, n4, n5, n2, n8, Nat.reduceMul, Nat.reduceAdd, Nat.reduceLT, Nat.reduceLeDiff, nC_wI, hN_wI, U0, N0, U272, N272, T1, T273, zf, zi, ki, km]
theorem pureLaw : PureLaw := by
  intro L xs hL
  obtain ⟨h', f', hn, hu, e⟩ := law_all (L := L) hL 513 0 0 (fo (h0 L xs) 311) (fM (fI (hI (h0 L xs)))) first_LI (by decide) (by decide) (by omega)
  have N253 : hN (fo (h0 L xs) 311) = 253 := fo_N h0_N (by decide +kernel)
  have U311 : hU (fo (h0 L xs) 311) ≤ 10000 := by
    have e1 := eUL_ok (ops.take 311) (h0 L xs)
    have e2 := ops_U
    unfold fo
    rw [e1, h0_U]
    omega
  have R : Run 31 2281 [.ref 0] (h0 L xs) (fun r g => r = some (.int (nI 1)) ∧ g = wI h' f') := by
    rw [law_new, e]
    exact ⟨rfl, rfl⟩
  obtain ⟨-, n, r, g, hx, rfl, rfl⟩ := R
  refine ⟨n, 31, wI h' f', by decide, hx, ?_, ?_⟩
  · show hN h' ≤ 600100
    omega
  · show hU h' ≤ 7302250
    omega
end
