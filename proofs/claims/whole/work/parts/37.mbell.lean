section
theorem r_held (d : Nat) (x lo hi : Int32) (h : PH) : Run d 1027 [.int x, .int lo, .int hi] h (fun r g => r = some (.int (if x < lo then lo else if hi < x then hi else x)) ∧ g = h) := by
  have fin : ∀ y : Int32, y = (if x < lo then lo else if hi < x then hi else x) → WP d 1027 3 [.int x, .int lo, .int hi] [.int y] h (fun r g => r = some (.int (if x < lo then lo else if hi < x then hi else x)) ∧ g = h) := by
    intro y hy
    refine WP.blk c_1027_3 1 rfl rfl rfl ?_
    simp only [c_1027_3, wpL, wpI]
    exact ⟨Or.inl trivial, by rw [hy], trivial⟩
  refine Run.blk c_1027_0 1 3 rfl rfl rfl rfl rfl ?_
  simp only [c_1027_0, wpL, wpI, nth, lay, pad, wJump, Int.reduceToNat]
  split
  · rename_i h1
    refine WP.blk c_1027_1 1 rfl rfl rfl ?_
    simp only [c_1027_1, wpL, wpI, nth, wJump, Int.reduceToNat]
    split
    · rename_i h2
      refine WP.blk c_1027_2 1 rfl rfl rfl ?_
      simp only [c_1027_2, wpL, wpI, nth, wJump, Int.reduceToNat]
      exact fin _ (by rw [if_neg (Int32.not_lt.mpr h1), if_neg (Int32.not_lt.mpr h2)])
    · rename_i h2
      exact fin _ (by rw [if_neg (Int32.not_lt.mpr h1), if_pos (Int32.not_le.mp h2)])
  · rename_i h1
    exact fin _ (by rw [if_pos (Int32.not_le.mp h1)])
theorem mw_up2 {f : Nat → Nat → Int32} {c a k : Nat} {r : Nat → Int32} {x : Int32} (h : ¬ a = c) : up2 (mw f c r) a k x = mw (up2 f a k x) c r := by
  funext b j
  by_cases h1 : b = a ∧ j = k
  · obtain ⟨rfl, rfl⟩ := h1
    rw [up2_same, mw_out h, up2_same]
  · have e : ∀ g : Nat → Nat → Int32, up2 g a k x b j = g b j := fun g => if_neg h1
    rw [e]
    unfold mw
    rw [e]
theorem mb_in (d s : Nat) (h : PH) (f : Nat → Nat → Int32) (r : Nat → Int32) (w : FR h) (V : Vs r) (hs : s < 8) {Q : Option Value → PH → Prop}
    (K : ∀ v3, WP (d + 1) 1056 5 [.ref 233, .int (nI s), .int (nI 5), v3] [] (wI h (mw f 234 (bell1 r (s * 5 + 5)))) Q) :
    ∀ (j k : Nat) (v3 : Value), k + j = 5 → WP (d + 1) 1056 2 [.ref 233, .int (nI s), .int (nI k), v3] [] (wI h (mw f 234 (bell1 r (s * 5 + k)))) Q
  | 0, k, v3, hk => by
    obtain rfl : k = 5 := by omega
    refine WP.blk c_1056_2 0 rfl rfl rfl ?_
    simp only [c_1056_2, wpL, wpI, nth, wJump, Int.reduceToNat, Int32.le_refl, if_true]
    exact K v3
  | j + 1, k, v3, hk => by
    have hn : s * 5 + k < 40 := by omega
    have hd : (s * 5 + k) / 5 = s := by omega
    have hm : (s * 5 + k) % 5 = k := by omega
    have hq : 12 + 7 * s + k = pq (s * 5 + k) := by unfold pq; omega
    have g1 : ¬ nI 5 ≤ nI k := nI_ge (by omega) (by decide)
    have h5 : ¬ nI 5 = 0 := by decide
    have eb : bell1 r (s * 5 + k) 1 = r 1 := bell1_out pq_1 _
    obtain ⟨bq, b1, b2, hbq⟩ := V.2.2.1
    have hne : ¬ r 1 = 0 := by rw [hbq]; exact nI_ne0 (by omega) (by omega)
    have nx := mb_in d s h f r w V hs K j (k + 1)
    refine WP.blk c_1056_2 0 rfl rfl rfl ?_
    simp only [c_1056_2, wpL, wpI, nth, dropN, takeR, okStack, pvok, pvsel, wJump, Int.reduceToNat, if_neg g1, Nat.reduceMod, Nat.reduceDiv, Nat.reduceLeDiff, if_true, BEq.rfl, true_and, hT_wI, w.t233]
    refine ⟨d, rfl, (r_at d h f _ w (by omega)).mono ?_⟩
    rintro _ _ ⟨rfl, rfl⟩
    simp only [Option.toList, List.cons_append, List.nil_append, nth, setN, noLong, true_and, hT_wI, hL_wI, hR_wI, hI_wI, w.t233, w.r233_0, w.t234, w.l234, Nat.reduceMod, Nat.reduceDiv, rfP, isIA, BEq.rfl, Bool.true_or, inb_of (show 1 < 136 by decide) (by decide), inb_of (show 3 < 136 by decide) (by decide), nI_clamp (show 1 < 2 ^ 31 by decide), nI_clamp (show 3 < 2 ^ 31 by decide), mw_r (show 1 < 76 by decide), mw_r (show 3 < 76 by decide), eb, hne, h5, not_false_eq_true, hq]
    have four : ∀ y : Int32, y = (if rem5 (bell1 r (s * 5 + k) 3) = nI k then bell1 r (s * 5 + k) (17 + 7 * s) else 0) → WP (d + 1) 1056 4 [.ref 233, .int (nI s), .int (nI k), .int (bell1 r (s * 5 + k) (pq (s * 5 + k)))] [.int y, .int (bell1 r (s * 5 + k) (pq (s * 5 + k)) + bell1 r (s * 5 + k) (pq (s * 5 + k)) / r 1), .int (nI k), .int (nI s), .ref 233] (wI h (mw f 234 (bell1 r (s * 5 + k)))) Q := by
      intro y hy
      refine WP.blk c_1056_4 0 rfl rfl rfl ?_
      simp only [c_1056_4, wpL, wpI, List.length, Nat.reduceAdd, Nat.reduceMod, Nat.reduceLeDiff, dropN, takeR, okStack, true_and]
      refine ⟨d, rfl, (r_held d _ _ _ _).mono ?_⟩
      rintro _ _ ⟨rfl, rfl⟩
      simp only [Option.toList, List.cons_append, List.nil_append, dropN, takeR, okStack, pvok, pvsel, Nat.reduceMod, Nat.reduceDiv, Nat.reduceLeDiff, if_true, BEq.rfl, true_and, hT_wI, w.t233]
      refine ⟨d, rfl, (r_setsAt d h f _ w (by omega)).mono ?_⟩
      rintro _ _ ⟨rfl, rfl⟩
      simp only [Option.toList, List.nil_append, nth, setN, noLong, wJump, Int.reduceToNat, oI_1, nI_add, true_and, hq]
      have ev : (if bell1 r (s * 5 + k) (pq (s * 5 + k)) + bell1 r (s * 5 + k) (pq (s * 5 + k)) / r 1 + y < nI 0 then nI 0 else if nI 99 < bell1 r (s * 5 + k) (pq (s * 5 + k)) + bell1 r (s * 5 + k) (pq (s * 5 + k)) / r 1 + y then nI 99 else bell1 r (s * 5 + k) (pq (s * 5 + k)) + bell1 r (s * 5 + k) (pq (s * 5 + k)) / r 1 + y) = cl99 (grow (bell1 r (s * 5 + k)) (s * 5 + k)) := by
        unfold cl99 grow
        rw [eb, hm, hd, hy]
        rfl
      rw [ev]
      exact nx _ (by omega)
    split
    · rename_i hz
      refine ⟨d, rfl, (r_at d h f _ w (by omega)).mono ?_⟩
      rintro _ _ ⟨rfl, rfl⟩
      simp only [Option.toList, List.cons_append, List.nil_append]
      exact four _ (by rw [if_pos (show rem5 (bell1 r (s * 5 + k) 3) = nI k from hz), show 12 + 7 * s + 5 = 17 + 7 * s by omega])
    · rename_i hz
      refine WP.blk c_1056_3 0 rfl rfl rfl ?_
      simp only [c_1056_3, wpL, wpI, wJump, Int.reduceToNat]
      exact four _ (by rw [if_neg (show ¬ rem5 (bell1 r (s * 5 + k) 3) = nI k from hz)]; rfl)
theorem bell1_keep {r : Nat → Int32} {i n : Nat} (h : i < n) : ∀ j, bell1 r (n + j) (pq i) = bell1 r n (pq i)
  | 0 => rfl
  | j + 1 => by
    show upr (bell1 r (n + j)) (pq (n + j)) _ (pq i) = _
    rw [upr_ne _ _ (fun z => by have := pq_inj z; omega)]
    exact bell1_keep h j
def DR (f f' : Nat → Nat → Int32) (ρ : Nat → Int32) (s : Nat) : Prop := (∀ j, j < s → f' 240 j = goes ρ j) ∧ ∀ a, ¬ a = 240 → f' a = f a
theorem mb_out (d : Nat) (h : PH) (f : Nat → Nat → Int32) (r : Nat → Int32) (w : FR h) (V : Vs r) {Q : Option Value → PH → Prop}
    (K : ∀ f' v2 v3, DR f f' (bell1 r 40) 8 → WP (d + 1) 1056 6 [.ref 233, .int (nI 8), v2, v3] [] (wI h (mw f' 234 (bell1 r 40))) Q) :
    ∀ (j s : Nat) (f' : Nat → Nat → Int32) (v2 v3 : Value), s + j = 8 → DR f f' (bell1 r 40) s → WP (d + 1) 1056 1 [.ref 233, .int (nI s), v2, v3] [] (wI h (mw f' 234 (bell1 r (s * 5)))) Q
  | 0, s, f', v2, v3, hs, D => by
    obtain rfl : s = 8 := by omega
    refine WP.blk c_1056_1 0 rfl rfl rfl ?_
    simp only [c_1056_1, wpL, wpI, nth, wJump, Int.reduceToNat, Int32.le_refl, if_true]
    exact K f' v2 v3 D
  | j + 1, s, f', v2, v3, hs, D => by
    have g1 : ¬ nI 8 ≤ nI s := nI_ge (by omega) (by decide)
    have hs8 : s < 8 := by omega
    refine WP.blk c_1056_1 0 rfl rfl rfl ?_
    simp only [c_1056_1, wpL, wpI, nth, setN, noLong, wJump, Int.reduceToNat, if_neg g1, true_and]
    refine mb_in d s h f' r w V hs8 (fun v3 => ?_) 5 0 v3 rfl
    have e2 : bell1 r (s * 5 + 5) 2 = r 2 := bell1_out pq_2 _
    obtain ⟨bq, b1, b2, hbq⟩ := V.2.2.2
    have hne : ¬ r 2 = 0 := by rw [hbq]; exact nI_ne0 (by omega) (by omega)
    have ek : bell1 r 40 (12 + 7 * s) = bell1 r (s * 5 + 5) (12 + 7 * s) := by
      have e : 12 + 7 * s = pq (s * 5) := by unfold pq; omega
      have := bell1_keep (r := r) (i := s * 5) (n := s * 5 + 5) (by omega) (35 - s * 5)
      rw [show s * 5 + 5 + (35 - s * 5) = 40 by omega] at this
      rw [e]
      exact this
    refine WP.blk c_1056_5 0 rfl rfl rfl ?_
    simp only [c_1056_5, wpL, wpI, nth, dropN, takeR, okStack, pvok, pvsel, wJump, Int.reduceToNat, Nat.reduceMod, Nat.reduceDiv, Nat.reduceLeDiff, if_true, BEq.rfl, true_and, hT_wI, hR_wI, w.t233, w.r233_16, rfP]
    refine ⟨d, rfl, (r_at d h f' _ w (by omega)).mono ?_⟩
    rintro _ _ ⟨rfl, rfl⟩
    simp only [Option.toList, List.cons_append, List.nil_append, nth, setN, noLong, true_and, hT_wI, hL_wI, hR_wI, hI_wI, w.t233, w.r233_0, w.t234, w.l234, w.t240, w.l240, Nat.reduceMod, Nat.reduceDiv, rfP, isIA, BEq.rfl, Bool.true_or, inb_of (show 2 < 136 by decide) (by decide), nI_clamp (show 2 < 2 ^ 31 by decide), mw_r (show 2 < 76 by decide), e2, hne, not_false_eq_true, inb_of hs8 (by decide), nI_clamp (lt31 hs8 (by decide)), sI_wI, mw_up2 (show ¬ 240 = 234 by decide), oI_1, nI_add, Nat.add_zero]
    have nx := mb_out d h f r w V K j (s + 1) (up2 f' 240 s (bell1 r (s * 5 + 5) (12 + 7 * s) / r 2)) (.int (nI 5)) v3 (by omega) ⟨fun i hi => ?_, fun a ha => ?_⟩
    · rw [show (s + 1) * 5 = s * 5 + 5 by omega] at nx
      exact nx
    · by_cases e : i = s
      · subst e
        rw [up2_same]
        unfold goes
        rw [ek, show bell1 r 40 2 = r 2 from bell1_out pq_2 _]
      · rw [up2_nk _ _ e]
        exact D.1 i (by omega)
    · funext q
      rw [up2_ne _ _ ha, D.2 a ha]
theorem mb_flow (d : Nat) (h : PH) (f f' : Nat → Nat → Int32) (ρ : Nat → Int32) (w : FR h) (D : DR f f' ρ 8) {Q : Option Value → PH → Prop}
    (K : ∀ v2 v3, WP (d + 1) 1056 8 [.ref 233, .int (nI 8), v2, v3] [] (wI h (mw f' 234 (bell2 ρ 8))) Q) :
    ∀ (j s : Nat) (v2 v3 : Value), s + j = 8 → WP (d + 1) 1056 7 [.ref 233, .int (nI s), v2, v3] [] (wI h (mw f' 234 (bell2 ρ s))) Q
  | 0, s, v2, v3, hs => by
    obtain rfl : s = 8 := by omega
    refine WP.blk c_1056_7 0 rfl rfl rfl ?_
    simp only [c_1056_7, wpL, wpI, nth, wJump, Int.reduceToNat, Int32.le_refl, if_true]
    exact K v2 v3
  | j + 1, s, v2, v3, hs => by
    have g1 : ¬ nI 8 ≤ nI s := nI_ge (by omega) (by decide)
    have hs8 : s < 8 := by omega
    have hp8 : (s + 8 - 1) % 8 < 8 := Nat.mod_lt _ (by decide)
    have h8 : ¬ nI 8 = 0 := by decide
    have nx := mb_flow d h f f' ρ w D K j (s + 1)
    have e1 : bell2 ρ s (12 + 7 * s + 0) = ρ (12 + 7 * s) := bell2_out s (fun z hz => by omega)
    have ed1 : f' 240 s = goes ρ s := D.1 s hs8
    have ed2 : f' 240 ((s + 8 - 1) % 8) = goes ρ ((s + 7) % 8) := by
      rw [show s + 8 - 1 = s + 7 by omega] at hp8 ⊢
      exact D.1 _ hp8
    refine WP.blk c_1056_7 0 rfl rfl rfl ?_
    simp only [c_1056_7, wpL, wpI, nth, dropN, takeR, okStack, pvok, pvsel, wJump, Int.reduceToNat, if_neg g1, Nat.reduceMod, Nat.reduceDiv, Nat.reduceLeDiff, if_true, BEq.rfl, true_and, hT_wI, w.t233]
    refine ⟨d, rfl, (r_at d h f' _ w (by omega)).mono ?_⟩
    rintro _ _ ⟨rfl, rfl⟩
    simp only [Option.toList, List.cons_append, List.nil_append, List.length, nth, setN, noLong, dropN, takeR, okStack, pvok, pvsel, true_and, hT_wI, hL_wI, hR_wI, hI_wI, w.t233, w.r233_16, w.t240, w.l240, Nat.reduceMod, Nat.reduceDiv, Nat.reduceAdd, Nat.reduceLeDiff, if_true, rfP, isIA, BEq.rfl, Bool.true_or, nI_add, nI_sub (show 1 ≤ s + 8 by omega), h8, not_false_eq_true, pk_rem (show s + 8 - 1 < 2 ^ 31 by omega) (show 0 < 8 by decide) (show 8 < 2 ^ 31 by decide), inb_of hs8 (by decide), nI_clamp (lt31 hs8 (by decide)), inb_of hp8 (by decide), nI_clamp (lt31 hp8 (by decide)), mw_out (show ¬ 240 = 234 by decide), e1, ed1, ed2]
    refine ⟨d, rfl, (r_held d _ _ _ _).mono ?_⟩
    rintro _ _ ⟨rfl, rfl⟩
    simp only [Option.toList, List.cons_append, List.nil_append, dropN, takeR, okStack, pvok, pvsel, Nat.reduceMod, Nat.reduceDiv, Nat.reduceLeDiff, if_true, BEq.rfl, true_and, hT_wI, w.t233]
    refine ⟨d, rfl, (r_setsAt d h f' _ w (by omega)).mono ?_⟩
    rintro _ _ ⟨rfl, rfl⟩
    simp only [Option.toList, List.nil_append, nth, setN, noLong, wJump, Int.reduceToNat, oI_1, nI_add, true_and, Nat.add_zero]
    exact nx _ _ (by omega)
/-- a bell of the reference: the row as the class's world; its scratch row 240 aside -/
theorem r_bellGoes (d : Nat) (h : PH) (f : Nat → Nat → Int32) (r : Nat → Int32) (w : FR h) (V : Vs r) : Run (d + 1) 1056 [.ref 233] (wI h (mw f 234 r)) (fun x g => x = none ∧ ∃ f', (∀ a, ¬ a = 240 → f' a = f a) ∧ g = wI h (mw f' 234 (bell r))) := by
  refine Run.blk c_1056_0 0 4 rfl rfl rfl rfl rfl ?_
  simp only [c_1056_0, wpL, wpI, nth, setN, noLong, lay, pad, wJump, Int.reduceToNat, true_and]
  refine mb_out d h f r w V (fun f' v2 v3 D => ?_) 8 0 f _ _ rfl ⟨fun j hj => absurd hj (Nat.not_lt_zero _), fun _ _ => rfl⟩
  refine WP.blk c_1056_6 0 rfl rfl rfl ?_
  simp only [c_1056_6, wpL, wpI, nth, setN, noLong, wJump, Int.reduceToNat, true_and]
  refine mb_flow d h f f' _ w D (fun v2 v3 => ?_) 8 0 _ _ rfl
  refine WP.blk c_1056_8 0 rfl rfl rfl ?_
  simp only [c_1056_8, wpL, wpI, nth, Nat.reduceMod, Nat.reduceDiv, rfP, hT_wI, hL_wI, hR_wI, hI_wI, w.t233, w.r233_0, w.t234, w.l234, isIA, BEq.rfl, Bool.true_or, true_and, inb_of (show 3 < 136 by decide) (by decide), nI_clamp (show 3 < 2 ^ 31 by decide), mw_r (show 3 < 76 by decide), sI_wI, mw_w (show 3 < 76 by decide) (show ¬ 3 = 5 by decide)]
  refine ⟨f', D.2, ?_⟩
  have e : bell2 (bell1 r 40) 8 3 = r 3 := by rw [bell2_3]; exact bell1_out pq_3 40
  rw [e]
  rfl
end
