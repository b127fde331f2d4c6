section
theorem r_held (d : Nat) (x lo hi : Int32) (h : PH) : Run d 1027 [.int x, .int lo, .int hi] h (fun r g => r = some (.int (if x < lo then lo else if hi < x then hi else x)) ∧ g = h) := by
  have fin : ∀ y : Int32, y = (if x < lo then lo else if hi < x then hi else x) → WP d 1027 3 [.int x, .int lo, .int hi] [.int y] h (fun r g => r = some (.int (if x < lo then lo else if hi < x then hi else x)) ∧ g = h) := by
    intro y hy
    refine WP.blk c_1027_3 1 rfl rfl rfl ?_
    simp only [c_1027_3, wpL, wpI]
    exact ⟨Or.inl trivial, by rw [hy], trivial⟩
  refine Run.blk c_1027_0 1 3 rfl rfl rfl rfl rfl ?_
  simp only [c_1027_0, wpL, wpI, nth, lay, pad, wJump, Int.reduceToNat]
  split
  · rename_i h1
    refine WP.blk c_1027_1 1 rfl rfl rfl ?_
    simp only [c_1027_1, wpL, wpI, nth, wJump, Int.reduceToNat]
    split
    · rename_i h2
      refine WP.blk c_1027_2 1 rfl rfl rfl ?_
      simp only [c_1027_2, wpL, wpI, nth, wJump, Int.reduceToNat]
      exact fin _ (by rw [if_neg (Int32.not_lt.mpr h1), if_neg (Int32.not_lt.mpr h2)])
    · rename_i h2
      exact fin _ (by rw [if_neg (Int32.not_lt.mpr h1), if_pos (Int32.not_le.mp h2)])
  · rename_i h1
    exact fin _ (by rw [if_pos (Int32.not_le.mp h1)])
theorem mw_up2 {f : Nat → Nat → Int32} {c a k : Nat} {r : Nat → Int32} {x : Int32} (h : ¬ a = c) : up2 (mw f c r) a k x = mw (up2 f a k x) c r := by
  funext b j
  simp only [up2, mw]
  by_cases h1 : b = a ∧ j = k
  · rw [if_pos h1, if_neg (fun z => h (h1.1 ▸ z.1)), if_pos h1]
  · rw [if_neg h1]
    by_cases h2 : b = c ∧ j < 136
    · rw [if_pos h2, if_pos h2]
    · rw [if_neg h2, if_neg h2, if_neg h1]
theorem mb_in (d s : Nat) (h : PH) (f : Nat → Nat → Int32) (r : Nat → Int32) (w : FR h) (V : Vs r) (hs : s < 8) {Q : Option Value → PH → Prop}
    (K : ∀ v3, WP (d + 1) 1056 5 [.ref 233, .int (nI s), .int (nI 5), v3] [] (wI h (mw f 234 (bell1 r (s * 5 + 5)))) Q) :
    ∀ (j k : Nat) (v3 : Value), k + j = 5 → WP (d + 1) 1056 2 [.ref 233, .int (nI s), .int (nI k), v3] [] (wI h (mw f 234 (bell1 r (s * 5 + k)))) Q
  | 0, k, v3, hk => by
    obtain rfl : k = 5 := by omega
    refine WP.blk c_1056_2 0 rfl rfl rfl ?_
    simp only [c_1056_2, wpL, wpI, nth, wJump, Int.reduceToNat, Int32.le_refl, if_true]
    exact K v3
  | j + 1, k, v3, hk => by
    have hn : s * 5 + k < 40 := by omega
    have hd : (s * 5 + k) / 5 = s := by omega
    have hm : (s * 5 + k) % 5 = k := by omega
    have hq : 12 + 7 * s + k = pq (s * 5 + k) := by unfold pq; omega
    have g1 : ¬ nI 5 ≤ nI k := nI_ge (by omega) (by decide)
    have h5 : ¬ nI 5 = 0 := by decide
    have eb : bell1 r (s * 5 + k) 1 = r 1 := bell1_out pq_1 _
    obtain ⟨bq, b1, b2, hbq⟩ := V.2.2.1
    have hne : ¬ r 1 = 0 := by rw [hbq]; exact nI_ne0 (by omega) (by omega)
    have nx := mb_in d s h f r w V hs K j (k + 1)
    refine WP.blk c_1056_2 0 rfl rfl rfl ?_
    simp only [c_1056_2, wpL, wpI, nth, dropN, takeR, okStack, pvok, pvsel, wJump, Int.reduceToNat, if_neg g1, Nat.reduceMod, Nat.reduceDiv, Nat.reduceLeDiff, if_true, BEq.rfl, true_and, hT_wI, w.t233]
    refine ⟨d, rfl, (r_at d h f _ w (by omega)).mono ?_⟩
    rintro _ _ ⟨rfl, rfl⟩
    simp only [Option.toList, List.cons_append, List.nil_append, nth, setN, noLong, true_and, hT_wI, hL_wI, hR_wI, hI_wI, w.t233, w.r233_0, w.t234, w.l234, Nat.reduceMod, Nat.reduceDiv, rfP, isIA, BEq.rfl, Bool.true_or, inb_of (show 1 < 136 by decide) (by decide), inb_of (show 3 < 136 by decide) (by decide), nI_clamp (show 1 < 2 ^ 31 by decide), nI_clamp (show 3 < 2 ^ 31 by decide), mw_read (show 1 < 136 by decide), mw_read (show 3 < 136 by decide), eb, hne, h5, not_false_eq_true, hq]
    have four : ∀ y : Int32, y = (if rem5 (bell1 r (s * 5 + k) 3) = nI k then bell1 r (s * 5 + k) (17 + 7 * s) else 0) → WP (d + 1) 1056 4 [.ref 233, .int (nI s), .int (nI k), .int (bell1 r (s * 5 + k) (pq (s * 5 + k)))] [.int y, .int (bell1 r (s * 5 + k) (pq (s * 5 + k)) + bell1 r (s * 5 + k) (pq (s * 5 + k)) / r 1), .int (nI k), .int (nI s), .ref 233] (wI h (mw f 234 (bell1 r (s * 5 + k)))) Q := by
      intro y hy
      refine WP.blk c_1056_4 0 rfl rfl rfl ?_
      simp only [c_1056_4, wpL, wpI, List.length, Nat.reduceAdd, Nat.reduceMod, Nat.reduceLeDiff, dropN, takeR, okStack, true_and]
      refine ⟨d, rfl, (r_held d _ _ _ _).mono ?_⟩
      rintro _ _ ⟨rfl, rfl⟩
      simp only [Option.toList, List.cons_append, List.nil_append, dropN, takeR, okStack, pvok, pvsel, Nat.reduceMod, Nat.reduceDiv, Nat.reduceLeDiff, if_true, BEq.rfl, true_and, hT_wI, w.t233]
      refine ⟨d, rfl, (r_setsAt d h f _ w (by omega)).mono ?_⟩
      rintro _ _ ⟨rfl, rfl⟩
      simp only [Option.toList, List.nil_append, nth, setN, noLong, wJump, Int.reduceToNat, oI_1, nI_add, true_and, hq]
      have ev : (if bell1 r (s * 5 + k) (pq (s * 5 + k)) + bell1 r (s * 5 + k) (pq (s * 5 + k)) / r 1 + y < nI 0 then nI 0 else if nI 99 < bell1 r (s * 5 + k) (pq (s * 5 + k)) + bell1 r (s * 5 + k) (pq (s * 5 + k)) / r 1 + y then nI 99 else bell1 r (s * 5 + k) (pq (s * 5 + k)) + bell1 r (s * 5 + k) (pq (s * 5 + k)) / r 1 + y) = cl99 (grow (bell1 r (s * 5 + k)) (s * 5 + k)) := by
        unfold cl99 grow
        rw [eb, hm, hd, hy]
        rfl
      rw [ev]
      exact nx _ (by omega)
    split
    · rename_i hz
      refine ⟨d, rfl, (r_at d h f _ w (by omega)).mono ?_⟩
      rintro _ _ ⟨rfl, rfl⟩
      simp only [Option.toList, List.cons_append, List.nil_append]
      exact four _ (by rw [if_pos (show rem5 (bell1 r (s * 5 + k) 3) = nI k from hz), show 12 + 7 * s + 5 = 17 + 7 * s by omega])
    · rename_i hz
      refine WP.blk c_1056_3 0 rfl rfl rfl ?_
      simp only [c_1056_3, wpL, wpI, wJump, Int.reduceToNat]
      exact four _ (by rw [if_neg (show ¬ rem5 (bell1 r (s * 5 + k) 3) = nI k from hz)]; rfl)
end
