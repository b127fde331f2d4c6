section
theorem bell1_out {r : Nat → Int32} {q : Nat} (h : ∀ n, ¬ q = pq n) : ∀ n, bell1 r n q = r q
  | 0 => rfl
  | n + 1 => by
    show upr (bell1 r n) (pq n) _ q = r q
    rw [upr_ne _ _ (h n)]
    exact bell1_out h n
theorem pq_1 : ∀ n, ¬ 1 = pq n := fun n => by unfold pq; omega
theorem pq_2 : ∀ n, ¬ 2 = pq n := fun n => by unfold pq; omega
theorem pq_3 : ∀ n, ¬ 3 = pq n := fun n => by unfold pq; omega
theorem pq_s (s : Nat) : ∀ n, ¬ 17 + 7 * s = pq n := fun n => by unfold pq; omega
theorem ring_in (d b s : Nat) (h : PH) (f : Nat → Nat → Int32) (r : Nat → Int32) (w : WB h b) (V : Vs r) (hs : s < 8) {Q : Option Value → PH → Prop}
    (K : ∀ v5 v6, WP d 1664 1 [.ref b, .int (r 1), .int (rem5 (r 3)), .int (nI (s + 1)), .int (nI 5), v5, v6] [] (wI h (ww f b (bell1 r ((s + 1) * 5)))) Q) :
    ∀ (j k : Nat) (v5 v6 : Value), k + j = 5 → WP d 1664 2 [.ref b, .int (r 1), .int (rem5 (r 3)), .int (nI s), .int (nI k), v5, v6] [] (wI h (ww f b (bell1 r (s * 5 + k)))) Q
  | 0, k, v5, v6, hk => by
    obtain rfl : k = 5 := by omega
    refine WP.blk c_1664_2 0 rfl rfl rfl ?_
    simp only [c_1664_2, wpL, wpI, nth, wJump, Int.reduceToNat, Int32.le_refl, if_true]
    refine WP.blk c_1664_5 0 rfl rfl rfl ?_
    simp only [c_1664_5, wpL, wpI, nth, setN, noLong, wJump, Int.reduceToNat, oI_1, nI_add, true_and]
    have := K v5 v6
    rw [show (s + 1) * 5 = s * 5 + 5 by omega] at this
    exact this
  | j + 1, k, v5, v6, hk => by
    have hn : s * 5 + k < 40 := by omega
    have hd : (s * 5 + k) / 5 = s := by omega
    have hm : (s * 5 + k) % 5 = k := by omega
    have Vn := Vs_bell1 V (s * 5 + k) (by omega)
    have g1 : ¬ nI 5 ≤ nI k := nI_ge (by omega) (by decide)
    have eb : bell1 r (s * 5 + k) 1 = r 1 := bell1_out pq_1 _
    have e3 : bell1 r (s * 5 + k) 3 = r 3 := bell1_out pq_3 _
    have es : bell1 r (s * 5 + k) (17 + 7 * s) = r (17 + 7 * s) := bell1_out (pq_s s) _
    obtain ⟨bq, b1, b2, hbq⟩ := V.2.2.1
    have hne : ¬ r 1 = 0 := by rw [hbq]; exact nI_ne0 (by omega) (by omega)
    have nx := ring_in d b s h f r w V hs K j (k + 1)
    refine WP.blk c_1664_2 0 rfl rfl rfl ?_
    simp only [c_1664_2, wpL, wpI, nth, setN, noLong, wJump, Int.reduceToNat, if_neg g1, nI_mul, nI_add, true_and, Nat.reduceDiv, Nat.reduceMod, rfP, hT_wI, hL_wI, hR_wI, hI_wI, w.t, w.r3, w.t3, w.l3, w.r4, w.t4, w.l4, isIA, BEq.rfl, Bool.true_or, inb_of hn (by decide), inb_of hs (by decide), nI_clamp (lt31 hn (by decide)), nI_clamp (lt31 hs (by decide)), ww_3 hn, ww_4 hs, hne, not_false_eq_true]
    have four : ∀ y : Int32, y = (if rem5 (r 3) = nI k then r (17 + 7 * s) else 0) → WP d 1664 4 [.ref b, .int (r 1), .int (rem5 (r 3)), .int (nI s), .int (nI k), .int (nI (s * 5 + k)), v6] [.int y, .int (bell1 r (s * 5 + k) (12 + 7 * ((s * 5 + k) / 5) + (s * 5 + k) % 5) / r 1)] (wI h (ww f b (bell1 r (s * 5 + k)))) Q := by
      intro y hy
      refine WP.blk c_1664_4 0 rfl rfl rfl ?_
      simp only [c_1664_4, wpL, wpI, nth, setN, noLong, wJump, Int.reduceToNat, okStack, true_and, Nat.reduceDiv, Nat.reduceMod, rfP, hT_wI, hL_wI, hR_wI, hI_wI, w.t, w.r3, w.t3, w.l3, isIA, BEq.rfl, Bool.true_or, inb_of hn (by decide), nI_clamp (lt31 hn (by decide)), ww_3 hn, sI_wI, ws_3 hn, oI_1, nI_add]
      have ev : (if bell1 r (s * 5 + k) (12 + 7 * ((s * 5 + k) / 5) + (s * 5 + k) % 5) + (bell1 r (s * 5 + k) (12 + 7 * ((s * 5 + k) / 5) + (s * 5 + k) % 5) / r 1 + y) < nI 99 then bell1 r (s * 5 + k) (12 + 7 * ((s * 5 + k) / 5) + (s * 5 + k) % 5) + (bell1 r (s * 5 + k) (12 + 7 * ((s * 5 + k) / 5) + (s * 5 + k) % 5) / r 1 + y) else nI 99) = cl99 (grow (bell1 r (s * 5 + k)) (s * 5 + k)) := by
        obtain ⟨m, hm31, hg⟩ := Vs_grow Vn hn
        have e5 : bell1 r (s * 5 + k) (12 + 7 * ((s * 5 + k) / 5) + (s * 5 + k) % 5) + (bell1 r (s * 5 + k) (12 + 7 * ((s * 5 + k) / 5) + (s * 5 + k) % 5) / r 1 + y) = grow (bell1 r (s * 5 + k)) (s * 5 + k) := by
          unfold grow
          rw [eb, e3, hm, hd, es, hy, ← Int32.add_assoc]
          unfold pq
          rw [hm, hd]
        rw [e5, hg, cl99_nI hm31]
        by_cases z : m < 99
        · rw [if_pos (nI_lt z (by decide)), Nat.min_eq_right (by omega)]
        · rw [if_neg (nI_nlt (by omega) (by omega)), Nat.min_eq_left (by omega)]
      rw [ev]
      exact nx _ _ (by omega)
    split
    · rename_i hq
      exact four _ (by rw [if_pos hq.symm, ← es, show 17 + 7 * s = 12 + 7 * s + 5 by omega])
    · rename_i hq
      refine WP.blk c_1664_3 0 rfl rfl rfl ?_
      simp only [c_1664_3, wpL, wpI, wJump, Int.reduceToNat]
      exact four _ (by rw [if_neg (fun z => hq z.symm)]; rfl)
end
