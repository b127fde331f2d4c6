section
theorem bell1_out {r : Nat → Int32} {q : Nat} (h : ∀ n, ¬ q = pq n) : ∀ n, bell1 r n q = r q
  | 0 => rfl
  | n + 1 => by
    show upr (bell1 r n) (pq n) _ q = r q
    rw [upr_ne _ _ (h n)]
    exact bell1_out h n
theorem pq_1 : ∀ n, ¬ 1 = pq n := fun n => by unfold pq; omega
theorem pq_2 : ∀ n, ¬ 2 = pq n := fun n => by unfold pq; omega
theorem pq_3 : ∀ n, ¬ 3 = pq n := fun n => by unfold pq; omega
theorem pq_s (s : Nat) : ∀ n, ¬ 17 + 7 * s = pq n := fun n => by unfold pq; omega
theorem ring_in (d b s : Nat) (h : PH) (f : Nat → Nat → Int32) (r : Nat → Int32) (w : WB h b) (V : Vs r) (hs : s < 8) {Q : Option Value → PH → Prop}
    (K : ∀ v5 v6, WP d 1664 1 [.ref b, .int (r 1), .int (rem5 (r 3)), .int (nI (s + 1)), .int (nI 5), v5, v6] [] (wI h (ww f b (bell1 r ((s + 1) * 5)))) Q) :
    ∀ (j k : Nat) (v5 v6 : Value), k + j = 5 → WP d 1664 2 [.ref b, .int (r 1), .int (rem5 (r 3)), .int (nI s), .int (nI k), v5, v6] [] (wI h (ww f b (bell1 r (s * 5 + k)))) Q
  | 0, k, v5, v6, hk => by
    obtain rfl : k = 5 := by omega
    refine WP.blk c_1664_2 0 rfl rfl rfl ?_
    simp only [c_1664_2, wpL, wpI, nth, wJump, Int.reduceToNat, Int32.le_refl, if_true]
    refine WP.blk c_1664_5 0 rfl rfl rfl ?_
    simp only [c_1664_5, wpL, wpI, nth, setN, noLong, wJump, Int.reduceToNat, oI_1, nI_add, true_and]
    have := K v5 v6
    rw [show (s + 1) * 5 = s * 5 + 5 by omega] at this
    exact this
  | j + 1, k, v5, v6, hk => by
    have hn : s * 5 + k < 40 := by omega
    have hd : (s * 5 + k) / 5 = s := by omega
    have hm : (s * 5 + k) % 5 = k := by omega
    have Vn := Vs_bell1 V (s * 5 + k) (by omega)
    have g1 : ¬ nI 5 ≤ nI k := nI_ge (by omega) (by decide)
    have eb : bell1 r (s * 5 + k) 1 = r 1 := bell1_out pq_1 _
    have e3 : bell1 r (s * 5 + k) 3 = r 3 := bell1_out pq_3 _
    have es : bell1 r (s * 5 + k) (17 + 7 * s) = r (17 + 7 * s) := bell1_out (pq_s s) _
    obtain ⟨bq, b1, b2, hbq⟩ := V.2.2.1
    have hne : ¬ r 1 = 0 := by rw [hbq]; exact nI_ne0 (by omega) (by omega)
    have nx := ring_in d b s h f r w V hs K j (k + 1)
    refine WP.blk c_1664_2 0 rfl rfl rfl ?_
    simp only [c_1664_2, wpL, wpI, nth, setN, noLong, wJump, Int.reduceToNat, if_neg g1, nI_mul, nI_add, true_and, Nat.reduceDiv, Nat.reduceMod, rfP, hT_wI, hL_wI, hR_wI, hI_wI, w.t, w.r3, w.t3, w.l3, w.r4, w.t4, w.l4, isIA, BEq.rfl, Bool.true_or, inb_of hn (by decide), inb_of hs (by decide), nI_clamp (lt31 hn (by decide)), nI_clamp (lt31 hs (by decide)), ww_3 hn, ww_4 hs, hne, not_false_eq_true]
    have four : ∀ y : Int32, y = (if rem5 (r 3) = nI k then r (17 + 7 * s) else 0) → WP d 1664 4 [.ref b, .int (r 1), .int (rem5 (r 3)), .int (nI s), .int (nI k), .int (nI (s * 5 + k)), v6] [.int y, .int (bell1 r (s * 5 + k) (12 + 7 * ((s * 5 + k) / 5) + (s * 5 + k) % 5) / r 1)] (wI h (ww f b (bell1 r (s * 5 + k)))) Q := by
      intro y hy
      refine WP.blk c_1664_4 0 rfl rfl rfl ?_
      simp only [c_1664_4, wpL, wpI, nth, setN, noLong, wJump, Int.reduceToNat, okStack, true_and, Nat.reduceDiv, Nat.reduceMod, rfP, hT_wI, hL_wI, hR_wI, hI_wI, w.t, w.r3, w.t3, w.l3, isIA, BEq.rfl, Bool.true_or, inb_of hn (by decide), nI_clamp (lt31 hn (by decide)), ww_3 hn, sI_wI, ws_3 hn, oI_1, nI_add]
      have ev : (if bell1 r (s * 5 + k) (12 + 7 * ((s * 5 + k) / 5) + (s * 5 + k) % 5) + (bell1 r (s * 5 + k) (12 + 7 * ((s * 5 + k) / 5) + (s * 5 + k) % 5) / r 1 + y) < nI 99 then bell1 r (s * 5 + k) (12 + 7 * ((s * 5 + k) / 5) + (s * 5 + k) % 5) + (bell1 r (s * 5 + k) (12 + 7 * ((s * 5 + k) / 5) + (s * 5 + k) % 5) / r 1 + y) else nI 99) = cl99 (grow (bell1 r (s * 5 + k)) (s * 5 + k)) := by
        obtain ⟨m, hm31, hg⟩ := Vs_grow Vn hn
        have e5 : bell1 r (s * 5 + k) (12 + 7 * ((s * 5 + k) / 5) + (s * 5 + k) % 5) + (bell1 r (s * 5 + k) (12 + 7 * ((s * 5 + k) / 5) + (s * 5 + k) % 5) / r 1 + y) = grow (bell1 r (s * 5 + k)) (s * 5 + k) := by
          unfold grow
          rw [eb, e3, hm, hd, es, hy, ← Int32.add_assoc]
          unfold pq
          rw [hm, hd]
        rw [e5, hg, cl99_nI hm31]
        by_cases z : m < 99
        · rw [if_pos (nI_lt z (by decide)), Nat.min_eq_right (by omega)]
        · rw [if_neg (nI_nlt (by omega) (by omega)), Nat.min_eq_left (by omega)]
      rw [ev]
      exact nx _ _ (by omega)
    split
    · rename_i hq
      exact four _ (by rw [if_pos hq.symm, ← es, show 17 + 7 * s = 12 + 7 * s + 5 by omega])
    · rename_i hq
      refine WP.blk c_1664_3 0 rfl rfl rfl ?_
      simp only [c_1664_3, wpL, wpI, wJump, Int.reduceToNat]
      exact four _ (by rw [if_neg (fun z => hq z.symm)]; rfl)
theorem ring_out (d b : Nat) (h : PH) (f : Nat → Nat → Int32) (r : Nat → Int32) (w : WB h b) (V : Vs r) {Q : Option Value → PH → Prop}
    (K : ∀ v4 v5 v6, WP d 1664 6 [.ref b, .int (r 1), .int (rem5 (r 3)), .int (nI 8), v4, v5, v6] [] (wI h (ww f b (bell1 r 40))) Q) :
    ∀ (j s : Nat) (v4 v5 v6 : Value), s + j = 8 → WP d 1664 1 [.ref b, .int (r 1), .int (rem5 (r 3)), .int (nI s), v4, v5, v6] [] (wI h (ww f b (bell1 r (s * 5)))) Q
  | 0, s, v4, v5, v6, hs => by
    obtain rfl : s = 8 := by omega
    refine WP.blk c_1664_1 0 rfl rfl rfl ?_
    simp only [c_1664_1, wpL, wpI, nth, wJump, Int.reduceToNat, Int32.le_refl, if_true]
    exact K v4 v5 v6
  | j + 1, s, v4, v5, v6, hs => by
    have g1 : ¬ nI 8 ≤ nI s := nI_ge (by omega) (by decide)
    refine WP.blk c_1664_1 0 rfl rfl rfl ?_
    simp only [c_1664_1, wpL, wpI, nth, setN, noLong, wJump, Int.reduceToNat, if_neg g1, true_and]
    have := ring_in d b s h f r w V (by omega) (Q := Q) (fun v5 v6 => ring_out d b h f r w V K j (s + 1) _ v5 v6 (by omega)) 5 0 v5 v6 rfl
    exact this
theorem bell2_out {r : Nat → Int32} {q : Nat} : ∀ n, (∀ s, s < n → ¬ q = 12 + 7 * s) → bell2 r n q = r q
  | 0, _ => rfl
  | n + 1, h => by
    show upr (bell2 r n) (12 + 7 * n) _ q = r q
    rw [upr_ne _ _ (h n (by omega))]
    exact bell2_out n (fun s hs => h s (by omega))
theorem Vs_goes {r : Nat → Int32} (V : Vs r) {s : Nat} (hs : s < 8) : ∃ m : Nat, m ≤ 99 ∧ goes r s = nI m := by
  obtain ⟨h1, -, -, ⟨b, b1, b2, hb⟩⟩ := V
  obtain ⟨a, ha, ea⟩ := h1 (5 * s) (by omega)
  have e : pq (5 * s) = 12 + 7 * s := by unfold pq; omega
  rw [e] at ea
  have hab : a / b ≤ a := Nat.div_le_self a b
  unfold goes
  rw [ea, hb, pk_div (by omega) (by omega) (by omega)]
  exact ⟨a / b, by omega, rfl⟩
theorem Vs_flow {r : Nat → Int32} (V : Vs r) {s : Nat} (hs : s < 8) : ∃ m : Nat, m < 2 ^ 31 ∧ r (12 + 7 * s) - goes r s + goes r ((s + 7) % 8) = nI m := by
  obtain ⟨c, hc, ec⟩ := Vs_goes V (s := (s + 7) % 8) (by omega)
  obtain ⟨h1, -, -, ⟨b, b1, b2, hb⟩⟩ := V
  obtain ⟨a, ha, ea⟩ := h1 (5 * s) (by omega)
  have e : pq (5 * s) = 12 + 7 * s := by unfold pq; omega
  rw [e] at ea
  have hab : a / b ≤ a := Nat.div_le_self a b
  rw [ec]
  unfold goes
  rw [ea, hb, pk_div (by omega) (by omega) (by omega), nI_sub hab, nI_add]
  have h3 : a - a / b ≤ 99 := Nat.le_trans (Nat.sub_le _ _) ha
  exact ⟨a - a / b + c, by omega, rfl⟩
theorem drift_loop (d b : Nat) (h : PH) (f : Nat → Nat → Int32) (r : Nat → Int32) (w : WB h b) (V : Vs r) :
    ∀ (j s : Nat) (v4 v5 : Value), s + j = 8 → WP d 1672 1 [.ref b, .int (r 2), .int (goes r ((s + 7) % 8)), .int (nI s), v4, v5] [] (wI h (ww f b (bell2 r s))) (fun x g => x = none ∧ g = wI h (ww f b (bell2 r 8)))
  | 0, s, v4, v5, hs => by
    obtain rfl : s = 8 := by omega
    refine WP.blk c_1672_1 0 rfl rfl rfl ?_
    simp only [c_1672_1, wpL, wpI, nth, wJump, Int.reduceToNat, Int32.le_refl, if_true]
    refine WP.blk c_1672_2 0 rfl rfl rfl ?_
    simp only [c_1672_2, wpL, wpI, and_self]
  | j + 1, s, v4, v5, hs => by
    have g1 : ¬ nI 8 ≤ nI s := nI_ge (by omega) (by decide)
    have hn : s * 5 < 40 := by omega
    have hp : 12 + 7 * (s * 5 / 5) + s * 5 % 5 = 12 + 7 * s := by omega
    have e1 : bell2 r s (12 + 7 * s) = r (12 + 7 * s) := bell2_out s (fun z hz => by omega)
    obtain ⟨bq, b1, b2, hbq⟩ := V.2.2.2
    have hne : ¬ r 2 = 0 := by rw [hbq]; exact nI_ne0 (by omega) (by omega)
    have nx := drift_loop d b h f r w V j (s + 1)
    refine WP.blk c_1672_1 0 rfl rfl rfl ?_
    simp only [c_1672_1, wpL, wpI, nth, setN, noLong, okStack, wJump, Int.reduceToNat, if_neg g1, nI_mul, nI_add, Nat.add_zero, true_and, Nat.reduceDiv, Nat.reduceMod, rfP, hT_wI, hL_wI, hR_wI, hI_wI, w.t, w.r3, w.t3, w.l3, isIA, BEq.rfl, Bool.true_or, inb_of hn (by decide), nI_clamp (lt31 hn (by decide)), ww_3 hn, hne, not_false_eq_true, sI_wI, ws_3 hn, oI_1, hp, e1]
    have ev : (if r (12 + 7 * s) - r (12 + 7 * s) / r 2 + goes r ((s + 7) % 8) < nI 99 then r (12 + 7 * s) - r (12 + 7 * s) / r 2 + goes r ((s + 7) % 8) else nI 99) = cl99 (r (12 + 7 * s) - goes r s + goes r ((s + 7) % 8)) := by
      obtain ⟨m, hm31, hg⟩ := Vs_flow V (s := s) (by omega)
      show (if r (12 + 7 * s) - goes r s + goes r ((s + 7) % 8) < nI 99 then r (12 + 7 * s) - goes r s + goes r ((s + 7) % 8) else nI 99) = _
      rw [hg, cl99_nI hm31]
      by_cases z : m < 99
      · rw [if_pos (nI_lt z (by decide)), Nat.min_eq_right (by omega)]
      · rw [if_neg (nI_nlt (by omega) (by omega)), Nat.min_eq_left (by omega)]
    rw [ev]
    have := nx (.int (nI (s * 5))) (.int (r (12 + 7 * s) / r 2)) (by omega)
    rw [show (s + 1 + 7) % 8 = s by omega] at this
    exact this
theorem r_driftOn (d b : Nat) (h : PH) (f : Nat → Nat → Int32) (r : Nat → Int32) (w : WB h b) (V : Vs r) : Run d 1672 [.ref b] (wI h (ww f b r)) (fun x g => x = none ∧ g = wI h (ww f b (bell2 r 8))) := by
  obtain ⟨bq, b1, b2, hbq⟩ := V.2.2.2
  have hne : ¬ r 2 = 0 := by rw [hbq]; exact nI_ne0 (by omega) (by omega)
  have hmx : (if nI 1 < r 2 then r 2 else nI 1) = r 2 := by
    rw [hbq]
    by_cases z : 1 < bq
    · rw [if_pos (nI_lt z (by omega))]
    · rw [if_neg (nI_nlt (by omega) (by decide)), show bq = 1 by omega]
  refine Run.blk c_1672_0 0 6 rfl rfl rfl rfl rfl ?_
  simp only [c_1672_0, wpL, wpI, nth, setN, noLong, lay, pad, okStack, wJump, Int.reduceToNat, true_and, Nat.reduceDiv, Nat.reduceMod, rfP, hT_wI, hL_wI, hR_wI, hI_wI, w.t, w.r1, w.t1, w.l1, w.r3, w.t3, w.l3, isIA, BEq.rfl, Bool.true_or, inb_of (show 2 < 3 by decide) (by decide), inb_of (show 35 < 40 by decide) (by decide), nI_clamp (show 2 < 2 ^ 31 by decide), nI_clamp (show 35 < 2 ^ 31 by decide), ww_1 (show 2 < 3 by decide), ww_3 (show 35 < 40 by decide), hmx, hne, not_false_eq_true, Nat.reduceMul, Nat.reduceAdd]
  exact drift_loop d b h f r w V 8 0 _ _ rfl
theorem bell2_Vs {r : Nat → Int32} (V : Vs r) : ∀ n, n ≤ 8 → Vs (bell2 r n)
  | 0, _ => V
  | n + 1, hn => by
    have e : 12 + 7 * n = pq (5 * n) := by unfold pq; omega
    show Vs (upr (bell2 r n) (12 + 7 * n) _)
    rw [e]
    refine (bell2_Vs V n (by omega)).put (by omega) (inR_cl ?_)
    rw [← e]
    exact Vs_flow V (by omega)
theorem bell2_3 (r : Nat → Int32) (n : Nat) : bell2 r n 3 = r 3 := bell2_out n (fun s _ => by omega)
theorem r_ring (d b : Nat) (h : PH) (f : Nat → Nat → Int32) (r : Nat → Int32) (w : WB h b) (V : Vs r) : Run (d + 1) 1664 [.ref b] (wI h (ww f b r)) (fun x g => x = none ∧ g = wI h (ww f b (bell r))) := by
  obtain ⟨bq, b1, b2, hbq⟩ := V.2.2.1
  have hmx : (if nI 1 < r 1 then r 1 else nI 1) = r 1 := by
    rw [hbq]
    by_cases z : 1 < bq
    · rw [if_pos (nI_lt z (by omega))]
    · rw [if_neg (nI_nlt (by omega) (by decide)), show bq = 1 by omega]
  have h5 : ¬ nI 5 = 0 := by decide
  refine Run.blk c_1664_0 0 7 rfl rfl rfl rfl rfl ?_
  simp only [c_1664_0, wpL, wpI, nth, setN, noLong, lay, pad, okStack, wJump, Int.reduceToNat, true_and, Nat.reduceDiv, Nat.reduceMod, rfP, hT_wI, hL_wI, hR_wI, hI_wI, w.t, w.r1, w.t1, w.l1, isIA, BEq.rfl, Bool.true_or, inb_of (show 1 < 3 by decide) (by decide), nI_clamp (show 1 < 2 ^ 31 by decide), ww_1 (show 1 < 3 by decide), ww_0_15, hmx, h5, not_false_eq_true]
  refine ring_out (d + 1) b h f r w V (fun v4 v5 v6 => ?_) 8 0 _ _ _ rfl
  have V1 := Vs_bell1 V 40 (Nat.le_refl _)
  refine WP.blk c_1664_6 0 rfl rfl rfl ?_
  simp only [c_1664_6, wpL, wpI, nth, dropN, takeR, okStack, pvok, pvsel, hT_wI, w.t, Nat.reduceMod, Nat.reduceDiv, Nat.reduceLeDiff, if_true, BEq.rfl, true_and]
  refine ⟨d, rfl, (r_driftOn d b h f _ w V1).mono ?_⟩
  rintro _ _ ⟨rfl, rfl⟩
  simp only [Option.toList, List.nil_append, Nat.reduceDiv, Nat.reduceMod, hT_wI, w.t, hI_wI, true_and, ww_0_15, sI_wI, ws_0_15, true_or, and_true, nI_0]
  have e : bell2 (bell1 r 40) 8 3 = r 3 := by rw [bell2_3]; exact bell1_out pq_3 40
  rw [e]
  rfl
end
