section
/-! what a boat takes of a sort, and how it tears, in the class's world -/
def tk (r : Nat → Int32) (β a k s : Nat) : Int32 := if ctch k (r (12 + 7 * a + s)) (nI s) (r (77 + 10 * β)) < r (12 + 7 * a + s) then ctch k (r (12 + 7 * a + s)) (nI s) (r (77 + 10 * β)) else r (12 + 7 * a + s)
theorem r_takeOf (d b : Nat) (h : PH) (f : Nat → Nat → Int32) (r : Nat → Int32) (F : FR h) (w : WB h b) (β a k s : Nat) (hβ : β < 6) (ha : a < 8) (hk : k < 6) (hs : s < 5) (e1 : r (78 + 10 * β) = nI a) (e2 : r (76 + 10 * β) = nI k) :
    Run (d + 1 + 1 + 1) 1626 [.ref b, .int (nI β), .int (nI s)] (wI h (ww f b r)) (fun v g => v = some (.int (tk r β a k s)) ∧ g = wI h (ww f b r)) := by
  have hn : a * 5 + s < 40 := by omega
  have hp : 12 + 7 * ((a * 5 + s) / 5) + (a * 5 + s) % 5 = 12 + 7 * a + s := by omega
  refine Run.blk c_1626_0 1 4 rfl rfl rfl rfl rfl ?_
  simp only [c_1626_0, wpL, wpI, nth, setN, noLong, lay, pad, takeR, dropN, okStack, pvok, List.length, Nat.reduceLeDiff, Nat.reduceAdd, Nat.le_refl, if_true, true_and, Nat.reduceDiv, Nat.reduceMod, rfP, hT_wI, hL_wI, hR_wI, hI_wI, w.t, w.r3, w.t3, w.l3, w.r10, w.t10, w.l10, isIA, BEq.rfl, Bool.true_or, inb_of hβ (by decide), nI_clamp (lt31 hβ (by decide)), ww_10 hβ, e1, nI_mul, nI_add, inb_of hn (by decide), nI_clamp (lt31 hn (by decide)), ww_3 hn, hp]
  have hv : pvsel 111633 11 = 1633 := rfl
  refine ⟨d + 1 + 1, rfl, (r_kindOf (d + 1 + 1) b h f r F w β k hβ hk e2).mono ?_⟩
  rintro _ _ ⟨rfl, rfl⟩
  have hT := F.tK hk
  simp only [Option.toList, List.cons_append, List.nil_append, wpL, wpI, nth, takeR, dropN, okStack, List.length, Nat.reduceLeDiff, Nat.reduceAdd, Nat.le_refl, if_true, true_and, Nat.reduceDiv, Nat.reduceMod, rfP, hT_wI, hL_wI, hR_wI, hI_wI, w.t, w.r9, w.t9, w.l9, isIA, BEq.rfl, Bool.true_or, inb_of hβ (by decide), nI_clamp (lt31 hβ (by decide)), ww_9 hβ, hT]
  have hok : (if False then ktag k == 0 else (ktag k).blt 16 && Nat.blt 0 (pbsel 43 (ktag k))) = true := by
    match k, hk with
    | 0, _ => rfl
    | 1, _ => rfl
    | 2, _ => rfl
    | 3, _ => rfl
    | 4, _ => rfl
    | 5, _ => rfl
  have F' : FR (wI h (ww f b r)) := F
  refine ⟨hok, d + 1 + 1, rfl, (r_ctch d _ F' k hk _ _ _).mono ?_⟩
  rintro _ _ ⟨rfl, rfl⟩
  simp only [List.cons_append, List.nil_append, true_or, true_and, and_true]
  rfl
end
