section
/-! what the Statement gives of the start, as a world of the second machine -/
def sidx (k : Nat) : Nat := [141, 143, 145, 147, 149, 151, 83, 88, 49, 98, 153, 155, 157, 159, 161, 54, 59, 64].getD (k - 10) 0
theorem sidx_ok : lw_tbl.all (fun w => match w with | .stringRef o i t => (List.range 18).all (fun j => !(o == "DreamNets$Tape") || !(t == pStr (10 + j)) || i == sidx (10 + j)) | _ => true) = true := by decide +kernel
theorem sref_ok : ∀ j, j < 18 → lw_tbl.contains (.stringRef "DreamNets$Tape" (sidx (10 + j)) (pStr (10 + j))) = true := by decide +kernel
def tmS (i : Nat) : Term := .string "DreamNets$Tape" (sidx (10 + i))
def tmA (k : Nat) : Term := .static "DreamNets" (pStat k) "[I"
def statV (k : Nat) : List Int32 := match k with | 1 => [10, 8, 4] | 2 => [9, 4, 2, 6, 12] | 3 => [0, 1, 1] | 4 => [99, 20, 20] | 5 => [2, 3, 1, 5, 8] | _ => []
theorem stat_small (k : Nat) : (statV k).length < 2 ^ 31 := by unfold statV; split <;> decide
def flN : List Cond := flatC (Jvm.Cond.and given_1 narrow_1)
theorem fn1 : ∀ i, i < 18 → flN.contains (.exactly (tmS i) "java/lang/String") = true := by decide +kernel
theorem fn2 : ∀ i, i < 18 → flN.contains (.eq (.field (tmS i) "java/lang/String" "coder" "B") (.int 0)) = true := by decide +kernel
theorem fn3 : ∀ i, i < 18 → flN.contains (.arrayOf (.field (tmS i) "java/lang/String" "value" "[B") .byte) = true := by decide +kernel
theorem fn4 : ∀ i, i < 18 → flN.contains (.eq (.length (.field (tmS i) "java/lang/String" "value" "[B")) (.int (Int32.ofNat (slen.getD i 0)))) = true := by decide +kernel
theorem fn5 : ∀ i, i < 18 → ∀ j, j < slen.getD i 0 → flN.contains (.eq (.elem (.field (tmS i) "java/lang/String" "value" "[B") (.int (Int32.ofNat j))) (.int ((sbyt.getD i []).getD j 0))) = true := by decide +kernel
def prs : List (Nat × Nat × Nat) := [(0, 1, 95), (0, 2, 107), (0, 3, 116), (0, 4, 130), (0, 5, 145), (0, 6, 156), (0, 7, 170), (0, 8, 187), (0, 9, 207), (0, 10, 226), (0, 11, 247), (0, 12, 267), (0, 13, 289), (0, 14, 315), (0, 15, 338), (0, 16, 362), (0, 17, 386), (1, 2, 108), (1, 3, 117), (1, 4, 131), (1, 5, 146), (1, 6, 157), (1, 7, 171), (1, 8, 188), (1, 9, 208), (1, 10, 227), (1, 11, 248), (1, 12, 268), (1, 13, 290), (1, 14, 316), (1, 15, 339), (1, 16, 363), (1, 17, 387), (2, 3, 118), (2, 4, 132), (2, 5, 147), (2, 6, 158), (2, 7, 172), (2, 8, 189), (2, 9, 209), (2, 10, 228), (2, 11, 249), (2, 12, 269), (2, 13, 291), (2, 14, 317), (2, 15, 340), (2, 16, 364), (2, 17, 388), (3, 4, 133), (3, 5, 148), (3, 6, 159), (3, 7, 173), (3, 8, 190), (3, 9, 210), (3, 10, 229), (3, 11, 250), (3, 12, 270), (3, 13, 292), (3, 14, 318), (3, 15, 341), (3, 16, 365), (3, 17, 389), (4, 5, 149), (4, 6, 160), (4, 7, 174), (4, 8, 191), (4, 9, 211), (4, 10, 230), (4, 11, 251), (4, 12, 271), (4, 13, 293), (4, 14, 319), (4, 15, 342), (4, 16, 366), (4, 17, 390), (5, 6, 161), (5, 7, 175), (5, 8, 192), (5, 9, 212), (5, 10, 231), (5, 11, 252), (5, 12, 272), (5, 13, 294), (5, 14, 320), (5, 15, 343), (5, 16, 367), (5, 17, 391), (6, 7, 176), (6, 8, 193), (6, 9, 213), (6, 10, 232), (6, 11, 253), (6, 12, 273), (6, 13, 295), (6, 14, 321), (6, 15, 344), (6, 16, 368), (6, 17, 392), (7, 8, 194), (7, 9, 214), (7, 10, 233), (7, 11, 254), (7, 12, 274), (7, 13, 296), (7, 14, 322), (7, 15, 345), (7, 16, 369), (7, 17, 393), (8, 9, 215), (8, 10, 234), (8, 11, 255), (8, 12, 275), (8, 13, 297), (8, 14, 323), (8, 15, 346), (8, 16, 370), (8, 17, 394), (9, 10, 235), (9, 11, 256), (9, 12, 276), (9, 13, 298), (9, 14, 324), (9, 15, 347), (9, 16, 371), (9, 17, 395), (10, 11, 257), (10, 12, 277), (10, 13, 299), (10, 14, 325), (10, 15, 348), (10, 16, 372), (10, 17, 396), (11, 12, 278), (11, 13, 300), (11, 14, 326), (11, 15, 349), (11, 16, 373), (11, 17, 397), (12, 13, 301), (12, 14, 327), (12, 15, 350), (12, 16, 374), (12, 17, 398), (13, 14, 328), (13, 15, 351), (13, 16, 375), (13, 17, 399), (14, 15, 352), (14, 16, 376), (14, 17, 400), (15, 16, 377), (15, 17, 401), (16, 17, 402)]
theorem prs_ok : prs.all (fun q => match flN[q.2.2]? with | some w => decide (w = .not (.eq (tmS q.1) (tmS q.2.1))) | none => false) = true := by decide +kernel
theorem prs_all : ∀ i, i < 18 → ∀ j, j < 18 → i ≠ j → prs.any (fun q => (q.1 == i && q.2.1 == j) || (q.1 == j && q.2.1 == i)) = true := by decide +kernel
theorem fn6 (i j : Nat) (hi : i < 18) (hj : j < 18) (hne : i ≠ j) : flN.contains (.not (.eq (tmS i) (tmS j))) = true ∨ flN.contains (.not (.eq (tmS j) (tmS i))) = true := by
  obtain ⟨q, hq, h⟩ := List.any_eq_true.mp (prs_all i hi j hj hne)
  have hk := List.all_eq_true.mp prs_ok q hq
  split at hk
  · rename_i w hw
    have hw' : w = .not (.eq (tmS q.1) (tmS q.2.1)) := of_decide_eq_true hk
    subst hw'
    have hm := List.mem_of_getElem? hw
    simp only [Bool.or_eq_true, Bool.and_eq_true, beq_iff_eq] at h
    rcases h with ⟨h1, h2⟩ | ⟨h1, h2⟩
    · rw [h1, h2] at hm; exact Or.inl (by simpa using hm)
    · rw [h1, h2] at hm; exact Or.inr (by simpa using hm)
  · cases hk
theorem fa1 : ∀ k, k < 6 → 1 ≤ k → flN.contains (.arrayOf (tmA k) .int) = true := by decide +kernel
theorem fa2 : ∀ k, k < 6 → 1 ≤ k → flN.contains (.eq (.length (tmA k)) (.int (Int32.ofNat (statV k).length))) = true := by decide +kernel
theorem fa3 : ∀ k, k < 6 → 1 ≤ k → ∀ j, j < (statV k).length → flN.contains (.eq (.elem (tmA k) (.int (Int32.ofNat j))) (.int ((statV k).getD j 0))) = true := by decide +kernel
theorem fa4 : ∀ k, k < 6 → 1 ≤ k → lw_tbl.contains (.laysStatic "DreamNets" (pStat k) "[I") = true := by decide +kernel
theorem fo1 : ([.initialized "DreamNets", .laysStatic "java/lang/String" "COMPACT_STRINGS" "Z", .initialized "java/lang/String", .laysStatic "jdk/internal/util/Preconditions" "SIOOBE_FORMATTER" "Ljava/util/function/BiFunction;", .initialized "jdk/internal/util/Preconditions", .arrayClass .int, .arrayClass .boolean, .arrayClass .long, .arrayOver (.object "DreamNets$Sheet"), .arrayOver (.object "DreamNets$Boat"), .arrayOver (.object "DreamNets$World")] : List Cond).all (fun w => lw_tbl.contains w) = true := by decide +kernel
theorem fo2 : bKinds.all (fun C => lw_tbl.contains (.castable C "DreamNets$Boat")) = true := by decide +kernel
theorem fo3 : flN.contains (.eq (.static "java/lang/String" "COMPACT_STRINGS" "Z") (.int 1)) = true ∧ flN.contains (.isRef (.static "jdk/internal/util/Preconditions" "SIOOBE_FORMATTER" "Ljava/util/function/BiFunction;")) = true := by decide +kernel
def h0 (L : Nat) (xs : Nat → Int32) : PH := ((100, 0), (fun a => if a = 0 then (120, L) else if a < 6 then (120, (statV a).length) else if 10 ≤ a ∧ a < 28 then (130, slen.getD (a - 10) 0) else (0, 0)), (fun a j => if a = 0 then xs j else if a < 6 then (statV a).getD j 0 else (sbyt.getD (a - 10) []).getD j 0), (fun _ _ => 0), fun _ _ => none)
theorem hT_h0 (L : Nat) (xs : Nat → Int32) (a : Nat) : hT (h0 L xs) a = if a < 6 then 120 else if 10 ≤ a ∧ a < 28 then 130 else 0 := by
  simp only [hT, h0]
  by_cases h1 : a = 0
  · subst h1; rfl
  · by_cases h2 : a < 6
    · simp [h1, h2]
    · by_cases h3 : 10 ≤ a ∧ a < 28 <;> simp [h1, h2, h3]
set_option maxRecDepth 100000 in
theorem start_of {p : Program} {s : State} {m : MethodId} {meth : Method} {c : Code} {b L : Nat} {xs : Nat → Int32} (C0 : lw_At p s m meth c b L xs) :
    ∃ X : CX, xs0 X = s.heap.size ∧ xH X = s.heap ∧ xo X 0 = b ∧ KU X KSt s ∧ Pic X (h0 L xs) s.heap := by
  obtain ⟨hx, hb, hr, hml, hown, hts, hX, hbl, hlocks, hgv⟩ := C0
  have hfl : ∀ w, flN.contains w = true → w.before #[Value.ref b] s = true := fun w hw => flat_of_before _ hgv w (by simpa [flN] using hw)
  have htb : ∀ w, lw_tbl.contains w = true → w.before #[Value.ref b] s = true := fun w hw => hts w (by simpa using hw)
  have htg : ∀ w ∈ lw_good, w.before #[Value.ref b] s = true := fun w hw => hts w (List.mem_filter.mp hw).1
  have hto : ∀ w ∈ ([.initialized "DreamNets", .laysStatic "java/lang/String" "COMPACT_STRINGS" "Z", .initialized "java/lang/String", .laysStatic "jdk/internal/util/Preconditions" "SIOOBE_FORMATTER" "Ljava/util/function/BiFunction;", .initialized "jdk/internal/util/Preconditions", .arrayClass .int, .arrayClass .boolean, .arrayClass .long, .arrayOver (.object "DreamNets$Sheet"), .arrayOver (.object "DreamNets$Boat"), .arrayOver (.object "DreamNets$World")] : List Cond), w.before #[Value.ref b] s = true := fun w hw => htb w (List.all_eq_true.mp fo1 w hw)
  have hA : ∀ a : Nat, a < s.heap.size → ¬ (fun q => s.heap.size ≤ q) a := fun a ha z => Nat.not_le.mpr ha z
  -- classes
  have hcl : ∀ t, ∃ z : ClassId × (Nat → Nat), isTg t = true → u_Kn s (pC t) (pT t) (pNf t) z.1 z.2 := by
    intro t
    by_cases ht : isTg t = true
    · obtain ⟨cC, iS, h⟩ := u_known (C := pC t) (T := pT t) (N := pNf t) (n := pNf t) htg (in_lay t ht) (htg _ (inst_ok t ht).1)
      exact ⟨(cC, iS), fun _ => h⟩
    · exact ⟨(0, fun _ => 0), fun z => absurd z ht⟩
  -- arrays
  have har : ∀ t, ∃ z : ClassId, isAT t = true → ArrOfT s z (pA t) ∧ va_RA s z (pA t) := by
    intro t
    by_cases ht : isAT t = true
    · have prim : ∀ ty, (Cond.arrayClass ty).before #[Value.ref b] s = true → pA t = ty → (ty = .int ∨ ty = .boolean ∨ ty = .long) → ∃ z : ClassId, isAT t = true → ArrOfT s z (pA t) ∧ va_RA s z (pA t) := by
        intro ty hw e h3
        obtain ⟨cA, kA, comp, hn, hk, hkind⟩ := Cond.arrayClass_spec hw
        refine ⟨cA, fun _ => ?_⟩
        rw [e]
        refine ⟨fun n z => ⟨fun k h => (by cases h), kA, hk, comp, hkind⟩, ?_⟩
        rcases h3 with rfl | rfl | rfl <;> exact hn
      have obj : ∀ C, (Cond.arrayOver (.object C)).before #[Value.ref b] s = true → pA t = .object C → ∃ z : ClassId, isAT t = true → ArrOfT s z (pA t) ∧ va_RA s z (pA t) := by
        intro C hw e
        obtain ⟨comp, cA, kA, hcomp, hidx, hkA, hkindA, hnameA⟩ := Cond.arrayOver_spec hw
        refine ⟨cA, fun _ => ?_⟩
        rw [e]
        exact ⟨fun n z => ⟨fun k h => (by cases h), kA, hkA, comp, hkindA⟩, kA, comp, hkA, hkindA, hcomp, hnameA⟩
      simp only [isAT, Bool.or_eq_true, beq_iff_eq] at ht
      rcases ht with ((((rfl | rfl) | rfl) | rfl) | rfl) | rfl
      · exact prim .int (hto _ (by simp)) rfl (Or.inl rfl)
      · exact prim .boolean (hto _ (by simp)) rfl (Or.inr (Or.inl rfl))
      · exact prim .long (hto _ (by simp)) rfl (Or.inr (Or.inr rfl))
      · exact obj "DreamNets$Sheet" (hto _ (by simp)) rfl
      · exact obj "DreamNets$Boat" (hto _ (by simp)) rfl
      · exact obj "DreamNets$World" (hto _ (by simp)) rfl
    · exact ⟨0, fun z => absurd z ht⟩
  -- the static rows
  have hst : ∀ k, ∃ t : Nat, k < 6 → 1 ≤ k → (tmA k).eval #[Value.ref b] s none [] s = some (.ref t) ∧ va_T .int t (statV k).length (fun j => .int ((statV k).getD j 0)) (fun q => s.heap.size ≤ q) s s.heap := by
    intro k
    by_cases hk : k < 6 ∧ 1 ≤ k
    · obtain ⟨t, h1, h2⟩ := va_Tof (args := #[Value.ref b]) (s := s) (tm := tmA k) (ty := .int) (N := (statV k).length) (f := fun j => .int ((statV k).getD j 0)) (A := fun q => s.heap.size ≤ q) (stat_small k) (hfl _ (fa1 k hk.1 hk.2)) (va_eqt (hfl _ (fa2 k hk.1 hk.2))) (fun j hj => va_eqt (hfl _ (fa3 k hk.1 hk.2 j hj))) hA
      exact ⟨t, fun _ _ => ⟨h1, h2⟩⟩
    · exact ⟨0, fun a b => absurd ⟨a, b⟩ hk⟩
  -- the texts
  obtain ⟨adK, adV, hS1, hS2⟩ := vk_Sof (N := 18) (tm := tmS) (len := slen) (byt := sbyt) (A := fun q => s.heap.size ≤ q) (args := #[Value.ref b]) (s := s) (fun i hi => Nat.lt_of_lt_of_le (slen_ok i hi) (by decide)) (fun i hi => hfl _ (fn1 i hi)) (fun i hi => hfl _ (fn2 i hi)) (fun i hi => hfl _ (fn3 i hi)) (fun i hi => hfl _ (fn4 i hi)) (fun i hi j hj => hfl _ (fn5 i hi j hj)) (fun i j hi hj hne => (fn6 i j hi hj hne).imp (hfl _) (hfl _)) hA
  refine ⟨(s.heap.size, s.heap, fun t => (Classical.choose (hcl t)).1, fun t => (Classical.choose (hcl t)).2, fun t => Classical.choose (har t), fun k => if k = 0 then b else if k < 6 then Classical.choose (hst k) else adK (k - 10), h0 L xs), rfl, rfl, rfl, ⟨fun t ht => Classical.choose_spec (hcl t) ht, fun t ht => Classical.choose_spec (har t) ht, fun w hw => ?_, fun C hC => va_Nw.of rfl (htb _ (List.all_eq_true.mp fo2 C hC)), ?_, fun k h1 h5 => ?_, fun a ha ht => ?_, rfl, ?_⟩, ?_⟩
  · have hm := List.mem_filter.mp hw
    refine va_Nw.of ?_ (hts w hm.1)
    revert hm
    unfold isNest
    split <;> first | exact fun _ => rfl | exact fun z => (by cases z.2)
  · rintro t (rfl | rfl | rfl)
    · exact va_AO.of (hto (.arrayOver (.object "DreamNets$Sheet")) (by simp))
    · exact va_AO.of (hto (.arrayOver (.object "DreamNets$Boat")) (by simp))
    · exact va_AO.of (hto (.arrayOver (.object "DreamNets$World")) (by simp))
  · have hk := Classical.choose_spec (hst k) (by omega) h1
    show va_Z "DreamNets" (pStat k) "[I" (.ref (if k = 0 then b else if k < 6 then Classical.choose (hst k) else adK (k - 10))) (fun q => s.heap.size ≤ q) s s.heap
    rw [if_neg (by omega), if_pos (by omega)]
    exact va_Zof (htb _ (fa4 k (by omega) h1)) (hto (.initialized "DreamNets") (by simp)) hk.1 hA
  · have ht : hT (h0 L xs) a = 120 := ht
    rw [hT_h0] at ht
    have ha6 : a < 6 := by
      by_cases z : a < 6
      · exact z
      · rw [if_neg z] at ht
        split at ht <;> cases ht
    show ∃ cell : Cell, s.heap[if a = 0 then b else if a < 6 then Classical.choose (hst a) else adK (a - 10)]? = some cell ∧ (if a = 0 then b else if a < 6 then Classical.choose (hst a) else adK (a - 10)) < s.heap.size ∧ s.isArrayOf cell .int ∧ cell.vm ≠ .unknown ∧ (hL (h0 L xs) a ≤ cell.slots.size ∧ cell.slots.size.toInt32 = nI (hL (h0 L xs) a)) ∧ ∀ j, j < hL (h0 L xs) a → cell.slots[j]? = some (.int (hI (h0 L xs) a j))
    by_cases h1 : a = 0
    · subst h1
      obtain ⟨scr, e1, e2, e3, e4, e5⟩ := hX
      rw [if_pos rfl]
      exact ⟨scr, e1, hbl, e2, e3, ⟨Nat.le_of_eq e4.symm, by rw [e4]; rfl⟩, fun j hj => e5 j hj⟩
    · rw [if_neg h1, if_pos ha6]
      obtain ⟨cell, e1, e2, e3, e4, e5, e6, e7⟩ := (Classical.choose_spec (hst a) ha6 (by omega)).2
      have hl : hL (h0 L xs) a = (statV a).length := by simp [hL, h0, h1, ha6]
      have hi : ∀ j, hI (h0 L xs) a j = (statV a).getD j 0 := fun j => by simp [hI, h0, h1, ha6]
      refine ⟨cell, e1, (Array.getElem?_eq_some_iff.mp e1).1, e2, e3, ⟨by rw [hl]; exact e4, by rw [hl]; exact e5⟩, fun j hj => ?_⟩
      rw [hi, e6 j (by rw [← hl]; exact hj)]
  · have hxo : ∀ i, i < 18 → (if 10 + i = 0 then b else if 10 + i < 6 then Classical.choose (hst (10 + i)) else adK (10 + i - 10)) = adK i := fun i _ => by rw [if_neg (by omega), if_neg (by omega), show 10 + i - 10 = i by omega]
    refine ⟨⟨adV, ?_, ?_⟩, fun i k h1 h2 hw => ?_, va_Zof (hto _ (by simp)) (hto (.initialized "java/lang/String") (by simp)) (va_eqt (hfl _ fo3.1)) hA, va_Zqof (hto _ (by simp)) (hto (.initialized "jdk/internal/util/Preconditions") (by simp)) (hfl _ fo3.2) hA, fun k hk ht => ?_, rfl⟩
    · intro i hi
      have := hS1.1 i hi
      show va_O _ (if 10 + i = 0 then b else if 10 + i < 6 then Classical.choose (hst (10 + i)) else adK (10 + i - 10)) _ _ _ ∧ va_OF _ _ _ _ (if 10 + i = 0 then b else if 10 + i < 6 then Classical.choose (hst (10 + i)) else adK (10 + i - 10)) _ _ _ ∧ va_OF _ _ _ _ (if 10 + i = 0 then b else if 10 + i < 6 then Classical.choose (hst (10 + i)) else adK (10 + i - 10)) _ _ _ ∧ _
      rw [hxo i hi]
      exact this
    · intro i j hi hj hij
      have hij : (if 10 + i = 0 then b else if 10 + i < 6 then Classical.choose (hst (10 + i)) else adK (10 + i - 10)) = (if 10 + j = 0 then b else if 10 + j < 6 then Classical.choose (hst (10 + j)) else adK (10 + j - 10)) := hij
      rw [hxo i hi, hxo j hj] at hij
      exact hS1.2 i j hi hj hij
    · have e1 : i = sidx k := by
        have := List.all_eq_true.mp sidx_ok _ hw
        simp only [List.all_eq_true, List.mem_range] at this
        have := this (k - 10) (by omega)
        rw [show 10 + (k - 10) = k by omega] at this
        simpa using this
      subst e1
      show vk_R "DreamNets$Tape" (sidx k) (pStr k) (if k = 0 then b else if k < 6 then Classical.choose (hst k) else adK (k - 10)) s
      rw [if_neg (by omega), if_neg (by omega)]
      have := hS2 (k - 10) (by omega)
      unfold tmS at this
      rw [show 10 + (k - 10) = k by omega] at this
      exact vk_R.of (hts _ hw) this
    · have ht : hT (h0 L xs) k = 130 := ht
      rw [hT_h0] at ht
      have h3 : ¬ k < 6 := by
        intro z
        rw [if_pos z] at ht
        cases ht
      rw [if_neg h3] at ht
      have h4 : 10 ≤ k ∧ k < 28 := by
        by_cases z : 10 ≤ k ∧ k < 28
        · exact z
        · rw [if_neg z] at ht; cases ht
      have h5 : ¬ k = 0 := by omega
      refine ⟨h4.1, h4.2, ?_, fun j hj => ?_⟩
      · show hL (h0 L xs) k = _
        simp [hL, h0, h5, h3, h4]
      · show hI (h0 L xs) k j = _
        simp [hI, h0, h5, h3]
  · refine ⟨Nat.le_refl _, ?_, fun _ _ => rfl, fun a ha => ?_, fun a ha => ⟨rfl, rfl, fun _ => rfl⟩⟩
    · show s.heap.size = s.heap.size + (100 - 100)
      omega
    · have ha' := ha
      rw [hT_h0] at ha'
      have ha100 : a < 100 := by
        by_cases z : a < 6
        · omega
        · rw [if_neg z] at ha'
          by_cases z2 : 10 ≤ a ∧ a < 28
          · omega
          · rw [if_neg z2] at ha'; exact absurd rfl ha'
      refine ⟨ha100, Or.inr (Or.inr ⟨?_, ha100⟩)⟩
      rw [hT_h0]
      by_cases z : a < 6
      · exact Or.inl (if_pos z)
      · rw [if_neg z] at ha' ⊢
        by_cases z2 : 10 ≤ a ∧ a < 28
        · exact Or.inr (if_pos z2)
        · rw [if_neg z2] at ha'; exact absurd rfl ha'
end
