section
/-! the frame that the two objects stand in, cell by cell -/
variable {h : PH} {f : Nat → Nat → Int32}
def ap (h : PH) (o : Nat × Nat × Nat × Nat) : PH := match o.1 with
  | 0 => nC h o.2.1 o.2.2.1
  | _ + 1 => sR h o.2.1 o.2.2.1 (some o.2.2.2)
def eNL : List (Nat × Nat × Nat × Nat) → Nat → Nat
  | [], N => N
  | o :: l, N => match o.1 with
    | 0 => eNL l (N + 1)
    | _ + 1 => eNL l N
def eUL : List (Nat × Nat × Nat × Nat) → Nat
  | [] => 0
  | o :: l => match o.1 with
    | 0 => o.2.2.1 + eUL l
    | _ + 1 => eUL l
def eTL : List (Nat × Nat × Nat × Nat) → Nat → Nat → Nat × Nat → Nat × Nat
  | [], _, _, x => x
  | o :: l, N, a, x => match o.1 with
    | 0 => eTL l (N + 1) a (if a = N then (o.2.1, o.2.2.1) else x)
    | _ + 1 => eTL l N a x
def eRL : List (Nat × Nat × Nat × Nat) → Nat → Nat → Nat → Option Nat → Option Nat
  | [], _, _, _, x => x
  | o :: l, N, a, k, x => match o.1 with
    | 0 => eRL l (N + 1) a k (if a = N then none else x)
    | _ + 1 => eRL l N a k (if a = o.2.1 ∧ k = o.2.2.1 then some o.2.2.2 else x)
theorem eNL_ok : ∀ (l : List (Nat × Nat × Nat × Nat)) (h : PH), hN (l.foldl ap h) = eNL l (hN h)
  | [], _ => rfl
  | (0, _, _, _) :: l, h => eNL_ok l _
  | (_ + 1, _, _, _) :: l, h => eNL_ok l _
theorem eUL_ok : ∀ (l : List (Nat × Nat × Nat × Nat)) (h : PH), hU (l.foldl ap h) = hU h + eUL l
  | [], _ => rfl
  | (0, t, n, x) :: l, h => by
    show hU (l.foldl ap (nC h t n)) = hU h + (n + eUL l)
    rw [eUL_ok l, hU_nC]
    omega
  | (_ + 1, _, _, _) :: l, h => eUL_ok l _
theorem eTL_ok (a : Nat) : ∀ (l : List (Nat × Nat × Nat × Nat)) (h : PH), (hT (l.foldl ap h) a, hL (l.foldl ap h) a) = eTL l (hN h) a (hT h a, hL h a)
  | [], _ => rfl
  | (0, t, n, x) :: l, h => by
    show (hT (l.foldl ap (nC h t n)) a, hL (l.foldl ap (nC h t n)) a) = eTL l (hN h + 1) a (if a = hN h then (t, n) else (hT h a, hL h a))
    rw [eTL_ok a l, hN_nC, hT_nC, hL_nC]
    congr 1
    by_cases z : a = hN h
    · rw [if_pos z, if_pos z, if_pos z]
    · rw [if_neg z, if_neg z, if_neg z]
  | (_ + 1, _, _, _) :: l, h => eTL_ok a l _
theorem eRL_ok (a k : Nat) : ∀ (l : List (Nat × Nat × Nat × Nat)) (h : PH), hR (l.foldl ap h) a k = eRL l (hN h) a k (hR h a k)
  | [], _ => rfl
  | (0, t, n, x) :: l, h => by
    show hR (l.foldl ap (nC h t n)) a k = eRL l (hN h + 1) a k (if a = hN h then none else hR h a k)
    rw [eRL_ok a k l, hN_nC, hR_nC]
  | (i + 1, b, c, x) :: l, h => by
    show hR (l.foldl ap (sR h b c (some x))) a k = eRL l (hN h) a k (if a = b ∧ k = c then some x else hR h a k)
    rw [eRL_ok a k l, hR_sR]
    rfl
theorem eTL_lo {a : Nat} {x : Nat × Nat} : ∀ (l : List (Nat × Nat × Nat × Nat)) (N : Nat), a < N → eTL l N a x = x
  | [], _, _ => rfl
  | (0, t, n, z) :: l, N, hN => by
    show eTL l (N + 1) a (if a = N then (t, n) else x) = x
    rw [if_neg (by omega)]
    exact eTL_lo l (N + 1) (by omega)
  | (_ + 1, _, _, _) :: l, N, hN => eTL_lo l N hN
/-- where something is written, what was there doesn't matter -/
def eA : List (Nat × Nat × Nat × Nat) → Nat → Nat → Nat → Option Nat → Option Nat
  | [], _, _, _, x => x
  | o :: l, N, a, k, x => match o.1 with
    | 0 => eA l (N + 1) a k (if a = N then none else x)
    | _ + 1 => eA l N a k (if a = o.2.1 ∧ k = o.2.2.1 then some o.2.2.2 else x)
theorem eA_ok {a k x : Nat} : ∀ (l : List (Nat × Nat × Nat × Nat)) (N : Nat) (u z : Option Nat), eA l N a k u = some x → (u = none ∨ u = z) → eRL l N a k z = some x
  | [], _, u, z, e, q => by
    have e : u = some x := e
    rcases q with rfl | rfl
    · cases e
    · exact e
  | (0, t, n, w) :: l, N, u, z, e, q => by
    have e : eA l (N + 1) a k (if a = N then none else u) = some x := e
    show eRL l (N + 1) a k (if a = N then none else z) = some x
    refine eA_ok l (N + 1) _ _ e ?_
    by_cases y : a = N
    · rw [if_pos y]; exact Or.inl rfl
    · rw [if_neg y, if_neg y]; exact q
  | (i + 1, b, c, w) :: l, N, u, z, e, q => by
    have e : eA l N a k (if a = b ∧ k = c then some w else u) = some x := e
    show eRL l N a k (if a = b ∧ k = c then some w else z) = some x
    refine eA_ok l N _ _ e ?_
    by_cases y : a = b ∧ k = c
    · rw [if_pos y, if_pos y]; exact Or.inr rfl
    · rw [if_neg y, if_neg y]; exact q
theorem tk1 {α : Type} : ∀ (l : List α) (j : Nat) (o : α), l[j]? = some o → l.take (j + 1) = l.take j ++ [o]
  | [], j, o, e => by cases e
  | a :: l, 0, o, e => by
    cases e
    rfl
  | a :: l, j + 1, o, e => by
    show a :: l.take (j + 1) = a :: (l.take j ++ [o])
    rw [tk1 l j o e]
theorem tk2 {α : Type} : ∀ (l : List α) (j m : Nat), l.take (j + m) = l.take j ++ (l.drop j).take m
  | [], j, m => by
    cases j <;> cases m <;> rfl
  | a :: l, 0, m => by
    rw [Nat.zero_add]
    rfl
  | a :: l, j + 1, m => by
    rw [show j + 1 + m = (j + m) + 1 by omega]
    show a :: l.take (j + m) = a :: (l.take j ++ (l.drop j).take m)
    rw [tk2 l j m]
def ops : List (Nat × Nat × Nat × Nat) := [(0, 12, 13, 0), (0, 9, 6, 0), (0, 100, 200, 0), (1, 101, 0, 102), (1, 100, 4, 101), (0, 1, 5, 0), (0, 100, 30, 0), (1, 103, 0, 104), (1, 100, 5, 103), (0, 110, 4, 0), (1, 100, 6, 105), (0, 100, 4, 0), (1, 100, 7, 106), (0, 110, 4, 0), (1, 100, 8, 107), (0, 100, 30, 0), (1, 100, 9, 108), (0, 101, 40, 0), (1, 100, 10, 109), (0, 111, 6, 0), (0, 2, 0, 0), (1, 110, 0, 111), (0, 7, 0, 0), (1, 110, 1, 112), (0, 4, 0, 0), (1, 110, 2, 113), (0, 10, 0, 0), (1, 110, 3, 114), (0, 3, 0, 0), (1, 110, 4, 115), (0, 5, 0, 0), (1, 110, 5, 116), (0, 11, 18, 0), (0, 100, 3, 0), (1, 117, 1, 118), (0, 100, 5, 0), (1, 117, 2, 119), (0, 100, 40, 0), (1, 117, 3, 120), (0, 100, 8, 0), (1, 117, 4, 121), (0, 100, 8, 0), (1, 117, 5, 122), (0, 100, 4, 0), (1, 117, 6, 123), (0, 100, 4, 0), (1, 117, 7, 124), (0, 100, 6, 0), (1, 117, 8, 125), (0, 100, 6, 0), (1, 117, 9, 126), (0, 100, 6, 0), (1, 117, 10, 127), (0, 100, 6, 0), (1, 117, 11, 128), (0, 100, 6, 0), (1, 117, 12, 129), (0, 100, 30, 0), (1, 117, 13, 130), (1, 117, 0, 110), (1, 100, 0, 117), (0, 11, 18, 0), (0, 100, 3, 0), (1, 131, 1, 132), (0, 100, 5, 0), (1, 131, 2, 133), (0, 100, 40, 0), (1, 131, 3, 134), (0, 100, 8, 0), (1, 131, 4, 135), (0, 100, 8, 0), (1, 131, 5, 136), (0, 100, 4, 0), (1, 131, 6, 137), (0, 100, 4, 0), (1, 131, 7, 138), (0, 100, 6, 0), (1, 131, 8, 139), (0, 100, 6, 0), (1, 131, 9, 140), (0, 100, 6, 0), (1, 131, 10, 141), (0, 100, 6, 0), (1, 131, 11, 142), (0, 100, 6, 0), (1, 131, 12, 143), (0, 100, 30, 0), (1, 131, 13, 144), (1, 131, 0, 110), (1, 100, 1, 131), (0, 11, 18, 0), (0, 100, 3, 0), (1, 145, 1, 146), (0, 100, 5, 0), (1, 145, 2, 147), (0, 100, 40, 0), (1, 145, 3, 148), (0, 100, 8, 0), (1, 145, 4, 149), (0, 100, 8, 0), (1, 145, 5, 150), (0, 100, 4, 0), (1, 145, 6, 151), (0, 100, 4, 0), (1, 145, 7, 152), (0, 100, 6, 0), (1, 145, 8, 153), (0, 100, 6, 0), (1, 145, 9, 154), (0, 100, 6, 0), (1, 145, 10, 155), (0, 100, 6, 0), (1, 145, 11, 156), (0, 100, 6, 0), (1, 145, 12, 157), (0, 100, 30, 0), (1, 145, 13, 158), (1, 145, 0, 110), (1, 100, 2, 145), (0, 6, 6, 0), (0, 112, 5, 0), (1, 159, 0, 160), (0, 100, 4, 0), (1, 159, 1, 161), (0, 100, 4, 0), (1, 159, 2, 162), (0, 11, 18, 0), (0, 100, 3, 0), (1, 163, 1, 164), (0, 100, 5, 0), (1, 163, 2, 165), (0, 100, 40, 0), (1, 163, 3, 166), (0, 100, 8, 0), (1, 163, 4, 167), (0, 100, 8, 0), (1, 163, 5, 168), (0, 100, 4, 0), (1, 163, 6, 169), (0, 100, 4, 0), (1, 163, 7, 170), (0, 100, 6, 0), (1, 163, 8, 171), (0, 100, 6, 0), (1, 163, 9, 172), (0, 100, 6, 0), (1, 163, 10, 173), (0, 100, 6, 0), (1, 163, 11, 174), (0, 100, 6, 0), (1, 163, 12, 175), (0, 100, 30, 0), (1, 163, 13, 176), (1, 163, 0, 110), (1, 160, 0, 163), (0, 11, 18, 0), (0, 100, 3, 0), (1, 177, 1, 178), (0, 100, 5, 0), (1, 177, 2, 179), (0, 100, 40, 0), (1, 177, 3, 180), (0, 100, 8, 0), (1, 177, 4, 181), (0, 100, 8, 0), (1, 177, 5, 182), (0, 100, 4, 0), (1, 177, 6, 183), (0, 100, 4, 0), (1, 177, 7, 184), (0, 100, 6, 0), (1, 177, 8, 185), (0, 100, 6, 0), (1, 177, 9, 186), (0, 100, 6, 0), (1, 177, 10, 187), (0, 100, 6, 0), (1, 177, 11, 188), (0, 100, 6, 0), (1, 177, 12, 189), (0, 100, 30, 0), (1, 177, 13, 190), (1, 177, 0, 110), (1, 160, 1, 177), (0, 11, 18, 0), (0, 100, 3, 0), (1, 191, 1, 192), (0, 100, 5, 0), (1, 191, 2, 193), (0, 100, 40, 0), (1, 191, 3, 194), (0, 100, 8, 0), (1, 191, 4, 195), (0, 100, 8, 0), (1, 191, 5, 196), (0, 100, 4, 0), (1, 191, 6, 197), (0, 100, 4, 0), (1, 191, 7, 198), (0, 100, 6, 0), (1, 191, 8, 199), (0, 100, 6, 0), (1, 191, 9, 200), (0, 100, 6, 0), (1, 191, 10, 201), (0, 100, 6, 0), (1, 191, 11, 202), (0, 100, 6, 0), (1, 191, 12, 203), (0, 100, 30, 0), (1, 191, 13, 204), (1, 191, 0, 110), (1, 160, 2, 191), (0, 11, 18, 0), (0, 100, 3, 0), (1, 205, 1, 206), (0, 100, 5, 0), (1, 205, 2, 207), (0, 100, 40, 0), (1, 205, 3, 208), (0, 100, 8, 0), (1, 205, 4, 209), (0, 100, 8, 0), (1, 205, 5, 210), (0, 100, 4, 0), (1, 205, 6, 211), (0, 100, 4, 0), (1, 205, 7, 212), (0, 100, 6, 0), (1, 205, 8, 213), (0, 100, 6, 0), (1, 205, 9, 214), (0, 100, 6, 0), (1, 205, 10, 215), (0, 100, 6, 0), (1, 205, 11, 216), (0, 100, 6, 0), (1, 205, 12, 217), (0, 100, 30, 0), (1, 205, 13, 218), (1, 205, 0, 110), (1, 160, 3, 205), (0, 11, 18, 0), (0, 100, 3, 0), (1, 219, 1, 220), (0, 100, 5, 0), (1, 219, 2, 221), (0, 100, 40, 0), (1, 219, 3, 222), (0, 100, 8, 0), (1, 219, 4, 223), (0, 100, 8, 0), (1, 219, 5, 224), (0, 100, 4, 0), (1, 219, 6, 225), (0, 100, 4, 0), (1, 219, 7, 226), (0, 100, 6, 0), (1, 219, 8, 227), (0, 100, 6, 0), (1, 219, 9, 228), (0, 100, 6, 0), (1, 219, 10, 229), (0, 100, 6, 0), (1, 219, 11, 230), (0, 100, 6, 0), (1, 219, 12, 231), (0, 100, 30, 0), (1, 219, 13, 232), (1, 219, 0, 110), (1, 160, 4, 219), (1, 100, 3, 159), (0, 13, 36, 0), (0, 100, 136, 0), (1, 233, 0, 234), (0, 100, 136, 0), (1, 233, 1, 235), (0, 100, 136, 0), (1, 233, 2, 236), (0, 100, 136, 0), (1, 233, 3, 237), (0, 100, 5, 0), (1, 233, 4, 238), (0, 100, 200, 0), (1, 233, 6, 239), (0, 100, 8, 0), (1, 233, 16, 240), (0, 100, 4, 0), (1, 233, 17, 241), (0, 100, 4, 0), (1, 233, 18, 242), (0, 101, 40, 0), (1, 233, 20, 243), (0, 100, 30, 0), (1, 233, 21, 244), (0, 100, 30, 0), (1, 233, 22, 245), (0, 100, 4, 0), (1, 233, 24, 246), (0, 100, 4, 0), (1, 233, 25, 247), (0, 102, 160, 0), (1, 233, 26, 248), (0, 100, 4, 0), (1, 233, 27, 249), (0, 100, 4, 0), (1, 233, 28, 250), (0, 100, 4, 0), (1, 233, 29, 251), (0, 100, 30, 0), (1, 233, 33, 252)]
def fo (h : PH) (j : Nat) : PH := (ops.take j).foldl ap h
theorem fo_up {j : Nat} {o : Nat × Nat × Nat × Nat} (e : ops[j]? = some o) : ap (fo h j) o = fo h (j + 1) := by
  unfold fo
  rw [tk1 ops j o e, List.foldl_append]
  rfl
theorem fo_n {j t n : Nat} (e : ops[j]? = some (0, t, n, 0)) : nC (fo h j) t n = fo h (j + 1) := fo_up e
theorem fo_r {j a k x : Nat} (e : ops[j]? = some (1, a, k, x)) : sR (fo h j) a k (some x) = fo h (j + 1) := fo_up e
theorem fo_seg {j m : Nat} {s : List (Nat × Nat × Nat × Nat)} (e : (ops.drop j).take m = s) : s.foldl ap (fo h j) = fo h (j + m) := by
  unfold fo
  rw [tk2 ops j m, e, List.foldl_append]
theorem fo_N (h1 : hN h = 100) {j c : Nat} (e : eNL (ops.take j) 100 = c) : hN (fo h j) = c := by
  unfold fo
  rw [eNL_ok, h1, e]
theorem fo_T (h1 : hN h = 100) (hz : ∀ a, 100 ≤ a → hT h a = 0 ∧ hL h a = 0) {j a t m : Nat} (ha : 100 ≤ a) (e : eTL (ops.take j) 100 a (0, 0) = (t, m)) : hT (fo h j) a = t ∧ hL (fo h j) a = m := by
  have := eTL_ok a (ops.take j) h
  rw [h1, (hz a ha).1, (hz a ha).2, e] at this
  exact ⟨congrArg Prod.fst this, congrArg Prod.snd this⟩
theorem fo_lo (h1 : hN h = 100) {j a : Nat} (ha : a < 100) : hT (fo h j) a = hT h a ∧ hL (fo h j) a = hL h a := by
  have := eTL_ok a (ops.take j) h
  rw [h1, eTL_lo _ _ ha] at this
  exact ⟨congrArg Prod.fst this, congrArg Prod.snd this⟩
theorem fo_R (h1 : hN h = 100) {j a k : Nat} (hz : hR h a k = none) : hR (fo h j) a k = eRL (ops.take j) 100 a k none := by
  have := eRL_ok a k (ops.take j) h
  rwa [h1, hz] at this
theorem eRL_any {l : List (Nat × Nat × Nat × Nat)} {N a k x : Nat} (e : eA l N a k none = some x) (z : Option Nat) : eRL l N a k z = some x := eA_ok l N none z e (Or.inl rfl)
/-! cells that are new hold 0 -/
def ZF (f : Nat → Nat → Int32) (N : Nat) : Prop := ∀ a j, N ≤ a → f a j = 0
theorem ZF.nf {N : Nat} (H : ZF f N) (c : Nat) (hc : N ≤ c) : nf f c = f := by
  funext a j
  show (if a = c then 0 else f a j) = f a j
  by_cases z : a = c
  · rw [if_pos z, z, H c j hc]
  · rw [if_neg z]
theorem ZF.mono {N M : Nat} (H : ZF f N) (hM : N ≤ M) : ZF f M := fun a j ha => H a j (by omega)
theorem ZF.up {N M a k : Nat} {x : Int32} (H : ZF f N) (ha : a < M) (hM : N ≤ M) : ZF (up2 f a k x) M := fun b j hb => by
  rw [up2_ne _ _ (by omega)]
  exact H b j (by omega)
theorem ZF.sa {a : Nat} (H : ZF f a) : ZF (saF (up2 f a 17 (nI 1)) a) (a + 14) := fun b j hb => by
  rw [saF_out (by omega), up2_ne _ _ (by omega)]
  exact H b j (by omega)
/-! a world is made -/
def wst (h : PH) (a : Nat) : Nat → PH
  | 0 => h
  | i + 1 => sR (nC (wst h a i) 100 (wlen (i + 1))) a (i + 1) (some (a + 1 + i))
def wW (h : PH) (a : Nat) : PH := sR (wst h a 13) a 0 (some 110)
theorem wst_N {a : Nat} (hn : hN h = a + 1) : ∀ i, hN (wst h a i) = a + 1 + i
  | 0 => hn
  | i + 1 => by
    show hN (nC (wst h a i) 100 (wlen (i + 1))) = _
    rw [hN_nC, wst_N hn i]
    omega
theorem wst_T {a : Nat} (hn : hN h = a + 1) {b : Nat} (hb : b < a + 1) : ∀ i, hT (wst h a i) b = hT h b ∧ hL (wst h a i) b = hL h b
  | 0 => ⟨rfl, rfl⟩
  | i + 1 => by
    have hne : ¬ b = hN (wst h a i) := by rw [wst_N hn i]; omega
    obtain ⟨e1, e2⟩ := wst_T hn hb i
    exact ⟨(hT_nCn hne).trans e1, (hL_nCn hne).trans e2⟩
theorem wst_F {a : Nat} (hn : hN h = a + 1) : ∀ i c, 1 ≤ c → c ≤ i → hR (wst h a i) a c = some (a + c) ∧ hT (wst h a i) (a + c) = 100 ∧ hL (wst h a i) (a + c) = wlen c
  | 0, c, h1, h2 => by omega
  | i + 1, c, h1, h2 => by
    have hw := wst_N hn i
    by_cases z : c = i + 1
    · subst z
      have e : a + (i + 1) = hN (wst h a i) := by rw [hw]; omega
      refine ⟨?_, ?_, ?_⟩
      · show hR (sR _ a (i + 1) _) a (i + 1) = _
        rw [hR_sR, if_pos ⟨rfl, rfl⟩, show a + 1 + i = a + (i + 1) by omega]
      · show hT (nC (wst h a i) 100 (wlen (i + 1))) (a + (i + 1)) = 100
        rw [hT_nC, if_pos e]
      · show hL (nC (wst h a i) 100 (wlen (i + 1))) (a + (i + 1)) = wlen (i + 1)
        rw [hL_nC, if_pos e]
    · obtain ⟨e1, e2, e3⟩ := wst_F hn i c h1 (by omega)
      have hne : ¬ a + c = hN (wst h a i) := by rw [hw]; omega
      have hna : ¬ a = hN (wst h a i) := by rw [hw]; omega
      refine ⟨?_, ?_, ?_⟩
      · show hR (sR _ a (i + 1) _) a c = _
        rw [hR_sR, if_neg (fun u => z u.2), hR_nC, if_neg hna, e1]
      · exact (hT_nCn hne).trans e2
      · exact (hL_nCn hne).trans e3
theorem wW_B {a : Nat} (hn : hN h = a + 1) (ht : hT h a = 11) : WB (wW h a) a := by
  refine ⟨(wst_T hn (by omega) 13).1.trans ht, ?_, fun c h1 h2 => ?_⟩
  · show hR (sR _ a 0 _) a 0 = _
    rw [hR_sR, if_pos ⟨rfl, rfl⟩]
  · obtain ⟨e1, e2, e3⟩ := wst_F hn 13 c h1 (by omega)
    refine ⟨?_, e2, e3⟩
    show hR (sR _ a 0 _) a c = _
    rw [hR_sR, if_neg (fun u => by omega), e1]
theorem k_world {a : Nat} (hn : hN h = a + 1) (ht : hT h a = 11) (ha : 100 ≤ a) (o1 : hT h 1 = 120) (p1 : hL h 1 = 3) (o2 : hT h 2 = 120) (p2 : hL h 2 = 5) (H : ZF f a) (d : Nat) (hd : 1 ≤ d) (Q : Option Value → PH → Prop) :
    Run d 1569 [.ref a, .ref 110] (wI h f) Q = Q none (wI (wW h a) (saF (up2 f a 17 (nI 1)) a)) := by
  have zf : ∀ c, a ≤ c → nf f c = f := fun c hc => H.nf c hc
  have n0 : hN (wst h a 0) = a + 1 := (wst_N hn 0).trans (by omega)
  have n1 : hN (wst h a 1) = a + 2 := (wst_N hn 1).trans (by omega)
  have n2 : hN (wst h a 2) = a + 3 := (wst_N hn 2).trans (by omega)
  have n3 : hN (wst h a 3) = a + 4 := (wst_N hn 3).trans (by omega)
  have n4 : hN (wst h a 4) = a + 5 := (wst_N hn 4).trans (by omega)
  have n5 : hN (wst h a 5) = a + 6 := (wst_N hn 5).trans (by omega)
  have n6 : hN (wst h a 6) = a + 7 := (wst_N hn 6).trans (by omega)
  have n7 : hN (wst h a 7) = a + 8 := (wst_N hn 7).trans (by omega)
  have n8 : hN (wst h a 8) = a + 9 := (wst_N hn 8).trans (by omega)
  have n9 : hN (wst h a 9) = a + 10 := (wst_N hn 9).trans (by omega)
  have n10 : hN (wst h a 10) = a + 11 := (wst_N hn 10).trans (by omega)
  have n11 : hN (wst h a 11) = a + 12 := (wst_N hn 11).trans (by omega)
  have n12 : hN (wst h a 12) = a + 13 := (wst_N hn 12).trans (by omega)
  have n13 : hN (wst h a 13) = a + 14 := (wst_N hn 13).trans (by omega)
  have u0 : hT (nC (wst h a 0) 100 3) a = 11 := (hT_nCn (by rw [n0]; omega)).trans ((wst_T hn (by omega) 0).1.trans ht)
  have s0 : sR (nC (wst h a 0) 100 3) a 1 (some (a + 1)) = wst h a 1 := rfl
  have u1 : hT (nC (wst h a 1) 100 5) a = 11 := (hT_nCn (by rw [n1]; omega)).trans ((wst_T hn (by omega) 1).1.trans ht)
  have s1 : sR (nC (wst h a 1) 100 5) a 2 (some (a + 2)) = wst h a 2 := rfl
  have u2 : hT (nC (wst h a 2) 100 40) a = 11 := (hT_nCn (by rw [n2]; omega)).trans ((wst_T hn (by omega) 2).1.trans ht)
  have s2 : sR (nC (wst h a 2) 100 40) a 3 (some (a + 3)) = wst h a 3 := rfl
  have u3 : hT (nC (wst h a 3) 100 8) a = 11 := (hT_nCn (by rw [n3]; omega)).trans ((wst_T hn (by omega) 3).1.trans ht)
  have s3 : sR (nC (wst h a 3) 100 8) a 4 (some (a + 4)) = wst h a 4 := rfl
  have u4 : hT (nC (wst h a 4) 100 8) a = 11 := (hT_nCn (by rw [n4]; omega)).trans ((wst_T hn (by omega) 4).1.trans ht)
  have s4 : sR (nC (wst h a 4) 100 8) a 5 (some (a + 5)) = wst h a 5 := rfl
  have u5 : hT (nC (wst h a 5) 100 4) a = 11 := (hT_nCn (by rw [n5]; omega)).trans ((wst_T hn (by omega) 5).1.trans ht)
  have s5 : sR (nC (wst h a 5) 100 4) a 6 (some (a + 6)) = wst h a 6 := rfl
  have u6 : hT (nC (wst h a 6) 100 4) a = 11 := (hT_nCn (by rw [n6]; omega)).trans ((wst_T hn (by omega) 6).1.trans ht)
  have s6 : sR (nC (wst h a 6) 100 4) a 7 (some (a + 7)) = wst h a 7 := rfl
  have u7 : hT (nC (wst h a 7) 100 6) a = 11 := (hT_nCn (by rw [n7]; omega)).trans ((wst_T hn (by omega) 7).1.trans ht)
  have s7 : sR (nC (wst h a 7) 100 6) a 8 (some (a + 8)) = wst h a 8 := rfl
  have u8 : hT (nC (wst h a 8) 100 6) a = 11 := (hT_nCn (by rw [n8]; omega)).trans ((wst_T hn (by omega) 8).1.trans ht)
  have s8 : sR (nC (wst h a 8) 100 6) a 9 (some (a + 9)) = wst h a 9 := rfl
  have u9 : hT (nC (wst h a 9) 100 6) a = 11 := (hT_nCn (by rw [n9]; omega)).trans ((wst_T hn (by omega) 9).1.trans ht)
  have s9 : sR (nC (wst h a 9) 100 6) a 10 (some (a + 10)) = wst h a 10 := rfl
  have u10 : hT (nC (wst h a 10) 100 6) a = 11 := (hT_nCn (by rw [n10]; omega)).trans ((wst_T hn (by omega) 10).1.trans ht)
  have s10 : sR (nC (wst h a 10) 100 6) a 11 (some (a + 11)) = wst h a 11 := rfl
  have u11 : hT (nC (wst h a 11) 100 6) a = 11 := (hT_nCn (by rw [n11]; omega)).trans ((wst_T hn (by omega) 11).1.trans ht)
  have s11 : sR (nC (wst h a 11) 100 6) a 12 (some (a + 12)) = wst h a 12 := rfl
  have u12 : hT (nC (wst h a 12) 100 30) a = 11 := (hT_nCn (by rw [n12]; omega)).trans ((wst_T hn (by omega) 12).1.trans ht)
  have s12 : sR (nC (wst h a 12) 100 30) a 13 (some (a + 13)) = wst h a 13 := rfl
  have t13 : hT (wst h a 13) a = 11 := (wst_T hn (by omega) 13).1.trans ht
  have eW : sR (wst h a 13) a 0 (some 110) = wW h a := rfl
  have tW : hT (wW h a) a = 11 := t13
  have l1 := wst_T hn (show 1 < a + 1 by omega) 13
  have l2 := wst_T hn (show 2 < a + 1 by omega) 13
  have es := fun d Q => e_startAnew (wW_B hn ht) ha (l1.1.trans o1) (l1.2.trans p1) (l2.1.trans o2) (l2.2.trans p2) (up2 f a 17 (nI 1)) d Q
  have e0 : wI h f = wI (wst h a 0) f := rfl
  rw [e0]
  simp -implicitDefEqProofs (disch := first | omega | (simp (disch := omega) only [nb_upr]; omega)) only [R_1569, w_1569_0, zi_0, zi_0n, zi_1, zi_54, zi_12, zi_595n, zi_595r, zi_59, zi_596n, zi_596r, zi_17, zi_597n, zi_597r, zi_64, zi_598n, zi_598r, zi_599n, zi_599r, zi_9, zi_600n, zi_600r, zi_601n, zi_601r, zi_42, zi_602n, zi_602r, zi_603n, zi_603r, zi_604n, zi_604r, zi_605n, zi_605r, zi_606n, zi_606r, zi_15, zi_607n, zi_607r, zi_48, zi_94, zi_23, zi_23n, zi_608n, zi_608r, zi_91, zi_41, kC_eq, toL_s, toL_n, okS0, okS1, okS2, okS3, okS4, okS5, true_and, and_true, hT_wI, hL_wI, hR_wI, hI_wI, hJ_wI, sI_wI, rfP, isIA_100, isIA_120, inb_ok, nI_clamp, nI_add, nI_mul, ↓reduceIte, not_false_eq_true, not_true_eq_false, true_or, or_true, ↓bI_01, ↓b01_0, ↓b01_1, bI_0, z00, z10, n4, n5, n2, n8, Nat.reduceMul, Nat.reduceAdd, Nat.reduceLT, Nat.reduceLeDiff, nIp, nC_wI, hN_wI, sR_wI, es, zf, n0, n1, n2, n3, n4, n5, n6, n7, n8, n9, n10, n11, n12, n13, u0, s0, u1, s1, u2, s2, u3, s3, u4, s4, u5, s5, u6, s6, u7, s7, u8, s8, u9, s9, u10, s10, u11, s11, u12, s12, t13, eW, tW]
theorem k_boats (h1 : hN h = 100) (hz : ∀ a, 100 ≤ a → hT h a = 0 ∧ hL h a = 0) (H : ZF f 100) (d : Nat) (hd : 3 ≤ d) (Q : Option Value → PH → Prop) : Run d 8 [] (wI (fo h 19) f) Q = Q (some (.ref 110)) (wI (fo h 32) f) := by
  have zf : ∀ c, 100 ≤ c → nf f c = f := fun c hc => H.nf c hc
  have U19 : nC (fo h 19) 111 6 = fo h 20 := fo_n (by decide +kernel)
  have N19 : hN (fo h 19) = 110 := fo_N h1 (by decide +kernel)
  have U20 : nC (fo h 20) 2 0 = fo h 21 := fo_n (by decide +kernel)
  have N20 : hN (fo h 20) = 111 := fo_N h1 (by decide +kernel)
  have T21_111 : hT (fo h 21) 111 = 2 := (fo_T h1 hz (by decide) (show eTL (ops.take 21) 100 111 (0, 0) = (2, 0) by decide +kernel)).1
  have U21 : sR (fo h 21) 110 0 (some 111) = fo h 22 := fo_r (by decide +kernel)
  have T21_110 : hT (fo h 21) 110 = 111 := (fo_T h1 hz (by decide) (show eTL (ops.take 21) 100 110 (0, 0) = (111, 6) by decide +kernel)).1
  have L21_110 : hL (fo h 21) 110 = 6 := (fo_T h1 hz (by decide) (show eTL (ops.take 21) 100 110 (0, 0) = (111, 6) by decide +kernel)).2
  have U22 : nC (fo h 22) 7 0 = fo h 23 := fo_n (by decide +kernel)
  have N22 : hN (fo h 22) = 112 := fo_N h1 (by decide +kernel)
  have T23_112 : hT (fo h 23) 112 = 7 := (fo_T h1 hz (by decide) (show eTL (ops.take 23) 100 112 (0, 0) = (7, 0) by decide +kernel)).1
  have U23 : sR (fo h 23) 110 1 (some 112) = fo h 24 := fo_r (by decide +kernel)
  have T23_110 : hT (fo h 23) 110 = 111 := (fo_T h1 hz (by decide) (show eTL (ops.take 23) 100 110 (0, 0) = (111, 6) by decide +kernel)).1
  have L23_110 : hL (fo h 23) 110 = 6 := (fo_T h1 hz (by decide) (show eTL (ops.take 23) 100 110 (0, 0) = (111, 6) by decide +kernel)).2
  have U24 : nC (fo h 24) 4 0 = fo h 25 := fo_n (by decide +kernel)
  have N24 : hN (fo h 24) = 113 := fo_N h1 (by decide +kernel)
  have T25_113 : hT (fo h 25) 113 = 4 := (fo_T h1 hz (by decide) (show eTL (ops.take 25) 100 113 (0, 0) = (4, 0) by decide +kernel)).1
  have U25 : sR (fo h 25) 110 2 (some 113) = fo h 26 := fo_r (by decide +kernel)
  have T25_110 : hT (fo h 25) 110 = 111 := (fo_T h1 hz (by decide) (show eTL (ops.take 25) 100 110 (0, 0) = (111, 6) by decide +kernel)).1
  have L25_110 : hL (fo h 25) 110 = 6 := (fo_T h1 hz (by decide) (show eTL (ops.take 25) 100 110 (0, 0) = (111, 6) by decide +kernel)).2
  have U26 : nC (fo h 26) 10 0 = fo h 27 := fo_n (by decide +kernel)
  have N26 : hN (fo h 26) = 114 := fo_N h1 (by decide +kernel)
  have T27_114 : hT (fo h 27) 114 = 10 := (fo_T h1 hz (by decide) (show eTL (ops.take 27) 100 114 (0, 0) = (10, 0) by decide +kernel)).1
  have U27 : sR (fo h 27) 110 3 (some 114) = fo h 28 := fo_r (by decide +kernel)
  have T27_110 : hT (fo h 27) 110 = 111 := (fo_T h1 hz (by decide) (show eTL (ops.take 27) 100 110 (0, 0) = (111, 6) by decide +kernel)).1
  have L27_110 : hL (fo h 27) 110 = 6 := (fo_T h1 hz (by decide) (show eTL (ops.take 27) 100 110 (0, 0) = (111, 6) by decide +kernel)).2
  have U28 : nC (fo h 28) 3 0 = fo h 29 := fo_n (by decide +kernel)
  have N28 : hN (fo h 28) = 115 := fo_N h1 (by decide +kernel)
  have T29_115 : hT (fo h 29) 115 = 3 := (fo_T h1 hz (by decide) (show eTL (ops.take 29) 100 115 (0, 0) = (3, 0) by decide +kernel)).1
  have U29 : sR (fo h 29) 110 4 (some 115) = fo h 30 := fo_r (by decide +kernel)
  have T29_110 : hT (fo h 29) 110 = 111 := (fo_T h1 hz (by decide) (show eTL (ops.take 29) 100 110 (0, 0) = (111, 6) by decide +kernel)).1
  have L29_110 : hL (fo h 29) 110 = 6 := (fo_T h1 hz (by decide) (show eTL (ops.take 29) 100 110 (0, 0) = (111, 6) by decide +kernel)).2
  have U30 : nC (fo h 30) 5 0 = fo h 31 := fo_n (by decide +kernel)
  have N30 : hN (fo h 30) = 116 := fo_N h1 (by decide +kernel)
  have T31_116 : hT (fo h 31) 116 = 5 := (fo_T h1 hz (by decide) (show eTL (ops.take 31) 100 116 (0, 0) = (5, 0) by decide +kernel)).1
  have U31 : sR (fo h 31) 110 5 (some 116) = fo h 32 := fo_r (by decide +kernel)
  have T31_110 : hT (fo h 31) 110 = 111 := (fo_T h1 hz (by decide) (show eTL (ops.take 31) 100 110 (0, 0) = (111, 6) by decide +kernel)).1
  have L31_110 : hL (fo h 31) 110 = 6 := (fo_T h1 hz (by decide) (show eTL (ops.take 31) 100 110 (0, 0) = (111, 6) by decide +kernel)).2
  have o2 : (111 = 110 ∧ 2 = 8 ∨ 111 = 111 ∧ 2 ≤ 2 ∧ (2 ≤ 5 ∨ 2 = 7 ∨ 2 = 10) ∨ 111 = 112 ∧ 2 = 11) = True := eq_true (by decide)
  have o7 : (111 = 110 ∧ 7 = 8 ∨ 111 = 111 ∧ 2 ≤ 7 ∧ (7 ≤ 5 ∨ 7 = 7 ∨ 7 = 10) ∨ 111 = 112 ∧ 7 = 11) = True := eq_true (by decide)
  have o4 : (111 = 110 ∧ 4 = 8 ∨ 111 = 111 ∧ 2 ≤ 4 ∧ (4 ≤ 5 ∨ 4 = 7 ∨ 4 = 10) ∨ 111 = 112 ∧ 4 = 11) = True := eq_true (by decide)
  have o10 : (111 = 110 ∧ 10 = 8 ∨ 111 = 111 ∧ 2 ≤ 10 ∧ (10 ≤ 5 ∨ 10 = 7 ∨ 10 = 10) ∨ 111 = 112 ∧ 10 = 11) = True := eq_true (by decide)
  have o3 : (111 = 110 ∧ 3 = 8 ∨ 111 = 111 ∧ 2 ≤ 3 ∧ (3 ≤ 5 ∨ 3 = 7 ∨ 3 = 10) ∨ 111 = 112 ∧ 3 = 11) = True := eq_true (by decide)
  have o5 : (111 = 110 ∧ 5 = 8 ∨ 111 = 111 ∧ 2 ≤ 5 ∧ (5 ≤ 5 ∨ 5 = 7 ∨ 5 = 10) ∨ 111 = 112 ∧ 5 = 11) = True := eq_true (by decide)
  simp -implicitDefEqProofs (disch := first | omega | (simp (disch := omega) only [nb_upr]; omega)) only [R_8, w_8_0, R_1960, w_1960_0, R_2024, w_2024_0, R_2064, w_2064_0, R_2112, w_2112_0, R_2160, w_2160_0, R_2208, w_2208_0, zi_42, zi_43, zi_44, zi_44n, zi_0, zi_0n, zi_31, zi_45, zi_3i, zi_3r, zi_46, zi_47n, zi_47r, zi_48, zi_49, zi_50, zi_51, zi_52, zi_53, zi_54, zi_55, zi_56, zi_9, zi_57, zi_58, zi_59, zi_60, zi_61, zi_62r, zi_1, zi_41, kC_eq, toL_s, toL_n, okS0, okS1, okS2, okS3, okS4, okS5, true_and, and_true, hT_wI, hL_wI, hR_wI, hI_wI, hJ_wI, sI_wI, rfP, isIA_100, isIA_120, inb_ok, nI_clamp, nI_add, nI_mul, ↓reduceIte, not_false_eq_true, not_true_eq_false, true_or, or_true, ↓bI_01, ↓b01_0, ↓b01_1, bI_0, z00, z10, n4, n5, n2, n8, Nat.reduceMul, Nat.reduceAdd, Nat.reduceLT, Nat.reduceLeDiff, nIp, nC_wI, hN_wI, sR_wI, zf, U19, N19, U20, N20, T21_111, U21, T21_110, L21_110, U22, N22, T23_112, U23, T23_110, L23_110, U24, N24, T25_113, U25, T25_110, L25_110, U26, N26, T27_114, U27, T27_110, L27_110, U28, N28, T29_115, U29, T29_110, L29_110, U30, N30, T31_116, U31, T31_110, L31_110, o2, o7, o4, o10, o3, o5]
def FW (f : Nat → Nat → Int32) : Nat → Nat → Nat → Int32
  | 0 => f
  | 1 => saF (up2 (FW f 0) 117 17 (nI 1)) 117
  | 2 => saF (up2 (FW f 1) 131 17 (nI 1)) 131
  | 3 => saF (up2 (FW f 2) 145 17 (nI 1)) 145
  | 4 => saF (up2 (FW f 3) 163 17 (nI 1)) 163
  | 5 => saF (up2 (FW f 4) 177 17 (nI 1)) 177
  | 6 => saF (up2 (FW f 5) 191 17 (nI 1)) 191
  | 7 => saF (up2 (FW f 6) 205 17 (nI 1)) 205
  | 8 => saF (up2 (FW f 7) 219 17 (nI 1)) 219
  | n + 9 => FW f n
theorem FW_z1 (H : ZF f 100) : ZF (FW f 1) 131 := (show ZF (FW f 0) 117 from H.mono (by omega)).sa
theorem FW_z2 (H : ZF f 100) : ZF (FW f 2) 145 := (show ZF (FW f 1) 131 from (FW_z1 H).mono (by omega)).sa
theorem FW_z3 (H : ZF f 100) : ZF (FW f 3) 159 := (show ZF (FW f 2) 145 from (FW_z2 H).mono (by omega)).sa
theorem FW_z4 (H : ZF f 100) : ZF (FW f 4) 177 := (show ZF (FW f 3) 163 from (FW_z3 H).mono (by omega)).sa
theorem FW_z5 (H : ZF f 100) : ZF (FW f 5) 191 := (show ZF (FW f 4) 177 from (FW_z4 H).mono (by omega)).sa
theorem FW_z6 (H : ZF f 100) : ZF (FW f 6) 205 := (show ZF (FW f 5) 191 from (FW_z5 H).mono (by omega)).sa
theorem FW_z7 (H : ZF f 100) : ZF (FW f 7) 219 := (show ZF (FW f 6) 205 from (FW_z6 H).mono (by omega)).sa
theorem FW_z8 (H : ZF f 100) : ZF (FW f 8) 233 := (show ZF (FW f 7) 219 from (FW_z7 H).mono (by omega)).sa
theorem FW_z0 (H : ZF f 100) : ZF (FW f 0) 100 := H
theorem k_search (h1 : hN h = 100) (hz : ∀ a, 100 ≤ a → hT h a = 0 ∧ hL h a = 0) (o1 : hT h 1 = 120) (p1 : hL h 1 = 3) (o2 : hT h 2 = 120) (p2 : hL h 2 = 5) (H : ZF f 100) (d : Nat) (hd : 3 ≤ d) (Q : Option Value → PH → Prop) : Run d 2257 [.ref 159, .ref 110] (wI (fo h 120) (FW f 3)) Q = Q none (wI (fo h 271) (FW f 8)) := by
  have z3 : ∀ c, 159 ≤ c → nf (FW f 3) c = FW f 3 := fun c hc => (FW_z3 H).nf c hc
  have z4 : ∀ c, 177 ≤ c → nf (FW f 4) c = FW f 4 := fun c hc => (FW_z4 H).nf c hc
  have z5 : ∀ c, 191 ≤ c → nf (FW f 5) c = FW f 5 := fun c hc => (FW_z5 H).nf c hc
  have z6 : ∀ c, 205 ≤ c → nf (FW f 6) c = FW f 6 := fun c hc => (FW_z6 H).nf c hc
  have z7 : ∀ c, 219 ≤ c → nf (FW f 7) c = FW f 7 := fun c hc => (FW_z7 H).nf c hc
  have z8 : ∀ c, 233 ≤ c → nf (FW f 8) c = FW f 8 := fun c hc => (FW_z8 H).nf c hc
  have U120 : nC (fo h 120) 112 5 = fo h 121 := fo_n (by decide +kernel)
  have N120 : hN (fo h 120) = 160 := fo_N h1 (by decide +kernel)
  have U121 : sR (fo h 121) 159 0 (some 160) = fo h 122 := fo_r (by decide +kernel)
  have T121_159 : hT (fo h 121) 159 = 6 := (fo_T h1 hz (by decide) (show eTL (ops.take 121) 100 159 (0, 0) = (6, 6) by decide +kernel)).1
  have U122 : nC (fo h 122) 100 4 = fo h 123 := fo_n (by decide +kernel)
  have N122 : hN (fo h 122) = 161 := fo_N h1 (by decide +kernel)
  have U123 : sR (fo h 123) 159 1 (some 161) = fo h 124 := fo_r (by decide +kernel)
  have T123_159 : hT (fo h 123) 159 = 6 := (fo_T h1 hz (by decide) (show eTL (ops.take 123) 100 159 (0, 0) = (6, 6) by decide +kernel)).1
  have U124 : nC (fo h 124) 100 4 = fo h 125 := fo_n (by decide +kernel)
  have N124 : hN (fo h 124) = 162 := fo_N h1 (by decide +kernel)
  have U125 : sR (fo h 125) 159 2 (some 162) = fo h 126 := fo_r (by decide +kernel)
  have T125_159 : hT (fo h 125) 159 = 6 := (fo_T h1 hz (by decide) (show eTL (ops.take 125) 100 159 (0, 0) = (6, 6) by decide +kernel)).1
  have hw3 : wW (fo h 127) 163 = fo h 154 := fo_seg (m := 27) (show (ops.drop 127).take 27 = [(0, 100, 3, 0), (1, 163, 1, 164), (0, 100, 5, 0), (1, 163, 2, 165), (0, 100, 40, 0), (1, 163, 3, 166), (0, 100, 8, 0), (1, 163, 4, 167), (0, 100, 8, 0), (1, 163, 5, 168), (0, 100, 4, 0), (1, 163, 6, 169), (0, 100, 4, 0), (1, 163, 7, 170), (0, 100, 6, 0), (1, 163, 8, 171), (0, 100, 6, 0), (1, 163, 9, 172), (0, 100, 6, 0), (1, 163, 10, 173), (0, 100, 6, 0), (1, 163, 11, 174), (0, 100, 6, 0), (1, 163, 12, 175), (0, 100, 30, 0), (1, 163, 13, 176), (1, 163, 0, 110)] by decide +kernel)
  have N126 : hN (fo h 126) = 163 := fo_N h1 (by decide +kernel)
  have N127 : hN (fo h 127) = 164 := fo_N h1 (by decide +kernel)
  have U126 : nC (fo h 126) 11 18 = fo h 127 := fo_n (by decide +kernel)
  have T127_163 : hT (fo h 127) 163 = 11 := (fo_T h1 hz (by decide) (show eTL (ops.take 127) 100 163 (0, 0) = (11, 18) by decide +kernel)).1
  have kw3 : ∀ d, 1 ≤ d → ∀ Q, Run d 1569 [.ref 163, .ref 110] (wI (fo h 127) (FW f 3)) Q = Q none (wI (fo h 154) (FW f 4)) := fun d hd Q => by
    rw [k_world (a := 163) N127 T127_163 (by decide) ((fo_lo h1 (by decide)).1.trans o1) ((fo_lo h1 (by decide)).2.trans p1) ((fo_lo h1 (by decide)).1.trans o2) ((fo_lo h1 (by decide)).2.trans p2) ((FW_z3 H).mono (by decide)) d hd Q, hw3]
    rfl
  have U154 : sR (fo h 154) 160 0 (some 163) = fo h 155 := fo_r (by decide +kernel)
  have T154_160 : hT (fo h 154) 160 = 112 := (fo_T h1 hz (by decide) (show eTL (ops.take 154) 100 160 (0, 0) = (112, 5) by decide +kernel)).1
  have L154_160 : hL (fo h 154) 160 = 5 := (fo_T h1 hz (by decide) (show eTL (ops.take 154) 100 160 (0, 0) = (112, 5) by decide +kernel)).2
  have T154_163 : hT (fo h 154) 163 = 11 := (fo_T h1 hz (by decide) (show eTL (ops.take 154) 100 163 (0, 0) = (11, 18) by decide +kernel)).1
  have hw4 : wW (fo h 156) 177 = fo h 183 := fo_seg (m := 27) (show (ops.drop 156).take 27 = [(0, 100, 3, 0), (1, 177, 1, 178), (0, 100, 5, 0), (1, 177, 2, 179), (0, 100, 40, 0), (1, 177, 3, 180), (0, 100, 8, 0), (1, 177, 4, 181), (0, 100, 8, 0), (1, 177, 5, 182), (0, 100, 4, 0), (1, 177, 6, 183), (0, 100, 4, 0), (1, 177, 7, 184), (0, 100, 6, 0), (1, 177, 8, 185), (0, 100, 6, 0), (1, 177, 9, 186), (0, 100, 6, 0), (1, 177, 10, 187), (0, 100, 6, 0), (1, 177, 11, 188), (0, 100, 6, 0), (1, 177, 12, 189), (0, 100, 30, 0), (1, 177, 13, 190), (1, 177, 0, 110)] by decide +kernel)
  have N155 : hN (fo h 155) = 177 := fo_N h1 (by decide +kernel)
  have N156 : hN (fo h 156) = 178 := fo_N h1 (by decide +kernel)
  have U155 : nC (fo h 155) 11 18 = fo h 156 := fo_n (by decide +kernel)
  have T156_177 : hT (fo h 156) 177 = 11 := (fo_T h1 hz (by decide) (show eTL (ops.take 156) 100 177 (0, 0) = (11, 18) by decide +kernel)).1
  have kw4 : ∀ d, 1 ≤ d → ∀ Q, Run d 1569 [.ref 177, .ref 110] (wI (fo h 156) (FW f 4)) Q = Q none (wI (fo h 183) (FW f 5)) := fun d hd Q => by
    rw [k_world (a := 177) N156 T156_177 (by decide) ((fo_lo h1 (by decide)).1.trans o1) ((fo_lo h1 (by decide)).2.trans p1) ((fo_lo h1 (by decide)).1.trans o2) ((fo_lo h1 (by decide)).2.trans p2) ((FW_z4 H).mono (by decide)) d hd Q, hw4]
    rfl
  have U183 : sR (fo h 183) 160 1 (some 177) = fo h 184 := fo_r (by decide +kernel)
  have T183_160 : hT (fo h 183) 160 = 112 := (fo_T h1 hz (by decide) (show eTL (ops.take 183) 100 160 (0, 0) = (112, 5) by decide +kernel)).1
  have L183_160 : hL (fo h 183) 160 = 5 := (fo_T h1 hz (by decide) (show eTL (ops.take 183) 100 160 (0, 0) = (112, 5) by decide +kernel)).2
  have T183_177 : hT (fo h 183) 177 = 11 := (fo_T h1 hz (by decide) (show eTL (ops.take 183) 100 177 (0, 0) = (11, 18) by decide +kernel)).1
  have hw5 : wW (fo h 185) 191 = fo h 212 := fo_seg (m := 27) (show (ops.drop 185).take 27 = [(0, 100, 3, 0), (1, 191, 1, 192), (0, 100, 5, 0), (1, 191, 2, 193), (0, 100, 40, 0), (1, 191, 3, 194), (0, 100, 8, 0), (1, 191, 4, 195), (0, 100, 8, 0), (1, 191, 5, 196), (0, 100, 4, 0), (1, 191, 6, 197), (0, 100, 4, 0), (1, 191, 7, 198), (0, 100, 6, 0), (1, 191, 8, 199), (0, 100, 6, 0), (1, 191, 9, 200), (0, 100, 6, 0), (1, 191, 10, 201), (0, 100, 6, 0), (1, 191, 11, 202), (0, 100, 6, 0), (1, 191, 12, 203), (0, 100, 30, 0), (1, 191, 13, 204), (1, 191, 0, 110)] by decide +kernel)
  have N184 : hN (fo h 184) = 191 := fo_N h1 (by decide +kernel)
  have N185 : hN (fo h 185) = 192 := fo_N h1 (by decide +kernel)
  have U184 : nC (fo h 184) 11 18 = fo h 185 := fo_n (by decide +kernel)
  have T185_191 : hT (fo h 185) 191 = 11 := (fo_T h1 hz (by decide) (show eTL (ops.take 185) 100 191 (0, 0) = (11, 18) by decide +kernel)).1
  have kw5 : ∀ d, 1 ≤ d → ∀ Q, Run d 1569 [.ref 191, .ref 110] (wI (fo h 185) (FW f 5)) Q = Q none (wI (fo h 212) (FW f 6)) := fun d hd Q => by
    rw [k_world (a := 191) N185 T185_191 (by decide) ((fo_lo h1 (by decide)).1.trans o1) ((fo_lo h1 (by decide)).2.trans p1) ((fo_lo h1 (by decide)).1.trans o2) ((fo_lo h1 (by decide)).2.trans p2) ((FW_z5 H).mono (by decide)) d hd Q, hw5]
    rfl
  have U212 : sR (fo h 212) 160 2 (some 191) = fo h 213 := fo_r (by decide +kernel)
  have T212_160 : hT (fo h 212) 160 = 112 := (fo_T h1 hz (by decide) (show eTL (ops.take 212) 100 160 (0, 0) = (112, 5) by decide +kernel)).1
  have L212_160 : hL (fo h 212) 160 = 5 := (fo_T h1 hz (by decide) (show eTL (ops.take 212) 100 160 (0, 0) = (112, 5) by decide +kernel)).2
  have T212_191 : hT (fo h 212) 191 = 11 := (fo_T h1 hz (by decide) (show eTL (ops.take 212) 100 191 (0, 0) = (11, 18) by decide +kernel)).1
  have hw6 : wW (fo h 214) 205 = fo h 241 := fo_seg (m := 27) (show (ops.drop 214).take 27 = [(0, 100, 3, 0), (1, 205, 1, 206), (0, 100, 5, 0), (1, 205, 2, 207), (0, 100, 40, 0), (1, 205, 3, 208), (0, 100, 8, 0), (1, 205, 4, 209), (0, 100, 8, 0), (1, 205, 5, 210), (0, 100, 4, 0), (1, 205, 6, 211), (0, 100, 4, 0), (1, 205, 7, 212), (0, 100, 6, 0), (1, 205, 8, 213), (0, 100, 6, 0), (1, 205, 9, 214), (0, 100, 6, 0), (1, 205, 10, 215), (0, 100, 6, 0), (1, 205, 11, 216), (0, 100, 6, 0), (1, 205, 12, 217), (0, 100, 30, 0), (1, 205, 13, 218), (1, 205, 0, 110)] by decide +kernel)
  have N213 : hN (fo h 213) = 205 := fo_N h1 (by decide +kernel)
  have N214 : hN (fo h 214) = 206 := fo_N h1 (by decide +kernel)
  have U213 : nC (fo h 213) 11 18 = fo h 214 := fo_n (by decide +kernel)
  have T214_205 : hT (fo h 214) 205 = 11 := (fo_T h1 hz (by decide) (show eTL (ops.take 214) 100 205 (0, 0) = (11, 18) by decide +kernel)).1
  have kw6 : ∀ d, 1 ≤ d → ∀ Q, Run d 1569 [.ref 205, .ref 110] (wI (fo h 214) (FW f 6)) Q = Q none (wI (fo h 241) (FW f 7)) := fun d hd Q => by
    rw [k_world (a := 205) N214 T214_205 (by decide) ((fo_lo h1 (by decide)).1.trans o1) ((fo_lo h1 (by decide)).2.trans p1) ((fo_lo h1 (by decide)).1.trans o2) ((fo_lo h1 (by decide)).2.trans p2) ((FW_z6 H).mono (by decide)) d hd Q, hw6]
    rfl
  have U241 : sR (fo h 241) 160 3 (some 205) = fo h 242 := fo_r (by decide +kernel)
  have T241_160 : hT (fo h 241) 160 = 112 := (fo_T h1 hz (by decide) (show eTL (ops.take 241) 100 160 (0, 0) = (112, 5) by decide +kernel)).1
  have L241_160 : hL (fo h 241) 160 = 5 := (fo_T h1 hz (by decide) (show eTL (ops.take 241) 100 160 (0, 0) = (112, 5) by decide +kernel)).2
  have T241_205 : hT (fo h 241) 205 = 11 := (fo_T h1 hz (by decide) (show eTL (ops.take 241) 100 205 (0, 0) = (11, 18) by decide +kernel)).1
  have hw7 : wW (fo h 243) 219 = fo h 270 := fo_seg (m := 27) (show (ops.drop 243).take 27 = [(0, 100, 3, 0), (1, 219, 1, 220), (0, 100, 5, 0), (1, 219, 2, 221), (0, 100, 40, 0), (1, 219, 3, 222), (0, 100, 8, 0), (1, 219, 4, 223), (0, 100, 8, 0), (1, 219, 5, 224), (0, 100, 4, 0), (1, 219, 6, 225), (0, 100, 4, 0), (1, 219, 7, 226), (0, 100, 6, 0), (1, 219, 8, 227), (0, 100, 6, 0), (1, 219, 9, 228), (0, 100, 6, 0), (1, 219, 10, 229), (0, 100, 6, 0), (1, 219, 11, 230), (0, 100, 6, 0), (1, 219, 12, 231), (0, 100, 30, 0), (1, 219, 13, 232), (1, 219, 0, 110)] by decide +kernel)
  have N242 : hN (fo h 242) = 219 := fo_N h1 (by decide +kernel)
  have N243 : hN (fo h 243) = 220 := fo_N h1 (by decide +kernel)
  have U242 : nC (fo h 242) 11 18 = fo h 243 := fo_n (by decide +kernel)
  have T243_219 : hT (fo h 243) 219 = 11 := (fo_T h1 hz (by decide) (show eTL (ops.take 243) 100 219 (0, 0) = (11, 18) by decide +kernel)).1
  have kw7 : ∀ d, 1 ≤ d → ∀ Q, Run d 1569 [.ref 219, .ref 110] (wI (fo h 243) (FW f 7)) Q = Q none (wI (fo h 270) (FW f 8)) := fun d hd Q => by
    rw [k_world (a := 219) N243 T243_219 (by decide) ((fo_lo h1 (by decide)).1.trans o1) ((fo_lo h1 (by decide)).2.trans p1) ((fo_lo h1 (by decide)).1.trans o2) ((fo_lo h1 (by decide)).2.trans p2) ((FW_z7 H).mono (by decide)) d hd Q, hw7]
    rfl
  have U270 : sR (fo h 270) 160 4 (some 219) = fo h 271 := fo_r (by decide +kernel)
  have T270_160 : hT (fo h 270) 160 = 112 := (fo_T h1 hz (by decide) (show eTL (ops.take 270) 100 160 (0, 0) = (112, 5) by decide +kernel)).1
  have L270_160 : hL (fo h 270) 160 = 5 := (fo_T h1 hz (by decide) (show eTL (ops.take 270) 100 160 (0, 0) = (112, 5) by decide +kernel)).2
  have T270_219 : hT (fo h 270) 219 = 11 := (fo_T h1 hz (by decide) (show eTL (ops.take 270) 100 219 (0, 0) = (11, 18) by decide +kernel)).1
  have T126_159 : hT (fo h 126) 159 = 6 := (fo_T h1 hz (by decide) (show eTL (ops.take 126) 100 159 (0, 0) = (6, 6) by decide +kernel)).1
  have T126_160 : hT (fo h 126) 160 = 112 := (fo_T h1 hz (by decide) (show eTL (ops.take 126) 100 160 (0, 0) = (112, 5) by decide +kernel)).1
  have L126_160 : hL (fo h 126) 160 = 5 := (fo_T h1 hz (by decide) (show eTL (ops.take 126) 100 160 (0, 0) = (112, 5) by decide +kernel)).2
  have R126 : hR (fo h 126) 159 0 = some 160 := by
    have e := eRL_ok 159 0 (ops.take 126) h
    rw [h1] at e
    exact e.trans (eRL_any (by decide +kernel) _)
  have T155_159 : hT (fo h 155) 159 = 6 := (fo_T h1 hz (by decide) (show eTL (ops.take 155) 100 159 (0, 0) = (6, 6) by decide +kernel)).1
  have T155_160 : hT (fo h 155) 160 = 112 := (fo_T h1 hz (by decide) (show eTL (ops.take 155) 100 160 (0, 0) = (112, 5) by decide +kernel)).1
  have L155_160 : hL (fo h 155) 160 = 5 := (fo_T h1 hz (by decide) (show eTL (ops.take 155) 100 160 (0, 0) = (112, 5) by decide +kernel)).2
  have R155 : hR (fo h 155) 159 0 = some 160 := by
    have e := eRL_ok 159 0 (ops.take 155) h
    rw [h1] at e
    exact e.trans (eRL_any (by decide +kernel) _)
  have T184_159 : hT (fo h 184) 159 = 6 := (fo_T h1 hz (by decide) (show eTL (ops.take 184) 100 159 (0, 0) = (6, 6) by decide +kernel)).1
  have T184_160 : hT (fo h 184) 160 = 112 := (fo_T h1 hz (by decide) (show eTL (ops.take 184) 100 160 (0, 0) = (112, 5) by decide +kernel)).1
  have L184_160 : hL (fo h 184) 160 = 5 := (fo_T h1 hz (by decide) (show eTL (ops.take 184) 100 160 (0, 0) = (112, 5) by decide +kernel)).2
  have R184 : hR (fo h 184) 159 0 = some 160 := by
    have e := eRL_ok 159 0 (ops.take 184) h
    rw [h1] at e
    exact e.trans (eRL_any (by decide +kernel) _)
  have T213_159 : hT (fo h 213) 159 = 6 := (fo_T h1 hz (by decide) (show eTL (ops.take 213) 100 159 (0, 0) = (6, 6) by decide +kernel)).1
  have T213_160 : hT (fo h 213) 160 = 112 := (fo_T h1 hz (by decide) (show eTL (ops.take 213) 100 160 (0, 0) = (112, 5) by decide +kernel)).1
  have L213_160 : hL (fo h 213) 160 = 5 := (fo_T h1 hz (by decide) (show eTL (ops.take 213) 100 160 (0, 0) = (112, 5) by decide +kernel)).2
  have R213 : hR (fo h 213) 159 0 = some 160 := by
    have e := eRL_ok 159 0 (ops.take 213) h
    rw [h1] at e
    exact e.trans (eRL_any (by decide +kernel) _)
  have T242_159 : hT (fo h 242) 159 = 6 := (fo_T h1 hz (by decide) (show eTL (ops.take 242) 100 159 (0, 0) = (6, 6) by decide +kernel)).1
  have T242_160 : hT (fo h 242) 160 = 112 := (fo_T h1 hz (by decide) (show eTL (ops.take 242) 100 160 (0, 0) = (112, 5) by decide +kernel)).1
  have L242_160 : hL (fo h 242) 160 = 5 := (fo_T h1 hz (by decide) (show eTL (ops.take 242) 100 160 (0, 0) = (112, 5) by decide +kernel)).2
  have R242 : hR (fo h 242) 159 0 = some 160 := by
    have e := eRL_ok 159 0 (ops.take 242) h
    rw [h1] at e
    exact e.trans (eRL_any (by decide +kernel) _)
  have T271_159 : hT (fo h 271) 159 = 6 := (fo_T h1 hz (by decide) (show eTL (ops.take 271) 100 159 (0, 0) = (6, 6) by decide +kernel)).1
  have T271_160 : hT (fo h 271) 160 = 112 := (fo_T h1 hz (by decide) (show eTL (ops.take 271) 100 160 (0, 0) = (112, 5) by decide +kernel)).1
  have L271_160 : hL (fo h 271) 160 = 5 := (fo_T h1 hz (by decide) (show eTL (ops.take 271) 100 160 (0, 0) = (112, 5) by decide +kernel)).2
  have R271 : hR (fo h 271) 159 0 = some 160 := by
    have e := eRL_ok 159 0 (ops.take 271) h
    rw [h1] at e
    exact e.trans (eRL_any (by decide +kernel) _)
  have oW : (112 = 110 ∧ 11 = 8 ∨ 112 = 111 ∧ 2 ≤ 11 ∧ (11 ≤ 5 ∨ 11 = 7 ∨ 11 = 10) ∨ 112 = 112 ∧ 11 = 11) = True := eq_true (by decide)
  simp -implicitDefEqProofs (disch := first | omega | (simp (disch := omega) only [nb_upr]; omega)) only [R_2257, w_2257_0, w_2257_1, w_2257_2, zi_0, zi_0n, zi_1, zi_59, zi_698, zi_699n, zi_699r, zi_9, zi_12, zi_700n, zi_700r, zi_701n, zi_701r, zi_31, zi_32i, zi_32r, zi_32u, zi_32a, zi_33, zi_34, zi_182, zi_173, zi_35, zi_22, zi_3i, zi_3r, zi_23, zi_23n, zi_24, zi_47n, zi_47r, zi_39i, zi_39r, zi_39u, zi_39a, zi_40, zi_41, kC_eq, toL_s, toL_n, okS0, okS1, okS2, okS3, okS4, okS5, true_and, and_true, hT_wI, hL_wI, hR_wI, hI_wI, hJ_wI, sI_wI, rfP, isIA_100, isIA_120, inb_ok, nI_clamp, nI_add, nI_mul, ↓reduceIte, not_false_eq_true, not_true_eq_false, true_or, or_true, ↓bI_01, ↓b01_0, ↓b01_1, bI_0, z00, z10, n4, n5, n2, n8, Nat.reduceMul, Nat.reduceAdd, Nat.reduceLT, Nat.reduceLeDiff, nI_eq, nI_leI, nI_ltI, Nat.reduceEqDiff, pk_div, nI_sub, Nat.reduceDiv, Nat.reduceSub, Nat.le_refl, nIp, nC_wI, hN_wI, sR_wI, oW, z3, z4, z5, z6, z7, z8, U120, N120, U121, T121_159, U122, N122, U123, T123_159, U124, N124, U125, T125_159, N126, U126, T127_163, kw3, U154, T154_160, L154_160, T154_163, N155, U155, T156_177, kw4, U183, T183_160, L183_160, T183_177, N184, U184, T185_191, kw5, U212, T212_160, L212_160, T212_191, N213, U213, T214_205, kw6, U241, T241_160, L241_160, T241_205, N242, U242, T243_219, kw7, U270, T270_160, L270_160, T270_219, T126_159, T126_160, L126_160, R126, T155_159, T155_160, L155_160, R155, T184_159, T184_160, L184_160, R184, T213_159, T213_160, L213_160, R213, T242_159, T242_160, L242_160, R242, T271_159, T271_160, L271_160, R271]
theorem k_init (h1 : hN h = 100) (hz : ∀ a, 100 ≤ a → hT h a = 0 ∧ hL h a = 0) (o1 : hT h 1 = 120) (p1 : hL h 1 = 3) (o2 : hT h 2 = 120) (p2 : hL h 2 = 5) (H : ZF f 100) (d : Nat) (hd : 5 ≤ d) (Q : Option Value → PH → Prop) : Run d 0 [.ref 100] (wI (fo h 1) f) Q = Q none (wI (fo h 272) (up2 (up2 (up2 (up2 (FW f 8) 106 0 (Int32.ofInt (-1))) 106 1 (Int32.ofInt (-1))) 106 2 (Int32.ofInt (-1))) 106 3 (Int32.ofInt (-1)))) := by
  have zf : ∀ c, 100 ≤ c → nf f c = f := fun c hc => H.nf c hc
  have z1 : ∀ c, 131 ≤ c → nf (FW f 1) c = FW f 1 := fun c hc => (FW_z1 H).nf c hc
  have z2 : ∀ c, 145 ≤ c → nf (FW f 2) c = FW f 2 := fun c hc => (FW_z2 H).nf c hc
  have z3 : ∀ c, 159 ≤ c → nf (FW f 3) c = FW f 3 := fun c hc => (FW_z3 H).nf c hc
  have U1 : nC (fo h 1) 9 6 = fo h 2 := fo_n (by decide +kernel)
  have N1 : hN (fo h 1) = 101 := fo_N h1 (by decide +kernel)
  have U2 : nC (fo h 2) 100 200 = fo h 3 := fo_n (by decide +kernel)
  have N2 : hN (fo h 2) = 102 := fo_N h1 (by decide +kernel)
  have U3 : sR (fo h 3) 101 0 (some 102) = fo h 4 := fo_r (by decide +kernel)
  have T3_101 : hT (fo h 3) 101 = 9 := (fo_T h1 hz (by decide) (show eTL (ops.take 3) 100 101 (0, 0) = (9, 6) by decide +kernel)).1
  have U4 : sR (fo h 4) 100 4 (some 101) = fo h 5 := fo_r (by decide +kernel)
  have T4_100 : hT (fo h 4) 100 = 12 := (fo_T h1 hz (by decide) (show eTL (ops.take 4) 100 100 (0, 0) = (12, 13) by decide +kernel)).1
  have U5 : nC (fo h 5) 1 5 = fo h 6 := fo_n (by decide +kernel)
  have N5 : hN (fo h 5) = 103 := fo_N h1 (by decide +kernel)
  have U6 : nC (fo h 6) 100 30 = fo h 7 := fo_n (by decide +kernel)
  have N6 : hN (fo h 6) = 104 := fo_N h1 (by decide +kernel)
  have U7 : sR (fo h 7) 103 0 (some 104) = fo h 8 := fo_r (by decide +kernel)
  have T7_103 : hT (fo h 7) 103 = 1 := (fo_T h1 hz (by decide) (show eTL (ops.take 7) 100 103 (0, 0) = (1, 5) by decide +kernel)).1
  have U8 : sR (fo h 8) 100 5 (some 103) = fo h 9 := fo_r (by decide +kernel)
  have T8_100 : hT (fo h 8) 100 = 12 := (fo_T h1 hz (by decide) (show eTL (ops.take 8) 100 100 (0, 0) = (12, 13) by decide +kernel)).1
  have U9 : nC (fo h 9) 110 4 = fo h 10 := fo_n (by decide +kernel)
  have N9 : hN (fo h 9) = 105 := fo_N h1 (by decide +kernel)
  have U10 : sR (fo h 10) 100 6 (some 105) = fo h 11 := fo_r (by decide +kernel)
  have T10_100 : hT (fo h 10) 100 = 12 := (fo_T h1 hz (by decide) (show eTL (ops.take 10) 100 100 (0, 0) = (12, 13) by decide +kernel)).1
  have U11 : nC (fo h 11) 100 4 = fo h 12 := fo_n (by decide +kernel)
  have N11 : hN (fo h 11) = 106 := fo_N h1 (by decide +kernel)
  have U12 : sR (fo h 12) 100 7 (some 106) = fo h 13 := fo_r (by decide +kernel)
  have T12_100 : hT (fo h 12) 100 = 12 := (fo_T h1 hz (by decide) (show eTL (ops.take 12) 100 100 (0, 0) = (12, 13) by decide +kernel)).1
  have U13 : nC (fo h 13) 110 4 = fo h 14 := fo_n (by decide +kernel)
  have N13 : hN (fo h 13) = 107 := fo_N h1 (by decide +kernel)
  have U14 : sR (fo h 14) 100 8 (some 107) = fo h 15 := fo_r (by decide +kernel)
  have T14_100 : hT (fo h 14) 100 = 12 := (fo_T h1 hz (by decide) (show eTL (ops.take 14) 100 100 (0, 0) = (12, 13) by decide +kernel)).1
  have U15 : nC (fo h 15) 100 30 = fo h 16 := fo_n (by decide +kernel)
  have N15 : hN (fo h 15) = 108 := fo_N h1 (by decide +kernel)
  have U16 : sR (fo h 16) 100 9 (some 108) = fo h 17 := fo_r (by decide +kernel)
  have T16_100 : hT (fo h 16) 100 = 12 := (fo_T h1 hz (by decide) (show eTL (ops.take 16) 100 100 (0, 0) = (12, 13) by decide +kernel)).1
  have U17 : nC (fo h 17) 101 40 = fo h 18 := fo_n (by decide +kernel)
  have N17 : hN (fo h 17) = 109 := fo_N h1 (by decide +kernel)
  have U18 : sR (fo h 18) 100 10 (some 109) = fo h 19 := fo_r (by decide +kernel)
  have T18_100 : hT (fo h 18) 100 = 12 := (fo_T h1 hz (by decide) (show eTL (ops.take 18) 100 100 (0, 0) = (12, 13) by decide +kernel)).1
  have T1_100 : hT (fo h 1) 100 = 12 := (fo_T h1 hz (by decide) (show eTL (ops.take 1) 100 100 (0, 0) = (12, 13) by decide +kernel)).1
  have T2_101 : hT (fo h 2) 101 = 9 := (fo_T h1 hz (by decide) (show eTL (ops.take 2) 100 101 (0, 0) = (9, 6) by decide +kernel)).1
  have T6_103 : hT (fo h 6) 103 = 1 := (fo_T h1 hz (by decide) (show eTL (ops.take 6) 100 103 (0, 0) = (1, 5) by decide +kernel)).1
  have kb := fun d hd Q => k_boats (f := f) h1 hz H d hd Q
  have F0 : FW f 0 = f := rfl
  have hw0 : wW (fo h 33) 117 = fo h 60 := fo_seg (m := 27) (show (ops.drop 33).take 27 = [(0, 100, 3, 0), (1, 117, 1, 118), (0, 100, 5, 0), (1, 117, 2, 119), (0, 100, 40, 0), (1, 117, 3, 120), (0, 100, 8, 0), (1, 117, 4, 121), (0, 100, 8, 0), (1, 117, 5, 122), (0, 100, 4, 0), (1, 117, 6, 123), (0, 100, 4, 0), (1, 117, 7, 124), (0, 100, 6, 0), (1, 117, 8, 125), (0, 100, 6, 0), (1, 117, 9, 126), (0, 100, 6, 0), (1, 117, 10, 127), (0, 100, 6, 0), (1, 117, 11, 128), (0, 100, 6, 0), (1, 117, 12, 129), (0, 100, 30, 0), (1, 117, 13, 130), (1, 117, 0, 110)] by decide +kernel)
  have N32 : hN (fo h 32) = 117 := fo_N h1 (by decide +kernel)
  have N33 : hN (fo h 33) = 118 := fo_N h1 (by decide +kernel)
  have U32 : nC (fo h 32) 11 18 = fo h 33 := fo_n (by decide +kernel)
  have T33_117 : hT (fo h 33) 117 = 11 := (fo_T h1 hz (by decide) (show eTL (ops.take 33) 100 117 (0, 0) = (11, 18) by decide +kernel)).1
  have kw0 : ∀ d, 1 ≤ d → ∀ Q, Run d 1569 [.ref 117, .ref 110] (wI (fo h 33) (FW f 0)) Q = Q none (wI (fo h 60) (FW f 1)) := fun d hd Q => by
    rw [k_world (a := 117) N33 T33_117 (by decide) ((fo_lo h1 (by decide)).1.trans o1) ((fo_lo h1 (by decide)).2.trans p1) ((fo_lo h1 (by decide)).1.trans o2) ((fo_lo h1 (by decide)).2.trans p2) ((FW_z0 H).mono (by decide)) d hd Q, hw0]
    rfl
  have U60 : sR (fo h 60) 100 0 (some 117) = fo h 61 := fo_r (by decide +kernel)
  have T60_100 : hT (fo h 60) 100 = 12 := (fo_T h1 hz (by decide) (show eTL (ops.take 60) 100 100 (0, 0) = (12, 13) by decide +kernel)).1
  have hw1 : wW (fo h 62) 131 = fo h 89 := fo_seg (m := 27) (show (ops.drop 62).take 27 = [(0, 100, 3, 0), (1, 131, 1, 132), (0, 100, 5, 0), (1, 131, 2, 133), (0, 100, 40, 0), (1, 131, 3, 134), (0, 100, 8, 0), (1, 131, 4, 135), (0, 100, 8, 0), (1, 131, 5, 136), (0, 100, 4, 0), (1, 131, 6, 137), (0, 100, 4, 0), (1, 131, 7, 138), (0, 100, 6, 0), (1, 131, 8, 139), (0, 100, 6, 0), (1, 131, 9, 140), (0, 100, 6, 0), (1, 131, 10, 141), (0, 100, 6, 0), (1, 131, 11, 142), (0, 100, 6, 0), (1, 131, 12, 143), (0, 100, 30, 0), (1, 131, 13, 144), (1, 131, 0, 110)] by decide +kernel)
  have N61 : hN (fo h 61) = 131 := fo_N h1 (by decide +kernel)
  have N62 : hN (fo h 62) = 132 := fo_N h1 (by decide +kernel)
  have U61 : nC (fo h 61) 11 18 = fo h 62 := fo_n (by decide +kernel)
  have T62_131 : hT (fo h 62) 131 = 11 := (fo_T h1 hz (by decide) (show eTL (ops.take 62) 100 131 (0, 0) = (11, 18) by decide +kernel)).1
  have kw1 : ∀ d, 1 ≤ d → ∀ Q, Run d 1569 [.ref 131, .ref 110] (wI (fo h 62) (FW f 1)) Q = Q none (wI (fo h 89) (FW f 2)) := fun d hd Q => by
    rw [k_world (a := 131) N62 T62_131 (by decide) ((fo_lo h1 (by decide)).1.trans o1) ((fo_lo h1 (by decide)).2.trans p1) ((fo_lo h1 (by decide)).1.trans o2) ((fo_lo h1 (by decide)).2.trans p2) ((FW_z1 H).mono (by decide)) d hd Q, hw1]
    rfl
  have U89 : sR (fo h 89) 100 1 (some 131) = fo h 90 := fo_r (by decide +kernel)
  have T89_100 : hT (fo h 89) 100 = 12 := (fo_T h1 hz (by decide) (show eTL (ops.take 89) 100 100 (0, 0) = (12, 13) by decide +kernel)).1
  have hw2 : wW (fo h 91) 145 = fo h 118 := fo_seg (m := 27) (show (ops.drop 91).take 27 = [(0, 100, 3, 0), (1, 145, 1, 146), (0, 100, 5, 0), (1, 145, 2, 147), (0, 100, 40, 0), (1, 145, 3, 148), (0, 100, 8, 0), (1, 145, 4, 149), (0, 100, 8, 0), (1, 145, 5, 150), (0, 100, 4, 0), (1, 145, 6, 151), (0, 100, 4, 0), (1, 145, 7, 152), (0, 100, 6, 0), (1, 145, 8, 153), (0, 100, 6, 0), (1, 145, 9, 154), (0, 100, 6, 0), (1, 145, 10, 155), (0, 100, 6, 0), (1, 145, 11, 156), (0, 100, 6, 0), (1, 145, 12, 157), (0, 100, 30, 0), (1, 145, 13, 158), (1, 145, 0, 110)] by decide +kernel)
  have N90 : hN (fo h 90) = 145 := fo_N h1 (by decide +kernel)
  have N91 : hN (fo h 91) = 146 := fo_N h1 (by decide +kernel)
  have U90 : nC (fo h 90) 11 18 = fo h 91 := fo_n (by decide +kernel)
  have T91_145 : hT (fo h 91) 145 = 11 := (fo_T h1 hz (by decide) (show eTL (ops.take 91) 100 145 (0, 0) = (11, 18) by decide +kernel)).1
  have kw2 : ∀ d, 1 ≤ d → ∀ Q, Run d 1569 [.ref 145, .ref 110] (wI (fo h 91) (FW f 2)) Q = Q none (wI (fo h 118) (FW f 3)) := fun d hd Q => by
    rw [k_world (a := 145) N91 T91_145 (by decide) ((fo_lo h1 (by decide)).1.trans o1) ((fo_lo h1 (by decide)).2.trans p1) ((fo_lo h1 (by decide)).1.trans o2) ((fo_lo h1 (by decide)).2.trans p2) ((FW_z2 H).mono (by decide)) d hd Q, hw2]
    rfl
  have U118 : sR (fo h 118) 100 2 (some 145) = fo h 119 := fo_r (by decide +kernel)
  have T118_100 : hT (fo h 118) 100 = 12 := (fo_T h1 hz (by decide) (show eTL (ops.take 118) 100 100 (0, 0) = (12, 13) by decide +kernel)).1
  rw [F0] at kw0
  have N119 : hN (fo h 119) = 159 := fo_N h1 (by decide +kernel)
  have U119 : nC (fo h 119) 6 6 = fo h 120 := fo_n (by decide +kernel)
  have T120_159 : hT (fo h 120) 159 = 6 := (fo_T h1 hz (by decide) (show eTL (ops.take 120) 100 159 (0, 0) = (6, 6) by decide +kernel)).1
  have ks := fun d hd Q => k_search (f := f) h1 hz o1 p1 o2 p2 H d hd Q
  have U271 : sR (fo h 271) 100 3 (some 159) = fo h 272 := fo_r (by decide +kernel)
  have T271_100 : hT (fo h 271) 100 = 12 := (fo_T h1 hz (by decide) (show eTL (ops.take 271) 100 100 (0, 0) = (12, 13) by decide +kernel)).1
  have T272_100 : hT (fo h 272) 100 = 12 := (fo_T h1 hz (by decide) (show eTL (ops.take 272) 100 100 (0, 0) = (12, 13) by decide +kernel)).1
  have T272_106 : hT (fo h 272) 106 = 100 := (fo_T h1 hz (by decide) (show eTL (ops.take 272) 100 106 (0, 0) = (100, 4) by decide +kernel)).1
  have L272_106 : hL (fo h 272) 106 = 4 := (fo_T h1 hz (by decide) (show eTL (ops.take 272) 100 106 (0, 0) = (100, 4) by decide +kernel)).2
  have R272 : hR (fo h 272) 100 7 = some 106 := by
    have e := eRL_ok 100 7 (ops.take 272) h
    rw [h1] at e
    exact e.trans (eRL_any (by decide +kernel) _)
  simp -implicitDefEqProofs (disch := first | omega | (simp (disch := omega) only [nb_upr]; omega)) only [R_0, w_0_0, w_0_1, w_0_2, R_1760, w_1760_0, R_1920, w_1920_0, zi_0, zi_0n, zi_1, zi_2, zi_3i, zi_3r, zi_4, zi_5n, zi_5r, zi_6, zi_7, zi_8n, zi_8r, zi_9, zi_10, zi_11n, zi_11r, zi_12, zi_13n, zi_13r, zi_14n, zi_14r, zi_15, zi_16n, zi_16r, zi_17, zi_18, zi_19n, zi_19r, zi_20, zi_21i, zi_21r, zi_21u, zi_21a, zi_21ni, zi_21nr, zi_21nu, zi_21na, zi_22, zi_23, zi_23n, zi_24, zi_25n, zi_25r, zi_26n, zi_26r, zi_27n, zi_27r, zi_28, zi_29, zi_30n, zi_30r, zi_31, zi_32i, zi_32r, zi_32u, zi_32a, zi_33, zi_34, zi_35, zi_36, zi_37, zi_38, zi_39i, zi_39r, zi_39u, zi_39a, zi_40, zi_41, zi_71, zi_623n, zi_623r, zi_672n, zi_672r, kC_eq, toL_s, toL_n, okS0, okS1, okS2, okS3, okS4, okS5, true_and, and_true, hT_wI, hL_wI, hR_wI, hI_wI, hJ_wI, sI_wI, rfP, isIA_100, isIA_120, inb_ok, nI_clamp, nI_add, nI_mul, ↓reduceIte, not_false_eq_true, not_true_eq_false, true_or, or_true, ↓bI_01, ↓b01_0, ↓b01_1, bI_0, z00, z10, n4, n5, n2, n8, Nat.reduceMul, Nat.reduceAdd, Nat.reduceLT, Nat.reduceLeDiff, nI_eq, nI_leI, nI_ltI, Nat.reduceEqDiff, pk_div, nI_sub, Nat.reduceDiv, Nat.reduceSub, Nat.le_refl, nIp, nC_wI, hN_wI, sR_wI, zf, z1, z2, z3, U1, N1, U2, N2, U3, T3_101, U4, T4_100, U5, N5, U6, N6, U7, T7_103, U8, T8_100, U9, N9, U10, T10_100, U11, N11, U12, T12_100, U13, N13, U14, T14_100, U15, N15, U16, T16_100, U17, N17, U18, T18_100, T1_100, T2_101, T6_103, kb, N32, U32, T33_117, kw0, U60, T60_100, N61, U61, T62_131, kw1, U89, T89_100, N90, U90, T91_145, kw2, U118, T118_100, N119, U119, T120_159, ks, U271, T271_100, T272_100, T272_106, L272_106, R272]
theorem k_model (h1 : hN h = 100) (hz : ∀ a, 100 ≤ a → hT h a = 0 ∧ hL h a = 0) (H : ZF f 233) (d : Nat) (hd : 2 ≤ d) (Q : Option Value → PH → Prop) : Run d 584 [.ref 233] (wI (fo h 273) f) Q = Q none (wI (fo h 311) (up2 (bgF (up2 (up2 (up2 (up2 (up2 (up2 (up2 (up2 (up2 (up2 (up2 (up2 (up2 f 238 0 (nI 2)) 238 1 (nI 3)) 238 2 (nI 1)) 238 3 (nI 5)) 238 4 (nI 8)) 246 0 (Int32.ofInt (-1))) 246 1 (Int32.ofInt (-1))) 246 2 (Int32.ofInt (-1))) 246 3 (Int32.ofInt (-1))) 249 0 (Int32.ofInt (-1))) 249 1 (Int32.ofInt (-1))) 249 2 (Int32.ofInt (-1))) 249 3 (Int32.ofInt (-1))) 234) 234 6 (nI 1))) := by
  obtain ⟨fa, ha⟩ : ∃ fa, (up2 (up2 (up2 (up2 (up2 f 238 0 (nI 2)) 238 1 (nI 3)) 238 2 (nI 1)) 238 3 (nI 5)) 238 4 (nI 8)) = fa := ⟨_, rfl⟩
  obtain ⟨fb, hb⟩ : ∃ fb, (up2 (up2 (up2 (up2 fa 246 0 (Int32.ofInt (-1))) 246 1 (Int32.ofInt (-1))) 246 2 (Int32.ofInt (-1))) 246 3 (Int32.ofInt (-1))) = fb := ⟨_, rfl⟩
  obtain ⟨fc, hc⟩ : ∃ fc, (up2 (up2 (up2 (up2 fb 249 0 (Int32.ofInt (-1))) 249 1 (Int32.ofInt (-1))) 249 2 (Int32.ofInt (-1))) 249 3 (Int32.ofInt (-1))) = fc := ⟨_, rfl⟩
  have za0 : ∀ c, 233 ≤ c → nf f c = f := fun c hc => H.nf c hc
  have Za : ZF fa 239 := by
    rw [← ha]
    exact (((((H.up (a := 238) (M := 239) (by omega) (by omega)).up (M := 239) (by omega) (by omega)).up (M := 239) (by omega) (by omega)).up (M := 239) (by omega) (by omega)).up (M := 239) (by omega) (by omega))
  have Zb : ZF fb 247 := by
    rw [← hb]
    exact ((((Za.up (a := 246) (M := 247) (by omega) (by omega)).up (M := 247) (by omega) (by omega)).up (M := 247) (by omega) (by omega)).up (M := 247) (by omega) (by omega))
  have Zc : ZF fc 250 := by
    rw [← hc]
    exact ((((Zb.up (a := 249) (M := 250) (by omega) (by omega)).up (M := 250) (by omega) (by omega)).up (M := 250) (by omega) (by omega)).up (M := 250) (by omega) (by omega))
  have za : ∀ c, 239 ≤ c → nf fa c = fa := fun c hc => Za.nf c hc
  have zb : ∀ c, 247 ≤ c → nf fb c = fb := fun c hc => Zb.nf c hc
  have zc : ∀ c, 250 ≤ c → nf fc c = fc := fun c hc => Zc.nf c hc
  rw [ha, hb, hc]
  have T273_233 : hT (fo h 273) 233 = 13 := (fo_T h1 hz (by decide) (show eTL (ops.take 273) 100 233 (0, 0) = (13, 36) by decide +kernel)).1
  have U273 : nC (fo h 273) 100 136 = fo h 274 := fo_n (by decide +kernel)
  have N273 : hN (fo h 273) = 234 := fo_N h1 (by decide +kernel)
  have U274 : sR (fo h 274) 233 0 (some 234) = fo h 275 := fo_r (by decide +kernel)
  have T274_233 : hT (fo h 274) 233 = 13 := (fo_T h1 hz (by decide) (show eTL (ops.take 274) 100 233 (0, 0) = (13, 36) by decide +kernel)).1
  have U275 : nC (fo h 275) 100 136 = fo h 276 := fo_n (by decide +kernel)
  have N275 : hN (fo h 275) = 235 := fo_N h1 (by decide +kernel)
  have U276 : sR (fo h 276) 233 1 (some 235) = fo h 277 := fo_r (by decide +kernel)
  have T276_233 : hT (fo h 276) 233 = 13 := (fo_T h1 hz (by decide) (show eTL (ops.take 276) 100 233 (0, 0) = (13, 36) by decide +kernel)).1
  have U277 : nC (fo h 277) 100 136 = fo h 278 := fo_n (by decide +kernel)
  have N277 : hN (fo h 277) = 236 := fo_N h1 (by decide +kernel)
  have U278 : sR (fo h 278) 233 2 (some 236) = fo h 279 := fo_r (by decide +kernel)
  have T278_233 : hT (fo h 278) 233 = 13 := (fo_T h1 hz (by decide) (show eTL (ops.take 278) 100 233 (0, 0) = (13, 36) by decide +kernel)).1
  have U279 : nC (fo h 279) 100 136 = fo h 280 := fo_n (by decide +kernel)
  have N279 : hN (fo h 279) = 237 := fo_N h1 (by decide +kernel)
  have U280 : sR (fo h 280) 233 3 (some 237) = fo h 281 := fo_r (by decide +kernel)
  have T280_233 : hT (fo h 280) 233 = 13 := (fo_T h1 hz (by decide) (show eTL (ops.take 280) 100 233 (0, 0) = (13, 36) by decide +kernel)).1
  have U281 : nC (fo h 281) 100 5 = fo h 282 := fo_n (by decide +kernel)
  have N281 : hN (fo h 281) = 238 := fo_N h1 (by decide +kernel)
  have T282_238 : hT (fo h 282) 238 = 100 := (fo_T h1 hz (by decide) (show eTL (ops.take 282) 100 238 (0, 0) = (100, 5) by decide +kernel)).1
  have L282_238 : hL (fo h 282) 238 = 5 := (fo_T h1 hz (by decide) (show eTL (ops.take 282) 100 238 (0, 0) = (100, 5) by decide +kernel)).2
  have U282 : sR (fo h 282) 233 4 (some 238) = fo h 283 := fo_r (by decide +kernel)
  have T282_233 : hT (fo h 282) 233 = 13 := (fo_T h1 hz (by decide) (show eTL (ops.take 282) 100 233 (0, 0) = (13, 36) by decide +kernel)).1
  have U283 : nC (fo h 283) 100 200 = fo h 284 := fo_n (by decide +kernel)
  have N283 : hN (fo h 283) = 239 := fo_N h1 (by decide +kernel)
  have U284 : sR (fo h 284) 233 6 (some 239) = fo h 285 := fo_r (by decide +kernel)
  have T284_233 : hT (fo h 284) 233 = 13 := (fo_T h1 hz (by decide) (show eTL (ops.take 284) 100 233 (0, 0) = (13, 36) by decide +kernel)).1
  have U285 : nC (fo h 285) 100 8 = fo h 286 := fo_n (by decide +kernel)
  have N285 : hN (fo h 285) = 240 := fo_N h1 (by decide +kernel)
  have U286 : sR (fo h 286) 233 16 (some 240) = fo h 287 := fo_r (by decide +kernel)
  have T286_233 : hT (fo h 286) 233 = 13 := (fo_T h1 hz (by decide) (show eTL (ops.take 286) 100 233 (0, 0) = (13, 36) by decide +kernel)).1
  have U287 : nC (fo h 287) 100 4 = fo h 288 := fo_n (by decide +kernel)
  have N287 : hN (fo h 287) = 241 := fo_N h1 (by decide +kernel)
  have U288 : sR (fo h 288) 233 17 (some 241) = fo h 289 := fo_r (by decide +kernel)
  have T288_233 : hT (fo h 288) 233 = 13 := (fo_T h1 hz (by decide) (show eTL (ops.take 288) 100 233 (0, 0) = (13, 36) by decide +kernel)).1
  have U289 : nC (fo h 289) 100 4 = fo h 290 := fo_n (by decide +kernel)
  have N289 : hN (fo h 289) = 242 := fo_N h1 (by decide +kernel)
  have U290 : sR (fo h 290) 233 18 (some 242) = fo h 291 := fo_r (by decide +kernel)
  have T290_233 : hT (fo h 290) 233 = 13 := (fo_T h1 hz (by decide) (show eTL (ops.take 290) 100 233 (0, 0) = (13, 36) by decide +kernel)).1
  have U291 : nC (fo h 291) 101 40 = fo h 292 := fo_n (by decide +kernel)
  have N291 : hN (fo h 291) = 243 := fo_N h1 (by decide +kernel)
  have U292 : sR (fo h 292) 233 20 (some 243) = fo h 293 := fo_r (by decide +kernel)
  have T292_233 : hT (fo h 292) 233 = 13 := (fo_T h1 hz (by decide) (show eTL (ops.take 292) 100 233 (0, 0) = (13, 36) by decide +kernel)).1
  have U293 : nC (fo h 293) 100 30 = fo h 294 := fo_n (by decide +kernel)
  have N293 : hN (fo h 293) = 244 := fo_N h1 (by decide +kernel)
  have U294 : sR (fo h 294) 233 21 (some 244) = fo h 295 := fo_r (by decide +kernel)
  have T294_233 : hT (fo h 294) 233 = 13 := (fo_T h1 hz (by decide) (show eTL (ops.take 294) 100 233 (0, 0) = (13, 36) by decide +kernel)).1
  have U295 : nC (fo h 295) 100 30 = fo h 296 := fo_n (by decide +kernel)
  have N295 : hN (fo h 295) = 245 := fo_N h1 (by decide +kernel)
  have U296 : sR (fo h 296) 233 22 (some 245) = fo h 297 := fo_r (by decide +kernel)
  have T296_233 : hT (fo h 296) 233 = 13 := (fo_T h1 hz (by decide) (show eTL (ops.take 296) 100 233 (0, 0) = (13, 36) by decide +kernel)).1
  have U297 : nC (fo h 297) 100 4 = fo h 298 := fo_n (by decide +kernel)
  have N297 : hN (fo h 297) = 246 := fo_N h1 (by decide +kernel)
  have T298_246 : hT (fo h 298) 246 = 100 := (fo_T h1 hz (by decide) (show eTL (ops.take 298) 100 246 (0, 0) = (100, 4) by decide +kernel)).1
  have L298_246 : hL (fo h 298) 246 = 4 := (fo_T h1 hz (by decide) (show eTL (ops.take 298) 100 246 (0, 0) = (100, 4) by decide +kernel)).2
  have U298 : sR (fo h 298) 233 24 (some 246) = fo h 299 := fo_r (by decide +kernel)
  have T298_233 : hT (fo h 298) 233 = 13 := (fo_T h1 hz (by decide) (show eTL (ops.take 298) 100 233 (0, 0) = (13, 36) by decide +kernel)).1
  have U299 : nC (fo h 299) 100 4 = fo h 300 := fo_n (by decide +kernel)
  have N299 : hN (fo h 299) = 247 := fo_N h1 (by decide +kernel)
  have U300 : sR (fo h 300) 233 25 (some 247) = fo h 301 := fo_r (by decide +kernel)
  have T300_233 : hT (fo h 300) 233 = 13 := (fo_T h1 hz (by decide) (show eTL (ops.take 300) 100 233 (0, 0) = (13, 36) by decide +kernel)).1
  have U301 : nC (fo h 301) 102 160 = fo h 302 := fo_n (by decide +kernel)
  have N301 : hN (fo h 301) = 248 := fo_N h1 (by decide +kernel)
  have U302 : sR (fo h 302) 233 26 (some 248) = fo h 303 := fo_r (by decide +kernel)
  have T302_233 : hT (fo h 302) 233 = 13 := (fo_T h1 hz (by decide) (show eTL (ops.take 302) 100 233 (0, 0) = (13, 36) by decide +kernel)).1
  have U303 : nC (fo h 303) 100 4 = fo h 304 := fo_n (by decide +kernel)
  have N303 : hN (fo h 303) = 249 := fo_N h1 (by decide +kernel)
  have T304_249 : hT (fo h 304) 249 = 100 := (fo_T h1 hz (by decide) (show eTL (ops.take 304) 100 249 (0, 0) = (100, 4) by decide +kernel)).1
  have L304_249 : hL (fo h 304) 249 = 4 := (fo_T h1 hz (by decide) (show eTL (ops.take 304) 100 249 (0, 0) = (100, 4) by decide +kernel)).2
  have U304 : sR (fo h 304) 233 27 (some 249) = fo h 305 := fo_r (by decide +kernel)
  have T304_233 : hT (fo h 304) 233 = 13 := (fo_T h1 hz (by decide) (show eTL (ops.take 304) 100 233 (0, 0) = (13, 36) by decide +kernel)).1
  have U305 : nC (fo h 305) 100 4 = fo h 306 := fo_n (by decide +kernel)
  have N305 : hN (fo h 305) = 250 := fo_N h1 (by decide +kernel)
  have U306 : sR (fo h 306) 233 28 (some 250) = fo h 307 := fo_r (by decide +kernel)
  have T306_233 : hT (fo h 306) 233 = 13 := (fo_T h1 hz (by decide) (show eTL (ops.take 306) 100 233 (0, 0) = (13, 36) by decide +kernel)).1
  have U307 : nC (fo h 307) 100 4 = fo h 308 := fo_n (by decide +kernel)
  have N307 : hN (fo h 307) = 251 := fo_N h1 (by decide +kernel)
  have U308 : sR (fo h 308) 233 29 (some 251) = fo h 309 := fo_r (by decide +kernel)
  have T308_233 : hT (fo h 308) 233 = 13 := (fo_T h1 hz (by decide) (show eTL (ops.take 308) 100 233 (0, 0) = (13, 36) by decide +kernel)).1
  have U309 : nC (fo h 309) 100 30 = fo h 310 := fo_n (by decide +kernel)
  have N309 : hN (fo h 309) = 252 := fo_N h1 (by decide +kernel)
  have U310 : sR (fo h 310) 233 33 (some 252) = fo h 311 := fo_r (by decide +kernel)
  have T310_233 : hT (fo h 310) 233 = 13 := (fo_T h1 hz (by decide) (show eTL (ops.take 310) 100 233 (0, 0) = (13, 36) by decide +kernel)).1
  have T311_233 : hT (fo h 311) 233 = 13 := (fo_T h1 hz (by decide) (show eTL (ops.take 311) 100 233 (0, 0) = (13, 36) by decide +kernel)).1
  have T311_234 : hT (fo h 311) 234 = 100 := (fo_T h1 hz (by decide) (show eTL (ops.take 311) 100 234 (0, 0) = (100, 136) by decide +kernel)).1
  have L311_234 : hL (fo h 311) 234 = 136 := (fo_T h1 hz (by decide) (show eTL (ops.take 311) 100 234 (0, 0) = (100, 136) by decide +kernel)).2
  have R311 : hR (fo h 311) 233 0 = some 234 := by
    have e := eRL_ok 233 0 (ops.take 311) h
    rw [h1] at e
    exact e.trans (eRL_any (by decide +kernel) _)
  have eb := fun d Q => e_begins T311_234 L311_234 fc d Q
  simp -implicitDefEqProofs (disch := first | omega | (simp (disch := omega) only [nb_upr]; omega)) only [R_584, w_584_0, zi_0, zi_0n, zi_1, zi_335, zi_12, zi_336n, zi_336r, zi_337n, zi_337r, zi_338n, zi_338r, zi_339n, zi_339r, zi_59, zi_3i, zi_3r, zi_31, zi_51, zi_38, zi_48, zi_54, zi_9, zi_64, zi_340n, zi_340r, zi_71, zi_341n, zi_341r, zi_342n, zi_342r, zi_343n, zi_343r, zi_344n, zi_344r, zi_17, zi_18, zi_345n, zi_345r, zi_15, zi_346n, zi_346r, zi_347n, zi_347r, zi_37, zi_348n, zi_348r, zi_349n, zi_349r, zi_350, zi_351, zi_352n, zi_352r, zi_353n, zi_353r, zi_354n, zi_354r, zi_355n, zi_355r, zi_356n, zi_356r, zi_357, zi_358, zi_42, zi_41, kC_eq, toL_s, toL_n, okS0, okS1, okS2, okS3, okS4, okS5, true_and, and_true, hT_wI, hL_wI, hR_wI, hI_wI, hJ_wI, sI_wI, rfP, isIA_100, isIA_120, inb_ok, nI_clamp, nI_add, nI_mul, ↓reduceIte, not_false_eq_true, not_true_eq_false, true_or, or_true, ↓bI_01, ↓b01_0, ↓b01_1, bI_0, z00, z10, n4, n5, n2, n8, Nat.reduceMul, Nat.reduceAdd, Nat.reduceLT, Nat.reduceLeDiff, nIp, nC_wI, hN_wI, sR_wI, za0, za, zb, zc, ha, hb, hc, T273_233, U273, N273, U274, T274_233, U275, N275, U276, T276_233, U277, N277, U278, T278_233, U279, N279, U280, T280_233, U281, N281, T282_238, L282_238, U282, T282_233, U283, N283, U284, T284_233, U285, N285, U286, T286_233, U287, N287, U288, T288_233, U289, N289, U290, T290_233, U291, N291, U292, T292_233, U293, N293, U294, T294_233, U295, N295, U296, T296_233, U297, N297, T298_246, L298_246, U298, T298_233, U299, N299, U300, T300_233, U301, N301, U302, T302_233, U303, N303, T304_249, L304_249, U304, T304_233, U305, N305, U306, T306_233, U307, N307, U308, T308_233, U309, N309, U310, T310_233, T311_233, T311_234, L311_234, R311, eb]
end
