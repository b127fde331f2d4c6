section
/-! the two machines side by side: X says where our cells begin, the heap at the start, classes and slots, where the cells stand that we don't make, and what they hold -/
abbrev CX : Type := Nat × Heap × (Nat → ClassId) × (Nat → Nat → Nat) × (Nat → ClassId) × (Nat → Nat) × PH
def xs0 (X : CX) : Nat := X.1
def xH (X : CX) : Heap := X.2.1
def xD (X : CX) : Nat → ClassId := X.2.2.1
def xS (X : CX) : Nat → Nat → Nat := X.2.2.2.1
def xA (X : CX) : Nat → ClassId := X.2.2.2.2.1
def xo (X : CX) : Nat → Nat := X.2.2.2.2.2.1
def xh (X : CX) : PH := X.2.2.2.2.2.2
def ad (X : CX) (k : Nat) : Nat := if k < 100 then xo X k else xs0 X + (k - 100)
def rnv (X : CX) (v : Value) : Value := match v with | .ref k => .ref (ad X k) | v => v
def notRet (v : Value) : Bool := match v with | .retAddr _ => false | _ => true
def svP (h : PH) (t a k : Nat) : Value := match pK t k with | 1 => .long (hJ h a k) | 2 => rfP (hR h a k) | _ => .int (hI h a k)
def evP (h : PH) (t a j : Nat) : Value := match t with | 102 => .long (hJ h a j) | 110 => rfP (hR h a j) | 111 => rfP (hR h a j) | 112 => rfP (hR h a j) | _ => .int (hI h a j)
def isAT (t : Nat) : Bool := t == 100 || t == 101 || t == 102 || t == 110 || t == 111 || t == 112
def cellP (X : CX) (h : PH) (H : Heap) (a : Nat) : Prop :=
  (isTg (hT h a) = true ∧ 100 ≤ a ∧ t_OB (ad X a) (xD X (hT h a)) (pNf (hT h a)) (xS X (hT h a)) H (fun k => rnv X (svP h (hT h a) a k)))
  ∨ (isAT (hT h a) = true ∧ 100 ≤ a ∧ H[ad X a]? = some (arrV (xA X (hT h a)) (hL h a) (fun j => rnv X (evP h (hT h a) a j))))
  ∨ ((hT h a = 120 ∨ hT h a = 130) ∧ a < 100)
def Pic (X : CX) (h : PH) (H : Heap) : Prop :=
  100 ≤ hN h ∧ H.size = xs0 X + (hN h - 100) ∧ (∀ q : Nat, q < xs0 X → H[q]? = (xH X)[q]?) ∧ (∀ a, hT h a ≠ 0 → a < hN h ∧ cellP X h H a) ∧ (∀ a, a < 100 → hT h a = hT (xh X) a ∧ hL h a = hL (xh X) a ∧ ∀ j, hI h a j = hI (xh X) a j)
def bKinds : List String := ["DreamNets$Dredger", "DreamNets$Drifter", "DreamNets$Poacher", "DreamNets$Seiner", "DreamNets$Tug"]
def aName (t : Nat) : String := match t with | 110 => "DreamNets$Sheet" | 111 => "DreamNets$Boat" | _ => "DreamNets$World"
def KU (X : CX) (KS : CX → State → Prop) (U : State) : Prop :=
  (∀ t, isTg t = true → u_Kn U (pC t) (pT t) (pNf t) (xD X t) (xS X t)) ∧
  (∀ t, isAT t = true → ArrOfT U (xA X t) (pA t) ∧ va_RA U (xA X t) (pA t)) ∧
  (∀ w ∈ lw_nest, va_Nw w U) ∧
  (∀ C ∈ bKinds, va_Nw (.castable C "DreamNets$Boat") U) ∧
  (∀ t, t = 110 ∨ t = 111 ∨ t = 112 → va_AO (aName t) U) ∧
  (∀ k, 1 ≤ k → k ≤ 5 → va_Z "DreamNets" (pStat k) "[I" (.ref (xo X k)) (fun q => xs0 X ≤ q) U (xH X)) ∧
  (∀ a, a < 100 → hT (xh X) a = 120 → ∃ cell : Cell, (xH X)[xo X a]? = some cell ∧ xo X a < xs0 X ∧ U.isArrayOf cell .int ∧ cell.vm ≠ .unknown ∧ (hL (xh X) a ≤ cell.slots.size ∧ cell.slots.size.toInt32 = nI (hL (xh X) a)) ∧ ∀ j, j < hL (xh X) a → cell.slots[j]? = some (.int (hI (xh X) a j))) ∧
  (xH X).size = xs0 X ∧ KS X U
theorem nest_warm {w : Cond} (hn : isNest w = true) {s U : State} (hW : s.WarmedH U.vm) (h : va_Nw w s) : va_Nw w U := by
  unfold isNest at hn
  split at hn
  · exact va_Nw.warmM hW h
  · exact va_Nw.warmF hW h
  · cases hn
theorem KU.warm {X : CX} {KS : CX → State → Prop} (hKS : ∀ s U : State, s.WarmedH U.vm → KS X s → KS X U) {s U : State} (hW : s.WarmedH U.vm) (h : KU X KS s) : KU X KS U := by
  obtain ⟨h1, h2, h3, h4, h5, h6, h7, h8, h9⟩ := h
  refine ⟨fun t ht => u_Kn_moved hW.alike (h1 t ht), fun t ht => ⟨arrOfT_moved hW.alike (h2 t ht).1, (h2 t ht).2.moved hW.alike⟩, fun w hw => nest_warm (List.mem_filter.mp hw).2 hW (h3 w hw), fun C hC => (h4 C hC).warmC hW, fun t ht => (h5 t ht).moved hW.alike, fun k a b => (h6 k a b).moved hW.alike, fun a ha ht => ?_, h8, hKS _ _ hW h9⟩
  obtain ⟨cell, q1, q2, q3, q4⟩ := h7 a ha ht
  exact ⟨cell, q1, q2, State.isArrayOf_alike hW.alike q3, q4⟩
def LOK (X : CX) (nL : Nat) (lsM : Array Slot) (ls : List Value) : Prop := lsM.size = nL ∧ lv_wf lsM ∧ ls.length = nL ∧ ∀ k, notRet (nth ls k) = true → lsM[k]? = some (.val (rnv X (nth ls k)))
def lvOf (X : CX) (nL : Nat) (ls : List Value) : List (Nat × Value) := ((List.range nL).filter (fun k => notRet (nth ls k))).map (fun k => (k, rnv X (nth ls k)))
theorem nth_len : ∀ (ls : List Value) (k : Nat), ls.length ≤ k → nth ls k = .retAddr 0
  | [], _, _ => by simp [nth]
  | _ :: l, 0, h => by simp at h
  | _ :: l, k + 1, h => by simpa [nth] using nth_len l k (by simpa using h)
theorem setN_len : ∀ (ls : List Value) (k : Nat) (v : Value), (setN ls k v).length = ls.length
  | [], _, _ => rfl
  | _ :: l, 0, _ => rfl
  | _ :: l, k + 1, v => by simp [setN, setN_len l k v]
theorem nth_setN : ∀ (ls : List Value) (k : Nat) (v : Value) (j : Nat), nth (setN ls k v) j = if j = k ∧ k < ls.length then v else nth ls j
  | [], k, v, j => by simp [setN, nth]
  | w :: l, 0, v, 0 => by simp [setN, nth]
  | w :: l, 0, v, j + 1 => by simp [setN, nth]
  | w :: l, k + 1, v, 0 => by simp [setN, nth]
  | w :: l, k + 1, v, j + 1 => by simp [setN, nth, nth_setN l k v j]
theorem LOK.has {X : CX} {nL : Nat} {lsM : Array Slot} {ls : List Value} (h : LOK X nL lsM ls) : lv_has lsM nL (lvOf X nL ls) := by
  refine ⟨h.1, h.2.1, fun q hq => ?_⟩
  obtain ⟨k, hk, rfl⟩ := List.mem_map.mp hq
  exact h.2.2.2 k (List.mem_filter.mp hk).2
theorem lvOf_mem {X : CX} {nL : Nat} {ls : List Value} {k : Nat} (hk : k < nL) (h : notRet (nth ls k) = true) : (k, rnv X (nth ls k)) ∈ lvOf X nL ls := List.mem_map.mpr ⟨k, List.mem_filter.mpr ⟨List.mem_range.mpr hk, h⟩, rfl⟩
theorem noLong_cat {X : CX} {ls : List Value} {j k : Nat} (h : noLong ls k = true) (hj : j + 1 = k) (hr : notRet (nth ls j) = true) : (rnv X (nth ls j)).category ≠ 2 := by
  subst hj
  cases hv : nth ls j <;> simp_all [noLong, rnv, Value.category, notRet]
theorem LOK.st1 {X : CX} {nL : Nat} {lsM ls' : Array Slot} {ls : List Value} (h : LOK X nL lsM ls) {k : Nat} (hk : k < nL) (v : Value) (hn : noLong ls k = true) (h' : lv_has ls' nL ((k, rnv X v) :: (lvOf X nL ls).filter (fun q => !(q.1 == k) && !(q.1 + 1 == k && q.2.category == 2)))) : LOK X nL ls' (setN ls k v) := by
  refine ⟨h'.1, h'.2.1, by rw [setN_len]; exact h.2.2.1, fun j hj => ?_⟩
  rw [nth_setN] at hj ⊢
  by_cases hjk : j = k ∧ k < ls.length
  · rw [if_pos hjk]
    obtain ⟨rfl, -⟩ := hjk
    exact h'.2.2 _ List.mem_cons_self
  · rw [if_neg hjk] at hj ⊢
    have hne : j ≠ k := fun e => hjk ⟨e, by rw [h.2.2.1]; exact hk⟩
    have hjl : j < nL := by
      rcases Nat.lt_or_ge j nL with q | q
      · exact q
      · rw [nth_len ls j (by rw [h.2.2.1]; exact q)] at hj
        cases hj
    refine h'.2.2 (j, rnv X (nth ls j)) (List.mem_cons_of_mem _ (List.mem_filter.mpr ⟨lvOf_mem hjl hj, ?_⟩))
    have h1 : (j == k) = false := by simpa using hne
    by_cases h2 : j + 1 = k
    · have h3 := noLong_cat (X := X) hn h2 hj
      simp [h1, h3]
    · simp [h1, h2]
theorem LOK.st2 {X : CX} {nL : Nat} {lsM ls' : Array Slot} {ls : List Value} (h : LOK X nL lsM ls) {k : Nat} (hk : k + 1 < nL) (x : Int64) (hn : noLong ls k = true) (h' : lv_has ls' nL ((k, Value.long x) :: (lvOf X nL ls).filter (fun q => !(q.1 == k) && (!(q.1 == k + 1) && !(q.1 + 1 == k && q.2.category == 2))))) : LOK X nL ls' (setN (setN ls k (.long x)) (k + 1) (.retAddr 0)) := by
  refine ⟨h'.1, h'.2.1, by rw [setN_len, setN_len]; exact h.2.2.1, fun j hj => ?_⟩
  rw [nth_setN, nth_setN, setN_len] at hj ⊢
  have hl := h.2.2.1
  by_cases h0 : j = k + 1 ∧ k + 1 < ls.length
  · rw [if_pos h0] at hj
    cases hj
  · rw [if_neg h0] at hj ⊢
    by_cases hjk : j = k ∧ k < ls.length
    · rw [if_pos hjk]
      obtain ⟨rfl, -⟩ := hjk
      exact h'.2.2 _ List.mem_cons_self
    · rw [if_neg hjk] at hj ⊢
      have hne : j ≠ k := fun e => hjk ⟨e, by omega⟩
      have hne1 : j ≠ k + 1 := fun e => h0 ⟨e, by omega⟩
      have hjl : j < nL := by
        rcases Nat.lt_or_ge j nL with q | q
        · exact q
        · rw [nth_len ls j (by rw [h.2.2.1]; exact q)] at hj
          cases hj
      refine h'.2.2 (j, rnv X (nth ls j)) (List.mem_cons_of_mem _ (List.mem_filter.mpr ⟨lvOf_mem hjl hj, ?_⟩))
      have h1 : (j == k) = false := by simpa using hne
      have h1b : (j == k + 1) = false := by simpa using hne1
      by_cases h2 : j + 1 = k
      · have h3 := noLong_cat (X := X) hn h2 hj
        simp [h1, h1b, h3]
      · simp [h1, h1b, h2]
end
