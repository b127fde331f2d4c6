section
/-! take and tear by the kind's number -/
def ktag : Nat → Nat
  | 0 => 2
  | 1 => 7
  | 2 => 4
  | 3 => 10
  | 4 => 3
  | _ => 5
def ctch (k : Nat) (x s m : Int32) : Int32 := match k with
  | 0 => x / nI 4
  | 1 => x / nI 4 * nI 2
  | 2 => x / nI 4 + m
  | 3 => if s = nI 2 then nI 0 else x / nI 4 * nI 2
  | 4 => (x / nI 4 + m) * nI 2
  | _ => if s = rem5 m then x else x / nI 4
def tear (k : Nat) (m e : Int32) : Int32 := match k with
  | 0 => nI 1
  | 1 => nI 0
  | 2 => nI 1 + nI 1
  | 3 => nI 0 + (if nI 3 ≤ e then nI 0 else nI 1)
  | 4 => nI 1 + nI 1 + m
  | _ => nI 0
theorem FR.tK {h : PH} (w : FR h) {k : Nat} (hk : k < 6) : hT h (111 + k) = ktag k := by
  match k, hk with
  | 0, _ => exact w.t111
  | 1, _ => exact w.t112
  | 2, _ => exact w.t113
  | 3, _ => exact w.t114
  | 4, _ => exact w.t115
  | 5, _ => exact w.t116
theorem FR.tK13 {h : PH} (w : FR h) {k : Nat} (hk : k < 6) : 1 ≤ hT h (111 + k) ∧ hT h (111 + k) ≤ 13 := by
  rw [w.tK hk]
  match k, hk with
  | 0, _ => decide
  | 1, _ => decide
  | 2, _ => decide
  | 3, _ => decide
  | 4, _ => decide
  | 5, _ => decide
theorem r_ctch (d : Nat) (h : PH) (w : FR h) (k : Nat) (hk : k < 6) (x s m : Int32) :
    Run (d + 1 + 1) (pvsel 43 (ktag k)) [.ref (111 + k), .int x, .int s, .int m] h (fun v g => v = some (.int (ctch k x s m)) ∧ g = h) := by
  match k, hk with
  | 0, hk => exact r_catch0 _ _ _ _ _ _
  | 1, hk => exact r_catch1 _ _ _ _ _ _ (w.tK13 hk)
  | 2, hk => exact r_catch2 _ _ _ _ _ _ (w.tK13 hk)
  | 3, hk => exact r_catch3 _ _ _ _ _ _ (w.tK13 hk)
  | 4, hk => exact r_catch4 _ _ _ _ _ _ (w.tK13 hk)
  | 5, hk => exact r_catch5 _ _ _ _ _ _ (w.tK13 hk)
theorem r_tear (d : Nat) (h : PH) (w : FR h) (k : Nat) (hk : k < 6) (m e : Int32) :
    Run (d + 1 + 1) (pvsel 50 (ktag k)) [.ref (111 + k), .int m, .int e] h (fun v g => v = some (.int (tear k m e)) ∧ g = h) := by
  match k, hk with
  | 0, hk => exact r_tear0 _ _ _ _ _
  | 1, hk => exact r_tear1 _ _ _ _ _
  | 2, hk => exact r_tear2 _ _ _ _ _ (w.tK13 hk)
  | 3, hk => exact r_tear3 _ _ _ _ _ (w.tK13 hk)
  | 4, hk => exact r_tear4 _ _ _ _ _ (w.tK13 hk)
  | 5, hk => exact r_tear5 _ _ _ _ _
end
