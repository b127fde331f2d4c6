section
/-! rows of every walk -/
theorem toL_s {x : Value} {st : List Value} : (some x).toList ++ st = x :: st := rfl
theorem toL_n {st : List Value} : (none : Option Value).toList ++ st = st := rfl
theorem okS0 : (okStack [] = true) = True := eq_true rfl
theorem okS1 {a : Value} : (okStack [a] = true) = True := eq_true rfl
theorem okS2 {a b : Value} : (okStack [a, b] = true) = True := eq_true rfl
theorem okS3 {a b c : Value} : (okStack [a, b, c] = true) = True := eq_true rfl
theorem okS4 {a b c e : Value} : (okStack [a, b, c, e] = true) = True := eq_true rfl
theorem okS5 {a b c e : Int32} {g : Nat} : (okStack [.int a, .int b, .int c, .int e, .ref g] = true) = True := eq_true rfl
theorem isIA_100 : (isIA 100 = true) = True := eq_true rfl
theorem isIA_120 : (isIA 120 = true) = True := eq_true rfl
theorem inb_ok {a n : Nat} (h : a < n) (hn : n < 2147483648) : inb (nI a) n = True := eq_true (inb_of h hn)
/-- a truth as a number -/
def bI (p : Prop) [Decidable p] : Int32 := if p then nI 1 else nI 0
theorem bI_01 (p : Prop) [Decidable p] : (bI p = 0 ∨ bI p = 1) = True := eq_true (by
  unfold bI
  by_cases h : p
  · rw [if_pos h]; exact Or.inr rfl
  · rw [if_neg h]; exact Or.inl rfl)
theorem b01_0 : (nI 0 = (0 : Int32) ∨ nI 0 = 1) = True := eq_true (Or.inl rfl)
theorem b01_1 : (nI 1 = (0 : Int32) ∨ nI 1 = 1) = True := eq_true (Or.inr rfl)
theorem bI_0 (p : Prop) [Decidable p] : (bI p = 0) = ¬ p := by
  unfold bI
  by_cases h : p
  · rw [if_pos h]; exact propext ⟨fun z => absurd z (by decide), fun z => absurd h z⟩
  · rw [if_neg h]; exact propext ⟨fun _ => h, fun _ => rfl⟩
theorem bI_t {p : Prop} [Decidable p] (h : p) : bI p = nI 1 := if_pos h
theorem bI_f {p : Prop} [Decidable p] (h : ¬ p) : bI p = nI 0 := if_neg h
theorem z00 : (nI 0 = (0 : Int32)) = True := eq_true rfl
theorem z10 : (nI 1 = (0 : Int32)) = False := eq_false (by decide)
theorem n2 : (nI 2 = (0 : Int32)) = False := eq_false (by decide)
theorem n4 : (nI 4 = (0 : Int32)) = False := eq_false (by decide)
theorem n5 : (nI 5 = (0 : Int32)) = False := eq_false (by decide)
theorem n8 : (nI 8 = (0 : Int32)) = False := eq_false (by decide)
theorem e_outside (d : Nat) (v a b : Int32) (h : PH) (Q : Option Value → PH → Prop) : Run d 27 [.int v, .int a, .int b] h Q = Q (some (.int (bI (v < a ∨ b < v)))) h := by
  simp (disch := omega) only [R_27, w_27_0, w_27_1, w_27_2, w_27_3, zi_87, zi_88, zi_89, zi_34, zi_72, zi_33, zi_48, zi_86, zi_31, zi_75, zi_67w1, zi_67w2, kC_eq, toL_s, toL_n, okS0, okS1, okS2, okS3, okS4, okS5, true_and, and_true, hT_wI, hL_wI, hR_wI, hI_wI, hJ_wI, sI_wI, rfP, isIA_100, isIA_120, inb_ok, nI_clamp, nI_add, nI_mul, ↓reduceIte, not_false_eq_true, not_true_eq_false, true_or, or_true, ↓bI_01, ↓b01_0, ↓b01_1, bI_0, z00, z10, n4, n5, n2, n8, Nat.reduceMul, Nat.reduceAdd, Nat.reduceLT, Nat.reduceLeDiff]
  by_cases h1 : v < a
  · simp only [h1, true_or, ↓reduceIte, bI]
  · by_cases h2 : v ≤ b
    · have h3 : ¬ b < v := Int32.not_lt.mpr h2
      simp only [h1, h2, h3, or_self, ↓reduceIte, bI]
    · have h3 : b < v := Int32.not_le.mp h2
      simp only [h1, h2, h3, or_true, ↓reduceIte, bI]
theorem e_in (d : Nat) (v a b : Int32) (h : PH) (Q : Option Value → PH → Prop) : Run d 611 [.int v, .int a, .int b] h Q = Q (some (.int (bI (¬ (v < a ∨ b < v))))) h := by
  simp (disch := omega) only [R_611, w_611_0, w_611_1, w_611_2, zi_87, zi_88, zi_89, zi_34, zi_369, zi_48, zi_112, zi_31, zi_113, zi_67w1, zi_67w2, kC_eq, toL_s, toL_n, okS0, okS1, okS2, okS3, okS4, okS5, true_and, and_true, hT_wI, hL_wI, hR_wI, hI_wI, hJ_wI, sI_wI, rfP, isIA_100, isIA_120, inb_ok, nI_clamp, nI_add, nI_mul, ↓reduceIte, not_false_eq_true, not_true_eq_false, true_or, or_true, ↓bI_01, ↓b01_0, ↓b01_1, bI_0, z00, z10, n4, n5, n2, n8, Nat.reduceMul, Nat.reduceAdd, Nat.reduceLT, Nat.reduceLeDiff]
  by_cases h1 : v < a
  · simp only [h1, true_or, ↓reduceIte, bI, not_true_eq_false]
  · by_cases h2 : b < v
    · simp only [h1, h2, or_true, ↓reduceIte, bI, not_true_eq_false]
    · simp only [h1, h2, or_self, ↓reduceIte, bI, not_false_eq_true]
end
