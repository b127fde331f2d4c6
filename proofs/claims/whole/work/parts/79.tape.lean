section
/-! the tape, read purely: blanks, names, numbers, other bytes -/
def isL (b : Nat) : Bool := Nat.ble 97 b && Nat.ble b 122
def isD (b : Nat) : Bool := Nat.ble 48 b && Nat.ble b 57
theorem isL_iff {b : Nat} : isL b = true ↔ 97 ≤ b ∧ b ≤ 122 := by
  unfold isL
  rw [Bool.and_eq_true, Nat.ble_eq, Nat.ble_eq]
theorem isD_iff {b : Nat} : isD b = true ↔ 48 ≤ b ∧ b ≤ 57 := by
  unfold isD
  rw [Bool.and_eq_true, Nat.ble_eq, Nat.ble_eq]
def skJ (y : Nat → Nat) : Nat → Nat → Nat
  | 0, p => p
  | j + 1, p => if y p = 32 then skJ y j (p + 1) else p
def leJ (y : Nat → Nat) : Nat → Nat → Nat
  | 0, p => p
  | j + 1, p => if isL (y p) = true then leJ y j (p + 1) else p
def deJ (y : Nat → Nat) : Nat → Nat → Nat
  | 0, p => p
  | j + 1, p => if isD (y p) = true then deJ y j (p + 1) else p
def vlJ (y : Nat → Nat) (s : Nat) : Nat → Nat → Int32 → Int32
  | 0, _, v => v
  | j + 1, p, v => if isD (y p) = true then vlJ y s j (p + 1) (if p - s < 3 then v * nI 10 + nI (y p) - nI 48 else Int32.ofInt (-1)) else v
def wdJ (y : Nat → Nat) (s : Nat) : Nat → Nat → Int64 → Int64
  | 0, _, w => w
  | j + 1, p, w => if isL (y p) = true then wdJ y s j (p + 1) (if p - s < 9 then lN 27 * w + (nI (y p)).toInt64 - lN 96 else Int64.ofInt (-1)) else w
/-- the token behind p: where it begins, of what sort it is, where it ends, its number, its word -/
def tS (y : Nat → Nat) (t p : Nat) : Nat := skJ y (t - p) p
def tK (y : Nat → Nat) (t p : Nat) : Nat := if t ≤ tS y t p then 0 else if isL (y (tS y t p)) = true then 1 else if isD (y (tS y t p)) = true then 2 else 3
def tE (y : Nat → Nat) (t p : Nat) : Nat := if tK y t p = 0 then tS y t p else if tK y t p = 1 then leJ y (t - tS y t p) (tS y t p) else if tK y t p = 2 then deJ y (t - tS y t p) (tS y t p) else tS y t p + 1
def tV (y : Nat → Nat) (t p : Nat) : Int32 := vlJ y (tS y t p) (t - tS y t p) (tS y t p) (nI 0)
def tW (y : Nat → Nat) (t p : Nat) : Int64 := wdJ y (tS y t p) (t - tS y t p) (tS y t p) (lN 0)
theorem skJ_le (y : Nat → Nat) : ∀ j p, p ≤ skJ y j p ∧ skJ y j p ≤ p + j
  | 0, p => ⟨Nat.le_refl _, Nat.le_refl _⟩
  | j + 1, p => by
    have := skJ_le y j (p + 1)
    show p ≤ (if y p = 32 then skJ y j (p + 1) else p) ∧ (if y p = 32 then skJ y j (p + 1) else p) ≤ p + (j + 1)
    split <;> omega
theorem leJ_le (y : Nat → Nat) : ∀ j p, p ≤ leJ y j p ∧ leJ y j p ≤ p + j
  | 0, p => ⟨Nat.le_refl _, Nat.le_refl _⟩
  | j + 1, p => by
    have := leJ_le y j (p + 1)
    show p ≤ (if isL (y p) = true then leJ y j (p + 1) else p) ∧ (if isL (y p) = true then leJ y j (p + 1) else p) ≤ p + (j + 1)
    split <;> omega
theorem deJ_le (y : Nat → Nat) : ∀ j p, p ≤ deJ y j p ∧ deJ y j p ≤ p + j
  | 0, p => ⟨Nat.le_refl _, Nat.le_refl _⟩
  | j + 1, p => by
    have := deJ_le y j (p + 1)
    show p ≤ (if isD (y p) = true then deJ y j (p + 1) else p) ∧ (if isD (y p) = true then deJ y j (p + 1) else p) ≤ p + (j + 1)
    split <;> omega
theorem leJ_all (y : Nat → Nat) : ∀ j p i, p ≤ i → i < leJ y j p → isL (y i) = true
  | 0, p, i, h1, h2 => by
    have : i < p := h2
    omega
  | j + 1, p, i, h1, h2 => by
    have e : leJ y (j + 1) p = if isL (y p) = true then leJ y j (p + 1) else p := rfl
    rw [e] at h2
    by_cases z : isL (y p) = true
    · rw [if_pos z] at h2
      by_cases g : i = p
      · rw [g]; exact z
      · exact leJ_all y j (p + 1) i (by omega) h2
    · rw [if_neg z] at h2
      omega
variable {y : Nat → Nat} {t p : Nat}
theorem tS_b (hp : p ≤ t) : p ≤ tS y t p ∧ tS y t p ≤ t := by
  have := skJ_le y (t - p) p
  unfold tS
  omega
theorem tK_0 : tK y t p = 0 ↔ t ≤ tS y t p := by
  unfold tK
  by_cases h : t ≤ tS y t p
  · rw [if_pos h]; exact ⟨fun _ => h, fun _ => rfl⟩
  · rw [if_neg h]
    refine ⟨fun z => ?_, fun z => absurd z h⟩
    split at z
    · omega
    · split at z <;> omega
theorem tK_1 : tK y t p = 1 ↔ tS y t p < t ∧ isL (y (tS y t p)) = true := by
  unfold tK
  by_cases h : t ≤ tS y t p
  · rw [if_pos h]; exact ⟨fun z => by omega, fun z => by omega⟩
  · rw [if_neg h]
    by_cases h1 : isL (y (tS y t p)) = true
    · rw [if_pos h1]; exact ⟨fun _ => ⟨by omega, h1⟩, fun _ => rfl⟩
    · rw [if_neg h1]
      refine ⟨fun z => ?_, fun z => absurd z.2 h1⟩
      split at z <;> omega
theorem tE_1 (h : tK y t p = 1) : tE y t p = leJ y (t - tS y t p) (tS y t p) := by
  unfold tE
  rw [h]
  rfl
theorem tE_b (hp : p ≤ t) : tS y t p ≤ tE y t p ∧ tE y t p ≤ t := by
  have h0 := tS_b (y := y) hp
  have h1 := leJ_le y (t - tS y t p) (tS y t p)
  have h2 := deJ_le y (t - tS y t p) (tS y t p)
  have hk := tK_0 (y := y) (t := t) (p := p)
  unfold tE
  by_cases k0 : tK y t p = 0
  · rw [if_pos k0]; omega
  rw [if_neg k0]
  by_cases k1 : tK y t p = 1
  · rw [if_pos k1]; omega
  rw [if_neg k1]
  by_cases k2 : tK y t p = 2
  · rw [if_pos k2]; omega
  rw [if_neg k2]
  omega
theorem tE_gt1 (h : tK y t p = 1) : tS y t p < tE y t p := by
  obtain ⟨h1, h2⟩ := tK_1.mp h
  rw [tE_1 h]
  obtain ⟨j, hj⟩ : ∃ j, t - tS y t p = j + 1 := ⟨t - tS y t p - 1, by omega⟩
  rw [hj]
  show _ < (if isL (y (tS y t p)) = true then leJ y j (tS y t p + 1) else tS y t p)
  rw [if_pos h2]
  have := leJ_le y j (tS y t p + 1)
  omega
/-! words -/
def Hh (g : Nat → Nat) : Nat → Nat
  | 0 => 0
  | n + 1 => 27 * Hh g n + (g n - 96)
theorem Hh_lt {g : Nat → Nat} : ∀ n, (∀ i, i < n → 97 ≤ g i ∧ g i ≤ 122) → Hh g n < 27 ^ n
  | 0, _ => by
    show 0 < 27 ^ 0
    decide
  | n + 1, h => by
    have h1 := Hh_lt n (fun i hi => h i (by omega))
    have h2 := h n (by omega)
    show 27 * Hh g n + (g n - 96) < 27 ^ (n + 1)
    rw [Nat.pow_succ]
    omega
theorem Hh_9 {g : Nat → Nat} {n : Nat} (hn : n ≤ 9) (h : ∀ i, i < n → 97 ≤ g i ∧ g i ≤ 122) : Hh g n < 27 ^ 9 :=
  Nat.lt_of_lt_of_le (Hh_lt n h) (Nat.pow_le_pow_right (by decide) hn)
theorem Hh_inj {g g' : Nat → Nat} : ∀ n m, (∀ i, i < n → 97 ≤ g i ∧ g i ≤ 122) → (∀ i, i < m → 97 ≤ g' i ∧ g' i ≤ 122) → Hh g n = Hh g' m → n = m ∧ ∀ i, i < n → g i = g' i
  | 0, 0, _, _, _ => ⟨rfl, fun i hi => absurd hi (by omega)⟩
  | 0, m + 1, _, h', e => by
    have := h' m (by omega)
    have e : 0 = 27 * Hh g' m + (g' m - 96) := e
    omega
  | n + 1, 0, h, _, e => by
    have := h n (by omega)
    have e : 27 * Hh g n + (g n - 96) = 0 := e
    omega
  | n + 1, m + 1, h, h', e => by
    have h1 := h n (by omega)
    have h2 := h' m (by omega)
    have e : 27 * Hh g n + (g n - 96) = 27 * Hh g' m + (g' m - 96) := e
    obtain ⟨e1, e2⟩ := Hh_inj n m (fun i hi => h i (by omega)) (fun i hi => h' i (by omega)) (by omega)
    refine ⟨by omega, fun i hi => ?_⟩
    by_cases z : i = n
    · subst z
      rw [e1] at h1 ⊢
      subst e1
      omega
    · exact e2 i (by omega)
theorem Hh_congr {g g' : Nat → Nat} : ∀ n, (∀ i, i < n → g i = g' i) → Hh g n = Hh g' n
  | 0, _ => rfl
  | n + 1, h => by
    show 27 * Hh g n + (g n - 96) = 27 * Hh g' n + (g' n - 96)
    rw [Hh_congr n (fun i hi => h i (by omega)), h n (by omega)]
def wdH (g : Nat → Nat) (n : Nat) : Int64 := if n ≤ 9 then lN (Hh g n) else Int64.ofInt (-1)
theorem wdJ_eq (s : Nat) : ∀ j k, (∀ i, i < k → 97 ≤ y (s + i) ∧ y (s + i) ≤ 122) → wdJ y s j (s + k) (wdH (fun i => y (s + i)) k) = wdH (fun i => y (s + i)) (leJ y j (s + k) - s)
  | 0, k, _ => by
    show wdH _ k = wdH _ (s + k - s)
    rw [Nat.add_sub_cancel_left]
  | j + 1, k, h => by
    show (if isL (y (s + k)) = true then wdJ y s j (s + k + 1) _ else _) = wdH _ ((if isL (y (s + k)) = true then leJ y j (s + k + 1) else s + k) - s)
    by_cases z : isL (y (s + k)) = true
    · rw [if_pos z, if_pos z]
      have hz := isL_iff.mp z
      have h' : ∀ i, i < k + 1 → 97 ≤ y (s + i) ∧ y (s + i) ≤ 122 := fun i hi => by
        by_cases g : i = k
        · rw [g]; exact hz
        · exact h i (by omega)
      have e : (if s + k - s < 9 then lN 27 * wdH (fun i => y (s + i)) k + (nI (y (s + k))).toInt64 - lN 96 else Int64.ofInt (-1)) = wdH (fun i => y (s + i)) (k + 1) := by
        rw [Nat.add_sub_cancel_left]
        unfold wdH
        by_cases g : k < 9
        · rw [if_pos g, if_pos (by omega), if_pos (by omega), i2lN (by omega), lN_mul, lN_add, lN_sub (by omega)]
          congr 1
          show 27 * Hh _ k + y (s + k) - 96 = 27 * Hh _ k + (y (s + k) - 96)
          omega
        · rw [if_neg g, if_neg (by omega)]
      have ih := wdJ_eq s j (k + 1) h'
      rw [e]
      exact ih
    · rw [if_neg z, if_neg z, Nat.add_sub_cancel_left]
theorem tW_eq (h : tK y t p = 1) : tW y t p = wdH (fun i => y (tS y t p + i)) (tE y t p - tS y t p) := by
  have := wdJ_eq (y := y) (tS y t p) (t - tS y t p) 0 (fun i hi => absurd hi (by omega))
  rw [tE_1 h]
  exact this
def WT (k : Nat) : List Nat := match k with
  | 10 => [98, 111, 97, 116]
  | 11 => [115, 101, 105, 110, 101, 114]
  | 12 => [100, 114, 105, 102, 116, 101, 114]
  | 13 => [116, 117, 103]
  | 14 => [100, 114, 101, 100, 103, 101, 114]
  | 15 => [112, 111, 97, 99, 104, 101, 114]
  | 16 => [97, 116]
  | 17 => [109, 101, 115, 104]
  | 18 => [115, 116, 114, 101, 101, 116]
  | 19 => [115, 108, 101, 101, 112, 101, 114, 115]
  | 20 => [102, 108, 121, 105, 110, 103]
  | 21 => [102, 97, 108, 108, 105, 110, 103]
  | 22 => [116, 101, 101, 116, 104]
  | 23 => [115, 99, 104, 111, 111, 108]
  | 24 => [110, 105, 103, 104, 116, 109, 97, 114, 101]
  | 25 => [112, 114, 105, 99, 101]
  | 26 => [113, 117, 111, 116, 97]
  | 27 => [119, 97, 107, 101]
  | _ => []
def wc (k : Nat) : Nat := Hh (fun i => (WT k).getD i 0) (WT k).length
def eqW (y : Nat → Nat) (s : Nat) (T : List Nat) : Nat → Nat → Bool
  | 0, _ => true
  | j + 1, i => if y (s + i) = T.getD i 0 then eqW y s T j (i + 1) else false
theorem eqW_iff {s : Nat} {T : List Nat} : ∀ j i, eqW y s T j i = true ↔ ∀ q, i ≤ q → q < i + j → y (s + q) = T.getD q 0
  | 0, i => ⟨fun _ q h1 h2 => by omega, fun _ => rfl⟩
  | j + 1, i => by
    show (if y (s + i) = T.getD i 0 then eqW y s T j (i + 1) else false) = true ↔ _
    by_cases z : y (s + i) = T.getD i 0
    · rw [if_pos z, eqW_iff j (i + 1)]
      refine ⟨fun H q h1 h2 => ?_, fun H q h1 h2 => H q (by omega) (by omega)⟩
      by_cases g : q = i
      · rw [g]; exact z
      · exact H q (by omega) (by omega)
    · rw [if_neg z]
      exact ⟨fun H => (by cases H), fun H => absurd (H i (by omega) (by omega)) z⟩
/-- the token is the word k -/
def isW (y : Nat → Nat) (t p k : Nat) : Bool := decide (tK y t p = 1) && (decide (tE y t p - tS y t p = (WT k).length) && eqW y (tS y t p) (WT k) (WT k).length 0)
theorem WT_ok : ∀ k, k < 28 → 10 ≤ k → (WT k).length ≤ 9 ∧ (∀ i, i < (WT k).length → 97 ≤ (WT k).getD i 0 ∧ (WT k).getD i 0 ≤ 122) ∧ ¬ Int64.ofInt (-1) = lN (wc k) := by decide +kernel
theorem isW_word {k : Nat} (h1 : 10 ≤ k) (h2 : k < 28) : isW y t p k = true ↔ (tK y t p = 1 ∧ tW y t p = lN (wc k)) := by
  obtain ⟨w1, w2, w3⟩ := WT_ok k h2 h1
  unfold isW
  rw [Bool.and_eq_true, Bool.and_eq_true, decide_eq_true_iff, decide_eq_true_iff, eqW_iff]
  refine and_congr_right (fun hk => ?_)
  have hL : ∀ i, i < tE y t p - tS y t p → 97 ≤ y (tS y t p + i) ∧ y (tS y t p + i) ≤ 122 := fun i hi => by
    rw [tE_1 hk] at hi
    exact isL_iff.mp (leJ_all y (t - tS y t p) (tS y t p) _ (by omega) (by omega))
  have e27 : 27 ^ 9 < 2 ^ 63 := by decide
  rw [tW_eq hk]
  unfold wdH
  constructor
  · rintro ⟨a1, a2⟩
    rw [a1, if_pos w1]
    congr 1
    exact Hh_congr _ (fun i hi => a2 i (by omega) (by omega))
  · intro e
    by_cases g : tE y t p - tS y t p ≤ 9
    · have ew : wc k = Hh (fun i => (WT k).getD i 0) (WT k).length := rfl
      rw [if_pos g, ew, lNe (Nat.lt_trans (Hh_9 g hL) e27) (Nat.lt_trans (Hh_9 w1 w2) e27)] at e
      obtain ⟨e1, e2⟩ := Hh_inj _ _ hL w2 e
      exact ⟨e1, fun q _ hq => e2 q (by omega)⟩
    · rw [if_neg g] at e
      exact absurd e w3
/-- a number in a range; a stop -/
def okN (y : Nat → Nat) (t p : Nat) (lo hi : Int32) : Prop := tK y t p = 2 ∧ ¬ (tV y t p < lo ∨ hi < tV y t p)
def isE (y : Nat → Nat) (t p : Nat) : Prop := tK y t p = 3 ∧ y (tS y t p) = 59
end
