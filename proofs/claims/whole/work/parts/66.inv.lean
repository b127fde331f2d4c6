section
/-! the two objects side by side: what holds between calls -/
def RS (f g : Nat → Nat → Int32) : Prop := ∀ a k, scrC a k = false → scr a k = false → g a k = f a k
theorem RS.trans {f g k : Nat → Nat → Int32} (h1 : RS f g) (h2 : RS g k) : RS f k := fun a j x y => (h2 a j x y).trans (h1 a j x y)
theorem ScC.rs {f g : Nat → Nat → Int32} (H : ScC f g) : RS f g := fun a k x _ => H a k x
theorem Sc.rs {f g : Nat → Nat → Int32} (H : Sc f g) : RS f g := fun a k _ y => H a k y
theorem RS.ww {f : Nat → Nat → Int32} {r : Nat → Int32} : RS f (ww f 117 r) := fun a k x _ => ww_out (fun z => by
  unfold scrC at x
  simp [show Nat.ble 117 a = true from Nat.ble_eq.mpr z.1, show Nat.blt a 131 = true from Nat.blt_eq.mpr z.2] at x)
theorem RS.mw {f : Nat → Nat → Int32} {r : Nat → Int32} : RS f (mw f 234 r) := fun a k _ y => mw_out (by rintro rfl; cases y)
def KEEP (n : Nat) (f : Nat → Nat → Int32) : Prop := (f 100 12 = nI 0 ∧ f 233 5 = nI 0) ∨ (f 100 12 = nI 1 ∧ f 233 5 = nI 1 ∧ Vr n (rv f 131) ∧ rm f 236 = rv f 131)
def TAPE (f : Nat → Nat → Int32) : Prop := ∃ t : Nat, t ≤ 200 ∧ f 101 1 = nI t ∧ f 233 7 = nI t ∧ ∀ k, k < t → f 239 k = f 102 k ∧ inR (f 102 k) 255
def ROWS (f : Nat → Nat → Int32) : Prop := ∃ m : Nat, m ≤ 10 ∧ f 100 11 = nI m ∧ f 233 23 = nI m ∧ ∀ k, k < 3 * m → f 244 k = f 108 k
def TRACE (f : Nat → Nat → Int32) : Prop := ∃ m : Nat, m ≤ 30 ∧ f 103 1 = nI m ∧ f 233 34 = nI m ∧ ∀ k, k < m → f 252 k = f 104 k
/-- a sheet of the class at c: its row l, its sort t, m items -/
def Sht (h : PH) (f : Nat → Nat → Int32) (c l t m : Nat) : Prop := 253 ≤ c ∧ c < hN h ∧ hT h c = 8 ∧ f c 0 = nI t ∧ t < 4 ∧ hR h c 1 = some l ∧ 253 ≤ l ∧ l < hN h ∧ hT h l = 102 ∧ hL h l = m ∧ m ≤ 40
def SHEET (h : PH) (f : Nat → Nat → Int32) (s : Nat) : Prop := (hR h 105 s = none ∧ f 246 s = Int32.ofInt (-1)) ∨ (∃ c l t m, hR h 105 s = some c ∧ Sht h f c l t m ∧ f 246 s = nI t ∧ f 247 s = nI m ∧ ∀ k, k < m → hJ h 248 (40 * s + k) = hJ h l k)
def SHEETS (h : PH) (f : Nat → Nat → Int32) : Prop := 253 ≤ hN h ∧ (∀ s, s < 4 → SHEET h f s) ∧ ∀ s s' c c', s < 4 → s' < 4 → ¬ s = s' → hR h 105 s = some c → hR h 105 s' = some c' → ¬ hR h c 1 = hR h c' 1
def SHELF (h : PH) (f : Nat → Nat → Int32) (s : Nat) : Prop :=
  (f 106 s = Int32.ofInt (-1) ∧ hR h 107 s = none ∧ f 249 s = Int32.ofInt (-1)) ∨
  (∃ β : Nat, β < 6 ∧ f 106 s = nI β ∧ hR h 107 s = none ∧ f 249 s = nI 0 ∧ f 250 s = nI β) ∨
  (∃ c l t m, f 106 s = Int32.ofInt (-1) ∧ hR h 107 s = some c ∧ Sht h f c l t m ∧ f 249 s = nI 1 ∧ f 250 s = nI t ∧ f 251 s = nI m)
def SHELVES (h : PH) (f : Nat → Nat → Int32) : Prop := ∀ s, s < 4 → SHELF h f s
def REST (n : Nat) (h : PH) (f : Nat → Nat → Int32) : Prop := KEEP n f ∧ TAPE f ∧ ROWS f ∧ TRACE f ∧ SHEETS h f ∧ SHELVES h f
def INVf (n : Nat) (h : PH) (f : Nat → Nat → Int32) : Prop := FR h ∧ TB f ∧ Vr n (rv f 117) ∧ rm f 234 = rv f 117 ∧ REST n h f
/-- what no call touches, or makes by little -/
def FIX (h h' : PH) (f f' : Nat → Nat → Int32) : Prop := (∀ a k, a < 6 → f' a k = f a k) ∧ hT h' 0 = hT h 0 ∧ hL h' 0 = hL h 0 ∧ hN h' ≤ hN h + 2 ∧ hU h' ≤ hU h + 60 ∧ hN h ≤ hN h' ∧ hU h ≤ hU h'
theorem KEEP.mono {n m : Nat} {f : Nat → Nat → Int32} (H : KEEP n f) (hm : n ≤ m) : KEEP m f := H.elim Or.inl (fun z => Or.inr ⟨z.1, z.2.1, z.2.2.1.mono hm, z.2.2.2⟩)
theorem REST.mono {n m : Nat} {h : PH} {f : Nat → Nat → Int32} (H : REST n h f) (hm : n ≤ m) : REST m h f := ⟨H.1.mono hm, H.2⟩
theorem REST.rs {n : Nat} {h : PH} {f g : Nat → Nat → Int32} (H : REST n h f) (e : RS f g) : REST n h g := by
  obtain ⟨hk, ⟨t, t1, t2, t3, t4⟩, ⟨m, m1, m2, m3, m4⟩, ⟨u, u1, u2, u3, u4⟩, ⟨s0, s1, s2⟩, hs⟩ := H
  have x0 : ∀ a k, scrC a k = false ∧ scr a k = false → g a k = f a k := fun a k z => e a k z.1 z.2
  have big : ∀ c, 253 ≤ c → g c 0 = f c 0 := fun c hc => e c 0 (by
    unfold scrC
    simp [show Nat.blt c 233 = false from Bool.eq_false_iff.mpr (fun z => by have := Nat.blt_eq.mp z; omega), show Nat.blt c 131 = false from Bool.eq_false_iff.mpr (fun z => by have := Nat.blt_eq.mp z; omega)]
    omega) (by
    unfold scr
    simp [show Nat.ble c 243 = false from Bool.eq_false_iff.mpr (fun z => by have := Nat.ble_eq.mp z; omega)]
    omega)
  have sh : ∀ c l t m, Sht h f c l t m → Sht h g c l t m := fun c l t m z => ⟨z.1, z.2.1, z.2.2.1, (big c z.1).trans z.2.2.2.1, z.2.2.2.2⟩
  have k131 : ∀ a k, 131 ≤ a → a < 145 → g a k = f a k := fun a k h1 h2 => e a k (by
    unfold scrC
    simp [show Nat.ble 145 a = false from Bool.eq_false_iff.mpr (fun z => by have := Nat.ble_eq.mp z; omega), show Nat.blt a 131 = false from Bool.eq_false_iff.mpr (fun z => by have := Nat.blt_eq.mp z; omega)]
    omega) (by
    unfold scr
    simp [show Nat.ble 240 a = false from Bool.eq_false_iff.mpr (fun z => by have := Nat.ble_eq.mp z; omega)]
    omega)
  refine ⟨?_, ⟨t, t1, (x0 101 1 ⟨rfl, rfl⟩).trans t2, (x0 233 7 ⟨rfl, rfl⟩).trans t3, fun k hk => ?_⟩, ⟨m, m1, (x0 100 11 ⟨rfl, rfl⟩).trans m2, (x0 233 23 ⟨rfl, rfl⟩).trans m3, fun k hk => ?_⟩, ⟨u, u1, (x0 103 1 ⟨rfl, rfl⟩).trans u2, (x0 233 34 ⟨rfl, rfl⟩).trans u3, fun k hk => ?_⟩, ⟨s0, fun s hs4 => ?_, s2⟩, fun s hs4 => ?_⟩
  · rcases hk with ⟨k1, k2⟩ | ⟨k1, k2, k3, k4⟩
    · exact Or.inl ⟨(x0 100 12 ⟨rfl, rfl⟩).trans k1, (x0 233 5 ⟨rfl, rfl⟩).trans k2⟩
    · have ev : rv g 131 = rv f 131 := rv_eq k131
      have em : rm g 236 = rm f 236 := rm_eq (by funext k; exact x0 236 k ⟨rfl, rfl⟩)
      exact Or.inr ⟨(x0 100 12 ⟨rfl, rfl⟩).trans k1, (x0 233 5 ⟨rfl, rfl⟩).trans k2, by rw [ev]; exact k3, by rw [ev, em]; exact k4⟩
  · rw [x0 239 k ⟨rfl, rfl⟩, x0 102 k ⟨rfl, rfl⟩]; exact t4 k hk
  · rw [x0 244 k ⟨rfl, rfl⟩, x0 108 k ⟨rfl, rfl⟩]; exact m4 k hk
  · rw [x0 252 k ⟨rfl, rfl⟩, x0 104 k ⟨rfl, rfl⟩]; exact u4 k hk
  · rcases s1 s hs4 with ⟨z1, z2⟩ | ⟨c, l, t, m, z1, z2, z3, z4, z5⟩
    · exact Or.inl ⟨z1, (x0 246 s ⟨rfl, rfl⟩).trans z2⟩
    · exact Or.inr ⟨c, l, t, m, z1, sh c l t m z2, (x0 246 s ⟨rfl, rfl⟩).trans z3, (x0 247 s ⟨rfl, rfl⟩).trans z4, z5⟩
  · rcases hs s hs4 with ⟨z1, z2, z3⟩ | ⟨β, z0, z1, z2, z3, z4⟩ | ⟨c, l, t, m, z1, z2, z3, z4, z5, z6⟩
    · exact Or.inl ⟨(x0 106 s ⟨rfl, rfl⟩).trans z1, z2, (x0 249 s ⟨rfl, rfl⟩).trans z3⟩
    · exact Or.inr (Or.inl ⟨β, z0, (x0 106 s ⟨rfl, rfl⟩).trans z1, z2, (x0 249 s ⟨rfl, rfl⟩).trans z3, (x0 250 s ⟨rfl, rfl⟩).trans z4⟩)
    · exact Or.inr (Or.inr ⟨c, l, t, m, (x0 106 s ⟨rfl, rfl⟩).trans z1, z2, sh c l t m z3, (x0 249 s ⟨rfl, rfl⟩).trans z4, (x0 250 s ⟨rfl, rfl⟩).trans z5, (x0 251 s ⟨rfl, rfl⟩).trans z6⟩)
/-- a call of both: from where the two are side by side they answer alike and are so again -/
def CALL (mc mm : Nat) (args : List Value) (n : Nat) : Prop := ∀ (h : PH) (f : Nat → Nat → Int32), INVf n h f →
  ∃ x h1 h' f', (∀ Q, Run 30 mc (.ref 100 :: args) (wI h f) Q = Q (some x) h1) ∧ (∀ Q, Run 30 mm (.ref 233 :: args) h1 Q = Q (some x) (wI h' f')) ∧ INVf (n + 6) h' f' ∧ FIX h h' f f'
theorem RS.fix {h : PH} {f g : Nat → Nat → Int32} (e : RS f g) : FIX h h f g := ⟨fun a k ha => e a k (by
    unfold scrC
    simp [show Nat.ble 145 a = false from Bool.eq_false_iff.mpr (fun z => by have := Nat.ble_eq.mp z; omega), show Nat.ble 117 a = false from Bool.eq_false_iff.mpr (fun z => by have := Nat.ble_eq.mp z; omega)]
    omega) (by
    unfold scr
    simp [show Nat.ble 240 a = false from Bool.eq_false_iff.mpr (fun z => by have := Nat.ble_eq.mp z; omega)]
    omega), rfl, rfl, by omega, by omega, by omega, by omega⟩
theorem call_of {mc mm : Nat} {args : List Value} {n : Nat} (P : ∀ (h : PH) (r : Nat → Int32), FR h → Vr n r → Pair h 117 n r mc mm args) : CALL mc mm args n := by
  rintro h f ⟨F, T, V, em, R⟩
  obtain ⟨x, r', V', hc, hm⟩ := P h (rv f 117) F V
  obtain ⟨f1, s1, e1⟩ := hc f T
  rw [ww_rv] at e1
  have q1 : RS f (ww f1 117 r') := s1.rs.trans RS.ww
  have e234 : (ww f1 117 r') 234 = f 234 := by funext k; rw [ww_out (by decide)]; exact s1 234 k rfl
  have T1 : TB (ww f1 117 r') := TB_of (fun a k ha => by rw [ww_out (by omega)]) (s1.tb T)
  have er : mw (ww f1 117 r') 234 (rv f 117) = ww f1 117 r' := by
    have := mw_rm (ww f1 117 r') 234
    rwa [rm_eq e234, em] at this
  obtain ⟨f2, s2, e2⟩ := hm (ww f1 117 r') T1
  rw [er] at e2
  have q2 : RS f (mw f2 234 r') := (q1.trans s2.rs).trans RS.mw
  have v2 : rv (mw f2 234 r') 117 = r' := by
    rw [rv_eq (g := ww f1 117 r') (fun a k h1 h2 => by
      rw [mw_out (by omega)]
      exact s2 a k (by
        unfold scr
        simp [show Nat.ble 240 a = false from Bool.eq_false_iff.mpr (fun z => by have := Nat.ble_eq.mp z; omega)]
        omega)), rv_ww V'.z]
  refine ⟨x, wI h (ww f1 117 r'), h, mw f2 234 r', e1, e2, ⟨F, TB_of (fun a k ha => mw_out (by omega)) (s2.tb T1), ?_, ?_, (R.rs q2).mono (by omega)⟩, q2.fix⟩
  · rw [v2]; exact V'
  · rw [v2, rm_mw V'.z]
end
