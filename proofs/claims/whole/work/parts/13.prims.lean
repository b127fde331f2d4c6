section
theorem sd_prim3 {X : CX} {KS : CX → State → Prop} {p : Program} {l : Launch} {e : Env} {R : Room} {s : State} {m : MethodId} {args : Array Value} {below : List Frame} {meth : Method} {c : Code} {nL n0 u0 : Nat} {Q : State → Prop} {cc : ByteArray} {own : String} {ini : Bool} {pcOf : Nat → Nat} {pc len pl : Nat} {raw : Instr} {call : Nat → List Value → PH → (Option Value → PH → Prop) → Prop} {jump : Nat → List Value → List Value → PH → Prop} {fin : Option Value → PH → Prop} {rk : Nat} {K : List Value → List Value → PH → Prop} {ls st : List Value} {h : PH}  (hx : p.tables.exec = Jvm.exec) (hb : c.code = cc) (hd : decode cc pc = .ok (raw, len)) (ho : okI own ini nL pcOf pc raw len pl (.invokedynamic 3) = true) (hK : ∀ ls st h, K ls st h → GoW X p l e R s m args below meth c nL n0 u0 Q (pc + len) ls st h) (hown : s.vm.findClass own = some m.cls) (hts : ∀ w ∈ lw_good, w.before args s = true) (hKU : KU X KS s) (hml : c.maxLocals = nL) (hR1 : 6 ≤ R.frames) (hR2 : 600 ≤ R.locals) (hfit : hN h - n0 ≤ R.cells ∧ hU h - u0 ≤ R.slots) (H : wpI call jump fin rk (.invokedynamic 3) K ls st h) : GoW X p l e R s m args below meth c nL n0 u0 Q pc ls st h := by
  simp only [wpI] at H
  simp only [okI] at ho
  split at ho
  · rename_i i
    simp only [Bool.and_eq_true, beq_iff_eq] at ho
    obtain ⟨rfl, hw⟩ := ho
    split at H
    · obtain ⟨hos, H⟩ := H
      intro H0 locs lsM P L B1 B2 B3
      refine va_mmax hx hb (hml.trans L.1.symm) hown (hts _ (wGd_mem hw)) (hts _ (lib_word (by simp))) (hts _ (lib_word (by simp))) (hts _ (lib_word (by simp))) (by omega) (by have := okStack_sum (X := X) hos; omega) hfit.1 hfit.2 hd (hK _ _ _ H _ _ _ P L B1 B2 B3)
    · exact H.elim
  · cases ho
theorem sd_prim4 {X : CX} {KS : CX → State → Prop} {p : Program} {l : Launch} {e : Env} {R : Room} {s : State} {m : MethodId} {args : Array Value} {below : List Frame} {meth : Method} {c : Code} {nL n0 u0 : Nat} {Q : State → Prop} {cc : ByteArray} {own : String} {ini : Bool} {pcOf : Nat → Nat} {pc len pl : Nat} {raw : Instr} {call : Nat → List Value → PH → (Option Value → PH → Prop) → Prop} {jump : Nat → List Value → List Value → PH → Prop} {fin : Option Value → PH → Prop} {rk : Nat} {K : List Value → List Value → PH → Prop} {ls st : List Value} {h : PH}  (hx : p.tables.exec = Jvm.exec) (hb : c.code = cc) (hd : decode cc pc = .ok (raw, len)) (ho : okI own ini nL pcOf pc raw len pl (.invokedynamic 4) = true) (hK : ∀ ls st h, K ls st h → GoW X p l e R s m args below meth c nL n0 u0 Q (pc + len) ls st h) (hown : s.vm.findClass own = some m.cls) (hts : ∀ w ∈ lw_good, w.before args s = true) (hKU : KU X KS s) (hml : c.maxLocals = nL) (hR1 : 6 ≤ R.frames) (hR2 : 600 ≤ R.locals) (hfit : hN h - n0 ≤ R.cells ∧ hU h - u0 ≤ R.slots) (H : wpI call jump fin rk (.invokedynamic 4) K ls st h) : GoW X p l e R s m args below meth c nL n0 u0 Q pc ls st h := by
  simp only [wpI] at H
  simp only [okI] at ho
  split at ho
  · rename_i i
    simp only [Bool.and_eq_true, beq_iff_eq] at ho
    obtain ⟨rfl, hw⟩ := ho
    split at H
    · obtain ⟨hos, H⟩ := H
      intro H0 locs lsM P L B1 B2 B3
      refine va_mmin hx hb (hml.trans L.1.symm) hown (hts _ (wGd_mem hw)) (hts _ (lib_word (by simp))) (hts _ (lib_word (by simp))) (hts _ (lib_word (by simp))) (by omega) (by have := okStack_sum (X := X) hos; omega) hfit.1 hfit.2 hd (hK _ _ _ H _ _ _ P L B1 B2 B3)
    · exact H.elim
  · cases ho
theorem sd_prim5 {X : CX} {KS : CX → State → Prop} {p : Program} {l : Launch} {e : Env} {R : Room} {s : State} {m : MethodId} {args : Array Value} {below : List Frame} {meth : Method} {c : Code} {nL n0 u0 : Nat} {Q : State → Prop} {cc : ByteArray} {own : String} {ini : Bool} {pcOf : Nat → Nat} {pc len pl : Nat} {raw : Instr} {call : Nat → List Value → PH → (Option Value → PH → Prop) → Prop} {jump : Nat → List Value → List Value → PH → Prop} {fin : Option Value → PH → Prop} {rk : Nat} {K : List Value → List Value → PH → Prop} {ls st : List Value} {h : PH}  (hx : p.tables.exec = Jvm.exec) (hb : c.code = cc) (hd : decode cc pc = .ok (raw, len)) (ho : okI own ini nL pcOf pc raw len pl (.invokedynamic 5) = true) (hK : ∀ ls st h, K ls st h → GoW X p l e R s m args below meth c nL n0 u0 Q (pc + len) ls st h) (hown : s.vm.findClass own = some m.cls) (hts : ∀ w ∈ lw_good, w.before args s = true) (hKU : KU X KS s) (hml : c.maxLocals = nL) (hR1 : 6 ≤ R.frames) (hR2 : 600 ≤ R.locals) (hfit : hN h - n0 ≤ R.cells ∧ hU h - u0 ≤ R.slots) (H : wpI call jump fin rk (.invokedynamic 5) K ls st h) : GoW X p l e R s m args below meth c nL n0 u0 Q pc ls st h := by
  simp only [wpI] at H
  simp only [okI] at ho
  split at ho
  · rename_i i
    simp only [Bool.and_eq_true, beq_iff_eq] at ho
    obtain ⟨rfl, hw⟩ := ho
    split at H
    · obtain ⟨hos, H⟩ := H
      intro H0 locs lsM P L B1 B2 B3
      exact W.objInit hx hb hown (hts _ (wGd_mem hw)) (hts _ (lib_word (by simp))) (hts _ (lib_word (by simp))) rfl (L.1.trans hml.symm) rfl hd (by omega) (by have := okStack_sum (X := X) hos; show 2 * 0 + _ + 12 ≤ _; omega) (hK _ _ _ H _ _ _ P L B1 B2 B3)
    · exact H.elim
  · cases ho

theorem clampI {z : Int32} (h : 0 ≤ z) : z.toInt = (z.toNatClampNeg : Int) := by
  rw [Int32.le_iff_toInt_le] at h
  have e : z.toNatClampNeg = z.toInt.toNat := rfl
  rw [e]
  have : (0 : Int32).toInt = 0 := rfl
  omega
theorem nlt0 {z : Int32} (h : 0 ≤ z) : ¬ z < 0 := by
  rw [Int32.le_iff_toInt_le] at h
  rw [Int32.lt_iff_toInt_lt]
  omega
theorem nfw : nativeFrameWords "java/lang/System" "arraycopy" 5 ≤ 200 := by decide
theorem sd_prim0 {X : CX} {KS : CX → State → Prop} {p : Program} {l : Launch} {e : Env} {R : Room} {s : State} {m : MethodId} {args : Array Value} {below : List Frame} {meth : Method} {c : Code} {nL n0 u0 : Nat} {Q : State → Prop} {cc : ByteArray} {own : String} {ini : Bool} {pcOf : Nat → Nat} {pc len pl : Nat} {raw : Instr} {call : Nat → List Value → PH → (Option Value → PH → Prop) → Prop} {jump : Nat → List Value → List Value → PH → Prop} {fin : Option Value → PH → Prop} {rk : Nat} {K : List Value → List Value → PH → Prop} {ls st : List Value} {h : PH}  (hx : p.tables.exec = Jvm.exec) (hb : c.code = cc) (hd : decode cc pc = .ok (raw, len)) (ho : okI own ini nL pcOf pc raw len pl (.invokedynamic 0) = true) (hK : ∀ ls st h, K ls st h → GoW X p l e R s m args below meth c nL n0 u0 Q (pc + len) ls st h) (hown : s.vm.findClass own = some m.cls) (hts : ∀ w ∈ lw_good, w.before args s = true) (hKU : KU X KS s) (hml : c.maxLocals = nL) (hR1 : 6 ≤ R.frames) (hR2 : 600 ≤ R.locals) (hfit : hN h - n0 ≤ R.cells ∧ hU h - u0 ≤ R.slots) (H : wpI call jump fin rk (.invokedynamic 0) K ls st h) : GoW X p l e R s m args below meth c nL n0 u0 Q pc ls st h := by
  simp only [wpI] at H
  simp only [okI] at ho
  split at ho
  · rename_i i
    simp only [Bool.and_eq_true, beq_iff_eq] at ho
    obtain ⟨rfl, hw⟩ := ho
    split at H
    · rename_i n dp dst sp src st'
      obtain ⟨ht0, ht1, hn0, hdp0, hsp0, hs, hd', hos, H⟩ := H
      intro H0 locs lsM P L B1 B2 B3
      obtain ⟨cs, c1, c2, c3, c4, c5⟩ := P.ints hKU ht0
      have hat : isAT (hT h dst) = true := by rw [ht1]; rfl
      obtain ⟨g1, g2, d1⟩ := P.arr hat
      rw [ht1] at d1
      have d1 : H0[ad X dst]? = some (arrV (xA X 100) (hL h dst) (fun j => .int (hI h dst j))) := d1
      obtain ⟨hs6, k0, hk0, cm0, hkk0⟩ := c2
      obtain ⟨-, k1, hk1, cm1, hkk1⟩ := (hKU.2.1 100 rfl).1 (hL h dst) (fun j => .int (hI h dst j))
      have hkk1 : k1.kind = .array cm1 .int := hkk1
      have en := clampI hn0
      have ed := clampI hdp0
      have es := clampI hsp0
      intro T hT' X0
      obtain ⟨vm', X', step⟩ := X0.arraycopy hx hown (hts _ (wGd_mem hw)) (hts _ (lib_word (by simp))) (hts _ (lib_word (by simp))) (hts _ (lib_word (by simp))) (src := ad X src) (dst := ad X dst) (cs := cs) (cd := arrV (xA X 100) (hL h dst) (fun j => .int (hI h dst j))) (srcPos := sp) (destPos := dp) (n := n) (by rw [hT']; exact c1) (by rw [hT']; exact d1)
        hs6 (fun _ z => by cases z) c3 (fun z => by cases z) hk0 hk1 hkk0 hkk1 (by simp [refKind]) (nlt0 hsp0) (nlt0 hdp0) (nlt0 hn0)
        (by rw [es, en]; have := c4.1; omega)
        (by rw [ed, en, arrV_size]; omega)
        (fun vm₁ _ i hi => by
          have e : cs.slots.getD (sp.toNatClampNeg + i) .null = .int (hI h src (sp.toNatClampNeg + i)) := by
            rw [Array.getD_eq_getD_getElem?, c5 _ (by omega)]
            rfl
          refine ⟨?_, ?_⟩
          · rw [e]; rfl
          · rw [e]; exact trivial)
        (g := F0 m pc lsM ((.int n :: .int dp :: .ref dst :: .int sp :: .ref src :: st').map (rnv X))) rfl (by rw [hml]; exact L.1) (rest := st'.map (rnv X)) rfl (by rw [hb]; exact hd) (by omega) (by have := okStack_sum (X := X) hos; have := nfw; show 2 * 0 + _ + _ ≤ _; omega)
      have e1 : copied cs (arrV (xA X 100) (hL h dst) (fun j => .int (hI h dst j))) sp dp n = arrV (xA X 100) (hL h dst) (fun j => .int (va_cpy (hI h src) (hI h dst) sp.toNatClampNeg dp.toNatClampNeg n.toNatClampNeg j)) := va_copiedX (fun z => .int z) cs (xA X 100) (hI h src) (hI h dst) c5 hs
      rw [e1] at X' step
      generalize hc1 : arrV (xA X 100) (hL h dst) (fun j => .int (va_cpy (hI h src) (hI h dst) sp.toNatClampNeg dp.toNatClampNeg n.toNatClampNeg j)) = cn at X' step
      have hheap : ((T.setVm vm').setCell (ad X dst) cn).heap = H0.setIfInBounds (ad X dst) cn := by rw [← hT']; rfl
      have hl : ad X dst < H0.size := (Array.getElem?_eq_some_iff.mp d1).1
      have oq : ∀ q : Nat, q ≠ ad X dst → (H0.setIfInBounds (ad X dst) cn)[q]? = H0[q]? := fun q hq => by simp [Array.getElem?_setIfInBounds, Ne.symm hq]
      have hP' : Pic X (cpI h src sp.toNatClampNeg dst dp.toNatClampNeg n.toNatClampNeg) (H0.setIfInBounds (ad X dst) cn) := by
        refine P.upd (a := dst) (by show hT h dst ≠ 0; omega) g2 g1 rfl (by simp) oq (fun b hb => ⟨rfl, rfl, fun j => by simp [cpI, hI, hb], fun _ => rfl, fun _ => rfl⟩) (Or.inr (Or.inl ⟨hat, g2, ?_⟩))
        show (H0.setIfInBounds (ad X dst) cn)[ad X dst]? = some (arrV (xA X (hT h dst)) (hL h dst) _)
        rw [ht1]
        have : (H0.setIfInBounds (ad X dst) cn)[ad X dst]? = some cn := by simp [Array.getElem?_setIfInBounds, hl]
        rw [this, ← hc1]
        congr 2
        funext j
        show Value.int _ = rnv X (evP (cpI h src sp.toNatClampNeg dst dp.toNatClampNeg n.toNatClampNeg) (hT h dst) dst j)
        rw [ht1]
        simp only [evP, rnv, hI, cpI, va_cpy, true_and]
      obtain ⟨t, a1, b1⟩ := hK _ _ _ H _ _ lsM hP' L (fun q hq => by
        rcases List.mem_append.mp hq with z | z
        · exact B1 q z
        · obtain ⟨y, -, hy⟩ := List.mem_map.mp z
          rw [← hy]
          exact ad_le g2) B2 B3 _ hheap X'
      exact ⟨t, step t a1, b1⟩
    · exact H.elim
  · cases ho

/-- a method's end, by what it gives back -/
def EndW (X : CX) (p : Program) (l : Launch) (e : Env) (R : Room) (s : State) (m : MethodId) (args : Array Value) (below : List Frame) (meth : Method) (c : Code) (n0 u0 : Nat) (Q : State → Prop) (cc : ByteArray) (rk : Nat) (r : Option Value) (h : PH) : Prop :=
  ∀ (H : Heap) (locs : List Loc) (lsM : Array Slot) (pc : Nat), Pic X h H → (∀ q ∈ locs, xs0 X ≤ q.base) → n0 ≤ hN h → u0 ≤ hU h →
    (r = none → rk = 0 → decode cc pc = .ok (.return_, 1) → W p l e R s m args below meth c H locs (hN h - n0) (hU h - u0) Q (F0 m pc lsM [])) ∧
    (∀ x, r = some (.int x) → (rk = 1 ∨ rk = 2 ∧ (x = 0 ∨ x = 1)) → decode cc pc = .ok (.ireturn, 1) → W p l e R s m args below meth c H locs (hN h - n0) (hU h - u0) Q (F0 m pc lsM [.int x])) ∧
    (∀ x, r = some (.long x) → rk = 3 → decode cc pc = .ok (.lreturn, 1) → W p l e R s m args below meth c H locs (hN h - n0) (hU h - u0) Q (F0 m pc lsM [.long x])) ∧
    (∀ v, r = some v → rk = 4 → (v = .null ∨ ∃ a, v = .ref a) → decode cc pc = .ok (.areturn, 1) → W p l e R s m args below meth c H locs (hN h - n0) (hU h - u0) Q (F0 m pc lsM [rnv X v]))
theorem sd_return_ {X : CX} {KS : CX → State → Prop} {p : Program} {l : Launch} {e : Env} {R : Room} {s : State} {m : MethodId} {args : Array Value} {below : List Frame} {meth : Method} {c : Code} {nL n0 u0 : Nat} {Q : State → Prop} {cc : ByteArray} {own : String} {ini : Bool} {pcOf : Nat → Nat} {pc len pl : Nat} {raw : Instr} {call : Nat → List Value → PH → (Option Value → PH → Prop) → Prop} {jump : Nat → List Value → List Value → PH → Prop} {fin : Option Value → PH → Prop} {rk : Nat} {K : List Value → List Value → PH → Prop} {ls st : List Value} {h : PH}  (hx : p.tables.exec = Jvm.exec) (hb : c.code = cc) (hd : decode cc pc = .ok (raw, len)) (ho : okI own ini nL pcOf pc raw len pl (.return_) = true) (hE : ∀ r h, fin r h → EndW X p l e R s m args below meth c n0 u0 Q cc rk r h) (H : wpI call jump fin rk (.return_) K ls st h) : GoW X p l e R s m args below meth c nL n0 u0 Q pc ls st h := by
  simp only [okI] at ho
  split at ho
  case _ =>
    cases eq_of_beq ho
    simp only [wpI] at H
    split at H
    · intro H0 locs lsM P L B1 B2 B3
      exact (hE _ _ H.2 H0 locs lsM pc P B1 B2 B3).1 rfl H.1 hd
    · exact H.elim
  all_goals cases ho
theorem sd_ireturn {X : CX} {KS : CX → State → Prop} {p : Program} {l : Launch} {e : Env} {R : Room} {s : State} {m : MethodId} {args : Array Value} {below : List Frame} {meth : Method} {c : Code} {nL n0 u0 : Nat} {Q : State → Prop} {cc : ByteArray} {own : String} {ini : Bool} {pcOf : Nat → Nat} {pc len pl : Nat} {raw : Instr} {call : Nat → List Value → PH → (Option Value → PH → Prop) → Prop} {jump : Nat → List Value → List Value → PH → Prop} {fin : Option Value → PH → Prop} {rk : Nat} {K : List Value → List Value → PH → Prop} {ls st : List Value} {h : PH}  (hx : p.tables.exec = Jvm.exec) (hb : c.code = cc) (hd : decode cc pc = .ok (raw, len)) (ho : okI own ini nL pcOf pc raw len pl (.ireturn) = true) (hE : ∀ r h, fin r h → EndW X p l e R s m args below meth c n0 u0 Q cc rk r h) (H : wpI call jump fin rk (.ireturn) K ls st h) : GoW X p l e R s m args below meth c nL n0 u0 Q pc ls st h := by
  simp only [okI] at ho
  split at ho
  case _ =>
    cases eq_of_beq ho
    simp only [wpI] at H
    split at H
    · intro H0 locs lsM P L B1 B2 B3
      exact (hE _ _ H.2 H0 locs lsM pc P B1 B2 B3).2.1 _ rfl H.1 hd
    · exact H.elim
  all_goals cases ho
theorem sd_lreturn {X : CX} {KS : CX → State → Prop} {p : Program} {l : Launch} {e : Env} {R : Room} {s : State} {m : MethodId} {args : Array Value} {below : List Frame} {meth : Method} {c : Code} {nL n0 u0 : Nat} {Q : State → Prop} {cc : ByteArray} {own : String} {ini : Bool} {pcOf : Nat → Nat} {pc len pl : Nat} {raw : Instr} {call : Nat → List Value → PH → (Option Value → PH → Prop) → Prop} {jump : Nat → List Value → List Value → PH → Prop} {fin : Option Value → PH → Prop} {rk : Nat} {K : List Value → List Value → PH → Prop} {ls st : List Value} {h : PH}  (hx : p.tables.exec = Jvm.exec) (hb : c.code = cc) (hd : decode cc pc = .ok (raw, len)) (ho : okI own ini nL pcOf pc raw len pl (.lreturn) = true) (hE : ∀ r h, fin r h → EndW X p l e R s m args below meth c n0 u0 Q cc rk r h) (H : wpI call jump fin rk (.lreturn) K ls st h) : GoW X p l e R s m args below meth c nL n0 u0 Q pc ls st h := by
  simp only [okI] at ho
  split at ho
  case _ =>
    cases eq_of_beq ho
    simp only [wpI] at H
    split at H
    · intro H0 locs lsM P L B1 B2 B3
      exact (hE _ _ H.2 H0 locs lsM pc P B1 B2 B3).2.2.1 _ rfl H.1 hd
    · exact H.elim
  all_goals cases ho
theorem sd_areturn {X : CX} {KS : CX → State → Prop} {p : Program} {l : Launch} {e : Env} {R : Room} {s : State} {m : MethodId} {args : Array Value} {below : List Frame} {meth : Method} {c : Code} {nL n0 u0 : Nat} {Q : State → Prop} {cc : ByteArray} {own : String} {ini : Bool} {pcOf : Nat → Nat} {pc len pl : Nat} {raw : Instr} {call : Nat → List Value → PH → (Option Value → PH → Prop) → Prop} {jump : Nat → List Value → List Value → PH → Prop} {fin : Option Value → PH → Prop} {rk : Nat} {K : List Value → List Value → PH → Prop} {ls st : List Value} {h : PH}  (hx : p.tables.exec = Jvm.exec) (hb : c.code = cc) (hd : decode cc pc = .ok (raw, len)) (ho : okI own ini nL pcOf pc raw len pl (.areturn) = true) (hE : ∀ r h, fin r h → EndW X p l e R s m args below meth c n0 u0 Q cc rk r h) (H : wpI call jump fin rk (.areturn) K ls st h) : GoW X p l e R s m args below meth c nL n0 u0 Q pc ls st h := by
  simp only [okI] at ho
  split at ho
  case _ =>
    cases eq_of_beq ho
    simp only [wpI] at H
    split at H
    · intro H0 locs lsM P L B1 B2 B3
      exact (hE _ _ H.2 H0 locs lsM pc P B1 B2 B3).2.2.2 _ rfl H.1 (Or.inr ⟨_, rfl⟩) hd
    · intro H0 locs lsM P L B1 B2 B3
      exact (hE _ _ H.2 H0 locs lsM pc P B1 B2 B3).2.2.2 _ rfl H.1 (Or.inl rfl) hd
    · exact H.elim
  all_goals cases ho

/-- what is asked of the constants' texts: how one is loaded, its length, its signs -/
def StrW (X : CX) (KS : CX → State → Prop) : Prop := ∀ {p : Program} {l : Launch} {e : Env} {R : Room} {s : State} {m : MethodId} {args : Array Value} {below : List Frame} {meth : Method} {c : Code} {nL n0 u0 : Nat} {Q : State → Prop} {cc : ByteArray} {own : String} {pc : Nat} {ls st : List Value} {h : PH},
  p.tables.exec = Jvm.exec → c.code = cc → c.maxLocals = nL → s.vm.findClass own = some m.cls → (∀ w ∈ lw_good, w.before args s = true) → KU X KS s → 6 ≤ R.frames → 600 ≤ R.locals → (hN h - n0 ≤ R.cells ∧ hU h - u0 ≤ R.slots) →
  (∀ i k, own = "DreamNets$Tape" → Cond.stringRef own i (pStr k) ∈ lw_tbl → 10 ≤ k → k < 28 → hT h k = 130 → decode cc pc = .ok (.ldc i, 2) → GoW X p l e R s m args below meth c nL n0 u0 Q (pc + 2) ls (.ref k :: st) h → GoW X p l e R s m args below meth c nL n0 u0 Q pc ls st h) ∧
  (∀ i a, Cond.methodLink own i ⟨"java/lang/String", "length", "()I"⟩ ∈ lw_good → hT h a = 130 → okStack st = true → decode cc pc = .ok (.invokevirtual i, 3) → GoW X p l e R s m args below meth c nL n0 u0 Q (pc + 3) ls (.int (nI (hL h a)) :: st) h → GoW X p l e R s m args below meth c nL n0 u0 Q pc ls (.ref a :: st) h) ∧
  (∀ i a j, Cond.methodLink own i ⟨"java/lang/String", "charAt", "(I)C"⟩ ∈ lw_good → hT h a = 130 → inb j (hL h a) → okStack st = true → decode cc pc = .ok (.invokevirtual i, 3) → GoW X p l e R s m args below meth c nL n0 u0 Q (pc + 3) ls (.int (hI h a j.toNatClampNeg) :: st) h → GoW X p l e R s m args below meth c nL n0 u0 Q pc ls (.int j :: .ref a :: st) h)
theorem sd_ldc {X : CX} {KS : CX → State → Prop} {p : Program} {l : Launch} {e : Env} {R : Room} {s : State} {m : MethodId} {args : Array Value} {below : List Frame} {meth : Method} {c : Code} {nL n0 u0 : Nat} {Q : State → Prop} {cc : ByteArray} {own : String} {ini : Bool} {pcOf : Nat → Nat} {pc len pl : Nat} {raw : Instr} {call : Nat → List Value → PH → (Option Value → PH → Prop) → Prop} {jump : Nat → List Value → List Value → PH → Prop} {fin : Option Value → PH → Prop} {rk : Nat} {K : List Value → List Value → PH → Prop} {ls st : List Value} {h : PH} {k : Nat} (hx : p.tables.exec = Jvm.exec) (hb : c.code = cc) (hd : decode cc pc = .ok (raw, len)) (ho : okI own ini nL pcOf pc raw len pl (.ldc k) = true) (hK : ∀ ls st h, K ls st h → GoW X p l e R s m args below meth c nL n0 u0 Q (pc + len) ls st h) (hown : s.vm.findClass own = some m.cls) (hts : ∀ w ∈ lw_good, w.before args s = true) (hKU : KU X KS s) (hml : c.maxLocals = nL) (hR1 : 6 ≤ R.frames) (hR2 : 600 ≤ R.locals) (hfit : hN h - n0 ≤ R.cells ∧ hU h - u0 ≤ R.slots) (hSW : StrW X KS) (H : wpI call jump fin rk (.ldc k) K ls st h) : GoW X p l e R s m args below meth c nL n0 u0 Q pc ls st h := by
  simp only [wpI] at H
  obtain ⟨ht, H⟩ := H
  simp only [okI] at ho
  split at ho
  · rename_i i
    simp only [Bool.and_eq_true, beq_iff_eq, decide_eq_true_eq] at ho
    obtain ⟨⟨⟨⟨rfl, ho1⟩, hw⟩, hk1⟩, hk2⟩ := ho
    exact (hSW hx hb hml hown hts hKU hR1 hR2 hfit).1 i k ho1 (wAt_mem hw) hk1 hk2 ht hd (hK _ _ _ H)
  · cases ho
theorem sd_prim1 {X : CX} {KS : CX → State → Prop} {p : Program} {l : Launch} {e : Env} {R : Room} {s : State} {m : MethodId} {args : Array Value} {below : List Frame} {meth : Method} {c : Code} {nL n0 u0 : Nat} {Q : State → Prop} {cc : ByteArray} {own : String} {ini : Bool} {pcOf : Nat → Nat} {pc len pl : Nat} {raw : Instr} {call : Nat → List Value → PH → (Option Value → PH → Prop) → Prop} {jump : Nat → List Value → List Value → PH → Prop} {fin : Option Value → PH → Prop} {rk : Nat} {K : List Value → List Value → PH → Prop} {ls st : List Value} {h : PH}  (hx : p.tables.exec = Jvm.exec) (hb : c.code = cc) (hd : decode cc pc = .ok (raw, len)) (ho : okI own ini nL pcOf pc raw len pl (.invokedynamic 1) = true) (hK : ∀ ls st h, K ls st h → GoW X p l e R s m args below meth c nL n0 u0 Q (pc + len) ls st h) (hown : s.vm.findClass own = some m.cls) (hts : ∀ w ∈ lw_good, w.before args s = true) (hKU : KU X KS s) (hml : c.maxLocals = nL) (hR1 : 6 ≤ R.frames) (hR2 : 600 ≤ R.locals) (hfit : hN h - n0 ≤ R.cells ∧ hU h - u0 ≤ R.slots) (hSW : StrW X KS) (H : wpI call jump fin rk (.invokedynamic 1) K ls st h) : GoW X p l e R s m args below meth c nL n0 u0 Q pc ls st h := by
  simp only [wpI] at H
  simp only [okI] at ho
  split at ho
  · rename_i i
    simp only [Bool.and_eq_true, beq_iff_eq] at ho
    obtain ⟨rfl, hw⟩ := ho
    split at H
    · obtain ⟨ht, hos, H⟩ := H
      exact (hSW hx hb hml hown hts hKU hR1 hR2 hfit).2.1 i _ (wGd_mem hw) ht hos hd (hK _ _ _ H)
    · exact H.elim
  · cases ho
theorem sd_prim2 {X : CX} {KS : CX → State → Prop} {p : Program} {l : Launch} {e : Env} {R : Room} {s : State} {m : MethodId} {args : Array Value} {below : List Frame} {meth : Method} {c : Code} {nL n0 u0 : Nat} {Q : State → Prop} {cc : ByteArray} {own : String} {ini : Bool} {pcOf : Nat → Nat} {pc len pl : Nat} {raw : Instr} {call : Nat → List Value → PH → (Option Value → PH → Prop) → Prop} {jump : Nat → List Value → List Value → PH → Prop} {fin : Option Value → PH → Prop} {rk : Nat} {K : List Value → List Value → PH → Prop} {ls st : List Value} {h : PH}  (hx : p.tables.exec = Jvm.exec) (hb : c.code = cc) (hd : decode cc pc = .ok (raw, len)) (ho : okI own ini nL pcOf pc raw len pl (.invokedynamic 2) = true) (hK : ∀ ls st h, K ls st h → GoW X p l e R s m args below meth c nL n0 u0 Q (pc + len) ls st h) (hown : s.vm.findClass own = some m.cls) (hts : ∀ w ∈ lw_good, w.before args s = true) (hKU : KU X KS s) (hml : c.maxLocals = nL) (hR1 : 6 ≤ R.frames) (hR2 : 600 ≤ R.locals) (hfit : hN h - n0 ≤ R.cells ∧ hU h - u0 ≤ R.slots) (hSW : StrW X KS) (H : wpI call jump fin rk (.invokedynamic 2) K ls st h) : GoW X p l e R s m args below meth c nL n0 u0 Q pc ls st h := by
  simp only [wpI] at H
  simp only [okI] at ho
  split at ho
  · rename_i i
    simp only [Bool.and_eq_true, beq_iff_eq] at ho
    obtain ⟨rfl, hw⟩ := ho
    split at H
    · obtain ⟨ht, hi, hos, H⟩ := H
      exact (hSW hx hb hml hown hts hKU hR1 hR2 hfit).2.2 i _ _ (wGd_mem hw) ht hi hos hd (hK _ _ _ H)
    · exact H.elim
  · cases ho
end
