section
/-- from here the first machine comes to Q, wherever it stands as the second does -/
def GoW (X : CX) (p : Program) (l : Launch) (e : Env) (R : Room) (s : State) (m : MethodId) (args : Array Value) (below : List Frame) (meth : Method) (c : Code) (nL n0 u0 : Nat) (Q : State → Prop) (pc : Nat) (ls st : List Value) (h : PH) : Prop :=
  ∀ (H : Heap) (locs : List Loc) (lsM : Array Slot), Pic X h H → LOK X nL lsM ls → (∀ q ∈ locs, xs0 X ≤ q.base) → n0 ≤ hN h → u0 ≤ hU h → W p l e R s m args below meth c H locs (hN h - n0) (hU h - u0) Q (F0 m pc lsM (st.map (rnv X)))
theorem sd_iadd {X : CX} {KS : CX → State → Prop} {p : Program} {l : Launch} {e : Env} {R : Room} {s : State} {m : MethodId} {args : Array Value} {below : List Frame} {meth : Method} {c : Code} {nL n0 u0 : Nat} {Q : State → Prop} {cc : ByteArray} {own : String} {ini : Bool} {pcOf : Nat → Nat} {pc len pl : Nat} {raw : Instr} {call : Nat → List Value → PH → (Option Value → PH → Prop) → Prop} {jump : Nat → List Value → List Value → PH → Prop} {fin : Option Value → PH → Prop} {rk : Nat} {K : List Value → List Value → PH → Prop} {ls st : List Value} {h : PH}  (hx : p.tables.exec = Jvm.exec) (hb : c.code = cc) (hd : decode cc pc = .ok (raw, len)) (ho : okI own ini nL pcOf pc raw len pl (.iadd) = true) (hK : ∀ ls st h, K ls st h → GoW X p l e R s m args below meth c nL n0 u0 Q (pc + len) ls st h) (H : wpI call jump fin rk (.iadd) K ls st h) : GoW X p l e R s m args below meth c nL n0 u0 Q pc ls st h := by
  simp only [okI] at ho
  split at ho
  case _ =>
    cases eq_of_beq ho
    simp only [wpI] at H
    split at H
    · intro H0 locs lsM P L B1 B2 B3
      exact lv_iadd hx hb hd (hK _ _ _ H _ _ _ P L B1 B2 B3)
    · exact H.elim
  all_goals cases ho
theorem sd_isub {X : CX} {KS : CX → State → Prop} {p : Program} {l : Launch} {e : Env} {R : Room} {s : State} {m : MethodId} {args : Array Value} {below : List Frame} {meth : Method} {c : Code} {nL n0 u0 : Nat} {Q : State → Prop} {cc : ByteArray} {own : String} {ini : Bool} {pcOf : Nat → Nat} {pc len pl : Nat} {raw : Instr} {call : Nat → List Value → PH → (Option Value → PH → Prop) → Prop} {jump : Nat → List Value → List Value → PH → Prop} {fin : Option Value → PH → Prop} {rk : Nat} {K : List Value → List Value → PH → Prop} {ls st : List Value} {h : PH}  (hx : p.tables.exec = Jvm.exec) (hb : c.code = cc) (hd : decode cc pc = .ok (raw, len)) (ho : okI own ini nL pcOf pc raw len pl (.isub) = true) (hK : ∀ ls st h, K ls st h → GoW X p l e R s m args below meth c nL n0 u0 Q (pc + len) ls st h) (H : wpI call jump fin rk (.isub) K ls st h) : GoW X p l e R s m args below meth c nL n0 u0 Q pc ls st h := by
  simp only [okI] at ho
  split at ho
  case _ =>
    cases eq_of_beq ho
    simp only [wpI] at H
    split at H
    · intro H0 locs lsM P L B1 B2 B3
      exact lv_isub hx hb hd (hK _ _ _ H _ _ _ P L B1 B2 B3)
    · exact H.elim
  all_goals cases ho
theorem sd_imul {X : CX} {KS : CX → State → Prop} {p : Program} {l : Launch} {e : Env} {R : Room} {s : State} {m : MethodId} {args : Array Value} {below : List Frame} {meth : Method} {c : Code} {nL n0 u0 : Nat} {Q : State → Prop} {cc : ByteArray} {own : String} {ini : Bool} {pcOf : Nat → Nat} {pc len pl : Nat} {raw : Instr} {call : Nat → List Value → PH → (Option Value → PH → Prop) → Prop} {jump : Nat → List Value → List Value → PH → Prop} {fin : Option Value → PH → Prop} {rk : Nat} {K : List Value → List Value → PH → Prop} {ls st : List Value} {h : PH}  (hx : p.tables.exec = Jvm.exec) (hb : c.code = cc) (hd : decode cc pc = .ok (raw, len)) (ho : okI own ini nL pcOf pc raw len pl (.imul) = true) (hK : ∀ ls st h, K ls st h → GoW X p l e R s m args below meth c nL n0 u0 Q (pc + len) ls st h) (H : wpI call jump fin rk (.imul) K ls st h) : GoW X p l e R s m args below meth c nL n0 u0 Q pc ls st h := by
  simp only [okI] at ho
  split at ho
  case _ =>
    cases eq_of_beq ho
    simp only [wpI] at H
    split at H
    · intro H0 locs lsM P L B1 B2 B3
      exact lv_imul hx hb hd (hK _ _ _ H _ _ _ P L B1 B2 B3)
    · exact H.elim
  all_goals cases ho
theorem sd_iand {X : CX} {KS : CX → State → Prop} {p : Program} {l : Launch} {e : Env} {R : Room} {s : State} {m : MethodId} {args : Array Value} {below : List Frame} {meth : Method} {c : Code} {nL n0 u0 : Nat} {Q : State → Prop} {cc : ByteArray} {own : String} {ini : Bool} {pcOf : Nat → Nat} {pc len pl : Nat} {raw : Instr} {call : Nat → List Value → PH → (Option Value → PH → Prop) → Prop} {jump : Nat → List Value → List Value → PH → Prop} {fin : Option Value → PH → Prop} {rk : Nat} {K : List Value → List Value → PH → Prop} {ls st : List Value} {h : PH}  (hx : p.tables.exec = Jvm.exec) (hb : c.code = cc) (hd : decode cc pc = .ok (raw, len)) (ho : okI own ini nL pcOf pc raw len pl (.iand) = true) (hK : ∀ ls st h, K ls st h → GoW X p l e R s m args below meth c nL n0 u0 Q (pc + len) ls st h) (H : wpI call jump fin rk (.iand) K ls st h) : GoW X p l e R s m args below meth c nL n0 u0 Q pc ls st h := by
  simp only [okI] at ho
  split at ho
  case _ =>
    cases eq_of_beq ho
    simp only [wpI] at H
    split at H
    · intro H0 locs lsM P L B1 B2 B3
      exact lv_iand hx hb hd (hK _ _ _ H _ _ _ P L B1 B2 B3)
    · exact H.elim
  all_goals cases ho
theorem sd_ior {X : CX} {KS : CX → State → Prop} {p : Program} {l : Launch} {e : Env} {R : Room} {s : State} {m : MethodId} {args : Array Value} {below : List Frame} {meth : Method} {c : Code} {nL n0 u0 : Nat} {Q : State → Prop} {cc : ByteArray} {own : String} {ini : Bool} {pcOf : Nat → Nat} {pc len pl : Nat} {raw : Instr} {call : Nat → List Value → PH → (Option Value → PH → Prop) → Prop} {jump : Nat → List Value → List Value → PH → Prop} {fin : Option Value → PH → Prop} {rk : Nat} {K : List Value → List Value → PH → Prop} {ls st : List Value} {h : PH}  (hx : p.tables.exec = Jvm.exec) (hb : c.code = cc) (hd : decode cc pc = .ok (raw, len)) (ho : okI own ini nL pcOf pc raw len pl (.ior) = true) (hK : ∀ ls st h, K ls st h → GoW X p l e R s m args below meth c nL n0 u0 Q (pc + len) ls st h) (H : wpI call jump fin rk (.ior) K ls st h) : GoW X p l e R s m args below meth c nL n0 u0 Q pc ls st h := by
  simp only [okI] at ho
  split at ho
  case _ =>
    cases eq_of_beq ho
    simp only [wpI] at H
    split at H
    · intro H0 locs lsM P L B1 B2 B3
      exact lv_ior hx hb hd (hK _ _ _ H _ _ _ P L B1 B2 B3)
    · exact H.elim
  all_goals cases ho
theorem sd_ixor {X : CX} {KS : CX → State → Prop} {p : Program} {l : Launch} {e : Env} {R : Room} {s : State} {m : MethodId} {args : Array Value} {below : List Frame} {meth : Method} {c : Code} {nL n0 u0 : Nat} {Q : State → Prop} {cc : ByteArray} {own : String} {ini : Bool} {pcOf : Nat → Nat} {pc len pl : Nat} {raw : Instr} {call : Nat → List Value → PH → (Option Value → PH → Prop) → Prop} {jump : Nat → List Value → List Value → PH → Prop} {fin : Option Value → PH → Prop} {rk : Nat} {K : List Value → List Value → PH → Prop} {ls st : List Value} {h : PH}  (hx : p.tables.exec = Jvm.exec) (hb : c.code = cc) (hd : decode cc pc = .ok (raw, len)) (ho : okI own ini nL pcOf pc raw len pl (.ixor) = true) (hK : ∀ ls st h, K ls st h → GoW X p l e R s m args below meth c nL n0 u0 Q (pc + len) ls st h) (H : wpI call jump fin rk (.ixor) K ls st h) : GoW X p l e R s m args below meth c nL n0 u0 Q pc ls st h := by
  simp only [okI] at ho
  split at ho
  case _ =>
    cases eq_of_beq ho
    simp only [wpI] at H
    split at H
    · intro H0 locs lsM P L B1 B2 B3
      exact lv_ixor hx hb hd (hK _ _ _ H _ _ _ P L B1 B2 B3)
    · exact H.elim
  all_goals cases ho
theorem sd_ladd {X : CX} {KS : CX → State → Prop} {p : Program} {l : Launch} {e : Env} {R : Room} {s : State} {m : MethodId} {args : Array Value} {below : List Frame} {meth : Method} {c : Code} {nL n0 u0 : Nat} {Q : State → Prop} {cc : ByteArray} {own : String} {ini : Bool} {pcOf : Nat → Nat} {pc len pl : Nat} {raw : Instr} {call : Nat → List Value → PH → (Option Value → PH → Prop) → Prop} {jump : Nat → List Value → List Value → PH → Prop} {fin : Option Value → PH → Prop} {rk : Nat} {K : List Value → List Value → PH → Prop} {ls st : List Value} {h : PH}  (hx : p.tables.exec = Jvm.exec) (hb : c.code = cc) (hd : decode cc pc = .ok (raw, len)) (ho : okI own ini nL pcOf pc raw len pl (.ladd) = true) (hK : ∀ ls st h, K ls st h → GoW X p l e R s m args below meth c nL n0 u0 Q (pc + len) ls st h) (H : wpI call jump fin rk (.ladd) K ls st h) : GoW X p l e R s m args below meth c nL n0 u0 Q pc ls st h := by
  simp only [okI] at ho
  split at ho
  case _ =>
    cases eq_of_beq ho
    simp only [wpI] at H
    split at H
    · intro H0 locs lsM P L B1 B2 B3
      exact lv_ladd hx hb hd (hK _ _ _ H _ _ _ P L B1 B2 B3)
    · exact H.elim
  all_goals cases ho
theorem sd_lsub {X : CX} {KS : CX → State → Prop} {p : Program} {l : Launch} {e : Env} {R : Room} {s : State} {m : MethodId} {args : Array Value} {below : List Frame} {meth : Method} {c : Code} {nL n0 u0 : Nat} {Q : State → Prop} {cc : ByteArray} {own : String} {ini : Bool} {pcOf : Nat → Nat} {pc len pl : Nat} {raw : Instr} {call : Nat → List Value → PH → (Option Value → PH → Prop) → Prop} {jump : Nat → List Value → List Value → PH → Prop} {fin : Option Value → PH → Prop} {rk : Nat} {K : List Value → List Value → PH → Prop} {ls st : List Value} {h : PH}  (hx : p.tables.exec = Jvm.exec) (hb : c.code = cc) (hd : decode cc pc = .ok (raw, len)) (ho : okI own ini nL pcOf pc raw len pl (.lsub) = true) (hK : ∀ ls st h, K ls st h → GoW X p l e R s m args below meth c nL n0 u0 Q (pc + len) ls st h) (H : wpI call jump fin rk (.lsub) K ls st h) : GoW X p l e R s m args below meth c nL n0 u0 Q pc ls st h := by
  simp only [okI] at ho
  split at ho
  case _ =>
    cases eq_of_beq ho
    simp only [wpI] at H
    split at H
    · intro H0 locs lsM P L B1 B2 B3
      exact lv_lsub hx hb hd (hK _ _ _ H _ _ _ P L B1 B2 B3)
    · exact H.elim
  all_goals cases ho
theorem sd_lmul {X : CX} {KS : CX → State → Prop} {p : Program} {l : Launch} {e : Env} {R : Room} {s : State} {m : MethodId} {args : Array Value} {below : List Frame} {meth : Method} {c : Code} {nL n0 u0 : Nat} {Q : State → Prop} {cc : ByteArray} {own : String} {ini : Bool} {pcOf : Nat → Nat} {pc len pl : Nat} {raw : Instr} {call : Nat → List Value → PH → (Option Value → PH → Prop) → Prop} {jump : Nat → List Value → List Value → PH → Prop} {fin : Option Value → PH → Prop} {rk : Nat} {K : List Value → List Value → PH → Prop} {ls st : List Value} {h : PH}  (hx : p.tables.exec = Jvm.exec) (hb : c.code = cc) (hd : decode cc pc = .ok (raw, len)) (ho : okI own ini nL pcOf pc raw len pl (.lmul) = true) (hK : ∀ ls st h, K ls st h → GoW X p l e R s m args below meth c nL n0 u0 Q (pc + len) ls st h) (H : wpI call jump fin rk (.lmul) K ls st h) : GoW X p l e R s m args below meth c nL n0 u0 Q pc ls st h := by
  simp only [okI] at ho
  split at ho
  case _ =>
    cases eq_of_beq ho
    simp only [wpI] at H
    split at H
    · intro H0 locs lsM P L B1 B2 B3
      exact lv_lmul hx hb hd (hK _ _ _ H _ _ _ P L B1 B2 B3)
    · exact H.elim
  all_goals cases ho
theorem sd_land {X : CX} {KS : CX → State → Prop} {p : Program} {l : Launch} {e : Env} {R : Room} {s : State} {m : MethodId} {args : Array Value} {below : List Frame} {meth : Method} {c : Code} {nL n0 u0 : Nat} {Q : State → Prop} {cc : ByteArray} {own : String} {ini : Bool} {pcOf : Nat → Nat} {pc len pl : Nat} {raw : Instr} {call : Nat → List Value → PH → (Option Value → PH → Prop) → Prop} {jump : Nat → List Value → List Value → PH → Prop} {fin : Option Value → PH → Prop} {rk : Nat} {K : List Value → List Value → PH → Prop} {ls st : List Value} {h : PH}  (hx : p.tables.exec = Jvm.exec) (hb : c.code = cc) (hd : decode cc pc = .ok (raw, len)) (ho : okI own ini nL pcOf pc raw len pl (.land) = true) (hK : ∀ ls st h, K ls st h → GoW X p l e R s m args below meth c nL n0 u0 Q (pc + len) ls st h) (H : wpI call jump fin rk (.land) K ls st h) : GoW X p l e R s m args below meth c nL n0 u0 Q pc ls st h := by
  simp only [okI] at ho
  split at ho
  case _ =>
    cases eq_of_beq ho
    simp only [wpI] at H
    split at H
    · intro H0 locs lsM P L B1 B2 B3
      exact lv_land hx hb hd (hK _ _ _ H _ _ _ P L B1 B2 B3)
    · exact H.elim
  all_goals cases ho
theorem sd_lor {X : CX} {KS : CX → State → Prop} {p : Program} {l : Launch} {e : Env} {R : Room} {s : State} {m : MethodId} {args : Array Value} {below : List Frame} {meth : Method} {c : Code} {nL n0 u0 : Nat} {Q : State → Prop} {cc : ByteArray} {own : String} {ini : Bool} {pcOf : Nat → Nat} {pc len pl : Nat} {raw : Instr} {call : Nat → List Value → PH → (Option Value → PH → Prop) → Prop} {jump : Nat → List Value → List Value → PH → Prop} {fin : Option Value → PH → Prop} {rk : Nat} {K : List Value → List Value → PH → Prop} {ls st : List Value} {h : PH}  (hx : p.tables.exec = Jvm.exec) (hb : c.code = cc) (hd : decode cc pc = .ok (raw, len)) (ho : okI own ini nL pcOf pc raw len pl (.lor) = true) (hK : ∀ ls st h, K ls st h → GoW X p l e R s m args below meth c nL n0 u0 Q (pc + len) ls st h) (H : wpI call jump fin rk (.lor) K ls st h) : GoW X p l e R s m args below meth c nL n0 u0 Q pc ls st h := by
  simp only [okI] at ho
  split at ho
  case _ =>
    cases eq_of_beq ho
    simp only [wpI] at H
    split at H
    · intro H0 locs lsM P L B1 B2 B3
      exact lv_lor hx hb hd (hK _ _ _ H _ _ _ P L B1 B2 B3)
    · exact H.elim
  all_goals cases ho
theorem sd_i2l {X : CX} {KS : CX → State → Prop} {p : Program} {l : Launch} {e : Env} {R : Room} {s : State} {m : MethodId} {args : Array Value} {below : List Frame} {meth : Method} {c : Code} {nL n0 u0 : Nat} {Q : State → Prop} {cc : ByteArray} {own : String} {ini : Bool} {pcOf : Nat → Nat} {pc len pl : Nat} {raw : Instr} {call : Nat → List Value → PH → (Option Value → PH → Prop) → Prop} {jump : Nat → List Value → List Value → PH → Prop} {fin : Option Value → PH → Prop} {rk : Nat} {K : List Value → List Value → PH → Prop} {ls st : List Value} {h : PH}  (hx : p.tables.exec = Jvm.exec) (hb : c.code = cc) (hd : decode cc pc = .ok (raw, len)) (ho : okI own ini nL pcOf pc raw len pl (.i2l) = true) (hK : ∀ ls st h, K ls st h → GoW X p l e R s m args below meth c nL n0 u0 Q (pc + len) ls st h) (H : wpI call jump fin rk (.i2l) K ls st h) : GoW X p l e R s m args below meth c nL n0 u0 Q pc ls st h := by
  simp only [okI] at ho
  split at ho
  case _ =>
    cases eq_of_beq ho
    simp only [wpI] at H
    split at H
    · intro H0 locs lsM P L B1 B2 B3
      exact lv_i2l hx hb hd rfl (hK _ _ _ H _ _ _ P L B1 B2 B3)
    · exact H.elim
  all_goals cases ho
theorem sd_l2i {X : CX} {KS : CX → State → Prop} {p : Program} {l : Launch} {e : Env} {R : Room} {s : State} {m : MethodId} {args : Array Value} {below : List Frame} {meth : Method} {c : Code} {nL n0 u0 : Nat} {Q : State → Prop} {cc : ByteArray} {own : String} {ini : Bool} {pcOf : Nat → Nat} {pc len pl : Nat} {raw : Instr} {call : Nat → List Value → PH → (Option Value → PH → Prop) → Prop} {jump : Nat → List Value → List Value → PH → Prop} {fin : Option Value → PH → Prop} {rk : Nat} {K : List Value → List Value → PH → Prop} {ls st : List Value} {h : PH}  (hx : p.tables.exec = Jvm.exec) (hb : c.code = cc) (hd : decode cc pc = .ok (raw, len)) (ho : okI own ini nL pcOf pc raw len pl (.l2i) = true) (hK : ∀ ls st h, K ls st h → GoW X p l e R s m args below meth c nL n0 u0 Q (pc + len) ls st h) (H : wpI call jump fin rk (.l2i) K ls st h) : GoW X p l e R s m args below meth c nL n0 u0 Q pc ls st h := by
  simp only [okI] at ho
  split at ho
  case _ =>
    cases eq_of_beq ho
    simp only [wpI] at H
    split at H
    · intro H0 locs lsM P L B1 B2 B3
      exact lv_l2i hx hb hd rfl (hK _ _ _ H _ _ _ P L B1 B2 B3)
    · exact H.elim
  all_goals cases ho
theorem sd_i2b {X : CX} {KS : CX → State → Prop} {p : Program} {l : Launch} {e : Env} {R : Room} {s : State} {m : MethodId} {args : Array Value} {below : List Frame} {meth : Method} {c : Code} {nL n0 u0 : Nat} {Q : State → Prop} {cc : ByteArray} {own : String} {ini : Bool} {pcOf : Nat → Nat} {pc len pl : Nat} {raw : Instr} {call : Nat → List Value → PH → (Option Value → PH → Prop) → Prop} {jump : Nat → List Value → List Value → PH → Prop} {fin : Option Value → PH → Prop} {rk : Nat} {K : List Value → List Value → PH → Prop} {ls st : List Value} {h : PH}  (hx : p.tables.exec = Jvm.exec) (hb : c.code = cc) (hd : decode cc pc = .ok (raw, len)) (ho : okI own ini nL pcOf pc raw len pl (.i2b) = true) (hK : ∀ ls st h, K ls st h → GoW X p l e R s m args below meth c nL n0 u0 Q (pc + len) ls st h) (H : wpI call jump fin rk (.i2b) K ls st h) : GoW X p l e R s m args below meth c nL n0 u0 Q pc ls st h := by
  simp only [okI] at ho
  split at ho
  case _ =>
    cases eq_of_beq ho
    simp only [wpI] at H
    split at H
    · intro H0 locs lsM P L B1 B2 B3
      exact lv_i2b hx hb hd rfl (hK _ _ _ H _ _ _ P L B1 B2 B3)
    · exact H.elim
  all_goals cases ho
theorem sd_i2s {X : CX} {KS : CX → State → Prop} {p : Program} {l : Launch} {e : Env} {R : Room} {s : State} {m : MethodId} {args : Array Value} {below : List Frame} {meth : Method} {c : Code} {nL n0 u0 : Nat} {Q : State → Prop} {cc : ByteArray} {own : String} {ini : Bool} {pcOf : Nat → Nat} {pc len pl : Nat} {raw : Instr} {call : Nat → List Value → PH → (Option Value → PH → Prop) → Prop} {jump : Nat → List Value → List Value → PH → Prop} {fin : Option Value → PH → Prop} {rk : Nat} {K : List Value → List Value → PH → Prop} {ls st : List Value} {h : PH}  (hx : p.tables.exec = Jvm.exec) (hb : c.code = cc) (hd : decode cc pc = .ok (raw, len)) (ho : okI own ini nL pcOf pc raw len pl (.i2s) = true) (hK : ∀ ls st h, K ls st h → GoW X p l e R s m args below meth c nL n0 u0 Q (pc + len) ls st h) (H : wpI call jump fin rk (.i2s) K ls st h) : GoW X p l e R s m args below meth c nL n0 u0 Q pc ls st h := by
  simp only [okI] at ho
  split at ho
  case _ =>
    cases eq_of_beq ho
    simp only [wpI] at H
    split at H
    · intro H0 locs lsM P L B1 B2 B3
      exact lv_i2s hx hb hd rfl (hK _ _ _ H _ _ _ P L B1 B2 B3)
    · exact H.elim
  all_goals cases ho
theorem sd_ishl {X : CX} {KS : CX → State → Prop} {p : Program} {l : Launch} {e : Env} {R : Room} {s : State} {m : MethodId} {args : Array Value} {below : List Frame} {meth : Method} {c : Code} {nL n0 u0 : Nat} {Q : State → Prop} {cc : ByteArray} {own : String} {ini : Bool} {pcOf : Nat → Nat} {pc len pl : Nat} {raw : Instr} {call : Nat → List Value → PH → (Option Value → PH → Prop) → Prop} {jump : Nat → List Value → List Value → PH → Prop} {fin : Option Value → PH → Prop} {rk : Nat} {K : List Value → List Value → PH → Prop} {ls st : List Value} {h : PH}  (hx : p.tables.exec = Jvm.exec) (hb : c.code = cc) (hd : decode cc pc = .ok (raw, len)) (ho : okI own ini nL pcOf pc raw len pl (.ishl) = true) (hK : ∀ ls st h, K ls st h → GoW X p l e R s m args below meth c nL n0 u0 Q (pc + len) ls st h) (H : wpI call jump fin rk (.ishl) K ls st h) : GoW X p l e R s m args below meth c nL n0 u0 Q pc ls st h := by
  simp only [okI] at ho
  split at ho
  case _ =>
    cases eq_of_beq ho
    simp only [wpI] at H
    split at H
    · intro H0 locs lsM P L B1 B2 B3
      exact lv_ishl hx hb hd (hK _ _ _ H _ _ _ P L B1 B2 B3)
    · exact H.elim
  all_goals cases ho
theorem sd_ishr {X : CX} {KS : CX → State → Prop} {p : Program} {l : Launch} {e : Env} {R : Room} {s : State} {m : MethodId} {args : Array Value} {below : List Frame} {meth : Method} {c : Code} {nL n0 u0 : Nat} {Q : State → Prop} {cc : ByteArray} {own : String} {ini : Bool} {pcOf : Nat → Nat} {pc len pl : Nat} {raw : Instr} {call : Nat → List Value → PH → (Option Value → PH → Prop) → Prop} {jump : Nat → List Value → List Value → PH → Prop} {fin : Option Value → PH → Prop} {rk : Nat} {K : List Value → List Value → PH → Prop} {ls st : List Value} {h : PH}  (hx : p.tables.exec = Jvm.exec) (hb : c.code = cc) (hd : decode cc pc = .ok (raw, len)) (ho : okI own ini nL pcOf pc raw len pl (.ishr) = true) (hK : ∀ ls st h, K ls st h → GoW X p l e R s m args below meth c nL n0 u0 Q (pc + len) ls st h) (H : wpI call jump fin rk (.ishr) K ls st h) : GoW X p l e R s m args below meth c nL n0 u0 Q pc ls st h := by
  simp only [okI] at ho
  split at ho
  case _ =>
    cases eq_of_beq ho
    simp only [wpI] at H
    split at H
    · intro H0 locs lsM P L B1 B2 B3
      exact lv_ishr hx hb hd (hK _ _ _ H _ _ _ P L B1 B2 B3)
    · exact H.elim
  all_goals cases ho
theorem sd_iushr {X : CX} {KS : CX → State → Prop} {p : Program} {l : Launch} {e : Env} {R : Room} {s : State} {m : MethodId} {args : Array Value} {below : List Frame} {meth : Method} {c : Code} {nL n0 u0 : Nat} {Q : State → Prop} {cc : ByteArray} {own : String} {ini : Bool} {pcOf : Nat → Nat} {pc len pl : Nat} {raw : Instr} {call : Nat → List Value → PH → (Option Value → PH → Prop) → Prop} {jump : Nat → List Value → List Value → PH → Prop} {fin : Option Value → PH → Prop} {rk : Nat} {K : List Value → List Value → PH → Prop} {ls st : List Value} {h : PH}  (hx : p.tables.exec = Jvm.exec) (hb : c.code = cc) (hd : decode cc pc = .ok (raw, len)) (ho : okI own ini nL pcOf pc raw len pl (.iushr) = true) (hK : ∀ ls st h, K ls st h → GoW X p l e R s m args below meth c nL n0 u0 Q (pc + len) ls st h) (H : wpI call jump fin rk (.iushr) K ls st h) : GoW X p l e R s m args below meth c nL n0 u0 Q pc ls st h := by
  simp only [okI] at ho
  split at ho
  case _ =>
    cases eq_of_beq ho
    simp only [wpI] at H
    split at H
    · intro H0 locs lsM P L B1 B2 B3
      exact lv_iushr hx hb hd rfl (hK _ _ _ H _ _ _ P L B1 B2 B3)
    · exact H.elim
  all_goals cases ho
theorem sd_lshl {X : CX} {KS : CX → State → Prop} {p : Program} {l : Launch} {e : Env} {R : Room} {s : State} {m : MethodId} {args : Array Value} {below : List Frame} {meth : Method} {c : Code} {nL n0 u0 : Nat} {Q : State → Prop} {cc : ByteArray} {own : String} {ini : Bool} {pcOf : Nat → Nat} {pc len pl : Nat} {raw : Instr} {call : Nat → List Value → PH → (Option Value → PH → Prop) → Prop} {jump : Nat → List Value → List Value → PH → Prop} {fin : Option Value → PH → Prop} {rk : Nat} {K : List Value → List Value → PH → Prop} {ls st : List Value} {h : PH}  (hx : p.tables.exec = Jvm.exec) (hb : c.code = cc) (hd : decode cc pc = .ok (raw, len)) (ho : okI own ini nL pcOf pc raw len pl (.lshl) = true) (hK : ∀ ls st h, K ls st h → GoW X p l e R s m args below meth c nL n0 u0 Q (pc + len) ls st h) (H : wpI call jump fin rk (.lshl) K ls st h) : GoW X p l e R s m args below meth c nL n0 u0 Q pc ls st h := by
  simp only [okI] at ho
  split at ho
  case _ =>
    cases eq_of_beq ho
    simp only [wpI] at H
    split at H
    · intro H0 locs lsM P L B1 B2 B3
      exact lv_lshl hx hb hd rfl (hK _ _ _ H _ _ _ P L B1 B2 B3)
    · exact H.elim
  all_goals cases ho
theorem sd_lshr {X : CX} {KS : CX → State → Prop} {p : Program} {l : Launch} {e : Env} {R : Room} {s : State} {m : MethodId} {args : Array Value} {below : List Frame} {meth : Method} {c : Code} {nL n0 u0 : Nat} {Q : State → Prop} {cc : ByteArray} {own : String} {ini : Bool} {pcOf : Nat → Nat} {pc len pl : Nat} {raw : Instr} {call : Nat → List Value → PH → (Option Value → PH → Prop) → Prop} {jump : Nat → List Value → List Value → PH → Prop} {fin : Option Value → PH → Prop} {rk : Nat} {K : List Value → List Value → PH → Prop} {ls st : List Value} {h : PH}  (hx : p.tables.exec = Jvm.exec) (hb : c.code = cc) (hd : decode cc pc = .ok (raw, len)) (ho : okI own ini nL pcOf pc raw len pl (.lshr) = true) (hK : ∀ ls st h, K ls st h → GoW X p l e R s m args below meth c nL n0 u0 Q (pc + len) ls st h) (H : wpI call jump fin rk (.lshr) K ls st h) : GoW X p l e R s m args below meth c nL n0 u0 Q pc ls st h := by
  simp only [okI] at ho
  split at ho
  case _ =>
    cases eq_of_beq ho
    simp only [wpI] at H
    split at H
    · intro H0 locs lsM P L B1 B2 B3
      exact lv_lshr hx hb hd rfl (hK _ _ _ H _ _ _ P L B1 B2 B3)
    · exact H.elim
  all_goals cases ho
theorem sd_lushr {X : CX} {KS : CX → State → Prop} {p : Program} {l : Launch} {e : Env} {R : Room} {s : State} {m : MethodId} {args : Array Value} {below : List Frame} {meth : Method} {c : Code} {nL n0 u0 : Nat} {Q : State → Prop} {cc : ByteArray} {own : String} {ini : Bool} {pcOf : Nat → Nat} {pc len pl : Nat} {raw : Instr} {call : Nat → List Value → PH → (Option Value → PH → Prop) → Prop} {jump : Nat → List Value → List Value → PH → Prop} {fin : Option Value → PH → Prop} {rk : Nat} {K : List Value → List Value → PH → Prop} {ls st : List Value} {h : PH}  (hx : p.tables.exec = Jvm.exec) (hb : c.code = cc) (hd : decode cc pc = .ok (raw, len)) (ho : okI own ini nL pcOf pc raw len pl (.lushr) = true) (hK : ∀ ls st h, K ls st h → GoW X p l e R s m args below meth c nL n0 u0 Q (pc + len) ls st h) (H : wpI call jump fin rk (.lushr) K ls st h) : GoW X p l e R s m args below meth c nL n0 u0 Q pc ls st h := by
  simp only [okI] at ho
  split at ho
  case _ =>
    cases eq_of_beq ho
    simp only [wpI] at H
    split at H
    · intro H0 locs lsM P L B1 B2 B3
      exact lv_lushr hx hb hd rfl (hK _ _ _ H _ _ _ P L B1 B2 B3)
    · exact H.elim
  all_goals cases ho
theorem sd_idiv {X : CX} {KS : CX → State → Prop} {p : Program} {l : Launch} {e : Env} {R : Room} {s : State} {m : MethodId} {args : Array Value} {below : List Frame} {meth : Method} {c : Code} {nL n0 u0 : Nat} {Q : State → Prop} {cc : ByteArray} {own : String} {ini : Bool} {pcOf : Nat → Nat} {pc len pl : Nat} {raw : Instr} {call : Nat → List Value → PH → (Option Value → PH → Prop) → Prop} {jump : Nat → List Value → List Value → PH → Prop} {fin : Option Value → PH → Prop} {rk : Nat} {K : List Value → List Value → PH → Prop} {ls st : List Value} {h : PH}  (hx : p.tables.exec = Jvm.exec) (hb : c.code = cc) (hd : decode cc pc = .ok (raw, len)) (ho : okI own ini nL pcOf pc raw len pl (.idiv) = true) (hK : ∀ ls st h, K ls st h → GoW X p l e R s m args below meth c nL n0 u0 Q (pc + len) ls st h) (H : wpI call jump fin rk (.idiv) K ls st h) : GoW X p l e R s m args below meth c nL n0 u0 Q pc ls st h := by
  simp only [okI] at ho
  split at ho
  case _ =>
    cases eq_of_beq ho
    simp only [wpI] at H
    split at H
    · intro H0 locs lsM P L B1 B2 B3
      exact lv_idiv hx hb hd H.1 (hK _ _ _ H.2 _ _ _ P L B1 B2 B3)
    · exact H.elim
  all_goals cases ho
theorem sd_irem {X : CX} {KS : CX → State → Prop} {p : Program} {l : Launch} {e : Env} {R : Room} {s : State} {m : MethodId} {args : Array Value} {below : List Frame} {meth : Method} {c : Code} {nL n0 u0 : Nat} {Q : State → Prop} {cc : ByteArray} {own : String} {ini : Bool} {pcOf : Nat → Nat} {pc len pl : Nat} {raw : Instr} {call : Nat → List Value → PH → (Option Value → PH → Prop) → Prop} {jump : Nat → List Value → List Value → PH → Prop} {fin : Option Value → PH → Prop} {rk : Nat} {K : List Value → List Value → PH → Prop} {ls st : List Value} {h : PH}  (hx : p.tables.exec = Jvm.exec) (hb : c.code = cc) (hd : decode cc pc = .ok (raw, len)) (ho : okI own ini nL pcOf pc raw len pl (.irem) = true) (hK : ∀ ls st h, K ls st h → GoW X p l e R s m args below meth c nL n0 u0 Q (pc + len) ls st h) (H : wpI call jump fin rk (.irem) K ls st h) : GoW X p l e R s m args below meth c nL n0 u0 Q pc ls st h := by
  simp only [okI] at ho
  split at ho
  case _ =>
    cases eq_of_beq ho
    simp only [wpI] at H
    split at H
    · intro H0 locs lsM P L B1 B2 B3
      exact lv_irem hx hb hd H.1 (hK _ _ _ H.2 _ _ _ P L B1 B2 B3)
    · exact H.elim
  all_goals cases ho
theorem sd_ldiv {X : CX} {KS : CX → State → Prop} {p : Program} {l : Launch} {e : Env} {R : Room} {s : State} {m : MethodId} {args : Array Value} {below : List Frame} {meth : Method} {c : Code} {nL n0 u0 : Nat} {Q : State → Prop} {cc : ByteArray} {own : String} {ini : Bool} {pcOf : Nat → Nat} {pc len pl : Nat} {raw : Instr} {call : Nat → List Value → PH → (Option Value → PH → Prop) → Prop} {jump : Nat → List Value → List Value → PH → Prop} {fin : Option Value → PH → Prop} {rk : Nat} {K : List Value → List Value → PH → Prop} {ls st : List Value} {h : PH}  (hx : p.tables.exec = Jvm.exec) (hb : c.code = cc) (hd : decode cc pc = .ok (raw, len)) (ho : okI own ini nL pcOf pc raw len pl (.ldiv) = true) (hK : ∀ ls st h, K ls st h → GoW X p l e R s m args below meth c nL n0 u0 Q (pc + len) ls st h) (H : wpI call jump fin rk (.ldiv) K ls st h) : GoW X p l e R s m args below meth c nL n0 u0 Q pc ls st h := by
  simp only [okI] at ho
  split at ho
  case _ =>
    cases eq_of_beq ho
    simp only [wpI] at H
    split at H
    · intro H0 locs lsM P L B1 B2 B3
      exact lv_ldiv hx hb hd H.1 (hK _ _ _ H.2 _ _ _ P L B1 B2 B3)
    · exact H.elim
  all_goals cases ho
theorem sd_lrem {X : CX} {KS : CX → State → Prop} {p : Program} {l : Launch} {e : Env} {R : Room} {s : State} {m : MethodId} {args : Array Value} {below : List Frame} {meth : Method} {c : Code} {nL n0 u0 : Nat} {Q : State → Prop} {cc : ByteArray} {own : String} {ini : Bool} {pcOf : Nat → Nat} {pc len pl : Nat} {raw : Instr} {call : Nat → List Value → PH → (Option Value → PH → Prop) → Prop} {jump : Nat → List Value → List Value → PH → Prop} {fin : Option Value → PH → Prop} {rk : Nat} {K : List Value → List Value → PH → Prop} {ls st : List Value} {h : PH}  (hx : p.tables.exec = Jvm.exec) (hb : c.code = cc) (hd : decode cc pc = .ok (raw, len)) (ho : okI own ini nL pcOf pc raw len pl (.lrem) = true) (hK : ∀ ls st h, K ls st h → GoW X p l e R s m args below meth c nL n0 u0 Q (pc + len) ls st h) (H : wpI call jump fin rk (.lrem) K ls st h) : GoW X p l e R s m args below meth c nL n0 u0 Q pc ls st h := by
  simp only [okI] at ho
  split at ho
  case _ =>
    cases eq_of_beq ho
    simp only [wpI] at H
    split at H
    · intro H0 locs lsM P L B1 B2 B3
      exact lv_lrem hx hb hd H.1 (hK _ _ _ H.2 _ _ _ P L B1 B2 B3)
    · exact H.elim
  all_goals cases ho
theorem sd_lcmp {X : CX} {KS : CX → State → Prop} {p : Program} {l : Launch} {e : Env} {R : Room} {s : State} {m : MethodId} {args : Array Value} {below : List Frame} {meth : Method} {c : Code} {nL n0 u0 : Nat} {Q : State → Prop} {cc : ByteArray} {own : String} {ini : Bool} {pcOf : Nat → Nat} {pc len pl : Nat} {raw : Instr} {call : Nat → List Value → PH → (Option Value → PH → Prop) → Prop} {jump : Nat → List Value → List Value → PH → Prop} {fin : Option Value → PH → Prop} {rk : Nat} {K : List Value → List Value → PH → Prop} {ls st : List Value} {h : PH}  (hx : p.tables.exec = Jvm.exec) (hb : c.code = cc) (hd : decode cc pc = .ok (raw, len)) (ho : okI own ini nL pcOf pc raw len pl (.lcmp) = true) (hK : ∀ ls st h, K ls st h → GoW X p l e R s m args below meth c nL n0 u0 Q (pc + len) ls st h) (H : wpI call jump fin rk (.lcmp) K ls st h) : GoW X p l e R s m args below meth c nL n0 u0 Q pc ls st h := by
  simp only [okI] at ho
  split at ho
  case _ =>
    cases eq_of_beq ho
    simp only [wpI] at H
    split at H
    · intro H0 locs lsM P L B1 B2 B3
      exact W.lcmp hx hb hd (hK _ _ _ H _ _ _ P L B1 B2 B3)
    · exact H.elim
  all_goals cases ho
theorem sd_ldc_w {X : CX} {KS : CX → State → Prop} {p : Program} {l : Launch} {e : Env} {R : Room} {s : State} {m : MethodId} {args : Array Value} {below : List Frame} {meth : Method} {c : Code} {nL n0 u0 : Nat} {Q : State → Prop} {cc : ByteArray} {own : String} {ini : Bool} {pcOf : Nat → Nat} {pc len pl : Nat} {raw : Instr} {call : Nat → List Value → PH → (Option Value → PH → Prop) → Prop} {jump : Nat → List Value → List Value → PH → Prop} {fin : Option Value → PH → Prop} {rk : Nat} {K : List Value → List Value → PH → Prop} {ls st : List Value} {h : PH} {n : Nat} (hx : p.tables.exec = Jvm.exec) (hb : c.code = cc) (hd : decode cc pc = .ok (raw, len)) (ho : okI own ini nL pcOf pc raw len pl (.ldc_w n) = true) (hK : ∀ ls st h, K ls st h → GoW X p l e R s m args below meth c nL n0 u0 Q (pc + len) ls st h) (hown : s.vm.findClass own = some m.cls) (hts : ∀ w ∈ lw_good, w.before args s = true) (H : wpI call jump fin rk (.ldc_w n) K ls st h) : GoW X p l e R s m args below meth c nL n0 u0 Q pc ls st h := by
  simp only [wpI] at H
  intro H0 locs lsM P L B1 B2 B3
  have k := hK _ _ _ H _ _ _ P L B1 B2 B3
  simp only [okI] at ho
  split at ho
  · simp only [Bool.and_eq_true, beq_iff_eq, decide_eq_true_eq] at ho
    obtain ⟨rfl, hv⟩ := ho
    exact lv_iconst hx hb hd hv k
  · simp only [Bool.and_eq_true, beq_iff_eq, decide_eq_true_eq] at ho
    obtain ⟨rfl, hv⟩ := ho
    exact lv_bipush hx hb hd hv k
  · simp only [Bool.and_eq_true, beq_iff_eq, decide_eq_true_eq] at ho
    obtain ⟨rfl, hv⟩ := ho
    exact lv_sipush hx hb hd hv k
  · simp only [Bool.and_eq_true, beq_iff_eq] at ho
    obtain ⟨rfl, hv⟩ := ho
    exact lv_ldc hx hb hown (hts _ (wGd_mem hv)) hd k
  · simp only [Bool.and_eq_true, beq_iff_eq] at ho
    obtain ⟨rfl, hv⟩ := ho
    exact lv_ldcw hx hb hown (hts _ (wGd_mem hv)) hd k
  · cases ho
theorem sd_iconst {X : CX} {KS : CX → State → Prop} {p : Program} {l : Launch} {e : Env} {R : Room} {s : State} {m : MethodId} {args : Array Value} {below : List Frame} {meth : Method} {c : Code} {nL n0 u0 : Nat} {Q : State → Prop} {cc : ByteArray} {own : String} {ini : Bool} {pcOf : Nat → Nat} {pc len pl : Nat} {raw : Instr} {call : Nat → List Value → PH → (Option Value → PH → Prop) → Prop} {jump : Nat → List Value → List Value → PH → Prop} {fin : Option Value → PH → Prop} {rk : Nat} {K : List Value → List Value → PH → Prop} {ls st : List Value} {h : PH} {z : Int} (hx : p.tables.exec = Jvm.exec) (hb : c.code = cc) (hd : decode cc pc = .ok (raw, len)) (ho : okI own ini nL pcOf pc raw len pl (.iconst z) = true) (hK : ∀ ls st h, K ls st h → GoW X p l e R s m args below meth c nL n0 u0 Q (pc + len) ls st h) (H : wpI call jump fin rk (.iconst z) K ls st h) : GoW X p l e R s m args below meth c nL n0 u0 Q pc ls st h := by
  simp only [wpI] at H
  intro H0 locs lsM P L B1 B2 B3
  have k := hK _ _ _ H _ _ _ P L B1 B2 B3
  simp only [okI] at ho
  split at ho
  · simp only [Bool.and_eq_true, beq_iff_eq, decide_eq_true_eq] at ho
    obtain ⟨rfl, hv⟩ := ho
    exact lv_iconst hx hb hd hv k
  · simp only [Bool.and_eq_true, beq_iff_eq, decide_eq_true_eq] at ho
    obtain ⟨rfl, hv⟩ := ho
    exact lv_bipush hx hb hd hv k
  · simp only [Bool.and_eq_true, beq_iff_eq, decide_eq_true_eq] at ho
    obtain ⟨rfl, hv⟩ := ho
    exact lv_sipush hx hb hd hv k
  · cases ho
theorem sd_ldc2_w {X : CX} {KS : CX → State → Prop} {p : Program} {l : Launch} {e : Env} {R : Room} {s : State} {m : MethodId} {args : Array Value} {below : List Frame} {meth : Method} {c : Code} {nL n0 u0 : Nat} {Q : State → Prop} {cc : ByteArray} {own : String} {ini : Bool} {pcOf : Nat → Nat} {pc len pl : Nat} {raw : Instr} {call : Nat → List Value → PH → (Option Value → PH → Prop) → Prop} {jump : Nat → List Value → List Value → PH → Prop} {fin : Option Value → PH → Prop} {rk : Nat} {K : List Value → List Value → PH → Prop} {ls st : List Value} {h : PH} {n : Nat} (hx : p.tables.exec = Jvm.exec) (hb : c.code = cc) (hd : decode cc pc = .ok (raw, len)) (ho : okI own ini nL pcOf pc raw len pl (.ldc2_w n) = true) (hK : ∀ ls st h, K ls st h → GoW X p l e R s m args below meth c nL n0 u0 Q (pc + len) ls st h) (hown : s.vm.findClass own = some m.cls) (hts : ∀ w ∈ lw_good, w.before args s = true) (H : wpI call jump fin rk (.ldc2_w n) K ls st h) : GoW X p l e R s m args below meth c nL n0 u0 Q pc ls st h := by
  simp only [wpI] at H
  intro H0 locs lsM P L B1 B2 B3
  have k := hK _ _ _ H _ _ _ P L B1 B2 B3
  simp only [okI] at ho
  split at ho
  · simp only [Bool.and_eq_true, beq_iff_eq, decide_eq_true_eq] at ho
    obtain ⟨rfl, hv⟩ := ho
    exact lv_lconst hx hb hd hv k
  · simp only [Bool.and_eq_true, beq_iff_eq] at ho
    obtain ⟨rfl, hv⟩ := ho
    exact lv_ldc2 hx hb hown (hts _ (wGd_mem hv)) hd k
  · cases ho
theorem sd_jsr_w {X : CX} {KS : CX → State → Prop} {p : Program} {l : Launch} {e : Env} {R : Room} {s : State} {m : MethodId} {args : Array Value} {below : List Frame} {meth : Method} {c : Code} {nL n0 u0 : Nat} {Q : State → Prop} {cc : ByteArray} {own : String} {ini : Bool} {pcOf : Nat → Nat} {pc len pl : Nat} {raw : Instr} {call : Nat → List Value → PH → (Option Value → PH → Prop) → Prop} {jump : Nat → List Value → List Value → PH → Prop} {fin : Option Value → PH → Prop} {rk : Nat} {K : List Value → List Value → PH → Prop} {ls st : List Value} {h : PH} {z : Int} (hx : p.tables.exec = Jvm.exec) (hb : c.code = cc) (hd : decode cc pc = .ok (raw, len)) (ho : okI own ini nL pcOf pc raw len pl (.jsr_w z) = true) (hK : ∀ ls st h, K ls st h → GoW X p l e R s m args below meth c nL n0 u0 Q (pc + len) ls st h) (hown : s.vm.findClass own = some m.cls) (hts : ∀ w ∈ lw_good, w.before args s = true) (H : wpI call jump fin rk (.jsr_w z) K ls st h) : GoW X p l e R s m args below meth c nL n0 u0 Q pc ls st h := by
  simp only [wpI] at H
  intro H0 locs lsM P L B1 B2 B3
  have k := hK _ _ _ H _ _ _ P L B1 B2 B3
  simp only [okI] at ho
  split at ho
  · simp only [Bool.and_eq_true, beq_iff_eq] at ho
    obtain ⟨rfl, hv⟩ := ho
    exact lv_ldc2 hx hb hown (hts _ (wGd_mem hv)) hd k
  · cases ho
theorem sd_aconst_null {X : CX} {KS : CX → State → Prop} {p : Program} {l : Launch} {e : Env} {R : Room} {s : State} {m : MethodId} {args : Array Value} {below : List Frame} {meth : Method} {c : Code} {nL n0 u0 : Nat} {Q : State → Prop} {cc : ByteArray} {own : String} {ini : Bool} {pcOf : Nat → Nat} {pc len pl : Nat} {raw : Instr} {call : Nat → List Value → PH → (Option Value → PH → Prop) → Prop} {jump : Nat → List Value → List Value → PH → Prop} {fin : Option Value → PH → Prop} {rk : Nat} {K : List Value → List Value → PH → Prop} {ls st : List Value} {h : PH}  (hx : p.tables.exec = Jvm.exec) (hb : c.code = cc) (hd : decode cc pc = .ok (raw, len)) (ho : okI own ini nL pcOf pc raw len pl (.aconst_null) = true) (hK : ∀ ls st h, K ls st h → GoW X p l e R s m args below meth c nL n0 u0 Q (pc + len) ls st h) (H : wpI call jump fin rk (.aconst_null) K ls st h) : GoW X p l e R s m args below meth c nL n0 u0 Q pc ls st h := by
  simp only [okI] at ho
  split at ho
  case _ =>
    cases eq_of_beq ho
    simp only [wpI] at H
    intro H0 locs lsM P L B1 B2 B3
    exact lv_null hx hb hd (hK _ _ _ H _ _ _ P L B1 B2 B3)
  all_goals cases ho
theorem sd_iload {X : CX} {KS : CX → State → Prop} {p : Program} {l : Launch} {e : Env} {R : Room} {s : State} {m : MethodId} {args : Array Value} {below : List Frame} {meth : Method} {c : Code} {nL n0 u0 : Nat} {Q : State → Prop} {cc : ByteArray} {own : String} {ini : Bool} {pcOf : Nat → Nat} {pc len pl : Nat} {raw : Instr} {call : Nat → List Value → PH → (Option Value → PH → Prop) → Prop} {jump : Nat → List Value → List Value → PH → Prop} {fin : Option Value → PH → Prop} {rk : Nat} {K : List Value → List Value → PH → Prop} {ls st : List Value} {h : PH} {k : Nat} (hx : p.tables.exec = Jvm.exec) (hb : c.code = cc) (hd : decode cc pc = .ok (raw, len)) (ho : okI own ini nL pcOf pc raw len pl (.iload k) = true) (hK : ∀ ls st h, K ls st h → GoW X p l e R s m args below meth c nL n0 u0 Q (pc + len) ls st h) (H : wpI call jump fin rk (.iload k) K ls st h) : GoW X p l e R s m args below meth c nL n0 u0 Q pc ls st h := by
  simp only [wpI] at H
  split at H
  · rename_i x hv
    intro H0 locs lsM P L B1 B2 B3
    have kk := hK _ _ _ H _ _ _ P L B1 B2 B3
    have hl : lsM[k]? = some (.val (.int x)) := by
      have q := L.2.2.2 k (by rw [hv]; rfl)
      rw [hv] at q
      exact q
    simp only [okI] at ho
    split at ho
    · simp only [Bool.and_eq_true, beq_iff_eq] at ho
      obtain ⟨rfl, hv⟩ := ho
      exact lv_iload_n hx hb hd hv hl kk
    · simp only [Bool.and_eq_true, beq_iff_eq] at ho
      obtain ⟨rfl, rfl⟩ := ho
      exact lv_iload hx hb hd hl kk
    · cases ho
  · exact H.elim
theorem sd_lload {X : CX} {KS : CX → State → Prop} {p : Program} {l : Launch} {e : Env} {R : Room} {s : State} {m : MethodId} {args : Array Value} {below : List Frame} {meth : Method} {c : Code} {nL n0 u0 : Nat} {Q : State → Prop} {cc : ByteArray} {own : String} {ini : Bool} {pcOf : Nat → Nat} {pc len pl : Nat} {raw : Instr} {call : Nat → List Value → PH → (Option Value → PH → Prop) → Prop} {jump : Nat → List Value → List Value → PH → Prop} {fin : Option Value → PH → Prop} {rk : Nat} {K : List Value → List Value → PH → Prop} {ls st : List Value} {h : PH} {k : Nat} (hx : p.tables.exec = Jvm.exec) (hb : c.code = cc) (hd : decode cc pc = .ok (raw, len)) (ho : okI own ini nL pcOf pc raw len pl (.lload k) = true) (hK : ∀ ls st h, K ls st h → GoW X p l e R s m args below meth c nL n0 u0 Q (pc + len) ls st h) (H : wpI call jump fin rk (.lload k) K ls st h) : GoW X p l e R s m args below meth c nL n0 u0 Q pc ls st h := by
  simp only [wpI] at H
  split at H
  · rename_i x hv
    intro H0 locs lsM P L B1 B2 B3
    have kk := hK _ _ _ H _ _ _ P L B1 B2 B3
    have hl : lsM[k]? = some (.val (.long x)) := by
      have q := L.2.2.2 k (by rw [hv]; rfl)
      rw [hv] at q
      exact q
    simp only [okI] at ho
    split at ho
    · simp only [Bool.and_eq_true, beq_iff_eq] at ho
      obtain ⟨rfl, hv⟩ := ho
      exact lv_lload_n hx hb hd hv hl kk
    · simp only [Bool.and_eq_true, beq_iff_eq] at ho
      obtain ⟨rfl, rfl⟩ := ho
      exact lv_lload hx hb hd hl kk
    · cases ho
  · exact H.elim
theorem sd_aload {X : CX} {KS : CX → State → Prop} {p : Program} {l : Launch} {e : Env} {R : Room} {s : State} {m : MethodId} {args : Array Value} {below : List Frame} {meth : Method} {c : Code} {nL n0 u0 : Nat} {Q : State → Prop} {cc : ByteArray} {own : String} {ini : Bool} {pcOf : Nat → Nat} {pc len pl : Nat} {raw : Instr} {call : Nat → List Value → PH → (Option Value → PH → Prop) → Prop} {jump : Nat → List Value → List Value → PH → Prop} {fin : Option Value → PH → Prop} {rk : Nat} {K : List Value → List Value → PH → Prop} {ls st : List Value} {h : PH} {k : Nat} (hx : p.tables.exec = Jvm.exec) (hb : c.code = cc) (hd : decode cc pc = .ok (raw, len)) (ho : okI own ini nL pcOf pc raw len pl (.aload k) = true) (hK : ∀ ls st h, K ls st h → GoW X p l e R s m args below meth c nL n0 u0 Q (pc + len) ls st h) (H : wpI call jump fin rk (.aload k) K ls st h) : GoW X p l e R s m args below meth c nL n0 u0 Q pc ls st h := by
  simp only [wpI] at H
  split at H
  · rename_i x hv
    intro H0 locs lsM P L B1 B2 B3
    have kk := hK _ _ _ H _ _ _ P L B1 B2 B3
    have hl : lsM[k]? = some (.val (.ref (ad X x))) := by
      have q := L.2.2.2 k (by rw [hv]; rfl)
      rw [hv] at q
      exact q
    simp only [okI] at ho
    split at ho
    · simp only [Bool.and_eq_true, beq_iff_eq] at ho
      obtain ⟨rfl, hv⟩ := ho
      exact lv_aload_n hx hb hd hv hl kk
    · simp only [Bool.and_eq_true, beq_iff_eq] at ho
      obtain ⟨rfl, rfl⟩ := ho
      exact lv_aload hx hb hd hl kk
    · cases ho
  · rename_i hv
    intro H0 locs lsM P L B1 B2 B3
    have kk := hK _ _ _ H _ _ _ P L B1 B2 B3
    have hl : lsM[k]? = some (.val .null) := by
      have q := L.2.2.2 k (by rw [hv]; rfl)
      rw [hv] at q
      exact q
    simp only [okI] at ho
    split at ho
    · simp only [Bool.and_eq_true, beq_iff_eq] at ho
      obtain ⟨rfl, hv⟩ := ho
      exact lv_aload_nN hx hb hd hv hl kk
    · simp only [Bool.and_eq_true, beq_iff_eq] at ho
      obtain ⟨rfl, rfl⟩ := ho
      exact lv_aloadN hx hb hd hl kk
    · cases ho
  · exact H.elim
theorem sd_istore {X : CX} {KS : CX → State → Prop} {p : Program} {l : Launch} {e : Env} {R : Room} {s : State} {m : MethodId} {args : Array Value} {below : List Frame} {meth : Method} {c : Code} {nL n0 u0 : Nat} {Q : State → Prop} {cc : ByteArray} {own : String} {ini : Bool} {pcOf : Nat → Nat} {pc len pl : Nat} {raw : Instr} {call : Nat → List Value → PH → (Option Value → PH → Prop) → Prop} {jump : Nat → List Value → List Value → PH → Prop} {fin : Option Value → PH → Prop} {rk : Nat} {K : List Value → List Value → PH → Prop} {ls st : List Value} {h : PH} {k : Nat} (hx : p.tables.exec = Jvm.exec) (hb : c.code = cc) (hd : decode cc pc = .ok (raw, len)) (ho : okI own ini nL pcOf pc raw len pl (.istore k) = true) (hK : ∀ ls st h, K ls st h → GoW X p l e R s m args below meth c nL n0 u0 Q (pc + len) ls st h) (H : wpI call jump fin rk (.istore k) K ls st h) : GoW X p l e R s m args below meth c nL n0 u0 Q pc ls st h := by
  simp only [wpI] at H
  simp only [okI, Bool.and_eq_true, decide_eq_true_eq] at ho
  obtain ⟨hkn, ho⟩ := ho
  split at H
  · intro H0 locs lsM P L B1 B2 B3
    split at ho
    · simp only [Bool.and_eq_true, beq_iff_eq] at ho
      obtain ⟨rfl, hv⟩ := ho
      exact lv_istore_n hx hb hd hv L.has hkn rfl (fun ls' h' => hK _ _ _ H.2 _ _ _ P (L.st1 hkn _ H.1 h') B1 B2 B3)
    · simp only [Bool.and_eq_true, beq_iff_eq] at ho
      obtain ⟨rfl, rfl⟩ := ho
      exact lv_istore hx hb hd L.has hkn rfl (fun ls' h' => hK _ _ _ H.2 _ _ _ P (L.st1 hkn _ H.1 h') B1 B2 B3)
    · cases ho
  · exact H.elim
theorem sd_lstore {X : CX} {KS : CX → State → Prop} {p : Program} {l : Launch} {e : Env} {R : Room} {s : State} {m : MethodId} {args : Array Value} {below : List Frame} {meth : Method} {c : Code} {nL n0 u0 : Nat} {Q : State → Prop} {cc : ByteArray} {own : String} {ini : Bool} {pcOf : Nat → Nat} {pc len pl : Nat} {raw : Instr} {call : Nat → List Value → PH → (Option Value → PH → Prop) → Prop} {jump : Nat → List Value → List Value → PH → Prop} {fin : Option Value → PH → Prop} {rk : Nat} {K : List Value → List Value → PH → Prop} {ls st : List Value} {h : PH} {k : Nat} (hx : p.tables.exec = Jvm.exec) (hb : c.code = cc) (hd : decode cc pc = .ok (raw, len)) (ho : okI own ini nL pcOf pc raw len pl (.lstore k) = true) (hK : ∀ ls st h, K ls st h → GoW X p l e R s m args below meth c nL n0 u0 Q (pc + len) ls st h) (H : wpI call jump fin rk (.lstore k) K ls st h) : GoW X p l e R s m args below meth c nL n0 u0 Q pc ls st h := by
  simp only [wpI] at H
  simp only [okI, Bool.and_eq_true, decide_eq_true_eq] at ho
  obtain ⟨hkn, ho⟩ := ho
  split at H
  · intro H0 locs lsM P L B1 B2 B3
    split at ho
    · simp only [Bool.and_eq_true, beq_iff_eq] at ho
      obtain ⟨rfl, hv⟩ := ho
      exact lv_lstore_n hx hb hd hv L.has hkn rfl (fun ls' h' => hK _ _ _ H.2 _ _ _ P (L.st2 hkn _ H.1 h') B1 B2 B3)
    · simp only [Bool.and_eq_true, beq_iff_eq] at ho
      obtain ⟨rfl, rfl⟩ := ho
      exact lv_lstore hx hb hd L.has hkn rfl (fun ls' h' => hK _ _ _ H.2 _ _ _ P (L.st2 hkn _ H.1 h') B1 B2 B3)
    · cases ho
  · exact H.elim
theorem sd_astore {X : CX} {KS : CX → State → Prop} {p : Program} {l : Launch} {e : Env} {R : Room} {s : State} {m : MethodId} {args : Array Value} {below : List Frame} {meth : Method} {c : Code} {nL n0 u0 : Nat} {Q : State → Prop} {cc : ByteArray} {own : String} {ini : Bool} {pcOf : Nat → Nat} {pc len pl : Nat} {raw : Instr} {call : Nat → List Value → PH → (Option Value → PH → Prop) → Prop} {jump : Nat → List Value → List Value → PH → Prop} {fin : Option Value → PH → Prop} {rk : Nat} {K : List Value → List Value → PH → Prop} {ls st : List Value} {h : PH} {k : Nat} (hx : p.tables.exec = Jvm.exec) (hb : c.code = cc) (hd : decode cc pc = .ok (raw, len)) (ho : okI own ini nL pcOf pc raw len pl (.astore k) = true) (hK : ∀ ls st h, K ls st h → GoW X p l e R s m args below meth c nL n0 u0 Q (pc + len) ls st h) (H : wpI call jump fin rk (.astore k) K ls st h) : GoW X p l e R s m args below meth c nL n0 u0 Q pc ls st h := by
  simp only [wpI] at H
  simp only [okI, Bool.and_eq_true, decide_eq_true_eq] at ho
  obtain ⟨hkn, ho⟩ := ho
  split at H
  · intro H0 locs lsM P L B1 B2 B3
    split at ho
    · simp only [Bool.and_eq_true, beq_iff_eq] at ho
      obtain ⟨rfl, hv⟩ := ho
      exact lv_astore_n hx hb hd hv L.has hkn rfl (fun ls' h' => hK _ _ _ H.2 _ _ _ P (L.st1 hkn _ H.1 h') B1 B2 B3)
    · simp only [Bool.and_eq_true, beq_iff_eq] at ho
      obtain ⟨rfl, rfl⟩ := ho
      exact lv_astore hx hb hd L.has hkn rfl (fun ls' h' => hK _ _ _ H.2 _ _ _ P (L.st1 hkn _ H.1 h') B1 B2 B3)
    · cases ho
  · intro H0 locs lsM P L B1 B2 B3
    split at ho
    · simp only [Bool.and_eq_true, beq_iff_eq] at ho
      obtain ⟨rfl, hv⟩ := ho
      exact lv_astore_nN hx hb hd hv L.has hkn rfl (fun ls' h' => hK _ _ _ H.2 _ _ _ P (L.st1 hkn _ H.1 h') B1 B2 B3)
    · simp only [Bool.and_eq_true, beq_iff_eq] at ho
      obtain ⟨rfl, rfl⟩ := ho
      exact lv_astoreN hx hb hd L.has hkn rfl (fun ls' h' => hK _ _ _ H.2 _ _ _ P (L.st1 hkn _ H.1 h') B1 B2 B3)
    · cases ho
  · exact H.elim
theorem sd_iinc {X : CX} {KS : CX → State → Prop} {p : Program} {l : Launch} {e : Env} {R : Room} {s : State} {m : MethodId} {args : Array Value} {below : List Frame} {meth : Method} {c : Code} {nL n0 u0 : Nat} {Q : State → Prop} {cc : ByteArray} {own : String} {ini : Bool} {pcOf : Nat → Nat} {pc len pl : Nat} {raw : Instr} {call : Nat → List Value → PH → (Option Value → PH → Prop) → Prop} {jump : Nat → List Value → List Value → PH → Prop} {fin : Option Value → PH → Prop} {rk : Nat} {K : List Value → List Value → PH → Prop} {ls st : List Value} {h : PH} {k : Nat} {z : Int} (hx : p.tables.exec = Jvm.exec) (hb : c.code = cc) (hd : decode cc pc = .ok (raw, len)) (ho : okI own ini nL pcOf pc raw len pl (.iinc k z) = true) (hK : ∀ ls st h, K ls st h → GoW X p l e R s m args below meth c nL n0 u0 Q (pc + len) ls st h) (H : wpI call jump fin rk (.iinc k z) K ls st h) : GoW X p l e R s m args below meth c nL n0 u0 Q pc ls st h := by
  simp only [wpI] at H
  simp only [okI, Bool.and_eq_true, decide_eq_true_eq] at ho
  obtain ⟨hkn, ho⟩ := ho
  split at H
  · rename_i x hv
    intro H0 locs lsM P L B1 B2 B3
    split at ho
    · simp only [Bool.and_eq_true, beq_iff_eq] at ho
      obtain ⟨⟨rfl, rfl⟩, rfl⟩ := ho
      obtain ⟨j, hj⟩ := List.getElem?_of_mem (lvOf_mem (X := X) (nL := nL) (ls := ls) hkn (by rw [hv]; rfl))
      rw [hv] at hj
      exact lv_iinc hx hb hd L.has hj rfl hkn rfl (fun ls' h' => hK _ _ _ H.2 _ _ _ P (L.st1 hkn _ H.1 h') B1 B2 B3)
    · cases ho
  · exact H.elim
theorem sd_dup {X : CX} {KS : CX → State → Prop} {p : Program} {l : Launch} {e : Env} {R : Room} {s : State} {m : MethodId} {args : Array Value} {below : List Frame} {meth : Method} {c : Code} {nL n0 u0 : Nat} {Q : State → Prop} {cc : ByteArray} {own : String} {ini : Bool} {pcOf : Nat → Nat} {pc len pl : Nat} {raw : Instr} {call : Nat → List Value → PH → (Option Value → PH → Prop) → Prop} {jump : Nat → List Value → List Value → PH → Prop} {fin : Option Value → PH → Prop} {rk : Nat} {K : List Value → List Value → PH → Prop} {ls st : List Value} {h : PH}  (hx : p.tables.exec = Jvm.exec) (hb : c.code = cc) (hd : decode cc pc = .ok (raw, len)) (ho : okI own ini nL pcOf pc raw len pl (.dup) = true) (hK : ∀ ls st h, K ls st h → GoW X p l e R s m args below meth c nL n0 u0 Q (pc + len) ls st h) (H : wpI call jump fin rk (.dup) K ls st h) : GoW X p l e R s m args below meth c nL n0 u0 Q pc ls st h := by
  simp only [okI] at ho
  split at ho
  case _ =>
    cases eq_of_beq ho
    simp only [wpI] at H
    split at H
    · intro H0 locs lsM P L B1 B2 B3
      exact lv_dup hx hb hd rfl (hK _ _ _ H _ _ _ P L B1 B2 B3)
    · intro H0 locs lsM P L B1 B2 B3
      exact lv_dup hx hb hd rfl (hK _ _ _ H _ _ _ P L B1 B2 B3)
    · intro H0 locs lsM P L B1 B2 B3
      exact lv_dup hx hb hd rfl (hK _ _ _ H _ _ _ P L B1 B2 B3)
    · exact H.elim
  all_goals cases ho
theorem sd_dup2 {X : CX} {KS : CX → State → Prop} {p : Program} {l : Launch} {e : Env} {R : Room} {s : State} {m : MethodId} {args : Array Value} {below : List Frame} {meth : Method} {c : Code} {nL n0 u0 : Nat} {Q : State → Prop} {cc : ByteArray} {own : String} {ini : Bool} {pcOf : Nat → Nat} {pc len pl : Nat} {raw : Instr} {call : Nat → List Value → PH → (Option Value → PH → Prop) → Prop} {jump : Nat → List Value → List Value → PH → Prop} {fin : Option Value → PH → Prop} {rk : Nat} {K : List Value → List Value → PH → Prop} {ls st : List Value} {h : PH}  (hx : p.tables.exec = Jvm.exec) (hb : c.code = cc) (hd : decode cc pc = .ok (raw, len)) (ho : okI own ini nL pcOf pc raw len pl (.dup2) = true) (hK : ∀ ls st h, K ls st h → GoW X p l e R s m args below meth c nL n0 u0 Q (pc + len) ls st h) (H : wpI call jump fin rk (.dup2) K ls st h) : GoW X p l e R s m args below meth c nL n0 u0 Q pc ls st h := by
  simp only [okI] at ho
  split at ho
  case _ =>
    cases eq_of_beq ho
    simp only [wpI] at H
    split at H
    · intro H0 locs lsM P L B1 B2 B3
      exact lv_dup2_11 hx hb hd rfl rfl (hK _ _ _ H _ _ _ P L B1 B2 B3)
    · intro H0 locs lsM P L B1 B2 B3
      exact lv_dup2_2 hx hb hd rfl (hK _ _ _ H _ _ _ P L B1 B2 B3)
    · exact H.elim
  all_goals cases ho
theorem sd_pop {X : CX} {KS : CX → State → Prop} {p : Program} {l : Launch} {e : Env} {R : Room} {s : State} {m : MethodId} {args : Array Value} {below : List Frame} {meth : Method} {c : Code} {nL n0 u0 : Nat} {Q : State → Prop} {cc : ByteArray} {own : String} {ini : Bool} {pcOf : Nat → Nat} {pc len pl : Nat} {raw : Instr} {call : Nat → List Value → PH → (Option Value → PH → Prop) → Prop} {jump : Nat → List Value → List Value → PH → Prop} {fin : Option Value → PH → Prop} {rk : Nat} {K : List Value → List Value → PH → Prop} {ls st : List Value} {h : PH}  (hx : p.tables.exec = Jvm.exec) (hb : c.code = cc) (hd : decode cc pc = .ok (raw, len)) (ho : okI own ini nL pcOf pc raw len pl (.pop) = true) (hK : ∀ ls st h, K ls st h → GoW X p l e R s m args below meth c nL n0 u0 Q (pc + len) ls st h) (H : wpI call jump fin rk (.pop) K ls st h) : GoW X p l e R s m args below meth c nL n0 u0 Q pc ls st h := by
  simp only [okI] at ho
  split at ho
  case _ =>
    cases eq_of_beq ho
    simp only [wpI] at H
    split at H
    · intro H0 locs lsM P L B1 B2 B3
      exact lv_pop hx hb hd rfl (hK _ _ _ H _ _ _ P L B1 B2 B3)
    · intro H0 locs lsM P L B1 B2 B3
      exact lv_pop hx hb hd rfl (hK _ _ _ H _ _ _ P L B1 B2 B3)
    · intro H0 locs lsM P L B1 B2 B3
      exact lv_pop hx hb hd rfl (hK _ _ _ H _ _ _ P L B1 B2 B3)
    · exact H.elim
  all_goals cases ho
theorem sd_goto {X : CX} {KS : CX → State → Prop} {p : Program} {l : Launch} {e : Env} {R : Room} {s : State} {m : MethodId} {args : Array Value} {below : List Frame} {meth : Method} {c : Code} {nL n0 u0 : Nat} {Q : State → Prop} {cc : ByteArray} {own : String} {ini : Bool} {pcOf : Nat → Nat} {pc len pl : Nat} {raw : Instr} {call : Nat → List Value → PH → (Option Value → PH → Prop) → Prop} {jump : Nat → List Value → List Value → PH → Prop} {fin : Option Value → PH → Prop} {rk : Nat} {K : List Value → List Value → PH → Prop} {ls st : List Value} {h : PH} {z : Int} (hx : p.tables.exec = Jvm.exec) (hb : c.code = cc) (hd : decode cc pc = .ok (raw, len)) (ho : okI own ini nL pcOf pc raw len pl (.goto z) = true) (hJ : ∀ b ls st h, jump b ls st h → GoW X p l e R s m args below meth c nL n0 u0 Q (pcOf b) ls st h) (H : wpI call jump fin rk (.goto z) K ls st h) : GoW X p l e R s m args below meth c nL n0 u0 Q pc ls st h := by
  simp only [wpI] at H
  simp only [okI] at ho
  split at ho
  · simp only [Bool.and_eq_true, beq_iff_eq, decide_eq_true_eq] at ho
    obtain ⟨rfl, ht⟩ := ho
    intro H0 locs lsM P L B1 B2 B3
    exact lv_goto hx hb hd ht (hJ _ _ _ _ H _ _ _ P L B1 B2 B3)
  · cases ho
theorem sd_if_icmp_eq {X : CX} {KS : CX → State → Prop} {p : Program} {l : Launch} {e : Env} {R : Room} {s : State} {m : MethodId} {args : Array Value} {below : List Frame} {meth : Method} {c : Code} {nL n0 u0 : Nat} {Q : State → Prop} {cc : ByteArray} {own : String} {ini : Bool} {pcOf : Nat → Nat} {pc len pl : Nat} {raw : Instr} {call : Nat → List Value → PH → (Option Value → PH → Prop) → Prop} {jump : Nat → List Value → List Value → PH → Prop} {fin : Option Value → PH → Prop} {rk : Nat} {K : List Value → List Value → PH → Prop} {ls st : List Value} {h : PH} {z : Int} (hx : p.tables.exec = Jvm.exec) (hb : c.code = cc) (hd : decode cc pc = .ok (raw, len)) (ho : okI own ini nL pcOf pc raw len pl (.if_icmp .eq z) = true) (hK : ∀ ls st h, K ls st h → GoW X p l e R s m args below meth c nL n0 u0 Q (pc + len) ls st h) (hJ : ∀ b ls st h, jump b ls st h → GoW X p l e R s m args below meth c nL n0 u0 Q (pcOf b) ls st h) (H : wpI call jump fin rk (.if_icmp .eq z) K ls st h) : GoW X p l e R s m args below meth c nL n0 u0 Q pc ls st h := by
  simp only [wpI] at H
  simp only [okI] at ho
  split at ho
  · simp only [Bool.and_eq_true, beq_iff_eq, decide_eq_true_eq] at ho
    obtain ⟨⟨rfl, rfl⟩, ht⟩ := ho
    split at H
    · intro H0 locs lsM P L B1 B2 B3
      exact lv_icmp_eq hx hb hd ht (fun q => hJ _ _ _ _ (by rw [if_pos q] at H; exact H) _ _ _ P L B1 B2 B3) (fun q => hK _ _ _ (by rw [if_neg q] at H; exact H) _ _ _ P L B1 B2 B3)
    · exact H.elim
  · cases ho
theorem sd_if_icmp_ne {X : CX} {KS : CX → State → Prop} {p : Program} {l : Launch} {e : Env} {R : Room} {s : State} {m : MethodId} {args : Array Value} {below : List Frame} {meth : Method} {c : Code} {nL n0 u0 : Nat} {Q : State → Prop} {cc : ByteArray} {own : String} {ini : Bool} {pcOf : Nat → Nat} {pc len pl : Nat} {raw : Instr} {call : Nat → List Value → PH → (Option Value → PH → Prop) → Prop} {jump : Nat → List Value → List Value → PH → Prop} {fin : Option Value → PH → Prop} {rk : Nat} {K : List Value → List Value → PH → Prop} {ls st : List Value} {h : PH} {z : Int} (hx : p.tables.exec = Jvm.exec) (hb : c.code = cc) (hd : decode cc pc = .ok (raw, len)) (ho : okI own ini nL pcOf pc raw len pl (.if_icmp .ne z) = true) (hK : ∀ ls st h, K ls st h → GoW X p l e R s m args below meth c nL n0 u0 Q (pc + len) ls st h) (hJ : ∀ b ls st h, jump b ls st h → GoW X p l e R s m args below meth c nL n0 u0 Q (pcOf b) ls st h) (H : wpI call jump fin rk (.if_icmp .ne z) K ls st h) : GoW X p l e R s m args below meth c nL n0 u0 Q pc ls st h := by
  simp only [wpI] at H
  simp only [okI] at ho
  split at ho
  · simp only [Bool.and_eq_true, beq_iff_eq, decide_eq_true_eq] at ho
    obtain ⟨⟨rfl, rfl⟩, ht⟩ := ho
    split at H
    · intro H0 locs lsM P L B1 B2 B3
      exact lv_icmp_ne hx hb hd ht (fun q => hJ _ _ _ _ (by rw [if_neg q] at H; exact H) _ _ _ P L B1 B2 B3) (fun q => hK _ _ _ (by rw [if_pos q] at H; exact H) _ _ _ P L B1 B2 B3)
    · exact H.elim
  · cases ho
theorem sd_if_icmp_lt {X : CX} {KS : CX → State → Prop} {p : Program} {l : Launch} {e : Env} {R : Room} {s : State} {m : MethodId} {args : Array Value} {below : List Frame} {meth : Method} {c : Code} {nL n0 u0 : Nat} {Q : State → Prop} {cc : ByteArray} {own : String} {ini : Bool} {pcOf : Nat → Nat} {pc len pl : Nat} {raw : Instr} {call : Nat → List Value → PH → (Option Value → PH → Prop) → Prop} {jump : Nat → List Value → List Value → PH → Prop} {fin : Option Value → PH → Prop} {rk : Nat} {K : List Value → List Value → PH → Prop} {ls st : List Value} {h : PH} {z : Int} (hx : p.tables.exec = Jvm.exec) (hb : c.code = cc) (hd : decode cc pc = .ok (raw, len)) (ho : okI own ini nL pcOf pc raw len pl (.if_icmp .lt z) = true) (hK : ∀ ls st h, K ls st h → GoW X p l e R s m args below meth c nL n0 u0 Q (pc + len) ls st h) (hJ : ∀ b ls st h, jump b ls st h → GoW X p l e R s m args below meth c nL n0 u0 Q (pcOf b) ls st h) (H : wpI call jump fin rk (.if_icmp .lt z) K ls st h) : GoW X p l e R s m args below meth c nL n0 u0 Q pc ls st h := by
  simp only [wpI] at H
  simp only [okI] at ho
  split at ho
  · simp only [Bool.and_eq_true, beq_iff_eq, decide_eq_true_eq] at ho
    obtain ⟨⟨rfl, rfl⟩, ht⟩ := ho
    split at H
    · intro H0 locs lsM P L B1 B2 B3
      exact lv_icmp_lt hx hb hd ht (fun q => hJ _ _ _ _ (by rw [if_pos q] at H; exact H) _ _ _ P L B1 B2 B3) (fun q => hK _ _ _ (by rw [if_neg q] at H; exact H) _ _ _ P L B1 B2 B3)
    · exact H.elim
  · cases ho
theorem sd_if_icmp_ge {X : CX} {KS : CX → State → Prop} {p : Program} {l : Launch} {e : Env} {R : Room} {s : State} {m : MethodId} {args : Array Value} {below : List Frame} {meth : Method} {c : Code} {nL n0 u0 : Nat} {Q : State → Prop} {cc : ByteArray} {own : String} {ini : Bool} {pcOf : Nat → Nat} {pc len pl : Nat} {raw : Instr} {call : Nat → List Value → PH → (Option Value → PH → Prop) → Prop} {jump : Nat → List Value → List Value → PH → Prop} {fin : Option Value → PH → Prop} {rk : Nat} {K : List Value → List Value → PH → Prop} {ls st : List Value} {h : PH} {z : Int} (hx : p.tables.exec = Jvm.exec) (hb : c.code = cc) (hd : decode cc pc = .ok (raw, len)) (ho : okI own ini nL pcOf pc raw len pl (.if_icmp .ge z) = true) (hK : ∀ ls st h, K ls st h → GoW X p l e R s m args below meth c nL n0 u0 Q (pc + len) ls st h) (hJ : ∀ b ls st h, jump b ls st h → GoW X p l e R s m args below meth c nL n0 u0 Q (pcOf b) ls st h) (H : wpI call jump fin rk (.if_icmp .ge z) K ls st h) : GoW X p l e R s m args below meth c nL n0 u0 Q pc ls st h := by
  simp only [wpI] at H
  simp only [okI] at ho
  split at ho
  · simp only [Bool.and_eq_true, beq_iff_eq, decide_eq_true_eq] at ho
    obtain ⟨⟨rfl, rfl⟩, ht⟩ := ho
    split at H
    · intro H0 locs lsM P L B1 B2 B3
      exact lv_icmp_ge hx hb hd ht (fun q => hJ _ _ _ _ (by rw [if_pos q] at H; exact H) _ _ _ P L B1 B2 B3) (fun q => hK _ _ _ (by rw [if_neg q] at H; exact H) _ _ _ P L B1 B2 B3)
    · exact H.elim
  · cases ho
theorem sd_if_icmp_gt {X : CX} {KS : CX → State → Prop} {p : Program} {l : Launch} {e : Env} {R : Room} {s : State} {m : MethodId} {args : Array Value} {below : List Frame} {meth : Method} {c : Code} {nL n0 u0 : Nat} {Q : State → Prop} {cc : ByteArray} {own : String} {ini : Bool} {pcOf : Nat → Nat} {pc len pl : Nat} {raw : Instr} {call : Nat → List Value → PH → (Option Value → PH → Prop) → Prop} {jump : Nat → List Value → List Value → PH → Prop} {fin : Option Value → PH → Prop} {rk : Nat} {K : List Value → List Value → PH → Prop} {ls st : List Value} {h : PH} {z : Int} (hx : p.tables.exec = Jvm.exec) (hb : c.code = cc) (hd : decode cc pc = .ok (raw, len)) (ho : okI own ini nL pcOf pc raw len pl (.if_icmp .gt z) = true) (hK : ∀ ls st h, K ls st h → GoW X p l e R s m args below meth c nL n0 u0 Q (pc + len) ls st h) (hJ : ∀ b ls st h, jump b ls st h → GoW X p l e R s m args below meth c nL n0 u0 Q (pcOf b) ls st h) (H : wpI call jump fin rk (.if_icmp .gt z) K ls st h) : GoW X p l e R s m args below meth c nL n0 u0 Q pc ls st h := by
  simp only [wpI] at H
  simp only [okI] at ho
  split at ho
  · simp only [Bool.and_eq_true, beq_iff_eq, decide_eq_true_eq] at ho
    obtain ⟨⟨rfl, rfl⟩, ht⟩ := ho
    split at H
    · intro H0 locs lsM P L B1 B2 B3
      exact lv_icmp_gt hx hb hd ht (fun q => hJ _ _ _ _ (by rw [if_pos q] at H; exact H) _ _ _ P L B1 B2 B3) (fun q => hK _ _ _ (by rw [if_neg q] at H; exact H) _ _ _ P L B1 B2 B3)
    · exact H.elim
  · cases ho
theorem sd_if_icmp_le {X : CX} {KS : CX → State → Prop} {p : Program} {l : Launch} {e : Env} {R : Room} {s : State} {m : MethodId} {args : Array Value} {below : List Frame} {meth : Method} {c : Code} {nL n0 u0 : Nat} {Q : State → Prop} {cc : ByteArray} {own : String} {ini : Bool} {pcOf : Nat → Nat} {pc len pl : Nat} {raw : Instr} {call : Nat → List Value → PH → (Option Value → PH → Prop) → Prop} {jump : Nat → List Value → List Value → PH → Prop} {fin : Option Value → PH → Prop} {rk : Nat} {K : List Value → List Value → PH → Prop} {ls st : List Value} {h : PH} {z : Int} (hx : p.tables.exec = Jvm.exec) (hb : c.code = cc) (hd : decode cc pc = .ok (raw, len)) (ho : okI own ini nL pcOf pc raw len pl (.if_icmp .le z) = true) (hK : ∀ ls st h, K ls st h → GoW X p l e R s m args below meth c nL n0 u0 Q (pc + len) ls st h) (hJ : ∀ b ls st h, jump b ls st h → GoW X p l e R s m args below meth c nL n0 u0 Q (pcOf b) ls st h) (H : wpI call jump fin rk (.if_icmp .le z) K ls st h) : GoW X p l e R s m args below meth c nL n0 u0 Q pc ls st h := by
  simp only [wpI] at H
  simp only [okI] at ho
  split at ho
  · simp only [Bool.and_eq_true, beq_iff_eq, decide_eq_true_eq] at ho
    obtain ⟨⟨rfl, rfl⟩, ht⟩ := ho
    split at H
    · intro H0 locs lsM P L B1 B2 B3
      exact lv_icmp_le hx hb hd ht (fun q => hJ _ _ _ _ (by rw [if_pos q] at H; exact H) _ _ _ P L B1 B2 B3) (fun q => hK _ _ _ (by rw [if_neg q] at H; exact H) _ _ _ P L B1 B2 B3)
    · exact H.elim
  · cases ho
theorem sd_ifCond_eq {X : CX} {KS : CX → State → Prop} {p : Program} {l : Launch} {e : Env} {R : Room} {s : State} {m : MethodId} {args : Array Value} {below : List Frame} {meth : Method} {c : Code} {nL n0 u0 : Nat} {Q : State → Prop} {cc : ByteArray} {own : String} {ini : Bool} {pcOf : Nat → Nat} {pc len pl : Nat} {raw : Instr} {call : Nat → List Value → PH → (Option Value → PH → Prop) → Prop} {jump : Nat → List Value → List Value → PH → Prop} {fin : Option Value → PH → Prop} {rk : Nat} {K : List Value → List Value → PH → Prop} {ls st : List Value} {h : PH} {z : Int} (hx : p.tables.exec = Jvm.exec) (hb : c.code = cc) (hd : decode cc pc = .ok (raw, len)) (ho : okI own ini nL pcOf pc raw len pl (.ifCond .eq z) = true) (hK : ∀ ls st h, K ls st h → GoW X p l e R s m args below meth c nL n0 u0 Q (pc + len) ls st h) (hJ : ∀ b ls st h, jump b ls st h → GoW X p l e R s m args below meth c nL n0 u0 Q (pcOf b) ls st h) (H : wpI call jump fin rk (.ifCond .eq z) K ls st h) : GoW X p l e R s m args below meth c nL n0 u0 Q pc ls st h := by
  simp only [wpI] at H
  simp only [okI] at ho
  split at ho
  · simp only [Bool.and_eq_true, beq_iff_eq, decide_eq_true_eq] at ho
    obtain ⟨⟨rfl, rfl⟩, ht⟩ := ho
    split at H
    · intro H0 locs lsM P L B1 B2 B3
      exact lv_if_eq hx hb hd ht (fun q => hJ _ _ _ _ (by rw [if_pos q] at H; exact H) _ _ _ P L B1 B2 B3) (fun q => hK _ _ _ (by rw [if_neg q] at H; exact H) _ _ _ P L B1 B2 B3)
    · exact H.elim
  · cases ho
theorem sd_ifCond_ne {X : CX} {KS : CX → State → Prop} {p : Program} {l : Launch} {e : Env} {R : Room} {s : State} {m : MethodId} {args : Array Value} {below : List Frame} {meth : Method} {c : Code} {nL n0 u0 : Nat} {Q : State → Prop} {cc : ByteArray} {own : String} {ini : Bool} {pcOf : Nat → Nat} {pc len pl : Nat} {raw : Instr} {call : Nat → List Value → PH → (Option Value → PH → Prop) → Prop} {jump : Nat → List Value → List Value → PH → Prop} {fin : Option Value → PH → Prop} {rk : Nat} {K : List Value → List Value → PH → Prop} {ls st : List Value} {h : PH} {z : Int} (hx : p.tables.exec = Jvm.exec) (hb : c.code = cc) (hd : decode cc pc = .ok (raw, len)) (ho : okI own ini nL pcOf pc raw len pl (.ifCond .ne z) = true) (hK : ∀ ls st h, K ls st h → GoW X p l e R s m args below meth c nL n0 u0 Q (pc + len) ls st h) (hJ : ∀ b ls st h, jump b ls st h → GoW X p l e R s m args below meth c nL n0 u0 Q (pcOf b) ls st h) (H : wpI call jump fin rk (.ifCond .ne z) K ls st h) : GoW X p l e R s m args below meth c nL n0 u0 Q pc ls st h := by
  simp only [wpI] at H
  simp only [okI] at ho
  split at ho
  · simp only [Bool.and_eq_true, beq_iff_eq, decide_eq_true_eq] at ho
    obtain ⟨⟨rfl, rfl⟩, ht⟩ := ho
    split at H
    · intro H0 locs lsM P L B1 B2 B3
      exact lv_if_ne hx hb hd ht (fun q => hJ _ _ _ _ (by rw [if_neg q] at H; exact H) _ _ _ P L B1 B2 B3) (fun q => hK _ _ _ (by rw [if_pos q] at H; exact H) _ _ _ P L B1 B2 B3)
    · exact H.elim
  · cases ho
theorem sd_ifCond_lt {X : CX} {KS : CX → State → Prop} {p : Program} {l : Launch} {e : Env} {R : Room} {s : State} {m : MethodId} {args : Array Value} {below : List Frame} {meth : Method} {c : Code} {nL n0 u0 : Nat} {Q : State → Prop} {cc : ByteArray} {own : String} {ini : Bool} {pcOf : Nat → Nat} {pc len pl : Nat} {raw : Instr} {call : Nat → List Value → PH → (Option Value → PH → Prop) → Prop} {jump : Nat → List Value → List Value → PH → Prop} {fin : Option Value → PH → Prop} {rk : Nat} {K : List Value → List Value → PH → Prop} {ls st : List Value} {h : PH} {z : Int} (hx : p.tables.exec = Jvm.exec) (hb : c.code = cc) (hd : decode cc pc = .ok (raw, len)) (ho : okI own ini nL pcOf pc raw len pl (.ifCond .lt z) = true) (hK : ∀ ls st h, K ls st h → GoW X p l e R s m args below meth c nL n0 u0 Q (pc + len) ls st h) (hJ : ∀ b ls st h, jump b ls st h → GoW X p l e R s m args below meth c nL n0 u0 Q (pcOf b) ls st h) (H : wpI call jump fin rk (.ifCond .lt z) K ls st h) : GoW X p l e R s m args below meth c nL n0 u0 Q pc ls st h := by
  simp only [wpI] at H
  simp only [okI] at ho
  split at ho
  · simp only [Bool.and_eq_true, beq_iff_eq, decide_eq_true_eq] at ho
    obtain ⟨⟨rfl, rfl⟩, ht⟩ := ho
    split at H
    · intro H0 locs lsM P L B1 B2 B3
      exact lv_if_lt hx hb hd ht (fun q => hJ _ _ _ _ (by rw [if_pos q] at H; exact H) _ _ _ P L B1 B2 B3) (fun q => hK _ _ _ (by rw [if_neg q] at H; exact H) _ _ _ P L B1 B2 B3)
    · exact H.elim
  · cases ho
theorem sd_ifCond_ge {X : CX} {KS : CX → State → Prop} {p : Program} {l : Launch} {e : Env} {R : Room} {s : State} {m : MethodId} {args : Array Value} {below : List Frame} {meth : Method} {c : Code} {nL n0 u0 : Nat} {Q : State → Prop} {cc : ByteArray} {own : String} {ini : Bool} {pcOf : Nat → Nat} {pc len pl : Nat} {raw : Instr} {call : Nat → List Value → PH → (Option Value → PH → Prop) → Prop} {jump : Nat → List Value → List Value → PH → Prop} {fin : Option Value → PH → Prop} {rk : Nat} {K : List Value → List Value → PH → Prop} {ls st : List Value} {h : PH} {z : Int} (hx : p.tables.exec = Jvm.exec) (hb : c.code = cc) (hd : decode cc pc = .ok (raw, len)) (ho : okI own ini nL pcOf pc raw len pl (.ifCond .ge z) = true) (hK : ∀ ls st h, K ls st h → GoW X p l e R s m args below meth c nL n0 u0 Q (pc + len) ls st h) (hJ : ∀ b ls st h, jump b ls st h → GoW X p l e R s m args below meth c nL n0 u0 Q (pcOf b) ls st h) (H : wpI call jump fin rk (.ifCond .ge z) K ls st h) : GoW X p l e R s m args below meth c nL n0 u0 Q pc ls st h := by
  simp only [wpI] at H
  simp only [okI] at ho
  split at ho
  · simp only [Bool.and_eq_true, beq_iff_eq, decide_eq_true_eq] at ho
    obtain ⟨⟨rfl, rfl⟩, ht⟩ := ho
    split at H
    · intro H0 locs lsM P L B1 B2 B3
      exact lv_if_ge hx hb hd ht (fun q => hJ _ _ _ _ (by rw [if_pos q] at H; exact H) _ _ _ P L B1 B2 B3) (fun q => hK _ _ _ (by rw [if_neg q] at H; exact H) _ _ _ P L B1 B2 B3)
    · exact H.elim
  · cases ho
theorem sd_ifCond_gt {X : CX} {KS : CX → State → Prop} {p : Program} {l : Launch} {e : Env} {R : Room} {s : State} {m : MethodId} {args : Array Value} {below : List Frame} {meth : Method} {c : Code} {nL n0 u0 : Nat} {Q : State → Prop} {cc : ByteArray} {own : String} {ini : Bool} {pcOf : Nat → Nat} {pc len pl : Nat} {raw : Instr} {call : Nat → List Value → PH → (Option Value → PH → Prop) → Prop} {jump : Nat → List Value → List Value → PH → Prop} {fin : Option Value → PH → Prop} {rk : Nat} {K : List Value → List Value → PH → Prop} {ls st : List Value} {h : PH} {z : Int} (hx : p.tables.exec = Jvm.exec) (hb : c.code = cc) (hd : decode cc pc = .ok (raw, len)) (ho : okI own ini nL pcOf pc raw len pl (.ifCond .gt z) = true) (hK : ∀ ls st h, K ls st h → GoW X p l e R s m args below meth c nL n0 u0 Q (pc + len) ls st h) (hJ : ∀ b ls st h, jump b ls st h → GoW X p l e R s m args below meth c nL n0 u0 Q (pcOf b) ls st h) (H : wpI call jump fin rk (.ifCond .gt z) K ls st h) : GoW X p l e R s m args below meth c nL n0 u0 Q pc ls st h := by
  simp only [wpI] at H
  simp only [okI] at ho
  split at ho
  · simp only [Bool.and_eq_true, beq_iff_eq, decide_eq_true_eq] at ho
    obtain ⟨⟨rfl, rfl⟩, ht⟩ := ho
    split at H
    · intro H0 locs lsM P L B1 B2 B3
      exact lv_if_gt hx hb hd ht (fun q => hJ _ _ _ _ (by rw [if_pos q] at H; exact H) _ _ _ P L B1 B2 B3) (fun q => hK _ _ _ (by rw [if_neg q] at H; exact H) _ _ _ P L B1 B2 B3)
    · exact H.elim
  · cases ho
theorem sd_ifCond_le {X : CX} {KS : CX → State → Prop} {p : Program} {l : Launch} {e : Env} {R : Room} {s : State} {m : MethodId} {args : Array Value} {below : List Frame} {meth : Method} {c : Code} {nL n0 u0 : Nat} {Q : State → Prop} {cc : ByteArray} {own : String} {ini : Bool} {pcOf : Nat → Nat} {pc len pl : Nat} {raw : Instr} {call : Nat → List Value → PH → (Option Value → PH → Prop) → Prop} {jump : Nat → List Value → List Value → PH → Prop} {fin : Option Value → PH → Prop} {rk : Nat} {K : List Value → List Value → PH → Prop} {ls st : List Value} {h : PH} {z : Int} (hx : p.tables.exec = Jvm.exec) (hb : c.code = cc) (hd : decode cc pc = .ok (raw, len)) (ho : okI own ini nL pcOf pc raw len pl (.ifCond .le z) = true) (hK : ∀ ls st h, K ls st h → GoW X p l e R s m args below meth c nL n0 u0 Q (pc + len) ls st h) (hJ : ∀ b ls st h, jump b ls st h → GoW X p l e R s m args below meth c nL n0 u0 Q (pcOf b) ls st h) (H : wpI call jump fin rk (.ifCond .le z) K ls st h) : GoW X p l e R s m args below meth c nL n0 u0 Q pc ls st h := by
  simp only [wpI] at H
  simp only [okI] at ho
  split at ho
  · simp only [Bool.and_eq_true, beq_iff_eq, decide_eq_true_eq] at ho
    obtain ⟨⟨rfl, rfl⟩, ht⟩ := ho
    split at H
    · intro H0 locs lsM P L B1 B2 B3
      exact lv_if_le hx hb hd ht (fun q => hJ _ _ _ _ (by rw [if_pos q] at H; exact H) _ _ _ P L B1 B2 B3) (fun q => hK _ _ _ (by rw [if_neg q] at H; exact H) _ _ _ P L B1 B2 B3)
    · exact H.elim
  · cases ho
theorem sd_ifnull {X : CX} {KS : CX → State → Prop} {p : Program} {l : Launch} {e : Env} {R : Room} {s : State} {m : MethodId} {args : Array Value} {below : List Frame} {meth : Method} {c : Code} {nL n0 u0 : Nat} {Q : State → Prop} {cc : ByteArray} {own : String} {ini : Bool} {pcOf : Nat → Nat} {pc len pl : Nat} {raw : Instr} {call : Nat → List Value → PH → (Option Value → PH → Prop) → Prop} {jump : Nat → List Value → List Value → PH → Prop} {fin : Option Value → PH → Prop} {rk : Nat} {K : List Value → List Value → PH → Prop} {ls st : List Value} {h : PH} {z : Int} (hx : p.tables.exec = Jvm.exec) (hb : c.code = cc) (hd : decode cc pc = .ok (raw, len)) (ho : okI own ini nL pcOf pc raw len pl (.ifnull z) = true) (hK : ∀ ls st h, K ls st h → GoW X p l e R s m args below meth c nL n0 u0 Q (pc + len) ls st h) (hJ : ∀ b ls st h, jump b ls st h → GoW X p l e R s m args below meth c nL n0 u0 Q (pcOf b) ls st h) (H : wpI call jump fin rk (.ifnull z) K ls st h) : GoW X p l e R s m args below meth c nL n0 u0 Q pc ls st h := by
  simp only [wpI] at H
  simp only [okI] at ho
  split at ho
  · simp only [Bool.and_eq_true, beq_iff_eq, decide_eq_true_eq] at ho
    obtain ⟨rfl, ht⟩ := ho
    split at H
    · intro H0 locs lsM P L B1 B2 B3
      exact lv_ifnullN hx hb hd ht (hJ _ _ _ _ H _ _ _ P L B1 B2 B3)
    · intro H0 locs lsM P L B1 B2 B3
      exact lv_ifnull hx hb hd (hK _ _ _ H _ _ _ P L B1 B2 B3)
    · exact H.elim
  · cases ho
theorem sd_ifnonnull {X : CX} {KS : CX → State → Prop} {p : Program} {l : Launch} {e : Env} {R : Room} {s : State} {m : MethodId} {args : Array Value} {below : List Frame} {meth : Method} {c : Code} {nL n0 u0 : Nat} {Q : State → Prop} {cc : ByteArray} {own : String} {ini : Bool} {pcOf : Nat → Nat} {pc len pl : Nat} {raw : Instr} {call : Nat → List Value → PH → (Option Value → PH → Prop) → Prop} {jump : Nat → List Value → List Value → PH → Prop} {fin : Option Value → PH → Prop} {rk : Nat} {K : List Value → List Value → PH → Prop} {ls st : List Value} {h : PH} {z : Int} (hx : p.tables.exec = Jvm.exec) (hb : c.code = cc) (hd : decode cc pc = .ok (raw, len)) (ho : okI own ini nL pcOf pc raw len pl (.ifnonnull z) = true) (hK : ∀ ls st h, K ls st h → GoW X p l e R s m args below meth c nL n0 u0 Q (pc + len) ls st h) (hJ : ∀ b ls st h, jump b ls st h → GoW X p l e R s m args below meth c nL n0 u0 Q (pcOf b) ls st h) (H : wpI call jump fin rk (.ifnonnull z) K ls st h) : GoW X p l e R s m args below meth c nL n0 u0 Q pc ls st h := by
  simp only [wpI] at H
  simp only [okI] at ho
  split at ho
  · simp only [Bool.and_eq_true, beq_iff_eq, decide_eq_true_eq] at ho
    obtain ⟨rfl, ht⟩ := ho
    split at H
    · intro H0 locs lsM P L B1 B2 B3
      exact lv_ifnonnull hx hb hd ht (hJ _ _ _ _ H _ _ _ P L B1 B2 B3)
    · intro H0 locs lsM P L B1 B2 B3
      exact lv_ifnonnullN hx hb hd (hK _ _ _ H _ _ _ P L B1 B2 B3)
    · exact H.elim
  · cases ho
theorem sd_tableswitch {X : CX} {KS : CX → State → Prop} {p : Program} {l : Launch} {e : Env} {R : Room} {s : State} {m : MethodId} {args : Array Value} {below : List Frame} {meth : Method} {c : Code} {nL n0 u0 : Nat} {Q : State → Prop} {cc : ByteArray} {own : String} {ini : Bool} {pcOf : Nat → Nat} {pc len pl : Nat} {raw : Instr} {call : Nat → List Value → PH → (Option Value → PH → Prop) → Prop} {jump : Nat → List Value → List Value → PH → Prop} {fin : Option Value → PH → Prop} {rk : Nat} {K : List Value → List Value → PH → Prop} {ls st : List Value} {h : PH} {d lo hi : Int} {offs : Array Int} (hx : p.tables.exec = Jvm.exec) (hb : c.code = cc) (hd : decode cc pc = .ok (raw, len)) (ho : okI own ini nL pcOf pc raw len pl (.tableswitch d lo hi offs) = true) (hJ : ∀ b ls st h, jump b ls st h → GoW X p l e R s m args below meth c nL n0 u0 Q (pcOf b) ls st h) (H : wpI call jump fin rk (.tableswitch d lo hi offs) K ls st h) : GoW X p l e R s m args below meth c nL n0 u0 Q pc ls st h := by
  simp only [wpI] at H
  simp only [okI] at ho
  split at ho
  · rename_i d' lo' hi' offs'
    simp only [Bool.and_eq_true, beq_iff_eq, decide_eq_true_eq] at ho
    obtain ⟨⟨⟨⟨⟨rfl, rfl⟩, hdf⟩, hs1⟩, hs2⟩, hall⟩ := ho
    split at H
    · rename_i x st'
      intro H0 locs lsM P L B1 B2 B3
      by_cases hq : x.toInt < lo' ∨ hi' < x.toInt
      · rw [if_pos hq] at H
        exact lv_tableOut hx hb hd hq hdf (hJ _ _ _ _ H _ _ _ P L B1 B2 B3)
      · rw [if_neg hq] at H
        have h1 : ¬ x.toInt < lo' := fun q => hq (Or.inl q)
        have h2 : ¬ hi' < x.toInt := fun q => hq (Or.inr q)
        have hj : (x.toInt - lo').toNat < (hi' - lo').toNat + 1 := by omega
        have ht := List.all_eq_true.mp hall (x.toInt - lo').toNat (List.mem_range.mpr hj)
        simp only [decide_eq_true_eq] at ht
        have hg : offs'[(x.toInt - lo').toNat]? = some (offs'.getD (x.toInt - lo').toNat 0) := by
          have hz : (x.toInt - lo').toNat < offs'.size := by omega
          simp [Array.getD, hz]
        exact lv_tableIn hx hb hd h1 h2 hg ht (hJ _ _ _ _ H _ _ _ P L B1 B2 B3)
    · exact H.elim
  · cases ho
end
