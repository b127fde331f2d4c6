section

theorem inb_vp {i : Int32} {n : Nat} (h : inb i n) : ¬ (i < 0 ∨ n ≤ i.toNatClampNeg) := by
  rintro (z | z)
  · have := h.1
    rw [Int32.le_iff_toInt_le] at this
    rw [Int32.lt_iff_toInt_lt] at z
    omega
  · exact absurd h.2 (Nat.not_lt.mpr z)
theorem ev_sI {h : PH} {t a k j : Nat} {x : Int32} : evP (sI h a k x) t a j = if j = k ∧ (t ≠ 102 ∧ t ≠ 110 ∧ t ≠ 111 ∧ t ≠ 112) then .int x else evP h t a j := by
  by_cases e : j = k
  · subst e
    unfold evP
    split <;> simp_all [sI, hI, hJ, hR, up2]
  · rw [if_neg (fun z => e z.1)]
    unfold evP
    split <;> simp [sI, hI, hJ, hR, up2, e]
theorem ev_sJ {h : PH} {a k j : Nat} {x : Int64} : evP (sJ h a k x) 102 a j = if j = k then .long x else evP h 102 a j := by
  by_cases e : j = k <;> simp [evP, sJ, hJ, up2, e]
theorem ev_sR {h : PH} {t a k j : Nat} {x : Option Nat} (ht : t = 110 ∨ t = 111 ∨ t = 112) : evP (sR h a k x) t a j = if j = k then rfP x else evP h t a j := by
  rcases ht with rfl | rfl | rfl <;> by_cases e : j = k <;> simp [evP, sR, hR, up2, e]
/-- an array of ours has changed in one place -/
theorem Pic.ast {X : CX} {h h' : PH} {H H' : Heap} {a k : Nat} {v : Value} (P : Pic X h H) (ht : isAT (hT h a) = true) (hN' : hN h' = hN h) (hT' : hT h' a = hT h a) (hL' : hL h' a = hL h a) (hsame : ∀ b, b ≠ a → SameC h h' b)
    (hev : ∀ j, evP h' (hT h a) a j = if j = k then v else evP h (hT h a) a j) (e1 : H'[ad X a]? = some ((arrV (xA X (hT h a)) (hL h a) (fun j => rnv X (evP h (hT h a) a j))).setSlot k (rnv X v))) (e2 : H'.size = H.size) (e3 : ∀ q, q ≠ ad X a → H'[q]? = H[q]?) : Pic X h' H' := by
  obtain ⟨g1, g2, -⟩ := P.arr ht
  refine P.upd (a := a) (by rw [hT']; exact (isAT_not ht).2.2.2) g2 g1 hN' e2 e3 hsame (Or.inr (Or.inl ⟨by rw [hT']; exact ht, g2, ?_⟩))
  rw [e1, arrV_store, hT', hL']
  congr 2
  funext j
  rw [hev j]
  unfold updV
  by_cases e : j = k
  · rw [if_pos e, if_pos e]
  · rw [if_neg e, if_neg e]
theorem sd_iaload {X : CX} {KS : CX → State → Prop} {p : Program} {l : Launch} {e : Env} {R : Room} {s : State} {m : MethodId} {args : Array Value} {below : List Frame} {meth : Method} {c : Code} {nL n0 u0 : Nat} {Q : State → Prop} {cc : ByteArray} {own : String} {ini : Bool} {pcOf : Nat → Nat} {pc len pl : Nat} {raw : Instr} {call : Nat → List Value → PH → (Option Value → PH → Prop) → Prop} {jump : Nat → List Value → List Value → PH → Prop} {fin : Option Value → PH → Prop} {rk : Nat} {K : List Value → List Value → PH → Prop} {ls st : List Value} {h : PH}  (hx : p.tables.exec = Jvm.exec) (hb : c.code = cc) (hd : decode cc pc = .ok (raw, len)) (ho : okI own ini nL pcOf pc raw len pl (.iaload) = true) (hK : ∀ ls st h, K ls st h → GoW X p l e R s m args below meth c nL n0 u0 Q (pc + len) ls st h) (hKU : KU X KS s) (H : wpI call jump fin rk (.iaload) K ls st h) : GoW X p l e R s m args below meth c nL n0 u0 Q pc ls st h := by
  simp only [wpI] at H
  simp only [okI] at ho
  split at ho
  · cases eq_of_beq ho
    split at H
    · rename_i i a st'
      intro H0 locs lsM P L B1 B2 B3
      obtain ⟨ht, hi, H⟩ := H
      obtain ⟨cell, c1, c2, c3, c4, c5⟩ := P.ints hKU ht
      exact W.iald hx hb c1 c2 c3 (fun z => inb_vp hi (z.imp_right (fun y => Nat.le_trans c4.1 y))) (c5 _ hi.2) rfl rfl hd (hK _ _ _ H _ _ _ P L B1 B2 B3)
    · exact H.elim
  · cases ho
theorem sd_baload {X : CX} {KS : CX → State → Prop} {p : Program} {l : Launch} {e : Env} {R : Room} {s : State} {m : MethodId} {args : Array Value} {below : List Frame} {meth : Method} {c : Code} {nL n0 u0 : Nat} {Q : State → Prop} {cc : ByteArray} {own : String} {ini : Bool} {pcOf : Nat → Nat} {pc len pl : Nat} {raw : Instr} {call : Nat → List Value → PH → (Option Value → PH → Prop) → Prop} {jump : Nat → List Value → List Value → PH → Prop} {fin : Option Value → PH → Prop} {rk : Nat} {K : List Value → List Value → PH → Prop} {ls st : List Value} {h : PH}  (hx : p.tables.exec = Jvm.exec) (hb : c.code = cc) (hd : decode cc pc = .ok (raw, len)) (ho : okI own ini nL pcOf pc raw len pl (.baload) = true) (hK : ∀ ls st h, K ls st h → GoW X p l e R s m args below meth c nL n0 u0 Q (pc + len) ls st h) (hKU : KU X KS s) (H : wpI call jump fin rk (.baload) K ls st h) : GoW X p l e R s m args below meth c nL n0 u0 Q pc ls st h := by
  simp only [wpI] at H
  simp only [okI] at ho
  split at ho
  · cases eq_of_beq ho
    split at H
    · rename_i i a st'
      intro H0 locs lsM P L B1 B2 B3
      obtain ⟨ht, hi, H⟩ := H
      have hat : isAT (hT h a) = true := by rw [ht]; rfl
      obtain ⟨-, -, c1⟩ := P.arr hat
      rw [ht] at c1
      exact W.zald hx hb c1 ((hKU.2.1 101 rfl).1 _ _) (fun z => by cases z) (by rw [arrV_size]; exact inb_vp hi) (by rw [arrV_read _ _ hi.2]; rfl) rfl rfl hd (hK _ _ _ H _ _ _ P L B1 B2 B3)
    · exact H.elim
  · cases ho
theorem sd_laload {X : CX} {KS : CX → State → Prop} {p : Program} {l : Launch} {e : Env} {R : Room} {s : State} {m : MethodId} {args : Array Value} {below : List Frame} {meth : Method} {c : Code} {nL n0 u0 : Nat} {Q : State → Prop} {cc : ByteArray} {own : String} {ini : Bool} {pcOf : Nat → Nat} {pc len pl : Nat} {raw : Instr} {call : Nat → List Value → PH → (Option Value → PH → Prop) → Prop} {jump : Nat → List Value → List Value → PH → Prop} {fin : Option Value → PH → Prop} {rk : Nat} {K : List Value → List Value → PH → Prop} {ls st : List Value} {h : PH}  (hx : p.tables.exec = Jvm.exec) (hb : c.code = cc) (hd : decode cc pc = .ok (raw, len)) (ho : okI own ini nL pcOf pc raw len pl (.laload) = true) (hK : ∀ ls st h, K ls st h → GoW X p l e R s m args below meth c nL n0 u0 Q (pc + len) ls st h) (hKU : KU X KS s) (H : wpI call jump fin rk (.laload) K ls st h) : GoW X p l e R s m args below meth c nL n0 u0 Q pc ls st h := by
  simp only [wpI] at H
  simp only [okI] at ho
  split at ho
  · cases eq_of_beq ho
    split at H
    · rename_i i a st'
      intro H0 locs lsM P L B1 B2 B3
      obtain ⟨ht, hi, H⟩ := H
      have hat : isAT (hT h a) = true := by rw [ht]; rfl
      obtain ⟨-, -, c1⟩ := P.arr hat
      rw [ht] at c1
      exact W.lald hx hb c1 ((hKU.2.1 102 rfl).1 _ _) (fun z => by cases z) (by rw [arrV_size]; exact inb_vp hi) (by rw [arrV_read _ _ hi.2]; rfl) rfl rfl hd (hK _ _ _ H _ _ _ P L B1 B2 B3)
    · exact H.elim
  · cases ho
theorem sd_aaload {X : CX} {KS : CX → State → Prop} {p : Program} {l : Launch} {e : Env} {R : Room} {s : State} {m : MethodId} {args : Array Value} {below : List Frame} {meth : Method} {c : Code} {nL n0 u0 : Nat} {Q : State → Prop} {cc : ByteArray} {own : String} {ini : Bool} {pcOf : Nat → Nat} {pc len pl : Nat} {raw : Instr} {call : Nat → List Value → PH → (Option Value → PH → Prop) → Prop} {jump : Nat → List Value → List Value → PH → Prop} {fin : Option Value → PH → Prop} {rk : Nat} {K : List Value → List Value → PH → Prop} {ls st : List Value} {h : PH}  (hx : p.tables.exec = Jvm.exec) (hb : c.code = cc) (hd : decode cc pc = .ok (raw, len)) (ho : okI own ini nL pcOf pc raw len pl (.aaload) = true) (hK : ∀ ls st h, K ls st h → GoW X p l e R s m args below meth c nL n0 u0 Q (pc + len) ls st h) (hKU : KU X KS s) (H : wpI call jump fin rk (.aaload) K ls st h) : GoW X p l e R s m args below meth c nL n0 u0 Q pc ls st h := by
  simp only [wpI] at H
  simp only [okI] at ho
  split at ho
  · cases eq_of_beq ho
    split at H
    · rename_i i a st'
      intro H0 locs lsM P L B1 B2 B3
      obtain ⟨ht1, ht2, hi, H⟩ := H
      have key : ∀ t, hT h a = t → isAT t = true → t = 110 ∨ t = 111 ∨ t = 112 → (pA t).isReference = true → W p l e R s m args below meth c H0 locs (hN h - n0) (hU h - u0) Q (F0 m pc lsM ((.int i :: .ref a :: st').map (rnv X))) := by
        intro t ht hat h3 hr
        have hat' : isAT (hT h a) = true := by rw [ht]; exact hat
        obtain ⟨-, -, c1⟩ := P.arr hat'
        rw [ht] at c1
        exact W.aald (ty := pA t) (v := rnv X (rfP (hR h a i.toNatClampNeg))) hx hb c1 ((hKU.2.1 t hat).1 _ _) hr (fun z => by cases z) (by rw [arrV_size]; exact inb_vp hi) (by rw [arrV_read _ _ hi.2]; rcases h3 with rfl | rfl | rfl <;> rfl) rfl rfl hd (hK _ _ _ H _ _ _ P L B1 B2 B3)
      by_cases h0 : hT h a = 110
      · exact key 110 h0 rfl (Or.inl rfl) rfl
      by_cases h1 : hT h a = 111
      · exact key 111 h1 rfl (Or.inr (Or.inl rfl)) rfl
      by_cases h2 : hT h a = 112
      · exact key 112 h2 rfl (Or.inr (Or.inr rfl)) rfl
      exfalso
      obtain ⟨-, q2⟩ := P.2.2.2.1 a (by omega)
      rcases q2 with ⟨a1, -⟩ | ⟨a1, -⟩ | ⟨a1, -⟩
      · simp [isTg] at a1; omega
      · simp [isAT] at a1; omega
      · omega
    · exact H.elim
  · cases ho
theorem sd_arraylength {X : CX} {KS : CX → State → Prop} {p : Program} {l : Launch} {e : Env} {R : Room} {s : State} {m : MethodId} {args : Array Value} {below : List Frame} {meth : Method} {c : Code} {nL n0 u0 : Nat} {Q : State → Prop} {cc : ByteArray} {own : String} {ini : Bool} {pcOf : Nat → Nat} {pc len pl : Nat} {raw : Instr} {call : Nat → List Value → PH → (Option Value → PH → Prop) → Prop} {jump : Nat → List Value → List Value → PH → Prop} {fin : Option Value → PH → Prop} {rk : Nat} {K : List Value → List Value → PH → Prop} {ls st : List Value} {h : PH}  (hx : p.tables.exec = Jvm.exec) (hb : c.code = cc) (hd : decode cc pc = .ok (raw, len)) (ho : okI own ini nL pcOf pc raw len pl (.arraylength) = true) (hK : ∀ ls st h, K ls st h → GoW X p l e R s m args below meth c nL n0 u0 Q (pc + len) ls st h) (hKU : KU X KS s) (H : wpI call jump fin rk (.arraylength) K ls st h) : GoW X p l e R s m args below meth c nL n0 u0 Q pc ls st h := by
  simp only [wpI] at H
  simp only [okI] at ho
  split at ho
  · cases eq_of_beq ho
    split at H
    · rename_i a st'
      intro H0 locs lsM P L B1 B2 B3
      obtain ⟨ht1, ht2, H⟩ := H
      have kk := hK _ _ _ H _ _ _ P L B1 B2 B3
      by_cases h0 : hT h a = 120
      · obtain ⟨cell, c1, c2, c3, c4, c5⟩ := P.ints (U := s) hKU (by rw [h0]; rfl)
        exact W.alen (n := nI (hL h a)) hx hb c1 c2 c4.2 rfl rfl hd kk
      · obtain ⟨-, q2⟩ := P.2.2.2.1 a (by omega)
        rcases q2 with ⟨a1, -⟩ | ⟨a1, -, a3⟩ | ⟨a1, -⟩
        · simp [isTg] at a1; omega
        · exact W.alen (n := nI (hL h a)) hx hb a3 ((hKU.2.1 _ a1).1 _ _) (by rw [arrV_size]; rfl) rfl rfl hd kk
        · omega
    · exact H.elim
  · cases ho
theorem sd_iastore {X : CX} {KS : CX → State → Prop} {p : Program} {l : Launch} {e : Env} {R : Room} {s : State} {m : MethodId} {args : Array Value} {below : List Frame} {meth : Method} {c : Code} {nL n0 u0 : Nat} {Q : State → Prop} {cc : ByteArray} {own : String} {ini : Bool} {pcOf : Nat → Nat} {pc len pl : Nat} {raw : Instr} {call : Nat → List Value → PH → (Option Value → PH → Prop) → Prop} {jump : Nat → List Value → List Value → PH → Prop} {fin : Option Value → PH → Prop} {rk : Nat} {K : List Value → List Value → PH → Prop} {ls st : List Value} {h : PH}  (hx : p.tables.exec = Jvm.exec) (hb : c.code = cc) (hd : decode cc pc = .ok (raw, len)) (ho : okI own ini nL pcOf pc raw len pl (.iastore) = true) (hK : ∀ ls st h, K ls st h → GoW X p l e R s m args below meth c nL n0 u0 Q (pc + len) ls st h) (hKU : KU X KS s) (H : wpI call jump fin rk (.iastore) K ls st h) : GoW X p l e R s m args below meth c nL n0 u0 Q pc ls st h := by
  simp only [wpI] at H
  simp only [okI] at ho
  split at ho
  · cases eq_of_beq ho
    split at H
    · rename_i x i a st'
      intro H0 locs lsM P L B1 B2 B3
      obtain ⟨ht, hi, H⟩ := H
      have hat : isAT (hT h a) = true := by rw [ht]; rfl
      obtain ⟨-, g2, c1⟩ := P.arr hat
      have c1' := c1
      rw [ht] at c1'
      refine W.iast hx hb c1' ((hKU.2.1 100 rfl).1 _ _) (fun z => by cases z) (by rw [arrV_size]; exact inb_vp hi) rfl rfl hd fun H' e1 e2 e3 => ?_
      refine hK _ _ _ H _ _ _ (P.ast (k := i.toNatClampNeg) (v := .int x) hat rfl rfl rfl (fun b hb => same_sI hb) (fun j => ?_) ?_ e2 e3) L (mem_app B1 (ad_le g2)) B2 B3
      · rw [ht] 
        rw [ev_sI]
        simp
      · rw [ht, e1]
        rfl
    · exact H.elim
  · cases ho
theorem sd_bastore {X : CX} {KS : CX → State → Prop} {p : Program} {l : Launch} {e : Env} {R : Room} {s : State} {m : MethodId} {args : Array Value} {below : List Frame} {meth : Method} {c : Code} {nL n0 u0 : Nat} {Q : State → Prop} {cc : ByteArray} {own : String} {ini : Bool} {pcOf : Nat → Nat} {pc len pl : Nat} {raw : Instr} {call : Nat → List Value → PH → (Option Value → PH → Prop) → Prop} {jump : Nat → List Value → List Value → PH → Prop} {fin : Option Value → PH → Prop} {rk : Nat} {K : List Value → List Value → PH → Prop} {ls st : List Value} {h : PH}  (hx : p.tables.exec = Jvm.exec) (hb : c.code = cc) (hd : decode cc pc = .ok (raw, len)) (ho : okI own ini nL pcOf pc raw len pl (.bastore) = true) (hK : ∀ ls st h, K ls st h → GoW X p l e R s m args below meth c nL n0 u0 Q (pc + len) ls st h) (hKU : KU X KS s) (H : wpI call jump fin rk (.bastore) K ls st h) : GoW X p l e R s m args below meth c nL n0 u0 Q pc ls st h := by
  simp only [wpI] at H
  simp only [okI] at ho
  split at ho
  · cases eq_of_beq ho
    split at H
    · rename_i x i a st'
      intro H0 locs lsM P L B1 B2 B3
      obtain ⟨ht, hx01, hi, H⟩ := H
      have hat : isAT (hT h a) = true := by rw [ht]; rfl
      obtain ⟨-, g2, c1⟩ := P.arr hat
      have c1' := c1
      rw [ht] at c1'
      refine W.zast hx hb c1' ((hKU.2.1 101 rfl).1 _ _) (fun z => by cases z) (by rw [arrV_size]; exact inb_vp hi) rfl rfl hd fun H' e1 e2 e3 => ?_
      refine hK _ _ _ H _ _ _ (P.ast (k := i.toNatClampNeg) (v := .int x) hat rfl rfl rfl (fun b hb => same_sI hb) (fun j => ?_) ?_ e2 e3) L (mem_app B1 (ad_le g2)) B2 B3
      · rw [ht] 
        rw [ev_sI]
        simp
      · rw [ht, e1]
        rcases hx01 with rfl | rfl <;> rfl
    · exact H.elim
  · cases ho
theorem sd_lastore {X : CX} {KS : CX → State → Prop} {p : Program} {l : Launch} {e : Env} {R : Room} {s : State} {m : MethodId} {args : Array Value} {below : List Frame} {meth : Method} {c : Code} {nL n0 u0 : Nat} {Q : State → Prop} {cc : ByteArray} {own : String} {ini : Bool} {pcOf : Nat → Nat} {pc len pl : Nat} {raw : Instr} {call : Nat → List Value → PH → (Option Value → PH → Prop) → Prop} {jump : Nat → List Value → List Value → PH → Prop} {fin : Option Value → PH → Prop} {rk : Nat} {K : List Value → List Value → PH → Prop} {ls st : List Value} {h : PH}  (hx : p.tables.exec = Jvm.exec) (hb : c.code = cc) (hd : decode cc pc = .ok (raw, len)) (ho : okI own ini nL pcOf pc raw len pl (.lastore) = true) (hK : ∀ ls st h, K ls st h → GoW X p l e R s m args below meth c nL n0 u0 Q (pc + len) ls st h) (hKU : KU X KS s) (H : wpI call jump fin rk (.lastore) K ls st h) : GoW X p l e R s m args below meth c nL n0 u0 Q pc ls st h := by
  simp only [wpI] at H
  simp only [okI] at ho
  split at ho
  · cases eq_of_beq ho
    split at H
    · rename_i x i a st'
      intro H0 locs lsM P L B1 B2 B3
      obtain ⟨ht, hi, H⟩ := H
      have hat : isAT (hT h a) = true := by rw [ht]; rfl
      obtain ⟨-, g2, c1⟩ := P.arr hat
      have c1' := c1
      rw [ht] at c1'
      refine W.last hx hb c1' ((hKU.2.1 102 rfl).1 _ _) (fun z => by cases z) (by rw [arrV_size]; exact inb_vp hi) rfl rfl hd fun H' e1 e2 e3 => ?_
      refine hK _ _ _ H _ _ _ (P.ast (k := i.toNatClampNeg) (v := .long x) hat rfl rfl rfl (fun b hb => same_sJ hb) (fun j => ?_) ?_ e2 e3) L (mem_app B1 (ad_le g2)) B2 B3
      · rw [ht]
        rw [ev_sJ]
      · rw [ht, e1]
        rfl
    · exact H.elim
  · cases ho
end
