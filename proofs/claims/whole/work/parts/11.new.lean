section

theorem lib_words : ([.static Lib.Math.max.name, .initialized "java/lang/Math", .code Lib.Math.max.name Lib.Math.max.code 2 (some .int), .static Lib.Math.min.name, .code Lib.Math.min.name Lib.Math.min.code 2 (some .int), .native arraycopyName, .static arraycopyName, .initialized "java/lang/System", .instanceMethod Lib.objectInit, .code Lib.objectInit ⟨#[0xb1]⟩ 1 none] : List Cond).all (fun w => lw_good.contains w) = true := by decide +kernel
theorem lib_word {w : Cond} (h : w ∈ ([.static Lib.Math.max.name, .initialized "java/lang/Math", .code Lib.Math.max.name Lib.Math.max.code 2 (some .int), .static Lib.Math.min.name, .code Lib.Math.min.name Lib.Math.min.code 2 (some .int), .native arraycopyName, .static arraycopyName, .initialized "java/lang/System", .instanceMethod Lib.objectInit, .code Lib.objectInit ⟨#[0xb1]⟩ 1 none] : List Cond)) : w ∈ lw_good := by
  have := List.all_eq_true.mp lib_words w h
  simpa using this
theorem inst_ok : ∀ t, isTg t = true → Cond.instantiable (pC t) (pNf t) ∈ lw_good ∧ Cond.initialized (pC t) ∈ lw_good := by
  have h : ∀ t, t < 14 → (t = 0 ∨ (lw_good.contains (.instantiable (pC t) (pNf t)) = true ∧ lw_good.contains (.initialized (pC t)) = true)) := by decide +kernel
  intro t ht
  simp only [isTg, Bool.and_eq_true, decide_eq_true_eq] at ht
  rcases h t (by omega) with z | ⟨z1, z2⟩
  · omega
  · exact ⟨by simpa using z1, by simpa using z2⟩
theorem okStack_sum {l : List Value} {X : CX} (h : okStack l = true) : ((l.map (rnv X)).map fun v => v.category).sum ≤ 8 := by
  have hc : ∀ v : Value, v.category ≤ 2 := fun v => by cases v <;> simp [Value.category]
  match l, h with
  | [], _ => simp
  | [a], _ => simp; have := hc (rnv X a); omega
  | [a, b], _ => simp; have := hc (rnv X a); have := hc (rnv X b); omega
  | [a, b, d], _ => simp; have := hc (rnv X a); have := hc (rnv X b); have := hc (rnv X d); omega
  | [a, b, d, f], _ => simp; have := hc (rnv X a); have := hc (rnv X b); have := hc (rnv X d); have := hc (rnv X f); omega
  | [a, b, d, f, g], h =>
    have hv : ∀ v : Value, okV v = true → (rnv X v).category ≤ 1 := fun v hv => by cases v <;> simp_all [okV, rnv, Value.category]
    simp only [okStack, Bool.and_eq_true] at h
    obtain ⟨h1, h2, h3, h4, h5⟩ := h
    have := hv a h1
    have := hv b h2
    have := hv d h3
    have := hv f h4
    have := hv g h5
    simp
    omega
  | _ :: _ :: _ :: _ :: _ :: _ :: _, h => simp [okStack] at h
theorem bk_ok : ∀ t, t = 3 ∨ t = 4 ∨ t = 5 ∨ t = 7 ∨ t = 10 → pC t ∈ bKinds ∧ isTg t = true := by
  rintro t (rfl | rfl | rfl | rfl | rfl) <;> decide
theorem sd_aastore {X : CX} {KS : CX → State → Prop} {p : Program} {l : Launch} {e : Env} {R : Room} {s : State} {m : MethodId} {args : Array Value} {below : List Frame} {meth : Method} {c : Code} {nL n0 u0 : Nat} {Q : State → Prop} {cc : ByteArray} {own : String} {ini : Bool} {pcOf : Nat → Nat} {pc len pl : Nat} {raw : Instr} {call : Nat → List Value → PH → (Option Value → PH → Prop) → Prop} {jump : Nat → List Value → List Value → PH → Prop} {fin : Option Value → PH → Prop} {rk : Nat} {K : List Value → List Value → PH → Prop} {ls st : List Value} {h : PH}  (hx : p.tables.exec = Jvm.exec) (hb : c.code = cc) (hd : decode cc pc = .ok (raw, len)) (ho : okI own ini nL pcOf pc raw len pl (.aastore) = true) (hK : ∀ ls st h, K ls st h → GoW X p l e R s m args below meth c nL n0 u0 Q (pc + len) ls st h) (hKU : KU X KS s) (H : wpI call jump fin rk (.aastore) K ls st h) : GoW X p l e R s m args below meth c nL n0 u0 Q pc ls st h := by
  simp only [wpI] at H
  simp only [okI] at ho
  split at ho
  · cases eq_of_beq ho
    split at H
    · rename_i i a st'
      intro H0 locs lsM P L B1 B2 B3
      obtain ⟨ht1, ht2, hi, H⟩ := H
      have hat : isAT (hT h a) = true := by
        obtain ⟨-, q2⟩ := P.2.2.2.1 a (by omega)
        rcases q2 with ⟨a1, -⟩ | ⟨a1, -⟩ | ⟨a1, -⟩
        · simp [isTg] at a1; omega
        · exact a1
        · omega
      have h3 : hT h a = 110 ∨ hT h a = 111 ∨ hT h a = 112 := by simp [isAT] at hat; omega
      obtain ⟨-, g2, c1⟩ := P.arr hat
      obtain ⟨C, hC⟩ : ∃ C, pA (hT h a) = .object C := by rcases h3 with z | z | z <;> rw [z] <;> exact ⟨_, rfl⟩
      have hAr := (hKU.2.1 _ hat).1
      rw [hC] at hAr
      refine va_WaastN (C := C) hx hb c1 (hAr _ _) (fun z => by cases z) (by rw [arrV_size]; exact inb_vp hi) rfl rfl hd fun H' e1 e2 e3 => ?_
      exact hK _ _ _ H _ _ _ (P.ast (k := i.toNatClampNeg) (v := rfP none) hat rfl rfl rfl (fun b hb => same_sR hb) (fun j => ev_sR h3) e1 e2 e3) L (mem_app B1 (ad_le g2)) B2 B3
    · rename_i b i a st'
      intro H0 locs lsM P L B1 B2 B3
      obtain ⟨hcase, hi, H⟩ := H
      have key : ∀ ta, hT h a = ta → (ta = 110 ∨ ta = 111 ∨ ta = 112) → isTg (hT h b) = true → (∀ comp c0, s.vm.findClass (aName ta) = some comp → s.vm.findClass (pC (hT h b)) = some c0 → s.vm.assignable c0 comp = true) → W p l e R s m args below meth c H0 locs (hN h - n0) (hU h - u0) Q (F0 m pc lsM ((.ref b :: .int i :: .ref a :: st').map (rnv X))) := by
        intro ta hta h3 htb hasg
        have hat : isAT (hT h a) = true := by rw [hta]; rcases h3 with rfl | rfl | rfl <;> rfl
        obtain ⟨-, g2, c1⟩ := P.arr hat
        obtain ⟨-, -, cellV, d1, d2, d3, -⟩ := P.obj htb
        have hcls := (hKU.1 _ htb).2
        have hra := (hKU.2.1 _ hat).2
        obtain ⟨kC, hkC, -⟩ := hcls.2
        obtain ⟨kA, comp, k1, k2, k3, -⟩ : ∃ (kA : Class) (comp : ClassId), s.vm.classes[xA X (hT h a)]? = some kA ∧ kA.kind = .array comp (.object (aName ta)) ∧ s.vm.findClass (aName ta) = some comp ∧ s.vm.findClass ("[" ++ (FieldType.object (aName ta)).toString) = some (xA X (hT h a)) := by
          rcases h3 with rfl | rfl | rfl <;> (rw [hta] at hra ⊢; exact hra)
        obtain ⟨kE, hkE, -⟩ := Vm.findClass_spec k3
        refine W.aast (v := ad X b) hx hb c1 (fun q z => by cases z) (fun z => by cases z) k1 k2 rfl hkE ⟨fun z => inb_vp hi (Or.inl z), by rw [arrV_size]; exact hi.2⟩ d1 (fun q z => by rw [d3] at z; cases z) (by rw [d2]; exact hkC) (by rw [d2]; exact hasg _ _ k3 hcls.1) rfl rfl hd fun H' e1 e2 e3 => ?_
        exact hK _ _ _ H _ _ _ (P.ast (k := i.toNatClampNeg) (v := rfP (some b)) hat rfl rfl rfl (fun b hb => same_sR hb) (fun j => ev_sR (by rw [hta]; exact h3)) e1 e2 e3) L (mem_app B1 (ad_le g2)) B2 B3
      have same : ∀ ta, isTg (hT h b) = true → pC (hT h b) = aName ta → ∀ comp c0, s.vm.findClass (aName ta) = some comp → s.vm.findClass (pC (hT h b)) = some c0 → s.vm.assignable c0 comp = true := by
        intro ta htb hn comp c0 h1 h2
        rw [hn] at h2
        cases h1.symm.trans h2
        have hcls := (hKU.1 _ htb).2
        have : s.vm.findClass (pC (hT h b)) = some (xD X (hT h b)) := hcls.1
        rw [hn] at this
        cases this.symm.trans h1
        exact va_assign hcls
      rcases hcase with ⟨z1, z2⟩ | ⟨z1, z2⟩ | ⟨z1, z2⟩
      · have hb' : isTg (hT h b) = true := by rw [z2]; rfl
        exact key 110 z1 (Or.inl rfl) hb' (same 110 hb' (by rw [z2]; rfl))
      · by_cases hb2 : hT h b = 2
        · have hb' : isTg (hT h b) = true := by rw [hb2]; rfl
          exact key 111 z1 (Or.inr (Or.inl rfl)) hb' (same 111 hb' (by rw [hb2]; rfl))
        have h6 : hT h b = 3 ∨ hT h b = 4 ∨ hT h b = 5 ∨ hT h b = 7 ∨ hT h b = 10 := by omega
        obtain ⟨k1, k2⟩ := bk_ok _ h6
        refine key 111 z1 (Or.inr (Or.inl rfl)) k2 (fun comp c0 h1 h2 => ?_)
        obtain ⟨c0', t1, f1, f2, f3⟩ := Cond.castable_spec (va_Nw.use (A := args) rfl (hKU.2.2.2.1 _ k1))
        cases h1.symm.trans f2
        cases h2.symm.trans f1
        exact f3
      · have hb' : isTg (hT h b) = true := by rw [z2]; rfl
        exact key 112 z1 (Or.inr (Or.inr rfl)) hb' (same 112 hb' (by rw [z2]; rfl))
    · exact H.elim
  · cases ho
theorem sd_getstatic {X : CX} {KS : CX → State → Prop} {p : Program} {l : Launch} {e : Env} {R : Room} {s : State} {m : MethodId} {args : Array Value} {below : List Frame} {meth : Method} {c : Code} {nL n0 u0 : Nat} {Q : State → Prop} {cc : ByteArray} {own : String} {ini : Bool} {pcOf : Nat → Nat} {pc len pl : Nat} {raw : Instr} {call : Nat → List Value → PH → (Option Value → PH → Prop) → Prop} {jump : Nat → List Value → List Value → PH → Prop} {fin : Option Value → PH → Prop} {rk : Nat} {K : List Value → List Value → PH → Prop} {ls st : List Value} {h : PH} {k : Nat} (hx : p.tables.exec = Jvm.exec) (hb : c.code = cc) (hd : decode cc pc = .ok (raw, len)) (ho : okI own ini nL pcOf pc raw len pl (.getstatic k) = true) (hK : ∀ ls st h, K ls st h → GoW X p l e R s m args below meth c nL n0 u0 Q (pc + len) ls st h) (hown : s.vm.findClass own = some m.cls) (hts : ∀ w ∈ lw_good, w.before args s = true) (hKU : KU X KS s) (H : wpI call jump fin rk (.getstatic k) K ls st h) : GoW X p l e R s m args below meth c nL n0 u0 Q pc ls st h := by
  simp only [wpI] at H
  obtain ⟨ht, H⟩ := H
  simp only [okI] at ho
  split at ho
  · rename_i i
    simp only [Bool.and_eq_true, beq_iff_eq, Bool.or_eq_true, decide_eq_true_eq] at ho
    obtain ⟨⟨⟨rfl, hw⟩, hk1⟩, hk5⟩ := ho
    intro H0 locs lsM P L B1 B2 B3
    have kk := hK _ _ _ H _ _ _ P L B1 B2 B3
    obtain ⟨cf, kf, fi, f, a, cell, h1, h2, h3, h4, h5, h6, h7, h8⟩ := hKU.2.2.2.2.2.1 k hk1 hk5
    have hk : ad X k = xo X k := by unfold ad; rw [if_pos (by omega)]
    have hcell : H0[a]? = some cell := by rw [P.2.2.1 a (Nat.lt_of_not_le h8)]; exact h5
    have kk' : W p l e R s m args below meth c H0 locs (hN h - n0) (hU h - u0) Q (F0 m (pc + 3) lsM (.ref (xo X k) :: st.map (rnv X))) := by
      have e1 : (Value.ref k :: st).map (rnv X) = .ref (xo X k) :: st.map (rnv X) := by
        show Value.ref (ad X k) :: _ = _
        rw [hk]
      rw [e1] at kk
      exact kk
    rcases hw with hw | hw
    · exact W.gets hx hb hown (hts _ (wGd_mem hw)) h1 h2 h3 h4 hcell (fun z => by rw [z] at h6; cases h6) h7 rfl hd kk'
    · exact va_WgetsN hx hb hown (va_Nw.use rfl (hKU.2.2.1 _ (wNs_mem hw))) h1 h2 h3 h4 hcell (fun z => by rw [z] at h6; cases h6) h7 rfl hd kk'
  · cases ho
theorem sd_new {X : CX} {KS : CX → State → Prop} {p : Program} {l : Launch} {e : Env} {R : Room} {s : State} {m : MethodId} {args : Array Value} {below : List Frame} {meth : Method} {c : Code} {nL n0 u0 : Nat} {Q : State → Prop} {cc : ByteArray} {own : String} {ini : Bool} {pcOf : Nat → Nat} {pc len pl : Nat} {raw : Instr} {call : Nat → List Value → PH → (Option Value → PH → Prop) → Prop} {jump : Nat → List Value → List Value → PH → Prop} {fin : Option Value → PH → Prop} {rk : Nat} {K : List Value → List Value → PH → Prop} {ls st : List Value} {h : PH} {n : Nat} (hx : p.tables.exec = Jvm.exec) (hb : c.code = cc) (hd : decode cc pc = .ok (raw, len)) (ho : okI own ini nL pcOf pc raw len pl (.new n) = true) (hK : ∀ ls st h, K ls st h → GoW X p l e R s m args below meth c nL n0 u0 Q (pc + len) ls st h) (hown : s.vm.findClass own = some m.cls) (hts : ∀ w ∈ lw_good, w.before args s = true) (hKU : KU X KS s) (hKf : ∀ ls st h, K ls st h → hN h - n0 ≤ R.cells ∧ hU h - u0 ≤ R.slots) (H : wpI call jump fin rk (.new n) K ls st h) : GoW X p l e R s m args below meth c nL n0 u0 Q pc ls st h := by
  simp only [wpI] at H
  obtain ⟨-, -, H⟩ := H
  simp only [okI, Bool.and_eq_true, decide_eq_true_eq] at ho
  obtain ⟨⟨hT0, hnf⟩, ho⟩ := ho
  split at ho
  · rename_i i
    simp only [Bool.and_eq_true, beq_iff_eq] at ho
    obtain ⟨rfl, hw⟩ := ho
    intro H0 locs lsM P L B1 B2 B3
    have hf := hKf _ _ _ H
    obtain ⟨f1, f2⟩ := hf
    have f1 : hN h + 1 - n0 ≤ R.cells := f1
    have f2 : hU h + n % 64 - u0 ≤ R.slots := f2
    have hKn := hKU.1 _ hT0
    refine W.newcK hx hb hown (hts _ (wGd_mem hw)) (hts _ (inst_ok _ hT0).1) (hts _ (inst_ok _ hT0).2) rfl hd (by omega) (by rw [← hnf]; omega) hKn.2.1 rfl fun H1 kC hkC e1 z1 o1 => ?_
    have hq : H0.size = ad X (hN h) := by rw [ad_ge P.1, P.2.1]
    have kk := hK _ _ _ H H1 locs lsM (P.new z1 o1 ?_) L B1 (by show n0 ≤ hN h + 1; omega) (by show u0 ≤ hU h + _; omega)
    · have e2 : hN (nC h (n / 64) (n % 64)) - n0 = hN h - n0 + 1 := by show hN h + 1 - n0 = _; omega
      have e3 : hU (nC h (n / 64) (n % 64)) - u0 = hU h - u0 + pNf (n / 64) := by show hU h + n % 64 - u0 = _; rw [← hnf]; omega
      rw [e2, e3] at kk
      have e4 : (Value.ref (hN h) :: st).map (rnv X) = .ref H0.size :: st.map (rnv X) := by
        show Value.ref (ad X (hN h)) :: _ = _
        rw [← hq]
      rw [e4] at kk
      exact kk
    · have ht : hT (nC h (n / 64) (n % 64)) (hN h) = n / 64 := by simp [nC, hT, hN]
      refine Or.inl ⟨by rw [ht]; exact hT0, P.1, ?_⟩
      rw [ht, ← hq]
      refine (u_born _ hts (in_lay _ hT0) hKn hkC e1 (ty_ok _ hT0)).to (fun k hk => ?_)
      rcases kd_ok _ hT0 k hk with ⟨ty, kd⟩ | ⟨ty, kd⟩ | ⟨ty, kd⟩ | ⟨kd, ty⟩
      · rw [ty]; simp [svP, kd, nC, hI, hN, defaultValue, rnv]
      · rw [ty]; simp [svP, kd, nC, hI, hN, defaultValue, rnv]
      · rw [ty]; simp [svP, kd, nC, hJ, hN, defaultValue, rnv]
      · have : svP (nC h (n / 64) (n % 64)) (n / 64) (hN h) k = .null := by simp [svP, kd, nC, hR, hN, rfP]
        rw [this]
        revert ty
        cases pTy (n / 64) k <;> simp [FieldType.isReference, defaultValue, rnv]
  · cases ho
theorem sd_newarray {X : CX} {KS : CX → State → Prop} {p : Program} {l : Launch} {e : Env} {R : Room} {s : State} {m : MethodId} {args : Array Value} {below : List Frame} {meth : Method} {c : Code} {nL n0 u0 : Nat} {Q : State → Prop} {cc : ByteArray} {own : String} {ini : Bool} {pcOf : Nat → Nat} {pc len pl : Nat} {raw : Instr} {call : Nat → List Value → PH → (Option Value → PH → Prop) → Prop} {jump : Nat → List Value → List Value → PH → Prop} {fin : Option Value → PH → Prop} {rk : Nat} {K : List Value → List Value → PH → Prop} {ls st : List Value} {h : PH} {t : ArrayType} (hx : p.tables.exec = Jvm.exec) (hb : c.code = cc) (hd : decode cc pc = .ok (raw, len)) (ho : okI own ini nL pcOf pc raw len pl (.newarray t) = true) (hK : ∀ ls st h, K ls st h → GoW X p l e R s m args below meth c nL n0 u0 Q (pc + len) ls st h) (hown : s.vm.findClass own = some m.cls) (hts : ∀ w ∈ lw_good, w.before args s = true) (hKU : KU X KS s) (hKf : ∀ ls st h, K ls st h → hN h - n0 ≤ R.cells ∧ hU h - u0 ≤ R.slots) (H : wpI call jump fin rk (.newarray t) K ls st h) : GoW X p l e R s m args below meth c nL n0 u0 Q pc ls st h := by
  simp only [wpI] at H
  simp only [okI] at ho
  split at ho
  · rename_i t'
    simp only [Bool.and_eq_true, beq_iff_eq, decide_eq_true_eq] at ho
    obtain ⟨⟨⟨rfl, rfl⟩, hw⟩, hty⟩ := ho
    split at H
    · rename_i n st'
      obtain ⟨hn0, hn1, htag, H⟩ := H
      intro H0 locs lsM P L B1 B2 B3
      obtain ⟨f1, f2⟩ := hKf _ _ _ H
      have f1 : hN h + 1 - n0 ≤ R.cells := f1
      have f2 : hU h + n.toNatClampNeg - u0 ≤ R.slots := f2
      have hat : isAT (tagOf t') = true := by revert htag; cases t' <;> simp [tagOf, isAT]
      have hcb : componentBytes (newarray.typeOf t') ≤ 8 := by cases t' <;> decide
      have hn2 : ¬ n < 0 := by rw [Int32.lt_iff_toInt_lt]; rw [Int32.le_iff_toInt_le] at hn0; omega
      refine va_newaK (h := H0.size) hx hb (hts _ (wGd_mem hw)) rfl hd rfl hn2 rfl (Nat.le_trans (Nat.mul_le_mul hn1 hcb) (by decide)) (by omega) (by omega) rfl fun H1 cA e1 z1 o1 hAr hNm => ?_
      have hq : H0.size = ad X (hN h) := by rw [ad_ge P.1, P.2.1]
      have hcA : cA = xA X (tagOf t') := by
        have hra := (hKU.2.1 _ hat).2
        rw [hty] at hNm
        have : s.vm.findClass ("[" ++ (pA (tagOf t')).toString) = some (xA X (tagOf t')) := by
          revert htag hra
          cases t' <;> simp only [tagOf, ne_eq, not_true_eq_false, false_implies] <;> exact fun _ z => z
        exact Option.some.inj (hNm.symm.trans this)
      have kk := hK _ _ _ H H1 locs lsM (P.new z1 o1 ?_) L B1 (by show n0 ≤ hN h + 1; omega) (by show u0 ≤ hU h + _; omega)
      · have e2 : hN (nC h (tagOf t') n.toNatClampNeg) - n0 = hN h - n0 + 1 := by show hN h + 1 - n0 = _; omega
        have e3 : hU (nC h (tagOf t') n.toNatClampNeg) - u0 = hU h - u0 + n.toNatClampNeg := by show hU h + _ - u0 = _; omega
        rw [e2, e3] at kk
        have e4 : (Value.ref (hN h) :: st').map (rnv X) = .ref H0.size :: st'.map (rnv X) := by
          show Value.ref (ad X (hN h)) :: _ = _
          rw [← hq]
        rw [e4] at kk
        exact kk
      · have ht : hT (nC h (tagOf t') n.toNatClampNeg) (hN h) = tagOf t' := by simp [nC, hT, hN]
        have hl : hL (nC h (tagOf t') n.toNatClampNeg) (hN h) = n.toNatClampNeg := by simp [nC, hL, hN]
        refine Or.inr (Or.inl ⟨by rw [ht]; exact hat, P.1, ?_⟩)
        rw [ht, hl, ← hq, e1, hcA]
        congr 2
        funext j
        revert htag
        cases t' <;> simp [tagOf, evP, nC, hI, hJ, hN, rnv, newarray.typeOf, defaultValue]
    · exact H.elim
  · cases ho
theorem sd_anewarray {X : CX} {KS : CX → State → Prop} {p : Program} {l : Launch} {e : Env} {R : Room} {s : State} {m : MethodId} {args : Array Value} {below : List Frame} {meth : Method} {c : Code} {nL n0 u0 : Nat} {Q : State → Prop} {cc : ByteArray} {own : String} {ini : Bool} {pcOf : Nat → Nat} {pc len pl : Nat} {raw : Instr} {call : Nat → List Value → PH → (Option Value → PH → Prop) → Prop} {jump : Nat → List Value → List Value → PH → Prop} {fin : Option Value → PH → Prop} {rk : Nat} {K : List Value → List Value → PH → Prop} {ls st : List Value} {h : PH} {t : Nat} (hx : p.tables.exec = Jvm.exec) (hb : c.code = cc) (hd : decode cc pc = .ok (raw, len)) (ho : okI own ini nL pcOf pc raw len pl (.anewarray t) = true) (hK : ∀ ls st h, K ls st h → GoW X p l e R s m args below meth c nL n0 u0 Q (pc + len) ls st h) (hown : s.vm.findClass own = some m.cls) (hts : ∀ w ∈ lw_good, w.before args s = true) (hKU : KU X KS s) (hKf : ∀ ls st h, K ls st h → hN h - n0 ≤ R.cells ∧ hU h - u0 ≤ R.slots) (H : wpI call jump fin rk (.anewarray t) K ls st h) : GoW X p l e R s m args below meth c nL n0 u0 Q pc ls st h := by
  simp only [wpI] at H
  simp only [okI] at ho
  split at ho
  · rename_i i
    simp only [Bool.and_eq_true, beq_iff_eq, decide_eq_true_eq] at ho
    obtain ⟨⟨⟨rfl, hw⟩, ht1⟩, ht2⟩ := ho
    split at H
    · rename_i n st'
      obtain ⟨hn0, hn1, -, -, H⟩ := H
      intro H0 locs lsM P L B1 B2 B3
      obtain ⟨f1, f2⟩ := hKf _ _ _ H
      have f1 : hN h + 1 - n0 ≤ R.cells := f1
      have f2 : hU h + n.toNatClampNeg - u0 ≤ R.slots := f2
      have h3 : t = 110 ∨ t = 111 ∨ t = 112 := by omega
      have hat : isAT t = true := by rcases h3 with rfl | rfl | rfl <;> rfl
      have hn2 : ¬ n < 0 := by rw [Int32.lt_iff_toInt_lt]; rw [Int32.le_iff_toInt_le] at hn0; omega
      have hw' : Cond.classLink own i (aName t) ∈ lw_good := by
        rcases h3 with rfl | rfl | rfl <;> exact wGd_mem hw
      have hra : ∃ (kA : Class) (comp : ClassId), s.vm.classes[xA X t]? = some kA ∧ kA.kind = .array comp (.object (aName t)) ∧ s.vm.findClass (aName t) = some comp ∧ s.vm.findClass ("[" ++ (FieldType.object (aName t)).toString) = some (xA X t) := by
        have := (hKU.2.1 _ hat).2
        rcases h3 with rfl | rfl | rfl <;> exact this
      obtain ⟨kA', comp', k1, k2, k3, k4⟩ := hra
      refine W.anew hx hb hown (hts _ hw') (va_AO.use (hKU.2.2.2.2.1 t h3)) rfl hd rfl hn2 (by omega) (by omega) (by omega) fun cA kA comp g1 g2 g3 g4 => ?_
      have hcA : cA = xA X t := Option.some.inj (g1.symm.trans k4)
      subst hcA
      have hq : H0.size = ad X (hN h) := by rw [ad_ge P.1, P.2.1]
      generalize hH1 : H0.push ({ cls := xA X t, slots := Array.replicate n.toNatClampNeg .null, vm := .none } : Cell) = H1
      have z1 : H1.size = H0.size + 1 := by rw [← hH1, Array.size_push]
      have e1 : H1[H0.size]? = some (arrV (xA X t) n.toNatClampNeg (fun _ => .null)) := by rw [← hH1, Array.getElem?_push_size, ← arrV_new]
      have o1 : ∀ q : Nat, q < H0.size → H1[q]? = H0[q]? := fun q hq => by rw [← hH1, Array.getElem?_push, if_neg (Nat.ne_of_lt hq)]
      have kk := hK _ _ _ H H1 locs lsM (P.new z1 o1 ?_) L B1 (by show n0 ≤ hN h + 1; omega) (by show u0 ≤ hU h + _; omega)
      · have e2 : hN (nC h t n.toNatClampNeg) - n0 = hN h - n0 + 1 := by show hN h + 1 - n0 = _; omega
        have e3 : hU (nC h t n.toNatClampNeg) - u0 = hU h - u0 + n.toNatClampNeg := by show hU h + _ - u0 = _; omega
        rw [e2, e3] at kk
        have e4 : (Value.ref (hN h) :: st').map (rnv X) = .ref H0.size :: st'.map (rnv X) := by
          show Value.ref (ad X (hN h)) :: _ = _
          rw [← hq]
        rw [e4] at kk
        exact kk
      · have ht : hT (nC h t n.toNatClampNeg) (hN h) = t := by simp [nC, hT, hN]
        have hl : hL (nC h t n.toNatClampNeg) (hN h) = n.toNatClampNeg := by simp [nC, hL, hN]
        refine Or.inr (Or.inl ⟨by rw [ht]; exact hat, P.1, ?_⟩)
        rw [ht, hl, ← hq, e1]
        congr 2
        funext j
        rcases h3 with rfl | rfl | rfl <;> simp [evP, nC, hR, hN, rnv, rfP]
    · exact H.elim
  · cases ho
end
