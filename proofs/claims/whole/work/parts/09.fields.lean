section

theorem rnv_int {X : CX} {x : Int32} : rnv X (.int x) = .int x := rfl
theorem rnv_rf {X : CX} {r : Option Nat} : rnv X (rfP r) = .null ∨ ∃ a, rnv X (rfP r) = .ref a := by
  cases r
  · exact Or.inl rfl
  · exact Or.inr ⟨_, rfl⟩
theorem mem_app {X : CX} {locs : List Loc} {q0 : Loc} (h : ∀ q ∈ locs, xs0 X ≤ q.base) (h0 : xs0 X ≤ q0.base) : ∀ q ∈ locs ++ [q0], xs0 X ≤ q.base := fun q hq => (List.mem_append.mp hq).elim (h q) (fun z => by rw [List.mem_singleton.mp z]; exact h0)
theorem ad_le {X : CX} {a : Nat} (ha : 100 ≤ a) : xs0 X ≤ ad X a := by rw [ad_ge ha]; omega
theorem sv_sI {h : PH} {t a k j : Nat} {x : Int32} : svP (sI h a k x) t a j = if j = k ∧ (pK t k ≠ 1 ∧ pK t k ≠ 2) then .int x else svP h t a j := by
  by_cases e : j = k
  · subst e
    unfold svP
    split <;> simp_all [sI, hI, hJ, hR, up2]
  · rw [if_neg (fun z => e z.1)]
    unfold svP
    split <;> simp [sI, hI, hJ, hR, up2, e]
theorem sv_sJ {h : PH} {t a k j : Nat} {x : Int64} : svP (sJ h a k x) t a j = if j = k ∧ pK t k = 1 then .long x else svP h t a j := by
  by_cases e : j = k
  · subst e
    unfold svP
    split <;> simp_all [sJ, hI, hJ, hR, up2]
  · rw [if_neg (fun z => e z.1)]
    unfold svP
    split <;> simp [sJ, hI, hJ, hR, up2, e]
theorem sv_sR {h : PH} {t a k j : Nat} {x : Option Nat} : svP (sR h a k x) t a j = if j = k ∧ pK t k = 2 then rfP x else svP h t a j := by
  by_cases e : j = k
  · subst e
    unfold svP
    split <;> simp_all [sR, hI, hJ, hR, up2]
  · rw [if_neg (fun z => e z.1)]
    unfold svP
    split <;> simp [sR, hI, hJ, hR, up2, e]
theorem same_sI {h : PH} {a k b : Nat} {x : Int32} (hb : b ≠ a) : SameC h (sI h a k x) b := ⟨rfl, rfl, fun j => by simp [sI, hI, up2, hb], fun _ => rfl, fun _ => rfl⟩
theorem same_sJ {h : PH} {a k b : Nat} {x : Int64} (hb : b ≠ a) : SameC h (sJ h a k x) b := ⟨rfl, rfl, fun _ => rfl, fun j => by simp [sJ, hJ, up2, hb], fun _ => rfl⟩
theorem same_sR {h : PH} {a k b : Nat} {x : Option Nat} (hb : b ≠ a) : SameC h (sR h a k x) b := ⟨rfl, rfl, fun _ => rfl, fun _ => rfl, fun j => by simp [sR, hR, up2, hb]⟩
theorem sd_getfield {X : CX} {KS : CX → State → Prop} {p : Program} {l : Launch} {e : Env} {R : Room} {s : State} {m : MethodId} {args : Array Value} {below : List Frame} {meth : Method} {c : Code} {nL n0 u0 : Nat} {Q : State → Prop} {cc : ByteArray} {own : String} {ini : Bool} {pcOf : Nat → Nat} {pc len pl : Nat} {raw : Instr} {call : Nat → List Value → PH → (Option Value → PH → Prop) → Prop} {jump : Nat → List Value → List Value → PH → Prop} {fin : Option Value → PH → Prop} {rk : Nat} {K : List Value → List Value → PH → Prop} {ls st : List Value} {h : PH} {n : Nat} (hx : p.tables.exec = Jvm.exec) (hb : c.code = cc) (hd : decode cc pc = .ok (raw, len)) (ho : okI own ini nL pcOf pc raw len pl (.getfield n) = true) (hK : ∀ ls st h, K ls st h → GoW X p l e R s m args below meth c nL n0 u0 Q (pc + len) ls st h) (hown : s.vm.findClass own = some m.cls) (hts : ∀ w ∈ lw_good, w.before args s = true) (hKU : KU X KS s) (H : wpI call jump fin rk (.getfield n) K ls st h) : GoW X p l e R s m args below meth c nL n0 u0 Q pc ls st h := by
  simp only [wpI] at H
  split at H
  · rename_i a st'
    simp only [okI, Bool.and_eq_true, decide_eq_true_eq] at ho
    obtain ⟨⟨⟨hT0, hk⟩, hkd⟩, ho⟩ := ho
    split at ho
    · rename_i i
      simp only [Bool.and_eq_true, beq_iff_eq] at ho
      obtain ⟨rfl, hw⟩ := ho
      obtain ⟨ht, H⟩ := H
      have H2 : K ls (svP h (hT h a) a (n % 64) :: st') h := by
        rw [ht]
        unfold svP
        rw [← hkd]
        revert H
        generalize n / 1024 = z
        match z with
        | 0 => exact id
        | 1 => exact id
        | 2 => exact id
        | z + 3 => exact id
      intro H0 locs lsM P L B1 B2 B3
      have kk := hK _ _ _ H2 _ _ _ P L B1 B2 B3
      rw [← ht] at hT0 hk hw
      obtain ⟨-, -, cell, q1, q2, q3, q4⟩ := P.obj hT0
      obtain ⟨hS, hfc, kC, hkC, hkind⟩ := hKU.1 _ hT0
      obtain ⟨cf, kf, fi, f, hi, hsl⟩ := hS _ hk
      refine W.getf hx hb hown (hts _ (wGd_mem hw)) hi (u_facts hfc hkC (u_lays hts (in_lay _ hT0) hk) hi).1 q1 (by rw [q3]; exact fun z => by cases z) (v := rnv X (svP h (hT h a) a (n % 64))) ?_ rfl rfl hd kk
      rw [hsl, q4 _ hk]
    · cases ho
  · exact H.elim

theorem put_core {X : CX} {KS : CX → State → Prop} {p : Program} {l : Launch} {e : Env} {R : Room} {s : State} {m : MethodId} {args : Array Value} {below : List Frame} {meth : Method} {c : Code} {nL n0 u0 : Nat} {Q : State → Prop} {cc : ByteArray} {own : String} {ini : Bool} {pc : Nat} {h h' : PH} {ls st' : List Value} {a k i : Nat} {v : Value} (hx : p.tables.exec = Jvm.exec) (hb : c.code = cc) (hown : s.vm.findClass own = some m.cls) (hts : ∀ w ∈ lw_good, w.before args s = true) (hKU : KU X KS s) (hini : ini = true → meth.name = "<init>")
    (hd : decode cc pc = .ok (.putfield i, 3)) (hT0 : isTg (hT h a) = true) (hk : k < pNf (hT h a)) (hw : Cond.fieldLink own i (pT (hT h a) k).1 (pT (hT h a) k).2.1 (pT (hT h a) k).2.2.1 ∈ lw_good) (hfin : (pT (hT h a) k).2.2.2 = false ∨ (ini = true ∧ (pT (hT h a) k).1 = own))
    (hn : narrow (pTy (hT h a) k) (rnv X v) = rnv X v) (hf : fits (pTy (hT h a) k) (rnv X v) = true)
    (hN' : hN h' = hN h) (hU' : hU h' = hU h) (hT' : hT h' a = hT h a) (hsame : ∀ b, b ≠ a → SameC h h' b) (hsv : ∀ j, j < pNf (hT h a) → svP h' (hT h a) a j = if j = k then v else svP h (hT h a) a j)
    (G2 : GoW X p l e R s m args below meth c nL n0 u0 Q (pc + 3) ls st' h') : GoW X p l e R s m args below meth c nL n0 u0 Q pc ls (v :: .ref a :: st') h := by
  intro H0 locs lsM P L B1 B2 B3
  obtain ⟨g1, g2, cell, q1, q2, q3, q4⟩ := P.obj hT0
  obtain ⟨hS, hfc, kC, hkC, hkind⟩ := hKU.1 _ hT0
  obtain ⟨cf, kf, fi, f, hi, hsl⟩ := hS _ hk
  have hap := va_apart (own := own) hts (in_lay _ hT0) _ (ty_ok _ hT0) (nm_ok _ hT0) hKU.K (clP_at hT0)
  have e1 : hT h a - 1 + 1 = hT h a := by
    simp only [isTg, Bool.and_eq_true, decide_eq_true_eq] at hT0
    omega
  dsimp only at hap
  rw [e1] at hap
  have hlay := hts _ (in_lay _ hT0 _ (u_in_lay hk))
  have hst := (u_facts hfc hkC (u_lays hts (in_lay _ hT0) hk) hi).1
  have key : ∀ H' : Heap, H'[ad X a]? = some (cell.setSlot f.slot (rnv X v)) → H'.size = H0.size → (∀ q, q ≠ ad X a → H'[q]? = H0[q]?) → W p l e R s m args below meth c H' (locs ++ [⟨ad X a, f.slot⟩]) (hN h - n0) (hU h - u0) Q { (F0 m pc lsM ((v :: .ref a :: st').map (rnv X))) with pc := pc + 3, stack := st'.map (rnv X) } := by
    intro H' e2 e3 e4
    rw [← hN', ← hU']
    refine G2 H' _ lsM ?_ L (mem_app B1 (ad_le g2)) (by rw [hN']; exact B2) (by rw [hU']; exact B3)
    refine P.upd (a := a) (by rw [hT']; exact (isTg_not hT0).2.2.2) g2 g1 hN' e3 e4 hsame ?_
    refine Or.inl ⟨by rw [hT']; exact hT0, g2, ?_⟩
    rw [hT']
    refine t_OB.to (V := updV (fun j => rnv X (svP h (hT h a) a j)) k (rnv X v)) ⟨_, e2, q2, q3, ?_⟩ (fun j hj => ?_)
    · rw [hsl]
      exact t_set q4 hap hk _
    · rw [hsv j hj]
      unfold updV
      by_cases hjk : j = k
      · rw [if_pos hjk, if_pos hjk]
      · rw [if_neg hjk, if_neg hjk]
  by_cases hfl : (pT (hT h a) k).2.2.2 = true
  · have hfin2 : ini = true ∧ (pT (hT h a) k).1 = own := by
      rcases hfin with z | z
      · rw [z] at hfl; cases hfl
      · exact z
    unfold u_lay at hlay
    rw [if_pos hfl] at hlay
    have hcf : m.cls = cf := by
      obtain ⟨_, _, c', _, _, _, -, -, hf', -, -, -, hown2, -⟩ := Cond.laysFinal_spec hlay
      have e1 : c' = cf := by have := hi.symm.trans hf'; simp at this; exact this.1.symm
      rw [hfin2.2] at hown2
      rw [← e1]; exact Option.some.inj (hown.symm.trans hown2)
    have h6 := u_fits hfc hkC hkind (Or.inr hlay) hi (ty_ok _ hT0 _ hk) hn hf
    exact W.putFinK hx hb hown (hts _ hw) hi hst hcf (hini hfin2.1) (by rw [q2]; exact h6) q1 q3 (by rw [hsl]; exact k2_hasslot (q4 k hk)) rfl rfl hd key
  · unfold u_lay at hlay
    rw [if_neg hfl] at hlay
    have h6 := u_store hfc hkC hkind hlay hi (ty_ok _ hT0 _ hk) hn hf
    exact W.putK hx hb (f := f) ⟨hown, hts _ hw, ⟨_, _, _, hi⟩, hst⟩ (by rw [q2]; exact h6) q1 q3 (by rw [hsl]; exact k2_hasslot (q4 k hk)) rfl rfl hd key
theorem sd_putfield {X : CX} {KS : CX → State → Prop} {p : Program} {l : Launch} {e : Env} {R : Room} {s : State} {m : MethodId} {args : Array Value} {below : List Frame} {meth : Method} {c : Code} {nL n0 u0 : Nat} {Q : State → Prop} {cc : ByteArray} {own : String} {ini : Bool} {pcOf : Nat → Nat} {pc len pl : Nat} {raw : Instr} {call : Nat → List Value → PH → (Option Value → PH → Prop) → Prop} {jump : Nat → List Value → List Value → PH → Prop} {fin : Option Value → PH → Prop} {rk : Nat} {K : List Value → List Value → PH → Prop} {ls st : List Value} {h : PH} {n : Nat} (hx : p.tables.exec = Jvm.exec) (hb : c.code = cc) (hd : decode cc pc = .ok (raw, len)) (ho : okI own ini nL pcOf pc raw len pl (.putfield n) = true) (hK : ∀ ls st h, K ls st h → GoW X p l e R s m args below meth c nL n0 u0 Q (pc + len) ls st h) (hown : s.vm.findClass own = some m.cls) (hts : ∀ w ∈ lw_good, w.before args s = true) (hKU : KU X KS s) (hini : ini = true → meth.name = "<init>") (H : wpI call jump fin rk (.putfield n) K ls st h) : GoW X p l e R s m args below meth c nL n0 u0 Q pc ls st h := by
  simp only [wpI] at H
  simp only [okI, Bool.and_eq_true, decide_eq_true_eq] at ho
  obtain ⟨⟨⟨⟨hT0, hk⟩, hkd⟩, hfin⟩, ho⟩ := ho
  have hfin : (pT (n / 64 % 16) (n % 64)).2.2.2 = false ∨ (ini = true ∧ (pT (n / 64 % 16) (n % 64)).1 = own) := by
    simpa using hfin
  have hkk := kd_ok _ hT0 _ hk
  split at ho
  · rename_i i
    simp only [Bool.and_eq_true, beq_iff_eq] at ho
    obtain ⟨rfl, hw⟩ := ho
    have hw := wGd_mem hw
    split at H
    · rename_i x a st'
      obtain ⟨ht, hv, H⟩ := H
      rw [← ht] at hT0 hk hw hfin hkk hkd
      rcases hkk with ⟨ty, kd⟩ | ⟨ty, kd⟩ | ⟨ty, kd⟩ | ⟨kd, ty⟩
      · exact put_core (h' := sI h a (n % 64) x) (v := .int x) hx hb hown hts hKU hini hd hT0 hk hw hfin (by rw [ty]; rfl) (by rw [ty]; rfl) rfl rfl rfl (fun b hb => same_sI hb) (fun j hj => by rw [sv_sI]; simp [kd]) (hK _ _ _ H)
      · have hx01 : x = 0 ∨ x = 1 := by
          rcases hv with z | z
          · omega
          · exact z.2
        refine put_core (h' := sI h a (n % 64) x) (v := .int x) hx hb hown hts hKU hini hd hT0 hk hw hfin ?_ ?_ rfl rfl rfl (fun b hb => same_sI hb) (fun j hj => by rw [sv_sI]; simp [kd]) (hK _ _ _ H)
        · rw [ty]; rcases hx01 with rfl | rfl <;> rfl
        · rw [ty]; rcases hx01 with rfl | rfl <;> rfl
      · omega
      · omega
    · rename_i x a st'
      obtain ⟨ht, hv, H⟩ := H
      rw [← ht] at hT0 hk hw hfin hkk hkd
      rcases hkk with ⟨ty, kd⟩ | ⟨ty, kd⟩ | ⟨ty, kd⟩ | ⟨kd, ty⟩
      · omega
      · omega
      · exact put_core (h' := sJ h a (n % 64) x) (v := .long x) hx hb hown hts hKU hini hd hT0 hk hw hfin (by rw [ty]; rfl) (by rw [ty]; rfl) rfl rfl rfl (fun b hb => same_sJ hb) (fun j hj => by rw [sv_sJ]; simp [kd]) (hK _ _ _ H)
      · omega
    · rename_i a st'
      obtain ⟨ht, hv, H⟩ := H
      rw [← ht] at hT0 hk hw hfin hkk hkd
      have kd : pK (hT h a) (n % 64) = 2 := by omega
      have ty : (pTy (hT h a) (n % 64)).isReference = true := by
        rcases hkk with ⟨-, z⟩ | ⟨-, z⟩ | ⟨-, z⟩ | ⟨-, z⟩
        · omega
        · omega
        · omega
        · exact z
      refine put_core (h' := sR h a (n % 64) none) (v := .null) hx hb hown hts hKU hini hd hT0 hk hw hfin ?_ ?_ rfl rfl rfl (fun b hb => same_sR hb) (fun j hj => by rw [sv_sR]; simp [kd, rfP]) (hK _ _ _ H)
      · revert ty; cases pTy (hT h a) (n % 64) <;> simp [FieldType.isReference, narrow, rnv]
      · revert ty; cases pTy (hT h a) (n % 64) <;> simp [FieldType.isReference, fits, rnv]
    · rename_i b a st'
      obtain ⟨ht, hv, H⟩ := H
      rw [← ht] at hT0 hk hw hfin hkk hkd
      have kd : pK (hT h a) (n % 64) = 2 := by omega
      have ty : (pTy (hT h a) (n % 64)).isReference = true := by
        rcases hkk with ⟨-, z⟩ | ⟨-, z⟩ | ⟨-, z⟩ | ⟨-, z⟩
        · omega
        · omega
        · omega
        · exact z
      refine put_core (h' := sR h a (n % 64) (some b)) (v := .ref b) hx hb hown hts hKU hini hd hT0 hk hw hfin ?_ ?_ rfl rfl rfl (fun b hb => same_sR hb) (fun j hj => by rw [sv_sR]; simp [kd, rfP]) (hK _ _ _ H)
      · revert ty; cases pTy (hT h a) (n % 64) <;> simp [FieldType.isReference, narrow, rnv]
      · revert ty; cases pTy (hT h a) (n % 64) <;> simp [FieldType.isReference, fits, rnv]
    · exact H.elim
  · cases ho
end
