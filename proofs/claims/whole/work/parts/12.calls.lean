section

def wsOf (m : Nat) : List Cond := .code (pnm m) (pcd m) (pnl m) (pret m) :: lw_good
def rmOf (d mc ms : Nat) : Room := { frames := d + 6, cells := mc, slots := ms, locals := 100 * (d + 6) }
def PcOf (X : CX) (KS : CX → State → Prop) (a : List Value) (h : PH) : Array Value → State → Prop := fun v U => v = (a.map (rnv X)).toArray ∧ Pic X h U.heap ∧ KU X KS U
def QcOf (X : CX) (r : Option Value) (h' : PH) : Array Value → State → Outcome → State → Prop := fun _ _ o t => o = .returned (r.map (rnv X)) ∧ Pic X h' t.heap
theorem KU.same {X : CX} {KS : CX → State → Prop} (hKS : ∀ u U : State, u.vm = U.vm → KS X u → KS X U) {u U : State} (hv : u.vm = U.vm) (h : KU X KS u) : KU X KS U := by
  obtain ⟨h1, h2, h3, h4, h5, h6, h7, h8, h9⟩ := h
  have hA : u.vm.Alike U.vm := by rw [hv]; exact Vm.Alike.refl _
  refine ⟨fun t ht => u_Kn_moved hA (h1 t ht), fun t ht => ⟨arrOfT_moved hA (h2 t ht).1, (h2 t ht).2.moved hA⟩, fun w hw => ?_, fun C hC => (h4 C hC).same rfl hv, fun t ht => (h5 t ht).moved hA, fun k a b => (h6 k a b).moved hA, fun a ha ht => ?_, h8, hKS _ _ hv h9⟩
  · have hn := (List.mem_filter.mp hw).2
    have : w.onTables = true := by
      revert hn
      unfold isNest
      split <;> first | exact fun _ => rfl | exact fun z => (by cases z)
    exact (h3 w hw).same this hv
  · obtain ⟨cell, q1, q2, q3, q4⟩ := h7 a ha ht
    exact ⟨cell, q1, q2, State.isArrayOf_alike hA q3, q4⟩
theorem take_drop : ∀ (n : Nat) (st acc : List Value), n ≤ st.length → st = ((takeR n st acc).take n).reverse ++ dropN n st ∧ (takeR n st acc).drop n = acc ∧ (takeR n st acc).length = n + acc.length
  | 0, st, acc, _ => by simp [takeR, dropN]
  | n + 1, [], acc, h => by simp at h
  | n + 1, v :: l, acc, h => by
    obtain ⟨h1, h2, h3⟩ := take_drop n l (v :: acc) (by simpa using h)
    have h4 : takeR (n + 1) (v :: l) acc = takeR n l (v :: acc) := rfl
    have h5 : dropN (n + 1) (v :: l) = dropN n l := rfl
    rw [h4, h5]
    have h6 : (takeR n l (v :: acc)).take (n + 1) = (takeR n l (v :: acc)).take n ++ [v] := by
      have hz : takeR n l (v :: acc) = (takeR n l (v :: acc)).take n ++ v :: acc := by
        conv => lhs; rw [← List.take_append_drop n (takeR n l (v :: acc)), h2]
      have hlen : ((takeR n l (v :: acc)).take n).length = n := by simp [h3]
      generalize (takeR n l (v :: acc)).take n = A at hz hlen ⊢
      rw [hz, List.take_append, hlen, List.take_of_length_le (by omega)]
      simp
    refine ⟨?_, ?_, by rw [h3]; simp; omega⟩
    · rw [h6]
      simp
      exact h1
    · have := congrArg (List.drop 1) h2
      rw [List.drop_drop] at this
      simpa using this
theorem take_drop0 {n : Nat} {st : List Value} (h : n ≤ st.length) : st = (takeR n st []).reverse ++ dropN n st ∧ (takeR n st []).length = n := by
  obtain ⟨h1, h2, h3⟩ := take_drop n st [] h
  have h4 : (takeR n st []).take n = takeR n st [] := by
    apply List.take_of_length_le
    simp at h3
    omega
  rw [h4] at h1
  exact ⟨h1, by simpa using h3⟩
theorem drop_some : ∀ (n : Nat) (st : List Value) (v : Value) (l : List Value), dropN n st = v :: l → n ≤ st.length
  | 0, _, _, _, _ => Nat.zero_le _
  | n + 1, [], _, _, h => by simp [dropN] at h
  | n + 1, _ :: st, v, l, h => by
    have := drop_some n st v l h
    simpa using this
theorem take_drop1 {n : Nat} {st : List Value} {v : Value} {l : List Value} (h : dropN n st = v :: l) : st = (takeR n st []).reverse ++ v :: l ∧ (takeR n st []).length = n := by
  have := take_drop0 (drop_some n st v l h)
  rw [h] at this
  exact this
theorem map_stack {X : CX} {a st' : List Value} : (a.reverse ++ st').map (rnv X) = (a.map (rnv X)).reverse ++ st'.map (rnv X) := by simp
/-- what the call of a method asks, and what it gives -/
def CallOK (X : CX) (KS : CX → State → Prop) (l : Launch) (R : Room) (m' : Nat) (a : List Value) (g : PH) (J : Option Value → PH → Prop) : Prop :=
  ∃ d', d' + 7 ≤ R.frames ∧ 100 * (d' + 7) ≤ R.locals ∧ ∃ r1 g1, hN g ≤ hN g1 ∧ hU g ≤ hU g1 ∧ Met l (pnm m') (wsOf m') (rmOf d' (hN g1 - hN g) (hU g1 - hU g)) (PcOf X KS a g) (QcOf X r1 g1) (hN g1 - hN g) (hU g1 - hU g) (fun q => xs0 X ≤ q) ∧ J r1 g1
theorem after_call {X : CX} {p : Program} {l : Launch} {e : Env} {R : Room} {s : State} {m : MethodId} {args : Array Value} {below : List Frame} {meth : Method} {c : Code} {nL n0 u0 : Nat} {Q : State → Prop} {pc : Nat} {H0 : Heap} {locs : List Loc} {lsM : Array Slot} {st0 : List Value} {h g1 : PH} {r1 : Option Value} {ls st' : List Value} {Qa : State → Outcome → State → Prop}
    (hr : va_Run p l e R s m args below meth c H0 locs (hN h - n0) (hU h - u0) (hN g1 - hN h) (hU g1 - hU h) (F0 m pc lsM st0) (st'.map (rnv X)) Qa (fun q => xs0 X ≤ q)) (hQ : ∀ st oc t, Qa st oc t → oc = .returned (r1.map (rnv X)) ∧ Pic X g1 t.heap)
    (B1 : ∀ q ∈ locs, xs0 X ≤ q.base) (B2 : n0 ≤ hN h) (B3 : u0 ≤ hU h) (hn : hN h ≤ hN g1) (hu : hU h ≤ hU g1) (L : LOK X nL lsM ls) (G2 : GoW X p l e R s m args below meth c nL n0 u0 Q (pc + 3) ls (r1.toList ++ st') g1) : W p l e R s m args below meth c H0 locs (hN h - n0) (hU h - u0) Q (F0 m pc lsM st0) := by
  intro T hT X0
  obtain ⟨v, st₀, t, T', L', h0, X', hL, e1, e2, hq, st⟩ := hr T hT X0
  obtain ⟨hv, hP⟩ := hQ _ _ _ hq
  have hv : v = r1.map (rnv X) := by cases hv; rfl
  rw [show hN h - n0 + (hN g1 - hN h) = hN g1 - n0 by omega, show hU h - u0 + (hU g1 - hU h) = hU g1 - u0 by omega] at X'
  obtain ⟨t', a1, b1⟩ := G2 T'.heap (locs ++ L') lsM (by rw [e1]; exact hP) L (fun q hq => (List.mem_append.mp hq).elim (B1 q) (hL q)) (by omega) (by omega) T' rfl X'
  refine ⟨t', st t' ?_, b1⟩
  have e3 : (r1.toList ++ st').map (rnv X) = v.toList ++ st'.map (rnv X) := by
    rw [hv]
    cases r1 <;> simp
  rw [e3] at a1
  exact a1
theorem blind {X : CX} {KS : CX → State → Prop} (hKS : ∀ u U : State, u.vm = U.vm → KS X u → KS X U) {a : List Value} {g : PH} : FrameBlind (PcOf X KS a g) := fun a' U g' mk h => ⟨h.1, h.2.1, KU.same hKS (u := U) (U := U.calling g' mk a') rfl h.2.2⟩
theorem ws_pay {s : State} {args : Array Value} (hts : ∀ w ∈ lw_good, w.before args s = true) {m' : Nat} (hc : Cond.code (pnm m') (pcd m') (pnl m') (pret m') ∈ lw_good) : ∀ w ∈ wsOf m', ∀ (a' : Array Value) (U : State), s.WarmedH U.vm → w.before a' U = true := by
  intro w hw a' U hW
  have hm : w ∈ lw_good := by
    rcases List.mem_cons.mp hw with rfl | hw
    · exact hc
    · exact hw
  exact word_at hW (lw_good_ok w hm) (hts w hm)
theorem okM_spec {m' : Nat} (h : okM m' = true) : Cond.code (pnm m') (pcd m') (pnl m') (pret m') ∈ lw_good ∧ Cond.initialized (pnm m').cls ∈ lw_good ∧ ((pnm m').cls ≠ "java/lang/invoke/MethodHandle" ∧ (pnm m').cls ≠ "java/lang/invoke/VarHandle") ∧ plainName (pnm m').cls = true ∧ nPar (pnm m').desc = some (m' % 8) ∧ pnl m' ≤ 60 ∧ (if pst m' = true then Cond.static (pnm m') ∈ lw_good else Cond.instanceMethod (pnm m') ∈ lw_good) := by
  simp only [okM, noMH, Bool.and_eq_true, decide_eq_true_eq] at h
  obtain ⟨⟨⟨⟨⟨⟨⟨h1, h2⟩, h3⟩, h4⟩, h5⟩, h6⟩, -⟩, h7⟩ := h
  refine ⟨wGd_mem h1, wGd_mem h2, h3, h4, h5, h6, ?_⟩
  split at h7
  · rename_i z; rw [if_pos z]; exact wGd_mem h7
  · rename_i z; rw [if_neg z]; exact wGd_mem h7
theorem par_spec {d : String} {n : Nat} (h : nPar d = some n) : ∀ sig, parseMethodDescriptor d = some sig → n = sig.parameters.length := by
  intro sig hs
  unfold nPar at h
  rw [hs] at h
  exact (Option.some.inj h).symm
set_option maxRecDepth 100000 in
theorem room_le {z d r : Nat} (hz : z ≤ 60) (h : 100 * (d + 7) ≤ r) : 8 + (z + 11) + 100 * (d + 6) ≤ r := by omega
theorem callB_mk {R : Room} {s : State} {args : Array Value} {own : String} {i m' d' mc ms : Nat} (hts : ∀ w ∈ lw_good, w.before args s = true) (hm : okM m' = true) (hl : (Cond.methodLink own i (pnm m')).before args s = true) (hf : d' + 7 ≤ R.frames) (hlo : 100 * (d' + 7) ≤ R.locals) :
    CallB R s args own i (pnm m') (pcd m') (pnl m') (pret m') (wsOf m') (rmOf d' mc ms) mc ms (m' % 8) := by
  obtain ⟨h1, h2, h3, -, h5, h6, -⟩ := okM_spec hm
  have k1 := ws_pay (m' := m') hts h1
  have k2 : Cond.code (pnm m') (pcd m') (pnl m') (pret m') ∈ wsOf m' := List.mem_cons_self
  have k3 := hts _ h1
  have k4 := hts _ h2
  have k5 := par_spec h5
  have k6 : 8 + (pnl m' + 11) + 100 * (d' + 6) ≤ R.locals := room_le h6 hlo
  exact ⟨rfl, rfl, hf, k6, k1, k2, k3, k4, h3, k5, hl⟩
theorem callN_mk {R : Room} {s : State} {args : Array Value} {own host : String} {i m' d' mc ms : Nat} (hts : ∀ w ∈ lw_good, w.before args s = true) (hm : okM m' = true) (hl : (Cond.methodLinkNest own i (pnm m') host).before args s = true) (hf : d' + 7 ≤ R.frames) (hlo : 100 * (d' + 7) ≤ R.locals) :
    va_CN R s args own i (pnm m') host (pcd m') (pnl m') (pret m') (wsOf m') (rmOf d' mc ms) mc ms (m' % 8) := by
  obtain ⟨h1, h2, h3, -, h5, h6, -⟩ := okM_spec hm
  have k1 := ws_pay (m' := m') hts h1
  have k2 : Cond.code (pnm m') (pcd m') (pnl m') (pret m') ∈ wsOf m' := List.mem_cons_self
  have k3 := hts _ h1
  have k4 := hts _ h2
  have k5 := par_spec h5
  have k6 : 8 + (pnl m' + 11) + 100 * (d' + 6) ≤ R.locals := room_le h6 hlo
  exact ⟨⟨rfl, rfl, hf, k6, k1, k2⟩, k3, k4, h3, k5, hl⟩
theorem sd_invokestatic {X : CX} {KS : CX → State → Prop} {p : Program} {l : Launch} {e : Env} {R : Room} {s : State} {m : MethodId} {args : Array Value} {below : List Frame} {meth : Method} {c : Code} {nL n0 u0 : Nat} {Q : State → Prop} {cc : ByteArray} {own : String} {ini : Bool} {pcOf : Nat → Nat} {pc len pl : Nat} {raw : Instr} {call : Nat → List Value → PH → (Option Value → PH → Prop) → Prop} {jump : Nat → List Value → List Value → PH → Prop} {fin : Option Value → PH → Prop} {rk : Nat} {K : List Value → List Value → PH → Prop} {ls st : List Value} {h : PH} {m' : Nat} (hx : p.tables.exec = Jvm.exec) (hb : c.code = cc) (hd : decode cc pc = .ok (raw, len)) (ho : okI own ini nL pcOf pc raw len pl (.invokestatic m') = true) (hK : ∀ ls st h, K ls st h → GoW X p l e R s m args below meth c nL n0 u0 Q (pc + len) ls st h) (hown : s.vm.findClass own = some m.cls) (hts : ∀ w ∈ lw_good, w.before args s = true) (hKU : KU X KS s) (hKf : ∀ ls st h, K ls st h → hN h - n0 ≤ R.cells ∧ hU h - u0 ≤ R.slots) (hml : c.maxLocals = nL) (hC : ∀ m' a g J, okM m' = true → call m' a g J → CallOK X KS l R m' a g J) (hKS : ∀ u U : State, u.vm = U.vm → KS X u → KS X U) (hKW : ∀ u U : State, u.WarmedH U.vm → KS X u → KS X U) (H : wpI call jump fin rk (.invokestatic m') K ls st h) : GoW X p l e R s m args below meth c nL n0 u0 Q pc ls st h := by
  simp only [wpI] at H
  obtain ⟨hlen, hos, H⟩ := H
  simp only [okI, Bool.and_eq_true] at ho
  obtain ⟨⟨hm, hst⟩, ho⟩ := ho
  split at ho
  · rename_i i
    simp only [Bool.and_eq_true, beq_iff_eq, Bool.or_eq_true] at ho
    obtain ⟨rfl, hw⟩ := ho
    obtain ⟨d', f1, f2, r1, g1, n1, n2, hM, HJ⟩ := hC _ _ _ _ hm H
    have fit := hKf _ _ _ HJ
    obtain ⟨e1, e2⟩ := take_drop0 hlen
    have hstat : (Cond.static (pnm m')).before args s = true := by
      have := (okM_spec hm).2.2.2.2.2.2
      rw [if_pos hst] at this
      exact hts _ this
    intro H0 locs lsM P L B1 B2 B3
    have hstack : (st.map (rnv X)) = ((takeR (m' % 8) st []).map (rnv X)).reverse ++ (dropN (m' % 8) st).map (rnv X) := by
      conv => lhs; rw [e1]
      exact map_stack
    have hp : PreS s H0 (PcOf X KS (takeR (m' % 8) st []) h) ((takeR (m' % 8) st []).map (rnv X)) := ⟨blind hKS, fun U hU hW => ⟨rfl, by rw [hU]; exact P, hKU.warm hKW hW⟩⟩
    have hcells : hN h - n0 + (hN g1 - hN h) ≤ R.cells ∧ hU h - u0 + (hU g1 - hU h) ≤ R.slots := by omega
    rcases hw with hw | hw
    · exact after_call (va_runS (n := m' % 8) ⟨hx, hb, hml, hown, hts⟩ hM ⟨callB_mk hts hm (hts _ (wGd_mem hw)) f1 f2, hstat⟩ hp rfl (by simpa using e2) L.1 hstack (by show 2 * 0 + _ ≤ 8; have := okStack_sum (X := X) hos; omega) hd hcells) (fun _ _ _ q => q) B1 B2 B3 n1 n2 L (hK _ _ _ HJ)
    · exact after_call (va_runSN (n := m' % 8) ⟨hx, hb, hml, hown, hts⟩ hM ⟨callN_mk hts hm (va_Nw.use rfl (hKU.2.2.1 _ (wNs_mem hw))) f1 f2, hstat, trivial⟩ hp rfl (by simpa using e2) L.1 hstack (by show 2 * 0 + _ ≤ 8; have := okStack_sum (X := X) hos; omega) hd hcells) (fun _ _ _ q => q) B1 B2 B3 n1 n2 L (hK _ _ _ HJ)
  · cases ho

section SUP
variable {p : Program} {l : Launch} {e : Env} {R : Room} {s : State} {m : MethodId} {args : Array Value} {below : List Frame} {meth : Method} {c : Code}
theorem callSU2 {T : State} {locs : List Loc} {cells slots : Nat} (X : Stand p l e R s m args below meth c T locs cells slots) (hexec : p.tables.exec = Jvm.exec) {own : String} {index : Nat} {x y : MethodName} {bytes : ByteArray} {maxL : Nat} {ret : Option FieldType}
    (hown : s.vm.findClass own = some m.cls) (hlink : (Cond.methodLink own index x).before args s = true) (hxn : x.name = y.name) (hxd : x.desc = y.desc) (hsame : (Cond.sameMethod x.cls y.cls y.name y.desc).before args s = true) (hsup : (Cond.superclass own x.cls).before args s = true) (hup : x.cls = y.cls ∨ (Cond.superclass x.cls y.cls).before args s = true)
    (hinst : (Cond.instanceMethod y).before args s = true) (hcode : (Cond.code y bytes maxL ret).before args s = true) (hno : y.name ≠ "<init>")
    {W : Nat} {Pre : Pt → Array Value → Prop} {Post : Pt → Array Value → Option Value → Pt → Prop} (hK : Back l R p e below s args y 3 W Pre Post)
    {b : Addr} {cellB : Cell} {kB : Class} (hcell : T.heap[b]? = some cellB) (hobj : cellB.vm.isStatics = false) (hkB : s.vm.classes[cellB.cls]? = some kB)
    {g : JFrame} (hg : g.method = m) (hsize : g.locals.size = c.maxLocals) {argsL rest : List Value} (hlen : ∀ sig, parseMethodDescriptor y.desc = some sig → argsL.length = sig.parameters.length)
    (hstack : g.stack = argsL.reverse ++ .ref b :: rest) (hW : 2 * g.monitorRoom + (rest.map fun v => v.category).sum ≤ W) (hdg : decode c.code g.pc = .ok (.invokespecial index, 3))
    (hpre : ∀ vm₁, s.WarmedH vm₁ → Pre ⟨T.setVm vm₁, locs, cells, slots⟩ (Value.ref b :: argsL).toArray) :
    ∃ (v : Option Value) (vm₁ : Vm) (B : Pt), s.WarmedH vm₁ ∧ Stand p l e R s m args below meth c B.U B.locs B.cells B.slots ∧ Post ⟨T.setVm vm₁, locs, cells, slots⟩ (Value.ref b :: argsL).toArray v B ∧
      ∀ target, Steps p.tables e below (B.U.setTop { g with pc := g.pc + 3, stack := v.toList ++ rest }) target → Steps p.tables e below (T.setTop g) target := by
  obtain ⟨mk, methM, hnamed, hmethM, hstM, habM⟩ := Cond.instanceMethod_spec hinst
  obtain ⟨methM', cM, hmethM', -, -, -, -, -, -, hsigM⟩ := Cond.code_spec hnamed hcode
  cases hmethM.symm.trans hmethM'
  obtain ⟨ps, dk, kp, hps, hdk, hkp, hsuper, -, -, hnid⟩ := Cond.superclass_spec hown hsup
  have hn : s.methodNamed? ⟨y.cls, x.name, x.desc⟩ = some mk := by rw [hxn, hxd]; exact hnamed
  have hsub : s.vm.isSubclass ps mk.cls = true := by
    have hfy := findClass_of_methodNamed hnamed
    rcases hup with hup | hup
    · have hpm : ps = mk.cls := Option.some.inj (hps.symm.trans (by rw [hup]; exact hfy))
      rw [hpm]; simp [Vm.isSubclass, Vm.isSubclassAux]
    · obtain ⟨p2, k2, kp2, hp2, hk2, hkp2, hs2, -⟩ := Cond.superclass_spec hps hup
      have hpm : p2 = mk.cls := Option.some.inj (hp2.symm.trans hfy)
      subst hpm
      have hpos : 0 < s.vm.classes.size := Nat.lt_of_le_of_lt (Nat.zero_le _) (Array.getElem?_eq_some_iff.mp hk2).1
      obtain ⟨z, hz⟩ : ∃ z, s.vm.classes.size = z + 1 := ⟨s.vm.classes.size - 1, by omega⟩
      unfold Vm.isSubclass
      rw [hz]
      unfold Vm.isSubclassAux
      rw [hk2]
      simp only [hs2]
      unfold Vm.isSubclassAux
      simp
  obtain ⟨vm₁, X₁, hstep₁⟩ := X.invokespecialUp hexec hown hlink (by rw [hxn, hxd]; exact hsame) hn hmethM hstM habM (by rw [hxn]; exact hno) hdk hnid hps hsuper hsub (a := b) (cell := cellB) hcell
    (fun z h => by rw [h] at hobj; cases hobj) hkB (g := g) hg (argsL := argsL) (rest := rest) (hlen _ hsigM) hstack hdg
  obtain ⟨v, B, X', hpost, hsteps⟩ := hK m meth c ⟨T.setVm vm₁, locs, cells, slots⟩ { g with stack := rest } (.invokespecial index) mk (Value.ref b :: argsL).toArray X₁ hg hsize hdg hW (X₁.named hnamed) (hpre vm₁ X₁.warmed)
  exact ⟨v, vm₁, B, X₁.warmed, X', hpost, fun target h => hstep₁ _ (by rw [doInvoke_state]; exact hsteps.trans h)⟩
theorem runSU2 {H : Heap} {locs : List Loc} {cells slots : Nat} {x y : MethodName} {bytes cc : ByteArray} {maxL nL mc ms n index : Nat} {ret : Option FieldType} {ws : List Cond} {rm : Room} {Pc : Array Value → State → Prop} {Qc : Array Value → State → Outcome → State → Prop} {free : Addr → Prop} {Ts : List Cond} {own C : String} {cC : ClassId} {b : Addr} {As rest : List Value} {g : JFrame}
    (hat : ClassAt s C cC) (S : CallFix p m c cc nL s args Ts own) (hM : Met l y ws rm Pc Qc mc ms free) (cw : rm.cells = mc ∧ rm.slots = ms ∧ rm.frames + 1 ≤ R.frames ∧ 8 + (maxL + 11) + rm.locals ≤ R.locals ∧ (∀ w ∈ ws, ∀ (a' : Array Value) (U : State), s.WarmedH U.vm → w.before a' U = true) ∧ Cond.code y bytes maxL ret ∈ ws) (hcode : (Cond.code y bytes maxL ret).before args s = true) (hini : (Cond.initialized y.cls).before args s = true) (hlen : ∀ sig, parseMethodDescriptor y.desc = some sig → n = sig.parameters.length) (hl1 : (Cond.methodLink own index x).before args s = true) (hxn : x.name = y.name) (hxd : x.desc = y.desc) (hl2 : (Cond.sameMethod x.cls y.cls y.name y.desc).before args s = true) (hl3 : (Cond.superclass own x.cls).before args s = true) (hup : x.cls = y.cls ∨ (Cond.superclass x.cls y.cls).before args s = true) (hl4 : (Cond.instanceMethod y).before args s = true) (hno : y.name ≠ "<init>") (hp : PreV s H C b Pc As)
    (hg : g.method = m) (hn : As.length = n) (hsize : g.locals.size = nL) (hstack : g.stack = As.reverse ++ .ref b :: rest) (hW : 2 * g.monitorRoom + (rest.map fun v => v.category).sum ≤ 8) (hdg : decode cc g.pc = .ok (.invokespecial index, 3)) (hf : cells + mc ≤ R.cells ∧ slots + ms ≤ R.slots) :
    va_Run p l e R s m args below meth c H locs cells slots mc ms g rest (Qc (Value.ref b :: As).toArray) (free) := by
  obtain ⟨hrc, hrs, hfr, hlo, hws, hcw⟩ := cw
  have hK : Back l R p e below s args y 3 8 (PreOf R mc ms Pc) (PostOf Qc mc ms free) := back_of (bytes := bytes) (maxL := maxL) (ret := ret) hM hp.1 hrc hrs hfr hlo hws hcw (fun a' U hW => word_at hW (Or.inl (by first | rfl | simp [Cond.onTables, Cond.keeps, Cond.steady])) hini)
  obtain ⟨hx, hb, hml, ho, -⟩ := S
  obtain ⟨-, ⟨cellB, hcB, hoB, hclB⟩, hPc⟩ := hp
  obtain ⟨hfc, kB, hkB, -⟩ := hat
  cases hfc.symm.trans hclB
  intro T hT X
  obtain ⟨v, vm₁, ⟨U', l2, c2, s2⟩, hW₁, X', ⟨g', mk, t, L, e1, e2, hq, h1, hL, h2, h3⟩, st⟩ := callSU2 X hx (bytes := bytes) (maxL := maxL) (ret := ret) ho hl1 hxn hxd hl2 hl3 hup hl4 hcode hno hK (by rw [hT]; exact hcB) hoB hkB hg (hsize.trans hml.symm) (argsL := As) (rest := rest) (fun sig h => hn.trans (hlen sig h)) hstack hW (by rw [hb]; exact hdg)
    (fun vm₁ hW₁ => ⟨hf.1, hf.2, hPc (T.setVm vm₁) hT hW₁⟩)
  dsimp only [Pt.U, Pt.locs, Pt.cells, Pt.slots] at X' e1 e2 h1 h2 h3 st
  subst h1; subst h2; subst h3
  exact ⟨v, (T.setVm vm₁).calling g' mk (Value.ref b :: As).toArray, t, U', L, hT, X', hL, e1, e2, hq, st⟩
end SUP
theorem recv_at {X : CX} {KS : CX → State → Prop} {s : State} {h : PH} {H0 : Heap} {a : Nat} (hKU : KU X KS s) (P : Pic X h H0) (ht : isTg (hT h a) = true) : ∃ cellB : Cell, H0[ad X a]? = some cellB ∧ cellB.vm.isStatics = false ∧ s.vm.findClass (pC (hT h a)) = some cellB.cls := by
  obtain ⟨-, -, cell, q1, q2, q3, -⟩ := P.obj ht
  exact ⟨cell, q1, by rw [q3]; rfl, by rw [q2]; exact (hKU.1 _ ht).2.1⟩

theorem supOk_spec {own : String} {i pl : Nat} {y : MethodName} (h : supOk own i pl y = true) : ∃ x : MethodName, Cond.methodLink own i x ∈ lw_good ∧ x.name = y.name ∧ x.desc = y.desc ∧ Cond.sameMethod x.cls y.cls y.name y.desc ∈ lw_good ∧ Cond.superclass own x.cls ∈ lw_good ∧ (x.cls = y.cls ∨ Cond.superclass x.cls y.cls ∈ lw_good) := by
  unfold supOk at h
  split at h
  · rename_i o j x hx
    simp only [Bool.and_eq_true, beq_iff_eq, Bool.or_eq_true, List.contains_iff_mem] at h
    obtain ⟨⟨⟨⟨⟨⟨⟨rfl, rfl⟩, h3⟩, h4⟩, h5⟩, h6⟩, h7⟩, h8⟩ := h
    exact ⟨x, List.mem_filter.mpr ⟨tbK_mem (List.mem_of_getElem? hx), h5⟩, h3, h4, h6, h7, h8⟩
  · cases h
theorem okX_spec {x t : Nat} (h : okX x t = true) : isTg t = true ∧ Cond.sameMethod (pxn x).cls (pnm (pxo x).1).cls (pxn x).name (pxn x).desc ∈ lw_good ∧ Cond.selects (pC t) (pxn x) (pnm (pbsel x t)) ∈ lw_good ∧ okM (pbsel x t) = true ∧ pst (pbsel x t) = false ∧ pnm (pxo x).1 = ⟨(pnm (pxo x).1).cls, (pxn x).name, (pxn x).desc⟩ ∧ okM (pxo x).1 = true ∧ pst (pxo x).1 = false ∧ nPar (pxn x).desc = some (x % 8) := by
  simp only [okX, Bool.and_eq_true, decide_eq_true_eq, Bool.not_eq_true'] at h
  obtain ⟨⟨⟨⟨⟨⟨⟨⟨⟨h1, h2⟩, h3⟩, h4⟩, h5⟩, h6⟩, h7⟩, h8⟩, h9⟩, -⟩ := h
  exact ⟨h1, wGd_mem h2, wGd_mem h3, h4, h5, h6, h7, h8, h9⟩
theorem sd_invokespecial {X : CX} {KS : CX → State → Prop} {p : Program} {l : Launch} {e : Env} {R : Room} {s : State} {m : MethodId} {args : Array Value} {below : List Frame} {meth : Method} {c : Code} {nL n0 u0 : Nat} {Q : State → Prop} {cc : ByteArray} {own : String} {ini : Bool} {pcOf : Nat → Nat} {pc len pl : Nat} {raw : Instr} {call : Nat → List Value → PH → (Option Value → PH → Prop) → Prop} {jump : Nat → List Value → List Value → PH → Prop} {fin : Option Value → PH → Prop} {rk : Nat} {K : List Value → List Value → PH → Prop} {ls st : List Value} {h : PH} {m' : Nat} (hx : p.tables.exec = Jvm.exec) (hb : c.code = cc) (hd : decode cc pc = .ok (raw, len)) (ho : okI own ini nL pcOf pc raw len pl (.invokespecial m') = true) (hK : ∀ ls st h, K ls st h → GoW X p l e R s m args below meth c nL n0 u0 Q (pc + len) ls st h) (hown : s.vm.findClass own = some m.cls) (hts : ∀ w ∈ lw_good, w.before args s = true) (hKU : KU X KS s) (hKf : ∀ ls st h, K ls st h → hN h - n0 ≤ R.cells ∧ hU h - u0 ≤ R.slots) (hml : c.maxLocals = nL) (hC : ∀ m' a g J, okM m' = true → call m' a g J → CallOK X KS l R m' a g J) (hKS : ∀ u U : State, u.vm = U.vm → KS X u → KS X U) (hKW : ∀ u U : State, u.WarmedH U.vm → KS X u → KS X U) (H : wpI call jump fin rk (.invokespecial m') K ls st h) : GoW X p l e R s m args below meth c nL n0 u0 Q pc ls st h := by
  simp only [wpI] at H
  simp only [okI, Bool.and_eq_true] at ho
  obtain ⟨⟨hm, hst⟩, ho⟩ := ho
  split at ho
  · rename_i i
    simp only [Bool.and_eq_true, beq_iff_eq, Bool.or_eq_true, decide_eq_true_eq] at ho
    obtain ⟨rfl, hw⟩ := ho
    split at H
    · rename_i a st' hdrop
      obtain ⟨htg, hos, H⟩ := H
      have htg : isTg (hT h a) = true := by simp [isTg, htg]
      obtain ⟨d', f1, f2, r1, g1, n1, n2, hM, HJ⟩ := hC _ _ _ _ hm H
      have fit := hKf _ _ _ HJ
      obtain ⟨e1, e2⟩ := take_drop1 hdrop
      have hinst : (Cond.instanceMethod (pnm m')).before args s = true := by
        have := (okM_spec hm).2.2.2.2.2.2
        rw [if_neg (by simpa using hst)] at this
        exact hts _ this
      intro H0 locs lsM P L B1 B2 B3
      have hstack : (st.map (rnv X)) = ((takeR (m' % 8) st []).map (rnv X)).reverse ++ .ref (ad X a) :: st'.map (rnv X) := by
        conv => lhs; rw [e1]
        exact map_stack
      have hcells : hN h - n0 + (hN g1 - hN h) ≤ R.cells ∧ hU h - u0 + (hU g1 - hU h) ≤ R.slots := by omega
      have hsum : 2 * 0 + ((st'.map (rnv X)).map fun v => v.category).sum ≤ 8 := by have := okStack_sum (X := X) hos; omega
      have hpre : ∀ U : State, U.heap = H0 → s.WarmedH U.vm → PcOf X KS (.ref a :: takeR (m' % 8) st []) h (Value.ref (ad X a) :: (takeR (m' % 8) st []).map (rnv X)).toArray U := fun U hU hW => ⟨rfl, by rw [hU]; exact P, hKU.warm hKW hW⟩

      rcases hw with ⟨⟨hnm, hret⟩, hw⟩ | ⟨hnm, hw⟩
      · have hp : PreS s H0 (PcOf X KS (.ref a :: takeR (m' % 8) st []) h) (.ref (ad X a) :: (takeR (m' % 8) st []).map (rnv X)) := ⟨blind hKS, hpre⟩
        rcases hw with hw | hw
        · have cb := callB_mk (mc := hN g1 - hN h) (ms := hU g1 - hU h) hts hm (hts _ (wGd_mem hw)) f1 f2
          have cb' : CallB R s args own i (pnm m') (pcd m') (pnl m') none (wsOf m') (rmOf d' (hN g1 - hN h) (hU g1 - hU h)) (hN g1 - hN h) (hU g1 - hU h) (m' % 8) := by rw [← hret]; exact cb
          exact after_call (va_runI (n := m' % 8) ⟨hx, hb, hml, hown, hts⟩ hM ⟨cb', hnm, hinst⟩ hp rfl (by simpa using e2) L.1 hstack hsum hd hcells) (fun _ _ _ q => q) B1 B2 B3 n1 n2 L (hK _ _ _ HJ)
        · have cb := callN_mk (mc := hN g1 - hN h) (ms := hU g1 - hU h) hts hm (va_Nw.use rfl (hKU.2.2.1 _ (wNs_mem hw))) f1 f2
          have cb' : va_CN R s args own i (pnm m') "DreamNets" (pcd m') (pnl m') none (wsOf m') (rmOf d' (hN g1 - hN h) (hU g1 - hU h)) (hN g1 - hN h) (hU g1 - hU h) (m' % 8) := by rw [← hret]; exact cb
          exact after_call (va_runIN (n := m' % 8) ⟨hx, hb, hml, hown, hts⟩ hM ⟨cb', hnm, hinst⟩ hp rfl (by simpa using e2) L.1 hstack hsum hd hcells) (fun _ _ _ q => q) B1 B2 B3 n1 n2 L (hK _ _ _ HJ)
      · obtain ⟨x, hx1, hxn, hxd, hx2, hx3, hx4⟩ := supOk_spec hw
        have hno : (pnm m').name ≠ "<init>" := by simpa using hnm
        obtain ⟨k1, k2, -, -, k5, k6, -⟩ := okM_spec hm
        have hp : PreV s H0 (pC (hT h a)) (ad X a) (PcOf X KS (.ref a :: takeR (m' % 8) st []) h) ((takeR (m' % 8) st []).map (rnv X)) := ⟨blind hKS, recv_at hKU P htg, hpre⟩
        have cw : (rmOf d' (hN g1 - hN h) (hU g1 - hU h)).cells = hN g1 - hN h ∧ (rmOf d' (hN g1 - hN h) (hU g1 - hU h)).slots = hU g1 - hU h ∧ (rmOf d' (hN g1 - hN h) (hU g1 - hU h)).frames + 1 ≤ R.frames ∧ 8 + (pnl m' + 11) + (rmOf d' (hN g1 - hN h) (hU g1 - hU h)).locals ≤ R.locals ∧ (∀ w ∈ wsOf m', ∀ (a' : Array Value) (U : State), s.WarmedH U.vm → w.before a' U = true) ∧ Cond.code (pnm m') (pcd m') (pnl m') (pret m') ∈ wsOf m' := ⟨rfl, rfl, f1, room_le k6 f2, ws_pay hts k1, List.mem_cons_self⟩
        exact after_call (runSU2 (n := m' % 8) (hKU.1 _ htg).2 ⟨hx, hb, hml, hown, hts⟩ hM cw (hts _ k1) (hts _ k2) (par_spec k5) (hts _ hx1) hxn hxd (hts _ hx2) (hts _ hx3) (hx4.imp_right (hts _)) hinst hno hp rfl (by simpa using e2) L.1 hstack hsum hd hcells) (fun _ _ _ q => q) B1 B2 B3 n1 n2 L (hK _ _ _ HJ)
    · exact H.elim
  · cases ho
theorem sd_invokevirtual {X : CX} {KS : CX → State → Prop} {p : Program} {l : Launch} {e : Env} {R : Room} {s : State} {m : MethodId} {args : Array Value} {below : List Frame} {meth : Method} {c : Code} {nL n0 u0 : Nat} {Q : State → Prop} {cc : ByteArray} {own : String} {ini : Bool} {pcOf : Nat → Nat} {pc len pl : Nat} {raw : Instr} {call : Nat → List Value → PH → (Option Value → PH → Prop) → Prop} {jump : Nat → List Value → List Value → PH → Prop} {fin : Option Value → PH → Prop} {rk : Nat} {K : List Value → List Value → PH → Prop} {ls st : List Value} {h : PH} {x : Nat} (hx : p.tables.exec = Jvm.exec) (hb : c.code = cc) (hd : decode cc pc = .ok (raw, len)) (ho : okI own ini nL pcOf pc raw len pl (.invokevirtual x) = true) (hK : ∀ ls st h, K ls st h → GoW X p l e R s m args below meth c nL n0 u0 Q (pc + len) ls st h) (hown : s.vm.findClass own = some m.cls) (hts : ∀ w ∈ lw_good, w.before args s = true) (hKU : KU X KS s) (hKf : ∀ ls st h, K ls st h → hN h - n0 ≤ R.cells ∧ hU h - u0 ≤ R.slots) (hml : c.maxLocals = nL) (hC : ∀ m' a g J, okM m' = true → call m' a g J → CallOK X KS l R m' a g J) (hKS : ∀ u U : State, u.vm = U.vm → KS X u → KS X U) (hKW : ∀ u U : State, u.WarmedH U.vm → KS X u → KS X U) (H : wpI call jump fin rk (.invokevirtual x) K ls st h) : GoW X p l e R s m args below meth c nL n0 u0 Q pc ls st h := by
  simp only [wpI] at H
  simp only [okI] at ho
  split at ho
  · rename_i i
    simp only [Bool.and_eq_true, beq_iff_eq] at ho
    obtain ⟨rfl, hw⟩ := ho
    split at H
    · rename_i a st' hdrop
      obtain ⟨hvk, hos, H⟩ := H
      have hmv : okM (pvsel x (hT h a)) = true := by
        unfold pvok at hvk
        unfold pvsel
        by_cases hbig : 10000 ≤ x
        · rw [if_pos hbig] at hw ⊢
          simp only [Bool.and_eq_true] at hw
          exact hw.1.1.1.1.1.2
        · rw [if_neg hbig] at hw hvk ⊢
          simp only [Bool.and_eq_true, List.all_eq_true, Bool.or_eq_true, beq_iff_eq] at hw hvk
          have v1 : hT h a < 16 := by
            have := Nat.ble_eq.mp hvk.1
            omega
          have v2 : 0 < pbsel x (hT h a) := by
            have := Nat.ble_eq.mp hvk.2
            omega
          exact (okX_spec ((hw.2 (hT h a) (List.mem_range.mpr v1)).resolve_left (by omega))).2.2.2.1
      obtain ⟨d', f1, f2, r1, g1, n1, n2, hM, HJ⟩ := hC _ _ _ _ hmv H
      have fit := hKf _ _ _ HJ
      obtain ⟨e1, e2⟩ := take_drop1 hdrop
      intro H0 locs lsM P L B1 B2 B3
      have hstack : (st.map (rnv X)) = ((takeR (x % 8) st []).map (rnv X)).reverse ++ .ref (ad X a) :: st'.map (rnv X) := by
        conv => lhs; rw [e1]
        exact map_stack
      have hcells : hN h - n0 + (hN g1 - hN h) ≤ R.cells ∧ hU h - u0 + (hU g1 - hU h) ≤ R.slots := by omega
      have hsum : 2 * 0 + ((st'.map (rnv X)).map fun v => v.category).sum ≤ 8 := by have := okStack_sum (X := X) hos; omega
      have hpre : ∀ U : State, U.heap = H0 → s.WarmedH U.vm → PcOf X KS (.ref a :: takeR (x % 8) st []) h (Value.ref (ad X a) :: (takeR (x % 8) st []).map (rnv X)).toArray U := fun U hU hW => ⟨rfl, by rw [hU]; exact P, hKU.warm hKW hW⟩

      by_cases hbig : 10000 ≤ x
      · rw [if_pos hbig] at hw
        simp only [Bool.and_eq_true, Bool.not_eq_true', decide_eq_true_eq] at hw
        obtain ⟨⟨⟨⟨⟨⟨w1, w2⟩, w3⟩, w4⟩, w5⟩, w6⟩, w7⟩ := hw
        unfold pvok at hvk
        rw [if_pos hbig] at hvk
        have ht : hT h a = x / 10000 := by simpa using hvk
        have hv : pvsel x (hT h a) = x % 10000 := by unfold pvsel; rw [if_pos hbig]
        rw [hv] at hM
        have hinst : (Cond.instanceMethod (pnm (x % 10000))).before args s = true := by
          have := (okM_spec w2).2.2.2.2.2.2
          rw [if_neg (by rw [w3]; decide)] at this
          exact hts _ this
        have htg : isTg (hT h a) = true := by rw [ht]; exact w1
        have hp : PreV s H0 (pC (hT h a)) (ad X a) (PcOf X KS (.ref a :: takeR (x % 8) st []) h) ((takeR (x % 8) st []).map (rnv X)) := ⟨blind hKS, recv_at hKU P htg, hpre⟩
        have hsel : (Cond.selects (pC (hT h a)) (pnm (x % 10000)) (pnm (x % 10000))).before args s = true := by rw [ht]; exact hts _ (wGd_mem w6)
        exact after_call (va_runV (n := x % 10000 % 8) ⟨hx, hb, hml, hown, hts⟩ hM ⟨callB_mk hts w2 (hts _ (wGd_mem w7)) f1 f2, hinst, hsel⟩ hp rfl (by rw [← w5]; simpa using e2) L.1 hstack hsum hd hcells) (fun _ _ _ q => q) B1 B2 B3 n1 n2 L (hK _ _ _ HJ)
      · rw [if_neg hbig] at hw
        simp only [Bool.and_eq_true, List.all_eq_true, Bool.or_eq_true, beq_iff_eq] at hw
        obtain ⟨w1, w2⟩ := hw
        unfold pvok at hvk
        rw [if_neg hbig] at hvk
        simp only [Bool.and_eq_true] at hvk
        obtain ⟨v1, v2⟩ := hvk
        have v1 : hT h a < 16 := by
          have := Nat.ble_eq.mp v1
          omega
        have v2 : 0 < pbsel x (hT h a) := by
          have := Nat.ble_eq.mp v2
          omega
        have hX := (w2 (hT h a) (List.mem_range.mpr v1)).resolve_left (by omega)
        obtain ⟨htg, x1, x2, x3, x4, x5, x6, x7, x8⟩ := okX_spec hX
        have hv : pvsel x (hT h a) = pbsel x (hT h a) := by unfold pvsel; rw [if_neg hbig]
        rw [hv] at hM
        obtain ⟨k1, k2, k3, k4, k5, k6, k7⟩ := okM_spec x3
        rw [if_neg (by rw [x4]; decide)] at k7
        obtain ⟨o1, o2, o3, o4, o5, o6, o7⟩ := okM_spec x6
        rw [if_neg (by rw [x7]; decide)] at o7
        have hdecl : va_Decl s ⟨(pnm (pxo x).1).cls, (pxn x).name, (pxn x).desc⟩ := by
          rw [← x5]
          obtain ⟨mk, methM, hnamed, hmethM, hstM, habM⟩ := Cond.instanceMethod_spec (hts _ o7)
          obtain ⟨methM', cM, hmethM', -, -, -, -, -, -, hsigM⟩ := Cond.code_spec hnamed (hts _ o1)
          cases hmethM.symm.trans hmethM'
          exact ⟨mk, methM, hnamed, hmethM, hstM, hsigM⟩
        have hp : PreV s H0 (pC (hT h a)) (ad X a) (PcOf X KS (.ref a :: takeR (x % 8) st []) h) ((takeR (x % 8) st []).map (rnv X)) := ⟨blind hKS, recv_at hKU P htg, hpre⟩
        have cw : va_CU R s args own (pC (hT h a)) (pnm (pxo x).1).cls i (pxn x) (pnm (pbsel x (hT h a))) (pcd (pbsel x (hT h a))) (pnl (pbsel x (hT h a))) (pret (pbsel x (hT h a))) (wsOf (pbsel x (hT h a))) (rmOf d' (hN g1 - hN h) (hU g1 - hU h)) (hN g1 - hN h) (hU g1 - hU h) (x % 8) := ⟨⟨rfl, rfl, f1, room_le k6 f2, ws_pay hts k1, List.mem_cons_self⟩, hts _ k1, hts _ k2, o3, par_spec x8, hts _ (wGd_mem w1), hts _ x1, hdecl, hts _ x2, hts _ k7⟩
        exact after_call (va_runU (n := x % 8) ⟨hx, hb, hml, hown, hts⟩ hM cw hp rfl (by simpa using e2) L.1 hstack hsum hd hcells) (fun _ _ _ q => q) B1 B2 B3 n1 n2 L (hK _ _ _ HJ)
    · exact H.elim
  · cases ho
end
