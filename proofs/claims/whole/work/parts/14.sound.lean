section
theorem okB_nil {own : String} {ini : Bool} {nL : Nat} {bytes : ByteArray} {pcOf : Nat → Nat} {pc : Nat} {is : List Instr} (h : okB own ini nL bytes pcOf pc [] is = true) : is = [] ∨ ∃ b, is = [.jsr b] ∧ pcOf b.toNat = pc := by
  unfold okB at h
  split at h
  · exact Or.inl rfl
  · rename_i b _
    exact Or.inr ⟨b, rfl, by simpa using h⟩
  · rename_i h0
    cases h0
  · cases h
theorem okB_cons {own : String} {ini : Bool} {nL : Nat} {bytes : ByteArray} {pcOf : Nat → Nat} {pc : Nat} {r : Instr × Nat × Nat} {rs : List (Instr × Nat × Nat)} {is : List Instr} (h : okB own ini nL bytes pcOf pc (r :: rs) is = true) :
    ∃ i js, is = i :: js ∧ decode bytes pc = .ok (r.1, r.2.1) ∧ okI own ini nL pcOf pc r.1 r.2.1 r.2.2 i = true ∧ okB own ini nL bytes pcOf (pc + r.2.1) rs js = true := by
  cases is with
  | nil => simp [okB] at h
  | cons i js =>
    simp only [okB, Bool.and_eq_true, decide_eq_true_eq] at h
    exact ⟨i, js, rfl, h.1, h.2.1, h.2.2⟩
set_option maxHeartbeats 4000000 in
theorem step_all {X : CX} {KS : CX → State → Prop} {p : Program} {l : Launch} {e : Env} {R : Room} {s : State} {m : MethodId} {args : Array Value} {below : List Frame} {meth : Method} {c : Code} {nL n0 u0 : Nat} {Q : State → Prop} {cc : ByteArray} {own : String} {ini : Bool} {pcOf : Nat → Nat} {pc len pl : Nat} {raw : Instr}
    {call : Nat → List Value → PH → (Option Value → PH → Prop) → Prop} {jump : Nat → List Value → List Value → PH → Prop} {fin : Option Value → PH → Prop} {rk : Nat} {K : List Value → List Value → PH → Prop} {ls st : List Value} {h : PH}
    (hx : p.tables.exec = Jvm.exec) (hb : c.code = cc) (hml : c.maxLocals = nL) (hown : s.vm.findClass own = some m.cls) (hts : ∀ w ∈ lw_good, w.before args s = true) (hKU : KU X KS s) (hini : ini = true → meth.name = "<init>")
    (hKS : ∀ u U : State, u.vm = U.vm → KS X u → KS X U) (hKW : ∀ u U : State, u.WarmedH U.vm → KS X u → KS X U) (hSW : StrW X KS) (hR1 : 6 ≤ R.frames) (hR2 : 600 ≤ R.locals)
    (hd : decode cc pc = .ok (raw, len)) (i : Instr) (ho : okI own ini nL pcOf pc raw len pl i = true) (hfit : hN h - n0 ≤ R.cells ∧ hU h - u0 ≤ R.slots)
    (hK : ∀ ls st h, K ls st h → GoW X p l e R s m args below meth c nL n0 u0 Q (pc + len) ls st h) (hKf : ∀ ls st h, K ls st h → hN h - n0 ≤ R.cells ∧ hU h - u0 ≤ R.slots)
    (hJ : ∀ b ls st h, jump b ls st h → GoW X p l e R s m args below meth c nL n0 u0 Q (pcOf b) ls st h)
    (hC : ∀ m' a g J, okM m' = true → call m' a g J → CallOK X KS l R m' a g J)
    (hE : ∀ r h, fin r h → EndW X p l e R s m args below meth c n0 u0 Q cc rk r h)
    (H : wpI call jump fin rk i K ls st h) : GoW X p l e R s m args below meth c nL n0 u0 Q pc ls st h := by
  cases i
  case ldc_w => exact sd_ldc_w (KS := KS) hx hb hd ho hK hown hts H
  case iconst => exact sd_iconst (KS := KS) hx hb hd ho hK H
  case ldc2_w => exact sd_ldc2_w (KS := KS) hx hb hd ho hK hown hts H
  case jsr_w => exact sd_jsr_w (KS := KS) hx hb hd ho hK hown hts H
  case ldc => exact sd_ldc (KS := KS) hx hb hd ho hK hown hts hKU hml hR1 hR2 hfit hSW H
  case getstatic => exact sd_getstatic (KS := KS) hx hb hd ho hK hown hts hKU H
  case aconst_null => exact sd_aconst_null (KS := KS) hx hb hd ho hK H
  case iload => exact sd_iload (KS := KS) hx hb hd ho hK H
  case lload => exact sd_lload (KS := KS) hx hb hd ho hK H
  case aload => exact sd_aload (KS := KS) hx hb hd ho hK H
  case istore => exact sd_istore (KS := KS) hx hb hd ho hK H
  case lstore => exact sd_lstore (KS := KS) hx hb hd ho hK H
  case astore => exact sd_astore (KS := KS) hx hb hd ho hK H
  case iinc => exact sd_iinc (KS := KS) hx hb hd ho hK H
  case iadd => exact sd_iadd (KS := KS) hx hb hd ho hK H
  case isub => exact sd_isub (KS := KS) hx hb hd ho hK H
  case imul => exact sd_imul (KS := KS) hx hb hd ho hK H
  case iand => exact sd_iand (KS := KS) hx hb hd ho hK H
  case ior => exact sd_ior (KS := KS) hx hb hd ho hK H
  case ixor => exact sd_ixor (KS := KS) hx hb hd ho hK H
  case idiv => exact sd_idiv (KS := KS) hx hb hd ho hK H
  case irem => exact sd_irem (KS := KS) hx hb hd ho hK H
  case ishl => exact sd_ishl (KS := KS) hx hb hd ho hK H
  case ishr => exact sd_ishr (KS := KS) hx hb hd ho hK H
  case iushr => exact sd_iushr (KS := KS) hx hb hd ho hK H
  case ladd => exact sd_ladd (KS := KS) hx hb hd ho hK H
  case lsub => exact sd_lsub (KS := KS) hx hb hd ho hK H
  case lmul => exact sd_lmul (KS := KS) hx hb hd ho hK H
  case land => exact sd_land (KS := KS) hx hb hd ho hK H
  case lor => exact sd_lor (KS := KS) hx hb hd ho hK H
  case ldiv => exact sd_ldiv (KS := KS) hx hb hd ho hK H
  case lrem => exact sd_lrem (KS := KS) hx hb hd ho hK H
  case lshl => exact sd_lshl (KS := KS) hx hb hd ho hK H
  case lshr => exact sd_lshr (KS := KS) hx hb hd ho hK H
  case lushr => exact sd_lushr (KS := KS) hx hb hd ho hK H
  case lcmp => exact sd_lcmp (KS := KS) hx hb hd ho hK H
  case i2l => exact sd_i2l (KS := KS) hx hb hd ho hK H
  case l2i => exact sd_l2i (KS := KS) hx hb hd ho hK H
  case i2b => exact sd_i2b (KS := KS) hx hb hd ho hK H
  case i2s => exact sd_i2s (KS := KS) hx hb hd ho hK H
  case dup => exact sd_dup (KS := KS) hx hb hd ho hK H
  case dup2 => exact sd_dup2 (KS := KS) hx hb hd ho hK H
  case pop => exact sd_pop (KS := KS) hx hb hd ho hK H
  case goto => exact sd_goto (KS := KS) hx hb hd ho hJ H
  case if_icmp cc' b => cases cc' <;> first
    | exact sd_if_icmp_eq (KS := KS) hx hb hd ho hK hJ H
    | exact sd_if_icmp_ne (KS := KS) hx hb hd ho hK hJ H
    | exact sd_if_icmp_lt (KS := KS) hx hb hd ho hK hJ H
    | exact sd_if_icmp_ge (KS := KS) hx hb hd ho hK hJ H
    | exact sd_if_icmp_gt (KS := KS) hx hb hd ho hK hJ H
    | exact sd_if_icmp_le (KS := KS) hx hb hd ho hK hJ H
  case ifCond cc' b => cases cc' <;> first
    | exact sd_ifCond_eq (KS := KS) hx hb hd ho hK hJ H
    | exact sd_ifCond_ne (KS := KS) hx hb hd ho hK hJ H
    | exact sd_ifCond_lt (KS := KS) hx hb hd ho hK hJ H
    | exact sd_ifCond_ge (KS := KS) hx hb hd ho hK hJ H
    | exact sd_ifCond_gt (KS := KS) hx hb hd ho hK hJ H
    | exact sd_ifCond_le (KS := KS) hx hb hd ho hK hJ H
  case ifnull => exact sd_ifnull (KS := KS) hx hb hd ho hK hJ H
  case ifnonnull => exact sd_ifnonnull (KS := KS) hx hb hd ho hK hJ H
  case tableswitch => exact sd_tableswitch (KS := KS) hx hb hd ho hJ H
  case getfield => exact sd_getfield (KS := KS) hx hb hd ho hK hown hts hKU H
  case putfield => exact sd_putfield (KS := KS) hx hb hd ho hK hown hts hKU hini H
  case iaload => exact sd_iaload (KS := KS) hx hb hd ho hK hKU H
  case baload => exact sd_baload (KS := KS) hx hb hd ho hK hKU H
  case laload => exact sd_laload (KS := KS) hx hb hd ho hK hKU H
  case aaload => exact sd_aaload (KS := KS) hx hb hd ho hK hKU H
  case arraylength => exact sd_arraylength (KS := KS) hx hb hd ho hK hKU H
  case iastore => exact sd_iastore (KS := KS) hx hb hd ho hK hKU H
  case bastore => exact sd_bastore (KS := KS) hx hb hd ho hK hKU H
  case lastore => exact sd_lastore (KS := KS) hx hb hd ho hK hKU H
  case aastore => exact sd_aastore (KS := KS) hx hb hd ho hK hKU H
  case new => exact sd_new (KS := KS) hx hb hd ho hK hown hts hKU hKf H
  case newarray => exact sd_newarray (KS := KS) hx hb hd ho hK hown hts hKU hKf H
  case anewarray => exact sd_anewarray (KS := KS) hx hb hd ho hK hown hts hKU hKf H
  case invokestatic => exact sd_invokestatic (KS := KS) hx hb hd ho hK hown hts hKU hKf hml hC hKS hKW H
  case invokespecial => exact sd_invokespecial (KS := KS) hx hb hd ho hK hown hts hKU hKf hml hC hKS hKW H
  case invokevirtual => exact sd_invokevirtual (KS := KS) hx hb hd ho hK hown hts hKU hKf hml hC hKS hKW H
  case invokedynamic k =>
    match k with
    | 0 => exact sd_prim0 (KS := KS) hx hb hd ho hK hown hts hKU hml hR1 hR2 hfit H
    | 1 => exact sd_prim1 (KS := KS) hx hb hd ho hK hown hts hKU hml hR1 hR2 hfit hSW H
    | 2 => exact sd_prim2 (KS := KS) hx hb hd ho hK hown hts hKU hml hR1 hR2 hfit hSW H
    | 3 => exact sd_prim3 (KS := KS) hx hb hd ho hK hown hts hKU hml hR1 hR2 hfit H
    | 4 => exact sd_prim4 (KS := KS) hx hb hd ho hK hown hts hKU hml hR1 hR2 hfit H
    | 5 => exact sd_prim5 (KS := KS) hx hb hd ho hK hown hts hKU hml hR1 hR2 hfit H
    | k + 6 => exact False.elim H
  case ireturn => exact sd_ireturn (KS := KS) hx hb hd ho hE H
  case lreturn => exact sd_lreturn (KS := KS) hx hb hd ho hE H
  case areturn => exact sd_areturn (KS := KS) hx hb hd ho hE H
  case return_ => exact sd_return_ (KS := KS) hx hb hd ho hE H
  case jsr => simp [okI] at ho
  all_goals exact False.elim H
end
