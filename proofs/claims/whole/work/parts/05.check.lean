section
/-! what is checked of the printed program, by counting: each instruction is the resolved one's, and its words stand in the tables -/
def isNest (w : Cond) : Bool := match w with | .methodLinkNest .. => true | .fieldLinkNest .. => true | _ => false
def lw_good : List Cond := lw_tbl.filter goodWord
def lw_nest : List Cond := lw_tbl.filter isNest
def tbK (k : Nat) : List Cond := match k with
  | 1 => tables_1_1
  | 2 => tables_1_2
  | 3 => tables_1_3
  | 4 => tables_1_4
  | 5 => tables_1_5
  | 6 => tables_1_6
  | 7 => tables_1_7
  | 11 => k2_sels lw_privs_1
  | 12 => k2_sels lw_privs_2
  | 13 => k2_sels lw_privs_3
  | 14 => k2_sels lw_privs_4
  | 15 => k2_sels lw_privs_5
  | _ => []
theorem tbK_mem {k : Nat} {w : Cond} (h : w ∈ tbK k) : w ∈ lw_tbl := by
  have e : lw_tbl = k2_sels lw_privs ++ tables_1 := rfl
  have e2 : tables_1 = tables_1_1 ++ (tables_1_2 ++ (tables_1_3 ++ (tables_1_4 ++ (tables_1_5 ++ (tables_1_6 ++ tables_1_7))))) := rfl
  have e3 : k2_sels lw_privs = k2_sels lw_privs_1 ++ (k2_sels lw_privs_2 ++ (k2_sels lw_privs_3 ++ (k2_sels lw_privs_4 ++ k2_sels lw_privs_5))) := by simp [k2_sels, lw_privs]
  rw [e, e2, e3]
  simp only [List.mem_append]
  unfold tbK at h
  split at h
  · exact Or.inr (Or.inl h)
  · exact Or.inr (Or.inr (Or.inl h))
  · exact Or.inr (Or.inr (Or.inr (Or.inl h)))
  · exact Or.inr (Or.inr (Or.inr (Or.inr (Or.inl h))))
  · exact Or.inr (Or.inr (Or.inr (Or.inr (Or.inr (Or.inl h)))))
  · exact Or.inr (Or.inr (Or.inr (Or.inr (Or.inr (Or.inr (Or.inl h))))))
  · exact Or.inr (Or.inr (Or.inr (Or.inr (Or.inr (Or.inr (Or.inr h))))))
  · exact Or.inl (Or.inl h)
  · exact Or.inl (Or.inr (Or.inl h))
  · exact Or.inl (Or.inr (Or.inr (Or.inl h)))
  · exact Or.inl (Or.inr (Or.inr (Or.inr (Or.inl h))))
  · exact Or.inl (Or.inr (Or.inr (Or.inr (Or.inr h))))
  · cases h
/-- the word at a place: 1000 times its list, and the place in it -/
def wAt (pl : Nat) (w : Cond) : Bool := match (tbK (pl / 1000))[pl % 1000]? with | none => false | some v => decide (v = w)
theorem wAt_mem {pl : Nat} {w : Cond} (h : wAt pl w = true) : w ∈ lw_tbl := by
  unfold wAt at h
  split at h
  · cases h
  · rename_i v hv
    have : v = w := of_decide_eq_true h
    subst this
    exact tbK_mem (List.mem_of_getElem? hv)
def wGd (pl : Nat) (w : Cond) : Bool := goodWord w && wAt pl w
def wNs (pl : Nat) (w : Cond) : Bool := isNest w && wAt pl w
theorem wGd_mem {pl : Nat} {w : Cond} (h : wGd pl w = true) : w ∈ lw_good := by
  unfold wGd at h
  rw [Bool.and_eq_true] at h
  exact List.mem_filter.mpr ⟨wAt_mem h.2, h.1⟩
theorem wNs_mem {pl : Nat} {w : Cond} (h : wNs pl w = true) : w ∈ lw_nest := by
  unfold wNs at h
  rw [Bool.and_eq_true] at h
  exact List.mem_filter.mpr ⟨wAt_mem h.2, h.1⟩
theorem lw_good_ok : ∀ w ∈ lw_good, (w.onTables && w.keeps) = true ∨ ∃ ty, w = .arrayClass ty := fun _ h => good_of_word (List.mem_filter.mp h).2
def noMH (s : String) : Bool := decide (s ≠ "java/lang/invoke/MethodHandle") && decide (s ≠ "java/lang/invoke/VarHandle")
def nPar (d : String) : Option Nat := (parseMethodDescriptor d).map (fun d => d.parameters.length)
def retOk (k : Nat) (r : Option FieldType) : Bool := match r with
  | none => k == 0
  | some .int => k == 1
  | some .boolean => k == 2
  | some .long => k == 3
  | some (.object _) => k == 4
  | some (.array _) => k == 4
  | _ => false
/-- a method's own words -/
def okM (m : Nat) : Bool :=
  wGd (pmw m).1 (.code (pnm m) (pcd m) (pnl m) (pret m)) && wGd (pmw m).2.1 (.initialized (pnm m).cls) && noMH (pnm m).cls && plainName (pnm m).cls && decide (nPar (pnm m).desc = some (m % 8)) && decide (pnl m ≤ 60)
  && (retOk (prk m) (pret m) && pids.contains (m, pnb m))
  && (if pst m then wGd (pmw m).2.2.1 (.static (pnm m)) else wGd (pmw m).2.2.1 (.instanceMethod (pnm m)))
/-- the tags of a class -/
def isTg (t : Nat) : Bool := decide (1 ≤ t) && decide (t ≤ 13)
def okX (x t : Nat) : Bool :=
  isTg t && wGd (pxo x).2.1 (.sameMethod (pxn x).cls (pnm (pxo x).1).cls (pxn x).name (pxn x).desc) && wGd (pxs x t) (.selects (pC t) (pxn x) (pnm (pbsel x t))) && okM (pbsel x t) && !pst (pbsel x t)
  && decide (pnm (pxo x).1 = ⟨(pnm (pxo x).1).cls, (pxn x).name, (pxn x).desc⟩) && okM (pxo x).1 && !pst (pxo x).1 && decide (nPar (pxn x).desc = some (x % 8)) && decide (pbsel x t % 8 = x % 8)
/-- super.m(..): the word names the superclass, the method may stand above it -/
def supOk (own : String) (i pl : Nat) (y : MethodName) : Bool := match (tbK (pl / 1000))[pl % 1000]? with
  | some (.methodLink o j x) => o == own && j == i && x.name == y.name && x.desc == y.desc && goodWord (.methodLink o j x) && lw_good.contains (.sameMethod x.cls y.cls y.name y.desc) && lw_good.contains (.superclass own x.cls) && (x.cls == y.cls || lw_good.contains (.superclass x.cls y.cls))
  | _ => false
def okI (own : String) (ini : Bool) (nL : Nat) (pcOf : Nat → Nat) (pc : Nat) (raw : Instr) (len pl : Nat) (res : Instr) : Bool :=
  match res with
  | .ldc_w n => match raw with
    | .iconst v => len == 1 && decide (Int32.ofInt v = nI n)
    | .bipush v => len == 2 && decide ((Int8.ofInt v).toInt32 = nI n)
    | .sipush v => len == 3 && decide ((Int16.ofInt v).toInt32 = nI n)
    | .ldc i => len == 2 && wGd pl (.constant own i (nI n))
    | .ldc_w i => len == 3 && wGd pl (.constant own i (nI n))
    | _ => false
  | .iconst z => match raw with
    | .iconst v => len == 1 && decide (Int32.ofInt v = Int32.ofInt z)
    | .bipush v => len == 2 && decide ((Int8.ofInt v).toInt32 = Int32.ofInt z)
    | .sipush v => len == 3 && decide ((Int16.ofInt v).toInt32 = Int32.ofInt z)
    | _ => false
  | .ldc2_w n => match raw with
    | .lconst v => len == 1 && decide (Int64.ofNat (v : Nat) = lN n)
    | .ldc2_w i => len == 3 && wGd pl (.constantLong own i (lN n))
    | _ => false
  | .jsr_w z => match raw with
    | .ldc2_w i => len == 3 && wGd pl (.constantLong own i (Int64.ofInt z))
    | _ => false
  | .ldc k => match raw with
    | .ldc i => len == 2 && own == "DreamNets$Tape" && wAt pl (.stringRef own i (pStr k)) && decide (10 ≤ k) && decide (k < 28)
    | _ => false
  | .getstatic k => match raw with
    | .getstatic i => len == 3 && (wGd pl (.fieldLink own i "DreamNets" (pStat k) "[I") || wNs pl (.fieldLinkNest own i "DreamNets" (pStat k) "[I" "DreamNets")) && decide (1 ≤ k) && decide (k ≤ 5)
    | _ => false
  | .aconst_null => match raw with | .aconst_null => len == 1 | _ => false
  | .iload k => match raw with | .iload_n i => len == 1 && i.val == k | .iload i => len == 2 && i == k | _ => false
  | .lload k => match raw with | .lload_n i => len == 1 && i.val == k | .lload i => len == 2 && i == k | _ => false
  | .aload k => match raw with | .aload_n i => len == 1 && i.val == k | .aload i => len == 2 && i == k | _ => false
  | .istore k => decide (k < nL) && match raw with | .istore_n i => len == 1 && i.val == k | .istore i => len == 2 && i == k | _ => false
  | .lstore k => decide (k + 1 < nL) && match raw with | .lstore_n i => len == 1 && i.val == k | .lstore i => len == 2 && i == k | _ => false
  | .astore k => decide (k < nL) && match raw with | .astore_n i => len == 1 && i.val == k | .astore i => len == 2 && i == k | _ => false
  | .iinc k c => decide (k < nL) && match raw with | .iinc i z => len == 3 && i == k && z == c | _ => false
  | .iadd => match raw with | .iadd => len == 1 | _ => false
  | .isub => match raw with | .isub => len == 1 | _ => false
  | .imul => match raw with | .imul => len == 1 | _ => false
  | .iand => match raw with | .iand => len == 1 | _ => false
  | .ior => match raw with | .ior => len == 1 | _ => false
  | .ixor => match raw with | .ixor => len == 1 | _ => false
  | .idiv => match raw with | .idiv => len == 1 | _ => false
  | .irem => match raw with | .irem => len == 1 | _ => false
  | .ishl => match raw with | .ishl => len == 1 | _ => false
  | .ishr => match raw with | .ishr => len == 1 | _ => false
  | .iushr => match raw with | .iushr => len == 1 | _ => false
  | .ladd => match raw with | .ladd => len == 1 | _ => false
  | .lsub => match raw with | .lsub => len == 1 | _ => false
  | .lmul => match raw with | .lmul => len == 1 | _ => false
  | .land => match raw with | .land => len == 1 | _ => false
  | .lor => match raw with | .lor => len == 1 | _ => false
  | .ldiv => match raw with | .ldiv => len == 1 | _ => false
  | .lrem => match raw with | .lrem => len == 1 | _ => false
  | .lshl => match raw with | .lshl => len == 1 | _ => false
  | .lshr => match raw with | .lshr => len == 1 | _ => false
  | .lushr => match raw with | .lushr => len == 1 | _ => false
  | .lcmp => match raw with | .lcmp => len == 1 | _ => false
  | .i2l => match raw with | .i2l => len == 1 | _ => false
  | .l2i => match raw with | .l2i => len == 1 | _ => false
  | .i2b => match raw with | .i2b => len == 1 | _ => false
  | .i2s => match raw with | .i2s => len == 1 | _ => false
  | .dup => match raw with | .dup => len == 1 | _ => false
  | .dup2 => match raw with | .dup2 => len == 1 | _ => false
  | .pop => match raw with | .pop => len == 1 | _ => false
  | .goto b => match raw with | .goto off => len == 3 && decide ((pc : Int) + off = (pcOf b.toNat : Int)) | _ => false
  | .if_icmp c b => match raw with | .if_icmp c' off => len == 3 && decide (c' = c) && decide ((pc : Int) + off = (pcOf b.toNat : Int)) | _ => false
  | .ifCond c b => match raw with | .ifCond c' off => len == 3 && decide (c' = c) && decide ((pc : Int) + off = (pcOf b.toNat : Int)) | _ => false
  | .ifnull b => match raw with | .ifnull off => len == 3 && decide ((pc : Int) + off = (pcOf b.toNat : Int)) | _ => false
  | .ifnonnull b => match raw with | .ifnonnull off => len == 3 && decide ((pc : Int) + off = (pcOf b.toNat : Int)) | _ => false
  | .tableswitch d lo hi offs => match raw with
    | .tableswitch d' lo' hi' offs' => lo' == lo && hi' == hi && decide ((pc : Int) + d' = (pcOf d.toNat : Int)) && decide (offs'.size = (hi - lo).toNat + 1) && decide (offs.size = (hi - lo).toNat + 1) && (List.range ((hi - lo).toNat + 1)).all (fun j => decide ((pc : Int) + offs'.getD j 0 = (pcOf (offs.getD j 0).toNat : Int)))
    | _ => false
  | .getfield n => isTg (n / 64 % 16) && decide (n % 64 < pNf (n / 64 % 16)) && decide (n / 1024 = pK (n / 64 % 16) (n % 64)) && match raw with
    | .getfield i => len == 3 && wGd pl (.fieldLink own i (pT (n / 64 % 16) (n % 64)).1 (pT (n / 64 % 16) (n % 64)).2.1 (pT (n / 64 % 16) (n % 64)).2.2.1)
    | _ => false
  | .putfield n => isTg (n / 64 % 16) && decide (n % 64 < pNf (n / 64 % 16)) && decide (n / 1024 = pK (n / 64 % 16) (n % 64)) && (!(pT (n / 64 % 16) (n % 64)).2.2.2 || (ini && (pT (n / 64 % 16) (n % 64)).1 == own)) && match raw with
    | .putfield i => len == 3 && wGd pl (.fieldLink own i (pT (n / 64 % 16) (n % 64)).1 (pT (n / 64 % 16) (n % 64)).2.1 (pT (n / 64 % 16) (n % 64)).2.2.1)
    | _ => false
  | .iaload => match raw with | .iaload => len == 1 | _ => false
  | .baload => match raw with | .baload => len == 1 | _ => false
  | .laload => match raw with | .laload => len == 1 | _ => false
  | .aaload => match raw with | .aaload => len == 1 | _ => false
  | .iastore => match raw with | .iastore => len == 1 | _ => false
  | .bastore => match raw with | .bastore => len == 1 | _ => false
  | .lastore => match raw with | .lastore => len == 1 | _ => false
  | .aastore => match raw with | .aastore => len == 1 | _ => false
  | .arraylength => match raw with | .arraylength => len == 1 | _ => false
  | .new n => isTg (n / 64) && decide (n % 64 = pNf (n / 64)) && match raw with | .new i => len == 3 && wGd pl (.classLink own i (pC (n / 64))) | _ => false
  | .newarray t => match raw with | .newarray t' => len == 2 && decide (t' = t) && wGd pl (.arrayClass (newarray.typeOf t)) && decide (newarray.typeOf t = pA (tagOf t)) | _ => false
  | .anewarray t => match raw with | .anewarray i => len == 3 && wGd pl (.classLink own i (match t with | 110 => "DreamNets$Sheet" | 111 => "DreamNets$Boat" | _ => "DreamNets$World")) && decide (110 ≤ t) && decide (t ≤ 112) | _ => false
  | .invokestatic m => okM m && pst m && match raw with
    | .invokestatic i => len == 3 && (wGd pl (.methodLink own i (pnm m)) || wNs pl (.methodLinkNest own i (pnm m) "DreamNets"))
    | _ => false
  | .invokespecial m => okM m && !pst m && match raw with
    | .invokespecial i => len == 3 && (((pnm m).name == "<init>" && decide (pret m = none) && (wGd pl (.methodLink own i (pnm m)) || wNs pl (.methodLinkNest own i (pnm m) "DreamNets")))
      || (!((pnm m).name == "<init>") && (supOk own i pl (pnm m))))
    | _ => false
  | .invokevirtual x => match raw with
    | .invokevirtual i => len == 3 && (if 10000 ≤ x then isTg (x / 10000) && okM (x % 10000) && !pst (x % 10000) && decide ((pnm (x % 10000)).cls = pC (x / 10000)) && decide (x % 8 = x % 10000 % 8) && wGd (pmw (x % 10000)).2.2.2 (.selects (pC (x / 10000)) (pnm (x % 10000)) (pnm (x % 10000))) && wGd pl (.methodLink own i (pnm (x % 10000)))
        else wGd pl (.methodLink own i (pxn x)) && (List.range 16).all (fun t => pbsel x t == 0 || okX x t))
    | _ => false
  | .invokedynamic k => match k with
    | 0 => match raw with | .invokestatic i => len == 3 && wGd pl (.methodLink own i arraycopyName) | _ => false
    | 1 => match raw with | .invokevirtual i => len == 3 && wGd pl (.methodLink own i ⟨"java/lang/String", "length", "()I"⟩) | _ => false
    | 2 => match raw with | .invokevirtual i => len == 3 && wGd pl (.methodLink own i ⟨"java/lang/String", "charAt", "(I)C"⟩) | _ => false
    | 3 => match raw with | .invokestatic i => len == 3 && wGd pl (.methodLink own i Lib.Math.max.name) | _ => false
    | 4 => match raw with | .invokestatic i => len == 3 && wGd pl (.methodLink own i Lib.Math.min.name) | _ => false
    | 5 => match raw with | .invokespecial i => len == 3 && wGd pl (.methodLink own i Lib.objectInit) | _ => false
    | _ => false
  | .ireturn => match raw with | .ireturn => len == 1 | _ => false
  | .lreturn => match raw with | .lreturn => len == 1 | _ => false
  | .areturn => match raw with | .areturn => len == 1 | _ => false
  | .return_ => match raw with | .return_ => len == 1 | _ => false
  | _ => false
/-- a block: its instructions stand in the code from pc on -/
def okB (own : String) (ini : Bool) (nL : Nat) (bytes : ByteArray) (pcOf : Nat → Nat) : Nat → List (Instr × Nat × Nat) → List Instr → Bool
  | _, [], [] => true
  | pc, [], [.jsr b] => pcOf b.toNat == pc
  | pc, r :: rs, i :: is => decide (decode bytes pc = .ok (r.1, r.2.1)) && (okI own ini nL pcOf pc r.1 r.2.1 r.2.2 i && okB own ini nL bytes pcOf (pc + r.2.1) rs is)
  | _, _, _ => false
def okMB (m b : Nat) : Bool := okB (pnm m).cls ((pnm m).name == "<init>") (pnl m) (pcd m) (ppc m) (ppc m b) (praw m b) (pblk m b)
def okMs (q : Nat × Nat) : Bool := ppc q.1 0 == 0 && (List.range q.2).all (okMB q.1)
end
