section
/-! A second machine, of numbers alone: its cells are numbered, it has ints, longs and references apart. 'wpL' says what must hold ahead of a list of instructions (resolved by program: places in blocks, fields by class and place, methods by number). -/
abbrev PH : Type := (Nat × Nat) × (Nat → Nat × Nat) × (Nat → Nat → Int32) × (Nat → Nat → Int64) × (Nat → Nat → Option Nat)
def hN (h : PH) : Nat := h.1.1
def hU (h : PH) : Nat := h.1.2
def hT (h : PH) (a : Nat) : Nat := (h.2.1 a).1
def hL (h : PH) (a : Nat) : Nat := (h.2.1 a).2
def hI (h : PH) (a k : Nat) : Int32 := h.2.2.1 a k
def hJ (h : PH) (a k : Nat) : Int64 := h.2.2.2.1 a k
def hR (h : PH) (a k : Nat) : Option Nat := h.2.2.2.2 a k
def up2 {α : Type} (f : Nat → Nat → α) (a k : Nat) (x : α) : Nat → Nat → α := fun b j => if b = a ∧ j = k then x else f b j
def sI (h : PH) (a k : Nat) (x : Int32) : PH := (h.1, h.2.1, up2 h.2.2.1 a k x, h.2.2.2.1, h.2.2.2.2)
def sJ (h : PH) (a k : Nat) (x : Int64) : PH := (h.1, h.2.1, h.2.2.1, up2 h.2.2.2.1 a k x, h.2.2.2.2)
def sR (h : PH) (a k : Nat) (x : Option Nat) : PH := (h.1, h.2.1, h.2.2.1, h.2.2.2.1, up2 h.2.2.2.2 a k x)
def cpI (h : PH) (src sp dst dp n : Nat) : PH := (h.1, h.2.1, (fun b j => if b = dst ∧ dp ≤ j ∧ j < dp + n then h.2.2.1 src (sp + (j - dp)) else h.2.2.1 b j), h.2.2.2.1, h.2.2.2.2)
/-- a new cell, of a kind, of a size -/
def nC (h : PH) (t n : Nat) : PH := ((h.1.1 + 1, h.1.2 + n), (fun b => if b = h.1.1 then (t, n) else h.2.1 b), (fun b j => if b = h.1.1 then 0 else h.2.2.1 b j), (fun b j => if b = h.1.1 then 0 else h.2.2.2.1 b j), (fun b j => if b = h.1.1 then none else h.2.2.2.2 b j))
def rfP (r : Option Nat) : Value := match r with | none => .null | some a => .ref a
def nth : List Value → Nat → Value
  | [], _ => .retAddr 0
  | v :: _, 0 => v
  | _ :: l, n + 1 => nth l n
def setN : List Value → Nat → Value → List Value
  | [], _, _ => []
  | _ :: l, 0, v => v :: l
  | w :: l, n + 1, v => w :: setN l n v
/-- no long just ahead of place k -/
def noLong : List Value → Nat → Bool
  | _, 0 => true
  | ls, k + 1 => match nth ls k with | .long _ => false | .double _ => false | _ => true
def lay : List Value → List Value
  | [] => []
  | .long x :: l => .long x :: .retAddr 0 :: lay l
  | .double x :: l => .double x :: .retAddr 0 :: lay l
  | v :: l => v :: lay l
def pad : Nat → List Value → List Value
  | 0, l => l
  | n + 1, [] => .retAddr 0 :: pad n []
  | n + 1, v :: l => v :: pad n l
def isIA (t : Nat) : Bool := t == 100 || t == 120
def inb (i : Int32) (n : Nat) : Prop := 0 ≤ i ∧ i.toNatClampNeg < n
def tagOf (t : ArrayType) : Nat := match t with | .int => 100 | .boolean => 101 | .long => 102 | _ => 0
def takeR : Nat → List Value → List Value → List Value
  | 0, _, acc => acc
  | _ + 1, [], acc => acc
  | n + 1, v :: l, acc => takeR n l (v :: acc)
def dropN : Nat → List Value → List Value
  | 0, l => l
  | _ + 1, [] => []
  | n + 1, _ :: l => dropN n l
/-- what a field is: 0 an int, 1 a long, 2 a reference, 3 a boolean -/
def okV (v : Value) : Bool := match v with | .int _ => true | .ref _ => true | _ => false
def okStack (l : List Value) : Bool := match l with
  | _ :: _ :: _ :: _ :: _ :: _ :: _ => false
  | [a, b, c, d, e] => okV a && (okV b && (okV c && (okV d && okV e)))
  | _ => true
def pvsel (x t : Nat) : Nat := if 10000 ≤ x then x % 10000 else pbsel x t
def pvok (x t : Nat) : Bool := if 10000 ≤ x then t == x / 10000 else Nat.blt t 16 && Nat.blt 0 (pbsel x t)
def wpI (call : Nat → List Value → PH → (Option Value → PH → Prop) → Prop) (jump : Nat → List Value → List Value → PH → Prop) (fin : Option Value → PH → Prop) (rk : Nat)
    (i : Instr) (K : List Value → List Value → PH → Prop) (ls st : List Value) (h : PH) : Prop :=
  match i with
  | .ldc_w n => K ls (.int (nI n) :: st) h
  | .iconst v => K ls (.int (Int32.ofInt v) :: st) h
  | .ldc2_w n => K ls (.long (lN n) :: st) h
  | .jsr_w v => K ls (.long (Int64.ofInt v) :: st) h
  | .ldc k => hT h k = 130 ∧ K ls (.ref k :: st) h
  | .getstatic k => hT h k = 120 ∧ K ls (.ref k :: st) h
  | .aconst_null => K ls (.null :: st) h
  | .iload k => match nth ls k with | .int x => K ls (.int x :: st) h | _ => False
  | .lload k => match nth ls k with | .long x => K ls (.long x :: st) h | _ => False
  | .aload k => match nth ls k with | .ref x => K ls (.ref x :: st) h | .null => K ls (.null :: st) h | _ => False
  | .istore k => match st with | .int x :: st' => noLong ls k = true ∧ K (setN ls k (.int x)) st' h | _ => False
  | .astore k => match st with | .ref x :: st' => noLong ls k = true ∧ K (setN ls k (.ref x)) st' h | .null :: st' => noLong ls k = true ∧ K (setN ls k .null) st' h | _ => False
  | .lstore k => match st with | .long x :: st' => noLong ls k = true ∧ K (setN (setN ls k (.long x)) (k + 1) (.retAddr 0)) st' h | _ => False
  | .iinc k c => match nth ls k with | .int x => noLong ls k = true ∧ K (setN ls k (.int (x + Int32.ofInt c))) st h | _ => False
  | .iadd => match st with | .int y :: .int x :: st' => K ls (.int (x + y) :: st') h | _ => False
  | .isub => match st with | .int y :: .int x :: st' => K ls (.int (x - y) :: st') h | _ => False
  | .imul => match st with | .int y :: .int x :: st' => K ls (.int (x * y) :: st') h | _ => False
  | .iand => match st with | .int y :: .int x :: st' => K ls (.int (x &&& y) :: st') h | _ => False
  | .ior => match st with | .int y :: .int x :: st' => K ls (.int (x ||| y) :: st') h | _ => False
  | .ixor => match st with | .int y :: .int x :: st' => K ls (.int (x ^^^ y) :: st') h | _ => False
  | .idiv => match st with | .int y :: .int x :: st' => ¬ y = 0 ∧ K ls (.int (x / y) :: st') h | _ => False
  | .irem => match st with | .int y :: .int x :: st' => ¬ y = 0 ∧ K ls (.int (x - x / y * y) :: st') h | _ => False
  | .ishl => match st with | .int y :: .int x :: st' => K ls (.int (x <<< (y &&& 31)) :: st') h | _ => False
  | .ishr => match st with | .int y :: .int x :: st' => K ls (.int (x >>> (y &&& 31)) :: st') h | _ => False
  | .iushr => match st with | .int y :: .int x :: st' => K ls (.int (UInt32.toInt32 (x.toUInt32 >>> (y &&& 31).toUInt32)) :: st') h | _ => False
  | .ladd => match st with | .long y :: .long x :: st' => K ls (.long (x + y) :: st') h | _ => False
  | .lsub => match st with | .long y :: .long x :: st' => K ls (.long (x - y) :: st') h | _ => False
  | .lmul => match st with | .long y :: .long x :: st' => K ls (.long (x * y) :: st') h | _ => False
  | .land => match st with | .long y :: .long x :: st' => K ls (.long (x &&& y) :: st') h | _ => False
  | .lor => match st with | .long y :: .long x :: st' => K ls (.long (x ||| y) :: st') h | _ => False
  | .ldiv => match st with | .long y :: .long x :: st' => ¬ y = 0 ∧ K ls (.long (x / y) :: st') h | _ => False
  | .lrem => match st with | .long y :: .long x :: st' => ¬ y = 0 ∧ K ls (.long (x - x / y * y) :: st') h | _ => False
  | .lshl => match st with | .int y :: .long x :: st' => K ls (.long (x <<< (y.toInt64 &&& 63)) :: st') h | _ => False
  | .lshr => match st with | .int y :: .long x :: st' => K ls (.long (x >>> (y.toInt64 &&& 63)) :: st') h | _ => False
  | .lushr => match st with | .int y :: .long x :: st' => K ls (.long (UInt64.toInt64 (x.toUInt64 >>> (y.toInt64 &&& 63).toUInt64)) :: st') h | _ => False
  | .lcmp => match st with | .long y :: .long x :: st' => K ls (.int (lg_cmp x y) :: st') h | _ => False
  | .i2l => match st with | .int x :: st' => K ls (.long x.toInt64 :: st') h | _ => False
  | .l2i => match st with | .long x :: st' => K ls (.int x.toInt32 :: st') h | _ => False
  | .i2b => match st with | .int x :: st' => K ls (.int x.toInt8.toInt32 :: st') h | _ => False
  | .i2s => match st with | .int x :: st' => K ls (.int x.toInt16.toInt32 :: st') h | _ => False
  | .dup => match st with | .int x :: st' => K ls (.int x :: .int x :: st') h | .ref x :: st' => K ls (.ref x :: .ref x :: st') h | .null :: st' => K ls (.null :: .null :: st') h | _ => False
  | .dup2 => match st with | .int y :: .ref x :: st' => K ls (.int y :: .ref x :: .int y :: .ref x :: st') h | .long x :: st' => K ls (.long x :: .long x :: st') h | _ => False
  | .pop => match st with | .int _ :: st' => K ls st' h | .ref _ :: st' => K ls st' h | .null :: st' => K ls st' h | _ => False
  | .goto b => jump b.toNat ls st h
  | .jsr b => jump b.toNat ls st h
  | .if_icmp c b => match c with
    | .eq => match st with | .int y :: .int x :: st' => if x = y then jump b.toNat ls st' h else K ls st' h | _ => False
    | .ne => match st with | .int y :: .int x :: st' => if x = y then K ls st' h else jump b.toNat ls st' h | _ => False
    | .lt => match st with | .int y :: .int x :: st' => if x < y then jump b.toNat ls st' h else K ls st' h | _ => False
    | .ge => match st with | .int y :: .int x :: st' => if y ≤ x then jump b.toNat ls st' h else K ls st' h | _ => False
    | .gt => match st with | .int y :: .int x :: st' => if y < x then jump b.toNat ls st' h else K ls st' h | _ => False
    | .le => match st with | .int y :: .int x :: st' => if x ≤ y then jump b.toNat ls st' h else K ls st' h | _ => False
  | .ifCond c b => match c with
    | .eq => match st with | .int x :: st' => if x = 0 then jump b.toNat ls st' h else K ls st' h | _ => False
    | .ne => match st with | .int x :: st' => if x = 0 then K ls st' h else jump b.toNat ls st' h | _ => False
    | .lt => match st with | .int x :: st' => if x < 0 then jump b.toNat ls st' h else K ls st' h | _ => False
    | .ge => match st with | .int x :: st' => if 0 ≤ x then jump b.toNat ls st' h else K ls st' h | _ => False
    | .gt => match st with | .int x :: st' => if 0 < x then jump b.toNat ls st' h else K ls st' h | _ => False
    | .le => match st with | .int x :: st' => if x ≤ 0 then jump b.toNat ls st' h else K ls st' h | _ => False
  | .ifnull b => match st with | .null :: st' => jump b.toNat ls st' h | .ref _ :: st' => K ls st' h | _ => False
  | .ifnonnull b => match st with | .ref _ :: st' => jump b.toNat ls st' h | .null :: st' => K ls st' h | _ => False
  | .tableswitch d lo hi offs => match st with
    | .int x :: st' => if x.toInt < lo ∨ hi < x.toInt then jump d.toNat ls st' h else jump (offs.getD (x.toInt - lo).toNat 0).toNat ls st' h
    | _ => False
  | .getfield n => match st with
    | .ref a :: st' => hT h a = n / 64 % 16 ∧ match n / 1024 with | 1 => K ls (.long (hJ h a (n % 64)) :: st') h | 2 => K ls (rfP (hR h a (n % 64)) :: st') h | _ => K ls (.int (hI h a (n % 64)) :: st') h
    | _ => False
  | .putfield n => match st with
    | .int x :: .ref a :: st' => hT h a = n / 64 % 16 ∧ (n / 1024 = 0 ∨ n / 1024 = 3 ∧ (x = 0 ∨ x = 1)) ∧ K ls st' (sI h a (n % 64) x)
    | .long x :: .ref a :: st' => hT h a = n / 64 % 16 ∧ n / 1024 = 1 ∧ K ls st' (sJ h a (n % 64) x)
    | .null :: .ref a :: st' => hT h a = n / 64 % 16 ∧ n / 1024 = 2 ∧ K ls st' (sR h a (n % 64) none)
    | .ref b :: .ref a :: st' => hT h a = n / 64 % 16 ∧ n / 1024 = 2 ∧ K ls st' (sR h a (n % 64) (some b))
    | _ => False
  | .iaload => match st with | .int i :: .ref a :: st' => isIA (hT h a) = true ∧ inb i (hL h a) ∧ K ls (.int (hI h a i.toNatClampNeg) :: st') h | _ => False
  | .baload => match st with | .int i :: .ref a :: st' => hT h a = 101 ∧ inb i (hL h a) ∧ K ls (.int (hI h a i.toNatClampNeg) :: st') h | _ => False
  | .laload => match st with | .int i :: .ref a :: st' => hT h a = 102 ∧ inb i (hL h a) ∧ K ls (.long (hJ h a i.toNatClampNeg) :: st') h | _ => False
  | .aaload => match st with | .int i :: .ref a :: st' => 110 ≤ hT h a ∧ hT h a < 120 ∧ inb i (hL h a) ∧ K ls (rfP (hR h a i.toNatClampNeg) :: st') h | _ => False
  | .arraylength => match st with | .ref a :: st' => 100 ≤ hT h a ∧ hT h a ≤ 120 ∧ K ls (.int (nI (hL h a)) :: st') h | _ => False
  | .iastore => match st with | .int x :: .int i :: .ref a :: st' => hT h a = 100 ∧ inb i (hL h a) ∧ K ls st' (sI h a i.toNatClampNeg x) | _ => False
  | .bastore => match st with | .int x :: .int i :: .ref a :: st' => hT h a = 101 ∧ (x = 0 ∨ x = 1) ∧ inb i (hL h a) ∧ K ls st' (sI h a i.toNatClampNeg x) | _ => False
  | .lastore => match st with | .long x :: .int i :: .ref a :: st' => hT h a = 102 ∧ inb i (hL h a) ∧ K ls st' (sJ h a i.toNatClampNeg x) | _ => False
  | .aastore => match st with
    | .null :: .int i :: .ref a :: st' => 110 ≤ hT h a ∧ hT h a < 120 ∧ inb i (hL h a) ∧ K ls st' (sR h a i.toNatClampNeg none)
    | .ref b :: .int i :: .ref a :: st' => (hT h a = 110 ∧ hT h b = 8 ∨ hT h a = 111 ∧ 2 ≤ hT h b ∧ (hT h b ≤ 5 ∨ hT h b = 7 ∨ hT h b = 10) ∨ hT h a = 112 ∧ hT h b = 11) ∧ inb i (hL h a) ∧ K ls st' (sR h a i.toNatClampNeg (some b))
    | _ => False
  | .new n => 1 ≤ n / 64 ∧ n / 64 ≤ 13 ∧ K ls (.ref (hN h) :: st) (nC h (n / 64) (n % 64))
  | .newarray t => match st with | .int n :: st' => 0 ≤ n ∧ n.toNatClampNeg ≤ 1000 ∧ tagOf t ≠ 0 ∧ K ls (.ref (hN h) :: st') (nC h (tagOf t) n.toNatClampNeg) | _ => False
  | .anewarray t => match st with | .int n :: st' => 0 ≤ n ∧ n.toNatClampNeg ≤ 1000 ∧ 110 ≤ t ∧ t ≤ 112 ∧ K ls (.ref (hN h) :: st') (nC h t n.toNatClampNeg) | _ => False
  | .invokestatic m => (m % 8) ≤ st.length ∧ okStack (dropN (m % 8) st) = true ∧ call m (takeR (m % 8) st []) h (fun r h1 => K ls (r.toList ++ dropN (m % 8) st) h1)
  | .invokespecial m => match dropN (m % 8) st with
    | .ref a :: st' => (1 ≤ hT h a ∧ hT h a ≤ 13) ∧ okStack st' = true ∧ call m (.ref a :: takeR (m % 8) st []) h (fun r h1 => K ls (r.toList ++ st') h1)
    | _ => False
  | .invokevirtual x => match dropN (x % 8) st with
    | .ref a :: st' => pvok x (hT h a) = true ∧ okStack st' = true ∧ call (pvsel x (hT h a)) (.ref a :: takeR (x % 8) st []) h (fun r h1 => K ls (r.toList ++ st') h1)
    | _ => False
  | .invokedynamic k => match k with
    | 0 => match st with
      | .int n :: .int dp :: .ref dst :: .int sp :: .ref src :: st' => isIA (hT h src) = true ∧ hT h dst = 100 ∧ 0 ≤ n ∧ 0 ≤ dp ∧ 0 ≤ sp ∧ sp.toNatClampNeg + n.toNatClampNeg ≤ hL h src ∧ dp.toNatClampNeg + n.toNatClampNeg ≤ hL h dst ∧ okStack st' = true ∧ K ls st' (cpI h src sp.toNatClampNeg dst dp.toNatClampNeg n.toNatClampNeg)
      | _ => False
    | 1 => match st with | .ref a :: st' => hT h a = 130 ∧ okStack st' = true ∧ K ls (.int (nI (hL h a)) :: st') h | _ => False
    | 2 => match st with | .int i :: .ref a :: st' => hT h a = 130 ∧ inb i (hL h a) ∧ okStack st' = true ∧ K ls (.int (hI h a i.toNatClampNeg) :: st') h | _ => False
    | 3 => match st with | .int y :: .int x :: st' => okStack st' = true ∧ K ls (.int (if x < y then y else x) :: st') h | _ => False
    | 4 => match st with | .int y :: .int x :: st' => okStack st' = true ∧ K ls (.int (if y < x then y else x) :: st') h | _ => False
    | 5 => match st with | .ref _ :: st' => okStack st' = true ∧ K ls st' h | _ => False
    | _ => False
  | .ireturn => match st with | [.int x] => (rk = 1 ∨ rk = 2 ∧ (x = 0 ∨ x = 1)) ∧ fin (some (.int x)) h | _ => False
  | .lreturn => match st with | [.long x] => rk = 3 ∧ fin (some (.long x)) h | _ => False
  | .areturn => match st with | [.ref x] => rk = 4 ∧ fin (some (.ref x)) h | [.null] => rk = 4 ∧ fin (some .null) h | _ => False
  | .return_ => match st with | [] => rk = 0 ∧ fin none h | _ => False
  | _ => False
end
