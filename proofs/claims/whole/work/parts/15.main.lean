section
theorem nth_pad : ∀ (n : Nat) (l : List Value) (k : Nat), nth (pad n l) k = nth l k
  | 0, l, k => by simp [pad]
  | n + 1, [], 0 => by simp [pad, nth]
  | n + 1, [], k + 1 => by
    have := nth_pad n [] k
    simp only [pad, nth] at this ⊢
    exact this
  | n + 1, v :: l, 0 => by simp [pad, nth]
  | n + 1, v :: l, k + 1 => by simp [pad, nth, nth_pad n l k]
theorem len_pad : ∀ (n : Nat) (l : List Value), l.length ≤ n → (pad n l).length = n
  | 0, l, h => by simpa [pad] using h
  | n + 1, [], _ => by simp [pad, len_pad n [] (Nat.zero_le _)]
  | n + 1, v :: l, h => by simp [pad, len_pad n l (by simpa using h)]
theorem lay_len (X : CX) : ∀ (a : List Value), (lg_sl (a.map (rnv X))).length = (lay a).length
  | [] => rfl
  | v :: a => by
    have ih := lay_len X a
    unfold lg_sl at ih ⊢
    simp only [List.map_cons, List.flatMap_cons, List.length_append, ih]
    cases v <;> simp [lay, rnv, Value.category] <;> omega
theorem lay_args (X : CX) : ∀ (a : List Value) (i k : Nat), notRet (nth (lay a) k) = true → (i + k, rnv X (nth (lay a) k)) ∈ lv_args i (a.map (rnv X))
  | [], i, k, h => by simp [lay, nth, notRet] at h
  | v :: a, i, k, h => by
    have one : lay (v :: a) = v :: lay a → ¬ (rnv X v).category = 2 → (i + k, rnv X (nth (lay (v :: a)) k)) ∈ lv_args i ((v :: a).map (rnv X)) := by
      intro e hc
      rw [e] at h ⊢
      simp only [List.map_cons, lv_args, if_neg hc]
      cases k with
      | zero => exact List.mem_cons_self
      | succ k =>
        have := lay_args X a (i + 1) k h
        rw [show i + 1 + k = i + (k + 1) by omega] at this
        exact List.mem_cons_of_mem _ this
    have two : lay (v :: a) = v :: .retAddr 0 :: lay a → (rnv X v).category = 2 → (i + k, rnv X (nth (lay (v :: a)) k)) ∈ lv_args i ((v :: a).map (rnv X)) := by
      intro e hc
      rw [e] at h ⊢
      simp only [List.map_cons, lv_args, if_pos hc]
      match k, h with
      | 0, _ => exact List.mem_cons_self
      | 1, h => simp [nth, notRet] at h
      | k + 2, h =>
        have := lay_args X a (i + 2) k h
        rw [show i + 2 + k = i + (k + 2) by omega] at this
        exact List.mem_cons_of_mem _ this
    cases v
    case long => exact two rfl rfl
    case double => exact two rfl rfl
    all_goals exact one rfl (by simp [rnv, Value.category])
theorem entry_LOK {X : CX} {nL : Nat} {a : List Value} {lsM : Array Slot} (hl : (lay a).length ≤ nL) (h : lv_has lsM nL (lv_args 0 (a.map (rnv X)))) : LOK X nL lsM (pad nL (lay a)) := by
  refine ⟨h.1, h.2.1, len_pad _ _ hl, fun k hk => ?_⟩
  rw [nth_pad] at hk ⊢
  have := lay_args X a 0 k hk
  rw [Nat.zero_add] at this
  exact h.2.2 _ this
/-- a list of instructions, from its place on -/
theorem list_sound {X : CX} {KS : CX → State → Prop} {p : Program} {l : Launch} {e : Env} {R : Room} {s : State} {m : MethodId} {args : Array Value} {below : List Frame} {meth : Method} {c : Code} {nL n0 u0 : Nat} {Q : State → Prop} {cc : ByteArray} {own : String} {ini : Bool} {pcOf : Nat → Nat}
    {call : Nat → List Value → PH → (Option Value → PH → Prop) → Prop} {jump : Nat → List Value → List Value → PH → Prop} {fin : Option Value → PH → Prop} {rk : Nat}
    (hx : p.tables.exec = Jvm.exec) (hb : c.code = cc) (hml : c.maxLocals = nL) (hown : s.vm.findClass own = some m.cls) (hts : ∀ w ∈ lw_good, w.before args s = true) (hKU : KU X KS s) (hini : ini = true → meth.name = "<init>")
    (hKS : ∀ u U : State, u.vm = U.vm → KS X u → KS X U) (hKW : ∀ u U : State, u.WarmedH U.vm → KS X u → KS X U) (hSW : StrW X KS) (hR1 : 6 ≤ R.frames) (hR2 : 600 ≤ R.locals)
    (hfit : ∀ is ls st h, wpL call jump fin rk is ls st h → hN h - n0 ≤ R.cells ∧ hU h - u0 ≤ R.slots)
    (hJ : ∀ b ls st h, jump b ls st h → GoW X p l e R s m args below meth c nL n0 u0 Q (pcOf b) ls st h)
    (hC : ∀ m' a g J, okM m' = true → call m' a g J → CallOK X KS l R m' a g J)
    (hE : ∀ r h, fin r h → EndW X p l e R s m args below meth c n0 u0 Q cc rk r h) :
    ∀ (rs : List (Instr × Nat × Nat)) (is : List Instr) (pc : Nat) (ls st : List Value) (h : PH), okB own ini nL cc pcOf pc rs is = true → wpL call jump fin rk is ls st h → GoW X p l e R s m args below meth c nL n0 u0 Q pc ls st h
  | [], is, pc, ls, st, h, ho, H => by
    rcases okB_nil ho with rfl | ⟨b, rfl, rfl⟩
    · exact False.elim H
    · exact hJ _ _ _ _ H
  | r :: rs, is, pc, ls, st, h, ho, H => by
    obtain ⟨i, js, rfl, hd, hoi, hob⟩ := okB_cons ho
    exact step_all (K := wpL call jump fin rk js) hx hb hml hown hts hKU hini hKS hKW hSW hR1 hR2 hd i hoi (hfit _ _ _ _ H)
      (fun ls st h k => list_sound hx hb hml hown hts hKU hini hKS hKW hSW hR1 hR2 hfit hJ hC hE rs js _ ls st h hob k)
      (fun ls st h k => hfit _ _ _ _ k) hJ hC hE H
def SB (X : CX) (KS : CX → State → Prop) (n : Nat) : Prop := ∀ {p : Program} {l : Launch} {e : Env} {R : Room} {s : State} {m : MethodId} {args : Array Value} {below : List Frame} {meth : Method} {c : Code} {n0 u0 : Nat} {Q : State → Prop} (d y b : Nat) (ls st : List Value) (h : PH) (r : Option Value) (hf : PH),
  Ex n d y b ls st h r hf → (y, pnb y) ∈ pids → p.tables.exec = Jvm.exec → c.code = pcd y → c.maxLocals = pnl y → s.vm.findClass (pnm y).cls = some m.cls → (∀ w ∈ lw_good, w.before args s = true) → KU X KS s → (((pnm y).name == "<init>") = true → meth.name = "<init>") →
  d + 6 ≤ R.frames → 100 * (d + 6) ≤ R.locals → hN hf - n0 ≤ R.cells → hU hf - u0 ≤ R.slots → EndW X p l e R s m args below meth c n0 u0 Q (pcd y) (prk y) r hf →
  GoW X p l e R s m args below meth c (pnl y) n0 u0 Q (ppc y b) ls st h
def SM (X : CX) (KS : CX → State → Prop) (n : Nat) : Prop := ∀ (l : Launch) (d y : Nat) (a : List Value) (g : PH) (r : Option Value) (g1 : PH), okM y = true → (lay a).length ≤ pnl y → Ex n d y 0 (pad (pnl y) (lay a)) [] g r g1 →
  Met l (pnm y) (wsOf y) (rmOf d (hN g1 - hN g) (hU g1 - hU g)) (PcOf X KS a g) (QcOf X r g1) (hN g1 - hN g) (hU g1 - hU g) (fun q => xs0 X ≤ q)
theorem okM_pids {y : Nat} (h : okM y = true) : (y, pnb y) ∈ pids ∧ retOk (prk y) (pret y) = true := by
  simp only [okM, Bool.and_eq_true] at h
  obtain ⟨⟨-, h1, h2⟩, -⟩ := h
  exact ⟨by simpa using h2, h1⟩
theorem SB_succ {X : CX} {KS : CX → State → Prop} (hAll : ∀ q ∈ pids, okMs q = true) (hKS : ∀ u U : State, u.vm = U.vm → KS X u → KS X U) (hKW : ∀ u U : State, u.WarmedH U.vm → KS X u → KS X U) (hSW : StrW X KS) {n : Nat} (hB : SB X KS n) (hM : SM X KS n) : SB X KS (n + 1) := by
  intro p l e R s m args below meth c n0 u0 Q d y b ls st h r hf H hy hx hc hml hown hts hKU hini hR1 hR2 hn hu hE
  have hok := hAll _ hy
  unfold Ex at H
  obtain ⟨hb, H⟩ := H
  simp only [okMs, Bool.and_eq_true, List.all_eq_true] at hok
  have hokb := hok.2 b (List.mem_range.mpr hb)
  unfold okMB at hokb
  refine list_sound (R := R) (rk := prk y) hx hc hml hown hts hKU hini hKS hKW hSW (by omega) (by omega) ?_ ?_ ?_ ?_ _ _ _ _ _ _ hokb H
  · intro is ls st g q
    have := wpL_grow (N := hN hf) (U := hU hf) ?_ ?_ ?_ _ _ _ _ q
    · omega
    · rintro m' a g J ⟨d', -, -, r1, g1, h1, h2⟩
      have := Ex_grow _ _ _ _ _ _ _ _ _ h1
      exact ⟨r1, g1, this.1, this.2, h2⟩
    · intro b' ls' st' g q
      exact Ex_grow _ _ _ _ _ _ _ _ _ q
    · rintro r' g ⟨-, rfl⟩
      exact ⟨Nat.le_refl _, Nat.le_refl _⟩
  · intro b' ls' st' g q
    exact hB d y b' ls' st' g r hf q hy hx hc hml hown hts hKU hini hR1 hR2 hn hu hE
  · rintro m' a g J hm' ⟨d', rfl, hl, r1, g1, h1, h2⟩
    have hg := Ex_grow _ _ _ _ _ _ _ _ _ h1
    exact ⟨d', by omega, by omega, r1, g1, hg.1, hg.2, hM l d' m' a g r1 g1 hm' hl h1, h2⟩
  · rintro r' g ⟨rfl, rfl⟩
    exact hE
theorem ret_cases {k : Nat} {r : Option FieldType} (h : retOk k r = true) : (k = 0 → r = none) ∧ (k = 1 → r = some .int) ∧ (k = 2 → r = some .boolean) ∧ (k = 3 → r = some .long) ∧ (k = 4 → ∃ rt, r = some rt ∧ ((∃ n, rt = .object n) ∨ ∃ t, rt = .array t)) := by
  unfold retOk at h
  split at h <;> simp at h <;> subst h <;> simp
theorem SM_of {X : CX} {KS : CX → State → Prop} (hAll : ∀ q ∈ pids, okMs q = true) {n : Nat} (hB : SB X KS n) : SM X KS n := by
  intro l d y a g r g1 hm hl H
  obtain ⟨k1, k2, k3, k4, k5, k6, k7⟩ := okM_spec hm
  obtain ⟨hy, hret⟩ := okM_pids hm
  obtain ⟨rc0, rc1, rc2, rc3, rc4⟩ := ret_cases hret
  have hg := Ex_grow _ _ _ _ _ _ _ _ _ H
  refine Met.ofW (cc := pcd y) (maxL := pnl y) (ret := pret y) k4 rfl ?_
  intro p e s mm args below meth c s₁ B hml hv
  obtain ⟨rfl, hP, hKU⟩ := hv
  have hr := B.returns
  have hlocks := B.notSynchronized
  have hts0 := atoms_spec (ws := wsOf y) B.pre
  have hts : ∀ w ∈ lw_good, w.before (a.map (rnv X)).toArray s = true := fun w hw => hts0 w (List.mem_cons_of_mem _ hw)
  have hown : s.vm.findClass (pnm y).cls = some mm.cls := findClass_of_methodNamed B.named
  have hnm : meth.name = (pnm y).name := (name_of_methodNamed B.named B.method).1
  have hpc : ppc y 0 = 0 := by
    have := hAll _ hy
    simp only [okMs, Bool.and_eq_true, beq_iff_eq] at this
    exact this.1
  have G := hB (p := p) (l := l) (e := e) (R := rmOf d (hN g1 - hN g) (hU g1 - hU g)) (s := s) (m := mm) (args := (a.map (rnv X)).toArray) (below := below) (meth := meth) (c := c) (n0 := hN g) (u0 := hU g) (Q := MQ below (QcOf X r g1) (a.map (rnv X)).toArray s (hN g1 - hN g) (hU g1 - hU g) (fun q => xs0 X ≤ q)) d y 0 _ _ g r g1 H hy B.exec B.bytes hml hown hts hKU (fun z => by rw [hnm]; simpa using z) (Nat.le_refl _) (Nat.le_refl _) (Nat.le_refl _) (Nat.le_refl _) ?_
  · rw [hpc] at G
    rw [lg_entry_eq]
    have hle := lv_entry (a.map (rnv X)) (n := pnl y) (by rw [lay_len]; exact hl)
    generalize (lg_sl (a.map (rnv X)) ++ List.replicate (pnl y - (lg_sl (a.map (rnv X))).length) Slot.unset).toArray = lsM at hle ⊢
    have := G s.heap [] lsM hP (entry_LOK hl hle) (fun q hq => by cases hq) (Nat.le_refl _) (Nat.le_refl _)
    rw [Nat.sub_self, Nat.sub_self] at this
    exact this
  · intro H1 locs lsM pc P1 B1 B2 B3
    refine ⟨fun h1 h2 h3 => ?_, fun x h1 h2 h3 => ?_, fun x h1 h2 h3 => ?_, fun v h1 h2 h3 h4 => ?_⟩
    · subst h1
      exact W.vret B.exec B.bytes (hr.trans (rc0 h2)) (fun t ht _ => ⟨rfl, by rw [ht]; exact P1⟩) B1 h3
    · subst h1
      rcases h2 with h2 | ⟨h2, hx01⟩
      · exact W.iret B.exec B.bytes (hr.trans (rc1 h2)) (fun t ht _ => ⟨rfl, by rw [ht]; exact P1⟩) B1 h3
      · exact W.zret B.exec B.bytes (hr.trans (rc2 h2)) (by rcases hx01 with rfl | rfl <;> rfl) (fun t ht _ => ⟨rfl, by rw [ht]; exact P1⟩) B1 h3
    · subst h1
      exact W.lret B.exec B.bytes (hr.trans (rc3 h2)) (fun t ht _ => ⟨rfl, by rw [ht]; exact P1⟩) B1 h3
    · subst h1
      obtain ⟨rt, e1, e2⟩ := rc4 h2
      exact W.aret B.exec B.bytes (hr.trans e1) e2 (by rcases h3 with rfl | ⟨z, rfl⟩; exact Or.inl rfl; exact Or.inr ⟨_, rfl⟩) (fun t ht _ => ⟨rfl, by rw [ht]; exact P1⟩) B1 h4
/-- THE SECOND MACHINE SPEAKS TRUE OF THE FIRST -/
theorem sound {X : CX} {KS : CX → State → Prop} (hAll : ∀ q ∈ pids, okMs q = true) (hKS : ∀ u U : State, u.vm = U.vm → KS X u → KS X U) (hKW : ∀ u U : State, u.WarmedH U.vm → KS X u → KS X U) (hSW : StrW X KS) : ∀ n, SB X KS n ∧ SM X KS n
  | 0 => ⟨fun _ _ _ _ _ _ _ _ H => False.elim H, fun _ _ _ _ _ _ _ _ _ H => False.elim H⟩
  | n + 1 => by
    have ih := sound hAll hKS hKW hSW n
    refine ⟨?_, ?_⟩
    · exact SB_succ hAll hKS hKW hSW ih.1 ih.2
    · exact SM_of hAll (SB_succ hAll hKS hKW hSW ih.1 ih.2)
end
