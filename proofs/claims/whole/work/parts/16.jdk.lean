section
/-! the JDK's own methods on the constants' texts, walked with the kit's rows -/
def jy_length : MethodName := ⟨"java/lang/String", "length", "()I"⟩
theorem jd_length_0 : decode prog_17_method_54_code 0 = .ok (.aload_n 0, 1) := by decide +kernel
theorem jd_length_1 : decode prog_17_method_54_code 1 = .ok (.getfield 9, 3) := by decide +kernel
theorem jd_length_4 : decode prog_17_method_54_code 4 = .ok (.arraylength, 1) := by decide +kernel
theorem jd_length_5 : decode prog_17_method_54_code 5 = .ok (.aload_n 0, 1) := by decide +kernel
theorem jd_length_6 : decode prog_17_method_54_code 6 = .ok (.invokevirtual 335, 3) := by decide +kernel
theorem jd_length_9 : decode prog_17_method_54_code 9 = .ok (.ishr, 1) := by decide +kernel
theorem jd_length_10 : decode prog_17_method_54_code 10 = .ok (.ireturn, 1) := by decide +kernel
def jy_coder : MethodName := ⟨"java/lang/String", "coder", "()B"⟩
theorem jd_coder_0 : decode prog_17_method_152_code 0 = .ok (.getstatic 38, 3) := by decide +kernel
theorem jd_coder_3 : decode prog_17_method_152_code 3 = .ok (.ifCond .eq 10, 3) := by decide +kernel
theorem jd_coder_6 : decode prog_17_method_152_code 6 = .ok (.aload_n 0, 1) := by decide +kernel
theorem jd_coder_7 : decode prog_17_method_152_code 7 = .ok (.getfield 15, 3) := by decide +kernel
theorem jd_coder_10 : decode prog_17_method_152_code 10 = .ok (.goto 4, 3) := by decide +kernel
theorem jd_coder_13 : decode prog_17_method_152_code 13 = .ok (.iconst 1, 1) := by decide +kernel
theorem jd_coder_14 : decode prog_17_method_152_code 14 = .ok (.ireturn, 1) := by decide +kernel
def jy_charAt : MethodName := ⟨"java/lang/String", "charAt", "(I)C"⟩
theorem jd_charAt_0 : decode prog_17_method_56_code 0 = .ok (.aload_n 0, 1) := by decide +kernel
theorem jd_charAt_1 : decode prog_17_method_56_code 1 = .ok (.invokevirtual 492, 3) := by decide +kernel
theorem jd_charAt_4 : decode prog_17_method_56_code 4 = .ok (.ifCond .eq 12, 3) := by decide +kernel
theorem jd_charAt_7 : decode prog_17_method_56_code 7 = .ok (.aload_n 0, 1) := by decide +kernel
theorem jd_charAt_8 : decode prog_17_method_56_code 8 = .ok (.getfield 9, 3) := by decide +kernel
theorem jd_charAt_11 : decode prog_17_method_56_code 11 = .ok (.iload_n 1, 1) := by decide +kernel
theorem jd_charAt_12 : decode prog_17_method_56_code 12 = .ok (.invokestatic 495, 3) := by decide +kernel
theorem jd_charAt_15 : decode prog_17_method_56_code 15 = .ok (.ireturn, 1) := by decide +kernel
theorem jd_charAt_16 : decode prog_17_method_56_code 16 = .ok (.aload_n 0, 1) := by decide +kernel
theorem jd_charAt_17 : decode prog_17_method_56_code 17 = .ok (.getfield 9, 3) := by decide +kernel
theorem jd_charAt_20 : decode prog_17_method_56_code 20 = .ok (.iload_n 1, 1) := by decide +kernel
theorem jd_charAt_21 : decode prog_17_method_56_code 21 = .ok (.invokestatic 498, 3) := by decide +kernel
theorem jd_charAt_24 : decode prog_17_method_56_code 24 = .ok (.ireturn, 1) := by decide +kernel
def jy_isLatin1 : MethodName := ⟨"java/lang/String", "isLatin1", "()Z"⟩
theorem jd_isLatin1_0 : decode prog_17_method_154_code 0 = .ok (.getstatic 38, 3) := by decide +kernel
theorem jd_isLatin1_3 : decode prog_17_method_154_code 3 = .ok (.ifCond .eq 14, 3) := by decide +kernel
theorem jd_isLatin1_6 : decode prog_17_method_154_code 6 = .ok (.aload_n 0, 1) := by decide +kernel
theorem jd_isLatin1_7 : decode prog_17_method_154_code 7 = .ok (.getfield 15, 3) := by decide +kernel
theorem jd_isLatin1_10 : decode prog_17_method_154_code 10 = .ok (.ifCond .ne 7, 3) := by decide +kernel
theorem jd_isLatin1_13 : decode prog_17_method_154_code 13 = .ok (.iconst 1, 1) := by decide +kernel
theorem jd_isLatin1_14 : decode prog_17_method_154_code 14 = .ok (.goto 4, 3) := by decide +kernel
theorem jd_isLatin1_17 : decode prog_17_method_154_code 17 = .ok (.iconst 0, 1) := by decide +kernel
theorem jd_isLatin1_18 : decode prog_17_method_154_code 18 = .ok (.ireturn, 1) := by decide +kernel
def jy_sCheck : MethodName := ⟨"java/lang/String", "checkIndex", "(II)V"⟩
theorem jd_sCheck_0 : decode prog_17_method_155_code 0 = .ok (.iload_n 0, 1) := by decide +kernel
theorem jd_sCheck_1 : decode prog_17_method_155_code 1 = .ok (.iload_n 1, 1) := by decide +kernel
theorem jd_sCheck_2 : decode prog_17_method_155_code 2 = .ok (.getstatic 1053, 3) := by decide +kernel
theorem jd_sCheck_5 : decode prog_17_method_155_code 5 = .ok (.invokestatic 1059, 3) := by decide +kernel
theorem jd_sCheck_8 : decode prog_17_method_155_code 8 = .ok (.pop, 1) := by decide +kernel
theorem jd_sCheck_9 : decode prog_17_method_155_code 9 = .ok (.return_, 1) := by decide +kernel
def jy_lCharAt : MethodName := ⟨"java/lang/StringLatin1", "charAt", "([BI)C"⟩
theorem jd_lCharAt_0 : decode prog_18_method_2_code 0 = .ok (.iload_n 1, 1) := by decide +kernel
theorem jd_lCharAt_1 : decode prog_18_method_2_code 1 = .ok (.aload_n 0, 1) := by decide +kernel
theorem jd_lCharAt_2 : decode prog_18_method_2_code 2 = .ok (.arraylength, 1) := by decide +kernel
theorem jd_lCharAt_3 : decode prog_18_method_2_code 3 = .ok (.invokestatic 9, 3) := by decide +kernel
theorem jd_lCharAt_6 : decode prog_18_method_2_code 6 = .ok (.aload_n 0, 1) := by decide +kernel
theorem jd_lCharAt_7 : decode prog_18_method_2_code 7 = .ok (.iload_n 1, 1) := by decide +kernel
theorem jd_lCharAt_8 : decode prog_18_method_2_code 8 = .ok (.baload, 1) := by decide +kernel
theorem jd_lCharAt_9 : decode prog_18_method_2_code 9 = .ok (.sipush 255, 3) := by decide +kernel
theorem jd_lCharAt_12 : decode prog_18_method_2_code 12 = .ok (.iand, 1) := by decide +kernel
theorem jd_lCharAt_13 : decode prog_18_method_2_code 13 = .ok (.i2c, 1) := by decide +kernel
theorem jd_lCharAt_14 : decode prog_18_method_2_code 14 = .ok (.ireturn, 1) := by decide +kernel
def jy_pCheck : MethodName := ⟨"jdk/internal/util/Preconditions", "checkIndex", "(IILjava/util/function/BiFunction;)I"⟩
theorem jd_pCheck_0 : decode prog_21_method_11_code 0 = .ok (.iload_n 0, 1) := by decide +kernel
theorem jd_pCheck_1 : decode prog_21_method_11_code 1 = .ok (.ifCond .lt 8, 3) := by decide +kernel
theorem jd_pCheck_4 : decode prog_21_method_11_code 4 = .ok (.iload_n 0, 1) := by decide +kernel
theorem jd_pCheck_5 : decode prog_21_method_11_code 5 = .ok (.iload_n 1, 1) := by decide +kernel
theorem jd_pCheck_6 : decode prog_21_method_11_code 6 = .ok (.if_icmp .lt 10, 3) := by decide +kernel
theorem jd_pCheck_9 : decode prog_21_method_11_code 9 = .ok (.aload_n 2, 1) := by decide +kernel
theorem jd_pCheck_10 : decode prog_21_method_11_code 10 = .ok (.iload_n 0, 1) := by decide +kernel
theorem jd_pCheck_11 : decode prog_21_method_11_code 11 = .ok (.iload_n 1, 1) := by decide +kernel
theorem jd_pCheck_12 : decode prog_21_method_11_code 12 = .ok (.invokestatic 95, 3) := by decide +kernel
theorem jd_pCheck_15 : decode prog_21_method_11_code 15 = .ok (.athrow, 1) := by decide +kernel
theorem jd_pCheck_16 : decode prog_21_method_11_code 16 = .ok (.iload_n 0, 1) := by decide +kernel
theorem jd_pCheck_17 : decode prog_21_method_11_code 17 = .ok (.ireturn, 1) := by decide +kernel
def jwords : List Cond := [.code jy_length prog_17_method_54_code 1 (some .int), .code jy_coder prog_17_method_152_code 1 (some .byte), .code jy_charAt prog_17_method_56_code 2 (some .char), .code jy_isLatin1 prog_17_method_154_code 1 (some .boolean), .code jy_sCheck prog_17_method_155_code 2 none, .code jy_lCharAt prog_18_method_2_code 2 (some .char), .code jy_pCheck prog_21_method_11_code 3 (some .int), .initialized "java/lang/String", .initialized "java/lang/StringLatin1", .initialized "jdk/internal/util/Preconditions", .fieldLink "java/lang/String" 9 "java/lang/String" "value" "[B", .methodLink "java/lang/String" 335 jy_coder, .instanceMethod jy_coder, .selects "java/lang/String" jy_coder jy_coder, .fieldLink "java/lang/String" 38 "java/lang/String" "COMPACT_STRINGS" "Z", .fieldLink "java/lang/String" 15 "java/lang/String" "coder" "B", .methodLink "java/lang/String" 492 jy_isLatin1, .instanceMethod jy_isLatin1, .selects "java/lang/String" jy_isLatin1 jy_isLatin1, .methodLink "java/lang/String" 495 jy_lCharAt, .static jy_lCharAt, .methodLink "java/lang/StringLatin1" 9 jy_sCheck, .static jy_sCheck, .fieldLink "java/lang/String" 1053 "jdk/internal/util/Preconditions" "SIOOBE_FORMATTER" "Ljava/util/function/BiFunction;", .methodLink "java/lang/String" 1059 jy_pCheck, .static jy_pCheck, .instanceMethod jy_length, .selects "java/lang/String" jy_length jy_length, .instanceMethod jy_charAt, .selects "java/lang/String" jy_charAt jy_charAt]
theorem jwords_ok : jwords.all (fun w => lw_good.contains w) = true := by decide +kernel
theorem jword {w : Cond} (h : w ∈ jwords) : w ∈ lw_good := by
  have := List.all_eq_true.mp jwords_ok w h
  simpa using this
theorem jw (k : Nat) {w : Cond} (h : jwords[k]? = some w) : w ∈ lw_good := jword (List.mem_of_getElem? h)
def slen : List Nat := (List.range 18).map (fun i => (pStr (10 + i)).length)
def sbyt : List (List Int32) := (List.range 18).map (fun i => (pStr (10 + i)).toList.map (fun c => nI c.toNat))
/-- what is known of the constants' texts -/
def KSt (X : CX) (U : State) : Prop :=
  (∃ adV : Nat → Nat, vk_S 18 slen sbyt (fun i => xo X (10 + i)) adV (fun q => xs0 X ≤ q) U (xH X)) ∧
  (∀ i k, 10 ≤ k → k < 28 → Cond.stringRef "DreamNets$Tape" i (pStr k) ∈ lw_tbl → vk_R "DreamNets$Tape" i (pStr k) (xo X k) U) ∧
  va_Z "java/lang/String" "COMPACT_STRINGS" "Z" (.int 1) (fun q => xs0 X ≤ q) U (xH X) ∧
  va_Zq "jdk/internal/util/Preconditions" "SIOOBE_FORMATTER" "Ljava/util/function/BiFunction;" (fun q => xs0 X ≤ q) U (xH X) ∧
  (∀ k, k < 100 → hT (xh X) k = 130 → 10 ≤ k ∧ k < 28 ∧ hL (xh X) k = slen.getD (k - 10) 0 ∧ ∀ j, j < hL (xh X) k → hI (xh X) k j = (sbyt.getD (k - 10) []).getD j 0) ∧ (xH X).size = xs0 X
theorem KSt.alike {X : CX} {u U : State} (hA : u.vm.Alike U.vm) (hR : ∀ i k a, vk_R "DreamNets$Tape" i (pStr k) a u → vk_R "DreamNets$Tape" i (pStr k) a U) (h : KSt X u) : KSt X U := by
  obtain ⟨⟨adV, h1⟩, h2, h3, h4, h5, h6⟩ := h
  exact ⟨⟨adV, h1.moved hA⟩, fun i k a b w => hR _ _ _ (h2 i k a b w), h3.moved hA, h4.moved hA, h5, h6⟩
theorem KSt.same {X : CX} : ∀ u U : State, u.vm = U.vm → KSt X u → KSt X U := fun u U hv h => h.alike (by rw [hv]; exact Vm.Alike.refl _) (fun _ _ _ q => q.same hv.symm)
theorem KSt.warm {X : CX} : ∀ u U : State, u.WarmedH U.vm → KSt X u → KSt X U := fun u U hW h => h.alike hW.alike (fun _ _ _ q => q.warm hW)
def AgH (X : CX) (H : Heap) : Prop := ∀ q : Nat, q < xs0 X → H[q]? = (xH X)[q]?
def PcJ (X : CX) (as : List Value) : Array Value → State → Prop := fun v U => v = as.toArray ∧ KSt X U ∧ AgH X U.heap
def QcJ (r : Option Value) : Array Value → State → Outcome → State → Prop := fun _ st o t => o = .returned r ∧ t.heap = st.heap
def rmJ (d : Nat) : Room := { frames := d, cells := 0, slots := 0, locals := 100 * d }
theorem blindJ {X : CX} {as : List Value} : FrameBlind (PcJ X as) := fun a' U g' mk h => ⟨h.1, KSt.same U (U.calling g' mk a') rfl h.2.1, h.2.2⟩
theorem afterJ {p : Program} {l : Launch} {e : Env} {R : Room} {s : State} {m : MethodId} {args : Array Value} {below : List Frame} {meth : Method} {c : Code} {H : Heap} {locs : List Loc} {cells slots : Nat} {Q : State → Prop} {pc : Nat} {ls : Array Slot} {st0 rest : List Value} {r : Option Value} {a : Array Value}
    (hr : va_Run p l e R s m args below meth c H locs cells slots 0 0 (F0 m pc ls st0) rest (QcJ r a) (fun _ => False)) (kk : W p l e R s m args below meth c H locs cells slots Q (F0 m (pc + 3) ls (r.toList ++ rest))) : W p l e R s m args below meth c H locs cells slots Q (F0 m pc ls st0) := by
  intro T hT X0
  obtain ⟨v, st₀, t, T', L, h0, X', hL, e1, e2, hq, st⟩ := hr T hT X0
  obtain ⟨hv, hh⟩ := hq
  have hv : v = r := by cases hv; rfl
  have hL0 : L = [] := by
    cases L with
    | nil => rfl
    | cons q L => exact absurd (hL q List.mem_cons_self) (fun z => z)
  subst hL0 hv
  rw [List.append_nil] at X'
  obtain ⟨t', a1, b1⟩ := kk T' (by rw [e1, hh, h0]) X'
  exact ⟨t', st t' a1, b1⟩
theorem callJ {R : Room} {s : State} {args : Array Value} {own : String} {i d n mL : Nat} {y : MethodName} {b : ByteArray} {ret : Option FieldType} (hts : ∀ w ∈ lw_good, w.before args s = true) (hc : Cond.code y b mL ret ∈ lw_good) (hi : Cond.initialized y.cls ∈ lw_good) (hl : Cond.methodLink own i y ∈ lw_good) (hn : noMH y.cls = true) (hp : nPar y.desc = some n) (hm : mL ≤ 60) (hf : d + 1 ≤ R.frames) (hlo : 100 * (d + 1) ≤ R.locals) :
    CallB R s args own i y b mL ret (Cond.code y b mL ret :: lw_good) (rmJ d) 0 0 n := by
  have k1 : ∀ w ∈ Cond.code y b mL ret :: lw_good, ∀ (a' : Array Value) (U : State), s.WarmedH U.vm → w.before a' U = true := by
    intro w hw a' U hW
    have hm : w ∈ lw_good := by
      rcases List.mem_cons.mp hw with rfl | hw
      · exact hc
      · exact hw
    exact word_at hW (lw_good_ok w hm) (hts w hm)
  have k2 : 8 + (mL + 11) + 100 * d ≤ R.locals := by omega
  simp only [noMH, Bool.and_eq_true, decide_eq_true_eq] at hn
  exact ⟨rfl, rfl, hf, k2, k1, List.mem_cons_self, hts _ hc, hts _ hi, hn, par_spec hp, hts _ hl⟩
theorem jc_coder {X : CX} (l : Launch) {i : Nat} (hi : i < 18)  : Met l jy_coder (.code jy_coder prog_17_method_152_code 1 (some .byte) :: lw_good) (rmJ 1) (PcJ X [.ref (xo X (10 + i))]) (QcJ (some (.int 0))) 0 0 (fun _ => False) := by
  refine Met.ofW (cc := prog_17_method_152_code) (maxL := 1) (ret := (some .byte)) (by decide) rfl ?_
  intro p e s m args below meth c s₁ B hml hv
  obtain ⟨rfl, hK, hAg⟩ := hv
  have hx := B.exec
  have hb := B.bytes
  have hr := B.returns
  have hlocks := B.notSynchronized
  have hts0 := atoms_spec (ws := .code jy_coder prog_17_method_152_code 1 (some .byte) :: lw_good) B.pre
  have hts : ∀ w ∈ lw_good, w.before ([.ref (xo X (10 + i))] : List Value).toArray s = true := fun w hw => hts0 w (List.mem_cons_of_mem _ hw)
  have hown : s.vm.findClass "java/lang/String" = some m.cls := findClass_of_methodNamed B.named
  obtain ⟨⟨adV, hS1⟩, -, hZ1, hZ2, hX1, hsz⟩ := id hK
  have hag : ∀ a : Nat, a < (xH X).size → ¬ xs0 X ≤ a → s.heap[a]? = (xH X)[a]? := fun a ha _ => hAg a (by rw [← hsz]; exact ha)
  have hS1 := hS1.kept hag
  have hZ1 := hZ1.kept hag
  have hZ2 := hZ2.kept hag
  have hS : va_S (fun q => xs0 X ≤ q) s.heap s.heap [] := va_S.rf
  have hl := lv_entry [.ref (xo X (10 + i))] (n := 1) (Nat.le_of_ble_eq_true rfl)
  rw [lg_entry_eq]
  generalize (lg_sl [.ref (xo X (10 + i))] ++ List.replicate (1 - (lg_sl [.ref (xo X (10 + i))]).length) Slot.unset).toArray = ls at hl ⊢
  refine va_gets hx hb hZ1 hS hown (hts _ (jw 14 rfl)) (fun _ h => h) jd_coder_0 ?_
  refine lv_if_eq (tgt := 13) hx hb jd_coder_3 (by decide) (fun z => absurd z (by decide)) (fun _ => ?_)
  refine lv_aload_n hx hb jd_coder_6 rfl (lv_at hl 0 rfl) ?_
  refine vk_getf hx hb (hS1.1 i hi).2.1 hS hown (hts _ (jw 15 rfl)) (fun _ h => h) jd_coder_7 ?_
  refine lv_goto (tgt := 14) hx hb jd_coder_10 (by decide) ?_
  exact W.zret hx hb hr rfl (fun t ht _ => ⟨rfl, ht⟩) (fun q hq => by cases hq) jd_coder_14
theorem jc_isLatin1 {X : CX} (l : Launch) {i : Nat} (hi : i < 18)  : Met l jy_isLatin1 (.code jy_isLatin1 prog_17_method_154_code 1 (some .boolean) :: lw_good) (rmJ 1) (PcJ X [.ref (xo X (10 + i))]) (QcJ (some (.int 1))) 0 0 (fun _ => False) := by
  refine Met.ofW (cc := prog_17_method_154_code) (maxL := 1) (ret := (some .boolean)) (by decide) rfl ?_
  intro p e s m args below meth c s₁ B hml hv
  obtain ⟨rfl, hK, hAg⟩ := hv
  have hx := B.exec
  have hb := B.bytes
  have hr := B.returns
  have hlocks := B.notSynchronized
  have hts0 := atoms_spec (ws := .code jy_isLatin1 prog_17_method_154_code 1 (some .boolean) :: lw_good) B.pre
  have hts : ∀ w ∈ lw_good, w.before ([.ref (xo X (10 + i))] : List Value).toArray s = true := fun w hw => hts0 w (List.mem_cons_of_mem _ hw)
  have hown : s.vm.findClass "java/lang/String" = some m.cls := findClass_of_methodNamed B.named
  obtain ⟨⟨adV, hS1⟩, -, hZ1, hZ2, hX1, hsz⟩ := id hK
  have hag : ∀ a : Nat, a < (xH X).size → ¬ xs0 X ≤ a → s.heap[a]? = (xH X)[a]? := fun a ha _ => hAg a (by rw [← hsz]; exact ha)
  have hS1 := hS1.kept hag
  have hZ1 := hZ1.kept hag
  have hZ2 := hZ2.kept hag
  have hS : va_S (fun q => xs0 X ≤ q) s.heap s.heap [] := va_S.rf
  have hl := lv_entry [.ref (xo X (10 + i))] (n := 1) (Nat.le_of_ble_eq_true rfl)
  rw [lg_entry_eq]
  generalize (lg_sl [.ref (xo X (10 + i))] ++ List.replicate (1 - (lg_sl [.ref (xo X (10 + i))]).length) Slot.unset).toArray = ls at hl ⊢
  refine va_gets hx hb hZ1 hS hown (hts _ (jw 14 rfl)) (fun _ h => h) jd_isLatin1_0 ?_
  refine lv_if_eq (tgt := 17) hx hb jd_isLatin1_3 (by decide) (fun z => absurd z (by decide)) (fun _ => ?_)
  refine lv_aload_n hx hb jd_isLatin1_6 rfl (lv_at hl 0 rfl) ?_
  refine vk_getf hx hb (hS1.1 i hi).2.1 hS hown (hts _ (jw 15 rfl)) (fun _ h => h) jd_isLatin1_7 ?_
  refine lv_if_ne (tgt := 17) hx hb jd_isLatin1_10 (by decide) (fun z => absurd rfl z) (fun _ => ?_)
  refine lv_iconst (v := 1) hx hb jd_isLatin1_13 (by decide) ?_
  refine lv_goto (tgt := 18) hx hb jd_isLatin1_14 (by decide) ?_
  exact W.zret hx hb hr rfl (fun t ht _ => ⟨rfl, ht⟩) (fun q hq => by cases hq) jd_isLatin1_18
theorem jc_length {X : CX} (l : Launch) {i : Nat} (hi : i < 18)  : Met l jy_length (.code jy_length prog_17_method_54_code 1 (some .int) :: lw_good) (rmJ 2) (PcJ X [.ref (xo X (10 + i))]) (QcJ (some (.int (nI (slen.getD i 0))))) 0 0 (fun _ => False) := by
  refine Met.ofW (cc := prog_17_method_54_code) (maxL := 1) (ret := (some .int)) (by decide) rfl ?_
  intro p e s m args below meth c s₁ B hml hv
  obtain ⟨rfl, hK, hAg⟩ := hv
  have hx := B.exec
  have hb := B.bytes
  have hr := B.returns
  have hlocks := B.notSynchronized
  have hts0 := atoms_spec (ws := .code jy_length prog_17_method_54_code 1 (some .int) :: lw_good) B.pre
  have hts : ∀ w ∈ lw_good, w.before ([.ref (xo X (10 + i))] : List Value).toArray s = true := fun w hw => hts0 w (List.mem_cons_of_mem _ hw)
  have hown : s.vm.findClass "java/lang/String" = some m.cls := findClass_of_methodNamed B.named
  obtain ⟨⟨adV, hS1⟩, -, hZ1, hZ2, hX1, hsz⟩ := id hK
  have hag : ∀ a : Nat, a < (xH X).size → ¬ xs0 X ≤ a → s.heap[a]? = (xH X)[a]? := fun a ha _ => hAg a (by rw [← hsz]; exact ha)
  have hS1 := hS1.kept hag
  have hZ1 := hZ1.kept hag
  have hZ2 := hZ2.kept hag
  have hS : va_S (fun q => xs0 X ≤ q) s.heap s.heap [] := va_S.rf
  have hl := lv_entry [.ref (xo X (10 + i))] (n := 1) (Nat.le_of_ble_eq_true rfl)
  rw [lg_entry_eq]
  generalize (lg_sl [.ref (xo X (10 + i))] ++ List.replicate (1 - (lg_sl [.ref (xo X (10 + i))]).length) Slot.unset).toArray = ls at hl ⊢
  refine lv_aload_n hx hb jd_length_0 rfl (lv_at hl 0 rfl) ?_
  refine vk_getf hx hb (hS1.1 i hi).2.2.1 hS hown (hts _ (jw 10 rfl)) (fun _ h => h) jd_length_1 ?_
  refine va_tlen (v := nI (slen.getD i 0)) hx hb (hS1.1 i hi).2.2.2 hS rfl jd_length_4 ?_
  refine lv_aload_n hx hb jd_length_5 rfl (lv_at hl 0 rfl) ?_
  have hp : PreV s s.heap "java/lang/String" (xo X (10 + i)) (PcJ X [.ref (xo X (10 + i))]) [] := ⟨blindJ, (by obtain ⟨cell, c1, c2, c3, -⟩ := (hS1.1 i hi).1; exact ⟨cell, c1, c2, c3⟩), fun U hU hW => ⟨rfl, KSt.warm _ _ hW hK, by rw [hU]; exact hAg⟩⟩
  refine afterJ (rest := [.int (nI (slen.getD i 0))]) (va_runV (n := 0) ⟨hx, hb, hml, hown, hts⟩ (jc_coder l hi) ⟨callJ hts (jw 1 rfl) (jw 7 rfl) (jw 11 rfl) (by decide) (by decide) (by decide) (by decide) (by decide), hts _ (jw 12 rfl), hts _ (jw 13 rfl)⟩ hp rfl rfl hl.1 rfl (show 2 * 0 + (1 + 0) ≤ 8 by decide) jd_length_6 ⟨Nat.zero_le _, Nat.zero_le _⟩) ?_
  refine lv_ishr hx hb jd_length_9 ?_
  have e1 : nI (slen.getD i 0) >>> ((0 : Int32) &&& 31) = nI (slen.getD i 0) := by
    have : ∀ i, i < 18 → nI (slen.getD i 0) >>> ((0 : Int32) &&& 31) = nI (slen.getD i 0) := by decide +kernel
    exact this i hi
  rw [e1]
  exact W.iret hx hb hr (fun t ht _ => ⟨rfl, ht⟩) (fun q hq => by cases hq) jd_length_10
theorem jc_pCheckN {X : CX} (l : Launch) {j n : Int32} (h0 : 0 ≤ j) (h1 : j < n) : Met l jy_pCheck (.code jy_pCheck prog_21_method_11_code 3 (some .int) :: lw_good) (rmJ 1) (PcJ X [.int j, .int n, .null]) (QcJ (some (.int j))) 0 0 (fun _ => False) := by
  refine Met.ofW (cc := prog_21_method_11_code) (maxL := 3) (ret := (some .int)) (by decide) rfl ?_
  intro p e s m args below meth c s₁ B hml hv
  obtain ⟨rfl, hK, hAg⟩ := hv
  have hx := B.exec
  have hb := B.bytes
  have hr := B.returns
  have hlocks := B.notSynchronized
  have hts0 := atoms_spec (ws := .code jy_pCheck prog_21_method_11_code 3 (some .int) :: lw_good) B.pre
  have hts : ∀ w ∈ lw_good, w.before ([.int j, .int n, .null] : List Value).toArray s = true := fun w hw => hts0 w (List.mem_cons_of_mem _ hw)
  have hown : s.vm.findClass "jdk/internal/util/Preconditions" = some m.cls := findClass_of_methodNamed B.named
  obtain ⟨⟨adV, hS1⟩, -, hZ1, hZ2, hX1, hsz⟩ := id hK
  have hag : ∀ a : Nat, a < (xH X).size → ¬ xs0 X ≤ a → s.heap[a]? = (xH X)[a]? := fun a ha _ => hAg a (by rw [← hsz]; exact ha)
  have hS1 := hS1.kept hag
  have hZ1 := hZ1.kept hag
  have hZ2 := hZ2.kept hag
  have hS : va_S (fun q => xs0 X ≤ q) s.heap s.heap [] := va_S.rf
  have hl := lv_entry [.int j, .int n, .null] (n := 3) (Nat.le_of_ble_eq_true rfl)
  rw [lg_entry_eq]
  generalize (lg_sl [.int j, .int n, .null] ++ List.replicate (3 - (lg_sl [.int j, .int n, .null]).length) Slot.unset).toArray = ls at hl ⊢
  refine lv_iload_n hx hb jd_pCheck_0 rfl (lv_at hl 0 rfl) ?_
  refine lv_if_lt (tgt := 9) hx hb jd_pCheck_1 (by decide) (fun z => absurd z (nlt0 h0)) (fun _ => ?_)
  refine lv_iload_n hx hb jd_pCheck_4 rfl (lv_at hl 0 rfl) ?_
  refine lv_iload_n hx hb jd_pCheck_5 rfl (lv_at hl 1 rfl) ?_
  refine lv_icmp_lt (tgt := 16) hx hb jd_pCheck_6 (by decide) (fun _ => ?_) (fun z => absurd h1 z)
  refine lv_iload_n hx hb jd_pCheck_16 rfl (lv_at hl 0 rfl) ?_
  exact W.iret hx hb hr (fun t ht _ => ⟨rfl, ht⟩) (fun q hq => by cases hq) jd_pCheck_17
theorem jc_pCheckR {X : CX} (l : Launch) {j n : Int32} {z : Nat} (h0 : 0 ≤ j) (h1 : j < n) : Met l jy_pCheck (.code jy_pCheck prog_21_method_11_code 3 (some .int) :: lw_good) (rmJ 1) (PcJ X [.int j, .int n, .ref z]) (QcJ (some (.int j))) 0 0 (fun _ => False) := by
  refine Met.ofW (cc := prog_21_method_11_code) (maxL := 3) (ret := (some .int)) (by decide) rfl ?_
  intro p e s m args below meth c s₁ B hml hv
  obtain ⟨rfl, hK, hAg⟩ := hv
  have hx := B.exec
  have hb := B.bytes
  have hr := B.returns
  have hlocks := B.notSynchronized
  have hts0 := atoms_spec (ws := .code jy_pCheck prog_21_method_11_code 3 (some .int) :: lw_good) B.pre
  have hts : ∀ w ∈ lw_good, w.before ([.int j, .int n, .ref z] : List Value).toArray s = true := fun w hw => hts0 w (List.mem_cons_of_mem _ hw)
  have hown : s.vm.findClass "jdk/internal/util/Preconditions" = some m.cls := findClass_of_methodNamed B.named
  obtain ⟨⟨adV, hS1⟩, -, hZ1, hZ2, hX1, hsz⟩ := id hK
  have hag : ∀ a : Nat, a < (xH X).size → ¬ xs0 X ≤ a → s.heap[a]? = (xH X)[a]? := fun a ha _ => hAg a (by rw [← hsz]; exact ha)
  have hS1 := hS1.kept hag
  have hZ1 := hZ1.kept hag
  have hZ2 := hZ2.kept hag
  have hS : va_S (fun q => xs0 X ≤ q) s.heap s.heap [] := va_S.rf
  have hl := lv_entry [.int j, .int n, .ref z] (n := 3) (Nat.le_of_ble_eq_true rfl)
  rw [lg_entry_eq]
  generalize (lg_sl [.int j, .int n, .ref z] ++ List.replicate (3 - (lg_sl [.int j, .int n, .ref z]).length) Slot.unset).toArray = ls at hl ⊢
  refine lv_iload_n hx hb jd_pCheck_0 rfl (lv_at hl 0 rfl) ?_
  refine lv_if_lt (tgt := 9) hx hb jd_pCheck_1 (by decide) (fun z => absurd z (nlt0 h0)) (fun _ => ?_)
  refine lv_iload_n hx hb jd_pCheck_4 rfl (lv_at hl 0 rfl) ?_
  refine lv_iload_n hx hb jd_pCheck_5 rfl (lv_at hl 1 rfl) ?_
  refine lv_icmp_lt (tgt := 16) hx hb jd_pCheck_6 (by decide) (fun _ => ?_) (fun z => absurd h1 z)
  refine lv_iload_n hx hb jd_pCheck_16 rfl (lv_at hl 0 rfl) ?_
  exact W.iret hx hb hr (fun t ht _ => ⟨rfl, ht⟩) (fun q hq => by cases hq) jd_pCheck_17
theorem jc_pCheck {X : CX} (l : Launch) {j n : Int32} {f : Value} (h0 : 0 ≤ j) (h1 : j < n) (hf : f = .null ∨ ∃ z, f = .ref z) : Met l jy_pCheck (.code jy_pCheck prog_21_method_11_code 3 (some .int) :: lw_good) (rmJ 1) (PcJ X [.int j, .int n, f]) (QcJ (some (.int j))) 0 0 (fun _ => False) := by
  rcases hf with rfl | ⟨z, rfl⟩
  · exact jc_pCheckN l h0 h1
  · exact jc_pCheckR l h0 h1
theorem jc_sCheck {X : CX} (l : Launch) {j n : Int32} (h0 : 0 ≤ j) (h1 : j < n) : Met l jy_sCheck (.code jy_sCheck prog_17_method_155_code 2 none :: lw_good) (rmJ 2) (PcJ X [.int j, .int n]) (QcJ (none)) 0 0 (fun _ => False) := by
  refine Met.ofW (cc := prog_17_method_155_code) (maxL := 2) (ret := none) (by decide) rfl ?_
  intro p e s m args below meth c s₁ B hml hv
  obtain ⟨rfl, hK, hAg⟩ := hv
  have hx := B.exec
  have hb := B.bytes
  have hr := B.returns
  have hlocks := B.notSynchronized
  have hts0 := atoms_spec (ws := .code jy_sCheck prog_17_method_155_code 2 none :: lw_good) B.pre
  have hts : ∀ w ∈ lw_good, w.before ([.int j, .int n] : List Value).toArray s = true := fun w hw => hts0 w (List.mem_cons_of_mem _ hw)
  have hown : s.vm.findClass "java/lang/String" = some m.cls := findClass_of_methodNamed B.named
  obtain ⟨⟨adV, hS1⟩, -, hZ1, hZ2, hX1, hsz⟩ := id hK
  have hag : ∀ a : Nat, a < (xH X).size → ¬ xs0 X ≤ a → s.heap[a]? = (xH X)[a]? := fun a ha _ => hAg a (by rw [← hsz]; exact ha)
  have hS1 := hS1.kept hag
  have hZ1 := hZ1.kept hag
  have hZ2 := hZ2.kept hag
  have hS : va_S (fun q => xs0 X ≤ q) s.heap s.heap [] := va_S.rf
  have hl := lv_entry [.int j, .int n] (n := 2) (Nat.le_of_ble_eq_true rfl)
  rw [lg_entry_eq]
  generalize (lg_sl [.int j, .int n] ++ List.replicate (2 - (lg_sl [.int j, .int n]).length) Slot.unset).toArray = ls at hl ⊢
  refine lv_iload_n hx hb jd_sCheck_0 rfl (lv_at hl 0 rfl) ?_
  refine lv_iload_n hx hb jd_sCheck_1 rfl (lv_at hl 1 rfl) ?_
  rcases hZ2 with hZ | ⟨t, hZ⟩
  · skip
    refine va_gets hx hb hZ hS hown (hts _ (jw 23 rfl)) (fun _ h => h) jd_sCheck_2 ?_
    refine afterJ (rest := []) (va_runS (n := 3) (As := [.int j, .int n, .null]) ⟨hx, hb, hml, hown, hts⟩ (jc_pCheck (X := X) l h0 h1 (Or.inl rfl)) ⟨callJ hts (jw 6 rfl) (jw 9 rfl) (jw 24 rfl) (by decide) (by decide) (by decide) (by decide) (by decide), hts _ (jw 25 rfl)⟩ (show PreS s s.heap _ _ from ⟨blindJ, fun U hU hW => ⟨rfl, KSt.warm _ _ hW hK, by rw [hU]; exact hAg⟩⟩) rfl rfl hl.1 rfl (show 2 * 0 + _ ≤ 8 by decide) jd_sCheck_5 ⟨Nat.zero_le _, Nat.zero_le _⟩) ?_
    refine lv_pop hx hb jd_sCheck_8 rfl ?_
    exact W.vret hx hb hr (fun t ht _ => ⟨rfl, ht⟩) (fun q hq => by cases hq) jd_sCheck_9
  · skip
    refine va_gets hx hb hZ hS hown (hts _ (jw 23 rfl)) (fun _ h => h) jd_sCheck_2 ?_
    refine afterJ (rest := []) (va_runS (n := 3) (As := [.int j, .int n, .ref t]) ⟨hx, hb, hml, hown, hts⟩ (jc_pCheck (X := X) l h0 h1 (Or.inr ⟨t, rfl⟩)) ⟨callJ hts (jw 6 rfl) (jw 9 rfl) (jw 24 rfl) (by decide) (by decide) (by decide) (by decide) (by decide), hts _ (jw 25 rfl)⟩ (show PreS s s.heap _ _ from ⟨blindJ, fun U hU hW => ⟨rfl, KSt.warm _ _ hW hK, by rw [hU]; exact hAg⟩⟩) rfl rfl hl.1 rfl (show 2 * 0 + _ ≤ 8 by decide) jd_sCheck_5 ⟨Nat.zero_le _, Nat.zero_le _⟩) ?_
    refine lv_pop hx hb jd_sCheck_8 rfl ?_
    exact W.vret hx hb hr (fun t ht _ => ⟨rfl, ht⟩) (fun q hq => by cases hq) jd_sCheck_9
theorem sbyt_ok : ∀ i, i < 18 → ∀ j, j < slen.getD i 0 → ((((sbyt.getD i []).getD j 0 &&& 255).toUInt32 % 65536).toInt32 = (sbyt.getD i []).getD j 0) := by decide +kernel
theorem sbyt_ch : ∀ i, i < 18 → ∀ j, j < slen.getD i 0 → narrow .char (.int ((sbyt.getD i []).getD j 0)) = .int ((sbyt.getD i []).getD j 0) := by decide +kernel
def PcT (X : CX) (i v : Nat) (as : List Value) : Array Value → State → Prop := fun w U => w = as.toArray ∧ (KSt X U ∧ va_T .byte v (slen.getD i 0) (fun j => .int ((sbyt.getD i []).getD j 0)) (fun q => xs0 X ≤ q) U (xH X)) ∧ AgH X U.heap
theorem blindT {X : CX} {i v : Nat} {as : List Value} : FrameBlind (PcT X i v as) := fun a' U g' mk h => ⟨h.1, ⟨KSt.same U (U.calling g' mk a') rfl h.2.1.1, h.2.1.2.moved (Vm.Alike.refl U.vm)⟩, h.2.2⟩
theorem slen_ok : ∀ i, i < 18 → slen.getD i 0 < 100 := by decide +kernel
theorem lt_nI {j : Int32} {n : Nat} (h : inb j n) (hn : n < 100) : j < nI n := by
  have e := clampI h.1
  have := h.2
  rw [Int32.lt_iff_toInt_lt, e]
  have e2 : (nI n).toInt = n := nI_toInt (by omega)
  omega
theorem jc_lCharAt {X : CX} (l : Launch) {i : Nat} (hi : i < 18) {v : Nat} {j : Int32} (hj : inb j (slen.getD i 0)) : Met l jy_lCharAt (.code jy_lCharAt prog_18_method_2_code 2 (some .char) :: lw_good) (rmJ 3) (PcT X i v [.ref v, .int j]) (QcJ (some (.int ((sbyt.getD i []).getD j.toNatClampNeg 0)))) 0 0 (fun _ => False) := by
  refine Met.ofW (cc := prog_18_method_2_code) (maxL := 2) (ret := (some .char)) (by decide) rfl ?_
  intro p e s m args below meth c s₁ B hml hv
  obtain ⟨rfl, ⟨hK, hvT⟩, hAg⟩ := hv
  have hx := B.exec
  have hb := B.bytes
  have hr := B.returns
  have hlocks := B.notSynchronized
  have hts0 := atoms_spec (ws := .code jy_lCharAt prog_18_method_2_code 2 (some .char) :: lw_good) B.pre
  have hts : ∀ w ∈ lw_good, w.before ([.ref v, .int j] : List Value).toArray s = true := fun w hw => hts0 w (List.mem_cons_of_mem _ hw)
  have hown : s.vm.findClass "java/lang/StringLatin1" = some m.cls := findClass_of_methodNamed B.named
  obtain ⟨⟨adV, hS1⟩, -, hZ1, hZ2, hX1, hsz⟩ := id hK
  have hag : ∀ a : Nat, a < (xH X).size → ¬ xs0 X ≤ a → s.heap[a]? = (xH X)[a]? := fun a ha _ => hAg a (by rw [← hsz]; exact ha)
  have hS1 := hS1.kept hag
  have hZ1 := hZ1.kept hag
  have hZ2 := hZ2.kept hag
  have hS : va_S (fun q => xs0 X ≤ q) s.heap s.heap [] := va_S.rf
  have hl := lv_entry [.ref v, .int j] (n := 2) (Nat.le_of_ble_eq_true rfl)
  rw [lg_entry_eq]
  generalize (lg_sl [.ref v, .int j] ++ List.replicate (2 - (lg_sl [.ref v, .int j]).length) Slot.unset).toArray = ls at hl ⊢
  have hv : va_T .byte v (slen.getD i 0) (fun j => .int ((sbyt.getD i []).getD j 0)) (fun q => xs0 X ≤ q) s s.heap := hvT.kept hag
  refine lv_iload_n hx hb jd_lCharAt_0 rfl (lv_at hl 1 rfl) ?_
  refine lv_aload_n hx hb jd_lCharAt_1 rfl (lv_at hl 0 rfl) ?_
  refine va_tlen (v := nI (slen.getD i 0)) hx hb hv hS rfl jd_lCharAt_2 ?_
  refine afterJ (rest := []) (va_runS (n := 2) (As := [.int j, .int (nI (slen.getD i 0))]) ⟨hx, hb, hml, hown, hts⟩ (jc_sCheck (X := X) l hj.1 (lt_nI hj (slen_ok i hi))) ⟨callJ hts (jw 4 rfl) (jw 7 rfl) (jw 21 rfl) (by decide) (by decide) (by decide) (by decide) (by decide), hts _ (jw 22 rfl)⟩ (show PreS s s.heap _ _ from ⟨blindJ, fun U hU hW => ⟨rfl, KSt.warm _ _ hW hK, by rw [hU]; exact hAg⟩⟩) rfl rfl hl.1 rfl (show 2 * 0 + _ ≤ 8 by decide) jd_lCharAt_3 ⟨Nat.zero_le _, Nat.zero_le _⟩) ?_
  refine lv_aload_n hx hb jd_lCharAt_6 rfl (lv_at hl 0 rfl) ?_
  refine lv_iload_n hx hb jd_lCharAt_7 rfl (lv_at hl 1 rfl) ?_
  refine va_tb hx hb hv hS (inb_vp hj) rfl jd_lCharAt_8 ?_
  refine lv_sipush (v := 255) hx hb jd_lCharAt_9 (by decide) ?_
  refine lv_iand hx hb jd_lCharAt_12 ?_
  refine lv_i2c hx hb jd_lCharAt_13 (sbyt_ok i hi _ hj.2) ?_
  exact W.zret hx hb hr (sbyt_ch i hi _ hj.2) (fun t ht _ => ⟨rfl, ht⟩) (fun q hq => by cases hq) jd_lCharAt_14
theorem jc_charAt {X : CX} (l : Launch) {i : Nat} (hi : i < 18) {j : Int32} (hj : inb j (slen.getD i 0)) : Met l jy_charAt (.code jy_charAt prog_17_method_56_code 2 (some .char) :: lw_good) (rmJ 4) (PcJ X [.ref (xo X (10 + i)), .int j]) (QcJ (some (.int ((sbyt.getD i []).getD j.toNatClampNeg 0)))) 0 0 (fun _ => False) := by
  refine Met.ofW (cc := prog_17_method_56_code) (maxL := 2) (ret := (some .char)) (by decide) rfl ?_
  intro p e s m args below meth c s₁ B hml hv
  obtain ⟨rfl, hK, hAg⟩ := hv
  have hx := B.exec
  have hb := B.bytes
  have hr := B.returns
  have hlocks := B.notSynchronized
  have hts0 := atoms_spec (ws := .code jy_charAt prog_17_method_56_code 2 (some .char) :: lw_good) B.pre
  have hts : ∀ w ∈ lw_good, w.before ([.ref (xo X (10 + i)), .int j] : List Value).toArray s = true := fun w hw => hts0 w (List.mem_cons_of_mem _ hw)
  have hown : s.vm.findClass "java/lang/String" = some m.cls := findClass_of_methodNamed B.named
  obtain ⟨⟨adV, hS1⟩, -, hZ1, hZ2, hX1, hsz⟩ := id hK
  have hag : ∀ a : Nat, a < (xH X).size → ¬ xs0 X ≤ a → s.heap[a]? = (xH X)[a]? := fun a ha _ => hAg a (by rw [← hsz]; exact ha)
  have hS0 := hS1
  have hS1 := hS1.kept hag
  have hZ1 := hZ1.kept hag
  have hZ2 := hZ2.kept hag
  have hS : va_S (fun q => xs0 X ≤ q) s.heap s.heap [] := va_S.rf
  have hl := lv_entry [.ref (xo X (10 + i)), .int j] (n := 2) (Nat.le_of_ble_eq_true rfl)
  rw [lg_entry_eq]
  generalize (lg_sl [.ref (xo X (10 + i)), .int j] ++ List.replicate (2 - (lg_sl [.ref (xo X (10 + i)), .int j]).length) Slot.unset).toArray = ls at hl ⊢
  refine lv_aload_n hx hb jd_charAt_0 rfl (lv_at hl 0 rfl) ?_
  have hp : PreV s s.heap "java/lang/String" (xo X (10 + i)) (PcJ X [.ref (xo X (10 + i))]) [] := ⟨blindJ, (by obtain ⟨cell, c1, c2, c3, -⟩ := (hS1.1 i hi).1; exact ⟨cell, c1, c2, c3⟩), fun U hU hW => ⟨rfl, KSt.warm _ _ hW hK, by rw [hU]; exact hAg⟩⟩
  refine afterJ (rest := []) (va_runV (n := 0) ⟨hx, hb, hml, hown, hts⟩ (jc_isLatin1 l hi) ⟨callJ hts (jw 3 rfl) (jw 7 rfl) (jw 16 rfl) (by decide) (by decide) (by decide) (by decide) (by decide), hts _ (jw 17 rfl), hts _ (jw 18 rfl)⟩ hp rfl rfl hl.1 rfl (show 2 * 0 + 0 ≤ 8 by decide) jd_charAt_1 ⟨Nat.zero_le _, Nat.zero_le _⟩) ?_
  refine lv_if_eq (tgt := 16) hx hb jd_charAt_4 (by decide) (fun z => absurd z (by decide)) (fun _ => ?_)
  refine lv_aload_n hx hb jd_charAt_7 rfl (lv_at hl 0 rfl) ?_
  refine vk_getf hx hb (hS1.1 i hi).2.2.1 hS hown (hts _ (jw 10 rfl)) (fun _ h => h) jd_charAt_8 ?_
  refine lv_iload_n hx hb jd_charAt_11 rfl (lv_at hl 1 rfl) ?_
  refine afterJ (rest := []) (va_runS (n := 2) (As := [.ref (adV i), .int j]) ⟨hx, hb, hml, hown, hts⟩ (jc_lCharAt (X := X) l hi hj) ⟨callJ hts (jw 5 rfl) (jw 8 rfl) (jw 19 rfl) (by decide) (by decide) (by decide) (by decide) (by decide), hts _ (jw 20 rfl)⟩ (show PreS s s.heap _ _ from ⟨blindT, fun U hU hW => ⟨rfl, ⟨KSt.warm _ _ hW hK, (hS0.1 i hi).2.2.2.moved hW.alike⟩, by rw [hU]; exact hAg⟩⟩) rfl rfl hl.1 rfl (show 2 * 0 + 0 ≤ 8 by decide) jd_charAt_12 ⟨Nat.zero_le _, Nat.zero_le _⟩) ?_
  exact W.zret hx hb hr (sbyt_ch i hi _ hj.2) (fun t ht _ => ⟨rfl, ht⟩) (fun q hq => by cases hq) jd_charAt_15
end
