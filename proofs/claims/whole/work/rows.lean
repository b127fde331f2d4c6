section
-- ===== PART A: goes FIRST, ahead of the names: the tables' words, and 'selects' of the private methods out of them =====
/-- a private method of a class that the tables say can be made, by its rows of tables_1 -/
def lw_okq (q : MethodName × Nat) : Prop := (q.1.cls ≠ "java/lang/invoke/MethodHandle" ∧ q.1.cls ≠ "java/lang/invoke/VarHandle") ∧ Cond.instantiable q.1.cls q.2 ∈ tables_1 ∧ Cond.privateMethod q.1 ∈ tables_1 ∧ Cond.instanceMethod q.1 ∈ tables_1
theorem lw_p0 : lw_okq (⟨"DreamNets$Tape", "step", "()V"⟩, 6) := ⟨⟨by decide +kernel, by decide +kernel⟩, List.mem_of_getElem? (i := 30) (by decide +kernel), List.mem_of_getElem? (i := 327) (by decide +kernel), List.mem_of_getElem? (i := 328) (by decide +kernel)⟩
theorem lw_p1 : lw_okq (⟨"DreamNets$Tape", "stepOverDigits", "()V"⟩, 6) := ⟨⟨by decide +kernel, by decide +kernel⟩, List.mem_of_getElem? (i := 30) (by decide +kernel), List.mem_of_getElem? (i := 337) (by decide +kernel), List.mem_of_getElem? (i := 338) (by decide +kernel)⟩
theorem lw_p2 : lw_okq (⟨"DreamNets$Tape", "tellsPart", "(LDreamNets$World;)Z"⟩, 6) := ⟨⟨by decide +kernel, by decide +kernel⟩, List.mem_of_getElem? (i := 30) (by decide +kernel), List.mem_of_getElem? (i := 341) (by decide +kernel), List.mem_of_getElem? (i := 342) (by decide +kernel)⟩
theorem lw_p3 : lw_okq (⟨"DreamNets$Tape", "isWord", "(Ljava/lang/String;)Z"⟩, 6) := ⟨⟨by decide +kernel, by decide +kernel⟩, List.mem_of_getElem? (i := 30) (by decide +kernel), List.mem_of_getElem? (i := 354) (by decide +kernel), List.mem_of_getElem? (i := 355) (by decide +kernel)⟩
theorem lw_p4 : lw_okq (⟨"DreamNets$Tape", "tellsBoat", "(LDreamNets$World;I)Z"⟩, 6) := ⟨⟨by decide +kernel, by decide +kernel⟩, List.mem_of_getElem? (i := 30) (by decide +kernel), List.mem_of_getElem? (i := 406) (by decide +kernel), List.mem_of_getElem? (i := 407) (by decide +kernel)⟩
theorem lw_p5 : lw_okq (⟨"DreamNets$Tape", "readNumber", "(II)Z"⟩, 6) := ⟨⟨by decide +kernel, by decide +kernel⟩, List.mem_of_getElem? (i := 30) (by decide +kernel), List.mem_of_getElem? (i := 410) (by decide +kernel), List.mem_of_getElem? (i := 411) (by decide +kernel)⟩
theorem lw_p6 : lw_okq (⟨"DreamNets$Tape", "readWord", "(Ljava/lang/String;)Z"⟩, 6) := ⟨⟨by decide +kernel, by decide +kernel⟩, List.mem_of_getElem? (i := 30) (by decide +kernel), List.mem_of_getElem? (i := 416) (by decide +kernel), List.mem_of_getElem? (i := 417) (by decide +kernel)⟩
theorem lw_p7 : lw_okq (⟨"DreamNets$Tape", "readStop", "()Z"⟩, 6) := ⟨⟨by decide +kernel, by decide +kernel⟩, List.mem_of_getElem? (i := 30) (by decide +kernel), List.mem_of_getElem? (i := 421) (by decide +kernel), List.mem_of_getElem? (i := 422) (by decide +kernel)⟩
theorem lw_p8 : lw_okq (⟨"DreamNets$Tape", "tellsStreet", "(LDreamNets$World;)Z"⟩, 6) := ⟨⟨by decide +kernel, by decide +kernel⟩, List.mem_of_getElem? (i := 30) (by decide +kernel), List.mem_of_getElem? (i := 430) (by decide +kernel), List.mem_of_getElem? (i := 431) (by decide +kernel)⟩
theorem lw_p9 : lw_okq (⟨"DreamNets$Tape", "tellsNumber", "([IIII)Z"⟩, 6) := ⟨⟨by decide +kernel, by decide +kernel⟩, List.mem_of_getElem? (i := 30) (by decide +kernel), List.mem_of_getElem? (i := 435) (by decide +kernel), List.mem_of_getElem? (i := 436) (by decide +kernel)⟩
theorem lw_p10 : lw_okq (⟨"DreamNets$Tape", "sortHere", "()I"⟩, 6) := ⟨⟨by decide +kernel, by decide +kernel⟩, List.mem_of_getElem? (i := 30) (by decide +kernel), List.mem_of_getElem? (i := 439) (by decide +kernel), List.mem_of_getElem? (i := 440) (by decide +kernel)⟩
theorem lw_p11 : lw_okq (⟨"DreamNets$Tape", "tellsPrice", "(LDreamNets$World;)Z"⟩, 6) := ⟨⟨by decide +kernel, by decide +kernel⟩, List.mem_of_getElem? (i := 30) (by decide +kernel), List.mem_of_getElem? (i := 452) (by decide +kernel), List.mem_of_getElem? (i := 453) (by decide +kernel)⟩
theorem lw_p12 : lw_okq (⟨"DreamNets$Tape", "tellsQuota", "(LDreamNets$World;)Z"⟩, 6) := ⟨⟨by decide +kernel, by decide +kernel⟩, List.mem_of_getElem? (i := 30) (by decide +kernel), List.mem_of_getElem? (i := 457) (by decide +kernel), List.mem_of_getElem? (i := 458) (by decide +kernel)⟩
theorem lw_p13 : lw_okq (⟨"DreamNets", "noBoat", "(I)Z"⟩, 13) := ⟨⟨by decide +kernel, by decide +kernel⟩, List.mem_of_getElem? (i := 22) (by decide +kernel), List.mem_of_getElem? (i := 532) (by decide +kernel), List.mem_of_getElem? (i := 533) (by decide +kernel)⟩
theorem lw_p14 : lw_okq (⟨"DreamNets", "boatsThatMay", "()I"⟩, 13) := ⟨⟨by decide +kernel, by decide +kernel⟩, List.mem_of_getElem? (i := 22) (by decide +kernel), List.mem_of_getElem? (i := 712) (by decide +kernel), List.mem_of_getElem? (i := 713) (by decide +kernel)⟩
theorem lw_p15 : lw_okq (⟨"DreamNets", "findWay", "(II)V"⟩, 13) := ⟨⟨by decide +kernel, by decide +kernel⟩, List.mem_of_getElem? (i := 22) (by decide +kernel), List.mem_of_getElem? (i := 720) (by decide +kernel), List.mem_of_getElem? (i := 721) (by decide +kernel)⟩
def lw_privs_1 : List (MethodName × Nat) := [(⟨"DreamNets$Tape", "step", "()V"⟩, 6), (⟨"DreamNets$Tape", "stepOverDigits", "()V"⟩, 6), (⟨"DreamNets$Tape", "tellsPart", "(LDreamNets$World;)Z"⟩, 6), (⟨"DreamNets$Tape", "isWord", "(Ljava/lang/String;)Z"⟩, 6), (⟨"DreamNets$Tape", "tellsBoat", "(LDreamNets$World;I)Z"⟩, 6), (⟨"DreamNets$Tape", "readNumber", "(II)Z"⟩, 6), (⟨"DreamNets$Tape", "readWord", "(Ljava/lang/String;)Z"⟩, 6), (⟨"DreamNets$Tape", "readStop", "()Z"⟩, 6), (⟨"DreamNets$Tape", "tellsStreet", "(LDreamNets$World;)Z"⟩, 6), (⟨"DreamNets$Tape", "tellsNumber", "([IIII)Z"⟩, 6), (⟨"DreamNets$Tape", "sortHere", "()I"⟩, 6), (⟨"DreamNets$Tape", "tellsPrice", "(LDreamNets$World;)Z"⟩, 6), (⟨"DreamNets$Tape", "tellsQuota", "(LDreamNets$World;)Z"⟩, 6), (⟨"DreamNets", "noBoat", "(I)Z"⟩, 13), (⟨"DreamNets", "boatsThatMay", "()I"⟩, 13), (⟨"DreamNets", "findWay", "(II)V"⟩, 13)]
theorem lw_r1 : ∀ q ∈ lw_privs_1, lw_okq q := List.forall_mem_cons.mpr ⟨lw_p0, List.forall_mem_cons.mpr ⟨lw_p1, List.forall_mem_cons.mpr ⟨lw_p2, List.forall_mem_cons.mpr ⟨lw_p3, List.forall_mem_cons.mpr ⟨lw_p4, List.forall_mem_cons.mpr ⟨lw_p5, List.forall_mem_cons.mpr ⟨lw_p6, List.forall_mem_cons.mpr ⟨lw_p7, List.forall_mem_cons.mpr ⟨lw_p8, List.forall_mem_cons.mpr ⟨lw_p9, List.forall_mem_cons.mpr ⟨lw_p10, List.forall_mem_cons.mpr ⟨lw_p11, List.forall_mem_cons.mpr ⟨lw_p12, List.forall_mem_cons.mpr ⟨lw_p13, List.forall_mem_cons.mpr ⟨lw_p14, List.forall_mem_cons.mpr ⟨lw_p15, fun _ h => absurd h List.not_mem_nil⟩⟩⟩⟩⟩⟩⟩⟩⟩⟩⟩⟩⟩⟩⟩⟩
theorem lw_p16 : lw_okq (⟨"DreamNets", "worthByMesh", "(III)I"⟩, 13) := ⟨⟨by decide +kernel, by decide +kernel⟩, List.mem_of_getElem? (i := 22) (by decide +kernel), List.mem_of_getElem? (i := 745) (by decide +kernel), List.mem_of_getElem? (i := 746) (by decide +kernel)⟩
theorem lw_p17 : lw_okq (⟨"DreamNets", "findShoal", "(LDreamNets$Sheet;)V"⟩, 13) := ⟨⟨by decide +kernel, by decide +kernel⟩, List.mem_of_getElem? (i := 22) (by decide +kernel), List.mem_of_getElem? (i := 760) (by decide +kernel), List.mem_of_getElem? (i := 761) (by decide +kernel)⟩
theorem lw_p18 : lw_okq (⟨"DreamNets", "countFits", "()I"⟩, 13) := ⟨⟨by decide +kernel, by decide +kernel⟩, List.mem_of_getElem? (i := 22) (by decide +kernel), List.mem_of_getElem? (i := 764) (by decide +kernel), List.mem_of_getElem? (i := 765) (by decide +kernel)⟩
theorem lw_p19 : lw_okq (⟨"DreamNets", "firstFit", "()I"⟩, 13) := ⟨⟨by decide +kernel, by decide +kernel⟩, List.mem_of_getElem? (i := 22) (by decide +kernel), List.mem_of_getElem? (i := 768) (by decide +kernel), List.mem_of_getElem? (i := 769) (by decide +kernel)⟩
theorem lw_p20 : lw_okq (⟨"DreamNets", "noRow", "(II)Z"⟩, 13) := ⟨⟨by decide +kernel, by decide +kernel⟩, List.mem_of_getElem? (i := 22) (by decide +kernel), List.mem_of_getElem? (i := 827) (by decide +kernel), List.mem_of_getElem? (i := 828) (by decide +kernel)⟩
theorem lw_p21 : lw_okq (⟨"DreamNetsModel", "advance", "()V"⟩, 36) := ⟨⟨by decide +kernel, by decide +kernel⟩, List.mem_of_getElem? (i := 1036) (by decide +kernel), List.mem_of_getElem? (i := 1166) (by decide +kernel), List.mem_of_getElem? (i := 1167) (by decide +kernel)⟩
theorem lw_p22 : lw_okq (⟨"DreamNetsModel", "byteAt", "(I)I"⟩, 36) := ⟨⟨by decide +kernel, by decide +kernel⟩, List.mem_of_getElem? (i := 1036) (by decide +kernel), List.mem_of_getElem? (i := 1170) (by decide +kernel), List.mem_of_getElem? (i := 1171) (by decide +kernel)⟩
theorem lw_p23 : lw_okq (⟨"DreamNetsModel", "wantClause", "()V"⟩, 36) := ⟨⟨by decide +kernel, by decide +kernel⟩, List.mem_of_getElem? (i := 1036) (by decide +kernel), List.mem_of_getElem? (i := 1183) (by decide +kernel), List.mem_of_getElem? (i := 1184) (by decide +kernel)⟩
theorem lw_p24 : lw_okq (⟨"DreamNetsModel", "kindHere", "()I"⟩, 36) := ⟨⟨by decide +kernel, by decide +kernel⟩, List.mem_of_getElem? (i := 1036) (by decide +kernel), List.mem_of_getElem? (i := 1187) (by decide +kernel), List.mem_of_getElem? (i := 1188) (by decide +kernel)⟩
theorem lw_p25 : lw_okq (⟨"DreamNetsModel", "isWord", "(J)Z"⟩, 36) := ⟨⟨by decide +kernel, by decide +kernel⟩, List.mem_of_getElem? (i := 1036) (by decide +kernel), List.mem_of_getElem? (i := 1192) (by decide +kernel), List.mem_of_getElem? (i := 1193) (by decide +kernel)⟩
theorem lw_p26 : lw_okq (⟨"DreamNetsModel", "wantBoat", "(I)V"⟩, 36) := ⟨⟨by decide +kernel, by decide +kernel⟩, List.mem_of_getElem? (i := 1036) (by decide +kernel), List.mem_of_getElem? (i := 1201) (by decide +kernel), List.mem_of_getElem? (i := 1202) (by decide +kernel)⟩
theorem lw_p27 : lw_okq (⟨"DreamNetsModel", "wantNumber", "(II)I"⟩, 36) := ⟨⟨by decide +kernel, by decide +kernel⟩, List.mem_of_getElem? (i := 1036) (by decide +kernel), List.mem_of_getElem? (i := 1205) (by decide +kernel), List.mem_of_getElem? (i := 1206) (by decide +kernel)⟩
theorem lw_p28 : lw_okq (⟨"DreamNetsModel", "wantWord", "(J)V"⟩, 36) := ⟨⟨by decide +kernel, by decide +kernel⟩, List.mem_of_getElem? (i := 1036) (by decide +kernel), List.mem_of_getElem? (i := 1210) (by decide +kernel), List.mem_of_getElem? (i := 1211) (by decide +kernel)⟩
theorem lw_p29 : lw_okq (⟨"DreamNetsModel", "wantEnd", "()V"⟩, 36) := ⟨⟨by decide +kernel, by decide +kernel⟩, List.mem_of_getElem? (i := 1036) (by decide +kernel), List.mem_of_getElem? (i := 1215) (by decide +kernel), List.mem_of_getElem? (i := 1216) (by decide +kernel)⟩
theorem lw_p30 : lw_okq (⟨"DreamNetsModel", "isMark", "(I)Z"⟩, 36) := ⟨⟨by decide +kernel, by decide +kernel⟩, List.mem_of_getElem? (i := 1036) (by decide +kernel), List.mem_of_getElem? (i := 1219) (by decide +kernel), List.mem_of_getElem? (i := 1220) (by decide +kernel)⟩
theorem lw_p31 : lw_okq (⟨"DreamNetsModel", "wantStreet", "()V"⟩, 36) := ⟨⟨by decide +kernel, by decide +kernel⟩, List.mem_of_getElem? (i := 1036) (by decide +kernel), List.mem_of_getElem? (i := 1224) (by decide +kernel), List.mem_of_getElem? (i := 1225) (by decide +kernel)⟩
def lw_privs_2 : List (MethodName × Nat) := [(⟨"DreamNets", "worthByMesh", "(III)I"⟩, 13), (⟨"DreamNets", "findShoal", "(LDreamNets$Sheet;)V"⟩, 13), (⟨"DreamNets", "countFits", "()I"⟩, 13), (⟨"DreamNets", "firstFit", "()I"⟩, 13), (⟨"DreamNets", "noRow", "(II)Z"⟩, 13), (⟨"DreamNetsModel", "advance", "()V"⟩, 36), (⟨"DreamNetsModel", "byteAt", "(I)I"⟩, 36), (⟨"DreamNetsModel", "wantClause", "()V"⟩, 36), (⟨"DreamNetsModel", "kindHere", "()I"⟩, 36), (⟨"DreamNetsModel", "isWord", "(J)Z"⟩, 36), (⟨"DreamNetsModel", "wantBoat", "(I)V"⟩, 36), (⟨"DreamNetsModel", "wantNumber", "(II)I"⟩, 36), (⟨"DreamNetsModel", "wantWord", "(J)V"⟩, 36), (⟨"DreamNetsModel", "wantEnd", "()V"⟩, 36), (⟨"DreamNetsModel", "isMark", "(I)Z"⟩, 36), (⟨"DreamNetsModel", "wantStreet", "()V"⟩, 36)]
theorem lw_r2 : ∀ q ∈ lw_privs_2, lw_okq q := List.forall_mem_cons.mpr ⟨lw_p16, List.forall_mem_cons.mpr ⟨lw_p17, List.forall_mem_cons.mpr ⟨lw_p18, List.forall_mem_cons.mpr ⟨lw_p19, List.forall_mem_cons.mpr ⟨lw_p20, List.forall_mem_cons.mpr ⟨lw_p21, List.forall_mem_cons.mpr ⟨lw_p22, List.forall_mem_cons.mpr ⟨lw_p23, List.forall_mem_cons.mpr ⟨lw_p24, List.forall_mem_cons.mpr ⟨lw_p25, List.forall_mem_cons.mpr ⟨lw_p26, List.forall_mem_cons.mpr ⟨lw_p27, List.forall_mem_cons.mpr ⟨lw_p28, List.forall_mem_cons.mpr ⟨lw_p29, List.forall_mem_cons.mpr ⟨lw_p30, List.forall_mem_cons.mpr ⟨lw_p31, fun _ h => absurd h List.not_mem_nil⟩⟩⟩⟩⟩⟩⟩⟩⟩⟩⟩⟩⟩⟩⟩⟩
theorem lw_p32 : lw_okq (⟨"DreamNetsModel", "wantSort", "()I"⟩, 36) := ⟨⟨by decide +kernel, by decide +kernel⟩, List.mem_of_getElem? (i := 1036) (by decide +kernel), List.mem_of_getElem? (i := 1229) (by decide +kernel), List.mem_of_getElem? (i := 1230) (by decide +kernel)⟩
theorem lw_p33 : lw_okq (⟨"DreamNetsModel", "sortHere", "()I"⟩, 36) := ⟨⟨by decide +kernel, by decide +kernel⟩, List.mem_of_getElem? (i := 1036) (by decide +kernel), List.mem_of_getElem? (i := 1233) (by decide +kernel), List.mem_of_getElem? (i := 1234) (by decide +kernel)⟩
theorem lw_p34 : lw_okq (⟨"DreamNetsModel", "wantPrice", "()V"⟩, 36) := ⟨⟨by decide +kernel, by decide +kernel⟩, List.mem_of_getElem? (i := 1036) (by decide +kernel), List.mem_of_getElem? (i := 1243) (by decide +kernel), List.mem_of_getElem? (i := 1244) (by decide +kernel)⟩
theorem lw_p35 : lw_okq (⟨"DreamNetsModel", "wantQuota", "()V"⟩, 36) := ⟨⟨by decide +kernel, by decide +kernel⟩, List.mem_of_getElem? (i := 1036) (by decide +kernel), List.mem_of_getElem? (i := 1248) (by decide +kernel), List.mem_of_getElem? (i := 1249) (by decide +kernel)⟩
theorem lw_p36 : lw_okq (⟨"DreamNetsModel", "becomes", "(II)I"⟩, 36) := ⟨⟨by decide +kernel, by decide +kernel⟩, List.mem_of_getElem? (i := 1036) (by decide +kernel), List.mem_of_getElem? (i := 1260) (by decide +kernel), List.mem_of_getElem? (i := 1261) (by decide +kernel)⟩
theorem lw_p37 : lw_okq (⟨"DreamNetsModel", "at", "(II)I"⟩, 36) := ⟨⟨by decide +kernel, by decide +kernel⟩, List.mem_of_getElem? (i := 1036) (by decide +kernel), List.mem_of_getElem? (i := 1286) (by decide +kernel), List.mem_of_getElem? (i := 1287) (by decide +kernel)⟩
theorem lw_p38 : lw_okq (⟨"DreamNetsModel", "stockOf", "(I)I"⟩, 36) := ⟨⟨by decide +kernel, by decide +kernel⟩, List.mem_of_getElem? (i := 1036) (by decide +kernel), List.mem_of_getElem? (i := 1297) (by decide +kernel), List.mem_of_getElem? (i := 1298) (by decide +kernel)⟩
theorem lw_p39 : lw_okq (⟨"DreamNetsModel", "sets", "(III)V"⟩, 36) := ⟨⟨by decide +kernel, by decide +kernel⟩, List.mem_of_getElem? (i := 1036) (by decide +kernel), List.mem_of_getElem? (i := 1312) (by decide +kernel), List.mem_of_getElem? (i := 1313) (by decide +kernel)⟩
theorem lw_p40 : lw_okq (⟨"DreamNetsModel", "isBoat", "(I)Z"⟩, 36) := ⟨⟨by decide +kernel, by decide +kernel⟩, List.mem_of_getElem? (i := 1036) (by decide +kernel), List.mem_of_getElem? (i := 1320) (by decide +kernel), List.mem_of_getElem? (i := 1321) (by decide +kernel)⟩
theorem lw_p41 : lw_okq (⟨"DreamNetsModel", "its", "(II)I"⟩, 36) := ⟨⟨by decide +kernel, by decide +kernel⟩, List.mem_of_getElem? (i := 1036) (by decide +kernel), List.mem_of_getElem? (i := 1324) (by decide +kernel), List.mem_of_getElem? (i := 1325) (by decide +kernel)⟩
theorem lw_p42 : lw_okq (⟨"DreamNetsModel", "worthOf", "(I)I"⟩, 36) := ⟨⟨by decide +kernel, by decide +kernel⟩, List.mem_of_getElem? (i := 1036) (by decide +kernel), List.mem_of_getElem? (i := 1328) (by decide +kernel), List.mem_of_getElem? (i := 1329) (by decide +kernel)⟩
theorem lw_p43 : lw_okq (⟨"DreamNetsModel", "takesOf", "(II)I"⟩, 36) := ⟨⟨by decide +kernel, by decide +kernel⟩, List.mem_of_getElem? (i := 1036) (by decide +kernel), List.mem_of_getElem? (i := 1352) (by decide +kernel), List.mem_of_getElem? (i := 1353) (by decide +kernel)⟩
theorem lw_p44 : lw_okq (⟨"DreamNetsModel", "tearsOf", "(I)I"⟩, 36) := ⟨⟨by decide +kernel, by decide +kernel⟩, List.mem_of_getElem? (i := 1036) (by decide +kernel), List.mem_of_getElem? (i := 1360) (by decide +kernel), List.mem_of_getElem? (i := 1361) (by decide +kernel)⟩
theorem lw_p45 : lw_okq (⟨"DreamNetsModel", "mayHaul", "(I)Z"⟩, 36) := ⟨⟨by decide +kernel, by decide +kernel⟩, List.mem_of_getElem? (i := 1036) (by decide +kernel), List.mem_of_getElem? (i := 1368) (by decide +kernel), List.mem_of_getElem? (i := 1369) (by decide +kernel)⟩
theorem lw_p46 : lw_okq (⟨"DreamNetsModel", "hauls", "(I)V"⟩, 36) := ⟨⟨by decide +kernel, by decide +kernel⟩, List.mem_of_getElem? (i := 1036) (by decide +kernel), List.mem_of_getElem? (i := 1372) (by decide +kernel), List.mem_of_getElem? (i := 1373) (by decide +kernel)⟩
theorem lw_p47 : lw_okq (⟨"DreamNetsModel", "setsAt", "(III)V"⟩, 36) := ⟨⟨by decide +kernel, by decide +kernel⟩, List.mem_of_getElem? (i := 1036) (by decide +kernel), List.mem_of_getElem? (i := 1376) (by decide +kernel), List.mem_of_getElem? (i := 1377) (by decide +kernel)⟩
def lw_privs_3 : List (MethodName × Nat) := [(⟨"DreamNetsModel", "wantSort", "()I"⟩, 36), (⟨"DreamNetsModel", "sortHere", "()I"⟩, 36), (⟨"DreamNetsModel", "wantPrice", "()V"⟩, 36), (⟨"DreamNetsModel", "wantQuota", "()V"⟩, 36), (⟨"DreamNetsModel", "becomes", "(II)I"⟩, 36), (⟨"DreamNetsModel", "at", "(II)I"⟩, 36), (⟨"DreamNetsModel", "stockOf", "(I)I"⟩, 36), (⟨"DreamNetsModel", "sets", "(III)V"⟩, 36), (⟨"DreamNetsModel", "isBoat", "(I)Z"⟩, 36), (⟨"DreamNetsModel", "its", "(II)I"⟩, 36), (⟨"DreamNetsModel", "worthOf", "(I)I"⟩, 36), (⟨"DreamNetsModel", "takesOf", "(II)I"⟩, 36), (⟨"DreamNetsModel", "tearsOf", "(I)I"⟩, 36), (⟨"DreamNetsModel", "mayHaul", "(I)Z"⟩, 36), (⟨"DreamNetsModel", "hauls", "(I)V"⟩, 36), (⟨"DreamNetsModel", "setsAt", "(III)V"⟩, 36)]
theorem lw_r3 : ∀ q ∈ lw_privs_3, lw_okq q := List.forall_mem_cons.mpr ⟨lw_p32, List.forall_mem_cons.mpr ⟨lw_p33, List.forall_mem_cons.mpr ⟨lw_p34, List.forall_mem_cons.mpr ⟨lw_p35, List.forall_mem_cons.mpr ⟨lw_p36, List.forall_mem_cons.mpr ⟨lw_p37, List.forall_mem_cons.mpr ⟨lw_p38, List.forall_mem_cons.mpr ⟨lw_p39, List.forall_mem_cons.mpr ⟨lw_p40, List.forall_mem_cons.mpr ⟨lw_p41, List.forall_mem_cons.mpr ⟨lw_p42, List.forall_mem_cons.mpr ⟨lw_p43, List.forall_mem_cons.mpr ⟨lw_p44, List.forall_mem_cons.mpr ⟨lw_p45, List.forall_mem_cons.mpr ⟨lw_p46, List.forall_mem_cons.mpr ⟨lw_p47, fun _ h => absurd h List.not_mem_nil⟩⟩⟩⟩⟩⟩⟩⟩⟩⟩⟩⟩⟩⟩⟩⟩
theorem lw_p48 : lw_okq (⟨"DreamNetsModel", "bellGoes", "()V"⟩, 36) := ⟨⟨by decide +kernel, by decide +kernel⟩, List.mem_of_getElem? (i := 1036) (by decide +kernel), List.mem_of_getElem? (i := 1395) (by decide +kernel), List.mem_of_getElem? (i := 1396) (by decide +kernel)⟩
theorem lw_p49 : lw_okq (⟨"DreamNetsModel", "casts", "(I)I"⟩, 36) := ⟨⟨by decide +kernel, by decide +kernel⟩, List.mem_of_getElem? (i := 1036) (by decide +kernel), List.mem_of_getElem? (i := 1403) (by decide +kernel), List.mem_of_getElem? (i := 1404) (by decide +kernel)⟩
theorem lw_p50 : lw_okq (⟨"DreamNetsModel", "drawn", "()I"⟩, 36) := ⟨⟨by decide +kernel, by decide +kernel⟩, List.mem_of_getElem? (i := 1036) (by decide +kernel), List.mem_of_getElem? (i := 1407) (by decide +kernel), List.mem_of_getElem? (i := 1408) (by decide +kernel)⟩
theorem lw_p51 : lw_okq (⟨"DreamNetsModel", "nightGoes", "()I"⟩, 36) := ⟨⟨by decide +kernel, by decide +kernel⟩, List.mem_of_getElem? (i := 1036) (by decide +kernel), List.mem_of_getElem? (i := 1420) (by decide +kernel), List.mem_of_getElem? (i := 1421) (by decide +kernel)⟩
theorem lw_p52 : lw_okq (⟨"DreamNetsModel", "sumOf", "(I)I"⟩, 36) := ⟨⟨by decide +kernel, by decide +kernel⟩, List.mem_of_getElem? (i := 1036) (by decide +kernel), List.mem_of_getElem? (i := 1432) (by decide +kernel), List.mem_of_getElem? (i := 1433) (by decide +kernel)⟩
theorem lw_p53 : lw_okq (⟨"DreamNetsModel", "emptySet", "()I"⟩, 36) := ⟨⟨by decide +kernel, by decide +kernel⟩, List.mem_of_getElem? (i := 1036) (by decide +kernel), List.mem_of_getElem? (i := 1436) (by decide +kernel), List.mem_of_getElem? (i := 1437) (by decide +kernel)⟩
theorem lw_p54 : lw_okq (⟨"DreamNetsModel", "maySet", "()I"⟩, 36) := ⟨⟨by decide +kernel, by decide +kernel⟩, List.mem_of_getElem? (i := 1036) (by decide +kernel), List.mem_of_getElem? (i := 1440) (by decide +kernel), List.mem_of_getElem? (i := 1441) (by decide +kernel)⟩
theorem lw_p55 : lw_okq (⟨"DreamNetsModel", "findPlan", "(II)V"⟩, 36) := ⟨⟨by decide +kernel, by decide +kernel⟩, List.mem_of_getElem? (i := 1036) (by decide +kernel), List.mem_of_getElem? (i := 1448) (by decide +kernel), List.mem_of_getElem? (i := 1449) (by decide +kernel)⟩
theorem lw_p56 : lw_okq (⟨"DreamNetsModel", "just", "(II)J"⟩, 36) := ⟨⟨by decide +kernel, by decide +kernel⟩, List.mem_of_getElem? (i := 1036) (by decide +kernel), List.mem_of_getElem? (i := 1507) (by decide +kernel), List.mem_of_getElem? (i := 1508) (by decide +kernel)⟩
theorem lw_p57 : lw_okq (⟨"DreamNetsModel", "findRows", "(II)V"⟩, 36) := ⟨⟨by decide +kernel, by decide +kernel⟩, List.mem_of_getElem? (i := 1036) (by decide +kernel), List.mem_of_getElem? (i := 1515) (by decide +kernel), List.mem_of_getElem? (i := 1516) (by decide +kernel)⟩
theorem lw_p58 : lw_okq (⟨"DreamNetsModel", "isRow", "(II)Z"⟩, 36) := ⟨⟨by decide +kernel, by decide +kernel⟩, List.mem_of_getElem? (i := 1036) (by decide +kernel), List.mem_of_getElem? (i := 1523) (by decide +kernel), List.mem_of_getElem? (i := 1524) (by decide +kernel)⟩
theorem lw_p59 : lw_okq (⟨"DreamNetsModel", "lacksSort", "(II)I"⟩, 36) := ⟨⟨by decide +kernel, by decide +kernel⟩, List.mem_of_getElem? (i := 1036) (by decide +kernel), List.mem_of_getElem? (i := 1539) (by decide +kernel), List.mem_of_getElem? (i := 1540) (by decide +kernel)⟩
theorem lw_p60 : lw_okq (⟨"DreamNetsModel", "isHeld", "(II)Z"⟩, 36) := ⟨⟨by decide +kernel, by decide +kernel⟩, List.mem_of_getElem? (i := 1036) (by decide +kernel), List.mem_of_getElem? (i := 1559) (by decide +kernel), List.mem_of_getElem? (i := 1560) (by decide +kernel)⟩
theorem lw_p61 : lw_okq (⟨"DreamNetsModel", "kindOn", "(I)I"⟩, 36) := ⟨⟨by decide +kernel, by decide +kernel⟩, List.mem_of_getElem? (i := 1036) (by decide +kernel), List.mem_of_getElem? (i := 1567) (by decide +kernel), List.mem_of_getElem? (i := 1568) (by decide +kernel)⟩
theorem lw_p62 : lw_okq (⟨"DreamNetsModel", "dragsIt", "(I)I"⟩, 36) := ⟨⟨by decide +kernel, by decide +kernel⟩, List.mem_of_getElem? (i := 1036) (by decide +kernel), List.mem_of_getElem? (i := 1578) (by decide +kernel), List.mem_of_getElem? (i := 1579) (by decide +kernel)⟩
theorem lw_p63 : lw_okq (⟨"DreamNetsModel", "drifterDrags", "(I)I"⟩, 36) := ⟨⟨by decide +kernel, by decide +kernel⟩, List.mem_of_getElem? (i := 1036) (by decide +kernel), List.mem_of_getElem? (i := 1582) (by decide +kernel), List.mem_of_getElem? (i := 1583) (by decide +kernel)⟩
def lw_privs_4 : List (MethodName × Nat) := [(⟨"DreamNetsModel", "bellGoes", "()V"⟩, 36), (⟨"DreamNetsModel", "casts", "(I)I"⟩, 36), (⟨"DreamNetsModel", "drawn", "()I"⟩, 36), (⟨"DreamNetsModel", "nightGoes", "()I"⟩, 36), (⟨"DreamNetsModel", "sumOf", "(I)I"⟩, 36), (⟨"DreamNetsModel", "emptySet", "()I"⟩, 36), (⟨"DreamNetsModel", "maySet", "()I"⟩, 36), (⟨"DreamNetsModel", "findPlan", "(II)V"⟩, 36), (⟨"DreamNetsModel", "just", "(II)J"⟩, 36), (⟨"DreamNetsModel", "findRows", "(II)V"⟩, 36), (⟨"DreamNetsModel", "isRow", "(II)Z"⟩, 36), (⟨"DreamNetsModel", "lacksSort", "(II)I"⟩, 36), (⟨"DreamNetsModel", "isHeld", "(II)Z"⟩, 36), (⟨"DreamNetsModel", "kindOn", "(I)I"⟩, 36), (⟨"DreamNetsModel", "dragsIt", "(I)I"⟩, 36), (⟨"DreamNetsModel", "drifterDrags", "(I)I"⟩, 36)]
theorem lw_r4 : ∀ q ∈ lw_privs_4, lw_okq q := List.forall_mem_cons.mpr ⟨lw_p48, List.forall_mem_cons.mpr ⟨lw_p49, List.forall_mem_cons.mpr ⟨lw_p50, List.forall_mem_cons.mpr ⟨lw_p51, List.forall_mem_cons.mpr ⟨lw_p52, List.forall_mem_cons.mpr ⟨lw_p53, List.forall_mem_cons.mpr ⟨lw_p54, List.forall_mem_cons.mpr ⟨lw_p55, List.forall_mem_cons.mpr ⟨lw_p56, List.forall_mem_cons.mpr ⟨lw_p57, List.forall_mem_cons.mpr ⟨lw_p58, List.forall_mem_cons.mpr ⟨lw_p59, List.forall_mem_cons.mpr ⟨lw_p60, List.forall_mem_cons.mpr ⟨lw_p61, List.forall_mem_cons.mpr ⟨lw_p62, List.forall_mem_cons.mpr ⟨lw_p63, fun _ h => absurd h List.not_mem_nil⟩⟩⟩⟩⟩⟩⟩⟩⟩⟩⟩⟩⟩⟩⟩⟩
theorem lw_p64 : lw_okq (⟨"DreamNetsModel", "ran", "(I)V"⟩, 36) := ⟨⟨by decide +kernel, by decide +kernel⟩, List.mem_of_getElem? (i := 1036) (by decide +kernel), List.mem_of_getElem? (i := 1586) (by decide +kernel), List.mem_of_getElem? (i := 1587) (by decide +kernel)⟩
theorem lw_p65 : lw_okq (⟨"DreamNetsModel", "plainDrags", "(I)I"⟩, 36) := ⟨⟨by decide +kernel, by decide +kernel⟩, List.mem_of_getElem? (i := 1036) (by decide +kernel), List.mem_of_getElem? (i := 1590) (by decide +kernel), List.mem_of_getElem? (i := 1591) (by decide +kernel)⟩
theorem lw_p66 : lw_okq (⟨"DreamNetsModel", "landsIt", "(I)I"⟩, 36) := ⟨⟨by decide +kernel, by decide +kernel⟩, List.mem_of_getElem? (i := 1036) (by decide +kernel), List.mem_of_getElem? (i := 1594) (by decide +kernel), List.mem_of_getElem? (i := 1595) (by decide +kernel)⟩
theorem lw_p67 : lw_okq (⟨"DreamNetsModel", "plainLands", "(I)I"⟩, 36) := ⟨⟨by decide +kernel, by decide +kernel⟩, List.mem_of_getElem? (i := 1036) (by decide +kernel), List.mem_of_getElem? (i := 1598) (by decide +kernel), List.mem_of_getElem? (i := 1599) (by decide +kernel)⟩
theorem lw_p68 : lw_okq (⟨"DreamNetsModel", "mendsIt", "(I)I"⟩, 36) := ⟨⟨by decide +kernel, by decide +kernel⟩, List.mem_of_getElem? (i := 1036) (by decide +kernel), List.mem_of_getElem? (i := 1602) (by decide +kernel), List.mem_of_getElem? (i := 1603) (by decide +kernel)⟩
theorem lw_p69 : lw_okq (⟨"DreamNetsModel", "plainMends", "(I)I"⟩, 36) := ⟨⟨by decide +kernel, by decide +kernel⟩, List.mem_of_getElem? (i := 1036) (by decide +kernel), List.mem_of_getElem? (i := 1606) (by decide +kernel), List.mem_of_getElem? (i := 1607) (by decide +kernel)⟩
theorem lw_p70 : lw_okq (⟨"DreamNetsModel", "humsIt", "(I)I"⟩, 36) := ⟨⟨by decide +kernel, by decide +kernel⟩, List.mem_of_getElem? (i := 1036) (by decide +kernel), List.mem_of_getElem? (i := 1610) (by decide +kernel), List.mem_of_getElem? (i := 1611) (by decide +kernel)⟩
theorem lw_p71 : lw_okq (⟨"DreamNetsModel", "plainHums", "(I)I"⟩, 36) := ⟨⟨by decide +kernel, by decide +kernel⟩, List.mem_of_getElem? (i := 1036) (by decide +kernel), List.mem_of_getElem? (i := 1614) (by decide +kernel), List.mem_of_getElem? (i := 1615) (by decide +kernel)⟩
theorem lw_p72 : lw_okq (⟨"DreamNetsModel", "tornMany", "()I"⟩, 36) := ⟨⟨by decide +kernel, by decide +kernel⟩, List.mem_of_getElem? (i := 1036) (by decide +kernel), List.mem_of_getElem? (i := 1626) (by decide +kernel), List.mem_of_getElem? (i := 1627) (by decide +kernel)⟩
theorem lw_p73 : lw_okq (⟨"DreamNetsModel", "sleepersMany", "()I"⟩, 36) := ⟨⟨by decide +kernel, by decide +kernel⟩, List.mem_of_getElem? (i := 1036) (by decide +kernel), List.mem_of_getElem? (i := 1630) (by decide +kernel), List.mem_of_getElem? (i := 1631) (by decide +kernel)⟩
theorem lw_p74 : lw_okq (⟨"DreamNetsModel", "fullMany", "()I"⟩, 36) := ⟨⟨by decide +kernel, by decide +kernel⟩, List.mem_of_getElem? (i := 1036) (by decide +kernel), List.mem_of_getElem? (i := 1634) (by decide +kernel), List.mem_of_getElem? (i := 1635) (by decide +kernel)⟩
def lw_privs_5 : List (MethodName × Nat) := [(⟨"DreamNetsModel", "ran", "(I)V"⟩, 36), (⟨"DreamNetsModel", "plainDrags", "(I)I"⟩, 36), (⟨"DreamNetsModel", "landsIt", "(I)I"⟩, 36), (⟨"DreamNetsModel", "plainLands", "(I)I"⟩, 36), (⟨"DreamNetsModel", "mendsIt", "(I)I"⟩, 36), (⟨"DreamNetsModel", "plainMends", "(I)I"⟩, 36), (⟨"DreamNetsModel", "humsIt", "(I)I"⟩, 36), (⟨"DreamNetsModel", "plainHums", "(I)I"⟩, 36), (⟨"DreamNetsModel", "tornMany", "()I"⟩, 36), (⟨"DreamNetsModel", "sleepersMany", "()I"⟩, 36), (⟨"DreamNetsModel", "fullMany", "()I"⟩, 36)]
theorem lw_r5 : ∀ q ∈ lw_privs_5, lw_okq q := List.forall_mem_cons.mpr ⟨lw_p64, List.forall_mem_cons.mpr ⟨lw_p65, List.forall_mem_cons.mpr ⟨lw_p66, List.forall_mem_cons.mpr ⟨lw_p67, List.forall_mem_cons.mpr ⟨lw_p68, List.forall_mem_cons.mpr ⟨lw_p69, List.forall_mem_cons.mpr ⟨lw_p70, List.forall_mem_cons.mpr ⟨lw_p71, List.forall_mem_cons.mpr ⟨lw_p72, List.forall_mem_cons.mpr ⟨lw_p73, List.forall_mem_cons.mpr ⟨lw_p74, fun _ h => absurd h List.not_mem_nil⟩⟩⟩⟩⟩⟩⟩⟩⟩⟩⟩
def lw_privs : List (MethodName × Nat) := lw_privs_1 ++ (lw_privs_2 ++ (lw_privs_3 ++ (lw_privs_4 ++ (lw_privs_5))))
def lw_tbl : List Cond := k2_sels lw_privs ++ tables_1
theorem lw_privs_ok : ∀ q ∈ lw_privs, lw_okq q := by
  show ∀ q ∈ lw_privs_1 ++ (lw_privs_2 ++ (lw_privs_3 ++ (lw_privs_4 ++ (lw_privs_5)))), lw_okq q
  exact List.forall_mem_append.mpr ⟨lw_r1, List.forall_mem_append.mpr ⟨lw_r2, List.forall_mem_append.mpr ⟨lw_r3, List.forall_mem_append.mpr ⟨lw_r4, lw_r5⟩⟩⟩⟩
-- ===== end of PART A; then your names; then what follows =====
end
section
section
/-! printed by a program of mine (wip/whole/gen/prog.py) out of the claim: the program with its links resolved; a method's number is 8 times its place and how many arguments it takes; a field's 1024 times its kind, 64 times its class and its place; a block begins where a jump ends -/
/- 0: DreamNets.<init>()V -/
def c_0_0 : List Instr := [.aload 0, .invokedynamic 5, .aload 0, .new 582, .dup, .invokespecial 1760, .putfield 2820, .aload 0, .new 69, .dup, .invokespecial 1920, .putfield 2821, .aload 0, .ldc_w 4, .anewarray 110, .putfield 2822, .aload 0, .ldc_w 4, .newarray .int, .putfield 2823, .aload 0, .ldc_w 4, .anewarray 110, .putfield 2824, .aload 0, .ldc_w 30, .newarray .int, .putfield 2825, .aload 0, .ldc_w 40, .newarray .boolean, .putfield 2826, .invokestatic 8, .astore 1, .aload 0, .new 722, .dup, .aload 1, .invokespecial 1569, .putfield 2816, .aload 0, .new 722, .dup, .aload 1, .invokespecial 1569, .putfield 2817, .aload 0, .new 722, .dup, .aload 1, .invokespecial 1569, .putfield 2818, .aload 0, .new 390, .dup, .aload 1, .invokespecial 2257, .putfield 2819, .ldc_w 0, .istore 2, .jsr 1]
def c_0_1 : List Instr := [.iload 2, .ldc_w 4, .if_icmp .ge 2, .aload 0, .getfield 2823, .iload 2, .iconst (-1), .iastore, .iinc 2 1, .goto 1]
def c_0_2 : List Instr := [.return_]
/- 8: DreamNets.boatsOfEachKind()[LDreamNets$Boat; -/
def c_8_0 : List Instr := [.ldc_w 6, .anewarray 111, .astore 0, .aload 0, .ldc_w 0, .new 128, .dup, .invokespecial 1960, .aastore, .aload 0, .ldc_w 1, .new 448, .dup, .invokespecial 2024, .aastore, .aload 0, .ldc_w 2, .new 256, .dup, .invokespecial 2064, .aastore, .aload 0, .ldc_w 3, .new 640, .dup, .invokespecial 2112, .aastore, .aload 0, .ldc_w 4, .new 192, .dup, .invokespecial 2160, .aastore, .aload 0, .ldc_w 5, .new 320, .dup, .invokespecial 2208, .aastore, .aload 0, .areturn]
/- 18: DreamNets.feed(JI)I -/
def c_18_0 : List Instr := [.iload 3, .ldc_w 1, .ldc_w 8, .invokestatic 27, .ifCond .eq 1, .iconst (-1), .ireturn]
def c_18_1 : List Instr := [.aload 0, .getfield 2820, .getfield 577, .iload 3, .iadd, .ldc_w 200, .if_icmp .le 2, .iconst (-2), .ireturn]
def c_18_2 : List Instr := [.ldc_w 0, .istore 4, .jsr 3]
def c_18_3 : List Instr := [.iload 4, .iload 3, .if_icmp .ge 4, .aload 0, .getfield 2820, .lload 1, .ldc_w 8, .iload 4, .imul, .lushr, .l2i, .ldc_w 255, .iand, .invokevirtual 91769, .iinc 4 1, .goto 3]
def c_18_4 : List Instr := [.aload 0, .getfield 2820, .getfield 577, .ireturn]
/- 27: DreamNets.outside(III)Z -/
def c_27_0 : List Instr := [.iload 0, .iload 1, .if_icmp .lt 1, .iload 0, .iload 2, .if_icmp .le 2, .jsr 1]
def c_27_1 : List Instr := [.ldc_w 1, .goto 3]
def c_27_2 : List Instr := [.ldc_w 0, .jsr 3]
def c_27_3 : List Instr := [.ireturn]
/- 32: DreamNets.harbour()I -/
def c_32_0 : List Instr := [.aload 0, .getfield 2818, .invokevirtual 111576, .aload 0, .getfield 2818, .aload 0, .getfield 2816, .getfield 721, .putfield 721, .aload 0, .getfield 2820, .aload 0, .getfield 2818, .invokevirtual 91777, .istore 1, .aload 0, .getfield 2820, .ldc_w 0, .putfield 577, .iload 1, .ifCond .ne 1, .iconst (-100), .aload 0, .getfield 2820, .getfield 578, .isub, .ireturn]
def c_32_1 : List Instr := [.aload 0, .getfield 2816, .aload 0, .getfield 2818, .invokevirtual 111593, .aload 0, .ldc_w 0, .putfield 779, .aload 0, .getfield 2816, .getfield 718, .ireturn]
/- 42: DreamNets.set(II)I -/
def c_42_0 : List Instr := [.iload 1, .ldc_w 0, .ldc_w 2, .invokestatic 27, .ifCond .ne 1, .iload 2, .getstatic 3, .iload 1, .iaload, .getstatic 4, .iload 1, .iaload, .invokestatic 27, .ifCond .eq 2, .jsr 1]
def c_42_1 : List Instr := [.iconst (-1), .ireturn]
def c_42_2 : List Instr := [.aload 0, .getfield 2816, .getfield 2753, .iload 1, .iload 2, .invokestatic 51, .ireturn]
/- 51: DreamNets.exchange([III)I -/
def c_51_0 : List Instr := [.aload 0, .iload 1, .iaload, .istore 3, .aload 0, .iload 1, .iload 2, .iastore, .iload 3, .ireturn]
/- 57: DreamNets.lawOf(I)I -/
def c_57_0 : List Instr := [.iload 1, .ldc_w 0, .ldc_w 2, .invokestatic 27, .ifCond .eq 1, .iconst (-1), .goto 2]
def c_57_1 : List Instr := [.aload 0, .getfield 2816, .getfield 2753, .iload 1, .iaload, .jsr 2]
def c_57_2 : List Instr := [.ireturn]
/- 66: DreamNets.price(II)I -/
def c_66_0 : List Instr := [.iload 1, .invokestatic 73, .ifCond .ne 1, .iload 2, .ldc_w 1, .ldc_w 30, .invokestatic 27, .ifCond .eq 2, .jsr 1]
def c_66_1 : List Instr := [.iconst (-1), .ireturn]
def c_66_2 : List Instr := [.aload 0, .getfield 2816, .getfield 2754, .iload 1, .iload 2, .invokestatic 51, .ireturn]
/- 73: DreamNets.noSort(I)Z -/
def c_73_0 : List Instr := [.iload 0, .ldc_w 0, .ldc_w 4, .invokestatic 27, .ireturn]
/- 82: DreamNets.quota(II)I -/
def c_82_0 : List Instr := [.iload 1, .invokestatic 89, .ifCond .ne 1, .iload 2, .ldc_w 0, .ldc_w 999, .invokestatic 27, .ifCond .eq 2, .jsr 1]
def c_82_1 : List Instr := [.iconst (-1), .ireturn]
def c_82_2 : List Instr := [.aload 0, .getfield 2816, .getfield 2758, .iload 1, .iload 2, .invokestatic 51, .ireturn]
/- 89: DreamNets.noWard(I)Z -/
def c_89_0 : List Instr := [.iload 0, .ldc_w 0, .ldc_w 3, .invokestatic 27, .ireturn]
/- 98: DreamNets.ward(II)I -/
def c_98_0 : List Instr := [.iload 1, .invokestatic 89, .ifCond .eq 1, .iconst (-1), .ireturn]
def c_98_1 : List Instr := [.iload 2, .tableswitch 5 0 2 #[2, 3, 4]]
def c_98_2 : List Instr := [.aload 0, .getfield 2816, .getfield 2758, .iload 1, .iaload, .ireturn]
def c_98_3 : List Instr := [.aload 0, .getfield 2816, .getfield 2759, .iload 1, .iaload, .ireturn]
def c_98_4 : List Instr := [.aload 0, .getfield 2816, .iload 1, .invokevirtual 111601, .ireturn]
def c_98_5 : List Instr := [.iconst (-1), .ireturn]
/- 106: DreamNets.street(II)I -/
def c_106_0 : List Instr := [.iload 1, .invokestatic 113, .ifCond .ne 1, .iload 2, .ldc_w 0, .ldc_w 7, .invokestatic 27, .ifCond .eq 2, .jsr 1]
def c_106_1 : List Instr := [.iconst (-1), .ireturn]
def c_106_2 : List Instr := [.iload 2, .tableswitch 6 5 7 #[3, 4, 5]]
def c_106_3 : List Instr := [.aload 0, .getfield 2816, .getfield 2756, .iload 1, .iaload, .ireturn]
def c_106_4 : List Instr := [.aload 0, .getfield 2816, .getfield 2757, .iload 1, .iaload, .ireturn]
def c_106_5 : List Instr := [.aload 0, .getfield 2816, .iload 1, .invokevirtual 111609, .ireturn]
def c_106_6 : List Instr := [.aload 0, .getfield 2816, .getfield 2755, .iload 1, .ldc_w 5, .imul, .iload 2, .iadd, .iaload, .ireturn]
/- 113: DreamNets.noStreet(I)Z -/
def c_113_0 : List Instr := [.iload 0, .ldc_w 0, .ldc_w 7, .invokestatic 27, .ireturn]
/- 123: DreamNets.sleep(III)I -/
def c_123_0 : List Instr := [.iload 1, .invokestatic 113, .ifCond .ne 1, .iload 2, .ldc_w 0, .ldc_w 5, .invokestatic 27, .ifCond .eq 2, .jsr 1]
def c_123_1 : List Instr := [.iconst (-1), .ireturn]
def c_123_2 : List Instr := [.iload 3, .ldc_w 0, .iload 2, .ldc_w 5, .if_icmp .ne 3, .ldc_w 9, .goto 4]
def c_123_3 : List Instr := [.ldc_w 99, .jsr 4]
def c_123_4 : List Instr := [.invokestatic 27, .ifCond .eq 5, .iconst (-1), .ireturn]
def c_123_5 : List Instr := [.iload 2, .ldc_w 5, .if_icmp .ne 6, .aload 0, .getfield 2816, .getfield 2756, .iload 1, .iload 3, .invokestatic 51, .ireturn]
def c_123_6 : List Instr := [.aload 0, .getfield 2816, .getfield 2755, .iload 1, .ldc_w 5, .imul, .iload 2, .iadd, .iload 3, .invokestatic 51, .ireturn]
/- 132: DreamNets.boat(IIII)I -/
def c_132_0 : List Instr := [.iload 1, .invokestatic 137, .ifCond .ne 1, .iload 2, .ldc_w 0, .ldc_w 9, .invokestatic 27, .ifCond .ne 1, .iload 3, .invokestatic 113, .ifCond .ne 1, .iload 4, .ldc_w 0, .ldc_w 9, .invokestatic 27, .ifCond .eq 2, .jsr 1]
def c_132_1 : List Instr := [.iconst (-1), .ireturn]
def c_132_2 : List Instr := [.aload 0, .getfield 2816, .getfield 718, .ldc_w 6, .if_icmp .lt 3, .iconst (-2), .ireturn]
def c_132_3 : List Instr := [.aload 0, .getfield 2816, .iload 1, .iload 2, .iload 3, .iload 4, .invokevirtual 111588, .ireturn]
/- 137: DreamNets.noKind(I)Z -/
def c_137_0 : List Instr := [.iload 0, .ldc_w 0, .ldc_w 5, .invokestatic 27, .ireturn]
/- 146: DreamNets.of(II)I -/
def c_146_0 : List Instr := [.aload 0, .iload 1, .invokevirtual 120153, .ifCond .ne 1, .iload 2, .ldc_w 0, .ldc_w 10, .invokestatic 27, .ifCond .eq 2, .jsr 1]
def c_146_1 : List Instr := [.iconst (-1), .ireturn]
def c_146_2 : List Instr := [.iload 2, .tableswitch 9 0 10 #[3, 4, 5, 6, 7, 9, 9, 9, 9, 9, 8]]
def c_146_3 : List Instr := [.aload 0, .getfield 2816, .getfield 2760, .iload 1, .iaload, .ireturn]
def c_146_4 : List Instr := [.aload 0, .getfield 2816, .getfield 2761, .iload 1, .iaload, .ireturn]
def c_146_5 : List Instr := [.aload 0, .getfield 2816, .getfield 2762, .iload 1, .iaload, .ireturn]
def c_146_6 : List Instr := [.aload 0, .getfield 2816, .getfield 2763, .iload 1, .iaload, .ireturn]
def c_146_7 : List Instr := [.aload 0, .getfield 2816, .getfield 2764, .iload 1, .iaload, .ireturn]
def c_146_8 : List Instr := [.aload 0, .getfield 2816, .iload 1, .invokevirtual 111617, .ireturn]
def c_146_9 : List Instr := [.aload 0, .getfield 2816, .getfield 2765, .iload 1, .ldc_w 5, .imul, .iload 2, .iadd, .ldc_w 5, .isub, .iaload, .ireturn]
/- 153: DreamNets.noBoat(I)Z -/
def c_153_0 : List Instr := [.iload 1, .ldc_w 0, .aload 0, .getfield 2816, .getfield 718, .ldc_w 1, .isub, .invokestatic 27, .ireturn]
/- 163: DreamNets.mind(III)I -/
def c_163_0 : List Instr := [.aload 0, .iload 1, .invokevirtual 120153, .ifCond .ne 1, .iload 2, .invokestatic 137, .ifCond .ne 1, .iload 3, .ldc_w 0, .ldc_w 9, .invokestatic 27, .ifCond .eq 2, .jsr 1]
def c_163_1 : List Instr := [.iconst (-1), .ireturn]
def c_163_2 : List Instr := [.aload 0, .getfield 2816, .getfield 2761, .iload 1, .iload 3, .iastore, .aload 0, .getfield 2816, .getfield 2760, .iload 1, .iload 2, .invokestatic 51, .ireturn]
/- 170: DreamNets.move(II)I -/
def c_170_0 : List Instr := [.aload 0, .iload 1, .invokevirtual 120153, .ifCond .ne 1, .iload 2, .invokestatic 113, .ifCond .eq 2, .jsr 1]
def c_170_1 : List Instr := [.iconst (-1), .ireturn]
def c_170_2 : List Instr := [.aload 0, .getfield 2816, .getfield 2762, .iload 1, .iload 2, .invokestatic 51, .ireturn]
/- 178: DreamNets.mesh(II)I -/
def c_178_0 : List Instr := [.aload 0, .iload 1, .invokevirtual 120153, .ifCond .ne 1, .iload 2, .ldc_w 0, .ldc_w 9, .invokestatic 27, .ifCond .eq 2, .jsr 1]
def c_178_1 : List Instr := [.iconst (-1), .ireturn]
def c_178_2 : List Instr := [.aload 0, .getfield 2816, .getfield 2763, .iload 1, .iload 2, .invokestatic 51, .ireturn]
/- 185: DreamNets.patch(I)I -/
def c_185_0 : List Instr := [.aload 0, .iload 1, .invokevirtual 120153, .ifCond .eq 1, .iconst (-1), .goto 2]
def c_185_1 : List Instr := [.aload 0, .getfield 2816, .getfield 2764, .iload 1, .ldc_w 0, .invokestatic 51, .jsr 2]
def c_185_2 : List Instr := [.ireturn]
/- 194: DreamNets.takes(II)I -/
def c_194_0 : List Instr := [.aload 0, .iload 1, .invokevirtual 120153, .ifCond .ne 1, .iload 2, .invokestatic 73, .ifCond .eq 2, .jsr 1]
def c_194_1 : List Instr := [.iconst (-1), .goto 3]
def c_194_2 : List Instr := [.aload 0, .getfield 2816, .iload 1, .iload 2, .invokevirtual 111626, .jsr 3]
def c_194_3 : List Instr := [.ireturn]
/- 201: DreamNets.tears(I)I -/
def c_201_0 : List Instr := [.aload 0, .iload 1, .invokevirtual 120153, .ifCond .eq 1, .iconst (-1), .goto 2]
def c_201_1 : List Instr := [.aload 0, .getfield 2816, .iload 1, .invokevirtual 111641, .jsr 2]
def c_201_2 : List Instr := [.ireturn]
/- 209: DreamNets.haul(I)I -/
def c_209_0 : List Instr := [.aload 0, .iload 1, .invokevirtual 120153, .ifCond .eq 1, .iconst (-1), .ireturn]
def c_209_1 : List Instr := [.aload 0, .getfield 2816, .iload 1, .invokevirtual 111649, .ifCond .eq 2, .aload 0, .getfield 2816, .iload 1, .invokevirtual 111657, .goto 3]
def c_209_2 : List Instr := [.iconst (-4), .jsr 3]
def c_209_3 : List Instr := [.ireturn]
/- 218: DreamNets.free(II)I -/
def c_218_0 : List Instr := [.aload 0, .iload 1, .invokevirtual 120153, .ifCond .ne 1, .iload 2, .invokestatic 73, .ifCond .eq 2, .jsr 1]
def c_218_1 : List Instr := [.iconst (-1), .ireturn]
def c_218_2 : List Instr := [.aload 0, .getfield 2816, .getfield 2765, .iload 1, .ldc_w 5, .imul, .iload 2, .iadd, .ldc_w 0, .invokestatic 51, .istore 3, .aload 0, .getfield 2816, .getfield 2762, .iload 1, .iaload, .ldc_w 5, .imul, .iload 2, .iadd, .istore 4, .aload 0, .getfield 2816, .getfield 2755, .iload 4, .ldc_w 99, .aload 0, .getfield 2816, .getfield 2755, .iload 4, .iaload, .iload 3, .iadd, .invokedynamic 4, .iastore, .iload 3, .ireturn]
/- 225: DreamNets.land(I)I -/
def c_225_0 : List Instr := [.aload 0, .iload 1, .invokevirtual 120153, .ifCond .eq 1, .iconst (-1), .ireturn]
def c_225_1 : List Instr := [.aload 0, .getfield 2816, .iload 1, .invokevirtual 111617, .istore 2, .aload 0, .getfield 2816, .dup, .getfield 720, .iload 2, .iadd, .putfield 720, .ldc_w 0, .istore 3, .jsr 2]
def c_225_2 : List Instr := [.iload 3, .ldc_w 5, .if_icmp .ge 3, .aload 0, .getfield 2816, .getfield 2765, .iload 1, .ldc_w 5, .imul, .iload 3, .iadd, .ldc_w 0, .iastore, .iinc 3 1, .goto 2]
def c_225_3 : List Instr := [.iload 2, .ireturn]
/- 233: DreamNets.bells(I)I -/
def c_233_0 : List Instr := [.iload 1, .ldc_w 1, .ldc_w 48, .invokestatic 27, .ifCond .eq 1, .iconst (-1), .ireturn]
def c_233_1 : List Instr := [.ldc_w 0, .istore 2, .jsr 2]
def c_233_2 : List Instr := [.iload 2, .iload 1, .if_icmp .ge 3, .aload 0, .getfield 2816, .invokevirtual 111664, .iinc 2 1, .goto 2]
def c_233_3 : List Instr := [.aload 0, .getfield 2816, .getfield 719, .ireturn]
/- 241: DreamNets.cast(I)I -/
def c_241_0 : List Instr := [.aload 0, .iload 1, .invokevirtual 120153, .ifCond .eq 1, .iconst (-1), .goto 2]
def c_241_1 : List Instr := [.aload 0, .getfield 2816, .iload 1, .invokevirtual 111681, .jsr 2]
def c_241_2 : List Instr := [.ireturn]
/- 249: DreamNets.seed(I)I -/
def c_249_0 : List Instr := [.aload 0, .getfield 2816, .getfield 721, .istore 2, .aload 0, .getfield 2816, .iload 1, .putfield 721, .iload 2, .ireturn]
/- 256: DreamNets.night()I -/
def c_256_0 : List Instr := [.aload 0, .getfield 2816, .invokevirtual 111696, .ireturn]
/- 266: DreamNets.month(II)I -/
def c_266_0 : List Instr := [.iload 1, .ldc_w 1, .ldc_w 30, .invokestatic 27, .ifCond .ne 1, .iload 2, .ldc_w 0, .ldc_w 999, .invokestatic 27, .ifCond .eq 2, .jsr 1]
def c_266_1 : List Instr := [.iconst (-1), .ireturn]
def c_266_2 : List Instr := [.aload 0, .getfield 2816, .getfield 721, .istore 3, .ldc_w 0, .istore 4, .ldc_w 0, .istore 5, .jsr 3]
def c_266_3 : List Instr := [.iload 5, .iload 1, .if_icmp .ge 5, .aload 0, .getfield 2818, .aload 0, .getfield 2816, .invokevirtual 111593, .aload 0, .getfield 2818, .iload 3, .putfield 721, .aload 0, .getfield 2818, .invokevirtual 111696, .iload 2, .if_icmp .lt 4, .iinc 4 1, .jsr 4]
def c_266_4 : List Instr := [.aload 0, .getfield 2818, .getfield 721, .istore 3, .iinc 5 1, .goto 3]
def c_266_5 : List Instr := [.iload 4, .ireturn]
/- 273: DreamNets.state(I)I -/
def c_273_0 : List Instr := [.iload 1, .tableswitch 7 0 5 #[1, 2, 3, 4, 5, 6]]
def c_273_1 : List Instr := [.aload 0, .getfield 2816, .getfield 719, .ireturn]
def c_273_2 : List Instr := [.aload 0, .getfield 2816, .getfield 720, .ireturn]
def c_273_3 : List Instr := [.aload 0, .getfield 2816, .getfield 2755, .ldc_w 40, .invokestatic 282, .ireturn]
def c_273_4 : List Instr := [.aload 0, .getfield 2816, .getfield 2765, .aload 0, .getfield 2816, .getfield 718, .ldc_w 5, .imul, .invokestatic 282, .ireturn]
def c_273_5 : List Instr := [.aload 0, .getfield 2816, .invokevirtual 111704, .ireturn]
def c_273_6 : List Instr := [.aload 0, .invokevirtual 120288, .ireturn]
def c_273_7 : List Instr := [.iconst (-1), .ireturn]
/- 282: DreamNets.sum([II)I -/
def c_282_0 : List Instr := [.ldc_w 0, .istore 2, .ldc_w 0, .istore 3, .jsr 1]
def c_282_1 : List Instr := [.iload 3, .iload 1, .if_icmp .ge 2, .iload 3, .aload 0, .arraylength, .if_icmp .ge 2, .iload 2, .aload 0, .iload 3, .iaload, .iadd, .istore 2, .iinc 3 1, .goto 1]
def c_282_2 : List Instr := [.iload 2, .ireturn]
/- 288: DreamNets.boatsThatMay()I -/
def c_288_0 : List Instr := [.ldc_w 0, .istore 1, .ldc_w 0, .istore 2, .jsr 1]
def c_288_1 : List Instr := [.iload 2, .aload 0, .getfield 2816, .getfield 718, .if_icmp .ge 3, .aload 0, .getfield 2816, .iload 2, .invokevirtual 111649, .ifCond .eq 2, .iload 1, .ldc_w 1, .iload 2, .ishl, .ior, .istore 1, .jsr 2]
def c_288_2 : List Instr := [.iinc 2 1, .goto 1]
def c_288_3 : List Instr := [.iload 1, .ireturn]
/- 298: DreamNets.plan(II)I -/
def c_298_0 : List Instr := [.aload 0, .iload 1, .invokevirtual 120153, .ifCond .ne 1, .iload 2, .ldc_w 0, .ldc_w 4, .invokestatic 27, .ifCond .eq 2, .jsr 1]
def c_298_1 : List Instr := [.iconst (-1), .ireturn]
def c_298_2 : List Instr := [.aload 0, .iload 1, .iload 2, .invokevirtual 120306, .aload 0, .getfield 2819, .getfield 389, .ireturn]
/- 306: DreamNets.findWay(II)V -/
def c_306_0 : List Instr := [.aload 0, .getfield 2819, .iload 1, .putfield 387, .aload 0, .getfield 2819, .iload 2, .putfield 388, .aload 0, .getfield 2819, .iconst (-1), .putfield 389, .aload 0, .getfield 2819, .getfield 2432, .ldc_w 0, .aaload, .aload 0, .getfield 2816, .invokevirtual 111593, .aload 0, .getfield 2819, .ldc_w 0, .ldc_w 0, .invokestatic 315, .return_]
/- 315: DreamNets.explore(LDreamNets$Search;II)V -/
def c_315_0 : List Instr := [.iload 1, .aload 0, .getfield 388, .if_icmp .ge 1, .iload 1, .ldc_w 4, .if_icmp .lt 2, .jsr 1]
def c_315_1 : List Instr := [.aload 0, .iload 2, .invokevirtual 62265, .return_]
def c_315_2 : List Instr := [.aload 0, .getfield 2432, .iload 1, .aaload, .astore 3, .aload 0, .getfield 2432, .iload 1, .ldc_w 1, .iadd, .aaload, .astore 4, .aload 3, .getfield 2762, .aload 0, .getfield 387, .iaload, .istore 5, .ldc_w 0, .istore 6, .jsr 3]
def c_315_3 : List Instr := [.iload 6, .ldc_w 8, .if_icmp .ge 6, .iload 6, .iload 5, .isub, .ldc_w 8, .iadd, .ldc_w 8, .irem, .istore 7, .iload 7, .ldc_w 1, .if_icmp .le 4, .iload 7, .ldc_w 7, .if_icmp .ne 5, .jsr 4]
def c_315_4 : List Instr := [.aload 4, .aload 3, .invokevirtual 111593, .aload 4, .getfield 2762, .aload 0, .getfield 387, .iload 6, .iastore, .aload 0, .getfield 2433, .iload 1, .iload 6, .iastore, .aload 4, .aload 0, .getfield 387, .invokevirtual 111713, .istore 8, .aload 4, .invokevirtual 111664, .aload 0, .iload 1, .ldc_w 1, .iadd, .iload 2, .iload 8, .iadd, .invokestatic 315, .jsr 5]
def c_315_5 : List Instr := [.iinc 6 1, .goto 3]
def c_315_6 : List Instr := [.return_]
/- 323: DreamNets.stop(III)I -/
def c_323_0 : List Instr := [.aload 0, .iload 1, .invokevirtual 120153, .ifCond .ne 1, .iload 2, .ldc_w 0, .ldc_w 4, .invokestatic 27, .ifCond .ne 1, .iload 3, .ldc_w 0, .ldc_w 3, .invokestatic 27, .ifCond .eq 2, .jsr 1]
def c_323_1 : List Instr := [.iconst (-1), .ireturn]
def c_323_2 : List Instr := [.iload 3, .iload 2, .if_icmp .lt 3, .iconst (-3), .ireturn]
def c_323_3 : List Instr := [.aload 0, .iload 1, .iload 2, .invokevirtual 120306, .aload 0, .getfield 2819, .getfield 2434, .iload 3, .iaload, .ireturn]
/- 331: DreamNets.fine(III)I -/
def c_331_0 : List Instr := [.aload 0, .iload 1, .invokevirtual 120153, .ifCond .ne 1, .iload 2, .ldc_w 1, .ldc_w 9, .invokestatic 27, .ifCond .ne 1, .iload 3, .ldc_w 0, .ldc_w 1, .invokestatic 27, .ifCond .eq 2, .jsr 1]
def c_331_1 : List Instr := [.iconst (-1), .ireturn]
def c_331_2 : List Instr := [.ldc_w 0, .istore 4, .ldc_w 0, .istore 5, .ldc_w 0, .istore 6, .jsr 3]
def c_331_3 : List Instr := [.iload 6, .ldc_w 9, .if_icmp .gt 5, .aload 0, .iload 1, .iload 6, .iload 2, .invokevirtual 120339, .istore 7, .iload 7, .iload 5, .if_icmp .lt 4, .iload 6, .istore 4, .iload 7, .istore 5, .jsr 4]
def c_331_4 : List Instr := [.iinc 6 1, .goto 3]
def c_331_5 : List Instr := [.iload 3, .ifCond .ne 6, .iload 4, .goto 7]
def c_331_6 : List Instr := [.iload 5, .jsr 7]
def c_331_7 : List Instr := [.ireturn]
/- 339: DreamNets.worthByMesh(III)I -/
def c_339_0 : List Instr := [.aload 0, .getfield 2818, .aload 0, .getfield 2816, .invokevirtual 111593, .aload 0, .getfield 2818, .getfield 2763, .iload 1, .iload 2, .iastore, .ldc_w 0, .istore 4, .ldc_w 0, .istore 5, .jsr 1]
def c_339_1 : List Instr := [.iload 5, .iload 3, .if_icmp .ge 2, .iload 4, .aload 0, .getfield 2818, .iload 1, .invokevirtual 111713, .iadd, .istore 4, .aload 0, .getfield 2818, .invokevirtual 111664, .iinc 5 1, .goto 1]
def c_339_2 : List Instr := [.iload 4, .ireturn]
/- 344: DreamNets.lasts()I -/
def c_344_0 : List Instr := [.aload 0, .getfield 2818, .aload 0, .getfield 2816, .invokevirtual 111593, .ldc_w 0, .istore 1, .jsr 1]
def c_344_1 : List Instr := [.iload 1, .ldc_w 48, .if_icmp .gt 5, .aload 0, .getfield 2818, .invokevirtual 111704, .ifCond .eq 2, .iload 1, .ireturn]
def c_344_2 : List Instr := [.ldc_w 0, .istore 2, .jsr 3]
def c_344_3 : List Instr := [.iload 2, .aload 0, .getfield 2818, .getfield 718, .if_icmp .ge 4, .aload 0, .getfield 2818, .iload 2, .invokevirtual 111657, .pop, .iinc 2 1, .goto 3]
def c_344_4 : List Instr := [.aload 0, .getfield 2818, .invokevirtual 111664, .iinc 1 1, .goto 1]
def c_344_5 : List Instr := [.iconst (-3), .ireturn]
/- 354: DreamNets.shoal(II)I -/
def c_354_0 : List Instr := [.iload 1, .invokestatic 361, .ifCond .ne 1, .iload 2, .ldc_w 0, .ldc_w 1, .invokestatic 27, .ifCond .eq 2, .jsr 1]
def c_354_1 : List Instr := [.iconst (-1), .ireturn]
def c_354_2 : List Instr := [.aload 0, .getfield 2822, .iload 1, .aaload, .ifnonnull 3, .iconst (-11), .ireturn]
def c_354_3 : List Instr := [.aload 0, .aload 0, .getfield 2822, .iload 1, .aaload, .invokevirtual 120369, .iload 2, .ifCond .ne 4, .aload 0, .invokevirtual 120376, .goto 5]
def c_354_4 : List Instr := [.aload 0, .invokevirtual 120384, .jsr 5]
def c_354_5 : List Instr := [.ireturn]
/- 361: DreamNets.noSheet(I)Z -/
def c_361_0 : List Instr := [.iload 0, .ldc_w 0, .ldc_w 3, .invokestatic 27, .ireturn]
/- 369: DreamNets.findShoal(LDreamNets$Sheet;)V -/
def c_369_0 : List Instr := [.ldc_w 0, .istore 2, .jsr 1]
def c_369_1 : List Instr := [.iload 2, .aload 0, .getfield 2826, .arraylength, .if_icmp .ge 2, .aload 0, .getfield 2826, .iload 2, .ldc_w 1, .bastore, .iinc 2 1, .goto 1]
def c_369_2 : List Instr := [.aload 0, .getfield 2818, .aload 0, .getfield 2816, .invokevirtual 111593, .ldc_w 0, .istore 2, .jsr 3]
def c_369_3 : List Instr := [.iload 2, .aload 1, .getfield 2561, .arraylength, .if_icmp .ge 8, .ldc_w 0, .istore 3, .jsr 4]
def c_369_4 : List Instr := [.iload 3, .aload 0, .getfield 2826, .arraylength, .if_icmp .ge 7, .aload 0, .getfield 2826, .iload 3, .aload 0, .getfield 2826, .iload 3, .baload, .ifCond .eq 5, .aload 0, .getfield 2818, .getfield 2755, .iload 3, .iaload, .i2l, .aload 1, .getfield 2561, .iload 2, .laload, .lcmp, .ifCond .ne 5, .ldc_w 1, .goto 6]
def c_369_5 : List Instr := [.ldc_w 0, .jsr 6]
def c_369_6 : List Instr := [.bastore, .iinc 3 1, .goto 4]
def c_369_7 : List Instr := [.aload 0, .getfield 2818, .invokevirtual 111664, .iinc 2 1, .goto 3]
def c_369_8 : List Instr := [.return_]
/- 376: DreamNets.countFits()I -/
def c_376_0 : List Instr := [.ldc_w 0, .istore 1, .ldc_w 0, .istore 2, .jsr 1]
def c_376_1 : List Instr := [.iload 2, .aload 0, .getfield 2826, .arraylength, .if_icmp .ge 3, .aload 0, .getfield 2826, .iload 2, .baload, .ifCond .eq 2, .iinc 1 1, .jsr 2]
def c_376_2 : List Instr := [.iinc 2 1, .goto 1]
def c_376_3 : List Instr := [.iload 1, .ireturn]
/- 384: DreamNets.firstFit()I -/
def c_384_0 : List Instr := [.ldc_w 0, .istore 1, .jsr 1]
def c_384_1 : List Instr := [.iload 1, .aload 0, .getfield 2826, .arraylength, .if_icmp .ge 3, .aload 0, .getfield 2826, .iload 1, .baload, .ifCond .eq 2, .ldc_w 10, .iload 1, .ldc_w 5, .idiv, .imul, .iload 1, .ldc_w 5, .irem, .iadd, .ireturn]
def c_384_2 : List Instr := [.iinc 1 1, .goto 1]
def c_384_3 : List Instr := [.iconst (-3), .ireturn]
/- 394: DreamNets.pieces(II)I -/
def c_394_0 : List Instr := [.iload 1, .invokestatic 73, .ifCond .ne 1, .iload 2, .ldc_w 0, .ldc_w 999, .invokestatic 27, .ifCond .eq 2, .jsr 1]
def c_394_1 : List Instr := [.iconst (-1), .ireturn]
def c_394_2 : List Instr := [.iconst (-3), .istore 3, .ldc_w 0, .istore 4, .jsr 3]
def c_394_3 : List Instr := [.iload 4, .ldc_w 1, .aload 0, .getfield 2816, .getfield 718, .ishl, .if_icmp .ge 8, .iload 3, .iconst (-3), .if_icmp .eq 4, .iload 4, .invokestatic 2273, .iload 3, .invokestatic 2273, .if_icmp .ge 5, .jsr 4]
def c_394_4 : List Instr := [.ldc_w 1, .goto 6]
def c_394_5 : List Instr := [.ldc_w 0, .jsr 6]
def c_394_6 : List Instr := [.istore 5, .iload 5, .ifCond .eq 7, .aload 0, .getfield 2816, .iload 4, .iload 1, .invokevirtual 111722, .iload 2, .if_icmp .ne 7, .iload 4, .istore 3, .jsr 7]
def c_394_7 : List Instr := [.iinc 4 1, .goto 3]
def c_394_8 : List Instr := [.iload 3, .ireturn]
/- 400: DreamNets.gives()I -/
def c_400_0 : List Instr := [.ldc_w 0, .istore 1, .ldc_w 1, .istore 2, .jsr 1]
def c_400_1 : List Instr := [.iload 2, .ldc_w 4, .if_icmp .ge 3, .aload 0, .getfield 2816, .getfield 2759, .iload 2, .iaload, .i2l, .ldc_w 1, .aload 0, .getfield 2816, .iload 1, .invokevirtual 111601, .invokedynamic 3, .i2l, .lmul, .lstore 3, .aload 0, .getfield 2816, .getfield 2759, .iload 1, .iaload, .i2l, .ldc_w 1, .aload 0, .getfield 2816, .iload 2, .invokevirtual 111601, .invokedynamic 3, .i2l, .lmul, .lstore 5, .lload 3, .lload 5, .lcmp, .ifCond .le 2, .iload 2, .istore 1, .jsr 2]
def c_400_2 : List Instr := [.iinc 2 1, .goto 1]
def c_400_3 : List Instr := [.iload 1, .ireturn]
/- 411: DreamNets.when(III)I -/
def c_411_0 : List Instr := [.iload 1, .invokestatic 113, .ifCond .ne 1, .iload 2, .invokestatic 73, .ifCond .ne 1, .iload 3, .ldc_w 0, .ldc_w 99, .invokestatic 27, .ifCond .eq 2, .jsr 1]
def c_411_1 : List Instr := [.iconst (-1), .ireturn]
def c_411_2 : List Instr := [.aload 0, .getfield 2818, .aload 0, .getfield 2816, .invokevirtual 111593, .ldc_w 0, .istore 4, .jsr 3]
def c_411_3 : List Instr := [.iload 4, .ldc_w 48, .if_icmp .gt 5, .aload 0, .getfield 2818, .getfield 2755, .iload 1, .ldc_w 5, .imul, .iload 2, .iadd, .iaload, .iload 3, .if_icmp .lt 4, .iload 4, .ireturn]
def c_411_4 : List Instr := [.aload 0, .getfield 2818, .invokevirtual 111664, .iinc 4 1, .goto 3]
def c_411_5 : List Instr := [.iconst (-3), .ireturn]
/- 418: DreamNets.odds(II)J -/
def c_418_0 : List Instr := [.iload 1, .ldc_w 0, .ldc_w 8, .invokestatic 27, .ifCond .ne 1, .iload 2, .ldc_w 0, .ldc_w 1, .invokestatic 27, .ifCond .eq 2, .jsr 1]
def c_418_1 : List Instr := [.jsr_w (-1), .lreturn]
def c_418_2 : List Instr := [.ldc2_w 100, .iload 1, .invokestatic 426, .lstore 3, .lload 3, .aload 0, .getfield 2816, .getfield 2753, .ldc_w 0, .iaload, .i2l, .iload 1, .invokestatic 426, .lsub, .lload 3, .iload 2, .invokestatic 435, .lreturn]
/- 426: DreamNets.power(JI)J -/
def c_426_0 : List Instr := [.ldc2_w 1, .lstore 3, .ldc_w 0, .istore 5, .jsr 1]
def c_426_1 : List Instr := [.iload 5, .iload 2, .if_icmp .ge 2, .lload 3, .lload 0, .lmul, .lstore 3, .iinc 5 1, .goto 1]
def c_426_2 : List Instr := [.lload 3, .lreturn]
/- 435: DreamNets.partOf(JJI)J -/
def c_435_0 : List Instr := [.lload 2, .lstore 5, .lload 0, .lstore 7, .ldc_w 0, .istore 9, .jsr 1]
def c_435_1 : List Instr := [.iload 9, .ldc_w 200, .if_icmp .ge 2, .lload 7, .ldc2_w 0, .lcmp, .ifCond .eq 2, .lload 5, .lload 7, .lrem, .lstore 10, .lload 7, .lstore 5, .lload 10, .lstore 7, .iinc 9 1, .goto 1]
def c_435_2 : List Instr := [.iload 4, .ifCond .ne 3, .lload 0, .goto 4]
def c_435_3 : List Instr := [.lload 2, .jsr 4]
def c_435_4 : List Instr := [.lstore 9, .lload 5, .ldc2_w 0, .lcmp, .ifCond .ne 5, .lload 9, .goto 6]
def c_435_5 : List Instr := [.lload 9, .lload 5, .ldiv, .jsr 6]
def c_435_6 : List Instr := [.lreturn]
/- 443: DreamNets.hope(III)J -/
def c_443_0 : List Instr := [.aload 0, .iload 1, .invokevirtual 120153, .ifCond .ne 1, .iload 2, .ldc_w 0, .ldc_w 5, .invokestatic 27, .ifCond .ne 1, .iload 3, .ldc_w 0, .ldc_w 1, .invokestatic 27, .ifCond .eq 2, .jsr 1]
def c_443_1 : List Instr := [.jsr_w (-1), .lreturn]
def c_443_2 : List Instr := [.aload 0, .getfield 2816, .getfield 2753, .ldc_w 0, .iaload, .istore 4, .ldc2_w 0, .lstore 5, .ldc2_w 0, .lstore 7, .ldc2_w 1, .lstore 9, .aload 0, .getfield 2818, .aload 0, .getfield 2816, .invokevirtual 111593, .ldc_w 0, .istore 11, .jsr 3]
def c_443_3 : List Instr := [.iload 11, .iload 2, .if_icmp .gt 4, .lload 5, .lload 7, .lload 9, .lmul, .ldc_w 100, .iload 4, .isub, .i2l, .iload 11, .invokestatic 426, .lmul, .iload 4, .i2l, .iload 2, .iload 11, .isub, .invokestatic 426, .lmul, .ladd, .lstore 5, .lload 9, .iload 2, .iload 11, .isub, .i2l, .lmul, .iload 11, .ldc_w 1, .iadd, .i2l, .ldiv, .lstore 9, .lload 7, .aload 0, .getfield 2818, .iload 1, .invokevirtual 111713, .i2l, .ladd, .lstore 7, .iinc 11 1, .goto 3]
def c_443_4 : List Instr := [.lload 5, .ldc2_w 100, .iload 2, .invokestatic 426, .iload 3, .invokestatic 435, .lreturn]
/- 450: DreamNets.prove(II)I -/
def c_450_0 : List Instr := [.iload 1, .invokestatic 113, .ifCond .ne 1, .iload 2, .ldc_w 1, .ldc_w 10, .invokestatic 27, .ifCond .eq 2, .jsr 1]
def c_450_1 : List Instr := [.iconst (-1), .ireturn]
def c_450_2 : List Instr := [.aload 0, .getfield 2818, .aload 0, .getfield 2816, .invokevirtual 111593, .ldc_w 0, .istore 3, .jsr 3]
def c_450_3 : List Instr := [.iload 3, .iload 2, .if_icmp .ge 6, .aload 0, .getfield 2818, .invokevirtual 111664, .ldc_w 0, .istore 4, .jsr 4]
def c_450_4 : List Instr := [.iload 4, .ldc_w 3, .if_icmp .ge 5, .aload 0, .getfield 2825, .iload 3, .ldc_w 3, .imul, .iload 4, .iadd, .aload 0, .getfield 2818, .iload 1, .iload 4, .invokevirtual 111730, .iastore, .iinc 4 1, .goto 4]
def c_450_5 : List Instr := [.iinc 3 1, .goto 3]
def c_450_6 : List Instr := [.aload 0, .iload 2, .putfield 779, .iload 2, .ireturn]
/- 458: DreamNets.row(II)I -/
def c_458_0 : List Instr := [.aload 0, .iload 1, .iload 2, .invokevirtual 120466, .ifCond .eq 1, .iconst (-9), .goto 2]
def c_458_1 : List Instr := [.aload 0, .getfield 2825, .iload 1, .ldc_w 3, .imul, .iload 2, .iadd, .iaload, .jsr 2]
def c_458_2 : List Instr := [.ireturn]
/- 466: DreamNets.noRow(II)Z -/
def c_466_0 : List Instr := [.iload 1, .ldc_w 0, .aload 0, .getfield 779, .ldc_w 1, .isub, .invokestatic 27, .ifCond .ne 1, .iload 2, .ldc_w 0, .ldc_w 2, .invokestatic 27, .ifCond .eq 2, .jsr 1]
def c_466_1 : List Instr := [.ldc_w 1, .goto 3]
def c_466_2 : List Instr := [.ldc_w 0, .jsr 3]
def c_466_3 : List Instr := [.ireturn]
/- 475: DreamNets.alterRow(III)I -/
def c_475_0 : List Instr := [.aload 0, .iload 1, .iload 2, .invokevirtual 120466, .ifCond .eq 1, .iconst (-9), .goto 2]
def c_475_1 : List Instr := [.aload 0, .getfield 2825, .iload 1, .ldc_w 3, .imul, .iload 2, .iadd, .iload 3, .invokestatic 51, .jsr 2]
def c_475_2 : List Instr := [.ireturn]
/- 481: DreamNets.judge(I)I -/
def c_481_0 : List Instr := [.iload 1, .invokestatic 113, .ifCond .eq 1, .iconst (-1), .ireturn]
def c_481_1 : List Instr := [.aload 0, .getfield 2818, .aload 0, .getfield 2816, .invokevirtual 111593, .ldc_w 0, .istore 2, .jsr 2]
def c_481_2 : List Instr := [.iload 2, .aload 0, .getfield 779, .if_icmp .ge 6, .aload 0, .getfield 2818, .invokevirtual 111664, .ldc_w 0, .istore 3, .jsr 3]
def c_481_3 : List Instr := [.iload 3, .ldc_w 3, .if_icmp .ge 5, .aload 0, .getfield 2825, .iload 2, .ldc_w 3, .imul, .iload 3, .iadd, .iaload, .aload 0, .getfield 2818, .iload 1, .iload 3, .invokevirtual 111730, .if_icmp .eq 4, .iload 2, .ldc_w 1, .iadd, .ireturn]
def c_481_4 : List Instr := [.iinc 3 1, .goto 3]
def c_481_5 : List Instr := [.iinc 2 1, .goto 2]
def c_481_6 : List Instr := [.ldc_w 0, .ireturn]
/- 492: DreamNets.minds(IIII)I -/
def c_492_0 : List Instr := [.iload 1, .invokestatic 361, .ifCond .ne 1, .iload 3, .invokestatic 113, .ifCond .ne 1, .iload 4, .ldc_w 0, .ldc_w 5, .invokestatic 27, .ifCond .eq 2, .jsr 1]
def c_492_1 : List Instr := [.iconst (-1), .ireturn]
def c_492_2 : List Instr := [.aload 0, .getfield 2822, .iload 1, .aaload, .astore 5, .aload 5, .ifnonnull 3, .iconst (-11), .ireturn]
def c_492_3 : List Instr := [.aload 5, .getfield 512, .ifCond .eq 4, .iconst (-13), .ireturn]
def c_492_4 : List Instr := [.iload 2, .ldc_w 0, .aload 5, .getfield 2561, .arraylength, .invokestatic 27, .ifCond .ne 5, .iload 4, .aload 5, .getfield 2561, .arraylength, .iload 2, .isub, .if_icmp .le 6, .jsr 5]
def c_492_5 : List Instr := [.iconst (-12), .ireturn]
def c_492_6 : List Instr := [.ldc_w 0, .istore 6, .jsr 7]
def c_492_7 : List Instr := [.iload 6, .iload 4, .if_icmp .ge 8, .ldc_w 0, .ldc_w 99, .aload 5, .getfield 2561, .iload 2, .iload 6, .iadd, .laload, .l2i, .invokedynamic 4, .invokedynamic 3, .istore 7, .aload 0, .getfield 2816, .getfield 2755, .iload 3, .ldc_w 5, .imul, .iload 6, .iadd, .iload 7, .iastore, .iinc 6 1, .goto 7]
def c_492_8 : List Instr := [.iload 4, .ireturn]
/- 499: DreamNets.sheet(III)I -/
def c_499_0 : List Instr := [.iload 1, .invokestatic 361, .ifCond .ne 1, .iload 2, .iconst (-1), .ldc_w 3, .invokestatic 27, .ifCond .eq 2, .jsr 1]
def c_499_1 : List Instr := [.iconst (-1), .ireturn]
def c_499_2 : List Instr := [.iload 2, .iconst (-1), .if_icmp .ne 3, .aload 0, .getfield 2822, .iload 1, .aconst_null, .aastore, .ldc_w 1, .ireturn]
def c_499_3 : List Instr := [.iload 3, .ldc_w 40, .if_icmp .le 4, .iconst (-1), .ireturn]
def c_499_4 : List Instr := [.iload 3, .ifCond .ge 5, .iconst (-14), .ireturn]
def c_499_5 : List Instr := [.aload 0, .getfield 2822, .iload 1, .new 514, .dup, .iload 2, .iload 3, .invokespecial 1946, .aastore, .ldc_w 1, .ireturn]
/- 507: DreamNets.put(III)I -/
def c_507_0 : List Instr := [.iload 1, .invokestatic 361, .ifCond .eq 1, .iconst (-1), .ireturn]
def c_507_1 : List Instr := [.aload 0, .getfield 2822, .iload 1, .aaload, .astore 4, .aload 4, .ifnonnull 2, .iconst (-11), .ireturn]
def c_507_2 : List Instr := [.iload 2, .ldc_w 0, .aload 4, .getfield 2561, .arraylength, .ldc_w 1, .isub, .invokestatic 27, .ifCond .eq 3, .iconst (-12), .ireturn]
def c_507_3 : List Instr := [.aload 4, .getfield 2561, .iload 2, .aload 4, .iload 3, .invokevirtual 81953, .lastore, .ldc_w 1, .ireturn]
/- 515: DreamNets.item(III)I -/
def c_515_0 : List Instr := [.iload 1, .invokestatic 361, .ifCond .ne 1, .iload 2, .ldc_w 0, .ldc_w 3, .invokestatic 27, .ifCond .eq 2, .jsr 1]
def c_515_1 : List Instr := [.iconst (-1), .ireturn]
def c_515_2 : List Instr := [.aload 0, .getfield 2822, .iload 1, .aaload, .astore 4, .aload 4, .ifnonnull 3, .iconst (-11), .ireturn]
def c_515_3 : List Instr := [.aload 4, .getfield 512, .iload 2, .if_icmp .eq 4, .iconst (-13), .ireturn]
def c_515_4 : List Instr := [.iload 3, .ldc_w 0, .aload 4, .getfield 2561, .arraylength, .ldc_w 1, .isub, .invokestatic 27, .ifCond .eq 5, .iconst (-12), .goto 6]
def c_515_5 : List Instr := [.aload 4, .getfield 2561, .iload 3, .laload, .l2i, .jsr 6]
def c_515_6 : List Instr := [.ireturn]
/- 523: DreamNets.shelf(III)I -/
def c_523_0 : List Instr := [.iload 1, .invokestatic 529, .ifCond .ne 1, .iload 2, .ldc_w 0, .ldc_w 2, .invokestatic 27, .ifCond .eq 2, .jsr 1]
def c_523_1 : List Instr := [.iconst (-1), .ireturn]
def c_523_2 : List Instr := [.iload 2, .ifCond .ne 3, .aload 0, .iload 3, .invokevirtual 120153, .ifCond .ne 4, .jsr 3]
def c_523_3 : List Instr := [.iload 2, .ldc_w 1, .if_icmp .ne 5, .iload 3, .invokestatic 361, .ifCond .eq 5, .jsr 4]
def c_523_4 : List Instr := [.iconst (-1), .ireturn]
def c_523_5 : List Instr := [.aload 0, .getfield 2823, .iload 1, .iload 2, .ifCond .ne 6, .iload 3, .goto 7]
def c_523_6 : List Instr := [.iconst (-1), .jsr 7]
def c_523_7 : List Instr := [.iastore, .aload 0, .getfield 2824, .iload 1, .iload 2, .ldc_w 1, .if_icmp .ne 8, .iload 3, .invokestatic 361, .ifCond .ne 8, .aload 0, .getfield 2822, .iload 3, .aaload, .goto 9]
def c_523_8 : List Instr := [.aconst_null, .jsr 9]
def c_523_9 : List Instr := [.aastore, .ldc_w 1, .ireturn]
/- 529: DreamNets.noShelf(I)Z -/
def c_529_0 : List Instr := [.iload 0, .ldc_w 0, .ldc_w 3, .invokestatic 27, .ireturn]
/- 538: DreamNets.taken(II)I -/
def c_538_0 : List Instr := [.iload 2, .ldc_w 10, .ldc_w 13, .invokestatic 27, .ifCond .ne 1, .ldc_w 1, .goto 2]
def c_538_1 : List Instr := [.ldc_w 0, .jsr 2]
def c_538_2 : List Instr := [.istore 3, .iload 1, .invokestatic 529, .ifCond .ne 3, .iload 2, .invokestatic 137, .ifCond .eq 4, .iload 3, .ifCond .ne 4, .jsr 3]
def c_538_3 : List Instr := [.iconst (-1), .ireturn]
def c_538_4 : List Instr := [.aload 0, .getfield 2823, .iload 1, .iaload, .istore 4, .aload 0, .getfield 2824, .iload 1, .aaload, .astore 5, .aload 0, .iload 4, .invokevirtual 120153, .ifCond .eq 5, .aload 5, .ifnonnull 5, .iconst (-11), .ireturn]
def c_538_5 : List Instr := [.aload 5, .ifnull 8, .iload 3, .ifCond .eq 6, .aload 5, .getfield 512, .iload 2, .ldc_w 10, .isub, .if_icmp .ne 6, .aload 5, .getfield 2561, .arraylength, .goto 7]
def c_538_6 : List Instr := [.iconst (-13), .jsr 7]
def c_538_7 : List Instr := [.ireturn]
def c_538_8 : List Instr := [.iload 3, .ifCond .ne 9, .aload 0, .getfield 2816, .iload 4, .invokevirtual 111633, .iload 2, .invokevirtual 1, .ifCond .eq 9, .iload 4, .goto 10]
def c_538_9 : List Instr := [.iconst (-13), .jsr 10]
def c_538_10 : List Instr := [.ireturn]
/- 547: DreamNets.act(III)I -/
def c_547_0 : List Instr := [.aload 0, .getfield 2821, .ldc_w 0, .putfield 65, .iload 1, .invokestatic 529, .ifCond .ne 1, .iload 2, .ldc_w 0, .ldc_w 3, .invokestatic 27, .ifCond .ne 1, .aload 0, .aload 0, .getfield 2823, .iload 1, .iaload, .invokevirtual 120153, .ifCond .eq 2, .jsr 1]
def c_547_1 : List Instr := [.ldc_w 0, .ireturn]
def c_547_2 : List Instr := [.aload 0, .getfield 2823, .iload 1, .iaload, .istore 4, .aload 0, .getfield 2821, .iload 4, .aload 0, .getfield 2816, .getfield 2761, .iload 4, .iaload, .invokevirtual 11930, .aload 0, .getfield 2816, .iload 4, .invokevirtual 111633, .astore 5, .iload 2, .tableswitch 6 0 2 #[3, 4, 5]]
def c_547_3 : List Instr := [.aload 5, .aload 0, .getfield 2821, .iload 3, .invokevirtual 10, .istore 6, .goto 7]
def c_547_4 : List Instr := [.aload 5, .aload 0, .getfield 2821, .iload 3, .invokevirtual 18, .istore 6, .goto 7]
def c_547_5 : List Instr := [.aload 5, .aload 0, .getfield 2821, .iload 3, .invokevirtual 26, .istore 6, .goto 7]
def c_547_6 : List Instr := [.aload 5, .aload 0, .getfield 2821, .iload 3, .invokevirtual 34, .istore 6, .jsr 7]
def c_547_7 : List Instr := [.aload 0, .getfield 2821, .getfield 3140, .ifCond .eq 8, .iconst (-15), .goto 9]
def c_547_8 : List Instr := [.iload 6, .jsr 9]
def c_547_9 : List Instr := [.ireturn]
/- 553: DreamNets.trace(I)I -/
def c_553_0 : List Instr := [.iload 1, .ldc_w 0, .aload 0, .getfield 2821, .getfield 65, .ldc_w 1, .isub, .invokestatic 27, .ifCond .eq 1, .iconst (-3), .goto 2]
def c_553_1 : List Instr := [.aload 0, .getfield 2821, .getfield 2112, .iload 1, .iaload, .jsr 2]
def c_553_2 : List Instr := [.ireturn]
/- 561: DreamNets.many(I)I -/
def c_561_0 : List Instr := [.iload 1, .tableswitch 8 0 6 #[1, 2, 3, 4, 5, 6, 7]]
def c_561_1 : List Instr := [.aload 0, .getfield 2816, .getfield 718, .ireturn]
def c_561_2 : List Instr := [.aload 0, .getfield 2816, .invokevirtual 111744, .ireturn]
def c_561_3 : List Instr := [.aload 0, .getfield 2816, .getfield 2756, .ldc_w 8, .invokestatic 282, .ireturn]
def c_561_4 : List Instr := [.aload 0, .getfield 2816, .invokevirtual 111752, .ireturn]
def c_561_5 : List Instr := [.aload 0, .getfield 779, .ireturn]
def c_561_6 : List Instr := [.aload 0, .getfield 2820, .getfield 577, .ireturn]
def c_561_7 : List Instr := [.aload 0, .getfield 2821, .getfield 65, .ireturn]
def c_561_8 : List Instr := [.iconst (-1), .ireturn]
/- 568: DreamNets.keep()I -/
def c_568_0 : List Instr := [.aload 0, .getfield 2817, .aload 0, .getfield 2816, .invokevirtual 111593, .aload 0, .ldc_w 1, .putfield 3852, .ldc_w 1, .ireturn]
/- 576: DreamNets.again()I -/
def c_576_0 : List Instr := [.aload 0, .getfield 3852, .ifCond .ne 1, .iconst (-3), .ireturn]
def c_576_1 : List Instr := [.aload 0, .getfield 2816, .aload 0, .getfield 2817, .invokevirtual 111593, .aload 0, .getfield 2816, .getfield 718, .ireturn]
/- 584: DreamNetsModel.<init>()V -/
def c_584_0 : List Instr := [.aload 0, .invokedynamic 5, .aload 0, .ldc_w 136, .newarray .int, .putfield 2880, .aload 0, .ldc_w 136, .newarray .int, .putfield 2881, .aload 0, .ldc_w 136, .newarray .int, .putfield 2882, .aload 0, .ldc_w 136, .newarray .int, .putfield 2883, .aload 0, .ldc_w 5, .newarray .int, .dup, .ldc_w 0, .ldc_w 2, .iastore, .dup, .ldc_w 1, .ldc_w 3, .iastore, .dup, .ldc_w 2, .ldc_w 1, .iastore, .dup, .ldc_w 3, .ldc_w 5, .iastore, .dup, .ldc_w 4, .ldc_w 8, .iastore, .putfield 2884, .aload 0, .ldc_w 200, .newarray .int, .putfield 2886, .aload 0, .ldc_w 8, .newarray .int, .putfield 2896, .aload 0, .ldc_w 4, .newarray .int, .putfield 2897, .aload 0, .ldc_w 4, .newarray .int, .putfield 2898, .aload 0, .ldc_w 40, .newarray .boolean, .putfield 2900, .aload 0, .ldc_w 30, .newarray .int, .putfield 2901, .aload 0, .ldc_w 30, .newarray .int, .putfield 2902, .aload 0, .ldc_w 4, .newarray .int, .dup, .ldc_w 0, .iconst (-1), .iastore, .dup, .ldc_w 1, .iconst (-1), .iastore, .dup, .ldc_w 2, .iconst (-1), .iastore, .dup, .ldc_w 3, .iconst (-1), .iastore, .putfield 2904, .aload 0, .ldc_w 4, .newarray .int, .putfield 2905, .aload 0, .ldc_w 160, .newarray .long, .putfield 2906, .aload 0, .ldc_w 4, .newarray .int, .dup, .ldc_w 0, .iconst (-1), .iastore, .dup, .ldc_w 1, .iconst (-1), .iastore, .dup, .ldc_w 2, .iconst (-1), .iastore, .dup, .ldc_w 3, .iconst (-1), .iastore, .putfield 2907, .aload 0, .ldc_w 4, .newarray .int, .putfield 2908, .aload 0, .ldc_w 4, .newarray .int, .putfield 2909, .aload 0, .ldc_w 30, .newarray .int, .putfield 2913, .aload 0, .getfield 2880, .invokestatic 593, .aload 0, .getfield 2880, .ldc_w 6, .ldc_w 1, .iastore, .return_]
/- 593: DreamNetsModel.begins([I)V -/
def c_593_0 : List Instr := [.ldc_w 0, .istore 1, .jsr 1]
def c_593_1 : List Instr := [.iload 1, .ldc_w 136, .if_icmp .ge 2, .aload 0, .iload 1, .ldc_w 0, .iastore, .iinc 1 1, .goto 1]
def c_593_2 : List Instr := [.aload 0, .ldc_w 0, .ldc_w 10, .iastore, .aload 0, .ldc_w 1, .ldc_w 8, .iastore, .aload 0, .ldc_w 2, .ldc_w 4, .iastore, .aload 0, .ldc_w 7, .ldc_w 9, .iastore, .aload 0, .ldc_w 8, .ldc_w 4, .iastore, .aload 0, .ldc_w 9, .ldc_w 2, .iastore, .aload 0, .ldc_w 10, .ldc_w 6, .iastore, .aload 0, .ldc_w 11, .ldc_w 12, .iastore, .ldc_w 0, .istore 1, .jsr 3]
def c_593_3 : List Instr := [.iload 1, .ldc_w 8, .if_icmp .ge 4, .aload 0, .ldc_w 12, .ldc_w 7, .iload 1, .imul, .iadd, .ldc_w 5, .iadd, .ldc_w 3, .iastore, .iinc 1 1, .goto 3]
def c_593_4 : List Instr := [.ldc_w 0, .istore 1, .jsr 5]
def c_593_5 : List Instr := [.iload 1, .ldc_w 4, .if_icmp .ge 6, .aload 0, .ldc_w 68, .ldc_w 2, .iload 1, .imul, .iadd, .ldc_w 999, .iastore, .iinc 1 1, .goto 5]
def c_593_6 : List Instr := [.return_]
/- 602: DreamNetsModel.feed(JI)I -/
def c_602_0 : List Instr := [.iload 3, .ldc_w 1, .ldc_w 8, .invokestatic 611, .ifCond .ne 1, .iconst (-1), .ireturn]
def c_602_1 : List Instr := [.aload 0, .getfield 839, .iload 3, .iadd, .ldc_w 200, .if_icmp .le 2, .iconst (-2), .ireturn]
def c_602_2 : List Instr := [.ldc_w 0, .istore 4, .jsr 3]
def c_602_3 : List Instr := [.iload 4, .iload 3, .if_icmp .ge 4, .aload 0, .getfield 2886, .aload 0, .getfield 839, .lload 1, .ldc_w 8, .iload 4, .imul, .lshr, .ldc2_w 255, .land, .l2i, .iastore, .aload 0, .dup, .getfield 839, .ldc_w 1, .iadd, .putfield 839, .iinc 4 1, .goto 3]
def c_602_4 : List Instr := [.aload 0, .getfield 839, .ireturn]
/- 611: DreamNetsModel.in(III)Z -/
def c_611_0 : List Instr := [.iload 0, .iload 1, .if_icmp .lt 1, .iload 0, .iload 2, .if_icmp .gt 1, .ldc_w 1, .goto 2]
def c_611_1 : List Instr := [.ldc_w 0, .jsr 2]
def c_611_2 : List Instr := [.ireturn]
/- 616: DreamNetsModel.harbour()I -/
def c_616_0 : List Instr := [.aload 0, .ldc_w 0, .putfield 842, .aload 0, .ldc_w 1, .putfield 3917, .aload 0, .getfield 2881, .invokestatic 593, .aload 0, .invokevirtual 130624, .jsr 1]
def c_616_1 : List Instr := [.aload 0, .getfield 3917, .ifCond .eq 2, .aload 0, .getfield 840, .ifCond .eq 2, .aload 0, .invokevirtual 130656, .goto 1]
def c_616_2 : List Instr := [.aload 0, .ldc_w 0, .putfield 839, .aload 0, .getfield 3917, .ifCond .ne 3, .iconst (-100), .aload 0, .getfield 841, .isub, .ireturn]
def c_616_3 : List Instr := [.aload 0, .getfield 2881, .ldc_w 6, .aload 0, .getfield 2880, .ldc_w 6, .iaload, .iastore, .aload 0, .getfield 2881, .aload 0, .getfield 2880, .invokestatic 762, .aload 0, .ldc_w 0, .putfield 855, .aload 0, .getfield 2880, .ldc_w 5, .iaload, .ireturn]
/- 624: DreamNetsModel.advance()V -/
def c_624_0 : List Instr := [.aload 0, .aload 0, .getfield 842, .putfield 841, .jsr 1]
def c_624_1 : List Instr := [.aload 0, .aload 0, .getfield 841, .invokevirtual 130633, .ldc_w 32, .if_icmp .ne 2, .aload 0, .dup, .getfield 841, .ldc_w 1, .iadd, .putfield 841, .goto 1]
def c_624_2 : List Instr := [.aload 0, .aload 0, .getfield 841, .putfield 842, .aload 0, .aload 0, .getfield 841, .invokevirtual 130633, .istore 1, .aload 0, .iload 1, .ifCond .ge 3, .ldc_w 0, .goto 6]
def c_624_3 : List Instr := [.iload 1, .invokestatic 641, .ifCond .eq 4, .ldc_w 1, .goto 6]
def c_624_4 : List Instr := [.iload 1, .invokestatic 649, .ifCond .eq 5, .ldc_w 2, .goto 6]
def c_624_5 : List Instr := [.ldc_w 3, .jsr 6]
def c_624_6 : List Instr := [.putfield 840, .aload 0, .ldc2_w 0, .putfield 1867, .aload 0, .aload 0, .getfield 840, .ldc_w 2, .if_icmp .ne 7, .ldc_w 0, .goto 8]
def c_624_7 : List Instr := [.iload 1, .jsr 8]
def c_624_8 : List Instr := [.putfield 844, .aload 0, .getfield 840, .ldc_w 3, .if_icmp .ne 9, .aload 0, .dup, .getfield 842, .ldc_w 1, .iadd, .putfield 842, .jsr 9]
def c_624_9 : List Instr := [.aload 0, .getfield 840, .ldc_w 1, .if_icmp .ne 12, .aload 0, .aload 0, .getfield 842, .invokevirtual 130633, .invokestatic 641, .ifCond .eq 12, .aload 0, .aload 0, .getfield 842, .aload 0, .getfield 841, .isub, .ldc_w 9, .if_icmp .ge 10, .ldc2_w 27, .aload 0, .getfield 1867, .lmul, .aload 0, .aload 0, .getfield 842, .invokevirtual 130633, .i2l, .ladd, .ldc2_w 96, .lsub, .goto 11]
def c_624_10 : List Instr := [.jsr_w (-1), .jsr 11]
def c_624_11 : List Instr := [.putfield 1867, .aload 0, .dup, .getfield 842, .ldc_w 1, .iadd, .putfield 842, .goto 9]
def c_624_12 : List Instr := [.aload 0, .getfield 840, .ldc_w 2, .if_icmp .ne 15, .aload 0, .aload 0, .getfield 842, .invokevirtual 130633, .invokestatic 649, .ifCond .eq 15, .aload 0, .aload 0, .getfield 842, .aload 0, .getfield 841, .isub, .ldc_w 3, .if_icmp .ge 13, .ldc_w 10, .aload 0, .getfield 844, .imul, .aload 0, .aload 0, .getfield 842, .invokevirtual 130633, .iadd, .ldc_w 48, .isub, .goto 14]
def c_624_13 : List Instr := [.iconst (-1), .jsr 14]
def c_624_14 : List Instr := [.putfield 844, .aload 0, .dup, .getfield 842, .ldc_w 1, .iadd, .putfield 842, .goto 12]
def c_624_15 : List Instr := [.return_]
/- 633: DreamNetsModel.byteAt(I)I -/
def c_633_0 : List Instr := [.iload 1, .aload 0, .getfield 839, .if_icmp .ge 1, .aload 0, .getfield 2886, .iload 1, .iaload, .goto 2]
def c_633_1 : List Instr := [.iconst (-1), .jsr 2]
def c_633_2 : List Instr := [.ireturn]
/- 641: DreamNetsModel.isLetter(I)Z -/
def c_641_0 : List Instr := [.iload 0, .ldc_w 97, .ldc_w 122, .invokestatic 611, .ireturn]
/- 649: DreamNetsModel.isDigit(I)Z -/
def c_649_0 : List Instr := [.iload 0, .ldc_w 48, .ldc_w 57, .invokestatic 611, .ireturn]
/- 656: DreamNetsModel.wantClause()V -/
def c_656_0 : List Instr := [.aload 0, .invokevirtual 130664, .ifCond .lt 1, .aload 0, .aload 0, .invokevirtual 130664, .invokevirtual 130681, .goto 6]
def c_656_1 : List Instr := [.aload 0, .ldc2_w 283616147, .invokevirtual 130673, .ifCond .eq 2, .aload 0, .invokevirtual 130720, .goto 6]
def c_656_2 : List Instr := [.aload 0, .ldc2_w 8863997, .invokevirtual 130673, .ifCond .eq 3, .aload 0, .invokevirtual 130744, .goto 6]
def c_656_3 : List Instr := [.aload 0, .ldc2_w 9459316, .invokevirtual 130673, .ifCond .eq 4, .aload 0, .invokevirtual 130752, .goto 6]
def c_656_4 : List Instr := [.aload 0, .ldc2_w 453740, .invokevirtual 130673, .ifCond .eq 5, .aload 0, .invokevirtual 130624, .aload 0, .getfield 2881, .ldc_w 0, .aload 0, .ldc_w 0, .ldc_w 99, .invokevirtual 130690, .iastore, .aload 0, .invokevirtual 130704, .goto 6]
def c_656_5 : List Instr := [.aload 0, .ldc_w 0, .putfield 3917, .jsr 6]
def c_656_6 : List Instr := [.return_]
/- 664: DreamNetsModel.kindHere()I -/
def c_664_0 : List Instr := [.aload 0, .ldc2_w 50348, .invokevirtual 130673, .ifCond .eq 1, .ldc_w 0, .goto 7]
def c_664_1 : List Instr := [.aload 0, .ldc2_w 275473944, .invokevirtual 130673, .ifCond .eq 2, .ldc_w 1, .goto 7]
def c_664_2 : List Instr := [.aload 0, .ldc2_w 1812878082, .invokevirtual 130673, .ifCond .eq 3, .ldc_w 2, .goto 7]
def c_664_3 : List Instr := [.aload 0, .ldc2_w 15154, .invokevirtual 130673, .ifCond .eq 4, .ldc_w 3, .goto 7]
def c_664_4 : List Instr := [.aload 0, .ldc2_w 1810703475, .invokevirtual 130673, .ifCond .eq 5, .ldc_w 4, .goto 7]
def c_664_5 : List Instr := [.aload 0, .ldc2_w 6414557904, .invokevirtual 130673, .ifCond .eq 6, .ldc_w 5, .goto 7]
def c_664_6 : List Instr := [.iconst (-1), .jsr 7]
def c_664_7 : List Instr := [.ireturn]
/- 673: DreamNetsModel.isWord(J)Z -/
def c_673_0 : List Instr := [.aload 0, .getfield 840, .ldc_w 1, .if_icmp .ne 1, .aload 0, .getfield 1867, .lload 1, .lcmp, .ifCond .ne 1, .ldc_w 1, .goto 2]
def c_673_1 : List Instr := [.ldc_w 0, .jsr 2]
def c_673_2 : List Instr := [.ireturn]
/- 681: DreamNetsModel.wantBoat(I)V -/
def c_681_0 : List Instr := [.aload 0, .aload 0, .getfield 2881, .ldc_w 5, .iaload, .ldc_w 6, .if_icmp .ge 1, .ldc_w 1, .goto 2]
def c_681_1 : List Instr := [.ldc_w 0, .jsr 2]
def c_681_2 : List Instr := [.putfield 3917, .aload 0, .getfield 3917, .ifCond .eq 3, .aload 0, .invokevirtual 130624, .jsr 3]
def c_681_3 : List Instr := [.aload 0, .ldc_w 0, .ldc_w 9, .invokevirtual 130690, .istore 2, .aload 0, .ldc2_w 47, .invokevirtual 130697, .aload 0, .ldc_w 0, .ldc_w 7, .invokevirtual 130690, .istore 3, .aload 0, .ldc2_w 260045, .invokevirtual 130697, .aload 0, .ldc_w 0, .ldc_w 9, .invokevirtual 130690, .istore 4, .aload 0, .invokevirtual 130704, .aload 0, .getfield 3917, .ifCond .eq 4, .ldc_w 76, .ldc_w 10, .aload 0, .getfield 2881, .ldc_w 5, .iaload, .imul, .iadd, .istore 5, .aload 0, .getfield 2881, .iload 5, .iload 1, .iastore, .aload 0, .getfield 2881, .iload 5, .ldc_w 1, .iadd, .iload 2, .iastore, .aload 0, .getfield 2881, .iload 5, .ldc_w 2, .iadd, .iload 3, .iastore, .aload 0, .getfield 2881, .iload 5, .ldc_w 3, .iadd, .iload 4, .iastore, .aload 0, .getfield 2881, .ldc_w 5, .dup2, .iaload, .ldc_w 1, .iadd, .iastore, .jsr 4]
def c_681_4 : List Instr := [.return_]
/- 690: DreamNetsModel.wantNumber(II)I -/
def c_690_0 : List Instr := [.aload 0, .getfield 844, .istore 3, .aload 0, .aload 0, .getfield 3917, .ifCond .eq 1, .aload 0, .getfield 840, .ldc_w 2, .if_icmp .ne 1, .iload 3, .iload 1, .iload 2, .invokestatic 611, .ifCond .eq 1, .ldc_w 1, .goto 2]
def c_690_1 : List Instr := [.ldc_w 0, .jsr 2]
def c_690_2 : List Instr := [.putfield 3917, .aload 0, .getfield 3917, .ifCond .eq 3, .aload 0, .invokevirtual 130624, .jsr 3]
def c_690_3 : List Instr := [.iload 3, .ireturn]
/- 697: DreamNetsModel.wantWord(J)V -/
def c_697_0 : List Instr := [.aload 0, .aload 0, .getfield 3917, .ifCond .eq 1, .aload 0, .lload 1, .invokevirtual 130673, .ifCond .eq 1, .ldc_w 1, .goto 2]
def c_697_1 : List Instr := [.ldc_w 0, .jsr 2]
def c_697_2 : List Instr := [.putfield 3917, .aload 0, .getfield 3917, .ifCond .eq 3, .aload 0, .invokevirtual 130624, .jsr 3]
def c_697_3 : List Instr := [.return_]
/- 704: DreamNetsModel.wantEnd()V -/
def c_704_0 : List Instr := [.aload 0, .aload 0, .getfield 3917, .ifCond .eq 1, .aload 0, .ldc_w 59, .invokevirtual 130713, .ifCond .eq 1, .ldc_w 1, .goto 2]
def c_704_1 : List Instr := [.ldc_w 0, .jsr 2]
def c_704_2 : List Instr := [.putfield 3917, .aload 0, .getfield 3917, .ifCond .eq 3, .aload 0, .invokevirtual 130624, .jsr 3]
def c_704_3 : List Instr := [.return_]
/- 713: DreamNetsModel.isMark(I)Z -/
def c_713_0 : List Instr := [.aload 0, .getfield 840, .ldc_w 3, .if_icmp .ne 1, .aload 0, .getfield 844, .iload 1, .if_icmp .ne 1, .ldc_w 1, .goto 2]
def c_713_1 : List Instr := [.ldc_w 0, .jsr 2]
def c_713_2 : List Instr := [.ireturn]
/- 720: DreamNetsModel.wantStreet()V -/
def c_720_0 : List Instr := [.aload 0, .invokevirtual 130624, .aload 0, .ldc_w 0, .ldc_w 7, .invokevirtual 130690, .istore 1, .aload 0, .getfield 3917, .ifCond .eq 1, .aload 0, .ldc2_w 203470477543, .invokevirtual 130673, .ifCond .eq 1, .ldc_w 1, .goto 2]
def c_720_1 : List Instr := [.ldc_w 0, .jsr 2]
def c_720_2 : List Instr := [.istore 2, .ldc_w 5, .istore 3, .iload 2, .ifCond .eq 3, .aload 0, .invokevirtual 130624, .goto 4]
def c_720_3 : List Instr := [.aload 0, .getfield 3917, .ifCond .eq 4, .aload 0, .invokevirtual 130728, .istore 3, .jsr 4]
def c_720_4 : List Instr := [.aload 0, .ldc_w 0, .iload 2, .ifCond .eq 5, .ldc_w 9, .goto 6]
def c_720_5 : List Instr := [.ldc_w 99, .jsr 6]
def c_720_6 : List Instr := [.invokevirtual 130690, .istore 4, .aload 0, .invokevirtual 130704, .aload 0, .getfield 3917, .ifCond .eq 7, .aload 0, .getfield 2881, .ldc_w 12, .ldc_w 7, .iload 1, .imul, .iadd, .iload 3, .iadd, .iload 4, .iastore, .jsr 7]
def c_720_7 : List Instr := [.return_]
/- 728: DreamNetsModel.wantSort()I -/
def c_728_0 : List Instr := [.aload 0, .invokevirtual 130736, .istore 1, .aload 0, .aload 0, .getfield 3917, .ifCond .eq 1, .iload 1, .ifCond .lt 1, .ldc_w 1, .goto 2]
def c_728_1 : List Instr := [.ldc_w 0, .jsr 2]
def c_728_2 : List Instr := [.putfield 3917, .aload 0, .getfield 3917, .ifCond .eq 3, .aload 0, .invokevirtual 130624, .jsr 3]
def c_728_3 : List Instr := [.iload 1, .ireturn]
/- 736: DreamNetsModel.sortHere()I -/
def c_736_0 : List Instr := [.aload 0, .ldc2_w 92969755, .invokevirtual 130673, .ifCond .eq 1, .ldc_w 0, .goto 6]
def c_736_1 : List Instr := [.aload 0, .ldc2_w 2345492275, .invokevirtual 130673, .ifCond .eq 2, .ldc_w 1, .goto 6]
def c_736_2 : List Instr := [.aload 0, .ldc2_w 10731428, .invokevirtual 130673, .ifCond .eq 3, .ldc_w 2, .goto 6]
def c_736_3 : List Instr := [.aload 0, .ldc2_w 274392372, .invokevirtual 130673, .ifCond .eq 4, .ldc_w 3, .goto 6]
def c_736_4 : List Instr := [.aload 0, .ldc2_w 4050994310159, .invokevirtual 130673, .ifCond .eq 5, .ldc_w 4, .goto 6]
def c_736_5 : List Instr := [.iconst (-1), .jsr 6]
def c_736_6 : List Instr := [.ireturn]
/- 744: DreamNetsModel.wantPrice()V -/
def c_744_0 : List Instr := [.aload 0, .invokevirtual 130624, .aload 0, .invokevirtual 130728, .istore 1, .aload 0, .ldc_w 1, .ldc_w 30, .invokevirtual 130690, .istore 2, .aload 0, .invokevirtual 130704, .aload 0, .getfield 3917, .ifCond .eq 1, .aload 0, .getfield 2881, .ldc_w 7, .iload 1, .iadd, .iload 2, .iastore, .jsr 1]
def c_744_1 : List Instr := [.return_]
/- 752: DreamNetsModel.wantQuota()V -/
def c_752_0 : List Instr := [.aload 0, .invokevirtual 130624, .aload 0, .ldc_w 0, .ldc_w 3, .invokevirtual 130690, .istore 1, .aload 0, .ldc_w 0, .ldc_w 999, .invokevirtual 130690, .istore 2, .aload 0, .invokevirtual 130704, .aload 0, .getfield 3917, .ifCond .eq 1, .aload 0, .getfield 2881, .ldc_w 68, .ldc_w 2, .iload 1, .imul, .iadd, .iload 2, .iastore, .jsr 1]
def c_752_1 : List Instr := [.return_]
/- 762: DreamNetsModel.moveAll([I[I)V -/
def c_762_0 : List Instr := [.ldc_w 0, .istore 2, .jsr 1]
def c_762_1 : List Instr := [.iload 2, .ldc_w 136, .if_icmp .ge 2, .aload 1, .iload 2, .aload 0, .iload 2, .iaload, .iastore, .iinc 2 1, .goto 1]
def c_762_2 : List Instr := [.return_]
/- 770: DreamNetsModel.set(II)I -/
def c_770_0 : List Instr := [.iload 1, .ifCond .ne 1, .iload 2, .ldc_w 0, .ldc_w 99, .invokestatic 611, .goto 4]
def c_770_1 : List Instr := [.iload 1, .ldc_w 1, .if_icmp .eq 2, .iload 1, .ldc_w 2, .if_icmp .ne 3, .jsr 2]
def c_770_2 : List Instr := [.iload 2, .ldc_w 1, .ldc_w 20, .invokestatic 611, .ifCond .eq 3, .ldc_w 1, .goto 4]
def c_770_3 : List Instr := [.ldc_w 0, .jsr 4]
def c_770_4 : List Instr := [.istore 3, .iload 3, .ifCond .eq 5, .aload 0, .iload 1, .iload 2, .invokevirtual 130778, .goto 6]
def c_770_5 : List Instr := [.iconst (-1), .jsr 6]
def c_770_6 : List Instr := [.ireturn]
/- 778: DreamNetsModel.becomes(II)I -/
def c_778_0 : List Instr := [.aload 0, .getfield 2880, .iload 1, .iaload, .istore 3, .aload 0, .getfield 2880, .iload 1, .iload 2, .iastore, .iload 3, .ireturn]
/- 785: DreamNetsModel.lawOf(I)I -/
def c_785_0 : List Instr := [.iload 1, .ldc_w 0, .ldc_w 2, .invokestatic 611, .ifCond .eq 1, .aload 0, .getfield 2880, .iload 1, .iaload, .goto 2]
def c_785_1 : List Instr := [.iconst (-1), .jsr 2]
def c_785_2 : List Instr := [.ireturn]
/- 794: DreamNetsModel.price(II)I -/
def c_794_0 : List Instr := [.iload 1, .invokestatic 801, .ifCond .eq 1, .iload 2, .ldc_w 1, .ldc_w 30, .invokestatic 611, .ifCond .eq 1, .aload 0, .ldc_w 7, .iload 1, .iadd, .iload 2, .invokevirtual 130778, .goto 2]
def c_794_1 : List Instr := [.iconst (-1), .jsr 2]
def c_794_2 : List Instr := [.ireturn]
/- 801: DreamNetsModel.isSort(I)Z -/
def c_801_0 : List Instr := [.iload 0, .ldc_w 0, .ldc_w 4, .invokestatic 611, .ireturn]
/- 810: DreamNetsModel.quota(II)I -/
def c_810_0 : List Instr := [.iload 1, .invokestatic 817, .ifCond .eq 1, .iload 2, .ldc_w 0, .ldc_w 999, .invokestatic 611, .ifCond .eq 1, .aload 0, .ldc_w 68, .ldc_w 2, .iload 1, .imul, .iadd, .iload 2, .invokevirtual 130778, .goto 2]
def c_810_1 : List Instr := [.iconst (-1), .jsr 2]
def c_810_2 : List Instr := [.ireturn]
/- 817: DreamNetsModel.isWard(I)Z -/
def c_817_0 : List Instr := [.iload 0, .ldc_w 0, .ldc_w 3, .invokestatic 611, .ireturn]
/- 826: DreamNetsModel.ward(II)I -/
def c_826_0 : List Instr := [.iload 1, .invokestatic 817, .ifCond .eq 1, .iload 2, .ldc_w 0, .ldc_w 2, .invokestatic 611, .ifCond .ne 2, .jsr 1]
def c_826_1 : List Instr := [.iconst (-1), .ireturn]
def c_826_2 : List Instr := [.iload 2, .ldc_w 2, .if_icmp .ge 3, .aload 0, .getfield 2880, .ldc_w 68, .ldc_w 2, .iload 1, .imul, .iadd, .iload 2, .iadd, .iaload, .goto 4]
def c_826_3 : List Instr := [.aload 0, .ldc_w 2, .iload 1, .imul, .ldc_w 5, .invokevirtual 130834, .aload 0, .ldc_w 2, .iload 1, .imul, .ldc_w 1, .iadd, .ldc_w 5, .invokevirtual 130834, .iadd, .jsr 4]
def c_826_4 : List Instr := [.ireturn]
/- 834: DreamNetsModel.at(II)I -/
def c_834_0 : List Instr := [.aload 0, .getfield 2880, .ldc_w 12, .ldc_w 7, .iload 1, .imul, .iadd, .iload 2, .iadd, .iaload, .ireturn]
/- 842: DreamNetsModel.street(II)I -/
def c_842_0 : List Instr := [.iload 1, .invokestatic 849, .ifCond .eq 1, .iload 2, .ldc_w 0, .ldc_w 7, .invokestatic 611, .ifCond .ne 2, .jsr 1]
def c_842_1 : List Instr := [.iconst (-1), .ireturn]
def c_842_2 : List Instr := [.iload 2, .ldc_w 7, .if_icmp .ge 3, .aload 0, .iload 1, .iload 2, .invokevirtual 130834, .goto 4]
def c_842_3 : List Instr := [.aload 0, .iload 1, .invokevirtual 130857, .jsr 4]
def c_842_4 : List Instr := [.ireturn]
/- 849: DreamNetsModel.isStreet(I)Z -/
def c_849_0 : List Instr := [.iload 0, .ldc_w 0, .ldc_w 7, .invokestatic 611, .ireturn]
/- 857: DreamNetsModel.stockOf(I)I -/
def c_857_0 : List Instr := [.ldc_w 0, .istore 2, .ldc_w 0, .istore 3, .jsr 1]
def c_857_1 : List Instr := [.iload 3, .ldc_w 5, .if_icmp .ge 2, .iload 2, .aload 0, .iload 1, .iload 3, .invokevirtual 130834, .iadd, .istore 2, .iinc 3 1, .goto 1]
def c_857_2 : List Instr := [.iload 2, .ireturn]
/- 867: DreamNetsModel.sleep(III)I -/
def c_867_0 : List Instr := [.iload 1, .invokestatic 849, .ifCond .eq 3, .iload 2, .invokestatic 801, .ifCond .eq 1, .iload 3, .ldc_w 0, .ldc_w 99, .invokestatic 611, .ifCond .ne 2, .jsr 1]
def c_867_1 : List Instr := [.iload 2, .ldc_w 5, .if_icmp .ne 3, .iload 3, .ldc_w 0, .ldc_w 9, .invokestatic 611, .ifCond .eq 3, .jsr 2]
def c_867_2 : List Instr := [.ldc_w 1, .goto 4]
def c_867_3 : List Instr := [.ldc_w 0, .jsr 4]
def c_867_4 : List Instr := [.istore 4, .iload 4, .ifCond .eq 5, .aload 0, .ldc_w 12, .ldc_w 7, .iload 1, .imul, .iadd, .iload 2, .iadd, .iload 3, .invokevirtual 130778, .goto 6]
def c_867_5 : List Instr := [.iconst (-1), .jsr 6]
def c_867_6 : List Instr := [.ireturn]
/- 876: DreamNetsModel.boat(IIII)I -/
def c_876_0 : List Instr := [.iload 1, .iload 2, .invokestatic 882, .ifCond .eq 1, .iload 3, .invokestatic 849, .ifCond .eq 1, .iload 4, .ldc_w 0, .ldc_w 9, .invokestatic 611, .ifCond .ne 2, .jsr 1]
def c_876_1 : List Instr := [.iconst (-1), .ireturn]
def c_876_2 : List Instr := [.aload 0, .getfield 2880, .ldc_w 5, .iaload, .ldc_w 6, .if_icmp .ne 3, .iconst (-2), .ireturn]
def c_876_3 : List Instr := [.aload 0, .getfield 2880, .ldc_w 5, .iaload, .istore 5, .ldc_w 0, .istore 6, .jsr 4]
def c_876_4 : List Instr := [.iload 6, .ldc_w 10, .if_icmp .ge 5, .aload 0, .iload 5, .iload 6, .ldc_w 0, .invokevirtual 130891, .iinc 6 1, .goto 4]
def c_876_5 : List Instr := [.aload 0, .iload 5, .ldc_w 0, .iload 1, .invokevirtual 130891, .aload 0, .iload 5, .ldc_w 1, .iload 2, .invokevirtual 130891, .aload 0, .iload 5, .ldc_w 2, .iload 3, .invokevirtual 130891, .aload 0, .iload 5, .ldc_w 3, .iload 4, .invokevirtual 130891, .aload 0, .getfield 2880, .ldc_w 5, .dup2, .iaload, .ldc_w 1, .iadd, .iastore, .iload 5, .ireturn]
/- 882: DreamNetsModel.isKind(II)Z -/
def c_882_0 : List Instr := [.iload 0, .ldc_w 0, .ldc_w 5, .invokestatic 611, .ifCond .eq 1, .iload 1, .ldc_w 0, .ldc_w 9, .invokestatic 611, .ifCond .eq 1, .ldc_w 1, .goto 2]
def c_882_1 : List Instr := [.ldc_w 0, .jsr 2]
def c_882_2 : List Instr := [.ireturn]
/- 891: DreamNetsModel.sets(III)V -/
def c_891_0 : List Instr := [.aload 0, .getfield 2880, .ldc_w 76, .ldc_w 10, .iload 1, .imul, .iadd, .iload 2, .iadd, .iload 3, .iastore, .return_]
/- 898: DreamNetsModel.of(II)I -/
def c_898_0 : List Instr := [.aload 0, .iload 1, .invokevirtual 130905, .ifCond .eq 1, .iload 2, .ldc_w 0, .ldc_w 10, .invokestatic 611, .ifCond .ne 2, .jsr 1]
def c_898_1 : List Instr := [.iconst (-1), .ireturn]
def c_898_2 : List Instr := [.iload 2, .ldc_w 10, .if_icmp .ge 3, .aload 0, .iload 1, .iload 2, .invokevirtual 130914, .goto 4]
def c_898_3 : List Instr := [.aload 0, .iload 1, .invokevirtual 130921, .jsr 4]
def c_898_4 : List Instr := [.ireturn]
/- 905: DreamNetsModel.isBoat(I)Z -/
def c_905_0 : List Instr := [.iload 1, .ldc_w 0, .aload 0, .getfield 2880, .ldc_w 5, .iaload, .ldc_w 1, .isub, .invokestatic 611, .ireturn]
/- 914: DreamNetsModel.its(II)I -/
def c_914_0 : List Instr := [.aload 0, .getfield 2880, .ldc_w 76, .ldc_w 10, .iload 1, .imul, .iadd, .iload 2, .iadd, .iaload, .ireturn]
/- 921: DreamNetsModel.worthOf(I)I -/
def c_921_0 : List Instr := [.ldc_w 0, .istore 2, .ldc_w 0, .istore 3, .jsr 1]
def c_921_1 : List Instr := [.iload 3, .ldc_w 5, .if_icmp .ge 2, .iload 2, .aload 0, .iload 1, .ldc_w 5, .iload 3, .iadd, .invokevirtual 130914, .aload 0, .getfield 2880, .ldc_w 7, .iload 3, .iadd, .iaload, .imul, .iadd, .istore 2, .iinc 3 1, .goto 1]
def c_921_2 : List Instr := [.iload 2, .ireturn]
/- 931: DreamNetsModel.mind(III)I -/
def c_931_0 : List Instr := [.aload 0, .iload 1, .invokevirtual 130905, .ifCond .eq 1, .iload 2, .iload 3, .invokestatic 882, .ifCond .ne 2, .jsr 1]
def c_931_1 : List Instr := [.iconst (-1), .ireturn]
def c_931_2 : List Instr := [.aload 0, .iload 1, .ldc_w 1, .iload 3, .invokevirtual 130891, .aload 0, .ldc_w 76, .ldc_w 10, .iload 1, .imul, .iadd, .iload 2, .invokevirtual 130778, .ireturn]
/- 938: DreamNetsModel.move(II)I -/
def c_938_0 : List Instr := [.aload 0, .iload 1, .invokevirtual 130905, .ifCond .eq 1, .iload 2, .invokestatic 849, .ifCond .eq 1, .aload 0, .ldc_w 76, .ldc_w 10, .iload 1, .imul, .iadd, .ldc_w 2, .iadd, .iload 2, .invokevirtual 130778, .goto 2]
def c_938_1 : List Instr := [.iconst (-1), .jsr 2]
def c_938_2 : List Instr := [.ireturn]
/- 946: DreamNetsModel.mesh(II)I -/
def c_946_0 : List Instr := [.aload 0, .iload 1, .invokevirtual 130905, .ifCond .eq 1, .iload 2, .ldc_w 0, .ldc_w 9, .invokestatic 611, .ifCond .eq 1, .aload 0, .ldc_w 76, .ldc_w 10, .iload 1, .imul, .iadd, .ldc_w 3, .iadd, .iload 2, .invokevirtual 130778, .goto 2]
def c_946_1 : List Instr := [.iconst (-1), .jsr 2]
def c_946_2 : List Instr := [.ireturn]
/- 953: DreamNetsModel.patch(I)I -/
def c_953_0 : List Instr := [.aload 0, .iload 1, .invokevirtual 130905, .ifCond .eq 1, .aload 0, .ldc_w 76, .ldc_w 10, .iload 1, .imul, .iadd, .ldc_w 4, .iadd, .ldc_w 0, .invokevirtual 130778, .goto 2]
def c_953_1 : List Instr := [.iconst (-1), .jsr 2]
def c_953_2 : List Instr := [.ireturn]
/- 962: DreamNetsModel.takes(II)I -/
def c_962_0 : List Instr := [.aload 0, .iload 1, .invokevirtual 130905, .ifCond .eq 1, .iload 2, .invokestatic 801, .ifCond .eq 1, .aload 0, .iload 1, .iload 2, .invokevirtual 130970, .goto 2]
def c_962_1 : List Instr := [.iconst (-1), .jsr 2]
def c_962_2 : List Instr := [.ireturn]
/- 970: DreamNetsModel.takesOf(II)I -/
def c_970_0 : List Instr := [.aload 0, .aload 0, .iload 1, .ldc_w 2, .invokevirtual 130914, .iload 2, .invokevirtual 130834, .istore 3, .aload 0, .iload 1, .ldc_w 1, .invokevirtual 130914, .istore 4, .iload 3, .ldc_w 4, .idiv, .istore 5, .aload 0, .iload 1, .ldc_w 0, .invokevirtual 130914, .tableswitch 10 1 5 #[1, 2, 3, 6, 7]]
def c_970_1 : List Instr := [.ldc_w 2, .iload 5, .imul, .istore 5, .goto 10]
def c_970_2 : List Instr := [.iload 5, .iload 4, .iadd, .istore 5, .goto 10]
def c_970_3 : List Instr := [.iload 2, .ldc_w 2, .if_icmp .ne 4, .ldc_w 0, .goto 5]
def c_970_4 : List Instr := [.ldc_w 2, .iload 5, .imul, .jsr 5]
def c_970_5 : List Instr := [.istore 5, .goto 10]
def c_970_6 : List Instr := [.ldc_w 2, .iload 5, .iload 4, .iadd, .imul, .istore 5, .goto 10]
def c_970_7 : List Instr := [.iload 2, .iload 4, .ldc_w 5, .irem, .if_icmp .ne 8, .iload 3, .goto 9]
def c_970_8 : List Instr := [.iload 5, .jsr 9]
def c_970_9 : List Instr := [.istore 5, .goto 10]
def c_970_10 : List Instr := [.iload 5, .iload 3, .if_icmp .ge 11, .iload 5, .goto 12]
def c_970_11 : List Instr := [.iload 3, .jsr 12]
def c_970_12 : List Instr := [.ireturn]
/- 977: DreamNetsModel.tears(I)I -/
def c_977_0 : List Instr := [.aload 0, .iload 1, .invokevirtual 130905, .ifCond .eq 1, .aload 0, .iload 1, .invokevirtual 130985, .goto 2]
def c_977_1 : List Instr := [.iconst (-1), .jsr 2]
def c_977_2 : List Instr := [.ireturn]
/- 985: DreamNetsModel.tearsOf(I)I -/
def c_985_0 : List Instr := [.aload 0, .iload 1, .ldc_w 0, .invokevirtual 130914, .tableswitch 7 1 5 #[1, 2, 3, 6, 1]]
def c_985_1 : List Instr := [.ldc_w 0, .ireturn]
def c_985_2 : List Instr := [.ldc_w 2, .ireturn]
def c_985_3 : List Instr := [.aload 0, .iload 1, .ldc_w 3, .invokevirtual 130914, .ldc_w 3, .if_icmp .ge 4, .ldc_w 1, .goto 5]
def c_985_4 : List Instr := [.ldc_w 0, .jsr 5]
def c_985_5 : List Instr := [.ireturn]
def c_985_6 : List Instr := [.ldc_w 2, .aload 0, .iload 1, .ldc_w 1, .invokevirtual 130914, .iadd, .ireturn]
def c_985_7 : List Instr := [.ldc_w 1, .ireturn]
/- 993: DreamNetsModel.haul(I)I -/
def c_993_0 : List Instr := [.aload 0, .iload 1, .invokevirtual 130905, .ifCond .ne 1, .iconst (-1), .ireturn]
def c_993_1 : List Instr := [.aload 0, .iload 1, .invokevirtual 131001, .ifCond .ne 2, .iconst (-4), .ireturn]
def c_993_2 : List Instr := [.aload 0, .iload 1, .invokevirtual 131009, .aload 0, .getfield 846, .ireturn]
/- 1001: DreamNetsModel.mayHaul(I)Z -/
def c_1001_0 : List Instr := [.ldc_w 68, .aload 0, .iload 1, .ldc_w 2, .invokevirtual 130914, .ldc_w 2, .idiv, .ldc_w 2, .imul, .iadd, .istore 2, .aload 0, .iload 1, .ldc_w 4, .invokevirtual 130914, .ldc_w 9, .if_icmp .ge 1, .aload 0, .getfield 2880, .iload 2, .ldc_w 1, .iadd, .iaload, .aload 0, .getfield 2880, .iload 2, .iaload, .if_icmp .ge 1, .ldc_w 1, .goto 2]
def c_1001_1 : List Instr := [.ldc_w 0, .jsr 2]
def c_1001_2 : List Instr := [.ireturn]
/- 1009: DreamNetsModel.hauls(I)V -/
def c_1009_0 : List Instr := [.aload 0, .ldc_w 0, .putfield 846, .aload 0, .ldc_w 0, .putfield 847, .aload 0, .iload 1, .invokevirtual 131001, .ifCond .ne 1, .return_]
def c_1009_1 : List Instr := [.aload 0, .iload 1, .ldc_w 2, .invokevirtual 130914, .istore 2, .ldc_w 0, .istore 3, .jsr 2]
def c_1009_2 : List Instr := [.iload 3, .ldc_w 5, .if_icmp .ge 6, .aload 0, .getfield 2884, .iload 3, .iaload, .aload 0, .iload 1, .ldc_w 3, .invokevirtual 130914, .if_icmp .lt 3, .aload 0, .iload 1, .iload 3, .invokevirtual 130970, .goto 4]
def c_1009_3 : List Instr := [.ldc_w 0, .jsr 4]
def c_1009_4 : List Instr := [.istore 4, .aload 0, .iload 2, .iload 3, .aload 0, .iload 2, .iload 3, .invokevirtual 130834, .iload 4, .isub, .invokevirtual 131019, .aload 0, .iload 1, .ldc_w 5, .iload 3, .iadd, .aload 0, .iload 1, .ldc_w 5, .iload 3, .iadd, .invokevirtual 130914, .iload 4, .iadd, .invokevirtual 130891, .aload 0, .dup, .getfield 846, .iload 4, .iadd, .putfield 846, .aload 0, .dup, .getfield 847, .iload 4, .aload 0, .getfield 2880, .ldc_w 7, .iload 3, .iadd, .iaload, .imul, .iadd, .putfield 847, .iload 3, .ldc_w 4, .if_icmp .ne 5, .iload 4, .ifCond .le 5, .aload 0, .iload 1, .ldc_w 4, .aload 0, .iload 1, .ldc_w 4, .invokevirtual 130914, .aload 0, .iload 1, .invokevirtual 130985, .iadd, .ldc_w 0, .ldc_w 9, .invokestatic 1027, .invokevirtual 130891, .jsr 5]
def c_1009_5 : List Instr := [.iinc 3 1, .goto 2]
def c_1009_6 : List Instr := [.aload 0, .iload 2, .ldc_w 6, .aload 0, .iload 2, .ldc_w 6, .invokevirtual 130834, .aload 0, .getfield 846, .iadd, .invokevirtual 131019, .aload 0, .getfield 2880, .ldc_w 68, .iload 2, .ldc_w 2, .idiv, .ldc_w 2, .imul, .iadd, .ldc_w 1, .iadd, .dup2, .iaload, .aload 0, .getfield 846, .iadd, .iastore, .return_]
/- 1019: DreamNetsModel.setsAt(III)V -/
def c_1019_0 : List Instr := [.aload 0, .getfield 2880, .ldc_w 12, .ldc_w 7, .iload 1, .imul, .iadd, .iload 2, .iadd, .iload 3, .iastore, .return_]
/- 1027: DreamNetsModel.held(III)I -/
def c_1027_0 : List Instr := [.iload 0, .iload 1, .if_icmp .ge 1, .iload 1, .goto 3]
def c_1027_1 : List Instr := [.iload 0, .iload 2, .if_icmp .le 2, .iload 2, .goto 3]
def c_1027_2 : List Instr := [.iload 0, .jsr 3]
def c_1027_3 : List Instr := [.ireturn]
/- 1034: DreamNetsModel.free(II)I -/
def c_1034_0 : List Instr := [.aload 0, .iload 1, .invokevirtual 130905, .ifCond .eq 1, .iload 2, .invokestatic 801, .ifCond .ne 2, .jsr 1]
def c_1034_1 : List Instr := [.iconst (-1), .ireturn]
def c_1034_2 : List Instr := [.aload 0, .iload 1, .ldc_w 2, .invokevirtual 130914, .istore 3, .aload 0, .iload 1, .ldc_w 5, .iload 2, .iadd, .invokevirtual 130914, .istore 4, .aload 0, .iload 3, .iload 2, .aload 0, .iload 3, .iload 2, .invokevirtual 130834, .iload 4, .iadd, .ldc_w 0, .ldc_w 99, .invokestatic 1027, .invokevirtual 131019, .aload 0, .iload 1, .ldc_w 5, .iload 2, .iadd, .ldc_w 0, .invokevirtual 130891, .iload 4, .ireturn]
/- 1041: DreamNetsModel.land(I)I -/
def c_1041_0 : List Instr := [.aload 0, .iload 1, .invokevirtual 130905, .ifCond .ne 1, .iconst (-1), .ireturn]
def c_1041_1 : List Instr := [.aload 0, .iload 1, .invokevirtual 130921, .istore 2, .aload 0, .getfield 2880, .ldc_w 4, .dup2, .iaload, .iload 2, .iadd, .iastore, .ldc_w 0, .istore 3, .jsr 2]
def c_1041_2 : List Instr := [.iload 3, .ldc_w 5, .if_icmp .ge 3, .aload 0, .iload 1, .ldc_w 5, .iload 3, .iadd, .ldc_w 0, .invokevirtual 130891, .iinc 3 1, .goto 2]
def c_1041_3 : List Instr := [.iload 2, .ireturn]
/- 1049: DreamNetsModel.bells(I)I -/
def c_1049_0 : List Instr := [.iload 1, .ldc_w 1, .ldc_w 48, .invokestatic 611, .ifCond .ne 1, .iconst (-1), .ireturn]
def c_1049_1 : List Instr := [.ldc_w 0, .istore 2, .jsr 2]
def c_1049_2 : List Instr := [.iload 2, .iload 1, .if_icmp .ge 3, .aload 0, .invokevirtual 131056, .iinc 2 1, .goto 2]
def c_1049_3 : List Instr := [.aload 0, .getfield 2880, .ldc_w 3, .iaload, .ireturn]
/- 1056: DreamNetsModel.bellGoes()V -/
def c_1056_0 : List Instr := [.ldc_w 0, .istore 1, .jsr 1]
def c_1056_1 : List Instr := [.iload 1, .ldc_w 8, .if_icmp .ge 6, .ldc_w 0, .istore 2, .jsr 2]
def c_1056_2 : List Instr := [.iload 2, .ldc_w 5, .if_icmp .ge 5, .aload 0, .iload 1, .iload 2, .invokevirtual 130834, .istore 3, .aload 0, .iload 1, .iload 2, .iload 3, .iload 3, .aload 0, .getfield 2880, .ldc_w 1, .iaload, .idiv, .iadd, .aload 0, .getfield 2880, .ldc_w 3, .iaload, .ldc_w 5, .irem, .iload 2, .if_icmp .ne 3, .aload 0, .iload 1, .ldc_w 5, .invokevirtual 130834, .goto 4]
def c_1056_3 : List Instr := [.ldc_w 0, .jsr 4]
def c_1056_4 : List Instr := [.iadd, .ldc_w 0, .ldc_w 99, .invokestatic 1027, .invokevirtual 131019, .iinc 2 1, .goto 2]
def c_1056_5 : List Instr := [.aload 0, .getfield 2896, .iload 1, .aload 0, .iload 1, .ldc_w 0, .invokevirtual 130834, .aload 0, .getfield 2880, .ldc_w 2, .iaload, .idiv, .iastore, .iinc 1 1, .goto 1]
def c_1056_6 : List Instr := [.ldc_w 0, .istore 1, .jsr 7]
def c_1056_7 : List Instr := [.iload 1, .ldc_w 8, .if_icmp .ge 8, .aload 0, .iload 1, .ldc_w 0, .aload 0, .iload 1, .ldc_w 0, .invokevirtual 130834, .aload 0, .getfield 2896, .iload 1, .iaload, .isub, .aload 0, .getfield 2896, .iload 1, .ldc_w 8, .iadd, .ldc_w 1, .isub, .ldc_w 8, .irem, .iaload, .iadd, .ldc_w 0, .ldc_w 99, .invokestatic 1027, .invokevirtual 131019, .iinc 1 1, .goto 7]
def c_1056_8 : List Instr := [.aload 0, .getfield 2880, .ldc_w 3, .dup2, .iaload, .ldc_w 1, .iadd, .iastore, .return_]
/- 1065: DreamNetsModel.cast(I)I -/
def c_1065_0 : List Instr := [.aload 0, .iload 1, .invokevirtual 130905, .ifCond .eq 1, .aload 0, .iload 1, .invokevirtual 131073, .goto 2]
def c_1065_1 : List Instr := [.iconst (-1), .jsr 2]
def c_1065_2 : List Instr := [.ireturn]
/- 1073: DreamNetsModel.casts(I)I -/
def c_1073_0 : List Instr := [.aload 0, .invokevirtual 131080, .ldc_w 100, .irem, .aload 0, .getfield 2880, .ldc_w 0, .iaload, .if_icmp .ge 1, .ldc_w 1, .goto 2]
def c_1073_1 : List Instr := [.ldc_w 0, .jsr 2]
def c_1073_2 : List Instr := [.istore 2, .aload 0, .ldc_w 0, .putfield 846, .iload 2, .ifCond .ne 3, .aload 0, .iload 1, .invokevirtual 131009, .jsr 3]
def c_1073_3 : List Instr := [.aload 0, .getfield 846, .ireturn]
/- 1080: DreamNetsModel.drawn()I -/
def c_1080_0 : List Instr := [.aload 0, .getfield 2880, .ldc_w 6, .aload 0, .getfield 2880, .ldc_w 6, .iaload, .ldc_w 1103515245, .imul, .ldc_w 12345, .iadd, .iastore, .aload 0, .getfield 2880, .ldc_w 6, .iaload, .ldc_w 16, .iushr, .ireturn]
/- 1089: DreamNetsModel.seed(I)I -/
def c_1089_0 : List Instr := [.aload 0, .ldc_w 6, .iload 1, .invokevirtual 130778, .ireturn]
/- 1096: DreamNetsModel.night()I -/
def c_1096_0 : List Instr := [.aload 0, .invokevirtual 131104, .ireturn]
/- 1104: DreamNetsModel.nightGoes()I -/
def c_1104_0 : List Instr := [.ldc_w 0, .istore 1, .ldc_w 0, .istore 2, .jsr 1]
def c_1104_1 : List Instr := [.iload 2, .aload 0, .getfield 2880, .ldc_w 5, .iaload, .if_icmp .ge 2, .aload 0, .iload 2, .ldc_w 2, .aload 0, .invokevirtual 131080, .ldc_w 8, .irem, .invokevirtual 130891, .iload 1, .aload 0, .iload 2, .invokevirtual 131073, .iadd, .istore 1, .iinc 2 1, .goto 1]
def c_1104_2 : List Instr := [.aload 0, .invokevirtual 131056, .iload 1, .ireturn]
/- 1114: DreamNetsModel.month(II)I -/
def c_1114_0 : List Instr := [.iload 1, .ldc_w 1, .ldc_w 30, .invokestatic 611, .ifCond .eq 1, .iload 2, .ldc_w 0, .ldc_w 999, .invokestatic 611, .ifCond .ne 2, .jsr 1]
def c_1114_1 : List Instr := [.iconst (-1), .ireturn]
def c_1114_2 : List Instr := [.aload 0, .getfield 2880, .aload 0, .getfield 2883, .invokestatic 762, .ldc_w 0, .istore 3, .ldc_w 0, .istore 4, .jsr 3]
def c_1114_3 : List Instr := [.iload 4, .iload 1, .if_icmp .ge 6, .aload 0, .getfield 2880, .ldc_w 6, .iaload, .istore 5, .aload 0, .getfield 2883, .aload 0, .getfield 2880, .invokestatic 762, .aload 0, .getfield 2880, .ldc_w 6, .iload 5, .iastore, .iload 3, .aload 0, .invokevirtual 131104, .iload 2, .if_icmp .lt 4, .ldc_w 1, .goto 5]
def c_1114_4 : List Instr := [.ldc_w 0, .jsr 5]
def c_1114_5 : List Instr := [.iadd, .istore 3, .iinc 4 1, .goto 3]
def c_1114_6 : List Instr := [.aload 0, .getfield 2883, .aload 0, .getfield 2880, .invokestatic 762, .iload 3, .ireturn]
/- 1121: DreamNetsModel.state(I)I -/
def c_1121_0 : List Instr := [.iload 1, .tableswitch 6 0 5 #[1, 2, 3, 3, 4, 5]]
def c_1121_1 : List Instr := [.aload 0, .getfield 2880, .ldc_w 3, .iaload, .ireturn]
def c_1121_2 : List Instr := [.aload 0, .getfield 2880, .ldc_w 4, .iaload, .ireturn]
def c_1121_3 : List Instr := [.aload 0, .iload 1, .invokevirtual 131129, .ireturn]
def c_1121_4 : List Instr := [.aload 0, .invokevirtual 131136, .ireturn]
def c_1121_5 : List Instr := [.aload 0, .invokevirtual 131144, .ireturn]
def c_1121_6 : List Instr := [.iconst (-1), .ireturn]
/- 1129: DreamNetsModel.sumOf(I)I -/
def c_1129_0 : List Instr := [.ldc_w 0, .istore 2, .ldc_w 0, .istore 3, .jsr 1]
def c_1129_1 : List Instr := [.iload 3, .ldc_w 8, .if_icmp .ge 2, .iload 1, .ldc_w 2, .if_icmp .ne 2, .iload 2, .aload 0, .iload 3, .invokevirtual 130857, .iadd, .istore 2, .iinc 3 1, .goto 1]
def c_1129_2 : List Instr := [.ldc_w 0, .istore 3, .jsr 3]
def c_1129_3 : List Instr := [.iload 3, .aload 0, .getfield 2880, .ldc_w 5, .iaload, .if_icmp .ge 6, .iload 1, .ldc_w 3, .if_icmp .ne 6, .ldc_w 0, .istore 4, .jsr 4]
def c_1129_4 : List Instr := [.iload 4, .ldc_w 5, .if_icmp .ge 5, .iload 2, .aload 0, .iload 3, .ldc_w 5, .iload 4, .iadd, .invokevirtual 130914, .iadd, .istore 2, .iinc 4 1, .goto 4]
def c_1129_5 : List Instr := [.iinc 3 1, .goto 3]
def c_1129_6 : List Instr := [.iload 2, .ireturn]
/- 1136: DreamNetsModel.emptySet()I -/
def c_1136_0 : List Instr := [.ldc_w 0, .istore 1, .ldc_w 0, .istore 2, .jsr 1]
def c_1136_1 : List Instr := [.iload 2, .ldc_w 8, .if_icmp .ge 4, .iload 1, .aload 0, .iload 2, .invokevirtual 130857, .ifCond .ne 2, .ldc_w 1, .iload 2, .ishl, .goto 3]
def c_1136_2 : List Instr := [.ldc_w 0, .jsr 3]
def c_1136_3 : List Instr := [.ior, .istore 1, .iinc 2 1, .goto 1]
def c_1136_4 : List Instr := [.iload 1, .ireturn]
/- 1144: DreamNetsModel.maySet()I -/
def c_1144_0 : List Instr := [.ldc_w 0, .istore 1, .ldc_w 0, .istore 2, .jsr 1]
def c_1144_1 : List Instr := [.iload 2, .aload 0, .getfield 2880, .ldc_w 5, .iaload, .if_icmp .ge 4, .iload 1, .aload 0, .iload 2, .invokevirtual 131001, .ifCond .eq 2, .ldc_w 1, .iload 2, .ishl, .goto 3]
def c_1144_2 : List Instr := [.ldc_w 0, .jsr 3]
def c_1144_3 : List Instr := [.ior, .istore 1, .iinc 2 1, .goto 1]
def c_1144_4 : List Instr := [.iload 1, .ireturn]
/- 1154: DreamNetsModel.plan(II)I -/
def c_1154_0 : List Instr := [.aload 0, .iload 1, .invokevirtual 130905, .ifCond .eq 1, .iload 2, .ldc_w 0, .ldc_w 4, .invokestatic 611, .ifCond .ne 2, .jsr 1]
def c_1154_1 : List Instr := [.iconst (-1), .ireturn]
def c_1154_2 : List Instr := [.aload 0, .iload 1, .iload 2, .invokevirtual 131162, .aload 0, .getfield 851, .ireturn]
/- 1162: DreamNetsModel.findPlan(II)V -/
def c_1162_0 : List Instr := [.aload 0, .getfield 2880, .aload 0, .getfield 2883, .invokestatic 762, .aload 0, .iconst (-1), .putfield 851, .ldc_w 0, .istore 3, .jsr 1]
def c_1162_1 : List Instr := [.iload 3, .iload 2, .invokestatic 1169, .if_icmp .ge 6, .ldc_w 0, .istore 4, .ldc_w 0, .istore 5, .jsr 2]
def c_1162_2 : List Instr := [.iload 5, .iload 2, .if_icmp .ge 3, .aload 0, .iload 1, .ldc_w 2, .aload 0, .iload 1, .ldc_w 2, .invokevirtual 130914, .iload 3, .iload 2, .ldc_w 1, .isub, .iload 5, .isub, .invokestatic 1169, .idiv, .ldc_w 3, .irem, .invokestatic 1178, .invokevirtual 130891, .aload 0, .getfield 2898, .iload 5, .aload 0, .iload 1, .ldc_w 2, .invokevirtual 130914, .iastore, .aload 0, .iload 1, .invokevirtual 131009, .iload 4, .aload 0, .getfield 847, .iadd, .istore 4, .aload 0, .invokevirtual 131056, .iinc 5 1, .goto 2]
def c_1162_3 : List Instr := [.aload 0, .getfield 2883, .aload 0, .getfield 2880, .invokestatic 762, .iload 4, .aload 0, .getfield 851, .if_icmp .le 5, .aload 0, .iload 4, .putfield 851, .ldc_w 0, .istore 5, .jsr 4]
def c_1162_4 : List Instr := [.iload 5, .iload 2, .if_icmp .ge 5, .aload 0, .getfield 2897, .iload 5, .aload 0, .getfield 2898, .iload 5, .iaload, .iastore, .iinc 5 1, .goto 4]
def c_1162_5 : List Instr := [.iinc 3 1, .goto 1]
def c_1162_6 : List Instr := [.return_]
/- 1169: DreamNetsModel.power(I)I -/
def c_1169_0 : List Instr := [.ldc_w 1, .istore 1, .ldc_w 0, .istore 2, .jsr 1]
def c_1169_1 : List Instr := [.iload 2, .iload 0, .if_icmp .ge 2, .iload 1, .ldc_w 3, .imul, .istore 1, .iinc 2 1, .goto 1]
def c_1169_2 : List Instr := [.iload 1, .ireturn]
/- 1178: DreamNetsModel.option(II)I -/
def c_1178_0 : List Instr := [.iload 0, .ifCond .ne 3, .iload 1, .ldc_w 2, .if_icmp .ge 1, .iload 1, .goto 2]
def c_1178_1 : List Instr := [.ldc_w 7, .jsr 2]
def c_1178_2 : List Instr := [.ireturn]
def c_1178_3 : List Instr := [.iload 0, .ldc_w 7, .if_icmp .ne 6, .iload 1, .ifCond .ne 4, .ldc_w 0, .goto 5]
def c_1178_4 : List Instr := [.ldc_w 5, .iload 1, .iadd, .jsr 5]
def c_1178_5 : List Instr := [.ireturn]
def c_1178_6 : List Instr := [.iload 0, .ldc_w 1, .isub, .iload 1, .iadd, .ireturn]
/- 1187: DreamNetsModel.stop(III)I -/
def c_1187_0 : List Instr := [.aload 0, .iload 1, .invokevirtual 130905, .ifCond .eq 1, .iload 2, .ldc_w 0, .ldc_w 4, .invokestatic 611, .ifCond .eq 1, .iload 3, .ldc_w 0, .ldc_w 3, .invokestatic 611, .ifCond .ne 2, .jsr 1]
def c_1187_1 : List Instr := [.iconst (-1), .ireturn]
def c_1187_2 : List Instr := [.aload 0, .iload 1, .iload 2, .invokevirtual 131162, .iload 3, .iload 2, .if_icmp .ge 3, .aload 0, .getfield 2897, .iload 3, .iaload, .goto 4]
def c_1187_3 : List Instr := [.iconst (-3), .jsr 4]
def c_1187_4 : List Instr := [.ireturn]
/- 1195: DreamNetsModel.fine(III)I -/
def c_1195_0 : List Instr := [.aload 0, .iload 1, .invokevirtual 130905, .ifCond .eq 1, .iload 2, .ldc_w 1, .ldc_w 9, .invokestatic 611, .ifCond .eq 1, .iload 3, .ldc_w 0, .ldc_w 1, .invokestatic 611, .ifCond .ne 2, .jsr 1]
def c_1195_1 : List Instr := [.iconst (-1), .ireturn]
def c_1195_2 : List Instr := [.aload 0, .getfield 2880, .aload 0, .getfield 2883, .invokestatic 762, .ldc_w 0, .istore 4, .iconst (-1), .istore 5, .ldc_w 0, .istore 6, .jsr 3]
def c_1195_3 : List Instr := [.iload 6, .ldc_w 9, .if_icmp .gt 10, .ldc_w 0, .istore 7, .aload 0, .iload 1, .ldc_w 3, .iload 6, .invokevirtual 130891, .ldc_w 0, .istore 8, .jsr 4]
def c_1195_4 : List Instr := [.iload 8, .iload 2, .if_icmp .ge 5, .aload 0, .iload 1, .invokevirtual 131009, .iload 7, .aload 0, .getfield 847, .iadd, .istore 7, .aload 0, .invokevirtual 131056, .iinc 8 1, .goto 4]
def c_1195_5 : List Instr := [.aload 0, .getfield 2883, .aload 0, .getfield 2880, .invokestatic 762, .iload 7, .iload 5, .if_icmp .lt 6, .iload 6, .goto 7]
def c_1195_6 : List Instr := [.iload 4, .jsr 7]
def c_1195_7 : List Instr := [.istore 4, .iload 7, .iload 5, .if_icmp .lt 8, .iload 7, .goto 9]
def c_1195_8 : List Instr := [.iload 5, .jsr 9]
def c_1195_9 : List Instr := [.istore 5, .iinc 6 1, .goto 3]
def c_1195_10 : List Instr := [.iload 3, .ifCond .ne 11, .iload 4, .goto 12]
def c_1195_11 : List Instr := [.iload 5, .jsr 12]
def c_1195_12 : List Instr := [.ireturn]
/- 1200: DreamNetsModel.lasts()I -/
def c_1200_0 : List Instr := [.aload 0, .getfield 2880, .aload 0, .getfield 2883, .invokestatic 762, .ldc_w 0, .istore 1, .jsr 1]
def c_1200_1 : List Instr := [.iload 1, .ldc_w 48, .if_icmp .gt 4, .aload 0, .invokevirtual 131136, .ifCond .ne 4, .ldc_w 0, .istore 2, .jsr 2]
def c_1200_2 : List Instr := [.iload 2, .aload 0, .getfield 2880, .ldc_w 5, .iaload, .if_icmp .ge 3, .aload 0, .iload 2, .invokevirtual 131009, .iinc 2 1, .goto 2]
def c_1200_3 : List Instr := [.aload 0, .invokevirtual 131056, .iinc 1 1, .goto 1]
def c_1200_4 : List Instr := [.aload 0, .getfield 2883, .aload 0, .getfield 2880, .invokestatic 762, .iload 1, .ldc_w 48, .if_icmp .le 5, .iconst (-3), .goto 6]
def c_1200_5 : List Instr := [.iload 1, .jsr 6]
def c_1200_6 : List Instr := [.ireturn]
/- 1210: DreamNetsModel.shoal(II)I -/
def c_1210_0 : List Instr := [.iload 1, .invokestatic 1217, .ifCond .eq 1, .iload 2, .ldc_w 0, .ldc_w 1, .invokestatic 611, .ifCond .ne 2, .jsr 1]
def c_1210_1 : List Instr := [.iconst (-1), .ireturn]
def c_1210_2 : List Instr := [.aload 0, .getfield 2904, .iload 1, .iaload, .ifCond .ge 3, .iconst (-11), .ireturn]
def c_1210_3 : List Instr := [.ldc_w 0, .istore 3, .jsr 4]
def c_1210_4 : List Instr := [.iload 3, .ldc_w 40, .if_icmp .ge 5, .aload 0, .getfield 2900, .iload 3, .ldc_w 1, .bastore, .iinc 3 1, .goto 4]
def c_1210_5 : List Instr := [.aload 0, .getfield 2880, .aload 0, .getfield 2883, .invokestatic 762, .ldc_w 0, .istore 3, .jsr 6]
def c_1210_6 : List Instr := [.iload 3, .aload 0, .getfield 2905, .iload 1, .iaload, .if_icmp .ge 11, .ldc_w 0, .istore 4, .jsr 7]
def c_1210_7 : List Instr := [.iload 4, .ldc_w 40, .if_icmp .ge 10, .aload 0, .getfield 2900, .iload 4, .aload 0, .getfield 2900, .iload 4, .baload, .ifCond .eq 8, .aload 0, .getfield 2906, .ldc_w 40, .iload 1, .imul, .iload 3, .iadd, .laload, .aload 0, .iload 4, .ldc_w 5, .idiv, .iload 4, .ldc_w 5, .irem, .invokevirtual 130834, .i2l, .lcmp, .ifCond .ne 8, .ldc_w 1, .goto 9]
def c_1210_8 : List Instr := [.ldc_w 0, .jsr 9]
def c_1210_9 : List Instr := [.bastore, .iinc 4 1, .goto 7]
def c_1210_10 : List Instr := [.aload 0, .invokevirtual 131056, .iinc 3 1, .goto 6]
def c_1210_11 : List Instr := [.aload 0, .getfield 2883, .aload 0, .getfield 2880, .invokestatic 762, .ldc_w 0, .istore 3, .iconst (-3), .istore 4, .ldc_w 39, .istore 5, .jsr 12]
def c_1210_12 : List Instr := [.iload 5, .ifCond .lt 17, .iload 3, .aload 0, .getfield 2900, .iload 5, .baload, .ifCond .eq 13, .ldc_w 1, .goto 14]
def c_1210_13 : List Instr := [.ldc_w 0, .jsr 14]
def c_1210_14 : List Instr := [.iadd, .istore 3, .aload 0, .getfield 2900, .iload 5, .baload, .ifCond .eq 15, .ldc_w 10, .iload 5, .ldc_w 5, .idiv, .imul, .iload 5, .ldc_w 5, .irem, .iadd, .goto 16]
def c_1210_15 : List Instr := [.iload 4, .jsr 16]
def c_1210_16 : List Instr := [.istore 4, .iinc 5 (-1), .goto 12]
def c_1210_17 : List Instr := [.iload 2, .ifCond .ne 18, .iload 3, .goto 19]
def c_1210_18 : List Instr := [.iload 4, .jsr 19]
def c_1210_19 : List Instr := [.ireturn]
/- 1217: DreamNetsModel.isShelf(I)Z -/
def c_1217_0 : List Instr := [.iload 0, .ldc_w 0, .ldc_w 3, .invokestatic 611, .ireturn]
/- 1226: DreamNetsModel.pieces(II)I -/
def c_1226_0 : List Instr := [.iload 1, .invokestatic 801, .ifCond .eq 1, .iload 2, .ldc_w 0, .ldc_w 999, .invokestatic 611, .ifCond .ne 2, .jsr 1]
def c_1226_1 : List Instr := [.iconst (-1), .ireturn]
def c_1226_2 : List Instr := [.iconst (-1), .istore 3, .ldc_w 0, .istore 4, .jsr 3]
def c_1226_3 : List Instr := [.iload 4, .ldc_w 1, .aload 0, .getfield 2880, .ldc_w 5, .iaload, .ishl, .if_icmp .ge 13, .ldc_w 0, .istore 5, .ldc_w 0, .istore 6, .jsr 4]
def c_1226_4 : List Instr := [.iload 6, .aload 0, .getfield 2880, .ldc_w 5, .iaload, .if_icmp .ge 7, .iload 5, .iload 4, .iload 6, .ishr, .ldc_w 1, .iand, .ldc_w 1, .if_icmp .ne 5, .aload 0, .iload 6, .ldc_w 5, .iload 1, .iadd, .invokevirtual 130914, .goto 6]
def c_1226_5 : List Instr := [.ldc_w 0, .jsr 6]
def c_1226_6 : List Instr := [.iadd, .istore 5, .iinc 6 1, .goto 4]
def c_1226_7 : List Instr := [.iload 5, .iload 2, .if_icmp .ne 9, .iload 3, .ifCond .lt 8, .iload 4, .invokestatic 1233, .iload 3, .invokestatic 1233, .if_icmp .ge 9, .jsr 8]
def c_1226_8 : List Instr := [.ldc_w 1, .goto 10]
def c_1226_9 : List Instr := [.ldc_w 0, .jsr 10]
def c_1226_10 : List Instr := [.istore 6, .iload 6, .ifCond .eq 11, .iload 4, .goto 12]
def c_1226_11 : List Instr := [.iload 3, .jsr 12]
def c_1226_12 : List Instr := [.istore 3, .iinc 4 1, .goto 3]
def c_1226_13 : List Instr := [.iload 3, .ifCond .ge 14, .iconst (-3), .goto 15]
def c_1226_14 : List Instr := [.iload 3, .jsr 15]
def c_1226_15 : List Instr := [.ireturn]
/- 1233: DreamNetsModel.ones(I)I -/
def c_1233_0 : List Instr := [.ldc_w 0, .istore 1, .iload 0, .istore 2, .jsr 1]
def c_1233_1 : List Instr := [.iload 2, .ifCond .eq 2, .iinc 1 1, .iload 2, .iload 2, .ldc_w 1, .isub, .iand, .istore 2, .goto 1]
def c_1233_2 : List Instr := [.iload 1, .ireturn]
/- 1240: DreamNetsModel.gives()I -/
def c_1240_0 : List Instr := [.ldc_w 0, .istore 1, .ldc_w 1, .istore 2, .jsr 1]
def c_1240_1 : List Instr := [.iload 2, .ldc_w 4, .if_icmp .ge 4, .aload 0, .getfield 2880, .ldc_w 68, .ldc_w 2, .iload 2, .imul, .iadd, .ldc_w 1, .iadd, .iaload, .i2l, .aload 0, .iload 1, .ldc_w 2, .invokevirtual 130826, .ldc_w 1, .ldc_w 18, .invokestatic 1027, .i2l, .lmul, .lstore 3, .aload 0, .getfield 2880, .ldc_w 68, .ldc_w 2, .iload 1, .imul, .iadd, .ldc_w 1, .iadd, .iaload, .i2l, .aload 0, .iload 2, .ldc_w 2, .invokevirtual 130826, .ldc_w 1, .ldc_w 18, .invokestatic 1027, .i2l, .lmul, .lstore 5, .lload 3, .lload 5, .lcmp, .ifCond .le 2, .iload 2, .goto 3]
def c_1240_2 : List Instr := [.iload 1, .jsr 3]
def c_1240_3 : List Instr := [.istore 1, .iinc 2 1, .goto 1]
def c_1240_4 : List Instr := [.iload 1, .ireturn]
/- 1251: DreamNetsModel.when(III)I -/
def c_1251_0 : List Instr := [.iload 1, .invokestatic 849, .ifCond .eq 1, .iload 2, .invokestatic 801, .ifCond .eq 1, .iload 3, .ldc_w 0, .ldc_w 99, .invokestatic 611, .ifCond .ne 2, .jsr 1]
def c_1251_1 : List Instr := [.iconst (-1), .ireturn]
def c_1251_2 : List Instr := [.aload 0, .getfield 2880, .aload 0, .getfield 2883, .invokestatic 762, .ldc_w 0, .istore 4, .jsr 3]
def c_1251_3 : List Instr := [.iload 4, .ldc_w 48, .if_icmp .gt 4, .aload 0, .iload 1, .iload 2, .invokevirtual 130834, .iload 3, .if_icmp .ge 4, .aload 0, .invokevirtual 131056, .iinc 4 1, .goto 3]
def c_1251_4 : List Instr := [.aload 0, .getfield 2883, .aload 0, .getfield 2880, .invokestatic 762, .iload 4, .ldc_w 48, .if_icmp .le 5, .iconst (-3), .goto 6]
def c_1251_5 : List Instr := [.iload 4, .jsr 6]
def c_1251_6 : List Instr := [.ireturn]
/- 1258: DreamNetsModel.odds(II)J -/
def c_1258_0 : List Instr := [.iload 1, .ldc_w 0, .ldc_w 8, .invokestatic 611, .ifCond .eq 1, .iload 2, .ldc_w 0, .ldc_w 1, .invokestatic 611, .ifCond .ne 2, .jsr 1]
def c_1258_1 : List Instr := [.jsr_w (-1), .lreturn]
def c_1258_2 : List Instr := [.ldc_w 100, .iload 1, .invokestatic 1266, .lstore 3, .lload 3, .aload 0, .getfield 2880, .ldc_w 0, .iaload, .iload 1, .invokestatic 1266, .lsub, .lload 3, .iload 2, .invokestatic 1275, .lreturn]
/- 1266: DreamNetsModel.powerOf(II)J -/
def c_1266_0 : List Instr := [.ldc2_w 1, .lstore 2, .ldc_w 0, .istore 4, .jsr 1]
def c_1266_1 : List Instr := [.iload 4, .iload 1, .if_icmp .ge 2, .lload 2, .iload 0, .i2l, .lmul, .lstore 2, .iinc 4 1, .goto 1]
def c_1266_2 : List Instr := [.lload 2, .lreturn]
/- 1275: DreamNetsModel.lowest(JJI)J -/
def c_1275_0 : List Instr := [.lload 2, .lstore 5, .lload 0, .lstore 7, .jsr 1]
def c_1275_1 : List Instr := [.lload 7, .ldc2_w 0, .lcmp, .ifCond .eq 2, .lload 5, .lload 7, .lrem, .lstore 9, .lload 7, .lstore 5, .lload 9, .lstore 7, .goto 1]
def c_1275_2 : List Instr := [.iload 4, .ifCond .ne 3, .lload 0, .lload 5, .ldiv, .goto 4]
def c_1275_3 : List Instr := [.lload 2, .lload 5, .ldiv, .jsr 4]
def c_1275_4 : List Instr := [.lreturn]
/- 1283: DreamNetsModel.hope(III)J -/
def c_1283_0 : List Instr := [.aload 0, .iload 1, .invokevirtual 130905, .ifCond .eq 1, .iload 2, .ldc_w 0, .ldc_w 5, .invokestatic 611, .ifCond .eq 1, .iload 3, .ldc_w 0, .ldc_w 1, .invokestatic 611, .ifCond .ne 2, .jsr 1]
def c_1283_1 : List Instr := [.jsr_w (-1), .lreturn]
def c_1283_2 : List Instr := [.aload 0, .getfield 2880, .aload 0, .getfield 2883, .invokestatic 762, .ldc2_w 0, .lstore 4, .ldc2_w 0, .lstore 6, .ldc_w 1, .istore 8, .jsr 3]
def c_1283_3 : List Instr := [.iload 8, .iload 2, .if_icmp .gt 4, .aload 0, .iload 1, .invokevirtual 131009, .lload 6, .aload 0, .getfield 847, .i2l, .ladd, .lstore 6, .lload 4, .lload 6, .aload 0, .iload 2, .iload 8, .invokevirtual 131290, .lmul, .ladd, .lstore 4, .iinc 8 1, .goto 3]
def c_1283_4 : List Instr := [.aload 0, .getfield 2883, .aload 0, .getfield 2880, .invokestatic 762, .lload 4, .ldc_w 100, .iload 2, .invokestatic 1266, .iload 3, .invokestatic 1275, .lreturn]
/- 1290: DreamNetsModel.just(II)J -/
def c_1290_0 : List Instr := [.ldc2_w 1, .lstore 3, .ldc_w 0, .istore 5, .jsr 1]
def c_1290_1 : List Instr := [.iload 5, .iload 2, .if_icmp .ge 2, .lload 3, .iload 1, .iload 5, .isub, .i2l, .lmul, .iload 5, .ldc_w 1, .iadd, .i2l, .ldiv, .lstore 3, .iinc 5 1, .goto 1]
def c_1290_2 : List Instr := [.lload 3, .ldc_w 100, .aload 0, .getfield 2880, .ldc_w 0, .iaload, .isub, .iload 2, .invokestatic 1266, .lmul, .aload 0, .getfield 2880, .ldc_w 0, .iaload, .iload 1, .iload 2, .isub, .invokestatic 1266, .lmul, .lreturn]
/- 1298: DreamNetsModel.prove(II)I -/
def c_1298_0 : List Instr := [.iload 1, .invokestatic 849, .ifCond .eq 1, .iload 2, .ldc_w 1, .ldc_w 10, .invokestatic 611, .ifCond .ne 2, .jsr 1]
def c_1298_1 : List Instr := [.iconst (-1), .ireturn]
def c_1298_2 : List Instr := [.aload 0, .iload 1, .iload 2, .invokevirtual 131306, .aload 0, .iload 2, .putfield 855, .ldc_w 0, .istore 3, .jsr 3]
def c_1298_3 : List Instr := [.iload 3, .ldc_w 3, .iload 2, .imul, .if_icmp .ge 4, .aload 0, .getfield 2901, .iload 3, .aload 0, .getfield 2902, .iload 3, .iaload, .iastore, .iinc 3 1, .goto 3]
def c_1298_4 : List Instr := [.iload 2, .ireturn]
/- 1306: DreamNetsModel.findRows(II)V -/
def c_1306_0 : List Instr := [.aload 0, .getfield 2880, .aload 0, .getfield 2883, .invokestatic 762, .ldc_w 0, .istore 3, .jsr 1]
def c_1306_1 : List Instr := [.iload 3, .iload 2, .if_icmp .ge 6, .aload 0, .invokevirtual 131056, .ldc_w 0, .istore 4, .ldc_w 1, .istore 5, .jsr 2]
def c_1306_2 : List Instr := [.iload 5, .ldc_w 5, .if_icmp .ge 5, .aload 0, .iload 1, .iload 5, .invokevirtual 130834, .aload 0, .iload 1, .iload 4, .invokevirtual 130834, .if_icmp .le 3, .iload 5, .goto 4]
def c_1306_3 : List Instr := [.iload 4, .jsr 4]
def c_1306_4 : List Instr := [.istore 4, .iinc 5 1, .goto 2]
def c_1306_5 : List Instr := [.aload 0, .getfield 2902, .ldc_w 3, .iload 3, .imul, .aload 0, .iload 1, .invokevirtual 130857, .iastore, .aload 0, .getfield 2902, .ldc_w 3, .iload 3, .imul, .ldc_w 1, .iadd, .aload 0, .iload 1, .ldc_w 0, .invokevirtual 130834, .iastore, .aload 0, .getfield 2902, .ldc_w 3, .iload 3, .imul, .ldc_w 2, .iadd, .iload 4, .iastore, .iinc 3 1, .goto 1]
def c_1306_6 : List Instr := [.aload 0, .getfield 2883, .aload 0, .getfield 2880, .invokestatic 762, .return_]
/- 1314: DreamNetsModel.row(II)I -/
def c_1314_0 : List Instr := [.aload 0, .iload 1, .iload 2, .invokevirtual 131322, .ifCond .eq 1, .aload 0, .getfield 2901, .ldc_w 3, .iload 1, .imul, .iload 2, .iadd, .iaload, .goto 2]
def c_1314_1 : List Instr := [.iconst (-9), .jsr 2]
def c_1314_2 : List Instr := [.ireturn]
/- 1322: DreamNetsModel.isRow(II)Z -/
def c_1322_0 : List Instr := [.iload 1, .ldc_w 0, .aload 0, .getfield 855, .ldc_w 1, .isub, .invokestatic 611, .ifCond .eq 1, .iload 2, .ldc_w 0, .ldc_w 2, .invokestatic 611, .ifCond .eq 1, .ldc_w 1, .goto 2]
def c_1322_1 : List Instr := [.ldc_w 0, .jsr 2]
def c_1322_2 : List Instr := [.ireturn]
/- 1331: DreamNetsModel.alterRow(III)I -/
def c_1331_0 : List Instr := [.aload 0, .iload 1, .iload 2, .invokevirtual 131322, .ifCond .ne 1, .iconst (-9), .ireturn]
def c_1331_1 : List Instr := [.aload 0, .getfield 2901, .ldc_w 3, .iload 1, .imul, .iload 2, .iadd, .iaload, .istore 4, .aload 0, .getfield 2901, .ldc_w 3, .iload 1, .imul, .iload 2, .iadd, .iload 3, .iastore, .iload 4, .ireturn]
/- 1337: DreamNetsModel.judge(I)I -/
def c_1337_0 : List Instr := [.iload 1, .invokestatic 849, .ifCond .ne 1, .iconst (-1), .ireturn]
def c_1337_1 : List Instr := [.aload 0, .iload 1, .aload 0, .getfield 855, .invokevirtual 131306, .ldc_w 0, .istore 2, .jsr 2]
def c_1337_2 : List Instr := [.iload 2, .ldc_w 3, .aload 0, .getfield 855, .imul, .if_icmp .ge 4, .aload 0, .getfield 2901, .iload 2, .iaload, .aload 0, .getfield 2902, .iload 2, .iaload, .if_icmp .eq 3, .iload 2, .ldc_w 3, .idiv, .ldc_w 1, .iadd, .ireturn]
def c_1337_3 : List Instr := [.iinc 2 1, .goto 2]
def c_1337_4 : List Instr := [.ldc_w 0, .ireturn]
/- 1348: DreamNetsModel.minds(IIII)I -/
def c_1348_0 : List Instr := [.iload 1, .invokestatic 1217, .ifCond .eq 1, .iload 3, .invokestatic 849, .ifCond .eq 1, .iload 4, .ldc_w 0, .ldc_w 5, .invokestatic 611, .ifCond .ne 2, .jsr 1]
def c_1348_1 : List Instr := [.iconst (-1), .ireturn]
def c_1348_2 : List Instr := [.aload 0, .iload 1, .ldc_w 0, .invokevirtual 131354, .istore 5, .iload 5, .ifCond .eq 3, .iload 5, .ireturn]
def c_1348_3 : List Instr := [.iload 2, .ifCond .lt 4, .iload 2, .aload 0, .getfield 2905, .iload 1, .iaload, .iload 4, .isub, .if_icmp .le 5, .jsr 4]
def c_1348_4 : List Instr := [.iconst (-12), .ireturn]
def c_1348_5 : List Instr := [.ldc_w 0, .istore 6, .jsr 6]
def c_1348_6 : List Instr := [.iload 6, .iload 4, .if_icmp .ge 7, .aload 0, .iload 3, .iload 6, .aload 0, .getfield 2906, .ldc_w 40, .iload 1, .imul, .iload 2, .iadd, .iload 6, .iadd, .laload, .l2i, .ldc_w 0, .ldc_w 99, .invokestatic 1027, .invokevirtual 131019, .iinc 6 1, .goto 6]
def c_1348_7 : List Instr := [.iload 4, .ireturn]
/- 1354: DreamNetsModel.lacksSort(II)I -/
def c_1354_0 : List Instr := [.aload 0, .getfield 2904, .iload 1, .iaload, .ifCond .ge 1, .iconst (-11), .goto 3]
def c_1354_1 : List Instr := [.aload 0, .getfield 2904, .iload 1, .iaload, .iload 2, .if_icmp .eq 2, .iconst (-13), .goto 3]
def c_1354_2 : List Instr := [.ldc_w 0, .jsr 3]
def c_1354_3 : List Instr := [.ireturn]
/- 1363: DreamNetsModel.sheet(III)I -/
def c_1363_0 : List Instr := [.iload 1, .invokestatic 1217, .ifCond .eq 1, .iload 2, .iconst (-1), .ldc_w 3, .invokestatic 611, .ifCond .eq 1, .iload 2, .ifCond .lt 2, .iload 3, .ldc_w 40, .if_icmp .le 2, .jsr 1]
def c_1363_1 : List Instr := [.iconst (-1), .ireturn]
def c_1363_2 : List Instr := [.iload 2, .ifCond .lt 3, .iload 3, .ifCond .ge 3, .iconst (-14), .ireturn]
def c_1363_3 : List Instr := [.aload 0, .getfield 2904, .iload 1, .iload 2, .iastore, .aload 0, .getfield 2905, .iload 1, .iload 2, .ifCond .ge 4, .ldc_w 0, .goto 5]
def c_1363_4 : List Instr := [.iload 3, .jsr 5]
def c_1363_5 : List Instr := [.iastore, .ldc_w 0, .istore 4, .jsr 6]
def c_1363_6 : List Instr := [.iload 4, .ldc_w 40, .if_icmp .ge 7, .aload 0, .getfield 2906, .ldc_w 40, .iload 1, .imul, .iload 4, .iadd, .ldc2_w 0, .lastore, .iinc 4 1, .goto 6]
def c_1363_7 : List Instr := [.ldc_w 1, .ireturn]
/- 1371: DreamNetsModel.put(III)I -/
def c_1371_0 : List Instr := [.iload 1, .invokestatic 1217, .ifCond .ne 1, .iconst (-1), .ireturn]
def c_1371_1 : List Instr := [.aload 0, .getfield 2904, .iload 1, .iaload, .ifCond .ge 2, .iconst (-11), .ireturn]
def c_1371_2 : List Instr := [.iload 2, .ldc_w 0, .aload 0, .getfield 2905, .iload 1, .iaload, .ldc_w 1, .isub, .invokestatic 611, .ifCond .ne 3, .iconst (-12), .ireturn]
def c_1371_3 : List Instr := [.aload 0, .getfield 2906, .ldc_w 40, .iload 1, .imul, .iload 2, .iadd, .aload 0, .getfield 2904, .iload 1, .iaload, .ifCond .ne 4, .iload 3, .i2b, .i2l, .goto 6]
def c_1371_4 : List Instr := [.aload 0, .getfield 2904, .iload 1, .iaload, .ldc_w 1, .if_icmp .ne 5, .iload 3, .i2s, .i2l, .goto 6]
def c_1371_5 : List Instr := [.iload 3, .i2l, .jsr 6]
def c_1371_6 : List Instr := [.lastore, .ldc_w 1, .ireturn]
/- 1379: DreamNetsModel.item(III)I -/
def c_1379_0 : List Instr := [.iload 1, .invokestatic 1217, .ifCond .eq 1, .iload 2, .ldc_w 0, .ldc_w 3, .invokestatic 611, .ifCond .ne 2, .jsr 1]
def c_1379_1 : List Instr := [.iconst (-1), .ireturn]
def c_1379_2 : List Instr := [.aload 0, .iload 1, .iload 2, .invokevirtual 131354, .istore 4, .iload 4, .ifCond .eq 3, .iload 4, .ireturn]
def c_1379_3 : List Instr := [.iload 3, .ldc_w 0, .aload 0, .getfield 2905, .iload 1, .iaload, .ldc_w 1, .isub, .invokestatic 611, .ifCond .eq 4, .aload 0, .getfield 2906, .ldc_w 40, .iload 1, .imul, .iload 3, .iadd, .laload, .l2i, .goto 5]
def c_1379_4 : List Instr := [.iconst (-12), .jsr 5]
def c_1379_5 : List Instr := [.ireturn]
/- 1387: DreamNetsModel.shelf(III)I -/
def c_1387_0 : List Instr := [.iload 1, .invokestatic 1217, .ifCond .eq 1, .aload 0, .iload 2, .iload 3, .invokevirtual 131394, .ifCond .ne 2, .jsr 1]
def c_1387_1 : List Instr := [.iconst (-1), .ireturn]
def c_1387_2 : List Instr := [.aload 0, .getfield 2907, .iload 1, .iload 2, .ldc_w 2, .if_icmp .eq 3, .iload 2, .ldc_w 1, .if_icmp .ne 4, .aload 0, .getfield 2904, .iload 3, .iaload, .ifCond .ge 4, .jsr 3]
def c_1387_3 : List Instr := [.iconst (-1), .goto 5]
def c_1387_4 : List Instr := [.iload 2, .jsr 5]
def c_1387_5 : List Instr := [.iastore, .aload 0, .getfield 2908, .iload 1, .iload 2, .ldc_w 1, .if_icmp .ne 6, .aload 0, .getfield 2904, .iload 3, .iaload, .goto 7]
def c_1387_6 : List Instr := [.iload 3, .jsr 7]
def c_1387_7 : List Instr := [.iastore, .aload 0, .getfield 2909, .iload 1, .iload 2, .ldc_w 1, .if_icmp .ne 8, .aload 0, .getfield 2905, .iload 3, .iaload, .goto 9]
def c_1387_8 : List Instr := [.ldc_w 0, .jsr 9]
def c_1387_9 : List Instr := [.iastore, .ldc_w 1, .ireturn]
/- 1394: DreamNetsModel.isHeld(II)Z -/
def c_1394_0 : List Instr := [.iload 1, .ifCond .ne 1, .aload 0, .iload 2, .invokevirtual 130905, .goto 4]
def c_1394_1 : List Instr := [.iload 1, .ldc_w 1, .if_icmp .ne 2, .iload 2, .invokestatic 1217, .goto 4]
def c_1394_2 : List Instr := [.iload 1, .ldc_w 2, .if_icmp .ne 3, .ldc_w 1, .goto 4]
def c_1394_3 : List Instr := [.ldc_w 0, .jsr 4]
def c_1394_4 : List Instr := [.ireturn]
/- 1402: DreamNetsModel.taken(II)I -/
def c_1402_0 : List Instr := [.iload 1, .invokestatic 1217, .ifCond .eq 1, .iload 2, .ldc_w 0, .ldc_w 5, .invokestatic 611, .ifCond .ne 2, .iload 2, .ldc_w 10, .ldc_w 13, .invokestatic 611, .ifCond .ne 2, .jsr 1]
def c_1402_1 : List Instr := [.iconst (-1), .ireturn]
def c_1402_2 : List Instr := [.aload 0, .iload 1, .invokevirtual 131409, .istore 3, .iload 3, .ifCond .ge 3, .iconst (-11), .ireturn]
def c_1402_3 : List Instr := [.iload 3, .ldc_w 9, .if_icmp .ne 6, .iload 2, .ldc_w 10, .aload 0, .getfield 2908, .iload 1, .iaload, .iadd, .if_icmp .ne 4, .aload 0, .getfield 2909, .iload 1, .iaload, .goto 5]
def c_1402_4 : List Instr := [.iconst (-13), .jsr 5]
def c_1402_5 : List Instr := [.ireturn]
def c_1402_6 : List Instr := [.iload 2, .ldc_w 10, .if_icmp .ge 7, .iload 3, .iload 2, .invokestatic 1418, .ifCond .eq 7, .aload 0, .getfield 2908, .iload 1, .iaload, .goto 8]
def c_1402_7 : List Instr := [.iconst (-13), .jsr 8]
def c_1402_8 : List Instr := [.ireturn]
/- 1409: DreamNetsModel.kindOn(I)I -/
def c_1409_0 : List Instr := [.aload 0, .getfield 2907, .iload 1, .iaload, .ifCond .eq 3, .aload 0, .getfield 2907, .iload 1, .iaload, .ifCond .ge 1, .iconst (-1), .goto 2]
def c_1409_1 : List Instr := [.ldc_w 9, .jsr 2]
def c_1409_2 : List Instr := [.ireturn]
def c_1409_3 : List Instr := [.aload 0, .aload 0, .getfield 2908, .iload 1, .iaload, .invokevirtual 130905, .ifCond .eq 4, .aload 0, .aload 0, .getfield 2908, .iload 1, .iaload, .ldc_w 0, .invokevirtual 130914, .goto 5]
def c_1409_4 : List Instr := [.iconst (-1), .jsr 5]
def c_1409_5 : List Instr := [.ireturn]
/- 1418: DreamNetsModel.isUnder(II)Z -/
def c_1418_0 : List Instr := [.iload 1, .ifCond .eq 2, .iload 1, .iload 0, .if_icmp .eq 2, .iload 1, .ldc_w 1, .if_icmp .ne 1, .iload 0, .ldc_w 3, .if_icmp .eq 2, .jsr 1]
def c_1418_1 : List Instr := [.iload 1, .ldc_w 2, .if_icmp .ne 3, .iload 0, .ldc_w 4, .if_icmp .ne 3, .jsr 2]
def c_1418_2 : List Instr := [.ldc_w 1, .goto 4]
def c_1418_3 : List Instr := [.ldc_w 0, .jsr 4]
def c_1418_4 : List Instr := [.ireturn]
/- 1427: DreamNetsModel.act(III)I -/
def c_1427_0 : List Instr := [.aload 0, .ldc_w 0, .putfield 866, .iload 1, .invokestatic 1217, .ifCond .eq 1, .aload 0, .iload 1, .invokevirtual 131409, .goto 2]
def c_1427_1 : List Instr := [.iconst (-1), .jsr 2]
def c_1427_2 : List Instr := [.istore 4, .iload 2, .ldc_w 0, .ldc_w 3, .invokestatic 611, .ifCond .eq 3, .iload 4, .ldc_w 0, .ldc_w 5, .invokestatic 611, .ifCond .ne 4, .jsr 3]
def c_1427_3 : List Instr := [.ldc_w 0, .ireturn]
def c_1427_4 : List Instr := [.aload 0, .iload 4, .putfield 862, .aload 0, .aload 0, .getfield 2908, .iload 1, .iaload, .putfield 863, .aload 0, .aload 0, .aload 0, .getfield 863, .ldc_w 1, .invokevirtual 130914, .putfield 864, .aload 0, .ldc_w 0, .putfield 3939, .iload 2, .ifCond .ne 5, .aload 0, .iload 3, .invokevirtual 131433, .goto 8]
def c_1427_5 : List Instr := [.iload 2, .ldc_w 1, .if_icmp .ne 6, .aload 0, .iload 3, .invokevirtual 131465, .goto 8]
def c_1427_6 : List Instr := [.iload 2, .ldc_w 2, .if_icmp .ne 7, .aload 0, .iload 3, .invokevirtual 131481, .goto 8]
def c_1427_7 : List Instr := [.aload 0, .iload 3, .invokevirtual 131497, .jsr 8]
def c_1427_8 : List Instr := [.istore 5, .aload 0, .getfield 3939, .ifCond .eq 9, .iconst (-15), .goto 10]
def c_1427_9 : List Instr := [.iload 5, .jsr 10]
def c_1427_10 : List Instr := [.ireturn]
/- 1433: DreamNetsModel.dragsIt(I)I -/
def c_1433_0 : List Instr := [.aload 0, .getfield 862, .tableswitch 4 2 4 #[1, 3, 2]]
def c_1433_1 : List Instr := [.aload 0, .iload 1, .invokevirtual 131441, .ireturn]
def c_1433_2 : List Instr := [.aload 0, .ldc_w 40, .invokevirtual 131449, .aload 0, .iload 1, .invokevirtual 131441, .ldc_w 2, .imul, .ireturn]
def c_1433_3 : List Instr := [.aload 0, .ldc_w 51, .invokevirtual 131449, .aload 0, .iload 1, .invokevirtual 131457, .aload 0, .getfield 863, .iadd, .ireturn]
def c_1433_4 : List Instr := [.aload 0, .iload 1, .invokevirtual 131457, .ireturn]
/- 1441: DreamNetsModel.drifterDrags(I)I -/
def c_1441_0 : List Instr := [.aload 0, .ldc_w 30, .invokevirtual 131449, .aload 0, .iload 1, .invokevirtual 131457, .aload 0, .getfield 864, .ixor, .ireturn]
/- 1449: DreamNetsModel.ran(I)V -/
def c_1449_0 : List Instr := [.aload 0, .getfield 866, .ldc_w 30, .if_icmp .ge 1, .aload 0, .getfield 2913, .aload 0, .getfield 866, .iload 1, .iastore, .aload 0, .dup, .getfield 866, .ldc_w 1, .iadd, .putfield 866, .jsr 1]
def c_1449_1 : List Instr := [.return_]
/- 1457: DreamNetsModel.plainDrags(I)I -/
def c_1457_0 : List Instr := [.aload 0, .ldc_w 10, .invokevirtual 131449, .iload 1, .aload 0, .getfield 863, .isub, .ireturn]
/- 1465: DreamNetsModel.landsIt(I)I -/
def c_1465_0 : List Instr := [.aload 0, .getfield 862, .ldc_w 1, .if_icmp .eq 1, .aload 0, .getfield 862, .ldc_w 3, .if_icmp .ne 2, .jsr 1]
def c_1465_1 : List Instr := [.aload 0, .ldc_w 20, .invokevirtual 131449, .aload 0, .iload 1, .invokevirtual 131473, .aload 0, .getfield 863, .isub, .ireturn]
def c_1465_2 : List Instr := [.aload 0, .getfield 862, .ldc_w 4, .if_icmp .ne 3, .aload 0, .ldc_w 41, .invokevirtual 131449, .aload 0, .iload 1, .invokevirtual 131473, .istore 2, .iload 2, .aload 0, .aload 0, .getfield 863, .invokevirtual 131433, .isub, .ireturn]
def c_1465_3 : List Instr := [.aload 0, .iload 1, .invokevirtual 131473, .ireturn]
/- 1473: DreamNetsModel.plainLands(I)I -/
def c_1473_0 : List Instr := [.aload 0, .ldc_w 11, .invokevirtual 131449, .aload 0, .iload 1, .invokevirtual 131433, .ldc_w 3, .imul, .ireturn]
/- 1481: DreamNetsModel.mendsIt(I)I -/
def c_1481_0 : List Instr := [.aload 0, .getfield 862, .ldc_w 3, .if_icmp .ne 1, .aload 0, .ldc_w 50, .invokevirtual 131449, .aload 0, .iload 1, .ldc_w 5, .iadd, .invokevirtual 131489, .ldc_w 2, .imul, .ireturn]
def c_1481_1 : List Instr := [.aload 0, .getfield 862, .ldc_w 5, .if_icmp .ne 4, .aload 0, .ldc_w 61, .invokevirtual 131449, .aload 0, .iload 1, .invokevirtual 131489, .istore 2, .aload 0, .getfield 3939, .ifCond .eq 2, .ldc_w 0, .goto 3]
def c_1481_2 : List Instr := [.iload 2, .aload 0, .aload 0, .getfield 864, .invokevirtual 131433, .ixor, .jsr 3]
def c_1481_3 : List Instr := [.ireturn]
def c_1481_4 : List Instr := [.aload 0, .iload 1, .invokevirtual 131489, .ireturn]
/- 1489: DreamNetsModel.plainMends(I)I -/
def c_1489_0 : List Instr := [.aload 0, .ldc_w 12, .invokevirtual 131449, .aload 0, .getfield 863, .aload 0, .getfield 864, .if_icmp .ne 1, .aload 0, .ldc_w 1, .putfield 3939, .ldc_w 0, .ireturn]
def c_1489_1 : List Instr := [.iload 1, .aload 0, .getfield 863, .aload 0, .getfield 864, .isub, .idiv, .ireturn]
/- 1497: DreamNetsModel.humsIt(I)I -/
def c_1497_0 : List Instr := [.aload 0, .getfield 862, .ldc_w 2, .if_icmp .eq 1, .aload 0, .getfield 862, .ldc_w 4, .if_icmp .ne 2, .jsr 1]
def c_1497_1 : List Instr := [.aload 0, .ldc_w 31, .invokevirtual 131449, .aload 0, .iload 1, .invokevirtual 131505, .istore 2, .iload 2, .aload 0, .aload 0, .getfield 864, .invokevirtual 131481, .iadd, .ireturn]
def c_1497_2 : List Instr := [.aload 0, .getfield 862, .ldc_w 5, .if_icmp .ne 3, .aload 0, .ldc_w 60, .invokevirtual 131449, .ldc_w 7, .aload 0, .iload 1, .invokevirtual 131505, .isub, .ireturn]
def c_1497_3 : List Instr := [.aload 0, .iload 1, .invokevirtual 131505, .ireturn]
/- 1505: DreamNetsModel.plainHums(I)I -/
def c_1505_0 : List Instr := [.aload 0, .ldc_w 13, .invokevirtual 131449, .aload 0, .iload 1, .invokevirtual 131465, .aload 0, .getfield 864, .iadd, .ireturn]
/- 1513: DreamNetsModel.trace(I)I -/
def c_1513_0 : List Instr := [.iload 1, .ldc_w 0, .aload 0, .getfield 866, .ldc_w 1, .isub, .invokestatic 611, .ifCond .eq 1, .aload 0, .getfield 2913, .iload 1, .iaload, .goto 2]
def c_1513_1 : List Instr := [.iconst (-3), .jsr 2]
def c_1513_2 : List Instr := [.ireturn]
/- 1521: DreamNetsModel.many(I)I -/
def c_1521_0 : List Instr := [.iload 1, .tableswitch 8 0 6 #[1, 2, 3, 4, 5, 6, 7]]
def c_1521_1 : List Instr := [.aload 0, .getfield 2880, .ldc_w 5, .iaload, .ireturn]
def c_1521_2 : List Instr := [.aload 0, .invokevirtual 131528, .ireturn]
def c_1521_3 : List Instr := [.aload 0, .invokevirtual 131536, .ireturn]
def c_1521_4 : List Instr := [.aload 0, .invokevirtual 131544, .ireturn]
def c_1521_5 : List Instr := [.aload 0, .getfield 855, .ireturn]
def c_1521_6 : List Instr := [.aload 0, .getfield 839, .ireturn]
def c_1521_7 : List Instr := [.aload 0, .getfield 866, .ireturn]
def c_1521_8 : List Instr := [.iconst (-1), .ireturn]
/- 1528: DreamNetsModel.tornMany()I -/
def c_1528_0 : List Instr := [.ldc_w 0, .istore 1, .ldc_w 0, .istore 2, .jsr 1]
def c_1528_1 : List Instr := [.iload 2, .aload 0, .getfield 2880, .ldc_w 5, .iaload, .if_icmp .ge 4, .iload 1, .aload 0, .iload 2, .ldc_w 4, .invokevirtual 130914, .ldc_w 9, .if_icmp .ne 2, .ldc_w 1, .goto 3]
def c_1528_2 : List Instr := [.ldc_w 0, .jsr 3]
def c_1528_3 : List Instr := [.iadd, .istore 1, .iinc 2 1, .goto 1]
def c_1528_4 : List Instr := [.iload 1, .ireturn]
/- 1536: DreamNetsModel.sleepersMany()I -/
def c_1536_0 : List Instr := [.ldc_w 0, .istore 1, .ldc_w 0, .istore 2, .jsr 1]
def c_1536_1 : List Instr := [.iload 2, .ldc_w 8, .if_icmp .ge 2, .iload 1, .aload 0, .iload 2, .ldc_w 5, .invokevirtual 130834, .iadd, .istore 1, .iinc 2 1, .goto 1]
def c_1536_2 : List Instr := [.iload 1, .ireturn]
/- 1544: DreamNetsModel.fullMany()I -/
def c_1544_0 : List Instr := [.ldc_w 0, .istore 1, .ldc_w 0, .istore 2, .jsr 1]
def c_1544_1 : List Instr := [.iload 2, .ldc_w 4, .if_icmp .ge 4, .iload 1, .aload 0, .getfield 2880, .ldc_w 68, .ldc_w 2, .iload 2, .imul, .iadd, .ldc_w 1, .iadd, .iaload, .aload 0, .getfield 2880, .ldc_w 68, .ldc_w 2, .iload 2, .imul, .iadd, .iaload, .if_icmp .lt 2, .ldc_w 1, .goto 3]
def c_1544_2 : List Instr := [.ldc_w 0, .jsr 3]
def c_1544_3 : List Instr := [.iadd, .istore 1, .iinc 2 1, .goto 1]
def c_1544_4 : List Instr := [.iload 1, .ireturn]
/- 1552: DreamNetsModel.keep()I -/
def c_1552_0 : List Instr := [.aload 0, .getfield 2880, .aload 0, .getfield 2882, .invokestatic 762, .aload 0, .ldc_w 1, .putfield 3909, .ldc_w 1, .ireturn]
/- 1560: DreamNetsModel.again()I -/
def c_1560_0 : List Instr := [.aload 0, .getfield 3909, .ifCond .ne 1, .iconst (-3), .ireturn]
def c_1560_1 : List Instr := [.aload 0, .getfield 2882, .aload 0, .getfield 2880, .invokestatic 762, .aload 0, .getfield 2880, .ldc_w 5, .iaload, .ireturn]
/- 1569: DreamNets$World.<init>([LDreamNets$Boat;)V -/
def c_1569_0 : List Instr := [.aload 0, .invokedynamic 5, .aload 0, .ldc_w 3, .newarray .int, .putfield 2753, .aload 0, .ldc_w 5, .newarray .int, .putfield 2754, .aload 0, .ldc_w 40, .newarray .int, .putfield 2755, .aload 0, .ldc_w 8, .newarray .int, .putfield 2756, .aload 0, .ldc_w 8, .newarray .int, .putfield 2757, .aload 0, .ldc_w 4, .newarray .int, .putfield 2758, .aload 0, .ldc_w 4, .newarray .int, .putfield 2759, .aload 0, .ldc_w 6, .newarray .int, .putfield 2760, .aload 0, .ldc_w 6, .newarray .int, .putfield 2761, .aload 0, .ldc_w 6, .newarray .int, .putfield 2762, .aload 0, .ldc_w 6, .newarray .int, .putfield 2763, .aload 0, .ldc_w 6, .newarray .int, .putfield 2764, .aload 0, .ldc_w 30, .newarray .int, .putfield 2765, .aload 0, .ldc_w 1, .putfield 721, .aload 0, .aload 1, .putfield 2752, .aload 0, .invokevirtual 111576, .return_]
/- 1576: DreamNets$World.startAnew()V -/
def c_1576_0 : List Instr := [.getstatic 1, .ldc_w 0, .aload 0, .getfield 2753, .ldc_w 0, .aload 0, .getfield 2753, .arraylength, .invokedynamic 0, .getstatic 2, .ldc_w 0, .aload 0, .getfield 2754, .ldc_w 0, .ldc_w 5, .invokedynamic 0, .ldc_w 0, .istore 1, .jsr 1]
def c_1576_1 : List Instr := [.iload 1, .aload 0, .getfield 2755, .arraylength, .if_icmp .ge 2, .aload 0, .getfield 2755, .iload 1, .ldc_w 0, .iastore, .iinc 1 1, .goto 1]
def c_1576_2 : List Instr := [.ldc_w 0, .istore 1, .jsr 3]
def c_1576_3 : List Instr := [.iload 1, .ldc_w 8, .if_icmp .ge 4, .aload 0, .getfield 2756, .iload 1, .ldc_w 3, .iastore, .aload 0, .getfield 2757, .iload 1, .ldc_w 0, .iastore, .iinc 1 1, .goto 3]
def c_1576_4 : List Instr := [.ldc_w 0, .istore 1, .jsr 5]
def c_1576_5 : List Instr := [.iload 1, .ldc_w 4, .if_icmp .ge 6, .aload 0, .getfield 2758, .iload 1, .ldc_w 999, .iastore, .aload 0, .getfield 2759, .iload 1, .ldc_w 0, .iastore, .iinc 1 1, .goto 5]
def c_1576_6 : List Instr := [.aload 0, .ldc_w 0, .putfield 718, .aload 0, .ldc_w 0, .putfield 719, .aload 0, .ldc_w 0, .putfield 720, .return_]
/- 1588: DreamNets$World.addBoat(IIII)I -/
def c_1588_0 : List Instr := [.aload 0, .getfield 718, .istore 5, .aload 0, .getfield 2760, .iload 5, .iload 1, .iastore, .aload 0, .getfield 2761, .iload 5, .iload 2, .iastore, .aload 0, .getfield 2762, .iload 5, .iload 3, .iastore, .aload 0, .getfield 2763, .iload 5, .iload 4, .iastore, .aload 0, .getfield 2764, .iload 5, .ldc_w 0, .iastore, .ldc_w 0, .istore 6, .jsr 1]
def c_1588_1 : List Instr := [.iload 6, .ldc_w 5, .if_icmp .ge 2, .aload 0, .getfield 2765, .iload 5, .ldc_w 5, .imul, .iload 6, .iadd, .ldc_w 0, .iastore, .iinc 6 1, .goto 1]
def c_1588_2 : List Instr := [.aload 0, .dup, .getfield 718, .ldc_w 1, .iadd, .putfield 718, .iload 5, .ireturn]
/- 1593: DreamNets$World.copyFrom(LDreamNets$World;)V -/
def c_1593_0 : List Instr := [.aload 1, .getfield 2753, .ldc_w 0, .aload 0, .getfield 2753, .ldc_w 0, .aload 0, .getfield 2753, .arraylength, .invokedynamic 0, .aload 1, .getfield 2754, .ldc_w 0, .aload 0, .getfield 2754, .ldc_w 0, .ldc_w 5, .invokedynamic 0, .aload 1, .getfield 2755, .ldc_w 0, .aload 0, .getfield 2755, .ldc_w 0, .aload 0, .getfield 2755, .arraylength, .invokedynamic 0, .aload 1, .getfield 2756, .ldc_w 0, .aload 0, .getfield 2756, .ldc_w 0, .ldc_w 8, .invokedynamic 0, .aload 1, .getfield 2757, .ldc_w 0, .aload 0, .getfield 2757, .ldc_w 0, .ldc_w 8, .invokedynamic 0, .aload 1, .getfield 2758, .ldc_w 0, .aload 0, .getfield 2758, .ldc_w 0, .ldc_w 4, .invokedynamic 0, .aload 1, .getfield 2759, .ldc_w 0, .aload 0, .getfield 2759, .ldc_w 0, .ldc_w 4, .invokedynamic 0, .aload 1, .getfield 2760, .ldc_w 0, .aload 0, .getfield 2760, .ldc_w 0, .ldc_w 6, .invokedynamic 0, .aload 1, .getfield 2761, .ldc_w 0, .aload 0, .getfield 2761, .ldc_w 0, .ldc_w 6, .invokedynamic 0, .aload 1, .getfield 2762, .ldc_w 0, .aload 0, .getfield 2762, .ldc_w 0, .ldc_w 6, .invokedynamic 0, .aload 1, .getfield 2763, .ldc_w 0, .aload 0, .getfield 2763, .ldc_w 0, .ldc_w 6, .invokedynamic 0, .aload 1, .getfield 2764, .ldc_w 0, .aload 0, .getfield 2764, .ldc_w 0, .ldc_w 6, .invokedynamic 0, .aload 1, .getfield 2765, .ldc_w 0, .aload 0, .getfield 2765, .ldc_w 0, .aload 0, .getfield 2765, .arraylength, .invokedynamic 0, .aload 0, .aload 1, .getfield 718, .putfield 718, .aload 0, .aload 1, .getfield 719, .putfield 719, .aload 0, .aload 1, .getfield 720, .putfield 720, .aload 0, .aload 1, .getfield 721, .putfield 721, .return_]
/- 1601: DreamNets$World.sleepersIn(I)I -/
def c_1601_0 : List Instr := [.aload 0, .getfield 2756, .ldc_w 2, .iload 1, .imul, .iaload, .aload 0, .getfield 2756, .ldc_w 2, .iload 1, .imul, .ldc_w 1, .iadd, .iaload, .iadd, .ireturn]
/- 1609: DreamNets$World.stockIn(I)I -/
def c_1609_0 : List Instr := [.ldc_w 0, .istore 2, .ldc_w 0, .istore 3, .jsr 1]
def c_1609_1 : List Instr := [.iload 3, .ldc_w 5, .if_icmp .ge 2, .iload 2, .aload 0, .getfield 2755, .iload 1, .ldc_w 5, .imul, .iload 3, .iadd, .iaload, .iadd, .istore 2, .iinc 3 1, .goto 1]
def c_1609_2 : List Instr := [.iload 2, .ireturn]
/- 1617: DreamNets$World.worthHeld(I)I -/
def c_1617_0 : List Instr := [.ldc_w 0, .istore 2, .ldc_w 0, .istore 3, .jsr 1]
def c_1617_1 : List Instr := [.iload 3, .ldc_w 5, .if_icmp .ge 2, .iload 2, .aload 0, .getfield 2765, .iload 1, .ldc_w 5, .imul, .iload 3, .iadd, .iaload, .aload 0, .getfield 2754, .iload 3, .iaload, .imul, .iadd, .istore 2, .iinc 3 1, .goto 1]
def c_1617_2 : List Instr := [.iload 2, .ireturn]
/- 1626: DreamNets$World.takeOf(II)I -/
def c_1626_0 : List Instr := [.aload 0, .getfield 2755, .aload 0, .getfield 2762, .iload 1, .iaload, .ldc_w 5, .imul, .iload 2, .iadd, .iaload, .istore 3, .iload 3, .aload 0, .iload 1, .invokevirtual 111633, .iload 3, .iload 2, .aload 0, .getfield 2761, .iload 1, .iaload, .invokevirtual 43, .invokedynamic 4, .ireturn]
/- 1633: DreamNets$World.kindOf(I)LDreamNets$Boat; -/
def c_1633_0 : List Instr := [.aload 0, .getfield 2752, .aload 0, .getfield 2760, .iload 1, .iaload, .aaload, .areturn]
/- 1641: DreamNets$World.tearOf(I)I -/
def c_1641_0 : List Instr := [.aload 0, .iload 1, .invokevirtual 111633, .aload 0, .getfield 2761, .iload 1, .iaload, .aload 0, .getfield 2763, .iload 1, .iaload, .invokevirtual 50, .ireturn]
/- 1649: DreamNets$World.mayHaul(I)Z -/
def c_1649_0 : List Instr := [.aload 0, .getfield 2762, .iload 1, .iaload, .ldc_w 2, .idiv, .istore 2, .aload 0, .getfield 2764, .iload 1, .iaload, .ldc_w 9, .if_icmp .ge 1, .aload 0, .getfield 2759, .iload 2, .iaload, .aload 0, .getfield 2758, .iload 2, .iaload, .if_icmp .ge 1, .ldc_w 1, .goto 2]
def c_1649_1 : List Instr := [.ldc_w 0, .jsr 2]
def c_1649_2 : List Instr := [.ireturn]
/- 1657: DreamNets$World.drag(I)I -/
def c_1657_0 : List Instr := [.aload 0, .iload 1, .invokevirtual 111649, .ifCond .ne 1, .ldc_w 0, .ireturn]
def c_1657_1 : List Instr := [.ldc_w 0, .istore 2, .ldc_w 0, .istore 3, .jsr 2]
def c_1657_2 : List Instr := [.iload 3, .ldc_w 5, .if_icmp .ge 4, .getstatic 5, .iload 3, .iaload, .aload 0, .getfield 2763, .iload 1, .iaload, .if_icmp .lt 3, .aload 0, .iload 1, .iload 3, .invokevirtual 111626, .istore 4, .aload 0, .getfield 2755, .aload 0, .getfield 2762, .iload 1, .iaload, .ldc_w 5, .imul, .iload 3, .iadd, .dup2, .iaload, .iload 4, .isub, .iastore, .aload 0, .getfield 2765, .iload 1, .ldc_w 5, .imul, .iload 3, .iadd, .dup2, .iaload, .iload 4, .iadd, .iastore, .iload 2, .iload 4, .iadd, .istore 2, .iload 3, .ldc_w 4, .if_icmp .ne 3, .iload 4, .ifCond .le 3, .aload 0, .getfield 2764, .iload 1, .ldc_w 9, .aload 0, .getfield 2764, .iload 1, .iaload, .aload 0, .iload 1, .invokevirtual 111641, .iadd, .invokedynamic 4, .iastore, .jsr 3]
def c_1657_3 : List Instr := [.iinc 3 1, .goto 2]
def c_1657_4 : List Instr := [.aload 0, .getfield 2757, .aload 0, .getfield 2762, .iload 1, .iaload, .dup2, .iaload, .iload 2, .iadd, .iastore, .aload 0, .getfield 2759, .aload 0, .getfield 2762, .iload 1, .iaload, .ldc_w 2, .idiv, .dup2, .iaload, .iload 2, .iadd, .iastore, .iload 2, .ireturn]
/- 1664: DreamNets$World.ring()V -/
def c_1664_0 : List Instr := [.ldc_w 1, .aload 0, .getfield 2753, .ldc_w 1, .iaload, .invokedynamic 3, .istore 1, .aload 0, .getfield 719, .ldc_w 5, .irem, .istore 2, .ldc_w 0, .istore 3, .jsr 1]
def c_1664_1 : List Instr := [.iload 3, .ldc_w 8, .if_icmp .ge 6, .ldc_w 0, .istore 4, .jsr 2]
def c_1664_2 : List Instr := [.iload 4, .ldc_w 5, .if_icmp .ge 5, .iload 3, .ldc_w 5, .imul, .iload 4, .iadd, .istore 5, .aload 0, .getfield 2755, .iload 5, .iaload, .iload 1, .idiv, .iload 4, .iload 2, .if_icmp .ne 3, .aload 0, .getfield 2756, .iload 3, .iaload, .goto 4]
def c_1664_3 : List Instr := [.ldc_w 0, .jsr 4]
def c_1664_4 : List Instr := [.iadd, .istore 6, .aload 0, .getfield 2755, .iload 5, .ldc_w 99, .aload 0, .getfield 2755, .iload 5, .iaload, .iload 6, .iadd, .invokedynamic 4, .iastore, .iinc 4 1, .goto 2]
def c_1664_5 : List Instr := [.iinc 3 1, .goto 1]
def c_1664_6 : List Instr := [.aload 0, .invokevirtual 111672, .aload 0, .dup, .getfield 719, .ldc_w 1, .iadd, .putfield 719, .return_]
/- 1672: DreamNets$World.driftOn()V -/
def c_1672_0 : List Instr := [.ldc_w 1, .aload 0, .getfield 2753, .ldc_w 2, .iaload, .invokedynamic 3, .istore 1, .aload 0, .getfield 2755, .ldc_w 35, .iaload, .iload 1, .idiv, .istore 2, .ldc_w 0, .istore 3, .jsr 1]
def c_1672_1 : List Instr := [.iload 3, .ldc_w 8, .if_icmp .ge 2, .iload 3, .ldc_w 5, .imul, .ldc_w 0, .iadd, .istore 4, .aload 0, .getfield 2755, .iload 4, .iaload, .iload 1, .idiv, .istore 5, .aload 0, .getfield 2755, .iload 4, .ldc_w 99, .aload 0, .getfield 2755, .iload 4, .iaload, .iload 5, .isub, .iload 2, .iadd, .invokedynamic 4, .iastore, .iload 5, .istore 2, .iinc 3 1, .goto 1]
def c_1672_2 : List Instr := [.return_]
/- 1681: DreamNets$World.castNet(I)I -/
def c_1681_0 : List Instr := [.aload 0, .invokevirtual 111688, .ldc_w 100, .irem, .aload 0, .getfield 2753, .ldc_w 0, .iaload, .if_icmp .ge 1, .ldc_w 0, .goto 2]
def c_1681_1 : List Instr := [.aload 0, .iload 1, .invokevirtual 111657, .jsr 2]
def c_1681_2 : List Instr := [.ireturn]
/- 1688: DreamNets$World.draw()I -/
def c_1688_0 : List Instr := [.aload 0, .aload 0, .getfield 721, .ldc_w 1103515245, .imul, .ldc_w 12345, .iadd, .putfield 721, .aload 0, .getfield 721, .ldc_w 16, .iushr, .ireturn]
/- 1696: DreamNets$World.nightByDraws()I -/
def c_1696_0 : List Instr := [.ldc_w 0, .istore 1, .ldc_w 0, .istore 2, .jsr 1]
def c_1696_1 : List Instr := [.iload 2, .aload 0, .getfield 718, .if_icmp .ge 2, .aload 0, .getfield 2762, .iload 2, .aload 0, .invokevirtual 111688, .ldc_w 8, .irem, .iastore, .iload 1, .aload 0, .iload 2, .invokevirtual 111681, .iadd, .istore 1, .iinc 2 1, .goto 1]
def c_1696_2 : List Instr := [.aload 0, .invokevirtual 111664, .iload 1, .ireturn]
/- 1704: DreamNets$World.emptyStreets()I -/
def c_1704_0 : List Instr := [.ldc_w 0, .istore 1, .ldc_w 0, .istore 2, .jsr 1]
def c_1704_1 : List Instr := [.iload 2, .ldc_w 8, .if_icmp .ge 3, .aload 0, .iload 2, .invokevirtual 111609, .ifCond .ne 2, .iload 1, .ldc_w 1, .iload 2, .ishl, .ior, .istore 1, .jsr 2]
def c_1704_2 : List Instr := [.iinc 2 1, .goto 1]
def c_1704_3 : List Instr := [.iload 1, .ireturn]
/- 1713: DreamNets$World.worthOfDrag(I)I -/
def c_1713_0 : List Instr := [.aload 0, .iload 1, .invokevirtual 111617, .istore 2, .aload 0, .iload 1, .invokevirtual 111657, .pop, .aload 0, .iload 1, .invokevirtual 111617, .iload 2, .isub, .ireturn]
/- 1722: DreamNets$World.heldBySet(II)I -/
def c_1722_0 : List Instr := [.ldc_w 0, .istore 3, .ldc_w 0, .istore 4, .jsr 1]
def c_1722_1 : List Instr := [.iload 4, .aload 0, .getfield 718, .if_icmp .ge 3, .iload 1, .iload 4, .ishr, .ldc_w 1, .iand, .ldc_w 1, .if_icmp .ne 2, .iload 3, .aload 0, .getfield 2765, .iload 4, .ldc_w 5, .imul, .iload 2, .iadd, .iaload, .iadd, .istore 3, .jsr 2]
def c_1722_2 : List Instr := [.iinc 4 1, .goto 1]
def c_1722_3 : List Instr := [.iload 3, .ireturn]
/- 1730: DreamNets$World.rowPart(II)I -/
def c_1730_0 : List Instr := [.iload 2, .ifCond .ne 1, .aload 0, .iload 1, .invokevirtual 111609, .ireturn]
def c_1730_1 : List Instr := [.iload 2, .ldc_w 1, .if_icmp .ne 2, .aload 0, .getfield 2755, .iload 1, .ldc_w 5, .imul, .ldc_w 0, .iadd, .iaload, .goto 3]
def c_1730_2 : List Instr := [.aload 0, .iload 1, .invokevirtual 111737, .jsr 3]
def c_1730_3 : List Instr := [.ireturn]
/- 1737: DreamNets$World.mostIn(I)I -/
def c_1737_0 : List Instr := [.ldc_w 0, .istore 2, .ldc_w 1, .istore 3, .jsr 1]
def c_1737_1 : List Instr := [.iload 3, .ldc_w 5, .if_icmp .ge 3, .aload 0, .getfield 2755, .iload 1, .ldc_w 5, .imul, .iload 3, .iadd, .iaload, .aload 0, .getfield 2755, .iload 1, .ldc_w 5, .imul, .iload 2, .iadd, .iaload, .if_icmp .le 2, .iload 3, .istore 2, .jsr 2]
def c_1737_2 : List Instr := [.iinc 3 1, .goto 1]
def c_1737_3 : List Instr := [.iload 2, .ireturn]
/- 1744: DreamNets$World.tornBoats()I -/
def c_1744_0 : List Instr := [.ldc_w 0, .istore 1, .ldc_w 0, .istore 2, .jsr 1]
def c_1744_1 : List Instr := [.iload 2, .aload 0, .getfield 718, .if_icmp .ge 3, .aload 0, .getfield 2764, .iload 2, .iaload, .ldc_w 9, .if_icmp .ne 2, .iinc 1 1, .jsr 2]
def c_1744_2 : List Instr := [.iinc 2 1, .goto 1]
def c_1744_3 : List Instr := [.iload 1, .ireturn]
/- 1752: DreamNets$World.fullWards()I -/
def c_1752_0 : List Instr := [.ldc_w 0, .istore 1, .ldc_w 0, .istore 2, .jsr 1]
def c_1752_1 : List Instr := [.iload 2, .ldc_w 4, .if_icmp .ge 3, .aload 0, .getfield 2759, .iload 2, .iaload, .aload 0, .getfield 2758, .iload 2, .iaload, .if_icmp .lt 2, .iinc 1 1, .jsr 2]
def c_1752_2 : List Instr := [.iinc 2 1, .goto 1]
def c_1752_3 : List Instr := [.iload 1, .ireturn]
/- 1760: DreamNets$Tape.<init>()V -/
def c_1760_0 : List Instr := [.aload 0, .invokedynamic 5, .aload 0, .ldc_w 200, .newarray .int, .putfield 2624, .return_]
/- 1769: DreamNets$Tape.add(I)V -/
def c_1769_0 : List Instr := [.aload 0, .getfield 577, .ldc_w 200, .if_icmp .ge 1, .aload 0, .getfield 2624, .aload 0, .getfield 577, .iload 1, .iastore, .aload 0, .dup, .getfield 577, .ldc_w 1, .iadd, .putfield 577, .jsr 1]
def c_1769_1 : List Instr := [.return_]
/- 1777: DreamNets$Tape.tells(LDreamNets$World;)Z -/
def c_1777_0 : List Instr := [.aload 0, .ldc_w 0, .putfield 579, .ldc_w 0, .istore 2, .jsr 1]
def c_1777_1 : List Instr := [.iload 2, .ldc_w 200, .if_icmp .gt 5, .aload 0, .invokevirtual 91784, .aload 0, .getfield 580, .ifCond .ne 2, .ldc_w 1, .ireturn]
def c_1777_2 : List Instr := [.aload 0, .getfield 580, .ldc_w 1, .if_icmp .ne 3, .aload 0, .aload 1, .invokevirtual 91817, .ifCond .ne 4, .jsr 3]
def c_1777_3 : List Instr := [.ldc_w 0, .ireturn]
def c_1777_4 : List Instr := [.iinc 2 1, .goto 1]
def c_1777_5 : List Instr := [.ldc_w 0, .ireturn]
/- 1784: DreamNets$Tape.step()V -/
def c_1784_0 : List Instr := [.aload 0, .getfield 579, .aload 0, .getfield 577, .if_icmp .ge 1, .aload 0, .getfield 2624, .aload 0, .getfield 579, .iaload, .ldc_w 32, .if_icmp .ne 1, .aload 0, .dup, .getfield 579, .ldc_w 1, .iadd, .putfield 579, .goto 0]
def c_1784_1 : List Instr := [.aload 0, .aload 0, .getfield 579, .putfield 578, .aload 0, .getfield 579, .aload 0, .getfield 577, .if_icmp .lt 2, .aload 0, .ldc_w 0, .putfield 580, .goto 6]
def c_1784_2 : List Instr := [.aload 0, .getfield 2624, .aload 0, .getfield 579, .iaload, .invokestatic 1793, .ifCond .eq 4, .aload 0, .ldc_w 1, .putfield 580, .jsr 3]
def c_1784_3 : List Instr := [.aload 0, .getfield 579, .aload 0, .getfield 577, .if_icmp .ge 6, .aload 0, .getfield 2624, .aload 0, .getfield 579, .iaload, .invokestatic 1793, .ifCond .eq 6, .aload 0, .dup, .getfield 579, .ldc_w 1, .iadd, .putfield 579, .goto 3]
def c_1784_4 : List Instr := [.aload 0, .getfield 2624, .aload 0, .getfield 579, .iaload, .invokestatic 1801, .ifCond .eq 5, .aload 0, .ldc_w 2, .putfield 580, .aload 0, .invokevirtual 91808, .goto 6]
def c_1784_5 : List Instr := [.aload 0, .ldc_w 3, .putfield 580, .aload 0, .dup, .getfield 579, .ldc_w 1, .iadd, .putfield 579, .jsr 6]
def c_1784_6 : List Instr := [.return_]
/- 1793: DreamNets$Tape.isLetter(I)Z -/
def c_1793_0 : List Instr := [.iload 0, .ldc_w 97, .if_icmp .lt 1, .iload 0, .ldc_w 122, .if_icmp .gt 1, .ldc_w 1, .goto 2]
def c_1793_1 : List Instr := [.ldc_w 0, .jsr 2]
def c_1793_2 : List Instr := [.ireturn]
/- 1801: DreamNets$Tape.isDigit(I)Z -/
def c_1801_0 : List Instr := [.iload 0, .ldc_w 48, .if_icmp .lt 1, .iload 0, .ldc_w 57, .if_icmp .gt 1, .ldc_w 1, .goto 2]
def c_1801_1 : List Instr := [.ldc_w 0, .jsr 2]
def c_1801_2 : List Instr := [.ireturn]
/- 1808: DreamNets$Tape.stepOverDigits()V -/
def c_1808_0 : List Instr := [.aload 0, .ldc_w 0, .putfield 581, .jsr 1]
def c_1808_1 : List Instr := [.aload 0, .getfield 579, .aload 0, .getfield 577, .if_icmp .ge 4, .aload 0, .getfield 2624, .aload 0, .getfield 579, .iaload, .invokestatic 1801, .ifCond .eq 4, .aload 0, .aload 0, .getfield 579, .aload 0, .getfield 578, .isub, .ldc_w 3, .if_icmp .ge 2, .aload 0, .getfield 581, .ldc_w 10, .imul, .aload 0, .getfield 2624, .aload 0, .getfield 579, .iaload, .iadd, .ldc_w 48, .isub, .goto 3]
def c_1808_2 : List Instr := [.iconst (-1), .jsr 3]
def c_1808_3 : List Instr := [.putfield 581, .aload 0, .dup, .getfield 579, .ldc_w 1, .iadd, .putfield 579, .goto 1]
def c_1808_4 : List Instr := [.return_]
/- 1817: DreamNets$Tape.tellsPart(LDreamNets$World;)Z -/
def c_1817_0 : List Instr := [.ldc_w 0, .istore 2, .jsr 1]
def c_1817_1 : List Instr := [.iload 2, .ldc_w 6, .if_icmp .ge 5, .aload 0, .iload 2, .invokestatic 1825, .invokevirtual 91833, .ifCond .eq 4, .aload 1, .getfield 718, .ldc_w 6, .if_icmp .ge 2, .aload 0, .aload 1, .iload 2, .invokevirtual 91842, .ifCond .eq 2, .ldc_w 1, .goto 3]
def c_1817_2 : List Instr := [.ldc_w 0, .jsr 3]
def c_1817_3 : List Instr := [.ireturn]
def c_1817_4 : List Instr := [.iinc 2 1, .goto 1]
def c_1817_5 : List Instr := [.aload 0, .ldc 18, .invokevirtual 91833, .ifCond .eq 6, .aload 0, .aload 1, .invokevirtual 91873, .ireturn]
def c_1817_6 : List Instr := [.aload 0, .ldc 25, .invokevirtual 91833, .ifCond .eq 7, .aload 0, .aload 1, .invokevirtual 91905, .ireturn]
def c_1817_7 : List Instr := [.aload 0, .ldc 26, .invokevirtual 91833, .ifCond .eq 8, .aload 0, .aload 1, .invokevirtual 91913, .ireturn]
def c_1817_8 : List Instr := [.aload 0, .ldc 27, .invokevirtual 91833, .ifCond .eq 9, .aload 0, .aload 1, .getfield 2753, .ldc_w 0, .ldc_w 0, .getstatic 4, .ldc_w 0, .iaload, .invokevirtual 91884, .ifCond .eq 9, .ldc_w 1, .goto 10]
def c_1817_9 : List Instr := [.ldc_w 0, .jsr 10]
def c_1817_10 : List Instr := [.ireturn]
/- 1825: DreamNets$Tape.kindName(I)Ljava/lang/String; -/
def c_1825_0 : List Instr := [.iload 0, .tableswitch 6 0 4 #[1, 2, 3, 4, 5]]
def c_1825_1 : List Instr := [.ldc 10, .areturn]
def c_1825_2 : List Instr := [.ldc 11, .areturn]
def c_1825_3 : List Instr := [.ldc 12, .areturn]
def c_1825_4 : List Instr := [.ldc 13, .areturn]
def c_1825_5 : List Instr := [.ldc 14, .areturn]
def c_1825_6 : List Instr := [.ldc 15, .areturn]
/- 1833: DreamNets$Tape.isWord(Ljava/lang/String;)Z -/
def c_1833_0 : List Instr := [.aload 0, .getfield 580, .ldc_w 1, .if_icmp .ne 1, .aload 0, .getfield 579, .aload 0, .getfield 578, .isub, .aload 1, .invokedynamic 1, .if_icmp .eq 2, .jsr 1]
def c_1833_1 : List Instr := [.ldc_w 0, .ireturn]
def c_1833_2 : List Instr := [.ldc_w 0, .istore 2, .jsr 3]
def c_1833_3 : List Instr := [.iload 2, .aload 1, .invokedynamic 1, .if_icmp .ge 5, .aload 0, .getfield 2624, .aload 0, .getfield 578, .iload 2, .iadd, .iaload, .aload 1, .iload 2, .invokedynamic 2, .if_icmp .eq 4, .ldc_w 0, .ireturn]
def c_1833_4 : List Instr := [.iinc 2 1, .goto 3]
def c_1833_5 : List Instr := [.ldc_w 1, .ireturn]
/- 1842: DreamNets$Tape.tellsBoat(LDreamNets$World;I)Z -/
def c_1842_0 : List Instr := [.aload 0, .ldc_w 0, .ldc_w 9, .invokevirtual 91850, .ifCond .ne 1, .ldc_w 0, .ireturn]
def c_1842_1 : List Instr := [.aload 0, .getfield 581, .istore 3, .aload 0, .ldc 16, .invokevirtual 91857, .ifCond .eq 2, .aload 0, .ldc_w 0, .ldc_w 7, .invokevirtual 91850, .ifCond .ne 3, .jsr 2]
def c_1842_2 : List Instr := [.ldc_w 0, .ireturn]
def c_1842_3 : List Instr := [.aload 0, .getfield 581, .istore 4, .aload 0, .ldc 17, .invokevirtual 91857, .ifCond .eq 4, .aload 0, .ldc_w 0, .ldc_w 9, .invokevirtual 91850, .ifCond .ne 5, .jsr 4]
def c_1842_4 : List Instr := [.ldc_w 0, .ireturn]
def c_1842_5 : List Instr := [.aload 0, .getfield 581, .istore 5, .aload 0, .invokevirtual 91864, .ifCond .ne 6, .ldc_w 0, .ireturn]
def c_1842_6 : List Instr := [.aload 1, .iload 2, .iload 3, .iload 4, .iload 5, .invokevirtual 111588, .pop, .ldc_w 1, .ireturn]
/- 1850: DreamNets$Tape.readNumber(II)Z -/
def c_1850_0 : List Instr := [.aload 0, .invokevirtual 91784, .aload 0, .getfield 580, .ldc_w 2, .if_icmp .ne 1, .aload 0, .getfield 581, .iload 1, .iload 2, .invokestatic 27, .ifCond .ne 1, .ldc_w 1, .goto 2]
def c_1850_1 : List Instr := [.ldc_w 0, .jsr 2]
def c_1850_2 : List Instr := [.ireturn]
/- 1857: DreamNets$Tape.readWord(Ljava/lang/String;)Z -/
def c_1857_0 : List Instr := [.aload 0, .invokevirtual 91784, .aload 0, .aload 1, .invokevirtual 91833, .ireturn]
/- 1864: DreamNets$Tape.readStop()Z -/
def c_1864_0 : List Instr := [.aload 0, .invokevirtual 91784, .aload 0, .getfield 580, .ldc_w 3, .if_icmp .ne 1, .aload 0, .getfield 2624, .aload 0, .getfield 578, .iaload, .ldc_w 59, .if_icmp .ne 1, .ldc_w 1, .goto 2]
def c_1864_1 : List Instr := [.ldc_w 0, .jsr 2]
def c_1864_2 : List Instr := [.ireturn]
/- 1873: DreamNets$Tape.tellsStreet(LDreamNets$World;)Z -/
def c_1873_0 : List Instr := [.aload 0, .ldc_w 0, .ldc_w 7, .invokevirtual 91850, .ifCond .ne 1, .ldc_w 0, .ireturn]
def c_1873_1 : List Instr := [.aload 0, .getfield 581, .istore 2, .aload 0, .invokevirtual 91784, .aload 0, .ldc 19, .invokevirtual 91833, .ifCond .eq 2, .aload 0, .aload 1, .getfield 2756, .iload 2, .ldc_w 0, .ldc_w 9, .invokevirtual 91884, .ireturn]
def c_1873_2 : List Instr := [.aload 0, .invokevirtual 91888, .istore 3, .iload 3, .ifCond .lt 3, .aload 0, .aload 1, .getfield 2755, .iload 2, .ldc_w 5, .imul, .iload 3, .iadd, .ldc_w 0, .ldc_w 99, .invokevirtual 91884, .ifCond .eq 3, .ldc_w 1, .goto 4]
def c_1873_3 : List Instr := [.ldc_w 0, .jsr 4]
def c_1873_4 : List Instr := [.ireturn]
/- 1884: DreamNets$Tape.tellsNumber([IIII)Z -/
def c_1884_0 : List Instr := [.aload 0, .iload 3, .iload 4, .invokevirtual 91850, .ifCond .ne 1, .ldc_w 0, .ireturn]
def c_1884_1 : List Instr := [.aload 0, .getfield 581, .istore 5, .aload 0, .invokevirtual 91864, .ifCond .ne 2, .ldc_w 0, .ireturn]
def c_1884_2 : List Instr := [.aload 1, .iload 2, .iload 5, .iastore, .ldc_w 1, .ireturn]
/- 1888: DreamNets$Tape.sortHere()I -/
def c_1888_0 : List Instr := [.ldc_w 0, .istore 1, .jsr 1]
def c_1888_1 : List Instr := [.iload 1, .ldc_w 5, .if_icmp .ge 3, .aload 0, .iload 1, .invokestatic 1897, .invokevirtual 91833, .ifCond .eq 2, .iload 1, .ireturn]
def c_1888_2 : List Instr := [.iinc 1 1, .goto 1]
def c_1888_3 : List Instr := [.iconst (-3), .ireturn]
/- 1897: DreamNets$Tape.sortName(I)Ljava/lang/String; -/
def c_1897_0 : List Instr := [.iload 0, .tableswitch 5 0 3 #[1, 2, 3, 4]]
def c_1897_1 : List Instr := [.ldc 20, .areturn]
def c_1897_2 : List Instr := [.ldc 21, .areturn]
def c_1897_3 : List Instr := [.ldc 22, .areturn]
def c_1897_4 : List Instr := [.ldc 23, .areturn]
def c_1897_5 : List Instr := [.ldc 24, .areturn]
/- 1905: DreamNets$Tape.tellsPrice(LDreamNets$World;)Z -/
def c_1905_0 : List Instr := [.aload 0, .invokevirtual 91784, .aload 0, .invokevirtual 91888, .istore 2, .iload 2, .ifCond .lt 1, .aload 0, .aload 1, .getfield 2754, .iload 2, .ldc_w 1, .ldc_w 30, .invokevirtual 91884, .ifCond .eq 1, .ldc_w 1, .goto 2]
def c_1905_1 : List Instr := [.ldc_w 0, .jsr 2]
def c_1905_2 : List Instr := [.ireturn]
/- 1913: DreamNets$Tape.tellsQuota(LDreamNets$World;)Z -/
def c_1913_0 : List Instr := [.aload 0, .ldc_w 0, .ldc_w 3, .invokevirtual 91850, .ifCond .ne 1, .ldc_w 0, .ireturn]
def c_1913_1 : List Instr := [.aload 0, .aload 1, .getfield 2758, .aload 0, .getfield 581, .ldc_w 0, .ldc_w 999, .invokevirtual 91884, .ireturn]
/- 1920: DreamNets$Acting.<init>()V -/
def c_1920_0 : List Instr := [.aload 0, .invokedynamic 5, .aload 0, .ldc_w 30, .newarray .int, .putfield 2112, .return_]
/- 1930: DreamNets$Acting.startAs(II)V -/
def c_1930_0 : List Instr := [.aload 0, .iload 1, .putfield 66, .aload 0, .iload 2, .putfield 67, .aload 0, .ldc_w 0, .putfield 3140, .return_]
/- 1937: DreamNets$Acting.begin(I)V -/
def c_1937_0 : List Instr := [.aload 0, .getfield 3140, .ifCond .ne 1, .aload 0, .getfield 65, .ldc_w 30, .if_icmp .ge 1, .aload 0, .getfield 2112, .aload 0, .getfield 65, .iload 1, .iastore, .aload 0, .dup, .getfield 65, .ldc_w 1, .iadd, .putfield 65, .jsr 1]
def c_1937_1 : List Instr := [.return_]
/- 1946: DreamNets$Sheet.<init>(II)V -/
def c_1946_0 : List Instr := [.aload 0, .invokedynamic 5, .aload 0, .iload 1, .putfield 512, .aload 0, .ldc_w 0, .iload 2, .invokedynamic 3, .newarray .long, .putfield 2561, .return_]
/- 1953: DreamNets$Sheet.narrowed(I)J -/
def c_1953_0 : List Instr := [.aload 0, .getfield 512, .ifCond .ne 1, .iload 1, .i2b, .i2l, .lreturn]
def c_1953_1 : List Instr := [.aload 0, .getfield 512, .ldc_w 1, .if_icmp .ne 2, .iload 1, .i2s, .i2l, .goto 3]
def c_1953_2 : List Instr := [.iload 1, .i2l, .jsr 3]
def c_1953_3 : List Instr := [.lreturn]
/- 1960: DreamNets$Boat.<init>()V -/
def c_1960_0 : List Instr := [.aload 0, .invokedynamic 5, .return_]
/- 1971: DreamNets$Boat.catchOf(III)I -/
def c_1971_0 : List Instr := [.iload 1, .ldc_w 4, .idiv, .ireturn]
/- 1978: DreamNets$Boat.tearBy(II)I -/
def c_1978_0 : List Instr := [.ldc_w 1, .ireturn]
/- 1985: DreamNets$Boat.isUnder(I)Z -/
def c_1985_0 : List Instr := [.iload 1, .ifCond .ne 1, .ldc_w 1, .goto 2]
def c_1985_1 : List Instr := [.ldc_w 0, .jsr 2]
def c_1985_2 : List Instr := [.ireturn]
/- 1994: DreamNets$Boat.drags(LDreamNets$Acting;I)I -/
def c_1994_0 : List Instr := [.aload 1, .ldc_w 10, .invokevirtual 11937, .iload 2, .aload 1, .getfield 66, .isub, .ireturn]
/- 2002: DreamNets$Boat.lands(LDreamNets$Acting;I)I -/
def c_2002_0 : List Instr := [.aload 1, .ldc_w 11, .invokevirtual 11937, .aload 0, .aload 1, .iload 2, .invokevirtual 10, .ldc_w 3, .imul, .ireturn]
/- 2010: DreamNets$Boat.mends(LDreamNets$Acting;I)I -/
def c_2010_0 : List Instr := [.aload 1, .ldc_w 12, .invokevirtual 11937, .aload 1, .getfield 66, .aload 1, .getfield 67, .isub, .istore 3, .iload 3, .ifCond .ne 1, .aload 1, .ldc_w 1, .putfield 3140, .ldc_w 0, .ireturn]
def c_2010_1 : List Instr := [.iload 2, .iload 3, .idiv, .ireturn]
/- 2018: DreamNets$Boat.hums(LDreamNets$Acting;I)I -/
def c_2018_0 : List Instr := [.aload 1, .ldc_w 13, .invokevirtual 11937, .aload 0, .aload 1, .iload 2, .invokevirtual 18, .aload 1, .getfield 67, .iadd, .ireturn]
/- 2024: DreamNets$Seiner.<init>()V -/
def c_2024_0 : List Instr := [.aload 0, .invokespecial 1960, .return_]
/- 2035: DreamNets$Seiner.catchOf(III)I -/
def c_2035_0 : List Instr := [.aload 0, .iload 1, .iload 2, .iload 3, .invokespecial 1971, .ldc_w 2, .imul, .ireturn]
/- 2042: DreamNets$Seiner.tearBy(II)I -/
def c_2042_0 : List Instr := [.ldc_w 0, .ireturn]
/- 2049: DreamNets$Seiner.isUnder(I)Z -/
def c_2049_0 : List Instr := [.iload 1, .ldc_w 1, .if_icmp .eq 1, .aload 0, .iload 1, .invokespecial 1985, .ifCond .eq 2, .jsr 1]
def c_2049_1 : List Instr := [.ldc_w 1, .goto 3]
def c_2049_2 : List Instr := [.ldc_w 0, .jsr 3]
def c_2049_3 : List Instr := [.ireturn]
/- 2058: DreamNets$Seiner.lands(LDreamNets$Acting;I)I -/
def c_2058_0 : List Instr := [.aload 1, .ldc_w 20, .invokevirtual 11937, .aload 0, .aload 1, .iload 2, .invokespecial 2002, .aload 1, .getfield 66, .isub, .ireturn]
/- 2064: DreamNets$Drifter.<init>()V -/
def c_2064_0 : List Instr := [.aload 0, .invokespecial 1960, .return_]
/- 2075: DreamNets$Drifter.catchOf(III)I -/
def c_2075_0 : List Instr := [.aload 0, .iload 1, .iload 2, .iload 3, .invokespecial 1971, .iload 3, .iadd, .ireturn]
/- 2082: DreamNets$Drifter.tearBy(II)I -/
def c_2082_0 : List Instr := [.aload 0, .iload 1, .iload 2, .invokespecial 1978, .ldc_w 1, .iadd, .ireturn]
/- 2089: DreamNets$Drifter.isUnder(I)Z -/
def c_2089_0 : List Instr := [.iload 1, .ldc_w 2, .if_icmp .eq 1, .aload 0, .iload 1, .invokespecial 1985, .ifCond .eq 2, .jsr 1]
def c_2089_1 : List Instr := [.ldc_w 1, .goto 3]
def c_2089_2 : List Instr := [.ldc_w 0, .jsr 3]
def c_2089_3 : List Instr := [.ireturn]
/- 2098: DreamNets$Drifter.drags(LDreamNets$Acting;I)I -/
def c_2098_0 : List Instr := [.aload 1, .ldc_w 30, .invokevirtual 11937, .aload 0, .aload 1, .iload 2, .invokespecial 1994, .aload 1, .getfield 67, .ixor, .ireturn]
/- 2106: DreamNets$Drifter.hums(LDreamNets$Acting;I)I -/
def c_2106_0 : List Instr := [.aload 1, .ldc_w 31, .invokevirtual 11937, .aload 0, .aload 1, .iload 2, .invokespecial 2018, .aload 0, .aload 1, .aload 1, .getfield 67, .invokevirtual 58, .iadd, .ireturn]
/- 2112: DreamNets$Tug.<init>()V -/
def c_2112_0 : List Instr := [.aload 0, .invokespecial 2024, .return_]
/- 2123: DreamNets$Tug.catchOf(III)I -/
def c_2123_0 : List Instr := [.iload 2, .ldc_w 2, .if_icmp .ne 1, .ldc_w 0, .goto 2]
def c_2123_1 : List Instr := [.aload 0, .iload 1, .iload 2, .iload 3, .invokespecial 2035, .jsr 2]
def c_2123_2 : List Instr := [.ireturn]
/- 2130: DreamNets$Tug.tearBy(II)I -/
def c_2130_0 : List Instr := [.aload 0, .iload 1, .iload 2, .invokespecial 2042, .iload 2, .ldc_w 3, .if_icmp .ge 1, .ldc_w 1, .goto 2]
def c_2130_1 : List Instr := [.ldc_w 0, .jsr 2]
def c_2130_2 : List Instr := [.iadd, .ireturn]
/- 2137: DreamNets$Tug.isUnder(I)Z -/
def c_2137_0 : List Instr := [.iload 1, .ldc_w 3, .if_icmp .eq 1, .aload 0, .iload 1, .invokespecial 2049, .ifCond .eq 2, .jsr 1]
def c_2137_1 : List Instr := [.ldc_w 1, .goto 3]
def c_2137_2 : List Instr := [.ldc_w 0, .jsr 3]
def c_2137_3 : List Instr := [.ireturn]
/- 2146: DreamNets$Tug.drags(LDreamNets$Acting;I)I -/
def c_2146_0 : List Instr := [.aload 1, .ldc_w 51, .invokevirtual 11937, .aload 0, .aload 1, .iload 2, .invokespecial 1994, .aload 1, .getfield 66, .iadd, .ireturn]
/- 2154: DreamNets$Tug.mends(LDreamNets$Acting;I)I -/
def c_2154_0 : List Instr := [.aload 1, .ldc_w 50, .invokevirtual 11937, .aload 0, .aload 1, .iload 2, .ldc_w 5, .iadd, .invokespecial 2010, .ldc_w 2, .imul, .ireturn]
/- 2160: DreamNets$Dredger.<init>()V -/
def c_2160_0 : List Instr := [.aload 0, .invokespecial 2064, .return_]
/- 2171: DreamNets$Dredger.catchOf(III)I -/
def c_2171_0 : List Instr := [.aload 0, .iload 1, .iload 2, .iload 3, .invokespecial 2075, .ldc_w 2, .imul, .ireturn]
/- 2178: DreamNets$Dredger.tearBy(II)I -/
def c_2178_0 : List Instr := [.aload 0, .iload 1, .iload 2, .invokespecial 2082, .iload 1, .iadd, .ireturn]
/- 2185: DreamNets$Dredger.isUnder(I)Z -/
def c_2185_0 : List Instr := [.iload 1, .ldc_w 4, .if_icmp .eq 1, .aload 0, .iload 1, .invokespecial 2089, .ifCond .eq 2, .jsr 1]
def c_2185_1 : List Instr := [.ldc_w 1, .goto 3]
def c_2185_2 : List Instr := [.ldc_w 0, .jsr 3]
def c_2185_3 : List Instr := [.ireturn]
/- 2194: DreamNets$Dredger.drags(LDreamNets$Acting;I)I -/
def c_2194_0 : List Instr := [.aload 1, .ldc_w 40, .invokevirtual 11937, .aload 0, .aload 1, .iload 2, .invokespecial 2098, .ldc_w 2, .imul, .ireturn]
/- 2202: DreamNets$Dredger.lands(LDreamNets$Acting;I)I -/
def c_2202_0 : List Instr := [.aload 1, .ldc_w 41, .invokevirtual 11937, .aload 0, .aload 1, .iload 2, .invokespecial 2002, .aload 0, .aload 1, .aload 1, .getfield 66, .invokevirtual 32194, .isub, .ireturn]
/- 2208: DreamNets$Poacher.<init>()V -/
def c_2208_0 : List Instr := [.aload 0, .invokespecial 1960, .return_]
/- 2219: DreamNets$Poacher.catchOf(III)I -/
def c_2219_0 : List Instr := [.iload 2, .iload 3, .ldc_w 5, .irem, .if_icmp .ne 1, .iload 1, .goto 2]
def c_2219_1 : List Instr := [.aload 0, .iload 1, .iload 2, .iload 3, .invokespecial 1971, .jsr 2]
def c_2219_2 : List Instr := [.ireturn]
/- 2226: DreamNets$Poacher.tearBy(II)I -/
def c_2226_0 : List Instr := [.ldc_w 0, .ireturn]
/- 2233: DreamNets$Poacher.isUnder(I)Z -/
def c_2233_0 : List Instr := [.iload 1, .ldc_w 5, .if_icmp .eq 1, .aload 0, .iload 1, .invokespecial 1985, .ifCond .eq 2, .jsr 1]
def c_2233_1 : List Instr := [.ldc_w 1, .goto 3]
def c_2233_2 : List Instr := [.ldc_w 0, .jsr 3]
def c_2233_3 : List Instr := [.ireturn]
/- 2242: DreamNets$Poacher.mends(LDreamNets$Acting;I)I -/
def c_2242_0 : List Instr := [.aload 1, .ldc_w 61, .invokevirtual 11937, .aload 0, .aload 1, .iload 2, .invokespecial 2010, .aload 0, .aload 1, .aload 1, .getfield 67, .invokevirtual 66, .ixor, .ireturn]
/- 2250: DreamNets$Poacher.hums(LDreamNets$Acting;I)I -/
def c_2250_0 : List Instr := [.aload 1, .ldc_w 60, .invokevirtual 11937, .ldc_w 7, .aload 0, .aload 1, .iload 2, .invokespecial 2018, .isub, .ireturn]
/- 2257: DreamNets$Search.<init>([LDreamNets$Boat;)V -/
def c_2257_0 : List Instr := [.aload 0, .invokedynamic 5, .aload 0, .ldc_w 5, .anewarray 112, .putfield 2432, .aload 0, .ldc_w 4, .newarray .int, .putfield 2433, .aload 0, .ldc_w 4, .newarray .int, .putfield 2434, .ldc_w 0, .istore 2, .jsr 1]
def c_2257_1 : List Instr := [.iload 2, .aload 0, .getfield 2432, .arraylength, .if_icmp .ge 2, .aload 0, .getfield 2432, .iload 2, .new 722, .dup, .aload 1, .invokespecial 1569, .aastore, .iinc 2 1, .goto 1]
def c_2257_2 : List Instr := [.return_]
/- 2265: DreamNets$Search.endWay(I)V -/
def c_2265_0 : List Instr := [.iload 1, .aload 0, .getfield 389, .if_icmp .le 1, .aload 0, .iload 1, .putfield 389, .aload 0, .getfield 2433, .ldc_w 0, .aload 0, .getfield 2434, .ldc_w 0, .ldc_w 4, .invokedynamic 0, .jsr 1]
def c_2265_1 : List Instr := [.return_]
/- 2273: java/lang/Integer.bitCount(I)I -/
def c_2273_0 : List Instr := [.iload 0, .iload 0, .ldc_w 1, .iushr, .ldc_w 1431655765, .iand, .isub, .istore 0, .iload 0, .ldc_w 858993459, .iand, .iload 0, .ldc_w 2, .iushr, .ldc_w 858993459, .iand, .iadd, .istore 0, .iload 0, .iload 0, .ldc_w 4, .iushr, .iadd, .ldc_w 252645135, .iand, .istore 0, .iload 0, .iload 0, .ldc_w 8, .iushr, .iadd, .istore 0, .iload 0, .iload 0, .ldc_w 16, .iushr, .iadd, .istore 0, .iload 0, .ldc_w 63, .iand, .ireturn]
/- 2281: DreamNetsLaw.law([I)Z -/
def c_2281_0 : List Instr := [.new 781, .dup, .invokespecial 0, .astore 1, .new 868, .dup, .invokespecial 584, .astore 2, .ldc_w 0, .istore 3, .jsr 1]
def c_2281_1 : List Instr := [.iload 3, .aload 0, .arraylength, .ldc_w 5, .isub, .if_icmp .gt 54, .aload 0, .iload 3, .iaload, .ldc_w 63, .iand, .tableswitch 53 0 50 #[2, 3, 4, 5, 6, 7, 8, 9, 10, 11, 12, 13, 14, 15, 16, 17, 18, 19, 20, 21, 22, 23, 24, 25, 26, 27, 28, 29, 30, 31, 32, 33, 34, 35, 36, 37, 38, 39, 40, 41, 42, 43, 44, 45, 46, 47, 48, 49, 50, 51, 52]]
def c_2281_2 : List Instr := [.aload 1, .aload 0, .iload 3, .ldc_w 1, .iadd, .iaload, .i2l, .ldc_w 32, .lshl, .aload 0, .iload 3, .ldc_w 2, .iadd, .iaload, .i2l, .ldc2_w 4294967295, .land, .lor, .aload 0, .iload 3, .ldc_w 3, .iadd, .iaload, .invokevirtual 120018, .aload 2, .aload 0, .iload 3, .ldc_w 1, .iadd, .iaload, .i2l, .ldc_w 32, .lshl, .aload 0, .iload 3, .ldc_w 2, .iadd, .iaload, .i2l, .ldc2_w 4294967295, .land, .lor, .aload 0, .iload 3, .ldc_w 3, .iadd, .iaload, .invokevirtual 130602, .if_icmp .eq 53, .ldc_w 0, .ireturn]
def c_2281_3 : List Instr := [.aload 1, .invokevirtual 120032, .aload 2, .invokevirtual 130616, .if_icmp .eq 53, .ldc_w 0, .ireturn]
def c_2281_4 : List Instr := [.aload 1, .aload 0, .iload 3, .ldc_w 1, .iadd, .iaload, .aload 0, .iload 3, .ldc_w 2, .iadd, .iaload, .invokevirtual 120042, .aload 2, .aload 0, .iload 3, .ldc_w 1, .iadd, .iaload, .aload 0, .iload 3, .ldc_w 2, .iadd, .iaload, .invokevirtual 130770, .if_icmp .eq 53, .ldc_w 0, .ireturn]
def c_2281_5 : List Instr := [.aload 1, .aload 0, .iload 3, .ldc_w 1, .iadd, .iaload, .invokevirtual 120057, .aload 2, .aload 0, .iload 3, .ldc_w 1, .iadd, .iaload, .invokevirtual 130785, .if_icmp .eq 53, .ldc_w 0, .ireturn]
def c_2281_6 : List Instr := [.aload 1, .aload 0, .iload 3, .ldc_w 1, .iadd, .iaload, .aload 0, .iload 3, .ldc_w 2, .iadd, .iaload, .invokevirtual 120066, .aload 2, .aload 0, .iload 3, .ldc_w 1, .iadd, .iaload, .aload 0, .iload 3, .ldc_w 2, .iadd, .iaload, .invokevirtual 130794, .if_icmp .eq 53, .ldc_w 0, .ireturn]
def c_2281_7 : List Instr := [.aload 1, .aload 0, .iload 3, .ldc_w 1, .iadd, .iaload, .aload 0, .iload 3, .ldc_w 2, .iadd, .iaload, .invokevirtual 120082, .aload 2, .aload 0, .iload 3, .ldc_w 1, .iadd, .iaload, .aload 0, .iload 3, .ldc_w 2, .iadd, .iaload, .invokevirtual 130810, .if_icmp .eq 53, .ldc_w 0, .ireturn]
def c_2281_8 : List Instr := [.aload 1, .aload 0, .iload 3, .ldc_w 1, .iadd, .iaload, .aload 0, .iload 3, .ldc_w 2, .iadd, .iaload, .invokevirtual 120098, .aload 2, .aload 0, .iload 3, .ldc_w 1, .iadd, .iaload, .aload 0, .iload 3, .ldc_w 2, .iadd, .iaload, .invokevirtual 130826, .if_icmp .eq 53, .ldc_w 0, .ireturn]
def c_2281_9 : List Instr := [.aload 1, .aload 0, .iload 3, .ldc_w 1, .iadd, .iaload, .aload 0, .iload 3, .ldc_w 2, .iadd, .iaload, .invokevirtual 120106, .aload 2, .aload 0, .iload 3, .ldc_w 1, .iadd, .iaload, .aload 0, .iload 3, .ldc_w 2, .iadd, .iaload, .invokevirtual 130842, .if_icmp .eq 53, .ldc_w 0, .ireturn]
def c_2281_10 : List Instr := [.aload 1, .aload 0, .iload 3, .ldc_w 1, .iadd, .iaload, .aload 0, .iload 3, .ldc_w 2, .iadd, .iaload, .aload 0, .iload 3, .ldc_w 3, .iadd, .iaload, .invokevirtual 120123, .aload 2, .aload 0, .iload 3, .ldc_w 1, .iadd, .iaload, .aload 0, .iload 3, .ldc_w 2, .iadd, .iaload, .aload 0, .iload 3, .ldc_w 3, .iadd, .iaload, .invokevirtual 130867, .if_icmp .eq 53, .ldc_w 0, .ireturn]
def c_2281_11 : List Instr := [.aload 1, .aload 0, .iload 3, .ldc_w 1, .iadd, .iaload, .aload 0, .iload 3, .ldc_w 2, .iadd, .iaload, .aload 0, .iload 3, .ldc_w 3, .iadd, .iaload, .aload 0, .iload 3, .ldc_w 4, .iadd, .iaload, .invokevirtual 120132, .aload 2, .aload 0, .iload 3, .ldc_w 1, .iadd, .iaload, .aload 0, .iload 3, .ldc_w 2, .iadd, .iaload, .aload 0, .iload 3, .ldc_w 3, .iadd, .iaload, .aload 0, .iload 3, .ldc_w 4, .iadd, .iaload, .invokevirtual 130876, .if_icmp .eq 53, .ldc_w 0, .ireturn]
def c_2281_12 : List Instr := [.aload 1, .aload 0, .iload 3, .ldc_w 1, .iadd, .iaload, .aload 0, .iload 3, .ldc_w 2, .iadd, .iaload, .invokevirtual 120146, .aload 2, .aload 0, .iload 3, .ldc_w 1, .iadd, .iaload, .aload 0, .iload 3, .ldc_w 2, .iadd, .iaload, .invokevirtual 130898, .if_icmp .eq 53, .ldc_w 0, .ireturn]
def c_2281_13 : List Instr := [.aload 1, .aload 0, .iload 3, .ldc_w 1, .iadd, .iaload, .aload 0, .iload 3, .ldc_w 2, .iadd, .iaload, .aload 0, .iload 3, .ldc_w 3, .iadd, .iaload, .invokevirtual 120163, .aload 2, .aload 0, .iload 3, .ldc_w 1, .iadd, .iaload, .aload 0, .iload 3, .ldc_w 2, .iadd, .iaload, .aload 0, .iload 3, .ldc_w 3, .iadd, .iaload, .invokevirtual 130931, .if_icmp .eq 53, .ldc_w 0, .ireturn]
def c_2281_14 : List Instr := [.aload 1, .aload 0, .iload 3, .ldc_w 1, .iadd, .iaload, .aload 0, .iload 3, .ldc_w 2, .iadd, .iaload, .invokevirtual 120170, .aload 2, .aload 0, .iload 3, .ldc_w 1, .iadd, .iaload, .aload 0, .iload 3, .ldc_w 2, .iadd, .iaload, .invokevirtual 130938, .if_icmp .eq 53, .ldc_w 0, .ireturn]
def c_2281_15 : List Instr := [.aload 1, .aload 0, .iload 3, .ldc_w 1, .iadd, .iaload, .aload 0, .iload 3, .ldc_w 2, .iadd, .iaload, .invokevirtual 120178, .aload 2, .aload 0, .iload 3, .ldc_w 1, .iadd, .iaload, .aload 0, .iload 3, .ldc_w 2, .iadd, .iaload, .invokevirtual 130946, .if_icmp .eq 53, .ldc_w 0, .ireturn]
def c_2281_16 : List Instr := [.aload 1, .aload 0, .iload 3, .ldc_w 1, .iadd, .iaload, .invokevirtual 120185, .aload 2, .aload 0, .iload 3, .ldc_w 1, .iadd, .iaload, .invokevirtual 130953, .if_icmp .eq 53, .ldc_w 0, .ireturn]
def c_2281_17 : List Instr := [.aload 1, .aload 0, .iload 3, .ldc_w 1, .iadd, .iaload, .aload 0, .iload 3, .ldc_w 2, .iadd, .iaload, .invokevirtual 120194, .aload 2, .aload 0, .iload 3, .ldc_w 1, .iadd, .iaload, .aload 0, .iload 3, .ldc_w 2, .iadd, .iaload, .invokevirtual 130962, .if_icmp .eq 53, .ldc_w 0, .ireturn]
def c_2281_18 : List Instr := [.aload 1, .aload 0, .iload 3, .ldc_w 1, .iadd, .iaload, .invokevirtual 120201, .aload 2, .aload 0, .iload 3, .ldc_w 1, .iadd, .iaload, .invokevirtual 130977, .if_icmp .eq 53, .ldc_w 0, .ireturn]
def c_2281_19 : List Instr := [.aload 1, .aload 0, .iload 3, .ldc_w 1, .iadd, .iaload, .invokevirtual 120209, .aload 2, .aload 0, .iload 3, .ldc_w 1, .iadd, .iaload, .invokevirtual 130993, .if_icmp .eq 53, .ldc_w 0, .ireturn]
def c_2281_20 : List Instr := [.aload 1, .aload 0, .iload 3, .ldc_w 1, .iadd, .iaload, .aload 0, .iload 3, .ldc_w 2, .iadd, .iaload, .invokevirtual 120218, .aload 2, .aload 0, .iload 3, .ldc_w 1, .iadd, .iaload, .aload 0, .iload 3, .ldc_w 2, .iadd, .iaload, .invokevirtual 131034, .if_icmp .eq 53, .ldc_w 0, .ireturn]
def c_2281_21 : List Instr := [.aload 1, .aload 0, .iload 3, .ldc_w 1, .iadd, .iaload, .invokevirtual 120225, .aload 2, .aload 0, .iload 3, .ldc_w 1, .iadd, .iaload, .invokevirtual 131041, .if_icmp .eq 53, .ldc_w 0, .ireturn]
def c_2281_22 : List Instr := [.aload 1, .aload 0, .iload 3, .ldc_w 1, .iadd, .iaload, .invokevirtual 120233, .aload 2, .aload 0, .iload 3, .ldc_w 1, .iadd, .iaload, .invokevirtual 131049, .if_icmp .eq 53, .ldc_w 0, .ireturn]
def c_2281_23 : List Instr := [.aload 1, .aload 0, .iload 3, .ldc_w 1, .iadd, .iaload, .invokevirtual 120241, .aload 2, .aload 0, .iload 3, .ldc_w 1, .iadd, .iaload, .invokevirtual 131065, .if_icmp .eq 53, .ldc_w 0, .ireturn]
def c_2281_24 : List Instr := [.aload 1, .aload 0, .iload 3, .ldc_w 1, .iadd, .iaload, .invokevirtual 120249, .aload 2, .aload 0, .iload 3, .ldc_w 1, .iadd, .iaload, .invokevirtual 131089, .if_icmp .eq 53, .ldc_w 0, .ireturn]
def c_2281_25 : List Instr := [.aload 1, .invokevirtual 120256, .aload 2, .invokevirtual 131096, .if_icmp .eq 53, .ldc_w 0, .ireturn]
def c_2281_26 : List Instr := [.aload 1, .aload 0, .iload 3, .ldc_w 1, .iadd, .iaload, .aload 0, .iload 3, .ldc_w 2, .iadd, .iaload, .invokevirtual 120266, .aload 2, .aload 0, .iload 3, .ldc_w 1, .iadd, .iaload, .aload 0, .iload 3, .ldc_w 2, .iadd, .iaload, .invokevirtual 131114, .if_icmp .eq 53, .ldc_w 0, .ireturn]
def c_2281_27 : List Instr := [.aload 1, .aload 0, .iload 3, .ldc_w 1, .iadd, .iaload, .invokevirtual 120273, .aload 2, .aload 0, .iload 3, .ldc_w 1, .iadd, .iaload, .invokevirtual 131121, .if_icmp .eq 53, .ldc_w 0, .ireturn]
def c_2281_28 : List Instr := [.aload 1, .aload 0, .iload 3, .ldc_w 1, .iadd, .iaload, .aload 0, .iload 3, .ldc_w 2, .iadd, .iaload, .invokevirtual 120298, .aload 2, .aload 0, .iload 3, .ldc_w 1, .iadd, .iaload, .aload 0, .iload 3, .ldc_w 2, .iadd, .iaload, .invokevirtual 131154, .if_icmp .eq 53, .ldc_w 0, .ireturn]
def c_2281_29 : List Instr := [.aload 1, .aload 0, .iload 3, .ldc_w 1, .iadd, .iaload, .aload 0, .iload 3, .ldc_w 2, .iadd, .iaload, .aload 0, .iload 3, .ldc_w 3, .iadd, .iaload, .invokevirtual 120323, .aload 2, .aload 0, .iload 3, .ldc_w 1, .iadd, .iaload, .aload 0, .iload 3, .ldc_w 2, .iadd, .iaload, .aload 0, .iload 3, .ldc_w 3, .iadd, .iaload, .invokevirtual 131187, .if_icmp .eq 53, .ldc_w 0, .ireturn]
def c_2281_30 : List Instr := [.aload 1, .aload 0, .iload 3, .ldc_w 1, .iadd, .iaload, .aload 0, .iload 3, .ldc_w 2, .iadd, .iaload, .aload 0, .iload 3, .ldc_w 3, .iadd, .iaload, .invokevirtual 120331, .aload 2, .aload 0, .iload 3, .ldc_w 1, .iadd, .iaload, .aload 0, .iload 3, .ldc_w 2, .iadd, .iaload, .aload 0, .iload 3, .ldc_w 3, .iadd, .iaload, .invokevirtual 131195, .if_icmp .eq 53, .ldc_w 0, .ireturn]
def c_2281_31 : List Instr := [.aload 1, .invokevirtual 120344, .aload 2, .invokevirtual 131200, .if_icmp .eq 53, .ldc_w 0, .ireturn]
def c_2281_32 : List Instr := [.aload 1, .aload 0, .iload 3, .ldc_w 1, .iadd, .iaload, .aload 0, .iload 3, .ldc_w 2, .iadd, .iaload, .invokevirtual 120354, .aload 2, .aload 0, .iload 3, .ldc_w 1, .iadd, .iaload, .aload 0, .iload 3, .ldc_w 2, .iadd, .iaload, .invokevirtual 131210, .if_icmp .eq 53, .ldc_w 0, .ireturn]
def c_2281_33 : List Instr := [.aload 1, .aload 0, .iload 3, .ldc_w 1, .iadd, .iaload, .aload 0, .iload 3, .ldc_w 2, .iadd, .iaload, .invokevirtual 120394, .aload 2, .aload 0, .iload 3, .ldc_w 1, .iadd, .iaload, .aload 0, .iload 3, .ldc_w 2, .iadd, .iaload, .invokevirtual 131226, .if_icmp .eq 53, .ldc_w 0, .ireturn]
def c_2281_34 : List Instr := [.aload 1, .invokevirtual 120400, .aload 2, .invokevirtual 131240, .if_icmp .eq 53, .ldc_w 0, .ireturn]
def c_2281_35 : List Instr := [.aload 1, .aload 0, .iload 3, .ldc_w 1, .iadd, .iaload, .aload 0, .iload 3, .ldc_w 2, .iadd, .iaload, .aload 0, .iload 3, .ldc_w 3, .iadd, .iaload, .invokevirtual 120411, .aload 2, .aload 0, .iload 3, .ldc_w 1, .iadd, .iaload, .aload 0, .iload 3, .ldc_w 2, .iadd, .iaload, .aload 0, .iload 3, .ldc_w 3, .iadd, .iaload, .invokevirtual 131251, .if_icmp .eq 53, .ldc_w 0, .ireturn]
def c_2281_36 : List Instr := [.aload 1, .aload 0, .iload 3, .ldc_w 1, .iadd, .iaload, .aload 0, .iload 3, .ldc_w 2, .iadd, .iaload, .invokevirtual 120418, .aload 2, .aload 0, .iload 3, .ldc_w 1, .iadd, .iaload, .aload 0, .iload 3, .ldc_w 2, .iadd, .iaload, .invokevirtual 131258, .lcmp, .ifCond .eq 53, .ldc_w 0, .ireturn]
def c_2281_37 : List Instr := [.aload 1, .aload 0, .iload 3, .ldc_w 1, .iadd, .iaload, .aload 0, .iload 3, .ldc_w 2, .iadd, .iaload, .aload 0, .iload 3, .ldc_w 3, .iadd, .iaload, .invokevirtual 120443, .aload 2, .aload 0, .iload 3, .ldc_w 1, .iadd, .iaload, .aload 0, .iload 3, .ldc_w 2, .iadd, .iaload, .aload 0, .iload 3, .ldc_w 3, .iadd, .iaload, .invokevirtual 131283, .lcmp, .ifCond .eq 53, .ldc_w 0, .ireturn]
def c_2281_38 : List Instr := [.aload 1, .aload 0, .iload 3, .ldc_w 1, .iadd, .iaload, .aload 0, .iload 3, .ldc_w 2, .iadd, .iaload, .invokevirtual 120450, .aload 2, .aload 0, .iload 3, .ldc_w 1, .iadd, .iaload, .aload 0, .iload 3, .ldc_w 2, .iadd, .iaload, .invokevirtual 131298, .if_icmp .eq 53, .ldc_w 0, .ireturn]
def c_2281_39 : List Instr := [.aload 1, .aload 0, .iload 3, .ldc_w 1, .iadd, .iaload, .aload 0, .iload 3, .ldc_w 2, .iadd, .iaload, .invokevirtual 120458, .aload 2, .aload 0, .iload 3, .ldc_w 1, .iadd, .iaload, .aload 0, .iload 3, .ldc_w 2, .iadd, .iaload, .invokevirtual 131314, .if_icmp .eq 53, .ldc_w 0, .ireturn]
def c_2281_40 : List Instr := [.aload 1, .aload 0, .iload 3, .ldc_w 1, .iadd, .iaload, .aload 0, .iload 3, .ldc_w 2, .iadd, .iaload, .aload 0, .iload 3, .ldc_w 3, .iadd, .iaload, .invokevirtual 120475, .aload 2, .aload 0, .iload 3, .ldc_w 1, .iadd, .iaload, .aload 0, .iload 3, .ldc_w 2, .iadd, .iaload, .aload 0, .iload 3, .ldc_w 3, .iadd, .iaload, .invokevirtual 131331, .if_icmp .eq 53, .ldc_w 0, .ireturn]
def c_2281_41 : List Instr := [.aload 1, .aload 0, .iload 3, .ldc_w 1, .iadd, .iaload, .invokevirtual 120481, .aload 2, .aload 0, .iload 3, .ldc_w 1, .iadd, .iaload, .invokevirtual 131337, .if_icmp .eq 53, .ldc_w 0, .ireturn]
def c_2281_42 : List Instr := [.aload 1, .aload 0, .iload 3, .ldc_w 1, .iadd, .iaload, .aload 0, .iload 3, .ldc_w 2, .iadd, .iaload, .aload 0, .iload 3, .ldc_w 3, .iadd, .iaload, .aload 0, .iload 3, .ldc_w 4, .iadd, .iaload, .invokevirtual 120492, .aload 2, .aload 0, .iload 3, .ldc_w 1, .iadd, .iaload, .aload 0, .iload 3, .ldc_w 2, .iadd, .iaload, .aload 0, .iload 3, .ldc_w 3, .iadd, .iaload, .aload 0, .iload 3, .ldc_w 4, .iadd, .iaload, .invokevirtual 131348, .if_icmp .eq 53, .ldc_w 0, .ireturn]
def c_2281_43 : List Instr := [.aload 1, .aload 0, .iload 3, .ldc_w 1, .iadd, .iaload, .aload 0, .iload 3, .ldc_w 2, .iadd, .iaload, .aload 0, .iload 3, .ldc_w 3, .iadd, .iaload, .invokevirtual 120499, .aload 2, .aload 0, .iload 3, .ldc_w 1, .iadd, .iaload, .aload 0, .iload 3, .ldc_w 2, .iadd, .iaload, .aload 0, .iload 3, .ldc_w 3, .iadd, .iaload, .invokevirtual 131363, .if_icmp .eq 53, .ldc_w 0, .ireturn]
def c_2281_44 : List Instr := [.aload 1, .aload 0, .iload 3, .ldc_w 1, .iadd, .iaload, .aload 0, .iload 3, .ldc_w 2, .iadd, .iaload, .aload 0, .iload 3, .ldc_w 3, .iadd, .iaload, .invokevirtual 120507, .aload 2, .aload 0, .iload 3, .ldc_w 1, .iadd, .iaload, .aload 0, .iload 3, .ldc_w 2, .iadd, .iaload, .aload 0, .iload 3, .ldc_w 3, .iadd, .iaload, .invokevirtual 131371, .if_icmp .eq 53, .ldc_w 0, .ireturn]
def c_2281_45 : List Instr := [.aload 1, .aload 0, .iload 3, .ldc_w 1, .iadd, .iaload, .aload 0, .iload 3, .ldc_w 2, .iadd, .iaload, .aload 0, .iload 3, .ldc_w 3, .iadd, .iaload, .invokevirtual 120515, .aload 2, .aload 0, .iload 3, .ldc_w 1, .iadd, .iaload, .aload 0, .iload 3, .ldc_w 2, .iadd, .iaload, .aload 0, .iload 3, .ldc_w 3, .iadd, .iaload, .invokevirtual 131379, .if_icmp .eq 53, .ldc_w 0, .ireturn]
def c_2281_46 : List Instr := [.aload 1, .aload 0, .iload 3, .ldc_w 1, .iadd, .iaload, .aload 0, .iload 3, .ldc_w 2, .iadd, .iaload, .aload 0, .iload 3, .ldc_w 3, .iadd, .iaload, .invokevirtual 120523, .aload 2, .aload 0, .iload 3, .ldc_w 1, .iadd, .iaload, .aload 0, .iload 3, .ldc_w 2, .iadd, .iaload, .aload 0, .iload 3, .ldc_w 3, .iadd, .iaload, .invokevirtual 131387, .if_icmp .eq 53, .ldc_w 0, .ireturn]
def c_2281_47 : List Instr := [.aload 1, .aload 0, .iload 3, .ldc_w 1, .iadd, .iaload, .aload 0, .iload 3, .ldc_w 2, .iadd, .iaload, .invokevirtual 120538, .aload 2, .aload 0, .iload 3, .ldc_w 1, .iadd, .iaload, .aload 0, .iload 3, .ldc_w 2, .iadd, .iaload, .invokevirtual 131402, .if_icmp .eq 53, .ldc_w 0, .ireturn]
def c_2281_48 : List Instr := [.aload 1, .aload 0, .iload 3, .ldc_w 1, .iadd, .iaload, .aload 0, .iload 3, .ldc_w 2, .iadd, .iaload, .aload 0, .iload 3, .ldc_w 3, .iadd, .iaload, .invokevirtual 120547, .aload 2, .aload 0, .iload 3, .ldc_w 1, .iadd, .iaload, .aload 0, .iload 3, .ldc_w 2, .iadd, .iaload, .aload 0, .iload 3, .ldc_w 3, .iadd, .iaload, .invokevirtual 131427, .if_icmp .eq 53, .ldc_w 0, .ireturn]
def c_2281_49 : List Instr := [.aload 1, .aload 0, .iload 3, .ldc_w 1, .iadd, .iaload, .invokevirtual 120553, .aload 2, .aload 0, .iload 3, .ldc_w 1, .iadd, .iaload, .invokevirtual 131513, .if_icmp .eq 53, .ldc_w 0, .ireturn]
def c_2281_50 : List Instr := [.aload 1, .aload 0, .iload 3, .ldc_w 1, .iadd, .iaload, .invokevirtual 120561, .aload 2, .aload 0, .iload 3, .ldc_w 1, .iadd, .iaload, .invokevirtual 131521, .if_icmp .eq 53, .ldc_w 0, .ireturn]
def c_2281_51 : List Instr := [.aload 1, .invokevirtual 120568, .aload 2, .invokevirtual 131552, .if_icmp .eq 53, .ldc_w 0, .ireturn]
def c_2281_52 : List Instr := [.aload 1, .invokevirtual 120576, .aload 2, .invokevirtual 131560, .if_icmp .eq 53, .ldc_w 0, .ireturn]
def c_2281_53 : List Instr := [.iinc 3 5, .goto 1]
def c_2281_54 : List Instr := [.ldc_w 1, .ireturn]
def pnl (m : Nat) : Nat := (bif Nat.blt m 1144 then (bif Nat.blt m 568 then (bif Nat.blt m 282 then (bif Nat.blt m 137 then (bif Nat.blt m 66 then (bif Nat.blt m 32 then (bif Nat.blt m 18 then (bif Nat.blt m 8 then 3 else 1) else (bif Nat.blt m 27 then 5 else 3)) else (bif Nat.blt m 51 then (bif Nat.blt m 42 then 2 else 3) else (bif Nat.blt m 57 then 4 else 2))) else (bif Nat.blt m 98 then (bif Nat.blt m 82 then (bif Nat.blt m 73 then 3 else 1) else (bif Nat.blt m 89 then 3 else 1)) else (bif Nat.blt m 113 then (bif Nat.blt m 106 then 3 else 3) else (bif Nat.blt m 123 then 1 else (bif Nat.blt m 132 then 4 else 5))))) else (bif Nat.blt m 209 then (bif Nat.blt m 170 then (bif Nat.blt m 153 then (bif Nat.blt m 146 then 1 else 3) else (bif Nat.blt m 163 then 2 else 4)) else (bif Nat.blt m 185 then (bif Nat.blt m 178 then 3 else 3) else (bif Nat.blt m 194 then 2 else (bif Nat.blt m 201 then 3 else 2)))) else (bif Nat.blt m 241 then (bif Nat.blt m 225 then (bif Nat.blt m 218 then 2 else 5) else (bif Nat.blt m 233 then 4 else 3)) else (bif Nat.blt m 256 then (bif Nat.blt m 249 then 2 else 3) else (bif Nat.blt m 266 then 1 else (bif Nat.blt m 273 then 6 else 2)))))) else (bif Nat.blt m 426 then (bif Nat.blt m 354 then (bif Nat.blt m 315 then (bif Nat.blt m 298 then (bif Nat.blt m 288 then 4 else 3) else (bif Nat.blt m 306 then 3 else 3)) else (bif Nat.blt m 331 then (bif Nat.blt m 323 then 9 else 4) else (bif Nat.blt m 339 then 8 else (bif Nat.blt m 344 then 6 else 3)))) else (bif Nat.blt m 384 then (bif Nat.blt m 369 then (bif Nat.blt m 361 then 3 else 1) else (bif Nat.blt m 376 then 4 else 3)) else (bif Nat.blt m 400 then (bif Nat.blt m 394 then 2 else 6) else (bif Nat.blt m 411 then 7 else (bif Nat.blt m 418 then 5 else 5))))) else (bif Nat.blt m 499 then (bif Nat.blt m 458 then (bif Nat.blt m 443 then (bif Nat.blt m 435 then 6 else 12) else (bif Nat.blt m 450 then 12 else 5)) else (bif Nat.blt m 475 then (bif Nat.blt m 466 then 3 else 3) else (bif Nat.blt m 481 then 4 else (bif Nat.blt m 492 then 4 else 8)))) else (bif Nat.blt m 529 then (bif Nat.blt m 515 then (bif Nat.blt m 507 then 4 else 5) else (bif Nat.blt m 523 then 5 else 4)) else (bif Nat.blt m 547 then (bif Nat.blt m 538 then 1 else 6) else (bif Nat.blt m 553 then 7 else (bif Nat.blt m 561 then 2 else 2))))))) else (bif Nat.blt m 857 then (bif Nat.blt m 713 then (bif Nat.blt m 641 then (bif Nat.blt m 602 then (bif Nat.blt m 584 then (bif Nat.blt m 576 then 1 else 1) else (bif Nat.blt m 593 then 1 else 2)) else (bif Nat.blt m 616 then (bif Nat.blt m 611 then 5 else 3) else (bif Nat.blt m 624 then 1 else (bif Nat.blt m 633 then 2 else 2)))) else (bif Nat.blt m 673 then (bif Nat.blt m 656 then (bif Nat.blt m 649 then 1 else 1) else (bif Nat.blt m 664 then 1 else 1)) else (bif Nat.blt m 690 then (bif Nat.blt m 681 then 3 else 6) else (bif Nat.blt m 697 then 4 else (bif Nat.blt m 704 then 3 else 1))))) else (bif Nat.blt m 785 then (bif Nat.blt m 744 then (bif Nat.blt m 728 then (bif Nat.blt m 720 then 2 else 5) else (bif Nat.blt m 736 then 2 else 1)) else (bif Nat.blt m 762 then (bif Nat.blt m 752 then 3 else 3) else (bif Nat.blt m 770 then 3 else (bif Nat.blt m 778 then 4 else 4)))) else (bif Nat.blt m 817 then (bif Nat.blt m 801 then (bif Nat.blt m 794 then 2 else 3) else (bif Nat.blt m 810 then 1 else 3)) else (bif Nat.blt m 834 then (bif Nat.blt m 826 then 1 else 3) else (bif Nat.blt m 842 then 3 else (bif Nat.blt m 849 then 3 else 1)))))) else (bif Nat.blt m 1001 then (bif Nat.blt m 931 then (bif Nat.blt m 891 then (bif Nat.blt m 876 then (bif Nat.blt m 867 then 4 else 5) else (bif Nat.blt m 882 then 7 else 2)) else (bif Nat.blt m 905 then (bif Nat.blt m 898 then 4 else 3) else (bif Nat.blt m 914 then 2 else (bif Nat.blt m 921 then 3 else 4)))) else (bif Nat.blt m 962 then (bif Nat.blt m 946 then (bif Nat.blt m 938 then 4 else 3) else (bif Nat.blt m 953 then 3 else 2)) else (bif Nat.blt m 977 then (bif Nat.blt m 970 then 3 else 6) else (bif Nat.blt m 985 then 2 else (bif Nat.blt m 993 then 2 else 2))))) else (bif Nat.blt m 1073 then (bif Nat.blt m 1034 then (bif Nat.blt m 1019 then (bif Nat.blt m 1009 then 3 else 5) else (bif Nat.blt m 1027 then 4 else 3)) else (bif Nat.blt m 1049 then (bif Nat.blt m 1041 then 5 else 4) else (bif Nat.blt m 1056 then 3 else (bif Nat.blt m 1065 then 4 else 2)))) else (bif Nat.blt m 1104 then (bif Nat.blt m 1089 then (bif Nat.blt m 1080 then 3 else 1) else (bif Nat.blt m 1096 then 2 else 1)) else (bif Nat.blt m 1121 then (bif Nat.blt m 1114 then 3 else 6) else (bif Nat.blt m 1129 then 2 else (bif Nat.blt m 1136 then 5 else 3)))))))) else (bif Nat.blt m 1713 then (bif Nat.blt m 1427 then (bif Nat.blt m 1283 then (bif Nat.blt m 1210 then (bif Nat.blt m 1178 then (bif Nat.blt m 1162 then (bif Nat.blt m 1154 then 3 else 3) else (bif Nat.blt m 1169 then 6 else 3)) else (bif Nat.blt m 1195 then (bif Nat.blt m 1187 then 2 else 4) else (bif Nat.blt m 1200 then 9 else 3))) else (bif Nat.blt m 1240 then (bif Nat.blt m 1226 then (bif Nat.blt m 1217 then 6 else 1) else (bif Nat.blt m 1233 then 7 else 3)) else (bif Nat.blt m 1258 then (bif Nat.blt m 1251 then 7 else 5) else (bif Nat.blt m 1266 then 5 else (bif Nat.blt m 1275 then 5 else 11))))) else (bif Nat.blt m 1354 then (bif Nat.blt m 1314 then (bif Nat.blt m 1298 then (bif Nat.blt m 1290 then 9 else 6) else (bif Nat.blt m 1306 then 4 else 6)) else (bif Nat.blt m 1331 then (bif Nat.blt m 1322 then 3 else 3) else (bif Nat.blt m 1337 then 5 else (bif Nat.blt m 1348 then 3 else 7)))) else (bif Nat.blt m 1387 then (bif Nat.blt m 1371 then (bif Nat.blt m 1363 then 3 else 5) else (bif Nat.blt m 1379 then 4 else 5)) else (bif Nat.blt m 1402 then (bif Nat.blt m 1394 then 4 else 3) else (bif Nat.blt m 1409 then 4 else (bif Nat.blt m 1418 then 2 else 2)))))) else (bif Nat.blt m 1569 then (bif Nat.blt m 1497 then (bif Nat.blt m 1457 then (bif Nat.blt m 1441 then (bif Nat.blt m 1433 then 6 else 2) else (bif Nat.blt m 1449 then 2 else 2)) else (bif Nat.blt m 1473 then (bif Nat.blt m 1465 then 2 else 3) else (bif Nat.blt m 1481 then 2 else (bif Nat.blt m 1489 then 3 else 2)))) else (bif Nat.blt m 1528 then (bif Nat.blt m 1513 then (bif Nat.blt m 1505 then 3 else 2) else (bif Nat.blt m 1521 then 2 else 2)) else (bif Nat.blt m 1544 then (bif Nat.blt m 1536 then 3 else 3) else (bif Nat.blt m 1552 then 3 else (bif Nat.blt m 1560 then 1 else 1))))) else (bif Nat.blt m 1641 then (bif Nat.blt m 1601 then (bif Nat.blt m 1588 then (bif Nat.blt m 1576 then 2 else 2) else (bif Nat.blt m 1593 then 7 else 2)) else (bif Nat.blt m 1617 then (bif Nat.blt m 1609 then 2 else 4) else (bif Nat.blt m 1626 then 4 else (bif Nat.blt m 1633 then 4 else 2)))) else (bif Nat.blt m 1672 then (bif Nat.blt m 1657 then (bif Nat.blt m 1649 then 2 else 3) else (bif Nat.blt m 1664 then 5 else 7)) else (bif Nat.blt m 1688 then (bif Nat.blt m 1681 then 6 else 2) else (bif Nat.blt m 1696 then 1 else (bif Nat.blt m 1704 then 3 else 3))))))) else (bif Nat.blt m 2002 then (bif Nat.blt m 1857 then (bif Nat.blt m 1784 then (bif Nat.blt m 1744 then (bif Nat.blt m 1730 then (bif Nat.blt m 1722 then 3 else 5) else (bif Nat.blt m 1737 then 3 else 4)) else (bif Nat.blt m 1760 then (bif Nat.blt m 1752 then 3 else 3) else (bif Nat.blt m 1769 then 1 else (bif Nat.blt m 1777 then 2 else 3)))) else (bif Nat.blt m 1817 then (bif Nat.blt m 1801 then (bif Nat.blt m 1793 then 1 else 1) else (bif Nat.blt m 1808 then 1 else 1)) else (bif Nat.blt m 1833 then (bif Nat.blt m 1825 then 3 else 1) else (bif Nat.blt m 1842 then 3 else (bif Nat.blt m 1850 then 6 else 3))))) else (bif Nat.blt m 1930 then (bif Nat.blt m 1888 then (bif Nat.blt m 1873 then (bif Nat.blt m 1864 then 2 else 1) else (bif Nat.blt m 1884 then 4 else 6)) else (bif Nat.blt m 1905 then (bif Nat.blt m 1897 then 2 else 1) else (bif Nat.blt m 1913 then 3 else (bif Nat.blt m 1920 then 2 else 1)))) else (bif Nat.blt m 1960 then (bif Nat.blt m 1946 then (bif Nat.blt m 1937 then 3 else 2) else (bif Nat.blt m 1953 then 3 else 2)) else (bif Nat.blt m 1978 then (bif Nat.blt m 1971 then 1 else 4) else (bif Nat.blt m 1985 then 3 else (bif Nat.blt m 1994 then 2 else 3)))))) else (bif Nat.blt m 2146 then (bif Nat.blt m 2075 then (bif Nat.blt m 2035 then (bif Nat.blt m 2018 then (bif Nat.blt m 2010 then 3 else 4) else (bif Nat.blt m 2024 then 3 else 1)) else (bif Nat.blt m 2049 then (bif Nat.blt m 2042 then 4 else 3) else (bif Nat.blt m 2058 then 2 else (bif Nat.blt m 2064 then 3 else 1)))) else (bif Nat.blt m 2106 then (bif Nat.blt m 2089 then (bif Nat.blt m 2082 then 4 else 3) else (bif Nat.blt m 2098 then 2 else 3)) else (bif Nat.blt m 2123 then (bif Nat.blt m 2112 then 3 else 1) else (bif Nat.blt m 2130 then 4 else (bif Nat.blt m 2137 then 3 else 2))))) else (bif Nat.blt m 2219 then (bif Nat.blt m 2178 then (bif Nat.blt m 2160 then (bif Nat.blt m 2154 then 3 else 3) else (bif Nat.blt m 2171 then 1 else 4)) else (bif Nat.blt m 2194 then (bif Nat.blt m 2185 then 3 else 2) else (bif Nat.blt m 2202 then 3 else (bif Nat.blt m 2208 then 3 else 1)))) else (bif Nat.blt m 2250 then (bif Nat.blt m 2233 then (bif Nat.blt m 2226 then 4 else 3) else (bif Nat.blt m 2242 then 2 else 3)) else (bif Nat.blt m 2265 then (bif Nat.blt m 2257 then 3 else 3) else (bif Nat.blt m 2273 then 2 else (bif Nat.blt m 2281 then 1 else 4)))))))))
def prk (m : Nat) : Nat := (bif Nat.blt m 1144 then (bif Nat.blt m 568 then (bif Nat.blt m 282 then (bif Nat.blt m 137 then (bif Nat.blt m 66 then (bif Nat.blt m 32 then (bif Nat.blt m 18 then (bif Nat.blt m 8 then 0 else 4) else (bif Nat.blt m 27 then 1 else 2)) else (bif Nat.blt m 51 then (bif Nat.blt m 42 then 1 else 1) else (bif Nat.blt m 57 then 1 else 1))) else (bif Nat.blt m 98 then (bif Nat.blt m 82 then (bif Nat.blt m 73 then 1 else 2) else (bif Nat.blt m 89 then 1 else 2)) else (bif Nat.blt m 113 then (bif Nat.blt m 106 then 1 else 1) else (bif Nat.blt m 123 then 2 else (bif Nat.blt m 132 then 1 else 1))))) else (bif Nat.blt m 209 then (bif Nat.blt m 170 then (bif Nat.blt m 153 then (bif Nat.blt m 146 then 2 else 1) else (bif Nat.blt m 163 then 2 else 1)) else (bif Nat.blt m 185 then (bif Nat.blt m 178 then 1 else 1) else (bif Nat.blt m 194 then 1 else (bif Nat.blt m 201 then 1 else 1)))) else (bif Nat.blt m 241 then (bif Nat.blt m 225 then (bif Nat.blt m 218 then 1 else 1) else (bif Nat.blt m 233 then 1 else 1)) else (bif Nat.blt m 256 then (bif Nat.blt m 249 then 1 else 1) else (bif Nat.blt m 266 then 1 else (bif Nat.blt m 273 then 1 else 1)))))) else (bif Nat.blt m 426 then (bif Nat.blt m 354 then (bif Nat.blt m 315 then (bif Nat.blt m 298 then (bif Nat.blt m 288 then 1 else 1) else (bif Nat.blt m 306 then 1 else 0)) else (bif Nat.blt m 331 then (bif Nat.blt m 323 then 0 else 1) else (bif Nat.blt m 339 then 1 else (bif Nat.blt m 344 then 1 else 1)))) else (bif Nat.blt m 384 then (bif Nat.blt m 369 then (bif Nat.blt m 361 then 1 else 2) else (bif Nat.blt m 376 then 0 else 1)) else (bif Nat.blt m 400 then (bif Nat.blt m 394 then 1 else 1) else (bif Nat.blt m 411 then 1 else (bif Nat.blt m 418 then 1 else 3))))) else (bif Nat.blt m 499 then (bif Nat.blt m 458 then (bif Nat.blt m 443 then (bif Nat.blt m 435 then 3 else 3) else (bif Nat.blt m 450 then 3 else 1)) else (bif Nat.blt m 475 then (bif Nat.blt m 466 then 1 else 2) else (bif Nat.blt m 481 then 1 else (bif Nat.blt m 492 then 1 else 1)))) else (bif Nat.blt m 529 then (bif Nat.blt m 515 then (bif Nat.blt m 507 then 1 else 1) else (bif Nat.blt m 523 then 1 else 1)) else (bif Nat.blt m 547 then (bif Nat.blt m 538 then 2 else 1) else (bif Nat.blt m 553 then 1 else (bif Nat.blt m 561 then 1 else 1))))))) else (bif Nat.blt m 857 then (bif Nat.blt m 713 then (bif Nat.blt m 641 then (bif Nat.blt m 602 then (bif Nat.blt m 584 then (bif Nat.blt m 576 then 1 else 1) else (bif Nat.blt m 593 then 0 else 0)) else (bif Nat.blt m 616 then (bif Nat.blt m 611 then 1 else 2) else (bif Nat.blt m 624 then 1 else (bif Nat.blt m 633 then 0 else 1)))) else (bif Nat.blt m 673 then (bif Nat.blt m 656 then (bif Nat.blt m 649 then 2 else 2) else (bif Nat.blt m 664 then 0 else 1)) else (bif Nat.blt m 690 then (bif Nat.blt m 681 then 2 else 0) else (bif Nat.blt m 697 then 1 else (bif Nat.blt m 704 then 0 else 0))))) else (bif Nat.blt m 785 then (bif Nat.blt m 744 then (bif Nat.blt m 728 then (bif Nat.blt m 720 then 2 else 0) else (bif Nat.blt m 736 then 1 else 1)) else (bif Nat.blt m 762 then (bif Nat.blt m 752 then 0 else 0) else (bif Nat.blt m 770 then 0 else (bif Nat.blt m 778 then 1 else 1)))) else (bif Nat.blt m 817 then (bif Nat.blt m 801 then (bif Nat.blt m 794 then 1 else 1) else (bif Nat.blt m 810 then 2 else 1)) else (bif Nat.blt m 834 then (bif Nat.blt m 826 then 2 else 1) else (bif Nat.blt m 842 then 1 else (bif Nat.blt m 849 then 1 else 2)))))) else (bif Nat.blt m 1001 then (bif Nat.blt m 931 then (bif Nat.blt m 891 then (bif Nat.blt m 876 then (bif Nat.blt m 867 then 1 else 1) else (bif Nat.blt m 882 then 1 else 2)) else (bif Nat.blt m 905 then (bif Nat.blt m 898 then 0 else 1) else (bif Nat.blt m 914 then 2 else (bif Nat.blt m 921 then 1 else 1)))) else (bif Nat.blt m 962 then (bif Nat.blt m 946 then (bif Nat.blt m 938 then 1 else 1) else (bif Nat.blt m 953 then 1 else 1)) else (bif Nat.blt m 977 then (bif Nat.blt m 970 then 1 else 1) else (bif Nat.blt m 985 then 1 else (bif Nat.blt m 993 then 1 else 1))))) else (bif Nat.blt m 1073 then (bif Nat.blt m 1034 then (bif Nat.blt m 1019 then (bif Nat.blt m 1009 then 2 else 0) else (bif Nat.blt m 1027 then 0 else 1)) else (bif Nat.blt m 1049 then (bif Nat.blt m 1041 then 1 else 1) else (bif Nat.blt m 1056 then 1 else (bif Nat.blt m 1065 then 0 else 1)))) else (bif Nat.blt m 1104 then (bif Nat.blt m 1089 then (bif Nat.blt m 1080 then 1 else 1) else (bif Nat.blt m 1096 then 1 else 1)) else (bif Nat.blt m 1121 then (bif Nat.blt m 1114 then 1 else 1) else (bif Nat.blt m 1129 then 1 else (bif Nat.blt m 1136 then 1 else 1)))))))) else (bif Nat.blt m 1713 then (bif Nat.blt m 1427 then (bif Nat.blt m 1283 then (bif Nat.blt m 1210 then (bif Nat.blt m 1178 then (bif Nat.blt m 1162 then (bif Nat.blt m 1154 then 1 else 1) else (bif Nat.blt m 1169 then 0 else 1)) else (bif Nat.blt m 1195 then (bif Nat.blt m 1187 then 1 else 1) else (bif Nat.blt m 1200 then 1 else 1))) else (bif Nat.blt m 1240 then (bif Nat.blt m 1226 then (bif Nat.blt m 1217 then 1 else 2) else (bif Nat.blt m 1233 then 1 else 1)) else (bif Nat.blt m 1258 then (bif Nat.blt m 1251 then 1 else 1) else (bif Nat.blt m 1266 then 3 else (bif Nat.blt m 1275 then 3 else 3))))) else (bif Nat.blt m 1354 then (bif Nat.blt m 1314 then (bif Nat.blt m 1298 then (bif Nat.blt m 1290 then 3 else 3) else (bif Nat.blt m 1306 then 1 else 0)) else (bif Nat.blt m 1331 then (bif Nat.blt m 1322 then 1 else 2) else (bif Nat.blt m 1337 then 1 else (bif Nat.blt m 1348 then 1 else 1)))) else (bif Nat.blt m 1387 then (bif Nat.blt m 1371 then (bif Nat.blt m 1363 then 1 else 1) else (bif Nat.blt m 1379 then 1 else 1)) else (bif Nat.blt m 1402 then (bif Nat.blt m 1394 then 1 else 2) else (bif Nat.blt m 1409 then 1 else (bif Nat.blt m 1418 then 1 else 2)))))) else (bif Nat.blt m 1569 then (bif Nat.blt m 1497 then (bif Nat.blt m 1457 then (bif Nat.blt m 1441 then (bif Nat.blt m 1433 then 1 else 1) else (bif Nat.blt m 1449 then 1 else 0)) else (bif Nat.blt m 1473 then (bif Nat.blt m 1465 then 1 else 1) else (bif Nat.blt m 1481 then 1 else (bif Nat.blt m 1489 then 1 else 1)))) else (bif Nat.blt m 1528 then (bif Nat.blt m 1513 then (bif Nat.blt m 1505 then 1 else 1) else (bif Nat.blt m 1521 then 1 else 1)) else (bif Nat.blt m 1544 then (bif Nat.blt m 1536 then 1 else 1) else (bif Nat.blt m 1552 then 1 else (bif Nat.blt m 1560 then 1 else 1))))) else (bif Nat.blt m 1641 then (bif Nat.blt m 1601 then (bif Nat.blt m 1588 then (bif Nat.blt m 1576 then 0 else 0) else (bif Nat.blt m 1593 then 1 else 0)) else (bif Nat.blt m 1617 then (bif Nat.blt m 1609 then 1 else 1) else (bif Nat.blt m 1626 then 1 else (bif Nat.blt m 1633 then 1 else 4)))) else (bif Nat.blt m 1672 then (bif Nat.blt m 1657 then (bif Nat.blt m 1649 then 1 else 2) else (bif Nat.blt m 1664 then 1 else 0)) else (bif Nat.blt m 1688 then (bif Nat.blt m 1681 then 0 else 1) else (bif Nat.blt m 1696 then 1 else (bif Nat.blt m 1704 then 1 else 1))))))) else (bif Nat.blt m 2002 then (bif Nat.blt m 1857 then (bif Nat.blt m 1784 then (bif Nat.blt m 1744 then (bif Nat.blt m 1730 then (bif Nat.blt m 1722 then 1 else 1) else (bif Nat.blt m 1737 then 1 else 1)) else (bif Nat.blt m 1760 then (bif Nat.blt m 1752 then 1 else 1) else (bif Nat.blt m 1769 then 0 else (bif Nat.blt m 1777 then 0 else 2)))) else (bif Nat.blt m 1817 then (bif Nat.blt m 1801 then (bif Nat.blt m 1793 then 0 else 2) else (bif Nat.blt m 1808 then 2 else 0)) else (bif Nat.blt m 1833 then (bif Nat.blt m 1825 then 2 else 4) else (bif Nat.blt m 1842 then 2 else (bif Nat.blt m 1850 then 2 else 2))))) else (bif Nat.blt m 1930 then (bif Nat.blt m 1888 then (bif Nat.blt m 1873 then (bif Nat.blt m 1864 then 2 else 2) else (bif Nat.blt m 1884 then 2 else 2)) else (bif Nat.blt m 1905 then (bif Nat.blt m 1897 then 1 else 4) else (bif Nat.blt m 1913 then 2 else (bif Nat.blt m 1920 then 2 else 0)))) else (bif Nat.blt m 1960 then (bif Nat.blt m 1946 then (bif Nat.blt m 1937 then 0 else 0) else (bif Nat.blt m 1953 then 0 else 3)) else (bif Nat.blt m 1978 then (bif Nat.blt m 1971 then 0 else 1) else (bif Nat.blt m 1985 then 1 else (bif Nat.blt m 1994 then 2 else 1)))))) else (bif Nat.blt m 2146 then (bif Nat.blt m 2075 then (bif Nat.blt m 2035 then (bif Nat.blt m 2018 then (bif Nat.blt m 2010 then 1 else 1) else (bif Nat.blt m 2024 then 1 else 0)) else (bif Nat.blt m 2049 then (bif Nat.blt m 2042 then 1 else 1) else (bif Nat.blt m 2058 then 2 else (bif Nat.blt m 2064 then 1 else 0)))) else (bif Nat.blt m 2106 then (bif Nat.blt m 2089 then (bif Nat.blt m 2082 then 1 else 1) else (bif Nat.blt m 2098 then 2 else 1)) else (bif Nat.blt m 2123 then (bif Nat.blt m 2112 then 1 else 0) else (bif Nat.blt m 2130 then 1 else (bif Nat.blt m 2137 then 1 else 2))))) else (bif Nat.blt m 2219 then (bif Nat.blt m 2178 then (bif Nat.blt m 2160 then (bif Nat.blt m 2154 then 1 else 1) else (bif Nat.blt m 2171 then 0 else 1)) else (bif Nat.blt m 2194 then (bif Nat.blt m 2185 then 1 else 2) else (bif Nat.blt m 2202 then 1 else (bif Nat.blt m 2208 then 1 else 0)))) else (bif Nat.blt m 2250 then (bif Nat.blt m 2233 then (bif Nat.blt m 2226 then 1 else 1) else (bif Nat.blt m 2242 then 2 else 1)) else (bif Nat.blt m 2265 then (bif Nat.blt m 2257 then 1 else 0) else (bif Nat.blt m 2273 then 0 else (bif Nat.blt m 2281 then 1 else 2)))))))))
def cb_0 (b : Nat) : List Instr := (bif Nat.blt b 1 then c_0_0 else (bif Nat.blt b 2 then c_0_1 else c_0_2))
def cb_8 (b : Nat) : List Instr := c_8_0
def cb_18 (b : Nat) : List Instr := (bif Nat.blt b 2 then (bif Nat.blt b 1 then c_18_0 else c_18_1) else (bif Nat.blt b 3 then c_18_2 else (bif Nat.blt b 4 then c_18_3 else c_18_4)))
def cb_27 (b : Nat) : List Instr := (bif Nat.blt b 2 then (bif Nat.blt b 1 then c_27_0 else c_27_1) else (bif Nat.blt b 3 then c_27_2 else c_27_3))
def cb_32 (b : Nat) : List Instr := (bif Nat.blt b 1 then c_32_0 else c_32_1)
def cb_42 (b : Nat) : List Instr := (bif Nat.blt b 1 then c_42_0 else (bif Nat.blt b 2 then c_42_1 else c_42_2))
def cb_51 (b : Nat) : List Instr := c_51_0
def cb_57 (b : Nat) : List Instr := (bif Nat.blt b 1 then c_57_0 else (bif Nat.blt b 2 then c_57_1 else c_57_2))
def cb_66 (b : Nat) : List Instr := (bif Nat.blt b 1 then c_66_0 else (bif Nat.blt b 2 then c_66_1 else c_66_2))
def cb_73 (b : Nat) : List Instr := c_73_0
def cb_82 (b : Nat) : List Instr := (bif Nat.blt b 1 then c_82_0 else (bif Nat.blt b 2 then c_82_1 else c_82_2))
def cb_89 (b : Nat) : List Instr := c_89_0
def cb_98 (b : Nat) : List Instr := (bif Nat.blt b 3 then (bif Nat.blt b 1 then c_98_0 else (bif Nat.blt b 2 then c_98_1 else c_98_2)) else (bif Nat.blt b 4 then c_98_3 else (bif Nat.blt b 5 then c_98_4 else c_98_5)))
def cb_106 (b : Nat) : List Instr := (bif Nat.blt b 3 then (bif Nat.blt b 1 then c_106_0 else (bif Nat.blt b 2 then c_106_1 else c_106_2)) else (bif Nat.blt b 5 then (bif Nat.blt b 4 then c_106_3 else c_106_4) else (bif Nat.blt b 6 then c_106_5 else c_106_6)))
def cb_113 (b : Nat) : List Instr := c_113_0
def cb_123 (b : Nat) : List Instr := (bif Nat.blt b 3 then (bif Nat.blt b 1 then c_123_0 else (bif Nat.blt b 2 then c_123_1 else c_123_2)) else (bif Nat.blt b 5 then (bif Nat.blt b 4 then c_123_3 else c_123_4) else (bif Nat.blt b 6 then c_123_5 else c_123_6)))
def cb_132 (b : Nat) : List Instr := (bif Nat.blt b 2 then (bif Nat.blt b 1 then c_132_0 else c_132_1) else (bif Nat.blt b 3 then c_132_2 else c_132_3))
def cb_137 (b : Nat) : List Instr := c_137_0
def cb_146 (b : Nat) : List Instr := (bif Nat.blt b 5 then (bif Nat.blt b 2 then (bif Nat.blt b 1 then c_146_0 else c_146_1) else (bif Nat.blt b 3 then c_146_2 else (bif Nat.blt b 4 then c_146_3 else c_146_4))) else (bif Nat.blt b 7 then (bif Nat.blt b 6 then c_146_5 else c_146_6) else (bif Nat.blt b 8 then c_146_7 else (bif Nat.blt b 9 then c_146_8 else c_146_9))))
def cb_153 (b : Nat) : List Instr := c_153_0
def cb_163 (b : Nat) : List Instr := (bif Nat.blt b 1 then c_163_0 else (bif Nat.blt b 2 then c_163_1 else c_163_2))
def cb_170 (b : Nat) : List Instr := (bif Nat.blt b 1 then c_170_0 else (bif Nat.blt b 2 then c_170_1 else c_170_2))
def cb_178 (b : Nat) : List Instr := (bif Nat.blt b 1 then c_178_0 else (bif Nat.blt b 2 then c_178_1 else c_178_2))
def cb_185 (b : Nat) : List Instr := (bif Nat.blt b 1 then c_185_0 else (bif Nat.blt b 2 then c_185_1 else c_185_2))
def cb_194 (b : Nat) : List Instr := (bif Nat.blt b 2 then (bif Nat.blt b 1 then c_194_0 else c_194_1) else (bif Nat.blt b 3 then c_194_2 else c_194_3))
def cb_201 (b : Nat) : List Instr := (bif Nat.blt b 1 then c_201_0 else (bif Nat.blt b 2 then c_201_1 else c_201_2))
def cb_209 (b : Nat) : List Instr := (bif Nat.blt b 2 then (bif Nat.blt b 1 then c_209_0 else c_209_1) else (bif Nat.blt b 3 then c_209_2 else c_209_3))
def cb_218 (b : Nat) : List Instr := (bif Nat.blt b 1 then c_218_0 else (bif Nat.blt b 2 then c_218_1 else c_218_2))
def cb_225 (b : Nat) : List Instr := (bif Nat.blt b 2 then (bif Nat.blt b 1 then c_225_0 else c_225_1) else (bif Nat.blt b 3 then c_225_2 else c_225_3))
def cb_233 (b : Nat) : List Instr := (bif Nat.blt b 2 then (bif Nat.blt b 1 then c_233_0 else c_233_1) else (bif Nat.blt b 3 then c_233_2 else c_233_3))
def cb_241 (b : Nat) : List Instr := (bif Nat.blt b 1 then c_241_0 else (bif Nat.blt b 2 then c_241_1 else c_241_2))
def cb_249 (b : Nat) : List Instr := c_249_0
def cb_256 (b : Nat) : List Instr := c_256_0
def cb_266 (b : Nat) : List Instr := (bif Nat.blt b 3 then (bif Nat.blt b 1 then c_266_0 else (bif Nat.blt b 2 then c_266_1 else c_266_2)) else (bif Nat.blt b 4 then c_266_3 else (bif Nat.blt b 5 then c_266_4 else c_266_5)))
def cb_273 (b : Nat) : List Instr := (bif Nat.blt b 4 then (bif Nat.blt b 2 then (bif Nat.blt b 1 then c_273_0 else c_273_1) else (bif Nat.blt b 3 then c_273_2 else c_273_3)) else (bif Nat.blt b 6 then (bif Nat.blt b 5 then c_273_4 else c_273_5) else (bif Nat.blt b 7 then c_273_6 else c_273_7)))
def cb_282 (b : Nat) : List Instr := (bif Nat.blt b 1 then c_282_0 else (bif Nat.blt b 2 then c_282_1 else c_282_2))
def cb_288 (b : Nat) : List Instr := (bif Nat.blt b 2 then (bif Nat.blt b 1 then c_288_0 else c_288_1) else (bif Nat.blt b 3 then c_288_2 else c_288_3))
def cb_298 (b : Nat) : List Instr := (bif Nat.blt b 1 then c_298_0 else (bif Nat.blt b 2 then c_298_1 else c_298_2))
def cb_306 (b : Nat) : List Instr := c_306_0
def cb_315 (b : Nat) : List Instr := (bif Nat.blt b 3 then (bif Nat.blt b 1 then c_315_0 else (bif Nat.blt b 2 then c_315_1 else c_315_2)) else (bif Nat.blt b 5 then (bif Nat.blt b 4 then c_315_3 else c_315_4) else (bif Nat.blt b 6 then c_315_5 else c_315_6)))
def cb_323 (b : Nat) : List Instr := (bif Nat.blt b 2 then (bif Nat.blt b 1 then c_323_0 else c_323_1) else (bif Nat.blt b 3 then c_323_2 else c_323_3))
def cb_331 (b : Nat) : List Instr := (bif Nat.blt b 4 then (bif Nat.blt b 2 then (bif Nat.blt b 1 then c_331_0 else c_331_1) else (bif Nat.blt b 3 then c_331_2 else c_331_3)) else (bif Nat.blt b 6 then (bif Nat.blt b 5 then c_331_4 else c_331_5) else (bif Nat.blt b 7 then c_331_6 else c_331_7)))
def cb_339 (b : Nat) : List Instr := (bif Nat.blt b 1 then c_339_0 else (bif Nat.blt b 2 then c_339_1 else c_339_2))
def cb_344 (b : Nat) : List Instr := (bif Nat.blt b 3 then (bif Nat.blt b 1 then c_344_0 else (bif Nat.blt b 2 then c_344_1 else c_344_2)) else (bif Nat.blt b 4 then c_344_3 else (bif Nat.blt b 5 then c_344_4 else c_344_5)))
def cb_354 (b : Nat) : List Instr := (bif Nat.blt b 3 then (bif Nat.blt b 1 then c_354_0 else (bif Nat.blt b 2 then c_354_1 else c_354_2)) else (bif Nat.blt b 4 then c_354_3 else (bif Nat.blt b 5 then c_354_4 else c_354_5)))
def cb_361 (b : Nat) : List Instr := c_361_0
def cb_369 (b : Nat) : List Instr := (bif Nat.blt b 4 then (bif Nat.blt b 2 then (bif Nat.blt b 1 then c_369_0 else c_369_1) else (bif Nat.blt b 3 then c_369_2 else c_369_3)) else (bif Nat.blt b 6 then (bif Nat.blt b 5 then c_369_4 else c_369_5) else (bif Nat.blt b 7 then c_369_6 else (bif Nat.blt b 8 then c_369_7 else c_369_8))))
def cb_376 (b : Nat) : List Instr := (bif Nat.blt b 2 then (bif Nat.blt b 1 then c_376_0 else c_376_1) else (bif Nat.blt b 3 then c_376_2 else c_376_3))
def cb_384 (b : Nat) : List Instr := (bif Nat.blt b 2 then (bif Nat.blt b 1 then c_384_0 else c_384_1) else (bif Nat.blt b 3 then c_384_2 else c_384_3))
def cb_394 (b : Nat) : List Instr := (bif Nat.blt b 4 then (bif Nat.blt b 2 then (bif Nat.blt b 1 then c_394_0 else c_394_1) else (bif Nat.blt b 3 then c_394_2 else c_394_3)) else (bif Nat.blt b 6 then (bif Nat.blt b 5 then c_394_4 else c_394_5) else (bif Nat.blt b 7 then c_394_6 else (bif Nat.blt b 8 then c_394_7 else c_394_8))))
def cb_400 (b : Nat) : List Instr := (bif Nat.blt b 2 then (bif Nat.blt b 1 then c_400_0 else c_400_1) else (bif Nat.blt b 3 then c_400_2 else c_400_3))
def cb_411 (b : Nat) : List Instr := (bif Nat.blt b 3 then (bif Nat.blt b 1 then c_411_0 else (bif Nat.blt b 2 then c_411_1 else c_411_2)) else (bif Nat.blt b 4 then c_411_3 else (bif Nat.blt b 5 then c_411_4 else c_411_5)))
def cb_418 (b : Nat) : List Instr := (bif Nat.blt b 1 then c_418_0 else (bif Nat.blt b 2 then c_418_1 else c_418_2))
def cb_426 (b : Nat) : List Instr := (bif Nat.blt b 1 then c_426_0 else (bif Nat.blt b 2 then c_426_1 else c_426_2))
def cb_435 (b : Nat) : List Instr := (bif Nat.blt b 3 then (bif Nat.blt b 1 then c_435_0 else (bif Nat.blt b 2 then c_435_1 else c_435_2)) else (bif Nat.blt b 5 then (bif Nat.blt b 4 then c_435_3 else c_435_4) else (bif Nat.blt b 6 then c_435_5 else c_435_6)))
def cb_443 (b : Nat) : List Instr := (bif Nat.blt b 2 then (bif Nat.blt b 1 then c_443_0 else c_443_1) else (bif Nat.blt b 3 then c_443_2 else (bif Nat.blt b 4 then c_443_3 else c_443_4)))
def cb_450 (b : Nat) : List Instr := (bif Nat.blt b 3 then (bif Nat.blt b 1 then c_450_0 else (bif Nat.blt b 2 then c_450_1 else c_450_2)) else (bif Nat.blt b 5 then (bif Nat.blt b 4 then c_450_3 else c_450_4) else (bif Nat.blt b 6 then c_450_5 else c_450_6)))
def cb_458 (b : Nat) : List Instr := (bif Nat.blt b 1 then c_458_0 else (bif Nat.blt b 2 then c_458_1 else c_458_2))
def cb_466 (b : Nat) : List Instr := (bif Nat.blt b 2 then (bif Nat.blt b 1 then c_466_0 else c_466_1) else (bif Nat.blt b 3 then c_466_2 else c_466_3))
def cb_475 (b : Nat) : List Instr := (bif Nat.blt b 1 then c_475_0 else (bif Nat.blt b 2 then c_475_1 else c_475_2))
def cb_481 (b : Nat) : List Instr := (bif Nat.blt b 3 then (bif Nat.blt b 1 then c_481_0 else (bif Nat.blt b 2 then c_481_1 else c_481_2)) else (bif Nat.blt b 5 then (bif Nat.blt b 4 then c_481_3 else c_481_4) else (bif Nat.blt b 6 then c_481_5 else c_481_6)))
def cb_492 (b : Nat) : List Instr := (bif Nat.blt b 4 then (bif Nat.blt b 2 then (bif Nat.blt b 1 then c_492_0 else c_492_1) else (bif Nat.blt b 3 then c_492_2 else c_492_3)) else (bif Nat.blt b 6 then (bif Nat.blt b 5 then c_492_4 else c_492_5) else (bif Nat.blt b 7 then c_492_6 else (bif Nat.blt b 8 then c_492_7 else c_492_8))))
def cb_499 (b : Nat) : List Instr := (bif Nat.blt b 3 then (bif Nat.blt b 1 then c_499_0 else (bif Nat.blt b 2 then c_499_1 else c_499_2)) else (bif Nat.blt b 4 then c_499_3 else (bif Nat.blt b 5 then c_499_4 else c_499_5)))
def cb_507 (b : Nat) : List Instr := (bif Nat.blt b 2 then (bif Nat.blt b 1 then c_507_0 else c_507_1) else (bif Nat.blt b 3 then c_507_2 else c_507_3))
def cb_515 (b : Nat) : List Instr := (bif Nat.blt b 3 then (bif Nat.blt b 1 then c_515_0 else (bif Nat.blt b 2 then c_515_1 else c_515_2)) else (bif Nat.blt b 5 then (bif Nat.blt b 4 then c_515_3 else c_515_4) else (bif Nat.blt b 6 then c_515_5 else c_515_6)))
def cb_523 (b : Nat) : List Instr := (bif Nat.blt b 5 then (bif Nat.blt b 2 then (bif Nat.blt b 1 then c_523_0 else c_523_1) else (bif Nat.blt b 3 then c_523_2 else (bif Nat.blt b 4 then c_523_3 else c_523_4))) else (bif Nat.blt b 7 then (bif Nat.blt b 6 then c_523_5 else c_523_6) else (bif Nat.blt b 8 then c_523_7 else (bif Nat.blt b 9 then c_523_8 else c_523_9))))
def cb_529 (b : Nat) : List Instr := c_529_0
def cb_538 (b : Nat) : List Instr := (bif Nat.blt b 5 then (bif Nat.blt b 2 then (bif Nat.blt b 1 then c_538_0 else c_538_1) else (bif Nat.blt b 3 then c_538_2 else (bif Nat.blt b 4 then c_538_3 else c_538_4))) else (bif Nat.blt b 8 then (bif Nat.blt b 6 then c_538_5 else (bif Nat.blt b 7 then c_538_6 else c_538_7)) else (bif Nat.blt b 9 then c_538_8 else (bif Nat.blt b 10 then c_538_9 else c_538_10))))
def cb_547 (b : Nat) : List Instr := (bif Nat.blt b 5 then (bif Nat.blt b 2 then (bif Nat.blt b 1 then c_547_0 else c_547_1) else (bif Nat.blt b 3 then c_547_2 else (bif Nat.blt b 4 then c_547_3 else c_547_4))) else (bif Nat.blt b 7 then (bif Nat.blt b 6 then c_547_5 else c_547_6) else (bif Nat.blt b 8 then c_547_7 else (bif Nat.blt b 9 then c_547_8 else c_547_9))))
def cb_553 (b : Nat) : List Instr := (bif Nat.blt b 1 then c_553_0 else (bif Nat.blt b 2 then c_553_1 else c_553_2))
def cb_561 (b : Nat) : List Instr := (bif Nat.blt b 4 then (bif Nat.blt b 2 then (bif Nat.blt b 1 then c_561_0 else c_561_1) else (bif Nat.blt b 3 then c_561_2 else c_561_3)) else (bif Nat.blt b 6 then (bif Nat.blt b 5 then c_561_4 else c_561_5) else (bif Nat.blt b 7 then c_561_6 else (bif Nat.blt b 8 then c_561_7 else c_561_8))))
def cb_568 (b : Nat) : List Instr := c_568_0
def cb_576 (b : Nat) : List Instr := (bif Nat.blt b 1 then c_576_0 else c_576_1)
def cb_584 (b : Nat) : List Instr := c_584_0
def cb_593 (b : Nat) : List Instr := (bif Nat.blt b 3 then (bif Nat.blt b 1 then c_593_0 else (bif Nat.blt b 2 then c_593_1 else c_593_2)) else (bif Nat.blt b 5 then (bif Nat.blt b 4 then c_593_3 else c_593_4) else (bif Nat.blt b 6 then c_593_5 else c_593_6)))
def cb_602 (b : Nat) : List Instr := (bif Nat.blt b 2 then (bif Nat.blt b 1 then c_602_0 else c_602_1) else (bif Nat.blt b 3 then c_602_2 else (bif Nat.blt b 4 then c_602_3 else c_602_4)))
def cb_611 (b : Nat) : List Instr := (bif Nat.blt b 1 then c_611_0 else (bif Nat.blt b 2 then c_611_1 else c_611_2))
def cb_616 (b : Nat) : List Instr := (bif Nat.blt b 2 then (bif Nat.blt b 1 then c_616_0 else c_616_1) else (bif Nat.blt b 3 then c_616_2 else c_616_3))
def cb_624 (b : Nat) : List Instr := (bif Nat.blt b 8 then (bif Nat.blt b 4 then (bif Nat.blt b 2 then (bif Nat.blt b 1 then c_624_0 else c_624_1) else (bif Nat.blt b 3 then c_624_2 else c_624_3)) else (bif Nat.blt b 6 then (bif Nat.blt b 5 then c_624_4 else c_624_5) else (bif Nat.blt b 7 then c_624_6 else c_624_7))) else (bif Nat.blt b 12 then (bif Nat.blt b 10 then (bif Nat.blt b 9 then c_624_8 else c_624_9) else (bif Nat.blt b 11 then c_624_10 else c_624_11)) else (bif Nat.blt b 14 then (bif Nat.blt b 13 then c_624_12 else c_624_13) else (bif Nat.blt b 15 then c_624_14 else c_624_15))))
def cb_633 (b : Nat) : List Instr := (bif Nat.blt b 1 then c_633_0 else (bif Nat.blt b 2 then c_633_1 else c_633_2))
def cb_641 (b : Nat) : List Instr := c_641_0
def cb_649 (b : Nat) : List Instr := c_649_0
def cb_656 (b : Nat) : List Instr := (bif Nat.blt b 3 then (bif Nat.blt b 1 then c_656_0 else (bif Nat.blt b 2 then c_656_1 else c_656_2)) else (bif Nat.blt b 5 then (bif Nat.blt b 4 then c_656_3 else c_656_4) else (bif Nat.blt b 6 then c_656_5 else c_656_6)))
def cb_664 (b : Nat) : List Instr := (bif Nat.blt b 4 then (bif Nat.blt b 2 then (bif Nat.blt b 1 then c_664_0 else c_664_1) else (bif Nat.blt b 3 then c_664_2 else c_664_3)) else (bif Nat.blt b 6 then (bif Nat.blt b 5 then c_664_4 else c_664_5) else (bif Nat.blt b 7 then c_664_6 else c_664_7)))
def cb_673 (b : Nat) : List Instr := (bif Nat.blt b 1 then c_673_0 else (bif Nat.blt b 2 then c_673_1 else c_673_2))
def cb_681 (b : Nat) : List Instr := (bif Nat.blt b 2 then (bif Nat.blt b 1 then c_681_0 else c_681_1) else (bif Nat.blt b 3 then c_681_2 else (bif Nat.blt b 4 then c_681_3 else c_681_4)))
def cb_690 (b : Nat) : List Instr := (bif Nat.blt b 2 then (bif Nat.blt b 1 then c_690_0 else c_690_1) else (bif Nat.blt b 3 then c_690_2 else c_690_3))
def cb_697 (b : Nat) : List Instr := (bif Nat.blt b 2 then (bif Nat.blt b 1 then c_697_0 else c_697_1) else (bif Nat.blt b 3 then c_697_2 else c_697_3))
def cb_704 (b : Nat) : List Instr := (bif Nat.blt b 2 then (bif Nat.blt b 1 then c_704_0 else c_704_1) else (bif Nat.blt b 3 then c_704_2 else c_704_3))
def cb_713 (b : Nat) : List Instr := (bif Nat.blt b 1 then c_713_0 else (bif Nat.blt b 2 then c_713_1 else c_713_2))
def cb_720 (b : Nat) : List Instr := (bif Nat.blt b 4 then (bif Nat.blt b 2 then (bif Nat.blt b 1 then c_720_0 else c_720_1) else (bif Nat.blt b 3 then c_720_2 else c_720_3)) else (bif Nat.blt b 6 then (bif Nat.blt b 5 then c_720_4 else c_720_5) else (bif Nat.blt b 7 then c_720_6 else c_720_7)))
def cb_728 (b : Nat) : List Instr := (bif Nat.blt b 2 then (bif Nat.blt b 1 then c_728_0 else c_728_1) else (bif Nat.blt b 3 then c_728_2 else c_728_3))
def cb_736 (b : Nat) : List Instr := (bif Nat.blt b 3 then (bif Nat.blt b 1 then c_736_0 else (bif Nat.blt b 2 then c_736_1 else c_736_2)) else (bif Nat.blt b 5 then (bif Nat.blt b 4 then c_736_3 else c_736_4) else (bif Nat.blt b 6 then c_736_5 else c_736_6)))
def cb_744 (b : Nat) : List Instr := (bif Nat.blt b 1 then c_744_0 else c_744_1)
def cb_752 (b : Nat) : List Instr := (bif Nat.blt b 1 then c_752_0 else c_752_1)
def cb_762 (b : Nat) : List Instr := (bif Nat.blt b 1 then c_762_0 else (bif Nat.blt b 2 then c_762_1 else c_762_2))
def cb_770 (b : Nat) : List Instr := (bif Nat.blt b 3 then (bif Nat.blt b 1 then c_770_0 else (bif Nat.blt b 2 then c_770_1 else c_770_2)) else (bif Nat.blt b 5 then (bif Nat.blt b 4 then c_770_3 else c_770_4) else (bif Nat.blt b 6 then c_770_5 else c_770_6)))
def cb_778 (b : Nat) : List Instr := c_778_0
def cb_785 (b : Nat) : List Instr := (bif Nat.blt b 1 then c_785_0 else (bif Nat.blt b 2 then c_785_1 else c_785_2))
def cb_794 (b : Nat) : List Instr := (bif Nat.blt b 1 then c_794_0 else (bif Nat.blt b 2 then c_794_1 else c_794_2))
def cb_801 (b : Nat) : List Instr := c_801_0
def cb_810 (b : Nat) : List Instr := (bif Nat.blt b 1 then c_810_0 else (bif Nat.blt b 2 then c_810_1 else c_810_2))
def cb_817 (b : Nat) : List Instr := c_817_0
def cb_826 (b : Nat) : List Instr := (bif Nat.blt b 2 then (bif Nat.blt b 1 then c_826_0 else c_826_1) else (bif Nat.blt b 3 then c_826_2 else (bif Nat.blt b 4 then c_826_3 else c_826_4)))
def cb_834 (b : Nat) : List Instr := c_834_0
def cb_842 (b : Nat) : List Instr := (bif Nat.blt b 2 then (bif Nat.blt b 1 then c_842_0 else c_842_1) else (bif Nat.blt b 3 then c_842_2 else (bif Nat.blt b 4 then c_842_3 else c_842_4)))
def cb_849 (b : Nat) : List Instr := c_849_0
def cb_857 (b : Nat) : List Instr := (bif Nat.blt b 1 then c_857_0 else (bif Nat.blt b 2 then c_857_1 else c_857_2))
def cb_867 (b : Nat) : List Instr := (bif Nat.blt b 3 then (bif Nat.blt b 1 then c_867_0 else (bif Nat.blt b 2 then c_867_1 else c_867_2)) else (bif Nat.blt b 5 then (bif Nat.blt b 4 then c_867_3 else c_867_4) else (bif Nat.blt b 6 then c_867_5 else c_867_6)))
def cb_876 (b : Nat) : List Instr := (bif Nat.blt b 3 then (bif Nat.blt b 1 then c_876_0 else (bif Nat.blt b 2 then c_876_1 else c_876_2)) else (bif Nat.blt b 4 then c_876_3 else (bif Nat.blt b 5 then c_876_4 else c_876_5)))
def cb_882 (b : Nat) : List Instr := (bif Nat.blt b 1 then c_882_0 else (bif Nat.blt b 2 then c_882_1 else c_882_2))
def cb_891 (b : Nat) : List Instr := c_891_0
def cb_898 (b : Nat) : List Instr := (bif Nat.blt b 2 then (bif Nat.blt b 1 then c_898_0 else c_898_1) else (bif Nat.blt b 3 then c_898_2 else (bif Nat.blt b 4 then c_898_3 else c_898_4)))
def cb_905 (b : Nat) : List Instr := c_905_0
def cb_914 (b : Nat) : List Instr := c_914_0
def cb_921 (b : Nat) : List Instr := (bif Nat.blt b 1 then c_921_0 else (bif Nat.blt b 2 then c_921_1 else c_921_2))
def cb_931 (b : Nat) : List Instr := (bif Nat.blt b 1 then c_931_0 else (bif Nat.blt b 2 then c_931_1 else c_931_2))
def cb_938 (b : Nat) : List Instr := (bif Nat.blt b 1 then c_938_0 else (bif Nat.blt b 2 then c_938_1 else c_938_2))
def cb_946 (b : Nat) : List Instr := (bif Nat.blt b 1 then c_946_0 else (bif Nat.blt b 2 then c_946_1 else c_946_2))
def cb_953 (b : Nat) : List Instr := (bif Nat.blt b 1 then c_953_0 else (bif Nat.blt b 2 then c_953_1 else c_953_2))
def cb_962 (b : Nat) : List Instr := (bif Nat.blt b 1 then c_962_0 else (bif Nat.blt b 2 then c_962_1 else c_962_2))
def cb_970 (b : Nat) : List Instr := (bif Nat.blt b 6 then (bif Nat.blt b 3 then (bif Nat.blt b 1 then c_970_0 else (bif Nat.blt b 2 then c_970_1 else c_970_2)) else (bif Nat.blt b 4 then c_970_3 else (bif Nat.blt b 5 then c_970_4 else c_970_5))) else (bif Nat.blt b 9 then (bif Nat.blt b 7 then c_970_6 else (bif Nat.blt b 8 then c_970_7 else c_970_8)) else (bif Nat.blt b 11 then (bif Nat.blt b 10 then c_970_9 else c_970_10) else (bif Nat.blt b 12 then c_970_11 else c_970_12))))
def cb_977 (b : Nat) : List Instr := (bif Nat.blt b 1 then c_977_0 else (bif Nat.blt b 2 then c_977_1 else c_977_2))
def cb_985 (b : Nat) : List Instr := (bif Nat.blt b 4 then (bif Nat.blt b 2 then (bif Nat.blt b 1 then c_985_0 else c_985_1) else (bif Nat.blt b 3 then c_985_2 else c_985_3)) else (bif Nat.blt b 6 then (bif Nat.blt b 5 then c_985_4 else c_985_5) else (bif Nat.blt b 7 then c_985_6 else c_985_7)))
def cb_993 (b : Nat) : List Instr := (bif Nat.blt b 1 then c_993_0 else (bif Nat.blt b 2 then c_993_1 else c_993_2))
def cb_1001 (b : Nat) : List Instr := (bif Nat.blt b 1 then c_1001_0 else (bif Nat.blt b 2 then c_1001_1 else c_1001_2))
def cb_1009 (b : Nat) : List Instr := (bif Nat.blt b 3 then (bif Nat.blt b 1 then c_1009_0 else (bif Nat.blt b 2 then c_1009_1 else c_1009_2)) else (bif Nat.blt b 5 then (bif Nat.blt b 4 then c_1009_3 else c_1009_4) else (bif Nat.blt b 6 then c_1009_5 else c_1009_6)))
def cb_1019 (b : Nat) : List Instr := c_1019_0
def cb_1027 (b : Nat) : List Instr := (bif Nat.blt b 2 then (bif Nat.blt b 1 then c_1027_0 else c_1027_1) else (bif Nat.blt b 3 then c_1027_2 else c_1027_3))
def cb_1034 (b : Nat) : List Instr := (bif Nat.blt b 1 then c_1034_0 else (bif Nat.blt b 2 then c_1034_1 else c_1034_2))
def cb_1041 (b : Nat) : List Instr := (bif Nat.blt b 2 then (bif Nat.blt b 1 then c_1041_0 else c_1041_1) else (bif Nat.blt b 3 then c_1041_2 else c_1041_3))
def cb_1049 (b : Nat) : List Instr := (bif Nat.blt b 2 then (bif Nat.blt b 1 then c_1049_0 else c_1049_1) else (bif Nat.blt b 3 then c_1049_2 else c_1049_3))
def cb_1056 (b : Nat) : List Instr := (bif Nat.blt b 4 then (bif Nat.blt b 2 then (bif Nat.blt b 1 then c_1056_0 else c_1056_1) else (bif Nat.blt b 3 then c_1056_2 else c_1056_3)) else (bif Nat.blt b 6 then (bif Nat.blt b 5 then c_1056_4 else c_1056_5) else (bif Nat.blt b 7 then c_1056_6 else (bif Nat.blt b 8 then c_1056_7 else c_1056_8))))
def cb_1065 (b : Nat) : List Instr := (bif Nat.blt b 1 then c_1065_0 else (bif Nat.blt b 2 then c_1065_1 else c_1065_2))
def cb_1073 (b : Nat) : List Instr := (bif Nat.blt b 2 then (bif Nat.blt b 1 then c_1073_0 else c_1073_1) else (bif Nat.blt b 3 then c_1073_2 else c_1073_3))
def cb_1080 (b : Nat) : List Instr := c_1080_0
def cb_1089 (b : Nat) : List Instr := c_1089_0
def cb_1096 (b : Nat) : List Instr := c_1096_0
def cb_1104 (b : Nat) : List Instr := (bif Nat.blt b 1 then c_1104_0 else (bif Nat.blt b 2 then c_1104_1 else c_1104_2))
def cb_1114 (b : Nat) : List Instr := (bif Nat.blt b 3 then (bif Nat.blt b 1 then c_1114_0 else (bif Nat.blt b 2 then c_1114_1 else c_1114_2)) else (bif Nat.blt b 5 then (bif Nat.blt b 4 then c_1114_3 else c_1114_4) else (bif Nat.blt b 6 then c_1114_5 else c_1114_6)))
def cb_1121 (b : Nat) : List Instr := (bif Nat.blt b 3 then (bif Nat.blt b 1 then c_1121_0 else (bif Nat.blt b 2 then c_1121_1 else c_1121_2)) else (bif Nat.blt b 5 then (bif Nat.blt b 4 then c_1121_3 else c_1121_4) else (bif Nat.blt b 6 then c_1121_5 else c_1121_6)))
def cb_1129 (b : Nat) : List Instr := (bif Nat.blt b 3 then (bif Nat.blt b 1 then c_1129_0 else (bif Nat.blt b 2 then c_1129_1 else c_1129_2)) else (bif Nat.blt b 5 then (bif Nat.blt b 4 then c_1129_3 else c_1129_4) else (bif Nat.blt b 6 then c_1129_5 else c_1129_6)))
def cb_1136 (b : Nat) : List Instr := (bif Nat.blt b 2 then (bif Nat.blt b 1 then c_1136_0 else c_1136_1) else (bif Nat.blt b 3 then c_1136_2 else (bif Nat.blt b 4 then c_1136_3 else c_1136_4)))
def cb_1144 (b : Nat) : List Instr := (bif Nat.blt b 2 then (bif Nat.blt b 1 then c_1144_0 else c_1144_1) else (bif Nat.blt b 3 then c_1144_2 else (bif Nat.blt b 4 then c_1144_3 else c_1144_4)))
def cb_1154 (b : Nat) : List Instr := (bif Nat.blt b 1 then c_1154_0 else (bif Nat.blt b 2 then c_1154_1 else c_1154_2))
def cb_1162 (b : Nat) : List Instr := (bif Nat.blt b 3 then (bif Nat.blt b 1 then c_1162_0 else (bif Nat.blt b 2 then c_1162_1 else c_1162_2)) else (bif Nat.blt b 5 then (bif Nat.blt b 4 then c_1162_3 else c_1162_4) else (bif Nat.blt b 6 then c_1162_5 else c_1162_6)))
def cb_1169 (b : Nat) : List Instr := (bif Nat.blt b 1 then c_1169_0 else (bif Nat.blt b 2 then c_1169_1 else c_1169_2))
def cb_1178 (b : Nat) : List Instr := (bif Nat.blt b 3 then (bif Nat.blt b 1 then c_1178_0 else (bif Nat.blt b 2 then c_1178_1 else c_1178_2)) else (bif Nat.blt b 5 then (bif Nat.blt b 4 then c_1178_3 else c_1178_4) else (bif Nat.blt b 6 then c_1178_5 else c_1178_6)))
def cb_1187 (b : Nat) : List Instr := (bif Nat.blt b 2 then (bif Nat.blt b 1 then c_1187_0 else c_1187_1) else (bif Nat.blt b 3 then c_1187_2 else (bif Nat.blt b 4 then c_1187_3 else c_1187_4)))
def cb_1195 (b : Nat) : List Instr := (bif Nat.blt b 6 then (bif Nat.blt b 3 then (bif Nat.blt b 1 then c_1195_0 else (bif Nat.blt b 2 then c_1195_1 else c_1195_2)) else (bif Nat.blt b 4 then c_1195_3 else (bif Nat.blt b 5 then c_1195_4 else c_1195_5))) else (bif Nat.blt b 9 then (bif Nat.blt b 7 then c_1195_6 else (bif Nat.blt b 8 then c_1195_7 else c_1195_8)) else (bif Nat.blt b 11 then (bif Nat.blt b 10 then c_1195_9 else c_1195_10) else (bif Nat.blt b 12 then c_1195_11 else c_1195_12))))
def cb_1200 (b : Nat) : List Instr := (bif Nat.blt b 3 then (bif Nat.blt b 1 then c_1200_0 else (bif Nat.blt b 2 then c_1200_1 else c_1200_2)) else (bif Nat.blt b 5 then (bif Nat.blt b 4 then c_1200_3 else c_1200_4) else (bif Nat.blt b 6 then c_1200_5 else c_1200_6)))
def cb_1210 (b : Nat) : List Instr := (bif Nat.blt b 10 then (bif Nat.blt b 5 then (bif Nat.blt b 2 then (bif Nat.blt b 1 then c_1210_0 else c_1210_1) else (bif Nat.blt b 3 then c_1210_2 else (bif Nat.blt b 4 then c_1210_3 else c_1210_4))) else (bif Nat.blt b 7 then (bif Nat.blt b 6 then c_1210_5 else c_1210_6) else (bif Nat.blt b 8 then c_1210_7 else (bif Nat.blt b 9 then c_1210_8 else c_1210_9)))) else (bif Nat.blt b 15 then (bif Nat.blt b 12 then (bif Nat.blt b 11 then c_1210_10 else c_1210_11) else (bif Nat.blt b 13 then c_1210_12 else (bif Nat.blt b 14 then c_1210_13 else c_1210_14))) else (bif Nat.blt b 17 then (bif Nat.blt b 16 then c_1210_15 else c_1210_16) else (bif Nat.blt b 18 then c_1210_17 else (bif Nat.blt b 19 then c_1210_18 else c_1210_19)))))
def cb_1217 (b : Nat) : List Instr := c_1217_0
def cb_1226 (b : Nat) : List Instr := (bif Nat.blt b 8 then (bif Nat.blt b 4 then (bif Nat.blt b 2 then (bif Nat.blt b 1 then c_1226_0 else c_1226_1) else (bif Nat.blt b 3 then c_1226_2 else c_1226_3)) else (bif Nat.blt b 6 then (bif Nat.blt b 5 then c_1226_4 else c_1226_5) else (bif Nat.blt b 7 then c_1226_6 else c_1226_7))) else (bif Nat.blt b 12 then (bif Nat.blt b 10 then (bif Nat.blt b 9 then c_1226_8 else c_1226_9) else (bif Nat.blt b 11 then c_1226_10 else c_1226_11)) else (bif Nat.blt b 14 then (bif Nat.blt b 13 then c_1226_12 else c_1226_13) else (bif Nat.blt b 15 then c_1226_14 else c_1226_15))))
def cb_1233 (b : Nat) : List Instr := (bif Nat.blt b 1 then c_1233_0 else (bif Nat.blt b 2 then c_1233_1 else c_1233_2))
def cb_1240 (b : Nat) : List Instr := (bif Nat.blt b 2 then (bif Nat.blt b 1 then c_1240_0 else c_1240_1) else (bif Nat.blt b 3 then c_1240_2 else (bif Nat.blt b 4 then c_1240_3 else c_1240_4)))
def cb_1251 (b : Nat) : List Instr := (bif Nat.blt b 3 then (bif Nat.blt b 1 then c_1251_0 else (bif Nat.blt b 2 then c_1251_1 else c_1251_2)) else (bif Nat.blt b 5 then (bif Nat.blt b 4 then c_1251_3 else c_1251_4) else (bif Nat.blt b 6 then c_1251_5 else c_1251_6)))
def cb_1258 (b : Nat) : List Instr := (bif Nat.blt b 1 then c_1258_0 else (bif Nat.blt b 2 then c_1258_1 else c_1258_2))
def cb_1266 (b : Nat) : List Instr := (bif Nat.blt b 1 then c_1266_0 else (bif Nat.blt b 2 then c_1266_1 else c_1266_2))
def cb_1275 (b : Nat) : List Instr := (bif Nat.blt b 2 then (bif Nat.blt b 1 then c_1275_0 else c_1275_1) else (bif Nat.blt b 3 then c_1275_2 else (bif Nat.blt b 4 then c_1275_3 else c_1275_4)))
def cb_1283 (b : Nat) : List Instr := (bif Nat.blt b 2 then (bif Nat.blt b 1 then c_1283_0 else c_1283_1) else (bif Nat.blt b 3 then c_1283_2 else (bif Nat.blt b 4 then c_1283_3 else c_1283_4)))
def cb_1290 (b : Nat) : List Instr := (bif Nat.blt b 1 then c_1290_0 else (bif Nat.blt b 2 then c_1290_1 else c_1290_2))
def cb_1298 (b : Nat) : List Instr := (bif Nat.blt b 2 then (bif Nat.blt b 1 then c_1298_0 else c_1298_1) else (bif Nat.blt b 3 then c_1298_2 else (bif Nat.blt b 4 then c_1298_3 else c_1298_4)))
def cb_1306 (b : Nat) : List Instr := (bif Nat.blt b 3 then (bif Nat.blt b 1 then c_1306_0 else (bif Nat.blt b 2 then c_1306_1 else c_1306_2)) else (bif Nat.blt b 5 then (bif Nat.blt b 4 then c_1306_3 else c_1306_4) else (bif Nat.blt b 6 then c_1306_5 else c_1306_6)))
def cb_1314 (b : Nat) : List Instr := (bif Nat.blt b 1 then c_1314_0 else (bif Nat.blt b 2 then c_1314_1 else c_1314_2))
def cb_1322 (b : Nat) : List Instr := (bif Nat.blt b 1 then c_1322_0 else (bif Nat.blt b 2 then c_1322_1 else c_1322_2))
def cb_1331 (b : Nat) : List Instr := (bif Nat.blt b 1 then c_1331_0 else c_1331_1)
def cb_1337 (b : Nat) : List Instr := (bif Nat.blt b 2 then (bif Nat.blt b 1 then c_1337_0 else c_1337_1) else (bif Nat.blt b 3 then c_1337_2 else (bif Nat.blt b 4 then c_1337_3 else c_1337_4)))
def cb_1348 (b : Nat) : List Instr := (bif Nat.blt b 4 then (bif Nat.blt b 2 then (bif Nat.blt b 1 then c_1348_0 else c_1348_1) else (bif Nat.blt b 3 then c_1348_2 else c_1348_3)) else (bif Nat.blt b 6 then (bif Nat.blt b 5 then c_1348_4 else c_1348_5) else (bif Nat.blt b 7 then c_1348_6 else c_1348_7)))
def cb_1354 (b : Nat) : List Instr := (bif Nat.blt b 2 then (bif Nat.blt b 1 then c_1354_0 else c_1354_1) else (bif Nat.blt b 3 then c_1354_2 else c_1354_3))
def cb_1363 (b : Nat) : List Instr := (bif Nat.blt b 4 then (bif Nat.blt b 2 then (bif Nat.blt b 1 then c_1363_0 else c_1363_1) else (bif Nat.blt b 3 then c_1363_2 else c_1363_3)) else (bif Nat.blt b 6 then (bif Nat.blt b 5 then c_1363_4 else c_1363_5) else (bif Nat.blt b 7 then c_1363_6 else c_1363_7)))
def cb_1371 (b : Nat) : List Instr := (bif Nat.blt b 3 then (bif Nat.blt b 1 then c_1371_0 else (bif Nat.blt b 2 then c_1371_1 else c_1371_2)) else (bif Nat.blt b 5 then (bif Nat.blt b 4 then c_1371_3 else c_1371_4) else (bif Nat.blt b 6 then c_1371_5 else c_1371_6)))
def cb_1379 (b : Nat) : List Instr := (bif Nat.blt b 3 then (bif Nat.blt b 1 then c_1379_0 else (bif Nat.blt b 2 then c_1379_1 else c_1379_2)) else (bif Nat.blt b 4 then c_1379_3 else (bif Nat.blt b 5 then c_1379_4 else c_1379_5)))
def cb_1387 (b : Nat) : List Instr := (bif Nat.blt b 5 then (bif Nat.blt b 2 then (bif Nat.blt b 1 then c_1387_0 else c_1387_1) else (bif Nat.blt b 3 then c_1387_2 else (bif Nat.blt b 4 then c_1387_3 else c_1387_4))) else (bif Nat.blt b 7 then (bif Nat.blt b 6 then c_1387_5 else c_1387_6) else (bif Nat.blt b 8 then c_1387_7 else (bif Nat.blt b 9 then c_1387_8 else c_1387_9))))
def cb_1394 (b : Nat) : List Instr := (bif Nat.blt b 2 then (bif Nat.blt b 1 then c_1394_0 else c_1394_1) else (bif Nat.blt b 3 then c_1394_2 else (bif Nat.blt b 4 then c_1394_3 else c_1394_4)))
def cb_1402 (b : Nat) : List Instr := (bif Nat.blt b 4 then (bif Nat.blt b 2 then (bif Nat.blt b 1 then c_1402_0 else c_1402_1) else (bif Nat.blt b 3 then c_1402_2 else c_1402_3)) else (bif Nat.blt b 6 then (bif Nat.blt b 5 then c_1402_4 else c_1402_5) else (bif Nat.blt b 7 then c_1402_6 else (bif Nat.blt b 8 then c_1402_7 else c_1402_8))))
def cb_1409 (b : Nat) : List Instr := (bif Nat.blt b 3 then (bif Nat.blt b 1 then c_1409_0 else (bif Nat.blt b 2 then c_1409_1 else c_1409_2)) else (bif Nat.blt b 4 then c_1409_3 else (bif Nat.blt b 5 then c_1409_4 else c_1409_5)))
def cb_1418 (b : Nat) : List Instr := (bif Nat.blt b 2 then (bif Nat.blt b 1 then c_1418_0 else c_1418_1) else (bif Nat.blt b 3 then c_1418_2 else (bif Nat.blt b 4 then c_1418_3 else c_1418_4)))
def cb_1427 (b : Nat) : List Instr := (bif Nat.blt b 5 then (bif Nat.blt b 2 then (bif Nat.blt b 1 then c_1427_0 else c_1427_1) else (bif Nat.blt b 3 then c_1427_2 else (bif Nat.blt b 4 then c_1427_3 else c_1427_4))) else (bif Nat.blt b 8 then (bif Nat.blt b 6 then c_1427_5 else (bif Nat.blt b 7 then c_1427_6 else c_1427_7)) else (bif Nat.blt b 9 then c_1427_8 else (bif Nat.blt b 10 then c_1427_9 else c_1427_10))))
def cb_1433 (b : Nat) : List Instr := (bif Nat.blt b 2 then (bif Nat.blt b 1 then c_1433_0 else c_1433_1) else (bif Nat.blt b 3 then c_1433_2 else (bif Nat.blt b 4 then c_1433_3 else c_1433_4)))
def cb_1441 (b : Nat) : List Instr := c_1441_0
def cb_1449 (b : Nat) : List Instr := (bif Nat.blt b 1 then c_1449_0 else c_1449_1)
def cb_1457 (b : Nat) : List Instr := c_1457_0
def cb_1465 (b : Nat) : List Instr := (bif Nat.blt b 2 then (bif Nat.blt b 1 then c_1465_0 else c_1465_1) else (bif Nat.blt b 3 then c_1465_2 else c_1465_3))
def cb_1473 (b : Nat) : List Instr := c_1473_0
def cb_1481 (b : Nat) : List Instr := (bif Nat.blt b 2 then (bif Nat.blt b 1 then c_1481_0 else c_1481_1) else (bif Nat.blt b 3 then c_1481_2 else (bif Nat.blt b 4 then c_1481_3 else c_1481_4)))
def cb_1489 (b : Nat) : List Instr := (bif Nat.blt b 1 then c_1489_0 else c_1489_1)
def cb_1497 (b : Nat) : List Instr := (bif Nat.blt b 2 then (bif Nat.blt b 1 then c_1497_0 else c_1497_1) else (bif Nat.blt b 3 then c_1497_2 else c_1497_3))
def cb_1505 (b : Nat) : List Instr := c_1505_0
def cb_1513 (b : Nat) : List Instr := (bif Nat.blt b 1 then c_1513_0 else (bif Nat.blt b 2 then c_1513_1 else c_1513_2))
def cb_1521 (b : Nat) : List Instr := (bif Nat.blt b 4 then (bif Nat.blt b 2 then (bif Nat.blt b 1 then c_1521_0 else c_1521_1) else (bif Nat.blt b 3 then c_1521_2 else c_1521_3)) else (bif Nat.blt b 6 then (bif Nat.blt b 5 then c_1521_4 else c_1521_5) else (bif Nat.blt b 7 then c_1521_6 else (bif Nat.blt b 8 then c_1521_7 else c_1521_8))))
def cb_1528 (b : Nat) : List Instr := (bif Nat.blt b 2 then (bif Nat.blt b 1 then c_1528_0 else c_1528_1) else (bif Nat.blt b 3 then c_1528_2 else (bif Nat.blt b 4 then c_1528_3 else c_1528_4)))
def cb_1536 (b : Nat) : List Instr := (bif Nat.blt b 1 then c_1536_0 else (bif Nat.blt b 2 then c_1536_1 else c_1536_2))
def cb_1544 (b : Nat) : List Instr := (bif Nat.blt b 2 then (bif Nat.blt b 1 then c_1544_0 else c_1544_1) else (bif Nat.blt b 3 then c_1544_2 else (bif Nat.blt b 4 then c_1544_3 else c_1544_4)))
def cb_1552 (b : Nat) : List Instr := c_1552_0
def cb_1560 (b : Nat) : List Instr := (bif Nat.blt b 1 then c_1560_0 else c_1560_1)
def cb_1569 (b : Nat) : List Instr := c_1569_0
def cb_1576 (b : Nat) : List Instr := (bif Nat.blt b 3 then (bif Nat.blt b 1 then c_1576_0 else (bif Nat.blt b 2 then c_1576_1 else c_1576_2)) else (bif Nat.blt b 5 then (bif Nat.blt b 4 then c_1576_3 else c_1576_4) else (bif Nat.blt b 6 then c_1576_5 else c_1576_6)))
def cb_1588 (b : Nat) : List Instr := (bif Nat.blt b 1 then c_1588_0 else (bif Nat.blt b 2 then c_1588_1 else c_1588_2))
def cb_1593 (b : Nat) : List Instr := c_1593_0
def cb_1601 (b : Nat) : List Instr := c_1601_0
def cb_1609 (b : Nat) : List Instr := (bif Nat.blt b 1 then c_1609_0 else (bif Nat.blt b 2 then c_1609_1 else c_1609_2))
def cb_1617 (b : Nat) : List Instr := (bif Nat.blt b 1 then c_1617_0 else (bif Nat.blt b 2 then c_1617_1 else c_1617_2))
def cb_1626 (b : Nat) : List Instr := c_1626_0
def cb_1633 (b : Nat) : List Instr := c_1633_0
def cb_1641 (b : Nat) : List Instr := c_1641_0
def cb_1649 (b : Nat) : List Instr := (bif Nat.blt b 1 then c_1649_0 else (bif Nat.blt b 2 then c_1649_1 else c_1649_2))
def cb_1657 (b : Nat) : List Instr := (bif Nat.blt b 2 then (bif Nat.blt b 1 then c_1657_0 else c_1657_1) else (bif Nat.blt b 3 then c_1657_2 else (bif Nat.blt b 4 then c_1657_3 else c_1657_4)))
def cb_1664 (b : Nat) : List Instr := (bif Nat.blt b 3 then (bif Nat.blt b 1 then c_1664_0 else (bif Nat.blt b 2 then c_1664_1 else c_1664_2)) else (bif Nat.blt b 5 then (bif Nat.blt b 4 then c_1664_3 else c_1664_4) else (bif Nat.blt b 6 then c_1664_5 else c_1664_6)))
def cb_1672 (b : Nat) : List Instr := (bif Nat.blt b 1 then c_1672_0 else (bif Nat.blt b 2 then c_1672_1 else c_1672_2))
def cb_1681 (b : Nat) : List Instr := (bif Nat.blt b 1 then c_1681_0 else (bif Nat.blt b 2 then c_1681_1 else c_1681_2))
def cb_1688 (b : Nat) : List Instr := c_1688_0
def cb_1696 (b : Nat) : List Instr := (bif Nat.blt b 1 then c_1696_0 else (bif Nat.blt b 2 then c_1696_1 else c_1696_2))
def cb_1704 (b : Nat) : List Instr := (bif Nat.blt b 2 then (bif Nat.blt b 1 then c_1704_0 else c_1704_1) else (bif Nat.blt b 3 then c_1704_2 else c_1704_3))
def cb_1713 (b : Nat) : List Instr := c_1713_0
def cb_1722 (b : Nat) : List Instr := (bif Nat.blt b 2 then (bif Nat.blt b 1 then c_1722_0 else c_1722_1) else (bif Nat.blt b 3 then c_1722_2 else c_1722_3))
def cb_1730 (b : Nat) : List Instr := (bif Nat.blt b 2 then (bif Nat.blt b 1 then c_1730_0 else c_1730_1) else (bif Nat.blt b 3 then c_1730_2 else c_1730_3))
def cb_1737 (b : Nat) : List Instr := (bif Nat.blt b 2 then (bif Nat.blt b 1 then c_1737_0 else c_1737_1) else (bif Nat.blt b 3 then c_1737_2 else c_1737_3))
def cb_1744 (b : Nat) : List Instr := (bif Nat.blt b 2 then (bif Nat.blt b 1 then c_1744_0 else c_1744_1) else (bif Nat.blt b 3 then c_1744_2 else c_1744_3))
def cb_1752 (b : Nat) : List Instr := (bif Nat.blt b 2 then (bif Nat.blt b 1 then c_1752_0 else c_1752_1) else (bif Nat.blt b 3 then c_1752_2 else c_1752_3))
def cb_1760 (b : Nat) : List Instr := c_1760_0
def cb_1769 (b : Nat) : List Instr := (bif Nat.blt b 1 then c_1769_0 else c_1769_1)
def cb_1777 (b : Nat) : List Instr := (bif Nat.blt b 3 then (bif Nat.blt b 1 then c_1777_0 else (bif Nat.blt b 2 then c_1777_1 else c_1777_2)) else (bif Nat.blt b 4 then c_1777_3 else (bif Nat.blt b 5 then c_1777_4 else c_1777_5)))
def cb_1784 (b : Nat) : List Instr := (bif Nat.blt b 3 then (bif Nat.blt b 1 then c_1784_0 else (bif Nat.blt b 2 then c_1784_1 else c_1784_2)) else (bif Nat.blt b 5 then (bif Nat.blt b 4 then c_1784_3 else c_1784_4) else (bif Nat.blt b 6 then c_1784_5 else c_1784_6)))
def cb_1793 (b : Nat) : List Instr := (bif Nat.blt b 1 then c_1793_0 else (bif Nat.blt b 2 then c_1793_1 else c_1793_2))
def cb_1801 (b : Nat) : List Instr := (bif Nat.blt b 1 then c_1801_0 else (bif Nat.blt b 2 then c_1801_1 else c_1801_2))
def cb_1808 (b : Nat) : List Instr := (bif Nat.blt b 2 then (bif Nat.blt b 1 then c_1808_0 else c_1808_1) else (bif Nat.blt b 3 then c_1808_2 else (bif Nat.blt b 4 then c_1808_3 else c_1808_4)))
def cb_1817 (b : Nat) : List Instr := (bif Nat.blt b 5 then (bif Nat.blt b 2 then (bif Nat.blt b 1 then c_1817_0 else c_1817_1) else (bif Nat.blt b 3 then c_1817_2 else (bif Nat.blt b 4 then c_1817_3 else c_1817_4))) else (bif Nat.blt b 8 then (bif Nat.blt b 6 then c_1817_5 else (bif Nat.blt b 7 then c_1817_6 else c_1817_7)) else (bif Nat.blt b 9 then c_1817_8 else (bif Nat.blt b 10 then c_1817_9 else c_1817_10))))
def cb_1825 (b : Nat) : List Instr := (bif Nat.blt b 3 then (bif Nat.blt b 1 then c_1825_0 else (bif Nat.blt b 2 then c_1825_1 else c_1825_2)) else (bif Nat.blt b 5 then (bif Nat.blt b 4 then c_1825_3 else c_1825_4) else (bif Nat.blt b 6 then c_1825_5 else c_1825_6)))
def cb_1833 (b : Nat) : List Instr := (bif Nat.blt b 3 then (bif Nat.blt b 1 then c_1833_0 else (bif Nat.blt b 2 then c_1833_1 else c_1833_2)) else (bif Nat.blt b 4 then c_1833_3 else (bif Nat.blt b 5 then c_1833_4 else c_1833_5)))
def cb_1842 (b : Nat) : List Instr := (bif Nat.blt b 3 then (bif Nat.blt b 1 then c_1842_0 else (bif Nat.blt b 2 then c_1842_1 else c_1842_2)) else (bif Nat.blt b 5 then (bif Nat.blt b 4 then c_1842_3 else c_1842_4) else (bif Nat.blt b 6 then c_1842_5 else c_1842_6)))
def cb_1850 (b : Nat) : List Instr := (bif Nat.blt b 1 then c_1850_0 else (bif Nat.blt b 2 then c_1850_1 else c_1850_2))
def cb_1857 (b : Nat) : List Instr := c_1857_0
def cb_1864 (b : Nat) : List Instr := (bif Nat.blt b 1 then c_1864_0 else (bif Nat.blt b 2 then c_1864_1 else c_1864_2))
def cb_1873 (b : Nat) : List Instr := (bif Nat.blt b 2 then (bif Nat.blt b 1 then c_1873_0 else c_1873_1) else (bif Nat.blt b 3 then c_1873_2 else (bif Nat.blt b 4 then c_1873_3 else c_1873_4)))
def cb_1884 (b : Nat) : List Instr := (bif Nat.blt b 1 then c_1884_0 else (bif Nat.blt b 2 then c_1884_1 else c_1884_2))
def cb_1888 (b : Nat) : List Instr := (bif Nat.blt b 2 then (bif Nat.blt b 1 then c_1888_0 else c_1888_1) else (bif Nat.blt b 3 then c_1888_2 else c_1888_3))
def cb_1897 (b : Nat) : List Instr := (bif Nat.blt b 3 then (bif Nat.blt b 1 then c_1897_0 else (bif Nat.blt b 2 then c_1897_1 else c_1897_2)) else (bif Nat.blt b 4 then c_1897_3 else (bif Nat.blt b 5 then c_1897_4 else c_1897_5)))
def cb_1905 (b : Nat) : List Instr := (bif Nat.blt b 1 then c_1905_0 else (bif Nat.blt b 2 then c_1905_1 else c_1905_2))
def cb_1913 (b : Nat) : List Instr := (bif Nat.blt b 1 then c_1913_0 else c_1913_1)
def cb_1920 (b : Nat) : List Instr := c_1920_0
def cb_1930 (b : Nat) : List Instr := c_1930_0
def cb_1937 (b : Nat) : List Instr := (bif Nat.blt b 1 then c_1937_0 else c_1937_1)
def cb_1946 (b : Nat) : List Instr := c_1946_0
def cb_1953 (b : Nat) : List Instr := (bif Nat.blt b 2 then (bif Nat.blt b 1 then c_1953_0 else c_1953_1) else (bif Nat.blt b 3 then c_1953_2 else c_1953_3))
def cb_1960 (b : Nat) : List Instr := c_1960_0
def cb_1971 (b : Nat) : List Instr := c_1971_0
def cb_1978 (b : Nat) : List Instr := c_1978_0
def cb_1985 (b : Nat) : List Instr := (bif Nat.blt b 1 then c_1985_0 else (bif Nat.blt b 2 then c_1985_1 else c_1985_2))
def cb_1994 (b : Nat) : List Instr := c_1994_0
def cb_2002 (b : Nat) : List Instr := c_2002_0
def cb_2010 (b : Nat) : List Instr := (bif Nat.blt b 1 then c_2010_0 else c_2010_1)
def cb_2018 (b : Nat) : List Instr := c_2018_0
def cb_2024 (b : Nat) : List Instr := c_2024_0
def cb_2035 (b : Nat) : List Instr := c_2035_0
def cb_2042 (b : Nat) : List Instr := c_2042_0
def cb_2049 (b : Nat) : List Instr := (bif Nat.blt b 2 then (bif Nat.blt b 1 then c_2049_0 else c_2049_1) else (bif Nat.blt b 3 then c_2049_2 else c_2049_3))
def cb_2058 (b : Nat) : List Instr := c_2058_0
def cb_2064 (b : Nat) : List Instr := c_2064_0
def cb_2075 (b : Nat) : List Instr := c_2075_0
def cb_2082 (b : Nat) : List Instr := c_2082_0
def cb_2089 (b : Nat) : List Instr := (bif Nat.blt b 2 then (bif Nat.blt b 1 then c_2089_0 else c_2089_1) else (bif Nat.blt b 3 then c_2089_2 else c_2089_3))
def cb_2098 (b : Nat) : List Instr := c_2098_0
def cb_2106 (b : Nat) : List Instr := c_2106_0
def cb_2112 (b : Nat) : List Instr := c_2112_0
def cb_2123 (b : Nat) : List Instr := (bif Nat.blt b 1 then c_2123_0 else (bif Nat.blt b 2 then c_2123_1 else c_2123_2))
def cb_2130 (b : Nat) : List Instr := (bif Nat.blt b 1 then c_2130_0 else (bif Nat.blt b 2 then c_2130_1 else c_2130_2))
def cb_2137 (b : Nat) : List Instr := (bif Nat.blt b 2 then (bif Nat.blt b 1 then c_2137_0 else c_2137_1) else (bif Nat.blt b 3 then c_2137_2 else c_2137_3))
def cb_2146 (b : Nat) : List Instr := c_2146_0
def cb_2154 (b : Nat) : List Instr := c_2154_0
def cb_2160 (b : Nat) : List Instr := c_2160_0
def cb_2171 (b : Nat) : List Instr := c_2171_0
def cb_2178 (b : Nat) : List Instr := c_2178_0
def cb_2185 (b : Nat) : List Instr := (bif Nat.blt b 2 then (bif Nat.blt b 1 then c_2185_0 else c_2185_1) else (bif Nat.blt b 3 then c_2185_2 else c_2185_3))
def cb_2194 (b : Nat) : List Instr := c_2194_0
def cb_2202 (b : Nat) : List Instr := c_2202_0
def cb_2208 (b : Nat) : List Instr := c_2208_0
def cb_2219 (b : Nat) : List Instr := (bif Nat.blt b 1 then c_2219_0 else (bif Nat.blt b 2 then c_2219_1 else c_2219_2))
def cb_2226 (b : Nat) : List Instr := c_2226_0
def cb_2233 (b : Nat) : List Instr := (bif Nat.blt b 2 then (bif Nat.blt b 1 then c_2233_0 else c_2233_1) else (bif Nat.blt b 3 then c_2233_2 else c_2233_3))
def cb_2242 (b : Nat) : List Instr := c_2242_0
def cb_2250 (b : Nat) : List Instr := c_2250_0
def cb_2257 (b : Nat) : List Instr := (bif Nat.blt b 1 then c_2257_0 else (bif Nat.blt b 2 then c_2257_1 else c_2257_2))
def cb_2265 (b : Nat) : List Instr := (bif Nat.blt b 1 then c_2265_0 else c_2265_1)
def cb_2273 (b : Nat) : List Instr := c_2273_0
def cb_2281 (b : Nat) : List Instr := (bif Nat.blt b 27 then (bif Nat.blt b 13 then (bif Nat.blt b 6 then (bif Nat.blt b 3 then (bif Nat.blt b 1 then c_2281_0 else (bif Nat.blt b 2 then c_2281_1 else c_2281_2)) else (bif Nat.blt b 4 then c_2281_3 else (bif Nat.blt b 5 then c_2281_4 else c_2281_5))) else (bif Nat.blt b 9 then (bif Nat.blt b 7 then c_2281_6 else (bif Nat.blt b 8 then c_2281_7 else c_2281_8)) else (bif Nat.blt b 11 then (bif Nat.blt b 10 then c_2281_9 else c_2281_10) else (bif Nat.blt b 12 then c_2281_11 else c_2281_12)))) else (bif Nat.blt b 20 then (bif Nat.blt b 16 then (bif Nat.blt b 14 then c_2281_13 else (bif Nat.blt b 15 then c_2281_14 else c_2281_15)) else (bif Nat.blt b 18 then (bif Nat.blt b 17 then c_2281_16 else c_2281_17) else (bif Nat.blt b 19 then c_2281_18 else c_2281_19))) else (bif Nat.blt b 23 then (bif Nat.blt b 21 then c_2281_20 else (bif Nat.blt b 22 then c_2281_21 else c_2281_22)) else (bif Nat.blt b 25 then (bif Nat.blt b 24 then c_2281_23 else c_2281_24) else (bif Nat.blt b 26 then c_2281_25 else c_2281_26))))) else (bif Nat.blt b 41 then (bif Nat.blt b 34 then (bif Nat.blt b 30 then (bif Nat.blt b 28 then c_2281_27 else (bif Nat.blt b 29 then c_2281_28 else c_2281_29)) else (bif Nat.blt b 32 then (bif Nat.blt b 31 then c_2281_30 else c_2281_31) else (bif Nat.blt b 33 then c_2281_32 else c_2281_33))) else (bif Nat.blt b 37 then (bif Nat.blt b 35 then c_2281_34 else (bif Nat.blt b 36 then c_2281_35 else c_2281_36)) else (bif Nat.blt b 39 then (bif Nat.blt b 38 then c_2281_37 else c_2281_38) else (bif Nat.blt b 40 then c_2281_39 else c_2281_40)))) else (bif Nat.blt b 48 then (bif Nat.blt b 44 then (bif Nat.blt b 42 then c_2281_41 else (bif Nat.blt b 43 then c_2281_42 else c_2281_43)) else (bif Nat.blt b 46 then (bif Nat.blt b 45 then c_2281_44 else c_2281_45) else (bif Nat.blt b 47 then c_2281_46 else c_2281_47))) else (bif Nat.blt b 51 then (bif Nat.blt b 49 then c_2281_48 else (bif Nat.blt b 50 then c_2281_49 else c_2281_50)) else (bif Nat.blt b 53 then (bif Nat.blt b 52 then c_2281_51 else c_2281_52) else (bif Nat.blt b 54 then c_2281_53 else c_2281_54))))))
def pnb (m : Nat) : Nat := (bif Nat.blt m 1144 then (bif Nat.blt m 568 then (bif Nat.blt m 282 then (bif Nat.blt m 137 then (bif Nat.blt m 66 then (bif Nat.blt m 32 then (bif Nat.blt m 18 then (bif Nat.blt m 8 then 3 else 1) else (bif Nat.blt m 27 then 5 else 4)) else (bif Nat.blt m 51 then (bif Nat.blt m 42 then 2 else 3) else (bif Nat.blt m 57 then 1 else 3))) else (bif Nat.blt m 98 then (bif Nat.blt m 82 then (bif Nat.blt m 73 then 3 else 1) else (bif Nat.blt m 89 then 3 else 1)) else (bif Nat.blt m 113 then (bif Nat.blt m 106 then 6 else 7) else (bif Nat.blt m 123 then 1 else (bif Nat.blt m 132 then 7 else 4))))) else (bif Nat.blt m 209 then (bif Nat.blt m 170 then (bif Nat.blt m 153 then (bif Nat.blt m 146 then 1 else 10) else (bif Nat.blt m 163 then 1 else 3)) else (bif Nat.blt m 185 then (bif Nat.blt m 178 then 3 else 3) else (bif Nat.blt m 194 then 3 else (bif Nat.blt m 201 then 4 else 3)))) else (bif Nat.blt m 241 then (bif Nat.blt m 225 then (bif Nat.blt m 218 then 4 else 3) else (bif Nat.blt m 233 then 4 else 4)) else (bif Nat.blt m 256 then (bif Nat.blt m 249 then 3 else 1) else (bif Nat.blt m 266 then 1 else (bif Nat.blt m 273 then 6 else 8)))))) else (bif Nat.blt m 426 then (bif Nat.blt m 354 then (bif Nat.blt m 315 then (bif Nat.blt m 298 then (bif Nat.blt m 288 then 3 else 4) else (bif Nat.blt m 306 then 3 else 1)) else (bif Nat.blt m 331 then (bif Nat.blt m 323 then 7 else 4) else (bif Nat.blt m 339 then 8 else (bif Nat.blt m 344 then 3 else 6)))) else (bif Nat.blt m 384 then (bif Nat.blt m 369 then (bif Nat.blt m 361 then 6 else 1) else (bif Nat.blt m 376 then 9 else 4)) else (bif Nat.blt m 400 then (bif Nat.blt m 394 then 4 else 9) else (bif Nat.blt m 411 then 4 else (bif Nat.blt m 418 then 6 else 3))))) else (bif Nat.blt m 499 then (bif Nat.blt m 458 then (bif Nat.blt m 443 then (bif Nat.blt m 435 then 3 else 7) else (bif Nat.blt m 450 then 5 else 7)) else (bif Nat.blt m 475 then (bif Nat.blt m 466 then 3 else 4) else (bif Nat.blt m 481 then 3 else (bif Nat.blt m 492 then 7 else 9)))) else (bif Nat.blt m 529 then (bif Nat.blt m 515 then (bif Nat.blt m 507 then 6 else 4) else (bif Nat.blt m 523 then 7 else 10)) else (bif Nat.blt m 547 then (bif Nat.blt m 538 then 1 else 11) else (bif Nat.blt m 553 then 10 else (bif Nat.blt m 561 then 3 else 9))))))) else (bif Nat.blt m 857 then (bif Nat.blt m 713 then (bif Nat.blt m 641 then (bif Nat.blt m 602 then (bif Nat.blt m 584 then (bif Nat.blt m 576 then 1 else 2) else (bif Nat.blt m 593 then 1 else 7)) else (bif Nat.blt m 616 then (bif Nat.blt m 611 then 5 else 3) else (bif Nat.blt m 624 then 4 else (bif Nat.blt m 633 then 16 else 3)))) else (bif Nat.blt m 673 then (bif Nat.blt m 656 then (bif Nat.blt m 649 then 1 else 1) else (bif Nat.blt m 664 then 7 else 8)) else (bif Nat.blt m 690 then (bif Nat.blt m 681 then 3 else 5) else (bif Nat.blt m 697 then 4 else (bif Nat.blt m 704 then 4 else 4))))) else (bif Nat.blt m 785 then (bif Nat.blt m 744 then (bif Nat.blt m 728 then (bif Nat.blt m 720 then 3 else 8) else (bif Nat.blt m 736 then 4 else 7)) else (bif Nat.blt m 762 then (bif Nat.blt m 752 then 2 else 2) else (bif Nat.blt m 770 then 3 else (bif Nat.blt m 778 then 7 else 1)))) else (bif Nat.blt m 817 then (bif Nat.blt m 801 then (bif Nat.blt m 794 then 3 else 3) else (bif Nat.blt m 810 then 1 else 3)) else (bif Nat.blt m 834 then (bif Nat.blt m 826 then 1 else 5) else (bif Nat.blt m 842 then 1 else (bif Nat.blt m 849 then 5 else 1)))))) else (bif Nat.blt m 1001 then (bif Nat.blt m 931 then (bif Nat.blt m 891 then (bif Nat.blt m 876 then (bif Nat.blt m 867 then 3 else 7) else (bif Nat.blt m 882 then 6 else 3)) else (bif Nat.blt m 905 then (bif Nat.blt m 898 then 1 else 5) else (bif Nat.blt m 914 then 1 else (bif Nat.blt m 921 then 1 else 3)))) else (bif Nat.blt m 962 then (bif Nat.blt m 946 then (bif Nat.blt m 938 then 3 else 3) else (bif Nat.blt m 953 then 3 else 3)) else (bif Nat.blt m 977 then (bif Nat.blt m 970 then 3 else 13) else (bif Nat.blt m 985 then 3 else (bif Nat.blt m 993 then 8 else 3))))) else (bif Nat.blt m 1073 then (bif Nat.blt m 1034 then (bif Nat.blt m 1019 then (bif Nat.blt m 1009 then 3 else 7) else (bif Nat.blt m 1027 then 1 else 4)) else (bif Nat.blt m 1049 then (bif Nat.blt m 1041 then 3 else 4) else (bif Nat.blt m 1056 then 4 else (bif Nat.blt m 1065 then 9 else 3)))) else (bif Nat.blt m 1104 then (bif Nat.blt m 1089 then (bif Nat.blt m 1080 then 4 else 1) else (bif Nat.blt m 1096 then 1 else 1)) else (bif Nat.blt m 1121 then (bif Nat.blt m 1114 then 3 else 7) else (bif Nat.blt m 1129 then 7 else (bif Nat.blt m 1136 then 7 else 5)))))))) else (bif Nat.blt m 1713 then (bif Nat.blt m 1427 then (bif Nat.blt m 1283 then (bif Nat.blt m 1210 then (bif Nat.blt m 1178 then (bif Nat.blt m 1162 then (bif Nat.blt m 1154 then 5 else 3) else (bif Nat.blt m 1169 then 7 else 3)) else (bif Nat.blt m 1195 then (bif Nat.blt m 1187 then 7 else 5) else (bif Nat.blt m 1200 then 13 else 7))) else (bif Nat.blt m 1240 then (bif Nat.blt m 1226 then (bif Nat.blt m 1217 then 20 else 1) else (bif Nat.blt m 1233 then 16 else 3)) else (bif Nat.blt m 1258 then (bif Nat.blt m 1251 then 5 else 7) else (bif Nat.blt m 1266 then 3 else (bif Nat.blt m 1275 then 3 else 5))))) else (bif Nat.blt m 1354 then (bif Nat.blt m 1314 then (bif Nat.blt m 1298 then (bif Nat.blt m 1290 then 5 else 3) else (bif Nat.blt m 1306 then 5 else 7)) else (bif Nat.blt m 1331 then (bif Nat.blt m 1322 then 3 else 3) else (bif Nat.blt m 1337 then 2 else (bif Nat.blt m 1348 then 5 else 8)))) else (bif Nat.blt m 1387 then (bif Nat.blt m 1371 then (bif Nat.blt m 1363 then 4 else 8) else (bif Nat.blt m 1379 then 7 else 6)) else (bif Nat.blt m 1402 then (bif Nat.blt m 1394 then 10 else 5) else (bif Nat.blt m 1409 then 9 else (bif Nat.blt m 1418 then 6 else 5)))))) else (bif Nat.blt m 1569 then (bif Nat.blt m 1497 then (bif Nat.blt m 1457 then (bif Nat.blt m 1441 then (bif Nat.blt m 1433 then 11 else 5) else (bif Nat.blt m 1449 then 1 else 2)) else (bif Nat.blt m 1473 then (bif Nat.blt m 1465 then 1 else 4) else (bif Nat.blt m 1481 then 1 else (bif Nat.blt m 1489 then 5 else 2)))) else (bif Nat.blt m 1528 then (bif Nat.blt m 1513 then (bif Nat.blt m 1505 then 4 else 1) else (bif Nat.blt m 1521 then 3 else 9)) else (bif Nat.blt m 1544 then (bif Nat.blt m 1536 then 5 else 3) else (bif Nat.blt m 1552 then 5 else (bif Nat.blt m 1560 then 1 else 2))))) else (bif Nat.blt m 1641 then (bif Nat.blt m 1601 then (bif Nat.blt m 1588 then (bif Nat.blt m 1576 then 1 else 7) else (bif Nat.blt m 1593 then 3 else 1)) else (bif Nat.blt m 1617 then (bif Nat.blt m 1609 then 1 else 3) else (bif Nat.blt m 1626 then 3 else (bif Nat.blt m 1633 then 1 else 1)))) else (bif Nat.blt m 1672 then (bif Nat.blt m 1657 then (bif Nat.blt m 1649 then 1 else 3) else (bif Nat.blt m 1664 then 5 else 7)) else (bif Nat.blt m 1688 then (bif Nat.blt m 1681 then 3 else 3) else (bif Nat.blt m 1696 then 1 else (bif Nat.blt m 1704 then 3 else 4))))))) else (bif Nat.blt m 2002 then (bif Nat.blt m 1857 then (bif Nat.blt m 1784 then (bif Nat.blt m 1744 then (bif Nat.blt m 1730 then (bif Nat.blt m 1722 then 1 else 4) else (bif Nat.blt m 1737 then 4 else 4)) else (bif Nat.blt m 1760 then (bif Nat.blt m 1752 then 4 else 4) else (bif Nat.blt m 1769 then 1 else (bif Nat.blt m 1777 then 2 else 6)))) else (bif Nat.blt m 1817 then (bif Nat.blt m 1801 then (bif Nat.blt m 1793 then 7 else 3) else (bif Nat.blt m 1808 then 3 else 5)) else (bif Nat.blt m 1833 then (bif Nat.blt m 1825 then 11 else 7) else (bif Nat.blt m 1842 then 6 else (bif Nat.blt m 1850 then 7 else 3))))) else (bif Nat.blt m 1930 then (bif Nat.blt m 1888 then (bif Nat.blt m 1873 then (bif Nat.blt m 1864 then 1 else 3) else (bif Nat.blt m 1884 then 5 else 3)) else (bif Nat.blt m 1905 then (bif Nat.blt m 1897 then 4 else 6) else (bif Nat.blt m 1913 then 3 else (bif Nat.blt m 1920 then 2 else 1)))) else (bif Nat.blt m 1960 then (bif Nat.blt m 1946 then (bif Nat.blt m 1937 then 1 else 2) else (bif Nat.blt m 1953 then 1 else 4)) else (bif Nat.blt m 1978 then (bif Nat.blt m 1971 then 1 else 1) else (bif Nat.blt m 1985 then 1 else (bif Nat.blt m 1994 then 3 else 1)))))) else (bif Nat.blt m 2146 then (bif Nat.blt m 2075 then (bif Nat.blt m 2035 then (bif Nat.blt m 2018 then (bif Nat.blt m 2010 then 1 else 2) else (bif Nat.blt m 2024 then 1 else 1)) else (bif Nat.blt m 2049 then (bif Nat.blt m 2042 then 1 else 1) else (bif Nat.blt m 2058 then 4 else (bif Nat.blt m 2064 then 1 else 1)))) else (bif Nat.blt m 2106 then (bif Nat.blt m 2089 then (bif Nat.blt m 2082 then 1 else 1) else (bif Nat.blt m 2098 then 4 else 1)) else (bif Nat.blt m 2123 then (bif Nat.blt m 2112 then 1 else 1) else (bif Nat.blt m 2130 then 3 else (bif Nat.blt m 2137 then 3 else 4))))) else (bif Nat.blt m 2219 then (bif Nat.blt m 2178 then (bif Nat.blt m 2160 then (bif Nat.blt m 2154 then 1 else 1) else (bif Nat.blt m 2171 then 1 else 1)) else (bif Nat.blt m 2194 then (bif Nat.blt m 2185 then 1 else 4) else (bif Nat.blt m 2202 then 1 else (bif Nat.blt m 2208 then 1 else 1)))) else (bif Nat.blt m 2250 then (bif Nat.blt m 2233 then (bif Nat.blt m 2226 then 3 else 1) else (bif Nat.blt m 2242 then 4 else 1)) else (bif Nat.blt m 2265 then (bif Nat.blt m 2257 then 1 else 3) else (bif Nat.blt m 2273 then 2 else (bif Nat.blt m 2281 then 1 else 55)))))))))
def pblk (m b : Nat) : List Instr := (bif Nat.blt m 1144 then (bif Nat.blt m 568 then (bif Nat.blt m 282 then (bif Nat.blt m 137 then (bif Nat.blt m 66 then (bif Nat.blt m 32 then (bif Nat.blt m 18 then (bif Nat.blt m 8 then cb_0 b else cb_8 b) else (bif Nat.blt m 27 then cb_18 b else cb_27 b)) else (bif Nat.blt m 51 then (bif Nat.blt m 42 then cb_32 b else cb_42 b) else (bif Nat.blt m 57 then cb_51 b else cb_57 b))) else (bif Nat.blt m 98 then (bif Nat.blt m 82 then (bif Nat.blt m 73 then cb_66 b else cb_73 b) else (bif Nat.blt m 89 then cb_82 b else cb_89 b)) else (bif Nat.blt m 113 then (bif Nat.blt m 106 then cb_98 b else cb_106 b) else (bif Nat.blt m 123 then cb_113 b else (bif Nat.blt m 132 then cb_123 b else cb_132 b))))) else (bif Nat.blt m 209 then (bif Nat.blt m 170 then (bif Nat.blt m 153 then (bif Nat.blt m 146 then cb_137 b else cb_146 b) else (bif Nat.blt m 163 then cb_153 b else cb_163 b)) else (bif Nat.blt m 185 then (bif Nat.blt m 178 then cb_170 b else cb_178 b) else (bif Nat.blt m 194 then cb_185 b else (bif Nat.blt m 201 then cb_194 b else cb_201 b)))) else (bif Nat.blt m 241 then (bif Nat.blt m 225 then (bif Nat.blt m 218 then cb_209 b else cb_218 b) else (bif Nat.blt m 233 then cb_225 b else cb_233 b)) else (bif Nat.blt m 256 then (bif Nat.blt m 249 then cb_241 b else cb_249 b) else (bif Nat.blt m 266 then cb_256 b else (bif Nat.blt m 273 then cb_266 b else cb_273 b)))))) else (bif Nat.blt m 426 then (bif Nat.blt m 354 then (bif Nat.blt m 315 then (bif Nat.blt m 298 then (bif Nat.blt m 288 then cb_282 b else cb_288 b) else (bif Nat.blt m 306 then cb_298 b else cb_306 b)) else (bif Nat.blt m 331 then (bif Nat.blt m 323 then cb_315 b else cb_323 b) else (bif Nat.blt m 339 then cb_331 b else (bif Nat.blt m 344 then cb_339 b else cb_344 b)))) else (bif Nat.blt m 384 then (bif Nat.blt m 369 then (bif Nat.blt m 361 then cb_354 b else cb_361 b) else (bif Nat.blt m 376 then cb_369 b else cb_376 b)) else (bif Nat.blt m 400 then (bif Nat.blt m 394 then cb_384 b else cb_394 b) else (bif Nat.blt m 411 then cb_400 b else (bif Nat.blt m 418 then cb_411 b else cb_418 b))))) else (bif Nat.blt m 499 then (bif Nat.blt m 458 then (bif Nat.blt m 443 then (bif Nat.blt m 435 then cb_426 b else cb_435 b) else (bif Nat.blt m 450 then cb_443 b else cb_450 b)) else (bif Nat.blt m 475 then (bif Nat.blt m 466 then cb_458 b else cb_466 b) else (bif Nat.blt m 481 then cb_475 b else (bif Nat.blt m 492 then cb_481 b else cb_492 b)))) else (bif Nat.blt m 529 then (bif Nat.blt m 515 then (bif Nat.blt m 507 then cb_499 b else cb_507 b) else (bif Nat.blt m 523 then cb_515 b else cb_523 b)) else (bif Nat.blt m 547 then (bif Nat.blt m 538 then cb_529 b else cb_538 b) else (bif Nat.blt m 553 then cb_547 b else (bif Nat.blt m 561 then cb_553 b else cb_561 b))))))) else (bif Nat.blt m 857 then (bif Nat.blt m 713 then (bif Nat.blt m 641 then (bif Nat.blt m 602 then (bif Nat.blt m 584 then (bif Nat.blt m 576 then cb_568 b else cb_576 b) else (bif Nat.blt m 593 then cb_584 b else cb_593 b)) else (bif Nat.blt m 616 then (bif Nat.blt m 611 then cb_602 b else cb_611 b) else (bif Nat.blt m 624 then cb_616 b else (bif Nat.blt m 633 then cb_624 b else cb_633 b)))) else (bif Nat.blt m 673 then (bif Nat.blt m 656 then (bif Nat.blt m 649 then cb_641 b else cb_649 b) else (bif Nat.blt m 664 then cb_656 b else cb_664 b)) else (bif Nat.blt m 690 then (bif Nat.blt m 681 then cb_673 b else cb_681 b) else (bif Nat.blt m 697 then cb_690 b else (bif Nat.blt m 704 then cb_697 b else cb_704 b))))) else (bif Nat.blt m 785 then (bif Nat.blt m 744 then (bif Nat.blt m 728 then (bif Nat.blt m 720 then cb_713 b else cb_720 b) else (bif Nat.blt m 736 then cb_728 b else cb_736 b)) else (bif Nat.blt m 762 then (bif Nat.blt m 752 then cb_744 b else cb_752 b) else (bif Nat.blt m 770 then cb_762 b else (bif Nat.blt m 778 then cb_770 b else cb_778 b)))) else (bif Nat.blt m 817 then (bif Nat.blt m 801 then (bif Nat.blt m 794 then cb_785 b else cb_794 b) else (bif Nat.blt m 810 then cb_801 b else cb_810 b)) else (bif Nat.blt m 834 then (bif Nat.blt m 826 then cb_817 b else cb_826 b) else (bif Nat.blt m 842 then cb_834 b else (bif Nat.blt m 849 then cb_842 b else cb_849 b)))))) else (bif Nat.blt m 1001 then (bif Nat.blt m 931 then (bif Nat.blt m 891 then (bif Nat.blt m 876 then (bif Nat.blt m 867 then cb_857 b else cb_867 b) else (bif Nat.blt m 882 then cb_876 b else cb_882 b)) else (bif Nat.blt m 905 then (bif Nat.blt m 898 then cb_891 b else cb_898 b) else (bif Nat.blt m 914 then cb_905 b else (bif Nat.blt m 921 then cb_914 b else cb_921 b)))) else (bif Nat.blt m 962 then (bif Nat.blt m 946 then (bif Nat.blt m 938 then cb_931 b else cb_938 b) else (bif Nat.blt m 953 then cb_946 b else cb_953 b)) else (bif Nat.blt m 977 then (bif Nat.blt m 970 then cb_962 b else cb_970 b) else (bif Nat.blt m 985 then cb_977 b else (bif Nat.blt m 993 then cb_985 b else cb_993 b))))) else (bif Nat.blt m 1073 then (bif Nat.blt m 1034 then (bif Nat.blt m 1019 then (bif Nat.blt m 1009 then cb_1001 b else cb_1009 b) else (bif Nat.blt m 1027 then cb_1019 b else cb_1027 b)) else (bif Nat.blt m 1049 then (bif Nat.blt m 1041 then cb_1034 b else cb_1041 b) else (bif Nat.blt m 1056 then cb_1049 b else (bif Nat.blt m 1065 then cb_1056 b else cb_1065 b)))) else (bif Nat.blt m 1104 then (bif Nat.blt m 1089 then (bif Nat.blt m 1080 then cb_1073 b else cb_1080 b) else (bif Nat.blt m 1096 then cb_1089 b else cb_1096 b)) else (bif Nat.blt m 1121 then (bif Nat.blt m 1114 then cb_1104 b else cb_1114 b) else (bif Nat.blt m 1129 then cb_1121 b else (bif Nat.blt m 1136 then cb_1129 b else cb_1136 b)))))))) else (bif Nat.blt m 1713 then (bif Nat.blt m 1427 then (bif Nat.blt m 1283 then (bif Nat.blt m 1210 then (bif Nat.blt m 1178 then (bif Nat.blt m 1162 then (bif Nat.blt m 1154 then cb_1144 b else cb_1154 b) else (bif Nat.blt m 1169 then cb_1162 b else cb_1169 b)) else (bif Nat.blt m 1195 then (bif Nat.blt m 1187 then cb_1178 b else cb_1187 b) else (bif Nat.blt m 1200 then cb_1195 b else cb_1200 b))) else (bif Nat.blt m 1240 then (bif Nat.blt m 1226 then (bif Nat.blt m 1217 then cb_1210 b else cb_1217 b) else (bif Nat.blt m 1233 then cb_1226 b else cb_1233 b)) else (bif Nat.blt m 1258 then (bif Nat.blt m 1251 then cb_1240 b else cb_1251 b) else (bif Nat.blt m 1266 then cb_1258 b else (bif Nat.blt m 1275 then cb_1266 b else cb_1275 b))))) else (bif Nat.blt m 1354 then (bif Nat.blt m 1314 then (bif Nat.blt m 1298 then (bif Nat.blt m 1290 then cb_1283 b else cb_1290 b) else (bif Nat.blt m 1306 then cb_1298 b else cb_1306 b)) else (bif Nat.blt m 1331 then (bif Nat.blt m 1322 then cb_1314 b else cb_1322 b) else (bif Nat.blt m 1337 then cb_1331 b else (bif Nat.blt m 1348 then cb_1337 b else cb_1348 b)))) else (bif Nat.blt m 1387 then (bif Nat.blt m 1371 then (bif Nat.blt m 1363 then cb_1354 b else cb_1363 b) else (bif Nat.blt m 1379 then cb_1371 b else cb_1379 b)) else (bif Nat.blt m 1402 then (bif Nat.blt m 1394 then cb_1387 b else cb_1394 b) else (bif Nat.blt m 1409 then cb_1402 b else (bif Nat.blt m 1418 then cb_1409 b else cb_1418 b)))))) else (bif Nat.blt m 1569 then (bif Nat.blt m 1497 then (bif Nat.blt m 1457 then (bif Nat.blt m 1441 then (bif Nat.blt m 1433 then cb_1427 b else cb_1433 b) else (bif Nat.blt m 1449 then cb_1441 b else cb_1449 b)) else (bif Nat.blt m 1473 then (bif Nat.blt m 1465 then cb_1457 b else cb_1465 b) else (bif Nat.blt m 1481 then cb_1473 b else (bif Nat.blt m 1489 then cb_1481 b else cb_1489 b)))) else (bif Nat.blt m 1528 then (bif Nat.blt m 1513 then (bif Nat.blt m 1505 then cb_1497 b else cb_1505 b) else (bif Nat.blt m 1521 then cb_1513 b else cb_1521 b)) else (bif Nat.blt m 1544 then (bif Nat.blt m 1536 then cb_1528 b else cb_1536 b) else (bif Nat.blt m 1552 then cb_1544 b else (bif Nat.blt m 1560 then cb_1552 b else cb_1560 b))))) else (bif Nat.blt m 1641 then (bif Nat.blt m 1601 then (bif Nat.blt m 1588 then (bif Nat.blt m 1576 then cb_1569 b else cb_1576 b) else (bif Nat.blt m 1593 then cb_1588 b else cb_1593 b)) else (bif Nat.blt m 1617 then (bif Nat.blt m 1609 then cb_1601 b else cb_1609 b) else (bif Nat.blt m 1626 then cb_1617 b else (bif Nat.blt m 1633 then cb_1626 b else cb_1633 b)))) else (bif Nat.blt m 1672 then (bif Nat.blt m 1657 then (bif Nat.blt m 1649 then cb_1641 b else cb_1649 b) else (bif Nat.blt m 1664 then cb_1657 b else cb_1664 b)) else (bif Nat.blt m 1688 then (bif Nat.blt m 1681 then cb_1672 b else cb_1681 b) else (bif Nat.blt m 1696 then cb_1688 b else (bif Nat.blt m 1704 then cb_1696 b else cb_1704 b))))))) else (bif Nat.blt m 2002 then (bif Nat.blt m 1857 then (bif Nat.blt m 1784 then (bif Nat.blt m 1744 then (bif Nat.blt m 1730 then (bif Nat.blt m 1722 then cb_1713 b else cb_1722 b) else (bif Nat.blt m 1737 then cb_1730 b else cb_1737 b)) else (bif Nat.blt m 1760 then (bif Nat.blt m 1752 then cb_1744 b else cb_1752 b) else (bif Nat.blt m 1769 then cb_1760 b else (bif Nat.blt m 1777 then cb_1769 b else cb_1777 b)))) else (bif Nat.blt m 1817 then (bif Nat.blt m 1801 then (bif Nat.blt m 1793 then cb_1784 b else cb_1793 b) else (bif Nat.blt m 1808 then cb_1801 b else cb_1808 b)) else (bif Nat.blt m 1833 then (bif Nat.blt m 1825 then cb_1817 b else cb_1825 b) else (bif Nat.blt m 1842 then cb_1833 b else (bif Nat.blt m 1850 then cb_1842 b else cb_1850 b))))) else (bif Nat.blt m 1930 then (bif Nat.blt m 1888 then (bif Nat.blt m 1873 then (bif Nat.blt m 1864 then cb_1857 b else cb_1864 b) else (bif Nat.blt m 1884 then cb_1873 b else cb_1884 b)) else (bif Nat.blt m 1905 then (bif Nat.blt m 1897 then cb_1888 b else cb_1897 b) else (bif Nat.blt m 1913 then cb_1905 b else (bif Nat.blt m 1920 then cb_1913 b else cb_1920 b)))) else (bif Nat.blt m 1960 then (bif Nat.blt m 1946 then (bif Nat.blt m 1937 then cb_1930 b else cb_1937 b) else (bif Nat.blt m 1953 then cb_1946 b else cb_1953 b)) else (bif Nat.blt m 1978 then (bif Nat.blt m 1971 then cb_1960 b else cb_1971 b) else (bif Nat.blt m 1985 then cb_1978 b else (bif Nat.blt m 1994 then cb_1985 b else cb_1994 b)))))) else (bif Nat.blt m 2146 then (bif Nat.blt m 2075 then (bif Nat.blt m 2035 then (bif Nat.blt m 2018 then (bif Nat.blt m 2010 then cb_2002 b else cb_2010 b) else (bif Nat.blt m 2024 then cb_2018 b else cb_2024 b)) else (bif Nat.blt m 2049 then (bif Nat.blt m 2042 then cb_2035 b else cb_2042 b) else (bif Nat.blt m 2058 then cb_2049 b else (bif Nat.blt m 2064 then cb_2058 b else cb_2064 b)))) else (bif Nat.blt m 2106 then (bif Nat.blt m 2089 then (bif Nat.blt m 2082 then cb_2075 b else cb_2082 b) else (bif Nat.blt m 2098 then cb_2089 b else cb_2098 b)) else (bif Nat.blt m 2123 then (bif Nat.blt m 2112 then cb_2106 b else cb_2112 b) else (bif Nat.blt m 2130 then cb_2123 b else (bif Nat.blt m 2137 then cb_2130 b else cb_2137 b))))) else (bif Nat.blt m 2219 then (bif Nat.blt m 2178 then (bif Nat.blt m 2160 then (bif Nat.blt m 2154 then cb_2146 b else cb_2154 b) else (bif Nat.blt m 2171 then cb_2160 b else cb_2171 b)) else (bif Nat.blt m 2194 then (bif Nat.blt m 2185 then cb_2178 b else cb_2185 b) else (bif Nat.blt m 2202 then cb_2194 b else (bif Nat.blt m 2208 then cb_2202 b else cb_2208 b)))) else (bif Nat.blt m 2250 then (bif Nat.blt m 2233 then (bif Nat.blt m 2226 then cb_2219 b else cb_2226 b) else (bif Nat.blt m 2242 then cb_2233 b else cb_2242 b)) else (bif Nat.blt m 2265 then (bif Nat.blt m 2257 then cb_2250 b else cb_2257 b) else (bif Nat.blt m 2273 then cb_2265 b else (bif Nat.blt m 2281 then cb_2273 b else cb_2281 b)))))))))
def pbsel (x t : Nat) : Nat := (bif Nat.blt x 32 then (bif Nat.blt x 16 then (bif Nat.blt x 8 then (bif Nat.beq t 10 then 2137 else (bif Nat.beq t 7 then 2049 else (bif Nat.beq t 5 then 2233 else (bif Nat.beq t 4 then 2089 else (bif Nat.beq t 3 then 2185 else (bif Nat.beq t 2 then 1985 else 0)))))) else (bif Nat.beq t 10 then 2146 else (bif Nat.beq t 7 then 1994 else (bif Nat.beq t 5 then 1994 else (bif Nat.beq t 4 then 2098 else (bif Nat.beq t 3 then 2194 else (bif Nat.beq t 2 then 1994 else 0))))))) else (bif Nat.blt x 24 then (bif Nat.beq t 10 then 2058 else (bif Nat.beq t 7 then 2058 else (bif Nat.beq t 5 then 2002 else (bif Nat.beq t 4 then 2002 else (bif Nat.beq t 3 then 2202 else (bif Nat.beq t 2 then 2002 else 0)))))) else (bif Nat.beq t 10 then 2154 else (bif Nat.beq t 7 then 2010 else (bif Nat.beq t 5 then 2242 else (bif Nat.beq t 4 then 2010 else (bif Nat.beq t 3 then 2010 else (bif Nat.beq t 2 then 2010 else 0)))))))) else (bif Nat.blt x 48 then (bif Nat.blt x 40 then (bif Nat.beq t 10 then 2018 else (bif Nat.beq t 7 then 2018 else (bif Nat.beq t 5 then 2250 else (bif Nat.beq t 4 then 2106 else (bif Nat.beq t 3 then 2106 else (bif Nat.beq t 2 then 2018 else 0)))))) else (bif Nat.beq t 10 then 2123 else (bif Nat.beq t 7 then 2035 else (bif Nat.beq t 5 then 2219 else (bif Nat.beq t 4 then 2075 else (bif Nat.beq t 3 then 2171 else (bif Nat.beq t 2 then 1971 else 0))))))) else (bif Nat.blt x 56 then (bif Nat.beq t 10 then 2130 else (bif Nat.beq t 7 then 2042 else (bif Nat.beq t 5 then 2226 else (bif Nat.beq t 4 then 2082 else (bif Nat.beq t 3 then 2178 else (bif Nat.beq t 2 then 1978 else 0)))))) else (bif Nat.blt x 64 then (bif Nat.beq t 4 then 2010 else (bif Nat.beq t 3 then 2010 else 0)) else (bif Nat.beq t 5 then 1994 else 0)))))
end
section
/-! printed likewise: classes by tag, methods by number, where a block stands, and the words by place -/
def pC (t : Nat) : String := match t with
  | 1 => "DreamNets$Acting"
  | 2 => "DreamNets$Boat"
  | 3 => "DreamNets$Dredger"
  | 4 => "DreamNets$Drifter"
  | 5 => "DreamNets$Poacher"
  | 6 => "DreamNets$Search"
  | 7 => "DreamNets$Seiner"
  | 8 => "DreamNets$Sheet"
  | 9 => "DreamNets$Tape"
  | 10 => "DreamNets$Tug"
  | 11 => "DreamNets$World"
  | 12 => "DreamNets"
  | 13 => "DreamNetsModel"
  | _ => ""
def pNf (t : Nat) : Nat := match t with
  | 1 => 5
  | 2 => 0
  | 3 => 0
  | 4 => 0
  | 5 => 0
  | 6 => 6
  | 7 => 0
  | 8 => 2
  | 9 => 6
  | 10 => 0
  | 11 => 18
  | 12 => 13
  | 13 => 36
  | _ => 0
def pT_1 : u_T := fun k => match k with
  | 0 => ("DreamNets$Acting", "trace", "[I", true)
  | 1 => ("DreamNets$Acting", "bodies", "I", false)
  | 2 => ("DreamNets$Acting", "n", "I", false)
  | 3 => ("DreamNets$Acting", "a", "I", false)
  | _ => ("DreamNets$Acting", "parted", "Z", false)
def pTy_1 : Nat → FieldType := fun k => match k with
  | 0 => (.array .int)
  | 1 => .int
  | 2 => .int
  | 3 => .int
  | _ => .boolean
def pK_1 : Nat → Nat := fun k => match k with
  | 0 => 2
  | 1 => 0
  | 2 => 0
  | 3 => 0
  | _ => 3
def pT_2 : u_T := fun k => match k with
  | _ => ("", "", "", false)
def pTy_2 : Nat → FieldType := fun k => match k with
  | _ => .int
def pK_2 : Nat → Nat := fun k => match k with
  | _ => 0
def pT_3 : u_T := fun k => match k with
  | _ => ("", "", "", false)
def pTy_3 : Nat → FieldType := fun k => match k with
  | _ => .int
def pK_3 : Nat → Nat := fun k => match k with
  | _ => 0
def pT_4 : u_T := fun k => match k with
  | _ => ("", "", "", false)
def pTy_4 : Nat → FieldType := fun k => match k with
  | _ => .int
def pK_4 : Nat → Nat := fun k => match k with
  | _ => 0
def pT_5 : u_T := fun k => match k with
  | _ => ("", "", "", false)
def pTy_5 : Nat → FieldType := fun k => match k with
  | _ => .int
def pK_5 : Nat → Nat := fun k => match k with
  | _ => 0
def pT_6 : u_T := fun k => match k with
  | 0 => ("DreamNets$Search", "steps", "[LDreamNets$World;", true)
  | 1 => ("DreamNets$Search", "way", "[I", true)
  | 2 => ("DreamNets$Search", "bestWay", "[I", true)
  | 3 => ("DreamNets$Search", "boat", "I", false)
  | 4 => ("DreamNets$Search", "n", "I", false)
  | _ => ("DreamNets$Search", "bestWorth", "I", false)
def pTy_6 : Nat → FieldType := fun k => match k with
  | 0 => (.array (.object "DreamNets$World"))
  | 1 => (.array .int)
  | 2 => (.array .int)
  | 3 => .int
  | 4 => .int
  | _ => .int
def pK_6 : Nat → Nat := fun k => match k with
  | 0 => 2
  | 1 => 2
  | 2 => 2
  | 3 => 0
  | 4 => 0
  | _ => 0
def pT_7 : u_T := fun k => match k with
  | _ => ("", "", "", false)
def pTy_7 : Nat → FieldType := fun k => match k with
  | _ => .int
def pK_7 : Nat → Nat := fun k => match k with
  | _ => 0
def pT_8 : u_T := fun k => match k with
  | 0 => ("DreamNets$Sheet", "sort", "I", true)
  | _ => ("DreamNets$Sheet", "items", "[J", true)
def pTy_8 : Nat → FieldType := fun k => match k with
  | 0 => .int
  | _ => (.array .long)
def pK_8 : Nat → Nat := fun k => match k with
  | 0 => 0
  | _ => 2
def pT_9 : u_T := fun k => match k with
  | 0 => ("DreamNets$Tape", "bytes", "[I", true)
  | 1 => ("DreamNets$Tape", "end", "I", false)
  | 2 => ("DreamNets$Tape", "start", "I", false)
  | 3 => ("DreamNets$Tape", "next", "I", false)
  | 4 => ("DreamNets$Tape", "token", "I", false)
  | _ => ("DreamNets$Tape", "value", "I", false)
def pTy_9 : Nat → FieldType := fun k => match k with
  | 0 => (.array .int)
  | 1 => .int
  | 2 => .int
  | 3 => .int
  | 4 => .int
  | _ => .int
def pK_9 : Nat → Nat := fun k => match k with
  | 0 => 2
  | 1 => 0
  | 2 => 0
  | 3 => 0
  | 4 => 0
  | _ => 0
def pT_10 : u_T := fun k => match k with
  | _ => ("", "", "", false)
def pTy_10 : Nat → FieldType := fun k => match k with
  | _ => .int
def pK_10 : Nat → Nat := fun k => match k with
  | _ => 0
def pT_11 : u_T := fun k => match k with
  | 0 => ("DreamNets$World", "kinds", "[LDreamNets$Boat;", true)
  | 1 => ("DreamNets$World", "laws", "[I", true)
  | 2 => ("DreamNets$World", "prices", "[I", true)
  | 3 => ("DreamNets$World", "stock", "[I", true)
  | 4 => ("DreamNets$World", "sleepers", "[I", true)
  | 5 => ("DreamNets$World", "lacks", "[I", true)
  | 6 => ("DreamNets$World", "quotas", "[I", true)
  | 7 => ("DreamNets$World", "takenIn", "[I", true)
  | 8 => ("DreamNets$World", "kind", "[I", true)
  | 9 => ("DreamNets$World", "m", "[I", true)
  | 10 => ("DreamNets$World", "at", "[I", true)
  | 11 => ("DreamNets$World", "mesh", "[I", true)
  | 12 => ("DreamNets$World", "torn", "[I", true)
  | 13 => ("DreamNets$World", "holds", "[I", true)
  | 14 => ("DreamNets$World", "boats", "I", false)
  | 15 => ("DreamNets$World", "bell", "I", false)
  | 16 => ("DreamNets$World", "coins", "I", false)
  | _ => ("DreamNets$World", "z", "I", false)
def pTy_11 : Nat → FieldType := fun k => match k with
  | 0 => (.array (.object "DreamNets$Boat"))
  | 1 => (.array .int)
  | 2 => (.array .int)
  | 3 => (.array .int)
  | 4 => (.array .int)
  | 5 => (.array .int)
  | 6 => (.array .int)
  | 7 => (.array .int)
  | 8 => (.array .int)
  | 9 => (.array .int)
  | 10 => (.array .int)
  | 11 => (.array .int)
  | 12 => (.array .int)
  | 13 => (.array .int)
  | 14 => .int
  | 15 => .int
  | 16 => .int
  | _ => .int
def pK_11 : Nat → Nat := fun k => match k with
  | 0 => 2
  | 1 => 2
  | 2 => 2
  | 3 => 2
  | 4 => 2
  | 5 => 2
  | 6 => 2
  | 7 => 2
  | 8 => 2
  | 9 => 2
  | 10 => 2
  | 11 => 2
  | 12 => 2
  | 13 => 2
  | 14 => 0
  | 15 => 0
  | 16 => 0
  | _ => 0
def pT_12 : u_T := fun k => match k with
  | 0 => ("DreamNets", "now", "LDreamNets$World;", true)
  | 1 => ("DreamNets", "kept", "LDreamNets$World;", true)
  | 2 => ("DreamNets", "trial", "LDreamNets$World;", true)
  | 3 => ("DreamNets", "search", "LDreamNets$Search;", true)
  | 4 => ("DreamNets", "tape", "LDreamNets$Tape;", true)
  | 5 => ("DreamNets", "acting", "LDreamNets$Acting;", true)
  | 6 => ("DreamNets", "sheets", "[LDreamNets$Sheet;", true)
  | 7 => ("DreamNets", "shelfBoats", "[I", true)
  | 8 => ("DreamNets", "shelfSheets", "[LDreamNets$Sheet;", true)
  | 9 => ("DreamNets", "rows", "[I", true)
  | 10 => ("DreamNets", "fits", "[Z", true)
  | 11 => ("DreamNets", "rowCount", "I", false)
  | _ => ("DreamNets", "hasKept", "Z", false)
def pTy_12 : Nat → FieldType := fun k => match k with
  | 0 => (.object "DreamNets$World")
  | 1 => (.object "DreamNets$World")
  | 2 => (.object "DreamNets$World")
  | 3 => (.object "DreamNets$Search")
  | 4 => (.object "DreamNets$Tape")
  | 5 => (.object "DreamNets$Acting")
  | 6 => (.array (.object "DreamNets$Sheet"))
  | 7 => (.array .int)
  | 8 => (.array (.object "DreamNets$Sheet"))
  | 9 => (.array .int)
  | 10 => (.array .boolean)
  | 11 => .int
  | _ => .boolean
def pK_12 : Nat → Nat := fun k => match k with
  | 0 => 2
  | 1 => 2
  | 2 => 2
  | 3 => 2
  | 4 => 2
  | 5 => 2
  | 6 => 2
  | 7 => 2
  | 8 => 2
  | 9 => 2
  | 10 => 2
  | 11 => 0
  | _ => 3
def pT_13 : u_T := fun k => match k with
  | 0 => ("DreamNetsModel", "row", "[I", true)
  | 1 => ("DreamNetsModel", "fresh", "[I", true)
  | 2 => ("DreamNetsModel", "kept", "[I", true)
  | 3 => ("DreamNetsModel", "tried", "[I", true)
  | 4 => ("DreamNetsModel", "sizeOf", "[I", true)
  | 5 => ("DreamNetsModel", "isKept", "Z", false)
  | 6 => ("DreamNetsModel", "tape", "[I", true)
  | 7 => ("DreamNetsModel", "tapeMany", "I", false)
  | 8 => ("DreamNetsModel", "sort", "I", false)
  | 9 => ("DreamNetsModel", "begins", "I", false)
  | 10 => ("DreamNetsModel", "tokenEnds", "I", false)
  | 11 => ("DreamNetsModel", "word", "J", false)
  | 12 => ("DreamNetsModel", "value", "I", false)
  | 13 => ("DreamNetsModel", "good", "Z", false)
  | 14 => ("DreamNetsModel", "hauled", "I", false)
  | 15 => ("DreamNetsModel", "hauledWorth", "I", false)
  | 16 => ("DreamNetsModel", "drifts", "[I", true)
  | 17 => ("DreamNetsModel", "stops", "[I", true)
  | 18 => ("DreamNetsModel", "stopsNow", "[I", true)
  | 19 => ("DreamNetsModel", "best", "I", false)
  | 20 => ("DreamNetsModel", "isSo", "[Z", true)
  | 21 => ("DreamNetsModel", "rows", "[I", true)
  | 22 => ("DreamNetsModel", "must", "[I", true)
  | 23 => ("DreamNetsModel", "rowMany", "I", false)
  | 24 => ("DreamNetsModel", "sorts", "[I", true)
  | 25 => ("DreamNetsModel", "sizes", "[I", true)
  | 26 => ("DreamNetsModel", "sheets", "[J", true)
  | 27 => ("DreamNetsModel", "holds", "[I", true)
  | 28 => ("DreamNetsModel", "heldNumber", "[I", true)
  | 29 => ("DreamNetsModel", "heldSize", "[I", true)
  | 30 => ("DreamNetsModel", "kind", "I", false)
  | 31 => ("DreamNetsModel", "number", "I", false)
  | 32 => ("DreamNetsModel", "ownM", "I", false)
  | 33 => ("DreamNetsModel", "traced", "[I", true)
  | 34 => ("DreamNetsModel", "bodies", "I", false)
  | _ => ("DreamNetsModel", "isParted", "Z", false)
def pTy_13 : Nat → FieldType := fun k => match k with
  | 0 => (.array .int)
  | 1 => (.array .int)
  | 2 => (.array .int)
  | 3 => (.array .int)
  | 4 => (.array .int)
  | 5 => .boolean
  | 6 => (.array .int)
  | 7 => .int
  | 8 => .int
  | 9 => .int
  | 10 => .int
  | 11 => .long
  | 12 => .int
  | 13 => .boolean
  | 14 => .int
  | 15 => .int
  | 16 => (.array .int)
  | 17 => (.array .int)
  | 18 => (.array .int)
  | 19 => .int
  | 20 => (.array .boolean)
  | 21 => (.array .int)
  | 22 => (.array .int)
  | 23 => .int
  | 24 => (.array .int)
  | 25 => (.array .int)
  | 26 => (.array .long)
  | 27 => (.array .int)
  | 28 => (.array .int)
  | 29 => (.array .int)
  | 30 => .int
  | 31 => .int
  | 32 => .int
  | 33 => (.array .int)
  | 34 => .int
  | _ => .boolean
def pK_13 : Nat → Nat := fun k => match k with
  | 0 => 2
  | 1 => 2
  | 2 => 2
  | 3 => 2
  | 4 => 2
  | 5 => 3
  | 6 => 2
  | 7 => 0
  | 8 => 0
  | 9 => 0
  | 10 => 0
  | 11 => 1
  | 12 => 0
  | 13 => 3
  | 14 => 0
  | 15 => 0
  | 16 => 2
  | 17 => 2
  | 18 => 2
  | 19 => 0
  | 20 => 2
  | 21 => 2
  | 22 => 2
  | 23 => 0
  | 24 => 2
  | 25 => 2
  | 26 => 2
  | 27 => 2
  | 28 => 2
  | 29 => 2
  | 30 => 0
  | 31 => 0
  | 32 => 0
  | 33 => 2
  | 34 => 0
  | _ => 3
def pT (t : Nat) : u_T := match t with
  | 1 => pT_1
  | 2 => pT_2
  | 3 => pT_3
  | 4 => pT_4
  | 5 => pT_5
  | 6 => pT_6
  | 7 => pT_7
  | 8 => pT_8
  | 9 => pT_9
  | 10 => pT_10
  | 11 => pT_11
  | 12 => pT_12
  | 13 => pT_13
  | _ => fun _ => ("", "", "", false)
def pTy (t : Nat) : Nat → FieldType := match t with
  | 1 => pTy_1
  | 2 => pTy_2
  | 3 => pTy_3
  | 4 => pTy_4
  | 5 => pTy_5
  | 6 => pTy_6
  | 7 => pTy_7
  | 8 => pTy_8
  | 9 => pTy_9
  | 10 => pTy_10
  | 11 => pTy_11
  | 12 => pTy_12
  | 13 => pTy_13
  | _ => fun _ => .int
def pK (t : Nat) : Nat → Nat := match t with
  | 1 => pK_1
  | 2 => pK_2
  | 3 => pK_3
  | 4 => pK_4
  | 5 => pK_5
  | 6 => pK_6
  | 7 => pK_7
  | 8 => pK_8
  | 9 => pK_9
  | 10 => pK_10
  | 11 => pK_11
  | 12 => pK_12
  | 13 => pK_13
  | _ => fun _ => 0
def pA (t : Nat) : FieldType := match t with
  | 100 => .int
  | 101 => .boolean
  | 102 => .long
  | 110 => .object "DreamNets$Sheet"
  | 111 => .object "DreamNets$Boat"
  | 112 => .object "DreamNets$World"
  | _ => .int
def pStat (k : Nat) : String := match k with
  | 1 => "FIRST_LAWS"
  | 2 => "FIRST_PRICES"
  | 3 => "LEAST_LAWS"
  | 4 => "MOST_LAWS"
  | 5 => "SIZES"
  | _ => ""
def pStr (k : Nat) : String := match k with
  | 10 => "boat"
  | 11 => "seiner"
  | 12 => "drifter"
  | 13 => "tug"
  | 14 => "dredger"
  | 15 => "poacher"
  | 16 => "at"
  | 17 => "mesh"
  | 18 => "street"
  | 19 => "sleepers"
  | 20 => "flying"
  | 21 => "falling"
  | 22 => "teeth"
  | 23 => "school"
  | 24 => "nightmare"
  | 25 => "price"
  | 26 => "quota"
  | 27 => "wake"
  | _ => ""
def pnm (m : Nat) : MethodName := (bif Nat.blt m 1144 then (bif Nat.blt m 568 then (bif Nat.blt m 282 then (bif Nat.blt m 137 then (bif Nat.blt m 66 then (bif Nat.blt m 32 then (bif Nat.blt m 18 then (bif Nat.blt m 8 then ⟨"DreamNets", "<init>", "()V"⟩ else ⟨"DreamNets", "boatsOfEachKind", "()[LDreamNets$Boat;"⟩) else (bif Nat.blt m 27 then ⟨"DreamNets", "feed", "(JI)I"⟩ else ⟨"DreamNets", "outside", "(III)Z"⟩)) else (bif Nat.blt m 51 then (bif Nat.blt m 42 then ⟨"DreamNets", "harbour", "()I"⟩ else ⟨"DreamNets", "set", "(II)I"⟩) else (bif Nat.blt m 57 then ⟨"DreamNets", "exchange", "([III)I"⟩ else ⟨"DreamNets", "lawOf", "(I)I"⟩))) else (bif Nat.blt m 98 then (bif Nat.blt m 82 then (bif Nat.blt m 73 then ⟨"DreamNets", "price", "(II)I"⟩ else ⟨"DreamNets", "noSort", "(I)Z"⟩) else (bif Nat.blt m 89 then ⟨"DreamNets", "quota", "(II)I"⟩ else ⟨"DreamNets", "noWard", "(I)Z"⟩)) else (bif Nat.blt m 113 then (bif Nat.blt m 106 then ⟨"DreamNets", "ward", "(II)I"⟩ else ⟨"DreamNets", "street", "(II)I"⟩) else (bif Nat.blt m 123 then ⟨"DreamNets", "noStreet", "(I)Z"⟩ else (bif Nat.blt m 132 then ⟨"DreamNets", "sleep", "(III)I"⟩ else ⟨"DreamNets", "boat", "(IIII)I"⟩))))) else (bif Nat.blt m 209 then (bif Nat.blt m 170 then (bif Nat.blt m 153 then (bif Nat.blt m 146 then ⟨"DreamNets", "noKind", "(I)Z"⟩ else ⟨"DreamNets", "of", "(II)I"⟩) else (bif Nat.blt m 163 then ⟨"DreamNets", "noBoat", "(I)Z"⟩ else ⟨"DreamNets", "mind", "(III)I"⟩)) else (bif Nat.blt m 185 then (bif Nat.blt m 178 then ⟨"DreamNets", "move", "(II)I"⟩ else ⟨"DreamNets", "mesh", "(II)I"⟩) else (bif Nat.blt m 194 then ⟨"DreamNets", "patch", "(I)I"⟩ else (bif Nat.blt m 201 then ⟨"DreamNets", "takes", "(II)I"⟩ else ⟨"DreamNets", "tears", "(I)I"⟩)))) else (bif Nat.blt m 241 then (bif Nat.blt m 225 then (bif Nat.blt m 218 then ⟨"DreamNets", "haul", "(I)I"⟩ else ⟨"DreamNets", "free", "(II)I"⟩) else (bif Nat.blt m 233 then ⟨"DreamNets", "land", "(I)I"⟩ else ⟨"DreamNets", "bells", "(I)I"⟩)) else (bif Nat.blt m 256 then (bif Nat.blt m 249 then ⟨"DreamNets", "cast", "(I)I"⟩ else ⟨"DreamNets", "seed", "(I)I"⟩) else (bif Nat.blt m 266 then ⟨"DreamNets", "night", "()I"⟩ else (bif Nat.blt m 273 then ⟨"DreamNets", "month", "(II)I"⟩ else ⟨"DreamNets", "state", "(I)I"⟩)))))) else (bif Nat.blt m 426 then (bif Nat.blt m 354 then (bif Nat.blt m 315 then (bif Nat.blt m 298 then (bif Nat.blt m 288 then ⟨"DreamNets", "sum", "([II)I"⟩ else ⟨"DreamNets", "boatsThatMay", "()I"⟩) else (bif Nat.blt m 306 then ⟨"DreamNets", "plan", "(II)I"⟩ else ⟨"DreamNets", "findWay", "(II)V"⟩)) else (bif Nat.blt m 331 then (bif Nat.blt m 323 then ⟨"DreamNets", "explore", "(LDreamNets$Search;II)V"⟩ else ⟨"DreamNets", "stop", "(III)I"⟩) else (bif Nat.blt m 339 then ⟨"DreamNets", "fine", "(III)I"⟩ else (bif Nat.blt m 344 then ⟨"DreamNets", "worthByMesh", "(III)I"⟩ else ⟨"DreamNets", "lasts", "()I"⟩)))) else (bif Nat.blt m 384 then (bif Nat.blt m 369 then (bif Nat.blt m 361 then ⟨"DreamNets", "shoal", "(II)I"⟩ else ⟨"DreamNets", "noSheet", "(I)Z"⟩) else (bif Nat.blt m 376 then ⟨"DreamNets", "findShoal", "(LDreamNets$Sheet;)V"⟩ else ⟨"DreamNets", "countFits", "()I"⟩)) else (bif Nat.blt m 400 then (bif Nat.blt m 394 then ⟨"DreamNets", "firstFit", "()I"⟩ else ⟨"DreamNets", "pieces", "(II)I"⟩) else (bif Nat.blt m 411 then ⟨"DreamNets", "gives", "()I"⟩ else (bif Nat.blt m 418 then ⟨"DreamNets", "when", "(III)I"⟩ else ⟨"DreamNets", "odds", "(II)J"⟩))))) else (bif Nat.blt m 499 then (bif Nat.blt m 458 then (bif Nat.blt m 443 then (bif Nat.blt m 435 then ⟨"DreamNets", "power", "(JI)J"⟩ else ⟨"DreamNets", "partOf", "(JJI)J"⟩) else (bif Nat.blt m 450 then ⟨"DreamNets", "hope", "(III)J"⟩ else ⟨"DreamNets", "prove", "(II)I"⟩)) else (bif Nat.blt m 475 then (bif Nat.blt m 466 then ⟨"DreamNets", "row", "(II)I"⟩ else ⟨"DreamNets", "noRow", "(II)Z"⟩) else (bif Nat.blt m 481 then ⟨"DreamNets", "alterRow", "(III)I"⟩ else (bif Nat.blt m 492 then ⟨"DreamNets", "judge", "(I)I"⟩ else ⟨"DreamNets", "minds", "(IIII)I"⟩)))) else (bif Nat.blt m 529 then (bif Nat.blt m 515 then (bif Nat.blt m 507 then ⟨"DreamNets", "sheet", "(III)I"⟩ else ⟨"DreamNets", "put", "(III)I"⟩) else (bif Nat.blt m 523 then ⟨"DreamNets", "item", "(III)I"⟩ else ⟨"DreamNets", "shelf", "(III)I"⟩)) else (bif Nat.blt m 547 then (bif Nat.blt m 538 then ⟨"DreamNets", "noShelf", "(I)Z"⟩ else ⟨"DreamNets", "taken", "(II)I"⟩) else (bif Nat.blt m 553 then ⟨"DreamNets", "act", "(III)I"⟩ else (bif Nat.blt m 561 then ⟨"DreamNets", "trace", "(I)I"⟩ else ⟨"DreamNets", "many", "(I)I"⟩))))))) else (bif Nat.blt m 857 then (bif Nat.blt m 713 then (bif Nat.blt m 641 then (bif Nat.blt m 602 then (bif Nat.blt m 584 then (bif Nat.blt m 576 then ⟨"DreamNets", "keep", "()I"⟩ else ⟨"DreamNets", "again", "()I"⟩) else (bif Nat.blt m 593 then ⟨"DreamNetsModel", "<init>", "()V"⟩ else ⟨"DreamNetsModel", "begins", "([I)V"⟩)) else (bif Nat.blt m 616 then (bif Nat.blt m 611 then ⟨"DreamNetsModel", "feed", "(JI)I"⟩ else ⟨"DreamNetsModel", "in", "(III)Z"⟩) else (bif Nat.blt m 624 then ⟨"DreamNetsModel", "harbour", "()I"⟩ else (bif Nat.blt m 633 then ⟨"DreamNetsModel", "advance", "()V"⟩ else ⟨"DreamNetsModel", "byteAt", "(I)I"⟩)))) else (bif Nat.blt m 673 then (bif Nat.blt m 656 then (bif Nat.blt m 649 then ⟨"DreamNetsModel", "isLetter", "(I)Z"⟩ else ⟨"DreamNetsModel", "isDigit", "(I)Z"⟩) else (bif Nat.blt m 664 then ⟨"DreamNetsModel", "wantClause", "()V"⟩ else ⟨"DreamNetsModel", "kindHere", "()I"⟩)) else (bif Nat.blt m 690 then (bif Nat.blt m 681 then ⟨"DreamNetsModel", "isWord", "(J)Z"⟩ else ⟨"DreamNetsModel", "wantBoat", "(I)V"⟩) else (bif Nat.blt m 697 then ⟨"DreamNetsModel", "wantNumber", "(II)I"⟩ else (bif Nat.blt m 704 then ⟨"DreamNetsModel", "wantWord", "(J)V"⟩ else ⟨"DreamNetsModel", "wantEnd", "()V"⟩))))) else (bif Nat.blt m 785 then (bif Nat.blt m 744 then (bif Nat.blt m 728 then (bif Nat.blt m 720 then ⟨"DreamNetsModel", "isMark", "(I)Z"⟩ else ⟨"DreamNetsModel", "wantStreet", "()V"⟩) else (bif Nat.blt m 736 then ⟨"DreamNetsModel", "wantSort", "()I"⟩ else ⟨"DreamNetsModel", "sortHere", "()I"⟩)) else (bif Nat.blt m 762 then (bif Nat.blt m 752 then ⟨"DreamNetsModel", "wantPrice", "()V"⟩ else ⟨"DreamNetsModel", "wantQuota", "()V"⟩) else (bif Nat.blt m 770 then ⟨"DreamNetsModel", "moveAll", "([I[I)V"⟩ else (bif Nat.blt m 778 then ⟨"DreamNetsModel", "set", "(II)I"⟩ else ⟨"DreamNetsModel", "becomes", "(II)I"⟩)))) else (bif Nat.blt m 817 then (bif Nat.blt m 801 then (bif Nat.blt m 794 then ⟨"DreamNetsModel", "lawOf", "(I)I"⟩ else ⟨"DreamNetsModel", "price", "(II)I"⟩) else (bif Nat.blt m 810 then ⟨"DreamNetsModel", "isSort", "(I)Z"⟩ else ⟨"DreamNetsModel", "quota", "(II)I"⟩)) else (bif Nat.blt m 834 then (bif Nat.blt m 826 then ⟨"DreamNetsModel", "isWard", "(I)Z"⟩ else ⟨"DreamNetsModel", "ward", "(II)I"⟩) else (bif Nat.blt m 842 then ⟨"DreamNetsModel", "at", "(II)I"⟩ else (bif Nat.blt m 849 then ⟨"DreamNetsModel", "street", "(II)I"⟩ else ⟨"DreamNetsModel", "isStreet", "(I)Z"⟩)))))) else (bif Nat.blt m 1001 then (bif Nat.blt m 931 then (bif Nat.blt m 891 then (bif Nat.blt m 876 then (bif Nat.blt m 867 then ⟨"DreamNetsModel", "stockOf", "(I)I"⟩ else ⟨"DreamNetsModel", "sleep", "(III)I"⟩) else (bif Nat.blt m 882 then ⟨"DreamNetsModel", "boat", "(IIII)I"⟩ else ⟨"DreamNetsModel", "isKind", "(II)Z"⟩)) else (bif Nat.blt m 905 then (bif Nat.blt m 898 then ⟨"DreamNetsModel", "sets", "(III)V"⟩ else ⟨"DreamNetsModel", "of", "(II)I"⟩) else (bif Nat.blt m 914 then ⟨"DreamNetsModel", "isBoat", "(I)Z"⟩ else (bif Nat.blt m 921 then ⟨"DreamNetsModel", "its", "(II)I"⟩ else ⟨"DreamNetsModel", "worthOf", "(I)I"⟩)))) else (bif Nat.blt m 962 then (bif Nat.blt m 946 then (bif Nat.blt m 938 then ⟨"DreamNetsModel", "mind", "(III)I"⟩ else ⟨"DreamNetsModel", "move", "(II)I"⟩) else (bif Nat.blt m 953 then ⟨"DreamNetsModel", "mesh", "(II)I"⟩ else ⟨"DreamNetsModel", "patch", "(I)I"⟩)) else (bif Nat.blt m 977 then (bif Nat.blt m 970 then ⟨"DreamNetsModel", "takes", "(II)I"⟩ else ⟨"DreamNetsModel", "takesOf", "(II)I"⟩) else (bif Nat.blt m 985 then ⟨"DreamNetsModel", "tears", "(I)I"⟩ else (bif Nat.blt m 993 then ⟨"DreamNetsModel", "tearsOf", "(I)I"⟩ else ⟨"DreamNetsModel", "haul", "(I)I"⟩))))) else (bif Nat.blt m 1073 then (bif Nat.blt m 1034 then (bif Nat.blt m 1019 then (bif Nat.blt m 1009 then ⟨"DreamNetsModel", "mayHaul", "(I)Z"⟩ else ⟨"DreamNetsModel", "hauls", "(I)V"⟩) else (bif Nat.blt m 1027 then ⟨"DreamNetsModel", "setsAt", "(III)V"⟩ else ⟨"DreamNetsModel", "held", "(III)I"⟩)) else (bif Nat.blt m 1049 then (bif Nat.blt m 1041 then ⟨"DreamNetsModel", "free", "(II)I"⟩ else ⟨"DreamNetsModel", "land", "(I)I"⟩) else (bif Nat.blt m 1056 then ⟨"DreamNetsModel", "bells", "(I)I"⟩ else (bif Nat.blt m 1065 then ⟨"DreamNetsModel", "bellGoes", "()V"⟩ else ⟨"DreamNetsModel", "cast", "(I)I"⟩)))) else (bif Nat.blt m 1104 then (bif Nat.blt m 1089 then (bif Nat.blt m 1080 then ⟨"DreamNetsModel", "casts", "(I)I"⟩ else ⟨"DreamNetsModel", "drawn", "()I"⟩) else (bif Nat.blt m 1096 then ⟨"DreamNetsModel", "seed", "(I)I"⟩ else ⟨"DreamNetsModel", "night", "()I"⟩)) else (bif Nat.blt m 1121 then (bif Nat.blt m 1114 then ⟨"DreamNetsModel", "nightGoes", "()I"⟩ else ⟨"DreamNetsModel", "month", "(II)I"⟩) else (bif Nat.blt m 1129 then ⟨"DreamNetsModel", "state", "(I)I"⟩ else (bif Nat.blt m 1136 then ⟨"DreamNetsModel", "sumOf", "(I)I"⟩ else ⟨"DreamNetsModel", "emptySet", "()I"⟩)))))))) else (bif Nat.blt m 1713 then (bif Nat.blt m 1427 then (bif Nat.blt m 1283 then (bif Nat.blt m 1210 then (bif Nat.blt m 1178 then (bif Nat.blt m 1162 then (bif Nat.blt m 1154 then ⟨"DreamNetsModel", "maySet", "()I"⟩ else ⟨"DreamNetsModel", "plan", "(II)I"⟩) else (bif Nat.blt m 1169 then ⟨"DreamNetsModel", "findPlan", "(II)V"⟩ else ⟨"DreamNetsModel", "power", "(I)I"⟩)) else (bif Nat.blt m 1195 then (bif Nat.blt m 1187 then ⟨"DreamNetsModel", "option", "(II)I"⟩ else ⟨"DreamNetsModel", "stop", "(III)I"⟩) else (bif Nat.blt m 1200 then ⟨"DreamNetsModel", "fine", "(III)I"⟩ else ⟨"DreamNetsModel", "lasts", "()I"⟩))) else (bif Nat.blt m 1240 then (bif Nat.blt m 1226 then (bif Nat.blt m 1217 then ⟨"DreamNetsModel", "shoal", "(II)I"⟩ else ⟨"DreamNetsModel", "isShelf", "(I)Z"⟩) else (bif Nat.blt m 1233 then ⟨"DreamNetsModel", "pieces", "(II)I"⟩ else ⟨"DreamNetsModel", "ones", "(I)I"⟩)) else (bif Nat.blt m 1258 then (bif Nat.blt m 1251 then ⟨"DreamNetsModel", "gives", "()I"⟩ else ⟨"DreamNetsModel", "when", "(III)I"⟩) else (bif Nat.blt m 1266 then ⟨"DreamNetsModel", "odds", "(II)J"⟩ else (bif Nat.blt m 1275 then ⟨"DreamNetsModel", "powerOf", "(II)J"⟩ else ⟨"DreamNetsModel", "lowest", "(JJI)J"⟩))))) else (bif Nat.blt m 1354 then (bif Nat.blt m 1314 then (bif Nat.blt m 1298 then (bif Nat.blt m 1290 then ⟨"DreamNetsModel", "hope", "(III)J"⟩ else ⟨"DreamNetsModel", "just", "(II)J"⟩) else (bif Nat.blt m 1306 then ⟨"DreamNetsModel", "prove", "(II)I"⟩ else ⟨"DreamNetsModel", "findRows", "(II)V"⟩)) else (bif Nat.blt m 1331 then (bif Nat.blt m 1322 then ⟨"DreamNetsModel", "row", "(II)I"⟩ else ⟨"DreamNetsModel", "isRow", "(II)Z"⟩) else (bif Nat.blt m 1337 then ⟨"DreamNetsModel", "alterRow", "(III)I"⟩ else (bif Nat.blt m 1348 then ⟨"DreamNetsModel", "judge", "(I)I"⟩ else ⟨"DreamNetsModel", "minds", "(IIII)I"⟩)))) else (bif Nat.blt m 1387 then (bif Nat.blt m 1371 then (bif Nat.blt m 1363 then ⟨"DreamNetsModel", "lacksSort", "(II)I"⟩ else ⟨"DreamNetsModel", "sheet", "(III)I"⟩) else (bif Nat.blt m 1379 then ⟨"DreamNetsModel", "put", "(III)I"⟩ else ⟨"DreamNetsModel", "item", "(III)I"⟩)) else (bif Nat.blt m 1402 then (bif Nat.blt m 1394 then ⟨"DreamNetsModel", "shelf", "(III)I"⟩ else ⟨"DreamNetsModel", "isHeld", "(II)Z"⟩) else (bif Nat.blt m 1409 then ⟨"DreamNetsModel", "taken", "(II)I"⟩ else (bif Nat.blt m 1418 then ⟨"DreamNetsModel", "kindOn", "(I)I"⟩ else ⟨"DreamNetsModel", "isUnder", "(II)Z"⟩)))))) else (bif Nat.blt m 1569 then (bif Nat.blt m 1497 then (bif Nat.blt m 1457 then (bif Nat.blt m 1441 then (bif Nat.blt m 1433 then ⟨"DreamNetsModel", "act", "(III)I"⟩ else ⟨"DreamNetsModel", "dragsIt", "(I)I"⟩) else (bif Nat.blt m 1449 then ⟨"DreamNetsModel", "drifterDrags", "(I)I"⟩ else ⟨"DreamNetsModel", "ran", "(I)V"⟩)) else (bif Nat.blt m 1473 then (bif Nat.blt m 1465 then ⟨"DreamNetsModel", "plainDrags", "(I)I"⟩ else ⟨"DreamNetsModel", "landsIt", "(I)I"⟩) else (bif Nat.blt m 1481 then ⟨"DreamNetsModel", "plainLands", "(I)I"⟩ else (bif Nat.blt m 1489 then ⟨"DreamNetsModel", "mendsIt", "(I)I"⟩ else ⟨"DreamNetsModel", "plainMends", "(I)I"⟩)))) else (bif Nat.blt m 1528 then (bif Nat.blt m 1513 then (bif Nat.blt m 1505 then ⟨"DreamNetsModel", "humsIt", "(I)I"⟩ else ⟨"DreamNetsModel", "plainHums", "(I)I"⟩) else (bif Nat.blt m 1521 then ⟨"DreamNetsModel", "trace", "(I)I"⟩ else ⟨"DreamNetsModel", "many", "(I)I"⟩)) else (bif Nat.blt m 1544 then (bif Nat.blt m 1536 then ⟨"DreamNetsModel", "tornMany", "()I"⟩ else ⟨"DreamNetsModel", "sleepersMany", "()I"⟩) else (bif Nat.blt m 1552 then ⟨"DreamNetsModel", "fullMany", "()I"⟩ else (bif Nat.blt m 1560 then ⟨"DreamNetsModel", "keep", "()I"⟩ else ⟨"DreamNetsModel", "again", "()I"⟩))))) else (bif Nat.blt m 1641 then (bif Nat.blt m 1601 then (bif Nat.blt m 1588 then (bif Nat.blt m 1576 then ⟨"DreamNets$World", "<init>", "([LDreamNets$Boat;)V"⟩ else ⟨"DreamNets$World", "startAnew", "()V"⟩) else (bif Nat.blt m 1593 then ⟨"DreamNets$World", "addBoat", "(IIII)I"⟩ else ⟨"DreamNets$World", "copyFrom", "(LDreamNets$World;)V"⟩)) else (bif Nat.blt m 1617 then (bif Nat.blt m 1609 then ⟨"DreamNets$World", "sleepersIn", "(I)I"⟩ else ⟨"DreamNets$World", "stockIn", "(I)I"⟩) else (bif Nat.blt m 1626 then ⟨"DreamNets$World", "worthHeld", "(I)I"⟩ else (bif Nat.blt m 1633 then ⟨"DreamNets$World", "takeOf", "(II)I"⟩ else ⟨"DreamNets$World", "kindOf", "(I)LDreamNets$Boat;"⟩)))) else (bif Nat.blt m 1672 then (bif Nat.blt m 1657 then (bif Nat.blt m 1649 then ⟨"DreamNets$World", "tearOf", "(I)I"⟩ else ⟨"DreamNets$World", "mayHaul", "(I)Z"⟩) else (bif Nat.blt m 1664 then ⟨"DreamNets$World", "drag", "(I)I"⟩ else ⟨"DreamNets$World", "ring", "()V"⟩)) else (bif Nat.blt m 1688 then (bif Nat.blt m 1681 then ⟨"DreamNets$World", "driftOn", "()V"⟩ else ⟨"DreamNets$World", "castNet", "(I)I"⟩) else (bif Nat.blt m 1696 then ⟨"DreamNets$World", "draw", "()I"⟩ else (bif Nat.blt m 1704 then ⟨"DreamNets$World", "nightByDraws", "()I"⟩ else ⟨"DreamNets$World", "emptyStreets", "()I"⟩))))))) else (bif Nat.blt m 2002 then (bif Nat.blt m 1857 then (bif Nat.blt m 1784 then (bif Nat.blt m 1744 then (bif Nat.blt m 1730 then (bif Nat.blt m 1722 then ⟨"DreamNets$World", "worthOfDrag", "(I)I"⟩ else ⟨"DreamNets$World", "heldBySet", "(II)I"⟩) else (bif Nat.blt m 1737 then ⟨"DreamNets$World", "rowPart", "(II)I"⟩ else ⟨"DreamNets$World", "mostIn", "(I)I"⟩)) else (bif Nat.blt m 1760 then (bif Nat.blt m 1752 then ⟨"DreamNets$World", "tornBoats", "()I"⟩ else ⟨"DreamNets$World", "fullWards", "()I"⟩) else (bif Nat.blt m 1769 then ⟨"DreamNets$Tape", "<init>", "()V"⟩ else (bif Nat.blt m 1777 then ⟨"DreamNets$Tape", "add", "(I)V"⟩ else ⟨"DreamNets$Tape", "tells", "(LDreamNets$World;)Z"⟩)))) else (bif Nat.blt m 1817 then (bif Nat.blt m 1801 then (bif Nat.blt m 1793 then ⟨"DreamNets$Tape", "step", "()V"⟩ else ⟨"DreamNets$Tape", "isLetter", "(I)Z"⟩) else (bif Nat.blt m 1808 then ⟨"DreamNets$Tape", "isDigit", "(I)Z"⟩ else ⟨"DreamNets$Tape", "stepOverDigits", "()V"⟩)) else (bif Nat.blt m 1833 then (bif Nat.blt m 1825 then ⟨"DreamNets$Tape", "tellsPart", "(LDreamNets$World;)Z"⟩ else ⟨"DreamNets$Tape", "kindName", "(I)Ljava/lang/String;"⟩) else (bif Nat.blt m 1842 then ⟨"DreamNets$Tape", "isWord", "(Ljava/lang/String;)Z"⟩ else (bif Nat.blt m 1850 then ⟨"DreamNets$Tape", "tellsBoat", "(LDreamNets$World;I)Z"⟩ else ⟨"DreamNets$Tape", "readNumber", "(II)Z"⟩))))) else (bif Nat.blt m 1930 then (bif Nat.blt m 1888 then (bif Nat.blt m 1873 then (bif Nat.blt m 1864 then ⟨"DreamNets$Tape", "readWord", "(Ljava/lang/String;)Z"⟩ else ⟨"DreamNets$Tape", "readStop", "()Z"⟩) else (bif Nat.blt m 1884 then ⟨"DreamNets$Tape", "tellsStreet", "(LDreamNets$World;)Z"⟩ else ⟨"DreamNets$Tape", "tellsNumber", "([IIII)Z"⟩)) else (bif Nat.blt m 1905 then (bif Nat.blt m 1897 then ⟨"DreamNets$Tape", "sortHere", "()I"⟩ else ⟨"DreamNets$Tape", "sortName", "(I)Ljava/lang/String;"⟩) else (bif Nat.blt m 1913 then ⟨"DreamNets$Tape", "tellsPrice", "(LDreamNets$World;)Z"⟩ else (bif Nat.blt m 1920 then ⟨"DreamNets$Tape", "tellsQuota", "(LDreamNets$World;)Z"⟩ else ⟨"DreamNets$Acting", "<init>", "()V"⟩)))) else (bif Nat.blt m 1960 then (bif Nat.blt m 1946 then (bif Nat.blt m 1937 then ⟨"DreamNets$Acting", "startAs", "(II)V"⟩ else ⟨"DreamNets$Acting", "begin", "(I)V"⟩) else (bif Nat.blt m 1953 then ⟨"DreamNets$Sheet", "<init>", "(II)V"⟩ else ⟨"DreamNets$Sheet", "narrowed", "(I)J"⟩)) else (bif Nat.blt m 1978 then (bif Nat.blt m 1971 then ⟨"DreamNets$Boat", "<init>", "()V"⟩ else ⟨"DreamNets$Boat", "catchOf", "(III)I"⟩) else (bif Nat.blt m 1985 then ⟨"DreamNets$Boat", "tearBy", "(II)I"⟩ else (bif Nat.blt m 1994 then ⟨"DreamNets$Boat", "isUnder", "(I)Z"⟩ else ⟨"DreamNets$Boat", "drags", "(LDreamNets$Acting;I)I"⟩)))))) else (bif Nat.blt m 2146 then (bif Nat.blt m 2075 then (bif Nat.blt m 2035 then (bif Nat.blt m 2018 then (bif Nat.blt m 2010 then ⟨"DreamNets$Boat", "lands", "(LDreamNets$Acting;I)I"⟩ else ⟨"DreamNets$Boat", "mends", "(LDreamNets$Acting;I)I"⟩) else (bif Nat.blt m 2024 then ⟨"DreamNets$Boat", "hums", "(LDreamNets$Acting;I)I"⟩ else ⟨"DreamNets$Seiner", "<init>", "()V"⟩)) else (bif Nat.blt m 2049 then (bif Nat.blt m 2042 then ⟨"DreamNets$Seiner", "catchOf", "(III)I"⟩ else ⟨"DreamNets$Seiner", "tearBy", "(II)I"⟩) else (bif Nat.blt m 2058 then ⟨"DreamNets$Seiner", "isUnder", "(I)Z"⟩ else (bif Nat.blt m 2064 then ⟨"DreamNets$Seiner", "lands", "(LDreamNets$Acting;I)I"⟩ else ⟨"DreamNets$Drifter", "<init>", "()V"⟩)))) else (bif Nat.blt m 2106 then (bif Nat.blt m 2089 then (bif Nat.blt m 2082 then ⟨"DreamNets$Drifter", "catchOf", "(III)I"⟩ else ⟨"DreamNets$Drifter", "tearBy", "(II)I"⟩) else (bif Nat.blt m 2098 then ⟨"DreamNets$Drifter", "isUnder", "(I)Z"⟩ else ⟨"DreamNets$Drifter", "drags", "(LDreamNets$Acting;I)I"⟩)) else (bif Nat.blt m 2123 then (bif Nat.blt m 2112 then ⟨"DreamNets$Drifter", "hums", "(LDreamNets$Acting;I)I"⟩ else ⟨"DreamNets$Tug", "<init>", "()V"⟩) else (bif Nat.blt m 2130 then ⟨"DreamNets$Tug", "catchOf", "(III)I"⟩ else (bif Nat.blt m 2137 then ⟨"DreamNets$Tug", "tearBy", "(II)I"⟩ else ⟨"DreamNets$Tug", "isUnder", "(I)Z"⟩))))) else (bif Nat.blt m 2219 then (bif Nat.blt m 2178 then (bif Nat.blt m 2160 then (bif Nat.blt m 2154 then ⟨"DreamNets$Tug", "drags", "(LDreamNets$Acting;I)I"⟩ else ⟨"DreamNets$Tug", "mends", "(LDreamNets$Acting;I)I"⟩) else (bif Nat.blt m 2171 then ⟨"DreamNets$Dredger", "<init>", "()V"⟩ else ⟨"DreamNets$Dredger", "catchOf", "(III)I"⟩)) else (bif Nat.blt m 2194 then (bif Nat.blt m 2185 then ⟨"DreamNets$Dredger", "tearBy", "(II)I"⟩ else ⟨"DreamNets$Dredger", "isUnder", "(I)Z"⟩) else (bif Nat.blt m 2202 then ⟨"DreamNets$Dredger", "drags", "(LDreamNets$Acting;I)I"⟩ else (bif Nat.blt m 2208 then ⟨"DreamNets$Dredger", "lands", "(LDreamNets$Acting;I)I"⟩ else ⟨"DreamNets$Poacher", "<init>", "()V"⟩)))) else (bif Nat.blt m 2250 then (bif Nat.blt m 2233 then (bif Nat.blt m 2226 then ⟨"DreamNets$Poacher", "catchOf", "(III)I"⟩ else ⟨"DreamNets$Poacher", "tearBy", "(II)I"⟩) else (bif Nat.blt m 2242 then ⟨"DreamNets$Poacher", "isUnder", "(I)Z"⟩ else ⟨"DreamNets$Poacher", "mends", "(LDreamNets$Acting;I)I"⟩)) else (bif Nat.blt m 2265 then (bif Nat.blt m 2257 then ⟨"DreamNets$Poacher", "hums", "(LDreamNets$Acting;I)I"⟩ else ⟨"DreamNets$Search", "<init>", "([LDreamNets$Boat;)V"⟩) else (bif Nat.blt m 2273 then ⟨"DreamNets$Search", "endWay", "(I)V"⟩ else (bif Nat.blt m 2281 then ⟨"java/lang/Integer", "bitCount", "(I)I"⟩ else ⟨"DreamNetsLaw", "law", "([I)Z"⟩)))))))))
def pcd (m : Nat) : ByteArray := (bif Nat.blt m 1144 then (bif Nat.blt m 568 then (bif Nat.blt m 282 then (bif Nat.blt m 137 then (bif Nat.blt m 66 then (bif Nat.blt m 32 then (bif Nat.blt m 18 then (bif Nat.blt m 8 then prog_1_method_1_code else prog_1_method_2_code) else (bif Nat.blt m 27 then prog_1_method_3_code else prog_1_method_54_code)) else (bif Nat.blt m 51 then (bif Nat.blt m 42 then prog_1_method_4_code else prog_1_method_5_code) else (bif Nat.blt m 57 then prog_1_method_63_code else prog_1_method_6_code))) else (bif Nat.blt m 98 then (bif Nat.blt m 82 then (bif Nat.blt m 73 then prog_1_method_7_code else prog_1_method_55_code) else (bif Nat.blt m 89 then prog_1_method_8_code else prog_1_method_57_code)) else (bif Nat.blt m 113 then (bif Nat.blt m 106 then prog_1_method_9_code else prog_1_method_10_code) else (bif Nat.blt m 123 then prog_1_method_56_code else (bif Nat.blt m 132 then prog_1_method_11_code else prog_1_method_12_code))))) else (bif Nat.blt m 209 then (bif Nat.blt m 170 then (bif Nat.blt m 153 then (bif Nat.blt m 146 then prog_1_method_58_code else prog_1_method_13_code) else (bif Nat.blt m 163 then prog_1_method_61_code else prog_1_method_14_code)) else (bif Nat.blt m 185 then (bif Nat.blt m 178 then prog_1_method_15_code else prog_1_method_16_code) else (bif Nat.blt m 194 then prog_1_method_17_code else (bif Nat.blt m 201 then prog_1_method_18_code else prog_1_method_19_code)))) else (bif Nat.blt m 241 then (bif Nat.blt m 225 then (bif Nat.blt m 218 then prog_1_method_20_code else prog_1_method_21_code) else (bif Nat.blt m 233 then prog_1_method_22_code else prog_1_method_23_code)) else (bif Nat.blt m 256 then (bif Nat.blt m 249 then prog_1_method_24_code else prog_1_method_25_code) else (bif Nat.blt m 266 then prog_1_method_26_code else (bif Nat.blt m 273 then prog_1_method_27_code else prog_1_method_28_code)))))) else (bif Nat.blt m 426 then (bif Nat.blt m 354 then (bif Nat.blt m 315 then (bif Nat.blt m 298 then (bif Nat.blt m 288 then prog_1_method_64_code else prog_1_method_65_code) else (bif Nat.blt m 306 then prog_1_method_29_code else prog_1_method_72_code)) else (bif Nat.blt m 331 then (bif Nat.blt m 323 then prog_1_method_73_code else prog_1_method_30_code) else (bif Nat.blt m 339 then prog_1_method_31_code else (bif Nat.blt m 344 then prog_1_method_68_code else prog_1_method_32_code)))) else (bif Nat.blt m 384 then (bif Nat.blt m 369 then (bif Nat.blt m 361 then prog_1_method_33_code else prog_1_method_59_code) else (bif Nat.blt m 376 then prog_1_method_69_code else prog_1_method_70_code)) else (bif Nat.blt m 400 then (bif Nat.blt m 394 then prog_1_method_71_code else prog_1_method_34_code) else (bif Nat.blt m 411 then prog_1_method_35_code else (bif Nat.blt m 418 then prog_1_method_36_code else prog_1_method_37_code))))) else (bif Nat.blt m 499 then (bif Nat.blt m 458 then (bif Nat.blt m 443 then (bif Nat.blt m 435 then prog_1_method_66_code else prog_1_method_67_code) else (bif Nat.blt m 450 then prog_1_method_38_code else prog_1_method_39_code)) else (bif Nat.blt m 475 then (bif Nat.blt m 466 then prog_1_method_40_code else prog_1_method_62_code) else (bif Nat.blt m 481 then prog_1_method_41_code else (bif Nat.blt m 492 then prog_1_method_42_code else prog_1_method_43_code)))) else (bif Nat.blt m 529 then (bif Nat.blt m 515 then (bif Nat.blt m 507 then prog_1_method_44_code else prog_1_method_45_code) else (bif Nat.blt m 523 then prog_1_method_46_code else prog_1_method_47_code)) else (bif Nat.blt m 547 then (bif Nat.blt m 538 then prog_1_method_60_code else prog_1_method_48_code) else (bif Nat.blt m 553 then prog_1_method_49_code else (bif Nat.blt m 561 then prog_1_method_50_code else prog_1_method_51_code))))))) else (bif Nat.blt m 857 then (bif Nat.blt m 713 then (bif Nat.blt m 641 then (bif Nat.blt m 602 then (bif Nat.blt m 584 then (bif Nat.blt m 576 then prog_1_method_52_code else prog_1_method_53_code) else (bif Nat.blt m 593 then prog_14_method_1_code else prog_14_method_2_code)) else (bif Nat.blt m 616 then (bif Nat.blt m 611 then prog_14_method_15_code else prog_14_method_3_code) else (bif Nat.blt m 624 then prog_14_method_33_code else (bif Nat.blt m 633 then prog_14_method_19_code else prog_14_method_16_code)))) else (bif Nat.blt m 673 then (bif Nat.blt m 656 then (bif Nat.blt m 649 then prog_14_method_17_code else prog_14_method_18_code) else (bif Nat.blt m 664 then prog_14_method_32_code else prog_14_method_22_code)) else (bif Nat.blt m 690 then (bif Nat.blt m 681 then prog_14_method_20_code else prog_14_method_28_code) else (bif Nat.blt m 697 then prog_14_method_24_code else (bif Nat.blt m 704 then prog_14_method_26_code else prog_14_method_25_code))))) else (bif Nat.blt m 785 then (bif Nat.blt m 744 then (bif Nat.blt m 728 then (bif Nat.blt m 720 then prog_14_method_21_code else prog_14_method_29_code) else (bif Nat.blt m 736 then prog_14_method_27_code else prog_14_method_23_code)) else (bif Nat.blt m 762 then (bif Nat.blt m 752 then prog_14_method_30_code else prog_14_method_31_code) else (bif Nat.blt m 770 then prog_14_method_5_code else (bif Nat.blt m 778 then prog_14_method_34_code else prog_14_method_14_code)))) else (bif Nat.blt m 817 then (bif Nat.blt m 801 then (bif Nat.blt m 794 then prog_14_method_35_code else prog_14_method_36_code) else (bif Nat.blt m 810 then prog_14_method_6_code else prog_14_method_37_code)) else (bif Nat.blt m 834 then (bif Nat.blt m 826 then prog_14_method_8_code else prog_14_method_38_code) else (bif Nat.blt m 842 then prog_14_method_12_code else (bif Nat.blt m 849 then prog_14_method_40_code else prog_14_method_7_code)))))) else (bif Nat.blt m 1001 then (bif Nat.blt m 931 then (bif Nat.blt m 891 then (bif Nat.blt m 876 then (bif Nat.blt m 867 then prog_14_method_39_code else prog_14_method_41_code) else (bif Nat.blt m 882 then prog_14_method_43_code else prog_14_method_42_code)) else (bif Nat.blt m 905 then (bif Nat.blt m 898 then prog_14_method_11_code else prog_14_method_45_code) else (bif Nat.blt m 914 then prog_14_method_9_code else (bif Nat.blt m 921 then prog_14_method_10_code else prog_14_method_44_code)))) else (bif Nat.blt m 962 then (bif Nat.blt m 946 then (bif Nat.blt m 938 then prog_14_method_46_code else prog_14_method_47_code) else (bif Nat.blt m 953 then prog_14_method_48_code else prog_14_method_49_code)) else (bif Nat.blt m 977 then (bif Nat.blt m 970 then prog_14_method_52_code else prog_14_method_50_code) else (bif Nat.blt m 985 then prog_14_method_53_code else (bif Nat.blt m 993 then prog_14_method_51_code else prog_14_method_56_code))))) else (bif Nat.blt m 1073 then (bif Nat.blt m 1034 then (bif Nat.blt m 1019 then (bif Nat.blt m 1009 then prog_14_method_54_code else prog_14_method_55_code) else (bif Nat.blt m 1027 then prog_14_method_13_code else prog_14_method_4_code)) else (bif Nat.blt m 1049 then (bif Nat.blt m 1041 then prog_14_method_57_code else prog_14_method_58_code) else (bif Nat.blt m 1056 then prog_14_method_60_code else (bif Nat.blt m 1065 then prog_14_method_59_code else prog_14_method_63_code)))) else (bif Nat.blt m 1104 then (bif Nat.blt m 1089 then (bif Nat.blt m 1080 then prog_14_method_62_code else prog_14_method_61_code) else (bif Nat.blt m 1096 then prog_14_method_64_code else prog_14_method_66_code)) else (bif Nat.blt m 1121 then (bif Nat.blt m 1114 then prog_14_method_65_code else prog_14_method_67_code) else (bif Nat.blt m 1129 then prog_14_method_71_code else (bif Nat.blt m 1136 then prog_14_method_68_code else prog_14_method_69_code)))))))) else (bif Nat.blt m 1713 then (bif Nat.blt m 1427 then (bif Nat.blt m 1283 then (bif Nat.blt m 1210 then (bif Nat.blt m 1178 then (bif Nat.blt m 1162 then (bif Nat.blt m 1154 then prog_14_method_70_code else prog_14_method_75_code) else (bif Nat.blt m 1169 then prog_14_method_74_code else prog_14_method_73_code)) else (bif Nat.blt m 1195 then (bif Nat.blt m 1187 then prog_14_method_72_code else prog_14_method_76_code) else (bif Nat.blt m 1200 then prog_14_method_77_code else prog_14_method_78_code))) else (bif Nat.blt m 1240 then (bif Nat.blt m 1226 then (bif Nat.blt m 1217 then prog_14_method_79_code else prog_14_method_96_code) else (bif Nat.blt m 1233 then prog_14_method_81_code else prog_14_method_80_code)) else (bif Nat.blt m 1258 then (bif Nat.blt m 1251 then prog_14_method_82_code else prog_14_method_83_code) else (bif Nat.blt m 1266 then prog_14_method_86_code else (bif Nat.blt m 1275 then prog_14_method_85_code else prog_14_method_84_code))))) else (bif Nat.blt m 1354 then (bif Nat.blt m 1314 then (bif Nat.blt m 1298 then (bif Nat.blt m 1290 then prog_14_method_88_code else prog_14_method_87_code) else (bif Nat.blt m 1306 then prog_14_method_90_code else prog_14_method_89_code)) else (bif Nat.blt m 1331 then (bif Nat.blt m 1322 then prog_14_method_92_code else prog_14_method_91_code) else (bif Nat.blt m 1337 then prog_14_method_93_code else (bif Nat.blt m 1348 then prog_14_method_94_code else prog_14_method_95_code)))) else (bif Nat.blt m 1387 then (bif Nat.blt m 1371 then (bif Nat.blt m 1363 then prog_14_method_99_code else prog_14_method_97_code) else (bif Nat.blt m 1379 then prog_14_method_98_code else prog_14_method_100_code)) else (bif Nat.blt m 1402 then (bif Nat.blt m 1394 then prog_14_method_102_code else prog_14_method_101_code) else (bif Nat.blt m 1409 then prog_14_method_105_code else (bif Nat.blt m 1418 then prog_14_method_103_code else prog_14_method_104_code)))))) else (bif Nat.blt m 1569 then (bif Nat.blt m 1497 then (bif Nat.blt m 1457 then (bif Nat.blt m 1441 then (bif Nat.blt m 1433 then prog_14_method_116_code else prog_14_method_109_code) else (bif Nat.blt m 1449 then prog_14_method_108_code else prog_14_method_106_code)) else (bif Nat.blt m 1473 then (bif Nat.blt m 1465 then prog_14_method_107_code else prog_14_method_111_code) else (bif Nat.blt m 1481 then prog_14_method_110_code else (bif Nat.blt m 1489 then prog_14_method_113_code else prog_14_method_112_code)))) else (bif Nat.blt m 1528 then (bif Nat.blt m 1513 then (bif Nat.blt m 1505 then prog_14_method_115_code else prog_14_method_114_code) else (bif Nat.blt m 1521 then prog_14_method_117_code else prog_14_method_121_code)) else (bif Nat.blt m 1544 then (bif Nat.blt m 1536 then prog_14_method_118_code else prog_14_method_119_code) else (bif Nat.blt m 1552 then prog_14_method_120_code else (bif Nat.blt m 1560 then prog_14_method_122_code else prog_14_method_123_code))))) else (bif Nat.blt m 1641 then (bif Nat.blt m 1601 then (bif Nat.blt m 1588 then (bif Nat.blt m 1576 then prog_12_method_1_code else prog_12_method_2_code) else (bif Nat.blt m 1593 then prog_12_method_4_code else prog_12_method_3_code)) else (bif Nat.blt m 1617 then (bif Nat.blt m 1609 then prog_12_method_6_code else prog_12_method_7_code) else (bif Nat.blt m 1626 then prog_12_method_13_code else (bif Nat.blt m 1633 then prog_12_method_15_code else prog_12_method_5_code)))) else (bif Nat.blt m 1672 then (bif Nat.blt m 1657 then (bif Nat.blt m 1649 then prog_12_method_16_code else prog_12_method_17_code) else (bif Nat.blt m 1664 then prog_12_method_18_code else prog_12_method_20_code)) else (bif Nat.blt m 1688 then (bif Nat.blt m 1681 then prog_12_method_21_code else prog_12_method_23_code) else (bif Nat.blt m 1696 then prog_12_method_22_code else (bif Nat.blt m 1704 then prog_12_method_24_code else prog_12_method_10_code))))))) else (bif Nat.blt m 2002 then (bif Nat.blt m 1857 then (bif Nat.blt m 1784 then (bif Nat.blt m 1744 then (bif Nat.blt m 1730 then (bif Nat.blt m 1722 then prog_12_method_19_code else prog_12_method_14_code) else (bif Nat.blt m 1737 then prog_12_method_9_code else prog_12_method_8_code)) else (bif Nat.blt m 1760 then (bif Nat.blt m 1752 then prog_12_method_11_code else prog_12_method_12_code) else (bif Nat.blt m 1769 then prog_10_method_1_code else (bif Nat.blt m 1777 then prog_10_method_2_code else prog_10_method_3_code)))) else (bif Nat.blt m 1817 then (bif Nat.blt m 1801 then (bif Nat.blt m 1793 then prog_10_method_15_code else prog_10_method_17_code) else (bif Nat.blt m 1808 then prog_10_method_18_code else prog_10_method_16_code)) else (bif Nat.blt m 1833 then (bif Nat.blt m 1825 then prog_10_method_4_code else prog_10_method_19_code) else (bif Nat.blt m 1842 then prog_10_method_14_code else (bif Nat.blt m 1850 then prog_10_method_5_code else prog_10_method_10_code))))) else (bif Nat.blt m 1930 then (bif Nat.blt m 1888 then (bif Nat.blt m 1873 then (bif Nat.blt m 1864 then prog_10_method_11_code else prog_10_method_12_code) else (bif Nat.blt m 1884 then prog_10_method_6_code else prog_10_method_9_code)) else (bif Nat.blt m 1905 then (bif Nat.blt m 1897 then prog_10_method_13_code else prog_10_method_20_code) else (bif Nat.blt m 1913 then prog_10_method_7_code else (bif Nat.blt m 1920 then prog_10_method_8_code else prog_2_method_1_code)))) else (bif Nat.blt m 1960 then (bif Nat.blt m 1946 then (bif Nat.blt m 1937 then prog_2_method_2_code else prog_2_method_3_code) else (bif Nat.blt m 1953 then prog_9_method_1_code else prog_9_method_2_code)) else (bif Nat.blt m 1978 then (bif Nat.blt m 1971 then prog_3_method_1_code else prog_3_method_3_code) else (bif Nat.blt m 1985 then prog_3_method_4_code else (bif Nat.blt m 1994 then prog_3_method_2_code else prog_3_method_5_code)))))) else (bif Nat.blt m 2146 then (bif Nat.blt m 2075 then (bif Nat.blt m 2035 then (bif Nat.blt m 2018 then (bif Nat.blt m 2010 then prog_3_method_6_code else prog_3_method_7_code) else (bif Nat.blt m 2024 then prog_3_method_8_code else prog_8_method_1_code)) else (bif Nat.blt m 2049 then (bif Nat.blt m 2042 then prog_8_method_3_code else prog_8_method_4_code) else (bif Nat.blt m 2058 then prog_8_method_2_code else (bif Nat.blt m 2064 then prog_8_method_5_code else prog_5_method_1_code)))) else (bif Nat.blt m 2106 then (bif Nat.blt m 2089 then (bif Nat.blt m 2082 then prog_5_method_3_code else prog_5_method_4_code) else (bif Nat.blt m 2098 then prog_5_method_2_code else prog_5_method_5_code)) else (bif Nat.blt m 2123 then (bif Nat.blt m 2112 then prog_5_method_6_code else prog_11_method_1_code) else (bif Nat.blt m 2130 then prog_11_method_3_code else (bif Nat.blt m 2137 then prog_11_method_4_code else prog_11_method_2_code))))) else (bif Nat.blt m 2219 then (bif Nat.blt m 2178 then (bif Nat.blt m 2160 then (bif Nat.blt m 2154 then prog_11_method_6_code else prog_11_method_5_code) else (bif Nat.blt m 2171 then prog_4_method_1_code else prog_4_method_3_code)) else (bif Nat.blt m 2194 then (bif Nat.blt m 2185 then prog_4_method_4_code else prog_4_method_2_code) else (bif Nat.blt m 2202 then prog_4_method_5_code else (bif Nat.blt m 2208 then prog_4_method_6_code else prog_6_method_1_code)))) else (bif Nat.blt m 2250 then (bif Nat.blt m 2233 then (bif Nat.blt m 2226 then prog_6_method_3_code else prog_6_method_4_code) else (bif Nat.blt m 2242 then prog_6_method_2_code else prog_6_method_6_code)) else (bif Nat.blt m 2265 then (bif Nat.blt m 2257 then prog_6_method_5_code else prog_7_method_1_code) else (bif Nat.blt m 2273 then prog_7_method_2_code else (bif Nat.blt m 2281 then prog_15_method_49_code else code)))))))))
def pret (m : Nat) : Option FieldType := (bif Nat.blt m 1144 then (bif Nat.blt m 568 then (bif Nat.blt m 282 then (bif Nat.blt m 137 then (bif Nat.blt m 66 then (bif Nat.blt m 32 then (bif Nat.blt m 18 then (bif Nat.blt m 8 then none else (some (.array (.object "DreamNets$Boat")))) else (bif Nat.blt m 27 then (some .int) else (some .boolean))) else (bif Nat.blt m 51 then (bif Nat.blt m 42 then (some .int) else (some .int)) else (bif Nat.blt m 57 then (some .int) else (some .int)))) else (bif Nat.blt m 98 then (bif Nat.blt m 82 then (bif Nat.blt m 73 then (some .int) else (some .boolean)) else (bif Nat.blt m 89 then (some .int) else (some .boolean))) else (bif Nat.blt m 113 then (bif Nat.blt m 106 then (some .int) else (some .int)) else (bif Nat.blt m 123 then (some .boolean) else (bif Nat.blt m 132 then (some .int) else (some .int)))))) else (bif Nat.blt m 209 then (bif Nat.blt m 170 then (bif Nat.blt m 153 then (bif Nat.blt m 146 then (some .boolean) else (some .int)) else (bif Nat.blt m 163 then (some .boolean) else (some .int))) else (bif Nat.blt m 185 then (bif Nat.blt m 178 then (some .int) else (some .int)) else (bif Nat.blt m 194 then (some .int) else (bif Nat.blt m 201 then (some .int) else (some .int))))) else (bif Nat.blt m 241 then (bif Nat.blt m 225 then (bif Nat.blt m 218 then (some .int) else (some .int)) else (bif Nat.blt m 233 then (some .int) else (some .int))) else (bif Nat.blt m 256 then (bif Nat.blt m 249 then (some .int) else (some .int)) else (bif Nat.blt m 266 then (some .int) else (bif Nat.blt m 273 then (some .int) else (some .int))))))) else (bif Nat.blt m 426 then (bif Nat.blt m 354 then (bif Nat.blt m 315 then (bif Nat.blt m 298 then (bif Nat.blt m 288 then (some .int) else (some .int)) else (bif Nat.blt m 306 then (some .int) else none)) else (bif Nat.blt m 331 then (bif Nat.blt m 323 then none else (some .int)) else (bif Nat.blt m 339 then (some .int) else (bif Nat.blt m 344 then (some .int) else (some .int))))) else (bif Nat.blt m 384 then (bif Nat.blt m 369 then (bif Nat.blt m 361 then (some .int) else (some .boolean)) else (bif Nat.blt m 376 then none else (some .int))) else (bif Nat.blt m 400 then (bif Nat.blt m 394 then (some .int) else (some .int)) else (bif Nat.blt m 411 then (some .int) else (bif Nat.blt m 418 then (some .int) else (some .long)))))) else (bif Nat.blt m 499 then (bif Nat.blt m 458 then (bif Nat.blt m 443 then (bif Nat.blt m 435 then (some .long) else (some .long)) else (bif Nat.blt m 450 then (some .long) else (some .int))) else (bif Nat.blt m 475 then (bif Nat.blt m 466 then (some .int) else (some .boolean)) else (bif Nat.blt m 481 then (some .int) else (bif Nat.blt m 492 then (some .int) else (some .int))))) else (bif Nat.blt m 529 then (bif Nat.blt m 515 then (bif Nat.blt m 507 then (some .int) else (some .int)) else (bif Nat.blt m 523 then (some .int) else (some .int))) else (bif Nat.blt m 547 then (bif Nat.blt m 538 then (some .boolean) else (some .int)) else (bif Nat.blt m 553 then (some .int) else (bif Nat.blt m 561 then (some .int) else (some .int)))))))) else (bif Nat.blt m 857 then (bif Nat.blt m 713 then (bif Nat.blt m 641 then (bif Nat.blt m 602 then (bif Nat.blt m 584 then (bif Nat.blt m 576 then (some .int) else (some .int)) else (bif Nat.blt m 593 then none else none)) else (bif Nat.blt m 616 then (bif Nat.blt m 611 then (some .int) else (some .boolean)) else (bif Nat.blt m 624 then (some .int) else (bif Nat.blt m 633 then none else (some .int))))) else (bif Nat.blt m 673 then (bif Nat.blt m 656 then (bif Nat.blt m 649 then (some .boolean) else (some .boolean)) else (bif Nat.blt m 664 then none else (some .int))) else (bif Nat.blt m 690 then (bif Nat.blt m 681 then (some .boolean) else none) else (bif Nat.blt m 697 then (some .int) else (bif Nat.blt m 704 then none else none))))) else (bif Nat.blt m 785 then (bif Nat.blt m 744 then (bif Nat.blt m 728 then (bif Nat.blt m 720 then (some .boolean) else none) else (bif Nat.blt m 736 then (some .int) else (some .int))) else (bif Nat.blt m 762 then (bif Nat.blt m 752 then none else none) else (bif Nat.blt m 770 then none else (bif Nat.blt m 778 then (some .int) else (some .int))))) else (bif Nat.blt m 817 then (bif Nat.blt m 801 then (bif Nat.blt m 794 then (some .int) else (some .int)) else (bif Nat.blt m 810 then (some .boolean) else (some .int))) else (bif Nat.blt m 834 then (bif Nat.blt m 826 then (some .boolean) else (some .int)) else (bif Nat.blt m 842 then (some .int) else (bif Nat.blt m 849 then (some .int) else (some .boolean))))))) else (bif Nat.blt m 1001 then (bif Nat.blt m 931 then (bif Nat.blt m 891 then (bif Nat.blt m 876 then (bif Nat.blt m 867 then (some .int) else (some .int)) else (bif Nat.blt m 882 then (some .int) else (some .boolean))) else (bif Nat.blt m 905 then (bif Nat.blt m 898 then none else (some .int)) else (bif Nat.blt m 914 then (some .boolean) else (bif Nat.blt m 921 then (some .int) else (some .int))))) else (bif Nat.blt m 962 then (bif Nat.blt m 946 then (bif Nat.blt m 938 then (some .int) else (some .int)) else (bif Nat.blt m 953 then (some .int) else (some .int))) else (bif Nat.blt m 977 then (bif Nat.blt m 970 then (some .int) else (some .int)) else (bif Nat.blt m 985 then (some .int) else (bif Nat.blt m 993 then (some .int) else (some .int)))))) else (bif Nat.blt m 1073 then (bif Nat.blt m 1034 then (bif Nat.blt m 1019 then (bif Nat.blt m 1009 then (some .boolean) else none) else (bif Nat.blt m 1027 then none else (some .int))) else (bif Nat.blt m 1049 then (bif Nat.blt m 1041 then (some .int) else (some .int)) else (bif Nat.blt m 1056 then (some .int) else (bif Nat.blt m 1065 then none else (some .int))))) else (bif Nat.blt m 1104 then (bif Nat.blt m 1089 then (bif Nat.blt m 1080 then (some .int) else (some .int)) else (bif Nat.blt m 1096 then (some .int) else (some .int))) else (bif Nat.blt m 1121 then (bif Nat.blt m 1114 then (some .int) else (some .int)) else (bif Nat.blt m 1129 then (some .int) else (bif Nat.blt m 1136 then (some .int) else (some .int))))))))) else (bif Nat.blt m 1713 then (bif Nat.blt m 1427 then (bif Nat.blt m 1283 then (bif Nat.blt m 1210 then (bif Nat.blt m 1178 then (bif Nat.blt m 1162 then (bif Nat.blt m 1154 then (some .int) else (some .int)) else (bif Nat.blt m 1169 then none else (some .int))) else (bif Nat.blt m 1195 then (bif Nat.blt m 1187 then (some .int) else (some .int)) else (bif Nat.blt m 1200 then (some .int) else (some .int)))) else (bif Nat.blt m 1240 then (bif Nat.blt m 1226 then (bif Nat.blt m 1217 then (some .int) else (some .boolean)) else (bif Nat.blt m 1233 then (some .int) else (some .int))) else (bif Nat.blt m 1258 then (bif Nat.blt m 1251 then (some .int) else (some .int)) else (bif Nat.blt m 1266 then (some .long) else (bif Nat.blt m 1275 then (some .long) else (some .long)))))) else (bif Nat.blt m 1354 then (bif Nat.blt m 1314 then (bif Nat.blt m 1298 then (bif Nat.blt m 1290 then (some .long) else (some .long)) else (bif Nat.blt m 1306 then (some .int) else none)) else (bif Nat.blt m 1331 then (bif Nat.blt m 1322 then (some .int) else (some .boolean)) else (bif Nat.blt m 1337 then (some .int) else (bif Nat.blt m 1348 then (some .int) else (some .int))))) else (bif Nat.blt m 1387 then (bif Nat.blt m 1371 then (bif Nat.blt m 1363 then (some .int) else (some .int)) else (bif Nat.blt m 1379 then (some .int) else (some .int))) else (bif Nat.blt m 1402 then (bif Nat.blt m 1394 then (some .int) else (some .boolean)) else (bif Nat.blt m 1409 then (some .int) else (bif Nat.blt m 1418 then (some .int) else (some .boolean))))))) else (bif Nat.blt m 1569 then (bif Nat.blt m 1497 then (bif Nat.blt m 1457 then (bif Nat.blt m 1441 then (bif Nat.blt m 1433 then (some .int) else (some .int)) else (bif Nat.blt m 1449 then (some .int) else none)) else (bif Nat.blt m 1473 then (bif Nat.blt m 1465 then (some .int) else (some .int)) else (bif Nat.blt m 1481 then (some .int) else (bif Nat.blt m 1489 then (some .int) else (some .int))))) else (bif Nat.blt m 1528 then (bif Nat.blt m 1513 then (bif Nat.blt m 1505 then (some .int) else (some .int)) else (bif Nat.blt m 1521 then (some .int) else (some .int))) else (bif Nat.blt m 1544 then (bif Nat.blt m 1536 then (some .int) else (some .int)) else (bif Nat.blt m 1552 then (some .int) else (bif Nat.blt m 1560 then (some .int) else (some .int)))))) else (bif Nat.blt m 1641 then (bif Nat.blt m 1601 then (bif Nat.blt m 1588 then (bif Nat.blt m 1576 then none else none) else (bif Nat.blt m 1593 then (some .int) else none)) else (bif Nat.blt m 1617 then (bif Nat.blt m 1609 then (some .int) else (some .int)) else (bif Nat.blt m 1626 then (some .int) else (bif Nat.blt m 1633 then (some .int) else (some (.object "DreamNets$Boat")))))) else (bif Nat.blt m 1672 then (bif Nat.blt m 1657 then (bif Nat.blt m 1649 then (some .int) else (some .boolean)) else (bif Nat.blt m 1664 then (some .int) else none)) else (bif Nat.blt m 1688 then (bif Nat.blt m 1681 then none else (some .int)) else (bif Nat.blt m 1696 then (some .int) else (bif Nat.blt m 1704 then (some .int) else (some .int)))))))) else (bif Nat.blt m 2002 then (bif Nat.blt m 1857 then (bif Nat.blt m 1784 then (bif Nat.blt m 1744 then (bif Nat.blt m 1730 then (bif Nat.blt m 1722 then (some .int) else (some .int)) else (bif Nat.blt m 1737 then (some .int) else (some .int))) else (bif Nat.blt m 1760 then (bif Nat.blt m 1752 then (some .int) else (some .int)) else (bif Nat.blt m 1769 then none else (bif Nat.blt m 1777 then none else (some .boolean))))) else (bif Nat.blt m 1817 then (bif Nat.blt m 1801 then (bif Nat.blt m 1793 then none else (some .boolean)) else (bif Nat.blt m 1808 then (some .boolean) else none)) else (bif Nat.blt m 1833 then (bif Nat.blt m 1825 then (some .boolean) else (some (.object "java/lang/String"))) else (bif Nat.blt m 1842 then (some .boolean) else (bif Nat.blt m 1850 then (some .boolean) else (some .boolean)))))) else (bif Nat.blt m 1930 then (bif Nat.blt m 1888 then (bif Nat.blt m 1873 then (bif Nat.blt m 1864 then (some .boolean) else (some .boolean)) else (bif Nat.blt m 1884 then (some .boolean) else (some .boolean))) else (bif Nat.blt m 1905 then (bif Nat.blt m 1897 then (some .int) else (some (.object "java/lang/String"))) else (bif Nat.blt m 1913 then (some .boolean) else (bif Nat.blt m 1920 then (some .boolean) else none)))) else (bif Nat.blt m 1960 then (bif Nat.blt m 1946 then (bif Nat.blt m 1937 then none else none) else (bif Nat.blt m 1953 then none else (some .long))) else (bif Nat.blt m 1978 then (bif Nat.blt m 1971 then none else (some .int)) else (bif Nat.blt m 1985 then (some .int) else (bif Nat.blt m 1994 then (some .boolean) else (some .int))))))) else (bif Nat.blt m 2146 then (bif Nat.blt m 2075 then (bif Nat.blt m 2035 then (bif Nat.blt m 2018 then (bif Nat.blt m 2010 then (some .int) else (some .int)) else (bif Nat.blt m 2024 then (some .int) else none)) else (bif Nat.blt m 2049 then (bif Nat.blt m 2042 then (some .int) else (some .int)) else (bif Nat.blt m 2058 then (some .boolean) else (bif Nat.blt m 2064 then (some .int) else none)))) else (bif Nat.blt m 2106 then (bif Nat.blt m 2089 then (bif Nat.blt m 2082 then (some .int) else (some .int)) else (bif Nat.blt m 2098 then (some .boolean) else (some .int))) else (bif Nat.blt m 2123 then (bif Nat.blt m 2112 then (some .int) else none) else (bif Nat.blt m 2130 then (some .int) else (bif Nat.blt m 2137 then (some .int) else (some .boolean)))))) else (bif Nat.blt m 2219 then (bif Nat.blt m 2178 then (bif Nat.blt m 2160 then (bif Nat.blt m 2154 then (some .int) else (some .int)) else (bif Nat.blt m 2171 then none else (some .int))) else (bif Nat.blt m 2194 then (bif Nat.blt m 2185 then (some .int) else (some .boolean)) else (bif Nat.blt m 2202 then (some .int) else (bif Nat.blt m 2208 then (some .int) else none)))) else (bif Nat.blt m 2250 then (bif Nat.blt m 2233 then (bif Nat.blt m 2226 then (some .int) else (some .int)) else (bif Nat.blt m 2242 then (some .boolean) else (some .int))) else (bif Nat.blt m 2265 then (bif Nat.blt m 2257 then (some .int) else none) else (bif Nat.blt m 2273 then none else (bif Nat.blt m 2281 then (some .int) else (some .boolean))))))))))
/-- the places of the words of a method: code, initialized, static or instanceMethod, selects -/
def pmw (m : Nat) : Nat × Nat × Nat × Nat := (bif Nat.blt m 1144 then (bif Nat.blt m 568 then (bif Nat.blt m 282 then (bif Nat.blt m 137 then (bif Nat.blt m 66 then (bif Nat.blt m 32 then (bif Nat.blt m 18 then (bif Nat.blt m 8 then (100, 76, 99, 0) else (169, 76, 168, 0)) else (bif Nat.blt m 27 then (384, 76, 382, 383) else (387, 76, 386, 0))) else (bif Nat.blt m 51 then (bif Nat.blt m 42 then (395, 76, 393, 394) else (546, 76, 544, 545)) else (bif Nat.blt m 57 then (552, 76, 551, 0) else (556, 76, 554, 555)))) else (bif Nat.blt m 98 then (bif Nat.blt m 82 then (bif Nat.blt m 73 then (560, 76, 558, 559) else (563, 76, 562, 0)) else (bif Nat.blt m 89 then (567, 76, 565, 566) else (570, 76, 569, 0))) else (bif Nat.blt m 113 then (bif Nat.blt m 106 then (574, 76, 572, 573) else (582, 76, 580, 581)) else (bif Nat.blt m 123 then (585, 76, 584, 0) else (bif Nat.blt m 132 then (593, 76, 591, 592) else (597, 76, 595, 596)))))) else (bif Nat.blt m 209 then (bif Nat.blt m 170 then (bif Nat.blt m 153 then (bif Nat.blt m 146 then (600, 76, 599, 0) else (605, 76, 603, 604)) else (bif Nat.blt m 163 then (609, 76, 608, 13) else (617, 76, 615, 616))) else (bif Nat.blt m 185 then (bif Nat.blt m 178 then (621, 76, 619, 620) else (625, 76, 623, 624)) else (bif Nat.blt m 194 then (629, 76, 627, 628) else (bif Nat.blt m 201 then (633, 76, 631, 632) else (673, 76, 671, 672))))) else (bif Nat.blt m 241 then (bif Nat.blt m 225 then (bif Nat.blt m 218 then (704, 76, 702, 703) else (721, 76, 719, 720)) else (bif Nat.blt m 233 then (726, 76, 724, 725) else (730, 76, 728, 729))) else (bif Nat.blt m 256 then (bif Nat.blt m 249 then (745, 76, 743, 744) else (759, 76, 757, 758)) else (bif Nat.blt m 266 then (763, 76, 761, 762) else (bif Nat.blt m 273 then (773, 76, 771, 772) else (777, 76, 775, 776))))))) else (bif Nat.blt m 426 then (bif Nat.blt m 354 then (bif Nat.blt m 315 then (bif Nat.blt m 298 then (bif Nat.blt m 288 then (780, 76, 779, 0) else (789, 76, 788, 14)) else (bif Nat.blt m 306 then (793, 76, 791, 792) else (797, 76, 796, 15))) else (bif Nat.blt m 331 then (bif Nat.blt m 323 then (800, 76, 799, 0) else (814, 76, 812, 813)) else (bif Nat.blt m 339 then (818, 76, 816, 817) else (bif Nat.blt m 344 then (822, 76, 821, 16) else (826, 76, 824, 825))))) else (bif Nat.blt m 384 then (bif Nat.blt m 369 then (bif Nat.blt m 361 then (830, 76, 828, 829) else (833, 76, 832, 0)) else (bif Nat.blt m 376 then (837, 76, 836, 17) else (841, 76, 840, 18))) else (bif Nat.blt m 400 then (bif Nat.blt m 394 then (845, 76, 844, 19) else (849, 76, 847, 848)) else (bif Nat.blt m 411 then (863, 76, 861, 862) else (bif Nat.blt m 418 then (868, 76, 866, 867) else (872, 76, 870, 871)))))) else (bif Nat.blt m 499 then (bif Nat.blt m 458 then (bif Nat.blt m 443 then (bif Nat.blt m 435 then (877, 76, 876, 0) else (880, 76, 879, 0)) else (bif Nat.blt m 450 then (884, 76, 882, 883) else (888, 76, 886, 887))) else (bif Nat.blt m 475 then (bif Nat.blt m 466 then (900, 76, 898, 899) else (904, 76, 903, 20)) else (bif Nat.blt m 481 then (908, 76, 906, 907) else (bif Nat.blt m 492 then (912, 76, 910, 911) else (916, 76, 914, 915))))) else (bif Nat.blt m 529 then (bif Nat.blt m 515 then (bif Nat.blt m 507 then (920, 76, 918, 919) else (940, 76, 938, 939)) else (bif Nat.blt m 523 then (948, 76, 946, 947) else (952, 76, 950, 951))) else (bif Nat.blt m 547 then (bif Nat.blt m 538 then (955, 76, 954, 0) else (959, 76, 957, 958)) else (bif Nat.blt m 553 then (989, 76, 987, 988) else (bif Nat.blt m 561 then (1089, 76, 1087, 1088) else (1093, 76, 1091, 1092)))))))) else (bif Nat.blt m 857 then (bif Nat.blt m 713 then (bif Nat.blt m 641 then (bif Nat.blt m 602 then (bif Nat.blt m 584 then (bif Nat.blt m 576 then (1105, 76, 1103, 1104) else (1109, 76, 1107, 1108)) else (bif Nat.blt m 593 then (1114, 88, 1113, 0) else (1118, 88, 1117, 0))) else (bif Nat.blt m 616 then (bif Nat.blt m 611 then (1231, 88, 1229, 1230) else (1234, 88, 1233, 0)) else (bif Nat.blt m 624 then (1239, 88, 1237, 1238) else (bif Nat.blt m 633 then (1243, 88, 1242, 21) else (1247, 88, 1246, 22))))) else (bif Nat.blt m 673 then (bif Nat.blt m 656 then (bif Nat.blt m 649 then (1250, 88, 1249, 0) else (1253, 88, 1252, 0)) else (bif Nat.blt m 664 then (1260, 88, 1259, 23) else (1264, 88, 1263, 24))) else (bif Nat.blt m 690 then (bif Nat.blt m 681 then (1269, 88, 1268, 25) else (1278, 88, 1277, 26)) else (bif Nat.blt m 697 then (1282, 88, 1281, 27) else (bif Nat.blt m 704 then (1287, 88, 1286, 28) else (1292, 88, 1291, 29)))))) else (bif Nat.blt m 785 then (bif Nat.blt m 744 then (bif Nat.blt m 728 then (bif Nat.blt m 720 then (1296, 88, 1295, 30) else (1301, 88, 1300, 31)) else (bif Nat.blt m 736 then (1306, 88, 1305, 32) else (1310, 88, 1309, 33))) else (bif Nat.blt m 762 then (bif Nat.blt m 752 then (1320, 88, 1319, 34) else (1325, 88, 1324, 35)) else (bif Nat.blt m 770 then (1329, 88, 1328, 0) else (bif Nat.blt m 778 then (1333, 88, 1331, 1332) else (1337, 88, 1336, 36))))) else (bif Nat.blt m 817 then (bif Nat.blt m 801 then (bif Nat.blt m 794 then (1341, 88, 1339, 1340) else (1345, 88, 1343, 1344)) else (bif Nat.blt m 810 then (1348, 88, 1347, 0) else (1352, 88, 1350, 1351))) else (bif Nat.blt m 834 then (bif Nat.blt m 826 then (1355, 88, 1354, 0) else (1359, 88, 1357, 1358)) else (bif Nat.blt m 842 then (1363, 88, 1362, 37) else (bif Nat.blt m 849 then (1367, 88, 1365, 1366) else (1370, 88, 1369, 0))))))) else (bif Nat.blt m 1001 then (bif Nat.blt m 931 then (bif Nat.blt m 891 then (bif Nat.blt m 876 then (bif Nat.blt m 867 then (1374, 88, 1373, 38) else (1378, 88, 1376, 1377)) else (bif Nat.blt m 882 then (1382, 88, 1380, 1381) else (1385, 88, 1384, 0))) else (bif Nat.blt m 905 then (bif Nat.blt m 898 then (1389, 88, 1388, 39) else (1393, 88, 1391, 1392)) else (bif Nat.blt m 914 then (1397, 88, 1396, 40) else (bif Nat.blt m 921 then (1401, 88, 1400, 41) else (1405, 88, 1404, 42))))) else (bif Nat.blt m 962 then (bif Nat.blt m 946 then (bif Nat.blt m 938 then (1409, 88, 1407, 1408) else (1413, 88, 1411, 1412)) else (bif Nat.blt m 953 then (1417, 88, 1415, 1416) else (1421, 88, 1419, 1420))) else (bif Nat.blt m 977 then (bif Nat.blt m 970 then (1425, 88, 1423, 1424) else (1429, 88, 1428, 43)) else (bif Nat.blt m 985 then (1433, 88, 1431, 1432) else (bif Nat.blt m 993 then (1437, 88, 1436, 44) else (1441, 88, 1439, 1440)))))) else (bif Nat.blt m 1073 then (bif Nat.blt m 1034 then (bif Nat.blt m 1019 then (bif Nat.blt m 1009 then (1445, 88, 1444, 45) else (1449, 88, 1448, 46)) else (bif Nat.blt m 1027 then (1453, 88, 1452, 47) else (1456, 88, 1455, 0))) else (bif Nat.blt m 1049 then (bif Nat.blt m 1041 then (1460, 88, 1458, 1459) else (1464, 88, 1462, 1463)) else (bif Nat.blt m 1056 then (1468, 88, 1466, 1467) else (bif Nat.blt m 1065 then (1472, 88, 1471, 48) else (1476, 88, 1474, 1475))))) else (bif Nat.blt m 1104 then (bif Nat.blt m 1089 then (bif Nat.blt m 1080 then (1480, 88, 1479, 49) else (1484, 88, 1483, 50)) else (bif Nat.blt m 1096 then (1489, 88, 1487, 1488) else (1493, 88, 1491, 1492))) else (bif Nat.blt m 1121 then (bif Nat.blt m 1114 then (1497, 88, 1496, 51) else (1501, 88, 1499, 1500)) else (bif Nat.blt m 1129 then (1505, 88, 1503, 1504) else (bif Nat.blt m 1136 then (1509, 88, 1508, 52) else (1513, 88, 1512, 53))))))))) else (bif Nat.blt m 1713 then (bif Nat.blt m 1427 then (bif Nat.blt m 1283 then (bif Nat.blt m 1210 then (bif Nat.blt m 1178 then (bif Nat.blt m 1162 then (bif Nat.blt m 1154 then (1517, 88, 1516, 54) else (1521, 88, 1519, 1520)) else (bif Nat.blt m 1169 then (1525, 88, 1524, 55) else (1528, 88, 1527, 0))) else (bif Nat.blt m 1195 then (bif Nat.blt m 1187 then (1531, 88, 1530, 0) else (1535, 88, 1533, 1534)) else (bif Nat.blt m 1200 then (1539, 88, 1537, 1538) else (1543, 88, 1541, 1542)))) else (bif Nat.blt m 1240 then (bif Nat.blt m 1226 then (bif Nat.blt m 1217 then (1547, 88, 1545, 1546) else (1550, 88, 1549, 0)) else (bif Nat.blt m 1233 then (1554, 88, 1552, 1553) else (1557, 88, 1556, 0))) else (bif Nat.blt m 1258 then (bif Nat.blt m 1251 then (1561, 88, 1559, 1560) else (1566, 88, 1564, 1565)) else (bif Nat.blt m 1266 then (1570, 88, 1568, 1569) else (bif Nat.blt m 1275 then (1573, 88, 1572, 0) else (1576, 88, 1575, 0)))))) else (bif Nat.blt m 1354 then (bif Nat.blt m 1314 then (bif Nat.blt m 1298 then (bif Nat.blt m 1290 then (1580, 88, 1578, 1579) else (1584, 88, 1583, 56)) else (bif Nat.blt m 1306 then (1588, 88, 1586, 1587) else (1592, 88, 1591, 57))) else (bif Nat.blt m 1331 then (bif Nat.blt m 1322 then (1596, 88, 1594, 1595) else (1600, 88, 1599, 58)) else (bif Nat.blt m 1337 then (1604, 88, 1602, 1603) else (bif Nat.blt m 1348 then (1608, 88, 1606, 1607) else (1612, 88, 1610, 1611))))) else (bif Nat.blt m 1387 then (bif Nat.blt m 1371 then (bif Nat.blt m 1363 then (1616, 88, 1615, 59) else (1620, 88, 1618, 1619)) else (bif Nat.blt m 1379 then (1624, 88, 1622, 1623) else (1628, 88, 1626, 1627))) else (bif Nat.blt m 1402 then (bif Nat.blt m 1394 then (1632, 88, 1630, 1631) else (1636, 88, 1635, 60)) else (bif Nat.blt m 1409 then (1640, 88, 1638, 1639) else (bif Nat.blt m 1418 then (1644, 88, 1643, 61) else (1647, 88, 1646, 0))))))) else (bif Nat.blt m 1569 then (bif Nat.blt m 1497 then (bif Nat.blt m 1457 then (bif Nat.blt m 1441 then (bif Nat.blt m 1433 then (1651, 88, 1649, 1650) else (1655, 88, 1654, 62)) else (bif Nat.blt m 1449 then (1659, 88, 1658, 63) else (1663, 88, 1662, 64))) else (bif Nat.blt m 1473 then (bif Nat.blt m 1465 then (1667, 88, 1666, 65) else (1671, 88, 1670, 66)) else (bif Nat.blt m 1481 then (1675, 88, 1674, 67) else (bif Nat.blt m 1489 then (1679, 88, 1678, 68) else (1683, 88, 1682, 69))))) else (bif Nat.blt m 1528 then (bif Nat.blt m 1513 then (bif Nat.blt m 1505 then (1687, 88, 1686, 70) else (1691, 88, 1690, 71)) else (bif Nat.blt m 1521 then (1695, 88, 1693, 1694) else (1699, 88, 1697, 1698))) else (bif Nat.blt m 1544 then (bif Nat.blt m 1536 then (1703, 88, 1702, 72) else (1707, 88, 1706, 73)) else (bif Nat.blt m 1552 then (1711, 88, 1710, 74) else (bif Nat.blt m 1560 then (1715, 88, 1713, 1714) else (1719, 88, 1717, 1718)))))) else (bif Nat.blt m 1641 then (bif Nat.blt m 1601 then (bif Nat.blt m 1588 then (bif Nat.blt m 1576 then (218, 85, 217, 0) else (223, 85, 221, 222)) else (bif Nat.blt m 1593 then (502, 85, 500, 501) else (541, 85, 539, 540))) else (bif Nat.blt m 1617 then (bif Nat.blt m 1609 then (578, 85, 576, 577) else (589, 85, 587, 588)) else (bif Nat.blt m 1626 then (613, 85, 611, 612) else (bif Nat.blt m 1633 then (637, 85, 635, 636) else (641, 85, 639, 640))))) else (bif Nat.blt m 1672 then (bif Nat.blt m 1657 then (bif Nat.blt m 1649 then (677, 85, 675, 676) else (708, 85, 706, 707)) else (bif Nat.blt m 1664 then (712, 85, 710, 711) else (734, 85, 732, 733))) else (bif Nat.blt m 1688 then (bif Nat.blt m 1681 then (741, 85, 739, 740) else (749, 85, 747, 748)) else (bif Nat.blt m 1696 then (753, 85, 751, 752) else (bif Nat.blt m 1704 then (767, 85, 765, 766) else (784, 85, 782, 783)))))))) else (bif Nat.blt m 2002 then (bif Nat.blt m 1857 then (bif Nat.blt m 1784 then (bif Nat.blt m 1744 then (bif Nat.blt m 1730 then (bif Nat.blt m 1722 then (809, 85, 807, 808) else (859, 85, 857, 858)) else (bif Nat.blt m 1737 then (892, 85, 890, 891) else (896, 85, 894, 895))) else (bif Nat.blt m 1760 then (bif Nat.blt m 1752 then (1097, 85, 1095, 1096) else (1101, 85, 1099, 1100)) else (bif Nat.blt m 1769 then (108, 77, 107, 0) else (bif Nat.blt m 1777 then (391, 77, 389, 390) else (400, 77, 398, 399))))) else (bif Nat.blt m 1817 then (bif Nat.blt m 1801 then (bif Nat.blt m 1793 then (404, 77, 403, 0) else (407, 77, 406, 0)) else (bif Nat.blt m 1808 then (410, 77, 409, 0) else (414, 77, 413, 1))) else (bif Nat.blt m 1833 then (bif Nat.blt m 1825 then (418, 77, 417, 2) else (421, 77, 420, 0)) else (bif Nat.blt m 1842 then (431, 77, 430, 3) else (bif Nat.blt m 1850 then (483, 77, 482, 4) else (487, 77, 486, 5)))))) else (bif Nat.blt m 1930 then (bif Nat.blt m 1888 then (bif Nat.blt m 1873 then (bif Nat.blt m 1864 then (493, 77, 492, 6) else (498, 77, 497, 7)) else (bif Nat.blt m 1884 then (507, 77, 506, 8) else (512, 77, 511, 9))) else (bif Nat.blt m 1905 then (bif Nat.blt m 1897 then (516, 77, 515, 10) else (519, 77, 518, 0)) else (bif Nat.blt m 1913 then (529, 77, 528, 11) else (bif Nat.blt m 1920 then (534, 77, 533, 12) else (136, 78, 135, 0))))) else (bif Nat.blt m 1960 then (bif Nat.blt m 1946 then (bif Nat.blt m 1937 then (993, 78, 991, 992) else (1004, 78, 1002, 1003)) else (bif Nat.blt m 1953 then (924, 95, 923, 0) else (944, 95, 942, 943))) else (bif Nat.blt m 1978 then (bif Nat.blt m 1971 then (175, 79, 174, 0) else (666, 79, 643, 644)) else (bif Nat.blt m 1985 then (700, 79, 679, 680) else (bif Nat.blt m 1994 then (985, 79, 962, 963) else (1020, 79, 995, 996))))))) else (bif Nat.blt m 2146 then (bif Nat.blt m 2075 then (bif Nat.blt m 2035 then (bif Nat.blt m 2018 then (bif Nat.blt m 2010 then (1041, 79, 1023, 1024) else (1064, 79, 1044, 1045)) else (bif Nat.blt m 2024 then (1084, 79, 1066, 1067) else (183, 80, 182, 0))) else (bif Nat.blt m 2049 then (bif Nat.blt m 2042 then (660, 80, 659, 0) else (695, 80, 694, 0)) else (bif Nat.blt m 2058 then (979, 80, 978, 0) else (bif Nat.blt m 2064 then (1037, 80, 1036, 0) else (190, 81, 189, 0))))) else (bif Nat.blt m 2106 then (bif Nat.blt m 2089 then (bif Nat.blt m 2082 then (651, 81, 650, 0) else (687, 81, 686, 0)) else (bif Nat.blt m 2098 then (970, 81, 969, 0) else (1007, 81, 1006, 0))) else (bif Nat.blt m 2123 then (bif Nat.blt m 2112 then (1071, 81, 1070, 0) else (197, 82, 196, 0)) else (bif Nat.blt m 2130 then (664, 82, 663, 0) else (bif Nat.blt m 2137 then (698, 82, 697, 0) else (983, 82, 982, 0)))))) else (bif Nat.blt m 2219 then (bif Nat.blt m 2178 then (bif Nat.blt m 2160 then (bif Nat.blt m 2154 then (1015, 82, 1014, 0) else (1060, 82, 1059, 0)) else (bif Nat.blt m 2171 then (204, 83, 203, 0) else (648, 83, 647, 0))) else (bif Nat.blt m 2194 then (bif Nat.blt m 2185 then (684, 83, 683, 0) else (967, 83, 966, 0)) else (bif Nat.blt m 2202 then (1000, 83, 999, 1728) else (bif Nat.blt m 2208 then (1028, 83, 1027, 0) else (211, 84, 210, 0))))) else (bif Nat.blt m 2250 then (bif Nat.blt m 2233 then (bif Nat.blt m 2226 then (656, 84, 655, 0) else (692, 84, 691, 0)) else (bif Nat.blt m 2242 then (975, 84, 974, 0) else (1051, 84, 1050, 0))) else (bif Nat.blt m 2265 then (bif Nat.blt m 2257 then (1080, 84, 1079, 0) else (313, 87, 312, 0)) else (bif Nat.blt m 2273 then (804, 87, 802, 803) else (bif Nat.blt m 2281 then (852, 94, 851, 0) else (0, 75, 0, 0))))))))))
def pst (m : Nat) : Bool := (bif Nat.blt m 1144 then (bif Nat.blt m 568 then (bif Nat.blt m 282 then (bif Nat.blt m 137 then (bif Nat.blt m 66 then (bif Nat.blt m 32 then (bif Nat.blt m 18 then (bif Nat.blt m 8 then false else true) else (bif Nat.blt m 27 then false else true)) else (bif Nat.blt m 51 then (bif Nat.blt m 42 then false else false) else (bif Nat.blt m 57 then true else false))) else (bif Nat.blt m 98 then (bif Nat.blt m 82 then (bif Nat.blt m 73 then false else true) else (bif Nat.blt m 89 then false else true)) else (bif Nat.blt m 113 then (bif Nat.blt m 106 then false else false) else (bif Nat.blt m 123 then true else (bif Nat.blt m 132 then false else false))))) else (bif Nat.blt m 209 then (bif Nat.blt m 170 then (bif Nat.blt m 153 then (bif Nat.blt m 146 then true else false) else (bif Nat.blt m 163 then false else false)) else (bif Nat.blt m 185 then (bif Nat.blt m 178 then false else false) else (bif Nat.blt m 194 then false else (bif Nat.blt m 201 then false else false)))) else (bif Nat.blt m 241 then (bif Nat.blt m 225 then (bif Nat.blt m 218 then false else false) else (bif Nat.blt m 233 then false else false)) else (bif Nat.blt m 256 then (bif Nat.blt m 249 then false else false) else (bif Nat.blt m 266 then false else (bif Nat.blt m 273 then false else false)))))) else (bif Nat.blt m 426 then (bif Nat.blt m 354 then (bif Nat.blt m 315 then (bif Nat.blt m 298 then (bif Nat.blt m 288 then true else false) else (bif Nat.blt m 306 then false else false)) else (bif Nat.blt m 331 then (bif Nat.blt m 323 then true else false) else (bif Nat.blt m 339 then false else (bif Nat.blt m 344 then false else false)))) else (bif Nat.blt m 384 then (bif Nat.blt m 369 then (bif Nat.blt m 361 then false else true) else (bif Nat.blt m 376 then false else false)) else (bif Nat.blt m 400 then (bif Nat.blt m 394 then false else false) else (bif Nat.blt m 411 then false else (bif Nat.blt m 418 then false else false))))) else (bif Nat.blt m 499 then (bif Nat.blt m 458 then (bif Nat.blt m 443 then (bif Nat.blt m 435 then true else true) else (bif Nat.blt m 450 then false else false)) else (bif Nat.blt m 475 then (bif Nat.blt m 466 then false else false) else (bif Nat.blt m 481 then false else (bif Nat.blt m 492 then false else false)))) else (bif Nat.blt m 529 then (bif Nat.blt m 515 then (bif Nat.blt m 507 then false else false) else (bif Nat.blt m 523 then false else false)) else (bif Nat.blt m 547 then (bif Nat.blt m 538 then true else false) else (bif Nat.blt m 553 then false else (bif Nat.blt m 561 then false else false))))))) else (bif Nat.blt m 857 then (bif Nat.blt m 713 then (bif Nat.blt m 641 then (bif Nat.blt m 602 then (bif Nat.blt m 584 then (bif Nat.blt m 576 then false else false) else (bif Nat.blt m 593 then false else true)) else (bif Nat.blt m 616 then (bif Nat.blt m 611 then false else true) else (bif Nat.blt m 624 then false else (bif Nat.blt m 633 then false else false)))) else (bif Nat.blt m 673 then (bif Nat.blt m 656 then (bif Nat.blt m 649 then true else true) else (bif Nat.blt m 664 then false else false)) else (bif Nat.blt m 690 then (bif Nat.blt m 681 then false else false) else (bif Nat.blt m 697 then false else (bif Nat.blt m 704 then false else false))))) else (bif Nat.blt m 785 then (bif Nat.blt m 744 then (bif Nat.blt m 728 then (bif Nat.blt m 720 then false else false) else (bif Nat.blt m 736 then false else false)) else (bif Nat.blt m 762 then (bif Nat.blt m 752 then false else false) else (bif Nat.blt m 770 then true else (bif Nat.blt m 778 then false else false)))) else (bif Nat.blt m 817 then (bif Nat.blt m 801 then (bif Nat.blt m 794 then false else false) else (bif Nat.blt m 810 then true else false)) else (bif Nat.blt m 834 then (bif Nat.blt m 826 then true else false) else (bif Nat.blt m 842 then false else (bif Nat.blt m 849 then false else true)))))) else (bif Nat.blt m 1001 then (bif Nat.blt m 931 then (bif Nat.blt m 891 then (bif Nat.blt m 876 then (bif Nat.blt m 867 then false else false) else (bif Nat.blt m 882 then false else true)) else (bif Nat.blt m 905 then (bif Nat.blt m 898 then false else false) else (bif Nat.blt m 914 then false else (bif Nat.blt m 921 then false else false)))) else (bif Nat.blt m 962 then (bif Nat.blt m 946 then (bif Nat.blt m 938 then false else false) else (bif Nat.blt m 953 then false else false)) else (bif Nat.blt m 977 then (bif Nat.blt m 970 then false else false) else (bif Nat.blt m 985 then false else (bif Nat.blt m 993 then false else false))))) else (bif Nat.blt m 1073 then (bif Nat.blt m 1034 then (bif Nat.blt m 1019 then (bif Nat.blt m 1009 then false else false) else (bif Nat.blt m 1027 then false else true)) else (bif Nat.blt m 1049 then (bif Nat.blt m 1041 then false else false) else (bif Nat.blt m 1056 then false else (bif Nat.blt m 1065 then false else false)))) else (bif Nat.blt m 1104 then (bif Nat.blt m 1089 then (bif Nat.blt m 1080 then false else false) else (bif Nat.blt m 1096 then false else false)) else (bif Nat.blt m 1121 then (bif Nat.blt m 1114 then false else false) else (bif Nat.blt m 1129 then false else (bif Nat.blt m 1136 then false else false)))))))) else (bif Nat.blt m 1713 then (bif Nat.blt m 1427 then (bif Nat.blt m 1283 then (bif Nat.blt m 1210 then (bif Nat.blt m 1178 then (bif Nat.blt m 1162 then (bif Nat.blt m 1154 then false else false) else (bif Nat.blt m 1169 then false else true)) else (bif Nat.blt m 1195 then (bif Nat.blt m 1187 then true else false) else (bif Nat.blt m 1200 then false else false))) else (bif Nat.blt m 1240 then (bif Nat.blt m 1226 then (bif Nat.blt m 1217 then false else true) else (bif Nat.blt m 1233 then false else true)) else (bif Nat.blt m 1258 then (bif Nat.blt m 1251 then false else false) else (bif Nat.blt m 1266 then false else (bif Nat.blt m 1275 then true else true))))) else (bif Nat.blt m 1354 then (bif Nat.blt m 1314 then (bif Nat.blt m 1298 then (bif Nat.blt m 1290 then false else false) else (bif Nat.blt m 1306 then false else false)) else (bif Nat.blt m 1331 then (bif Nat.blt m 1322 then false else false) else (bif Nat.blt m 1337 then false else (bif Nat.blt m 1348 then false else false)))) else (bif Nat.blt m 1387 then (bif Nat.blt m 1371 then (bif Nat.blt m 1363 then false else false) else (bif Nat.blt m 1379 then false else false)) else (bif Nat.blt m 1402 then (bif Nat.blt m 1394 then false else false) else (bif Nat.blt m 1409 then false else (bif Nat.blt m 1418 then false else true)))))) else (bif Nat.blt m 1569 then (bif Nat.blt m 1497 then (bif Nat.blt m 1457 then (bif Nat.blt m 1441 then (bif Nat.blt m 1433 then false else false) else (bif Nat.blt m 1449 then false else false)) else (bif Nat.blt m 1473 then (bif Nat.blt m 1465 then false else false) else (bif Nat.blt m 1481 then false else (bif Nat.blt m 1489 then false else false)))) else (bif Nat.blt m 1528 then (bif Nat.blt m 1513 then (bif Nat.blt m 1505 then false else false) else (bif Nat.blt m 1521 then false else false)) else (bif Nat.blt m 1544 then (bif Nat.blt m 1536 then false else false) else (bif Nat.blt m 1552 then false else (bif Nat.blt m 1560 then false else false))))) else (bif Nat.blt m 1641 then (bif Nat.blt m 1601 then (bif Nat.blt m 1588 then (bif Nat.blt m 1576 then false else false) else (bif Nat.blt m 1593 then false else false)) else (bif Nat.blt m 1617 then (bif Nat.blt m 1609 then false else false) else (bif Nat.blt m 1626 then false else (bif Nat.blt m 1633 then false else false)))) else (bif Nat.blt m 1672 then (bif Nat.blt m 1657 then (bif Nat.blt m 1649 then false else false) else (bif Nat.blt m 1664 then false else false)) else (bif Nat.blt m 1688 then (bif Nat.blt m 1681 then false else false) else (bif Nat.blt m 1696 then false else (bif Nat.blt m 1704 then false else false))))))) else (bif Nat.blt m 2002 then (bif Nat.blt m 1857 then (bif Nat.blt m 1784 then (bif Nat.blt m 1744 then (bif Nat.blt m 1730 then (bif Nat.blt m 1722 then false else false) else (bif Nat.blt m 1737 then false else false)) else (bif Nat.blt m 1760 then (bif Nat.blt m 1752 then false else false) else (bif Nat.blt m 1769 then false else (bif Nat.blt m 1777 then false else false)))) else (bif Nat.blt m 1817 then (bif Nat.blt m 1801 then (bif Nat.blt m 1793 then false else true) else (bif Nat.blt m 1808 then true else false)) else (bif Nat.blt m 1833 then (bif Nat.blt m 1825 then false else true) else (bif Nat.blt m 1842 then false else (bif Nat.blt m 1850 then false else false))))) else (bif Nat.blt m 1930 then (bif Nat.blt m 1888 then (bif Nat.blt m 1873 then (bif Nat.blt m 1864 then false else false) else (bif Nat.blt m 1884 then false else false)) else (bif Nat.blt m 1905 then (bif Nat.blt m 1897 then false else true) else (bif Nat.blt m 1913 then false else (bif Nat.blt m 1920 then false else false)))) else (bif Nat.blt m 1960 then (bif Nat.blt m 1946 then (bif Nat.blt m 1937 then false else false) else (bif Nat.blt m 1953 then false else false)) else (bif Nat.blt m 1978 then (bif Nat.blt m 1971 then false else false) else (bif Nat.blt m 1985 then false else (bif Nat.blt m 1994 then false else false)))))) else (bif Nat.blt m 2146 then (bif Nat.blt m 2075 then (bif Nat.blt m 2035 then (bif Nat.blt m 2018 then (bif Nat.blt m 2010 then false else false) else (bif Nat.blt m 2024 then false else false)) else (bif Nat.blt m 2049 then (bif Nat.blt m 2042 then false else false) else (bif Nat.blt m 2058 then false else (bif Nat.blt m 2064 then false else false)))) else (bif Nat.blt m 2106 then (bif Nat.blt m 2089 then (bif Nat.blt m 2082 then false else false) else (bif Nat.blt m 2098 then false else false)) else (bif Nat.blt m 2123 then (bif Nat.blt m 2112 then false else false) else (bif Nat.blt m 2130 then false else (bif Nat.blt m 2137 then false else false))))) else (bif Nat.blt m 2219 then (bif Nat.blt m 2178 then (bif Nat.blt m 2160 then (bif Nat.blt m 2154 then false else false) else (bif Nat.blt m 2171 then false else false)) else (bif Nat.blt m 2194 then (bif Nat.blt m 2185 then false else false) else (bif Nat.blt m 2202 then false else (bif Nat.blt m 2208 then false else false)))) else (bif Nat.blt m 2250 then (bif Nat.blt m 2233 then (bif Nat.blt m 2226 then false else false) else (bif Nat.blt m 2242 then false else false)) else (bif Nat.blt m 2265 then (bif Nat.blt m 2257 then false else false) else (bif Nat.blt m 2273 then false else (bif Nat.blt m 2281 then true else false)))))))))
def pxn (x : Nat) : MethodName := (bif Nat.blt x 32 then (bif Nat.blt x 16 then (bif Nat.blt x 8 then ⟨"DreamNets$Boat", "isUnder", "(I)Z"⟩ else ⟨"DreamNets$Boat", "drags", "(LDreamNets$Acting;I)I"⟩) else (bif Nat.blt x 24 then ⟨"DreamNets$Boat", "lands", "(LDreamNets$Acting;I)I"⟩ else ⟨"DreamNets$Boat", "mends", "(LDreamNets$Acting;I)I"⟩)) else (bif Nat.blt x 48 then (bif Nat.blt x 40 then ⟨"DreamNets$Boat", "hums", "(LDreamNets$Acting;I)I"⟩ else ⟨"DreamNets$Boat", "catchOf", "(III)I"⟩) else (bif Nat.blt x 56 then ⟨"DreamNets$Boat", "tearBy", "(II)I"⟩ else (bif Nat.blt x 64 then ⟨"DreamNets$Drifter", "mends", "(LDreamNets$Acting;I)I"⟩ else ⟨"DreamNets$Poacher", "drags", "(LDreamNets$Acting;I)I"⟩))))
def pxo (x : Nat) : Nat × Nat × Nat := (bif Nat.blt x 32 then (bif Nat.blt x 16 then (bif Nat.blt x 8 then (1985, 964, 962) else (1994, 997, 995)) else (bif Nat.blt x 24 then (2002, 1025, 1023) else (2010, 1046, 1044))) else (bif Nat.blt x 48 then (bif Nat.blt x 40 then (2018, 1068, 1066) else (1971, 645, 643)) else (bif Nat.blt x 56 then (1978, 681, 679) else (bif Nat.blt x 64 then (2010, 1074, 1044) else (1994, 1055, 995)))))
def pxs (x t : Nat) : Nat := (bif Nat.blt x 32 then (bif Nat.blt x 16 then (bif Nat.blt x 8 then (bif Nat.beq t 10 then 981 else (bif Nat.beq t 7 then 977 else (bif Nat.beq t 5 then 973 else (bif Nat.beq t 4 then 972 else (bif Nat.beq t 3 then 965 else (bif Nat.beq t 2 then 963 else 0)))))) else (bif Nat.beq t 10 then 1013 else (bif Nat.beq t 7 then 1012 else (bif Nat.beq t 5 then 1011 else (bif Nat.beq t 4 then 1010 else (bif Nat.beq t 3 then 998 else (bif Nat.beq t 2 then 996 else 0))))))) else (bif Nat.blt x 24 then (bif Nat.beq t 10 then 1040 else (bif Nat.beq t 7 then 1035 else (bif Nat.beq t 5 then 1034 else (bif Nat.beq t 4 then 1033 else (bif Nat.beq t 3 then 1026 else (bif Nat.beq t 2 then 1024 else 0)))))) else (bif Nat.beq t 10 then 1058 else (bif Nat.beq t 7 then 1057 else (bif Nat.beq t 5 then 1049 else (bif Nat.beq t 4 then 1048 else (bif Nat.beq t 3 then 1047 else (bif Nat.beq t 2 then 1045 else 0)))))))) else (bif Nat.blt x 48 then (bif Nat.blt x 40 then (bif Nat.beq t 10 then 1083 else (bif Nat.beq t 7 then 1082 else (bif Nat.beq t 5 then 1078 else (bif Nat.beq t 4 then 1077 else (bif Nat.beq t 3 then 1069 else (bif Nat.beq t 2 then 1067 else 0)))))) else (bif Nat.beq t 10 then 662 else (bif Nat.beq t 7 then 658 else (bif Nat.beq t 5 then 654 else (bif Nat.beq t 4 then 653 else (bif Nat.beq t 3 then 646 else (bif Nat.beq t 2 then 644 else 0))))))) else (bif Nat.blt x 56 then (bif Nat.beq t 10 then 696 else (bif Nat.beq t 7 then 693 else (bif Nat.beq t 5 then 690 else (bif Nat.beq t 4 then 689 else (bif Nat.beq t 3 then 682 else (bif Nat.beq t 2 then 680 else 0)))))) else (bif Nat.blt x 64 then (bif Nat.beq t 4 then 1076 else (bif Nat.beq t 3 then 1075 else 0)) else (bif Nat.beq t 5 then 1056 else 0)))))
def r_0_0 : List (Instr × Nat × Nat) := [(.aload_n 0, 1, 0), (.invokespecial 1, 3, 101), (.aload_n 0, 1, 0), (.new 7, 3, 104), (.dup, 1, 0), (.invokespecial 9, 3, 106), (.putfield 10, 3, 345), (.aload_n 0, 1, 0), (.new 16, 3, 132), (.dup, 1, 0), (.invokespecial 18, 3, 134), (.putfield 19, 3, 346), (.aload_n 0, 1, 0), (.iconst 4, 1, 0), (.anewarray 23, 3, 165), (.putfield 25, 3, 347), (.aload_n 0, 1, 0), (.iconst 4, 1, 0), (.newarray .int, 2, 131), (.putfield 29, 3, 348), (.aload_n 0, 1, 0), (.iconst 4, 1, 0), (.anewarray 23, 3, 165), (.putfield 33, 3, 349), (.aload_n 0, 1, 0), (.bipush 30, 2, 0), (.newarray .int, 2, 131), (.putfield 36, 3, 350), (.aload_n 0, 1, 0), (.bipush 40, 2, 0), (.newarray .boolean, 2, 178), (.putfield 39, 3, 351), (.invokestatic 43, 3, 167), (.astore_n 1, 1, 0), (.aload_n 0, 1, 0), (.new 47, 3, 214), (.dup, 1, 0), (.aload_n 1, 1, 0), (.invokespecial 49, 3, 216), (.putfield 52, 3, 341), (.aload_n 0, 1, 0), (.new 47, 3, 214), (.dup, 1, 0), (.aload_n 1, 1, 0), (.invokespecial 49, 3, 216), (.putfield 56, 3, 342), (.aload_n 0, 1, 0), (.new 47, 3, 214), (.dup, 1, 0), (.aload_n 1, 1, 0), (.invokespecial 49, 3, 216), (.putfield 59, 3, 343), (.aload_n 0, 1, 0), (.new 62, 3, 309), (.dup, 1, 0), (.aload_n 1, 1, 0), (.invokespecial 64, 3, 311), (.putfield 65, 3, 344), (.iconst 0, 1, 0), (.istore_n 2, 1, 0)]
def r_0_1 : List (Instr × Nat × Nat) := [(.iload_n 2, 1, 0), (.iconst 4, 1, 0), (.if_icmp .ge 16, 3, 0), (.aload_n 0, 1, 0), (.getfield 29, 3, 348), (.iload_n 2, 1, 0), (.iconst (-1), 1, 0), (.iastore, 1, 0), (.iinc 2 1, 3, 0), (.goto (-15), 3, 0)]
def r_0_2 : List (Instr × Nat × Nat) := [(.return_, 1, 0)]
def r_8_0 : List (Instr × Nat × Nat) := [(.bipush 6, 2, 0), (.anewarray 69, 3, 170), (.astore_n 0, 1, 0), (.aload_n 0, 1, 0), (.iconst 0, 1, 0), (.new 69, 3, 170), (.dup, 1, 0), (.invokespecial 71, 3, 173), (.aastore, 1, 0), (.aload_n 0, 1, 0), (.iconst 1, 1, 0), (.new 72, 3, 179), (.dup, 1, 0), (.invokespecial 74, 3, 181), (.aastore, 1, 0), (.aload_n 0, 1, 0), (.iconst 2, 1, 0), (.new 75, 3, 186), (.dup, 1, 0), (.invokespecial 77, 3, 188), (.aastore, 1, 0), (.aload_n 0, 1, 0), (.iconst 3, 1, 0), (.new 78, 3, 193), (.dup, 1, 0), (.invokespecial 80, 3, 195), (.aastore, 1, 0), (.aload_n 0, 1, 0), (.iconst 4, 1, 0), (.new 81, 3, 200), (.dup, 1, 0), (.invokespecial 83, 3, 202), (.aastore, 1, 0), (.aload_n 0, 1, 0), (.iconst 5, 1, 0), (.new 84, 3, 207), (.dup, 1, 0), (.invokespecial 86, 3, 209), (.aastore, 1, 0), (.aload_n 0, 1, 0), (.areturn, 1, 0)]
def r_18_0 : List (Instr × Nat × Nat) := [(.iload_n 3, 1, 0), (.iconst 1, 1, 0), (.bipush 8, 2, 0), (.invokestatic 87, 3, 385), (.ifCond .eq 5, 3, 0), (.iconst (-1), 1, 0), (.ireturn, 1, 0)]
def r_18_1 : List (Instr × Nat × Nat) := [(.aload_n 0, 1, 0), (.getfield 10, 3, 345), (.getfield 91, 3, 112), (.iload_n 3, 1, 0), (.iadd, 1, 0), (.sipush 200, 3, 0), (.if_icmp .le 6, 3, 0), (.bipush (-2), 2, 0), (.ireturn, 1, 0)]
def r_18_2 : List (Instr × Nat × Nat) := [(.iconst 0, 1, 0), (.istore 4, 2, 0)]
def r_18_3 : List (Instr × Nat × Nat) := [(.iload 4, 2, 0), (.iload_n 3, 1, 0), (.if_icmp .ge 28, 3, 0), (.aload_n 0, 1, 0), (.getfield 10, 3, 345), (.lload_n 1, 1, 0), (.bipush 8, 2, 0), (.iload 4, 2, 0), (.imul, 1, 0), (.lushr, 1, 0), (.l2i, 1, 0), (.sipush 255, 3, 0), (.iand, 1, 0), (.invokevirtual 95, 3, 388), (.iinc 4 1, 3, 0), (.goto (-28), 3, 0)]
def r_18_4 : List (Instr × Nat × Nat) := [(.aload_n 0, 1, 0), (.getfield 10, 3, 345), (.getfield 91, 3, 112), (.ireturn, 1, 0)]
def r_27_0 : List (Instr × Nat × Nat) := [(.iload_n 0, 1, 0), (.iload_n 1, 1, 0), (.if_icmp .lt 8, 3, 0), (.iload_n 0, 1, 0), (.iload_n 2, 1, 0), (.if_icmp .le 7, 3, 0)]
def r_27_1 : List (Instr × Nat × Nat) := [(.iconst 1, 1, 0), (.goto 4, 3, 0)]
def r_27_2 : List (Instr × Nat × Nat) := [(.iconst 0, 1, 0)]
def r_27_3 : List (Instr × Nat × Nat) := [(.ireturn, 1, 0)]
def r_32_0 : List (Instr × Nat × Nat) := [(.aload_n 0, 1, 0), (.getfield 59, 3, 343), (.invokevirtual 99, 3, 396), (.aload_n 0, 1, 0), (.getfield 59, 3, 343), (.aload_n 0, 1, 0), (.getfield 52, 3, 341), (.getfield 102, 3, 271), (.putfield 102, 3, 271), (.aload_n 0, 1, 0), (.getfield 10, 3, 345), (.aload_n 0, 1, 0), (.getfield 59, 3, 343), (.invokevirtual 105, 3, 397), (.istore_n 1, 1, 0), (.aload_n 0, 1, 0), (.getfield 10, 3, 345), (.iconst 0, 1, 0), (.putfield 91, 3, 112), (.iload_n 1, 1, 0), (.ifCond .ne 14, 3, 0), (.bipush (-100), 2, 0), (.aload_n 0, 1, 0), (.getfield 10, 3, 345), (.getfield 109, 3, 113), (.isub, 1, 0), (.ireturn, 1, 0)]
def r_32_1 : List (Instr × Nat × Nat) := [(.aload_n 0, 1, 0), (.getfield 52, 3, 341), (.aload_n 0, 1, 0), (.getfield 59, 3, 343), (.invokevirtual 112, 3, 538), (.aload_n 0, 1, 0), (.iconst 0, 1, 0), (.putfield 116, 3, 352), (.aload_n 0, 1, 0), (.getfield 52, 3, 341), (.getfield 119, 3, 265), (.ireturn, 1, 0)]
def r_42_0 : List (Instr × Nat × Nat) := [(.iload_n 1, 1, 0), (.iconst 0, 1, 0), (.iconst 2, 1, 0), (.invokestatic 87, 3, 385), (.ifCond .ne 20, 3, 0), (.iload_n 2, 1, 0), (.getstatic 122, 3, 547), (.iload_n 1, 1, 0), (.iaload, 1, 0), (.getstatic 125, 3, 549), (.iload_n 1, 1, 0), (.iaload, 1, 0), (.invokestatic 87, 3, 385), (.ifCond .eq 5, 3, 0)]
def r_42_1 : List (Instr × Nat × Nat) := [(.iconst (-1), 1, 0), (.ireturn, 1, 0)]
def r_42_2 : List (Instr × Nat × Nat) := [(.aload_n 0, 1, 0), (.getfield 52, 3, 341), (.getfield 128, 3, 234), (.iload_n 1, 1, 0), (.iload_n 2, 1, 0), (.invokestatic 131, 3, 550), (.ireturn, 1, 0)]
def r_51_0 : List (Instr × Nat × Nat) := [(.aload_n 0, 1, 0), (.iload_n 1, 1, 0), (.iaload, 1, 0), (.istore_n 3, 1, 0), (.aload_n 0, 1, 0), (.iload_n 1, 1, 0), (.iload_n 2, 1, 0), (.iastore, 1, 0), (.iload_n 3, 1, 0), (.ireturn, 1, 0)]
def r_57_0 : List (Instr × Nat × Nat) := [(.iload_n 1, 1, 0), (.iconst 0, 1, 0), (.iconst 2, 1, 0), (.invokestatic 87, 3, 385), (.ifCond .eq 7, 3, 0), (.iconst (-1), 1, 0), (.goto 12, 3, 0)]
def r_57_1 : List (Instr × Nat × Nat) := [(.aload_n 0, 1, 0), (.getfield 52, 3, 341), (.getfield 128, 3, 234), (.iload_n 1, 1, 0), (.iaload, 1, 0)]
def r_57_2 : List (Instr × Nat × Nat) := [(.ireturn, 1, 0)]
def r_66_0 : List (Instr × Nat × Nat) := [(.iload_n 1, 1, 0), (.invokestatic 135, 3, 561), (.ifCond .ne 13, 3, 0), (.iload_n 2, 1, 0), (.iconst 1, 1, 0), (.bipush 30, 2, 0), (.invokestatic 87, 3, 385), (.ifCond .eq 5, 3, 0)]
def r_66_1 : List (Instr × Nat × Nat) := [(.iconst (-1), 1, 0), (.ireturn, 1, 0)]
def r_66_2 : List (Instr × Nat × Nat) := [(.aload_n 0, 1, 0), (.getfield 52, 3, 341), (.getfield 139, 3, 237), (.iload_n 1, 1, 0), (.iload_n 2, 1, 0), (.invokestatic 131, 3, 550), (.ireturn, 1, 0)]
def r_73_0 : List (Instr × Nat × Nat) := [(.iload_n 0, 1, 0), (.iconst 0, 1, 0), (.iconst 4, 1, 0), (.invokestatic 87, 3, 385), (.ireturn, 1, 0)]
def r_82_0 : List (Instr × Nat × Nat) := [(.iload_n 1, 1, 0), (.invokestatic 142, 3, 568), (.ifCond .ne 14, 3, 0), (.iload_n 2, 1, 0), (.iconst 0, 1, 0), (.sipush 999, 3, 0), (.invokestatic 87, 3, 385), (.ifCond .eq 5, 3, 0)]
def r_82_1 : List (Instr × Nat × Nat) := [(.iconst (-1), 1, 0), (.ireturn, 1, 0)]
def r_82_2 : List (Instr × Nat × Nat) := [(.aload_n 0, 1, 0), (.getfield 52, 3, 341), (.getfield 145, 3, 248), (.iload_n 1, 1, 0), (.iload_n 2, 1, 0), (.invokestatic 131, 3, 550), (.ireturn, 1, 0)]
def r_89_0 : List (Instr × Nat × Nat) := [(.iload_n 0, 1, 0), (.iconst 0, 1, 0), (.iconst 3, 1, 0), (.invokestatic 87, 3, 385), (.ireturn, 1, 0)]
def r_98_0 : List (Instr × Nat × Nat) := [(.iload_n 1, 1, 0), (.invokestatic 142, 3, 568), (.ifCond .eq 5, 3, 0), (.iconst (-1), 1, 0), (.ireturn, 1, 0)]
def r_98_1 : List (Instr × Nat × Nat) := [(.iload_n 2, 1, 0), (.tableswitch 55 0 2 #[26, 36, 46], 26, 0)]
def r_98_2 : List (Instr × Nat × Nat) := [(.aload_n 0, 1, 0), (.getfield 52, 3, 341), (.getfield 145, 3, 248), (.iload_n 1, 1, 0), (.iaload, 1, 0), (.ireturn, 1, 0)]
def r_98_3 : List (Instr × Nat × Nat) := [(.aload_n 0, 1, 0), (.getfield 52, 3, 341), (.getfield 148, 3, 250), (.iload_n 1, 1, 0), (.iaload, 1, 0), (.ireturn, 1, 0)]
def r_98_4 : List (Instr × Nat × Nat) := [(.aload_n 0, 1, 0), (.getfield 52, 3, 341), (.iload_n 1, 1, 0), (.invokevirtual 151, 3, 575), (.ireturn, 1, 0)]
def r_98_5 : List (Instr × Nat × Nat) := [(.iconst (-1), 1, 0), (.ireturn, 1, 0)]
def r_106_0 : List (Instr × Nat × Nat) := [(.iload_n 1, 1, 0), (.invokestatic 155, 3, 583), (.ifCond .ne 13, 3, 0), (.iload_n 2, 1, 0), (.iconst 0, 1, 0), (.bipush 7, 2, 0), (.invokestatic 87, 3, 385), (.ifCond .eq 5, 3, 0)]
def r_106_1 : List (Instr × Nat × Nat) := [(.iconst (-1), 1, 0), (.ireturn, 1, 0)]
def r_106_2 : List (Instr × Nat × Nat) := [(.iload_n 2, 1, 0), (.tableswitch 57 5 7 #[28, 38, 48], 28, 0)]
def r_106_3 : List (Instr × Nat × Nat) := [(.aload_n 0, 1, 0), (.getfield 52, 3, 341), (.getfield 158, 3, 243), (.iload_n 1, 1, 0), (.iaload, 1, 0), (.ireturn, 1, 0)]
def r_106_4 : List (Instr × Nat × Nat) := [(.aload_n 0, 1, 0), (.getfield 52, 3, 341), (.getfield 161, 3, 245), (.iload_n 1, 1, 0), (.iaload, 1, 0), (.ireturn, 1, 0)]
def r_106_5 : List (Instr × Nat × Nat) := [(.aload_n 0, 1, 0), (.getfield 52, 3, 341), (.iload_n 1, 1, 0), (.invokevirtual 164, 3, 586), (.ireturn, 1, 0)]
def r_106_6 : List (Instr × Nat × Nat) := [(.aload_n 0, 1, 0), (.getfield 52, 3, 341), (.getfield 167, 3, 240), (.iload_n 1, 1, 0), (.iconst 5, 1, 0), (.imul, 1, 0), (.iload_n 2, 1, 0), (.iadd, 1, 0), (.iaload, 1, 0), (.ireturn, 1, 0)]
def r_113_0 : List (Instr × Nat × Nat) := [(.iload_n 0, 1, 0), (.iconst 0, 1, 0), (.bipush 7, 2, 0), (.invokestatic 87, 3, 385), (.ireturn, 1, 0)]
def r_123_0 : List (Instr × Nat × Nat) := [(.iload_n 1, 1, 0), (.invokestatic 155, 3, 583), (.ifCond .ne 12, 3, 0), (.iload_n 2, 1, 0), (.iconst 0, 1, 0), (.iconst 5, 1, 0), (.invokestatic 87, 3, 385), (.ifCond .eq 5, 3, 0)]
def r_123_1 : List (Instr × Nat × Nat) := [(.iconst (-1), 1, 0), (.ireturn, 1, 0)]
def r_123_2 : List (Instr × Nat × Nat) := [(.iload_n 3, 1, 0), (.iconst 0, 1, 0), (.iload_n 2, 1, 0), (.iconst 5, 1, 0), (.if_icmp .ne 8, 3, 0), (.bipush 9, 2, 0), (.goto 5, 3, 0)]
def r_123_3 : List (Instr × Nat × Nat) := [(.bipush 99, 2, 0)]
def r_123_4 : List (Instr × Nat × Nat) := [(.invokestatic 87, 3, 385), (.ifCond .eq 5, 3, 0), (.iconst (-1), 1, 0), (.ireturn, 1, 0)]
def r_123_5 : List (Instr × Nat × Nat) := [(.iload_n 2, 1, 0), (.iconst 5, 1, 0), (.if_icmp .ne 16, 3, 0), (.aload_n 0, 1, 0), (.getfield 52, 3, 341), (.getfield 158, 3, 243), (.iload_n 1, 1, 0), (.iload_n 3, 1, 0), (.invokestatic 131, 3, 550), (.ireturn, 1, 0)]
def r_123_6 : List (Instr × Nat × Nat) := [(.aload_n 0, 1, 0), (.getfield 52, 3, 341), (.getfield 167, 3, 240), (.iload_n 1, 1, 0), (.iconst 5, 1, 0), (.imul, 1, 0), (.iload_n 2, 1, 0), (.iadd, 1, 0), (.iload_n 3, 1, 0), (.invokestatic 131, 3, 550), (.ireturn, 1, 0)]
def r_132_0 : List (Instr × Nat × Nat) := [(.iload_n 1, 1, 0), (.invokestatic 170, 3, 598), (.ifCond .ne 31, 3, 0), (.iload_n 2, 1, 0), (.iconst 0, 1, 0), (.bipush 9, 2, 0), (.invokestatic 87, 3, 385), (.ifCond .ne 21, 3, 0), (.iload_n 3, 1, 0), (.invokestatic 155, 3, 583), (.ifCond .ne 14, 3, 0), (.iload 4, 2, 0), (.iconst 0, 1, 0), (.bipush 9, 2, 0), (.invokestatic 87, 3, 385), (.ifCond .eq 5, 3, 0)]
def r_132_1 : List (Instr × Nat × Nat) := [(.iconst (-1), 1, 0), (.ireturn, 1, 0)]
def r_132_2 : List (Instr × Nat × Nat) := [(.aload_n 0, 1, 0), (.getfield 52, 3, 341), (.getfield 119, 3, 265), (.bipush 6, 2, 0), (.if_icmp .lt 6, 3, 0), (.bipush (-2), 2, 0), (.ireturn, 1, 0)]
def r_132_3 : List (Instr × Nat × Nat) := [(.aload_n 0, 1, 0), (.getfield 52, 3, 341), (.iload_n 1, 1, 0), (.iload_n 2, 1, 0), (.iload_n 3, 1, 0), (.iload 4, 2, 0), (.invokevirtual 173, 3, 601), (.ireturn, 1, 0)]
def r_137_0 : List (Instr × Nat × Nat) := [(.iload_n 0, 1, 0), (.iconst 0, 1, 0), (.iconst 5, 1, 0), (.invokestatic 87, 3, 385), (.ireturn, 1, 0)]
def r_146_0 : List (Instr × Nat × Nat) := [(.aload_n 0, 1, 0), (.iload_n 1, 1, 0), (.invokevirtual 177, 3, 606), (.ifCond .ne 13, 3, 0), (.iload_n 2, 1, 0), (.iconst 0, 1, 0), (.bipush 10, 2, 0), (.invokestatic 87, 3, 385), (.ifCond .eq 5, 3, 0)]
def r_146_1 : List (Instr × Nat × Nat) := [(.iconst (-1), 1, 0), (.ireturn, 1, 0)]
def r_146_2 : List (Instr × Nat × Nat) := [(.iload_n 2, 1, 0), (.tableswitch 118 0 10 #[59, 69, 79, 89, 99, 118, 118, 118, 118, 118, 109], 59, 0)]
def r_146_3 : List (Instr × Nat × Nat) := [(.aload_n 0, 1, 0), (.getfield 52, 3, 341), (.getfield 180, 3, 252), (.iload_n 1, 1, 0), (.iaload, 1, 0), (.ireturn, 1, 0)]
def r_146_4 : List (Instr × Nat × Nat) := [(.aload_n 0, 1, 0), (.getfield 52, 3, 341), (.getfield 183, 3, 254), (.iload_n 1, 1, 0), (.iaload, 1, 0), (.ireturn, 1, 0)]
def r_146_5 : List (Instr × Nat × Nat) := [(.aload_n 0, 1, 0), (.getfield 52, 3, 341), (.getfield 186, 3, 256), (.iload_n 1, 1, 0), (.iaload, 1, 0), (.ireturn, 1, 0)]
def r_146_6 : List (Instr × Nat × Nat) := [(.aload_n 0, 1, 0), (.getfield 52, 3, 341), (.getfield 189, 3, 258), (.iload_n 1, 1, 0), (.iaload, 1, 0), (.ireturn, 1, 0)]
def r_146_7 : List (Instr × Nat × Nat) := [(.aload_n 0, 1, 0), (.getfield 52, 3, 341), (.getfield 192, 3, 260), (.iload_n 1, 1, 0), (.iaload, 1, 0), (.ireturn, 1, 0)]
def r_146_8 : List (Instr × Nat × Nat) := [(.aload_n 0, 1, 0), (.getfield 52, 3, 341), (.iload_n 1, 1, 0), (.invokevirtual 195, 3, 610), (.ireturn, 1, 0)]
def r_146_9 : List (Instr × Nat × Nat) := [(.aload_n 0, 1, 0), (.getfield 52, 3, 341), (.getfield 198, 3, 262), (.iload_n 1, 1, 0), (.iconst 5, 1, 0), (.imul, 1, 0), (.iload_n 2, 1, 0), (.iadd, 1, 0), (.iconst 5, 1, 0), (.isub, 1, 0), (.iaload, 1, 0), (.ireturn, 1, 0)]
def r_153_0 : List (Instr × Nat × Nat) := [(.iload_n 1, 1, 0), (.iconst 0, 1, 0), (.aload_n 0, 1, 0), (.getfield 52, 3, 341), (.getfield 119, 3, 265), (.iconst 1, 1, 0), (.isub, 1, 0), (.invokestatic 87, 3, 385), (.ireturn, 1, 0)]
def r_163_0 : List (Instr × Nat × Nat) := [(.aload_n 0, 1, 0), (.iload_n 1, 1, 0), (.invokevirtual 177, 3, 606), (.ifCond .ne 20, 3, 0), (.iload_n 2, 1, 0), (.invokestatic 170, 3, 598), (.ifCond .ne 13, 3, 0), (.iload_n 3, 1, 0), (.iconst 0, 1, 0), (.bipush 9, 2, 0), (.invokestatic 87, 3, 385), (.ifCond .eq 5, 3, 0)]
def r_163_1 : List (Instr × Nat × Nat) := [(.iconst (-1), 1, 0), (.ireturn, 1, 0)]
def r_163_2 : List (Instr × Nat × Nat) := [(.aload_n 0, 1, 0), (.getfield 52, 3, 341), (.getfield 183, 3, 254), (.iload_n 1, 1, 0), (.iload_n 3, 1, 0), (.iastore, 1, 0), (.aload_n 0, 1, 0), (.getfield 52, 3, 341), (.getfield 180, 3, 252), (.iload_n 1, 1, 0), (.iload_n 2, 1, 0), (.invokestatic 131, 3, 550), (.ireturn, 1, 0)]
def r_170_0 : List (Instr × Nat × Nat) := [(.aload_n 0, 1, 0), (.iload_n 1, 1, 0), (.invokevirtual 177, 3, 606), (.ifCond .ne 10, 3, 0), (.iload_n 2, 1, 0), (.invokestatic 155, 3, 583), (.ifCond .eq 5, 3, 0)]
def r_170_1 : List (Instr × Nat × Nat) := [(.iconst (-1), 1, 0), (.ireturn, 1, 0)]
def r_170_2 : List (Instr × Nat × Nat) := [(.aload_n 0, 1, 0), (.getfield 52, 3, 341), (.getfield 186, 3, 256), (.iload_n 1, 1, 0), (.iload_n 2, 1, 0), (.invokestatic 131, 3, 550), (.ireturn, 1, 0)]
def r_178_0 : List (Instr × Nat × Nat) := [(.aload_n 0, 1, 0), (.iload_n 1, 1, 0), (.invokevirtual 177, 3, 606), (.ifCond .ne 13, 3, 0), (.iload_n 2, 1, 0), (.iconst 0, 1, 0), (.bipush 9, 2, 0), (.invokestatic 87, 3, 385), (.ifCond .eq 5, 3, 0)]
def r_178_1 : List (Instr × Nat × Nat) := [(.iconst (-1), 1, 0), (.ireturn, 1, 0)]
def r_178_2 : List (Instr × Nat × Nat) := [(.aload_n 0, 1, 0), (.getfield 52, 3, 341), (.getfield 189, 3, 258), (.iload_n 1, 1, 0), (.iload_n 2, 1, 0), (.invokestatic 131, 3, 550), (.ireturn, 1, 0)]
def r_185_0 : List (Instr × Nat × Nat) := [(.aload_n 0, 1, 0), (.iload_n 1, 1, 0), (.invokevirtual 177, 3, 606), (.ifCond .eq 7, 3, 0), (.iconst (-1), 1, 0), (.goto 15, 3, 0)]
def r_185_1 : List (Instr × Nat × Nat) := [(.aload_n 0, 1, 0), (.getfield 52, 3, 341), (.getfield 192, 3, 260), (.iload_n 1, 1, 0), (.iconst 0, 1, 0), (.invokestatic 131, 3, 550)]
def r_185_2 : List (Instr × Nat × Nat) := [(.ireturn, 1, 0)]
def r_194_0 : List (Instr × Nat × Nat) := [(.aload_n 0, 1, 0), (.iload_n 1, 1, 0), (.invokevirtual 177, 3, 606), (.ifCond .ne 10, 3, 0), (.iload_n 2, 1, 0), (.invokestatic 135, 3, 561), (.ifCond .eq 7, 3, 0)]
def r_194_1 : List (Instr × Nat × Nat) := [(.iconst (-1), 1, 0), (.goto 12, 3, 0)]
def r_194_2 : List (Instr × Nat × Nat) := [(.aload_n 0, 1, 0), (.getfield 52, 3, 341), (.iload_n 1, 1, 0), (.iload_n 2, 1, 0), (.invokevirtual 201, 3, 634)]
def r_194_3 : List (Instr × Nat × Nat) := [(.ireturn, 1, 0)]
def r_201_0 : List (Instr × Nat × Nat) := [(.aload_n 0, 1, 0), (.iload_n 1, 1, 0), (.invokevirtual 177, 3, 606), (.ifCond .eq 7, 3, 0), (.iconst (-1), 1, 0), (.goto 11, 3, 0)]
def r_201_1 : List (Instr × Nat × Nat) := [(.aload_n 0, 1, 0), (.getfield 52, 3, 341), (.iload_n 1, 1, 0), (.invokevirtual 205, 3, 674)]
def r_201_2 : List (Instr × Nat × Nat) := [(.ireturn, 1, 0)]
def r_209_0 : List (Instr × Nat × Nat) := [(.aload_n 0, 1, 0), (.iload_n 1, 1, 0), (.invokevirtual 177, 3, 606), (.ifCond .eq 5, 3, 0), (.iconst (-1), 1, 0), (.ireturn, 1, 0)]
def r_209_1 : List (Instr × Nat × Nat) := [(.aload_n 0, 1, 0), (.getfield 52, 3, 341), (.iload_n 1, 1, 0), (.invokevirtual 208, 3, 705), (.ifCond .eq 14, 3, 0), (.aload_n 0, 1, 0), (.getfield 52, 3, 341), (.iload_n 1, 1, 0), (.invokevirtual 211, 3, 709), (.goto 5, 3, 0)]
def r_209_2 : List (Instr × Nat × Nat) := [(.bipush (-4), 2, 0)]
def r_209_3 : List (Instr × Nat × Nat) := [(.ireturn, 1, 0)]
def r_218_0 : List (Instr × Nat × Nat) := [(.aload_n 0, 1, 0), (.iload_n 1, 1, 0), (.invokevirtual 177, 3, 606), (.ifCond .ne 10, 3, 0), (.iload_n 2, 1, 0), (.invokestatic 135, 3, 561), (.ifCond .eq 5, 3, 0)]
def r_218_1 : List (Instr × Nat × Nat) := [(.iconst (-1), 1, 0), (.ireturn, 1, 0)]
def r_218_2 : List (Instr × Nat × Nat) := [(.aload_n 0, 1, 0), (.getfield 52, 3, 341), (.getfield 198, 3, 262), (.iload_n 1, 1, 0), (.iconst 5, 1, 0), (.imul, 1, 0), (.iload_n 2, 1, 0), (.iadd, 1, 0), (.iconst 0, 1, 0), (.invokestatic 131, 3, 550), (.istore_n 3, 1, 0), (.aload_n 0, 1, 0), (.getfield 52, 3, 341), (.getfield 186, 3, 256), (.iload_n 1, 1, 0), (.iaload, 1, 0), (.iconst 5, 1, 0), (.imul, 1, 0), (.iload_n 2, 1, 0), (.iadd, 1, 0), (.istore 4, 2, 0), (.aload_n 0, 1, 0), (.getfield 52, 3, 341), (.getfield 167, 3, 240), (.iload 4, 2, 0), (.bipush 99, 2, 0), (.aload_n 0, 1, 0), (.getfield 52, 3, 341), (.getfield 167, 3, 240), (.iload 4, 2, 0), (.iaload, 1, 0), (.iload_n 3, 1, 0), (.iadd, 1, 0), (.invokestatic 214, 3, 722), (.iastore, 1, 0), (.iload_n 3, 1, 0), (.ireturn, 1, 0)]
def r_225_0 : List (Instr × Nat × Nat) := [(.aload_n 0, 1, 0), (.iload_n 1, 1, 0), (.invokevirtual 177, 3, 606), (.ifCond .eq 5, 3, 0), (.iconst (-1), 1, 0), (.ireturn, 1, 0)]
def r_225_1 : List (Instr × Nat × Nat) := [(.aload_n 0, 1, 0), (.getfield 52, 3, 341), (.iload_n 1, 1, 0), (.invokevirtual 195, 3, 610), (.istore_n 2, 1, 0), (.aload_n 0, 1, 0), (.getfield 52, 3, 341), (.dup, 1, 0), (.getfield 219, 3, 269), (.iload_n 2, 1, 0), (.iadd, 1, 0), (.putfield 219, 3, 269), (.iconst 0, 1, 0), (.istore_n 3, 1, 0)]
def r_225_2 : List (Instr × Nat × Nat) := [(.iload_n 3, 1, 0), (.iconst 5, 1, 0), (.if_icmp .ge 23, 3, 0), (.aload_n 0, 1, 0), (.getfield 52, 3, 341), (.getfield 198, 3, 262), (.iload_n 1, 1, 0), (.iconst 5, 1, 0), (.imul, 1, 0), (.iload_n 3, 1, 0), (.iadd, 1, 0), (.iconst 0, 1, 0), (.iastore, 1, 0), (.iinc 3 1, 3, 0), (.goto (-22), 3, 0)]
def r_225_3 : List (Instr × Nat × Nat) := [(.iload_n 2, 1, 0), (.ireturn, 1, 0)]
def r_233_0 : List (Instr × Nat × Nat) := [(.iload_n 1, 1, 0), (.iconst 1, 1, 0), (.bipush 48, 2, 0), (.invokestatic 87, 3, 385), (.ifCond .eq 5, 3, 0), (.iconst (-1), 1, 0), (.ireturn, 1, 0)]
def r_233_1 : List (Instr × Nat × Nat) := [(.iconst 0, 1, 0), (.istore_n 2, 1, 0)]
def r_233_2 : List (Instr × Nat × Nat) := [(.iload_n 2, 1, 0), (.iload_n 1, 1, 0), (.if_icmp .ge 16, 3, 0), (.aload_n 0, 1, 0), (.getfield 52, 3, 341), (.invokevirtual 222, 3, 731), (.iinc 2 1, 3, 0), (.goto (-15), 3, 0)]
def r_233_3 : List (Instr × Nat × Nat) := [(.aload_n 0, 1, 0), (.getfield 52, 3, 341), (.getfield 225, 3, 267), (.ireturn, 1, 0)]
def r_241_0 : List (Instr × Nat × Nat) := [(.aload_n 0, 1, 0), (.iload_n 1, 1, 0), (.invokevirtual 177, 3, 606), (.ifCond .eq 7, 3, 0), (.iconst (-1), 1, 0), (.goto 11, 3, 0)]
def r_241_1 : List (Instr × Nat × Nat) := [(.aload_n 0, 1, 0), (.getfield 52, 3, 341), (.iload_n 1, 1, 0), (.invokevirtual 228, 3, 746)]
def r_241_2 : List (Instr × Nat × Nat) := [(.ireturn, 1, 0)]
def r_249_0 : List (Instr × Nat × Nat) := [(.aload_n 0, 1, 0), (.getfield 52, 3, 341), (.getfield 102, 3, 271), (.istore_n 2, 1, 0), (.aload_n 0, 1, 0), (.getfield 52, 3, 341), (.iload_n 1, 1, 0), (.putfield 102, 3, 271), (.iload_n 2, 1, 0), (.ireturn, 1, 0)]
def r_256_0 : List (Instr × Nat × Nat) := [(.aload_n 0, 1, 0), (.getfield 52, 3, 341), (.invokevirtual 231, 3, 764), (.ireturn, 1, 0)]
def r_266_0 : List (Instr × Nat × Nat) := [(.iload_n 1, 1, 0), (.iconst 1, 1, 0), (.bipush 30, 2, 0), (.invokestatic 87, 3, 385), (.ifCond .ne 14, 3, 0), (.iload_n 2, 1, 0), (.iconst 0, 1, 0), (.sipush 999, 3, 0), (.invokestatic 87, 3, 385), (.ifCond .eq 5, 3, 0)]
def r_266_1 : List (Instr × Nat × Nat) := [(.iconst (-1), 1, 0), (.ireturn, 1, 0)]
def r_266_2 : List (Instr × Nat × Nat) := [(.aload_n 0, 1, 0), (.getfield 52, 3, 341), (.getfield 102, 3, 271), (.istore_n 3, 1, 0), (.iconst 0, 1, 0), (.istore 4, 2, 0), (.iconst 0, 1, 0), (.istore 5, 2, 0)]
def r_266_3 : List (Instr × Nat × Nat) := [(.iload 5, 2, 0), (.iload_n 1, 1, 0), (.if_icmp .ge 50, 3, 0), (.aload_n 0, 1, 0), (.getfield 59, 3, 343), (.aload_n 0, 1, 0), (.getfield 52, 3, 341), (.invokevirtual 112, 3, 538), (.aload_n 0, 1, 0), (.getfield 59, 3, 343), (.iload_n 3, 1, 0), (.putfield 102, 3, 271), (.aload_n 0, 1, 0), (.getfield 59, 3, 343), (.invokevirtual 231, 3, 764), (.iload_n 2, 1, 0), (.if_icmp .lt 6, 3, 0), (.iinc 4 1, 3, 0)]
def r_266_4 : List (Instr × Nat × Nat) := [(.aload_n 0, 1, 0), (.getfield 59, 3, 343), (.getfield 102, 3, 271), (.istore_n 3, 1, 0), (.iinc 5 1, 3, 0), (.goto (-50), 3, 0)]
def r_266_5 : List (Instr × Nat × Nat) := [(.iload 4, 2, 0), (.ireturn, 1, 0)]
def r_273_0 : List (Instr × Nat × Nat) := [(.iload_n 1, 1, 0), (.tableswitch 101 0 5 #[39, 47, 55, 68, 88, 96], 39, 0)]
def r_273_1 : List (Instr × Nat × Nat) := [(.aload_n 0, 1, 0), (.getfield 52, 3, 341), (.getfield 225, 3, 267), (.ireturn, 1, 0)]
def r_273_2 : List (Instr × Nat × Nat) := [(.aload_n 0, 1, 0), (.getfield 52, 3, 341), (.getfield 219, 3, 269), (.ireturn, 1, 0)]
def r_273_3 : List (Instr × Nat × Nat) := [(.aload_n 0, 1, 0), (.getfield 52, 3, 341), (.getfield 167, 3, 240), (.bipush 40, 2, 0), (.invokestatic 235, 3, 778), (.ireturn, 1, 0)]
def r_273_4 : List (Instr × Nat × Nat) := [(.aload_n 0, 1, 0), (.getfield 52, 3, 341), (.getfield 198, 3, 262), (.aload_n 0, 1, 0), (.getfield 52, 3, 341), (.getfield 119, 3, 265), (.iconst 5, 1, 0), (.imul, 1, 0), (.invokestatic 235, 3, 778), (.ireturn, 1, 0)]
def r_273_5 : List (Instr × Nat × Nat) := [(.aload_n 0, 1, 0), (.getfield 52, 3, 341), (.invokevirtual 239, 3, 781), (.ireturn, 1, 0)]
def r_273_6 : List (Instr × Nat × Nat) := [(.aload_n 0, 1, 0), (.invokevirtual 242, 3, 786), (.ireturn, 1, 0)]
def r_273_7 : List (Instr × Nat × Nat) := [(.iconst (-1), 1, 0), (.ireturn, 1, 0)]
def r_282_0 : List (Instr × Nat × Nat) := [(.iconst 0, 1, 0), (.istore_n 2, 1, 0), (.iconst 0, 1, 0), (.istore_n 3, 1, 0)]
def r_282_1 : List (Instr × Nat × Nat) := [(.iload_n 3, 1, 0), (.iload_n 1, 1, 0), (.if_icmp .ge 21, 3, 0), (.iload_n 3, 1, 0), (.aload_n 0, 1, 0), (.arraylength, 1, 0), (.if_icmp .ge 15, 3, 0), (.iload_n 2, 1, 0), (.aload_n 0, 1, 0), (.iload_n 3, 1, 0), (.iaload, 1, 0), (.iadd, 1, 0), (.istore_n 2, 1, 0), (.iinc 3 1, 3, 0), (.goto (-20), 3, 0)]
def r_282_2 : List (Instr × Nat × Nat) := [(.iload_n 2, 1, 0), (.ireturn, 1, 0)]
def r_288_0 : List (Instr × Nat × Nat) := [(.iconst 0, 1, 0), (.istore_n 1, 1, 0), (.iconst 0, 1, 0), (.istore_n 2, 1, 0)]
def r_288_1 : List (Instr × Nat × Nat) := [(.iload_n 2, 1, 0), (.aload_n 0, 1, 0), (.getfield 52, 3, 341), (.getfield 119, 3, 265), (.if_icmp .ge 26, 3, 0), (.aload_n 0, 1, 0), (.getfield 52, 3, 341), (.iload_n 2, 1, 0), (.invokevirtual 208, 3, 705), (.ifCond .eq 9, 3, 0), (.iload_n 1, 1, 0), (.iconst 1, 1, 0), (.iload_n 2, 1, 0), (.ishl, 1, 0), (.ior, 1, 0), (.istore_n 1, 1, 0)]
def r_288_2 : List (Instr × Nat × Nat) := [(.iinc 2 1, 3, 0), (.goto (-31), 3, 0)]
def r_288_3 : List (Instr × Nat × Nat) := [(.iload_n 1, 1, 0), (.ireturn, 1, 0)]
def r_298_0 : List (Instr × Nat × Nat) := [(.aload_n 0, 1, 0), (.iload_n 1, 1, 0), (.invokevirtual 177, 3, 606), (.ifCond .ne 12, 3, 0), (.iload_n 2, 1, 0), (.iconst 0, 1, 0), (.iconst 4, 1, 0), (.invokestatic 87, 3, 385), (.ifCond .eq 5, 3, 0)]
def r_298_1 : List (Instr × Nat × Nat) := [(.iconst (-1), 1, 0), (.ireturn, 1, 0)]
def r_298_2 : List (Instr × Nat × Nat) := [(.aload_n 0, 1, 0), (.iload_n 1, 1, 0), (.iload_n 2, 1, 0), (.invokevirtual 245, 3, 794), (.aload_n 0, 1, 0), (.getfield 65, 3, 344), (.getfield 249, 3, 327), (.ireturn, 1, 0)]
def r_306_0 : List (Instr × Nat × Nat) := [(.aload_n 0, 1, 0), (.getfield 65, 3, 344), (.iload_n 1, 1, 0), (.putfield 363, 3, 324), (.aload_n 0, 1, 0), (.getfield 65, 3, 344), (.iload_n 2, 1, 0), (.putfield 366, 3, 325), (.aload_n 0, 1, 0), (.getfield 65, 3, 344), (.iconst (-1), 1, 0), (.putfield 249, 3, 327), (.aload_n 0, 1, 0), (.getfield 65, 3, 344), (.getfield 369, 3, 319), (.iconst 0, 1, 0), (.aaload, 1, 0), (.aload_n 0, 1, 0), (.getfield 52, 3, 341), (.invokevirtual 112, 3, 538), (.aload_n 0, 1, 0), (.getfield 65, 3, 344), (.iconst 0, 1, 0), (.iconst 0, 1, 0), (.invokestatic 373, 3, 798), (.return_, 1, 0)]
def r_315_0 : List (Instr × Nat × Nat) := [(.iload_n 1, 1, 0), (.aload_n 0, 1, 0), (.getfield 366, 3, 325), (.if_icmp .ge 8, 3, 0), (.iload_n 1, 1, 0), (.iconst 4, 1, 0), (.if_icmp .lt 9, 3, 0)]
def r_315_1 : List (Instr × Nat × Nat) := [(.aload_n 0, 1, 0), (.iload_n 2, 1, 0), (.invokevirtual 377, 3, 801), (.return_, 1, 0)]
def r_315_2 : List (Instr × Nat × Nat) := [(.aload_n 0, 1, 0), (.getfield 369, 3, 319), (.iload_n 1, 1, 0), (.aaload, 1, 0), (.astore_n 3, 1, 0), (.aload_n 0, 1, 0), (.getfield 369, 3, 319), (.iload_n 1, 1, 0), (.iconst 1, 1, 0), (.iadd, 1, 0), (.aaload, 1, 0), (.astore 4, 2, 0), (.aload_n 3, 1, 0), (.getfield 186, 3, 256), (.aload_n 0, 1, 0), (.getfield 363, 3, 324), (.iaload, 1, 0), (.istore 5, 2, 0), (.iconst 0, 1, 0), (.istore 6, 2, 0)]
def r_315_3 : List (Instr × Nat × Nat) := [(.iload 6, 2, 0), (.bipush 8, 2, 0), (.if_icmp .ge 88, 3, 0), (.iload 6, 2, 0), (.iload 5, 2, 0), (.isub, 1, 0), (.bipush 8, 2, 0), (.iadd, 1, 0), (.bipush 8, 2, 0), (.irem, 1, 0), (.istore 7, 2, 0), (.iload 7, 2, 0), (.iconst 1, 1, 0), (.if_icmp .le 10, 3, 0), (.iload 7, 2, 0), (.bipush 7, 2, 0), (.if_icmp .ne 56, 3, 0)]
def r_315_4 : List (Instr × Nat × Nat) := [(.aload 4, 2, 0), (.aload_n 3, 1, 0), (.invokevirtual 112, 3, 538), (.aload 4, 2, 0), (.getfield 186, 3, 256), (.aload_n 0, 1, 0), (.getfield 363, 3, 324), (.iload 6, 2, 0), (.iastore, 1, 0), (.aload_n 0, 1, 0), (.getfield 380, 3, 321), (.iload_n 1, 1, 0), (.iload 6, 2, 0), (.iastore, 1, 0), (.aload 4, 2, 0), (.aload_n 0, 1, 0), (.getfield 363, 3, 324), (.invokevirtual 295, 3, 806), (.istore 8, 2, 0), (.aload 4, 2, 0), (.invokevirtual 222, 3, 731), (.aload_n 0, 1, 0), (.iload_n 1, 1, 0), (.iconst 1, 1, 0), (.iadd, 1, 0), (.iload_n 2, 1, 0), (.iload 8, 2, 0), (.iadd, 1, 0), (.invokestatic 373, 3, 798)]
def r_315_5 : List (Instr × Nat × Nat) := [(.iinc 6 1, 3, 0), (.goto (-89), 3, 0)]
def r_315_6 : List (Instr × Nat × Nat) := [(.return_, 1, 0)]
def r_323_0 : List (Instr × Nat × Nat) := [(.aload_n 0, 1, 0), (.iload_n 1, 1, 0), (.invokevirtual 177, 3, 606), (.ifCond .ne 21, 3, 0), (.iload_n 2, 1, 0), (.iconst 0, 1, 0), (.iconst 4, 1, 0), (.invokestatic 87, 3, 385), (.ifCond .ne 12, 3, 0), (.iload_n 3, 1, 0), (.iconst 0, 1, 0), (.iconst 3, 1, 0), (.invokestatic 87, 3, 385), (.ifCond .eq 5, 3, 0)]
def r_323_1 : List (Instr × Nat × Nat) := [(.iconst (-1), 1, 0), (.ireturn, 1, 0)]
def r_323_2 : List (Instr × Nat × Nat) := [(.iload_n 3, 1, 0), (.iload_n 2, 1, 0), (.if_icmp .lt 6, 3, 0), (.bipush (-3), 2, 0), (.ireturn, 1, 0)]
def r_323_3 : List (Instr × Nat × Nat) := [(.aload_n 0, 1, 0), (.iload_n 1, 1, 0), (.iload_n 2, 1, 0), (.invokevirtual 245, 3, 794), (.aload_n 0, 1, 0), (.getfield 65, 3, 344), (.getfield 252, 3, 323), (.iload_n 3, 1, 0), (.iaload, 1, 0), (.ireturn, 1, 0)]
def r_331_0 : List (Instr × Nat × Nat) := [(.aload_n 0, 1, 0), (.iload_n 1, 1, 0), (.invokevirtual 177, 3, 606), (.ifCond .ne 22, 3, 0), (.iload_n 2, 1, 0), (.iconst 1, 1, 0), (.bipush 9, 2, 0), (.invokestatic 87, 3, 385), (.ifCond .ne 12, 3, 0), (.iload_n 3, 1, 0), (.iconst 0, 1, 0), (.iconst 1, 1, 0), (.invokestatic 87, 3, 385), (.ifCond .eq 5, 3, 0)]
def r_331_1 : List (Instr × Nat × Nat) := [(.iconst (-1), 1, 0), (.ireturn, 1, 0)]
def r_331_2 : List (Instr × Nat × Nat) := [(.iconst 0, 1, 0), (.istore 4, 2, 0), (.iconst 0, 1, 0), (.istore 5, 2, 0), (.iconst 0, 1, 0), (.istore 6, 2, 0)]
def r_331_3 : List (Instr × Nat × Nat) := [(.iload 6, 2, 0), (.bipush 9, 2, 0), (.if_icmp .gt 34, 3, 0), (.aload_n 0, 1, 0), (.iload_n 1, 1, 0), (.iload 6, 2, 0), (.iload_n 2, 1, 0), (.invokevirtual 255, 3, 819), (.istore 7, 2, 0), (.iload 7, 2, 0), (.iload 5, 2, 0), (.if_icmp .lt 11, 3, 0), (.iload 6, 2, 0), (.istore 4, 2, 0), (.iload 7, 2, 0), (.istore 5, 2, 0)]
def r_331_4 : List (Instr × Nat × Nat) := [(.iinc 6 1, 3, 0), (.goto (-35), 3, 0)]
def r_331_5 : List (Instr × Nat × Nat) := [(.iload_n 3, 1, 0), (.ifCond .ne 8, 3, 0), (.iload 4, 2, 0), (.goto 5, 3, 0)]
def r_331_6 : List (Instr × Nat × Nat) := [(.iload 5, 2, 0)]
def r_331_7 : List (Instr × Nat × Nat) := [(.ireturn, 1, 0)]
def r_339_0 : List (Instr × Nat × Nat) := [(.aload_n 0, 1, 0), (.getfield 59, 3, 343), (.aload_n 0, 1, 0), (.getfield 52, 3, 341), (.invokevirtual 112, 3, 538), (.aload_n 0, 1, 0), (.getfield 59, 3, 343), (.getfield 189, 3, 258), (.iload_n 1, 1, 0), (.iload_n 2, 1, 0), (.iastore, 1, 0), (.iconst 0, 1, 0), (.istore 4, 2, 0), (.iconst 0, 1, 0), (.istore 5, 2, 0)]
def r_339_1 : List (Instr × Nat × Nat) := [(.iload 5, 2, 0), (.iload_n 3, 1, 0), (.if_icmp .ge 29, 3, 0), (.iload 4, 2, 0), (.aload_n 0, 1, 0), (.getfield 59, 3, 343), (.iload_n 1, 1, 0), (.invokevirtual 295, 3, 806), (.iadd, 1, 0), (.istore 4, 2, 0), (.aload_n 0, 1, 0), (.getfield 59, 3, 343), (.invokevirtual 222, 3, 731), (.iinc 5 1, 3, 0), (.goto (-29), 3, 0)]
def r_339_2 : List (Instr × Nat × Nat) := [(.iload 4, 2, 0), (.ireturn, 1, 0)]
def r_344_0 : List (Instr × Nat × Nat) := [(.aload_n 0, 1, 0), (.getfield 59, 3, 343), (.aload_n 0, 1, 0), (.getfield 52, 3, 341), (.invokevirtual 112, 3, 538), (.iconst 0, 1, 0), (.istore_n 1, 1, 0)]
def r_344_1 : List (Instr × Nat × Nat) := [(.iload_n 1, 1, 0), (.bipush 48, 2, 0), (.if_icmp .gt 56, 3, 0), (.aload_n 0, 1, 0), (.getfield 59, 3, 343), (.invokevirtual 239, 3, 781), (.ifCond .eq 5, 3, 0), (.iload_n 1, 1, 0), (.ireturn, 1, 0)]
def r_344_2 : List (Instr × Nat × Nat) := [(.iconst 0, 1, 0), (.istore_n 2, 1, 0)]
def r_344_3 : List (Instr × Nat × Nat) := [(.iload_n 2, 1, 0), (.aload_n 0, 1, 0), (.getfield 59, 3, 343), (.getfield 119, 3, 265), (.if_icmp .ge 18, 3, 0), (.aload_n 0, 1, 0), (.getfield 59, 3, 343), (.iload_n 2, 1, 0), (.invokevirtual 211, 3, 709), (.pop, 1, 0), (.iinc 2 1, 3, 0), (.goto (-23), 3, 0)]
def r_344_4 : List (Instr × Nat × Nat) := [(.aload_n 0, 1, 0), (.getfield 59, 3, 343), (.invokevirtual 222, 3, 731), (.iinc 1 1, 3, 0), (.goto (-56), 3, 0)]
def r_344_5 : List (Instr × Nat × Nat) := [(.bipush (-3), 2, 0), (.ireturn, 1, 0)]
def r_354_0 : List (Instr × Nat × Nat) := [(.iload_n 1, 1, 0), (.invokestatic 259, 3, 831), (.ifCond .ne 12, 3, 0), (.iload_n 2, 1, 0), (.iconst 0, 1, 0), (.iconst 1, 1, 0), (.invokestatic 87, 3, 385), (.ifCond .eq 5, 3, 0)]
def r_354_1 : List (Instr × Nat × Nat) := [(.iconst (-1), 1, 0), (.ireturn, 1, 0)]
def r_354_2 : List (Instr × Nat × Nat) := [(.aload_n 0, 1, 0), (.getfield 25, 3, 347), (.iload_n 1, 1, 0), (.aaload, 1, 0), (.ifnonnull 6, 3, 0), (.bipush (-11), 2, 0), (.ireturn, 1, 0)]
def r_354_3 : List (Instr × Nat × Nat) := [(.aload_n 0, 1, 0), (.aload_n 0, 1, 0), (.getfield 25, 3, 347), (.iload_n 1, 1, 0), (.aaload, 1, 0), (.invokevirtual 262, 3, 834), (.iload_n 2, 1, 0), (.ifCond .ne 10, 3, 0), (.aload_n 0, 1, 0), (.invokevirtual 266, 3, 838), (.goto 7, 3, 0)]
def r_354_4 : List (Instr × Nat × Nat) := [(.aload_n 0, 1, 0), (.invokevirtual 269, 3, 842)]
def r_354_5 : List (Instr × Nat × Nat) := [(.ireturn, 1, 0)]
def r_361_0 : List (Instr × Nat × Nat) := [(.iload_n 0, 1, 0), (.iconst 0, 1, 0), (.iconst 3, 1, 0), (.invokestatic 87, 3, 385), (.ireturn, 1, 0)]
def r_369_0 : List (Instr × Nat × Nat) := [(.iconst 0, 1, 0), (.istore_n 2, 1, 0)]
def r_369_1 : List (Instr × Nat × Nat) := [(.iload_n 2, 1, 0), (.aload_n 0, 1, 0), (.getfield 39, 3, 351), (.arraylength, 1, 0), (.if_icmp .ge 16, 3, 0), (.aload_n 0, 1, 0), (.getfield 39, 3, 351), (.iload_n 2, 1, 0), (.iconst 1, 1, 0), (.bastore, 1, 0), (.iinc 2 1, 3, 0), (.goto (-19), 3, 0)]
def r_369_2 : List (Instr × Nat × Nat) := [(.aload_n 0, 1, 0), (.getfield 59, 3, 343), (.aload_n 0, 1, 0), (.getfield 52, 3, 341), (.invokevirtual 112, 3, 538), (.iconst 0, 1, 0), (.istore_n 2, 1, 0)]
def r_369_3 : List (Instr × Nat × Nat) := [(.iload_n 2, 1, 0), (.aload_n 1, 1, 0), (.getfield 308, 3, 930), (.arraylength, 1, 0), (.if_icmp .ge 73, 3, 0), (.iconst 0, 1, 0), (.istore_n 3, 1, 0)]
def r_369_4 : List (Instr × Nat × Nat) := [(.iload_n 3, 1, 0), (.aload_n 0, 1, 0), (.getfield 39, 3, 351), (.arraylength, 1, 0), (.if_icmp .ge 49, 3, 0), (.aload_n 0, 1, 0), (.getfield 39, 3, 351), (.iload_n 3, 1, 0), (.aload_n 0, 1, 0), (.getfield 39, 3, 351), (.iload_n 3, 1, 0), (.baload, 1, 0), (.ifCond .eq 27, 3, 0), (.aload_n 0, 1, 0), (.getfield 59, 3, 343), (.getfield 167, 3, 240), (.iload_n 3, 1, 0), (.iaload, 1, 0), (.i2l, 1, 0), (.aload_n 1, 1, 0), (.getfield 308, 3, 930), (.iload_n 2, 1, 0), (.laload, 1, 0), (.lcmp, 1, 0), (.ifCond .ne 7, 3, 0), (.iconst 1, 1, 0), (.goto 4, 3, 0)]
def r_369_5 : List (Instr × Nat × Nat) := [(.iconst 0, 1, 0)]
def r_369_6 : List (Instr × Nat × Nat) := [(.bastore, 1, 0), (.iinc 3 1, 3, 0), (.goto (-52), 3, 0)]
def r_369_7 : List (Instr × Nat × Nat) := [(.aload_n 0, 1, 0), (.getfield 59, 3, 343), (.invokevirtual 222, 3, 731), (.iinc 2 1, 3, 0), (.goto (-76), 3, 0)]
def r_369_8 : List (Instr × Nat × Nat) := [(.return_, 1, 0)]
def r_376_0 : List (Instr × Nat × Nat) := [(.iconst 0, 1, 0), (.istore_n 1, 1, 0), (.iconst 0, 1, 0), (.istore_n 2, 1, 0)]
def r_376_1 : List (Instr × Nat × Nat) := [(.iload_n 2, 1, 0), (.aload_n 0, 1, 0), (.getfield 39, 3, 351), (.arraylength, 1, 0), (.if_icmp .ge 21, 3, 0), (.aload_n 0, 1, 0), (.getfield 39, 3, 351), (.iload_n 2, 1, 0), (.baload, 1, 0), (.ifCond .eq 6, 3, 0), (.iinc 1 1, 3, 0)]
def r_376_2 : List (Instr × Nat × Nat) := [(.iinc 2 1, 3, 0), (.goto (-24), 3, 0)]
def r_376_3 : List (Instr × Nat × Nat) := [(.iload_n 1, 1, 0), (.ireturn, 1, 0)]
def r_384_0 : List (Instr × Nat × Nat) := [(.iconst 0, 1, 0), (.istore_n 1, 1, 0)]
def r_384_1 : List (Instr × Nat × Nat) := [(.iload_n 1, 1, 0), (.aload_n 0, 1, 0), (.getfield 39, 3, 351), (.arraylength, 1, 0), (.if_icmp .ge 29, 3, 0), (.aload_n 0, 1, 0), (.getfield 39, 3, 351), (.iload_n 1, 1, 0), (.baload, 1, 0), (.ifCond .eq 14, 3, 0), (.bipush 10, 2, 0), (.iload_n 1, 1, 0), (.iconst 5, 1, 0), (.idiv, 1, 0), (.imul, 1, 0), (.iload_n 1, 1, 0), (.iconst 5, 1, 0), (.irem, 1, 0), (.iadd, 1, 0), (.ireturn, 1, 0)]
def r_384_2 : List (Instr × Nat × Nat) := [(.iinc 1 1, 3, 0), (.goto (-32), 3, 0)]
def r_384_3 : List (Instr × Nat × Nat) := [(.bipush (-3), 2, 0), (.ireturn, 1, 0)]
def r_394_0 : List (Instr × Nat × Nat) := [(.iload_n 1, 1, 0), (.invokestatic 135, 3, 561), (.ifCond .ne 14, 3, 0), (.iload_n 2, 1, 0), (.iconst 0, 1, 0), (.sipush 999, 3, 0), (.invokestatic 87, 3, 385), (.ifCond .eq 5, 3, 0)]
def r_394_1 : List (Instr × Nat × Nat) := [(.iconst (-1), 1, 0), (.ireturn, 1, 0)]
def r_394_2 : List (Instr × Nat × Nat) := [(.bipush (-3), 2, 0), (.istore_n 3, 1, 0), (.iconst 0, 1, 0), (.istore 4, 2, 0)]
def r_394_3 : List (Instr × Nat × Nat) := [(.iload 4, 2, 0), (.iconst 1, 1, 0), (.aload_n 0, 1, 0), (.getfield 52, 3, 341), (.getfield 119, 3, 265), (.ishl, 1, 0), (.if_icmp .ge 56, 3, 0), (.iload_n 3, 1, 0), (.bipush (-3), 2, 0), (.if_icmp .eq 15, 3, 0), (.iload 4, 2, 0), (.invokestatic 272, 3, 850), (.iload_n 3, 1, 0), (.invokestatic 272, 3, 850), (.if_icmp .ge 7, 3, 0)]
def r_394_4 : List (Instr × Nat × Nat) := [(.iconst 1, 1, 0), (.goto 4, 3, 0)]
def r_394_5 : List (Instr × Nat × Nat) := [(.iconst 0, 1, 0)]
def r_394_6 : List (Instr × Nat × Nat) := [(.istore 5, 2, 0), (.iload 5, 2, 0), (.ifCond .eq 20, 3, 0), (.aload_n 0, 1, 0), (.getfield 52, 3, 341), (.iload 4, 2, 0), (.iload_n 1, 1, 0), (.invokevirtual 277, 3, 856), (.iload_n 2, 1, 0), (.if_icmp .ne 6, 3, 0), (.iload 4, 2, 0), (.istore_n 3, 1, 0)]
def r_394_7 : List (Instr × Nat × Nat) := [(.iinc 4 1, 3, 0), (.goto (-64), 3, 0)]
def r_394_8 : List (Instr × Nat × Nat) := [(.iload_n 3, 1, 0), (.ireturn, 1, 0)]
def r_400_0 : List (Instr × Nat × Nat) := [(.iconst 0, 1, 0), (.istore_n 1, 1, 0), (.iconst 1, 1, 0), (.istore_n 2, 1, 0)]
def r_400_1 : List (Instr × Nat × Nat) := [(.iload_n 2, 1, 0), (.iconst 4, 1, 0), (.if_icmp .ge 69, 3, 0), (.aload_n 0, 1, 0), (.getfield 52, 3, 341), (.getfield 148, 3, 250), (.iload_n 2, 1, 0), (.iaload, 1, 0), (.i2l, 1, 0), (.iconst 1, 1, 0), (.aload_n 0, 1, 0), (.getfield 52, 3, 341), (.iload_n 1, 1, 0), (.invokevirtual 151, 3, 575), (.invokestatic 280, 3, 864), (.i2l, 1, 0), (.lmul, 1, 0), (.lstore_n 3, 1, 0), (.aload_n 0, 1, 0), (.getfield 52, 3, 341), (.getfield 148, 3, 250), (.iload_n 1, 1, 0), (.iaload, 1, 0), (.i2l, 1, 0), (.iconst 1, 1, 0), (.aload_n 0, 1, 0), (.getfield 52, 3, 341), (.iload_n 2, 1, 0), (.invokevirtual 151, 3, 575), (.invokestatic 280, 3, 864), (.i2l, 1, 0), (.lmul, 1, 0), (.lstore 5, 2, 0), (.lload_n 3, 1, 0), (.lload 5, 2, 0), (.lcmp, 1, 0), (.ifCond .le 5, 3, 0), (.iload_n 2, 1, 0), (.istore_n 1, 1, 0)]
def r_400_2 : List (Instr × Nat × Nat) := [(.iinc 2 1, 3, 0), (.goto (-68), 3, 0)]
def r_400_3 : List (Instr × Nat × Nat) := [(.iload_n 1, 1, 0), (.ireturn, 1, 0)]
def r_411_0 : List (Instr × Nat × Nat) := [(.iload_n 1, 1, 0), (.invokestatic 155, 3, 583), (.ifCond .ne 20, 3, 0), (.iload_n 2, 1, 0), (.invokestatic 135, 3, 561), (.ifCond .ne 13, 3, 0), (.iload_n 3, 1, 0), (.iconst 0, 1, 0), (.bipush 99, 2, 0), (.invokestatic 87, 3, 385), (.ifCond .eq 5, 3, 0)]
def r_411_1 : List (Instr × Nat × Nat) := [(.iconst (-1), 1, 0), (.ireturn, 1, 0)]
def r_411_2 : List (Instr × Nat × Nat) := [(.aload_n 0, 1, 0), (.getfield 59, 3, 343), (.aload_n 0, 1, 0), (.getfield 52, 3, 341), (.invokevirtual 112, 3, 538), (.iconst 0, 1, 0), (.istore 4, 2, 0)]
def r_411_3 : List (Instr × Nat × Nat) := [(.iload 4, 2, 0), (.bipush 48, 2, 0), (.if_icmp .gt 36, 3, 0), (.aload_n 0, 1, 0), (.getfield 59, 3, 343), (.getfield 167, 3, 240), (.iload_n 1, 1, 0), (.iconst 5, 1, 0), (.imul, 1, 0), (.iload_n 2, 1, 0), (.iadd, 1, 0), (.iaload, 1, 0), (.iload_n 3, 1, 0), (.if_icmp .lt 6, 3, 0), (.iload 4, 2, 0), (.ireturn, 1, 0)]
def r_411_4 : List (Instr × Nat × Nat) := [(.aload_n 0, 1, 0), (.getfield 59, 3, 343), (.invokevirtual 222, 3, 731), (.iinc 4 1, 3, 0), (.goto (-37), 3, 0)]
def r_411_5 : List (Instr × Nat × Nat) := [(.bipush (-3), 2, 0), (.ireturn, 1, 0)]
def r_418_0 : List (Instr × Nat × Nat) := [(.iload_n 1, 1, 0), (.iconst 0, 1, 0), (.bipush 8, 2, 0), (.invokestatic 87, 3, 385), (.ifCond .ne 12, 3, 0), (.iload_n 2, 1, 0), (.iconst 0, 1, 0), (.iconst 1, 1, 0), (.invokestatic 87, 3, 385), (.ifCond .eq 7, 3, 0)]
def r_418_1 : List (Instr × Nat × Nat) := [(.ldc2_w 283, 3, 873), (.lreturn, 1, 0)]
def r_418_2 : List (Instr × Nat × Nat) := [(.ldc2_w 285, 3, 874), (.iload_n 1, 1, 0), (.invokestatic 287, 3, 875), (.lstore_n 3, 1, 0), (.lload_n 3, 1, 0), (.aload_n 0, 1, 0), (.getfield 52, 3, 341), (.getfield 128, 3, 234), (.iconst 0, 1, 0), (.iaload, 1, 0), (.i2l, 1, 0), (.iload_n 1, 1, 0), (.invokestatic 287, 3, 875), (.lsub, 1, 0), (.lload_n 3, 1, 0), (.iload_n 2, 1, 0), (.invokestatic 291, 3, 878), (.lreturn, 1, 0)]
def r_426_0 : List (Instr × Nat × Nat) := [(.lconst 1, 1, 0), (.lstore_n 3, 1, 0), (.iconst 0, 1, 0), (.istore 5, 2, 0)]
def r_426_1 : List (Instr × Nat × Nat) := [(.iload 5, 2, 0), (.iload_n 2, 1, 0), (.if_icmp .ge 13, 3, 0), (.lload_n 3, 1, 0), (.lload_n 0, 1, 0), (.lmul, 1, 0), (.lstore_n 3, 1, 0), (.iinc 5 1, 3, 0), (.goto (-13), 3, 0)]
def r_426_2 : List (Instr × Nat × Nat) := [(.lload_n 3, 1, 0), (.lreturn, 1, 0)]
def r_435_0 : List (Instr × Nat × Nat) := [(.lload_n 2, 1, 0), (.lstore 5, 2, 0), (.lload_n 0, 1, 0), (.lstore 7, 2, 0), (.iconst 0, 1, 0), (.istore 9, 2, 0)]
def r_435_1 : List (Instr × Nat × Nat) := [(.iload 9, 2, 0), (.sipush 200, 3, 0), (.if_icmp .ge 31, 3, 0), (.lload 7, 2, 0), (.lconst 0, 1, 0), (.lcmp, 1, 0), (.ifCond .eq 24, 3, 0), (.lload 5, 2, 0), (.lload 7, 2, 0), (.lrem, 1, 0), (.lstore 10, 2, 0), (.lload 7, 2, 0), (.lstore 5, 2, 0), (.lload 10, 2, 0), (.lstore 7, 2, 0), (.iinc 9 1, 3, 0), (.goto (-33), 3, 0)]
def r_435_2 : List (Instr × Nat × Nat) := [(.iload 4, 2, 0), (.ifCond .ne 7, 3, 0), (.lload_n 0, 1, 0), (.goto 4, 3, 0)]
def r_435_3 : List (Instr × Nat × Nat) := [(.lload_n 2, 1, 0)]
def r_435_4 : List (Instr × Nat × Nat) := [(.lstore 9, 2, 0), (.lload 5, 2, 0), (.lconst 0, 1, 0), (.lcmp, 1, 0), (.ifCond .ne 8, 3, 0), (.lload 9, 2, 0), (.goto 8, 3, 0)]
def r_435_5 : List (Instr × Nat × Nat) := [(.lload 9, 2, 0), (.lload 5, 2, 0), (.ldiv, 1, 0)]
def r_435_6 : List (Instr × Nat × Nat) := [(.lreturn, 1, 0)]
def r_443_0 : List (Instr × Nat × Nat) := [(.aload_n 0, 1, 0), (.iload_n 1, 1, 0), (.invokevirtual 177, 3, 606), (.ifCond .ne 21, 3, 0), (.iload_n 2, 1, 0), (.iconst 0, 1, 0), (.iconst 5, 1, 0), (.invokestatic 87, 3, 385), (.ifCond .ne 12, 3, 0), (.iload_n 3, 1, 0), (.iconst 0, 1, 0), (.iconst 1, 1, 0), (.invokestatic 87, 3, 385), (.ifCond .eq 7, 3, 0)]
def r_443_1 : List (Instr × Nat × Nat) := [(.ldc2_w 283, 3, 873), (.lreturn, 1, 0)]
def r_443_2 : List (Instr × Nat × Nat) := [(.aload_n 0, 1, 0), (.getfield 52, 3, 341), (.getfield 128, 3, 234), (.iconst 0, 1, 0), (.iaload, 1, 0), (.istore 4, 2, 0), (.lconst 0, 1, 0), (.lstore 5, 2, 0), (.lconst 0, 1, 0), (.lstore 7, 2, 0), (.lconst 1, 1, 0), (.lstore 9, 2, 0), (.aload_n 0, 1, 0), (.getfield 59, 3, 343), (.aload_n 0, 1, 0), (.getfield 52, 3, 341), (.invokevirtual 112, 3, 538), (.iconst 0, 1, 0), (.istore 11, 2, 0)]
def r_443_3 : List (Instr × Nat × Nat) := [(.iload 11, 2, 0), (.iload_n 2, 1, 0), (.if_icmp .gt 72, 3, 0), (.lload 5, 2, 0), (.lload 7, 2, 0), (.lload 9, 2, 0), (.lmul, 1, 0), (.bipush 100, 2, 0), (.iload 4, 2, 0), (.isub, 1, 0), (.i2l, 1, 0), (.iload 11, 2, 0), (.invokestatic 287, 3, 875), (.lmul, 1, 0), (.iload 4, 2, 0), (.i2l, 1, 0), (.iload_n 2, 1, 0), (.iload 11, 2, 0), (.isub, 1, 0), (.invokestatic 287, 3, 875), (.lmul, 1, 0), (.ladd, 1, 0), (.lstore 5, 2, 0), (.lload 9, 2, 0), (.iload_n 2, 1, 0), (.iload 11, 2, 0), (.isub, 1, 0), (.i2l, 1, 0), (.lmul, 1, 0), (.iload 11, 2, 0), (.iconst 1, 1, 0), (.iadd, 1, 0), (.i2l, 1, 0), (.ldiv, 1, 0), (.lstore 9, 2, 0), (.lload 7, 2, 0), (.aload_n 0, 1, 0), (.getfield 59, 3, 343), (.iload_n 1, 1, 0), (.invokevirtual 295, 3, 806), (.i2l, 1, 0), (.ladd, 1, 0), (.lstore 7, 2, 0), (.iinc 11 1, 3, 0), (.goto (-72), 3, 0)]
def r_443_4 : List (Instr × Nat × Nat) := [(.lload 5, 2, 0), (.ldc2_w 285, 3, 874), (.iload_n 2, 1, 0), (.invokestatic 287, 3, 875), (.iload_n 3, 1, 0), (.invokestatic 291, 3, 878), (.lreturn, 1, 0)]
def r_450_0 : List (Instr × Nat × Nat) := [(.iload_n 1, 1, 0), (.invokestatic 155, 3, 583), (.ifCond .ne 13, 3, 0), (.iload_n 2, 1, 0), (.iconst 1, 1, 0), (.bipush 10, 2, 0), (.invokestatic 87, 3, 385), (.ifCond .eq 5, 3, 0)]
def r_450_1 : List (Instr × Nat × Nat) := [(.iconst (-1), 1, 0), (.ireturn, 1, 0)]
def r_450_2 : List (Instr × Nat × Nat) := [(.aload_n 0, 1, 0), (.getfield 59, 3, 343), (.aload_n 0, 1, 0), (.getfield 52, 3, 341), (.invokevirtual 112, 3, 538), (.iconst 0, 1, 0), (.istore_n 3, 1, 0)]
def r_450_3 : List (Instr × Nat × Nat) := [(.iload_n 3, 1, 0), (.iload_n 2, 1, 0), (.if_icmp .ge 52, 3, 0), (.aload_n 0, 1, 0), (.getfield 59, 3, 343), (.invokevirtual 222, 3, 731), (.iconst 0, 1, 0), (.istore 4, 2, 0)]
def r_450_4 : List (Instr × Nat × Nat) := [(.iload 4, 2, 0), (.iconst 3, 1, 0), (.if_icmp .ge 30, 3, 0), (.aload_n 0, 1, 0), (.getfield 36, 3, 350), (.iload_n 3, 1, 0), (.iconst 3, 1, 0), (.imul, 1, 0), (.iload 4, 2, 0), (.iadd, 1, 0), (.aload_n 0, 1, 0), (.getfield 59, 3, 343), (.iload_n 1, 1, 0), (.iload 4, 2, 0), (.invokevirtual 298, 3, 889), (.iastore, 1, 0), (.iinc 4 1, 3, 0), (.goto (-30), 3, 0)]
def r_450_5 : List (Instr × Nat × Nat) := [(.iinc 3 1, 3, 0), (.goto (-51), 3, 0)]
def r_450_6 : List (Instr × Nat × Nat) := [(.aload_n 0, 1, 0), (.iload_n 2, 1, 0), (.putfield 116, 3, 352), (.iload_n 2, 1, 0), (.ireturn, 1, 0)]
def r_458_0 : List (Instr × Nat × Nat) := [(.aload_n 0, 1, 0), (.iload_n 1, 1, 0), (.iload_n 2, 1, 0), (.invokevirtual 301, 3, 901), (.ifCond .eq 8, 3, 0), (.bipush (-9), 2, 0), (.goto 13, 3, 0)]
def r_458_1 : List (Instr × Nat × Nat) := [(.aload_n 0, 1, 0), (.getfield 36, 3, 350), (.iload_n 1, 1, 0), (.iconst 3, 1, 0), (.imul, 1, 0), (.iload_n 2, 1, 0), (.iadd, 1, 0), (.iaload, 1, 0)]
def r_458_2 : List (Instr × Nat × Nat) := [(.ireturn, 1, 0)]
def r_466_0 : List (Instr × Nat × Nat) := [(.iload_n 1, 1, 0), (.iconst 0, 1, 0), (.aload_n 0, 1, 0), (.getfield 116, 3, 352), (.iconst 1, 1, 0), (.isub, 1, 0), (.invokestatic 87, 3, 385), (.ifCond .ne 12, 3, 0), (.iload_n 2, 1, 0), (.iconst 0, 1, 0), (.iconst 2, 1, 0), (.invokestatic 87, 3, 385), (.ifCond .eq 7, 3, 0)]
def r_466_1 : List (Instr × Nat × Nat) := [(.iconst 1, 1, 0), (.goto 4, 3, 0)]
def r_466_2 : List (Instr × Nat × Nat) := [(.iconst 0, 1, 0)]
def r_466_3 : List (Instr × Nat × Nat) := [(.ireturn, 1, 0)]
def r_475_0 : List (Instr × Nat × Nat) := [(.aload_n 0, 1, 0), (.iload_n 1, 1, 0), (.iload_n 2, 1, 0), (.invokevirtual 301, 3, 901), (.ifCond .eq 8, 3, 0), (.bipush (-9), 2, 0), (.goto 16, 3, 0)]
def r_475_1 : List (Instr × Nat × Nat) := [(.aload_n 0, 1, 0), (.getfield 36, 3, 350), (.iload_n 1, 1, 0), (.iconst 3, 1, 0), (.imul, 1, 0), (.iload_n 2, 1, 0), (.iadd, 1, 0), (.iload_n 3, 1, 0), (.invokestatic 131, 3, 550)]
def r_475_2 : List (Instr × Nat × Nat) := [(.ireturn, 1, 0)]
def r_481_0 : List (Instr × Nat × Nat) := [(.iload_n 1, 1, 0), (.invokestatic 155, 3, 583), (.ifCond .eq 5, 3, 0), (.iconst (-1), 1, 0), (.ireturn, 1, 0)]
def r_481_1 : List (Instr × Nat × Nat) := [(.aload_n 0, 1, 0), (.getfield 59, 3, 343), (.aload_n 0, 1, 0), (.getfield 52, 3, 341), (.invokevirtual 112, 3, 538), (.iconst 0, 1, 0), (.istore_n 2, 1, 0)]
def r_481_2 : List (Instr × Nat × Nat) := [(.iload_n 2, 1, 0), (.aload_n 0, 1, 0), (.getfield 116, 3, 352), (.if_icmp .ge 55, 3, 0), (.aload_n 0, 1, 0), (.getfield 59, 3, 343), (.invokevirtual 222, 3, 731), (.iconst 0, 1, 0), (.istore_n 3, 1, 0)]
def r_481_3 : List (Instr × Nat × Nat) := [(.iload_n 3, 1, 0), (.iconst 3, 1, 0), (.if_icmp .ge 35, 3, 0), (.aload_n 0, 1, 0), (.getfield 36, 3, 350), (.iload_n 2, 1, 0), (.iconst 3, 1, 0), (.imul, 1, 0), (.iload_n 3, 1, 0), (.iadd, 1, 0), (.iaload, 1, 0), (.aload_n 0, 1, 0), (.getfield 59, 3, 343), (.iload_n 1, 1, 0), (.iload_n 3, 1, 0), (.invokevirtual 298, 3, 889), (.if_icmp .eq 7, 3, 0), (.iload_n 2, 1, 0), (.iconst 1, 1, 0), (.iadd, 1, 0), (.ireturn, 1, 0)]
def r_481_4 : List (Instr × Nat × Nat) := [(.iinc 3 1, 3, 0), (.goto (-34), 3, 0)]
def r_481_5 : List (Instr × Nat × Nat) := [(.iinc 2 1, 3, 0), (.goto (-57), 3, 0)]
def r_481_6 : List (Instr × Nat × Nat) := [(.iconst 0, 1, 0), (.ireturn, 1, 0)]
def r_492_0 : List (Instr × Nat × Nat) := [(.iload_n 1, 1, 0), (.invokestatic 259, 3, 831), (.ifCond .ne 20, 3, 0), (.iload_n 3, 1, 0), (.invokestatic 155, 3, 583), (.ifCond .ne 13, 3, 0), (.iload 4, 2, 0), (.iconst 0, 1, 0), (.iconst 5, 1, 0), (.invokestatic 87, 3, 385), (.ifCond .eq 5, 3, 0)]
def r_492_1 : List (Instr × Nat × Nat) := [(.iconst (-1), 1, 0), (.ireturn, 1, 0)]
def r_492_2 : List (Instr × Nat × Nat) := [(.aload_n 0, 1, 0), (.getfield 25, 3, 347), (.iload_n 1, 1, 0), (.aaload, 1, 0), (.astore 5, 2, 0), (.aload 5, 2, 0), (.ifnonnull 6, 3, 0), (.bipush (-11), 2, 0), (.ireturn, 1, 0)]
def r_492_3 : List (Instr × Nat × Nat) := [(.aload 5, 2, 0), (.getfield 305, 3, 928), (.ifCond .eq 6, 3, 0), (.bipush (-13), 2, 0), (.ireturn, 1, 0)]
def r_492_4 : List (Instr × Nat × Nat) := [(.iload_n 2, 1, 0), (.iconst 0, 1, 0), (.aload 5, 2, 0), (.getfield 308, 3, 930), (.arraylength, 1, 0), (.invokestatic 87, 3, 385), (.ifCond .ne 16, 3, 0), (.iload 4, 2, 0), (.aload 5, 2, 0), (.getfield 308, 3, 930), (.arraylength, 1, 0), (.iload_n 2, 1, 0), (.isub, 1, 0), (.if_icmp .le 6, 3, 0)]
def r_492_5 : List (Instr × Nat × Nat) := [(.bipush (-12), 2, 0), (.ireturn, 1, 0)]
def r_492_6 : List (Instr × Nat × Nat) := [(.iconst 0, 1, 0), (.istore 6, 2, 0)]
def r_492_7 : List (Instr × Nat × Nat) := [(.iload 6, 2, 0), (.iload 4, 2, 0), (.if_icmp .ge 47, 3, 0), (.iconst 0, 1, 0), (.bipush 99, 2, 0), (.aload 5, 2, 0), (.getfield 308, 3, 930), (.iload_n 2, 1, 0), (.iload 6, 2, 0), (.iadd, 1, 0), (.laload, 1, 0), (.l2i, 1, 0), (.invokestatic 214, 3, 722), (.invokestatic 280, 3, 864), (.istore 7, 2, 0), (.aload_n 0, 1, 0), (.getfield 52, 3, 341), (.getfield 167, 3, 240), (.iload_n 3, 1, 0), (.iconst 5, 1, 0), (.imul, 1, 0), (.iload 6, 2, 0), (.iadd, 1, 0), (.iload 7, 2, 0), (.iastore, 1, 0), (.iinc 6 1, 3, 0), (.goto (-48), 3, 0)]
def r_492_8 : List (Instr × Nat × Nat) := [(.iload 4, 2, 0), (.ireturn, 1, 0)]
def r_499_0 : List (Instr × Nat × Nat) := [(.iload_n 1, 1, 0), (.invokestatic 259, 3, 831), (.ifCond .ne 12, 3, 0), (.iload_n 2, 1, 0), (.iconst (-1), 1, 0), (.iconst 3, 1, 0), (.invokestatic 87, 3, 385), (.ifCond .eq 5, 3, 0)]
def r_499_1 : List (Instr × Nat × Nat) := [(.iconst (-1), 1, 0), (.ireturn, 1, 0)]
def r_499_2 : List (Instr × Nat × Nat) := [(.iload_n 2, 1, 0), (.iconst (-1), 1, 0), (.if_icmp .ne 12, 3, 0), (.aload_n 0, 1, 0), (.getfield 25, 3, 347), (.iload_n 1, 1, 0), (.aconst_null, 1, 0), (.aastore, 1, 0), (.iconst 1, 1, 0), (.ireturn, 1, 0)]
def r_499_3 : List (Instr × Nat × Nat) := [(.iload_n 3, 1, 0), (.bipush 40, 2, 0), (.if_icmp .le 5, 3, 0), (.iconst (-1), 1, 0), (.ireturn, 1, 0)]
def r_499_4 : List (Instr × Nat × Nat) := [(.iload_n 3, 1, 0), (.ifCond .ge 6, 3, 0), (.bipush (-14), 2, 0), (.ireturn, 1, 0)]
def r_499_5 : List (Instr × Nat × Nat) := [(.aload_n 0, 1, 0), (.getfield 25, 3, 347), (.iload_n 1, 1, 0), (.new 23, 3, 165), (.dup, 1, 0), (.iload_n 2, 1, 0), (.iload_n 3, 1, 0), (.invokespecial 312, 3, 922), (.aastore, 1, 0), (.iconst 1, 1, 0), (.ireturn, 1, 0)]
def r_507_0 : List (Instr × Nat × Nat) := [(.iload_n 1, 1, 0), (.invokestatic 259, 3, 831), (.ifCond .eq 5, 3, 0), (.iconst (-1), 1, 0), (.ireturn, 1, 0)]
def r_507_1 : List (Instr × Nat × Nat) := [(.aload_n 0, 1, 0), (.getfield 25, 3, 347), (.iload_n 1, 1, 0), (.aaload, 1, 0), (.astore 4, 2, 0), (.aload 4, 2, 0), (.ifnonnull 6, 3, 0), (.bipush (-11), 2, 0), (.ireturn, 1, 0)]
def r_507_2 : List (Instr × Nat × Nat) := [(.iload_n 2, 1, 0), (.iconst 0, 1, 0), (.aload 4, 2, 0), (.getfield 308, 3, 930), (.arraylength, 1, 0), (.iconst 1, 1, 0), (.isub, 1, 0), (.invokestatic 87, 3, 385), (.ifCond .eq 6, 3, 0), (.bipush (-12), 2, 0), (.ireturn, 1, 0)]
def r_507_3 : List (Instr × Nat × Nat) := [(.aload 4, 2, 0), (.getfield 308, 3, 930), (.iload_n 2, 1, 0), (.aload 4, 2, 0), (.iload_n 3, 1, 0), (.invokevirtual 314, 3, 941), (.lastore, 1, 0), (.iconst 1, 1, 0), (.ireturn, 1, 0)]
def r_515_0 : List (Instr × Nat × Nat) := [(.iload_n 1, 1, 0), (.invokestatic 259, 3, 831), (.ifCond .ne 12, 3, 0), (.iload_n 2, 1, 0), (.iconst 0, 1, 0), (.iconst 3, 1, 0), (.invokestatic 87, 3, 385), (.ifCond .eq 5, 3, 0)]
def r_515_1 : List (Instr × Nat × Nat) := [(.iconst (-1), 1, 0), (.ireturn, 1, 0)]
def r_515_2 : List (Instr × Nat × Nat) := [(.aload_n 0, 1, 0), (.getfield 25, 3, 347), (.iload_n 1, 1, 0), (.aaload, 1, 0), (.astore 4, 2, 0), (.aload 4, 2, 0), (.ifnonnull 6, 3, 0), (.bipush (-11), 2, 0), (.ireturn, 1, 0)]
def r_515_3 : List (Instr × Nat × Nat) := [(.aload 4, 2, 0), (.getfield 305, 3, 928), (.iload_n 2, 1, 0), (.if_icmp .eq 6, 3, 0), (.bipush (-13), 2, 0), (.ireturn, 1, 0)]
def r_515_4 : List (Instr × Nat × Nat) := [(.iload_n 3, 1, 0), (.iconst 0, 1, 0), (.aload 4, 2, 0), (.getfield 308, 3, 930), (.arraylength, 1, 0), (.iconst 1, 1, 0), (.isub, 1, 0), (.invokestatic 87, 3, 385), (.ifCond .eq 8, 3, 0), (.bipush (-12), 2, 0), (.goto 11, 3, 0)]
def r_515_5 : List (Instr × Nat × Nat) := [(.aload 4, 2, 0), (.getfield 308, 3, 930), (.iload_n 3, 1, 0), (.laload, 1, 0), (.l2i, 1, 0)]
def r_515_6 : List (Instr × Nat × Nat) := [(.ireturn, 1, 0)]
def r_523_0 : List (Instr × Nat × Nat) := [(.iload_n 1, 1, 0), (.invokestatic 318, 3, 953), (.ifCond .ne 12, 3, 0), (.iload_n 2, 1, 0), (.iconst 0, 1, 0), (.iconst 2, 1, 0), (.invokestatic 87, 3, 385), (.ifCond .eq 5, 3, 0)]
def r_523_1 : List (Instr × Nat × Nat) := [(.iconst (-1), 1, 0), (.ireturn, 1, 0)]
def r_523_2 : List (Instr × Nat × Nat) := [(.iload_n 2, 1, 0), (.ifCond .ne 11, 3, 0), (.aload_n 0, 1, 0), (.iload_n 3, 1, 0), (.invokevirtual 177, 3, 606), (.ifCond .ne 15, 3, 0)]
def r_523_3 : List (Instr × Nat × Nat) := [(.iload_n 2, 1, 0), (.iconst 1, 1, 0), (.if_icmp .ne 12, 3, 0), (.iload_n 3, 1, 0), (.invokestatic 259, 3, 831), (.ifCond .eq 5, 3, 0)]
def r_523_4 : List (Instr × Nat × Nat) := [(.iconst (-1), 1, 0), (.ireturn, 1, 0)]
def r_523_5 : List (Instr × Nat × Nat) := [(.aload_n 0, 1, 0), (.getfield 29, 3, 348), (.iload_n 1, 1, 0), (.iload_n 2, 1, 0), (.ifCond .ne 7, 3, 0), (.iload_n 3, 1, 0), (.goto 4, 3, 0)]
def r_523_6 : List (Instr × Nat × Nat) := [(.iconst (-1), 1, 0)]
def r_523_7 : List (Instr × Nat × Nat) := [(.iastore, 1, 0), (.aload_n 0, 1, 0), (.getfield 33, 3, 349), (.iload_n 1, 1, 0), (.iload_n 2, 1, 0), (.iconst 1, 1, 0), (.if_icmp .ne 19, 3, 0), (.iload_n 3, 1, 0), (.invokestatic 259, 3, 831), (.ifCond .ne 12, 3, 0), (.aload_n 0, 1, 0), (.getfield 25, 3, 347), (.iload_n 3, 1, 0), (.aaload, 1, 0), (.goto 4, 3, 0)]
def r_523_8 : List (Instr × Nat × Nat) := [(.aconst_null, 1, 0)]
def r_523_9 : List (Instr × Nat × Nat) := [(.aastore, 1, 0), (.iconst 1, 1, 0), (.ireturn, 1, 0)]
def r_529_0 : List (Instr × Nat × Nat) := [(.iload_n 0, 1, 0), (.iconst 0, 1, 0), (.iconst 3, 1, 0), (.invokestatic 87, 3, 385), (.ireturn, 1, 0)]
def r_538_0 : List (Instr × Nat × Nat) := [(.iload_n 2, 1, 0), (.bipush 10, 2, 0), (.bipush 13, 2, 0), (.invokestatic 87, 3, 385), (.ifCond .ne 7, 3, 0), (.iconst 1, 1, 0), (.goto 4, 3, 0)]
def r_538_1 : List (Instr × Nat × Nat) := [(.iconst 0, 1, 0)]
def r_538_2 : List (Instr × Nat × Nat) := [(.istore_n 3, 1, 0), (.iload_n 1, 1, 0), (.invokestatic 318, 3, 953), (.ifCond .ne 14, 3, 0), (.iload_n 2, 1, 0), (.invokestatic 170, 3, 598), (.ifCond .eq 9, 3, 0), (.iload_n 3, 1, 0), (.ifCond .ne 5, 3, 0)]
def r_538_3 : List (Instr × Nat × Nat) := [(.iconst (-1), 1, 0), (.ireturn, 1, 0)]
def r_538_4 : List (Instr × Nat × Nat) := [(.aload_n 0, 1, 0), (.getfield 29, 3, 348), (.iload_n 1, 1, 0), (.iaload, 1, 0), (.istore 4, 2, 0), (.aload_n 0, 1, 0), (.getfield 33, 3, 349), (.iload_n 1, 1, 0), (.aaload, 1, 0), (.astore 5, 2, 0), (.aload_n 0, 1, 0), (.iload 4, 2, 0), (.invokevirtual 177, 3, 606), (.ifCond .eq 11, 3, 0), (.aload 5, 2, 0), (.ifnonnull 6, 3, 0), (.bipush (-11), 2, 0), (.ireturn, 1, 0)]
def r_538_5 : List (Instr × Nat × Nat) := [(.aload 5, 2, 0), (.ifnull 31, 3, 0), (.iload_n 3, 1, 0), (.ifCond .eq 24, 3, 0), (.aload 5, 2, 0), (.getfield 305, 3, 928), (.iload_n 2, 1, 0), (.bipush 10, 2, 0), (.isub, 1, 0), (.if_icmp .ne 12, 3, 0), (.aload 5, 2, 0), (.getfield 308, 3, 930), (.arraylength, 1, 0), (.goto 5, 3, 0)]
def r_538_6 : List (Instr × Nat × Nat) := [(.bipush (-13), 2, 0)]
def r_538_7 : List (Instr × Nat × Nat) := [(.ireturn, 1, 0)]
def r_538_8 : List (Instr × Nat × Nat) := [(.iload_n 3, 1, 0), (.ifCond .ne 24, 3, 0), (.aload_n 0, 1, 0), (.getfield 52, 3, 341), (.iload 4, 2, 0), (.invokevirtual 321, 3, 960), (.iload_n 2, 1, 0), (.invokevirtual 325, 3, 961), (.ifCond .eq 8, 3, 0), (.iload 4, 2, 0), (.goto 5, 3, 0)]
def r_538_9 : List (Instr × Nat × Nat) := [(.bipush (-13), 2, 0)]
def r_538_10 : List (Instr × Nat × Nat) := [(.ireturn, 1, 0)]
def r_547_0 : List (Instr × Nat × Nat) := [(.aload_n 0, 1, 0), (.getfield 19, 3, 346), (.iconst 0, 1, 0), (.putfield 328, 3, 141), (.iload_n 1, 1, 0), (.invokestatic 318, 3, 953), (.ifCond .ne 25, 3, 0), (.iload_n 2, 1, 0), (.iconst 0, 1, 0), (.iconst 3, 1, 0), (.invokestatic 87, 3, 385), (.ifCond .ne 16, 3, 0), (.aload_n 0, 1, 0), (.aload_n 0, 1, 0), (.getfield 29, 3, 348), (.iload_n 1, 1, 0), (.iaload, 1, 0), (.invokevirtual 177, 3, 606), (.ifCond .eq 5, 3, 0)]
def r_547_1 : List (Instr × Nat × Nat) := [(.iconst 0, 1, 0), (.ireturn, 1, 0)]
def r_547_2 : List (Instr × Nat × Nat) := [(.aload_n 0, 1, 0), (.getfield 29, 3, 348), (.iload_n 1, 1, 0), (.iaload, 1, 0), (.istore 4, 2, 0), (.aload_n 0, 1, 0), (.getfield 19, 3, 346), (.iload 4, 2, 0), (.aload_n 0, 1, 0), (.getfield 52, 3, 341), (.getfield 183, 3, 254), (.iload 4, 2, 0), (.iaload, 1, 0), (.invokevirtual 331, 3, 990), (.aload_n 0, 1, 0), (.getfield 52, 3, 341), (.iload 4, 2, 0), (.invokevirtual 321, 3, 960), (.astore 5, 2, 0), (.iload_n 2, 1, 0), (.tableswitch 71 0 2 #[26, 41, 56], 26, 0)]
def r_547_3 : List (Instr × Nat × Nat) := [(.aload 5, 2, 0), (.aload_n 0, 1, 0), (.getfield 19, 3, 346), (.iload_n 3, 1, 0), (.invokevirtual 334, 3, 994), (.istore 6, 2, 0), (.goto 45, 3, 0)]
def r_547_4 : List (Instr × Nat × Nat) := [(.aload 5, 2, 0), (.aload_n 0, 1, 0), (.getfield 19, 3, 346), (.iload_n 3, 1, 0), (.invokevirtual 338, 3, 1022), (.istore 6, 2, 0), (.goto 30, 3, 0)]
def r_547_5 : List (Instr × Nat × Nat) := [(.aload 5, 2, 0), (.aload_n 0, 1, 0), (.getfield 19, 3, 346), (.iload_n 3, 1, 0), (.invokevirtual 341, 3, 1043), (.istore 6, 2, 0), (.goto 15, 3, 0)]
def r_547_6 : List (Instr × Nat × Nat) := [(.aload 5, 2, 0), (.aload_n 0, 1, 0), (.getfield 19, 3, 346), (.iload_n 3, 1, 0), (.invokevirtual 344, 3, 1065), (.istore 6, 2, 0)]
def r_547_7 : List (Instr × Nat × Nat) := [(.aload_n 0, 1, 0), (.getfield 19, 3, 346), (.getfield 347, 3, 153), (.ifCond .eq 8, 3, 0), (.bipush (-15), 2, 0), (.goto 5, 3, 0)]
def r_547_8 : List (Instr × Nat × Nat) := [(.iload 6, 2, 0)]
def r_547_9 : List (Instr × Nat × Nat) := [(.ireturn, 1, 0)]
def r_553_0 : List (Instr × Nat × Nat) := [(.iload_n 1, 1, 0), (.iconst 0, 1, 0), (.aload_n 0, 1, 0), (.getfield 19, 3, 346), (.getfield 328, 3, 141), (.iconst 1, 1, 0), (.isub, 1, 0), (.invokestatic 87, 3, 385), (.ifCond .eq 8, 3, 0), (.bipush (-3), 2, 0), (.goto 12, 3, 0)]
def r_553_1 : List (Instr × Nat × Nat) := [(.aload_n 0, 1, 0), (.getfield 19, 3, 346), (.getfield 351, 3, 139), (.iload_n 1, 1, 0), (.iaload, 1, 0)]
def r_553_2 : List (Instr × Nat × Nat) := [(.ireturn, 1, 0)]
def r_561_0 : List (Instr × Nat × Nat) := [(.iload_n 1, 1, 0), (.tableswitch 101 0 6 #[43, 51, 59, 72, 80, 85, 93], 43, 0)]
def r_561_1 : List (Instr × Nat × Nat) := [(.aload_n 0, 1, 0), (.getfield 52, 3, 341), (.getfield 119, 3, 265), (.ireturn, 1, 0)]
def r_561_2 : List (Instr × Nat × Nat) := [(.aload_n 0, 1, 0), (.getfield 52, 3, 341), (.invokevirtual 354, 3, 1094), (.ireturn, 1, 0)]
def r_561_3 : List (Instr × Nat × Nat) := [(.aload_n 0, 1, 0), (.getfield 52, 3, 341), (.getfield 158, 3, 243), (.bipush 8, 2, 0), (.invokestatic 235, 3, 778), (.ireturn, 1, 0)]
def r_561_4 : List (Instr × Nat × Nat) := [(.aload_n 0, 1, 0), (.getfield 52, 3, 341), (.invokevirtual 357, 3, 1098), (.ireturn, 1, 0)]
def r_561_5 : List (Instr × Nat × Nat) := [(.aload_n 0, 1, 0), (.getfield 116, 3, 352), (.ireturn, 1, 0)]
def r_561_6 : List (Instr × Nat × Nat) := [(.aload_n 0, 1, 0), (.getfield 10, 3, 345), (.getfield 91, 3, 112), (.ireturn, 1, 0)]
def r_561_7 : List (Instr × Nat × Nat) := [(.aload_n 0, 1, 0), (.getfield 19, 3, 346), (.getfield 328, 3, 141), (.ireturn, 1, 0)]
def r_561_8 : List (Instr × Nat × Nat) := [(.iconst (-1), 1, 0), (.ireturn, 1, 0)]
def r_568_0 : List (Instr × Nat × Nat) := [(.aload_n 0, 1, 0), (.getfield 56, 3, 342), (.aload_n 0, 1, 0), (.getfield 52, 3, 341), (.invokevirtual 112, 3, 538), (.aload_n 0, 1, 0), (.iconst 1, 1, 0), (.putfield 360, 3, 353), (.iconst 1, 1, 0), (.ireturn, 1, 0)]
def r_576_0 : List (Instr × Nat × Nat) := [(.aload_n 0, 1, 0), (.getfield 360, 3, 353), (.ifCond .ne 6, 3, 0), (.bipush (-3), 2, 0), (.ireturn, 1, 0)]
def r_576_1 : List (Instr × Nat × Nat) := [(.aload_n 0, 1, 0), (.getfield 52, 3, 341), (.aload_n 0, 1, 0), (.getfield 56, 3, 342), (.invokevirtual 112, 3, 538), (.aload_n 0, 1, 0), (.getfield 52, 3, 341), (.getfield 119, 3, 265), (.ireturn, 1, 0)]
def r_584_0 : List (Instr × Nat × Nat) := [(.aload_n 0, 1, 0), (.invokespecial 1, 3, 1115), (.aload_n 0, 1, 0), (.sipush 136, 3, 0), (.newarray .int, 2, 131), (.putfield 7, 3, 1119), (.aload_n 0, 1, 0), (.sipush 136, 3, 0), (.newarray .int, 2, 131), (.putfield 13, 3, 1120), (.aload_n 0, 1, 0), (.sipush 136, 3, 0), (.newarray .int, 2, 131), (.putfield 16, 3, 1121), (.aload_n 0, 1, 0), (.sipush 136, 3, 0), (.newarray .int, 2, 131), (.putfield 19, 3, 1122), (.aload_n 0, 1, 0), (.iconst 5, 1, 0), (.newarray .int, 2, 131), (.dup, 1, 0), (.iconst 0, 1, 0), (.iconst 2, 1, 0), (.iastore, 1, 0), (.dup, 1, 0), (.iconst 1, 1, 0), (.iconst 3, 1, 0), (.iastore, 1, 0), (.dup, 1, 0), (.iconst 2, 1, 0), (.iconst 1, 1, 0), (.iastore, 1, 0), (.dup, 1, 0), (.iconst 3, 1, 0), (.iconst 5, 1, 0), (.iastore, 1, 0), (.dup, 1, 0), (.iconst 4, 1, 0), (.bipush 8, 2, 0), (.iastore, 1, 0), (.putfield 22, 3, 1123), (.aload_n 0, 1, 0), (.sipush 200, 3, 0), (.newarray .int, 2, 131), (.putfield 25, 3, 1125), (.aload_n 0, 1, 0), (.bipush 8, 2, 0), (.newarray .int, 2, 131), (.putfield 28, 3, 1135), (.aload_n 0, 1, 0), (.iconst 4, 1, 0), (.newarray .int, 2, 131), (.putfield 31, 3, 1136), (.aload_n 0, 1, 0), (.iconst 4, 1, 0), (.newarray .int, 2, 131), (.putfield 34, 3, 1137), (.aload_n 0, 1, 0), (.bipush 40, 2, 0), (.newarray .boolean, 2, 178), (.putfield 37, 3, 1139), (.aload_n 0, 1, 0), (.bipush 30, 2, 0), (.newarray .int, 2, 131), (.putfield 41, 3, 1140), (.aload_n 0, 1, 0), (.bipush 30, 2, 0), (.newarray .int, 2, 131), (.putfield 44, 3, 1141), (.aload_n 0, 1, 0), (.iconst 4, 1, 0), (.newarray .int, 2, 131), (.dup, 1, 0), (.iconst 0, 1, 0), (.iconst (-1), 1, 0), (.iastore, 1, 0), (.dup, 1, 0), (.iconst 1, 1, 0), (.iconst (-1), 1, 0), (.iastore, 1, 0), (.dup, 1, 0), (.iconst 2, 1, 0), (.iconst (-1), 1, 0), (.iastore, 1, 0), (.dup, 1, 0), (.iconst 3, 1, 0), (.iconst (-1), 1, 0), (.iastore, 1, 0), (.putfield 47, 3, 1143), (.aload_n 0, 1, 0), (.iconst 4, 1, 0), (.newarray .int, 2, 131), (.putfield 50, 3, 1144), (.aload_n 0, 1, 0), (.sipush 160, 3, 0), (.newarray .long, 2, 936), (.putfield 53, 3, 1145), (.aload_n 0, 1, 0), (.iconst 4, 1, 0), (.newarray .int, 2, 131), (.dup, 1, 0), (.iconst 0, 1, 0), (.iconst (-1), 1, 0), (.iastore, 1, 0), (.dup, 1, 0), (.iconst 1, 1, 0), (.iconst (-1), 1, 0), (.iastore, 1, 0), (.dup, 1, 0), (.iconst 2, 1, 0), (.iconst (-1), 1, 0), (.iastore, 1, 0), (.dup, 1, 0), (.iconst 3, 1, 0), (.iconst (-1), 1, 0), (.iastore, 1, 0), (.putfield 57, 3, 1146), (.aload_n 0, 1, 0), (.iconst 4, 1, 0), (.newarray .int, 2, 131), (.putfield 60, 3, 1147), (.aload_n 0, 1, 0), (.iconst 4, 1, 0), (.newarray .int, 2, 131), (.putfield 63, 3, 1148), (.aload_n 0, 1, 0), (.bipush 30, 2, 0), (.newarray .int, 2, 131), (.putfield 66, 3, 1152), (.aload_n 0, 1, 0), (.getfield 7, 3, 1119), (.invokestatic 69, 3, 1116), (.aload_n 0, 1, 0), (.getfield 7, 3, 1119), (.bipush 6, 2, 0), (.iconst 1, 1, 0), (.iastore, 1, 0), (.return_, 1, 0)]
def r_593_0 : List (Instr × Nat × Nat) := [(.iconst 0, 1, 0), (.istore_n 1, 1, 0)]
def r_593_1 : List (Instr × Nat × Nat) := [(.iload_n 1, 1, 0), (.sipush 136, 3, 0), (.if_icmp .ge 13, 3, 0), (.aload_n 0, 1, 0), (.iload_n 1, 1, 0), (.iconst 0, 1, 0), (.iastore, 1, 0), (.iinc 1 1, 3, 0), (.goto (-14), 3, 0)]
def r_593_2 : List (Instr × Nat × Nat) := [(.aload_n 0, 1, 0), (.iconst 0, 1, 0), (.bipush 10, 2, 0), (.iastore, 1, 0), (.aload_n 0, 1, 0), (.iconst 1, 1, 0), (.bipush 8, 2, 0), (.iastore, 1, 0), (.aload_n 0, 1, 0), (.iconst 2, 1, 0), (.iconst 4, 1, 0), (.iastore, 1, 0), (.aload_n 0, 1, 0), (.bipush 7, 2, 0), (.bipush 9, 2, 0), (.iastore, 1, 0), (.aload_n 0, 1, 0), (.bipush 8, 2, 0), (.iconst 4, 1, 0), (.iastore, 1, 0), (.aload_n 0, 1, 0), (.bipush 9, 2, 0), (.iconst 2, 1, 0), (.iastore, 1, 0), (.aload_n 0, 1, 0), (.bipush 10, 2, 0), (.bipush 6, 2, 0), (.iastore, 1, 0), (.aload_n 0, 1, 0), (.bipush 11, 2, 0), (.bipush 12, 2, 0), (.iastore, 1, 0), (.iconst 0, 1, 0), (.istore_n 1, 1, 0)]
def r_593_3 : List (Instr × Nat × Nat) := [(.iload_n 1, 1, 0), (.bipush 8, 2, 0), (.if_icmp .ge 21, 3, 0), (.aload_n 0, 1, 0), (.bipush 12, 2, 0), (.bipush 7, 2, 0), (.iload_n 1, 1, 0), (.imul, 1, 0), (.iadd, 1, 0), (.iconst 5, 1, 0), (.iadd, 1, 0), (.iconst 3, 1, 0), (.iastore, 1, 0), (.iinc 1 1, 3, 0), (.goto (-21), 3, 0)]
def r_593_4 : List (Instr × Nat × Nat) := [(.iconst 0, 1, 0), (.istore_n 1, 1, 0)]
def r_593_5 : List (Instr × Nat × Nat) := [(.iload_n 1, 1, 0), (.iconst 4, 1, 0), (.if_icmp .ge 20, 3, 0), (.aload_n 0, 1, 0), (.bipush 68, 2, 0), (.iconst 2, 1, 0), (.iload_n 1, 1, 0), (.imul, 1, 0), (.iadd, 1, 0), (.sipush 999, 3, 0), (.iastore, 1, 0), (.iinc 1 1, 3, 0), (.goto (-19), 3, 0)]
def r_593_6 : List (Instr × Nat × Nat) := [(.return_, 1, 0)]
def r_602_0 : List (Instr × Nat × Nat) := [(.iload_n 3, 1, 0), (.iconst 1, 1, 0), (.bipush 8, 2, 0), (.invokestatic 73, 3, 1232), (.ifCond .ne 5, 3, 0), (.iconst (-1), 1, 0), (.ireturn, 1, 0)]
def r_602_1 : List (Instr × Nat × Nat) := [(.aload_n 0, 1, 0), (.getfield 77, 3, 1126), (.iload_n 3, 1, 0), (.iadd, 1, 0), (.sipush 200, 3, 0), (.if_icmp .le 6, 3, 0), (.bipush (-2), 2, 0), (.ireturn, 1, 0)]
def r_602_2 : List (Instr × Nat × Nat) := [(.iconst 0, 1, 0), (.istore 4, 2, 0)]
def r_602_3 : List (Instr × Nat × Nat) := [(.iload 4, 2, 0), (.iload_n 3, 1, 0), (.if_icmp .ge 40, 3, 0), (.aload_n 0, 1, 0), (.getfield 25, 3, 1125), (.aload_n 0, 1, 0), (.getfield 77, 3, 1126), (.lload_n 1, 1, 0), (.bipush 8, 2, 0), (.iload 4, 2, 0), (.imul, 1, 0), (.lshr, 1, 0), (.ldc2_w 81, 3, 1235), (.land, 1, 0), (.l2i, 1, 0), (.iastore, 1, 0), (.aload_n 0, 1, 0), (.dup, 1, 0), (.getfield 77, 3, 1126), (.iconst 1, 1, 0), (.iadd, 1, 0), (.putfield 77, 3, 1126), (.iinc 4 1, 3, 0), (.goto (-40), 3, 0)]
def r_602_4 : List (Instr × Nat × Nat) := [(.aload_n 0, 1, 0), (.getfield 77, 3, 1126), (.ireturn, 1, 0)]
def r_611_0 : List (Instr × Nat × Nat) := [(.iload_n 0, 1, 0), (.iload_n 1, 1, 0), (.if_icmp .lt 12, 3, 0), (.iload_n 0, 1, 0), (.iload_n 2, 1, 0), (.if_icmp .gt 7, 3, 0), (.iconst 1, 1, 0), (.goto 4, 3, 0)]
def r_611_1 : List (Instr × Nat × Nat) := [(.iconst 0, 1, 0)]
def r_611_2 : List (Instr × Nat × Nat) := [(.ireturn, 1, 0)]
def r_616_0 : List (Instr × Nat × Nat) := [(.aload_n 0, 1, 0), (.iconst 0, 1, 0), (.putfield 83, 3, 1129), (.aload_n 0, 1, 0), (.iconst 1, 1, 0), (.putfield 141, 3, 1132), (.aload_n 0, 1, 0), (.getfield 13, 3, 1120), (.invokestatic 69, 3, 1116), (.aload_n 0, 1, 0), (.invokevirtual 145, 3, 1240)]
def r_616_1 : List (Instr × Nat × Nat) := [(.aload_n 0, 1, 0), (.getfield 141, 3, 1132), (.ifCond .eq 17, 3, 0), (.aload_n 0, 1, 0), (.getfield 99, 3, 1127), (.ifCond .eq 10, 3, 0), (.aload_n 0, 1, 0), (.invokevirtual 199, 3, 1257), (.goto (-18), 3, 0)]
def r_616_2 : List (Instr × Nat × Nat) := [(.aload_n 0, 1, 0), (.iconst 0, 1, 0), (.putfield 77, 3, 1126), (.aload_n 0, 1, 0), (.getfield 141, 3, 1132), (.ifCond .ne 11, 3, 0), (.bipush (-100), 2, 0), (.aload_n 0, 1, 0), (.getfield 86, 3, 1128), (.isub, 1, 0), (.ireturn, 1, 0)]
def r_616_3 : List (Instr × Nat × Nat) := [(.aload_n 0, 1, 0), (.getfield 13, 3, 1120), (.bipush 6, 2, 0), (.aload_n 0, 1, 0), (.getfield 7, 3, 1119), (.bipush 6, 2, 0), (.iaload, 1, 0), (.iastore, 1, 0), (.aload_n 0, 1, 0), (.getfield 13, 3, 1120), (.aload_n 0, 1, 0), (.getfield 7, 3, 1119), (.invokestatic 202, 3, 1327), (.aload_n 0, 1, 0), (.iconst 0, 1, 0), (.putfield 206, 3, 1142), (.aload_n 0, 1, 0), (.getfield 7, 3, 1119), (.iconst 5, 1, 0), (.iaload, 1, 0), (.ireturn, 1, 0)]
def r_624_0 : List (Instr × Nat × Nat) := [(.aload_n 0, 1, 0), (.aload_n 0, 1, 0), (.getfield 83, 3, 1129), (.putfield 86, 3, 1128)]
def r_624_1 : List (Instr × Nat × Nat) := [(.aload_n 0, 1, 0), (.aload_n 0, 1, 0), (.getfield 86, 3, 1128), (.invokevirtual 88, 3, 1244), (.bipush 32, 2, 0), (.if_icmp .ne 16, 3, 0), (.aload_n 0, 1, 0), (.dup, 1, 0), (.getfield 86, 3, 1128), (.iconst 1, 1, 0), (.iadd, 1, 0), (.putfield 86, 3, 1128), (.goto (-23), 3, 0)]
def r_624_2 : List (Instr × Nat × Nat) := [(.aload_n 0, 1, 0), (.aload_n 0, 1, 0), (.getfield 86, 3, 1128), (.putfield 83, 3, 1129), (.aload_n 0, 1, 0), (.aload_n 0, 1, 0), (.getfield 86, 3, 1128), (.invokevirtual 88, 3, 1244), (.istore_n 1, 1, 0), (.aload_n 0, 1, 0), (.iload_n 1, 1, 0), (.ifCond .ge 7, 3, 0), (.iconst 0, 1, 0), (.goto 26, 3, 0)]
def r_624_3 : List (Instr × Nat × Nat) := [(.iload_n 1, 1, 0), (.invokestatic 92, 3, 1248), (.ifCond .eq 7, 3, 0), (.iconst 1, 1, 0), (.goto 15, 3, 0)]
def r_624_4 : List (Instr × Nat × Nat) := [(.iload_n 1, 1, 0), (.invokestatic 96, 3, 1251), (.ifCond .eq 7, 3, 0), (.iconst 2, 1, 0), (.goto 4, 3, 0)]
def r_624_5 : List (Instr × Nat × Nat) := [(.iconst 3, 1, 0)]
def r_624_6 : List (Instr × Nat × Nat) := [(.putfield 99, 3, 1127), (.aload_n 0, 1, 0), (.lconst 0, 1, 0), (.putfield 102, 3, 1130), (.aload_n 0, 1, 0), (.aload_n 0, 1, 0), (.getfield 99, 3, 1127), (.iconst 2, 1, 0), (.if_icmp .ne 7, 3, 0), (.iconst 0, 1, 0), (.goto 4, 3, 0)]
def r_624_7 : List (Instr × Nat × Nat) := [(.iload_n 1, 1, 0)]
def r_624_8 : List (Instr × Nat × Nat) := [(.putfield 106, 3, 1131), (.aload_n 0, 1, 0), (.getfield 99, 3, 1127), (.iconst 3, 1, 0), (.if_icmp .ne 13, 3, 0), (.aload_n 0, 1, 0), (.dup, 1, 0), (.getfield 83, 3, 1129), (.iconst 1, 1, 0), (.iadd, 1, 0), (.putfield 83, 3, 1129)]
def r_624_9 : List (Instr × Nat × Nat) := [(.aload_n 0, 1, 0), (.getfield 99, 3, 1127), (.iconst 1, 1, 0), (.if_icmp .ne 76, 3, 0), (.aload_n 0, 1, 0), (.aload_n 0, 1, 0), (.getfield 83, 3, 1129), (.invokevirtual 88, 3, 1244), (.invokestatic 92, 3, 1248), (.ifCond .eq 62, 3, 0), (.aload_n 0, 1, 0), (.aload_n 0, 1, 0), (.getfield 83, 3, 1129), (.aload_n 0, 1, 0), (.getfield 86, 3, 1128), (.isub, 1, 0), (.bipush 9, 2, 0), (.if_icmp .ge 28, 3, 0), (.ldc2_w 109, 3, 1254), (.aload_n 0, 1, 0), (.getfield 102, 3, 1130), (.lmul, 1, 0), (.aload_n 0, 1, 0), (.aload_n 0, 1, 0), (.getfield 83, 3, 1129), (.invokevirtual 88, 3, 1244), (.i2l, 1, 0), (.ladd, 1, 0), (.ldc2_w 111, 3, 1255), (.lsub, 1, 0), (.goto 6, 3, 0)]
def r_624_10 : List (Instr × Nat × Nat) := [(.ldc2_w 113, 3, 1256)]
def r_624_11 : List (Instr × Nat × Nat) := [(.putfield 102, 3, 1130), (.aload_n 0, 1, 0), (.dup, 1, 0), (.getfield 83, 3, 1129), (.iconst 1, 1, 0), (.iadd, 1, 0), (.putfield 83, 3, 1129), (.goto (-78), 3, 0)]
def r_624_12 : List (Instr × Nat × Nat) := [(.aload_n 0, 1, 0), (.getfield 99, 3, 1127), (.iconst 2, 1, 0), (.if_icmp .ne 70, 3, 0), (.aload_n 0, 1, 0), (.aload_n 0, 1, 0), (.getfield 83, 3, 1129), (.invokevirtual 88, 3, 1244), (.invokestatic 96, 3, 1251), (.ifCond .eq 56, 3, 0), (.aload_n 0, 1, 0), (.aload_n 0, 1, 0), (.getfield 83, 3, 1129), (.aload_n 0, 1, 0), (.getfield 86, 3, 1128), (.isub, 1, 0), (.iconst 3, 1, 0), (.if_icmp .ge 25, 3, 0), (.bipush 10, 2, 0), (.aload_n 0, 1, 0), (.getfield 106, 3, 1131), (.imul, 1, 0), (.aload_n 0, 1, 0), (.aload_n 0, 1, 0), (.getfield 83, 3, 1129), (.invokevirtual 88, 3, 1244), (.iadd, 1, 0), (.bipush 48, 2, 0), (.isub, 1, 0), (.goto 4, 3, 0)]
def r_624_13 : List (Instr × Nat × Nat) := [(.iconst (-1), 1, 0)]
def r_624_14 : List (Instr × Nat × Nat) := [(.putfield 106, 3, 1131), (.aload_n 0, 1, 0), (.dup, 1, 0), (.getfield 83, 3, 1129), (.iconst 1, 1, 0), (.iadd, 1, 0), (.putfield 83, 3, 1129), (.goto (-72), 3, 0)]
def r_624_15 : List (Instr × Nat × Nat) := [(.return_, 1, 0)]
def r_633_0 : List (Instr × Nat × Nat) := [(.iload_n 1, 1, 0), (.aload_n 0, 1, 0), (.getfield 77, 3, 1126), (.if_icmp .ge 12, 3, 0), (.aload_n 0, 1, 0), (.getfield 25, 3, 1125), (.iload_n 1, 1, 0), (.iaload, 1, 0), (.goto 4, 3, 0)]
def r_633_1 : List (Instr × Nat × Nat) := [(.iconst (-1), 1, 0)]
def r_633_2 : List (Instr × Nat × Nat) := [(.ireturn, 1, 0)]
def r_641_0 : List (Instr × Nat × Nat) := [(.iload_n 0, 1, 0), (.bipush 97, 2, 0), (.bipush 122, 2, 0), (.invokestatic 73, 3, 1232), (.ireturn, 1, 0)]
def r_649_0 : List (Instr × Nat × Nat) := [(.iload_n 0, 1, 0), (.bipush 48, 2, 0), (.bipush 57, 2, 0), (.invokestatic 73, 3, 1232), (.ireturn, 1, 0)]
def r_656_0 : List (Instr × Nat × Nat) := [(.aload_n 0, 1, 0), (.invokevirtual 175, 3, 1261), (.ifCond .lt 14, 3, 0), (.aload_n 0, 1, 0), (.aload_n 0, 1, 0), (.invokevirtual 175, 3, 1261), (.invokevirtual 178, 3, 1275), (.goto 93, 3, 0)]
def r_656_1 : List (Instr × Nat × Nat) := [(.aload_n 0, 1, 0), (.ldc2_w 182, 3, 1297), (.invokevirtual 117, 3, 1266), (.ifCond .eq 10, 3, 0), (.aload_n 0, 1, 0), (.invokevirtual 184, 3, 1298), (.goto 76, 3, 0)]
def r_656_2 : List (Instr × Nat × Nat) := [(.aload_n 0, 1, 0), (.ldc2_w 187, 3, 1316), (.invokevirtual 117, 3, 1266), (.ifCond .eq 10, 3, 0), (.aload_n 0, 1, 0), (.invokevirtual 189, 3, 1317), (.goto 59, 3, 0)]
def r_656_3 : List (Instr × Nat × Nat) := [(.aload_n 0, 1, 0), (.ldc2_w 192, 3, 1321), (.invokevirtual 117, 3, 1266), (.ifCond .eq 10, 3, 0), (.aload_n 0, 1, 0), (.invokevirtual 194, 3, 1322), (.goto 42, 3, 0)]
def r_656_4 : List (Instr × Nat × Nat) := [(.aload_n 0, 1, 0), (.ldc2_w 197, 3, 1326), (.invokevirtual 117, 3, 1266), (.ifCond .eq 27, 3, 0), (.aload_n 0, 1, 0), (.invokevirtual 145, 3, 1240), (.aload_n 0, 1, 0), (.getfield 13, 3, 1120), (.iconst 0, 1, 0), (.aload_n 0, 1, 0), (.iconst 0, 1, 0), (.bipush 99, 2, 0), (.invokevirtual 155, 3, 1279), (.iastore, 1, 0), (.aload_n 0, 1, 0), (.invokevirtual 167, 3, 1289), (.goto 8, 3, 0)]
def r_656_5 : List (Instr × Nat × Nat) := [(.aload_n 0, 1, 0), (.iconst 0, 1, 0), (.putfield 141, 3, 1132)]
def r_656_6 : List (Instr × Nat × Nat) := [(.return_, 1, 0)]
def r_664_0 : List (Instr × Nat × Nat) := [(.aload_n 0, 1, 0), (.ldc2_w 115, 3, 1265), (.invokevirtual 117, 3, 1266), (.ifCond .eq 7, 3, 0), (.iconst 0, 1, 0), (.goto 74, 3, 0)]
def r_664_1 : List (Instr × Nat × Nat) := [(.aload_n 0, 1, 0), (.ldc2_w 121, 3, 1270), (.invokevirtual 117, 3, 1266), (.ifCond .eq 7, 3, 0), (.iconst 1, 1, 0), (.goto 60, 3, 0)]
def r_664_2 : List (Instr × Nat × Nat) := [(.aload_n 0, 1, 0), (.ldc2_w 123, 3, 1271), (.invokevirtual 117, 3, 1266), (.ifCond .eq 7, 3, 0), (.iconst 2, 1, 0), (.goto 46, 3, 0)]
def r_664_3 : List (Instr × Nat × Nat) := [(.aload_n 0, 1, 0), (.ldc2_w 125, 3, 1272), (.invokevirtual 117, 3, 1266), (.ifCond .eq 7, 3, 0), (.iconst 3, 1, 0), (.goto 32, 3, 0)]
def r_664_4 : List (Instr × Nat × Nat) := [(.aload_n 0, 1, 0), (.ldc2_w 127, 3, 1273), (.invokevirtual 117, 3, 1266), (.ifCond .eq 7, 3, 0), (.iconst 4, 1, 0), (.goto 18, 3, 0)]
def r_664_5 : List (Instr × Nat × Nat) := [(.aload_n 0, 1, 0), (.ldc2_w 129, 3, 1274), (.invokevirtual 117, 3, 1266), (.ifCond .eq 7, 3, 0), (.iconst 5, 1, 0), (.goto 4, 3, 0)]
def r_664_6 : List (Instr × Nat × Nat) := [(.iconst (-1), 1, 0)]
def r_664_7 : List (Instr × Nat × Nat) := [(.ireturn, 1, 0)]
def r_673_0 : List (Instr × Nat × Nat) := [(.aload_n 0, 1, 0), (.getfield 99, 3, 1127), (.iconst 1, 1, 0), (.if_icmp .ne 16, 3, 0), (.aload_n 0, 1, 0), (.getfield 102, 3, 1130), (.lload_n 1, 1, 0), (.lcmp, 1, 0), (.ifCond .ne 7, 3, 0), (.iconst 1, 1, 0), (.goto 4, 3, 0)]
def r_673_1 : List (Instr × Nat × Nat) := [(.iconst 0, 1, 0)]
def r_673_2 : List (Instr × Nat × Nat) := [(.ireturn, 1, 0)]
def r_681_0 : List (Instr × Nat × Nat) := [(.aload_n 0, 1, 0), (.aload_n 0, 1, 0), (.getfield 13, 3, 1120), (.iconst 5, 1, 0), (.iaload, 1, 0), (.bipush 6, 2, 0), (.if_icmp .ge 7, 3, 0), (.iconst 1, 1, 0), (.goto 4, 3, 0)]
def r_681_1 : List (Instr × Nat × Nat) := [(.iconst 0, 1, 0)]
def r_681_2 : List (Instr × Nat × Nat) := [(.putfield 141, 3, 1132), (.aload_n 0, 1, 0), (.getfield 141, 3, 1132), (.ifCond .eq 7, 3, 0), (.aload_n 0, 1, 0), (.invokevirtual 145, 3, 1240)]
def r_681_3 : List (Instr × Nat × Nat) := [(.aload_n 0, 1, 0), (.iconst 0, 1, 0), (.bipush 9, 2, 0), (.invokevirtual 155, 3, 1279), (.istore_n 2, 1, 0), (.aload_n 0, 1, 0), (.ldc2_w 159, 3, 1283), (.invokevirtual 161, 3, 1284), (.aload_n 0, 1, 0), (.iconst 0, 1, 0), (.bipush 7, 2, 0), (.invokevirtual 155, 3, 1279), (.istore_n 3, 1, 0), (.aload_n 0, 1, 0), (.ldc2_w 165, 3, 1288), (.invokevirtual 161, 3, 1284), (.aload_n 0, 1, 0), (.iconst 0, 1, 0), (.bipush 9, 2, 0), (.invokevirtual 155, 3, 1279), (.istore 4, 2, 0), (.aload_n 0, 1, 0), (.invokevirtual 167, 3, 1289), (.aload_n 0, 1, 0), (.getfield 141, 3, 1132), (.ifCond .eq 66, 3, 0), (.bipush 76, 2, 0), (.bipush 10, 2, 0), (.aload_n 0, 1, 0), (.getfield 13, 3, 1120), (.iconst 5, 1, 0), (.iaload, 1, 0), (.imul, 1, 0), (.iadd, 1, 0), (.istore 5, 2, 0), (.aload_n 0, 1, 0), (.getfield 13, 3, 1120), (.iload 5, 2, 0), (.iload_n 1, 1, 0), (.iastore, 1, 0), (.aload_n 0, 1, 0), (.getfield 13, 3, 1120), (.iload 5, 2, 0), (.iconst 1, 1, 0), (.iadd, 1, 0), (.iload_n 2, 1, 0), (.iastore, 1, 0), (.aload_n 0, 1, 0), (.getfield 13, 3, 1120), (.iload 5, 2, 0), (.iconst 2, 1, 0), (.iadd, 1, 0), (.iload_n 3, 1, 0), (.iastore, 1, 0), (.aload_n 0, 1, 0), (.getfield 13, 3, 1120), (.iload 5, 2, 0), (.iconst 3, 1, 0), (.iadd, 1, 0), (.iload 4, 2, 0), (.iastore, 1, 0), (.aload_n 0, 1, 0), (.getfield 13, 3, 1120), (.iconst 5, 1, 0), (.dup2, 1, 0), (.iaload, 1, 0), (.iconst 1, 1, 0), (.iadd, 1, 0), (.iastore, 1, 0)]
def r_681_4 : List (Instr × Nat × Nat) := [(.return_, 1, 0)]
def r_690_0 : List (Instr × Nat × Nat) := [(.aload_n 0, 1, 0), (.getfield 106, 3, 1131), (.istore_n 3, 1, 0), (.aload_n 0, 1, 0), (.aload_n 0, 1, 0), (.getfield 141, 3, 1132), (.ifCond .eq 24, 3, 0), (.aload_n 0, 1, 0), (.getfield 99, 3, 1127), (.iconst 2, 1, 0), (.if_icmp .ne 16, 3, 0), (.iload_n 3, 1, 0), (.iload_n 1, 1, 0), (.iload_n 2, 1, 0), (.invokestatic 73, 3, 1232), (.ifCond .eq 7, 3, 0), (.iconst 1, 1, 0), (.goto 4, 3, 0)]
def r_690_1 : List (Instr × Nat × Nat) := [(.iconst 0, 1, 0)]
def r_690_2 : List (Instr × Nat × Nat) := [(.putfield 141, 3, 1132), (.aload_n 0, 1, 0), (.getfield 141, 3, 1132), (.ifCond .eq 7, 3, 0), (.aload_n 0, 1, 0), (.invokevirtual 145, 3, 1240)]
def r_690_3 : List (Instr × Nat × Nat) := [(.iload_n 3, 1, 0), (.ireturn, 1, 0)]
def r_697_0 : List (Instr × Nat × Nat) := [(.aload_n 0, 1, 0), (.aload_n 0, 1, 0), (.getfield 141, 3, 1132), (.ifCond .eq 15, 3, 0), (.aload_n 0, 1, 0), (.lload_n 1, 1, 0), (.invokevirtual 117, 3, 1266), (.ifCond .eq 7, 3, 0), (.iconst 1, 1, 0), (.goto 4, 3, 0)]
def r_697_1 : List (Instr × Nat × Nat) := [(.iconst 0, 1, 0)]
def r_697_2 : List (Instr × Nat × Nat) := [(.putfield 141, 3, 1132), (.aload_n 0, 1, 0), (.getfield 141, 3, 1132), (.ifCond .eq 7, 3, 0), (.aload_n 0, 1, 0), (.invokevirtual 145, 3, 1240)]
def r_697_3 : List (Instr × Nat × Nat) := [(.return_, 1, 0)]
def r_704_0 : List (Instr × Nat × Nat) := [(.aload_n 0, 1, 0), (.aload_n 0, 1, 0), (.getfield 141, 3, 1132), (.ifCond .eq 16, 3, 0), (.aload_n 0, 1, 0), (.bipush 59, 2, 0), (.invokevirtual 148, 3, 1293), (.ifCond .eq 7, 3, 0), (.iconst 1, 1, 0), (.goto 4, 3, 0)]
def r_704_1 : List (Instr × Nat × Nat) := [(.iconst 0, 1, 0)]
def r_704_2 : List (Instr × Nat × Nat) := [(.putfield 141, 3, 1132), (.aload_n 0, 1, 0), (.getfield 141, 3, 1132), (.ifCond .eq 7, 3, 0), (.aload_n 0, 1, 0), (.invokevirtual 145, 3, 1240)]
def r_704_3 : List (Instr × Nat × Nat) := [(.return_, 1, 0)]
def r_713_0 : List (Instr × Nat × Nat) := [(.aload_n 0, 1, 0), (.getfield 99, 3, 1127), (.iconst 3, 1, 0), (.if_icmp .ne 15, 3, 0), (.aload_n 0, 1, 0), (.getfield 106, 3, 1131), (.iload_n 1, 1, 0), (.if_icmp .ne 7, 3, 0), (.iconst 1, 1, 0), (.goto 4, 3, 0)]
def r_713_1 : List (Instr × Nat × Nat) := [(.iconst 0, 1, 0)]
def r_713_2 : List (Instr × Nat × Nat) := [(.ireturn, 1, 0)]
def r_720_0 : List (Instr × Nat × Nat) := [(.aload_n 0, 1, 0), (.invokevirtual 145, 3, 1240), (.aload_n 0, 1, 0), (.iconst 0, 1, 0), (.bipush 7, 2, 0), (.invokevirtual 155, 3, 1279), (.istore_n 1, 1, 0), (.aload_n 0, 1, 0), (.getfield 141, 3, 1132), (.ifCond .eq 17, 3, 0), (.aload_n 0, 1, 0), (.ldc2_w 170, 3, 1302), (.invokevirtual 117, 3, 1266), (.ifCond .eq 7, 3, 0), (.iconst 1, 1, 0), (.goto 4, 3, 0)]
def r_720_1 : List (Instr × Nat × Nat) := [(.iconst 0, 1, 0)]
def r_720_2 : List (Instr × Nat × Nat) := [(.istore_n 2, 1, 0), (.iconst 5, 1, 0), (.istore_n 3, 1, 0), (.iload_n 2, 1, 0), (.ifCond .eq 10, 3, 0), (.aload_n 0, 1, 0), (.invokevirtual 145, 3, 1240), (.goto 15, 3, 0)]
def r_720_3 : List (Instr × Nat × Nat) := [(.aload_n 0, 1, 0), (.getfield 141, 3, 1132), (.ifCond .eq 8, 3, 0), (.aload_n 0, 1, 0), (.invokevirtual 172, 3, 1303), (.istore_n 3, 1, 0)]
def r_720_4 : List (Instr × Nat × Nat) := [(.aload_n 0, 1, 0), (.iconst 0, 1, 0), (.iload_n 2, 1, 0), (.ifCond .eq 8, 3, 0), (.bipush 9, 2, 0), (.goto 5, 3, 0)]
def r_720_5 : List (Instr × Nat × Nat) := [(.bipush 99, 2, 0)]
def r_720_6 : List (Instr × Nat × Nat) := [(.invokevirtual 155, 3, 1279), (.istore 4, 2, 0), (.aload_n 0, 1, 0), (.invokevirtual 167, 3, 1289), (.aload_n 0, 1, 0), (.getfield 141, 3, 1132), (.ifCond .eq 19, 3, 0), (.aload_n 0, 1, 0), (.getfield 13, 3, 1120), (.bipush 12, 2, 0), (.bipush 7, 2, 0), (.iload_n 1, 1, 0), (.imul, 1, 0), (.iadd, 1, 0), (.iload_n 3, 1, 0), (.iadd, 1, 0), (.iload 4, 2, 0), (.iastore, 1, 0)]
def r_720_7 : List (Instr × Nat × Nat) := [(.return_, 1, 0)]
def r_728_0 : List (Instr × Nat × Nat) := [(.aload_n 0, 1, 0), (.invokevirtual 151, 3, 1307), (.istore_n 1, 1, 0), (.aload_n 0, 1, 0), (.aload_n 0, 1, 0), (.getfield 141, 3, 1132), (.ifCond .eq 11, 3, 0), (.iload_n 1, 1, 0), (.ifCond .lt 7, 3, 0), (.iconst 1, 1, 0), (.goto 4, 3, 0)]
def r_728_1 : List (Instr × Nat × Nat) := [(.iconst 0, 1, 0)]
def r_728_2 : List (Instr × Nat × Nat) := [(.putfield 141, 3, 1132), (.aload_n 0, 1, 0), (.getfield 141, 3, 1132), (.ifCond .eq 7, 3, 0), (.aload_n 0, 1, 0), (.invokevirtual 145, 3, 1240)]
def r_728_3 : List (Instr × Nat × Nat) := [(.iload_n 1, 1, 0), (.ireturn, 1, 0)]
def r_736_0 : List (Instr × Nat × Nat) := [(.aload_n 0, 1, 0), (.ldc2_w 131, 3, 1311), (.invokevirtual 117, 3, 1266), (.ifCond .eq 7, 3, 0), (.iconst 0, 1, 0), (.goto 60, 3, 0)]
def r_736_1 : List (Instr × Nat × Nat) := [(.aload_n 0, 1, 0), (.ldc2_w 133, 3, 1312), (.invokevirtual 117, 3, 1266), (.ifCond .eq 7, 3, 0), (.iconst 1, 1, 0), (.goto 46, 3, 0)]
def r_736_2 : List (Instr × Nat × Nat) := [(.aload_n 0, 1, 0), (.ldc2_w 135, 3, 1313), (.invokevirtual 117, 3, 1266), (.ifCond .eq 7, 3, 0), (.iconst 2, 1, 0), (.goto 32, 3, 0)]
def r_736_3 : List (Instr × Nat × Nat) := [(.aload_n 0, 1, 0), (.ldc2_w 137, 3, 1314), (.invokevirtual 117, 3, 1266), (.ifCond .eq 7, 3, 0), (.iconst 3, 1, 0), (.goto 18, 3, 0)]
def r_736_4 : List (Instr × Nat × Nat) := [(.aload_n 0, 1, 0), (.ldc2_w 139, 3, 1315), (.invokevirtual 117, 3, 1266), (.ifCond .eq 7, 3, 0), (.iconst 4, 1, 0), (.goto 4, 3, 0)]
def r_736_5 : List (Instr × Nat × Nat) := [(.iconst (-1), 1, 0)]
def r_736_6 : List (Instr × Nat × Nat) := [(.ireturn, 1, 0)]
def r_744_0 : List (Instr × Nat × Nat) := [(.aload_n 0, 1, 0), (.invokevirtual 145, 3, 1240), (.aload_n 0, 1, 0), (.invokevirtual 172, 3, 1303), (.istore_n 1, 1, 0), (.aload_n 0, 1, 0), (.iconst 1, 1, 0), (.bipush 30, 2, 0), (.invokevirtual 155, 3, 1279), (.istore_n 2, 1, 0), (.aload_n 0, 1, 0), (.invokevirtual 167, 3, 1289), (.aload_n 0, 1, 0), (.getfield 141, 3, 1132), (.ifCond .eq 13, 3, 0), (.aload_n 0, 1, 0), (.getfield 13, 3, 1120), (.bipush 7, 2, 0), (.iload_n 1, 1, 0), (.iadd, 1, 0), (.iload_n 2, 1, 0), (.iastore, 1, 0)]
def r_744_1 : List (Instr × Nat × Nat) := [(.return_, 1, 0)]
def r_752_0 : List (Instr × Nat × Nat) := [(.aload_n 0, 1, 0), (.invokevirtual 145, 3, 1240), (.aload_n 0, 1, 0), (.iconst 0, 1, 0), (.iconst 3, 1, 0), (.invokevirtual 155, 3, 1279), (.istore_n 1, 1, 0), (.aload_n 0, 1, 0), (.iconst 0, 1, 0), (.sipush 999, 3, 0), (.invokevirtual 155, 3, 1279), (.istore_n 2, 1, 0), (.aload_n 0, 1, 0), (.invokevirtual 167, 3, 1289), (.aload_n 0, 1, 0), (.getfield 141, 3, 1132), (.ifCond .eq 15, 3, 0), (.aload_n 0, 1, 0), (.getfield 13, 3, 1120), (.bipush 68, 2, 0), (.iconst 2, 1, 0), (.iload_n 1, 1, 0), (.imul, 1, 0), (.iadd, 1, 0), (.iload_n 2, 1, 0), (.iastore, 1, 0)]
def r_752_1 : List (Instr × Nat × Nat) := [(.return_, 1, 0)]
def r_762_0 : List (Instr × Nat × Nat) := [(.iconst 0, 1, 0), (.istore_n 2, 1, 0)]
def r_762_1 : List (Instr × Nat × Nat) := [(.iload_n 2, 1, 0), (.sipush 136, 3, 0), (.if_icmp .ge 15, 3, 0), (.aload_n 1, 1, 0), (.iload_n 2, 1, 0), (.aload_n 0, 1, 0), (.iload_n 2, 1, 0), (.iaload, 1, 0), (.iastore, 1, 0), (.iinc 2 1, 3, 0), (.goto (-16), 3, 0)]
def r_762_2 : List (Instr × Nat × Nat) := [(.return_, 1, 0)]
def r_770_0 : List (Instr × Nat × Nat) := [(.iload_n 1, 1, 0), (.ifCond .ne 13, 3, 0), (.iload_n 2, 1, 0), (.iconst 0, 1, 0), (.bipush 99, 2, 0), (.invokestatic 73, 3, 1232), (.goto 28, 3, 0)]
def r_770_1 : List (Instr × Nat × Nat) := [(.iload_n 1, 1, 0), (.iconst 1, 1, 0), (.if_icmp .eq 8, 3, 0), (.iload_n 1, 1, 0), (.iconst 2, 1, 0), (.if_icmp .ne 17, 3, 0)]
def r_770_2 : List (Instr × Nat × Nat) := [(.iload_n 2, 1, 0), (.iconst 1, 1, 0), (.bipush 20, 2, 0), (.invokestatic 73, 3, 1232), (.ifCond .eq 7, 3, 0), (.iconst 1, 1, 0), (.goto 4, 3, 0)]
def r_770_3 : List (Instr × Nat × Nat) := [(.iconst 0, 1, 0)]
def r_770_4 : List (Instr × Nat × Nat) := [(.istore_n 3, 1, 0), (.iload_n 3, 1, 0), (.ifCond .eq 12, 3, 0), (.aload_n 0, 1, 0), (.iload_n 1, 1, 0), (.iload_n 2, 1, 0), (.invokevirtual 209, 3, 1334), (.goto 4, 3, 0)]
def r_770_5 : List (Instr × Nat × Nat) := [(.iconst (-1), 1, 0)]
def r_770_6 : List (Instr × Nat × Nat) := [(.ireturn, 1, 0)]
def r_778_0 : List (Instr × Nat × Nat) := [(.aload_n 0, 1, 0), (.getfield 7, 3, 1119), (.iload_n 1, 1, 0), (.iaload, 1, 0), (.istore_n 3, 1, 0), (.aload_n 0, 1, 0), (.getfield 7, 3, 1119), (.iload_n 1, 1, 0), (.iload_n 2, 1, 0), (.iastore, 1, 0), (.iload_n 3, 1, 0), (.ireturn, 1, 0)]
def r_785_0 : List (Instr × Nat × Nat) := [(.iload_n 1, 1, 0), (.iconst 0, 1, 0), (.iconst 2, 1, 0), (.invokestatic 73, 3, 1232), (.ifCond .eq 12, 3, 0), (.aload_n 0, 1, 0), (.getfield 7, 3, 1119), (.iload_n 1, 1, 0), (.iaload, 1, 0), (.goto 4, 3, 0)]
def r_785_1 : List (Instr × Nat × Nat) := [(.iconst (-1), 1, 0)]
def r_785_2 : List (Instr × Nat × Nat) := [(.ireturn, 1, 0)]
def r_794_0 : List (Instr × Nat × Nat) := [(.iload_n 1, 1, 0), (.invokestatic 212, 3, 1346), (.ifCond .eq 25, 3, 0), (.iload_n 2, 1, 0), (.iconst 1, 1, 0), (.bipush 30, 2, 0), (.invokestatic 73, 3, 1232), (.ifCond .eq 15, 3, 0), (.aload_n 0, 1, 0), (.bipush 7, 2, 0), (.iload_n 1, 1, 0), (.iadd, 1, 0), (.iload_n 2, 1, 0), (.invokevirtual 209, 3, 1334), (.goto 4, 3, 0)]
def r_794_1 : List (Instr × Nat × Nat) := [(.iconst (-1), 1, 0)]
def r_794_2 : List (Instr × Nat × Nat) := [(.ireturn, 1, 0)]
def r_801_0 : List (Instr × Nat × Nat) := [(.iload_n 0, 1, 0), (.iconst 0, 1, 0), (.iconst 4, 1, 0), (.invokestatic 73, 3, 1232), (.ireturn, 1, 0)]
def r_810_0 : List (Instr × Nat × Nat) := [(.iload_n 1, 1, 0), (.invokestatic 215, 3, 1353), (.ifCond .eq 28, 3, 0), (.iload_n 2, 1, 0), (.iconst 0, 1, 0), (.sipush 999, 3, 0), (.invokestatic 73, 3, 1232), (.ifCond .eq 17, 3, 0), (.aload_n 0, 1, 0), (.bipush 68, 2, 0), (.iconst 2, 1, 0), (.iload_n 1, 1, 0), (.imul, 1, 0), (.iadd, 1, 0), (.iload_n 2, 1, 0), (.invokevirtual 209, 3, 1334), (.goto 4, 3, 0)]
def r_810_1 : List (Instr × Nat × Nat) := [(.iconst (-1), 1, 0)]
def r_810_2 : List (Instr × Nat × Nat) := [(.ireturn, 1, 0)]
def r_817_0 : List (Instr × Nat × Nat) := [(.iload_n 0, 1, 0), (.iconst 0, 1, 0), (.iconst 3, 1, 0), (.invokestatic 73, 3, 1232), (.ireturn, 1, 0)]
def r_826_0 : List (Instr × Nat × Nat) := [(.iload_n 1, 1, 0), (.invokestatic 215, 3, 1353), (.ifCond .eq 12, 3, 0), (.iload_n 2, 1, 0), (.iconst 0, 1, 0), (.iconst 2, 1, 0), (.invokestatic 73, 3, 1232), (.ifCond .ne 5, 3, 0)]
def r_826_1 : List (Instr × Nat × Nat) := [(.iconst (-1), 1, 0), (.ireturn, 1, 0)]
def r_826_2 : List (Instr × Nat × Nat) := [(.iload_n 2, 1, 0), (.iconst 2, 1, 0), (.if_icmp .ge 19, 3, 0), (.aload_n 0, 1, 0), (.getfield 7, 3, 1119), (.bipush 68, 2, 0), (.iconst 2, 1, 0), (.iload_n 1, 1, 0), (.imul, 1, 0), (.iadd, 1, 0), (.iload_n 2, 1, 0), (.iadd, 1, 0), (.iaload, 1, 0), (.goto 22, 3, 0)]
def r_826_3 : List (Instr × Nat × Nat) := [(.aload_n 0, 1, 0), (.iconst 2, 1, 0), (.iload_n 1, 1, 0), (.imul, 1, 0), (.iconst 5, 1, 0), (.invokevirtual 218, 3, 1360), (.aload_n 0, 1, 0), (.iconst 2, 1, 0), (.iload_n 1, 1, 0), (.imul, 1, 0), (.iconst 1, 1, 0), (.iadd, 1, 0), (.iconst 5, 1, 0), (.invokevirtual 218, 3, 1360), (.iadd, 1, 0)]
def r_826_4 : List (Instr × Nat × Nat) := [(.ireturn, 1, 0)]
def r_834_0 : List (Instr × Nat × Nat) := [(.aload_n 0, 1, 0), (.getfield 7, 3, 1119), (.bipush 12, 2, 0), (.bipush 7, 2, 0), (.iload_n 1, 1, 0), (.imul, 1, 0), (.iadd, 1, 0), (.iload_n 2, 1, 0), (.iadd, 1, 0), (.iaload, 1, 0), (.ireturn, 1, 0)]
def r_842_0 : List (Instr × Nat × Nat) := [(.iload_n 1, 1, 0), (.invokestatic 221, 3, 1368), (.ifCond .eq 13, 3, 0), (.iload_n 2, 1, 0), (.iconst 0, 1, 0), (.bipush 7, 2, 0), (.invokestatic 73, 3, 1232), (.ifCond .ne 5, 3, 0)]
def r_842_1 : List (Instr × Nat × Nat) := [(.iconst (-1), 1, 0), (.ireturn, 1, 0)]
def r_842_2 : List (Instr × Nat × Nat) := [(.iload_n 2, 1, 0), (.bipush 7, 2, 0), (.if_icmp .ge 12, 3, 0), (.aload_n 0, 1, 0), (.iload_n 1, 1, 0), (.iload_n 2, 1, 0), (.invokevirtual 218, 3, 1360), (.goto 8, 3, 0)]
def r_842_3 : List (Instr × Nat × Nat) := [(.aload_n 0, 1, 0), (.iload_n 1, 1, 0), (.invokevirtual 224, 3, 1371)]
def r_842_4 : List (Instr × Nat × Nat) := [(.ireturn, 1, 0)]
def r_849_0 : List (Instr × Nat × Nat) := [(.iload_n 0, 1, 0), (.iconst 0, 1, 0), (.bipush 7, 2, 0), (.invokestatic 73, 3, 1232), (.ireturn, 1, 0)]
def r_857_0 : List (Instr × Nat × Nat) := [(.iconst 0, 1, 0), (.istore_n 2, 1, 0), (.iconst 0, 1, 0), (.istore_n 3, 1, 0)]
def r_857_1 : List (Instr × Nat × Nat) := [(.iload_n 3, 1, 0), (.iconst 5, 1, 0), (.if_icmp .ge 18, 3, 0), (.iload_n 2, 1, 0), (.aload_n 0, 1, 0), (.iload_n 1, 1, 0), (.iload_n 3, 1, 0), (.invokevirtual 218, 3, 1360), (.iadd, 1, 0), (.istore_n 2, 1, 0), (.iinc 3 1, 3, 0), (.goto (-17), 3, 0)]
def r_857_2 : List (Instr × Nat × Nat) := [(.iload_n 2, 1, 0), (.ireturn, 1, 0)]
def r_867_0 : List (Instr × Nat × Nat) := [(.iload_n 1, 1, 0), (.invokestatic 221, 3, 1368), (.ifCond .eq 39, 3, 0), (.iload_n 2, 1, 0), (.invokestatic 212, 3, 1346), (.ifCond .eq 13, 3, 0), (.iload_n 3, 1, 0), (.iconst 0, 1, 0), (.bipush 99, 2, 0), (.invokestatic 73, 3, 1232), (.ifCond .ne 18, 3, 0)]
def r_867_1 : List (Instr × Nat × Nat) := [(.iload_n 2, 1, 0), (.iconst 5, 1, 0), (.if_icmp .ne 17, 3, 0), (.iload_n 3, 1, 0), (.iconst 0, 1, 0), (.bipush 9, 2, 0), (.invokestatic 73, 3, 1232), (.ifCond .eq 7, 3, 0)]
def r_867_2 : List (Instr × Nat × Nat) := [(.iconst 1, 1, 0), (.goto 4, 3, 0)]
def r_867_3 : List (Instr × Nat × Nat) := [(.iconst 0, 1, 0)]
def r_867_4 : List (Instr × Nat × Nat) := [(.istore 4, 2, 0), (.iload 4, 2, 0), (.ifCond .eq 20, 3, 0), (.aload_n 0, 1, 0), (.bipush 12, 2, 0), (.bipush 7, 2, 0), (.iload_n 1, 1, 0), (.imul, 1, 0), (.iadd, 1, 0), (.iload_n 2, 1, 0), (.iadd, 1, 0), (.iload_n 3, 1, 0), (.invokevirtual 209, 3, 1334), (.goto 4, 3, 0)]
def r_867_5 : List (Instr × Nat × Nat) := [(.iconst (-1), 1, 0)]
def r_867_6 : List (Instr × Nat × Nat) := [(.ireturn, 1, 0)]
def r_876_0 : List (Instr × Nat × Nat) := [(.iload_n 1, 1, 0), (.iload_n 2, 1, 0), (.invokestatic 227, 3, 1383), (.ifCond .eq 21, 3, 0), (.iload_n 3, 1, 0), (.invokestatic 221, 3, 1368), (.ifCond .eq 14, 3, 0), (.iload 4, 2, 0), (.iconst 0, 1, 0), (.bipush 9, 2, 0), (.invokestatic 73, 3, 1232), (.ifCond .ne 5, 3, 0)]
def r_876_1 : List (Instr × Nat × Nat) := [(.iconst (-1), 1, 0), (.ireturn, 1, 0)]
def r_876_2 : List (Instr × Nat × Nat) := [(.aload_n 0, 1, 0), (.getfield 7, 3, 1119), (.iconst 5, 1, 0), (.iaload, 1, 0), (.bipush 6, 2, 0), (.if_icmp .ne 6, 3, 0), (.bipush (-2), 2, 0), (.ireturn, 1, 0)]
def r_876_3 : List (Instr × Nat × Nat) := [(.aload_n 0, 1, 0), (.getfield 7, 3, 1119), (.iconst 5, 1, 0), (.iaload, 1, 0), (.istore 5, 2, 0), (.iconst 0, 1, 0), (.istore 6, 2, 0)]
def r_876_4 : List (Instr × Nat × Nat) := [(.iload 6, 2, 0), (.bipush 10, 2, 0), (.if_icmp .ge 18, 3, 0), (.aload_n 0, 1, 0), (.iload 5, 2, 0), (.iload 6, 2, 0), (.iconst 0, 1, 0), (.invokevirtual 231, 3, 1386), (.iinc 6 1, 3, 0), (.goto (-19), 3, 0)]
def r_876_5 : List (Instr × Nat × Nat) := [(.aload_n 0, 1, 0), (.iload 5, 2, 0), (.iconst 0, 1, 0), (.iload_n 1, 1, 0), (.invokevirtual 231, 3, 1386), (.aload_n 0, 1, 0), (.iload 5, 2, 0), (.iconst 1, 1, 0), (.iload_n 2, 1, 0), (.invokevirtual 231, 3, 1386), (.aload_n 0, 1, 0), (.iload 5, 2, 0), (.iconst 2, 1, 0), (.iload_n 3, 1, 0), (.invokevirtual 231, 3, 1386), (.aload_n 0, 1, 0), (.iload 5, 2, 0), (.iconst 3, 1, 0), (.iload 4, 2, 0), (.invokevirtual 231, 3, 1386), (.aload_n 0, 1, 0), (.getfield 7, 3, 1119), (.iconst 5, 1, 0), (.dup2, 1, 0), (.iaload, 1, 0), (.iconst 1, 1, 0), (.iadd, 1, 0), (.iastore, 1, 0), (.iload 5, 2, 0), (.ireturn, 1, 0)]
def r_882_0 : List (Instr × Nat × Nat) := [(.iload_n 0, 1, 0), (.iconst 0, 1, 0), (.iconst 5, 1, 0), (.invokestatic 73, 3, 1232), (.ifCond .eq 17, 3, 0), (.iload_n 1, 1, 0), (.iconst 0, 1, 0), (.bipush 9, 2, 0), (.invokestatic 73, 3, 1232), (.ifCond .eq 7, 3, 0), (.iconst 1, 1, 0), (.goto 4, 3, 0)]
def r_882_1 : List (Instr × Nat × Nat) := [(.iconst 0, 1, 0)]
def r_882_2 : List (Instr × Nat × Nat) := [(.ireturn, 1, 0)]
def r_891_0 : List (Instr × Nat × Nat) := [(.aload_n 0, 1, 0), (.getfield 7, 3, 1119), (.bipush 76, 2, 0), (.bipush 10, 2, 0), (.iload_n 1, 1, 0), (.imul, 1, 0), (.iadd, 1, 0), (.iload_n 2, 1, 0), (.iadd, 1, 0), (.iload_n 3, 1, 0), (.iastore, 1, 0), (.return_, 1, 0)]
def r_898_0 : List (Instr × Nat × Nat) := [(.aload_n 0, 1, 0), (.iload_n 1, 1, 0), (.invokevirtual 238, 3, 1394), (.ifCond .eq 13, 3, 0), (.iload_n 2, 1, 0), (.iconst 0, 1, 0), (.bipush 10, 2, 0), (.invokestatic 73, 3, 1232), (.ifCond .ne 5, 3, 0)]
def r_898_1 : List (Instr × Nat × Nat) := [(.iconst (-1), 1, 0), (.ireturn, 1, 0)]
def r_898_2 : List (Instr × Nat × Nat) := [(.iload_n 2, 1, 0), (.bipush 10, 2, 0), (.if_icmp .ge 12, 3, 0), (.aload_n 0, 1, 0), (.iload_n 1, 1, 0), (.iload_n 2, 1, 0), (.invokevirtual 235, 3, 1398), (.goto 8, 3, 0)]
def r_898_3 : List (Instr × Nat × Nat) := [(.aload_n 0, 1, 0), (.iload_n 1, 1, 0), (.invokevirtual 241, 3, 1402)]
def r_898_4 : List (Instr × Nat × Nat) := [(.ireturn, 1, 0)]
def r_905_0 : List (Instr × Nat × Nat) := [(.iload_n 1, 1, 0), (.iconst 0, 1, 0), (.aload_n 0, 1, 0), (.getfield 7, 3, 1119), (.iconst 5, 1, 0), (.iaload, 1, 0), (.iconst 1, 1, 0), (.isub, 1, 0), (.invokestatic 73, 3, 1232), (.ireturn, 1, 0)]
def r_914_0 : List (Instr × Nat × Nat) := [(.aload_n 0, 1, 0), (.getfield 7, 3, 1119), (.bipush 76, 2, 0), (.bipush 10, 2, 0), (.iload_n 1, 1, 0), (.imul, 1, 0), (.iadd, 1, 0), (.iload_n 2, 1, 0), (.iadd, 1, 0), (.iaload, 1, 0), (.ireturn, 1, 0)]
def r_921_0 : List (Instr × Nat × Nat) := [(.iconst 0, 1, 0), (.istore_n 2, 1, 0), (.iconst 0, 1, 0), (.istore_n 3, 1, 0)]
def r_921_1 : List (Instr × Nat × Nat) := [(.iload_n 3, 1, 0), (.iconst 5, 1, 0), (.if_icmp .ge 30, 3, 0), (.iload_n 2, 1, 0), (.aload_n 0, 1, 0), (.iload_n 1, 1, 0), (.iconst 5, 1, 0), (.iload_n 3, 1, 0), (.iadd, 1, 0), (.invokevirtual 235, 3, 1398), (.aload_n 0, 1, 0), (.getfield 7, 3, 1119), (.bipush 7, 2, 0), (.iload_n 3, 1, 0), (.iadd, 1, 0), (.iaload, 1, 0), (.imul, 1, 0), (.iadd, 1, 0), (.istore_n 2, 1, 0), (.iinc 3 1, 3, 0), (.goto (-29), 3, 0)]
def r_921_2 : List (Instr × Nat × Nat) := [(.iload_n 2, 1, 0), (.ireturn, 1, 0)]
def r_931_0 : List (Instr × Nat × Nat) := [(.aload_n 0, 1, 0), (.iload_n 1, 1, 0), (.invokevirtual 238, 3, 1394), (.ifCond .eq 11, 3, 0), (.iload_n 2, 1, 0), (.iload_n 3, 1, 0), (.invokestatic 227, 3, 1383), (.ifCond .ne 5, 3, 0)]
def r_931_1 : List (Instr × Nat × Nat) := [(.iconst (-1), 1, 0), (.ireturn, 1, 0)]
def r_931_2 : List (Instr × Nat × Nat) := [(.aload_n 0, 1, 0), (.iload_n 1, 1, 0), (.iconst 1, 1, 0), (.iload_n 3, 1, 0), (.invokevirtual 231, 3, 1386), (.aload_n 0, 1, 0), (.bipush 76, 2, 0), (.bipush 10, 2, 0), (.iload_n 1, 1, 0), (.imul, 1, 0), (.iadd, 1, 0), (.iload_n 2, 1, 0), (.invokevirtual 209, 3, 1334), (.ireturn, 1, 0)]
def r_938_0 : List (Instr × Nat × Nat) := [(.aload_n 0, 1, 0), (.iload_n 1, 1, 0), (.invokevirtual 238, 3, 1394), (.ifCond .eq 27, 3, 0), (.iload_n 2, 1, 0), (.invokestatic 221, 3, 1368), (.ifCond .eq 20, 3, 0), (.aload_n 0, 1, 0), (.bipush 76, 2, 0), (.bipush 10, 2, 0), (.iload_n 1, 1, 0), (.imul, 1, 0), (.iadd, 1, 0), (.iconst 2, 1, 0), (.iadd, 1, 0), (.iload_n 2, 1, 0), (.invokevirtual 209, 3, 1334), (.goto 4, 3, 0)]
def r_938_1 : List (Instr × Nat × Nat) := [(.iconst (-1), 1, 0)]
def r_938_2 : List (Instr × Nat × Nat) := [(.ireturn, 1, 0)]
def r_946_0 : List (Instr × Nat × Nat) := [(.aload_n 0, 1, 0), (.iload_n 1, 1, 0), (.invokevirtual 238, 3, 1394), (.ifCond .eq 30, 3, 0), (.iload_n 2, 1, 0), (.iconst 0, 1, 0), (.bipush 9, 2, 0), (.invokestatic 73, 3, 1232), (.ifCond .eq 20, 3, 0), (.aload_n 0, 1, 0), (.bipush 76, 2, 0), (.bipush 10, 2, 0), (.iload_n 1, 1, 0), (.imul, 1, 0), (.iadd, 1, 0), (.iconst 3, 1, 0), (.iadd, 1, 0), (.iload_n 2, 1, 0), (.invokevirtual 209, 3, 1334), (.goto 4, 3, 0)]
def r_946_1 : List (Instr × Nat × Nat) := [(.iconst (-1), 1, 0)]
def r_946_2 : List (Instr × Nat × Nat) := [(.ireturn, 1, 0)]
def r_953_0 : List (Instr × Nat × Nat) := [(.aload_n 0, 1, 0), (.iload_n 1, 1, 0), (.invokevirtual 238, 3, 1394), (.ifCond .eq 20, 3, 0), (.aload_n 0, 1, 0), (.bipush 76, 2, 0), (.bipush 10, 2, 0), (.iload_n 1, 1, 0), (.imul, 1, 0), (.iadd, 1, 0), (.iconst 4, 1, 0), (.iadd, 1, 0), (.iconst 0, 1, 0), (.invokevirtual 209, 3, 1334), (.goto 4, 3, 0)]
def r_953_1 : List (Instr × Nat × Nat) := [(.iconst (-1), 1, 0)]
def r_953_2 : List (Instr × Nat × Nat) := [(.ireturn, 1, 0)]
def r_962_0 : List (Instr × Nat × Nat) := [(.aload_n 0, 1, 0), (.iload_n 1, 1, 0), (.invokevirtual 238, 3, 1394), (.ifCond .eq 19, 3, 0), (.iload_n 2, 1, 0), (.invokestatic 212, 3, 1346), (.ifCond .eq 12, 3, 0), (.aload_n 0, 1, 0), (.iload_n 1, 1, 0), (.iload_n 2, 1, 0), (.invokevirtual 244, 3, 1426), (.goto 4, 3, 0)]
def r_962_1 : List (Instr × Nat × Nat) := [(.iconst (-1), 1, 0)]
def r_962_2 : List (Instr × Nat × Nat) := [(.ireturn, 1, 0)]
def r_970_0 : List (Instr × Nat × Nat) := [(.aload_n 0, 1, 0), (.aload_n 0, 1, 0), (.iload_n 1, 1, 0), (.iconst 2, 1, 0), (.invokevirtual 235, 3, 1398), (.iload_n 2, 1, 0), (.invokevirtual 218, 3, 1360), (.istore_n 3, 1, 0), (.aload_n 0, 1, 0), (.iload_n 1, 1, 0), (.iconst 1, 1, 0), (.invokevirtual 235, 3, 1398), (.istore 4, 2, 0), (.iload_n 3, 1, 0), (.iconst 4, 1, 0), (.idiv, 1, 0), (.istore 5, 2, 0), (.aload_n 0, 1, 0), (.iload_n 1, 1, 0), (.iconst 0, 1, 0), (.invokevirtual 235, 3, 1398), (.tableswitch 101 1 5 #[33, 42, 52, 70, 82], 33, 0)]
def r_970_1 : List (Instr × Nat × Nat) := [(.iconst 2, 1, 0), (.iload 5, 2, 0), (.imul, 1, 0), (.istore 5, 2, 0), (.goto 62, 3, 0)]
def r_970_2 : List (Instr × Nat × Nat) := [(.iload 5, 2, 0), (.iload 4, 2, 0), (.iadd, 1, 0), (.istore 5, 2, 0), (.goto 52, 3, 0)]
def r_970_3 : List (Instr × Nat × Nat) := [(.iload_n 2, 1, 0), (.iconst 2, 1, 0), (.if_icmp .ne 7, 3, 0), (.iconst 0, 1, 0), (.goto 7, 3, 0)]
def r_970_4 : List (Instr × Nat × Nat) := [(.iconst 2, 1, 0), (.iload 5, 2, 0), (.imul, 1, 0)]
def r_970_5 : List (Instr × Nat × Nat) := [(.istore 5, 2, 0), (.goto 34, 3, 0)]
def r_970_6 : List (Instr × Nat × Nat) := [(.iconst 2, 1, 0), (.iload 5, 2, 0), (.iload 4, 2, 0), (.iadd, 1, 0), (.imul, 1, 0), (.istore 5, 2, 0), (.goto 22, 3, 0)]
def r_970_7 : List (Instr × Nat × Nat) := [(.iload_n 2, 1, 0), (.iload 4, 2, 0), (.iconst 5, 1, 0), (.irem, 1, 0), (.if_icmp .ne 7, 3, 0), (.iload_n 3, 1, 0), (.goto 5, 3, 0)]
def r_970_8 : List (Instr × Nat × Nat) := [(.iload 5, 2, 0)]
def r_970_9 : List (Instr × Nat × Nat) := [(.istore 5, 2, 0), (.goto 3, 3, 0)]
def r_970_10 : List (Instr × Nat × Nat) := [(.iload 5, 2, 0), (.iload_n 3, 1, 0), (.if_icmp .ge 8, 3, 0), (.iload 5, 2, 0), (.goto 4, 3, 0)]
def r_970_11 : List (Instr × Nat × Nat) := [(.iload_n 3, 1, 0)]
def r_970_12 : List (Instr × Nat × Nat) := [(.ireturn, 1, 0)]
def r_977_0 : List (Instr × Nat × Nat) := [(.aload_n 0, 1, 0), (.iload_n 1, 1, 0), (.invokevirtual 238, 3, 1394), (.ifCond .eq 11, 3, 0), (.aload_n 0, 1, 0), (.iload_n 1, 1, 0), (.invokevirtual 247, 3, 1434), (.goto 4, 3, 0)]
def r_977_1 : List (Instr × Nat × Nat) := [(.iconst (-1), 1, 0)]
def r_977_2 : List (Instr × Nat × Nat) := [(.ireturn, 1, 0)]
def r_985_0 : List (Instr × Nat × Nat) := [(.aload_n 0, 1, 0), (.iload_n 1, 1, 0), (.iconst 0, 1, 0), (.invokevirtual 235, 3, 1398), (.tableswitch 63 1 5 #[34, 36, 38, 54, 34], 34, 0)]
def r_985_1 : List (Instr × Nat × Nat) := [(.iconst 0, 1, 0), (.ireturn, 1, 0)]
def r_985_2 : List (Instr × Nat × Nat) := [(.iconst 2, 1, 0), (.ireturn, 1, 0)]
def r_985_3 : List (Instr × Nat × Nat) := [(.aload_n 0, 1, 0), (.iload_n 1, 1, 0), (.iconst 3, 1, 0), (.invokevirtual 235, 3, 1398), (.iconst 3, 1, 0), (.if_icmp .ge 7, 3, 0), (.iconst 1, 1, 0), (.goto 4, 3, 0)]
def r_985_4 : List (Instr × Nat × Nat) := [(.iconst 0, 1, 0)]
def r_985_5 : List (Instr × Nat × Nat) := [(.ireturn, 1, 0)]
def r_985_6 : List (Instr × Nat × Nat) := [(.iconst 2, 1, 0), (.aload_n 0, 1, 0), (.iload_n 1, 1, 0), (.iconst 1, 1, 0), (.invokevirtual 235, 3, 1398), (.iadd, 1, 0), (.ireturn, 1, 0)]
def r_985_7 : List (Instr × Nat × Nat) := [(.iconst 1, 1, 0), (.ireturn, 1, 0)]
def r_993_0 : List (Instr × Nat × Nat) := [(.aload_n 0, 1, 0), (.iload_n 1, 1, 0), (.invokevirtual 238, 3, 1394), (.ifCond .ne 5, 3, 0), (.iconst (-1), 1, 0), (.ireturn, 1, 0)]
def r_993_1 : List (Instr × Nat × Nat) := [(.aload_n 0, 1, 0), (.iload_n 1, 1, 0), (.invokevirtual 256, 3, 1442), (.ifCond .ne 6, 3, 0), (.bipush (-4), 2, 0), (.ireturn, 1, 0)]
def r_993_2 : List (Instr × Nat × Nat) := [(.aload_n 0, 1, 0), (.iload_n 1, 1, 0), (.invokevirtual 266, 3, 1446), (.aload_n 0, 1, 0), (.getfield 250, 3, 1133), (.ireturn, 1, 0)]
def r_1001_0 : List (Instr × Nat × Nat) := [(.bipush 68, 2, 0), (.aload_n 0, 1, 0), (.iload_n 1, 1, 0), (.iconst 2, 1, 0), (.invokevirtual 235, 3, 1398), (.iconst 2, 1, 0), (.idiv, 1, 0), (.iconst 2, 1, 0), (.imul, 1, 0), (.iadd, 1, 0), (.istore_n 2, 1, 0), (.aload_n 0, 1, 0), (.iload_n 1, 1, 0), (.iconst 4, 1, 0), (.invokevirtual 235, 3, 1398), (.bipush 9, 2, 0), (.if_icmp .ge 24, 3, 0), (.aload_n 0, 1, 0), (.getfield 7, 3, 1119), (.iload_n 2, 1, 0), (.iconst 1, 1, 0), (.iadd, 1, 0), (.iaload, 1, 0), (.aload_n 0, 1, 0), (.getfield 7, 3, 1119), (.iload_n 2, 1, 0), (.iaload, 1, 0), (.if_icmp .ge 7, 3, 0), (.iconst 1, 1, 0), (.goto 4, 3, 0)]
def r_1001_1 : List (Instr × Nat × Nat) := [(.iconst 0, 1, 0)]
def r_1001_2 : List (Instr × Nat × Nat) := [(.ireturn, 1, 0)]
def r_1009_0 : List (Instr × Nat × Nat) := [(.aload_n 0, 1, 0), (.iconst 0, 1, 0), (.putfield 250, 3, 1133), (.aload_n 0, 1, 0), (.iconst 0, 1, 0), (.putfield 253, 3, 1134), (.aload_n 0, 1, 0), (.iload_n 1, 1, 0), (.invokevirtual 256, 3, 1442), (.ifCond .ne 4, 3, 0), (.return_, 1, 0)]
def r_1009_1 : List (Instr × Nat × Nat) := [(.aload_n 0, 1, 0), (.iload_n 1, 1, 0), (.iconst 2, 1, 0), (.invokevirtual 235, 3, 1398), (.istore_n 2, 1, 0), (.iconst 0, 1, 0), (.istore_n 3, 1, 0)]
def r_1009_2 : List (Instr × Nat × Nat) := [(.iload_n 3, 1, 0), (.iconst 5, 1, 0), (.if_icmp .ge 136, 3, 0), (.aload_n 0, 1, 0), (.getfield 22, 3, 1123), (.iload_n 3, 1, 0), (.iaload, 1, 0), (.aload_n 0, 1, 0), (.iload_n 1, 1, 0), (.iconst 3, 1, 0), (.invokevirtual 235, 3, 1398), (.if_icmp .lt 12, 3, 0), (.aload_n 0, 1, 0), (.iload_n 1, 1, 0), (.iload_n 3, 1, 0), (.invokevirtual 244, 3, 1426), (.goto 4, 3, 0)]
def r_1009_3 : List (Instr × Nat × Nat) := [(.iconst 0, 1, 0)]
def r_1009_4 : List (Instr × Nat × Nat) := [(.istore 4, 2, 0), (.aload_n 0, 1, 0), (.iload_n 2, 1, 0), (.iload_n 3, 1, 0), (.aload_n 0, 1, 0), (.iload_n 2, 1, 0), (.iload_n 3, 1, 0), (.invokevirtual 218, 3, 1360), (.iload 4, 2, 0), (.isub, 1, 0), (.invokevirtual 259, 3, 1450), (.aload_n 0, 1, 0), (.iload_n 1, 1, 0), (.iconst 5, 1, 0), (.iload_n 3, 1, 0), (.iadd, 1, 0), (.aload_n 0, 1, 0), (.iload_n 1, 1, 0), (.iconst 5, 1, 0), (.iload_n 3, 1, 0), (.iadd, 1, 0), (.invokevirtual 235, 3, 1398), (.iload 4, 2, 0), (.iadd, 1, 0), (.invokevirtual 231, 3, 1386), (.aload_n 0, 1, 0), (.dup, 1, 0), (.getfield 250, 3, 1133), (.iload 4, 2, 0), (.iadd, 1, 0), (.putfield 250, 3, 1133), (.aload_n 0, 1, 0), (.dup, 1, 0), (.getfield 253, 3, 1134), (.iload 4, 2, 0), (.aload_n 0, 1, 0), (.getfield 7, 3, 1119), (.bipush 7, 2, 0), (.iload_n 3, 1, 0), (.iadd, 1, 0), (.iaload, 1, 0), (.imul, 1, 0), (.iadd, 1, 0), (.putfield 253, 3, 1134), (.iload_n 3, 1, 0), (.iconst 4, 1, 0), (.if_icmp .ne 32, 3, 0), (.iload 4, 2, 0), (.ifCond .le 27, 3, 0), (.aload_n 0, 1, 0), (.iload_n 1, 1, 0), (.iconst 4, 1, 0), (.aload_n 0, 1, 0), (.iload_n 1, 1, 0), (.iconst 4, 1, 0), (.invokevirtual 235, 3, 1398), (.aload_n 0, 1, 0), (.iload_n 1, 1, 0), (.invokevirtual 247, 3, 1434), (.iadd, 1, 0), (.iconst 0, 1, 0), (.bipush 9, 2, 0), (.invokestatic 262, 3, 1454), (.invokevirtual 231, 3, 1386)]
def r_1009_5 : List (Instr × Nat × Nat) := [(.iinc 3 1, 3, 0), (.goto (-135), 3, 0)]
def r_1009_6 : List (Instr × Nat × Nat) := [(.aload_n 0, 1, 0), (.iload_n 2, 1, 0), (.bipush 6, 2, 0), (.aload_n 0, 1, 0), (.iload_n 2, 1, 0), (.bipush 6, 2, 0), (.invokevirtual 218, 3, 1360), (.aload_n 0, 1, 0), (.getfield 250, 3, 1133), (.iadd, 1, 0), (.invokevirtual 259, 3, 1450), (.aload_n 0, 1, 0), (.getfield 7, 3, 1119), (.bipush 68, 2, 0), (.iload_n 2, 1, 0), (.iconst 2, 1, 0), (.idiv, 1, 0), (.iconst 2, 1, 0), (.imul, 1, 0), (.iadd, 1, 0), (.iconst 1, 1, 0), (.iadd, 1, 0), (.dup2, 1, 0), (.iaload, 1, 0), (.aload_n 0, 1, 0), (.getfield 250, 3, 1133), (.iadd, 1, 0), (.iastore, 1, 0), (.return_, 1, 0)]
def r_1019_0 : List (Instr × Nat × Nat) := [(.aload_n 0, 1, 0), (.getfield 7, 3, 1119), (.bipush 12, 2, 0), (.bipush 7, 2, 0), (.iload_n 1, 1, 0), (.imul, 1, 0), (.iadd, 1, 0), (.iload_n 2, 1, 0), (.iadd, 1, 0), (.iload_n 3, 1, 0), (.iastore, 1, 0), (.return_, 1, 0)]
def r_1027_0 : List (Instr × Nat × Nat) := [(.iload_n 0, 1, 0), (.iload_n 1, 1, 0), (.if_icmp .ge 7, 3, 0), (.iload_n 1, 1, 0), (.goto 13, 3, 0)]
def r_1027_1 : List (Instr × Nat × Nat) := [(.iload_n 0, 1, 0), (.iload_n 2, 1, 0), (.if_icmp .le 7, 3, 0), (.iload_n 2, 1, 0), (.goto 4, 3, 0)]
def r_1027_2 : List (Instr × Nat × Nat) := [(.iload_n 0, 1, 0)]
def r_1027_3 : List (Instr × Nat × Nat) := [(.ireturn, 1, 0)]
def r_1034_0 : List (Instr × Nat × Nat) := [(.aload_n 0, 1, 0), (.iload_n 1, 1, 0), (.invokevirtual 238, 3, 1394), (.ifCond .eq 10, 3, 0), (.iload_n 2, 1, 0), (.invokestatic 212, 3, 1346), (.ifCond .ne 5, 3, 0)]
def r_1034_1 : List (Instr × Nat × Nat) := [(.iconst (-1), 1, 0), (.ireturn, 1, 0)]
def r_1034_2 : List (Instr × Nat × Nat) := [(.aload_n 0, 1, 0), (.iload_n 1, 1, 0), (.iconst 2, 1, 0), (.invokevirtual 235, 3, 1398), (.istore_n 3, 1, 0), (.aload_n 0, 1, 0), (.iload_n 1, 1, 0), (.iconst 5, 1, 0), (.iload_n 2, 1, 0), (.iadd, 1, 0), (.invokevirtual 235, 3, 1398), (.istore 4, 2, 0), (.aload_n 0, 1, 0), (.iload_n 3, 1, 0), (.iload_n 2, 1, 0), (.aload_n 0, 1, 0), (.iload_n 3, 1, 0), (.iload_n 2, 1, 0), (.invokevirtual 218, 3, 1360), (.iload 4, 2, 0), (.iadd, 1, 0), (.iconst 0, 1, 0), (.bipush 99, 2, 0), (.invokestatic 262, 3, 1454), (.invokevirtual 259, 3, 1450), (.aload_n 0, 1, 0), (.iload_n 1, 1, 0), (.iconst 5, 1, 0), (.iload_n 2, 1, 0), (.iadd, 1, 0), (.iconst 0, 1, 0), (.invokevirtual 231, 3, 1386), (.iload 4, 2, 0), (.ireturn, 1, 0)]
def r_1041_0 : List (Instr × Nat × Nat) := [(.aload_n 0, 1, 0), (.iload_n 1, 1, 0), (.invokevirtual 238, 3, 1394), (.ifCond .ne 5, 3, 0), (.iconst (-1), 1, 0), (.ireturn, 1, 0)]
def r_1041_1 : List (Instr × Nat × Nat) := [(.aload_n 0, 1, 0), (.iload_n 1, 1, 0), (.invokevirtual 241, 3, 1402), (.istore_n 2, 1, 0), (.aload_n 0, 1, 0), (.getfield 7, 3, 1119), (.iconst 4, 1, 0), (.dup2, 1, 0), (.iaload, 1, 0), (.iload_n 2, 1, 0), (.iadd, 1, 0), (.iastore, 1, 0), (.iconst 0, 1, 0), (.istore_n 3, 1, 0)]
def r_1041_2 : List (Instr × Nat × Nat) := [(.iload_n 3, 1, 0), (.iconst 5, 1, 0), (.if_icmp .ge 18, 3, 0), (.aload_n 0, 1, 0), (.iload_n 1, 1, 0), (.iconst 5, 1, 0), (.iload_n 3, 1, 0), (.iadd, 1, 0), (.iconst 0, 1, 0), (.invokevirtual 231, 3, 1386), (.iinc 3 1, 3, 0), (.goto (-17), 3, 0)]
def r_1041_3 : List (Instr × Nat × Nat) := [(.iload_n 2, 1, 0), (.ireturn, 1, 0)]
def r_1049_0 : List (Instr × Nat × Nat) := [(.iload_n 1, 1, 0), (.iconst 1, 1, 0), (.bipush 48, 2, 0), (.invokestatic 73, 3, 1232), (.ifCond .ne 5, 3, 0), (.iconst (-1), 1, 0), (.ireturn, 1, 0)]
def r_1049_1 : List (Instr × Nat × Nat) := [(.iconst 0, 1, 0), (.istore_n 2, 1, 0)]
def r_1049_2 : List (Instr × Nat × Nat) := [(.iload_n 2, 1, 0), (.iload_n 1, 1, 0), (.if_icmp .ge 13, 3, 0), (.aload_n 0, 1, 0), (.invokevirtual 269, 3, 1469), (.iinc 2 1, 3, 0), (.goto (-12), 3, 0)]
def r_1049_3 : List (Instr × Nat × Nat) := [(.aload_n 0, 1, 0), (.getfield 7, 3, 1119), (.iconst 3, 1, 0), (.iaload, 1, 0), (.ireturn, 1, 0)]
def r_1056_0 : List (Instr × Nat × Nat) := [(.iconst 0, 1, 0), (.istore_n 1, 1, 0)]
def r_1056_1 : List (Instr × Nat × Nat) := [(.iload_n 1, 1, 0), (.bipush 8, 2, 0), (.if_icmp .ge 93, 3, 0), (.iconst 0, 1, 0), (.istore_n 2, 1, 0)]
def r_1056_2 : List (Instr × Nat × Nat) := [(.iload_n 2, 1, 0), (.iconst 5, 1, 0), (.if_icmp .ge 61, 3, 0), (.aload_n 0, 1, 0), (.iload_n 1, 1, 0), (.iload_n 2, 1, 0), (.invokevirtual 218, 3, 1360), (.istore_n 3, 1, 0), (.aload_n 0, 1, 0), (.iload_n 1, 1, 0), (.iload_n 2, 1, 0), (.iload_n 3, 1, 0), (.iload_n 3, 1, 0), (.aload_n 0, 1, 0), (.getfield 7, 3, 1119), (.iconst 1, 1, 0), (.iaload, 1, 0), (.idiv, 1, 0), (.iadd, 1, 0), (.aload_n 0, 1, 0), (.getfield 7, 3, 1119), (.iconst 3, 1, 0), (.iaload, 1, 0), (.iconst 5, 1, 0), (.irem, 1, 0), (.iload_n 2, 1, 0), (.if_icmp .ne 12, 3, 0), (.aload_n 0, 1, 0), (.iload_n 1, 1, 0), (.iconst 5, 1, 0), (.invokevirtual 218, 3, 1360), (.goto 4, 3, 0)]
def r_1056_3 : List (Instr × Nat × Nat) := [(.iconst 0, 1, 0)]
def r_1056_4 : List (Instr × Nat × Nat) := [(.iadd, 1, 0), (.iconst 0, 1, 0), (.bipush 99, 2, 0), (.invokestatic 262, 3, 1454), (.invokevirtual 259, 3, 1450), (.iinc 2 1, 3, 0), (.goto (-60), 3, 0)]
def r_1056_5 : List (Instr × Nat × Nat) := [(.aload_n 0, 1, 0), (.getfield 28, 3, 1135), (.iload_n 1, 1, 0), (.aload_n 0, 1, 0), (.iload_n 1, 1, 0), (.iconst 0, 1, 0), (.invokevirtual 218, 3, 1360), (.aload_n 0, 1, 0), (.getfield 7, 3, 1119), (.iconst 2, 1, 0), (.iaload, 1, 0), (.idiv, 1, 0), (.iastore, 1, 0), (.iinc 1 1, 3, 0), (.goto (-93), 3, 0)]
def r_1056_6 : List (Instr × Nat × Nat) := [(.iconst 0, 1, 0), (.istore_n 1, 1, 0)]
def r_1056_7 : List (Instr × Nat × Nat) := [(.iload_n 1, 1, 0), (.bipush 8, 2, 0), (.if_icmp .ge 49, 3, 0), (.aload_n 0, 1, 0), (.iload_n 1, 1, 0), (.iconst 0, 1, 0), (.aload_n 0, 1, 0), (.iload_n 1, 1, 0), (.iconst 0, 1, 0), (.invokevirtual 218, 3, 1360), (.aload_n 0, 1, 0), (.getfield 28, 3, 1135), (.iload_n 1, 1, 0), (.iaload, 1, 0), (.isub, 1, 0), (.aload_n 0, 1, 0), (.getfield 28, 3, 1135), (.iload_n 1, 1, 0), (.bipush 8, 2, 0), (.iadd, 1, 0), (.iconst 1, 1, 0), (.isub, 1, 0), (.bipush 8, 2, 0), (.irem, 1, 0), (.iaload, 1, 0), (.iadd, 1, 0), (.iconst 0, 1, 0), (.bipush 99, 2, 0), (.invokestatic 262, 3, 1454), (.invokevirtual 259, 3, 1450), (.iinc 1 1, 3, 0), (.goto (-49), 3, 0)]
def r_1056_8 : List (Instr × Nat × Nat) := [(.aload_n 0, 1, 0), (.getfield 7, 3, 1119), (.iconst 3, 1, 0), (.dup2, 1, 0), (.iaload, 1, 0), (.iconst 1, 1, 0), (.iadd, 1, 0), (.iastore, 1, 0), (.return_, 1, 0)]
def r_1065_0 : List (Instr × Nat × Nat) := [(.aload_n 0, 1, 0), (.iload_n 1, 1, 0), (.invokevirtual 238, 3, 1394), (.ifCond .eq 11, 3, 0), (.aload_n 0, 1, 0), (.iload_n 1, 1, 0), (.invokevirtual 276, 3, 1477), (.goto 4, 3, 0)]
def r_1065_1 : List (Instr × Nat × Nat) := [(.iconst (-1), 1, 0)]
def r_1065_2 : List (Instr × Nat × Nat) := [(.ireturn, 1, 0)]
def r_1073_0 : List (Instr × Nat × Nat) := [(.aload_n 0, 1, 0), (.invokevirtual 273, 3, 1481), (.bipush 100, 2, 0), (.irem, 1, 0), (.aload_n 0, 1, 0), (.getfield 7, 3, 1119), (.iconst 0, 1, 0), (.iaload, 1, 0), (.if_icmp .ge 7, 3, 0), (.iconst 1, 1, 0), (.goto 4, 3, 0)]
def r_1073_1 : List (Instr × Nat × Nat) := [(.iconst 0, 1, 0)]
def r_1073_2 : List (Instr × Nat × Nat) := [(.istore_n 2, 1, 0), (.aload_n 0, 1, 0), (.iconst 0, 1, 0), (.putfield 250, 3, 1133), (.iload_n 2, 1, 0), (.ifCond .ne 8, 3, 0), (.aload_n 0, 1, 0), (.iload_n 1, 1, 0), (.invokevirtual 266, 3, 1446)]
def r_1073_3 : List (Instr × Nat × Nat) := [(.aload_n 0, 1, 0), (.getfield 250, 3, 1133), (.ireturn, 1, 0)]
def r_1080_0 : List (Instr × Nat × Nat) := [(.aload_n 0, 1, 0), (.getfield 7, 3, 1119), (.bipush 6, 2, 0), (.aload_n 0, 1, 0), (.getfield 7, 3, 1119), (.bipush 6, 2, 0), (.iaload, 1, 0), (.ldc_w 272, 3, 1485), (.imul, 1, 0), (.sipush 12345, 3, 0), (.iadd, 1, 0), (.iastore, 1, 0), (.aload_n 0, 1, 0), (.getfield 7, 3, 1119), (.bipush 6, 2, 0), (.iaload, 1, 0), (.bipush 16, 2, 0), (.iushr, 1, 0), (.ireturn, 1, 0)]
def r_1089_0 : List (Instr × Nat × Nat) := [(.aload_n 0, 1, 0), (.bipush 6, 2, 0), (.iload_n 1, 1, 0), (.invokevirtual 209, 3, 1334), (.ireturn, 1, 0)]
def r_1096_0 : List (Instr × Nat × Nat) := [(.aload_n 0, 1, 0), (.invokevirtual 279, 3, 1494), (.ireturn, 1, 0)]
def r_1104_0 : List (Instr × Nat × Nat) := [(.iconst 0, 1, 0), (.istore_n 1, 1, 0), (.iconst 0, 1, 0), (.istore_n 2, 1, 0)]
def r_1104_1 : List (Instr × Nat × Nat) := [(.iload_n 2, 1, 0), (.aload_n 0, 1, 0), (.getfield 7, 3, 1119), (.iconst 5, 1, 0), (.iaload, 1, 0), (.if_icmp .ge 30, 3, 0), (.aload_n 0, 1, 0), (.iload_n 2, 1, 0), (.iconst 2, 1, 0), (.aload_n 0, 1, 0), (.invokevirtual 273, 3, 1481), (.bipush 8, 2, 0), (.irem, 1, 0), (.invokevirtual 231, 3, 1386), (.iload_n 1, 1, 0), (.aload_n 0, 1, 0), (.iload_n 2, 1, 0), (.invokevirtual 276, 3, 1477), (.iadd, 1, 0), (.istore_n 1, 1, 0), (.iinc 2 1, 3, 0), (.goto (-34), 3, 0)]
def r_1104_2 : List (Instr × Nat × Nat) := [(.aload_n 0, 1, 0), (.invokevirtual 269, 3, 1469), (.iload_n 1, 1, 0), (.ireturn, 1, 0)]
def r_1114_0 : List (Instr × Nat × Nat) := [(.iload_n 1, 1, 0), (.iconst 1, 1, 0), (.bipush 30, 2, 0), (.invokestatic 73, 3, 1232), (.ifCond .eq 14, 3, 0), (.iload_n 2, 1, 0), (.iconst 0, 1, 0), (.sipush 999, 3, 0), (.invokestatic 73, 3, 1232), (.ifCond .ne 5, 3, 0)]
def r_1114_1 : List (Instr × Nat × Nat) := [(.iconst (-1), 1, 0), (.ireturn, 1, 0)]
def r_1114_2 : List (Instr × Nat × Nat) := [(.aload_n 0, 1, 0), (.getfield 7, 3, 1119), (.aload_n 0, 1, 0), (.getfield 19, 3, 1122), (.invokestatic 202, 3, 1327), (.iconst 0, 1, 0), (.istore_n 3, 1, 0), (.iconst 0, 1, 0), (.istore 4, 2, 0)]
def r_1114_3 : List (Instr × Nat × Nat) := [(.iload 4, 2, 0), (.iload_n 1, 1, 0), (.if_icmp .ge 54, 3, 0), (.aload_n 0, 1, 0), (.getfield 7, 3, 1119), (.bipush 6, 2, 0), (.iaload, 1, 0), (.istore 5, 2, 0), (.aload_n 0, 1, 0), (.getfield 19, 3, 1122), (.aload_n 0, 1, 0), (.getfield 7, 3, 1119), (.invokestatic 202, 3, 1327), (.aload_n 0, 1, 0), (.getfield 7, 3, 1119), (.bipush 6, 2, 0), (.iload 5, 2, 0), (.iastore, 1, 0), (.iload_n 3, 1, 0), (.aload_n 0, 1, 0), (.invokevirtual 279, 3, 1494), (.iload_n 2, 1, 0), (.if_icmp .lt 7, 3, 0), (.iconst 1, 1, 0), (.goto 4, 3, 0)]
def r_1114_4 : List (Instr × Nat × Nat) := [(.iconst 0, 1, 0)]
def r_1114_5 : List (Instr × Nat × Nat) := [(.iadd, 1, 0), (.istore_n 3, 1, 0), (.iinc 4 1, 3, 0), (.goto (-54), 3, 0)]
def r_1114_6 : List (Instr × Nat × Nat) := [(.aload_n 0, 1, 0), (.getfield 19, 3, 1122), (.aload_n 0, 1, 0), (.getfield 7, 3, 1119), (.invokestatic 202, 3, 1327), (.iload_n 3, 1, 0), (.ireturn, 1, 0)]
def r_1121_0 : List (Instr × Nat × Nat) := [(.iload_n 1, 1, 0), (.tableswitch 69 0 5 #[39, 46, 53, 53, 59, 64], 39, 0)]
def r_1121_1 : List (Instr × Nat × Nat) := [(.aload_n 0, 1, 0), (.getfield 7, 3, 1119), (.iconst 3, 1, 0), (.iaload, 1, 0), (.ireturn, 1, 0)]
def r_1121_2 : List (Instr × Nat × Nat) := [(.aload_n 0, 1, 0), (.getfield 7, 3, 1119), (.iconst 4, 1, 0), (.iaload, 1, 0), (.ireturn, 1, 0)]
def r_1121_3 : List (Instr × Nat × Nat) := [(.aload_n 0, 1, 0), (.iload_n 1, 1, 0), (.invokevirtual 282, 3, 1506), (.ireturn, 1, 0)]
def r_1121_4 : List (Instr × Nat × Nat) := [(.aload_n 0, 1, 0), (.invokevirtual 285, 3, 1510), (.ireturn, 1, 0)]
def r_1121_5 : List (Instr × Nat × Nat) := [(.aload_n 0, 1, 0), (.invokevirtual 288, 3, 1514), (.ireturn, 1, 0)]
def r_1121_6 : List (Instr × Nat × Nat) := [(.iconst (-1), 1, 0), (.ireturn, 1, 0)]
def r_1129_0 : List (Instr × Nat × Nat) := [(.iconst 0, 1, 0), (.istore_n 2, 1, 0), (.iconst 0, 1, 0), (.istore_n 3, 1, 0)]
def r_1129_1 : List (Instr × Nat × Nat) := [(.iload_n 3, 1, 0), (.bipush 8, 2, 0), (.if_icmp .ge 22, 3, 0), (.iload_n 1, 1, 0), (.iconst 2, 1, 0), (.if_icmp .ne 17, 3, 0), (.iload_n 2, 1, 0), (.aload_n 0, 1, 0), (.iload_n 3, 1, 0), (.invokevirtual 224, 3, 1371), (.iadd, 1, 0), (.istore_n 2, 1, 0), (.iinc 3 1, 3, 0), (.goto (-22), 3, 0)]
def r_1129_2 : List (Instr × Nat × Nat) := [(.iconst 0, 1, 0), (.istore_n 3, 1, 0)]
def r_1129_3 : List (Instr × Nat × Nat) := [(.iload_n 3, 1, 0), (.aload_n 0, 1, 0), (.getfield 7, 3, 1119), (.iconst 5, 1, 0), (.iaload, 1, 0), (.if_icmp .ge 41, 3, 0), (.iload_n 1, 1, 0), (.iconst 3, 1, 0), (.if_icmp .ne 36, 3, 0), (.iconst 0, 1, 0), (.istore 4, 2, 0)]
def r_1129_4 : List (Instr × Nat × Nat) := [(.iload 4, 2, 0), (.iconst 5, 1, 0), (.if_icmp .ge 21, 3, 0), (.iload_n 2, 1, 0), (.aload_n 0, 1, 0), (.iload_n 3, 1, 0), (.iconst 5, 1, 0), (.iload 4, 2, 0), (.iadd, 1, 0), (.invokevirtual 235, 3, 1398), (.iadd, 1, 0), (.istore_n 2, 1, 0), (.iinc 4 1, 3, 0), (.goto (-21), 3, 0)]
def r_1129_5 : List (Instr × Nat × Nat) := [(.iinc 3 1, 3, 0), (.goto (-45), 3, 0)]
def r_1129_6 : List (Instr × Nat × Nat) := [(.iload_n 2, 1, 0), (.ireturn, 1, 0)]
def r_1136_0 : List (Instr × Nat × Nat) := [(.iconst 0, 1, 0), (.istore_n 1, 1, 0), (.iconst 0, 1, 0), (.istore_n 2, 1, 0)]
def r_1136_1 : List (Instr × Nat × Nat) := [(.iload_n 2, 1, 0), (.bipush 8, 2, 0), (.if_icmp .ge 27, 3, 0), (.iload_n 1, 1, 0), (.aload_n 0, 1, 0), (.iload_n 2, 1, 0), (.invokevirtual 224, 3, 1371), (.ifCond .ne 9, 3, 0), (.iconst 1, 1, 0), (.iload_n 2, 1, 0), (.ishl, 1, 0), (.goto 4, 3, 0)]
def r_1136_2 : List (Instr × Nat × Nat) := [(.iconst 0, 1, 0)]
def r_1136_3 : List (Instr × Nat × Nat) := [(.ior, 1, 0), (.istore_n 1, 1, 0), (.iinc 2 1, 3, 0), (.goto (-27), 3, 0)]
def r_1136_4 : List (Instr × Nat × Nat) := [(.iload_n 1, 1, 0), (.ireturn, 1, 0)]
def r_1144_0 : List (Instr × Nat × Nat) := [(.iconst 0, 1, 0), (.istore_n 1, 1, 0), (.iconst 0, 1, 0), (.istore_n 2, 1, 0)]
def r_1144_1 : List (Instr × Nat × Nat) := [(.iload_n 2, 1, 0), (.aload_n 0, 1, 0), (.getfield 7, 3, 1119), (.iconst 5, 1, 0), (.iaload, 1, 0), (.if_icmp .ge 27, 3, 0), (.iload_n 1, 1, 0), (.aload_n 0, 1, 0), (.iload_n 2, 1, 0), (.invokevirtual 256, 3, 1442), (.ifCond .eq 9, 3, 0), (.iconst 1, 1, 0), (.iload_n 2, 1, 0), (.ishl, 1, 0), (.goto 4, 3, 0)]
def r_1144_2 : List (Instr × Nat × Nat) := [(.iconst 0, 1, 0)]
def r_1144_3 : List (Instr × Nat × Nat) := [(.ior, 1, 0), (.istore_n 1, 1, 0), (.iinc 2 1, 3, 0), (.goto (-31), 3, 0)]
def r_1144_4 : List (Instr × Nat × Nat) := [(.iload_n 1, 1, 0), (.ireturn, 1, 0)]
def r_1154_0 : List (Instr × Nat × Nat) := [(.aload_n 0, 1, 0), (.iload_n 1, 1, 0), (.invokevirtual 238, 3, 1394), (.ifCond .eq 12, 3, 0), (.iload_n 2, 1, 0), (.iconst 0, 1, 0), (.iconst 4, 1, 0), (.invokestatic 73, 3, 1232), (.ifCond .ne 5, 3, 0)]
def r_1154_1 : List (Instr × Nat × Nat) := [(.iconst (-1), 1, 0), (.ireturn, 1, 0)]
def r_1154_2 : List (Instr × Nat × Nat) := [(.aload_n 0, 1, 0), (.iload_n 1, 1, 0), (.iload_n 2, 1, 0), (.invokevirtual 300, 3, 1522), (.aload_n 0, 1, 0), (.getfield 291, 3, 1138), (.ireturn, 1, 0)]
def r_1162_0 : List (Instr × Nat × Nat) := [(.aload_n 0, 1, 0), (.getfield 7, 3, 1119), (.aload_n 0, 1, 0), (.getfield 19, 3, 1122), (.invokestatic 202, 3, 1327), (.aload_n 0, 1, 0), (.iconst (-1), 1, 0), (.putfield 291, 3, 1138), (.iconst 0, 1, 0), (.istore_n 3, 1, 0)]
def r_1162_1 : List (Instr × Nat × Nat) := [(.iload_n 3, 1, 0), (.iload_n 2, 1, 0), (.invokestatic 294, 3, 1526), (.if_icmp .ge 141, 3, 0), (.iconst 0, 1, 0), (.istore 4, 2, 0), (.iconst 0, 1, 0), (.istore 5, 2, 0)]
def r_1162_2 : List (Instr × Nat × Nat) := [(.iload 5, 2, 0), (.iload_n 2, 1, 0), (.if_icmp .ge 68, 3, 0), (.aload_n 0, 1, 0), (.iload_n 1, 1, 0), (.iconst 2, 1, 0), (.aload_n 0, 1, 0), (.iload_n 1, 1, 0), (.iconst 2, 1, 0), (.invokevirtual 235, 3, 1398), (.iload_n 3, 1, 0), (.iload_n 2, 1, 0), (.iconst 1, 1, 0), (.isub, 1, 0), (.iload 5, 2, 0), (.isub, 1, 0), (.invokestatic 294, 3, 1526), (.idiv, 1, 0), (.iconst 3, 1, 0), (.irem, 1, 0), (.invokestatic 297, 3, 1529), (.invokevirtual 231, 3, 1386), (.aload_n 0, 1, 0), (.getfield 34, 3, 1137), (.iload 5, 2, 0), (.aload_n 0, 1, 0), (.iload_n 1, 1, 0), (.iconst 2, 1, 0), (.invokevirtual 235, 3, 1398), (.iastore, 1, 0), (.aload_n 0, 1, 0), (.iload_n 1, 1, 0), (.invokevirtual 266, 3, 1446), (.iload 4, 2, 0), (.aload_n 0, 1, 0), (.getfield 253, 3, 1134), (.iadd, 1, 0), (.istore 4, 2, 0), (.aload_n 0, 1, 0), (.invokevirtual 269, 3, 1469), (.iinc 5 1, 3, 0), (.goto (-68), 3, 0)]
def r_1162_3 : List (Instr × Nat × Nat) := [(.aload_n 0, 1, 0), (.getfield 19, 3, 1122), (.aload_n 0, 1, 0), (.getfield 7, 3, 1119), (.invokestatic 202, 3, 1327), (.iload 4, 2, 0), (.aload_n 0, 1, 0), (.getfield 291, 3, 1138), (.if_icmp .le 38, 3, 0), (.aload_n 0, 1, 0), (.iload 4, 2, 0), (.putfield 291, 3, 1138), (.iconst 0, 1, 0), (.istore 5, 2, 0)]
def r_1162_4 : List (Instr × Nat × Nat) := [(.iload 5, 2, 0), (.iload_n 2, 1, 0), (.if_icmp .ge 23, 3, 0), (.aload_n 0, 1, 0), (.getfield 31, 3, 1136), (.iload 5, 2, 0), (.aload_n 0, 1, 0), (.getfield 34, 3, 1137), (.iload 5, 2, 0), (.iaload, 1, 0), (.iastore, 1, 0), (.iinc 5 1, 3, 0), (.goto (-23), 3, 0)]
def r_1162_5 : List (Instr × Nat × Nat) := [(.iinc 3 1, 3, 0), (.goto (-143), 3, 0)]
def r_1162_6 : List (Instr × Nat × Nat) := [(.return_, 1, 0)]
def r_1169_0 : List (Instr × Nat × Nat) := [(.iconst 1, 1, 0), (.istore_n 1, 1, 0), (.iconst 0, 1, 0), (.istore_n 2, 1, 0)]
def r_1169_1 : List (Instr × Nat × Nat) := [(.iload_n 2, 1, 0), (.iload_n 0, 1, 0), (.if_icmp .ge 13, 3, 0), (.iload_n 1, 1, 0), (.iconst 3, 1, 0), (.imul, 1, 0), (.istore_n 1, 1, 0), (.iinc 2 1, 3, 0), (.goto (-12), 3, 0)]
def r_1169_2 : List (Instr × Nat × Nat) := [(.iload_n 1, 1, 0), (.ireturn, 1, 0)]
def r_1178_0 : List (Instr × Nat × Nat) := [(.iload_n 0, 1, 0), (.ifCond .ne 15, 3, 0), (.iload_n 1, 1, 0), (.iconst 2, 1, 0), (.if_icmp .ge 7, 3, 0), (.iload_n 1, 1, 0), (.goto 5, 3, 0)]
def r_1178_1 : List (Instr × Nat × Nat) := [(.bipush 7, 2, 0)]
def r_1178_2 : List (Instr × Nat × Nat) := [(.ireturn, 1, 0)]
def r_1178_3 : List (Instr × Nat × Nat) := [(.iload_n 0, 1, 0), (.bipush 7, 2, 0), (.if_icmp .ne 15, 3, 0), (.iload_n 1, 1, 0), (.ifCond .ne 7, 3, 0), (.iconst 0, 1, 0), (.goto 6, 3, 0)]
def r_1178_4 : List (Instr × Nat × Nat) := [(.iconst 5, 1, 0), (.iload_n 1, 1, 0), (.iadd, 1, 0)]
def r_1178_5 : List (Instr × Nat × Nat) := [(.ireturn, 1, 0)]
def r_1178_6 : List (Instr × Nat × Nat) := [(.iload_n 0, 1, 0), (.iconst 1, 1, 0), (.isub, 1, 0), (.iload_n 1, 1, 0), (.iadd, 1, 0), (.ireturn, 1, 0)]
def r_1187_0 : List (Instr × Nat × Nat) := [(.aload_n 0, 1, 0), (.iload_n 1, 1, 0), (.invokevirtual 238, 3, 1394), (.ifCond .eq 21, 3, 0), (.iload_n 2, 1, 0), (.iconst 0, 1, 0), (.iconst 4, 1, 0), (.invokestatic 73, 3, 1232), (.ifCond .eq 12, 3, 0), (.iload_n 3, 1, 0), (.iconst 0, 1, 0), (.iconst 3, 1, 0), (.invokestatic 73, 3, 1232), (.ifCond .ne 5, 3, 0)]
def r_1187_1 : List (Instr × Nat × Nat) := [(.iconst (-1), 1, 0), (.ireturn, 1, 0)]
def r_1187_2 : List (Instr × Nat × Nat) := [(.aload_n 0, 1, 0), (.iload_n 1, 1, 0), (.iload_n 2, 1, 0), (.invokevirtual 300, 3, 1522), (.iload_n 3, 1, 0), (.iload_n 2, 1, 0), (.if_icmp .ge 12, 3, 0), (.aload_n 0, 1, 0), (.getfield 31, 3, 1136), (.iload_n 3, 1, 0), (.iaload, 1, 0), (.goto 5, 3, 0)]
def r_1187_3 : List (Instr × Nat × Nat) := [(.bipush (-3), 2, 0)]
def r_1187_4 : List (Instr × Nat × Nat) := [(.ireturn, 1, 0)]
def r_1195_0 : List (Instr × Nat × Nat) := [(.aload_n 0, 1, 0), (.iload_n 1, 1, 0), (.invokevirtual 238, 3, 1394), (.ifCond .eq 22, 3, 0), (.iload_n 2, 1, 0), (.iconst 1, 1, 0), (.bipush 9, 2, 0), (.invokestatic 73, 3, 1232), (.ifCond .eq 12, 3, 0), (.iload_n 3, 1, 0), (.iconst 0, 1, 0), (.iconst 1, 1, 0), (.invokestatic 73, 3, 1232), (.ifCond .ne 5, 3, 0)]
def r_1195_1 : List (Instr × Nat × Nat) := [(.iconst (-1), 1, 0), (.ireturn, 1, 0)]
def r_1195_2 : List (Instr × Nat × Nat) := [(.aload_n 0, 1, 0), (.getfield 7, 3, 1119), (.aload_n 0, 1, 0), (.getfield 19, 3, 1122), (.invokestatic 202, 3, 1327), (.iconst 0, 1, 0), (.istore 4, 2, 0), (.iconst (-1), 1, 0), (.istore 5, 2, 0), (.iconst 0, 1, 0), (.istore 6, 2, 0)]
def r_1195_3 : List (Instr × Nat × Nat) := [(.iload 6, 2, 0), (.bipush 9, 2, 0), (.if_icmp .gt 96, 3, 0), (.iconst 0, 1, 0), (.istore 7, 2, 0), (.aload_n 0, 1, 0), (.iload_n 1, 1, 0), (.iconst 3, 1, 0), (.iload 6, 2, 0), (.invokevirtual 231, 3, 1386), (.iconst 0, 1, 0), (.istore 8, 2, 0)]
def r_1195_4 : List (Instr × Nat × Nat) := [(.iload 8, 2, 0), (.iload_n 2, 1, 0), (.if_icmp .ge 27, 3, 0), (.aload_n 0, 1, 0), (.iload_n 1, 1, 0), (.invokevirtual 266, 3, 1446), (.iload 7, 2, 0), (.aload_n 0, 1, 0), (.getfield 253, 3, 1134), (.iadd, 1, 0), (.istore 7, 2, 0), (.aload_n 0, 1, 0), (.invokevirtual 269, 3, 1469), (.iinc 8 1, 3, 0), (.goto (-27), 3, 0)]
def r_1195_5 : List (Instr × Nat × Nat) := [(.aload_n 0, 1, 0), (.getfield 19, 3, 1122), (.aload_n 0, 1, 0), (.getfield 7, 3, 1119), (.invokestatic 202, 3, 1327), (.iload 7, 2, 0), (.iload 5, 2, 0), (.if_icmp .lt 8, 3, 0), (.iload 6, 2, 0), (.goto 5, 3, 0)]
def r_1195_6 : List (Instr × Nat × Nat) := [(.iload 4, 2, 0)]
def r_1195_7 : List (Instr × Nat × Nat) := [(.istore 4, 2, 0), (.iload 7, 2, 0), (.iload 5, 2, 0), (.if_icmp .lt 8, 3, 0), (.iload 7, 2, 0), (.goto 5, 3, 0)]
def r_1195_8 : List (Instr × Nat × Nat) := [(.iload 5, 2, 0)]
def r_1195_9 : List (Instr × Nat × Nat) := [(.istore 5, 2, 0), (.iinc 6 1, 3, 0), (.goto (-97), 3, 0)]
def r_1195_10 : List (Instr × Nat × Nat) := [(.iload_n 3, 1, 0), (.ifCond .ne 8, 3, 0), (.iload 4, 2, 0), (.goto 5, 3, 0)]
def r_1195_11 : List (Instr × Nat × Nat) := [(.iload 5, 2, 0)]
def r_1195_12 : List (Instr × Nat × Nat) := [(.ireturn, 1, 0)]
def r_1200_0 : List (Instr × Nat × Nat) := [(.aload_n 0, 1, 0), (.getfield 7, 3, 1119), (.aload_n 0, 1, 0), (.getfield 19, 3, 1122), (.invokestatic 202, 3, 1327), (.iconst 0, 1, 0), (.istore_n 1, 1, 0)]
def r_1200_1 : List (Instr × Nat × Nat) := [(.iload_n 1, 1, 0), (.bipush 48, 2, 0), (.if_icmp .gt 43, 3, 0), (.aload_n 0, 1, 0), (.invokevirtual 285, 3, 1510), (.ifCond .ne 36, 3, 0), (.iconst 0, 1, 0), (.istore_n 2, 1, 0)]
def r_1200_2 : List (Instr × Nat × Nat) := [(.iload_n 2, 1, 0), (.aload_n 0, 1, 0), (.getfield 7, 3, 1119), (.iconst 5, 1, 0), (.iaload, 1, 0), (.if_icmp .ge 14, 3, 0), (.aload_n 0, 1, 0), (.iload_n 2, 1, 0), (.invokevirtual 266, 3, 1446), (.iinc 2 1, 3, 0), (.goto (-18), 3, 0)]
def r_1200_3 : List (Instr × Nat × Nat) := [(.aload_n 0, 1, 0), (.invokevirtual 269, 3, 1469), (.iinc 1 1, 3, 0), (.goto (-43), 3, 0)]
def r_1200_4 : List (Instr × Nat × Nat) := [(.aload_n 0, 1, 0), (.getfield 19, 3, 1122), (.aload_n 0, 1, 0), (.getfield 7, 3, 1119), (.invokestatic 202, 3, 1327), (.iload_n 1, 1, 0), (.bipush 48, 2, 0), (.if_icmp .le 8, 3, 0), (.bipush (-3), 2, 0), (.goto 4, 3, 0)]
def r_1200_5 : List (Instr × Nat × Nat) := [(.iload_n 1, 1, 0)]
def r_1200_6 : List (Instr × Nat × Nat) := [(.ireturn, 1, 0)]
def r_1210_0 : List (Instr × Nat × Nat) := [(.iload_n 1, 1, 0), (.invokestatic 304, 3, 1548), (.ifCond .eq 12, 3, 0), (.iload_n 2, 1, 0), (.iconst 0, 1, 0), (.iconst 1, 1, 0), (.invokestatic 73, 3, 1232), (.ifCond .ne 5, 3, 0)]
def r_1210_1 : List (Instr × Nat × Nat) := [(.iconst (-1), 1, 0), (.ireturn, 1, 0)]
def r_1210_2 : List (Instr × Nat × Nat) := [(.aload_n 0, 1, 0), (.getfield 47, 3, 1143), (.iload_n 1, 1, 0), (.iaload, 1, 0), (.ifCond .ge 6, 3, 0), (.bipush (-11), 2, 0), (.ireturn, 1, 0)]
def r_1210_3 : List (Instr × Nat × Nat) := [(.iconst 0, 1, 0), (.istore_n 3, 1, 0)]
def r_1210_4 : List (Instr × Nat × Nat) := [(.iload_n 3, 1, 0), (.bipush 40, 2, 0), (.if_icmp .ge 16, 3, 0), (.aload_n 0, 1, 0), (.getfield 37, 3, 1139), (.iload_n 3, 1, 0), (.iconst 1, 1, 0), (.bastore, 1, 0), (.iinc 3 1, 3, 0), (.goto (-16), 3, 0)]
def r_1210_5 : List (Instr × Nat × Nat) := [(.aload_n 0, 1, 0), (.getfield 7, 3, 1119), (.aload_n 0, 1, 0), (.getfield 19, 3, 1122), (.invokestatic 202, 3, 1327), (.iconst 0, 1, 0), (.istore_n 3, 1, 0)]
def r_1210_6 : List (Instr × Nat × Nat) := [(.iload_n 3, 1, 0), (.aload_n 0, 1, 0), (.getfield 50, 3, 1144), (.iload_n 1, 1, 0), (.iaload, 1, 0), (.if_icmp .ge 79, 3, 0), (.iconst 0, 1, 0), (.istore 4, 2, 0)]
def r_1210_7 : List (Instr × Nat × Nat) := [(.iload 4, 2, 0), (.bipush 40, 2, 0), (.if_icmp .ge 59, 3, 0), (.aload_n 0, 1, 0), (.getfield 37, 3, 1139), (.iload 4, 2, 0), (.aload_n 0, 1, 0), (.getfield 37, 3, 1139), (.iload 4, 2, 0), (.baload, 1, 0), (.ifCond .eq 35, 3, 0), (.aload_n 0, 1, 0), (.getfield 53, 3, 1145), (.bipush 40, 2, 0), (.iload_n 1, 1, 0), (.imul, 1, 0), (.iload_n 3, 1, 0), (.iadd, 1, 0), (.laload, 1, 0), (.aload_n 0, 1, 0), (.iload 4, 2, 0), (.iconst 5, 1, 0), (.idiv, 1, 0), (.iload 4, 2, 0), (.iconst 5, 1, 0), (.irem, 1, 0), (.invokevirtual 218, 3, 1360), (.i2l, 1, 0), (.lcmp, 1, 0), (.ifCond .ne 7, 3, 0), (.iconst 1, 1, 0), (.goto 4, 3, 0)]
def r_1210_8 : List (Instr × Nat × Nat) := [(.iconst 0, 1, 0)]
def r_1210_9 : List (Instr × Nat × Nat) := [(.bastore, 1, 0), (.iinc 4 1, 3, 0), (.goto (-60), 3, 0)]
def r_1210_10 : List (Instr × Nat × Nat) := [(.aload_n 0, 1, 0), (.invokevirtual 269, 3, 1469), (.iinc 3 1, 3, 0), (.goto (-83), 3, 0)]
def r_1210_11 : List (Instr × Nat × Nat) := [(.aload_n 0, 1, 0), (.getfield 19, 3, 1122), (.aload_n 0, 1, 0), (.getfield 7, 3, 1119), (.invokestatic 202, 3, 1327), (.iconst 0, 1, 0), (.istore_n 3, 1, 0), (.bipush (-3), 2, 0), (.istore 4, 2, 0), (.bipush 39, 2, 0), (.istore 5, 2, 0)]
def r_1210_12 : List (Instr × Nat × Nat) := [(.iload 5, 2, 0), (.ifCond .lt 56, 3, 0), (.iload_n 3, 1, 0), (.aload_n 0, 1, 0), (.getfield 37, 3, 1139), (.iload 5, 2, 0), (.baload, 1, 0), (.ifCond .eq 7, 3, 0), (.iconst 1, 1, 0), (.goto 4, 3, 0)]
def r_1210_13 : List (Instr × Nat × Nat) := [(.iconst 0, 1, 0)]
def r_1210_14 : List (Instr × Nat × Nat) := [(.iadd, 1, 0), (.istore_n 3, 1, 0), (.aload_n 0, 1, 0), (.getfield 37, 3, 1139), (.iload 5, 2, 0), (.baload, 1, 0), (.ifCond .eq 18, 3, 0), (.bipush 10, 2, 0), (.iload 5, 2, 0), (.iconst 5, 1, 0), (.idiv, 1, 0), (.imul, 1, 0), (.iload 5, 2, 0), (.iconst 5, 1, 0), (.irem, 1, 0), (.iadd, 1, 0), (.goto 5, 3, 0)]
def r_1210_15 : List (Instr × Nat × Nat) := [(.iload 4, 2, 0)]
def r_1210_16 : List (Instr × Nat × Nat) := [(.istore 4, 2, 0), (.iinc 5 (-1), 3, 0), (.goto (-55), 3, 0)]
def r_1210_17 : List (Instr × Nat × Nat) := [(.iload_n 2, 1, 0), (.ifCond .ne 7, 3, 0), (.iload_n 3, 1, 0), (.goto 5, 3, 0)]
def r_1210_18 : List (Instr × Nat × Nat) := [(.iload 4, 2, 0)]
def r_1210_19 : List (Instr × Nat × Nat) := [(.ireturn, 1, 0)]
def r_1217_0 : List (Instr × Nat × Nat) := [(.iload_n 0, 1, 0), (.iconst 0, 1, 0), (.iconst 3, 1, 0), (.invokestatic 73, 3, 1232), (.ireturn, 1, 0)]
def r_1226_0 : List (Instr × Nat × Nat) := [(.iload_n 1, 1, 0), (.invokestatic 212, 3, 1346), (.ifCond .eq 14, 3, 0), (.iload_n 2, 1, 0), (.iconst 0, 1, 0), (.sipush 999, 3, 0), (.invokestatic 73, 3, 1232), (.ifCond .ne 5, 3, 0)]
def r_1226_1 : List (Instr × Nat × Nat) := [(.iconst (-1), 1, 0), (.ireturn, 1, 0)]
def r_1226_2 : List (Instr × Nat × Nat) := [(.iconst (-1), 1, 0), (.istore_n 3, 1, 0), (.iconst 0, 1, 0), (.istore 4, 2, 0)]
def r_1226_3 : List (Instr × Nat × Nat) := [(.iload 4, 2, 0), (.iconst 1, 1, 0), (.aload_n 0, 1, 0), (.getfield 7, 3, 1119), (.iconst 5, 1, 0), (.iaload, 1, 0), (.ishl, 1, 0), (.if_icmp .ge 102, 3, 0), (.iconst 0, 1, 0), (.istore 5, 2, 0), (.iconst 0, 1, 0), (.istore 6, 2, 0)]
def r_1226_4 : List (Instr × Nat × Nat) := [(.iload 6, 2, 0), (.aload_n 0, 1, 0), (.getfield 7, 3, 1119), (.iconst 5, 1, 0), (.iaload, 1, 0), (.if_icmp .ge 38, 3, 0), (.iload 5, 2, 0), (.iload 4, 2, 0), (.iload 6, 2, 0), (.ishr, 1, 0), (.iconst 1, 1, 0), (.iand, 1, 0), (.iconst 1, 1, 0), (.if_icmp .ne 15, 3, 0), (.aload_n 0, 1, 0), (.iload 6, 2, 0), (.iconst 5, 1, 0), (.iload_n 1, 1, 0), (.iadd, 1, 0), (.invokevirtual 235, 3, 1398), (.goto 4, 3, 0)]
def r_1226_5 : List (Instr × Nat × Nat) := [(.iconst 0, 1, 0)]
def r_1226_6 : List (Instr × Nat × Nat) := [(.iadd, 1, 0), (.istore 5, 2, 0), (.iinc 6 1, 3, 0), (.goto (-43), 3, 0)]
def r_1226_7 : List (Instr × Nat × Nat) := [(.iload 5, 2, 0), (.iload_n 2, 1, 0), (.if_icmp .ne 23, 3, 0), (.iload_n 3, 1, 0), (.ifCond .lt 15, 3, 0), (.iload 4, 2, 0), (.invokestatic 307, 3, 1555), (.iload_n 3, 1, 0), (.invokestatic 307, 3, 1555), (.if_icmp .ge 7, 3, 0)]
def r_1226_8 : List (Instr × Nat × Nat) := [(.iconst 1, 1, 0), (.goto 4, 3, 0)]
def r_1226_9 : List (Instr × Nat × Nat) := [(.iconst 0, 1, 0)]
def r_1226_10 : List (Instr × Nat × Nat) := [(.istore 6, 2, 0), (.iload 6, 2, 0), (.ifCond .eq 8, 3, 0), (.iload 4, 2, 0), (.goto 4, 3, 0)]
def r_1226_11 : List (Instr × Nat × Nat) := [(.iload_n 3, 1, 0)]
def r_1226_12 : List (Instr × Nat × Nat) := [(.istore_n 3, 1, 0), (.iinc 4 1, 3, 0), (.goto (-109), 3, 0)]
def r_1226_13 : List (Instr × Nat × Nat) := [(.iload_n 3, 1, 0), (.ifCond .ge 8, 3, 0), (.bipush (-3), 2, 0), (.goto 4, 3, 0)]
def r_1226_14 : List (Instr × Nat × Nat) := [(.iload_n 3, 1, 0)]
def r_1226_15 : List (Instr × Nat × Nat) := [(.ireturn, 1, 0)]
def r_1233_0 : List (Instr × Nat × Nat) := [(.iconst 0, 1, 0), (.istore_n 1, 1, 0), (.iload_n 0, 1, 0), (.istore_n 2, 1, 0)]
def r_1233_1 : List (Instr × Nat × Nat) := [(.iload_n 2, 1, 0), (.ifCond .eq 15, 3, 0), (.iinc 1 1, 3, 0), (.iload_n 2, 1, 0), (.iload_n 2, 1, 0), (.iconst 1, 1, 0), (.isub, 1, 0), (.iand, 1, 0), (.istore_n 2, 1, 0), (.goto (-13), 3, 0)]
def r_1233_2 : List (Instr × Nat × Nat) := [(.iload_n 1, 1, 0), (.ireturn, 1, 0)]
def r_1240_0 : List (Instr × Nat × Nat) := [(.iconst 0, 1, 0), (.istore_n 1, 1, 0), (.iconst 1, 1, 0), (.istore_n 2, 1, 0)]
def r_1240_1 : List (Instr × Nat × Nat) := [(.iload_n 2, 1, 0), (.iconst 4, 1, 0), (.if_icmp .ge 81, 3, 0), (.aload_n 0, 1, 0), (.getfield 7, 3, 1119), (.bipush 68, 2, 0), (.iconst 2, 1, 0), (.iload_n 2, 1, 0), (.imul, 1, 0), (.iadd, 1, 0), (.iconst 1, 1, 0), (.iadd, 1, 0), (.iaload, 1, 0), (.i2l, 1, 0), (.aload_n 0, 1, 0), (.iload_n 1, 1, 0), (.iconst 2, 1, 0), (.invokevirtual 310, 3, 1562), (.iconst 1, 1, 0), (.bipush 18, 2, 0), (.invokestatic 262, 3, 1454), (.i2l, 1, 0), (.lmul, 1, 0), (.lstore_n 3, 1, 0), (.aload_n 0, 1, 0), (.getfield 7, 3, 1119), (.bipush 68, 2, 0), (.iconst 2, 1, 0), (.iload_n 1, 1, 0), (.imul, 1, 0), (.iadd, 1, 0), (.iconst 1, 1, 0), (.iadd, 1, 0), (.iaload, 1, 0), (.i2l, 1, 0), (.aload_n 0, 1, 0), (.iload_n 2, 1, 0), (.iconst 2, 1, 0), (.invokevirtual 310, 3, 1562), (.iconst 1, 1, 0), (.bipush 18, 2, 0), (.invokestatic 262, 3, 1454), (.i2l, 1, 0), (.lmul, 1, 0), (.lstore 5, 2, 0), (.lload_n 3, 1, 0), (.lload 5, 2, 0), (.lcmp, 1, 0), (.ifCond .le 7, 3, 0), (.iload_n 2, 1, 0), (.goto 4, 3, 0)]
def r_1240_2 : List (Instr × Nat × Nat) := [(.iload_n 1, 1, 0)]
def r_1240_3 : List (Instr × Nat × Nat) := [(.istore_n 1, 1, 0), (.iinc 2 1, 3, 0), (.goto (-80), 3, 0)]
def r_1240_4 : List (Instr × Nat × Nat) := [(.iload_n 1, 1, 0), (.ireturn, 1, 0)]
def r_1251_0 : List (Instr × Nat × Nat) := [(.iload_n 1, 1, 0), (.invokestatic 221, 3, 1368), (.ifCond .eq 20, 3, 0), (.iload_n 2, 1, 0), (.invokestatic 212, 3, 1346), (.ifCond .eq 13, 3, 0), (.iload_n 3, 1, 0), (.iconst 0, 1, 0), (.bipush 99, 2, 0), (.invokestatic 73, 3, 1232), (.ifCond .ne 5, 3, 0)]
def r_1251_1 : List (Instr × Nat × Nat) := [(.iconst (-1), 1, 0), (.ireturn, 1, 0)]
def r_1251_2 : List (Instr × Nat × Nat) := [(.aload_n 0, 1, 0), (.getfield 7, 3, 1119), (.aload_n 0, 1, 0), (.getfield 19, 3, 1122), (.invokestatic 202, 3, 1327), (.iconst 0, 1, 0), (.istore 4, 2, 0)]
def r_1251_3 : List (Instr × Nat × Nat) := [(.iload 4, 2, 0), (.bipush 48, 2, 0), (.if_icmp .gt 23, 3, 0), (.aload_n 0, 1, 0), (.iload_n 1, 1, 0), (.iload_n 2, 1, 0), (.invokevirtual 218, 3, 1360), (.iload_n 3, 1, 0), (.if_icmp .ge 13, 3, 0), (.aload_n 0, 1, 0), (.invokevirtual 269, 3, 1469), (.iinc 4 1, 3, 0), (.goto (-24), 3, 0)]
def r_1251_4 : List (Instr × Nat × Nat) := [(.aload_n 0, 1, 0), (.getfield 19, 3, 1122), (.aload_n 0, 1, 0), (.getfield 7, 3, 1119), (.invokestatic 202, 3, 1327), (.iload 4, 2, 0), (.bipush 48, 2, 0), (.if_icmp .le 8, 3, 0), (.bipush (-3), 2, 0), (.goto 5, 3, 0)]
def r_1251_5 : List (Instr × Nat × Nat) := [(.iload 4, 2, 0)]
def r_1251_6 : List (Instr × Nat × Nat) := [(.ireturn, 1, 0)]
def r_1258_0 : List (Instr × Nat × Nat) := [(.iload_n 1, 1, 0), (.iconst 0, 1, 0), (.bipush 8, 2, 0), (.invokestatic 73, 3, 1232), (.ifCond .eq 12, 3, 0), (.iload_n 2, 1, 0), (.iconst 0, 1, 0), (.iconst 1, 1, 0), (.invokestatic 73, 3, 1232), (.ifCond .ne 7, 3, 0)]
def r_1258_1 : List (Instr × Nat × Nat) := [(.ldc2_w 113, 3, 1256), (.lreturn, 1, 0)]
def r_1258_2 : List (Instr × Nat × Nat) := [(.bipush 100, 2, 0), (.iload_n 1, 1, 0), (.invokestatic 313, 3, 1571), (.lstore_n 3, 1, 0), (.lload_n 3, 1, 0), (.aload_n 0, 1, 0), (.getfield 7, 3, 1119), (.iconst 0, 1, 0), (.iaload, 1, 0), (.iload_n 1, 1, 0), (.invokestatic 313, 3, 1571), (.lsub, 1, 0), (.lload_n 3, 1, 0), (.iload_n 2, 1, 0), (.invokestatic 317, 3, 1574), (.lreturn, 1, 0)]
def r_1266_0 : List (Instr × Nat × Nat) := [(.lconst 1, 1, 0), (.lstore_n 2, 1, 0), (.iconst 0, 1, 0), (.istore 4, 2, 0)]
def r_1266_1 : List (Instr × Nat × Nat) := [(.iload 4, 2, 0), (.iload_n 1, 1, 0), (.if_icmp .ge 14, 3, 0), (.lload_n 2, 1, 0), (.iload_n 0, 1, 0), (.i2l, 1, 0), (.lmul, 1, 0), (.lstore_n 2, 1, 0), (.iinc 4 1, 3, 0), (.goto (-14), 3, 0)]
def r_1266_2 : List (Instr × Nat × Nat) := [(.lload_n 2, 1, 0), (.lreturn, 1, 0)]
def r_1275_0 : List (Instr × Nat × Nat) := [(.lload_n 2, 1, 0), (.lstore 5, 2, 0), (.lload_n 0, 1, 0), (.lstore 7, 2, 0)]
def r_1275_1 : List (Instr × Nat × Nat) := [(.lload 7, 2, 0), (.lconst 0, 1, 0), (.lcmp, 1, 0), (.ifCond .eq 21, 3, 0), (.lload 5, 2, 0), (.lload 7, 2, 0), (.lrem, 1, 0), (.lstore 9, 2, 0), (.lload 7, 2, 0), (.lstore 5, 2, 0), (.lload 9, 2, 0), (.lstore 7, 2, 0), (.goto (-22), 3, 0)]
def r_1275_2 : List (Instr × Nat × Nat) := [(.iload 4, 2, 0), (.ifCond .ne 10, 3, 0), (.lload_n 0, 1, 0), (.lload 5, 2, 0), (.ldiv, 1, 0), (.goto 7, 3, 0)]
def r_1275_3 : List (Instr × Nat × Nat) := [(.lload_n 2, 1, 0), (.lload 5, 2, 0), (.ldiv, 1, 0)]
def r_1275_4 : List (Instr × Nat × Nat) := [(.lreturn, 1, 0)]
def r_1283_0 : List (Instr × Nat × Nat) := [(.aload_n 0, 1, 0), (.iload_n 1, 1, 0), (.invokevirtual 238, 3, 1394), (.ifCond .eq 21, 3, 0), (.iload_n 2, 1, 0), (.iconst 0, 1, 0), (.iconst 5, 1, 0), (.invokestatic 73, 3, 1232), (.ifCond .eq 12, 3, 0), (.iload_n 3, 1, 0), (.iconst 0, 1, 0), (.iconst 1, 1, 0), (.invokestatic 73, 3, 1232), (.ifCond .ne 7, 3, 0)]
def r_1283_1 : List (Instr × Nat × Nat) := [(.ldc2_w 113, 3, 1256), (.lreturn, 1, 0)]
def r_1283_2 : List (Instr × Nat × Nat) := [(.aload_n 0, 1, 0), (.getfield 7, 3, 1119), (.aload_n 0, 1, 0), (.getfield 19, 3, 1122), (.invokestatic 202, 3, 1327), (.lconst 0, 1, 0), (.lstore 4, 2, 0), (.lconst 0, 1, 0), (.lstore 6, 2, 0), (.iconst 1, 1, 0), (.istore 8, 2, 0)]
def r_1283_3 : List (Instr × Nat × Nat) := [(.iload 8, 2, 0), (.iload_n 2, 1, 0), (.if_icmp .gt 39, 3, 0), (.aload_n 0, 1, 0), (.iload_n 1, 1, 0), (.invokevirtual 266, 3, 1446), (.lload 6, 2, 0), (.aload_n 0, 1, 0), (.getfield 253, 3, 1134), (.i2l, 1, 0), (.ladd, 1, 0), (.lstore 6, 2, 0), (.lload 4, 2, 0), (.lload 6, 2, 0), (.aload_n 0, 1, 0), (.iload_n 2, 1, 0), (.iload 8, 2, 0), (.invokevirtual 321, 3, 1581), (.lmul, 1, 0), (.ladd, 1, 0), (.lstore 4, 2, 0), (.iinc 8 1, 3, 0), (.goto (-39), 3, 0)]
def r_1283_4 : List (Instr × Nat × Nat) := [(.aload_n 0, 1, 0), (.getfield 19, 3, 1122), (.aload_n 0, 1, 0), (.getfield 7, 3, 1119), (.invokestatic 202, 3, 1327), (.lload 4, 2, 0), (.bipush 100, 2, 0), (.iload_n 2, 1, 0), (.invokestatic 313, 3, 1571), (.iload_n 3, 1, 0), (.invokestatic 317, 3, 1574), (.lreturn, 1, 0)]
def r_1290_0 : List (Instr × Nat × Nat) := [(.lconst 1, 1, 0), (.lstore_n 3, 1, 0), (.iconst 0, 1, 0), (.istore 5, 2, 0)]
def r_1290_1 : List (Instr × Nat × Nat) := [(.iload 5, 2, 0), (.iload_n 2, 1, 0), (.if_icmp .ge 23, 3, 0), (.lload_n 3, 1, 0), (.iload_n 1, 1, 0), (.iload 5, 2, 0), (.isub, 1, 0), (.i2l, 1, 0), (.lmul, 1, 0), (.iload 5, 2, 0), (.iconst 1, 1, 0), (.iadd, 1, 0), (.i2l, 1, 0), (.ldiv, 1, 0), (.lstore_n 3, 1, 0), (.iinc 5 1, 3, 0), (.goto (-23), 3, 0)]
def r_1290_2 : List (Instr × Nat × Nat) := [(.lload_n 3, 1, 0), (.bipush 100, 2, 0), (.aload_n 0, 1, 0), (.getfield 7, 3, 1119), (.iconst 0, 1, 0), (.iaload, 1, 0), (.isub, 1, 0), (.iload_n 2, 1, 0), (.invokestatic 313, 3, 1571), (.lmul, 1, 0), (.aload_n 0, 1, 0), (.getfield 7, 3, 1119), (.iconst 0, 1, 0), (.iaload, 1, 0), (.iload_n 1, 1, 0), (.iload_n 2, 1, 0), (.isub, 1, 0), (.invokestatic 313, 3, 1571), (.lmul, 1, 0), (.lreturn, 1, 0)]
def r_1298_0 : List (Instr × Nat × Nat) := [(.iload_n 1, 1, 0), (.invokestatic 221, 3, 1368), (.ifCond .eq 13, 3, 0), (.iload_n 2, 1, 0), (.iconst 1, 1, 0), (.bipush 10, 2, 0), (.invokestatic 73, 3, 1232), (.ifCond .ne 5, 3, 0)]
def r_1298_1 : List (Instr × Nat × Nat) := [(.iconst (-1), 1, 0), (.ireturn, 1, 0)]
def r_1298_2 : List (Instr × Nat × Nat) := [(.aload_n 0, 1, 0), (.iload_n 1, 1, 0), (.iload_n 2, 1, 0), (.invokevirtual 324, 3, 1589), (.aload_n 0, 1, 0), (.iload_n 2, 1, 0), (.putfield 206, 3, 1142), (.iconst 0, 1, 0), (.istore_n 3, 1, 0)]
def r_1298_3 : List (Instr × Nat × Nat) := [(.iload_n 3, 1, 0), (.iconst 3, 1, 0), (.iload_n 2, 1, 0), (.imul, 1, 0), (.if_icmp .ge 21, 3, 0), (.aload_n 0, 1, 0), (.getfield 41, 3, 1140), (.iload_n 3, 1, 0), (.aload_n 0, 1, 0), (.getfield 44, 3, 1141), (.iload_n 3, 1, 0), (.iaload, 1, 0), (.iastore, 1, 0), (.iinc 3 1, 3, 0), (.goto (-22), 3, 0)]
def r_1298_4 : List (Instr × Nat × Nat) := [(.iload_n 2, 1, 0), (.ireturn, 1, 0)]
def r_1306_0 : List (Instr × Nat × Nat) := [(.aload_n 0, 1, 0), (.getfield 7, 3, 1119), (.aload_n 0, 1, 0), (.getfield 19, 3, 1122), (.invokestatic 202, 3, 1327), (.iconst 0, 1, 0), (.istore_n 3, 1, 0)]
def r_1306_1 : List (Instr × Nat × Nat) := [(.iload_n 3, 1, 0), (.iload_n 2, 1, 0), (.if_icmp .ge 98, 3, 0), (.aload_n 0, 1, 0), (.invokevirtual 269, 3, 1469), (.iconst 0, 1, 0), (.istore 4, 2, 0), (.iconst 1, 1, 0), (.istore 5, 2, 0)]
def r_1306_2 : List (Instr × Nat × Nat) := [(.iload 5, 2, 0), (.iconst 5, 1, 0), (.if_icmp .ge 35, 3, 0), (.aload_n 0, 1, 0), (.iload_n 1, 1, 0), (.iload 5, 2, 0), (.invokevirtual 218, 3, 1360), (.aload_n 0, 1, 0), (.iload_n 1, 1, 0), (.iload 4, 2, 0), (.invokevirtual 218, 3, 1360), (.if_icmp .le 8, 3, 0), (.iload 5, 2, 0), (.goto 5, 3, 0)]
def r_1306_3 : List (Instr × Nat × Nat) := [(.iload 4, 2, 0)]
def r_1306_4 : List (Instr × Nat × Nat) := [(.istore 4, 2, 0), (.iinc 5 1, 3, 0), (.goto (-35), 3, 0)]
def r_1306_5 : List (Instr × Nat × Nat) := [(.aload_n 0, 1, 0), (.getfield 44, 3, 1141), (.iconst 3, 1, 0), (.iload_n 3, 1, 0), (.imul, 1, 0), (.aload_n 0, 1, 0), (.iload_n 1, 1, 0), (.invokevirtual 224, 3, 1371), (.iastore, 1, 0), (.aload_n 0, 1, 0), (.getfield 44, 3, 1141), (.iconst 3, 1, 0), (.iload_n 3, 1, 0), (.imul, 1, 0), (.iconst 1, 1, 0), (.iadd, 1, 0), (.aload_n 0, 1, 0), (.iload_n 1, 1, 0), (.iconst 0, 1, 0), (.invokevirtual 218, 3, 1360), (.iastore, 1, 0), (.aload_n 0, 1, 0), (.getfield 44, 3, 1141), (.iconst 3, 1, 0), (.iload_n 3, 1, 0), (.imul, 1, 0), (.iconst 2, 1, 0), (.iadd, 1, 0), (.iload 4, 2, 0), (.iastore, 1, 0), (.iinc 3 1, 3, 0), (.goto (-97), 3, 0)]
def r_1306_6 : List (Instr × Nat × Nat) := [(.aload_n 0, 1, 0), (.getfield 19, 3, 1122), (.aload_n 0, 1, 0), (.getfield 7, 3, 1119), (.invokestatic 202, 3, 1327), (.return_, 1, 0)]
def r_1314_0 : List (Instr × Nat × Nat) := [(.aload_n 0, 1, 0), (.iload_n 1, 1, 0), (.iload_n 2, 1, 0), (.invokevirtual 327, 3, 1597), (.ifCond .eq 16, 3, 0), (.aload_n 0, 1, 0), (.getfield 41, 3, 1140), (.iconst 3, 1, 0), (.iload_n 1, 1, 0), (.imul, 1, 0), (.iload_n 2, 1, 0), (.iadd, 1, 0), (.iaload, 1, 0), (.goto 5, 3, 0)]
def r_1314_1 : List (Instr × Nat × Nat) := [(.bipush (-9), 2, 0)]
def r_1314_2 : List (Instr × Nat × Nat) := [(.ireturn, 1, 0)]
def r_1322_0 : List (Instr × Nat × Nat) := [(.iload_n 1, 1, 0), (.iconst 0, 1, 0), (.aload_n 0, 1, 0), (.getfield 206, 3, 1142), (.iconst 1, 1, 0), (.isub, 1, 0), (.invokestatic 73, 3, 1232), (.ifCond .eq 16, 3, 0), (.iload_n 2, 1, 0), (.iconst 0, 1, 0), (.iconst 2, 1, 0), (.invokestatic 73, 3, 1232), (.ifCond .eq 7, 3, 0), (.iconst 1, 1, 0), (.goto 4, 3, 0)]
def r_1322_1 : List (Instr × Nat × Nat) := [(.iconst 0, 1, 0)]
def r_1322_2 : List (Instr × Nat × Nat) := [(.ireturn, 1, 0)]
def r_1331_0 : List (Instr × Nat × Nat) := [(.aload_n 0, 1, 0), (.iload_n 1, 1, 0), (.iload_n 2, 1, 0), (.invokevirtual 327, 3, 1597), (.ifCond .ne 6, 3, 0), (.bipush (-9), 2, 0), (.ireturn, 1, 0)]
def r_1331_1 : List (Instr × Nat × Nat) := [(.aload_n 0, 1, 0), (.getfield 41, 3, 1140), (.iconst 3, 1, 0), (.iload_n 1, 1, 0), (.imul, 1, 0), (.iload_n 2, 1, 0), (.iadd, 1, 0), (.iaload, 1, 0), (.istore 4, 2, 0), (.aload_n 0, 1, 0), (.getfield 41, 3, 1140), (.iconst 3, 1, 0), (.iload_n 1, 1, 0), (.imul, 1, 0), (.iload_n 2, 1, 0), (.iadd, 1, 0), (.iload_n 3, 1, 0), (.iastore, 1, 0), (.iload 4, 2, 0), (.ireturn, 1, 0)]
def r_1337_0 : List (Instr × Nat × Nat) := [(.iload_n 1, 1, 0), (.invokestatic 221, 3, 1368), (.ifCond .ne 5, 3, 0), (.iconst (-1), 1, 0), (.ireturn, 1, 0)]
def r_1337_1 : List (Instr × Nat × Nat) := [(.aload_n 0, 1, 0), (.iload_n 1, 1, 0), (.aload_n 0, 1, 0), (.getfield 206, 3, 1142), (.invokevirtual 324, 3, 1589), (.iconst 0, 1, 0), (.istore_n 2, 1, 0)]
def r_1337_2 : List (Instr × Nat × Nat) := [(.iload_n 2, 1, 0), (.iconst 3, 1, 0), (.aload_n 0, 1, 0), (.getfield 206, 3, 1142), (.imul, 1, 0), (.if_icmp .ge 30, 3, 0), (.aload_n 0, 1, 0), (.getfield 41, 3, 1140), (.iload_n 2, 1, 0), (.iaload, 1, 0), (.aload_n 0, 1, 0), (.getfield 44, 3, 1141), (.iload_n 2, 1, 0), (.iaload, 1, 0), (.if_icmp .eq 9, 3, 0), (.iload_n 2, 1, 0), (.iconst 3, 1, 0), (.idiv, 1, 0), (.iconst 1, 1, 0), (.iadd, 1, 0), (.ireturn, 1, 0)]
def r_1337_3 : List (Instr × Nat × Nat) := [(.iinc 2 1, 3, 0), (.goto (-34), 3, 0)]
def r_1337_4 : List (Instr × Nat × Nat) := [(.iconst 0, 1, 0), (.ireturn, 1, 0)]
def r_1348_0 : List (Instr × Nat × Nat) := [(.iload_n 1, 1, 0), (.invokestatic 304, 3, 1548), (.ifCond .eq 20, 3, 0), (.iload_n 3, 1, 0), (.invokestatic 221, 3, 1368), (.ifCond .eq 13, 3, 0), (.iload 4, 2, 0), (.iconst 0, 1, 0), (.iconst 5, 1, 0), (.invokestatic 73, 3, 1232), (.ifCond .ne 5, 3, 0)]
def r_1348_1 : List (Instr × Nat × Nat) := [(.iconst (-1), 1, 0), (.ireturn, 1, 0)]
def r_1348_2 : List (Instr × Nat × Nat) := [(.aload_n 0, 1, 0), (.iload_n 1, 1, 0), (.iconst 0, 1, 0), (.invokevirtual 330, 3, 1613), (.istore 5, 2, 0), (.iload 5, 2, 0), (.ifCond .eq 6, 3, 0), (.iload 5, 2, 0), (.ireturn, 1, 0)]
def r_1348_3 : List (Instr × Nat × Nat) := [(.iload_n 2, 1, 0), (.ifCond .lt 16, 3, 0), (.iload_n 2, 1, 0), (.aload_n 0, 1, 0), (.getfield 50, 3, 1144), (.iload_n 1, 1, 0), (.iaload, 1, 0), (.iload 4, 2, 0), (.isub, 1, 0), (.if_icmp .le 6, 3, 0)]
def r_1348_4 : List (Instr × Nat × Nat) := [(.bipush (-12), 2, 0), (.ireturn, 1, 0)]
def r_1348_5 : List (Instr × Nat × Nat) := [(.iconst 0, 1, 0), (.istore 6, 2, 0)]
def r_1348_6 : List (Instr × Nat × Nat) := [(.iload 6, 2, 0), (.iload 4, 2, 0), (.if_icmp .ge 37, 3, 0), (.aload_n 0, 1, 0), (.iload_n 3, 1, 0), (.iload 6, 2, 0), (.aload_n 0, 1, 0), (.getfield 53, 3, 1145), (.bipush 40, 2, 0), (.iload_n 1, 1, 0), (.imul, 1, 0), (.iload_n 2, 1, 0), (.iadd, 1, 0), (.iload 6, 2, 0), (.iadd, 1, 0), (.laload, 1, 0), (.l2i, 1, 0), (.iconst 0, 1, 0), (.bipush 99, 2, 0), (.invokestatic 262, 3, 1454), (.invokevirtual 259, 3, 1450), (.iinc 6 1, 3, 0), (.goto (-38), 3, 0)]
def r_1348_7 : List (Instr × Nat × Nat) := [(.iload 4, 2, 0), (.ireturn, 1, 0)]
def r_1354_0 : List (Instr × Nat × Nat) := [(.aload_n 0, 1, 0), (.getfield 47, 3, 1143), (.iload_n 1, 1, 0), (.iaload, 1, 0), (.ifCond .ge 8, 3, 0), (.bipush (-11), 2, 0), (.goto 19, 3, 0)]
def r_1354_1 : List (Instr × Nat × Nat) := [(.aload_n 0, 1, 0), (.getfield 47, 3, 1143), (.iload_n 1, 1, 0), (.iaload, 1, 0), (.iload_n 2, 1, 0), (.if_icmp .eq 8, 3, 0), (.bipush (-13), 2, 0), (.goto 4, 3, 0)]
def r_1354_2 : List (Instr × Nat × Nat) := [(.iconst 0, 1, 0)]
def r_1354_3 : List (Instr × Nat × Nat) := [(.ireturn, 1, 0)]
def r_1363_0 : List (Instr × Nat × Nat) := [(.iload_n 1, 1, 0), (.invokestatic 304, 3, 1548), (.ifCond .eq 22, 3, 0), (.iload_n 2, 1, 0), (.iconst (-1), 1, 0), (.iconst 3, 1, 0), (.invokestatic 73, 3, 1232), (.ifCond .eq 13, 3, 0), (.iload_n 2, 1, 0), (.ifCond .lt 11, 3, 0), (.iload_n 3, 1, 0), (.bipush 40, 2, 0), (.if_icmp .le 5, 3, 0)]
def r_1363_1 : List (Instr × Nat × Nat) := [(.iconst (-1), 1, 0), (.ireturn, 1, 0)]
def r_1363_2 : List (Instr × Nat × Nat) := [(.iload_n 2, 1, 0), (.ifCond .lt 10, 3, 0), (.iload_n 3, 1, 0), (.ifCond .ge 6, 3, 0), (.bipush (-14), 2, 0), (.ireturn, 1, 0)]
def r_1363_3 : List (Instr × Nat × Nat) := [(.aload_n 0, 1, 0), (.getfield 47, 3, 1143), (.iload_n 1, 1, 0), (.iload_n 2, 1, 0), (.iastore, 1, 0), (.aload_n 0, 1, 0), (.getfield 50, 3, 1144), (.iload_n 1, 1, 0), (.iload_n 2, 1, 0), (.ifCond .ge 7, 3, 0), (.iconst 0, 1, 0), (.goto 4, 3, 0)]
def r_1363_4 : List (Instr × Nat × Nat) := [(.iload_n 3, 1, 0)]
def r_1363_5 : List (Instr × Nat × Nat) := [(.iastore, 1, 0), (.iconst 0, 1, 0), (.istore 4, 2, 0)]
def r_1363_6 : List (Instr × Nat × Nat) := [(.iload 4, 2, 0), (.bipush 40, 2, 0), (.if_icmp .ge 22, 3, 0), (.aload_n 0, 1, 0), (.getfield 53, 3, 1145), (.bipush 40, 2, 0), (.iload_n 1, 1, 0), (.imul, 1, 0), (.iload 4, 2, 0), (.iadd, 1, 0), (.lconst 0, 1, 0), (.lastore, 1, 0), (.iinc 4 1, 3, 0), (.goto (-23), 3, 0)]
def r_1363_7 : List (Instr × Nat × Nat) := [(.iconst 1, 1, 0), (.ireturn, 1, 0)]
def r_1371_0 : List (Instr × Nat × Nat) := [(.iload_n 1, 1, 0), (.invokestatic 304, 3, 1548), (.ifCond .ne 5, 3, 0), (.iconst (-1), 1, 0), (.ireturn, 1, 0)]
def r_1371_1 : List (Instr × Nat × Nat) := [(.aload_n 0, 1, 0), (.getfield 47, 3, 1143), (.iload_n 1, 1, 0), (.iaload, 1, 0), (.ifCond .ge 6, 3, 0), (.bipush (-11), 2, 0), (.ireturn, 1, 0)]
def r_1371_2 : List (Instr × Nat × Nat) := [(.iload_n 2, 1, 0), (.iconst 0, 1, 0), (.aload_n 0, 1, 0), (.getfield 50, 3, 1144), (.iload_n 1, 1, 0), (.iaload, 1, 0), (.iconst 1, 1, 0), (.isub, 1, 0), (.invokestatic 73, 3, 1232), (.ifCond .ne 6, 3, 0), (.bipush (-12), 2, 0), (.ireturn, 1, 0)]
def r_1371_3 : List (Instr × Nat × Nat) := [(.aload_n 0, 1, 0), (.getfield 53, 3, 1145), (.bipush 40, 2, 0), (.iload_n 1, 1, 0), (.imul, 1, 0), (.iload_n 2, 1, 0), (.iadd, 1, 0), (.aload_n 0, 1, 0), (.getfield 47, 3, 1143), (.iload_n 1, 1, 0), (.iaload, 1, 0), (.ifCond .ne 9, 3, 0), (.iload_n 3, 1, 0), (.i2b, 1, 0), (.i2l, 1, 0), (.goto 21, 3, 0)]
def r_1371_4 : List (Instr × Nat × Nat) := [(.aload_n 0, 1, 0), (.getfield 47, 3, 1143), (.iload_n 1, 1, 0), (.iaload, 1, 0), (.iconst 1, 1, 0), (.if_icmp .ne 9, 3, 0), (.iload_n 3, 1, 0), (.i2s, 1, 0), (.i2l, 1, 0), (.goto 5, 3, 0)]
def r_1371_5 : List (Instr × Nat × Nat) := [(.iload_n 3, 1, 0), (.i2l, 1, 0)]
def r_1371_6 : List (Instr × Nat × Nat) := [(.lastore, 1, 0), (.iconst 1, 1, 0), (.ireturn, 1, 0)]
def r_1379_0 : List (Instr × Nat × Nat) := [(.iload_n 1, 1, 0), (.invokestatic 304, 3, 1548), (.ifCond .eq 12, 3, 0), (.iload_n 2, 1, 0), (.iconst 0, 1, 0), (.iconst 3, 1, 0), (.invokestatic 73, 3, 1232), (.ifCond .ne 5, 3, 0)]
def r_1379_1 : List (Instr × Nat × Nat) := [(.iconst (-1), 1, 0), (.ireturn, 1, 0)]
def r_1379_2 : List (Instr × Nat × Nat) := [(.aload_n 0, 1, 0), (.iload_n 1, 1, 0), (.iload_n 2, 1, 0), (.invokevirtual 330, 3, 1613), (.istore 4, 2, 0), (.iload 4, 2, 0), (.ifCond .eq 6, 3, 0), (.iload 4, 2, 0), (.ireturn, 1, 0)]
def r_1379_3 : List (Instr × Nat × Nat) := [(.iload_n 3, 1, 0), (.iconst 0, 1, 0), (.aload_n 0, 1, 0), (.getfield 50, 3, 1144), (.iload_n 1, 1, 0), (.iaload, 1, 0), (.iconst 1, 1, 0), (.isub, 1, 0), (.invokestatic 73, 3, 1232), (.ifCond .eq 18, 3, 0), (.aload_n 0, 1, 0), (.getfield 53, 3, 1145), (.bipush 40, 2, 0), (.iload_n 1, 1, 0), (.imul, 1, 0), (.iload_n 3, 1, 0), (.iadd, 1, 0), (.laload, 1, 0), (.l2i, 1, 0), (.goto 5, 3, 0)]
def r_1379_4 : List (Instr × Nat × Nat) := [(.bipush (-12), 2, 0)]
def r_1379_5 : List (Instr × Nat × Nat) := [(.ireturn, 1, 0)]
def r_1387_0 : List (Instr × Nat × Nat) := [(.iload_n 1, 1, 0), (.invokestatic 304, 3, 1548), (.ifCond .eq 12, 3, 0), (.aload_n 0, 1, 0), (.iload_n 2, 1, 0), (.iload_n 3, 1, 0), (.invokevirtual 333, 3, 1633), (.ifCond .ne 5, 3, 0)]
def r_1387_1 : List (Instr × Nat × Nat) := [(.iconst (-1), 1, 0), (.ireturn, 1, 0)]
def r_1387_2 : List (Instr × Nat × Nat) := [(.aload_n 0, 1, 0), (.getfield 57, 3, 1146), (.iload_n 1, 1, 0), (.iload_n 2, 1, 0), (.iconst 2, 1, 0), (.if_icmp .eq 17, 3, 0), (.iload_n 2, 1, 0), (.iconst 1, 1, 0), (.if_icmp .ne 16, 3, 0), (.aload_n 0, 1, 0), (.getfield 47, 3, 1143), (.iload_n 3, 1, 0), (.iaload, 1, 0), (.ifCond .ge 7, 3, 0)]
def r_1387_3 : List (Instr × Nat × Nat) := [(.iconst (-1), 1, 0), (.goto 4, 3, 0)]
def r_1387_4 : List (Instr × Nat × Nat) := [(.iload_n 2, 1, 0)]
def r_1387_5 : List (Instr × Nat × Nat) := [(.iastore, 1, 0), (.aload_n 0, 1, 0), (.getfield 60, 3, 1147), (.iload_n 1, 1, 0), (.iload_n 2, 1, 0), (.iconst 1, 1, 0), (.if_icmp .ne 12, 3, 0), (.aload_n 0, 1, 0), (.getfield 47, 3, 1143), (.iload_n 3, 1, 0), (.iaload, 1, 0), (.goto 4, 3, 0)]
def r_1387_6 : List (Instr × Nat × Nat) := [(.iload_n 3, 1, 0)]
def r_1387_7 : List (Instr × Nat × Nat) := [(.iastore, 1, 0), (.aload_n 0, 1, 0), (.getfield 63, 3, 1148), (.iload_n 1, 1, 0), (.iload_n 2, 1, 0), (.iconst 1, 1, 0), (.if_icmp .ne 12, 3, 0), (.aload_n 0, 1, 0), (.getfield 50, 3, 1144), (.iload_n 3, 1, 0), (.iaload, 1, 0), (.goto 4, 3, 0)]
def r_1387_8 : List (Instr × Nat × Nat) := [(.iconst 0, 1, 0)]
def r_1387_9 : List (Instr × Nat × Nat) := [(.iastore, 1, 0), (.iconst 1, 1, 0), (.ireturn, 1, 0)]
def r_1394_0 : List (Instr × Nat × Nat) := [(.iload_n 1, 1, 0), (.ifCond .ne 11, 3, 0), (.aload_n 0, 1, 0), (.iload_n 2, 1, 0), (.invokevirtual 238, 3, 1394), (.goto 25, 3, 0)]
def r_1394_1 : List (Instr × Nat × Nat) := [(.iload_n 1, 1, 0), (.iconst 1, 1, 0), (.if_icmp .ne 10, 3, 0), (.iload_n 2, 1, 0), (.invokestatic 304, 3, 1548), (.goto 13, 3, 0)]
def r_1394_2 : List (Instr × Nat × Nat) := [(.iload_n 1, 1, 0), (.iconst 2, 1, 0), (.if_icmp .ne 7, 3, 0), (.iconst 1, 1, 0), (.goto 4, 3, 0)]
def r_1394_3 : List (Instr × Nat × Nat) := [(.iconst 0, 1, 0)]
def r_1394_4 : List (Instr × Nat × Nat) := [(.ireturn, 1, 0)]
def r_1402_0 : List (Instr × Nat × Nat) := [(.iload_n 1, 1, 0), (.invokestatic 304, 3, 1548), (.ifCond .eq 23, 3, 0), (.iload_n 2, 1, 0), (.iconst 0, 1, 0), (.iconst 5, 1, 0), (.invokestatic 73, 3, 1232), (.ifCond .ne 16, 3, 0), (.iload_n 2, 1, 0), (.bipush 10, 2, 0), (.bipush 13, 2, 0), (.invokestatic 73, 3, 1232), (.ifCond .ne 5, 3, 0)]
def r_1402_1 : List (Instr × Nat × Nat) := [(.iconst (-1), 1, 0), (.ireturn, 1, 0)]
def r_1402_2 : List (Instr × Nat × Nat) := [(.aload_n 0, 1, 0), (.iload_n 1, 1, 0), (.invokevirtual 336, 3, 1641), (.istore_n 3, 1, 0), (.iload_n 3, 1, 0), (.ifCond .ge 6, 3, 0), (.bipush (-11), 2, 0), (.ireturn, 1, 0)]
def r_1402_3 : List (Instr × Nat × Nat) := [(.iload_n 3, 1, 0), (.bipush 9, 2, 0), (.if_icmp .ne 28, 3, 0), (.iload_n 2, 1, 0), (.bipush 10, 2, 0), (.aload_n 0, 1, 0), (.getfield 60, 3, 1147), (.iload_n 1, 1, 0), (.iaload, 1, 0), (.iadd, 1, 0), (.if_icmp .ne 12, 3, 0), (.aload_n 0, 1, 0), (.getfield 63, 3, 1148), (.iload_n 1, 1, 0), (.iaload, 1, 0), (.goto 5, 3, 0)]
def r_1402_4 : List (Instr × Nat × Nat) := [(.bipush (-13), 2, 0)]
def r_1402_5 : List (Instr × Nat × Nat) := [(.ireturn, 1, 0)]
def r_1402_6 : List (Instr × Nat × Nat) := [(.iload_n 2, 1, 0), (.bipush 10, 2, 0), (.if_icmp .ge 20, 3, 0), (.iload_n 3, 1, 0), (.iload_n 2, 1, 0), (.invokestatic 339, 3, 1645), (.ifCond .eq 12, 3, 0), (.aload_n 0, 1, 0), (.getfield 60, 3, 1147), (.iload_n 1, 1, 0), (.iaload, 1, 0), (.goto 5, 3, 0)]
def r_1402_7 : List (Instr × Nat × Nat) := [(.bipush (-13), 2, 0)]
def r_1402_8 : List (Instr × Nat × Nat) := [(.ireturn, 1, 0)]
def r_1409_0 : List (Instr × Nat × Nat) := [(.aload_n 0, 1, 0), (.getfield 57, 3, 1146), (.iload_n 1, 1, 0), (.iaload, 1, 0), (.ifCond .eq 19, 3, 0), (.aload_n 0, 1, 0), (.getfield 57, 3, 1146), (.iload_n 1, 1, 0), (.iaload, 1, 0), (.ifCond .ge 7, 3, 0), (.iconst (-1), 1, 0), (.goto 5, 3, 0)]
def r_1409_1 : List (Instr × Nat × Nat) := [(.bipush 9, 2, 0)]
def r_1409_2 : List (Instr × Nat × Nat) := [(.ireturn, 1, 0)]
def r_1409_3 : List (Instr × Nat × Nat) := [(.aload_n 0, 1, 0), (.aload_n 0, 1, 0), (.getfield 60, 3, 1147), (.iload_n 1, 1, 0), (.iaload, 1, 0), (.invokevirtual 238, 3, 1394), (.ifCond .eq 17, 3, 0), (.aload_n 0, 1, 0), (.aload_n 0, 1, 0), (.getfield 60, 3, 1147), (.iload_n 1, 1, 0), (.iaload, 1, 0), (.iconst 0, 1, 0), (.invokevirtual 235, 3, 1398), (.goto 4, 3, 0)]
def r_1409_4 : List (Instr × Nat × Nat) := [(.iconst (-1), 1, 0)]
def r_1409_5 : List (Instr × Nat × Nat) := [(.ireturn, 1, 0)]
def r_1418_0 : List (Instr × Nat × Nat) := [(.iload_n 1, 1, 0), (.ifCond .eq 28, 3, 0), (.iload_n 1, 1, 0), (.iload_n 0, 1, 0), (.if_icmp .eq 23, 3, 0), (.iload_n 1, 1, 0), (.iconst 1, 1, 0), (.if_icmp .ne 8, 3, 0), (.iload_n 0, 1, 0), (.iconst 3, 1, 0), (.if_icmp .eq 13, 3, 0)]
def r_1418_1 : List (Instr × Nat × Nat) := [(.iload_n 1, 1, 0), (.iconst 2, 1, 0), (.if_icmp .ne 12, 3, 0), (.iload_n 0, 1, 0), (.iconst 4, 1, 0), (.if_icmp .ne 7, 3, 0)]
def r_1418_2 : List (Instr × Nat × Nat) := [(.iconst 1, 1, 0), (.goto 4, 3, 0)]
def r_1418_3 : List (Instr × Nat × Nat) := [(.iconst 0, 1, 0)]
def r_1418_4 : List (Instr × Nat × Nat) := [(.ireturn, 1, 0)]
def r_1427_0 : List (Instr × Nat × Nat) := [(.aload_n 0, 1, 0), (.iconst 0, 1, 0), (.putfield 342, 3, 1153), (.iload_n 1, 1, 0), (.invokestatic 304, 3, 1548), (.ifCond .eq 11, 3, 0), (.aload_n 0, 1, 0), (.iload_n 1, 1, 0), (.invokevirtual 336, 3, 1641), (.goto 4, 3, 0)]
def r_1427_1 : List (Instr × Nat × Nat) := [(.iconst (-1), 1, 0)]
def r_1427_2 : List (Instr × Nat × Nat) := [(.istore 4, 2, 0), (.iload_n 2, 1, 0), (.iconst 0, 1, 0), (.iconst 3, 1, 0), (.invokestatic 73, 3, 1232), (.ifCond .eq 13, 3, 0), (.iload 4, 2, 0), (.iconst 0, 1, 0), (.iconst 5, 1, 0), (.invokestatic 73, 3, 1232), (.ifCond .ne 5, 3, 0)]
def r_1427_3 : List (Instr × Nat × Nat) := [(.iconst 0, 1, 0), (.ireturn, 1, 0)]
def r_1427_4 : List (Instr × Nat × Nat) := [(.aload_n 0, 1, 0), (.iload 4, 2, 0), (.putfield 357, 3, 1149), (.aload_n 0, 1, 0), (.aload_n 0, 1, 0), (.getfield 60, 3, 1147), (.iload_n 1, 1, 0), (.iaload, 1, 0), (.putfield 348, 3, 1150), (.aload_n 0, 1, 0), (.aload_n 0, 1, 0), (.aload_n 0, 1, 0), (.getfield 348, 3, 1150), (.iconst 1, 1, 0), (.invokevirtual 235, 3, 1398), (.putfield 354, 3, 1151), (.aload_n 0, 1, 0), (.iconst 0, 1, 0), (.putfield 369, 3, 1154), (.iload_n 2, 1, 0), (.ifCond .ne 11, 3, 0), (.aload_n 0, 1, 0), (.iload_n 3, 1, 0), (.invokevirtual 363, 3, 1652), (.goto 34, 3, 0)]
def r_1427_5 : List (Instr × Nat × Nat) := [(.iload_n 2, 1, 0), (.iconst 1, 1, 0), (.if_icmp .ne 11, 3, 0), (.aload_n 0, 1, 0), (.iload_n 3, 1, 0), (.invokevirtual 375, 3, 1668), (.goto 21, 3, 0)]
def r_1427_6 : List (Instr × Nat × Nat) := [(.iload_n 2, 1, 0), (.iconst 2, 1, 0), (.if_icmp .ne 11, 3, 0), (.aload_n 0, 1, 0), (.iload_n 3, 1, 0), (.invokevirtual 381, 3, 1676), (.goto 8, 3, 0)]
def r_1427_7 : List (Instr × Nat × Nat) := [(.aload_n 0, 1, 0), (.iload_n 3, 1, 0), (.invokevirtual 384, 3, 1684)]
def r_1427_8 : List (Instr × Nat × Nat) := [(.istore 5, 2, 0), (.aload_n 0, 1, 0), (.getfield 369, 3, 1154), (.ifCond .eq 8, 3, 0), (.bipush (-15), 2, 0), (.goto 5, 3, 0)]
def r_1427_9 : List (Instr × Nat × Nat) := [(.iload 5, 2, 0)]
def r_1427_10 : List (Instr × Nat × Nat) := [(.ireturn, 1, 0)]
def r_1433_0 : List (Instr × Nat × Nat) := [(.aload_n 0, 1, 0), (.getfield 357, 3, 1149), (.tableswitch 65 2 4 #[28, 48, 34], 28, 0)]
def r_1433_1 : List (Instr × Nat × Nat) := [(.aload_n 0, 1, 0), (.iload_n 1, 1, 0), (.invokevirtual 360, 3, 1656), (.ireturn, 1, 0)]
def r_1433_2 : List (Instr × Nat × Nat) := [(.aload_n 0, 1, 0), (.bipush 40, 2, 0), (.invokevirtual 345, 3, 1660), (.aload_n 0, 1, 0), (.iload_n 1, 1, 0), (.invokevirtual 360, 3, 1656), (.iconst 2, 1, 0), (.imul, 1, 0), (.ireturn, 1, 0)]
def r_1433_3 : List (Instr × Nat × Nat) := [(.aload_n 0, 1, 0), (.bipush 51, 2, 0), (.invokevirtual 345, 3, 1660), (.aload_n 0, 1, 0), (.iload_n 1, 1, 0), (.invokevirtual 351, 3, 1664), (.aload_n 0, 1, 0), (.getfield 348, 3, 1150), (.iadd, 1, 0), (.ireturn, 1, 0)]
def r_1433_4 : List (Instr × Nat × Nat) := [(.aload_n 0, 1, 0), (.iload_n 1, 1, 0), (.invokevirtual 351, 3, 1664), (.ireturn, 1, 0)]
def r_1441_0 : List (Instr × Nat × Nat) := [(.aload_n 0, 1, 0), (.bipush 30, 2, 0), (.invokevirtual 345, 3, 1660), (.aload_n 0, 1, 0), (.iload_n 1, 1, 0), (.invokevirtual 351, 3, 1664), (.aload_n 0, 1, 0), (.getfield 354, 3, 1151), (.ixor, 1, 0), (.ireturn, 1, 0)]
def r_1449_0 : List (Instr × Nat × Nat) := [(.aload_n 0, 1, 0), (.getfield 342, 3, 1153), (.bipush 30, 2, 0), (.if_icmp .ge 23, 3, 0), (.aload_n 0, 1, 0), (.getfield 66, 3, 1152), (.aload_n 0, 1, 0), (.getfield 342, 3, 1153), (.iload_n 1, 1, 0), (.iastore, 1, 0), (.aload_n 0, 1, 0), (.dup, 1, 0), (.getfield 342, 3, 1153), (.iconst 1, 1, 0), (.iadd, 1, 0), (.putfield 342, 3, 1153)]
def r_1449_1 : List (Instr × Nat × Nat) := [(.return_, 1, 0)]
def r_1457_0 : List (Instr × Nat × Nat) := [(.aload_n 0, 1, 0), (.bipush 10, 2, 0), (.invokevirtual 345, 3, 1660), (.iload_n 1, 1, 0), (.aload_n 0, 1, 0), (.getfield 348, 3, 1150), (.isub, 1, 0), (.ireturn, 1, 0)]
def r_1465_0 : List (Instr × Nat × Nat) := [(.aload_n 0, 1, 0), (.getfield 357, 3, 1149), (.iconst 1, 1, 0), (.if_icmp .eq 11, 3, 0), (.aload_n 0, 1, 0), (.getfield 357, 3, 1149), (.iconst 3, 1, 0), (.if_icmp .ne 20, 3, 0)]
def r_1465_1 : List (Instr × Nat × Nat) := [(.aload_n 0, 1, 0), (.bipush 20, 2, 0), (.invokevirtual 345, 3, 1660), (.aload_n 0, 1, 0), (.iload_n 1, 1, 0), (.invokevirtual 366, 3, 1672), (.aload_n 0, 1, 0), (.getfield 348, 3, 1150), (.isub, 1, 0), (.ireturn, 1, 0)]
def r_1465_2 : List (Instr × Nat × Nat) := [(.aload_n 0, 1, 0), (.getfield 357, 3, 1149), (.iconst 4, 1, 0), (.if_icmp .ne 26, 3, 0), (.aload_n 0, 1, 0), (.bipush 41, 2, 0), (.invokevirtual 345, 3, 1660), (.aload_n 0, 1, 0), (.iload_n 1, 1, 0), (.invokevirtual 366, 3, 1672), (.istore_n 2, 1, 0), (.iload_n 2, 1, 0), (.aload_n 0, 1, 0), (.aload_n 0, 1, 0), (.getfield 348, 3, 1150), (.invokevirtual 363, 3, 1652), (.isub, 1, 0), (.ireturn, 1, 0)]
def r_1465_3 : List (Instr × Nat × Nat) := [(.aload_n 0, 1, 0), (.iload_n 1, 1, 0), (.invokevirtual 366, 3, 1672), (.ireturn, 1, 0)]
def r_1473_0 : List (Instr × Nat × Nat) := [(.aload_n 0, 1, 0), (.bipush 11, 2, 0), (.invokevirtual 345, 3, 1660), (.aload_n 0, 1, 0), (.iload_n 1, 1, 0), (.invokevirtual 363, 3, 1652), (.iconst 3, 1, 0), (.imul, 1, 0), (.ireturn, 1, 0)]
def r_1481_0 : List (Instr × Nat × Nat) := [(.aload_n 0, 1, 0), (.getfield 357, 3, 1149), (.iconst 3, 1, 0), (.if_icmp .ne 19, 3, 0), (.aload_n 0, 1, 0), (.bipush 50, 2, 0), (.invokevirtual 345, 3, 1660), (.aload_n 0, 1, 0), (.iload_n 1, 1, 0), (.iconst 5, 1, 0), (.iadd, 1, 0), (.invokevirtual 372, 3, 1680), (.iconst 2, 1, 0), (.imul, 1, 0), (.ireturn, 1, 0)]
def r_1481_1 : List (Instr × Nat × Nat) := [(.aload_n 0, 1, 0), (.getfield 357, 3, 1149), (.iconst 5, 1, 0), (.if_icmp .ne 37, 3, 0), (.aload_n 0, 1, 0), (.bipush 61, 2, 0), (.invokevirtual 345, 3, 1660), (.aload_n 0, 1, 0), (.iload_n 1, 1, 0), (.invokevirtual 372, 3, 1680), (.istore_n 2, 1, 0), (.aload_n 0, 1, 0), (.getfield 369, 3, 1154), (.ifCond .eq 7, 3, 0), (.iconst 0, 1, 0), (.goto 13, 3, 0)]
def r_1481_2 : List (Instr × Nat × Nat) := [(.iload_n 2, 1, 0), (.aload_n 0, 1, 0), (.aload_n 0, 1, 0), (.getfield 354, 3, 1151), (.invokevirtual 363, 3, 1652), (.ixor, 1, 0)]
def r_1481_3 : List (Instr × Nat × Nat) := [(.ireturn, 1, 0)]
def r_1481_4 : List (Instr × Nat × Nat) := [(.aload_n 0, 1, 0), (.iload_n 1, 1, 0), (.invokevirtual 372, 3, 1680), (.ireturn, 1, 0)]
def r_1489_0 : List (Instr × Nat × Nat) := [(.aload_n 0, 1, 0), (.bipush 12, 2, 0), (.invokevirtual 345, 3, 1660), (.aload_n 0, 1, 0), (.getfield 348, 3, 1150), (.aload_n 0, 1, 0), (.getfield 354, 3, 1151), (.if_icmp .ne 10, 3, 0), (.aload_n 0, 1, 0), (.iconst 1, 1, 0), (.putfield 369, 3, 1154), (.iconst 0, 1, 0), (.ireturn, 1, 0)]
def r_1489_1 : List (Instr × Nat × Nat) := [(.iload_n 1, 1, 0), (.aload_n 0, 1, 0), (.getfield 348, 3, 1150), (.aload_n 0, 1, 0), (.getfield 354, 3, 1151), (.isub, 1, 0), (.idiv, 1, 0), (.ireturn, 1, 0)]
def r_1497_0 : List (Instr × Nat × Nat) := [(.aload_n 0, 1, 0), (.getfield 357, 3, 1149), (.iconst 2, 1, 0), (.if_icmp .eq 11, 3, 0), (.aload_n 0, 1, 0), (.getfield 357, 3, 1149), (.iconst 4, 1, 0), (.if_icmp .ne 26, 3, 0)]
def r_1497_1 : List (Instr × Nat × Nat) := [(.aload_n 0, 1, 0), (.bipush 31, 2, 0), (.invokevirtual 345, 3, 1660), (.aload_n 0, 1, 0), (.iload_n 1, 1, 0), (.invokevirtual 378, 3, 1688), (.istore_n 2, 1, 0), (.iload_n 2, 1, 0), (.aload_n 0, 1, 0), (.aload_n 0, 1, 0), (.getfield 354, 3, 1151), (.invokevirtual 381, 3, 1676), (.iadd, 1, 0), (.ireturn, 1, 0)]
def r_1497_2 : List (Instr × Nat × Nat) := [(.aload_n 0, 1, 0), (.getfield 357, 3, 1149), (.iconst 5, 1, 0), (.if_icmp .ne 18, 3, 0), (.aload_n 0, 1, 0), (.bipush 60, 2, 0), (.invokevirtual 345, 3, 1660), (.bipush 7, 2, 0), (.aload_n 0, 1, 0), (.iload_n 1, 1, 0), (.invokevirtual 378, 3, 1688), (.isub, 1, 0), (.ireturn, 1, 0)]
def r_1497_3 : List (Instr × Nat × Nat) := [(.aload_n 0, 1, 0), (.iload_n 1, 1, 0), (.invokevirtual 378, 3, 1688), (.ireturn, 1, 0)]
def r_1505_0 : List (Instr × Nat × Nat) := [(.aload_n 0, 1, 0), (.bipush 13, 2, 0), (.invokevirtual 345, 3, 1660), (.aload_n 0, 1, 0), (.iload_n 1, 1, 0), (.invokevirtual 375, 3, 1668), (.aload_n 0, 1, 0), (.getfield 354, 3, 1151), (.iadd, 1, 0), (.ireturn, 1, 0)]
def r_1513_0 : List (Instr × Nat × Nat) := [(.iload_n 1, 1, 0), (.iconst 0, 1, 0), (.aload_n 0, 1, 0), (.getfield 342, 3, 1153), (.iconst 1, 1, 0), (.isub, 1, 0), (.invokestatic 73, 3, 1232), (.ifCond .eq 12, 3, 0), (.aload_n 0, 1, 0), (.getfield 66, 3, 1152), (.iload_n 1, 1, 0), (.iaload, 1, 0), (.goto 5, 3, 0)]
def r_1513_1 : List (Instr × Nat × Nat) := [(.bipush (-3), 2, 0)]
def r_1513_2 : List (Instr × Nat × Nat) := [(.ireturn, 1, 0)]
def r_1521_0 : List (Instr × Nat × Nat) := [(.iload_n 1, 1, 0), (.tableswitch 80 0 6 #[43, 50, 55, 60, 65, 70, 75], 43, 0)]
def r_1521_1 : List (Instr × Nat × Nat) := [(.aload_n 0, 1, 0), (.getfield 7, 3, 1119), (.iconst 5, 1, 0), (.iaload, 1, 0), (.ireturn, 1, 0)]
def r_1521_2 : List (Instr × Nat × Nat) := [(.aload_n 0, 1, 0), (.invokevirtual 387, 3, 1700), (.ireturn, 1, 0)]
def r_1521_3 : List (Instr × Nat × Nat) := [(.aload_n 0, 1, 0), (.invokevirtual 390, 3, 1704), (.ireturn, 1, 0)]
def r_1521_4 : List (Instr × Nat × Nat) := [(.aload_n 0, 1, 0), (.invokevirtual 393, 3, 1708), (.ireturn, 1, 0)]
def r_1521_5 : List (Instr × Nat × Nat) := [(.aload_n 0, 1, 0), (.getfield 206, 3, 1142), (.ireturn, 1, 0)]
def r_1521_6 : List (Instr × Nat × Nat) := [(.aload_n 0, 1, 0), (.getfield 77, 3, 1126), (.ireturn, 1, 0)]
def r_1521_7 : List (Instr × Nat × Nat) := [(.aload_n 0, 1, 0), (.getfield 342, 3, 1153), (.ireturn, 1, 0)]
def r_1521_8 : List (Instr × Nat × Nat) := [(.iconst (-1), 1, 0), (.ireturn, 1, 0)]
def r_1528_0 : List (Instr × Nat × Nat) := [(.iconst 0, 1, 0), (.istore_n 1, 1, 0), (.iconst 0, 1, 0), (.istore_n 2, 1, 0)]
def r_1528_1 : List (Instr × Nat × Nat) := [(.iload_n 2, 1, 0), (.aload_n 0, 1, 0), (.getfield 7, 3, 1119), (.iconst 5, 1, 0), (.iaload, 1, 0), (.if_icmp .ge 28, 3, 0), (.iload_n 1, 1, 0), (.aload_n 0, 1, 0), (.iload_n 2, 1, 0), (.iconst 4, 1, 0), (.invokevirtual 235, 3, 1398), (.bipush 9, 2, 0), (.if_icmp .ne 7, 3, 0), (.iconst 1, 1, 0), (.goto 4, 3, 0)]
def r_1528_2 : List (Instr × Nat × Nat) := [(.iconst 0, 1, 0)]
def r_1528_3 : List (Instr × Nat × Nat) := [(.iadd, 1, 0), (.istore_n 1, 1, 0), (.iinc 2 1, 3, 0), (.goto (-32), 3, 0)]
def r_1528_4 : List (Instr × Nat × Nat) := [(.iload_n 1, 1, 0), (.ireturn, 1, 0)]
def r_1536_0 : List (Instr × Nat × Nat) := [(.iconst 0, 1, 0), (.istore_n 1, 1, 0), (.iconst 0, 1, 0), (.istore_n 2, 1, 0)]
def r_1536_1 : List (Instr × Nat × Nat) := [(.iload_n 2, 1, 0), (.bipush 8, 2, 0), (.if_icmp .ge 18, 3, 0), (.iload_n 1, 1, 0), (.aload_n 0, 1, 0), (.iload_n 2, 1, 0), (.iconst 5, 1, 0), (.invokevirtual 218, 3, 1360), (.iadd, 1, 0), (.istore_n 1, 1, 0), (.iinc 2 1, 3, 0), (.goto (-18), 3, 0)]
def r_1536_2 : List (Instr × Nat × Nat) := [(.iload_n 1, 1, 0), (.ireturn, 1, 0)]
def r_1544_0 : List (Instr × Nat × Nat) := [(.iconst 0, 1, 0), (.istore_n 1, 1, 0), (.iconst 0, 1, 0), (.istore_n 2, 1, 0)]
def r_1544_1 : List (Instr × Nat × Nat) := [(.iload_n 2, 1, 0), (.iconst 4, 1, 0), (.if_icmp .ge 44, 3, 0), (.iload_n 1, 1, 0), (.aload_n 0, 1, 0), (.getfield 7, 3, 1119), (.bipush 68, 2, 0), (.iconst 2, 1, 0), (.iload_n 2, 1, 0), (.imul, 1, 0), (.iadd, 1, 0), (.iconst 1, 1, 0), (.iadd, 1, 0), (.iaload, 1, 0), (.aload_n 0, 1, 0), (.getfield 7, 3, 1119), (.bipush 68, 2, 0), (.iconst 2, 1, 0), (.iload_n 2, 1, 0), (.imul, 1, 0), (.iadd, 1, 0), (.iaload, 1, 0), (.if_icmp .lt 7, 3, 0), (.iconst 1, 1, 0), (.goto 4, 3, 0)]
def r_1544_2 : List (Instr × Nat × Nat) := [(.iconst 0, 1, 0)]
def r_1544_3 : List (Instr × Nat × Nat) := [(.iadd, 1, 0), (.istore_n 1, 1, 0), (.iinc 2 1, 3, 0), (.goto (-43), 3, 0)]
def r_1544_4 : List (Instr × Nat × Nat) := [(.iload_n 1, 1, 0), (.ireturn, 1, 0)]
def r_1552_0 : List (Instr × Nat × Nat) := [(.aload_n 0, 1, 0), (.getfield 7, 3, 1119), (.aload_n 0, 1, 0), (.getfield 16, 3, 1121), (.invokestatic 202, 3, 1327), (.aload_n 0, 1, 0), (.iconst 1, 1, 0), (.putfield 396, 3, 1124), (.iconst 1, 1, 0), (.ireturn, 1, 0)]
def r_1560_0 : List (Instr × Nat × Nat) := [(.aload_n 0, 1, 0), (.getfield 396, 3, 1124), (.ifCond .ne 6, 3, 0), (.bipush (-3), 2, 0), (.ireturn, 1, 0)]
def r_1560_1 : List (Instr × Nat × Nat) := [(.aload_n 0, 1, 0), (.getfield 16, 3, 1121), (.aload_n 0, 1, 0), (.getfield 7, 3, 1119), (.invokestatic 202, 3, 1327), (.aload_n 0, 1, 0), (.getfield 7, 3, 1119), (.iconst 5, 1, 0), (.iaload, 1, 0), (.ireturn, 1, 0)]
def r_1569_0 : List (Instr × Nat × Nat) := [(.aload_n 0, 1, 0), (.invokespecial 3, 3, 219), (.aload_n 0, 1, 0), (.iconst 3, 1, 0), (.newarray .int, 2, 131), (.putfield 9, 3, 232), (.aload_n 0, 1, 0), (.iconst 5, 1, 0), (.newarray .int, 2, 131), (.putfield 15, 3, 235), (.aload_n 0, 1, 0), (.bipush 40, 2, 0), (.newarray .int, 2, 131), (.putfield 18, 3, 238), (.aload_n 0, 1, 0), (.bipush 8, 2, 0), (.newarray .int, 2, 131), (.putfield 21, 3, 241), (.aload_n 0, 1, 0), (.bipush 8, 2, 0), (.newarray .int, 2, 131), (.putfield 24, 3, 244), (.aload_n 0, 1, 0), (.iconst 4, 1, 0), (.newarray .int, 2, 131), (.putfield 27, 3, 246), (.aload_n 0, 1, 0), (.iconst 4, 1, 0), (.newarray .int, 2, 131), (.putfield 30, 3, 249), (.aload_n 0, 1, 0), (.bipush 6, 2, 0), (.newarray .int, 2, 131), (.putfield 33, 3, 251), (.aload_n 0, 1, 0), (.bipush 6, 2, 0), (.newarray .int, 2, 131), (.putfield 36, 3, 253), (.aload_n 0, 1, 0), (.bipush 6, 2, 0), (.newarray .int, 2, 131), (.putfield 39, 3, 255), (.aload_n 0, 1, 0), (.bipush 6, 2, 0), (.newarray .int, 2, 131), (.putfield 42, 3, 257), (.aload_n 0, 1, 0), (.bipush 6, 2, 0), (.newarray .int, 2, 131), (.putfield 45, 3, 259), (.aload_n 0, 1, 0), (.bipush 30, 2, 0), (.newarray .int, 2, 131), (.putfield 48, 3, 261), (.aload_n 0, 1, 0), (.iconst 1, 1, 0), (.putfield 51, 3, 270), (.aload_n 0, 1, 0), (.aload_n 1, 1, 0), (.putfield 55, 3, 231), (.aload_n 0, 1, 0), (.invokevirtual 59, 3, 220), (.return_, 1, 0)]
def r_1576_0 : List (Instr × Nat × Nat) := [(.getstatic 62, 3, 224), (.iconst 0, 1, 0), (.aload_n 0, 1, 0), (.getfield 9, 3, 232), (.iconst 0, 1, 0), (.aload_n 0, 1, 0), (.getfield 9, 3, 232), (.arraylength, 1, 0), (.invokestatic 65, 3, 226), (.getstatic 71, 3, 229), (.iconst 0, 1, 0), (.aload_n 0, 1, 0), (.getfield 15, 3, 235), (.iconst 0, 1, 0), (.iconst 5, 1, 0), (.invokestatic 65, 3, 226), (.iconst 0, 1, 0), (.istore_n 1, 1, 0)]
def r_1576_1 : List (Instr × Nat × Nat) := [(.iload_n 1, 1, 0), (.aload_n 0, 1, 0), (.getfield 18, 3, 238), (.arraylength, 1, 0), (.if_icmp .ge 16, 3, 0), (.aload_n 0, 1, 0), (.getfield 18, 3, 238), (.iload_n 1, 1, 0), (.iconst 0, 1, 0), (.iastore, 1, 0), (.iinc 1 1, 3, 0), (.goto (-19), 3, 0)]
def r_1576_2 : List (Instr × Nat × Nat) := [(.iconst 0, 1, 0), (.istore_n 1, 1, 0)]
def r_1576_3 : List (Instr × Nat × Nat) := [(.iload_n 1, 1, 0), (.bipush 8, 2, 0), (.if_icmp .ge 23, 3, 0), (.aload_n 0, 1, 0), (.getfield 21, 3, 241), (.iload_n 1, 1, 0), (.iconst 3, 1, 0), (.iastore, 1, 0), (.aload_n 0, 1, 0), (.getfield 24, 3, 244), (.iload_n 1, 1, 0), (.iconst 0, 1, 0), (.iastore, 1, 0), (.iinc 1 1, 3, 0), (.goto (-23), 3, 0)]
def r_1576_4 : List (Instr × Nat × Nat) := [(.iconst 0, 1, 0), (.istore_n 1, 1, 0)]
def r_1576_5 : List (Instr × Nat × Nat) := [(.iload_n 1, 1, 0), (.iconst 4, 1, 0), (.if_icmp .ge 25, 3, 0), (.aload_n 0, 1, 0), (.getfield 27, 3, 246), (.iload_n 1, 1, 0), (.sipush 999, 3, 0), (.iastore, 1, 0), (.aload_n 0, 1, 0), (.getfield 30, 3, 249), (.iload_n 1, 1, 0), (.iconst 0, 1, 0), (.iastore, 1, 0), (.iinc 1 1, 3, 0), (.goto (-24), 3, 0)]
def r_1576_6 : List (Instr × Nat × Nat) := [(.aload_n 0, 1, 0), (.iconst 0, 1, 0), (.putfield 74, 3, 263), (.aload_n 0, 1, 0), (.iconst 0, 1, 0), (.putfield 77, 3, 266), (.aload_n 0, 1, 0), (.iconst 0, 1, 0), (.putfield 80, 3, 268), (.return_, 1, 0)]
def r_1588_0 : List (Instr × Nat × Nat) := [(.aload_n 0, 1, 0), (.getfield 74, 3, 263), (.istore 5, 2, 0), (.aload_n 0, 1, 0), (.getfield 33, 3, 251), (.iload 5, 2, 0), (.iload_n 1, 1, 0), (.iastore, 1, 0), (.aload_n 0, 1, 0), (.getfield 36, 3, 253), (.iload 5, 2, 0), (.iload_n 2, 1, 0), (.iastore, 1, 0), (.aload_n 0, 1, 0), (.getfield 39, 3, 255), (.iload 5, 2, 0), (.iload_n 3, 1, 0), (.iastore, 1, 0), (.aload_n 0, 1, 0), (.getfield 42, 3, 257), (.iload 5, 2, 0), (.iload 4, 2, 0), (.iastore, 1, 0), (.aload_n 0, 1, 0), (.getfield 45, 3, 259), (.iload 5, 2, 0), (.iconst 0, 1, 0), (.iastore, 1, 0), (.iconst 0, 1, 0), (.istore 6, 2, 0)]
def r_1588_1 : List (Instr × Nat × Nat) := [(.iload 6, 2, 0), (.iconst 5, 1, 0), (.if_icmp .ge 22, 3, 0), (.aload_n 0, 1, 0), (.getfield 48, 3, 261), (.iload 5, 2, 0), (.iconst 5, 1, 0), (.imul, 1, 0), (.iload 6, 2, 0), (.iadd, 1, 0), (.iconst 0, 1, 0), (.iastore, 1, 0), (.iinc 6 1, 3, 0), (.goto (-22), 3, 0)]
def r_1588_2 : List (Instr × Nat × Nat) := [(.aload_n 0, 1, 0), (.dup, 1, 0), (.getfield 74, 3, 263), (.iconst 1, 1, 0), (.iadd, 1, 0), (.putfield 74, 3, 263), (.iload 5, 2, 0), (.ireturn, 1, 0)]
def r_1593_0 : List (Instr × Nat × Nat) := [(.aload_n 1, 1, 0), (.getfield 9, 3, 232), (.iconst 0, 1, 0), (.aload_n 0, 1, 0), (.getfield 9, 3, 232), (.iconst 0, 1, 0), (.aload_n 0, 1, 0), (.getfield 9, 3, 232), (.arraylength, 1, 0), (.invokestatic 65, 3, 226), (.aload_n 1, 1, 0), (.getfield 15, 3, 235), (.iconst 0, 1, 0), (.aload_n 0, 1, 0), (.getfield 15, 3, 235), (.iconst 0, 1, 0), (.iconst 5, 1, 0), (.invokestatic 65, 3, 226), (.aload_n 1, 1, 0), (.getfield 18, 3, 238), (.iconst 0, 1, 0), (.aload_n 0, 1, 0), (.getfield 18, 3, 238), (.iconst 0, 1, 0), (.aload_n 0, 1, 0), (.getfield 18, 3, 238), (.arraylength, 1, 0), (.invokestatic 65, 3, 226), (.aload_n 1, 1, 0), (.getfield 21, 3, 241), (.iconst 0, 1, 0), (.aload_n 0, 1, 0), (.getfield 21, 3, 241), (.iconst 0, 1, 0), (.bipush 8, 2, 0), (.invokestatic 65, 3, 226), (.aload_n 1, 1, 0), (.getfield 24, 3, 244), (.iconst 0, 1, 0), (.aload_n 0, 1, 0), (.getfield 24, 3, 244), (.iconst 0, 1, 0), (.bipush 8, 2, 0), (.invokestatic 65, 3, 226), (.aload_n 1, 1, 0), (.getfield 27, 3, 246), (.iconst 0, 1, 0), (.aload_n 0, 1, 0), (.getfield 27, 3, 246), (.iconst 0, 1, 0), (.iconst 4, 1, 0), (.invokestatic 65, 3, 226), (.aload_n 1, 1, 0), (.getfield 30, 3, 249), (.iconst 0, 1, 0), (.aload_n 0, 1, 0), (.getfield 30, 3, 249), (.iconst 0, 1, 0), (.iconst 4, 1, 0), (.invokestatic 65, 3, 226), (.aload_n 1, 1, 0), (.getfield 33, 3, 251), (.iconst 0, 1, 0), (.aload_n 0, 1, 0), (.getfield 33, 3, 251), (.iconst 0, 1, 0), (.bipush 6, 2, 0), (.invokestatic 65, 3, 226), (.aload_n 1, 1, 0), (.getfield 36, 3, 253), (.iconst 0, 1, 0), (.aload_n 0, 1, 0), (.getfield 36, 3, 253), (.iconst 0, 1, 0), (.bipush 6, 2, 0), (.invokestatic 65, 3, 226), (.aload_n 1, 1, 0), (.getfield 39, 3, 255), (.iconst 0, 1, 0), (.aload_n 0, 1, 0), (.getfield 39, 3, 255), (.iconst 0, 1, 0), (.bipush 6, 2, 0), (.invokestatic 65, 3, 226), (.aload_n 1, 1, 0), (.getfield 42, 3, 257), (.iconst 0, 1, 0), (.aload_n 0, 1, 0), (.getfield 42, 3, 257), (.iconst 0, 1, 0), (.bipush 6, 2, 0), (.invokestatic 65, 3, 226), (.aload_n 1, 1, 0), (.getfield 45, 3, 259), (.iconst 0, 1, 0), (.aload_n 0, 1, 0), (.getfield 45, 3, 259), (.iconst 0, 1, 0), (.bipush 6, 2, 0), (.invokestatic 65, 3, 226), (.aload_n 1, 1, 0), (.getfield 48, 3, 261), (.iconst 0, 1, 0), (.aload_n 0, 1, 0), (.getfield 48, 3, 261), (.iconst 0, 1, 0), (.aload_n 0, 1, 0), (.getfield 48, 3, 261), (.arraylength, 1, 0), (.invokestatic 65, 3, 226), (.aload_n 0, 1, 0), (.aload_n 1, 1, 0), (.getfield 74, 3, 263), (.putfield 74, 3, 263), (.aload_n 0, 1, 0), (.aload_n 1, 1, 0), (.getfield 77, 3, 266), (.putfield 77, 3, 266), (.aload_n 0, 1, 0), (.aload_n 1, 1, 0), (.getfield 80, 3, 268), (.putfield 80, 3, 268), (.aload_n 0, 1, 0), (.aload_n 1, 1, 0), (.getfield 51, 3, 270), (.putfield 51, 3, 270), (.return_, 1, 0)]
def r_1601_0 : List (Instr × Nat × Nat) := [(.aload_n 0, 1, 0), (.getfield 21, 3, 241), (.iconst 2, 1, 0), (.iload_n 1, 1, 0), (.imul, 1, 0), (.iaload, 1, 0), (.aload_n 0, 1, 0), (.getfield 21, 3, 241), (.iconst 2, 1, 0), (.iload_n 1, 1, 0), (.imul, 1, 0), (.iconst 1, 1, 0), (.iadd, 1, 0), (.iaload, 1, 0), (.iadd, 1, 0), (.ireturn, 1, 0)]
def r_1609_0 : List (Instr × Nat × Nat) := [(.iconst 0, 1, 0), (.istore_n 2, 1, 0), (.iconst 0, 1, 0), (.istore_n 3, 1, 0)]
def r_1609_1 : List (Instr × Nat × Nat) := [(.iload_n 3, 1, 0), (.iconst 5, 1, 0), (.if_icmp .ge 22, 3, 0), (.iload_n 2, 1, 0), (.aload_n 0, 1, 0), (.getfield 18, 3, 238), (.iload_n 1, 1, 0), (.iconst 5, 1, 0), (.imul, 1, 0), (.iload_n 3, 1, 0), (.iadd, 1, 0), (.iaload, 1, 0), (.iadd, 1, 0), (.istore_n 2, 1, 0), (.iinc 3 1, 3, 0), (.goto (-21), 3, 0)]
def r_1609_2 : List (Instr × Nat × Nat) := [(.iload_n 2, 1, 0), (.ireturn, 1, 0)]
def r_1617_0 : List (Instr × Nat × Nat) := [(.iconst 0, 1, 0), (.istore_n 2, 1, 0), (.iconst 0, 1, 0), (.istore_n 3, 1, 0)]
def r_1617_1 : List (Instr × Nat × Nat) := [(.iload_n 3, 1, 0), (.iconst 5, 1, 0), (.if_icmp .ge 29, 3, 0), (.iload_n 2, 1, 0), (.aload_n 0, 1, 0), (.getfield 48, 3, 261), (.iload_n 1, 1, 0), (.iconst 5, 1, 0), (.imul, 1, 0), (.iload_n 3, 1, 0), (.iadd, 1, 0), (.iaload, 1, 0), (.aload_n 0, 1, 0), (.getfield 15, 3, 235), (.iload_n 3, 1, 0), (.iaload, 1, 0), (.imul, 1, 0), (.iadd, 1, 0), (.istore_n 2, 1, 0), (.iinc 3 1, 3, 0), (.goto (-28), 3, 0)]
def r_1617_2 : List (Instr × Nat × Nat) := [(.iload_n 2, 1, 0), (.ireturn, 1, 0)]
def r_1626_0 : List (Instr × Nat × Nat) := [(.aload_n 0, 1, 0), (.getfield 18, 3, 238), (.aload_n 0, 1, 0), (.getfield 39, 3, 255), (.iload_n 1, 1, 0), (.iaload, 1, 0), (.iconst 5, 1, 0), (.imul, 1, 0), (.iload_n 2, 1, 0), (.iadd, 1, 0), (.iaload, 1, 0), (.istore_n 3, 1, 0), (.iload_n 3, 1, 0), (.aload_n 0, 1, 0), (.iload_n 1, 1, 0), (.invokevirtual 90, 3, 638), (.iload_n 3, 1, 0), (.iload_n 2, 1, 0), (.aload_n 0, 1, 0), (.getfield 36, 3, 253), (.iload_n 1, 1, 0), (.iaload, 1, 0), (.invokevirtual 94, 3, 642), (.invokestatic 100, 3, 667), (.ireturn, 1, 0)]
def r_1633_0 : List (Instr × Nat × Nat) := [(.aload_n 0, 1, 0), (.getfield 55, 3, 231), (.aload_n 0, 1, 0), (.getfield 33, 3, 251), (.iload_n 1, 1, 0), (.iaload, 1, 0), (.aaload, 1, 0), (.areturn, 1, 0)]
def r_1641_0 : List (Instr × Nat × Nat) := [(.aload_n 0, 1, 0), (.iload_n 1, 1, 0), (.invokevirtual 90, 3, 638), (.aload_n 0, 1, 0), (.getfield 36, 3, 253), (.iload_n 1, 1, 0), (.iaload, 1, 0), (.aload_n 0, 1, 0), (.getfield 42, 3, 257), (.iload_n 1, 1, 0), (.iaload, 1, 0), (.invokevirtual 106, 3, 678), (.ireturn, 1, 0)]
def r_1649_0 : List (Instr × Nat × Nat) := [(.aload_n 0, 1, 0), (.getfield 39, 3, 255), (.iload_n 1, 1, 0), (.iaload, 1, 0), (.iconst 2, 1, 0), (.idiv, 1, 0), (.istore_n 2, 1, 0), (.aload_n 0, 1, 0), (.getfield 45, 3, 259), (.iload_n 1, 1, 0), (.iaload, 1, 0), (.bipush 9, 2, 0), (.if_icmp .ge 22, 3, 0), (.aload_n 0, 1, 0), (.getfield 30, 3, 249), (.iload_n 2, 1, 0), (.iaload, 1, 0), (.aload_n 0, 1, 0), (.getfield 27, 3, 246), (.iload_n 2, 1, 0), (.iaload, 1, 0), (.if_icmp .ge 7, 3, 0), (.iconst 1, 1, 0), (.goto 4, 3, 0)]
def r_1649_1 : List (Instr × Nat × Nat) := [(.iconst 0, 1, 0)]
def r_1649_2 : List (Instr × Nat × Nat) := [(.ireturn, 1, 0)]
def r_1657_0 : List (Instr × Nat × Nat) := [(.aload_n 0, 1, 0), (.iload_n 1, 1, 0), (.invokevirtual 109, 3, 713), (.ifCond .ne 5, 3, 0), (.iconst 0, 1, 0), (.ireturn, 1, 0)]
def r_1657_1 : List (Instr × Nat × Nat) := [(.iconst 0, 1, 0), (.istore_n 2, 1, 0), (.iconst 0, 1, 0), (.istore_n 3, 1, 0)]
def r_1657_2 : List (Instr × Nat × Nat) := [(.iload_n 3, 1, 0), (.iconst 5, 1, 0), (.if_icmp .ge 104, 3, 0), (.getstatic 113, 3, 714), (.iload_n 3, 1, 0), (.iaload, 1, 0), (.aload_n 0, 1, 0), (.getfield 42, 3, 257), (.iload_n 1, 1, 0), (.iaload, 1, 0), (.if_icmp .lt 84, 3, 0), (.aload_n 0, 1, 0), (.iload_n 1, 1, 0), (.iload_n 3, 1, 0), (.invokevirtual 116, 3, 716), (.istore 4, 2, 0), (.aload_n 0, 1, 0), (.getfield 18, 3, 238), (.aload_n 0, 1, 0), (.getfield 39, 3, 255), (.iload_n 1, 1, 0), (.iaload, 1, 0), (.iconst 5, 1, 0), (.imul, 1, 0), (.iload_n 3, 1, 0), (.iadd, 1, 0), (.dup2, 1, 0), (.iaload, 1, 0), (.iload 4, 2, 0), (.isub, 1, 0), (.iastore, 1, 0), (.aload_n 0, 1, 0), (.getfield 48, 3, 261), (.iload_n 1, 1, 0), (.iconst 5, 1, 0), (.imul, 1, 0), (.iload_n 3, 1, 0), (.iadd, 1, 0), (.dup2, 1, 0), (.iaload, 1, 0), (.iload 4, 2, 0), (.iadd, 1, 0), (.iastore, 1, 0), (.iload_n 2, 1, 0), (.iload 4, 2, 0), (.iadd, 1, 0), (.istore_n 2, 1, 0), (.iload_n 3, 1, 0), (.iconst 4, 1, 0), (.if_icmp .ne 31, 3, 0), (.iload 4, 2, 0), (.ifCond .le 26, 3, 0), (.aload_n 0, 1, 0), (.getfield 45, 3, 259), (.iload_n 1, 1, 0), (.bipush 9, 2, 0), (.aload_n 0, 1, 0), (.getfield 45, 3, 259), (.iload_n 1, 1, 0), (.iaload, 1, 0), (.aload_n 0, 1, 0), (.iload_n 1, 1, 0), (.invokevirtual 119, 3, 717), (.iadd, 1, 0), (.invokestatic 100, 3, 667), (.iastore, 1, 0)]
def r_1657_3 : List (Instr × Nat × Nat) := [(.iinc 3 1, 3, 0), (.goto (-103), 3, 0)]
def r_1657_4 : List (Instr × Nat × Nat) := [(.aload_n 0, 1, 0), (.getfield 24, 3, 244), (.aload_n 0, 1, 0), (.getfield 39, 3, 255), (.iload_n 1, 1, 0), (.iaload, 1, 0), (.dup2, 1, 0), (.iaload, 1, 0), (.iload_n 2, 1, 0), (.iadd, 1, 0), (.iastore, 1, 0), (.aload_n 0, 1, 0), (.getfield 30, 3, 249), (.aload_n 0, 1, 0), (.getfield 39, 3, 255), (.iload_n 1, 1, 0), (.iaload, 1, 0), (.iconst 2, 1, 0), (.idiv, 1, 0), (.dup2, 1, 0), (.iaload, 1, 0), (.iload_n 2, 1, 0), (.iadd, 1, 0), (.iastore, 1, 0), (.iload_n 2, 1, 0), (.ireturn, 1, 0)]
def r_1664_0 : List (Instr × Nat × Nat) := [(.iconst 1, 1, 0), (.aload_n 0, 1, 0), (.getfield 9, 3, 232), (.iconst 1, 1, 0), (.iaload, 1, 0), (.invokestatic 128, 3, 735), (.istore_n 1, 1, 0), (.aload_n 0, 1, 0), (.getfield 77, 3, 266), (.iconst 5, 1, 0), (.irem, 1, 0), (.istore_n 2, 1, 0), (.iconst 0, 1, 0), (.istore_n 3, 1, 0)]
def r_1664_1 : List (Instr × Nat × Nat) := [(.iload_n 3, 1, 0), (.bipush 8, 2, 0), (.if_icmp .ge 82, 3, 0), (.iconst 0, 1, 0), (.istore 4, 2, 0)]
def r_1664_2 : List (Instr × Nat × Nat) := [(.iload 4, 2, 0), (.iconst 5, 1, 0), (.if_icmp .ge 67, 3, 0), (.iload_n 3, 1, 0), (.iconst 5, 1, 0), (.imul, 1, 0), (.iload 4, 2, 0), (.iadd, 1, 0), (.istore 5, 2, 0), (.aload_n 0, 1, 0), (.getfield 18, 3, 238), (.iload 5, 2, 0), (.iaload, 1, 0), (.iload_n 1, 1, 0), (.idiv, 1, 0), (.iload 4, 2, 0), (.iload_n 2, 1, 0), (.if_icmp .ne 12, 3, 0), (.aload_n 0, 1, 0), (.getfield 21, 3, 241), (.iload_n 3, 1, 0), (.iaload, 1, 0), (.goto 4, 3, 0)]
def r_1664_3 : List (Instr × Nat × Nat) := [(.iconst 0, 1, 0)]
def r_1664_4 : List (Instr × Nat × Nat) := [(.iadd, 1, 0), (.istore 6, 2, 0), (.aload_n 0, 1, 0), (.getfield 18, 3, 238), (.iload 5, 2, 0), (.bipush 99, 2, 0), (.aload_n 0, 1, 0), (.getfield 18, 3, 238), (.iload 5, 2, 0), (.iaload, 1, 0), (.iload 6, 2, 0), (.iadd, 1, 0), (.invokestatic 100, 3, 667), (.iastore, 1, 0), (.iinc 4 1, 3, 0), (.goto (-67), 3, 0)]
def r_1664_5 : List (Instr × Nat × Nat) := [(.iinc 3 1, 3, 0), (.goto (-82), 3, 0)]
def r_1664_6 : List (Instr × Nat × Nat) := [(.aload_n 0, 1, 0), (.invokevirtual 131, 3, 738), (.aload_n 0, 1, 0), (.dup, 1, 0), (.getfield 77, 3, 266), (.iconst 1, 1, 0), (.iadd, 1, 0), (.putfield 77, 3, 266), (.return_, 1, 0)]
def r_1672_0 : List (Instr × Nat × Nat) := [(.iconst 1, 1, 0), (.aload_n 0, 1, 0), (.getfield 9, 3, 232), (.iconst 2, 1, 0), (.iaload, 1, 0), (.invokestatic 128, 3, 735), (.istore_n 1, 1, 0), (.aload_n 0, 1, 0), (.getfield 18, 3, 238), (.bipush 35, 2, 0), (.iaload, 1, 0), (.iload_n 1, 1, 0), (.idiv, 1, 0), (.istore_n 2, 1, 0), (.iconst 0, 1, 0), (.istore_n 3, 1, 0)]
def r_1672_1 : List (Instr × Nat × Nat) := [(.iload_n 3, 1, 0), (.bipush 8, 2, 0), (.if_icmp .ge 54, 3, 0), (.iload_n 3, 1, 0), (.iconst 5, 1, 0), (.imul, 1, 0), (.iconst 0, 1, 0), (.iadd, 1, 0), (.istore 4, 2, 0), (.aload_n 0, 1, 0), (.getfield 18, 3, 238), (.iload 4, 2, 0), (.iaload, 1, 0), (.iload_n 1, 1, 0), (.idiv, 1, 0), (.istore 5, 2, 0), (.aload_n 0, 1, 0), (.getfield 18, 3, 238), (.iload 4, 2, 0), (.bipush 99, 2, 0), (.aload_n 0, 1, 0), (.getfield 18, 3, 238), (.iload 4, 2, 0), (.iaload, 1, 0), (.iload 5, 2, 0), (.isub, 1, 0), (.iload_n 2, 1, 0), (.iadd, 1, 0), (.invokestatic 100, 3, 667), (.iastore, 1, 0), (.iload 5, 2, 0), (.istore_n 2, 1, 0), (.iinc 3 1, 3, 0), (.goto (-54), 3, 0)]
def r_1672_2 : List (Instr × Nat × Nat) := [(.return_, 1, 0)]
def r_1681_0 : List (Instr × Nat × Nat) := [(.aload_n 0, 1, 0), (.invokevirtual 135, 3, 750), (.bipush 100, 2, 0), (.irem, 1, 0), (.aload_n 0, 1, 0), (.getfield 9, 3, 232), (.iconst 0, 1, 0), (.iaload, 1, 0), (.if_icmp .ge 7, 3, 0), (.iconst 0, 1, 0), (.goto 8, 3, 0)]
def r_1681_1 : List (Instr × Nat × Nat) := [(.aload_n 0, 1, 0), (.iload_n 1, 1, 0), (.invokevirtual 125, 3, 755)]
def r_1681_2 : List (Instr × Nat × Nat) := [(.ireturn, 1, 0)]
def r_1688_0 : List (Instr × Nat × Nat) := [(.aload_n 0, 1, 0), (.aload_n 0, 1, 0), (.getfield 51, 3, 270), (.ldc 134, 2, 754), (.imul, 1, 0), (.sipush 12345, 3, 0), (.iadd, 1, 0), (.putfield 51, 3, 270), (.aload_n 0, 1, 0), (.getfield 51, 3, 270), (.bipush 16, 2, 0), (.iushr, 1, 0), (.ireturn, 1, 0)]
def r_1696_0 : List (Instr × Nat × Nat) := [(.iconst 0, 1, 0), (.istore_n 1, 1, 0), (.iconst 0, 1, 0), (.istore_n 2, 1, 0)]
def r_1696_1 : List (Instr × Nat × Nat) := [(.iload_n 2, 1, 0), (.aload_n 0, 1, 0), (.getfield 74, 3, 263), (.if_icmp .ge 30, 3, 0), (.aload_n 0, 1, 0), (.getfield 39, 3, 255), (.iload_n 2, 1, 0), (.aload_n 0, 1, 0), (.invokevirtual 135, 3, 750), (.bipush 8, 2, 0), (.irem, 1, 0), (.iastore, 1, 0), (.iload_n 1, 1, 0), (.aload_n 0, 1, 0), (.iload_n 2, 1, 0), (.invokevirtual 139, 3, 768), (.iadd, 1, 0), (.istore_n 1, 1, 0), (.iinc 2 1, 3, 0), (.goto (-32), 3, 0)]
def r_1696_2 : List (Instr × Nat × Nat) := [(.aload_n 0, 1, 0), (.invokevirtual 142, 3, 769), (.iload_n 1, 1, 0), (.ireturn, 1, 0)]
def r_1704_0 : List (Instr × Nat × Nat) := [(.iconst 0, 1, 0), (.istore_n 1, 1, 0), (.iconst 0, 1, 0), (.istore_n 2, 1, 0)]
def r_1704_1 : List (Instr × Nat × Nat) := [(.iload_n 2, 1, 0), (.bipush 8, 2, 0), (.if_icmp .ge 23, 3, 0), (.aload_n 0, 1, 0), (.iload_n 2, 1, 0), (.invokevirtual 83, 3, 785), (.ifCond .ne 9, 3, 0), (.iload_n 1, 1, 0), (.iconst 1, 1, 0), (.iload_n 2, 1, 0), (.ishl, 1, 0), (.ior, 1, 0), (.istore_n 1, 1, 0)]
def r_1704_2 : List (Instr × Nat × Nat) := [(.iinc 2 1, 3, 0), (.goto (-23), 3, 0)]
def r_1704_3 : List (Instr × Nat × Nat) := [(.iload_n 1, 1, 0), (.ireturn, 1, 0)]
def r_1713_0 : List (Instr × Nat × Nat) := [(.aload_n 0, 1, 0), (.iload_n 1, 1, 0), (.invokevirtual 122, 3, 810), (.istore_n 2, 1, 0), (.aload_n 0, 1, 0), (.iload_n 1, 1, 0), (.invokevirtual 125, 3, 755), (.pop, 1, 0), (.aload_n 0, 1, 0), (.iload_n 1, 1, 0), (.invokevirtual 122, 3, 810), (.iload_n 2, 1, 0), (.isub, 1, 0), (.ireturn, 1, 0)]
def r_1722_0 : List (Instr × Nat × Nat) := [(.iconst 0, 1, 0), (.istore_n 3, 1, 0), (.iconst 0, 1, 0), (.istore 4, 2, 0)]
def r_1722_1 : List (Instr × Nat × Nat) := [(.iload 4, 2, 0), (.aload_n 0, 1, 0), (.getfield 74, 3, 263), (.if_icmp .ge 33, 3, 0), (.iload_n 1, 1, 0), (.iload 4, 2, 0), (.ishr, 1, 0), (.iconst 1, 1, 0), (.iand, 1, 0), (.iconst 1, 1, 0), (.if_icmp .ne 17, 3, 0), (.iload_n 3, 1, 0), (.aload_n 0, 1, 0), (.getfield 48, 3, 261), (.iload 4, 2, 0), (.iconst 5, 1, 0), (.imul, 1, 0), (.iload_n 2, 1, 0), (.iadd, 1, 0), (.iaload, 1, 0), (.iadd, 1, 0), (.istore_n 3, 1, 0)]
def r_1722_2 : List (Instr × Nat × Nat) := [(.iinc 4 1, 3, 0), (.goto (-36), 3, 0)]
def r_1722_3 : List (Instr × Nat × Nat) := [(.iload_n 3, 1, 0), (.ireturn, 1, 0)]
def r_1730_0 : List (Instr × Nat × Nat) := [(.iload_n 2, 1, 0), (.ifCond .ne 9, 3, 0), (.aload_n 0, 1, 0), (.iload_n 1, 1, 0), (.invokevirtual 83, 3, 785), (.ireturn, 1, 0)]
def r_1730_1 : List (Instr × Nat × Nat) := [(.iload_n 2, 1, 0), (.iconst 1, 1, 0), (.if_icmp .ne 16, 3, 0), (.aload_n 0, 1, 0), (.getfield 18, 3, 238), (.iload_n 1, 1, 0), (.iconst 5, 1, 0), (.imul, 1, 0), (.iconst 0, 1, 0), (.iadd, 1, 0), (.iaload, 1, 0), (.goto 8, 3, 0)]
def r_1730_2 : List (Instr × Nat × Nat) := [(.aload_n 0, 1, 0), (.iload_n 1, 1, 0), (.invokevirtual 87, 3, 893)]
def r_1730_3 : List (Instr × Nat × Nat) := [(.ireturn, 1, 0)]
def r_1737_0 : List (Instr × Nat × Nat) := [(.iconst 0, 1, 0), (.istore_n 2, 1, 0), (.iconst 1, 1, 0), (.istore_n 3, 1, 0)]
def r_1737_1 : List (Instr × Nat × Nat) := [(.iload_n 3, 1, 0), (.iconst 5, 1, 0), (.if_icmp .ge 34, 3, 0), (.aload_n 0, 1, 0), (.getfield 18, 3, 238), (.iload_n 1, 1, 0), (.iconst 5, 1, 0), (.imul, 1, 0), (.iload_n 3, 1, 0), (.iadd, 1, 0), (.iaload, 1, 0), (.aload_n 0, 1, 0), (.getfield 18, 3, 238), (.iload_n 1, 1, 0), (.iconst 5, 1, 0), (.imul, 1, 0), (.iload_n 2, 1, 0), (.iadd, 1, 0), (.iaload, 1, 0), (.if_icmp .le 5, 3, 0), (.iload_n 3, 1, 0), (.istore_n 2, 1, 0)]
def r_1737_2 : List (Instr × Nat × Nat) := [(.iinc 3 1, 3, 0), (.goto (-33), 3, 0)]
def r_1737_3 : List (Instr × Nat × Nat) := [(.iload_n 2, 1, 0), (.ireturn, 1, 0)]
def r_1744_0 : List (Instr × Nat × Nat) := [(.iconst 0, 1, 0), (.istore_n 1, 1, 0), (.iconst 0, 1, 0), (.istore_n 2, 1, 0)]
def r_1744_1 : List (Instr × Nat × Nat) := [(.iload_n 2, 1, 0), (.aload_n 0, 1, 0), (.getfield 74, 3, 263), (.if_icmp .ge 23, 3, 0), (.aload_n 0, 1, 0), (.getfield 45, 3, 259), (.iload_n 2, 1, 0), (.iaload, 1, 0), (.bipush 9, 2, 0), (.if_icmp .ne 6, 3, 0), (.iinc 1 1, 3, 0)]
def r_1744_2 : List (Instr × Nat × Nat) := [(.iinc 2 1, 3, 0), (.goto (-25), 3, 0)]
def r_1744_3 : List (Instr × Nat × Nat) := [(.iload_n 1, 1, 0), (.ireturn, 1, 0)]
def r_1752_0 : List (Instr × Nat × Nat) := [(.iconst 0, 1, 0), (.istore_n 1, 1, 0), (.iconst 0, 1, 0), (.istore_n 2, 1, 0)]
def r_1752_1 : List (Instr × Nat × Nat) := [(.iload_n 2, 1, 0), (.iconst 4, 1, 0), (.if_icmp .ge 27, 3, 0), (.aload_n 0, 1, 0), (.getfield 30, 3, 249), (.iload_n 2, 1, 0), (.iaload, 1, 0), (.aload_n 0, 1, 0), (.getfield 27, 3, 246), (.iload_n 2, 1, 0), (.iaload, 1, 0), (.if_icmp .lt 6, 3, 0), (.iinc 1 1, 3, 0)]
def r_1752_2 : List (Instr × Nat × Nat) := [(.iinc 2 1, 3, 0), (.goto (-26), 3, 0)]
def r_1752_3 : List (Instr × Nat × Nat) := [(.iload_n 1, 1, 0), (.ireturn, 1, 0)]
def r_1760_0 : List (Instr × Nat × Nat) := [(.aload_n 0, 1, 0), (.invokespecial 3, 3, 109), (.aload_n 0, 1, 0), (.sipush 200, 3, 0), (.newarray .int, 2, 131), (.putfield 9, 3, 110), (.return_, 1, 0)]
def r_1769_0 : List (Instr × Nat × Nat) := [(.aload_n 0, 1, 0), (.getfield 15, 3, 111), (.sipush 200, 3, 0), (.if_icmp .ge 23, 3, 0), (.aload_n 0, 1, 0), (.getfield 9, 3, 110), (.aload_n 0, 1, 0), (.getfield 15, 3, 111), (.iload_n 1, 1, 0), (.iastore, 1, 0), (.aload_n 0, 1, 0), (.dup, 1, 0), (.getfield 15, 3, 111), (.iconst 1, 1, 0), (.iadd, 1, 0), (.putfield 15, 3, 111)]
def r_1769_1 : List (Instr × Nat × Nat) := [(.return_, 1, 0)]
def r_1777_0 : List (Instr × Nat × Nat) := [(.aload_n 0, 1, 0), (.iconst 0, 1, 0), (.putfield 19, 3, 115), (.iconst 0, 1, 0), (.istore_n 2, 1, 0)]
def r_1777_1 : List (Instr × Nat × Nat) := [(.iload_n 2, 1, 0), (.sipush 200, 3, 0), (.if_icmp .gt 40, 3, 0), (.aload_n 0, 1, 0), (.invokevirtual 22, 3, 401), (.aload_n 0, 1, 0), (.getfield 25, 3, 116), (.ifCond .ne 5, 3, 0), (.iconst 1, 1, 0), (.ireturn, 1, 0)]
def r_1777_2 : List (Instr × Nat × Nat) := [(.aload_n 0, 1, 0), (.getfield 25, 3, 116), (.iconst 1, 1, 0), (.if_icmp .ne 11, 3, 0), (.aload_n 0, 1, 0), (.aload_n 1, 1, 0), (.invokevirtual 28, 3, 415), (.ifCond .ne 5, 3, 0)]
def r_1777_3 : List (Instr × Nat × Nat) := [(.iconst 0, 1, 0), (.ireturn, 1, 0)]
def r_1777_4 : List (Instr × Nat × Nat) := [(.iinc 2 1, 3, 0), (.goto (-41), 3, 0)]
def r_1777_5 : List (Instr × Nat × Nat) := [(.iconst 0, 1, 0), (.ireturn, 1, 0)]
def r_1784_0 : List (Instr × Nat × Nat) := [(.aload_n 0, 1, 0), (.getfield 19, 3, 115), (.aload_n 0, 1, 0), (.getfield 15, 3, 111), (.if_icmp .ge 30, 3, 0), (.aload_n 0, 1, 0), (.getfield 9, 3, 110), (.aload_n 0, 1, 0), (.getfield 19, 3, 115), (.iaload, 1, 0), (.bipush 32, 2, 0), (.if_icmp .ne 16, 3, 0), (.aload_n 0, 1, 0), (.dup, 1, 0), (.getfield 19, 3, 115), (.iconst 1, 1, 0), (.iadd, 1, 0), (.putfield 19, 3, 115), (.goto (-35), 3, 0)]
def r_1784_1 : List (Instr × Nat × Nat) := [(.aload_n 0, 1, 0), (.aload_n 0, 1, 0), (.getfield 19, 3, 115), (.putfield 119, 3, 114), (.aload_n 0, 1, 0), (.getfield 19, 3, 115), (.aload_n 0, 1, 0), (.getfield 15, 3, 111), (.if_icmp .lt 11, 3, 0), (.aload_n 0, 1, 0), (.iconst 0, 1, 0), (.putfield 25, 3, 116), (.goto 104, 3, 0)]
def r_1784_2 : List (Instr × Nat × Nat) := [(.aload_n 0, 1, 0), (.getfield 9, 3, 110), (.aload_n 0, 1, 0), (.getfield 19, 3, 115), (.iaload, 1, 0), (.invokestatic 134, 3, 405), (.ifCond .eq 47, 3, 0), (.aload_n 0, 1, 0), (.iconst 1, 1, 0), (.putfield 25, 3, 116)]
def r_1784_3 : List (Instr × Nat × Nat) := [(.aload_n 0, 1, 0), (.getfield 19, 3, 115), (.aload_n 0, 1, 0), (.getfield 15, 3, 111), (.if_icmp .ge 73, 3, 0), (.aload_n 0, 1, 0), (.getfield 9, 3, 110), (.aload_n 0, 1, 0), (.getfield 19, 3, 115), (.iaload, 1, 0), (.invokestatic 134, 3, 405), (.ifCond .eq 58, 3, 0), (.aload_n 0, 1, 0), (.dup, 1, 0), (.getfield 19, 3, 115), (.iconst 1, 1, 0), (.iadd, 1, 0), (.putfield 19, 3, 115), (.goto (-36), 3, 0)]
def r_1784_4 : List (Instr × Nat × Nat) := [(.aload_n 0, 1, 0), (.getfield 9, 3, 110), (.aload_n 0, 1, 0), (.getfield 19, 3, 115), (.iaload, 1, 0), (.invokestatic 138, 3, 408), (.ifCond .eq 15, 3, 0), (.aload_n 0, 1, 0), (.iconst 2, 1, 0), (.putfield 25, 3, 116), (.aload_n 0, 1, 0), (.invokevirtual 141, 3, 411), (.goto 18, 3, 0)]
def r_1784_5 : List (Instr × Nat × Nat) := [(.aload_n 0, 1, 0), (.iconst 3, 1, 0), (.putfield 25, 3, 116), (.aload_n 0, 1, 0), (.dup, 1, 0), (.getfield 19, 3, 115), (.iconst 1, 1, 0), (.iadd, 1, 0), (.putfield 19, 3, 115)]
def r_1784_6 : List (Instr × Nat × Nat) := [(.return_, 1, 0)]
def r_1793_0 : List (Instr × Nat × Nat) := [(.iload_n 0, 1, 0), (.bipush 97, 2, 0), (.if_icmp .lt 13, 3, 0), (.iload_n 0, 1, 0), (.bipush 122, 2, 0), (.if_icmp .gt 7, 3, 0), (.iconst 1, 1, 0), (.goto 4, 3, 0)]
def r_1793_1 : List (Instr × Nat × Nat) := [(.iconst 0, 1, 0)]
def r_1793_2 : List (Instr × Nat × Nat) := [(.ireturn, 1, 0)]
def r_1801_0 : List (Instr × Nat × Nat) := [(.iload_n 0, 1, 0), (.bipush 48, 2, 0), (.if_icmp .lt 13, 3, 0), (.iload_n 0, 1, 0), (.bipush 57, 2, 0), (.if_icmp .gt 7, 3, 0), (.iconst 1, 1, 0), (.goto 4, 3, 0)]
def r_1801_1 : List (Instr × Nat × Nat) := [(.iconst 0, 1, 0)]
def r_1801_2 : List (Instr × Nat × Nat) := [(.ireturn, 1, 0)]
def r_1808_0 : List (Instr × Nat × Nat) := [(.aload_n 0, 1, 0), (.iconst 0, 1, 0), (.putfield 80, 3, 117)]
def r_1808_1 : List (Instr × Nat × Nat) := [(.aload_n 0, 1, 0), (.getfield 19, 3, 115), (.aload_n 0, 1, 0), (.getfield 15, 3, 111), (.if_icmp .ge 72, 3, 0), (.aload_n 0, 1, 0), (.getfield 9, 3, 110), (.aload_n 0, 1, 0), (.getfield 19, 3, 115), (.iaload, 1, 0), (.invokestatic 138, 3, 408), (.ifCond .eq 57, 3, 0), (.aload_n 0, 1, 0), (.aload_n 0, 1, 0), (.getfield 19, 3, 115), (.aload_n 0, 1, 0), (.getfield 119, 3, 114), (.isub, 1, 0), (.iconst 3, 1, 0), (.if_icmp .ge 26, 3, 0), (.aload_n 0, 1, 0), (.getfield 80, 3, 117), (.bipush 10, 2, 0), (.imul, 1, 0), (.aload_n 0, 1, 0), (.getfield 9, 3, 110), (.aload_n 0, 1, 0), (.getfield 19, 3, 115), (.iaload, 1, 0), (.iadd, 1, 0), (.bipush 48, 2, 0), (.isub, 1, 0), (.goto 4, 3, 0)]
def r_1808_2 : List (Instr × Nat × Nat) := [(.iconst (-1), 1, 0)]
def r_1808_3 : List (Instr × Nat × Nat) := [(.putfield 80, 3, 117), (.aload_n 0, 1, 0), (.dup, 1, 0), (.getfield 19, 3, 115), (.iconst 1, 1, 0), (.iadd, 1, 0), (.putfield 19, 3, 115), (.goto (-77), 3, 0)]
def r_1808_4 : List (Instr × Nat × Nat) := [(.return_, 1, 0)]
def r_1817_0 : List (Instr × Nat × Nat) := [(.iconst 0, 1, 0), (.istore_n 2, 1, 0)]
def r_1817_1 : List (Instr × Nat × Nat) := [(.iload_n 2, 1, 0), (.bipush 6, 2, 0), (.if_icmp .ge 44, 3, 0), (.aload_n 0, 1, 0), (.iload_n 2, 1, 0), (.invokestatic 32, 3, 419), (.invokevirtual 36, 3, 428), (.ifCond .eq 27, 3, 0), (.aload_n 1, 1, 0), (.getfield 40, 3, 264), (.bipush 6, 2, 0), (.if_icmp .ge 16, 3, 0), (.aload_n 0, 1, 0), (.aload_n 1, 1, 0), (.iload_n 2, 1, 0), (.invokevirtual 45, 3, 480), (.ifCond .eq 7, 3, 0), (.iconst 1, 1, 0), (.goto 4, 3, 0)]
def r_1817_2 : List (Instr × Nat × Nat) := [(.iconst 0, 1, 0)]
def r_1817_3 : List (Instr × Nat × Nat) := [(.ireturn, 1, 0)]
def r_1817_4 : List (Instr × Nat × Nat) := [(.iinc 2 1, 3, 0), (.goto (-44), 3, 0)]
def r_1817_5 : List (Instr × Nat × Nat) := [(.aload_n 0, 1, 0), (.ldc 49, 2, 503), (.invokevirtual 36, 3, 428), (.ifCond .eq 9, 3, 0), (.aload_n 0, 1, 0), (.aload_n 1, 1, 0), (.invokevirtual 51, 3, 504), (.ireturn, 1, 0)]
def r_1817_6 : List (Instr × Nat × Nat) := [(.aload_n 0, 1, 0), (.ldc 54, 2, 525), (.invokevirtual 36, 3, 428), (.ifCond .eq 9, 3, 0), (.aload_n 0, 1, 0), (.aload_n 1, 1, 0), (.invokevirtual 56, 3, 526), (.ireturn, 1, 0)]
def r_1817_7 : List (Instr × Nat × Nat) := [(.aload_n 0, 1, 0), (.ldc 59, 2, 530), (.invokevirtual 36, 3, 428), (.ifCond .eq 9, 3, 0), (.aload_n 0, 1, 0), (.aload_n 1, 1, 0), (.invokevirtual 61, 3, 531), (.ireturn, 1, 0)]
def r_1817_8 : List (Instr × Nat × Nat) := [(.aload_n 0, 1, 0), (.ldc 64, 2, 535), (.invokevirtual 36, 3, 428), (.ifCond .eq 25, 3, 0), (.aload_n 0, 1, 0), (.aload_n 1, 1, 0), (.getfield 66, 3, 233), (.iconst 0, 1, 0), (.iconst 0, 1, 0), (.getstatic 69, 3, 536), (.iconst 0, 1, 0), (.iaload, 1, 0), (.invokevirtual 72, 3, 509), (.ifCond .eq 7, 3, 0), (.iconst 1, 1, 0), (.goto 4, 3, 0)]
def r_1817_9 : List (Instr × Nat × Nat) := [(.iconst 0, 1, 0)]
def r_1817_10 : List (Instr × Nat × Nat) := [(.ireturn, 1, 0)]
def r_1825_0 : List (Instr × Nat × Nat) := [(.iload_n 0, 1, 0), (.tableswitch 50 0 4 #[35, 38, 41, 44, 47], 35, 0)]
def r_1825_1 : List (Instr × Nat × Nat) := [(.ldc 144, 2, 422), (.areturn, 1, 0)]
def r_1825_2 : List (Instr × Nat × Nat) := [(.ldc 146, 2, 423), (.areturn, 1, 0)]
def r_1825_3 : List (Instr × Nat × Nat) := [(.ldc 148, 2, 424), (.areturn, 1, 0)]
def r_1825_4 : List (Instr × Nat × Nat) := [(.ldc 150, 2, 425), (.areturn, 1, 0)]
def r_1825_5 : List (Instr × Nat × Nat) := [(.ldc 152, 2, 426), (.areturn, 1, 0)]
def r_1825_6 : List (Instr × Nat × Nat) := [(.ldc 154, 2, 427), (.areturn, 1, 0)]
def r_1833_0 : List (Instr × Nat × Nat) := [(.aload_n 0, 1, 0), (.getfield 25, 3, 116), (.iconst 1, 1, 0), (.if_icmp .ne 19, 3, 0), (.aload_n 0, 1, 0), (.getfield 19, 3, 115), (.aload_n 0, 1, 0), (.getfield 119, 3, 114), (.isub, 1, 0), (.aload_n 1, 1, 0), (.invokevirtual 125, 3, 432), (.if_icmp .eq 5, 3, 0)]
def r_1833_1 : List (Instr × Nat × Nat) := [(.iconst 0, 1, 0), (.ireturn, 1, 0)]
def r_1833_2 : List (Instr × Nat × Nat) := [(.iconst 0, 1, 0), (.istore_n 2, 1, 0)]
def r_1833_3 : List (Instr × Nat × Nat) := [(.iload_n 2, 1, 0), (.aload_n 1, 1, 0), (.invokevirtual 125, 3, 432), (.if_icmp .ge 30, 3, 0), (.aload_n 0, 1, 0), (.getfield 9, 3, 110), (.aload_n 0, 1, 0), (.getfield 119, 3, 114), (.iload_n 2, 1, 0), (.iadd, 1, 0), (.iaload, 1, 0), (.aload_n 1, 1, 0), (.iload_n 2, 1, 0), (.invokevirtual 130, 3, 442), (.if_icmp .eq 5, 3, 0), (.iconst 0, 1, 0), (.ireturn, 1, 0)]
def r_1833_4 : List (Instr × Nat × Nat) := [(.iinc 2 1, 3, 0), (.goto (-32), 3, 0)]
def r_1833_5 : List (Instr × Nat × Nat) := [(.iconst 1, 1, 0), (.ireturn, 1, 0)]
def r_1842_0 : List (Instr × Nat × Nat) := [(.aload_n 0, 1, 0), (.iconst 0, 1, 0), (.bipush 9, 2, 0), (.invokevirtual 76, 3, 484), (.ifCond .ne 5, 3, 0), (.iconst 0, 1, 0), (.ireturn, 1, 0)]
def r_1842_1 : List (Instr × Nat × Nat) := [(.aload_n 0, 1, 0), (.getfield 80, 3, 117), (.istore_n 3, 1, 0), (.aload_n 0, 1, 0), (.ldc 83, 2, 489), (.invokevirtual 85, 3, 490), (.ifCond .eq 13, 3, 0), (.aload_n 0, 1, 0), (.iconst 0, 1, 0), (.bipush 7, 2, 0), (.invokevirtual 76, 3, 484), (.ifCond .ne 5, 3, 0)]
def r_1842_2 : List (Instr × Nat × Nat) := [(.iconst 0, 1, 0), (.ireturn, 1, 0)]
def r_1842_3 : List (Instr × Nat × Nat) := [(.aload_n 0, 1, 0), (.getfield 80, 3, 117), (.istore 4, 2, 0), (.aload_n 0, 1, 0), (.ldc 88, 2, 494), (.invokevirtual 85, 3, 490), (.ifCond .eq 13, 3, 0), (.aload_n 0, 1, 0), (.iconst 0, 1, 0), (.bipush 9, 2, 0), (.invokevirtual 76, 3, 484), (.ifCond .ne 5, 3, 0)]
def r_1842_4 : List (Instr × Nat × Nat) := [(.iconst 0, 1, 0), (.ireturn, 1, 0)]
def r_1842_5 : List (Instr × Nat × Nat) := [(.aload_n 0, 1, 0), (.getfield 80, 3, 117), (.istore 5, 2, 0), (.aload_n 0, 1, 0), (.invokevirtual 90, 3, 495), (.ifCond .ne 5, 3, 0), (.iconst 0, 1, 0), (.ireturn, 1, 0)]
def r_1842_6 : List (Instr × Nat × Nat) := [(.aload_n 1, 1, 0), (.iload_n 2, 1, 0), (.iload_n 3, 1, 0), (.iload 4, 2, 0), (.iload 5, 2, 0), (.invokevirtual 94, 3, 499), (.pop, 1, 0), (.iconst 1, 1, 0), (.ireturn, 1, 0)]
def r_1850_0 : List (Instr × Nat × Nat) := [(.aload_n 0, 1, 0), (.invokevirtual 22, 3, 401), (.aload_n 0, 1, 0), (.getfield 25, 3, 116), (.iconst 2, 1, 0), (.if_icmp .ne 19, 3, 0), (.aload_n 0, 1, 0), (.getfield 80, 3, 117), (.iload_n 1, 1, 0), (.iload_n 2, 1, 0), (.invokestatic 115, 3, 488), (.ifCond .ne 7, 3, 0), (.iconst 1, 1, 0), (.goto 4, 3, 0)]
def r_1850_1 : List (Instr × Nat × Nat) := [(.iconst 0, 1, 0)]
def r_1850_2 : List (Instr × Nat × Nat) := [(.ireturn, 1, 0)]
def r_1857_0 : List (Instr × Nat × Nat) := [(.aload_n 0, 1, 0), (.invokevirtual 22, 3, 401), (.aload_n 0, 1, 0), (.aload_n 1, 1, 0), (.invokevirtual 36, 3, 428), (.ireturn, 1, 0)]
def r_1864_0 : List (Instr × Nat × Nat) := [(.aload_n 0, 1, 0), (.invokevirtual 22, 3, 401), (.aload_n 0, 1, 0), (.getfield 25, 3, 116), (.iconst 3, 1, 0), (.if_icmp .ne 21, 3, 0), (.aload_n 0, 1, 0), (.getfield 9, 3, 110), (.aload_n 0, 1, 0), (.getfield 119, 3, 114), (.iaload, 1, 0), (.bipush 59, 2, 0), (.if_icmp .ne 7, 3, 0), (.iconst 1, 1, 0), (.goto 4, 3, 0)]
def r_1864_1 : List (Instr × Nat × Nat) := [(.iconst 0, 1, 0)]
def r_1864_2 : List (Instr × Nat × Nat) := [(.ireturn, 1, 0)]
def r_1873_0 : List (Instr × Nat × Nat) := [(.aload_n 0, 1, 0), (.iconst 0, 1, 0), (.bipush 7, 2, 0), (.invokevirtual 76, 3, 484), (.ifCond .ne 5, 3, 0), (.iconst 0, 1, 0), (.ireturn, 1, 0)]
def r_1873_1 : List (Instr × Nat × Nat) := [(.aload_n 0, 1, 0), (.getfield 80, 3, 117), (.istore_n 2, 1, 0), (.aload_n 0, 1, 0), (.invokevirtual 22, 3, 401), (.aload_n 0, 1, 0), (.ldc 98, 2, 508), (.invokevirtual 36, 3, 428), (.ifCond .eq 16, 3, 0), (.aload_n 0, 1, 0), (.aload_n 1, 1, 0), (.getfield 100, 3, 242), (.iload_n 2, 1, 0), (.iconst 0, 1, 0), (.bipush 9, 2, 0), (.invokevirtual 72, 3, 509), (.ireturn, 1, 0)]
def r_1873_2 : List (Instr × Nat × Nat) := [(.aload_n 0, 1, 0), (.invokevirtual 102, 3, 513), (.istore_n 3, 1, 0), (.iload_n 3, 1, 0), (.ifCond .lt 26, 3, 0), (.aload_n 0, 1, 0), (.aload_n 1, 1, 0), (.getfield 106, 3, 239), (.iload_n 2, 1, 0), (.iconst 5, 1, 0), (.imul, 1, 0), (.iload_n 3, 1, 0), (.iadd, 1, 0), (.iconst 0, 1, 0), (.bipush 99, 2, 0), (.invokevirtual 72, 3, 509), (.ifCond .eq 7, 3, 0), (.iconst 1, 1, 0), (.goto 4, 3, 0)]
def r_1873_3 : List (Instr × Nat × Nat) := [(.iconst 0, 1, 0)]
def r_1873_4 : List (Instr × Nat × Nat) := [(.ireturn, 1, 0)]
def r_1884_0 : List (Instr × Nat × Nat) := [(.aload_n 0, 1, 0), (.iload_n 3, 1, 0), (.iload 4, 2, 0), (.invokevirtual 76, 3, 484), (.ifCond .ne 5, 3, 0), (.iconst 0, 1, 0), (.ireturn, 1, 0)]
def r_1884_1 : List (Instr × Nat × Nat) := [(.aload_n 0, 1, 0), (.getfield 80, 3, 117), (.istore 5, 2, 0), (.aload_n 0, 1, 0), (.invokevirtual 90, 3, 495), (.ifCond .ne 5, 3, 0), (.iconst 0, 1, 0), (.ireturn, 1, 0)]
def r_1884_2 : List (Instr × Nat × Nat) := [(.aload_n 1, 1, 0), (.iload_n 2, 1, 0), (.iload 5, 2, 0), (.iastore, 1, 0), (.iconst 1, 1, 0), (.ireturn, 1, 0)]
def r_1888_0 : List (Instr × Nat × Nat) := [(.iconst 0, 1, 0), (.istore_n 1, 1, 0)]
def r_1888_1 : List (Instr × Nat × Nat) := [(.iload_n 1, 1, 0), (.iconst 5, 1, 0), (.if_icmp .ge 22, 3, 0), (.aload_n 0, 1, 0), (.iload_n 1, 1, 0), (.invokestatic 122, 3, 517), (.invokevirtual 36, 3, 428), (.ifCond .eq 5, 3, 0), (.iload_n 1, 1, 0), (.ireturn, 1, 0)]
def r_1888_2 : List (Instr × Nat × Nat) := [(.iinc 1 1, 3, 0), (.goto (-21), 3, 0)]
def r_1888_3 : List (Instr × Nat × Nat) := [(.bipush (-3), 2, 0), (.ireturn, 1, 0)]
def r_1897_0 : List (Instr × Nat × Nat) := [(.iload_n 0, 1, 0), (.tableswitch 43 0 3 #[31, 34, 37, 40], 31, 0)]
def r_1897_1 : List (Instr × Nat × Nat) := [(.ldc 156, 2, 520), (.areturn, 1, 0)]
def r_1897_2 : List (Instr × Nat × Nat) := [(.ldc 158, 2, 521), (.areturn, 1, 0)]
def r_1897_3 : List (Instr × Nat × Nat) := [(.ldc 160, 2, 522), (.areturn, 1, 0)]
def r_1897_4 : List (Instr × Nat × Nat) := [(.ldc 162, 2, 523), (.areturn, 1, 0)]
def r_1897_5 : List (Instr × Nat × Nat) := [(.ldc 164, 2, 524), (.areturn, 1, 0)]
def r_1905_0 : List (Instr × Nat × Nat) := [(.aload_n 0, 1, 0), (.invokevirtual 22, 3, 401), (.aload_n 0, 1, 0), (.invokevirtual 102, 3, 513), (.istore_n 2, 1, 0), (.iload_n 2, 1, 0), (.ifCond .lt 22, 3, 0), (.aload_n 0, 1, 0), (.aload_n 1, 1, 0), (.getfield 109, 3, 236), (.iload_n 2, 1, 0), (.iconst 1, 1, 0), (.bipush 30, 2, 0), (.invokevirtual 72, 3, 509), (.ifCond .eq 7, 3, 0), (.iconst 1, 1, 0), (.goto 4, 3, 0)]
def r_1905_1 : List (Instr × Nat × Nat) := [(.iconst 0, 1, 0)]
def r_1905_2 : List (Instr × Nat × Nat) := [(.ireturn, 1, 0)]
def r_1913_0 : List (Instr × Nat × Nat) := [(.aload_n 0, 1, 0), (.iconst 0, 1, 0), (.iconst 3, 1, 0), (.invokevirtual 76, 3, 484), (.ifCond .ne 5, 3, 0), (.iconst 0, 1, 0), (.ireturn, 1, 0)]
def r_1913_1 : List (Instr × Nat × Nat) := [(.aload_n 0, 1, 0), (.aload_n 1, 1, 0), (.getfield 112, 3, 247), (.aload_n 0, 1, 0), (.getfield 80, 3, 117), (.iconst 0, 1, 0), (.sipush 999, 3, 0), (.invokevirtual 72, 3, 509), (.ireturn, 1, 0)]
def r_1920_0 : List (Instr × Nat × Nat) := [(.aload_n 0, 1, 0), (.invokespecial 3, 3, 137), (.aload_n 0, 1, 0), (.bipush 30, 2, 0), (.newarray .int, 2, 131), (.putfield 9, 3, 138), (.return_, 1, 0)]
def r_1930_0 : List (Instr × Nat × Nat) := [(.aload_n 0, 1, 0), (.iload_n 1, 1, 0), (.putfield 15, 3, 142), (.aload_n 0, 1, 0), (.iload_n 2, 1, 0), (.putfield 19, 3, 147), (.aload_n 0, 1, 0), (.iconst 0, 1, 0), (.putfield 22, 3, 151), (.return_, 1, 0)]
def r_1937_0 : List (Instr × Nat × Nat) := [(.aload_n 0, 1, 0), (.getfield 22, 3, 151), (.ifCond .ne 32, 3, 0), (.aload_n 0, 1, 0), (.getfield 26, 3, 140), (.bipush 30, 2, 0), (.if_icmp .ge 23, 3, 0), (.aload_n 0, 1, 0), (.getfield 9, 3, 138), (.aload_n 0, 1, 0), (.getfield 26, 3, 140), (.iload_n 1, 1, 0), (.iastore, 1, 0), (.aload_n 0, 1, 0), (.dup, 1, 0), (.getfield 26, 3, 140), (.iconst 1, 1, 0), (.iadd, 1, 0), (.putfield 26, 3, 140)]
def r_1937_1 : List (Instr × Nat × Nat) := [(.return_, 1, 0)]
def r_1946_0 : List (Instr × Nat × Nat) := [(.aload_n 0, 1, 0), (.invokespecial 1, 3, 925), (.aload_n 0, 1, 0), (.iload_n 1, 1, 0), (.putfield 7, 3, 927), (.aload_n 0, 1, 0), (.iconst 0, 1, 0), (.iload_n 2, 1, 0), (.invokestatic 13, 3, 926), (.newarray .long, 2, 936), (.putfield 19, 3, 929), (.return_, 1, 0)]
def r_1953_0 : List (Instr × Nat × Nat) := [(.aload_n 0, 1, 0), (.getfield 7, 3, 927), (.ifCond .ne 7, 3, 0), (.iload_n 1, 1, 0), (.i2b, 1, 0), (.i2l, 1, 0), (.lreturn, 1, 0)]
def r_1953_1 : List (Instr × Nat × Nat) := [(.aload_n 0, 1, 0), (.getfield 7, 3, 927), (.iconst 1, 1, 0), (.if_icmp .ne 9, 3, 0), (.iload_n 1, 1, 0), (.i2s, 1, 0), (.i2l, 1, 0), (.goto 5, 3, 0)]
def r_1953_2 : List (Instr × Nat × Nat) := [(.iload_n 1, 1, 0), (.i2l, 1, 0)]
def r_1953_3 : List (Instr × Nat × Nat) := [(.lreturn, 1, 0)]
def r_1960_0 : List (Instr × Nat × Nat) := [(.aload_n 0, 1, 0), (.invokespecial 1, 3, 176), (.return_, 1, 0)]
def r_1971_0 : List (Instr × Nat × Nat) := [(.iload_n 1, 1, 0), (.iconst 4, 1, 0), (.idiv, 1, 0), (.ireturn, 1, 0)]
def r_1978_0 : List (Instr × Nat × Nat) := [(.iconst 1, 1, 0), (.ireturn, 1, 0)]
def r_1985_0 : List (Instr × Nat × Nat) := [(.iload_n 1, 1, 0), (.ifCond .ne 7, 3, 0), (.iconst 1, 1, 0), (.goto 4, 3, 0)]
def r_1985_1 : List (Instr × Nat × Nat) := [(.iconst 0, 1, 0)]
def r_1985_2 : List (Instr × Nat × Nat) := [(.ireturn, 1, 0)]
def r_1994_0 : List (Instr × Nat × Nat) := [(.aload_n 1, 1, 0), (.bipush 10, 2, 0), (.invokevirtual 7, 3, 1021), (.iload_n 2, 1, 0), (.aload_n 1, 1, 0), (.getfield 13, 3, 143), (.isub, 1, 0), (.ireturn, 1, 0)]
def r_2002_0 : List (Instr × Nat × Nat) := [(.aload_n 1, 1, 0), (.bipush 11, 2, 0), (.invokevirtual 7, 3, 1021), (.aload_n 0, 1, 0), (.aload_n 1, 1, 0), (.iload_n 2, 1, 0), (.invokevirtual 17, 3, 1042), (.iconst 3, 1, 0), (.imul, 1, 0), (.ireturn, 1, 0)]
def r_2010_0 : List (Instr × Nat × Nat) := [(.aload_n 1, 1, 0), (.bipush 12, 2, 0), (.invokevirtual 7, 3, 1021), (.aload_n 1, 1, 0), (.getfield 13, 3, 143), (.aload_n 1, 1, 0), (.getfield 23, 3, 150), (.isub, 1, 0), (.istore_n 3, 1, 0), (.iload_n 3, 1, 0), (.ifCond .ne 10, 3, 0), (.aload_n 1, 1, 0), (.iconst 1, 1, 0), (.putfield 26, 3, 152), (.iconst 0, 1, 0), (.ireturn, 1, 0)]
def r_2010_1 : List (Instr × Nat × Nat) := [(.iload_n 2, 1, 0), (.iload_n 3, 1, 0), (.idiv, 1, 0), (.ireturn, 1, 0)]
def r_2018_0 : List (Instr × Nat × Nat) := [(.aload_n 1, 1, 0), (.bipush 13, 2, 0), (.invokevirtual 7, 3, 1021), (.aload_n 0, 1, 0), (.aload_n 1, 1, 0), (.iload_n 2, 1, 0), (.invokevirtual 30, 3, 1085), (.aload_n 1, 1, 0), (.getfield 23, 3, 150), (.iadd, 1, 0), (.ireturn, 1, 0)]
def r_2024_0 : List (Instr × Nat × Nat) := [(.aload_n 0, 1, 0), (.invokespecial 1, 3, 184), (.return_, 1, 0)]
def r_2035_0 : List (Instr × Nat × Nat) := [(.aload_n 0, 1, 0), (.iload_n 1, 1, 0), (.iload_n 2, 1, 0), (.iload_n 3, 1, 0), (.invokespecial 11, 3, 661), (.iconst 2, 1, 0), (.imul, 1, 0), (.ireturn, 1, 0)]
def r_2042_0 : List (Instr × Nat × Nat) := [(.iconst 0, 1, 0), (.ireturn, 1, 0)]
def r_2049_0 : List (Instr × Nat × Nat) := [(.iload_n 1, 1, 0), (.iconst 1, 1, 0), (.if_icmp .eq 11, 3, 0), (.aload_n 0, 1, 0), (.iload_n 1, 1, 0), (.invokespecial 7, 3, 980), (.ifCond .eq 7, 3, 0)]
def r_2049_1 : List (Instr × Nat × Nat) := [(.iconst 1, 1, 0), (.goto 4, 3, 0)]
def r_2049_2 : List (Instr × Nat × Nat) := [(.iconst 0, 1, 0)]
def r_2049_3 : List (Instr × Nat × Nat) := [(.ireturn, 1, 0)]
def r_2058_0 : List (Instr × Nat × Nat) := [(.aload_n 1, 1, 0), (.bipush 20, 2, 0), (.invokevirtual 15, 3, 1038), (.aload_n 0, 1, 0), (.aload_n 1, 1, 0), (.iload_n 2, 1, 0), (.invokespecial 21, 3, 1039), (.aload_n 1, 1, 0), (.getfield 25, 3, 144), (.isub, 1, 0), (.ireturn, 1, 0)]
def r_2064_0 : List (Instr × Nat × Nat) := [(.aload_n 0, 1, 0), (.invokespecial 1, 3, 191), (.return_, 1, 0)]
def r_2075_0 : List (Instr × Nat × Nat) := [(.aload_n 0, 1, 0), (.iload_n 1, 1, 0), (.iload_n 2, 1, 0), (.iload_n 3, 1, 0), (.invokespecial 11, 3, 652), (.iload_n 3, 1, 0), (.iadd, 1, 0), (.ireturn, 1, 0)]
def r_2082_0 : List (Instr × Nat × Nat) := [(.aload_n 0, 1, 0), (.iload_n 1, 1, 0), (.iload_n 2, 1, 0), (.invokespecial 15, 3, 688), (.iconst 1, 1, 0), (.iadd, 1, 0), (.ireturn, 1, 0)]
def r_2089_0 : List (Instr × Nat × Nat) := [(.iload_n 1, 1, 0), (.iconst 2, 1, 0), (.if_icmp .eq 11, 3, 0), (.aload_n 0, 1, 0), (.iload_n 1, 1, 0), (.invokespecial 7, 3, 971), (.ifCond .eq 7, 3, 0)]
def r_2089_1 : List (Instr × Nat × Nat) := [(.iconst 1, 1, 0), (.goto 4, 3, 0)]
def r_2089_2 : List (Instr × Nat × Nat) := [(.iconst 0, 1, 0)]
def r_2089_3 : List (Instr × Nat × Nat) := [(.ireturn, 1, 0)]
def r_2098_0 : List (Instr × Nat × Nat) := [(.aload_n 1, 1, 0), (.bipush 30, 2, 0), (.invokevirtual 19, 3, 1008), (.aload_n 0, 1, 0), (.aload_n 1, 1, 0), (.iload_n 2, 1, 0), (.invokespecial 25, 3, 1009), (.aload_n 1, 1, 0), (.getfield 29, 3, 148), (.ixor, 1, 0), (.ireturn, 1, 0)]
def r_2106_0 : List (Instr × Nat × Nat) := [(.aload_n 1, 1, 0), (.bipush 31, 2, 0), (.invokevirtual 19, 3, 1008), (.aload_n 0, 1, 0), (.aload_n 1, 1, 0), (.iload_n 2, 1, 0), (.invokespecial 33, 3, 1072), (.aload_n 0, 1, 0), (.aload_n 1, 1, 0), (.aload_n 1, 1, 0), (.getfield 29, 3, 148), (.invokevirtual 36, 3, 1073), (.iadd, 1, 0), (.ireturn, 1, 0)]
def r_2112_0 : List (Instr × Nat × Nat) := [(.aload_n 0, 1, 0), (.invokespecial 3, 3, 198), (.return_, 1, 0)]
def r_2123_0 : List (Instr × Nat × Nat) := [(.iload_n 2, 1, 0), (.iconst 2, 1, 0), (.if_icmp .ne 7, 3, 0), (.iconst 0, 1, 0), (.goto 10, 3, 0)]
def r_2123_1 : List (Instr × Nat × Nat) := [(.aload_n 0, 1, 0), (.iload_n 1, 1, 0), (.iload_n 2, 1, 0), (.iload_n 3, 1, 0), (.invokespecial 13, 3, 665)]
def r_2123_2 : List (Instr × Nat × Nat) := [(.ireturn, 1, 0)]
def r_2130_0 : List (Instr × Nat × Nat) := [(.aload_n 0, 1, 0), (.iload_n 1, 1, 0), (.iload_n 2, 1, 0), (.invokespecial 17, 3, 699), (.iload_n 2, 1, 0), (.iconst 3, 1, 0), (.if_icmp .ge 7, 3, 0), (.iconst 1, 1, 0), (.goto 4, 3, 0)]
def r_2130_1 : List (Instr × Nat × Nat) := [(.iconst 0, 1, 0)]
def r_2130_2 : List (Instr × Nat × Nat) := [(.iadd, 1, 0), (.ireturn, 1, 0)]
def r_2137_0 : List (Instr × Nat × Nat) := [(.iload_n 1, 1, 0), (.iconst 3, 1, 0), (.if_icmp .eq 11, 3, 0), (.aload_n 0, 1, 0), (.iload_n 1, 1, 0), (.invokespecial 9, 3, 984), (.ifCond .eq 7, 3, 0)]
def r_2137_1 : List (Instr × Nat × Nat) := [(.iconst 1, 1, 0), (.goto 4, 3, 0)]
def r_2137_2 : List (Instr × Nat × Nat) := [(.iconst 0, 1, 0)]
def r_2137_3 : List (Instr × Nat × Nat) := [(.ireturn, 1, 0)]
def r_2146_0 : List (Instr × Nat × Nat) := [(.aload_n 1, 1, 0), (.bipush 51, 2, 0), (.invokevirtual 21, 3, 1016), (.aload_n 0, 1, 0), (.aload_n 1, 1, 0), (.iload_n 2, 1, 0), (.invokespecial 31, 3, 1017), (.aload_n 1, 1, 0), (.getfield 34, 3, 145), (.iadd, 1, 0), (.ireturn, 1, 0)]
def r_2154_0 : List (Instr × Nat × Nat) := [(.aload_n 1, 1, 0), (.bipush 50, 2, 0), (.invokevirtual 21, 3, 1016), (.aload_n 0, 1, 0), (.aload_n 1, 1, 0), (.iload_n 2, 1, 0), (.iconst 5, 1, 0), (.iadd, 1, 0), (.invokespecial 27, 3, 1061), (.iconst 2, 1, 0), (.imul, 1, 0), (.ireturn, 1, 0)]
def r_2160_0 : List (Instr × Nat × Nat) := [(.aload_n 0, 1, 0), (.invokespecial 1, 3, 205), (.return_, 1, 0)]
def r_2171_0 : List (Instr × Nat × Nat) := [(.aload_n 0, 1, 0), (.iload_n 1, 1, 0), (.iload_n 2, 1, 0), (.iload_n 3, 1, 0), (.invokespecial 11, 3, 649), (.iconst 2, 1, 0), (.imul, 1, 0), (.ireturn, 1, 0)]
def r_2178_0 : List (Instr × Nat × Nat) := [(.aload_n 0, 1, 0), (.iload_n 1, 1, 0), (.iload_n 2, 1, 0), (.invokespecial 15, 3, 685), (.iload_n 1, 1, 0), (.iadd, 1, 0), (.ireturn, 1, 0)]
def r_2185_0 : List (Instr × Nat × Nat) := [(.iload_n 1, 1, 0), (.iconst 4, 1, 0), (.if_icmp .eq 11, 3, 0), (.aload_n 0, 1, 0), (.iload_n 1, 1, 0), (.invokespecial 7, 3, 968), (.ifCond .eq 7, 3, 0)]
def r_2185_1 : List (Instr × Nat × Nat) := [(.iconst 1, 1, 0), (.goto 4, 3, 0)]
def r_2185_2 : List (Instr × Nat × Nat) := [(.iconst 0, 1, 0)]
def r_2185_3 : List (Instr × Nat × Nat) := [(.ireturn, 1, 0)]
def r_2194_0 : List (Instr × Nat × Nat) := [(.aload_n 1, 1, 0), (.bipush 40, 2, 0), (.invokevirtual 19, 3, 1001), (.aload_n 0, 1, 0), (.aload_n 1, 1, 0), (.iload_n 2, 1, 0), (.invokespecial 25, 3, 1005), (.iconst 2, 1, 0), (.imul, 1, 0), (.ireturn, 1, 0)]
def r_2202_0 : List (Instr × Nat × Nat) := [(.aload_n 1, 1, 0), (.bipush 41, 2, 0), (.invokevirtual 19, 3, 1001), (.aload_n 0, 1, 0), (.aload_n 1, 1, 0), (.iload_n 2, 1, 0), (.invokespecial 29, 3, 1029), (.aload_n 0, 1, 0), (.aload_n 1, 1, 0), (.aload_n 1, 1, 0), (.getfield 32, 3, 146), (.invokevirtual 36, 3, 1032), (.isub, 1, 0), (.ireturn, 1, 0)]
def r_2208_0 : List (Instr × Nat × Nat) := [(.aload_n 0, 1, 0), (.invokespecial 3, 3, 212), (.return_, 1, 0)]
def r_2219_0 : List (Instr × Nat × Nat) := [(.iload_n 2, 1, 0), (.iload_n 3, 1, 0), (.iconst 5, 1, 0), (.irem, 1, 0), (.if_icmp .ne 7, 3, 0), (.iload_n 1, 1, 0), (.goto 10, 3, 0)]
def r_2219_1 : List (Instr × Nat × Nat) := [(.aload_n 0, 1, 0), (.iload_n 1, 1, 0), (.iload_n 2, 1, 0), (.iload_n 3, 1, 0), (.invokespecial 13, 3, 657)]
def r_2219_2 : List (Instr × Nat × Nat) := [(.ireturn, 1, 0)]
def r_2226_0 : List (Instr × Nat × Nat) := [(.iconst 0, 1, 0), (.ireturn, 1, 0)]
def r_2233_0 : List (Instr × Nat × Nat) := [(.iload_n 1, 1, 0), (.iconst 5, 1, 0), (.if_icmp .eq 11, 3, 0), (.aload_n 0, 1, 0), (.iload_n 1, 1, 0), (.invokespecial 9, 3, 976), (.ifCond .eq 7, 3, 0)]
def r_2233_1 : List (Instr × Nat × Nat) := [(.iconst 1, 1, 0), (.goto 4, 3, 0)]
def r_2233_2 : List (Instr × Nat × Nat) := [(.iconst 0, 1, 0)]
def r_2233_3 : List (Instr × Nat × Nat) := [(.ireturn, 1, 0)]
def r_2242_0 : List (Instr × Nat × Nat) := [(.aload_n 1, 1, 0), (.bipush 61, 2, 0), (.invokevirtual 17, 3, 1052), (.aload_n 0, 1, 0), (.aload_n 1, 1, 0), (.iload_n 2, 1, 0), (.invokespecial 27, 3, 1053), (.aload_n 0, 1, 0), (.aload_n 1, 1, 0), (.aload_n 1, 1, 0), (.getfield 30, 3, 149), (.invokevirtual 34, 3, 1054), (.ixor, 1, 0), (.ireturn, 1, 0)]
def r_2250_0 : List (Instr × Nat × Nat) := [(.aload_n 1, 1, 0), (.bipush 60, 2, 0), (.invokevirtual 17, 3, 1052), (.bipush 7, 2, 0), (.aload_n 0, 1, 0), (.aload_n 1, 1, 0), (.iload_n 2, 1, 0), (.invokespecial 23, 3, 1081), (.isub, 1, 0), (.ireturn, 1, 0)]
def r_2257_0 : List (Instr × Nat × Nat) := [(.aload_n 0, 1, 0), (.invokespecial 3, 3, 314), (.aload_n 0, 1, 0), (.iconst 5, 1, 0), (.anewarray 9, 3, 315), (.putfield 11, 3, 318), (.aload_n 0, 1, 0), (.iconst 4, 1, 0), (.newarray .int, 2, 131), (.putfield 17, 3, 320), (.aload_n 0, 1, 0), (.iconst 4, 1, 0), (.newarray .int, 2, 131), (.putfield 21, 3, 322), (.iconst 0, 1, 0), (.istore_n 2, 1, 0)]
def r_2257_1 : List (Instr × Nat × Nat) := [(.iload_n 2, 1, 0), (.aload_n 0, 1, 0), (.getfield 11, 3, 318), (.arraylength, 1, 0), (.if_icmp .ge 23, 3, 0), (.aload_n 0, 1, 0), (.getfield 11, 3, 318), (.iload_n 2, 1, 0), (.new 9, 3, 315), (.dup, 1, 0), (.aload_n 1, 1, 0), (.invokespecial 24, 3, 317), (.aastore, 1, 0), (.iinc 2 1, 3, 0), (.goto (-26), 3, 0)]
def r_2257_2 : List (Instr × Nat × Nat) := [(.return_, 1, 0)]
def r_2265_0 : List (Instr × Nat × Nat) := [(.iload_n 1, 1, 0), (.aload_n 0, 1, 0), (.getfield 27, 3, 326), (.if_icmp .le 22, 3, 0), (.aload_n 0, 1, 0), (.iload_n 1, 1, 0), (.putfield 27, 3, 326), (.aload_n 0, 1, 0), (.getfield 17, 3, 320), (.iconst 0, 1, 0), (.aload_n 0, 1, 0), (.getfield 21, 3, 322), (.iconst 0, 1, 0), (.iconst 4, 1, 0), (.invokestatic 31, 3, 805)]
def r_2265_1 : List (Instr × Nat × Nat) := [(.return_, 1, 0)]
def r_2273_0 : List (Instr × Nat × Nat) := [(.iload_n 0, 1, 0), (.iload_n 0, 1, 0), (.iconst 1, 1, 0), (.iushr, 1, 0), (.ldc_w 265, 3, 853), (.iand, 1, 0), (.isub, 1, 0), (.istore_n 0, 1, 0), (.iload_n 0, 1, 0), (.ldc_w 266, 3, 854), (.iand, 1, 0), (.iload_n 0, 1, 0), (.iconst 2, 1, 0), (.iushr, 1, 0), (.ldc_w 266, 3, 854), (.iand, 1, 0), (.iadd, 1, 0), (.istore_n 0, 1, 0), (.iload_n 0, 1, 0), (.iload_n 0, 1, 0), (.iconst 4, 1, 0), (.iushr, 1, 0), (.iadd, 1, 0), (.ldc_w 267, 3, 855), (.iand, 1, 0), (.istore_n 0, 1, 0), (.iload_n 0, 1, 0), (.iload_n 0, 1, 0), (.bipush 8, 2, 0), (.iushr, 1, 0), (.iadd, 1, 0), (.istore_n 0, 1, 0), (.iload_n 0, 1, 0), (.iload_n 0, 1, 0), (.bipush 16, 2, 0), (.iushr, 1, 0), (.iadd, 1, 0), (.istore_n 0, 1, 0), (.iload_n 0, 1, 0), (.bipush 63, 2, 0), (.iand, 1, 0), (.ireturn, 1, 0)]
def r_2281_0 : List (Instr × Nat × Nat) := [(.new 7, 3, 96), (.dup, 1, 0), (.invokespecial 9, 3, 98), (.astore_n 1, 1, 0), (.new 10, 3, 1110), (.dup, 1, 0), (.invokespecial 12, 3, 1112), (.astore_n 2, 1, 0), (.iconst 0, 1, 0), (.istore_n 3, 1, 0)]
def r_2281_1 : List (Instr × Nat × Nat) := [(.iload_n 3, 1, 0), (.aload_n 0, 1, 0), (.arraylength, 1, 0), (.iconst 5, 1, 0), (.isub, 1, 0), (.if_icmp .gt 1870, 3, 0), (.aload_n 0, 1, 0), (.iload_n 3, 1, 0), (.iaload, 1, 0), (.bipush 63, 2, 0), (.iand, 1, 0), (.tableswitch 1855 0 50 #[220, 283, 296, 329, 352, 385, 418, 451, 484, 527, 580, 613, 656, 689, 722, 745, 778, 801, 824, 857, 880, 903, 926, 949, 962, 995, 1018, 1051, 1094, 1137, 1150, 1183, 1216, 1229, 1272, 1306, 1350, 1383, 1416, 1459, 1482, 1535, 1578, 1621, 1664, 1707, 1740, 1783, 1806, 1829, 1842], 220, 0)]
def r_2281_2 : List (Instr × Nat × Nat) := [(.aload_n 1, 1, 0), (.aload_n 0, 1, 0), (.iload_n 3, 1, 0), (.iconst 1, 1, 0), (.iadd, 1, 0), (.iaload, 1, 0), (.i2l, 1, 0), (.bipush 32, 2, 0), (.lshl, 1, 0), (.aload_n 0, 1, 0), (.iload_n 3, 1, 0), (.iconst 2, 1, 0), (.iadd, 1, 0), (.iaload, 1, 0), (.i2l, 1, 0), (.ldc2_w 13, 3, 1720), (.land, 1, 0), (.lor, 1, 0), (.aload_n 0, 1, 0), (.iload_n 3, 1, 0), (.iconst 3, 1, 0), (.iadd, 1, 0), (.iaload, 1, 0), (.invokevirtual 15, 3, 381), (.aload_n 2, 1, 0), (.aload_n 0, 1, 0), (.iload_n 3, 1, 0), (.iconst 1, 1, 0), (.iadd, 1, 0), (.iaload, 1, 0), (.i2l, 1, 0), (.bipush 32, 2, 0), (.lshl, 1, 0), (.aload_n 0, 1, 0), (.iload_n 3, 1, 0), (.iconst 2, 1, 0), (.iadd, 1, 0), (.iaload, 1, 0), (.i2l, 1, 0), (.ldc2_w 13, 3, 1720), (.land, 1, 0), (.lor, 1, 0), (.aload_n 0, 1, 0), (.iload_n 3, 1, 0), (.iconst 3, 1, 0), (.iadd, 1, 0), (.iaload, 1, 0), (.invokevirtual 19, 3, 1228), (.if_icmp .eq 1577, 3, 0), (.iconst 0, 1, 0), (.ireturn, 1, 0)]
def r_2281_3 : List (Instr × Nat × Nat) := [(.aload_n 1, 1, 0), (.invokevirtual 20, 3, 392), (.aload_n 2, 1, 0), (.invokevirtual 24, 3, 1236), (.if_icmp .eq 1564, 3, 0), (.iconst 0, 1, 0), (.ireturn, 1, 0)]
def r_2281_4 : List (Instr × Nat × Nat) := [(.aload_n 1, 1, 0), (.aload_n 0, 1, 0), (.iload_n 3, 1, 0), (.iconst 1, 1, 0), (.iadd, 1, 0), (.iaload, 1, 0), (.aload_n 0, 1, 0), (.iload_n 3, 1, 0), (.iconst 2, 1, 0), (.iadd, 1, 0), (.iaload, 1, 0), (.invokevirtual 25, 3, 543), (.aload_n 2, 1, 0), (.aload_n 0, 1, 0), (.iload_n 3, 1, 0), (.iconst 1, 1, 0), (.iadd, 1, 0), (.iaload, 1, 0), (.aload_n 0, 1, 0), (.iload_n 3, 1, 0), (.iconst 2, 1, 0), (.iadd, 1, 0), (.iaload, 1, 0), (.invokevirtual 29, 3, 1330), (.if_icmp .eq 1531, 3, 0), (.iconst 0, 1, 0), (.ireturn, 1, 0)]
def r_2281_5 : List (Instr × Nat × Nat) := [(.aload_n 1, 1, 0), (.aload_n 0, 1, 0), (.iload_n 3, 1, 0), (.iconst 1, 1, 0), (.iadd, 1, 0), (.iaload, 1, 0), (.invokevirtual 30, 3, 553), (.aload_n 2, 1, 0), (.aload_n 0, 1, 0), (.iload_n 3, 1, 0), (.iconst 1, 1, 0), (.iadd, 1, 0), (.iaload, 1, 0), (.invokevirtual 34, 3, 1338), (.if_icmp .eq 1508, 3, 0), (.iconst 0, 1, 0), (.ireturn, 1, 0)]
def r_2281_6 : List (Instr × Nat × Nat) := [(.aload_n 1, 1, 0), (.aload_n 0, 1, 0), (.iload_n 3, 1, 0), (.iconst 1, 1, 0), (.iadd, 1, 0), (.iaload, 1, 0), (.aload_n 0, 1, 0), (.iload_n 3, 1, 0), (.iconst 2, 1, 0), (.iadd, 1, 0), (.iaload, 1, 0), (.invokevirtual 35, 3, 557), (.aload_n 2, 1, 0), (.aload_n 0, 1, 0), (.iload_n 3, 1, 0), (.iconst 1, 1, 0), (.iadd, 1, 0), (.iaload, 1, 0), (.aload_n 0, 1, 0), (.iload_n 3, 1, 0), (.iconst 2, 1, 0), (.iadd, 1, 0), (.iaload, 1, 0), (.invokevirtual 38, 3, 1342), (.if_icmp .eq 1475, 3, 0), (.iconst 0, 1, 0), (.ireturn, 1, 0)]
def r_2281_7 : List (Instr × Nat × Nat) := [(.aload_n 1, 1, 0), (.aload_n 0, 1, 0), (.iload_n 3, 1, 0), (.iconst 1, 1, 0), (.iadd, 1, 0), (.iaload, 1, 0), (.aload_n 0, 1, 0), (.iload_n 3, 1, 0), (.iconst 2, 1, 0), (.iadd, 1, 0), (.iaload, 1, 0), (.invokevirtual 39, 3, 564), (.aload_n 2, 1, 0), (.aload_n 0, 1, 0), (.iload_n 3, 1, 0), (.iconst 1, 1, 0), (.iadd, 1, 0), (.iaload, 1, 0), (.aload_n 0, 1, 0), (.iload_n 3, 1, 0), (.iconst 2, 1, 0), (.iadd, 1, 0), (.iaload, 1, 0), (.invokevirtual 42, 3, 1349), (.if_icmp .eq 1442, 3, 0), (.iconst 0, 1, 0), (.ireturn, 1, 0)]
def r_2281_8 : List (Instr × Nat × Nat) := [(.aload_n 1, 1, 0), (.aload_n 0, 1, 0), (.iload_n 3, 1, 0), (.iconst 1, 1, 0), (.iadd, 1, 0), (.iaload, 1, 0), (.aload_n 0, 1, 0), (.iload_n 3, 1, 0), (.iconst 2, 1, 0), (.iadd, 1, 0), (.iaload, 1, 0), (.invokevirtual 43, 3, 571), (.aload_n 2, 1, 0), (.aload_n 0, 1, 0), (.iload_n 3, 1, 0), (.iconst 1, 1, 0), (.iadd, 1, 0), (.iaload, 1, 0), (.aload_n 0, 1, 0), (.iload_n 3, 1, 0), (.iconst 2, 1, 0), (.iadd, 1, 0), (.iaload, 1, 0), (.invokevirtual 46, 3, 1356), (.if_icmp .eq 1409, 3, 0), (.iconst 0, 1, 0), (.ireturn, 1, 0)]
def r_2281_9 : List (Instr × Nat × Nat) := [(.aload_n 1, 1, 0), (.aload_n 0, 1, 0), (.iload_n 3, 1, 0), (.iconst 1, 1, 0), (.iadd, 1, 0), (.iaload, 1, 0), (.aload_n 0, 1, 0), (.iload_n 3, 1, 0), (.iconst 2, 1, 0), (.iadd, 1, 0), (.iaload, 1, 0), (.invokevirtual 47, 3, 579), (.aload_n 2, 1, 0), (.aload_n 0, 1, 0), (.iload_n 3, 1, 0), (.iconst 1, 1, 0), (.iadd, 1, 0), (.iaload, 1, 0), (.aload_n 0, 1, 0), (.iload_n 3, 1, 0), (.iconst 2, 1, 0), (.iadd, 1, 0), (.iaload, 1, 0), (.invokevirtual 50, 3, 1364), (.if_icmp .eq 1376, 3, 0), (.iconst 0, 1, 0), (.ireturn, 1, 0)]
def r_2281_10 : List (Instr × Nat × Nat) := [(.aload_n 1, 1, 0), (.aload_n 0, 1, 0), (.iload_n 3, 1, 0), (.iconst 1, 1, 0), (.iadd, 1, 0), (.iaload, 1, 0), (.aload_n 0, 1, 0), (.iload_n 3, 1, 0), (.iconst 2, 1, 0), (.iadd, 1, 0), (.iaload, 1, 0), (.aload_n 0, 1, 0), (.iload_n 3, 1, 0), (.iconst 3, 1, 0), (.iadd, 1, 0), (.iaload, 1, 0), (.invokevirtual 51, 3, 590), (.aload_n 2, 1, 0), (.aload_n 0, 1, 0), (.iload_n 3, 1, 0), (.iconst 1, 1, 0), (.iadd, 1, 0), (.iaload, 1, 0), (.aload_n 0, 1, 0), (.iload_n 3, 1, 0), (.iconst 2, 1, 0), (.iadd, 1, 0), (.iaload, 1, 0), (.aload_n 0, 1, 0), (.iload_n 3, 1, 0), (.iconst 3, 1, 0), (.iadd, 1, 0), (.iaload, 1, 0), (.invokevirtual 55, 3, 1375), (.if_icmp .eq 1333, 3, 0), (.iconst 0, 1, 0), (.ireturn, 1, 0)]
def r_2281_11 : List (Instr × Nat × Nat) := [(.aload_n 1, 1, 0), (.aload_n 0, 1, 0), (.iload_n 3, 1, 0), (.iconst 1, 1, 0), (.iadd, 1, 0), (.iaload, 1, 0), (.aload_n 0, 1, 0), (.iload_n 3, 1, 0), (.iconst 2, 1, 0), (.iadd, 1, 0), (.iaload, 1, 0), (.aload_n 0, 1, 0), (.iload_n 3, 1, 0), (.iconst 3, 1, 0), (.iadd, 1, 0), (.iaload, 1, 0), (.aload_n 0, 1, 0), (.iload_n 3, 1, 0), (.iconst 4, 1, 0), (.iadd, 1, 0), (.iaload, 1, 0), (.invokevirtual 56, 3, 594), (.aload_n 2, 1, 0), (.aload_n 0, 1, 0), (.iload_n 3, 1, 0), (.iconst 1, 1, 0), (.iadd, 1, 0), (.iaload, 1, 0), (.aload_n 0, 1, 0), (.iload_n 3, 1, 0), (.iconst 2, 1, 0), (.iadd, 1, 0), (.iaload, 1, 0), (.aload_n 0, 1, 0), (.iload_n 3, 1, 0), (.iconst 3, 1, 0), (.iadd, 1, 0), (.iaload, 1, 0), (.aload_n 0, 1, 0), (.iload_n 3, 1, 0), (.iconst 4, 1, 0), (.iadd, 1, 0), (.iaload, 1, 0), (.invokevirtual 60, 3, 1379), (.if_icmp .eq 1280, 3, 0), (.iconst 0, 1, 0), (.ireturn, 1, 0)]
def r_2281_12 : List (Instr × Nat × Nat) := [(.aload_n 1, 1, 0), (.aload_n 0, 1, 0), (.iload_n 3, 1, 0), (.iconst 1, 1, 0), (.iadd, 1, 0), (.iaload, 1, 0), (.aload_n 0, 1, 0), (.iload_n 3, 1, 0), (.iconst 2, 1, 0), (.iadd, 1, 0), (.iaload, 1, 0), (.invokevirtual 61, 3, 602), (.aload_n 2, 1, 0), (.aload_n 0, 1, 0), (.iload_n 3, 1, 0), (.iconst 1, 1, 0), (.iadd, 1, 0), (.iaload, 1, 0), (.aload_n 0, 1, 0), (.iload_n 3, 1, 0), (.iconst 2, 1, 0), (.iadd, 1, 0), (.iaload, 1, 0), (.invokevirtual 64, 3, 1390), (.if_icmp .eq 1247, 3, 0), (.iconst 0, 1, 0), (.ireturn, 1, 0)]
def r_2281_13 : List (Instr × Nat × Nat) := [(.aload_n 1, 1, 0), (.aload_n 0, 1, 0), (.iload_n 3, 1, 0), (.iconst 1, 1, 0), (.iadd, 1, 0), (.iaload, 1, 0), (.aload_n 0, 1, 0), (.iload_n 3, 1, 0), (.iconst 2, 1, 0), (.iadd, 1, 0), (.iaload, 1, 0), (.aload_n 0, 1, 0), (.iload_n 3, 1, 0), (.iconst 3, 1, 0), (.iadd, 1, 0), (.iaload, 1, 0), (.invokevirtual 65, 3, 614), (.aload_n 2, 1, 0), (.aload_n 0, 1, 0), (.iload_n 3, 1, 0), (.iconst 1, 1, 0), (.iadd, 1, 0), (.iaload, 1, 0), (.aload_n 0, 1, 0), (.iload_n 3, 1, 0), (.iconst 2, 1, 0), (.iadd, 1, 0), (.iaload, 1, 0), (.aload_n 0, 1, 0), (.iload_n 3, 1, 0), (.iconst 3, 1, 0), (.iadd, 1, 0), (.iaload, 1, 0), (.invokevirtual 68, 3, 1406), (.if_icmp .eq 1204, 3, 0), (.iconst 0, 1, 0), (.ireturn, 1, 0)]
def r_2281_14 : List (Instr × Nat × Nat) := [(.aload_n 1, 1, 0), (.aload_n 0, 1, 0), (.iload_n 3, 1, 0), (.iconst 1, 1, 0), (.iadd, 1, 0), (.iaload, 1, 0), (.aload_n 0, 1, 0), (.iload_n 3, 1, 0), (.iconst 2, 1, 0), (.iadd, 1, 0), (.iaload, 1, 0), (.invokevirtual 69, 3, 618), (.aload_n 2, 1, 0), (.aload_n 0, 1, 0), (.iload_n 3, 1, 0), (.iconst 1, 1, 0), (.iadd, 1, 0), (.iaload, 1, 0), (.aload_n 0, 1, 0), (.iload_n 3, 1, 0), (.iconst 2, 1, 0), (.iadd, 1, 0), (.iaload, 1, 0), (.invokevirtual 72, 3, 1410), (.if_icmp .eq 1171, 3, 0), (.iconst 0, 1, 0), (.ireturn, 1, 0)]
def r_2281_15 : List (Instr × Nat × Nat) := [(.aload_n 1, 1, 0), (.aload_n 0, 1, 0), (.iload_n 3, 1, 0), (.iconst 1, 1, 0), (.iadd, 1, 0), (.iaload, 1, 0), (.aload_n 0, 1, 0), (.iload_n 3, 1, 0), (.iconst 2, 1, 0), (.iadd, 1, 0), (.iaload, 1, 0), (.invokevirtual 73, 3, 622), (.aload_n 2, 1, 0), (.aload_n 0, 1, 0), (.iload_n 3, 1, 0), (.iconst 1, 1, 0), (.iadd, 1, 0), (.iaload, 1, 0), (.aload_n 0, 1, 0), (.iload_n 3, 1, 0), (.iconst 2, 1, 0), (.iadd, 1, 0), (.iaload, 1, 0), (.invokevirtual 76, 3, 1414), (.if_icmp .eq 1138, 3, 0), (.iconst 0, 1, 0), (.ireturn, 1, 0)]
def r_2281_16 : List (Instr × Nat × Nat) := [(.aload_n 1, 1, 0), (.aload_n 0, 1, 0), (.iload_n 3, 1, 0), (.iconst 1, 1, 0), (.iadd, 1, 0), (.iaload, 1, 0), (.invokevirtual 77, 3, 626), (.aload_n 2, 1, 0), (.aload_n 0, 1, 0), (.iload_n 3, 1, 0), (.iconst 1, 1, 0), (.iadd, 1, 0), (.iaload, 1, 0), (.invokevirtual 80, 3, 1418), (.if_icmp .eq 1115, 3, 0), (.iconst 0, 1, 0), (.ireturn, 1, 0)]
def r_2281_17 : List (Instr × Nat × Nat) := [(.aload_n 1, 1, 0), (.aload_n 0, 1, 0), (.iload_n 3, 1, 0), (.iconst 1, 1, 0), (.iadd, 1, 0), (.iaload, 1, 0), (.aload_n 0, 1, 0), (.iload_n 3, 1, 0), (.iconst 2, 1, 0), (.iadd, 1, 0), (.iaload, 1, 0), (.invokevirtual 81, 3, 630), (.aload_n 2, 1, 0), (.aload_n 0, 1, 0), (.iload_n 3, 1, 0), (.iconst 1, 1, 0), (.iadd, 1, 0), (.iaload, 1, 0), (.aload_n 0, 1, 0), (.iload_n 3, 1, 0), (.iconst 2, 1, 0), (.iadd, 1, 0), (.iaload, 1, 0), (.invokevirtual 84, 3, 1422), (.if_icmp .eq 1082, 3, 0), (.iconst 0, 1, 0), (.ireturn, 1, 0)]
def r_2281_18 : List (Instr × Nat × Nat) := [(.aload_n 1, 1, 0), (.aload_n 0, 1, 0), (.iload_n 3, 1, 0), (.iconst 1, 1, 0), (.iadd, 1, 0), (.iaload, 1, 0), (.invokevirtual 85, 3, 670), (.aload_n 2, 1, 0), (.aload_n 0, 1, 0), (.iload_n 3, 1, 0), (.iconst 1, 1, 0), (.iadd, 1, 0), (.iaload, 1, 0), (.invokevirtual 88, 3, 1430), (.if_icmp .eq 1059, 3, 0), (.iconst 0, 1, 0), (.ireturn, 1, 0)]
def r_2281_19 : List (Instr × Nat × Nat) := [(.aload_n 1, 1, 0), (.aload_n 0, 1, 0), (.iload_n 3, 1, 0), (.iconst 1, 1, 0), (.iadd, 1, 0), (.iaload, 1, 0), (.invokevirtual 89, 3, 701), (.aload_n 2, 1, 0), (.aload_n 0, 1, 0), (.iload_n 3, 1, 0), (.iconst 1, 1, 0), (.iadd, 1, 0), (.iaload, 1, 0), (.invokevirtual 92, 3, 1438), (.if_icmp .eq 1036, 3, 0), (.iconst 0, 1, 0), (.ireturn, 1, 0)]
def r_2281_20 : List (Instr × Nat × Nat) := [(.aload_n 1, 1, 0), (.aload_n 0, 1, 0), (.iload_n 3, 1, 0), (.iconst 1, 1, 0), (.iadd, 1, 0), (.iaload, 1, 0), (.aload_n 0, 1, 0), (.iload_n 3, 1, 0), (.iconst 2, 1, 0), (.iadd, 1, 0), (.iaload, 1, 0), (.invokevirtual 93, 3, 718), (.aload_n 2, 1, 0), (.aload_n 0, 1, 0), (.iload_n 3, 1, 0), (.iconst 1, 1, 0), (.iadd, 1, 0), (.iaload, 1, 0), (.aload_n 0, 1, 0), (.iload_n 3, 1, 0), (.iconst 2, 1, 0), (.iadd, 1, 0), (.iaload, 1, 0), (.invokevirtual 96, 3, 1457), (.if_icmp .eq 1003, 3, 0), (.iconst 0, 1, 0), (.ireturn, 1, 0)]
def r_2281_21 : List (Instr × Nat × Nat) := [(.aload_n 1, 1, 0), (.aload_n 0, 1, 0), (.iload_n 3, 1, 0), (.iconst 1, 1, 0), (.iadd, 1, 0), (.iaload, 1, 0), (.invokevirtual 97, 3, 723), (.aload_n 2, 1, 0), (.aload_n 0, 1, 0), (.iload_n 3, 1, 0), (.iconst 1, 1, 0), (.iadd, 1, 0), (.iaload, 1, 0), (.invokevirtual 100, 3, 1461), (.if_icmp .eq 980, 3, 0), (.iconst 0, 1, 0), (.ireturn, 1, 0)]
def r_2281_22 : List (Instr × Nat × Nat) := [(.aload_n 1, 1, 0), (.aload_n 0, 1, 0), (.iload_n 3, 1, 0), (.iconst 1, 1, 0), (.iadd, 1, 0), (.iaload, 1, 0), (.invokevirtual 101, 3, 727), (.aload_n 2, 1, 0), (.aload_n 0, 1, 0), (.iload_n 3, 1, 0), (.iconst 1, 1, 0), (.iadd, 1, 0), (.iaload, 1, 0), (.invokevirtual 104, 3, 1465), (.if_icmp .eq 957, 3, 0), (.iconst 0, 1, 0), (.ireturn, 1, 0)]
def r_2281_23 : List (Instr × Nat × Nat) := [(.aload_n 1, 1, 0), (.aload_n 0, 1, 0), (.iload_n 3, 1, 0), (.iconst 1, 1, 0), (.iadd, 1, 0), (.iaload, 1, 0), (.invokevirtual 105, 3, 742), (.aload_n 2, 1, 0), (.aload_n 0, 1, 0), (.iload_n 3, 1, 0), (.iconst 1, 1, 0), (.iadd, 1, 0), (.iaload, 1, 0), (.invokevirtual 108, 3, 1473), (.if_icmp .eq 934, 3, 0), (.iconst 0, 1, 0), (.ireturn, 1, 0)]
def r_2281_24 : List (Instr × Nat × Nat) := [(.aload_n 1, 1, 0), (.aload_n 0, 1, 0), (.iload_n 3, 1, 0), (.iconst 1, 1, 0), (.iadd, 1, 0), (.iaload, 1, 0), (.invokevirtual 109, 3, 756), (.aload_n 2, 1, 0), (.aload_n 0, 1, 0), (.iload_n 3, 1, 0), (.iconst 1, 1, 0), (.iadd, 1, 0), (.iaload, 1, 0), (.invokevirtual 112, 3, 1486), (.if_icmp .eq 911, 3, 0), (.iconst 0, 1, 0), (.ireturn, 1, 0)]
def r_2281_25 : List (Instr × Nat × Nat) := [(.aload_n 1, 1, 0), (.invokevirtual 113, 3, 760), (.aload_n 2, 1, 0), (.invokevirtual 116, 3, 1490), (.if_icmp .eq 898, 3, 0), (.iconst 0, 1, 0), (.ireturn, 1, 0)]
def r_2281_26 : List (Instr × Nat × Nat) := [(.aload_n 1, 1, 0), (.aload_n 0, 1, 0), (.iload_n 3, 1, 0), (.iconst 1, 1, 0), (.iadd, 1, 0), (.iaload, 1, 0), (.aload_n 0, 1, 0), (.iload_n 3, 1, 0), (.iconst 2, 1, 0), (.iadd, 1, 0), (.iaload, 1, 0), (.invokevirtual 117, 3, 770), (.aload_n 2, 1, 0), (.aload_n 0, 1, 0), (.iload_n 3, 1, 0), (.iconst 1, 1, 0), (.iadd, 1, 0), (.iaload, 1, 0), (.aload_n 0, 1, 0), (.iload_n 3, 1, 0), (.iconst 2, 1, 0), (.iadd, 1, 0), (.iaload, 1, 0), (.invokevirtual 120, 3, 1498), (.if_icmp .eq 865, 3, 0), (.iconst 0, 1, 0), (.ireturn, 1, 0)]
def r_2281_27 : List (Instr × Nat × Nat) := [(.aload_n 1, 1, 0), (.aload_n 0, 1, 0), (.iload_n 3, 1, 0), (.iconst 1, 1, 0), (.iadd, 1, 0), (.iaload, 1, 0), (.invokevirtual 121, 3, 774), (.aload_n 2, 1, 0), (.aload_n 0, 1, 0), (.iload_n 3, 1, 0), (.iconst 1, 1, 0), (.iadd, 1, 0), (.iaload, 1, 0), (.invokevirtual 124, 3, 1502), (.if_icmp .eq 842, 3, 0), (.iconst 0, 1, 0), (.ireturn, 1, 0)]
def r_2281_28 : List (Instr × Nat × Nat) := [(.aload_n 1, 1, 0), (.aload_n 0, 1, 0), (.iload_n 3, 1, 0), (.iconst 1, 1, 0), (.iadd, 1, 0), (.iaload, 1, 0), (.aload_n 0, 1, 0), (.iload_n 3, 1, 0), (.iconst 2, 1, 0), (.iadd, 1, 0), (.iaload, 1, 0), (.invokevirtual 125, 3, 790), (.aload_n 2, 1, 0), (.aload_n 0, 1, 0), (.iload_n 3, 1, 0), (.iconst 1, 1, 0), (.iadd, 1, 0), (.iaload, 1, 0), (.aload_n 0, 1, 0), (.iload_n 3, 1, 0), (.iconst 2, 1, 0), (.iadd, 1, 0), (.iaload, 1, 0), (.invokevirtual 128, 3, 1518), (.if_icmp .eq 809, 3, 0), (.iconst 0, 1, 0), (.ireturn, 1, 0)]
def r_2281_29 : List (Instr × Nat × Nat) := [(.aload_n 1, 1, 0), (.aload_n 0, 1, 0), (.iload_n 3, 1, 0), (.iconst 1, 1, 0), (.iadd, 1, 0), (.iaload, 1, 0), (.aload_n 0, 1, 0), (.iload_n 3, 1, 0), (.iconst 2, 1, 0), (.iadd, 1, 0), (.iaload, 1, 0), (.aload_n 0, 1, 0), (.iload_n 3, 1, 0), (.iconst 3, 1, 0), (.iadd, 1, 0), (.iaload, 1, 0), (.invokevirtual 129, 3, 811), (.aload_n 2, 1, 0), (.aload_n 0, 1, 0), (.iload_n 3, 1, 0), (.iconst 1, 1, 0), (.iadd, 1, 0), (.iaload, 1, 0), (.aload_n 0, 1, 0), (.iload_n 3, 1, 0), (.iconst 2, 1, 0), (.iadd, 1, 0), (.iaload, 1, 0), (.aload_n 0, 1, 0), (.iload_n 3, 1, 0), (.iconst 3, 1, 0), (.iadd, 1, 0), (.iaload, 1, 0), (.invokevirtual 132, 3, 1532), (.if_icmp .eq 766, 3, 0), (.iconst 0, 1, 0), (.ireturn, 1, 0)]
def r_2281_30 : List (Instr × Nat × Nat) := [(.aload_n 1, 1, 0), (.aload_n 0, 1, 0), (.iload_n 3, 1, 0), (.iconst 1, 1, 0), (.iadd, 1, 0), (.iaload, 1, 0), (.aload_n 0, 1, 0), (.iload_n 3, 1, 0), (.iconst 2, 1, 0), (.iadd, 1, 0), (.iaload, 1, 0), (.aload_n 0, 1, 0), (.iload_n 3, 1, 0), (.iconst 3, 1, 0), (.iadd, 1, 0), (.iaload, 1, 0), (.invokevirtual 133, 3, 815), (.aload_n 2, 1, 0), (.aload_n 0, 1, 0), (.iload_n 3, 1, 0), (.iconst 1, 1, 0), (.iadd, 1, 0), (.iaload, 1, 0), (.aload_n 0, 1, 0), (.iload_n 3, 1, 0), (.iconst 2, 1, 0), (.iadd, 1, 0), (.iaload, 1, 0), (.aload_n 0, 1, 0), (.iload_n 3, 1, 0), (.iconst 3, 1, 0), (.iadd, 1, 0), (.iaload, 1, 0), (.invokevirtual 136, 3, 1536), (.if_icmp .eq 723, 3, 0), (.iconst 0, 1, 0), (.ireturn, 1, 0)]
def r_2281_31 : List (Instr × Nat × Nat) := [(.aload_n 1, 1, 0), (.invokevirtual 137, 3, 823), (.aload_n 2, 1, 0), (.invokevirtual 140, 3, 1540), (.if_icmp .eq 710, 3, 0), (.iconst 0, 1, 0), (.ireturn, 1, 0)]
def r_2281_32 : List (Instr × Nat × Nat) := [(.aload_n 1, 1, 0), (.aload_n 0, 1, 0), (.iload_n 3, 1, 0), (.iconst 1, 1, 0), (.iadd, 1, 0), (.iaload, 1, 0), (.aload_n 0, 1, 0), (.iload_n 3, 1, 0), (.iconst 2, 1, 0), (.iadd, 1, 0), (.iaload, 1, 0), (.invokevirtual 141, 3, 827), (.aload_n 2, 1, 0), (.aload_n 0, 1, 0), (.iload_n 3, 1, 0), (.iconst 1, 1, 0), (.iadd, 1, 0), (.iaload, 1, 0), (.aload_n 0, 1, 0), (.iload_n 3, 1, 0), (.iconst 2, 1, 0), (.iadd, 1, 0), (.iaload, 1, 0), (.invokevirtual 144, 3, 1544), (.if_icmp .eq 677, 3, 0), (.iconst 0, 1, 0), (.ireturn, 1, 0)]
def r_2281_33 : List (Instr × Nat × Nat) := [(.aload_n 1, 1, 0), (.aload_n 0, 1, 0), (.iload_n 3, 1, 0), (.iconst 1, 1, 0), (.iadd, 1, 0), (.iaload, 1, 0), (.aload_n 0, 1, 0), (.iload_n 3, 1, 0), (.iconst 2, 1, 0), (.iadd, 1, 0), (.iaload, 1, 0), (.invokevirtual 145, 3, 846), (.aload_n 2, 1, 0), (.aload_n 0, 1, 0), (.iload_n 3, 1, 0), (.iconst 1, 1, 0), (.iadd, 1, 0), (.iaload, 1, 0), (.aload_n 0, 1, 0), (.iload_n 3, 1, 0), (.iconst 2, 1, 0), (.iadd, 1, 0), (.iaload, 1, 0), (.invokevirtual 148, 3, 1551), (.if_icmp .eq 644, 3, 0), (.iconst 0, 1, 0), (.ireturn, 1, 0)]
def r_2281_34 : List (Instr × Nat × Nat) := [(.aload_n 1, 1, 0), (.invokevirtual 149, 3, 860), (.aload_n 2, 1, 0), (.invokevirtual 152, 3, 1558), (.if_icmp .eq 631, 3, 0), (.iconst 0, 1, 0), (.ireturn, 1, 0)]
def r_2281_35 : List (Instr × Nat × Nat) := [(.aload_n 1, 1, 0), (.aload_n 0, 1, 0), (.iload_n 3, 1, 0), (.iconst 1, 1, 0), (.iadd, 1, 0), (.iaload, 1, 0), (.aload_n 0, 1, 0), (.iload_n 3, 1, 0), (.iconst 2, 1, 0), (.iadd, 1, 0), (.iaload, 1, 0), (.aload_n 0, 1, 0), (.iload_n 3, 1, 0), (.iconst 3, 1, 0), (.iadd, 1, 0), (.iaload, 1, 0), (.invokevirtual 153, 3, 865), (.aload_n 2, 1, 0), (.aload_n 0, 1, 0), (.iload_n 3, 1, 0), (.iconst 1, 1, 0), (.iadd, 1, 0), (.iaload, 1, 0), (.aload_n 0, 1, 0), (.iload_n 3, 1, 0), (.iconst 2, 1, 0), (.iadd, 1, 0), (.iaload, 1, 0), (.aload_n 0, 1, 0), (.iload_n 3, 1, 0), (.iconst 3, 1, 0), (.iadd, 1, 0), (.iaload, 1, 0), (.invokevirtual 156, 3, 1563), (.if_icmp .eq 588, 3, 0), (.iconst 0, 1, 0), (.ireturn, 1, 0)]
def r_2281_36 : List (Instr × Nat × Nat) := [(.aload_n 1, 1, 0), (.aload_n 0, 1, 0), (.iload_n 3, 1, 0), (.iconst 1, 1, 0), (.iadd, 1, 0), (.iaload, 1, 0), (.aload_n 0, 1, 0), (.iload_n 3, 1, 0), (.iconst 2, 1, 0), (.iadd, 1, 0), (.iaload, 1, 0), (.invokevirtual 157, 3, 869), (.aload_n 2, 1, 0), (.aload_n 0, 1, 0), (.iload_n 3, 1, 0), (.iconst 1, 1, 0), (.iadd, 1, 0), (.iaload, 1, 0), (.aload_n 0, 1, 0), (.iload_n 3, 1, 0), (.iconst 2, 1, 0), (.iadd, 1, 0), (.iaload, 1, 0), (.invokevirtual 161, 3, 1567), (.lcmp, 1, 0), (.ifCond .eq 554, 3, 0), (.iconst 0, 1, 0), (.ireturn, 1, 0)]
def r_2281_37 : List (Instr × Nat × Nat) := [(.aload_n 1, 1, 0), (.aload_n 0, 1, 0), (.iload_n 3, 1, 0), (.iconst 1, 1, 0), (.iadd, 1, 0), (.iaload, 1, 0), (.aload_n 0, 1, 0), (.iload_n 3, 1, 0), (.iconst 2, 1, 0), (.iadd, 1, 0), (.iaload, 1, 0), (.aload_n 0, 1, 0), (.iload_n 3, 1, 0), (.iconst 3, 1, 0), (.iadd, 1, 0), (.iaload, 1, 0), (.invokevirtual 162, 3, 881), (.aload_n 2, 1, 0), (.aload_n 0, 1, 0), (.iload_n 3, 1, 0), (.iconst 1, 1, 0), (.iadd, 1, 0), (.iaload, 1, 0), (.aload_n 0, 1, 0), (.iload_n 3, 1, 0), (.iconst 2, 1, 0), (.iadd, 1, 0), (.iaload, 1, 0), (.aload_n 0, 1, 0), (.iload_n 3, 1, 0), (.iconst 3, 1, 0), (.iadd, 1, 0), (.iaload, 1, 0), (.invokevirtual 166, 3, 1577), (.lcmp, 1, 0), (.ifCond .eq 510, 3, 0), (.iconst 0, 1, 0), (.ireturn, 1, 0)]
def r_2281_38 : List (Instr × Nat × Nat) := [(.aload_n 1, 1, 0), (.aload_n 0, 1, 0), (.iload_n 3, 1, 0), (.iconst 1, 1, 0), (.iadd, 1, 0), (.iaload, 1, 0), (.aload_n 0, 1, 0), (.iload_n 3, 1, 0), (.iconst 2, 1, 0), (.iadd, 1, 0), (.iaload, 1, 0), (.invokevirtual 167, 3, 885), (.aload_n 2, 1, 0), (.aload_n 0, 1, 0), (.iload_n 3, 1, 0), (.iconst 1, 1, 0), (.iadd, 1, 0), (.iaload, 1, 0), (.aload_n 0, 1, 0), (.iload_n 3, 1, 0), (.iconst 2, 1, 0), (.iadd, 1, 0), (.iaload, 1, 0), (.invokevirtual 170, 3, 1585), (.if_icmp .eq 477, 3, 0), (.iconst 0, 1, 0), (.ireturn, 1, 0)]
def r_2281_39 : List (Instr × Nat × Nat) := [(.aload_n 1, 1, 0), (.aload_n 0, 1, 0), (.iload_n 3, 1, 0), (.iconst 1, 1, 0), (.iadd, 1, 0), (.iaload, 1, 0), (.aload_n 0, 1, 0), (.iload_n 3, 1, 0), (.iconst 2, 1, 0), (.iadd, 1, 0), (.iaload, 1, 0), (.invokevirtual 171, 3, 897), (.aload_n 2, 1, 0), (.aload_n 0, 1, 0), (.iload_n 3, 1, 0), (.iconst 1, 1, 0), (.iadd, 1, 0), (.iaload, 1, 0), (.aload_n 0, 1, 0), (.iload_n 3, 1, 0), (.iconst 2, 1, 0), (.iadd, 1, 0), (.iaload, 1, 0), (.invokevirtual 174, 3, 1593), (.if_icmp .eq 444, 3, 0), (.iconst 0, 1, 0), (.ireturn, 1, 0)]
def r_2281_40 : List (Instr × Nat × Nat) := [(.aload_n 1, 1, 0), (.aload_n 0, 1, 0), (.iload_n 3, 1, 0), (.iconst 1, 1, 0), (.iadd, 1, 0), (.iaload, 1, 0), (.aload_n 0, 1, 0), (.iload_n 3, 1, 0), (.iconst 2, 1, 0), (.iadd, 1, 0), (.iaload, 1, 0), (.aload_n 0, 1, 0), (.iload_n 3, 1, 0), (.iconst 3, 1, 0), (.iadd, 1, 0), (.iaload, 1, 0), (.invokevirtual 175, 3, 905), (.aload_n 2, 1, 0), (.aload_n 0, 1, 0), (.iload_n 3, 1, 0), (.iconst 1, 1, 0), (.iadd, 1, 0), (.iaload, 1, 0), (.aload_n 0, 1, 0), (.iload_n 3, 1, 0), (.iconst 2, 1, 0), (.iadd, 1, 0), (.iaload, 1, 0), (.aload_n 0, 1, 0), (.iload_n 3, 1, 0), (.iconst 3, 1, 0), (.iadd, 1, 0), (.iaload, 1, 0), (.invokevirtual 178, 3, 1601), (.if_icmp .eq 401, 3, 0), (.iconst 0, 1, 0), (.ireturn, 1, 0)]
def r_2281_41 : List (Instr × Nat × Nat) := [(.aload_n 1, 1, 0), (.aload_n 0, 1, 0), (.iload_n 3, 1, 0), (.iconst 1, 1, 0), (.iadd, 1, 0), (.iaload, 1, 0), (.invokevirtual 179, 3, 909), (.aload_n 2, 1, 0), (.aload_n 0, 1, 0), (.iload_n 3, 1, 0), (.iconst 1, 1, 0), (.iadd, 1, 0), (.iaload, 1, 0), (.invokevirtual 182, 3, 1605), (.if_icmp .eq 378, 3, 0), (.iconst 0, 1, 0), (.ireturn, 1, 0)]
def r_2281_42 : List (Instr × Nat × Nat) := [(.aload_n 1, 1, 0), (.aload_n 0, 1, 0), (.iload_n 3, 1, 0), (.iconst 1, 1, 0), (.iadd, 1, 0), (.iaload, 1, 0), (.aload_n 0, 1, 0), (.iload_n 3, 1, 0), (.iconst 2, 1, 0), (.iadd, 1, 0), (.iaload, 1, 0), (.aload_n 0, 1, 0), (.iload_n 3, 1, 0), (.iconst 3, 1, 0), (.iadd, 1, 0), (.iaload, 1, 0), (.aload_n 0, 1, 0), (.iload_n 3, 1, 0), (.iconst 4, 1, 0), (.iadd, 1, 0), (.iaload, 1, 0), (.invokevirtual 183, 3, 913), (.aload_n 2, 1, 0), (.aload_n 0, 1, 0), (.iload_n 3, 1, 0), (.iconst 1, 1, 0), (.iadd, 1, 0), (.iaload, 1, 0), (.aload_n 0, 1, 0), (.iload_n 3, 1, 0), (.iconst 2, 1, 0), (.iadd, 1, 0), (.iaload, 1, 0), (.aload_n 0, 1, 0), (.iload_n 3, 1, 0), (.iconst 3, 1, 0), (.iadd, 1, 0), (.iaload, 1, 0), (.aload_n 0, 1, 0), (.iload_n 3, 1, 0), (.iconst 4, 1, 0), (.iadd, 1, 0), (.iaload, 1, 0), (.invokevirtual 186, 3, 1609), (.if_icmp .eq 325, 3, 0), (.iconst 0, 1, 0), (.ireturn, 1, 0)]
def r_2281_43 : List (Instr × Nat × Nat) := [(.aload_n 1, 1, 0), (.aload_n 0, 1, 0), (.iload_n 3, 1, 0), (.iconst 1, 1, 0), (.iadd, 1, 0), (.iaload, 1, 0), (.aload_n 0, 1, 0), (.iload_n 3, 1, 0), (.iconst 2, 1, 0), (.iadd, 1, 0), (.iaload, 1, 0), (.aload_n 0, 1, 0), (.iload_n 3, 1, 0), (.iconst 3, 1, 0), (.iadd, 1, 0), (.iaload, 1, 0), (.invokevirtual 187, 3, 917), (.aload_n 2, 1, 0), (.aload_n 0, 1, 0), (.iload_n 3, 1, 0), (.iconst 1, 1, 0), (.iadd, 1, 0), (.iaload, 1, 0), (.aload_n 0, 1, 0), (.iload_n 3, 1, 0), (.iconst 2, 1, 0), (.iadd, 1, 0), (.iaload, 1, 0), (.aload_n 0, 1, 0), (.iload_n 3, 1, 0), (.iconst 3, 1, 0), (.iadd, 1, 0), (.iaload, 1, 0), (.invokevirtual 190, 3, 1617), (.if_icmp .eq 282, 3, 0), (.iconst 0, 1, 0), (.ireturn, 1, 0)]
def r_2281_44 : List (Instr × Nat × Nat) := [(.aload_n 1, 1, 0), (.aload_n 0, 1, 0), (.iload_n 3, 1, 0), (.iconst 1, 1, 0), (.iadd, 1, 0), (.iaload, 1, 0), (.aload_n 0, 1, 0), (.iload_n 3, 1, 0), (.iconst 2, 1, 0), (.iadd, 1, 0), (.iaload, 1, 0), (.aload_n 0, 1, 0), (.iload_n 3, 1, 0), (.iconst 3, 1, 0), (.iadd, 1, 0), (.iaload, 1, 0), (.invokevirtual 191, 3, 937), (.aload_n 2, 1, 0), (.aload_n 0, 1, 0), (.iload_n 3, 1, 0), (.iconst 1, 1, 0), (.iadd, 1, 0), (.iaload, 1, 0), (.aload_n 0, 1, 0), (.iload_n 3, 1, 0), (.iconst 2, 1, 0), (.iadd, 1, 0), (.iaload, 1, 0), (.aload_n 0, 1, 0), (.iload_n 3, 1, 0), (.iconst 3, 1, 0), (.iadd, 1, 0), (.iaload, 1, 0), (.invokevirtual 194, 3, 1621), (.if_icmp .eq 239, 3, 0), (.iconst 0, 1, 0), (.ireturn, 1, 0)]
def r_2281_45 : List (Instr × Nat × Nat) := [(.aload_n 1, 1, 0), (.aload_n 0, 1, 0), (.iload_n 3, 1, 0), (.iconst 1, 1, 0), (.iadd, 1, 0), (.iaload, 1, 0), (.aload_n 0, 1, 0), (.iload_n 3, 1, 0), (.iconst 2, 1, 0), (.iadd, 1, 0), (.iaload, 1, 0), (.aload_n 0, 1, 0), (.iload_n 3, 1, 0), (.iconst 3, 1, 0), (.iadd, 1, 0), (.iaload, 1, 0), (.invokevirtual 195, 3, 945), (.aload_n 2, 1, 0), (.aload_n 0, 1, 0), (.iload_n 3, 1, 0), (.iconst 1, 1, 0), (.iadd, 1, 0), (.iaload, 1, 0), (.aload_n 0, 1, 0), (.iload_n 3, 1, 0), (.iconst 2, 1, 0), (.iadd, 1, 0), (.iaload, 1, 0), (.aload_n 0, 1, 0), (.iload_n 3, 1, 0), (.iconst 3, 1, 0), (.iadd, 1, 0), (.iaload, 1, 0), (.invokevirtual 198, 3, 1625), (.if_icmp .eq 196, 3, 0), (.iconst 0, 1, 0), (.ireturn, 1, 0)]
def r_2281_46 : List (Instr × Nat × Nat) := [(.aload_n 1, 1, 0), (.aload_n 0, 1, 0), (.iload_n 3, 1, 0), (.iconst 1, 1, 0), (.iadd, 1, 0), (.iaload, 1, 0), (.aload_n 0, 1, 0), (.iload_n 3, 1, 0), (.iconst 2, 1, 0), (.iadd, 1, 0), (.iaload, 1, 0), (.aload_n 0, 1, 0), (.iload_n 3, 1, 0), (.iconst 3, 1, 0), (.iadd, 1, 0), (.iaload, 1, 0), (.invokevirtual 199, 3, 949), (.aload_n 2, 1, 0), (.aload_n 0, 1, 0), (.iload_n 3, 1, 0), (.iconst 1, 1, 0), (.iadd, 1, 0), (.iaload, 1, 0), (.aload_n 0, 1, 0), (.iload_n 3, 1, 0), (.iconst 2, 1, 0), (.iadd, 1, 0), (.iaload, 1, 0), (.aload_n 0, 1, 0), (.iload_n 3, 1, 0), (.iconst 3, 1, 0), (.iadd, 1, 0), (.iaload, 1, 0), (.invokevirtual 202, 3, 1629), (.if_icmp .eq 153, 3, 0), (.iconst 0, 1, 0), (.ireturn, 1, 0)]
def r_2281_47 : List (Instr × Nat × Nat) := [(.aload_n 1, 1, 0), (.aload_n 0, 1, 0), (.iload_n 3, 1, 0), (.iconst 1, 1, 0), (.iadd, 1, 0), (.iaload, 1, 0), (.aload_n 0, 1, 0), (.iload_n 3, 1, 0), (.iconst 2, 1, 0), (.iadd, 1, 0), (.iaload, 1, 0), (.invokevirtual 203, 3, 956), (.aload_n 2, 1, 0), (.aload_n 0, 1, 0), (.iload_n 3, 1, 0), (.iconst 1, 1, 0), (.iadd, 1, 0), (.iaload, 1, 0), (.aload_n 0, 1, 0), (.iload_n 3, 1, 0), (.iconst 2, 1, 0), (.iadd, 1, 0), (.iaload, 1, 0), (.invokevirtual 206, 3, 1637), (.if_icmp .eq 120, 3, 0), (.iconst 0, 1, 0), (.ireturn, 1, 0)]
def r_2281_48 : List (Instr × Nat × Nat) := [(.aload_n 1, 1, 0), (.aload_n 0, 1, 0), (.iload_n 3, 1, 0), (.iconst 1, 1, 0), (.iadd, 1, 0), (.iaload, 1, 0), (.aload_n 0, 1, 0), (.iload_n 3, 1, 0), (.iconst 2, 1, 0), (.iadd, 1, 0), (.iaload, 1, 0), (.aload_n 0, 1, 0), (.iload_n 3, 1, 0), (.iconst 3, 1, 0), (.iadd, 1, 0), (.iaload, 1, 0), (.invokevirtual 207, 3, 986), (.aload_n 2, 1, 0), (.aload_n 0, 1, 0), (.iload_n 3, 1, 0), (.iconst 1, 1, 0), (.iadd, 1, 0), (.iaload, 1, 0), (.aload_n 0, 1, 0), (.iload_n 3, 1, 0), (.iconst 2, 1, 0), (.iadd, 1, 0), (.iaload, 1, 0), (.aload_n 0, 1, 0), (.iload_n 3, 1, 0), (.iconst 3, 1, 0), (.iadd, 1, 0), (.iaload, 1, 0), (.invokevirtual 210, 3, 1648), (.if_icmp .eq 77, 3, 0), (.iconst 0, 1, 0), (.ireturn, 1, 0)]
def r_2281_49 : List (Instr × Nat × Nat) := [(.aload_n 1, 1, 0), (.aload_n 0, 1, 0), (.iload_n 3, 1, 0), (.iconst 1, 1, 0), (.iadd, 1, 0), (.iaload, 1, 0), (.invokevirtual 211, 3, 1086), (.aload_n 2, 1, 0), (.aload_n 0, 1, 0), (.iload_n 3, 1, 0), (.iconst 1, 1, 0), (.iadd, 1, 0), (.iaload, 1, 0), (.invokevirtual 214, 3, 1692), (.if_icmp .eq 54, 3, 0), (.iconst 0, 1, 0), (.ireturn, 1, 0)]
def r_2281_50 : List (Instr × Nat × Nat) := [(.aload_n 1, 1, 0), (.aload_n 0, 1, 0), (.iload_n 3, 1, 0), (.iconst 1, 1, 0), (.iadd, 1, 0), (.iaload, 1, 0), (.invokevirtual 215, 3, 1090), (.aload_n 2, 1, 0), (.aload_n 0, 1, 0), (.iload_n 3, 1, 0), (.iconst 1, 1, 0), (.iadd, 1, 0), (.iaload, 1, 0), (.invokevirtual 218, 3, 1696), (.if_icmp .eq 31, 3, 0), (.iconst 0, 1, 0), (.ireturn, 1, 0)]
def r_2281_51 : List (Instr × Nat × Nat) := [(.aload_n 1, 1, 0), (.invokevirtual 219, 3, 1102), (.aload_n 2, 1, 0), (.invokevirtual 222, 3, 1712), (.if_icmp .eq 18, 3, 0), (.iconst 0, 1, 0), (.ireturn, 1, 0)]
def r_2281_52 : List (Instr × Nat × Nat) := [(.aload_n 1, 1, 0), (.invokevirtual 223, 3, 1106), (.aload_n 2, 1, 0), (.invokevirtual 226, 3, 1716), (.if_icmp .eq 5, 3, 0), (.iconst 0, 1, 0), (.ireturn, 1, 0)]
def r_2281_53 : List (Instr × Nat × Nat) := [(.iinc 3 5, 3, 0), (.goto (-1872), 3, 0)]
def r_2281_54 : List (Instr × Nat × Nat) := [(.iconst 1, 1, 0), (.ireturn, 1, 0)]
def rb_0 (b : Nat) : List (Instr × Nat × Nat) := (bif Nat.blt b 1 then r_0_0 else (bif Nat.blt b 2 then r_0_1 else r_0_2))
def pb_0 (b : Nat) : Nat := (bif Nat.blt b 1 then 0 else (bif Nat.blt b 2 then 119 else 137))
def rb_8 (b : Nat) : List (Instr × Nat × Nat) := r_8_0
def pb_8 (b : Nat) : Nat := 0
def rb_18 (b : Nat) : List (Instr × Nat × Nat) := (bif Nat.blt b 2 then (bif Nat.blt b 1 then r_18_0 else r_18_1) else (bif Nat.blt b 3 then r_18_2 else (bif Nat.blt b 4 then r_18_3 else r_18_4)))
def pb_18 (b : Nat) : Nat := (bif Nat.blt b 2 then (bif Nat.blt b 1 then 0 else 12) else (bif Nat.blt b 3 then 30 else (bif Nat.blt b 4 then 33 else 64)))
def rb_27 (b : Nat) : List (Instr × Nat × Nat) := (bif Nat.blt b 2 then (bif Nat.blt b 1 then r_27_0 else r_27_1) else (bif Nat.blt b 3 then r_27_2 else r_27_3))
def pb_27 (b : Nat) : Nat := (bif Nat.blt b 2 then (bif Nat.blt b 1 then 0 else 10) else (bif Nat.blt b 3 then 14 else 15))
def rb_32 (b : Nat) : List (Instr × Nat × Nat) := (bif Nat.blt b 1 then r_32_0 else r_32_1)
def pb_32 (b : Nat) : Nat := (bif Nat.blt b 1 then 0 else 56)
def rb_42 (b : Nat) : List (Instr × Nat × Nat) := (bif Nat.blt b 1 then r_42_0 else (bif Nat.blt b 2 then r_42_1 else r_42_2))
def pb_42 (b : Nat) : Nat := (bif Nat.blt b 1 then 0 else (bif Nat.blt b 2 then 26 else 28))
def rb_51 (b : Nat) : List (Instr × Nat × Nat) := r_51_0
def pb_51 (b : Nat) : Nat := 0
def rb_57 (b : Nat) : List (Instr × Nat × Nat) := (bif Nat.blt b 1 then r_57_0 else (bif Nat.blt b 2 then r_57_1 else r_57_2))
def pb_57 (b : Nat) : Nat := (bif Nat.blt b 1 then 0 else (bif Nat.blt b 2 then 13 else 22))
def rb_66 (b : Nat) : List (Instr × Nat × Nat) := (bif Nat.blt b 1 then r_66_0 else (bif Nat.blt b 2 then r_66_1 else r_66_2))
def pb_66 (b : Nat) : Nat := (bif Nat.blt b 1 then 0 else (bif Nat.blt b 2 then 17 else 19))
def rb_73 (b : Nat) : List (Instr × Nat × Nat) := r_73_0
def pb_73 (b : Nat) : Nat := 0
def rb_82 (b : Nat) : List (Instr × Nat × Nat) := (bif Nat.blt b 1 then r_82_0 else (bif Nat.blt b 2 then r_82_1 else r_82_2))
def pb_82 (b : Nat) : Nat := (bif Nat.blt b 1 then 0 else (bif Nat.blt b 2 then 18 else 20))
def rb_89 (b : Nat) : List (Instr × Nat × Nat) := r_89_0
def pb_89 (b : Nat) : Nat := 0
def rb_98 (b : Nat) : List (Instr × Nat × Nat) := (bif Nat.blt b 3 then (bif Nat.blt b 1 then r_98_0 else (bif Nat.blt b 2 then r_98_1 else r_98_2)) else (bif Nat.blt b 4 then r_98_3 else (bif Nat.blt b 5 then r_98_4 else r_98_5)))
def pb_98 (b : Nat) : Nat := (bif Nat.blt b 3 then (bif Nat.blt b 1 then 0 else (bif Nat.blt b 2 then 9 else 36)) else (bif Nat.blt b 4 then 46 else (bif Nat.blt b 5 then 56 else 65)))
def rb_106 (b : Nat) : List (Instr × Nat × Nat) := (bif Nat.blt b 3 then (bif Nat.blt b 1 then r_106_0 else (bif Nat.blt b 2 then r_106_1 else r_106_2)) else (bif Nat.blt b 5 then (bif Nat.blt b 4 then r_106_3 else r_106_4) else (bif Nat.blt b 6 then r_106_5 else r_106_6)))
def pb_106 (b : Nat) : Nat := (bif Nat.blt b 3 then (bif Nat.blt b 1 then 0 else (bif Nat.blt b 2 then 17 else 19)) else (bif Nat.blt b 5 then (bif Nat.blt b 4 then 48 else 58) else (bif Nat.blt b 6 then 68 else 77)))
def rb_113 (b : Nat) : List (Instr × Nat × Nat) := r_113_0
def pb_113 (b : Nat) : Nat := 0
def rb_123 (b : Nat) : List (Instr × Nat × Nat) := (bif Nat.blt b 3 then (bif Nat.blt b 1 then r_123_0 else (bif Nat.blt b 2 then r_123_1 else r_123_2)) else (bif Nat.blt b 5 then (bif Nat.blt b 4 then r_123_3 else r_123_4) else (bif Nat.blt b 6 then r_123_5 else r_123_6)))
def pb_123 (b : Nat) : Nat := (bif Nat.blt b 3 then (bif Nat.blt b 1 then 0 else (bif Nat.blt b 2 then 16 else 18)) else (bif Nat.blt b 5 then (bif Nat.blt b 4 then 30 else 32) else (bif Nat.blt b 6 then 40 else 58)))
def rb_132 (b : Nat) : List (Instr × Nat × Nat) := (bif Nat.blt b 2 then (bif Nat.blt b 1 then r_132_0 else r_132_1) else (bif Nat.blt b 3 then r_132_2 else r_132_3))
def pb_132 (b : Nat) : Nat := (bif Nat.blt b 2 then (bif Nat.blt b 1 then 0 else 35) else (bif Nat.blt b 3 then 37 else 52))
def rb_137 (b : Nat) : List (Instr × Nat × Nat) := r_137_0
def pb_137 (b : Nat) : Nat := 0
def rb_146 (b : Nat) : List (Instr × Nat × Nat) := (bif Nat.blt b 5 then (bif Nat.blt b 2 then (bif Nat.blt b 1 then r_146_0 else r_146_1) else (bif Nat.blt b 3 then r_146_2 else (bif Nat.blt b 4 then r_146_3 else r_146_4))) else (bif Nat.blt b 7 then (bif Nat.blt b 6 then r_146_5 else r_146_6) else (bif Nat.blt b 8 then r_146_7 else (bif Nat.blt b 9 then r_146_8 else r_146_9))))
def pb_146 (b : Nat) : Nat := (bif Nat.blt b 5 then (bif Nat.blt b 2 then (bif Nat.blt b 1 then 0 else 18) else (bif Nat.blt b 3 then 20 else (bif Nat.blt b 4 then 80 else 90))) else (bif Nat.blt b 7 then (bif Nat.blt b 6 then 100 else 110) else (bif Nat.blt b 8 then 120 else (bif Nat.blt b 9 then 130 else 139))))
def rb_153 (b : Nat) : List (Instr × Nat × Nat) := r_153_0
def pb_153 (b : Nat) : Nat := 0
def rb_163 (b : Nat) : List (Instr × Nat × Nat) := (bif Nat.blt b 1 then r_163_0 else (bif Nat.blt b 2 then r_163_1 else r_163_2))
def pb_163 (b : Nat) : Nat := (bif Nat.blt b 1 then 0 else (bif Nat.blt b 2 then 25 else 27))
def rb_170 (b : Nat) : List (Instr × Nat × Nat) := (bif Nat.blt b 1 then r_170_0 else (bif Nat.blt b 2 then r_170_1 else r_170_2))
def pb_170 (b : Nat) : Nat := (bif Nat.blt b 1 then 0 else (bif Nat.blt b 2 then 15 else 17))
def rb_178 (b : Nat) : List (Instr × Nat × Nat) := (bif Nat.blt b 1 then r_178_0 else (bif Nat.blt b 2 then r_178_1 else r_178_2))
def pb_178 (b : Nat) : Nat := (bif Nat.blt b 1 then 0 else (bif Nat.blt b 2 then 18 else 20))
def rb_185 (b : Nat) : List (Instr × Nat × Nat) := (bif Nat.blt b 1 then r_185_0 else (bif Nat.blt b 2 then r_185_1 else r_185_2))
def pb_185 (b : Nat) : Nat := (bif Nat.blt b 1 then 0 else (bif Nat.blt b 2 then 12 else 24))
def rb_194 (b : Nat) : List (Instr × Nat × Nat) := (bif Nat.blt b 2 then (bif Nat.blt b 1 then r_194_0 else r_194_1) else (bif Nat.blt b 3 then r_194_2 else r_194_3))
def pb_194 (b : Nat) : Nat := (bif Nat.blt b 2 then (bif Nat.blt b 1 then 0 else 15) else (bif Nat.blt b 3 then 19 else 28))
def rb_201 (b : Nat) : List (Instr × Nat × Nat) := (bif Nat.blt b 1 then r_201_0 else (bif Nat.blt b 2 then r_201_1 else r_201_2))
def pb_201 (b : Nat) : Nat := (bif Nat.blt b 1 then 0 else (bif Nat.blt b 2 then 12 else 20))
def rb_209 (b : Nat) : List (Instr × Nat × Nat) := (bif Nat.blt b 2 then (bif Nat.blt b 1 then r_209_0 else r_209_1) else (bif Nat.blt b 3 then r_209_2 else r_209_3))
def pb_209 (b : Nat) : Nat := (bif Nat.blt b 2 then (bif Nat.blt b 1 then 0 else 10) else (bif Nat.blt b 3 then 32 else 34))
def rb_218 (b : Nat) : List (Instr × Nat × Nat) := (bif Nat.blt b 1 then r_218_0 else (bif Nat.blt b 2 then r_218_1 else r_218_2))
def pb_218 (b : Nat) : Nat := (bif Nat.blt b 1 then 0 else (bif Nat.blt b 2 then 15 else 17))
def rb_225 (b : Nat) : List (Instr × Nat × Nat) := (bif Nat.blt b 2 then (bif Nat.blt b 1 then r_225_0 else r_225_1) else (bif Nat.blt b 3 then r_225_2 else r_225_3))
def pb_225 (b : Nat) : Nat := (bif Nat.blt b 2 then (bif Nat.blt b 1 then 0 else 10) else (bif Nat.blt b 3 then 34 else 59))
def rb_233 (b : Nat) : List (Instr × Nat × Nat) := (bif Nat.blt b 2 then (bif Nat.blt b 1 then r_233_0 else r_233_1) else (bif Nat.blt b 3 then r_233_2 else r_233_3))
def pb_233 (b : Nat) : Nat := (bif Nat.blt b 2 then (bif Nat.blt b 1 then 0 else 12) else (bif Nat.blt b 3 then 14 else 32))
def rb_241 (b : Nat) : List (Instr × Nat × Nat) := (bif Nat.blt b 1 then r_241_0 else (bif Nat.blt b 2 then r_241_1 else r_241_2))
def pb_241 (b : Nat) : Nat := (bif Nat.blt b 1 then 0 else (bif Nat.blt b 2 then 12 else 20))
def rb_249 (b : Nat) : List (Instr × Nat × Nat) := r_249_0
def pb_249 (b : Nat) : Nat := 0
def rb_256 (b : Nat) : List (Instr × Nat × Nat) := r_256_0
def pb_256 (b : Nat) : Nat := 0
def rb_266 (b : Nat) : List (Instr × Nat × Nat) := (bif Nat.blt b 3 then (bif Nat.blt b 1 then r_266_0 else (bif Nat.blt b 2 then r_266_1 else r_266_2)) else (bif Nat.blt b 4 then r_266_3 else (bif Nat.blt b 5 then r_266_4 else r_266_5)))
def pb_266 (b : Nat) : Nat := (bif Nat.blt b 3 then (bif Nat.blt b 1 then 0 else (bif Nat.blt b 2 then 21 else 23)) else (bif Nat.blt b 4 then 37 else (bif Nat.blt b 5 then 76 else 90)))
def rb_273 (b : Nat) : List (Instr × Nat × Nat) := (bif Nat.blt b 4 then (bif Nat.blt b 2 then (bif Nat.blt b 1 then r_273_0 else r_273_1) else (bif Nat.blt b 3 then r_273_2 else r_273_3)) else (bif Nat.blt b 6 then (bif Nat.blt b 5 then r_273_4 else r_273_5) else (bif Nat.blt b 7 then r_273_6 else r_273_7)))
def pb_273 (b : Nat) : Nat := (bif Nat.blt b 4 then (bif Nat.blt b 2 then (bif Nat.blt b 1 then 0 else 40) else (bif Nat.blt b 3 then 48 else 56)) else (bif Nat.blt b 6 then (bif Nat.blt b 5 then 69 else 89) else (bif Nat.blt b 7 then 97 else 102)))
def rb_282 (b : Nat) : List (Instr × Nat × Nat) := (bif Nat.blt b 1 then r_282_0 else (bif Nat.blt b 2 then r_282_1 else r_282_2))
def pb_282 (b : Nat) : Nat := (bif Nat.blt b 1 then 0 else (bif Nat.blt b 2 then 4 else 27))
def rb_288 (b : Nat) : List (Instr × Nat × Nat) := (bif Nat.blt b 2 then (bif Nat.blt b 1 then r_288_0 else r_288_1) else (bif Nat.blt b 3 then r_288_2 else r_288_3))
def pb_288 (b : Nat) : Nat := (bif Nat.blt b 2 then (bif Nat.blt b 1 then 0 else 4) else (bif Nat.blt b 3 then 32 else 38))
def rb_298 (b : Nat) : List (Instr × Nat × Nat) := (bif Nat.blt b 1 then r_298_0 else (bif Nat.blt b 2 then r_298_1 else r_298_2))
def pb_298 (b : Nat) : Nat := (bif Nat.blt b 1 then 0 else (bif Nat.blt b 2 then 17 else 19))
def rb_306 (b : Nat) : List (Instr × Nat × Nat) := r_306_0
def pb_306 (b : Nat) : Nat := 0
def rb_315 (b : Nat) : List (Instr × Nat × Nat) := (bif Nat.blt b 3 then (bif Nat.blt b 1 then r_315_0 else (bif Nat.blt b 2 then r_315_1 else r_315_2)) else (bif Nat.blt b 5 then (bif Nat.blt b 4 then r_315_3 else r_315_4) else (bif Nat.blt b 6 then r_315_5 else r_315_6)))
def pb_315 (b : Nat) : Nat := (bif Nat.blt b 3 then (bif Nat.blt b 1 then 0 else (bif Nat.blt b 2 then 13 else 19)) else (bif Nat.blt b 5 then (bif Nat.blt b 4 then 50 else 83) else (bif Nat.blt b 6 then 136 else 142)))
def rb_323 (b : Nat) : List (Instr × Nat × Nat) := (bif Nat.blt b 2 then (bif Nat.blt b 1 then r_323_0 else r_323_1) else (bif Nat.blt b 3 then r_323_2 else r_323_3))
def pb_323 (b : Nat) : Nat := (bif Nat.blt b 2 then (bif Nat.blt b 1 then 0 else 26) else (bif Nat.blt b 3 then 28 else 36))
def rb_331 (b : Nat) : List (Instr × Nat × Nat) := (bif Nat.blt b 4 then (bif Nat.blt b 2 then (bif Nat.blt b 1 then r_331_0 else r_331_1) else (bif Nat.blt b 3 then r_331_2 else r_331_3)) else (bif Nat.blt b 6 then (bif Nat.blt b 5 then r_331_4 else r_331_5) else (bif Nat.blt b 7 then r_331_6 else r_331_7)))
def pb_331 (b : Nat) : Nat := (bif Nat.blt b 4 then (bif Nat.blt b 2 then (bif Nat.blt b 1 then 0 else 27) else (bif Nat.blt b 3 then 29 else 38)) else (bif Nat.blt b 6 then (bif Nat.blt b 5 then 70 else 76) else (bif Nat.blt b 7 then 85 else 87)))
def rb_339 (b : Nat) : List (Instr × Nat × Nat) := (bif Nat.blt b 1 then r_339_0 else (bif Nat.blt b 2 then r_339_1 else r_339_2))
def pb_339 (b : Nat) : Nat := (bif Nat.blt b 1 then 0 else (bif Nat.blt b 2 then 27 else 59))
def rb_344 (b : Nat) : List (Instr × Nat × Nat) := (bif Nat.blt b 3 then (bif Nat.blt b 1 then r_344_0 else (bif Nat.blt b 2 then r_344_1 else r_344_2)) else (bif Nat.blt b 4 then r_344_3 else (bif Nat.blt b 5 then r_344_4 else r_344_5)))
def pb_344 (b : Nat) : Nat := (bif Nat.blt b 3 then (bif Nat.blt b 1 then 0 else (bif Nat.blt b 2 then 13 else 31)) else (bif Nat.blt b 4 then 33 else (bif Nat.blt b 5 then 59 else 72)))
def rb_354 (b : Nat) : List (Instr × Nat × Nat) := (bif Nat.blt b 3 then (bif Nat.blt b 1 then r_354_0 else (bif Nat.blt b 2 then r_354_1 else r_354_2)) else (bif Nat.blt b 4 then r_354_3 else (bif Nat.blt b 5 then r_354_4 else r_354_5)))
def pb_354 (b : Nat) : Nat := (bif Nat.blt b 3 then (bif Nat.blt b 1 then 0 else (bif Nat.blt b 2 then 16 else 18)) else (bif Nat.blt b 4 then 30 else (bif Nat.blt b 5 then 51 else 55)))
def rb_361 (b : Nat) : List (Instr × Nat × Nat) := r_361_0
def pb_361 (b : Nat) : Nat := 0
def rb_369 (b : Nat) : List (Instr × Nat × Nat) := (bif Nat.blt b 4 then (bif Nat.blt b 2 then (bif Nat.blt b 1 then r_369_0 else r_369_1) else (bif Nat.blt b 3 then r_369_2 else r_369_3)) else (bif Nat.blt b 6 then (bif Nat.blt b 5 then r_369_4 else r_369_5) else (bif Nat.blt b 7 then r_369_6 else (bif Nat.blt b 8 then r_369_7 else r_369_8))))
def pb_369 (b : Nat) : Nat := (bif Nat.blt b 4 then (bif Nat.blt b 2 then (bif Nat.blt b 1 then 0 else 2) else (bif Nat.blt b 3 then 24 else 37)) else (bif Nat.blt b 6 then (bif Nat.blt b 5 then 48 else 95) else (bif Nat.blt b 7 then 96 else (bif Nat.blt b 8 then 103 else 116))))
def rb_376 (b : Nat) : List (Instr × Nat × Nat) := (bif Nat.blt b 2 then (bif Nat.blt b 1 then r_376_0 else r_376_1) else (bif Nat.blt b 3 then r_376_2 else r_376_3))
def pb_376 (b : Nat) : Nat := (bif Nat.blt b 2 then (bif Nat.blt b 1 then 0 else 4) else (bif Nat.blt b 3 then 25 else 31))
def rb_384 (b : Nat) : List (Instr × Nat × Nat) := (bif Nat.blt b 2 then (bif Nat.blt b 1 then r_384_0 else r_384_1) else (bif Nat.blt b 3 then r_384_2 else r_384_3))
def pb_384 (b : Nat) : Nat := (bif Nat.blt b 2 then (bif Nat.blt b 1 then 0 else 2) else (bif Nat.blt b 3 then 31 else 37))
def rb_394 (b : Nat) : List (Instr × Nat × Nat) := (bif Nat.blt b 4 then (bif Nat.blt b 2 then (bif Nat.blt b 1 then r_394_0 else r_394_1) else (bif Nat.blt b 3 then r_394_2 else r_394_3)) else (bif Nat.blt b 6 then (bif Nat.blt b 5 then r_394_4 else r_394_5) else (bif Nat.blt b 7 then r_394_6 else (bif Nat.blt b 8 then r_394_7 else r_394_8))))
def pb_394 (b : Nat) : Nat := (bif Nat.blt b 4 then (bif Nat.blt b 2 then (bif Nat.blt b 1 then 0 else 18) else (bif Nat.blt b 3 then 20 else 26)) else (bif Nat.blt b 6 then (bif Nat.blt b 5 then 58 else 62) else (bif Nat.blt b 7 then 63 else (bif Nat.blt b 8 then 87 else 93))))
def rb_400 (b : Nat) : List (Instr × Nat × Nat) := (bif Nat.blt b 2 then (bif Nat.blt b 1 then r_400_0 else r_400_1) else (bif Nat.blt b 3 then r_400_2 else r_400_3))
def pb_400 (b : Nat) : Nat := (bif Nat.blt b 2 then (bif Nat.blt b 1 then 0 else 4) else (bif Nat.blt b 3 then 69 else 75))
def rb_411 (b : Nat) : List (Instr × Nat × Nat) := (bif Nat.blt b 3 then (bif Nat.blt b 1 then r_411_0 else (bif Nat.blt b 2 then r_411_1 else r_411_2)) else (bif Nat.blt b 4 then r_411_3 else (bif Nat.blt b 5 then r_411_4 else r_411_5)))
def pb_411 (b : Nat) : Nat := (bif Nat.blt b 3 then (bif Nat.blt b 1 then 0 else (bif Nat.blt b 2 then 24 else 26)) else (bif Nat.blt b 4 then 40 else (bif Nat.blt b 5 then 67 else 80)))
def rb_418 (b : Nat) : List (Instr × Nat × Nat) := (bif Nat.blt b 1 then r_418_0 else (bif Nat.blt b 2 then r_418_1 else r_418_2))
def pb_418 (b : Nat) : Nat := (bif Nat.blt b 1 then 0 else (bif Nat.blt b 2 then 19 else 23))
def rb_426 (b : Nat) : List (Instr × Nat × Nat) := (bif Nat.blt b 1 then r_426_0 else (bif Nat.blt b 2 then r_426_1 else r_426_2))
def pb_426 (b : Nat) : Nat := (bif Nat.blt b 1 then 0 else (bif Nat.blt b 2 then 5 else 21))
def rb_435 (b : Nat) : List (Instr × Nat × Nat) := (bif Nat.blt b 3 then (bif Nat.blt b 1 then r_435_0 else (bif Nat.blt b 2 then r_435_1 else r_435_2)) else (bif Nat.blt b 5 then (bif Nat.blt b 4 then r_435_3 else r_435_4) else (bif Nat.blt b 6 then r_435_5 else r_435_6)))
def pb_435 (b : Nat) : Nat := (bif Nat.blt b 3 then (bif Nat.blt b 1 then 0 else (bif Nat.blt b 2 then 9 else 45)) else (bif Nat.blt b 5 then (bif Nat.blt b 4 then 54 else 55) else (bif Nat.blt b 6 then 69 else 74)))
def rb_443 (b : Nat) : List (Instr × Nat × Nat) := (bif Nat.blt b 2 then (bif Nat.blt b 1 then r_443_0 else r_443_1) else (bif Nat.blt b 3 then r_443_2 else (bif Nat.blt b 4 then r_443_3 else r_443_4)))
def pb_443 (b : Nat) : Nat := (bif Nat.blt b 2 then (bif Nat.blt b 1 then 0 else 26) else (bif Nat.blt b 3 then 30 else (bif Nat.blt b 4 then 64 else 139)))
def rb_450 (b : Nat) : List (Instr × Nat × Nat) := (bif Nat.blt b 3 then (bif Nat.blt b 1 then r_450_0 else (bif Nat.blt b 2 then r_450_1 else r_450_2)) else (bif Nat.blt b 5 then (bif Nat.blt b 4 then r_450_3 else r_450_4) else (bif Nat.blt b 6 then r_450_5 else r_450_6)))
def pb_450 (b : Nat) : Nat := (bif Nat.blt b 3 then (bif Nat.blt b 1 then 0 else (bif Nat.blt b 2 then 17 else 19)) else (bif Nat.blt b 5 then (bif Nat.blt b 4 then 32 else 47) else (bif Nat.blt b 6 then 80 else 86)))
def rb_458 (b : Nat) : List (Instr × Nat × Nat) := (bif Nat.blt b 1 then r_458_0 else (bif Nat.blt b 2 then r_458_1 else r_458_2))
def pb_458 (b : Nat) : Nat := (bif Nat.blt b 1 then 0 else (bif Nat.blt b 2 then 14 else 24))
def rb_466 (b : Nat) : List (Instr × Nat × Nat) := (bif Nat.blt b 2 then (bif Nat.blt b 1 then r_466_0 else r_466_1) else (bif Nat.blt b 3 then r_466_2 else r_466_3))
def pb_466 (b : Nat) : Nat := (bif Nat.blt b 2 then (bif Nat.blt b 1 then 0 else 23) else (bif Nat.blt b 3 then 27 else 28))
def rb_475 (b : Nat) : List (Instr × Nat × Nat) := (bif Nat.blt b 1 then r_475_0 else (bif Nat.blt b 2 then r_475_1 else r_475_2))
def pb_475 (b : Nat) : Nat := (bif Nat.blt b 1 then 0 else (bif Nat.blt b 2 then 14 else 27))
def rb_481 (b : Nat) : List (Instr × Nat × Nat) := (bif Nat.blt b 3 then (bif Nat.blt b 1 then r_481_0 else (bif Nat.blt b 2 then r_481_1 else r_481_2)) else (bif Nat.blt b 5 then (bif Nat.blt b 4 then r_481_3 else r_481_4) else (bif Nat.blt b 6 then r_481_5 else r_481_6)))
def pb_481 (b : Nat) : Nat := (bif Nat.blt b 3 then (bif Nat.blt b 1 then 0 else (bif Nat.blt b 2 then 9 else 22)) else (bif Nat.blt b 5 then (bif Nat.blt b 4 then 39 else 70) else (bif Nat.blt b 6 then 76 else 82)))
def rb_492 (b : Nat) : List (Instr × Nat × Nat) := (bif Nat.blt b 4 then (bif Nat.blt b 2 then (bif Nat.blt b 1 then r_492_0 else r_492_1) else (bif Nat.blt b 3 then r_492_2 else r_492_3)) else (bif Nat.blt b 6 then (bif Nat.blt b 5 then r_492_4 else r_492_5) else (bif Nat.blt b 7 then r_492_6 else (bif Nat.blt b 8 then r_492_7 else r_492_8))))
def pb_492 (b : Nat) : Nat := (bif Nat.blt b 4 then (bif Nat.blt b 2 then (bif Nat.blt b 1 then 0 else 24) else (bif Nat.blt b 3 then 26 else 42)) else (bif Nat.blt b 6 then (bif Nat.blt b 5 then 53 else 80) else (bif Nat.blt b 7 then 83 else (bif Nat.blt b 8 then 86 else 137))))
def rb_499 (b : Nat) : List (Instr × Nat × Nat) := (bif Nat.blt b 3 then (bif Nat.blt b 1 then r_499_0 else (bif Nat.blt b 2 then r_499_1 else r_499_2)) else (bif Nat.blt b 4 then r_499_3 else (bif Nat.blt b 5 then r_499_4 else r_499_5)))
def pb_499 (b : Nat) : Nat := (bif Nat.blt b 3 then (bif Nat.blt b 1 then 0 else (bif Nat.blt b 2 then 16 else 18)) else (bif Nat.blt b 4 then 32 else (bif Nat.blt b 5 then 40 else 47)))
def rb_507 (b : Nat) : List (Instr × Nat × Nat) := (bif Nat.blt b 2 then (bif Nat.blt b 1 then r_507_0 else r_507_1) else (bif Nat.blt b 3 then r_507_2 else r_507_3))
def pb_507 (b : Nat) : Nat := (bif Nat.blt b 2 then (bif Nat.blt b 1 then 0 else 9) else (bif Nat.blt b 3 then 25 else 44))
def rb_515 (b : Nat) : List (Instr × Nat × Nat) := (bif Nat.blt b 3 then (bif Nat.blt b 1 then r_515_0 else (bif Nat.blt b 2 then r_515_1 else r_515_2)) else (bif Nat.blt b 5 then (bif Nat.blt b 4 then r_515_3 else r_515_4) else (bif Nat.blt b 6 then r_515_5 else r_515_6)))
def pb_515 (b : Nat) : Nat := (bif Nat.blt b 3 then (bif Nat.blt b 1 then 0 else (bif Nat.blt b 2 then 16 else 18)) else (bif Nat.blt b 5 then (bif Nat.blt b 4 then 34 else 46) else (bif Nat.blt b 6 then 67 else 75)))
def rb_523 (b : Nat) : List (Instr × Nat × Nat) := (bif Nat.blt b 5 then (bif Nat.blt b 2 then (bif Nat.blt b 1 then r_523_0 else r_523_1) else (bif Nat.blt b 3 then r_523_2 else (bif Nat.blt b 4 then r_523_3 else r_523_4))) else (bif Nat.blt b 7 then (bif Nat.blt b 6 then r_523_5 else r_523_6) else (bif Nat.blt b 8 then r_523_7 else (bif Nat.blt b 9 then r_523_8 else r_523_9))))
def pb_523 (b : Nat) : Nat := (bif Nat.blt b 5 then (bif Nat.blt b 2 then (bif Nat.blt b 1 then 0 else 16) else (bif Nat.blt b 3 then 18 else (bif Nat.blt b 4 then 30 else 42))) else (bif Nat.blt b 7 then (bif Nat.blt b 6 then 44 else 57) else (bif Nat.blt b 8 then 58 else (bif Nat.blt b 9 then 85 else 86))))
def rb_529 (b : Nat) : List (Instr × Nat × Nat) := r_529_0
def pb_529 (b : Nat) : Nat := 0
def rb_538 (b : Nat) : List (Instr × Nat × Nat) := (bif Nat.blt b 5 then (bif Nat.blt b 2 then (bif Nat.blt b 1 then r_538_0 else r_538_1) else (bif Nat.blt b 3 then r_538_2 else (bif Nat.blt b 4 then r_538_3 else r_538_4))) else (bif Nat.blt b 8 then (bif Nat.blt b 6 then r_538_5 else (bif Nat.blt b 7 then r_538_6 else r_538_7)) else (bif Nat.blt b 9 then r_538_8 else (bif Nat.blt b 10 then r_538_9 else r_538_10))))
def pb_538 (b : Nat) : Nat := (bif Nat.blt b 5 then (bif Nat.blt b 2 then (bif Nat.blt b 1 then 0 else 15) else (bif Nat.blt b 3 then 16 else (bif Nat.blt b 4 then 35 else 37))) else (bif Nat.blt b 8 then (bif Nat.blt b 6 then 70 else (bif Nat.blt b 7 then 100 else 102)) else (bif Nat.blt b 9 then 103 else (bif Nat.blt b 10 then 128 else 130))))
def rb_547 (b : Nat) : List (Instr × Nat × Nat) := (bif Nat.blt b 5 then (bif Nat.blt b 2 then (bif Nat.blt b 1 then r_547_0 else r_547_1) else (bif Nat.blt b 3 then r_547_2 else (bif Nat.blt b 4 then r_547_3 else r_547_4))) else (bif Nat.blt b 7 then (bif Nat.blt b 6 then r_547_5 else r_547_6) else (bif Nat.blt b 8 then r_547_7 else (bif Nat.blt b 9 then r_547_8 else r_547_9))))
def pb_547 (b : Nat) : Nat := (bif Nat.blt b 5 then (bif Nat.blt b 2 then (bif Nat.blt b 1 then 0 else 37) else (bif Nat.blt b 3 then 39 else (bif Nat.blt b 4 then 104 else 119))) else (bif Nat.blt b 7 then (bif Nat.blt b 6 then 134 else 149) else (bif Nat.blt b 8 then 161 else (bif Nat.blt b 9 then 176 else 178))))
def rb_553 (b : Nat) : List (Instr × Nat × Nat) := (bif Nat.blt b 1 then r_553_0 else (bif Nat.blt b 2 then r_553_1 else r_553_2))
def pb_553 (b : Nat) : Nat := (bif Nat.blt b 1 then 0 else (bif Nat.blt b 2 then 22 else 31))
def rb_561 (b : Nat) : List (Instr × Nat × Nat) := (bif Nat.blt b 4 then (bif Nat.blt b 2 then (bif Nat.blt b 1 then r_561_0 else r_561_1) else (bif Nat.blt b 3 then r_561_2 else r_561_3)) else (bif Nat.blt b 6 then (bif Nat.blt b 5 then r_561_4 else r_561_5) else (bif Nat.blt b 7 then r_561_6 else (bif Nat.blt b 8 then r_561_7 else r_561_8))))
def pb_561 (b : Nat) : Nat := (bif Nat.blt b 4 then (bif Nat.blt b 2 then (bif Nat.blt b 1 then 0 else 44) else (bif Nat.blt b 3 then 52 else 60)) else (bif Nat.blt b 6 then (bif Nat.blt b 5 then 73 else 81) else (bif Nat.blt b 7 then 86 else (bif Nat.blt b 8 then 94 else 102))))
def rb_568 (b : Nat) : List (Instr × Nat × Nat) := r_568_0
def pb_568 (b : Nat) : Nat := 0
def rb_576 (b : Nat) : List (Instr × Nat × Nat) := (bif Nat.blt b 1 then r_576_0 else r_576_1)
def pb_576 (b : Nat) : Nat := (bif Nat.blt b 1 then 0 else 10)
def rb_584 (b : Nat) : List (Instr × Nat × Nat) := r_584_0
def pb_584 (b : Nat) : Nat := 0
def rb_593 (b : Nat) : List (Instr × Nat × Nat) := (bif Nat.blt b 3 then (bif Nat.blt b 1 then r_593_0 else (bif Nat.blt b 2 then r_593_1 else r_593_2)) else (bif Nat.blt b 5 then (bif Nat.blt b 4 then r_593_3 else r_593_4) else (bif Nat.blt b 6 then r_593_5 else r_593_6)))
def pb_593 (b : Nat) : Nat := (bif Nat.blt b 3 then (bif Nat.blt b 1 then 0 else (bif Nat.blt b 2 then 2 else 19)) else (bif Nat.blt b 5 then (bif Nat.blt b 4 then 63 else 87) else (bif Nat.blt b 6 then 89 else 111)))
def rb_602 (b : Nat) : List (Instr × Nat × Nat) := (bif Nat.blt b 2 then (bif Nat.blt b 1 then r_602_0 else r_602_1) else (bif Nat.blt b 3 then r_602_2 else (bif Nat.blt b 4 then r_602_3 else r_602_4)))
def pb_602 (b : Nat) : Nat := (bif Nat.blt b 2 then (bif Nat.blt b 1 then 0 else 12) else (bif Nat.blt b 3 then 27 else (bif Nat.blt b 4 then 30 else 73)))
def rb_611 (b : Nat) : List (Instr × Nat × Nat) := (bif Nat.blt b 1 then r_611_0 else (bif Nat.blt b 2 then r_611_1 else r_611_2))
def pb_611 (b : Nat) : Nat := (bif Nat.blt b 1 then 0 else (bif Nat.blt b 2 then 14 else 15))
def rb_616 (b : Nat) : List (Instr × Nat × Nat) := (bif Nat.blt b 2 then (bif Nat.blt b 1 then r_616_0 else r_616_1) else (bif Nat.blt b 3 then r_616_2 else r_616_3))
def pb_616 (b : Nat) : Nat := (bif Nat.blt b 2 then (bif Nat.blt b 1 then 0 else 21) else (bif Nat.blt b 3 then 42 else 62))
def rb_624 (b : Nat) : List (Instr × Nat × Nat) := (bif Nat.blt b 8 then (bif Nat.blt b 4 then (bif Nat.blt b 2 then (bif Nat.blt b 1 then r_624_0 else r_624_1) else (bif Nat.blt b 3 then r_624_2 else r_624_3)) else (bif Nat.blt b 6 then (bif Nat.blt b 5 then r_624_4 else r_624_5) else (bif Nat.blt b 7 then r_624_6 else r_624_7))) else (bif Nat.blt b 12 then (bif Nat.blt b 10 then (bif Nat.blt b 9 then r_624_8 else r_624_9) else (bif Nat.blt b 11 then r_624_10 else r_624_11)) else (bif Nat.blt b 14 then (bif Nat.blt b 13 then r_624_12 else r_624_13) else (bif Nat.blt b 15 then r_624_14 else r_624_15))))
def pb_624 (b : Nat) : Nat := (bif Nat.blt b 8 then (bif Nat.blt b 4 then (bif Nat.blt b 2 then (bif Nat.blt b 1 then 0 else 8) else (bif Nat.blt b 3 then 34 else 60)) else (bif Nat.blt b 6 then (bif Nat.blt b 5 then 71 else 82) else (bif Nat.blt b 7 then 83 else 104))) else (bif Nat.blt b 12 then (bif Nat.blt b 10 then (bif Nat.blt b 9 then 105 else 126) else (bif Nat.blt b 11 then 188 else 191)) else (bif Nat.blt b 14 then (bif Nat.blt b 13 then 207 else 265) else (bif Nat.blt b 15 then 266 else 282))))
def rb_633 (b : Nat) : List (Instr × Nat × Nat) := (bif Nat.blt b 1 then r_633_0 else (bif Nat.blt b 2 then r_633_1 else r_633_2))
def pb_633 (b : Nat) : Nat := (bif Nat.blt b 1 then 0 else (bif Nat.blt b 2 then 17 else 18))
def rb_641 (b : Nat) : List (Instr × Nat × Nat) := r_641_0
def pb_641 (b : Nat) : Nat := 0
def rb_649 (b : Nat) : List (Instr × Nat × Nat) := r_649_0
def pb_649 (b : Nat) : Nat := 0
def rb_656 (b : Nat) : List (Instr × Nat × Nat) := (bif Nat.blt b 3 then (bif Nat.blt b 1 then r_656_0 else (bif Nat.blt b 2 then r_656_1 else r_656_2)) else (bif Nat.blt b 5 then (bif Nat.blt b 4 then r_656_3 else r_656_4) else (bif Nat.blt b 6 then r_656_5 else r_656_6)))
def pb_656 (b : Nat) : Nat := (bif Nat.blt b 3 then (bif Nat.blt b 1 then 0 else (bif Nat.blt b 2 then 18 else 35)) else (bif Nat.blt b 5 then (bif Nat.blt b 4 then 52 else 69) else (bif Nat.blt b 6 then 103 else 108)))
def rb_664 (b : Nat) : List (Instr × Nat × Nat) := (bif Nat.blt b 4 then (bif Nat.blt b 2 then (bif Nat.blt b 1 then r_664_0 else r_664_1) else (bif Nat.blt b 3 then r_664_2 else r_664_3)) else (bif Nat.blt b 6 then (bif Nat.blt b 5 then r_664_4 else r_664_5) else (bif Nat.blt b 7 then r_664_6 else r_664_7)))
def pb_664 (b : Nat) : Nat := (bif Nat.blt b 4 then (bif Nat.blt b 2 then (bif Nat.blt b 1 then 0 else 14) else (bif Nat.blt b 3 then 28 else 42)) else (bif Nat.blt b 6 then (bif Nat.blt b 5 then 56 else 70) else (bif Nat.blt b 7 then 84 else 85)))
def rb_673 (b : Nat) : List (Instr × Nat × Nat) := (bif Nat.blt b 1 then r_673_0 else (bif Nat.blt b 2 then r_673_1 else r_673_2))
def pb_673 (b : Nat) : Nat := (bif Nat.blt b 1 then 0 else (bif Nat.blt b 2 then 21 else 22))
def rb_681 (b : Nat) : List (Instr × Nat × Nat) := (bif Nat.blt b 2 then (bif Nat.blt b 1 then r_681_0 else r_681_1) else (bif Nat.blt b 3 then r_681_2 else (bif Nat.blt b 4 then r_681_3 else r_681_4)))
def pb_681 (b : Nat) : Nat := (bif Nat.blt b 2 then (bif Nat.blt b 1 then 0 else 16) else (bif Nat.blt b 3 then 17 else (bif Nat.blt b 4 then 31 else 144)))
def rb_690 (b : Nat) : List (Instr × Nat × Nat) := (bif Nat.blt b 2 then (bif Nat.blt b 1 then r_690_0 else r_690_1) else (bif Nat.blt b 3 then r_690_2 else r_690_3))
def pb_690 (b : Nat) : Nat := (bif Nat.blt b 2 then (bif Nat.blt b 1 then 0 else 34) else (bif Nat.blt b 3 then 35 else 49))
def rb_697 (b : Nat) : List (Instr × Nat × Nat) := (bif Nat.blt b 2 then (bif Nat.blt b 1 then r_697_0 else r_697_1) else (bif Nat.blt b 3 then r_697_2 else r_697_3))
def pb_697 (b : Nat) : Nat := (bif Nat.blt b 2 then (bif Nat.blt b 1 then 0 else 20) else (bif Nat.blt b 3 then 21 else 35))
def rb_704 (b : Nat) : List (Instr × Nat × Nat) := (bif Nat.blt b 2 then (bif Nat.blt b 1 then r_704_0 else r_704_1) else (bif Nat.blt b 3 then r_704_2 else r_704_3))
def pb_704 (b : Nat) : Nat := (bif Nat.blt b 2 then (bif Nat.blt b 1 then 0 else 21) else (bif Nat.blt b 3 then 22 else 36))
def rb_713 (b : Nat) : List (Instr × Nat × Nat) := (bif Nat.blt b 1 then r_713_0 else (bif Nat.blt b 2 then r_713_1 else r_713_2))
def pb_713 (b : Nat) : Nat := (bif Nat.blt b 1 then 0 else (bif Nat.blt b 2 then 20 else 21))
def rb_720 (b : Nat) : List (Instr × Nat × Nat) := (bif Nat.blt b 4 then (bif Nat.blt b 2 then (bif Nat.blt b 1 then r_720_0 else r_720_1) else (bif Nat.blt b 3 then r_720_2 else r_720_3)) else (bif Nat.blt b 6 then (bif Nat.blt b 5 then r_720_4 else r_720_5) else (bif Nat.blt b 7 then r_720_6 else r_720_7)))
def pb_720 (b : Nat) : Nat := (bif Nat.blt b 4 then (bif Nat.blt b 2 then (bif Nat.blt b 1 then 0 else 33) else (bif Nat.blt b 3 then 34 else 48)) else (bif Nat.blt b 6 then (bif Nat.blt b 5 then 60 else 71) else (bif Nat.blt b 7 then 73 else 105)))
def rb_728 (b : Nat) : List (Instr × Nat × Nat) := (bif Nat.blt b 2 then (bif Nat.blt b 1 then r_728_0 else r_728_1) else (bif Nat.blt b 3 then r_728_2 else r_728_3))
def pb_728 (b : Nat) : Nat := (bif Nat.blt b 2 then (bif Nat.blt b 1 then 0 else 21) else (bif Nat.blt b 3 then 22 else 36))
def rb_736 (b : Nat) : List (Instr × Nat × Nat) := (bif Nat.blt b 3 then (bif Nat.blt b 1 then r_736_0 else (bif Nat.blt b 2 then r_736_1 else r_736_2)) else (bif Nat.blt b 5 then (bif Nat.blt b 4 then r_736_3 else r_736_4) else (bif Nat.blt b 6 then r_736_5 else r_736_6)))
def pb_736 (b : Nat) : Nat := (bif Nat.blt b 3 then (bif Nat.blt b 1 then 0 else (bif Nat.blt b 2 then 14 else 28)) else (bif Nat.blt b 5 then (bif Nat.blt b 4 then 42 else 56) else (bif Nat.blt b 6 then 70 else 71)))
def rb_744 (b : Nat) : List (Instr × Nat × Nat) := (bif Nat.blt b 1 then r_744_0 else r_744_1)
def pb_744 (b : Nat) : Nat := (bif Nat.blt b 1 then 0 else 38)
def rb_752 (b : Nat) : List (Instr × Nat × Nat) := (bif Nat.blt b 1 then r_752_0 else r_752_1)
def pb_752 (b : Nat) : Nat := (bif Nat.blt b 1 then 0 else 43)
def rb_762 (b : Nat) : List (Instr × Nat × Nat) := (bif Nat.blt b 1 then r_762_0 else (bif Nat.blt b 2 then r_762_1 else r_762_2))
def pb_762 (b : Nat) : Nat := (bif Nat.blt b 1 then 0 else (bif Nat.blt b 2 then 2 else 21))
def rb_770 (b : Nat) : List (Instr × Nat × Nat) := (bif Nat.blt b 3 then (bif Nat.blt b 1 then r_770_0 else (bif Nat.blt b 2 then r_770_1 else r_770_2)) else (bif Nat.blt b 5 then (bif Nat.blt b 4 then r_770_3 else r_770_4) else (bif Nat.blt b 6 then r_770_5 else r_770_6)))
def pb_770 (b : Nat) : Nat := (bif Nat.blt b 3 then (bif Nat.blt b 1 then 0 else (bif Nat.blt b 2 then 14 else 24)) else (bif Nat.blt b 5 then (bif Nat.blt b 4 then 38 else 39) else (bif Nat.blt b 6 then 53 else 54)))
def rb_778 (b : Nat) : List (Instr × Nat × Nat) := r_778_0
def pb_778 (b : Nat) : Nat := 0
def rb_785 (b : Nat) : List (Instr × Nat × Nat) := (bif Nat.blt b 1 then r_785_0 else (bif Nat.blt b 2 then r_785_1 else r_785_2))
def pb_785 (b : Nat) : Nat := (bif Nat.blt b 1 then 0 else (bif Nat.blt b 2 then 18 else 19))
def rb_794 (b : Nat) : List (Instr × Nat × Nat) := (bif Nat.blt b 1 then r_794_0 else (bif Nat.blt b 2 then r_794_1 else r_794_2))
def pb_794 (b : Nat) : Nat := (bif Nat.blt b 1 then 0 else (bif Nat.blt b 2 then 29 else 30))
def rb_801 (b : Nat) : List (Instr × Nat × Nat) := r_801_0
def pb_801 (b : Nat) : Nat := 0
def rb_810 (b : Nat) : List (Instr × Nat × Nat) := (bif Nat.blt b 1 then r_810_0 else (bif Nat.blt b 2 then r_810_1 else r_810_2))
def pb_810 (b : Nat) : Nat := (bif Nat.blt b 1 then 0 else (bif Nat.blt b 2 then 32 else 33))
def rb_817 (b : Nat) : List (Instr × Nat × Nat) := r_817_0
def pb_817 (b : Nat) : Nat := 0
def rb_826 (b : Nat) : List (Instr × Nat × Nat) := (bif Nat.blt b 2 then (bif Nat.blt b 1 then r_826_0 else r_826_1) else (bif Nat.blt b 3 then r_826_2 else (bif Nat.blt b 4 then r_826_3 else r_826_4)))
def pb_826 (b : Nat) : Nat := (bif Nat.blt b 2 then (bif Nat.blt b 1 then 0 else 16) else (bif Nat.blt b 3 then 18 else (bif Nat.blt b 4 then 39 else 58)))
def rb_834 (b : Nat) : List (Instr × Nat × Nat) := r_834_0
def pb_834 (b : Nat) : Nat := 0
def rb_842 (b : Nat) : List (Instr × Nat × Nat) := (bif Nat.blt b 2 then (bif Nat.blt b 1 then r_842_0 else r_842_1) else (bif Nat.blt b 3 then r_842_2 else (bif Nat.blt b 4 then r_842_3 else r_842_4)))
def pb_842 (b : Nat) : Nat := (bif Nat.blt b 2 then (bif Nat.blt b 1 then 0 else 17) else (bif Nat.blt b 3 then 19 else (bif Nat.blt b 4 then 34 else 39)))
def rb_849 (b : Nat) : List (Instr × Nat × Nat) := r_849_0
def pb_849 (b : Nat) : Nat := 0
def rb_857 (b : Nat) : List (Instr × Nat × Nat) := (bif Nat.blt b 1 then r_857_0 else (bif Nat.blt b 2 then r_857_1 else r_857_2))
def pb_857 (b : Nat) : Nat := (bif Nat.blt b 1 then 0 else (bif Nat.blt b 2 then 4 else 24))
def rb_867 (b : Nat) : List (Instr × Nat × Nat) := (bif Nat.blt b 3 then (bif Nat.blt b 1 then r_867_0 else (bif Nat.blt b 2 then r_867_1 else r_867_2)) else (bif Nat.blt b 5 then (bif Nat.blt b 4 then r_867_3 else r_867_4) else (bif Nat.blt b 6 then r_867_5 else r_867_6)))
def pb_867 (b : Nat) : Nat := (bif Nat.blt b 3 then (bif Nat.blt b 1 then 0 else (bif Nat.blt b 2 then 24 else 39)) else (bif Nat.blt b 5 then (bif Nat.blt b 4 then 43 else 44) else (bif Nat.blt b 6 then 68 else 69)))
def rb_876 (b : Nat) : List (Instr × Nat × Nat) := (bif Nat.blt b 3 then (bif Nat.blt b 1 then r_876_0 else (bif Nat.blt b 2 then r_876_1 else r_876_2)) else (bif Nat.blt b 4 then r_876_3 else (bif Nat.blt b 5 then r_876_4 else r_876_5)))
def pb_876 (b : Nat) : Nat := (bif Nat.blt b 3 then (bif Nat.blt b 1 then 0 else (bif Nat.blt b 2 then 26 else 28)) else (bif Nat.blt b 4 then 42 else (bif Nat.blt b 5 then 53 else 75)))
def rb_882 (b : Nat) : List (Instr × Nat × Nat) := (bif Nat.blt b 1 then r_882_0 else (bif Nat.blt b 2 then r_882_1 else r_882_2))
def pb_882 (b : Nat) : Nat := (bif Nat.blt b 1 then 0 else (bif Nat.blt b 2 then 23 else 24))
def rb_891 (b : Nat) : List (Instr × Nat × Nat) := r_891_0
def pb_891 (b : Nat) : Nat := 0
def rb_898 (b : Nat) : List (Instr × Nat × Nat) := (bif Nat.blt b 2 then (bif Nat.blt b 1 then r_898_0 else r_898_1) else (bif Nat.blt b 3 then r_898_2 else (bif Nat.blt b 4 then r_898_3 else r_898_4)))
def pb_898 (b : Nat) : Nat := (bif Nat.blt b 2 then (bif Nat.blt b 1 then 0 else 18) else (bif Nat.blt b 3 then 20 else (bif Nat.blt b 4 then 35 else 40)))
def rb_905 (b : Nat) : List (Instr × Nat × Nat) := r_905_0
def pb_905 (b : Nat) : Nat := 0
def rb_914 (b : Nat) : List (Instr × Nat × Nat) := r_914_0
def pb_914 (b : Nat) : Nat := 0
def rb_921 (b : Nat) : List (Instr × Nat × Nat) := (bif Nat.blt b 1 then r_921_0 else (bif Nat.blt b 2 then r_921_1 else r_921_2))
def pb_921 (b : Nat) : Nat := (bif Nat.blt b 1 then 0 else (bif Nat.blt b 2 then 4 else 36))
def rb_931 (b : Nat) : List (Instr × Nat × Nat) := (bif Nat.blt b 1 then r_931_0 else (bif Nat.blt b 2 then r_931_1 else r_931_2))
def pb_931 (b : Nat) : Nat := (bif Nat.blt b 1 then 0 else (bif Nat.blt b 2 then 16 else 18))
def rb_938 (b : Nat) : List (Instr × Nat × Nat) := (bif Nat.blt b 1 then r_938_0 else (bif Nat.blt b 2 then r_938_1 else r_938_2))
def pb_938 (b : Nat) : Nat := (bif Nat.blt b 1 then 0 else (bif Nat.blt b 2 then 32 else 33))
def rb_946 (b : Nat) : List (Instr × Nat × Nat) := (bif Nat.blt b 1 then r_946_0 else (bif Nat.blt b 2 then r_946_1 else r_946_2))
def pb_946 (b : Nat) : Nat := (bif Nat.blt b 1 then 0 else (bif Nat.blt b 2 then 35 else 36))
def rb_953 (b : Nat) : List (Instr × Nat × Nat) := (bif Nat.blt b 1 then r_953_0 else (bif Nat.blt b 2 then r_953_1 else r_953_2))
def pb_953 (b : Nat) : Nat := (bif Nat.blt b 1 then 0 else (bif Nat.blt b 2 then 25 else 26))
def rb_962 (b : Nat) : List (Instr × Nat × Nat) := (bif Nat.blt b 1 then r_962_0 else (bif Nat.blt b 2 then r_962_1 else r_962_2))
def pb_962 (b : Nat) : Nat := (bif Nat.blt b 1 then 0 else (bif Nat.blt b 2 then 24 else 25))
def rb_970 (b : Nat) : List (Instr × Nat × Nat) := (bif Nat.blt b 6 then (bif Nat.blt b 3 then (bif Nat.blt b 1 then r_970_0 else (bif Nat.blt b 2 then r_970_1 else r_970_2)) else (bif Nat.blt b 4 then r_970_3 else (bif Nat.blt b 5 then r_970_4 else r_970_5))) else (bif Nat.blt b 9 then (bif Nat.blt b 7 then r_970_6 else (bif Nat.blt b 8 then r_970_7 else r_970_8)) else (bif Nat.blt b 11 then (bif Nat.blt b 10 then r_970_9 else r_970_10) else (bif Nat.blt b 12 then r_970_11 else r_970_12))))
def pb_970 (b : Nat) : Nat := (bif Nat.blt b 6 then (bif Nat.blt b 3 then (bif Nat.blt b 1 then 0 else (bif Nat.blt b 2 then 64 else 73)) else (bif Nat.blt b 4 then 83 else (bif Nat.blt b 5 then 92 else 96))) else (bif Nat.blt b 9 then (bif Nat.blt b 7 then 101 else (bif Nat.blt b 8 then 113 else 125)) else (bif Nat.blt b 11 then (bif Nat.blt b 10 then 127 else 132) else (bif Nat.blt b 12 then 143 else 144))))
def rb_977 (b : Nat) : List (Instr × Nat × Nat) := (bif Nat.blt b 1 then r_977_0 else (bif Nat.blt b 2 then r_977_1 else r_977_2))
def pb_977 (b : Nat) : Nat := (bif Nat.blt b 1 then 0 else (bif Nat.blt b 2 then 16 else 17))
def rb_985 (b : Nat) : List (Instr × Nat × Nat) := (bif Nat.blt b 4 then (bif Nat.blt b 2 then (bif Nat.blt b 1 then r_985_0 else r_985_1) else (bif Nat.blt b 3 then r_985_2 else r_985_3)) else (bif Nat.blt b 6 then (bif Nat.blt b 5 then r_985_4 else r_985_5) else (bif Nat.blt b 7 then r_985_6 else r_985_7)))
def pb_985 (b : Nat) : Nat := (bif Nat.blt b 4 then (bif Nat.blt b 2 then (bif Nat.blt b 1 then 0 else 40) else (bif Nat.blt b 3 then 42 else 44)) else (bif Nat.blt b 6 then (bif Nat.blt b 5 then 58 else 59) else (bif Nat.blt b 7 then 60 else 69)))
def rb_993 (b : Nat) : List (Instr × Nat × Nat) := (bif Nat.blt b 1 then r_993_0 else (bif Nat.blt b 2 then r_993_1 else r_993_2))
def pb_993 (b : Nat) : Nat := (bif Nat.blt b 1 then 0 else (bif Nat.blt b 2 then 10 else 21))
def rb_1001 (b : Nat) : List (Instr × Nat × Nat) := (bif Nat.blt b 1 then r_1001_0 else (bif Nat.blt b 2 then r_1001_1 else r_1001_2))
def pb_1001 (b : Nat) : Nat := (bif Nat.blt b 1 then 0 else (bif Nat.blt b 2 then 46 else 47))
def rb_1009 (b : Nat) : List (Instr × Nat × Nat) := (bif Nat.blt b 3 then (bif Nat.blt b 1 then r_1009_0 else (bif Nat.blt b 2 then r_1009_1 else r_1009_2)) else (bif Nat.blt b 5 then (bif Nat.blt b 4 then r_1009_3 else r_1009_4) else (bif Nat.blt b 6 then r_1009_5 else r_1009_6)))
def pb_1009 (b : Nat) : Nat := (bif Nat.blt b 3 then (bif Nat.blt b 1 then 0 else (bif Nat.blt b 2 then 19 else 28)) else (bif Nat.blt b 5 then (bif Nat.blt b 4 then 57 else 58) else (bif Nat.blt b 6 then 160 else 166)))
def rb_1019 (b : Nat) : List (Instr × Nat × Nat) := r_1019_0
def pb_1019 (b : Nat) : Nat := 0
def rb_1027 (b : Nat) : List (Instr × Nat × Nat) := (bif Nat.blt b 2 then (bif Nat.blt b 1 then r_1027_0 else r_1027_1) else (bif Nat.blt b 3 then r_1027_2 else r_1027_3))
def pb_1027 (b : Nat) : Nat := (bif Nat.blt b 2 then (bif Nat.blt b 1 then 0 else 9) else (bif Nat.blt b 3 then 18 else 19))
def rb_1034 (b : Nat) : List (Instr × Nat × Nat) := (bif Nat.blt b 1 then r_1034_0 else (bif Nat.blt b 2 then r_1034_1 else r_1034_2))
def pb_1034 (b : Nat) : Nat := (bif Nat.blt b 1 then 0 else (bif Nat.blt b 2 then 15 else 17))
def rb_1041 (b : Nat) : List (Instr × Nat × Nat) := (bif Nat.blt b 2 then (bif Nat.blt b 1 then r_1041_0 else r_1041_1) else (bif Nat.blt b 3 then r_1041_2 else r_1041_3))
def pb_1041 (b : Nat) : Nat := (bif Nat.blt b 2 then (bif Nat.blt b 1 then 0 else 10) else (bif Nat.blt b 3 then 28 else 48))
def rb_1049 (b : Nat) : List (Instr × Nat × Nat) := (bif Nat.blt b 2 then (bif Nat.blt b 1 then r_1049_0 else r_1049_1) else (bif Nat.blt b 3 then r_1049_2 else r_1049_3))
def pb_1049 (b : Nat) : Nat := (bif Nat.blt b 2 then (bif Nat.blt b 1 then 0 else 12) else (bif Nat.blt b 3 then 14 else 29))
def rb_1056 (b : Nat) : List (Instr × Nat × Nat) := (bif Nat.blt b 4 then (bif Nat.blt b 2 then (bif Nat.blt b 1 then r_1056_0 else r_1056_1) else (bif Nat.blt b 3 then r_1056_2 else r_1056_3)) else (bif Nat.blt b 6 then (bif Nat.blt b 5 then r_1056_4 else r_1056_5) else (bif Nat.blt b 7 then r_1056_6 else (bif Nat.blt b 8 then r_1056_7 else r_1056_8))))
def pb_1056 (b : Nat) : Nat := (bif Nat.blt b 4 then (bif Nat.blt b 2 then (bif Nat.blt b 1 then 0 else 2) else (bif Nat.blt b 3 then 10 else 56)) else (bif Nat.blt b 6 then (bif Nat.blt b 5 then 57 else 73) else (bif Nat.blt b 7 then 98 else (bif Nat.blt b 8 then 100 else 152))))
def rb_1065 (b : Nat) : List (Instr × Nat × Nat) := (bif Nat.blt b 1 then r_1065_0 else (bif Nat.blt b 2 then r_1065_1 else r_1065_2))
def pb_1065 (b : Nat) : Nat := (bif Nat.blt b 1 then 0 else (bif Nat.blt b 2 then 16 else 17))
def rb_1073 (b : Nat) : List (Instr × Nat × Nat) := (bif Nat.blt b 2 then (bif Nat.blt b 1 then r_1073_0 else r_1073_1) else (bif Nat.blt b 3 then r_1073_2 else r_1073_3))
def pb_1073 (b : Nat) : Nat := (bif Nat.blt b 2 then (bif Nat.blt b 1 then 0 else 20) else (bif Nat.blt b 3 then 21 else 36))
def rb_1080 (b : Nat) : List (Instr × Nat × Nat) := r_1080_0
def pb_1080 (b : Nat) : Nat := 0
def rb_1089 (b : Nat) : List (Instr × Nat × Nat) := r_1089_0
def pb_1089 (b : Nat) : Nat := 0
def rb_1096 (b : Nat) : List (Instr × Nat × Nat) := r_1096_0
def pb_1096 (b : Nat) : Nat := 0
def rb_1104 (b : Nat) : List (Instr × Nat × Nat) := (bif Nat.blt b 1 then r_1104_0 else (bif Nat.blt b 2 then r_1104_1 else r_1104_2))
def pb_1104 (b : Nat) : Nat := (bif Nat.blt b 1 then 0 else (bif Nat.blt b 2 then 4 else 41))
def rb_1114 (b : Nat) : List (Instr × Nat × Nat) := (bif Nat.blt b 3 then (bif Nat.blt b 1 then r_1114_0 else (bif Nat.blt b 2 then r_1114_1 else r_1114_2)) else (bif Nat.blt b 5 then (bif Nat.blt b 4 then r_1114_3 else r_1114_4) else (bif Nat.blt b 6 then r_1114_5 else r_1114_6)))
def pb_1114 (b : Nat) : Nat := (bif Nat.blt b 3 then (bif Nat.blt b 1 then 0 else (bif Nat.blt b 2 then 21 else 23)) else (bif Nat.blt b 5 then (bif Nat.blt b 4 then 39 else 87) else (bif Nat.blt b 6 then 88 else 96)))
def rb_1121 (b : Nat) : List (Instr × Nat × Nat) := (bif Nat.blt b 3 then (bif Nat.blt b 1 then r_1121_0 else (bif Nat.blt b 2 then r_1121_1 else r_1121_2)) else (bif Nat.blt b 5 then (bif Nat.blt b 4 then r_1121_3 else r_1121_4) else (bif Nat.blt b 6 then r_1121_5 else r_1121_6)))
def pb_1121 (b : Nat) : Nat := (bif Nat.blt b 3 then (bif Nat.blt b 1 then 0 else (bif Nat.blt b 2 then 40 else 47)) else (bif Nat.blt b 5 then (bif Nat.blt b 4 then 54 else 60) else (bif Nat.blt b 6 then 65 else 70)))
def rb_1129 (b : Nat) : List (Instr × Nat × Nat) := (bif Nat.blt b 3 then (bif Nat.blt b 1 then r_1129_0 else (bif Nat.blt b 2 then r_1129_1 else r_1129_2)) else (bif Nat.blt b 5 then (bif Nat.blt b 4 then r_1129_3 else r_1129_4) else (bif Nat.blt b 6 then r_1129_5 else r_1129_6)))
def pb_1129 (b : Nat) : Nat := (bif Nat.blt b 3 then (bif Nat.blt b 1 then 0 else (bif Nat.blt b 2 then 4 else 29)) else (bif Nat.blt b 5 then (bif Nat.blt b 4 then 31 else 49) else (bif Nat.blt b 6 then 73 else 79)))
def rb_1136 (b : Nat) : List (Instr × Nat × Nat) := (bif Nat.blt b 2 then (bif Nat.blt b 1 then r_1136_0 else r_1136_1) else (bif Nat.blt b 3 then r_1136_2 else (bif Nat.blt b 4 then r_1136_3 else r_1136_4)))
def pb_1136 (b : Nat) : Nat := (bif Nat.blt b 2 then (bif Nat.blt b 1 then 0 else 4) else (bif Nat.blt b 3 then 25 else (bif Nat.blt b 4 then 26 else 34)))
def rb_1144 (b : Nat) : List (Instr × Nat × Nat) := (bif Nat.blt b 2 then (bif Nat.blt b 1 then r_1144_0 else r_1144_1) else (bif Nat.blt b 3 then r_1144_2 else (bif Nat.blt b 4 then r_1144_3 else r_1144_4)))
def pb_1144 (b : Nat) : Nat := (bif Nat.blt b 2 then (bif Nat.blt b 1 then 0 else 4) else (bif Nat.blt b 3 then 29 else (bif Nat.blt b 4 then 30 else 38)))
def rb_1154 (b : Nat) : List (Instr × Nat × Nat) := (bif Nat.blt b 1 then r_1154_0 else (bif Nat.blt b 2 then r_1154_1 else r_1154_2))
def pb_1154 (b : Nat) : Nat := (bif Nat.blt b 1 then 0 else (bif Nat.blt b 2 then 17 else 19))
def rb_1162 (b : Nat) : List (Instr × Nat × Nat) := (bif Nat.blt b 3 then (bif Nat.blt b 1 then r_1162_0 else (bif Nat.blt b 2 then r_1162_1 else r_1162_2)) else (bif Nat.blt b 5 then (bif Nat.blt b 4 then r_1162_3 else r_1162_4) else (bif Nat.blt b 6 then r_1162_5 else r_1162_6)))
def pb_1162 (b : Nat) : Nat := (bif Nat.blt b 3 then (bif Nat.blt b 1 then 0 else (bif Nat.blt b 2 then 18 else 32)) else (bif Nat.blt b 5 then (bif Nat.blt b 4 then 103 else 132) else (bif Nat.blt b 6 then 158 else 164)))
def rb_1169 (b : Nat) : List (Instr × Nat × Nat) := (bif Nat.blt b 1 then r_1169_0 else (bif Nat.blt b 2 then r_1169_1 else r_1169_2))
def pb_1169 (b : Nat) : Nat := (bif Nat.blt b 1 then 0 else (bif Nat.blt b 2 then 4 else 19))
def rb_1178 (b : Nat) : List (Instr × Nat × Nat) := (bif Nat.blt b 3 then (bif Nat.blt b 1 then r_1178_0 else (bif Nat.blt b 2 then r_1178_1 else r_1178_2)) else (bif Nat.blt b 5 then (bif Nat.blt b 4 then r_1178_3 else r_1178_4) else (bif Nat.blt b 6 then r_1178_5 else r_1178_6)))
def pb_1178 (b : Nat) : Nat := (bif Nat.blt b 3 then (bif Nat.blt b 1 then 0 else (bif Nat.blt b 2 then 13 else 15)) else (bif Nat.blt b 5 then (bif Nat.blt b 4 then 16 else 30) else (bif Nat.blt b 6 then 33 else 34)))
def rb_1187 (b : Nat) : List (Instr × Nat × Nat) := (bif Nat.blt b 2 then (bif Nat.blt b 1 then r_1187_0 else r_1187_1) else (bif Nat.blt b 3 then r_1187_2 else (bif Nat.blt b 4 then r_1187_3 else r_1187_4)))
def pb_1187 (b : Nat) : Nat := (bif Nat.blt b 2 then (bif Nat.blt b 1 then 0 else 26) else (bif Nat.blt b 3 then 28 else (bif Nat.blt b 4 then 48 else 50)))
def rb_1195 (b : Nat) : List (Instr × Nat × Nat) := (bif Nat.blt b 6 then (bif Nat.blt b 3 then (bif Nat.blt b 1 then r_1195_0 else (bif Nat.blt b 2 then r_1195_1 else r_1195_2)) else (bif Nat.blt b 4 then r_1195_3 else (bif Nat.blt b 5 then r_1195_4 else r_1195_5))) else (bif Nat.blt b 9 then (bif Nat.blt b 7 then r_1195_6 else (bif Nat.blt b 8 then r_1195_7 else r_1195_8)) else (bif Nat.blt b 11 then (bif Nat.blt b 10 then r_1195_9 else r_1195_10) else (bif Nat.blt b 12 then r_1195_11 else r_1195_12))))
def pb_1195 (b : Nat) : Nat := (bif Nat.blt b 6 then (bif Nat.blt b 3 then (bif Nat.blt b 1 then 0 else (bif Nat.blt b 2 then 27 else 29)) else (bif Nat.blt b 4 then 49 else (bif Nat.blt b 5 then 70 else 100))) else (bif Nat.blt b 9 then (bif Nat.blt b 7 then 123 else (bif Nat.blt b 8 then 125 else 139)) else (bif Nat.blt b 11 then (bif Nat.blt b 10 then 141 else 149) else (bif Nat.blt b 12 then 158 else 160))))
def rb_1200 (b : Nat) : List (Instr × Nat × Nat) := (bif Nat.blt b 3 then (bif Nat.blt b 1 then r_1200_0 else (bif Nat.blt b 2 then r_1200_1 else r_1200_2)) else (bif Nat.blt b 5 then (bif Nat.blt b 4 then r_1200_3 else r_1200_4) else (bif Nat.blt b 6 then r_1200_5 else r_1200_6)))
def pb_1200 (b : Nat) : Nat := (bif Nat.blt b 3 then (bif Nat.blt b 1 then 0 else (bif Nat.blt b 2 then 13 else 28)) else (bif Nat.blt b 5 then (bif Nat.blt b 4 then 49 else 59) else (bif Nat.blt b 6 then 81 else 82)))
def rb_1210 (b : Nat) : List (Instr × Nat × Nat) := (bif Nat.blt b 10 then (bif Nat.blt b 5 then (bif Nat.blt b 2 then (bif Nat.blt b 1 then r_1210_0 else r_1210_1) else (bif Nat.blt b 3 then r_1210_2 else (bif Nat.blt b 4 then r_1210_3 else r_1210_4))) else (bif Nat.blt b 7 then (bif Nat.blt b 6 then r_1210_5 else r_1210_6) else (bif Nat.blt b 8 then r_1210_7 else (bif Nat.blt b 9 then r_1210_8 else r_1210_9)))) else (bif Nat.blt b 15 then (bif Nat.blt b 12 then (bif Nat.blt b 11 then r_1210_10 else r_1210_11) else (bif Nat.blt b 13 then r_1210_12 else (bif Nat.blt b 14 then r_1210_13 else r_1210_14))) else (bif Nat.blt b 17 then (bif Nat.blt b 16 then r_1210_15 else r_1210_16) else (bif Nat.blt b 18 then r_1210_17 else (bif Nat.blt b 19 then r_1210_18 else r_1210_19)))))
def pb_1210 (b : Nat) : Nat := (bif Nat.blt b 10 then (bif Nat.blt b 5 then (bif Nat.blt b 2 then (bif Nat.blt b 1 then 0 else 16) else (bif Nat.blt b 3 then 18 else (bif Nat.blt b 4 then 30 else 32))) else (bif Nat.blt b 7 then (bif Nat.blt b 6 then 51 else 64) else (bif Nat.blt b 8 then 77 else (bif Nat.blt b 9 then 132 else 133)))) else (bif Nat.blt b 15 then (bif Nat.blt b 12 then (bif Nat.blt b 11 then 140 else 150) else (bif Nat.blt b 13 then 171 else (bif Nat.blt b 14 then 191 else 192))) else (bif Nat.blt b 17 then (bif Nat.blt b 16 then 219 else 221) else (bif Nat.blt b 18 then 229 else (bif Nat.blt b 19 then 237 else 239)))))
def rb_1217 (b : Nat) : List (Instr × Nat × Nat) := r_1217_0
def pb_1217 (b : Nat) : Nat := 0
def rb_1226 (b : Nat) : List (Instr × Nat × Nat) := (bif Nat.blt b 8 then (bif Nat.blt b 4 then (bif Nat.blt b 2 then (bif Nat.blt b 1 then r_1226_0 else r_1226_1) else (bif Nat.blt b 3 then r_1226_2 else r_1226_3)) else (bif Nat.blt b 6 then (bif Nat.blt b 5 then r_1226_4 else r_1226_5) else (bif Nat.blt b 7 then r_1226_6 else r_1226_7))) else (bif Nat.blt b 12 then (bif Nat.blt b 10 then (bif Nat.blt b 9 then r_1226_8 else r_1226_9) else (bif Nat.blt b 11 then r_1226_10 else r_1226_11)) else (bif Nat.blt b 14 then (bif Nat.blt b 13 then r_1226_12 else r_1226_13) else (bif Nat.blt b 15 then r_1226_14 else r_1226_15))))
def pb_1226 (b : Nat) : Nat := (bif Nat.blt b 8 then (bif Nat.blt b 4 then (bif Nat.blt b 2 then (bif Nat.blt b 1 then 0 else 18) else (bif Nat.blt b 3 then 20 else 25)) else (bif Nat.blt b 6 then (bif Nat.blt b 5 then 44 else 80) else (bif Nat.blt b 7 then 81 else 90))) else (bif Nat.blt b 12 then (bif Nat.blt b 10 then (bif Nat.blt b 9 then 112 else 116) else (bif Nat.blt b 11 then 117 else 129)) else (bif Nat.blt b 14 then (bif Nat.blt b 13 then 130 else 137) else (bif Nat.blt b 15 then 146 else 147))))
def rb_1233 (b : Nat) : List (Instr × Nat × Nat) := (bif Nat.blt b 1 then r_1233_0 else (bif Nat.blt b 2 then r_1233_1 else r_1233_2))
def pb_1233 (b : Nat) : Nat := (bif Nat.blt b 1 then 0 else (bif Nat.blt b 2 then 4 else 20))
def rb_1240 (b : Nat) : List (Instr × Nat × Nat) := (bif Nat.blt b 2 then (bif Nat.blt b 1 then r_1240_0 else r_1240_1) else (bif Nat.blt b 3 then r_1240_2 else (bif Nat.blt b 4 then r_1240_3 else r_1240_4)))
def pb_1240 (b : Nat) : Nat := (bif Nat.blt b 2 then (bif Nat.blt b 1 then 0 else 4) else (bif Nat.blt b 3 then 79 else (bif Nat.blt b 4 then 80 else 87)))
def rb_1251 (b : Nat) : List (Instr × Nat × Nat) := (bif Nat.blt b 3 then (bif Nat.blt b 1 then r_1251_0 else (bif Nat.blt b 2 then r_1251_1 else r_1251_2)) else (bif Nat.blt b 5 then (bif Nat.blt b 4 then r_1251_3 else r_1251_4) else (bif Nat.blt b 6 then r_1251_5 else r_1251_6)))
def pb_1251 (b : Nat) : Nat := (bif Nat.blt b 3 then (bif Nat.blt b 1 then 0 else (bif Nat.blt b 2 then 24 else 26)) else (bif Nat.blt b 5 then (bif Nat.blt b 4 then 40 else 67) else (bif Nat.blt b 6 then 90 else 92)))
def rb_1258 (b : Nat) : List (Instr × Nat × Nat) := (bif Nat.blt b 1 then r_1258_0 else (bif Nat.blt b 2 then r_1258_1 else r_1258_2))
def pb_1258 (b : Nat) : Nat := (bif Nat.blt b 1 then 0 else (bif Nat.blt b 2 then 19 else 23))
def rb_1266 (b : Nat) : List (Instr × Nat × Nat) := (bif Nat.blt b 1 then r_1266_0 else (bif Nat.blt b 2 then r_1266_1 else r_1266_2))
def pb_1266 (b : Nat) : Nat := (bif Nat.blt b 1 then 0 else (bif Nat.blt b 2 then 5 else 22))
def rb_1275 (b : Nat) : List (Instr × Nat × Nat) := (bif Nat.blt b 2 then (bif Nat.blt b 1 then r_1275_0 else r_1275_1) else (bif Nat.blt b 3 then r_1275_2 else (bif Nat.blt b 4 then r_1275_3 else r_1275_4)))
def pb_1275 (b : Nat) : Nat := (bif Nat.blt b 2 then (bif Nat.blt b 1 then 0 else 6) else (bif Nat.blt b 3 then 31 else (bif Nat.blt b 4 then 43 else 47)))
def rb_1283 (b : Nat) : List (Instr × Nat × Nat) := (bif Nat.blt b 2 then (bif Nat.blt b 1 then r_1283_0 else r_1283_1) else (bif Nat.blt b 3 then r_1283_2 else (bif Nat.blt b 4 then r_1283_3 else r_1283_4)))
def pb_1283 (b : Nat) : Nat := (bif Nat.blt b 2 then (bif Nat.blt b 1 then 0 else 26) else (bif Nat.blt b 3 then 30 else (bif Nat.blt b 4 then 50 else 92)))
def rb_1290 (b : Nat) : List (Instr × Nat × Nat) := (bif Nat.blt b 1 then r_1290_0 else (bif Nat.blt b 2 then r_1290_1 else r_1290_2))
def pb_1290 (b : Nat) : Nat := (bif Nat.blt b 1 then 0 else (bif Nat.blt b 2 then 5 else 31))
def rb_1298 (b : Nat) : List (Instr × Nat × Nat) := (bif Nat.blt b 2 then (bif Nat.blt b 1 then r_1298_0 else r_1298_1) else (bif Nat.blt b 3 then r_1298_2 else (bif Nat.blt b 4 then r_1298_3 else r_1298_4)))
def pb_1298 (b : Nat) : Nat := (bif Nat.blt b 2 then (bif Nat.blt b 1 then 0 else 17) else (bif Nat.blt b 3 then 19 else (bif Nat.blt b 4 then 32 else 57)))
def rb_1306 (b : Nat) : List (Instr × Nat × Nat) := (bif Nat.blt b 3 then (bif Nat.blt b 1 then r_1306_0 else (bif Nat.blt b 2 then r_1306_1 else r_1306_2)) else (bif Nat.blt b 5 then (bif Nat.blt b 4 then r_1306_3 else r_1306_4) else (bif Nat.blt b 6 then r_1306_5 else r_1306_6)))
def pb_1306 (b : Nat) : Nat := (bif Nat.blt b 3 then (bif Nat.blt b 1 then 0 else (bif Nat.blt b 2 then 13 else 28)) else (bif Nat.blt b 5 then (bif Nat.blt b 4 then 56 else 58) else (bif Nat.blt b 6 then 66 else 113)))
def rb_1314 (b : Nat) : List (Instr × Nat × Nat) := (bif Nat.blt b 1 then r_1314_0 else (bif Nat.blt b 2 then r_1314_1 else r_1314_2))
def pb_1314 (b : Nat) : Nat := (bif Nat.blt b 1 then 0 else (bif Nat.blt b 2 then 22 else 24))
def rb_1322 (b : Nat) : List (Instr × Nat × Nat) := (bif Nat.blt b 1 then r_1322_0 else (bif Nat.blt b 2 then r_1322_1 else r_1322_2))
def pb_1322 (b : Nat) : Nat := (bif Nat.blt b 1 then 0 else (bif Nat.blt b 2 then 27 else 28))
def rb_1331 (b : Nat) : List (Instr × Nat × Nat) := (bif Nat.blt b 1 then r_1331_0 else r_1331_1)
def pb_1331 (b : Nat) : Nat := (bif Nat.blt b 1 then 0 else 12)
def rb_1337 (b : Nat) : List (Instr × Nat × Nat) := (bif Nat.blt b 2 then (bif Nat.blt b 1 then r_1337_0 else r_1337_1) else (bif Nat.blt b 3 then r_1337_2 else (bif Nat.blt b 4 then r_1337_3 else r_1337_4)))
def pb_1337 (b : Nat) : Nat := (bif Nat.blt b 2 then (bif Nat.blt b 1 then 0 else 9) else (bif Nat.blt b 3 then 20 else (bif Nat.blt b 4 then 51 else 57)))
def rb_1348 (b : Nat) : List (Instr × Nat × Nat) := (bif Nat.blt b 4 then (bif Nat.blt b 2 then (bif Nat.blt b 1 then r_1348_0 else r_1348_1) else (bif Nat.blt b 3 then r_1348_2 else r_1348_3)) else (bif Nat.blt b 6 then (bif Nat.blt b 5 then r_1348_4 else r_1348_5) else (bif Nat.blt b 7 then r_1348_6 else r_1348_7)))
def pb_1348 (b : Nat) : Nat := (bif Nat.blt b 4 then (bif Nat.blt b 2 then (bif Nat.blt b 1 then 0 else 24) else (bif Nat.blt b 3 then 26 else 42)) else (bif Nat.blt b 6 then (bif Nat.blt b 5 then 59 else 62) else (bif Nat.blt b 7 then 65 else 106)))
def rb_1354 (b : Nat) : List (Instr × Nat × Nat) := (bif Nat.blt b 2 then (bif Nat.blt b 1 then r_1354_0 else r_1354_1) else (bif Nat.blt b 3 then r_1354_2 else r_1354_3))
def pb_1354 (b : Nat) : Nat := (bif Nat.blt b 2 then (bif Nat.blt b 1 then 0 else 14) else (bif Nat.blt b 3 then 29 else 30))
def rb_1363 (b : Nat) : List (Instr × Nat × Nat) := (bif Nat.blt b 4 then (bif Nat.blt b 2 then (bif Nat.blt b 1 then r_1363_0 else r_1363_1) else (bif Nat.blt b 3 then r_1363_2 else r_1363_3)) else (bif Nat.blt b 6 then (bif Nat.blt b 5 then r_1363_4 else r_1363_5) else (bif Nat.blt b 7 then r_1363_6 else r_1363_7)))
def pb_1363 (b : Nat) : Nat := (bif Nat.blt b 4 then (bif Nat.blt b 2 then (bif Nat.blt b 1 then 0 else 26) else (bif Nat.blt b 3 then 28 else 39)) else (bif Nat.blt b 6 then (bif Nat.blt b 5 then 59 else 60) else (bif Nat.blt b 7 then 64 else 90)))
def rb_1371 (b : Nat) : List (Instr × Nat × Nat) := (bif Nat.blt b 3 then (bif Nat.blt b 1 then r_1371_0 else (bif Nat.blt b 2 then r_1371_1 else r_1371_2)) else (bif Nat.blt b 5 then (bif Nat.blt b 4 then r_1371_3 else r_1371_4) else (bif Nat.blt b 6 then r_1371_5 else r_1371_6)))
def pb_1371 (b : Nat) : Nat := (bif Nat.blt b 3 then (bif Nat.blt b 1 then 0 else (bif Nat.blt b 2 then 9 else 21)) else (bif Nat.blt b 5 then (bif Nat.blt b 4 then 40 else 65) else (bif Nat.blt b 6 then 81 else 83)))
def rb_1379 (b : Nat) : List (Instr × Nat × Nat) := (bif Nat.blt b 3 then (bif Nat.blt b 1 then r_1379_0 else (bif Nat.blt b 2 then r_1379_1 else r_1379_2)) else (bif Nat.blt b 4 then r_1379_3 else (bif Nat.blt b 5 then r_1379_4 else r_1379_5)))
def pb_1379 (b : Nat) : Nat := (bif Nat.blt b 3 then (bif Nat.blt b 1 then 0 else (bif Nat.blt b 2 then 16 else 18)) else (bif Nat.blt b 4 then 34 else (bif Nat.blt b 5 then 65 else 67)))
def rb_1387 (b : Nat) : List (Instr × Nat × Nat) := (bif Nat.blt b 5 then (bif Nat.blt b 2 then (bif Nat.blt b 1 then r_1387_0 else r_1387_1) else (bif Nat.blt b 3 then r_1387_2 else (bif Nat.blt b 4 then r_1387_3 else r_1387_4))) else (bif Nat.blt b 7 then (bif Nat.blt b 6 then r_1387_5 else r_1387_6) else (bif Nat.blt b 8 then r_1387_7 else (bif Nat.blt b 9 then r_1387_8 else r_1387_9))))
def pb_1387 (b : Nat) : Nat := (bif Nat.blt b 5 then (bif Nat.blt b 2 then (bif Nat.blt b 1 then 0 else 16) else (bif Nat.blt b 3 then 18 else (bif Nat.blt b 4 then 42 else 46))) else (bif Nat.blt b 7 then (bif Nat.blt b 6 then 47 else 67) else (bif Nat.blt b 8 then 68 else (bif Nat.blt b 9 then 88 else 89))))
def rb_1394 (b : Nat) : List (Instr × Nat × Nat) := (bif Nat.blt b 2 then (bif Nat.blt b 1 then r_1394_0 else r_1394_1) else (bif Nat.blt b 3 then r_1394_2 else (bif Nat.blt b 4 then r_1394_3 else r_1394_4)))
def pb_1394 (b : Nat) : Nat := (bif Nat.blt b 2 then (bif Nat.blt b 1 then 0 else 12) else (bif Nat.blt b 3 then 24 else (bif Nat.blt b 4 then 33 else 34)))
def rb_1402 (b : Nat) : List (Instr × Nat × Nat) := (bif Nat.blt b 4 then (bif Nat.blt b 2 then (bif Nat.blt b 1 then r_1402_0 else r_1402_1) else (bif Nat.blt b 3 then r_1402_2 else r_1402_3)) else (bif Nat.blt b 6 then (bif Nat.blt b 5 then r_1402_4 else r_1402_5) else (bif Nat.blt b 7 then r_1402_6 else (bif Nat.blt b 8 then r_1402_7 else r_1402_8))))
def pb_1402 (b : Nat) : Nat := (bif Nat.blt b 4 then (bif Nat.blt b 2 then (bif Nat.blt b 1 then 0 else 27) else (bif Nat.blt b 3 then 29 else 42)) else (bif Nat.blt b 6 then (bif Nat.blt b 5 then 70 else 72) else (bif Nat.blt b 7 then 73 else (bif Nat.blt b 8 then 96 else 98))))
def rb_1409 (b : Nat) : List (Instr × Nat × Nat) := (bif Nat.blt b 3 then (bif Nat.blt b 1 then r_1409_0 else (bif Nat.blt b 2 then r_1409_1 else r_1409_2)) else (bif Nat.blt b 4 then r_1409_3 else (bif Nat.blt b 5 then r_1409_4 else r_1409_5)))
def pb_1409 (b : Nat) : Nat := (bif Nat.blt b 3 then (bif Nat.blt b 1 then 0 else (bif Nat.blt b 2 then 22 else 24)) else (bif Nat.blt b 4 then 25 else (bif Nat.blt b 5 then 52 else 53)))
def rb_1418 (b : Nat) : List (Instr × Nat × Nat) := (bif Nat.blt b 2 then (bif Nat.blt b 1 then r_1418_0 else r_1418_1) else (bif Nat.blt b 3 then r_1418_2 else (bif Nat.blt b 4 then r_1418_3 else r_1418_4)))
def pb_1418 (b : Nat) : Nat := (bif Nat.blt b 2 then (bif Nat.blt b 1 then 0 else 19) else (bif Nat.blt b 3 then 29 else (bif Nat.blt b 4 then 33 else 34)))
def rb_1427 (b : Nat) : List (Instr × Nat × Nat) := (bif Nat.blt b 5 then (bif Nat.blt b 2 then (bif Nat.blt b 1 then r_1427_0 else r_1427_1) else (bif Nat.blt b 3 then r_1427_2 else (bif Nat.blt b 4 then r_1427_3 else r_1427_4))) else (bif Nat.blt b 8 then (bif Nat.blt b 6 then r_1427_5 else (bif Nat.blt b 7 then r_1427_6 else r_1427_7)) else (bif Nat.blt b 9 then r_1427_8 else (bif Nat.blt b 10 then r_1427_9 else r_1427_10))))
def pb_1427 (b : Nat) : Nat := (bif Nat.blt b 5 then (bif Nat.blt b 2 then (bif Nat.blt b 1 then 0 else 20) else (bif Nat.blt b 3 then 21 else (bif Nat.blt b 4 then 42 else 44))) else (bif Nat.blt b 8 then (bif Nat.blt b 6 then 90 else (bif Nat.blt b 7 then 103 else 116)) else (bif Nat.blt b 9 then 121 else (bif Nat.blt b 10 then 135 else 137))))
def rb_1433 (b : Nat) : List (Instr × Nat × Nat) := (bif Nat.blt b 2 then (bif Nat.blt b 1 then r_1433_0 else r_1433_1) else (bif Nat.blt b 3 then r_1433_2 else (bif Nat.blt b 4 then r_1433_3 else r_1433_4)))
def pb_1433 (b : Nat) : Nat := (bif Nat.blt b 2 then (bif Nat.blt b 1 then 0 else 32) else (bif Nat.blt b 3 then 38 else (bif Nat.blt b 4 then 52 else 69)))
def rb_1441 (b : Nat) : List (Instr × Nat × Nat) := r_1441_0
def pb_1441 (b : Nat) : Nat := 0
def rb_1449 (b : Nat) : List (Instr × Nat × Nat) := (bif Nat.blt b 1 then r_1449_0 else r_1449_1)
def pb_1449 (b : Nat) : Nat := (bif Nat.blt b 1 then 0 else 29)
def rb_1457 (b : Nat) : List (Instr × Nat × Nat) := r_1457_0
def pb_1457 (b : Nat) : Nat := 0
def rb_1465 (b : Nat) : List (Instr × Nat × Nat) := (bif Nat.blt b 2 then (bif Nat.blt b 1 then r_1465_0 else r_1465_1) else (bif Nat.blt b 3 then r_1465_2 else r_1465_3))
def pb_1465 (b : Nat) : Nat := (bif Nat.blt b 2 then (bif Nat.blt b 1 then 0 else 16) else (bif Nat.blt b 3 then 33 else 64))
def rb_1473 (b : Nat) : List (Instr × Nat × Nat) := r_1473_0
def pb_1473 (b : Nat) : Nat := 0
def rb_1481 (b : Nat) : List (Instr × Nat × Nat) := (bif Nat.blt b 2 then (bif Nat.blt b 1 then r_1481_0 else r_1481_1) else (bif Nat.blt b 3 then r_1481_2 else (bif Nat.blt b 4 then r_1481_3 else r_1481_4)))
def pb_1481 (b : Nat) : Nat := (bif Nat.blt b 2 then (bif Nat.blt b 1 then 0 else 24) else (bif Nat.blt b 3 then 55 else (bif Nat.blt b 4 then 65 else 66)))
def rb_1489 (b : Nat) : List (Instr × Nat × Nat) := (bif Nat.blt b 1 then r_1489_0 else r_1489_1)
def pb_1489 (b : Nat) : Nat := (bif Nat.blt b 1 then 0 else 24)
def rb_1497 (b : Nat) : List (Instr × Nat × Nat) := (bif Nat.blt b 2 then (bif Nat.blt b 1 then r_1497_0 else r_1497_1) else (bif Nat.blt b 3 then r_1497_2 else r_1497_3))
def pb_1497 (b : Nat) : Nat := (bif Nat.blt b 2 then (bif Nat.blt b 1 then 0 else 16) else (bif Nat.blt b 3 then 39 else 62))
def rb_1505 (b : Nat) : List (Instr × Nat × Nat) := r_1505_0
def pb_1505 (b : Nat) : Nat := 0
def rb_1513 (b : Nat) : List (Instr × Nat × Nat) := (bif Nat.blt b 1 then r_1513_0 else (bif Nat.blt b 2 then r_1513_1 else r_1513_2))
def pb_1513 (b : Nat) : Nat := (bif Nat.blt b 1 then 0 else (bif Nat.blt b 2 then 23 else 25))
def rb_1521 (b : Nat) : List (Instr × Nat × Nat) := (bif Nat.blt b 4 then (bif Nat.blt b 2 then (bif Nat.blt b 1 then r_1521_0 else r_1521_1) else (bif Nat.blt b 3 then r_1521_2 else r_1521_3)) else (bif Nat.blt b 6 then (bif Nat.blt b 5 then r_1521_4 else r_1521_5) else (bif Nat.blt b 7 then r_1521_6 else (bif Nat.blt b 8 then r_1521_7 else r_1521_8))))
def pb_1521 (b : Nat) : Nat := (bif Nat.blt b 4 then (bif Nat.blt b 2 then (bif Nat.blt b 1 then 0 else 44) else (bif Nat.blt b 3 then 51 else 56)) else (bif Nat.blt b 6 then (bif Nat.blt b 5 then 61 else 66) else (bif Nat.blt b 7 then 71 else (bif Nat.blt b 8 then 76 else 81))))
def rb_1528 (b : Nat) : List (Instr × Nat × Nat) := (bif Nat.blt b 2 then (bif Nat.blt b 1 then r_1528_0 else r_1528_1) else (bif Nat.blt b 3 then r_1528_2 else (bif Nat.blt b 4 then r_1528_3 else r_1528_4)))
def pb_1528 (b : Nat) : Nat := (bif Nat.blt b 2 then (bif Nat.blt b 1 then 0 else 4) else (bif Nat.blt b 3 then 30 else (bif Nat.blt b 4 then 31 else 39)))
def rb_1536 (b : Nat) : List (Instr × Nat × Nat) := (bif Nat.blt b 1 then r_1536_0 else (bif Nat.blt b 2 then r_1536_1 else r_1536_2))
def pb_1536 (b : Nat) : Nat := (bif Nat.blt b 1 then 0 else (bif Nat.blt b 2 then 4 else 25))
def rb_1544 (b : Nat) : List (Instr × Nat × Nat) := (bif Nat.blt b 2 then (bif Nat.blt b 1 then r_1544_0 else r_1544_1) else (bif Nat.blt b 3 then r_1544_2 else (bif Nat.blt b 4 then r_1544_3 else r_1544_4)))
def pb_1544 (b : Nat) : Nat := (bif Nat.blt b 2 then (bif Nat.blt b 1 then 0 else 4) else (bif Nat.blt b 3 then 41 else (bif Nat.blt b 4 then 42 else 50)))
def rb_1552 (b : Nat) : List (Instr × Nat × Nat) := r_1552_0
def pb_1552 (b : Nat) : Nat := 0
def rb_1560 (b : Nat) : List (Instr × Nat × Nat) := (bif Nat.blt b 1 then r_1560_0 else r_1560_1)
def pb_1560 (b : Nat) : Nat := (bif Nat.blt b 1 then 0 else 10)
def rb_1569 (b : Nat) : List (Instr × Nat × Nat) := r_1569_0
def pb_1569 (b : Nat) : Nat := 0
def rb_1576 (b : Nat) : List (Instr × Nat × Nat) := (bif Nat.blt b 3 then (bif Nat.blt b 1 then r_1576_0 else (bif Nat.blt b 2 then r_1576_1 else r_1576_2)) else (bif Nat.blt b 5 then (bif Nat.blt b 4 then r_1576_3 else r_1576_4) else (bif Nat.blt b 6 then r_1576_5 else r_1576_6)))
def pb_1576 (b : Nat) : Nat := (bif Nat.blt b 3 then (bif Nat.blt b 1 then 0 else (bif Nat.blt b 2 then 32 else 54)) else (bif Nat.blt b 5 then (bif Nat.blt b 4 then 56 else 82) else (bif Nat.blt b 6 then 84 else 111)))
def rb_1588 (b : Nat) : List (Instr × Nat × Nat) := (bif Nat.blt b 1 then r_1588_0 else (bif Nat.blt b 2 then r_1588_1 else r_1588_2))
def pb_1588 (b : Nat) : Nat := (bif Nat.blt b 1 then 0 else (bif Nat.blt b 2 then 50 else 75))
def rb_1593 (b : Nat) : List (Instr × Nat × Nat) := r_1593_0
def pb_1593 (b : Nat) : Nat := 0
def rb_1601 (b : Nat) : List (Instr × Nat × Nat) := r_1601_0
def pb_1601 (b : Nat) : Nat := 0
def rb_1609 (b : Nat) : List (Instr × Nat × Nat) := (bif Nat.blt b 1 then r_1609_0 else (bif Nat.blt b 2 then r_1609_1 else r_1609_2))
def pb_1609 (b : Nat) : Nat := (bif Nat.blt b 1 then 0 else (bif Nat.blt b 2 then 4 else 28))
def rb_1617 (b : Nat) : List (Instr × Nat × Nat) := (bif Nat.blt b 1 then r_1617_0 else (bif Nat.blt b 2 then r_1617_1 else r_1617_2))
def pb_1617 (b : Nat) : Nat := (bif Nat.blt b 1 then 0 else (bif Nat.blt b 2 then 4 else 35))
def rb_1626 (b : Nat) : List (Instr × Nat × Nat) := r_1626_0
def pb_1626 (b : Nat) : Nat := 0
def rb_1633 (b : Nat) : List (Instr × Nat × Nat) := r_1633_0
def pb_1633 (b : Nat) : Nat := 0
def rb_1641 (b : Nat) : List (Instr × Nat × Nat) := r_1641_0
def pb_1641 (b : Nat) : Nat := 0
def rb_1649 (b : Nat) : List (Instr × Nat × Nat) := (bif Nat.blt b 1 then r_1649_0 else (bif Nat.blt b 2 then r_1649_1 else r_1649_2))
def pb_1649 (b : Nat) : Nat := (bif Nat.blt b 1 then 0 else (bif Nat.blt b 2 then 39 else 40))
def rb_1657 (b : Nat) : List (Instr × Nat × Nat) := (bif Nat.blt b 2 then (bif Nat.blt b 1 then r_1657_0 else r_1657_1) else (bif Nat.blt b 3 then r_1657_2 else (bif Nat.blt b 4 then r_1657_3 else r_1657_4)))
def pb_1657 (b : Nat) : Nat := (bif Nat.blt b 2 then (bif Nat.blt b 1 then 0 else 10) else (bif Nat.blt b 3 then 14 else (bif Nat.blt b 4 then 114 else 120)))
def rb_1664 (b : Nat) : List (Instr × Nat × Nat) := (bif Nat.blt b 3 then (bif Nat.blt b 1 then r_1664_0 else (bif Nat.blt b 2 then r_1664_1 else r_1664_2)) else (bif Nat.blt b 5 then (bif Nat.blt b 4 then r_1664_3 else r_1664_4) else (bif Nat.blt b 6 then r_1664_5 else r_1664_6)))
def pb_1664 (b : Nat) : Nat := (bif Nat.blt b 3 then (bif Nat.blt b 1 then 0 else (bif Nat.blt b 2 then 20 else 29)) else (bif Nat.blt b 5 then (bif Nat.blt b 4 then 67 else 68) else (bif Nat.blt b 6 then 99 else 105)))
def rb_1672 (b : Nat) : List (Instr × Nat × Nat) := (bif Nat.blt b 1 then r_1672_0 else (bif Nat.blt b 2 then r_1672_1 else r_1672_2))
def pb_1672 (b : Nat) : Nat := (bif Nat.blt b 1 then 0 else (bif Nat.blt b 2 then 23 else 80))
def rb_1681 (b : Nat) : List (Instr × Nat × Nat) := (bif Nat.blt b 1 then r_1681_0 else (bif Nat.blt b 2 then r_1681_1 else r_1681_2))
def pb_1681 (b : Nat) : Nat := (bif Nat.blt b 1 then 0 else (bif Nat.blt b 2 then 20 else 25))
def rb_1688 (b : Nat) : List (Instr × Nat × Nat) := r_1688_0
def pb_1688 (b : Nat) : Nat := 0
def rb_1696 (b : Nat) : List (Instr × Nat × Nat) := (bif Nat.blt b 1 then r_1696_0 else (bif Nat.blt b 2 then r_1696_1 else r_1696_2))
def pb_1696 (b : Nat) : Nat := (bif Nat.blt b 1 then 0 else (bif Nat.blt b 2 then 4 else 39))
def rb_1704 (b : Nat) : List (Instr × Nat × Nat) := (bif Nat.blt b 2 then (bif Nat.blt b 1 then r_1704_0 else r_1704_1) else (bif Nat.blt b 3 then r_1704_2 else r_1704_3))
def pb_1704 (b : Nat) : Nat := (bif Nat.blt b 2 then (bif Nat.blt b 1 then 0 else 4) else (bif Nat.blt b 3 then 24 else 30))
def rb_1713 (b : Nat) : List (Instr × Nat × Nat) := r_1713_0
def pb_1713 (b : Nat) : Nat := 0
def rb_1722 (b : Nat) : List (Instr × Nat × Nat) := (bif Nat.blt b 2 then (bif Nat.blt b 1 then r_1722_0 else r_1722_1) else (bif Nat.blt b 3 then r_1722_2 else r_1722_3))
def pb_1722 (b : Nat) : Nat := (bif Nat.blt b 2 then (bif Nat.blt b 1 then 0 else 5) else (bif Nat.blt b 3 then 38 else 44))
def rb_1730 (b : Nat) : List (Instr × Nat × Nat) := (bif Nat.blt b 2 then (bif Nat.blt b 1 then r_1730_0 else r_1730_1) else (bif Nat.blt b 3 then r_1730_2 else r_1730_3))
def pb_1730 (b : Nat) : Nat := (bif Nat.blt b 2 then (bif Nat.blt b 1 then 0 else 10) else (bif Nat.blt b 3 then 28 else 33))
def rb_1737 (b : Nat) : List (Instr × Nat × Nat) := (bif Nat.blt b 2 then (bif Nat.blt b 1 then r_1737_0 else r_1737_1) else (bif Nat.blt b 3 then r_1737_2 else r_1737_3))
def pb_1737 (b : Nat) : Nat := (bif Nat.blt b 2 then (bif Nat.blt b 1 then 0 else 4) else (bif Nat.blt b 3 then 34 else 40))
def rb_1744 (b : Nat) : List (Instr × Nat × Nat) := (bif Nat.blt b 2 then (bif Nat.blt b 1 then r_1744_0 else r_1744_1) else (bif Nat.blt b 3 then r_1744_2 else r_1744_3))
def pb_1744 (b : Nat) : Nat := (bif Nat.blt b 2 then (bif Nat.blt b 1 then 0 else 4) else (bif Nat.blt b 3 then 26 else 32))
def rb_1752 (b : Nat) : List (Instr × Nat × Nat) := (bif Nat.blt b 2 then (bif Nat.blt b 1 then r_1752_0 else r_1752_1) else (bif Nat.blt b 3 then r_1752_2 else r_1752_3))
def pb_1752 (b : Nat) : Nat := (bif Nat.blt b 2 then (bif Nat.blt b 1 then 0 else 4) else (bif Nat.blt b 3 then 27 else 33))
def rb_1760 (b : Nat) : List (Instr × Nat × Nat) := r_1760_0
def pb_1760 (b : Nat) : Nat := 0
def rb_1769 (b : Nat) : List (Instr × Nat × Nat) := (bif Nat.blt b 1 then r_1769_0 else r_1769_1)
def pb_1769 (b : Nat) : Nat := (bif Nat.blt b 1 then 0 else 30)
def rb_1777 (b : Nat) : List (Instr × Nat × Nat) := (bif Nat.blt b 3 then (bif Nat.blt b 1 then r_1777_0 else (bif Nat.blt b 2 then r_1777_1 else r_1777_2)) else (bif Nat.blt b 4 then r_1777_3 else (bif Nat.blt b 5 then r_1777_4 else r_1777_5)))
def pb_1777 (b : Nat) : Nat := (bif Nat.blt b 3 then (bif Nat.blt b 1 then 0 else (bif Nat.blt b 2 then 7 else 27)) else (bif Nat.blt b 4 then 43 else (bif Nat.blt b 5 then 45 else 51)))
def rb_1784 (b : Nat) : List (Instr × Nat × Nat) := (bif Nat.blt b 3 then (bif Nat.blt b 1 then r_1784_0 else (bif Nat.blt b 2 then r_1784_1 else r_1784_2)) else (bif Nat.blt b 5 then (bif Nat.blt b 4 then r_1784_3 else r_1784_4) else (bif Nat.blt b 6 then r_1784_5 else r_1784_6)))
def pb_1784 (b : Nat) : Nat := (bif Nat.blt b 3 then (bif Nat.blt b 1 then 0 else (bif Nat.blt b 2 then 38 else 65)) else (bif Nat.blt b 5 then (bif Nat.blt b 4 then 85 else 124) else (bif Nat.blt b 6 then 151 else 166)))
def rb_1793 (b : Nat) : List (Instr × Nat × Nat) := (bif Nat.blt b 1 then r_1793_0 else (bif Nat.blt b 2 then r_1793_1 else r_1793_2))
def pb_1793 (b : Nat) : Nat := (bif Nat.blt b 1 then 0 else (bif Nat.blt b 2 then 16 else 17))
def rb_1801 (b : Nat) : List (Instr × Nat × Nat) := (bif Nat.blt b 1 then r_1801_0 else (bif Nat.blt b 2 then r_1801_1 else r_1801_2))
def pb_1801 (b : Nat) : Nat := (bif Nat.blt b 1 then 0 else (bif Nat.blt b 2 then 16 else 17))
def rb_1808 (b : Nat) : List (Instr × Nat × Nat) := (bif Nat.blt b 2 then (bif Nat.blt b 1 then r_1808_0 else r_1808_1) else (bif Nat.blt b 3 then r_1808_2 else (bif Nat.blt b 4 then r_1808_3 else r_1808_4)))
def pb_1808 (b : Nat) : Nat := (bif Nat.blt b 2 then (bif Nat.blt b 1 then 0 else 5) else (bif Nat.blt b 3 then 68 else (bif Nat.blt b 4 then 69 else 85)))
def rb_1817 (b : Nat) : List (Instr × Nat × Nat) := (bif Nat.blt b 5 then (bif Nat.blt b 2 then (bif Nat.blt b 1 then r_1817_0 else r_1817_1) else (bif Nat.blt b 3 then r_1817_2 else (bif Nat.blt b 4 then r_1817_3 else r_1817_4))) else (bif Nat.blt b 8 then (bif Nat.blt b 6 then r_1817_5 else (bif Nat.blt b 7 then r_1817_6 else r_1817_7)) else (bif Nat.blt b 9 then r_1817_8 else (bif Nat.blt b 10 then r_1817_9 else r_1817_10))))
def pb_1817 (b : Nat) : Nat := (bif Nat.blt b 5 then (bif Nat.blt b 2 then (bif Nat.blt b 1 then 0 else 2) else (bif Nat.blt b 3 then 41 else (bif Nat.blt b 4 then 42 else 43))) else (bif Nat.blt b 8 then (bif Nat.blt b 6 then 49 else (bif Nat.blt b 7 then 64 else 79)) else (bif Nat.blt b 9 then 94 else (bif Nat.blt b 10 then 125 else 126))))
def rb_1825 (b : Nat) : List (Instr × Nat × Nat) := (bif Nat.blt b 3 then (bif Nat.blt b 1 then r_1825_0 else (bif Nat.blt b 2 then r_1825_1 else r_1825_2)) else (bif Nat.blt b 5 then (bif Nat.blt b 4 then r_1825_3 else r_1825_4) else (bif Nat.blt b 6 then r_1825_5 else r_1825_6)))
def pb_1825 (b : Nat) : Nat := (bif Nat.blt b 3 then (bif Nat.blt b 1 then 0 else (bif Nat.blt b 2 then 36 else 39)) else (bif Nat.blt b 5 then (bif Nat.blt b 4 then 42 else 45) else (bif Nat.blt b 6 then 48 else 51)))
def rb_1833 (b : Nat) : List (Instr × Nat × Nat) := (bif Nat.blt b 3 then (bif Nat.blt b 1 then r_1833_0 else (bif Nat.blt b 2 then r_1833_1 else r_1833_2)) else (bif Nat.blt b 4 then r_1833_3 else (bif Nat.blt b 5 then r_1833_4 else r_1833_5)))
def pb_1833 (b : Nat) : Nat := (bif Nat.blt b 3 then (bif Nat.blt b 1 then 0 else (bif Nat.blt b 2 then 24 else 26)) else (bif Nat.blt b 4 then 28 else (bif Nat.blt b 5 then 57 else 63)))
def rb_1842 (b : Nat) : List (Instr × Nat × Nat) := (bif Nat.blt b 3 then (bif Nat.blt b 1 then r_1842_0 else (bif Nat.blt b 2 then r_1842_1 else r_1842_2)) else (bif Nat.blt b 5 then (bif Nat.blt b 4 then r_1842_3 else r_1842_4) else (bif Nat.blt b 6 then r_1842_5 else r_1842_6)))
def pb_1842 (b : Nat) : Nat := (bif Nat.blt b 3 then (bif Nat.blt b 1 then 0 else (bif Nat.blt b 2 then 12 else 36)) else (bif Nat.blt b 5 then (bif Nat.blt b 4 then 38 else 63) else (bif Nat.blt b 6 then 65 else 80)))
def rb_1850 (b : Nat) : List (Instr × Nat × Nat) := (bif Nat.blt b 1 then r_1850_0 else (bif Nat.blt b 2 then r_1850_1 else r_1850_2))
def pb_1850 (b : Nat) : Nat := (bif Nat.blt b 1 then 0 else (bif Nat.blt b 2 then 28 else 29))
def rb_1857 (b : Nat) : List (Instr × Nat × Nat) := r_1857_0
def pb_1857 (b : Nat) : Nat := 0
def rb_1864 (b : Nat) : List (Instr × Nat × Nat) := (bif Nat.blt b 1 then r_1864_0 else (bif Nat.blt b 2 then r_1864_1 else r_1864_2))
def pb_1864 (b : Nat) : Nat := (bif Nat.blt b 1 then 0 else (bif Nat.blt b 2 then 30 else 31))
def rb_1873 (b : Nat) : List (Instr × Nat × Nat) := (bif Nat.blt b 2 then (bif Nat.blt b 1 then r_1873_0 else r_1873_1) else (bif Nat.blt b 3 then r_1873_2 else (bif Nat.blt b 4 then r_1873_3 else r_1873_4)))
def pb_1873 (b : Nat) : Nat := (bif Nat.blt b 2 then (bif Nat.blt b 1 then 0 else 12) else (bif Nat.blt b 3 then 43 else (bif Nat.blt b 4 then 75 else 76)))
def rb_1884 (b : Nat) : List (Instr × Nat × Nat) := (bif Nat.blt b 1 then r_1884_0 else (bif Nat.blt b 2 then r_1884_1 else r_1884_2))
def pb_1884 (b : Nat) : Nat := (bif Nat.blt b 1 then 0 else (bif Nat.blt b 2 then 12 else 27))
def rb_1888 (b : Nat) : List (Instr × Nat × Nat) := (bif Nat.blt b 2 then (bif Nat.blt b 1 then r_1888_0 else r_1888_1) else (bif Nat.blt b 3 then r_1888_2 else r_1888_3))
def pb_1888 (b : Nat) : Nat := (bif Nat.blt b 2 then (bif Nat.blt b 1 then 0 else 2) else (bif Nat.blt b 3 then 20 else 26))
def rb_1897 (b : Nat) : List (Instr × Nat × Nat) := (bif Nat.blt b 3 then (bif Nat.blt b 1 then r_1897_0 else (bif Nat.blt b 2 then r_1897_1 else r_1897_2)) else (bif Nat.blt b 4 then r_1897_3 else (bif Nat.blt b 5 then r_1897_4 else r_1897_5)))
def pb_1897 (b : Nat) : Nat := (bif Nat.blt b 3 then (bif Nat.blt b 1 then 0 else (bif Nat.blt b 2 then 32 else 35)) else (bif Nat.blt b 4 then 38 else (bif Nat.blt b 5 then 41 else 44)))
def rb_1905 (b : Nat) : List (Instr × Nat × Nat) := (bif Nat.blt b 1 then r_1905_0 else (bif Nat.blt b 2 then r_1905_1 else r_1905_2))
def pb_1905 (b : Nat) : Nat := (bif Nat.blt b 1 then 0 else (bif Nat.blt b 2 then 32 else 33))
def rb_1913 (b : Nat) : List (Instr × Nat × Nat) := (bif Nat.blt b 1 then r_1913_0 else r_1913_1)
def pb_1913 (b : Nat) : Nat := (bif Nat.blt b 1 then 0 else 11)
def rb_1920 (b : Nat) : List (Instr × Nat × Nat) := r_1920_0
def pb_1920 (b : Nat) : Nat := 0
def rb_1930 (b : Nat) : List (Instr × Nat × Nat) := r_1930_0
def pb_1930 (b : Nat) : Nat := 0
def rb_1937 (b : Nat) : List (Instr × Nat × Nat) := (bif Nat.blt b 1 then r_1937_0 else r_1937_1)
def pb_1937 (b : Nat) : Nat := (bif Nat.blt b 1 then 0 else 36)
def rb_1946 (b : Nat) : List (Instr × Nat × Nat) := r_1946_0
def pb_1946 (b : Nat) : Nat := 0
def rb_1953 (b : Nat) : List (Instr × Nat × Nat) := (bif Nat.blt b 2 then (bif Nat.blt b 1 then r_1953_0 else r_1953_1) else (bif Nat.blt b 3 then r_1953_2 else r_1953_3))
def pb_1953 (b : Nat) : Nat := (bif Nat.blt b 2 then (bif Nat.blt b 1 then 0 else 11) else (bif Nat.blt b 3 then 25 else 27))
def rb_1960 (b : Nat) : List (Instr × Nat × Nat) := r_1960_0
def pb_1960 (b : Nat) : Nat := 0
def rb_1971 (b : Nat) : List (Instr × Nat × Nat) := r_1971_0
def pb_1971 (b : Nat) : Nat := 0
def rb_1978 (b : Nat) : List (Instr × Nat × Nat) := r_1978_0
def pb_1978 (b : Nat) : Nat := 0
def rb_1985 (b : Nat) : List (Instr × Nat × Nat) := (bif Nat.blt b 1 then r_1985_0 else (bif Nat.blt b 2 then r_1985_1 else r_1985_2))
def pb_1985 (b : Nat) : Nat := (bif Nat.blt b 1 then 0 else (bif Nat.blt b 2 then 8 else 9))
def rb_1994 (b : Nat) : List (Instr × Nat × Nat) := r_1994_0
def pb_1994 (b : Nat) : Nat := 0
def rb_2002 (b : Nat) : List (Instr × Nat × Nat) := r_2002_0
def pb_2002 (b : Nat) : Nat := 0
def rb_2010 (b : Nat) : List (Instr × Nat × Nat) := (bif Nat.blt b 1 then r_2010_0 else r_2010_1)
def pb_2010 (b : Nat) : Nat := (bif Nat.blt b 1 then 0 else 27)
def rb_2018 (b : Nat) : List (Instr × Nat × Nat) := r_2018_0
def pb_2018 (b : Nat) : Nat := 0
def rb_2024 (b : Nat) : List (Instr × Nat × Nat) := r_2024_0
def pb_2024 (b : Nat) : Nat := 0
def rb_2035 (b : Nat) : List (Instr × Nat × Nat) := r_2035_0
def pb_2035 (b : Nat) : Nat := 0
def rb_2042 (b : Nat) : List (Instr × Nat × Nat) := r_2042_0
def pb_2042 (b : Nat) : Nat := 0
def rb_2049 (b : Nat) : List (Instr × Nat × Nat) := (bif Nat.blt b 2 then (bif Nat.blt b 1 then r_2049_0 else r_2049_1) else (bif Nat.blt b 3 then r_2049_2 else r_2049_3))
def pb_2049 (b : Nat) : Nat := (bif Nat.blt b 2 then (bif Nat.blt b 1 then 0 else 13) else (bif Nat.blt b 3 then 17 else 18))
def rb_2058 (b : Nat) : List (Instr × Nat × Nat) := r_2058_0
def pb_2058 (b : Nat) : Nat := 0
def rb_2064 (b : Nat) : List (Instr × Nat × Nat) := r_2064_0
def pb_2064 (b : Nat) : Nat := 0
def rb_2075 (b : Nat) : List (Instr × Nat × Nat) := r_2075_0
def pb_2075 (b : Nat) : Nat := 0
def rb_2082 (b : Nat) : List (Instr × Nat × Nat) := r_2082_0
def pb_2082 (b : Nat) : Nat := 0
def rb_2089 (b : Nat) : List (Instr × Nat × Nat) := (bif Nat.blt b 2 then (bif Nat.blt b 1 then r_2089_0 else r_2089_1) else (bif Nat.blt b 3 then r_2089_2 else r_2089_3))
def pb_2089 (b : Nat) : Nat := (bif Nat.blt b 2 then (bif Nat.blt b 1 then 0 else 13) else (bif Nat.blt b 3 then 17 else 18))
def rb_2098 (b : Nat) : List (Instr × Nat × Nat) := r_2098_0
def pb_2098 (b : Nat) : Nat := 0
def rb_2106 (b : Nat) : List (Instr × Nat × Nat) := r_2106_0
def pb_2106 (b : Nat) : Nat := 0
def rb_2112 (b : Nat) : List (Instr × Nat × Nat) := r_2112_0
def pb_2112 (b : Nat) : Nat := 0
def rb_2123 (b : Nat) : List (Instr × Nat × Nat) := (bif Nat.blt b 1 then r_2123_0 else (bif Nat.blt b 2 then r_2123_1 else r_2123_2))
def pb_2123 (b : Nat) : Nat := (bif Nat.blt b 1 then 0 else (bif Nat.blt b 2 then 9 else 16))
def rb_2130 (b : Nat) : List (Instr × Nat × Nat) := (bif Nat.blt b 1 then r_2130_0 else (bif Nat.blt b 2 then r_2130_1 else r_2130_2))
def pb_2130 (b : Nat) : Nat := (bif Nat.blt b 1 then 0 else (bif Nat.blt b 2 then 15 else 16))
def rb_2137 (b : Nat) : List (Instr × Nat × Nat) := (bif Nat.blt b 2 then (bif Nat.blt b 1 then r_2137_0 else r_2137_1) else (bif Nat.blt b 3 then r_2137_2 else r_2137_3))
def pb_2137 (b : Nat) : Nat := (bif Nat.blt b 2 then (bif Nat.blt b 1 then 0 else 13) else (bif Nat.blt b 3 then 17 else 18))
def rb_2146 (b : Nat) : List (Instr × Nat × Nat) := r_2146_0
def pb_2146 (b : Nat) : Nat := 0
def rb_2154 (b : Nat) : List (Instr × Nat × Nat) := r_2154_0
def pb_2154 (b : Nat) : Nat := 0
def rb_2160 (b : Nat) : List (Instr × Nat × Nat) := r_2160_0
def pb_2160 (b : Nat) : Nat := 0
def rb_2171 (b : Nat) : List (Instr × Nat × Nat) := r_2171_0
def pb_2171 (b : Nat) : Nat := 0
def rb_2178 (b : Nat) : List (Instr × Nat × Nat) := r_2178_0
def pb_2178 (b : Nat) : Nat := 0
def rb_2185 (b : Nat) : List (Instr × Nat × Nat) := (bif Nat.blt b 2 then (bif Nat.blt b 1 then r_2185_0 else r_2185_1) else (bif Nat.blt b 3 then r_2185_2 else r_2185_3))
def pb_2185 (b : Nat) : Nat := (bif Nat.blt b 2 then (bif Nat.blt b 1 then 0 else 13) else (bif Nat.blt b 3 then 17 else 18))
def rb_2194 (b : Nat) : List (Instr × Nat × Nat) := r_2194_0
def pb_2194 (b : Nat) : Nat := 0
def rb_2202 (b : Nat) : List (Instr × Nat × Nat) := r_2202_0
def pb_2202 (b : Nat) : Nat := 0
def rb_2208 (b : Nat) : List (Instr × Nat × Nat) := r_2208_0
def pb_2208 (b : Nat) : Nat := 0
def rb_2219 (b : Nat) : List (Instr × Nat × Nat) := (bif Nat.blt b 1 then r_2219_0 else (bif Nat.blt b 2 then r_2219_1 else r_2219_2))
def pb_2219 (b : Nat) : Nat := (bif Nat.blt b 1 then 0 else (bif Nat.blt b 2 then 11 else 18))
def rb_2226 (b : Nat) : List (Instr × Nat × Nat) := r_2226_0
def pb_2226 (b : Nat) : Nat := 0
def rb_2233 (b : Nat) : List (Instr × Nat × Nat) := (bif Nat.blt b 2 then (bif Nat.blt b 1 then r_2233_0 else r_2233_1) else (bif Nat.blt b 3 then r_2233_2 else r_2233_3))
def pb_2233 (b : Nat) : Nat := (bif Nat.blt b 2 then (bif Nat.blt b 1 then 0 else 13) else (bif Nat.blt b 3 then 17 else 18))
def rb_2242 (b : Nat) : List (Instr × Nat × Nat) := r_2242_0
def pb_2242 (b : Nat) : Nat := 0
def rb_2250 (b : Nat) : List (Instr × Nat × Nat) := r_2250_0
def pb_2250 (b : Nat) : Nat := 0
def rb_2257 (b : Nat) : List (Instr × Nat × Nat) := (bif Nat.blt b 1 then r_2257_0 else (bif Nat.blt b 2 then r_2257_1 else r_2257_2))
def pb_2257 (b : Nat) : Nat := (bif Nat.blt b 1 then 0 else (bif Nat.blt b 2 then 28 else 57))
def rb_2265 (b : Nat) : List (Instr × Nat × Nat) := (bif Nat.blt b 1 then r_2265_0 else r_2265_1)
def pb_2265 (b : Nat) : Nat := (bif Nat.blt b 1 then 0 else 27)
def rb_2273 (b : Nat) : List (Instr × Nat × Nat) := r_2273_0
def pb_2273 (b : Nat) : Nat := 0
def rb_2281 (b : Nat) : List (Instr × Nat × Nat) := (bif Nat.blt b 27 then (bif Nat.blt b 13 then (bif Nat.blt b 6 then (bif Nat.blt b 3 then (bif Nat.blt b 1 then r_2281_0 else (bif Nat.blt b 2 then r_2281_1 else r_2281_2)) else (bif Nat.blt b 4 then r_2281_3 else (bif Nat.blt b 5 then r_2281_4 else r_2281_5))) else (bif Nat.blt b 9 then (bif Nat.blt b 7 then r_2281_6 else (bif Nat.blt b 8 then r_2281_7 else r_2281_8)) else (bif Nat.blt b 11 then (bif Nat.blt b 10 then r_2281_9 else r_2281_10) else (bif Nat.blt b 12 then r_2281_11 else r_2281_12)))) else (bif Nat.blt b 20 then (bif Nat.blt b 16 then (bif Nat.blt b 14 then r_2281_13 else (bif Nat.blt b 15 then r_2281_14 else r_2281_15)) else (bif Nat.blt b 18 then (bif Nat.blt b 17 then r_2281_16 else r_2281_17) else (bif Nat.blt b 19 then r_2281_18 else r_2281_19))) else (bif Nat.blt b 23 then (bif Nat.blt b 21 then r_2281_20 else (bif Nat.blt b 22 then r_2281_21 else r_2281_22)) else (bif Nat.blt b 25 then (bif Nat.blt b 24 then r_2281_23 else r_2281_24) else (bif Nat.blt b 26 then r_2281_25 else r_2281_26))))) else (bif Nat.blt b 41 then (bif Nat.blt b 34 then (bif Nat.blt b 30 then (bif Nat.blt b 28 then r_2281_27 else (bif Nat.blt b 29 then r_2281_28 else r_2281_29)) else (bif Nat.blt b 32 then (bif Nat.blt b 31 then r_2281_30 else r_2281_31) else (bif Nat.blt b 33 then r_2281_32 else r_2281_33))) else (bif Nat.blt b 37 then (bif Nat.blt b 35 then r_2281_34 else (bif Nat.blt b 36 then r_2281_35 else r_2281_36)) else (bif Nat.blt b 39 then (bif Nat.blt b 38 then r_2281_37 else r_2281_38) else (bif Nat.blt b 40 then r_2281_39 else r_2281_40)))) else (bif Nat.blt b 48 then (bif Nat.blt b 44 then (bif Nat.blt b 42 then r_2281_41 else (bif Nat.blt b 43 then r_2281_42 else r_2281_43)) else (bif Nat.blt b 46 then (bif Nat.blt b 45 then r_2281_44 else r_2281_45) else (bif Nat.blt b 47 then r_2281_46 else r_2281_47))) else (bif Nat.blt b 51 then (bif Nat.blt b 49 then r_2281_48 else (bif Nat.blt b 50 then r_2281_49 else r_2281_50)) else (bif Nat.blt b 53 then (bif Nat.blt b 52 then r_2281_51 else r_2281_52) else (bif Nat.blt b 54 then r_2281_53 else r_2281_54))))))
def pb_2281 (b : Nat) : Nat := (bif Nat.blt b 27 then (bif Nat.blt b 13 then (bif Nat.blt b 6 then (bif Nat.blt b 3 then (bif Nat.blt b 1 then 0 else (bif Nat.blt b 2 then 18 else 252)) else (bif Nat.blt b 4 then 315 else (bif Nat.blt b 5 then 328 else 361))) else (bif Nat.blt b 9 then (bif Nat.blt b 7 then 384 else (bif Nat.blt b 8 then 417 else 450)) else (bif Nat.blt b 11 then (bif Nat.blt b 10 then 483 else 516) else (bif Nat.blt b 12 then 559 else 612)))) else (bif Nat.blt b 20 then (bif Nat.blt b 16 then (bif Nat.blt b 14 then 645 else (bif Nat.blt b 15 then 688 else 721)) else (bif Nat.blt b 18 then (bif Nat.blt b 17 then 754 else 777) else (bif Nat.blt b 19 then 810 else 833))) else (bif Nat.blt b 23 then (bif Nat.blt b 21 then 856 else (bif Nat.blt b 22 then 889 else 912)) else (bif Nat.blt b 25 then (bif Nat.blt b 24 then 935 else 958) else (bif Nat.blt b 26 then 981 else 994))))) else (bif Nat.blt b 41 then (bif Nat.blt b 34 then (bif Nat.blt b 30 then (bif Nat.blt b 28 then 1027 else (bif Nat.blt b 29 then 1050 else 1083)) else (bif Nat.blt b 32 then (bif Nat.blt b 31 then 1126 else 1169) else (bif Nat.blt b 33 then 1182 else 1215))) else (bif Nat.blt b 37 then (bif Nat.blt b 35 then 1248 else (bif Nat.blt b 36 then 1261 else 1304)) else (bif Nat.blt b 39 then (bif Nat.blt b 38 then 1338 else 1382) else (bif Nat.blt b 40 then 1415 else 1448)))) else (bif Nat.blt b 48 then (bif Nat.blt b 44 then (bif Nat.blt b 42 then 1491 else (bif Nat.blt b 43 then 1514 else 1567)) else (bif Nat.blt b 46 then (bif Nat.blt b 45 then 1610 else 1653) else (bif Nat.blt b 47 then 1696 else 1739))) else (bif Nat.blt b 51 then (bif Nat.blt b 49 then 1772 else (bif Nat.blt b 50 then 1815 else 1838)) else (bif Nat.blt b 53 then (bif Nat.blt b 52 then 1861 else 1874) else (bif Nat.blt b 54 then 1887 else 1893))))))
def praw (m b : Nat) : List (Instr × Nat × Nat) := (bif Nat.blt m 1144 then (bif Nat.blt m 568 then (bif Nat.blt m 282 then (bif Nat.blt m 137 then (bif Nat.blt m 66 then (bif Nat.blt m 32 then (bif Nat.blt m 18 then (bif Nat.blt m 8 then rb_0 b else rb_8 b) else (bif Nat.blt m 27 then rb_18 b else rb_27 b)) else (bif Nat.blt m 51 then (bif Nat.blt m 42 then rb_32 b else rb_42 b) else (bif Nat.blt m 57 then rb_51 b else rb_57 b))) else (bif Nat.blt m 98 then (bif Nat.blt m 82 then (bif Nat.blt m 73 then rb_66 b else rb_73 b) else (bif Nat.blt m 89 then rb_82 b else rb_89 b)) else (bif Nat.blt m 113 then (bif Nat.blt m 106 then rb_98 b else rb_106 b) else (bif Nat.blt m 123 then rb_113 b else (bif Nat.blt m 132 then rb_123 b else rb_132 b))))) else (bif Nat.blt m 209 then (bif Nat.blt m 170 then (bif Nat.blt m 153 then (bif Nat.blt m 146 then rb_137 b else rb_146 b) else (bif Nat.blt m 163 then rb_153 b else rb_163 b)) else (bif Nat.blt m 185 then (bif Nat.blt m 178 then rb_170 b else rb_178 b) else (bif Nat.blt m 194 then rb_185 b else (bif Nat.blt m 201 then rb_194 b else rb_201 b)))) else (bif Nat.blt m 241 then (bif Nat.blt m 225 then (bif Nat.blt m 218 then rb_209 b else rb_218 b) else (bif Nat.blt m 233 then rb_225 b else rb_233 b)) else (bif Nat.blt m 256 then (bif Nat.blt m 249 then rb_241 b else rb_249 b) else (bif Nat.blt m 266 then rb_256 b else (bif Nat.blt m 273 then rb_266 b else rb_273 b)))))) else (bif Nat.blt m 426 then (bif Nat.blt m 354 then (bif Nat.blt m 315 then (bif Nat.blt m 298 then (bif Nat.blt m 288 then rb_282 b else rb_288 b) else (bif Nat.blt m 306 then rb_298 b else rb_306 b)) else (bif Nat.blt m 331 then (bif Nat.blt m 323 then rb_315 b else rb_323 b) else (bif Nat.blt m 339 then rb_331 b else (bif Nat.blt m 344 then rb_339 b else rb_344 b)))) else (bif Nat.blt m 384 then (bif Nat.blt m 369 then (bif Nat.blt m 361 then rb_354 b else rb_361 b) else (bif Nat.blt m 376 then rb_369 b else rb_376 b)) else (bif Nat.blt m 400 then (bif Nat.blt m 394 then rb_384 b else rb_394 b) else (bif Nat.blt m 411 then rb_400 b else (bif Nat.blt m 418 then rb_411 b else rb_418 b))))) else (bif Nat.blt m 499 then (bif Nat.blt m 458 then (bif Nat.blt m 443 then (bif Nat.blt m 435 then rb_426 b else rb_435 b) else (bif Nat.blt m 450 then rb_443 b else rb_450 b)) else (bif Nat.blt m 475 then (bif Nat.blt m 466 then rb_458 b else rb_466 b) else (bif Nat.blt m 481 then rb_475 b else (bif Nat.blt m 492 then rb_481 b else rb_492 b)))) else (bif Nat.blt m 529 then (bif Nat.blt m 515 then (bif Nat.blt m 507 then rb_499 b else rb_507 b) else (bif Nat.blt m 523 then rb_515 b else rb_523 b)) else (bif Nat.blt m 547 then (bif Nat.blt m 538 then rb_529 b else rb_538 b) else (bif Nat.blt m 553 then rb_547 b else (bif Nat.blt m 561 then rb_553 b else rb_561 b))))))) else (bif Nat.blt m 857 then (bif Nat.blt m 713 then (bif Nat.blt m 641 then (bif Nat.blt m 602 then (bif Nat.blt m 584 then (bif Nat.blt m 576 then rb_568 b else rb_576 b) else (bif Nat.blt m 593 then rb_584 b else rb_593 b)) else (bif Nat.blt m 616 then (bif Nat.blt m 611 then rb_602 b else rb_611 b) else (bif Nat.blt m 624 then rb_616 b else (bif Nat.blt m 633 then rb_624 b else rb_633 b)))) else (bif Nat.blt m 673 then (bif Nat.blt m 656 then (bif Nat.blt m 649 then rb_641 b else rb_649 b) else (bif Nat.blt m 664 then rb_656 b else rb_664 b)) else (bif Nat.blt m 690 then (bif Nat.blt m 681 then rb_673 b else rb_681 b) else (bif Nat.blt m 697 then rb_690 b else (bif Nat.blt m 704 then rb_697 b else rb_704 b))))) else (bif Nat.blt m 785 then (bif Nat.blt m 744 then (bif Nat.blt m 728 then (bif Nat.blt m 720 then rb_713 b else rb_720 b) else (bif Nat.blt m 736 then rb_728 b else rb_736 b)) else (bif Nat.blt m 762 then (bif Nat.blt m 752 then rb_744 b else rb_752 b) else (bif Nat.blt m 770 then rb_762 b else (bif Nat.blt m 778 then rb_770 b else rb_778 b)))) else (bif Nat.blt m 817 then (bif Nat.blt m 801 then (bif Nat.blt m 794 then rb_785 b else rb_794 b) else (bif Nat.blt m 810 then rb_801 b else rb_810 b)) else (bif Nat.blt m 834 then (bif Nat.blt m 826 then rb_817 b else rb_826 b) else (bif Nat.blt m 842 then rb_834 b else (bif Nat.blt m 849 then rb_842 b else rb_849 b)))))) else (bif Nat.blt m 1001 then (bif Nat.blt m 931 then (bif Nat.blt m 891 then (bif Nat.blt m 876 then (bif Nat.blt m 867 then rb_857 b else rb_867 b) else (bif Nat.blt m 882 then rb_876 b else rb_882 b)) else (bif Nat.blt m 905 then (bif Nat.blt m 898 then rb_891 b else rb_898 b) else (bif Nat.blt m 914 then rb_905 b else (bif Nat.blt m 921 then rb_914 b else rb_921 b)))) else (bif Nat.blt m 962 then (bif Nat.blt m 946 then (bif Nat.blt m 938 then rb_931 b else rb_938 b) else (bif Nat.blt m 953 then rb_946 b else rb_953 b)) else (bif Nat.blt m 977 then (bif Nat.blt m 970 then rb_962 b else rb_970 b) else (bif Nat.blt m 985 then rb_977 b else (bif Nat.blt m 993 then rb_985 b else rb_993 b))))) else (bif Nat.blt m 1073 then (bif Nat.blt m 1034 then (bif Nat.blt m 1019 then (bif Nat.blt m 1009 then rb_1001 b else rb_1009 b) else (bif Nat.blt m 1027 then rb_1019 b else rb_1027 b)) else (bif Nat.blt m 1049 then (bif Nat.blt m 1041 then rb_1034 b else rb_1041 b) else (bif Nat.blt m 1056 then rb_1049 b else (bif Nat.blt m 1065 then rb_1056 b else rb_1065 b)))) else (bif Nat.blt m 1104 then (bif Nat.blt m 1089 then (bif Nat.blt m 1080 then rb_1073 b else rb_1080 b) else (bif Nat.blt m 1096 then rb_1089 b else rb_1096 b)) else (bif Nat.blt m 1121 then (bif Nat.blt m 1114 then rb_1104 b else rb_1114 b) else (bif Nat.blt m 1129 then rb_1121 b else (bif Nat.blt m 1136 then rb_1129 b else rb_1136 b)))))))) else (bif Nat.blt m 1713 then (bif Nat.blt m 1427 then (bif Nat.blt m 1283 then (bif Nat.blt m 1210 then (bif Nat.blt m 1178 then (bif Nat.blt m 1162 then (bif Nat.blt m 1154 then rb_1144 b else rb_1154 b) else (bif Nat.blt m 1169 then rb_1162 b else rb_1169 b)) else (bif Nat.blt m 1195 then (bif Nat.blt m 1187 then rb_1178 b else rb_1187 b) else (bif Nat.blt m 1200 then rb_1195 b else rb_1200 b))) else (bif Nat.blt m 1240 then (bif Nat.blt m 1226 then (bif Nat.blt m 1217 then rb_1210 b else rb_1217 b) else (bif Nat.blt m 1233 then rb_1226 b else rb_1233 b)) else (bif Nat.blt m 1258 then (bif Nat.blt m 1251 then rb_1240 b else rb_1251 b) else (bif Nat.blt m 1266 then rb_1258 b else (bif Nat.blt m 1275 then rb_1266 b else rb_1275 b))))) else (bif Nat.blt m 1354 then (bif Nat.blt m 1314 then (bif Nat.blt m 1298 then (bif Nat.blt m 1290 then rb_1283 b else rb_1290 b) else (bif Nat.blt m 1306 then rb_1298 b else rb_1306 b)) else (bif Nat.blt m 1331 then (bif Nat.blt m 1322 then rb_1314 b else rb_1322 b) else (bif Nat.blt m 1337 then rb_1331 b else (bif Nat.blt m 1348 then rb_1337 b else rb_1348 b)))) else (bif Nat.blt m 1387 then (bif Nat.blt m 1371 then (bif Nat.blt m 1363 then rb_1354 b else rb_1363 b) else (bif Nat.blt m 1379 then rb_1371 b else rb_1379 b)) else (bif Nat.blt m 1402 then (bif Nat.blt m 1394 then rb_1387 b else rb_1394 b) else (bif Nat.blt m 1409 then rb_1402 b else (bif Nat.blt m 1418 then rb_1409 b else rb_1418 b)))))) else (bif Nat.blt m 1569 then (bif Nat.blt m 1497 then (bif Nat.blt m 1457 then (bif Nat.blt m 1441 then (bif Nat.blt m 1433 then rb_1427 b else rb_1433 b) else (bif Nat.blt m 1449 then rb_1441 b else rb_1449 b)) else (bif Nat.blt m 1473 then (bif Nat.blt m 1465 then rb_1457 b else rb_1465 b) else (bif Nat.blt m 1481 then rb_1473 b else (bif Nat.blt m 1489 then rb_1481 b else rb_1489 b)))) else (bif Nat.blt m 1528 then (bif Nat.blt m 1513 then (bif Nat.blt m 1505 then rb_1497 b else rb_1505 b) else (bif Nat.blt m 1521 then rb_1513 b else rb_1521 b)) else (bif Nat.blt m 1544 then (bif Nat.blt m 1536 then rb_1528 b else rb_1536 b) else (bif Nat.blt m 1552 then rb_1544 b else (bif Nat.blt m 1560 then rb_1552 b else rb_1560 b))))) else (bif Nat.blt m 1641 then (bif Nat.blt m 1601 then (bif Nat.blt m 1588 then (bif Nat.blt m 1576 then rb_1569 b else rb_1576 b) else (bif Nat.blt m 1593 then rb_1588 b else rb_1593 b)) else (bif Nat.blt m 1617 then (bif Nat.blt m 1609 then rb_1601 b else rb_1609 b) else (bif Nat.blt m 1626 then rb_1617 b else (bif Nat.blt m 1633 then rb_1626 b else rb_1633 b)))) else (bif Nat.blt m 1672 then (bif Nat.blt m 1657 then (bif Nat.blt m 1649 then rb_1641 b else rb_1649 b) else (bif Nat.blt m 1664 then rb_1657 b else rb_1664 b)) else (bif Nat.blt m 1688 then (bif Nat.blt m 1681 then rb_1672 b else rb_1681 b) else (bif Nat.blt m 1696 then rb_1688 b else (bif Nat.blt m 1704 then rb_1696 b else rb_1704 b))))))) else (bif Nat.blt m 2002 then (bif Nat.blt m 1857 then (bif Nat.blt m 1784 then (bif Nat.blt m 1744 then (bif Nat.blt m 1730 then (bif Nat.blt m 1722 then rb_1713 b else rb_1722 b) else (bif Nat.blt m 1737 then rb_1730 b else rb_1737 b)) else (bif Nat.blt m 1760 then (bif Nat.blt m 1752 then rb_1744 b else rb_1752 b) else (bif Nat.blt m 1769 then rb_1760 b else (bif Nat.blt m 1777 then rb_1769 b else rb_1777 b)))) else (bif Nat.blt m 1817 then (bif Nat.blt m 1801 then (bif Nat.blt m 1793 then rb_1784 b else rb_1793 b) else (bif Nat.blt m 1808 then rb_1801 b else rb_1808 b)) else (bif Nat.blt m 1833 then (bif Nat.blt m 1825 then rb_1817 b else rb_1825 b) else (bif Nat.blt m 1842 then rb_1833 b else (bif Nat.blt m 1850 then rb_1842 b else rb_1850 b))))) else (bif Nat.blt m 1930 then (bif Nat.blt m 1888 then (bif Nat.blt m 1873 then (bif Nat.blt m 1864 then rb_1857 b else rb_1864 b) else (bif Nat.blt m 1884 then rb_1873 b else rb_1884 b)) else (bif Nat.blt m 1905 then (bif Nat.blt m 1897 then rb_1888 b else rb_1897 b) else (bif Nat.blt m 1913 then rb_1905 b else (bif Nat.blt m 1920 then rb_1913 b else rb_1920 b)))) else (bif Nat.blt m 1960 then (bif Nat.blt m 1946 then (bif Nat.blt m 1937 then rb_1930 b else rb_1937 b) else (bif Nat.blt m 1953 then rb_1946 b else rb_1953 b)) else (bif Nat.blt m 1978 then (bif Nat.blt m 1971 then rb_1960 b else rb_1971 b) else (bif Nat.blt m 1985 then rb_1978 b else (bif Nat.blt m 1994 then rb_1985 b else rb_1994 b)))))) else (bif Nat.blt m 2146 then (bif Nat.blt m 2075 then (bif Nat.blt m 2035 then (bif Nat.blt m 2018 then (bif Nat.blt m 2010 then rb_2002 b else rb_2010 b) else (bif Nat.blt m 2024 then rb_2018 b else rb_2024 b)) else (bif Nat.blt m 2049 then (bif Nat.blt m 2042 then rb_2035 b else rb_2042 b) else (bif Nat.blt m 2058 then rb_2049 b else (bif Nat.blt m 2064 then rb_2058 b else rb_2064 b)))) else (bif Nat.blt m 2106 then (bif Nat.blt m 2089 then (bif Nat.blt m 2082 then rb_2075 b else rb_2082 b) else (bif Nat.blt m 2098 then rb_2089 b else rb_2098 b)) else (bif Nat.blt m 2123 then (bif Nat.blt m 2112 then rb_2106 b else rb_2112 b) else (bif Nat.blt m 2130 then rb_2123 b else (bif Nat.blt m 2137 then rb_2130 b else rb_2137 b))))) else (bif Nat.blt m 2219 then (bif Nat.blt m 2178 then (bif Nat.blt m 2160 then (bif Nat.blt m 2154 then rb_2146 b else rb_2154 b) else (bif Nat.blt m 2171 then rb_2160 b else rb_2171 b)) else (bif Nat.blt m 2194 then (bif Nat.blt m 2185 then rb_2178 b else rb_2185 b) else (bif Nat.blt m 2202 then rb_2194 b else (bif Nat.blt m 2208 then rb_2202 b else rb_2208 b)))) else (bif Nat.blt m 2250 then (bif Nat.blt m 2233 then (bif Nat.blt m 2226 then rb_2219 b else rb_2226 b) else (bif Nat.blt m 2242 then rb_2233 b else rb_2242 b)) else (bif Nat.blt m 2265 then (bif Nat.blt m 2257 then rb_2250 b else rb_2257 b) else (bif Nat.blt m 2273 then rb_2265 b else (bif Nat.blt m 2281 then rb_2273 b else rb_2281 b)))))))))
def ppc (m b : Nat) : Nat := (bif Nat.blt m 1144 then (bif Nat.blt m 568 then (bif Nat.blt m 282 then (bif Nat.blt m 137 then (bif Nat.blt m 66 then (bif Nat.blt m 32 then (bif Nat.blt m 18 then (bif Nat.blt m 8 then pb_0 b else pb_8 b) else (bif Nat.blt m 27 then pb_18 b else pb_27 b)) else (bif Nat.blt m 51 then (bif Nat.blt m 42 then pb_32 b else pb_42 b) else (bif Nat.blt m 57 then pb_51 b else pb_57 b))) else (bif Nat.blt m 98 then (bif Nat.blt m 82 then (bif Nat.blt m 73 then pb_66 b else pb_73 b) else (bif Nat.blt m 89 then pb_82 b else pb_89 b)) else (bif Nat.blt m 113 then (bif Nat.blt m 106 then pb_98 b else pb_106 b) else (bif Nat.blt m 123 then pb_113 b else (bif Nat.blt m 132 then pb_123 b else pb_132 b))))) else (bif Nat.blt m 209 then (bif Nat.blt m 170 then (bif Nat.blt m 153 then (bif Nat.blt m 146 then pb_137 b else pb_146 b) else (bif Nat.blt m 163 then pb_153 b else pb_163 b)) else (bif Nat.blt m 185 then (bif Nat.blt m 178 then pb_170 b else pb_178 b) else (bif Nat.blt m 194 then pb_185 b else (bif Nat.blt m 201 then pb_194 b else pb_201 b)))) else (bif Nat.blt m 241 then (bif Nat.blt m 225 then (bif Nat.blt m 218 then pb_209 b else pb_218 b) else (bif Nat.blt m 233 then pb_225 b else pb_233 b)) else (bif Nat.blt m 256 then (bif Nat.blt m 249 then pb_241 b else pb_249 b) else (bif Nat.blt m 266 then pb_256 b else (bif Nat.blt m 273 then pb_266 b else pb_273 b)))))) else (bif Nat.blt m 426 then (bif Nat.blt m 354 then (bif Nat.blt m 315 then (bif Nat.blt m 298 then (bif Nat.blt m 288 then pb_282 b else pb_288 b) else (bif Nat.blt m 306 then pb_298 b else pb_306 b)) else (bif Nat.blt m 331 then (bif Nat.blt m 323 then pb_315 b else pb_323 b) else (bif Nat.blt m 339 then pb_331 b else (bif Nat.blt m 344 then pb_339 b else pb_344 b)))) else (bif Nat.blt m 384 then (bif Nat.blt m 369 then (bif Nat.blt m 361 then pb_354 b else pb_361 b) else (bif Nat.blt m 376 then pb_369 b else pb_376 b)) else (bif Nat.blt m 400 then (bif Nat.blt m 394 then pb_384 b else pb_394 b) else (bif Nat.blt m 411 then pb_400 b else (bif Nat.blt m 418 then pb_411 b else pb_418 b))))) else (bif Nat.blt m 499 then (bif Nat.blt m 458 then (bif Nat.blt m 443 then (bif Nat.blt m 435 then pb_426 b else pb_435 b) else (bif Nat.blt m 450 then pb_443 b else pb_450 b)) else (bif Nat.blt m 475 then (bif Nat.blt m 466 then pb_458 b else pb_466 b) else (bif Nat.blt m 481 then pb_475 b else (bif Nat.blt m 492 then pb_481 b else pb_492 b)))) else (bif Nat.blt m 529 then (bif Nat.blt m 515 then (bif Nat.blt m 507 then pb_499 b else pb_507 b) else (bif Nat.blt m 523 then pb_515 b else pb_523 b)) else (bif Nat.blt m 547 then (bif Nat.blt m 538 then pb_529 b else pb_538 b) else (bif Nat.blt m 553 then pb_547 b else (bif Nat.blt m 561 then pb_553 b else pb_561 b))))))) else (bif Nat.blt m 857 then (bif Nat.blt m 713 then (bif Nat.blt m 641 then (bif Nat.blt m 602 then (bif Nat.blt m 584 then (bif Nat.blt m 576 then pb_568 b else pb_576 b) else (bif Nat.blt m 593 then pb_584 b else pb_593 b)) else (bif Nat.blt m 616 then (bif Nat.blt m 611 then pb_602 b else pb_611 b) else (bif Nat.blt m 624 then pb_616 b else (bif Nat.blt m 633 then pb_624 b else pb_633 b)))) else (bif Nat.blt m 673 then (bif Nat.blt m 656 then (bif Nat.blt m 649 then pb_641 b else pb_649 b) else (bif Nat.blt m 664 then pb_656 b else pb_664 b)) else (bif Nat.blt m 690 then (bif Nat.blt m 681 then pb_673 b else pb_681 b) else (bif Nat.blt m 697 then pb_690 b else (bif Nat.blt m 704 then pb_697 b else pb_704 b))))) else (bif Nat.blt m 785 then (bif Nat.blt m 744 then (bif Nat.blt m 728 then (bif Nat.blt m 720 then pb_713 b else pb_720 b) else (bif Nat.blt m 736 then pb_728 b else pb_736 b)) else (bif Nat.blt m 762 then (bif Nat.blt m 752 then pb_744 b else pb_752 b) else (bif Nat.blt m 770 then pb_762 b else (bif Nat.blt m 778 then pb_770 b else pb_778 b)))) else (bif Nat.blt m 817 then (bif Nat.blt m 801 then (bif Nat.blt m 794 then pb_785 b else pb_794 b) else (bif Nat.blt m 810 then pb_801 b else pb_810 b)) else (bif Nat.blt m 834 then (bif Nat.blt m 826 then pb_817 b else pb_826 b) else (bif Nat.blt m 842 then pb_834 b else (bif Nat.blt m 849 then pb_842 b else pb_849 b)))))) else (bif Nat.blt m 1001 then (bif Nat.blt m 931 then (bif Nat.blt m 891 then (bif Nat.blt m 876 then (bif Nat.blt m 867 then pb_857 b else pb_867 b) else (bif Nat.blt m 882 then pb_876 b else pb_882 b)) else (bif Nat.blt m 905 then (bif Nat.blt m 898 then pb_891 b else pb_898 b) else (bif Nat.blt m 914 then pb_905 b else (bif Nat.blt m 921 then pb_914 b else pb_921 b)))) else (bif Nat.blt m 962 then (bif Nat.blt m 946 then (bif Nat.blt m 938 then pb_931 b else pb_938 b) else (bif Nat.blt m 953 then pb_946 b else pb_953 b)) else (bif Nat.blt m 977 then (bif Nat.blt m 970 then pb_962 b else pb_970 b) else (bif Nat.blt m 985 then pb_977 b else (bif Nat.blt m 993 then pb_985 b else pb_993 b))))) else (bif Nat.blt m 1073 then (bif Nat.blt m 1034 then (bif Nat.blt m 1019 then (bif Nat.blt m 1009 then pb_1001 b else pb_1009 b) else (bif Nat.blt m 1027 then pb_1019 b else pb_1027 b)) else (bif Nat.blt m 1049 then (bif Nat.blt m 1041 then pb_1034 b else pb_1041 b) else (bif Nat.blt m 1056 then pb_1049 b else (bif Nat.blt m 1065 then pb_1056 b else pb_1065 b)))) else (bif Nat.blt m 1104 then (bif Nat.blt m 1089 then (bif Nat.blt m 1080 then pb_1073 b else pb_1080 b) else (bif Nat.blt m 1096 then pb_1089 b else pb_1096 b)) else (bif Nat.blt m 1121 then (bif Nat.blt m 1114 then pb_1104 b else pb_1114 b) else (bif Nat.blt m 1129 then pb_1121 b else (bif Nat.blt m 1136 then pb_1129 b else pb_1136 b)))))))) else (bif Nat.blt m 1713 then (bif Nat.blt m 1427 then (bif Nat.blt m 1283 then (bif Nat.blt m 1210 then (bif Nat.blt m 1178 then (bif Nat.blt m 1162 then (bif Nat.blt m 1154 then pb_1144 b else pb_1154 b) else (bif Nat.blt m 1169 then pb_1162 b else pb_1169 b)) else (bif Nat.blt m 1195 then (bif Nat.blt m 1187 then pb_1178 b else pb_1187 b) else (bif Nat.blt m 1200 then pb_1195 b else pb_1200 b))) else (bif Nat.blt m 1240 then (bif Nat.blt m 1226 then (bif Nat.blt m 1217 then pb_1210 b else pb_1217 b) else (bif Nat.blt m 1233 then pb_1226 b else pb_1233 b)) else (bif Nat.blt m 1258 then (bif Nat.blt m 1251 then pb_1240 b else pb_1251 b) else (bif Nat.blt m 1266 then pb_1258 b else (bif Nat.blt m 1275 then pb_1266 b else pb_1275 b))))) else (bif Nat.blt m 1354 then (bif Nat.blt m 1314 then (bif Nat.blt m 1298 then (bif Nat.blt m 1290 then pb_1283 b else pb_1290 b) else (bif Nat.blt m 1306 then pb_1298 b else pb_1306 b)) else (bif Nat.blt m 1331 then (bif Nat.blt m 1322 then pb_1314 b else pb_1322 b) else (bif Nat.blt m 1337 then pb_1331 b else (bif Nat.blt m 1348 then pb_1337 b else pb_1348 b)))) else (bif Nat.blt m 1387 then (bif Nat.blt m 1371 then (bif Nat.blt m 1363 then pb_1354 b else pb_1363 b) else (bif Nat.blt m 1379 then pb_1371 b else pb_1379 b)) else (bif Nat.blt m 1402 then (bif Nat.blt m 1394 then pb_1387 b else pb_1394 b) else (bif Nat.blt m 1409 then pb_1402 b else (bif Nat.blt m 1418 then pb_1409 b else pb_1418 b)))))) else (bif Nat.blt m 1569 then (bif Nat.blt m 1497 then (bif Nat.blt m 1457 then (bif Nat.blt m 1441 then (bif Nat.blt m 1433 then pb_1427 b else pb_1433 b) else (bif Nat.blt m 1449 then pb_1441 b else pb_1449 b)) else (bif Nat.blt m 1473 then (bif Nat.blt m 1465 then pb_1457 b else pb_1465 b) else (bif Nat.blt m 1481 then pb_1473 b else (bif Nat.blt m 1489 then pb_1481 b else pb_1489 b)))) else (bif Nat.blt m 1528 then (bif Nat.blt m 1513 then (bif Nat.blt m 1505 then pb_1497 b else pb_1505 b) else (bif Nat.blt m 1521 then pb_1513 b else pb_1521 b)) else (bif Nat.blt m 1544 then (bif Nat.blt m 1536 then pb_1528 b else pb_1536 b) else (bif Nat.blt m 1552 then pb_1544 b else (bif Nat.blt m 1560 then pb_1552 b else pb_1560 b))))) else (bif Nat.blt m 1641 then (bif Nat.blt m 1601 then (bif Nat.blt m 1588 then (bif Nat.blt m 1576 then pb_1569 b else pb_1576 b) else (bif Nat.blt m 1593 then pb_1588 b else pb_1593 b)) else (bif Nat.blt m 1617 then (bif Nat.blt m 1609 then pb_1601 b else pb_1609 b) else (bif Nat.blt m 1626 then pb_1617 b else (bif Nat.blt m 1633 then pb_1626 b else pb_1633 b)))) else (bif Nat.blt m 1672 then (bif Nat.blt m 1657 then (bif Nat.blt m 1649 then pb_1641 b else pb_1649 b) else (bif Nat.blt m 1664 then pb_1657 b else pb_1664 b)) else (bif Nat.blt m 1688 then (bif Nat.blt m 1681 then pb_1672 b else pb_1681 b) else (bif Nat.blt m 1696 then pb_1688 b else (bif Nat.blt m 1704 then pb_1696 b else pb_1704 b))))))) else (bif Nat.blt m 2002 then (bif Nat.blt m 1857 then (bif Nat.blt m 1784 then (bif Nat.blt m 1744 then (bif Nat.blt m 1730 then (bif Nat.blt m 1722 then pb_1713 b else pb_1722 b) else (bif Nat.blt m 1737 then pb_1730 b else pb_1737 b)) else (bif Nat.blt m 1760 then (bif Nat.blt m 1752 then pb_1744 b else pb_1752 b) else (bif Nat.blt m 1769 then pb_1760 b else (bif Nat.blt m 1777 then pb_1769 b else pb_1777 b)))) else (bif Nat.blt m 1817 then (bif Nat.blt m 1801 then (bif Nat.blt m 1793 then pb_1784 b else pb_1793 b) else (bif Nat.blt m 1808 then pb_1801 b else pb_1808 b)) else (bif Nat.blt m 1833 then (bif Nat.blt m 1825 then pb_1817 b else pb_1825 b) else (bif Nat.blt m 1842 then pb_1833 b else (bif Nat.blt m 1850 then pb_1842 b else pb_1850 b))))) else (bif Nat.blt m 1930 then (bif Nat.blt m 1888 then (bif Nat.blt m 1873 then (bif Nat.blt m 1864 then pb_1857 b else pb_1864 b) else (bif Nat.blt m 1884 then pb_1873 b else pb_1884 b)) else (bif Nat.blt m 1905 then (bif Nat.blt m 1897 then pb_1888 b else pb_1897 b) else (bif Nat.blt m 1913 then pb_1905 b else (bif Nat.blt m 1920 then pb_1913 b else pb_1920 b)))) else (bif Nat.blt m 1960 then (bif Nat.blt m 1946 then (bif Nat.blt m 1937 then pb_1930 b else pb_1937 b) else (bif Nat.blt m 1953 then pb_1946 b else pb_1953 b)) else (bif Nat.blt m 1978 then (bif Nat.blt m 1971 then pb_1960 b else pb_1971 b) else (bif Nat.blt m 1985 then pb_1978 b else (bif Nat.blt m 1994 then pb_1985 b else pb_1994 b)))))) else (bif Nat.blt m 2146 then (bif Nat.blt m 2075 then (bif Nat.blt m 2035 then (bif Nat.blt m 2018 then (bif Nat.blt m 2010 then pb_2002 b else pb_2010 b) else (bif Nat.blt m 2024 then pb_2018 b else pb_2024 b)) else (bif Nat.blt m 2049 then (bif Nat.blt m 2042 then pb_2035 b else pb_2042 b) else (bif Nat.blt m 2058 then pb_2049 b else (bif Nat.blt m 2064 then pb_2058 b else pb_2064 b)))) else (bif Nat.blt m 2106 then (bif Nat.blt m 2089 then (bif Nat.blt m 2082 then pb_2075 b else pb_2082 b) else (bif Nat.blt m 2098 then pb_2089 b else pb_2098 b)) else (bif Nat.blt m 2123 then (bif Nat.blt m 2112 then pb_2106 b else pb_2112 b) else (bif Nat.blt m 2130 then pb_2123 b else (bif Nat.blt m 2137 then pb_2130 b else pb_2137 b))))) else (bif Nat.blt m 2219 then (bif Nat.blt m 2178 then (bif Nat.blt m 2160 then (bif Nat.blt m 2154 then pb_2146 b else pb_2154 b) else (bif Nat.blt m 2171 then pb_2160 b else pb_2171 b)) else (bif Nat.blt m 2194 then (bif Nat.blt m 2185 then pb_2178 b else pb_2185 b) else (bif Nat.blt m 2202 then pb_2194 b else (bif Nat.blt m 2208 then pb_2202 b else pb_2208 b)))) else (bif Nat.blt m 2250 then (bif Nat.blt m 2233 then (bif Nat.blt m 2226 then pb_2219 b else pb_2226 b) else (bif Nat.blt m 2242 then pb_2233 b else pb_2242 b)) else (bif Nat.blt m 2265 then (bif Nat.blt m 2257 then pb_2250 b else pb_2257 b) else (bif Nat.blt m 2273 then pb_2265 b else (bif Nat.blt m 2281 then pb_2273 b else pb_2281 b)))))))))
def pids : List (Nat × Nat) := [(0, 3), (8, 1), (18, 5), (27, 4), (32, 2), (42, 3), (51, 1), (57, 3), (66, 3), (73, 1), (82, 3), (89, 1), (98, 6), (106, 7), (113, 1), (123, 7), (132, 4), (137, 1), (146, 10), (153, 1), (163, 3), (170, 3), (178, 3), (185, 3), (194, 4), (201, 3), (209, 4), (218, 3), (225, 4), (233, 4), (241, 3), (249, 1), (256, 1), (266, 6), (273, 8), (282, 3), (288, 4), (298, 3), (306, 1), (315, 7), (323, 4), (331, 8), (339, 3), (344, 6), (354, 6), (361, 1), (369, 9), (376, 4), (384, 4), (394, 9), (400, 4), (411, 6), (418, 3), (426, 3), (435, 7), (443, 5), (450, 7), (458, 3), (466, 4), (475, 3), (481, 7), (492, 9), (499, 6), (507, 4), (515, 7), (523, 10), (529, 1), (538, 11), (547, 10), (553, 3), (561, 9), (568, 1), (576, 2), (584, 1), (593, 7), (602, 5), (611, 3), (616, 4), (624, 16), (633, 3), (641, 1), (649, 1), (656, 7), (664, 8), (673, 3), (681, 5), (690, 4), (697, 4), (704, 4), (713, 3), (720, 8), (728, 4), (736, 7), (744, 2), (752, 2), (762, 3), (770, 7), (778, 1), (785, 3), (794, 3), (801, 1), (810, 3), (817, 1), (826, 5), (834, 1), (842, 5), (849, 1), (857, 3), (867, 7), (876, 6), (882, 3), (891, 1), (898, 5), (905, 1), (914, 1), (921, 3), (931, 3), (938, 3), (946, 3), (953, 3), (962, 3), (970, 13), (977, 3), (985, 8), (993, 3), (1001, 3), (1009, 7), (1019, 1), (1027, 4), (1034, 3), (1041, 4), (1049, 4), (1056, 9), (1065, 3), (1073, 4), (1080, 1), (1089, 1), (1096, 1), (1104, 3), (1114, 7), (1121, 7), (1129, 7), (1136, 5), (1144, 5), (1154, 3), (1162, 7), (1169, 3), (1178, 7), (1187, 5), (1195, 13), (1200, 7), (1210, 20), (1217, 1), (1226, 16), (1233, 3), (1240, 5), (1251, 7), (1258, 3), (1266, 3), (1275, 5), (1283, 5), (1290, 3), (1298, 5), (1306, 7), (1314, 3), (1322, 3), (1331, 2), (1337, 5), (1348, 8), (1354, 4), (1363, 8), (1371, 7), (1379, 6), (1387, 10), (1394, 5), (1402, 9), (1409, 6), (1418, 5), (1427, 11), (1433, 5), (1441, 1), (1449, 2), (1457, 1), (1465, 4), (1473, 1), (1481, 5), (1489, 2), (1497, 4), (1505, 1), (1513, 3), (1521, 9), (1528, 5), (1536, 3), (1544, 5), (1552, 1), (1560, 2), (1569, 1), (1576, 7), (1588, 3), (1593, 1), (1601, 1), (1609, 3), (1617, 3), (1626, 1), (1633, 1), (1641, 1), (1649, 3), (1657, 5), (1664, 7), (1672, 3), (1681, 3), (1688, 1), (1696, 3), (1704, 4), (1713, 1), (1722, 4), (1730, 4), (1737, 4), (1744, 4), (1752, 4), (1760, 1), (1769, 2), (1777, 6), (1784, 7), (1793, 3), (1801, 3), (1808, 5), (1817, 11), (1825, 7), (1833, 6), (1842, 7), (1850, 3), (1857, 1), (1864, 3), (1873, 5), (1884, 3), (1888, 4), (1897, 6), (1905, 3), (1913, 2), (1920, 1), (1930, 1), (1937, 2), (1946, 1), (1953, 4), (1960, 1), (1971, 1), (1978, 1), (1985, 3), (1994, 1), (2002, 1), (2010, 2), (2018, 1), (2024, 1), (2035, 1), (2042, 1), (2049, 4), (2058, 1), (2064, 1), (2075, 1), (2082, 1), (2089, 4), (2098, 1), (2106, 1), (2112, 1), (2123, 3), (2130, 3), (2137, 4), (2146, 1), (2154, 1), (2160, 1), (2171, 1), (2178, 1), (2185, 4), (2194, 1), (2202, 1), (2208, 1), (2219, 3), (2226, 1), (2233, 4), (2242, 1), (2250, 1), (2257, 3), (2265, 2), (2273, 1), (2281, 55)]
end
end
section
section
/-! A second machine, of numbers alone: its cells are numbered, it has ints, longs and references apart. 'wpL' says what must hold ahead of a list of instructions (resolved by program: places in blocks, fields by class and place, methods by number). -/
abbrev PH : Type := (Nat × Nat) × (Nat → Nat × Nat) × (Nat → Nat → Int32) × (Nat → Nat → Int64) × (Nat → Nat → Option Nat)
def hN (h : PH) : Nat := h.1.1
def hU (h : PH) : Nat := h.1.2
def hT (h : PH) (a : Nat) : Nat := (h.2.1 a).1
def hL (h : PH) (a : Nat) : Nat := (h.2.1 a).2
def hI (h : PH) (a k : Nat) : Int32 := h.2.2.1 a k
def hJ (h : PH) (a k : Nat) : Int64 := h.2.2.2.1 a k
def hR (h : PH) (a k : Nat) : Option Nat := h.2.2.2.2 a k
def up2 {α : Type} (f : Nat → Nat → α) (a k : Nat) (x : α) : Nat → Nat → α := fun b j => if b = a ∧ j = k then x else f b j
def sI (h : PH) (a k : Nat) (x : Int32) : PH := (h.1, h.2.1, up2 h.2.2.1 a k x, h.2.2.2.1, h.2.2.2.2)
def sJ (h : PH) (a k : Nat) (x : Int64) : PH := (h.1, h.2.1, h.2.2.1, up2 h.2.2.2.1 a k x, h.2.2.2.2)
def sR (h : PH) (a k : Nat) (x : Option Nat) : PH := (h.1, h.2.1, h.2.2.1, h.2.2.2.1, up2 h.2.2.2.2 a k x)
def cpI (h : PH) (src sp dst dp n : Nat) : PH := (h.1, h.2.1, (fun b j => if b = dst ∧ dp ≤ j ∧ j < dp + n then h.2.2.1 src (sp + (j - dp)) else h.2.2.1 b j), h.2.2.2.1, h.2.2.2.2)
/-- a new cell, of a kind, of a size -/
def nC (h : PH) (t n : Nat) : PH := ((h.1.1 + 1, h.1.2 + n), (fun b => if b = h.1.1 then (t, n) else h.2.1 b), (fun b j => if b = h.1.1 then 0 else h.2.2.1 b j), (fun b j => if b = h.1.1 then 0 else h.2.2.2.1 b j), (fun b j => if b = h.1.1 then none else h.2.2.2.2 b j))
def rfP (r : Option Nat) : Value := match r with | none => .null | some a => .ref a
def nth : List Value → Nat → Value
  | [], _ => .retAddr 0
  | v :: _, 0 => v
  | _ :: l, n + 1 => nth l n
def setN : List Value → Nat → Value → List Value
  | [], _, _ => []
  | _ :: l, 0, v => v :: l
  | w :: l, n + 1, v => w :: setN l n v
/-- no long just ahead of place k -/
def noLong : List Value → Nat → Bool
  | _, 0 => true
  | ls, k + 1 => match nth ls k with | .long _ => false | .double _ => false | _ => true
def lay : List Value → List Value
  | [] => []
  | .long x :: l => .long x :: .retAddr 0 :: lay l
  | .double x :: l => .double x :: .retAddr 0 :: lay l
  | v :: l => v :: lay l
def pad : Nat → List Value → List Value
  | 0, l => l
  | n + 1, [] => .retAddr 0 :: pad n []
  | n + 1, v :: l => v :: pad n l
def isIA (t : Nat) : Bool := t == 100 || t == 120
def inb (i : Int32) (n : Nat) : Prop := 0 ≤ i ∧ i.toNatClampNeg < n
def tagOf (t : ArrayType) : Nat := match t with | .int => 100 | .boolean => 101 | .long => 102 | _ => 0
def takeR : Nat → List Value → List Value → List Value
  | 0, _, acc => acc
  | _ + 1, [], acc => acc
  | n + 1, v :: l, acc => takeR n l (v :: acc)
def dropN : Nat → List Value → List Value
  | 0, l => l
  | _ + 1, [] => []
  | n + 1, _ :: l => dropN n l
/-- what a field is: 0 an int, 1 a long, 2 a reference, 3 a boolean -/
def okStack (l : List Value) : Bool := match l with
  | _ :: _ :: _ :: _ :: _ :: _ => false
  | _ => true
def pvsel (x t : Nat) : Nat := if 10000 ≤ x then x % 10000 else pbsel x t
def pvok (x t : Nat) : Bool := if 10000 ≤ x then t == x / 10000 else Nat.blt t 16 && Nat.blt 0 (pbsel x t)
def wpI (call : Nat → List Value → PH → (Option Value → PH → Prop) → Prop) (jump : Nat → List Value → List Value → PH → Prop) (fin : Option Value → PH → Prop) (rk : Nat)
    (i : Instr) (K : List Value → List Value → PH → Prop) (ls st : List Value) (h : PH) : Prop :=
  match i with
  | .ldc_w n => K ls (.int (nI n) :: st) h
  | .iconst v => K ls (.int (Int32.ofInt v) :: st) h
  | .ldc2_w n => K ls (.long (lN n) :: st) h
  | .jsr_w v => K ls (.long (Int64.ofInt v) :: st) h
  | .ldc k => hT h k = 130 ∧ K ls (.ref k :: st) h
  | .getstatic k => hT h k = 120 ∧ K ls (.ref k :: st) h
  | .aconst_null => K ls (.null :: st) h
  | .iload k => match nth ls k with | .int x => K ls (.int x :: st) h | _ => False
  | .lload k => match nth ls k with | .long x => K ls (.long x :: st) h | _ => False
  | .aload k => match nth ls k with | .ref x => K ls (.ref x :: st) h | .null => K ls (.null :: st) h | _ => False
  | .istore k => match st with | .int x :: st' => noLong ls k = true ∧ K (setN ls k (.int x)) st' h | _ => False
  | .astore k => match st with | .ref x :: st' => noLong ls k = true ∧ K (setN ls k (.ref x)) st' h | .null :: st' => noLong ls k = true ∧ K (setN ls k .null) st' h | _ => False
  | .lstore k => match st with | .long x :: st' => noLong ls k = true ∧ K (setN (setN ls k (.long x)) (k + 1) (.retAddr 0)) st' h | _ => False
  | .iinc k c => match nth ls k with | .int x => noLong ls k = true ∧ K (setN ls k (.int (x + Int32.ofInt c))) st h | _ => False
  | .iadd => match st with | .int y :: .int x :: st' => K ls (.int (x + y) :: st') h | _ => False
  | .isub => match st with | .int y :: .int x :: st' => K ls (.int (x - y) :: st') h | _ => False
  | .imul => match st with | .int y :: .int x :: st' => K ls (.int (x * y) :: st') h | _ => False
  | .iand => match st with | .int y :: .int x :: st' => K ls (.int (x &&& y) :: st') h | _ => False
  | .ior => match st with | .int y :: .int x :: st' => K ls (.int (x ||| y) :: st') h | _ => False
  | .ixor => match st with | .int y :: .int x :: st' => K ls (.int (x ^^^ y) :: st') h | _ => False
  | .idiv => match st with | .int y :: .int x :: st' => ¬ y = 0 ∧ K ls (.int (x / y) :: st') h | _ => False
  | .irem => match st with | .int y :: .int x :: st' => ¬ y = 0 ∧ K ls (.int (x - x / y * y) :: st') h | _ => False
  | .ishl => match st with | .int y :: .int x :: st' => K ls (.int (x <<< (y &&& 31)) :: st') h | _ => False
  | .ishr => match st with | .int y :: .int x :: st' => K ls (.int (x >>> (y &&& 31)) :: st') h | _ => False
  | .iushr => match st with | .int y :: .int x :: st' => K ls (.int (UInt32.toInt32 (x.toUInt32 >>> (y &&& 31).toUInt32)) :: st') h | _ => False
  | .ladd => match st with | .long y :: .long x :: st' => K ls (.long (x + y) :: st') h | _ => False
  | .lsub => match st with | .long y :: .long x :: st' => K ls (.long (x - y) :: st') h | _ => False
  | .lmul => match st with | .long y :: .long x :: st' => K ls (.long (x * y) :: st') h | _ => False
  | .land => match st with | .long y :: .long x :: st' => K ls (.long (x &&& y) :: st') h | _ => False
  | .lor => match st with | .long y :: .long x :: st' => K ls (.long (x ||| y) :: st') h | _ => False
  | .ldiv => match st with | .long y :: .long x :: st' => ¬ y = 0 ∧ K ls (.long (x / y) :: st') h | _ => False
  | .lrem => match st with | .long y :: .long x :: st' => ¬ y = 0 ∧ K ls (.long (x - x / y * y) :: st') h | _ => False
  | .lshl => match st with | .int y :: .long x :: st' => K ls (.long (x <<< (y.toInt64 &&& 63)) :: st') h | _ => False
  | .lshr => match st with | .int y :: .long x :: st' => K ls (.long (x >>> (y.toInt64 &&& 63)) :: st') h | _ => False
  | .lushr => match st with | .int y :: .long x :: st' => K ls (.long (UInt64.toInt64 (x.toUInt64 >>> (y.toInt64 &&& 63).toUInt64)) :: st') h | _ => False
  | .lcmp => match st with | .long y :: .long x :: st' => K ls (.int (lg_cmp x y) :: st') h | _ => False
  | .i2l => match st with | .int x :: st' => K ls (.long x.toInt64 :: st') h | _ => False
  | .l2i => match st with | .long x :: st' => K ls (.int x.toInt32 :: st') h | _ => False
  | .i2b => match st with | .int x :: st' => K ls (.int x.toInt8.toInt32 :: st') h | _ => False
  | .i2s => match st with | .int x :: st' => K ls (.int x.toInt16.toInt32 :: st') h | _ => False
  | .dup => match st with | .int x :: st' => K ls (.int x :: .int x :: st') h | .ref x :: st' => K ls (.ref x :: .ref x :: st') h | .null :: st' => K ls (.null :: .null :: st') h | _ => False
  | .dup2 => match st with | .int y :: .ref x :: st' => K ls (.int y :: .ref x :: .int y :: .ref x :: st') h | .long x :: st' => K ls (.long x :: .long x :: st') h | _ => False
  | .pop => match st with | .int _ :: st' => K ls st' h | .ref _ :: st' => K ls st' h | .null :: st' => K ls st' h | _ => False
  | .goto b => jump b.toNat ls st h
  | .jsr b => jump b.toNat ls st h
  | .if_icmp c b => match c with
    | .eq => match st with | .int y :: .int x :: st' => if x = y then jump b.toNat ls st' h else K ls st' h | _ => False
    | .ne => match st with | .int y :: .int x :: st' => if x = y then K ls st' h else jump b.toNat ls st' h | _ => False
    | .lt => match st with | .int y :: .int x :: st' => if x < y then jump b.toNat ls st' h else K ls st' h | _ => False
    | .ge => match st with | .int y :: .int x :: st' => if y ≤ x then jump b.toNat ls st' h else K ls st' h | _ => False
    | .gt => match st with | .int y :: .int x :: st' => if y < x then jump b.toNat ls st' h else K ls st' h | _ => False
    | .le => match st with | .int y :: .int x :: st' => if x ≤ y then jump b.toNat ls st' h else K ls st' h | _ => False
  | .ifCond c b => match c with
    | .eq => match st with | .int x :: st' => if x = 0 then jump b.toNat ls st' h else K ls st' h | _ => False
    | .ne => match st with | .int x :: st' => if x = 0 then K ls st' h else jump b.toNat ls st' h | _ => False
    | .lt => match st with | .int x :: st' => if x < 0 then jump b.toNat ls st' h else K ls st' h | _ => False
    | .ge => match st with | .int x :: st' => if 0 ≤ x then jump b.toNat ls st' h else K ls st' h | _ => False
    | .gt => match st with | .int x :: st' => if 0 < x then jump b.toNat ls st' h else K ls st' h | _ => False
    | .le => match st with | .int x :: st' => if x ≤ 0 then jump b.toNat ls st' h else K ls st' h | _ => False
  | .ifnull b => match st with | .null :: st' => jump b.toNat ls st' h | .ref _ :: st' => K ls st' h | _ => False
  | .ifnonnull b => match st with | .ref _ :: st' => jump b.toNat ls st' h | .null :: st' => K ls st' h | _ => False
  | .tableswitch d lo hi offs => match st with
    | .int x :: st' => if x.toInt < lo ∨ hi < x.toInt then jump d.toNat ls st' h else jump (offs.getD (x.toInt - lo).toNat 0).toNat ls st' h
    | _ => False
  | .getfield n => match st with
    | .ref a :: st' => hT h a = n / 64 % 16 ∧ match n / 1024 with | 1 => K ls (.long (hJ h a (n % 64)) :: st') h | 2 => K ls (rfP (hR h a (n % 64)) :: st') h | _ => K ls (.int (hI h a (n % 64)) :: st') h
    | _ => False
  | .putfield n => match st with
    | .int x :: .ref a :: st' => hT h a = n / 64 % 16 ∧ (n / 1024 = 0 ∨ n / 1024 = 3 ∧ (x = 0 ∨ x = 1)) ∧ K ls st' (sI h a (n % 64) x)
    | .long x :: .ref a :: st' => hT h a = n / 64 % 16 ∧ n / 1024 = 1 ∧ K ls st' (sJ h a (n % 64) x)
    | .null :: .ref a :: st' => hT h a = n / 64 % 16 ∧ n / 1024 = 2 ∧ K ls st' (sR h a (n % 64) none)
    | .ref b :: .ref a :: st' => hT h a = n / 64 % 16 ∧ n / 1024 = 2 ∧ K ls st' (sR h a (n % 64) (some b))
    | _ => False
  | .iaload => match st with | .int i :: .ref a :: st' => isIA (hT h a) = true ∧ inb i (hL h a) ∧ K ls (.int (hI h a i.toNatClampNeg) :: st') h | _ => False
  | .baload => match st with | .int i :: .ref a :: st' => hT h a = 101 ∧ inb i (hL h a) ∧ K ls (.int (hI h a i.toNatClampNeg) :: st') h | _ => False
  | .laload => match st with | .int i :: .ref a :: st' => hT h a = 102 ∧ inb i (hL h a) ∧ K ls (.long (hJ h a i.toNatClampNeg) :: st') h | _ => False
  | .aaload => match st with | .int i :: .ref a :: st' => 110 ≤ hT h a ∧ hT h a < 120 ∧ inb i (hL h a) ∧ K ls (rfP (hR h a i.toNatClampNeg) :: st') h | _ => False
  | .arraylength => match st with | .ref a :: st' => 100 ≤ hT h a ∧ hT h a ≤ 120 ∧ K ls (.int (nI (hL h a)) :: st') h | _ => False
  | .iastore => match st with | .int x :: .int i :: .ref a :: st' => hT h a = 100 ∧ inb i (hL h a) ∧ K ls st' (sI h a i.toNatClampNeg x) | _ => False
  | .bastore => match st with | .int x :: .int i :: .ref a :: st' => hT h a = 101 ∧ (x = 0 ∨ x = 1) ∧ inb i (hL h a) ∧ K ls st' (sI h a i.toNatClampNeg x) | _ => False
  | .lastore => match st with | .long x :: .int i :: .ref a :: st' => hT h a = 102 ∧ inb i (hL h a) ∧ K ls st' (sJ h a i.toNatClampNeg x) | _ => False
  | .aastore => match st with
    | .null :: .int i :: .ref a :: st' => 110 ≤ hT h a ∧ hT h a < 120 ∧ inb i (hL h a) ∧ K ls st' (sR h a i.toNatClampNeg none)
    | .ref b :: .int i :: .ref a :: st' => (hT h a = 110 ∧ hT h b = 8 ∨ hT h a = 111 ∧ 2 ≤ hT h b ∧ (hT h b ≤ 5 ∨ hT h b = 7 ∨ hT h b = 10) ∨ hT h a = 112 ∧ hT h b = 11) ∧ inb i (hL h a) ∧ K ls st' (sR h a i.toNatClampNeg (some b))
    | _ => False
  | .new n => 1 ≤ n / 64 ∧ n / 64 ≤ 13 ∧ K ls (.ref (hN h) :: st) (nC h (n / 64) (n % 64))
  | .newarray t => match st with | .int n :: st' => 0 ≤ n ∧ n.toNatClampNeg ≤ 1000 ∧ tagOf t ≠ 0 ∧ K ls (.ref (hN h) :: st') (nC h (tagOf t) n.toNatClampNeg) | _ => False
  | .anewarray t => match st with | .int n :: st' => 0 ≤ n ∧ n.toNatClampNeg ≤ 1000 ∧ 110 ≤ t ∧ t ≤ 112 ∧ K ls (.ref (hN h) :: st') (nC h t n.toNatClampNeg) | _ => False
  | .invokestatic m => (m % 8) ≤ st.length ∧ okStack (dropN (m % 8) st) = true ∧ call m (takeR (m % 8) st []) h (fun r h1 => K ls (r.toList ++ dropN (m % 8) st) h1)
  | .invokespecial m => match dropN (m % 8) st with
    | .ref a :: st' => (1 ≤ hT h a ∧ hT h a ≤ 13) ∧ okStack st' = true ∧ call m (.ref a :: takeR (m % 8) st []) h (fun r h1 => K ls (r.toList ++ st') h1)
    | _ => False
  | .invokevirtual x => match dropN (x % 8) st with
    | .ref a :: st' => pvok x (hT h a) = true ∧ okStack st' = true ∧ call (pvsel x (hT h a)) (.ref a :: takeR (x % 8) st []) h (fun r h1 => K ls (r.toList ++ st') h1)
    | _ => False
  | .invokedynamic k => match k with
    | 0 => match st with
      | .int n :: .int dp :: .ref dst :: .int sp :: .ref src :: st' => isIA (hT h src) = true ∧ hT h dst = 100 ∧ 0 ≤ n ∧ 0 ≤ dp ∧ 0 ≤ sp ∧ sp.toNatClampNeg + n.toNatClampNeg ≤ hL h src ∧ dp.toNatClampNeg + n.toNatClampNeg ≤ hL h dst ∧ okStack st' = true ∧ K ls st' (cpI h src sp.toNatClampNeg dst dp.toNatClampNeg n.toNatClampNeg)
      | _ => False
    | 1 => match st with | .ref a :: st' => hT h a = 130 ∧ okStack st' = true ∧ K ls (.int (nI (hL h a)) :: st') h | _ => False
    | 2 => match st with | .int i :: .ref a :: st' => hT h a = 130 ∧ inb i (hL h a) ∧ okStack st' = true ∧ K ls (.int (hI h a i.toNatClampNeg) :: st') h | _ => False
    | 3 => match st with | .int y :: .int x :: st' => okStack st' = true ∧ K ls (.int (if x < y then y else x) :: st') h | _ => False
    | 4 => match st with | .int y :: .int x :: st' => okStack st' = true ∧ K ls (.int (if y < x then y else x) :: st') h | _ => False
    | 5 => match st with | .ref _ :: st' => okStack st' = true ∧ K ls st' h | _ => False
    | _ => False
  | .ireturn => match st with | [.int x] => (rk = 1 ∨ rk = 2 ∧ (x = 0 ∨ x = 1)) ∧ fin (some (.int x)) h | _ => False
  | .lreturn => match st with | [.long x] => rk = 3 ∧ fin (some (.long x)) h | _ => False
  | .areturn => match st with | [.ref x] => rk = 4 ∧ fin (some (.ref x)) h | [.null] => rk = 4 ∧ fin (some .null) h | _ => False
  | .return_ => match st with | [] => rk = 0 ∧ fin none h | _ => False
  | _ => False
end
end
section
section
set_option maxHeartbeats 4000000 in
theorem wpI_mono {call call' : Nat → List Value → PH → (Option Value → PH → Prop) → Prop} {jump jump' : Nat → List Value → List Value → PH → Prop} {fin fin' : Option Value → PH → Prop} {rk : Nat} {K K' : List Value → List Value → PH → Prop}
    (hc : ∀ m a h J J', (∀ r g, J r g → J' r g) → call m a h J → call' m a h J') (hj : ∀ b ls st h, jump b ls st h → jump' b ls st h) (hf : ∀ r h, fin r h → fin' r h) (hK : ∀ ls st h, K ls st h → K' ls st h)
    (i : Instr) (ls st : List Value) (h : PH) : wpI call jump fin rk i K ls st h → wpI call' jump' fin' rk i K' ls st h := by
  unfold wpI
  repeat' split
  all_goals first
    | exact hK _ _ _
    | exact hj _ _ _ _
    | exact hf _ _
    | exact False.elim
    | exact And.imp_right (hK _ _ _)
    | exact And.imp_right (hf _ _)
    | exact And.imp_right (And.imp_right (hK _ _ _))
    | exact And.imp_right (And.imp_right (And.imp_right (hK _ _ _)))
    | exact And.imp_right (And.imp_right (And.imp_right (And.imp_right (hK _ _ _))))
    | exact And.imp_right (And.imp_right (And.imp_right (And.imp_right (And.imp_right (And.imp_right (And.imp_right (And.imp_right (hK _ _ _))))))))
    | exact And.imp_right (And.imp_right (hc _ _ _ _ _ fun _ _ => hK _ _ _))
    | exact And.imp_right (hc _ _ _ _ _ fun _ _ => hK _ _ _)
    | skip
set_option maxHeartbeats 8000000 in
/-- what a step does: it goes on, or jumps, or calls, or ends; and whoever can go on, jump, call or end so, can do the step -/
theorem wpI_shape {call : Nat → List Value → PH → (Option Value → PH → Prop) → Prop} {jump : Nat → List Value → List Value → PH → Prop} {fin : Option Value → PH → Prop} {rk : Nat} {K : List Value → List Value → PH → Prop}
    (i : Instr) (ls st : List Value) (h : PH) : wpI call jump fin rk i K ls st h →
    (∃ ls' st' h', K ls' st' h' ∧ ∀ (c : Nat → List Value → PH → (Option Value → PH → Prop) → Prop) (j : Nat → List Value → List Value → PH → Prop) (f : Option Value → PH → Prop) (J : List Value → List Value → PH → Prop), J ls' st' h' → wpI c j f rk i J ls st h)
    ∨ (∃ b st', jump b ls st' h ∧ ∀ (c : Nat → List Value → PH → (Option Value → PH → Prop) → Prop) (j : Nat → List Value → List Value → PH → Prop) (f : Option Value → PH → Prop) (J : List Value → List Value → PH → Prop), j b ls st' h → wpI c j f rk i J ls st h)
    ∨ (∃ m a st', call m a h (fun r h1 => K ls (r.toList ++ st') h1) ∧ ∀ (c : Nat → List Value → PH → (Option Value → PH → Prop) → Prop) (j : Nat → List Value → List Value → PH → Prop) (f : Option Value → PH → Prop) (J : List Value → List Value → PH → Prop), c m a h (fun r h1 => J ls (r.toList ++ st') h1) → wpI c j f rk i J ls st h)
    ∨ (∃ r, fin r h ∧ ∀ (c : Nat → List Value → PH → (Option Value → PH → Prop) → Prop) (j : Nat → List Value → List Value → PH → Prop) (f : Option Value → PH → Prop) (J : List Value → List Value → PH → Prop), f r h → wpI c j f rk i J ls st h) := by
  unfold wpI
  repeat' split
  all_goals intro H
  all_goals first
    | exact H.elim
    | exact Or.inl ⟨_, _, _, H, fun _ _ _ _ g => g⟩
    | exact Or.inl ⟨_, _, _, H.2, fun _ _ _ _ g => ⟨H.1, g⟩⟩
    | exact Or.inl ⟨_, _, _, H.2.2, fun _ _ _ _ g => ⟨H.1, H.2.1, g⟩⟩
    | exact Or.inl ⟨_, _, _, H.2.2.2, fun _ _ _ _ g => ⟨H.1, H.2.1, H.2.2.1, g⟩⟩
    | exact Or.inl ⟨_, _, _, H.2.2.2.2, fun _ _ _ _ g => ⟨H.1, H.2.1, H.2.2.1, H.2.2.2.1, g⟩⟩
    | exact Or.inl ⟨_, _, _, H.2.2.2.2.2.2.2.2, fun _ _ _ _ g => ⟨H.1, H.2.1, H.2.2.1, H.2.2.2.1, H.2.2.2.2.1, H.2.2.2.2.2.1, H.2.2.2.2.2.2.1, H.2.2.2.2.2.2.2.1, g⟩⟩
    | exact Or.inr (Or.inl ⟨_, _, H, fun _ _ _ _ g => g⟩)
    | exact Or.inr (Or.inr (Or.inl ⟨_, _, _, H.2, fun _ _ _ _ g => ⟨H.1, g⟩⟩))
    | exact Or.inr (Or.inr (Or.inl ⟨_, _, _, H.2.2, fun _ _ _ _ g => ⟨H.1, H.2.1, g⟩⟩))
    | exact Or.inr (Or.inr (Or.inr ⟨_, H.2, fun _ _ _ _ g => ⟨H.1, g⟩⟩))
    | skip
def wpL (call : Nat → List Value → PH → (Option Value → PH → Prop) → Prop) (jump : Nat → List Value → List Value → PH → Prop) (fin : Option Value → PH → Prop) (rk : Nat) : List Instr → List Value → List Value → PH → Prop
  | [] => fun _ _ _ => False
  | i :: is => wpI call jump fin rk i (wpL call jump fin rk is)
theorem wpL_mono {call call' : Nat → List Value → PH → (Option Value → PH → Prop) → Prop} {jump jump' : Nat → List Value → List Value → PH → Prop} {fin fin' : Option Value → PH → Prop} {rk : Nat}
    (hc : ∀ m a h J J', (∀ r g, J r g → J' r g) → call m a h J → call' m a h J') (hj : ∀ b ls st h, jump b ls st h → jump' b ls st h) (hf : ∀ r h, fin r h → fin' r h) : ∀ (is : List Instr) (ls st : List Value) (h : PH), wpL call jump fin rk is ls st h → wpL call' jump' fin' rk is ls st h
  | [], _, _, _ => id
  | i :: is, ls, st, h => wpI_mono hc hj hf (wpL_mono hc hj hf is) i ls st h
/-- method m, at block b, with n rounds and d calls open at most, ends with r and h' -/
def Ex : Nat → Nat → Nat → Nat → List Value → List Value → PH → Option Value → PH → Prop
  | 0, _, _, _, _, _, _, _, _ => False
  | n + 1, d, m, b, ls, st, h, r, h' => b < pnb m ∧ wpL (fun m' a g J => ∃ d', d = d' + 1 ∧ (lay a).length ≤ pnl m' ∧ ∃ r1 g1, Ex n d' m' 0 (pad (pnl m') (lay a)) [] g r1 g1 ∧ J r1 g1) (fun b' ls' st' g => Ex n d m b' ls' st' g r h') (fun r' g => r' = r ∧ g = h') (prk m) (pblk m b) ls st h
theorem Ex_mono : ∀ (n d m b : Nat) (ls st : List Value) (h : PH) (r : Option Value) (h' : PH), Ex n d m b ls st h r h' → Ex (n + 1) d m b ls st h r h'
  | 0, _, _, _, _, _, _, _, _, H => False.elim H
  | n + 1, d, m, b, ls, st, h, r, h', H => by
    unfold Ex at H ⊢
    refine ⟨H.1, wpL_mono ?_ ?_ (fun _ _ q => q) _ _ _ _ H.2⟩
    · rintro m' a g J J' hJ ⟨d', e, hl, r1, g1, h1, h2⟩
      exact ⟨d', e, hl, r1, g1, Ex_mono n _ _ _ _ _ _ _ _ h1, hJ _ _ h2⟩
    · intro b' ls' st' g q
      exact Ex_mono n _ _ _ _ _ _ _ _ q
theorem Ex_le {n k d m b : Nat} {ls st : List Value} {h h' : PH} {r : Option Value} (H : Ex n d m b ls st h r h') (hk : n ≤ k) : Ex k d m b ls st h r h' := by
  induction hk with
  | refl => exact H
  | step _ ih => exact Ex_mono _ _ _ _ _ _ _ _ _ ih
/-- one more open call does no harm -/
theorem Ex_deep : ∀ (n d m b : Nat) (ls st : List Value) (h : PH) (r : Option Value) (h' : PH), Ex n d m b ls st h r h' → Ex n (d + 1) m b ls st h r h'
  | 0, _, _, _, _, _, _, _, _, H => False.elim H
  | n + 1, d, m, b, ls, st, h, r, h', H => by
    unfold Ex at H ⊢
    refine ⟨H.1, wpL_mono ?_ ?_ (fun _ _ q => q) _ _ _ _ H.2⟩
    · rintro m' a g J J' hJ ⟨d', e, hl, r1, g1, h1, h2⟩
      exact ⟨d' + 1, by rw [e], hl, r1, g1, Ex_deep n _ _ _ _ _ _ _ _ h1, hJ _ _ h2⟩
    · intro b' ls' st' g q
      exact Ex_deep n _ _ _ _ _ _ _ _ q
/-- from here it ends, with Q -/
def WP (d m b : Nat) (ls st : List Value) (h : PH) (Q : Option Value → PH → Prop) : Prop := ∃ n r h', Ex n d m b ls st h r h' ∧ Q r h'
def Run (d m : Nat) (a : List Value) (h : PH) (Q : Option Value → PH → Prop) : Prop := (lay a).length ≤ pnl m ∧ WP d m 0 (pad (pnl m) (lay a)) [] h Q
theorem WP.mono {d m b : Nat} {ls st : List Value} {h : PH} {Q Q' : Option Value → PH → Prop} (H : WP d m b ls st h Q) (hQ : ∀ r g, Q r g → Q' r g) : WP d m b ls st h Q' := by
  obtain ⟨n, r, h', h1, h2⟩ := H
  exact ⟨n, r, h', h1, hQ _ _ h2⟩
theorem Run.mono {d m : Nat} {a : List Value} {h : PH} {Q Q' : Option Value → PH → Prop} (H : Run d m a h Q) (hQ : ∀ r g, Q r g → Q' r g) : Run d m a h Q' := ⟨H.1, WP.mono H.2 hQ⟩
theorem Run.deep {d m : Nat} {a : List Value} {h : PH} {Q : Option Value → PH → Prop} (k : Nat) (H : Run d m a h Q) : Run (d + k) m a h Q := by
  induction k with
  | zero => exact H
  | succ k ih =>
    obtain ⟨hl, n, r, h', h1, h2⟩ := ih
    exact ⟨hl, n, r, h', Ex_deep _ _ _ _ _ _ _ _ _ h1, h2⟩
/-- the calls and jumps of a walk -/
abbrev wCall (d : Nat) : Nat → List Value → PH → (Option Value → PH → Prop) → Prop := fun m' a g J => ∃ d', d = d' + 1 ∧ Run d' m' a g J
abbrev wJump (d m : Nat) (Q : Option Value → PH → Prop) : Nat → List Value → List Value → PH → Prop := fun b ls st g => WP d m b ls st g Q
theorem wpL_ex {d m : Nat} {Q : Option Value → PH → Prop} {rk : Nat} : ∀ (is : List Instr) (ls st : List Value) (h : PH), wpL (wCall d) (wJump d m Q) Q rk is ls st h →
    ∃ n r h', wpL (fun m' a g J => ∃ d', d = d' + 1 ∧ (lay a).length ≤ pnl m' ∧ ∃ r1 g1, Ex n d' m' 0 (pad (pnl m') (lay a)) [] g r1 g1 ∧ J r1 g1) (fun b' ls' st' g => Ex n d m b' ls' st' g r h') (fun r' g => r' = r ∧ g = h') rk is ls st h ∧ Q r h'
  | [], _, _, _, H => False.elim H
  | i :: is, ls, st, h, H => by
    rcases wpI_shape i ls st h H with ⟨ls', st', g, h1, h2⟩ | ⟨b, st', h1, h2⟩ | ⟨m', a, st', h1, h2⟩ | ⟨r, h1, h2⟩
    · obtain ⟨n, r, h', h3, h4⟩ := wpL_ex is _ _ _ h1
      exact ⟨n, r, h', h2 _ _ _ _ h3, h4⟩
    · obtain ⟨n, r, h', h3, h4⟩ := h1
      exact ⟨n, r, h', h2 _ _ _ _ h3, h4⟩
    · obtain ⟨d', e, hl, n1, r1, g1, h3, h4⟩ := h1
      obtain ⟨n, r, h', h5, h6⟩ := wpL_ex is _ _ _ h4
      refine ⟨n1 + n, r, h', h2 _ _ _ _ ⟨d', e, hl, r1, g1, Ex_le h3 (Nat.le_add_right _ _), ?_⟩, h6⟩
      refine wpL_mono ?_ ?_ (fun _ _ q => q) _ _ _ _ h5
      · rintro m' a g J J' hJ ⟨d', e, hl, r1, g1, h1, h2⟩
        exact ⟨d', e, hl, r1, g1, Ex_le h1 (Nat.le_add_left _ _), hJ _ _ h2⟩
      · intro b' ls' st' g q
        exact Ex_le q (Nat.le_add_left _ _)
    · exact ⟨0, r, h, h2 _ _ _ _ ⟨rfl, rfl⟩, h1⟩
/-- THE WALK: a block, by what must hold ahead of its instructions -/
theorem WP.of {d m b : Nat} {ls st : List Value} {h : PH} {Q : Option Value → PH → Prop} (hb : b < pnb m) (H : wpL (wCall d) (wJump d m Q) Q (prk m) (pblk m b) ls st h) : WP d m b ls st h Q := by
  obtain ⟨n, r, h', h1, h2⟩ := wpL_ex _ _ _ _ H
  exact ⟨n + 1, r, h', ⟨hb, h1⟩, h2⟩
set_option maxHeartbeats 8000000 in
/-- a step never makes the heap smaller -/
theorem wpI_grow {call : Nat → List Value → PH → (Option Value → PH → Prop) → Prop} {jump : Nat → List Value → List Value → PH → Prop} {fin : Option Value → PH → Prop} {rk : Nat} {K : List Value → List Value → PH → Prop}
    (i : Instr) (ls st : List Value) (h : PH) : wpI call jump fin rk i K ls st h →
    (∃ ls' st' h', K ls' st' h' ∧ hN h ≤ hN h' ∧ hU h ≤ hU h') ∨ (∃ b st', jump b ls st' h) ∨ (∃ m a st', call m a h (fun r h1 => K ls (r.toList ++ st') h1)) ∨ (∃ r, fin r h) := by
  unfold wpI
  repeat' split
  all_goals intro H
  all_goals first
    | exact H.elim
    | exact Or.inl ⟨_, _, _, H, Nat.le_refl _, Nat.le_refl _⟩
    | exact Or.inl ⟨_, _, _, H.2, Nat.le_refl _, Nat.le_refl _⟩
    | exact Or.inl ⟨_, _, _, H.2.2, Nat.le_refl _, Nat.le_refl _⟩
    | exact Or.inl ⟨_, _, _, H.2.2.2, Nat.le_refl _, Nat.le_refl _⟩
    | exact Or.inl ⟨_, _, _, H.2.2.2.2, Nat.le_refl _, Nat.le_refl _⟩
    | exact Or.inl ⟨_, _, _, H.2.2.2.2.2.2.2.2, Nat.le_refl _, Nat.le_refl _⟩
    | exact Or.inl ⟨_, _, _, H.2.2, Nat.le_succ _, Nat.le_add_right _ _⟩
    | exact Or.inl ⟨_, _, _, H.2.2.2, Nat.le_succ _, Nat.le_add_right _ _⟩
    | exact Or.inl ⟨_, _, _, H.2.2.2.2, Nat.le_succ _, Nat.le_add_right _ _⟩
    | exact Or.inr (Or.inl ⟨_, _, H⟩)
    | exact Or.inr (Or.inr (Or.inl ⟨_, _, _, H.2.2⟩))
    | exact Or.inr (Or.inr (Or.inr ⟨_, H.2⟩))
    | skip
theorem wpL_grow {call : Nat → List Value → PH → (Option Value → PH → Prop) → Prop} {jump : Nat → List Value → List Value → PH → Prop} {fin : Option Value → PH → Prop} {rk N U : Nat}
    (hc : ∀ m a g J, call m a g J → ∃ r g1, hN g ≤ hN g1 ∧ hU g ≤ hU g1 ∧ J r g1) (hj : ∀ b ls st h, jump b ls st h → hN h ≤ N ∧ hU h ≤ U) (hf : ∀ r h, fin r h → hN h ≤ N ∧ hU h ≤ U) : ∀ (is : List Instr) (ls st : List Value) (h : PH), wpL call jump fin rk is ls st h → hN h ≤ N ∧ hU h ≤ U
  | [], _, _, _, H => False.elim H
  | i :: is, ls, st, h, H => by
    rcases wpI_grow i ls st h H with ⟨ls', st', h', h1, h2, h3⟩ | ⟨b, st', h1⟩ | ⟨m, a, st', h1⟩ | ⟨r, h1⟩
    · have := wpL_grow hc hj hf is _ _ _ h1
      exact ⟨Nat.le_trans h2 this.1, Nat.le_trans h3 this.2⟩
    · exact hj _ _ _ _ h1
    · obtain ⟨r, g1, h2, h3, h4⟩ := hc _ _ _ _ h1
      have := wpL_grow hc hj hf is _ _ _ h4
      exact ⟨Nat.le_trans h2 this.1, Nat.le_trans h3 this.2⟩
    · exact hf _ _ h1
theorem Ex_grow : ∀ (n d m b : Nat) (ls st : List Value) (h : PH) (r : Option Value) (h' : PH), Ex n d m b ls st h r h' → hN h ≤ hN h' ∧ hU h ≤ hU h'
  | 0, _, _, _, _, _, _, _, _, H => False.elim H
  | n + 1, d, m, b, ls, st, h, r, h', H => by
    unfold Ex at H
    refine wpL_grow ?_ ?_ ?_ _ _ _ _ H.2
    · rintro m' a g J ⟨d', e, hl, r1, g1, h1, h2⟩
      have := Ex_grow n _ _ _ _ _ _ _ _ h1
      exact ⟨r1, g1, this.1, this.2, h2⟩
    · intro b' ls' st' g q
      exact Ex_grow n _ _ _ _ _ _ _ _ q
    · rintro r' g ⟨-, rfl⟩
      exact ⟨Nat.le_refl _, Nat.le_refl _⟩
end
end
section
section
/-! what is checked of the printed program, by counting: each instruction is the resolved one's, and its words stand in the tables -/
def isNest (w : Cond) : Bool := match w with | .methodLinkNest .. => true | .fieldLinkNest .. => true | _ => false
def lw_good : List Cond := lw_tbl.filter goodWord
def lw_nest : List Cond := lw_tbl.filter isNest
def wAt (pl : Nat) (w : Cond) : Bool := match lw_tbl[pl]? with | none => false | some v => decide (v = w)
def wGd (pl : Nat) (w : Cond) : Bool := goodWord w && wAt pl w
def wNs (pl : Nat) (w : Cond) : Bool := isNest w && wAt pl w
theorem wAt_mem {pl : Nat} {w : Cond} (h : wAt pl w = true) : w ∈ lw_tbl := by
  unfold wAt at h
  split at h
  · cases h
  · rename_i v hv
    have : v = w := of_decide_eq_true h
    subst this
    exact List.mem_of_getElem? hv
theorem wGd_mem {pl : Nat} {w : Cond} (h : wGd pl w = true) : w ∈ lw_good := by
  unfold wGd at h
  rw [Bool.and_eq_true] at h
  exact List.mem_filter.mpr ⟨wAt_mem h.2, h.1⟩
theorem wNs_mem {pl : Nat} {w : Cond} (h : wNs pl w = true) : w ∈ lw_nest := by
  unfold wNs at h
  rw [Bool.and_eq_true] at h
  exact List.mem_filter.mpr ⟨wAt_mem h.2, h.1⟩
theorem lw_good_ok : ∀ w ∈ lw_good, (w.onTables && w.keeps) = true ∨ ∃ ty, w = .arrayClass ty := fun _ h => good_of_word (List.mem_filter.mp h).2
def noMH (s : String) : Bool := decide (s ≠ "java/lang/invoke/MethodHandle") && decide (s ≠ "java/lang/invoke/VarHandle")
def nPar (d : String) : Option Nat := (parseMethodDescriptor d).map (fun d => d.parameters.length)
def retOk (k : Nat) (r : Option FieldType) : Bool := match r with
  | none => k == 0
  | some .int => k == 1
  | some .boolean => k == 2
  | some .long => k == 3
  | some (.object _) => k == 4
  | some (.array _) => k == 4
  | _ => false
/-- a method's own words -/
def okM (m : Nat) : Bool :=
  wGd (pmw m).1 (.code (pnm m) (pcd m) (pnl m) (pret m)) && wGd (pmw m).2.1 (.initialized (pnm m).cls) && noMH (pnm m).cls && plainName (pnm m).cls && decide (nPar (pnm m).desc = some (m % 8)) && decide (pnl m ≤ 60)
  && (retOk (prk m) (pret m) && pids.contains (m, pnb m))
  && (if pst m then wGd (pmw m).2.2.1 (.static (pnm m)) else wGd (pmw m).2.2.1 (.instanceMethod (pnm m)))
/-- the tags of a class -/
def isTg (t : Nat) : Bool := decide (1 ≤ t) && decide (t ≤ 13)
def okX (x t : Nat) : Bool :=
  isTg t && wGd (pxo x).2.1 (.sameMethod (pxn x).cls (pnm (pxo x).1).cls (pxn x).name (pxn x).desc) && wGd (pxs x t) (.selects (pC t) (pxn x) (pnm (pbsel x t))) && okM (pbsel x t) && !pst (pbsel x t)
  && decide (pnm (pxo x).1 = ⟨(pnm (pxo x).1).cls, (pxn x).name, (pxn x).desc⟩) && okM (pxo x).1 && !pst (pxo x).1 && decide (nPar (pxn x).desc = some (x % 8)) && decide (pbsel x t % 8 = x % 8)
/-- super.m(..): the word names the superclass, the method may stand above it -/
def supOk (own : String) (i pl : Nat) (y : MethodName) : Bool := match lw_tbl[pl]? with
  | some (.methodLink o j x) => o == own && j == i && x.name == y.name && x.desc == y.desc && goodWord (.methodLink o j x) && lw_good.contains (.sameMethod x.cls y.cls y.name y.desc) && lw_good.contains (.superclass own x.cls) && (x.cls == y.cls || lw_good.contains (.superclass x.cls y.cls))
  | _ => false
def okI (own : String) (ini : Bool) (nL : Nat) (pcOf : Nat → Nat) (pc : Nat) (raw : Instr) (len pl : Nat) (res : Instr) : Bool :=
  match res with
  | .ldc_w n => match raw with
    | .iconst v => len == 1 && decide (Int32.ofInt v = nI n)
    | .bipush v => len == 2 && decide ((Int8.ofInt v).toInt32 = nI n)
    | .sipush v => len == 3 && decide ((Int16.ofInt v).toInt32 = nI n)
    | .ldc i => len == 2 && wGd pl (.constant own i (nI n))
    | .ldc_w i => len == 3 && wGd pl (.constant own i (nI n))
    | _ => false
  | .iconst z => match raw with
    | .iconst v => len == 1 && decide (Int32.ofInt v = Int32.ofInt z)
    | .bipush v => len == 2 && decide ((Int8.ofInt v).toInt32 = Int32.ofInt z)
    | .sipush v => len == 3 && decide ((Int16.ofInt v).toInt32 = Int32.ofInt z)
    | _ => false
  | .ldc2_w n => match raw with
    | .lconst v => len == 1 && decide (Int64.ofNat (v : Nat) = lN n)
    | .ldc2_w i => len == 3 && wGd pl (.constantLong own i (lN n))
    | _ => false
  | .jsr_w z => match raw with
    | .ldc2_w i => len == 3 && wGd pl (.constantLong own i (Int64.ofInt z))
    | _ => false
  | .ldc k => match raw with
    | .ldc i => len == 2 && own == "DreamNets$Tape" && wAt pl (.stringRef own i (pStr k)) && decide (10 ≤ k) && decide (k < 28)
    | _ => false
  | .getstatic k => match raw with
    | .getstatic i => len == 3 && (wGd pl (.fieldLink own i "DreamNets" (pStat k) "[I") || wNs pl (.fieldLinkNest own i "DreamNets" (pStat k) "[I" "DreamNets")) && decide (1 ≤ k) && decide (k ≤ 5)
    | _ => false
  | .aconst_null => match raw with | .aconst_null => len == 1 | _ => false
  | .iload k => match raw with | .iload_n i => len == 1 && i.val == k | .iload i => len == 2 && i == k | _ => false
  | .lload k => match raw with | .lload_n i => len == 1 && i.val == k | .lload i => len == 2 && i == k | _ => false
  | .aload k => match raw with | .aload_n i => len == 1 && i.val == k | .aload i => len == 2 && i == k | _ => false
  | .istore k => decide (k < nL) && match raw with | .istore_n i => len == 1 && i.val == k | .istore i => len == 2 && i == k | _ => false
  | .lstore k => decide (k + 1 < nL) && match raw with | .lstore_n i => len == 1 && i.val == k | .lstore i => len == 2 && i == k | _ => false
  | .astore k => decide (k < nL) && match raw with | .astore_n i => len == 1 && i.val == k | .astore i => len == 2 && i == k | _ => false
  | .iinc k c => decide (k < nL) && match raw with | .iinc i z => len == 3 && i == k && z == c | _ => false
  | .iadd => match raw with | .iadd => len == 1 | _ => false
  | .isub => match raw with | .isub => len == 1 | _ => false
  | .imul => match raw with | .imul => len == 1 | _ => false
  | .iand => match raw with | .iand => len == 1 | _ => false
  | .ior => match raw with | .ior => len == 1 | _ => false
  | .ixor => match raw with | .ixor => len == 1 | _ => false
  | .idiv => match raw with | .idiv => len == 1 | _ => false
  | .irem => match raw with | .irem => len == 1 | _ => false
  | .ishl => match raw with | .ishl => len == 1 | _ => false
  | .ishr => match raw with | .ishr => len == 1 | _ => false
  | .iushr => match raw with | .iushr => len == 1 | _ => false
  | .ladd => match raw with | .ladd => len == 1 | _ => false
  | .lsub => match raw with | .lsub => len == 1 | _ => false
  | .lmul => match raw with | .lmul => len == 1 | _ => false
  | .land => match raw with | .land => len == 1 | _ => false
  | .lor => match raw with | .lor => len == 1 | _ => false
  | .ldiv => match raw with | .ldiv => len == 1 | _ => false
  | .lrem => match raw with | .lrem => len == 1 | _ => false
  | .lshl => match raw with | .lshl => len == 1 | _ => false
  | .lshr => match raw with | .lshr => len == 1 | _ => false
  | .lushr => match raw with | .lushr => len == 1 | _ => false
  | .lcmp => match raw with | .lcmp => len == 1 | _ => false
  | .i2l => match raw with | .i2l => len == 1 | _ => false
  | .l2i => match raw with | .l2i => len == 1 | _ => false
  | .i2b => match raw with | .i2b => len == 1 | _ => false
  | .i2s => match raw with | .i2s => len == 1 | _ => false
  | .dup => match raw with | .dup => len == 1 | _ => false
  | .dup2 => match raw with | .dup2 => len == 1 | _ => false
  | .pop => match raw with | .pop => len == 1 | _ => false
  | .goto b => match raw with | .goto off => len == 3 && decide ((pc : Int) + off = (pcOf b.toNat : Int)) | _ => false
  | .if_icmp c b => match raw with | .if_icmp c' off => len == 3 && decide (c' = c) && decide ((pc : Int) + off = (pcOf b.toNat : Int)) | _ => false
  | .ifCond c b => match raw with | .ifCond c' off => len == 3 && decide (c' = c) && decide ((pc : Int) + off = (pcOf b.toNat : Int)) | _ => false
  | .ifnull b => match raw with | .ifnull off => len == 3 && decide ((pc : Int) + off = (pcOf b.toNat : Int)) | _ => false
  | .ifnonnull b => match raw with | .ifnonnull off => len == 3 && decide ((pc : Int) + off = (pcOf b.toNat : Int)) | _ => false
  | .tableswitch d lo hi offs => match raw with
    | .tableswitch d' lo' hi' offs' => lo' == lo && hi' == hi && decide ((pc : Int) + d' = (pcOf d.toNat : Int)) && decide (offs'.size = (hi - lo).toNat + 1) && decide (offs.size = (hi - lo).toNat + 1) && (List.range ((hi - lo).toNat + 1)).all (fun j => decide ((pc : Int) + offs'.getD j 0 = (pcOf (offs.getD j 0).toNat : Int)))
    | _ => false
  | .getfield n => isTg (n / 64 % 16) && decide (n % 64 < pNf (n / 64 % 16)) && decide (n / 1024 = pK (n / 64 % 16) (n % 64)) && match raw with
    | .getfield i => len == 3 && wGd pl (.fieldLink own i (pT (n / 64 % 16) (n % 64)).1 (pT (n / 64 % 16) (n % 64)).2.1 (pT (n / 64 % 16) (n % 64)).2.2.1)
    | _ => false
  | .putfield n => isTg (n / 64 % 16) && decide (n % 64 < pNf (n / 64 % 16)) && decide (n / 1024 = pK (n / 64 % 16) (n % 64)) && (!(pT (n / 64 % 16) (n % 64)).2.2.2 || (ini && (pT (n / 64 % 16) (n % 64)).1 == own)) && match raw with
    | .putfield i => len == 3 && wGd pl (.fieldLink own i (pT (n / 64 % 16) (n % 64)).1 (pT (n / 64 % 16) (n % 64)).2.1 (pT (n / 64 % 16) (n % 64)).2.2.1)
    | _ => false
  | .iaload => match raw with | .iaload => len == 1 | _ => false
  | .baload => match raw with | .baload => len == 1 | _ => false
  | .laload => match raw with | .laload => len == 1 | _ => false
  | .aaload => match raw with | .aaload => len == 1 | _ => false
  | .iastore => match raw with | .iastore => len == 1 | _ => false
  | .bastore => match raw with | .bastore => len == 1 | _ => false
  | .lastore => match raw with | .lastore => len == 1 | _ => false
  | .aastore => match raw with | .aastore => len == 1 | _ => false
  | .arraylength => match raw with | .arraylength => len == 1 | _ => false
  | .new n => isTg (n / 64) && decide (n % 64 = pNf (n / 64)) && match raw with | .new i => len == 3 && wGd pl (.classLink own i (pC (n / 64))) | _ => false
  | .newarray t => match raw with | .newarray t' => len == 2 && decide (t' = t) && wGd pl (.arrayClass (newarray.typeOf t)) && decide (newarray.typeOf t = pA (tagOf t)) | _ => false
  | .anewarray t => match raw with | .anewarray i => len == 3 && wGd pl (.classLink own i (match t with | 110 => "DreamNets$Sheet" | 111 => "DreamNets$Boat" | _ => "DreamNets$World")) && decide (110 ≤ t) && decide (t ≤ 112) | _ => false
  | .invokestatic m => okM m && pst m && match raw with
    | .invokestatic i => len == 3 && (wGd pl (.methodLink own i (pnm m)) || wNs pl (.methodLinkNest own i (pnm m) "DreamNets"))
    | _ => false
  | .invokespecial m => okM m && !pst m && match raw with
    | .invokespecial i => len == 3 && (((pnm m).name == "<init>" && decide (pret m = none) && (wGd pl (.methodLink own i (pnm m)) || wNs pl (.methodLinkNest own i (pnm m) "DreamNets")))
      || (!((pnm m).name == "<init>") && (supOk own i pl (pnm m))))
    | _ => false
  | .invokevirtual x => match raw with
    | .invokevirtual i => len == 3 && (if 10000 ≤ x then isTg (x / 10000) && okM (x % 10000) && !pst (x % 10000) && decide ((pnm (x % 10000)).cls = pC (x / 10000)) && decide (x % 8 = x % 10000 % 8) && wGd (pmw (x % 10000)).2.2.2 (.selects (pC (x / 10000)) (pnm (x % 10000)) (pnm (x % 10000))) && wGd pl (.methodLink own i (pnm (x % 10000)))
        else wGd pl (.methodLink own i (pxn x)) && (List.range 16).all (fun t => pbsel x t == 0 || okX x t))
    | _ => false
  | .invokedynamic k => match k with
    | 0 => match raw with | .invokestatic i => len == 3 && wGd pl (.methodLink own i arraycopyName) | _ => false
    | 1 => match raw with | .invokevirtual i => len == 3 && wGd pl (.methodLink own i ⟨"java/lang/String", "length", "()I"⟩) | _ => false
    | 2 => match raw with | .invokevirtual i => len == 3 && wGd pl (.methodLink own i ⟨"java/lang/String", "charAt", "(I)C"⟩) | _ => false
    | 3 => match raw with | .invokestatic i => len == 3 && wGd pl (.methodLink own i Lib.Math.max.name) | _ => false
    | 4 => match raw with | .invokestatic i => len == 3 && wGd pl (.methodLink own i Lib.Math.min.name) | _ => false
    | 5 => match raw with | .invokespecial i => len == 3 && wGd pl (.methodLink own i Lib.objectInit) | _ => false
    | _ => false
  | .ireturn => match raw with | .ireturn => len == 1 | _ => false
  | .lreturn => match raw with | .lreturn => len == 1 | _ => false
  | .areturn => match raw with | .areturn => len == 1 | _ => false
  | .return_ => match raw with | .return_ => len == 1 | _ => false
  | _ => false
/-- a block: its instructions stand in the code from pc on -/
def okB (own : String) (ini : Bool) (nL : Nat) (bytes : ByteArray) (pcOf : Nat → Nat) : Nat → List (Instr × Nat × Nat) → List Instr → Bool
  | _, [], [] => true
  | pc, [], [.jsr b] => pcOf b.toNat == pc
  | pc, r :: rs, i :: is => decide (decode bytes pc = .ok (r.1, r.2.1)) && (okI own ini nL pcOf pc r.1 r.2.1 r.2.2 i && okB own ini nL bytes pcOf (pc + r.2.1) rs is)
  | _, _, _ => false
def okMB (m b : Nat) : Bool := okB (pnm m).cls ((pnm m).name == "<init>") (pnl m) (pcd m) (ppc m) (ppc m b) (praw m b) (pblk m b)
def okMs (q : Nat × Nat) : Bool := ppc q.1 0 == 0 && (List.range q.2).all (okMB q.1)
end
end
section
section
/-! the two machines side by side: X says where our cells begin, the heap at the start, classes and slots, where the cells stand that we don't make, and what they hold -/
abbrev CX : Type := Nat × Heap × (Nat → ClassId) × (Nat → Nat → Nat) × (Nat → ClassId) × (Nat → Nat) × PH
def xs0 (X : CX) : Nat := X.1
def xH (X : CX) : Heap := X.2.1
def xD (X : CX) : Nat → ClassId := X.2.2.1
def xS (X : CX) : Nat → Nat → Nat := X.2.2.2.1
def xA (X : CX) : Nat → ClassId := X.2.2.2.2.1
def xo (X : CX) : Nat → Nat := X.2.2.2.2.2.1
def xh (X : CX) : PH := X.2.2.2.2.2.2
def ad (X : CX) (k : Nat) : Nat := if k < 100 then xo X k else xs0 X + (k - 100)
def rnv (X : CX) (v : Value) : Value := match v with | .ref k => .ref (ad X k) | v => v
def notRet (v : Value) : Bool := match v with | .retAddr _ => false | _ => true
def svP (h : PH) (t a k : Nat) : Value := match pK t k with | 1 => .long (hJ h a k) | 2 => rfP (hR h a k) | _ => .int (hI h a k)
def evP (h : PH) (t a j : Nat) : Value := match t with | 102 => .long (hJ h a j) | 110 => rfP (hR h a j) | 111 => rfP (hR h a j) | 112 => rfP (hR h a j) | _ => .int (hI h a j)
def isAT (t : Nat) : Bool := t == 100 || t == 101 || t == 102 || t == 110 || t == 111 || t == 112
def cellP (X : CX) (h : PH) (H : Heap) (a : Nat) : Prop :=
  (isTg (hT h a) = true ∧ 100 ≤ a ∧ t_OB (ad X a) (xD X (hT h a)) (pNf (hT h a)) (xS X (hT h a)) H (fun k => rnv X (svP h (hT h a) a k)))
  ∨ (isAT (hT h a) = true ∧ 100 ≤ a ∧ H[ad X a]? = some (arrV (xA X (hT h a)) (hL h a) (fun j => rnv X (evP h (hT h a) a j))))
  ∨ ((hT h a = 120 ∨ hT h a = 130) ∧ a < 100)
def Pic (X : CX) (h : PH) (H : Heap) : Prop :=
  100 ≤ hN h ∧ H.size = xs0 X + (hN h - 100) ∧ (∀ q : Nat, q < xs0 X → H[q]? = (xH X)[q]?) ∧ (∀ a, hT h a ≠ 0 → a < hN h ∧ cellP X h H a) ∧ (∀ a, a < 100 → hT h a = hT (xh X) a ∧ hL h a = hL (xh X) a ∧ ∀ j, hI h a j = hI (xh X) a j)
def bKinds : List String := ["DreamNets$Boat", "DreamNets$Dredger", "DreamNets$Drifter", "DreamNets$Poacher", "DreamNets$Seiner", "DreamNets$Tug"]
def aName (t : Nat) : String := match t with | 110 => "DreamNets$Sheet" | 111 => "DreamNets$Boat" | _ => "DreamNets$World"
def KU (X : CX) (KS : CX → State → Prop) (U : State) : Prop :=
  (∀ t, isTg t = true → u_Kn U (pC t) (pT t) (pNf t) (xD X t) (xS X t)) ∧
  (∀ t, isAT t = true → ArrOfT U (xA X t) (pA t) ∧ va_RA U (xA X t) (pA t)) ∧
  (∀ w ∈ lw_nest, va_Nw w U) ∧
  (∀ C ∈ bKinds, va_Nw (.castable C "DreamNets$Boat") U) ∧
  (∀ t, t = 110 ∨ t = 111 ∨ t = 112 → va_AO (aName t) U) ∧
  (∀ k, 1 ≤ k → k ≤ 5 → va_Z "DreamNets" (pStat k) "[I" (.ref (xo X k)) (fun q => xs0 X ≤ q) U (xH X)) ∧
  (∀ a, a < 100 → hT (xh X) a = 120 → ∃ cell : Cell, (xH X)[xo X a]? = some cell ∧ xo X a < xs0 X ∧ U.isArrayOf cell .int ∧ cell.vm ≠ .unknown ∧ cell.slots.size = hL (xh X) a ∧ ∀ j, j < hL (xh X) a → cell.slots[j]? = some (.int (hI (xh X) a j))) ∧
  (xH X).size = xs0 X ∧ KS X U
theorem nest_warm {w : Cond} (hn : isNest w = true) {s U : State} (hW : s.WarmedH U.vm) (h : va_Nw w s) : va_Nw w U := by
  unfold isNest at hn
  split at hn
  · exact va_Nw.warmM hW h
  · exact va_Nw.warmF hW h
  · cases hn
theorem KU.warm {X : CX} {KS : CX → State → Prop} (hKS : ∀ s U : State, s.WarmedH U.vm → KS X s → KS X U) {s U : State} (hW : s.WarmedH U.vm) (h : KU X KS s) : KU X KS U := by
  obtain ⟨h1, h2, h3, h4, h5, h6, h7, h8, h9⟩ := h
  refine ⟨fun t ht => u_Kn_moved hW.alike (h1 t ht), fun t ht => ⟨arrOfT_moved hW.alike (h2 t ht).1, (h2 t ht).2.moved hW.alike⟩, fun w hw => nest_warm (List.mem_filter.mp hw).2 hW (h3 w hw), fun C hC => (h4 C hC).warmC hW, fun t ht => (h5 t ht).moved hW.alike, fun k a b => (h6 k a b).moved hW.alike, fun a ha ht => ?_, h8, hKS _ _ hW h9⟩
  obtain ⟨cell, q1, q2, q3, q4⟩ := h7 a ha ht
  exact ⟨cell, q1, q2, State.isArrayOf_alike hW.alike q3, q4⟩
def LOK (X : CX) (nL : Nat) (lsM : Array Slot) (ls : List Value) : Prop := lsM.size = nL ∧ lv_wf lsM ∧ ls.length = nL ∧ ∀ k, notRet (nth ls k) = true → lsM[k]? = some (.val (rnv X (nth ls k)))
def lvOf (X : CX) (nL : Nat) (ls : List Value) : List (Nat × Value) := ((List.range nL).filter (fun k => notRet (nth ls k))).map (fun k => (k, rnv X (nth ls k)))
theorem nth_len : ∀ (ls : List Value) (k : Nat), ls.length ≤ k → nth ls k = .retAddr 0
  | [], _, _ => by simp [nth]
  | _ :: l, 0, h => by simp at h
  | _ :: l, k + 1, h => by simpa [nth] using nth_len l k (by simpa using h)
theorem setN_len : ∀ (ls : List Value) (k : Nat) (v : Value), (setN ls k v).length = ls.length
  | [], _, _ => rfl
  | _ :: l, 0, _ => rfl
  | _ :: l, k + 1, v => by simp [setN, setN_len l k v]
theorem nth_setN : ∀ (ls : List Value) (k : Nat) (v : Value) (j : Nat), nth (setN ls k v) j = if j = k ∧ k < ls.length then v else nth ls j
  | [], k, v, j => by simp [setN, nth]
  | w :: l, 0, v, 0 => by simp [setN, nth]
  | w :: l, 0, v, j + 1 => by simp [setN, nth]
  | w :: l, k + 1, v, 0 => by simp [setN, nth]
  | w :: l, k + 1, v, j + 1 => by simp [setN, nth, nth_setN l k v j]
theorem LOK.has {X : CX} {nL : Nat} {lsM : Array Slot} {ls : List Value} (h : LOK X nL lsM ls) : lv_has lsM nL (lvOf X nL ls) := by
  refine ⟨h.1, h.2.1, fun q hq => ?_⟩
  obtain ⟨k, hk, rfl⟩ := List.mem_map.mp hq
  exact h.2.2.2 k (List.mem_filter.mp hk).2
theorem lvOf_mem {X : CX} {nL : Nat} {ls : List Value} {k : Nat} (hk : k < nL) (h : notRet (nth ls k) = true) : (k, rnv X (nth ls k)) ∈ lvOf X nL ls := List.mem_map.mpr ⟨k, List.mem_filter.mpr ⟨List.mem_range.mpr hk, h⟩, rfl⟩
theorem noLong_cat {X : CX} {ls : List Value} {j k : Nat} (h : noLong ls k = true) (hj : j + 1 = k) (hr : notRet (nth ls j) = true) : (rnv X (nth ls j)).category ≠ 2 := by
  subst hj
  cases hv : nth ls j <;> simp_all [noLong, rnv, Value.category, notRet]
theorem LOK.st1 {X : CX} {nL : Nat} {lsM ls' : Array Slot} {ls : List Value} (h : LOK X nL lsM ls) {k : Nat} (hk : k < nL) (v : Value) (hn : noLong ls k = true) (h' : lv_has ls' nL ((k, rnv X v) :: (lvOf X nL ls).filter (fun q => !(q.1 == k) && !(q.1 + 1 == k && q.2.category == 2)))) : LOK X nL ls' (setN ls k v) := by
  refine ⟨h'.1, h'.2.1, by rw [setN_len]; exact h.2.2.1, fun j hj => ?_⟩
  rw [nth_setN] at hj ⊢
  by_cases hjk : j = k ∧ k < ls.length
  · rw [if_pos hjk]
    obtain ⟨rfl, -⟩ := hjk
    exact h'.2.2 _ List.mem_cons_self
  · rw [if_neg hjk] at hj ⊢
    have hne : j ≠ k := fun e => hjk ⟨e, by rw [h.2.2.1]; exact hk⟩
    have hjl : j < nL := by
      rcases Nat.lt_or_ge j nL with q | q
      · exact q
      · rw [nth_len ls j (by rw [h.2.2.1]; exact q)] at hj
        cases hj
    refine h'.2.2 (j, rnv X (nth ls j)) (List.mem_cons_of_mem _ (List.mem_filter.mpr ⟨lvOf_mem hjl hj, ?_⟩))
    have h1 : (j == k) = false := by simpa using hne
    by_cases h2 : j + 1 = k
    · have h3 := noLong_cat (X := X) hn h2 hj
      simp [h1, h3]
    · simp [h1, h2]
theorem LOK.st2 {X : CX} {nL : Nat} {lsM ls' : Array Slot} {ls : List Value} (h : LOK X nL lsM ls) {k : Nat} (hk : k + 1 < nL) (x : Int64) (hn : noLong ls k = true) (h' : lv_has ls' nL ((k, Value.long x) :: (lvOf X nL ls).filter (fun q => !(q.1 == k) && (!(q.1 == k + 1) && !(q.1 + 1 == k && q.2.category == 2))))) : LOK X nL ls' (setN (setN ls k (.long x)) (k + 1) (.retAddr 0)) := by
  refine ⟨h'.1, h'.2.1, by rw [setN_len, setN_len]; exact h.2.2.1, fun j hj => ?_⟩
  rw [nth_setN, nth_setN, setN_len] at hj ⊢
  have hl := h.2.2.1
  by_cases h0 : j = k + 1 ∧ k + 1 < ls.length
  · rw [if_pos h0] at hj
    cases hj
  · rw [if_neg h0] at hj ⊢
    by_cases hjk : j = k ∧ k < ls.length
    · rw [if_pos hjk]
      obtain ⟨rfl, -⟩ := hjk
      exact h'.2.2 _ List.mem_cons_self
    · rw [if_neg hjk] at hj ⊢
      have hne : j ≠ k := fun e => hjk ⟨e, by omega⟩
      have hne1 : j ≠ k + 1 := fun e => h0 ⟨e, by omega⟩
      have hjl : j < nL := by
        rcases Nat.lt_or_ge j nL with q | q
        · exact q
        · rw [nth_len ls j (by rw [h.2.2.1]; exact q)] at hj
          cases hj
      refine h'.2.2 (j, rnv X (nth ls j)) (List.mem_cons_of_mem _ (List.mem_filter.mpr ⟨lvOf_mem hjl hj, ?_⟩))
      have h1 : (j == k) = false := by simpa using hne
      have h1b : (j == k + 1) = false := by simpa using hne1
      by_cases h2 : j + 1 = k
      · have h3 := noLong_cat (X := X) hn h2 hj
        simp [h1, h1b, h3]
      · simp [h1, h1b, h2]
end
end
section
section
/-- from here the first machine comes to Q, wherever it stands as the second does -/
def GoW (X : CX) (p : Program) (l : Launch) (e : Env) (R : Room) (s : State) (m : MethodId) (args : Array Value) (below : List Frame) (meth : Method) (c : Code) (nL n0 u0 : Nat) (Q : State → Prop) (pc : Nat) (ls st : List Value) (h : PH) : Prop :=
  ∀ (H : Heap) (locs : List Loc) (lsM : Array Slot), Pic X h H → LOK X nL lsM ls → (∀ q ∈ locs, xs0 X ≤ q.base) → n0 ≤ hN h → u0 ≤ hU h → W p l e R s m args below meth c H locs (hN h - n0) (hU h - u0) Q (F0 m pc lsM (st.map (rnv X)))
theorem sd_iadd {X : CX} {KS : CX → State → Prop} {p : Program} {l : Launch} {e : Env} {R : Room} {s : State} {m : MethodId} {args : Array Value} {below : List Frame} {meth : Method} {c : Code} {nL n0 u0 : Nat} {Q : State → Prop} {cc : ByteArray} {own : String} {ini : Bool} {pcOf : Nat → Nat} {pc len pl : Nat} {raw : Instr} {call : Nat → List Value → PH → (Option Value → PH → Prop) → Prop} {jump : Nat → List Value → List Value → PH → Prop} {fin : Option Value → PH → Prop} {rk : Nat} {K : List Value → List Value → PH → Prop} {ls st : List Value} {h : PH}  (hx : p.tables.exec = Jvm.exec) (hb : c.code = cc) (hd : decode cc pc = .ok (raw, len)) (ho : okI own ini nL pcOf pc raw len pl (.iadd) = true) (hK : ∀ ls st h, K ls st h → GoW X p l e R s m args below meth c nL n0 u0 Q (pc + len) ls st h) (H : wpI call jump fin rk (.iadd) K ls st h) : GoW X p l e R s m args below meth c nL n0 u0 Q pc ls st h := by
  simp only [okI] at ho
  split at ho
  case _ =>
    cases eq_of_beq ho
    simp only [wpI] at H
    split at H
    · intro H0 locs lsM P L B1 B2 B3
      exact lv_iadd hx hb hd (hK _ _ _ H _ _ _ P L B1 B2 B3)
    · exact H.elim
  all_goals cases ho
theorem sd_isub {X : CX} {KS : CX → State → Prop} {p : Program} {l : Launch} {e : Env} {R : Room} {s : State} {m : MethodId} {args : Array Value} {below : List Frame} {meth : Method} {c : Code} {nL n0 u0 : Nat} {Q : State → Prop} {cc : ByteArray} {own : String} {ini : Bool} {pcOf : Nat → Nat} {pc len pl : Nat} {raw : Instr} {call : Nat → List Value → PH → (Option Value → PH → Prop) → Prop} {jump : Nat → List Value → List Value → PH → Prop} {fin : Option Value → PH → Prop} {rk : Nat} {K : List Value → List Value → PH → Prop} {ls st : List Value} {h : PH}  (hx : p.tables.exec = Jvm.exec) (hb : c.code = cc) (hd : decode cc pc = .ok (raw, len)) (ho : okI own ini nL pcOf pc raw len pl (.isub) = true) (hK : ∀ ls st h, K ls st h → GoW X p l e R s m args below meth c nL n0 u0 Q (pc + len) ls st h) (H : wpI call jump fin rk (.isub) K ls st h) : GoW X p l e R s m args below meth c nL n0 u0 Q pc ls st h := by
  simp only [okI] at ho
  split at ho
  case _ =>
    cases eq_of_beq ho
    simp only [wpI] at H
    split at H
    · intro H0 locs lsM P L B1 B2 B3
      exact lv_isub hx hb hd (hK _ _ _ H _ _ _ P L B1 B2 B3)
    · exact H.elim
  all_goals cases ho
theorem sd_imul {X : CX} {KS : CX → State → Prop} {p : Program} {l : Launch} {e : Env} {R : Room} {s : State} {m : MethodId} {args : Array Value} {below : List Frame} {meth : Method} {c : Code} {nL n0 u0 : Nat} {Q : State → Prop} {cc : ByteArray} {own : String} {ini : Bool} {pcOf : Nat → Nat} {pc len pl : Nat} {raw : Instr} {call : Nat → List Value → PH → (Option Value → PH → Prop) → Prop} {jump : Nat → List Value → List Value → PH → Prop} {fin : Option Value → PH → Prop} {rk : Nat} {K : List Value → List Value → PH → Prop} {ls st : List Value} {h : PH}  (hx : p.tables.exec = Jvm.exec) (hb : c.code = cc) (hd : decode cc pc = .ok (raw, len)) (ho : okI own ini nL pcOf pc raw len pl (.imul) = true) (hK : ∀ ls st h, K ls st h → GoW X p l e R s m args below meth c nL n0 u0 Q (pc + len) ls st h) (H : wpI call jump fin rk (.imul) K ls st h) : GoW X p l e R s m args below meth c nL n0 u0 Q pc ls st h := by
  simp only [okI] at ho
  split at ho
  case _ =>
    cases eq_of_beq ho
    simp only [wpI] at H
    split at H
    · intro H0 locs lsM P L B1 B2 B3
      exact lv_imul hx hb hd (hK _ _ _ H _ _ _ P L B1 B2 B3)
    · exact H.elim
  all_goals cases ho
theorem sd_iand {X : CX} {KS : CX → State → Prop} {p : Program} {l : Launch} {e : Env} {R : Room} {s : State} {m : MethodId} {args : Array Value} {below : List Frame} {meth : Method} {c : Code} {nL n0 u0 : Nat} {Q : State → Prop} {cc : ByteArray} {own : String} {ini : Bool} {pcOf : Nat → Nat} {pc len pl : Nat} {raw : Instr} {call : Nat → List Value → PH → (Option Value → PH → Prop) → Prop} {jump : Nat → List Value → List Value → PH → Prop} {fin : Option Value → PH → Prop} {rk : Nat} {K : List Value → List Value → PH → Prop} {ls st : List Value} {h : PH}  (hx : p.tables.exec = Jvm.exec) (hb : c.code = cc) (hd : decode cc pc = .ok (raw, len)) (ho : okI own ini nL pcOf pc raw len pl (.iand) = true) (hK : ∀ ls st h, K ls st h → GoW X p l e R s m args below meth c nL n0 u0 Q (pc + len) ls st h) (H : wpI call jump fin rk (.iand) K ls st h) : GoW X p l e R s m args below meth c nL n0 u0 Q pc ls st h := by
  simp only [okI] at ho
  split at ho
  case _ =>
    cases eq_of_beq ho
    simp only [wpI] at H
    split at H
    · intro H0 locs lsM P L B1 B2 B3
      exact lv_iand hx hb hd (hK _ _ _ H _ _ _ P L B1 B2 B3)
    · exact H.elim
  all_goals cases ho
theorem sd_ior {X : CX} {KS : CX → State → Prop} {p : Program} {l : Launch} {e : Env} {R : Room} {s : State} {m : MethodId} {args : Array Value} {below : List Frame} {meth : Method} {c : Code} {nL n0 u0 : Nat} {Q : State → Prop} {cc : ByteArray} {own : String} {ini : Bool} {pcOf : Nat → Nat} {pc len pl : Nat} {raw : Instr} {call : Nat → List Value → PH → (Option Value → PH → Prop) → Prop} {jump : Nat → List Value → List Value → PH → Prop} {fin : Option Value → PH → Prop} {rk : Nat} {K : List Value → List Value → PH → Prop} {ls st : List Value} {h : PH}  (hx : p.tables.exec = Jvm.exec) (hb : c.code = cc) (hd : decode cc pc = .ok (raw, len)) (ho : okI own ini nL pcOf pc raw len pl (.ior) = true) (hK : ∀ ls st h, K ls st h → GoW X p l e R s m args below meth c nL n0 u0 Q (pc + len) ls st h) (H : wpI call jump fin rk (.ior) K ls st h) : GoW X p l e R s m args below meth c nL n0 u0 Q pc ls st h := by
  simp only [okI] at ho
  split at ho
  case _ =>
    cases eq_of_beq ho
    simp only [wpI] at H
    split at H
    · intro H0 locs lsM P L B1 B2 B3
      exact lv_ior hx hb hd (hK _ _ _ H _ _ _ P L B1 B2 B3)
    · exact H.elim
  all_goals cases ho
theorem sd_ixor {X : CX} {KS : CX → State → Prop} {p : Program} {l : Launch} {e : Env} {R : Room} {s : State} {m : MethodId} {args : Array Value} {below : List Frame} {meth : Method} {c : Code} {nL n0 u0 : Nat} {Q : State → Prop} {cc : ByteArray} {own : String} {ini : Bool} {pcOf : Nat → Nat} {pc len pl : Nat} {raw : Instr} {call : Nat → List Value → PH → (Option Value → PH → Prop) → Prop} {jump : Nat → List Value → List Value → PH → Prop} {fin : Option Value → PH → Prop} {rk : Nat} {K : List Value → List Value → PH → Prop} {ls st : List Value} {h : PH}  (hx : p.tables.exec = Jvm.exec) (hb : c.code = cc) (hd : decode cc pc = .ok (raw, len)) (ho : okI own ini nL pcOf pc raw len pl (.ixor) = true) (hK : ∀ ls st h, K ls st h → GoW X p l e R s m args below meth c nL n0 u0 Q (pc + len) ls st h) (H : wpI call jump fin rk (.ixor) K ls st h) : GoW X p l e R s m args below meth c nL n0 u0 Q pc ls st h := by
  simp only [okI] at ho
  split at ho
  case _ =>
    cases eq_of_beq ho
    simp only [wpI] at H
    split at H
    · intro H0 locs lsM P L B1 B2 B3
      exact lv_ixor hx hb hd (hK _ _ _ H _ _ _ P L B1 B2 B3)
    · exact H.elim
  all_goals cases ho
theorem sd_ladd {X : CX} {KS : CX → State → Prop} {p : Program} {l : Launch} {e : Env} {R : Room} {s : State} {m : MethodId} {args : Array Value} {below : List Frame} {meth : Method} {c : Code} {nL n0 u0 : Nat} {Q : State → Prop} {cc : ByteArray} {own : String} {ini : Bool} {pcOf : Nat → Nat} {pc len pl : Nat} {raw : Instr} {call : Nat → List Value → PH → (Option Value → PH → Prop) → Prop} {jump : Nat → List Value → List Value → PH → Prop} {fin : Option Value → PH → Prop} {rk : Nat} {K : List Value → List Value → PH → Prop} {ls st : List Value} {h : PH}  (hx : p.tables.exec = Jvm.exec) (hb : c.code = cc) (hd : decode cc pc = .ok (raw, len)) (ho : okI own ini nL pcOf pc raw len pl (.ladd) = true) (hK : ∀ ls st h, K ls st h → GoW X p l e R s m args below meth c nL n0 u0 Q (pc + len) ls st h) (H : wpI call jump fin rk (.ladd) K ls st h) : GoW X p l e R s m args below meth c nL n0 u0 Q pc ls st h := by
  simp only [okI] at ho
  split at ho
  case _ =>
    cases eq_of_beq ho
    simp only [wpI] at H
    split at H
    · intro H0 locs lsM P L B1 B2 B3
      exact lv_ladd hx hb hd (hK _ _ _ H _ _ _ P L B1 B2 B3)
    · exact H.elim
  all_goals cases ho
theorem sd_lsub {X : CX} {KS : CX → State → Prop} {p : Program} {l : Launch} {e : Env} {R : Room} {s : State} {m : MethodId} {args : Array Value} {below : List Frame} {meth : Method} {c : Code} {nL n0 u0 : Nat} {Q : State → Prop} {cc : ByteArray} {own : String} {ini : Bool} {pcOf : Nat → Nat} {pc len pl : Nat} {raw : Instr} {call : Nat → List Value → PH → (Option Value → PH → Prop) → Prop} {jump : Nat → List Value → List Value → PH → Prop} {fin : Option Value → PH → Prop} {rk : Nat} {K : List Value → List Value → PH → Prop} {ls st : List Value} {h : PH}  (hx : p.tables.exec = Jvm.exec) (hb : c.code = cc) (hd : decode cc pc = .ok (raw, len)) (ho : okI own ini nL pcOf pc raw len pl (.lsub) = true) (hK : ∀ ls st h, K ls st h → GoW X p l e R s m args below meth c nL n0 u0 Q (pc + len) ls st h) (H : wpI call jump fin rk (.lsub) K ls st h) : GoW X p l e R s m args below meth c nL n0 u0 Q pc ls st h := by
  simp only [okI] at ho
  split at ho
  case _ =>
    cases eq_of_beq ho
    simp only [wpI] at H
    split at H
    · intro H0 locs lsM P L B1 B2 B3
      exact lv_lsub hx hb hd (hK _ _ _ H _ _ _ P L B1 B2 B3)
    · exact H.elim
  all_goals cases ho
theorem sd_lmul {X : CX} {KS : CX → State → Prop} {p : Program} {l : Launch} {e : Env} {R : Room} {s : State} {m : MethodId} {args : Array Value} {below : List Frame} {meth : Method} {c : Code} {nL n0 u0 : Nat} {Q : State → Prop} {cc : ByteArray} {own : String} {ini : Bool} {pcOf : Nat → Nat} {pc len pl : Nat} {raw : Instr} {call : Nat → List Value → PH → (Option Value → PH → Prop) → Prop} {jump : Nat → List Value → List Value → PH → Prop} {fin : Option Value → PH → Prop} {rk : Nat} {K : List Value → List Value → PH → Prop} {ls st : List Value} {h : PH}  (hx : p.tables.exec = Jvm.exec) (hb : c.code = cc) (hd : decode cc pc = .ok (raw, len)) (ho : okI own ini nL pcOf pc raw len pl (.lmul) = true) (hK : ∀ ls st h, K ls st h → GoW X p l e R s m args below meth c nL n0 u0 Q (pc + len) ls st h) (H : wpI call jump fin rk (.lmul) K ls st h) : GoW X p l e R s m args below meth c nL n0 u0 Q pc ls st h := by
  simp only [okI] at ho
  split at ho
  case _ =>
    cases eq_of_beq ho
    simp only [wpI] at H
    split at H
    · intro H0 locs lsM P L B1 B2 B3
      exact lv_lmul hx hb hd (hK _ _ _ H _ _ _ P L B1 B2 B3)
    · exact H.elim
  all_goals cases ho
theorem sd_land {X : CX} {KS : CX → State → Prop} {p : Program} {l : Launch} {e : Env} {R : Room} {s : State} {m : MethodId} {args : Array Value} {below : List Frame} {meth : Method} {c : Code} {nL n0 u0 : Nat} {Q : State → Prop} {cc : ByteArray} {own : String} {ini : Bool} {pcOf : Nat → Nat} {pc len pl : Nat} {raw : Instr} {call : Nat → List Value → PH → (Option Value → PH → Prop) → Prop} {jump : Nat → List Value → List Value → PH → Prop} {fin : Option Value → PH → Prop} {rk : Nat} {K : List Value → List Value → PH → Prop} {ls st : List Value} {h : PH}  (hx : p.tables.exec = Jvm.exec) (hb : c.code = cc) (hd : decode cc pc = .ok (raw, len)) (ho : okI own ini nL pcOf pc raw len pl (.land) = true) (hK : ∀ ls st h, K ls st h → GoW X p l e R s m args below meth c nL n0 u0 Q (pc + len) ls st h) (H : wpI call jump fin rk (.land) K ls st h) : GoW X p l e R s m args below meth c nL n0 u0 Q pc ls st h := by
  simp only [okI] at ho
  split at ho
  case _ =>
    cases eq_of_beq ho
    simp only [wpI] at H
    split at H
    · intro H0 locs lsM P L B1 B2 B3
      exact lv_land hx hb hd (hK _ _ _ H _ _ _ P L B1 B2 B3)
    · exact H.elim
  all_goals cases ho
theorem sd_lor {X : CX} {KS : CX → State → Prop} {p : Program} {l : Launch} {e : Env} {R : Room} {s : State} {m : MethodId} {args : Array Value} {below : List Frame} {meth : Method} {c : Code} {nL n0 u0 : Nat} {Q : State → Prop} {cc : ByteArray} {own : String} {ini : Bool} {pcOf : Nat → Nat} {pc len pl : Nat} {raw : Instr} {call : Nat → List Value → PH → (Option Value → PH → Prop) → Prop} {jump : Nat → List Value → List Value → PH → Prop} {fin : Option Value → PH → Prop} {rk : Nat} {K : List Value → List Value → PH → Prop} {ls st : List Value} {h : PH}  (hx : p.tables.exec = Jvm.exec) (hb : c.code = cc) (hd : decode cc pc = .ok (raw, len)) (ho : okI own ini nL pcOf pc raw len pl (.lor) = true) (hK : ∀ ls st h, K ls st h → GoW X p l e R s m args below meth c nL n0 u0 Q (pc + len) ls st h) (H : wpI call jump fin rk (.lor) K ls st h) : GoW X p l e R s m args below meth c nL n0 u0 Q pc ls st h := by
  simp only [okI] at ho
  split at ho
  case _ =>
    cases eq_of_beq ho
    simp only [wpI] at H
    split at H
    · intro H0 locs lsM P L B1 B2 B3
      exact lv_lor hx hb hd (hK _ _ _ H _ _ _ P L B1 B2 B3)
    · exact H.elim
  all_goals cases ho
theorem sd_i2l {X : CX} {KS : CX → State → Prop} {p : Program} {l : Launch} {e : Env} {R : Room} {s : State} {m : MethodId} {args : Array Value} {below : List Frame} {meth : Method} {c : Code} {nL n0 u0 : Nat} {Q : State → Prop} {cc : ByteArray} {own : String} {ini : Bool} {pcOf : Nat → Nat} {pc len pl : Nat} {raw : Instr} {call : Nat → List Value → PH → (Option Value → PH → Prop) → Prop} {jump : Nat → List Value → List Value → PH → Prop} {fin : Option Value → PH → Prop} {rk : Nat} {K : List Value → List Value → PH → Prop} {ls st : List Value} {h : PH}  (hx : p.tables.exec = Jvm.exec) (hb : c.code = cc) (hd : decode cc pc = .ok (raw, len)) (ho : okI own ini nL pcOf pc raw len pl (.i2l) = true) (hK : ∀ ls st h, K ls st h → GoW X p l e R s m args below meth c nL n0 u0 Q (pc + len) ls st h) (H : wpI call jump fin rk (.i2l) K ls st h) : GoW X p l e R s m args below meth c nL n0 u0 Q pc ls st h := by
  simp only [okI] at ho
  split at ho
  case _ =>
    cases eq_of_beq ho
    simp only [wpI] at H
    split at H
    · intro H0 locs lsM P L B1 B2 B3
      exact lv_i2l hx hb hd rfl (hK _ _ _ H _ _ _ P L B1 B2 B3)
    · exact H.elim
  all_goals cases ho
theorem sd_l2i {X : CX} {KS : CX → State → Prop} {p : Program} {l : Launch} {e : Env} {R : Room} {s : State} {m : MethodId} {args : Array Value} {below : List Frame} {meth : Method} {c : Code} {nL n0 u0 : Nat} {Q : State → Prop} {cc : ByteArray} {own : String} {ini : Bool} {pcOf : Nat → Nat} {pc len pl : Nat} {raw : Instr} {call : Nat → List Value → PH → (Option Value → PH → Prop) → Prop} {jump : Nat → List Value → List Value → PH → Prop} {fin : Option Value → PH → Prop} {rk : Nat} {K : List Value → List Value → PH → Prop} {ls st : List Value} {h : PH}  (hx : p.tables.exec = Jvm.exec) (hb : c.code = cc) (hd : decode cc pc = .ok (raw, len)) (ho : okI own ini nL pcOf pc raw len pl (.l2i) = true) (hK : ∀ ls st h, K ls st h → GoW X p l e R s m args below meth c nL n0 u0 Q (pc + len) ls st h) (H : wpI call jump fin rk (.l2i) K ls st h) : GoW X p l e R s m args below meth c nL n0 u0 Q pc ls st h := by
  simp only [okI] at ho
  split at ho
  case _ =>
    cases eq_of_beq ho
    simp only [wpI] at H
    split at H
    · intro H0 locs lsM P L B1 B2 B3
      exact lv_l2i hx hb hd rfl (hK _ _ _ H _ _ _ P L B1 B2 B3)
    · exact H.elim
  all_goals cases ho
theorem sd_i2b {X : CX} {KS : CX → State → Prop} {p : Program} {l : Launch} {e : Env} {R : Room} {s : State} {m : MethodId} {args : Array Value} {below : List Frame} {meth : Method} {c : Code} {nL n0 u0 : Nat} {Q : State → Prop} {cc : ByteArray} {own : String} {ini : Bool} {pcOf : Nat → Nat} {pc len pl : Nat} {raw : Instr} {call : Nat → List Value → PH → (Option Value → PH → Prop) → Prop} {jump : Nat → List Value → List Value → PH → Prop} {fin : Option Value → PH → Prop} {rk : Nat} {K : List Value → List Value → PH → Prop} {ls st : List Value} {h : PH}  (hx : p.tables.exec = Jvm.exec) (hb : c.code = cc) (hd : decode cc pc = .ok (raw, len)) (ho : okI own ini nL pcOf pc raw len pl (.i2b) = true) (hK : ∀ ls st h, K ls st h → GoW X p l e R s m args below meth c nL n0 u0 Q (pc + len) ls st h) (H : wpI call jump fin rk (.i2b) K ls st h) : GoW X p l e R s m args below meth c nL n0 u0 Q pc ls st h := by
  simp only [okI] at ho
  split at ho
  case _ =>
    cases eq_of_beq ho
    simp only [wpI] at H
    split at H
    · intro H0 locs lsM P L B1 B2 B3
      exact lv_i2b hx hb hd rfl (hK _ _ _ H _ _ _ P L B1 B2 B3)
    · exact H.elim
  all_goals cases ho
theorem sd_i2s {X : CX} {KS : CX → State → Prop} {p : Program} {l : Launch} {e : Env} {R : Room} {s : State} {m : MethodId} {args : Array Value} {below : List Frame} {meth : Method} {c : Code} {nL n0 u0 : Nat} {Q : State → Prop} {cc : ByteArray} {own : String} {ini : Bool} {pcOf : Nat → Nat} {pc len pl : Nat} {raw : Instr} {call : Nat → List Value → PH → (Option Value → PH → Prop) → Prop} {jump : Nat → List Value → List Value → PH → Prop} {fin : Option Value → PH → Prop} {rk : Nat} {K : List Value → List Value → PH → Prop} {ls st : List Value} {h : PH}  (hx : p.tables.exec = Jvm.exec) (hb : c.code = cc) (hd : decode cc pc = .ok (raw, len)) (ho : okI own ini nL pcOf pc raw len pl (.i2s) = true) (hK : ∀ ls st h, K ls st h → GoW X p l e R s m args below meth c nL n0 u0 Q (pc + len) ls st h) (H : wpI call jump fin rk (.i2s) K ls st h) : GoW X p l e R s m args below meth c nL n0 u0 Q pc ls st h := by
  simp only [okI] at ho
  split at ho
  case _ =>
    cases eq_of_beq ho
    simp only [wpI] at H
    split at H
    · intro H0 locs lsM P L B1 B2 B3
      exact lv_i2s hx hb hd rfl (hK _ _ _ H _ _ _ P L B1 B2 B3)
    · exact H.elim
  all_goals cases ho
theorem sd_ishl {X : CX} {KS : CX → State → Prop} {p : Program} {l : Launch} {e : Env} {R : Room} {s : State} {m : MethodId} {args : Array Value} {below : List Frame} {meth : Method} {c : Code} {nL n0 u0 : Nat} {Q : State → Prop} {cc : ByteArray} {own : String} {ini : Bool} {pcOf : Nat → Nat} {pc len pl : Nat} {raw : Instr} {call : Nat → List Value → PH → (Option Value → PH → Prop) → Prop} {jump : Nat → List Value → List Value → PH → Prop} {fin : Option Value → PH → Prop} {rk : Nat} {K : List Value → List Value → PH → Prop} {ls st : List Value} {h : PH}  (hx : p.tables.exec = Jvm.exec) (hb : c.code = cc) (hd : decode cc pc = .ok (raw, len)) (ho : okI own ini nL pcOf pc raw len pl (.ishl) = true) (hK : ∀ ls st h, K ls st h → GoW X p l e R s m args below meth c nL n0 u0 Q (pc + len) ls st h) (H : wpI call jump fin rk (.ishl) K ls st h) : GoW X p l e R s m args below meth c nL n0 u0 Q pc ls st h := by
  simp only [okI] at ho
  split at ho
  case _ =>
    cases eq_of_beq ho
    simp only [wpI] at H
    split at H
    · intro H0 locs lsM P L B1 B2 B3
      exact lv_ishl hx hb hd (hK _ _ _ H _ _ _ P L B1 B2 B3)
    · exact H.elim
  all_goals cases ho
theorem sd_ishr {X : CX} {KS : CX → State → Prop} {p : Program} {l : Launch} {e : Env} {R : Room} {s : State} {m : MethodId} {args : Array Value} {below : List Frame} {meth : Method} {c : Code} {nL n0 u0 : Nat} {Q : State → Prop} {cc : ByteArray} {own : String} {ini : Bool} {pcOf : Nat → Nat} {pc len pl : Nat} {raw : Instr} {call : Nat → List Value → PH → (Option Value → PH → Prop) → Prop} {jump : Nat → List Value → List Value → PH → Prop} {fin : Option Value → PH → Prop} {rk : Nat} {K : List Value → List Value → PH → Prop} {ls st : List Value} {h : PH}  (hx : p.tables.exec = Jvm.exec) (hb : c.code = cc) (hd : decode cc pc = .ok (raw, len)) (ho : okI own ini nL pcOf pc raw len pl (.ishr) = true) (hK : ∀ ls st h, K ls st h → GoW X p l e R s m args below meth c nL n0 u0 Q (pc + len) ls st h) (H : wpI call jump fin rk (.ishr) K ls st h) : GoW X p l e R s m args below meth c nL n0 u0 Q pc ls st h := by
  simp only [okI] at ho
  split at ho
  case _ =>
    cases eq_of_beq ho
    simp only [wpI] at H
    split at H
    · intro H0 locs lsM P L B1 B2 B3
      exact lv_ishr hx hb hd (hK _ _ _ H _ _ _ P L B1 B2 B3)
    · exact H.elim
  all_goals cases ho
theorem sd_iushr {X : CX} {KS : CX → State → Prop} {p : Program} {l : Launch} {e : Env} {R : Room} {s : State} {m : MethodId} {args : Array Value} {below : List Frame} {meth : Method} {c : Code} {nL n0 u0 : Nat} {Q : State → Prop} {cc : ByteArray} {own : String} {ini : Bool} {pcOf : Nat → Nat} {pc len pl : Nat} {raw : Instr} {call : Nat → List Value → PH → (Option Value → PH → Prop) → Prop} {jump : Nat → List Value → List Value → PH → Prop} {fin : Option Value → PH → Prop} {rk : Nat} {K : List Value → List Value → PH → Prop} {ls st : List Value} {h : PH}  (hx : p.tables.exec = Jvm.exec) (hb : c.code = cc) (hd : decode cc pc = .ok (raw, len)) (ho : okI own ini nL pcOf pc raw len pl (.iushr) = true) (hK : ∀ ls st h, K ls st h → GoW X p l e R s m args below meth c nL n0 u0 Q (pc + len) ls st h) (H : wpI call jump fin rk (.iushr) K ls st h) : GoW X p l e R s m args below meth c nL n0 u0 Q pc ls st h := by
  simp only [okI] at ho
  split at ho
  case _ =>
    cases eq_of_beq ho
    simp only [wpI] at H
    split at H
    · intro H0 locs lsM P L B1 B2 B3
      exact lv_iushr hx hb hd rfl (hK _ _ _ H _ _ _ P L B1 B2 B3)
    · exact H.elim
  all_goals cases ho
theorem sd_lshl {X : CX} {KS : CX → State → Prop} {p : Program} {l : Launch} {e : Env} {R : Room} {s : State} {m : MethodId} {args : Array Value} {below : List Frame} {meth : Method} {c : Code} {nL n0 u0 : Nat} {Q : State → Prop} {cc : ByteArray} {own : String} {ini : Bool} {pcOf : Nat → Nat} {pc len pl : Nat} {raw : Instr} {call : Nat → List Value → PH → (Option Value → PH → Prop) → Prop} {jump : Nat → List Value → List Value → PH → Prop} {fin : Option Value → PH → Prop} {rk : Nat} {K : List Value → List Value → PH → Prop} {ls st : List Value} {h : PH}  (hx : p.tables.exec = Jvm.exec) (hb : c.code = cc) (hd : decode cc pc = .ok (raw, len)) (ho : okI own ini nL pcOf pc raw len pl (.lshl) = true) (hK : ∀ ls st h, K ls st h → GoW X p l e R s m args below meth c nL n0 u0 Q (pc + len) ls st h) (H : wpI call jump fin rk (.lshl) K ls st h) : GoW X p l e R s m args below meth c nL n0 u0 Q pc ls st h := by
  simp only [okI] at ho
  split at ho
  case _ =>
    cases eq_of_beq ho
    simp only [wpI] at H
    split at H
    · intro H0 locs lsM P L B1 B2 B3
      exact lv_lshl hx hb hd rfl (hK _ _ _ H _ _ _ P L B1 B2 B3)
    · exact H.elim
  all_goals cases ho
theorem sd_lshr {X : CX} {KS : CX → State → Prop} {p : Program} {l : Launch} {e : Env} {R : Room} {s : State} {m : MethodId} {args : Array Value} {below : List Frame} {meth : Method} {c : Code} {nL n0 u0 : Nat} {Q : State → Prop} {cc : ByteArray} {own : String} {ini : Bool} {pcOf : Nat → Nat} {pc len pl : Nat} {raw : Instr} {call : Nat → List Value → PH → (Option Value → PH → Prop) → Prop} {jump : Nat → List Value → List Value → PH → Prop} {fin : Option Value → PH → Prop} {rk : Nat} {K : List Value → List Value → PH → Prop} {ls st : List Value} {h : PH}  (hx : p.tables.exec = Jvm.exec) (hb : c.code = cc) (hd : decode cc pc = .ok (raw, len)) (ho : okI own ini nL pcOf pc raw len pl (.lshr) = true) (hK : ∀ ls st h, K ls st h → GoW X p l e R s m args below meth c nL n0 u0 Q (pc + len) ls st h) (H : wpI call jump fin rk (.lshr) K ls st h) : GoW X p l e R s m args below meth c nL n0 u0 Q pc ls st h := by
  simp only [okI] at ho
  split at ho
  case _ =>
    cases eq_of_beq ho
    simp only [wpI] at H
    split at H
    · intro H0 locs lsM P L B1 B2 B3
      exact lv_lshr hx hb hd rfl (hK _ _ _ H _ _ _ P L B1 B2 B3)
    · exact H.elim
  all_goals cases ho
theorem sd_lushr {X : CX} {KS : CX → State → Prop} {p : Program} {l : Launch} {e : Env} {R : Room} {s : State} {m : MethodId} {args : Array Value} {below : List Frame} {meth : Method} {c : Code} {nL n0 u0 : Nat} {Q : State → Prop} {cc : ByteArray} {own : String} {ini : Bool} {pcOf : Nat → Nat} {pc len pl : Nat} {raw : Instr} {call : Nat → List Value → PH → (Option Value → PH → Prop) → Prop} {jump : Nat → List Value → List Value → PH → Prop} {fin : Option Value → PH → Prop} {rk : Nat} {K : List Value → List Value → PH → Prop} {ls st : List Value} {h : PH}  (hx : p.tables.exec = Jvm.exec) (hb : c.code = cc) (hd : decode cc pc = .ok (raw, len)) (ho : okI own ini nL pcOf pc raw len pl (.lushr) = true) (hK : ∀ ls st h, K ls st h → GoW X p l e R s m args below meth c nL n0 u0 Q (pc + len) ls st h) (H : wpI call jump fin rk (.lushr) K ls st h) : GoW X p l e R s m args below meth c nL n0 u0 Q pc ls st h := by
  simp only [okI] at ho
  split at ho
  case _ =>
    cases eq_of_beq ho
    simp only [wpI] at H
    split at H
    · intro H0 locs lsM P L B1 B2 B3
      exact lv_lushr hx hb hd rfl (hK _ _ _ H _ _ _ P L B1 B2 B3)
    · exact H.elim
  all_goals cases ho
theorem sd_idiv {X : CX} {KS : CX → State → Prop} {p : Program} {l : Launch} {e : Env} {R : Room} {s : State} {m : MethodId} {args : Array Value} {below : List Frame} {meth : Method} {c : Code} {nL n0 u0 : Nat} {Q : State → Prop} {cc : ByteArray} {own : String} {ini : Bool} {pcOf : Nat → Nat} {pc len pl : Nat} {raw : Instr} {call : Nat → List Value → PH → (Option Value → PH → Prop) → Prop} {jump : Nat → List Value → List Value → PH → Prop} {fin : Option Value → PH → Prop} {rk : Nat} {K : List Value → List Value → PH → Prop} {ls st : List Value} {h : PH}  (hx : p.tables.exec = Jvm.exec) (hb : c.code = cc) (hd : decode cc pc = .ok (raw, len)) (ho : okI own ini nL pcOf pc raw len pl (.idiv) = true) (hK : ∀ ls st h, K ls st h → GoW X p l e R s m args below meth c nL n0 u0 Q (pc + len) ls st h) (H : wpI call jump fin rk (.idiv) K ls st h) : GoW X p l e R s m args below meth c nL n0 u0 Q pc ls st h := by
  simp only [okI] at ho
  split at ho
  case _ =>
    cases eq_of_beq ho
    simp only [wpI] at H
    split at H
    · intro H0 locs lsM P L B1 B2 B3
      exact lv_idiv hx hb hd H.1 (hK _ _ _ H.2 _ _ _ P L B1 B2 B3)
    · exact H.elim
  all_goals cases ho
theorem sd_irem {X : CX} {KS : CX → State → Prop} {p : Program} {l : Launch} {e : Env} {R : Room} {s : State} {m : MethodId} {args : Array Value} {below : List Frame} {meth : Method} {c : Code} {nL n0 u0 : Nat} {Q : State → Prop} {cc : ByteArray} {own : String} {ini : Bool} {pcOf : Nat → Nat} {pc len pl : Nat} {raw : Instr} {call : Nat → List Value → PH → (Option Value → PH → Prop) → Prop} {jump : Nat → List Value → List Value → PH → Prop} {fin : Option Value → PH → Prop} {rk : Nat} {K : List Value → List Value → PH → Prop} {ls st : List Value} {h : PH}  (hx : p.tables.exec = Jvm.exec) (hb : c.code = cc) (hd : decode cc pc = .ok (raw, len)) (ho : okI own ini nL pcOf pc raw len pl (.irem) = true) (hK : ∀ ls st h, K ls st h → GoW X p l e R s m args below meth c nL n0 u0 Q (pc + len) ls st h) (H : wpI call jump fin rk (.irem) K ls st h) : GoW X p l e R s m args below meth c nL n0 u0 Q pc ls st h := by
  simp only [okI] at ho
  split at ho
  case _ =>
    cases eq_of_beq ho
    simp only [wpI] at H
    split at H
    · intro H0 locs lsM P L B1 B2 B3
      exact lv_irem hx hb hd H.1 (hK _ _ _ H.2 _ _ _ P L B1 B2 B3)
    · exact H.elim
  all_goals cases ho
theorem sd_ldiv {X : CX} {KS : CX → State → Prop} {p : Program} {l : Launch} {e : Env} {R : Room} {s : State} {m : MethodId} {args : Array Value} {below : List Frame} {meth : Method} {c : Code} {nL n0 u0 : Nat} {Q : State → Prop} {cc : ByteArray} {own : String} {ini : Bool} {pcOf : Nat → Nat} {pc len pl : Nat} {raw : Instr} {call : Nat → List Value → PH → (Option Value → PH → Prop) → Prop} {jump : Nat → List Value → List Value → PH → Prop} {fin : Option Value → PH → Prop} {rk : Nat} {K : List Value → List Value → PH → Prop} {ls st : List Value} {h : PH}  (hx : p.tables.exec = Jvm.exec) (hb : c.code = cc) (hd : decode cc pc = .ok (raw, len)) (ho : okI own ini nL pcOf pc raw len pl (.ldiv) = true) (hK : ∀ ls st h, K ls st h → GoW X p l e R s m args below meth c nL n0 u0 Q (pc + len) ls st h) (H : wpI call jump fin rk (.ldiv) K ls st h) : GoW X p l e R s m args below meth c nL n0 u0 Q pc ls st h := by
  simp only [okI] at ho
  split at ho
  case _ =>
    cases eq_of_beq ho
    simp only [wpI] at H
    split at H
    · intro H0 locs lsM P L B1 B2 B3
      exact lv_ldiv hx hb hd H.1 (hK _ _ _ H.2 _ _ _ P L B1 B2 B3)
    · exact H.elim
  all_goals cases ho
theorem sd_lrem {X : CX} {KS : CX → State → Prop} {p : Program} {l : Launch} {e : Env} {R : Room} {s : State} {m : MethodId} {args : Array Value} {below : List Frame} {meth : Method} {c : Code} {nL n0 u0 : Nat} {Q : State → Prop} {cc : ByteArray} {own : String} {ini : Bool} {pcOf : Nat → Nat} {pc len pl : Nat} {raw : Instr} {call : Nat → List Value → PH → (Option Value → PH → Prop) → Prop} {jump : Nat → List Value → List Value → PH → Prop} {fin : Option Value → PH → Prop} {rk : Nat} {K : List Value → List Value → PH → Prop} {ls st : List Value} {h : PH}  (hx : p.tables.exec = Jvm.exec) (hb : c.code = cc) (hd : decode cc pc = .ok (raw, len)) (ho : okI own ini nL pcOf pc raw len pl (.lrem) = true) (hK : ∀ ls st h, K ls st h → GoW X p l e R s m args below meth c nL n0 u0 Q (pc + len) ls st h) (H : wpI call jump fin rk (.lrem) K ls st h) : GoW X p l e R s m args below meth c nL n0 u0 Q pc ls st h := by
  simp only [okI] at ho
  split at ho
  case _ =>
    cases eq_of_beq ho
    simp only [wpI] at H
    split at H
    · intro H0 locs lsM P L B1 B2 B3
      exact lv_lrem hx hb hd H.1 (hK _ _ _ H.2 _ _ _ P L B1 B2 B3)
    · exact H.elim
  all_goals cases ho
theorem sd_lcmp {X : CX} {KS : CX → State → Prop} {p : Program} {l : Launch} {e : Env} {R : Room} {s : State} {m : MethodId} {args : Array Value} {below : List Frame} {meth : Method} {c : Code} {nL n0 u0 : Nat} {Q : State → Prop} {cc : ByteArray} {own : String} {ini : Bool} {pcOf : Nat → Nat} {pc len pl : Nat} {raw : Instr} {call : Nat → List Value → PH → (Option Value → PH → Prop) → Prop} {jump : Nat → List Value → List Value → PH → Prop} {fin : Option Value → PH → Prop} {rk : Nat} {K : List Value → List Value → PH → Prop} {ls st : List Value} {h : PH}  (hx : p.tables.exec = Jvm.exec) (hb : c.code = cc) (hd : decode cc pc = .ok (raw, len)) (ho : okI own ini nL pcOf pc raw len pl (.lcmp) = true) (hK : ∀ ls st h, K ls st h → GoW X p l e R s m args below meth c nL n0 u0 Q (pc + len) ls st h) (H : wpI call jump fin rk (.lcmp) K ls st h) : GoW X p l e R s m args below meth c nL n0 u0 Q pc ls st h := by
  simp only [okI] at ho
  split at ho
  case _ =>
    cases eq_of_beq ho
    simp only [wpI] at H
    split at H
    · intro H0 locs lsM P L B1 B2 B3
      exact W.lcmp hx hb hd (hK _ _ _ H _ _ _ P L B1 B2 B3)
    · exact H.elim
  all_goals cases ho
theorem sd_ldc_w {X : CX} {KS : CX → State → Prop} {p : Program} {l : Launch} {e : Env} {R : Room} {s : State} {m : MethodId} {args : Array Value} {below : List Frame} {meth : Method} {c : Code} {nL n0 u0 : Nat} {Q : State → Prop} {cc : ByteArray} {own : String} {ini : Bool} {pcOf : Nat → Nat} {pc len pl : Nat} {raw : Instr} {call : Nat → List Value → PH → (Option Value → PH → Prop) → Prop} {jump : Nat → List Value → List Value → PH → Prop} {fin : Option Value → PH → Prop} {rk : Nat} {K : List Value → List Value → PH → Prop} {ls st : List Value} {h : PH} {n : Nat} (hx : p.tables.exec = Jvm.exec) (hb : c.code = cc) (hd : decode cc pc = .ok (raw, len)) (ho : okI own ini nL pcOf pc raw len pl (.ldc_w n) = true) (hK : ∀ ls st h, K ls st h → GoW X p l e R s m args below meth c nL n0 u0 Q (pc + len) ls st h) (hown : s.vm.findClass own = some m.cls) (hts : ∀ w ∈ lw_good, w.before args s = true) (H : wpI call jump fin rk (.ldc_w n) K ls st h) : GoW X p l e R s m args below meth c nL n0 u0 Q pc ls st h := by
  simp only [wpI] at H
  intro H0 locs lsM P L B1 B2 B3
  have k := hK _ _ _ H _ _ _ P L B1 B2 B3
  simp only [okI] at ho
  split at ho
  · simp only [Bool.and_eq_true, beq_iff_eq, decide_eq_true_eq] at ho
    obtain ⟨rfl, hv⟩ := ho
    exact lv_iconst hx hb hd hv k
  · simp only [Bool.and_eq_true, beq_iff_eq, decide_eq_true_eq] at ho
    obtain ⟨rfl, hv⟩ := ho
    exact lv_bipush hx hb hd hv k
  · simp only [Bool.and_eq_true, beq_iff_eq, decide_eq_true_eq] at ho
    obtain ⟨rfl, hv⟩ := ho
    exact lv_sipush hx hb hd hv k
  · simp only [Bool.and_eq_true, beq_iff_eq] at ho
    obtain ⟨rfl, hv⟩ := ho
    exact lv_ldc hx hb hown (hts _ (wGd_mem hv)) hd k
  · simp only [Bool.and_eq_true, beq_iff_eq] at ho
    obtain ⟨rfl, hv⟩ := ho
    exact lv_ldcw hx hb hown (hts _ (wGd_mem hv)) hd k
  · cases ho
theorem sd_iconst {X : CX} {KS : CX → State → Prop} {p : Program} {l : Launch} {e : Env} {R : Room} {s : State} {m : MethodId} {args : Array Value} {below : List Frame} {meth : Method} {c : Code} {nL n0 u0 : Nat} {Q : State → Prop} {cc : ByteArray} {own : String} {ini : Bool} {pcOf : Nat → Nat} {pc len pl : Nat} {raw : Instr} {call : Nat → List Value → PH → (Option Value → PH → Prop) → Prop} {jump : Nat → List Value → List Value → PH → Prop} {fin : Option Value → PH → Prop} {rk : Nat} {K : List Value → List Value → PH → Prop} {ls st : List Value} {h : PH} {z : Int} (hx : p.tables.exec = Jvm.exec) (hb : c.code = cc) (hd : decode cc pc = .ok (raw, len)) (ho : okI own ini nL pcOf pc raw len pl (.iconst z) = true) (hK : ∀ ls st h, K ls st h → GoW X p l e R s m args below meth c nL n0 u0 Q (pc + len) ls st h) (H : wpI call jump fin rk (.iconst z) K ls st h) : GoW X p l e R s m args below meth c nL n0 u0 Q pc ls st h := by
  simp only [wpI] at H
  intro H0 locs lsM P L B1 B2 B3
  have k := hK _ _ _ H _ _ _ P L B1 B2 B3
  simp only [okI] at ho
  split at ho
  · simp only [Bool.and_eq_true, beq_iff_eq, decide_eq_true_eq] at ho
    obtain ⟨rfl, hv⟩ := ho
    exact lv_iconst hx hb hd hv k
  · simp only [Bool.and_eq_true, beq_iff_eq, decide_eq_true_eq] at ho
    obtain ⟨rfl, hv⟩ := ho
    exact lv_bipush hx hb hd hv k
  · simp only [Bool.and_eq_true, beq_iff_eq, decide_eq_true_eq] at ho
    obtain ⟨rfl, hv⟩ := ho
    exact lv_sipush hx hb hd hv k
  · cases ho
theorem sd_ldc2_w {X : CX} {KS : CX → State → Prop} {p : Program} {l : Launch} {e : Env} {R : Room} {s : State} {m : MethodId} {args : Array Value} {below : List Frame} {meth : Method} {c : Code} {nL n0 u0 : Nat} {Q : State → Prop} {cc : ByteArray} {own : String} {ini : Bool} {pcOf : Nat → Nat} {pc len pl : Nat} {raw : Instr} {call : Nat → List Value → PH → (Option Value → PH → Prop) → Prop} {jump : Nat → List Value → List Value → PH → Prop} {fin : Option Value → PH → Prop} {rk : Nat} {K : List Value → List Value → PH → Prop} {ls st : List Value} {h : PH} {n : Nat} (hx : p.tables.exec = Jvm.exec) (hb : c.code = cc) (hd : decode cc pc = .ok (raw, len)) (ho : okI own ini nL pcOf pc raw len pl (.ldc2_w n) = true) (hK : ∀ ls st h, K ls st h → GoW X p l e R s m args below meth c nL n0 u0 Q (pc + len) ls st h) (hown : s.vm.findClass own = some m.cls) (hts : ∀ w ∈ lw_good, w.before args s = true) (H : wpI call jump fin rk (.ldc2_w n) K ls st h) : GoW X p l e R s m args below meth c nL n0 u0 Q pc ls st h := by
  simp only [wpI] at H
  intro H0 locs lsM P L B1 B2 B3
  have k := hK _ _ _ H _ _ _ P L B1 B2 B3
  simp only [okI] at ho
  split at ho
  · simp only [Bool.and_eq_true, beq_iff_eq, decide_eq_true_eq] at ho
    obtain ⟨rfl, hv⟩ := ho
    exact lv_lconst hx hb hd hv k
  · simp only [Bool.and_eq_true, beq_iff_eq] at ho
    obtain ⟨rfl, hv⟩ := ho
    exact lv_ldc2 hx hb hown (hts _ (wGd_mem hv)) hd k
  · cases ho
theorem sd_jsr_w {X : CX} {KS : CX → State → Prop} {p : Program} {l : Launch} {e : Env} {R : Room} {s : State} {m : MethodId} {args : Array Value} {below : List Frame} {meth : Method} {c : Code} {nL n0 u0 : Nat} {Q : State → Prop} {cc : ByteArray} {own : String} {ini : Bool} {pcOf : Nat → Nat} {pc len pl : Nat} {raw : Instr} {call : Nat → List Value → PH → (Option Value → PH → Prop) → Prop} {jump : Nat → List Value → List Value → PH → Prop} {fin : Option Value → PH → Prop} {rk : Nat} {K : List Value → List Value → PH → Prop} {ls st : List Value} {h : PH} {z : Int} (hx : p.tables.exec = Jvm.exec) (hb : c.code = cc) (hd : decode cc pc = .ok (raw, len)) (ho : okI own ini nL pcOf pc raw len pl (.jsr_w z) = true) (hK : ∀ ls st h, K ls st h → GoW X p l e R s m args below meth c nL n0 u0 Q (pc + len) ls st h) (hown : s.vm.findClass own = some m.cls) (hts : ∀ w ∈ lw_good, w.before args s = true) (H : wpI call jump fin rk (.jsr_w z) K ls st h) : GoW X p l e R s m args below meth c nL n0 u0 Q pc ls st h := by
  simp only [wpI] at H
  intro H0 locs lsM P L B1 B2 B3
  have k := hK _ _ _ H _ _ _ P L B1 B2 B3
  simp only [okI] at ho
  split at ho
  · simp only [Bool.and_eq_true, beq_iff_eq] at ho
    obtain ⟨rfl, hv⟩ := ho
    exact lv_ldc2 hx hb hown (hts _ (wGd_mem hv)) hd k
  · cases ho
theorem sd_aconst_null {X : CX} {KS : CX → State → Prop} {p : Program} {l : Launch} {e : Env} {R : Room} {s : State} {m : MethodId} {args : Array Value} {below : List Frame} {meth : Method} {c : Code} {nL n0 u0 : Nat} {Q : State → Prop} {cc : ByteArray} {own : String} {ini : Bool} {pcOf : Nat → Nat} {pc len pl : Nat} {raw : Instr} {call : Nat → List Value → PH → (Option Value → PH → Prop) → Prop} {jump : Nat → List Value → List Value → PH → Prop} {fin : Option Value → PH → Prop} {rk : Nat} {K : List Value → List Value → PH → Prop} {ls st : List Value} {h : PH}  (hx : p.tables.exec = Jvm.exec) (hb : c.code = cc) (hd : decode cc pc = .ok (raw, len)) (ho : okI own ini nL pcOf pc raw len pl (.aconst_null) = true) (hK : ∀ ls st h, K ls st h → GoW X p l e R s m args below meth c nL n0 u0 Q (pc + len) ls st h) (H : wpI call jump fin rk (.aconst_null) K ls st h) : GoW X p l e R s m args below meth c nL n0 u0 Q pc ls st h := by
  simp only [okI] at ho
  split at ho
  case _ =>
    cases eq_of_beq ho
    simp only [wpI] at H
    intro H0 locs lsM P L B1 B2 B3
    exact lv_null hx hb hd (hK _ _ _ H _ _ _ P L B1 B2 B3)
  all_goals cases ho
theorem sd_iload {X : CX} {KS : CX → State → Prop} {p : Program} {l : Launch} {e : Env} {R : Room} {s : State} {m : MethodId} {args : Array Value} {below : List Frame} {meth : Method} {c : Code} {nL n0 u0 : Nat} {Q : State → Prop} {cc : ByteArray} {own : String} {ini : Bool} {pcOf : Nat → Nat} {pc len pl : Nat} {raw : Instr} {call : Nat → List Value → PH → (Option Value → PH → Prop) → Prop} {jump : Nat → List Value → List Value → PH → Prop} {fin : Option Value → PH → Prop} {rk : Nat} {K : List Value → List Value → PH → Prop} {ls st : List Value} {h : PH} {k : Nat} (hx : p.tables.exec = Jvm.exec) (hb : c.code = cc) (hd : decode cc pc = .ok (raw, len)) (ho : okI own ini nL pcOf pc raw len pl (.iload k) = true) (hK : ∀ ls st h, K ls st h → GoW X p l e R s m args below meth c nL n0 u0 Q (pc + len) ls st h) (H : wpI call jump fin rk (.iload k) K ls st h) : GoW X p l e R s m args below meth c nL n0 u0 Q pc ls st h := by
  simp only [wpI] at H
  split at H
  · rename_i x hv
    intro H0 locs lsM P L B1 B2 B3
    have kk := hK _ _ _ H _ _ _ P L B1 B2 B3
    have hl : lsM[k]? = some (.val (.int x)) := by
      have q := L.2.2.2 k (by rw [hv]; rfl)
      rw [hv] at q
      exact q
    simp only [okI] at ho
    split at ho
    · simp only [Bool.and_eq_true, beq_iff_eq] at ho
      obtain ⟨rfl, hv⟩ := ho
      exact lv_iload_n hx hb hd hv hl kk
    · simp only [Bool.and_eq_true, beq_iff_eq] at ho
      obtain ⟨rfl, rfl⟩ := ho
      exact lv_iload hx hb hd hl kk
    · cases ho
  · exact H.elim
theorem sd_lload {X : CX} {KS : CX → State → Prop} {p : Program} {l : Launch} {e : Env} {R : Room} {s : State} {m : MethodId} {args : Array Value} {below : List Frame} {meth : Method} {c : Code} {nL n0 u0 : Nat} {Q : State → Prop} {cc : ByteArray} {own : String} {ini : Bool} {pcOf : Nat → Nat} {pc len pl : Nat} {raw : Instr} {call : Nat → List Value → PH → (Option Value → PH → Prop) → Prop} {jump : Nat → List Value → List Value → PH → Prop} {fin : Option Value → PH → Prop} {rk : Nat} {K : List Value → List Value → PH → Prop} {ls st : List Value} {h : PH} {k : Nat} (hx : p.tables.exec = Jvm.exec) (hb : c.code = cc) (hd : decode cc pc = .ok (raw, len)) (ho : okI own ini nL pcOf pc raw len pl (.lload k) = true) (hK : ∀ ls st h, K ls st h → GoW X p l e R s m args below meth c nL n0 u0 Q (pc + len) ls st h) (H : wpI call jump fin rk (.lload k) K ls st h) : GoW X p l e R s m args below meth c nL n0 u0 Q pc ls st h := by
  simp only [wpI] at H
  split at H
  · rename_i x hv
    intro H0 locs lsM P L B1 B2 B3
    have kk := hK _ _ _ H _ _ _ P L B1 B2 B3
    have hl : lsM[k]? = some (.val (.long x)) := by
      have q := L.2.2.2 k (by rw [hv]; rfl)
      rw [hv] at q
      exact q
    simp only [okI] at ho
    split at ho
    · simp only [Bool.and_eq_true, beq_iff_eq] at ho
      obtain ⟨rfl, hv⟩ := ho
      exact lv_lload_n hx hb hd hv hl kk
    · simp only [Bool.and_eq_true, beq_iff_eq] at ho
      obtain ⟨rfl, rfl⟩ := ho
      exact lv_lload hx hb hd hl kk
    · cases ho
  · exact H.elim
theorem sd_aload {X : CX} {KS : CX → State → Prop} {p : Program} {l : Launch} {e : Env} {R : Room} {s : State} {m : MethodId} {args : Array Value} {below : List Frame} {meth : Method} {c : Code} {nL n0 u0 : Nat} {Q : State → Prop} {cc : ByteArray} {own : String} {ini : Bool} {pcOf : Nat → Nat} {pc len pl : Nat} {raw : Instr} {call : Nat → List Value → PH → (Option Value → PH → Prop) → Prop} {jump : Nat → List Value → List Value → PH → Prop} {fin : Option Value → PH → Prop} {rk : Nat} {K : List Value → List Value → PH → Prop} {ls st : List Value} {h : PH} {k : Nat} (hx : p.tables.exec = Jvm.exec) (hb : c.code = cc) (hd : decode cc pc = .ok (raw, len)) (ho : okI own ini nL pcOf pc raw len pl (.aload k) = true) (hK : ∀ ls st h, K ls st h → GoW X p l e R s m args below meth c nL n0 u0 Q (pc + len) ls st h) (H : wpI call jump fin rk (.aload k) K ls st h) : GoW X p l e R s m args below meth c nL n0 u0 Q pc ls st h := by
  simp only [wpI] at H
  split at H
  · rename_i x hv
    intro H0 locs lsM P L B1 B2 B3
    have kk := hK _ _ _ H _ _ _ P L B1 B2 B3
    have hl : lsM[k]? = some (.val (.ref (ad X x))) := by
      have q := L.2.2.2 k (by rw [hv]; rfl)
      rw [hv] at q
      exact q
    simp only [okI] at ho
    split at ho
    · simp only [Bool.and_eq_true, beq_iff_eq] at ho
      obtain ⟨rfl, hv⟩ := ho
      exact lv_aload_n hx hb hd hv hl kk
    · simp only [Bool.and_eq_true, beq_iff_eq] at ho
      obtain ⟨rfl, rfl⟩ := ho
      exact lv_aload hx hb hd hl kk
    · cases ho
  · rename_i hv
    intro H0 locs lsM P L B1 B2 B3
    have kk := hK _ _ _ H _ _ _ P L B1 B2 B3
    have hl : lsM[k]? = some (.val .null) := by
      have q := L.2.2.2 k (by rw [hv]; rfl)
      rw [hv] at q
      exact q
    simp only [okI] at ho
    split at ho
    · simp only [Bool.and_eq_true, beq_iff_eq] at ho
      obtain ⟨rfl, hv⟩ := ho
      exact lv_aload_nN hx hb hd hv hl kk
    · simp only [Bool.and_eq_true, beq_iff_eq] at ho
      obtain ⟨rfl, rfl⟩ := ho
      exact lv_aloadN hx hb hd hl kk
    · cases ho
  · exact H.elim
theorem sd_istore {X : CX} {KS : CX → State → Prop} {p : Program} {l : Launch} {e : Env} {R : Room} {s : State} {m : MethodId} {args : Array Value} {below : List Frame} {meth : Method} {c : Code} {nL n0 u0 : Nat} {Q : State → Prop} {cc : ByteArray} {own : String} {ini : Bool} {pcOf : Nat → Nat} {pc len pl : Nat} {raw : Instr} {call : Nat → List Value → PH → (Option Value → PH → Prop) → Prop} {jump : Nat → List Value → List Value → PH → Prop} {fin : Option Value → PH → Prop} {rk : Nat} {K : List Value → List Value → PH → Prop} {ls st : List Value} {h : PH} {k : Nat} (hx : p.tables.exec = Jvm.exec) (hb : c.code = cc) (hd : decode cc pc = .ok (raw, len)) (ho : okI own ini nL pcOf pc raw len pl (.istore k) = true) (hK : ∀ ls st h, K ls st h → GoW X p l e R s m args below meth c nL n0 u0 Q (pc + len) ls st h) (H : wpI call jump fin rk (.istore k) K ls st h) : GoW X p l e R s m args below meth c nL n0 u0 Q pc ls st h := by
  simp only [wpI] at H
  simp only [okI, Bool.and_eq_true, decide_eq_true_eq] at ho
  obtain ⟨hkn, ho⟩ := ho
  split at H
  · intro H0 locs lsM P L B1 B2 B3
    split at ho
    · simp only [Bool.and_eq_true, beq_iff_eq] at ho
      obtain ⟨rfl, hv⟩ := ho
      exact lv_istore_n hx hb hd hv L.has hkn rfl (fun ls' h' => hK _ _ _ H.2 _ _ _ P (L.st1 hkn _ H.1 h') B1 B2 B3)
    · simp only [Bool.and_eq_true, beq_iff_eq] at ho
      obtain ⟨rfl, rfl⟩ := ho
      exact lv_istore hx hb hd L.has hkn rfl (fun ls' h' => hK _ _ _ H.2 _ _ _ P (L.st1 hkn _ H.1 h') B1 B2 B3)
    · cases ho
  · exact H.elim
theorem sd_lstore {X : CX} {KS : CX → State → Prop} {p : Program} {l : Launch} {e : Env} {R : Room} {s : State} {m : MethodId} {args : Array Value} {below : List Frame} {meth : Method} {c : Code} {nL n0 u0 : Nat} {Q : State → Prop} {cc : ByteArray} {own : String} {ini : Bool} {pcOf : Nat → Nat} {pc len pl : Nat} {raw : Instr} {call : Nat → List Value → PH → (Option Value → PH → Prop) → Prop} {jump : Nat → List Value → List Value → PH → Prop} {fin : Option Value → PH → Prop} {rk : Nat} {K : List Value → List Value → PH → Prop} {ls st : List Value} {h : PH} {k : Nat} (hx : p.tables.exec = Jvm.exec) (hb : c.code = cc) (hd : decode cc pc = .ok (raw, len)) (ho : okI own ini nL pcOf pc raw len pl (.lstore k) = true) (hK : ∀ ls st h, K ls st h → GoW X p l e R s m args below meth c nL n0 u0 Q (pc + len) ls st h) (H : wpI call jump fin rk (.lstore k) K ls st h) : GoW X p l e R s m args below meth c nL n0 u0 Q pc ls st h := by
  simp only [wpI] at H
  simp only [okI, Bool.and_eq_true, decide_eq_true_eq] at ho
  obtain ⟨hkn, ho⟩ := ho
  split at H
  · intro H0 locs lsM P L B1 B2 B3
    split at ho
    · simp only [Bool.and_eq_true, beq_iff_eq] at ho
      obtain ⟨rfl, hv⟩ := ho
      exact lv_lstore_n hx hb hd hv L.has hkn rfl (fun ls' h' => hK _ _ _ H.2 _ _ _ P (L.st2 hkn _ H.1 h') B1 B2 B3)
    · simp only [Bool.and_eq_true, beq_iff_eq] at ho
      obtain ⟨rfl, rfl⟩ := ho
      exact lv_lstore hx hb hd L.has hkn rfl (fun ls' h' => hK _ _ _ H.2 _ _ _ P (L.st2 hkn _ H.1 h') B1 B2 B3)
    · cases ho
  · exact H.elim
theorem sd_astore {X : CX} {KS : CX → State → Prop} {p : Program} {l : Launch} {e : Env} {R : Room} {s : State} {m : MethodId} {args : Array Value} {below : List Frame} {meth : Method} {c : Code} {nL n0 u0 : Nat} {Q : State → Prop} {cc : ByteArray} {own : String} {ini : Bool} {pcOf : Nat → Nat} {pc len pl : Nat} {raw : Instr} {call : Nat → List Value → PH → (Option Value → PH → Prop) → Prop} {jump : Nat → List Value → List Value → PH → Prop} {fin : Option Value → PH → Prop} {rk : Nat} {K : List Value → List Value → PH → Prop} {ls st : List Value} {h : PH} {k : Nat} (hx : p.tables.exec = Jvm.exec) (hb : c.code = cc) (hd : decode cc pc = .ok (raw, len)) (ho : okI own ini nL pcOf pc raw len pl (.astore k) = true) (hK : ∀ ls st h, K ls st h → GoW X p l e R s m args below meth c nL n0 u0 Q (pc + len) ls st h) (H : wpI call jump fin rk (.astore k) K ls st h) : GoW X p l e R s m args below meth c nL n0 u0 Q pc ls st h := by
  simp only [wpI] at H
  simp only [okI, Bool.and_eq_true, decide_eq_true_eq] at ho
  obtain ⟨hkn, ho⟩ := ho
  split at H
  · intro H0 locs lsM P L B1 B2 B3
    split at ho
    · simp only [Bool.and_eq_true, beq_iff_eq] at ho
      obtain ⟨rfl, hv⟩ := ho
      exact lv_astore_n hx hb hd hv L.has hkn rfl (fun ls' h' => hK _ _ _ H.2 _ _ _ P (L.st1 hkn _ H.1 h') B1 B2 B3)
    · simp only [Bool.and_eq_true, beq_iff_eq] at ho
      obtain ⟨rfl, rfl⟩ := ho
      exact lv_astore hx hb hd L.has hkn rfl (fun ls' h' => hK _ _ _ H.2 _ _ _ P (L.st1 hkn _ H.1 h') B1 B2 B3)
    · cases ho
  · intro H0 locs lsM P L B1 B2 B3
    split at ho
    · simp only [Bool.and_eq_true, beq_iff_eq] at ho
      obtain ⟨rfl, hv⟩ := ho
      exact lv_astore_nN hx hb hd hv L.has hkn rfl (fun ls' h' => hK _ _ _ H.2 _ _ _ P (L.st1 hkn _ H.1 h') B1 B2 B3)
    · simp only [Bool.and_eq_true, beq_iff_eq] at ho
      obtain ⟨rfl, rfl⟩ := ho
      exact lv_astoreN hx hb hd L.has hkn rfl (fun ls' h' => hK _ _ _ H.2 _ _ _ P (L.st1 hkn _ H.1 h') B1 B2 B3)
    · cases ho
  · exact H.elim
theorem sd_iinc {X : CX} {KS : CX → State → Prop} {p : Program} {l : Launch} {e : Env} {R : Room} {s : State} {m : MethodId} {args : Array Value} {below : List Frame} {meth : Method} {c : Code} {nL n0 u0 : Nat} {Q : State → Prop} {cc : ByteArray} {own : String} {ini : Bool} {pcOf : Nat → Nat} {pc len pl : Nat} {raw : Instr} {call : Nat → List Value → PH → (Option Value → PH → Prop) → Prop} {jump : Nat → List Value → List Value → PH → Prop} {fin : Option Value → PH → Prop} {rk : Nat} {K : List Value → List Value → PH → Prop} {ls st : List Value} {h : PH} {k : Nat} {z : Int} (hx : p.tables.exec = Jvm.exec) (hb : c.code = cc) (hd : decode cc pc = .ok (raw, len)) (ho : okI own ini nL pcOf pc raw len pl (.iinc k z) = true) (hK : ∀ ls st h, K ls st h → GoW X p l e R s m args below meth c nL n0 u0 Q (pc + len) ls st h) (H : wpI call jump fin rk (.iinc k z) K ls st h) : GoW X p l e R s m args below meth c nL n0 u0 Q pc ls st h := by
  simp only [wpI] at H
  simp only [okI, Bool.and_eq_true, decide_eq_true_eq] at ho
  obtain ⟨hkn, ho⟩ := ho
  split at H
  · rename_i x hv
    intro H0 locs lsM P L B1 B2 B3
    split at ho
    · simp only [Bool.and_eq_true, beq_iff_eq] at ho
      obtain ⟨⟨rfl, rfl⟩, rfl⟩ := ho
      obtain ⟨j, hj⟩ := List.getElem?_of_mem (lvOf_mem (X := X) (nL := nL) (ls := ls) hkn (by rw [hv]; rfl))
      rw [hv] at hj
      exact lv_iinc hx hb hd L.has hj rfl hkn rfl (fun ls' h' => hK _ _ _ H.2 _ _ _ P (L.st1 hkn _ H.1 h') B1 B2 B3)
    · cases ho
  · exact H.elim
theorem sd_dup {X : CX} {KS : CX → State → Prop} {p : Program} {l : Launch} {e : Env} {R : Room} {s : State} {m : MethodId} {args : Array Value} {below : List Frame} {meth : Method} {c : Code} {nL n0 u0 : Nat} {Q : State → Prop} {cc : ByteArray} {own : String} {ini : Bool} {pcOf : Nat → Nat} {pc len pl : Nat} {raw : Instr} {call : Nat → List Value → PH → (Option Value → PH → Prop) → Prop} {jump : Nat → List Value → List Value → PH → Prop} {fin : Option Value → PH → Prop} {rk : Nat} {K : List Value → List Value → PH → Prop} {ls st : List Value} {h : PH}  (hx : p.tables.exec = Jvm.exec) (hb : c.code = cc) (hd : decode cc pc = .ok (raw, len)) (ho : okI own ini nL pcOf pc raw len pl (.dup) = true) (hK : ∀ ls st h, K ls st h → GoW X p l e R s m args below meth c nL n0 u0 Q (pc + len) ls st h) (H : wpI call jump fin rk (.dup) K ls st h) : GoW X p l e R s m args below meth c nL n0 u0 Q pc ls st h := by
  simp only [okI] at ho
  split at ho
  case _ =>
    cases eq_of_beq ho
    simp only [wpI] at H
    split at H
    · intro H0 locs lsM P L B1 B2 B3
      exact lv_dup hx hb hd rfl (hK _ _ _ H _ _ _ P L B1 B2 B3)
    · intro H0 locs lsM P L B1 B2 B3
      exact lv_dup hx hb hd rfl (hK _ _ _ H _ _ _ P L B1 B2 B3)
    · intro H0 locs lsM P L B1 B2 B3
      exact lv_dup hx hb hd rfl (hK _ _ _ H _ _ _ P L B1 B2 B3)
    · exact H.elim
  all_goals cases ho
theorem sd_dup2 {X : CX} {KS : CX → State → Prop} {p : Program} {l : Launch} {e : Env} {R : Room} {s : State} {m : MethodId} {args : Array Value} {below : List Frame} {meth : Method} {c : Code} {nL n0 u0 : Nat} {Q : State → Prop} {cc : ByteArray} {own : String} {ini : Bool} {pcOf : Nat → Nat} {pc len pl : Nat} {raw : Instr} {call : Nat → List Value → PH → (Option Value → PH → Prop) → Prop} {jump : Nat → List Value → List Value → PH → Prop} {fin : Option Value → PH → Prop} {rk : Nat} {K : List Value → List Value → PH → Prop} {ls st : List Value} {h : PH}  (hx : p.tables.exec = Jvm.exec) (hb : c.code = cc) (hd : decode cc pc = .ok (raw, len)) (ho : okI own ini nL pcOf pc raw len pl (.dup2) = true) (hK : ∀ ls st h, K ls st h → GoW X p l e R s m args below meth c nL n0 u0 Q (pc + len) ls st h) (H : wpI call jump fin rk (.dup2) K ls st h) : GoW X p l e R s m args below meth c nL n0 u0 Q pc ls st h := by
  simp only [okI] at ho
  split at ho
  case _ =>
    cases eq_of_beq ho
    simp only [wpI] at H
    split at H
    · intro H0 locs lsM P L B1 B2 B3
      exact lv_dup2_11 hx hb hd rfl rfl (hK _ _ _ H _ _ _ P L B1 B2 B3)
    · intro H0 locs lsM P L B1 B2 B3
      exact lv_dup2_2 hx hb hd rfl (hK _ _ _ H _ _ _ P L B1 B2 B3)
    · exact H.elim
  all_goals cases ho
theorem sd_pop {X : CX} {KS : CX → State → Prop} {p : Program} {l : Launch} {e : Env} {R : Room} {s : State} {m : MethodId} {args : Array Value} {below : List Frame} {meth : Method} {c : Code} {nL n0 u0 : Nat} {Q : State → Prop} {cc : ByteArray} {own : String} {ini : Bool} {pcOf : Nat → Nat} {pc len pl : Nat} {raw : Instr} {call : Nat → List Value → PH → (Option Value → PH → Prop) → Prop} {jump : Nat → List Value → List Value → PH → Prop} {fin : Option Value → PH → Prop} {rk : Nat} {K : List Value → List Value → PH → Prop} {ls st : List Value} {h : PH}  (hx : p.tables.exec = Jvm.exec) (hb : c.code = cc) (hd : decode cc pc = .ok (raw, len)) (ho : okI own ini nL pcOf pc raw len pl (.pop) = true) (hK : ∀ ls st h, K ls st h → GoW X p l e R s m args below meth c nL n0 u0 Q (pc + len) ls st h) (H : wpI call jump fin rk (.pop) K ls st h) : GoW X p l e R s m args below meth c nL n0 u0 Q pc ls st h := by
  simp only [okI] at ho
  split at ho
  case _ =>
    cases eq_of_beq ho
    simp only [wpI] at H
    split at H
    · intro H0 locs lsM P L B1 B2 B3
      exact lv_pop hx hb hd rfl (hK _ _ _ H _ _ _ P L B1 B2 B3)
    · intro H0 locs lsM P L B1 B2 B3
      exact lv_pop hx hb hd rfl (hK _ _ _ H _ _ _ P L B1 B2 B3)
    · intro H0 locs lsM P L B1 B2 B3
      exact lv_pop hx hb hd rfl (hK _ _ _ H _ _ _ P L B1 B2 B3)
    · exact H.elim
  all_goals cases ho
theorem sd_goto {X : CX} {KS : CX → State → Prop} {p : Program} {l : Launch} {e : Env} {R : Room} {s : State} {m : MethodId} {args : Array Value} {below : List Frame} {meth : Method} {c : Code} {nL n0 u0 : Nat} {Q : State → Prop} {cc : ByteArray} {own : String} {ini : Bool} {pcOf : Nat → Nat} {pc len pl : Nat} {raw : Instr} {call : Nat → List Value → PH → (Option Value → PH → Prop) → Prop} {jump : Nat → List Value → List Value → PH → Prop} {fin : Option Value → PH → Prop} {rk : Nat} {K : List Value → List Value → PH → Prop} {ls st : List Value} {h : PH} {z : Int} (hx : p.tables.exec = Jvm.exec) (hb : c.code = cc) (hd : decode cc pc = .ok (raw, len)) (ho : okI own ini nL pcOf pc raw len pl (.goto z) = true) (hJ : ∀ b ls st h, jump b ls st h → GoW X p l e R s m args below meth c nL n0 u0 Q (pcOf b) ls st h) (H : wpI call jump fin rk (.goto z) K ls st h) : GoW X p l e R s m args below meth c nL n0 u0 Q pc ls st h := by
  simp only [wpI] at H
  simp only [okI] at ho
  split at ho
  · simp only [Bool.and_eq_true, beq_iff_eq, decide_eq_true_eq] at ho
    obtain ⟨rfl, ht⟩ := ho
    intro H0 locs lsM P L B1 B2 B3
    exact lv_goto hx hb hd ht (hJ _ _ _ _ H _ _ _ P L B1 B2 B3)
  · cases ho
theorem sd_if_icmp_eq {X : CX} {KS : CX → State → Prop} {p : Program} {l : Launch} {e : Env} {R : Room} {s : State} {m : MethodId} {args : Array Value} {below : List Frame} {meth : Method} {c : Code} {nL n0 u0 : Nat} {Q : State → Prop} {cc : ByteArray} {own : String} {ini : Bool} {pcOf : Nat → Nat} {pc len pl : Nat} {raw : Instr} {call : Nat → List Value → PH → (Option Value → PH → Prop) → Prop} {jump : Nat → List Value → List Value → PH → Prop} {fin : Option Value → PH → Prop} {rk : Nat} {K : List Value → List Value → PH → Prop} {ls st : List Value} {h : PH} {z : Int} (hx : p.tables.exec = Jvm.exec) (hb : c.code = cc) (hd : decode cc pc = .ok (raw, len)) (ho : okI own ini nL pcOf pc raw len pl (.if_icmp .eq z) = true) (hK : ∀ ls st h, K ls st h → GoW X p l e R s m args below meth c nL n0 u0 Q (pc + len) ls st h) (hJ : ∀ b ls st h, jump b ls st h → GoW X p l e R s m args below meth c nL n0 u0 Q (pcOf b) ls st h) (H : wpI call jump fin rk (.if_icmp .eq z) K ls st h) : GoW X p l e R s m args below meth c nL n0 u0 Q pc ls st h := by
  simp only [wpI] at H
  simp only [okI] at ho
  split at ho
  · simp only [Bool.and_eq_true, beq_iff_eq, decide_eq_true_eq] at ho
    obtain ⟨⟨rfl, rfl⟩, ht⟩ := ho
    split at H
    · intro H0 locs lsM P L B1 B2 B3
      exact lv_icmp_eq hx hb hd ht (fun q => hJ _ _ _ _ (by rw [if_pos q] at H; exact H) _ _ _ P L B1 B2 B3) (fun q => hK _ _ _ (by rw [if_neg q] at H; exact H) _ _ _ P L B1 B2 B3)
    · exact H.elim
  · cases ho
theorem sd_if_icmp_ne {X : CX} {KS : CX → State → Prop} {p : Program} {l : Launch} {e : Env} {R : Room} {s : State} {m : MethodId} {args : Array Value} {below : List Frame} {meth : Method} {c : Code} {nL n0 u0 : Nat} {Q : State → Prop} {cc : ByteArray} {own : String} {ini : Bool} {pcOf : Nat → Nat} {pc len pl : Nat} {raw : Instr} {call : Nat → List Value → PH → (Option Value → PH → Prop) → Prop} {jump : Nat → List Value → List Value → PH → Prop} {fin : Option Value → PH → Prop} {rk : Nat} {K : List Value → List Value → PH → Prop} {ls st : List Value} {h : PH} {z : Int} (hx : p.tables.exec = Jvm.exec) (hb : c.code = cc) (hd : decode cc pc = .ok (raw, len)) (ho : okI own ini nL pcOf pc raw len pl (.if_icmp .ne z) = true) (hK : ∀ ls st h, K ls st h → GoW X p l e R s m args below meth c nL n0 u0 Q (pc + len) ls st h) (hJ : ∀ b ls st h, jump b ls st h → GoW X p l e R s m args below meth c nL n0 u0 Q (pcOf b) ls st h) (H : wpI call jump fin rk (.if_icmp .ne z) K ls st h) : GoW X p l e R s m args below meth c nL n0 u0 Q pc ls st h := by
  simp only [wpI] at H
  simp only [okI] at ho
  split at ho
  · simp only [Bool.and_eq_true, beq_iff_eq, decide_eq_true_eq] at ho
    obtain ⟨⟨rfl, rfl⟩, ht⟩ := ho
    split at H
    · intro H0 locs lsM P L B1 B2 B3
      exact lv_icmp_ne hx hb hd ht (fun q => hJ _ _ _ _ (by rw [if_neg q] at H; exact H) _ _ _ P L B1 B2 B3) (fun q => hK _ _ _ (by rw [if_pos q] at H; exact H) _ _ _ P L B1 B2 B3)
    · exact H.elim
  · cases ho
theorem sd_if_icmp_lt {X : CX} {KS : CX → State → Prop} {p : Program} {l : Launch} {e : Env} {R : Room} {s : State} {m : MethodId} {args : Array Value} {below : List Frame} {meth : Method} {c : Code} {nL n0 u0 : Nat} {Q : State → Prop} {cc : ByteArray} {own : String} {ini : Bool} {pcOf : Nat → Nat} {pc len pl : Nat} {raw : Instr} {call : Nat → List Value → PH → (Option Value → PH → Prop) → Prop} {jump : Nat → List Value → List Value → PH → Prop} {fin : Option Value → PH → Prop} {rk : Nat} {K : List Value → List Value → PH → Prop} {ls st : List Value} {h : PH} {z : Int} (hx : p.tables.exec = Jvm.exec) (hb : c.code = cc) (hd : decode cc pc = .ok (raw, len)) (ho : okI own ini nL pcOf pc raw len pl (.if_icmp .lt z) = true) (hK : ∀ ls st h, K ls st h → GoW X p l e R s m args below meth c nL n0 u0 Q (pc + len) ls st h) (hJ : ∀ b ls st h, jump b ls st h → GoW X p l e R s m args below meth c nL n0 u0 Q (pcOf b) ls st h) (H : wpI call jump fin rk (.if_icmp .lt z) K ls st h) : GoW X p l e R s m args below meth c nL n0 u0 Q pc ls st h := by
  simp only [wpI] at H
  simp only [okI] at ho
  split at ho
  · simp only [Bool.and_eq_true, beq_iff_eq, decide_eq_true_eq] at ho
    obtain ⟨⟨rfl, rfl⟩, ht⟩ := ho
    split at H
    · intro H0 locs lsM P L B1 B2 B3
      exact lv_icmp_lt hx hb hd ht (fun q => hJ _ _ _ _ (by rw [if_pos q] at H; exact H) _ _ _ P L B1 B2 B3) (fun q => hK _ _ _ (by rw [if_neg q] at H; exact H) _ _ _ P L B1 B2 B3)
    · exact H.elim
  · cases ho
theorem sd_if_icmp_ge {X : CX} {KS : CX → State → Prop} {p : Program} {l : Launch} {e : Env} {R : Room} {s : State} {m : MethodId} {args : Array Value} {below : List Frame} {meth : Method} {c : Code} {nL n0 u0 : Nat} {Q : State → Prop} {cc : ByteArray} {own : String} {ini : Bool} {pcOf : Nat → Nat} {pc len pl : Nat} {raw : Instr} {call : Nat → List Value → PH → (Option Value → PH → Prop) → Prop} {jump : Nat → List Value → List Value → PH → Prop} {fin : Option Value → PH → Prop} {rk : Nat} {K : List Value → List Value → PH → Prop} {ls st : List Value} {h : PH} {z : Int} (hx : p.tables.exec = Jvm.exec) (hb : c.code = cc) (hd : decode cc pc = .ok (raw, len)) (ho : okI own ini nL pcOf pc raw len pl (.if_icmp .ge z) = true) (hK : ∀ ls st h, K ls st h → GoW X p l e R s m args below meth c nL n0 u0 Q (pc + len) ls st h) (hJ : ∀ b ls st h, jump b ls st h → GoW X p l e R s m args below meth c nL n0 u0 Q (pcOf b) ls st h) (H : wpI call jump fin rk (.if_icmp .ge z) K ls st h) : GoW X p l e R s m args below meth c nL n0 u0 Q pc ls st h := by
  simp only [wpI] at H
  simp only [okI] at ho
  split at ho
  · simp only [Bool.and_eq_true, beq_iff_eq, decide_eq_true_eq] at ho
    obtain ⟨⟨rfl, rfl⟩, ht⟩ := ho
    split at H
    · intro H0 locs lsM P L B1 B2 B3
      exact lv_icmp_ge hx hb hd ht (fun q => hJ _ _ _ _ (by rw [if_pos q] at H; exact H) _ _ _ P L B1 B2 B3) (fun q => hK _ _ _ (by rw [if_neg q] at H; exact H) _ _ _ P L B1 B2 B3)
    · exact H.elim
  · cases ho
theorem sd_if_icmp_gt {X : CX} {KS : CX → State → Prop} {p : Program} {l : Launch} {e : Env} {R : Room} {s : State} {m : MethodId} {args : Array Value} {below : List Frame} {meth : Method} {c : Code} {nL n0 u0 : Nat} {Q : State → Prop} {cc : ByteArray} {own : String} {ini : Bool} {pcOf : Nat → Nat} {pc len pl : Nat} {raw : Instr} {call : Nat → List Value → PH → (Option Value → PH → Prop) → Prop} {jump : Nat → List Value → List Value → PH → Prop} {fin : Option Value → PH → Prop} {rk : Nat} {K : List Value → List Value → PH → Prop} {ls st : List Value} {h : PH} {z : Int} (hx : p.tables.exec = Jvm.exec) (hb : c.code = cc) (hd : decode cc pc = .ok (raw, len)) (ho : okI own ini nL pcOf pc raw len pl (.if_icmp .gt z) = true) (hK : ∀ ls st h, K ls st h → GoW X p l e R s m args below meth c nL n0 u0 Q (pc + len) ls st h) (hJ : ∀ b ls st h, jump b ls st h → GoW X p l e R s m args below meth c nL n0 u0 Q (pcOf b) ls st h) (H : wpI call jump fin rk (.if_icmp .gt z) K ls st h) : GoW X p l e R s m args below meth c nL n0 u0 Q pc ls st h := by
  simp only [wpI] at H
  simp only [okI] at ho
  split at ho
  · simp only [Bool.and_eq_true, beq_iff_eq, decide_eq_true_eq] at ho
    obtain ⟨⟨rfl, rfl⟩, ht⟩ := ho
    split at H
    · intro H0 locs lsM P L B1 B2 B3
      exact lv_icmp_gt hx hb hd ht (fun q => hJ _ _ _ _ (by rw [if_pos q] at H; exact H) _ _ _ P L B1 B2 B3) (fun q => hK _ _ _ (by rw [if_neg q] at H; exact H) _ _ _ P L B1 B2 B3)
    · exact H.elim
  · cases ho
theorem sd_if_icmp_le {X : CX} {KS : CX → State → Prop} {p : Program} {l : Launch} {e : Env} {R : Room} {s : State} {m : MethodId} {args : Array Value} {below : List Frame} {meth : Method} {c : Code} {nL n0 u0 : Nat} {Q : State → Prop} {cc : ByteArray} {own : String} {ini : Bool} {pcOf : Nat → Nat} {pc len pl : Nat} {raw : Instr} {call : Nat → List Value → PH → (Option Value → PH → Prop) → Prop} {jump : Nat → List Value → List Value → PH → Prop} {fin : Option Value → PH → Prop} {rk : Nat} {K : List Value → List Value → PH → Prop} {ls st : List Value} {h : PH} {z : Int} (hx : p.tables.exec = Jvm.exec) (hb : c.code = cc) (hd : decode cc pc = .ok (raw, len)) (ho : okI own ini nL pcOf pc raw len pl (.if_icmp .le z) = true) (hK : ∀ ls st h, K ls st h → GoW X p l e R s m args below meth c nL n0 u0 Q (pc + len) ls st h) (hJ : ∀ b ls st h, jump b ls st h → GoW X p l e R s m args below meth c nL n0 u0 Q (pcOf b) ls st h) (H : wpI call jump fin rk (.if_icmp .le z) K ls st h) : GoW X p l e R s m args below meth c nL n0 u0 Q pc ls st h := by
  simp only [wpI] at H
  simp only [okI] at ho
  split at ho
  · simp only [Bool.and_eq_true, beq_iff_eq, decide_eq_true_eq] at ho
    obtain ⟨⟨rfl, rfl⟩, ht⟩ := ho
    split at H
    · intro H0 locs lsM P L B1 B2 B3
      exact lv_icmp_le hx hb hd ht (fun q => hJ _ _ _ _ (by rw [if_pos q] at H; exact H) _ _ _ P L B1 B2 B3) (fun q => hK _ _ _ (by rw [if_neg q] at H; exact H) _ _ _ P L B1 B2 B3)
    · exact H.elim
  · cases ho
theorem sd_ifCond_eq {X : CX} {KS : CX → State → Prop} {p : Program} {l : Launch} {e : Env} {R : Room} {s : State} {m : MethodId} {args : Array Value} {below : List Frame} {meth : Method} {c : Code} {nL n0 u0 : Nat} {Q : State → Prop} {cc : ByteArray} {own : String} {ini : Bool} {pcOf : Nat → Nat} {pc len pl : Nat} {raw : Instr} {call : Nat → List Value → PH → (Option Value → PH → Prop) → Prop} {jump : Nat → List Value → List Value → PH → Prop} {fin : Option Value → PH → Prop} {rk : Nat} {K : List Value → List Value → PH → Prop} {ls st : List Value} {h : PH} {z : Int} (hx : p.tables.exec = Jvm.exec) (hb : c.code = cc) (hd : decode cc pc = .ok (raw, len)) (ho : okI own ini nL pcOf pc raw len pl (.ifCond .eq z) = true) (hK : ∀ ls st h, K ls st h → GoW X p l e R s m args below meth c nL n0 u0 Q (pc + len) ls st h) (hJ : ∀ b ls st h, jump b ls st h → GoW X p l e R s m args below meth c nL n0 u0 Q (pcOf b) ls st h) (H : wpI call jump fin rk (.ifCond .eq z) K ls st h) : GoW X p l e R s m args below meth c nL n0 u0 Q pc ls st h := by
  simp only [wpI] at H
  simp only [okI] at ho
  split at ho
  · simp only [Bool.and_eq_true, beq_iff_eq, decide_eq_true_eq] at ho
    obtain ⟨⟨rfl, rfl⟩, ht⟩ := ho
    split at H
    · intro H0 locs lsM P L B1 B2 B3
      exact lv_if_eq hx hb hd ht (fun q => hJ _ _ _ _ (by rw [if_pos q] at H; exact H) _ _ _ P L B1 B2 B3) (fun q => hK _ _ _ (by rw [if_neg q] at H; exact H) _ _ _ P L B1 B2 B3)
    · exact H.elim
  · cases ho
theorem sd_ifCond_ne {X : CX} {KS : CX → State → Prop} {p : Program} {l : Launch} {e : Env} {R : Room} {s : State} {m : MethodId} {args : Array Value} {below : List Frame} {meth : Method} {c : Code} {nL n0 u0 : Nat} {Q : State → Prop} {cc : ByteArray} {own : String} {ini : Bool} {pcOf : Nat → Nat} {pc len pl : Nat} {raw : Instr} {call : Nat → List Value → PH → (Option Value → PH → Prop) → Prop} {jump : Nat → List Value → List Value → PH → Prop} {fin : Option Value → PH → Prop} {rk : Nat} {K : List Value → List Value → PH → Prop} {ls st : List Value} {h : PH} {z : Int} (hx : p.tables.exec = Jvm.exec) (hb : c.code = cc) (hd : decode cc pc = .ok (raw, len)) (ho : okI own ini nL pcOf pc raw len pl (.ifCond .ne z) = true) (hK : ∀ ls st h, K ls st h → GoW X p l e R s m args below meth c nL n0 u0 Q (pc + len) ls st h) (hJ : ∀ b ls st h, jump b ls st h → GoW X p l e R s m args below meth c nL n0 u0 Q (pcOf b) ls st h) (H : wpI call jump fin rk (.ifCond .ne z) K ls st h) : GoW X p l e R s m args below meth c nL n0 u0 Q pc ls st h := by
  simp only [wpI] at H
  simp only [okI] at ho
  split at ho
  · simp only [Bool.and_eq_true, beq_iff_eq, decide_eq_true_eq] at ho
    obtain ⟨⟨rfl, rfl⟩, ht⟩ := ho
    split at H
    · intro H0 locs lsM P L B1 B2 B3
      exact lv_if_ne hx hb hd ht (fun q => hJ _ _ _ _ (by rw [if_neg q] at H; exact H) _ _ _ P L B1 B2 B3) (fun q => hK _ _ _ (by rw [if_pos q] at H; exact H) _ _ _ P L B1 B2 B3)
    · exact H.elim
  · cases ho
theorem sd_ifCond_lt {X : CX} {KS : CX → State → Prop} {p : Program} {l : Launch} {e : Env} {R : Room} {s : State} {m : MethodId} {args : Array Value} {below : List Frame} {meth : Method} {c : Code} {nL n0 u0 : Nat} {Q : State → Prop} {cc : ByteArray} {own : String} {ini : Bool} {pcOf : Nat → Nat} {pc len pl : Nat} {raw : Instr} {call : Nat → List Value → PH → (Option Value → PH → Prop) → Prop} {jump : Nat → List Value → List Value → PH → Prop} {fin : Option Value → PH → Prop} {rk : Nat} {K : List Value → List Value → PH → Prop} {ls st : List Value} {h : PH} {z : Int} (hx : p.tables.exec = Jvm.exec) (hb : c.code = cc) (hd : decode cc pc = .ok (raw, len)) (ho : okI own ini nL pcOf pc raw len pl (.ifCond .lt z) = true) (hK : ∀ ls st h, K ls st h → GoW X p l e R s m args below meth c nL n0 u0 Q (pc + len) ls st h) (hJ : ∀ b ls st h, jump b ls st h → GoW X p l e R s m args below meth c nL n0 u0 Q (pcOf b) ls st h) (H : wpI call jump fin rk (.ifCond .lt z) K ls st h) : GoW X p l e R s m args below meth c nL n0 u0 Q pc ls st h := by
  simp only [wpI] at H
  simp only [okI] at ho
  split at ho
  · simp only [Bool.and_eq_true, beq_iff_eq, decide_eq_true_eq] at ho
    obtain ⟨⟨rfl, rfl⟩, ht⟩ := ho
    split at H
    · intro H0 locs lsM P L B1 B2 B3
      exact lv_if_lt hx hb hd ht (fun q => hJ _ _ _ _ (by rw [if_pos q] at H; exact H) _ _ _ P L B1 B2 B3) (fun q => hK _ _ _ (by rw [if_neg q] at H; exact H) _ _ _ P L B1 B2 B3)
    · exact H.elim
  · cases ho
theorem sd_ifCond_ge {X : CX} {KS : CX → State → Prop} {p : Program} {l : Launch} {e : Env} {R : Room} {s : State} {m : MethodId} {args : Array Value} {below : List Frame} {meth : Method} {c : Code} {nL n0 u0 : Nat} {Q : State → Prop} {cc : ByteArray} {own : String} {ini : Bool} {pcOf : Nat → Nat} {pc len pl : Nat} {raw : Instr} {call : Nat → List Value → PH → (Option Value → PH → Prop) → Prop} {jump : Nat → List Value → List Value → PH → Prop} {fin : Option Value → PH → Prop} {rk : Nat} {K : List Value → List Value → PH → Prop} {ls st : List Value} {h : PH} {z : Int} (hx : p.tables.exec = Jvm.exec) (hb : c.code = cc) (hd : decode cc pc = .ok (raw, len)) (ho : okI own ini nL pcOf pc raw len pl (.ifCond .ge z) = true) (hK : ∀ ls st h, K ls st h → GoW X p l e R s m args below meth c nL n0 u0 Q (pc + len) ls st h) (hJ : ∀ b ls st h, jump b ls st h → GoW X p l e R s m args below meth c nL n0 u0 Q (pcOf b) ls st h) (H : wpI call jump fin rk (.ifCond .ge z) K ls st h) : GoW X p l e R s m args below meth c nL n0 u0 Q pc ls st h := by
  simp only [wpI] at H
  simp only [okI] at ho
  split at ho
  · simp only [Bool.and_eq_true, beq_iff_eq, decide_eq_true_eq] at ho
    obtain ⟨⟨rfl, rfl⟩, ht⟩ := ho
    split at H
    · intro H0 locs lsM P L B1 B2 B3
      exact lv_if_ge hx hb hd ht (fun q => hJ _ _ _ _ (by rw [if_pos q] at H; exact H) _ _ _ P L B1 B2 B3) (fun q => hK _ _ _ (by rw [if_neg q] at H; exact H) _ _ _ P L B1 B2 B3)
    · exact H.elim
  · cases ho
theorem sd_ifCond_gt {X : CX} {KS : CX → State → Prop} {p : Program} {l : Launch} {e : Env} {R : Room} {s : State} {m : MethodId} {args : Array Value} {below : List Frame} {meth : Method} {c : Code} {nL n0 u0 : Nat} {Q : State → Prop} {cc : ByteArray} {own : String} {ini : Bool} {pcOf : Nat → Nat} {pc len pl : Nat} {raw : Instr} {call : Nat → List Value → PH → (Option Value → PH → Prop) → Prop} {jump : Nat → List Value → List Value → PH → Prop} {fin : Option Value → PH → Prop} {rk : Nat} {K : List Value → List Value → PH → Prop} {ls st : List Value} {h : PH} {z : Int} (hx : p.tables.exec = Jvm.exec) (hb : c.code = cc) (hd : decode cc pc = .ok (raw, len)) (ho : okI own ini nL pcOf pc raw len pl (.ifCond .gt z) = true) (hK : ∀ ls st h, K ls st h → GoW X p l e R s m args below meth c nL n0 u0 Q (pc + len) ls st h) (hJ : ∀ b ls st h, jump b ls st h → GoW X p l e R s m args below meth c nL n0 u0 Q (pcOf b) ls st h) (H : wpI call jump fin rk (.ifCond .gt z) K ls st h) : GoW X p l e R s m args below meth c nL n0 u0 Q pc ls st h := by
  simp only [wpI] at H
  simp only [okI] at ho
  split at ho
  · simp only [Bool.and_eq_true, beq_iff_eq, decide_eq_true_eq] at ho
    obtain ⟨⟨rfl, rfl⟩, ht⟩ := ho
    split at H
    · intro H0 locs lsM P L B1 B2 B3
      exact lv_if_gt hx hb hd ht (fun q => hJ _ _ _ _ (by rw [if_pos q] at H; exact H) _ _ _ P L B1 B2 B3) (fun q => hK _ _ _ (by rw [if_neg q] at H; exact H) _ _ _ P L B1 B2 B3)
    · exact H.elim
  · cases ho
theorem sd_ifCond_le {X : CX} {KS : CX → State → Prop} {p : Program} {l : Launch} {e : Env} {R : Room} {s : State} {m : MethodId} {args : Array Value} {below : List Frame} {meth : Method} {c : Code} {nL n0 u0 : Nat} {Q : State → Prop} {cc : ByteArray} {own : String} {ini : Bool} {pcOf : Nat → Nat} {pc len pl : Nat} {raw : Instr} {call : Nat → List Value → PH → (Option Value → PH → Prop) → Prop} {jump : Nat → List Value → List Value → PH → Prop} {fin : Option Value → PH → Prop} {rk : Nat} {K : List Value → List Value → PH → Prop} {ls st : List Value} {h : PH} {z : Int} (hx : p.tables.exec = Jvm.exec) (hb : c.code = cc) (hd : decode cc pc = .ok (raw, len)) (ho : okI own ini nL pcOf pc raw len pl (.ifCond .le z) = true) (hK : ∀ ls st h, K ls st h → GoW X p l e R s m args below meth c nL n0 u0 Q (pc + len) ls st h) (hJ : ∀ b ls st h, jump b ls st h → GoW X p l e R s m args below meth c nL n0 u0 Q (pcOf b) ls st h) (H : wpI call jump fin rk (.ifCond .le z) K ls st h) : GoW X p l e R s m args below meth c nL n0 u0 Q pc ls st h := by
  simp only [wpI] at H
  simp only [okI] at ho
  split at ho
  · simp only [Bool.and_eq_true, beq_iff_eq, decide_eq_true_eq] at ho
    obtain ⟨⟨rfl, rfl⟩, ht⟩ := ho
    split at H
    · intro H0 locs lsM P L B1 B2 B3
      exact lv_if_le hx hb hd ht (fun q => hJ _ _ _ _ (by rw [if_pos q] at H; exact H) _ _ _ P L B1 B2 B3) (fun q => hK _ _ _ (by rw [if_neg q] at H; exact H) _ _ _ P L B1 B2 B3)
    · exact H.elim
  · cases ho
theorem sd_ifnull {X : CX} {KS : CX → State → Prop} {p : Program} {l : Launch} {e : Env} {R : Room} {s : State} {m : MethodId} {args : Array Value} {below : List Frame} {meth : Method} {c : Code} {nL n0 u0 : Nat} {Q : State → Prop} {cc : ByteArray} {own : String} {ini : Bool} {pcOf : Nat → Nat} {pc len pl : Nat} {raw : Instr} {call : Nat → List Value → PH → (Option Value → PH → Prop) → Prop} {jump : Nat → List Value → List Value → PH → Prop} {fin : Option Value → PH → Prop} {rk : Nat} {K : List Value → List Value → PH → Prop} {ls st : List Value} {h : PH} {z : Int} (hx : p.tables.exec = Jvm.exec) (hb : c.code = cc) (hd : decode cc pc = .ok (raw, len)) (ho : okI own ini nL pcOf pc raw len pl (.ifnull z) = true) (hK : ∀ ls st h, K ls st h → GoW X p l e R s m args below meth c nL n0 u0 Q (pc + len) ls st h) (hJ : ∀ b ls st h, jump b ls st h → GoW X p l e R s m args below meth c nL n0 u0 Q (pcOf b) ls st h) (H : wpI call jump fin rk (.ifnull z) K ls st h) : GoW X p l e R s m args below meth c nL n0 u0 Q pc ls st h := by
  simp only [wpI] at H
  simp only [okI] at ho
  split at ho
  · simp only [Bool.and_eq_true, beq_iff_eq, decide_eq_true_eq] at ho
    obtain ⟨rfl, ht⟩ := ho
    split at H
    · intro H0 locs lsM P L B1 B2 B3
      exact lv_ifnullN hx hb hd ht (hJ _ _ _ _ H _ _ _ P L B1 B2 B3)
    · intro H0 locs lsM P L B1 B2 B3
      exact lv_ifnull hx hb hd (hK _ _ _ H _ _ _ P L B1 B2 B3)
    · exact H.elim
  · cases ho
theorem sd_ifnonnull {X : CX} {KS : CX → State → Prop} {p : Program} {l : Launch} {e : Env} {R : Room} {s : State} {m : MethodId} {args : Array Value} {below : List Frame} {meth : Method} {c : Code} {nL n0 u0 : Nat} {Q : State → Prop} {cc : ByteArray} {own : String} {ini : Bool} {pcOf : Nat → Nat} {pc len pl : Nat} {raw : Instr} {call : Nat → List Value → PH → (Option Value → PH → Prop) → Prop} {jump : Nat → List Value → List Value → PH → Prop} {fin : Option Value → PH → Prop} {rk : Nat} {K : List Value → List Value → PH → Prop} {ls st : List Value} {h : PH} {z : Int} (hx : p.tables.exec = Jvm.exec) (hb : c.code = cc) (hd : decode cc pc = .ok (raw, len)) (ho : okI own ini nL pcOf pc raw len pl (.ifnonnull z) = true) (hK : ∀ ls st h, K ls st h → GoW X p l e R s m args below meth c nL n0 u0 Q (pc + len) ls st h) (hJ : ∀ b ls st h, jump b ls st h → GoW X p l e R s m args below meth c nL n0 u0 Q (pcOf b) ls st h) (H : wpI call jump fin rk (.ifnonnull z) K ls st h) : GoW X p l e R s m args below meth c nL n0 u0 Q pc ls st h := by
  simp only [wpI] at H
  simp only [okI] at ho
  split at ho
  · simp only [Bool.and_eq_true, beq_iff_eq, decide_eq_true_eq] at ho
    obtain ⟨rfl, ht⟩ := ho
    split at H
    · intro H0 locs lsM P L B1 B2 B3
      exact lv_ifnonnull hx hb hd ht (hJ _ _ _ _ H _ _ _ P L B1 B2 B3)
    · intro H0 locs lsM P L B1 B2 B3
      exact lv_ifnonnullN hx hb hd (hK _ _ _ H _ _ _ P L B1 B2 B3)
    · exact H.elim
  · cases ho
theorem sd_tableswitch {X : CX} {KS : CX → State → Prop} {p : Program} {l : Launch} {e : Env} {R : Room} {s : State} {m : MethodId} {args : Array Value} {below : List Frame} {meth : Method} {c : Code} {nL n0 u0 : Nat} {Q : State → Prop} {cc : ByteArray} {own : String} {ini : Bool} {pcOf : Nat → Nat} {pc len pl : Nat} {raw : Instr} {call : Nat → List Value → PH → (Option Value → PH → Prop) → Prop} {jump : Nat → List Value → List Value → PH → Prop} {fin : Option Value → PH → Prop} {rk : Nat} {K : List Value → List Value → PH → Prop} {ls st : List Value} {h : PH} {d lo hi : Int} {offs : Array Int} (hx : p.tables.exec = Jvm.exec) (hb : c.code = cc) (hd : decode cc pc = .ok (raw, len)) (ho : okI own ini nL pcOf pc raw len pl (.tableswitch d lo hi offs) = true) (hJ : ∀ b ls st h, jump b ls st h → GoW X p l e R s m args below meth c nL n0 u0 Q (pcOf b) ls st h) (H : wpI call jump fin rk (.tableswitch d lo hi offs) K ls st h) : GoW X p l e R s m args below meth c nL n0 u0 Q pc ls st h := by
  simp only [wpI] at H
  simp only [okI] at ho
  split at ho
  · rename_i d' lo' hi' offs'
    simp only [Bool.and_eq_true, beq_iff_eq, decide_eq_true_eq] at ho
    obtain ⟨⟨⟨⟨⟨rfl, rfl⟩, hdf⟩, hs1⟩, hs2⟩, hall⟩ := ho
    split at H
    · rename_i x st'
      intro H0 locs lsM P L B1 B2 B3
      by_cases hq : x.toInt < lo' ∨ hi' < x.toInt
      · rw [if_pos hq] at H
        exact lv_tableOut hx hb hd hq hdf (hJ _ _ _ _ H _ _ _ P L B1 B2 B3)
      · rw [if_neg hq] at H
        have h1 : ¬ x.toInt < lo' := fun q => hq (Or.inl q)
        have h2 : ¬ hi' < x.toInt := fun q => hq (Or.inr q)
        have hj : (x.toInt - lo').toNat < (hi' - lo').toNat + 1 := by omega
        have ht := List.all_eq_true.mp hall (x.toInt - lo').toNat (List.mem_range.mpr hj)
        simp only [decide_eq_true_eq] at ht
        have hg : offs'[(x.toInt - lo').toNat]? = some (offs'.getD (x.toInt - lo').toNat 0) := by
          have hz : (x.toInt - lo').toNat < offs'.size := by omega
          simp [Array.getD, hz]
        exact lv_tableIn hx hb hd h1 h2 hg ht (hJ _ _ _ _ H _ _ _ P L B1 B2 B3)
    · exact H.elim
  · cases ho
end
end
section
section
theorem in_lay : ∀ t, isTg t = true → ∀ w ∈ u_ws (pC t) (pT t) (pNf t), w ∈ lw_good := by
  have h : ∀ t, t < 14 → (u_ws (pC t) (pT t) (pNf t)).all (fun w => lw_good.contains w) = true := by decide +kernel
  intro t ht w hw
  simp only [isTg, Bool.and_eq_true, decide_eq_true_eq] at ht
  have := List.all_eq_true.mp (h t (by omega)) w hw
  simpa using this
theorem ty_ok : ∀ t, isTg t = true → ∀ k, k < pNf t → parseFieldDescriptor (pT t k).2.2.1 = some (pTy t k) := by
  have h : ∀ t, t < 14 → ∀ k, k < pNf t → parseFieldDescriptor (pT t k).2.2.1 = some (pTy t k) := by decide +kernel
  intro t ht
  simp only [isTg, Bool.and_eq_true, decide_eq_true_eq] at ht
  exact h t (by omega)
theorem kd_ok : ∀ t, isTg t = true → ∀ k, k < pNf t → (pTy t k = .int ∧ pK t k = 0) ∨ (pTy t k = .boolean ∧ pK t k = 3) ∨ (pTy t k = .long ∧ pK t k = 1) ∨ (pK t k = 2 ∧ (pTy t k).isReference = true) := by
  have h : ∀ t, t < 14 → ∀ k, k < pNf t → (pTy t k = .int ∧ pK t k = 0) ∨ (pTy t k = .boolean ∧ pK t k = 3) ∨ (pTy t k = .long ∧ pK t k = 1) ∨ (pK t k = 2 ∧ (pTy t k).isReference = true) := by decide +kernel
  intro t ht
  simp only [isTg, Bool.and_eq_true, decide_eq_true_eq] at ht
  exact h t (by omega)
theorem nm_ok : ∀ t, isTg t = true → ∀ a, a < pNf t → ∀ b, b < pNf t → a ≠ b → (pT t a).2.1 ≠ (pT t b).2.1 := by
  have h : ∀ t, t < 14 → ∀ a, a < pNf t → ∀ b, b < pNf t → a ≠ b → (pT t a).2.1 ≠ (pT t b).2.1 := by decide +kernel
  intro t ht
  simp only [isTg, Bool.and_eq_true, decide_eq_true_eq] at ht
  exact h t (by omega)
def clP : List vw_C := (List.range 13).map (fun i => (pC (i + 1), pT (i + 1), pNf (i + 1)))
theorem clP_at {t : Nat} (ht : isTg t = true) : clP[t - 1]? = some (pC t, pT t, pNf t) := by
  simp only [isTg, Bool.and_eq_true, decide_eq_true_eq] at ht
  have h1 : t - 1 < 13 := by omega
  have h2 : t - 1 + 1 = t := by omega
  simp [clP, h1, h2]
theorem KU.K {X : CX} {KS : CX → State → Prop} {U : State} (h : KU X KS U) : va_K (fun c => xD X (c + 1), fun c => xS X (c + 1)) clP [] U := by
  refine ⟨fun c q hq => ?_, fun k q hq => by simp at hq⟩
  have hc : c < 13 := by
    rcases Nat.lt_or_ge c 13 with z | z
    · exact z
    · rw [List.getElem?_eq_none (by simpa [clP] using z)] at hq
      cases hq
  have e : q = (pC (c + 1), pT (c + 1), pNf (c + 1)) := by
    simp [clP, hc] at hq
    exact hq.symm
  subst e
  exact h.1 (c + 1) (by simp [isTg]; omega)
def SameC (h h' : PH) (b : Nat) : Prop := hT h' b = hT h b ∧ hL h' b = hL h b ∧ (∀ j, hI h' b j = hI h b j) ∧ (∀ j, hJ h' b j = hJ h b j) ∧ ∀ j, hR h' b j = hR h b j
theorem SameC.sv {h h' : PH} {b : Nat} (q : SameC h h' b) (t k : Nat) : svP h' t b k = svP h t b k := by
  obtain ⟨-, -, h3, h4, h5⟩ := q
  unfold svP
  split <;> simp [h3, h4, h5]
theorem SameC.ev {h h' : PH} {b : Nat} (q : SameC h h' b) (t k : Nat) : evP h' t b k = evP h t b k := by
  obtain ⟨-, -, h3, h4, h5⟩ := q
  unfold evP
  split <;> simp [h3, h4, h5]
theorem cellP.same {X : CX} {h h' : PH} {H H' : Heap} {b : Nat} (c : cellP X h H b) (q : SameC h h' b) (hq : 100 ≤ b → H'[ad X b]? = H[ad X b]?) : cellP X h' H' b := by
  unfold cellP at c ⊢
  rw [q.1, q.2.1]
  rcases c with ⟨a1, a2, a3⟩ | ⟨a1, a2, a3⟩ | a
  · exact Or.inl ⟨a1, a2, (a3.to (fun k _ => by rw [q.sv])).kept (hq a2)⟩
  · refine Or.inr (Or.inl ⟨a1, a2, ?_⟩)
    rw [hq a2, a3]
    congr 2
    funext j
    rw [q.ev]
  · exact Or.inr (Or.inr a)
theorem ad_ge {X : CX} {a : Nat} (ha : 100 ≤ a) : ad X a = xs0 X + (a - 100) := by
  unfold ad
  rw [if_neg (by omega)]
theorem ad_inj {X : CX} {a b : Nat} (ha : 100 ≤ a) (hb : 100 ≤ b) (h : ad X a = ad X b) : a = b := by
  rw [ad_ge ha, ad_ge hb] at h
  omega
/-- one cell of ours has changed -/
theorem Pic.upd {X : CX} {h h' : PH} {H H' : Heap} {a : Nat} (P : Pic X h H) (ht : hT h' a ≠ 0) (ha : 100 ≤ a) (han : a < hN h) (hn : hN h' = hN h) (hs : H'.size = H.size) (ho : ∀ q, q ≠ ad X a → H'[q]? = H[q]?) (hsame : ∀ b, b ≠ a → SameC h h' b) (hc : cellP X h' H' a) : Pic X h' H' := by
  obtain ⟨p1, p2, p3, p4, p5⟩ := P
  refine ⟨by rw [hn]; exact p1, by rw [hs, hn]; exact p2, fun q hq => ?_, fun b hb => ?_, fun b hb => ?_⟩
  · rw [ho q (by rw [ad_ge ha]; omega)]
    exact p3 q hq
  · rw [hn]
    by_cases hba : b = a
    · subst hba
      exact ⟨han, hc⟩
    · have hs' := hsame b hba
      rw [hs'.1] at hb
      obtain ⟨q1, q2⟩ := p4 b hb
      exact ⟨q1, q2.same hs' (fun h100 => ho _ (fun z => hba (ad_inj h100 ha z)))⟩
  · have hs' := hsame b (by omega)
    obtain ⟨q1, q2, q3⟩ := p5 b hb
    exact ⟨hs'.1.trans q1, hs'.2.1.trans q2, fun j => (hs'.2.2.1 j).trans (q3 j)⟩
/-- a cell of ours more -/
theorem Pic.new {X : CX} {h : PH} {H H' : Heap} {t n : Nat} (P : Pic X h H) (hs : H'.size = H.size + 1) (ho : ∀ q, q < H.size → H'[q]? = H[q]?) (hc : cellP X (nC h t n) H' (hN h)) : Pic X (nC h t n) H' := by
  obtain ⟨p1, p2, p3, p4, p5⟩ := P
  have hne : ∀ b, b ≠ hN h → SameC h (nC h t n) b := by
    intro b hb
    have hb' : ¬ b = h.1.1 := hb
    refine ⟨?_, ?_, fun j => ?_, fun j => ?_, fun j => ?_⟩ <;> simp [nC, hT, hL, hI, hJ, hR, hb']
  refine ⟨?_, ?_, fun q hq => ?_, fun b hb => ?_, fun b hb => ?_⟩
  · show 100 ≤ h.1.1 + 1
    have : 100 ≤ h.1.1 := p1
    omega
  · rw [hs, p2]
    show _ = xs0 X + (h.1.1 + 1 - 100)
    have : 100 ≤ h.1.1 := p1
    show xs0 X + (h.1.1 - 100) + 1 = _
    omega
  · rw [ho q (by omega)]
    exact p3 q hq
  · by_cases hba : b = hN h
    · subst hba
      exact ⟨Nat.lt_succ_self _, hc⟩
    · have hs' := hne b hba
      rw [hs'.1] at hb
      obtain ⟨q1, q2⟩ := p4 b hb
      refine ⟨Nat.lt_succ_of_lt q1, q2.same hs' (fun h100 => ho _ ?_)⟩
      rw [ad_ge h100, p2]
      omega
  · have hs' := hne b (by omega)
    obtain ⟨q1, q2, q3⟩ := p5 b hb
    exact ⟨hs'.1.trans q1, hs'.2.1.trans q2, fun j => (hs'.2.2.1 j).trans (q3 j)⟩
theorem isTg_not {t : Nat} (h : isTg t = true) : isAT t = false ∧ t ≠ 120 ∧ t ≠ 130 ∧ t ≠ 0 := by
  simp only [isTg, Bool.and_eq_true, decide_eq_true_eq] at h
  refine ⟨?_, by omega, by omega, by omega⟩
  simp [isAT]
  omega
theorem isAT_not {t : Nat} (h : isAT t = true) : isTg t = false ∧ t ≠ 120 ∧ t ≠ 130 ∧ t ≠ 0 := by
  simp [isAT] at h
  refine ⟨?_, by omega, by omega, by omega⟩
  simp [isTg]
  omega
theorem Pic.obj {X : CX} {h : PH} {H : Heap} {a : Nat} (P : Pic X h H) (ht : isTg (hT h a) = true) : a < hN h ∧ 100 ≤ a ∧ t_OB (ad X a) (xD X (hT h a)) (pNf (hT h a)) (xS X (hT h a)) H (fun k => rnv X (svP h (hT h a) a k)) := by
  obtain ⟨q1, q2⟩ := P.2.2.2.1 a (isTg_not ht).2.2.2
  rcases q2 with ⟨-, a2, a3⟩ | ⟨a1, -⟩ | ⟨a1, -⟩
  · exact ⟨q1, a2, a3⟩
  · rw [(isTg_not ht).1] at a1; cases a1
  · rcases a1 with a1 | a1
    · exact absurd a1 (isTg_not ht).2.1
    · exact absurd a1 (isTg_not ht).2.2.1
theorem Pic.arr {X : CX} {h : PH} {H : Heap} {a : Nat} (P : Pic X h H) (ht : isAT (hT h a) = true) : a < hN h ∧ 100 ≤ a ∧ H[ad X a]? = some (arrV (xA X (hT h a)) (hL h a) (fun j => rnv X (evP h (hT h a) a j))) := by
  obtain ⟨q1, q2⟩ := P.2.2.2.1 a (isAT_not ht).2.2.2
  rcases q2 with ⟨a1, -⟩ | ⟨-, a2, a3⟩ | ⟨a1, -⟩
  · rw [(isAT_not ht).1] at a1; cases a1
  · exact ⟨q1, a2, a3⟩
  · rcases a1 with a1 | a1
    · exact absurd a1 (isAT_not ht).2.1
    · exact absurd a1 (isAT_not ht).2.2.1
/-- the ints of an array, ours or not -/
theorem Pic.ints {X : CX} {KS : CX → State → Prop} {U : State} {h : PH} {H : Heap} {a : Nat} (P : Pic X h H) (hK : KU X KS U) (ht : isIA (hT h a) = true) : ∃ cell : Cell, H[ad X a]? = some cell ∧ U.isArrayOf cell .int ∧ cell.vm ≠ .unknown ∧ cell.slots.size = hL h a ∧ ∀ j, j < hL h a → cell.slots[j]? = some (.int (hI h a j)) := by
  simp only [isIA, Bool.or_eq_true, beq_iff_eq] at ht
  rcases ht with ht | ht
  · have hat : isAT (hT h a) = true := by rw [ht]; rfl
    obtain ⟨-, -, q3⟩ := P.arr hat
    rw [ht] at q3
    refine ⟨_, q3, (hK.2.1 100 rfl).1 _ _, (fun z => by cases z), arrV_size _ _ _, fun j hj => ?_⟩
    rw [arrV_read _ _ hj]
    rfl
  · obtain ⟨q1, q2⟩ := P.2.2.2.1 a (by omega)
    have ha : a < 100 := by
      rcases q2 with ⟨a1, -⟩ | ⟨a1, -⟩ | ⟨-, a2⟩
      · rw [ht] at a1; cases a1
      · rw [ht] at a1; cases a1
      · exact a2
    obtain ⟨e1, e2, e3⟩ := P.2.2.2.2 a ha
    obtain ⟨cell, c1, c2, c3, c4, c5, c6⟩ := hK.2.2.2.2.2.2.1 a ha (e1 ▸ ht)
    have hada : ad X a = xo X a := by unfold ad; rw [if_pos ha]
    refine ⟨cell, ?_, c3, c4, by rw [e2]; exact c5, fun j hj => ?_⟩
    · rw [hada, P.2.2.1 _ c2]
      exact c1
    · rw [e3]
      exact c6 j (by rw [← e2]; exact hj)
end
end
section
section

theorem rnv_int {X : CX} {x : Int32} : rnv X (.int x) = .int x := rfl
theorem rnv_rf {X : CX} {r : Option Nat} : rnv X (rfP r) = .null ∨ ∃ a, rnv X (rfP r) = .ref a := by
  cases r
  · exact Or.inl rfl
  · exact Or.inr ⟨_, rfl⟩
theorem mem_app {X : CX} {locs : List Loc} {q0 : Loc} (h : ∀ q ∈ locs, xs0 X ≤ q.base) (h0 : xs0 X ≤ q0.base) : ∀ q ∈ locs ++ [q0], xs0 X ≤ q.base := fun q hq => (List.mem_append.mp hq).elim (h q) (fun z => by rw [List.mem_singleton.mp z]; exact h0)
theorem ad_le {X : CX} {a : Nat} (ha : 100 ≤ a) : xs0 X ≤ ad X a := by rw [ad_ge ha]; omega
theorem sv_sI {h : PH} {t a k j : Nat} {x : Int32} : svP (sI h a k x) t a j = if j = k ∧ (pK t k ≠ 1 ∧ pK t k ≠ 2) then .int x else svP h t a j := by
  by_cases e : j = k
  · subst e
    unfold svP
    split <;> simp_all [sI, hI, hJ, hR, up2]
  · rw [if_neg (fun z => e z.1)]
    unfold svP
    split <;> simp [sI, hI, hJ, hR, up2, e]
theorem sv_sJ {h : PH} {t a k j : Nat} {x : Int64} : svP (sJ h a k x) t a j = if j = k ∧ pK t k = 1 then .long x else svP h t a j := by
  by_cases e : j = k
  · subst e
    unfold svP
    split <;> simp_all [sJ, hI, hJ, hR, up2]
  · rw [if_neg (fun z => e z.1)]
    unfold svP
    split <;> simp [sJ, hI, hJ, hR, up2, e]
theorem sv_sR {h : PH} {t a k j : Nat} {x : Option Nat} : svP (sR h a k x) t a j = if j = k ∧ pK t k = 2 then rfP x else svP h t a j := by
  by_cases e : j = k
  · subst e
    unfold svP
    split <;> simp_all [sR, hI, hJ, hR, up2]
  · rw [if_neg (fun z => e z.1)]
    unfold svP
    split <;> simp [sR, hI, hJ, hR, up2, e]
theorem same_sI {h : PH} {a k b : Nat} {x : Int32} (hb : b ≠ a) : SameC h (sI h a k x) b := ⟨rfl, rfl, fun j => by simp [sI, hI, up2, hb], fun _ => rfl, fun _ => rfl⟩
theorem same_sJ {h : PH} {a k b : Nat} {x : Int64} (hb : b ≠ a) : SameC h (sJ h a k x) b := ⟨rfl, rfl, fun _ => rfl, fun j => by simp [sJ, hJ, up2, hb], fun _ => rfl⟩
theorem same_sR {h : PH} {a k b : Nat} {x : Option Nat} (hb : b ≠ a) : SameC h (sR h a k x) b := ⟨rfl, rfl, fun _ => rfl, fun _ => rfl, fun j => by simp [sR, hR, up2, hb]⟩
theorem sd_getfield {X : CX} {KS : CX → State → Prop} {p : Program} {l : Launch} {e : Env} {R : Room} {s : State} {m : MethodId} {args : Array Value} {below : List Frame} {meth : Method} {c : Code} {nL n0 u0 : Nat} {Q : State → Prop} {cc : ByteArray} {own : String} {ini : Bool} {pcOf : Nat → Nat} {pc len pl : Nat} {raw : Instr} {call : Nat → List Value → PH → (Option Value → PH → Prop) → Prop} {jump : Nat → List Value → List Value → PH → Prop} {fin : Option Value → PH → Prop} {rk : Nat} {K : List Value → List Value → PH → Prop} {ls st : List Value} {h : PH} {n : Nat} (hx : p.tables.exec = Jvm.exec) (hb : c.code = cc) (hd : decode cc pc = .ok (raw, len)) (ho : okI own ini nL pcOf pc raw len pl (.getfield n) = true) (hK : ∀ ls st h, K ls st h → GoW X p l e R s m args below meth c nL n0 u0 Q (pc + len) ls st h) (hown : s.vm.findClass own = some m.cls) (hts : ∀ w ∈ lw_good, w.before args s = true) (hKU : KU X KS s) (H : wpI call jump fin rk (.getfield n) K ls st h) : GoW X p l e R s m args below meth c nL n0 u0 Q pc ls st h := by
  simp only [wpI] at H
  split at H
  · rename_i a st'
    simp only [okI, Bool.and_eq_true, decide_eq_true_eq] at ho
    obtain ⟨⟨⟨hT0, hk⟩, hkd⟩, ho⟩ := ho
    split at ho
    · rename_i i
      simp only [Bool.and_eq_true, beq_iff_eq] at ho
      obtain ⟨rfl, hw⟩ := ho
      obtain ⟨ht, H⟩ := H
      have H2 : K ls (svP h (hT h a) a (n % 64) :: st') h := by
        rw [ht]
        unfold svP
        rw [← hkd]
        revert H
        generalize n / 1024 = z
        match z with
        | 0 => exact id
        | 1 => exact id
        | 2 => exact id
        | z + 3 => exact id
      intro H0 locs lsM P L B1 B2 B3
      have kk := hK _ _ _ H2 _ _ _ P L B1 B2 B3
      rw [← ht] at hT0 hk hw
      obtain ⟨-, -, cell, q1, q2, q3, q4⟩ := P.obj hT0
      obtain ⟨hS, hfc, kC, hkC, hkind⟩ := hKU.1 _ hT0
      obtain ⟨cf, kf, fi, f, hi, hsl⟩ := hS _ hk
      refine W.getf hx hb hown (hts _ (wGd_mem hw)) hi (u_facts hfc hkC (u_lays hts (in_lay _ hT0) hk) hi).1 q1 (by rw [q3]; exact fun z => by cases z) (v := rnv X (svP h (hT h a) a (n % 64))) ?_ rfl rfl hd kk
      rw [hsl, q4 _ hk]
    · cases ho
  · exact H.elim

theorem put_core {X : CX} {KS : CX → State → Prop} {p : Program} {l : Launch} {e : Env} {R : Room} {s : State} {m : MethodId} {args : Array Value} {below : List Frame} {meth : Method} {c : Code} {nL n0 u0 : Nat} {Q : State → Prop} {cc : ByteArray} {own : String} {ini : Bool} {pc : Nat} {h h' : PH} {ls st' : List Value} {a k i : Nat} {v : Value} (hx : p.tables.exec = Jvm.exec) (hb : c.code = cc) (hown : s.vm.findClass own = some m.cls) (hts : ∀ w ∈ lw_good, w.before args s = true) (hKU : KU X KS s) (hini : ini = true → meth.name = "<init>")
    (hd : decode cc pc = .ok (.putfield i, 3)) (hT0 : isTg (hT h a) = true) (hk : k < pNf (hT h a)) (hw : Cond.fieldLink own i (pT (hT h a) k).1 (pT (hT h a) k).2.1 (pT (hT h a) k).2.2.1 ∈ lw_good) (hfin : (pT (hT h a) k).2.2.2 = false ∨ (ini = true ∧ (pT (hT h a) k).1 = own))
    (hn : narrow (pTy (hT h a) k) (rnv X v) = rnv X v) (hf : fits (pTy (hT h a) k) (rnv X v) = true)
    (hN' : hN h' = hN h) (hU' : hU h' = hU h) (hT' : hT h' a = hT h a) (hsame : ∀ b, b ≠ a → SameC h h' b) (hsv : ∀ j, j < pNf (hT h a) → svP h' (hT h a) a j = if j = k then v else svP h (hT h a) a j)
    (G2 : GoW X p l e R s m args below meth c nL n0 u0 Q (pc + 3) ls st' h') : GoW X p l e R s m args below meth c nL n0 u0 Q pc ls (v :: .ref a :: st') h := by
  intro H0 locs lsM P L B1 B2 B3
  obtain ⟨g1, g2, cell, q1, q2, q3, q4⟩ := P.obj hT0
  obtain ⟨hS, hfc, kC, hkC, hkind⟩ := hKU.1 _ hT0
  obtain ⟨cf, kf, fi, f, hi, hsl⟩ := hS _ hk
  have hap := va_apart (own := own) hts (in_lay _ hT0) _ (ty_ok _ hT0) (nm_ok _ hT0) hKU.K (clP_at hT0)
  have e1 : hT h a - 1 + 1 = hT h a := by
    simp only [isTg, Bool.and_eq_true, decide_eq_true_eq] at hT0
    omega
  dsimp only at hap
  rw [e1] at hap
  have hlay := hts _ (in_lay _ hT0 _ (u_in_lay hk))
  have hst := (u_facts hfc hkC (u_lays hts (in_lay _ hT0) hk) hi).1
  have key : ∀ H' : Heap, H'[ad X a]? = some (cell.setSlot f.slot (rnv X v)) → H'.size = H0.size → (∀ q, q ≠ ad X a → H'[q]? = H0[q]?) → W p l e R s m args below meth c H' (locs ++ [⟨ad X a, f.slot⟩]) (hN h - n0) (hU h - u0) Q { (F0 m pc lsM ((v :: .ref a :: st').map (rnv X))) with pc := pc + 3, stack := st'.map (rnv X) } := by
    intro H' e2 e3 e4
    rw [← hN', ← hU']
    refine G2 H' _ lsM ?_ L (mem_app B1 (ad_le g2)) (by rw [hN']; exact B2) (by rw [hU']; exact B3)
    refine P.upd (a := a) (by rw [hT']; exact (isTg_not hT0).2.2.2) g2 g1 hN' e3 e4 hsame ?_
    refine Or.inl ⟨by rw [hT']; exact hT0, g2, ?_⟩
    rw [hT']
    refine t_OB.to (V := updV (fun j => rnv X (svP h (hT h a) a j)) k (rnv X v)) ⟨_, e2, q2, q3, ?_⟩ (fun j hj => ?_)
    · rw [hsl]
      exact t_set q4 hap hk _
    · rw [hsv j hj]
      unfold updV
      by_cases hjk : j = k
      · rw [if_pos hjk, if_pos hjk]
      · rw [if_neg hjk, if_neg hjk]
  by_cases hfl : (pT (hT h a) k).2.2.2 = true
  · have hfin2 : ini = true ∧ (pT (hT h a) k).1 = own := by
      rcases hfin with z | z
      · rw [z] at hfl; cases hfl
      · exact z
    unfold u_lay at hlay
    rw [if_pos hfl] at hlay
    have hcf : m.cls = cf := by
      obtain ⟨_, _, c', _, _, _, -, -, hf', -, -, -, hown2, -⟩ := Cond.laysFinal_spec hlay
      have e1 : c' = cf := by have := hi.symm.trans hf'; simp at this; exact this.1.symm
      rw [hfin2.2] at hown2
      rw [← e1]; exact Option.some.inj (hown.symm.trans hown2)
    have h6 := u_fits hfc hkC hkind (Or.inr hlay) hi (ty_ok _ hT0 _ hk) hn hf
    exact W.putFinK hx hb hown (hts _ hw) hi hst hcf (hini hfin2.1) (by rw [q2]; exact h6) q1 q3 (by rw [hsl]; exact k2_hasslot (q4 k hk)) rfl rfl hd key
  · unfold u_lay at hlay
    rw [if_neg hfl] at hlay
    have h6 := u_store hfc hkC hkind hlay hi (ty_ok _ hT0 _ hk) hn hf
    exact W.putK hx hb (f := f) ⟨hown, hts _ hw, ⟨_, _, _, hi⟩, hst⟩ (by rw [q2]; exact h6) q1 q3 (by rw [hsl]; exact k2_hasslot (q4 k hk)) rfl rfl hd key
theorem sd_putfield {X : CX} {KS : CX → State → Prop} {p : Program} {l : Launch} {e : Env} {R : Room} {s : State} {m : MethodId} {args : Array Value} {below : List Frame} {meth : Method} {c : Code} {nL n0 u0 : Nat} {Q : State → Prop} {cc : ByteArray} {own : String} {ini : Bool} {pcOf : Nat → Nat} {pc len pl : Nat} {raw : Instr} {call : Nat → List Value → PH → (Option Value → PH → Prop) → Prop} {jump : Nat → List Value → List Value → PH → Prop} {fin : Option Value → PH → Prop} {rk : Nat} {K : List Value → List Value → PH → Prop} {ls st : List Value} {h : PH} {n : Nat} (hx : p.tables.exec = Jvm.exec) (hb : c.code = cc) (hd : decode cc pc = .ok (raw, len)) (ho : okI own ini nL pcOf pc raw len pl (.putfield n) = true) (hK : ∀ ls st h, K ls st h → GoW X p l e R s m args below meth c nL n0 u0 Q (pc + len) ls st h) (hown : s.vm.findClass own = some m.cls) (hts : ∀ w ∈ lw_good, w.before args s = true) (hKU : KU X KS s) (hini : ini = true → meth.name = "<init>") (H : wpI call jump fin rk (.putfield n) K ls st h) : GoW X p l e R s m args below meth c nL n0 u0 Q pc ls st h := by
  simp only [wpI] at H
  simp only [okI, Bool.and_eq_true, decide_eq_true_eq] at ho
  obtain ⟨⟨⟨⟨hT0, hk⟩, hkd⟩, hfin⟩, ho⟩ := ho
  have hfin : (pT (n / 64 % 16) (n % 64)).2.2.2 = false ∨ (ini = true ∧ (pT (n / 64 % 16) (n % 64)).1 = own) := by
    simpa using hfin
  have hkk := kd_ok _ hT0 _ hk
  split at ho
  · rename_i i
    simp only [Bool.and_eq_true, beq_iff_eq] at ho
    obtain ⟨rfl, hw⟩ := ho
    have hw := wGd_mem hw
    split at H
    · rename_i x a st'
      obtain ⟨ht, hv, H⟩ := H
      rw [← ht] at hT0 hk hw hfin hkk hkd
      rcases hkk with ⟨ty, kd⟩ | ⟨ty, kd⟩ | ⟨ty, kd⟩ | ⟨kd, ty⟩
      · exact put_core (h' := sI h a (n % 64) x) (v := .int x) hx hb hown hts hKU hini hd hT0 hk hw hfin (by rw [ty]; rfl) (by rw [ty]; rfl) rfl rfl rfl (fun b hb => same_sI hb) (fun j hj => by rw [sv_sI]; simp [kd]) (hK _ _ _ H)
      · have hx01 : x = 0 ∨ x = 1 := by
          rcases hv with z | z
          · omega
          · exact z.2
        refine put_core (h' := sI h a (n % 64) x) (v := .int x) hx hb hown hts hKU hini hd hT0 hk hw hfin ?_ ?_ rfl rfl rfl (fun b hb => same_sI hb) (fun j hj => by rw [sv_sI]; simp [kd]) (hK _ _ _ H)
        · rw [ty]; rcases hx01 with rfl | rfl <;> rfl
        · rw [ty]; rcases hx01 with rfl | rfl <;> rfl
      · omega
      · omega
    · rename_i x a st'
      obtain ⟨ht, hv, H⟩ := H
      rw [← ht] at hT0 hk hw hfin hkk hkd
      rcases hkk with ⟨ty, kd⟩ | ⟨ty, kd⟩ | ⟨ty, kd⟩ | ⟨kd, ty⟩
      · omega
      · omega
      · exact put_core (h' := sJ h a (n % 64) x) (v := .long x) hx hb hown hts hKU hini hd hT0 hk hw hfin (by rw [ty]; rfl) (by rw [ty]; rfl) rfl rfl rfl (fun b hb => same_sJ hb) (fun j hj => by rw [sv_sJ]; simp [kd]) (hK _ _ _ H)
      · omega
    · rename_i a st'
      obtain ⟨ht, hv, H⟩ := H
      rw [← ht] at hT0 hk hw hfin hkk hkd
      have kd : pK (hT h a) (n % 64) = 2 := by omega
      have ty : (pTy (hT h a) (n % 64)).isReference = true := by
        rcases hkk with ⟨-, z⟩ | ⟨-, z⟩ | ⟨-, z⟩ | ⟨-, z⟩
        · omega
        · omega
        · omega
        · exact z
      refine put_core (h' := sR h a (n % 64) none) (v := .null) hx hb hown hts hKU hini hd hT0 hk hw hfin ?_ ?_ rfl rfl rfl (fun b hb => same_sR hb) (fun j hj => by rw [sv_sR]; simp [kd, rfP]) (hK _ _ _ H)
      · revert ty; cases pTy (hT h a) (n % 64) <;> simp [FieldType.isReference, narrow, rnv]
      · revert ty; cases pTy (hT h a) (n % 64) <;> simp [FieldType.isReference, fits, rnv]
    · rename_i b a st'
      obtain ⟨ht, hv, H⟩ := H
      rw [← ht] at hT0 hk hw hfin hkk hkd
      have kd : pK (hT h a) (n % 64) = 2 := by omega
      have ty : (pTy (hT h a) (n % 64)).isReference = true := by
        rcases hkk with ⟨-, z⟩ | ⟨-, z⟩ | ⟨-, z⟩ | ⟨-, z⟩
        · omega
        · omega
        · omega
        · exact z
      refine put_core (h' := sR h a (n % 64) (some b)) (v := .ref b) hx hb hown hts hKU hini hd hT0 hk hw hfin ?_ ?_ rfl rfl rfl (fun b hb => same_sR hb) (fun j hj => by rw [sv_sR]; simp [kd, rfP]) (hK _ _ _ H)
      · revert ty; cases pTy (hT h a) (n % 64) <;> simp [FieldType.isReference, narrow, rnv]
      · revert ty; cases pTy (hT h a) (n % 64) <;> simp [FieldType.isReference, fits, rnv]
    · exact H.elim
  · cases ho
end
end
section
section

theorem inb_vp {i : Int32} {n : Nat} (h : inb i n) : ¬ (i < 0 ∨ n ≤ i.toNatClampNeg) := by
  rintro (z | z)
  · have := h.1
    rw [Int32.le_iff_toInt_le] at this
    rw [Int32.lt_iff_toInt_lt] at z
    omega
  · exact absurd h.2 (Nat.not_lt.mpr z)
theorem ev_sI {h : PH} {t a k j : Nat} {x : Int32} : evP (sI h a k x) t a j = if j = k ∧ (t ≠ 102 ∧ t ≠ 110 ∧ t ≠ 111 ∧ t ≠ 112) then .int x else evP h t a j := by
  by_cases e : j = k
  · subst e
    unfold evP
    split <;> simp_all [sI, hI, hJ, hR, up2]
  · rw [if_neg (fun z => e z.1)]
    unfold evP
    split <;> simp [sI, hI, hJ, hR, up2, e]
theorem ev_sJ {h : PH} {a k j : Nat} {x : Int64} : evP (sJ h a k x) 102 a j = if j = k then .long x else evP h 102 a j := by
  by_cases e : j = k <;> simp [evP, sJ, hJ, up2, e]
theorem ev_sR {h : PH} {t a k j : Nat} {x : Option Nat} (ht : t = 110 ∨ t = 111 ∨ t = 112) : evP (sR h a k x) t a j = if j = k then rfP x else evP h t a j := by
  rcases ht with rfl | rfl | rfl <;> by_cases e : j = k <;> simp [evP, sR, hR, up2, e]
/-- an array of ours has changed in one place -/
theorem Pic.ast {X : CX} {h h' : PH} {H H' : Heap} {a k : Nat} {v : Value} (P : Pic X h H) (ht : isAT (hT h a) = true) (hN' : hN h' = hN h) (hT' : hT h' a = hT h a) (hL' : hL h' a = hL h a) (hsame : ∀ b, b ≠ a → SameC h h' b)
    (hev : ∀ j, evP h' (hT h a) a j = if j = k then v else evP h (hT h a) a j) (e1 : H'[ad X a]? = some ((arrV (xA X (hT h a)) (hL h a) (fun j => rnv X (evP h (hT h a) a j))).setSlot k (rnv X v))) (e2 : H'.size = H.size) (e3 : ∀ q, q ≠ ad X a → H'[q]? = H[q]?) : Pic X h' H' := by
  obtain ⟨g1, g2, -⟩ := P.arr ht
  refine P.upd (a := a) (by rw [hT']; exact (isAT_not ht).2.2.2) g2 g1 hN' e2 e3 hsame (Or.inr (Or.inl ⟨by rw [hT']; exact ht, g2, ?_⟩))
  rw [e1, arrV_store, hT', hL']
  congr 2
  funext j
  rw [hev j]
  unfold updV
  by_cases e : j = k
  · rw [if_pos e, if_pos e]
  · rw [if_neg e, if_neg e]
theorem sd_iaload {X : CX} {KS : CX → State → Prop} {p : Program} {l : Launch} {e : Env} {R : Room} {s : State} {m : MethodId} {args : Array Value} {below : List Frame} {meth : Method} {c : Code} {nL n0 u0 : Nat} {Q : State → Prop} {cc : ByteArray} {own : String} {ini : Bool} {pcOf : Nat → Nat} {pc len pl : Nat} {raw : Instr} {call : Nat → List Value → PH → (Option Value → PH → Prop) → Prop} {jump : Nat → List Value → List Value → PH → Prop} {fin : Option Value → PH → Prop} {rk : Nat} {K : List Value → List Value → PH → Prop} {ls st : List Value} {h : PH}  (hx : p.tables.exec = Jvm.exec) (hb : c.code = cc) (hd : decode cc pc = .ok (raw, len)) (ho : okI own ini nL pcOf pc raw len pl (.iaload) = true) (hK : ∀ ls st h, K ls st h → GoW X p l e R s m args below meth c nL n0 u0 Q (pc + len) ls st h) (hKU : KU X KS s) (H : wpI call jump fin rk (.iaload) K ls st h) : GoW X p l e R s m args below meth c nL n0 u0 Q pc ls st h := by
  simp only [wpI] at H
  simp only [okI] at ho
  split at ho
  · cases eq_of_beq ho
    split at H
    · rename_i i a st'
      intro H0 locs lsM P L B1 B2 B3
      obtain ⟨ht, hi, H⟩ := H
      obtain ⟨cell, c1, c2, c3, c4, c5⟩ := P.ints hKU ht
      exact W.iald hx hb c1 c2 c3 (by rw [c4]; exact inb_vp hi) (c5 _ hi.2) rfl rfl hd (hK _ _ _ H _ _ _ P L B1 B2 B3)
    · exact H.elim
  · cases ho
theorem sd_baload {X : CX} {KS : CX → State → Prop} {p : Program} {l : Launch} {e : Env} {R : Room} {s : State} {m : MethodId} {args : Array Value} {below : List Frame} {meth : Method} {c : Code} {nL n0 u0 : Nat} {Q : State → Prop} {cc : ByteArray} {own : String} {ini : Bool} {pcOf : Nat → Nat} {pc len pl : Nat} {raw : Instr} {call : Nat → List Value → PH → (Option Value → PH → Prop) → Prop} {jump : Nat → List Value → List Value → PH → Prop} {fin : Option Value → PH → Prop} {rk : Nat} {K : List Value → List Value → PH → Prop} {ls st : List Value} {h : PH}  (hx : p.tables.exec = Jvm.exec) (hb : c.code = cc) (hd : decode cc pc = .ok (raw, len)) (ho : okI own ini nL pcOf pc raw len pl (.baload) = true) (hK : ∀ ls st h, K ls st h → GoW X p l e R s m args below meth c nL n0 u0 Q (pc + len) ls st h) (hKU : KU X KS s) (H : wpI call jump fin rk (.baload) K ls st h) : GoW X p l e R s m args below meth c nL n0 u0 Q pc ls st h := by
  simp only [wpI] at H
  simp only [okI] at ho
  split at ho
  · cases eq_of_beq ho
    split at H
    · rename_i i a st'
      intro H0 locs lsM P L B1 B2 B3
      obtain ⟨ht, hi, H⟩ := H
      have hat : isAT (hT h a) = true := by rw [ht]; rfl
      obtain ⟨-, -, c1⟩ := P.arr hat
      rw [ht] at c1
      exact W.zald hx hb c1 ((hKU.2.1 101 rfl).1 _ _) (fun z => by cases z) (by rw [arrV_size]; exact inb_vp hi) (by rw [arrV_read _ _ hi.2]; rfl) rfl rfl hd (hK _ _ _ H _ _ _ P L B1 B2 B3)
    · exact H.elim
  · cases ho
theorem sd_laload {X : CX} {KS : CX → State → Prop} {p : Program} {l : Launch} {e : Env} {R : Room} {s : State} {m : MethodId} {args : Array Value} {below : List Frame} {meth : Method} {c : Code} {nL n0 u0 : Nat} {Q : State → Prop} {cc : ByteArray} {own : String} {ini : Bool} {pcOf : Nat → Nat} {pc len pl : Nat} {raw : Instr} {call : Nat → List Value → PH → (Option Value → PH → Prop) → Prop} {jump : Nat → List Value → List Value → PH → Prop} {fin : Option Value → PH → Prop} {rk : Nat} {K : List Value → List Value → PH → Prop} {ls st : List Value} {h : PH}  (hx : p.tables.exec = Jvm.exec) (hb : c.code = cc) (hd : decode cc pc = .ok (raw, len)) (ho : okI own ini nL pcOf pc raw len pl (.laload) = true) (hK : ∀ ls st h, K ls st h → GoW X p l e R s m args below meth c nL n0 u0 Q (pc + len) ls st h) (hKU : KU X KS s) (H : wpI call jump fin rk (.laload) K ls st h) : GoW X p l e R s m args below meth c nL n0 u0 Q pc ls st h := by
  simp only [wpI] at H
  simp only [okI] at ho
  split at ho
  · cases eq_of_beq ho
    split at H
    · rename_i i a st'
      intro H0 locs lsM P L B1 B2 B3
      obtain ⟨ht, hi, H⟩ := H
      have hat : isAT (hT h a) = true := by rw [ht]; rfl
      obtain ⟨-, -, c1⟩ := P.arr hat
      rw [ht] at c1
      exact W.lald hx hb c1 ((hKU.2.1 102 rfl).1 _ _) (fun z => by cases z) (by rw [arrV_size]; exact inb_vp hi) (by rw [arrV_read _ _ hi.2]; rfl) rfl rfl hd (hK _ _ _ H _ _ _ P L B1 B2 B3)
    · exact H.elim
  · cases ho
theorem sd_aaload {X : CX} {KS : CX → State → Prop} {p : Program} {l : Launch} {e : Env} {R : Room} {s : State} {m : MethodId} {args : Array Value} {below : List Frame} {meth : Method} {c : Code} {nL n0 u0 : Nat} {Q : State → Prop} {cc : ByteArray} {own : String} {ini : Bool} {pcOf : Nat → Nat} {pc len pl : Nat} {raw : Instr} {call : Nat → List Value → PH → (Option Value → PH → Prop) → Prop} {jump : Nat → List Value → List Value → PH → Prop} {fin : Option Value → PH → Prop} {rk : Nat} {K : List Value → List Value → PH → Prop} {ls st : List Value} {h : PH}  (hx : p.tables.exec = Jvm.exec) (hb : c.code = cc) (hd : decode cc pc = .ok (raw, len)) (ho : okI own ini nL pcOf pc raw len pl (.aaload) = true) (hK : ∀ ls st h, K ls st h → GoW X p l e R s m args below meth c nL n0 u0 Q (pc + len) ls st h) (hKU : KU X KS s) (H : wpI call jump fin rk (.aaload) K ls st h) : GoW X p l e R s m args below meth c nL n0 u0 Q pc ls st h := by
  simp only [wpI] at H
  simp only [okI] at ho
  split at ho
  · cases eq_of_beq ho
    split at H
    · rename_i i a st'
      intro H0 locs lsM P L B1 B2 B3
      obtain ⟨ht1, ht2, hi, H⟩ := H
      have key : ∀ t, hT h a = t → isAT t = true → t = 110 ∨ t = 111 ∨ t = 112 → (pA t).isReference = true → W p l e R s m args below meth c H0 locs (hN h - n0) (hU h - u0) Q (F0 m pc lsM ((.int i :: .ref a :: st').map (rnv X))) := by
        intro t ht hat h3 hr
        have hat' : isAT (hT h a) = true := by rw [ht]; exact hat
        obtain ⟨-, -, c1⟩ := P.arr hat'
        rw [ht] at c1
        exact W.aald (ty := pA t) (v := rnv X (rfP (hR h a i.toNatClampNeg))) hx hb c1 ((hKU.2.1 t hat).1 _ _) hr (fun z => by cases z) (by rw [arrV_size]; exact inb_vp hi) (by rw [arrV_read _ _ hi.2]; rcases h3 with rfl | rfl | rfl <;> rfl) rfl rfl hd (hK _ _ _ H _ _ _ P L B1 B2 B3)
      by_cases h0 : hT h a = 110
      · exact key 110 h0 rfl (Or.inl rfl) rfl
      by_cases h1 : hT h a = 111
      · exact key 111 h1 rfl (Or.inr (Or.inl rfl)) rfl
      by_cases h2 : hT h a = 112
      · exact key 112 h2 rfl (Or.inr (Or.inr rfl)) rfl
      exfalso
      obtain ⟨-, q2⟩ := P.2.2.2.1 a (by omega)
      rcases q2 with ⟨a1, -⟩ | ⟨a1, -⟩ | ⟨a1, -⟩
      · simp [isTg] at a1; omega
      · simp [isAT] at a1; omega
      · omega
    · exact H.elim
  · cases ho
theorem sd_arraylength {X : CX} {KS : CX → State → Prop} {p : Program} {l : Launch} {e : Env} {R : Room} {s : State} {m : MethodId} {args : Array Value} {below : List Frame} {meth : Method} {c : Code} {nL n0 u0 : Nat} {Q : State → Prop} {cc : ByteArray} {own : String} {ini : Bool} {pcOf : Nat → Nat} {pc len pl : Nat} {raw : Instr} {call : Nat → List Value → PH → (Option Value → PH → Prop) → Prop} {jump : Nat → List Value → List Value → PH → Prop} {fin : Option Value → PH → Prop} {rk : Nat} {K : List Value → List Value → PH → Prop} {ls st : List Value} {h : PH}  (hx : p.tables.exec = Jvm.exec) (hb : c.code = cc) (hd : decode cc pc = .ok (raw, len)) (ho : okI own ini nL pcOf pc raw len pl (.arraylength) = true) (hK : ∀ ls st h, K ls st h → GoW X p l e R s m args below meth c nL n0 u0 Q (pc + len) ls st h) (hKU : KU X KS s) (H : wpI call jump fin rk (.arraylength) K ls st h) : GoW X p l e R s m args below meth c nL n0 u0 Q pc ls st h := by
  simp only [wpI] at H
  simp only [okI] at ho
  split at ho
  · cases eq_of_beq ho
    split at H
    · rename_i a st'
      intro H0 locs lsM P L B1 B2 B3
      obtain ⟨ht1, ht2, H⟩ := H
      have kk := hK _ _ _ H _ _ _ P L B1 B2 B3
      by_cases h0 : hT h a = 120
      · obtain ⟨cell, c1, c2, c3, c4, c5⟩ := P.ints (U := s) hKU (by rw [h0]; rfl)
        exact W.alen (n := nI (hL h a)) hx hb c1 c2 (by rw [c4]; rfl) rfl rfl hd kk
      · obtain ⟨-, q2⟩ := P.2.2.2.1 a (by omega)
        rcases q2 with ⟨a1, -⟩ | ⟨a1, -, a3⟩ | ⟨a1, -⟩
        · simp [isTg] at a1; omega
        · exact W.alen (n := nI (hL h a)) hx hb a3 ((hKU.2.1 _ a1).1 _ _) (by rw [arrV_size]; rfl) rfl rfl hd kk
        · omega
    · exact H.elim
  · cases ho
theorem sd_iastore {X : CX} {KS : CX → State → Prop} {p : Program} {l : Launch} {e : Env} {R : Room} {s : State} {m : MethodId} {args : Array Value} {below : List Frame} {meth : Method} {c : Code} {nL n0 u0 : Nat} {Q : State → Prop} {cc : ByteArray} {own : String} {ini : Bool} {pcOf : Nat → Nat} {pc len pl : Nat} {raw : Instr} {call : Nat → List Value → PH → (Option Value → PH → Prop) → Prop} {jump : Nat → List Value → List Value → PH → Prop} {fin : Option Value → PH → Prop} {rk : Nat} {K : List Value → List Value → PH → Prop} {ls st : List Value} {h : PH}  (hx : p.tables.exec = Jvm.exec) (hb : c.code = cc) (hd : decode cc pc = .ok (raw, len)) (ho : okI own ini nL pcOf pc raw len pl (.iastore) = true) (hK : ∀ ls st h, K ls st h → GoW X p l e R s m args below meth c nL n0 u0 Q (pc + len) ls st h) (hKU : KU X KS s) (H : wpI call jump fin rk (.iastore) K ls st h) : GoW X p l e R s m args below meth c nL n0 u0 Q pc ls st h := by
  simp only [wpI] at H
  simp only [okI] at ho
  split at ho
  · cases eq_of_beq ho
    split at H
    · rename_i x i a st'
      intro H0 locs lsM P L B1 B2 B3
      obtain ⟨ht, hi, H⟩ := H
      have hat : isAT (hT h a) = true := by rw [ht]; rfl
      obtain ⟨-, g2, c1⟩ := P.arr hat
      have c1' := c1
      rw [ht] at c1'
      refine W.iast hx hb c1' ((hKU.2.1 100 rfl).1 _ _) (fun z => by cases z) (by rw [arrV_size]; exact inb_vp hi) rfl rfl hd fun H' e1 e2 e3 => ?_
      refine hK _ _ _ H _ _ _ (P.ast (k := i.toNatClampNeg) (v := .int x) hat rfl rfl rfl (fun b hb => same_sI hb) (fun j => ?_) ?_ e2 e3) L (mem_app B1 (ad_le g2)) B2 B3
      · rw [ht] 
        rw [ev_sI]
        simp
      · rw [ht, e1]
        rfl
    · exact H.elim
  · cases ho
theorem sd_bastore {X : CX} {KS : CX → State → Prop} {p : Program} {l : Launch} {e : Env} {R : Room} {s : State} {m : MethodId} {args : Array Value} {below : List Frame} {meth : Method} {c : Code} {nL n0 u0 : Nat} {Q : State → Prop} {cc : ByteArray} {own : String} {ini : Bool} {pcOf : Nat → Nat} {pc len pl : Nat} {raw : Instr} {call : Nat → List Value → PH → (Option Value → PH → Prop) → Prop} {jump : Nat → List Value → List Value → PH → Prop} {fin : Option Value → PH → Prop} {rk : Nat} {K : List Value → List Value → PH → Prop} {ls st : List Value} {h : PH}  (hx : p.tables.exec = Jvm.exec) (hb : c.code = cc) (hd : decode cc pc = .ok (raw, len)) (ho : okI own ini nL pcOf pc raw len pl (.bastore) = true) (hK : ∀ ls st h, K ls st h → GoW X p l e R s m args below meth c nL n0 u0 Q (pc + len) ls st h) (hKU : KU X KS s) (H : wpI call jump fin rk (.bastore) K ls st h) : GoW X p l e R s m args below meth c nL n0 u0 Q pc ls st h := by
  simp only [wpI] at H
  simp only [okI] at ho
  split at ho
  · cases eq_of_beq ho
    split at H
    · rename_i x i a st'
      intro H0 locs lsM P L B1 B2 B3
      obtain ⟨ht, hx01, hi, H⟩ := H
      have hat : isAT (hT h a) = true := by rw [ht]; rfl
      obtain ⟨-, g2, c1⟩ := P.arr hat
      have c1' := c1
      rw [ht] at c1'
      refine W.zast hx hb c1' ((hKU.2.1 101 rfl).1 _ _) (fun z => by cases z) (by rw [arrV_size]; exact inb_vp hi) rfl rfl hd fun H' e1 e2 e3 => ?_
      refine hK _ _ _ H _ _ _ (P.ast (k := i.toNatClampNeg) (v := .int x) hat rfl rfl rfl (fun b hb => same_sI hb) (fun j => ?_) ?_ e2 e3) L (mem_app B1 (ad_le g2)) B2 B3
      · rw [ht] 
        rw [ev_sI]
        simp
      · rw [ht, e1]
        rcases hx01 with rfl | rfl <;> rfl
    · exact H.elim
  · cases ho
theorem sd_lastore {X : CX} {KS : CX → State → Prop} {p : Program} {l : Launch} {e : Env} {R : Room} {s : State} {m : MethodId} {args : Array Value} {below : List Frame} {meth : Method} {c : Code} {nL n0 u0 : Nat} {Q : State → Prop} {cc : ByteArray} {own : String} {ini : Bool} {pcOf : Nat → Nat} {pc len pl : Nat} {raw : Instr} {call : Nat → List Value → PH → (Option Value → PH → Prop) → Prop} {jump : Nat → List Value → List Value → PH → Prop} {fin : Option Value → PH → Prop} {rk : Nat} {K : List Value → List Value → PH → Prop} {ls st : List Value} {h : PH}  (hx : p.tables.exec = Jvm.exec) (hb : c.code = cc) (hd : decode cc pc = .ok (raw, len)) (ho : okI own ini nL pcOf pc raw len pl (.lastore) = true) (hK : ∀ ls st h, K ls st h → GoW X p l e R s m args below meth c nL n0 u0 Q (pc + len) ls st h) (hKU : KU X KS s) (H : wpI call jump fin rk (.lastore) K ls st h) : GoW X p l e R s m args below meth c nL n0 u0 Q pc ls st h := by
  simp only [wpI] at H
  simp only [okI] at ho
  split at ho
  · cases eq_of_beq ho
    split at H
    · rename_i x i a st'
      intro H0 locs lsM P L B1 B2 B3
      obtain ⟨ht, hi, H⟩ := H
      have hat : isAT (hT h a) = true := by rw [ht]; rfl
      obtain ⟨-, g2, c1⟩ := P.arr hat
      have c1' := c1
      rw [ht] at c1'
      refine W.last hx hb c1' ((hKU.2.1 102 rfl).1 _ _) (fun z => by cases z) (by rw [arrV_size]; exact inb_vp hi) rfl rfl hd fun H' e1 e2 e3 => ?_
      refine hK _ _ _ H _ _ _ (P.ast (k := i.toNatClampNeg) (v := .long x) hat rfl rfl rfl (fun b hb => same_sJ hb) (fun j => ?_) ?_ e2 e3) L (mem_app B1 (ad_le g2)) B2 B3
      · rw [ht]
        rw [ev_sJ]
      · rw [ht, e1]
        rfl
    · exact H.elim
  · cases ho
end
end
section
section

theorem lib_words : ([.static Lib.Math.max.name, .initialized "java/lang/Math", .code Lib.Math.max.name Lib.Math.max.code 2 (some .int), .static Lib.Math.min.name, .code Lib.Math.min.name Lib.Math.min.code 2 (some .int), .native arraycopyName, .static arraycopyName, .initialized "java/lang/System", .instanceMethod Lib.objectInit, .code Lib.objectInit ⟨#[0xb1]⟩ 1 none] : List Cond).all (fun w => lw_good.contains w) = true := by decide +kernel
theorem lib_word {w : Cond} (h : w ∈ ([.static Lib.Math.max.name, .initialized "java/lang/Math", .code Lib.Math.max.name Lib.Math.max.code 2 (some .int), .static Lib.Math.min.name, .code Lib.Math.min.name Lib.Math.min.code 2 (some .int), .native arraycopyName, .static arraycopyName, .initialized "java/lang/System", .instanceMethod Lib.objectInit, .code Lib.objectInit ⟨#[0xb1]⟩ 1 none] : List Cond)) : w ∈ lw_good := by
  have := List.all_eq_true.mp lib_words w h
  simpa using this
theorem inst_ok : ∀ t, isTg t = true → Cond.instantiable (pC t) (pNf t) ∈ lw_good ∧ Cond.initialized (pC t) ∈ lw_good := by
  have h : ∀ t, t < 14 → (t = 0 ∨ (lw_good.contains (.instantiable (pC t) (pNf t)) = true ∧ lw_good.contains (.initialized (pC t)) = true)) := by decide +kernel
  intro t ht
  simp only [isTg, Bool.and_eq_true, decide_eq_true_eq] at ht
  rcases h t (by omega) with z | ⟨z1, z2⟩
  · omega
  · exact ⟨by simpa using z1, by simpa using z2⟩
theorem okStack_sum {l : List Value} {X : CX} (h : okStack l = true) : ((l.map (rnv X)).map fun v => v.category).sum ≤ 8 := by
  have hc : ∀ v : Value, v.category ≤ 2 := fun v => by cases v <;> simp [Value.category]
  match l, h with
  | [], _ => simp
  | [a], _ => simp; have := hc (rnv X a); omega
  | [a, b], _ => simp; have := hc (rnv X a); have := hc (rnv X b); omega
  | [a, b, d], _ => simp; have := hc (rnv X a); have := hc (rnv X b); have := hc (rnv X d); omega
  | [a, b, d, f], _ => simp; have := hc (rnv X a); have := hc (rnv X b); have := hc (rnv X d); have := hc (rnv X f); omega
  | _ :: _ :: _ :: _ :: _ :: _, h => simp [okStack] at h
theorem bk_ok : ∀ t, t = 2 ∨ t = 3 ∨ t = 4 ∨ t = 5 ∨ t = 7 ∨ t = 10 → pC t ∈ bKinds ∧ isTg t = true := by
  rintro t (rfl | rfl | rfl | rfl | rfl | rfl) <;> decide
theorem sd_aastore {X : CX} {KS : CX → State → Prop} {p : Program} {l : Launch} {e : Env} {R : Room} {s : State} {m : MethodId} {args : Array Value} {below : List Frame} {meth : Method} {c : Code} {nL n0 u0 : Nat} {Q : State → Prop} {cc : ByteArray} {own : String} {ini : Bool} {pcOf : Nat → Nat} {pc len pl : Nat} {raw : Instr} {call : Nat → List Value → PH → (Option Value → PH → Prop) → Prop} {jump : Nat → List Value → List Value → PH → Prop} {fin : Option Value → PH → Prop} {rk : Nat} {K : List Value → List Value → PH → Prop} {ls st : List Value} {h : PH}  (hx : p.tables.exec = Jvm.exec) (hb : c.code = cc) (hd : decode cc pc = .ok (raw, len)) (ho : okI own ini nL pcOf pc raw len pl (.aastore) = true) (hK : ∀ ls st h, K ls st h → GoW X p l e R s m args below meth c nL n0 u0 Q (pc + len) ls st h) (hKU : KU X KS s) (H : wpI call jump fin rk (.aastore) K ls st h) : GoW X p l e R s m args below meth c nL n0 u0 Q pc ls st h := by
  simp only [wpI] at H
  simp only [okI] at ho
  split at ho
  · cases eq_of_beq ho
    split at H
    · rename_i i a st'
      intro H0 locs lsM P L B1 B2 B3
      obtain ⟨ht1, ht2, hi, H⟩ := H
      have hat : isAT (hT h a) = true := by
        obtain ⟨-, q2⟩ := P.2.2.2.1 a (by omega)
        rcases q2 with ⟨a1, -⟩ | ⟨a1, -⟩ | ⟨a1, -⟩
        · simp [isTg] at a1; omega
        · exact a1
        · omega
      have h3 : hT h a = 110 ∨ hT h a = 111 ∨ hT h a = 112 := by simp [isAT] at hat; omega
      obtain ⟨-, g2, c1⟩ := P.arr hat
      obtain ⟨C, hC⟩ : ∃ C, pA (hT h a) = .object C := by rcases h3 with z | z | z <;> rw [z] <;> exact ⟨_, rfl⟩
      have hAr := (hKU.2.1 _ hat).1
      rw [hC] at hAr
      refine va_WaastN (C := C) hx hb c1 (hAr _ _) (fun z => by cases z) (by rw [arrV_size]; exact inb_vp hi) rfl rfl hd fun H' e1 e2 e3 => ?_
      exact hK _ _ _ H _ _ _ (P.ast (k := i.toNatClampNeg) (v := rfP none) hat rfl rfl rfl (fun b hb => same_sR hb) (fun j => ev_sR h3) e1 e2 e3) L (mem_app B1 (ad_le g2)) B2 B3
    · rename_i b i a st'
      intro H0 locs lsM P L B1 B2 B3
      obtain ⟨hcase, hi, H⟩ := H
      have key : ∀ ta, hT h a = ta → (ta = 110 ∨ ta = 111 ∨ ta = 112) → isTg (hT h b) = true → (∀ comp c0, s.vm.findClass (aName ta) = some comp → s.vm.findClass (pC (hT h b)) = some c0 → s.vm.assignable c0 comp = true) → W p l e R s m args below meth c H0 locs (hN h - n0) (hU h - u0) Q (F0 m pc lsM ((.ref b :: .int i :: .ref a :: st').map (rnv X))) := by
        intro ta hta h3 htb hasg
        have hat : isAT (hT h a) = true := by rw [hta]; rcases h3 with rfl | rfl | rfl <;> rfl
        obtain ⟨-, g2, c1⟩ := P.arr hat
        obtain ⟨-, -, cellV, d1, d2, d3, -⟩ := P.obj htb
        have hcls := (hKU.1 _ htb).2
        have hra := (hKU.2.1 _ hat).2
        obtain ⟨kC, hkC, -⟩ := hcls.2
        obtain ⟨kA, comp, k1, k2, k3, -⟩ : ∃ (kA : Class) (comp : ClassId), s.vm.classes[xA X (hT h a)]? = some kA ∧ kA.kind = .array comp (.object (aName ta)) ∧ s.vm.findClass (aName ta) = some comp ∧ s.vm.findClass ("[" ++ (FieldType.object (aName ta)).toString) = some (xA X (hT h a)) := by
          rcases h3 with rfl | rfl | rfl <;> (rw [hta] at hra ⊢; exact hra)
        obtain ⟨kE, hkE, -⟩ := Vm.findClass_spec k3
        refine W.aast (v := ad X b) hx hb c1 (fun q z => by cases z) (fun z => by cases z) k1 k2 rfl hkE ⟨fun z => inb_vp hi (Or.inl z), by rw [arrV_size]; exact hi.2⟩ d1 (fun q z => by rw [d3] at z; cases z) (by rw [d2]; exact hkC) (by rw [d2]; exact hasg _ _ k3 hcls.1) rfl rfl hd fun H' e1 e2 e3 => ?_
        exact hK _ _ _ H _ _ _ (P.ast (k := i.toNatClampNeg) (v := rfP (some b)) hat rfl rfl rfl (fun b hb => same_sR hb) (fun j => ev_sR (by rw [hta]; exact h3)) e1 e2 e3) L (mem_app B1 (ad_le g2)) B2 B3
      have same : ∀ ta, isTg (hT h b) = true → pC (hT h b) = aName ta → ∀ comp c0, s.vm.findClass (aName ta) = some comp → s.vm.findClass (pC (hT h b)) = some c0 → s.vm.assignable c0 comp = true := by
        intro ta htb hn comp c0 h1 h2
        rw [hn] at h2
        cases h1.symm.trans h2
        have hcls := (hKU.1 _ htb).2
        have : s.vm.findClass (pC (hT h b)) = some (xD X (hT h b)) := hcls.1
        rw [hn] at this
        cases this.symm.trans h1
        exact va_assign hcls
      rcases hcase with ⟨z1, z2⟩ | ⟨z1, z2⟩ | ⟨z1, z2⟩
      · have hb' : isTg (hT h b) = true := by rw [z2]; rfl
        exact key 110 z1 (Or.inl rfl) hb' (same 110 hb' (by rw [z2]; rfl))
      · have h6 : hT h b = 2 ∨ hT h b = 3 ∨ hT h b = 4 ∨ hT h b = 5 ∨ hT h b = 7 ∨ hT h b = 10 := by omega
        obtain ⟨k1, k2⟩ := bk_ok _ h6
        refine key 111 z1 (Or.inr (Or.inl rfl)) k2 (fun comp c0 h1 h2 => ?_)
        obtain ⟨c0', t1, f1, f2, f3⟩ := Cond.castable_spec (va_Nw.use (A := args) rfl (hKU.2.2.2.1 _ k1))
        cases h1.symm.trans f2
        cases h2.symm.trans f1
        exact f3
      · have hb' : isTg (hT h b) = true := by rw [z2]; rfl
        exact key 112 z1 (Or.inr (Or.inr rfl)) hb' (same 112 hb' (by rw [z2]; rfl))
    · exact H.elim
  · cases ho
theorem sd_getstatic {X : CX} {KS : CX → State → Prop} {p : Program} {l : Launch} {e : Env} {R : Room} {s : State} {m : MethodId} {args : Array Value} {below : List Frame} {meth : Method} {c : Code} {nL n0 u0 : Nat} {Q : State → Prop} {cc : ByteArray} {own : String} {ini : Bool} {pcOf : Nat → Nat} {pc len pl : Nat} {raw : Instr} {call : Nat → List Value → PH → (Option Value → PH → Prop) → Prop} {jump : Nat → List Value → List Value → PH → Prop} {fin : Option Value → PH → Prop} {rk : Nat} {K : List Value → List Value → PH → Prop} {ls st : List Value} {h : PH} {k : Nat} (hx : p.tables.exec = Jvm.exec) (hb : c.code = cc) (hd : decode cc pc = .ok (raw, len)) (ho : okI own ini nL pcOf pc raw len pl (.getstatic k) = true) (hK : ∀ ls st h, K ls st h → GoW X p l e R s m args below meth c nL n0 u0 Q (pc + len) ls st h) (hown : s.vm.findClass own = some m.cls) (hts : ∀ w ∈ lw_good, w.before args s = true) (hKU : KU X KS s) (H : wpI call jump fin rk (.getstatic k) K ls st h) : GoW X p l e R s m args below meth c nL n0 u0 Q pc ls st h := by
  simp only [wpI] at H
  obtain ⟨ht, H⟩ := H
  simp only [okI] at ho
  split at ho
  · rename_i i
    simp only [Bool.and_eq_true, beq_iff_eq, Bool.or_eq_true, decide_eq_true_eq] at ho
    obtain ⟨⟨⟨rfl, hw⟩, hk1⟩, hk5⟩ := ho
    intro H0 locs lsM P L B1 B2 B3
    have kk := hK _ _ _ H _ _ _ P L B1 B2 B3
    obtain ⟨cf, kf, fi, f, a, cell, h1, h2, h3, h4, h5, h6, h7, h8⟩ := hKU.2.2.2.2.2.1 k hk1 hk5
    have hk : ad X k = xo X k := by unfold ad; rw [if_pos (by omega)]
    have hcell : H0[a]? = some cell := by rw [P.2.2.1 a (Nat.lt_of_not_le h8)]; exact h5
    have kk' : W p l e R s m args below meth c H0 locs (hN h - n0) (hU h - u0) Q (F0 m (pc + 3) lsM (.ref (xo X k) :: st.map (rnv X))) := by
      have e1 : (Value.ref k :: st).map (rnv X) = .ref (xo X k) :: st.map (rnv X) := by
        show Value.ref (ad X k) :: _ = _
        rw [hk]
      rw [e1] at kk
      exact kk
    rcases hw with hw | hw
    · exact W.gets hx hb hown (hts _ (wGd_mem hw)) h1 h2 h3 h4 hcell (fun z => by rw [z] at h6; cases h6) h7 rfl hd kk'
    · exact va_WgetsN hx hb hown (va_Nw.use rfl (hKU.2.2.1 _ (wNs_mem hw))) h1 h2 h3 h4 hcell (fun z => by rw [z] at h6; cases h6) h7 rfl hd kk'
  · cases ho
theorem sd_new {X : CX} {KS : CX → State → Prop} {p : Program} {l : Launch} {e : Env} {R : Room} {s : State} {m : MethodId} {args : Array Value} {below : List Frame} {meth : Method} {c : Code} {nL n0 u0 : Nat} {Q : State → Prop} {cc : ByteArray} {own : String} {ini : Bool} {pcOf : Nat → Nat} {pc len pl : Nat} {raw : Instr} {call : Nat → List Value → PH → (Option Value → PH → Prop) → Prop} {jump : Nat → List Value → List Value → PH → Prop} {fin : Option Value → PH → Prop} {rk : Nat} {K : List Value → List Value → PH → Prop} {ls st : List Value} {h : PH} {n : Nat} (hx : p.tables.exec = Jvm.exec) (hb : c.code = cc) (hd : decode cc pc = .ok (raw, len)) (ho : okI own ini nL pcOf pc raw len pl (.new n) = true) (hK : ∀ ls st h, K ls st h → GoW X p l e R s m args below meth c nL n0 u0 Q (pc + len) ls st h) (hown : s.vm.findClass own = some m.cls) (hts : ∀ w ∈ lw_good, w.before args s = true) (hKU : KU X KS s) (hKf : ∀ ls st h, K ls st h → hN h - n0 ≤ R.cells ∧ hU h - u0 ≤ R.slots) (H : wpI call jump fin rk (.new n) K ls st h) : GoW X p l e R s m args below meth c nL n0 u0 Q pc ls st h := by
  simp only [wpI] at H
  obtain ⟨-, -, H⟩ := H
  simp only [okI, Bool.and_eq_true, decide_eq_true_eq] at ho
  obtain ⟨⟨hT0, hnf⟩, ho⟩ := ho
  split at ho
  · rename_i i
    simp only [Bool.and_eq_true, beq_iff_eq] at ho
    obtain ⟨rfl, hw⟩ := ho
    intro H0 locs lsM P L B1 B2 B3
    have hf := hKf _ _ _ H
    obtain ⟨f1, f2⟩ := hf
    have f1 : hN h + 1 - n0 ≤ R.cells := f1
    have f2 : hU h + n % 64 - u0 ≤ R.slots := f2
    have hKn := hKU.1 _ hT0
    refine W.newcK hx hb hown (hts _ (wGd_mem hw)) (hts _ (inst_ok _ hT0).1) (hts _ (inst_ok _ hT0).2) rfl hd (by omega) (by rw [← hnf]; omega) hKn.2.1 rfl fun H1 kC hkC e1 z1 o1 => ?_
    have hq : H0.size = ad X (hN h) := by rw [ad_ge P.1, P.2.1]
    have kk := hK _ _ _ H H1 locs lsM (P.new z1 o1 ?_) L B1 (by show n0 ≤ hN h + 1; omega) (by show u0 ≤ hU h + _; omega)
    · have e2 : hN (nC h (n / 64) (n % 64)) - n0 = hN h - n0 + 1 := by show hN h + 1 - n0 = _; omega
      have e3 : hU (nC h (n / 64) (n % 64)) - u0 = hU h - u0 + pNf (n / 64) := by show hU h + n % 64 - u0 = _; rw [← hnf]; omega
      rw [e2, e3] at kk
      have e4 : (Value.ref (hN h) :: st).map (rnv X) = .ref H0.size :: st.map (rnv X) := by
        show Value.ref (ad X (hN h)) :: _ = _
        rw [← hq]
      rw [e4] at kk
      exact kk
    · have ht : hT (nC h (n / 64) (n % 64)) (hN h) = n / 64 := by simp [nC, hT, hN]
      refine Or.inl ⟨by rw [ht]; exact hT0, P.1, ?_⟩
      rw [ht, ← hq]
      refine (u_born _ hts (in_lay _ hT0) hKn hkC e1 (ty_ok _ hT0)).to (fun k hk => ?_)
      rcases kd_ok _ hT0 k hk with ⟨ty, kd⟩ | ⟨ty, kd⟩ | ⟨ty, kd⟩ | ⟨kd, ty⟩
      · rw [ty]; simp [svP, kd, nC, hI, hN, defaultValue, rnv]
      · rw [ty]; simp [svP, kd, nC, hI, hN, defaultValue, rnv]
      · rw [ty]; simp [svP, kd, nC, hJ, hN, defaultValue, rnv]
      · have : svP (nC h (n / 64) (n % 64)) (n / 64) (hN h) k = .null := by simp [svP, kd, nC, hR, hN, rfP]
        rw [this]
        revert ty
        cases pTy (n / 64) k <;> simp [FieldType.isReference, defaultValue, rnv]
  · cases ho
theorem sd_newarray {X : CX} {KS : CX → State → Prop} {p : Program} {l : Launch} {e : Env} {R : Room} {s : State} {m : MethodId} {args : Array Value} {below : List Frame} {meth : Method} {c : Code} {nL n0 u0 : Nat} {Q : State → Prop} {cc : ByteArray} {own : String} {ini : Bool} {pcOf : Nat → Nat} {pc len pl : Nat} {raw : Instr} {call : Nat → List Value → PH → (Option Value → PH → Prop) → Prop} {jump : Nat → List Value → List Value → PH → Prop} {fin : Option Value → PH → Prop} {rk : Nat} {K : List Value → List Value → PH → Prop} {ls st : List Value} {h : PH} {t : ArrayType} (hx : p.tables.exec = Jvm.exec) (hb : c.code = cc) (hd : decode cc pc = .ok (raw, len)) (ho : okI own ini nL pcOf pc raw len pl (.newarray t) = true) (hK : ∀ ls st h, K ls st h → GoW X p l e R s m args below meth c nL n0 u0 Q (pc + len) ls st h) (hown : s.vm.findClass own = some m.cls) (hts : ∀ w ∈ lw_good, w.before args s = true) (hKU : KU X KS s) (hKf : ∀ ls st h, K ls st h → hN h - n0 ≤ R.cells ∧ hU h - u0 ≤ R.slots) (H : wpI call jump fin rk (.newarray t) K ls st h) : GoW X p l e R s m args below meth c nL n0 u0 Q pc ls st h := by
  simp only [wpI] at H
  simp only [okI] at ho
  split at ho
  · rename_i t'
    simp only [Bool.and_eq_true, beq_iff_eq, decide_eq_true_eq] at ho
    obtain ⟨⟨⟨rfl, rfl⟩, hw⟩, hty⟩ := ho
    split at H
    · rename_i n st'
      obtain ⟨hn0, hn1, htag, H⟩ := H
      intro H0 locs lsM P L B1 B2 B3
      obtain ⟨f1, f2⟩ := hKf _ _ _ H
      have f1 : hN h + 1 - n0 ≤ R.cells := f1
      have f2 : hU h + n.toNatClampNeg - u0 ≤ R.slots := f2
      have hat : isAT (tagOf t') = true := by revert htag; cases t' <;> simp [tagOf, isAT]
      have hcb : componentBytes (newarray.typeOf t') ≤ 8 := by cases t' <;> decide
      have hn2 : ¬ n < 0 := by rw [Int32.lt_iff_toInt_lt]; rw [Int32.le_iff_toInt_le] at hn0; omega
      refine va_newaK (h := H0.size) hx hb (hts _ (wGd_mem hw)) rfl hd rfl hn2 rfl (Nat.le_trans (Nat.mul_le_mul hn1 hcb) (by decide)) (by omega) (by omega) rfl fun H1 cA e1 z1 o1 hAr hNm => ?_
      have hq : H0.size = ad X (hN h) := by rw [ad_ge P.1, P.2.1]
      have hcA : cA = xA X (tagOf t') := by
        have hra := (hKU.2.1 _ hat).2
        rw [hty] at hNm
        have : s.vm.findClass ("[" ++ (pA (tagOf t')).toString) = some (xA X (tagOf t')) := by
          revert htag hra
          cases t' <;> simp only [tagOf, ne_eq, not_true_eq_false, false_implies] <;> exact fun _ z => z
        exact Option.some.inj (hNm.symm.trans this)
      have kk := hK _ _ _ H H1 locs lsM (P.new z1 o1 ?_) L B1 (by show n0 ≤ hN h + 1; omega) (by show u0 ≤ hU h + _; omega)
      · have e2 : hN (nC h (tagOf t') n.toNatClampNeg) - n0 = hN h - n0 + 1 := by show hN h + 1 - n0 = _; omega
        have e3 : hU (nC h (tagOf t') n.toNatClampNeg) - u0 = hU h - u0 + n.toNatClampNeg := by show hU h + _ - u0 = _; omega
        rw [e2, e3] at kk
        have e4 : (Value.ref (hN h) :: st').map (rnv X) = .ref H0.size :: st'.map (rnv X) := by
          show Value.ref (ad X (hN h)) :: _ = _
          rw [← hq]
        rw [e4] at kk
        exact kk
      · have ht : hT (nC h (tagOf t') n.toNatClampNeg) (hN h) = tagOf t' := by simp [nC, hT, hN]
        have hl : hL (nC h (tagOf t') n.toNatClampNeg) (hN h) = n.toNatClampNeg := by simp [nC, hL, hN]
        refine Or.inr (Or.inl ⟨by rw [ht]; exact hat, P.1, ?_⟩)
        rw [ht, hl, ← hq, e1, hcA]
        congr 2
        funext j
        revert htag
        cases t' <;> simp [tagOf, evP, nC, hI, hJ, hN, rnv, newarray.typeOf, defaultValue]
    · exact H.elim
  · cases ho
theorem sd_anewarray {X : CX} {KS : CX → State → Prop} {p : Program} {l : Launch} {e : Env} {R : Room} {s : State} {m : MethodId} {args : Array Value} {below : List Frame} {meth : Method} {c : Code} {nL n0 u0 : Nat} {Q : State → Prop} {cc : ByteArray} {own : String} {ini : Bool} {pcOf : Nat → Nat} {pc len pl : Nat} {raw : Instr} {call : Nat → List Value → PH → (Option Value → PH → Prop) → Prop} {jump : Nat → List Value → List Value → PH → Prop} {fin : Option Value → PH → Prop} {rk : Nat} {K : List Value → List Value → PH → Prop} {ls st : List Value} {h : PH} {t : Nat} (hx : p.tables.exec = Jvm.exec) (hb : c.code = cc) (hd : decode cc pc = .ok (raw, len)) (ho : okI own ini nL pcOf pc raw len pl (.anewarray t) = true) (hK : ∀ ls st h, K ls st h → GoW X p l e R s m args below meth c nL n0 u0 Q (pc + len) ls st h) (hown : s.vm.findClass own = some m.cls) (hts : ∀ w ∈ lw_good, w.before args s = true) (hKU : KU X KS s) (hKf : ∀ ls st h, K ls st h → hN h - n0 ≤ R.cells ∧ hU h - u0 ≤ R.slots) (H : wpI call jump fin rk (.anewarray t) K ls st h) : GoW X p l e R s m args below meth c nL n0 u0 Q pc ls st h := by
  simp only [wpI] at H
  simp only [okI] at ho
  split at ho
  · rename_i i
    simp only [Bool.and_eq_true, beq_iff_eq, decide_eq_true_eq] at ho
    obtain ⟨⟨⟨rfl, hw⟩, ht1⟩, ht2⟩ := ho
    split at H
    · rename_i n st'
      obtain ⟨hn0, hn1, -, -, H⟩ := H
      intro H0 locs lsM P L B1 B2 B3
      obtain ⟨f1, f2⟩ := hKf _ _ _ H
      have f1 : hN h + 1 - n0 ≤ R.cells := f1
      have f2 : hU h + n.toNatClampNeg - u0 ≤ R.slots := f2
      have h3 : t = 110 ∨ t = 111 ∨ t = 112 := by omega
      have hat : isAT t = true := by rcases h3 with rfl | rfl | rfl <;> rfl
      have hn2 : ¬ n < 0 := by rw [Int32.lt_iff_toInt_lt]; rw [Int32.le_iff_toInt_le] at hn0; omega
      have hw' : Cond.classLink own i (aName t) ∈ lw_good := by
        rcases h3 with rfl | rfl | rfl <;> exact wGd_mem hw
      have hra : ∃ (kA : Class) (comp : ClassId), s.vm.classes[xA X t]? = some kA ∧ kA.kind = .array comp (.object (aName t)) ∧ s.vm.findClass (aName t) = some comp ∧ s.vm.findClass ("[" ++ (FieldType.object (aName t)).toString) = some (xA X t) := by
        have := (hKU.2.1 _ hat).2
        rcases h3 with rfl | rfl | rfl <;> exact this
      obtain ⟨kA', comp', k1, k2, k3, k4⟩ := hra
      refine W.anew hx hb hown (hts _ hw') (va_AO.use (hKU.2.2.2.2.1 t h3)) rfl hd rfl hn2 (by omega) (by omega) (by omega) fun cA kA comp g1 g2 g3 g4 => ?_
      have hcA : cA = xA X t := Option.some.inj (g1.symm.trans k4)
      subst hcA
      have hq : H0.size = ad X (hN h) := by rw [ad_ge P.1, P.2.1]
      generalize hH1 : H0.push ({ cls := xA X t, slots := Array.replicate n.toNatClampNeg .null, vm := .none } : Cell) = H1
      have z1 : H1.size = H0.size + 1 := by rw [← hH1, Array.size_push]
      have e1 : H1[H0.size]? = some (arrV (xA X t) n.toNatClampNeg (fun _ => .null)) := by rw [← hH1, Array.getElem?_push_size, ← arrV_new]
      have o1 : ∀ q : Nat, q < H0.size → H1[q]? = H0[q]? := fun q hq => by rw [← hH1, Array.getElem?_push, if_neg (Nat.ne_of_lt hq)]
      have kk := hK _ _ _ H H1 locs lsM (P.new z1 o1 ?_) L B1 (by show n0 ≤ hN h + 1; omega) (by show u0 ≤ hU h + _; omega)
      · have e2 : hN (nC h t n.toNatClampNeg) - n0 = hN h - n0 + 1 := by show hN h + 1 - n0 = _; omega
        have e3 : hU (nC h t n.toNatClampNeg) - u0 = hU h - u0 + n.toNatClampNeg := by show hU h + _ - u0 = _; omega
        rw [e2, e3] at kk
        have e4 : (Value.ref (hN h) :: st').map (rnv X) = .ref H0.size :: st'.map (rnv X) := by
          show Value.ref (ad X (hN h)) :: _ = _
          rw [← hq]
        rw [e4] at kk
        exact kk
      · have ht : hT (nC h t n.toNatClampNeg) (hN h) = t := by simp [nC, hT, hN]
        have hl : hL (nC h t n.toNatClampNeg) (hN h) = n.toNatClampNeg := by simp [nC, hL, hN]
        refine Or.inr (Or.inl ⟨by rw [ht]; exact hat, P.1, ?_⟩)
        rw [ht, hl, ← hq, e1]
        congr 2
        funext j
        rcases h3 with rfl | rfl | rfl <;> simp [evP, nC, hR, hN, rnv, rfP]
    · exact H.elim
  · cases ho
end
end
section
section

def wsOf (m : Nat) : List Cond := .code (pnm m) (pcd m) (pnl m) (pret m) :: lw_good
def rmOf (d mc ms : Nat) : Room := { frames := d + 6, cells := mc, slots := ms, locals := 100 * (d + 6) }
def PcOf (X : CX) (KS : CX → State → Prop) (a : List Value) (h : PH) : Array Value → State → Prop := fun v U => v = (a.map (rnv X)).toArray ∧ Pic X h U.heap ∧ KU X KS U
def QcOf (X : CX) (r : Option Value) (h' : PH) : Array Value → State → Outcome → State → Prop := fun _ _ o t => o = .returned (r.map (rnv X)) ∧ Pic X h' t.heap
theorem KU.same {X : CX} {KS : CX → State → Prop} (hKS : ∀ u U : State, u.vm = U.vm → KS X u → KS X U) {u U : State} (hv : u.vm = U.vm) (h : KU X KS u) : KU X KS U := by
  obtain ⟨h1, h2, h3, h4, h5, h6, h7, h8, h9⟩ := h
  have hA : u.vm.Alike U.vm := by rw [hv]; exact Vm.Alike.refl _
  refine ⟨fun t ht => u_Kn_moved hA (h1 t ht), fun t ht => ⟨arrOfT_moved hA (h2 t ht).1, (h2 t ht).2.moved hA⟩, fun w hw => ?_, fun C hC => (h4 C hC).same rfl hv, fun t ht => (h5 t ht).moved hA, fun k a b => (h6 k a b).moved hA, fun a ha ht => ?_, h8, hKS _ _ hv h9⟩
  · have hn := (List.mem_filter.mp hw).2
    have : w.onTables = true := by
      revert hn
      unfold isNest
      split <;> first | exact fun _ => rfl | exact fun z => (by cases z)
    exact (h3 w hw).same this hv
  · obtain ⟨cell, q1, q2, q3, q4⟩ := h7 a ha ht
    exact ⟨cell, q1, q2, State.isArrayOf_alike hA q3, q4⟩
theorem take_drop : ∀ (n : Nat) (st acc : List Value), n ≤ st.length → st = ((takeR n st acc).take n).reverse ++ dropN n st ∧ (takeR n st acc).drop n = acc ∧ (takeR n st acc).length = n + acc.length
  | 0, st, acc, _ => by simp [takeR, dropN]
  | n + 1, [], acc, h => by simp at h
  | n + 1, v :: l, acc, h => by
    obtain ⟨h1, h2, h3⟩ := take_drop n l (v :: acc) (by simpa using h)
    have h4 : takeR (n + 1) (v :: l) acc = takeR n l (v :: acc) := rfl
    have h5 : dropN (n + 1) (v :: l) = dropN n l := rfl
    rw [h4, h5]
    have h6 : (takeR n l (v :: acc)).take (n + 1) = (takeR n l (v :: acc)).take n ++ [v] := by
      have hz : takeR n l (v :: acc) = (takeR n l (v :: acc)).take n ++ v :: acc := by
        conv => lhs; rw [← List.take_append_drop n (takeR n l (v :: acc)), h2]
      have hlen : ((takeR n l (v :: acc)).take n).length = n := by simp [h3]
      generalize (takeR n l (v :: acc)).take n = A at hz hlen ⊢
      rw [hz, List.take_append, hlen, List.take_of_length_le (by omega)]
      simp
    refine ⟨?_, ?_, by rw [h3]; simp; omega⟩
    · rw [h6]
      simp
      exact h1
    · have := congrArg (List.drop 1) h2
      rw [List.drop_drop] at this
      simpa using this
theorem take_drop0 {n : Nat} {st : List Value} (h : n ≤ st.length) : st = (takeR n st []).reverse ++ dropN n st ∧ (takeR n st []).length = n := by
  obtain ⟨h1, h2, h3⟩ := take_drop n st [] h
  have h4 : (takeR n st []).take n = takeR n st [] := by
    apply List.take_of_length_le
    simp at h3
    omega
  rw [h4] at h1
  exact ⟨h1, by simpa using h3⟩
theorem drop_some : ∀ (n : Nat) (st : List Value) (v : Value) (l : List Value), dropN n st = v :: l → n ≤ st.length
  | 0, _, _, _, _ => Nat.zero_le _
  | n + 1, [], _, _, h => by simp [dropN] at h
  | n + 1, _ :: st, v, l, h => by
    have := drop_some n st v l h
    simpa using this
theorem take_drop1 {n : Nat} {st : List Value} {v : Value} {l : List Value} (h : dropN n st = v :: l) : st = (takeR n st []).reverse ++ v :: l ∧ (takeR n st []).length = n := by
  have := take_drop0 (drop_some n st v l h)
  rw [h] at this
  exact this
theorem map_stack {X : CX} {a st' : List Value} : (a.reverse ++ st').map (rnv X) = (a.map (rnv X)).reverse ++ st'.map (rnv X) := by simp
/-- what the call of a method asks, and what it gives -/
def CallOK (X : CX) (KS : CX → State → Prop) (l : Launch) (R : Room) (m' : Nat) (a : List Value) (g : PH) (J : Option Value → PH → Prop) : Prop :=
  ∃ d', d' + 7 ≤ R.frames ∧ 100 * (d' + 7) ≤ R.locals ∧ ∃ r1 g1, hN g ≤ hN g1 ∧ hU g ≤ hU g1 ∧ Met l (pnm m') (wsOf m') (rmOf d' (hN g1 - hN g) (hU g1 - hU g)) (PcOf X KS a g) (QcOf X r1 g1) (hN g1 - hN g) (hU g1 - hU g) (fun q => xs0 X ≤ q) ∧ J r1 g1
theorem after_call {X : CX} {p : Program} {l : Launch} {e : Env} {R : Room} {s : State} {m : MethodId} {args : Array Value} {below : List Frame} {meth : Method} {c : Code} {nL n0 u0 : Nat} {Q : State → Prop} {pc : Nat} {H0 : Heap} {locs : List Loc} {lsM : Array Slot} {st0 : List Value} {h g1 : PH} {r1 : Option Value} {ls st' : List Value} {Qa : State → Outcome → State → Prop}
    (hr : va_Run p l e R s m args below meth c H0 locs (hN h - n0) (hU h - u0) (hN g1 - hN h) (hU g1 - hU h) (F0 m pc lsM st0) (st'.map (rnv X)) Qa (fun q => xs0 X ≤ q)) (hQ : ∀ st oc t, Qa st oc t → oc = .returned (r1.map (rnv X)) ∧ Pic X g1 t.heap)
    (B1 : ∀ q ∈ locs, xs0 X ≤ q.base) (B2 : n0 ≤ hN h) (B3 : u0 ≤ hU h) (hn : hN h ≤ hN g1) (hu : hU h ≤ hU g1) (L : LOK X nL lsM ls) (G2 : GoW X p l e R s m args below meth c nL n0 u0 Q (pc + 3) ls (r1.toList ++ st') g1) : W p l e R s m args below meth c H0 locs (hN h - n0) (hU h - u0) Q (F0 m pc lsM st0) := by
  intro T hT X0
  obtain ⟨v, st₀, t, T', L', h0, X', hL, e1, e2, hq, st⟩ := hr T hT X0
  obtain ⟨hv, hP⟩ := hQ _ _ _ hq
  have hv : v = r1.map (rnv X) := by cases hv; rfl
  rw [show hN h - n0 + (hN g1 - hN h) = hN g1 - n0 by omega, show hU h - u0 + (hU g1 - hU h) = hU g1 - u0 by omega] at X'
  obtain ⟨t', a1, b1⟩ := G2 T'.heap (locs ++ L') lsM (by rw [e1]; exact hP) L (fun q hq => (List.mem_append.mp hq).elim (B1 q) (hL q)) (by omega) (by omega) T' rfl X'
  refine ⟨t', st t' ?_, b1⟩
  have e3 : (r1.toList ++ st').map (rnv X) = v.toList ++ st'.map (rnv X) := by
    rw [hv]
    cases r1 <;> simp
  rw [e3] at a1
  exact a1
theorem blind {X : CX} {KS : CX → State → Prop} (hKS : ∀ u U : State, u.vm = U.vm → KS X u → KS X U) {a : List Value} {g : PH} : FrameBlind (PcOf X KS a g) := fun a' U g' mk h => ⟨h.1, h.2.1, KU.same hKS (u := U) (U := U.calling g' mk a') rfl h.2.2⟩
theorem ws_pay {s : State} {args : Array Value} (hts : ∀ w ∈ lw_good, w.before args s = true) {m' : Nat} (hc : Cond.code (pnm m') (pcd m') (pnl m') (pret m') ∈ lw_good) : ∀ w ∈ wsOf m', ∀ (a' : Array Value) (U : State), s.WarmedH U.vm → w.before a' U = true := by
  intro w hw a' U hW
  have hm : w ∈ lw_good := by
    rcases List.mem_cons.mp hw with rfl | hw
    · exact hc
    · exact hw
  exact word_at hW (lw_good_ok w hm) (hts w hm)
theorem okM_spec {m' : Nat} (h : okM m' = true) : Cond.code (pnm m') (pcd m') (pnl m') (pret m') ∈ lw_good ∧ Cond.initialized (pnm m').cls ∈ lw_good ∧ ((pnm m').cls ≠ "java/lang/invoke/MethodHandle" ∧ (pnm m').cls ≠ "java/lang/invoke/VarHandle") ∧ plainName (pnm m').cls = true ∧ nPar (pnm m').desc = some (m' % 8) ∧ pnl m' ≤ 60 ∧ (if pst m' = true then Cond.static (pnm m') ∈ lw_good else Cond.instanceMethod (pnm m') ∈ lw_good) := by
  simp only [okM, noMH, Bool.and_eq_true, decide_eq_true_eq] at h
  obtain ⟨⟨⟨⟨⟨⟨⟨h1, h2⟩, h3⟩, h4⟩, h5⟩, h6⟩, -⟩, h7⟩ := h
  refine ⟨wGd_mem h1, wGd_mem h2, h3, h4, h5, h6, ?_⟩
  split at h7
  · rename_i z; rw [if_pos z]; exact wGd_mem h7
  · rename_i z; rw [if_neg z]; exact wGd_mem h7
theorem par_spec {d : String} {n : Nat} (h : nPar d = some n) : ∀ sig, parseMethodDescriptor d = some sig → n = sig.parameters.length := by
  intro sig hs
  unfold nPar at h
  rw [hs] at h
  exact (Option.some.inj h).symm
set_option maxRecDepth 100000 in
theorem room_le {z d r : Nat} (hz : z ≤ 60) (h : 100 * (d + 7) ≤ r) : 8 + (z + 11) + 100 * (d + 6) ≤ r := by omega
theorem callB_mk {R : Room} {s : State} {args : Array Value} {own : String} {i m' d' mc ms : Nat} (hts : ∀ w ∈ lw_good, w.before args s = true) (hm : okM m' = true) (hl : (Cond.methodLink own i (pnm m')).before args s = true) (hf : d' + 7 ≤ R.frames) (hlo : 100 * (d' + 7) ≤ R.locals) :
    CallB R s args own i (pnm m') (pcd m') (pnl m') (pret m') (wsOf m') (rmOf d' mc ms) mc ms (m' % 8) := by
  obtain ⟨h1, h2, h3, -, h5, h6, -⟩ := okM_spec hm
  have k1 := ws_pay (m' := m') hts h1
  have k2 : Cond.code (pnm m') (pcd m') (pnl m') (pret m') ∈ wsOf m' := List.mem_cons_self
  have k3 := hts _ h1
  have k4 := hts _ h2
  have k5 := par_spec h5
  have k6 : 8 + (pnl m' + 11) + 100 * (d' + 6) ≤ R.locals := room_le h6 hlo
  exact ⟨rfl, rfl, hf, k6, k1, k2, k3, k4, h3, k5, hl⟩
theorem callN_mk {R : Room} {s : State} {args : Array Value} {own host : String} {i m' d' mc ms : Nat} (hts : ∀ w ∈ lw_good, w.before args s = true) (hm : okM m' = true) (hl : (Cond.methodLinkNest own i (pnm m') host).before args s = true) (hf : d' + 7 ≤ R.frames) (hlo : 100 * (d' + 7) ≤ R.locals) :
    va_CN R s args own i (pnm m') host (pcd m') (pnl m') (pret m') (wsOf m') (rmOf d' mc ms) mc ms (m' % 8) := by
  obtain ⟨h1, h2, h3, -, h5, h6, -⟩ := okM_spec hm
  have k1 := ws_pay (m' := m') hts h1
  have k2 : Cond.code (pnm m') (pcd m') (pnl m') (pret m') ∈ wsOf m' := List.mem_cons_self
  have k3 := hts _ h1
  have k4 := hts _ h2
  have k5 := par_spec h5
  have k6 : 8 + (pnl m' + 11) + 100 * (d' + 6) ≤ R.locals := room_le h6 hlo
  exact ⟨⟨rfl, rfl, hf, k6, k1, k2⟩, k3, k4, h3, k5, hl⟩
theorem sd_invokestatic {X : CX} {KS : CX → State → Prop} {p : Program} {l : Launch} {e : Env} {R : Room} {s : State} {m : MethodId} {args : Array Value} {below : List Frame} {meth : Method} {c : Code} {nL n0 u0 : Nat} {Q : State → Prop} {cc : ByteArray} {own : String} {ini : Bool} {pcOf : Nat → Nat} {pc len pl : Nat} {raw : Instr} {call : Nat → List Value → PH → (Option Value → PH → Prop) → Prop} {jump : Nat → List Value → List Value → PH → Prop} {fin : Option Value → PH → Prop} {rk : Nat} {K : List Value → List Value → PH → Prop} {ls st : List Value} {h : PH} {m' : Nat} (hx : p.tables.exec = Jvm.exec) (hb : c.code = cc) (hd : decode cc pc = .ok (raw, len)) (ho : okI own ini nL pcOf pc raw len pl (.invokestatic m') = true) (hK : ∀ ls st h, K ls st h → GoW X p l e R s m args below meth c nL n0 u0 Q (pc + len) ls st h) (hown : s.vm.findClass own = some m.cls) (hts : ∀ w ∈ lw_good, w.before args s = true) (hKU : KU X KS s) (hKf : ∀ ls st h, K ls st h → hN h - n0 ≤ R.cells ∧ hU h - u0 ≤ R.slots) (hml : c.maxLocals = nL) (hC : ∀ m' a g J, okM m' = true → call m' a g J → CallOK X KS l R m' a g J) (hKS : ∀ u U : State, u.vm = U.vm → KS X u → KS X U) (hKW : ∀ u U : State, u.WarmedH U.vm → KS X u → KS X U) (H : wpI call jump fin rk (.invokestatic m') K ls st h) : GoW X p l e R s m args below meth c nL n0 u0 Q pc ls st h := by
  simp only [wpI] at H
  obtain ⟨hlen, hos, H⟩ := H
  simp only [okI, Bool.and_eq_true] at ho
  obtain ⟨⟨hm, hst⟩, ho⟩ := ho
  split at ho
  · rename_i i
    simp only [Bool.and_eq_true, beq_iff_eq, Bool.or_eq_true] at ho
    obtain ⟨rfl, hw⟩ := ho
    obtain ⟨d', f1, f2, r1, g1, n1, n2, hM, HJ⟩ := hC _ _ _ _ hm H
    have fit := hKf _ _ _ HJ
    obtain ⟨e1, e2⟩ := take_drop0 hlen
    have hstat : (Cond.static (pnm m')).before args s = true := by
      have := (okM_spec hm).2.2.2.2.2.2
      rw [if_pos hst] at this
      exact hts _ this
    intro H0 locs lsM P L B1 B2 B3
    have hstack : (st.map (rnv X)) = ((takeR (m' % 8) st []).map (rnv X)).reverse ++ (dropN (m' % 8) st).map (rnv X) := by
      conv => lhs; rw [e1]
      exact map_stack
    have hp : PreS s H0 (PcOf X KS (takeR (m' % 8) st []) h) ((takeR (m' % 8) st []).map (rnv X)) := ⟨blind hKS, fun U hU hW => ⟨rfl, by rw [hU]; exact P, hKU.warm hKW hW⟩⟩
    have hcells : hN h - n0 + (hN g1 - hN h) ≤ R.cells ∧ hU h - u0 + (hU g1 - hU h) ≤ R.slots := by omega
    rcases hw with hw | hw
    · exact after_call (va_runS (n := m' % 8) ⟨hx, hb, hml, hown, hts⟩ hM ⟨callB_mk hts hm (hts _ (wGd_mem hw)) f1 f2, hstat⟩ hp rfl (by simpa using e2) L.1 hstack (by show 2 * 0 + _ ≤ 8; have := okStack_sum (X := X) hos; omega) hd hcells) (fun _ _ _ q => q) B1 B2 B3 n1 n2 L (hK _ _ _ HJ)
    · exact after_call (va_runSN (n := m' % 8) ⟨hx, hb, hml, hown, hts⟩ hM ⟨callN_mk hts hm (va_Nw.use rfl (hKU.2.2.1 _ (wNs_mem hw))) f1 f2, hstat, trivial⟩ hp rfl (by simpa using e2) L.1 hstack (by show 2 * 0 + _ ≤ 8; have := okStack_sum (X := X) hos; omega) hd hcells) (fun _ _ _ q => q) B1 B2 B3 n1 n2 L (hK _ _ _ HJ)
  · cases ho

section SUP
variable {p : Program} {l : Launch} {e : Env} {R : Room} {s : State} {m : MethodId} {args : Array Value} {below : List Frame} {meth : Method} {c : Code}
theorem callSU2 {T : State} {locs : List Loc} {cells slots : Nat} (X : Stand p l e R s m args below meth c T locs cells slots) (hexec : p.tables.exec = Jvm.exec) {own : String} {index : Nat} {x y : MethodName} {bytes : ByteArray} {maxL : Nat} {ret : Option FieldType}
    (hown : s.vm.findClass own = some m.cls) (hlink : (Cond.methodLink own index x).before args s = true) (hxn : x.name = y.name) (hxd : x.desc = y.desc) (hsame : (Cond.sameMethod x.cls y.cls y.name y.desc).before args s = true) (hsup : (Cond.superclass own x.cls).before args s = true) (hup : x.cls = y.cls ∨ (Cond.superclass x.cls y.cls).before args s = true)
    (hinst : (Cond.instanceMethod y).before args s = true) (hcode : (Cond.code y bytes maxL ret).before args s = true) (hno : y.name ≠ "<init>")
    {W : Nat} {Pre : Pt → Array Value → Prop} {Post : Pt → Array Value → Option Value → Pt → Prop} (hK : Back l R p e below s args y 3 W Pre Post)
    {b : Addr} {cellB : Cell} {kB : Class} (hcell : T.heap[b]? = some cellB) (hobj : cellB.vm.isStatics = false) (hkB : s.vm.classes[cellB.cls]? = some kB)
    {g : JFrame} (hg : g.method = m) (hsize : g.locals.size = c.maxLocals) {argsL rest : List Value} (hlen : ∀ sig, parseMethodDescriptor y.desc = some sig → argsL.length = sig.parameters.length)
    (hstack : g.stack = argsL.reverse ++ .ref b :: rest) (hW : 2 * g.monitorRoom + (rest.map fun v => v.category).sum ≤ W) (hdg : decode c.code g.pc = .ok (.invokespecial index, 3))
    (hpre : ∀ vm₁, s.WarmedH vm₁ → Pre ⟨T.setVm vm₁, locs, cells, slots⟩ (Value.ref b :: argsL).toArray) :
    ∃ (v : Option Value) (vm₁ : Vm) (B : Pt), s.WarmedH vm₁ ∧ Stand p l e R s m args below meth c B.U B.locs B.cells B.slots ∧ Post ⟨T.setVm vm₁, locs, cells, slots⟩ (Value.ref b :: argsL).toArray v B ∧
      ∀ target, Steps p.tables e below (B.U.setTop { g with pc := g.pc + 3, stack := v.toList ++ rest }) target → Steps p.tables e below (T.setTop g) target := by
  obtain ⟨mk, methM, hnamed, hmethM, hstM, habM⟩ := Cond.instanceMethod_spec hinst
  obtain ⟨methM', cM, hmethM', -, -, -, -, -, -, hsigM⟩ := Cond.code_spec hnamed hcode
  cases hmethM.symm.trans hmethM'
  obtain ⟨ps, dk, kp, hps, hdk, hkp, hsuper, -, -, hnid⟩ := Cond.superclass_spec hown hsup
  have hn : s.methodNamed? ⟨y.cls, x.name, x.desc⟩ = some mk := by rw [hxn, hxd]; exact hnamed
  have hsub : s.vm.isSubclass ps mk.cls = true := by
    have hfy := findClass_of_methodNamed hnamed
    rcases hup with hup | hup
    · have hpm : ps = mk.cls := Option.some.inj (hps.symm.trans (by rw [hup]; exact hfy))
      rw [hpm]; simp [Vm.isSubclass, Vm.isSubclassAux]
    · obtain ⟨p2, k2, kp2, hp2, hk2, hkp2, hs2, -⟩ := Cond.superclass_spec hps hup
      have hpm : p2 = mk.cls := Option.some.inj (hp2.symm.trans hfy)
      subst hpm
      have hpos : 0 < s.vm.classes.size := Nat.lt_of_le_of_lt (Nat.zero_le _) (Array.getElem?_eq_some_iff.mp hk2).1
      obtain ⟨z, hz⟩ : ∃ z, s.vm.classes.size = z + 1 := ⟨s.vm.classes.size - 1, by omega⟩
      unfold Vm.isSubclass
      rw [hz]
      unfold Vm.isSubclassAux
      rw [hk2]
      simp only [hs2]
      unfold Vm.isSubclassAux
      simp
  obtain ⟨vm₁, X₁, hstep₁⟩ := X.invokespecialUp hexec hown hlink (by rw [hxn, hxd]; exact hsame) hn hmethM hstM habM (by rw [hxn]; exact hno) hdk hnid hps hsuper hsub (a := b) (cell := cellB) hcell
    (fun z h => by rw [h] at hobj; cases hobj) hkB (g := g) hg (argsL := argsL) (rest := rest) (hlen _ hsigM) hstack hdg
  obtain ⟨v, B, X', hpost, hsteps⟩ := hK m meth c ⟨T.setVm vm₁, locs, cells, slots⟩ { g with stack := rest } (.invokespecial index) mk (Value.ref b :: argsL).toArray X₁ hg hsize hdg hW (X₁.named hnamed) (hpre vm₁ X₁.warmed)
  exact ⟨v, vm₁, B, X₁.warmed, X', hpost, fun target h => hstep₁ _ (by rw [doInvoke_state]; exact hsteps.trans h)⟩
theorem runSU2 {H : Heap} {locs : List Loc} {cells slots : Nat} {x y : MethodName} {bytes cc : ByteArray} {maxL nL mc ms n index : Nat} {ret : Option FieldType} {ws : List Cond} {rm : Room} {Pc : Array Value → State → Prop} {Qc : Array Value → State → Outcome → State → Prop} {free : Addr → Prop} {Ts : List Cond} {own C : String} {cC : ClassId} {b : Addr} {As rest : List Value} {g : JFrame}
    (hat : ClassAt s C cC) (S : CallFix p m c cc nL s args Ts own) (hM : Met l y ws rm Pc Qc mc ms free) (cw : rm.cells = mc ∧ rm.slots = ms ∧ rm.frames + 1 ≤ R.frames ∧ 8 + (maxL + 11) + rm.locals ≤ R.locals ∧ (∀ w ∈ ws, ∀ (a' : Array Value) (U : State), s.WarmedH U.vm → w.before a' U = true) ∧ Cond.code y bytes maxL ret ∈ ws) (hcode : (Cond.code y bytes maxL ret).before args s = true) (hini : (Cond.initialized y.cls).before args s = true) (hlen : ∀ sig, parseMethodDescriptor y.desc = some sig → n = sig.parameters.length) (hl1 : (Cond.methodLink own index x).before args s = true) (hxn : x.name = y.name) (hxd : x.desc = y.desc) (hl2 : (Cond.sameMethod x.cls y.cls y.name y.desc).before args s = true) (hl3 : (Cond.superclass own x.cls).before args s = true) (hup : x.cls = y.cls ∨ (Cond.superclass x.cls y.cls).before args s = true) (hl4 : (Cond.instanceMethod y).before args s = true) (hno : y.name ≠ "<init>") (hp : PreV s H C b Pc As)
    (hg : g.method = m) (hn : As.length = n) (hsize : g.locals.size = nL) (hstack : g.stack = As.reverse ++ .ref b :: rest) (hW : 2 * g.monitorRoom + (rest.map fun v => v.category).sum ≤ 8) (hdg : decode cc g.pc = .ok (.invokespecial index, 3)) (hf : cells + mc ≤ R.cells ∧ slots + ms ≤ R.slots) :
    va_Run p l e R s m args below meth c H locs cells slots mc ms g rest (Qc (Value.ref b :: As).toArray) (free) := by
  obtain ⟨hrc, hrs, hfr, hlo, hws, hcw⟩ := cw
  have hK : Back l R p e below s args y 3 8 (PreOf R mc ms Pc) (PostOf Qc mc ms free) := back_of (bytes := bytes) (maxL := maxL) (ret := ret) hM hp.1 hrc hrs hfr hlo hws hcw (fun a' U hW => word_at hW (Or.inl (by first | rfl | simp [Cond.onTables, Cond.keeps, Cond.steady])) hini)
  obtain ⟨hx, hb, hml, ho, -⟩ := S
  obtain ⟨-, ⟨cellB, hcB, hoB, hclB⟩, hPc⟩ := hp
  obtain ⟨hfc, kB, hkB, -⟩ := hat
  cases hfc.symm.trans hclB
  intro T hT X
  obtain ⟨v, vm₁, ⟨U', l2, c2, s2⟩, hW₁, X', ⟨g', mk, t, L, e1, e2, hq, h1, hL, h2, h3⟩, st⟩ := callSU2 X hx (bytes := bytes) (maxL := maxL) (ret := ret) ho hl1 hxn hxd hl2 hl3 hup hl4 hcode hno hK (by rw [hT]; exact hcB) hoB hkB hg (hsize.trans hml.symm) (argsL := As) (rest := rest) (fun sig h => hn.trans (hlen sig h)) hstack hW (by rw [hb]; exact hdg)
    (fun vm₁ hW₁ => ⟨hf.1, hf.2, hPc (T.setVm vm₁) hT hW₁⟩)
  dsimp only [Pt.U, Pt.locs, Pt.cells, Pt.slots] at X' e1 e2 h1 h2 h3 st
  subst h1; subst h2; subst h3
  exact ⟨v, (T.setVm vm₁).calling g' mk (Value.ref b :: As).toArray, t, U', L, hT, X', hL, e1, e2, hq, st⟩
end SUP
theorem recv_at {X : CX} {KS : CX → State → Prop} {s : State} {h : PH} {H0 : Heap} {a : Nat} (hKU : KU X KS s) (P : Pic X h H0) (ht : isTg (hT h a) = true) : ∃ cellB : Cell, H0[ad X a]? = some cellB ∧ cellB.vm.isStatics = false ∧ s.vm.findClass (pC (hT h a)) = some cellB.cls := by
  obtain ⟨-, -, cell, q1, q2, q3, -⟩ := P.obj ht
  exact ⟨cell, q1, by rw [q3]; rfl, by rw [q2]; exact (hKU.1 _ ht).2.1⟩

theorem supOk_spec {own : String} {i pl : Nat} {y : MethodName} (h : supOk own i pl y = true) : ∃ x : MethodName, Cond.methodLink own i x ∈ lw_good ∧ x.name = y.name ∧ x.desc = y.desc ∧ Cond.sameMethod x.cls y.cls y.name y.desc ∈ lw_good ∧ Cond.superclass own x.cls ∈ lw_good ∧ (x.cls = y.cls ∨ Cond.superclass x.cls y.cls ∈ lw_good) := by
  unfold supOk at h
  split at h
  · rename_i o j x hx
    simp only [Bool.and_eq_true, beq_iff_eq, Bool.or_eq_true, List.contains_iff_mem] at h
    obtain ⟨⟨⟨⟨⟨⟨⟨rfl, rfl⟩, h3⟩, h4⟩, h5⟩, h6⟩, h7⟩, h8⟩ := h
    exact ⟨x, List.mem_filter.mpr ⟨List.mem_of_getElem? hx, h5⟩, h3, h4, h6, h7, h8⟩
  · cases h
theorem okX_spec {x t : Nat} (h : okX x t = true) : isTg t = true ∧ Cond.sameMethod (pxn x).cls (pnm (pxo x).1).cls (pxn x).name (pxn x).desc ∈ lw_good ∧ Cond.selects (pC t) (pxn x) (pnm (pbsel x t)) ∈ lw_good ∧ okM (pbsel x t) = true ∧ pst (pbsel x t) = false ∧ pnm (pxo x).1 = ⟨(pnm (pxo x).1).cls, (pxn x).name, (pxn x).desc⟩ ∧ okM (pxo x).1 = true ∧ pst (pxo x).1 = false ∧ nPar (pxn x).desc = some (x % 8) := by
  simp only [okX, Bool.and_eq_true, decide_eq_true_eq, Bool.not_eq_true'] at h
  obtain ⟨⟨⟨⟨⟨⟨⟨⟨⟨h1, h2⟩, h3⟩, h4⟩, h5⟩, h6⟩, h7⟩, h8⟩, h9⟩, -⟩ := h
  exact ⟨h1, wGd_mem h2, wGd_mem h3, h4, h5, h6, h7, h8, h9⟩
theorem sd_invokespecial {X : CX} {KS : CX → State → Prop} {p : Program} {l : Launch} {e : Env} {R : Room} {s : State} {m : MethodId} {args : Array Value} {below : List Frame} {meth : Method} {c : Code} {nL n0 u0 : Nat} {Q : State → Prop} {cc : ByteArray} {own : String} {ini : Bool} {pcOf : Nat → Nat} {pc len pl : Nat} {raw : Instr} {call : Nat → List Value → PH → (Option Value → PH → Prop) → Prop} {jump : Nat → List Value → List Value → PH → Prop} {fin : Option Value → PH → Prop} {rk : Nat} {K : List Value → List Value → PH → Prop} {ls st : List Value} {h : PH} {m' : Nat} (hx : p.tables.exec = Jvm.exec) (hb : c.code = cc) (hd : decode cc pc = .ok (raw, len)) (ho : okI own ini nL pcOf pc raw len pl (.invokespecial m') = true) (hK : ∀ ls st h, K ls st h → GoW X p l e R s m args below meth c nL n0 u0 Q (pc + len) ls st h) (hown : s.vm.findClass own = some m.cls) (hts : ∀ w ∈ lw_good, w.before args s = true) (hKU : KU X KS s) (hKf : ∀ ls st h, K ls st h → hN h - n0 ≤ R.cells ∧ hU h - u0 ≤ R.slots) (hml : c.maxLocals = nL) (hC : ∀ m' a g J, okM m' = true → call m' a g J → CallOK X KS l R m' a g J) (hKS : ∀ u U : State, u.vm = U.vm → KS X u → KS X U) (hKW : ∀ u U : State, u.WarmedH U.vm → KS X u → KS X U) (H : wpI call jump fin rk (.invokespecial m') K ls st h) : GoW X p l e R s m args below meth c nL n0 u0 Q pc ls st h := by
  simp only [wpI] at H
  simp only [okI, Bool.and_eq_true] at ho
  obtain ⟨⟨hm, hst⟩, ho⟩ := ho
  split at ho
  · rename_i i
    simp only [Bool.and_eq_true, beq_iff_eq, Bool.or_eq_true, decide_eq_true_eq] at ho
    obtain ⟨rfl, hw⟩ := ho
    split at H
    · rename_i a st' hdrop
      obtain ⟨htg, hos, H⟩ := H
      have htg : isTg (hT h a) = true := by simp [isTg, htg]
      obtain ⟨d', f1, f2, r1, g1, n1, n2, hM, HJ⟩ := hC _ _ _ _ hm H
      have fit := hKf _ _ _ HJ
      obtain ⟨e1, e2⟩ := take_drop1 hdrop
      have hinst : (Cond.instanceMethod (pnm m')).before args s = true := by
        have := (okM_spec hm).2.2.2.2.2.2
        rw [if_neg (by simpa using hst)] at this
        exact hts _ this
      intro H0 locs lsM P L B1 B2 B3
      have hstack : (st.map (rnv X)) = ((takeR (m' % 8) st []).map (rnv X)).reverse ++ .ref (ad X a) :: st'.map (rnv X) := by
        conv => lhs; rw [e1]
        exact map_stack
      have hcells : hN h - n0 + (hN g1 - hN h) ≤ R.cells ∧ hU h - u0 + (hU g1 - hU h) ≤ R.slots := by omega
      have hsum : 2 * 0 + ((st'.map (rnv X)).map fun v => v.category).sum ≤ 8 := by have := okStack_sum (X := X) hos; omega
      have hpre : ∀ U : State, U.heap = H0 → s.WarmedH U.vm → PcOf X KS (.ref a :: takeR (m' % 8) st []) h (Value.ref (ad X a) :: (takeR (m' % 8) st []).map (rnv X)).toArray U := fun U hU hW => ⟨rfl, by rw [hU]; exact P, hKU.warm hKW hW⟩

      rcases hw with ⟨⟨hnm, hret⟩, hw⟩ | ⟨hnm, hw⟩
      · have hp : PreS s H0 (PcOf X KS (.ref a :: takeR (m' % 8) st []) h) (.ref (ad X a) :: (takeR (m' % 8) st []).map (rnv X)) := ⟨blind hKS, hpre⟩
        rcases hw with hw | hw
        · have cb := callB_mk (mc := hN g1 - hN h) (ms := hU g1 - hU h) hts hm (hts _ (wGd_mem hw)) f1 f2
          have cb' : CallB R s args own i (pnm m') (pcd m') (pnl m') none (wsOf m') (rmOf d' (hN g1 - hN h) (hU g1 - hU h)) (hN g1 - hN h) (hU g1 - hU h) (m' % 8) := by rw [← hret]; exact cb
          exact after_call (va_runI (n := m' % 8) ⟨hx, hb, hml, hown, hts⟩ hM ⟨cb', hnm, hinst⟩ hp rfl (by simpa using e2) L.1 hstack hsum hd hcells) (fun _ _ _ q => q) B1 B2 B3 n1 n2 L (hK _ _ _ HJ)
        · have cb := callN_mk (mc := hN g1 - hN h) (ms := hU g1 - hU h) hts hm (va_Nw.use rfl (hKU.2.2.1 _ (wNs_mem hw))) f1 f2
          have cb' : va_CN R s args own i (pnm m') "DreamNets" (pcd m') (pnl m') none (wsOf m') (rmOf d' (hN g1 - hN h) (hU g1 - hU h)) (hN g1 - hN h) (hU g1 - hU h) (m' % 8) := by rw [← hret]; exact cb
          exact after_call (va_runIN (n := m' % 8) ⟨hx, hb, hml, hown, hts⟩ hM ⟨cb', hnm, hinst⟩ hp rfl (by simpa using e2) L.1 hstack hsum hd hcells) (fun _ _ _ q => q) B1 B2 B3 n1 n2 L (hK _ _ _ HJ)
      · obtain ⟨x, hx1, hxn, hxd, hx2, hx3, hx4⟩ := supOk_spec hw
        have hno : (pnm m').name ≠ "<init>" := by simpa using hnm
        obtain ⟨k1, k2, -, -, k5, k6, -⟩ := okM_spec hm
        have hp : PreV s H0 (pC (hT h a)) (ad X a) (PcOf X KS (.ref a :: takeR (m' % 8) st []) h) ((takeR (m' % 8) st []).map (rnv X)) := ⟨blind hKS, recv_at hKU P htg, hpre⟩
        have cw : (rmOf d' (hN g1 - hN h) (hU g1 - hU h)).cells = hN g1 - hN h ∧ (rmOf d' (hN g1 - hN h) (hU g1 - hU h)).slots = hU g1 - hU h ∧ (rmOf d' (hN g1 - hN h) (hU g1 - hU h)).frames + 1 ≤ R.frames ∧ 8 + (pnl m' + 11) + (rmOf d' (hN g1 - hN h) (hU g1 - hU h)).locals ≤ R.locals ∧ (∀ w ∈ wsOf m', ∀ (a' : Array Value) (U : State), s.WarmedH U.vm → w.before a' U = true) ∧ Cond.code (pnm m') (pcd m') (pnl m') (pret m') ∈ wsOf m' := ⟨rfl, rfl, f1, room_le k6 f2, ws_pay hts k1, List.mem_cons_self⟩
        exact after_call (runSU2 (n := m' % 8) (hKU.1 _ htg).2 ⟨hx, hb, hml, hown, hts⟩ hM cw (hts _ k1) (hts _ k2) (par_spec k5) (hts _ hx1) hxn hxd (hts _ hx2) (hts _ hx3) (hx4.imp_right (hts _)) hinst hno hp rfl (by simpa using e2) L.1 hstack hsum hd hcells) (fun _ _ _ q => q) B1 B2 B3 n1 n2 L (hK _ _ _ HJ)
    · exact H.elim
  · cases ho
theorem sd_invokevirtual {X : CX} {KS : CX → State → Prop} {p : Program} {l : Launch} {e : Env} {R : Room} {s : State} {m : MethodId} {args : Array Value} {below : List Frame} {meth : Method} {c : Code} {nL n0 u0 : Nat} {Q : State → Prop} {cc : ByteArray} {own : String} {ini : Bool} {pcOf : Nat → Nat} {pc len pl : Nat} {raw : Instr} {call : Nat → List Value → PH → (Option Value → PH → Prop) → Prop} {jump : Nat → List Value → List Value → PH → Prop} {fin : Option Value → PH → Prop} {rk : Nat} {K : List Value → List Value → PH → Prop} {ls st : List Value} {h : PH} {x : Nat} (hx : p.tables.exec = Jvm.exec) (hb : c.code = cc) (hd : decode cc pc = .ok (raw, len)) (ho : okI own ini nL pcOf pc raw len pl (.invokevirtual x) = true) (hK : ∀ ls st h, K ls st h → GoW X p l e R s m args below meth c nL n0 u0 Q (pc + len) ls st h) (hown : s.vm.findClass own = some m.cls) (hts : ∀ w ∈ lw_good, w.before args s = true) (hKU : KU X KS s) (hKf : ∀ ls st h, K ls st h → hN h - n0 ≤ R.cells ∧ hU h - u0 ≤ R.slots) (hml : c.maxLocals = nL) (hC : ∀ m' a g J, okM m' = true → call m' a g J → CallOK X KS l R m' a g J) (hKS : ∀ u U : State, u.vm = U.vm → KS X u → KS X U) (hKW : ∀ u U : State, u.WarmedH U.vm → KS X u → KS X U) (H : wpI call jump fin rk (.invokevirtual x) K ls st h) : GoW X p l e R s m args below meth c nL n0 u0 Q pc ls st h := by
  simp only [wpI] at H
  simp only [okI] at ho
  split at ho
  · rename_i i
    simp only [Bool.and_eq_true, beq_iff_eq] at ho
    obtain ⟨rfl, hw⟩ := ho
    split at H
    · rename_i a st' hdrop
      obtain ⟨hvk, hos, H⟩ := H
      have hmv : okM (pvsel x (hT h a)) = true := by
        unfold pvok at hvk
        unfold pvsel
        by_cases hbig : 10000 ≤ x
        · rw [if_pos hbig] at hw ⊢
          simp only [Bool.and_eq_true] at hw
          exact hw.1.1.1.1.1.2
        · rw [if_neg hbig] at hw hvk ⊢
          simp only [Bool.and_eq_true, List.all_eq_true, Bool.or_eq_true, beq_iff_eq] at hw hvk
          have v1 : hT h a < 16 := by
            have := Nat.ble_eq.mp hvk.1
            omega
          have v2 : 0 < pbsel x (hT h a) := by
            have := Nat.ble_eq.mp hvk.2
            omega
          exact (okX_spec ((hw.2 (hT h a) (List.mem_range.mpr v1)).resolve_left (by omega))).2.2.2.1
      obtain ⟨d', f1, f2, r1, g1, n1, n2, hM, HJ⟩ := hC _ _ _ _ hmv H
      have fit := hKf _ _ _ HJ
      obtain ⟨e1, e2⟩ := take_drop1 hdrop
      intro H0 locs lsM P L B1 B2 B3
      have hstack : (st.map (rnv X)) = ((takeR (x % 8) st []).map (rnv X)).reverse ++ .ref (ad X a) :: st'.map (rnv X) := by
        conv => lhs; rw [e1]
        exact map_stack
      have hcells : hN h - n0 + (hN g1 - hN h) ≤ R.cells ∧ hU h - u0 + (hU g1 - hU h) ≤ R.slots := by omega
      have hsum : 2 * 0 + ((st'.map (rnv X)).map fun v => v.category).sum ≤ 8 := by have := okStack_sum (X := X) hos; omega
      have hpre : ∀ U : State, U.heap = H0 → s.WarmedH U.vm → PcOf X KS (.ref a :: takeR (x % 8) st []) h (Value.ref (ad X a) :: (takeR (x % 8) st []).map (rnv X)).toArray U := fun U hU hW => ⟨rfl, by rw [hU]; exact P, hKU.warm hKW hW⟩

      by_cases hbig : 10000 ≤ x
      · rw [if_pos hbig] at hw
        simp only [Bool.and_eq_true, Bool.not_eq_true', decide_eq_true_eq] at hw
        obtain ⟨⟨⟨⟨⟨⟨w1, w2⟩, w3⟩, w4⟩, w5⟩, w6⟩, w7⟩ := hw
        unfold pvok at hvk
        rw [if_pos hbig] at hvk
        have ht : hT h a = x / 10000 := by simpa using hvk
        have hv : pvsel x (hT h a) = x % 10000 := by unfold pvsel; rw [if_pos hbig]
        rw [hv] at hM
        have hinst : (Cond.instanceMethod (pnm (x % 10000))).before args s = true := by
          have := (okM_spec w2).2.2.2.2.2.2
          rw [if_neg (by rw [w3]; decide)] at this
          exact hts _ this
        have htg : isTg (hT h a) = true := by rw [ht]; exact w1
        have hp : PreV s H0 (pC (hT h a)) (ad X a) (PcOf X KS (.ref a :: takeR (x % 8) st []) h) ((takeR (x % 8) st []).map (rnv X)) := ⟨blind hKS, recv_at hKU P htg, hpre⟩
        have hsel : (Cond.selects (pC (hT h a)) (pnm (x % 10000)) (pnm (x % 10000))).before args s = true := by rw [ht]; exact hts _ (wGd_mem w6)
        exact after_call (va_runV (n := x % 10000 % 8) ⟨hx, hb, hml, hown, hts⟩ hM ⟨callB_mk hts w2 (hts _ (wGd_mem w7)) f1 f2, hinst, hsel⟩ hp rfl (by rw [← w5]; simpa using e2) L.1 hstack hsum hd hcells) (fun _ _ _ q => q) B1 B2 B3 n1 n2 L (hK _ _ _ HJ)
      · rw [if_neg hbig] at hw
        simp only [Bool.and_eq_true, List.all_eq_true, Bool.or_eq_true, beq_iff_eq] at hw
        obtain ⟨w1, w2⟩ := hw
        unfold pvok at hvk
        rw [if_neg hbig] at hvk
        simp only [Bool.and_eq_true] at hvk
        obtain ⟨v1, v2⟩ := hvk
        have v1 : hT h a < 16 := by
          have := Nat.ble_eq.mp v1
          omega
        have v2 : 0 < pbsel x (hT h a) := by
          have := Nat.ble_eq.mp v2
          omega
        have hX := (w2 (hT h a) (List.mem_range.mpr v1)).resolve_left (by omega)
        obtain ⟨htg, x1, x2, x3, x4, x5, x6, x7, x8⟩ := okX_spec hX
        have hv : pvsel x (hT h a) = pbsel x (hT h a) := by unfold pvsel; rw [if_neg hbig]
        rw [hv] at hM
        obtain ⟨k1, k2, k3, k4, k5, k6, k7⟩ := okM_spec x3
        rw [if_neg (by rw [x4]; decide)] at k7
        obtain ⟨o1, o2, o3, o4, o5, o6, o7⟩ := okM_spec x6
        rw [if_neg (by rw [x7]; decide)] at o7
        have hdecl : va_Decl s ⟨(pnm (pxo x).1).cls, (pxn x).name, (pxn x).desc⟩ := by
          rw [← x5]
          obtain ⟨mk, methM, hnamed, hmethM, hstM, habM⟩ := Cond.instanceMethod_spec (hts _ o7)
          obtain ⟨methM', cM, hmethM', -, -, -, -, -, -, hsigM⟩ := Cond.code_spec hnamed (hts _ o1)
          cases hmethM.symm.trans hmethM'
          exact ⟨mk, methM, hnamed, hmethM, hstM, hsigM⟩
        have hp : PreV s H0 (pC (hT h a)) (ad X a) (PcOf X KS (.ref a :: takeR (x % 8) st []) h) ((takeR (x % 8) st []).map (rnv X)) := ⟨blind hKS, recv_at hKU P htg, hpre⟩
        have cw : va_CU R s args own (pC (hT h a)) (pnm (pxo x).1).cls i (pxn x) (pnm (pbsel x (hT h a))) (pcd (pbsel x (hT h a))) (pnl (pbsel x (hT h a))) (pret (pbsel x (hT h a))) (wsOf (pbsel x (hT h a))) (rmOf d' (hN g1 - hN h) (hU g1 - hU h)) (hN g1 - hN h) (hU g1 - hU h) (x % 8) := ⟨⟨rfl, rfl, f1, room_le k6 f2, ws_pay hts k1, List.mem_cons_self⟩, hts _ k1, hts _ k2, o3, par_spec x8, hts _ (wGd_mem w1), hts _ x1, hdecl, hts _ x2, hts _ k7⟩
        exact after_call (va_runU (n := x % 8) ⟨hx, hb, hml, hown, hts⟩ hM cw hp rfl (by simpa using e2) L.1 hstack hsum hd hcells) (fun _ _ _ q => q) B1 B2 B3 n1 n2 L (hK _ _ _ HJ)
    · exact H.elim
  · cases ho
end
end
section
section
theorem sd_prim3 {X : CX} {KS : CX → State → Prop} {p : Program} {l : Launch} {e : Env} {R : Room} {s : State} {m : MethodId} {args : Array Value} {below : List Frame} {meth : Method} {c : Code} {nL n0 u0 : Nat} {Q : State → Prop} {cc : ByteArray} {own : String} {ini : Bool} {pcOf : Nat → Nat} {pc len pl : Nat} {raw : Instr} {call : Nat → List Value → PH → (Option Value → PH → Prop) → Prop} {jump : Nat → List Value → List Value → PH → Prop} {fin : Option Value → PH → Prop} {rk : Nat} {K : List Value → List Value → PH → Prop} {ls st : List Value} {h : PH}  (hx : p.tables.exec = Jvm.exec) (hb : c.code = cc) (hd : decode cc pc = .ok (raw, len)) (ho : okI own ini nL pcOf pc raw len pl (.invokedynamic 3) = true) (hK : ∀ ls st h, K ls st h → GoW X p l e R s m args below meth c nL n0 u0 Q (pc + len) ls st h) (hown : s.vm.findClass own = some m.cls) (hts : ∀ w ∈ lw_good, w.before args s = true) (hKU : KU X KS s) (hml : c.maxLocals = nL) (hR1 : 6 ≤ R.frames) (hR2 : 600 ≤ R.locals) (hfit : hN h - n0 ≤ R.cells ∧ hU h - u0 ≤ R.slots) (H : wpI call jump fin rk (.invokedynamic 3) K ls st h) : GoW X p l e R s m args below meth c nL n0 u0 Q pc ls st h := by
  simp only [wpI] at H
  simp only [okI] at ho
  split at ho
  · rename_i i
    simp only [Bool.and_eq_true, beq_iff_eq] at ho
    obtain ⟨rfl, hw⟩ := ho
    split at H
    · obtain ⟨hos, H⟩ := H
      intro H0 locs lsM P L B1 B2 B3
      refine va_mmax hx hb (hml.trans L.1.symm) hown (hts _ (wGd_mem hw)) (hts _ (lib_word (by simp))) (hts _ (lib_word (by simp))) (hts _ (lib_word (by simp))) (by omega) (by have := okStack_sum (X := X) hos; omega) hfit.1 hfit.2 hd (hK _ _ _ H _ _ _ P L B1 B2 B3)
    · exact H.elim
  · cases ho
theorem sd_prim4 {X : CX} {KS : CX → State → Prop} {p : Program} {l : Launch} {e : Env} {R : Room} {s : State} {m : MethodId} {args : Array Value} {below : List Frame} {meth : Method} {c : Code} {nL n0 u0 : Nat} {Q : State → Prop} {cc : ByteArray} {own : String} {ini : Bool} {pcOf : Nat → Nat} {pc len pl : Nat} {raw : Instr} {call : Nat → List Value → PH → (Option Value → PH → Prop) → Prop} {jump : Nat → List Value → List Value → PH → Prop} {fin : Option Value → PH → Prop} {rk : Nat} {K : List Value → List Value → PH → Prop} {ls st : List Value} {h : PH}  (hx : p.tables.exec = Jvm.exec) (hb : c.code = cc) (hd : decode cc pc = .ok (raw, len)) (ho : okI own ini nL pcOf pc raw len pl (.invokedynamic 4) = true) (hK : ∀ ls st h, K ls st h → GoW X p l e R s m args below meth c nL n0 u0 Q (pc + len) ls st h) (hown : s.vm.findClass own = some m.cls) (hts : ∀ w ∈ lw_good, w.before args s = true) (hKU : KU X KS s) (hml : c.maxLocals = nL) (hR1 : 6 ≤ R.frames) (hR2 : 600 ≤ R.locals) (hfit : hN h - n0 ≤ R.cells ∧ hU h - u0 ≤ R.slots) (H : wpI call jump fin rk (.invokedynamic 4) K ls st h) : GoW X p l e R s m args below meth c nL n0 u0 Q pc ls st h := by
  simp only [wpI] at H
  simp only [okI] at ho
  split at ho
  · rename_i i
    simp only [Bool.and_eq_true, beq_iff_eq] at ho
    obtain ⟨rfl, hw⟩ := ho
    split at H
    · obtain ⟨hos, H⟩ := H
      intro H0 locs lsM P L B1 B2 B3
      refine va_mmin hx hb (hml.trans L.1.symm) hown (hts _ (wGd_mem hw)) (hts _ (lib_word (by simp))) (hts _ (lib_word (by simp))) (hts _ (lib_word (by simp))) (by omega) (by have := okStack_sum (X := X) hos; omega) hfit.1 hfit.2 hd (hK _ _ _ H _ _ _ P L B1 B2 B3)
    · exact H.elim
  · cases ho
theorem sd_prim5 {X : CX} {KS : CX → State → Prop} {p : Program} {l : Launch} {e : Env} {R : Room} {s : State} {m : MethodId} {args : Array Value} {below : List Frame} {meth : Method} {c : Code} {nL n0 u0 : Nat} {Q : State → Prop} {cc : ByteArray} {own : String} {ini : Bool} {pcOf : Nat → Nat} {pc len pl : Nat} {raw : Instr} {call : Nat → List Value → PH → (Option Value → PH → Prop) → Prop} {jump : Nat → List Value → List Value → PH → Prop} {fin : Option Value → PH → Prop} {rk : Nat} {K : List Value → List Value → PH → Prop} {ls st : List Value} {h : PH}  (hx : p.tables.exec = Jvm.exec) (hb : c.code = cc) (hd : decode cc pc = .ok (raw, len)) (ho : okI own ini nL pcOf pc raw len pl (.invokedynamic 5) = true) (hK : ∀ ls st h, K ls st h → GoW X p l e R s m args below meth c nL n0 u0 Q (pc + len) ls st h) (hown : s.vm.findClass own = some m.cls) (hts : ∀ w ∈ lw_good, w.before args s = true) (hKU : KU X KS s) (hml : c.maxLocals = nL) (hR1 : 6 ≤ R.frames) (hR2 : 600 ≤ R.locals) (hfit : hN h - n0 ≤ R.cells ∧ hU h - u0 ≤ R.slots) (H : wpI call jump fin rk (.invokedynamic 5) K ls st h) : GoW X p l e R s m args below meth c nL n0 u0 Q pc ls st h := by
  simp only [wpI] at H
  simp only [okI] at ho
  split at ho
  · rename_i i
    simp only [Bool.and_eq_true, beq_iff_eq] at ho
    obtain ⟨rfl, hw⟩ := ho
    split at H
    · obtain ⟨hos, H⟩ := H
      intro H0 locs lsM P L B1 B2 B3
      exact W.objInit hx hb hown (hts _ (wGd_mem hw)) (hts _ (lib_word (by simp))) (hts _ (lib_word (by simp))) rfl (L.1.trans hml.symm) rfl hd (by omega) (by have := okStack_sum (X := X) hos; show 2 * 0 + _ + 12 ≤ _; omega) (hK _ _ _ H _ _ _ P L B1 B2 B3)
    · exact H.elim
  · cases ho

theorem clampI {z : Int32} (h : 0 ≤ z) : z.toInt = (z.toNatClampNeg : Int) := by
  rw [Int32.le_iff_toInt_le] at h
  have e : z.toNatClampNeg = z.toInt.toNat := rfl
  rw [e]
  have : (0 : Int32).toInt = 0 := rfl
  omega
theorem nlt0 {z : Int32} (h : 0 ≤ z) : ¬ z < 0 := by
  rw [Int32.le_iff_toInt_le] at h
  rw [Int32.lt_iff_toInt_lt]
  omega
theorem nfw : nativeFrameWords "java/lang/System" "arraycopy" 5 ≤ 200 := by decide
theorem sd_prim0 {X : CX} {KS : CX → State → Prop} {p : Program} {l : Launch} {e : Env} {R : Room} {s : State} {m : MethodId} {args : Array Value} {below : List Frame} {meth : Method} {c : Code} {nL n0 u0 : Nat} {Q : State → Prop} {cc : ByteArray} {own : String} {ini : Bool} {pcOf : Nat → Nat} {pc len pl : Nat} {raw : Instr} {call : Nat → List Value → PH → (Option Value → PH → Prop) → Prop} {jump : Nat → List Value → List Value → PH → Prop} {fin : Option Value → PH → Prop} {rk : Nat} {K : List Value → List Value → PH → Prop} {ls st : List Value} {h : PH}  (hx : p.tables.exec = Jvm.exec) (hb : c.code = cc) (hd : decode cc pc = .ok (raw, len)) (ho : okI own ini nL pcOf pc raw len pl (.invokedynamic 0) = true) (hK : ∀ ls st h, K ls st h → GoW X p l e R s m args below meth c nL n0 u0 Q (pc + len) ls st h) (hown : s.vm.findClass own = some m.cls) (hts : ∀ w ∈ lw_good, w.before args s = true) (hKU : KU X KS s) (hml : c.maxLocals = nL) (hR1 : 6 ≤ R.frames) (hR2 : 600 ≤ R.locals) (hfit : hN h - n0 ≤ R.cells ∧ hU h - u0 ≤ R.slots) (H : wpI call jump fin rk (.invokedynamic 0) K ls st h) : GoW X p l e R s m args below meth c nL n0 u0 Q pc ls st h := by
  simp only [wpI] at H
  simp only [okI] at ho
  split at ho
  · rename_i i
    simp only [Bool.and_eq_true, beq_iff_eq] at ho
    obtain ⟨rfl, hw⟩ := ho
    split at H
    · rename_i n dp dst sp src st'
      obtain ⟨ht0, ht1, hn0, hdp0, hsp0, hs, hd', hos, H⟩ := H
      intro H0 locs lsM P L B1 B2 B3
      obtain ⟨cs, c1, c2, c3, c4, c5⟩ := P.ints hKU ht0
      have hat : isAT (hT h dst) = true := by rw [ht1]; rfl
      obtain ⟨g1, g2, d1⟩ := P.arr hat
      rw [ht1] at d1
      have d1 : H0[ad X dst]? = some (arrV (xA X 100) (hL h dst) (fun j => .int (hI h dst j))) := d1
      obtain ⟨hs6, k0, hk0, cm0, hkk0⟩ := c2
      obtain ⟨-, k1, hk1, cm1, hkk1⟩ := (hKU.2.1 100 rfl).1 (hL h dst) (fun j => .int (hI h dst j))
      have hkk1 : k1.kind = .array cm1 .int := hkk1
      have en := clampI hn0
      have ed := clampI hdp0
      have es := clampI hsp0
      intro T hT' X0
      obtain ⟨vm', X', step⟩ := X0.arraycopy hx hown (hts _ (wGd_mem hw)) (hts _ (lib_word (by simp))) (hts _ (lib_word (by simp))) (hts _ (lib_word (by simp))) (src := ad X src) (dst := ad X dst) (cs := cs) (cd := arrV (xA X 100) (hL h dst) (fun j => .int (hI h dst j))) (srcPos := sp) (destPos := dp) (n := n) (by rw [hT']; exact c1) (by rw [hT']; exact d1)
        hs6 (fun _ z => by cases z) c3 (fun z => by cases z) hk0 hk1 hkk0 hkk1 (by simp [refKind]) (nlt0 hsp0) (nlt0 hdp0) (nlt0 hn0)
        (by rw [es, en, c4]; omega)
        (by rw [ed, en, arrV_size]; omega)
        (fun vm₁ _ i hi => by
          have e : cs.slots.getD (sp.toNatClampNeg + i) .null = .int (hI h src (sp.toNatClampNeg + i)) := by
            rw [Array.getD_eq_getD_getElem?, c5 _ (by omega)]
            rfl
          refine ⟨?_, ?_⟩
          · rw [e]; rfl
          · rw [e]; exact trivial)
        (g := F0 m pc lsM ((.int n :: .int dp :: .ref dst :: .int sp :: .ref src :: st').map (rnv X))) rfl (by rw [hml]; exact L.1) (rest := st'.map (rnv X)) rfl (by rw [hb]; exact hd) (by omega) (by have := okStack_sum (X := X) hos; have := nfw; show 2 * 0 + _ + _ ≤ _; omega)
      have e1 : copied cs (arrV (xA X 100) (hL h dst) (fun j => .int (hI h dst j))) sp dp n = arrV (xA X 100) (hL h dst) (fun j => .int (va_cpy (hI h src) (hI h dst) sp.toNatClampNeg dp.toNatClampNeg n.toNatClampNeg j)) := va_copiedX (fun z => .int z) cs (xA X 100) (hI h src) (hI h dst) c5 hs
      rw [e1] at X' step
      generalize hc1 : arrV (xA X 100) (hL h dst) (fun j => .int (va_cpy (hI h src) (hI h dst) sp.toNatClampNeg dp.toNatClampNeg n.toNatClampNeg j)) = cn at X' step
      have hheap : ((T.setVm vm').setCell (ad X dst) cn).heap = H0.setIfInBounds (ad X dst) cn := by rw [← hT']; rfl
      have hl : ad X dst < H0.size := (Array.getElem?_eq_some_iff.mp d1).1
      have oq : ∀ q : Nat, q ≠ ad X dst → (H0.setIfInBounds (ad X dst) cn)[q]? = H0[q]? := fun q hq => by simp [Array.getElem?_setIfInBounds, Ne.symm hq]
      have hP' : Pic X (cpI h src sp.toNatClampNeg dst dp.toNatClampNeg n.toNatClampNeg) (H0.setIfInBounds (ad X dst) cn) := by
        refine P.upd (a := dst) (by show hT h dst ≠ 0; omega) g2 g1 rfl (by simp) oq (fun b hb => ⟨rfl, rfl, fun j => by simp [cpI, hI, hb], fun _ => rfl, fun _ => rfl⟩) (Or.inr (Or.inl ⟨hat, g2, ?_⟩))
        show (H0.setIfInBounds (ad X dst) cn)[ad X dst]? = some (arrV (xA X (hT h dst)) (hL h dst) _)
        rw [ht1]
        have : (H0.setIfInBounds (ad X dst) cn)[ad X dst]? = some cn := by simp [Array.getElem?_setIfInBounds, hl]
        rw [this, ← hc1]
        congr 2
        funext j
        show Value.int _ = rnv X (evP (cpI h src sp.toNatClampNeg dst dp.toNatClampNeg n.toNatClampNeg) (hT h dst) dst j)
        rw [ht1]
        simp only [evP, rnv, hI, cpI, va_cpy, true_and]
      obtain ⟨t, a1, b1⟩ := hK _ _ _ H _ _ lsM hP' L (fun q hq => by
        rcases List.mem_append.mp hq with z | z
        · exact B1 q z
        · obtain ⟨y, -, hy⟩ := List.mem_map.mp z
          rw [← hy]
          exact ad_le g2) B2 B3 _ hheap X'
      exact ⟨t, step t a1, b1⟩
    · exact H.elim
  · cases ho

/-- a method's end, by what it gives back -/
def EndW (X : CX) (p : Program) (l : Launch) (e : Env) (R : Room) (s : State) (m : MethodId) (args : Array Value) (below : List Frame) (meth : Method) (c : Code) (n0 u0 : Nat) (Q : State → Prop) (cc : ByteArray) (rk : Nat) (r : Option Value) (h : PH) : Prop :=
  ∀ (H : Heap) (locs : List Loc) (lsM : Array Slot) (pc : Nat), Pic X h H → (∀ q ∈ locs, xs0 X ≤ q.base) → n0 ≤ hN h → u0 ≤ hU h →
    (r = none → rk = 0 → decode cc pc = .ok (.return_, 1) → W p l e R s m args below meth c H locs (hN h - n0) (hU h - u0) Q (F0 m pc lsM [])) ∧
    (∀ x, r = some (.int x) → (rk = 1 ∨ rk = 2 ∧ (x = 0 ∨ x = 1)) → decode cc pc = .ok (.ireturn, 1) → W p l e R s m args below meth c H locs (hN h - n0) (hU h - u0) Q (F0 m pc lsM [.int x])) ∧
    (∀ x, r = some (.long x) → rk = 3 → decode cc pc = .ok (.lreturn, 1) → W p l e R s m args below meth c H locs (hN h - n0) (hU h - u0) Q (F0 m pc lsM [.long x])) ∧
    (∀ v, r = some v → rk = 4 → (v = .null ∨ ∃ a, v = .ref a) → decode cc pc = .ok (.areturn, 1) → W p l e R s m args below meth c H locs (hN h - n0) (hU h - u0) Q (F0 m pc lsM [rnv X v]))
theorem sd_return_ {X : CX} {KS : CX → State → Prop} {p : Program} {l : Launch} {e : Env} {R : Room} {s : State} {m : MethodId} {args : Array Value} {below : List Frame} {meth : Method} {c : Code} {nL n0 u0 : Nat} {Q : State → Prop} {cc : ByteArray} {own : String} {ini : Bool} {pcOf : Nat → Nat} {pc len pl : Nat} {raw : Instr} {call : Nat → List Value → PH → (Option Value → PH → Prop) → Prop} {jump : Nat → List Value → List Value → PH → Prop} {fin : Option Value → PH → Prop} {rk : Nat} {K : List Value → List Value → PH → Prop} {ls st : List Value} {h : PH}  (hx : p.tables.exec = Jvm.exec) (hb : c.code = cc) (hd : decode cc pc = .ok (raw, len)) (ho : okI own ini nL pcOf pc raw len pl (.return_) = true) (hE : ∀ r h, fin r h → EndW X p l e R s m args below meth c n0 u0 Q cc rk r h) (H : wpI call jump fin rk (.return_) K ls st h) : GoW X p l e R s m args below meth c nL n0 u0 Q pc ls st h := by
  simp only [okI] at ho
  split at ho
  case _ =>
    cases eq_of_beq ho
    simp only [wpI] at H
    split at H
    · intro H0 locs lsM P L B1 B2 B3
      exact (hE _ _ H.2 H0 locs lsM pc P B1 B2 B3).1 rfl H.1 hd
    · exact H.elim
  all_goals cases ho
theorem sd_ireturn {X : CX} {KS : CX → State → Prop} {p : Program} {l : Launch} {e : Env} {R : Room} {s : State} {m : MethodId} {args : Array Value} {below : List Frame} {meth : Method} {c : Code} {nL n0 u0 : Nat} {Q : State → Prop} {cc : ByteArray} {own : String} {ini : Bool} {pcOf : Nat → Nat} {pc len pl : Nat} {raw : Instr} {call : Nat → List Value → PH → (Option Value → PH → Prop) → Prop} {jump : Nat → List Value → List Value → PH → Prop} {fin : Option Value → PH → Prop} {rk : Nat} {K : List Value → List Value → PH → Prop} {ls st : List Value} {h : PH}  (hx : p.tables.exec = Jvm.exec) (hb : c.code = cc) (hd : decode cc pc = .ok (raw, len)) (ho : okI own ini nL pcOf pc raw len pl (.ireturn) = true) (hE : ∀ r h, fin r h → EndW X p l e R s m args below meth c n0 u0 Q cc rk r h) (H : wpI call jump fin rk (.ireturn) K ls st h) : GoW X p l e R s m args below meth c nL n0 u0 Q pc ls st h := by
  simp only [okI] at ho
  split at ho
  case _ =>
    cases eq_of_beq ho
    simp only [wpI] at H
    split at H
    · intro H0 locs lsM P L B1 B2 B3
      exact (hE _ _ H.2 H0 locs lsM pc P B1 B2 B3).2.1 _ rfl H.1 hd
    · exact H.elim
  all_goals cases ho
theorem sd_lreturn {X : CX} {KS : CX → State → Prop} {p : Program} {l : Launch} {e : Env} {R : Room} {s : State} {m : MethodId} {args : Array Value} {below : List Frame} {meth : Method} {c : Code} {nL n0 u0 : Nat} {Q : State → Prop} {cc : ByteArray} {own : String} {ini : Bool} {pcOf : Nat → Nat} {pc len pl : Nat} {raw : Instr} {call : Nat → List Value → PH → (Option Value → PH → Prop) → Prop} {jump : Nat → List Value → List Value → PH → Prop} {fin : Option Value → PH → Prop} {rk : Nat} {K : List Value → List Value → PH → Prop} {ls st : List Value} {h : PH}  (hx : p.tables.exec = Jvm.exec) (hb : c.code = cc) (hd : decode cc pc = .ok (raw, len)) (ho : okI own ini nL pcOf pc raw len pl (.lreturn) = true) (hE : ∀ r h, fin r h → EndW X p l e R s m args below meth c n0 u0 Q cc rk r h) (H : wpI call jump fin rk (.lreturn) K ls st h) : GoW X p l e R s m args below meth c nL n0 u0 Q pc ls st h := by
  simp only [okI] at ho
  split at ho
  case _ =>
    cases eq_of_beq ho
    simp only [wpI] at H
    split at H
    · intro H0 locs lsM P L B1 B2 B3
      exact (hE _ _ H.2 H0 locs lsM pc P B1 B2 B3).2.2.1 _ rfl H.1 hd
    · exact H.elim
  all_goals cases ho
theorem sd_areturn {X : CX} {KS : CX → State → Prop} {p : Program} {l : Launch} {e : Env} {R : Room} {s : State} {m : MethodId} {args : Array Value} {below : List Frame} {meth : Method} {c : Code} {nL n0 u0 : Nat} {Q : State → Prop} {cc : ByteArray} {own : String} {ini : Bool} {pcOf : Nat → Nat} {pc len pl : Nat} {raw : Instr} {call : Nat → List Value → PH → (Option Value → PH → Prop) → Prop} {jump : Nat → List Value → List Value → PH → Prop} {fin : Option Value → PH → Prop} {rk : Nat} {K : List Value → List Value → PH → Prop} {ls st : List Value} {h : PH}  (hx : p.tables.exec = Jvm.exec) (hb : c.code = cc) (hd : decode cc pc = .ok (raw, len)) (ho : okI own ini nL pcOf pc raw len pl (.areturn) = true) (hE : ∀ r h, fin r h → EndW X p l e R s m args below meth c n0 u0 Q cc rk r h) (H : wpI call jump fin rk (.areturn) K ls st h) : GoW X p l e R s m args below meth c nL n0 u0 Q pc ls st h := by
  simp only [okI] at ho
  split at ho
  case _ =>
    cases eq_of_beq ho
    simp only [wpI] at H
    split at H
    · intro H0 locs lsM P L B1 B2 B3
      exact (hE _ _ H.2 H0 locs lsM pc P B1 B2 B3).2.2.2 _ rfl H.1 (Or.inr ⟨_, rfl⟩) hd
    · intro H0 locs lsM P L B1 B2 B3
      exact (hE _ _ H.2 H0 locs lsM pc P B1 B2 B3).2.2.2 _ rfl H.1 (Or.inl rfl) hd
    · exact H.elim
  all_goals cases ho

/-- what is asked of the constants' texts: how one is loaded, its length, its signs -/
def StrW (X : CX) (KS : CX → State → Prop) : Prop := ∀ {p : Program} {l : Launch} {e : Env} {R : Room} {s : State} {m : MethodId} {args : Array Value} {below : List Frame} {meth : Method} {c : Code} {nL n0 u0 : Nat} {Q : State → Prop} {cc : ByteArray} {own : String} {pc : Nat} {ls st : List Value} {h : PH},
  p.tables.exec = Jvm.exec → c.code = cc → c.maxLocals = nL → s.vm.findClass own = some m.cls → (∀ w ∈ lw_good, w.before args s = true) → KU X KS s → 6 ≤ R.frames → 600 ≤ R.locals → (hN h - n0 ≤ R.cells ∧ hU h - u0 ≤ R.slots) →
  (∀ i k, own = "DreamNets$Tape" → Cond.stringRef own i (pStr k) ∈ lw_tbl → 10 ≤ k → k < 28 → hT h k = 130 → decode cc pc = .ok (.ldc i, 2) → GoW X p l e R s m args below meth c nL n0 u0 Q (pc + 2) ls (.ref k :: st) h → GoW X p l e R s m args below meth c nL n0 u0 Q pc ls st h) ∧
  (∀ i a, Cond.methodLink own i ⟨"java/lang/String", "length", "()I"⟩ ∈ lw_good → hT h a = 130 → okStack st = true → decode cc pc = .ok (.invokevirtual i, 3) → GoW X p l e R s m args below meth c nL n0 u0 Q (pc + 3) ls (.int (nI (hL h a)) :: st) h → GoW X p l e R s m args below meth c nL n0 u0 Q pc ls (.ref a :: st) h) ∧
  (∀ i a j, Cond.methodLink own i ⟨"java/lang/String", "charAt", "(I)C"⟩ ∈ lw_good → hT h a = 130 → inb j (hL h a) → okStack st = true → decode cc pc = .ok (.invokevirtual i, 3) → GoW X p l e R s m args below meth c nL n0 u0 Q (pc + 3) ls (.int (hI h a j.toNatClampNeg) :: st) h → GoW X p l e R s m args below meth c nL n0 u0 Q pc ls (.int j :: .ref a :: st) h)
theorem sd_ldc {X : CX} {KS : CX → State → Prop} {p : Program} {l : Launch} {e : Env} {R : Room} {s : State} {m : MethodId} {args : Array Value} {below : List Frame} {meth : Method} {c : Code} {nL n0 u0 : Nat} {Q : State → Prop} {cc : ByteArray} {own : String} {ini : Bool} {pcOf : Nat → Nat} {pc len pl : Nat} {raw : Instr} {call : Nat → List Value → PH → (Option Value → PH → Prop) → Prop} {jump : Nat → List Value → List Value → PH → Prop} {fin : Option Value → PH → Prop} {rk : Nat} {K : List Value → List Value → PH → Prop} {ls st : List Value} {h : PH} {k : Nat} (hx : p.tables.exec = Jvm.exec) (hb : c.code = cc) (hd : decode cc pc = .ok (raw, len)) (ho : okI own ini nL pcOf pc raw len pl (.ldc k) = true) (hK : ∀ ls st h, K ls st h → GoW X p l e R s m args below meth c nL n0 u0 Q (pc + len) ls st h) (hown : s.vm.findClass own = some m.cls) (hts : ∀ w ∈ lw_good, w.before args s = true) (hKU : KU X KS s) (hml : c.maxLocals = nL) (hR1 : 6 ≤ R.frames) (hR2 : 600 ≤ R.locals) (hfit : hN h - n0 ≤ R.cells ∧ hU h - u0 ≤ R.slots) (hSW : StrW X KS) (H : wpI call jump fin rk (.ldc k) K ls st h) : GoW X p l e R s m args below meth c nL n0 u0 Q pc ls st h := by
  simp only [wpI] at H
  obtain ⟨ht, H⟩ := H
  simp only [okI] at ho
  split at ho
  · rename_i i
    simp only [Bool.and_eq_true, beq_iff_eq, decide_eq_true_eq] at ho
    obtain ⟨⟨⟨⟨rfl, ho1⟩, hw⟩, hk1⟩, hk2⟩ := ho
    exact (hSW hx hb hml hown hts hKU hR1 hR2 hfit).1 i k ho1 (wAt_mem hw) hk1 hk2 ht hd (hK _ _ _ H)
  · cases ho
theorem sd_prim1 {X : CX} {KS : CX → State → Prop} {p : Program} {l : Launch} {e : Env} {R : Room} {s : State} {m : MethodId} {args : Array Value} {below : List Frame} {meth : Method} {c : Code} {nL n0 u0 : Nat} {Q : State → Prop} {cc : ByteArray} {own : String} {ini : Bool} {pcOf : Nat → Nat} {pc len pl : Nat} {raw : Instr} {call : Nat → List Value → PH → (Option Value → PH → Prop) → Prop} {jump : Nat → List Value → List Value → PH → Prop} {fin : Option Value → PH → Prop} {rk : Nat} {K : List Value → List Value → PH → Prop} {ls st : List Value} {h : PH}  (hx : p.tables.exec = Jvm.exec) (hb : c.code = cc) (hd : decode cc pc = .ok (raw, len)) (ho : okI own ini nL pcOf pc raw len pl (.invokedynamic 1) = true) (hK : ∀ ls st h, K ls st h → GoW X p l e R s m args below meth c nL n0 u0 Q (pc + len) ls st h) (hown : s.vm.findClass own = some m.cls) (hts : ∀ w ∈ lw_good, w.before args s = true) (hKU : KU X KS s) (hml : c.maxLocals = nL) (hR1 : 6 ≤ R.frames) (hR2 : 600 ≤ R.locals) (hfit : hN h - n0 ≤ R.cells ∧ hU h - u0 ≤ R.slots) (hSW : StrW X KS) (H : wpI call jump fin rk (.invokedynamic 1) K ls st h) : GoW X p l e R s m args below meth c nL n0 u0 Q pc ls st h := by
  simp only [wpI] at H
  simp only [okI] at ho
  split at ho
  · rename_i i
    simp only [Bool.and_eq_true, beq_iff_eq] at ho
    obtain ⟨rfl, hw⟩ := ho
    split at H
    · obtain ⟨ht, hos, H⟩ := H
      exact (hSW hx hb hml hown hts hKU hR1 hR2 hfit).2.1 i _ (wGd_mem hw) ht hos hd (hK _ _ _ H)
    · exact H.elim
  · cases ho
theorem sd_prim2 {X : CX} {KS : CX → State → Prop} {p : Program} {l : Launch} {e : Env} {R : Room} {s : State} {m : MethodId} {args : Array Value} {below : List Frame} {meth : Method} {c : Code} {nL n0 u0 : Nat} {Q : State → Prop} {cc : ByteArray} {own : String} {ini : Bool} {pcOf : Nat → Nat} {pc len pl : Nat} {raw : Instr} {call : Nat → List Value → PH → (Option Value → PH → Prop) → Prop} {jump : Nat → List Value → List Value → PH → Prop} {fin : Option Value → PH → Prop} {rk : Nat} {K : List Value → List Value → PH → Prop} {ls st : List Value} {h : PH}  (hx : p.tables.exec = Jvm.exec) (hb : c.code = cc) (hd : decode cc pc = .ok (raw, len)) (ho : okI own ini nL pcOf pc raw len pl (.invokedynamic 2) = true) (hK : ∀ ls st h, K ls st h → GoW X p l e R s m args below meth c nL n0 u0 Q (pc + len) ls st h) (hown : s.vm.findClass own = some m.cls) (hts : ∀ w ∈ lw_good, w.before args s = true) (hKU : KU X KS s) (hml : c.maxLocals = nL) (hR1 : 6 ≤ R.frames) (hR2 : 600 ≤ R.locals) (hfit : hN h - n0 ≤ R.cells ∧ hU h - u0 ≤ R.slots) (hSW : StrW X KS) (H : wpI call jump fin rk (.invokedynamic 2) K ls st h) : GoW X p l e R s m args below meth c nL n0 u0 Q pc ls st h := by
  simp only [wpI] at H
  simp only [okI] at ho
  split at ho
  · rename_i i
    simp only [Bool.and_eq_true, beq_iff_eq] at ho
    obtain ⟨rfl, hw⟩ := ho
    split at H
    · obtain ⟨ht, hi, hos, H⟩ := H
      exact (hSW hx hb hml hown hts hKU hR1 hR2 hfit).2.2 i _ _ (wGd_mem hw) ht hi hos hd (hK _ _ _ H)
    · exact H.elim
  · cases ho
end
end
section
section
theorem okB_nil {own : String} {ini : Bool} {nL : Nat} {bytes : ByteArray} {pcOf : Nat → Nat} {pc : Nat} {is : List Instr} (h : okB own ini nL bytes pcOf pc [] is = true) : is = [] ∨ ∃ b, is = [.jsr b] ∧ pcOf b.toNat = pc := by
  unfold okB at h
  split at h
  · exact Or.inl rfl
  · rename_i b _
    exact Or.inr ⟨b, rfl, by simpa using h⟩
  · rename_i h0
    cases h0
  · cases h
theorem okB_cons {own : String} {ini : Bool} {nL : Nat} {bytes : ByteArray} {pcOf : Nat → Nat} {pc : Nat} {r : Instr × Nat × Nat} {rs : List (Instr × Nat × Nat)} {is : List Instr} (h : okB own ini nL bytes pcOf pc (r :: rs) is = true) :
    ∃ i js, is = i :: js ∧ decode bytes pc = .ok (r.1, r.2.1) ∧ okI own ini nL pcOf pc r.1 r.2.1 r.2.2 i = true ∧ okB own ini nL bytes pcOf (pc + r.2.1) rs js = true := by
  cases is with
  | nil => simp [okB] at h
  | cons i js =>
    simp only [okB, Bool.and_eq_true, decide_eq_true_eq] at h
    exact ⟨i, js, rfl, h.1, h.2.1, h.2.2⟩
set_option maxHeartbeats 4000000 in
theorem step_all {X : CX} {KS : CX → State → Prop} {p : Program} {l : Launch} {e : Env} {R : Room} {s : State} {m : MethodId} {args : Array Value} {below : List Frame} {meth : Method} {c : Code} {nL n0 u0 : Nat} {Q : State → Prop} {cc : ByteArray} {own : String} {ini : Bool} {pcOf : Nat → Nat} {pc len pl : Nat} {raw : Instr}
    {call : Nat → List Value → PH → (Option Value → PH → Prop) → Prop} {jump : Nat → List Value → List Value → PH → Prop} {fin : Option Value → PH → Prop} {rk : Nat} {K : List Value → List Value → PH → Prop} {ls st : List Value} {h : PH}
    (hx : p.tables.exec = Jvm.exec) (hb : c.code = cc) (hml : c.maxLocals = nL) (hown : s.vm.findClass own = some m.cls) (hts : ∀ w ∈ lw_good, w.before args s = true) (hKU : KU X KS s) (hini : ini = true → meth.name = "<init>")
    (hKS : ∀ u U : State, u.vm = U.vm → KS X u → KS X U) (hKW : ∀ u U : State, u.WarmedH U.vm → KS X u → KS X U) (hSW : StrW X KS) (hR1 : 6 ≤ R.frames) (hR2 : 600 ≤ R.locals)
    (hd : decode cc pc = .ok (raw, len)) (i : Instr) (ho : okI own ini nL pcOf pc raw len pl i = true) (hfit : hN h - n0 ≤ R.cells ∧ hU h - u0 ≤ R.slots)
    (hK : ∀ ls st h, K ls st h → GoW X p l e R s m args below meth c nL n0 u0 Q (pc + len) ls st h) (hKf : ∀ ls st h, K ls st h → hN h - n0 ≤ R.cells ∧ hU h - u0 ≤ R.slots)
    (hJ : ∀ b ls st h, jump b ls st h → GoW X p l e R s m args below meth c nL n0 u0 Q (pcOf b) ls st h)
    (hC : ∀ m' a g J, okM m' = true → call m' a g J → CallOK X KS l R m' a g J)
    (hE : ∀ r h, fin r h → EndW X p l e R s m args below meth c n0 u0 Q cc rk r h)
    (H : wpI call jump fin rk i K ls st h) : GoW X p l e R s m args below meth c nL n0 u0 Q pc ls st h := by
  cases i
  case ldc_w => exact sd_ldc_w (KS := KS) hx hb hd ho hK hown hts H
  case iconst => exact sd_iconst (KS := KS) hx hb hd ho hK H
  case ldc2_w => exact sd_ldc2_w (KS := KS) hx hb hd ho hK hown hts H
  case jsr_w => exact sd_jsr_w (KS := KS) hx hb hd ho hK hown hts H
  case ldc => exact sd_ldc (KS := KS) hx hb hd ho hK hown hts hKU hml hR1 hR2 hfit hSW H
  case getstatic => exact sd_getstatic (KS := KS) hx hb hd ho hK hown hts hKU H
  case aconst_null => exact sd_aconst_null (KS := KS) hx hb hd ho hK H
  case iload => exact sd_iload (KS := KS) hx hb hd ho hK H
  case lload => exact sd_lload (KS := KS) hx hb hd ho hK H
  case aload => exact sd_aload (KS := KS) hx hb hd ho hK H
  case istore => exact sd_istore (KS := KS) hx hb hd ho hK H
  case lstore => exact sd_lstore (KS := KS) hx hb hd ho hK H
  case astore => exact sd_astore (KS := KS) hx hb hd ho hK H
  case iinc => exact sd_iinc (KS := KS) hx hb hd ho hK H
  case iadd => exact sd_iadd (KS := KS) hx hb hd ho hK H
  case isub => exact sd_isub (KS := KS) hx hb hd ho hK H
  case imul => exact sd_imul (KS := KS) hx hb hd ho hK H
  case iand => exact sd_iand (KS := KS) hx hb hd ho hK H
  case ior => exact sd_ior (KS := KS) hx hb hd ho hK H
  case ixor => exact sd_ixor (KS := KS) hx hb hd ho hK H
  case idiv => exact sd_idiv (KS := KS) hx hb hd ho hK H
  case irem => exact sd_irem (KS := KS) hx hb hd ho hK H
  case ishl => exact sd_ishl (KS := KS) hx hb hd ho hK H
  case ishr => exact sd_ishr (KS := KS) hx hb hd ho hK H
  case iushr => exact sd_iushr (KS := KS) hx hb hd ho hK H
  case ladd => exact sd_ladd (KS := KS) hx hb hd ho hK H
  case lsub => exact sd_lsub (KS := KS) hx hb hd ho hK H
  case lmul => exact sd_lmul (KS := KS) hx hb hd ho hK H
  case land => exact sd_land (KS := KS) hx hb hd ho hK H
  case lor => exact sd_lor (KS := KS) hx hb hd ho hK H
  case ldiv => exact sd_ldiv (KS := KS) hx hb hd ho hK H
  case lrem => exact sd_lrem (KS := KS) hx hb hd ho hK H
  case lshl => exact sd_lshl (KS := KS) hx hb hd ho hK H
  case lshr => exact sd_lshr (KS := KS) hx hb hd ho hK H
  case lushr => exact sd_lushr (KS := KS) hx hb hd ho hK H
  case lcmp => exact sd_lcmp (KS := KS) hx hb hd ho hK H
  case i2l => exact sd_i2l (KS := KS) hx hb hd ho hK H
  case l2i => exact sd_l2i (KS := KS) hx hb hd ho hK H
  case i2b => exact sd_i2b (KS := KS) hx hb hd ho hK H
  case i2s => exact sd_i2s (KS := KS) hx hb hd ho hK H
  case dup => exact sd_dup (KS := KS) hx hb hd ho hK H
  case dup2 => exact sd_dup2 (KS := KS) hx hb hd ho hK H
  case pop => exact sd_pop (KS := KS) hx hb hd ho hK H
  case goto => exact sd_goto (KS := KS) hx hb hd ho hJ H
  case if_icmp cc' b => cases cc' <;> first
    | exact sd_if_icmp_eq (KS := KS) hx hb hd ho hK hJ H
    | exact sd_if_icmp_ne (KS := KS) hx hb hd ho hK hJ H
    | exact sd_if_icmp_lt (KS := KS) hx hb hd ho hK hJ H
    | exact sd_if_icmp_ge (KS := KS) hx hb hd ho hK hJ H
    | exact sd_if_icmp_gt (KS := KS) hx hb hd ho hK hJ H
    | exact sd_if_icmp_le (KS := KS) hx hb hd ho hK hJ H
  case ifCond cc' b => cases cc' <;> first
    | exact sd_ifCond_eq (KS := KS) hx hb hd ho hK hJ H
    | exact sd_ifCond_ne (KS := KS) hx hb hd ho hK hJ H
    | exact sd_ifCond_lt (KS := KS) hx hb hd ho hK hJ H
    | exact sd_ifCond_ge (KS := KS) hx hb hd ho hK hJ H
    | exact sd_ifCond_gt (KS := KS) hx hb hd ho hK hJ H
    | exact sd_ifCond_le (KS := KS) hx hb hd ho hK hJ H
  case ifnull => exact sd_ifnull (KS := KS) hx hb hd ho hK hJ H
  case ifnonnull => exact sd_ifnonnull (KS := KS) hx hb hd ho hK hJ H
  case tableswitch => exact sd_tableswitch (KS := KS) hx hb hd ho hJ H
  case getfield => exact sd_getfield (KS := KS) hx hb hd ho hK hown hts hKU H
  case putfield => exact sd_putfield (KS := KS) hx hb hd ho hK hown hts hKU hini H
  case iaload => exact sd_iaload (KS := KS) hx hb hd ho hK hKU H
  case baload => exact sd_baload (KS := KS) hx hb hd ho hK hKU H
  case laload => exact sd_laload (KS := KS) hx hb hd ho hK hKU H
  case aaload => exact sd_aaload (KS := KS) hx hb hd ho hK hKU H
  case arraylength => exact sd_arraylength (KS := KS) hx hb hd ho hK hKU H
  case iastore => exact sd_iastore (KS := KS) hx hb hd ho hK hKU H
  case bastore => exact sd_bastore (KS := KS) hx hb hd ho hK hKU H
  case lastore => exact sd_lastore (KS := KS) hx hb hd ho hK hKU H
  case aastore => exact sd_aastore (KS := KS) hx hb hd ho hK hKU H
  case new => exact sd_new (KS := KS) hx hb hd ho hK hown hts hKU hKf H
  case newarray => exact sd_newarray (KS := KS) hx hb hd ho hK hown hts hKU hKf H
  case anewarray => exact sd_anewarray (KS := KS) hx hb hd ho hK hown hts hKU hKf H
  case invokestatic => exact sd_invokestatic (KS := KS) hx hb hd ho hK hown hts hKU hKf hml hC hKS hKW H
  case invokespecial => exact sd_invokespecial (KS := KS) hx hb hd ho hK hown hts hKU hKf hml hC hKS hKW H
  case invokevirtual => exact sd_invokevirtual (KS := KS) hx hb hd ho hK hown hts hKU hKf hml hC hKS hKW H
  case invokedynamic k =>
    match k with
    | 0 => exact sd_prim0 (KS := KS) hx hb hd ho hK hown hts hKU hml hR1 hR2 hfit H
    | 1 => exact sd_prim1 (KS := KS) hx hb hd ho hK hown hts hKU hml hR1 hR2 hfit hSW H
    | 2 => exact sd_prim2 (KS := KS) hx hb hd ho hK hown hts hKU hml hR1 hR2 hfit hSW H
    | 3 => exact sd_prim3 (KS := KS) hx hb hd ho hK hown hts hKU hml hR1 hR2 hfit H
    | 4 => exact sd_prim4 (KS := KS) hx hb hd ho hK hown hts hKU hml hR1 hR2 hfit H
    | 5 => exact sd_prim5 (KS := KS) hx hb hd ho hK hown hts hKU hml hR1 hR2 hfit H
    | k + 6 => exact False.elim H
  case ireturn => exact sd_ireturn (KS := KS) hx hb hd ho hE H
  case lreturn => exact sd_lreturn (KS := KS) hx hb hd ho hE H
  case areturn => exact sd_areturn (KS := KS) hx hb hd ho hE H
  case return_ => exact sd_return_ (KS := KS) hx hb hd ho hE H
  case jsr => simp [okI] at ho
  all_goals exact False.elim H
end
end
section
section
theorem nth_pad : ∀ (n : Nat) (l : List Value) (k : Nat), nth (pad n l) k = nth l k
  | 0, l, k => by simp [pad]
  | n + 1, [], 0 => by simp [pad, nth]
  | n + 1, [], k + 1 => by
    have := nth_pad n [] k
    simp only [pad, nth] at this ⊢
    exact this
  | n + 1, v :: l, 0 => by simp [pad, nth]
  | n + 1, v :: l, k + 1 => by simp [pad, nth, nth_pad n l k]
theorem len_pad : ∀ (n : Nat) (l : List Value), l.length ≤ n → (pad n l).length = n
  | 0, l, h => by simpa [pad] using h
  | n + 1, [], _ => by simp [pad, len_pad n [] (Nat.zero_le _)]
  | n + 1, v :: l, h => by simp [pad, len_pad n l (by simpa using h)]
theorem lay_len (X : CX) : ∀ (a : List Value), (lg_sl (a.map (rnv X))).length = (lay a).length
  | [] => rfl
  | v :: a => by
    have ih := lay_len X a
    unfold lg_sl at ih ⊢
    simp only [List.map_cons, List.flatMap_cons, List.length_append, ih]
    cases v <;> simp [lay, rnv, Value.category] <;> omega
theorem lay_args (X : CX) : ∀ (a : List Value) (i k : Nat), notRet (nth (lay a) k) = true → (i + k, rnv X (nth (lay a) k)) ∈ lv_args i (a.map (rnv X))
  | [], i, k, h => by simp [lay, nth, notRet] at h
  | v :: a, i, k, h => by
    have one : lay (v :: a) = v :: lay a → ¬ (rnv X v).category = 2 → (i + k, rnv X (nth (lay (v :: a)) k)) ∈ lv_args i ((v :: a).map (rnv X)) := by
      intro e hc
      rw [e] at h ⊢
      simp only [List.map_cons, lv_args, if_neg hc]
      cases k with
      | zero => exact List.mem_cons_self
      | succ k =>
        have := lay_args X a (i + 1) k h
        rw [show i + 1 + k = i + (k + 1) by omega] at this
        exact List.mem_cons_of_mem _ this
    have two : lay (v :: a) = v :: .retAddr 0 :: lay a → (rnv X v).category = 2 → (i + k, rnv X (nth (lay (v :: a)) k)) ∈ lv_args i ((v :: a).map (rnv X)) := by
      intro e hc
      rw [e] at h ⊢
      simp only [List.map_cons, lv_args, if_pos hc]
      match k, h with
      | 0, _ => exact List.mem_cons_self
      | 1, h => simp [nth, notRet] at h
      | k + 2, h =>
        have := lay_args X a (i + 2) k h
        rw [show i + 2 + k = i + (k + 2) by omega] at this
        exact List.mem_cons_of_mem _ this
    cases v
    case long => exact two rfl rfl
    case double => exact two rfl rfl
    all_goals exact one rfl (by simp [rnv, Value.category])
theorem entry_LOK {X : CX} {nL : Nat} {a : List Value} {lsM : Array Slot} (hl : (lay a).length ≤ nL) (h : lv_has lsM nL (lv_args 0 (a.map (rnv X)))) : LOK X nL lsM (pad nL (lay a)) := by
  refine ⟨h.1, h.2.1, len_pad _ _ hl, fun k hk => ?_⟩
  rw [nth_pad] at hk ⊢
  have := lay_args X a 0 k hk
  rw [Nat.zero_add] at this
  exact h.2.2 _ this
/-- a list of instructions, from its place on -/
theorem list_sound {X : CX} {KS : CX → State → Prop} {p : Program} {l : Launch} {e : Env} {R : Room} {s : State} {m : MethodId} {args : Array Value} {below : List Frame} {meth : Method} {c : Code} {nL n0 u0 : Nat} {Q : State → Prop} {cc : ByteArray} {own : String} {ini : Bool} {pcOf : Nat → Nat}
    {call : Nat → List Value → PH → (Option Value → PH → Prop) → Prop} {jump : Nat → List Value → List Value → PH → Prop} {fin : Option Value → PH → Prop} {rk : Nat}
    (hx : p.tables.exec = Jvm.exec) (hb : c.code = cc) (hml : c.maxLocals = nL) (hown : s.vm.findClass own = some m.cls) (hts : ∀ w ∈ lw_good, w.before args s = true) (hKU : KU X KS s) (hini : ini = true → meth.name = "<init>")
    (hKS : ∀ u U : State, u.vm = U.vm → KS X u → KS X U) (hKW : ∀ u U : State, u.WarmedH U.vm → KS X u → KS X U) (hSW : StrW X KS) (hR1 : 6 ≤ R.frames) (hR2 : 600 ≤ R.locals)
    (hfit : ∀ is ls st h, wpL call jump fin rk is ls st h → hN h - n0 ≤ R.cells ∧ hU h - u0 ≤ R.slots)
    (hJ : ∀ b ls st h, jump b ls st h → GoW X p l e R s m args below meth c nL n0 u0 Q (pcOf b) ls st h)
    (hC : ∀ m' a g J, okM m' = true → call m' a g J → CallOK X KS l R m' a g J)
    (hE : ∀ r h, fin r h → EndW X p l e R s m args below meth c n0 u0 Q cc rk r h) :
    ∀ (rs : List (Instr × Nat × Nat)) (is : List Instr) (pc : Nat) (ls st : List Value) (h : PH), okB own ini nL cc pcOf pc rs is = true → wpL call jump fin rk is ls st h → GoW X p l e R s m args below meth c nL n0 u0 Q pc ls st h
  | [], is, pc, ls, st, h, ho, H => by
    rcases okB_nil ho with rfl | ⟨b, rfl, rfl⟩
    · exact False.elim H
    · exact hJ _ _ _ _ H
  | r :: rs, is, pc, ls, st, h, ho, H => by
    obtain ⟨i, js, rfl, hd, hoi, hob⟩ := okB_cons ho
    exact step_all (K := wpL call jump fin rk js) hx hb hml hown hts hKU hini hKS hKW hSW hR1 hR2 hd i hoi (hfit _ _ _ _ H)
      (fun ls st h k => list_sound hx hb hml hown hts hKU hini hKS hKW hSW hR1 hR2 hfit hJ hC hE rs js _ ls st h hob k)
      (fun ls st h k => hfit _ _ _ _ k) hJ hC hE H
def SB (X : CX) (KS : CX → State → Prop) (n : Nat) : Prop := ∀ {p : Program} {l : Launch} {e : Env} {R : Room} {s : State} {m : MethodId} {args : Array Value} {below : List Frame} {meth : Method} {c : Code} {n0 u0 : Nat} {Q : State → Prop} (d y b : Nat) (ls st : List Value) (h : PH) (r : Option Value) (hf : PH),
  Ex n d y b ls st h r hf → (y, pnb y) ∈ pids → p.tables.exec = Jvm.exec → c.code = pcd y → c.maxLocals = pnl y → s.vm.findClass (pnm y).cls = some m.cls → (∀ w ∈ lw_good, w.before args s = true) → KU X KS s → (((pnm y).name == "<init>") = true → meth.name = "<init>") →
  d + 6 ≤ R.frames → 100 * (d + 6) ≤ R.locals → hN hf - n0 ≤ R.cells → hU hf - u0 ≤ R.slots → EndW X p l e R s m args below meth c n0 u0 Q (pcd y) (prk y) r hf →
  GoW X p l e R s m args below meth c (pnl y) n0 u0 Q (ppc y b) ls st h
def SM (X : CX) (KS : CX → State → Prop) (n : Nat) : Prop := ∀ (l : Launch) (d y : Nat) (a : List Value) (g : PH) (r : Option Value) (g1 : PH), okM y = true → (lay a).length ≤ pnl y → Ex n d y 0 (pad (pnl y) (lay a)) [] g r g1 →
  Met l (pnm y) (wsOf y) (rmOf d (hN g1 - hN g) (hU g1 - hU g)) (PcOf X KS a g) (QcOf X r g1) (hN g1 - hN g) (hU g1 - hU g) (fun q => xs0 X ≤ q)
theorem okM_pids {y : Nat} (h : okM y = true) : (y, pnb y) ∈ pids ∧ retOk (prk y) (pret y) = true := by
  simp only [okM, Bool.and_eq_true] at h
  obtain ⟨⟨-, h1, h2⟩, -⟩ := h
  exact ⟨by simpa using h2, h1⟩
theorem SB_succ {X : CX} {KS : CX → State → Prop} (hAll : ∀ q ∈ pids, okMs q = true) (hKS : ∀ u U : State, u.vm = U.vm → KS X u → KS X U) (hKW : ∀ u U : State, u.WarmedH U.vm → KS X u → KS X U) (hSW : StrW X KS) {n : Nat} (hB : SB X KS n) (hM : SM X KS n) : SB X KS (n + 1) := by
  intro p l e R s m args below meth c n0 u0 Q d y b ls st h r hf H hy hx hc hml hown hts hKU hini hR1 hR2 hn hu hE
  have hok := hAll _ hy
  unfold Ex at H
  obtain ⟨hb, H⟩ := H
  simp only [okMs, Bool.and_eq_true, List.all_eq_true] at hok
  have hokb := hok.2 b (List.mem_range.mpr hb)
  unfold okMB at hokb
  refine list_sound (R := R) (rk := prk y) hx hc hml hown hts hKU hini hKS hKW hSW (by omega) (by omega) ?_ ?_ ?_ ?_ _ _ _ _ _ _ hokb H
  · intro is ls st g q
    have := wpL_grow (N := hN hf) (U := hU hf) ?_ ?_ ?_ _ _ _ _ q
    · omega
    · rintro m' a g J ⟨d', -, -, r1, g1, h1, h2⟩
      have := Ex_grow _ _ _ _ _ _ _ _ _ h1
      exact ⟨r1, g1, this.1, this.2, h2⟩
    · intro b' ls' st' g q
      exact Ex_grow _ _ _ _ _ _ _ _ _ q
    · rintro r' g ⟨-, rfl⟩
      exact ⟨Nat.le_refl _, Nat.le_refl _⟩
  · intro b' ls' st' g q
    exact hB d y b' ls' st' g r hf q hy hx hc hml hown hts hKU hini hR1 hR2 hn hu hE
  · rintro m' a g J hm' ⟨d', rfl, hl, r1, g1, h1, h2⟩
    have hg := Ex_grow _ _ _ _ _ _ _ _ _ h1
    exact ⟨d', by omega, by omega, r1, g1, hg.1, hg.2, hM l d' m' a g r1 g1 hm' hl h1, h2⟩
  · rintro r' g ⟨rfl, rfl⟩
    exact hE
theorem ret_cases {k : Nat} {r : Option FieldType} (h : retOk k r = true) : (k = 0 → r = none) ∧ (k = 1 → r = some .int) ∧ (k = 2 → r = some .boolean) ∧ (k = 3 → r = some .long) ∧ (k = 4 → ∃ rt, r = some rt ∧ ((∃ n, rt = .object n) ∨ ∃ t, rt = .array t)) := by
  unfold retOk at h
  split at h <;> simp at h <;> subst h <;> simp
theorem SM_of {X : CX} {KS : CX → State → Prop} (hAll : ∀ q ∈ pids, okMs q = true) {n : Nat} (hB : SB X KS n) : SM X KS n := by
  intro l d y a g r g1 hm hl H
  obtain ⟨k1, k2, k3, k4, k5, k6, k7⟩ := okM_spec hm
  obtain ⟨hy, hret⟩ := okM_pids hm
  obtain ⟨rc0, rc1, rc2, rc3, rc4⟩ := ret_cases hret
  have hg := Ex_grow _ _ _ _ _ _ _ _ _ H
  refine Met.ofW (cc := pcd y) (maxL := pnl y) (ret := pret y) k4 rfl ?_
  intro p e s mm args below meth c s₁ B hml hv
  obtain ⟨rfl, hP, hKU⟩ := hv
  have hr := B.returns
  have hlocks := B.notSynchronized
  have hts0 := atoms_spec (ws := wsOf y) B.pre
  have hts : ∀ w ∈ lw_good, w.before (a.map (rnv X)).toArray s = true := fun w hw => hts0 w (List.mem_cons_of_mem _ hw)
  have hown : s.vm.findClass (pnm y).cls = some mm.cls := findClass_of_methodNamed B.named
  have hnm : meth.name = (pnm y).name := (name_of_methodNamed B.named B.method).1
  have hpc : ppc y 0 = 0 := by
    have := hAll _ hy
    simp only [okMs, Bool.and_eq_true, beq_iff_eq] at this
    exact this.1
  have G := hB (p := p) (l := l) (e := e) (R := rmOf d (hN g1 - hN g) (hU g1 - hU g)) (s := s) (m := mm) (args := (a.map (rnv X)).toArray) (below := below) (meth := meth) (c := c) (n0 := hN g) (u0 := hU g) (Q := MQ below (QcOf X r g1) (a.map (rnv X)).toArray s (hN g1 - hN g) (hU g1 - hU g) (fun q => xs0 X ≤ q)) d y 0 _ _ g r g1 H hy B.exec B.bytes hml hown hts hKU (fun z => by rw [hnm]; simpa using z) (Nat.le_refl _) (Nat.le_refl _) (Nat.le_refl _) (Nat.le_refl _) ?_
  · rw [hpc] at G
    rw [lg_entry_eq]
    have hle := lv_entry (a.map (rnv X)) (n := pnl y) (by rw [lay_len]; exact hl)
    generalize (lg_sl (a.map (rnv X)) ++ List.replicate (pnl y - (lg_sl (a.map (rnv X))).length) Slot.unset).toArray = lsM at hle ⊢
    have := G s.heap [] lsM hP (entry_LOK hl hle) (fun q hq => by cases hq) (Nat.le_refl _) (Nat.le_refl _)
    rw [Nat.sub_self, Nat.sub_self] at this
    exact this
  · intro H1 locs lsM pc P1 B1 B2 B3
    refine ⟨fun h1 h2 h3 => ?_, fun x h1 h2 h3 => ?_, fun x h1 h2 h3 => ?_, fun v h1 h2 h3 h4 => ?_⟩
    · subst h1
      exact W.vret B.exec B.bytes (hr.trans (rc0 h2)) (fun t ht _ => ⟨rfl, by rw [ht]; exact P1⟩) B1 h3
    · subst h1
      rcases h2 with h2 | ⟨h2, hx01⟩
      · exact W.iret B.exec B.bytes (hr.trans (rc1 h2)) (fun t ht _ => ⟨rfl, by rw [ht]; exact P1⟩) B1 h3
      · exact W.zret B.exec B.bytes (hr.trans (rc2 h2)) (by rcases hx01 with rfl | rfl <;> rfl) (fun t ht _ => ⟨rfl, by rw [ht]; exact P1⟩) B1 h3
    · subst h1
      exact W.lret B.exec B.bytes (hr.trans (rc3 h2)) (fun t ht _ => ⟨rfl, by rw [ht]; exact P1⟩) B1 h3
    · subst h1
      obtain ⟨rt, e1, e2⟩ := rc4 h2
      exact W.aret B.exec B.bytes (hr.trans e1) e2 (by rcases h3 with rfl | ⟨z, rfl⟩; exact Or.inl rfl; exact Or.inr ⟨_, rfl⟩) (fun t ht _ => ⟨rfl, by rw [ht]; exact P1⟩) B1 h4
/-- THE SECOND MACHINE SPEAKS TRUE OF THE FIRST -/
theorem sound {X : CX} {KS : CX → State → Prop} (hAll : ∀ q ∈ pids, okMs q = true) (hKS : ∀ u U : State, u.vm = U.vm → KS X u → KS X U) (hKW : ∀ u U : State, u.WarmedH U.vm → KS X u → KS X U) (hSW : StrW X KS) : ∀ n, SB X KS n ∧ SM X KS n
  | 0 => ⟨fun _ _ _ _ _ _ _ _ H => False.elim H, fun _ _ _ _ _ _ _ _ _ H => False.elim H⟩
  | n + 1 => by
    have ih := sound hAll hKS hKW hSW n
    refine ⟨?_, ?_⟩
    · exact SB_succ hAll hKS hKW hSW ih.1 ih.2
    · exact SM_of hAll (SB_succ hAll hKS hKW hSW ih.1 ih.2)
end
end
