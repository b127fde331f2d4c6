section
/-! printed by a program of mine (wip/whole/gen/prog.py) out of the claim: the program with its links resolved; a method's number is 8 times its place and how many arguments it takes; a field's 1024 times its kind, 64 times its class and its place; a block begins where a jump ends -/
/- 0: DreamNets.<init>()V -/
def c_0_0 : List Instr := [.aload 0, .invokedynamic 5, .aload 0, .new 582, .dup, .invokespecial 1760, .putfield 2820, .aload 0, .new 69, .dup, .invokespecial 1920, .putfield 2821, .aload 0, .ldc_w 4, .anewarray 110, .putfield 2822, .aload 0, .ldc_w 4, .newarray .int, .putfield 2823, .aload 0, .ldc_w 4, .anewarray 110, .putfield 2824, .aload 0, .ldc_w 30, .newarray .int, .putfield 2825, .aload 0, .ldc_w 40, .newarray .boolean, .putfield 2826, .invokestatic 8, .astore 1, .aload 0, .new 722, .dup, .aload 1, .invokespecial 1569, .putfield 2816, .aload 0, .new 722, .dup, .aload 1, .invokespecial 1569, .putfield 2817, .aload 0, .new 722, .dup, .aload 1, .invokespecial 1569, .putfield 2818, .aload 0, .new 390, .dup, .aload 1, .invokespecial 2257, .putfield 2819, .ldc_w 0, .istore 2, .jsr 1]
def c_0_1 : List Instr := [.iload 2, .ldc_w 4, .if_icmp .ge 2, .aload 0, .getfield 2823, .iload 2, .iconst (-1), .iastore, .iinc 2 1, .goto 1]
def c_0_2 : List Instr := [.return_]
/- 8: DreamNets.boatsOfEachKind()[LDreamNets$Boat; -/
def c_8_0 : List Instr := [.ldc_w 6, .anewarray 111, .astore 0, .aload 0, .ldc_w 0, .new 128, .dup, .invokespecial 1960, .aastore, .aload 0, .ldc_w 1, .new 448, .dup, .invokespecial 2024, .aastore, .aload 0, .ldc_w 2, .new 256, .dup, .invokespecial 2064, .aastore, .aload 0, .ldc_w 3, .new 640, .dup, .invokespecial 2112, .aastore, .aload 0, .ldc_w 4, .new 192, .dup, .invokespecial 2160, .aastore, .aload 0, .ldc_w 5, .new 320, .dup, .invokespecial 2208, .aastore, .aload 0, .areturn]
/- 18: DreamNets.feed(JI)I -/
def c_18_0 : List Instr := [.iload 3, .ldc_w 1, .ldc_w 8, .invokestatic 27, .ifCond .eq 1, .iconst (-1), .ireturn]
def c_18_1 : List Instr := [.aload 0, .getfield 2820, .getfield 577, .iload 3, .iadd, .ldc_w 200, .if_icmp .le 2, .iconst (-2), .ireturn]
def c_18_2 : List Instr := [.ldc_w 0, .istore 4, .jsr 3]
def c_18_3 : List Instr := [.iload 4, .iload 3, .if_icmp .ge 4, .aload 0, .getfield 2820, .lload 1, .ldc_w 8, .iload 4, .imul, .lushr, .l2i, .ldc_w 255, .iand, .invokevirtual 91769, .iinc 4 1, .goto 3]
def c_18_4 : List Instr := [.aload 0, .getfield 2820, .getfield 577, .ireturn]
/- 27: DreamNets.outside(III)Z -/
def c_27_0 : List Instr := [.iload 0, .iload 1, .if_icmp .lt 1, .iload 0, .iload 2, .if_icmp .le 2, .jsr 1]
def c_27_1 : List Instr := [.ldc_w 1, .goto 3]
def c_27_2 : List Instr := [.ldc_w 0, .jsr 3]
def c_27_3 : List Instr := [.ireturn]
/- 32: DreamNets.harbour()I -/
def c_32_0 : List Instr := [.aload 0, .getfield 2818, .invokevirtual 111576, .aload 0, .getfield 2818, .aload 0, .getfield 2816, .getfield 721, .putfield 721, .aload 0, .getfield 2820, .aload 0, .getfield 2818, .invokevirtual 91777, .istore 1, .aload 0, .getfield 2820, .ldc_w 0, .putfield 577, .iload 1, .ifCond .ne 1, .iconst (-100), .aload 0, .getfield 2820, .getfield 578, .isub, .ireturn]
def c_32_1 : List Instr := [.aload 0, .getfield 2816, .aload 0, .getfield 2818, .invokevirtual 111593, .aload 0, .ldc_w 0, .putfield 779, .aload 0, .getfield 2816, .getfield 718, .ireturn]
/- 42: DreamNets.set(II)I -/
def c_42_0 : List Instr := [.iload 1, .ldc_w 0, .ldc_w 2, .invokestatic 27, .ifCond .ne 1, .iload 2, .getstatic 3, .iload 1, .iaload, .getstatic 4, .iload 1, .iaload, .invokestatic 27, .ifCond .eq 2, .jsr 1]
def c_42_1 : List Instr := [.iconst (-1), .ireturn]
def c_42_2 : List Instr := [.aload 0, .getfield 2816, .getfield 2753, .iload 1, .iload 2, .invokestatic 51, .ireturn]
/- 51: DreamNets.exchange([III)I -/
def c_51_0 : List Instr := [.aload 0, .iload 1, .iaload, .istore 3, .aload 0, .iload 1, .iload 2, .iastore, .iload 3, .ireturn]
/- 57: DreamNets.lawOf(I)I -/
def c_57_0 : List Instr := [.iload 1, .ldc_w 0, .ldc_w 2, .invokestatic 27, .ifCond .eq 1, .iconst (-1), .goto 2]
def c_57_1 : List Instr := [.aload 0, .getfield 2816, .getfield 2753, .iload 1, .iaload, .jsr 2]
def c_57_2 : List Instr := [.ireturn]
/- 66: DreamNets.price(II)I -/
def c_66_0 : List Instr := [.iload 1, .invokestatic 73, .ifCond .ne 1, .iload 2, .ldc_w 1, .ldc_w 30, .invokestatic 27, .ifCond .eq 2, .jsr 1]
def c_66_1 : List Instr := [.iconst (-1), .ireturn]
def c_66_2 : List Instr := [.aload 0, .getfield 2816, .getfield 2754, .iload 1, .iload 2, .invokestatic 51, .ireturn]
/- 73: DreamNets.noSort(I)Z -/
def c_73_0 : List Instr := [.iload 0, .ldc_w 0, .ldc_w 4, .invokestatic 27, .ireturn]
/- 82: DreamNets.quota(II)I -/
def c_82_0 : List Instr := [.iload 1, .invokestatic 89, .ifCond .ne 1, .iload 2, .ldc_w 0, .ldc_w 999, .invokestatic 27, .ifCond .eq 2, .jsr 1]
def c_82_1 : List Instr := [.iconst (-1), .ireturn]
def c_82_2 : List Instr := [.aload 0, .getfield 2816, .getfield 2758, .iload 1, .iload 2, .invokestatic 51, .ireturn]
/- 89: DreamNets.noWard(I)Z -/
def c_89_0 : List Instr := [.iload 0, .ldc_w 0, .ldc_w 3, .invokestatic 27, .ireturn]
/- 98: DreamNets.ward(II)I -/
def c_98_0 : List Instr := [.iload 1, .invokestatic 89, .ifCond .eq 1, .iconst (-1), .ireturn]
def c_98_1 : List Instr := [.iload 2, .tableswitch 5 0 2 #[2, 3, 4]]
def c_98_2 : List Instr := [.aload 0, .getfield 2816, .getfield 2758, .iload 1, .iaload, .ireturn]
def c_98_3 : List Instr := [.aload 0, .getfield 2816, .getfield 2759, .iload 1, .iaload, .ireturn]
def c_98_4 : List Instr := [.aload 0, .getfield 2816, .iload 1, .invokevirtual 111601, .ireturn]
def c_98_5 : List Instr := [.iconst (-1), .ireturn]
/- 106: DreamNets.street(II)I -/
def c_106_0 : List Instr := [.iload 1, .invokestatic 113, .ifCond .ne 1, .iload 2, .ldc_w 0, .ldc_w 7, .invokestatic 27, .ifCond .eq 2, .jsr 1]
def c_106_1 : List Instr := [.iconst (-1), .ireturn]
def c_106_2 : List Instr := [.iload 2, .tableswitch 6 5 7 #[3, 4, 5]]
def c_106_3 : List Instr := [.aload 0, .getfield 2816, .getfield 2756, .iload 1, .iaload, .ireturn]
def c_106_4 : List Instr := [.aload 0, .getfield 2816, .getfield 2757, .iload 1, .iaload, .ireturn]
def c_106_5 : List Instr := [.aload 0, .getfield 2816, .iload 1, .invokevirtual 111609, .ireturn]
def c_106_6 : List Instr := [.aload 0, .getfield 2816, .getfield 2755, .iload 1, .ldc_w 5, .imul, .iload 2, .iadd, .iaload, .ireturn]
/- 113: DreamNets.noStreet(I)Z -/
def c_113_0 : List Instr := [.iload 0, .ldc_w 0, .ldc_w 7, .invokestatic 27, .ireturn]
/- 123: DreamNets.sleep(III)I -/
def c_123_0 : List Instr := [.iload 1, .invokestatic 113, .ifCond .ne 1, .iload 2, .ldc_w 0, .ldc_w 5, .invokestatic 27, .ifCond .eq 2, .jsr 1]
def c_123_1 : List Instr := [.iconst (-1), .ireturn]
def c_123_2 : List Instr := [.iload 3, .ldc_w 0, .iload 2, .ldc_w 5, .if_icmp .ne 3, .ldc_w 9, .goto 4]
def c_123_3 : List Instr := [.ldc_w 99, .jsr 4]
def c_123_4 : List Instr := [.invokestatic 27, .ifCond .eq 5, .iconst (-1), .ireturn]
def c_123_5 : List Instr := [.iload 2, .ldc_w 5, .if_icmp .ne 6, .aload 0, .getfield 2816, .getfield 2756, .iload 1, .iload 3, .invokestatic 51, .ireturn]
def c_123_6 : List Instr := [.aload 0, .getfield 2816, .getfield 2755, .iload 1, .ldc_w 5, .imul, .iload 2, .iadd, .iload 3, .invokestatic 51, .ireturn]
/- 132: DreamNets.boat(IIII)I -/
def c_132_0 : List Instr := [.iload 1, .invokestatic 137, .ifCond .ne 1, .iload 2, .ldc_w 0, .ldc_w 9, .invokestatic 27, .ifCond .ne 1, .iload 3, .invokestatic 113, .ifCond .ne 1, .iload 4, .ldc_w 0, .ldc_w 9, .invokestatic 27, .ifCond .eq 2, .jsr 1]
def c_132_1 : List Instr := [.iconst (-1), .ireturn]
def c_132_2 : List Instr := [.aload 0, .getfield 2816, .getfield 718, .ldc_w 6, .if_icmp .lt 3, .iconst (-2), .ireturn]
def c_132_3 : List Instr := [.aload 0, .getfield 2816, .iload 1, .iload 2, .iload 3, .iload 4, .invokevirtual 111588, .ireturn]
/- 137: DreamNets.noKind(I)Z -/
def c_137_0 : List Instr := [.iload 0, .ldc_w 0, .ldc_w 5, .invokestatic 27, .ireturn]
/- 146: DreamNets.of(II)I -/
def c_146_0 : List Instr := [.aload 0, .iload 1, .invokevirtual 120153, .ifCond .ne 1, .iload 2, .ldc_w 0, .ldc_w 10, .invokestatic 27, .ifCond .eq 2, .jsr 1]
def c_146_1 : List Instr := [.iconst (-1), .ireturn]
def c_146_2 : List Instr := [.iload 2, .tableswitch 9 0 10 #[3, 4, 5, 6, 7, 9, 9, 9, 9, 9, 8]]
def c_146_3 : List Instr := [.aload 0, .getfield 2816, .getfield 2760, .iload 1, .iaload, .ireturn]
def c_146_4 : List Instr := [.aload 0, .getfield 2816, .getfield 2761, .iload 1, .iaload, .ireturn]
def c_146_5 : List Instr := [.aload 0, .getfield 2816, .getfield 2762, .iload 1, .iaload, .ireturn]
def c_146_6 : List Instr := [.aload 0, .getfield 2816, .getfield 2763, .iload 1, .iaload, .ireturn]
def c_146_7 : List Instr := [.aload 0, .getfield 2816, .getfield 2764, .iload 1, .iaload, .ireturn]
def c_146_8 : List Instr := [.aload 0, .getfield 2816, .iload 1, .invokevirtual 111617, .ireturn]
def c_146_9 : List Instr := [.aload 0, .getfield 2816, .getfield 2765, .iload 1, .ldc_w 5, .imul, .iload 2, .iadd, .ldc_w 5, .isub, .iaload, .ireturn]
/- 153: DreamNets.noBoat(I)Z -/
def c_153_0 : List Instr := [.iload 1, .ldc_w 0, .aload 0, .getfield 2816, .getfield 718, .ldc_w 1, .isub, .invokestatic 27, .ireturn]
/- 163: DreamNets.mind(III)I -/
def c_163_0 : List Instr := [.aload 0, .iload 1, .invokevirtual 120153, .ifCond .ne 1, .iload 2, .invokestatic 137, .ifCond .ne 1, .iload 3, .ldc_w 0, .ldc_w 9, .invokestatic 27, .ifCond .eq 2, .jsr 1]
def c_163_1 : List Instr := [.iconst (-1), .ireturn]
def c_163_2 : List Instr := [.aload 0, .getfield 2816, .getfield 2761, .iload 1, .iload 3, .iastore, .aload 0, .getfield 2816, .getfield 2760, .iload 1, .iload 2, .invokestatic 51, .ireturn]
/- 170: DreamNets.move(II)I -/
def c_170_0 : List Instr := [.aload 0, .iload 1, .invokevirtual 120153, .ifCond .ne 1, .iload 2, .invokestatic 113, .ifCond .eq 2, .jsr 1]
def c_170_1 : List Instr := [.iconst (-1), .ireturn]
def c_170_2 : List Instr := [.aload 0, .getfield 2816, .getfield 2762, .iload 1, .iload 2, .invokestatic 51, .ireturn]
/- 178: DreamNets.mesh(II)I -/
def c_178_0 : List Instr := [.aload 0, .iload 1, .invokevirtual 120153, .ifCond .ne 1, .iload 2, .ldc_w 0, .ldc_w 9, .invokestatic 27, .ifCond .eq 2, .jsr 1]
def c_178_1 : List Instr := [.iconst (-1), .ireturn]
def c_178_2 : List Instr := [.aload 0, .getfield 2816, .getfield 2763, .iload 1, .iload 2, .invokestatic 51, .ireturn]
/- 185: DreamNets.patch(I)I -/
def c_185_0 : List Instr := [.aload 0, .iload 1, .invokevirtual 120153, .ifCond .eq 1, .iconst (-1), .goto 2]
def c_185_1 : List Instr := [.aload 0, .getfield 2816, .getfield 2764, .iload 1, .ldc_w 0, .invokestatic 51, .jsr 2]
def c_185_2 : List Instr := [.ireturn]
/- 194: DreamNets.takes(II)I -/
def c_194_0 : List Instr := [.aload 0, .iload 1, .invokevirtual 120153, .ifCond .ne 1, .iload 2, .invokestatic 73, .ifCond .eq 2, .jsr 1]
def c_194_1 : List Instr := [.iconst (-1), .goto 3]
def c_194_2 : List Instr := [.aload 0, .getfield 2816, .iload 1, .iload 2, .invokevirtual 111626, .jsr 3]
def c_194_3 : List Instr := [.ireturn]
/- 201: DreamNets.tears(I)I -/
def c_201_0 : List Instr := [.aload 0, .iload 1, .invokevirtual 120153, .ifCond .eq 1, .iconst (-1), .goto 2]
def c_201_1 : List Instr := [.aload 0, .getfield 2816, .iload 1, .invokevirtual 111641, .jsr 2]
def c_201_2 : List Instr := [.ireturn]
/- 209: DreamNets.haul(I)I -/
def c_209_0 : List Instr := [.aload 0, .iload 1, .invokevirtual 120153, .ifCond .eq 1, .iconst (-1), .ireturn]
def c_209_1 : List Instr := [.aload 0, .getfield 2816, .iload 1, .invokevirtual 111649, .ifCond .eq 2, .aload 0, .getfield 2816, .iload 1, .invokevirtual 111657, .goto 3]
def c_209_2 : List Instr := [.iconst (-4), .jsr 3]
def c_209_3 : List Instr := [.ireturn]
/- 218: DreamNets.free(II)I -/
def c_218_0 : List Instr := [.aload 0, .iload 1, .invokevirtual 120153, .ifCond .ne 1, .iload 2, .invokestatic 73, .ifCond .eq 2, .jsr 1]
def c_218_1 : List Instr := [.iconst (-1), .ireturn]
def c_218_2 : List Instr := [.aload 0, .getfield 2816, .getfield 2765, .iload 1, .ldc_w 5, .imul, .iload 2, .iadd, .ldc_w 0, .invokestatic 51, .istore 3, .aload 0, .getfield 2816, .getfield 2762, .iload 1, .iaload, .ldc_w 5, .imul, .iload 2, .iadd, .istore 4, .aload 0, .getfield 2816, .getfield 2755, .iload 4, .ldc_w 99, .aload 0, .getfield 2816, .getfield 2755, .iload 4, .iaload, .iload 3, .iadd, .invokedynamic 4, .iastore, .iload 3, .ireturn]
/- 225: DreamNets.land(I)I -/
def c_225_0 : List Instr := [.aload 0, .iload 1, .invokevirtual 120153, .ifCond .eq 1, .iconst (-1), .ireturn]
def c_225_1 : List Instr := [.aload 0, .getfield 2816, .iload 1, .invokevirtual 111617, .istore 2, .aload 0, .getfield 2816, .dup, .getfield 720, .iload 2, .iadd, .putfield 720, .ldc_w 0, .istore 3, .jsr 2]
def c_225_2 : List Instr := [.iload 3, .ldc_w 5, .if_icmp .ge 3, .aload 0, .getfield 2816, .getfield 2765, .iload 1, .ldc_w 5, .imul, .iload 3, .iadd, .ldc_w 0, .iastore, .iinc 3 1, .goto 2]
def c_225_3 : List Instr := [.iload 2, .ireturn]
/- 233: DreamNets.bells(I)I -/
def c_233_0 : List Instr := [.iload 1, .ldc_w 1, .ldc_w 48, .invokestatic 27, .ifCond .eq 1, .iconst (-1), .ireturn]
def c_233_1 : List Instr := [.ldc_w 0, .istore 2, .jsr 2]
def c_233_2 : List Instr := [.iload 2, .iload 1, .if_icmp .ge 3, .aload 0, .getfield 2816, .invokevirtual 111664, .iinc 2 1, .goto 2]
def c_233_3 : List Instr := [.aload 0, .getfield 2816, .getfield 719, .ireturn]
/- 241: DreamNets.cast(I)I -/
def c_241_0 : List Instr := [.aload 0, .iload 1, .invokevirtual 120153, .ifCond .eq 1, .iconst (-1), .goto 2]
def c_241_1 : List Instr := [.aload 0, .getfield 2816, .iload 1, .invokevirtual 111681, .jsr 2]
def c_241_2 : List Instr := [.ireturn]
/- 249: DreamNets.seed(I)I -/
def c_249_0 : List Instr := [.aload 0, .getfield 2816, .getfield 721, .istore 2, .aload 0, .getfield 2816, .iload 1, .putfield 721, .iload 2, .ireturn]
/- 256: DreamNets.night()I -/
def c_256_0 : List Instr := [.aload 0, .getfield 2816, .invokevirtual 111696, .ireturn]
/- 266: DreamNets.month(II)I -/
def c_266_0 : List Instr := [.iload 1, .ldc_w 1, .ldc_w 30, .invokestatic 27, .ifCond .ne 1, .iload 2, .ldc_w 0, .ldc_w 999, .invokestatic 27, .ifCond .eq 2, .jsr 1]
def c_266_1 : List Instr := [.iconst (-1), .ireturn]
def c_266_2 : List Instr := [.aload 0, .getfield 2816, .getfield 721, .istore 3, .ldc_w 0, .istore 4, .ldc_w 0, .istore 5, .jsr 3]
def c_266_3 : List Instr := [.iload 5, .iload 1, .if_icmp .ge 5, .aload 0, .getfield 2818, .aload 0, .getfield 2816, .invokevirtual 111593, .aload 0, .getfield 2818, .iload 3, .putfield 721, .aload 0, .getfield 2818, .invokevirtual 111696, .iload 2, .if_icmp .lt 4, .iinc 4 1, .jsr 4]
def c_266_4 : List Instr := [.aload 0, .getfield 2818, .getfield 721, .istore 3, .iinc 5 1, .goto 3]
def c_266_5 : List Instr := [.iload 4, .ireturn]
/- 273: DreamNets.state(I)I -/
def c_273_0 : List Instr := [.iload 1, .tableswitch 7 0 5 #[1, 2, 3, 4, 5, 6]]
def c_273_1 : List Instr := [.aload 0, .getfield 2816, .getfield 719, .ireturn]
def c_273_2 : List Instr := [.aload 0, .getfield 2816, .getfield 720, .ireturn]
def c_273_3 : List Instr := [.aload 0, .getfield 2816, .getfield 2755, .ldc_w 40, .invokestatic 282, .ireturn]
def c_273_4 : List Instr := [.aload 0, .getfield 2816, .getfield 2765, .aload 0, .getfield 2816, .getfield 718, .ldc_w 5, .imul, .invokestatic 282, .ireturn]
def c_273_5 : List Instr := [.aload 0, .getfield 2816, .invokevirtual 111704, .ireturn]
def c_273_6 : List Instr := [.aload 0, .invokevirtual 120288, .ireturn]
def c_273_7 : List Instr := [.iconst (-1), .ireturn]
/- 282: DreamNets.sum([II)I -/
def c_282_0 : List Instr := [.ldc_w 0, .istore 2, .ldc_w 0, .istore 3, .jsr 1]
def c_282_1 : List Instr := [.iload 3, .iload 1, .if_icmp .ge 2, .iload 3, .aload 0, .arraylength, .if_icmp .ge 2, .iload 2, .aload 0, .iload 3, .iaload, .iadd, .istore 2, .iinc 3 1, .goto 1]
def c_282_2 : List Instr := [.iload 2, .ireturn]
/- 288: DreamNets.boatsThatMay()I -/
def c_288_0 : List Instr := [.ldc_w 0, .istore 1, .ldc_w 0, .istore 2, .jsr 1]
def c_288_1 : List Instr := [.iload 2, .aload 0, .getfield 2816, .getfield 718, .if_icmp .ge 3, .aload 0, .getfield 2816, .iload 2, .invokevirtual 111649, .ifCond .eq 2, .iload 1, .ldc_w 1, .iload 2, .ishl, .ior, .istore 1, .jsr 2]
def c_288_2 : List Instr := [.iinc 2 1, .goto 1]
def c_288_3 : List Instr := [.iload 1, .ireturn]
/- 298: DreamNets.plan(II)I -/
def c_298_0 : List Instr := [.aload 0, .iload 1, .invokevirtual 120153, .ifCond .ne 1, .iload 2, .ldc_w 0, .ldc_w 4, .invokestatic 27, .ifCond .eq 2, .jsr 1]
def c_298_1 : List Instr := [.iconst (-1), .ireturn]
def c_298_2 : List Instr := [.aload 0, .iload 1, .iload 2, .invokevirtual 120306, .aload 0, .getfield 2819, .getfield 389, .ireturn]
/- 306: DreamNets.findWay(II)V -/
def c_306_0 : List Instr := [.aload 0, .getfield 2819, .iload 1, .putfield 387, .aload 0, .getfield 2819, .iload 2, .putfield 388, .aload 0, .getfield 2819, .iconst (-1), .putfield 389, .aload 0, .getfield 2819, .getfield 2432, .ldc_w 0, .aaload, .aload 0, .getfield 2816, .invokevirtual 111593, .aload 0, .getfield 2819, .ldc_w 0, .ldc_w 0, .invokestatic 315, .return_]
/- 315: DreamNets.explore(LDreamNets$Search;II)V -/
def c_315_0 : List Instr := [.iload 1, .aload 0, .getfield 388, .if_icmp .ge 1, .iload 1, .ldc_w 4, .if_icmp .lt 2, .jsr 1]
def c_315_1 : List Instr := [.aload 0, .iload 2, .invokevirtual 62265, .return_]
def c_315_2 : List Instr := [.aload 0, .getfield 2432, .iload 1, .aaload, .astore 3, .aload 0, .getfield 2432, .iload 1, .ldc_w 1, .iadd, .aaload, .astore 4, .aload 3, .getfield 2762, .aload 0, .getfield 387, .iaload, .istore 5, .ldc_w 0, .istore 6, .jsr 3]
def c_315_3 : List Instr := [.iload 6, .ldc_w 8, .if_icmp .ge 6, .iload 6, .iload 5, .isub, .ldc_w 8, .iadd, .ldc_w 8, .irem, .istore 7, .iload 7, .ldc_w 1, .if_icmp .le 4, .iload 7, .ldc_w 7, .if_icmp .ne 5, .jsr 4]
def c_315_4 : List Instr := [.aload 4, .aload 3, .invokevirtual 111593, .aload 4, .getfield 2762, .aload 0, .getfield 387, .iload 6, .iastore, .aload 0, .getfield 2433, .iload 1, .iload 6, .iastore, .aload 4, .aload 0, .getfield 387, .invokevirtual 111713, .istore 8, .aload 4, .invokevirtual 111664, .aload 0, .iload 1, .ldc_w 1, .iadd, .iload 2, .iload 8, .iadd, .invokestatic 315, .jsr 5]
def c_315_5 : List Instr := [.iinc 6 1, .goto 3]
def c_315_6 : List Instr := [.return_]
/- 323: DreamNets.stop(III)I -/
def c_323_0 : List Instr := [.aload 0, .iload 1, .invokevirtual 120153, .ifCond .ne 1, .iload 2, .ldc_w 0, .ldc_w 4, .invokestatic 27, .ifCond .ne 1, .iload 3, .ldc_w 0, .ldc_w 3, .invokestatic 27, .ifCond .eq 2, .jsr 1]
def c_323_1 : List Instr := [.iconst (-1), .ireturn]
def c_323_2 : List Instr := [.iload 3, .iload 2, .if_icmp .lt 3, .iconst (-3), .ireturn]
def c_323_3 : List Instr := [.aload 0, .iload 1, .iload 2, .invokevirtual 120306, .aload 0, .getfield 2819, .getfield 2434, .iload 3, .iaload, .ireturn]
/- 331: DreamNets.fine(III)I -/
def c_331_0 : List Instr := [.aload 0, .iload 1, .invokevirtual 120153, .ifCond .ne 1, .iload 2, .ldc_w 1, .ldc_w 9, .invokestatic 27, .ifCond .ne 1, .iload 3, .ldc_w 0, .ldc_w 1, .invokestatic 27, .ifCond .eq 2, .jsr 1]
def c_331_1 : List Instr := [.iconst (-1), .ireturn]
def c_331_2 : List Instr := [.ldc_w 0, .istore 4, .ldc_w 0, .istore 5, .ldc_w 0, .istore 6, .jsr 3]
def c_331_3 : List Instr := [.iload 6, .ldc_w 9, .if_icmp .gt 5, .aload 0, .iload 1, .iload 6, .iload 2, .invokevirtual 120339, .istore 7, .iload 7, .iload 5, .if_icmp .lt 4, .iload 6, .istore 4, .iload 7, .istore 5, .jsr 4]
def c_331_4 : List Instr := [.iinc 6 1, .goto 3]
def c_331_5 : List Instr := [.iload 3, .ifCond .ne 6, .iload 4, .goto 7]
def c_331_6 : List Instr := [.iload 5, .jsr 7]
def c_331_7 : List Instr := [.ireturn]
/- 339: DreamNets.worthByMesh(III)I -/
def c_339_0 : List Instr := [.aload 0, .getfield 2818, .aload 0, .getfield 2816, .invokevirtual 111593, .aload 0, .getfield 2818, .getfield 2763, .iload 1, .iload 2, .iastore, .ldc_w 0, .istore 4, .ldc_w 0, .istore 5, .jsr 1]
def c_339_1 : List Instr := [.iload 5, .iload 3, .if_icmp .ge 2, .iload 4, .aload 0, .getfield 2818, .iload 1, .invokevirtual 111713, .iadd, .istore 4, .aload 0, .getfield 2818, .invokevirtual 111664, .iinc 5 1, .goto 1]
def c_339_2 : List Instr := [.iload 4, .ireturn]
/- 344: DreamNets.lasts()I -/
def c_344_0 : List Instr := [.aload 0, .getfield 2818, .aload 0, .getfield 2816, .invokevirtual 111593, .ldc_w 0, .istore 1, .jsr 1]
def c_344_1 : List Instr := [.iload 1, .ldc_w 48, .if_icmp .gt 5, .aload 0, .getfield 2818, .invokevirtual 111704, .ifCond .eq 2, .iload 1, .ireturn]
def c_344_2 : List Instr := [.ldc_w 0, .istore 2, .jsr 3]
def c_344_3 : List Instr := [.iload 2, .aload 0, .getfield 2818, .getfield 718, .if_icmp .ge 4, .aload 0, .getfield 2818, .iload 2, .invokevirtual 111657, .pop, .iinc 2 1, .goto 3]
def c_344_4 : List Instr := [.aload 0, .getfield 2818, .invokevirtual 111664, .iinc 1 1, .goto 1]
def c_344_5 : List Instr := [.iconst (-3), .ireturn]
/- 354: DreamNets.shoal(II)I -/
def c_354_0 : List Instr := [.iload 1, .invokestatic 361, .ifCond .ne 1, .iload 2, .ldc_w 0, .ldc_w 1, .invokestatic 27, .ifCond .eq 2, .jsr 1]
def c_354_1 : List Instr := [.iconst (-1), .ireturn]
def c_354_2 : List Instr := [.aload 0, .getfield 2822, .iload 1, .aaload, .ifnonnull 3, .iconst (-11), .ireturn]
def c_354_3 : List Instr := [.aload 0, .aload 0, .getfield 2822, .iload 1, .aaload, .invokevirtual 120369, .iload 2, .ifCond .ne 4, .aload 0, .invokevirtual 120376, .goto 5]
def c_354_4 : List Instr := [.aload 0, .invokevirtual 120384, .jsr 5]
def c_354_5 : List Instr := [.ireturn]
/- 361: DreamNets.noSheet(I)Z -/
def c_361_0 : List Instr := [.iload 0, .ldc_w 0, .ldc_w 3, .invokestatic 27, .ireturn]
/- 369: DreamNets.findShoal(LDreamNets$Sheet;)V -/
def c_369_0 : List Instr := [.ldc_w 0, .istore 2, .jsr 1]
def c_369_1 : List Instr := [.iload 2, .aload 0, .getfield 2826, .arraylength, .if_icmp .ge 2, .aload 0, .getfield 2826, .iload 2, .ldc_w 1, .bastore, .iinc 2 1, .goto 1]
def c_369_2 : List Instr := [.aload 0, .getfield 2818, .aload 0, .getfield 2816, .invokevirtual 111593, .ldc_w 0, .istore 2, .jsr 3]
def c_369_3 : List Instr := [.iload 2, .aload 1, .getfield 2561, .arraylength, .if_icmp .ge 8, .ldc_w 0, .istore 3, .jsr 4]
def c_369_4 : List Instr := [.iload 3, .aload 0, .getfield 2826, .arraylength, .if_icmp .ge 7, .aload 0, .getfield 2826, .iload 3, .aload 0, .getfield 2826, .iload 3, .baload, .ifCond .eq 5, .aload 0, .getfield 2818, .getfield 2755, .iload 3, .iaload, .i2l, .aload 1, .getfield 2561, .iload 2, .laload, .lcmp, .ifCond .ne 5, .ldc_w 1, .goto 6]
def c_369_5 : List Instr := [.ldc_w 0, .jsr 6]
def c_369_6 : List Instr := [.bastore, .iinc 3 1, .goto 4]
def c_369_7 : List Instr := [.aload 0, .getfield 2818, .invokevirtual 111664, .iinc 2 1, .goto 3]
def c_369_8 : List Instr := [.return_]
/- 376: DreamNets.countFits()I -/
def c_376_0 : List Instr := [.ldc_w 0, .istore 1, .ldc_w 0, .istore 2, .jsr 1]
def c_376_1 : List Instr := [.iload 2, .aload 0, .getfield 2826, .arraylength, .if_icmp .ge 3, .aload 0, .getfield 2826, .iload 2, .baload, .ifCond .eq 2, .iinc 1 1, .jsr 2]
def c_376_2 : List Instr := [.iinc 2 1, .goto 1]
def c_376_3 : List Instr := [.iload 1, .ireturn]
/- 384: DreamNets.firstFit()I -/
def c_384_0 : List Instr := [.ldc_w 0, .istore 1, .jsr 1]
def c_384_1 : List Instr := [.iload 1, .aload 0, .getfield 2826, .arraylength, .if_icmp .ge 3, .aload 0, .getfield 2826, .iload 1, .baload, .ifCond .eq 2, .ldc_w 10, .iload 1, .ldc_w 5, .idiv, .imul, .iload 1, .ldc_w 5, .irem, .iadd, .ireturn]
def c_384_2 : List Instr := [.iinc 1 1, .goto 1]
def c_384_3 : List Instr := [.iconst (-3), .ireturn]
/- 394: DreamNets.pieces(II)I -/
def c_394_0 : List Instr := [.iload 1, .invokestatic 73, .ifCond .ne 1, .iload 2, .ldc_w 0, .ldc_w 999, .invokestatic 27, .ifCond .eq 2, .jsr 1]
def c_394_1 : List Instr := [.iconst (-1), .ireturn]
def c_394_2 : List Instr := [.iconst (-3), .istore 3, .ldc_w 0, .istore 4, .jsr 3]
def c_394_3 : List Instr := [.iload 4, .ldc_w 1, .aload 0, .getfield 2816, .getfield 718, .ishl, .if_icmp .ge 8, .iload 3, .iconst (-3), .if_icmp .eq 4, .iload 4, .invokestatic 2273, .iload 3, .invokestatic 2273, .if_icmp .ge 5, .jsr 4]
def c_394_4 : List Instr := [.ldc_w 1, .goto 6]
def c_394_5 : List Instr := [.ldc_w 0, .jsr 6]
def c_394_6 : List Instr := [.istore 5, .iload 5, .ifCond .eq 7, .aload 0, .getfield 2816, .iload 4, .iload 1, .invokevirtual 111722, .iload 2, .if_icmp .ne 7, .iload 4, .istore 3, .jsr 7]
def c_394_7 : List Instr := [.iinc 4 1, .goto 3]
def c_394_8 : List Instr := [.iload 3, .ireturn]
/- 400: DreamNets.gives()I -/
def c_400_0 : List Instr := [.ldc_w 0, .istore 1, .ldc_w 1, .istore 2, .jsr 1]
def c_400_1 : List Instr := [.iload 2, .ldc_w 4, .if_icmp .ge 3, .aload 0, .getfield 2816, .getfield 2759, .iload 2, .iaload, .i2l, .ldc_w 1, .aload 0, .getfield 2816, .iload 1, .invokevirtual 111601, .invokedynamic 3, .i2l, .lmul, .lstore 3, .aload 0, .getfield 2816, .getfield 2759, .iload 1, .iaload, .i2l, .ldc_w 1, .aload 0, .getfield 2816, .iload 2, .invokevirtual 111601, .invokedynamic 3, .i2l, .lmul, .lstore 5, .lload 3, .lload 5, .lcmp, .ifCond .le 2, .iload 2, .istore 1, .jsr 2]
def c_400_2 : List Instr := [.iinc 2 1, .goto 1]
def c_400_3 : List Instr := [.iload 1, .ireturn]
/- 411: DreamNets.when(III)I -/
def c_411_0 : List Instr := [.iload 1, .invokestatic 113, .ifCond .ne 1, .iload 2, .invokestatic 73, .ifCond .ne 1, .iload 3, .ldc_w 0, .ldc_w 99, .invokestatic 27, .ifCond .eq 2, .jsr 1]
def c_411_1 : List Instr := [.iconst (-1), .ireturn]
def c_411_2 : List Instr := [.aload 0, .getfield 2818, .aload 0, .getfield 2816, .invokevirtual 111593, .ldc_w 0, .istore 4, .jsr 3]
def c_411_3 : List Instr := [.iload 4, .ldc_w 48, .if_icmp .gt 5, .aload 0, .getfield 2818, .getfield 2755, .iload 1, .ldc_w 5, .imul, .iload 2, .iadd, .iaload, .iload 3, .if_icmp .lt 4, .iload 4, .ireturn]
def c_411_4 : List Instr := [.aload 0, .getfield 2818, .invokevirtual 111664, .iinc 4 1, .goto 3]
def c_411_5 : List Instr := [.iconst (-3), .ireturn]
/- 418: DreamNets.odds(II)J -/
def c_418_0 : List Instr := [.iload 1, .ldc_w 0, .ldc_w 8, .invokestatic 27, .ifCond .ne 1, .iload 2, .ldc_w 0, .ldc_w 1, .invokestatic 27, .ifCond .eq 2, .jsr 1]
def c_418_1 : List Instr := [.jsr_w (-1), .lreturn]
def c_418_2 : List Instr := [.ldc2_w 100, .iload 1, .invokestatic 426, .lstore 3, .lload 3, .aload 0, .getfield 2816, .getfield 2753, .ldc_w 0, .iaload, .i2l, .iload 1, .invokestatic 426, .lsub, .lload 3, .iload 2, .invokestatic 435, .lreturn]
/- 426: DreamNets.power(JI)J -/
def c_426_0 : List Instr := [.ldc2_w 1, .lstore 3, .ldc_w 0, .istore 5, .jsr 1]
def c_426_1 : List Instr := [.iload 5, .iload 2, .if_icmp .ge 2, .lload 3, .lload 0, .lmul, .lstore 3, .iinc 5 1, .goto 1]
def c_426_2 : List Instr := [.lload 3, .lreturn]
/- 435: DreamNets.partOf(JJI)J -/
def c_435_0 : List Instr := [.lload 2, .lstore 5, .lload 0, .lstore 7, .ldc_w 0, .istore 9, .jsr 1]
def c_435_1 : List Instr := [.iload 9, .ldc_w 200, .if_icmp .ge 2, .lload 7, .ldc2_w 0, .lcmp, .ifCond .eq 2, .lload 5, .lload 7, .lrem, .lstore 10, .lload 7, .lstore 5, .lload 10, .lstore 7, .iinc 9 1, .goto 1]
def c_435_2 : List Instr := [.iload 4, .ifCond .ne 3, .lload 0, .goto 4]
def c_435_3 : List Instr := [.lload 2, .jsr 4]
def c_435_4 : List Instr := [.lstore 9, .lload 5, .ldc2_w 0, .lcmp, .ifCond .ne 5, .lload 9, .goto 6]
def c_435_5 : List Instr := [.lload 9, .lload 5, .ldiv, .jsr 6]
def c_435_6 : List Instr := [.lreturn]
/- 443: DreamNets.hope(III)J -/
def c_443_0 : List Instr := [.aload 0, .iload 1, .invokevirtual 120153, .ifCond .ne 1, .iload 2, .ldc_w 0, .ldc_w 5, .invokestatic 27, .ifCond .ne 1, .iload 3, .ldc_w 0, .ldc_w 1, .invokestatic 27, .ifCond .eq 2, .jsr 1]
def c_443_1 : List Instr := [.jsr_w (-1), .lreturn]
def c_443_2 : List Instr := [.aload 0, .getfield 2816, .getfield 2753, .ldc_w 0, .iaload, .istore 4, .ldc2_w 0, .lstore 5, .ldc2_w 0, .lstore 7, .ldc2_w 1, .lstore 9, .aload 0, .getfield 2818, .aload 0, .getfield 2816, .invokevirtual 111593, .ldc_w 0, .istore 11, .jsr 3]
def c_443_3 : List Instr := [.iload 11, .iload 2, .if_icmp .gt 4, .lload 5, .lload 7, .lload 9, .lmul, .ldc_w 100, .iload 4, .isub, .i2l, .iload 11, .invokestatic 426, .lmul, .iload 4, .i2l, .iload 2, .iload 11, .isub, .invokestatic 426, .lmul, .ladd, .lstore 5, .lload 9, .iload 2, .iload 11, .isub, .i2l, .lmul, .iload 11, .ldc_w 1, .iadd, .i2l, .ldiv, .lstore 9, .lload 7, .aload 0, .getfield 2818, .iload 1, .invokevirtual 111713, .i2l, .ladd, .lstore 7, .iinc 11 1, .goto 3]
def c_443_4 : List Instr := [.lload 5, .ldc2_w 100, .iload 2, .invokestatic 426, .iload 3, .invokestatic 435, .lreturn]
/- 450: DreamNets.prove(II)I -/
def c_450_0 : List Instr := [.iload 1, .invokestatic 113, .ifCond .ne 1, .iload 2, .ldc_w 1, .ldc_w 10, .invokestatic 27, .ifCond .eq 2, .jsr 1]
def c_450_1 : List Instr := [.iconst (-1), .ireturn]
def c_450_2 : List Instr := [.aload 0, .getfield 2818, .aload 0, .getfield 2816, .invokevirtual 111593, .ldc_w 0, .istore 3, .jsr 3]
def c_450_3 : List Instr := [.iload 3, .iload 2, .if_icmp .ge 6, .aload 0, .getfield 2818, .invokevirtual 111664, .ldc_w 0, .istore 4, .jsr 4]
def c_450_4 : List Instr := [.iload 4, .ldc_w 3, .if_icmp .ge 5, .aload 0, .getfield 2825, .iload 3, .ldc_w 3, .imul, .iload 4, .iadd, .aload 0, .getfield 2818, .iload 1, .iload 4, .invokevirtual 111730, .iastore, .iinc 4 1, .goto 4]
def c_450_5 : List Instr := [.iinc 3 1, .goto 3]
def c_450_6 : List Instr := [.aload 0, .iload 2, .putfield 779, .iload 2, .ireturn]
/- 458: DreamNets.row(II)I -/
def c_458_0 : List Instr := [.aload 0, .iload 1, .iload 2, .invokevirtual 120466, .ifCond .eq 1, .iconst (-9), .goto 2]
def c_458_1 : List Instr := [.aload 0, .getfield 2825, .iload 1, .ldc_w 3, .imul, .iload 2, .iadd, .iaload, .jsr 2]
def c_458_2 : List Instr := [.ireturn]
/- 466: DreamNets.noRow(II)Z -/
def c_466_0 : List Instr := [.iload 1, .ldc_w 0, .aload 0, .getfield 779, .ldc_w 1, .isub, .invokestatic 27, .ifCond .ne 1, .iload 2, .ldc_w 0, .ldc_w 2, .invokestatic 27, .ifCond .eq 2, .jsr 1]
def c_466_1 : List Instr := [.ldc_w 1, .goto 3]
def c_466_2 : List Instr := [.ldc_w 0, .jsr 3]
def c_466_3 : List Instr := [.ireturn]
/- 475: DreamNets.alterRow(III)I -/
def c_475_0 : List Instr := [.aload 0, .iload 1, .iload 2, .invokevirtual 120466, .ifCond .eq 1, .iconst (-9), .goto 2]
def c_475_1 : List Instr := [.aload 0, .getfield 2825, .iload 1, .ldc_w 3, .imul, .iload 2, .iadd, .iload 3, .invokestatic 51, .jsr 2]
def c_475_2 : List Instr := [.ireturn]
/- 481: DreamNets.judge(I)I -/
def c_481_0 : List Instr := [.iload 1, .invokestatic 113, .ifCond .eq 1, .iconst (-1), .ireturn]
def c_481_1 : List Instr := [.aload 0, .getfield 2818, .aload 0, .getfield 2816, .invokevirtual 111593, .ldc_w 0, .istore 2, .jsr 2]
def c_481_2 : List Instr := [.iload 2, .aload 0, .getfield 779, .if_icmp .ge 6, .aload 0, .getfield 2818, .invokevirtual 111664, .ldc_w 0, .istore 3, .jsr 3]
def c_481_3 : List Instr := [.iload 3, .ldc_w 3, .if_icmp .ge 5, .aload 0, .getfield 2825, .iload 2, .ldc_w 3, .imul, .iload 3, .iadd, .iaload, .aload 0, .getfield 2818, .iload 1, .iload 3, .invokevirtual 111730, .if_icmp .eq 4, .iload 2, .ldc_w 1, .iadd, .ireturn]
def c_481_4 : List Instr := [.iinc 3 1, .goto 3]
def c_481_5 : List Instr := [.iinc 2 1, .goto 2]
def c_481_6 : List Instr := [.ldc_w 0, .ireturn]
/- 492: DreamNets.minds(IIII)I -/
def c_492_0 : List Instr := [.iload 1, .invokestatic 361, .ifCond .ne 1, .iload 3, .invokestatic 113, .ifCond .ne 1, .iload 4, .ldc_w 0, .ldc_w 5, .invokestatic 27, .ifCond .eq 2, .jsr 1]
def c_492_1 : List Instr := [.iconst (-1), .ireturn]
def c_492_2 : List Instr := [.aload 0, .getfield 2822, .iload 1, .aaload, .astore 5, .aload 5, .ifnonnull 3, .iconst (-11), .ireturn]
def c_492_3 : List Instr := [.aload 5, .getfield 512, .ifCond .eq 4, .iconst (-13), .ireturn]
def c_492_4 : List Instr := [.iload 2, .ldc_w 0, .aload 5, .getfield 2561, .arraylength, .invokestatic 27, .ifCond .ne 5, .iload 4, .aload 5, .getfield 2561, .arraylength, .iload 2, .isub, .if_icmp .le 6, .jsr 5]
def c_492_5 : List Instr := [.iconst (-12), .ireturn]
def c_492_6 : List Instr := [.ldc_w 0, .istore 6, .jsr 7]
def c_492_7 : List Instr := [.iload 6, .iload 4, .if_icmp .ge 8, .ldc_w 0, .ldc_w 99, .aload 5, .getfield 2561, .iload 2, .iload 6, .iadd, .laload, .l2i, .invokedynamic 4, .invokedynamic 3, .istore 7, .aload 0, .getfield 2816, .getfield 2755, .iload 3, .ldc_w 5, .imul, .iload 6, .iadd, .iload 7, .iastore, .iinc 6 1, .goto 7]
def c_492_8 : List Instr := [.iload 4, .ireturn]
/- 499: DreamNets.sheet(III)I -/
def c_499_0 : List Instr := [.iload 1, .invokestatic 361, .ifCond .ne 1, .iload 2, .iconst (-1), .ldc_w 3, .invokestatic 27, .ifCond .eq 2, .jsr 1]
def c_499_1 : List Instr := [.iconst (-1), .ireturn]
def c_499_2 : List Instr := [.iload 2, .iconst (-1), .if_icmp .ne 3, .aload 0, .getfield 2822, .iload 1, .aconst_null, .aastore, .ldc_w 1, .ireturn]
def c_499_3 : List Instr := [.iload 3, .ldc_w 40, .if_icmp .le 4, .iconst (-1), .ireturn]
def c_499_4 : List Instr := [.iload 3, .ifCond .ge 5, .iconst (-14), .ireturn]
def c_499_5 : List Instr := [.aload 0, .getfield 2822, .iload 1, .new 514, .dup, .iload 2, .iload 3, .invokespecial 1946, .aastore, .ldc_w 1, .ireturn]
/- 507: DreamNets.put(III)I -/
def c_507_0 : List Instr := [.iload 1, .invokestatic 361, .ifCond .eq 1, .iconst (-1), .ireturn]
def c_507_1 : List Instr := [.aload 0, .getfield 2822, .iload 1, .aaload, .astore 4, .aload 4, .ifnonnull 2, .iconst (-11), .ireturn]
def c_507_2 : List Instr := [.iload 2, .ldc_w 0, .aload 4, .getfield 2561, .arraylength, .ldc_w 1, .isub, .invokestatic 27, .ifCond .eq 3, .iconst (-12), .ireturn]
def c_507_3 : List Instr := [.aload 4, .getfield 2561, .iload 2, .aload 4, .iload 3, .invokevirtual 81953, .lastore, .ldc_w 1, .ireturn]
/- 515: DreamNets.item(III)I -/
def c_515_0 : List Instr := [.iload 1, .invokestatic 361, .ifCond .ne 1, .iload 2, .ldc_w 0, .ldc_w 3, .invokestatic 27, .ifCond .eq 2, .jsr 1]
def c_515_1 : List Instr := [.iconst (-1), .ireturn]
def c_515_2 : List Instr := [.aload 0, .getfield 2822, .iload 1, .aaload, .astore 4, .aload 4, .ifnonnull 3, .iconst (-11), .ireturn]
def c_515_3 : List Instr := [.aload 4, .getfield 512, .iload 2, .if_icmp .eq 4, .iconst (-13), .ireturn]
def c_515_4 : List Instr := [.iload 3, .ldc_w 0, .aload 4, .getfield 2561, .arraylength, .ldc_w 1, .isub, .invokestatic 27, .ifCond .eq 5, .iconst (-12), .goto 6]
def c_515_5 : List Instr := [.aload 4, .getfield 2561, .iload 3, .laload, .l2i, .jsr 6]
def c_515_6 : List Instr := [.ireturn]
/- 523: DreamNets.shelf(III)I -/
def c_523_0 : List Instr := [.iload 1, .invokestatic 529, .ifCond .ne 1, .iload 2, .ldc_w 0, .ldc_w 2, .invokestatic 27, .ifCond .eq 2, .jsr 1]
def c_523_1 : List Instr := [.iconst (-1), .ireturn]
def c_523_2 : List Instr := [.iload 2, .ifCond .ne 3, .aload 0, .iload 3, .invokevirtual 120153, .ifCond .ne 4, .jsr 3]
def c_523_3 : List Instr := [.iload 2, .ldc_w 1, .if_icmp .ne 5, .iload 3, .invokestatic 361, .ifCond .eq 5, .jsr 4]
def c_523_4 : List Instr := [.iconst (-1), .ireturn]
def c_523_5 : List Instr := [.aload 0, .getfield 2823, .iload 1, .iload 2, .ifCond .ne 6, .iload 3, .goto 7]
def c_523_6 : List Instr := [.iconst (-1), .jsr 7]
def c_523_7 : List Instr := [.iastore, .aload 0, .getfield 2824, .iload 1, .iload 2, .ldc_w 1, .if_icmp .ne 8, .iload 3, .invokestatic 361, .ifCond .ne 8, .aload 0, .getfield 2822, .iload 3, .aaload, .goto 9]
def c_523_8 : List Instr := [.aconst_null, .jsr 9]
def c_523_9 : List Instr := [.aastore, .ldc_w 1, .ireturn]
/- 529: DreamNets.noShelf(I)Z -/
def c_529_0 : List Instr := [.iload 0, .ldc_w 0, .ldc_w 3, .invokestatic 27, .ireturn]
/- 538: DreamNets.taken(II)I -/
def c_538_0 : List Instr := [.iload 2, .ldc_w 10, .ldc_w 13, .invokestatic 27, .ifCond .ne 1, .ldc_w 1, .goto 2]
def c_538_1 : List Instr := [.ldc_w 0, .jsr 2]
def c_538_2 : List Instr := [.istore 3, .iload 1, .invokestatic 529, .ifCond .ne 3, .iload 2, .invokestatic 137, .ifCond .eq 4, .iload 3, .ifCond .ne 4, .jsr 3]
def c_538_3 : List Instr := [.iconst (-1), .ireturn]
def c_538_4 : List Instr := [.aload 0, .getfield 2823, .iload 1, .iaload, .istore 4, .aload 0, .getfield 2824, .iload 1, .aaload, .astore 5, .aload 0, .iload 4, .invokevirtual 120153, .ifCond .eq 5, .aload 5, .ifnonnull 5, .iconst (-11), .ireturn]
def c_538_5 : List Instr := [.aload 5, .ifnull 8, .iload 3, .ifCond .eq 6, .aload 5, .getfield 512, .iload 2, .ldc_w 10, .isub, .if_icmp .ne 6, .aload 5, .getfield 2561, .arraylength, .goto 7]
def c_538_6 : List Instr := [.iconst (-13), .jsr 7]
def c_538_7 : List Instr := [.ireturn]
def c_538_8 : List Instr := [.iload 3, .ifCond .ne 9, .aload 0, .getfield 2816, .iload 4, .invokevirtual 111633, .iload 2, .invokevirtual 1, .ifCond .eq 9, .iload 4, .goto 10]
def c_538_9 : List Instr := [.iconst (-13), .jsr 10]
def c_538_10 : List Instr := [.ireturn]
/- 547: DreamNets.act(III)I -/
def c_547_0 : List Instr := [.aload 0, .getfield 2821, .ldc_w 0, .putfield 65, .iload 1, .invokestatic 529, .ifCond .ne 1, .iload 2, .ldc_w 0, .ldc_w 3, .invokestatic 27, .ifCond .ne 1, .aload 0, .aload 0, .getfield 2823, .iload 1, .iaload, .invokevirtual 120153, .ifCond .eq 2, .jsr 1]
def c_547_1 : List Instr := [.ldc_w 0, .ireturn]
def c_547_2 : List Instr := [.aload 0, .getfield 2823, .iload 1, .iaload, .istore 4, .aload 0, .getfield 2821, .iload 4, .aload 0, .getfield 2816, .getfield 2761, .iload 4, .iaload, .invokevirtual 11930, .aload 0, .getfield 2816, .iload 4, .invokevirtual 111633, .astore 5, .iload 2, .tableswitch 6 0 2 #[3, 4, 5]]
def c_547_3 : List Instr := [.aload 5, .aload 0, .getfield 2821, .iload 3, .invokevirtual 10, .istore 6, .goto 7]
def c_547_4 : List Instr := [.aload 5, .aload 0, .getfield 2821, .iload 3, .invokevirtual 18, .istore 6, .goto 7]
def c_547_5 : List Instr := [.aload 5, .aload 0, .getfield 2821, .iload 3, .invokevirtual 26, .istore 6, .goto 7]
def c_547_6 : List Instr := [.aload 5, .aload 0, .getfield 2821, .iload 3, .invokevirtual 34, .istore 6, .jsr 7]
def c_547_7 : List Instr := [.aload 0, .getfield 2821, .getfield 3140, .ifCond .eq 8, .iconst (-15), .goto 9]
def c_547_8 : List Instr := [.iload 6, .jsr 9]
def c_547_9 : List Instr := [.ireturn]
/- 553: DreamNets.trace(I)I -/
def c_553_0 : List Instr := [.iload 1, .ldc_w 0, .aload 0, .getfield 2821, .getfield 65, .ldc_w 1, .isub, .invokestatic 27, .ifCond .eq 1, .iconst (-3), .goto 2]
def c_553_1 : List Instr := [.aload 0, .getfield 2821, .getfield 2112, .iload 1, .iaload, .jsr 2]
def c_553_2 : List Instr := [.ireturn]
/- 561: DreamNets.many(I)I -/
def c_561_0 : List Instr := [.iload 1, .tableswitch 8 0 6 #[1, 2, 3, 4, 5, 6, 7]]
def c_561_1 : List Instr := [.aload 0, .getfield 2816, .getfield 718, .ireturn]
def c_561_2 : List Instr := [.aload 0, .getfield 2816, .invokevirtual 111744, .ireturn]
def c_561_3 : List Instr := [.aload 0, .getfield 2816, .getfield 2756, .ldc_w 8, .invokestatic 282, .ireturn]
def c_561_4 : List Instr := [.aload 0, .getfield 2816, .invokevirtual 111752, .ireturn]
def c_561_5 : List Instr := [.aload 0, .getfield 779, .ireturn]
def c_561_6 : List Instr := [.aload 0, .getfield 2820, .getfield 577, .ireturn]
def c_561_7 : List Instr := [.aload 0, .getfield 2821, .getfield 65, .ireturn]
def c_561_8 : List Instr := [.iconst (-1), .ireturn]
/- 568: DreamNets.keep()I -/
def c_568_0 : List Instr := [.aload 0, .getfield 2817, .aload 0, .getfield 2816, .invokevirtual 111593, .aload 0, .ldc_w 1, .putfield 3852, .ldc_w 1, .ireturn]
/- 576: DreamNets.again()I -/
def c_576_0 : List Instr := [.aload 0, .getfield 3852, .ifCond .ne 1, .iconst (-3), .ireturn]
def c_576_1 : List Instr := [.aload 0, .getfield 2816, .aload 0, .getfield 2817, .invokevirtual 111593, .aload 0, .getfield 2816, .getfield 718, .ireturn]
/- 584: DreamNetsModel.<init>()V -/
def c_584_0 : List Instr := [.aload 0, .invokedynamic 5, .aload 0, .ldc_w 136, .newarray .int, .putfield 2880, .aload 0, .ldc_w 136, .newarray .int, .putfield 2881, .aload 0, .ldc_w 136, .newarray .int, .putfield 2882, .aload 0, .ldc_w 136, .newarray .int, .putfield 2883, .aload 0, .ldc_w 5, .newarray .int, .dup, .ldc_w 0, .ldc_w 2, .iastore, .dup, .ldc_w 1, .ldc_w 3, .iastore, .dup, .ldc_w 2, .ldc_w 1, .iastore, .dup, .ldc_w 3, .ldc_w 5, .iastore, .dup, .ldc_w 4, .ldc_w 8, .iastore, .putfield 2884, .aload 0, .ldc_w 200, .newarray .int, .putfield 2886, .aload 0, .ldc_w 8, .newarray .int, .putfield 2896, .aload 0, .ldc_w 4, .newarray .int, .putfield 2897, .aload 0, .ldc_w 4, .newarray .int, .putfield 2898, .aload 0, .ldc_w 40, .newarray .boolean, .putfield 2900, .aload 0, .ldc_w 30, .newarray .int, .putfield 2901, .aload 0, .ldc_w 30, .newarray .int, .putfield 2902, .aload 0, .ldc_w 4, .newarray .int, .dup, .ldc_w 0, .iconst (-1), .iastore, .dup, .ldc_w 1, .iconst (-1), .iastore, .dup, .ldc_w 2, .iconst (-1), .iastore, .dup, .ldc_w 3, .iconst (-1), .iastore, .putfield 2904, .aload 0, .ldc_w 4, .newarray .int, .putfield 2905, .aload 0, .ldc_w 160, .newarray .long, .putfield 2906, .aload 0, .ldc_w 4, .newarray .int, .dup, .ldc_w 0, .iconst (-1), .iastore, .dup, .ldc_w 1, .iconst (-1), .iastore, .dup, .ldc_w 2, .iconst (-1), .iastore, .dup, .ldc_w 3, .iconst (-1), .iastore, .putfield 2907, .aload 0, .ldc_w 4, .newarray .int, .putfield 2908, .aload 0, .ldc_w 4, .newarray .int, .putfield 2909, .aload 0, .ldc_w 30, .newarray .int, .putfield 2913, .aload 0, .getfield 2880, .invokestatic 593, .aload 0, .getfield 2880, .ldc_w 6, .ldc_w 1, .iastore, .return_]
/- 593: DreamNetsModel.begins([I)V -/
def c_593_0 : List Instr := [.ldc_w 0, .istore 1, .jsr 1]
def c_593_1 : List Instr := [.iload 1, .ldc_w 136, .if_icmp .ge 2, .aload 0, .iload 1, .ldc_w 0, .iastore, .iinc 1 1, .goto 1]
def c_593_2 : List Instr := [.aload 0, .ldc_w 0, .ldc_w 10, .iastore, .aload 0, .ldc_w 1, .ldc_w 8, .iastore, .aload 0, .ldc_w 2, .ldc_w 4, .iastore, .aload 0, .ldc_w 7, .ldc_w 9, .iastore, .aload 0, .ldc_w 8, .ldc_w 4, .iastore, .aload 0, .ldc_w 9, .ldc_w 2, .iastore, .aload 0, .ldc_w 10, .ldc_w 6, .iastore, .aload 0, .ldc_w 11, .ldc_w 12, .iastore, .ldc_w 0, .istore 1, .jsr 3]
def c_593_3 : List Instr := [.iload 1, .ldc_w 8, .if_icmp .ge 4, .aload 0, .ldc_w 12, .ldc_w 7, .iload 1, .imul, .iadd, .ldc_w 5, .iadd, .ldc_w 3, .iastore, .iinc 1 1, .goto 3]
def c_593_4 : List Instr := [.ldc_w 0, .istore 1, .jsr 5]
def c_593_5 : List Instr := [.iload 1, .ldc_w 4, .if_icmp .ge 6, .aload 0, .ldc_w 68, .ldc_w 2, .iload 1, .imul, .iadd, .ldc_w 999, .iastore, .iinc 1 1, .goto 5]
def c_593_6 : List Instr := [.return_]
/- 602: DreamNetsModel.feed(JI)I -/
def c_602_0 : List Instr := [.iload 3, .ldc_w 1, .ldc_w 8, .invokestatic 611, .ifCond .ne 1, .iconst (-1), .ireturn]
def c_602_1 : List Instr := [.aload 0, .getfield 839, .iload 3, .iadd, .ldc_w 200, .if_icmp .le 2, .iconst (-2), .ireturn]
def c_602_2 : List Instr := [.ldc_w 0, .istore 4, .jsr 3]
def c_602_3 : List Instr := [.iload 4, .iload 3, .if_icmp .ge 4, .aload 0, .getfield 2886, .aload 0, .getfield 839, .lload 1, .ldc_w 8, .iload 4, .imul, .lshr, .ldc2_w 255, .land, .l2i, .iastore, .aload 0, .dup, .getfield 839, .ldc_w 1, .iadd, .putfield 839, .iinc 4 1, .goto 3]
def c_602_4 : List Instr := [.aload 0, .getfield 839, .ireturn]
/- 611: DreamNetsModel.in(III)Z -/
def c_611_0 : List Instr := [.iload 0, .iload 1, .if_icmp .lt 1, .iload 0, .iload 2, .if_icmp .gt 1, .ldc_w 1, .goto 2]
def c_611_1 : List Instr := [.ldc_w 0, .jsr 2]
def c_611_2 : List Instr := [.ireturn]
/- 616: DreamNetsModel.harbour()I -/
def c_616_0 : List Instr := [.aload 0, .ldc_w 0, .putfield 842, .aload 0, .ldc_w 1, .putfield 3917, .aload 0, .getfield 2881, .invokestatic 593, .aload 0, .invokevirtual 130624, .jsr 1]
def c_616_1 : List Instr := [.aload 0, .getfield 3917, .ifCond .eq 2, .aload 0, .getfield 840, .ifCond .eq 2, .aload 0, .invokevirtual 130656, .goto 1]
def c_616_2 : List Instr := [.aload 0, .ldc_w 0, .putfield 839, .aload 0, .getfield 3917, .ifCond .ne 3, .iconst (-100), .aload 0, .getfield 841, .isub, .ireturn]
def c_616_3 : List Instr := [.aload 0, .getfield 2881, .ldc_w 6, .aload 0, .getfield 2880, .ldc_w 6, .iaload, .iastore, .aload 0, .getfield 2881, .aload 0, .getfield 2880, .invokestatic 762, .aload 0, .ldc_w 0, .putfield 855, .aload 0, .getfield 2880, .ldc_w 5, .iaload, .ireturn]
/- 624: DreamNetsModel.advance()V -/
def c_624_0 : List Instr := [.aload 0, .aload 0, .getfield 842, .putfield 841, .jsr 1]
def c_624_1 : List Instr := [.aload 0, .aload 0, .getfield 841, .invokevirtual 130633, .ldc_w 32, .if_icmp .ne 2, .aload 0, .dup, .getfield 841, .ldc_w 1, .iadd, .putfield 841, .goto 1]
def c_624_2 : List Instr := [.aload 0, .aload 0, .getfield 841, .putfield 842, .aload 0, .aload 0, .getfield 841, .invokevirtual 130633, .istore 1, .aload 0, .iload 1, .ifCond .ge 3, .ldc_w 0, .goto 6]
def c_624_3 : List Instr := [.iload 1, .invokestatic 641, .ifCond .eq 4, .ldc_w 1, .goto 6]
def c_624_4 : List Instr := [.iload 1, .invokestatic 649, .ifCond .eq 5, .ldc_w 2, .goto 6]
def c_624_5 : List Instr := [.ldc_w 3, .jsr 6]
def c_624_6 : List Instr := [.putfield 840, .aload 0, .ldc2_w 0, .putfield 1867, .aload 0, .aload 0, .getfield 840, .ldc_w 2, .if_icmp .ne 7, .ldc_w 0, .goto 8]
def c_624_7 : List Instr := [.iload 1, .jsr 8]
def c_624_8 : List Instr := [.putfield 844, .aload 0, .getfield 840, .ldc_w 3, .if_icmp .ne 9, .aload 0, .dup, .getfield 842, .ldc_w 1, .iadd, .putfield 842, .jsr 9]
def c_624_9 : List Instr := [.aload 0, .getfield 840, .ldc_w 1, .if_icmp .ne 12, .aload 0, .aload 0, .getfield 842, .invokevirtual 130633, .invokestatic 641, .ifCond .eq 12, .aload 0, .aload 0, .getfield 842, .aload 0, .getfield 841, .isub, .ldc_w 9, .if_icmp .ge 10, .ldc2_w 27, .aload 0, .getfield 1867, .lmul, .aload 0, .aload 0, .getfield 842, .invokevirtual 130633, .i2l, .ladd, .ldc2_w 96, .lsub, .goto 11]
def c_624_10 : List Instr := [.jsr_w (-1), .jsr 11]
def c_624_11 : List Instr := [.putfield 1867, .aload 0, .dup, .getfield 842, .ldc_w 1, .iadd, .putfield 842, .goto 9]
def c_624_12 : List Instr := [.aload 0, .getfield 840, .ldc_w 2, .if_icmp .ne 15, .aload 0, .aload 0, .getfield 842, .invokevirtual 130633, .invokestatic 649, .ifCond .eq 15, .aload 0, .aload 0, .getfield 842, .aload 0, .getfield 841, .isub, .ldc_w 3, .if_icmp .ge 13, .ldc_w 10, .aload 0, .getfield 844, .imul, .aload 0, .aload 0, .getfield 842, .invokevirtual 130633, .iadd, .ldc_w 48, .isub, .goto 14]
def c_624_13 : List Instr := [.iconst (-1), .jsr 14]
def c_624_14 : List Instr := [.putfield 844, .aload 0, .dup, .getfield 842, .ldc_w 1, .iadd, .putfield 842, .goto 12]
def c_624_15 : List Instr := [.return_]
/- 633: DreamNetsModel.byteAt(I)I -/
def c_633_0 : List Instr := [.iload 1, .aload 0, .getfield 839, .if_icmp .ge 1, .aload 0, .getfield 2886, .iload 1, .iaload, .goto 2]
def c_633_1 : List Instr := [.iconst (-1), .jsr 2]
def c_633_2 : List Instr := [.ireturn]
/- 641: DreamNetsModel.isLetter(I)Z -/
def c_641_0 : List Instr := [.iload 0, .ldc_w 97, .ldc_w 122, .invokestatic 611, .ireturn]
/- 649: DreamNetsModel.isDigit(I)Z -/
def c_649_0 : List Instr := [.iload 0, .ldc_w 48, .ldc_w 57, .invokestatic 611, .ireturn]
/- 656: DreamNetsModel.wantClause()V -/
def c_656_0 : List Instr := [.aload 0, .invokevirtual 130664, .ifCond .lt 1, .aload 0, .aload 0, .invokevirtual 130664, .invokevirtual 130681, .goto 6]
def c_656_1 : List Instr := [.aload 0, .ldc2_w 283616147, .invokevirtual 130673, .ifCond .eq 2, .aload 0, .invokevirtual 130720, .goto 6]
def c_656_2 : List Instr := [.aload 0, .ldc2_w 8863997, .invokevirtual 130673, .ifCond .eq 3, .aload 0, .invokevirtual 130744, .goto 6]
def c_656_3 : List Instr := [.aload 0, .ldc2_w 9459316, .invokevirtual 130673, .ifCond .eq 4, .aload 0, .invokevirtual 130752, .goto 6]
def c_656_4 : List Instr := [.aload 0, .ldc2_w 453740, .invokevirtual 130673, .ifCond .eq 5, .aload 0, .invokevirtual 130624, .aload 0, .getfield 2881, .ldc_w 0, .aload 0, .ldc_w 0, .ldc_w 99, .invokevirtual 130690, .iastore, .aload 0, .invokevirtual 130704, .goto 6]
def c_656_5 : List Instr := [.aload 0, .ldc_w 0, .putfield 3917, .jsr 6]
def c_656_6 : List Instr := [.return_]
/- 664: DreamNetsModel.kindHere()I -/
def c_664_0 : List Instr := [.aload 0, .ldc2_w 50348, .invokevirtual 130673, .ifCond .eq 1, .ldc_w 0, .goto 7]
def c_664_1 : List Instr := [.aload 0, .ldc2_w 275473944, .invokevirtual 130673, .ifCond .eq 2, .ldc_w 1, .goto 7]
def c_664_2 : List Instr := [.aload 0, .ldc2_w 1812878082, .invokevirtual 130673, .ifCond .eq 3, .ldc_w 2, .goto 7]
def c_664_3 : List Instr := [.aload 0, .ldc2_w 15154, .invokevirtual 130673, .ifCond .eq 4, .ldc_w 3, .goto 7]
def c_664_4 : List Instr := [.aload 0, .ldc2_w 1810703475, .invokevirtual 130673, .ifCond .eq 5, .ldc_w 4, .goto 7]
def c_664_5 : List Instr := [.aload 0, .ldc2_w 6414557904, .invokevirtual 130673, .ifCond .eq 6, .ldc_w 5, .goto 7]
def c_664_6 : List Instr := [.iconst (-1), .jsr 7]
def c_664_7 : List Instr := [.ireturn]
/- 673: DreamNetsModel.isWord(J)Z -/
def c_673_0 : List Instr := [.aload 0, .getfield 840, .ldc_w 1, .if_icmp .ne 1, .aload 0, .getfield 1867, .lload 1, .lcmp, .ifCond .ne 1, .ldc_w 1, .goto 2]
def c_673_1 : List Instr := [.ldc_w 0, .jsr 2]
def c_673_2 : List Instr := [.ireturn]
/- 681: DreamNetsModel.wantBoat(I)V -/
def c_681_0 : List Instr := [.aload 0, .aload 0, .getfield 2881, .ldc_w 5, .iaload, .ldc_w 6, .if_icmp .ge 1, .ldc_w 1, .goto 2]
def c_681_1 : List Instr := [.ldc_w 0, .jsr 2]
def c_681_2 : List Instr := [.putfield 3917, .aload 0, .getfield 3917, .ifCond .eq 3, .aload 0, .invokevirtual 130624, .jsr 3]
def c_681_3 : List Instr := [.aload 0, .ldc_w 0, .ldc_w 9, .invokevirtual 130690, .istore 2, .aload 0, .ldc2_w 47, .invokevirtual 130697, .aload 0, .ldc_w 0, .ldc_w 7, .invokevirtual 130690, .istore 3, .aload 0, .ldc2_w 260045, .invokevirtual 130697, .aload 0, .ldc_w 0, .ldc_w 9, .invokevirtual 130690, .istore 4, .aload 0, .invokevirtual 130704, .aload 0, .getfield 3917, .ifCond .eq 4, .ldc_w 76, .ldc_w 10, .aload 0, .getfield 2881, .ldc_w 5, .iaload, .imul, .iadd, .istore 5, .aload 0, .getfield 2881, .iload 5, .iload 1, .iastore, .aload 0, .getfield 2881, .iload 5, .ldc_w 1, .iadd, .iload 2, .iastore, .aload 0, .getfield 2881, .iload 5, .ldc_w 2, .iadd, .iload 3, .iastore, .aload 0, .getfield 2881, .iload 5, .ldc_w 3, .iadd, .iload 4, .iastore, .aload 0, .getfield 2881, .ldc_w 5, .dup2, .iaload, .ldc_w 1, .iadd, .iastore, .jsr 4]
def c_681_4 : List Instr := [.return_]
/- 690: DreamNetsModel.wantNumber(II)I -/
def c_690_0 : List Instr := [.aload 0, .getfield 844, .istore 3, .aload 0, .aload 0, .getfield 3917, .ifCond .eq 1, .aload 0, .getfield 840, .ldc_w 2, .if_icmp .ne 1, .iload 3, .iload 1, .iload 2, .invokestatic 611, .ifCond .eq 1, .ldc_w 1, .goto 2]
def c_690_1 : List Instr := [.ldc_w 0, .jsr 2]
def c_690_2 : List Instr := [.putfield 3917, .aload 0, .getfield 3917, .ifCond .eq 3, .aload 0, .invokevirtual 130624, .jsr 3]
def c_690_3 : List Instr := [.iload 3, .ireturn]
/- 697: DreamNetsModel.wantWord(J)V -/
def c_697_0 : List Instr := [.aload 0, .aload 0, .getfield 3917, .ifCond .eq 1, .aload 0, .lload 1, .invokevirtual 130673, .ifCond .eq 1, .ldc_w 1, .goto 2]
def c_697_1 : List Instr := [.ldc_w 0, .jsr 2]
def c_697_2 : List Instr := [.putfield 3917, .aload 0, .getfield 3917, .ifCond .eq 3, .aload 0, .invokevirtual 130624, .jsr 3]
def c_697_3 : List Instr := [.return_]
/- 704: DreamNetsModel.wantEnd()V -/
def c_704_0 : List Instr := [.aload 0, .aload 0, .getfield 3917, .ifCond .eq 1, .aload 0, .ldc_w 59, .invokevirtual 130713, .ifCond .eq 1, .ldc_w 1, .goto 2]
def c_704_1 : List Instr := [.ldc_w 0, .jsr 2]
def c_704_2 : List Instr := [.putfield 3917, .aload 0, .getfield 3917, .ifCond .eq 3, .aload 0, .invokevirtual 130624, .jsr 3]
def c_704_3 : List Instr := [.return_]
/- 713: DreamNetsModel.isMark(I)Z -/
def c_713_0 : List Instr := [.aload 0, .getfield 840, .ldc_w 3, .if_icmp .ne 1, .aload 0, .getfield 844, .iload 1, .if_icmp .ne 1, .ldc_w 1, .goto 2]
def c_713_1 : List Instr := [.ldc_w 0, .jsr 2]
def c_713_2 : List Instr := [.ireturn]
/- 720: DreamNetsModel.wantStreet()V -/
def c_720_0 : List Instr := [.aload 0, .invokevirtual 130624, .aload 0, .ldc_w 0, .ldc_w 7, .invokevirtual 130690, .istore 1, .aload 0, .getfield 3917, .ifCond .eq 1, .aload 0, .ldc2_w 203470477543, .invokevirtual 130673, .ifCond .eq 1, .ldc_w 1, .goto 2]
def c_720_1 : List Instr := [.ldc_w 0, .jsr 2]
def c_720_2 : List Instr := [.istore 2, .ldc_w 5, .istore 3, .iload 2, .ifCond .eq 3, .aload 0, .invokevirtual 130624, .goto 4]
def c_720_3 : List Instr := [.aload 0, .getfield 3917, .ifCond .eq 4, .aload 0, .invokevirtual 130728, .istore 3, .jsr 4]
def c_720_4 : List Instr := [.aload 0, .ldc_w 0, .iload 2, .ifCond .eq 5, .ldc_w 9, .goto 6]
def c_720_5 : List Instr := [.ldc_w 99, .jsr 6]
def c_720_6 : List Instr := [.invokevirtual 130690, .istore 4, .aload 0, .invokevirtual 130704, .aload 0, .getfield 3917, .ifCond .eq 7, .aload 0, .getfield 2881, .ldc_w 12, .ldc_w 7, .iload 1, .imul, .iadd, .iload 3, .iadd, .iload 4, .iastore, .jsr 7]
def c_720_7 : List Instr := [.return_]
/- 728: DreamNetsModel.wantSort()I -/
def c_728_0 : List Instr := [.aload 0, .invokevirtual 130736, .istore 1, .aload 0, .aload 0, .getfield 3917, .ifCond .eq 1, .iload 1, .ifCond .lt 1, .ldc_w 1, .goto 2]
def c_728_1 : List Instr := [.ldc_w 0, .jsr 2]
def c_728_2 : List Instr := [.putfield 3917, .aload 0, .getfield 3917, .ifCond .eq 3, .aload 0, .invokevirtual 130624, .jsr 3]
def c_728_3 : List Instr := [.iload 1, .ireturn]
/- 736: DreamNetsModel.sortHere()I -/
def c_736_0 : List Instr := [.aload 0, .ldc2_w 92969755, .invokevirtual 130673, .ifCond .eq 1, .ldc_w 0, .goto 6]
def c_736_1 : List Instr := [.aload 0, .ldc2_w 2345492275, .invokevirtual 130673, .ifCond .eq 2, .ldc_w 1, .goto 6]
def c_736_2 : List Instr := [.aload 0, .ldc2_w 10731428, .invokevirtual 130673, .ifCond .eq 3, .ldc_w 2, .goto 6]
def c_736_3 : List Instr := [.aload 0, .ldc2_w 274392372, .invokevirtual 130673, .ifCond .eq 4, .ldc_w 3, .goto 6]
def c_736_4 : List Instr := [.aload 0, .ldc2_w 4050994310159, .invokevirtual 130673, .ifCond .eq 5, .ldc_w 4, .goto 6]
def c_736_5 : List Instr := [.iconst (-1), .jsr 6]
def c_736_6 : List Instr := [.ireturn]
/- 744: DreamNetsModel.wantPrice()V -/
def c_744_0 : List Instr := [.aload 0, .invokevirtual 130624, .aload 0, .invokevirtual 130728, .istore 1, .aload 0, .ldc_w 1, .ldc_w 30, .invokevirtual 130690, .istore 2, .aload 0, .invokevirtual 130704, .aload 0, .getfield 3917, .ifCond .eq 1, .aload 0, .getfield 2881, .ldc_w 7, .iload 1, .iadd, .iload 2, .iastore, .jsr 1]
def c_744_1 : List Instr := [.return_]
/- 752: DreamNetsModel.wantQuota()V -/
def c_752_0 : List Instr := [.aload 0, .invokevirtual 130624, .aload 0, .ldc_w 0, .ldc_w 3, .invokevirtual 130690, .istore 1, .aload 0, .ldc_w 0, .ldc_w 999, .invokevirtual 130690, .istore 2, .aload 0, .invokevirtual 130704, .aload 0, .getfield 3917, .ifCond .eq 1, .aload 0, .getfield 2881, .ldc_w 68, .ldc_w 2, .iload 1, .imul, .iadd, .iload 2, .iastore, .jsr 1]
def c_752_1 : List Instr := [.return_]
/- 762: DreamNetsModel.moveAll([I[I)V -/
def c_762_0 : List Instr := [.ldc_w 0, .istore 2, .jsr 1]
def c_762_1 : List Instr := [.iload 2, .ldc_w 136, .if_icmp .ge 2, .aload 1, .iload 2, .aload 0, .iload 2, .iaload, .iastore, .iinc 2 1, .goto 1]
def c_762_2 : List Instr := [.return_]
/- 770: DreamNetsModel.set(II)I -/
def c_770_0 : List Instr := [.iload 1, .ifCond .ne 1, .iload 2, .ldc_w 0, .ldc_w 99, .invokestatic 611, .goto 4]
def c_770_1 : List Instr := [.iload 1, .ldc_w 1, .if_icmp .eq 2, .iload 1, .ldc_w 2, .if_icmp .ne 3, .jsr 2]
def c_770_2 : List Instr := [.iload 2, .ldc_w 1, .ldc_w 20, .invokestatic 611, .ifCond .eq 3, .ldc_w 1, .goto 4]
def c_770_3 : List Instr := [.ldc_w 0, .jsr 4]
def c_770_4 : List Instr := [.istore 3, .iload 3, .ifCond .eq 5, .aload 0, .iload 1, .iload 2, .invokevirtual 130778, .goto 6]
def c_770_5 : List Instr := [.iconst (-1), .jsr 6]
def c_770_6 : List Instr := [.ireturn]
/- 778: DreamNetsModel.becomes(II)I -/
def c_778_0 : List Instr := [.aload 0, .getfield 2880, .iload 1, .iaload, .istore 3, .aload 0, .getfield 2880, .iload 1, .iload 2, .iastore, .iload 3, .ireturn]
/- 785: DreamNetsModel.lawOf(I)I -/
def c_785_0 : List Instr := [.iload 1, .ldc_w 0, .ldc_w 2, .invokestatic 611, .ifCond .eq 1, .aload 0, .getfield 2880, .iload 1, .iaload, .goto 2]
def c_785_1 : List Instr := [.iconst (-1), .jsr 2]
def c_785_2 : List Instr := [.ireturn]
/- 794: DreamNetsModel.price(II)I -/
def c_794_0 : List Instr := [.iload 1, .invokestatic 801, .ifCond .eq 1, .iload 2, .ldc_w 1, .ldc_w 30, .invokestatic 611, .ifCond .eq 1, .aload 0, .ldc_w 7, .iload 1, .iadd, .iload 2, .invokevirtual 130778, .goto 2]
def c_794_1 : List Instr := [.iconst (-1), .jsr 2]
def c_794_2 : List Instr := [.ireturn]
/- 801: DreamNetsModel.isSort(I)Z -/
def c_801_0 : List Instr := [.iload 0, .ldc_w 0, .ldc_w 4, .invokestatic 611, .ireturn]
/- 810: DreamNetsModel.quota(II)I -/
def c_810_0 : List Instr := [.iload 1, .invokestatic 817, .ifCond .eq 1, .iload 2, .ldc_w 0, .ldc_w 999, .invokestatic 611, .ifCond .eq 1, .aload 0, .ldc_w 68, .ldc_w 2, .iload 1, .imul, .iadd, .iload 2, .invokevirtual 130778, .goto 2]
def c_810_1 : List Instr := [.iconst (-1), .jsr 2]
def c_810_2 : List Instr := [.ireturn]
/- 817: DreamNetsModel.isWard(I)Z -/
def c_817_0 : List Instr := [.iload 0, .ldc_w 0, .ldc_w 3, .invokestatic 611, .ireturn]
/- 826: DreamNetsModel.ward(II)I -/
def c_826_0 : List Instr := [.iload 1, .invokestatic 817, .ifCond .eq 1, .iload 2, .ldc_w 0, .ldc_w 2, .invokestatic 611, .ifCond .ne 2, .jsr 1]
def c_826_1 : List Instr := [.iconst (-1), .ireturn]
def c_826_2 : List Instr := [.iload 2, .ldc_w 2, .if_icmp .ge 3, .aload 0, .getfield 2880, .ldc_w 68, .ldc_w 2, .iload 1, .imul, .iadd, .iload 2, .iadd, .iaload, .goto 4]
def c_826_3 : List Instr := [.aload 0, .ldc_w 2, .iload 1, .imul, .ldc_w 5, .invokevirtual 130834, .aload 0, .ldc_w 2, .iload 1, .imul, .ldc_w 1, .iadd, .ldc_w 5, .invokevirtual 130834, .iadd, .jsr 4]
def c_826_4 : List Instr := [.ireturn]
/- 834: DreamNetsModel.at(II)I -/
def c_834_0 : List Instr := [.aload 0, .getfield 2880, .ldc_w 12, .ldc_w 7, .iload 1, .imul, .iadd, .iload 2, .iadd, .iaload, .ireturn]
/- 842: DreamNetsModel.street(II)I -/
def c_842_0 : List Instr := [.iload 1, .invokestatic 849, .ifCond .eq 1, .iload 2, .ldc_w 0, .ldc_w 7, .invokestatic 611, .ifCond .ne 2, .jsr 1]
def c_842_1 : List Instr := [.iconst (-1), .ireturn]
def c_842_2 : List Instr := [.iload 2, .ldc_w 7, .if_icmp .ge 3, .aload 0, .iload 1, .iload 2, .invokevirtual 130834, .goto 4]
def c_842_3 : List Instr := [.aload 0, .iload 1, .invokevirtual 130857, .jsr 4]
def c_842_4 : List Instr := [.ireturn]
/- 849: DreamNetsModel.isStreet(I)Z -/
def c_849_0 : List Instr := [.iload 0, .ldc_w 0, .ldc_w 7, .invokestatic 611, .ireturn]
/- 857: DreamNetsModel.stockOf(I)I -/
def c_857_0 : List Instr := [.ldc_w 0, .istore 2, .ldc_w 0, .istore 3, .jsr 1]
def c_857_1 : List Instr := [.iload 3, .ldc_w 5, .if_icmp .ge 2, .iload 2, .aload 0, .iload 1, .iload 3, .invokevirtual 130834, .iadd, .istore 2, .iinc 3 1, .goto 1]
def c_857_2 : List Instr := [.iload 2, .ireturn]
/- 867: DreamNetsModel.sleep(III)I -/
def c_867_0 : List Instr := [.iload 1, .invokestatic 849, .ifCond .eq 3, .iload 2, .invokestatic 801, .ifCond .eq 1, .iload 3, .ldc_w 0, .ldc_w 99, .invokestatic 611, .ifCond .ne 2, .jsr 1]
def c_867_1 : List Instr := [.iload 2, .ldc_w 5, .if_icmp .ne 3, .iload 3, .ldc_w 0, .ldc_w 9, .invokestatic 611, .ifCond .eq 3, .jsr 2]
def c_867_2 : List Instr := [.ldc_w 1, .goto 4]
def c_867_3 : List Instr := [.ldc_w 0, .jsr 4]
def c_867_4 : List Instr := [.istore 4, .iload 4, .ifCond .eq 5, .aload 0, .ldc_w 12, .ldc_w 7, .iload 1, .imul, .iadd, .iload 2, .iadd, .iload 3, .invokevirtual 130778, .goto 6]
def c_867_5 : List Instr := [.iconst (-1), .jsr 6]
def c_867_6 : List Instr := [.ireturn]
/- 876: DreamNetsModel.boat(IIII)I -/
def c_876_0 : List Instr := [.iload 1, .iload 2, .invokestatic 882, .ifCond .eq 1, .iload 3, .invokestatic 849, .ifCond .eq 1, .iload 4, .ldc_w 0, .ldc_w 9, .invokestatic 611, .ifCond .ne 2, .jsr 1]
def c_876_1 : List Instr := [.iconst (-1), .ireturn]
def c_876_2 : List Instr := [.aload 0, .getfield 2880, .ldc_w 5, .iaload, .ldc_w 6, .if_icmp .ne 3, .iconst (-2), .ireturn]
def c_876_3 : List Instr := [.aload 0, .getfield 2880, .ldc_w 5, .iaload, .istore 5, .ldc_w 0, .istore 6, .jsr 4]
def c_876_4 : List Instr := [.iload 6, .ldc_w 10, .if_icmp .ge 5, .aload 0, .iload 5, .iload 6, .ldc_w 0, .invokevirtual 130891, .iinc 6 1, .goto 4]
def c_876_5 : List Instr := [.aload 0, .iload 5, .ldc_w 0, .iload 1, .invokevirtual 130891, .aload 0, .iload 5, .ldc_w 1, .iload 2, .invokevirtual 130891, .aload 0, .iload 5, .ldc_w 2, .iload 3, .invokevirtual 130891, .aload 0, .iload 5, .ldc_w 3, .iload 4, .invokevirtual 130891, .aload 0, .getfield 2880, .ldc_w 5, .dup2, .iaload, .ldc_w 1, .iadd, .iastore, .iload 5, .ireturn]
/- 882: DreamNetsModel.isKind(II)Z -/
def c_882_0 : List Instr := [.iload 0, .ldc_w 0, .ldc_w 5, .invokestatic 611, .ifCond .eq 1, .iload 1, .ldc_w 0, .ldc_w 9, .invokestatic 611, .ifCond .eq 1, .ldc_w 1, .goto 2]
def c_882_1 : List Instr := [.ldc_w 0, .jsr 2]
def c_882_2 : List Instr := [.ireturn]
/- 891: DreamNetsModel.sets(III)V -/
def c_891_0 : List Instr := [.aload 0, .getfield 2880, .ldc_w 76, .ldc_w 10, .iload 1, .imul, .iadd, .iload 2, .iadd, .iload 3, .iastore, .return_]
/- 898: DreamNetsModel.of(II)I -/
def c_898_0 : List Instr := [.aload 0, .iload 1, .invokevirtual 130905, .ifCond .eq 1, .iload 2, .ldc_w 0, .ldc_w 10, .invokestatic 611, .ifCond .ne 2, .jsr 1]
def c_898_1 : List Instr := [.iconst (-1), .ireturn]
def c_898_2 : List Instr := [.iload 2, .ldc_w 10, .if_icmp .ge 3, .aload 0, .iload 1, .iload 2, .invokevirtual 130914, .goto 4]
def c_898_3 : List Instr := [.aload 0, .iload 1, .invokevirtual 130921, .jsr 4]
def c_898_4 : List Instr := [.ireturn]
/- 905: DreamNetsModel.isBoat(I)Z -/
def c_905_0 : List Instr := [.iload 1, .ldc_w 0, .aload 0, .getfield 2880, .ldc_w 5, .iaload, .ldc_w 1, .isub, .invokestatic 611, .ireturn]
/- 914: DreamNetsModel.its(II)I -/
def c_914_0 : List Instr := [.aload 0, .getfield 2880, .ldc_w 76, .ldc_w 10, .iload 1, .imul, .iadd, .iload 2, .iadd, .iaload, .ireturn]
/- 921: DreamNetsModel.worthOf(I)I -/
def c_921_0 : List Instr := [.ldc_w 0, .istore 2, .ldc_w 0, .istore 3, .jsr 1]
def c_921_1 : List Instr := [.iload 3, .ldc_w 5, .if_icmp .ge 2, .iload 2, .aload 0, .iload 1, .ldc_w 5, .iload 3, .iadd, .invokevirtual 130914, .aload 0, .getfield 2880, .ldc_w 7, .iload 3, .iadd, .iaload, .imul, .iadd, .istore 2, .iinc 3 1, .goto 1]
def c_921_2 : List Instr := [.iload 2, .ireturn]
/- 931: DreamNetsModel.mind(III)I -/
def c_931_0 : List Instr := [.aload 0, .iload 1, .invokevirtual 130905, .ifCond .eq 1, .iload 2, .iload 3, .invokestatic 882, .ifCond .ne 2, .jsr 1]
def c_931_1 : List Instr := [.iconst (-1), .ireturn]
def c_931_2 : List Instr := [.aload 0, .iload 1, .ldc_w 1, .iload 3, .invokevirtual 130891, .aload 0, .ldc_w 76, .ldc_w 10, .iload 1, .imul, .iadd, .iload 2, .invokevirtual 130778, .ireturn]
/- 938: DreamNetsModel.move(II)I -/
def c_938_0 : List Instr := [.aload 0, .iload 1, .invokevirtual 130905, .ifCond .eq 1, .iload 2, .invokestatic 849, .ifCond .eq 1, .aload 0, .ldc_w 76, .ldc_w 10, .iload 1, .imul, .iadd, .ldc_w 2, .iadd, .iload 2, .invokevirtual 130778, .goto 2]
def c_938_1 : List Instr := [.iconst (-1), .jsr 2]
def c_938_2 : List Instr := [.ireturn]
/- 946: DreamNetsModel.mesh(II)I -/
def c_946_0 : List Instr := [.aload 0, .iload 1, .invokevirtual 130905, .ifCond .eq 1, .iload 2, .ldc_w 0, .ldc_w 9, .invokestatic 611, .ifCond .eq 1, .aload 0, .ldc_w 76, .ldc_w 10, .iload 1, .imul, .iadd, .ldc_w 3, .iadd, .iload 2, .invokevirtual 130778, .goto 2]
def c_946_1 : List Instr := [.iconst (-1), .jsr 2]
def c_946_2 : List Instr := [.ireturn]
/- 953: DreamNetsModel.patch(I)I -/
def c_953_0 : List Instr := [.aload 0, .iload 1, .invokevirtual 130905, .ifCond .eq 1, .aload 0, .ldc_w 76, .ldc_w 10, .iload 1, .imul, .iadd, .ldc_w 4, .iadd, .ldc_w 0, .invokevirtual 130778, .goto 2]
def c_953_1 : List Instr := [.iconst (-1), .jsr 2]
def c_953_2 : List Instr := [.ireturn]
/- 962: DreamNetsModel.takes(II)I -/
def c_962_0 : List Instr := [.aload 0, .iload 1, .invokevirtual 130905, .ifCond .eq 1, .iload 2, .invokestatic 801, .ifCond .eq 1, .aload 0, .iload 1, .iload 2, .invokevirtual 130970, .goto 2]
def c_962_1 : List Instr := [.iconst (-1), .jsr 2]
def c_962_2 : List Instr := [.ireturn]
/- 970: DreamNetsModel.takesOf(II)I -/
def c_970_0 : List Instr := [.aload 0, .aload 0, .iload 1, .ldc_w 2, .invokevirtual 130914, .iload 2, .invokevirtual 130834, .istore 3, .aload 0, .iload 1, .ldc_w 1, .invokevirtual 130914, .istore 4, .iload 3, .ldc_w 4, .idiv, .istore 5, .aload 0, .iload 1, .ldc_w 0, .invokevirtual 130914, .tableswitch 10 1 5 #[1, 2, 3, 6, 7]]
def c_970_1 : List Instr := [.ldc_w 2, .iload 5, .imul, .istore 5, .goto 10]
def c_970_2 : List Instr := [.iload 5, .iload 4, .iadd, .istore 5, .goto 10]
def c_970_3 : List Instr := [.iload 2, .ldc_w 2, .if_icmp .ne 4, .ldc_w 0, .goto 5]
def c_970_4 : List Instr := [.ldc_w 2, .iload 5, .imul, .jsr 5]
def c_970_5 : List Instr := [.istore 5, .goto 10]
def c_970_6 : List Instr := [.ldc_w 2, .iload 5, .iload 4, .iadd, .imul, .istore 5, .goto 10]
def c_970_7 : List Instr := [.iload 2, .iload 4, .ldc_w 5, .irem, .if_icmp .ne 8, .iload 3, .goto 9]
def c_970_8 : List Instr := [.iload 5, .jsr 9]
def c_970_9 : List Instr := [.istore 5, .goto 10]
def c_970_10 : List Instr := [.iload 5, .iload 3, .if_icmp .ge 11, .iload 5, .goto 12]
def c_970_11 : List Instr := [.iload 3, .jsr 12]
def c_970_12 : List Instr := [.ireturn]
/- 977: DreamNetsModel.tears(I)I -/
def c_977_0 : List Instr := [.aload 0, .iload 1, .invokevirtual 130905, .ifCond .eq 1, .aload 0, .iload 1, .invokevirtual 130985, .goto 2]
def c_977_1 : List Instr := [.iconst (-1), .jsr 2]
def c_977_2 : List Instr := [.ireturn]
/- 985: DreamNetsModel.tearsOf(I)I -/
def c_985_0 : List Instr := [.aload 0, .iload 1, .ldc_w 0, .invokevirtual 130914, .tableswitch 7 1 5 #[1, 2, 3, 6, 1]]
def c_985_1 : List Instr := [.ldc_w 0, .ireturn]
def c_985_2 : List Instr := [.ldc_w 2, .ireturn]
def c_985_3 : List Instr := [.aload 0, .iload 1, .ldc_w 3, .invokevirtual 130914, .ldc_w 3, .if_icmp .ge 4, .ldc_w 1, .goto 5]
def c_985_4 : List Instr := [.ldc_w 0, .jsr 5]
def c_985_5 : List Instr := [.ireturn]
def c_985_6 : List Instr := [.ldc_w 2, .aload 0, .iload 1, .ldc_w 1, .invokevirtual 130914, .iadd, .ireturn]
def c_985_7 : List Instr := [.ldc_w 1, .ireturn]
/- 993: DreamNetsModel.haul(I)I -/
def c_993_0 : List Instr := [.aload 0, .iload 1, .invokevirtual 130905, .ifCond .ne 1, .iconst (-1), .ireturn]
def c_993_1 : List Instr := [.aload 0, .iload 1, .invokevirtual 131001, .ifCond .ne 2, .iconst (-4), .ireturn]
def c_993_2 : List Instr := [.aload 0, .iload 1, .invokevirtual 131009, .aload 0, .getfield 846, .ireturn]
/- 1001: DreamNetsModel.mayHaul(I)Z -/
def c_1001_0 : List Instr := [.ldc_w 68, .aload 0, .iload 1, .ldc_w 2, .invokevirtual 130914, .ldc_w 2, .idiv, .ldc_w 2, .imul, .iadd, .istore 2, .aload 0, .iload 1, .ldc_w 4, .invokevirtual 130914, .ldc_w 9, .if_icmp .ge 1, .aload 0, .getfield 2880, .iload 2, .ldc_w 1, .iadd, .iaload, .aload 0, .getfield 2880, .iload 2, .iaload, .if_icmp .ge 1, .ldc_w 1, .goto 2]
def c_1001_1 : List Instr := [.ldc_w 0, .jsr 2]
def c_1001_2 : List Instr := [.ireturn]
/- 1009: DreamNetsModel.hauls(I)V -/
def c_1009_0 : List Instr := [.aload 0, .ldc_w 0, .putfield 846, .aload 0, .ldc_w 0, .putfield 847, .aload 0, .iload 1, .invokevirtual 131001, .ifCond .ne 1, .return_]
def c_1009_1 : List Instr := [.aload 0, .iload 1, .ldc_w 2, .invokevirtual 130914, .istore 2, .ldc_w 0, .istore 3, .jsr 2]
def c_1009_2 : List Instr := [.iload 3, .ldc_w 5, .if_icmp .ge 6, .aload 0, .getfield 2884, .iload 3, .iaload, .aload 0, .iload 1, .ldc_w 3, .invokevirtual 130914, .if_icmp .lt 3, .aload 0, .iload 1, .iload 3, .invokevirtual 130970, .goto 4]
def c_1009_3 : List Instr := [.ldc_w 0, .jsr 4]
def c_1009_4 : List Instr := [.istore 4, .aload 0, .iload 2, .iload 3, .aload 0, .iload 2, .iload 3, .invokevirtual 130834, .iload 4, .isub, .invokevirtual 131019, .aload 0, .iload 1, .ldc_w 5, .iload 3, .iadd, .aload 0, .iload 1, .ldc_w 5, .iload 3, .iadd, .invokevirtual 130914, .iload 4, .iadd, .invokevirtual 130891, .aload 0, .dup, .getfield 846, .iload 4, .iadd, .putfield 846, .aload 0, .dup, .getfield 847, .iload 4, .aload 0, .getfield 2880, .ldc_w 7, .iload 3, .iadd, .iaload, .imul, .iadd, .putfield 847, .iload 3, .ldc_w 4, .if_icmp .ne 5, .iload 4, .ifCond .le 5, .aload 0, .iload 1, .ldc_w 4, .aload 0, .iload 1, .ldc_w 4, .invokevirtual 130914, .aload 0, .iload 1, .invokevirtual 130985, .iadd, .ldc_w 0, .ldc_w 9, .invokestatic 1027, .invokevirtual 130891, .jsr 5]
def c_1009_5 : List Instr := [.iinc 3 1, .goto 2]
def c_1009_6 : List Instr := [.aload 0, .iload 2, .ldc_w 6, .aload 0, .iload 2, .ldc_w 6, .invokevirtual 130834, .aload 0, .getfield 846, .iadd, .invokevirtual 131019, .aload 0, .getfield 2880, .ldc_w 68, .iload 2, .ldc_w 2, .idiv, .ldc_w 2, .imul, .iadd, .ldc_w 1, .iadd, .dup2, .iaload, .aload 0, .getfield 846, .iadd, .iastore, .return_]
/- 1019: DreamNetsModel.setsAt(III)V -/
def c_1019_0 : List Instr := [.aload 0, .getfield 2880, .ldc_w 12, .ldc_w 7, .iload 1, .imul, .iadd, .iload 2, .iadd, .iload 3, .iastore, .return_]
/- 1027: DreamNetsModel.held(III)I -/
def c_1027_0 : List Instr := [.iload 0, .iload 1, .if_icmp .ge 1, .iload 1, .goto 3]
def c_1027_1 : List Instr := [.iload 0, .iload 2, .if_icmp .le 2, .iload 2, .goto 3]
def c_1027_2 : List Instr := [.iload 0, .jsr 3]
def c_1027_3 : List Instr := [.ireturn]
/- 1034: DreamNetsModel.free(II)I -/
def c_1034_0 : List Instr := [.aload 0, .iload 1, .invokevirtual 130905, .ifCond .eq 1, .iload 2, .invokestatic 801, .ifCond .ne 2, .jsr 1]
def c_1034_1 : List Instr := [.iconst (-1), .ireturn]
def c_1034_2 : List Instr := [.aload 0, .iload 1, .ldc_w 2, .invokevirtual 130914, .istore 3, .aload 0, .iload 1, .ldc_w 5, .iload 2, .iadd, .invokevirtual 130914, .istore 4, .aload 0, .iload 3, .iload 2, .aload 0, .iload 3, .iload 2, .invokevirtual 130834, .iload 4, .iadd, .ldc_w 0, .ldc_w 99, .invokestatic 1027, .invokevirtual 131019, .aload 0, .iload 1, .ldc_w 5, .iload 2, .iadd, .ldc_w 0, .invokevirtual 130891, .iload 4, .ireturn]
/- 1041: DreamNetsModel.land(I)I -/
def c_1041_0 : List Instr := [.aload 0, .iload 1, .invokevirtual 130905, .ifCond .ne 1, .iconst (-1), .ireturn]
def c_1041_1 : List Instr := [.aload 0, .iload 1, .invokevirtual 130921, .istore 2, .aload 0, .getfield 2880, .ldc_w 4, .dup2, .iaload, .iload 2, .iadd, .iastore, .ldc_w 0, .istore 3, .jsr 2]
def c_1041_2 : List Instr := [.iload 3, .ldc_w 5, .if_icmp .ge 3, .aload 0, .iload 1, .ldc_w 5, .iload 3, .iadd, .ldc_w 0, .invokevirtual 130891, .iinc 3 1, .goto 2]
def c_1041_3 : List Instr := [.iload 2, .ireturn]
/- 1049: DreamNetsModel.bells(I)I -/
def c_1049_0 : List Instr := [.iload 1, .ldc_w 1, .ldc_w 48, .invokestatic 611, .ifCond .ne 1, .iconst (-1), .ireturn]
def c_1049_1 : List Instr := [.ldc_w 0, .istore 2, .jsr 2]
def c_1049_2 : List Instr := [.iload 2, .iload 1, .if_icmp .ge 3, .aload 0, .invokevirtual 131056, .iinc 2 1, .goto 2]
def c_1049_3 : List Instr := [.aload 0, .getfield 2880, .ldc_w 3, .iaload, .ireturn]
/- 1056: DreamNetsModel.bellGoes()V -/
def c_1056_0 : List Instr := [.ldc_w 0, .istore 1, .jsr 1]
def c_1056_1 : List Instr := [.iload 1, .ldc_w 8, .if_icmp .ge 6, .ldc_w 0, .istore 2, .jsr 2]
def c_1056_2 : List Instr := [.iload 2, .ldc_w 5, .if_icmp .ge 5, .aload 0, .iload 1, .iload 2, .invokevirtual 130834, .istore 3, .aload 0, .iload 1, .iload 2, .iload 3, .iload 3, .aload 0, .getfield 2880, .ldc_w 1, .iaload, .idiv, .iadd, .aload 0, .getfield 2880, .ldc_w 3, .iaload, .ldc_w 5, .irem, .iload 2, .if_icmp .ne 3, .aload 0, .iload 1, .ldc_w 5, .invokevirtual 130834, .goto 4]
def c_1056_3 : List Instr := [.ldc_w 0, .jsr 4]
def c_1056_4 : List Instr := [.iadd, .ldc_w 0, .ldc_w 99, .invokestatic 1027, .invokevirtual 131019, .iinc 2 1, .goto 2]
def c_1056_5 : List Instr := [.aload 0, .getfield 2896, .iload 1, .aload 0, .iload 1, .ldc_w 0, .invokevirtual 130834, .aload 0, .getfield 2880, .ldc_w 2, .iaload, .idiv, .iastore, .iinc 1 1, .goto 1]
def c_1056_6 : List Instr := [.ldc_w 0, .istore 1, .jsr 7]
def c_1056_7 : List Instr := [.iload 1, .ldc_w 8, .if_icmp .ge 8, .aload 0, .iload 1, .ldc_w 0, .aload 0, .iload 1, .ldc_w 0, .invokevirtual 130834, .aload 0, .getfield 2896, .iload 1, .iaload, .isub, .aload 0, .getfield 2896, .iload 1, .ldc_w 8, .iadd, .ldc_w 1, .isub, .ldc_w 8, .irem, .iaload, .iadd, .ldc_w 0, .ldc_w 99, .invokestatic 1027, .invokevirtual 131019, .iinc 1 1, .goto 7]
def c_1056_8 : List Instr := [.aload 0, .getfield 2880, .ldc_w 3, .dup2, .iaload, .ldc_w 1, .iadd, .iastore, .return_]
/- 1065: DreamNetsModel.cast(I)I -/
def c_1065_0 : List Instr := [.aload 0, .iload 1, .invokevirtual 130905, .ifCond .eq 1, .aload 0, .iload 1, .invokevirtual 131073, .goto 2]
def c_1065_1 : List Instr := [.iconst (-1), .jsr 2]
def c_1065_2 : List Instr := [.ireturn]
/- 1073: DreamNetsModel.casts(I)I -/
def c_1073_0 : List Instr := [.aload 0, .invokevirtual 131080, .ldc_w 100, .irem, .aload 0, .getfield 2880, .ldc_w 0, .iaload, .if_icmp .ge 1, .ldc_w 1, .goto 2]
def c_1073_1 : List Instr := [.ldc_w 0, .jsr 2]
def c_1073_2 : List Instr := [.istore 2, .aload 0, .ldc_w 0, .putfield 846, .iload 2, .ifCond .ne 3, .aload 0, .iload 1, .invokevirtual 131009, .jsr 3]
def c_1073_3 : List Instr := [.aload 0, .getfield 846, .ireturn]
/- 1080: DreamNetsModel.drawn()I -/
def c_1080_0 : List Instr := [.aload 0, .getfield 2880, .ldc_w 6, .aload 0, .getfield 2880, .ldc_w 6, .iaload, .ldc_w 1103515245, .imul, .ldc_w 12345, .iadd, .iastore, .aload 0, .getfield 2880, .ldc_w 6, .iaload, .ldc_w 16, .iushr, .ireturn]
/- 1089: DreamNetsModel.seed(I)I -/
def c_1089_0 : List Instr := [.aload 0, .ldc_w 6, .iload 1, .invokevirtual 130778, .ireturn]
/- 1096: DreamNetsModel.night()I -/
def c_1096_0 : List Instr := [.aload 0, .invokevirtual 131104, .ireturn]
/- 1104: DreamNetsModel.nightGoes()I -/
def c_1104_0 : List Instr := [.ldc_w 0, .istore 1, .ldc_w 0, .istore 2, .jsr 1]
def c_1104_1 : List Instr := [.iload 2, .aload 0, .getfield 2880, .ldc_w 5, .iaload, .if_icmp .ge 2, .aload 0, .iload 2, .ldc_w 2, .aload 0, .invokevirtual 131080, .ldc_w 8, .irem, .invokevirtual 130891, .iload 1, .aload 0, .iload 2, .invokevirtual 131073, .iadd, .istore 1, .iinc 2 1, .goto 1]
def c_1104_2 : List Instr := [.aload 0, .invokevirtual 131056, .iload 1, .ireturn]
/- 1114: DreamNetsModel.month(II)I -/
def c_1114_0 : List Instr := [.iload 1, .ldc_w 1, .ldc_w 30, .invokestatic 611, .ifCond .eq 1, .iload 2, .ldc_w 0, .ldc_w 999, .invokestatic 611, .ifCond .ne 2, .jsr 1]
def c_1114_1 : List Instr := [.iconst (-1), .ireturn]
def c_1114_2 : List Instr := [.aload 0, .getfield 2880, .aload 0, .getfield 2883, .invokestatic 762, .ldc_w 0, .istore 3, .ldc_w 0, .istore 4, .jsr 3]
def c_1114_3 : List Instr := [.iload 4, .iload 1, .if_icmp .ge 6, .aload 0, .getfield 2880, .ldc_w 6, .iaload, .istore 5, .aload 0, .getfield 2883, .aload 0, .getfield 2880, .invokestatic 762, .aload 0, .getfield 2880, .ldc_w 6, .iload 5, .iastore, .iload 3, .aload 0, .invokevirtual 131104, .iload 2, .if_icmp .lt 4, .ldc_w 1, .goto 5]
def c_1114_4 : List Instr := [.ldc_w 0, .jsr 5]
def c_1114_5 : List Instr := [.iadd, .istore 3, .iinc 4 1, .goto 3]
def c_1114_6 : List Instr := [.aload 0, .getfield 2883, .aload 0, .getfield 2880, .invokestatic 762, .iload 3, .ireturn]
/- 1121: DreamNetsModel.state(I)I -/
def c_1121_0 : List Instr := [.iload 1, .tableswitch 6 0 5 #[1, 2, 3, 3, 4, 5]]
def c_1121_1 : List Instr := [.aload 0, .getfield 2880, .ldc_w 3, .iaload, .ireturn]
def c_1121_2 : List Instr := [.aload 0, .getfield 2880, .ldc_w 4, .iaload, .ireturn]
def c_1121_3 : List Instr := [.aload 0, .iload 1, .invokevirtual 131129, .ireturn]
def c_1121_4 : List Instr := [.aload 0, .invokevirtual 131136, .ireturn]
def c_1121_5 : List Instr := [.aload 0, .invokevirtual 131144, .ireturn]
def c_1121_6 : List Instr := [.iconst (-1), .ireturn]
/- 1129: DreamNetsModel.sumOf(I)I -/
def c_1129_0 : List Instr := [.ldc_w 0, .istore 2, .ldc_w 0, .istore 3, .jsr 1]
def c_1129_1 : List Instr := [.iload 3, .ldc_w 8, .if_icmp .ge 2, .iload 1, .ldc_w 2, .if_icmp .ne 2, .iload 2, .aload 0, .iload 3, .invokevirtual 130857, .iadd, .istore 2, .iinc 3 1, .goto 1]
def c_1129_2 : List Instr := [.ldc_w 0, .istore 3, .jsr 3]
def c_1129_3 : List Instr := [.iload 3, .aload 0, .getfield 2880, .ldc_w 5, .iaload, .if_icmp .ge 6, .iload 1, .ldc_w 3, .if_icmp .ne 6, .ldc_w 0, .istore 4, .jsr 4]
def c_1129_4 : List Instr := [.iload 4, .ldc_w 5, .if_icmp .ge 5, .iload 2, .aload 0, .iload 3, .ldc_w 5, .iload 4, .iadd, .invokevirtual 130914, .iadd, .istore 2, .iinc 4 1, .goto 4]
def c_1129_5 : List Instr := [.iinc 3 1, .goto 3]
def c_1129_6 : List Instr := [.iload 2, .ireturn]
/- 1136: DreamNetsModel.emptySet()I -/
def c_1136_0 : List Instr := [.ldc_w 0, .istore 1, .ldc_w 0, .istore 2, .jsr 1]
def c_1136_1 : List Instr := [.iload 2, .ldc_w 8, .if_icmp .ge 4, .iload 1, .aload 0, .iload 2, .invokevirtual 130857, .ifCond .ne 2, .ldc_w 1, .iload 2, .ishl, .goto 3]
def c_1136_2 : List Instr := [.ldc_w 0, .jsr 3]
def c_1136_3 : List Instr := [.ior, .istore 1, .iinc 2 1, .goto 1]
def c_1136_4 : List Instr := [.iload 1, .ireturn]
/- 1144: DreamNetsModel.maySet()I -/
def c_1144_0 : List Instr := [.ldc_w 0, .istore 1, .ldc_w 0, .istore 2, .jsr 1]
def c_1144_1 : List Instr := [.iload 2, .aload 0, .getfield 2880, .ldc_w 5, .iaload, .if_icmp .ge 4, .iload 1, .aload 0, .iload 2, .invokevirtual 131001, .ifCond .eq 2, .ldc_w 1, .iload 2, .ishl, .goto 3]
def c_1144_2 : List Instr := [.ldc_w 0, .jsr 3]
def c_1144_3 : List Instr := [.ior, .istore 1, .iinc 2 1, .goto 1]
def c_1144_4 : List Instr := [.iload 1, .ireturn]
/- 1154: DreamNetsModel.plan(II)I -/
def c_1154_0 : List Instr := [.aload 0, .iload 1, .invokevirtual 130905, .ifCond .eq 1, .iload 2, .ldc_w 0, .ldc_w 4, .invokestatic 611, .ifCond .ne 2, .jsr 1]
def c_1154_1 : List Instr := [.iconst (-1), .ireturn]
def c_1154_2 : List Instr := [.aload 0, .iload 1, .iload 2, .invokevirtual 131162, .aload 0, .getfield 851, .ireturn]
/- 1162: DreamNetsModel.findPlan(II)V -/
def c_1162_0 : List Instr := [.aload 0, .getfield 2880, .aload 0, .getfield 2883, .invokestatic 762, .aload 0, .iconst (-1), .putfield 851, .ldc_w 0, .istore 3, .jsr 1]
def c_1162_1 : List Instr := [.iload 3, .iload 2, .invokestatic 1169, .if_icmp .ge 6, .ldc_w 0, .istore 4, .ldc_w 0, .istore 5, .jsr 2]
def c_1162_2 : List Instr := [.iload 5, .iload 2, .if_icmp .ge 3, .aload 0, .iload 1, .ldc_w 2, .aload 0, .iload 1, .ldc_w 2, .invokevirtual 130914, .iload 3, .iload 2, .ldc_w 1, .isub, .iload 5, .isub, .invokestatic 1169, .idiv, .ldc_w 3, .irem, .invokestatic 1178, .invokevirtual 130891, .aload 0, .getfield 2898, .iload 5, .aload 0, .iload 1, .ldc_w 2, .invokevirtual 130914, .iastore, .aload 0, .iload 1, .invokevirtual 131009, .iload 4, .aload 0, .getfield 847, .iadd, .istore 4, .aload 0, .invokevirtual 131056, .iinc 5 1, .goto 2]
def c_1162_3 : List Instr := [.aload 0, .getfield 2883, .aload 0, .getfield 2880, .invokestatic 762, .iload 4, .aload 0, .getfield 851, .if_icmp .le 5, .aload 0, .iload 4, .putfield 851, .ldc_w 0, .istore 5, .jsr 4]
def c_1162_4 : List Instr := [.iload 5, .iload 2, .if_icmp .ge 5, .aload 0, .getfield 2897, .iload 5, .aload 0, .getfield 2898, .iload 5, .iaload, .iastore, .iinc 5 1, .goto 4]
def c_1162_5 : List Instr := [.iinc 3 1, .goto 1]
def c_1162_6 : List Instr := [.return_]
/- 1169: DreamNetsModel.power(I)I -/
def c_1169_0 : List Instr := [.ldc_w 1, .istore 1, .ldc_w 0, .istore 2, .jsr 1]
def c_1169_1 : List Instr := [.iload 2, .iload 0, .if_icmp .ge 2, .iload 1, .ldc_w 3, .imul, .istore 1, .iinc 2 1, .goto 1]
def c_1169_2 : List Instr := [.iload 1, .ireturn]
/- 1178: DreamNetsModel.option(II)I -/
def c_1178_0 : List Instr := [.iload 0, .ifCond .ne 3, .iload 1, .ldc_w 2, .if_icmp .ge 1, .iload 1, .goto 2]
def c_1178_1 : List Instr := [.ldc_w 7, .jsr 2]
def c_1178_2 : List Instr := [.ireturn]
def c_1178_3 : List Instr := [.iload 0, .ldc_w 7, .if_icmp .ne 6, .iload 1, .ifCond .ne 4, .ldc_w 0, .goto 5]
def c_1178_4 : List Instr := [.ldc_w 5, .iload 1, .iadd, .jsr 5]
def c_1178_5 : List Instr := [.ireturn]
def c_1178_6 : List Instr := [.iload 0, .ldc_w 1, .isub, .iload 1, .iadd, .ireturn]
/- 1187: DreamNetsModel.stop(III)I -/
def c_1187_0 : List Instr := [.aload 0, .iload 1, .invokevirtual 130905, .ifCond .eq 1, .iload 2, .ldc_w 0, .ldc_w 4, .invokestatic 611, .ifCond .eq 1, .iload 3, .ldc_w 0, .ldc_w 3, .invokestatic 611, .ifCond .ne 2, .jsr 1]
def c_1187_1 : List Instr := [.iconst (-1), .ireturn]
def c_1187_2 : List Instr := [.aload 0, .iload 1, .iload 2, .invokevirtual 131162, .iload 3, .iload 2, .if_icmp .ge 3, .aload 0, .getfield 2897, .iload 3, .iaload, .goto 4]
def c_1187_3 : List Instr := [.iconst (-3), .jsr 4]
def c_1187_4 : List Instr := [.ireturn]
/- 1195: DreamNetsModel.fine(III)I -/
def c_1195_0 : List Instr := [.aload 0, .iload 1, .invokevirtual 130905, .ifCond .eq 1, .iload 2, .ldc_w 1, .ldc_w 9, .invokestatic 611, .ifCond .eq 1, .iload 3, .ldc_w 0, .ldc_w 1, .invokestatic 611, .ifCond .ne 2, .jsr 1]
def c_1195_1 : List Instr := [.iconst (-1), .ireturn]
def c_1195_2 : List Instr := [.aload 0, .getfield 2880, .aload 0, .getfield 2883, .invokestatic 762, .ldc_w 0, .istore 4, .iconst (-1), .istore 5, .ldc_w 0, .istore 6, .jsr 3]
def c_1195_3 : List Instr := [.iload 6, .ldc_w 9, .if_icmp .gt 10, .ldc_w 0, .istore 7, .aload 0, .iload 1, .ldc_w 3, .iload 6, .invokevirtual 130891, .ldc_w 0, .istore 8, .jsr 4]
def c_1195_4 : List Instr := [.iload 8, .iload 2, .if_icmp .ge 5, .aload 0, .iload 1, .invokevirtual 131009, .iload 7, .aload 0, .getfield 847, .iadd, .istore 7, .aload 0, .invokevirtual 131056, .iinc 8 1, .goto 4]
def c_1195_5 : List Instr := [.aload 0, .getfield 2883, .aload 0, .getfield 2880, .invokestatic 762, .iload 7, .iload 5, .if_icmp .lt 6, .iload 6, .goto 7]
def c_1195_6 : List Instr := [.iload 4, .jsr 7]
def c_1195_7 : List Instr := [.istore 4, .iload 7, .iload 5, .if_icmp .lt 8, .iload 7, .goto 9]
def c_1195_8 : List Instr := [.iload 5, .jsr 9]
def c_1195_9 : List Instr := [.istore 5, .iinc 6 1, .goto 3]
def c_1195_10 : List Instr := [.iload 3, .ifCond .ne 11, .iload 4, .goto 12]
def c_1195_11 : List Instr := [.iload 5, .jsr 12]
def c_1195_12 : List Instr := [.ireturn]
/- 1200: DreamNetsModel.lasts()I -/
def c_1200_0 : List Instr := [.aload 0, .getfield 2880, .aload 0, .getfield 2883, .invokestatic 762, .ldc_w 0, .istore 1, .jsr 1]
def c_1200_1 : List Instr := [.iload 1, .ldc_w 48, .if_icmp .gt 4, .aload 0, .invokevirtual 131136, .ifCond .ne 4, .ldc_w 0, .istore 2, .jsr 2]
def c_1200_2 : List Instr := [.iload 2, .aload 0, .getfield 2880, .ldc_w 5, .iaload, .if_icmp .ge 3, .aload 0, .iload 2, .invokevirtual 131009, .iinc 2 1, .goto 2]
def c_1200_3 : List Instr := [.aload 0, .invokevirtual 131056, .iinc 1 1, .goto 1]
def c_1200_4 : List Instr := [.aload 0, .getfield 2883, .aload 0, .getfield 2880, .invokestatic 762, .iload 1, .ldc_w 48, .if_icmp .le 5, .iconst (-3), .goto 6]
def c_1200_5 : List Instr := [.iload 1, .jsr 6]
def c_1200_6 : List Instr := [.ireturn]
/- 1210: DreamNetsModel.shoal(II)I -/
def c_1210_0 : List Instr := [.iload 1, .invokestatic 1217, .ifCond .eq 1, .iload 2, .ldc_w 0, .ldc_w 1, .invokestatic 611, .ifCond .ne 2, .jsr 1]
def c_1210_1 : List Instr := [.iconst (-1), .ireturn]
def c_1210_2 : List Instr := [.aload 0, .getfield 2904, .iload 1, .iaload, .ifCond .ge 3, .iconst (-11), .ireturn]
def c_1210_3 : List Instr := [.ldc_w 0, .istore 3, .jsr 4]
def c_1210_4 : List Instr := [.iload 3, .ldc_w 40, .if_icmp .ge 5, .aload 0, .getfield 2900, .iload 3, .ldc_w 1, .bastore, .iinc 3 1, .goto 4]
def c_1210_5 : List Instr := [.aload 0, .getfield 2880, .aload 0, .getfield 2883, .invokestatic 762, .ldc_w 0, .istore 3, .jsr 6]
def c_1210_6 : List Instr := [.iload 3, .aload 0, .getfield 2905, .iload 1, .iaload, .if_icmp .ge 11, .ldc_w 0, .istore 4, .jsr 7]
def c_1210_7 : List Instr := [.iload 4, .ldc_w 40, .if_icmp .ge 10, .aload 0, .getfield 2900, .iload 4, .aload 0, .getfield 2900, .iload 4, .baload, .ifCond .eq 8, .aload 0, .getfield 2906, .ldc_w 40, .iload 1, .imul, .iload 3, .iadd, .laload, .aload 0, .iload 4, .ldc_w 5, .idiv, .iload 4, .ldc_w 5, .irem, .invokevirtual 130834, .i2l, .lcmp, .ifCond .ne 8, .ldc_w 1, .goto 9]
def c_1210_8 : List Instr := [.ldc_w 0, .jsr 9]
def c_1210_9 : List Instr := [.bastore, .iinc 4 1, .goto 7]
def c_1210_10 : List Instr := [.aload 0, .invokevirtual 131056, .iinc 3 1, .goto 6]
def c_1210_11 : List Instr := [.aload 0, .getfield 2883, .aload 0, .getfield 2880, .invokestatic 762, .ldc_w 0, .istore 3, .iconst (-3), .istore 4, .ldc_w 39, .istore 5, .jsr 12]
def c_1210_12 : List Instr := [.iload 5, .ifCond .lt 17, .iload 3, .aload 0, .getfield 2900, .iload 5, .baload, .ifCond .eq 13, .ldc_w 1, .goto 14]
def c_1210_13 : List Instr := [.ldc_w 0, .jsr 14]
def c_1210_14 : List Instr := [.iadd, .istore 3, .aload 0, .getfield 2900, .iload 5, .baload, .ifCond .eq 15, .ldc_w 10, .iload 5, .ldc_w 5, .idiv, .imul, .iload 5, .ldc_w 5, .irem, .iadd, .goto 16]
def c_1210_15 : List Instr := [.iload 4, .jsr 16]
def c_1210_16 : List Instr := [.istore 4, .iinc 5 (-1), .goto 12]
def c_1210_17 : List Instr := [.iload 2, .ifCond .ne 18, .iload 3, .goto 19]
def c_1210_18 : List Instr := [.iload 4, .jsr 19]
def c_1210_19 : List Instr := [.ireturn]
/- 1217: DreamNetsModel.isShelf(I)Z -/
def c_1217_0 : List Instr := [.iload 0, .ldc_w 0, .ldc_w 3, .invokestatic 611, .ireturn]
/- 1226: DreamNetsModel.pieces(II)I -/
def c_1226_0 : List Instr := [.iload 1, .invokestatic 801, .ifCond .eq 1, .iload 2, .ldc_w 0, .ldc_w 999, .invokestatic 611, .ifCond .ne 2, .jsr 1]
def c_1226_1 : List Instr := [.iconst (-1), .ireturn]
def c_1226_2 : List Instr := [.iconst (-1), .istore 3, .ldc_w 0, .istore 4, .jsr 3]
def c_1226_3 : List Instr := [.iload 4, .ldc_w 1, .aload 0, .getfield 2880, .ldc_w 5, .iaload, .ishl, .if_icmp .ge 13, .ldc_w 0, .istore 5, .ldc_w 0, .istore 6, .jsr 4]
def c_1226_4 : List Instr := [.iload 6, .aload 0, .getfield 2880, .ldc_w 5, .iaload, .if_icmp .ge 7, .iload 5, .iload 4, .iload 6, .ishr, .ldc_w 1, .iand, .ldc_w 1, .if_icmp .ne 5, .aload 0, .iload 6, .ldc_w 5, .iload 1, .iadd, .invokevirtual 130914, .goto 6]
def c_1226_5 : List Instr := [.ldc_w 0, .jsr 6]
def c_1226_6 : List Instr := [.iadd, .istore 5, .iinc 6 1, .goto 4]
def c_1226_7 : List Instr := [.iload 5, .iload 2, .if_icmp .ne 9, .iload 3, .ifCond .lt 8, .iload 4, .invokestatic 1233, .iload 3, .invokestatic 1233, .if_icmp .ge 9, .jsr 8]
def c_1226_8 : List Instr := [.ldc_w 1, .goto 10]
def c_1226_9 : List Instr := [.ldc_w 0, .jsr 10]
def c_1226_10 : List Instr := [.istore 6, .iload 6, .ifCond .eq 11, .iload 4, .goto 12]
def c_1226_11 : List Instr := [.iload 3, .jsr 12]
def c_1226_12 : List Instr := [.istore 3, .iinc 4 1, .goto 3]
def c_1226_13 : List Instr := [.iload 3, .ifCond .ge 14, .iconst (-3), .goto 15]
def c_1226_14 : List Instr := [.iload 3, .jsr 15]
def c_1226_15 : List Instr := [.ireturn]
/- 1233: DreamNetsModel.ones(I)I -/
def c_1233_0 : List Instr := [.ldc_w 0, .istore 1, .iload 0, .istore 2, .jsr 1]
def c_1233_1 : List Instr := [.iload 2, .ifCond .eq 2, .iinc 1 1, .iload 2, .iload 2, .ldc_w 1, .isub, .iand, .istore 2, .goto 1]
def c_1233_2 : List Instr := [.iload 1, .ireturn]
/- 1240: DreamNetsModel.gives()I -/
def c_1240_0 : List Instr := [.ldc_w 0, .istore 1, .ldc_w 1, .istore 2, .jsr 1]
def c_1240_1 : List Instr := [.iload 2, .ldc_w 4, .if_icmp .ge 4, .aload 0, .getfield 2880, .ldc_w 68, .ldc_w 2, .iload 2, .imul, .iadd, .ldc_w 1, .iadd, .iaload, .i2l, .aload 0, .iload 1, .ldc_w 2, .invokevirtual 130826, .ldc_w 1, .ldc_w 18, .invokestatic 1027, .i2l, .lmul, .lstore 3, .aload 0, .getfield 2880, .ldc_w 68, .ldc_w 2, .iload 1, .imul, .iadd, .ldc_w 1, .iadd, .iaload, .i2l, .aload 0, .iload 2, .ldc_w 2, .invokevirtual 130826, .ldc_w 1, .ldc_w 18, .invokestatic 1027, .i2l, .lmul, .lstore 5, .lload 3, .lload 5, .lcmp, .ifCond .le 2, .iload 2, .goto 3]
def c_1240_2 : List Instr := [.iload 1, .jsr 3]
def c_1240_3 : List Instr := [.istore 1, .iinc 2 1, .goto 1]
def c_1240_4 : List Instr := [.iload 1, .ireturn]
/- 1251: DreamNetsModel.when(III)I -/
def c_1251_0 : List Instr := [.iload 1, .invokestatic 849, .ifCond .eq 1, .iload 2, .invokestatic 801, .ifCond .eq 1, .iload 3, .ldc_w 0, .ldc_w 99, .invokestatic 611, .ifCond .ne 2, .jsr 1]
def c_1251_1 : List Instr := [.iconst (-1), .ireturn]
def c_1251_2 : List Instr := [.aload 0, .getfield 2880, .aload 0, .getfield 2883, .invokestatic 762, .ldc_w 0, .istore 4, .jsr 3]
def c_1251_3 : List Instr := [.iload 4, .ldc_w 48, .if_icmp .gt 4, .aload 0, .iload 1, .iload 2, .invokevirtual 130834, .iload 3, .if_icmp .ge 4, .aload 0, .invokevirtual 131056, .iinc 4 1, .goto 3]
def c_1251_4 : List Instr := [.aload 0, .getfield 2883, .aload 0, .getfield 2880, .invokestatic 762, .iload 4, .ldc_w 48, .if_icmp .le 5, .iconst (-3), .goto 6]
def c_1251_5 : List Instr := [.iload 4, .jsr 6]
def c_1251_6 : List Instr := [.ireturn]
/- 1258: DreamNetsModel.odds(II)J -/
def c_1258_0 : List Instr := [.iload 1, .ldc_w 0, .ldc_w 8, .invokestatic 611, .ifCond .eq 1, .iload 2, .ldc_w 0, .ldc_w 1, .invokestatic 611, .ifCond .ne 2, .jsr 1]
def c_1258_1 : List Instr := [.jsr_w (-1), .lreturn]
def c_1258_2 : List Instr := [.ldc_w 100, .iload 1, .invokestatic 1266, .lstore 3, .lload 3, .aload 0, .getfield 2880, .ldc_w 0, .iaload, .iload 1, .invokestatic 1266, .lsub, .lload 3, .iload 2, .invokestatic 1275, .lreturn]
/- 1266: DreamNetsModel.powerOf(II)J -/
def c_1266_0 : List Instr := [.ldc2_w 1, .lstore 2, .ldc_w 0, .istore 4, .jsr 1]
def c_1266_1 : List Instr := [.iload 4, .iload 1, .if_icmp .ge 2, .lload 2, .iload 0, .i2l, .lmul, .lstore 2, .iinc 4 1, .goto 1]
def c_1266_2 : List Instr := [.lload 2, .lreturn]
/- 1275: DreamNetsModel.lowest(JJI)J -/
def c_1275_0 : List Instr := [.lload 2, .lstore 5, .lload 0, .lstore 7, .jsr 1]
def c_1275_1 : List Instr := [.lload 7, .ldc2_w 0, .lcmp, .ifCond .eq 2, .lload 5, .lload 7, .lrem, .lstore 9, .lload 7, .lstore 5, .lload 9, .lstore 7, .goto 1]
def c_1275_2 : List Instr := [.iload 4, .ifCond .ne 3, .lload 0, .lload 5, .ldiv, .goto 4]
def c_1275_3 : List Instr := [.lload 2, .lload 5, .ldiv, .jsr 4]
def c_1275_4 : List Instr := [.lreturn]
/- 1283: DreamNetsModel.hope(III)J -/
def c_1283_0 : List Instr := [.aload 0, .iload 1, .invokevirtual 130905, .ifCond .eq 1, .iload 2, .ldc_w 0, .ldc_w 5, .invokestatic 611, .ifCond .eq 1, .iload 3, .ldc_w 0, .ldc_w 1, .invokestatic 611, .ifCond .ne 2, .jsr 1]
def c_1283_1 : List Instr := [.jsr_w (-1), .lreturn]
def c_1283_2 : List Instr := [.aload 0, .getfield 2880, .aload 0, .getfield 2883, .invokestatic 762, .ldc2_w 0, .lstore 4, .ldc2_w 0, .lstore 6, .ldc_w 1, .istore 8, .jsr 3]
def c_1283_3 : List Instr := [.iload 8, .iload 2, .if_icmp .gt 4, .aload 0, .iload 1, .invokevirtual 131009, .lload 6, .aload 0, .getfield 847, .i2l, .ladd, .lstore 6, .lload 4, .lload 6, .aload 0, .iload 2, .iload 8, .invokevirtual 131290, .lmul, .ladd, .lstore 4, .iinc 8 1, .goto 3]
def c_1283_4 : List Instr := [.aload 0, .getfield 2883, .aload 0, .getfield 2880, .invokestatic 762, .lload 4, .ldc_w 100, .iload 2, .invokestatic 1266, .iload 3, .invokestatic 1275, .lreturn]
/- 1290: DreamNetsModel.just(II)J -/
def c_1290_0 : List Instr := [.ldc2_w 1, .lstore 3, .ldc_w 0, .istore 5, .jsr 1]
def c_1290_1 : List Instr := [.iload 5, .iload 2, .if_icmp .ge 2, .lload 3, .iload 1, .iload 5, .isub, .i2l, .lmul, .iload 5, .ldc_w 1, .iadd, .i2l, .ldiv, .lstore 3, .iinc 5 1, .goto 1]
def c_1290_2 : List Instr := [.lload 3, .ldc_w 100, .aload 0, .getfield 2880, .ldc_w 0, .iaload, .isub, .iload 2, .invokestatic 1266, .lmul, .aload 0, .getfield 2880, .ldc_w 0, .iaload, .iload 1, .iload 2, .isub, .invokestatic 1266, .lmul, .lreturn]
/- 1298: DreamNetsModel.prove(II)I -/
def c_1298_0 : List Instr := [.iload 1, .invokestatic 849, .ifCond .eq 1, .iload 2, .ldc_w 1, .ldc_w 10, .invokestatic 611, .ifCond .ne 2, .jsr 1]
def c_1298_1 : List Instr := [.iconst (-1), .ireturn]
def c_1298_2 : List Instr := [.aload 0, .iload 1, .iload 2, .invokevirtual 131306, .aload 0, .iload 2, .putfield 855, .ldc_w 0, .istore 3, .jsr 3]
def c_1298_3 : List Instr := [.iload 3, .ldc_w 3, .iload 2, .imul, .if_icmp .ge 4, .aload 0, .getfield 2901, .iload 3, .aload 0, .getfield 2902, .iload 3, .iaload, .iastore, .iinc 3 1, .goto 3]
def c_1298_4 : List Instr := [.iload 2, .ireturn]
/- 1306: DreamNetsModel.findRows(II)V -/
def c_1306_0 : List Instr := [.aload 0, .getfield 2880, .aload 0, .getfield 2883, .invokestatic 762, .ldc_w 0, .istore 3, .jsr 1]
def c_1306_1 : List Instr := [.iload 3, .iload 2, .if_icmp .ge 6, .aload 0, .invokevirtual 131056, .ldc_w 0, .istore 4, .ldc_w 1, .istore 5, .jsr 2]
def c_1306_2 : List Instr := [.iload 5, .ldc_w 5, .if_icmp .ge 5, .aload 0, .iload 1, .iload 5, .invokevirtual 130834, .aload 0, .iload 1, .iload 4, .invokevirtual 130834, .if_icmp .le 3, .iload 5, .goto 4]
def c_1306_3 : List Instr := [.iload 4, .jsr 4]
def c_1306_4 : List Instr := [.istore 4, .iinc 5 1, .goto 2]
def c_1306_5 : List Instr := [.aload 0, .getfield 2902, .ldc_w 3, .iload 3, .imul, .aload 0, .iload 1, .invokevirtual 130857, .iastore, .aload 0, .getfield 2902, .ldc_w 3, .iload 3, .imul, .ldc_w 1, .iadd, .aload 0, .iload 1, .ldc_w 0, .invokevirtual 130834, .iastore, .aload 0, .getfield 2902, .ldc_w 3, .iload 3, .imul, .ldc_w 2, .iadd, .iload 4, .iastore, .iinc 3 1, .goto 1]
def c_1306_6 : List Instr := [.aload 0, .getfield 2883, .aload 0, .getfield 2880, .invokestatic 762, .return_]
/- 1314: DreamNetsModel.row(II)I -/
def c_1314_0 : List Instr := [.aload 0, .iload 1, .iload 2, .invokevirtual 131322, .ifCond .eq 1, .aload 0, .getfield 2901, .ldc_w 3, .iload 1, .imul, .iload 2, .iadd, .iaload, .goto 2]
def c_1314_1 : List Instr := [.iconst (-9), .jsr 2]
def c_1314_2 : List Instr := [.ireturn]
/- 1322: DreamNetsModel.isRow(II)Z -/
def c_1322_0 : List Instr := [.iload 1, .ldc_w 0, .aload 0, .getfield 855, .ldc_w 1, .isub, .invokestatic 611, .ifCond .eq 1, .iload 2, .ldc_w 0, .ldc_w 2, .invokestatic 611, .ifCond .eq 1, .ldc_w 1, .goto 2]
def c_1322_1 : List Instr := [.ldc_w 0, .jsr 2]
def c_1322_2 : List Instr := [.ireturn]
/- 1331: DreamNetsModel.alterRow(III)I -/
def c_1331_0 : List Instr := [.aload 0, .iload 1, .iload 2, .invokevirtual 131322, .ifCond .ne 1, .iconst (-9), .ireturn]
def c_1331_1 : List Instr := [.aload 0, .getfield 2901, .ldc_w 3, .iload 1, .imul, .iload 2, .iadd, .iaload, .istore 4, .aload 0, .getfield 2901, .ldc_w 3, .iload 1, .imul, .iload 2, .iadd, .iload 3, .iastore, .iload 4, .ireturn]
/- 1337: DreamNetsModel.judge(I)I -/
def c_1337_0 : List Instr := [.iload 1, .invokestatic 849, .ifCond .ne 1, .iconst (-1), .ireturn]
def c_1337_1 : List Instr := [.aload 0, .iload 1, .aload 0, .getfield 855, .invokevirtual 131306, .ldc_w 0, .istore 2, .jsr 2]
def c_1337_2 : List Instr := [.iload 2, .ldc_w 3, .aload 0, .getfield 855, .imul, .if_icmp .ge 4, .aload 0, .getfield 2901, .iload 2, .iaload, .aload 0, .getfield 2902, .iload 2, .iaload, .if_icmp .eq 3, .iload 2, .ldc_w 3, .idiv, .ldc_w 1, .iadd, .ireturn]
def c_1337_3 : List Instr := [.iinc 2 1, .goto 2]
def c_1337_4 : List Instr := [.ldc_w 0, .ireturn]
/- 1348: DreamNetsModel.minds(IIII)I -/
def c_1348_0 : List Instr := [.iload 1, .invokestatic 1217, .ifCond .eq 1, .iload 3, .invokestatic 849, .ifCond .eq 1, .iload 4, .ldc_w 0, .ldc_w 5, .invokestatic 611, .ifCond .ne 2, .jsr 1]
def c_1348_1 : List Instr := [.iconst (-1), .ireturn]
def c_1348_2 : List Instr := [.aload 0, .iload 1, .ldc_w 0, .invokevirtual 131354, .istore 5, .iload 5, .ifCond .eq 3, .iload 5, .ireturn]
def c_1348_3 : List Instr := [.iload 2, .ifCond .lt 4, .iload 2, .aload 0, .getfield 2905, .iload 1, .iaload, .iload 4, .isub, .if_icmp .le 5, .jsr 4]
def c_1348_4 : List Instr := [.iconst (-12), .ireturn]
def c_1348_5 : List Instr := [.ldc_w 0, .istore 6, .jsr 6]
def c_1348_6 : List Instr := [.iload 6, .iload 4, .if_icmp .ge 7, .aload 0, .iload 3, .iload 6, .aload 0, .getfield 2906, .ldc_w 40, .iload 1, .imul, .iload 2, .iadd, .iload 6, .iadd, .laload, .l2i, .ldc_w 0, .ldc_w 99, .invokestatic 1027, .invokevirtual 131019, .iinc 6 1, .goto 6]
def c_1348_7 : List Instr := [.iload 4, .ireturn]
/- 1354: DreamNetsModel.lacksSort(II)I -/
def c_1354_0 : List Instr := [.aload 0, .getfield 2904, .iload 1, .iaload, .ifCond .ge 1, .iconst (-11), .goto 3]
def c_1354_1 : List Instr := [.aload 0, .getfield 2904, .iload 1, .iaload, .iload 2, .if_icmp .eq 2, .iconst (-13), .goto 3]
def c_1354_2 : List Instr := [.ldc_w 0, .jsr 3]
def c_1354_3 : List Instr := [.ireturn]
/- 1363: DreamNetsModel.sheet(III)I -/
def c_1363_0 : List Instr := [.iload 1, .invokestatic 1217, .ifCond .eq 1, .iload 2, .iconst (-1), .ldc_w 3, .invokestatic 611, .ifCond .eq 1, .iload 2, .ifCond .lt 2, .iload 3, .ldc_w 40, .if_icmp .le 2, .jsr 1]
def c_1363_1 : List Instr := [.iconst (-1), .ireturn]
def c_1363_2 : List Instr := [.iload 2, .ifCond .lt 3, .iload 3, .ifCond .ge 3, .iconst (-14), .ireturn]
def c_1363_3 : List Instr := [.aload 0, .getfield 2904, .iload 1, .iload 2, .iastore, .aload 0, .getfield 2905, .iload 1, .iload 2, .ifCond .ge 4, .ldc_w 0, .goto 5]
def c_1363_4 : List Instr := [.iload 3, .jsr 5]
def c_1363_5 : List Instr := [.iastore, .ldc_w 0, .istore 4, .jsr 6]
def c_1363_6 : List Instr := [.iload 4, .ldc_w 40, .if_icmp .ge 7, .aload 0, .getfield 2906, .ldc_w 40, .iload 1, .imul, .iload 4, .iadd, .ldc2_w 0, .lastore, .iinc 4 1, .goto 6]
def c_1363_7 : List Instr := [.ldc_w 1, .ireturn]
/- 1371: DreamNetsModel.put(III)I -/
def c_1371_0 : List Instr := [.iload 1, .invokestatic 1217, .ifCond .ne 1, .iconst (-1), .ireturn]
def c_1371_1 : List Instr := [.aload 0, .getfield 2904, .iload 1, .iaload, .ifCond .ge 2, .iconst (-11), .ireturn]
def c_1371_2 : List Instr := [.iload 2, .ldc_w 0, .aload 0, .getfield 2905, .iload 1, .iaload, .ldc_w 1, .isub, .invokestatic 611, .ifCond .ne 3, .iconst (-12), .ireturn]
def c_1371_3 : List Instr := [.aload 0, .getfield 2906, .ldc_w 40, .iload 1, .imul, .iload 2, .iadd, .aload 0, .getfield 2904, .iload 1, .iaload, .ifCond .ne 4, .iload 3, .i2b, .i2l, .goto 6]
def c_1371_4 : List Instr := [.aload 0, .getfield 2904, .iload 1, .iaload, .ldc_w 1, .if_icmp .ne 5, .iload 3, .i2s, .i2l, .goto 6]
def c_1371_5 : List Instr := [.iload 3, .i2l, .jsr 6]
def c_1371_6 : List Instr := [.lastore, .ldc_w 1, .ireturn]
/- 1379: DreamNetsModel.item(III)I -/
def c_1379_0 : List Instr := [.iload 1, .invokestatic 1217, .ifCond .eq 1, .iload 2, .ldc_w 0, .ldc_w 3, .invokestatic 611, .ifCond .ne 2, .jsr 1]
def c_1379_1 : List Instr := [.iconst (-1), .ireturn]
def c_1379_2 : List Instr := [.aload 0, .iload 1, .iload 2, .invokevirtual 131354, .istore 4, .iload 4, .ifCond .eq 3, .iload 4, .ireturn]
def c_1379_3 : List Instr := [.iload 3, .ldc_w 0, .aload 0, .getfield 2905, .iload 1, .iaload, .ldc_w 1, .isub, .invokestatic 611, .ifCond .eq 4, .aload 0, .getfield 2906, .ldc_w 40, .iload 1, .imul, .iload 3, .iadd, .laload, .l2i, .goto 5]
def c_1379_4 : List Instr := [.iconst (-12), .jsr 5]
def c_1379_5 : List Instr := [.ireturn]
/- 1387: DreamNetsModel.shelf(III)I -/
def c_1387_0 : List Instr := [.iload 1, .invokestatic 1217, .ifCond .eq 1, .aload 0, .iload 2, .iload 3, .invokevirtual 131394, .ifCond .ne 2, .jsr 1]
def c_1387_1 : List Instr := [.iconst (-1), .ireturn]
def c_1387_2 : List Instr := [.aload 0, .getfield 2907, .iload 1, .iload 2, .ldc_w 2, .if_icmp .eq 3, .iload 2, .ldc_w 1, .if_icmp .ne 4, .aload 0, .getfield 2904, .iload 3, .iaload, .ifCond .ge 4, .jsr 3]
def c_1387_3 : List Instr := [.iconst (-1), .goto 5]
def c_1387_4 : List Instr := [.iload 2, .jsr 5]
def c_1387_5 : List Instr := [.iastore, .aload 0, .getfield 2908, .iload 1, .iload 2, .ldc_w 1, .if_icmp .ne 6, .aload 0, .getfield 2904, .iload 3, .iaload, .goto 7]
def c_1387_6 : List Instr := [.iload 3, .jsr 7]
def c_1387_7 : List Instr := [.iastore, .aload 0, .getfield 2909, .iload 1, .iload 2, .ldc_w 1, .if_icmp .ne 8, .aload 0, .getfield 2905, .iload 3, .iaload, .goto 9]
def c_1387_8 : List Instr := [.ldc_w 0, .jsr 9]
def c_1387_9 : List Instr := [.iastore, .ldc_w 1, .ireturn]
/- 1394: DreamNetsModel.isHeld(II)Z -/
def c_1394_0 : List Instr := [.iload 1, .ifCond .ne 1, .aload 0, .iload 2, .invokevirtual 130905, .goto 4]
def c_1394_1 : List Instr := [.iload 1, .ldc_w 1, .if_icmp .ne 2, .iload 2, .invokestatic 1217, .goto 4]
def c_1394_2 : List Instr := [.iload 1, .ldc_w 2, .if_icmp .ne 3, .ldc_w 1, .goto 4]
def c_1394_3 : List Instr := [.ldc_w 0, .jsr 4]
def c_1394_4 : List Instr := [.ireturn]
/- 1402: DreamNetsModel.taken(II)I -/
def c_1402_0 : List Instr := [.iload 1, .invokestatic 1217, .ifCond .eq 1, .iload 2, .ldc_w 0, .ldc_w 5, .invokestatic 611, .ifCond .ne 2, .iload 2, .ldc_w 10, .ldc_w 13, .invokestatic 611, .ifCond .ne 2, .jsr 1]
def c_1402_1 : List Instr := [.iconst (-1), .ireturn]
def c_1402_2 : List Instr := [.aload 0, .iload 1, .invokevirtual 131409, .istore 3, .iload 3, .ifCond .ge 3, .iconst (-11), .ireturn]
def c_1402_3 : List Instr := [.iload 3, .ldc_w 9, .if_icmp .ne 6, .iload 2, .ldc_w 10, .aload 0, .getfield 2908, .iload 1, .iaload, .iadd, .if_icmp .ne 4, .aload 0, .getfield 2909, .iload 1, .iaload, .goto 5]
def c_1402_4 : List Instr := [.iconst (-13), .jsr 5]
def c_1402_5 : List Instr := [.ireturn]
def c_1402_6 : List Instr := [.iload 2, .ldc_w 10, .if_icmp .ge 7, .iload 3, .iload 2, .invokestatic 1418, .ifCond .eq 7, .aload 0, .getfield 2908, .iload 1, .iaload, .goto 8]
def c_1402_7 : List Instr := [.iconst (-13), .jsr 8]
def c_1402_8 : List Instr := [.ireturn]
/- 1409: DreamNetsModel.kindOn(I)I -/
def c_1409_0 : List Instr := [.aload 0, .getfield 2907, .iload 1, .iaload, .ifCond .eq 3, .aload 0, .getfield 2907, .iload 1, .iaload, .ifCond .ge 1, .iconst (-1), .goto 2]
def c_1409_1 : List Instr := [.ldc_w 9, .jsr 2]
def c_1409_2 : List Instr := [.ireturn]
def c_1409_3 : List Instr := [.aload 0, .aload 0, .getfield 2908, .iload 1, .iaload, .invokevirtual 130905, .ifCond .eq 4, .aload 0, .aload 0, .getfield 2908, .iload 1, .iaload, .ldc_w 0, .invokevirtual 130914, .goto 5]
def c_1409_4 : List Instr := [.iconst (-1), .jsr 5]
def c_1409_5 : List Instr := [.ireturn]
/- 1418: DreamNetsModel.isUnder(II)Z -/
def c_1418_0 : List Instr := [.iload 1, .ifCond .eq 2, .iload 1, .iload 0, .if_icmp .eq 2, .iload 1, .ldc_w 1, .if_icmp .ne 1, .iload 0, .ldc_w 3, .if_icmp .eq 2, .jsr 1]
def c_1418_1 : List Instr := [.iload 1, .ldc_w 2, .if_icmp .ne 3, .iload 0, .ldc_w 4, .if_icmp .ne 3, .jsr 2]
def c_1418_2 : List Instr := [.ldc_w 1, .goto 4]
def c_1418_3 : List Instr := [.ldc_w 0, .jsr 4]
def c_1418_4 : List Instr := [.ireturn]
/- 1427: DreamNetsModel.act(III)I -/
def c_1427_0 : List Instr := [.aload 0, .ldc_w 0, .putfield 866, .iload 1, .invokestatic 1217, .ifCond .eq 1, .aload 0, .iload 1, .invokevirtual 131409, .goto 2]
def c_1427_1 : List Instr := [.iconst (-1), .jsr 2]
def c_1427_2 : List Instr := [.istore 4, .iload 2, .ldc_w 0, .ldc_w 3, .invokestatic 611, .ifCond .eq 3, .iload 4, .ldc_w 0, .ldc_w 5, .invokestatic 611, .ifCond .ne 4, .jsr 3]
def c_1427_3 : List Instr := [.ldc_w 0, .ireturn]
def c_1427_4 : List Instr := [.aload 0, .iload 4, .putfield 862, .aload 0, .aload 0, .getfield 2908, .iload 1, .iaload, .putfield 863, .aload 0, .aload 0, .aload 0, .getfield 863, .ldc_w 1, .invokevirtual 130914, .putfield 864, .aload 0, .ldc_w 0, .putfield 3939, .iload 2, .ifCond .ne 5, .aload 0, .iload 3, .invokevirtual 131433, .goto 8]
def c_1427_5 : List Instr := [.iload 2, .ldc_w 1, .if_icmp .ne 6, .aload 0, .iload 3, .invokevirtual 131465, .goto 8]
def c_1427_6 : List Instr := [.iload 2, .ldc_w 2, .if_icmp .ne 7, .aload 0, .iload 3, .invokevirtual 131481, .goto 8]
def c_1427_7 : List Instr := [.aload 0, .iload 3, .invokevirtual 131497, .jsr 8]
def c_1427_8 : List Instr := [.istore 5, .aload 0, .getfield 3939, .ifCond .eq 9, .iconst (-15), .goto 10]
def c_1427_9 : List Instr := [.iload 5, .jsr 10]
def c_1427_10 : List Instr := [.ireturn]
/- 1433: DreamNetsModel.dragsIt(I)I -/
def c_1433_0 : List Instr := [.aload 0, .getfield 862, .tableswitch 4 2 4 #[1, 3, 2]]
def c_1433_1 : List Instr := [.aload 0, .iload 1, .invokevirtual 131441, .ireturn]
def c_1433_2 : List Instr := [.aload 0, .ldc_w 40, .invokevirtual 131449, .aload 0, .iload 1, .invokevirtual 131441, .ldc_w 2, .imul, .ireturn]
def c_1433_3 : List Instr := [.aload 0, .ldc_w 51, .invokevirtual 131449, .aload 0, .iload 1, .invokevirtual 131457, .aload 0, .getfield 863, .iadd, .ireturn]
def c_1433_4 : List Instr := [.aload 0, .iload 1, .invokevirtual 131457, .ireturn]
/- 1441: DreamNetsModel.drifterDrags(I)I -/
def c_1441_0 : List Instr := [.aload 0, .ldc_w 30, .invokevirtual 131449, .aload 0, .iload 1, .invokevirtual 131457, .aload 0, .getfield 864, .ixor, .ireturn]
/- 1449: DreamNetsModel.ran(I)V -/
def c_1449_0 : List Instr := [.aload 0, .getfield 866, .ldc_w 30, .if_icmp .ge 1, .aload 0, .getfield 2913, .aload 0, .getfield 866, .iload 1, .iastore, .aload 0, .dup, .getfield 866, .ldc_w 1, .iadd, .putfield 866, .jsr 1]
def c_1449_1 : List Instr := [.return_]
/- 1457: DreamNetsModel.plainDrags(I)I -/
def c_1457_0 : List Instr := [.aload 0, .ldc_w 10, .invokevirtual 131449, .iload 1, .aload 0, .getfield 863, .isub, .ireturn]
/- 1465: DreamNetsModel.landsIt(I)I -/
def c_1465_0 : List Instr := [.aload 0, .getfield 862, .ldc_w 1, .if_icmp .eq 1, .aload 0, .getfield 862, .ldc_w 3, .if_icmp .ne 2, .jsr 1]
def c_1465_1 : List Instr := [.aload 0, .ldc_w 20, .invokevirtual 131449, .aload 0, .iload 1, .invokevirtual 131473, .aload 0, .getfield 863, .isub, .ireturn]
def c_1465_2 : List Instr := [.aload 0, .getfield 862, .ldc_w 4, .if_icmp .ne 3, .aload 0, .ldc_w 41, .invokevirtual 131449, .aload 0, .iload 1, .invokevirtual 131473, .istore 2, .iload 2, .aload 0, .aload 0, .getfield 863, .invokevirtual 131433, .isub, .ireturn]
def c_1465_3 : List Instr := [.aload 0, .iload 1, .invokevirtual 131473, .ireturn]
/- 1473: DreamNetsModel.plainLands(I)I -/
def c_1473_0 : List Instr := [.aload 0, .ldc_w 11, .invokevirtual 131449, .aload 0, .iload 1, .invokevirtual 131433, .ldc_w 3, .imul, .ireturn]
/- 1481: DreamNetsModel.mendsIt(I)I -/
def c_1481_0 : List Instr := [.aload 0, .getfield 862, .ldc_w 3, .if_icmp .ne 1, .aload 0, .ldc_w 50, .invokevirtual 131449, .aload 0, .iload 1, .ldc_w 5, .iadd, .invokevirtual 131489, .ldc_w 2, .imul, .ireturn]
def c_1481_1 : List Instr := [.aload 0, .getfield 862, .ldc_w 5, .if_icmp .ne 4, .aload 0, .ldc_w 61, .invokevirtual 131449, .aload 0, .iload 1, .invokevirtual 131489, .istore 2, .aload 0, .getfield 3939, .ifCond .eq 2, .ldc_w 0, .goto 3]
def c_1481_2 : List Instr := [.iload 2, .aload 0, .aload 0, .getfield 864, .invokevirtual 131433, .ixor, .jsr 3]
def c_1481_3 : List Instr := [.ireturn]
def c_1481_4 : List Instr := [.aload 0, .iload 1, .invokevirtual 131489, .ireturn]
/- 1489: DreamNetsModel.plainMends(I)I -/
def c_1489_0 : List Instr := [.aload 0, .ldc_w 12, .invokevirtual 131449, .aload 0, .getfield 863, .aload 0, .getfield 864, .if_icmp .ne 1, .aload 0, .ldc_w 1, .putfield 3939, .ldc_w 0, .ireturn]
def c_1489_1 : List Instr := [.iload 1, .aload 0, .getfield 863, .aload 0, .getfield 864, .isub, .idiv, .ireturn]
/- 1497: DreamNetsModel.humsIt(I)I -/
def c_1497_0 : List Instr := [.aload 0, .getfield 862, .ldc_w 2, .if_icmp .eq 1, .aload 0, .getfield 862, .ldc_w 4, .if_icmp .ne 2, .jsr 1]
def c_1497_1 : List Instr := [.aload 0, .ldc_w 31, .invokevirtual 131449, .aload 0, .iload 1, .invokevirtual 131505, .istore 2, .iload 2, .aload 0, .aload 0, .getfield 864, .invokevirtual 131481, .iadd, .ireturn]
def c_1497_2 : List Instr := [.aload 0, .getfield 862, .ldc_w 5, .if_icmp .ne 3, .aload 0, .ldc_w 60, .invokevirtual 131449, .ldc_w 7, .aload 0, .iload 1, .invokevirtual 131505, .isub, .ireturn]
def c_1497_3 : List Instr := [.aload 0, .iload 1, .invokevirtual 131505, .ireturn]
/- 1505: DreamNetsModel.plainHums(I)I -/
def c_1505_0 : List Instr := [.aload 0, .ldc_w 13, .invokevirtual 131449, .aload 0, .iload 1, .invokevirtual 131465, .aload 0, .getfield 864, .iadd, .ireturn]
/- 1513: DreamNetsModel.trace(I)I -/
def c_1513_0 : List Instr := [.iload 1, .ldc_w 0, .aload 0, .getfield 866, .ldc_w 1, .isub, .invokestatic 611, .ifCond .eq 1, .aload 0, .getfield 2913, .iload 1, .iaload, .goto 2]
def c_1513_1 : List Instr := [.iconst (-3), .jsr 2]
def c_1513_2 : List Instr := [.ireturn]
/- 1521: DreamNetsModel.many(I)I -/
def c_1521_0 : List Instr := [.iload 1, .tableswitch 8 0 6 #[1, 2, 3, 4, 5, 6, 7]]
def c_1521_1 : List Instr := [.aload 0, .getfield 2880, .ldc_w 5, .iaload, .ireturn]
def c_1521_2 : List Instr := [.aload 0, .invokevirtual 131528, .ireturn]
def c_1521_3 : List Instr := [.aload 0, .invokevirtual 131536, .ireturn]
def c_1521_4 : List Instr := [.aload 0, .invokevirtual 131544, .ireturn]
def c_1521_5 : List Instr := [.aload 0, .getfield 855, .ireturn]
def c_1521_6 : List Instr := [.aload 0, .getfield 839, .ireturn]
def c_1521_7 : List Instr := [.aload 0, .getfield 866, .ireturn]
def c_1521_8 : List Instr := [.iconst (-1), .ireturn]
/- 1528: DreamNetsModel.tornMany()I -/
def c_1528_0 : List Instr := [.ldc_w 0, .istore 1, .ldc_w 0, .istore 2, .jsr 1]
def c_1528_1 : List Instr := [.iload 2, .aload 0, .getfield 2880, .ldc_w 5, .iaload, .if_icmp .ge 4, .iload 1, .aload 0, .iload 2, .ldc_w 4, .invokevirtual 130914, .ldc_w 9, .if_icmp .ne 2, .ldc_w 1, .goto 3]
def c_1528_2 : List Instr := [.ldc_w 0, .jsr 3]
def c_1528_3 : List Instr := [.iadd, .istore 1, .iinc 2 1, .goto 1]
def c_1528_4 : List Instr := [.iload 1, .ireturn]
/- 1536: DreamNetsModel.sleepersMany()I -/
def c_1536_0 : List Instr := [.ldc_w 0, .istore 1, .ldc_w 0, .istore 2, .jsr 1]
def c_1536_1 : List Instr := [.iload 2, .ldc_w 8, .if_icmp .ge 2, .iload 1, .aload 0, .iload 2, .ldc_w 5, .invokevirtual 130834, .iadd, .istore 1, .iinc 2 1, .goto 1]
def c_1536_2 : List Instr := [.iload 1, .ireturn]
/- 1544: DreamNetsModel.fullMany()I -/
def c_1544_0 : List Instr := [.ldc_w 0, .istore 1, .ldc_w 0, .istore 2, .jsr 1]
def c_1544_1 : List Instr := [.iload 2, .ldc_w 4, .if_icmp .ge 4, .iload 1, .aload 0, .getfield 2880, .ldc_w 68, .ldc_w 2, .iload 2, .imul, .iadd, .ldc_w 1, .iadd, .iaload, .aload 0, .getfield 2880, .ldc_w 68, .ldc_w 2, .iload 2, .imul, .iadd, .iaload, .if_icmp .lt 2, .ldc_w 1, .goto 3]
def c_1544_2 : List Instr := [.ldc_w 0, .jsr 3]
def c_1544_3 : List Instr := [.iadd, .istore 1, .iinc 2 1, .goto 1]
def c_1544_4 : List Instr := [.iload 1, .ireturn]
/- 1552: DreamNetsModel.keep()I -/
def c_1552_0 : List Instr := [.aload 0, .getfield 2880, .aload 0, .getfield 2882, .invokestatic 762, .aload 0, .ldc_w 1, .putfield 3909, .ldc_w 1, .ireturn]
/- 1560: DreamNetsModel.again()I -/
def c_1560_0 : List Instr := [.aload 0, .getfield 3909, .ifCond .ne 1, .iconst (-3), .ireturn]
def c_1560_1 : List Instr := [.aload 0, .getfield 2882, .aload 0, .getfield 2880, .invokestatic 762, .aload 0, .getfield 2880, .ldc_w 5, .iaload, .ireturn]
/- 1569: DreamNets$World.<init>([LDreamNets$Boat;)V -/
def c_1569_0 : List Instr := [.aload 0, .invokedynamic 5, .aload 0, .ldc_w 3, .newarray .int, .putfield 2753, .aload 0, .ldc_w 5, .newarray .int, .putfield 2754, .aload 0, .ldc_w 40, .newarray .int, .putfield 2755, .aload 0, .ldc_w 8, .newarray .int, .putfield 2756, .aload 0, .ldc_w 8, .newarray .int, .putfield 2757, .aload 0, .ldc_w 4, .newarray .int, .putfield 2758, .aload 0, .ldc_w 4, .newarray .int, .putfield 2759, .aload 0, .ldc_w 6, .newarray .int, .putfield 2760, .aload 0, .ldc_w 6, .newarray .int, .putfield 2761, .aload 0, .ldc_w 6, .newarray .int, .putfield 2762, .aload 0, .ldc_w 6, .newarray .int, .putfield 2763, .aload 0, .ldc_w 6, .newarray .int, .putfield 2764, .aload 0, .ldc_w 30, .newarray .int, .putfield 2765, .aload 0, .ldc_w 1, .putfield 721, .aload 0, .aload 1, .putfield 2752, .aload 0, .invokevirtual 111576, .return_]
/- 1576: DreamNets$World.startAnew()V -/
def c_1576_0 : List Instr := [.getstatic 1, .ldc_w 0, .aload 0, .getfield 2753, .ldc_w 0, .aload 0, .getfield 2753, .arraylength, .invokedynamic 0, .getstatic 2, .ldc_w 0, .aload 0, .getfield 2754, .ldc_w 0, .ldc_w 5, .invokedynamic 0, .ldc_w 0, .istore 1, .jsr 1]
def c_1576_1 : List Instr := [.iload 1, .aload 0, .getfield 2755, .arraylength, .if_icmp .ge 2, .aload 0, .getfield 2755, .iload 1, .ldc_w 0, .iastore, .iinc 1 1, .goto 1]
def c_1576_2 : List Instr := [.ldc_w 0, .istore 1, .jsr 3]
def c_1576_3 : List Instr := [.iload 1, .ldc_w 8, .if_icmp .ge 4, .aload 0, .getfield 2756, .iload 1, .ldc_w 3, .iastore, .aload 0, .getfield 2757, .iload 1, .ldc_w 0, .iastore, .iinc 1 1, .goto 3]
def c_1576_4 : List Instr := [.ldc_w 0, .istore 1, .jsr 5]
def c_1576_5 : List Instr := [.iload 1, .ldc_w 4, .if_icmp .ge 6, .aload 0, .getfield 2758, .iload 1, .ldc_w 999, .iastore, .aload 0, .getfield 2759, .iload 1, .ldc_w 0, .iastore, .iinc 1 1, .goto 5]
def c_1576_6 : List Instr := [.aload 0, .ldc_w 0, .putfield 718, .aload 0, .ldc_w 0, .putfield 719, .aload 0, .ldc_w 0, .putfield 720, .return_]
/- 1588: DreamNets$World.addBoat(IIII)I -/
def c_1588_0 : List Instr := [.aload 0, .getfield 718, .istore 5, .aload 0, .getfield 2760, .iload 5, .iload 1, .iastore, .aload 0, .getfield 2761, .iload 5, .iload 2, .iastore, .aload 0, .getfield 2762, .iload 5, .iload 3, .iastore, .aload 0, .getfield 2763, .iload 5, .iload 4, .iastore, .aload 0, .getfield 2764, .iload 5, .ldc_w 0, .iastore, .ldc_w 0, .istore 6, .jsr 1]
def c_1588_1 : List Instr := [.iload 6, .ldc_w 5, .if_icmp .ge 2, .aload 0, .getfield 2765, .iload 5, .ldc_w 5, .imul, .iload 6, .iadd, .ldc_w 0, .iastore, .iinc 6 1, .goto 1]
def c_1588_2 : List Instr := [.aload 0, .dup, .getfield 718, .ldc_w 1, .iadd, .putfield 718, .iload 5, .ireturn]
/- 1593: DreamNets$World.copyFrom(LDreamNets$World;)V -/
def c_1593_0 : List Instr := [.aload 1, .getfield 2753, .ldc_w 0, .aload 0, .getfield 2753, .ldc_w 0, .aload 0, .getfield 2753, .arraylength, .invokedynamic 0, .aload 1, .getfield 2754, .ldc_w 0, .aload 0, .getfield 2754, .ldc_w 0, .ldc_w 5, .invokedynamic 0, .aload 1, .getfield 2755, .ldc_w 0, .aload 0, .getfield 2755, .ldc_w 0, .aload 0, .getfield 2755, .arraylength, .invokedynamic 0, .aload 1, .getfield 2756, .ldc_w 0, .aload 0, .getfield 2756, .ldc_w 0, .ldc_w 8, .invokedynamic 0, .aload 1, .getfield 2757, .ldc_w 0, .aload 0, .getfield 2757, .ldc_w 0, .ldc_w 8, .invokedynamic 0, .aload 1, .getfield 2758, .ldc_w 0, .aload 0, .getfield 2758, .ldc_w 0, .ldc_w 4, .invokedynamic 0, .aload 1, .getfield 2759, .ldc_w 0, .aload 0, .getfield 2759, .ldc_w 0, .ldc_w 4, .invokedynamic 0, .aload 1, .getfield 2760, .ldc_w 0, .aload 0, .getfield 2760, .ldc_w 0, .ldc_w 6, .invokedynamic 0, .aload 1, .getfield 2761, .ldc_w 0, .aload 0, .getfield 2761, .ldc_w 0, .ldc_w 6, .invokedynamic 0, .aload 1, .getfield 2762, .ldc_w 0, .aload 0, .getfield 2762, .ldc_w 0, .ldc_w 6, .invokedynamic 0, .aload 1, .getfield 2763, .ldc_w 0, .aload 0, .getfield 2763, .ldc_w 0, .ldc_w 6, .invokedynamic 0, .aload 1, .getfield 2764, .ldc_w 0, .aload 0, .getfield 2764, .ldc_w 0, .ldc_w 6, .invokedynamic 0, .aload 1, .getfield 2765, .ldc_w 0, .aload 0, .getfield 2765, .ldc_w 0, .aload 0, .getfield 2765, .arraylength, .invokedynamic 0, .aload 0, .aload 1, .getfield 718, .putfield 718, .aload 0, .aload 1, .getfield 719, .putfield 719, .aload 0, .aload 1, .getfield 720, .putfield 720, .aload 0, .aload 1, .getfield 721, .putfield 721, .return_]
/- 1601: DreamNets$World.sleepersIn(I)I -/
def c_1601_0 : List Instr := [.aload 0, .getfield 2756, .ldc_w 2, .iload 1, .imul, .iaload, .aload 0, .getfield 2756, .ldc_w 2, .iload 1, .imul, .ldc_w 1, .iadd, .iaload, .iadd, .ireturn]
/- 1609: DreamNets$World.stockIn(I)I -/
def c_1609_0 : List Instr := [.ldc_w 0, .istore 2, .ldc_w 0, .istore 3, .jsr 1]
def c_1609_1 : List Instr := [.iload 3, .ldc_w 5, .if_icmp .ge 2, .iload 2, .aload 0, .getfield 2755, .iload 1, .ldc_w 5, .imul, .iload 3, .iadd, .iaload, .iadd, .istore 2, .iinc 3 1, .goto 1]
def c_1609_2 : List Instr := [.iload 2, .ireturn]
/- 1617: DreamNets$World.worthHeld(I)I -/
def c_1617_0 : List Instr := [.ldc_w 0, .istore 2, .ldc_w 0, .istore 3, .jsr 1]
def c_1617_1 : List Instr := [.iload 3, .ldc_w 5, .if_icmp .ge 2, .iload 2, .aload 0, .getfield 2765, .iload 1, .ldc_w 5, .imul, .iload 3, .iadd, .iaload, .aload 0, .getfield 2754, .iload 3, .iaload, .imul, .iadd, .istore 2, .iinc 3 1, .goto 1]
def c_1617_2 : List Instr := [.iload 2, .ireturn]
/- 1626: DreamNets$World.takeOf(II)I -/
def c_1626_0 : List Instr := [.aload 0, .getfield 2755, .aload 0, .getfield 2762, .iload 1, .iaload, .ldc_w 5, .imul, .iload 2, .iadd, .iaload, .istore 3, .iload 3, .aload 0, .iload 1, .invokevirtual 111633, .iload 3, .iload 2, .aload 0, .getfield 2761, .iload 1, .iaload, .invokevirtual 43, .invokedynamic 4, .ireturn]
/- 1633: DreamNets$World.kindOf(I)LDreamNets$Boat; -/
def c_1633_0 : List Instr := [.aload 0, .getfield 2752, .aload 0, .getfield 2760, .iload 1, .iaload, .aaload, .areturn]
/- 1641: DreamNets$World.tearOf(I)I -/
def c_1641_0 : List Instr := [.aload 0, .iload 1, .invokevirtual 111633, .aload 0, .getfield 2761, .iload 1, .iaload, .aload 0, .getfield 2763, .iload 1, .iaload, .invokevirtual 50, .ireturn]
/- 1649: DreamNets$World.mayHaul(I)Z -/
def c_1649_0 : List Instr := [.aload 0, .getfield 2762, .iload 1, .iaload, .ldc_w 2, .idiv, .istore 2, .aload 0, .getfield 2764, .iload 1, .iaload, .ldc_w 9, .if_icmp .ge 1, .aload 0, .getfield 2759, .iload 2, .iaload, .aload 0, .getfield 2758, .iload 2, .iaload, .if_icmp .ge 1, .ldc_w 1, .goto 2]
def c_1649_1 : List Instr := [.ldc_w 0, .jsr 2]
def c_1649_2 : List Instr := [.ireturn]
/- 1657: DreamNets$World.drag(I)I -/
def c_1657_0 : List Instr := [.aload 0, .iload 1, .invokevirtual 111649, .ifCond .ne 1, .ldc_w 0, .ireturn]
def c_1657_1 : List Instr := [.ldc_w 0, .istore 2, .ldc_w 0, .istore 3, .jsr 2]
def c_1657_2 : List Instr := [.iload 3, .ldc_w 5, .if_icmp .ge 4, .getstatic 5, .iload 3, .iaload, .aload 0, .getfield 2763, .iload 1, .iaload, .if_icmp .lt 3, .aload 0, .iload 1, .iload 3, .invokevirtual 111626, .istore 4, .aload 0, .getfield 2755, .aload 0, .getfield 2762, .iload 1, .iaload, .ldc_w 5, .imul, .iload 3, .iadd, .dup2, .iaload, .iload 4, .isub, .iastore, .aload 0, .getfield 2765, .iload 1, .ldc_w 5, .imul, .iload 3, .iadd, .dup2, .iaload, .iload 4, .iadd, .iastore, .iload 2, .iload 4, .iadd, .istore 2, .iload 3, .ldc_w 4, .if_icmp .ne 3, .iload 4, .ifCond .le 3, .aload 0, .getfield 2764, .iload 1, .ldc_w 9, .aload 0, .getfield 2764, .iload 1, .iaload, .aload 0, .iload 1, .invokevirtual 111641, .iadd, .invokedynamic 4, .iastore, .jsr 3]
def c_1657_3 : List Instr := [.iinc 3 1, .goto 2]
def c_1657_4 : List Instr := [.aload 0, .getfield 2757, .aload 0, .getfield 2762, .iload 1, .iaload, .dup2, .iaload, .iload 2, .iadd, .iastore, .aload 0, .getfield 2759, .aload 0, .getfield 2762, .iload 1, .iaload, .ldc_w 2, .idiv, .dup2, .iaload, .iload 2, .iadd, .iastore, .iload 2, .ireturn]
/- 1664: DreamNets$World.ring()V -/
def c_1664_0 : List Instr := [.ldc_w 1, .aload 0, .getfield 2753, .ldc_w 1, .iaload, .invokedynamic 3, .istore 1, .aload 0, .getfield 719, .ldc_w 5, .irem, .istore 2, .ldc_w 0, .istore 3, .jsr 1]
def c_1664_1 : List Instr := [.iload 3, .ldc_w 8, .if_icmp .ge 6, .ldc_w 0, .istore 4, .jsr 2]
def c_1664_2 : List Instr := [.iload 4, .ldc_w 5, .if_icmp .ge 5, .iload 3, .ldc_w 5, .imul, .iload 4, .iadd, .istore 5, .aload 0, .getfield 2755, .iload 5, .iaload, .iload 1, .idiv, .iload 4, .iload 2, .if_icmp .ne 3, .aload 0, .getfield 2756, .iload 3, .iaload, .goto 4]
def c_1664_3 : List Instr := [.ldc_w 0, .jsr 4]
def c_1664_4 : List Instr := [.iadd, .istore 6, .aload 0, .getfield 2755, .iload 5, .ldc_w 99, .aload 0, .getfield 2755, .iload 5, .iaload, .iload 6, .iadd, .invokedynamic 4, .iastore, .iinc 4 1, .goto 2]
def c_1664_5 : List Instr := [.iinc 3 1, .goto 1]
def c_1664_6 : List Instr := [.aload 0, .invokevirtual 111672, .aload 0, .dup, .getfield 719, .ldc_w 1, .iadd, .putfield 719, .return_]
/- 1672: DreamNets$World.driftOn()V -/
def c_1672_0 : List Instr := [.ldc_w 1, .aload 0, .getfield 2753, .ldc_w 2, .iaload, .invokedynamic 3, .istore 1, .aload 0, .getfield 2755, .ldc_w 35, .iaload, .iload 1, .idiv, .istore 2, .ldc_w 0, .istore 3, .jsr 1]
def c_1672_1 : List Instr := [.iload 3, .ldc_w 8, .if_icmp .ge 2, .iload 3, .ldc_w 5, .imul, .ldc_w 0, .iadd, .istore 4, .aload 0, .getfield 2755, .iload 4, .iaload, .iload 1, .idiv, .istore 5, .aload 0, .getfield 2755, .iload 4, .ldc_w 99, .aload 0, .getfield 2755, .iload 4, .iaload, .iload 5, .isub, .iload 2, .iadd, .invokedynamic 4, .iastore, .iload 5, .istore 2, .iinc 3 1, .goto 1]
def c_1672_2 : List Instr := [.return_]
/- 1681: DreamNets$World.castNet(I)I -/
def c_1681_0 : List Instr := [.aload 0, .invokevirtual 111688, .ldc_w 100, .irem, .aload 0, .getfield 2753, .ldc_w 0, .iaload, .if_icmp .ge 1, .ldc_w 0, .goto 2]
def c_1681_1 : List Instr := [.aload 0, .iload 1, .invokevirtual 111657, .jsr 2]
def c_1681_2 : List Instr := [.ireturn]
/- 1688: DreamNets$World.draw()I -/
def c_1688_0 : List Instr := [.aload 0, .aload 0, .getfield 721, .ldc_w 1103515245, .imul, .ldc_w 12345, .iadd, .putfield 721, .aload 0, .getfield 721, .ldc_w 16, .iushr, .ireturn]
/- 1696: DreamNets$World.nightByDraws()I -/
def c_1696_0 : List Instr := [.ldc_w 0, .istore 1, .ldc_w 0, .istore 2, .jsr 1]
def c_1696_1 : List Instr := [.iload 2, .aload 0, .getfield 718, .if_icmp .ge 2, .aload 0, .getfield 2762, .iload 2, .aload 0, .invokevirtual 111688, .ldc_w 8, .irem, .iastore, .iload 1, .aload 0, .iload 2, .invokevirtual 111681, .iadd, .istore 1, .iinc 2 1, .goto 1]
def c_1696_2 : List Instr := [.aload 0, .invokevirtual 111664, .iload 1, .ireturn]
/- 1704: DreamNets$World.emptyStreets()I -/
def c_1704_0 : List Instr := [.ldc_w 0, .istore 1, .ldc_w 0, .istore 2, .jsr 1]
def c_1704_1 : List Instr := [.iload 2, .ldc_w 8, .if_icmp .ge 3, .aload 0, .iload 2, .invokevirtual 111609, .ifCond .ne 2, .iload 1, .ldc_w 1, .iload 2, .ishl, .ior, .istore 1, .jsr 2]
def c_1704_2 : List Instr := [.iinc 2 1, .goto 1]
def c_1704_3 : List Instr := [.iload 1, .ireturn]
/- 1713: DreamNets$World.worthOfDrag(I)I -/
def c_1713_0 : List Instr := [.aload 0, .iload 1, .invokevirtual 111617, .istore 2, .aload 0, .iload 1, .invokevirtual 111657, .pop, .aload 0, .iload 1, .invokevirtual 111617, .iload 2, .isub, .ireturn]
/- 1722: DreamNets$World.heldBySet(II)I -/
def c_1722_0 : List Instr := [.ldc_w 0, .istore 3, .ldc_w 0, .istore 4, .jsr 1]
def c_1722_1 : List Instr := [.iload 4, .aload 0, .getfield 718, .if_icmp .ge 3, .iload 1, .iload 4, .ishr, .ldc_w 1, .iand, .ldc_w 1, .if_icmp .ne 2, .iload 3, .aload 0, .getfield 2765, .iload 4, .ldc_w 5, .imul, .iload 2, .iadd, .iaload, .iadd, .istore 3, .jsr 2]
def c_1722_2 : List Instr := [.iinc 4 1, .goto 1]
def c_1722_3 : List Instr := [.iload 3, .ireturn]
/- 1730: DreamNets$World.rowPart(II)I -/
def c_1730_0 : List Instr := [.iload 2, .ifCond .ne 1, .aload 0, .iload 1, .invokevirtual 111609, .ireturn]
def c_1730_1 : List Instr := [.iload 2, .ldc_w 1, .if_icmp .ne 2, .aload 0, .getfield 2755, .iload 1, .ldc_w 5, .imul, .ldc_w 0, .iadd, .iaload, .goto 3]
def c_1730_2 : List Instr := [.aload 0, .iload 1, .invokevirtual 111737, .jsr 3]
def c_1730_3 : List Instr := [.ireturn]
/- 1737: DreamNets$World.mostIn(I)I -/
def c_1737_0 : List Instr := [.ldc_w 0, .istore 2, .ldc_w 1, .istore 3, .jsr 1]
def c_1737_1 : List Instr := [.iload 3, .ldc_w 5, .if_icmp .ge 3, .aload 0, .getfield 2755, .iload 1, .ldc_w 5, .imul, .iload 3, .iadd, .iaload, .aload 0, .getfield 2755, .iload 1, .ldc_w 5, .imul, .iload 2, .iadd, .iaload, .if_icmp .le 2, .iload 3, .istore 2, .jsr 2]
def c_1737_2 : List Instr := [.iinc 3 1, .goto 1]
def c_1737_3 : List Instr := [.iload 2, .ireturn]
/- 1744: DreamNets$World.tornBoats()I -/
def c_1744_0 : List Instr := [.ldc_w 0, .istore 1, .ldc_w 0, .istore 2, .jsr 1]
def c_1744_1 : List Instr := [.iload 2, .aload 0, .getfield 718, .if_icmp .ge 3, .aload 0, .getfield 2764, .iload 2, .iaload, .ldc_w 9, .if_icmp .ne 2, .iinc 1 1, .jsr 2]
def c_1744_2 : List Instr := [.iinc 2 1, .goto 1]
def c_1744_3 : List Instr := [.iload 1, .ireturn]
/- 1752: DreamNets$World.fullWards()I -/
def c_1752_0 : List Instr := [.ldc_w 0, .istore 1, .ldc_w 0, .istore 2, .jsr 1]
def c_1752_1 : List Instr := [.iload 2, .ldc_w 4, .if_icmp .ge 3, .aload 0, .getfield 2759, .iload 2, .iaload, .aload 0, .getfield 2758, .iload 2, .iaload, .if_icmp .lt 2, .iinc 1 1, .jsr 2]
def c_1752_2 : List Instr := [.iinc 2 1, .goto 1]
def c_1752_3 : List Instr := [.iload 1, .ireturn]
/- 1760: DreamNets$Tape.<init>()V -/
def c_1760_0 : List Instr := [.aload 0, .invokedynamic 5, .aload 0, .ldc_w 200, .newarray .int, .putfield 2624, .return_]
/- 1769: DreamNets$Tape.add(I)V -/
def c_1769_0 : List Instr := [.aload 0, .getfield 577, .ldc_w 200, .if_icmp .ge 1, .aload 0, .getfield 2624, .aload 0, .getfield 577, .iload 1, .iastore, .aload 0, .dup, .getfield 577, .ldc_w 1, .iadd, .putfield 577, .jsr 1]
def c_1769_1 : List Instr := [.return_]
/- 1777: DreamNets$Tape.tells(LDreamNets$World;)Z -/
def c_1777_0 : List Instr := [.aload 0, .ldc_w 0, .putfield 579, .ldc_w 0, .istore 2, .jsr 1]
def c_1777_1 : List Instr := [.iload 2, .ldc_w 200, .if_icmp .gt 5, .aload 0, .invokevirtual 91784, .aload 0, .getfield 580, .ifCond .ne 2, .ldc_w 1, .ireturn]
def c_1777_2 : List Instr := [.aload 0, .getfield 580, .ldc_w 1, .if_icmp .ne 3, .aload 0, .aload 1, .invokevirtual 91817, .ifCond .ne 4, .jsr 3]
def c_1777_3 : List Instr := [.ldc_w 0, .ireturn]
def c_1777_4 : List Instr := [.iinc 2 1, .goto 1]
def c_1777_5 : List Instr := [.ldc_w 0, .ireturn]
/- 1784: DreamNets$Tape.step()V -/
def c_1784_0 : List Instr := [.aload 0, .getfield 579, .aload 0, .getfield 577, .if_icmp .ge 1, .aload 0, .getfield 2624, .aload 0, .getfield 579, .iaload, .ldc_w 32, .if_icmp .ne 1, .aload 0, .dup, .getfield 579, .ldc_w 1, .iadd, .putfield 579, .goto 0]
def c_1784_1 : List Instr := [.aload 0, .aload 0, .getfield 579, .putfield 578, .aload 0, .getfield 579, .aload 0, .getfield 577, .if_icmp .lt 2, .aload 0, .ldc_w 0, .putfield 580, .goto 6]
def c_1784_2 : List Instr := [.aload 0, .getfield 2624, .aload 0, .getfield 579, .iaload, .invokestatic 1793, .ifCond .eq 4, .aload 0, .ldc_w 1, .putfield 580, .jsr 3]
def c_1784_3 : List Instr := [.aload 0, .getfield 579, .aload 0, .getfield 577, .if_icmp .ge 6, .aload 0, .getfield 2624, .aload 0, .getfield 579, .iaload, .invokestatic 1793, .ifCond .eq 6, .aload 0, .dup, .getfield 579, .ldc_w 1, .iadd, .putfield 579, .goto 3]
def c_1784_4 : List Instr := [.aload 0, .getfield 2624, .aload 0, .getfield 579, .iaload, .invokestatic 1801, .ifCond .eq 5, .aload 0, .ldc_w 2, .putfield 580, .aload 0, .invokevirtual 91808, .goto 6]
def c_1784_5 : List Instr := [.aload 0, .ldc_w 3, .putfield 580, .aload 0, .dup, .getfield 579, .ldc_w 1, .iadd, .putfield 579, .jsr 6]
def c_1784_6 : List Instr := [.return_]
/- 1793: DreamNets$Tape.isLetter(I)Z -/
def c_1793_0 : List Instr := [.iload 0, .ldc_w 97, .if_icmp .lt 1, .iload 0, .ldc_w 122, .if_icmp .gt 1, .ldc_w 1, .goto 2]
def c_1793_1 : List Instr := [.ldc_w 0, .jsr 2]
def c_1793_2 : List Instr := [.ireturn]
/- 1801: DreamNets$Tape.isDigit(I)Z -/
def c_1801_0 : List Instr := [.iload 0, .ldc_w 48, .if_icmp .lt 1, .iload 0, .ldc_w 57, .if_icmp .gt 1, .ldc_w 1, .goto 2]
def c_1801_1 : List Instr := [.ldc_w 0, .jsr 2]
def c_1801_2 : List Instr := [.ireturn]
/- 1808: DreamNets$Tape.stepOverDigits()V -/
def c_1808_0 : List Instr := [.aload 0, .ldc_w 0, .putfield 581, .jsr 1]
def c_1808_1 : List Instr := [.aload 0, .getfield 579, .aload 0, .getfield 577, .if_icmp .ge 4, .aload 0, .getfield 2624, .aload 0, .getfield 579, .iaload, .invokestatic 1801, .ifCond .eq 4, .aload 0, .aload 0, .getfield 579, .aload 0, .getfield 578, .isub, .ldc_w 3, .if_icmp .ge 2, .aload 0, .getfield 581, .ldc_w 10, .imul, .aload 0, .getfield 2624, .aload 0, .getfield 579, .iaload, .iadd, .ldc_w 48, .isub, .goto 3]
def c_1808_2 : List Instr := [.iconst (-1), .jsr 3]
def c_1808_3 : List Instr := [.putfield 581, .aload 0, .dup, .getfield 579, .ldc_w 1, .iadd, .putfield 579, .goto 1]
def c_1808_4 : List Instr := [.return_]
/- 1817: DreamNets$Tape.tellsPart(LDreamNets$World;)Z -/
def c_1817_0 : List Instr := [.ldc_w 0, .istore 2, .jsr 1]
def c_1817_1 : List Instr := [.iload 2, .ldc_w 6, .if_icmp .ge 5, .aload 0, .iload 2, .invokestatic 1825, .invokevirtual 91833, .ifCond .eq 4, .aload 1, .getfield 718, .ldc_w 6, .if_icmp .ge 2, .aload 0, .aload 1, .iload 2, .invokevirtual 91842, .ifCond .eq 2, .ldc_w 1, .goto 3]
def c_1817_2 : List Instr := [.ldc_w 0, .jsr 3]
def c_1817_3 : List Instr := [.ireturn]
def c_1817_4 : List Instr := [.iinc 2 1, .goto 1]
def c_1817_5 : List Instr := [.aload 0, .ldc 18, .invokevirtual 91833, .ifCond .eq 6, .aload 0, .aload 1, .invokevirtual 91873, .ireturn]
def c_1817_6 : List Instr := [.aload 0, .ldc 25, .invokevirtual 91833, .ifCond .eq 7, .aload 0, .aload 1, .invokevirtual 91905, .ireturn]
def c_1817_7 : List Instr := [.aload 0, .ldc 26, .invokevirtual 91833, .ifCond .eq 8, .aload 0, .aload 1, .invokevirtual 91913, .ireturn]
def c_1817_8 : List Instr := [.aload 0, .ldc 27, .invokevirtual 91833, .ifCond .eq 9, .aload 0, .aload 1, .getfield 2753, .ldc_w 0, .ldc_w 0, .getstatic 4, .ldc_w 0, .iaload, .invokevirtual 91884, .ifCond .eq 9, .ldc_w 1, .goto 10]
def c_1817_9 : List Instr := [.ldc_w 0, .jsr 10]
def c_1817_10 : List Instr := [.ireturn]
/- 1825: DreamNets$Tape.kindName(I)Ljava/lang/String; -/
def c_1825_0 : List Instr := [.iload 0, .tableswitch 6 0 4 #[1, 2, 3, 4, 5]]
def c_1825_1 : List Instr := [.ldc 10, .areturn]
def c_1825_2 : List Instr := [.ldc 11, .areturn]
def c_1825_3 : List Instr := [.ldc 12, .areturn]
def c_1825_4 : List Instr := [.ldc 13, .areturn]
def c_1825_5 : List Instr := [.ldc 14, .areturn]
def c_1825_6 : List Instr := [.ldc 15, .areturn]
/- 1833: DreamNets$Tape.isWord(Ljava/lang/String;)Z -/
def c_1833_0 : List Instr := [.aload 0, .getfield 580, .ldc_w 1, .if_icmp .ne 1, .aload 0, .getfield 579, .aload 0, .getfield 578, .isub, .aload 1, .invokedynamic 1, .if_icmp .eq 2, .jsr 1]
def c_1833_1 : List Instr := [.ldc_w 0, .ireturn]
def c_1833_2 : List Instr := [.ldc_w 0, .istore 2, .jsr 3]
def c_1833_3 : List Instr := [.iload 2, .aload 1, .invokedynamic 1, .if_icmp .ge 5, .aload 0, .getfield 2624, .aload 0, .getfield 578, .iload 2, .iadd, .iaload, .aload 1, .iload 2, .invokedynamic 2, .if_icmp .eq 4, .ldc_w 0, .ireturn]
def c_1833_4 : List Instr := [.iinc 2 1, .goto 3]
def c_1833_5 : List Instr := [.ldc_w 1, .ireturn]
/- 1842: DreamNets$Tape.tellsBoat(LDreamNets$World;I)Z -/
def c_1842_0 : List Instr := [.aload 0, .ldc_w 0, .ldc_w 9, .invokevirtual 91850, .ifCond .ne 1, .ldc_w 0, .ireturn]
def c_1842_1 : List Instr := [.aload 0, .getfield 581, .istore 3, .aload 0, .ldc 16, .invokevirtual 91857, .ifCond .eq 2, .aload 0, .ldc_w 0, .ldc_w 7, .invokevirtual 91850, .ifCond .ne 3, .jsr 2]
def c_1842_2 : List Instr := [.ldc_w 0, .ireturn]
def c_1842_3 : List Instr := [.aload 0, .getfield 581, .istore 4, .aload 0, .ldc 17, .invokevirtual 91857, .ifCond .eq 4, .aload 0, .ldc_w 0, .ldc_w 9, .invokevirtual 91850, .ifCond .ne 5, .jsr 4]
def c_1842_4 : List Instr := [.ldc_w 0, .ireturn]
def c_1842_5 : List Instr := [.aload 0, .getfield 581, .istore 5, .aload 0, .invokevirtual 91864, .ifCond .ne 6, .ldc_w 0, .ireturn]
def c_1842_6 : List Instr := [.aload 1, .iload 2, .iload 3, .iload 4, .iload 5, .invokevirtual 111588, .pop, .ldc_w 1, .ireturn]
/- 1850: DreamNets$Tape.readNumber(II)Z -/
def c_1850_0 : List Instr := [.aload 0, .invokevirtual 91784, .aload 0, .getfield 580, .ldc_w 2, .if_icmp .ne 1, .aload 0, .getfield 581, .iload 1, .iload 2, .invokestatic 27, .ifCond .ne 1, .ldc_w 1, .goto 2]
def c_1850_1 : List Instr := [.ldc_w 0, .jsr 2]
def c_1850_2 : List Instr := [.ireturn]
/- 1857: DreamNets$Tape.readWord(Ljava/lang/String;)Z -/
def c_1857_0 : List Instr := [.aload 0, .invokevirtual 91784, .aload 0, .aload 1, .invokevirtual 91833, .ireturn]
/- 1864: DreamNets$Tape.readStop()Z -/
def c_1864_0 : List Instr := [.aload 0, .invokevirtual 91784, .aload 0, .getfield 580, .ldc_w 3, .if_icmp .ne 1, .aload 0, .getfield 2624, .aload 0, .getfield 578, .iaload, .ldc_w 59, .if_icmp .ne 1, .ldc_w 1, .goto 2]
def c_1864_1 : List Instr := [.ldc_w 0, .jsr 2]
def c_1864_2 : List Instr := [.ireturn]
/- 1873: DreamNets$Tape.tellsStreet(LDreamNets$World;)Z -/
def c_1873_0 : List Instr := [.aload 0, .ldc_w 0, .ldc_w 7, .invokevirtual 91850, .ifCond .ne 1, .ldc_w 0, .ireturn]
def c_1873_1 : List Instr := [.aload 0, .getfield 581, .istore 2, .aload 0, .invokevirtual 91784, .aload 0, .ldc 19, .invokevirtual 91833, .ifCond .eq 2, .aload 0, .aload 1, .getfield 2756, .iload 2, .ldc_w 0, .ldc_w 9, .invokevirtual 91884, .ireturn]
def c_1873_2 : List Instr := [.aload 0, .invokevirtual 91888, .istore 3, .iload 3, .ifCond .lt 3, .aload 0, .aload 1, .getfield 2755, .iload 2, .ldc_w 5, .imul, .iload 3, .iadd, .ldc_w 0, .ldc_w 99, .invokevirtual 91884, .ifCond .eq 3, .ldc_w 1, .goto 4]
def c_1873_3 : List Instr := [.ldc_w 0, .jsr 4]
def c_1873_4 : List Instr := [.ireturn]
/- 1884: DreamNets$Tape.tellsNumber([IIII)Z -/
def c_1884_0 : List Instr := [.aload 0, .iload 3, .iload 4, .invokevirtual 91850, .ifCond .ne 1, .ldc_w 0, .ireturn]
def c_1884_1 : List Instr := [.aload 0, .getfield 581, .istore 5, .aload 0, .invokevirtual 91864, .ifCond .ne 2, .ldc_w 0, .ireturn]
def c_1884_2 : List Instr := [.aload 1, .iload 2, .iload 5, .iastore, .ldc_w 1, .ireturn]
/- 1888: DreamNets$Tape.sortHere()I -/
def c_1888_0 : List Instr := [.ldc_w 0, .istore 1, .jsr 1]
def c_1888_1 : List Instr := [.iload 1, .ldc_w 5, .if_icmp .ge 3, .aload 0, .iload 1, .invokestatic 1897, .invokevirtual 91833, .ifCond .eq 2, .iload 1, .ireturn]
def c_1888_2 : List Instr := [.iinc 1 1, .goto 1]
def c_1888_3 : List Instr := [.iconst (-3), .ireturn]
/- 1897: DreamNets$Tape.sortName(I)Ljava/lang/String; -/
def c_1897_0 : List Instr := [.iload 0, .tableswitch 5 0 3 #[1, 2, 3, 4]]
def c_1897_1 : List Instr := [.ldc 20, .areturn]
def c_1897_2 : List Instr := [.ldc 21, .areturn]
def c_1897_3 : List Instr := [.ldc 22, .areturn]
def c_1897_4 : List Instr := [.ldc 23, .areturn]
def c_1897_5 : List Instr := [.ldc 24, .areturn]
/- 1905: DreamNets$Tape.tellsPrice(LDreamNets$World;)Z -/
def c_1905_0 : List Instr := [.aload 0, .invokevirtual 91784, .aload 0, .invokevirtual 91888, .istore 2, .iload 2, .ifCond .lt 1, .aload 0, .aload 1, .getfield 2754, .iload 2, .ldc_w 1, .ldc_w 30, .invokevirtual 91884, .ifCond .eq 1, .ldc_w 1, .goto 2]
def c_1905_1 : List Instr := [.ldc_w 0, .jsr 2]
def c_1905_2 : List Instr := [.ireturn]
/- 1913: DreamNets$Tape.tellsQuota(LDreamNets$World;)Z -/
def c_1913_0 : List Instr := [.aload 0, .ldc_w 0, .ldc_w 3, .invokevirtual 91850, .ifCond .ne 1, .ldc_w 0, .ireturn]
def c_1913_1 : List Instr := [.aload 0, .aload 1, .getfield 2758, .aload 0, .getfield 581, .ldc_w 0, .ldc_w 999, .invokevirtual 91884, .ireturn]
/- 1920: DreamNets$Acting.<init>()V -/
def c_1920_0 : List Instr := [.aload 0, .invokedynamic 5, .aload 0, .ldc_w 30, .newarray .int, .putfield 2112, .return_]
/- 1930: DreamNets$Acting.startAs(II)V -/
def c_1930_0 : List Instr := [.aload 0, .iload 1, .putfield 66, .aload 0, .iload 2, .putfield 67, .aload 0, .ldc_w 0, .putfield 3140, .return_]
/- 1937: DreamNets$Acting.begin(I)V -/
def c_1937_0 : List Instr := [.aload 0, .getfield 3140, .ifCond .ne 1, .aload 0, .getfield 65, .ldc_w 30, .if_icmp .ge 1, .aload 0, .getfield 2112, .aload 0, .getfield 65, .iload 1, .iastore, .aload 0, .dup, .getfield 65, .ldc_w 1, .iadd, .putfield 65, .jsr 1]
def c_1937_1 : List Instr := [.return_]
/- 1946: DreamNets$Sheet.<init>(II)V -/
def c_1946_0 : List Instr := [.aload 0, .invokedynamic 5, .aload 0, .iload 1, .putfield 512, .aload 0, .ldc_w 0, .iload 2, .invokedynamic 3, .newarray .long, .putfield 2561, .return_]
/- 1953: DreamNets$Sheet.narrowed(I)J -/
def c_1953_0 : List Instr := [.aload 0, .getfield 512, .ifCond .ne 1, .iload 1, .i2b, .i2l, .lreturn]
def c_1953_1 : List Instr := [.aload 0, .getfield 512, .ldc_w 1, .if_icmp .ne 2, .iload 1, .i2s, .i2l, .goto 3]
def c_1953_2 : List Instr := [.iload 1, .i2l, .jsr 3]
def c_1953_3 : List Instr := [.lreturn]
/- 1960: DreamNets$Boat.<init>()V -/
def c_1960_0 : List Instr := [.aload 0, .invokedynamic 5, .return_]
/- 1971: DreamNets$Boat.catchOf(III)I -/
def c_1971_0 : List Instr := [.iload 1, .ldc_w 4, .idiv, .ireturn]
/- 1978: DreamNets$Boat.tearBy(II)I -/
def c_1978_0 : List Instr := [.ldc_w 1, .ireturn]
/- 1985: DreamNets$Boat.isUnder(I)Z -/
def c_1985_0 : List Instr := [.iload 1, .ifCond .ne 1, .ldc_w 1, .goto 2]
def c_1985_1 : List Instr := [.ldc_w 0, .jsr 2]
def c_1985_2 : List Instr := [.ireturn]
/- 1994: DreamNets$Boat.drags(LDreamNets$Acting;I)I -/
def c_1994_0 : List Instr := [.aload 1, .ldc_w 10, .invokevirtual 11937, .iload 2, .aload 1, .getfield 66, .isub, .ireturn]
/- 2002: DreamNets$Boat.lands(LDreamNets$Acting;I)I -/
def c_2002_0 : List Instr := [.aload 1, .ldc_w 11, .invokevirtual 11937, .aload 0, .aload 1, .iload 2, .invokevirtual 10, .ldc_w 3, .imul, .ireturn]
/- 2010: DreamNets$Boat.mends(LDreamNets$Acting;I)I -/
def c_2010_0 : List Instr := [.aload 1, .ldc_w 12, .invokevirtual 11937, .aload 1, .getfield 66, .aload 1, .getfield 67, .isub, .istore 3, .iload 3, .ifCond .ne 1, .aload 1, .ldc_w 1, .putfield 3140, .ldc_w 0, .ireturn]
def c_2010_1 : List Instr := [.iload 2, .iload 3, .idiv, .ireturn]
/- 2018: DreamNets$Boat.hums(LDreamNets$Acting;I)I -/
def c_2018_0 : List Instr := [.aload 1, .ldc_w 13, .invokevirtual 11937, .aload 0, .aload 1, .iload 2, .invokevirtual 18, .aload 1, .getfield 67, .iadd, .ireturn]
/- 2024: DreamNets$Seiner.<init>()V -/
def c_2024_0 : List Instr := [.aload 0, .invokespecial 1960, .return_]
/- 2035: DreamNets$Seiner.catchOf(III)I -/
def c_2035_0 : List Instr := [.aload 0, .iload 1, .iload 2, .iload 3, .invokespecial 1971, .ldc_w 2, .imul, .ireturn]
/- 2042: DreamNets$Seiner.tearBy(II)I -/
def c_2042_0 : List Instr := [.ldc_w 0, .ireturn]
/- 2049: DreamNets$Seiner.isUnder(I)Z -/
def c_2049_0 : List Instr := [.iload 1, .ldc_w 1, .if_icmp .eq 1, .aload 0, .iload 1, .invokespecial 1985, .ifCond .eq 2, .jsr 1]
def c_2049_1 : List Instr := [.ldc_w 1, .goto 3]
def c_2049_2 : List Instr := [.ldc_w 0, .jsr 3]
def c_2049_3 : List Instr := [.ireturn]
/- 2058: DreamNets$Seiner.lands(LDreamNets$Acting;I)I -/
def c_2058_0 : List Instr := [.aload 1, .ldc_w 20, .invokevirtual 11937, .aload 0, .aload 1, .iload 2, .invokespecial 2002, .aload 1, .getfield 66, .isub, .ireturn]
/- 2064: DreamNets$Drifter.<init>()V -/
def c_2064_0 : List Instr := [.aload 0, .invokespecial 1960, .return_]
/- 2075: DreamNets$Drifter.catchOf(III)I -/
def c_2075_0 : List Instr := [.aload 0, .iload 1, .iload 2, .iload 3, .invokespecial 1971, .iload 3, .iadd, .ireturn]
/- 2082: DreamNets$Drifter.tearBy(II)I -/
def c_2082_0 : List Instr := [.aload 0, .iload 1, .iload 2, .invokespecial 1978, .ldc_w 1, .iadd, .ireturn]
/- 2089: DreamNets$Drifter.isUnder(I)Z -/
def c_2089_0 : List Instr := [.iload 1, .ldc_w 2, .if_icmp .eq 1, .aload 0, .iload 1, .invokespecial 1985, .ifCond .eq 2, .jsr 1]
def c_2089_1 : List Instr := [.ldc_w 1, .goto 3]
def c_2089_2 : List Instr := [.ldc_w 0, .jsr 3]
def c_2089_3 : List Instr := [.ireturn]
/- 2098: DreamNets$Drifter.drags(LDreamNets$Acting;I)I -/
def c_2098_0 : List Instr := [.aload 1, .ldc_w 30, .invokevirtual 11937, .aload 0, .aload 1, .iload 2, .invokespecial 1994, .aload 1, .getfield 67, .ixor, .ireturn]
/- 2106: DreamNets$Drifter.hums(LDreamNets$Acting;I)I -/
def c_2106_0 : List Instr := [.aload 1, .ldc_w 31, .invokevirtual 11937, .aload 0, .aload 1, .iload 2, .invokespecial 2018, .aload 0, .aload 1, .aload 1, .getfield 67, .invokevirtual 58, .iadd, .ireturn]
/- 2112: DreamNets$Tug.<init>()V -/
def c_2112_0 : List Instr := [.aload 0, .invokespecial 2024, .return_]
/- 2123: DreamNets$Tug.catchOf(III)I -/
def c_2123_0 : List Instr := [.iload 2, .ldc_w 2, .if_icmp .ne 1, .ldc_w 0, .goto 2]
def c_2123_1 : List Instr := [.aload 0, .iload 1, .iload 2, .iload 3, .invokespecial 2035, .jsr 2]
def c_2123_2 : List Instr := [.ireturn]
/- 2130: DreamNets$Tug.tearBy(II)I -/
def c_2130_0 : List Instr := [.aload 0, .iload 1, .iload 2, .invokespecial 2042, .iload 2, .ldc_w 3, .if_icmp .ge 1, .ldc_w 1, .goto 2]
def c_2130_1 : List Instr := [.ldc_w 0, .jsr 2]
def c_2130_2 : List Instr := [.iadd, .ireturn]
/- 2137: DreamNets$Tug.isUnder(I)Z -/
def c_2137_0 : List Instr := [.iload 1, .ldc_w 3, .if_icmp .eq 1, .aload 0, .iload 1, .invokespecial 2049, .ifCond .eq 2, .jsr 1]
def c_2137_1 : List Instr := [.ldc_w 1, .goto 3]
def c_2137_2 : List Instr := [.ldc_w 0, .jsr 3]
def c_2137_3 : List Instr := [.ireturn]
/- 2146: DreamNets$Tug.drags(LDreamNets$Acting;I)I -/
def c_2146_0 : List Instr := [.aload 1, .ldc_w 51, .invokevirtual 11937, .aload 0, .aload 1, .iload 2, .invokespecial 1994, .aload 1, .getfield 66, .iadd, .ireturn]
/- 2154: DreamNets$Tug.mends(LDreamNets$Acting;I)I -/
def c_2154_0 : List Instr := [.aload 1, .ldc_w 50, .invokevirtual 11937, .aload 0, .aload 1, .iload 2, .ldc_w 5, .iadd, .invokespecial 2010, .ldc_w 2, .imul, .ireturn]
/- 2160: DreamNets$Dredger.<init>()V -/
def c_2160_0 : List Instr := [.aload 0, .invokespecial 2064, .return_]
/- 2171: DreamNets$Dredger.catchOf(III)I -/
def c_2171_0 : List Instr := [.aload 0, .iload 1, .iload 2, .iload 3, .invokespecial 2075, .ldc_w 2, .imul, .ireturn]
/- 2178: DreamNets$Dredger.tearBy(II)I -/
def c_2178_0 : List Instr := [.aload 0, .iload 1, .iload 2, .invokespecial 2082, .iload 1, .iadd, .ireturn]
/- 2185: DreamNets$Dredger.isUnder(I)Z -/
def c_2185_0 : List Instr := [.iload 1, .ldc_w 4, .if_icmp .eq 1, .aload 0, .iload 1, .invokespecial 2089, .ifCond .eq 2, .jsr 1]
def c_2185_1 : List Instr := [.ldc_w 1, .goto 3]
def c_2185_2 : List Instr := [.ldc_w 0, .jsr 3]
def c_2185_3 : List Instr := [.ireturn]
/- 2194: DreamNets$Dredger.drags(LDreamNets$Acting;I)I -/
def c_2194_0 : List Instr := [.aload 1, .ldc_w 40, .invokevirtual 11937, .aload 0, .aload 1, .iload 2, .invokespecial 2098, .ldc_w 2, .imul, .ireturn]
/- 2202: DreamNets$Dredger.lands(LDreamNets$Acting;I)I -/
def c_2202_0 : List Instr := [.aload 1, .ldc_w 41, .invokevirtual 11937, .aload 0, .aload 1, .iload 2, .invokespecial 2002, .aload 0, .aload 1, .aload 1, .getfield 66, .invokevirtual 32194, .isub, .ireturn]
/- 2208: DreamNets$Poacher.<init>()V -/
def c_2208_0 : List Instr := [.aload 0, .invokespecial 1960, .return_]
/- 2219: DreamNets$Poacher.catchOf(III)I -/
def c_2219_0 : List Instr := [.iload 2, .iload 3, .ldc_w 5, .irem, .if_icmp .ne 1, .iload 1, .goto 2]
def c_2219_1 : List Instr := [.aload 0, .iload 1, .iload 2, .iload 3, .invokespecial 1971, .jsr 2]
def c_2219_2 : List Instr := [.ireturn]
/- 2226: DreamNets$Poacher.tearBy(II)I -/
def c_2226_0 : List Instr := [.ldc_w 0, .ireturn]
/- 2233: DreamNets$Poacher.isUnder(I)Z -/
def c_2233_0 : List Instr := [.iload 1, .ldc_w 5, .if_icmp .eq 1, .aload 0, .iload 1, .invokespecial 1985, .ifCond .eq 2, .jsr 1]
def c_2233_1 : List Instr := [.ldc_w 1, .goto 3]
def c_2233_2 : List Instr := [.ldc_w 0, .jsr 3]
def c_2233_3 : List Instr := [.ireturn]
/- 2242: DreamNets$Poacher.mends(LDreamNets$Acting;I)I -/
def c_2242_0 : List Instr := [.aload 1, .ldc_w 61, .invokevirtual 11937, .aload 0, .aload 1, .iload 2, .invokespecial 2010, .aload 0, .aload 1, .aload 1, .getfield 67, .invokevirtual 66, .ixor, .ireturn]
/- 2250: DreamNets$Poacher.hums(LDreamNets$Acting;I)I -/
def c_2250_0 : List Instr := [.aload 1, .ldc_w 60, .invokevirtual 11937, .ldc_w 7, .aload 0, .aload 1, .iload 2, .invokespecial 2018, .isub, .ireturn]
/- 2257: DreamNets$Search.<init>([LDreamNets$Boat;)V -/
def c_2257_0 : List Instr := [.aload 0, .invokedynamic 5, .aload 0, .ldc_w 5, .anewarray 112, .putfield 2432, .aload 0, .ldc_w 4, .newarray .int, .putfield 2433, .aload 0, .ldc_w 4, .newarray .int, .putfield 2434, .ldc_w 0, .istore 2, .jsr 1]
def c_2257_1 : List Instr := [.iload 2, .aload 0, .getfield 2432, .arraylength, .if_icmp .ge 2, .aload 0, .getfield 2432, .iload 2, .new 722, .dup, .aload 1, .invokespecial 1569, .aastore, .iinc 2 1, .goto 1]
def c_2257_2 : List Instr := [.return_]
/- 2265: DreamNets$Search.endWay(I)V -/
def c_2265_0 : List Instr := [.iload 1, .aload 0, .getfield 389, .if_icmp .le 1, .aload 0, .iload 1, .putfield 389, .aload 0, .getfield 2433, .ldc_w 0, .aload 0, .getfield 2434, .ldc_w 0, .ldc_w 4, .invokedynamic 0, .jsr 1]
def c_2265_1 : List Instr := [.return_]
/- 2273: java/lang/Integer.bitCount(I)I -/
def c_2273_0 : List Instr := [.iload 0, .iload 0, .ldc_w 1, .iushr, .ldc_w 1431655765, .iand, .isub, .istore 0, .iload 0, .ldc_w 858993459, .iand, .iload 0, .ldc_w 2, .iushr, .ldc_w 858993459, .iand, .iadd, .istore 0, .iload 0, .iload 0, .ldc_w 4, .iushr, .iadd, .ldc_w 252645135, .iand, .istore 0, .iload 0, .iload 0, .ldc_w 8, .iushr, .iadd, .istore 0, .iload 0, .iload 0, .ldc_w 16, .iushr, .iadd, .istore 0, .iload 0, .ldc_w 63, .iand, .ireturn]
/- 2281: DreamNetsLaw.law([I)Z -/
def c_2281_0 : List Instr := [.new 781, .dup, .invokespecial 0, .astore 1, .new 868, .dup, .invokespecial 584, .astore 2, .ldc_w 0, .istore 3, .jsr 1]
def c_2281_1 : List Instr := [.iload 3, .aload 0, .arraylength, .ldc_w 5, .isub, .if_icmp .gt 54, .aload 0, .iload 3, .iaload, .ldc_w 63, .iand, .tableswitch 53 0 50 #[2, 3, 4, 5, 6, 7, 8, 9, 10, 11, 12, 13, 14, 15, 16, 17, 18, 19, 20, 21, 22, 23, 24, 25, 26, 27, 28, 29, 30, 31, 32, 33, 34, 35, 36, 37, 38, 39, 40, 41, 42, 43, 44, 45, 46, 47, 48, 49, 50, 51, 52]]
def c_2281_2 : List Instr := [.aload 1, .aload 0, .iload 3, .ldc_w 1, .iadd, .iaload, .i2l, .ldc_w 32, .lshl, .aload 0, .iload 3, .ldc_w 2, .iadd, .iaload, .i2l, .ldc2_w 4294967295, .land, .lor, .aload 0, .iload 3, .ldc_w 3, .iadd, .iaload, .invokevirtual 120018, .aload 2, .aload 0, .iload 3, .ldc_w 1, .iadd, .iaload, .i2l, .ldc_w 32, .lshl, .aload 0, .iload 3, .ldc_w 2, .iadd, .iaload, .i2l, .ldc2_w 4294967295, .land, .lor, .aload 0, .iload 3, .ldc_w 3, .iadd, .iaload, .invokevirtual 130602, .if_icmp .eq 53, .ldc_w 0, .ireturn]
def c_2281_3 : List Instr := [.aload 1, .invokevirtual 120032, .aload 2, .invokevirtual 130616, .if_icmp .eq 53, .ldc_w 0, .ireturn]
def c_2281_4 : List Instr := [.aload 1, .aload 0, .iload 3, .ldc_w 1, .iadd, .iaload, .aload 0, .iload 3, .ldc_w 2, .iadd, .iaload, .invokevirtual 120042, .aload 2, .aload 0, .iload 3, .ldc_w 1, .iadd, .iaload, .aload 0, .iload 3, .ldc_w 2, .iadd, .iaload, .invokevirtual 130770, .if_icmp .eq 53, .ldc_w 0, .ireturn]
def c_2281_5 : List Instr := [.aload 1, .aload 0, .iload 3, .ldc_w 1, .iadd, .iaload, .invokevirtual 120057, .aload 2, .aload 0, .iload 3, .ldc_w 1, .iadd, .iaload, .invokevirtual 130785, .if_icmp .eq 53, .ldc_w 0, .ireturn]
def c_2281_6 : List Instr := [.aload 1, .aload 0, .iload 3, .ldc_w 1, .iadd, .iaload, .aload 0, .iload 3, .ldc_w 2, .iadd, .iaload, .invokevirtual 120066, .aload 2, .aload 0, .iload 3, .ldc_w 1, .iadd, .iaload, .aload 0, .iload 3, .ldc_w 2, .iadd, .iaload, .invokevirtual 130794, .if_icmp .eq 53, .ldc_w 0, .ireturn]
def c_2281_7 : List Instr := [.aload 1, .aload 0, .iload 3, .ldc_w 1, .iadd, .iaload, .aload 0, .iload 3, .ldc_w 2, .iadd, .iaload, .invokevirtual 120082, .aload 2, .aload 0, .iload 3, .ldc_w 1, .iadd, .iaload, .aload 0, .iload 3, .ldc_w 2, .iadd, .iaload, .invokevirtual 130810, .if_icmp .eq 53, .ldc_w 0, .ireturn]
def c_2281_8 : List Instr := [.aload 1, .aload 0, .iload 3, .ldc_w 1, .iadd, .iaload, .aload 0, .iload 3, .ldc_w 2, .iadd, .iaload, .invokevirtual 120098, .aload 2, .aload 0, .iload 3, .ldc_w 1, .iadd, .iaload, .aload 0, .iload 3, .ldc_w 2, .iadd, .iaload, .invokevirtual 130826, .if_icmp .eq 53, .ldc_w 0, .ireturn]
def c_2281_9 : List Instr := [.aload 1, .aload 0, .iload 3, .ldc_w 1, .iadd, .iaload, .aload 0, .iload 3, .ldc_w 2, .iadd, .iaload, .invokevirtual 120106, .aload 2, .aload 0, .iload 3, .ldc_w 1, .iadd, .iaload, .aload 0, .iload 3, .ldc_w 2, .iadd, .iaload, .invokevirtual 130842, .if_icmp .eq 53, .ldc_w 0, .ireturn]
def c_2281_10 : List Instr := [.aload 1, .aload 0, .iload 3, .ldc_w 1, .iadd, .iaload, .aload 0, .iload 3, .ldc_w 2, .iadd, .iaload, .aload 0, .iload 3, .ldc_w 3, .iadd, .iaload, .invokevirtual 120123, .aload 2, .aload 0, .iload 3, .ldc_w 1, .iadd, .iaload, .aload 0, .iload 3, .ldc_w 2, .iadd, .iaload, .aload 0, .iload 3, .ldc_w 3, .iadd, .iaload, .invokevirtual 130867, .if_icmp .eq 53, .ldc_w 0, .ireturn]
def c_2281_11 : List Instr := [.aload 1, .aload 0, .iload 3, .ldc_w 1, .iadd, .iaload, .aload 0, .iload 3, .ldc_w 2, .iadd, .iaload, .aload 0, .iload 3, .ldc_w 3, .iadd, .iaload, .aload 0, .iload 3, .ldc_w 4, .iadd, .iaload, .invokevirtual 120132, .aload 2, .aload 0, .iload 3, .ldc_w 1, .iadd, .iaload, .aload 0, .iload 3, .ldc_w 2, .iadd, .iaload, .aload 0, .iload 3, .ldc_w 3, .iadd, .iaload, .aload 0, .iload 3, .ldc_w 4, .iadd, .iaload, .invokevirtual 130876, .if_icmp .eq 53, .ldc_w 0, .ireturn]
def c_2281_12 : List Instr := [.aload 1, .aload 0, .iload 3, .ldc_w 1, .iadd, .iaload, .aload 0, .iload 3, .ldc_w 2, .iadd, .iaload, .invokevirtual 120146, .aload 2, .aload 0, .iload 3, .ldc_w 1, .iadd, .iaload, .aload 0, .iload 3, .ldc_w 2, .iadd, .iaload, .invokevirtual 130898, .if_icmp .eq 53, .ldc_w 0, .ireturn]
def c_2281_13 : List Instr := [.aload 1, .aload 0, .iload 3, .ldc_w 1, .iadd, .iaload, .aload 0, .iload 3, .ldc_w 2, .iadd, .iaload, .aload 0, .iload 3, .ldc_w 3, .iadd, .iaload, .invokevirtual 120163, .aload 2, .aload 0, .iload 3, .ldc_w 1, .iadd, .iaload, .aload 0, .iload 3, .ldc_w 2, .iadd, .iaload, .aload 0, .iload 3, .ldc_w 3, .iadd, .iaload, .invokevirtual 130931, .if_icmp .eq 53, .ldc_w 0, .ireturn]
def c_2281_14 : List Instr := [.aload 1, .aload 0, .iload 3, .ldc_w 1, .iadd, .iaload, .aload 0, .iload 3, .ldc_w 2, .iadd, .iaload, .invokevirtual 120170, .aload 2, .aload 0, .iload 3, .ldc_w 1, .iadd, .iaload, .aload 0, .iload 3, .ldc_w 2, .iadd, .iaload, .invokevirtual 130938, .if_icmp .eq 53, .ldc_w 0, .ireturn]
def c_2281_15 : List Instr := [.aload 1, .aload 0, .iload 3, .ldc_w 1, .iadd, .iaload, .aload 0, .iload 3, .ldc_w 2, .iadd, .iaload, .invokevirtual 120178, .aload 2, .aload 0, .iload 3, .ldc_w 1, .iadd, .iaload, .aload 0, .iload 3, .ldc_w 2, .iadd, .iaload, .invokevirtual 130946, .if_icmp .eq 53, .ldc_w 0, .ireturn]
def c_2281_16 : List Instr := [.aload 1, .aload 0, .iload 3, .ldc_w 1, .iadd, .iaload, .invokevirtual 120185, .aload 2, .aload 0, .iload 3, .ldc_w 1, .iadd, .iaload, .invokevirtual 130953, .if_icmp .eq 53, .ldc_w 0, .ireturn]
def c_2281_17 : List Instr := [.aload 1, .aload 0, .iload 3, .ldc_w 1, .iadd, .iaload, .aload 0, .iload 3, .ldc_w 2, .iadd, .iaload, .invokevirtual 120194, .aload 2, .aload 0, .iload 3, .ldc_w 1, .iadd, .iaload, .aload 0, .iload 3, .ldc_w 2, .iadd, .iaload, .invokevirtual 130962, .if_icmp .eq 53, .ldc_w 0, .ireturn]
def c_2281_18 : List Instr := [.aload 1, .aload 0, .iload 3, .ldc_w 1, .iadd, .iaload, .invokevirtual 120201, .aload 2, .aload 0, .iload 3, .ldc_w 1, .iadd, .iaload, .invokevirtual 130977, .if_icmp .eq 53, .ldc_w 0, .ireturn]
def c_2281_19 : List Instr := [.aload 1, .aload 0, .iload 3, .ldc_w 1, .iadd, .iaload, .invokevirtual 120209, .aload 2, .aload 0, .iload 3, .ldc_w 1, .iadd, .iaload, .invokevirtual 130993, .if_icmp .eq 53, .ldc_w 0, .ireturn]
def c_2281_20 : List Instr := [.aload 1, .aload 0, .iload 3, .ldc_w 1, .iadd, .iaload, .aload 0, .iload 3, .ldc_w 2, .iadd, .iaload, .invokevirtual 120218, .aload 2, .aload 0, .iload 3, .ldc_w 1, .iadd, .iaload, .aload 0, .iload 3, .ldc_w 2, .iadd, .iaload, .invokevirtual 131034, .if_icmp .eq 53, .ldc_w 0, .ireturn]
def c_2281_21 : List Instr := [.aload 1, .aload 0, .iload 3, .ldc_w 1, .iadd, .iaload, .invokevirtual 120225, .aload 2, .aload 0, .iload 3, .ldc_w 1, .iadd, .iaload, .invokevirtual 131041, .if_icmp .eq 53, .ldc_w 0, .ireturn]
def c_2281_22 : List Instr := [.aload 1, .aload 0, .iload 3, .ldc_w 1, .iadd, .iaload, .invokevirtual 120233, .aload 2, .aload 0, .iload 3, .ldc_w 1, .iadd, .iaload, .invokevirtual 131049, .if_icmp .eq 53, .ldc_w 0, .ireturn]
def c_2281_23 : List Instr := [.aload 1, .aload 0, .iload 3, .ldc_w 1, .iadd, .iaload, .invokevirtual 120241, .aload 2, .aload 0, .iload 3, .ldc_w 1, .iadd, .iaload, .invokevirtual 131065, .if_icmp .eq 53, .ldc_w 0, .ireturn]
def c_2281_24 : List Instr := [.aload 1, .aload 0, .iload 3, .ldc_w 1, .iadd, .iaload, .invokevirtual 120249, .aload 2, .aload 0, .iload 3, .ldc_w 1, .iadd, .iaload, .invokevirtual 131089, .if_icmp .eq 53, .ldc_w 0, .ireturn]
def c_2281_25 : List Instr := [.aload 1, .invokevirtual 120256, .aload 2, .invokevirtual 131096, .if_icmp .eq 53, .ldc_w 0, .ireturn]
def c_2281_26 : List Instr := [.aload 1, .aload 0, .iload 3, .ldc_w 1, .iadd, .iaload, .aload 0, .iload 3, .ldc_w 2, .iadd, .iaload, .invokevirtual 120266, .aload 2, .aload 0, .iload 3, .ldc_w 1, .iadd, .iaload, .aload 0, .iload 3, .ldc_w 2, .iadd, .iaload, .invokevirtual 131114, .if_icmp .eq 53, .ldc_w 0, .ireturn]
def c_2281_27 : List Instr := [.aload 1, .aload 0, .iload 3, .ldc_w 1, .iadd, .iaload, .invokevirtual 120273, .aload 2, .aload 0, .iload 3, .ldc_w 1, .iadd, .iaload, .invokevirtual 131121, .if_icmp .eq 53, .ldc_w 0, .ireturn]
def c_2281_28 : List Instr := [.aload 1, .aload 0, .iload 3, .ldc_w 1, .iadd, .iaload, .aload 0, .iload 3, .ldc_w 2, .iadd, .iaload, .invokevirtual 120298, .aload 2, .aload 0, .iload 3, .ldc_w 1, .iadd, .iaload, .aload 0, .iload 3, .ldc_w 2, .iadd, .iaload, .invokevirtual 131154, .if_icmp .eq 53, .ldc_w 0, .ireturn]
def c_2281_29 : List Instr := [.aload 1, .aload 0, .iload 3, .ldc_w 1, .iadd, .iaload, .aload 0, .iload 3, .ldc_w 2, .iadd, .iaload, .aload 0, .iload 3, .ldc_w 3, .iadd, .iaload, .invokevirtual 120323, .aload 2, .aload 0, .iload 3, .ldc_w 1, .iadd, .iaload, .aload 0, .iload 3, .ldc_w 2, .iadd, .iaload, .aload 0, .iload 3, .ldc_w 3, .iadd, .iaload, .invokevirtual 131187, .if_icmp .eq 53, .ldc_w 0, .ireturn]
def c_2281_30 : List Instr := [.aload 1, .aload 0, .iload 3, .ldc_w 1, .iadd, .iaload, .aload 0, .iload 3, .ldc_w 2, .iadd, .iaload, .aload 0, .iload 3, .ldc_w 3, .iadd, .iaload, .invokevirtual 120331, .aload 2, .aload 0, .iload 3, .ldc_w 1, .iadd, .iaload, .aload 0, .iload 3, .ldc_w 2, .iadd, .iaload, .aload 0, .iload 3, .ldc_w 3, .iadd, .iaload, .invokevirtual 131195, .if_icmp .eq 53, .ldc_w 0, .ireturn]
def c_2281_31 : List Instr := [.aload 1, .invokevirtual 120344, .aload 2, .invokevirtual 131200, .if_icmp .eq 53, .ldc_w 0, .ireturn]
def c_2281_32 : List Instr := [.aload 1, .aload 0, .iload 3, .ldc_w 1, .iadd, .iaload, .aload 0, .iload 3, .ldc_w 2, .iadd, .iaload, .invokevirtual 120354, .aload 2, .aload 0, .iload 3, .ldc_w 1, .iadd, .iaload, .aload 0, .iload 3, .ldc_w 2, .iadd, .iaload, .invokevirtual 131210, .if_icmp .eq 53, .ldc_w 0, .ireturn]
def c_2281_33 : List Instr := [.aload 1, .aload 0, .iload 3, .ldc_w 1, .iadd, .iaload, .aload 0, .iload 3, .ldc_w 2, .iadd, .iaload, .invokevirtual 120394, .aload 2, .aload 0, .iload 3, .ldc_w 1, .iadd, .iaload, .aload 0, .iload 3, .ldc_w 2, .iadd, .iaload, .invokevirtual 131226, .if_icmp .eq 53, .ldc_w 0, .ireturn]
def c_2281_34 : List Instr := [.aload 1, .invokevirtual 120400, .aload 2, .invokevirtual 131240, .if_icmp .eq 53, .ldc_w 0, .ireturn]
def c_2281_35 : List Instr := [.aload 1, .aload 0, .iload 3, .ldc_w 1, .iadd, .iaload, .aload 0, .iload 3, .ldc_w 2, .iadd, .iaload, .aload 0, .iload 3, .ldc_w 3, .iadd, .iaload, .invokevirtual 120411, .aload 2, .aload 0, .iload 3, .ldc_w 1, .iadd, .iaload, .aload 0, .iload 3, .ldc_w 2, .iadd, .iaload, .aload 0, .iload 3, .ldc_w 3, .iadd, .iaload, .invokevirtual 131251, .if_icmp .eq 53, .ldc_w 0, .ireturn]
def c_2281_36 : List Instr := [.aload 1, .aload 0, .iload 3, .ldc_w 1, .iadd, .iaload, .aload 0, .iload 3, .ldc_w 2, .iadd, .iaload, .invokevirtual 120418, .aload 2, .aload 0, .iload 3, .ldc_w 1, .iadd, .iaload, .aload 0, .iload 3, .ldc_w 2, .iadd, .iaload, .invokevirtual 131258, .lcmp, .ifCond .eq 53, .ldc_w 0, .ireturn]
def c_2281_37 : List Instr := [.aload 1, .aload 0, .iload 3, .ldc_w 1, .iadd, .iaload, .aload 0, .iload 3, .ldc_w 2, .iadd, .iaload, .aload 0, .iload 3, .ldc_w 3, .iadd, .iaload, .invokevirtual 120443, .aload 2, .aload 0, .iload 3, .ldc_w 1, .iadd, .iaload, .aload 0, .iload 3, .ldc_w 2, .iadd, .iaload, .aload 0, .iload 3, .ldc_w 3, .iadd, .iaload, .invokevirtual 131283, .lcmp, .ifCond .eq 53, .ldc_w 0, .ireturn]
def c_2281_38 : List Instr := [.aload 1, .aload 0, .iload 3, .ldc_w 1, .iadd, .iaload, .aload 0, .iload 3, .ldc_w 2, .iadd, .iaload, .invokevirtual 120450, .aload 2, .aload 0, .iload 3, .ldc_w 1, .iadd, .iaload, .aload 0, .iload 3, .ldc_w 2, .iadd, .iaload, .invokevirtual 131298, .if_icmp .eq 53, .ldc_w 0, .ireturn]
def c_2281_39 : List Instr := [.aload 1, .aload 0, .iload 3, .ldc_w 1, .iadd, .iaload, .aload 0, .iload 3, .ldc_w 2, .iadd, .iaload, .invokevirtual 120458, .aload 2, .aload 0, .iload 3, .ldc_w 1, .iadd, .iaload, .aload 0, .iload 3, .ldc_w 2, .iadd, .iaload, .invokevirtual 131314, .if_icmp .eq 53, .ldc_w 0, .ireturn]
def c_2281_40 : List Instr := [.aload 1, .aload 0, .iload 3, .ldc_w 1, .iadd, .iaload, .aload 0, .iload 3, .ldc_w 2, .iadd, .iaload, .aload 0, .iload 3, .ldc_w 3, .iadd, .iaload, .invokevirtual 120475, .aload 2, .aload 0, .iload 3, .ldc_w 1, .iadd, .iaload, .aload 0, .iload 3, .ldc_w 2, .iadd, .iaload, .aload 0, .iload 3, .ldc_w 3, .iadd, .iaload, .invokevirtual 131331, .if_icmp .eq 53, .ldc_w 0, .ireturn]
def c_2281_41 : List Instr := [.aload 1, .aload 0, .iload 3, .ldc_w 1, .iadd, .iaload, .invokevirtual 120481, .aload 2, .aload 0, .iload 3, .ldc_w 1, .iadd, .iaload, .invokevirtual 131337, .if_icmp .eq 53, .ldc_w 0, .ireturn]
def c_2281_42 : List Instr := [.aload 1, .aload 0, .iload 3, .ldc_w 1, .iadd, .iaload, .aload 0, .iload 3, .ldc_w 2, .iadd, .iaload, .aload 0, .iload 3, .ldc_w 3, .iadd, .iaload, .aload 0, .iload 3, .ldc_w 4, .iadd, .iaload, .invokevirtual 120492, .aload 2, .aload 0, .iload 3, .ldc_w 1, .iadd, .iaload, .aload 0, .iload 3, .ldc_w 2, .iadd, .iaload, .aload 0, .iload 3, .ldc_w 3, .iadd, .iaload, .aload 0, .iload 3, .ldc_w 4, .iadd, .iaload, .invokevirtual 131348, .if_icmp .eq 53, .ldc_w 0, .ireturn]
def c_2281_43 : List Instr := [.aload 1, .aload 0, .iload 3, .ldc_w 1, .iadd, .iaload, .aload 0, .iload 3, .ldc_w 2, .iadd, .iaload, .aload 0, .iload 3, .ldc_w 3, .iadd, .iaload, .invokevirtual 120499, .aload 2, .aload 0, .iload 3, .ldc_w 1, .iadd, .iaload, .aload 0, .iload 3, .ldc_w 2, .iadd, .iaload, .aload 0, .iload 3, .ldc_w 3, .iadd, .iaload, .invokevirtual 131363, .if_icmp .eq 53, .ldc_w 0, .ireturn]
def c_2281_44 : List Instr := [.aload 1, .aload 0, .iload 3, .ldc_w 1, .iadd, .iaload, .aload 0, .iload 3, .ldc_w 2, .iadd, .iaload, .aload 0, .iload 3, .ldc_w 3, .iadd, .iaload, .invokevirtual 120507, .aload 2, .aload 0, .iload 3, .ldc_w 1, .iadd, .iaload, .aload 0, .iload 3, .ldc_w 2, .iadd, .iaload, .aload 0, .iload 3, .ldc_w 3, .iadd, .iaload, .invokevirtual 131371, .if_icmp .eq 53, .ldc_w 0, .ireturn]
def c_2281_45 : List Instr := [.aload 1, .aload 0, .iload 3, .ldc_w 1, .iadd, .iaload, .aload 0, .iload 3, .ldc_w 2, .iadd, .iaload, .aload 0, .iload 3, .ldc_w 3, .iadd, .iaload, .invokevirtual 120515, .aload 2, .aload 0, .iload 3, .ldc_w 1, .iadd, .iaload, .aload 0, .iload 3, .ldc_w 2, .iadd, .iaload, .aload 0, .iload 3, .ldc_w 3, .iadd, .iaload, .invokevirtual 131379, .if_icmp .eq 53, .ldc_w 0, .ireturn]
def c_2281_46 : List Instr := [.aload 1, .aload 0, .iload 3, .ldc_w 1, .iadd, .iaload, .aload 0, .iload 3, .ldc_w 2, .iadd, .iaload, .aload 0, .iload 3, .ldc_w 3, .iadd, .iaload, .invokevirtual 120523, .aload 2, .aload 0, .iload 3, .ldc_w 1, .iadd, .iaload, .aload 0, .iload 3, .ldc_w 2, .iadd, .iaload, .aload 0, .iload 3, .ldc_w 3, .iadd, .iaload, .invokevirtual 131387, .if_icmp .eq 53, .ldc_w 0, .ireturn]
def c_2281_47 : List Instr := [.aload 1, .aload 0, .iload 3, .ldc_w 1, .iadd, .iaload, .aload 0, .iload 3, .ldc_w 2, .iadd, .iaload, .invokevirtual 120538, .aload 2, .aload 0, .iload 3, .ldc_w 1, .iadd, .iaload, .aload 0, .iload 3, .ldc_w 2, .iadd, .iaload, .invokevirtual 131402, .if_icmp .eq 53, .ldc_w 0, .ireturn]
def c_2281_48 : List Instr := [.aload 1, .aload 0, .iload 3, .ldc_w 1, .iadd, .iaload, .aload 0, .iload 3, .ldc_w 2, .iadd, .iaload, .aload 0, .iload 3, .ldc_w 3, .iadd, .iaload, .invokevirtual 120547, .aload 2, .aload 0, .iload 3, .ldc_w 1, .iadd, .iaload, .aload 0, .iload 3, .ldc_w 2, .iadd, .iaload, .aload 0, .iload 3, .ldc_w 3, .iadd, .iaload, .invokevirtual 131427, .if_icmp .eq 53, .ldc_w 0, .ireturn]
def c_2281_49 : List Instr := [.aload 1, .aload 0, .iload 3, .ldc_w 1, .iadd, .iaload, .invokevirtual 120553, .aload 2, .aload 0, .iload 3, .ldc_w 1, .iadd, .iaload, .invokevirtual 131513, .if_icmp .eq 53, .ldc_w 0, .ireturn]
def c_2281_50 : List Instr := [.aload 1, .aload 0, .iload 3, .ldc_w 1, .iadd, .iaload, .invokevirtual 120561, .aload 2, .aload 0, .iload 3, .ldc_w 1, .iadd, .iaload, .invokevirtual 131521, .if_icmp .eq 53, .ldc_w 0, .ireturn]
def c_2281_51 : List Instr := [.aload 1, .invokevirtual 120568, .aload 2, .invokevirtual 131552, .if_icmp .eq 53, .ldc_w 0, .ireturn]
def c_2281_52 : List Instr := [.aload 1, .invokevirtual 120576, .aload 2, .invokevirtual 131560, .if_icmp .eq 53, .ldc_w 0, .ireturn]
def c_2281_53 : List Instr := [.iinc 3 5, .goto 1]
def c_2281_54 : List Instr := [.ldc_w 1, .ireturn]
def pnl (m : Nat) : Nat := (bif Nat.blt m 1144 then (bif Nat.blt m 568 then (bif Nat.blt m 282 then (bif Nat.blt m 137 then (bif Nat.blt m 66 then (bif Nat.blt m 32 then (bif Nat.blt m 18 then (bif Nat.blt m 8 then 3 else 1) else (bif Nat.blt m 27 then 5 else 3)) else (bif Nat.blt m 51 then (bif Nat.blt m 42 then 2 else 3) else (bif Nat.blt m 57 then 4 else 2))) else (bif Nat.blt m 98 then (bif Nat.blt m 82 then (bif Nat.blt m 73 then 3 else 1) else (bif Nat.blt m 89 then 3 else 1)) else (bif Nat.blt m 113 then (bif Nat.blt m 106 then 3 else 3) else (bif Nat.blt m 123 then 1 else (bif Nat.blt m 132 then 4 else 5))))) else (bif Nat.blt m 209 then (bif Nat.blt m 170 then (bif Nat.blt m 153 then (bif Nat.blt m 146 then 1 else 3) else (bif Nat.blt m 163 then 2 else 4)) else (bif Nat.blt m 185 then (bif Nat.blt m 178 then 3 else 3) else (bif Nat.blt m 194 then 2 else (bif Nat.blt m 201 then 3 else 2)))) else (bif Nat.blt m 241 then (bif Nat.blt m 225 then (bif Nat.blt m 218 then 2 else 5) else (bif Nat.blt m 233 then 4 else 3)) else (bif Nat.blt m 256 then (bif Nat.blt m 249 then 2 else 3) else (bif Nat.blt m 266 then 1 else (bif Nat.blt m 273 then 6 else 2)))))) else (bif Nat.blt m 426 then (bif Nat.blt m 354 then (bif Nat.blt m 315 then (bif Nat.blt m 298 then (bif Nat.blt m 288 then 4 else 3) else (bif Nat.blt m 306 then 3 else 3)) else (bif Nat.blt m 331 then (bif Nat.blt m 323 then 9 else 4) else (bif Nat.blt m 339 then 8 else (bif Nat.blt m 344 then 6 else 3)))) else (bif Nat.blt m 384 then (bif Nat.blt m 369 then (bif Nat.blt m 361 then 3 else 1) else (bif Nat.blt m 376 then 4 else 3)) else (bif Nat.blt m 400 then (bif Nat.blt m 394 then 2 else 6) else (bif Nat.blt m 411 then 7 else (bif Nat.blt m 418 then 5 else 5))))) else (bif Nat.blt m 499 then (bif Nat.blt m 458 then (bif Nat.blt m 443 then (bif Nat.blt m 435 then 6 else 12) else (bif Nat.blt m 450 then 12 else 5)) else (bif Nat.blt m 475 then (bif Nat.blt m 466 then 3 else 3) else (bif Nat.blt m 481 then 4 else (bif Nat.blt m 492 then 4 else 8)))) else (bif Nat.blt m 529 then (bif Nat.blt m 515 then (bif Nat.blt m 507 then 4 else 5) else (bif Nat.blt m 523 then 5 else 4)) else (bif Nat.blt m 547 then (bif Nat.blt m 538 then 1 else 6) else (bif Nat.blt m 553 then 7 else (bif Nat.blt m 561 then 2 else 2))))))) else (bif Nat.blt m 857 then (bif Nat.blt m 713 then (bif Nat.blt m 641 then (bif Nat.blt m 602 then (bif Nat.blt m 584 then (bif Nat.blt m 576 then 1 else 1) else (bif Nat.blt m 593 then 1 else 2)) else (bif Nat.blt m 616 then (bif Nat.blt m 611 then 5 else 3) else (bif Nat.blt m 624 then 1 else (bif Nat.blt m 633 then 2 else 2)))) else (bif Nat.blt m 673 then (bif Nat.blt m 656 then (bif Nat.blt m 649 then 1 else 1) else (bif Nat.blt m 664 then 1 else 1)) else (bif Nat.blt m 690 then (bif Nat.blt m 681 then 3 else 6) else (bif Nat.blt m 697 then 4 else (bif Nat.blt m 704 then 3 else 1))))) else (bif Nat.blt m 785 then (bif Nat.blt m 744 then (bif Nat.blt m 728 then (bif Nat.blt m 720 then 2 else 5) else (bif Nat.blt m 736 then 2 else 1)) else (bif Nat.blt m 762 then (bif Nat.blt m 752 then 3 else 3) else (bif Nat.blt m 770 then 3 else (bif Nat.blt m 778 then 4 else 4)))) else (bif Nat.blt m 817 then (bif Nat.blt m 801 then (bif Nat.blt m 794 then 2 else 3) else (bif Nat.blt m 810 then 1 else 3)) else (bif Nat.blt m 834 then (bif Nat.blt m 826 then 1 else 3) else (bif Nat.blt m 842 then 3 else (bif Nat.blt m 849 then 3 else 1)))))) else (bif Nat.blt m 1001 then (bif Nat.blt m 931 then (bif Nat.blt m 891 then (bif Nat.blt m 876 then (bif Nat.blt m 867 then 4 else 5) else (bif Nat.blt m 882 then 7 else 2)) else (bif Nat.blt m 905 then (bif Nat.blt m 898 then 4 else 3) else (bif Nat.blt m 914 then 2 else (bif Nat.blt m 921 then 3 else 4)))) else (bif Nat.blt m 962 then (bif Nat.blt m 946 then (bif Nat.blt m 938 then 4 else 3) else (bif Nat.blt m 953 then 3 else 2)) else (bif Nat.blt m 977 then (bif Nat.blt m 970 then 3 else 6) else (bif Nat.blt m 985 then 2 else (bif Nat.blt m 993 then 2 else 2))))) else (bif Nat.blt m 1073 then (bif Nat.blt m 1034 then (bif Nat.blt m 1019 then (bif Nat.blt m 1009 then 3 else 5) else (bif Nat.blt m 1027 then 4 else 3)) else (bif Nat.blt m 1049 then (bif Nat.blt m 1041 then 5 else 4) else (bif Nat.blt m 1056 then 3 else (bif Nat.blt m 1065 then 4 else 2)))) else (bif Nat.blt m 1104 then (bif Nat.blt m 1089 then (bif Nat.blt m 1080 then 3 else 1) else (bif Nat.blt m 1096 then 2 else 1)) else (bif Nat.blt m 1121 then (bif Nat.blt m 1114 then 3 else 6) else (bif Nat.blt m 1129 then 2 else (bif Nat.blt m 1136 then 5 else 3)))))))) else (bif Nat.blt m 1713 then (bif Nat.blt m 1427 then (bif Nat.blt m 1283 then (bif Nat.blt m 1210 then (bif Nat.blt m 1178 then (bif Nat.blt m 1162 then (bif Nat.blt m 1154 then 3 else 3) else (bif Nat.blt m 1169 then 6 else 3)) else (bif Nat.blt m 1195 then (bif Nat.blt m 1187 then 2 else 4) else (bif Nat.blt m 1200 then 9 else 3))) else (bif Nat.blt m 1240 then (bif Nat.blt m 1226 then (bif Nat.blt m 1217 then 6 else 1) else (bif Nat.blt m 1233 then 7 else 3)) else (bif Nat.blt m 1258 then (bif Nat.blt m 1251 then 7 else 5) else (bif Nat.blt m 1266 then 5 else (bif Nat.blt m 1275 then 5 else 11))))) else (bif Nat.blt m 1354 then (bif Nat.blt m 1314 then (bif Nat.blt m 1298 then (bif Nat.blt m 1290 then 9 else 6) else (bif Nat.blt m 1306 then 4 else 6)) else (bif Nat.blt m 1331 then (bif Nat.blt m 1322 then 3 else 3) else (bif Nat.blt m 1337 then 5 else (bif Nat.blt m 1348 then 3 else 7)))) else (bif Nat.blt m 1387 then (bif Nat.blt m 1371 then (bif Nat.blt m 1363 then 3 else 5) else (bif Nat.blt m 1379 then 4 else 5)) else (bif Nat.blt m 1402 then (bif Nat.blt m 1394 then 4 else 3) else (bif Nat.blt m 1409 then 4 else (bif Nat.blt m 1418 then 2 else 2)))))) else (bif Nat.blt m 1569 then (bif Nat.blt m 1497 then (bif Nat.blt m 1457 then (bif Nat.blt m 1441 then (bif Nat.blt m 1433 then 6 else 2) else (bif Nat.blt m 1449 then 2 else 2)) else (bif Nat.blt m 1473 then (bif Nat.blt m 1465 then 2 else 3) else (bif Nat.blt m 1481 then 2 else (bif Nat.blt m 1489 then 3 else 2)))) else (bif Nat.blt m 1528 then (bif Nat.blt m 1513 then (bif Nat.blt m 1505 then 3 else 2) else (bif Nat.blt m 1521 then 2 else 2)) else (bif Nat.blt m 1544 then (bif Nat.blt m 1536 then 3 else 3) else (bif Nat.blt m 1552 then 3 else (bif Nat.blt m 1560 then 1 else 1))))) else (bif Nat.blt m 1641 then (bif Nat.blt m 1601 then (bif Nat.blt m 1588 then (bif Nat.blt m 1576 then 2 else 2) else (bif Nat.blt m 1593 then 7 else 2)) else (bif Nat.blt m 1617 then (bif Nat.blt m 1609 then 2 else 4) else (bif Nat.blt m 1626 then 4 else (bif Nat.blt m 1633 then 4 else 2)))) else (bif Nat.blt m 1672 then (bif Nat.blt m 1657 then (bif Nat.blt m 1649 then 2 else 3) else (bif Nat.blt m 1664 then 5 else 7)) else (bif Nat.blt m 1688 then (bif Nat.blt m 1681 then 6 else 2) else (bif Nat.blt m 1696 then 1 else (bif Nat.blt m 1704 then 3 else 3))))))) else (bif Nat.blt m 2002 then (bif Nat.blt m 1857 then (bif Nat.blt m 1784 then (bif Nat.blt m 1744 then (bif Nat.blt m 1730 then (bif Nat.blt m 1722 then 3 else 5) else (bif Nat.blt m 1737 then 3 else 4)) else (bif Nat.blt m 1760 then (bif Nat.blt m 1752 then 3 else 3) else (bif Nat.blt m 1769 then 1 else (bif Nat.blt m 1777 then 2 else 3)))) else (bif Nat.blt m 1817 then (bif Nat.blt m 1801 then (bif Nat.blt m 1793 then 1 else 1) else (bif Nat.blt m 1808 then 1 else 1)) else (bif Nat.blt m 1833 then (bif Nat.blt m 1825 then 3 else 1) else (bif Nat.blt m 1842 then 3 else (bif Nat.blt m 1850 then 6 else 3))))) else (bif Nat.blt m 1930 then (bif Nat.blt m 1888 then (bif Nat.blt m 1873 then (bif Nat.blt m 1864 then 2 else 1) else (bif Nat.blt m 1884 then 4 else 6)) else (bif Nat.blt m 1905 then (bif Nat.blt m 1897 then 2 else 1) else (bif Nat.blt m 1913 then 3 else (bif Nat.blt m 1920 then 2 else 1)))) else (bif Nat.blt m 1960 then (bif Nat.blt m 1946 then (bif Nat.blt m 1937 then 3 else 2) else (bif Nat.blt m 1953 then 3 else 2)) else (bif Nat.blt m 1978 then (bif Nat.blt m 1971 then 1 else 4) else (bif Nat.blt m 1985 then 3 else (bif Nat.blt m 1994 then 2 else 3)))))) else (bif Nat.blt m 2146 then (bif Nat.blt m 2075 then (bif Nat.blt m 2035 then (bif Nat.blt m 2018 then (bif Nat.blt m 2010 then 3 else 4) else (bif Nat.blt m 2024 then 3 else 1)) else (bif Nat.blt m 2049 then (bif Nat.blt m 2042 then 4 else 3) else (bif Nat.blt m 2058 then 2 else (bif Nat.blt m 2064 then 3 else 1)))) else (bif Nat.blt m 2106 then (bif Nat.blt m 2089 then (bif Nat.blt m 2082 then 4 else 3) else (bif Nat.blt m 2098 then 2 else 3)) else (bif Nat.blt m 2123 then (bif Nat.blt m 2112 then 3 else 1) else (bif Nat.blt m 2130 then 4 else (bif Nat.blt m 2137 then 3 else 2))))) else (bif Nat.blt m 2219 then (bif Nat.blt m 2178 then (bif Nat.blt m 2160 then (bif Nat.blt m 2154 then 3 else 3) else (bif Nat.blt m 2171 then 1 else 4)) else (bif Nat.blt m 2194 then (bif Nat.blt m 2185 then 3 else 2) else (bif Nat.blt m 2202 then 3 else (bif Nat.blt m 2208 then 3 else 1)))) else (bif Nat.blt m 2250 then (bif Nat.blt m 2233 then (bif Nat.blt m 2226 then 4 else 3) else (bif Nat.blt m 2242 then 2 else 3)) else (bif Nat.blt m 2265 then (bif Nat.blt m 2257 then 3 else 3) else (bif Nat.blt m 2273 then 2 else (bif Nat.blt m 2281 then 1 else 4)))))))))
def prk (m : Nat) : Nat := (bif Nat.blt m 1144 then (bif Nat.blt m 568 then (bif Nat.blt m 282 then (bif Nat.blt m 137 then (bif Nat.blt m 66 then (bif Nat.blt m 32 then (bif Nat.blt m 18 then (bif Nat.blt m 8 then 0 else 4) else (bif Nat.blt m 27 then 1 else 2)) else (bif Nat.blt m 51 then (bif Nat.blt m 42 then 1 else 1) else (bif Nat.blt m 57 then 1 else 1))) else (bif Nat.blt m 98 then (bif Nat.blt m 82 then (bif Nat.blt m 73 then 1 else 2) else (bif Nat.blt m 89 then 1 else 2)) else (bif Nat.blt m 113 then (bif Nat.blt m 106 then 1 else 1) else (bif Nat.blt m 123 then 2 else (bif Nat.blt m 132 then 1 else 1))))) else (bif Nat.blt m 209 then (bif Nat.blt m 170 then (bif Nat.blt m 153 then (bif Nat.blt m 146 then 2 else 1) else (bif Nat.blt m 163 then 2 else 1)) else (bif Nat.blt m 185 then (bif Nat.blt m 178 then 1 else 1) else (bif Nat.blt m 194 then 1 else (bif Nat.blt m 201 then 1 else 1)))) else (bif Nat.blt m 241 then (bif Nat.blt m 225 then (bif Nat.blt m 218 then 1 else 1) else (bif Nat.blt m 233 then 1 else 1)) else (bif Nat.blt m 256 then (bif Nat.blt m 249 then 1 else 1) else (bif Nat.blt m 266 then 1 else (bif Nat.blt m 273 then 1 else 1)))))) else (bif Nat.blt m 426 then (bif Nat.blt m 354 then (bif Nat.blt m 315 then (bif Nat.blt m 298 then (bif Nat.blt m 288 then 1 else 1) else (bif Nat.blt m 306 then 1 else 0)) else (bif Nat.blt m 331 then (bif Nat.blt m 323 then 0 else 1) else (bif Nat.blt m 339 then 1 else (bif Nat.blt m 344 then 1 else 1)))) else (bif Nat.blt m 384 then (bif Nat.blt m 369 then (bif Nat.blt m 361 then 1 else 2) else (bif Nat.blt m 376 then 0 else 1)) else (bif Nat.blt m 400 then (bif Nat.blt m 394 then 1 else 1) else (bif Nat.blt m 411 then 1 else (bif Nat.blt m 418 then 1 else 3))))) else (bif Nat.blt m 499 then (bif Nat.blt m 458 then (bif Nat.blt m 443 then (bif Nat.blt m 435 then 3 else 3) else (bif Nat.blt m 450 then 3 else 1)) else (bif Nat.blt m 475 then (bif Nat.blt m 466 then 1 else 2) else (bif Nat.blt m 481 then 1 else (bif Nat.blt m 492 then 1 else 1)))) else (bif Nat.blt m 529 then (bif Nat.blt m 515 then (bif Nat.blt m 507 then 1 else 1) else (bif Nat.blt m 523 then 1 else 1)) else (bif Nat.blt m 547 then (bif Nat.blt m 538 then 2 else 1) else (bif Nat.blt m 553 then 1 else (bif Nat.blt m 561 then 1 else 1))))))) else (bif Nat.blt m 857 then (bif Nat.blt m 713 then (bif Nat.blt m 641 then (bif Nat.blt m 602 then (bif Nat.blt m 584 then (bif Nat.blt m 576 then 1 else 1) else (bif Nat.blt m 593 then 0 else 0)) else (bif Nat.blt m 616 then (bif Nat.blt m 611 then 1 else 2) else (bif Nat.blt m 624 then 1 else (bif Nat.blt m 633 then 0 else 1)))) else (bif Nat.blt m 673 then (bif Nat.blt m 656 then (bif Nat.blt m 649 then 2 else 2) else (bif Nat.blt m 664 then 0 else 1)) else (bif Nat.blt m 690 then (bif Nat.blt m 681 then 2 else 0) else (bif Nat.blt m 697 then 1 else (bif Nat.blt m 704 then 0 else 0))))) else (bif Nat.blt m 785 then (bif Nat.blt m 744 then (bif Nat.blt m 728 then (bif Nat.blt m 720 then 2 else 0) else (bif Nat.blt m 736 then 1 else 1)) else (bif Nat.blt m 762 then (bif Nat.blt m 752 then 0 else 0) else (bif Nat.blt m 770 then 0 else (bif Nat.blt m 778 then 1 else 1)))) else (bif Nat.blt m 817 then (bif Nat.blt m 801 then (bif Nat.blt m 794 then 1 else 1) else (bif Nat.blt m 810 then 2 else 1)) else (bif Nat.blt m 834 then (bif Nat.blt m 826 then 2 else 1) else (bif Nat.blt m 842 then 1 else (bif Nat.blt m 849 then 1 else 2)))))) else (bif Nat.blt m 1001 then (bif Nat.blt m 931 then (bif Nat.blt m 891 then (bif Nat.blt m 876 then (bif Nat.blt m 867 then 1 else 1) else (bif Nat.blt m 882 then 1 else 2)) else (bif Nat.blt m 905 then (bif Nat.blt m 898 then 0 else 1) else (bif Nat.blt m 914 then 2 else (bif Nat.blt m 921 then 1 else 1)))) else (bif Nat.blt m 962 then (bif Nat.blt m 946 then (bif Nat.blt m 938 then 1 else 1) else (bif Nat.blt m 953 then 1 else 1)) else (bif Nat.blt m 977 then (bif Nat.blt m 970 then 1 else 1) else (bif Nat.blt m 985 then 1 else (bif Nat.blt m 993 then 1 else 1))))) else (bif Nat.blt m 1073 then (bif Nat.blt m 1034 then (bif Nat.blt m 1019 then (bif Nat.blt m 1009 then 2 else 0) else (bif Nat.blt m 1027 then 0 else 1)) else (bif Nat.blt m 1049 then (bif Nat.blt m 1041 then 1 else 1) else (bif Nat.blt m 1056 then 1 else (bif Nat.blt m 1065 then 0 else 1)))) else (bif Nat.blt m 1104 then (bif Nat.blt m 1089 then (bif Nat.blt m 1080 then 1 else 1) else (bif Nat.blt m 1096 then 1 else 1)) else (bif Nat.blt m 1121 then (bif Nat.blt m 1114 then 1 else 1) else (bif Nat.blt m 1129 then 1 else (bif Nat.blt m 1136 then 1 else 1)))))))) else (bif Nat.blt m 1713 then (bif Nat.blt m 1427 then (bif Nat.blt m 1283 then (bif Nat.blt m 1210 then (bif Nat.blt m 1178 then (bif Nat.blt m 1162 then (bif Nat.blt m 1154 then 1 else 1) else (bif Nat.blt m 1169 then 0 else 1)) else (bif Nat.blt m 1195 then (bif Nat.blt m 1187 then 1 else 1) else (bif Nat.blt m 1200 then 1 else 1))) else (bif Nat.blt m 1240 then (bif Nat.blt m 1226 then (bif Nat.blt m 1217 then 1 else 2) else (bif Nat.blt m 1233 then 1 else 1)) else (bif Nat.blt m 1258 then (bif Nat.blt m 1251 then 1 else 1) else (bif Nat.blt m 1266 then 3 else (bif Nat.blt m 1275 then 3 else 3))))) else (bif Nat.blt m 1354 then (bif Nat.blt m 1314 then (bif Nat.blt m 1298 then (bif Nat.blt m 1290 then 3 else 3) else (bif Nat.blt m 1306 then 1 else 0)) else (bif Nat.blt m 1331 then (bif Nat.blt m 1322 then 1 else 2) else (bif Nat.blt m 1337 then 1 else (bif Nat.blt m 1348 then 1 else 1)))) else (bif Nat.blt m 1387 then (bif Nat.blt m 1371 then (bif Nat.blt m 1363 then 1 else 1) else (bif Nat.blt m 1379 then 1 else 1)) else (bif Nat.blt m 1402 then (bif Nat.blt m 1394 then 1 else 2) else (bif Nat.blt m 1409 then 1 else (bif Nat.blt m 1418 then 1 else 2)))))) else (bif Nat.blt m 1569 then (bif Nat.blt m 1497 then (bif Nat.blt m 1457 then (bif Nat.blt m 1441 then (bif Nat.blt m 1433 then 1 else 1) else (bif Nat.blt m 1449 then 1 else 0)) else (bif Nat.blt m 1473 then (bif Nat.blt m 1465 then 1 else 1) else (bif Nat.blt m 1481 then 1 else (bif Nat.blt m 1489 then 1 else 1)))) else (bif Nat.blt m 1528 then (bif Nat.blt m 1513 then (bif Nat.blt m 1505 then 1 else 1) else (bif Nat.blt m 1521 then 1 else 1)) else (bif Nat.blt m 1544 then (bif Nat.blt m 1536 then 1 else 1) else (bif Nat.blt m 1552 then 1 else (bif Nat.blt m 1560 then 1 else 1))))) else (bif Nat.blt m 1641 then (bif Nat.blt m 1601 then (bif Nat.blt m 1588 then (bif Nat.blt m 1576 then 0 else 0) else (bif Nat.blt m 1593 then 1 else 0)) else (bif Nat.blt m 1617 then (bif Nat.blt m 1609 then 1 else 1) else (bif Nat.blt m 1626 then 1 else (bif Nat.blt m 1633 then 1 else 4)))) else (bif Nat.blt m 1672 then (bif Nat.blt m 1657 then (bif Nat.blt m 1649 then 1 else 2) else (bif Nat.blt m 1664 then 1 else 0)) else (bif Nat.blt m 1688 then (bif Nat.blt m 1681 then 0 else 1) else (bif Nat.blt m 1696 then 1 else (bif Nat.blt m 1704 then 1 else 1))))))) else (bif Nat.blt m 2002 then (bif Nat.blt m 1857 then (bif Nat.blt m 1784 then (bif Nat.blt m 1744 then (bif Nat.blt m 1730 then (bif Nat.blt m 1722 then 1 else 1) else (bif Nat.blt m 1737 then 1 else 1)) else (bif Nat.blt m 1760 then (bif Nat.blt m 1752 then 1 else 1) else (bif Nat.blt m 1769 then 0 else (bif Nat.blt m 1777 then 0 else 2)))) else (bif Nat.blt m 1817 then (bif Nat.blt m 1801 then (bif Nat.blt m 1793 then 0 else 2) else (bif Nat.blt m 1808 then 2 else 0)) else (bif Nat.blt m 1833 then (bif Nat.blt m 1825 then 2 else 4) else (bif Nat.blt m 1842 then 2 else (bif Nat.blt m 1850 then 2 else 2))))) else (bif Nat.blt m 1930 then (bif Nat.blt m 1888 then (bif Nat.blt m 1873 then (bif Nat.blt m 1864 then 2 else 2) else (bif Nat.blt m 1884 then 2 else 2)) else (bif Nat.blt m 1905 then (bif Nat.blt m 1897 then 1 else 4) else (bif Nat.blt m 1913 then 2 else (bif Nat.blt m 1920 then 2 else 0)))) else (bif Nat.blt m 1960 then (bif Nat.blt m 1946 then (bif Nat.blt m 1937 then 0 else 0) else (bif Nat.blt m 1953 then 0 else 3)) else (bif Nat.blt m 1978 then (bif Nat.blt m 1971 then 0 else 1) else (bif Nat.blt m 1985 then 1 else (bif Nat.blt m 1994 then 2 else 1)))))) else (bif Nat.blt m 2146 then (bif Nat.blt m 2075 then (bif Nat.blt m 2035 then (bif Nat.blt m 2018 then (bif Nat.blt m 2010 then 1 else 1) else (bif Nat.blt m 2024 then 1 else 0)) else (bif Nat.blt m 2049 then (bif Nat.blt m 2042 then 1 else 1) else (bif Nat.blt m 2058 then 2 else (bif Nat.blt m 2064 then 1 else 0)))) else (bif Nat.blt m 2106 then (bif Nat.blt m 2089 then (bif Nat.blt m 2082 then 1 else 1) else (bif Nat.blt m 2098 then 2 else 1)) else (bif Nat.blt m 2123 then (bif Nat.blt m 2112 then 1 else 0) else (bif Nat.blt m 2130 then 1 else (bif Nat.blt m 2137 then 1 else 2))))) else (bif Nat.blt m 2219 then (bif Nat.blt m 2178 then (bif Nat.blt m 2160 then (bif Nat.blt m 2154 then 1 else 1) else (bif Nat.blt m 2171 then 0 else 1)) else (bif Nat.blt m 2194 then (bif Nat.blt m 2185 then 1 else 2) else (bif Nat.blt m 2202 then 1 else (bif Nat.blt m 2208 then 1 else 0)))) else (bif Nat.blt m 2250 then (bif Nat.blt m 2233 then (bif Nat.blt m 2226 then 1 else 1) else (bif Nat.blt m 2242 then 2 else 1)) else (bif Nat.blt m 2265 then (bif Nat.blt m 2257 then 1 else 0) else (bif Nat.blt m 2273 then 0 else (bif Nat.blt m 2281 then 1 else 2)))))))))
def cb_0 (b : Nat) : List Instr := (bif Nat.blt b 1 then c_0_0 else (bif Nat.blt b 2 then c_0_1 else c_0_2))
def cb_8 (b : Nat) : List Instr := c_8_0
def cb_18 (b : Nat) : List Instr := (bif Nat.blt b 2 then (bif Nat.blt b 1 then c_18_0 else c_18_1) else (bif Nat.blt b 3 then c_18_2 else (bif Nat.blt b 4 then c_18_3 else c_18_4)))
def cb_27 (b : Nat) : List Instr := (bif Nat.blt b 2 then (bif Nat.blt b 1 then c_27_0 else c_27_1) else (bif Nat.blt b 3 then c_27_2 else c_27_3))
def cb_32 (b : Nat) : List Instr := (bif Nat.blt b 1 then c_32_0 else c_32_1)
def cb_42 (b : Nat) : List Instr := (bif Nat.blt b 1 then c_42_0 else (bif Nat.blt b 2 then c_42_1 else c_42_2))
def cb_51 (b : Nat) : List Instr := c_51_0
def cb_57 (b : Nat) : List Instr := (bif Nat.blt b 1 then c_57_0 else (bif Nat.blt b 2 then c_57_1 else c_57_2))
def cb_66 (b : Nat) : List Instr := (bif Nat.blt b 1 then c_66_0 else (bif Nat.blt b 2 then c_66_1 else c_66_2))
def cb_73 (b : Nat) : List Instr := c_73_0
def cb_82 (b : Nat) : List Instr := (bif Nat.blt b 1 then c_82_0 else (bif Nat.blt b 2 then c_82_1 else c_82_2))
def cb_89 (b : Nat) : List Instr := c_89_0
def cb_98 (b : Nat) : List Instr := (bif Nat.blt b 3 then (bif Nat.blt b 1 then c_98_0 else (bif Nat.blt b 2 then c_98_1 else c_98_2)) else (bif Nat.blt b 4 then c_98_3 else (bif Nat.blt b 5 then c_98_4 else c_98_5)))
def cb_106 (b : Nat) : List Instr := (bif Nat.blt b 3 then (bif Nat.blt b 1 then c_106_0 else (bif Nat.blt b 2 then c_106_1 else c_106_2)) else (bif Nat.blt b 5 then (bif Nat.blt b 4 then c_106_3 else c_106_4) else (bif Nat.blt b 6 then c_106_5 else c_106_6)))
def cb_113 (b : Nat) : List Instr := c_113_0
def cb_123 (b : Nat) : List Instr := (bif Nat.blt b 3 then (bif Nat.blt b 1 then c_123_0 else (bif Nat.blt b 2 then c_123_1 else c_123_2)) else (bif Nat.blt b 5 then (bif Nat.blt b 4 then c_123_3 else c_123_4) else (bif Nat.blt b 6 then c_123_5 else c_123_6)))
def cb_132 (b : Nat) : List Instr := (bif Nat.blt b 2 then (bif Nat.blt b 1 then c_132_0 else c_132_1) else (bif Nat.blt b 3 then c_132_2 else c_132_3))
def cb_137 (b : Nat) : List Instr := c_137_0
def cb_146 (b : Nat) : List Instr := (bif Nat.blt b 5 then (bif Nat.blt b 2 then (bif Nat.blt b 1 then c_146_0 else c_146_1) else (bif Nat.blt b 3 then c_146_2 else (bif Nat.blt b 4 then c_146_3 else c_146_4))) else (bif Nat.blt b 7 then (bif Nat.blt b 6 then c_146_5 else c_146_6) else (bif Nat.blt b 8 then c_146_7 else (bif Nat.blt b 9 then c_146_8 else c_146_9))))
def cb_153 (b : Nat) : List Instr := c_153_0
def cb_163 (b : Nat) : List Instr := (bif Nat.blt b 1 then c_163_0 else (bif Nat.blt b 2 then c_163_1 else c_163_2))
def cb_170 (b : Nat) : List Instr := (bif Nat.blt b 1 then c_170_0 else (bif Nat.blt b 2 then c_170_1 else c_170_2))
def cb_178 (b : Nat) : List Instr := (bif Nat.blt b 1 then c_178_0 else (bif Nat.blt b 2 then c_178_1 else c_178_2))
def cb_185 (b : Nat) : List Instr := (bif Nat.blt b 1 then c_185_0 else (bif Nat.blt b 2 then c_185_1 else c_185_2))
def cb_194 (b : Nat) : List Instr := (bif Nat.blt b 2 then (bif Nat.blt b 1 then c_194_0 else c_194_1) else (bif Nat.blt b 3 then c_194_2 else c_194_3))
def cb_201 (b : Nat) : List Instr := (bif Nat.blt b 1 then c_201_0 else (bif Nat.blt b 2 then c_201_1 else c_201_2))
def cb_209 (b : Nat) : List Instr := (bif Nat.blt b 2 then (bif Nat.blt b 1 then c_209_0 else c_209_1) else (bif Nat.blt b 3 then c_209_2 else c_209_3))
def cb_218 (b : Nat) : List Instr := (bif Nat.blt b 1 then c_218_0 else (bif Nat.blt b 2 then c_218_1 else c_218_2))
def cb_225 (b : Nat) : List Instr := (bif Nat.blt b 2 then (bif Nat.blt b 1 then c_225_0 else c_225_1) else (bif Nat.blt b 3 then c_225_2 else c_225_3))
def cb_233 (b : Nat) : List Instr := (bif Nat.blt b 2 then (bif Nat.blt b 1 then c_233_0 else c_233_1) else (bif Nat.blt b 3 then c_233_2 else c_233_3))
def cb_241 (b : Nat) : List Instr := (bif Nat.blt b 1 then c_241_0 else (bif Nat.blt b 2 then c_241_1 else c_241_2))
def cb_249 (b : Nat) : List Instr := c_249_0
def cb_256 (b : Nat) : List Instr := c_256_0
def cb_266 (b : Nat) : List Instr := (bif Nat.blt b 3 then (bif Nat.blt b 1 then c_266_0 else (bif Nat.blt b 2 then c_266_1 else c_266_2)) else (bif Nat.blt b 4 then c_266_3 else (bif Nat.blt b 5 then c_266_4 else c_266_5)))
def cb_273 (b : Nat) : List Instr := (bif Nat.blt b 4 then (bif Nat.blt b 2 then (bif Nat.blt b 1 then c_273_0 else c_273_1) else (bif Nat.blt b 3 then c_273_2 else c_273_3)) else (bif Nat.blt b 6 then (bif Nat.blt b 5 then c_273_4 else c_273_5) else (bif Nat.blt b 7 then c_273_6 else c_273_7)))
def cb_282 (b : Nat) : List Instr := (bif Nat.blt b 1 then c_282_0 else (bif Nat.blt b 2 then c_282_1 else c_282_2))
def cb_288 (b : Nat) : List Instr := (bif Nat.blt b 2 then (bif Nat.blt b 1 then c_288_0 else c_288_1) else (bif Nat.blt b 3 then c_288_2 else c_288_3))
def cb_298 (b : Nat) : List Instr := (bif Nat.blt b 1 then c_298_0 else (bif Nat.blt b 2 then c_298_1 else c_298_2))
def cb_306 (b : Nat) : List Instr := c_306_0
def cb_315 (b : Nat) : List Instr := (bif Nat.blt b 3 then (bif Nat.blt b 1 then c_315_0 else (bif Nat.blt b 2 then c_315_1 else c_315_2)) else (bif Nat.blt b 5 then (bif Nat.blt b 4 then c_315_3 else c_315_4) else (bif Nat.blt b 6 then c_315_5 else c_315_6)))
def cb_323 (b : Nat) : List Instr := (bif Nat.blt b 2 then (bif Nat.blt b 1 then c_323_0 else c_323_1) else (bif Nat.blt b 3 then c_323_2 else c_323_3))
def cb_331 (b : Nat) : List Instr := (bif Nat.blt b 4 then (bif Nat.blt b 2 then (bif Nat.blt b 1 then c_331_0 else c_331_1) else (bif Nat.blt b 3 then c_331_2 else c_331_3)) else (bif Nat.blt b 6 then (bif Nat.blt b 5 then c_331_4 else c_331_5) else (bif Nat.blt b 7 then c_331_6 else c_331_7)))
def cb_339 (b : Nat) : List Instr := (bif Nat.blt b 1 then c_339_0 else (bif Nat.blt b 2 then c_339_1 else c_339_2))
def cb_344 (b : Nat) : List Instr := (bif Nat.blt b 3 then (bif Nat.blt b 1 then c_344_0 else (bif Nat.blt b 2 then c_344_1 else c_344_2)) else (bif Nat.blt b 4 then c_344_3 else (bif Nat.blt b 5 then c_344_4 else c_344_5)))
def cb_354 (b : Nat) : List Instr := (bif Nat.blt b 3 then (bif Nat.blt b 1 then c_354_0 else (bif Nat.blt b 2 then c_354_1 else c_354_2)) else (bif Nat.blt b 4 then c_354_3 else (bif Nat.blt b 5 then c_354_4 else c_354_5)))
def cb_361 (b : Nat) : List Instr := c_361_0
def cb_369 (b : Nat) : List Instr := (bif Nat.blt b 4 then (bif Nat.blt b 2 then (bif Nat.blt b 1 then c_369_0 else c_369_1) else (bif Nat.blt b 3 then c_369_2 else c_369_3)) else (bif Nat.blt b 6 then (bif Nat.blt b 5 then c_369_4 else c_369_5) else (bif Nat.blt b 7 then c_369_6 else (bif Nat.blt b 8 then c_369_7 else c_369_8))))
def cb_376 (b : Nat) : List Instr := (bif Nat.blt b 2 then (bif Nat.blt b 1 then c_376_0 else c_376_1) else (bif Nat.blt b 3 then c_376_2 else c_376_3))
def cb_384 (b : Nat) : List Instr := (bif Nat.blt b 2 then (bif Nat.blt b 1 then c_384_0 else c_384_1) else (bif Nat.blt b 3 then c_384_2 else c_384_3))
def cb_394 (b : Nat) : List Instr := (bif Nat.blt b 4 then (bif Nat.blt b 2 then (bif Nat.blt b 1 then c_394_0 else c_394_1) else (bif Nat.blt b 3 then c_394_2 else c_394_3)) else (bif Nat.blt b 6 then (bif Nat.blt b 5 then c_394_4 else c_394_5) else (bif Nat.blt b 7 then c_394_6 else (bif Nat.blt b 8 then c_394_7 else c_394_8))))
def cb_400 (b : Nat) : List Instr := (bif Nat.blt b 2 then (bif Nat.blt b 1 then c_400_0 else c_400_1) else (bif Nat.blt b 3 then c_400_2 else c_400_3))
def cb_411 (b : Nat) : List Instr := (bif Nat.blt b 3 then (bif Nat.blt b 1 then c_411_0 else (bif Nat.blt b 2 then c_411_1 else c_411_2)) else (bif Nat.blt b 4 then c_411_3 else (bif Nat.blt b 5 then c_411_4 else c_411_5)))
def cb_418 (b : Nat) : List Instr := (bif Nat.blt b 1 then c_418_0 else (bif Nat.blt b 2 then c_418_1 else c_418_2))
def cb_426 (b : Nat) : List Instr := (bif Nat.blt b 1 then c_426_0 else (bif Nat.blt b 2 then c_426_1 else c_426_2))
def cb_435 (b : Nat) : List Instr := (bif Nat.blt b 3 then (bif Nat.blt b 1 then c_435_0 else (bif Nat.blt b 2 then c_435_1 else c_435_2)) else (bif Nat.blt b 5 then (bif Nat.blt b 4 then c_435_3 else c_435_4) else (bif Nat.blt b 6 then c_435_5 else c_435_6)))
def cb_443 (b : Nat) : List Instr := (bif Nat.blt b 2 then (bif Nat.blt b 1 then c_443_0 else c_443_1) else (bif Nat.blt b 3 then c_443_2 else (bif Nat.blt b 4 then c_443_3 else c_443_4)))
def cb_450 (b : Nat) : List Instr := (bif Nat.blt b 3 then (bif Nat.blt b 1 then c_450_0 else (bif Nat.blt b 2 then c_450_1 else c_450_2)) else (bif Nat.blt b 5 then (bif Nat.blt b 4 then c_450_3 else c_450_4) else (bif Nat.blt b 6 then c_450_5 else c_450_6)))
def cb_458 (b : Nat) : List Instr := (bif Nat.blt b 1 then c_458_0 else (bif Nat.blt b 2 then c_458_1 else c_458_2))
def cb_466 (b : Nat) : List Instr := (bif Nat.blt b 2 then (bif Nat.blt b 1 then c_466_0 else c_466_1) else (bif Nat.blt b 3 then c_466_2 else c_466_3))
def cb_475 (b : Nat) : List Instr := (bif Nat.blt b 1 then c_475_0 else (bif Nat.blt b 2 then c_475_1 else c_475_2))
def cb_481 (b : Nat) : List Instr := (bif Nat.blt b 3 then (bif Nat.blt b 1 then c_481_0 else (bif Nat.blt b 2 then c_481_1 else c_481_2)) else (bif Nat.blt b 5 then (bif Nat.blt b 4 then c_481_3 else c_481_4) else (bif Nat.blt b 6 then c_481_5 else c_481_6)))
def cb_492 (b : Nat) : List Instr := (bif Nat.blt b 4 then (bif Nat.blt b 2 then (bif Nat.blt b 1 then c_492_0 else c_492_1) else (bif Nat.blt b 3 then c_492_2 else c_492_3)) else (bif Nat.blt b 6 then (bif Nat.blt b 5 then c_492_4 else c_492_5) else (bif Nat.blt b 7 then c_492_6 else (bif Nat.blt b 8 then c_492_7 else c_492_8))))
def cb_499 (b : Nat) : List Instr := (bif Nat.blt b 3 then (bif Nat.blt b 1 then c_499_0 else (bif Nat.blt b 2 then c_499_1 else c_499_2)) else (bif Nat.blt b 4 then c_499_3 else (bif Nat.blt b 5 then c_499_4 else c_499_5)))
def cb_507 (b : Nat) : List Instr := (bif Nat.blt b 2 then (bif Nat.blt b 1 then c_507_0 else c_507_1) else (bif Nat.blt b 3 then c_507_2 else c_507_3))
def cb_515 (b : Nat) : List Instr := (bif Nat.blt b 3 then (bif Nat.blt b 1 then c_515_0 else (bif Nat.blt b 2 then c_515_1 else c_515_2)) else (bif Nat.blt b 5 then (bif Nat.blt b 4 then c_515_3 else c_515_4) else (bif Nat.blt b 6 then c_515_5 else c_515_6)))
def cb_523 (b : Nat) : List Instr := (bif Nat.blt b 5 then (bif Nat.blt b 2 then (bif Nat.blt b 1 then c_523_0 else c_523_1) else (bif Nat.blt b 3 then c_523_2 else (bif Nat.blt b 4 then c_523_3 else c_523_4))) else (bif Nat.blt b 7 then (bif Nat.blt b 6 then c_523_5 else c_523_6) else (bif Nat.blt b 8 then c_523_7 else (bif Nat.blt b 9 then c_523_8 else c_523_9))))
def cb_529 (b : Nat) : List Instr := c_529_0
def cb_538 (b : Nat) : List Instr := (bif Nat.blt b 5 then (bif Nat.blt b 2 then (bif Nat.blt b 1 then c_538_0 else c_538_1) else (bif Nat.blt b 3 then c_538_2 else (bif Nat.blt b 4 then c_538_3 else c_538_4))) else (bif Nat.blt b 8 then (bif Nat.blt b 6 then c_538_5 else (bif Nat.blt b 7 then c_538_6 else c_538_7)) else (bif Nat.blt b 9 then c_538_8 else (bif Nat.blt b 10 then c_538_9 else c_538_10))))
def cb_547 (b : Nat) : List Instr := (bif Nat.blt b 5 then (bif Nat.blt b 2 then (bif Nat.blt b 1 then c_547_0 else c_547_1) else (bif Nat.blt b 3 then c_547_2 else (bif Nat.blt b 4 then c_547_3 else c_547_4))) else (bif Nat.blt b 7 then (bif Nat.blt b 6 then c_547_5 else c_547_6) else (bif Nat.blt b 8 then c_547_7 else (bif Nat.blt b 9 then c_547_8 else c_547_9))))
def cb_553 (b : Nat) : List Instr := (bif Nat.blt b 1 then c_553_0 else (bif Nat.blt b 2 then c_553_1 else c_553_2))
def cb_561 (b : Nat) : List Instr := (bif Nat.blt b 4 then (bif Nat.blt b 2 then (bif Nat.blt b 1 then c_561_0 else c_561_1) else (bif Nat.blt b 3 then c_561_2 else c_561_3)) else (bif Nat.blt b 6 then (bif Nat.blt b 5 then c_561_4 else c_561_5) else (bif Nat.blt b 7 then c_561_6 else (bif Nat.blt b 8 then c_561_7 else c_561_8))))
def cb_568 (b : Nat) : List Instr := c_568_0
def cb_576 (b : Nat) : List Instr := (bif Nat.blt b 1 then c_576_0 else c_576_1)
def cb_584 (b : Nat) : List Instr := c_584_0
def cb_593 (b : Nat) : List Instr := (bif Nat.blt b 3 then (bif Nat.blt b 1 then c_593_0 else (bif Nat.blt b 2 then c_593_1 else c_593_2)) else (bif Nat.blt b 5 then (bif Nat.blt b 4 then c_593_3 else c_593_4) else (bif Nat.blt b 6 then c_593_5 else c_593_6)))
def cb_602 (b : Nat) : List Instr := (bif Nat.blt b 2 then (bif Nat.blt b 1 then c_602_0 else c_602_1) else (bif Nat.blt b 3 then c_602_2 else (bif Nat.blt b 4 then c_602_3 else c_602_4)))
def cb_611 (b : Nat) : List Instr := (bif Nat.blt b 1 then c_611_0 else (bif Nat.blt b 2 then c_611_1 else c_611_2))
def cb_616 (b : Nat) : List Instr := (bif Nat.blt b 2 then (bif Nat.blt b 1 then c_616_0 else c_616_1) else (bif Nat.blt b 3 then c_616_2 else c_616_3))
def cb_624 (b : Nat) : List Instr := (bif Nat.blt b 8 then (bif Nat.blt b 4 then (bif Nat.blt b 2 then (bif Nat.blt b 1 then c_624_0 else c_624_1) else (bif Nat.blt b 3 then c_624_2 else c_624_3)) else (bif Nat.blt b 6 then (bif Nat.blt b 5 then c_624_4 else c_624_5) else (bif Nat.blt b 7 then c_624_6 else c_624_7))) else (bif Nat.blt b 12 then (bif Nat.blt b 10 then (bif Nat.blt b 9 then c_624_8 else c_624_9) else (bif Nat.blt b 11 then c_624_10 else c_624_11)) else (bif Nat.blt b 14 then (bif Nat.blt b 13 then c_624_12 else c_624_13) else (bif Nat.blt b 15 then c_624_14 else c_624_15))))
def cb_633 (b : Nat) : List Instr := (bif Nat.blt b 1 then c_633_0 else (bif Nat.blt b 2 then c_633_1 else c_633_2))
def cb_641 (b : Nat) : List Instr := c_641_0
def cb_649 (b : Nat) : List Instr := c_649_0
def cb_656 (b : Nat) : List Instr := (bif Nat.blt b 3 then (bif Nat.blt b 1 then c_656_0 else (bif Nat.blt b 2 then c_656_1 else c_656_2)) else (bif Nat.blt b 5 then (bif Nat.blt b 4 then c_656_3 else c_656_4) else (bif Nat.blt b 6 then c_656_5 else c_656_6)))
def cb_664 (b : Nat) : List Instr := (bif Nat.blt b 4 then (bif Nat.blt b 2 then (bif Nat.blt b 1 then c_664_0 else c_664_1) else (bif Nat.blt b 3 then c_664_2 else c_664_3)) else (bif Nat.blt b 6 then (bif Nat.blt b 5 then c_664_4 else c_664_5) else (bif Nat.blt b 7 then c_664_6 else c_664_7)))
def cb_673 (b : Nat) : List Instr := (bif Nat.blt b 1 then c_673_0 else (bif Nat.blt b 2 then c_673_1 else c_673_2))
def cb_681 (b : Nat) : List Instr := (bif Nat.blt b 2 then (bif Nat.blt b 1 then c_681_0 else c_681_1) else (bif Nat.blt b 3 then c_681_2 else (bif Nat.blt b 4 then c_681_3 else c_681_4)))
def cb_690 (b : Nat) : List Instr := (bif Nat.blt b 2 then (bif Nat.blt b 1 then c_690_0 else c_690_1) else (bif Nat.blt b 3 then c_690_2 else c_690_3))
def cb_697 (b : Nat) : List Instr := (bif Nat.blt b 2 then (bif Nat.blt b 1 then c_697_0 else c_697_1) else (bif Nat.blt b 3 then c_697_2 else c_697_3))
def cb_704 (b : Nat) : List Instr := (bif Nat.blt b 2 then (bif Nat.blt b 1 then c_704_0 else c_704_1) else (bif Nat.blt b 3 then c_704_2 else c_704_3))
def cb_713 (b : Nat) : List Instr := (bif Nat.blt b 1 then c_713_0 else (bif Nat.blt b 2 then c_713_1 else c_713_2))
def cb_720 (b : Nat) : List Instr := (bif Nat.blt b 4 then (bif Nat.blt b 2 then (bif Nat.blt b 1 then c_720_0 else c_720_1) else (bif Nat.blt b 3 then c_720_2 else c_720_3)) else (bif Nat.blt b 6 then (bif Nat.blt b 5 then c_720_4 else c_720_5) else (bif Nat.blt b 7 then c_720_6 else c_720_7)))
def cb_728 (b : Nat) : List Instr := (bif Nat.blt b 2 then (bif Nat.blt b 1 then c_728_0 else c_728_1) else (bif Nat.blt b 3 then c_728_2 else c_728_3))
def cb_736 (b : Nat) : List Instr := (bif Nat.blt b 3 then (bif Nat.blt b 1 then c_736_0 else (bif Nat.blt b 2 then c_736_1 else c_736_2)) else (bif Nat.blt b 5 then (bif Nat.blt b 4 then c_736_3 else c_736_4) else (bif Nat.blt b 6 then c_736_5 else c_736_6)))
def cb_744 (b : Nat) : List Instr := (bif Nat.blt b 1 then c_744_0 else c_744_1)
def cb_752 (b : Nat) : List Instr := (bif Nat.blt b 1 then c_752_0 else c_752_1)
def cb_762 (b : Nat) : List Instr := (bif Nat.blt b 1 then c_762_0 else (bif Nat.blt b 2 then c_762_1 else c_762_2))
def cb_770 (b : Nat) : List Instr := (bif Nat.blt b 3 then (bif Nat.blt b 1 then c_770_0 else (bif Nat.blt b 2 then c_770_1 else c_770_2)) else (bif Nat.blt b 5 then (bif Nat.blt b 4 then c_770_3 else c_770_4) else (bif Nat.blt b 6 then c_770_5 else c_770_6)))
def cb_778 (b : Nat) : List Instr := c_778_0
def cb_785 (b : Nat) : List Instr := (bif Nat.blt b 1 then c_785_0 else (bif Nat.blt b 2 then c_785_1 else c_785_2))
def cb_794 (b : Nat) : List Instr := (bif Nat.blt b 1 then c_794_0 else (bif Nat.blt b 2 then c_794_1 else c_794_2))
def cb_801 (b : Nat) : List Instr := c_801_0
def cb_810 (b : Nat) : List Instr := (bif Nat.blt b 1 then c_810_0 else (bif Nat.blt b 2 then c_810_1 else c_810_2))
def cb_817 (b : Nat) : List Instr := c_817_0
def cb_826 (b : Nat) : List Instr := (bif Nat.blt b 2 then (bif Nat.blt b 1 then c_826_0 else c_826_1) else (bif Nat.blt b 3 then c_826_2 else (bif Nat.blt b 4 then c_826_3 else c_826_4)))
def cb_834 (b : Nat) : List Instr := c_834_0
def cb_842 (b : Nat) : List Instr := (bif Nat.blt b 2 then (bif Nat.blt b 1 then c_842_0 else c_842_1) else (bif Nat.blt b 3 then c_842_2 else (bif Nat.blt b 4 then c_842_3 else c_842_4)))
def cb_849 (b : Nat) : List Instr := c_849_0
def cb_857 (b : Nat) : List Instr := (bif Nat.blt b 1 then c_857_0 else (bif Nat.blt b 2 then c_857_1 else c_857_2))
def cb_867 (b : Nat) : List Instr := (bif Nat.blt b 3 then (bif Nat.blt b 1 then c_867_0 else (bif Nat.blt b 2 then c_867_1 else c_867_2)) else (bif Nat.blt b 5 then (bif Nat.blt b 4 then c_867_3 else c_867_4) else (bif Nat.blt b 6 then c_867_5 else c_867_6)))
def cb_876 (b : Nat) : List Instr := (bif Nat.blt b 3 then (bif Nat.blt b 1 then c_876_0 else (bif Nat.blt b 2 then c_876_1 else c_876_2)) else (bif Nat.blt b 4 then c_876_3 else (bif Nat.blt b 5 then c_876_4 else c_876_5)))
def cb_882 (b : Nat) : List Instr := (bif Nat.blt b 1 then c_882_0 else (bif Nat.blt b 2 then c_882_1 else c_882_2))
def cb_891 (b : Nat) : List Instr := c_891_0
def cb_898 (b : Nat) : List Instr := (bif Nat.blt b 2 then (bif Nat.blt b 1 then c_898_0 else c_898_1) else (bif Nat.blt b 3 then c_898_2 else (bif Nat.blt b 4 then c_898_3 else c_898_4)))
def cb_905 (b : Nat) : List Instr := c_905_0
def cb_914 (b : Nat) : List Instr := c_914_0
def cb_921 (b : Nat) : List Instr := (bif Nat.blt b 1 then c_921_0 else (bif Nat.blt b 2 then c_921_1 else c_921_2))
def cb_931 (b : Nat) : List Instr := (bif Nat.blt b 1 then c_931_0 else (bif Nat.blt b 2 then c_931_1 else c_931_2))
def cb_938 (b : Nat) : List Instr := (bif Nat.blt b 1 then c_938_0 else (bif Nat.blt b 2 then c_938_1 else c_938_2))
def cb_946 (b : Nat) : List Instr := (bif Nat.blt b 1 then c_946_0 else (bif Nat.blt b 2 then c_946_1 else c_946_2))
def cb_953 (b : Nat) : List Instr := (bif Nat.blt b 1 then c_953_0 else (bif Nat.blt b 2 then c_953_1 else c_953_2))
def cb_962 (b : Nat) : List Instr := (bif Nat.blt b 1 then c_962_0 else (bif Nat.blt b 2 then c_962_1 else c_962_2))
def cb_970 (b : Nat) : List Instr := (bif Nat.blt b 6 then (bif Nat.blt b 3 then (bif Nat.blt b 1 then c_970_0 else (bif Nat.blt b 2 then c_970_1 else c_970_2)) else (bif Nat.blt b 4 then c_970_3 else (bif Nat.blt b 5 then c_970_4 else c_970_5))) else (bif Nat.blt b 9 then (bif Nat.blt b 7 then c_970_6 else (bif Nat.blt b 8 then c_970_7 else c_970_8)) else (bif Nat.blt b 11 then (bif Nat.blt b 10 then c_970_9 else c_970_10) else (bif Nat.blt b 12 then c_970_11 else c_970_12))))
def cb_977 (b : Nat) : List Instr := (bif Nat.blt b 1 then c_977_0 else (bif Nat.blt b 2 then c_977_1 else c_977_2))
def cb_985 (b : Nat) : List Instr := (bif Nat.blt b 4 then (bif Nat.blt b 2 then (bif Nat.blt b 1 then c_985_0 else c_985_1) else (bif Nat.blt b 3 then c_985_2 else c_985_3)) else (bif Nat.blt b 6 then (bif Nat.blt b 5 then c_985_4 else c_985_5) else (bif Nat.blt b 7 then c_985_6 else c_985_7)))
def cb_993 (b : Nat) : List Instr := (bif Nat.blt b 1 then c_993_0 else (bif Nat.blt b 2 then c_993_1 else c_993_2))
def cb_1001 (b : Nat) : List Instr := (bif Nat.blt b 1 then c_1001_0 else (bif Nat.blt b 2 then c_1001_1 else c_1001_2))
def cb_1009 (b : Nat) : List Instr := (bif Nat.blt b 3 then (bif Nat.blt b 1 then c_1009_0 else (bif Nat.blt b 2 then c_1009_1 else c_1009_2)) else (bif Nat.blt b 5 then (bif Nat.blt b 4 then c_1009_3 else c_1009_4) else (bif Nat.blt b 6 then c_1009_5 else c_1009_6)))
def cb_1019 (b : Nat) : List Instr := c_1019_0
def cb_1027 (b : Nat) : List Instr := (bif Nat.blt b 2 then (bif Nat.blt b 1 then c_1027_0 else c_1027_1) else (bif Nat.blt b 3 then c_1027_2 else c_1027_3))
def cb_1034 (b : Nat) : List Instr := (bif Nat.blt b 1 then c_1034_0 else (bif Nat.blt b 2 then c_1034_1 else c_1034_2))
def cb_1041 (b : Nat) : List Instr := (bif Nat.blt b 2 then (bif Nat.blt b 1 then c_1041_0 else c_1041_1) else (bif Nat.blt b 3 then c_1041_2 else c_1041_3))
def cb_1049 (b : Nat) : List Instr := (bif Nat.blt b 2 then (bif Nat.blt b 1 then c_1049_0 else c_1049_1) else (bif Nat.blt b 3 then c_1049_2 else c_1049_3))
def cb_1056 (b : Nat) : List Instr := (bif Nat.blt b 4 then (bif Nat.blt b 2 then (bif Nat.blt b 1 then c_1056_0 else c_1056_1) else (bif Nat.blt b 3 then c_1056_2 else c_1056_3)) else (bif Nat.blt b 6 then (bif Nat.blt b 5 then c_1056_4 else c_1056_5) else (bif Nat.blt b 7 then c_1056_6 else (bif Nat.blt b 8 then c_1056_7 else c_1056_8))))
def cb_1065 (b : Nat) : List Instr := (bif Nat.blt b 1 then c_1065_0 else (bif Nat.blt b 2 then c_1065_1 else c_1065_2))
def cb_1073 (b : Nat) : List Instr := (bif Nat.blt b 2 then (bif Nat.blt b 1 then c_1073_0 else c_1073_1) else (bif Nat.blt b 3 then c_1073_2 else c_1073_3))
def cb_1080 (b : Nat) : List Instr := c_1080_0
def cb_1089 (b : Nat) : List Instr := c_1089_0
def cb_1096 (b : Nat) : List Instr := c_1096_0
def cb_1104 (b : Nat) : List Instr := (bif Nat.blt b 1 then c_1104_0 else (bif Nat.blt b 2 then c_1104_1 else c_1104_2))
def cb_1114 (b : Nat) : List Instr := (bif Nat.blt b 3 then (bif Nat.blt b 1 then c_1114_0 else (bif Nat.blt b 2 then c_1114_1 else c_1114_2)) else (bif Nat.blt b 5 then (bif Nat.blt b 4 then c_1114_3 else c_1114_4) else (bif Nat.blt b 6 then c_1114_5 else c_1114_6)))
def cb_1121 (b : Nat) : List Instr := (bif Nat.blt b 3 then (bif Nat.blt b 1 then c_1121_0 else (bif Nat.blt b 2 then c_1121_1 else c_1121_2)) else (bif Nat.blt b 5 then (bif Nat.blt b 4 then c_1121_3 else c_1121_4) else (bif Nat.blt b 6 then c_1121_5 else c_1121_6)))
def cb_1129 (b : Nat) : List Instr := (bif Nat.blt b 3 then (bif Nat.blt b 1 then c_1129_0 else (bif Nat.blt b 2 then c_1129_1 else c_1129_2)) else (bif Nat.blt b 5 then (bif Nat.blt b 4 then c_1129_3 else c_1129_4) else (bif Nat.blt b 6 then c_1129_5 else c_1129_6)))
def cb_1136 (b : Nat) : List Instr := (bif Nat.blt b 2 then (bif Nat.blt b 1 then c_1136_0 else c_1136_1) else (bif Nat.blt b 3 then c_1136_2 else (bif Nat.blt b 4 then c_1136_3 else c_1136_4)))
def cb_1144 (b : Nat) : List Instr := (bif Nat.blt b 2 then (bif Nat.blt b 1 then c_1144_0 else c_1144_1) else (bif Nat.blt b 3 then c_1144_2 else (bif Nat.blt b 4 then c_1144_3 else c_1144_4)))
def cb_1154 (b : Nat) : List Instr := (bif Nat.blt b 1 then c_1154_0 else (bif Nat.blt b 2 then c_1154_1 else c_1154_2))
def cb_1162 (b : Nat) : List Instr := (bif Nat.blt b 3 then (bif Nat.blt b 1 then c_1162_0 else (bif Nat.blt b 2 then c_1162_1 else c_1162_2)) else (bif Nat.blt b 5 then (bif Nat.blt b 4 then c_1162_3 else c_1162_4) else (bif Nat.blt b 6 then c_1162_5 else c_1162_6)))
def cb_1169 (b : Nat) : List Instr := (bif Nat.blt b 1 then c_1169_0 else (bif Nat.blt b 2 then c_1169_1 else c_1169_2))
def cb_1178 (b : Nat) : List Instr := (bif Nat.blt b 3 then (bif Nat.blt b 1 then c_1178_0 else (bif Nat.blt b 2 then c_1178_1 else c_1178_2)) else (bif Nat.blt b 5 then (bif Nat.blt b 4 then c_1178_3 else c_1178_4) else (bif Nat.blt b 6 then c_1178_5 else c_1178_6)))
def cb_1187 (b : Nat) : List Instr := (bif Nat.blt b 2 then (bif Nat.blt b 1 then c_1187_0 else c_1187_1) else (bif Nat.blt b 3 then c_1187_2 else (bif Nat.blt b 4 then c_1187_3 else c_1187_4)))
def cb_1195 (b : Nat) : List Instr := (bif Nat.blt b 6 then (bif Nat.blt b 3 then (bif Nat.blt b 1 then c_1195_0 else (bif Nat.blt b 2 then c_1195_1 else c_1195_2)) else (bif Nat.blt b 4 then c_1195_3 else (bif Nat.blt b 5 then c_1195_4 else c_1195_5))) else (bif Nat.blt b 9 then (bif Nat.blt b 7 then c_1195_6 else (bif Nat.blt b 8 then c_1195_7 else c_1195_8)) else (bif Nat.blt b 11 then (bif Nat.blt b 10 then c_1195_9 else c_1195_10) else (bif Nat.blt b 12 then c_1195_11 else c_1195_12))))
def cb_1200 (b : Nat) : List Instr := (bif Nat.blt b 3 then (bif Nat.blt b 1 then c_1200_0 else (bif Nat.blt b 2 then c_1200_1 else c_1200_2)) else (bif Nat.blt b 5 then (bif Nat.blt b 4 then c_1200_3 else c_1200_4) else (bif Nat.blt b 6 then c_1200_5 else c_1200_6)))
def cb_1210 (b : Nat) : List Instr := (bif Nat.blt b 10 then (bif Nat.blt b 5 then (bif Nat.blt b 2 then (bif Nat.blt b 1 then c_1210_0 else c_1210_1) else (bif Nat.blt b 3 then c_1210_2 else (bif Nat.blt b 4 then c_1210_3 else c_1210_4))) else (bif Nat.blt b 7 then (bif Nat.blt b 6 then c_1210_5 else c_1210_6) else (bif Nat.blt b 8 then c_1210_7 else (bif Nat.blt b 9 then c_1210_8 else c_1210_9)))) else (bif Nat.blt b 15 then (bif Nat.blt b 12 then (bif Nat.blt b 11 then c_1210_10 else c_1210_11) else (bif Nat.blt b 13 then c_1210_12 else (bif Nat.blt b 14 then c_1210_13 else c_1210_14))) else (bif Nat.blt b 17 then (bif Nat.blt b 16 then c_1210_15 else c_1210_16) else (bif Nat.blt b 18 then c_1210_17 else (bif Nat.blt b 19 then c_1210_18 else c_1210_19)))))
def cb_1217 (b : Nat) : List Instr := c_1217_0
def cb_1226 (b : Nat) : List Instr := (bif Nat.blt b 8 then (bif Nat.blt b 4 then (bif Nat.blt b 2 then (bif Nat.blt b 1 then c_1226_0 else c_1226_1) else (bif Nat.blt b 3 then c_1226_2 else c_1226_3)) else (bif Nat.blt b 6 then (bif Nat.blt b 5 then c_1226_4 else c_1226_5) else (bif Nat.blt b 7 then c_1226_6 else c_1226_7))) else (bif Nat.blt b 12 then (bif Nat.blt b 10 then (bif Nat.blt b 9 then c_1226_8 else c_1226_9) else (bif Nat.blt b 11 then c_1226_10 else c_1226_11)) else (bif Nat.blt b 14 then (bif Nat.blt b 13 then c_1226_12 else c_1226_13) else (bif Nat.blt b 15 then c_1226_14 else c_1226_15))))
def cb_1233 (b : Nat) : List Instr := (bif Nat.blt b 1 then c_1233_0 else (bif Nat.blt b 2 then c_1233_1 else c_1233_2))
def cb_1240 (b : Nat) : List Instr := (bif Nat.blt b 2 then (bif Nat.blt b 1 then c_1240_0 else c_1240_1) else (bif Nat.blt b 3 then c_1240_2 else (bif Nat.blt b 4 then c_1240_3 else c_1240_4)))
def cb_1251 (b : Nat) : List Instr := (bif Nat.blt b 3 then (bif Nat.blt b 1 then c_1251_0 else (bif Nat.blt b 2 then c_1251_1 else c_1251_2)) else (bif Nat.blt b 5 then (bif Nat.blt b 4 then c_1251_3 else c_1251_4) else (bif Nat.blt b 6 then c_1251_5 else c_1251_6)))
def cb_1258 (b : Nat) : List Instr := (bif Nat.blt b 1 then c_1258_0 else (bif Nat.blt b 2 then c_1258_1 else c_1258_2))
def cb_1266 (b : Nat) : List Instr := (bif Nat.blt b 1 then c_1266_0 else (bif Nat.blt b 2 then c_1266_1 else c_1266_2))
def cb_1275 (b : Nat) : List Instr := (bif Nat.blt b 2 then (bif Nat.blt b 1 then c_1275_0 else c_1275_1) else (bif Nat.blt b 3 then c_1275_2 else (bif Nat.blt b 4 then c_1275_3 else c_1275_4)))
def cb_1283 (b : Nat) : List Instr := (bif Nat.blt b 2 then (bif Nat.blt b 1 then c_1283_0 else c_1283_1) else (bif Nat.blt b 3 then c_1283_2 else (bif Nat.blt b 4 then c_1283_3 else c_1283_4)))
def cb_1290 (b : Nat) : List Instr := (bif Nat.blt b 1 then c_1290_0 else (bif Nat.blt b 2 then c_1290_1 else c_1290_2))
def cb_1298 (b : Nat) : List Instr := (bif Nat.blt b 2 then (bif Nat.blt b 1 then c_1298_0 else c_1298_1) else (bif Nat.blt b 3 then c_1298_2 else (bif Nat.blt b 4 then c_1298_3 else c_1298_4)))
def cb_1306 (b : Nat) : List Instr := (bif Nat.blt b 3 then (bif Nat.blt b 1 then c_1306_0 else (bif Nat.blt b 2 then c_1306_1 else c_1306_2)) else (bif Nat.blt b 5 then (bif Nat.blt b 4 then c_1306_3 else c_1306_4) else (bif Nat.blt b 6 then c_1306_5 else c_1306_6)))
def cb_1314 (b : Nat) : List Instr := (bif Nat.blt b 1 then c_1314_0 else (bif Nat.blt b 2 then c_1314_1 else c_1314_2))
def cb_1322 (b : Nat) : List Instr := (bif Nat.blt b 1 then c_1322_0 else (bif Nat.blt b 2 then c_1322_1 else c_1322_2))
def cb_1331 (b : Nat) : List Instr := (bif Nat.blt b 1 then c_1331_0 else c_1331_1)
def cb_1337 (b : Nat) : List Instr := (bif Nat.blt b 2 then (bif Nat.blt b 1 then c_1337_0 else c_1337_1) else (bif Nat.blt b 3 then c_1337_2 else (bif Nat.blt b 4 then c_1337_3 else c_1337_4)))
def cb_1348 (b : Nat) : List Instr := (bif Nat.blt b 4 then (bif Nat.blt b 2 then (bif Nat.blt b 1 then c_1348_0 else c_1348_1) else (bif Nat.blt b 3 then c_1348_2 else c_1348_3)) else (bif Nat.blt b 6 then (bif Nat.blt b 5 then c_1348_4 else c_1348_5) else (bif Nat.blt b 7 then c_1348_6 else c_1348_7)))
def cb_1354 (b : Nat) : List Instr := (bif Nat.blt b 2 then (bif Nat.blt b 1 then c_1354_0 else c_1354_1) else (bif Nat.blt b 3 then c_1354_2 else c_1354_3))
def cb_1363 (b : Nat) : List Instr := (bif Nat.blt b 4 then (bif Nat.blt b 2 then (bif Nat.blt b 1 then c_1363_0 else c_1363_1) else (bif Nat.blt b 3 then c_1363_2 else c_1363_3)) else (bif Nat.blt b 6 then (bif Nat.blt b 5 then c_1363_4 else c_1363_5) else (bif Nat.blt b 7 then c_1363_6 else c_1363_7)))
def cb_1371 (b : Nat) : List Instr := (bif Nat.blt b 3 then (bif Nat.blt b 1 then c_1371_0 else (bif Nat.blt b 2 then c_1371_1 else c_1371_2)) else (bif Nat.blt b 5 then (bif Nat.blt b 4 then c_1371_3 else c_1371_4) else (bif Nat.blt b 6 then c_1371_5 else c_1371_6)))
def cb_1379 (b : Nat) : List Instr := (bif Nat.blt b 3 then (bif Nat.blt b 1 then c_1379_0 else (bif Nat.blt b 2 then c_1379_1 else c_1379_2)) else (bif Nat.blt b 4 then c_1379_3 else (bif Nat.blt b 5 then c_1379_4 else c_1379_5)))
def cb_1387 (b : Nat) : List Instr := (bif Nat.blt b 5 then (bif Nat.blt b 2 then (bif Nat.blt b 1 then c_1387_0 else c_1387_1) else (bif Nat.blt b 3 then c_1387_2 else (bif Nat.blt b 4 then c_1387_3 else c_1387_4))) else (bif Nat.blt b 7 then (bif Nat.blt b 6 then c_1387_5 else c_1387_6) else (bif Nat.blt b 8 then c_1387_7 else (bif Nat.blt b 9 then c_1387_8 else c_1387_9))))
def cb_1394 (b : Nat) : List Instr := (bif Nat.blt b 2 then (bif Nat.blt b 1 then c_1394_0 else c_1394_1) else (bif Nat.blt b 3 then c_1394_2 else (bif Nat.blt b 4 then c_1394_3 else c_1394_4)))
def cb_1402 (b : Nat) : List Instr := (bif Nat.blt b 4 then (bif Nat.blt b 2 then (bif Nat.blt b 1 then c_1402_0 else c_1402_1) else (bif Nat.blt b 3 then c_1402_2 else c_1402_3)) else (bif Nat.blt b 6 then (bif Nat.blt b 5 then c_1402_4 else c_1402_5) else (bif Nat.blt b 7 then c_1402_6 else (bif Nat.blt b 8 then c_1402_7 else c_1402_8))))
def cb_1409 (b : Nat) : List Instr := (bif Nat.blt b 3 then (bif Nat.blt b 1 then c_1409_0 else (bif Nat.blt b 2 then c_1409_1 else c_1409_2)) else (bif Nat.blt b 4 then c_1409_3 else (bif Nat.blt b 5 then c_1409_4 else c_1409_5)))
def cb_1418 (b : Nat) : List Instr := (bif Nat.blt b 2 then (bif Nat.blt b 1 then c_1418_0 else c_1418_1) else (bif Nat.blt b 3 then c_1418_2 else (bif Nat.blt b 4 then c_1418_3 else c_1418_4)))
def cb_1427 (b : Nat) : List Instr := (bif Nat.blt b 5 then (bif Nat.blt b 2 then (bif Nat.blt b 1 then c_1427_0 else c_1427_1) else (bif Nat.blt b 3 then c_1427_2 else (bif Nat.blt b 4 then c_1427_3 else c_1427_4))) else (bif Nat.blt b 8 then (bif Nat.blt b 6 then c_1427_5 else (bif Nat.blt b 7 then c_1427_6 else c_1427_7)) else (bif Nat.blt b 9 then c_1427_8 else (bif Nat.blt b 10 then c_1427_9 else c_1427_10))))
def cb_1433 (b : Nat) : List Instr := (bif Nat.blt b 2 then (bif Nat.blt b 1 then c_1433_0 else c_1433_1) else (bif Nat.blt b 3 then c_1433_2 else (bif Nat.blt b 4 then c_1433_3 else c_1433_4)))
def cb_1441 (b : Nat) : List Instr := c_1441_0
def cb_1449 (b : Nat) : List Instr := (bif Nat.blt b 1 then c_1449_0 else c_1449_1)
def cb_1457 (b : Nat) : List Instr := c_1457_0
def cb_1465 (b : Nat) : List Instr := (bif Nat.blt b 2 then (bif Nat.blt b 1 then c_1465_0 else c_1465_1) else (bif Nat.blt b 3 then c_1465_2 else c_1465_3))
def cb_1473 (b : Nat) : List Instr := c_1473_0
def cb_1481 (b : Nat) : List Instr := (bif Nat.blt b 2 then (bif Nat.blt b 1 then c_1481_0 else c_1481_1) else (bif Nat.blt b 3 then c_1481_2 else (bif Nat.blt b 4 then c_1481_3 else c_1481_4)))
def cb_1489 (b : Nat) : List Instr := (bif Nat.blt b 1 then c_1489_0 else c_1489_1)
def cb_1497 (b : Nat) : List Instr := (bif Nat.blt b 2 then (bif Nat.blt b 1 then c_1497_0 else c_1497_1) else (bif Nat.blt b 3 then c_1497_2 else c_1497_3))
def cb_1505 (b : Nat) : List Instr := c_1505_0
def cb_1513 (b : Nat) : List Instr := (bif Nat.blt b 1 then c_1513_0 else (bif Nat.blt b 2 then c_1513_1 else c_1513_2))
def cb_1521 (b : Nat) : List Instr := (bif Nat.blt b 4 then (bif Nat.blt b 2 then (bif Nat.blt b 1 then c_1521_0 else c_1521_1) else (bif Nat.blt b 3 then c_1521_2 else c_1521_3)) else (bif Nat.blt b 6 then (bif Nat.blt b 5 then c_1521_4 else c_1521_5) else (bif Nat.blt b 7 then c_1521_6 else (bif Nat.blt b 8 then c_1521_7 else c_1521_8))))
def cb_1528 (b : Nat) : List Instr := (bif Nat.blt b 2 then (bif Nat.blt b 1 then c_1528_0 else c_1528_1) else (bif Nat.blt b 3 then c_1528_2 else (bif Nat.blt b 4 then c_1528_3 else c_1528_4)))
def cb_1536 (b : Nat) : List Instr := (bif Nat.blt b 1 then c_1536_0 else (bif Nat.blt b 2 then c_1536_1 else c_1536_2))
def cb_1544 (b : Nat) : List Instr := (bif Nat.blt b 2 then (bif Nat.blt b 1 then c_1544_0 else c_1544_1) else (bif Nat.blt b 3 then c_1544_2 else (bif Nat.blt b 4 then c_1544_3 else c_1544_4)))
def cb_1552 (b : Nat) : List Instr := c_1552_0
def cb_1560 (b : Nat) : List Instr := (bif Nat.blt b 1 then c_1560_0 else c_1560_1)
def cb_1569 (b : Nat) : List Instr := c_1569_0
def cb_1576 (b : Nat) : List Instr := (bif Nat.blt b 3 then (bif Nat.blt b 1 then c_1576_0 else (bif Nat.blt b 2 then c_1576_1 else c_1576_2)) else (bif Nat.blt b 5 then (bif Nat.blt b 4 then c_1576_3 else c_1576_4) else (bif Nat.blt b 6 then c_1576_5 else c_1576_6)))
def cb_1588 (b : Nat) : List Instr := (bif Nat.blt b 1 then c_1588_0 else (bif Nat.blt b 2 then c_1588_1 else c_1588_2))
def cb_1593 (b : Nat) : List Instr := c_1593_0
def cb_1601 (b : Nat) : List Instr := c_1601_0
def cb_1609 (b : Nat) : List Instr := (bif Nat.blt b 1 then c_1609_0 else (bif Nat.blt b 2 then c_1609_1 else c_1609_2))
def cb_1617 (b : Nat) : List Instr := (bif Nat.blt b 1 then c_1617_0 else (bif Nat.blt b 2 then c_1617_1 else c_1617_2))
def cb_1626 (b : Nat) : List Instr := c_1626_0
def cb_1633 (b : Nat) : List Instr := c_1633_0
def cb_1641 (b : Nat) : List Instr := c_1641_0
def cb_1649 (b : Nat) : List Instr := (bif Nat.blt b 1 then c_1649_0 else (bif Nat.blt b 2 then c_1649_1 else c_1649_2))
def cb_1657 (b : Nat) : List Instr := (bif Nat.blt b 2 then (bif Nat.blt b 1 then c_1657_0 else c_1657_1) else (bif Nat.blt b 3 then c_1657_2 else (bif Nat.blt b 4 then c_1657_3 else c_1657_4)))
def cb_1664 (b : Nat) : List Instr := (bif Nat.blt b 3 then (bif Nat.blt b 1 then c_1664_0 else (bif Nat.blt b 2 then c_1664_1 else c_1664_2)) else (bif Nat.blt b 5 then (bif Nat.blt b 4 then c_1664_3 else c_1664_4) else (bif Nat.blt b 6 then c_1664_5 else c_1664_6)))
def cb_1672 (b : Nat) : List Instr := (bif Nat.blt b 1 then c_1672_0 else (bif Nat.blt b 2 then c_1672_1 else c_1672_2))
def cb_1681 (b : Nat) : List Instr := (bif Nat.blt b 1 then c_1681_0 else (bif Nat.blt b 2 then c_1681_1 else c_1681_2))
def cb_1688 (b : Nat) : List Instr := c_1688_0
def cb_1696 (b : Nat) : List Instr := (bif Nat.blt b 1 then c_1696_0 else (bif Nat.blt b 2 then c_1696_1 else c_1696_2))
def cb_1704 (b : Nat) : List Instr := (bif Nat.blt b 2 then (bif Nat.blt b 1 then c_1704_0 else c_1704_1) else (bif Nat.blt b 3 then c_1704_2 else c_1704_3))
def cb_1713 (b : Nat) : List Instr := c_1713_0
def cb_1722 (b : Nat) : List Instr := (bif Nat.blt b 2 then (bif Nat.blt b 1 then c_1722_0 else c_1722_1) else (bif Nat.blt b 3 then c_1722_2 else c_1722_3))
def cb_1730 (b : Nat) : List Instr := (bif Nat.blt b 2 then (bif Nat.blt b 1 then c_1730_0 else c_1730_1) else (bif Nat.blt b 3 then c_1730_2 else c_1730_3))
def cb_1737 (b : Nat) : List Instr := (bif Nat.blt b 2 then (bif Nat.blt b 1 then c_1737_0 else c_1737_1) else (bif Nat.blt b 3 then c_1737_2 else c_1737_3))
def cb_1744 (b : Nat) : List Instr := (bif Nat.blt b 2 then (bif Nat.blt b 1 then c_1744_0 else c_1744_1) else (bif Nat.blt b 3 then c_1744_2 else c_1744_3))
def cb_1752 (b : Nat) : List Instr := (bif Nat.blt b 2 then (bif Nat.blt b 1 then c_1752_0 else c_1752_1) else (bif Nat.blt b 3 then c_1752_2 else c_1752_3))
def cb_1760 (b : Nat) : List Instr := c_1760_0
def cb_1769 (b : Nat) : List Instr := (bif Nat.blt b 1 then c_1769_0 else c_1769_1)
def cb_1777 (b : Nat) : List Instr := (bif Nat.blt b 3 then (bif Nat.blt b 1 then c_1777_0 else (bif Nat.blt b 2 then c_1777_1 else c_1777_2)) else (bif Nat.blt b 4 then c_1777_3 else (bif Nat.blt b 5 then c_1777_4 else c_1777_5)))
def cb_1784 (b : Nat) : List Instr := (bif Nat.blt b 3 then (bif Nat.blt b 1 then c_1784_0 else (bif Nat.blt b 2 then c_1784_1 else c_1784_2)) else (bif Nat.blt b 5 then (bif Nat.blt b 4 then c_1784_3 else c_1784_4) else (bif Nat.blt b 6 then c_1784_5 else c_1784_6)))
def cb_1793 (b : Nat) : List Instr := (bif Nat.blt b 1 then c_1793_0 else (bif Nat.blt b 2 then c_1793_1 else c_1793_2))
def cb_1801 (b : Nat) : List Instr := (bif Nat.blt b 1 then c_1801_0 else (bif Nat.blt b 2 then c_1801_1 else c_1801_2))
def cb_1808 (b : Nat) : List Instr := (bif Nat.blt b 2 then (bif Nat.blt b 1 then c_1808_0 else c_1808_1) else (bif Nat.blt b 3 then c_1808_2 else (bif Nat.blt b 4 then c_1808_3 else c_1808_4)))
def cb_1817 (b : Nat) : List Instr := (bif Nat.blt b 5 then (bif Nat.blt b 2 then (bif Nat.blt b 1 then c_1817_0 else c_1817_1) else (bif Nat.blt b 3 then c_1817_2 else (bif Nat.blt b 4 then c_1817_3 else c_1817_4))) else (bif Nat.blt b 8 then (bif Nat.blt b 6 then c_1817_5 else (bif Nat.blt b 7 then c_1817_6 else c_1817_7)) else (bif Nat.blt b 9 then c_1817_8 else (bif Nat.blt b 10 then c_1817_9 else c_1817_10))))
def cb_1825 (b : Nat) : List Instr := (bif Nat.blt b 3 then (bif Nat.blt b 1 then c_1825_0 else (bif Nat.blt b 2 then c_1825_1 else c_1825_2)) else (bif Nat.blt b 5 then (bif Nat.blt b 4 then c_1825_3 else c_1825_4) else (bif Nat.blt b 6 then c_1825_5 else c_1825_6)))
def cb_1833 (b : Nat) : List Instr := (bif Nat.blt b 3 then (bif Nat.blt b 1 then c_1833_0 else (bif Nat.blt b 2 then c_1833_1 else c_1833_2)) else (bif Nat.blt b 4 then c_1833_3 else (bif Nat.blt b 5 then c_1833_4 else c_1833_5)))
def cb_1842 (b : Nat) : List Instr := (bif Nat.blt b 3 then (bif Nat.blt b 1 then c_1842_0 else (bif Nat.blt b 2 then c_1842_1 else c_1842_2)) else (bif Nat.blt b 5 then (bif Nat.blt b 4 then c_1842_3 else c_1842_4) else (bif Nat.blt b 6 then c_1842_5 else c_1842_6)))
def cb_1850 (b : Nat) : List Instr := (bif Nat.blt b 1 then c_1850_0 else (bif Nat.blt b 2 then c_1850_1 else c_1850_2))
def cb_1857 (b : Nat) : List Instr := c_1857_0
def cb_1864 (b : Nat) : List Instr := (bif Nat.blt b 1 then c_1864_0 else (bif Nat.blt b 2 then c_1864_1 else c_1864_2))
def cb_1873 (b : Nat) : List Instr := (bif Nat.blt b 2 then (bif Nat.blt b 1 then c_1873_0 else c_1873_1) else (bif Nat.blt b 3 then c_1873_2 else (bif Nat.blt b 4 then c_1873_3 else c_1873_4)))
def cb_1884 (b : Nat) : List Instr := (bif Nat.blt b 1 then c_1884_0 else (bif Nat.blt b 2 then c_1884_1 else c_1884_2))
def cb_1888 (b : Nat) : List Instr := (bif Nat.blt b 2 then (bif Nat.blt b 1 then c_1888_0 else c_1888_1) else (bif Nat.blt b 3 then c_1888_2 else c_1888_3))
def cb_1897 (b : Nat) : List Instr := (bif Nat.blt b 3 then (bif Nat.blt b 1 then c_1897_0 else (bif Nat.blt b 2 then c_1897_1 else c_1897_2)) else (bif Nat.blt b 4 then c_1897_3 else (bif Nat.blt b 5 then c_1897_4 else c_1897_5)))
def cb_1905 (b : Nat) : List Instr := (bif Nat.blt b 1 then c_1905_0 else (bif Nat.blt b 2 then c_1905_1 else c_1905_2))
def cb_1913 (b : Nat) : List Instr := (bif Nat.blt b 1 then c_1913_0 else c_1913_1)
def cb_1920 (b : Nat) : List Instr := c_1920_0
def cb_1930 (b : Nat) : List Instr := c_1930_0
def cb_1937 (b : Nat) : List Instr := (bif Nat.blt b 1 then c_1937_0 else c_1937_1)
def cb_1946 (b : Nat) : List Instr := c_1946_0
def cb_1953 (b : Nat) : List Instr := (bif Nat.blt b 2 then (bif Nat.blt b 1 then c_1953_0 else c_1953_1) else (bif Nat.blt b 3 then c_1953_2 else c_1953_3))
def cb_1960 (b : Nat) : List Instr := c_1960_0
def cb_1971 (b : Nat) : List Instr := c_1971_0
def cb_1978 (b : Nat) : List Instr := c_1978_0
def cb_1985 (b : Nat) : List Instr := (bif Nat.blt b 1 then c_1985_0 else (bif Nat.blt b 2 then c_1985_1 else c_1985_2))
def cb_1994 (b : Nat) : List Instr := c_1994_0
def cb_2002 (b : Nat) : List Instr := c_2002_0
def cb_2010 (b : Nat) : List Instr := (bif Nat.blt b 1 then c_2010_0 else c_2010_1)
def cb_2018 (b : Nat) : List Instr := c_2018_0
def cb_2024 (b : Nat) : List Instr := c_2024_0
def cb_2035 (b : Nat) : List Instr := c_2035_0
def cb_2042 (b : Nat) : List Instr := c_2042_0
def cb_2049 (b : Nat) : List Instr := (bif Nat.blt b 2 then (bif Nat.blt b 1 then c_2049_0 else c_2049_1) else (bif Nat.blt b 3 then c_2049_2 else c_2049_3))
def cb_2058 (b : Nat) : List Instr := c_2058_0
def cb_2064 (b : Nat) : List Instr := c_2064_0
def cb_2075 (b : Nat) : List Instr := c_2075_0
def cb_2082 (b : Nat) : List Instr := c_2082_0
def cb_2089 (b : Nat) : List Instr := (bif Nat.blt b 2 then (bif Nat.blt b 1 then c_2089_0 else c_2089_1) else (bif Nat.blt b 3 then c_2089_2 else c_2089_3))
def cb_2098 (b : Nat) : List Instr := c_2098_0
def cb_2106 (b : Nat) : List Instr := c_2106_0
def cb_2112 (b : Nat) : List Instr := c_2112_0
def cb_2123 (b : Nat) : List Instr := (bif Nat.blt b 1 then c_2123_0 else (bif Nat.blt b 2 then c_2123_1 else c_2123_2))
def cb_2130 (b : Nat) : List Instr := (bif Nat.blt b 1 then c_2130_0 else (bif Nat.blt b 2 then c_2130_1 else c_2130_2))
def cb_2137 (b : Nat) : List Instr := (bif Nat.blt b 2 then (bif Nat.blt b 1 then c_2137_0 else c_2137_1) else (bif Nat.blt b 3 then c_2137_2 else c_2137_3))
def cb_2146 (b : Nat) : List Instr := c_2146_0
def cb_2154 (b : Nat) : List Instr := c_2154_0
def cb_2160 (b : Nat) : List Instr := c_2160_0
def cb_2171 (b : Nat) : List Instr := c_2171_0
def cb_2178 (b : Nat) : List Instr := c_2178_0
def cb_2185 (b : Nat) : List Instr := (bif Nat.blt b 2 then (bif Nat.blt b 1 then c_2185_0 else c_2185_1) else (bif Nat.blt b 3 then c_2185_2 else c_2185_3))
def cb_2194 (b : Nat) : List Instr := c_2194_0
def cb_2202 (b : Nat) : List Instr := c_2202_0
def cb_2208 (b : Nat) : List Instr := c_2208_0
def cb_2219 (b : Nat) : List Instr := (bif Nat.blt b 1 then c_2219_0 else (bif Nat.blt b 2 then c_2219_1 else c_2219_2))
def cb_2226 (b : Nat) : List Instr := c_2226_0
def cb_2233 (b : Nat) : List Instr := (bif Nat.blt b 2 then (bif Nat.blt b 1 then c_2233_0 else c_2233_1) else (bif Nat.blt b 3 then c_2233_2 else c_2233_3))
def cb_2242 (b : Nat) : List Instr := c_2242_0
def cb_2250 (b : Nat) : List Instr := c_2250_0
def cb_2257 (b : Nat) : List Instr := (bif Nat.blt b 1 then c_2257_0 else (bif Nat.blt b 2 then c_2257_1 else c_2257_2))
def cb_2265 (b : Nat) : List Instr := (bif Nat.blt b 1 then c_2265_0 else c_2265_1)
def cb_2273 (b : Nat) : List Instr := c_2273_0
def cb_2281 (b : Nat) : List Instr := (bif Nat.blt b 27 then (bif Nat.blt b 13 then (bif Nat.blt b 6 then (bif Nat.blt b 3 then (bif Nat.blt b 1 then c_2281_0 else (bif Nat.blt b 2 then c_2281_1 else c_2281_2)) else (bif Nat.blt b 4 then c_2281_3 else (bif Nat.blt b 5 then c_2281_4 else c_2281_5))) else (bif Nat.blt b 9 then (bif Nat.blt b 7 then c_2281_6 else (bif Nat.blt b 8 then c_2281_7 else c_2281_8)) else (bif Nat.blt b 11 then (bif Nat.blt b 10 then c_2281_9 else c_2281_10) else (bif Nat.blt b 12 then c_2281_11 else c_2281_12)))) else (bif Nat.blt b 20 then (bif Nat.blt b 16 then (bif Nat.blt b 14 then c_2281_13 else (bif Nat.blt b 15 then c_2281_14 else c_2281_15)) else (bif Nat.blt b 18 then (bif Nat.blt b 17 then c_2281_16 else c_2281_17) else (bif Nat.blt b 19 then c_2281_18 else c_2281_19))) else (bif Nat.blt b 23 then (bif Nat.blt b 21 then c_2281_20 else (bif Nat.blt b 22 then c_2281_21 else c_2281_22)) else (bif Nat.blt b 25 then (bif Nat.blt b 24 then c_2281_23 else c_2281_24) else (bif Nat.blt b 26 then c_2281_25 else c_2281_26))))) else (bif Nat.blt b 41 then (bif Nat.blt b 34 then (bif Nat.blt b 30 then (bif Nat.blt b 28 then c_2281_27 else (bif Nat.blt b 29 then c_2281_28 else c_2281_29)) else (bif Nat.blt b 32 then (bif Nat.blt b 31 then c_2281_30 else c_2281_31) else (bif Nat.blt b 33 then c_2281_32 else c_2281_33))) else (bif Nat.blt b 37 then (bif Nat.blt b 35 then c_2281_34 else (bif Nat.blt b 36 then c_2281_35 else c_2281_36)) else (bif Nat.blt b 39 then (bif Nat.blt b 38 then c_2281_37 else c_2281_38) else (bif Nat.blt b 40 then c_2281_39 else c_2281_40)))) else (bif Nat.blt b 48 then (bif Nat.blt b 44 then (bif Nat.blt b 42 then c_2281_41 else (bif Nat.blt b 43 then c_2281_42 else c_2281_43)) else (bif Nat.blt b 46 then (bif Nat.blt b 45 then c_2281_44 else c_2281_45) else (bif Nat.blt b 47 then c_2281_46 else c_2281_47))) else (bif Nat.blt b 51 then (bif Nat.blt b 49 then c_2281_48 else (bif Nat.blt b 50 then c_2281_49 else c_2281_50)) else (bif Nat.blt b 53 then (bif Nat.blt b 52 then c_2281_51 else c_2281_52) else (bif Nat.blt b 54 then c_2281_53 else c_2281_54))))))
def pblk (m b : Nat) : List Instr := (bif Nat.blt m 1144 then (bif Nat.blt m 568 then (bif Nat.blt m 282 then (bif Nat.blt m 137 then (bif Nat.blt m 66 then (bif Nat.blt m 32 then (bif Nat.blt m 18 then (bif Nat.blt m 8 then cb_0 b else cb_8 b) else (bif Nat.blt m 27 then cb_18 b else cb_27 b)) else (bif Nat.blt m 51 then (bif Nat.blt m 42 then cb_32 b else cb_42 b) else (bif Nat.blt m 57 then cb_51 b else cb_57 b))) else (bif Nat.blt m 98 then (bif Nat.blt m 82 then (bif Nat.blt m 73 then cb_66 b else cb_73 b) else (bif Nat.blt m 89 then cb_82 b else cb_89 b)) else (bif Nat.blt m 113 then (bif Nat.blt m 106 then cb_98 b else cb_106 b) else (bif Nat.blt m 123 then cb_113 b else (bif Nat.blt m 132 then cb_123 b else cb_132 b))))) else (bif Nat.blt m 209 then (bif Nat.blt m 170 then (bif Nat.blt m 153 then (bif Nat.blt m 146 then cb_137 b else cb_146 b) else (bif Nat.blt m 163 then cb_153 b else cb_163 b)) else (bif Nat.blt m 185 then (bif Nat.blt m 178 then cb_170 b else cb_178 b) else (bif Nat.blt m 194 then cb_185 b else (bif Nat.blt m 201 then cb_194 b else cb_201 b)))) else (bif Nat.blt m 241 then (bif Nat.blt m 225 then (bif Nat.blt m 218 then cb_209 b else cb_218 b) else (bif Nat.blt m 233 then cb_225 b else cb_233 b)) else (bif Nat.blt m 256 then (bif Nat.blt m 249 then cb_241 b else cb_249 b) else (bif Nat.blt m 266 then cb_256 b else (bif Nat.blt m 273 then cb_266 b else cb_273 b)))))) else (bif Nat.blt m 426 then (bif Nat.blt m 354 then (bif Nat.blt m 315 then (bif Nat.blt m 298 then (bif Nat.blt m 288 then cb_282 b else cb_288 b) else (bif Nat.blt m 306 then cb_298 b else cb_306 b)) else (bif Nat.blt m 331 then (bif Nat.blt m 323 then cb_315 b else cb_323 b) else (bif Nat.blt m 339 then cb_331 b else (bif Nat.blt m 344 then cb_339 b else cb_344 b)))) else (bif Nat.blt m 384 then (bif Nat.blt m 369 then (bif Nat.blt m 361 then cb_354 b else cb_361 b) else (bif Nat.blt m 376 then cb_369 b else cb_376 b)) else (bif Nat.blt m 400 then (bif Nat.blt m 394 then cb_384 b else cb_394 b) else (bif Nat.blt m 411 then cb_400 b else (bif Nat.blt m 418 then cb_411 b else cb_418 b))))) else (bif Nat.blt m 499 then (bif Nat.blt m 458 then (bif Nat.blt m 443 then (bif Nat.blt m 435 then cb_426 b else cb_435 b) else (bif Nat.blt m 450 then cb_443 b else cb_450 b)) else (bif Nat.blt m 475 then (bif Nat.blt m 466 then cb_458 b else cb_466 b) else (bif Nat.blt m 481 then cb_475 b else (bif Nat.blt m 492 then cb_481 b else cb_492 b)))) else (bif Nat.blt m 529 then (bif Nat.blt m 515 then (bif Nat.blt m 507 then cb_499 b else cb_507 b) else (bif Nat.blt m 523 then cb_515 b else cb_523 b)) else (bif Nat.blt m 547 then (bif Nat.blt m 538 then cb_529 b else cb_538 b) else (bif Nat.blt m 553 then cb_547 b else (bif Nat.blt m 561 then cb_553 b else cb_561 b))))))) else (bif Nat.blt m 857 then (bif Nat.blt m 713 then (bif Nat.blt m 641 then (bif Nat.blt m 602 then (bif Nat.blt m 584 then (bif Nat.blt m 576 then cb_568 b else cb_576 b) else (bif Nat.blt m 593 then cb_584 b else cb_593 b)) else (bif Nat.blt m 616 then (bif Nat.blt m 611 then cb_602 b else cb_611 b) else (bif Nat.blt m 624 then cb_616 b else (bif Nat.blt m 633 then cb_624 b else cb_633 b)))) else (bif Nat.blt m 673 then (bif Nat.blt m 656 then (bif Nat.blt m 649 then cb_641 b else cb_649 b) else (bif Nat.blt m 664 then cb_656 b else cb_664 b)) else (bif Nat.blt m 690 then (bif Nat.blt m 681 then cb_673 b else cb_681 b) else (bif Nat.blt m 697 then cb_690 b else (bif Nat.blt m 704 then cb_697 b else cb_704 b))))) else (bif Nat.blt m 785 then (bif Nat.blt m 744 then (bif Nat.blt m 728 then (bif Nat.blt m 720 then cb_713 b else cb_720 b) else (bif Nat.blt m 736 then cb_728 b else cb_736 b)) else (bif Nat.blt m 762 then (bif Nat.blt m 752 then cb_744 b else cb_752 b) else (bif Nat.blt m 770 then cb_762 b else (bif Nat.blt m 778 then cb_770 b else cb_778 b)))) else (bif Nat.blt m 817 then (bif Nat.blt m 801 then (bif Nat.blt m 794 then cb_785 b else cb_794 b) else (bif Nat.blt m 810 then cb_801 b else cb_810 b)) else (bif Nat.blt m 834 then (bif Nat.blt m 826 then cb_817 b else cb_826 b) else (bif Nat.blt m 842 then cb_834 b else (bif Nat.blt m 849 then cb_842 b else cb_849 b)))))) else (bif Nat.blt m 1001 then (bif Nat.blt m 931 then (bif Nat.blt m 891 then (bif Nat.blt m 876 then (bif Nat.blt m 867 then cb_857 b else cb_867 b) else (bif Nat.blt m 882 then cb_876 b else cb_882 b)) else (bif Nat.blt m 905 then (bif Nat.blt m 898 then cb_891 b else cb_898 b) else (bif Nat.blt m 914 then cb_905 b else (bif Nat.blt m 921 then cb_914 b else cb_921 b)))) else (bif Nat.blt m 962 then (bif Nat.blt m 946 then (bif Nat.blt m 938 then cb_931 b else cb_938 b) else (bif Nat.blt m 953 then cb_946 b else cb_953 b)) else (bif Nat.blt m 977 then (bif Nat.blt m 970 then cb_962 b else cb_970 b) else (bif Nat.blt m 985 then cb_977 b else (bif Nat.blt m 993 then cb_985 b else cb_993 b))))) else (bif Nat.blt m 1073 then (bif Nat.blt m 1034 then (bif Nat.blt m 1019 then (bif Nat.blt m 1009 then cb_1001 b else cb_1009 b) else (bif Nat.blt m 1027 then cb_1019 b else cb_1027 b)) else (bif Nat.blt m 1049 then (bif Nat.blt m 1041 then cb_1034 b else cb_1041 b) else (bif Nat.blt m 1056 then cb_1049 b else (bif Nat.blt m 1065 then cb_1056 b else cb_1065 b)))) else (bif Nat.blt m 1104 then (bif Nat.blt m 1089 then (bif Nat.blt m 1080 then cb_1073 b else cb_1080 b) else (bif Nat.blt m 1096 then cb_1089 b else cb_1096 b)) else (bif Nat.blt m 1121 then (bif Nat.blt m 1114 then cb_1104 b else cb_1114 b) else (bif Nat.blt m 1129 then cb_1121 b else (bif Nat.blt m 1136 then cb_1129 b else cb_1136 b)))))))) else (bif Nat.blt m 1713 then (bif Nat.blt m 1427 then (bif Nat.blt m 1283 then (bif Nat.blt m 1210 then (bif Nat.blt m 1178 then (bif Nat.blt m 1162 then (bif Nat.blt m 1154 then cb_1144 b else cb_1154 b) else (bif Nat.blt m 1169 then cb_1162 b else cb_1169 b)) else (bif Nat.blt m 1195 then (bif Nat.blt m 1187 then cb_1178 b else cb_1187 b) else (bif Nat.blt m 1200 then cb_1195 b else cb_1200 b))) else (bif Nat.blt m 1240 then (bif Nat.blt m 1226 then (bif Nat.blt m 1217 then cb_1210 b else cb_1217 b) else (bif Nat.blt m 1233 then cb_1226 b else cb_1233 b)) else (bif Nat.blt m 1258 then (bif Nat.blt m 1251 then cb_1240 b else cb_1251 b) else (bif Nat.blt m 1266 then cb_1258 b else (bif Nat.blt m 1275 then cb_1266 b else cb_1275 b))))) else (bif Nat.blt m 1354 then (bif Nat.blt m 1314 then (bif Nat.blt m 1298 then (bif Nat.blt m 1290 then cb_1283 b else cb_1290 b) else (bif Nat.blt m 1306 then cb_1298 b else cb_1306 b)) else (bif Nat.blt m 1331 then (bif Nat.blt m 1322 then cb_1314 b else cb_1322 b) else (bif Nat.blt m 1337 then cb_1331 b else (bif Nat.blt m 1348 then cb_1337 b else cb_1348 b)))) else (bif Nat.blt m 1387 then (bif Nat.blt m 1371 then (bif Nat.blt m 1363 then cb_1354 b else cb_1363 b) else (bif Nat.blt m 1379 then cb_1371 b else cb_1379 b)) else (bif Nat.blt m 1402 then (bif Nat.blt m 1394 then cb_1387 b else cb_1394 b) else (bif Nat.blt m 1409 then cb_1402 b else (bif Nat.blt m 1418 then cb_1409 b else cb_1418 b)))))) else (bif Nat.blt m 1569 then (bif Nat.blt m 1497 then (bif Nat.blt m 1457 then (bif Nat.blt m 1441 then (bif Nat.blt m 1433 then cb_1427 b else cb_1433 b) else (bif Nat.blt m 1449 then cb_1441 b else cb_1449 b)) else (bif Nat.blt m 1473 then (bif Nat.blt m 1465 then cb_1457 b else cb_1465 b) else (bif Nat.blt m 1481 then cb_1473 b else (bif Nat.blt m 1489 then cb_1481 b else cb_1489 b)))) else (bif Nat.blt m 1528 then (bif Nat.blt m 1513 then (bif Nat.blt m 1505 then cb_1497 b else cb_1505 b) else (bif Nat.blt m 1521 then cb_1513 b else cb_1521 b)) else (bif Nat.blt m 1544 then (bif Nat.blt m 1536 then cb_1528 b else cb_1536 b) else (bif Nat.blt m 1552 then cb_1544 b else (bif Nat.blt m 1560 then cb_1552 b else cb_1560 b))))) else (bif Nat.blt m 1641 then (bif Nat.blt m 1601 then (bif Nat.blt m 1588 then (bif Nat.blt m 1576 then cb_1569 b else cb_1576 b) else (bif Nat.blt m 1593 then cb_1588 b else cb_1593 b)) else (bif Nat.blt m 1617 then (bif Nat.blt m 1609 then cb_1601 b else cb_1609 b) else (bif Nat.blt m 1626 then cb_1617 b else (bif Nat.blt m 1633 then cb_1626 b else cb_1633 b)))) else (bif Nat.blt m 1672 then (bif Nat.blt m 1657 then (bif Nat.blt m 1649 then cb_1641 b else cb_1649 b) else (bif Nat.blt m 1664 then cb_1657 b else cb_1664 b)) else (bif Nat.blt m 1688 then (bif Nat.blt m 1681 then cb_1672 b else cb_1681 b) else (bif Nat.blt m 1696 then cb_1688 b else (bif Nat.blt m 1704 then cb_1696 b else cb_1704 b))))))) else (bif Nat.blt m 2002 then (bif Nat.blt m 1857 then (bif Nat.blt m 1784 then (bif Nat.blt m 1744 then (bif Nat.blt m 1730 then (bif Nat.blt m 1722 then cb_1713 b else cb_1722 b) else (bif Nat.blt m 1737 then cb_1730 b else cb_1737 b)) else (bif Nat.blt m 1760 then (bif Nat.blt m 1752 then cb_1744 b else cb_1752 b) else (bif Nat.blt m 1769 then cb_1760 b else (bif Nat.blt m 1777 then cb_1769 b else cb_1777 b)))) else (bif Nat.blt m 1817 then (bif Nat.blt m 1801 then (bif Nat.blt m 1793 then cb_1784 b else cb_1793 b) else (bif Nat.blt m 1808 then cb_1801 b else cb_1808 b)) else (bif Nat.blt m 1833 then (bif Nat.blt m 1825 then cb_1817 b else cb_1825 b) else (bif Nat.blt m 1842 then cb_1833 b else (bif Nat.blt m 1850 then cb_1842 b else cb_1850 b))))) else (bif Nat.blt m 1930 then (bif Nat.blt m 1888 then (bif Nat.blt m 1873 then (bif Nat.blt m 1864 then cb_1857 b else cb_1864 b) else (bif Nat.blt m 1884 then cb_1873 b else cb_1884 b)) else (bif Nat.blt m 1905 then (bif Nat.blt m 1897 then cb_1888 b else cb_1897 b) else (bif Nat.blt m 1913 then cb_1905 b else (bif Nat.blt m 1920 then cb_1913 b else cb_1920 b)))) else (bif Nat.blt m 1960 then (bif Nat.blt m 1946 then (bif Nat.blt m 1937 then cb_1930 b else cb_1937 b) else (bif Nat.blt m 1953 then cb_1946 b else cb_1953 b)) else (bif Nat.blt m 1978 then (bif Nat.blt m 1971 then cb_1960 b else cb_1971 b) else (bif Nat.blt m 1985 then cb_1978 b else (bif Nat.blt m 1994 then cb_1985 b else cb_1994 b)))))) else (bif Nat.blt m 2146 then (bif Nat.blt m 2075 then (bif Nat.blt m 2035 then (bif Nat.blt m 2018 then (bif Nat.blt m 2010 then cb_2002 b else cb_2010 b) else (bif Nat.blt m 2024 then cb_2018 b else cb_2024 b)) else (bif Nat.blt m 2049 then (bif Nat.blt m 2042 then cb_2035 b else cb_2042 b) else (bif Nat.blt m 2058 then cb_2049 b else (bif Nat.blt m 2064 then cb_2058 b else cb_2064 b)))) else (bif Nat.blt m 2106 then (bif Nat.blt m 2089 then (bif Nat.blt m 2082 then cb_2075 b else cb_2082 b) else (bif Nat.blt m 2098 then cb_2089 b else cb_2098 b)) else (bif Nat.blt m 2123 then (bif Nat.blt m 2112 then cb_2106 b else cb_2112 b) else (bif Nat.blt m 2130 then cb_2123 b else (bif Nat.blt m 2137 then cb_2130 b else cb_2137 b))))) else (bif Nat.blt m 2219 then (bif Nat.blt m 2178 then (bif Nat.blt m 2160 then (bif Nat.blt m 2154 then cb_2146 b else cb_2154 b) else (bif Nat.blt m 2171 then cb_2160 b else cb_2171 b)) else (bif Nat.blt m 2194 then (bif Nat.blt m 2185 then cb_2178 b else cb_2185 b) else (bif Nat.blt m 2202 then cb_2194 b else (bif Nat.blt m 2208 then cb_2202 b else cb_2208 b)))) else (bif Nat.blt m 2250 then (bif Nat.blt m 2233 then (bif Nat.blt m 2226 then cb_2219 b else cb_2226 b) else (bif Nat.blt m 2242 then cb_2233 b else cb_2242 b)) else (bif Nat.blt m 2265 then (bif Nat.blt m 2257 then cb_2250 b else cb_2257 b) else (bif Nat.blt m 2273 then cb_2265 b else (bif Nat.blt m 2281 then cb_2273 b else cb_2281 b)))))))))
def pbsel (x t : Nat) : Nat := (bif Nat.blt x 32 then (bif Nat.blt x 16 then (bif Nat.blt x 8 then (bif Nat.beq t 10 then 2137 else (bif Nat.beq t 7 then 2049 else (bif Nat.beq t 5 then 2233 else (bif Nat.beq t 4 then 2089 else (bif Nat.beq t 3 then 2185 else (bif Nat.beq t 2 then 1985 else 0)))))) else (bif Nat.beq t 10 then 2146 else (bif Nat.beq t 7 then 1994 else (bif Nat.beq t 5 then 1994 else (bif Nat.beq t 4 then 2098 else (bif Nat.beq t 3 then 2194 else (bif Nat.beq t 2 then 1994 else 0))))))) else (bif Nat.blt x 24 then (bif Nat.beq t 10 then 2058 else (bif Nat.beq t 7 then 2058 else (bif Nat.beq t 5 then 2002 else (bif Nat.beq t 4 then 2002 else (bif Nat.beq t 3 then 2202 else (bif Nat.beq t 2 then 2002 else 0)))))) else (bif Nat.beq t 10 then 2154 else (bif Nat.beq t 7 then 2010 else (bif Nat.beq t 5 then 2242 else (bif Nat.beq t 4 then 2010 else (bif Nat.beq t 3 then 2010 else (bif Nat.beq t 2 then 2010 else 0)))))))) else (bif Nat.blt x 48 then (bif Nat.blt x 40 then (bif Nat.beq t 10 then 2018 else (bif Nat.beq t 7 then 2018 else (bif Nat.beq t 5 then 2250 else (bif Nat.beq t 4 then 2106 else (bif Nat.beq t 3 then 2106 else (bif Nat.beq t 2 then 2018 else 0)))))) else (bif Nat.beq t 10 then 2123 else (bif Nat.beq t 7 then 2035 else (bif Nat.beq t 5 then 2219 else (bif Nat.beq t 4 then 2075 else (bif Nat.beq t 3 then 2171 else (bif Nat.beq t 2 then 1971 else 0))))))) else (bif Nat.blt x 56 then (bif Nat.beq t 10 then 2130 else (bif Nat.beq t 7 then 2042 else (bif Nat.beq t 5 then 2226 else (bif Nat.beq t 4 then 2082 else (bif Nat.beq t 3 then 2178 else (bif Nat.beq t 2 then 1978 else 0)))))) else (bif Nat.blt x 64 then (bif Nat.beq t 4 then 2010 else (bif Nat.beq t 3 then 2010 else 0)) else (bif Nat.beq t 5 then 1994 else 0)))))
end
