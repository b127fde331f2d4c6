section
/-! printed (wip/whole/gen/gblk.py): each block of the program as an equation of the walk, each method's entry -/
variable {d : Nat} {ls st : List Value} {h : PH} {Q : Option Value → PH → Prop}
theorem R_0 {a : Nat} : Run d 0 [.ref a] h Q = WP d 0 0 [.ref a, .retAddr 0, .retAddr 0] [] h Q := Run.eqn 3 rfl rfl
theorem w_0_0 : WP d 0 0 ls st h Q = wpL (kC d) (kJ d 0 Q) Q 0 [.aload 0, .invokedynamic 5, .aload 0, .new 582, .dup, .invokespecial 1760, .putfield 2820, .aload 0, .new 69, .dup, .invokespecial 1920, .putfield 2821, .aload 0, .ldc_w 4, .anewarray 110, .putfield 2822, .aload 0, .ldc_w 4, .newarray .int, .putfield 2823, .aload 0, .ldc_w 4, .anewarray 110, .putfield 2824, .aload 0, .ldc_w 30, .newarray .int, .putfield 2825, .aload 0, .ldc_w 40, .newarray .boolean, .putfield 2826, .invokestatic 8, .astore 1, .aload 0, .new 722, .dup, .aload 1, .invokespecial 1569, .putfield 2816, .aload 0, .new 722, .dup, .aload 1, .invokespecial 1569, .putfield 2817, .aload 0, .new 722, .dup, .aload 1, .invokespecial 1569, .putfield 2818, .aload 0, .new 390, .dup, .aload 1, .invokespecial 2257, .putfield 2819, .ldc_w 0, .istore 2, .jsr 1] ls st h := WP.eqn c_0_0 0 rfl rfl rfl
theorem w_0_1 : WP d 0 1 ls st h Q = wpL (kC d) (kJ d 0 Q) Q 0 [.iload 2, .ldc_w 4, .if_icmp .ge 2, .aload 0, .getfield 2823, .iload 2, .iconst (-1), .iastore, .iinc 2 1, .goto 1] ls st h := WP.eqn c_0_1 0 rfl rfl rfl
theorem w_0_2 : WP d 0 2 ls st h Q = wpL (kC d) (kJ d 0 Q) Q 0 [.return_] ls st h := WP.eqn c_0_2 0 rfl rfl rfl
theorem R_8  : Run d 8 [] h Q = WP d 8 0 [.retAddr 0] [] h Q := Run.eqn 1 rfl rfl
theorem w_8_0 : WP d 8 0 ls st h Q = wpL (kC d) (kJ d 8 Q) Q 4 [.ldc_w 6, .anewarray 111, .astore 0, .aload 0, .ldc_w 0, .new 128, .dup, .invokespecial 1960, .aastore, .aload 0, .ldc_w 1, .new 448, .dup, .invokespecial 2024, .aastore, .aload 0, .ldc_w 2, .new 256, .dup, .invokespecial 2064, .aastore, .aload 0, .ldc_w 3, .new 640, .dup, .invokespecial 2112, .aastore, .aload 0, .ldc_w 4, .new 192, .dup, .invokespecial 2160, .aastore, .aload 0, .ldc_w 5, .new 320, .dup, .invokespecial 2208, .aastore, .aload 0, .areturn] ls st h := WP.eqn c_8_0 4 rfl rfl rfl
theorem R_18 {a : Nat} {x0 : Int64} {x1 : Int32} : Run d 18 [.ref a, .long x0, .int x1] h Q = WP d 18 0 [.ref a, .long x0, .retAddr 0, .int x1, .retAddr 0] [] h Q := Run.eqn 5 rfl rfl
theorem w_18_0 : WP d 18 0 ls st h Q = wpL (kC d) (kJ d 18 Q) Q 1 [.iload 3, .ldc_w 1, .ldc_w 8, .invokestatic 27, .ifCond .eq 1, .iconst (-1), .ireturn] ls st h := WP.eqn c_18_0 1 rfl rfl rfl
theorem w_18_1 : WP d 18 1 ls st h Q = wpL (kC d) (kJ d 18 Q) Q 1 [.aload 0, .getfield 2820, .getfield 577, .iload 3, .iadd, .ldc_w 200, .if_icmp .le 2, .iconst (-2), .ireturn] ls st h := WP.eqn c_18_1 1 rfl rfl rfl
theorem w_18_2 : WP d 18 2 ls st h Q = wpL (kC d) (kJ d 18 Q) Q 1 [.ldc_w 0, .istore 4, .jsr 3] ls st h := WP.eqn c_18_2 1 rfl rfl rfl
theorem w_18_3 : WP d 18 3 ls st h Q = wpL (kC d) (kJ d 18 Q) Q 1 [.iload 4, .iload 3, .if_icmp .ge 4, .aload 0, .getfield 2820, .lload 1, .ldc_w 8, .iload 4, .imul, .lushr, .l2i, .ldc_w 255, .iand, .invokevirtual 91769, .iinc 4 1, .goto 3] ls st h := WP.eqn c_18_3 1 rfl rfl rfl
theorem w_18_4 : WP d 18 4 ls st h Q = wpL (kC d) (kJ d 18 Q) Q 1 [.aload 0, .getfield 2820, .getfield 577, .ireturn] ls st h := WP.eqn c_18_4 1 rfl rfl rfl
theorem R_27 {x0 : Int32} {x1 : Int32} {x2 : Int32} : Run d 27 [.int x0, .int x1, .int x2] h Q = WP d 27 0 [.int x0, .int x1, .int x2] [] h Q := Run.eqn 3 rfl rfl
theorem w_27_0 : WP d 27 0 ls st h Q = wpL (kC d) (kJ d 27 Q) Q 2 [.iload 0, .iload 1, .if_icmp .lt 1, .iload 0, .iload 2, .if_icmp .le 2, .jsr 1] ls st h := WP.eqn c_27_0 2 rfl rfl rfl
theorem w_27_1 : WP d 27 1 ls st h Q = wpL (kC d) (kJ d 27 Q) Q 2 [.ldc_w 1, .goto 3] ls st h := WP.eqn c_27_1 2 rfl rfl rfl
theorem w_27_2 : WP d 27 2 ls st h Q = wpL (kC d) (kJ d 27 Q) Q 2 [.ldc_w 0, .jsr 3] ls st h := WP.eqn c_27_2 2 rfl rfl rfl
theorem w_27_3 : WP d 27 3 ls st h Q = wpL (kC d) (kJ d 27 Q) Q 2 [.ireturn] ls st h := WP.eqn c_27_3 2 rfl rfl rfl
theorem R_32 {a : Nat} : Run d 32 [.ref a] h Q = WP d 32 0 [.ref a, .retAddr 0] [] h Q := Run.eqn 2 rfl rfl
theorem w_32_0 : WP d 32 0 ls st h Q = wpL (kC d) (kJ d 32 Q) Q 1 [.aload 0, .getfield 2818, .invokevirtual 111576, .aload 0, .getfield 2818, .aload 0, .getfield 2816, .getfield 721, .putfield 721, .aload 0, .getfield 2820, .aload 0, .getfield 2818, .invokevirtual 91777, .istore 1, .aload 0, .getfield 2820, .ldc_w 0, .putfield 577, .iload 1, .ifCond .ne 1, .iconst (-100), .aload 0, .getfield 2820, .getfield 578, .isub, .ireturn] ls st h := WP.eqn c_32_0 1 rfl rfl rfl
theorem w_32_1 : WP d 32 1 ls st h Q = wpL (kC d) (kJ d 32 Q) Q 1 [.aload 0, .getfield 2816, .aload 0, .getfield 2818, .invokevirtual 111593, .aload 0, .ldc_w 0, .putfield 779, .aload 0, .getfield 2816, .getfield 718, .ireturn] ls st h := WP.eqn c_32_1 1 rfl rfl rfl
theorem R_42 {a : Nat} {x0 : Int32} {x1 : Int32} : Run d 42 [.ref a, .int x0, .int x1] h Q = WP d 42 0 [.ref a, .int x0, .int x1] [] h Q := Run.eqn 3 rfl rfl
theorem w_42_0 : WP d 42 0 ls st h Q = wpL (kC d) (kJ d 42 Q) Q 1 [.iload 1, .ldc_w 0, .ldc_w 2, .invokestatic 27, .ifCond .ne 1, .iload 2, .getstatic 3, .iload 1, .iaload, .getstatic 4, .iload 1, .iaload, .invokestatic 27, .ifCond .eq 2, .jsr 1] ls st h := WP.eqn c_42_0 1 rfl rfl rfl
theorem w_42_1 : WP d 42 1 ls st h Q = wpL (kC d) (kJ d 42 Q) Q 1 [.iconst (-1), .ireturn] ls st h := WP.eqn c_42_1 1 rfl rfl rfl
theorem w_42_2 : WP d 42 2 ls st h Q = wpL (kC d) (kJ d 42 Q) Q 1 [.aload 0, .getfield 2816, .getfield 2753, .iload 1, .iload 2, .invokestatic 51, .ireturn] ls st h := WP.eqn c_42_2 1 rfl rfl rfl
theorem R_51 {x0 : Nat} {x1 : Int32} {x2 : Int32} : Run d 51 [.ref x0, .int x1, .int x2] h Q = WP d 51 0 [.ref x0, .int x1, .int x2, .retAddr 0] [] h Q := Run.eqn 4 rfl rfl
theorem w_51_0 : WP d 51 0 ls st h Q = wpL (kC d) (kJ d 51 Q) Q 1 [.aload 0, .iload 1, .iaload, .istore 3, .aload 0, .iload 1, .iload 2, .iastore, .iload 3, .ireturn] ls st h := WP.eqn c_51_0 1 rfl rfl rfl
theorem R_57 {a : Nat} {x0 : Int32} : Run d 57 [.ref a, .int x0] h Q = WP d 57 0 [.ref a, .int x0] [] h Q := Run.eqn 2 rfl rfl
theorem w_57_0 : WP d 57 0 ls st h Q = wpL (kC d) (kJ d 57 Q) Q 1 [.iload 1, .ldc_w 0, .ldc_w 2, .invokestatic 27, .ifCond .eq 1, .iconst (-1), .goto 2] ls st h := WP.eqn c_57_0 1 rfl rfl rfl
theorem w_57_1 : WP d 57 1 ls st h Q = wpL (kC d) (kJ d 57 Q) Q 1 [.aload 0, .getfield 2816, .getfield 2753, .iload 1, .iaload, .jsr 2] ls st h := WP.eqn c_57_1 1 rfl rfl rfl
theorem w_57_2 : WP d 57 2 ls st h Q = wpL (kC d) (kJ d 57 Q) Q 1 [.ireturn] ls st h := WP.eqn c_57_2 1 rfl rfl rfl
theorem R_66 {a : Nat} {x0 : Int32} {x1 : Int32} : Run d 66 [.ref a, .int x0, .int x1] h Q = WP d 66 0 [.ref a, .int x0, .int x1] [] h Q := Run.eqn 3 rfl rfl
theorem w_66_0 : WP d 66 0 ls st h Q = wpL (kC d) (kJ d 66 Q) Q 1 [.iload 1, .invokestatic 73, .ifCond .ne 1, .iload 2, .ldc_w 1, .ldc_w 30, .invokestatic 27, .ifCond .eq 2, .jsr 1] ls st h := WP.eqn c_66_0 1 rfl rfl rfl
theorem w_66_1 : WP d 66 1 ls st h Q = wpL (kC d) (kJ d 66 Q) Q 1 [.iconst (-1), .ireturn] ls st h := WP.eqn c_66_1 1 rfl rfl rfl
theorem w_66_2 : WP d 66 2 ls st h Q = wpL (kC d) (kJ d 66 Q) Q 1 [.aload 0, .getfield 2816, .getfield 2754, .iload 1, .iload 2, .invokestatic 51, .ireturn] ls st h := WP.eqn c_66_2 1 rfl rfl rfl
theorem R_73 {x0 : Int32} : Run d 73 [.int x0] h Q = WP d 73 0 [.int x0] [] h Q := Run.eqn 1 rfl rfl
theorem w_73_0 : WP d 73 0 ls st h Q = wpL (kC d) (kJ d 73 Q) Q 2 [.iload 0, .ldc_w 0, .ldc_w 4, .invokestatic 27, .ireturn] ls st h := WP.eqn c_73_0 2 rfl rfl rfl
theorem R_82 {a : Nat} {x0 : Int32} {x1 : Int32} : Run d 82 [.ref a, .int x0, .int x1] h Q = WP d 82 0 [.ref a, .int x0, .int x1] [] h Q := Run.eqn 3 rfl rfl
theorem w_82_0 : WP d 82 0 ls st h Q = wpL (kC d) (kJ d 82 Q) Q 1 [.iload 1, .invokestatic 89, .ifCond .ne 1, .iload 2, .ldc_w 0, .ldc_w 999, .invokestatic 27, .ifCond .eq 2, .jsr 1] ls st h := WP.eqn c_82_0 1 rfl rfl rfl
theorem w_82_1 : WP d 82 1 ls st h Q = wpL (kC d) (kJ d 82 Q) Q 1 [.iconst (-1), .ireturn] ls st h := WP.eqn c_82_1 1 rfl rfl rfl
theorem w_82_2 : WP d 82 2 ls st h Q = wpL (kC d) (kJ d 82 Q) Q 1 [.aload 0, .getfield 2816, .getfield 2758, .iload 1, .iload 2, .invokestatic 51, .ireturn] ls st h := WP.eqn c_82_2 1 rfl rfl rfl
theorem R_89 {x0 : Int32} : Run d 89 [.int x0] h Q = WP d 89 0 [.int x0] [] h Q := Run.eqn 1 rfl rfl
theorem w_89_0 : WP d 89 0 ls st h Q = wpL (kC d) (kJ d 89 Q) Q 2 [.iload 0, .ldc_w 0, .ldc_w 3, .invokestatic 27, .ireturn] ls st h := WP.eqn c_89_0 2 rfl rfl rfl
theorem R_98 {a : Nat} {x0 : Int32} {x1 : Int32} : Run d 98 [.ref a, .int x0, .int x1] h Q = WP d 98 0 [.ref a, .int x0, .int x1] [] h Q := Run.eqn 3 rfl rfl
theorem w_98_0 : WP d 98 0 ls st h Q = wpL (kC d) (kJ d 98 Q) Q 1 [.iload 1, .invokestatic 89, .ifCond .eq 1, .iconst (-1), .ireturn] ls st h := WP.eqn c_98_0 1 rfl rfl rfl
theorem w_98_1 : WP d 98 1 ls st h Q = wpL (kC d) (kJ d 98 Q) Q 1 [.iload 2, .tableswitch 5 0 2 #[2, 3, 4]] ls st h := WP.eqn c_98_1 1 rfl rfl rfl
theorem w_98_2 : WP d 98 2 ls st h Q = wpL (kC d) (kJ d 98 Q) Q 1 [.aload 0, .getfield 2816, .getfield 2758, .iload 1, .iaload, .ireturn] ls st h := WP.eqn c_98_2 1 rfl rfl rfl
theorem w_98_3 : WP d 98 3 ls st h Q = wpL (kC d) (kJ d 98 Q) Q 1 [.aload 0, .getfield 2816, .getfield 2759, .iload 1, .iaload, .ireturn] ls st h := WP.eqn c_98_3 1 rfl rfl rfl
theorem w_98_4 : WP d 98 4 ls st h Q = wpL (kC d) (kJ d 98 Q) Q 1 [.aload 0, .getfield 2816, .iload 1, .invokevirtual 111601, .ireturn] ls st h := WP.eqn c_98_4 1 rfl rfl rfl
theorem w_98_5 : WP d 98 5 ls st h Q = wpL (kC d) (kJ d 98 Q) Q 1 [.iconst (-1), .ireturn] ls st h := WP.eqn c_98_5 1 rfl rfl rfl
theorem R_106 {a : Nat} {x0 : Int32} {x1 : Int32} : Run d 106 [.ref a, .int x0, .int x1] h Q = WP d 106 0 [.ref a, .int x0, .int x1] [] h Q := Run.eqn 3 rfl rfl
theorem w_106_0 : WP d 106 0 ls st h Q = wpL (kC d) (kJ d 106 Q) Q 1 [.iload 1, .invokestatic 113, .ifCond .ne 1, .iload 2, .ldc_w 0, .ldc_w 7, .invokestatic 27, .ifCond .eq 2, .jsr 1] ls st h := WP.eqn c_106_0 1 rfl rfl rfl
theorem w_106_1 : WP d 106 1 ls st h Q = wpL (kC d) (kJ d 106 Q) Q 1 [.iconst (-1), .ireturn] ls st h := WP.eqn c_106_1 1 rfl rfl rfl
theorem w_106_2 : WP d 106 2 ls st h Q = wpL (kC d) (kJ d 106 Q) Q 1 [.iload 2, .tableswitch 6 5 7 #[3, 4, 5]] ls st h := WP.eqn c_106_2 1 rfl rfl rfl
theorem w_106_3 : WP d 106 3 ls st h Q = wpL (kC d) (kJ d 106 Q) Q 1 [.aload 0, .getfield 2816, .getfield 2756, .iload 1, .iaload, .ireturn] ls st h := WP.eqn c_106_3 1 rfl rfl rfl
theorem w_106_4 : WP d 106 4 ls st h Q = wpL (kC d) (kJ d 106 Q) Q 1 [.aload 0, .getfield 2816, .getfield 2757, .iload 1, .iaload, .ireturn] ls st h := WP.eqn c_106_4 1 rfl rfl rfl
theorem w_106_5 : WP d 106 5 ls st h Q = wpL (kC d) (kJ d 106 Q) Q 1 [.aload 0, .getfield 2816, .iload 1, .invokevirtual 111609, .ireturn] ls st h := WP.eqn c_106_5 1 rfl rfl rfl
theorem w_106_6 : WP d 106 6 ls st h Q = wpL (kC d) (kJ d 106 Q) Q 1 [.aload 0, .getfield 2816, .getfield 2755, .iload 1, .ldc_w 5, .imul, .iload 2, .iadd, .iaload, .ireturn] ls st h := WP.eqn c_106_6 1 rfl rfl rfl
theorem R_113 {x0 : Int32} : Run d 113 [.int x0] h Q = WP d 113 0 [.int x0] [] h Q := Run.eqn 1 rfl rfl
theorem w_113_0 : WP d 113 0 ls st h Q = wpL (kC d) (kJ d 113 Q) Q 2 [.iload 0, .ldc_w 0, .ldc_w 7, .invokestatic 27, .ireturn] ls st h := WP.eqn c_113_0 2 rfl rfl rfl
theorem R_123 {a : Nat} {x0 : Int32} {x1 : Int32} {x2 : Int32} : Run d 123 [.ref a, .int x0, .int x1, .int x2] h Q = WP d 123 0 [.ref a, .int x0, .int x1, .int x2] [] h Q := Run.eqn 4 rfl rfl
theorem w_123_0 : WP d 123 0 ls st h Q = wpL (kC d) (kJ d 123 Q) Q 1 [.iload 1, .invokestatic 113, .ifCond .ne 1, .iload 2, .ldc_w 0, .ldc_w 5, .invokestatic 27, .ifCond .eq 2, .jsr 1] ls st h := WP.eqn c_123_0 1 rfl rfl rfl
theorem w_123_1 : WP d 123 1 ls st h Q = wpL (kC d) (kJ d 123 Q) Q 1 [.iconst (-1), .ireturn] ls st h := WP.eqn c_123_1 1 rfl rfl rfl
theorem w_123_2 : WP d 123 2 ls st h Q = wpL (kC d) (kJ d 123 Q) Q 1 [.iload 3, .ldc_w 0, .iload 2, .ldc_w 5, .if_icmp .ne 3, .ldc_w 9, .goto 4] ls st h := WP.eqn c_123_2 1 rfl rfl rfl
theorem w_123_3 : WP d 123 3 ls st h Q = wpL (kC d) (kJ d 123 Q) Q 1 [.ldc_w 99, .jsr 4] ls st h := WP.eqn c_123_3 1 rfl rfl rfl
theorem w_123_4 : WP d 123 4 ls st h Q = wpL (kC d) (kJ d 123 Q) Q 1 [.invokestatic 27, .ifCond .eq 5, .iconst (-1), .ireturn] ls st h := WP.eqn c_123_4 1 rfl rfl rfl
theorem w_123_5 : WP d 123 5 ls st h Q = wpL (kC d) (kJ d 123 Q) Q 1 [.iload 2, .ldc_w 5, .if_icmp .ne 6, .aload 0, .getfield 2816, .getfield 2756, .iload 1, .iload 3, .invokestatic 51, .ireturn] ls st h := WP.eqn c_123_5 1 rfl rfl rfl
theorem w_123_6 : WP d 123 6 ls st h Q = wpL (kC d) (kJ d 123 Q) Q 1 [.aload 0, .getfield 2816, .getfield 2755, .iload 1, .ldc_w 5, .imul, .iload 2, .iadd, .iload 3, .invokestatic 51, .ireturn] ls st h := WP.eqn c_123_6 1 rfl rfl rfl
theorem R_132 {a : Nat} {x0 : Int32} {x1 : Int32} {x2 : Int32} {x3 : Int32} : Run d 132 [.ref a, .int x0, .int x1, .int x2, .int x3] h Q = WP d 132 0 [.ref a, .int x0, .int x1, .int x2, .int x3] [] h Q := Run.eqn 5 rfl rfl
theorem w_132_0 : WP d 132 0 ls st h Q = wpL (kC d) (kJ d 132 Q) Q 1 [.iload 1, .invokestatic 137, .ifCond .ne 1, .iload 2, .ldc_w 0, .ldc_w 9, .invokestatic 27, .ifCond .ne 1, .iload 3, .invokestatic 113, .ifCond .ne 1, .iload 4, .ldc_w 0, .ldc_w 9, .invokestatic 27, .ifCond .eq 2, .jsr 1] ls st h := WP.eqn c_132_0 1 rfl rfl rfl
theorem w_132_1 : WP d 132 1 ls st h Q = wpL (kC d) (kJ d 132 Q) Q 1 [.iconst (-1), .ireturn] ls st h := WP.eqn c_132_1 1 rfl rfl rfl
theorem w_132_2 : WP d 132 2 ls st h Q = wpL (kC d) (kJ d 132 Q) Q 1 [.aload 0, .getfield 2816, .getfield 718, .ldc_w 6, .if_icmp .lt 3, .iconst (-2), .ireturn] ls st h := WP.eqn c_132_2 1 rfl rfl rfl
theorem w_132_3 : WP d 132 3 ls st h Q = wpL (kC d) (kJ d 132 Q) Q 1 [.aload 0, .getfield 2816, .iload 1, .iload 2, .iload 3, .iload 4, .invokevirtual 111588, .ireturn] ls st h := WP.eqn c_132_3 1 rfl rfl rfl
theorem R_137 {x0 : Int32} : Run d 137 [.int x0] h Q = WP d 137 0 [.int x0] [] h Q := Run.eqn 1 rfl rfl
theorem w_137_0 : WP d 137 0 ls st h Q = wpL (kC d) (kJ d 137 Q) Q 2 [.iload 0, .ldc_w 0, .ldc_w 5, .invokestatic 27, .ireturn] ls st h := WP.eqn c_137_0 2 rfl rfl rfl
theorem R_146 {a : Nat} {x0 : Int32} {x1 : Int32} : Run d 146 [.ref a, .int x0, .int x1] h Q = WP d 146 0 [.ref a, .int x0, .int x1] [] h Q := Run.eqn 3 rfl rfl
theorem w_146_0 : WP d 146 0 ls st h Q = wpL (kC d) (kJ d 146 Q) Q 1 [.aload 0, .iload 1, .invokevirtual 120153, .ifCond .ne 1, .iload 2, .ldc_w 0, .ldc_w 10, .invokestatic 27, .ifCond .eq 2, .jsr 1] ls st h := WP.eqn c_146_0 1 rfl rfl rfl
theorem w_146_1 : WP d 146 1 ls st h Q = wpL (kC d) (kJ d 146 Q) Q 1 [.iconst (-1), .ireturn] ls st h := WP.eqn c_146_1 1 rfl rfl rfl
theorem w_146_2 : WP d 146 2 ls st h Q = wpL (kC d) (kJ d 146 Q) Q 1 [.iload 2, .tableswitch 9 0 10 #[3, 4, 5, 6, 7, 9, 9, 9, 9, 9, 8]] ls st h := WP.eqn c_146_2 1 rfl rfl rfl
theorem w_146_3 : WP d 146 3 ls st h Q = wpL (kC d) (kJ d 146 Q) Q 1 [.aload 0, .getfield 2816, .getfield 2760, .iload 1, .iaload, .ireturn] ls st h := WP.eqn c_146_3 1 rfl rfl rfl
theorem w_146_4 : WP d 146 4 ls st h Q = wpL (kC d) (kJ d 146 Q) Q 1 [.aload 0, .getfield 2816, .getfield 2761, .iload 1, .iaload, .ireturn] ls st h := WP.eqn c_146_4 1 rfl rfl rfl
theorem w_146_5 : WP d 146 5 ls st h Q = wpL (kC d) (kJ d 146 Q) Q 1 [.aload 0, .getfield 2816, .getfield 2762, .iload 1, .iaload, .ireturn] ls st h := WP.eqn c_146_5 1 rfl rfl rfl
theorem w_146_6 : WP d 146 6 ls st h Q = wpL (kC d) (kJ d 146 Q) Q 1 [.aload 0, .getfield 2816, .getfield 2763, .iload 1, .iaload, .ireturn] ls st h := WP.eqn c_146_6 1 rfl rfl rfl
theorem w_146_7 : WP d 146 7 ls st h Q = wpL (kC d) (kJ d 146 Q) Q 1 [.aload 0, .getfield 2816, .getfield 2764, .iload 1, .iaload, .ireturn] ls st h := WP.eqn c_146_7 1 rfl rfl rfl
theorem w_146_8 : WP d 146 8 ls st h Q = wpL (kC d) (kJ d 146 Q) Q 1 [.aload 0, .getfield 2816, .iload 1, .invokevirtual 111617, .ireturn] ls st h := WP.eqn c_146_8 1 rfl rfl rfl
theorem w_146_9 : WP d 146 9 ls st h Q = wpL (kC d) (kJ d 146 Q) Q 1 [.aload 0, .getfield 2816, .getfield 2765, .iload 1, .ldc_w 5, .imul, .iload 2, .iadd, .ldc_w 5, .isub, .iaload, .ireturn] ls st h := WP.eqn c_146_9 1 rfl rfl rfl
theorem R_153 {a : Nat} {x0 : Int32} : Run d 153 [.ref a, .int x0] h Q = WP d 153 0 [.ref a, .int x0] [] h Q := Run.eqn 2 rfl rfl
theorem w_153_0 : WP d 153 0 ls st h Q = wpL (kC d) (kJ d 153 Q) Q 2 [.iload 1, .ldc_w 0, .aload 0, .getfield 2816, .getfield 718, .ldc_w 1, .isub, .invokestatic 27, .ireturn] ls st h := WP.eqn c_153_0 2 rfl rfl rfl
theorem R_163 {a : Nat} {x0 : Int32} {x1 : Int32} {x2 : Int32} : Run d 163 [.ref a, .int x0, .int x1, .int x2] h Q = WP d 163 0 [.ref a, .int x0, .int x1, .int x2] [] h Q := Run.eqn 4 rfl rfl
theorem w_163_0 : WP d 163 0 ls st h Q = wpL (kC d) (kJ d 163 Q) Q 1 [.aload 0, .iload 1, .invokevirtual 120153, .ifCond .ne 1, .iload 2, .invokestatic 137, .ifCond .ne 1, .iload 3, .ldc_w 0, .ldc_w 9, .invokestatic 27, .ifCond .eq 2, .jsr 1] ls st h := WP.eqn c_163_0 1 rfl rfl rfl
theorem w_163_1 : WP d 163 1 ls st h Q = wpL (kC d) (kJ d 163 Q) Q 1 [.iconst (-1), .ireturn] ls st h := WP.eqn c_163_1 1 rfl rfl rfl
theorem w_163_2 : WP d 163 2 ls st h Q = wpL (kC d) (kJ d 163 Q) Q 1 [.aload 0, .getfield 2816, .getfield 2761, .iload 1, .iload 3, .iastore, .aload 0, .getfield 2816, .getfield 2760, .iload 1, .iload 2, .invokestatic 51, .ireturn] ls st h := WP.eqn c_163_2 1 rfl rfl rfl
theorem R_170 {a : Nat} {x0 : Int32} {x1 : Int32} : Run d 170 [.ref a, .int x0, .int x1] h Q = WP d 170 0 [.ref a, .int x0, .int x1] [] h Q := Run.eqn 3 rfl rfl
theorem w_170_0 : WP d 170 0 ls st h Q = wpL (kC d) (kJ d 170 Q) Q 1 [.aload 0, .iload 1, .invokevirtual 120153, .ifCond .ne 1, .iload 2, .invokestatic 113, .ifCond .eq 2, .jsr 1] ls st h := WP.eqn c_170_0 1 rfl rfl rfl
theorem w_170_1 : WP d 170 1 ls st h Q = wpL (kC d) (kJ d 170 Q) Q 1 [.iconst (-1), .ireturn] ls st h := WP.eqn c_170_1 1 rfl rfl rfl
theorem w_170_2 : WP d 170 2 ls st h Q = wpL (kC d) (kJ d 170 Q) Q 1 [.aload 0, .getfield 2816, .getfield 2762, .iload 1, .iload 2, .invokestatic 51, .ireturn] ls st h := WP.eqn c_170_2 1 rfl rfl rfl
theorem R_178 {a : Nat} {x0 : Int32} {x1 : Int32} : Run d 178 [.ref a, .int x0, .int x1] h Q = WP d 178 0 [.ref a, .int x0, .int x1] [] h Q := Run.eqn 3 rfl rfl
theorem w_178_0 : WP d 178 0 ls st h Q = wpL (kC d) (kJ d 178 Q) Q 1 [.aload 0, .iload 1, .invokevirtual 120153, .ifCond .ne 1, .iload 2, .ldc_w 0, .ldc_w 9, .invokestatic 27, .ifCond .eq 2, .jsr 1] ls st h := WP.eqn c_178_0 1 rfl rfl rfl
theorem w_178_1 : WP d 178 1 ls st h Q = wpL (kC d) (kJ d 178 Q) Q 1 [.iconst (-1), .ireturn] ls st h := WP.eqn c_178_1 1 rfl rfl rfl
theorem w_178_2 : WP d 178 2 ls st h Q = wpL (kC d) (kJ d 178 Q) Q 1 [.aload 0, .getfield 2816, .getfield 2763, .iload 1, .iload 2, .invokestatic 51, .ireturn] ls st h := WP.eqn c_178_2 1 rfl rfl rfl
theorem R_185 {a : Nat} {x0 : Int32} : Run d 185 [.ref a, .int x0] h Q = WP d 185 0 [.ref a, .int x0] [] h Q := Run.eqn 2 rfl rfl
theorem w_185_0 : WP d 185 0 ls st h Q = wpL (kC d) (kJ d 185 Q) Q 1 [.aload 0, .iload 1, .invokevirtual 120153, .ifCond .eq 1, .iconst (-1), .goto 2] ls st h := WP.eqn c_185_0 1 rfl rfl rfl
theorem w_185_1 : WP d 185 1 ls st h Q = wpL (kC d) (kJ d 185 Q) Q 1 [.aload 0, .getfield 2816, .getfield 2764, .iload 1, .ldc_w 0, .invokestatic 51, .jsr 2] ls st h := WP.eqn c_185_1 1 rfl rfl rfl
theorem w_185_2 : WP d 185 2 ls st h Q = wpL (kC d) (kJ d 185 Q) Q 1 [.ireturn] ls st h := WP.eqn c_185_2 1 rfl rfl rfl
theorem R_194 {a : Nat} {x0 : Int32} {x1 : Int32} : Run d 194 [.ref a, .int x0, .int x1] h Q = WP d 194 0 [.ref a, .int x0, .int x1] [] h Q := Run.eqn 3 rfl rfl
theorem w_194_0 : WP d 194 0 ls st h Q = wpL (kC d) (kJ d 194 Q) Q 1 [.aload 0, .iload 1, .invokevirtual 120153, .ifCond .ne 1, .iload 2, .invokestatic 73, .ifCond .eq 2, .jsr 1] ls st h := WP.eqn c_194_0 1 rfl rfl rfl
theorem w_194_1 : WP d 194 1 ls st h Q = wpL (kC d) (kJ d 194 Q) Q 1 [.iconst (-1), .goto 3] ls st h := WP.eqn c_194_1 1 rfl rfl rfl
theorem w_194_2 : WP d 194 2 ls st h Q = wpL (kC d) (kJ d 194 Q) Q 1 [.aload 0, .getfield 2816, .iload 1, .iload 2, .invokevirtual 111626, .jsr 3] ls st h := WP.eqn c_194_2 1 rfl rfl rfl
theorem w_194_3 : WP d 194 3 ls st h Q = wpL (kC d) (kJ d 194 Q) Q 1 [.ireturn] ls st h := WP.eqn c_194_3 1 rfl rfl rfl
theorem R_201 {a : Nat} {x0 : Int32} : Run d 201 [.ref a, .int x0] h Q = WP d 201 0 [.ref a, .int x0] [] h Q := Run.eqn 2 rfl rfl
theorem w_201_0 : WP d 201 0 ls st h Q = wpL (kC d) (kJ d 201 Q) Q 1 [.aload 0, .iload 1, .invokevirtual 120153, .ifCond .eq 1, .iconst (-1), .goto 2] ls st h := WP.eqn c_201_0 1 rfl rfl rfl
theorem w_201_1 : WP d 201 1 ls st h Q = wpL (kC d) (kJ d 201 Q) Q 1 [.aload 0, .getfield 2816, .iload 1, .invokevirtual 111641, .jsr 2] ls st h := WP.eqn c_201_1 1 rfl rfl rfl
theorem w_201_2 : WP d 201 2 ls st h Q = wpL (kC d) (kJ d 201 Q) Q 1 [.ireturn] ls st h := WP.eqn c_201_2 1 rfl rfl rfl
theorem R_209 {a : Nat} {x0 : Int32} : Run d 209 [.ref a, .int x0] h Q = WP d 209 0 [.ref a, .int x0] [] h Q := Run.eqn 2 rfl rfl
theorem w_209_0 : WP d 209 0 ls st h Q = wpL (kC d) (kJ d 209 Q) Q 1 [.aload 0, .iload 1, .invokevirtual 120153, .ifCond .eq 1, .iconst (-1), .ireturn] ls st h := WP.eqn c_209_0 1 rfl rfl rfl
theorem w_209_1 : WP d 209 1 ls st h Q = wpL (kC d) (kJ d 209 Q) Q 1 [.aload 0, .getfield 2816, .iload 1, .invokevirtual 111649, .ifCond .eq 2, .aload 0, .getfield 2816, .iload 1, .invokevirtual 111657, .goto 3] ls st h := WP.eqn c_209_1 1 rfl rfl rfl
theorem w_209_2 : WP d 209 2 ls st h Q = wpL (kC d) (kJ d 209 Q) Q 1 [.iconst (-4), .jsr 3] ls st h := WP.eqn c_209_2 1 rfl rfl rfl
theorem w_209_3 : WP d 209 3 ls st h Q = wpL (kC d) (kJ d 209 Q) Q 1 [.ireturn] ls st h := WP.eqn c_209_3 1 rfl rfl rfl
theorem R_218 {a : Nat} {x0 : Int32} {x1 : Int32} : Run d 218 [.ref a, .int x0, .int x1] h Q = WP d 218 0 [.ref a, .int x0, .int x1, .retAddr 0, .retAddr 0] [] h Q := Run.eqn 5 rfl rfl
theorem w_218_0 : WP d 218 0 ls st h Q = wpL (kC d) (kJ d 218 Q) Q 1 [.aload 0, .iload 1, .invokevirtual 120153, .ifCond .ne 1, .iload 2, .invokestatic 73, .ifCond .eq 2, .jsr 1] ls st h := WP.eqn c_218_0 1 rfl rfl rfl
theorem w_218_1 : WP d 218 1 ls st h Q = wpL (kC d) (kJ d 218 Q) Q 1 [.iconst (-1), .ireturn] ls st h := WP.eqn c_218_1 1 rfl rfl rfl
theorem w_218_2 : WP d 218 2 ls st h Q = wpL (kC d) (kJ d 218 Q) Q 1 [.aload 0, .getfield 2816, .getfield 2765, .iload 1, .ldc_w 5, .imul, .iload 2, .iadd, .ldc_w 0, .invokestatic 51, .istore 3, .aload 0, .getfield 2816, .getfield 2762, .iload 1, .iaload, .ldc_w 5, .imul, .iload 2, .iadd, .istore 4, .aload 0, .getfield 2816, .getfield 2755, .iload 4, .ldc_w 99, .aload 0, .getfield 2816, .getfield 2755, .iload 4, .iaload, .iload 3, .iadd, .invokedynamic 4, .iastore, .iload 3, .ireturn] ls st h := WP.eqn c_218_2 1 rfl rfl rfl
theorem R_225 {a : Nat} {x0 : Int32} : Run d 225 [.ref a, .int x0] h Q = WP d 225 0 [.ref a, .int x0, .retAddr 0, .retAddr 0] [] h Q := Run.eqn 4 rfl rfl
theorem w_225_0 : WP d 225 0 ls st h Q = wpL (kC d) (kJ d 225 Q) Q 1 [.aload 0, .iload 1, .invokevirtual 120153, .ifCond .eq 1, .iconst (-1), .ireturn] ls st h := WP.eqn c_225_0 1 rfl rfl rfl
theorem w_225_1 : WP d 225 1 ls st h Q = wpL (kC d) (kJ d 225 Q) Q 1 [.aload 0, .getfield 2816, .iload 1, .invokevirtual 111617, .istore 2, .aload 0, .getfield 2816, .dup, .getfield 720, .iload 2, .iadd, .putfield 720, .ldc_w 0, .istore 3, .jsr 2] ls st h := WP.eqn c_225_1 1 rfl rfl rfl
theorem w_225_2 : WP d 225 2 ls st h Q = wpL (kC d) (kJ d 225 Q) Q 1 [.iload 3, .ldc_w 5, .if_icmp .ge 3, .aload 0, .getfield 2816, .getfield 2765, .iload 1, .ldc_w 5, .imul, .iload 3, .iadd, .ldc_w 0, .iastore, .iinc 3 1, .goto 2] ls st h := WP.eqn c_225_2 1 rfl rfl rfl
theorem w_225_3 : WP d 225 3 ls st h Q = wpL (kC d) (kJ d 225 Q) Q 1 [.iload 2, .ireturn] ls st h := WP.eqn c_225_3 1 rfl rfl rfl
theorem R_233 {a : Nat} {x0 : Int32} : Run d 233 [.ref a, .int x0] h Q = WP d 233 0 [.ref a, .int x0, .retAddr 0] [] h Q := Run.eqn 3 rfl rfl
theorem w_233_0 : WP d 233 0 ls st h Q = wpL (kC d) (kJ d 233 Q) Q 1 [.iload 1, .ldc_w 1, .ldc_w 48, .invokestatic 27, .ifCond .eq 1, .iconst (-1), .ireturn] ls st h := WP.eqn c_233_0 1 rfl rfl rfl
theorem w_233_1 : WP d 233 1 ls st h Q = wpL (kC d) (kJ d 233 Q) Q 1 [.ldc_w 0, .istore 2, .jsr 2] ls st h := WP.eqn c_233_1 1 rfl rfl rfl
theorem w_233_2 : WP d 233 2 ls st h Q = wpL (kC d) (kJ d 233 Q) Q 1 [.iload 2, .iload 1, .if_icmp .ge 3, .aload 0, .getfield 2816, .invokevirtual 111664, .iinc 2 1, .goto 2] ls st h := WP.eqn c_233_2 1 rfl rfl rfl
theorem w_233_3 : WP d 233 3 ls st h Q = wpL (kC d) (kJ d 233 Q) Q 1 [.aload 0, .getfield 2816, .getfield 719, .ireturn] ls st h := WP.eqn c_233_3 1 rfl rfl rfl
theorem R_241 {a : Nat} {x0 : Int32} : Run d 241 [.ref a, .int x0] h Q = WP d 241 0 [.ref a, .int x0] [] h Q := Run.eqn 2 rfl rfl
theorem w_241_0 : WP d 241 0 ls st h Q = wpL (kC d) (kJ d 241 Q) Q 1 [.aload 0, .iload 1, .invokevirtual 120153, .ifCond .eq 1, .iconst (-1), .goto 2] ls st h := WP.eqn c_241_0 1 rfl rfl rfl
theorem w_241_1 : WP d 241 1 ls st h Q = wpL (kC d) (kJ d 241 Q) Q 1 [.aload 0, .getfield 2816, .iload 1, .invokevirtual 111681, .jsr 2] ls st h := WP.eqn c_241_1 1 rfl rfl rfl
theorem w_241_2 : WP d 241 2 ls st h Q = wpL (kC d) (kJ d 241 Q) Q 1 [.ireturn] ls st h := WP.eqn c_241_2 1 rfl rfl rfl
theorem R_249 {a : Nat} {x0 : Int32} : Run d 249 [.ref a, .int x0] h Q = WP d 249 0 [.ref a, .int x0, .retAddr 0] [] h Q := Run.eqn 3 rfl rfl
theorem w_249_0 : WP d 249 0 ls st h Q = wpL (kC d) (kJ d 249 Q) Q 1 [.aload 0, .getfield 2816, .getfield 721, .istore 2, .aload 0, .getfield 2816, .iload 1, .putfield 721, .iload 2, .ireturn] ls st h := WP.eqn c_249_0 1 rfl rfl rfl
theorem R_256 {a : Nat} : Run d 256 [.ref a] h Q = WP d 256 0 [.ref a] [] h Q := Run.eqn 1 rfl rfl
theorem w_256_0 : WP d 256 0 ls st h Q = wpL (kC d) (kJ d 256 Q) Q 1 [.aload 0, .getfield 2816, .invokevirtual 111696, .ireturn] ls st h := WP.eqn c_256_0 1 rfl rfl rfl
theorem R_266 {a : Nat} {x0 : Int32} {x1 : Int32} : Run d 266 [.ref a, .int x0, .int x1] h Q = WP d 266 0 [.ref a, .int x0, .int x1, .retAddr 0, .retAddr 0, .retAddr 0] [] h Q := Run.eqn 6 rfl rfl
theorem w_266_0 : WP d 266 0 ls st h Q = wpL (kC d) (kJ d 266 Q) Q 1 [.iload 1, .ldc_w 1, .ldc_w 30, .invokestatic 27, .ifCond .ne 1, .iload 2, .ldc_w 0, .ldc_w 999, .invokestatic 27, .ifCond .eq 2, .jsr 1] ls st h := WP.eqn c_266_0 1 rfl rfl rfl
theorem w_266_1 : WP d 266 1 ls st h Q = wpL (kC d) (kJ d 266 Q) Q 1 [.iconst (-1), .ireturn] ls st h := WP.eqn c_266_1 1 rfl rfl rfl
theorem w_266_2 : WP d 266 2 ls st h Q = wpL (kC d) (kJ d 266 Q) Q 1 [.aload 0, .getfield 2816, .getfield 721, .istore 3, .ldc_w 0, .istore 4, .ldc_w 0, .istore 5, .jsr 3] ls st h := WP.eqn c_266_2 1 rfl rfl rfl
theorem w_266_3 : WP d 266 3 ls st h Q = wpL (kC d) (kJ d 266 Q) Q 1 [.iload 5, .iload 1, .if_icmp .ge 5, .aload 0, .getfield 2818, .aload 0, .getfield 2816, .invokevirtual 111593, .aload 0, .getfield 2818, .iload 3, .putfield 721, .aload 0, .getfield 2818, .invokevirtual 111696, .iload 2, .if_icmp .lt 4, .iinc 4 1, .jsr 4] ls st h := WP.eqn c_266_3 1 rfl rfl rfl
theorem w_266_4 : WP d 266 4 ls st h Q = wpL (kC d) (kJ d 266 Q) Q 1 [.aload 0, .getfield 2818, .getfield 721, .istore 3, .iinc 5 1, .goto 3] ls st h := WP.eqn c_266_4 1 rfl rfl rfl
theorem w_266_5 : WP d 266 5 ls st h Q = wpL (kC d) (kJ d 266 Q) Q 1 [.iload 4, .ireturn] ls st h := WP.eqn c_266_5 1 rfl rfl rfl
theorem R_273 {a : Nat} {x0 : Int32} : Run d 273 [.ref a, .int x0] h Q = WP d 273 0 [.ref a, .int x0] [] h Q := Run.eqn 2 rfl rfl
theorem w_273_0 : WP d 273 0 ls st h Q = wpL (kC d) (kJ d 273 Q) Q 1 [.iload 1, .tableswitch 7 0 5 #[1, 2, 3, 4, 5, 6]] ls st h := WP.eqn c_273_0 1 rfl rfl rfl
theorem w_273_1 : WP d 273 1 ls st h Q = wpL (kC d) (kJ d 273 Q) Q 1 [.aload 0, .getfield 2816, .getfield 719, .ireturn] ls st h := WP.eqn c_273_1 1 rfl rfl rfl
theorem w_273_2 : WP d 273 2 ls st h Q = wpL (kC d) (kJ d 273 Q) Q 1 [.aload 0, .getfield 2816, .getfield 720, .ireturn] ls st h := WP.eqn c_273_2 1 rfl rfl rfl
theorem w_273_3 : WP d 273 3 ls st h Q = wpL (kC d) (kJ d 273 Q) Q 1 [.aload 0, .getfield 2816, .getfield 2755, .ldc_w 40, .invokestatic 282, .ireturn] ls st h := WP.eqn c_273_3 1 rfl rfl rfl
theorem w_273_4 : WP d 273 4 ls st h Q = wpL (kC d) (kJ d 273 Q) Q 1 [.aload 0, .getfield 2816, .getfield 2765, .aload 0, .getfield 2816, .getfield 718, .ldc_w 5, .imul, .invokestatic 282, .ireturn] ls st h := WP.eqn c_273_4 1 rfl rfl rfl
theorem w_273_5 : WP d 273 5 ls st h Q = wpL (kC d) (kJ d 273 Q) Q 1 [.aload 0, .getfield 2816, .invokevirtual 111704, .ireturn] ls st h := WP.eqn c_273_5 1 rfl rfl rfl
theorem w_273_6 : WP d 273 6 ls st h Q = wpL (kC d) (kJ d 273 Q) Q 1 [.aload 0, .invokevirtual 120288, .ireturn] ls st h := WP.eqn c_273_6 1 rfl rfl rfl
theorem w_273_7 : WP d 273 7 ls st h Q = wpL (kC d) (kJ d 273 Q) Q 1 [.iconst (-1), .ireturn] ls st h := WP.eqn c_273_7 1 rfl rfl rfl
theorem R_282 {x0 : Nat} {x1 : Int32} : Run d 282 [.ref x0, .int x1] h Q = WP d 282 0 [.ref x0, .int x1, .retAddr 0, .retAddr 0] [] h Q := Run.eqn 4 rfl rfl
theorem w_282_0 : WP d 282 0 ls st h Q = wpL (kC d) (kJ d 282 Q) Q 1 [.ldc_w 0, .istore 2, .ldc_w 0, .istore 3, .jsr 1] ls st h := WP.eqn c_282_0 1 rfl rfl rfl
theorem w_282_1 : WP d 282 1 ls st h Q = wpL (kC d) (kJ d 282 Q) Q 1 [.iload 3, .iload 1, .if_icmp .ge 2, .iload 3, .aload 0, .arraylength, .if_icmp .ge 2, .iload 2, .aload 0, .iload 3, .iaload, .iadd, .istore 2, .iinc 3 1, .goto 1] ls st h := WP.eqn c_282_1 1 rfl rfl rfl
theorem w_282_2 : WP d 282 2 ls st h Q = wpL (kC d) (kJ d 282 Q) Q 1 [.iload 2, .ireturn] ls st h := WP.eqn c_282_2 1 rfl rfl rfl
theorem R_288 {a : Nat} : Run d 288 [.ref a] h Q = WP d 288 0 [.ref a, .retAddr 0, .retAddr 0] [] h Q := Run.eqn 3 rfl rfl
theorem w_288_0 : WP d 288 0 ls st h Q = wpL (kC d) (kJ d 288 Q) Q 1 [.ldc_w 0, .istore 1, .ldc_w 0, .istore 2, .jsr 1] ls st h := WP.eqn c_288_0 1 rfl rfl rfl
theorem w_288_1 : WP d 288 1 ls st h Q = wpL (kC d) (kJ d 288 Q) Q 1 [.iload 2, .aload 0, .getfield 2816, .getfield 718, .if_icmp .ge 3, .aload 0, .getfield 2816, .iload 2, .invokevirtual 111649, .ifCond .eq 2, .iload 1, .ldc_w 1, .iload 2, .ishl, .ior, .istore 1, .jsr 2] ls st h := WP.eqn c_288_1 1 rfl rfl rfl
theorem w_288_2 : WP d 288 2 ls st h Q = wpL (kC d) (kJ d 288 Q) Q 1 [.iinc 2 1, .goto 1] ls st h := WP.eqn c_288_2 1 rfl rfl rfl
theorem w_288_3 : WP d 288 3 ls st h Q = wpL (kC d) (kJ d 288 Q) Q 1 [.iload 1, .ireturn] ls st h := WP.eqn c_288_3 1 rfl rfl rfl
theorem R_298 {a : Nat} {x0 : Int32} {x1 : Int32} : Run d 298 [.ref a, .int x0, .int x1] h Q = WP d 298 0 [.ref a, .int x0, .int x1] [] h Q := Run.eqn 3 rfl rfl
theorem w_298_0 : WP d 298 0 ls st h Q = wpL (kC d) (kJ d 298 Q) Q 1 [.aload 0, .iload 1, .invokevirtual 120153, .ifCond .ne 1, .iload 2, .ldc_w 0, .ldc_w 4, .invokestatic 27, .ifCond .eq 2, .jsr 1] ls st h := WP.eqn c_298_0 1 rfl rfl rfl
theorem w_298_1 : WP d 298 1 ls st h Q = wpL (kC d) (kJ d 298 Q) Q 1 [.iconst (-1), .ireturn] ls st h := WP.eqn c_298_1 1 rfl rfl rfl
theorem w_298_2 : WP d 298 2 ls st h Q = wpL (kC d) (kJ d 298 Q) Q 1 [.aload 0, .iload 1, .iload 2, .invokevirtual 120306, .aload 0, .getfield 2819, .getfield 389, .ireturn] ls st h := WP.eqn c_298_2 1 rfl rfl rfl
theorem R_306 {a : Nat} {x0 : Int32} {x1 : Int32} : Run d 306 [.ref a, .int x0, .int x1] h Q = WP d 306 0 [.ref a, .int x0, .int x1] [] h Q := Run.eqn 3 rfl rfl
theorem w_306_0 : WP d 306 0 ls st h Q = wpL (kC d) (kJ d 306 Q) Q 0 [.aload 0, .getfield 2819, .iload 1, .putfield 387, .aload 0, .getfield 2819, .iload 2, .putfield 388, .aload 0, .getfield 2819, .iconst (-1), .putfield 389, .aload 0, .getfield 2819, .getfield 2432, .ldc_w 0, .aaload, .aload 0, .getfield 2816, .invokevirtual 111593, .aload 0, .getfield 2819, .ldc_w 0, .invokestatic 314, .return_] ls st h := WP.eqn c_306_0 0 rfl rfl rfl
theorem R_314 {x0 : Nat} {x1 : Int32} : Run d 314 [.ref x0, .int x1] h Q = WP d 314 0 [.ref x0, .int x1, .retAddr 0, .retAddr 0, .retAddr 0, .retAddr 0, .retAddr 0] [] h Q := Run.eqn 7 rfl rfl
theorem w_314_0 : WP d 314 0 ls st h Q = wpL (kC d) (kJ d 314 Q) Q 0 [.aload 0, .getfield 2432, .iload 1, .aaload, .astore 2, .iload 1, .aload 0, .getfield 388, .if_icmp .ge 1, .iload 1, .ldc_w 4, .if_icmp .lt 2, .jsr 1] ls st h := WP.eqn c_314_0 0 rfl rfl rfl
theorem w_314_1 : WP d 314 1 ls st h Q = wpL (kC d) (kJ d 314 Q) Q 0 [.aload 0, .aload 2, .aload 0, .getfield 387, .invokevirtual 111617, .aload 0, .getfield 2432, .ldc_w 0, .aaload, .aload 0, .getfield 387, .invokevirtual 111617, .isub, .invokevirtual 62265, .return_] ls st h := WP.eqn c_314_1 0 rfl rfl rfl
theorem w_314_2 : WP d 314 2 ls st h Q = wpL (kC d) (kJ d 314 Q) Q 0 [.aload 0, .getfield 2432, .iload 1, .ldc_w 1, .iadd, .aaload, .astore 3, .aload 2, .getfield 2762, .aload 0, .getfield 387, .iaload, .istore 4, .ldc_w 0, .istore 5, .jsr 3] ls st h := WP.eqn c_314_2 0 rfl rfl rfl
theorem w_314_3 : WP d 314 3 ls st h Q = wpL (kC d) (kJ d 314 Q) Q 0 [.iload 5, .ldc_w 8, .if_icmp .ge 6, .iload 5, .iload 4, .isub, .ldc_w 8, .iadd, .ldc_w 8, .irem, .istore 6, .iload 6, .ldc_w 1, .if_icmp .le 4, .iload 6, .ldc_w 7, .if_icmp .ne 5, .jsr 4] ls st h := WP.eqn c_314_3 0 rfl rfl rfl
theorem w_314_4 : WP d 314 4 ls st h Q = wpL (kC d) (kJ d 314 Q) Q 0 [.aload 3, .aload 2, .invokevirtual 111593, .aload 3, .getfield 2762, .aload 0, .getfield 387, .iload 5, .iastore, .aload 0, .getfield 2433, .iload 1, .iload 5, .iastore, .aload 3, .aload 0, .getfield 387, .invokevirtual 111657, .pop, .aload 3, .invokevirtual 111664, .aload 0, .iload 1, .ldc_w 1, .iadd, .invokestatic 314, .jsr 5] ls st h := WP.eqn c_314_4 0 rfl rfl rfl
theorem w_314_5 : WP d 314 5 ls st h Q = wpL (kC d) (kJ d 314 Q) Q 0 [.iinc 5 1, .goto 3] ls st h := WP.eqn c_314_5 0 rfl rfl rfl
theorem w_314_6 : WP d 314 6 ls st h Q = wpL (kC d) (kJ d 314 Q) Q 0 [.return_] ls st h := WP.eqn c_314_6 0 rfl rfl rfl
theorem R_323 {a : Nat} {x0 : Int32} {x1 : Int32} {x2 : Int32} : Run d 323 [.ref a, .int x0, .int x1, .int x2] h Q = WP d 323 0 [.ref a, .int x0, .int x1, .int x2] [] h Q := Run.eqn 4 rfl rfl
theorem w_323_0 : WP d 323 0 ls st h Q = wpL (kC d) (kJ d 323 Q) Q 1 [.aload 0, .iload 1, .invokevirtual 120153, .ifCond .ne 1, .iload 2, .ldc_w 0, .ldc_w 4, .invokestatic 27, .ifCond .ne 1, .iload 3, .ldc_w 0, .ldc_w 3, .invokestatic 27, .ifCond .eq 2, .jsr 1] ls st h := WP.eqn c_323_0 1 rfl rfl rfl
theorem w_323_1 : WP d 323 1 ls st h Q = wpL (kC d) (kJ d 323 Q) Q 1 [.iconst (-1), .ireturn] ls st h := WP.eqn c_323_1 1 rfl rfl rfl
theorem w_323_2 : WP d 323 2 ls st h Q = wpL (kC d) (kJ d 323 Q) Q 1 [.iload 3, .iload 2, .if_icmp .lt 3, .iconst (-3), .ireturn] ls st h := WP.eqn c_323_2 1 rfl rfl rfl
theorem w_323_3 : WP d 323 3 ls st h Q = wpL (kC d) (kJ d 323 Q) Q 1 [.aload 0, .iload 1, .iload 2, .invokevirtual 120306, .aload 0, .getfield 2819, .getfield 2434, .iload 3, .iaload, .ireturn] ls st h := WP.eqn c_323_3 1 rfl rfl rfl
theorem R_331 {a : Nat} {x0 : Int32} {x1 : Int32} {x2 : Int32} : Run d 331 [.ref a, .int x0, .int x1, .int x2] h Q = WP d 331 0 [.ref a, .int x0, .int x1, .int x2, .retAddr 0, .retAddr 0, .retAddr 0, .retAddr 0] [] h Q := Run.eqn 8 rfl rfl
theorem w_331_0 : WP d 331 0 ls st h Q = wpL (kC d) (kJ d 331 Q) Q 1 [.aload 0, .iload 1, .invokevirtual 120153, .ifCond .ne 1, .iload 2, .ldc_w 1, .ldc_w 9, .invokestatic 27, .ifCond .ne 1, .iload 3, .ldc_w 0, .ldc_w 1, .invokestatic 27, .ifCond .eq 2, .jsr 1] ls st h := WP.eqn c_331_0 1 rfl rfl rfl
theorem w_331_1 : WP d 331 1 ls st h Q = wpL (kC d) (kJ d 331 Q) Q 1 [.iconst (-1), .ireturn] ls st h := WP.eqn c_331_1 1 rfl rfl rfl
theorem w_331_2 : WP d 331 2 ls st h Q = wpL (kC d) (kJ d 331 Q) Q 1 [.ldc_w 0, .istore 4, .ldc_w 0, .istore 5, .ldc_w 0, .istore 6, .jsr 3] ls st h := WP.eqn c_331_2 1 rfl rfl rfl
theorem w_331_3 : WP d 331 3 ls st h Q = wpL (kC d) (kJ d 331 Q) Q 1 [.iload 6, .ldc_w 9, .if_icmp .gt 5, .aload 0, .iload 1, .iload 6, .iload 2, .invokevirtual 120339, .istore 7, .iload 7, .iload 5, .if_icmp .lt 4, .iload 6, .istore 4, .iload 7, .istore 5, .jsr 4] ls st h := WP.eqn c_331_3 1 rfl rfl rfl
theorem w_331_4 : WP d 331 4 ls st h Q = wpL (kC d) (kJ d 331 Q) Q 1 [.iinc 6 1, .goto 3] ls st h := WP.eqn c_331_4 1 rfl rfl rfl
theorem w_331_5 : WP d 331 5 ls st h Q = wpL (kC d) (kJ d 331 Q) Q 1 [.iload 3, .ifCond .ne 6, .iload 4, .goto 7] ls st h := WP.eqn c_331_5 1 rfl rfl rfl
theorem w_331_6 : WP d 331 6 ls st h Q = wpL (kC d) (kJ d 331 Q) Q 1 [.iload 5, .jsr 7] ls st h := WP.eqn c_331_6 1 rfl rfl rfl
theorem w_331_7 : WP d 331 7 ls st h Q = wpL (kC d) (kJ d 331 Q) Q 1 [.ireturn] ls st h := WP.eqn c_331_7 1 rfl rfl rfl
theorem R_339 {a : Nat} {x0 : Int32} {x1 : Int32} {x2 : Int32} : Run d 339 [.ref a, .int x0, .int x1, .int x2] h Q = WP d 339 0 [.ref a, .int x0, .int x1, .int x2, .retAddr 0, .retAddr 0] [] h Q := Run.eqn 6 rfl rfl
theorem w_339_0 : WP d 339 0 ls st h Q = wpL (kC d) (kJ d 339 Q) Q 1 [.aload 0, .getfield 2818, .aload 0, .getfield 2816, .invokevirtual 111593, .aload 0, .getfield 2818, .getfield 2763, .iload 1, .iload 2, .iastore, .ldc_w 0, .istore 4, .ldc_w 0, .istore 5, .jsr 1] ls st h := WP.eqn c_339_0 1 rfl rfl rfl
theorem w_339_1 : WP d 339 1 ls st h Q = wpL (kC d) (kJ d 339 Q) Q 1 [.iload 5, .iload 3, .if_icmp .ge 2, .iload 4, .aload 0, .getfield 2818, .iload 1, .invokevirtual 111713, .iadd, .istore 4, .aload 0, .getfield 2818, .invokevirtual 111664, .iinc 5 1, .goto 1] ls st h := WP.eqn c_339_1 1 rfl rfl rfl
theorem w_339_2 : WP d 339 2 ls st h Q = wpL (kC d) (kJ d 339 Q) Q 1 [.iload 4, .ireturn] ls st h := WP.eqn c_339_2 1 rfl rfl rfl
theorem R_344 {a : Nat} : Run d 344 [.ref a] h Q = WP d 344 0 [.ref a, .retAddr 0, .retAddr 0] [] h Q := Run.eqn 3 rfl rfl
theorem w_344_0 : WP d 344 0 ls st h Q = wpL (kC d) (kJ d 344 Q) Q 1 [.aload 0, .getfield 2818, .aload 0, .getfield 2816, .invokevirtual 111593, .ldc_w 0, .istore 1, .jsr 1] ls st h := WP.eqn c_344_0 1 rfl rfl rfl
theorem w_344_1 : WP d 344 1 ls st h Q = wpL (kC d) (kJ d 344 Q) Q 1 [.iload 1, .ldc_w 48, .if_icmp .gt 5, .aload 0, .getfield 2818, .invokevirtual 111704, .ifCond .eq 2, .iload 1, .ireturn] ls st h := WP.eqn c_344_1 1 rfl rfl rfl
theorem w_344_2 : WP d 344 2 ls st h Q = wpL (kC d) (kJ d 344 Q) Q 1 [.ldc_w 0, .istore 2, .jsr 3] ls st h := WP.eqn c_344_2 1 rfl rfl rfl
theorem w_344_3 : WP d 344 3 ls st h Q = wpL (kC d) (kJ d 344 Q) Q 1 [.iload 2, .aload 0, .getfield 2818, .getfield 718, .if_icmp .ge 4, .aload 0, .getfield 2818, .iload 2, .invokevirtual 111657, .pop, .iinc 2 1, .goto 3] ls st h := WP.eqn c_344_3 1 rfl rfl rfl
theorem w_344_4 : WP d 344 4 ls st h Q = wpL (kC d) (kJ d 344 Q) Q 1 [.aload 0, .getfield 2818, .invokevirtual 111664, .iinc 1 1, .goto 1] ls st h := WP.eqn c_344_4 1 rfl rfl rfl
theorem w_344_5 : WP d 344 5 ls st h Q = wpL (kC d) (kJ d 344 Q) Q 1 [.iconst (-3), .ireturn] ls st h := WP.eqn c_344_5 1 rfl rfl rfl
theorem R_354 {a : Nat} {x0 : Int32} {x1 : Int32} : Run d 354 [.ref a, .int x0, .int x1] h Q = WP d 354 0 [.ref a, .int x0, .int x1] [] h Q := Run.eqn 3 rfl rfl
theorem w_354_0 : WP d 354 0 ls st h Q = wpL (kC d) (kJ d 354 Q) Q 1 [.iload 1, .invokestatic 361, .ifCond .ne 1, .iload 2, .ldc_w 0, .ldc_w 1, .invokestatic 27, .ifCond .eq 2, .jsr 1] ls st h := WP.eqn c_354_0 1 rfl rfl rfl
theorem w_354_1 : WP d 354 1 ls st h Q = wpL (kC d) (kJ d 354 Q) Q 1 [.iconst (-1), .ireturn] ls st h := WP.eqn c_354_1 1 rfl rfl rfl
theorem w_354_2 : WP d 354 2 ls st h Q = wpL (kC d) (kJ d 354 Q) Q 1 [.aload 0, .getfield 2822, .iload 1, .aaload, .ifnonnull 3, .iconst (-11), .ireturn] ls st h := WP.eqn c_354_2 1 rfl rfl rfl
theorem w_354_3 : WP d 354 3 ls st h Q = wpL (kC d) (kJ d 354 Q) Q 1 [.aload 0, .aload 0, .getfield 2822, .iload 1, .aaload, .invokevirtual 120369, .iload 2, .ifCond .ne 4, .aload 0, .invokevirtual 120376, .goto 5] ls st h := WP.eqn c_354_3 1 rfl rfl rfl
theorem w_354_4 : WP d 354 4 ls st h Q = wpL (kC d) (kJ d 354 Q) Q 1 [.aload 0, .invokevirtual 120384, .jsr 5] ls st h := WP.eqn c_354_4 1 rfl rfl rfl
theorem w_354_5 : WP d 354 5 ls st h Q = wpL (kC d) (kJ d 354 Q) Q 1 [.ireturn] ls st h := WP.eqn c_354_5 1 rfl rfl rfl
theorem R_361 {x0 : Int32} : Run d 361 [.int x0] h Q = WP d 361 0 [.int x0] [] h Q := Run.eqn 1 rfl rfl
theorem w_361_0 : WP d 361 0 ls st h Q = wpL (kC d) (kJ d 361 Q) Q 2 [.iload 0, .ldc_w 0, .ldc_w 3, .invokestatic 27, .ireturn] ls st h := WP.eqn c_361_0 2 rfl rfl rfl
theorem R_369 {a : Nat} {x0 : Nat} : Run d 369 [.ref a, .ref x0] h Q = WP d 369 0 [.ref a, .ref x0, .retAddr 0, .retAddr 0] [] h Q := Run.eqn 4 rfl rfl
theorem w_369_0 : WP d 369 0 ls st h Q = wpL (kC d) (kJ d 369 Q) Q 0 [.ldc_w 0, .istore 2, .jsr 1] ls st h := WP.eqn c_369_0 0 rfl rfl rfl
theorem w_369_1 : WP d 369 1 ls st h Q = wpL (kC d) (kJ d 369 Q) Q 0 [.iload 2, .aload 0, .getfield 2826, .arraylength, .if_icmp .ge 2, .aload 0, .getfield 2826, .iload 2, .ldc_w 1, .bastore, .iinc 2 1, .goto 1] ls st h := WP.eqn c_369_1 0 rfl rfl rfl
theorem w_369_2 : WP d 369 2 ls st h Q = wpL (kC d) (kJ d 369 Q) Q 0 [.aload 0, .getfield 2818, .aload 0, .getfield 2816, .invokevirtual 111593, .ldc_w 0, .istore 2, .jsr 3] ls st h := WP.eqn c_369_2 0 rfl rfl rfl
theorem w_369_3 : WP d 369 3 ls st h Q = wpL (kC d) (kJ d 369 Q) Q 0 [.iload 2, .aload 1, .getfield 2561, .arraylength, .if_icmp .ge 8, .ldc_w 0, .istore 3, .jsr 4] ls st h := WP.eqn c_369_3 0 rfl rfl rfl
theorem w_369_4 : WP d 369 4 ls st h Q = wpL (kC d) (kJ d 369 Q) Q 0 [.iload 3, .aload 0, .getfield 2826, .arraylength, .if_icmp .ge 7, .aload 0, .getfield 2826, .iload 3, .aload 0, .getfield 2826, .iload 3, .baload, .ifCond .eq 5, .aload 0, .getfield 2818, .getfield 2755, .iload 3, .iaload, .i2l, .aload 1, .getfield 2561, .iload 2, .laload, .lcmp, .ifCond .ne 5, .ldc_w 1, .goto 6] ls st h := WP.eqn c_369_4 0 rfl rfl rfl
theorem w_369_5 : WP d 369 5 ls st h Q = wpL (kC d) (kJ d 369 Q) Q 0 [.ldc_w 0, .jsr 6] ls st h := WP.eqn c_369_5 0 rfl rfl rfl
theorem w_369_6 : WP d 369 6 ls st h Q = wpL (kC d) (kJ d 369 Q) Q 0 [.bastore, .iinc 3 1, .goto 4] ls st h := WP.eqn c_369_6 0 rfl rfl rfl
theorem w_369_7 : WP d 369 7 ls st h Q = wpL (kC d) (kJ d 369 Q) Q 0 [.aload 0, .getfield 2818, .invokevirtual 111664, .iinc 2 1, .goto 3] ls st h := WP.eqn c_369_7 0 rfl rfl rfl
theorem w_369_8 : WP d 369 8 ls st h Q = wpL (kC d) (kJ d 369 Q) Q 0 [.return_] ls st h := WP.eqn c_369_8 0 rfl rfl rfl
theorem R_376 {a : Nat} : Run d 376 [.ref a] h Q = WP d 376 0 [.ref a, .retAddr 0, .retAddr 0] [] h Q := Run.eqn 3 rfl rfl
theorem w_376_0 : WP d 376 0 ls st h Q = wpL (kC d) (kJ d 376 Q) Q 1 [.ldc_w 0, .istore 1, .ldc_w 0, .istore 2, .jsr 1] ls st h := WP.eqn c_376_0 1 rfl rfl rfl
theorem w_376_1 : WP d 376 1 ls st h Q = wpL (kC d) (kJ d 376 Q) Q 1 [.iload 2, .aload 0, .getfield 2826, .arraylength, .if_icmp .ge 3, .aload 0, .getfield 2826, .iload 2, .baload, .ifCond .eq 2, .iinc 1 1, .jsr 2] ls st h := WP.eqn c_376_1 1 rfl rfl rfl
theorem w_376_2 : WP d 376 2 ls st h Q = wpL (kC d) (kJ d 376 Q) Q 1 [.iinc 2 1, .goto 1] ls st h := WP.eqn c_376_2 1 rfl rfl rfl
theorem w_376_3 : WP d 376 3 ls st h Q = wpL (kC d) (kJ d 376 Q) Q 1 [.iload 1, .ireturn] ls st h := WP.eqn c_376_3 1 rfl rfl rfl
theorem R_384 {a : Nat} : Run d 384 [.ref a] h Q = WP d 384 0 [.ref a, .retAddr 0] [] h Q := Run.eqn 2 rfl rfl
theorem w_384_0 : WP d 384 0 ls st h Q = wpL (kC d) (kJ d 384 Q) Q 1 [.ldc_w 0, .istore 1, .jsr 1] ls st h := WP.eqn c_384_0 1 rfl rfl rfl
theorem w_384_1 : WP d 384 1 ls st h Q = wpL (kC d) (kJ d 384 Q) Q 1 [.iload 1, .aload 0, .getfield 2826, .arraylength, .if_icmp .ge 3, .aload 0, .getfield 2826, .iload 1, .baload, .ifCond .eq 2, .ldc_w 10, .iload 1, .ldc_w 5, .idiv, .imul, .iload 1, .ldc_w 5, .irem, .iadd, .ireturn] ls st h := WP.eqn c_384_1 1 rfl rfl rfl
theorem w_384_2 : WP d 384 2 ls st h Q = wpL (kC d) (kJ d 384 Q) Q 1 [.iinc 1 1, .goto 1] ls st h := WP.eqn c_384_2 1 rfl rfl rfl
theorem w_384_3 : WP d 384 3 ls st h Q = wpL (kC d) (kJ d 384 Q) Q 1 [.iconst (-3), .ireturn] ls st h := WP.eqn c_384_3 1 rfl rfl rfl
theorem R_394 {a : Nat} {x0 : Int32} {x1 : Int32} : Run d 394 [.ref a, .int x0, .int x1] h Q = WP d 394 0 [.ref a, .int x0, .int x1, .retAddr 0, .retAddr 0, .retAddr 0] [] h Q := Run.eqn 6 rfl rfl
theorem w_394_0 : WP d 394 0 ls st h Q = wpL (kC d) (kJ d 394 Q) Q 1 [.iload 1, .invokestatic 73, .ifCond .ne 1, .iload 2, .ldc_w 0, .ldc_w 999, .invokestatic 27, .ifCond .eq 2, .jsr 1] ls st h := WP.eqn c_394_0 1 rfl rfl rfl
theorem w_394_1 : WP d 394 1 ls st h Q = wpL (kC d) (kJ d 394 Q) Q 1 [.iconst (-1), .ireturn] ls st h := WP.eqn c_394_1 1 rfl rfl rfl
theorem w_394_2 : WP d 394 2 ls st h Q = wpL (kC d) (kJ d 394 Q) Q 1 [.iconst (-3), .istore 3, .ldc_w 0, .istore 4, .jsr 3] ls st h := WP.eqn c_394_2 1 rfl rfl rfl
theorem w_394_3 : WP d 394 3 ls st h Q = wpL (kC d) (kJ d 394 Q) Q 1 [.iload 4, .ldc_w 1, .aload 0, .getfield 2816, .getfield 718, .ishl, .if_icmp .ge 8, .iload 3, .iconst (-3), .if_icmp .eq 4, .iload 4, .invokestatic 2273, .iload 3, .invokestatic 2273, .if_icmp .ge 5, .jsr 4] ls st h := WP.eqn c_394_3 1 rfl rfl rfl
theorem w_394_4 : WP d 394 4 ls st h Q = wpL (kC d) (kJ d 394 Q) Q 1 [.ldc_w 1, .goto 6] ls st h := WP.eqn c_394_4 1 rfl rfl rfl
theorem w_394_5 : WP d 394 5 ls st h Q = wpL (kC d) (kJ d 394 Q) Q 1 [.ldc_w 0, .jsr 6] ls st h := WP.eqn c_394_5 1 rfl rfl rfl
theorem w_394_6 : WP d 394 6 ls st h Q = wpL (kC d) (kJ d 394 Q) Q 1 [.istore 5, .iload 5, .ifCond .eq 7, .aload 0, .getfield 2816, .iload 4, .iload 1, .invokevirtual 111722, .iload 2, .if_icmp .ne 7, .iload 4, .istore 3, .jsr 7] ls st h := WP.eqn c_394_6 1 rfl rfl rfl
theorem w_394_7 : WP d 394 7 ls st h Q = wpL (kC d) (kJ d 394 Q) Q 1 [.iinc 4 1, .goto 3] ls st h := WP.eqn c_394_7 1 rfl rfl rfl
theorem w_394_8 : WP d 394 8 ls st h Q = wpL (kC d) (kJ d 394 Q) Q 1 [.iload 3, .ireturn] ls st h := WP.eqn c_394_8 1 rfl rfl rfl
theorem R_400 {a : Nat} : Run d 400 [.ref a] h Q = WP d 400 0 [.ref a, .retAddr 0, .retAddr 0, .retAddr 0, .retAddr 0, .retAddr 0, .retAddr 0] [] h Q := Run.eqn 7 rfl rfl
theorem w_400_0 : WP d 400 0 ls st h Q = wpL (kC d) (kJ d 400 Q) Q 1 [.ldc_w 0, .istore 1, .ldc_w 1, .istore 2, .jsr 1] ls st h := WP.eqn c_400_0 1 rfl rfl rfl
theorem w_400_1 : WP d 400 1 ls st h Q = wpL (kC d) (kJ d 400 Q) Q 1 [.iload 2, .ldc_w 4, .if_icmp .ge 3, .aload 0, .getfield 2816, .getfield 2759, .iload 2, .iaload, .i2l, .ldc_w 1, .aload 0, .getfield 2816, .iload 1, .invokevirtual 111601, .invokedynamic 3, .i2l, .lmul, .lstore 3, .aload 0, .getfield 2816, .getfield 2759, .iload 1, .iaload, .i2l, .ldc_w 1, .aload 0, .getfield 2816, .iload 2, .invokevirtual 111601, .invokedynamic 3, .i2l, .lmul, .lstore 5, .lload 3, .lload 5, .lcmp, .ifCond .le 2, .iload 2, .istore 1, .jsr 2] ls st h := WP.eqn c_400_1 1 rfl rfl rfl
theorem w_400_2 : WP d 400 2 ls st h Q = wpL (kC d) (kJ d 400 Q) Q 1 [.iinc 2 1, .goto 1] ls st h := WP.eqn c_400_2 1 rfl rfl rfl
theorem w_400_3 : WP d 400 3 ls st h Q = wpL (kC d) (kJ d 400 Q) Q 1 [.iload 1, .ireturn] ls st h := WP.eqn c_400_3 1 rfl rfl rfl
theorem R_411 {a : Nat} {x0 : Int32} {x1 : Int32} {x2 : Int32} : Run d 411 [.ref a, .int x0, .int x1, .int x2] h Q = WP d 411 0 [.ref a, .int x0, .int x1, .int x2, .retAddr 0] [] h Q := Run.eqn 5 rfl rfl
theorem w_411_0 : WP d 411 0 ls st h Q = wpL (kC d) (kJ d 411 Q) Q 1 [.iload 1, .invokestatic 113, .ifCond .ne 1, .iload 2, .invokestatic 73, .ifCond .ne 1, .iload 3, .ldc_w 0, .ldc_w 99, .invokestatic 27, .ifCond .eq 2, .jsr 1] ls st h := WP.eqn c_411_0 1 rfl rfl rfl
theorem w_411_1 : WP d 411 1 ls st h Q = wpL (kC d) (kJ d 411 Q) Q 1 [.iconst (-1), .ireturn] ls st h := WP.eqn c_411_1 1 rfl rfl rfl
theorem w_411_2 : WP d 411 2 ls st h Q = wpL (kC d) (kJ d 411 Q) Q 1 [.aload 0, .getfield 2818, .aload 0, .getfield 2816, .invokevirtual 111593, .ldc_w 0, .istore 4, .jsr 3] ls st h := WP.eqn c_411_2 1 rfl rfl rfl
theorem w_411_3 : WP d 411 3 ls st h Q = wpL (kC d) (kJ d 411 Q) Q 1 [.iload 4, .ldc_w 48, .if_icmp .gt 5, .aload 0, .getfield 2818, .getfield 2755, .iload 1, .ldc_w 5, .imul, .iload 2, .iadd, .iaload, .iload 3, .if_icmp .lt 4, .iload 4, .ireturn] ls st h := WP.eqn c_411_3 1 rfl rfl rfl
theorem w_411_4 : WP d 411 4 ls st h Q = wpL (kC d) (kJ d 411 Q) Q 1 [.aload 0, .getfield 2818, .invokevirtual 111664, .iinc 4 1, .goto 3] ls st h := WP.eqn c_411_4 1 rfl rfl rfl
theorem w_411_5 : WP d 411 5 ls st h Q = wpL (kC d) (kJ d 411 Q) Q 1 [.iconst (-3), .ireturn] ls st h := WP.eqn c_411_5 1 rfl rfl rfl
theorem R_418 {a : Nat} {x0 : Int32} {x1 : Int32} : Run d 418 [.ref a, .int x0, .int x1] h Q = WP d 418 0 [.ref a, .int x0, .int x1, .retAddr 0, .retAddr 0] [] h Q := Run.eqn 5 rfl rfl
theorem w_418_0 : WP d 418 0 ls st h Q = wpL (kC d) (kJ d 418 Q) Q 3 [.iload 1, .ldc_w 0, .ldc_w 8, .invokestatic 27, .ifCond .ne 1, .iload 2, .ldc_w 0, .ldc_w 1, .invokestatic 27, .ifCond .eq 2, .jsr 1] ls st h := WP.eqn c_418_0 3 rfl rfl rfl
theorem w_418_1 : WP d 418 1 ls st h Q = wpL (kC d) (kJ d 418 Q) Q 3 [.jsr_w (-1), .lreturn] ls st h := WP.eqn c_418_1 3 rfl rfl rfl
theorem w_418_2 : WP d 418 2 ls st h Q = wpL (kC d) (kJ d 418 Q) Q 3 [.ldc2_w 100, .iload 1, .invokestatic 426, .lstore 3, .lload 3, .aload 0, .getfield 2816, .getfield 2753, .ldc_w 0, .iaload, .i2l, .iload 1, .invokestatic 426, .lsub, .lload 3, .iload 2, .invokestatic 435, .lreturn] ls st h := WP.eqn c_418_2 3 rfl rfl rfl
theorem R_426 {x0 : Int64} {x1 : Int32} : Run d 426 [.long x0, .int x1] h Q = WP d 426 0 [.long x0, .retAddr 0, .int x1, .retAddr 0, .retAddr 0, .retAddr 0] [] h Q := Run.eqn 6 rfl rfl
theorem w_426_0 : WP d 426 0 ls st h Q = wpL (kC d) (kJ d 426 Q) Q 3 [.ldc2_w 1, .lstore 3, .ldc_w 0, .istore 5, .jsr 1] ls st h := WP.eqn c_426_0 3 rfl rfl rfl
theorem w_426_1 : WP d 426 1 ls st h Q = wpL (kC d) (kJ d 426 Q) Q 3 [.iload 5, .iload 2, .if_icmp .ge 2, .lload 3, .lload 0, .lmul, .lstore 3, .iinc 5 1, .goto 1] ls st h := WP.eqn c_426_1 3 rfl rfl rfl
theorem w_426_2 : WP d 426 2 ls st h Q = wpL (kC d) (kJ d 426 Q) Q 3 [.lload 3, .lreturn] ls st h := WP.eqn c_426_2 3 rfl rfl rfl
theorem R_435 {x0 : Int64} {x1 : Int64} {x2 : Int32} : Run d 435 [.long x0, .long x1, .int x2] h Q = WP d 435 0 [.long x0, .retAddr 0, .long x1, .retAddr 0, .int x2, .retAddr 0, .retAddr 0, .retAddr 0, .retAddr 0, .retAddr 0, .retAddr 0, .retAddr 0] [] h Q := Run.eqn 12 rfl rfl
theorem w_435_0 : WP d 435 0 ls st h Q = wpL (kC d) (kJ d 435 Q) Q 3 [.lload 2, .lstore 5, .lload 0, .lstore 7, .ldc_w 0, .istore 9, .jsr 1] ls st h := WP.eqn c_435_0 3 rfl rfl rfl
theorem w_435_1 : WP d 435 1 ls st h Q = wpL (kC d) (kJ d 435 Q) Q 3 [.iload 9, .ldc_w 200, .if_icmp .ge 2, .lload 7, .ldc2_w 0, .lcmp, .ifCond .eq 2, .lload 5, .lload 7, .lrem, .lstore 10, .lload 7, .lstore 5, .lload 10, .lstore 7, .iinc 9 1, .goto 1] ls st h := WP.eqn c_435_1 3 rfl rfl rfl
theorem w_435_2 : WP d 435 2 ls st h Q = wpL (kC d) (kJ d 435 Q) Q 3 [.iload 4, .ifCond .ne 3, .lload 0, .goto 4] ls st h := WP.eqn c_435_2 3 rfl rfl rfl
theorem w_435_3 : WP d 435 3 ls st h Q = wpL (kC d) (kJ d 435 Q) Q 3 [.lload 2, .jsr 4] ls st h := WP.eqn c_435_3 3 rfl rfl rfl
theorem w_435_4 : WP d 435 4 ls st h Q = wpL (kC d) (kJ d 435 Q) Q 3 [.lstore 9, .lload 5, .ldc2_w 0, .lcmp, .ifCond .ne 5, .lload 9, .goto 6] ls st h := WP.eqn c_435_4 3 rfl rfl rfl
theorem w_435_5 : WP d 435 5 ls st h Q = wpL (kC d) (kJ d 435 Q) Q 3 [.lload 9, .lload 5, .ldiv, .jsr 6] ls st h := WP.eqn c_435_5 3 rfl rfl rfl
theorem w_435_6 : WP d 435 6 ls st h Q = wpL (kC d) (kJ d 435 Q) Q 3 [.lreturn] ls st h := WP.eqn c_435_6 3 rfl rfl rfl
theorem R_443 {a : Nat} {x0 : Int32} {x1 : Int32} {x2 : Int32} : Run d 443 [.ref a, .int x0, .int x1, .int x2] h Q = WP d 443 0 [.ref a, .int x0, .int x1, .int x2, .retAddr 0, .retAddr 0, .retAddr 0, .retAddr 0, .retAddr 0, .retAddr 0, .retAddr 0, .retAddr 0] [] h Q := Run.eqn 12 rfl rfl
theorem w_443_0 : WP d 443 0 ls st h Q = wpL (kC d) (kJ d 443 Q) Q 3 [.aload 0, .iload 1, .invokevirtual 120153, .ifCond .ne 1, .iload 2, .ldc_w 0, .ldc_w 5, .invokestatic 27, .ifCond .ne 1, .iload 3, .ldc_w 0, .ldc_w 1, .invokestatic 27, .ifCond .eq 2, .jsr 1] ls st h := WP.eqn c_443_0 3 rfl rfl rfl
theorem w_443_1 : WP d 443 1 ls st h Q = wpL (kC d) (kJ d 443 Q) Q 3 [.jsr_w (-1), .lreturn] ls st h := WP.eqn c_443_1 3 rfl rfl rfl
theorem w_443_2 : WP d 443 2 ls st h Q = wpL (kC d) (kJ d 443 Q) Q 3 [.aload 0, .getfield 2816, .getfield 2753, .ldc_w 0, .iaload, .istore 4, .ldc2_w 0, .lstore 5, .ldc2_w 0, .lstore 7, .ldc2_w 1, .lstore 9, .aload 0, .getfield 2818, .aload 0, .getfield 2816, .invokevirtual 111593, .ldc_w 0, .istore 11, .jsr 3] ls st h := WP.eqn c_443_2 3 rfl rfl rfl
theorem w_443_3 : WP d 443 3 ls st h Q = wpL (kC d) (kJ d 443 Q) Q 3 [.iload 11, .iload 2, .if_icmp .gt 4, .lload 5, .lload 7, .lload 9, .lmul, .ldc_w 100, .iload 4, .isub, .i2l, .iload 11, .invokestatic 426, .lmul, .iload 4, .i2l, .iload 2, .iload 11, .isub, .invokestatic 426, .lmul, .ladd, .lstore 5, .lload 9, .iload 2, .iload 11, .isub, .i2l, .lmul, .iload 11, .ldc_w 1, .iadd, .i2l, .ldiv, .lstore 9, .lload 7, .aload 0, .getfield 2818, .iload 1, .invokevirtual 111713, .i2l, .ladd, .lstore 7, .iinc 11 1, .goto 3] ls st h := WP.eqn c_443_3 3 rfl rfl rfl
theorem w_443_4 : WP d 443 4 ls st h Q = wpL (kC d) (kJ d 443 Q) Q 3 [.lload 5, .ldc2_w 100, .iload 2, .invokestatic 426, .iload 3, .invokestatic 435, .lreturn] ls st h := WP.eqn c_443_4 3 rfl rfl rfl
theorem R_450 {a : Nat} {x0 : Int32} {x1 : Int32} : Run d 450 [.ref a, .int x0, .int x1] h Q = WP d 450 0 [.ref a, .int x0, .int x1, .retAddr 0, .retAddr 0] [] h Q := Run.eqn 5 rfl rfl
theorem w_450_0 : WP d 450 0 ls st h Q = wpL (kC d) (kJ d 450 Q) Q 1 [.iload 1, .invokestatic 113, .ifCond .ne 1, .iload 2, .ldc_w 1, .ldc_w 10, .invokestatic 27, .ifCond .eq 2, .jsr 1] ls st h := WP.eqn c_450_0 1 rfl rfl rfl
theorem w_450_1 : WP d 450 1 ls st h Q = wpL (kC d) (kJ d 450 Q) Q 1 [.iconst (-1), .ireturn] ls st h := WP.eqn c_450_1 1 rfl rfl rfl
theorem w_450_2 : WP d 450 2 ls st h Q = wpL (kC d) (kJ d 450 Q) Q 1 [.aload 0, .getfield 2818, .aload 0, .getfield 2816, .invokevirtual 111593, .ldc_w 0, .istore 3, .jsr 3] ls st h := WP.eqn c_450_2 1 rfl rfl rfl
theorem w_450_3 : WP d 450 3 ls st h Q = wpL (kC d) (kJ d 450 Q) Q 1 [.iload 3, .iload 2, .if_icmp .ge 6, .aload 0, .getfield 2818, .invokevirtual 111664, .ldc_w 0, .istore 4, .jsr 4] ls st h := WP.eqn c_450_3 1 rfl rfl rfl
theorem w_450_4 : WP d 450 4 ls st h Q = wpL (kC d) (kJ d 450 Q) Q 1 [.iload 4, .ldc_w 3, .if_icmp .ge 5, .aload 0, .getfield 2825, .iload 3, .ldc_w 3, .imul, .iload 4, .iadd, .aload 0, .getfield 2818, .iload 1, .iload 4, .invokevirtual 111730, .iastore, .iinc 4 1, .goto 4] ls st h := WP.eqn c_450_4 1 rfl rfl rfl
theorem w_450_5 : WP d 450 5 ls st h Q = wpL (kC d) (kJ d 450 Q) Q 1 [.iinc 3 1, .goto 3] ls st h := WP.eqn c_450_5 1 rfl rfl rfl
theorem w_450_6 : WP d 450 6 ls st h Q = wpL (kC d) (kJ d 450 Q) Q 1 [.aload 0, .iload 2, .putfield 779, .iload 2, .ireturn] ls st h := WP.eqn c_450_6 1 rfl rfl rfl
theorem R_458 {a : Nat} {x0 : Int32} {x1 : Int32} : Run d 458 [.ref a, .int x0, .int x1] h Q = WP d 458 0 [.ref a, .int x0, .int x1] [] h Q := Run.eqn 3 rfl rfl
theorem w_458_0 : WP d 458 0 ls st h Q = wpL (kC d) (kJ d 458 Q) Q 1 [.aload 0, .iload 1, .iload 2, .invokevirtual 120466, .ifCond .eq 1, .iconst (-9), .goto 2] ls st h := WP.eqn c_458_0 1 rfl rfl rfl
theorem w_458_1 : WP d 458 1 ls st h Q = wpL (kC d) (kJ d 458 Q) Q 1 [.aload 0, .getfield 2825, .iload 1, .ldc_w 3, .imul, .iload 2, .iadd, .iaload, .jsr 2] ls st h := WP.eqn c_458_1 1 rfl rfl rfl
theorem w_458_2 : WP d 458 2 ls st h Q = wpL (kC d) (kJ d 458 Q) Q 1 [.ireturn] ls st h := WP.eqn c_458_2 1 rfl rfl rfl
theorem R_466 {a : Nat} {x0 : Int32} {x1 : Int32} : Run d 466 [.ref a, .int x0, .int x1] h Q = WP d 466 0 [.ref a, .int x0, .int x1] [] h Q := Run.eqn 3 rfl rfl
theorem w_466_0 : WP d 466 0 ls st h Q = wpL (kC d) (kJ d 466 Q) Q 2 [.iload 1, .ldc_w 0, .aload 0, .getfield 779, .ldc_w 1, .isub, .invokestatic 27, .ifCond .ne 1, .iload 2, .ldc_w 0, .ldc_w 2, .invokestatic 27, .ifCond .eq 2, .jsr 1] ls st h := WP.eqn c_466_0 2 rfl rfl rfl
theorem w_466_1 : WP d 466 1 ls st h Q = wpL (kC d) (kJ d 466 Q) Q 2 [.ldc_w 1, .goto 3] ls st h := WP.eqn c_466_1 2 rfl rfl rfl
theorem w_466_2 : WP d 466 2 ls st h Q = wpL (kC d) (kJ d 466 Q) Q 2 [.ldc_w 0, .jsr 3] ls st h := WP.eqn c_466_2 2 rfl rfl rfl
theorem w_466_3 : WP d 466 3 ls st h Q = wpL (kC d) (kJ d 466 Q) Q 2 [.ireturn] ls st h := WP.eqn c_466_3 2 rfl rfl rfl
theorem R_475 {a : Nat} {x0 : Int32} {x1 : Int32} {x2 : Int32} : Run d 475 [.ref a, .int x0, .int x1, .int x2] h Q = WP d 475 0 [.ref a, .int x0, .int x1, .int x2] [] h Q := Run.eqn 4 rfl rfl
theorem w_475_0 : WP d 475 0 ls st h Q = wpL (kC d) (kJ d 475 Q) Q 1 [.aload 0, .iload 1, .iload 2, .invokevirtual 120466, .ifCond .eq 1, .iconst (-9), .goto 2] ls st h := WP.eqn c_475_0 1 rfl rfl rfl
theorem w_475_1 : WP d 475 1 ls st h Q = wpL (kC d) (kJ d 475 Q) Q 1 [.aload 0, .getfield 2825, .iload 1, .ldc_w 3, .imul, .iload 2, .iadd, .iload 3, .invokestatic 51, .jsr 2] ls st h := WP.eqn c_475_1 1 rfl rfl rfl
theorem w_475_2 : WP d 475 2 ls st h Q = wpL (kC d) (kJ d 475 Q) Q 1 [.ireturn] ls st h := WP.eqn c_475_2 1 rfl rfl rfl
theorem R_481 {a : Nat} {x0 : Int32} : Run d 481 [.ref a, .int x0] h Q = WP d 481 0 [.ref a, .int x0, .retAddr 0, .retAddr 0] [] h Q := Run.eqn 4 rfl rfl
theorem w_481_0 : WP d 481 0 ls st h Q = wpL (kC d) (kJ d 481 Q) Q 1 [.iload 1, .invokestatic 113, .ifCond .eq 1, .iconst (-1), .ireturn] ls st h := WP.eqn c_481_0 1 rfl rfl rfl
theorem w_481_1 : WP d 481 1 ls st h Q = wpL (kC d) (kJ d 481 Q) Q 1 [.aload 0, .getfield 2818, .aload 0, .getfield 2816, .invokevirtual 111593, .ldc_w 0, .istore 2, .jsr 2] ls st h := WP.eqn c_481_1 1 rfl rfl rfl
theorem w_481_2 : WP d 481 2 ls st h Q = wpL (kC d) (kJ d 481 Q) Q 1 [.iload 2, .aload 0, .getfield 779, .if_icmp .ge 6, .aload 0, .getfield 2818, .invokevirtual 111664, .ldc_w 0, .istore 3, .jsr 3] ls st h := WP.eqn c_481_2 1 rfl rfl rfl
theorem w_481_3 : WP d 481 3 ls st h Q = wpL (kC d) (kJ d 481 Q) Q 1 [.iload 3, .ldc_w 3, .if_icmp .ge 5, .aload 0, .getfield 2825, .iload 2, .ldc_w 3, .imul, .iload 3, .iadd, .iaload, .aload 0, .getfield 2818, .iload 1, .iload 3, .invokevirtual 111730, .if_icmp .eq 4, .iload 2, .ldc_w 1, .iadd, .ireturn] ls st h := WP.eqn c_481_3 1 rfl rfl rfl
theorem w_481_4 : WP d 481 4 ls st h Q = wpL (kC d) (kJ d 481 Q) Q 1 [.iinc 3 1, .goto 3] ls st h := WP.eqn c_481_4 1 rfl rfl rfl
theorem w_481_5 : WP d 481 5 ls st h Q = wpL (kC d) (kJ d 481 Q) Q 1 [.iinc 2 1, .goto 2] ls st h := WP.eqn c_481_5 1 rfl rfl rfl
theorem w_481_6 : WP d 481 6 ls st h Q = wpL (kC d) (kJ d 481 Q) Q 1 [.ldc_w 0, .ireturn] ls st h := WP.eqn c_481_6 1 rfl rfl rfl
theorem R_492 {a : Nat} {x0 : Int32} {x1 : Int32} {x2 : Int32} {x3 : Int32} : Run d 492 [.ref a, .int x0, .int x1, .int x2, .int x3] h Q = WP d 492 0 [.ref a, .int x0, .int x1, .int x2, .int x3, .retAddr 0, .retAddr 0, .retAddr 0] [] h Q := Run.eqn 8 rfl rfl
theorem w_492_0 : WP d 492 0 ls st h Q = wpL (kC d) (kJ d 492 Q) Q 1 [.iload 1, .invokestatic 361, .ifCond .ne 1, .iload 3, .invokestatic 113, .ifCond .ne 1, .iload 4, .ldc_w 0, .ldc_w 5, .invokestatic 27, .ifCond .eq 2, .jsr 1] ls st h := WP.eqn c_492_0 1 rfl rfl rfl
theorem w_492_1 : WP d 492 1 ls st h Q = wpL (kC d) (kJ d 492 Q) Q 1 [.iconst (-1), .ireturn] ls st h := WP.eqn c_492_1 1 rfl rfl rfl
theorem w_492_2 : WP d 492 2 ls st h Q = wpL (kC d) (kJ d 492 Q) Q 1 [.aload 0, .getfield 2822, .iload 1, .aaload, .astore 5, .aload 5, .ifnonnull 3, .iconst (-11), .ireturn] ls st h := WP.eqn c_492_2 1 rfl rfl rfl
theorem w_492_3 : WP d 492 3 ls st h Q = wpL (kC d) (kJ d 492 Q) Q 1 [.aload 5, .getfield 512, .ifCond .eq 4, .iconst (-13), .ireturn] ls st h := WP.eqn c_492_3 1 rfl rfl rfl
theorem w_492_4 : WP d 492 4 ls st h Q = wpL (kC d) (kJ d 492 Q) Q 1 [.iload 2, .ldc_w 0, .aload 5, .getfield 2561, .arraylength, .invokestatic 27, .ifCond .ne 5, .iload 4, .aload 5, .getfield 2561, .arraylength, .iload 2, .isub, .if_icmp .le 6, .jsr 5] ls st h := WP.eqn c_492_4 1 rfl rfl rfl
theorem w_492_5 : WP d 492 5 ls st h Q = wpL (kC d) (kJ d 492 Q) Q 1 [.iconst (-12), .ireturn] ls st h := WP.eqn c_492_5 1 rfl rfl rfl
theorem w_492_6 : WP d 492 6 ls st h Q = wpL (kC d) (kJ d 492 Q) Q 1 [.ldc_w 0, .istore 6, .jsr 7] ls st h := WP.eqn c_492_6 1 rfl rfl rfl
theorem w_492_7 : WP d 492 7 ls st h Q = wpL (kC d) (kJ d 492 Q) Q 1 [.iload 6, .iload 4, .if_icmp .ge 8, .ldc_w 0, .ldc_w 99, .aload 5, .getfield 2561, .iload 2, .iload 6, .iadd, .laload, .l2i, .invokedynamic 4, .invokedynamic 3, .istore 7, .aload 0, .getfield 2816, .getfield 2755, .iload 3, .ldc_w 5, .imul, .iload 6, .iadd, .iload 7, .iastore, .iinc 6 1, .goto 7] ls st h := WP.eqn c_492_7 1 rfl rfl rfl
theorem w_492_8 : WP d 492 8 ls st h Q = wpL (kC d) (kJ d 492 Q) Q 1 [.iload 4, .ireturn] ls st h := WP.eqn c_492_8 1 rfl rfl rfl
theorem R_499 {a : Nat} {x0 : Int32} {x1 : Int32} {x2 : Int32} : Run d 499 [.ref a, .int x0, .int x1, .int x2] h Q = WP d 499 0 [.ref a, .int x0, .int x1, .int x2] [] h Q := Run.eqn 4 rfl rfl
theorem w_499_0 : WP d 499 0 ls st h Q = wpL (kC d) (kJ d 499 Q) Q 1 [.iload 1, .invokestatic 361, .ifCond .ne 1, .iload 2, .iconst (-1), .ldc_w 3, .invokestatic 27, .ifCond .eq 2, .jsr 1] ls st h := WP.eqn c_499_0 1 rfl rfl rfl
theorem w_499_1 : WP d 499 1 ls st h Q = wpL (kC d) (kJ d 499 Q) Q 1 [.iconst (-1), .ireturn] ls st h := WP.eqn c_499_1 1 rfl rfl rfl
theorem w_499_2 : WP d 499 2 ls st h Q = wpL (kC d) (kJ d 499 Q) Q 1 [.iload 2, .iconst (-1), .if_icmp .ne 3, .aload 0, .getfield 2822, .iload 1, .aconst_null, .aastore, .ldc_w 1, .ireturn] ls st h := WP.eqn c_499_2 1 rfl rfl rfl
theorem w_499_3 : WP d 499 3 ls st h Q = wpL (kC d) (kJ d 499 Q) Q 1 [.iload 3, .ldc_w 40, .if_icmp .le 4, .iconst (-1), .ireturn] ls st h := WP.eqn c_499_3 1 rfl rfl rfl
theorem w_499_4 : WP d 499 4 ls st h Q = wpL (kC d) (kJ d 499 Q) Q 1 [.iload 3, .ifCond .ge 5, .iconst (-14), .ireturn] ls st h := WP.eqn c_499_4 1 rfl rfl rfl
theorem w_499_5 : WP d 499 5 ls st h Q = wpL (kC d) (kJ d 499 Q) Q 1 [.aload 0, .getfield 2822, .iload 1, .new 514, .dup, .iload 2, .iload 3, .invokespecial 1946, .aastore, .ldc_w 1, .ireturn] ls st h := WP.eqn c_499_5 1 rfl rfl rfl
theorem R_507 {a : Nat} {x0 : Int32} {x1 : Int32} {x2 : Int32} : Run d 507 [.ref a, .int x0, .int x1, .int x2] h Q = WP d 507 0 [.ref a, .int x0, .int x1, .int x2, .retAddr 0] [] h Q := Run.eqn 5 rfl rfl
theorem w_507_0 : WP d 507 0 ls st h Q = wpL (kC d) (kJ d 507 Q) Q 1 [.iload 1, .invokestatic 361, .ifCond .eq 1, .iconst (-1), .ireturn] ls st h := WP.eqn c_507_0 1 rfl rfl rfl
theorem w_507_1 : WP d 507 1 ls st h Q = wpL (kC d) (kJ d 507 Q) Q 1 [.aload 0, .getfield 2822, .iload 1, .aaload, .astore 4, .aload 4, .ifnonnull 2, .iconst (-11), .ireturn] ls st h := WP.eqn c_507_1 1 rfl rfl rfl
theorem w_507_2 : WP d 507 2 ls st h Q = wpL (kC d) (kJ d 507 Q) Q 1 [.iload 2, .ldc_w 0, .aload 4, .getfield 2561, .arraylength, .ldc_w 1, .isub, .invokestatic 27, .ifCond .eq 3, .iconst (-12), .ireturn] ls st h := WP.eqn c_507_2 1 rfl rfl rfl
theorem w_507_3 : WP d 507 3 ls st h Q = wpL (kC d) (kJ d 507 Q) Q 1 [.aload 4, .getfield 2561, .iload 2, .aload 4, .iload 3, .invokevirtual 81953, .lastore, .ldc_w 1, .ireturn] ls st h := WP.eqn c_507_3 1 rfl rfl rfl
theorem R_515 {a : Nat} {x0 : Int32} {x1 : Int32} {x2 : Int32} : Run d 515 [.ref a, .int x0, .int x1, .int x2] h Q = WP d 515 0 [.ref a, .int x0, .int x1, .int x2, .retAddr 0] [] h Q := Run.eqn 5 rfl rfl
theorem w_515_0 : WP d 515 0 ls st h Q = wpL (kC d) (kJ d 515 Q) Q 1 [.iload 1, .invokestatic 361, .ifCond .ne 1, .iload 2, .ldc_w 0, .ldc_w 3, .invokestatic 27, .ifCond .eq 2, .jsr 1] ls st h := WP.eqn c_515_0 1 rfl rfl rfl
theorem w_515_1 : WP d 515 1 ls st h Q = wpL (kC d) (kJ d 515 Q) Q 1 [.iconst (-1), .ireturn] ls st h := WP.eqn c_515_1 1 rfl rfl rfl
theorem w_515_2 : WP d 515 2 ls st h Q = wpL (kC d) (kJ d 515 Q) Q 1 [.aload 0, .getfield 2822, .iload 1, .aaload, .astore 4, .aload 4, .ifnonnull 3, .iconst (-11), .ireturn] ls st h := WP.eqn c_515_2 1 rfl rfl rfl
theorem w_515_3 : WP d 515 3 ls st h Q = wpL (kC d) (kJ d 515 Q) Q 1 [.aload 4, .getfield 512, .iload 2, .if_icmp .eq 4, .iconst (-13), .ireturn] ls st h := WP.eqn c_515_3 1 rfl rfl rfl
theorem w_515_4 : WP d 515 4 ls st h Q = wpL (kC d) (kJ d 515 Q) Q 1 [.iload 3, .ldc_w 0, .aload 4, .getfield 2561, .arraylength, .ldc_w 1, .isub, .invokestatic 27, .ifCond .eq 5, .iconst (-12), .goto 6] ls st h := WP.eqn c_515_4 1 rfl rfl rfl
theorem w_515_5 : WP d 515 5 ls st h Q = wpL (kC d) (kJ d 515 Q) Q 1 [.aload 4, .getfield 2561, .iload 3, .laload, .l2i, .jsr 6] ls st h := WP.eqn c_515_5 1 rfl rfl rfl
theorem w_515_6 : WP d 515 6 ls st h Q = wpL (kC d) (kJ d 515 Q) Q 1 [.ireturn] ls st h := WP.eqn c_515_6 1 rfl rfl rfl
theorem R_523 {a : Nat} {x0 : Int32} {x1 : Int32} {x2 : Int32} : Run d 523 [.ref a, .int x0, .int x1, .int x2] h Q = WP d 523 0 [.ref a, .int x0, .int x1, .int x2] [] h Q := Run.eqn 4 rfl rfl
theorem w_523_0 : WP d 523 0 ls st h Q = wpL (kC d) (kJ d 523 Q) Q 1 [.iload 1, .invokestatic 529, .ifCond .ne 1, .iload 2, .ldc_w 0, .ldc_w 2, .invokestatic 27, .ifCond .eq 2, .jsr 1] ls st h := WP.eqn c_523_0 1 rfl rfl rfl
theorem w_523_1 : WP d 523 1 ls st h Q = wpL (kC d) (kJ d 523 Q) Q 1 [.iconst (-1), .ireturn] ls st h := WP.eqn c_523_1 1 rfl rfl rfl
theorem w_523_2 : WP d 523 2 ls st h Q = wpL (kC d) (kJ d 523 Q) Q 1 [.iload 2, .ifCond .ne 3, .aload 0, .iload 3, .invokevirtual 120153, .ifCond .ne 4, .jsr 3] ls st h := WP.eqn c_523_2 1 rfl rfl rfl
theorem w_523_3 : WP d 523 3 ls st h Q = wpL (kC d) (kJ d 523 Q) Q 1 [.iload 2, .ldc_w 1, .if_icmp .ne 5, .iload 3, .invokestatic 361, .ifCond .eq 5, .jsr 4] ls st h := WP.eqn c_523_3 1 rfl rfl rfl
theorem w_523_4 : WP d 523 4 ls st h Q = wpL (kC d) (kJ d 523 Q) Q 1 [.iconst (-1), .ireturn] ls st h := WP.eqn c_523_4 1 rfl rfl rfl
theorem w_523_5 : WP d 523 5 ls st h Q = wpL (kC d) (kJ d 523 Q) Q 1 [.aload 0, .getfield 2823, .iload 1, .iload 2, .ifCond .ne 6, .iload 3, .goto 7] ls st h := WP.eqn c_523_5 1 rfl rfl rfl
theorem w_523_6 : WP d 523 6 ls st h Q = wpL (kC d) (kJ d 523 Q) Q 1 [.iconst (-1), .jsr 7] ls st h := WP.eqn c_523_6 1 rfl rfl rfl
theorem w_523_7 : WP d 523 7 ls st h Q = wpL (kC d) (kJ d 523 Q) Q 1 [.iastore, .aload 0, .getfield 2824, .iload 1, .iload 2, .ldc_w 1, .if_icmp .ne 8, .iload 3, .invokestatic 361, .ifCond .ne 8, .aload 0, .getfield 2822, .iload 3, .aaload, .goto 9] ls st h := WP.eqn c_523_7 1 rfl rfl rfl
theorem w_523_8 : WP d 523 8 ls st h Q = wpL (kC d) (kJ d 523 Q) Q 1 [.aconst_null, .jsr 9] ls st h := WP.eqn c_523_8 1 rfl rfl rfl
theorem w_523_9 : WP d 523 9 ls st h Q = wpL (kC d) (kJ d 523 Q) Q 1 [.aastore, .ldc_w 1, .ireturn] ls st h := WP.eqn c_523_9 1 rfl rfl rfl
theorem R_529 {x0 : Int32} : Run d 529 [.int x0] h Q = WP d 529 0 [.int x0] [] h Q := Run.eqn 1 rfl rfl
theorem w_529_0 : WP d 529 0 ls st h Q = wpL (kC d) (kJ d 529 Q) Q 2 [.iload 0, .ldc_w 0, .ldc_w 3, .invokestatic 27, .ireturn] ls st h := WP.eqn c_529_0 2 rfl rfl rfl
theorem R_538 {a : Nat} {x0 : Int32} {x1 : Int32} : Run d 538 [.ref a, .int x0, .int x1] h Q = WP d 538 0 [.ref a, .int x0, .int x1, .retAddr 0, .retAddr 0, .retAddr 0] [] h Q := Run.eqn 6 rfl rfl
theorem w_538_0 : WP d 538 0 ls st h Q = wpL (kC d) (kJ d 538 Q) Q 1 [.iload 2, .ldc_w 10, .ldc_w 13, .invokestatic 27, .ifCond .ne 1, .ldc_w 1, .goto 2] ls st h := WP.eqn c_538_0 1 rfl rfl rfl
theorem w_538_1 : WP d 538 1 ls st h Q = wpL (kC d) (kJ d 538 Q) Q 1 [.ldc_w 0, .jsr 2] ls st h := WP.eqn c_538_1 1 rfl rfl rfl
theorem w_538_2 : WP d 538 2 ls st h Q = wpL (kC d) (kJ d 538 Q) Q 1 [.istore 3, .iload 1, .invokestatic 529, .ifCond .ne 3, .iload 2, .invokestatic 137, .ifCond .eq 4, .iload 3, .ifCond .ne 4, .jsr 3] ls st h := WP.eqn c_538_2 1 rfl rfl rfl
theorem w_538_3 : WP d 538 3 ls st h Q = wpL (kC d) (kJ d 538 Q) Q 1 [.iconst (-1), .ireturn] ls st h := WP.eqn c_538_3 1 rfl rfl rfl
theorem w_538_4 : WP d 538 4 ls st h Q = wpL (kC d) (kJ d 538 Q) Q 1 [.aload 0, .getfield 2823, .iload 1, .iaload, .istore 4, .aload 0, .getfield 2824, .iload 1, .aaload, .astore 5, .aload 0, .iload 4, .invokevirtual 120153, .ifCond .eq 5, .aload 5, .ifnonnull 5, .iconst (-11), .ireturn] ls st h := WP.eqn c_538_4 1 rfl rfl rfl
theorem w_538_5 : WP d 538 5 ls st h Q = wpL (kC d) (kJ d 538 Q) Q 1 [.aload 5, .ifnull 8, .iload 3, .ifCond .eq 6, .aload 5, .getfield 512, .iload 2, .ldc_w 10, .isub, .if_icmp .ne 6, .aload 5, .getfield 2561, .arraylength, .goto 7] ls st h := WP.eqn c_538_5 1 rfl rfl rfl
theorem w_538_6 : WP d 538 6 ls st h Q = wpL (kC d) (kJ d 538 Q) Q 1 [.iconst (-13), .jsr 7] ls st h := WP.eqn c_538_6 1 rfl rfl rfl
theorem w_538_7 : WP d 538 7 ls st h Q = wpL (kC d) (kJ d 538 Q) Q 1 [.ireturn] ls st h := WP.eqn c_538_7 1 rfl rfl rfl
theorem w_538_8 : WP d 538 8 ls st h Q = wpL (kC d) (kJ d 538 Q) Q 1 [.iload 3, .ifCond .ne 9, .aload 0, .getfield 2816, .iload 4, .invokevirtual 111633, .iload 2, .invokevirtual 1, .ifCond .eq 9, .iload 4, .goto 10] ls st h := WP.eqn c_538_8 1 rfl rfl rfl
theorem w_538_9 : WP d 538 9 ls st h Q = wpL (kC d) (kJ d 538 Q) Q 1 [.iconst (-13), .jsr 10] ls st h := WP.eqn c_538_9 1 rfl rfl rfl
theorem w_538_10 : WP d 538 10 ls st h Q = wpL (kC d) (kJ d 538 Q) Q 1 [.ireturn] ls st h := WP.eqn c_538_10 1 rfl rfl rfl
theorem R_547 {a : Nat} {x0 : Int32} {x1 : Int32} {x2 : Int32} : Run d 547 [.ref a, .int x0, .int x1, .int x2] h Q = WP d 547 0 [.ref a, .int x0, .int x1, .int x2, .retAddr 0, .retAddr 0, .retAddr 0] [] h Q := Run.eqn 7 rfl rfl
theorem w_547_0 : WP d 547 0 ls st h Q = wpL (kC d) (kJ d 547 Q) Q 1 [.aload 0, .getfield 2821, .ldc_w 0, .putfield 65, .iload 1, .invokestatic 529, .ifCond .ne 1, .iload 2, .ldc_w 0, .ldc_w 3, .invokestatic 27, .ifCond .ne 1, .aload 0, .aload 0, .getfield 2823, .iload 1, .iaload, .invokevirtual 120153, .ifCond .eq 2, .jsr 1] ls st h := WP.eqn c_547_0 1 rfl rfl rfl
theorem w_547_1 : WP d 547 1 ls st h Q = wpL (kC d) (kJ d 547 Q) Q 1 [.ldc_w 0, .ireturn] ls st h := WP.eqn c_547_1 1 rfl rfl rfl
theorem w_547_2 : WP d 547 2 ls st h Q = wpL (kC d) (kJ d 547 Q) Q 1 [.aload 0, .getfield 2823, .iload 1, .iaload, .istore 4, .aload 0, .getfield 2821, .iload 4, .aload 0, .getfield 2816, .getfield 2761, .iload 4, .iaload, .invokevirtual 11930, .aload 0, .getfield 2816, .iload 4, .invokevirtual 111633, .astore 5, .iload 2, .tableswitch 6 0 2 #[3, 4, 5]] ls st h := WP.eqn c_547_2 1 rfl rfl rfl
theorem w_547_3 : WP d 547 3 ls st h Q = wpL (kC d) (kJ d 547 Q) Q 1 [.aload 5, .aload 0, .getfield 2821, .iload 3, .invokevirtual 10, .istore 6, .goto 7] ls st h := WP.eqn c_547_3 1 rfl rfl rfl
theorem w_547_4 : WP d 547 4 ls st h Q = wpL (kC d) (kJ d 547 Q) Q 1 [.aload 5, .aload 0, .getfield 2821, .iload 3, .invokevirtual 18, .istore 6, .goto 7] ls st h := WP.eqn c_547_4 1 rfl rfl rfl
theorem w_547_5 : WP d 547 5 ls st h Q = wpL (kC d) (kJ d 547 Q) Q 1 [.aload 5, .aload 0, .getfield 2821, .iload 3, .invokevirtual 26, .istore 6, .goto 7] ls st h := WP.eqn c_547_5 1 rfl rfl rfl
theorem w_547_6 : WP d 547 6 ls st h Q = wpL (kC d) (kJ d 547 Q) Q 1 [.aload 5, .aload 0, .getfield 2821, .iload 3, .invokevirtual 34, .istore 6, .jsr 7] ls st h := WP.eqn c_547_6 1 rfl rfl rfl
theorem w_547_7 : WP d 547 7 ls st h Q = wpL (kC d) (kJ d 547 Q) Q 1 [.aload 0, .getfield 2821, .getfield 3140, .ifCond .eq 8, .iconst (-15), .goto 9] ls st h := WP.eqn c_547_7 1 rfl rfl rfl
theorem w_547_8 : WP d 547 8 ls st h Q = wpL (kC d) (kJ d 547 Q) Q 1 [.iload 6, .jsr 9] ls st h := WP.eqn c_547_8 1 rfl rfl rfl
theorem w_547_9 : WP d 547 9 ls st h Q = wpL (kC d) (kJ d 547 Q) Q 1 [.ireturn] ls st h := WP.eqn c_547_9 1 rfl rfl rfl
theorem R_553 {a : Nat} {x0 : Int32} : Run d 553 [.ref a, .int x0] h Q = WP d 553 0 [.ref a, .int x0] [] h Q := Run.eqn 2 rfl rfl
theorem w_553_0 : WP d 553 0 ls st h Q = wpL (kC d) (kJ d 553 Q) Q 1 [.iload 1, .ldc_w 0, .aload 0, .getfield 2821, .getfield 65, .ldc_w 1, .isub, .invokestatic 27, .ifCond .eq 1, .iconst (-3), .goto 2] ls st h := WP.eqn c_553_0 1 rfl rfl rfl
theorem w_553_1 : WP d 553 1 ls st h Q = wpL (kC d) (kJ d 553 Q) Q 1 [.aload 0, .getfield 2821, .getfield 2112, .iload 1, .iaload, .jsr 2] ls st h := WP.eqn c_553_1 1 rfl rfl rfl
theorem w_553_2 : WP d 553 2 ls st h Q = wpL (kC d) (kJ d 553 Q) Q 1 [.ireturn] ls st h := WP.eqn c_553_2 1 rfl rfl rfl
theorem R_561 {a : Nat} {x0 : Int32} : Run d 561 [.ref a, .int x0] h Q = WP d 561 0 [.ref a, .int x0] [] h Q := Run.eqn 2 rfl rfl
theorem w_561_0 : WP d 561 0 ls st h Q = wpL (kC d) (kJ d 561 Q) Q 1 [.iload 1, .tableswitch 8 0 6 #[1, 2, 3, 4, 5, 6, 7]] ls st h := WP.eqn c_561_0 1 rfl rfl rfl
theorem w_561_1 : WP d 561 1 ls st h Q = wpL (kC d) (kJ d 561 Q) Q 1 [.aload 0, .getfield 2816, .getfield 718, .ireturn] ls st h := WP.eqn c_561_1 1 rfl rfl rfl
theorem w_561_2 : WP d 561 2 ls st h Q = wpL (kC d) (kJ d 561 Q) Q 1 [.aload 0, .getfield 2816, .invokevirtual 111744, .ireturn] ls st h := WP.eqn c_561_2 1 rfl rfl rfl
theorem w_561_3 : WP d 561 3 ls st h Q = wpL (kC d) (kJ d 561 Q) Q 1 [.aload 0, .getfield 2816, .getfield 2756, .ldc_w 8, .invokestatic 282, .ireturn] ls st h := WP.eqn c_561_3 1 rfl rfl rfl
theorem w_561_4 : WP d 561 4 ls st h Q = wpL (kC d) (kJ d 561 Q) Q 1 [.aload 0, .getfield 2816, .invokevirtual 111752, .ireturn] ls st h := WP.eqn c_561_4 1 rfl rfl rfl
theorem w_561_5 : WP d 561 5 ls st h Q = wpL (kC d) (kJ d 561 Q) Q 1 [.aload 0, .getfield 779, .ireturn] ls st h := WP.eqn c_561_5 1 rfl rfl rfl
theorem w_561_6 : WP d 561 6 ls st h Q = wpL (kC d) (kJ d 561 Q) Q 1 [.aload 0, .getfield 2820, .getfield 577, .ireturn] ls st h := WP.eqn c_561_6 1 rfl rfl rfl
theorem w_561_7 : WP d 561 7 ls st h Q = wpL (kC d) (kJ d 561 Q) Q 1 [.aload 0, .getfield 2821, .getfield 65, .ireturn] ls st h := WP.eqn c_561_7 1 rfl rfl rfl
theorem w_561_8 : WP d 561 8 ls st h Q = wpL (kC d) (kJ d 561 Q) Q 1 [.iconst (-1), .ireturn] ls st h := WP.eqn c_561_8 1 rfl rfl rfl
theorem R_568 {a : Nat} : Run d 568 [.ref a] h Q = WP d 568 0 [.ref a] [] h Q := Run.eqn 1 rfl rfl
theorem w_568_0 : WP d 568 0 ls st h Q = wpL (kC d) (kJ d 568 Q) Q 1 [.aload 0, .getfield 2817, .aload 0, .getfield 2816, .invokevirtual 111593, .aload 0, .ldc_w 1, .putfield 3852, .ldc_w 1, .ireturn] ls st h := WP.eqn c_568_0 1 rfl rfl rfl
theorem R_576 {a : Nat} : Run d 576 [.ref a] h Q = WP d 576 0 [.ref a] [] h Q := Run.eqn 1 rfl rfl
theorem w_576_0 : WP d 576 0 ls st h Q = wpL (kC d) (kJ d 576 Q) Q 1 [.aload 0, .getfield 3852, .ifCond .ne 1, .iconst (-3), .ireturn] ls st h := WP.eqn c_576_0 1 rfl rfl rfl
theorem w_576_1 : WP d 576 1 ls st h Q = wpL (kC d) (kJ d 576 Q) Q 1 [.aload 0, .getfield 2816, .aload 0, .getfield 2817, .invokevirtual 111593, .aload 0, .getfield 2816, .getfield 718, .ireturn] ls st h := WP.eqn c_576_1 1 rfl rfl rfl
theorem R_584 {a : Nat} : Run d 584 [.ref a] h Q = WP d 584 0 [.ref a] [] h Q := Run.eqn 1 rfl rfl
theorem w_584_0 : WP d 584 0 ls st h Q = wpL (kC d) (kJ d 584 Q) Q 0 [.aload 0, .invokedynamic 5, .aload 0, .ldc_w 136, .newarray .int, .putfield 2880, .aload 0, .ldc_w 136, .newarray .int, .putfield 2881, .aload 0, .ldc_w 136, .newarray .int, .putfield 2882, .aload 0, .ldc_w 136, .newarray .int, .putfield 2883, .aload 0, .ldc_w 5, .newarray .int, .dup, .ldc_w 0, .ldc_w 2, .iastore, .dup, .ldc_w 1, .ldc_w 3, .iastore, .dup, .ldc_w 2, .ldc_w 1, .iastore, .dup, .ldc_w 3, .ldc_w 5, .iastore, .dup, .ldc_w 4, .ldc_w 8, .iastore, .putfield 2884, .aload 0, .ldc_w 200, .newarray .int, .putfield 2886, .aload 0, .ldc_w 8, .newarray .int, .putfield 2896, .aload 0, .ldc_w 4, .newarray .int, .putfield 2897, .aload 0, .ldc_w 4, .newarray .int, .putfield 2898, .aload 0, .ldc_w 40, .newarray .boolean, .putfield 2900, .aload 0, .ldc_w 30, .newarray .int, .putfield 2901, .aload 0, .ldc_w 30, .newarray .int, .putfield 2902, .aload 0, .ldc_w 4, .newarray .int, .dup, .ldc_w 0, .iconst (-1), .iastore, .dup, .ldc_w 1, .iconst (-1), .iastore, .dup, .ldc_w 2, .iconst (-1), .iastore, .dup, .ldc_w 3, .iconst (-1), .iastore, .putfield 2904, .aload 0, .ldc_w 4, .newarray .int, .putfield 2905, .aload 0, .ldc_w 160, .newarray .long, .putfield 2906, .aload 0, .ldc_w 4, .newarray .int, .dup, .ldc_w 0, .iconst (-1), .iastore, .dup, .ldc_w 1, .iconst (-1), .iastore, .dup, .ldc_w 2, .iconst (-1), .iastore, .dup, .ldc_w 3, .iconst (-1), .iastore, .putfield 2907, .aload 0, .ldc_w 4, .newarray .int, .putfield 2908, .aload 0, .ldc_w 4, .newarray .int, .putfield 2909, .aload 0, .ldc_w 30, .newarray .int, .putfield 2913, .aload 0, .getfield 2880, .invokestatic 593, .aload 0, .getfield 2880, .ldc_w 6, .ldc_w 1, .iastore, .return_] ls st h := WP.eqn c_584_0 0 rfl rfl rfl
theorem R_593 {x0 : Nat} : Run d 593 [.ref x0] h Q = WP d 593 0 [.ref x0, .retAddr 0] [] h Q := Run.eqn 2 rfl rfl
theorem w_593_0 : WP d 593 0 ls st h Q = wpL (kC d) (kJ d 593 Q) Q 0 [.ldc_w 0, .istore 1, .jsr 1] ls st h := WP.eqn c_593_0 0 rfl rfl rfl
theorem w_593_1 : WP d 593 1 ls st h Q = wpL (kC d) (kJ d 593 Q) Q 0 [.iload 1, .ldc_w 136, .if_icmp .ge 2, .aload 0, .iload 1, .ldc_w 0, .iastore, .iinc 1 1, .goto 1] ls st h := WP.eqn c_593_1 0 rfl rfl rfl
theorem w_593_2 : WP d 593 2 ls st h Q = wpL (kC d) (kJ d 593 Q) Q 0 [.aload 0, .ldc_w 0, .ldc_w 10, .iastore, .aload 0, .ldc_w 1, .ldc_w 8, .iastore, .aload 0, .ldc_w 2, .ldc_w 4, .iastore, .aload 0, .ldc_w 7, .ldc_w 9, .iastore, .aload 0, .ldc_w 8, .ldc_w 4, .iastore, .aload 0, .ldc_w 9, .ldc_w 2, .iastore, .aload 0, .ldc_w 10, .ldc_w 6, .iastore, .aload 0, .ldc_w 11, .ldc_w 12, .iastore, .ldc_w 0, .istore 1, .jsr 3] ls st h := WP.eqn c_593_2 0 rfl rfl rfl
theorem w_593_3 : WP d 593 3 ls st h Q = wpL (kC d) (kJ d 593 Q) Q 0 [.iload 1, .ldc_w 8, .if_icmp .ge 4, .aload 0, .ldc_w 12, .ldc_w 7, .iload 1, .imul, .iadd, .ldc_w 5, .iadd, .ldc_w 3, .iastore, .iinc 1 1, .goto 3] ls st h := WP.eqn c_593_3 0 rfl rfl rfl
theorem w_593_4 : WP d 593 4 ls st h Q = wpL (kC d) (kJ d 593 Q) Q 0 [.ldc_w 0, .istore 1, .jsr 5] ls st h := WP.eqn c_593_4 0 rfl rfl rfl
theorem w_593_5 : WP d 593 5 ls st h Q = wpL (kC d) (kJ d 593 Q) Q 0 [.iload 1, .ldc_w 4, .if_icmp .ge 6, .aload 0, .ldc_w 68, .ldc_w 2, .iload 1, .imul, .iadd, .ldc_w 999, .iastore, .iinc 1 1, .goto 5] ls st h := WP.eqn c_593_5 0 rfl rfl rfl
theorem w_593_6 : WP d 593 6 ls st h Q = wpL (kC d) (kJ d 593 Q) Q 0 [.return_] ls st h := WP.eqn c_593_6 0 rfl rfl rfl
theorem R_602 {a : Nat} {x0 : Int64} {x1 : Int32} : Run d 602 [.ref a, .long x0, .int x1] h Q = WP d 602 0 [.ref a, .long x0, .retAddr 0, .int x1, .retAddr 0] [] h Q := Run.eqn 5 rfl rfl
theorem w_602_0 : WP d 602 0 ls st h Q = wpL (kC d) (kJ d 602 Q) Q 1 [.iload 3, .ldc_w 1, .ldc_w 8, .invokestatic 611, .ifCond .ne 1, .iconst (-1), .ireturn] ls st h := WP.eqn c_602_0 1 rfl rfl rfl
theorem w_602_1 : WP d 602 1 ls st h Q = wpL (kC d) (kJ d 602 Q) Q 1 [.aload 0, .getfield 839, .iload 3, .iadd, .ldc_w 200, .if_icmp .le 2, .iconst (-2), .ireturn] ls st h := WP.eqn c_602_1 1 rfl rfl rfl
theorem w_602_2 : WP d 602 2 ls st h Q = wpL (kC d) (kJ d 602 Q) Q 1 [.ldc_w 0, .istore 4, .jsr 3] ls st h := WP.eqn c_602_2 1 rfl rfl rfl
theorem w_602_3 : WP d 602 3 ls st h Q = wpL (kC d) (kJ d 602 Q) Q 1 [.iload 4, .iload 3, .if_icmp .ge 4, .aload 0, .getfield 2886, .aload 0, .getfield 839, .lload 1, .ldc_w 8, .iload 4, .imul, .lshr, .ldc2_w 255, .land, .l2i, .iastore, .aload 0, .dup, .getfield 839, .ldc_w 1, .iadd, .putfield 839, .iinc 4 1, .goto 3] ls st h := WP.eqn c_602_3 1 rfl rfl rfl
theorem w_602_4 : WP d 602 4 ls st h Q = wpL (kC d) (kJ d 602 Q) Q 1 [.aload 0, .getfield 839, .ireturn] ls st h := WP.eqn c_602_4 1 rfl rfl rfl
theorem R_611 {x0 : Int32} {x1 : Int32} {x2 : Int32} : Run d 611 [.int x0, .int x1, .int x2] h Q = WP d 611 0 [.int x0, .int x1, .int x2] [] h Q := Run.eqn 3 rfl rfl
theorem w_611_0 : WP d 611 0 ls st h Q = wpL (kC d) (kJ d 611 Q) Q 2 [.iload 0, .iload 1, .if_icmp .lt 1, .iload 0, .iload 2, .if_icmp .gt 1, .ldc_w 1, .goto 2] ls st h := WP.eqn c_611_0 2 rfl rfl rfl
theorem w_611_1 : WP d 611 1 ls st h Q = wpL (kC d) (kJ d 611 Q) Q 2 [.ldc_w 0, .jsr 2] ls st h := WP.eqn c_611_1 2 rfl rfl rfl
theorem w_611_2 : WP d 611 2 ls st h Q = wpL (kC d) (kJ d 611 Q) Q 2 [.ireturn] ls st h := WP.eqn c_611_2 2 rfl rfl rfl
theorem R_616 {a : Nat} : Run d 616 [.ref a] h Q = WP d 616 0 [.ref a] [] h Q := Run.eqn 1 rfl rfl
theorem w_616_0 : WP d 616 0 ls st h Q = wpL (kC d) (kJ d 616 Q) Q 1 [.aload 0, .ldc_w 0, .putfield 842, .aload 0, .ldc_w 1, .putfield 3917, .aload 0, .getfield 2881, .invokestatic 593, .aload 0, .invokevirtual 130624, .jsr 1] ls st h := WP.eqn c_616_0 1 rfl rfl rfl
theorem w_616_1 : WP d 616 1 ls st h Q = wpL (kC d) (kJ d 616 Q) Q 1 [.aload 0, .getfield 3917, .ifCond .eq 2, .aload 0, .getfield 840, .ifCond .eq 2, .aload 0, .invokevirtual 130656, .goto 1] ls st h := WP.eqn c_616_1 1 rfl rfl rfl
theorem w_616_2 : WP d 616 2 ls st h Q = wpL (kC d) (kJ d 616 Q) Q 1 [.aload 0, .ldc_w 0, .putfield 839, .aload 0, .getfield 3917, .ifCond .ne 3, .iconst (-100), .aload 0, .getfield 841, .isub, .ireturn] ls st h := WP.eqn c_616_2 1 rfl rfl rfl
theorem w_616_3 : WP d 616 3 ls st h Q = wpL (kC d) (kJ d 616 Q) Q 1 [.aload 0, .getfield 2881, .ldc_w 6, .aload 0, .getfield 2880, .ldc_w 6, .iaload, .iastore, .aload 0, .getfield 2881, .aload 0, .getfield 2880, .invokestatic 762, .aload 0, .ldc_w 0, .putfield 855, .aload 0, .getfield 2880, .ldc_w 5, .iaload, .ireturn] ls st h := WP.eqn c_616_3 1 rfl rfl rfl
theorem R_624 {a : Nat} : Run d 624 [.ref a] h Q = WP d 624 0 [.ref a, .retAddr 0] [] h Q := Run.eqn 2 rfl rfl
theorem w_624_0 : WP d 624 0 ls st h Q = wpL (kC d) (kJ d 624 Q) Q 0 [.aload 0, .aload 0, .getfield 842, .putfield 841, .jsr 1] ls st h := WP.eqn c_624_0 0 rfl rfl rfl
theorem w_624_1 : WP d 624 1 ls st h Q = wpL (kC d) (kJ d 624 Q) Q 0 [.aload 0, .aload 0, .getfield 841, .invokevirtual 130633, .ldc_w 32, .if_icmp .ne 2, .aload 0, .dup, .getfield 841, .ldc_w 1, .iadd, .putfield 841, .goto 1] ls st h := WP.eqn c_624_1 0 rfl rfl rfl
theorem w_624_2 : WP d 624 2 ls st h Q = wpL (kC d) (kJ d 624 Q) Q 0 [.aload 0, .aload 0, .getfield 841, .putfield 842, .aload 0, .aload 0, .getfield 841, .invokevirtual 130633, .istore 1, .aload 0, .iload 1, .ifCond .ge 3, .ldc_w 0, .goto 6] ls st h := WP.eqn c_624_2 0 rfl rfl rfl
theorem w_624_3 : WP d 624 3 ls st h Q = wpL (kC d) (kJ d 624 Q) Q 0 [.iload 1, .invokestatic 641, .ifCond .eq 4, .ldc_w 1, .goto 6] ls st h := WP.eqn c_624_3 0 rfl rfl rfl
theorem w_624_4 : WP d 624 4 ls st h Q = wpL (kC d) (kJ d 624 Q) Q 0 [.iload 1, .invokestatic 649, .ifCond .eq 5, .ldc_w 2, .goto 6] ls st h := WP.eqn c_624_4 0 rfl rfl rfl
theorem w_624_5 : WP d 624 5 ls st h Q = wpL (kC d) (kJ d 624 Q) Q 0 [.ldc_w 3, .jsr 6] ls st h := WP.eqn c_624_5 0 rfl rfl rfl
theorem w_624_6 : WP d 624 6 ls st h Q = wpL (kC d) (kJ d 624 Q) Q 0 [.putfield 840, .aload 0, .ldc2_w 0, .putfield 1867, .aload 0, .aload 0, .getfield 840, .ldc_w 2, .if_icmp .ne 7, .ldc_w 0, .goto 8] ls st h := WP.eqn c_624_6 0 rfl rfl rfl
theorem w_624_7 : WP d 624 7 ls st h Q = wpL (kC d) (kJ d 624 Q) Q 0 [.iload 1, .jsr 8] ls st h := WP.eqn c_624_7 0 rfl rfl rfl
theorem w_624_8 : WP d 624 8 ls st h Q = wpL (kC d) (kJ d 624 Q) Q 0 [.putfield 844, .aload 0, .getfield 840, .ldc_w 3, .if_icmp .ne 9, .aload 0, .dup, .getfield 842, .ldc_w 1, .iadd, .putfield 842, .jsr 9] ls st h := WP.eqn c_624_8 0 rfl rfl rfl
theorem w_624_9 : WP d 624 9 ls st h Q = wpL (kC d) (kJ d 624 Q) Q 0 [.aload 0, .getfield 840, .ldc_w 1, .if_icmp .ne 12, .aload 0, .aload 0, .getfield 842, .invokevirtual 130633, .invokestatic 641, .ifCond .eq 12, .aload 0, .aload 0, .getfield 842, .aload 0, .getfield 841, .isub, .ldc_w 9, .if_icmp .ge 10, .ldc2_w 27, .aload 0, .getfield 1867, .lmul, .aload 0, .aload 0, .getfield 842, .invokevirtual 130633, .i2l, .ladd, .ldc2_w 96, .lsub, .goto 11] ls st h := WP.eqn c_624_9 0 rfl rfl rfl
theorem w_624_10 : WP d 624 10 ls st h Q = wpL (kC d) (kJ d 624 Q) Q 0 [.jsr_w (-1), .jsr 11] ls st h := WP.eqn c_624_10 0 rfl rfl rfl
theorem w_624_11 : WP d 624 11 ls st h Q = wpL (kC d) (kJ d 624 Q) Q 0 [.putfield 1867, .aload 0, .dup, .getfield 842, .ldc_w 1, .iadd, .putfield 842, .goto 9] ls st h := WP.eqn c_624_11 0 rfl rfl rfl
theorem w_624_12 : WP d 624 12 ls st h Q = wpL (kC d) (kJ d 624 Q) Q 0 [.aload 0, .getfield 840, .ldc_w 2, .if_icmp .ne 15, .aload 0, .aload 0, .getfield 842, .invokevirtual 130633, .invokestatic 649, .ifCond .eq 15, .aload 0, .aload 0, .getfield 842, .aload 0, .getfield 841, .isub, .ldc_w 3, .if_icmp .ge 13, .ldc_w 10, .aload 0, .getfield 844, .imul, .aload 0, .aload 0, .getfield 842, .invokevirtual 130633, .iadd, .ldc_w 48, .isub, .goto 14] ls st h := WP.eqn c_624_12 0 rfl rfl rfl
theorem w_624_13 : WP d 624 13 ls st h Q = wpL (kC d) (kJ d 624 Q) Q 0 [.iconst (-1), .jsr 14] ls st h := WP.eqn c_624_13 0 rfl rfl rfl
theorem w_624_14 : WP d 624 14 ls st h Q = wpL (kC d) (kJ d 624 Q) Q 0 [.putfield 844, .aload 0, .dup, .getfield 842, .ldc_w 1, .iadd, .putfield 842, .goto 12] ls st h := WP.eqn c_624_14 0 rfl rfl rfl
theorem w_624_15 : WP d 624 15 ls st h Q = wpL (kC d) (kJ d 624 Q) Q 0 [.return_] ls st h := WP.eqn c_624_15 0 rfl rfl rfl
theorem R_633 {a : Nat} {x0 : Int32} : Run d 633 [.ref a, .int x0] h Q = WP d 633 0 [.ref a, .int x0] [] h Q := Run.eqn 2 rfl rfl
theorem w_633_0 : WP d 633 0 ls st h Q = wpL (kC d) (kJ d 633 Q) Q 1 [.iload 1, .aload 0, .getfield 839, .if_icmp .ge 1, .aload 0, .getfield 2886, .iload 1, .iaload, .goto 2] ls st h := WP.eqn c_633_0 1 rfl rfl rfl
theorem w_633_1 : WP d 633 1 ls st h Q = wpL (kC d) (kJ d 633 Q) Q 1 [.iconst (-1), .jsr 2] ls st h := WP.eqn c_633_1 1 rfl rfl rfl
theorem w_633_2 : WP d 633 2 ls st h Q = wpL (kC d) (kJ d 633 Q) Q 1 [.ireturn] ls st h := WP.eqn c_633_2 1 rfl rfl rfl
theorem R_641 {x0 : Int32} : Run d 641 [.int x0] h Q = WP d 641 0 [.int x0] [] h Q := Run.eqn 1 rfl rfl
theorem w_641_0 : WP d 641 0 ls st h Q = wpL (kC d) (kJ d 641 Q) Q 2 [.iload 0, .ldc_w 97, .ldc_w 122, .invokestatic 611, .ireturn] ls st h := WP.eqn c_641_0 2 rfl rfl rfl
theorem R_649 {x0 : Int32} : Run d 649 [.int x0] h Q = WP d 649 0 [.int x0] [] h Q := Run.eqn 1 rfl rfl
theorem w_649_0 : WP d 649 0 ls st h Q = wpL (kC d) (kJ d 649 Q) Q 2 [.iload 0, .ldc_w 48, .ldc_w 57, .invokestatic 611, .ireturn] ls st h := WP.eqn c_649_0 2 rfl rfl rfl
theorem R_656 {a : Nat} : Run d 656 [.ref a] h Q = WP d 656 0 [.ref a] [] h Q := Run.eqn 1 rfl rfl
theorem w_656_0 : WP d 656 0 ls st h Q = wpL (kC d) (kJ d 656 Q) Q 0 [.aload 0, .invokevirtual 130664, .ifCond .lt 1, .aload 0, .aload 0, .invokevirtual 130664, .invokevirtual 130681, .goto 6] ls st h := WP.eqn c_656_0 0 rfl rfl rfl
theorem w_656_1 : WP d 656 1 ls st h Q = wpL (kC d) (kJ d 656 Q) Q 0 [.aload 0, .ldc2_w 283616147, .invokevirtual 130673, .ifCond .eq 2, .aload 0, .invokevirtual 130720, .goto 6] ls st h := WP.eqn c_656_1 0 rfl rfl rfl
theorem w_656_2 : WP d 656 2 ls st h Q = wpL (kC d) (kJ d 656 Q) Q 0 [.aload 0, .ldc2_w 8863997, .invokevirtual 130673, .ifCond .eq 3, .aload 0, .invokevirtual 130744, .goto 6] ls st h := WP.eqn c_656_2 0 rfl rfl rfl
theorem w_656_3 : WP d 656 3 ls st h Q = wpL (kC d) (kJ d 656 Q) Q 0 [.aload 0, .ldc2_w 9459316, .invokevirtual 130673, .ifCond .eq 4, .aload 0, .invokevirtual 130752, .goto 6] ls st h := WP.eqn c_656_3 0 rfl rfl rfl
theorem w_656_4 : WP d 656 4 ls st h Q = wpL (kC d) (kJ d 656 Q) Q 0 [.aload 0, .ldc2_w 453740, .invokevirtual 130673, .ifCond .eq 5, .aload 0, .invokevirtual 130624, .aload 0, .getfield 2881, .ldc_w 0, .aload 0, .ldc_w 0, .ldc_w 99, .invokevirtual 130690, .iastore, .aload 0, .invokevirtual 130704, .goto 6] ls st h := WP.eqn c_656_4 0 rfl rfl rfl
theorem w_656_5 : WP d 656 5 ls st h Q = wpL (kC d) (kJ d 656 Q) Q 0 [.aload 0, .ldc_w 0, .putfield 3917, .jsr 6] ls st h := WP.eqn c_656_5 0 rfl rfl rfl
theorem w_656_6 : WP d 656 6 ls st h Q = wpL (kC d) (kJ d 656 Q) Q 0 [.return_] ls st h := WP.eqn c_656_6 0 rfl rfl rfl
theorem R_664 {a : Nat} : Run d 664 [.ref a] h Q = WP d 664 0 [.ref a] [] h Q := Run.eqn 1 rfl rfl
theorem w_664_0 : WP d 664 0 ls st h Q = wpL (kC d) (kJ d 664 Q) Q 1 [.aload 0, .ldc2_w 50348, .invokevirtual 130673, .ifCond .eq 1, .ldc_w 0, .goto 7] ls st h := WP.eqn c_664_0 1 rfl rfl rfl
theorem w_664_1 : WP d 664 1 ls st h Q = wpL (kC d) (kJ d 664 Q) Q 1 [.aload 0, .ldc2_w 275473944, .invokevirtual 130673, .ifCond .eq 2, .ldc_w 1, .goto 7] ls st h := WP.eqn c_664_1 1 rfl rfl rfl
theorem w_664_2 : WP d 664 2 ls st h Q = wpL (kC d) (kJ d 664 Q) Q 1 [.aload 0, .ldc2_w 1812878082, .invokevirtual 130673, .ifCond .eq 3, .ldc_w 2, .goto 7] ls st h := WP.eqn c_664_2 1 rfl rfl rfl
theorem w_664_3 : WP d 664 3 ls st h Q = wpL (kC d) (kJ d 664 Q) Q 1 [.aload 0, .ldc2_w 15154, .invokevirtual 130673, .ifCond .eq 4, .ldc_w 3, .goto 7] ls st h := WP.eqn c_664_3 1 rfl rfl rfl
theorem w_664_4 : WP d 664 4 ls st h Q = wpL (kC d) (kJ d 664 Q) Q 1 [.aload 0, .ldc2_w 1810703475, .invokevirtual 130673, .ifCond .eq 5, .ldc_w 4, .goto 7] ls st h := WP.eqn c_664_4 1 rfl rfl rfl
theorem w_664_5 : WP d 664 5 ls st h Q = wpL (kC d) (kJ d 664 Q) Q 1 [.aload 0, .ldc2_w 6414557904, .invokevirtual 130673, .ifCond .eq 6, .ldc_w 5, .goto 7] ls st h := WP.eqn c_664_5 1 rfl rfl rfl
theorem w_664_6 : WP d 664 6 ls st h Q = wpL (kC d) (kJ d 664 Q) Q 1 [.iconst (-1), .jsr 7] ls st h := WP.eqn c_664_6 1 rfl rfl rfl
theorem w_664_7 : WP d 664 7 ls st h Q = wpL (kC d) (kJ d 664 Q) Q 1 [.ireturn] ls st h := WP.eqn c_664_7 1 rfl rfl rfl
theorem R_673 {a : Nat} {x0 : Int64} : Run d 673 [.ref a, .long x0] h Q = WP d 673 0 [.ref a, .long x0, .retAddr 0] [] h Q := Run.eqn 3 rfl rfl
theorem w_673_0 : WP d 673 0 ls st h Q = wpL (kC d) (kJ d 673 Q) Q 2 [.aload 0, .getfield 840, .ldc_w 1, .if_icmp .ne 1, .aload 0, .getfield 1867, .lload 1, .lcmp, .ifCond .ne 1, .ldc_w 1, .goto 2] ls st h := WP.eqn c_673_0 2 rfl rfl rfl
theorem w_673_1 : WP d 673 1 ls st h Q = wpL (kC d) (kJ d 673 Q) Q 2 [.ldc_w 0, .jsr 2] ls st h := WP.eqn c_673_1 2 rfl rfl rfl
theorem w_673_2 : WP d 673 2 ls st h Q = wpL (kC d) (kJ d 673 Q) Q 2 [.ireturn] ls st h := WP.eqn c_673_2 2 rfl rfl rfl
theorem R_681 {a : Nat} {x0 : Int32} : Run d 681 [.ref a, .int x0] h Q = WP d 681 0 [.ref a, .int x0, .retAddr 0, .retAddr 0, .retAddr 0, .retAddr 0] [] h Q := Run.eqn 6 rfl rfl
theorem w_681_0 : WP d 681 0 ls st h Q = wpL (kC d) (kJ d 681 Q) Q 0 [.aload 0, .aload 0, .getfield 2881, .ldc_w 5, .iaload, .ldc_w 6, .if_icmp .ge 1, .ldc_w 1, .goto 2] ls st h := WP.eqn c_681_0 0 rfl rfl rfl
theorem w_681_1 : WP d 681 1 ls st h Q = wpL (kC d) (kJ d 681 Q) Q 0 [.ldc_w 0, .jsr 2] ls st h := WP.eqn c_681_1 0 rfl rfl rfl
theorem w_681_2 : WP d 681 2 ls st h Q = wpL (kC d) (kJ d 681 Q) Q 0 [.putfield 3917, .aload 0, .getfield 3917, .ifCond .eq 3, .aload 0, .invokevirtual 130624, .jsr 3] ls st h := WP.eqn c_681_2 0 rfl rfl rfl
theorem w_681_3 : WP d 681 3 ls st h Q = wpL (kC d) (kJ d 681 Q) Q 0 [.aload 0, .ldc_w 0, .ldc_w 9, .invokevirtual 130690, .istore 2, .aload 0, .ldc2_w 47, .invokevirtual 130697, .aload 0, .ldc_w 0, .ldc_w 7, .invokevirtual 130690, .istore 3, .aload 0, .ldc2_w 260045, .invokevirtual 130697, .aload 0, .ldc_w 0, .ldc_w 9, .invokevirtual 130690, .istore 4, .aload 0, .invokevirtual 130704, .aload 0, .getfield 3917, .ifCond .eq 4, .ldc_w 76, .ldc_w 10, .aload 0, .getfield 2881, .ldc_w 5, .iaload, .imul, .iadd, .istore 5, .aload 0, .getfield 2881, .iload 5, .iload 1, .iastore, .aload 0, .getfield 2881, .iload 5, .ldc_w 1, .iadd, .iload 2, .iastore, .aload 0, .getfield 2881, .iload 5, .ldc_w 2, .iadd, .iload 3, .iastore, .aload 0, .getfield 2881, .iload 5, .ldc_w 3, .iadd, .iload 4, .iastore, .aload 0, .getfield 2881, .ldc_w 5, .dup2, .iaload, .ldc_w 1, .iadd, .iastore, .jsr 4] ls st h := WP.eqn c_681_3 0 rfl rfl rfl
theorem w_681_4 : WP d 681 4 ls st h Q = wpL (kC d) (kJ d 681 Q) Q 0 [.return_] ls st h := WP.eqn c_681_4 0 rfl rfl rfl
theorem R_690 {a : Nat} {x0 : Int32} {x1 : Int32} : Run d 690 [.ref a, .int x0, .int x1] h Q = WP d 690 0 [.ref a, .int x0, .int x1, .retAddr 0] [] h Q := Run.eqn 4 rfl rfl
theorem w_690_0 : WP d 690 0 ls st h Q = wpL (kC d) (kJ d 690 Q) Q 1 [.aload 0, .getfield 844, .istore 3, .aload 0, .aload 0, .getfield 3917, .ifCond .eq 1, .aload 0, .getfield 840, .ldc_w 2, .if_icmp .ne 1, .iload 3, .iload 1, .iload 2, .invokestatic 611, .ifCond .eq 1, .ldc_w 1, .goto 2] ls st h := WP.eqn c_690_0 1 rfl rfl rfl
theorem w_690_1 : WP d 690 1 ls st h Q = wpL (kC d) (kJ d 690 Q) Q 1 [.ldc_w 0, .jsr 2] ls st h := WP.eqn c_690_1 1 rfl rfl rfl
theorem w_690_2 : WP d 690 2 ls st h Q = wpL (kC d) (kJ d 690 Q) Q 1 [.putfield 3917, .aload 0, .getfield 3917, .ifCond .eq 3, .aload 0, .invokevirtual 130624, .jsr 3] ls st h := WP.eqn c_690_2 1 rfl rfl rfl
theorem w_690_3 : WP d 690 3 ls st h Q = wpL (kC d) (kJ d 690 Q) Q 1 [.iload 3, .ireturn] ls st h := WP.eqn c_690_3 1 rfl rfl rfl
theorem R_697 {a : Nat} {x0 : Int64} : Run d 697 [.ref a, .long x0] h Q = WP d 697 0 [.ref a, .long x0, .retAddr 0] [] h Q := Run.eqn 3 rfl rfl
theorem w_697_0 : WP d 697 0 ls st h Q = wpL (kC d) (kJ d 697 Q) Q 0 [.aload 0, .aload 0, .getfield 3917, .ifCond .eq 1, .aload 0, .lload 1, .invokevirtual 130673, .ifCond .eq 1, .ldc_w 1, .goto 2] ls st h := WP.eqn c_697_0 0 rfl rfl rfl
theorem w_697_1 : WP d 697 1 ls st h Q = wpL (kC d) (kJ d 697 Q) Q 0 [.ldc_w 0, .jsr 2] ls st h := WP.eqn c_697_1 0 rfl rfl rfl
theorem w_697_2 : WP d 697 2 ls st h Q = wpL (kC d) (kJ d 697 Q) Q 0 [.putfield 3917, .aload 0, .getfield 3917, .ifCond .eq 3, .aload 0, .invokevirtual 130624, .jsr 3] ls st h := WP.eqn c_697_2 0 rfl rfl rfl
theorem w_697_3 : WP d 697 3 ls st h Q = wpL (kC d) (kJ d 697 Q) Q 0 [.return_] ls st h := WP.eqn c_697_3 0 rfl rfl rfl
theorem R_704 {a : Nat} : Run d 704 [.ref a] h Q = WP d 704 0 [.ref a] [] h Q := Run.eqn 1 rfl rfl
theorem w_704_0 : WP d 704 0 ls st h Q = wpL (kC d) (kJ d 704 Q) Q 0 [.aload 0, .aload 0, .getfield 3917, .ifCond .eq 1, .aload 0, .ldc_w 59, .invokevirtual 130713, .ifCond .eq 1, .ldc_w 1, .goto 2] ls st h := WP.eqn c_704_0 0 rfl rfl rfl
theorem w_704_1 : WP d 704 1 ls st h Q = wpL (kC d) (kJ d 704 Q) Q 0 [.ldc_w 0, .jsr 2] ls st h := WP.eqn c_704_1 0 rfl rfl rfl
theorem w_704_2 : WP d 704 2 ls st h Q = wpL (kC d) (kJ d 704 Q) Q 0 [.putfield 3917, .aload 0, .getfield 3917, .ifCond .eq 3, .aload 0, .invokevirtual 130624, .jsr 3] ls st h := WP.eqn c_704_2 0 rfl rfl rfl
theorem w_704_3 : WP d 704 3 ls st h Q = wpL (kC d) (kJ d 704 Q) Q 0 [.return_] ls st h := WP.eqn c_704_3 0 rfl rfl rfl
theorem R_713 {a : Nat} {x0 : Int32} : Run d 713 [.ref a, .int x0] h Q = WP d 713 0 [.ref a, .int x0] [] h Q := Run.eqn 2 rfl rfl
theorem w_713_0 : WP d 713 0 ls st h Q = wpL (kC d) (kJ d 713 Q) Q 2 [.aload 0, .getfield 840, .ldc_w 3, .if_icmp .ne 1, .aload 0, .getfield 844, .iload 1, .if_icmp .ne 1, .ldc_w 1, .goto 2] ls st h := WP.eqn c_713_0 2 rfl rfl rfl
theorem w_713_1 : WP d 713 1 ls st h Q = wpL (kC d) (kJ d 713 Q) Q 2 [.ldc_w 0, .jsr 2] ls st h := WP.eqn c_713_1 2 rfl rfl rfl
theorem w_713_2 : WP d 713 2 ls st h Q = wpL (kC d) (kJ d 713 Q) Q 2 [.ireturn] ls st h := WP.eqn c_713_2 2 rfl rfl rfl
theorem R_720 {a : Nat} : Run d 720 [.ref a] h Q = WP d 720 0 [.ref a, .retAddr 0, .retAddr 0, .retAddr 0, .retAddr 0] [] h Q := Run.eqn 5 rfl rfl
theorem w_720_0 : WP d 720 0 ls st h Q = wpL (kC d) (kJ d 720 Q) Q 0 [.aload 0, .invokevirtual 130624, .aload 0, .ldc_w 0, .ldc_w 7, .invokevirtual 130690, .istore 1, .aload 0, .getfield 3917, .ifCond .eq 1, .aload 0, .ldc2_w 203470477543, .invokevirtual 130673, .ifCond .eq 1, .ldc_w 1, .goto 2] ls st h := WP.eqn c_720_0 0 rfl rfl rfl
theorem w_720_1 : WP d 720 1 ls st h Q = wpL (kC d) (kJ d 720 Q) Q 0 [.ldc_w 0, .jsr 2] ls st h := WP.eqn c_720_1 0 rfl rfl rfl
theorem w_720_2 : WP d 720 2 ls st h Q = wpL (kC d) (kJ d 720 Q) Q 0 [.istore 2, .ldc_w 5, .istore 3, .iload 2, .ifCond .eq 3, .aload 0, .invokevirtual 130624, .goto 4] ls st h := WP.eqn c_720_2 0 rfl rfl rfl
theorem w_720_3 : WP d 720 3 ls st h Q = wpL (kC d) (kJ d 720 Q) Q 0 [.aload 0, .getfield 3917, .ifCond .eq 4, .aload 0, .invokevirtual 130728, .istore 3, .jsr 4] ls st h := WP.eqn c_720_3 0 rfl rfl rfl
theorem w_720_4 : WP d 720 4 ls st h Q = wpL (kC d) (kJ d 720 Q) Q 0 [.aload 0, .ldc_w 0, .iload 2, .ifCond .eq 5, .ldc_w 9, .goto 6] ls st h := WP.eqn c_720_4 0 rfl rfl rfl
theorem w_720_5 : WP d 720 5 ls st h Q = wpL (kC d) (kJ d 720 Q) Q 0 [.ldc_w 99, .jsr 6] ls st h := WP.eqn c_720_5 0 rfl rfl rfl
theorem w_720_6 : WP d 720 6 ls st h Q = wpL (kC d) (kJ d 720 Q) Q 0 [.invokevirtual 130690, .istore 4, .aload 0, .invokevirtual 130704, .aload 0, .getfield 3917, .ifCond .eq 7, .aload 0, .getfield 2881, .ldc_w 12, .ldc_w 7, .iload 1, .imul, .iadd, .iload 3, .iadd, .iload 4, .iastore, .jsr 7] ls st h := WP.eqn c_720_6 0 rfl rfl rfl
theorem w_720_7 : WP d 720 7 ls st h Q = wpL (kC d) (kJ d 720 Q) Q 0 [.return_] ls st h := WP.eqn c_720_7 0 rfl rfl rfl
theorem R_728 {a : Nat} : Run d 728 [.ref a] h Q = WP d 728 0 [.ref a, .retAddr 0] [] h Q := Run.eqn 2 rfl rfl
theorem w_728_0 : WP d 728 0 ls st h Q = wpL (kC d) (kJ d 728 Q) Q 1 [.aload 0, .invokevirtual 130736, .istore 1, .aload 0, .aload 0, .getfield 3917, .ifCond .eq 1, .iload 1, .ifCond .lt 1, .ldc_w 1, .goto 2] ls st h := WP.eqn c_728_0 1 rfl rfl rfl
theorem w_728_1 : WP d 728 1 ls st h Q = wpL (kC d) (kJ d 728 Q) Q 1 [.ldc_w 0, .jsr 2] ls st h := WP.eqn c_728_1 1 rfl rfl rfl
theorem w_728_2 : WP d 728 2 ls st h Q = wpL (kC d) (kJ d 728 Q) Q 1 [.putfield 3917, .aload 0, .getfield 3917, .ifCond .eq 3, .aload 0, .invokevirtual 130624, .jsr 3] ls st h := WP.eqn c_728_2 1 rfl rfl rfl
theorem w_728_3 : WP d 728 3 ls st h Q = wpL (kC d) (kJ d 728 Q) Q 1 [.iload 1, .ireturn] ls st h := WP.eqn c_728_3 1 rfl rfl rfl
theorem R_736 {a : Nat} : Run d 736 [.ref a] h Q = WP d 736 0 [.ref a] [] h Q := Run.eqn 1 rfl rfl
theorem w_736_0 : WP d 736 0 ls st h Q = wpL (kC d) (kJ d 736 Q) Q 1 [.aload 0, .ldc2_w 92969755, .invokevirtual 130673, .ifCond .eq 1, .ldc_w 0, .goto 6] ls st h := WP.eqn c_736_0 1 rfl rfl rfl
theorem w_736_1 : WP d 736 1 ls st h Q = wpL (kC d) (kJ d 736 Q) Q 1 [.aload 0, .ldc2_w 2345492275, .invokevirtual 130673, .ifCond .eq 2, .ldc_w 1, .goto 6] ls st h := WP.eqn c_736_1 1 rfl rfl rfl
theorem w_736_2 : WP d 736 2 ls st h Q = wpL (kC d) (kJ d 736 Q) Q 1 [.aload 0, .ldc2_w 10731428, .invokevirtual 130673, .ifCond .eq 3, .ldc_w 2, .goto 6] ls st h := WP.eqn c_736_2 1 rfl rfl rfl
theorem w_736_3 : WP d 736 3 ls st h Q = wpL (kC d) (kJ d 736 Q) Q 1 [.aload 0, .ldc2_w 274392372, .invokevirtual 130673, .ifCond .eq 4, .ldc_w 3, .goto 6] ls st h := WP.eqn c_736_3 1 rfl rfl rfl
theorem w_736_4 : WP d 736 4 ls st h Q = wpL (kC d) (kJ d 736 Q) Q 1 [.aload 0, .ldc2_w 4050994310159, .invokevirtual 130673, .ifCond .eq 5, .ldc_w 4, .goto 6] ls st h := WP.eqn c_736_4 1 rfl rfl rfl
theorem w_736_5 : WP d 736 5 ls st h Q = wpL (kC d) (kJ d 736 Q) Q 1 [.iconst (-1), .jsr 6] ls st h := WP.eqn c_736_5 1 rfl rfl rfl
theorem w_736_6 : WP d 736 6 ls st h Q = wpL (kC d) (kJ d 736 Q) Q 1 [.ireturn] ls st h := WP.eqn c_736_6 1 rfl rfl rfl
theorem R_744 {a : Nat} : Run d 744 [.ref a] h Q = WP d 744 0 [.ref a, .retAddr 0, .retAddr 0] [] h Q := Run.eqn 3 rfl rfl
theorem w_744_0 : WP d 744 0 ls st h Q = wpL (kC d) (kJ d 744 Q) Q 0 [.aload 0, .invokevirtual 130624, .aload 0, .invokevirtual 130728, .istore 1, .aload 0, .ldc_w 1, .ldc_w 30, .invokevirtual 130690, .istore 2, .aload 0, .invokevirtual 130704, .aload 0, .getfield 3917, .ifCond .eq 1, .aload 0, .getfield 2881, .ldc_w 7, .iload 1, .iadd, .iload 2, .iastore, .jsr 1] ls st h := WP.eqn c_744_0 0 rfl rfl rfl
theorem w_744_1 : WP d 744 1 ls st h Q = wpL (kC d) (kJ d 744 Q) Q 0 [.return_] ls st h := WP.eqn c_744_1 0 rfl rfl rfl
theorem R_752 {a : Nat} : Run d 752 [.ref a] h Q = WP d 752 0 [.ref a, .retAddr 0, .retAddr 0] [] h Q := Run.eqn 3 rfl rfl
theorem w_752_0 : WP d 752 0 ls st h Q = wpL (kC d) (kJ d 752 Q) Q 0 [.aload 0, .invokevirtual 130624, .aload 0, .ldc_w 0, .ldc_w 3, .invokevirtual 130690, .istore 1, .aload 0, .ldc_w 0, .ldc_w 999, .invokevirtual 130690, .istore 2, .aload 0, .invokevirtual 130704, .aload 0, .getfield 3917, .ifCond .eq 1, .aload 0, .getfield 2881, .ldc_w 68, .ldc_w 2, .iload 1, .imul, .iadd, .iload 2, .iastore, .jsr 1] ls st h := WP.eqn c_752_0 0 rfl rfl rfl
theorem w_752_1 : WP d 752 1 ls st h Q = wpL (kC d) (kJ d 752 Q) Q 0 [.return_] ls st h := WP.eqn c_752_1 0 rfl rfl rfl
theorem R_762 {x0 : Nat} {x1 : Nat} : Run d 762 [.ref x0, .ref x1] h Q = WP d 762 0 [.ref x0, .ref x1, .retAddr 0] [] h Q := Run.eqn 3 rfl rfl
theorem w_762_0 : WP d 762 0 ls st h Q = wpL (kC d) (kJ d 762 Q) Q 0 [.ldc_w 0, .istore 2, .jsr 1] ls st h := WP.eqn c_762_0 0 rfl rfl rfl
theorem w_762_1 : WP d 762 1 ls st h Q = wpL (kC d) (kJ d 762 Q) Q 0 [.iload 2, .ldc_w 136, .if_icmp .ge 2, .aload 1, .iload 2, .aload 0, .iload 2, .iaload, .iastore, .iinc 2 1, .goto 1] ls st h := WP.eqn c_762_1 0 rfl rfl rfl
theorem w_762_2 : WP d 762 2 ls st h Q = wpL (kC d) (kJ d 762 Q) Q 0 [.return_] ls st h := WP.eqn c_762_2 0 rfl rfl rfl
theorem R_770 {a : Nat} {x0 : Int32} {x1 : Int32} : Run d 770 [.ref a, .int x0, .int x1] h Q = WP d 770 0 [.ref a, .int x0, .int x1, .retAddr 0] [] h Q := Run.eqn 4 rfl rfl
theorem w_770_0 : WP d 770 0 ls st h Q = wpL (kC d) (kJ d 770 Q) Q 1 [.iload 1, .ifCond .ne 1, .iload 2, .ldc_w 0, .ldc_w 99, .invokestatic 611, .goto 4] ls st h := WP.eqn c_770_0 1 rfl rfl rfl
theorem w_770_1 : WP d 770 1 ls st h Q = wpL (kC d) (kJ d 770 Q) Q 1 [.iload 1, .ldc_w 1, .if_icmp .eq 2, .iload 1, .ldc_w 2, .if_icmp .ne 3, .jsr 2] ls st h := WP.eqn c_770_1 1 rfl rfl rfl
theorem w_770_2 : WP d 770 2 ls st h Q = wpL (kC d) (kJ d 770 Q) Q 1 [.iload 2, .ldc_w 1, .ldc_w 20, .invokestatic 611, .ifCond .eq 3, .ldc_w 1, .goto 4] ls st h := WP.eqn c_770_2 1 rfl rfl rfl
theorem w_770_3 : WP d 770 3 ls st h Q = wpL (kC d) (kJ d 770 Q) Q 1 [.ldc_w 0, .jsr 4] ls st h := WP.eqn c_770_3 1 rfl rfl rfl
theorem w_770_4 : WP d 770 4 ls st h Q = wpL (kC d) (kJ d 770 Q) Q 1 [.istore 3, .iload 3, .ifCond .eq 5, .aload 0, .iload 1, .iload 2, .invokevirtual 130778, .goto 6] ls st h := WP.eqn c_770_4 1 rfl rfl rfl
theorem w_770_5 : WP d 770 5 ls st h Q = wpL (kC d) (kJ d 770 Q) Q 1 [.iconst (-1), .jsr 6] ls st h := WP.eqn c_770_5 1 rfl rfl rfl
theorem w_770_6 : WP d 770 6 ls st h Q = wpL (kC d) (kJ d 770 Q) Q 1 [.ireturn] ls st h := WP.eqn c_770_6 1 rfl rfl rfl
theorem R_778 {a : Nat} {x0 : Int32} {x1 : Int32} : Run d 778 [.ref a, .int x0, .int x1] h Q = WP d 778 0 [.ref a, .int x0, .int x1, .retAddr 0] [] h Q := Run.eqn 4 rfl rfl
theorem w_778_0 : WP d 778 0 ls st h Q = wpL (kC d) (kJ d 778 Q) Q 1 [.aload 0, .getfield 2880, .iload 1, .iaload, .istore 3, .aload 0, .getfield 2880, .iload 1, .iload 2, .iastore, .iload 3, .ireturn] ls st h := WP.eqn c_778_0 1 rfl rfl rfl
theorem R_785 {a : Nat} {x0 : Int32} : Run d 785 [.ref a, .int x0] h Q = WP d 785 0 [.ref a, .int x0] [] h Q := Run.eqn 2 rfl rfl
theorem w_785_0 : WP d 785 0 ls st h Q = wpL (kC d) (kJ d 785 Q) Q 1 [.iload 1, .ldc_w 0, .ldc_w 2, .invokestatic 611, .ifCond .eq 1, .aload 0, .getfield 2880, .iload 1, .iaload, .goto 2] ls st h := WP.eqn c_785_0 1 rfl rfl rfl
theorem w_785_1 : WP d 785 1 ls st h Q = wpL (kC d) (kJ d 785 Q) Q 1 [.iconst (-1), .jsr 2] ls st h := WP.eqn c_785_1 1 rfl rfl rfl
theorem w_785_2 : WP d 785 2 ls st h Q = wpL (kC d) (kJ d 785 Q) Q 1 [.ireturn] ls st h := WP.eqn c_785_2 1 rfl rfl rfl
theorem R_794 {a : Nat} {x0 : Int32} {x1 : Int32} : Run d 794 [.ref a, .int x0, .int x1] h Q = WP d 794 0 [.ref a, .int x0, .int x1] [] h Q := Run.eqn 3 rfl rfl
theorem w_794_0 : WP d 794 0 ls st h Q = wpL (kC d) (kJ d 794 Q) Q 1 [.iload 1, .invokestatic 801, .ifCond .eq 1, .iload 2, .ldc_w 1, .ldc_w 30, .invokestatic 611, .ifCond .eq 1, .aload 0, .ldc_w 7, .iload 1, .iadd, .iload 2, .invokevirtual 130778, .goto 2] ls st h := WP.eqn c_794_0 1 rfl rfl rfl
theorem w_794_1 : WP d 794 1 ls st h Q = wpL (kC d) (kJ d 794 Q) Q 1 [.iconst (-1), .jsr 2] ls st h := WP.eqn c_794_1 1 rfl rfl rfl
theorem w_794_2 : WP d 794 2 ls st h Q = wpL (kC d) (kJ d 794 Q) Q 1 [.ireturn] ls st h := WP.eqn c_794_2 1 rfl rfl rfl
theorem R_801 {x0 : Int32} : Run d 801 [.int x0] h Q = WP d 801 0 [.int x0] [] h Q := Run.eqn 1 rfl rfl
theorem w_801_0 : WP d 801 0 ls st h Q = wpL (kC d) (kJ d 801 Q) Q 2 [.iload 0, .ldc_w 0, .ldc_w 4, .invokestatic 611, .ireturn] ls st h := WP.eqn c_801_0 2 rfl rfl rfl
theorem R_810 {a : Nat} {x0 : Int32} {x1 : Int32} : Run d 810 [.ref a, .int x0, .int x1] h Q = WP d 810 0 [.ref a, .int x0, .int x1] [] h Q := Run.eqn 3 rfl rfl
theorem w_810_0 : WP d 810 0 ls st h Q = wpL (kC d) (kJ d 810 Q) Q 1 [.iload 1, .invokestatic 817, .ifCond .eq 1, .iload 2, .ldc_w 0, .ldc_w 999, .invokestatic 611, .ifCond .eq 1, .aload 0, .ldc_w 68, .ldc_w 2, .iload 1, .imul, .iadd, .iload 2, .invokevirtual 130778, .goto 2] ls st h := WP.eqn c_810_0 1 rfl rfl rfl
theorem w_810_1 : WP d 810 1 ls st h Q = wpL (kC d) (kJ d 810 Q) Q 1 [.iconst (-1), .jsr 2] ls st h := WP.eqn c_810_1 1 rfl rfl rfl
theorem w_810_2 : WP d 810 2 ls st h Q = wpL (kC d) (kJ d 810 Q) Q 1 [.ireturn] ls st h := WP.eqn c_810_2 1 rfl rfl rfl
theorem R_817 {x0 : Int32} : Run d 817 [.int x0] h Q = WP d 817 0 [.int x0] [] h Q := Run.eqn 1 rfl rfl
theorem w_817_0 : WP d 817 0 ls st h Q = wpL (kC d) (kJ d 817 Q) Q 2 [.iload 0, .ldc_w 0, .ldc_w 3, .invokestatic 611, .ireturn] ls st h := WP.eqn c_817_0 2 rfl rfl rfl
theorem R_826 {a : Nat} {x0 : Int32} {x1 : Int32} : Run d 826 [.ref a, .int x0, .int x1] h Q = WP d 826 0 [.ref a, .int x0, .int x1] [] h Q := Run.eqn 3 rfl rfl
theorem w_826_0 : WP d 826 0 ls st h Q = wpL (kC d) (kJ d 826 Q) Q 1 [.iload 1, .invokestatic 817, .ifCond .eq 1, .iload 2, .ldc_w 0, .ldc_w 2, .invokestatic 611, .ifCond .ne 2, .jsr 1] ls st h := WP.eqn c_826_0 1 rfl rfl rfl
theorem w_826_1 : WP d 826 1 ls st h Q = wpL (kC d) (kJ d 826 Q) Q 1 [.iconst (-1), .ireturn] ls st h := WP.eqn c_826_1 1 rfl rfl rfl
theorem w_826_2 : WP d 826 2 ls st h Q = wpL (kC d) (kJ d 826 Q) Q 1 [.iload 2, .ldc_w 2, .if_icmp .ge 3, .aload 0, .getfield 2880, .ldc_w 68, .ldc_w 2, .iload 1, .imul, .iadd, .iload 2, .iadd, .iaload, .goto 4] ls st h := WP.eqn c_826_2 1 rfl rfl rfl
theorem w_826_3 : WP d 826 3 ls st h Q = wpL (kC d) (kJ d 826 Q) Q 1 [.aload 0, .ldc_w 2, .iload 1, .imul, .ldc_w 5, .invokevirtual 130834, .aload 0, .ldc_w 2, .iload 1, .imul, .ldc_w 1, .iadd, .ldc_w 5, .invokevirtual 130834, .iadd, .jsr 4] ls st h := WP.eqn c_826_3 1 rfl rfl rfl
theorem w_826_4 : WP d 826 4 ls st h Q = wpL (kC d) (kJ d 826 Q) Q 1 [.ireturn] ls st h := WP.eqn c_826_4 1 rfl rfl rfl
theorem R_834 {a : Nat} {x0 : Int32} {x1 : Int32} : Run d 834 [.ref a, .int x0, .int x1] h Q = WP d 834 0 [.ref a, .int x0, .int x1] [] h Q := Run.eqn 3 rfl rfl
theorem w_834_0 : WP d 834 0 ls st h Q = wpL (kC d) (kJ d 834 Q) Q 1 [.aload 0, .getfield 2880, .ldc_w 12, .ldc_w 7, .iload 1, .imul, .iadd, .iload 2, .iadd, .iaload, .ireturn] ls st h := WP.eqn c_834_0 1 rfl rfl rfl
theorem R_842 {a : Nat} {x0 : Int32} {x1 : Int32} : Run d 842 [.ref a, .int x0, .int x1] h Q = WP d 842 0 [.ref a, .int x0, .int x1] [] h Q := Run.eqn 3 rfl rfl
theorem w_842_0 : WP d 842 0 ls st h Q = wpL (kC d) (kJ d 842 Q) Q 1 [.iload 1, .invokestatic 849, .ifCond .eq 1, .iload 2, .ldc_w 0, .ldc_w 7, .invokestatic 611, .ifCond .ne 2, .jsr 1] ls st h := WP.eqn c_842_0 1 rfl rfl rfl
theorem w_842_1 : WP d 842 1 ls st h Q = wpL (kC d) (kJ d 842 Q) Q 1 [.iconst (-1), .ireturn] ls st h := WP.eqn c_842_1 1 rfl rfl rfl
theorem w_842_2 : WP d 842 2 ls st h Q = wpL (kC d) (kJ d 842 Q) Q 1 [.iload 2, .ldc_w 7, .if_icmp .ge 3, .aload 0, .iload 1, .iload 2, .invokevirtual 130834, .goto 4] ls st h := WP.eqn c_842_2 1 rfl rfl rfl
theorem w_842_3 : WP d 842 3 ls st h Q = wpL (kC d) (kJ d 842 Q) Q 1 [.aload 0, .iload 1, .invokevirtual 130857, .jsr 4] ls st h := WP.eqn c_842_3 1 rfl rfl rfl
theorem w_842_4 : WP d 842 4 ls st h Q = wpL (kC d) (kJ d 842 Q) Q 1 [.ireturn] ls st h := WP.eqn c_842_4 1 rfl rfl rfl
theorem R_849 {x0 : Int32} : Run d 849 [.int x0] h Q = WP d 849 0 [.int x0] [] h Q := Run.eqn 1 rfl rfl
theorem w_849_0 : WP d 849 0 ls st h Q = wpL (kC d) (kJ d 849 Q) Q 2 [.iload 0, .ldc_w 0, .ldc_w 7, .invokestatic 611, .ireturn] ls st h := WP.eqn c_849_0 2 rfl rfl rfl
theorem R_857 {a : Nat} {x0 : Int32} : Run d 857 [.ref a, .int x0] h Q = WP d 857 0 [.ref a, .int x0, .retAddr 0, .retAddr 0] [] h Q := Run.eqn 4 rfl rfl
theorem w_857_0 : WP d 857 0 ls st h Q = wpL (kC d) (kJ d 857 Q) Q 1 [.ldc_w 0, .istore 2, .ldc_w 0, .istore 3, .jsr 1] ls st h := WP.eqn c_857_0 1 rfl rfl rfl
theorem w_857_1 : WP d 857 1 ls st h Q = wpL (kC d) (kJ d 857 Q) Q 1 [.iload 3, .ldc_w 5, .if_icmp .ge 2, .iload 2, .aload 0, .iload 1, .iload 3, .invokevirtual 130834, .iadd, .istore 2, .iinc 3 1, .goto 1] ls st h := WP.eqn c_857_1 1 rfl rfl rfl
theorem w_857_2 : WP d 857 2 ls st h Q = wpL (kC d) (kJ d 857 Q) Q 1 [.iload 2, .ireturn] ls st h := WP.eqn c_857_2 1 rfl rfl rfl
theorem R_867 {a : Nat} {x0 : Int32} {x1 : Int32} {x2 : Int32} : Run d 867 [.ref a, .int x0, .int x1, .int x2] h Q = WP d 867 0 [.ref a, .int x0, .int x1, .int x2, .retAddr 0] [] h Q := Run.eqn 5 rfl rfl
theorem w_867_0 : WP d 867 0 ls st h Q = wpL (kC d) (kJ d 867 Q) Q 1 [.iload 1, .invokestatic 849, .ifCond .eq 3, .iload 2, .invokestatic 801, .ifCond .eq 1, .iload 3, .ldc_w 0, .ldc_w 99, .invokestatic 611, .ifCond .ne 2, .jsr 1] ls st h := WP.eqn c_867_0 1 rfl rfl rfl
theorem w_867_1 : WP d 867 1 ls st h Q = wpL (kC d) (kJ d 867 Q) Q 1 [.iload 2, .ldc_w 5, .if_icmp .ne 3, .iload 3, .ldc_w 0, .ldc_w 9, .invokestatic 611, .ifCond .eq 3, .jsr 2] ls st h := WP.eqn c_867_1 1 rfl rfl rfl
theorem w_867_2 : WP d 867 2 ls st h Q = wpL (kC d) (kJ d 867 Q) Q 1 [.ldc_w 1, .goto 4] ls st h := WP.eqn c_867_2 1 rfl rfl rfl
theorem w_867_3 : WP d 867 3 ls st h Q = wpL (kC d) (kJ d 867 Q) Q 1 [.ldc_w 0, .jsr 4] ls st h := WP.eqn c_867_3 1 rfl rfl rfl
theorem w_867_4 : WP d 867 4 ls st h Q = wpL (kC d) (kJ d 867 Q) Q 1 [.istore 4, .iload 4, .ifCond .eq 5, .aload 0, .ldc_w 12, .ldc_w 7, .iload 1, .imul, .iadd, .iload 2, .iadd, .iload 3, .invokevirtual 130778, .goto 6] ls st h := WP.eqn c_867_4 1 rfl rfl rfl
theorem w_867_5 : WP d 867 5 ls st h Q = wpL (kC d) (kJ d 867 Q) Q 1 [.iconst (-1), .jsr 6] ls st h := WP.eqn c_867_5 1 rfl rfl rfl
theorem w_867_6 : WP d 867 6 ls st h Q = wpL (kC d) (kJ d 867 Q) Q 1 [.ireturn] ls st h := WP.eqn c_867_6 1 rfl rfl rfl
theorem R_876 {a : Nat} {x0 : Int32} {x1 : Int32} {x2 : Int32} {x3 : Int32} : Run d 876 [.ref a, .int x0, .int x1, .int x2, .int x3] h Q = WP d 876 0 [.ref a, .int x0, .int x1, .int x2, .int x3, .retAddr 0, .retAddr 0] [] h Q := Run.eqn 7 rfl rfl
theorem w_876_0 : WP d 876 0 ls st h Q = wpL (kC d) (kJ d 876 Q) Q 1 [.iload 1, .iload 2, .invokestatic 882, .ifCond .eq 1, .iload 3, .invokestatic 849, .ifCond .eq 1, .iload 4, .ldc_w 0, .ldc_w 9, .invokestatic 611, .ifCond .ne 2, .jsr 1] ls st h := WP.eqn c_876_0 1 rfl rfl rfl
theorem w_876_1 : WP d 876 1 ls st h Q = wpL (kC d) (kJ d 876 Q) Q 1 [.iconst (-1), .ireturn] ls st h := WP.eqn c_876_1 1 rfl rfl rfl
theorem w_876_2 : WP d 876 2 ls st h Q = wpL (kC d) (kJ d 876 Q) Q 1 [.aload 0, .getfield 2880, .ldc_w 5, .iaload, .ldc_w 6, .if_icmp .ne 3, .iconst (-2), .ireturn] ls st h := WP.eqn c_876_2 1 rfl rfl rfl
theorem w_876_3 : WP d 876 3 ls st h Q = wpL (kC d) (kJ d 876 Q) Q 1 [.aload 0, .getfield 2880, .ldc_w 5, .iaload, .istore 5, .ldc_w 0, .istore 6, .jsr 4] ls st h := WP.eqn c_876_3 1 rfl rfl rfl
theorem w_876_4 : WP d 876 4 ls st h Q = wpL (kC d) (kJ d 876 Q) Q 1 [.iload 6, .ldc_w 10, .if_icmp .ge 5, .aload 0, .iload 5, .iload 6, .ldc_w 0, .invokevirtual 130891, .iinc 6 1, .goto 4] ls st h := WP.eqn c_876_4 1 rfl rfl rfl
theorem w_876_5 : WP d 876 5 ls st h Q = wpL (kC d) (kJ d 876 Q) Q 1 [.aload 0, .iload 5, .ldc_w 0, .iload 1, .invokevirtual 130891, .aload 0, .iload 5, .ldc_w 1, .iload 2, .invokevirtual 130891, .aload 0, .iload 5, .ldc_w 2, .iload 3, .invokevirtual 130891, .aload 0, .iload 5, .ldc_w 3, .iload 4, .invokevirtual 130891, .aload 0, .getfield 2880, .ldc_w 5, .dup2, .iaload, .ldc_w 1, .iadd, .iastore, .iload 5, .ireturn] ls st h := WP.eqn c_876_5 1 rfl rfl rfl
theorem R_882 {x0 : Int32} {x1 : Int32} : Run d 882 [.int x0, .int x1] h Q = WP d 882 0 [.int x0, .int x1] [] h Q := Run.eqn 2 rfl rfl
theorem w_882_0 : WP d 882 0 ls st h Q = wpL (kC d) (kJ d 882 Q) Q 2 [.iload 0, .ldc_w 0, .ldc_w 5, .invokestatic 611, .ifCond .eq 1, .iload 1, .ldc_w 0, .ldc_w 9, .invokestatic 611, .ifCond .eq 1, .ldc_w 1, .goto 2] ls st h := WP.eqn c_882_0 2 rfl rfl rfl
theorem w_882_1 : WP d 882 1 ls st h Q = wpL (kC d) (kJ d 882 Q) Q 2 [.ldc_w 0, .jsr 2] ls st h := WP.eqn c_882_1 2 rfl rfl rfl
theorem w_882_2 : WP d 882 2 ls st h Q = wpL (kC d) (kJ d 882 Q) Q 2 [.ireturn] ls st h := WP.eqn c_882_2 2 rfl rfl rfl
theorem R_891 {a : Nat} {x0 : Int32} {x1 : Int32} {x2 : Int32} : Run d 891 [.ref a, .int x0, .int x1, .int x2] h Q = WP d 891 0 [.ref a, .int x0, .int x1, .int x2] [] h Q := Run.eqn 4 rfl rfl
theorem w_891_0 : WP d 891 0 ls st h Q = wpL (kC d) (kJ d 891 Q) Q 0 [.aload 0, .getfield 2880, .ldc_w 76, .ldc_w 10, .iload 1, .imul, .iadd, .iload 2, .iadd, .iload 3, .iastore, .return_] ls st h := WP.eqn c_891_0 0 rfl rfl rfl
theorem R_898 {a : Nat} {x0 : Int32} {x1 : Int32} : Run d 898 [.ref a, .int x0, .int x1] h Q = WP d 898 0 [.ref a, .int x0, .int x1] [] h Q := Run.eqn 3 rfl rfl
theorem w_898_0 : WP d 898 0 ls st h Q = wpL (kC d) (kJ d 898 Q) Q 1 [.aload 0, .iload 1, .invokevirtual 130905, .ifCond .eq 1, .iload 2, .ldc_w 0, .ldc_w 10, .invokestatic 611, .ifCond .ne 2, .jsr 1] ls st h := WP.eqn c_898_0 1 rfl rfl rfl
theorem w_898_1 : WP d 898 1 ls st h Q = wpL (kC d) (kJ d 898 Q) Q 1 [.iconst (-1), .ireturn] ls st h := WP.eqn c_898_1 1 rfl rfl rfl
theorem w_898_2 : WP d 898 2 ls st h Q = wpL (kC d) (kJ d 898 Q) Q 1 [.iload 2, .ldc_w 10, .if_icmp .ge 3, .aload 0, .iload 1, .iload 2, .invokevirtual 130914, .goto 4] ls st h := WP.eqn c_898_2 1 rfl rfl rfl
theorem w_898_3 : WP d 898 3 ls st h Q = wpL (kC d) (kJ d 898 Q) Q 1 [.aload 0, .iload 1, .invokevirtual 130921, .jsr 4] ls st h := WP.eqn c_898_3 1 rfl rfl rfl
theorem w_898_4 : WP d 898 4 ls st h Q = wpL (kC d) (kJ d 898 Q) Q 1 [.ireturn] ls st h := WP.eqn c_898_4 1 rfl rfl rfl
theorem R_905 {a : Nat} {x0 : Int32} : Run d 905 [.ref a, .int x0] h Q = WP d 905 0 [.ref a, .int x0] [] h Q := Run.eqn 2 rfl rfl
theorem w_905_0 : WP d 905 0 ls st h Q = wpL (kC d) (kJ d 905 Q) Q 2 [.iload 1, .ldc_w 0, .aload 0, .getfield 2880, .ldc_w 5, .iaload, .ldc_w 1, .isub, .invokestatic 611, .ireturn] ls st h := WP.eqn c_905_0 2 rfl rfl rfl
theorem R_914 {a : Nat} {x0 : Int32} {x1 : Int32} : Run d 914 [.ref a, .int x0, .int x1] h Q = WP d 914 0 [.ref a, .int x0, .int x1] [] h Q := Run.eqn 3 rfl rfl
theorem w_914_0 : WP d 914 0 ls st h Q = wpL (kC d) (kJ d 914 Q) Q 1 [.aload 0, .getfield 2880, .ldc_w 76, .ldc_w 10, .iload 1, .imul, .iadd, .iload 2, .iadd, .iaload, .ireturn] ls st h := WP.eqn c_914_0 1 rfl rfl rfl
theorem R_921 {a : Nat} {x0 : Int32} : Run d 921 [.ref a, .int x0] h Q = WP d 921 0 [.ref a, .int x0, .retAddr 0, .retAddr 0] [] h Q := Run.eqn 4 rfl rfl
theorem w_921_0 : WP d 921 0 ls st h Q = wpL (kC d) (kJ d 921 Q) Q 1 [.ldc_w 0, .istore 2, .ldc_w 0, .istore 3, .jsr 1] ls st h := WP.eqn c_921_0 1 rfl rfl rfl
theorem w_921_1 : WP d 921 1 ls st h Q = wpL (kC d) (kJ d 921 Q) Q 1 [.iload 3, .ldc_w 5, .if_icmp .ge 2, .iload 2, .aload 0, .iload 1, .ldc_w 5, .iload 3, .iadd, .invokevirtual 130914, .aload 0, .getfield 2880, .ldc_w 7, .iload 3, .iadd, .iaload, .imul, .iadd, .istore 2, .iinc 3 1, .goto 1] ls st h := WP.eqn c_921_1 1 rfl rfl rfl
theorem w_921_2 : WP d 921 2 ls st h Q = wpL (kC d) (kJ d 921 Q) Q 1 [.iload 2, .ireturn] ls st h := WP.eqn c_921_2 1 rfl rfl rfl
theorem R_931 {a : Nat} {x0 : Int32} {x1 : Int32} {x2 : Int32} : Run d 931 [.ref a, .int x0, .int x1, .int x2] h Q = WP d 931 0 [.ref a, .int x0, .int x1, .int x2] [] h Q := Run.eqn 4 rfl rfl
theorem w_931_0 : WP d 931 0 ls st h Q = wpL (kC d) (kJ d 931 Q) Q 1 [.aload 0, .iload 1, .invokevirtual 130905, .ifCond .eq 1, .iload 2, .iload 3, .invokestatic 882, .ifCond .ne 2, .jsr 1] ls st h := WP.eqn c_931_0 1 rfl rfl rfl
theorem w_931_1 : WP d 931 1 ls st h Q = wpL (kC d) (kJ d 931 Q) Q 1 [.iconst (-1), .ireturn] ls st h := WP.eqn c_931_1 1 rfl rfl rfl
theorem w_931_2 : WP d 931 2 ls st h Q = wpL (kC d) (kJ d 931 Q) Q 1 [.aload 0, .iload 1, .ldc_w 1, .iload 3, .invokevirtual 130891, .aload 0, .ldc_w 76, .ldc_w 10, .iload 1, .imul, .iadd, .iload 2, .invokevirtual 130778, .ireturn] ls st h := WP.eqn c_931_2 1 rfl rfl rfl
theorem R_938 {a : Nat} {x0 : Int32} {x1 : Int32} : Run d 938 [.ref a, .int x0, .int x1] h Q = WP d 938 0 [.ref a, .int x0, .int x1] [] h Q := Run.eqn 3 rfl rfl
theorem w_938_0 : WP d 938 0 ls st h Q = wpL (kC d) (kJ d 938 Q) Q 1 [.aload 0, .iload 1, .invokevirtual 130905, .ifCond .eq 1, .iload 2, .invokestatic 849, .ifCond .eq 1, .aload 0, .ldc_w 76, .ldc_w 10, .iload 1, .imul, .iadd, .ldc_w 2, .iadd, .iload 2, .invokevirtual 130778, .goto 2] ls st h := WP.eqn c_938_0 1 rfl rfl rfl
theorem w_938_1 : WP d 938 1 ls st h Q = wpL (kC d) (kJ d 938 Q) Q 1 [.iconst (-1), .jsr 2] ls st h := WP.eqn c_938_1 1 rfl rfl rfl
theorem w_938_2 : WP d 938 2 ls st h Q = wpL (kC d) (kJ d 938 Q) Q 1 [.ireturn] ls st h := WP.eqn c_938_2 1 rfl rfl rfl
theorem R_946 {a : Nat} {x0 : Int32} {x1 : Int32} : Run d 946 [.ref a, .int x0, .int x1] h Q = WP d 946 0 [.ref a, .int x0, .int x1] [] h Q := Run.eqn 3 rfl rfl
theorem w_946_0 : WP d 946 0 ls st h Q = wpL (kC d) (kJ d 946 Q) Q 1 [.aload 0, .iload 1, .invokevirtual 130905, .ifCond .eq 1, .iload 2, .ldc_w 0, .ldc_w 9, .invokestatic 611, .ifCond .eq 1, .aload 0, .ldc_w 76, .ldc_w 10, .iload 1, .imul, .iadd, .ldc_w 3, .iadd, .iload 2, .invokevirtual 130778, .goto 2] ls st h := WP.eqn c_946_0 1 rfl rfl rfl
theorem w_946_1 : WP d 946 1 ls st h Q = wpL (kC d) (kJ d 946 Q) Q 1 [.iconst (-1), .jsr 2] ls st h := WP.eqn c_946_1 1 rfl rfl rfl
theorem w_946_2 : WP d 946 2 ls st h Q = wpL (kC d) (kJ d 946 Q) Q 1 [.ireturn] ls st h := WP.eqn c_946_2 1 rfl rfl rfl
theorem R_953 {a : Nat} {x0 : Int32} : Run d 953 [.ref a, .int x0] h Q = WP d 953 0 [.ref a, .int x0] [] h Q := Run.eqn 2 rfl rfl
theorem w_953_0 : WP d 953 0 ls st h Q = wpL (kC d) (kJ d 953 Q) Q 1 [.aload 0, .iload 1, .invokevirtual 130905, .ifCond .eq 1, .aload 0, .ldc_w 76, .ldc_w 10, .iload 1, .imul, .iadd, .ldc_w 4, .iadd, .ldc_w 0, .invokevirtual 130778, .goto 2] ls st h := WP.eqn c_953_0 1 rfl rfl rfl
theorem w_953_1 : WP d 953 1 ls st h Q = wpL (kC d) (kJ d 953 Q) Q 1 [.iconst (-1), .jsr 2] ls st h := WP.eqn c_953_1 1 rfl rfl rfl
theorem w_953_2 : WP d 953 2 ls st h Q = wpL (kC d) (kJ d 953 Q) Q 1 [.ireturn] ls st h := WP.eqn c_953_2 1 rfl rfl rfl
theorem R_962 {a : Nat} {x0 : Int32} {x1 : Int32} : Run d 962 [.ref a, .int x0, .int x1] h Q = WP d 962 0 [.ref a, .int x0, .int x1] [] h Q := Run.eqn 3 rfl rfl
theorem w_962_0 : WP d 962 0 ls st h Q = wpL (kC d) (kJ d 962 Q) Q 1 [.aload 0, .iload 1, .invokevirtual 130905, .ifCond .eq 1, .iload 2, .invokestatic 801, .ifCond .eq 1, .aload 0, .iload 1, .iload 2, .invokevirtual 130970, .goto 2] ls st h := WP.eqn c_962_0 1 rfl rfl rfl
theorem w_962_1 : WP d 962 1 ls st h Q = wpL (kC d) (kJ d 962 Q) Q 1 [.iconst (-1), .jsr 2] ls st h := WP.eqn c_962_1 1 rfl rfl rfl
theorem w_962_2 : WP d 962 2 ls st h Q = wpL (kC d) (kJ d 962 Q) Q 1 [.ireturn] ls st h := WP.eqn c_962_2 1 rfl rfl rfl
theorem R_970 {a : Nat} {x0 : Int32} {x1 : Int32} : Run d 970 [.ref a, .int x0, .int x1] h Q = WP d 970 0 [.ref a, .int x0, .int x1, .retAddr 0, .retAddr 0, .retAddr 0] [] h Q := Run.eqn 6 rfl rfl
theorem w_970_0 : WP d 970 0 ls st h Q = wpL (kC d) (kJ d 970 Q) Q 1 [.aload 0, .aload 0, .iload 1, .ldc_w 2, .invokevirtual 130914, .iload 2, .invokevirtual 130834, .istore 3, .aload 0, .iload 1, .ldc_w 1, .invokevirtual 130914, .istore 4, .iload 3, .ldc_w 4, .idiv, .istore 5, .aload 0, .iload 1, .ldc_w 0, .invokevirtual 130914, .tableswitch 10 1 5 #[1, 2, 3, 6, 7]] ls st h := WP.eqn c_970_0 1 rfl rfl rfl
theorem w_970_1 : WP d 970 1 ls st h Q = wpL (kC d) (kJ d 970 Q) Q 1 [.ldc_w 2, .iload 5, .imul, .istore 5, .goto 10] ls st h := WP.eqn c_970_1 1 rfl rfl rfl
theorem w_970_2 : WP d 970 2 ls st h Q = wpL (kC d) (kJ d 970 Q) Q 1 [.iload 5, .iload 4, .iadd, .istore 5, .goto 10] ls st h := WP.eqn c_970_2 1 rfl rfl rfl
theorem w_970_3 : WP d 970 3 ls st h Q = wpL (kC d) (kJ d 970 Q) Q 1 [.iload 2, .ldc_w 2, .if_icmp .ne 4, .ldc_w 0, .goto 5] ls st h := WP.eqn c_970_3 1 rfl rfl rfl
theorem w_970_4 : WP d 970 4 ls st h Q = wpL (kC d) (kJ d 970 Q) Q 1 [.ldc_w 2, .iload 5, .imul, .jsr 5] ls st h := WP.eqn c_970_4 1 rfl rfl rfl
theorem w_970_5 : WP d 970 5 ls st h Q = wpL (kC d) (kJ d 970 Q) Q 1 [.istore 5, .goto 10] ls st h := WP.eqn c_970_5 1 rfl rfl rfl
theorem w_970_6 : WP d 970 6 ls st h Q = wpL (kC d) (kJ d 970 Q) Q 1 [.ldc_w 2, .iload 5, .iload 4, .iadd, .imul, .istore 5, .goto 10] ls st h := WP.eqn c_970_6 1 rfl rfl rfl
theorem w_970_7 : WP d 970 7 ls st h Q = wpL (kC d) (kJ d 970 Q) Q 1 [.iload 2, .iload 4, .ldc_w 5, .irem, .if_icmp .ne 8, .iload 3, .goto 9] ls st h := WP.eqn c_970_7 1 rfl rfl rfl
theorem w_970_8 : WP d 970 8 ls st h Q = wpL (kC d) (kJ d 970 Q) Q 1 [.iload 5, .jsr 9] ls st h := WP.eqn c_970_8 1 rfl rfl rfl
theorem w_970_9 : WP d 970 9 ls st h Q = wpL (kC d) (kJ d 970 Q) Q 1 [.istore 5, .goto 10] ls st h := WP.eqn c_970_9 1 rfl rfl rfl
theorem w_970_10 : WP d 970 10 ls st h Q = wpL (kC d) (kJ d 970 Q) Q 1 [.iload 5, .iload 3, .if_icmp .ge 11, .iload 5, .goto 12] ls st h := WP.eqn c_970_10 1 rfl rfl rfl
theorem w_970_11 : WP d 970 11 ls st h Q = wpL (kC d) (kJ d 970 Q) Q 1 [.iload 3, .jsr 12] ls st h := WP.eqn c_970_11 1 rfl rfl rfl
theorem w_970_12 : WP d 970 12 ls st h Q = wpL (kC d) (kJ d 970 Q) Q 1 [.ireturn] ls st h := WP.eqn c_970_12 1 rfl rfl rfl
theorem R_977 {a : Nat} {x0 : Int32} : Run d 977 [.ref a, .int x0] h Q = WP d 977 0 [.ref a, .int x0] [] h Q := Run.eqn 2 rfl rfl
theorem w_977_0 : WP d 977 0 ls st h Q = wpL (kC d) (kJ d 977 Q) Q 1 [.aload 0, .iload 1, .invokevirtual 130905, .ifCond .eq 1, .aload 0, .iload 1, .invokevirtual 130985, .goto 2] ls st h := WP.eqn c_977_0 1 rfl rfl rfl
theorem w_977_1 : WP d 977 1 ls st h Q = wpL (kC d) (kJ d 977 Q) Q 1 [.iconst (-1), .jsr 2] ls st h := WP.eqn c_977_1 1 rfl rfl rfl
theorem w_977_2 : WP d 977 2 ls st h Q = wpL (kC d) (kJ d 977 Q) Q 1 [.ireturn] ls st h := WP.eqn c_977_2 1 rfl rfl rfl
theorem R_985 {a : Nat} {x0 : Int32} : Run d 985 [.ref a, .int x0] h Q = WP d 985 0 [.ref a, .int x0] [] h Q := Run.eqn 2 rfl rfl
theorem w_985_0 : WP d 985 0 ls st h Q = wpL (kC d) (kJ d 985 Q) Q 1 [.aload 0, .iload 1, .ldc_w 0, .invokevirtual 130914, .tableswitch 7 1 5 #[1, 2, 3, 6, 1]] ls st h := WP.eqn c_985_0 1 rfl rfl rfl
theorem w_985_1 : WP d 985 1 ls st h Q = wpL (kC d) (kJ d 985 Q) Q 1 [.ldc_w 0, .ireturn] ls st h := WP.eqn c_985_1 1 rfl rfl rfl
theorem w_985_2 : WP d 985 2 ls st h Q = wpL (kC d) (kJ d 985 Q) Q 1 [.ldc_w 2, .ireturn] ls st h := WP.eqn c_985_2 1 rfl rfl rfl
theorem w_985_3 : WP d 985 3 ls st h Q = wpL (kC d) (kJ d 985 Q) Q 1 [.aload 0, .iload 1, .ldc_w 3, .invokevirtual 130914, .ldc_w 3, .if_icmp .ge 4, .ldc_w 1, .goto 5] ls st h := WP.eqn c_985_3 1 rfl rfl rfl
theorem w_985_4 : WP d 985 4 ls st h Q = wpL (kC d) (kJ d 985 Q) Q 1 [.ldc_w 0, .jsr 5] ls st h := WP.eqn c_985_4 1 rfl rfl rfl
theorem w_985_5 : WP d 985 5 ls st h Q = wpL (kC d) (kJ d 985 Q) Q 1 [.ireturn] ls st h := WP.eqn c_985_5 1 rfl rfl rfl
theorem w_985_6 : WP d 985 6 ls st h Q = wpL (kC d) (kJ d 985 Q) Q 1 [.ldc_w 2, .aload 0, .iload 1, .ldc_w 1, .invokevirtual 130914, .iadd, .ireturn] ls st h := WP.eqn c_985_6 1 rfl rfl rfl
theorem w_985_7 : WP d 985 7 ls st h Q = wpL (kC d) (kJ d 985 Q) Q 1 [.ldc_w 1, .ireturn] ls st h := WP.eqn c_985_7 1 rfl rfl rfl
theorem R_993 {a : Nat} {x0 : Int32} : Run d 993 [.ref a, .int x0] h Q = WP d 993 0 [.ref a, .int x0] [] h Q := Run.eqn 2 rfl rfl
theorem w_993_0 : WP d 993 0 ls st h Q = wpL (kC d) (kJ d 993 Q) Q 1 [.aload 0, .iload 1, .invokevirtual 130905, .ifCond .ne 1, .iconst (-1), .ireturn] ls st h := WP.eqn c_993_0 1 rfl rfl rfl
theorem w_993_1 : WP d 993 1 ls st h Q = wpL (kC d) (kJ d 993 Q) Q 1 [.aload 0, .iload 1, .invokevirtual 131001, .ifCond .ne 2, .iconst (-4), .ireturn] ls st h := WP.eqn c_993_1 1 rfl rfl rfl
theorem w_993_2 : WP d 993 2 ls st h Q = wpL (kC d) (kJ d 993 Q) Q 1 [.aload 0, .iload 1, .invokevirtual 131009, .aload 0, .getfield 846, .ireturn] ls st h := WP.eqn c_993_2 1 rfl rfl rfl
theorem R_1001 {a : Nat} {x0 : Int32} : Run d 1001 [.ref a, .int x0] h Q = WP d 1001 0 [.ref a, .int x0, .retAddr 0] [] h Q := Run.eqn 3 rfl rfl
theorem w_1001_0 : WP d 1001 0 ls st h Q = wpL (kC d) (kJ d 1001 Q) Q 2 [.ldc_w 68, .aload 0, .iload 1, .ldc_w 2, .invokevirtual 130914, .ldc_w 2, .idiv, .ldc_w 2, .imul, .iadd, .istore 2, .aload 0, .iload 1, .ldc_w 4, .invokevirtual 130914, .ldc_w 9, .if_icmp .ge 1, .aload 0, .getfield 2880, .iload 2, .ldc_w 1, .iadd, .iaload, .aload 0, .getfield 2880, .iload 2, .iaload, .if_icmp .ge 1, .ldc_w 1, .goto 2] ls st h := WP.eqn c_1001_0 2 rfl rfl rfl
theorem w_1001_1 : WP d 1001 1 ls st h Q = wpL (kC d) (kJ d 1001 Q) Q 2 [.ldc_w 0, .jsr 2] ls st h := WP.eqn c_1001_1 2 rfl rfl rfl
theorem w_1001_2 : WP d 1001 2 ls st h Q = wpL (kC d) (kJ d 1001 Q) Q 2 [.ireturn] ls st h := WP.eqn c_1001_2 2 rfl rfl rfl
theorem R_1009 {a : Nat} {x0 : Int32} : Run d 1009 [.ref a, .int x0] h Q = WP d 1009 0 [.ref a, .int x0, .retAddr 0, .retAddr 0, .retAddr 0] [] h Q := Run.eqn 5 rfl rfl
theorem w_1009_0 : WP d 1009 0 ls st h Q = wpL (kC d) (kJ d 1009 Q) Q 0 [.aload 0, .ldc_w 0, .putfield 846, .aload 0, .ldc_w 0, .putfield 847, .aload 0, .iload 1, .invokevirtual 131001, .ifCond .ne 1, .return_] ls st h := WP.eqn c_1009_0 0 rfl rfl rfl
theorem w_1009_1 : WP d 1009 1 ls st h Q = wpL (kC d) (kJ d 1009 Q) Q 0 [.aload 0, .iload 1, .ldc_w 2, .invokevirtual 130914, .istore 2, .ldc_w 0, .istore 3, .jsr 2] ls st h := WP.eqn c_1009_1 0 rfl rfl rfl
theorem w_1009_2 : WP d 1009 2 ls st h Q = wpL (kC d) (kJ d 1009 Q) Q 0 [.iload 3, .ldc_w 5, .if_icmp .ge 6, .aload 0, .getfield 2884, .iload 3, .iaload, .aload 0, .iload 1, .ldc_w 3, .invokevirtual 130914, .if_icmp .lt 3, .aload 0, .iload 1, .iload 3, .invokevirtual 130970, .goto 4] ls st h := WP.eqn c_1009_2 0 rfl rfl rfl
theorem w_1009_3 : WP d 1009 3 ls st h Q = wpL (kC d) (kJ d 1009 Q) Q 0 [.ldc_w 0, .jsr 4] ls st h := WP.eqn c_1009_3 0 rfl rfl rfl
theorem w_1009_4 : WP d 1009 4 ls st h Q = wpL (kC d) (kJ d 1009 Q) Q 0 [.istore 4, .aload 0, .iload 2, .iload 3, .aload 0, .iload 2, .iload 3, .invokevirtual 130834, .iload 4, .isub, .invokevirtual 131019, .aload 0, .iload 1, .ldc_w 5, .iload 3, .iadd, .aload 0, .iload 1, .ldc_w 5, .iload 3, .iadd, .invokevirtual 130914, .iload 4, .iadd, .invokevirtual 130891, .aload 0, .dup, .getfield 846, .iload 4, .iadd, .putfield 846, .aload 0, .dup, .getfield 847, .iload 4, .aload 0, .getfield 2880, .ldc_w 7, .iload 3, .iadd, .iaload, .imul, .iadd, .putfield 847, .iload 3, .ldc_w 4, .if_icmp .ne 5, .iload 4, .ifCond .le 5, .aload 0, .iload 1, .ldc_w 4, .aload 0, .iload 1, .ldc_w 4, .invokevirtual 130914, .aload 0, .iload 1, .invokevirtual 130985, .iadd, .ldc_w 0, .ldc_w 9, .invokestatic 1027, .invokevirtual 130891, .jsr 5] ls st h := WP.eqn c_1009_4 0 rfl rfl rfl
theorem w_1009_5 : WP d 1009 5 ls st h Q = wpL (kC d) (kJ d 1009 Q) Q 0 [.iinc 3 1, .goto 2] ls st h := WP.eqn c_1009_5 0 rfl rfl rfl
theorem w_1009_6 : WP d 1009 6 ls st h Q = wpL (kC d) (kJ d 1009 Q) Q 0 [.aload 0, .iload 2, .ldc_w 6, .aload 0, .iload 2, .ldc_w 6, .invokevirtual 130834, .aload 0, .getfield 846, .iadd, .invokevirtual 131019, .aload 0, .getfield 2880, .ldc_w 68, .iload 2, .ldc_w 2, .idiv, .ldc_w 2, .imul, .iadd, .ldc_w 1, .iadd, .dup2, .iaload, .aload 0, .getfield 846, .iadd, .iastore, .return_] ls st h := WP.eqn c_1009_6 0 rfl rfl rfl
theorem R_1019 {a : Nat} {x0 : Int32} {x1 : Int32} {x2 : Int32} : Run d 1019 [.ref a, .int x0, .int x1, .int x2] h Q = WP d 1019 0 [.ref a, .int x0, .int x1, .int x2] [] h Q := Run.eqn 4 rfl rfl
theorem w_1019_0 : WP d 1019 0 ls st h Q = wpL (kC d) (kJ d 1019 Q) Q 0 [.aload 0, .getfield 2880, .ldc_w 12, .ldc_w 7, .iload 1, .imul, .iadd, .iload 2, .iadd, .iload 3, .iastore, .return_] ls st h := WP.eqn c_1019_0 0 rfl rfl rfl
theorem R_1027 {x0 : Int32} {x1 : Int32} {x2 : Int32} : Run d 1027 [.int x0, .int x1, .int x2] h Q = WP d 1027 0 [.int x0, .int x1, .int x2] [] h Q := Run.eqn 3 rfl rfl
theorem w_1027_0 : WP d 1027 0 ls st h Q = wpL (kC d) (kJ d 1027 Q) Q 1 [.iload 0, .iload 1, .if_icmp .ge 1, .iload 1, .goto 3] ls st h := WP.eqn c_1027_0 1 rfl rfl rfl
theorem w_1027_1 : WP d 1027 1 ls st h Q = wpL (kC d) (kJ d 1027 Q) Q 1 [.iload 0, .iload 2, .if_icmp .le 2, .iload 2, .goto 3] ls st h := WP.eqn c_1027_1 1 rfl rfl rfl
theorem w_1027_2 : WP d 1027 2 ls st h Q = wpL (kC d) (kJ d 1027 Q) Q 1 [.iload 0, .jsr 3] ls st h := WP.eqn c_1027_2 1 rfl rfl rfl
theorem w_1027_3 : WP d 1027 3 ls st h Q = wpL (kC d) (kJ d 1027 Q) Q 1 [.ireturn] ls st h := WP.eqn c_1027_3 1 rfl rfl rfl
theorem R_1034 {a : Nat} {x0 : Int32} {x1 : Int32} : Run d 1034 [.ref a, .int x0, .int x1] h Q = WP d 1034 0 [.ref a, .int x0, .int x1, .retAddr 0, .retAddr 0] [] h Q := Run.eqn 5 rfl rfl
theorem w_1034_0 : WP d 1034 0 ls st h Q = wpL (kC d) (kJ d 1034 Q) Q 1 [.aload 0, .iload 1, .invokevirtual 130905, .ifCond .eq 1, .iload 2, .invokestatic 801, .ifCond .ne 2, .jsr 1] ls st h := WP.eqn c_1034_0 1 rfl rfl rfl
theorem w_1034_1 : WP d 1034 1 ls st h Q = wpL (kC d) (kJ d 1034 Q) Q 1 [.iconst (-1), .ireturn] ls st h := WP.eqn c_1034_1 1 rfl rfl rfl
theorem w_1034_2 : WP d 1034 2 ls st h Q = wpL (kC d) (kJ d 1034 Q) Q 1 [.aload 0, .iload 1, .ldc_w 2, .invokevirtual 130914, .istore 3, .aload 0, .iload 1, .ldc_w 5, .iload 2, .iadd, .invokevirtual 130914, .istore 4, .aload 0, .iload 3, .iload 2, .aload 0, .iload 3, .iload 2, .invokevirtual 130834, .iload 4, .iadd, .ldc_w 0, .ldc_w 99, .invokestatic 1027, .invokevirtual 131019, .aload 0, .iload 1, .ldc_w 5, .iload 2, .iadd, .ldc_w 0, .invokevirtual 130891, .iload 4, .ireturn] ls st h := WP.eqn c_1034_2 1 rfl rfl rfl
theorem R_1041 {a : Nat} {x0 : Int32} : Run d 1041 [.ref a, .int x0] h Q = WP d 1041 0 [.ref a, .int x0, .retAddr 0, .retAddr 0] [] h Q := Run.eqn 4 rfl rfl
theorem w_1041_0 : WP d 1041 0 ls st h Q = wpL (kC d) (kJ d 1041 Q) Q 1 [.aload 0, .iload 1, .invokevirtual 130905, .ifCond .ne 1, .iconst (-1), .ireturn] ls st h := WP.eqn c_1041_0 1 rfl rfl rfl
theorem w_1041_1 : WP d 1041 1 ls st h Q = wpL (kC d) (kJ d 1041 Q) Q 1 [.aload 0, .iload 1, .invokevirtual 130921, .istore 2, .aload 0, .getfield 2880, .ldc_w 4, .dup2, .iaload, .iload 2, .iadd, .iastore, .ldc_w 0, .istore 3, .jsr 2] ls st h := WP.eqn c_1041_1 1 rfl rfl rfl
theorem w_1041_2 : WP d 1041 2 ls st h Q = wpL (kC d) (kJ d 1041 Q) Q 1 [.iload 3, .ldc_w 5, .if_icmp .ge 3, .aload 0, .iload 1, .ldc_w 5, .iload 3, .iadd, .ldc_w 0, .invokevirtual 130891, .iinc 3 1, .goto 2] ls st h := WP.eqn c_1041_2 1 rfl rfl rfl
theorem w_1041_3 : WP d 1041 3 ls st h Q = wpL (kC d) (kJ d 1041 Q) Q 1 [.iload 2, .ireturn] ls st h := WP.eqn c_1041_3 1 rfl rfl rfl
theorem R_1049 {a : Nat} {x0 : Int32} : Run d 1049 [.ref a, .int x0] h Q = WP d 1049 0 [.ref a, .int x0, .retAddr 0] [] h Q := Run.eqn 3 rfl rfl
theorem w_1049_0 : WP d 1049 0 ls st h Q = wpL (kC d) (kJ d 1049 Q) Q 1 [.iload 1, .ldc_w 1, .ldc_w 48, .invokestatic 611, .ifCond .ne 1, .iconst (-1), .ireturn] ls st h := WP.eqn c_1049_0 1 rfl rfl rfl
theorem w_1049_1 : WP d 1049 1 ls st h Q = wpL (kC d) (kJ d 1049 Q) Q 1 [.ldc_w 0, .istore 2, .jsr 2] ls st h := WP.eqn c_1049_1 1 rfl rfl rfl
theorem w_1049_2 : WP d 1049 2 ls st h Q = wpL (kC d) (kJ d 1049 Q) Q 1 [.iload 2, .iload 1, .if_icmp .ge 3, .aload 0, .invokevirtual 131056, .iinc 2 1, .goto 2] ls st h := WP.eqn c_1049_2 1 rfl rfl rfl
theorem w_1049_3 : WP d 1049 3 ls st h Q = wpL (kC d) (kJ d 1049 Q) Q 1 [.aload 0, .getfield 2880, .ldc_w 3, .iaload, .ireturn] ls st h := WP.eqn c_1049_3 1 rfl rfl rfl
theorem R_1056 {a : Nat} : Run d 1056 [.ref a] h Q = WP d 1056 0 [.ref a, .retAddr 0, .retAddr 0, .retAddr 0] [] h Q := Run.eqn 4 rfl rfl
theorem w_1056_0 : WP d 1056 0 ls st h Q = wpL (kC d) (kJ d 1056 Q) Q 0 [.ldc_w 0, .istore 1, .jsr 1] ls st h := WP.eqn c_1056_0 0 rfl rfl rfl
theorem w_1056_1 : WP d 1056 1 ls st h Q = wpL (kC d) (kJ d 1056 Q) Q 0 [.iload 1, .ldc_w 8, .if_icmp .ge 6, .ldc_w 0, .istore 2, .jsr 2] ls st h := WP.eqn c_1056_1 0 rfl rfl rfl
theorem w_1056_2 : WP d 1056 2 ls st h Q = wpL (kC d) (kJ d 1056 Q) Q 0 [.iload 2, .ldc_w 5, .if_icmp .ge 5, .aload 0, .iload 1, .iload 2, .invokevirtual 130834, .istore 3, .aload 0, .iload 1, .iload 2, .iload 3, .iload 3, .aload 0, .getfield 2880, .ldc_w 1, .iaload, .idiv, .iadd, .aload 0, .getfield 2880, .ldc_w 3, .iaload, .ldc_w 5, .irem, .iload 2, .if_icmp .ne 3, .aload 0, .iload 1, .ldc_w 5, .invokevirtual 130834, .goto 4] ls st h := WP.eqn c_1056_2 0 rfl rfl rfl
theorem w_1056_3 : WP d 1056 3 ls st h Q = wpL (kC d) (kJ d 1056 Q) Q 0 [.ldc_w 0, .jsr 4] ls st h := WP.eqn c_1056_3 0 rfl rfl rfl
theorem w_1056_4 : WP d 1056 4 ls st h Q = wpL (kC d) (kJ d 1056 Q) Q 0 [.iadd, .ldc_w 0, .ldc_w 99, .invokestatic 1027, .invokevirtual 131019, .iinc 2 1, .goto 2] ls st h := WP.eqn c_1056_4 0 rfl rfl rfl
theorem w_1056_5 : WP d 1056 5 ls st h Q = wpL (kC d) (kJ d 1056 Q) Q 0 [.aload 0, .getfield 2896, .iload 1, .aload 0, .iload 1, .ldc_w 0, .invokevirtual 130834, .aload 0, .getfield 2880, .ldc_w 2, .iaload, .idiv, .iastore, .iinc 1 1, .goto 1] ls st h := WP.eqn c_1056_5 0 rfl rfl rfl
theorem w_1056_6 : WP d 1056 6 ls st h Q = wpL (kC d) (kJ d 1056 Q) Q 0 [.ldc_w 0, .istore 1, .jsr 7] ls st h := WP.eqn c_1056_6 0 rfl rfl rfl
theorem w_1056_7 : WP d 1056 7 ls st h Q = wpL (kC d) (kJ d 1056 Q) Q 0 [.iload 1, .ldc_w 8, .if_icmp .ge 8, .aload 0, .iload 1, .ldc_w 0, .aload 0, .iload 1, .ldc_w 0, .invokevirtual 130834, .aload 0, .getfield 2896, .iload 1, .iaload, .isub, .aload 0, .getfield 2896, .iload 1, .ldc_w 8, .iadd, .ldc_w 1, .isub, .ldc_w 8, .irem, .iaload, .iadd, .ldc_w 0, .ldc_w 99, .invokestatic 1027, .invokevirtual 131019, .iinc 1 1, .goto 7] ls st h := WP.eqn c_1056_7 0 rfl rfl rfl
theorem w_1056_8 : WP d 1056 8 ls st h Q = wpL (kC d) (kJ d 1056 Q) Q 0 [.aload 0, .getfield 2880, .ldc_w 3, .dup2, .iaload, .ldc_w 1, .iadd, .iastore, .return_] ls st h := WP.eqn c_1056_8 0 rfl rfl rfl
theorem R_1065 {a : Nat} {x0 : Int32} : Run d 1065 [.ref a, .int x0] h Q = WP d 1065 0 [.ref a, .int x0] [] h Q := Run.eqn 2 rfl rfl
theorem w_1065_0 : WP d 1065 0 ls st h Q = wpL (kC d) (kJ d 1065 Q) Q 1 [.aload 0, .iload 1, .invokevirtual 130905, .ifCond .eq 1, .aload 0, .iload 1, .invokevirtual 131073, .goto 2] ls st h := WP.eqn c_1065_0 1 rfl rfl rfl
theorem w_1065_1 : WP d 1065 1 ls st h Q = wpL (kC d) (kJ d 1065 Q) Q 1 [.iconst (-1), .jsr 2] ls st h := WP.eqn c_1065_1 1 rfl rfl rfl
theorem w_1065_2 : WP d 1065 2 ls st h Q = wpL (kC d) (kJ d 1065 Q) Q 1 [.ireturn] ls st h := WP.eqn c_1065_2 1 rfl rfl rfl
theorem R_1073 {a : Nat} {x0 : Int32} : Run d 1073 [.ref a, .int x0] h Q = WP d 1073 0 [.ref a, .int x0, .retAddr 0] [] h Q := Run.eqn 3 rfl rfl
theorem w_1073_0 : WP d 1073 0 ls st h Q = wpL (kC d) (kJ d 1073 Q) Q 1 [.aload 0, .invokevirtual 131080, .ldc_w 100, .irem, .aload 0, .getfield 2880, .ldc_w 0, .iaload, .if_icmp .ge 1, .ldc_w 1, .goto 2] ls st h := WP.eqn c_1073_0 1 rfl rfl rfl
theorem w_1073_1 : WP d 1073 1 ls st h Q = wpL (kC d) (kJ d 1073 Q) Q 1 [.ldc_w 0, .jsr 2] ls st h := WP.eqn c_1073_1 1 rfl rfl rfl
theorem w_1073_2 : WP d 1073 2 ls st h Q = wpL (kC d) (kJ d 1073 Q) Q 1 [.istore 2, .aload 0, .ldc_w 0, .putfield 846, .iload 2, .ifCond .ne 3, .aload 0, .iload 1, .invokevirtual 131009, .jsr 3] ls st h := WP.eqn c_1073_2 1 rfl rfl rfl
theorem w_1073_3 : WP d 1073 3 ls st h Q = wpL (kC d) (kJ d 1073 Q) Q 1 [.aload 0, .getfield 846, .ireturn] ls st h := WP.eqn c_1073_3 1 rfl rfl rfl
theorem R_1080 {a : Nat} : Run d 1080 [.ref a] h Q = WP d 1080 0 [.ref a] [] h Q := Run.eqn 1 rfl rfl
theorem w_1080_0 : WP d 1080 0 ls st h Q = wpL (kC d) (kJ d 1080 Q) Q 1 [.aload 0, .getfield 2880, .ldc_w 6, .aload 0, .getfield 2880, .ldc_w 6, .iaload, .ldc_w 1103515245, .imul, .ldc_w 12345, .iadd, .iastore, .aload 0, .getfield 2880, .ldc_w 6, .iaload, .ldc_w 16, .iushr, .ireturn] ls st h := WP.eqn c_1080_0 1 rfl rfl rfl
theorem R_1089 {a : Nat} {x0 : Int32} : Run d 1089 [.ref a, .int x0] h Q = WP d 1089 0 [.ref a, .int x0] [] h Q := Run.eqn 2 rfl rfl
theorem w_1089_0 : WP d 1089 0 ls st h Q = wpL (kC d) (kJ d 1089 Q) Q 1 [.aload 0, .ldc_w 6, .iload 1, .invokevirtual 130778, .ireturn] ls st h := WP.eqn c_1089_0 1 rfl rfl rfl
theorem R_1096 {a : Nat} : Run d 1096 [.ref a] h Q = WP d 1096 0 [.ref a] [] h Q := Run.eqn 1 rfl rfl
theorem w_1096_0 : WP d 1096 0 ls st h Q = wpL (kC d) (kJ d 1096 Q) Q 1 [.aload 0, .invokevirtual 131104, .ireturn] ls st h := WP.eqn c_1096_0 1 rfl rfl rfl
theorem R_1104 {a : Nat} : Run d 1104 [.ref a] h Q = WP d 1104 0 [.ref a, .retAddr 0, .retAddr 0] [] h Q := Run.eqn 3 rfl rfl
theorem w_1104_0 : WP d 1104 0 ls st h Q = wpL (kC d) (kJ d 1104 Q) Q 1 [.ldc_w 0, .istore 1, .ldc_w 0, .istore 2, .jsr 1] ls st h := WP.eqn c_1104_0 1 rfl rfl rfl
theorem w_1104_1 : WP d 1104 1 ls st h Q = wpL (kC d) (kJ d 1104 Q) Q 1 [.iload 2, .aload 0, .getfield 2880, .ldc_w 5, .iaload, .if_icmp .ge 2, .aload 0, .iload 2, .ldc_w 2, .aload 0, .invokevirtual 131080, .ldc_w 8, .irem, .invokevirtual 130891, .iload 1, .aload 0, .iload 2, .invokevirtual 131073, .iadd, .istore 1, .iinc 2 1, .goto 1] ls st h := WP.eqn c_1104_1 1 rfl rfl rfl
theorem w_1104_2 : WP d 1104 2 ls st h Q = wpL (kC d) (kJ d 1104 Q) Q 1 [.aload 0, .invokevirtual 131056, .iload 1, .ireturn] ls st h := WP.eqn c_1104_2 1 rfl rfl rfl
theorem R_1114 {a : Nat} {x0 : Int32} {x1 : Int32} : Run d 1114 [.ref a, .int x0, .int x1] h Q = WP d 1114 0 [.ref a, .int x0, .int x1, .retAddr 0, .retAddr 0, .retAddr 0] [] h Q := Run.eqn 6 rfl rfl
theorem w_1114_0 : WP d 1114 0 ls st h Q = wpL (kC d) (kJ d 1114 Q) Q 1 [.iload 1, .ldc_w 1, .ldc_w 30, .invokestatic 611, .ifCond .eq 1, .iload 2, .ldc_w 0, .ldc_w 999, .invokestatic 611, .ifCond .ne 2, .jsr 1] ls st h := WP.eqn c_1114_0 1 rfl rfl rfl
theorem w_1114_1 : WP d 1114 1 ls st h Q = wpL (kC d) (kJ d 1114 Q) Q 1 [.iconst (-1), .ireturn] ls st h := WP.eqn c_1114_1 1 rfl rfl rfl
theorem w_1114_2 : WP d 1114 2 ls st h Q = wpL (kC d) (kJ d 1114 Q) Q 1 [.aload 0, .getfield 2880, .aload 0, .getfield 2883, .invokestatic 762, .ldc_w 0, .istore 3, .ldc_w 0, .istore 4, .jsr 3] ls st h := WP.eqn c_1114_2 1 rfl rfl rfl
theorem w_1114_3 : WP d 1114 3 ls st h Q = wpL (kC d) (kJ d 1114 Q) Q 1 [.iload 4, .iload 1, .if_icmp .ge 6, .aload 0, .getfield 2880, .ldc_w 6, .iaload, .istore 5, .aload 0, .getfield 2883, .aload 0, .getfield 2880, .invokestatic 762, .aload 0, .getfield 2880, .ldc_w 6, .iload 5, .iastore, .iload 3, .aload 0, .invokevirtual 131104, .iload 2, .if_icmp .lt 4, .ldc_w 1, .goto 5] ls st h := WP.eqn c_1114_3 1 rfl rfl rfl
theorem w_1114_4 : WP d 1114 4 ls st h Q = wpL (kC d) (kJ d 1114 Q) Q 1 [.ldc_w 0, .jsr 5] ls st h := WP.eqn c_1114_4 1 rfl rfl rfl
theorem w_1114_5 : WP d 1114 5 ls st h Q = wpL (kC d) (kJ d 1114 Q) Q 1 [.iadd, .istore 3, .iinc 4 1, .goto 3] ls st h := WP.eqn c_1114_5 1 rfl rfl rfl
theorem w_1114_6 : WP d 1114 6 ls st h Q = wpL (kC d) (kJ d 1114 Q) Q 1 [.aload 0, .getfield 2883, .aload 0, .getfield 2880, .invokestatic 762, .iload 3, .ireturn] ls st h := WP.eqn c_1114_6 1 rfl rfl rfl
theorem R_1121 {a : Nat} {x0 : Int32} : Run d 1121 [.ref a, .int x0] h Q = WP d 1121 0 [.ref a, .int x0] [] h Q := Run.eqn 2 rfl rfl
theorem w_1121_0 : WP d 1121 0 ls st h Q = wpL (kC d) (kJ d 1121 Q) Q 1 [.iload 1, .tableswitch 6 0 5 #[1, 2, 3, 3, 4, 5]] ls st h := WP.eqn c_1121_0 1 rfl rfl rfl
theorem w_1121_1 : WP d 1121 1 ls st h Q = wpL (kC d) (kJ d 1121 Q) Q 1 [.aload 0, .getfield 2880, .ldc_w 3, .iaload, .ireturn] ls st h := WP.eqn c_1121_1 1 rfl rfl rfl
theorem w_1121_2 : WP d 1121 2 ls st h Q = wpL (kC d) (kJ d 1121 Q) Q 1 [.aload 0, .getfield 2880, .ldc_w 4, .iaload, .ireturn] ls st h := WP.eqn c_1121_2 1 rfl rfl rfl
theorem w_1121_3 : WP d 1121 3 ls st h Q = wpL (kC d) (kJ d 1121 Q) Q 1 [.aload 0, .iload 1, .invokevirtual 131129, .ireturn] ls st h := WP.eqn c_1121_3 1 rfl rfl rfl
theorem w_1121_4 : WP d 1121 4 ls st h Q = wpL (kC d) (kJ d 1121 Q) Q 1 [.aload 0, .invokevirtual 131136, .ireturn] ls st h := WP.eqn c_1121_4 1 rfl rfl rfl
theorem w_1121_5 : WP d 1121 5 ls st h Q = wpL (kC d) (kJ d 1121 Q) Q 1 [.aload 0, .invokevirtual 131144, .ireturn] ls st h := WP.eqn c_1121_5 1 rfl rfl rfl
theorem w_1121_6 : WP d 1121 6 ls st h Q = wpL (kC d) (kJ d 1121 Q) Q 1 [.iconst (-1), .ireturn] ls st h := WP.eqn c_1121_6 1 rfl rfl rfl
theorem R_1129 {a : Nat} {x0 : Int32} : Run d 1129 [.ref a, .int x0] h Q = WP d 1129 0 [.ref a, .int x0, .retAddr 0, .retAddr 0, .retAddr 0] [] h Q := Run.eqn 5 rfl rfl
theorem w_1129_0 : WP d 1129 0 ls st h Q = wpL (kC d) (kJ d 1129 Q) Q 1 [.ldc_w 0, .istore 2, .ldc_w 0, .istore 3, .jsr 1] ls st h := WP.eqn c_1129_0 1 rfl rfl rfl
theorem w_1129_1 : WP d 1129 1 ls st h Q = wpL (kC d) (kJ d 1129 Q) Q 1 [.iload 3, .ldc_w 8, .if_icmp .ge 2, .iload 1, .ldc_w 2, .if_icmp .ne 2, .iload 2, .aload 0, .iload 3, .invokevirtual 130857, .iadd, .istore 2, .iinc 3 1, .goto 1] ls st h := WP.eqn c_1129_1 1 rfl rfl rfl
theorem w_1129_2 : WP d 1129 2 ls st h Q = wpL (kC d) (kJ d 1129 Q) Q 1 [.ldc_w 0, .istore 3, .jsr 3] ls st h := WP.eqn c_1129_2 1 rfl rfl rfl
theorem w_1129_3 : WP d 1129 3 ls st h Q = wpL (kC d) (kJ d 1129 Q) Q 1 [.iload 3, .aload 0, .getfield 2880, .ldc_w 5, .iaload, .if_icmp .ge 6, .iload 1, .ldc_w 3, .if_icmp .ne 6, .ldc_w 0, .istore 4, .jsr 4] ls st h := WP.eqn c_1129_3 1 rfl rfl rfl
theorem w_1129_4 : WP d 1129 4 ls st h Q = wpL (kC d) (kJ d 1129 Q) Q 1 [.iload 4, .ldc_w 5, .if_icmp .ge 5, .iload 2, .aload 0, .iload 3, .ldc_w 5, .iload 4, .iadd, .invokevirtual 130914, .iadd, .istore 2, .iinc 4 1, .goto 4] ls st h := WP.eqn c_1129_4 1 rfl rfl rfl
theorem w_1129_5 : WP d 1129 5 ls st h Q = wpL (kC d) (kJ d 1129 Q) Q 1 [.iinc 3 1, .goto 3] ls st h := WP.eqn c_1129_5 1 rfl rfl rfl
theorem w_1129_6 : WP d 1129 6 ls st h Q = wpL (kC d) (kJ d 1129 Q) Q 1 [.iload 2, .ireturn] ls st h := WP.eqn c_1129_6 1 rfl rfl rfl
theorem R_1136 {a : Nat} : Run d 1136 [.ref a] h Q = WP d 1136 0 [.ref a, .retAddr 0, .retAddr 0] [] h Q := Run.eqn 3 rfl rfl
theorem w_1136_0 : WP d 1136 0 ls st h Q = wpL (kC d) (kJ d 1136 Q) Q 1 [.ldc_w 0, .istore 1, .ldc_w 0, .istore 2, .jsr 1] ls st h := WP.eqn c_1136_0 1 rfl rfl rfl
theorem w_1136_1 : WP d 1136 1 ls st h Q = wpL (kC d) (kJ d 1136 Q) Q 1 [.iload 2, .ldc_w 8, .if_icmp .ge 4, .iload 1, .aload 0, .iload 2, .invokevirtual 130857, .ifCond .ne 2, .ldc_w 1, .iload 2, .ishl, .goto 3] ls st h := WP.eqn c_1136_1 1 rfl rfl rfl
theorem w_1136_2 : WP d 1136 2 ls st h Q = wpL (kC d) (kJ d 1136 Q) Q 1 [.ldc_w 0, .jsr 3] ls st h := WP.eqn c_1136_2 1 rfl rfl rfl
theorem w_1136_3 : WP d 1136 3 ls st h Q = wpL (kC d) (kJ d 1136 Q) Q 1 [.ior, .istore 1, .iinc 2 1, .goto 1] ls st h := WP.eqn c_1136_3 1 rfl rfl rfl
theorem w_1136_4 : WP d 1136 4 ls st h Q = wpL (kC d) (kJ d 1136 Q) Q 1 [.iload 1, .ireturn] ls st h := WP.eqn c_1136_4 1 rfl rfl rfl
theorem R_1144 {a : Nat} : Run d 1144 [.ref a] h Q = WP d 1144 0 [.ref a, .retAddr 0, .retAddr 0] [] h Q := Run.eqn 3 rfl rfl
theorem w_1144_0 : WP d 1144 0 ls st h Q = wpL (kC d) (kJ d 1144 Q) Q 1 [.ldc_w 0, .istore 1, .ldc_w 0, .istore 2, .jsr 1] ls st h := WP.eqn c_1144_0 1 rfl rfl rfl
theorem w_1144_1 : WP d 1144 1 ls st h Q = wpL (kC d) (kJ d 1144 Q) Q 1 [.iload 2, .aload 0, .getfield 2880, .ldc_w 5, .iaload, .if_icmp .ge 4, .iload 1, .aload 0, .iload 2, .invokevirtual 131001, .ifCond .eq 2, .ldc_w 1, .iload 2, .ishl, .goto 3] ls st h := WP.eqn c_1144_1 1 rfl rfl rfl
theorem w_1144_2 : WP d 1144 2 ls st h Q = wpL (kC d) (kJ d 1144 Q) Q 1 [.ldc_w 0, .jsr 3] ls st h := WP.eqn c_1144_2 1 rfl rfl rfl
theorem w_1144_3 : WP d 1144 3 ls st h Q = wpL (kC d) (kJ d 1144 Q) Q 1 [.ior, .istore 1, .iinc 2 1, .goto 1] ls st h := WP.eqn c_1144_3 1 rfl rfl rfl
theorem w_1144_4 : WP d 1144 4 ls st h Q = wpL (kC d) (kJ d 1144 Q) Q 1 [.iload 1, .ireturn] ls st h := WP.eqn c_1144_4 1 rfl rfl rfl
theorem R_1154 {a : Nat} {x0 : Int32} {x1 : Int32} : Run d 1154 [.ref a, .int x0, .int x1] h Q = WP d 1154 0 [.ref a, .int x0, .int x1] [] h Q := Run.eqn 3 rfl rfl
theorem w_1154_0 : WP d 1154 0 ls st h Q = wpL (kC d) (kJ d 1154 Q) Q 1 [.aload 0, .iload 1, .invokevirtual 130905, .ifCond .eq 1, .iload 2, .ldc_w 0, .ldc_w 4, .invokestatic 611, .ifCond .ne 2, .jsr 1] ls st h := WP.eqn c_1154_0 1 rfl rfl rfl
theorem w_1154_1 : WP d 1154 1 ls st h Q = wpL (kC d) (kJ d 1154 Q) Q 1 [.iconst (-1), .ireturn] ls st h := WP.eqn c_1154_1 1 rfl rfl rfl
theorem w_1154_2 : WP d 1154 2 ls st h Q = wpL (kC d) (kJ d 1154 Q) Q 1 [.aload 0, .iload 1, .iload 2, .invokevirtual 131162, .aload 0, .getfield 851, .ireturn] ls st h := WP.eqn c_1154_2 1 rfl rfl rfl
theorem R_1162 {a : Nat} {x0 : Int32} {x1 : Int32} : Run d 1162 [.ref a, .int x0, .int x1] h Q = WP d 1162 0 [.ref a, .int x0, .int x1, .retAddr 0, .retAddr 0, .retAddr 0] [] h Q := Run.eqn 6 rfl rfl
theorem w_1162_0 : WP d 1162 0 ls st h Q = wpL (kC d) (kJ d 1162 Q) Q 0 [.aload 0, .getfield 2880, .aload 0, .getfield 2883, .invokestatic 762, .aload 0, .iconst (-1), .putfield 851, .ldc_w 0, .istore 3, .jsr 1] ls st h := WP.eqn c_1162_0 0 rfl rfl rfl
theorem w_1162_1 : WP d 1162 1 ls st h Q = wpL (kC d) (kJ d 1162 Q) Q 0 [.iload 3, .iload 2, .invokestatic 1169, .if_icmp .ge 6, .ldc_w 0, .istore 4, .ldc_w 0, .istore 5, .jsr 2] ls st h := WP.eqn c_1162_1 0 rfl rfl rfl
theorem w_1162_2 : WP d 1162 2 ls st h Q = wpL (kC d) (kJ d 1162 Q) Q 0 [.iload 5, .iload 2, .if_icmp .ge 3, .aload 0, .iload 1, .ldc_w 2, .aload 0, .iload 1, .ldc_w 2, .invokevirtual 130914, .iload 3, .iload 2, .ldc_w 1, .isub, .iload 5, .isub, .invokestatic 1169, .idiv, .ldc_w 3, .irem, .invokestatic 1178, .invokevirtual 130891, .aload 0, .getfield 2898, .iload 5, .aload 0, .iload 1, .ldc_w 2, .invokevirtual 130914, .iastore, .aload 0, .iload 1, .invokevirtual 131009, .iload 4, .aload 0, .getfield 847, .iadd, .istore 4, .aload 0, .invokevirtual 131056, .iinc 5 1, .goto 2] ls st h := WP.eqn c_1162_2 0 rfl rfl rfl
theorem w_1162_3 : WP d 1162 3 ls st h Q = wpL (kC d) (kJ d 1162 Q) Q 0 [.aload 0, .getfield 2883, .aload 0, .getfield 2880, .invokestatic 762, .iload 4, .aload 0, .getfield 851, .if_icmp .le 5, .aload 0, .iload 4, .putfield 851, .ldc_w 0, .istore 5, .jsr 4] ls st h := WP.eqn c_1162_3 0 rfl rfl rfl
theorem w_1162_4 : WP d 1162 4 ls st h Q = wpL (kC d) (kJ d 1162 Q) Q 0 [.iload 5, .iload 2, .if_icmp .ge 5, .aload 0, .getfield 2897, .iload 5, .aload 0, .getfield 2898, .iload 5, .iaload, .iastore, .iinc 5 1, .goto 4] ls st h := WP.eqn c_1162_4 0 rfl rfl rfl
theorem w_1162_5 : WP d 1162 5 ls st h Q = wpL (kC d) (kJ d 1162 Q) Q 0 [.iinc 3 1, .goto 1] ls st h := WP.eqn c_1162_5 0 rfl rfl rfl
theorem w_1162_6 : WP d 1162 6 ls st h Q = wpL (kC d) (kJ d 1162 Q) Q 0 [.return_] ls st h := WP.eqn c_1162_6 0 rfl rfl rfl
theorem R_1169 {x0 : Int32} : Run d 1169 [.int x0] h Q = WP d 1169 0 [.int x0, .retAddr 0, .retAddr 0] [] h Q := Run.eqn 3 rfl rfl
theorem w_1169_0 : WP d 1169 0 ls st h Q = wpL (kC d) (kJ d 1169 Q) Q 1 [.ldc_w 1, .istore 1, .ldc_w 0, .istore 2, .jsr 1] ls st h := WP.eqn c_1169_0 1 rfl rfl rfl
theorem w_1169_1 : WP d 1169 1 ls st h Q = wpL (kC d) (kJ d 1169 Q) Q 1 [.iload 2, .iload 0, .if_icmp .ge 2, .iload 1, .ldc_w 3, .imul, .istore 1, .iinc 2 1, .goto 1] ls st h := WP.eqn c_1169_1 1 rfl rfl rfl
theorem w_1169_2 : WP d 1169 2 ls st h Q = wpL (kC d) (kJ d 1169 Q) Q 1 [.iload 1, .ireturn] ls st h := WP.eqn c_1169_2 1 rfl rfl rfl
theorem R_1178 {x0 : Int32} {x1 : Int32} : Run d 1178 [.int x0, .int x1] h Q = WP d 1178 0 [.int x0, .int x1] [] h Q := Run.eqn 2 rfl rfl
theorem w_1178_0 : WP d 1178 0 ls st h Q = wpL (kC d) (kJ d 1178 Q) Q 1 [.iload 0, .ifCond .ne 3, .iload 1, .ldc_w 2, .if_icmp .ge 1, .iload 1, .goto 2] ls st h := WP.eqn c_1178_0 1 rfl rfl rfl
theorem w_1178_1 : WP d 1178 1 ls st h Q = wpL (kC d) (kJ d 1178 Q) Q 1 [.ldc_w 7, .jsr 2] ls st h := WP.eqn c_1178_1 1 rfl rfl rfl
theorem w_1178_2 : WP d 1178 2 ls st h Q = wpL (kC d) (kJ d 1178 Q) Q 1 [.ireturn] ls st h := WP.eqn c_1178_2 1 rfl rfl rfl
theorem w_1178_3 : WP d 1178 3 ls st h Q = wpL (kC d) (kJ d 1178 Q) Q 1 [.iload 0, .ldc_w 7, .if_icmp .ne 6, .iload 1, .ifCond .ne 4, .ldc_w 0, .goto 5] ls st h := WP.eqn c_1178_3 1 rfl rfl rfl
theorem w_1178_4 : WP d 1178 4 ls st h Q = wpL (kC d) (kJ d 1178 Q) Q 1 [.ldc_w 5, .iload 1, .iadd, .jsr 5] ls st h := WP.eqn c_1178_4 1 rfl rfl rfl
theorem w_1178_5 : WP d 1178 5 ls st h Q = wpL (kC d) (kJ d 1178 Q) Q 1 [.ireturn] ls st h := WP.eqn c_1178_5 1 rfl rfl rfl
theorem w_1178_6 : WP d 1178 6 ls st h Q = wpL (kC d) (kJ d 1178 Q) Q 1 [.iload 0, .ldc_w 1, .isub, .iload 1, .iadd, .ireturn] ls st h := WP.eqn c_1178_6 1 rfl rfl rfl
theorem R_1187 {a : Nat} {x0 : Int32} {x1 : Int32} {x2 : Int32} : Run d 1187 [.ref a, .int x0, .int x1, .int x2] h Q = WP d 1187 0 [.ref a, .int x0, .int x1, .int x2] [] h Q := Run.eqn 4 rfl rfl
theorem w_1187_0 : WP d 1187 0 ls st h Q = wpL (kC d) (kJ d 1187 Q) Q 1 [.aload 0, .iload 1, .invokevirtual 130905, .ifCond .eq 1, .iload 2, .ldc_w 0, .ldc_w 4, .invokestatic 611, .ifCond .eq 1, .iload 3, .ldc_w 0, .ldc_w 3, .invokestatic 611, .ifCond .ne 2, .jsr 1] ls st h := WP.eqn c_1187_0 1 rfl rfl rfl
theorem w_1187_1 : WP d 1187 1 ls st h Q = wpL (kC d) (kJ d 1187 Q) Q 1 [.iconst (-1), .ireturn] ls st h := WP.eqn c_1187_1 1 rfl rfl rfl
theorem w_1187_2 : WP d 1187 2 ls st h Q = wpL (kC d) (kJ d 1187 Q) Q 1 [.aload 0, .iload 1, .iload 2, .invokevirtual 131162, .iload 3, .iload 2, .if_icmp .ge 3, .aload 0, .getfield 2897, .iload 3, .iaload, .goto 4] ls st h := WP.eqn c_1187_2 1 rfl rfl rfl
theorem w_1187_3 : WP d 1187 3 ls st h Q = wpL (kC d) (kJ d 1187 Q) Q 1 [.iconst (-3), .jsr 4] ls st h := WP.eqn c_1187_3 1 rfl rfl rfl
theorem w_1187_4 : WP d 1187 4 ls st h Q = wpL (kC d) (kJ d 1187 Q) Q 1 [.ireturn] ls st h := WP.eqn c_1187_4 1 rfl rfl rfl
theorem R_1195 {a : Nat} {x0 : Int32} {x1 : Int32} {x2 : Int32} : Run d 1195 [.ref a, .int x0, .int x1, .int x2] h Q = WP d 1195 0 [.ref a, .int x0, .int x1, .int x2, .retAddr 0, .retAddr 0, .retAddr 0, .retAddr 0, .retAddr 0] [] h Q := Run.eqn 9 rfl rfl
theorem w_1195_0 : WP d 1195 0 ls st h Q = wpL (kC d) (kJ d 1195 Q) Q 1 [.aload 0, .iload 1, .invokevirtual 130905, .ifCond .eq 1, .iload 2, .ldc_w 1, .ldc_w 9, .invokestatic 611, .ifCond .eq 1, .iload 3, .ldc_w 0, .ldc_w 1, .invokestatic 611, .ifCond .ne 2, .jsr 1] ls st h := WP.eqn c_1195_0 1 rfl rfl rfl
theorem w_1195_1 : WP d 1195 1 ls st h Q = wpL (kC d) (kJ d 1195 Q) Q 1 [.iconst (-1), .ireturn] ls st h := WP.eqn c_1195_1 1 rfl rfl rfl
theorem w_1195_2 : WP d 1195 2 ls st h Q = wpL (kC d) (kJ d 1195 Q) Q 1 [.aload 0, .getfield 2880, .aload 0, .getfield 2883, .invokestatic 762, .ldc_w 0, .istore 4, .iconst (-1), .istore 5, .ldc_w 0, .istore 6, .jsr 3] ls st h := WP.eqn c_1195_2 1 rfl rfl rfl
theorem w_1195_3 : WP d 1195 3 ls st h Q = wpL (kC d) (kJ d 1195 Q) Q 1 [.iload 6, .ldc_w 9, .if_icmp .gt 10, .ldc_w 0, .istore 7, .aload 0, .iload 1, .ldc_w 3, .iload 6, .invokevirtual 130891, .ldc_w 0, .istore 8, .jsr 4] ls st h := WP.eqn c_1195_3 1 rfl rfl rfl
theorem w_1195_4 : WP d 1195 4 ls st h Q = wpL (kC d) (kJ d 1195 Q) Q 1 [.iload 8, .iload 2, .if_icmp .ge 5, .aload 0, .iload 1, .invokevirtual 131009, .iload 7, .aload 0, .getfield 847, .iadd, .istore 7, .aload 0, .invokevirtual 131056, .iinc 8 1, .goto 4] ls st h := WP.eqn c_1195_4 1 rfl rfl rfl
theorem w_1195_5 : WP d 1195 5 ls st h Q = wpL (kC d) (kJ d 1195 Q) Q 1 [.aload 0, .getfield 2883, .aload 0, .getfield 2880, .invokestatic 762, .iload 7, .iload 5, .if_icmp .lt 6, .iload 6, .goto 7] ls st h := WP.eqn c_1195_5 1 rfl rfl rfl
theorem w_1195_6 : WP d 1195 6 ls st h Q = wpL (kC d) (kJ d 1195 Q) Q 1 [.iload 4, .jsr 7] ls st h := WP.eqn c_1195_6 1 rfl rfl rfl
theorem w_1195_7 : WP d 1195 7 ls st h Q = wpL (kC d) (kJ d 1195 Q) Q 1 [.istore 4, .iload 7, .iload 5, .if_icmp .lt 8, .iload 7, .goto 9] ls st h := WP.eqn c_1195_7 1 rfl rfl rfl
theorem w_1195_8 : WP d 1195 8 ls st h Q = wpL (kC d) (kJ d 1195 Q) Q 1 [.iload 5, .jsr 9] ls st h := WP.eqn c_1195_8 1 rfl rfl rfl
theorem w_1195_9 : WP d 1195 9 ls st h Q = wpL (kC d) (kJ d 1195 Q) Q 1 [.istore 5, .iinc 6 1, .goto 3] ls st h := WP.eqn c_1195_9 1 rfl rfl rfl
theorem w_1195_10 : WP d 1195 10 ls st h Q = wpL (kC d) (kJ d 1195 Q) Q 1 [.iload 3, .ifCond .ne 11, .iload 4, .goto 12] ls st h := WP.eqn c_1195_10 1 rfl rfl rfl
theorem w_1195_11 : WP d 1195 11 ls st h Q = wpL (kC d) (kJ d 1195 Q) Q 1 [.iload 5, .jsr 12] ls st h := WP.eqn c_1195_11 1 rfl rfl rfl
theorem w_1195_12 : WP d 1195 12 ls st h Q = wpL (kC d) (kJ d 1195 Q) Q 1 [.ireturn] ls st h := WP.eqn c_1195_12 1 rfl rfl rfl
theorem R_1200 {a : Nat} : Run d 1200 [.ref a] h Q = WP d 1200 0 [.ref a, .retAddr 0, .retAddr 0] [] h Q := Run.eqn 3 rfl rfl
theorem w_1200_0 : WP d 1200 0 ls st h Q = wpL (kC d) (kJ d 1200 Q) Q 1 [.aload 0, .getfield 2880, .aload 0, .getfield 2883, .invokestatic 762, .ldc_w 0, .istore 1, .jsr 1] ls st h := WP.eqn c_1200_0 1 rfl rfl rfl
theorem w_1200_1 : WP d 1200 1 ls st h Q = wpL (kC d) (kJ d 1200 Q) Q 1 [.iload 1, .ldc_w 48, .if_icmp .gt 4, .aload 0, .invokevirtual 131136, .ifCond .ne 4, .ldc_w 0, .istore 2, .jsr 2] ls st h := WP.eqn c_1200_1 1 rfl rfl rfl
theorem w_1200_2 : WP d 1200 2 ls st h Q = wpL (kC d) (kJ d 1200 Q) Q 1 [.iload 2, .aload 0, .getfield 2880, .ldc_w 5, .iaload, .if_icmp .ge 3, .aload 0, .iload 2, .invokevirtual 131009, .iinc 2 1, .goto 2] ls st h := WP.eqn c_1200_2 1 rfl rfl rfl
theorem w_1200_3 : WP d 1200 3 ls st h Q = wpL (kC d) (kJ d 1200 Q) Q 1 [.aload 0, .invokevirtual 131056, .iinc 1 1, .goto 1] ls st h := WP.eqn c_1200_3 1 rfl rfl rfl
theorem w_1200_4 : WP d 1200 4 ls st h Q = wpL (kC d) (kJ d 1200 Q) Q 1 [.aload 0, .getfield 2883, .aload 0, .getfield 2880, .invokestatic 762, .iload 1, .ldc_w 48, .if_icmp .le 5, .iconst (-3), .goto 6] ls st h := WP.eqn c_1200_4 1 rfl rfl rfl
theorem w_1200_5 : WP d 1200 5 ls st h Q = wpL (kC d) (kJ d 1200 Q) Q 1 [.iload 1, .jsr 6] ls st h := WP.eqn c_1200_5 1 rfl rfl rfl
theorem w_1200_6 : WP d 1200 6 ls st h Q = wpL (kC d) (kJ d 1200 Q) Q 1 [.ireturn] ls st h := WP.eqn c_1200_6 1 rfl rfl rfl
theorem R_1210 {a : Nat} {x0 : Int32} {x1 : Int32} : Run d 1210 [.ref a, .int x0, .int x1] h Q = WP d 1210 0 [.ref a, .int x0, .int x1, .retAddr 0, .retAddr 0, .retAddr 0] [] h Q := Run.eqn 6 rfl rfl
theorem w_1210_0 : WP d 1210 0 ls st h Q = wpL (kC d) (kJ d 1210 Q) Q 1 [.iload 1, .invokestatic 1217, .ifCond .eq 1, .iload 2, .ldc_w 0, .ldc_w 1, .invokestatic 611, .ifCond .ne 2, .jsr 1] ls st h := WP.eqn c_1210_0 1 rfl rfl rfl
theorem w_1210_1 : WP d 1210 1 ls st h Q = wpL (kC d) (kJ d 1210 Q) Q 1 [.iconst (-1), .ireturn] ls st h := WP.eqn c_1210_1 1 rfl rfl rfl
theorem w_1210_2 : WP d 1210 2 ls st h Q = wpL (kC d) (kJ d 1210 Q) Q 1 [.aload 0, .getfield 2904, .iload 1, .iaload, .ifCond .ge 3, .iconst (-11), .ireturn] ls st h := WP.eqn c_1210_2 1 rfl rfl rfl
theorem w_1210_3 : WP d 1210 3 ls st h Q = wpL (kC d) (kJ d 1210 Q) Q 1 [.ldc_w 0, .istore 3, .jsr 4] ls st h := WP.eqn c_1210_3 1 rfl rfl rfl
theorem w_1210_4 : WP d 1210 4 ls st h Q = wpL (kC d) (kJ d 1210 Q) Q 1 [.iload 3, .ldc_w 40, .if_icmp .ge 5, .aload 0, .getfield 2900, .iload 3, .ldc_w 1, .bastore, .iinc 3 1, .goto 4] ls st h := WP.eqn c_1210_4 1 rfl rfl rfl
theorem w_1210_5 : WP d 1210 5 ls st h Q = wpL (kC d) (kJ d 1210 Q) Q 1 [.aload 0, .getfield 2880, .aload 0, .getfield 2883, .invokestatic 762, .ldc_w 0, .istore 3, .jsr 6] ls st h := WP.eqn c_1210_5 1 rfl rfl rfl
theorem w_1210_6 : WP d 1210 6 ls st h Q = wpL (kC d) (kJ d 1210 Q) Q 1 [.iload 3, .aload 0, .getfield 2905, .iload 1, .iaload, .if_icmp .ge 11, .ldc_w 0, .istore 4, .jsr 7] ls st h := WP.eqn c_1210_6 1 rfl rfl rfl
theorem w_1210_7 : WP d 1210 7 ls st h Q = wpL (kC d) (kJ d 1210 Q) Q 1 [.iload 4, .ldc_w 40, .if_icmp .ge 10, .aload 0, .getfield 2900, .iload 4, .aload 0, .getfield 2900, .iload 4, .baload, .ifCond .eq 8, .aload 0, .getfield 2906, .ldc_w 40, .iload 1, .imul, .iload 3, .iadd, .laload, .aload 0, .iload 4, .ldc_w 5, .idiv, .iload 4, .ldc_w 5, .irem, .invokevirtual 130834, .i2l, .lcmp, .ifCond .ne 8, .ldc_w 1, .goto 9] ls st h := WP.eqn c_1210_7 1 rfl rfl rfl
theorem w_1210_8 : WP d 1210 8 ls st h Q = wpL (kC d) (kJ d 1210 Q) Q 1 [.ldc_w 0, .jsr 9] ls st h := WP.eqn c_1210_8 1 rfl rfl rfl
theorem w_1210_9 : WP d 1210 9 ls st h Q = wpL (kC d) (kJ d 1210 Q) Q 1 [.bastore, .iinc 4 1, .goto 7] ls st h := WP.eqn c_1210_9 1 rfl rfl rfl
theorem w_1210_10 : WP d 1210 10 ls st h Q = wpL (kC d) (kJ d 1210 Q) Q 1 [.aload 0, .invokevirtual 131056, .iinc 3 1, .goto 6] ls st h := WP.eqn c_1210_10 1 rfl rfl rfl
theorem w_1210_11 : WP d 1210 11 ls st h Q = wpL (kC d) (kJ d 1210 Q) Q 1 [.aload 0, .getfield 2883, .aload 0, .getfield 2880, .invokestatic 762, .ldc_w 0, .istore 3, .iconst (-3), .istore 4, .ldc_w 39, .istore 5, .jsr 12] ls st h := WP.eqn c_1210_11 1 rfl rfl rfl
theorem w_1210_12 : WP d 1210 12 ls st h Q = wpL (kC d) (kJ d 1210 Q) Q 1 [.iload 5, .ifCond .lt 17, .iload 3, .aload 0, .getfield 2900, .iload 5, .baload, .ifCond .eq 13, .ldc_w 1, .goto 14] ls st h := WP.eqn c_1210_12 1 rfl rfl rfl
theorem w_1210_13 : WP d 1210 13 ls st h Q = wpL (kC d) (kJ d 1210 Q) Q 1 [.ldc_w 0, .jsr 14] ls st h := WP.eqn c_1210_13 1 rfl rfl rfl
theorem w_1210_14 : WP d 1210 14 ls st h Q = wpL (kC d) (kJ d 1210 Q) Q 1 [.iadd, .istore 3, .aload 0, .getfield 2900, .iload 5, .baload, .ifCond .eq 15, .ldc_w 10, .iload 5, .ldc_w 5, .idiv, .imul, .iload 5, .ldc_w 5, .irem, .iadd, .goto 16] ls st h := WP.eqn c_1210_14 1 rfl rfl rfl
theorem w_1210_15 : WP d 1210 15 ls st h Q = wpL (kC d) (kJ d 1210 Q) Q 1 [.iload 4, .jsr 16] ls st h := WP.eqn c_1210_15 1 rfl rfl rfl
theorem w_1210_16 : WP d 1210 16 ls st h Q = wpL (kC d) (kJ d 1210 Q) Q 1 [.istore 4, .iinc 5 (-1), .goto 12] ls st h := WP.eqn c_1210_16 1 rfl rfl rfl
theorem w_1210_17 : WP d 1210 17 ls st h Q = wpL (kC d) (kJ d 1210 Q) Q 1 [.iload 2, .ifCond .ne 18, .iload 3, .goto 19] ls st h := WP.eqn c_1210_17 1 rfl rfl rfl
theorem w_1210_18 : WP d 1210 18 ls st h Q = wpL (kC d) (kJ d 1210 Q) Q 1 [.iload 4, .jsr 19] ls st h := WP.eqn c_1210_18 1 rfl rfl rfl
theorem w_1210_19 : WP d 1210 19 ls st h Q = wpL (kC d) (kJ d 1210 Q) Q 1 [.ireturn] ls st h := WP.eqn c_1210_19 1 rfl rfl rfl
theorem R_1217 {x0 : Int32} : Run d 1217 [.int x0] h Q = WP d 1217 0 [.int x0] [] h Q := Run.eqn 1 rfl rfl
theorem w_1217_0 : WP d 1217 0 ls st h Q = wpL (kC d) (kJ d 1217 Q) Q 2 [.iload 0, .ldc_w 0, .ldc_w 3, .invokestatic 611, .ireturn] ls st h := WP.eqn c_1217_0 2 rfl rfl rfl
theorem R_1226 {a : Nat} {x0 : Int32} {x1 : Int32} : Run d 1226 [.ref a, .int x0, .int x1] h Q = WP d 1226 0 [.ref a, .int x0, .int x1, .retAddr 0, .retAddr 0, .retAddr 0, .retAddr 0] [] h Q := Run.eqn 7 rfl rfl
theorem w_1226_0 : WP d 1226 0 ls st h Q = wpL (kC d) (kJ d 1226 Q) Q 1 [.iload 1, .invokestatic 801, .ifCond .eq 1, .iload 2, .ldc_w 0, .ldc_w 999, .invokestatic 611, .ifCond .ne 2, .jsr 1] ls st h := WP.eqn c_1226_0 1 rfl rfl rfl
theorem w_1226_1 : WP d 1226 1 ls st h Q = wpL (kC d) (kJ d 1226 Q) Q 1 [.iconst (-1), .ireturn] ls st h := WP.eqn c_1226_1 1 rfl rfl rfl
theorem w_1226_2 : WP d 1226 2 ls st h Q = wpL (kC d) (kJ d 1226 Q) Q 1 [.iconst (-1), .istore 3, .ldc_w 0, .istore 4, .jsr 3] ls st h := WP.eqn c_1226_2 1 rfl rfl rfl
theorem w_1226_3 : WP d 1226 3 ls st h Q = wpL (kC d) (kJ d 1226 Q) Q 1 [.iload 4, .ldc_w 1, .aload 0, .getfield 2880, .ldc_w 5, .iaload, .ishl, .if_icmp .ge 13, .ldc_w 0, .istore 5, .ldc_w 0, .istore 6, .jsr 4] ls st h := WP.eqn c_1226_3 1 rfl rfl rfl
theorem w_1226_4 : WP d 1226 4 ls st h Q = wpL (kC d) (kJ d 1226 Q) Q 1 [.iload 6, .aload 0, .getfield 2880, .ldc_w 5, .iaload, .if_icmp .ge 7, .iload 5, .iload 4, .iload 6, .ishr, .ldc_w 1, .iand, .ldc_w 1, .if_icmp .ne 5, .aload 0, .iload 6, .ldc_w 5, .iload 1, .iadd, .invokevirtual 130914, .goto 6] ls st h := WP.eqn c_1226_4 1 rfl rfl rfl
theorem w_1226_5 : WP d 1226 5 ls st h Q = wpL (kC d) (kJ d 1226 Q) Q 1 [.ldc_w 0, .jsr 6] ls st h := WP.eqn c_1226_5 1 rfl rfl rfl
theorem w_1226_6 : WP d 1226 6 ls st h Q = wpL (kC d) (kJ d 1226 Q) Q 1 [.iadd, .istore 5, .iinc 6 1, .goto 4] ls st h := WP.eqn c_1226_6 1 rfl rfl rfl
theorem w_1226_7 : WP d 1226 7 ls st h Q = wpL (kC d) (kJ d 1226 Q) Q 1 [.iload 5, .iload 2, .if_icmp .ne 9, .iload 3, .ifCond .lt 8, .iload 4, .invokestatic 1233, .iload 3, .invokestatic 1233, .if_icmp .ge 9, .jsr 8] ls st h := WP.eqn c_1226_7 1 rfl rfl rfl
theorem w_1226_8 : WP d 1226 8 ls st h Q = wpL (kC d) (kJ d 1226 Q) Q 1 [.ldc_w 1, .goto 10] ls st h := WP.eqn c_1226_8 1 rfl rfl rfl
theorem w_1226_9 : WP d 1226 9 ls st h Q = wpL (kC d) (kJ d 1226 Q) Q 1 [.ldc_w 0, .jsr 10] ls st h := WP.eqn c_1226_9 1 rfl rfl rfl
theorem w_1226_10 : WP d 1226 10 ls st h Q = wpL (kC d) (kJ d 1226 Q) Q 1 [.istore 6, .iload 6, .ifCond .eq 11, .iload 4, .goto 12] ls st h := WP.eqn c_1226_10 1 rfl rfl rfl
theorem w_1226_11 : WP d 1226 11 ls st h Q = wpL (kC d) (kJ d 1226 Q) Q 1 [.iload 3, .jsr 12] ls st h := WP.eqn c_1226_11 1 rfl rfl rfl
theorem w_1226_12 : WP d 1226 12 ls st h Q = wpL (kC d) (kJ d 1226 Q) Q 1 [.istore 3, .iinc 4 1, .goto 3] ls st h := WP.eqn c_1226_12 1 rfl rfl rfl
theorem w_1226_13 : WP d 1226 13 ls st h Q = wpL (kC d) (kJ d 1226 Q) Q 1 [.iload 3, .ifCond .ge 14, .iconst (-3), .goto 15] ls st h := WP.eqn c_1226_13 1 rfl rfl rfl
theorem w_1226_14 : WP d 1226 14 ls st h Q = wpL (kC d) (kJ d 1226 Q) Q 1 [.iload 3, .jsr 15] ls st h := WP.eqn c_1226_14 1 rfl rfl rfl
theorem w_1226_15 : WP d 1226 15 ls st h Q = wpL (kC d) (kJ d 1226 Q) Q 1 [.ireturn] ls st h := WP.eqn c_1226_15 1 rfl rfl rfl
theorem R_1233 {x0 : Int32} : Run d 1233 [.int x0] h Q = WP d 1233 0 [.int x0, .retAddr 0, .retAddr 0] [] h Q := Run.eqn 3 rfl rfl
theorem w_1233_0 : WP d 1233 0 ls st h Q = wpL (kC d) (kJ d 1233 Q) Q 1 [.ldc_w 0, .istore 1, .iload 0, .istore 2, .jsr 1] ls st h := WP.eqn c_1233_0 1 rfl rfl rfl
theorem w_1233_1 : WP d 1233 1 ls st h Q = wpL (kC d) (kJ d 1233 Q) Q 1 [.iload 2, .ifCond .eq 2, .iinc 1 1, .iload 2, .iload 2, .ldc_w 1, .isub, .iand, .istore 2, .goto 1] ls st h := WP.eqn c_1233_1 1 rfl rfl rfl
theorem w_1233_2 : WP d 1233 2 ls st h Q = wpL (kC d) (kJ d 1233 Q) Q 1 [.iload 1, .ireturn] ls st h := WP.eqn c_1233_2 1 rfl rfl rfl
theorem R_1240 {a : Nat} : Run d 1240 [.ref a] h Q = WP d 1240 0 [.ref a, .retAddr 0, .retAddr 0, .retAddr 0, .retAddr 0, .retAddr 0, .retAddr 0] [] h Q := Run.eqn 7 rfl rfl
theorem w_1240_0 : WP d 1240 0 ls st h Q = wpL (kC d) (kJ d 1240 Q) Q 1 [.ldc_w 0, .istore 1, .ldc_w 1, .istore 2, .jsr 1] ls st h := WP.eqn c_1240_0 1 rfl rfl rfl
theorem w_1240_1 : WP d 1240 1 ls st h Q = wpL (kC d) (kJ d 1240 Q) Q 1 [.iload 2, .ldc_w 4, .if_icmp .ge 4, .aload 0, .getfield 2880, .ldc_w 68, .ldc_w 2, .iload 2, .imul, .iadd, .ldc_w 1, .iadd, .iaload, .i2l, .aload 0, .iload 1, .ldc_w 2, .invokevirtual 130826, .ldc_w 1, .ldc_w 18, .invokestatic 1027, .i2l, .lmul, .lstore 3, .aload 0, .getfield 2880, .ldc_w 68, .ldc_w 2, .iload 1, .imul, .iadd, .ldc_w 1, .iadd, .iaload, .i2l, .aload 0, .iload 2, .ldc_w 2, .invokevirtual 130826, .ldc_w 1, .ldc_w 18, .invokestatic 1027, .i2l, .lmul, .lstore 5, .lload 3, .lload 5, .lcmp, .ifCond .le 2, .iload 2, .goto 3] ls st h := WP.eqn c_1240_1 1 rfl rfl rfl
theorem w_1240_2 : WP d 1240 2 ls st h Q = wpL (kC d) (kJ d 1240 Q) Q 1 [.iload 1, .jsr 3] ls st h := WP.eqn c_1240_2 1 rfl rfl rfl
theorem w_1240_3 : WP d 1240 3 ls st h Q = wpL (kC d) (kJ d 1240 Q) Q 1 [.istore 1, .iinc 2 1, .goto 1] ls st h := WP.eqn c_1240_3 1 rfl rfl rfl
theorem w_1240_4 : WP d 1240 4 ls st h Q = wpL (kC d) (kJ d 1240 Q) Q 1 [.iload 1, .ireturn] ls st h := WP.eqn c_1240_4 1 rfl rfl rfl
theorem R_1251 {a : Nat} {x0 : Int32} {x1 : Int32} {x2 : Int32} : Run d 1251 [.ref a, .int x0, .int x1, .int x2] h Q = WP d 1251 0 [.ref a, .int x0, .int x1, .int x2, .retAddr 0] [] h Q := Run.eqn 5 rfl rfl
theorem w_1251_0 : WP d 1251 0 ls st h Q = wpL (kC d) (kJ d 1251 Q) Q 1 [.iload 1, .invokestatic 849, .ifCond .eq 1, .iload 2, .invokestatic 801, .ifCond .eq 1, .iload 3, .ldc_w 0, .ldc_w 99, .invokestatic 611, .ifCond .ne 2, .jsr 1] ls st h := WP.eqn c_1251_0 1 rfl rfl rfl
theorem w_1251_1 : WP d 1251 1 ls st h Q = wpL (kC d) (kJ d 1251 Q) Q 1 [.iconst (-1), .ireturn] ls st h := WP.eqn c_1251_1 1 rfl rfl rfl
theorem w_1251_2 : WP d 1251 2 ls st h Q = wpL (kC d) (kJ d 1251 Q) Q 1 [.aload 0, .getfield 2880, .aload 0, .getfield 2883, .invokestatic 762, .ldc_w 0, .istore 4, .jsr 3] ls st h := WP.eqn c_1251_2 1 rfl rfl rfl
theorem w_1251_3 : WP d 1251 3 ls st h Q = wpL (kC d) (kJ d 1251 Q) Q 1 [.iload 4, .ldc_w 48, .if_icmp .gt 4, .aload 0, .iload 1, .iload 2, .invokevirtual 130834, .iload 3, .if_icmp .ge 4, .aload 0, .invokevirtual 131056, .iinc 4 1, .goto 3] ls st h := WP.eqn c_1251_3 1 rfl rfl rfl
theorem w_1251_4 : WP d 1251 4 ls st h Q = wpL (kC d) (kJ d 1251 Q) Q 1 [.aload 0, .getfield 2883, .aload 0, .getfield 2880, .invokestatic 762, .iload 4, .ldc_w 48, .if_icmp .le 5, .iconst (-3), .goto 6] ls st h := WP.eqn c_1251_4 1 rfl rfl rfl
theorem w_1251_5 : WP d 1251 5 ls st h Q = wpL (kC d) (kJ d 1251 Q) Q 1 [.iload 4, .jsr 6] ls st h := WP.eqn c_1251_5 1 rfl rfl rfl
theorem w_1251_6 : WP d 1251 6 ls st h Q = wpL (kC d) (kJ d 1251 Q) Q 1 [.ireturn] ls st h := WP.eqn c_1251_6 1 rfl rfl rfl
theorem R_1258 {a : Nat} {x0 : Int32} {x1 : Int32} : Run d 1258 [.ref a, .int x0, .int x1] h Q = WP d 1258 0 [.ref a, .int x0, .int x1, .retAddr 0, .retAddr 0] [] h Q := Run.eqn 5 rfl rfl
theorem w_1258_0 : WP d 1258 0 ls st h Q = wpL (kC d) (kJ d 1258 Q) Q 3 [.iload 1, .ldc_w 0, .ldc_w 8, .invokestatic 611, .ifCond .eq 1, .iload 2, .ldc_w 0, .ldc_w 1, .invokestatic 611, .ifCond .ne 2, .jsr 1] ls st h := WP.eqn c_1258_0 3 rfl rfl rfl
theorem w_1258_1 : WP d 1258 1 ls st h Q = wpL (kC d) (kJ d 1258 Q) Q 3 [.jsr_w (-1), .lreturn] ls st h := WP.eqn c_1258_1 3 rfl rfl rfl
theorem w_1258_2 : WP d 1258 2 ls st h Q = wpL (kC d) (kJ d 1258 Q) Q 3 [.ldc_w 100, .iload 1, .invokestatic 1266, .lstore 3, .lload 3, .aload 0, .getfield 2880, .ldc_w 0, .iaload, .iload 1, .invokestatic 1266, .lsub, .lload 3, .iload 2, .invokestatic 1275, .lreturn] ls st h := WP.eqn c_1258_2 3 rfl rfl rfl
theorem R_1266 {x0 : Int32} {x1 : Int32} : Run d 1266 [.int x0, .int x1] h Q = WP d 1266 0 [.int x0, .int x1, .retAddr 0, .retAddr 0, .retAddr 0] [] h Q := Run.eqn 5 rfl rfl
theorem w_1266_0 : WP d 1266 0 ls st h Q = wpL (kC d) (kJ d 1266 Q) Q 3 [.ldc2_w 1, .lstore 2, .ldc_w 0, .istore 4, .jsr 1] ls st h := WP.eqn c_1266_0 3 rfl rfl rfl
theorem w_1266_1 : WP d 1266 1 ls st h Q = wpL (kC d) (kJ d 1266 Q) Q 3 [.iload 4, .iload 1, .if_icmp .ge 2, .lload 2, .iload 0, .i2l, .lmul, .lstore 2, .iinc 4 1, .goto 1] ls st h := WP.eqn c_1266_1 3 rfl rfl rfl
theorem w_1266_2 : WP d 1266 2 ls st h Q = wpL (kC d) (kJ d 1266 Q) Q 3 [.lload 2, .lreturn] ls st h := WP.eqn c_1266_2 3 rfl rfl rfl
theorem R_1275 {x0 : Int64} {x1 : Int64} {x2 : Int32} : Run d 1275 [.long x0, .long x1, .int x2] h Q = WP d 1275 0 [.long x0, .retAddr 0, .long x1, .retAddr 0, .int x2, .retAddr 0, .retAddr 0, .retAddr 0, .retAddr 0, .retAddr 0, .retAddr 0] [] h Q := Run.eqn 11 rfl rfl
theorem w_1275_0 : WP d 1275 0 ls st h Q = wpL (kC d) (kJ d 1275 Q) Q 3 [.lload 2, .lstore 5, .lload 0, .lstore 7, .jsr 1] ls st h := WP.eqn c_1275_0 3 rfl rfl rfl
theorem w_1275_1 : WP d 1275 1 ls st h Q = wpL (kC d) (kJ d 1275 Q) Q 3 [.lload 7, .ldc2_w 0, .lcmp, .ifCond .eq 2, .lload 5, .lload 7, .lrem, .lstore 9, .lload 7, .lstore 5, .lload 9, .lstore 7, .goto 1] ls st h := WP.eqn c_1275_1 3 rfl rfl rfl
theorem w_1275_2 : WP d 1275 2 ls st h Q = wpL (kC d) (kJ d 1275 Q) Q 3 [.iload 4, .ifCond .ne 3, .lload 0, .lload 5, .ldiv, .goto 4] ls st h := WP.eqn c_1275_2 3 rfl rfl rfl
theorem w_1275_3 : WP d 1275 3 ls st h Q = wpL (kC d) (kJ d 1275 Q) Q 3 [.lload 2, .lload 5, .ldiv, .jsr 4] ls st h := WP.eqn c_1275_3 3 rfl rfl rfl
theorem w_1275_4 : WP d 1275 4 ls st h Q = wpL (kC d) (kJ d 1275 Q) Q 3 [.lreturn] ls st h := WP.eqn c_1275_4 3 rfl rfl rfl
theorem R_1283 {a : Nat} {x0 : Int32} {x1 : Int32} {x2 : Int32} : Run d 1283 [.ref a, .int x0, .int x1, .int x2] h Q = WP d 1283 0 [.ref a, .int x0, .int x1, .int x2, .retAddr 0, .retAddr 0, .retAddr 0, .retAddr 0, .retAddr 0] [] h Q := Run.eqn 9 rfl rfl
theorem w_1283_0 : WP d 1283 0 ls st h Q = wpL (kC d) (kJ d 1283 Q) Q 3 [.aload 0, .iload 1, .invokevirtual 130905, .ifCond .eq 1, .iload 2, .ldc_w 0, .ldc_w 5, .invokestatic 611, .ifCond .eq 1, .iload 3, .ldc_w 0, .ldc_w 1, .invokestatic 611, .ifCond .ne 2, .jsr 1] ls st h := WP.eqn c_1283_0 3 rfl rfl rfl
theorem w_1283_1 : WP d 1283 1 ls st h Q = wpL (kC d) (kJ d 1283 Q) Q 3 [.jsr_w (-1), .lreturn] ls st h := WP.eqn c_1283_1 3 rfl rfl rfl
theorem w_1283_2 : WP d 1283 2 ls st h Q = wpL (kC d) (kJ d 1283 Q) Q 3 [.aload 0, .getfield 2880, .aload 0, .getfield 2883, .invokestatic 762, .ldc2_w 0, .lstore 4, .ldc2_w 0, .lstore 6, .ldc_w 1, .istore 8, .jsr 3] ls st h := WP.eqn c_1283_2 3 rfl rfl rfl
theorem w_1283_3 : WP d 1283 3 ls st h Q = wpL (kC d) (kJ d 1283 Q) Q 3 [.iload 8, .iload 2, .if_icmp .gt 4, .aload 0, .iload 1, .invokevirtual 131009, .lload 6, .aload 0, .getfield 847, .i2l, .ladd, .lstore 6, .lload 4, .lload 6, .aload 0, .iload 2, .iload 8, .invokevirtual 131290, .lmul, .ladd, .lstore 4, .iinc 8 1, .goto 3] ls st h := WP.eqn c_1283_3 3 rfl rfl rfl
theorem w_1283_4 : WP d 1283 4 ls st h Q = wpL (kC d) (kJ d 1283 Q) Q 3 [.aload 0, .getfield 2883, .aload 0, .getfield 2880, .invokestatic 762, .lload 4, .ldc_w 100, .iload 2, .invokestatic 1266, .iload 3, .invokestatic 1275, .lreturn] ls st h := WP.eqn c_1283_4 3 rfl rfl rfl
theorem R_1290 {a : Nat} {x0 : Int32} {x1 : Int32} : Run d 1290 [.ref a, .int x0, .int x1] h Q = WP d 1290 0 [.ref a, .int x0, .int x1, .retAddr 0, .retAddr 0, .retAddr 0] [] h Q := Run.eqn 6 rfl rfl
theorem w_1290_0 : WP d 1290 0 ls st h Q = wpL (kC d) (kJ d 1290 Q) Q 3 [.ldc2_w 1, .lstore 3, .ldc_w 0, .istore 5, .jsr 1] ls st h := WP.eqn c_1290_0 3 rfl rfl rfl
theorem w_1290_1 : WP d 1290 1 ls st h Q = wpL (kC d) (kJ d 1290 Q) Q 3 [.iload 5, .iload 2, .if_icmp .ge 2, .lload 3, .iload 1, .iload 5, .isub, .i2l, .lmul, .iload 5, .ldc_w 1, .iadd, .i2l, .ldiv, .lstore 3, .iinc 5 1, .goto 1] ls st h := WP.eqn c_1290_1 3 rfl rfl rfl
theorem w_1290_2 : WP d 1290 2 ls st h Q = wpL (kC d) (kJ d 1290 Q) Q 3 [.lload 3, .ldc_w 100, .aload 0, .getfield 2880, .ldc_w 0, .iaload, .isub, .iload 2, .invokestatic 1266, .lmul, .aload 0, .getfield 2880, .ldc_w 0, .iaload, .iload 1, .iload 2, .isub, .invokestatic 1266, .lmul, .lreturn] ls st h := WP.eqn c_1290_2 3 rfl rfl rfl
theorem R_1298 {a : Nat} {x0 : Int32} {x1 : Int32} : Run d 1298 [.ref a, .int x0, .int x1] h Q = WP d 1298 0 [.ref a, .int x0, .int x1, .retAddr 0] [] h Q := Run.eqn 4 rfl rfl
theorem w_1298_0 : WP d 1298 0 ls st h Q = wpL (kC d) (kJ d 1298 Q) Q 1 [.iload 1, .invokestatic 849, .ifCond .eq 1, .iload 2, .ldc_w 1, .ldc_w 10, .invokestatic 611, .ifCond .ne 2, .jsr 1] ls st h := WP.eqn c_1298_0 1 rfl rfl rfl
theorem w_1298_1 : WP d 1298 1 ls st h Q = wpL (kC d) (kJ d 1298 Q) Q 1 [.iconst (-1), .ireturn] ls st h := WP.eqn c_1298_1 1 rfl rfl rfl
theorem w_1298_2 : WP d 1298 2 ls st h Q = wpL (kC d) (kJ d 1298 Q) Q 1 [.aload 0, .iload 1, .iload 2, .invokevirtual 131306, .aload 0, .iload 2, .putfield 855, .ldc_w 0, .istore 3, .jsr 3] ls st h := WP.eqn c_1298_2 1 rfl rfl rfl
theorem w_1298_3 : WP d 1298 3 ls st h Q = wpL (kC d) (kJ d 1298 Q) Q 1 [.iload 3, .ldc_w 3, .iload 2, .imul, .if_icmp .ge 4, .aload 0, .getfield 2901, .iload 3, .aload 0, .getfield 2902, .iload 3, .iaload, .iastore, .iinc 3 1, .goto 3] ls st h := WP.eqn c_1298_3 1 rfl rfl rfl
theorem w_1298_4 : WP d 1298 4 ls st h Q = wpL (kC d) (kJ d 1298 Q) Q 1 [.iload 2, .ireturn] ls st h := WP.eqn c_1298_4 1 rfl rfl rfl
theorem R_1306 {a : Nat} {x0 : Int32} {x1 : Int32} : Run d 1306 [.ref a, .int x0, .int x1] h Q = WP d 1306 0 [.ref a, .int x0, .int x1, .retAddr 0, .retAddr 0, .retAddr 0] [] h Q := Run.eqn 6 rfl rfl
theorem w_1306_0 : WP d 1306 0 ls st h Q = wpL (kC d) (kJ d 1306 Q) Q 0 [.aload 0, .getfield 2880, .aload 0, .getfield 2883, .invokestatic 762, .ldc_w 0, .istore 3, .jsr 1] ls st h := WP.eqn c_1306_0 0 rfl rfl rfl
theorem w_1306_1 : WP d 1306 1 ls st h Q = wpL (kC d) (kJ d 1306 Q) Q 0 [.iload 3, .iload 2, .if_icmp .ge 6, .aload 0, .invokevirtual 131056, .ldc_w 0, .istore 4, .ldc_w 1, .istore 5, .jsr 2] ls st h := WP.eqn c_1306_1 0 rfl rfl rfl
theorem w_1306_2 : WP d 1306 2 ls st h Q = wpL (kC d) (kJ d 1306 Q) Q 0 [.iload 5, .ldc_w 5, .if_icmp .ge 5, .aload 0, .iload 1, .iload 5, .invokevirtual 130834, .aload 0, .iload 1, .iload 4, .invokevirtual 130834, .if_icmp .le 3, .iload 5, .goto 4] ls st h := WP.eqn c_1306_2 0 rfl rfl rfl
theorem w_1306_3 : WP d 1306 3 ls st h Q = wpL (kC d) (kJ d 1306 Q) Q 0 [.iload 4, .jsr 4] ls st h := WP.eqn c_1306_3 0 rfl rfl rfl
theorem w_1306_4 : WP d 1306 4 ls st h Q = wpL (kC d) (kJ d 1306 Q) Q 0 [.istore 4, .iinc 5 1, .goto 2] ls st h := WP.eqn c_1306_4 0 rfl rfl rfl
theorem w_1306_5 : WP d 1306 5 ls st h Q = wpL (kC d) (kJ d 1306 Q) Q 0 [.aload 0, .getfield 2902, .ldc_w 3, .iload 3, .imul, .aload 0, .iload 1, .invokevirtual 130857, .iastore, .aload 0, .getfield 2902, .ldc_w 3, .iload 3, .imul, .ldc_w 1, .iadd, .aload 0, .iload 1, .ldc_w 0, .invokevirtual 130834, .iastore, .aload 0, .getfield 2902, .ldc_w 3, .iload 3, .imul, .ldc_w 2, .iadd, .iload 4, .iastore, .iinc 3 1, .goto 1] ls st h := WP.eqn c_1306_5 0 rfl rfl rfl
theorem w_1306_6 : WP d 1306 6 ls st h Q = wpL (kC d) (kJ d 1306 Q) Q 0 [.aload 0, .getfield 2883, .aload 0, .getfield 2880, .invokestatic 762, .return_] ls st h := WP.eqn c_1306_6 0 rfl rfl rfl
theorem R_1314 {a : Nat} {x0 : Int32} {x1 : Int32} : Run d 1314 [.ref a, .int x0, .int x1] h Q = WP d 1314 0 [.ref a, .int x0, .int x1] [] h Q := Run.eqn 3 rfl rfl
theorem w_1314_0 : WP d 1314 0 ls st h Q = wpL (kC d) (kJ d 1314 Q) Q 1 [.aload 0, .iload 1, .iload 2, .invokevirtual 131322, .ifCond .eq 1, .aload 0, .getfield 2901, .ldc_w 3, .iload 1, .imul, .iload 2, .iadd, .iaload, .goto 2] ls st h := WP.eqn c_1314_0 1 rfl rfl rfl
theorem w_1314_1 : WP d 1314 1 ls st h Q = wpL (kC d) (kJ d 1314 Q) Q 1 [.iconst (-9), .jsr 2] ls st h := WP.eqn c_1314_1 1 rfl rfl rfl
theorem w_1314_2 : WP d 1314 2 ls st h Q = wpL (kC d) (kJ d 1314 Q) Q 1 [.ireturn] ls st h := WP.eqn c_1314_2 1 rfl rfl rfl
theorem R_1322 {a : Nat} {x0 : Int32} {x1 : Int32} : Run d 1322 [.ref a, .int x0, .int x1] h Q = WP d 1322 0 [.ref a, .int x0, .int x1] [] h Q := Run.eqn 3 rfl rfl
theorem w_1322_0 : WP d 1322 0 ls st h Q = wpL (kC d) (kJ d 1322 Q) Q 2 [.iload 1, .ldc_w 0, .aload 0, .getfield 855, .ldc_w 1, .isub, .invokestatic 611, .ifCond .eq 1, .iload 2, .ldc_w 0, .ldc_w 2, .invokestatic 611, .ifCond .eq 1, .ldc_w 1, .goto 2] ls st h := WP.eqn c_1322_0 2 rfl rfl rfl
theorem w_1322_1 : WP d 1322 1 ls st h Q = wpL (kC d) (kJ d 1322 Q) Q 2 [.ldc_w 0, .jsr 2] ls st h := WP.eqn c_1322_1 2 rfl rfl rfl
theorem w_1322_2 : WP d 1322 2 ls st h Q = wpL (kC d) (kJ d 1322 Q) Q 2 [.ireturn] ls st h := WP.eqn c_1322_2 2 rfl rfl rfl
theorem R_1331 {a : Nat} {x0 : Int32} {x1 : Int32} {x2 : Int32} : Run d 1331 [.ref a, .int x0, .int x1, .int x2] h Q = WP d 1331 0 [.ref a, .int x0, .int x1, .int x2, .retAddr 0] [] h Q := Run.eqn 5 rfl rfl
theorem w_1331_0 : WP d 1331 0 ls st h Q = wpL (kC d) (kJ d 1331 Q) Q 1 [.aload 0, .iload 1, .iload 2, .invokevirtual 131322, .ifCond .ne 1, .iconst (-9), .ireturn] ls st h := WP.eqn c_1331_0 1 rfl rfl rfl
theorem w_1331_1 : WP d 1331 1 ls st h Q = wpL (kC d) (kJ d 1331 Q) Q 1 [.aload 0, .getfield 2901, .ldc_w 3, .iload 1, .imul, .iload 2, .iadd, .iaload, .istore 4, .aload 0, .getfield 2901, .ldc_w 3, .iload 1, .imul, .iload 2, .iadd, .iload 3, .iastore, .iload 4, .ireturn] ls st h := WP.eqn c_1331_1 1 rfl rfl rfl
theorem R_1337 {a : Nat} {x0 : Int32} : Run d 1337 [.ref a, .int x0] h Q = WP d 1337 0 [.ref a, .int x0, .retAddr 0] [] h Q := Run.eqn 3 rfl rfl
theorem w_1337_0 : WP d 1337 0 ls st h Q = wpL (kC d) (kJ d 1337 Q) Q 1 [.iload 1, .invokestatic 849, .ifCond .ne 1, .iconst (-1), .ireturn] ls st h := WP.eqn c_1337_0 1 rfl rfl rfl
theorem w_1337_1 : WP d 1337 1 ls st h Q = wpL (kC d) (kJ d 1337 Q) Q 1 [.aload 0, .iload 1, .aload 0, .getfield 855, .invokevirtual 131306, .ldc_w 0, .istore 2, .jsr 2] ls st h := WP.eqn c_1337_1 1 rfl rfl rfl
theorem w_1337_2 : WP d 1337 2 ls st h Q = wpL (kC d) (kJ d 1337 Q) Q 1 [.iload 2, .ldc_w 3, .aload 0, .getfield 855, .imul, .if_icmp .ge 4, .aload 0, .getfield 2901, .iload 2, .iaload, .aload 0, .getfield 2902, .iload 2, .iaload, .if_icmp .eq 3, .iload 2, .ldc_w 3, .idiv, .ldc_w 1, .iadd, .ireturn] ls st h := WP.eqn c_1337_2 1 rfl rfl rfl
theorem w_1337_3 : WP d 1337 3 ls st h Q = wpL (kC d) (kJ d 1337 Q) Q 1 [.iinc 2 1, .goto 2] ls st h := WP.eqn c_1337_3 1 rfl rfl rfl
theorem w_1337_4 : WP d 1337 4 ls st h Q = wpL (kC d) (kJ d 1337 Q) Q 1 [.ldc_w 0, .ireturn] ls st h := WP.eqn c_1337_4 1 rfl rfl rfl
theorem R_1348 {a : Nat} {x0 : Int32} {x1 : Int32} {x2 : Int32} {x3 : Int32} : Run d 1348 [.ref a, .int x0, .int x1, .int x2, .int x3] h Q = WP d 1348 0 [.ref a, .int x0, .int x1, .int x2, .int x3, .retAddr 0, .retAddr 0] [] h Q := Run.eqn 7 rfl rfl
theorem w_1348_0 : WP d 1348 0 ls st h Q = wpL (kC d) (kJ d 1348 Q) Q 1 [.iload 1, .invokestatic 1217, .ifCond .eq 1, .iload 3, .invokestatic 849, .ifCond .eq 1, .iload 4, .ldc_w 0, .ldc_w 5, .invokestatic 611, .ifCond .ne 2, .jsr 1] ls st h := WP.eqn c_1348_0 1 rfl rfl rfl
theorem w_1348_1 : WP d 1348 1 ls st h Q = wpL (kC d) (kJ d 1348 Q) Q 1 [.iconst (-1), .ireturn] ls st h := WP.eqn c_1348_1 1 rfl rfl rfl
theorem w_1348_2 : WP d 1348 2 ls st h Q = wpL (kC d) (kJ d 1348 Q) Q 1 [.aload 0, .iload 1, .ldc_w 0, .invokevirtual 131354, .istore 5, .iload 5, .ifCond .eq 3, .iload 5, .ireturn] ls st h := WP.eqn c_1348_2 1 rfl rfl rfl
theorem w_1348_3 : WP d 1348 3 ls st h Q = wpL (kC d) (kJ d 1348 Q) Q 1 [.iload 2, .ifCond .lt 4, .iload 2, .aload 0, .getfield 2905, .iload 1, .iaload, .iload 4, .isub, .if_icmp .le 5, .jsr 4] ls st h := WP.eqn c_1348_3 1 rfl rfl rfl
theorem w_1348_4 : WP d 1348 4 ls st h Q = wpL (kC d) (kJ d 1348 Q) Q 1 [.iconst (-12), .ireturn] ls st h := WP.eqn c_1348_4 1 rfl rfl rfl
theorem w_1348_5 : WP d 1348 5 ls st h Q = wpL (kC d) (kJ d 1348 Q) Q 1 [.ldc_w 0, .istore 6, .jsr 6] ls st h := WP.eqn c_1348_5 1 rfl rfl rfl
theorem w_1348_6 : WP d 1348 6 ls st h Q = wpL (kC d) (kJ d 1348 Q) Q 1 [.iload 6, .iload 4, .if_icmp .ge 7, .aload 0, .iload 3, .iload 6, .aload 0, .getfield 2906, .ldc_w 40, .iload 1, .imul, .iload 2, .iadd, .iload 6, .iadd, .laload, .l2i, .ldc_w 0, .ldc_w 99, .invokestatic 1027, .invokevirtual 131019, .iinc 6 1, .goto 6] ls st h := WP.eqn c_1348_6 1 rfl rfl rfl
theorem w_1348_7 : WP d 1348 7 ls st h Q = wpL (kC d) (kJ d 1348 Q) Q 1 [.iload 4, .ireturn] ls st h := WP.eqn c_1348_7 1 rfl rfl rfl
theorem R_1354 {a : Nat} {x0 : Int32} {x1 : Int32} : Run d 1354 [.ref a, .int x0, .int x1] h Q = WP d 1354 0 [.ref a, .int x0, .int x1] [] h Q := Run.eqn 3 rfl rfl
theorem w_1354_0 : WP d 1354 0 ls st h Q = wpL (kC d) (kJ d 1354 Q) Q 1 [.aload 0, .getfield 2904, .iload 1, .iaload, .ifCond .ge 1, .iconst (-11), .goto 3] ls st h := WP.eqn c_1354_0 1 rfl rfl rfl
theorem w_1354_1 : WP d 1354 1 ls st h Q = wpL (kC d) (kJ d 1354 Q) Q 1 [.aload 0, .getfield 2904, .iload 1, .iaload, .iload 2, .if_icmp .eq 2, .iconst (-13), .goto 3] ls st h := WP.eqn c_1354_1 1 rfl rfl rfl
theorem w_1354_2 : WP d 1354 2 ls st h Q = wpL (kC d) (kJ d 1354 Q) Q 1 [.ldc_w 0, .jsr 3] ls st h := WP.eqn c_1354_2 1 rfl rfl rfl
theorem w_1354_3 : WP d 1354 3 ls st h Q = wpL (kC d) (kJ d 1354 Q) Q 1 [.ireturn] ls st h := WP.eqn c_1354_3 1 rfl rfl rfl
theorem R_1363 {a : Nat} {x0 : Int32} {x1 : Int32} {x2 : Int32} : Run d 1363 [.ref a, .int x0, .int x1, .int x2] h Q = WP d 1363 0 [.ref a, .int x0, .int x1, .int x2, .retAddr 0] [] h Q := Run.eqn 5 rfl rfl
theorem w_1363_0 : WP d 1363 0 ls st h Q = wpL (kC d) (kJ d 1363 Q) Q 1 [.iload 1, .invokestatic 1217, .ifCond .eq 1, .iload 2, .iconst (-1), .ldc_w 3, .invokestatic 611, .ifCond .eq 1, .iload 2, .ifCond .lt 2, .iload 3, .ldc_w 40, .if_icmp .le 2, .jsr 1] ls st h := WP.eqn c_1363_0 1 rfl rfl rfl
theorem w_1363_1 : WP d 1363 1 ls st h Q = wpL (kC d) (kJ d 1363 Q) Q 1 [.iconst (-1), .ireturn] ls st h := WP.eqn c_1363_1 1 rfl rfl rfl
theorem w_1363_2 : WP d 1363 2 ls st h Q = wpL (kC d) (kJ d 1363 Q) Q 1 [.iload 2, .ifCond .lt 3, .iload 3, .ifCond .ge 3, .iconst (-14), .ireturn] ls st h := WP.eqn c_1363_2 1 rfl rfl rfl
theorem w_1363_3 : WP d 1363 3 ls st h Q = wpL (kC d) (kJ d 1363 Q) Q 1 [.aload 0, .getfield 2904, .iload 1, .iload 2, .iastore, .aload 0, .getfield 2905, .iload 1, .iload 2, .ifCond .ge 4, .ldc_w 0, .goto 5] ls st h := WP.eqn c_1363_3 1 rfl rfl rfl
theorem w_1363_4 : WP d 1363 4 ls st h Q = wpL (kC d) (kJ d 1363 Q) Q 1 [.iload 3, .jsr 5] ls st h := WP.eqn c_1363_4 1 rfl rfl rfl
theorem w_1363_5 : WP d 1363 5 ls st h Q = wpL (kC d) (kJ d 1363 Q) Q 1 [.iastore, .ldc_w 0, .istore 4, .jsr 6] ls st h := WP.eqn c_1363_5 1 rfl rfl rfl
theorem w_1363_6 : WP d 1363 6 ls st h Q = wpL (kC d) (kJ d 1363 Q) Q 1 [.iload 4, .ldc_w 40, .if_icmp .ge 7, .aload 0, .getfield 2906, .ldc_w 40, .iload 1, .imul, .iload 4, .iadd, .ldc2_w 0, .lastore, .iinc 4 1, .goto 6] ls st h := WP.eqn c_1363_6 1 rfl rfl rfl
theorem w_1363_7 : WP d 1363 7 ls st h Q = wpL (kC d) (kJ d 1363 Q) Q 1 [.ldc_w 1, .ireturn] ls st h := WP.eqn c_1363_7 1 rfl rfl rfl
theorem R_1371 {a : Nat} {x0 : Int32} {x1 : Int32} {x2 : Int32} : Run d 1371 [.ref a, .int x0, .int x1, .int x2] h Q = WP d 1371 0 [.ref a, .int x0, .int x1, .int x2] [] h Q := Run.eqn 4 rfl rfl
theorem w_1371_0 : WP d 1371 0 ls st h Q = wpL (kC d) (kJ d 1371 Q) Q 1 [.iload 1, .invokestatic 1217, .ifCond .ne 1, .iconst (-1), .ireturn] ls st h := WP.eqn c_1371_0 1 rfl rfl rfl
theorem w_1371_1 : WP d 1371 1 ls st h Q = wpL (kC d) (kJ d 1371 Q) Q 1 [.aload 0, .getfield 2904, .iload 1, .iaload, .ifCond .ge 2, .iconst (-11), .ireturn] ls st h := WP.eqn c_1371_1 1 rfl rfl rfl
theorem w_1371_2 : WP d 1371 2 ls st h Q = wpL (kC d) (kJ d 1371 Q) Q 1 [.iload 2, .ldc_w 0, .aload 0, .getfield 2905, .iload 1, .iaload, .ldc_w 1, .isub, .invokestatic 611, .ifCond .ne 3, .iconst (-12), .ireturn] ls st h := WP.eqn c_1371_2 1 rfl rfl rfl
theorem w_1371_3 : WP d 1371 3 ls st h Q = wpL (kC d) (kJ d 1371 Q) Q 1 [.aload 0, .getfield 2906, .ldc_w 40, .iload 1, .imul, .iload 2, .iadd, .aload 0, .getfield 2904, .iload 1, .iaload, .ifCond .ne 4, .iload 3, .i2b, .i2l, .goto 6] ls st h := WP.eqn c_1371_3 1 rfl rfl rfl
theorem w_1371_4 : WP d 1371 4 ls st h Q = wpL (kC d) (kJ d 1371 Q) Q 1 [.aload 0, .getfield 2904, .iload 1, .iaload, .ldc_w 1, .if_icmp .ne 5, .iload 3, .i2s, .i2l, .goto 6] ls st h := WP.eqn c_1371_4 1 rfl rfl rfl
theorem w_1371_5 : WP d 1371 5 ls st h Q = wpL (kC d) (kJ d 1371 Q) Q 1 [.iload 3, .i2l, .jsr 6] ls st h := WP.eqn c_1371_5 1 rfl rfl rfl
theorem w_1371_6 : WP d 1371 6 ls st h Q = wpL (kC d) (kJ d 1371 Q) Q 1 [.lastore, .ldc_w 1, .ireturn] ls st h := WP.eqn c_1371_6 1 rfl rfl rfl
theorem R_1379 {a : Nat} {x0 : Int32} {x1 : Int32} {x2 : Int32} : Run d 1379 [.ref a, .int x0, .int x1, .int x2] h Q = WP d 1379 0 [.ref a, .int x0, .int x1, .int x2, .retAddr 0] [] h Q := Run.eqn 5 rfl rfl
theorem w_1379_0 : WP d 1379 0 ls st h Q = wpL (kC d) (kJ d 1379 Q) Q 1 [.iload 1, .invokestatic 1217, .ifCond .eq 1, .iload 2, .ldc_w 0, .ldc_w 3, .invokestatic 611, .ifCond .ne 2, .jsr 1] ls st h := WP.eqn c_1379_0 1 rfl rfl rfl
theorem w_1379_1 : WP d 1379 1 ls st h Q = wpL (kC d) (kJ d 1379 Q) Q 1 [.iconst (-1), .ireturn] ls st h := WP.eqn c_1379_1 1 rfl rfl rfl
theorem w_1379_2 : WP d 1379 2 ls st h Q = wpL (kC d) (kJ d 1379 Q) Q 1 [.aload 0, .iload 1, .iload 2, .invokevirtual 131354, .istore 4, .iload 4, .ifCond .eq 3, .iload 4, .ireturn] ls st h := WP.eqn c_1379_2 1 rfl rfl rfl
theorem w_1379_3 : WP d 1379 3 ls st h Q = wpL (kC d) (kJ d 1379 Q) Q 1 [.iload 3, .ldc_w 0, .aload 0, .getfield 2905, .iload 1, .iaload, .ldc_w 1, .isub, .invokestatic 611, .ifCond .eq 4, .aload 0, .getfield 2906, .ldc_w 40, .iload 1, .imul, .iload 3, .iadd, .laload, .l2i, .goto 5] ls st h := WP.eqn c_1379_3 1 rfl rfl rfl
theorem w_1379_4 : WP d 1379 4 ls st h Q = wpL (kC d) (kJ d 1379 Q) Q 1 [.iconst (-12), .jsr 5] ls st h := WP.eqn c_1379_4 1 rfl rfl rfl
theorem w_1379_5 : WP d 1379 5 ls st h Q = wpL (kC d) (kJ d 1379 Q) Q 1 [.ireturn] ls st h := WP.eqn c_1379_5 1 rfl rfl rfl
theorem R_1387 {a : Nat} {x0 : Int32} {x1 : Int32} {x2 : Int32} : Run d 1387 [.ref a, .int x0, .int x1, .int x2] h Q = WP d 1387 0 [.ref a, .int x0, .int x1, .int x2] [] h Q := Run.eqn 4 rfl rfl
theorem w_1387_0 : WP d 1387 0 ls st h Q = wpL (kC d) (kJ d 1387 Q) Q 1 [.iload 1, .invokestatic 1217, .ifCond .eq 1, .aload 0, .iload 2, .iload 3, .invokevirtual 131394, .ifCond .ne 2, .jsr 1] ls st h := WP.eqn c_1387_0 1 rfl rfl rfl
theorem w_1387_1 : WP d 1387 1 ls st h Q = wpL (kC d) (kJ d 1387 Q) Q 1 [.iconst (-1), .ireturn] ls st h := WP.eqn c_1387_1 1 rfl rfl rfl
theorem w_1387_2 : WP d 1387 2 ls st h Q = wpL (kC d) (kJ d 1387 Q) Q 1 [.aload 0, .getfield 2907, .iload 1, .iload 2, .ldc_w 2, .if_icmp .eq 3, .iload 2, .ldc_w 1, .if_icmp .ne 4, .aload 0, .getfield 2904, .iload 3, .iaload, .ifCond .ge 4, .jsr 3] ls st h := WP.eqn c_1387_2 1 rfl rfl rfl
theorem w_1387_3 : WP d 1387 3 ls st h Q = wpL (kC d) (kJ d 1387 Q) Q 1 [.iconst (-1), .goto 5] ls st h := WP.eqn c_1387_3 1 rfl rfl rfl
theorem w_1387_4 : WP d 1387 4 ls st h Q = wpL (kC d) (kJ d 1387 Q) Q 1 [.iload 2, .jsr 5] ls st h := WP.eqn c_1387_4 1 rfl rfl rfl
theorem w_1387_5 : WP d 1387 5 ls st h Q = wpL (kC d) (kJ d 1387 Q) Q 1 [.iastore, .aload 0, .getfield 2908, .iload 1, .iload 2, .ldc_w 1, .if_icmp .ne 6, .aload 0, .getfield 2904, .iload 3, .iaload, .goto 7] ls st h := WP.eqn c_1387_5 1 rfl rfl rfl
theorem w_1387_6 : WP d 1387 6 ls st h Q = wpL (kC d) (kJ d 1387 Q) Q 1 [.iload 3, .jsr 7] ls st h := WP.eqn c_1387_6 1 rfl rfl rfl
theorem w_1387_7 : WP d 1387 7 ls st h Q = wpL (kC d) (kJ d 1387 Q) Q 1 [.iastore, .aload 0, .getfield 2909, .iload 1, .iload 2, .ldc_w 1, .if_icmp .ne 8, .aload 0, .getfield 2905, .iload 3, .iaload, .goto 9] ls st h := WP.eqn c_1387_7 1 rfl rfl rfl
theorem w_1387_8 : WP d 1387 8 ls st h Q = wpL (kC d) (kJ d 1387 Q) Q 1 [.ldc_w 0, .jsr 9] ls st h := WP.eqn c_1387_8 1 rfl rfl rfl
theorem w_1387_9 : WP d 1387 9 ls st h Q = wpL (kC d) (kJ d 1387 Q) Q 1 [.iastore, .ldc_w 1, .ireturn] ls st h := WP.eqn c_1387_9 1 rfl rfl rfl
theorem R_1394 {a : Nat} {x0 : Int32} {x1 : Int32} : Run d 1394 [.ref a, .int x0, .int x1] h Q = WP d 1394 0 [.ref a, .int x0, .int x1] [] h Q := Run.eqn 3 rfl rfl
theorem w_1394_0 : WP d 1394 0 ls st h Q = wpL (kC d) (kJ d 1394 Q) Q 2 [.iload 1, .ifCond .ne 1, .aload 0, .iload 2, .invokevirtual 130905, .goto 4] ls st h := WP.eqn c_1394_0 2 rfl rfl rfl
theorem w_1394_1 : WP d 1394 1 ls st h Q = wpL (kC d) (kJ d 1394 Q) Q 2 [.iload 1, .ldc_w 1, .if_icmp .ne 2, .iload 2, .invokestatic 1217, .goto 4] ls st h := WP.eqn c_1394_1 2 rfl rfl rfl
theorem w_1394_2 : WP d 1394 2 ls st h Q = wpL (kC d) (kJ d 1394 Q) Q 2 [.iload 1, .ldc_w 2, .if_icmp .ne 3, .ldc_w 1, .goto 4] ls st h := WP.eqn c_1394_2 2 rfl rfl rfl
theorem w_1394_3 : WP d 1394 3 ls st h Q = wpL (kC d) (kJ d 1394 Q) Q 2 [.ldc_w 0, .jsr 4] ls st h := WP.eqn c_1394_3 2 rfl rfl rfl
theorem w_1394_4 : WP d 1394 4 ls st h Q = wpL (kC d) (kJ d 1394 Q) Q 2 [.ireturn] ls st h := WP.eqn c_1394_4 2 rfl rfl rfl
theorem R_1402 {a : Nat} {x0 : Int32} {x1 : Int32} : Run d 1402 [.ref a, .int x0, .int x1] h Q = WP d 1402 0 [.ref a, .int x0, .int x1, .retAddr 0] [] h Q := Run.eqn 4 rfl rfl
theorem w_1402_0 : WP d 1402 0 ls st h Q = wpL (kC d) (kJ d 1402 Q) Q 1 [.iload 1, .invokestatic 1217, .ifCond .eq 1, .iload 2, .ldc_w 0, .ldc_w 5, .invokestatic 611, .ifCond .ne 2, .iload 2, .ldc_w 10, .ldc_w 13, .invokestatic 611, .ifCond .ne 2, .jsr 1] ls st h := WP.eqn c_1402_0 1 rfl rfl rfl
theorem w_1402_1 : WP d 1402 1 ls st h Q = wpL (kC d) (kJ d 1402 Q) Q 1 [.iconst (-1), .ireturn] ls st h := WP.eqn c_1402_1 1 rfl rfl rfl
theorem w_1402_2 : WP d 1402 2 ls st h Q = wpL (kC d) (kJ d 1402 Q) Q 1 [.aload 0, .iload 1, .invokevirtual 131409, .istore 3, .iload 3, .ifCond .ge 3, .iconst (-11), .ireturn] ls st h := WP.eqn c_1402_2 1 rfl rfl rfl
theorem w_1402_3 : WP d 1402 3 ls st h Q = wpL (kC d) (kJ d 1402 Q) Q 1 [.iload 3, .ldc_w 9, .if_icmp .ne 6, .iload 2, .ldc_w 10, .aload 0, .getfield 2908, .iload 1, .iaload, .iadd, .if_icmp .ne 4, .aload 0, .getfield 2909, .iload 1, .iaload, .goto 5] ls st h := WP.eqn c_1402_3 1 rfl rfl rfl
theorem w_1402_4 : WP d 1402 4 ls st h Q = wpL (kC d) (kJ d 1402 Q) Q 1 [.iconst (-13), .jsr 5] ls st h := WP.eqn c_1402_4 1 rfl rfl rfl
theorem w_1402_5 : WP d 1402 5 ls st h Q = wpL (kC d) (kJ d 1402 Q) Q 1 [.ireturn] ls st h := WP.eqn c_1402_5 1 rfl rfl rfl
theorem w_1402_6 : WP d 1402 6 ls st h Q = wpL (kC d) (kJ d 1402 Q) Q 1 [.iload 2, .ldc_w 10, .if_icmp .ge 7, .iload 3, .iload 2, .invokestatic 1418, .ifCond .eq 7, .aload 0, .getfield 2908, .iload 1, .iaload, .goto 8] ls st h := WP.eqn c_1402_6 1 rfl rfl rfl
theorem w_1402_7 : WP d 1402 7 ls st h Q = wpL (kC d) (kJ d 1402 Q) Q 1 [.iconst (-13), .jsr 8] ls st h := WP.eqn c_1402_7 1 rfl rfl rfl
theorem w_1402_8 : WP d 1402 8 ls st h Q = wpL (kC d) (kJ d 1402 Q) Q 1 [.ireturn] ls st h := WP.eqn c_1402_8 1 rfl rfl rfl
theorem R_1409 {a : Nat} {x0 : Int32} : Run d 1409 [.ref a, .int x0] h Q = WP d 1409 0 [.ref a, .int x0] [] h Q := Run.eqn 2 rfl rfl
theorem w_1409_0 : WP d 1409 0 ls st h Q = wpL (kC d) (kJ d 1409 Q) Q 1 [.aload 0, .getfield 2907, .iload 1, .iaload, .ifCond .eq 3, .aload 0, .getfield 2907, .iload 1, .iaload, .ifCond .ge 1, .iconst (-1), .goto 2] ls st h := WP.eqn c_1409_0 1 rfl rfl rfl
theorem w_1409_1 : WP d 1409 1 ls st h Q = wpL (kC d) (kJ d 1409 Q) Q 1 [.ldc_w 9, .jsr 2] ls st h := WP.eqn c_1409_1 1 rfl rfl rfl
theorem w_1409_2 : WP d 1409 2 ls st h Q = wpL (kC d) (kJ d 1409 Q) Q 1 [.ireturn] ls st h := WP.eqn c_1409_2 1 rfl rfl rfl
theorem w_1409_3 : WP d 1409 3 ls st h Q = wpL (kC d) (kJ d 1409 Q) Q 1 [.aload 0, .aload 0, .getfield 2908, .iload 1, .iaload, .invokevirtual 130905, .ifCond .eq 4, .aload 0, .aload 0, .getfield 2908, .iload 1, .iaload, .ldc_w 0, .invokevirtual 130914, .goto 5] ls st h := WP.eqn c_1409_3 1 rfl rfl rfl
theorem w_1409_4 : WP d 1409 4 ls st h Q = wpL (kC d) (kJ d 1409 Q) Q 1 [.iconst (-1), .jsr 5] ls st h := WP.eqn c_1409_4 1 rfl rfl rfl
theorem w_1409_5 : WP d 1409 5 ls st h Q = wpL (kC d) (kJ d 1409 Q) Q 1 [.ireturn] ls st h := WP.eqn c_1409_5 1 rfl rfl rfl
theorem R_1418 {x0 : Int32} {x1 : Int32} : Run d 1418 [.int x0, .int x1] h Q = WP d 1418 0 [.int x0, .int x1] [] h Q := Run.eqn 2 rfl rfl
theorem w_1418_0 : WP d 1418 0 ls st h Q = wpL (kC d) (kJ d 1418 Q) Q 2 [.iload 1, .ifCond .eq 2, .iload 1, .iload 0, .if_icmp .eq 2, .iload 1, .ldc_w 1, .if_icmp .ne 1, .iload 0, .ldc_w 3, .if_icmp .eq 2, .jsr 1] ls st h := WP.eqn c_1418_0 2 rfl rfl rfl
theorem w_1418_1 : WP d 1418 1 ls st h Q = wpL (kC d) (kJ d 1418 Q) Q 2 [.iload 1, .ldc_w 2, .if_icmp .ne 3, .iload 0, .ldc_w 4, .if_icmp .ne 3, .jsr 2] ls st h := WP.eqn c_1418_1 2 rfl rfl rfl
theorem w_1418_2 : WP d 1418 2 ls st h Q = wpL (kC d) (kJ d 1418 Q) Q 2 [.ldc_w 1, .goto 4] ls st h := WP.eqn c_1418_2 2 rfl rfl rfl
theorem w_1418_3 : WP d 1418 3 ls st h Q = wpL (kC d) (kJ d 1418 Q) Q 2 [.ldc_w 0, .jsr 4] ls st h := WP.eqn c_1418_3 2 rfl rfl rfl
theorem w_1418_4 : WP d 1418 4 ls st h Q = wpL (kC d) (kJ d 1418 Q) Q 2 [.ireturn] ls st h := WP.eqn c_1418_4 2 rfl rfl rfl
theorem R_1427 {a : Nat} {x0 : Int32} {x1 : Int32} {x2 : Int32} : Run d 1427 [.ref a, .int x0, .int x1, .int x2] h Q = WP d 1427 0 [.ref a, .int x0, .int x1, .int x2, .retAddr 0, .retAddr 0] [] h Q := Run.eqn 6 rfl rfl
theorem w_1427_0 : WP d 1427 0 ls st h Q = wpL (kC d) (kJ d 1427 Q) Q 1 [.aload 0, .ldc_w 0, .putfield 866, .iload 1, .invokestatic 1217, .ifCond .eq 1, .aload 0, .iload 1, .invokevirtual 131409, .goto 2] ls st h := WP.eqn c_1427_0 1 rfl rfl rfl
theorem w_1427_1 : WP d 1427 1 ls st h Q = wpL (kC d) (kJ d 1427 Q) Q 1 [.iconst (-1), .jsr 2] ls st h := WP.eqn c_1427_1 1 rfl rfl rfl
theorem w_1427_2 : WP d 1427 2 ls st h Q = wpL (kC d) (kJ d 1427 Q) Q 1 [.istore 4, .iload 2, .ldc_w 0, .ldc_w 3, .invokestatic 611, .ifCond .eq 3, .iload 4, .ldc_w 0, .ldc_w 5, .invokestatic 611, .ifCond .ne 4, .jsr 3] ls st h := WP.eqn c_1427_2 1 rfl rfl rfl
theorem w_1427_3 : WP d 1427 3 ls st h Q = wpL (kC d) (kJ d 1427 Q) Q 1 [.ldc_w 0, .ireturn] ls st h := WP.eqn c_1427_3 1 rfl rfl rfl
theorem w_1427_4 : WP d 1427 4 ls st h Q = wpL (kC d) (kJ d 1427 Q) Q 1 [.aload 0, .iload 4, .putfield 862, .aload 0, .aload 0, .getfield 2908, .iload 1, .iaload, .putfield 863, .aload 0, .aload 0, .aload 0, .getfield 863, .ldc_w 1, .invokevirtual 130914, .putfield 864, .aload 0, .ldc_w 0, .putfield 3939, .iload 2, .ifCond .ne 5, .aload 0, .iload 3, .invokevirtual 131433, .goto 8] ls st h := WP.eqn c_1427_4 1 rfl rfl rfl
theorem w_1427_5 : WP d 1427 5 ls st h Q = wpL (kC d) (kJ d 1427 Q) Q 1 [.iload 2, .ldc_w 1, .if_icmp .ne 6, .aload 0, .iload 3, .invokevirtual 131465, .goto 8] ls st h := WP.eqn c_1427_5 1 rfl rfl rfl
theorem w_1427_6 : WP d 1427 6 ls st h Q = wpL (kC d) (kJ d 1427 Q) Q 1 [.iload 2, .ldc_w 2, .if_icmp .ne 7, .aload 0, .iload 3, .invokevirtual 131481, .goto 8] ls st h := WP.eqn c_1427_6 1 rfl rfl rfl
theorem w_1427_7 : WP d 1427 7 ls st h Q = wpL (kC d) (kJ d 1427 Q) Q 1 [.aload 0, .iload 3, .invokevirtual 131497, .jsr 8] ls st h := WP.eqn c_1427_7 1 rfl rfl rfl
theorem w_1427_8 : WP d 1427 8 ls st h Q = wpL (kC d) (kJ d 1427 Q) Q 1 [.istore 5, .aload 0, .getfield 3939, .ifCond .eq 9, .iconst (-15), .goto 10] ls st h := WP.eqn c_1427_8 1 rfl rfl rfl
theorem w_1427_9 : WP d 1427 9 ls st h Q = wpL (kC d) (kJ d 1427 Q) Q 1 [.iload 5, .jsr 10] ls st h := WP.eqn c_1427_9 1 rfl rfl rfl
theorem w_1427_10 : WP d 1427 10 ls st h Q = wpL (kC d) (kJ d 1427 Q) Q 1 [.ireturn] ls st h := WP.eqn c_1427_10 1 rfl rfl rfl
theorem R_1433 {a : Nat} {x0 : Int32} : Run d 1433 [.ref a, .int x0] h Q = WP d 1433 0 [.ref a, .int x0] [] h Q := Run.eqn 2 rfl rfl
theorem w_1433_0 : WP d 1433 0 ls st h Q = wpL (kC d) (kJ d 1433 Q) Q 1 [.aload 0, .getfield 862, .tableswitch 4 2 4 #[1, 3, 2]] ls st h := WP.eqn c_1433_0 1 rfl rfl rfl
theorem w_1433_1 : WP d 1433 1 ls st h Q = wpL (kC d) (kJ d 1433 Q) Q 1 [.aload 0, .iload 1, .invokevirtual 131441, .ireturn] ls st h := WP.eqn c_1433_1 1 rfl rfl rfl
theorem w_1433_2 : WP d 1433 2 ls st h Q = wpL (kC d) (kJ d 1433 Q) Q 1 [.aload 0, .ldc_w 40, .invokevirtual 131449, .aload 0, .iload 1, .invokevirtual 131441, .ldc_w 2, .imul, .ireturn] ls st h := WP.eqn c_1433_2 1 rfl rfl rfl
theorem w_1433_3 : WP d 1433 3 ls st h Q = wpL (kC d) (kJ d 1433 Q) Q 1 [.aload 0, .ldc_w 51, .invokevirtual 131449, .aload 0, .iload 1, .invokevirtual 131457, .aload 0, .getfield 863, .iadd, .ireturn] ls st h := WP.eqn c_1433_3 1 rfl rfl rfl
theorem w_1433_4 : WP d 1433 4 ls st h Q = wpL (kC d) (kJ d 1433 Q) Q 1 [.aload 0, .iload 1, .invokevirtual 131457, .ireturn] ls st h := WP.eqn c_1433_4 1 rfl rfl rfl
theorem R_1441 {a : Nat} {x0 : Int32} : Run d 1441 [.ref a, .int x0] h Q = WP d 1441 0 [.ref a, .int x0] [] h Q := Run.eqn 2 rfl rfl
theorem w_1441_0 : WP d 1441 0 ls st h Q = wpL (kC d) (kJ d 1441 Q) Q 1 [.aload 0, .ldc_w 30, .invokevirtual 131449, .aload 0, .iload 1, .invokevirtual 131457, .aload 0, .getfield 864, .ixor, .ireturn] ls st h := WP.eqn c_1441_0 1 rfl rfl rfl
theorem R_1449 {a : Nat} {x0 : Int32} : Run d 1449 [.ref a, .int x0] h Q = WP d 1449 0 [.ref a, .int x0] [] h Q := Run.eqn 2 rfl rfl
theorem w_1449_0 : WP d 1449 0 ls st h Q = wpL (kC d) (kJ d 1449 Q) Q 0 [.aload 0, .getfield 866, .ldc_w 30, .if_icmp .ge 1, .aload 0, .getfield 2913, .aload 0, .getfield 866, .iload 1, .iastore, .aload 0, .dup, .getfield 866, .ldc_w 1, .iadd, .putfield 866, .jsr 1] ls st h := WP.eqn c_1449_0 0 rfl rfl rfl
theorem w_1449_1 : WP d 1449 1 ls st h Q = wpL (kC d) (kJ d 1449 Q) Q 0 [.return_] ls st h := WP.eqn c_1449_1 0 rfl rfl rfl
theorem R_1457 {a : Nat} {x0 : Int32} : Run d 1457 [.ref a, .int x0] h Q = WP d 1457 0 [.ref a, .int x0] [] h Q := Run.eqn 2 rfl rfl
theorem w_1457_0 : WP d 1457 0 ls st h Q = wpL (kC d) (kJ d 1457 Q) Q 1 [.aload 0, .ldc_w 10, .invokevirtual 131449, .iload 1, .aload 0, .getfield 863, .isub, .ireturn] ls st h := WP.eqn c_1457_0 1 rfl rfl rfl
theorem R_1465 {a : Nat} {x0 : Int32} : Run d 1465 [.ref a, .int x0] h Q = WP d 1465 0 [.ref a, .int x0, .retAddr 0] [] h Q := Run.eqn 3 rfl rfl
theorem w_1465_0 : WP d 1465 0 ls st h Q = wpL (kC d) (kJ d 1465 Q) Q 1 [.aload 0, .getfield 862, .ldc_w 1, .if_icmp .eq 1, .aload 0, .getfield 862, .ldc_w 3, .if_icmp .ne 2, .jsr 1] ls st h := WP.eqn c_1465_0 1 rfl rfl rfl
theorem w_1465_1 : WP d 1465 1 ls st h Q = wpL (kC d) (kJ d 1465 Q) Q 1 [.aload 0, .ldc_w 20, .invokevirtual 131449, .aload 0, .iload 1, .invokevirtual 131473, .aload 0, .getfield 863, .isub, .ireturn] ls st h := WP.eqn c_1465_1 1 rfl rfl rfl
theorem w_1465_2 : WP d 1465 2 ls st h Q = wpL (kC d) (kJ d 1465 Q) Q 1 [.aload 0, .getfield 862, .ldc_w 4, .if_icmp .ne 3, .aload 0, .ldc_w 41, .invokevirtual 131449, .aload 0, .iload 1, .invokevirtual 131473, .istore 2, .iload 2, .aload 0, .aload 0, .getfield 863, .invokevirtual 131433, .isub, .ireturn] ls st h := WP.eqn c_1465_2 1 rfl rfl rfl
theorem w_1465_3 : WP d 1465 3 ls st h Q = wpL (kC d) (kJ d 1465 Q) Q 1 [.aload 0, .iload 1, .invokevirtual 131473, .ireturn] ls st h := WP.eqn c_1465_3 1 rfl rfl rfl
theorem R_1473 {a : Nat} {x0 : Int32} : Run d 1473 [.ref a, .int x0] h Q = WP d 1473 0 [.ref a, .int x0] [] h Q := Run.eqn 2 rfl rfl
theorem w_1473_0 : WP d 1473 0 ls st h Q = wpL (kC d) (kJ d 1473 Q) Q 1 [.aload 0, .ldc_w 11, .invokevirtual 131449, .aload 0, .iload 1, .invokevirtual 131433, .ldc_w 3, .imul, .ireturn] ls st h := WP.eqn c_1473_0 1 rfl rfl rfl
theorem R_1481 {a : Nat} {x0 : Int32} : Run d 1481 [.ref a, .int x0] h Q = WP d 1481 0 [.ref a, .int x0, .retAddr 0] [] h Q := Run.eqn 3 rfl rfl
theorem w_1481_0 : WP d 1481 0 ls st h Q = wpL (kC d) (kJ d 1481 Q) Q 1 [.aload 0, .getfield 862, .ldc_w 3, .if_icmp .ne 1, .aload 0, .ldc_w 50, .invokevirtual 131449, .aload 0, .iload 1, .ldc_w 5, .iadd, .invokevirtual 131489, .ldc_w 2, .imul, .ireturn] ls st h := WP.eqn c_1481_0 1 rfl rfl rfl
theorem w_1481_1 : WP d 1481 1 ls st h Q = wpL (kC d) (kJ d 1481 Q) Q 1 [.aload 0, .getfield 862, .ldc_w 5, .if_icmp .ne 4, .aload 0, .ldc_w 61, .invokevirtual 131449, .aload 0, .iload 1, .invokevirtual 131489, .istore 2, .aload 0, .getfield 3939, .ifCond .eq 2, .ldc_w 0, .goto 3] ls st h := WP.eqn c_1481_1 1 rfl rfl rfl
theorem w_1481_2 : WP d 1481 2 ls st h Q = wpL (kC d) (kJ d 1481 Q) Q 1 [.iload 2, .aload 0, .aload 0, .getfield 864, .invokevirtual 131433, .ixor, .jsr 3] ls st h := WP.eqn c_1481_2 1 rfl rfl rfl
theorem w_1481_3 : WP d 1481 3 ls st h Q = wpL (kC d) (kJ d 1481 Q) Q 1 [.ireturn] ls st h := WP.eqn c_1481_3 1 rfl rfl rfl
theorem w_1481_4 : WP d 1481 4 ls st h Q = wpL (kC d) (kJ d 1481 Q) Q 1 [.aload 0, .iload 1, .invokevirtual 131489, .ireturn] ls st h := WP.eqn c_1481_4 1 rfl rfl rfl
theorem R_1489 {a : Nat} {x0 : Int32} : Run d 1489 [.ref a, .int x0] h Q = WP d 1489 0 [.ref a, .int x0] [] h Q := Run.eqn 2 rfl rfl
theorem w_1489_0 : WP d 1489 0 ls st h Q = wpL (kC d) (kJ d 1489 Q) Q 1 [.aload 0, .ldc_w 12, .invokevirtual 131449, .aload 0, .getfield 863, .aload 0, .getfield 864, .if_icmp .ne 1, .aload 0, .ldc_w 1, .putfield 3939, .ldc_w 0, .ireturn] ls st h := WP.eqn c_1489_0 1 rfl rfl rfl
theorem w_1489_1 : WP d 1489 1 ls st h Q = wpL (kC d) (kJ d 1489 Q) Q 1 [.iload 1, .aload 0, .getfield 863, .aload 0, .getfield 864, .isub, .idiv, .ireturn] ls st h := WP.eqn c_1489_1 1 rfl rfl rfl
theorem R_1497 {a : Nat} {x0 : Int32} : Run d 1497 [.ref a, .int x0] h Q = WP d 1497 0 [.ref a, .int x0, .retAddr 0] [] h Q := Run.eqn 3 rfl rfl
theorem w_1497_0 : WP d 1497 0 ls st h Q = wpL (kC d) (kJ d 1497 Q) Q 1 [.aload 0, .getfield 862, .ldc_w 2, .if_icmp .eq 1, .aload 0, .getfield 862, .ldc_w 4, .if_icmp .ne 2, .jsr 1] ls st h := WP.eqn c_1497_0 1 rfl rfl rfl
theorem w_1497_1 : WP d 1497 1 ls st h Q = wpL (kC d) (kJ d 1497 Q) Q 1 [.aload 0, .ldc_w 31, .invokevirtual 131449, .aload 0, .iload 1, .invokevirtual 131505, .istore 2, .iload 2, .aload 0, .aload 0, .getfield 864, .invokevirtual 131481, .iadd, .ireturn] ls st h := WP.eqn c_1497_1 1 rfl rfl rfl
theorem w_1497_2 : WP d 1497 2 ls st h Q = wpL (kC d) (kJ d 1497 Q) Q 1 [.aload 0, .getfield 862, .ldc_w 5, .if_icmp .ne 3, .aload 0, .ldc_w 60, .invokevirtual 131449, .ldc_w 7, .aload 0, .iload 1, .invokevirtual 131505, .isub, .ireturn] ls st h := WP.eqn c_1497_2 1 rfl rfl rfl
theorem w_1497_3 : WP d 1497 3 ls st h Q = wpL (kC d) (kJ d 1497 Q) Q 1 [.aload 0, .iload 1, .invokevirtual 131505, .ireturn] ls st h := WP.eqn c_1497_3 1 rfl rfl rfl
theorem R_1505 {a : Nat} {x0 : Int32} : Run d 1505 [.ref a, .int x0] h Q = WP d 1505 0 [.ref a, .int x0] [] h Q := Run.eqn 2 rfl rfl
theorem w_1505_0 : WP d 1505 0 ls st h Q = wpL (kC d) (kJ d 1505 Q) Q 1 [.aload 0, .ldc_w 13, .invokevirtual 131449, .aload 0, .iload 1, .invokevirtual 131465, .aload 0, .getfield 864, .iadd, .ireturn] ls st h := WP.eqn c_1505_0 1 rfl rfl rfl
theorem R_1513 {a : Nat} {x0 : Int32} : Run d 1513 [.ref a, .int x0] h Q = WP d 1513 0 [.ref a, .int x0] [] h Q := Run.eqn 2 rfl rfl
theorem w_1513_0 : WP d 1513 0 ls st h Q = wpL (kC d) (kJ d 1513 Q) Q 1 [.iload 1, .ldc_w 0, .aload 0, .getfield 866, .ldc_w 1, .isub, .invokestatic 611, .ifCond .eq 1, .aload 0, .getfield 2913, .iload 1, .iaload, .goto 2] ls st h := WP.eqn c_1513_0 1 rfl rfl rfl
theorem w_1513_1 : WP d 1513 1 ls st h Q = wpL (kC d) (kJ d 1513 Q) Q 1 [.iconst (-3), .jsr 2] ls st h := WP.eqn c_1513_1 1 rfl rfl rfl
theorem w_1513_2 : WP d 1513 2 ls st h Q = wpL (kC d) (kJ d 1513 Q) Q 1 [.ireturn] ls st h := WP.eqn c_1513_2 1 rfl rfl rfl
theorem R_1521 {a : Nat} {x0 : Int32} : Run d 1521 [.ref a, .int x0] h Q = WP d 1521 0 [.ref a, .int x0] [] h Q := Run.eqn 2 rfl rfl
theorem w_1521_0 : WP d 1521 0 ls st h Q = wpL (kC d) (kJ d 1521 Q) Q 1 [.iload 1, .tableswitch 8 0 6 #[1, 2, 3, 4, 5, 6, 7]] ls st h := WP.eqn c_1521_0 1 rfl rfl rfl
theorem w_1521_1 : WP d 1521 1 ls st h Q = wpL (kC d) (kJ d 1521 Q) Q 1 [.aload 0, .getfield 2880, .ldc_w 5, .iaload, .ireturn] ls st h := WP.eqn c_1521_1 1 rfl rfl rfl
theorem w_1521_2 : WP d 1521 2 ls st h Q = wpL (kC d) (kJ d 1521 Q) Q 1 [.aload 0, .invokevirtual 131528, .ireturn] ls st h := WP.eqn c_1521_2 1 rfl rfl rfl
theorem w_1521_3 : WP d 1521 3 ls st h Q = wpL (kC d) (kJ d 1521 Q) Q 1 [.aload 0, .invokevirtual 131536, .ireturn] ls st h := WP.eqn c_1521_3 1 rfl rfl rfl
theorem w_1521_4 : WP d 1521 4 ls st h Q = wpL (kC d) (kJ d 1521 Q) Q 1 [.aload 0, .invokevirtual 131544, .ireturn] ls st h := WP.eqn c_1521_4 1 rfl rfl rfl
theorem w_1521_5 : WP d 1521 5 ls st h Q = wpL (kC d) (kJ d 1521 Q) Q 1 [.aload 0, .getfield 855, .ireturn] ls st h := WP.eqn c_1521_5 1 rfl rfl rfl
theorem w_1521_6 : WP d 1521 6 ls st h Q = wpL (kC d) (kJ d 1521 Q) Q 1 [.aload 0, .getfield 839, .ireturn] ls st h := WP.eqn c_1521_6 1 rfl rfl rfl
theorem w_1521_7 : WP d 1521 7 ls st h Q = wpL (kC d) (kJ d 1521 Q) Q 1 [.aload 0, .getfield 866, .ireturn] ls st h := WP.eqn c_1521_7 1 rfl rfl rfl
theorem w_1521_8 : WP d 1521 8 ls st h Q = wpL (kC d) (kJ d 1521 Q) Q 1 [.iconst (-1), .ireturn] ls st h := WP.eqn c_1521_8 1 rfl rfl rfl
theorem R_1528 {a : Nat} : Run d 1528 [.ref a] h Q = WP d 1528 0 [.ref a, .retAddr 0, .retAddr 0] [] h Q := Run.eqn 3 rfl rfl
theorem w_1528_0 : WP d 1528 0 ls st h Q = wpL (kC d) (kJ d 1528 Q) Q 1 [.ldc_w 0, .istore 1, .ldc_w 0, .istore 2, .jsr 1] ls st h := WP.eqn c_1528_0 1 rfl rfl rfl
theorem w_1528_1 : WP d 1528 1 ls st h Q = wpL (kC d) (kJ d 1528 Q) Q 1 [.iload 2, .aload 0, .getfield 2880, .ldc_w 5, .iaload, .if_icmp .ge 4, .iload 1, .aload 0, .iload 2, .ldc_w 4, .invokevirtual 130914, .ldc_w 9, .if_icmp .ne 2, .ldc_w 1, .goto 3] ls st h := WP.eqn c_1528_1 1 rfl rfl rfl
theorem w_1528_2 : WP d 1528 2 ls st h Q = wpL (kC d) (kJ d 1528 Q) Q 1 [.ldc_w 0, .jsr 3] ls st h := WP.eqn c_1528_2 1 rfl rfl rfl
theorem w_1528_3 : WP d 1528 3 ls st h Q = wpL (kC d) (kJ d 1528 Q) Q 1 [.iadd, .istore 1, .iinc 2 1, .goto 1] ls st h := WP.eqn c_1528_3 1 rfl rfl rfl
theorem w_1528_4 : WP d 1528 4 ls st h Q = wpL (kC d) (kJ d 1528 Q) Q 1 [.iload 1, .ireturn] ls st h := WP.eqn c_1528_4 1 rfl rfl rfl
theorem R_1536 {a : Nat} : Run d 1536 [.ref a] h Q = WP d 1536 0 [.ref a, .retAddr 0, .retAddr 0] [] h Q := Run.eqn 3 rfl rfl
theorem w_1536_0 : WP d 1536 0 ls st h Q = wpL (kC d) (kJ d 1536 Q) Q 1 [.ldc_w 0, .istore 1, .ldc_w 0, .istore 2, .jsr 1] ls st h := WP.eqn c_1536_0 1 rfl rfl rfl
theorem w_1536_1 : WP d 1536 1 ls st h Q = wpL (kC d) (kJ d 1536 Q) Q 1 [.iload 2, .ldc_w 8, .if_icmp .ge 2, .iload 1, .aload 0, .iload 2, .ldc_w 5, .invokevirtual 130834, .iadd, .istore 1, .iinc 2 1, .goto 1] ls st h := WP.eqn c_1536_1 1 rfl rfl rfl
theorem w_1536_2 : WP d 1536 2 ls st h Q = wpL (kC d) (kJ d 1536 Q) Q 1 [.iload 1, .ireturn] ls st h := WP.eqn c_1536_2 1 rfl rfl rfl
theorem R_1544 {a : Nat} : Run d 1544 [.ref a] h Q = WP d 1544 0 [.ref a, .retAddr 0, .retAddr 0] [] h Q := Run.eqn 3 rfl rfl
theorem w_1544_0 : WP d 1544 0 ls st h Q = wpL (kC d) (kJ d 1544 Q) Q 1 [.ldc_w 0, .istore 1, .ldc_w 0, .istore 2, .jsr 1] ls st h := WP.eqn c_1544_0 1 rfl rfl rfl
theorem w_1544_1 : WP d 1544 1 ls st h Q = wpL (kC d) (kJ d 1544 Q) Q 1 [.iload 2, .ldc_w 4, .if_icmp .ge 4, .iload 1, .aload 0, .getfield 2880, .ldc_w 68, .ldc_w 2, .iload 2, .imul, .iadd, .ldc_w 1, .iadd, .iaload, .aload 0, .getfield 2880, .ldc_w 68, .ldc_w 2, .iload 2, .imul, .iadd, .iaload, .if_icmp .lt 2, .ldc_w 1, .goto 3] ls st h := WP.eqn c_1544_1 1 rfl rfl rfl
theorem w_1544_2 : WP d 1544 2 ls st h Q = wpL (kC d) (kJ d 1544 Q) Q 1 [.ldc_w 0, .jsr 3] ls st h := WP.eqn c_1544_2 1 rfl rfl rfl
theorem w_1544_3 : WP d 1544 3 ls st h Q = wpL (kC d) (kJ d 1544 Q) Q 1 [.iadd, .istore 1, .iinc 2 1, .goto 1] ls st h := WP.eqn c_1544_3 1 rfl rfl rfl
theorem w_1544_4 : WP d 1544 4 ls st h Q = wpL (kC d) (kJ d 1544 Q) Q 1 [.iload 1, .ireturn] ls st h := WP.eqn c_1544_4 1 rfl rfl rfl
theorem R_1552 {a : Nat} : Run d 1552 [.ref a] h Q = WP d 1552 0 [.ref a] [] h Q := Run.eqn 1 rfl rfl
theorem w_1552_0 : WP d 1552 0 ls st h Q = wpL (kC d) (kJ d 1552 Q) Q 1 [.aload 0, .getfield 2880, .aload 0, .getfield 2882, .invokestatic 762, .aload 0, .ldc_w 1, .putfield 3909, .ldc_w 1, .ireturn] ls st h := WP.eqn c_1552_0 1 rfl rfl rfl
theorem R_1560 {a : Nat} : Run d 1560 [.ref a] h Q = WP d 1560 0 [.ref a] [] h Q := Run.eqn 1 rfl rfl
theorem w_1560_0 : WP d 1560 0 ls st h Q = wpL (kC d) (kJ d 1560 Q) Q 1 [.aload 0, .getfield 3909, .ifCond .ne 1, .iconst (-3), .ireturn] ls st h := WP.eqn c_1560_0 1 rfl rfl rfl
theorem w_1560_1 : WP d 1560 1 ls st h Q = wpL (kC d) (kJ d 1560 Q) Q 1 [.aload 0, .getfield 2882, .aload 0, .getfield 2880, .invokestatic 762, .aload 0, .getfield 2880, .ldc_w 5, .iaload, .ireturn] ls st h := WP.eqn c_1560_1 1 rfl rfl rfl
theorem R_1569 {a : Nat} {x0 : Nat} : Run d 1569 [.ref a, .ref x0] h Q = WP d 1569 0 [.ref a, .ref x0] [] h Q := Run.eqn 2 rfl rfl
theorem w_1569_0 : WP d 1569 0 ls st h Q = wpL (kC d) (kJ d 1569 Q) Q 0 [.aload 0, .invokedynamic 5, .aload 0, .ldc_w 3, .newarray .int, .putfield 2753, .aload 0, .ldc_w 5, .newarray .int, .putfield 2754, .aload 0, .ldc_w 40, .newarray .int, .putfield 2755, .aload 0, .ldc_w 8, .newarray .int, .putfield 2756, .aload 0, .ldc_w 8, .newarray .int, .putfield 2757, .aload 0, .ldc_w 4, .newarray .int, .putfield 2758, .aload 0, .ldc_w 4, .newarray .int, .putfield 2759, .aload 0, .ldc_w 6, .newarray .int, .putfield 2760, .aload 0, .ldc_w 6, .newarray .int, .putfield 2761, .aload 0, .ldc_w 6, .newarray .int, .putfield 2762, .aload 0, .ldc_w 6, .newarray .int, .putfield 2763, .aload 0, .ldc_w 6, .newarray .int, .putfield 2764, .aload 0, .ldc_w 30, .newarray .int, .putfield 2765, .aload 0, .ldc_w 1, .putfield 721, .aload 0, .aload 1, .putfield 2752, .aload 0, .invokevirtual 111576, .return_] ls st h := WP.eqn c_1569_0 0 rfl rfl rfl
theorem R_1576 {a : Nat} : Run d 1576 [.ref a] h Q = WP d 1576 0 [.ref a, .retAddr 0] [] h Q := Run.eqn 2 rfl rfl
theorem w_1576_0 : WP d 1576 0 ls st h Q = wpL (kC d) (kJ d 1576 Q) Q 0 [.getstatic 1, .ldc_w 0, .aload 0, .getfield 2753, .ldc_w 0, .aload 0, .getfield 2753, .arraylength, .invokedynamic 0, .getstatic 2, .ldc_w 0, .aload 0, .getfield 2754, .ldc_w 0, .ldc_w 5, .invokedynamic 0, .ldc_w 0, .istore 1, .jsr 1] ls st h := WP.eqn c_1576_0 0 rfl rfl rfl
theorem w_1576_1 : WP d 1576 1 ls st h Q = wpL (kC d) (kJ d 1576 Q) Q 0 [.iload 1, .aload 0, .getfield 2755, .arraylength, .if_icmp .ge 2, .aload 0, .getfield 2755, .iload 1, .ldc_w 0, .iastore, .iinc 1 1, .goto 1] ls st h := WP.eqn c_1576_1 0 rfl rfl rfl
theorem w_1576_2 : WP d 1576 2 ls st h Q = wpL (kC d) (kJ d 1576 Q) Q 0 [.ldc_w 0, .istore 1, .jsr 3] ls st h := WP.eqn c_1576_2 0 rfl rfl rfl
theorem w_1576_3 : WP d 1576 3 ls st h Q = wpL (kC d) (kJ d 1576 Q) Q 0 [.iload 1, .ldc_w 8, .if_icmp .ge 4, .aload 0, .getfield 2756, .iload 1, .ldc_w 3, .iastore, .aload 0, .getfield 2757, .iload 1, .ldc_w 0, .iastore, .iinc 1 1, .goto 3] ls st h := WP.eqn c_1576_3 0 rfl rfl rfl
theorem w_1576_4 : WP d 1576 4 ls st h Q = wpL (kC d) (kJ d 1576 Q) Q 0 [.ldc_w 0, .istore 1, .jsr 5] ls st h := WP.eqn c_1576_4 0 rfl rfl rfl
theorem w_1576_5 : WP d 1576 5 ls st h Q = wpL (kC d) (kJ d 1576 Q) Q 0 [.iload 1, .ldc_w 4, .if_icmp .ge 6, .aload 0, .getfield 2758, .iload 1, .ldc_w 999, .iastore, .aload 0, .getfield 2759, .iload 1, .ldc_w 0, .iastore, .iinc 1 1, .goto 5] ls st h := WP.eqn c_1576_5 0 rfl rfl rfl
theorem w_1576_6 : WP d 1576 6 ls st h Q = wpL (kC d) (kJ d 1576 Q) Q 0 [.aload 0, .ldc_w 0, .putfield 718, .aload 0, .ldc_w 0, .putfield 719, .aload 0, .ldc_w 0, .putfield 720, .return_] ls st h := WP.eqn c_1576_6 0 rfl rfl rfl
theorem R_1588 {a : Nat} {x0 : Int32} {x1 : Int32} {x2 : Int32} {x3 : Int32} : Run d 1588 [.ref a, .int x0, .int x1, .int x2, .int x3] h Q = WP d 1588 0 [.ref a, .int x0, .int x1, .int x2, .int x3, .retAddr 0, .retAddr 0] [] h Q := Run.eqn 7 rfl rfl
theorem w_1588_0 : WP d 1588 0 ls st h Q = wpL (kC d) (kJ d 1588 Q) Q 1 [.aload 0, .getfield 718, .istore 5, .aload 0, .getfield 2760, .iload 5, .iload 1, .iastore, .aload 0, .getfield 2761, .iload 5, .iload 2, .iastore, .aload 0, .getfield 2762, .iload 5, .iload 3, .iastore, .aload 0, .getfield 2763, .iload 5, .iload 4, .iastore, .aload 0, .getfield 2764, .iload 5, .ldc_w 0, .iastore, .ldc_w 0, .istore 6, .jsr 1] ls st h := WP.eqn c_1588_0 1 rfl rfl rfl
theorem w_1588_1 : WP d 1588 1 ls st h Q = wpL (kC d) (kJ d 1588 Q) Q 1 [.iload 6, .ldc_w 5, .if_icmp .ge 2, .aload 0, .getfield 2765, .iload 5, .ldc_w 5, .imul, .iload 6, .iadd, .ldc_w 0, .iastore, .iinc 6 1, .goto 1] ls st h := WP.eqn c_1588_1 1 rfl rfl rfl
theorem w_1588_2 : WP d 1588 2 ls st h Q = wpL (kC d) (kJ d 1588 Q) Q 1 [.aload 0, .dup, .getfield 718, .ldc_w 1, .iadd, .putfield 718, .iload 5, .ireturn] ls st h := WP.eqn c_1588_2 1 rfl rfl rfl
theorem R_1593 {a : Nat} {x0 : Nat} : Run d 1593 [.ref a, .ref x0] h Q = WP d 1593 0 [.ref a, .ref x0] [] h Q := Run.eqn 2 rfl rfl
theorem w_1593_0 : WP d 1593 0 ls st h Q = wpL (kC d) (kJ d 1593 Q) Q 0 [.aload 1, .getfield 2753, .ldc_w 0, .aload 0, .getfield 2753, .ldc_w 0, .aload 0, .getfield 2753, .arraylength, .invokedynamic 0, .aload 1, .getfield 2754, .ldc_w 0, .aload 0, .getfield 2754, .ldc_w 0, .ldc_w 5, .invokedynamic 0, .aload 1, .getfield 2755, .ldc_w 0, .aload 0, .getfield 2755, .ldc_w 0, .aload 0, .getfield 2755, .arraylength, .invokedynamic 0, .aload 1, .getfield 2756, .ldc_w 0, .aload 0, .getfield 2756, .ldc_w 0, .ldc_w 8, .invokedynamic 0, .aload 1, .getfield 2757, .ldc_w 0, .aload 0, .getfield 2757, .ldc_w 0, .ldc_w 8, .invokedynamic 0, .aload 1, .getfield 2758, .ldc_w 0, .aload 0, .getfield 2758, .ldc_w 0, .ldc_w 4, .invokedynamic 0, .aload 1, .getfield 2759, .ldc_w 0, .aload 0, .getfield 2759, .ldc_w 0, .ldc_w 4, .invokedynamic 0, .aload 1, .getfield 2760, .ldc_w 0, .aload 0, .getfield 2760, .ldc_w 0, .ldc_w 6, .invokedynamic 0, .aload 1, .getfield 2761, .ldc_w 0, .aload 0, .getfield 2761, .ldc_w 0, .ldc_w 6, .invokedynamic 0, .aload 1, .getfield 2762, .ldc_w 0, .aload 0, .getfield 2762, .ldc_w 0, .ldc_w 6, .invokedynamic 0, .aload 1, .getfield 2763, .ldc_w 0, .aload 0, .getfield 2763, .ldc_w 0, .ldc_w 6, .invokedynamic 0, .aload 1, .getfield 2764, .ldc_w 0, .aload 0, .getfield 2764, .ldc_w 0, .ldc_w 6, .invokedynamic 0, .aload 1, .getfield 2765, .ldc_w 0, .aload 0, .getfield 2765, .ldc_w 0, .aload 0, .getfield 2765, .arraylength, .invokedynamic 0, .aload 0, .aload 1, .getfield 718, .putfield 718, .aload 0, .aload 1, .getfield 719, .putfield 719, .aload 0, .aload 1, .getfield 720, .putfield 720, .aload 0, .aload 1, .getfield 721, .putfield 721, .return_] ls st h := WP.eqn c_1593_0 0 rfl rfl rfl
theorem R_1601 {a : Nat} {x0 : Int32} : Run d 1601 [.ref a, .int x0] h Q = WP d 1601 0 [.ref a, .int x0] [] h Q := Run.eqn 2 rfl rfl
theorem w_1601_0 : WP d 1601 0 ls st h Q = wpL (kC d) (kJ d 1601 Q) Q 1 [.aload 0, .getfield 2756, .ldc_w 2, .iload 1, .imul, .iaload, .aload 0, .getfield 2756, .ldc_w 2, .iload 1, .imul, .ldc_w 1, .iadd, .iaload, .iadd, .ireturn] ls st h := WP.eqn c_1601_0 1 rfl rfl rfl
theorem R_1609 {a : Nat} {x0 : Int32} : Run d 1609 [.ref a, .int x0] h Q = WP d 1609 0 [.ref a, .int x0, .retAddr 0, .retAddr 0] [] h Q := Run.eqn 4 rfl rfl
theorem w_1609_0 : WP d 1609 0 ls st h Q = wpL (kC d) (kJ d 1609 Q) Q 1 [.ldc_w 0, .istore 2, .ldc_w 0, .istore 3, .jsr 1] ls st h := WP.eqn c_1609_0 1 rfl rfl rfl
theorem w_1609_1 : WP d 1609 1 ls st h Q = wpL (kC d) (kJ d 1609 Q) Q 1 [.iload 3, .ldc_w 5, .if_icmp .ge 2, .iload 2, .aload 0, .getfield 2755, .iload 1, .ldc_w 5, .imul, .iload 3, .iadd, .iaload, .iadd, .istore 2, .iinc 3 1, .goto 1] ls st h := WP.eqn c_1609_1 1 rfl rfl rfl
theorem w_1609_2 : WP d 1609 2 ls st h Q = wpL (kC d) (kJ d 1609 Q) Q 1 [.iload 2, .ireturn] ls st h := WP.eqn c_1609_2 1 rfl rfl rfl
theorem R_1617 {a : Nat} {x0 : Int32} : Run d 1617 [.ref a, .int x0] h Q = WP d 1617 0 [.ref a, .int x0, .retAddr 0, .retAddr 0] [] h Q := Run.eqn 4 rfl rfl
theorem w_1617_0 : WP d 1617 0 ls st h Q = wpL (kC d) (kJ d 1617 Q) Q 1 [.ldc_w 0, .istore 2, .ldc_w 0, .istore 3, .jsr 1] ls st h := WP.eqn c_1617_0 1 rfl rfl rfl
theorem w_1617_1 : WP d 1617 1 ls st h Q = wpL (kC d) (kJ d 1617 Q) Q 1 [.iload 3, .ldc_w 5, .if_icmp .ge 2, .iload 2, .aload 0, .getfield 2765, .iload 1, .ldc_w 5, .imul, .iload 3, .iadd, .iaload, .aload 0, .getfield 2754, .iload 3, .iaload, .imul, .iadd, .istore 2, .iinc 3 1, .goto 1] ls st h := WP.eqn c_1617_1 1 rfl rfl rfl
theorem w_1617_2 : WP d 1617 2 ls st h Q = wpL (kC d) (kJ d 1617 Q) Q 1 [.iload 2, .ireturn] ls st h := WP.eqn c_1617_2 1 rfl rfl rfl
theorem R_1626 {a : Nat} {x0 : Int32} {x1 : Int32} : Run d 1626 [.ref a, .int x0, .int x1] h Q = WP d 1626 0 [.ref a, .int x0, .int x1, .retAddr 0] [] h Q := Run.eqn 4 rfl rfl
theorem w_1626_0 : WP d 1626 0 ls st h Q = wpL (kC d) (kJ d 1626 Q) Q 1 [.aload 0, .getfield 2755, .aload 0, .getfield 2762, .iload 1, .iaload, .ldc_w 5, .imul, .iload 2, .iadd, .iaload, .istore 3, .iload 3, .aload 0, .iload 1, .invokevirtual 111633, .iload 3, .iload 2, .aload 0, .getfield 2761, .iload 1, .iaload, .invokevirtual 43, .invokedynamic 4, .ireturn] ls st h := WP.eqn c_1626_0 1 rfl rfl rfl
theorem R_1633 {a : Nat} {x0 : Int32} : Run d 1633 [.ref a, .int x0] h Q = WP d 1633 0 [.ref a, .int x0] [] h Q := Run.eqn 2 rfl rfl
theorem w_1633_0 : WP d 1633 0 ls st h Q = wpL (kC d) (kJ d 1633 Q) Q 4 [.aload 0, .getfield 2752, .aload 0, .getfield 2760, .iload 1, .iaload, .aaload, .areturn] ls st h := WP.eqn c_1633_0 4 rfl rfl rfl
theorem R_1641 {a : Nat} {x0 : Int32} : Run d 1641 [.ref a, .int x0] h Q = WP d 1641 0 [.ref a, .int x0] [] h Q := Run.eqn 2 rfl rfl
theorem w_1641_0 : WP d 1641 0 ls st h Q = wpL (kC d) (kJ d 1641 Q) Q 1 [.aload 0, .iload 1, .invokevirtual 111633, .aload 0, .getfield 2761, .iload 1, .iaload, .aload 0, .getfield 2763, .iload 1, .iaload, .invokevirtual 50, .ireturn] ls st h := WP.eqn c_1641_0 1 rfl rfl rfl
theorem R_1649 {a : Nat} {x0 : Int32} : Run d 1649 [.ref a, .int x0] h Q = WP d 1649 0 [.ref a, .int x0, .retAddr 0] [] h Q := Run.eqn 3 rfl rfl
theorem w_1649_0 : WP d 1649 0 ls st h Q = wpL (kC d) (kJ d 1649 Q) Q 2 [.aload 0, .getfield 2762, .iload 1, .iaload, .ldc_w 2, .idiv, .istore 2, .aload 0, .getfield 2764, .iload 1, .iaload, .ldc_w 9, .if_icmp .ge 1, .aload 0, .getfield 2759, .iload 2, .iaload, .aload 0, .getfield 2758, .iload 2, .iaload, .if_icmp .ge 1, .ldc_w 1, .goto 2] ls st h := WP.eqn c_1649_0 2 rfl rfl rfl
theorem w_1649_1 : WP d 1649 1 ls st h Q = wpL (kC d) (kJ d 1649 Q) Q 2 [.ldc_w 0, .jsr 2] ls st h := WP.eqn c_1649_1 2 rfl rfl rfl
theorem w_1649_2 : WP d 1649 2 ls st h Q = wpL (kC d) (kJ d 1649 Q) Q 2 [.ireturn] ls st h := WP.eqn c_1649_2 2 rfl rfl rfl
theorem R_1657 {a : Nat} {x0 : Int32} : Run d 1657 [.ref a, .int x0] h Q = WP d 1657 0 [.ref a, .int x0, .retAddr 0, .retAddr 0, .retAddr 0] [] h Q := Run.eqn 5 rfl rfl
theorem w_1657_0 : WP d 1657 0 ls st h Q = wpL (kC d) (kJ d 1657 Q) Q 1 [.aload 0, .iload 1, .invokevirtual 111649, .ifCond .ne 1, .ldc_w 0, .ireturn] ls st h := WP.eqn c_1657_0 1 rfl rfl rfl
theorem w_1657_1 : WP d 1657 1 ls st h Q = wpL (kC d) (kJ d 1657 Q) Q 1 [.ldc_w 0, .istore 2, .ldc_w 0, .istore 3, .jsr 2] ls st h := WP.eqn c_1657_1 1 rfl rfl rfl
theorem w_1657_2 : WP d 1657 2 ls st h Q = wpL (kC d) (kJ d 1657 Q) Q 1 [.iload 3, .ldc_w 5, .if_icmp .ge 4, .getstatic 5, .iload 3, .iaload, .aload 0, .getfield 2763, .iload 1, .iaload, .if_icmp .lt 3, .aload 0, .iload 1, .iload 3, .invokevirtual 111626, .istore 4, .aload 0, .getfield 2755, .aload 0, .getfield 2762, .iload 1, .iaload, .ldc_w 5, .imul, .iload 3, .iadd, .dup2, .iaload, .iload 4, .isub, .iastore, .aload 0, .getfield 2765, .iload 1, .ldc_w 5, .imul, .iload 3, .iadd, .dup2, .iaload, .iload 4, .iadd, .iastore, .iload 2, .iload 4, .iadd, .istore 2, .iload 3, .ldc_w 4, .if_icmp .ne 3, .iload 4, .ifCond .le 3, .aload 0, .getfield 2764, .iload 1, .ldc_w 9, .aload 0, .getfield 2764, .iload 1, .iaload, .aload 0, .iload 1, .invokevirtual 111641, .iadd, .invokedynamic 4, .iastore, .jsr 3] ls st h := WP.eqn c_1657_2 1 rfl rfl rfl
theorem w_1657_3 : WP d 1657 3 ls st h Q = wpL (kC d) (kJ d 1657 Q) Q 1 [.iinc 3 1, .goto 2] ls st h := WP.eqn c_1657_3 1 rfl rfl rfl
theorem w_1657_4 : WP d 1657 4 ls st h Q = wpL (kC d) (kJ d 1657 Q) Q 1 [.aload 0, .getfield 2757, .aload 0, .getfield 2762, .iload 1, .iaload, .dup2, .iaload, .iload 2, .iadd, .iastore, .aload 0, .getfield 2759, .aload 0, .getfield 2762, .iload 1, .iaload, .ldc_w 2, .idiv, .dup2, .iaload, .iload 2, .iadd, .iastore, .iload 2, .ireturn] ls st h := WP.eqn c_1657_4 1 rfl rfl rfl
theorem R_1664 {a : Nat} : Run d 1664 [.ref a] h Q = WP d 1664 0 [.ref a, .retAddr 0, .retAddr 0, .retAddr 0, .retAddr 0, .retAddr 0, .retAddr 0] [] h Q := Run.eqn 7 rfl rfl
theorem w_1664_0 : WP d 1664 0 ls st h Q = wpL (kC d) (kJ d 1664 Q) Q 0 [.ldc_w 1, .aload 0, .getfield 2753, .ldc_w 1, .iaload, .invokedynamic 3, .istore 1, .aload 0, .getfield 719, .ldc_w 5, .irem, .istore 2, .ldc_w 0, .istore 3, .jsr 1] ls st h := WP.eqn c_1664_0 0 rfl rfl rfl
theorem w_1664_1 : WP d 1664 1 ls st h Q = wpL (kC d) (kJ d 1664 Q) Q 0 [.iload 3, .ldc_w 8, .if_icmp .ge 6, .ldc_w 0, .istore 4, .jsr 2] ls st h := WP.eqn c_1664_1 0 rfl rfl rfl
theorem w_1664_2 : WP d 1664 2 ls st h Q = wpL (kC d) (kJ d 1664 Q) Q 0 [.iload 4, .ldc_w 5, .if_icmp .ge 5, .iload 3, .ldc_w 5, .imul, .iload 4, .iadd, .istore 5, .aload 0, .getfield 2755, .iload 5, .iaload, .iload 1, .idiv, .iload 4, .iload 2, .if_icmp .ne 3, .aload 0, .getfield 2756, .iload 3, .iaload, .goto 4] ls st h := WP.eqn c_1664_2 0 rfl rfl rfl
theorem w_1664_3 : WP d 1664 3 ls st h Q = wpL (kC d) (kJ d 1664 Q) Q 0 [.ldc_w 0, .jsr 4] ls st h := WP.eqn c_1664_3 0 rfl rfl rfl
theorem w_1664_4 : WP d 1664 4 ls st h Q = wpL (kC d) (kJ d 1664 Q) Q 0 [.iadd, .istore 6, .aload 0, .getfield 2755, .iload 5, .ldc_w 99, .aload 0, .getfield 2755, .iload 5, .iaload, .iload 6, .iadd, .invokedynamic 4, .iastore, .iinc 4 1, .goto 2] ls st h := WP.eqn c_1664_4 0 rfl rfl rfl
theorem w_1664_5 : WP d 1664 5 ls st h Q = wpL (kC d) (kJ d 1664 Q) Q 0 [.iinc 3 1, .goto 1] ls st h := WP.eqn c_1664_5 0 rfl rfl rfl
theorem w_1664_6 : WP d 1664 6 ls st h Q = wpL (kC d) (kJ d 1664 Q) Q 0 [.aload 0, .invokevirtual 111672, .aload 0, .dup, .getfield 719, .ldc_w 1, .iadd, .putfield 719, .return_] ls st h := WP.eqn c_1664_6 0 rfl rfl rfl
theorem R_1672 {a : Nat} : Run d 1672 [.ref a] h Q = WP d 1672 0 [.ref a, .retAddr 0, .retAddr 0, .retAddr 0, .retAddr 0, .retAddr 0] [] h Q := Run.eqn 6 rfl rfl
theorem w_1672_0 : WP d 1672 0 ls st h Q = wpL (kC d) (kJ d 1672 Q) Q 0 [.ldc_w 1, .aload 0, .getfield 2753, .ldc_w 2, .iaload, .invokedynamic 3, .istore 1, .aload 0, .getfield 2755, .ldc_w 35, .iaload, .iload 1, .idiv, .istore 2, .ldc_w 0, .istore 3, .jsr 1] ls st h := WP.eqn c_1672_0 0 rfl rfl rfl
theorem w_1672_1 : WP d 1672 1 ls st h Q = wpL (kC d) (kJ d 1672 Q) Q 0 [.iload 3, .ldc_w 8, .if_icmp .ge 2, .iload 3, .ldc_w 5, .imul, .ldc_w 0, .iadd, .istore 4, .aload 0, .getfield 2755, .iload 4, .iaload, .iload 1, .idiv, .istore 5, .aload 0, .getfield 2755, .iload 4, .ldc_w 99, .aload 0, .getfield 2755, .iload 4, .iaload, .iload 5, .isub, .iload 2, .iadd, .invokedynamic 4, .iastore, .iload 5, .istore 2, .iinc 3 1, .goto 1] ls st h := WP.eqn c_1672_1 0 rfl rfl rfl
theorem w_1672_2 : WP d 1672 2 ls st h Q = wpL (kC d) (kJ d 1672 Q) Q 0 [.return_] ls st h := WP.eqn c_1672_2 0 rfl rfl rfl
theorem R_1681 {a : Nat} {x0 : Int32} : Run d 1681 [.ref a, .int x0] h Q = WP d 1681 0 [.ref a, .int x0] [] h Q := Run.eqn 2 rfl rfl
theorem w_1681_0 : WP d 1681 0 ls st h Q = wpL (kC d) (kJ d 1681 Q) Q 1 [.aload 0, .invokevirtual 111688, .ldc_w 100, .irem, .aload 0, .getfield 2753, .ldc_w 0, .iaload, .if_icmp .ge 1, .ldc_w 0, .goto 2] ls st h := WP.eqn c_1681_0 1 rfl rfl rfl
theorem w_1681_1 : WP d 1681 1 ls st h Q = wpL (kC d) (kJ d 1681 Q) Q 1 [.aload 0, .iload 1, .invokevirtual 111657, .jsr 2] ls st h := WP.eqn c_1681_1 1 rfl rfl rfl
theorem w_1681_2 : WP d 1681 2 ls st h Q = wpL (kC d) (kJ d 1681 Q) Q 1 [.ireturn] ls st h := WP.eqn c_1681_2 1 rfl rfl rfl
theorem R_1688 {a : Nat} : Run d 1688 [.ref a] h Q = WP d 1688 0 [.ref a] [] h Q := Run.eqn 1 rfl rfl
theorem w_1688_0 : WP d 1688 0 ls st h Q = wpL (kC d) (kJ d 1688 Q) Q 1 [.aload 0, .aload 0, .getfield 721, .ldc_w 1103515245, .imul, .ldc_w 12345, .iadd, .putfield 721, .aload 0, .getfield 721, .ldc_w 16, .iushr, .ireturn] ls st h := WP.eqn c_1688_0 1 rfl rfl rfl
theorem R_1696 {a : Nat} : Run d 1696 [.ref a] h Q = WP d 1696 0 [.ref a, .retAddr 0, .retAddr 0] [] h Q := Run.eqn 3 rfl rfl
theorem w_1696_0 : WP d 1696 0 ls st h Q = wpL (kC d) (kJ d 1696 Q) Q 1 [.ldc_w 0, .istore 1, .ldc_w 0, .istore 2, .jsr 1] ls st h := WP.eqn c_1696_0 1 rfl rfl rfl
theorem w_1696_1 : WP d 1696 1 ls st h Q = wpL (kC d) (kJ d 1696 Q) Q 1 [.iload 2, .aload 0, .getfield 718, .if_icmp .ge 2, .aload 0, .getfield 2762, .iload 2, .aload 0, .invokevirtual 111688, .ldc_w 8, .irem, .iastore, .iload 1, .aload 0, .iload 2, .invokevirtual 111681, .iadd, .istore 1, .iinc 2 1, .goto 1] ls st h := WP.eqn c_1696_1 1 rfl rfl rfl
theorem w_1696_2 : WP d 1696 2 ls st h Q = wpL (kC d) (kJ d 1696 Q) Q 1 [.aload 0, .invokevirtual 111664, .iload 1, .ireturn] ls st h := WP.eqn c_1696_2 1 rfl rfl rfl
theorem R_1704 {a : Nat} : Run d 1704 [.ref a] h Q = WP d 1704 0 [.ref a, .retAddr 0, .retAddr 0] [] h Q := Run.eqn 3 rfl rfl
theorem w_1704_0 : WP d 1704 0 ls st h Q = wpL (kC d) (kJ d 1704 Q) Q 1 [.ldc_w 0, .istore 1, .ldc_w 0, .istore 2, .jsr 1] ls st h := WP.eqn c_1704_0 1 rfl rfl rfl
theorem w_1704_1 : WP d 1704 1 ls st h Q = wpL (kC d) (kJ d 1704 Q) Q 1 [.iload 2, .ldc_w 8, .if_icmp .ge 3, .aload 0, .iload 2, .invokevirtual 111609, .ifCond .ne 2, .iload 1, .ldc_w 1, .iload 2, .ishl, .ior, .istore 1, .jsr 2] ls st h := WP.eqn c_1704_1 1 rfl rfl rfl
theorem w_1704_2 : WP d 1704 2 ls st h Q = wpL (kC d) (kJ d 1704 Q) Q 1 [.iinc 2 1, .goto 1] ls st h := WP.eqn c_1704_2 1 rfl rfl rfl
theorem w_1704_3 : WP d 1704 3 ls st h Q = wpL (kC d) (kJ d 1704 Q) Q 1 [.iload 1, .ireturn] ls st h := WP.eqn c_1704_3 1 rfl rfl rfl
theorem R_1713 {a : Nat} {x0 : Int32} : Run d 1713 [.ref a, .int x0] h Q = WP d 1713 0 [.ref a, .int x0, .retAddr 0] [] h Q := Run.eqn 3 rfl rfl
theorem w_1713_0 : WP d 1713 0 ls st h Q = wpL (kC d) (kJ d 1713 Q) Q 1 [.aload 0, .iload 1, .invokevirtual 111617, .istore 2, .aload 0, .iload 1, .invokevirtual 111657, .pop, .aload 0, .iload 1, .invokevirtual 111617, .iload 2, .isub, .ireturn] ls st h := WP.eqn c_1713_0 1 rfl rfl rfl
theorem R_1722 {a : Nat} {x0 : Int32} {x1 : Int32} : Run d 1722 [.ref a, .int x0, .int x1] h Q = WP d 1722 0 [.ref a, .int x0, .int x1, .retAddr 0, .retAddr 0] [] h Q := Run.eqn 5 rfl rfl
theorem w_1722_0 : WP d 1722 0 ls st h Q = wpL (kC d) (kJ d 1722 Q) Q 1 [.ldc_w 0, .istore 3, .ldc_w 0, .istore 4, .jsr 1] ls st h := WP.eqn c_1722_0 1 rfl rfl rfl
theorem w_1722_1 : WP d 1722 1 ls st h Q = wpL (kC d) (kJ d 1722 Q) Q 1 [.iload 4, .aload 0, .getfield 718, .if_icmp .ge 3, .iload 1, .iload 4, .ishr, .ldc_w 1, .iand, .ldc_w 1, .if_icmp .ne 2, .iload 3, .aload 0, .getfield 2765, .iload 4, .ldc_w 5, .imul, .iload 2, .iadd, .iaload, .iadd, .istore 3, .jsr 2] ls st h := WP.eqn c_1722_1 1 rfl rfl rfl
theorem w_1722_2 : WP d 1722 2 ls st h Q = wpL (kC d) (kJ d 1722 Q) Q 1 [.iinc 4 1, .goto 1] ls st h := WP.eqn c_1722_2 1 rfl rfl rfl
theorem w_1722_3 : WP d 1722 3 ls st h Q = wpL (kC d) (kJ d 1722 Q) Q 1 [.iload 3, .ireturn] ls st h := WP.eqn c_1722_3 1 rfl rfl rfl
theorem R_1730 {a : Nat} {x0 : Int32} {x1 : Int32} : Run d 1730 [.ref a, .int x0, .int x1] h Q = WP d 1730 0 [.ref a, .int x0, .int x1] [] h Q := Run.eqn 3 rfl rfl
theorem w_1730_0 : WP d 1730 0 ls st h Q = wpL (kC d) (kJ d 1730 Q) Q 1 [.iload 2, .ifCond .ne 1, .aload 0, .iload 1, .invokevirtual 111609, .ireturn] ls st h := WP.eqn c_1730_0 1 rfl rfl rfl
theorem w_1730_1 : WP d 1730 1 ls st h Q = wpL (kC d) (kJ d 1730 Q) Q 1 [.iload 2, .ldc_w 1, .if_icmp .ne 2, .aload 0, .getfield 2755, .iload 1, .ldc_w 5, .imul, .ldc_w 0, .iadd, .iaload, .goto 3] ls st h := WP.eqn c_1730_1 1 rfl rfl rfl
theorem w_1730_2 : WP d 1730 2 ls st h Q = wpL (kC d) (kJ d 1730 Q) Q 1 [.aload 0, .iload 1, .invokevirtual 111737, .jsr 3] ls st h := WP.eqn c_1730_2 1 rfl rfl rfl
theorem w_1730_3 : WP d 1730 3 ls st h Q = wpL (kC d) (kJ d 1730 Q) Q 1 [.ireturn] ls st h := WP.eqn c_1730_3 1 rfl rfl rfl
theorem R_1737 {a : Nat} {x0 : Int32} : Run d 1737 [.ref a, .int x0] h Q = WP d 1737 0 [.ref a, .int x0, .retAddr 0, .retAddr 0] [] h Q := Run.eqn 4 rfl rfl
theorem w_1737_0 : WP d 1737 0 ls st h Q = wpL (kC d) (kJ d 1737 Q) Q 1 [.ldc_w 0, .istore 2, .ldc_w 1, .istore 3, .jsr 1] ls st h := WP.eqn c_1737_0 1 rfl rfl rfl
theorem w_1737_1 : WP d 1737 1 ls st h Q = wpL (kC d) (kJ d 1737 Q) Q 1 [.iload 3, .ldc_w 5, .if_icmp .ge 3, .aload 0, .getfield 2755, .iload 1, .ldc_w 5, .imul, .iload 3, .iadd, .iaload, .aload 0, .getfield 2755, .iload 1, .ldc_w 5, .imul, .iload 2, .iadd, .iaload, .if_icmp .le 2, .iload 3, .istore 2, .jsr 2] ls st h := WP.eqn c_1737_1 1 rfl rfl rfl
theorem w_1737_2 : WP d 1737 2 ls st h Q = wpL (kC d) (kJ d 1737 Q) Q 1 [.iinc 3 1, .goto 1] ls st h := WP.eqn c_1737_2 1 rfl rfl rfl
theorem w_1737_3 : WP d 1737 3 ls st h Q = wpL (kC d) (kJ d 1737 Q) Q 1 [.iload 2, .ireturn] ls st h := WP.eqn c_1737_3 1 rfl rfl rfl
theorem R_1744 {a : Nat} : Run d 1744 [.ref a] h Q = WP d 1744 0 [.ref a, .retAddr 0, .retAddr 0] [] h Q := Run.eqn 3 rfl rfl
theorem w_1744_0 : WP d 1744 0 ls st h Q = wpL (kC d) (kJ d 1744 Q) Q 1 [.ldc_w 0, .istore 1, .ldc_w 0, .istore 2, .jsr 1] ls st h := WP.eqn c_1744_0 1 rfl rfl rfl
theorem w_1744_1 : WP d 1744 1 ls st h Q = wpL (kC d) (kJ d 1744 Q) Q 1 [.iload 2, .aload 0, .getfield 718, .if_icmp .ge 3, .aload 0, .getfield 2764, .iload 2, .iaload, .ldc_w 9, .if_icmp .ne 2, .iinc 1 1, .jsr 2] ls st h := WP.eqn c_1744_1 1 rfl rfl rfl
theorem w_1744_2 : WP d 1744 2 ls st h Q = wpL (kC d) (kJ d 1744 Q) Q 1 [.iinc 2 1, .goto 1] ls st h := WP.eqn c_1744_2 1 rfl rfl rfl
theorem w_1744_3 : WP d 1744 3 ls st h Q = wpL (kC d) (kJ d 1744 Q) Q 1 [.iload 1, .ireturn] ls st h := WP.eqn c_1744_3 1 rfl rfl rfl
theorem R_1752 {a : Nat} : Run d 1752 [.ref a] h Q = WP d 1752 0 [.ref a, .retAddr 0, .retAddr 0] [] h Q := Run.eqn 3 rfl rfl
theorem w_1752_0 : WP d 1752 0 ls st h Q = wpL (kC d) (kJ d 1752 Q) Q 1 [.ldc_w 0, .istore 1, .ldc_w 0, .istore 2, .jsr 1] ls st h := WP.eqn c_1752_0 1 rfl rfl rfl
theorem w_1752_1 : WP d 1752 1 ls st h Q = wpL (kC d) (kJ d 1752 Q) Q 1 [.iload 2, .ldc_w 4, .if_icmp .ge 3, .aload 0, .getfield 2759, .iload 2, .iaload, .aload 0, .getfield 2758, .iload 2, .iaload, .if_icmp .lt 2, .iinc 1 1, .jsr 2] ls st h := WP.eqn c_1752_1 1 rfl rfl rfl
theorem w_1752_2 : WP d 1752 2 ls st h Q = wpL (kC d) (kJ d 1752 Q) Q 1 [.iinc 2 1, .goto 1] ls st h := WP.eqn c_1752_2 1 rfl rfl rfl
theorem w_1752_3 : WP d 1752 3 ls st h Q = wpL (kC d) (kJ d 1752 Q) Q 1 [.iload 1, .ireturn] ls st h := WP.eqn c_1752_3 1 rfl rfl rfl
theorem R_1760 {a : Nat} : Run d 1760 [.ref a] h Q = WP d 1760 0 [.ref a] [] h Q := Run.eqn 1 rfl rfl
theorem w_1760_0 : WP d 1760 0 ls st h Q = wpL (kC d) (kJ d 1760 Q) Q 0 [.aload 0, .invokedynamic 5, .aload 0, .ldc_w 200, .newarray .int, .putfield 2624, .return_] ls st h := WP.eqn c_1760_0 0 rfl rfl rfl
theorem R_1769 {a : Nat} {x0 : Int32} : Run d 1769 [.ref a, .int x0] h Q = WP d 1769 0 [.ref a, .int x0] [] h Q := Run.eqn 2 rfl rfl
theorem w_1769_0 : WP d 1769 0 ls st h Q = wpL (kC d) (kJ d 1769 Q) Q 0 [.aload 0, .getfield 577, .ldc_w 200, .if_icmp .ge 1, .aload 0, .getfield 2624, .aload 0, .getfield 577, .iload 1, .iastore, .aload 0, .dup, .getfield 577, .ldc_w 1, .iadd, .putfield 577, .jsr 1] ls st h := WP.eqn c_1769_0 0 rfl rfl rfl
theorem w_1769_1 : WP d 1769 1 ls st h Q = wpL (kC d) (kJ d 1769 Q) Q 0 [.return_] ls st h := WP.eqn c_1769_1 0 rfl rfl rfl
theorem R_1777 {a : Nat} {x0 : Nat} : Run d 1777 [.ref a, .ref x0] h Q = WP d 1777 0 [.ref a, .ref x0, .retAddr 0] [] h Q := Run.eqn 3 rfl rfl
theorem w_1777_0 : WP d 1777 0 ls st h Q = wpL (kC d) (kJ d 1777 Q) Q 2 [.aload 0, .ldc_w 0, .putfield 579, .ldc_w 0, .istore 2, .jsr 1] ls st h := WP.eqn c_1777_0 2 rfl rfl rfl
theorem w_1777_1 : WP d 1777 1 ls st h Q = wpL (kC d) (kJ d 1777 Q) Q 2 [.iload 2, .ldc_w 200, .if_icmp .gt 5, .aload 0, .invokevirtual 91784, .aload 0, .getfield 580, .ifCond .ne 2, .ldc_w 1, .ireturn] ls st h := WP.eqn c_1777_1 2 rfl rfl rfl
theorem w_1777_2 : WP d 1777 2 ls st h Q = wpL (kC d) (kJ d 1777 Q) Q 2 [.aload 0, .getfield 580, .ldc_w 1, .if_icmp .ne 3, .aload 0, .aload 1, .invokevirtual 91817, .ifCond .ne 4, .jsr 3] ls st h := WP.eqn c_1777_2 2 rfl rfl rfl
theorem w_1777_3 : WP d 1777 3 ls st h Q = wpL (kC d) (kJ d 1777 Q) Q 2 [.ldc_w 0, .ireturn] ls st h := WP.eqn c_1777_3 2 rfl rfl rfl
theorem w_1777_4 : WP d 1777 4 ls st h Q = wpL (kC d) (kJ d 1777 Q) Q 2 [.iinc 2 1, .goto 1] ls st h := WP.eqn c_1777_4 2 rfl rfl rfl
theorem w_1777_5 : WP d 1777 5 ls st h Q = wpL (kC d) (kJ d 1777 Q) Q 2 [.ldc_w 0, .ireturn] ls st h := WP.eqn c_1777_5 2 rfl rfl rfl
theorem R_1784 {a : Nat} : Run d 1784 [.ref a] h Q = WP d 1784 0 [.ref a] [] h Q := Run.eqn 1 rfl rfl
theorem w_1784_0 : WP d 1784 0 ls st h Q = wpL (kC d) (kJ d 1784 Q) Q 0 [.aload 0, .getfield 579, .aload 0, .getfield 577, .if_icmp .ge 1, .aload 0, .getfield 2624, .aload 0, .getfield 579, .iaload, .ldc_w 32, .if_icmp .ne 1, .aload 0, .dup, .getfield 579, .ldc_w 1, .iadd, .putfield 579, .goto 0] ls st h := WP.eqn c_1784_0 0 rfl rfl rfl
theorem w_1784_1 : WP d 1784 1 ls st h Q = wpL (kC d) (kJ d 1784 Q) Q 0 [.aload 0, .aload 0, .getfield 579, .putfield 578, .aload 0, .getfield 579, .aload 0, .getfield 577, .if_icmp .lt 2, .aload 0, .ldc_w 0, .putfield 580, .goto 9] ls st h := WP.eqn c_1784_1 0 rfl rfl rfl
theorem w_1784_2 : WP d 1784 2 ls st h Q = wpL (kC d) (kJ d 1784 Q) Q 0 [.aload 0, .getfield 2624, .aload 0, .getfield 579, .iaload, .invokestatic 1793, .ifCond .eq 4, .aload 0, .ldc_w 1, .putfield 580, .jsr 3] ls st h := WP.eqn c_1784_2 0 rfl rfl rfl
theorem w_1784_3 : WP d 1784 3 ls st h Q = wpL (kC d) (kJ d 1784 Q) Q 0 [.aload 0, .getfield 579, .aload 0, .getfield 577, .if_icmp .ge 9, .aload 0, .getfield 2624, .aload 0, .getfield 579, .iaload, .invokestatic 1793, .ifCond .eq 9, .aload 0, .dup, .getfield 579, .ldc_w 1, .iadd, .putfield 579, .goto 3] ls st h := WP.eqn c_1784_3 0 rfl rfl rfl
theorem w_1784_4 : WP d 1784 4 ls st h Q = wpL (kC d) (kJ d 1784 Q) Q 0 [.aload 0, .getfield 2624, .aload 0, .getfield 579, .iaload, .invokestatic 1801, .ifCond .eq 8, .aload 0, .ldc_w 2, .putfield 580, .aload 0, .ldc_w 0, .putfield 581, .jsr 5] ls st h := WP.eqn c_1784_4 0 rfl rfl rfl
theorem w_1784_5 : WP d 1784 5 ls st h Q = wpL (kC d) (kJ d 1784 Q) Q 0 [.aload 0, .getfield 579, .aload 0, .getfield 577, .if_icmp .ge 9, .aload 0, .getfield 2624, .aload 0, .getfield 579, .iaload, .invokestatic 1801, .ifCond .eq 9, .aload 0, .aload 0, .getfield 579, .aload 0, .getfield 578, .isub, .ldc_w 3, .if_icmp .ge 6, .aload 0, .getfield 581, .ldc_w 10, .imul, .aload 0, .getfield 2624, .aload 0, .getfield 579, .iaload, .iadd, .ldc_w 48, .isub, .goto 7] ls st h := WP.eqn c_1784_5 0 rfl rfl rfl
theorem w_1784_6 : WP d 1784 6 ls st h Q = wpL (kC d) (kJ d 1784 Q) Q 0 [.iconst (-1), .jsr 7] ls st h := WP.eqn c_1784_6 0 rfl rfl rfl
theorem w_1784_7 : WP d 1784 7 ls st h Q = wpL (kC d) (kJ d 1784 Q) Q 0 [.putfield 581, .aload 0, .dup, .getfield 579, .ldc_w 1, .iadd, .putfield 579, .goto 5] ls st h := WP.eqn c_1784_7 0 rfl rfl rfl
theorem w_1784_8 : WP d 1784 8 ls st h Q = wpL (kC d) (kJ d 1784 Q) Q 0 [.aload 0, .ldc_w 3, .putfield 580, .aload 0, .dup, .getfield 579, .ldc_w 1, .iadd, .putfield 579, .jsr 9] ls st h := WP.eqn c_1784_8 0 rfl rfl rfl
theorem w_1784_9 : WP d 1784 9 ls st h Q = wpL (kC d) (kJ d 1784 Q) Q 0 [.return_] ls st h := WP.eqn c_1784_9 0 rfl rfl rfl
theorem R_1793 {x0 : Int32} : Run d 1793 [.int x0] h Q = WP d 1793 0 [.int x0] [] h Q := Run.eqn 1 rfl rfl
theorem w_1793_0 : WP d 1793 0 ls st h Q = wpL (kC d) (kJ d 1793 Q) Q 2 [.iload 0, .ldc_w 97, .if_icmp .lt 1, .iload 0, .ldc_w 122, .if_icmp .gt 1, .ldc_w 1, .goto 2] ls st h := WP.eqn c_1793_0 2 rfl rfl rfl
theorem w_1793_1 : WP d 1793 1 ls st h Q = wpL (kC d) (kJ d 1793 Q) Q 2 [.ldc_w 0, .jsr 2] ls st h := WP.eqn c_1793_1 2 rfl rfl rfl
theorem w_1793_2 : WP d 1793 2 ls st h Q = wpL (kC d) (kJ d 1793 Q) Q 2 [.ireturn] ls st h := WP.eqn c_1793_2 2 rfl rfl rfl
theorem R_1801 {x0 : Int32} : Run d 1801 [.int x0] h Q = WP d 1801 0 [.int x0] [] h Q := Run.eqn 1 rfl rfl
theorem w_1801_0 : WP d 1801 0 ls st h Q = wpL (kC d) (kJ d 1801 Q) Q 2 [.iload 0, .ldc_w 48, .if_icmp .lt 1, .iload 0, .ldc_w 57, .if_icmp .gt 1, .ldc_w 1, .goto 2] ls st h := WP.eqn c_1801_0 2 rfl rfl rfl
theorem w_1801_1 : WP d 1801 1 ls st h Q = wpL (kC d) (kJ d 1801 Q) Q 2 [.ldc_w 0, .jsr 2] ls st h := WP.eqn c_1801_1 2 rfl rfl rfl
theorem w_1801_2 : WP d 1801 2 ls st h Q = wpL (kC d) (kJ d 1801 Q) Q 2 [.ireturn] ls st h := WP.eqn c_1801_2 2 rfl rfl rfl
theorem R_1817 {a : Nat} {x0 : Nat} : Run d 1817 [.ref a, .ref x0] h Q = WP d 1817 0 [.ref a, .ref x0, .retAddr 0] [] h Q := Run.eqn 3 rfl rfl
theorem w_1817_0 : WP d 1817 0 ls st h Q = wpL (kC d) (kJ d 1817 Q) Q 2 [.ldc_w 0, .istore 2, .jsr 1] ls st h := WP.eqn c_1817_0 2 rfl rfl rfl
theorem w_1817_1 : WP d 1817 1 ls st h Q = wpL (kC d) (kJ d 1817 Q) Q 2 [.iload 2, .ldc_w 6, .if_icmp .ge 5, .aload 0, .iload 2, .invokestatic 1825, .invokevirtual 91833, .ifCond .eq 4, .aload 1, .getfield 718, .ldc_w 6, .if_icmp .ge 2, .aload 0, .aload 1, .iload 2, .invokevirtual 91842, .ifCond .eq 2, .ldc_w 1, .goto 3] ls st h := WP.eqn c_1817_1 2 rfl rfl rfl
theorem w_1817_2 : WP d 1817 2 ls st h Q = wpL (kC d) (kJ d 1817 Q) Q 2 [.ldc_w 0, .jsr 3] ls st h := WP.eqn c_1817_2 2 rfl rfl rfl
theorem w_1817_3 : WP d 1817 3 ls st h Q = wpL (kC d) (kJ d 1817 Q) Q 2 [.ireturn] ls st h := WP.eqn c_1817_3 2 rfl rfl rfl
theorem w_1817_4 : WP d 1817 4 ls st h Q = wpL (kC d) (kJ d 1817 Q) Q 2 [.iinc 2 1, .goto 1] ls st h := WP.eqn c_1817_4 2 rfl rfl rfl
theorem w_1817_5 : WP d 1817 5 ls st h Q = wpL (kC d) (kJ d 1817 Q) Q 2 [.aload 0, .ldc 18, .invokevirtual 91833, .ifCond .eq 6, .aload 0, .aload 1, .invokevirtual 91873, .ireturn] ls st h := WP.eqn c_1817_5 2 rfl rfl rfl
theorem w_1817_6 : WP d 1817 6 ls st h Q = wpL (kC d) (kJ d 1817 Q) Q 2 [.aload 0, .ldc 25, .invokevirtual 91833, .ifCond .eq 7, .aload 0, .aload 1, .invokevirtual 91905, .ireturn] ls st h := WP.eqn c_1817_6 2 rfl rfl rfl
theorem w_1817_7 : WP d 1817 7 ls st h Q = wpL (kC d) (kJ d 1817 Q) Q 2 [.aload 0, .ldc 26, .invokevirtual 91833, .ifCond .eq 8, .aload 0, .aload 1, .invokevirtual 91913, .ireturn] ls st h := WP.eqn c_1817_7 2 rfl rfl rfl
theorem w_1817_8 : WP d 1817 8 ls st h Q = wpL (kC d) (kJ d 1817 Q) Q 2 [.aload 0, .ldc 27, .invokevirtual 91833, .ifCond .eq 9, .aload 0, .aload 1, .getfield 2753, .ldc_w 0, .ldc_w 0, .getstatic 4, .ldc_w 0, .iaload, .invokevirtual 91884, .ifCond .eq 9, .ldc_w 1, .goto 10] ls st h := WP.eqn c_1817_8 2 rfl rfl rfl
theorem w_1817_9 : WP d 1817 9 ls st h Q = wpL (kC d) (kJ d 1817 Q) Q 2 [.ldc_w 0, .jsr 10] ls st h := WP.eqn c_1817_9 2 rfl rfl rfl
theorem w_1817_10 : WP d 1817 10 ls st h Q = wpL (kC d) (kJ d 1817 Q) Q 2 [.ireturn] ls st h := WP.eqn c_1817_10 2 rfl rfl rfl
theorem R_1825 {x0 : Int32} : Run d 1825 [.int x0] h Q = WP d 1825 0 [.int x0] [] h Q := Run.eqn 1 rfl rfl
theorem w_1825_0 : WP d 1825 0 ls st h Q = wpL (kC d) (kJ d 1825 Q) Q 4 [.iload 0, .tableswitch 6 0 4 #[1, 2, 3, 4, 5]] ls st h := WP.eqn c_1825_0 4 rfl rfl rfl
theorem w_1825_1 : WP d 1825 1 ls st h Q = wpL (kC d) (kJ d 1825 Q) Q 4 [.ldc 10, .areturn] ls st h := WP.eqn c_1825_1 4 rfl rfl rfl
theorem w_1825_2 : WP d 1825 2 ls st h Q = wpL (kC d) (kJ d 1825 Q) Q 4 [.ldc 11, .areturn] ls st h := WP.eqn c_1825_2 4 rfl rfl rfl
theorem w_1825_3 : WP d 1825 3 ls st h Q = wpL (kC d) (kJ d 1825 Q) Q 4 [.ldc 12, .areturn] ls st h := WP.eqn c_1825_3 4 rfl rfl rfl
theorem w_1825_4 : WP d 1825 4 ls st h Q = wpL (kC d) (kJ d 1825 Q) Q 4 [.ldc 13, .areturn] ls st h := WP.eqn c_1825_4 4 rfl rfl rfl
theorem w_1825_5 : WP d 1825 5 ls st h Q = wpL (kC d) (kJ d 1825 Q) Q 4 [.ldc 14, .areturn] ls st h := WP.eqn c_1825_5 4 rfl rfl rfl
theorem w_1825_6 : WP d 1825 6 ls st h Q = wpL (kC d) (kJ d 1825 Q) Q 4 [.ldc 15, .areturn] ls st h := WP.eqn c_1825_6 4 rfl rfl rfl
theorem R_1833 {a : Nat} {x0 : Nat} : Run d 1833 [.ref a, .ref x0] h Q = WP d 1833 0 [.ref a, .ref x0, .retAddr 0] [] h Q := Run.eqn 3 rfl rfl
theorem w_1833_0 : WP d 1833 0 ls st h Q = wpL (kC d) (kJ d 1833 Q) Q 2 [.aload 0, .getfield 580, .ldc_w 1, .if_icmp .ne 1, .aload 0, .getfield 579, .aload 0, .getfield 578, .isub, .aload 1, .invokedynamic 1, .if_icmp .eq 2, .jsr 1] ls st h := WP.eqn c_1833_0 2 rfl rfl rfl
theorem w_1833_1 : WP d 1833 1 ls st h Q = wpL (kC d) (kJ d 1833 Q) Q 2 [.ldc_w 0, .ireturn] ls st h := WP.eqn c_1833_1 2 rfl rfl rfl
theorem w_1833_2 : WP d 1833 2 ls st h Q = wpL (kC d) (kJ d 1833 Q) Q 2 [.ldc_w 0, .istore 2, .jsr 3] ls st h := WP.eqn c_1833_2 2 rfl rfl rfl
theorem w_1833_3 : WP d 1833 3 ls st h Q = wpL (kC d) (kJ d 1833 Q) Q 2 [.iload 2, .aload 1, .invokedynamic 1, .if_icmp .ge 5, .aload 0, .getfield 2624, .aload 0, .getfield 578, .iload 2, .iadd, .iaload, .aload 1, .iload 2, .invokedynamic 2, .if_icmp .eq 4, .ldc_w 0, .ireturn] ls st h := WP.eqn c_1833_3 2 rfl rfl rfl
theorem w_1833_4 : WP d 1833 4 ls st h Q = wpL (kC d) (kJ d 1833 Q) Q 2 [.iinc 2 1, .goto 3] ls st h := WP.eqn c_1833_4 2 rfl rfl rfl
theorem w_1833_5 : WP d 1833 5 ls st h Q = wpL (kC d) (kJ d 1833 Q) Q 2 [.ldc_w 1, .ireturn] ls st h := WP.eqn c_1833_5 2 rfl rfl rfl
theorem R_1842 {a : Nat} {x0 : Nat} {x1 : Int32} : Run d 1842 [.ref a, .ref x0, .int x1] h Q = WP d 1842 0 [.ref a, .ref x0, .int x1, .retAddr 0, .retAddr 0, .retAddr 0] [] h Q := Run.eqn 6 rfl rfl
theorem w_1842_0 : WP d 1842 0 ls st h Q = wpL (kC d) (kJ d 1842 Q) Q 2 [.aload 0, .ldc_w 0, .ldc_w 9, .invokevirtual 91850, .ifCond .ne 1, .ldc_w 0, .ireturn] ls st h := WP.eqn c_1842_0 2 rfl rfl rfl
theorem w_1842_1 : WP d 1842 1 ls st h Q = wpL (kC d) (kJ d 1842 Q) Q 2 [.aload 0, .getfield 581, .istore 3, .aload 0, .ldc 16, .invokevirtual 91857, .ifCond .eq 2, .aload 0, .ldc_w 0, .ldc_w 7, .invokevirtual 91850, .ifCond .ne 3, .jsr 2] ls st h := WP.eqn c_1842_1 2 rfl rfl rfl
theorem w_1842_2 : WP d 1842 2 ls st h Q = wpL (kC d) (kJ d 1842 Q) Q 2 [.ldc_w 0, .ireturn] ls st h := WP.eqn c_1842_2 2 rfl rfl rfl
theorem w_1842_3 : WP d 1842 3 ls st h Q = wpL (kC d) (kJ d 1842 Q) Q 2 [.aload 0, .getfield 581, .istore 4, .aload 0, .ldc 17, .invokevirtual 91857, .ifCond .eq 4, .aload 0, .ldc_w 0, .ldc_w 9, .invokevirtual 91850, .ifCond .ne 5, .jsr 4] ls st h := WP.eqn c_1842_3 2 rfl rfl rfl
theorem w_1842_4 : WP d 1842 4 ls st h Q = wpL (kC d) (kJ d 1842 Q) Q 2 [.ldc_w 0, .ireturn] ls st h := WP.eqn c_1842_4 2 rfl rfl rfl
theorem w_1842_5 : WP d 1842 5 ls st h Q = wpL (kC d) (kJ d 1842 Q) Q 2 [.aload 0, .getfield 581, .istore 5, .aload 0, .invokevirtual 91864, .ifCond .ne 6, .ldc_w 0, .ireturn] ls st h := WP.eqn c_1842_5 2 rfl rfl rfl
theorem w_1842_6 : WP d 1842 6 ls st h Q = wpL (kC d) (kJ d 1842 Q) Q 2 [.aload 1, .iload 2, .iload 3, .iload 4, .iload 5, .invokevirtual 111588, .pop, .ldc_w 1, .ireturn] ls st h := WP.eqn c_1842_6 2 rfl rfl rfl
theorem R_1850 {a : Nat} {x0 : Int32} {x1 : Int32} : Run d 1850 [.ref a, .int x0, .int x1] h Q = WP d 1850 0 [.ref a, .int x0, .int x1] [] h Q := Run.eqn 3 rfl rfl
theorem w_1850_0 : WP d 1850 0 ls st h Q = wpL (kC d) (kJ d 1850 Q) Q 2 [.aload 0, .invokevirtual 91784, .aload 0, .getfield 580, .ldc_w 2, .if_icmp .ne 1, .aload 0, .getfield 581, .iload 1, .iload 2, .invokestatic 27, .ifCond .ne 1, .ldc_w 1, .goto 2] ls st h := WP.eqn c_1850_0 2 rfl rfl rfl
theorem w_1850_1 : WP d 1850 1 ls st h Q = wpL (kC d) (kJ d 1850 Q) Q 2 [.ldc_w 0, .jsr 2] ls st h := WP.eqn c_1850_1 2 rfl rfl rfl
theorem w_1850_2 : WP d 1850 2 ls st h Q = wpL (kC d) (kJ d 1850 Q) Q 2 [.ireturn] ls st h := WP.eqn c_1850_2 2 rfl rfl rfl
theorem R_1857 {a : Nat} {x0 : Nat} : Run d 1857 [.ref a, .ref x0] h Q = WP d 1857 0 [.ref a, .ref x0] [] h Q := Run.eqn 2 rfl rfl
theorem w_1857_0 : WP d 1857 0 ls st h Q = wpL (kC d) (kJ d 1857 Q) Q 2 [.aload 0, .invokevirtual 91784, .aload 0, .aload 1, .invokevirtual 91833, .ireturn] ls st h := WP.eqn c_1857_0 2 rfl rfl rfl
theorem R_1864 {a : Nat} : Run d 1864 [.ref a] h Q = WP d 1864 0 [.ref a] [] h Q := Run.eqn 1 rfl rfl
theorem w_1864_0 : WP d 1864 0 ls st h Q = wpL (kC d) (kJ d 1864 Q) Q 2 [.aload 0, .invokevirtual 91784, .aload 0, .getfield 580, .ldc_w 3, .if_icmp .ne 1, .aload 0, .getfield 2624, .aload 0, .getfield 578, .iaload, .ldc_w 59, .if_icmp .ne 1, .ldc_w 1, .goto 2] ls st h := WP.eqn c_1864_0 2 rfl rfl rfl
theorem w_1864_1 : WP d 1864 1 ls st h Q = wpL (kC d) (kJ d 1864 Q) Q 2 [.ldc_w 0, .jsr 2] ls st h := WP.eqn c_1864_1 2 rfl rfl rfl
theorem w_1864_2 : WP d 1864 2 ls st h Q = wpL (kC d) (kJ d 1864 Q) Q 2 [.ireturn] ls st h := WP.eqn c_1864_2 2 rfl rfl rfl
theorem R_1873 {a : Nat} {x0 : Nat} : Run d 1873 [.ref a, .ref x0] h Q = WP d 1873 0 [.ref a, .ref x0, .retAddr 0, .retAddr 0] [] h Q := Run.eqn 4 rfl rfl
theorem w_1873_0 : WP d 1873 0 ls st h Q = wpL (kC d) (kJ d 1873 Q) Q 2 [.aload 0, .ldc_w 0, .ldc_w 7, .invokevirtual 91850, .ifCond .ne 1, .ldc_w 0, .ireturn] ls st h := WP.eqn c_1873_0 2 rfl rfl rfl
theorem w_1873_1 : WP d 1873 1 ls st h Q = wpL (kC d) (kJ d 1873 Q) Q 2 [.aload 0, .getfield 581, .istore 2, .aload 0, .invokevirtual 91784, .aload 0, .ldc 19, .invokevirtual 91833, .ifCond .eq 2, .aload 0, .aload 1, .getfield 2756, .iload 2, .ldc_w 0, .ldc_w 9, .invokevirtual 91884, .ireturn] ls st h := WP.eqn c_1873_1 2 rfl rfl rfl
theorem w_1873_2 : WP d 1873 2 ls st h Q = wpL (kC d) (kJ d 1873 Q) Q 2 [.aload 0, .invokevirtual 91888, .istore 3, .iload 3, .ifCond .lt 3, .aload 0, .aload 1, .getfield 2755, .iload 2, .ldc_w 5, .imul, .iload 3, .iadd, .ldc_w 0, .ldc_w 99, .invokevirtual 91884, .ifCond .eq 3, .ldc_w 1, .goto 4] ls st h := WP.eqn c_1873_2 2 rfl rfl rfl
theorem w_1873_3 : WP d 1873 3 ls st h Q = wpL (kC d) (kJ d 1873 Q) Q 2 [.ldc_w 0, .jsr 4] ls st h := WP.eqn c_1873_3 2 rfl rfl rfl
theorem w_1873_4 : WP d 1873 4 ls st h Q = wpL (kC d) (kJ d 1873 Q) Q 2 [.ireturn] ls st h := WP.eqn c_1873_4 2 rfl rfl rfl
theorem R_1884 {a : Nat} {x0 : Nat} {x1 : Int32} {x2 : Int32} {x3 : Int32} : Run d 1884 [.ref a, .ref x0, .int x1, .int x2, .int x3] h Q = WP d 1884 0 [.ref a, .ref x0, .int x1, .int x2, .int x3, .retAddr 0] [] h Q := Run.eqn 6 rfl rfl
theorem w_1884_0 : WP d 1884 0 ls st h Q = wpL (kC d) (kJ d 1884 Q) Q 2 [.aload 0, .iload 3, .iload 4, .invokevirtual 91850, .ifCond .ne 1, .ldc_w 0, .ireturn] ls st h := WP.eqn c_1884_0 2 rfl rfl rfl
theorem w_1884_1 : WP d 1884 1 ls st h Q = wpL (kC d) (kJ d 1884 Q) Q 2 [.aload 0, .getfield 581, .istore 5, .aload 0, .invokevirtual 91864, .ifCond .ne 2, .ldc_w 0, .ireturn] ls st h := WP.eqn c_1884_1 2 rfl rfl rfl
theorem w_1884_2 : WP d 1884 2 ls st h Q = wpL (kC d) (kJ d 1884 Q) Q 2 [.aload 1, .iload 2, .iload 5, .iastore, .ldc_w 1, .ireturn] ls st h := WP.eqn c_1884_2 2 rfl rfl rfl
theorem R_1888 {a : Nat} : Run d 1888 [.ref a] h Q = WP d 1888 0 [.ref a, .retAddr 0] [] h Q := Run.eqn 2 rfl rfl
theorem w_1888_0 : WP d 1888 0 ls st h Q = wpL (kC d) (kJ d 1888 Q) Q 1 [.ldc_w 0, .istore 1, .jsr 1] ls st h := WP.eqn c_1888_0 1 rfl rfl rfl
theorem w_1888_1 : WP d 1888 1 ls st h Q = wpL (kC d) (kJ d 1888 Q) Q 1 [.iload 1, .ldc_w 5, .if_icmp .ge 3, .aload 0, .iload 1, .invokestatic 1897, .invokevirtual 91833, .ifCond .eq 2, .iload 1, .ireturn] ls st h := WP.eqn c_1888_1 1 rfl rfl rfl
theorem w_1888_2 : WP d 1888 2 ls st h Q = wpL (kC d) (kJ d 1888 Q) Q 1 [.iinc 1 1, .goto 1] ls st h := WP.eqn c_1888_2 1 rfl rfl rfl
theorem w_1888_3 : WP d 1888 3 ls st h Q = wpL (kC d) (kJ d 1888 Q) Q 1 [.iconst (-3), .ireturn] ls st h := WP.eqn c_1888_3 1 rfl rfl rfl
theorem R_1897 {x0 : Int32} : Run d 1897 [.int x0] h Q = WP d 1897 0 [.int x0] [] h Q := Run.eqn 1 rfl rfl
theorem w_1897_0 : WP d 1897 0 ls st h Q = wpL (kC d) (kJ d 1897 Q) Q 4 [.iload 0, .tableswitch 5 0 3 #[1, 2, 3, 4]] ls st h := WP.eqn c_1897_0 4 rfl rfl rfl
theorem w_1897_1 : WP d 1897 1 ls st h Q = wpL (kC d) (kJ d 1897 Q) Q 4 [.ldc 20, .areturn] ls st h := WP.eqn c_1897_1 4 rfl rfl rfl
theorem w_1897_2 : WP d 1897 2 ls st h Q = wpL (kC d) (kJ d 1897 Q) Q 4 [.ldc 21, .areturn] ls st h := WP.eqn c_1897_2 4 rfl rfl rfl
theorem w_1897_3 : WP d 1897 3 ls st h Q = wpL (kC d) (kJ d 1897 Q) Q 4 [.ldc 22, .areturn] ls st h := WP.eqn c_1897_3 4 rfl rfl rfl
theorem w_1897_4 : WP d 1897 4 ls st h Q = wpL (kC d) (kJ d 1897 Q) Q 4 [.ldc 23, .areturn] ls st h := WP.eqn c_1897_4 4 rfl rfl rfl
theorem w_1897_5 : WP d 1897 5 ls st h Q = wpL (kC d) (kJ d 1897 Q) Q 4 [.ldc 24, .areturn] ls st h := WP.eqn c_1897_5 4 rfl rfl rfl
theorem R_1905 {a : Nat} {x0 : Nat} : Run d 1905 [.ref a, .ref x0] h Q = WP d 1905 0 [.ref a, .ref x0, .retAddr 0] [] h Q := Run.eqn 3 rfl rfl
theorem w_1905_0 : WP d 1905 0 ls st h Q = wpL (kC d) (kJ d 1905 Q) Q 2 [.aload 0, .invokevirtual 91784, .aload 0, .invokevirtual 91888, .istore 2, .iload 2, .ifCond .lt 1, .aload 0, .aload 1, .getfield 2754, .iload 2, .ldc_w 1, .ldc_w 30, .invokevirtual 91884, .ifCond .eq 1, .ldc_w 1, .goto 2] ls st h := WP.eqn c_1905_0 2 rfl rfl rfl
theorem w_1905_1 : WP d 1905 1 ls st h Q = wpL (kC d) (kJ d 1905 Q) Q 2 [.ldc_w 0, .jsr 2] ls st h := WP.eqn c_1905_1 2 rfl rfl rfl
theorem w_1905_2 : WP d 1905 2 ls st h Q = wpL (kC d) (kJ d 1905 Q) Q 2 [.ireturn] ls st h := WP.eqn c_1905_2 2 rfl rfl rfl
theorem R_1913 {a : Nat} {x0 : Nat} : Run d 1913 [.ref a, .ref x0] h Q = WP d 1913 0 [.ref a, .ref x0] [] h Q := Run.eqn 2 rfl rfl
theorem w_1913_0 : WP d 1913 0 ls st h Q = wpL (kC d) (kJ d 1913 Q) Q 2 [.aload 0, .ldc_w 0, .ldc_w 3, .invokevirtual 91850, .ifCond .ne 1, .ldc_w 0, .ireturn] ls st h := WP.eqn c_1913_0 2 rfl rfl rfl
theorem w_1913_1 : WP d 1913 1 ls st h Q = wpL (kC d) (kJ d 1913 Q) Q 2 [.aload 0, .aload 1, .getfield 2758, .aload 0, .getfield 581, .ldc_w 0, .ldc_w 999, .invokevirtual 91884, .ireturn] ls st h := WP.eqn c_1913_1 2 rfl rfl rfl
theorem R_1920 {a : Nat} : Run d 1920 [.ref a] h Q = WP d 1920 0 [.ref a] [] h Q := Run.eqn 1 rfl rfl
theorem w_1920_0 : WP d 1920 0 ls st h Q = wpL (kC d) (kJ d 1920 Q) Q 0 [.aload 0, .invokedynamic 5, .aload 0, .ldc_w 30, .newarray .int, .putfield 2112, .return_] ls st h := WP.eqn c_1920_0 0 rfl rfl rfl
theorem R_1930 {a : Nat} {x0 : Int32} {x1 : Int32} : Run d 1930 [.ref a, .int x0, .int x1] h Q = WP d 1930 0 [.ref a, .int x0, .int x1] [] h Q := Run.eqn 3 rfl rfl
theorem w_1930_0 : WP d 1930 0 ls st h Q = wpL (kC d) (kJ d 1930 Q) Q 0 [.aload 0, .iload 1, .putfield 66, .aload 0, .iload 2, .putfield 67, .aload 0, .ldc_w 0, .putfield 3140, .return_] ls st h := WP.eqn c_1930_0 0 rfl rfl rfl
theorem R_1937 {a : Nat} {x0 : Int32} : Run d 1937 [.ref a, .int x0] h Q = WP d 1937 0 [.ref a, .int x0] [] h Q := Run.eqn 2 rfl rfl
theorem w_1937_0 : WP d 1937 0 ls st h Q = wpL (kC d) (kJ d 1937 Q) Q 0 [.aload 0, .getfield 3140, .ifCond .ne 1, .aload 0, .getfield 65, .ldc_w 30, .if_icmp .ge 1, .aload 0, .getfield 2112, .aload 0, .getfield 65, .iload 1, .iastore, .aload 0, .dup, .getfield 65, .ldc_w 1, .iadd, .putfield 65, .jsr 1] ls st h := WP.eqn c_1937_0 0 rfl rfl rfl
theorem w_1937_1 : WP d 1937 1 ls st h Q = wpL (kC d) (kJ d 1937 Q) Q 0 [.return_] ls st h := WP.eqn c_1937_1 0 rfl rfl rfl
theorem R_1946 {a : Nat} {x0 : Int32} {x1 : Int32} : Run d 1946 [.ref a, .int x0, .int x1] h Q = WP d 1946 0 [.ref a, .int x0, .int x1] [] h Q := Run.eqn 3 rfl rfl
theorem w_1946_0 : WP d 1946 0 ls st h Q = wpL (kC d) (kJ d 1946 Q) Q 0 [.aload 0, .invokedynamic 5, .aload 0, .iload 1, .putfield 512, .aload 0, .ldc_w 0, .iload 2, .invokedynamic 3, .newarray .long, .putfield 2561, .return_] ls st h := WP.eqn c_1946_0 0 rfl rfl rfl
theorem R_1953 {a : Nat} {x0 : Int32} : Run d 1953 [.ref a, .int x0] h Q = WP d 1953 0 [.ref a, .int x0] [] h Q := Run.eqn 2 rfl rfl
theorem w_1953_0 : WP d 1953 0 ls st h Q = wpL (kC d) (kJ d 1953 Q) Q 3 [.aload 0, .getfield 512, .ifCond .ne 1, .iload 1, .i2b, .i2l, .lreturn] ls st h := WP.eqn c_1953_0 3 rfl rfl rfl
theorem w_1953_1 : WP d 1953 1 ls st h Q = wpL (kC d) (kJ d 1953 Q) Q 3 [.aload 0, .getfield 512, .ldc_w 1, .if_icmp .ne 2, .iload 1, .i2s, .i2l, .goto 3] ls st h := WP.eqn c_1953_1 3 rfl rfl rfl
theorem w_1953_2 : WP d 1953 2 ls st h Q = wpL (kC d) (kJ d 1953 Q) Q 3 [.iload 1, .i2l, .jsr 3] ls st h := WP.eqn c_1953_2 3 rfl rfl rfl
theorem w_1953_3 : WP d 1953 3 ls st h Q = wpL (kC d) (kJ d 1953 Q) Q 3 [.lreturn] ls st h := WP.eqn c_1953_3 3 rfl rfl rfl
theorem R_1960 {a : Nat} : Run d 1960 [.ref a] h Q = WP d 1960 0 [.ref a] [] h Q := Run.eqn 1 rfl rfl
theorem w_1960_0 : WP d 1960 0 ls st h Q = wpL (kC d) (kJ d 1960 Q) Q 0 [.aload 0, .invokedynamic 5, .return_] ls st h := WP.eqn c_1960_0 0 rfl rfl rfl
theorem R_1971 {a : Nat} {x0 : Int32} {x1 : Int32} {x2 : Int32} : Run d 1971 [.ref a, .int x0, .int x1, .int x2] h Q = WP d 1971 0 [.ref a, .int x0, .int x1, .int x2] [] h Q := Run.eqn 4 rfl rfl
theorem w_1971_0 : WP d 1971 0 ls st h Q = wpL (kC d) (kJ d 1971 Q) Q 1 [.iload 1, .ldc_w 4, .idiv, .ireturn] ls st h := WP.eqn c_1971_0 1 rfl rfl rfl
theorem R_1978 {a : Nat} {x0 : Int32} {x1 : Int32} : Run d 1978 [.ref a, .int x0, .int x1] h Q = WP d 1978 0 [.ref a, .int x0, .int x1] [] h Q := Run.eqn 3 rfl rfl
theorem w_1978_0 : WP d 1978 0 ls st h Q = wpL (kC d) (kJ d 1978 Q) Q 1 [.ldc_w 1, .ireturn] ls st h := WP.eqn c_1978_0 1 rfl rfl rfl
theorem R_1985 {a : Nat} {x0 : Int32} : Run d 1985 [.ref a, .int x0] h Q = WP d 1985 0 [.ref a, .int x0] [] h Q := Run.eqn 2 rfl rfl
theorem w_1985_0 : WP d 1985 0 ls st h Q = wpL (kC d) (kJ d 1985 Q) Q 2 [.iload 1, .ifCond .ne 1, .ldc_w 1, .goto 2] ls st h := WP.eqn c_1985_0 2 rfl rfl rfl
theorem w_1985_1 : WP d 1985 1 ls st h Q = wpL (kC d) (kJ d 1985 Q) Q 2 [.ldc_w 0, .jsr 2] ls st h := WP.eqn c_1985_1 2 rfl rfl rfl
theorem w_1985_2 : WP d 1985 2 ls st h Q = wpL (kC d) (kJ d 1985 Q) Q 2 [.ireturn] ls st h := WP.eqn c_1985_2 2 rfl rfl rfl
theorem R_1994 {a : Nat} {x0 : Nat} {x1 : Int32} : Run d 1994 [.ref a, .ref x0, .int x1] h Q = WP d 1994 0 [.ref a, .ref x0, .int x1] [] h Q := Run.eqn 3 rfl rfl
theorem w_1994_0 : WP d 1994 0 ls st h Q = wpL (kC d) (kJ d 1994 Q) Q 1 [.aload 1, .ldc_w 10, .invokevirtual 11937, .iload 2, .aload 1, .getfield 66, .isub, .ireturn] ls st h := WP.eqn c_1994_0 1 rfl rfl rfl
theorem R_2002 {a : Nat} {x0 : Nat} {x1 : Int32} : Run d 2002 [.ref a, .ref x0, .int x1] h Q = WP d 2002 0 [.ref a, .ref x0, .int x1] [] h Q := Run.eqn 3 rfl rfl
theorem w_2002_0 : WP d 2002 0 ls st h Q = wpL (kC d) (kJ d 2002 Q) Q 1 [.aload 1, .ldc_w 11, .invokevirtual 11937, .aload 0, .aload 1, .iload 2, .invokevirtual 10, .ldc_w 3, .imul, .ireturn] ls st h := WP.eqn c_2002_0 1 rfl rfl rfl
theorem R_2010 {a : Nat} {x0 : Nat} {x1 : Int32} : Run d 2010 [.ref a, .ref x0, .int x1] h Q = WP d 2010 0 [.ref a, .ref x0, .int x1, .retAddr 0] [] h Q := Run.eqn 4 rfl rfl
theorem w_2010_0 : WP d 2010 0 ls st h Q = wpL (kC d) (kJ d 2010 Q) Q 1 [.aload 1, .ldc_w 12, .invokevirtual 11937, .aload 1, .getfield 66, .aload 1, .getfield 67, .isub, .istore 3, .iload 3, .ifCond .ne 1, .aload 1, .ldc_w 1, .putfield 3140, .ldc_w 0, .ireturn] ls st h := WP.eqn c_2010_0 1 rfl rfl rfl
theorem w_2010_1 : WP d 2010 1 ls st h Q = wpL (kC d) (kJ d 2010 Q) Q 1 [.iload 2, .iload 3, .idiv, .ireturn] ls st h := WP.eqn c_2010_1 1 rfl rfl rfl
theorem R_2018 {a : Nat} {x0 : Nat} {x1 : Int32} : Run d 2018 [.ref a, .ref x0, .int x1] h Q = WP d 2018 0 [.ref a, .ref x0, .int x1] [] h Q := Run.eqn 3 rfl rfl
theorem w_2018_0 : WP d 2018 0 ls st h Q = wpL (kC d) (kJ d 2018 Q) Q 1 [.aload 1, .ldc_w 13, .invokevirtual 11937, .aload 0, .aload 1, .iload 2, .invokevirtual 18, .aload 1, .getfield 67, .iadd, .ireturn] ls st h := WP.eqn c_2018_0 1 rfl rfl rfl
theorem R_2024 {a : Nat} : Run d 2024 [.ref a] h Q = WP d 2024 0 [.ref a] [] h Q := Run.eqn 1 rfl rfl
theorem w_2024_0 : WP d 2024 0 ls st h Q = wpL (kC d) (kJ d 2024 Q) Q 0 [.aload 0, .invokespecial 1960, .return_] ls st h := WP.eqn c_2024_0 0 rfl rfl rfl
theorem R_2035 {a : Nat} {x0 : Int32} {x1 : Int32} {x2 : Int32} : Run d 2035 [.ref a, .int x0, .int x1, .int x2] h Q = WP d 2035 0 [.ref a, .int x0, .int x1, .int x2] [] h Q := Run.eqn 4 rfl rfl
theorem w_2035_0 : WP d 2035 0 ls st h Q = wpL (kC d) (kJ d 2035 Q) Q 1 [.aload 0, .iload 1, .iload 2, .iload 3, .invokespecial 1971, .ldc_w 2, .imul, .ireturn] ls st h := WP.eqn c_2035_0 1 rfl rfl rfl
theorem R_2042 {a : Nat} {x0 : Int32} {x1 : Int32} : Run d 2042 [.ref a, .int x0, .int x1] h Q = WP d 2042 0 [.ref a, .int x0, .int x1] [] h Q := Run.eqn 3 rfl rfl
theorem w_2042_0 : WP d 2042 0 ls st h Q = wpL (kC d) (kJ d 2042 Q) Q 1 [.ldc_w 0, .ireturn] ls st h := WP.eqn c_2042_0 1 rfl rfl rfl
theorem R_2049 {a : Nat} {x0 : Int32} : Run d 2049 [.ref a, .int x0] h Q = WP d 2049 0 [.ref a, .int x0] [] h Q := Run.eqn 2 rfl rfl
theorem w_2049_0 : WP d 2049 0 ls st h Q = wpL (kC d) (kJ d 2049 Q) Q 2 [.iload 1, .ldc_w 1, .if_icmp .eq 1, .aload 0, .iload 1, .invokespecial 1985, .ifCond .eq 2, .jsr 1] ls st h := WP.eqn c_2049_0 2 rfl rfl rfl
theorem w_2049_1 : WP d 2049 1 ls st h Q = wpL (kC d) (kJ d 2049 Q) Q 2 [.ldc_w 1, .goto 3] ls st h := WP.eqn c_2049_1 2 rfl rfl rfl
theorem w_2049_2 : WP d 2049 2 ls st h Q = wpL (kC d) (kJ d 2049 Q) Q 2 [.ldc_w 0, .jsr 3] ls st h := WP.eqn c_2049_2 2 rfl rfl rfl
theorem w_2049_3 : WP d 2049 3 ls st h Q = wpL (kC d) (kJ d 2049 Q) Q 2 [.ireturn] ls st h := WP.eqn c_2049_3 2 rfl rfl rfl
theorem R_2058 {a : Nat} {x0 : Nat} {x1 : Int32} : Run d 2058 [.ref a, .ref x0, .int x1] h Q = WP d 2058 0 [.ref a, .ref x0, .int x1] [] h Q := Run.eqn 3 rfl rfl
theorem w_2058_0 : WP d 2058 0 ls st h Q = wpL (kC d) (kJ d 2058 Q) Q 1 [.aload 1, .ldc_w 20, .invokevirtual 11937, .aload 0, .aload 1, .iload 2, .invokespecial 2002, .aload 1, .getfield 66, .isub, .ireturn] ls st h := WP.eqn c_2058_0 1 rfl rfl rfl
theorem R_2064 {a : Nat} : Run d 2064 [.ref a] h Q = WP d 2064 0 [.ref a] [] h Q := Run.eqn 1 rfl rfl
theorem w_2064_0 : WP d 2064 0 ls st h Q = wpL (kC d) (kJ d 2064 Q) Q 0 [.aload 0, .invokespecial 1960, .return_] ls st h := WP.eqn c_2064_0 0 rfl rfl rfl
theorem R_2075 {a : Nat} {x0 : Int32} {x1 : Int32} {x2 : Int32} : Run d 2075 [.ref a, .int x0, .int x1, .int x2] h Q = WP d 2075 0 [.ref a, .int x0, .int x1, .int x2] [] h Q := Run.eqn 4 rfl rfl
theorem w_2075_0 : WP d 2075 0 ls st h Q = wpL (kC d) (kJ d 2075 Q) Q 1 [.aload 0, .iload 1, .iload 2, .iload 3, .invokespecial 1971, .iload 3, .iadd, .ireturn] ls st h := WP.eqn c_2075_0 1 rfl rfl rfl
theorem R_2082 {a : Nat} {x0 : Int32} {x1 : Int32} : Run d 2082 [.ref a, .int x0, .int x1] h Q = WP d 2082 0 [.ref a, .int x0, .int x1] [] h Q := Run.eqn 3 rfl rfl
theorem w_2082_0 : WP d 2082 0 ls st h Q = wpL (kC d) (kJ d 2082 Q) Q 1 [.aload 0, .iload 1, .iload 2, .invokespecial 1978, .ldc_w 1, .iadd, .ireturn] ls st h := WP.eqn c_2082_0 1 rfl rfl rfl
theorem R_2089 {a : Nat} {x0 : Int32} : Run d 2089 [.ref a, .int x0] h Q = WP d 2089 0 [.ref a, .int x0] [] h Q := Run.eqn 2 rfl rfl
theorem w_2089_0 : WP d 2089 0 ls st h Q = wpL (kC d) (kJ d 2089 Q) Q 2 [.iload 1, .ldc_w 2, .if_icmp .eq 1, .aload 0, .iload 1, .invokespecial 1985, .ifCond .eq 2, .jsr 1] ls st h := WP.eqn c_2089_0 2 rfl rfl rfl
theorem w_2089_1 : WP d 2089 1 ls st h Q = wpL (kC d) (kJ d 2089 Q) Q 2 [.ldc_w 1, .goto 3] ls st h := WP.eqn c_2089_1 2 rfl rfl rfl
theorem w_2089_2 : WP d 2089 2 ls st h Q = wpL (kC d) (kJ d 2089 Q) Q 2 [.ldc_w 0, .jsr 3] ls st h := WP.eqn c_2089_2 2 rfl rfl rfl
theorem w_2089_3 : WP d 2089 3 ls st h Q = wpL (kC d) (kJ d 2089 Q) Q 2 [.ireturn] ls st h := WP.eqn c_2089_3 2 rfl rfl rfl
theorem R_2098 {a : Nat} {x0 : Nat} {x1 : Int32} : Run d 2098 [.ref a, .ref x0, .int x1] h Q = WP d 2098 0 [.ref a, .ref x0, .int x1] [] h Q := Run.eqn 3 rfl rfl
theorem w_2098_0 : WP d 2098 0 ls st h Q = wpL (kC d) (kJ d 2098 Q) Q 1 [.aload 1, .ldc_w 30, .invokevirtual 11937, .aload 0, .aload 1, .iload 2, .invokespecial 1994, .aload 1, .getfield 67, .ixor, .ireturn] ls st h := WP.eqn c_2098_0 1 rfl rfl rfl
theorem R_2106 {a : Nat} {x0 : Nat} {x1 : Int32} : Run d 2106 [.ref a, .ref x0, .int x1] h Q = WP d 2106 0 [.ref a, .ref x0, .int x1] [] h Q := Run.eqn 3 rfl rfl
theorem w_2106_0 : WP d 2106 0 ls st h Q = wpL (kC d) (kJ d 2106 Q) Q 1 [.aload 1, .ldc_w 31, .invokevirtual 11937, .aload 0, .aload 1, .iload 2, .invokespecial 2018, .aload 0, .aload 1, .aload 1, .getfield 67, .invokevirtual 58, .iadd, .ireturn] ls st h := WP.eqn c_2106_0 1 rfl rfl rfl
theorem R_2112 {a : Nat} : Run d 2112 [.ref a] h Q = WP d 2112 0 [.ref a] [] h Q := Run.eqn 1 rfl rfl
theorem w_2112_0 : WP d 2112 0 ls st h Q = wpL (kC d) (kJ d 2112 Q) Q 0 [.aload 0, .invokespecial 2024, .return_] ls st h := WP.eqn c_2112_0 0 rfl rfl rfl
theorem R_2123 {a : Nat} {x0 : Int32} {x1 : Int32} {x2 : Int32} : Run d 2123 [.ref a, .int x0, .int x1, .int x2] h Q = WP d 2123 0 [.ref a, .int x0, .int x1, .int x2] [] h Q := Run.eqn 4 rfl rfl
theorem w_2123_0 : WP d 2123 0 ls st h Q = wpL (kC d) (kJ d 2123 Q) Q 1 [.iload 2, .ldc_w 2, .if_icmp .ne 1, .ldc_w 0, .goto 2] ls st h := WP.eqn c_2123_0 1 rfl rfl rfl
theorem w_2123_1 : WP d 2123 1 ls st h Q = wpL (kC d) (kJ d 2123 Q) Q 1 [.aload 0, .iload 1, .iload 2, .iload 3, .invokespecial 2035, .jsr 2] ls st h := WP.eqn c_2123_1 1 rfl rfl rfl
theorem w_2123_2 : WP d 2123 2 ls st h Q = wpL (kC d) (kJ d 2123 Q) Q 1 [.ireturn] ls st h := WP.eqn c_2123_2 1 rfl rfl rfl
theorem R_2130 {a : Nat} {x0 : Int32} {x1 : Int32} : Run d 2130 [.ref a, .int x0, .int x1] h Q = WP d 2130 0 [.ref a, .int x0, .int x1] [] h Q := Run.eqn 3 rfl rfl
theorem w_2130_0 : WP d 2130 0 ls st h Q = wpL (kC d) (kJ d 2130 Q) Q 1 [.aload 0, .iload 1, .iload 2, .invokespecial 2042, .iload 2, .ldc_w 3, .if_icmp .ge 1, .ldc_w 1, .goto 2] ls st h := WP.eqn c_2130_0 1 rfl rfl rfl
theorem w_2130_1 : WP d 2130 1 ls st h Q = wpL (kC d) (kJ d 2130 Q) Q 1 [.ldc_w 0, .jsr 2] ls st h := WP.eqn c_2130_1 1 rfl rfl rfl
theorem w_2130_2 : WP d 2130 2 ls st h Q = wpL (kC d) (kJ d 2130 Q) Q 1 [.iadd, .ireturn] ls st h := WP.eqn c_2130_2 1 rfl rfl rfl
theorem R_2137 {a : Nat} {x0 : Int32} : Run d 2137 [.ref a, .int x0] h Q = WP d 2137 0 [.ref a, .int x0] [] h Q := Run.eqn 2 rfl rfl
theorem w_2137_0 : WP d 2137 0 ls st h Q = wpL (kC d) (kJ d 2137 Q) Q 2 [.iload 1, .ldc_w 3, .if_icmp .eq 1, .aload 0, .iload 1, .invokespecial 2049, .ifCond .eq 2, .jsr 1] ls st h := WP.eqn c_2137_0 2 rfl rfl rfl
theorem w_2137_1 : WP d 2137 1 ls st h Q = wpL (kC d) (kJ d 2137 Q) Q 2 [.ldc_w 1, .goto 3] ls st h := WP.eqn c_2137_1 2 rfl rfl rfl
theorem w_2137_2 : WP d 2137 2 ls st h Q = wpL (kC d) (kJ d 2137 Q) Q 2 [.ldc_w 0, .jsr 3] ls st h := WP.eqn c_2137_2 2 rfl rfl rfl
theorem w_2137_3 : WP d 2137 3 ls st h Q = wpL (kC d) (kJ d 2137 Q) Q 2 [.ireturn] ls st h := WP.eqn c_2137_3 2 rfl rfl rfl
theorem R_2146 {a : Nat} {x0 : Nat} {x1 : Int32} : Run d 2146 [.ref a, .ref x0, .int x1] h Q = WP d 2146 0 [.ref a, .ref x0, .int x1] [] h Q := Run.eqn 3 rfl rfl
theorem w_2146_0 : WP d 2146 0 ls st h Q = wpL (kC d) (kJ d 2146 Q) Q 1 [.aload 1, .ldc_w 51, .invokevirtual 11937, .aload 0, .aload 1, .iload 2, .invokespecial 1994, .aload 1, .getfield 66, .iadd, .ireturn] ls st h := WP.eqn c_2146_0 1 rfl rfl rfl
theorem R_2154 {a : Nat} {x0 : Nat} {x1 : Int32} : Run d 2154 [.ref a, .ref x0, .int x1] h Q = WP d 2154 0 [.ref a, .ref x0, .int x1] [] h Q := Run.eqn 3 rfl rfl
theorem w_2154_0 : WP d 2154 0 ls st h Q = wpL (kC d) (kJ d 2154 Q) Q 1 [.aload 1, .ldc_w 50, .invokevirtual 11937, .aload 0, .aload 1, .iload 2, .ldc_w 5, .iadd, .invokespecial 2010, .ldc_w 2, .imul, .ireturn] ls st h := WP.eqn c_2154_0 1 rfl rfl rfl
theorem R_2160 {a : Nat} : Run d 2160 [.ref a] h Q = WP d 2160 0 [.ref a] [] h Q := Run.eqn 1 rfl rfl
theorem w_2160_0 : WP d 2160 0 ls st h Q = wpL (kC d) (kJ d 2160 Q) Q 0 [.aload 0, .invokespecial 2064, .return_] ls st h := WP.eqn c_2160_0 0 rfl rfl rfl
theorem R_2171 {a : Nat} {x0 : Int32} {x1 : Int32} {x2 : Int32} : Run d 2171 [.ref a, .int x0, .int x1, .int x2] h Q = WP d 2171 0 [.ref a, .int x0, .int x1, .int x2] [] h Q := Run.eqn 4 rfl rfl
theorem w_2171_0 : WP d 2171 0 ls st h Q = wpL (kC d) (kJ d 2171 Q) Q 1 [.aload 0, .iload 1, .iload 2, .iload 3, .invokespecial 2075, .ldc_w 2, .imul, .ireturn] ls st h := WP.eqn c_2171_0 1 rfl rfl rfl
theorem R_2178 {a : Nat} {x0 : Int32} {x1 : Int32} : Run d 2178 [.ref a, .int x0, .int x1] h Q = WP d 2178 0 [.ref a, .int x0, .int x1] [] h Q := Run.eqn 3 rfl rfl
theorem w_2178_0 : WP d 2178 0 ls st h Q = wpL (kC d) (kJ d 2178 Q) Q 1 [.aload 0, .iload 1, .iload 2, .invokespecial 2082, .iload 1, .iadd, .ireturn] ls st h := WP.eqn c_2178_0 1 rfl rfl rfl
theorem R_2185 {a : Nat} {x0 : Int32} : Run d 2185 [.ref a, .int x0] h Q = WP d 2185 0 [.ref a, .int x0] [] h Q := Run.eqn 2 rfl rfl
theorem w_2185_0 : WP d 2185 0 ls st h Q = wpL (kC d) (kJ d 2185 Q) Q 2 [.iload 1, .ldc_w 4, .if_icmp .eq 1, .aload 0, .iload 1, .invokespecial 2089, .ifCond .eq 2, .jsr 1] ls st h := WP.eqn c_2185_0 2 rfl rfl rfl
theorem w_2185_1 : WP d 2185 1 ls st h Q = wpL (kC d) (kJ d 2185 Q) Q 2 [.ldc_w 1, .goto 3] ls st h := WP.eqn c_2185_1 2 rfl rfl rfl
theorem w_2185_2 : WP d 2185 2 ls st h Q = wpL (kC d) (kJ d 2185 Q) Q 2 [.ldc_w 0, .jsr 3] ls st h := WP.eqn c_2185_2 2 rfl rfl rfl
theorem w_2185_3 : WP d 2185 3 ls st h Q = wpL (kC d) (kJ d 2185 Q) Q 2 [.ireturn] ls st h := WP.eqn c_2185_3 2 rfl rfl rfl
theorem R_2194 {a : Nat} {x0 : Nat} {x1 : Int32} : Run d 2194 [.ref a, .ref x0, .int x1] h Q = WP d 2194 0 [.ref a, .ref x0, .int x1] [] h Q := Run.eqn 3 rfl rfl
theorem w_2194_0 : WP d 2194 0 ls st h Q = wpL (kC d) (kJ d 2194 Q) Q 1 [.aload 1, .ldc_w 40, .invokevirtual 11937, .aload 0, .aload 1, .iload 2, .invokespecial 2098, .ldc_w 2, .imul, .ireturn] ls st h := WP.eqn c_2194_0 1 rfl rfl rfl
theorem R_2202 {a : Nat} {x0 : Nat} {x1 : Int32} : Run d 2202 [.ref a, .ref x0, .int x1] h Q = WP d 2202 0 [.ref a, .ref x0, .int x1] [] h Q := Run.eqn 3 rfl rfl
theorem w_2202_0 : WP d 2202 0 ls st h Q = wpL (kC d) (kJ d 2202 Q) Q 1 [.aload 1, .ldc_w 41, .invokevirtual 11937, .aload 0, .aload 1, .iload 2, .invokespecial 2002, .aload 0, .aload 1, .aload 1, .getfield 66, .invokevirtual 32194, .isub, .ireturn] ls st h := WP.eqn c_2202_0 1 rfl rfl rfl
theorem R_2208 {a : Nat} : Run d 2208 [.ref a] h Q = WP d 2208 0 [.ref a] [] h Q := Run.eqn 1 rfl rfl
theorem w_2208_0 : WP d 2208 0 ls st h Q = wpL (kC d) (kJ d 2208 Q) Q 0 [.aload 0, .invokespecial 1960, .return_] ls st h := WP.eqn c_2208_0 0 rfl rfl rfl
theorem R_2219 {a : Nat} {x0 : Int32} {x1 : Int32} {x2 : Int32} : Run d 2219 [.ref a, .int x0, .int x1, .int x2] h Q = WP d 2219 0 [.ref a, .int x0, .int x1, .int x2] [] h Q := Run.eqn 4 rfl rfl
theorem w_2219_0 : WP d 2219 0 ls st h Q = wpL (kC d) (kJ d 2219 Q) Q 1 [.iload 2, .iload 3, .ldc_w 5, .irem, .if_icmp .ne 1, .iload 1, .goto 2] ls st h := WP.eqn c_2219_0 1 rfl rfl rfl
theorem w_2219_1 : WP d 2219 1 ls st h Q = wpL (kC d) (kJ d 2219 Q) Q 1 [.aload 0, .iload 1, .iload 2, .iload 3, .invokespecial 1971, .jsr 2] ls st h := WP.eqn c_2219_1 1 rfl rfl rfl
theorem w_2219_2 : WP d 2219 2 ls st h Q = wpL (kC d) (kJ d 2219 Q) Q 1 [.ireturn] ls st h := WP.eqn c_2219_2 1 rfl rfl rfl
theorem R_2226 {a : Nat} {x0 : Int32} {x1 : Int32} : Run d 2226 [.ref a, .int x0, .int x1] h Q = WP d 2226 0 [.ref a, .int x0, .int x1] [] h Q := Run.eqn 3 rfl rfl
theorem w_2226_0 : WP d 2226 0 ls st h Q = wpL (kC d) (kJ d 2226 Q) Q 1 [.ldc_w 0, .ireturn] ls st h := WP.eqn c_2226_0 1 rfl rfl rfl
theorem R_2233 {a : Nat} {x0 : Int32} : Run d 2233 [.ref a, .int x0] h Q = WP d 2233 0 [.ref a, .int x0] [] h Q := Run.eqn 2 rfl rfl
theorem w_2233_0 : WP d 2233 0 ls st h Q = wpL (kC d) (kJ d 2233 Q) Q 2 [.iload 1, .ldc_w 5, .if_icmp .eq 1, .aload 0, .iload 1, .invokespecial 1985, .ifCond .eq 2, .jsr 1] ls st h := WP.eqn c_2233_0 2 rfl rfl rfl
theorem w_2233_1 : WP d 2233 1 ls st h Q = wpL (kC d) (kJ d 2233 Q) Q 2 [.ldc_w 1, .goto 3] ls st h := WP.eqn c_2233_1 2 rfl rfl rfl
theorem w_2233_2 : WP d 2233 2 ls st h Q = wpL (kC d) (kJ d 2233 Q) Q 2 [.ldc_w 0, .jsr 3] ls st h := WP.eqn c_2233_2 2 rfl rfl rfl
theorem w_2233_3 : WP d 2233 3 ls st h Q = wpL (kC d) (kJ d 2233 Q) Q 2 [.ireturn] ls st h := WP.eqn c_2233_3 2 rfl rfl rfl
theorem R_2242 {a : Nat} {x0 : Nat} {x1 : Int32} : Run d 2242 [.ref a, .ref x0, .int x1] h Q = WP d 2242 0 [.ref a, .ref x0, .int x1] [] h Q := Run.eqn 3 rfl rfl
theorem w_2242_0 : WP d 2242 0 ls st h Q = wpL (kC d) (kJ d 2242 Q) Q 1 [.aload 1, .ldc_w 61, .invokevirtual 11937, .aload 0, .aload 1, .iload 2, .invokespecial 2010, .aload 0, .aload 1, .aload 1, .getfield 67, .invokevirtual 66, .ixor, .ireturn] ls st h := WP.eqn c_2242_0 1 rfl rfl rfl
theorem R_2250 {a : Nat} {x0 : Nat} {x1 : Int32} : Run d 2250 [.ref a, .ref x0, .int x1] h Q = WP d 2250 0 [.ref a, .ref x0, .int x1] [] h Q := Run.eqn 3 rfl rfl
theorem w_2250_0 : WP d 2250 0 ls st h Q = wpL (kC d) (kJ d 2250 Q) Q 1 [.aload 1, .ldc_w 60, .invokevirtual 11937, .ldc_w 7, .aload 0, .aload 1, .iload 2, .invokespecial 2018, .isub, .ireturn] ls st h := WP.eqn c_2250_0 1 rfl rfl rfl
theorem R_2257 {a : Nat} {x0 : Nat} : Run d 2257 [.ref a, .ref x0] h Q = WP d 2257 0 [.ref a, .ref x0, .retAddr 0] [] h Q := Run.eqn 3 rfl rfl
theorem w_2257_0 : WP d 2257 0 ls st h Q = wpL (kC d) (kJ d 2257 Q) Q 0 [.aload 0, .invokedynamic 5, .aload 0, .ldc_w 5, .anewarray 112, .putfield 2432, .aload 0, .ldc_w 4, .newarray .int, .putfield 2433, .aload 0, .ldc_w 4, .newarray .int, .putfield 2434, .ldc_w 0, .istore 2, .jsr 1] ls st h := WP.eqn c_2257_0 0 rfl rfl rfl
theorem w_2257_1 : WP d 2257 1 ls st h Q = wpL (kC d) (kJ d 2257 Q) Q 0 [.iload 2, .aload 0, .getfield 2432, .arraylength, .if_icmp .ge 2, .aload 0, .getfield 2432, .iload 2, .new 722, .dup, .aload 1, .invokespecial 1569, .aastore, .iinc 2 1, .goto 1] ls st h := WP.eqn c_2257_1 0 rfl rfl rfl
theorem w_2257_2 : WP d 2257 2 ls st h Q = wpL (kC d) (kJ d 2257 Q) Q 0 [.return_] ls st h := WP.eqn c_2257_2 0 rfl rfl rfl
theorem R_2265 {a : Nat} {x0 : Int32} : Run d 2265 [.ref a, .int x0] h Q = WP d 2265 0 [.ref a, .int x0] [] h Q := Run.eqn 2 rfl rfl
theorem w_2265_0 : WP d 2265 0 ls st h Q = wpL (kC d) (kJ d 2265 Q) Q 0 [.iload 1, .aload 0, .getfield 389, .if_icmp .le 1, .aload 0, .iload 1, .putfield 389, .aload 0, .getfield 2433, .ldc_w 0, .aload 0, .getfield 2434, .ldc_w 0, .ldc_w 4, .invokedynamic 0, .jsr 1] ls st h := WP.eqn c_2265_0 0 rfl rfl rfl
theorem w_2265_1 : WP d 2265 1 ls st h Q = wpL (kC d) (kJ d 2265 Q) Q 0 [.return_] ls st h := WP.eqn c_2265_1 0 rfl rfl rfl
theorem R_2273 {x0 : Int32} : Run d 2273 [.int x0] h Q = WP d 2273 0 [.int x0] [] h Q := Run.eqn 1 rfl rfl
theorem w_2273_0 : WP d 2273 0 ls st h Q = wpL (kC d) (kJ d 2273 Q) Q 1 [.iload 0, .iload 0, .ldc_w 1, .iushr, .ldc_w 1431655765, .iand, .isub, .istore 0, .iload 0, .ldc_w 858993459, .iand, .iload 0, .ldc_w 2, .iushr, .ldc_w 858993459, .iand, .iadd, .istore 0, .iload 0, .iload 0, .ldc_w 4, .iushr, .iadd, .ldc_w 252645135, .iand, .istore 0, .iload 0, .iload 0, .ldc_w 8, .iushr, .iadd, .istore 0, .iload 0, .iload 0, .ldc_w 16, .iushr, .iadd, .istore 0, .iload 0, .ldc_w 63, .iand, .ireturn] ls st h := WP.eqn c_2273_0 1 rfl rfl rfl
theorem R_2281 {x0 : Nat} : Run d 2281 [.ref x0] h Q = WP d 2281 0 [.ref x0, .retAddr 0, .retAddr 0, .retAddr 0] [] h Q := Run.eqn 4 rfl rfl
theorem w_2281_0 : WP d 2281 0 ls st h Q = wpL (kC d) (kJ d 2281 Q) Q 2 [.new 781, .dup, .invokespecial 0, .astore 1, .new 868, .dup, .invokespecial 584, .astore 2, .ldc_w 0, .istore 3, .jsr 1] ls st h := WP.eqn c_2281_0 2 rfl rfl rfl
theorem w_2281_1 : WP d 2281 1 ls st h Q = wpL (kC d) (kJ d 2281 Q) Q 2 [.iload 3, .aload 0, .arraylength, .ldc_w 5, .isub, .if_icmp .gt 54, .aload 0, .iload 3, .iaload, .ldc_w 63, .iand, .tableswitch 53 0 50 #[2, 3, 4, 5, 6, 7, 8, 9, 10, 11, 12, 13, 14, 15, 16, 17, 18, 19, 20, 21, 22, 23, 24, 25, 26, 27, 28, 29, 30, 31, 32, 33, 34, 35, 36, 37, 38, 39, 40, 41, 42, 43, 44, 45, 46, 47, 48, 49, 50, 51, 52]] ls st h := WP.eqn c_2281_1 2 rfl rfl rfl
theorem w_2281_2 : WP d 2281 2 ls st h Q = wpL (kC d) (kJ d 2281 Q) Q 2 [.aload 1, .aload 0, .iload 3, .ldc_w 1, .iadd, .iaload, .i2l, .ldc_w 32, .lshl, .aload 0, .iload 3, .ldc_w 2, .iadd, .iaload, .i2l, .ldc2_w 4294967295, .land, .lor, .aload 0, .iload 3, .ldc_w 3, .iadd, .iaload, .invokevirtual 120018, .aload 2, .aload 0, .iload 3, .ldc_w 1, .iadd, .iaload, .i2l, .ldc_w 32, .lshl, .aload 0, .iload 3, .ldc_w 2, .iadd, .iaload, .i2l, .ldc2_w 4294967295, .land, .lor, .aload 0, .iload 3, .ldc_w 3, .iadd, .iaload, .invokevirtual 130602, .if_icmp .eq 53, .ldc_w 0, .ireturn] ls st h := WP.eqn c_2281_2 2 rfl rfl rfl
theorem w_2281_3 : WP d 2281 3 ls st h Q = wpL (kC d) (kJ d 2281 Q) Q 2 [.aload 1, .invokevirtual 120032, .aload 2, .invokevirtual 130616, .if_icmp .eq 53, .ldc_w 0, .ireturn] ls st h := WP.eqn c_2281_3 2 rfl rfl rfl
theorem w_2281_4 : WP d 2281 4 ls st h Q = wpL (kC d) (kJ d 2281 Q) Q 2 [.aload 1, .aload 0, .iload 3, .ldc_w 1, .iadd, .iaload, .aload 0, .iload 3, .ldc_w 2, .iadd, .iaload, .invokevirtual 120042, .aload 2, .aload 0, .iload 3, .ldc_w 1, .iadd, .iaload, .aload 0, .iload 3, .ldc_w 2, .iadd, .iaload, .invokevirtual 130770, .if_icmp .eq 53, .ldc_w 0, .ireturn] ls st h := WP.eqn c_2281_4 2 rfl rfl rfl
theorem w_2281_5 : WP d 2281 5 ls st h Q = wpL (kC d) (kJ d 2281 Q) Q 2 [.aload 1, .aload 0, .iload 3, .ldc_w 1, .iadd, .iaload, .invokevirtual 120057, .aload 2, .aload 0, .iload 3, .ldc_w 1, .iadd, .iaload, .invokevirtual 130785, .if_icmp .eq 53, .ldc_w 0, .ireturn] ls st h := WP.eqn c_2281_5 2 rfl rfl rfl
theorem w_2281_6 : WP d 2281 6 ls st h Q = wpL (kC d) (kJ d 2281 Q) Q 2 [.aload 1, .aload 0, .iload 3, .ldc_w 1, .iadd, .iaload, .aload 0, .iload 3, .ldc_w 2, .iadd, .iaload, .invokevirtual 120066, .aload 2, .aload 0, .iload 3, .ldc_w 1, .iadd, .iaload, .aload 0, .iload 3, .ldc_w 2, .iadd, .iaload, .invokevirtual 130794, .if_icmp .eq 53, .ldc_w 0, .ireturn] ls st h := WP.eqn c_2281_6 2 rfl rfl rfl
theorem w_2281_7 : WP d 2281 7 ls st h Q = wpL (kC d) (kJ d 2281 Q) Q 2 [.aload 1, .aload 0, .iload 3, .ldc_w 1, .iadd, .iaload, .aload 0, .iload 3, .ldc_w 2, .iadd, .iaload, .invokevirtual 120082, .aload 2, .aload 0, .iload 3, .ldc_w 1, .iadd, .iaload, .aload 0, .iload 3, .ldc_w 2, .iadd, .iaload, .invokevirtual 130810, .if_icmp .eq 53, .ldc_w 0, .ireturn] ls st h := WP.eqn c_2281_7 2 rfl rfl rfl
theorem w_2281_8 : WP d 2281 8 ls st h Q = wpL (kC d) (kJ d 2281 Q) Q 2 [.aload 1, .aload 0, .iload 3, .ldc_w 1, .iadd, .iaload, .aload 0, .iload 3, .ldc_w 2, .iadd, .iaload, .invokevirtual 120098, .aload 2, .aload 0, .iload 3, .ldc_w 1, .iadd, .iaload, .aload 0, .iload 3, .ldc_w 2, .iadd, .iaload, .invokevirtual 130826, .if_icmp .eq 53, .ldc_w 0, .ireturn] ls st h := WP.eqn c_2281_8 2 rfl rfl rfl
theorem w_2281_9 : WP d 2281 9 ls st h Q = wpL (kC d) (kJ d 2281 Q) Q 2 [.aload 1, .aload 0, .iload 3, .ldc_w 1, .iadd, .iaload, .aload 0, .iload 3, .ldc_w 2, .iadd, .iaload, .invokevirtual 120106, .aload 2, .aload 0, .iload 3, .ldc_w 1, .iadd, .iaload, .aload 0, .iload 3, .ldc_w 2, .iadd, .iaload, .invokevirtual 130842, .if_icmp .eq 53, .ldc_w 0, .ireturn] ls st h := WP.eqn c_2281_9 2 rfl rfl rfl
theorem w_2281_10 : WP d 2281 10 ls st h Q = wpL (kC d) (kJ d 2281 Q) Q 2 [.aload 1, .aload 0, .iload 3, .ldc_w 1, .iadd, .iaload, .aload 0, .iload 3, .ldc_w 2, .iadd, .iaload, .aload 0, .iload 3, .ldc_w 3, .iadd, .iaload, .invokevirtual 120123, .aload 2, .aload 0, .iload 3, .ldc_w 1, .iadd, .iaload, .aload 0, .iload 3, .ldc_w 2, .iadd, .iaload, .aload 0, .iload 3, .ldc_w 3, .iadd, .iaload, .invokevirtual 130867, .if_icmp .eq 53, .ldc_w 0, .ireturn] ls st h := WP.eqn c_2281_10 2 rfl rfl rfl
theorem w_2281_11 : WP d 2281 11 ls st h Q = wpL (kC d) (kJ d 2281 Q) Q 2 [.aload 1, .aload 0, .iload 3, .ldc_w 1, .iadd, .iaload, .aload 0, .iload 3, .ldc_w 2, .iadd, .iaload, .aload 0, .iload 3, .ldc_w 3, .iadd, .iaload, .aload 0, .iload 3, .ldc_w 4, .iadd, .iaload, .invokevirtual 120132, .aload 2, .aload 0, .iload 3, .ldc_w 1, .iadd, .iaload, .aload 0, .iload 3, .ldc_w 2, .iadd, .iaload, .aload 0, .iload 3, .ldc_w 3, .iadd, .iaload, .aload 0, .iload 3, .ldc_w 4, .iadd, .iaload, .invokevirtual 130876, .if_icmp .eq 53, .ldc_w 0, .ireturn] ls st h := WP.eqn c_2281_11 2 rfl rfl rfl
theorem w_2281_12 : WP d 2281 12 ls st h Q = wpL (kC d) (kJ d 2281 Q) Q 2 [.aload 1, .aload 0, .iload 3, .ldc_w 1, .iadd, .iaload, .aload 0, .iload 3, .ldc_w 2, .iadd, .iaload, .invokevirtual 120146, .aload 2, .aload 0, .iload 3, .ldc_w 1, .iadd, .iaload, .aload 0, .iload 3, .ldc_w 2, .iadd, .iaload, .invokevirtual 130898, .if_icmp .eq 53, .ldc_w 0, .ireturn] ls st h := WP.eqn c_2281_12 2 rfl rfl rfl
theorem w_2281_13 : WP d 2281 13 ls st h Q = wpL (kC d) (kJ d 2281 Q) Q 2 [.aload 1, .aload 0, .iload 3, .ldc_w 1, .iadd, .iaload, .aload 0, .iload 3, .ldc_w 2, .iadd, .iaload, .aload 0, .iload 3, .ldc_w 3, .iadd, .iaload, .invokevirtual 120163, .aload 2, .aload 0, .iload 3, .ldc_w 1, .iadd, .iaload, .aload 0, .iload 3, .ldc_w 2, .iadd, .iaload, .aload 0, .iload 3, .ldc_w 3, .iadd, .iaload, .invokevirtual 130931, .if_icmp .eq 53, .ldc_w 0, .ireturn] ls st h := WP.eqn c_2281_13 2 rfl rfl rfl
theorem w_2281_14 : WP d 2281 14 ls st h Q = wpL (kC d) (kJ d 2281 Q) Q 2 [.aload 1, .aload 0, .iload 3, .ldc_w 1, .iadd, .iaload, .aload 0, .iload 3, .ldc_w 2, .iadd, .iaload, .invokevirtual 120170, .aload 2, .aload 0, .iload 3, .ldc_w 1, .iadd, .iaload, .aload 0, .iload 3, .ldc_w 2, .iadd, .iaload, .invokevirtual 130938, .if_icmp .eq 53, .ldc_w 0, .ireturn] ls st h := WP.eqn c_2281_14 2 rfl rfl rfl
theorem w_2281_15 : WP d 2281 15 ls st h Q = wpL (kC d) (kJ d 2281 Q) Q 2 [.aload 1, .aload 0, .iload 3, .ldc_w 1, .iadd, .iaload, .aload 0, .iload 3, .ldc_w 2, .iadd, .iaload, .invokevirtual 120178, .aload 2, .aload 0, .iload 3, .ldc_w 1, .iadd, .iaload, .aload 0, .iload 3, .ldc_w 2, .iadd, .iaload, .invokevirtual 130946, .if_icmp .eq 53, .ldc_w 0, .ireturn] ls st h := WP.eqn c_2281_15 2 rfl rfl rfl
theorem w_2281_16 : WP d 2281 16 ls st h Q = wpL (kC d) (kJ d 2281 Q) Q 2 [.aload 1, .aload 0, .iload 3, .ldc_w 1, .iadd, .iaload, .invokevirtual 120185, .aload 2, .aload 0, .iload 3, .ldc_w 1, .iadd, .iaload, .invokevirtual 130953, .if_icmp .eq 53, .ldc_w 0, .ireturn] ls st h := WP.eqn c_2281_16 2 rfl rfl rfl
theorem w_2281_17 : WP d 2281 17 ls st h Q = wpL (kC d) (kJ d 2281 Q) Q 2 [.aload 1, .aload 0, .iload 3, .ldc_w 1, .iadd, .iaload, .aload 0, .iload 3, .ldc_w 2, .iadd, .iaload, .invokevirtual 120194, .aload 2, .aload 0, .iload 3, .ldc_w 1, .iadd, .iaload, .aload 0, .iload 3, .ldc_w 2, .iadd, .iaload, .invokevirtual 130962, .if_icmp .eq 53, .ldc_w 0, .ireturn] ls st h := WP.eqn c_2281_17 2 rfl rfl rfl
theorem w_2281_18 : WP d 2281 18 ls st h Q = wpL (kC d) (kJ d 2281 Q) Q 2 [.aload 1, .aload 0, .iload 3, .ldc_w 1, .iadd, .iaload, .invokevirtual 120201, .aload 2, .aload 0, .iload 3, .ldc_w 1, .iadd, .iaload, .invokevirtual 130977, .if_icmp .eq 53, .ldc_w 0, .ireturn] ls st h := WP.eqn c_2281_18 2 rfl rfl rfl
theorem w_2281_19 : WP d 2281 19 ls st h Q = wpL (kC d) (kJ d 2281 Q) Q 2 [.aload 1, .aload 0, .iload 3, .ldc_w 1, .iadd, .iaload, .invokevirtual 120209, .aload 2, .aload 0, .iload 3, .ldc_w 1, .iadd, .iaload, .invokevirtual 130993, .if_icmp .eq 53, .ldc_w 0, .ireturn] ls st h := WP.eqn c_2281_19 2 rfl rfl rfl
theorem w_2281_20 : WP d 2281 20 ls st h Q = wpL (kC d) (kJ d 2281 Q) Q 2 [.aload 1, .aload 0, .iload 3, .ldc_w 1, .iadd, .iaload, .aload 0, .iload 3, .ldc_w 2, .iadd, .iaload, .invokevirtual 120218, .aload 2, .aload 0, .iload 3, .ldc_w 1, .iadd, .iaload, .aload 0, .iload 3, .ldc_w 2, .iadd, .iaload, .invokevirtual 131034, .if_icmp .eq 53, .ldc_w 0, .ireturn] ls st h := WP.eqn c_2281_20 2 rfl rfl rfl
theorem w_2281_21 : WP d 2281 21 ls st h Q = wpL (kC d) (kJ d 2281 Q) Q 2 [.aload 1, .aload 0, .iload 3, .ldc_w 1, .iadd, .iaload, .invokevirtual 120225, .aload 2, .aload 0, .iload 3, .ldc_w 1, .iadd, .iaload, .invokevirtual 131041, .if_icmp .eq 53, .ldc_w 0, .ireturn] ls st h := WP.eqn c_2281_21 2 rfl rfl rfl
theorem w_2281_22 : WP d 2281 22 ls st h Q = wpL (kC d) (kJ d 2281 Q) Q 2 [.aload 1, .aload 0, .iload 3, .ldc_w 1, .iadd, .iaload, .invokevirtual 120233, .aload 2, .aload 0, .iload 3, .ldc_w 1, .iadd, .iaload, .invokevirtual 131049, .if_icmp .eq 53, .ldc_w 0, .ireturn] ls st h := WP.eqn c_2281_22 2 rfl rfl rfl
theorem w_2281_23 : WP d 2281 23 ls st h Q = wpL (kC d) (kJ d 2281 Q) Q 2 [.aload 1, .aload 0, .iload 3, .ldc_w 1, .iadd, .iaload, .invokevirtual 120241, .aload 2, .aload 0, .iload 3, .ldc_w 1, .iadd, .iaload, .invokevirtual 131065, .if_icmp .eq 53, .ldc_w 0, .ireturn] ls st h := WP.eqn c_2281_23 2 rfl rfl rfl
theorem w_2281_24 : WP d 2281 24 ls st h Q = wpL (kC d) (kJ d 2281 Q) Q 2 [.aload 1, .aload 0, .iload 3, .ldc_w 1, .iadd, .iaload, .invokevirtual 120249, .aload 2, .aload 0, .iload 3, .ldc_w 1, .iadd, .iaload, .invokevirtual 131089, .if_icmp .eq 53, .ldc_w 0, .ireturn] ls st h := WP.eqn c_2281_24 2 rfl rfl rfl
theorem w_2281_25 : WP d 2281 25 ls st h Q = wpL (kC d) (kJ d 2281 Q) Q 2 [.aload 1, .invokevirtual 120256, .aload 2, .invokevirtual 131096, .if_icmp .eq 53, .ldc_w 0, .ireturn] ls st h := WP.eqn c_2281_25 2 rfl rfl rfl
theorem w_2281_26 : WP d 2281 26 ls st h Q = wpL (kC d) (kJ d 2281 Q) Q 2 [.aload 1, .aload 0, .iload 3, .ldc_w 1, .iadd, .iaload, .aload 0, .iload 3, .ldc_w 2, .iadd, .iaload, .invokevirtual 120266, .aload 2, .aload 0, .iload 3, .ldc_w 1, .iadd, .iaload, .aload 0, .iload 3, .ldc_w 2, .iadd, .iaload, .invokevirtual 131114, .if_icmp .eq 53, .ldc_w 0, .ireturn] ls st h := WP.eqn c_2281_26 2 rfl rfl rfl
theorem w_2281_27 : WP d 2281 27 ls st h Q = wpL (kC d) (kJ d 2281 Q) Q 2 [.aload 1, .aload 0, .iload 3, .ldc_w 1, .iadd, .iaload, .invokevirtual 120273, .aload 2, .aload 0, .iload 3, .ldc_w 1, .iadd, .iaload, .invokevirtual 131121, .if_icmp .eq 53, .ldc_w 0, .ireturn] ls st h := WP.eqn c_2281_27 2 rfl rfl rfl
theorem w_2281_28 : WP d 2281 28 ls st h Q = wpL (kC d) (kJ d 2281 Q) Q 2 [.aload 1, .aload 0, .iload 3, .ldc_w 1, .iadd, .iaload, .aload 0, .iload 3, .ldc_w 2, .iadd, .iaload, .invokevirtual 120298, .aload 2, .aload 0, .iload 3, .ldc_w 1, .iadd, .iaload, .aload 0, .iload 3, .ldc_w 2, .iadd, .iaload, .invokevirtual 131154, .if_icmp .eq 53, .ldc_w 0, .ireturn] ls st h := WP.eqn c_2281_28 2 rfl rfl rfl
theorem w_2281_29 : WP d 2281 29 ls st h Q = wpL (kC d) (kJ d 2281 Q) Q 2 [.aload 1, .aload 0, .iload 3, .ldc_w 1, .iadd, .iaload, .aload 0, .iload 3, .ldc_w 2, .iadd, .iaload, .aload 0, .iload 3, .ldc_w 3, .iadd, .iaload, .invokevirtual 120323, .aload 2, .aload 0, .iload 3, .ldc_w 1, .iadd, .iaload, .aload 0, .iload 3, .ldc_w 2, .iadd, .iaload, .aload 0, .iload 3, .ldc_w 3, .iadd, .iaload, .invokevirtual 131187, .if_icmp .eq 53, .ldc_w 0, .ireturn] ls st h := WP.eqn c_2281_29 2 rfl rfl rfl
theorem w_2281_30 : WP d 2281 30 ls st h Q = wpL (kC d) (kJ d 2281 Q) Q 2 [.aload 1, .aload 0, .iload 3, .ldc_w 1, .iadd, .iaload, .aload 0, .iload 3, .ldc_w 2, .iadd, .iaload, .aload 0, .iload 3, .ldc_w 3, .iadd, .iaload, .invokevirtual 120331, .aload 2, .aload 0, .iload 3, .ldc_w 1, .iadd, .iaload, .aload 0, .iload 3, .ldc_w 2, .iadd, .iaload, .aload 0, .iload 3, .ldc_w 3, .iadd, .iaload, .invokevirtual 131195, .if_icmp .eq 53, .ldc_w 0, .ireturn] ls st h := WP.eqn c_2281_30 2 rfl rfl rfl
theorem w_2281_31 : WP d 2281 31 ls st h Q = wpL (kC d) (kJ d 2281 Q) Q 2 [.aload 1, .invokevirtual 120344, .aload 2, .invokevirtual 131200, .if_icmp .eq 53, .ldc_w 0, .ireturn] ls st h := WP.eqn c_2281_31 2 rfl rfl rfl
theorem w_2281_32 : WP d 2281 32 ls st h Q = wpL (kC d) (kJ d 2281 Q) Q 2 [.aload 1, .aload 0, .iload 3, .ldc_w 1, .iadd, .iaload, .aload 0, .iload 3, .ldc_w 2, .iadd, .iaload, .invokevirtual 120354, .aload 2, .aload 0, .iload 3, .ldc_w 1, .iadd, .iaload, .aload 0, .iload 3, .ldc_w 2, .iadd, .iaload, .invokevirtual 131210, .if_icmp .eq 53, .ldc_w 0, .ireturn] ls st h := WP.eqn c_2281_32 2 rfl rfl rfl
theorem w_2281_33 : WP d 2281 33 ls st h Q = wpL (kC d) (kJ d 2281 Q) Q 2 [.aload 1, .aload 0, .iload 3, .ldc_w 1, .iadd, .iaload, .aload 0, .iload 3, .ldc_w 2, .iadd, .iaload, .invokevirtual 120394, .aload 2, .aload 0, .iload 3, .ldc_w 1, .iadd, .iaload, .aload 0, .iload 3, .ldc_w 2, .iadd, .iaload, .invokevirtual 131226, .if_icmp .eq 53, .ldc_w 0, .ireturn] ls st h := WP.eqn c_2281_33 2 rfl rfl rfl
theorem w_2281_34 : WP d 2281 34 ls st h Q = wpL (kC d) (kJ d 2281 Q) Q 2 [.aload 1, .invokevirtual 120400, .aload 2, .invokevirtual 131240, .if_icmp .eq 53, .ldc_w 0, .ireturn] ls st h := WP.eqn c_2281_34 2 rfl rfl rfl
theorem w_2281_35 : WP d 2281 35 ls st h Q = wpL (kC d) (kJ d 2281 Q) Q 2 [.aload 1, .aload 0, .iload 3, .ldc_w 1, .iadd, .iaload, .aload 0, .iload 3, .ldc_w 2, .iadd, .iaload, .aload 0, .iload 3, .ldc_w 3, .iadd, .iaload, .invokevirtual 120411, .aload 2, .aload 0, .iload 3, .ldc_w 1, .iadd, .iaload, .aload 0, .iload 3, .ldc_w 2, .iadd, .iaload, .aload 0, .iload 3, .ldc_w 3, .iadd, .iaload, .invokevirtual 131251, .if_icmp .eq 53, .ldc_w 0, .ireturn] ls st h := WP.eqn c_2281_35 2 rfl rfl rfl
theorem w_2281_36 : WP d 2281 36 ls st h Q = wpL (kC d) (kJ d 2281 Q) Q 2 [.aload 1, .aload 0, .iload 3, .ldc_w 1, .iadd, .iaload, .aload 0, .iload 3, .ldc_w 2, .iadd, .iaload, .invokevirtual 120418, .aload 2, .aload 0, .iload 3, .ldc_w 1, .iadd, .iaload, .aload 0, .iload 3, .ldc_w 2, .iadd, .iaload, .invokevirtual 131258, .lcmp, .ifCond .eq 53, .ldc_w 0, .ireturn] ls st h := WP.eqn c_2281_36 2 rfl rfl rfl
theorem w_2281_37 : WP d 2281 37 ls st h Q = wpL (kC d) (kJ d 2281 Q) Q 2 [.aload 1, .aload 0, .iload 3, .ldc_w 1, .iadd, .iaload, .aload 0, .iload 3, .ldc_w 2, .iadd, .iaload, .aload 0, .iload 3, .ldc_w 3, .iadd, .iaload, .invokevirtual 120443, .aload 2, .aload 0, .iload 3, .ldc_w 1, .iadd, .iaload, .aload 0, .iload 3, .ldc_w 2, .iadd, .iaload, .aload 0, .iload 3, .ldc_w 3, .iadd, .iaload, .invokevirtual 131283, .lcmp, .ifCond .eq 53, .ldc_w 0, .ireturn] ls st h := WP.eqn c_2281_37 2 rfl rfl rfl
theorem w_2281_38 : WP d 2281 38 ls st h Q = wpL (kC d) (kJ d 2281 Q) Q 2 [.aload 1, .aload 0, .iload 3, .ldc_w 1, .iadd, .iaload, .aload 0, .iload 3, .ldc_w 2, .iadd, .iaload, .invokevirtual 120450, .aload 2, .aload 0, .iload 3, .ldc_w 1, .iadd, .iaload, .aload 0, .iload 3, .ldc_w 2, .iadd, .iaload, .invokevirtual 131298, .if_icmp .eq 53, .ldc_w 0, .ireturn] ls st h := WP.eqn c_2281_38 2 rfl rfl rfl
theorem w_2281_39 : WP d 2281 39 ls st h Q = wpL (kC d) (kJ d 2281 Q) Q 2 [.aload 1, .aload 0, .iload 3, .ldc_w 1, .iadd, .iaload, .aload 0, .iload 3, .ldc_w 2, .iadd, .iaload, .invokevirtual 120458, .aload 2, .aload 0, .iload 3, .ldc_w 1, .iadd, .iaload, .aload 0, .iload 3, .ldc_w 2, .iadd, .iaload, .invokevirtual 131314, .if_icmp .eq 53, .ldc_w 0, .ireturn] ls st h := WP.eqn c_2281_39 2 rfl rfl rfl
theorem w_2281_40 : WP d 2281 40 ls st h Q = wpL (kC d) (kJ d 2281 Q) Q 2 [.aload 1, .aload 0, .iload 3, .ldc_w 1, .iadd, .iaload, .aload 0, .iload 3, .ldc_w 2, .iadd, .iaload, .aload 0, .iload 3, .ldc_w 3, .iadd, .iaload, .invokevirtual 120475, .aload 2, .aload 0, .iload 3, .ldc_w 1, .iadd, .iaload, .aload 0, .iload 3, .ldc_w 2, .iadd, .iaload, .aload 0, .iload 3, .ldc_w 3, .iadd, .iaload, .invokevirtual 131331, .if_icmp .eq 53, .ldc_w 0, .ireturn] ls st h := WP.eqn c_2281_40 2 rfl rfl rfl
theorem w_2281_41 : WP d 2281 41 ls st h Q = wpL (kC d) (kJ d 2281 Q) Q 2 [.aload 1, .aload 0, .iload 3, .ldc_w 1, .iadd, .iaload, .invokevirtual 120481, .aload 2, .aload 0, .iload 3, .ldc_w 1, .iadd, .iaload, .invokevirtual 131337, .if_icmp .eq 53, .ldc_w 0, .ireturn] ls st h := WP.eqn c_2281_41 2 rfl rfl rfl
theorem w_2281_42 : WP d 2281 42 ls st h Q = wpL (kC d) (kJ d 2281 Q) Q 2 [.aload 1, .aload 0, .iload 3, .ldc_w 1, .iadd, .iaload, .aload 0, .iload 3, .ldc_w 2, .iadd, .iaload, .aload 0, .iload 3, .ldc_w 3, .iadd, .iaload, .aload 0, .iload 3, .ldc_w 4, .iadd, .iaload, .invokevirtual 120492, .aload 2, .aload 0, .iload 3, .ldc_w 1, .iadd, .iaload, .aload 0, .iload 3, .ldc_w 2, .iadd, .iaload, .aload 0, .iload 3, .ldc_w 3, .iadd, .iaload, .aload 0, .iload 3, .ldc_w 4, .iadd, .iaload, .invokevirtual 131348, .if_icmp .eq 53, .ldc_w 0, .ireturn] ls st h := WP.eqn c_2281_42 2 rfl rfl rfl
theorem w_2281_43 : WP d 2281 43 ls st h Q = wpL (kC d) (kJ d 2281 Q) Q 2 [.aload 1, .aload 0, .iload 3, .ldc_w 1, .iadd, .iaload, .aload 0, .iload 3, .ldc_w 2, .iadd, .iaload, .aload 0, .iload 3, .ldc_w 3, .iadd, .iaload, .invokevirtual 120499, .aload 2, .aload 0, .iload 3, .ldc_w 1, .iadd, .iaload, .aload 0, .iload 3, .ldc_w 2, .iadd, .iaload, .aload 0, .iload 3, .ldc_w 3, .iadd, .iaload, .invokevirtual 131363, .if_icmp .eq 53, .ldc_w 0, .ireturn] ls st h := WP.eqn c_2281_43 2 rfl rfl rfl
theorem w_2281_44 : WP d 2281 44 ls st h Q = wpL (kC d) (kJ d 2281 Q) Q 2 [.aload 1, .aload 0, .iload 3, .ldc_w 1, .iadd, .iaload, .aload 0, .iload 3, .ldc_w 2, .iadd, .iaload, .aload 0, .iload 3, .ldc_w 3, .iadd, .iaload, .invokevirtual 120507, .aload 2, .aload 0, .iload 3, .ldc_w 1, .iadd, .iaload, .aload 0, .iload 3, .ldc_w 2, .iadd, .iaload, .aload 0, .iload 3, .ldc_w 3, .iadd, .iaload, .invokevirtual 131371, .if_icmp .eq 53, .ldc_w 0, .ireturn] ls st h := WP.eqn c_2281_44 2 rfl rfl rfl
theorem w_2281_45 : WP d 2281 45 ls st h Q = wpL (kC d) (kJ d 2281 Q) Q 2 [.aload 1, .aload 0, .iload 3, .ldc_w 1, .iadd, .iaload, .aload 0, .iload 3, .ldc_w 2, .iadd, .iaload, .aload 0, .iload 3, .ldc_w 3, .iadd, .iaload, .invokevirtual 120515, .aload 2, .aload 0, .iload 3, .ldc_w 1, .iadd, .iaload, .aload 0, .iload 3, .ldc_w 2, .iadd, .iaload, .aload 0, .iload 3, .ldc_w 3, .iadd, .iaload, .invokevirtual 131379, .if_icmp .eq 53, .ldc_w 0, .ireturn] ls st h := WP.eqn c_2281_45 2 rfl rfl rfl
theorem w_2281_46 : WP d 2281 46 ls st h Q = wpL (kC d) (kJ d 2281 Q) Q 2 [.aload 1, .aload 0, .iload 3, .ldc_w 1, .iadd, .iaload, .aload 0, .iload 3, .ldc_w 2, .iadd, .iaload, .aload 0, .iload 3, .ldc_w 3, .iadd, .iaload, .invokevirtual 120523, .aload 2, .aload 0, .iload 3, .ldc_w 1, .iadd, .iaload, .aload 0, .iload 3, .ldc_w 2, .iadd, .iaload, .aload 0, .iload 3, .ldc_w 3, .iadd, .iaload, .invokevirtual 131387, .if_icmp .eq 53, .ldc_w 0, .ireturn] ls st h := WP.eqn c_2281_46 2 rfl rfl rfl
theorem w_2281_47 : WP d 2281 47 ls st h Q = wpL (kC d) (kJ d 2281 Q) Q 2 [.aload 1, .aload 0, .iload 3, .ldc_w 1, .iadd, .iaload, .aload 0, .iload 3, .ldc_w 2, .iadd, .iaload, .invokevirtual 120538, .aload 2, .aload 0, .iload 3, .ldc_w 1, .iadd, .iaload, .aload 0, .iload 3, .ldc_w 2, .iadd, .iaload, .invokevirtual 131402, .if_icmp .eq 53, .ldc_w 0, .ireturn] ls st h := WP.eqn c_2281_47 2 rfl rfl rfl
theorem w_2281_48 : WP d 2281 48 ls st h Q = wpL (kC d) (kJ d 2281 Q) Q 2 [.aload 1, .aload 0, .iload 3, .ldc_w 1, .iadd, .iaload, .aload 0, .iload 3, .ldc_w 2, .iadd, .iaload, .aload 0, .iload 3, .ldc_w 3, .iadd, .iaload, .invokevirtual 120547, .aload 2, .aload 0, .iload 3, .ldc_w 1, .iadd, .iaload, .aload 0, .iload 3, .ldc_w 2, .iadd, .iaload, .aload 0, .iload 3, .ldc_w 3, .iadd, .iaload, .invokevirtual 131427, .if_icmp .eq 53, .ldc_w 0, .ireturn] ls st h := WP.eqn c_2281_48 2 rfl rfl rfl
theorem w_2281_49 : WP d 2281 49 ls st h Q = wpL (kC d) (kJ d 2281 Q) Q 2 [.aload 1, .aload 0, .iload 3, .ldc_w 1, .iadd, .iaload, .invokevirtual 120553, .aload 2, .aload 0, .iload 3, .ldc_w 1, .iadd, .iaload, .invokevirtual 131513, .if_icmp .eq 53, .ldc_w 0, .ireturn] ls st h := WP.eqn c_2281_49 2 rfl rfl rfl
theorem w_2281_50 : WP d 2281 50 ls st h Q = wpL (kC d) (kJ d 2281 Q) Q 2 [.aload 1, .aload 0, .iload 3, .ldc_w 1, .iadd, .iaload, .invokevirtual 120561, .aload 2, .aload 0, .iload 3, .ldc_w 1, .iadd, .iaload, .invokevirtual 131521, .if_icmp .eq 53, .ldc_w 0, .ireturn] ls st h := WP.eqn c_2281_50 2 rfl rfl rfl
theorem w_2281_51 : WP d 2281 51 ls st h Q = wpL (kC d) (kJ d 2281 Q) Q 2 [.aload 1, .invokevirtual 120568, .aload 2, .invokevirtual 131552, .if_icmp .eq 53, .ldc_w 0, .ireturn] ls st h := WP.eqn c_2281_51 2 rfl rfl rfl
theorem w_2281_52 : WP d 2281 52 ls st h Q = wpL (kC d) (kJ d 2281 Q) Q 2 [.aload 1, .invokevirtual 120576, .aload 2, .invokevirtual 131560, .if_icmp .eq 53, .ldc_w 0, .ireturn] ls st h := WP.eqn c_2281_52 2 rfl rfl rfl
theorem w_2281_53 : WP d 2281 53 ls st h Q = wpL (kC d) (kJ d 2281 Q) Q 2 [.iinc 3 5, .goto 1] ls st h := WP.eqn c_2281_53 2 rfl rfl rfl
theorem w_2281_54 : WP d 2281 54 ls st h Q = wpL (kC d) (kJ d 2281 Q) Q 2 [.ldc_w 1, .ireturn] ls st h := WP.eqn c_2281_54 2 rfl rfl rfl
end
