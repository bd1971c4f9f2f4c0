abbrev cSe_init : ByteArray := prog_5_method_1_code
def ySe_init : MethodName := ⟨RSe, "<init>", "(LTableOrders$Graph;)V"⟩
theorem dSe_init_0 : decode cSe_init 0 = .ok (.aload_n 0, 1) := by decide +kernel
theorem dSe_init_1 : decode cSe_init 1 = .ok (.invokespecial 3, 3) := by decide +kernel
theorem dSe_init_4 : decode cSe_init 4 = .ok (.aload_n 0, 1) := by decide +kernel
theorem dSe_init_5 : decode cSe_init 5 = .ok (.bipush 12, 2) := by decide +kernel
theorem dSe_init_7 : decode cSe_init 7 = .ok (.newarray .int, 2) := by decide +kernel
theorem dSe_init_9 : decode cSe_init 9 = .ok (.putfield 9, 3) := by decide +kernel
theorem dSe_init_12 : decode cSe_init 12 = .ok (.aload_n 0, 1) := by decide +kernel
theorem dSe_init_13 : decode cSe_init 13 = .ok (.sipush 4096, 3) := by decide +kernel
theorem dSe_init_16 : decode cSe_init 16 = .ok (.newarray .int, 2) := by decide +kernel
theorem dSe_init_18 : decode cSe_init 18 = .ok (.putfield 15, 3) := by decide +kernel
theorem dSe_init_21 : decode cSe_init 21 = .ok (.aload_n 0, 1) := by decide +kernel
theorem dSe_init_22 : decode cSe_init 22 = .ok (.sipush 4096, 3) := by decide +kernel
theorem dSe_init_25 : decode cSe_init 25 = .ok (.newarray .int, 2) := by decide +kernel
theorem dSe_init_27 : decode cSe_init 27 = .ok (.putfield 18, 3) := by decide +kernel
theorem dSe_init_30 : decode cSe_init 30 = .ok (.aload_n 0, 1) := by decide +kernel
theorem dSe_init_31 : decode cSe_init 31 = .ok (.aload_n 1, 1) := by decide +kernel
theorem dSe_init_32 : decode cSe_init 32 = .ok (.putfield 21, 3) := by decide +kernel
theorem dSe_init_35 : decode cSe_init 35 = .ok (.return_, 1) := by decide +kernel
abbrev cSe_forget : ByteArray := prog_5_method_2_code
def ySe_forget : MethodName := ⟨RSe, "forget", "()V"⟩
theorem dSe_forget_0 : decode cSe_forget 0 = .ok (.aload_n 0, 1) := by decide +kernel
theorem dSe_forget_1 : decode cSe_forget 1 = .ok (.iconst 0, 1) := by decide +kernel
theorem dSe_forget_2 : decode cSe_forget 2 = .ok (.putfield 25, 3) := by decide +kernel
theorem dSe_forget_5 : decode cSe_forget 5 = .ok (.return_, 1) := by decide +kernel
abbrev cSe_find : ByteArray := prog_5_method_3_code
def ySe_find : MethodName := ⟨RSe, "find", "()V"⟩
theorem dSe_find_0 : decode cSe_find 0 = .ok (.aload_n 0, 1) := by decide +kernel
theorem dSe_find_1 : decode cSe_find 1 = .ok (.getfield 25, 3) := by decide +kernel
theorem dSe_find_4 : decode cSe_find 4 = .ok (.ifCond .ne 27, 3) := by decide +kernel
theorem dSe_find_7 : decode cSe_find 7 = .ok (.aload_n 0, 1) := by decide +kernel
theorem dSe_find_8 : decode cSe_find 8 = .ok (.invokevirtual 29, 3) := by decide +kernel
theorem dSe_find_11 : decode cSe_find 11 = .ok (.aload_n 0, 1) := by decide +kernel
theorem dSe_find_12 : decode cSe_find 12 = .ok (.invokevirtual 32, 3) := by decide +kernel
theorem dSe_find_15 : decode cSe_find 15 = .ok (.istore_n 1, 1) := by decide +kernel
theorem dSe_find_16 : decode cSe_find 16 = .ok (.aload_n 0, 1) := by decide +kernel
theorem dSe_find_17 : decode cSe_find 17 = .ok (.iload_n 1, 1) := by decide +kernel
theorem dSe_find_18 : decode cSe_find 18 = .ok (.invokevirtual 36, 3) := by decide +kernel
theorem dSe_find_21 : decode cSe_find 21 = .ok (.aload_n 0, 1) := by decide +kernel
theorem dSe_find_22 : decode cSe_find 22 = .ok (.iload_n 1, 1) := by decide +kernel
theorem dSe_find_23 : decode cSe_find 23 = .ok (.invokevirtual 40, 3) := by decide +kernel
theorem dSe_find_26 : decode cSe_find 26 = .ok (.aload_n 0, 1) := by decide +kernel
theorem dSe_find_27 : decode cSe_find 27 = .ok (.iconst 1, 1) := by decide +kernel
theorem dSe_find_28 : decode cSe_find 28 = .ok (.putfield 25, 3) := by decide +kernel
theorem dSe_find_31 : decode cSe_find 31 = .ok (.return_, 1) := by decide +kernel
abbrev cSe_countCells : ByteArray := prog_5_method_4_code
def ySe_countCells : MethodName := ⟨RSe, "countCells", "()V"⟩
theorem dSe_countCells_0 : decode cSe_countCells 0 = .ok (.aload_n 0, 1) := by decide +kernel
theorem dSe_countCells_1 : decode cSe_countCells 1 = .ok (.getfield 21, 3) := by decide +kernel
theorem dSe_countCells_4 : decode cSe_countCells 4 = .ok (.invokevirtual 43, 3) := by decide +kernel
theorem dSe_countCells_7 : decode cSe_countCells 7 = .ok (.iconst 1, 1) := by decide +kernel
theorem dSe_countCells_8 : decode cSe_countCells 8 = .ok (.iadd, 1) := by decide +kernel
theorem dSe_countCells_9 : decode cSe_countCells 9 = .ok (.istore_n 1, 1) := by decide +kernel
theorem dSe_countCells_10 : decode cSe_countCells 10 = .ok (.aload_n 0, 1) := by decide +kernel
theorem dSe_countCells_11 : decode cSe_countCells 11 = .ok (.getfield 48, 3) := by decide +kernel
theorem dSe_countCells_14 : decode cSe_countCells 14 = .ok (.iload_n 1, 1) := by decide +kernel
theorem dSe_countCells_15 : decode cSe_countCells 15 = .ok (.if_icmp .ge 36, 3) := by decide +kernel
theorem dSe_countCells_18 : decode cSe_countCells 18 = .ok (.aload_n 0, 1) := by decide +kernel
theorem dSe_countCells_19 : decode cSe_countCells 19 = .ok (.getfield 15, 3) := by decide +kernel
theorem dSe_countCells_22 : decode cSe_countCells 22 = .ok (.aload_n 0, 1) := by decide +kernel
theorem dSe_countCells_23 : decode cSe_countCells 23 = .ok (.getfield 48, 3) := by decide +kernel
theorem dSe_countCells_26 : decode cSe_countCells 26 = .ok (.aload_n 0, 1) := by decide +kernel
theorem dSe_countCells_27 : decode cSe_countCells 27 = .ok (.getfield 21, 3) := by decide +kernel
theorem dSe_countCells_30 : decode cSe_countCells 30 = .ok (.aload_n 0, 1) := by decide +kernel
theorem dSe_countCells_31 : decode cSe_countCells 31 = .ok (.getfield 48, 3) := by decide +kernel
theorem dSe_countCells_34 : decode cSe_countCells 34 = .ok (.invokevirtual 52, 3) := by decide +kernel
theorem dSe_countCells_37 : decode cSe_countCells 37 = .ok (.iastore, 1) := by decide +kernel
theorem dSe_countCells_38 : decode cSe_countCells 38 = .ok (.aload_n 0, 1) := by decide +kernel
theorem dSe_countCells_39 : decode cSe_countCells 39 = .ok (.dup, 1) := by decide +kernel
theorem dSe_countCells_40 : decode cSe_countCells 40 = .ok (.getfield 48, 3) := by decide +kernel
theorem dSe_countCells_43 : decode cSe_countCells 43 = .ok (.iconst 1, 1) := by decide +kernel
theorem dSe_countCells_44 : decode cSe_countCells 44 = .ok (.iadd, 1) := by decide +kernel
theorem dSe_countCells_45 : decode cSe_countCells 45 = .ok (.putfield 48, 3) := by decide +kernel
theorem dSe_countCells_48 : decode cSe_countCells 48 = .ok (.goto (-38), 3) := by decide +kernel
theorem dSe_countCells_51 : decode cSe_countCells 51 = .ok (.return_, 1) := by decide +kernel
abbrev cSe_leastWidth : ByteArray := prog_5_method_5_code
def ySe_leastWidth : MethodName := ⟨RSe, "leastWidth", "()I"⟩
theorem dSe_leastWidth_0 : decode cSe_leastWidth 0 = .ok (.aload_n 0, 1) := by decide +kernel
theorem dSe_leastWidth_1 : decode cSe_leastWidth 1 = .ok (.getfield 21, 3) := by decide +kernel
theorem dSe_leastWidth_4 : decode cSe_leastWidth 4 = .ok (.invokevirtual 43, 3) := by decide +kernel
theorem dSe_leastWidth_7 : decode cSe_leastWidth 7 = .ok (.istore_n 1, 1) := by decide +kernel
theorem dSe_leastWidth_8 : decode cSe_leastWidth 8 = .ok (.aload_n 0, 1) := by decide +kernel
theorem dSe_leastWidth_9 : decode cSe_leastWidth 9 = .ok (.getfield 18, 3) := by decide +kernel
theorem dSe_leastWidth_12 : decode cSe_leastWidth 12 = .ok (.iload_n 1, 1) := by decide +kernel
theorem dSe_leastWidth_13 : decode cSe_leastWidth 13 = .ok (.iconst (-1), 1) := by decide +kernel
theorem dSe_leastWidth_14 : decode cSe_leastWidth 14 = .ok (.iastore, 1) := by decide +kernel
theorem dSe_leastWidth_15 : decode cSe_leastWidth 15 = .ok (.iload_n 1, 1) := by decide +kernel
theorem dSe_leastWidth_16 : decode cSe_leastWidth 16 = .ok (.iconst 1, 1) := by decide +kernel
theorem dSe_leastWidth_17 : decode cSe_leastWidth 17 = .ok (.isub, 1) := by decide +kernel
theorem dSe_leastWidth_18 : decode cSe_leastWidth 18 = .ok (.istore_n 2, 1) := by decide +kernel
theorem dSe_leastWidth_19 : decode cSe_leastWidth 19 = .ok (.iload_n 2, 1) := by decide +kernel
theorem dSe_leastWidth_20 : decode cSe_leastWidth 20 = .ok (.ifCond .lt 99, 3) := by decide +kernel
theorem dSe_leastWidth_23 : decode cSe_leastWidth 23 = .ok (.bipush 12, 2) := by decide +kernel
theorem dSe_leastWidth_25 : decode cSe_leastWidth 25 = .ok (.istore_n 3, 1) := by decide +kernel
theorem dSe_leastWidth_26 : decode cSe_leastWidth 26 = .ok (.iconst 0, 1) := by decide +kernel
theorem dSe_leastWidth_27 : decode cSe_leastWidth 27 = .ok (.istore 4, 2) := by decide +kernel
theorem dSe_leastWidth_29 : decode cSe_leastWidth 29 = .ok (.iload 4, 2) := by decide +kernel
theorem dSe_leastWidth_31 : decode cSe_leastWidth 31 = .ok (.aload_n 0, 1) := by decide +kernel
theorem dSe_leastWidth_32 : decode cSe_leastWidth 32 = .ok (.getfield 21, 3) := by decide +kernel
theorem dSe_leastWidth_35 : decode cSe_leastWidth 35 = .ok (.getfield 56, 3) := by decide +kernel
theorem dSe_leastWidth_38 : decode cSe_leastWidth 38 = .ok (.if_icmp .ge 68, 3) := by decide +kernel
theorem dSe_leastWidth_41 : decode cSe_leastWidth 41 = .ok (.iload_n 2, 1) := by decide +kernel
theorem dSe_leastWidth_42 : decode cSe_leastWidth 42 = .ok (.iconst 1, 1) := by decide +kernel
theorem dSe_leastWidth_43 : decode cSe_leastWidth 43 = .ok (.iload 4, 2) := by decide +kernel
theorem dSe_leastWidth_45 : decode cSe_leastWidth 45 = .ok (.ishl, 1) := by decide +kernel
theorem dSe_leastWidth_46 : decode cSe_leastWidth 46 = .ok (.ior, 1) := by decide +kernel
theorem dSe_leastWidth_47 : decode cSe_leastWidth 47 = .ok (.istore 5, 2) := by decide +kernel
theorem dSe_leastWidth_49 : decode cSe_leastWidth 49 = .ok (.iload 5, 2) := by decide +kernel
theorem dSe_leastWidth_51 : decode cSe_leastWidth 51 = .ok (.iload_n 2, 1) := by decide +kernel
theorem dSe_leastWidth_52 : decode cSe_leastWidth 52 = .ok (.if_icmp .eq 48, 3) := by decide +kernel
theorem dSe_leastWidth_55 : decode cSe_leastWidth 55 = .ok (.aload_n 0, 1) := by decide +kernel
theorem dSe_leastWidth_56 : decode cSe_leastWidth 56 = .ok (.getfield 18, 3) := by decide +kernel
theorem dSe_leastWidth_59 : decode cSe_leastWidth 59 = .ok (.iload 5, 2) := by decide +kernel
theorem dSe_leastWidth_61 : decode cSe_leastWidth 61 = .ok (.iaload, 1) := by decide +kernel
theorem dSe_leastWidth_62 : decode cSe_leastWidth 62 = .ok (.iload_n 3, 1) := by decide +kernel
theorem dSe_leastWidth_63 : decode cSe_leastWidth 63 = .ok (.if_icmp .ge 37, 3) := by decide +kernel
theorem dSe_leastWidth_66 : decode cSe_leastWidth 66 = .ok (.aload_n 0, 1) := by decide +kernel
theorem dSe_leastWidth_67 : decode cSe_leastWidth 67 = .ok (.getfield 21, 3) := by decide +kernel
theorem dSe_leastWidth_70 : decode cSe_leastWidth 70 = .ok (.iload 4, 2) := by decide +kernel
theorem dSe_leastWidth_72 : decode cSe_leastWidth 72 = .ok (.iload_n 2, 1) := by decide +kernel
theorem dSe_leastWidth_73 : decode cSe_leastWidth 73 = .ok (.invokevirtual 59, 3) := by decide +kernel
theorem dSe_leastWidth_76 : decode cSe_leastWidth 76 = .ok (.invokestatic 63, 3) := by decide +kernel
theorem dSe_leastWidth_79 : decode cSe_leastWidth 79 = .ok (.iconst 1, 1) := by decide +kernel
theorem dSe_leastWidth_80 : decode cSe_leastWidth 80 = .ok (.isub, 1) := by decide +kernel
theorem dSe_leastWidth_81 : decode cSe_leastWidth 81 = .ok (.istore 6, 2) := by decide +kernel
theorem dSe_leastWidth_83 : decode cSe_leastWidth 83 = .ok (.iload_n 3, 1) := by decide +kernel
theorem dSe_leastWidth_84 : decode cSe_leastWidth 84 = .ok (.iload 6, 2) := by decide +kernel
theorem dSe_leastWidth_86 : decode cSe_leastWidth 86 = .ok (.aload_n 0, 1) := by decide +kernel
theorem dSe_leastWidth_87 : decode cSe_leastWidth 87 = .ok (.getfield 18, 3) := by decide +kernel
theorem dSe_leastWidth_90 : decode cSe_leastWidth 90 = .ok (.iload 5, 2) := by decide +kernel
theorem dSe_leastWidth_92 : decode cSe_leastWidth 92 = .ok (.iaload, 1) := by decide +kernel
theorem dSe_leastWidth_93 : decode cSe_leastWidth 93 = .ok (.invokestatic 68, 3) := by decide +kernel
theorem dSe_leastWidth_96 : decode cSe_leastWidth 96 = .ok (.invokestatic 73, 3) := by decide +kernel
theorem dSe_leastWidth_99 : decode cSe_leastWidth 99 = .ok (.istore_n 3, 1) := by decide +kernel
theorem dSe_leastWidth_100 : decode cSe_leastWidth 100 = .ok (.iinc 4 1, 3) := by decide +kernel
theorem dSe_leastWidth_103 : decode cSe_leastWidth 103 = .ok (.goto (-74), 3) := by decide +kernel
theorem dSe_leastWidth_106 : decode cSe_leastWidth 106 = .ok (.aload_n 0, 1) := by decide +kernel
theorem dSe_leastWidth_107 : decode cSe_leastWidth 107 = .ok (.getfield 18, 3) := by decide +kernel
theorem dSe_leastWidth_110 : decode cSe_leastWidth 110 = .ok (.iload_n 2, 1) := by decide +kernel
theorem dSe_leastWidth_111 : decode cSe_leastWidth 111 = .ok (.iload_n 3, 1) := by decide +kernel
theorem dSe_leastWidth_112 : decode cSe_leastWidth 112 = .ok (.iastore, 1) := by decide +kernel
theorem dSe_leastWidth_113 : decode cSe_leastWidth 113 = .ok (.iinc 2 (-1), 3) := by decide +kernel
theorem dSe_leastWidth_116 : decode cSe_leastWidth 116 = .ok (.goto (-97), 3) := by decide +kernel
theorem dSe_leastWidth_119 : decode cSe_leastWidth 119 = .ok (.aload_n 0, 1) := by decide +kernel
theorem dSe_leastWidth_120 : decode cSe_leastWidth 120 = .ok (.getfield 18, 3) := by decide +kernel
theorem dSe_leastWidth_123 : decode cSe_leastWidth 123 = .ok (.iconst 0, 1) := by decide +kernel
theorem dSe_leastWidth_124 : decode cSe_leastWidth 124 = .ok (.iaload, 1) := by decide +kernel
theorem dSe_leastWidth_125 : decode cSe_leastWidth 125 = .ok (.ireturn, 1) := by decide +kernel
abbrev cSe_countLeastCells : ByteArray := prog_5_method_6_code
def ySe_countLeastCells : MethodName := ⟨RSe, "countLeastCells", "(I)V"⟩
theorem dSe_countLeastCells_0 : decode cSe_countLeastCells 0 = .ok (.aload_n 0, 1) := by decide +kernel
theorem dSe_countLeastCells_1 : decode cSe_countLeastCells 1 = .ok (.getfield 21, 3) := by decide +kernel
theorem dSe_countLeastCells_4 : decode cSe_countLeastCells 4 = .ok (.invokevirtual 43, 3) := by decide +kernel
theorem dSe_countLeastCells_7 : decode cSe_countLeastCells 7 = .ok (.istore_n 2, 1) := by decide +kernel
theorem dSe_countLeastCells_8 : decode cSe_countLeastCells 8 = .ok (.aload_n 0, 1) := by decide +kernel
theorem dSe_countLeastCells_9 : decode cSe_countLeastCells 9 = .ok (.getfield 18, 3) := by decide +kernel
theorem dSe_countLeastCells_12 : decode cSe_countLeastCells 12 = .ok (.iload_n 2, 1) := by decide +kernel
theorem dSe_countLeastCells_13 : decode cSe_countLeastCells 13 = .ok (.iconst 0, 1) := by decide +kernel
theorem dSe_countLeastCells_14 : decode cSe_countLeastCells 14 = .ok (.iastore, 1) := by decide +kernel
theorem dSe_countLeastCells_15 : decode cSe_countLeastCells 15 = .ok (.iload_n 2, 1) := by decide +kernel
theorem dSe_countLeastCells_16 : decode cSe_countLeastCells 16 = .ok (.iconst 1, 1) := by decide +kernel
theorem dSe_countLeastCells_17 : decode cSe_countLeastCells 17 = .ok (.isub, 1) := by decide +kernel
theorem dSe_countLeastCells_18 : decode cSe_countLeastCells 18 = .ok (.istore_n 3, 1) := by decide +kernel
theorem dSe_countLeastCells_19 : decode cSe_countLeastCells 19 = .ok (.iload_n 3, 1) := by decide +kernel
theorem dSe_countLeastCells_20 : decode cSe_countLeastCells 20 = .ok (.ifCond .lt 83, 3) := by decide +kernel
theorem dSe_countLeastCells_23 : decode cSe_countLeastCells 23 = .ok (.ldc 76, 2) := by decide +kernel
theorem dSe_countLeastCells_25 : decode cSe_countLeastCells 25 = .ok (.istore 4, 2) := by decide +kernel
theorem dSe_countLeastCells_27 : decode cSe_countLeastCells 27 = .ok (.iconst 0, 1) := by decide +kernel
theorem dSe_countLeastCells_28 : decode cSe_countLeastCells 28 = .ok (.istore 5, 2) := by decide +kernel
theorem dSe_countLeastCells_30 : decode cSe_countLeastCells 30 = .ok (.iload 5, 2) := by decide +kernel
theorem dSe_countLeastCells_32 : decode cSe_countLeastCells 32 = .ok (.aload_n 0, 1) := by decide +kernel
theorem dSe_countLeastCells_33 : decode cSe_countLeastCells 33 = .ok (.getfield 21, 3) := by decide +kernel
theorem dSe_countLeastCells_36 : decode cSe_countLeastCells 36 = .ok (.getfield 56, 3) := by decide +kernel
theorem dSe_countLeastCells_39 : decode cSe_countLeastCells 39 = .ok (.if_icmp .ge 50, 3) := by decide +kernel
theorem dSe_countLeastCells_42 : decode cSe_countLeastCells 42 = .ok (.iload_n 3, 1) := by decide +kernel
theorem dSe_countLeastCells_43 : decode cSe_countLeastCells 43 = .ok (.iconst 1, 1) := by decide +kernel
theorem dSe_countLeastCells_44 : decode cSe_countLeastCells 44 = .ok (.iload 5, 2) := by decide +kernel
theorem dSe_countLeastCells_46 : decode cSe_countLeastCells 46 = .ok (.ishl, 1) := by decide +kernel
theorem dSe_countLeastCells_47 : decode cSe_countLeastCells 47 = .ok (.ior, 1) := by decide +kernel
theorem dSe_countLeastCells_48 : decode cSe_countLeastCells 48 = .ok (.istore 6, 2) := by decide +kernel
theorem dSe_countLeastCells_50 : decode cSe_countLeastCells 50 = .ok (.iload 6, 2) := by decide +kernel
theorem dSe_countLeastCells_52 : decode cSe_countLeastCells 52 = .ok (.iload_n 3, 1) := by decide +kernel
theorem dSe_countLeastCells_53 : decode cSe_countLeastCells 53 = .ok (.if_icmp .eq 30, 3) := by decide +kernel
theorem dSe_countLeastCells_56 : decode cSe_countLeastCells 56 = .ok (.aload_n 0, 1) := by decide +kernel
theorem dSe_countLeastCells_57 : decode cSe_countLeastCells 57 = .ok (.getfield 18, 3) := by decide +kernel
theorem dSe_countLeastCells_60 : decode cSe_countLeastCells 60 = .ok (.iload 6, 2) := by decide +kernel
theorem dSe_countLeastCells_62 : decode cSe_countLeastCells 62 = .ok (.iaload, 1) := by decide +kernel
theorem dSe_countLeastCells_63 : decode cSe_countLeastCells 63 = .ok (.iload 4, 2) := by decide +kernel
theorem dSe_countLeastCells_65 : decode cSe_countLeastCells 65 = .ok (.if_icmp .ge 18, 3) := by decide +kernel
theorem dSe_countLeastCells_68 : decode cSe_countLeastCells 68 = .ok (.iload 4, 2) := by decide +kernel
theorem dSe_countLeastCells_70 : decode cSe_countLeastCells 70 = .ok (.aload_n 0, 1) := by decide +kernel
theorem dSe_countLeastCells_71 : decode cSe_countLeastCells 71 = .ok (.iload 5, 2) := by decide +kernel
theorem dSe_countLeastCells_73 : decode cSe_countLeastCells 73 = .ok (.iload_n 3, 1) := by decide +kernel
theorem dSe_countLeastCells_74 : decode cSe_countLeastCells 74 = .ok (.iload_n 1, 1) := by decide +kernel
theorem dSe_countLeastCells_75 : decode cSe_countLeastCells 75 = .ok (.invokevirtual 77, 3) := by decide +kernel
theorem dSe_countLeastCells_78 : decode cSe_countLeastCells 78 = .ok (.invokestatic 73, 3) := by decide +kernel
theorem dSe_countLeastCells_81 : decode cSe_countLeastCells 81 = .ok (.istore 4, 2) := by decide +kernel
theorem dSe_countLeastCells_83 : decode cSe_countLeastCells 83 = .ok (.iinc 5 1, 3) := by decide +kernel
theorem dSe_countLeastCells_86 : decode cSe_countLeastCells 86 = .ok (.goto (-56), 3) := by decide +kernel
theorem dSe_countLeastCells_89 : decode cSe_countLeastCells 89 = .ok (.aload_n 0, 1) := by decide +kernel
theorem dSe_countLeastCells_90 : decode cSe_countLeastCells 90 = .ok (.getfield 18, 3) := by decide +kernel
theorem dSe_countLeastCells_93 : decode cSe_countLeastCells 93 = .ok (.iload_n 3, 1) := by decide +kernel
theorem dSe_countLeastCells_94 : decode cSe_countLeastCells 94 = .ok (.iload 4, 2) := by decide +kernel
theorem dSe_countLeastCells_96 : decode cSe_countLeastCells 96 = .ok (.iastore, 1) := by decide +kernel
theorem dSe_countLeastCells_97 : decode cSe_countLeastCells 97 = .ok (.iinc 3 (-1), 3) := by decide +kernel
theorem dSe_countLeastCells_100 : decode cSe_countLeastCells 100 = .ok (.goto (-81), 3) := by decide +kernel
theorem dSe_countLeastCells_103 : decode cSe_countLeastCells 103 = .ok (.return_, 1) := by decide +kernel
abbrev cSe_cellsFrom : ByteArray := prog_5_method_7_code
def ySe_cellsFrom : MethodName := ⟨RSe, "cellsFrom", "(III)I"⟩
theorem dSe_cellsFrom_0 : decode cSe_cellsFrom 0 = .ok (.aload_n 0, 1) := by decide +kernel
theorem dSe_cellsFrom_1 : decode cSe_cellsFrom 1 = .ok (.getfield 21, 3) := by decide +kernel
theorem dSe_cellsFrom_4 : decode cSe_cellsFrom 4 = .ok (.iload_n 1, 1) := by decide +kernel
theorem dSe_cellsFrom_5 : decode cSe_cellsFrom 5 = .ok (.iload_n 2, 1) := by decide +kernel
theorem dSe_cellsFrom_6 : decode cSe_cellsFrom 6 = .ok (.invokevirtual 59, 3) := by decide +kernel
theorem dSe_cellsFrom_9 : decode cSe_cellsFrom 9 = .ok (.istore 4, 2) := by decide +kernel
theorem dSe_cellsFrom_11 : decode cSe_cellsFrom 11 = .ok (.iload 4, 2) := by decide +kernel
theorem dSe_cellsFrom_13 : decode cSe_cellsFrom 13 = .ok (.invokestatic 63, 3) := by decide +kernel
theorem dSe_cellsFrom_16 : decode cSe_cellsFrom 16 = .ok (.iconst 1, 1) := by decide +kernel
theorem dSe_cellsFrom_17 : decode cSe_cellsFrom 17 = .ok (.isub, 1) := by decide +kernel
theorem dSe_cellsFrom_18 : decode cSe_cellsFrom 18 = .ok (.iload_n 3, 1) := by decide +kernel
theorem dSe_cellsFrom_19 : decode cSe_cellsFrom 19 = .ok (.if_icmp .le 7, 3) := by decide +kernel
theorem dSe_cellsFrom_22 : decode cSe_cellsFrom 22 = .ok (.iconst 1, 1) := by decide +kernel
theorem dSe_cellsFrom_23 : decode cSe_cellsFrom 23 = .ok (.goto 4, 3) := by decide +kernel
theorem dSe_cellsFrom_26 : decode cSe_cellsFrom 26 = .ok (.iconst 0, 1) := by decide +kernel
theorem dSe_cellsFrom_27 : decode cSe_cellsFrom 27 = .ok (.istore 5, 2) := by decide +kernel
theorem dSe_cellsFrom_29 : decode cSe_cellsFrom 29 = .ok (.iload 5, 2) := by decide +kernel
theorem dSe_cellsFrom_31 : decode cSe_cellsFrom 31 = .ok (.ifCond .eq 8, 3) := by decide +kernel
theorem dSe_cellsFrom_34 : decode cSe_cellsFrom 34 = .ok (.ldc 76, 2) := by decide +kernel
theorem dSe_cellsFrom_36 : decode cSe_cellsFrom 36 = .ok (.goto 21, 3) := by decide +kernel
theorem dSe_cellsFrom_39 : decode cSe_cellsFrom 39 = .ok (.aload_n 0, 1) := by decide +kernel
theorem dSe_cellsFrom_40 : decode cSe_cellsFrom 40 = .ok (.getfield 15, 3) := by decide +kernel
theorem dSe_cellsFrom_43 : decode cSe_cellsFrom 43 = .ok (.iload 4, 2) := by decide +kernel
theorem dSe_cellsFrom_45 : decode cSe_cellsFrom 45 = .ok (.iaload, 1) := by decide +kernel
theorem dSe_cellsFrom_46 : decode cSe_cellsFrom 46 = .ok (.aload_n 0, 1) := by decide +kernel
theorem dSe_cellsFrom_47 : decode cSe_cellsFrom 47 = .ok (.getfield 18, 3) := by decide +kernel
theorem dSe_cellsFrom_50 : decode cSe_cellsFrom 50 = .ok (.iload_n 2, 1) := by decide +kernel
theorem dSe_cellsFrom_51 : decode cSe_cellsFrom 51 = .ok (.iconst 1, 1) := by decide +kernel
theorem dSe_cellsFrom_52 : decode cSe_cellsFrom 52 = .ok (.iload_n 1, 1) := by decide +kernel
theorem dSe_cellsFrom_53 : decode cSe_cellsFrom 53 = .ok (.ishl, 1) := by decide +kernel
theorem dSe_cellsFrom_54 : decode cSe_cellsFrom 54 = .ok (.ior, 1) := by decide +kernel
theorem dSe_cellsFrom_55 : decode cSe_cellsFrom 55 = .ok (.iaload, 1) := by decide +kernel
theorem dSe_cellsFrom_56 : decode cSe_cellsFrom 56 = .ok (.iadd, 1) := by decide +kernel
theorem dSe_cellsFrom_57 : decode cSe_cellsFrom 57 = .ok (.ireturn, 1) := by decide +kernel
abbrev cSe_follow : ByteArray := prog_5_method_8_code
def ySe_follow : MethodName := ⟨RSe, "follow", "(I)V"⟩
theorem dSe_follow_0 : decode cSe_follow 0 = .ok (.iconst 0, 1) := by decide +kernel
theorem dSe_follow_1 : decode cSe_follow 1 = .ok (.istore_n 2, 1) := by decide +kernel
theorem dSe_follow_2 : decode cSe_follow 2 = .ok (.iconst 0, 1) := by decide +kernel
theorem dSe_follow_3 : decode cSe_follow 3 = .ok (.istore_n 3, 1) := by decide +kernel
theorem dSe_follow_4 : decode cSe_follow 4 = .ok (.iload_n 3, 1) := by decide +kernel
theorem dSe_follow_5 : decode cSe_follow 5 = .ok (.aload_n 0, 1) := by decide +kernel
theorem dSe_follow_6 : decode cSe_follow 6 = .ok (.getfield 21, 3) := by decide +kernel
theorem dSe_follow_9 : decode cSe_follow 9 = .ok (.getfield 56, 3) := by decide +kernel
theorem dSe_follow_12 : decode cSe_follow 12 = .ok (.if_icmp .ge 86, 3) := by decide +kernel
theorem dSe_follow_15 : decode cSe_follow 15 = .ok (.iconst 0, 1) := by decide +kernel
theorem dSe_follow_16 : decode cSe_follow 16 = .ok (.istore 4, 2) := by decide +kernel
theorem dSe_follow_18 : decode cSe_follow 18 = .ok (.iload 4, 2) := by decide +kernel
theorem dSe_follow_20 : decode cSe_follow 20 = .ok (.aload_n 0, 1) := by decide +kernel
theorem dSe_follow_21 : decode cSe_follow 21 = .ok (.getfield 21, 3) := by decide +kernel
theorem dSe_follow_24 : decode cSe_follow 24 = .ok (.getfield 56, 3) := by decide +kernel
theorem dSe_follow_27 : decode cSe_follow 27 = .ok (.if_icmp .ge 65, 3) := by decide +kernel
theorem dSe_follow_30 : decode cSe_follow 30 = .ok (.iload_n 2, 1) := by decide +kernel
theorem dSe_follow_31 : decode cSe_follow 31 = .ok (.iconst 1, 1) := by decide +kernel
theorem dSe_follow_32 : decode cSe_follow 32 = .ok (.iload 4, 2) := by decide +kernel
theorem dSe_follow_34 : decode cSe_follow 34 = .ok (.ishl, 1) := by decide +kernel
theorem dSe_follow_35 : decode cSe_follow 35 = .ok (.iand, 1) := by decide +kernel
theorem dSe_follow_36 : decode cSe_follow 36 = .ok (.ifCond .ne 7, 3) := by decide +kernel
theorem dSe_follow_39 : decode cSe_follow 39 = .ok (.iconst 1, 1) := by decide +kernel
theorem dSe_follow_40 : decode cSe_follow 40 = .ok (.goto 4, 3) := by decide +kernel
theorem dSe_follow_43 : decode cSe_follow 43 = .ok (.iconst 0, 1) := by decide +kernel
theorem dSe_follow_44 : decode cSe_follow 44 = .ok (.istore 5, 2) := by decide +kernel
theorem dSe_follow_46 : decode cSe_follow 46 = .ok (.iload 5, 2) := by decide +kernel
theorem dSe_follow_48 : decode cSe_follow 48 = .ok (.ifCond .eq 38, 3) := by decide +kernel
theorem dSe_follow_51 : decode cSe_follow 51 = .ok (.aload_n 0, 1) := by decide +kernel
theorem dSe_follow_52 : decode cSe_follow 52 = .ok (.iload 4, 2) := by decide +kernel
theorem dSe_follow_54 : decode cSe_follow 54 = .ok (.iload_n 2, 1) := by decide +kernel
theorem dSe_follow_55 : decode cSe_follow 55 = .ok (.iload_n 1, 1) := by decide +kernel
theorem dSe_follow_56 : decode cSe_follow 56 = .ok (.invokevirtual 77, 3) := by decide +kernel
theorem dSe_follow_59 : decode cSe_follow 59 = .ok (.aload_n 0, 1) := by decide +kernel
theorem dSe_follow_60 : decode cSe_follow 60 = .ok (.getfield 18, 3) := by decide +kernel
theorem dSe_follow_63 : decode cSe_follow 63 = .ok (.iload_n 2, 1) := by decide +kernel
theorem dSe_follow_64 : decode cSe_follow 64 = .ok (.iaload, 1) := by decide +kernel
theorem dSe_follow_65 : decode cSe_follow 65 = .ok (.if_icmp .ne 21, 3) := by decide +kernel
theorem dSe_follow_68 : decode cSe_follow 68 = .ok (.aload_n 0, 1) := by decide +kernel
theorem dSe_follow_69 : decode cSe_follow 69 = .ok (.getfield 9, 3) := by decide +kernel
theorem dSe_follow_72 : decode cSe_follow 72 = .ok (.iload_n 3, 1) := by decide +kernel
theorem dSe_follow_73 : decode cSe_follow 73 = .ok (.iload 4, 2) := by decide +kernel
theorem dSe_follow_75 : decode cSe_follow 75 = .ok (.iastore, 1) := by decide +kernel
theorem dSe_follow_76 : decode cSe_follow 76 = .ok (.iload_n 2, 1) := by decide +kernel
theorem dSe_follow_77 : decode cSe_follow 77 = .ok (.iconst 1, 1) := by decide +kernel
theorem dSe_follow_78 : decode cSe_follow 78 = .ok (.iload 4, 2) := by decide +kernel
theorem dSe_follow_80 : decode cSe_follow 80 = .ok (.ishl, 1) := by decide +kernel
theorem dSe_follow_81 : decode cSe_follow 81 = .ok (.ior, 1) := by decide +kernel
theorem dSe_follow_82 : decode cSe_follow 82 = .ok (.istore_n 2, 1) := by decide +kernel
theorem dSe_follow_83 : decode cSe_follow 83 = .ok (.goto 9, 3) := by decide +kernel
theorem dSe_follow_86 : decode cSe_follow 86 = .ok (.iinc 4 1, 3) := by decide +kernel
theorem dSe_follow_89 : decode cSe_follow 89 = .ok (.goto (-71), 3) := by decide +kernel
theorem dSe_follow_92 : decode cSe_follow 92 = .ok (.iinc 3 1, 3) := by decide +kernel
theorem dSe_follow_95 : decode cSe_follow 95 = .ok (.goto (-91), 3) := by decide +kernel
theorem dSe_follow_98 : decode cSe_follow 98 = .ok (.return_, 1) := by decide +kernel
