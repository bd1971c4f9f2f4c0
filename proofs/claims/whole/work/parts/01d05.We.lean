abbrev cWe_init : ByteArray := prog_7_method_1_code
def yWe_init : MethodName := ⟨RWe, "<init>", "(LTableOrders$Graph;LTableOrders$Factors;)V"⟩
theorem dWe_init_0 : decode cWe_init 0 = .ok (.aload_n 0, 1) := by decide +kernel
theorem dWe_init_1 : decode cWe_init 1 = .ok (.invokespecial 3, 3) := by decide +kernel
theorem dWe_init_4 : decode cWe_init 4 = .ok (.aload_n 0, 1) := by decide +kernel
theorem dWe_init_5 : decode cWe_init 5 = .ok (.bipush 12, 2) := by decide +kernel
theorem dWe_init_7 : decode cWe_init 7 = .ok (.newarray .int, 2) := by decide +kernel
theorem dWe_init_9 : decode cWe_init 9 = .ok (.putfield 9, 3) := by decide +kernel
theorem dWe_init_12 : decode cWe_init 12 = .ok (.aload_n 0, 1) := by decide +kernel
theorem dWe_init_13 : decode cWe_init 13 = .ok (.bipush 12, 2) := by decide +kernel
theorem dWe_init_15 : decode cWe_init 15 = .ok (.newarray .int, 2) := by decide +kernel
theorem dWe_init_17 : decode cWe_init 17 = .ok (.putfield 15, 3) := by decide +kernel
theorem dWe_init_20 : decode cWe_init 20 = .ok (.aload_n 0, 1) := by decide +kernel
theorem dWe_init_21 : decode cWe_init 21 = .ok (.bipush 48, 2) := by decide +kernel
theorem dWe_init_23 : decode cWe_init 23 = .ok (.newarray .long, 2) := by decide +kernel
theorem dWe_init_25 : decode cWe_init 25 = .ok (.putfield 18, 3) := by decide +kernel
theorem dWe_init_28 : decode cWe_init 28 = .ok (.aload_n 0, 1) := by decide +kernel
theorem dWe_init_29 : decode cWe_init 29 = .ok (.ldc 22, 2) := by decide +kernel
theorem dWe_init_31 : decode cWe_init 31 = .ok (.newarray .long, 2) := by decide +kernel
theorem dWe_init_33 : decode cWe_init 33 = .ok (.putfield 23, 3) := by decide +kernel
theorem dWe_init_36 : decode cWe_init 36 = .ok (.aload_n 0, 1) := by decide +kernel
theorem dWe_init_37 : decode cWe_init 37 = .ok (.bipush 24, 2) := by decide +kernel
theorem dWe_init_39 : decode cWe_init 39 = .ok (.newarray .long, 2) := by decide +kernel
theorem dWe_init_41 : decode cWe_init 41 = .ok (.putfield 26, 3) := by decide +kernel
theorem dWe_init_44 : decode cWe_init 44 = .ok (.aload_n 0, 1) := by decide +kernel
theorem dWe_init_45 : decode cWe_init 45 = .ok (.bipush 24, 2) := by decide +kernel
theorem dWe_init_47 : decode cWe_init 47 = .ok (.newarray .int, 2) := by decide +kernel
theorem dWe_init_49 : decode cWe_init 49 = .ok (.putfield 29, 3) := by decide +kernel
theorem dWe_init_52 : decode cWe_init 52 = .ok (.aload_n 0, 1) := by decide +kernel
theorem dWe_init_53 : decode cWe_init 53 = .ok (.aload_n 1, 1) := by decide +kernel
theorem dWe_init_54 : decode cWe_init 54 = .ok (.putfield 32, 3) := by decide +kernel
theorem dWe_init_57 : decode cWe_init 57 = .ok (.aload_n 0, 1) := by decide +kernel
theorem dWe_init_58 : decode cWe_init 58 = .ok (.aload_n 2, 1) := by decide +kernel
theorem dWe_init_59 : decode cWe_init 59 = .ok (.putfield 36, 3) := by decide +kernel
theorem dWe_init_62 : decode cWe_init 62 = .ok (.aload_n 0, 1) := by decide +kernel
theorem dWe_init_63 : decode cWe_init 63 = .ok (.getfield 9, 3) := by decide +kernel
theorem dWe_init_66 : decode cWe_init 66 = .ok (.iconst (-1), 1) := by decide +kernel
theorem dWe_init_67 : decode cWe_init 67 = .ok (.invokestatic 40, 3) := by decide +kernel
theorem dWe_init_70 : decode cWe_init 70 = .ok (.return_, 1) := by decide +kernel
abbrev cWe_forget : ByteArray := prog_7_method_2_code
def yWe_forget : MethodName := ⟨RWe, "forget", "()V"⟩
theorem dWe_forget_0 : decode cWe_forget 0 = .ok (.aload_n 0, 1) := by decide +kernel
theorem dWe_forget_1 : decode cWe_forget 1 = .ok (.iconst 0, 1) := by decide +kernel
theorem dWe_forget_2 : decode cWe_forget 2 = .ok (.putfield 46, 3) := by decide +kernel
theorem dWe_forget_5 : decode cWe_forget 5 = .ok (.return_, 1) := by decide +kernel
abbrev cWe_weightOf : ByteArray := prog_7_method_3_code
def yWe_weightOf : MethodName := ⟨RWe, "weightOf", "(I)J"⟩
theorem dWe_weightOf_0 : decode cWe_weightOf 0 = .ok (.iconst 0, 1) := by decide +kernel
theorem dWe_weightOf_1 : decode cWe_weightOf 1 = .ok (.istore_n 2, 1) := by decide +kernel
theorem dWe_weightOf_2 : decode cWe_weightOf 2 = .ok (.iload_n 2, 1) := by decide +kernel
theorem dWe_weightOf_3 : decode cWe_weightOf 3 = .ok (.aload_n 0, 1) := by decide +kernel
theorem dWe_weightOf_4 : decode cWe_weightOf 4 = .ok (.getfield 32, 3) := by decide +kernel
theorem dWe_weightOf_7 : decode cWe_weightOf 7 = .ok (.getfield 50, 3) := by decide +kernel
theorem dWe_weightOf_10 : decode cWe_weightOf 10 = .ok (.if_icmp .ge 48, 3) := by decide +kernel
theorem dWe_weightOf_13 : decode cWe_weightOf 13 = .ok (.aload_n 0, 1) := by decide +kernel
theorem dWe_weightOf_14 : decode cWe_weightOf 14 = .ok (.getfield 32, 3) := by decide +kernel
theorem dWe_weightOf_17 : decode cWe_weightOf 17 = .ok (.iload_n 1, 1) := by decide +kernel
theorem dWe_weightOf_18 : decode cWe_weightOf 18 = .ok (.iload_n 2, 1) := by decide +kernel
theorem dWe_weightOf_19 : decode cWe_weightOf 19 = .ok (.invokevirtual 56, 3) := by decide +kernel
theorem dWe_weightOf_22 : decode cWe_weightOf 22 = .ok (.istore_n 3, 1) := by decide +kernel
theorem dWe_weightOf_23 : decode cWe_weightOf 23 = .ok (.aload_n 0, 1) := by decide +kernel
theorem dWe_weightOf_24 : decode cWe_weightOf 24 = .ok (.getfield 9, 3) := by decide +kernel
theorem dWe_weightOf_27 : decode cWe_weightOf 27 = .ok (.iload_n 2, 1) := by decide +kernel
theorem dWe_weightOf_28 : decode cWe_weightOf 28 = .ok (.iaload, 1) := by decide +kernel
theorem dWe_weightOf_29 : decode cWe_weightOf 29 = .ok (.iconst (-1), 1) := by decide +kernel
theorem dWe_weightOf_30 : decode cWe_weightOf 30 = .ok (.if_icmp .eq 15, 3) := by decide +kernel
theorem dWe_weightOf_33 : decode cWe_weightOf 33 = .ok (.aload_n 0, 1) := by decide +kernel
theorem dWe_weightOf_34 : decode cWe_weightOf 34 = .ok (.getfield 9, 3) := by decide +kernel
theorem dWe_weightOf_37 : decode cWe_weightOf 37 = .ok (.iload_n 2, 1) := by decide +kernel
theorem dWe_weightOf_38 : decode cWe_weightOf 38 = .ok (.iaload, 1) := by decide +kernel
theorem dWe_weightOf_39 : decode cWe_weightOf 39 = .ok (.iload_n 3, 1) := by decide +kernel
theorem dWe_weightOf_40 : decode cWe_weightOf 40 = .ok (.if_icmp .eq 5, 3) := by decide +kernel
theorem dWe_weightOf_43 : decode cWe_weightOf 43 = .ok (.lconst 0, 1) := by decide +kernel
theorem dWe_weightOf_44 : decode cWe_weightOf 44 = .ok (.lreturn, 1) := by decide +kernel
theorem dWe_weightOf_45 : decode cWe_weightOf 45 = .ok (.aload_n 0, 1) := by decide +kernel
theorem dWe_weightOf_46 : decode cWe_weightOf 46 = .ok (.getfield 15, 3) := by decide +kernel
theorem dWe_weightOf_49 : decode cWe_weightOf 49 = .ok (.iload_n 2, 1) := by decide +kernel
theorem dWe_weightOf_50 : decode cWe_weightOf 50 = .ok (.iload_n 3, 1) := by decide +kernel
theorem dWe_weightOf_51 : decode cWe_weightOf 51 = .ok (.iastore, 1) := by decide +kernel
theorem dWe_weightOf_52 : decode cWe_weightOf 52 = .ok (.iinc 2 1, 3) := by decide +kernel
theorem dWe_weightOf_55 : decode cWe_weightOf 55 = .ok (.goto (-53), 3) := by decide +kernel
theorem dWe_weightOf_58 : decode cWe_weightOf 58 = .ok (.aload_n 0, 1) := by decide +kernel
theorem dWe_weightOf_59 : decode cWe_weightOf 59 = .ok (.getfield 36, 3) := by decide +kernel
theorem dWe_weightOf_62 : decode cWe_weightOf 62 = .ok (.aload_n 0, 1) := by decide +kernel
theorem dWe_weightOf_63 : decode cWe_weightOf 63 = .ok (.getfield 15, 3) := by decide +kernel
theorem dWe_weightOf_66 : decode cWe_weightOf 66 = .ok (.invokevirtual 60, 3) := by decide +kernel
theorem dWe_weightOf_69 : decode cWe_weightOf 69 = .ok (.lreturn, 1) := by decide +kernel
abbrev cWe_refresh : ByteArray := prog_7_method_4_code
def yWe_refresh : MethodName := ⟨RWe, "refresh", "()V"⟩
theorem dWe_refresh_0 : decode cWe_refresh 0 = .ok (.aload_n 0, 1) := by decide +kernel
theorem dWe_refresh_1 : decode cWe_refresh 1 = .ok (.getfield 46, 3) := by decide +kernel
theorem dWe_refresh_4 : decode cWe_refresh 4 = .ok (.ifCond .eq 4, 3) := by decide +kernel
theorem dWe_refresh_7 : decode cWe_refresh 7 = .ok (.return_, 1) := by decide +kernel
theorem dWe_refresh_8 : decode cWe_refresh 8 = .ok (.iconst 0, 1) := by decide +kernel
theorem dWe_refresh_9 : decode cWe_refresh 9 = .ok (.istore_n 1, 1) := by decide +kernel
theorem dWe_refresh_10 : decode cWe_refresh 10 = .ok (.iload_n 1, 1) := by decide +kernel
theorem dWe_refresh_11 : decode cWe_refresh 11 = .ok (.aload_n 0, 1) := by decide +kernel
theorem dWe_refresh_12 : decode cWe_refresh 12 = .ok (.getfield 32, 3) := by decide +kernel
theorem dWe_refresh_15 : decode cWe_refresh 15 = .ok (.getfield 66, 3) := by decide +kernel
theorem dWe_refresh_18 : decode cWe_refresh 18 = .ok (.if_icmp .ge 16, 3) := by decide +kernel
theorem dWe_refresh_21 : decode cWe_refresh 21 = .ok (.aload_n 0, 1) := by decide +kernel
theorem dWe_refresh_22 : decode cWe_refresh 22 = .ok (.getfield 23, 3) := by decide +kernel
theorem dWe_refresh_25 : decode cWe_refresh 25 = .ok (.iload_n 1, 1) := by decide +kernel
theorem dWe_refresh_26 : decode cWe_refresh 26 = .ok (.lconst 0, 1) := by decide +kernel
theorem dWe_refresh_27 : decode cWe_refresh 27 = .ok (.lastore, 1) := by decide +kernel
theorem dWe_refresh_28 : decode cWe_refresh 28 = .ok (.iinc 1 1, 3) := by decide +kernel
theorem dWe_refresh_31 : decode cWe_refresh 31 = .ok (.goto (-21), 3) := by decide +kernel
theorem dWe_refresh_34 : decode cWe_refresh 34 = .ok (.aload_n 0, 1) := by decide +kernel
theorem dWe_refresh_35 : decode cWe_refresh 35 = .ok (.iconst 0, 1) := by decide +kernel
theorem dWe_refresh_36 : decode cWe_refresh 36 = .ok (.putfield 69, 3) := by decide +kernel
theorem dWe_refresh_39 : decode cWe_refresh 39 = .ok (.aload_n 0, 1) := by decide +kernel
theorem dWe_refresh_40 : decode cWe_refresh 40 = .ok (.iconst 0, 1) := by decide +kernel
theorem dWe_refresh_41 : decode cWe_refresh 41 = .ok (.putfield 72, 3) := by decide +kernel
theorem dWe_refresh_44 : decode cWe_refresh 44 = .ok (.aload_n 0, 1) := by decide +kernel
theorem dWe_refresh_45 : decode cWe_refresh 45 = .ok (.lconst 0, 1) := by decide +kernel
theorem dWe_refresh_46 : decode cWe_refresh 46 = .ok (.putfield 75, 3) := by decide +kernel
theorem dWe_refresh_49 : decode cWe_refresh 49 = .ok (.aload_n 0, 1) := by decide +kernel
theorem dWe_refresh_50 : decode cWe_refresh 50 = .ok (.getfield 36, 3) := by decide +kernel
theorem dWe_refresh_53 : decode cWe_refresh 53 = .ok (.invokevirtual 79, 3) := by decide +kernel
theorem dWe_refresh_56 : decode cWe_refresh 56 = .ok (.lstore_n 1, 1) := by decide +kernel
theorem dWe_refresh_57 : decode cWe_refresh 57 = .ok (.lload_n 1, 1) := by decide +kernel
theorem dWe_refresh_58 : decode cWe_refresh 58 = .ok (.lconst 0, 1) := by decide +kernel
theorem dWe_refresh_59 : decode cWe_refresh 59 = .ok (.lcmp, 1) := by decide +kernel
theorem dWe_refresh_60 : decode cWe_refresh 60 = .ok (.ifCond .le 10, 3) := by decide +kernel
theorem dWe_refresh_63 : decode cWe_refresh 63 = .ok (.aload_n 0, 1) := by decide +kernel
theorem dWe_refresh_64 : decode cWe_refresh 64 = .ok (.iconst 0, 1) := by decide +kernel
theorem dWe_refresh_65 : decode cWe_refresh 65 = .ok (.iconst 0, 1) := by decide +kernel
theorem dWe_refresh_66 : decode cWe_refresh 66 = .ok (.lload_n 1, 1) := by decide +kernel
theorem dWe_refresh_67 : decode cWe_refresh 67 = .ok (.invokevirtual 83, 3) := by decide +kernel
theorem dWe_refresh_70 : decode cWe_refresh 70 = .ok (.aload_n 0, 1) := by decide +kernel
theorem dWe_refresh_71 : decode cWe_refresh 71 = .ok (.iconst 1, 1) := by decide +kernel
theorem dWe_refresh_72 : decode cWe_refresh 72 = .ok (.putfield 46, 3) := by decide +kernel
theorem dWe_refresh_75 : decode cWe_refresh 75 = .ok (.return_, 1) := by decide +kernel
abbrev cWe_choose : ByteArray := prog_7_method_5_code
def yWe_choose : MethodName := ⟨RWe, "choose", "(IIJ)V"⟩
theorem dWe_choose_0 : decode cWe_choose 0 = .ok (.iload_n 1, 1) := by decide +kernel
theorem dWe_choose_1 : decode cWe_choose 1 = .ok (.aload_n 0, 1) := by decide +kernel
theorem dWe_choose_2 : decode cWe_choose 2 = .ok (.getfield 32, 3) := by decide +kernel
theorem dWe_choose_5 : decode cWe_choose 5 = .ok (.getfield 50, 3) := by decide +kernel
theorem dWe_choose_8 : decode cWe_choose 8 = .ok (.if_icmp .lt 10, 3) := by decide +kernel
theorem dWe_choose_11 : decode cWe_choose 11 = .ok (.aload_n 0, 1) := by decide +kernel
theorem dWe_choose_12 : decode cWe_choose 12 = .ok (.iload_n 2, 1) := by decide +kernel
theorem dWe_choose_13 : decode cWe_choose 13 = .ok (.lload_n 3, 1) := by decide +kernel
theorem dWe_choose_14 : decode cWe_choose 14 = .ok (.invokevirtual 87, 3) := by decide +kernel
theorem dWe_choose_17 : decode cWe_choose 17 = .ok (.return_, 1) := by decide +kernel
theorem dWe_choose_18 : decode cWe_choose 18 = .ok (.iload_n 1, 1) := by decide +kernel
theorem dWe_choose_19 : decode cWe_choose 19 = .ok (.iconst 4, 1) := by decide +kernel
theorem dWe_choose_20 : decode cWe_choose 20 = .ok (.imul, 1) := by decide +kernel
theorem dWe_choose_21 : decode cWe_choose 21 = .ok (.istore 5, 2) := by decide +kernel
theorem dWe_choose_23 : decode cWe_choose 23 = .ok (.aload_n 0, 1) := by decide +kernel
theorem dWe_choose_24 : decode cWe_choose 24 = .ok (.getfield 32, 3) := by decide +kernel
theorem dWe_choose_27 : decode cWe_choose 27 = .ok (.getfield 91, 3) := by decide +kernel
theorem dWe_choose_30 : decode cWe_choose 30 = .ok (.iload_n 1, 1) := by decide +kernel
theorem dWe_choose_31 : decode cWe_choose 31 = .ok (.iaload, 1) := by decide +kernel
theorem dWe_choose_32 : decode cWe_choose 32 = .ok (.istore 6, 2) := by decide +kernel
theorem dWe_choose_34 : decode cWe_choose 34 = .ok (.iconst 0, 1) := by decide +kernel
theorem dWe_choose_35 : decode cWe_choose 35 = .ok (.istore 7, 2) := by decide +kernel
theorem dWe_choose_37 : decode cWe_choose 37 = .ok (.iload 7, 2) := by decide +kernel
theorem dWe_choose_39 : decode cWe_choose 39 = .ok (.iload 6, 2) := by decide +kernel
theorem dWe_choose_41 : decode cWe_choose 41 = .ok (.if_icmp .ge 45, 3) := by decide +kernel
theorem dWe_choose_44 : decode cWe_choose 44 = .ok (.aload_n 0, 1) := by decide +kernel
theorem dWe_choose_45 : decode cWe_choose 45 = .ok (.getfield 18, 3) := by decide +kernel
theorem dWe_choose_48 : decode cWe_choose 48 = .ok (.iload 5, 2) := by decide +kernel
theorem dWe_choose_50 : decode cWe_choose 50 = .ok (.iload 7, 2) := by decide +kernel
theorem dWe_choose_52 : decode cWe_choose 52 = .ok (.iadd, 1) := by decide +kernel
theorem dWe_choose_53 : decode cWe_choose 53 = .ok (.aload_n 0, 1) := by decide +kernel
theorem dWe_choose_54 : decode cWe_choose 54 = .ok (.getfield 9, 3) := by decide +kernel
theorem dWe_choose_57 : decode cWe_choose 57 = .ok (.iload_n 1, 1) := by decide +kernel
theorem dWe_choose_58 : decode cWe_choose 58 = .ok (.iaload, 1) := by decide +kernel
theorem dWe_choose_59 : decode cWe_choose 59 = .ok (.iconst (-1), 1) := by decide +kernel
theorem dWe_choose_60 : decode cWe_choose 60 = .ok (.if_icmp .eq 14, 3) := by decide +kernel
theorem dWe_choose_63 : decode cWe_choose 63 = .ok (.aload_n 0, 1) := by decide +kernel
theorem dWe_choose_64 : decode cWe_choose 64 = .ok (.getfield 9, 3) := by decide +kernel
theorem dWe_choose_67 : decode cWe_choose 67 = .ok (.iload_n 1, 1) := by decide +kernel
theorem dWe_choose_68 : decode cWe_choose 68 = .ok (.iaload, 1) := by decide +kernel
theorem dWe_choose_69 : decode cWe_choose 69 = .ok (.iload 7, 2) := by decide +kernel
theorem dWe_choose_71 : decode cWe_choose 71 = .ok (.if_icmp .ne 7, 3) := by decide +kernel
theorem dWe_choose_74 : decode cWe_choose 74 = .ok (.lload_n 3, 1) := by decide +kernel
theorem dWe_choose_75 : decode cWe_choose 75 = .ok (.goto 4, 3) := by decide +kernel
theorem dWe_choose_78 : decode cWe_choose 78 = .ok (.lconst 0, 1) := by decide +kernel
theorem dWe_choose_79 : decode cWe_choose 79 = .ok (.lastore, 1) := by decide +kernel
theorem dWe_choose_80 : decode cWe_choose 80 = .ok (.iinc 7 1, 3) := by decide +kernel
theorem dWe_choose_83 : decode cWe_choose 83 = .ok (.goto (-46), 3) := by decide +kernel
theorem dWe_choose_86 : decode cWe_choose 86 = .ok (.aload_n 0, 1) := by decide +kernel
theorem dWe_choose_87 : decode cWe_choose 87 = .ok (.getfield 15, 3) := by decide +kernel
theorem dWe_choose_90 : decode cWe_choose 90 = .ok (.iload_n 1, 1) := by decide +kernel
theorem dWe_choose_91 : decode cWe_choose 91 = .ok (.iconst 0, 1) := by decide +kernel
theorem dWe_choose_92 : decode cWe_choose 92 = .ok (.iastore, 1) := by decide +kernel
theorem dWe_choose_93 : decode cWe_choose 93 = .ok (.aload_n 0, 1) := by decide +kernel
theorem dWe_choose_94 : decode cWe_choose 94 = .ok (.getfield 36, 3) := by decide +kernel
theorem dWe_choose_97 : decode cWe_choose 97 = .ok (.iload_n 1, 1) := by decide +kernel
theorem dWe_choose_98 : decode cWe_choose 98 = .ok (.aload_n 0, 1) := by decide +kernel
theorem dWe_choose_99 : decode cWe_choose 99 = .ok (.getfield 18, 3) := by decide +kernel
theorem dWe_choose_102 : decode cWe_choose 102 = .ok (.iload 5, 2) := by decide +kernel
theorem dWe_choose_104 : decode cWe_choose 104 = .ok (.aload_n 0, 1) := by decide +kernel
theorem dWe_choose_105 : decode cWe_choose 105 = .ok (.getfield 15, 3) := by decide +kernel
theorem dWe_choose_108 : decode cWe_choose 108 = .ok (.invokevirtual 94, 3) := by decide +kernel
theorem dWe_choose_111 : decode cWe_choose 111 = .ok (.iconst 0, 1) := by decide +kernel
theorem dWe_choose_112 : decode cWe_choose 112 = .ok (.istore 7, 2) := by decide +kernel
theorem dWe_choose_114 : decode cWe_choose 114 = .ok (.iload 7, 2) := by decide +kernel
theorem dWe_choose_116 : decode cWe_choose 116 = .ok (.iload 6, 2) := by decide +kernel
theorem dWe_choose_118 : decode cWe_choose 118 = .ok (.if_icmp .ge 56, 3) := by decide +kernel
theorem dWe_choose_121 : decode cWe_choose 121 = .ok (.aload_n 0, 1) := by decide +kernel
theorem dWe_choose_122 : decode cWe_choose 122 = .ok (.getfield 18, 3) := by decide +kernel
theorem dWe_choose_125 : decode cWe_choose 125 = .ok (.iload 5, 2) := by decide +kernel
theorem dWe_choose_127 : decode cWe_choose 127 = .ok (.iload 7, 2) := by decide +kernel
theorem dWe_choose_129 : decode cWe_choose 129 = .ok (.iadd, 1) := by decide +kernel
theorem dWe_choose_130 : decode cWe_choose 130 = .ok (.laload, 1) := by decide +kernel
theorem dWe_choose_131 : decode cWe_choose 131 = .ok (.lconst 0, 1) := by decide +kernel
theorem dWe_choose_132 : decode cWe_choose 132 = .ok (.lcmp, 1) := by decide +kernel
theorem dWe_choose_133 : decode cWe_choose 133 = .ok (.ifCond .le 35, 3) := by decide +kernel
theorem dWe_choose_136 : decode cWe_choose 136 = .ok (.aload_n 0, 1) := by decide +kernel
theorem dWe_choose_137 : decode cWe_choose 137 = .ok (.getfield 15, 3) := by decide +kernel
theorem dWe_choose_140 : decode cWe_choose 140 = .ok (.iload_n 1, 1) := by decide +kernel
theorem dWe_choose_141 : decode cWe_choose 141 = .ok (.iload 7, 2) := by decide +kernel
theorem dWe_choose_143 : decode cWe_choose 143 = .ok (.iastore, 1) := by decide +kernel
theorem dWe_choose_144 : decode cWe_choose 144 = .ok (.aload_n 0, 1) := by decide +kernel
theorem dWe_choose_145 : decode cWe_choose 145 = .ok (.iload_n 1, 1) := by decide +kernel
theorem dWe_choose_146 : decode cWe_choose 146 = .ok (.iconst 1, 1) := by decide +kernel
theorem dWe_choose_147 : decode cWe_choose 147 = .ok (.iadd, 1) := by decide +kernel
theorem dWe_choose_148 : decode cWe_choose 148 = .ok (.iload_n 2, 1) := by decide +kernel
theorem dWe_choose_149 : decode cWe_choose 149 = .ok (.iload 6, 2) := by decide +kernel
theorem dWe_choose_151 : decode cWe_choose 151 = .ok (.imul, 1) := by decide +kernel
theorem dWe_choose_152 : decode cWe_choose 152 = .ok (.iload 7, 2) := by decide +kernel
theorem dWe_choose_154 : decode cWe_choose 154 = .ok (.iadd, 1) := by decide +kernel
theorem dWe_choose_155 : decode cWe_choose 155 = .ok (.aload_n 0, 1) := by decide +kernel
theorem dWe_choose_156 : decode cWe_choose 156 = .ok (.getfield 18, 3) := by decide +kernel
theorem dWe_choose_159 : decode cWe_choose 159 = .ok (.iload 5, 2) := by decide +kernel
theorem dWe_choose_161 : decode cWe_choose 161 = .ok (.iload 7, 2) := by decide +kernel
theorem dWe_choose_163 : decode cWe_choose 163 = .ok (.iadd, 1) := by decide +kernel
theorem dWe_choose_164 : decode cWe_choose 164 = .ok (.laload, 1) := by decide +kernel
theorem dWe_choose_165 : decode cWe_choose 165 = .ok (.invokevirtual 83, 3) := by decide +kernel
theorem dWe_choose_168 : decode cWe_choose 168 = .ok (.iinc 7 1, 3) := by decide +kernel
theorem dWe_choose_171 : decode cWe_choose 171 = .ok (.goto (-57), 3) := by decide +kernel
theorem dWe_choose_174 : decode cWe_choose 174 = .ok (.return_, 1) := by decide +kernel
abbrev cWe_keep : ByteArray := prog_7_method_6_code
def yWe_keep : MethodName := ⟨RWe, "keep", "(IJ)V"⟩
theorem dWe_keep_0 : decode cWe_keep 0 = .ok (.iload_n 1, 1) := by decide +kernel
theorem dWe_keep_1 : decode cWe_keep 1 = .ok (.aload_n 0, 1) := by decide +kernel
theorem dWe_keep_2 : decode cWe_keep 2 = .ok (.getfield 23, 3) := by decide +kernel
theorem dWe_keep_5 : decode cWe_keep 5 = .ok (.arraylength, 1) := by decide +kernel
theorem dWe_keep_6 : decode cWe_keep 6 = .ok (.if_icmp .ge 57, 3) := by decide +kernel
theorem dWe_keep_9 : decode cWe_keep 9 = .ok (.aload_n 0, 1) := by decide +kernel
theorem dWe_keep_10 : decode cWe_keep 10 = .ok (.getfield 23, 3) := by decide +kernel
theorem dWe_keep_13 : decode cWe_keep 13 = .ok (.iload_n 1, 1) := by decide +kernel
theorem dWe_keep_14 : decode cWe_keep 14 = .ok (.lload_n 2, 1) := by decide +kernel
theorem dWe_keep_15 : decode cWe_keep 15 = .ok (.lastore, 1) := by decide +kernel
theorem dWe_keep_16 : decode cWe_keep 16 = .ok (.aload_n 0, 1) := by decide +kernel
theorem dWe_keep_17 : decode cWe_keep 17 = .ok (.dup, 1) := by decide +kernel
theorem dWe_keep_18 : decode cWe_keep 18 = .ok (.getfield 75, 3) := by decide +kernel
theorem dWe_keep_21 : decode cWe_keep 21 = .ok (.lload_n 2, 1) := by decide +kernel
theorem dWe_keep_22 : decode cWe_keep 22 = .ok (.ladd, 1) := by decide +kernel
theorem dWe_keep_23 : decode cWe_keep 23 = .ok (.putfield 75, 3) := by decide +kernel
theorem dWe_keep_26 : decode cWe_keep 26 = .ok (.aload_n 0, 1) := by decide +kernel
theorem dWe_keep_27 : decode cWe_keep 27 = .ok (.dup, 1) := by decide +kernel
theorem dWe_keep_28 : decode cWe_keep 28 = .ok (.getfield 72, 3) := by decide +kernel
theorem dWe_keep_31 : decode cWe_keep 31 = .ok (.iconst 1, 1) := by decide +kernel
theorem dWe_keep_32 : decode cWe_keep 32 = .ok (.iadd, 1) := by decide +kernel
theorem dWe_keep_33 : decode cWe_keep 33 = .ok (.putfield 72, 3) := by decide +kernel
theorem dWe_keep_36 : decode cWe_keep 36 = .ok (.aload_n 0, 1) := by decide +kernel
theorem dWe_keep_37 : decode cWe_keep 37 = .ok (.getfield 69, 3) := by decide +kernel
theorem dWe_keep_40 : decode cWe_keep 40 = .ok (.bipush 24, 2) := by decide +kernel
theorem dWe_keep_42 : decode cWe_keep 42 = .ok (.if_icmp .lt 15, 3) := by decide +kernel
theorem dWe_keep_45 : decode cWe_keep 45 = .ok (.lload_n 2, 1) := by decide +kernel
theorem dWe_keep_46 : decode cWe_keep 46 = .ok (.aload_n 0, 1) := by decide +kernel
theorem dWe_keep_47 : decode cWe_keep 47 = .ok (.getfield 26, 3) := by decide +kernel
theorem dWe_keep_50 : decode cWe_keep 50 = .ok (.bipush 23, 2) := by decide +kernel
theorem dWe_keep_52 : decode cWe_keep 52 = .ok (.laload, 1) := by decide +kernel
theorem dWe_keep_53 : decode cWe_keep 53 = .ok (.lcmp, 1) := by decide +kernel
theorem dWe_keep_54 : decode cWe_keep 54 = .ok (.ifCond .le 9, 3) := by decide +kernel
theorem dWe_keep_57 : decode cWe_keep 57 = .ok (.aload_n 0, 1) := by decide +kernel
theorem dWe_keep_58 : decode cWe_keep 58 = .ok (.iload_n 1, 1) := by decide +kernel
theorem dWe_keep_59 : decode cWe_keep 59 = .ok (.lload_n 2, 1) := by decide +kernel
theorem dWe_keep_60 : decode cWe_keep 60 = .ok (.invokevirtual 98, 3) := by decide +kernel
theorem dWe_keep_63 : decode cWe_keep 63 = .ok (.return_, 1) := by decide +kernel
abbrev cWe_insertRank : ByteArray := prog_7_method_7_code
def yWe_insertRank : MethodName := ⟨RWe, "insertRank", "(IJ)V"⟩
theorem dWe_insertRank_0 : decode cWe_insertRank 0 = .ok (.aload_n 0, 1) := by decide +kernel
theorem dWe_insertRank_1 : decode cWe_insertRank 1 = .ok (.getfield 69, 3) := by decide +kernel
theorem dWe_insertRank_4 : decode cWe_insertRank 4 = .ok (.bipush 23, 2) := by decide +kernel
theorem dWe_insertRank_6 : decode cWe_insertRank 6 = .ok (.invokestatic 101, 3) := by decide +kernel
theorem dWe_insertRank_9 : decode cWe_insertRank 9 = .ok (.istore 4, 2) := by decide +kernel
theorem dWe_insertRank_11 : decode cWe_insertRank 11 = .ok (.iload 4, 2) := by decide +kernel
theorem dWe_insertRank_13 : decode cWe_insertRank 13 = .ok (.ifCond .le 55, 3) := by decide +kernel
theorem dWe_insertRank_16 : decode cWe_insertRank 16 = .ok (.aload_n 0, 1) := by decide +kernel
theorem dWe_insertRank_17 : decode cWe_insertRank 17 = .ok (.getfield 26, 3) := by decide +kernel
theorem dWe_insertRank_20 : decode cWe_insertRank 20 = .ok (.iload 4, 2) := by decide +kernel
theorem dWe_insertRank_22 : decode cWe_insertRank 22 = .ok (.iconst 1, 1) := by decide +kernel
theorem dWe_insertRank_23 : decode cWe_insertRank 23 = .ok (.isub, 1) := by decide +kernel
theorem dWe_insertRank_24 : decode cWe_insertRank 24 = .ok (.laload, 1) := by decide +kernel
theorem dWe_insertRank_25 : decode cWe_insertRank 25 = .ok (.lload_n 2, 1) := by decide +kernel
theorem dWe_insertRank_26 : decode cWe_insertRank 26 = .ok (.lcmp, 1) := by decide +kernel
theorem dWe_insertRank_27 : decode cWe_insertRank 27 = .ok (.ifCond .ge 41, 3) := by decide +kernel
theorem dWe_insertRank_30 : decode cWe_insertRank 30 = .ok (.aload_n 0, 1) := by decide +kernel
theorem dWe_insertRank_31 : decode cWe_insertRank 31 = .ok (.getfield 26, 3) := by decide +kernel
theorem dWe_insertRank_34 : decode cWe_insertRank 34 = .ok (.iload 4, 2) := by decide +kernel
theorem dWe_insertRank_36 : decode cWe_insertRank 36 = .ok (.aload_n 0, 1) := by decide +kernel
theorem dWe_insertRank_37 : decode cWe_insertRank 37 = .ok (.getfield 26, 3) := by decide +kernel
theorem dWe_insertRank_40 : decode cWe_insertRank 40 = .ok (.iload 4, 2) := by decide +kernel
theorem dWe_insertRank_42 : decode cWe_insertRank 42 = .ok (.iconst 1, 1) := by decide +kernel
theorem dWe_insertRank_43 : decode cWe_insertRank 43 = .ok (.isub, 1) := by decide +kernel
theorem dWe_insertRank_44 : decode cWe_insertRank 44 = .ok (.laload, 1) := by decide +kernel
theorem dWe_insertRank_45 : decode cWe_insertRank 45 = .ok (.lastore, 1) := by decide +kernel
theorem dWe_insertRank_46 : decode cWe_insertRank 46 = .ok (.aload_n 0, 1) := by decide +kernel
theorem dWe_insertRank_47 : decode cWe_insertRank 47 = .ok (.getfield 29, 3) := by decide +kernel
theorem dWe_insertRank_50 : decode cWe_insertRank 50 = .ok (.iload 4, 2) := by decide +kernel
theorem dWe_insertRank_52 : decode cWe_insertRank 52 = .ok (.aload_n 0, 1) := by decide +kernel
theorem dWe_insertRank_53 : decode cWe_insertRank 53 = .ok (.getfield 29, 3) := by decide +kernel
theorem dWe_insertRank_56 : decode cWe_insertRank 56 = .ok (.iload 4, 2) := by decide +kernel
theorem dWe_insertRank_58 : decode cWe_insertRank 58 = .ok (.iconst 1, 1) := by decide +kernel
theorem dWe_insertRank_59 : decode cWe_insertRank 59 = .ok (.isub, 1) := by decide +kernel
theorem dWe_insertRank_60 : decode cWe_insertRank 60 = .ok (.iaload, 1) := by decide +kernel
theorem dWe_insertRank_61 : decode cWe_insertRank 61 = .ok (.iastore, 1) := by decide +kernel
theorem dWe_insertRank_62 : decode cWe_insertRank 62 = .ok (.iinc 4 (-1), 3) := by decide +kernel
theorem dWe_insertRank_65 : decode cWe_insertRank 65 = .ok (.goto (-54), 3) := by decide +kernel
theorem dWe_insertRank_68 : decode cWe_insertRank 68 = .ok (.aload_n 0, 1) := by decide +kernel
theorem dWe_insertRank_69 : decode cWe_insertRank 69 = .ok (.getfield 26, 3) := by decide +kernel
theorem dWe_insertRank_72 : decode cWe_insertRank 72 = .ok (.iload 4, 2) := by decide +kernel
theorem dWe_insertRank_74 : decode cWe_insertRank 74 = .ok (.lload_n 2, 1) := by decide +kernel
theorem dWe_insertRank_75 : decode cWe_insertRank 75 = .ok (.lastore, 1) := by decide +kernel
theorem dWe_insertRank_76 : decode cWe_insertRank 76 = .ok (.aload_n 0, 1) := by decide +kernel
theorem dWe_insertRank_77 : decode cWe_insertRank 77 = .ok (.getfield 29, 3) := by decide +kernel
theorem dWe_insertRank_80 : decode cWe_insertRank 80 = .ok (.iload 4, 2) := by decide +kernel
theorem dWe_insertRank_82 : decode cWe_insertRank 82 = .ok (.iload_n 1, 1) := by decide +kernel
theorem dWe_insertRank_83 : decode cWe_insertRank 83 = .ok (.iastore, 1) := by decide +kernel
theorem dWe_insertRank_84 : decode cWe_insertRank 84 = .ok (.aload_n 0, 1) := by decide +kernel
theorem dWe_insertRank_85 : decode cWe_insertRank 85 = .ok (.aload_n 0, 1) := by decide +kernel
theorem dWe_insertRank_86 : decode cWe_insertRank 86 = .ok (.getfield 69, 3) := by decide +kernel
theorem dWe_insertRank_89 : decode cWe_insertRank 89 = .ok (.iconst 1, 1) := by decide +kernel
theorem dWe_insertRank_90 : decode cWe_insertRank 90 = .ok (.iadd, 1) := by decide +kernel
theorem dWe_insertRank_91 : decode cWe_insertRank 91 = .ok (.bipush 24, 2) := by decide +kernel
theorem dWe_insertRank_93 : decode cWe_insertRank 93 = .ok (.invokestatic 101, 3) := by decide +kernel
theorem dWe_insertRank_96 : decode cWe_insertRank 96 = .ok (.putfield 69, 3) := by decide +kernel
theorem dWe_insertRank_99 : decode cWe_insertRank 99 = .ok (.return_, 1) := by decide +kernel
abbrev cWe_stateAbove : ByteArray := prog_7_method_8_code
def yWe_stateAbove : MethodName := ⟨RWe, "stateAbove", "(J)I"⟩
theorem dWe_stateAbove_0 : decode cWe_stateAbove 0 = .ok (.lconst 0, 1) := by decide +kernel
theorem dWe_stateAbove_1 : decode cWe_stateAbove 1 = .ok (.lstore_n 3, 1) := by decide +kernel
theorem dWe_stateAbove_2 : decode cWe_stateAbove 2 = .ok (.iconst 0, 1) := by decide +kernel
theorem dWe_stateAbove_3 : decode cWe_stateAbove 3 = .ok (.istore 5, 2) := by decide +kernel
theorem dWe_stateAbove_5 : decode cWe_stateAbove 5 = .ok (.iload 5, 2) := by decide +kernel
theorem dWe_stateAbove_7 : decode cWe_stateAbove 7 = .ok (.aload_n 0, 1) := by decide +kernel
theorem dWe_stateAbove_8 : decode cWe_stateAbove 8 = .ok (.getfield 32, 3) := by decide +kernel
theorem dWe_stateAbove_11 : decode cWe_stateAbove 11 = .ok (.getfield 66, 3) := by decide +kernel
theorem dWe_stateAbove_14 : decode cWe_stateAbove 14 = .ok (.if_icmp .ge 28, 3) := by decide +kernel
theorem dWe_stateAbove_17 : decode cWe_stateAbove 17 = .ok (.lload_n 3, 1) := by decide +kernel
theorem dWe_stateAbove_18 : decode cWe_stateAbove 18 = .ok (.aload_n 0, 1) := by decide +kernel
theorem dWe_stateAbove_19 : decode cWe_stateAbove 19 = .ok (.getfield 23, 3) := by decide +kernel
theorem dWe_stateAbove_22 : decode cWe_stateAbove 22 = .ok (.iload 5, 2) := by decide +kernel
theorem dWe_stateAbove_24 : decode cWe_stateAbove 24 = .ok (.laload, 1) := by decide +kernel
theorem dWe_stateAbove_25 : decode cWe_stateAbove 25 = .ok (.ladd, 1) := by decide +kernel
theorem dWe_stateAbove_26 : decode cWe_stateAbove 26 = .ok (.lstore_n 3, 1) := by decide +kernel
theorem dWe_stateAbove_27 : decode cWe_stateAbove 27 = .ok (.lload_n 3, 1) := by decide +kernel
theorem dWe_stateAbove_28 : decode cWe_stateAbove 28 = .ok (.lload_n 1, 1) := by decide +kernel
theorem dWe_stateAbove_29 : decode cWe_stateAbove 29 = .ok (.lcmp, 1) := by decide +kernel
theorem dWe_stateAbove_30 : decode cWe_stateAbove 30 = .ok (.ifCond .le 6, 3) := by decide +kernel
theorem dWe_stateAbove_33 : decode cWe_stateAbove 33 = .ok (.iload 5, 2) := by decide +kernel
theorem dWe_stateAbove_35 : decode cWe_stateAbove 35 = .ok (.ireturn, 1) := by decide +kernel
theorem dWe_stateAbove_36 : decode cWe_stateAbove 36 = .ok (.iinc 5 1, 3) := by decide +kernel
theorem dWe_stateAbove_39 : decode cWe_stateAbove 39 = .ok (.goto (-34), 3) := by decide +kernel
theorem dWe_stateAbove_42 : decode cWe_stateAbove 42 = .ok (.iconst 0, 1) := by decide +kernel
theorem dWe_stateAbove_43 : decode cWe_stateAbove 43 = .ok (.ireturn, 1) := by decide +kernel
abbrev cWe_gatherWhere : ByteArray := prog_7_method_9_code
def yWe_gatherWhere : MethodName := ⟨RWe, "gatherWhere", "(II)V"⟩
theorem dWe_gatherWhere_0 : decode cWe_gatherWhere 0 = .ok (.iload_n 2, 1) := by decide +kernel
theorem dWe_gatherWhere_1 : decode cWe_gatherWhere 1 = .ok (.istore_n 3, 1) := by decide +kernel
theorem dWe_gatherWhere_2 : decode cWe_gatherWhere 2 = .ok (.iconst 0, 1) := by decide +kernel
theorem dWe_gatherWhere_3 : decode cWe_gatherWhere 3 = .ok (.istore 4, 2) := by decide +kernel
theorem dWe_gatherWhere_5 : decode cWe_gatherWhere 5 = .ok (.iload 4, 2) := by decide +kernel
theorem dWe_gatherWhere_7 : decode cWe_gatherWhere 7 = .ok (.aload_n 0, 1) := by decide +kernel
theorem dWe_gatherWhere_8 : decode cWe_gatherWhere 8 = .ok (.getfield 32, 3) := by decide +kernel
theorem dWe_gatherWhere_11 : decode cWe_gatherWhere 11 = .ok (.getfield 50, 3) := by decide +kernel
theorem dWe_gatherWhere_14 : decode cWe_gatherWhere 14 = .ok (.if_icmp .ge 62, 3) := by decide +kernel
theorem dWe_gatherWhere_17 : decode cWe_gatherWhere 17 = .ok (.aload_n 0, 1) := by decide +kernel
theorem dWe_gatherWhere_18 : decode cWe_gatherWhere 18 = .ok (.getfield 15, 3) := by decide +kernel
theorem dWe_gatherWhere_21 : decode cWe_gatherWhere 21 = .ok (.iload 4, 2) := by decide +kernel
theorem dWe_gatherWhere_23 : decode cWe_gatherWhere 23 = .ok (.iconst (-1), 1) := by decide +kernel
theorem dWe_gatherWhere_24 : decode cWe_gatherWhere 24 = .ok (.iastore, 1) := by decide +kernel
theorem dWe_gatherWhere_25 : decode cWe_gatherWhere 25 = .ok (.iload_n 1, 1) := by decide +kernel
theorem dWe_gatherWhere_26 : decode cWe_gatherWhere 26 = .ok (.iconst 1, 1) := by decide +kernel
theorem dWe_gatherWhere_27 : decode cWe_gatherWhere 27 = .ok (.iload 4, 2) := by decide +kernel
theorem dWe_gatherWhere_29 : decode cWe_gatherWhere 29 = .ok (.ishl, 1) := by decide +kernel
theorem dWe_gatherWhere_30 : decode cWe_gatherWhere 30 = .ok (.iand, 1) := by decide +kernel
theorem dWe_gatherWhere_31 : decode cWe_gatherWhere 31 = .ok (.ifCond .eq 39, 3) := by decide +kernel
theorem dWe_gatherWhere_34 : decode cWe_gatherWhere 34 = .ok (.aload_n 0, 1) := by decide +kernel
theorem dWe_gatherWhere_35 : decode cWe_gatherWhere 35 = .ok (.getfield 15, 3) := by decide +kernel
theorem dWe_gatherWhere_38 : decode cWe_gatherWhere 38 = .ok (.iload 4, 2) := by decide +kernel
theorem dWe_gatherWhere_40 : decode cWe_gatherWhere 40 = .ok (.iload_n 3, 1) := by decide +kernel
theorem dWe_gatherWhere_41 : decode cWe_gatherWhere 41 = .ok (.aload_n 0, 1) := by decide +kernel
theorem dWe_gatherWhere_42 : decode cWe_gatherWhere 42 = .ok (.getfield 32, 3) := by decide +kernel
theorem dWe_gatherWhere_45 : decode cWe_gatherWhere 45 = .ok (.getfield 91, 3) := by decide +kernel
theorem dWe_gatherWhere_48 : decode cWe_gatherWhere 48 = .ok (.iload 4, 2) := by decide +kernel
theorem dWe_gatherWhere_50 : decode cWe_gatherWhere 50 = .ok (.iaload, 1) := by decide +kernel
theorem dWe_gatherWhere_51 : decode cWe_gatherWhere 51 = .ok (.invokestatic 106, 3) := by decide +kernel
theorem dWe_gatherWhere_54 : decode cWe_gatherWhere 54 = .ok (.iastore, 1) := by decide +kernel
theorem dWe_gatherWhere_55 : decode cWe_gatherWhere 55 = .ok (.iload_n 3, 1) := by decide +kernel
theorem dWe_gatherWhere_56 : decode cWe_gatherWhere 56 = .ok (.aload_n 0, 1) := by decide +kernel
theorem dWe_gatherWhere_57 : decode cWe_gatherWhere 57 = .ok (.getfield 32, 3) := by decide +kernel
theorem dWe_gatherWhere_60 : decode cWe_gatherWhere 60 = .ok (.getfield 91, 3) := by decide +kernel
theorem dWe_gatherWhere_63 : decode cWe_gatherWhere 63 = .ok (.iload 4, 2) := by decide +kernel
theorem dWe_gatherWhere_65 : decode cWe_gatherWhere 65 = .ok (.iaload, 1) := by decide +kernel
theorem dWe_gatherWhere_66 : decode cWe_gatherWhere 66 = .ok (.invokestatic 109, 3) := by decide +kernel
theorem dWe_gatherWhere_69 : decode cWe_gatherWhere 69 = .ok (.istore_n 3, 1) := by decide +kernel
theorem dWe_gatherWhere_70 : decode cWe_gatherWhere 70 = .ok (.iinc 4 1, 3) := by decide +kernel
theorem dWe_gatherWhere_73 : decode cWe_gatherWhere 73 = .ok (.goto (-68), 3) := by decide +kernel
theorem dWe_gatherWhere_76 : decode cWe_gatherWhere 76 = .ok (.aload_n 0, 1) := by decide +kernel
theorem dWe_gatherWhere_77 : decode cWe_gatherWhere 77 = .ok (.lconst 0, 1) := by decide +kernel
theorem dWe_gatherWhere_78 : decode cWe_gatherWhere 78 = .ok (.putfield 112, 3) := by decide +kernel
theorem dWe_gatherWhere_81 : decode cWe_gatherWhere 81 = .ok (.aload_n 0, 1) := by decide +kernel
theorem dWe_gatherWhere_82 : decode cWe_gatherWhere 82 = .ok (.iconst 0, 1) := by decide +kernel
theorem dWe_gatherWhere_83 : decode cWe_gatherWhere 83 = .ok (.putfield 115, 3) := by decide +kernel
theorem dWe_gatherWhere_86 : decode cWe_gatherWhere 86 = .ok (.aload_n 0, 1) := by decide +kernel
theorem dWe_gatherWhere_87 : decode cWe_gatherWhere 87 = .ok (.iconst 0, 1) := by decide +kernel
theorem dWe_gatherWhere_88 : decode cWe_gatherWhere 88 = .ok (.iconst 0, 1) := by decide +kernel
theorem dWe_gatherWhere_89 : decode cWe_gatherWhere 89 = .ok (.invokevirtual 118, 3) := by decide +kernel
theorem dWe_gatherWhere_92 : decode cWe_gatherWhere 92 = .ok (.return_, 1) := by decide +kernel
abbrev cWe_gather : ByteArray := prog_7_method_10_code
def yWe_gather : MethodName := ⟨RWe, "gather", "(II)V"⟩
theorem dWe_gather_0 : decode cWe_gather 0 = .ok (.iload_n 1, 1) := by decide +kernel
theorem dWe_gather_1 : decode cWe_gather 1 = .ok (.aload_n 0, 1) := by decide +kernel
theorem dWe_gather_2 : decode cWe_gather 2 = .ok (.getfield 32, 3) := by decide +kernel
theorem dWe_gather_5 : decode cWe_gather 5 = .ok (.getfield 50, 3) := by decide +kernel
theorem dWe_gather_8 : decode cWe_gather 8 = .ok (.if_icmp .lt 49, 3) := by decide +kernel
theorem dWe_gather_11 : decode cWe_gather 11 = .ok (.iload_n 2, 1) := by decide +kernel
theorem dWe_gather_12 : decode cWe_gather 12 = .ok (.aload_n 0, 1) := by decide +kernel
theorem dWe_gather_13 : decode cWe_gather 13 = .ok (.getfield 23, 3) := by decide +kernel
theorem dWe_gather_16 : decode cWe_gather 16 = .ok (.arraylength, 1) := by decide +kernel
theorem dWe_gather_17 : decode cWe_gather 17 = .ok (.if_icmp .ge 39, 3) := by decide +kernel
theorem dWe_gather_20 : decode cWe_gather 20 = .ok (.aload_n 0, 1) := by decide +kernel
theorem dWe_gather_21 : decode cWe_gather 21 = .ok (.getfield 23, 3) := by decide +kernel
theorem dWe_gather_24 : decode cWe_gather 24 = .ok (.iload_n 2, 1) := by decide +kernel
theorem dWe_gather_25 : decode cWe_gather 25 = .ok (.laload, 1) := by decide +kernel
theorem dWe_gather_26 : decode cWe_gather 26 = .ok (.lconst 0, 1) := by decide +kernel
theorem dWe_gather_27 : decode cWe_gather 27 = .ok (.lcmp, 1) := by decide +kernel
theorem dWe_gather_28 : decode cWe_gather 28 = .ok (.ifCond .le 28, 3) := by decide +kernel
theorem dWe_gather_31 : decode cWe_gather 31 = .ok (.aload_n 0, 1) := by decide +kernel
theorem dWe_gather_32 : decode cWe_gather 32 = .ok (.dup, 1) := by decide +kernel
theorem dWe_gather_33 : decode cWe_gather 33 = .ok (.getfield 112, 3) := by decide +kernel
theorem dWe_gather_36 : decode cWe_gather 36 = .ok (.aload_n 0, 1) := by decide +kernel
theorem dWe_gather_37 : decode cWe_gather 37 = .ok (.getfield 23, 3) := by decide +kernel
theorem dWe_gather_40 : decode cWe_gather 40 = .ok (.iload_n 2, 1) := by decide +kernel
theorem dWe_gather_41 : decode cWe_gather 41 = .ok (.laload, 1) := by decide +kernel
theorem dWe_gather_42 : decode cWe_gather 42 = .ok (.ladd, 1) := by decide +kernel
theorem dWe_gather_43 : decode cWe_gather 43 = .ok (.putfield 112, 3) := by decide +kernel
theorem dWe_gather_46 : decode cWe_gather 46 = .ok (.aload_n 0, 1) := by decide +kernel
theorem dWe_gather_47 : decode cWe_gather 47 = .ok (.dup, 1) := by decide +kernel
theorem dWe_gather_48 : decode cWe_gather 48 = .ok (.getfield 115, 3) := by decide +kernel
theorem dWe_gather_51 : decode cWe_gather 51 = .ok (.iconst 1, 1) := by decide +kernel
theorem dWe_gather_52 : decode cWe_gather 52 = .ok (.iadd, 1) := by decide +kernel
theorem dWe_gather_53 : decode cWe_gather 53 = .ok (.putfield 115, 3) := by decide +kernel
theorem dWe_gather_56 : decode cWe_gather 56 = .ok (.return_, 1) := by decide +kernel
theorem dWe_gather_57 : decode cWe_gather 57 = .ok (.aload_n 0, 1) := by decide +kernel
theorem dWe_gather_58 : decode cWe_gather 58 = .ok (.getfield 32, 3) := by decide +kernel
theorem dWe_gather_61 : decode cWe_gather 61 = .ok (.getfield 91, 3) := by decide +kernel
theorem dWe_gather_64 : decode cWe_gather 64 = .ok (.iload_n 1, 1) := by decide +kernel
theorem dWe_gather_65 : decode cWe_gather 65 = .ok (.iaload, 1) := by decide +kernel
theorem dWe_gather_66 : decode cWe_gather 66 = .ok (.istore_n 3, 1) := by decide +kernel
theorem dWe_gather_67 : decode cWe_gather 67 = .ok (.aload_n 0, 1) := by decide +kernel
theorem dWe_gather_68 : decode cWe_gather 68 = .ok (.getfield 15, 3) := by decide +kernel
theorem dWe_gather_71 : decode cWe_gather 71 = .ok (.iload_n 1, 1) := by decide +kernel
theorem dWe_gather_72 : decode cWe_gather 72 = .ok (.iaload, 1) := by decide +kernel
theorem dWe_gather_73 : decode cWe_gather 73 = .ok (.iconst (-1), 1) := by decide +kernel
theorem dWe_gather_74 : decode cWe_gather 74 = .ok (.if_icmp .eq 21, 3) := by decide +kernel
theorem dWe_gather_77 : decode cWe_gather 77 = .ok (.aload_n 0, 1) := by decide +kernel
theorem dWe_gather_78 : decode cWe_gather 78 = .ok (.iload_n 1, 1) := by decide +kernel
theorem dWe_gather_79 : decode cWe_gather 79 = .ok (.iconst 1, 1) := by decide +kernel
theorem dWe_gather_80 : decode cWe_gather 80 = .ok (.iadd, 1) := by decide +kernel
theorem dWe_gather_81 : decode cWe_gather 81 = .ok (.iload_n 2, 1) := by decide +kernel
theorem dWe_gather_82 : decode cWe_gather 82 = .ok (.iload_n 3, 1) := by decide +kernel
theorem dWe_gather_83 : decode cWe_gather 83 = .ok (.imul, 1) := by decide +kernel
theorem dWe_gather_84 : decode cWe_gather 84 = .ok (.aload_n 0, 1) := by decide +kernel
theorem dWe_gather_85 : decode cWe_gather 85 = .ok (.getfield 15, 3) := by decide +kernel
theorem dWe_gather_88 : decode cWe_gather 88 = .ok (.iload_n 1, 1) := by decide +kernel
theorem dWe_gather_89 : decode cWe_gather 89 = .ok (.iaload, 1) := by decide +kernel
theorem dWe_gather_90 : decode cWe_gather 90 = .ok (.iadd, 1) := by decide +kernel
theorem dWe_gather_91 : decode cWe_gather 91 = .ok (.invokevirtual 118, 3) := by decide +kernel
theorem dWe_gather_94 : decode cWe_gather 94 = .ok (.return_, 1) := by decide +kernel
theorem dWe_gather_95 : decode cWe_gather 95 = .ok (.iconst 0, 1) := by decide +kernel
theorem dWe_gather_96 : decode cWe_gather 96 = .ok (.istore 4, 2) := by decide +kernel
theorem dWe_gather_98 : decode cWe_gather 98 = .ok (.iload 4, 2) := by decide +kernel
theorem dWe_gather_100 : decode cWe_gather 100 = .ok (.iload_n 3, 1) := by decide +kernel
theorem dWe_gather_101 : decode cWe_gather 101 = .ok (.if_icmp .ge 22, 3) := by decide +kernel
theorem dWe_gather_104 : decode cWe_gather 104 = .ok (.aload_n 0, 1) := by decide +kernel
theorem dWe_gather_105 : decode cWe_gather 105 = .ok (.iload_n 1, 1) := by decide +kernel
theorem dWe_gather_106 : decode cWe_gather 106 = .ok (.iconst 1, 1) := by decide +kernel
theorem dWe_gather_107 : decode cWe_gather 107 = .ok (.iadd, 1) := by decide +kernel
theorem dWe_gather_108 : decode cWe_gather 108 = .ok (.iload_n 2, 1) := by decide +kernel
theorem dWe_gather_109 : decode cWe_gather 109 = .ok (.iload_n 3, 1) := by decide +kernel
theorem dWe_gather_110 : decode cWe_gather 110 = .ok (.imul, 1) := by decide +kernel
theorem dWe_gather_111 : decode cWe_gather 111 = .ok (.iload 4, 2) := by decide +kernel
theorem dWe_gather_113 : decode cWe_gather 113 = .ok (.iadd, 1) := by decide +kernel
theorem dWe_gather_114 : decode cWe_gather 114 = .ok (.invokevirtual 118, 3) := by decide +kernel
theorem dWe_gather_117 : decode cWe_gather 117 = .ok (.iinc 4 1, 3) := by decide +kernel
theorem dWe_gather_120 : decode cWe_gather 120 = .ok (.goto (-22), 3) := by decide +kernel
theorem dWe_gather_123 : decode cWe_gather 123 = .ok (.return_, 1) := by decide +kernel
