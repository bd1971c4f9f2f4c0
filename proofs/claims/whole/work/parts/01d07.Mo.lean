abbrev cMo_init : ByteArray := prog_9_method_1_code
def yMo_init : MethodName := ⟨RMo, "<init>", "()V"⟩
theorem dMo_init_0 : decode cMo_init 0 = .ok (.aload_n 0, 1) := by decide +kernel
theorem dMo_init_1 : decode cMo_init 1 = .ok (.invokespecial 1, 3) := by decide +kernel
theorem dMo_init_4 : decode cMo_init 4 = .ok (.aload_n 0, 1) := by decide +kernel
theorem dMo_init_5 : decode cMo_init 5 = .ok (.bipush 12, 2) := by decide +kernel
theorem dMo_init_7 : decode cMo_init 7 = .ok (.newarray .int, 2) := by decide +kernel
theorem dMo_init_9 : decode cMo_init 9 = .ok (.putfield 7, 3) := by decide +kernel
theorem dMo_init_12 : decode cMo_init 12 = .ok (.aload_n 0, 1) := by decide +kernel
theorem dMo_init_13 : decode cMo_init 13 = .ok (.bipush 12, 2) := by decide +kernel
theorem dMo_init_15 : decode cMo_init 15 = .ok (.newarray .int, 2) := by decide +kernel
theorem dMo_init_17 : decode cMo_init 17 = .ok (.putfield 13, 3) := by decide +kernel
theorem dMo_init_20 : decode cMo_init 20 = .ok (.aload_n 0, 1) := by decide +kernel
theorem dMo_init_21 : decode cMo_init 21 = .ok (.bipush 12, 2) := by decide +kernel
theorem dMo_init_23 : decode cMo_init 23 = .ok (.newarray .int, 2) := by decide +kernel
theorem dMo_init_25 : decode cMo_init 25 = .ok (.putfield 16, 3) := by decide +kernel
theorem dMo_init_28 : decode cMo_init 28 = .ok (.aload_n 0, 1) := by decide +kernel
theorem dMo_init_29 : decode cMo_init 29 = .ok (.bipush 16, 2) := by decide +kernel
theorem dMo_init_31 : decode cMo_init 31 = .ok (.newarray .int, 2) := by decide +kernel
theorem dMo_init_33 : decode cMo_init 33 = .ok (.putfield 19, 3) := by decide +kernel
theorem dMo_init_36 : decode cMo_init 36 = .ok (.aload_n 0, 1) := by decide +kernel
theorem dMo_init_37 : decode cMo_init 37 = .ok (.bipush 16, 2) := by decide +kernel
theorem dMo_init_39 : decode cMo_init 39 = .ok (.newarray .int, 2) := by decide +kernel
theorem dMo_init_41 : decode cMo_init 41 = .ok (.putfield 22, 3) := by decide +kernel
theorem dMo_init_44 : decode cMo_init 44 = .ok (.aload_n 0, 1) := by decide +kernel
theorem dMo_init_45 : decode cMo_init 45 = .ok (.sipush 4096, 3) := by decide +kernel
theorem dMo_init_48 : decode cMo_init 48 = .ok (.newarray .int, 2) := by decide +kernel
theorem dMo_init_50 : decode cMo_init 50 = .ok (.putfield 25, 3) := by decide +kernel
theorem dMo_init_53 : decode cMo_init 53 = .ok (.aload_n 0, 1) := by decide +kernel
theorem dMo_init_54 : decode cMo_init 54 = .ok (.bipush 12, 2) := by decide +kernel
theorem dMo_init_56 : decode cMo_init 56 = .ok (.newarray .int, 2) := by decide +kernel
theorem dMo_init_58 : decode cMo_init 58 = .ok (.putfield 28, 3) := by decide +kernel
theorem dMo_init_61 : decode cMo_init 61 = .ok (.aload_n 0, 1) := by decide +kernel
theorem dMo_init_62 : decode cMo_init 62 = .ok (.bipush 12, 2) := by decide +kernel
theorem dMo_init_64 : decode cMo_init 64 = .ok (.newarray .int, 2) := by decide +kernel
theorem dMo_init_66 : decode cMo_init 66 = .ok (.putfield 31, 3) := by decide +kernel
theorem dMo_init_69 : decode cMo_init 69 = .ok (.aload_n 0, 1) := by decide +kernel
theorem dMo_init_70 : decode cMo_init 70 = .ok (.bipush 12, 2) := by decide +kernel
theorem dMo_init_72 : decode cMo_init 72 = .ok (.newarray .int, 2) := by decide +kernel
theorem dMo_init_74 : decode cMo_init 74 = .ok (.putfield 34, 3) := by decide +kernel
theorem dMo_init_77 : decode cMo_init 77 = .ok (.aload_n 0, 1) := by decide +kernel
theorem dMo_init_78 : decode cMo_init 78 = .ok (.sipush 4096, 3) := by decide +kernel
theorem dMo_init_81 : decode cMo_init 81 = .ok (.newarray .int, 2) := by decide +kernel
theorem dMo_init_83 : decode cMo_init 83 = .ok (.putfield 37, 3) := by decide +kernel
theorem dMo_init_86 : decode cMo_init 86 = .ok (.aload_n 0, 1) := by decide +kernel
theorem dMo_init_87 : decode cMo_init 87 = .ok (.sipush 4096, 3) := by decide +kernel
theorem dMo_init_90 : decode cMo_init 90 = .ok (.newarray .long, 2) := by decide +kernel
theorem dMo_init_92 : decode cMo_init 92 = .ok (.putfield 40, 3) := by decide +kernel
theorem dMo_init_95 : decode cMo_init 95 = .ok (.aload_n 0, 1) := by decide +kernel
theorem dMo_init_96 : decode cMo_init 96 = .ok (.bipush 12, 2) := by decide +kernel
theorem dMo_init_98 : decode cMo_init 98 = .ok (.newarray .int, 2) := by decide +kernel
theorem dMo_init_100 : decode cMo_init 100 = .ok (.putfield 44, 3) := by decide +kernel
theorem dMo_init_103 : decode cMo_init 103 = .ok (.aload_n 0, 1) := by decide +kernel
theorem dMo_init_104 : decode cMo_init 104 = .ok (.bipush 25, 2) := by decide +kernel
theorem dMo_init_106 : decode cMo_init 106 = .ok (.newarray .long, 2) := by decide +kernel
theorem dMo_init_108 : decode cMo_init 108 = .ok (.putfield 47, 3) := by decide +kernel
theorem dMo_init_111 : decode cMo_init 111 = .ok (.aload_n 0, 1) := by decide +kernel
theorem dMo_init_112 : decode cMo_init 112 = .ok (.bipush 25, 2) := by decide +kernel
theorem dMo_init_114 : decode cMo_init 114 = .ok (.newarray .int, 2) := by decide +kernel
theorem dMo_init_116 : decode cMo_init 116 = .ok (.putfield 50, 3) := by decide +kernel
theorem dMo_init_119 : decode cMo_init 119 = .ok (.aload_n 0, 1) := by decide +kernel
theorem dMo_init_120 : decode cMo_init 120 = .ok (.ldc 53, 2) := by decide +kernel
theorem dMo_init_122 : decode cMo_init 122 = .ok (.putfield 54, 3) := by decide +kernel
theorem dMo_init_125 : decode cMo_init 125 = .ok (.aload_n 0, 1) := by decide +kernel
theorem dMo_init_126 : decode cMo_init 126 = .ok (.iconst 1, 1) := by decide +kernel
theorem dMo_init_127 : decode cMo_init 127 = .ok (.putfield 58, 3) := by decide +kernel
theorem dMo_init_130 : decode cMo_init 130 = .ok (.aload_n 0, 1) := by decide +kernel
theorem dMo_init_131 : decode cMo_init 131 = .ok (.iconst 1, 1) := by decide +kernel
theorem dMo_init_132 : decode cMo_init 132 = .ok (.putfield 61, 3) := by decide +kernel
theorem dMo_init_135 : decode cMo_init 135 = .ok (.iconst 0, 1) := by decide +kernel
theorem dMo_init_136 : decode cMo_init 136 = .ok (.istore_n 1, 1) := by decide +kernel
theorem dMo_init_137 : decode cMo_init 137 = .ok (.iload_n 1, 1) := by decide +kernel
theorem dMo_init_138 : decode cMo_init 138 = .ok (.bipush 12, 2) := by decide +kernel
theorem dMo_init_140 : decode cMo_init 140 = .ok (.if_icmp .ge 16, 3) := by decide +kernel
theorem dMo_init_143 : decode cMo_init 143 = .ok (.aload_n 0, 1) := by decide +kernel
theorem dMo_init_144 : decode cMo_init 144 = .ok (.getfield 16, 3) := by decide +kernel
theorem dMo_init_147 : decode cMo_init 147 = .ok (.iload_n 1, 1) := by decide +kernel
theorem dMo_init_148 : decode cMo_init 148 = .ok (.iconst (-1), 1) := by decide +kernel
theorem dMo_init_149 : decode cMo_init 149 = .ok (.iastore, 1) := by decide +kernel
theorem dMo_init_150 : decode cMo_init 150 = .ok (.iinc 1 1, 3) := by decide +kernel
theorem dMo_init_153 : decode cMo_init 153 = .ok (.goto (-16), 3) := by decide +kernel
theorem dMo_init_156 : decode cMo_init 156 = .ok (.return_, 1) := by decide +kernel
abbrev cMo_in : ByteArray := prog_9_method_3_code
def yMo_in : MethodName := ⟨RMo, "in", "(JJJ)Z"⟩
theorem dMo_in_0 : decode cMo_in 0 = .ok (.lload_n 0, 1) := by decide +kernel
theorem dMo_in_1 : decode cMo_in 1 = .ok (.lload_n 2, 1) := by decide +kernel
theorem dMo_in_2 : decode cMo_in 2 = .ok (.lcmp, 1) := by decide +kernel
theorem dMo_in_3 : decode cMo_in 3 = .ok (.ifCond .lt 14, 3) := by decide +kernel
theorem dMo_in_6 : decode cMo_in 6 = .ok (.lload_n 0, 1) := by decide +kernel
theorem dMo_in_7 : decode cMo_in 7 = .ok (.lload 4, 2) := by decide +kernel
theorem dMo_in_9 : decode cMo_in 9 = .ok (.lcmp, 1) := by decide +kernel
theorem dMo_in_10 : decode cMo_in 10 = .ok (.ifCond .gt 7, 3) := by decide +kernel
theorem dMo_in_13 : decode cMo_in 13 = .ok (.iconst 1, 1) := by decide +kernel
theorem dMo_in_14 : decode cMo_in 14 = .ok (.goto 4, 3) := by decide +kernel
theorem dMo_in_17 : decode cMo_in 17 = .ok (.iconst 0, 1) := by decide +kernel
theorem dMo_in_18 : decode cMo_in 18 = .ok (.ireturn, 1) := by decide +kernel
abbrev cMo_isName : ByteArray := prog_9_method_4_code
def yMo_isName : MethodName := ⟨RMo, "isName", "(I)Z"⟩
theorem dMo_isName_0 : decode cMo_isName 0 = .ok (.iload_n 1, 1) := by decide +kernel
theorem dMo_isName_1 : decode cMo_isName 1 = .ok (.i2l, 1) := by decide +kernel
theorem dMo_isName_2 : decode cMo_isName 2 = .ok (.lconst 0, 1) := by decide +kernel
theorem dMo_isName_3 : decode cMo_isName 3 = .ok (.aload_n 0, 1) := by decide +kernel
theorem dMo_isName_4 : decode cMo_isName 4 = .ok (.getfield 68, 3) := by decide +kernel
theorem dMo_isName_7 : decode cMo_isName 7 = .ok (.iconst 1, 1) := by decide +kernel
theorem dMo_isName_8 : decode cMo_isName 8 = .ok (.isub, 1) := by decide +kernel
theorem dMo_isName_9 : decode cMo_isName 9 = .ok (.i2l, 1) := by decide +kernel
theorem dMo_isName_10 : decode cMo_isName 10 = .ok (.invokestatic 71, 3) := by decide +kernel
theorem dMo_isName_13 : decode cMo_isName 13 = .ok (.ireturn, 1) := by decide +kernel
abbrev cMo_isSet : ByteArray := prog_9_method_5_code
def yMo_isSet : MethodName := ⟨RMo, "isSet", "(I)Z"⟩
theorem dMo_isSet_0 : decode cMo_isSet 0 = .ok (.iload_n 1, 1) := by decide +kernel
theorem dMo_isSet_1 : decode cMo_isSet 1 = .ok (.ifCond .lt 17, 3) := by decide +kernel
theorem dMo_isSet_4 : decode cMo_isSet 4 = .ok (.iload_n 1, 1) := by decide +kernel
theorem dMo_isSet_5 : decode cMo_isSet 5 = .ok (.iconst 1, 1) := by decide +kernel
theorem dMo_isSet_6 : decode cMo_isSet 6 = .ok (.aload_n 0, 1) := by decide +kernel
theorem dMo_isSet_7 : decode cMo_isSet 7 = .ok (.getfield 68, 3) := by decide +kernel
theorem dMo_isSet_10 : decode cMo_isSet 10 = .ok (.ishl, 1) := by decide +kernel
theorem dMo_isSet_11 : decode cMo_isSet 11 = .ok (.if_icmp .ge 7, 3) := by decide +kernel
theorem dMo_isSet_14 : decode cMo_isSet 14 = .ok (.iconst 1, 1) := by decide +kernel
theorem dMo_isSet_15 : decode cMo_isSet 15 = .ok (.goto 4, 3) := by decide +kernel
theorem dMo_isSet_18 : decode cMo_isSet 18 = .ok (.iconst 0, 1) := by decide +kernel
theorem dMo_isSet_19 : decode cMo_isSet 19 = .ok (.ireturn, 1) := by decide +kernel
abbrev cMo_many : ByteArray := prog_9_method_6_code
def yMo_many : MethodName := ⟨RMo, "many", "(I)I"⟩
theorem dMo_many_0 : decode cMo_many 0 = .ok (.iconst 0, 1) := by decide +kernel
theorem dMo_many_1 : decode cMo_many 1 = .ok (.istore_n 1, 1) := by decide +kernel
theorem dMo_many_2 : decode cMo_many 2 = .ok (.iconst 0, 1) := by decide +kernel
theorem dMo_many_3 : decode cMo_many 3 = .ok (.istore_n 2, 1) := by decide +kernel
theorem dMo_many_4 : decode cMo_many 4 = .ok (.iload_n 2, 1) := by decide +kernel
theorem dMo_many_5 : decode cMo_many 5 = .ok (.bipush 12, 2) := by decide +kernel
theorem dMo_many_7 : decode cMo_many 7 = .ok (.if_icmp .ge 17, 3) := by decide +kernel
theorem dMo_many_10 : decode cMo_many 10 = .ok (.iload_n 1, 1) := by decide +kernel
theorem dMo_many_11 : decode cMo_many 11 = .ok (.iload_n 0, 1) := by decide +kernel
theorem dMo_many_12 : decode cMo_many 12 = .ok (.iload_n 2, 1) := by decide +kernel
theorem dMo_many_13 : decode cMo_many 13 = .ok (.ishr, 1) := by decide +kernel
theorem dMo_many_14 : decode cMo_many 14 = .ok (.iconst 1, 1) := by decide +kernel
theorem dMo_many_15 : decode cMo_many 15 = .ok (.iand, 1) := by decide +kernel
theorem dMo_many_16 : decode cMo_many 16 = .ok (.iadd, 1) := by decide +kernel
theorem dMo_many_17 : decode cMo_many 17 = .ok (.istore_n 1, 1) := by decide +kernel
theorem dMo_many_18 : decode cMo_many 18 = .ok (.iinc 2 1, 3) := by decide +kernel
theorem dMo_many_21 : decode cMo_many 21 = .ok (.goto (-17), 3) := by decide +kernel
theorem dMo_many_24 : decode cMo_many 24 = .ok (.iload_n 1, 1) := by decide +kernel
theorem dMo_many_25 : decode cMo_many 25 = .ok (.ireturn, 1) := by decide +kernel
abbrev cMo_cells : ByteArray := prog_9_method_7_code
def yMo_cells : MethodName := ⟨RMo, "cells", "(I)I"⟩
theorem dMo_cells_0 : decode cMo_cells 0 = .ok (.iconst 1, 1) := by decide +kernel
theorem dMo_cells_1 : decode cMo_cells 1 = .ok (.istore_n 2, 1) := by decide +kernel
theorem dMo_cells_2 : decode cMo_cells 2 = .ok (.iconst 0, 1) := by decide +kernel
theorem dMo_cells_3 : decode cMo_cells 3 = .ok (.istore_n 3, 1) := by decide +kernel
theorem dMo_cells_4 : decode cMo_cells 4 = .ok (.iload_n 3, 1) := by decide +kernel
theorem dMo_cells_5 : decode cMo_cells 5 = .ok (.aload_n 0, 1) := by decide +kernel
theorem dMo_cells_6 : decode cMo_cells 6 = .ok (.getfield 68, 3) := by decide +kernel
theorem dMo_cells_9 : decode cMo_cells 9 = .ok (.if_icmp .ge 31, 3) := by decide +kernel
theorem dMo_cells_12 : decode cMo_cells 12 = .ok (.iload_n 1, 1) := by decide +kernel
theorem dMo_cells_13 : decode cMo_cells 13 = .ok (.iload_n 3, 1) := by decide +kernel
theorem dMo_cells_14 : decode cMo_cells 14 = .ok (.ishr, 1) := by decide +kernel
theorem dMo_cells_15 : decode cMo_cells 15 = .ok (.iconst 1, 1) := by decide +kernel
theorem dMo_cells_16 : decode cMo_cells 16 = .ok (.iand, 1) := by decide +kernel
theorem dMo_cells_17 : decode cMo_cells 17 = .ok (.iconst 1, 1) := by decide +kernel
theorem dMo_cells_18 : decode cMo_cells 18 = .ok (.if_icmp .ne 14, 3) := by decide +kernel
theorem dMo_cells_21 : decode cMo_cells 21 = .ok (.iload_n 2, 1) := by decide +kernel
theorem dMo_cells_22 : decode cMo_cells 22 = .ok (.aload_n 0, 1) := by decide +kernel
theorem dMo_cells_23 : decode cMo_cells 23 = .ok (.getfield 7, 3) := by decide +kernel
theorem dMo_cells_26 : decode cMo_cells 26 = .ok (.iload_n 3, 1) := by decide +kernel
theorem dMo_cells_27 : decode cMo_cells 27 = .ok (.iaload, 1) := by decide +kernel
theorem dMo_cells_28 : decode cMo_cells 28 = .ok (.imul, 1) := by decide +kernel
theorem dMo_cells_29 : decode cMo_cells 29 = .ok (.goto 4, 3) := by decide +kernel
theorem dMo_cells_32 : decode cMo_cells 32 = .ok (.iload_n 2, 1) := by decide +kernel
theorem dMo_cells_33 : decode cMo_cells 33 = .ok (.istore_n 2, 1) := by decide +kernel
theorem dMo_cells_34 : decode cMo_cells 34 = .ok (.iinc 3 1, 3) := by decide +kernel
theorem dMo_cells_37 : decode cMo_cells 37 = .ok (.goto (-33), 3) := by decide +kernel
theorem dMo_cells_40 : decode cMo_cells 40 = .ok (.iload_n 2, 1) := by decide +kernel
theorem dMo_cells_41 : decode cMo_cells 41 = .ok (.ireturn, 1) := by decide +kernel
abbrev cMo_name : ByteArray := prog_9_method_8_code
def yMo_name : MethodName := ⟨RMo, "name", "(I)I"⟩
theorem dMo_name_0 : decode cMo_name 0 = .ok (.aload_n 0, 1) := by decide +kernel
theorem dMo_name_1 : decode cMo_name 1 = .ok (.iconst 0, 1) := by decide +kernel
theorem dMo_name_2 : decode cMo_name 2 = .ok (.putfield 65, 3) := by decide +kernel
theorem dMo_name_5 : decode cMo_name 5 = .ok (.iload_n 1, 1) := by decide +kernel
theorem dMo_name_6 : decode cMo_name 6 = .ok (.i2l, 1) := by decide +kernel
theorem dMo_name_7 : decode cMo_name 7 = .ok (.ldc2_w 75, 3) := by decide +kernel
theorem dMo_name_10 : decode cMo_name 10 = .ok (.ldc2_w 77, 3) := by decide +kernel
theorem dMo_name_13 : decode cMo_name 13 = .ok (.invokestatic 71, 3) := by decide +kernel
theorem dMo_name_16 : decode cMo_name 16 = .ok (.ifCond .ne 6, 3) := by decide +kernel
theorem dMo_name_19 : decode cMo_name 19 = .ok (.bipush (-2), 2) := by decide +kernel
theorem dMo_name_21 : decode cMo_name 21 = .ok (.ireturn, 1) := by decide +kernel
theorem dMo_name_22 : decode cMo_name 22 = .ok (.aload_n 0, 1) := by decide +kernel
theorem dMo_name_23 : decode cMo_name 23 = .ok (.getfield 68, 3) := by decide +kernel
theorem dMo_name_26 : decode cMo_name 26 = .ok (.bipush 12, 2) := by decide +kernel
theorem dMo_name_28 : decode cMo_name 28 = .ok (.if_icmp .eq 14, 3) := by decide +kernel
theorem dMo_name_31 : decode cMo_name 31 = .ok (.aload_n 0, 1) := by decide +kernel
theorem dMo_name_32 : decode cMo_name 32 = .ok (.getfield 58, 3) := by decide +kernel
theorem dMo_name_35 : decode cMo_name 35 = .ok (.iload_n 1, 1) := by decide +kernel
theorem dMo_name_36 : decode cMo_name 36 = .ok (.imul, 1) := by decide +kernel
theorem dMo_name_37 : decode cMo_name 37 = .ok (.ldc 53, 2) := by decide +kernel
theorem dMo_name_39 : decode cMo_name 39 = .ok (.if_icmp .le 6, 3) := by decide +kernel
theorem dMo_name_42 : decode cMo_name 42 = .ok (.bipush (-4), 2) := by decide +kernel
theorem dMo_name_44 : decode cMo_name 44 = .ok (.ireturn, 1) := by decide +kernel
theorem dMo_name_45 : decode cMo_name 45 = .ok (.aload_n 0, 1) := by decide +kernel
theorem dMo_name_46 : decode cMo_name 46 = .ok (.getfield 7, 3) := by decide +kernel
theorem dMo_name_49 : decode cMo_name 49 = .ok (.aload_n 0, 1) := by decide +kernel
theorem dMo_name_50 : decode cMo_name 50 = .ok (.getfield 68, 3) := by decide +kernel
theorem dMo_name_53 : decode cMo_name 53 = .ok (.iload_n 1, 1) := by decide +kernel
theorem dMo_name_54 : decode cMo_name 54 = .ok (.iastore, 1) := by decide +kernel
theorem dMo_name_55 : decode cMo_name 55 = .ok (.aload_n 0, 1) := by decide +kernel
theorem dMo_name_56 : decode cMo_name 56 = .ok (.getfield 13, 3) := by decide +kernel
theorem dMo_name_59 : decode cMo_name 59 = .ok (.aload_n 0, 1) := by decide +kernel
theorem dMo_name_60 : decode cMo_name 60 = .ok (.getfield 68, 3) := by decide +kernel
theorem dMo_name_63 : decode cMo_name 63 = .ok (.iconst (-1), 1) := by decide +kernel
theorem dMo_name_64 : decode cMo_name 64 = .ok (.iastore, 1) := by decide +kernel
theorem dMo_name_65 : decode cMo_name 65 = .ok (.aload_n 0, 1) := by decide +kernel
theorem dMo_name_66 : decode cMo_name 66 = .ok (.aload_n 0, 1) := by decide +kernel
theorem dMo_name_67 : decode cMo_name 67 = .ok (.getfield 58, 3) := by decide +kernel
theorem dMo_name_70 : decode cMo_name 70 = .ok (.iload_n 1, 1) := by decide +kernel
theorem dMo_name_71 : decode cMo_name 71 = .ok (.imul, 1) := by decide +kernel
theorem dMo_name_72 : decode cMo_name 72 = .ok (.putfield 58, 3) := by decide +kernel
theorem dMo_name_75 : decode cMo_name 75 = .ok (.aload_n 0, 1) := by decide +kernel
theorem dMo_name_76 : decode cMo_name 76 = .ok (.dup, 1) := by decide +kernel
theorem dMo_name_77 : decode cMo_name 77 = .ok (.getfield 68, 3) := by decide +kernel
theorem dMo_name_80 : decode cMo_name 80 = .ok (.iconst 1, 1) := by decide +kernel
theorem dMo_name_81 : decode cMo_name 81 = .ok (.iadd, 1) := by decide +kernel
theorem dMo_name_82 : decode cMo_name 82 = .ok (.putfield 68, 3) := by decide +kernel
theorem dMo_name_85 : decode cMo_name 85 = .ok (.aload_n 0, 1) := by decide +kernel
theorem dMo_name_86 : decode cMo_name 86 = .ok (.iconst 1, 1) := by decide +kernel
theorem dMo_name_87 : decode cMo_name 87 = .ok (.putfield 61, 3) := by decide +kernel
theorem dMo_name_90 : decode cMo_name 90 = .ok (.aload_n 0, 1) := by decide +kernel
theorem dMo_name_91 : decode cMo_name 91 = .ok (.getfield 68, 3) := by decide +kernel
theorem dMo_name_94 : decode cMo_name 94 = .ok (.iconst 1, 1) := by decide +kernel
theorem dMo_name_95 : decode cMo_name 95 = .ok (.isub, 1) := by decide +kernel
theorem dMo_name_96 : decode cMo_name 96 = .ok (.ireturn, 1) := by decide +kernel
abbrev cMo_allCopies : ByteArray := prog_9_method_9_code
def yMo_allCopies : MethodName := ⟨RMo, "allCopies", "()I"⟩
theorem dMo_allCopies_0 : decode cMo_allCopies 0 = .ok (.iconst 0, 1) := by decide +kernel
theorem dMo_allCopies_1 : decode cMo_allCopies 1 = .ok (.istore_n 1, 1) := by decide +kernel
theorem dMo_allCopies_2 : decode cMo_allCopies 2 = .ok (.iconst 0, 1) := by decide +kernel
theorem dMo_allCopies_3 : decode cMo_allCopies 3 = .ok (.istore_n 2, 1) := by decide +kernel
theorem dMo_allCopies_4 : decode cMo_allCopies 4 = .ok (.iload_n 2, 1) := by decide +kernel
theorem dMo_allCopies_5 : decode cMo_allCopies 5 = .ok (.aload_n 0, 1) := by decide +kernel
theorem dMo_allCopies_6 : decode cMo_allCopies 6 = .ok (.getfield 79, 3) := by decide +kernel
theorem dMo_allCopies_9 : decode cMo_allCopies 9 = .ok (.if_icmp .ge 18, 3) := by decide +kernel
theorem dMo_allCopies_12 : decode cMo_allCopies 12 = .ok (.iload_n 1, 1) := by decide +kernel
theorem dMo_allCopies_13 : decode cMo_allCopies 13 = .ok (.aload_n 0, 1) := by decide +kernel
theorem dMo_allCopies_14 : decode cMo_allCopies 14 = .ok (.getfield 22, 3) := by decide +kernel
theorem dMo_allCopies_17 : decode cMo_allCopies 17 = .ok (.iload_n 2, 1) := by decide +kernel
theorem dMo_allCopies_18 : decode cMo_allCopies 18 = .ok (.iaload, 1) := by decide +kernel
theorem dMo_allCopies_19 : decode cMo_allCopies 19 = .ok (.iadd, 1) := by decide +kernel
theorem dMo_allCopies_20 : decode cMo_allCopies 20 = .ok (.istore_n 1, 1) := by decide +kernel
theorem dMo_allCopies_21 : decode cMo_allCopies 21 = .ok (.iinc 2 1, 3) := by decide +kernel
theorem dMo_allCopies_24 : decode cMo_allCopies 24 = .ok (.goto (-20), 3) := by decide +kernel
theorem dMo_allCopies_27 : decode cMo_allCopies 27 = .ok (.iload_n 1, 1) := by decide +kernel
theorem dMo_allCopies_28 : decode cMo_allCopies 28 = .ok (.ireturn, 1) := by decide +kernel
abbrev cMo_factor : ByteArray := prog_9_method_10_code
def yMo_factor : MethodName := ⟨RMo, "factor", "(I)I"⟩
theorem dMo_factor_0 : decode cMo_factor 0 = .ok (.aload_n 0, 1) := by decide +kernel
theorem dMo_factor_1 : decode cMo_factor 1 = .ok (.iconst 0, 1) := by decide +kernel
theorem dMo_factor_2 : decode cMo_factor 2 = .ok (.putfield 65, 3) := by decide +kernel
theorem dMo_factor_5 : decode cMo_factor 5 = .ok (.aload_n 0, 1) := by decide +kernel
theorem dMo_factor_6 : decode cMo_factor 6 = .ok (.iload_n 1, 1) := by decide +kernel
theorem dMo_factor_7 : decode cMo_factor 7 = .ok (.invokevirtual 82, 3) := by decide +kernel
theorem dMo_factor_10 : decode cMo_factor 10 = .ok (.ifCond .ne 5, 3) := by decide +kernel
theorem dMo_factor_13 : decode cMo_factor 13 = .ok (.iconst (-1), 1) := by decide +kernel
theorem dMo_factor_14 : decode cMo_factor 14 = .ok (.ireturn, 1) := by decide +kernel
theorem dMo_factor_15 : decode cMo_factor 15 = .ok (.iload_n 1, 1) := by decide +kernel
theorem dMo_factor_16 : decode cMo_factor 16 = .ok (.invokestatic 86, 3) := by decide +kernel
theorem dMo_factor_19 : decode cMo_factor 19 = .ok (.iconst 4, 1) := by decide +kernel
theorem dMo_factor_20 : decode cMo_factor 20 = .ok (.if_icmp .le 6, 3) := by decide +kernel
theorem dMo_factor_23 : decode cMo_factor 23 = .ok (.bipush (-2), 2) := by decide +kernel
theorem dMo_factor_25 : decode cMo_factor 25 = .ok (.ireturn, 1) := by decide +kernel
theorem dMo_factor_26 : decode cMo_factor 26 = .ok (.aload_n 0, 1) := by decide +kernel
theorem dMo_factor_27 : decode cMo_factor 27 = .ok (.getfield 79, 3) := by decide +kernel
theorem dMo_factor_30 : decode cMo_factor 30 = .ok (.bipush 16, 2) := by decide +kernel
theorem dMo_factor_32 : decode cMo_factor 32 = .ok (.if_icmp .eq 12, 3) := by decide +kernel
theorem dMo_factor_35 : decode cMo_factor 35 = .ok (.aload_n 0, 1) := by decide +kernel
theorem dMo_factor_36 : decode cMo_factor 36 = .ok (.invokevirtual 90, 3) := by decide +kernel
theorem dMo_factor_39 : decode cMo_factor 39 = .ok (.bipush 16, 2) := by decide +kernel
theorem dMo_factor_41 : decode cMo_factor 41 = .ok (.if_icmp .ne 6, 3) := by decide +kernel
theorem dMo_factor_44 : decode cMo_factor 44 = .ok (.bipush (-4), 2) := by decide +kernel
theorem dMo_factor_46 : decode cMo_factor 46 = .ok (.ireturn, 1) := by decide +kernel
theorem dMo_factor_47 : decode cMo_factor 47 = .ok (.aload_n 0, 1) := by decide +kernel
theorem dMo_factor_48 : decode cMo_factor 48 = .ok (.getfield 19, 3) := by decide +kernel
theorem dMo_factor_51 : decode cMo_factor 51 = .ok (.aload_n 0, 1) := by decide +kernel
theorem dMo_factor_52 : decode cMo_factor 52 = .ok (.getfield 79, 3) := by decide +kernel
theorem dMo_factor_55 : decode cMo_factor 55 = .ok (.iload_n 1, 1) := by decide +kernel
theorem dMo_factor_56 : decode cMo_factor 56 = .ok (.iastore, 1) := by decide +kernel
theorem dMo_factor_57 : decode cMo_factor 57 = .ok (.aload_n 0, 1) := by decide +kernel
theorem dMo_factor_58 : decode cMo_factor 58 = .ok (.getfield 22, 3) := by decide +kernel
theorem dMo_factor_61 : decode cMo_factor 61 = .ok (.aload_n 0, 1) := by decide +kernel
theorem dMo_factor_62 : decode cMo_factor 62 = .ok (.getfield 79, 3) := by decide +kernel
theorem dMo_factor_65 : decode cMo_factor 65 = .ok (.iconst 1, 1) := by decide +kernel
theorem dMo_factor_66 : decode cMo_factor 66 = .ok (.iastore, 1) := by decide +kernel
theorem dMo_factor_67 : decode cMo_factor 67 = .ok (.iconst 0, 1) := by decide +kernel
theorem dMo_factor_68 : decode cMo_factor 68 = .ok (.istore_n 2, 1) := by decide +kernel
theorem dMo_factor_69 : decode cMo_factor 69 = .ok (.iload_n 2, 1) := by decide +kernel
theorem dMo_factor_70 : decode cMo_factor 70 = .ok (.sipush 256, 3) := by decide +kernel
theorem dMo_factor_73 : decode cMo_factor 73 = .ok (.if_icmp .ge 25, 3) := by decide +kernel
theorem dMo_factor_76 : decode cMo_factor 76 = .ok (.aload_n 0, 1) := by decide +kernel
theorem dMo_factor_77 : decode cMo_factor 77 = .ok (.getfield 25, 3) := by decide +kernel
theorem dMo_factor_80 : decode cMo_factor 80 = .ok (.sipush 256, 3) := by decide +kernel
theorem dMo_factor_83 : decode cMo_factor 83 = .ok (.aload_n 0, 1) := by decide +kernel
theorem dMo_factor_84 : decode cMo_factor 84 = .ok (.getfield 79, 3) := by decide +kernel
theorem dMo_factor_87 : decode cMo_factor 87 = .ok (.imul, 1) := by decide +kernel
theorem dMo_factor_88 : decode cMo_factor 88 = .ok (.iload_n 2, 1) := by decide +kernel
theorem dMo_factor_89 : decode cMo_factor 89 = .ok (.iadd, 1) := by decide +kernel
theorem dMo_factor_90 : decode cMo_factor 90 = .ok (.iconst 1, 1) := by decide +kernel
theorem dMo_factor_91 : decode cMo_factor 91 = .ok (.iastore, 1) := by decide +kernel
theorem dMo_factor_92 : decode cMo_factor 92 = .ok (.iinc 2 1, 3) := by decide +kernel
theorem dMo_factor_95 : decode cMo_factor 95 = .ok (.goto (-26), 3) := by decide +kernel
theorem dMo_factor_98 : decode cMo_factor 98 = .ok (.aload_n 0, 1) := by decide +kernel
theorem dMo_factor_99 : decode cMo_factor 99 = .ok (.dup, 1) := by decide +kernel
theorem dMo_factor_100 : decode cMo_factor 100 = .ok (.getfield 79, 3) := by decide +kernel
theorem dMo_factor_103 : decode cMo_factor 103 = .ok (.iconst 1, 1) := by decide +kernel
theorem dMo_factor_104 : decode cMo_factor 104 = .ok (.iadd, 1) := by decide +kernel
theorem dMo_factor_105 : decode cMo_factor 105 = .ok (.putfield 79, 3) := by decide +kernel
theorem dMo_factor_108 : decode cMo_factor 108 = .ok (.aload_n 0, 1) := by decide +kernel
theorem dMo_factor_109 : decode cMo_factor 109 = .ok (.iconst 1, 1) := by decide +kernel
theorem dMo_factor_110 : decode cMo_factor 110 = .ok (.putfield 61, 3) := by decide +kernel
theorem dMo_factor_113 : decode cMo_factor 113 = .ok (.aload_n 0, 1) := by decide +kernel
theorem dMo_factor_114 : decode cMo_factor 114 = .ok (.getfield 79, 3) := by decide +kernel
theorem dMo_factor_117 : decode cMo_factor 117 = .ok (.iconst 1, 1) := by decide +kernel
theorem dMo_factor_118 : decode cMo_factor 118 = .ok (.isub, 1) := by decide +kernel
theorem dMo_factor_119 : decode cMo_factor 119 = .ok (.ireturn, 1) := by decide +kernel
abbrev cMo_isFactor : ByteArray := prog_9_method_11_code
def yMo_isFactor : MethodName := ⟨RMo, "isFactor", "(I)Z"⟩
theorem dMo_isFactor_0 : decode cMo_isFactor 0 = .ok (.iload_n 1, 1) := by decide +kernel
theorem dMo_isFactor_1 : decode cMo_isFactor 1 = .ok (.i2l, 1) := by decide +kernel
theorem dMo_isFactor_2 : decode cMo_isFactor 2 = .ok (.lconst 0, 1) := by decide +kernel
theorem dMo_isFactor_3 : decode cMo_isFactor 3 = .ok (.aload_n 0, 1) := by decide +kernel
theorem dMo_isFactor_4 : decode cMo_isFactor 4 = .ok (.getfield 79, 3) := by decide +kernel
theorem dMo_isFactor_7 : decode cMo_isFactor 7 = .ok (.iconst 1, 1) := by decide +kernel
theorem dMo_isFactor_8 : decode cMo_isFactor 8 = .ok (.isub, 1) := by decide +kernel
theorem dMo_isFactor_9 : decode cMo_isFactor 9 = .ok (.i2l, 1) := by decide +kernel
theorem dMo_isFactor_10 : decode cMo_isFactor 10 = .ok (.invokestatic 71, 3) := by decide +kernel
theorem dMo_isFactor_13 : decode cMo_isFactor 13 = .ok (.ireturn, 1) := by decide +kernel
abbrev cMo_put : ByteArray := prog_9_method_12_code
def yMo_put : MethodName := ⟨RMo, "put", "(III)I"⟩
theorem dMo_put_0 : decode cMo_put 0 = .ok (.aload_n 0, 1) := by decide +kernel
theorem dMo_put_1 : decode cMo_put 1 = .ok (.iconst 0, 1) := by decide +kernel
theorem dMo_put_2 : decode cMo_put 2 = .ok (.putfield 65, 3) := by decide +kernel
theorem dMo_put_5 : decode cMo_put 5 = .ok (.aload_n 0, 1) := by decide +kernel
theorem dMo_put_6 : decode cMo_put 6 = .ok (.iload_n 1, 1) := by decide +kernel
theorem dMo_put_7 : decode cMo_put 7 = .ok (.invokevirtual 94, 3) := by decide +kernel
theorem dMo_put_10 : decode cMo_put 10 = .ok (.ifCond .ne 5, 3) := by decide +kernel
theorem dMo_put_13 : decode cMo_put 13 = .ok (.iconst (-1), 1) := by decide +kernel
theorem dMo_put_14 : decode cMo_put 14 = .ok (.ireturn, 1) := by decide +kernel
theorem dMo_put_15 : decode cMo_put 15 = .ok (.iload_n 2, 1) := by decide +kernel
theorem dMo_put_16 : decode cMo_put 16 = .ok (.i2l, 1) := by decide +kernel
theorem dMo_put_17 : decode cMo_put 17 = .ok (.lconst 0, 1) := by decide +kernel
theorem dMo_put_18 : decode cMo_put 18 = .ok (.aload_n 0, 1) := by decide +kernel
theorem dMo_put_19 : decode cMo_put 19 = .ok (.aload_n 0, 1) := by decide +kernel
theorem dMo_put_20 : decode cMo_put 20 = .ok (.getfield 19, 3) := by decide +kernel
theorem dMo_put_23 : decode cMo_put 23 = .ok (.iload_n 1, 1) := by decide +kernel
theorem dMo_put_24 : decode cMo_put 24 = .ok (.iaload, 1) := by decide +kernel
theorem dMo_put_25 : decode cMo_put 25 = .ok (.invokevirtual 97, 3) := by decide +kernel
theorem dMo_put_28 : decode cMo_put 28 = .ok (.iconst 1, 1) := by decide +kernel
theorem dMo_put_29 : decode cMo_put 29 = .ok (.isub, 1) := by decide +kernel
theorem dMo_put_30 : decode cMo_put 30 = .ok (.i2l, 1) := by decide +kernel
theorem dMo_put_31 : decode cMo_put 31 = .ok (.invokestatic 71, 3) := by decide +kernel
theorem dMo_put_34 : decode cMo_put 34 = .ok (.ifCond .eq 15, 3) := by decide +kernel
theorem dMo_put_37 : decode cMo_put 37 = .ok (.iload_n 3, 1) := by decide +kernel
theorem dMo_put_38 : decode cMo_put 38 = .ok (.i2l, 1) := by decide +kernel
theorem dMo_put_39 : decode cMo_put 39 = .ok (.lconst 0, 1) := by decide +kernel
theorem dMo_put_40 : decode cMo_put 40 = .ok (.ldc2_w 100, 3) := by decide +kernel
theorem dMo_put_43 : decode cMo_put 43 = .ok (.invokestatic 71, 3) := by decide +kernel
theorem dMo_put_46 : decode cMo_put 46 = .ok (.ifCond .ne 6, 3) := by decide +kernel
theorem dMo_put_49 : decode cMo_put 49 = .ok (.bipush (-2), 2) := by decide +kernel
theorem dMo_put_51 : decode cMo_put 51 = .ok (.ireturn, 1) := by decide +kernel
theorem dMo_put_52 : decode cMo_put 52 = .ok (.aload_n 0, 1) := by decide +kernel
theorem dMo_put_53 : decode cMo_put 53 = .ok (.getfield 25, 3) := by decide +kernel
theorem dMo_put_56 : decode cMo_put 56 = .ok (.sipush 256, 3) := by decide +kernel
theorem dMo_put_59 : decode cMo_put 59 = .ok (.iload_n 1, 1) := by decide +kernel
theorem dMo_put_60 : decode cMo_put 60 = .ok (.imul, 1) := by decide +kernel
theorem dMo_put_61 : decode cMo_put 61 = .ok (.iload_n 2, 1) := by decide +kernel
theorem dMo_put_62 : decode cMo_put 62 = .ok (.iadd, 1) := by decide +kernel
theorem dMo_put_63 : decode cMo_put 63 = .ok (.iaload, 1) := by decide +kernel
theorem dMo_put_64 : decode cMo_put 64 = .ok (.istore 4, 2) := by decide +kernel
theorem dMo_put_66 : decode cMo_put 66 = .ok (.aload_n 0, 1) := by decide +kernel
theorem dMo_put_67 : decode cMo_put 67 = .ok (.getfield 25, 3) := by decide +kernel
theorem dMo_put_70 : decode cMo_put 70 = .ok (.sipush 256, 3) := by decide +kernel
theorem dMo_put_73 : decode cMo_put 73 = .ok (.iload_n 1, 1) := by decide +kernel
theorem dMo_put_74 : decode cMo_put 74 = .ok (.imul, 1) := by decide +kernel
theorem dMo_put_75 : decode cMo_put 75 = .ok (.iload_n 2, 1) := by decide +kernel
theorem dMo_put_76 : decode cMo_put 76 = .ok (.iadd, 1) := by decide +kernel
theorem dMo_put_77 : decode cMo_put 77 = .ok (.iload_n 3, 1) := by decide +kernel
theorem dMo_put_78 : decode cMo_put 78 = .ok (.iastore, 1) := by decide +kernel
theorem dMo_put_79 : decode cMo_put 79 = .ok (.iload 4, 2) := by decide +kernel
theorem dMo_put_81 : decode cMo_put 81 = .ok (.ireturn, 1) := by decide +kernel
abbrev cMo_copies : ByteArray := prog_9_method_13_code
def yMo_copies : MethodName := ⟨RMo, "copies", "(II)I"⟩
theorem dMo_copies_0 : decode cMo_copies 0 = .ok (.aload_n 0, 1) := by decide +kernel
theorem dMo_copies_1 : decode cMo_copies 1 = .ok (.iconst 0, 1) := by decide +kernel
theorem dMo_copies_2 : decode cMo_copies 2 = .ok (.putfield 65, 3) := by decide +kernel
theorem dMo_copies_5 : decode cMo_copies 5 = .ok (.aload_n 0, 1) := by decide +kernel
theorem dMo_copies_6 : decode cMo_copies 6 = .ok (.iload_n 1, 1) := by decide +kernel
theorem dMo_copies_7 : decode cMo_copies 7 = .ok (.invokevirtual 94, 3) := by decide +kernel
theorem dMo_copies_10 : decode cMo_copies 10 = .ok (.ifCond .ne 5, 3) := by decide +kernel
theorem dMo_copies_13 : decode cMo_copies 13 = .ok (.iconst (-1), 1) := by decide +kernel
theorem dMo_copies_14 : decode cMo_copies 14 = .ok (.ireturn, 1) := by decide +kernel
theorem dMo_copies_15 : decode cMo_copies 15 = .ok (.iload_n 2, 1) := by decide +kernel
theorem dMo_copies_16 : decode cMo_copies 16 = .ok (.i2l, 1) := by decide +kernel
theorem dMo_copies_17 : decode cMo_copies 17 = .ok (.lconst 1, 1) := by decide +kernel
theorem dMo_copies_18 : decode cMo_copies 18 = .ok (.ldc2_w 102, 3) := by decide +kernel
theorem dMo_copies_21 : decode cMo_copies 21 = .ok (.invokestatic 71, 3) := by decide +kernel
theorem dMo_copies_24 : decode cMo_copies 24 = .ok (.ifCond .ne 6, 3) := by decide +kernel
theorem dMo_copies_27 : decode cMo_copies 27 = .ok (.bipush (-2), 2) := by decide +kernel
theorem dMo_copies_29 : decode cMo_copies 29 = .ok (.ireturn, 1) := by decide +kernel
theorem dMo_copies_30 : decode cMo_copies 30 = .ok (.aload_n 0, 1) := by decide +kernel
theorem dMo_copies_31 : decode cMo_copies 31 = .ok (.invokevirtual 90, 3) := by decide +kernel
theorem dMo_copies_34 : decode cMo_copies 34 = .ok (.aload_n 0, 1) := by decide +kernel
theorem dMo_copies_35 : decode cMo_copies 35 = .ok (.getfield 22, 3) := by decide +kernel
theorem dMo_copies_38 : decode cMo_copies 38 = .ok (.iload_n 1, 1) := by decide +kernel
theorem dMo_copies_39 : decode cMo_copies 39 = .ok (.iaload, 1) := by decide +kernel
theorem dMo_copies_40 : decode cMo_copies 40 = .ok (.isub, 1) := by decide +kernel
theorem dMo_copies_41 : decode cMo_copies 41 = .ok (.iload_n 2, 1) := by decide +kernel
theorem dMo_copies_42 : decode cMo_copies 42 = .ok (.iadd, 1) := by decide +kernel
theorem dMo_copies_43 : decode cMo_copies 43 = .ok (.bipush 16, 2) := by decide +kernel
theorem dMo_copies_45 : decode cMo_copies 45 = .ok (.if_icmp .le 6, 3) := by decide +kernel
theorem dMo_copies_48 : decode cMo_copies 48 = .ok (.bipush (-4), 2) := by decide +kernel
theorem dMo_copies_50 : decode cMo_copies 50 = .ok (.ireturn, 1) := by decide +kernel
theorem dMo_copies_51 : decode cMo_copies 51 = .ok (.aload_n 0, 1) := by decide +kernel
theorem dMo_copies_52 : decode cMo_copies 52 = .ok (.getfield 22, 3) := by decide +kernel
theorem dMo_copies_55 : decode cMo_copies 55 = .ok (.iload_n 1, 1) := by decide +kernel
theorem dMo_copies_56 : decode cMo_copies 56 = .ok (.iaload, 1) := by decide +kernel
theorem dMo_copies_57 : decode cMo_copies 57 = .ok (.istore_n 3, 1) := by decide +kernel
theorem dMo_copies_58 : decode cMo_copies 58 = .ok (.aload_n 0, 1) := by decide +kernel
theorem dMo_copies_59 : decode cMo_copies 59 = .ok (.getfield 22, 3) := by decide +kernel
theorem dMo_copies_62 : decode cMo_copies 62 = .ok (.iload_n 1, 1) := by decide +kernel
theorem dMo_copies_63 : decode cMo_copies 63 = .ok (.iload_n 2, 1) := by decide +kernel
theorem dMo_copies_64 : decode cMo_copies 64 = .ok (.iastore, 1) := by decide +kernel
theorem dMo_copies_65 : decode cMo_copies 65 = .ok (.iload_n 3, 1) := by decide +kernel
theorem dMo_copies_66 : decode cMo_copies 66 = .ok (.ireturn, 1) := by decide +kernel
abbrev cMo_evidence : ByteArray := prog_9_method_14_code
def yMo_evidence : MethodName := ⟨RMo, "evidence", "(II)I"⟩
theorem dMo_evidence_0 : decode cMo_evidence 0 = .ok (.aload_n 0, 1) := by decide +kernel
theorem dMo_evidence_1 : decode cMo_evidence 1 = .ok (.iconst 0, 1) := by decide +kernel
theorem dMo_evidence_2 : decode cMo_evidence 2 = .ok (.putfield 65, 3) := by decide +kernel
theorem dMo_evidence_5 : decode cMo_evidence 5 = .ok (.aload_n 0, 1) := by decide +kernel
theorem dMo_evidence_6 : decode cMo_evidence 6 = .ok (.iload_n 1, 1) := by decide +kernel
theorem dMo_evidence_7 : decode cMo_evidence 7 = .ok (.invokevirtual 104, 3) := by decide +kernel
theorem dMo_evidence_10 : decode cMo_evidence 10 = .ok (.ifCond .ne 5, 3) := by decide +kernel
theorem dMo_evidence_13 : decode cMo_evidence 13 = .ok (.iconst (-1), 1) := by decide +kernel
theorem dMo_evidence_14 : decode cMo_evidence 14 = .ok (.ireturn, 1) := by decide +kernel
theorem dMo_evidence_15 : decode cMo_evidence 15 = .ok (.iload_n 2, 1) := by decide +kernel
theorem dMo_evidence_16 : decode cMo_evidence 16 = .ok (.i2l, 1) := by decide +kernel
theorem dMo_evidence_17 : decode cMo_evidence 17 = .ok (.ldc2_w 107, 3) := by decide +kernel
theorem dMo_evidence_20 : decode cMo_evidence 20 = .ok (.aload_n 0, 1) := by decide +kernel
theorem dMo_evidence_21 : decode cMo_evidence 21 = .ok (.getfield 7, 3) := by decide +kernel
theorem dMo_evidence_24 : decode cMo_evidence 24 = .ok (.iload_n 1, 1) := by decide +kernel
theorem dMo_evidence_25 : decode cMo_evidence 25 = .ok (.iaload, 1) := by decide +kernel
theorem dMo_evidence_26 : decode cMo_evidence 26 = .ok (.iconst 1, 1) := by decide +kernel
theorem dMo_evidence_27 : decode cMo_evidence 27 = .ok (.isub, 1) := by decide +kernel
theorem dMo_evidence_28 : decode cMo_evidence 28 = .ok (.i2l, 1) := by decide +kernel
theorem dMo_evidence_29 : decode cMo_evidence 29 = .ok (.invokestatic 71, 3) := by decide +kernel
theorem dMo_evidence_32 : decode cMo_evidence 32 = .ok (.ifCond .ne 6, 3) := by decide +kernel
theorem dMo_evidence_35 : decode cMo_evidence 35 = .ok (.bipush (-2), 2) := by decide +kernel
theorem dMo_evidence_37 : decode cMo_evidence 37 = .ok (.ireturn, 1) := by decide +kernel
theorem dMo_evidence_38 : decode cMo_evidence 38 = .ok (.aload_n 0, 1) := by decide +kernel
theorem dMo_evidence_39 : decode cMo_evidence 39 = .ok (.getfield 13, 3) := by decide +kernel
theorem dMo_evidence_42 : decode cMo_evidence 42 = .ok (.iload_n 1, 1) := by decide +kernel
theorem dMo_evidence_43 : decode cMo_evidence 43 = .ok (.iaload, 1) := by decide +kernel
theorem dMo_evidence_44 : decode cMo_evidence 44 = .ok (.istore_n 3, 1) := by decide +kernel
theorem dMo_evidence_45 : decode cMo_evidence 45 = .ok (.aload_n 0, 1) := by decide +kernel
theorem dMo_evidence_46 : decode cMo_evidence 46 = .ok (.getfield 13, 3) := by decide +kernel
theorem dMo_evidence_49 : decode cMo_evidence 49 = .ok (.iload_n 1, 1) := by decide +kernel
theorem dMo_evidence_50 : decode cMo_evidence 50 = .ok (.iload_n 2, 1) := by decide +kernel
theorem dMo_evidence_51 : decode cMo_evidence 51 = .ok (.iastore, 1) := by decide +kernel
theorem dMo_evidence_52 : decode cMo_evidence 52 = .ok (.iload_n 3, 1) := by decide +kernel
theorem dMo_evidence_53 : decode cMo_evidence 53 = .ok (.ireturn, 1) := by decide +kernel
abbrev cMo_memory : ByteArray := prog_9_method_15_code
def yMo_memory : MethodName := ⟨RMo, "memory", "(I)I"⟩
theorem dMo_memory_0 : decode cMo_memory 0 = .ok (.aload_n 0, 1) := by decide +kernel
theorem dMo_memory_1 : decode cMo_memory 1 = .ok (.iconst 0, 1) := by decide +kernel
theorem dMo_memory_2 : decode cMo_memory 2 = .ok (.putfield 65, 3) := by decide +kernel
theorem dMo_memory_5 : decode cMo_memory 5 = .ok (.iload_n 1, 1) := by decide +kernel
theorem dMo_memory_6 : decode cMo_memory 6 = .ok (.i2l, 1) := by decide +kernel
theorem dMo_memory_7 : decode cMo_memory 7 = .ok (.lconst 1, 1) := by decide +kernel
theorem dMo_memory_8 : decode cMo_memory 8 = .ok (.ldc2_w 109, 3) := by decide +kernel
theorem dMo_memory_11 : decode cMo_memory 11 = .ok (.invokestatic 71, 3) := by decide +kernel
theorem dMo_memory_14 : decode cMo_memory 14 = .ok (.ifCond .ne 6, 3) := by decide +kernel
theorem dMo_memory_17 : decode cMo_memory 17 = .ok (.bipush (-2), 2) := by decide +kernel
theorem dMo_memory_19 : decode cMo_memory 19 = .ok (.ireturn, 1) := by decide +kernel
theorem dMo_memory_20 : decode cMo_memory 20 = .ok (.aload_n 0, 1) := by decide +kernel
theorem dMo_memory_21 : decode cMo_memory 21 = .ok (.getfield 54, 3) := by decide +kernel
theorem dMo_memory_24 : decode cMo_memory 24 = .ok (.istore_n 2, 1) := by decide +kernel
theorem dMo_memory_25 : decode cMo_memory 25 = .ok (.aload_n 0, 1) := by decide +kernel
theorem dMo_memory_26 : decode cMo_memory 26 = .ok (.iload_n 1, 1) := by decide +kernel
theorem dMo_memory_27 : decode cMo_memory 27 = .ok (.putfield 54, 3) := by decide +kernel
theorem dMo_memory_30 : decode cMo_memory 30 = .ok (.iload_n 2, 1) := by decide +kernel
theorem dMo_memory_31 : decode cMo_memory 31 = .ok (.ireturn, 1) := by decide +kernel
abbrev cMo_place : ByteArray := prog_9_method_16_code
def yMo_place : MethodName := ⟨RMo, "place", "(II)I"⟩
theorem dMo_place_0 : decode cMo_place 0 = .ok (.aload_n 0, 1) := by decide +kernel
theorem dMo_place_1 : decode cMo_place 1 = .ok (.iconst 0, 1) := by decide +kernel
theorem dMo_place_2 : decode cMo_place 2 = .ok (.putfield 65, 3) := by decide +kernel
theorem dMo_place_5 : decode cMo_place 5 = .ok (.iload_n 1, 1) := by decide +kernel
theorem dMo_place_6 : decode cMo_place 6 = .ok (.i2l, 1) := by decide +kernel
theorem dMo_place_7 : decode cMo_place 7 = .ok (.lconst 0, 1) := by decide +kernel
theorem dMo_place_8 : decode cMo_place 8 = .ok (.ldc2_w 111, 3) := by decide +kernel
theorem dMo_place_11 : decode cMo_place 11 = .ok (.invokestatic 71, 3) := by decide +kernel
theorem dMo_place_14 : decode cMo_place 14 = .ok (.ifCond .ne 6, 3) := by decide +kernel
theorem dMo_place_17 : decode cMo_place 17 = .ok (.bipush (-2), 2) := by decide +kernel
theorem dMo_place_19 : decode cMo_place 19 = .ok (.ireturn, 1) := by decide +kernel
theorem dMo_place_20 : decode cMo_place 20 = .ok (.aload_n 0, 1) := by decide +kernel
theorem dMo_place_21 : decode cMo_place 21 = .ok (.iload_n 2, 1) := by decide +kernel
theorem dMo_place_22 : decode cMo_place 22 = .ok (.invokevirtual 104, 3) := by decide +kernel
theorem dMo_place_25 : decode cMo_place 25 = .ok (.ifCond .ne 5, 3) := by decide +kernel
theorem dMo_place_28 : decode cMo_place 28 = .ok (.iconst (-1), 1) := by decide +kernel
theorem dMo_place_29 : decode cMo_place 29 = .ok (.ireturn, 1) := by decide +kernel
theorem dMo_place_30 : decode cMo_place 30 = .ok (.aload_n 0, 1) := by decide +kernel
theorem dMo_place_31 : decode cMo_place 31 = .ok (.getfield 16, 3) := by decide +kernel
theorem dMo_place_34 : decode cMo_place 34 = .ok (.iload_n 1, 1) := by decide +kernel
theorem dMo_place_35 : decode cMo_place 35 = .ok (.iaload, 1) := by decide +kernel
theorem dMo_place_36 : decode cMo_place 36 = .ok (.istore_n 3, 1) := by decide +kernel
theorem dMo_place_37 : decode cMo_place 37 = .ok (.aload_n 0, 1) := by decide +kernel
theorem dMo_place_38 : decode cMo_place 38 = .ok (.getfield 16, 3) := by decide +kernel
theorem dMo_place_41 : decode cMo_place 41 = .ok (.iload_n 1, 1) := by decide +kernel
theorem dMo_place_42 : decode cMo_place 42 = .ok (.iload_n 2, 1) := by decide +kernel
theorem dMo_place_43 : decode cMo_place 43 = .ok (.iastore, 1) := by decide +kernel
theorem dMo_place_44 : decode cMo_place 44 = .ok (.iload_n 3, 1) := by decide +kernel
theorem dMo_place_45 : decode cMo_place 45 = .ok (.ireturn, 1) := by decide +kernel
abbrev cMo_draw : ByteArray := prog_9_method_17_code
def yMo_draw : MethodName := ⟨RMo, "draw", "()V"⟩
theorem dMo_draw_0 : decode cMo_draw 0 = .ok (.iconst 0, 1) := by decide +kernel
theorem dMo_draw_1 : decode cMo_draw 1 = .ok (.istore_n 1, 1) := by decide +kernel
theorem dMo_draw_2 : decode cMo_draw 2 = .ok (.iload_n 1, 1) := by decide +kernel
theorem dMo_draw_3 : decode cMo_draw 3 = .ok (.aload_n 0, 1) := by decide +kernel
theorem dMo_draw_4 : decode cMo_draw 4 = .ok (.getfield 68, 3) := by decide +kernel
theorem dMo_draw_7 : decode cMo_draw 7 = .ok (.if_icmp .ge 92, 3) := by decide +kernel
theorem dMo_draw_10 : decode cMo_draw 10 = .ok (.aload_n 0, 1) := by decide +kernel
theorem dMo_draw_11 : decode cMo_draw 11 = .ok (.getfield 34, 3) := by decide +kernel
theorem dMo_draw_14 : decode cMo_draw 14 = .ok (.iload_n 1, 1) := by decide +kernel
theorem dMo_draw_15 : decode cMo_draw 15 = .ok (.iconst 0, 1) := by decide +kernel
theorem dMo_draw_16 : decode cMo_draw 16 = .ok (.iastore, 1) := by decide +kernel
theorem dMo_draw_17 : decode cMo_draw 17 = .ok (.iconst 0, 1) := by decide +kernel
theorem dMo_draw_18 : decode cMo_draw 18 = .ok (.istore_n 2, 1) := by decide +kernel
theorem dMo_draw_19 : decode cMo_draw 19 = .ok (.iload_n 2, 1) := by decide +kernel
theorem dMo_draw_20 : decode cMo_draw 20 = .ok (.aload_n 0, 1) := by decide +kernel
theorem dMo_draw_21 : decode cMo_draw 21 = .ok (.getfield 79, 3) := by decide +kernel
theorem dMo_draw_24 : decode cMo_draw 24 = .ok (.if_icmp .ge 51, 3) := by decide +kernel
theorem dMo_draw_27 : decode cMo_draw 27 = .ok (.aload_n 0, 1) := by decide +kernel
theorem dMo_draw_28 : decode cMo_draw 28 = .ok (.getfield 34, 3) := by decide +kernel
theorem dMo_draw_31 : decode cMo_draw 31 = .ok (.iload_n 1, 1) := by decide +kernel
theorem dMo_draw_32 : decode cMo_draw 32 = .ok (.aload_n 0, 1) := by decide +kernel
theorem dMo_draw_33 : decode cMo_draw 33 = .ok (.getfield 19, 3) := by decide +kernel
theorem dMo_draw_36 : decode cMo_draw 36 = .ok (.iload_n 2, 1) := by decide +kernel
theorem dMo_draw_37 : decode cMo_draw 37 = .ok (.iaload, 1) := by decide +kernel
theorem dMo_draw_38 : decode cMo_draw 38 = .ok (.iload_n 1, 1) := by decide +kernel
theorem dMo_draw_39 : decode cMo_draw 39 = .ok (.ishr, 1) := by decide +kernel
theorem dMo_draw_40 : decode cMo_draw 40 = .ok (.iconst 1, 1) := by decide +kernel
theorem dMo_draw_41 : decode cMo_draw 41 = .ok (.iand, 1) := by decide +kernel
theorem dMo_draw_42 : decode cMo_draw 42 = .ok (.iconst 1, 1) := by decide +kernel
theorem dMo_draw_43 : decode cMo_draw 43 = .ok (.if_icmp .ne 19, 3) := by decide +kernel
theorem dMo_draw_46 : decode cMo_draw 46 = .ok (.aload_n 0, 1) := by decide +kernel
theorem dMo_draw_47 : decode cMo_draw 47 = .ok (.getfield 34, 3) := by decide +kernel
theorem dMo_draw_50 : decode cMo_draw 50 = .ok (.iload_n 1, 1) := by decide +kernel
theorem dMo_draw_51 : decode cMo_draw 51 = .ok (.iaload, 1) := by decide +kernel
theorem dMo_draw_52 : decode cMo_draw 52 = .ok (.aload_n 0, 1) := by decide +kernel
theorem dMo_draw_53 : decode cMo_draw 53 = .ok (.getfield 19, 3) := by decide +kernel
theorem dMo_draw_56 : decode cMo_draw 56 = .ok (.iload_n 2, 1) := by decide +kernel
theorem dMo_draw_57 : decode cMo_draw 57 = .ok (.iaload, 1) := by decide +kernel
theorem dMo_draw_58 : decode cMo_draw 58 = .ok (.ior, 1) := by decide +kernel
theorem dMo_draw_59 : decode cMo_draw 59 = .ok (.goto 9, 3) := by decide +kernel
theorem dMo_draw_62 : decode cMo_draw 62 = .ok (.aload_n 0, 1) := by decide +kernel
theorem dMo_draw_63 : decode cMo_draw 63 = .ok (.getfield 34, 3) := by decide +kernel
theorem dMo_draw_66 : decode cMo_draw 66 = .ok (.iload_n 1, 1) := by decide +kernel
theorem dMo_draw_67 : decode cMo_draw 67 = .ok (.iaload, 1) := by decide +kernel
theorem dMo_draw_68 : decode cMo_draw 68 = .ok (.iastore, 1) := by decide +kernel
theorem dMo_draw_69 : decode cMo_draw 69 = .ok (.iinc 2 1, 3) := by decide +kernel
theorem dMo_draw_72 : decode cMo_draw 72 = .ok (.goto (-53), 3) := by decide +kernel
theorem dMo_draw_75 : decode cMo_draw 75 = .ok (.aload_n 0, 1) := by decide +kernel
theorem dMo_draw_76 : decode cMo_draw 76 = .ok (.getfield 34, 3) := by decide +kernel
theorem dMo_draw_79 : decode cMo_draw 79 = .ok (.iload_n 1, 1) := by decide +kernel
theorem dMo_draw_80 : decode cMo_draw 80 = .ok (.aload_n 0, 1) := by decide +kernel
theorem dMo_draw_81 : decode cMo_draw 81 = .ok (.getfield 34, 3) := by decide +kernel
theorem dMo_draw_84 : decode cMo_draw 84 = .ok (.iload_n 1, 1) := by decide +kernel
theorem dMo_draw_85 : decode cMo_draw 85 = .ok (.iaload, 1) := by decide +kernel
theorem dMo_draw_86 : decode cMo_draw 86 = .ok (.iconst 1, 1) := by decide +kernel
theorem dMo_draw_87 : decode cMo_draw 87 = .ok (.iload_n 1, 1) := by decide +kernel
theorem dMo_draw_88 : decode cMo_draw 88 = .ok (.ishl, 1) := by decide +kernel
theorem dMo_draw_89 : decode cMo_draw 89 = .ok (.iconst (-1), 1) := by decide +kernel
theorem dMo_draw_90 : decode cMo_draw 90 = .ok (.ixor, 1) := by decide +kernel
theorem dMo_draw_91 : decode cMo_draw 91 = .ok (.iand, 1) := by decide +kernel
theorem dMo_draw_92 : decode cMo_draw 92 = .ok (.iastore, 1) := by decide +kernel
theorem dMo_draw_93 : decode cMo_draw 93 = .ok (.iinc 1 1, 3) := by decide +kernel
theorem dMo_draw_96 : decode cMo_draw 96 = .ok (.goto (-94), 3) := by decide +kernel
theorem dMo_draw_99 : decode cMo_draw 99 = .ok (.return_, 1) := by decide +kernel
abbrev cMo_fill : ByteArray := prog_9_method_18_code
def yMo_fill : MethodName := ⟨RMo, "fill", "(I)I"⟩
theorem dMo_fill_0 : decode cMo_fill 0 = .ok (.iconst 0, 1) := by decide +kernel
theorem dMo_fill_1 : decode cMo_fill 1 = .ok (.istore_n 2, 1) := by decide +kernel
theorem dMo_fill_2 : decode cMo_fill 2 = .ok (.iconst 0, 1) := by decide +kernel
theorem dMo_fill_3 : decode cMo_fill 3 = .ok (.istore_n 3, 1) := by decide +kernel
theorem dMo_fill_4 : decode cMo_fill 4 = .ok (.iload_n 3, 1) := by decide +kernel
theorem dMo_fill_5 : decode cMo_fill 5 = .ok (.aload_n 0, 1) := by decide +kernel
theorem dMo_fill_6 : decode cMo_fill 6 = .ok (.getfield 68, 3) := by decide +kernel
theorem dMo_fill_9 : decode cMo_fill 9 = .ok (.if_icmp .ge 87, 3) := by decide +kernel
theorem dMo_fill_12 : decode cMo_fill 12 = .ok (.iconst 0, 1) := by decide +kernel
theorem dMo_fill_13 : decode cMo_fill 13 = .ok (.istore 4, 2) := by decide +kernel
theorem dMo_fill_15 : decode cMo_fill 15 = .ok (.iload 4, 2) := by decide +kernel
theorem dMo_fill_17 : decode cMo_fill 17 = .ok (.iload_n 3, 1) := by decide +kernel
theorem dMo_fill_18 : decode cMo_fill 18 = .ok (.if_icmp .ge 72, 3) := by decide +kernel
theorem dMo_fill_21 : decode cMo_fill 21 = .ok (.aload_n 0, 1) := by decide +kernel
theorem dMo_fill_22 : decode cMo_fill 22 = .ok (.getfield 34, 3) := by decide +kernel
theorem dMo_fill_25 : decode cMo_fill 25 = .ok (.iload_n 1, 1) := by decide +kernel
theorem dMo_fill_26 : decode cMo_fill 26 = .ok (.iaload, 1) := by decide +kernel
theorem dMo_fill_27 : decode cMo_fill 27 = .ok (.iload_n 3, 1) := by decide +kernel
theorem dMo_fill_28 : decode cMo_fill 28 = .ok (.ishr, 1) := by decide +kernel
theorem dMo_fill_29 : decode cMo_fill 29 = .ok (.iconst 1, 1) := by decide +kernel
theorem dMo_fill_30 : decode cMo_fill 30 = .ok (.iand, 1) := by decide +kernel
theorem dMo_fill_31 : decode cMo_fill 31 = .ok (.iconst 1, 1) := by decide +kernel
theorem dMo_fill_32 : decode cMo_fill 32 = .ok (.if_icmp .ne 22, 3) := by decide +kernel
theorem dMo_fill_35 : decode cMo_fill 35 = .ok (.aload_n 0, 1) := by decide +kernel
theorem dMo_fill_36 : decode cMo_fill 36 = .ok (.getfield 34, 3) := by decide +kernel
theorem dMo_fill_39 : decode cMo_fill 39 = .ok (.iload_n 1, 1) := by decide +kernel
theorem dMo_fill_40 : decode cMo_fill 40 = .ok (.iaload, 1) := by decide +kernel
theorem dMo_fill_41 : decode cMo_fill 41 = .ok (.iload 4, 2) := by decide +kernel
theorem dMo_fill_43 : decode cMo_fill 43 = .ok (.ishr, 1) := by decide +kernel
theorem dMo_fill_44 : decode cMo_fill 44 = .ok (.iconst 1, 1) := by decide +kernel
theorem dMo_fill_45 : decode cMo_fill 45 = .ok (.iand, 1) := by decide +kernel
theorem dMo_fill_46 : decode cMo_fill 46 = .ok (.iconst 1, 1) := by decide +kernel
theorem dMo_fill_47 : decode cMo_fill 47 = .ok (.if_icmp .ne 7, 3) := by decide +kernel
theorem dMo_fill_50 : decode cMo_fill 50 = .ok (.iconst 1, 1) := by decide +kernel
theorem dMo_fill_51 : decode cMo_fill 51 = .ok (.goto 4, 3) := by decide +kernel
theorem dMo_fill_54 : decode cMo_fill 54 = .ok (.iconst 0, 1) := by decide +kernel
theorem dMo_fill_55 : decode cMo_fill 55 = .ok (.istore 5, 2) := by decide +kernel
theorem dMo_fill_57 : decode cMo_fill 57 = .ok (.iload 5, 2) := by decide +kernel
theorem dMo_fill_59 : decode cMo_fill 59 = .ok (.ifCond .eq 23, 3) := by decide +kernel
theorem dMo_fill_62 : decode cMo_fill 62 = .ok (.aload_n 0, 1) := by decide +kernel
theorem dMo_fill_63 : decode cMo_fill 63 = .ok (.getfield 34, 3) := by decide +kernel
theorem dMo_fill_66 : decode cMo_fill 66 = .ok (.iload_n 3, 1) := by decide +kernel
theorem dMo_fill_67 : decode cMo_fill 67 = .ok (.iaload, 1) := by decide +kernel
theorem dMo_fill_68 : decode cMo_fill 68 = .ok (.iload 4, 2) := by decide +kernel
theorem dMo_fill_70 : decode cMo_fill 70 = .ok (.ishr, 1) := by decide +kernel
theorem dMo_fill_71 : decode cMo_fill 71 = .ok (.iconst 1, 1) := by decide +kernel
theorem dMo_fill_72 : decode cMo_fill 72 = .ok (.iand, 1) := by decide +kernel
theorem dMo_fill_73 : decode cMo_fill 73 = .ok (.ifCond .ne 9, 3) := by decide +kernel
theorem dMo_fill_76 : decode cMo_fill 76 = .ok (.iload_n 2, 1) := by decide +kernel
theorem dMo_fill_77 : decode cMo_fill 77 = .ok (.iconst 1, 1) := by decide +kernel
theorem dMo_fill_78 : decode cMo_fill 78 = .ok (.iadd, 1) := by decide +kernel
theorem dMo_fill_79 : decode cMo_fill 79 = .ok (.goto 4, 3) := by decide +kernel
theorem dMo_fill_82 : decode cMo_fill 82 = .ok (.iload_n 2, 1) := by decide +kernel
theorem dMo_fill_83 : decode cMo_fill 83 = .ok (.istore_n 2, 1) := by decide +kernel
theorem dMo_fill_84 : decode cMo_fill 84 = .ok (.iinc 4 1, 3) := by decide +kernel
theorem dMo_fill_87 : decode cMo_fill 87 = .ok (.goto (-72), 3) := by decide +kernel
theorem dMo_fill_90 : decode cMo_fill 90 = .ok (.iinc 3 1, 3) := by decide +kernel
theorem dMo_fill_93 : decode cMo_fill 93 = .ok (.goto (-89), 3) := by decide +kernel
theorem dMo_fill_96 : decode cMo_fill 96 = .ok (.iload_n 2, 1) := by decide +kernel
theorem dMo_fill_97 : decode cMo_fill 97 = .ok (.ireturn, 1) := by decide +kernel
abbrev cMo_takeOut : ByteArray := prog_9_method_19_code
def yMo_takeOut : MethodName := ⟨RMo, "takeOut", "(II)V"⟩
theorem dMo_takeOut_0 : decode cMo_takeOut 0 = .ok (.aload_n 0, 1) := by decide +kernel
theorem dMo_takeOut_1 : decode cMo_takeOut 1 = .ok (.getfield 28, 3) := by decide +kernel
theorem dMo_takeOut_4 : decode cMo_takeOut 4 = .ok (.iload_n 2, 1) := by decide +kernel
theorem dMo_takeOut_5 : decode cMo_takeOut 5 = .ok (.iload_n 1, 1) := by decide +kernel
theorem dMo_takeOut_6 : decode cMo_takeOut 6 = .ok (.iastore, 1) := by decide +kernel
theorem dMo_takeOut_7 : decode cMo_takeOut 7 = .ok (.aload_n 0, 1) := by decide +kernel
theorem dMo_takeOut_8 : decode cMo_takeOut 8 = .ok (.getfield 31, 3) := by decide +kernel
theorem dMo_takeOut_11 : decode cMo_takeOut 11 = .ok (.iload_n 2, 1) := by decide +kernel
theorem dMo_takeOut_12 : decode cMo_takeOut 12 = .ok (.aload_n 0, 1) := by decide +kernel
theorem dMo_takeOut_13 : decode cMo_takeOut 13 = .ok (.getfield 34, 3) := by decide +kernel
theorem dMo_takeOut_16 : decode cMo_takeOut 16 = .ok (.iload_n 1, 1) := by decide +kernel
theorem dMo_takeOut_17 : decode cMo_takeOut 17 = .ok (.iaload, 1) := by decide +kernel
theorem dMo_takeOut_18 : decode cMo_takeOut 18 = .ok (.iconst 1, 1) := by decide +kernel
theorem dMo_takeOut_19 : decode cMo_takeOut 19 = .ok (.iload_n 1, 1) := by decide +kernel
theorem dMo_takeOut_20 : decode cMo_takeOut 20 = .ok (.ishl, 1) := by decide +kernel
theorem dMo_takeOut_21 : decode cMo_takeOut 21 = .ok (.ior, 1) := by decide +kernel
theorem dMo_takeOut_22 : decode cMo_takeOut 22 = .ok (.iastore, 1) := by decide +kernel
theorem dMo_takeOut_23 : decode cMo_takeOut 23 = .ok (.aload_n 0, 1) := by decide +kernel
theorem dMo_takeOut_24 : decode cMo_takeOut 24 = .ok (.dup, 1) := by decide +kernel
theorem dMo_takeOut_25 : decode cMo_takeOut 25 = .ok (.getfield 113, 3) := by decide +kernel
theorem dMo_takeOut_28 : decode cMo_takeOut 28 = .ok (.aload_n 0, 1) := by decide +kernel
theorem dMo_takeOut_29 : decode cMo_takeOut 29 = .ok (.iload_n 1, 1) := by decide +kernel
theorem dMo_takeOut_30 : decode cMo_takeOut 30 = .ok (.invokevirtual 116, 3) := by decide +kernel
theorem dMo_takeOut_33 : decode cMo_takeOut 33 = .ok (.iadd, 1) := by decide +kernel
theorem dMo_takeOut_34 : decode cMo_takeOut 34 = .ok (.putfield 113, 3) := by decide +kernel
theorem dMo_takeOut_37 : decode cMo_takeOut 37 = .ok (.aload_n 0, 1) := by decide +kernel
theorem dMo_takeOut_38 : decode cMo_takeOut 38 = .ok (.getfield 34, 3) := by decide +kernel
theorem dMo_takeOut_41 : decode cMo_takeOut 41 = .ok (.iload_n 1, 1) := by decide +kernel
theorem dMo_takeOut_42 : decode cMo_takeOut 42 = .ok (.iaload, 1) := by decide +kernel
theorem dMo_takeOut_43 : decode cMo_takeOut 43 = .ok (.istore_n 3, 1) := by decide +kernel
theorem dMo_takeOut_44 : decode cMo_takeOut 44 = .ok (.iconst 0, 1) := by decide +kernel
theorem dMo_takeOut_45 : decode cMo_takeOut 45 = .ok (.istore 4, 2) := by decide +kernel
theorem dMo_takeOut_47 : decode cMo_takeOut 47 = .ok (.iload 4, 2) := by decide +kernel
theorem dMo_takeOut_49 : decode cMo_takeOut 49 = .ok (.aload_n 0, 1) := by decide +kernel
theorem dMo_takeOut_50 : decode cMo_takeOut 50 = .ok (.getfield 68, 3) := by decide +kernel
theorem dMo_takeOut_53 : decode cMo_takeOut 53 = .ok (.if_icmp .ge 48, 3) := by decide +kernel
theorem dMo_takeOut_56 : decode cMo_takeOut 56 = .ok (.iload_n 3, 1) := by decide +kernel
theorem dMo_takeOut_57 : decode cMo_takeOut 57 = .ok (.iload 4, 2) := by decide +kernel
theorem dMo_takeOut_59 : decode cMo_takeOut 59 = .ok (.ishr, 1) := by decide +kernel
theorem dMo_takeOut_60 : decode cMo_takeOut 60 = .ok (.iconst 1, 1) := by decide +kernel
theorem dMo_takeOut_61 : decode cMo_takeOut 61 = .ok (.iand, 1) := by decide +kernel
theorem dMo_takeOut_62 : decode cMo_takeOut 62 = .ok (.iconst 1, 1) := by decide +kernel
theorem dMo_takeOut_63 : decode cMo_takeOut 63 = .ok (.if_icmp .ne 32, 3) := by decide +kernel
theorem dMo_takeOut_66 : decode cMo_takeOut 66 = .ok (.aload_n 0, 1) := by decide +kernel
theorem dMo_takeOut_67 : decode cMo_takeOut 67 = .ok (.getfield 34, 3) := by decide +kernel
theorem dMo_takeOut_70 : decode cMo_takeOut 70 = .ok (.iload 4, 2) := by decide +kernel
theorem dMo_takeOut_72 : decode cMo_takeOut 72 = .ok (.aload_n 0, 1) := by decide +kernel
theorem dMo_takeOut_73 : decode cMo_takeOut 73 = .ok (.getfield 34, 3) := by decide +kernel
theorem dMo_takeOut_76 : decode cMo_takeOut 76 = .ok (.iload 4, 2) := by decide +kernel
theorem dMo_takeOut_78 : decode cMo_takeOut 78 = .ok (.iaload, 1) := by decide +kernel
theorem dMo_takeOut_79 : decode cMo_takeOut 79 = .ok (.iload_n 3, 1) := by decide +kernel
theorem dMo_takeOut_80 : decode cMo_takeOut 80 = .ok (.ior, 1) := by decide +kernel
theorem dMo_takeOut_81 : decode cMo_takeOut 81 = .ok (.iconst 1, 1) := by decide +kernel
theorem dMo_takeOut_82 : decode cMo_takeOut 82 = .ok (.iload 4, 2) := by decide +kernel
theorem dMo_takeOut_84 : decode cMo_takeOut 84 = .ok (.ishl, 1) := by decide +kernel
theorem dMo_takeOut_85 : decode cMo_takeOut 85 = .ok (.iconst (-1), 1) := by decide +kernel
theorem dMo_takeOut_86 : decode cMo_takeOut 86 = .ok (.ixor, 1) := by decide +kernel
theorem dMo_takeOut_87 : decode cMo_takeOut 87 = .ok (.iand, 1) := by decide +kernel
theorem dMo_takeOut_88 : decode cMo_takeOut 88 = .ok (.iconst 1, 1) := by decide +kernel
theorem dMo_takeOut_89 : decode cMo_takeOut 89 = .ok (.iload_n 1, 1) := by decide +kernel
theorem dMo_takeOut_90 : decode cMo_takeOut 90 = .ok (.ishl, 1) := by decide +kernel
theorem dMo_takeOut_91 : decode cMo_takeOut 91 = .ok (.iconst (-1), 1) := by decide +kernel
theorem dMo_takeOut_92 : decode cMo_takeOut 92 = .ok (.ixor, 1) := by decide +kernel
theorem dMo_takeOut_93 : decode cMo_takeOut 93 = .ok (.iand, 1) := by decide +kernel
theorem dMo_takeOut_94 : decode cMo_takeOut 94 = .ok (.iastore, 1) := by decide +kernel
theorem dMo_takeOut_95 : decode cMo_takeOut 95 = .ok (.iinc 4 1, 3) := by decide +kernel
theorem dMo_takeOut_98 : decode cMo_takeOut 98 = .ok (.goto (-51), 3) := by decide +kernel
theorem dMo_takeOut_101 : decode cMo_takeOut 101 = .ok (.aload_n 0, 1) := by decide +kernel
theorem dMo_takeOut_102 : decode cMo_takeOut 102 = .ok (.getfield 34, 3) := by decide +kernel
theorem dMo_takeOut_105 : decode cMo_takeOut 105 = .ok (.iload_n 1, 1) := by decide +kernel
theorem dMo_takeOut_106 : decode cMo_takeOut 106 = .ok (.iconst 0, 1) := by decide +kernel
theorem dMo_takeOut_107 : decode cMo_takeOut 107 = .ok (.iastore, 1) := by decide +kernel
theorem dMo_takeOut_108 : decode cMo_takeOut 108 = .ok (.return_, 1) := by decide +kernel
abbrev cMo_pick : ByteArray := prog_9_method_20_code
def yMo_pick : MethodName := ⟨RMo, "pick", "(II)I"⟩
theorem dMo_pick_0 : decode cMo_pick 0 = .ok (.iconst (-1), 1) := by decide +kernel
theorem dMo_pick_1 : decode cMo_pick 1 = .ok (.istore_n 3, 1) := by decide +kernel
theorem dMo_pick_2 : decode cMo_pick 2 = .ok (.iconst 0, 1) := by decide +kernel
theorem dMo_pick_3 : decode cMo_pick 3 = .ok (.istore 4, 2) := by decide +kernel
theorem dMo_pick_5 : decode cMo_pick 5 = .ok (.iconst 0, 1) := by decide +kernel
theorem dMo_pick_6 : decode cMo_pick 6 = .ok (.istore 5, 2) := by decide +kernel
theorem dMo_pick_8 : decode cMo_pick 8 = .ok (.iload 5, 2) := by decide +kernel
theorem dMo_pick_10 : decode cMo_pick 10 = .ok (.aload_n 0, 1) := by decide +kernel
theorem dMo_pick_11 : decode cMo_pick 11 = .ok (.getfield 68, 3) := by decide +kernel
theorem dMo_pick_14 : decode cMo_pick 14 = .ok (.if_icmp .ge 87, 3) := by decide +kernel
theorem dMo_pick_17 : decode cMo_pick 17 = .ok (.iload_n 2, 1) := by decide +kernel
theorem dMo_pick_18 : decode cMo_pick 18 = .ok (.iload 5, 2) := by decide +kernel
theorem dMo_pick_20 : decode cMo_pick 20 = .ok (.ishr, 1) := by decide +kernel
theorem dMo_pick_21 : decode cMo_pick 21 = .ok (.iconst 1, 1) := by decide +kernel
theorem dMo_pick_22 : decode cMo_pick 22 = .ok (.iand, 1) := by decide +kernel
theorem dMo_pick_23 : decode cMo_pick 23 = .ok (.ifCond .ne 72, 3) := by decide +kernel
theorem dMo_pick_26 : decode cMo_pick 26 = .ok (.iload_n 1, 1) := by decide +kernel
theorem dMo_pick_27 : decode cMo_pick 27 = .ok (.iconst 2, 1) := by decide +kernel
theorem dMo_pick_28 : decode cMo_pick 28 = .ok (.if_icmp .ne 16, 3) := by decide +kernel
theorem dMo_pick_31 : decode cMo_pick 31 = .ok (.aload_n 0, 1) := by decide +kernel
theorem dMo_pick_32 : decode cMo_pick 32 = .ok (.getfield 34, 3) := by decide +kernel
theorem dMo_pick_35 : decode cMo_pick 35 = .ok (.iload 5, 2) := by decide +kernel
theorem dMo_pick_37 : decode cMo_pick 37 = .ok (.iaload, 1) := by decide +kernel
theorem dMo_pick_38 : decode cMo_pick 38 = .ok (.invokestatic 86, 3) := by decide +kernel
theorem dMo_pick_41 : decode cMo_pick 41 = .ok (.goto 33, 3) := by decide +kernel
theorem dMo_pick_44 : decode cMo_pick 44 = .ok (.iload_n 1, 1) := by decide +kernel
theorem dMo_pick_45 : decode cMo_pick 45 = .ok (.iconst 3, 1) := by decide +kernel
theorem dMo_pick_46 : decode cMo_pick 46 = .ok (.if_icmp .ne 12, 3) := by decide +kernel
theorem dMo_pick_49 : decode cMo_pick 49 = .ok (.aload_n 0, 1) := by decide +kernel
theorem dMo_pick_50 : decode cMo_pick 50 = .ok (.iload 5, 2) := by decide +kernel
theorem dMo_pick_52 : decode cMo_pick 52 = .ok (.invokevirtual 116, 3) := by decide +kernel
theorem dMo_pick_55 : decode cMo_pick 55 = .ok (.goto 19, 3) := by decide +kernel
theorem dMo_pick_58 : decode cMo_pick 58 = .ok (.aload_n 0, 1) := by decide +kernel
theorem dMo_pick_59 : decode cMo_pick 59 = .ok (.aload_n 0, 1) := by decide +kernel
theorem dMo_pick_60 : decode cMo_pick 60 = .ok (.getfield 34, 3) := by decide +kernel
theorem dMo_pick_63 : decode cMo_pick 63 = .ok (.iload 5, 2) := by decide +kernel
theorem dMo_pick_65 : decode cMo_pick 65 = .ok (.iaload, 1) := by decide +kernel
theorem dMo_pick_66 : decode cMo_pick 66 = .ok (.iconst 1, 1) := by decide +kernel
theorem dMo_pick_67 : decode cMo_pick 67 = .ok (.iload 5, 2) := by decide +kernel
theorem dMo_pick_69 : decode cMo_pick 69 = .ok (.ishl, 1) := by decide +kernel
theorem dMo_pick_70 : decode cMo_pick 70 = .ok (.ior, 1) := by decide +kernel
theorem dMo_pick_71 : decode cMo_pick 71 = .ok (.invokevirtual 97, 3) := by decide +kernel
theorem dMo_pick_74 : decode cMo_pick 74 = .ok (.istore 6, 2) := by decide +kernel
theorem dMo_pick_76 : decode cMo_pick 76 = .ok (.iload_n 3, 1) := by decide +kernel
theorem dMo_pick_77 : decode cMo_pick 77 = .ok (.iconst (-1), 1) := by decide +kernel
theorem dMo_pick_78 : decode cMo_pick 78 = .ok (.if_icmp .eq 10, 3) := by decide +kernel
theorem dMo_pick_81 : decode cMo_pick 81 = .ok (.iload 6, 2) := by decide +kernel
theorem dMo_pick_83 : decode cMo_pick 83 = .ok (.iload 4, 2) := by decide +kernel
theorem dMo_pick_85 : decode cMo_pick 85 = .ok (.if_icmp .ge 10, 3) := by decide +kernel
theorem dMo_pick_88 : decode cMo_pick 88 = .ok (.iload 5, 2) := by decide +kernel
theorem dMo_pick_90 : decode cMo_pick 90 = .ok (.istore_n 3, 1) := by decide +kernel
theorem dMo_pick_91 : decode cMo_pick 91 = .ok (.iload 6, 2) := by decide +kernel
theorem dMo_pick_93 : decode cMo_pick 93 = .ok (.istore 4, 2) := by decide +kernel
theorem dMo_pick_95 : decode cMo_pick 95 = .ok (.iinc 5 1, 3) := by decide +kernel
theorem dMo_pick_98 : decode cMo_pick 98 = .ok (.goto (-90), 3) := by decide +kernel
theorem dMo_pick_101 : decode cMo_pick 101 = .ok (.iload_n 3, 1) := by decide +kernel
theorem dMo_pick_102 : decode cMo_pick 102 = .ok (.ireturn, 1) := by decide +kernel
abbrev cMo_bagOf : ByteArray := prog_9_method_21_code
def yMo_bagOf : MethodName := ⟨RMo, "bagOf", "(II)I"⟩
theorem dMo_bagOf_0 : decode cMo_bagOf 0 = .ok (.iconst 1, 1) := by decide +kernel
theorem dMo_bagOf_1 : decode cMo_bagOf 1 = .ok (.iload_n 1, 1) := by decide +kernel
theorem dMo_bagOf_2 : decode cMo_bagOf 2 = .ok (.ishl, 1) := by decide +kernel
theorem dMo_bagOf_3 : decode cMo_bagOf 3 = .ok (.istore_n 3, 1) := by decide +kernel
theorem dMo_bagOf_4 : decode cMo_bagOf 4 = .ok (.iconst 1, 1) := by decide +kernel
theorem dMo_bagOf_5 : decode cMo_bagOf 5 = .ok (.iload_n 1, 1) := by decide +kernel
theorem dMo_bagOf_6 : decode cMo_bagOf 6 = .ok (.ishl, 1) := by decide +kernel
theorem dMo_bagOf_7 : decode cMo_bagOf 7 = .ok (.istore 4, 2) := by decide +kernel
theorem dMo_bagOf_9 : decode cMo_bagOf 9 = .ok (.iconst 1, 1) := by decide +kernel
theorem dMo_bagOf_10 : decode cMo_bagOf 10 = .ok (.istore 5, 2) := by decide +kernel
theorem dMo_bagOf_12 : decode cMo_bagOf 12 = .ok (.iload 5, 2) := by decide +kernel
theorem dMo_bagOf_14 : decode cMo_bagOf 14 = .ok (.ifCond .eq 102, 3) := by decide +kernel
theorem dMo_bagOf_17 : decode cMo_bagOf 17 = .ok (.iload 4, 2) := by decide +kernel
theorem dMo_bagOf_19 : decode cMo_bagOf 19 = .ok (.istore 6, 2) := by decide +kernel
theorem dMo_bagOf_21 : decode cMo_bagOf 21 = .ok (.iconst 0, 1) := by decide +kernel
theorem dMo_bagOf_22 : decode cMo_bagOf 22 = .ok (.istore 7, 2) := by decide +kernel
theorem dMo_bagOf_24 : decode cMo_bagOf 24 = .ok (.iload 7, 2) := by decide +kernel
theorem dMo_bagOf_26 : decode cMo_bagOf 26 = .ok (.aload_n 0, 1) := by decide +kernel
theorem dMo_bagOf_27 : decode cMo_bagOf 27 = .ok (.getfield 68, 3) := by decide +kernel
theorem dMo_bagOf_30 : decode cMo_bagOf 30 = .ok (.if_icmp .ge 65, 3) := by decide +kernel
theorem dMo_bagOf_33 : decode cMo_bagOf 33 = .ok (.iload 4, 2) := by decide +kernel
theorem dMo_bagOf_35 : decode cMo_bagOf 35 = .ok (.iload 7, 2) := by decide +kernel
theorem dMo_bagOf_37 : decode cMo_bagOf 37 = .ok (.ishr, 1) := by decide +kernel
theorem dMo_bagOf_38 : decode cMo_bagOf 38 = .ok (.iconst 1, 1) := by decide +kernel
theorem dMo_bagOf_39 : decode cMo_bagOf 39 = .ok (.iand, 1) := by decide +kernel
theorem dMo_bagOf_40 : decode cMo_bagOf 40 = .ok (.iconst 1, 1) := by decide +kernel
theorem dMo_bagOf_41 : decode cMo_bagOf 41 = .ok (.if_icmp .ne 23, 3) := by decide +kernel
theorem dMo_bagOf_44 : decode cMo_bagOf 44 = .ok (.iload 7, 2) := by decide +kernel
theorem dMo_bagOf_46 : decode cMo_bagOf 46 = .ok (.iload_n 1, 1) := by decide +kernel
theorem dMo_bagOf_47 : decode cMo_bagOf 47 = .ok (.if_icmp .eq 13, 3) := by decide +kernel
theorem dMo_bagOf_50 : decode cMo_bagOf 50 = .ok (.iload_n 2, 1) := by decide +kernel
theorem dMo_bagOf_51 : decode cMo_bagOf 51 = .ok (.iload 7, 2) := by decide +kernel
theorem dMo_bagOf_53 : decode cMo_bagOf 53 = .ok (.ishr, 1) := by decide +kernel
theorem dMo_bagOf_54 : decode cMo_bagOf 54 = .ok (.iconst 1, 1) := by decide +kernel
theorem dMo_bagOf_55 : decode cMo_bagOf 55 = .ok (.iand, 1) := by decide +kernel
theorem dMo_bagOf_56 : decode cMo_bagOf 56 = .ok (.iconst 1, 1) := by decide +kernel
theorem dMo_bagOf_57 : decode cMo_bagOf 57 = .ok (.if_icmp .ne 7, 3) := by decide +kernel
theorem dMo_bagOf_60 : decode cMo_bagOf 60 = .ok (.iconst 1, 1) := by decide +kernel
theorem dMo_bagOf_61 : decode cMo_bagOf 61 = .ok (.goto 4, 3) := by decide +kernel
theorem dMo_bagOf_64 : decode cMo_bagOf 64 = .ok (.iconst 0, 1) := by decide +kernel
theorem dMo_bagOf_65 : decode cMo_bagOf 65 = .ok (.istore 8, 2) := by decide +kernel
theorem dMo_bagOf_67 : decode cMo_bagOf 67 = .ok (.iload 8, 2) := by decide +kernel
theorem dMo_bagOf_69 : decode cMo_bagOf 69 = .ok (.ifCond .eq 16, 3) := by decide +kernel
theorem dMo_bagOf_72 : decode cMo_bagOf 72 = .ok (.iload 6, 2) := by decide +kernel
theorem dMo_bagOf_74 : decode cMo_bagOf 74 = .ok (.aload_n 0, 1) := by decide +kernel
theorem dMo_bagOf_75 : decode cMo_bagOf 75 = .ok (.getfield 34, 3) := by decide +kernel
theorem dMo_bagOf_78 : decode cMo_bagOf 78 = .ok (.iload 7, 2) := by decide +kernel
theorem dMo_bagOf_80 : decode cMo_bagOf 80 = .ok (.iaload, 1) := by decide +kernel
theorem dMo_bagOf_81 : decode cMo_bagOf 81 = .ok (.ior, 1) := by decide +kernel
theorem dMo_bagOf_82 : decode cMo_bagOf 82 = .ok (.goto 5, 3) := by decide +kernel
theorem dMo_bagOf_85 : decode cMo_bagOf 85 = .ok (.iload 6, 2) := by decide +kernel
theorem dMo_bagOf_87 : decode cMo_bagOf 87 = .ok (.istore 6, 2) := by decide +kernel
theorem dMo_bagOf_89 : decode cMo_bagOf 89 = .ok (.iinc 7 1, 3) := by decide +kernel
theorem dMo_bagOf_92 : decode cMo_bagOf 92 = .ok (.goto (-68), 3) := by decide +kernel
theorem dMo_bagOf_95 : decode cMo_bagOf 95 = .ok (.iload 6, 2) := by decide +kernel
theorem dMo_bagOf_97 : decode cMo_bagOf 97 = .ok (.iload 4, 2) := by decide +kernel
theorem dMo_bagOf_99 : decode cMo_bagOf 99 = .ok (.if_icmp .eq 7, 3) := by decide +kernel
theorem dMo_bagOf_102 : decode cMo_bagOf 102 = .ok (.iconst 1, 1) := by decide +kernel
theorem dMo_bagOf_103 : decode cMo_bagOf 103 = .ok (.goto 4, 3) := by decide +kernel
theorem dMo_bagOf_106 : decode cMo_bagOf 106 = .ok (.iconst 0, 1) := by decide +kernel
theorem dMo_bagOf_107 : decode cMo_bagOf 107 = .ok (.istore 5, 2) := by decide +kernel
theorem dMo_bagOf_109 : decode cMo_bagOf 109 = .ok (.iload 6, 2) := by decide +kernel
theorem dMo_bagOf_111 : decode cMo_bagOf 111 = .ok (.istore 4, 2) := by decide +kernel
theorem dMo_bagOf_113 : decode cMo_bagOf 113 = .ok (.goto (-101), 3) := by decide +kernel
theorem dMo_bagOf_116 : decode cMo_bagOf 116 = .ok (.iload_n 3, 1) := by decide +kernel
theorem dMo_bagOf_117 : decode cMo_bagOf 117 = .ok (.iload 4, 2) := by decide +kernel
theorem dMo_bagOf_119 : decode cMo_bagOf 119 = .ok (.iload_n 2, 1) := by decide +kernel
theorem dMo_bagOf_120 : decode cMo_bagOf 120 = .ok (.iconst (-1), 1) := by decide +kernel
theorem dMo_bagOf_121 : decode cMo_bagOf 121 = .ok (.ixor, 1) := by decide +kernel
theorem dMo_bagOf_122 : decode cMo_bagOf 122 = .ok (.iand, 1) := by decide +kernel
theorem dMo_bagOf_123 : decode cMo_bagOf 123 = .ok (.ior, 1) := by decide +kernel
theorem dMo_bagOf_124 : decode cMo_bagOf 124 = .ok (.istore_n 3, 1) := by decide +kernel
theorem dMo_bagOf_125 : decode cMo_bagOf 125 = .ok (.iload_n 3, 1) := by decide +kernel
theorem dMo_bagOf_126 : decode cMo_bagOf 126 = .ok (.ireturn, 1) := by decide +kernel
abbrev cMo_weighAll : ByteArray := prog_9_method_22_code
def yMo_weighAll : MethodName := ⟨RMo, "weighAll", "()V"⟩
theorem dMo_weighAll_0 : decode cMo_weighAll 0 = .ok (.iconst 1, 1) := by decide +kernel
theorem dMo_weighAll_1 : decode cMo_weighAll 1 = .ok (.aload_n 0, 1) := by decide +kernel
theorem dMo_weighAll_2 : decode cMo_weighAll 2 = .ok (.getfield 68, 3) := by decide +kernel
theorem dMo_weighAll_5 : decode cMo_weighAll 5 = .ok (.ishl, 1) := by decide +kernel
theorem dMo_weighAll_6 : decode cMo_weighAll 6 = .ok (.iconst 1, 1) := by decide +kernel
theorem dMo_weighAll_7 : decode cMo_weighAll 7 = .ok (.isub, 1) := by decide +kernel
theorem dMo_weighAll_8 : decode cMo_weighAll 8 = .ok (.istore_n 1, 1) := by decide +kernel
theorem dMo_weighAll_9 : decode cMo_weighAll 9 = .ok (.aload_n 0, 1) := by decide +kernel
theorem dMo_weighAll_10 : decode cMo_weighAll 10 = .ok (.getfield 37, 3) := by decide +kernel
theorem dMo_weighAll_13 : decode cMo_weighAll 13 = .ok (.iload_n 1, 1) := by decide +kernel
theorem dMo_weighAll_14 : decode cMo_weighAll 14 = .ok (.iconst (-1), 1) := by decide +kernel
theorem dMo_weighAll_15 : decode cMo_weighAll 15 = .ok (.iastore, 1) := by decide +kernel
theorem dMo_weighAll_16 : decode cMo_weighAll 16 = .ok (.iload_n 1, 1) := by decide +kernel
theorem dMo_weighAll_17 : decode cMo_weighAll 17 = .ok (.iconst 1, 1) := by decide +kernel
theorem dMo_weighAll_18 : decode cMo_weighAll 18 = .ok (.isub, 1) := by decide +kernel
theorem dMo_weighAll_19 : decode cMo_weighAll 19 = .ok (.istore_n 2, 1) := by decide +kernel
theorem dMo_weighAll_20 : decode cMo_weighAll 20 = .ok (.iload_n 2, 1) := by decide +kernel
theorem dMo_weighAll_21 : decode cMo_weighAll 21 = .ok (.ifCond .lt 110, 3) := by decide +kernel
theorem dMo_weighAll_24 : decode cMo_weighAll 24 = .ok (.aload_n 0, 1) := by decide +kernel
theorem dMo_weighAll_25 : decode cMo_weighAll 25 = .ok (.getfield 37, 3) := by decide +kernel
theorem dMo_weighAll_28 : decode cMo_weighAll 28 = .ok (.iload_n 2, 1) := by decide +kernel
theorem dMo_weighAll_29 : decode cMo_weighAll 29 = .ok (.bipush 100, 2) := by decide +kernel
theorem dMo_weighAll_31 : decode cMo_weighAll 31 = .ok (.iastore, 1) := by decide +kernel
theorem dMo_weighAll_32 : decode cMo_weighAll 32 = .ok (.iconst 0, 1) := by decide +kernel
theorem dMo_weighAll_33 : decode cMo_weighAll 33 = .ok (.istore_n 3, 1) := by decide +kernel
theorem dMo_weighAll_34 : decode cMo_weighAll 34 = .ok (.iload_n 3, 1) := by decide +kernel
theorem dMo_weighAll_35 : decode cMo_weighAll 35 = .ok (.aload_n 0, 1) := by decide +kernel
theorem dMo_weighAll_36 : decode cMo_weighAll 36 = .ok (.getfield 68, 3) := by decide +kernel
theorem dMo_weighAll_39 : decode cMo_weighAll 39 = .ok (.if_icmp .ge 86, 3) := by decide +kernel
theorem dMo_weighAll_42 : decode cMo_weighAll 42 = .ok (.iload_n 2, 1) := by decide +kernel
theorem dMo_weighAll_43 : decode cMo_weighAll 43 = .ok (.iload_n 3, 1) := by decide +kernel
theorem dMo_weighAll_44 : decode cMo_weighAll 44 = .ok (.ishr, 1) := by decide +kernel
theorem dMo_weighAll_45 : decode cMo_weighAll 45 = .ok (.iconst 1, 1) := by decide +kernel
theorem dMo_weighAll_46 : decode cMo_weighAll 46 = .ok (.iand, 1) := by decide +kernel
theorem dMo_weighAll_47 : decode cMo_weighAll 47 = .ok (.ifCond .ne 72, 3) := by decide +kernel
theorem dMo_weighAll_50 : decode cMo_weighAll 50 = .ok (.aload_n 0, 1) := by decide +kernel
theorem dMo_weighAll_51 : decode cMo_weighAll 51 = .ok (.iload_n 3, 1) := by decide +kernel
theorem dMo_weighAll_52 : decode cMo_weighAll 52 = .ok (.iload_n 2, 1) := by decide +kernel
theorem dMo_weighAll_53 : decode cMo_weighAll 53 = .ok (.invokevirtual 119, 3) := by decide +kernel
theorem dMo_weighAll_56 : decode cMo_weighAll 56 = .ok (.invokestatic 86, 3) := by decide +kernel
theorem dMo_weighAll_59 : decode cMo_weighAll 59 = .ok (.iconst 1, 1) := by decide +kernel
theorem dMo_weighAll_60 : decode cMo_weighAll 60 = .ok (.isub, 1) := by decide +kernel
theorem dMo_weighAll_61 : decode cMo_weighAll 61 = .ok (.istore 4, 2) := by decide +kernel
theorem dMo_weighAll_63 : decode cMo_weighAll 63 = .ok (.aload_n 0, 1) := by decide +kernel
theorem dMo_weighAll_64 : decode cMo_weighAll 64 = .ok (.getfield 37, 3) := by decide +kernel
theorem dMo_weighAll_67 : decode cMo_weighAll 67 = .ok (.iload_n 2, 1) := by decide +kernel
theorem dMo_weighAll_68 : decode cMo_weighAll 68 = .ok (.iconst 1, 1) := by decide +kernel
theorem dMo_weighAll_69 : decode cMo_weighAll 69 = .ok (.iload_n 3, 1) := by decide +kernel
theorem dMo_weighAll_70 : decode cMo_weighAll 70 = .ok (.ishl, 1) := by decide +kernel
theorem dMo_weighAll_71 : decode cMo_weighAll 71 = .ok (.ior, 1) := by decide +kernel
theorem dMo_weighAll_72 : decode cMo_weighAll 72 = .ok (.iaload, 1) := by decide +kernel
theorem dMo_weighAll_73 : decode cMo_weighAll 73 = .ok (.istore 5, 2) := by decide +kernel
theorem dMo_weighAll_75 : decode cMo_weighAll 75 = .ok (.iload 5, 2) := by decide +kernel
theorem dMo_weighAll_77 : decode cMo_weighAll 77 = .ok (.iload 4, 2) := by decide +kernel
theorem dMo_weighAll_79 : decode cMo_weighAll 79 = .ok (.if_icmp .le 8, 3) := by decide +kernel
theorem dMo_weighAll_82 : decode cMo_weighAll 82 = .ok (.iload 5, 2) := by decide +kernel
theorem dMo_weighAll_84 : decode cMo_weighAll 84 = .ok (.goto 5, 3) := by decide +kernel
theorem dMo_weighAll_87 : decode cMo_weighAll 87 = .ok (.iload 4, 2) := by decide +kernel
theorem dMo_weighAll_89 : decode cMo_weighAll 89 = .ok (.istore 4, 2) := by decide +kernel
theorem dMo_weighAll_91 : decode cMo_weighAll 91 = .ok (.aload_n 0, 1) := by decide +kernel
theorem dMo_weighAll_92 : decode cMo_weighAll 92 = .ok (.getfield 37, 3) := by decide +kernel
theorem dMo_weighAll_95 : decode cMo_weighAll 95 = .ok (.iload_n 2, 1) := by decide +kernel
theorem dMo_weighAll_96 : decode cMo_weighAll 96 = .ok (.iload 4, 2) := by decide +kernel
theorem dMo_weighAll_98 : decode cMo_weighAll 98 = .ok (.aload_n 0, 1) := by decide +kernel
theorem dMo_weighAll_99 : decode cMo_weighAll 99 = .ok (.getfield 37, 3) := by decide +kernel
theorem dMo_weighAll_102 : decode cMo_weighAll 102 = .ok (.iload_n 2, 1) := by decide +kernel
theorem dMo_weighAll_103 : decode cMo_weighAll 103 = .ok (.iaload, 1) := by decide +kernel
theorem dMo_weighAll_104 : decode cMo_weighAll 104 = .ok (.if_icmp .ge 8, 3) := by decide +kernel
theorem dMo_weighAll_107 : decode cMo_weighAll 107 = .ok (.iload 4, 2) := by decide +kernel
theorem dMo_weighAll_109 : decode cMo_weighAll 109 = .ok (.goto 9, 3) := by decide +kernel
theorem dMo_weighAll_112 : decode cMo_weighAll 112 = .ok (.aload_n 0, 1) := by decide +kernel
theorem dMo_weighAll_113 : decode cMo_weighAll 113 = .ok (.getfield 37, 3) := by decide +kernel
theorem dMo_weighAll_116 : decode cMo_weighAll 116 = .ok (.iload_n 2, 1) := by decide +kernel
theorem dMo_weighAll_117 : decode cMo_weighAll 117 = .ok (.iaload, 1) := by decide +kernel
theorem dMo_weighAll_118 : decode cMo_weighAll 118 = .ok (.iastore, 1) := by decide +kernel
theorem dMo_weighAll_119 : decode cMo_weighAll 119 = .ok (.iinc 3 1, 3) := by decide +kernel
theorem dMo_weighAll_122 : decode cMo_weighAll 122 = .ok (.goto (-88), 3) := by decide +kernel
theorem dMo_weighAll_125 : decode cMo_weighAll 125 = .ok (.iinc 2 (-1), 3) := by decide +kernel
theorem dMo_weighAll_128 : decode cMo_weighAll 128 = .ok (.goto (-108), 3) := by decide +kernel
theorem dMo_weighAll_131 : decode cMo_weighAll 131 = .ok (.aload_n 0, 1) := by decide +kernel
theorem dMo_weighAll_132 : decode cMo_weighAll 132 = .ok (.getfield 40, 3) := by decide +kernel
theorem dMo_weighAll_135 : decode cMo_weighAll 135 = .ok (.iload_n 1, 1) := by decide +kernel
theorem dMo_weighAll_136 : decode cMo_weighAll 136 = .ok (.lconst 0, 1) := by decide +kernel
theorem dMo_weighAll_137 : decode cMo_weighAll 137 = .ok (.lastore, 1) := by decide +kernel
theorem dMo_weighAll_138 : decode cMo_weighAll 138 = .ok (.iload_n 1, 1) := by decide +kernel
theorem dMo_weighAll_139 : decode cMo_weighAll 139 = .ok (.iconst 1, 1) := by decide +kernel
theorem dMo_weighAll_140 : decode cMo_weighAll 140 = .ok (.isub, 1) := by decide +kernel
theorem dMo_weighAll_141 : decode cMo_weighAll 141 = .ok (.istore_n 2, 1) := by decide +kernel
theorem dMo_weighAll_142 : decode cMo_weighAll 142 = .ok (.iload_n 2, 1) := by decide +kernel
theorem dMo_weighAll_143 : decode cMo_weighAll 143 = .ok (.ifCond .lt 97, 3) := by decide +kernel
theorem dMo_weighAll_146 : decode cMo_weighAll 146 = .ok (.aload_n 0, 1) := by decide +kernel
theorem dMo_weighAll_147 : decode cMo_weighAll 147 = .ok (.getfield 40, 3) := by decide +kernel
theorem dMo_weighAll_150 : decode cMo_weighAll 150 = .ok (.iload_n 2, 1) := by decide +kernel
theorem dMo_weighAll_151 : decode cMo_weighAll 151 = .ok (.ldc2_w 107, 3) := by decide +kernel
theorem dMo_weighAll_154 : decode cMo_weighAll 154 = .ok (.lastore, 1) := by decide +kernel
theorem dMo_weighAll_155 : decode cMo_weighAll 155 = .ok (.iconst 0, 1) := by decide +kernel
theorem dMo_weighAll_156 : decode cMo_weighAll 156 = .ok (.istore_n 3, 1) := by decide +kernel
theorem dMo_weighAll_157 : decode cMo_weighAll 157 = .ok (.iload_n 3, 1) := by decide +kernel
theorem dMo_weighAll_158 : decode cMo_weighAll 158 = .ok (.aload_n 0, 1) := by decide +kernel
theorem dMo_weighAll_159 : decode cMo_weighAll 159 = .ok (.getfield 68, 3) := by decide +kernel
theorem dMo_weighAll_162 : decode cMo_weighAll 162 = .ok (.if_icmp .ge 72, 3) := by decide +kernel
theorem dMo_weighAll_165 : decode cMo_weighAll 165 = .ok (.iload_n 2, 1) := by decide +kernel
theorem dMo_weighAll_166 : decode cMo_weighAll 166 = .ok (.iload_n 3, 1) := by decide +kernel
theorem dMo_weighAll_167 : decode cMo_weighAll 167 = .ok (.ishr, 1) := by decide +kernel
theorem dMo_weighAll_168 : decode cMo_weighAll 168 = .ok (.iconst 1, 1) := by decide +kernel
theorem dMo_weighAll_169 : decode cMo_weighAll 169 = .ok (.iand, 1) := by decide +kernel
theorem dMo_weighAll_170 : decode cMo_weighAll 170 = .ok (.ifCond .ne 58, 3) := by decide +kernel
theorem dMo_weighAll_173 : decode cMo_weighAll 173 = .ok (.aload_n 0, 1) := by decide +kernel
theorem dMo_weighAll_174 : decode cMo_weighAll 174 = .ok (.iload_n 3, 1) := by decide +kernel
theorem dMo_weighAll_175 : decode cMo_weighAll 175 = .ok (.iload_n 2, 1) := by decide +kernel
theorem dMo_weighAll_176 : decode cMo_weighAll 176 = .ok (.invokevirtual 123, 3) := by decide +kernel
theorem dMo_weighAll_179 : decode cMo_weighAll 179 = .ok (.lstore 4, 2) := by decide +kernel
theorem dMo_weighAll_181 : decode cMo_weighAll 181 = .ok (.aload_n 0, 1) := by decide +kernel
theorem dMo_weighAll_182 : decode cMo_weighAll 182 = .ok (.getfield 40, 3) := by decide +kernel
theorem dMo_weighAll_185 : decode cMo_weighAll 185 = .ok (.iload_n 2, 1) := by decide +kernel
theorem dMo_weighAll_186 : decode cMo_weighAll 186 = .ok (.lload 4, 2) := by decide +kernel
theorem dMo_weighAll_188 : decode cMo_weighAll 188 = .ok (.lconst 0, 1) := by decide +kernel
theorem dMo_weighAll_189 : decode cMo_weighAll 189 = .ok (.lcmp, 1) := by decide +kernel
theorem dMo_weighAll_190 : decode cMo_weighAll 190 = .ok (.ifCond .lt 31, 3) := by decide +kernel
theorem dMo_weighAll_193 : decode cMo_weighAll 193 = .ok (.aload_n 0, 1) := by decide +kernel
theorem dMo_weighAll_194 : decode cMo_weighAll 194 = .ok (.getfield 40, 3) := by decide +kernel
theorem dMo_weighAll_197 : decode cMo_weighAll 197 = .ok (.iload_n 2, 1) := by decide +kernel
theorem dMo_weighAll_198 : decode cMo_weighAll 198 = .ok (.laload, 1) := by decide +kernel
theorem dMo_weighAll_199 : decode cMo_weighAll 199 = .ok (.lconst 0, 1) := by decide +kernel
theorem dMo_weighAll_200 : decode cMo_weighAll 200 = .ok (.lcmp, 1) := by decide +kernel
theorem dMo_weighAll_201 : decode cMo_weighAll 201 = .ok (.ifCond .lt 15, 3) := by decide +kernel
theorem dMo_weighAll_204 : decode cMo_weighAll 204 = .ok (.lload 4, 2) := by decide +kernel
theorem dMo_weighAll_206 : decode cMo_weighAll 206 = .ok (.aload_n 0, 1) := by decide +kernel
theorem dMo_weighAll_207 : decode cMo_weighAll 207 = .ok (.getfield 40, 3) := by decide +kernel
theorem dMo_weighAll_210 : decode cMo_weighAll 210 = .ok (.iload_n 2, 1) := by decide +kernel
theorem dMo_weighAll_211 : decode cMo_weighAll 211 = .ok (.laload, 1) := by decide +kernel
theorem dMo_weighAll_212 : decode cMo_weighAll 212 = .ok (.lcmp, 1) := by decide +kernel
theorem dMo_weighAll_213 : decode cMo_weighAll 213 = .ok (.ifCond .ge 8, 3) := by decide +kernel
theorem dMo_weighAll_216 : decode cMo_weighAll 216 = .ok (.lload 4, 2) := by decide +kernel
theorem dMo_weighAll_218 : decode cMo_weighAll 218 = .ok (.goto 9, 3) := by decide +kernel
theorem dMo_weighAll_221 : decode cMo_weighAll 221 = .ok (.aload_n 0, 1) := by decide +kernel
theorem dMo_weighAll_222 : decode cMo_weighAll 222 = .ok (.getfield 40, 3) := by decide +kernel
theorem dMo_weighAll_225 : decode cMo_weighAll 225 = .ok (.iload_n 2, 1) := by decide +kernel
theorem dMo_weighAll_226 : decode cMo_weighAll 226 = .ok (.laload, 1) := by decide +kernel
theorem dMo_weighAll_227 : decode cMo_weighAll 227 = .ok (.lastore, 1) := by decide +kernel
theorem dMo_weighAll_228 : decode cMo_weighAll 228 = .ok (.iinc 3 1, 3) := by decide +kernel
theorem dMo_weighAll_231 : decode cMo_weighAll 231 = .ok (.goto (-74), 3) := by decide +kernel
theorem dMo_weighAll_234 : decode cMo_weighAll 234 = .ok (.iinc 2 (-1), 3) := by decide +kernel
theorem dMo_weighAll_237 : decode cMo_weighAll 237 = .ok (.goto (-95), 3) := by decide +kernel
theorem dMo_weighAll_240 : decode cMo_weighAll 240 = .ok (.return_, 1) := by decide +kernel
abbrev cMo_price : ByteArray := prog_9_method_23_code
def yMo_price : MethodName := ⟨RMo, "price", "(II)J"⟩
theorem dMo_price_0 : decode cMo_price 0 = .ok (.aload_n 0, 1) := by decide +kernel
theorem dMo_price_1 : decode cMo_price 1 = .ok (.iload_n 1, 1) := by decide +kernel
theorem dMo_price_2 : decode cMo_price 2 = .ok (.iload_n 2, 1) := by decide +kernel
theorem dMo_price_3 : decode cMo_price 3 = .ok (.invokevirtual 119, 3) := by decide +kernel
theorem dMo_price_6 : decode cMo_price 6 = .ok (.istore_n 3, 1) := by decide +kernel
theorem dMo_price_7 : decode cMo_price 7 = .ok (.aload_n 0, 1) := by decide +kernel
theorem dMo_price_8 : decode cMo_price 8 = .ok (.getfield 40, 3) := by decide +kernel
theorem dMo_price_11 : decode cMo_price 11 = .ok (.iload_n 2, 1) := by decide +kernel
theorem dMo_price_12 : decode cMo_price 12 = .ok (.iconst 1, 1) := by decide +kernel
theorem dMo_price_13 : decode cMo_price 13 = .ok (.iload_n 1, 1) := by decide +kernel
theorem dMo_price_14 : decode cMo_price 14 = .ok (.ishl, 1) := by decide +kernel
theorem dMo_price_15 : decode cMo_price 15 = .ok (.ior, 1) := by decide +kernel
theorem dMo_price_16 : decode cMo_price 16 = .ok (.laload, 1) := by decide +kernel
theorem dMo_price_17 : decode cMo_price 17 = .ok (.lstore 4, 2) := by decide +kernel
theorem dMo_price_19 : decode cMo_price 19 = .ok (.iload_n 3, 1) := by decide +kernel
theorem dMo_price_20 : decode cMo_price 20 = .ok (.invokestatic 86, 3) := by decide +kernel
theorem dMo_price_23 : decode cMo_price 23 = .ok (.iconst 1, 1) := by decide +kernel
theorem dMo_price_24 : decode cMo_price 24 = .ok (.isub, 1) := by decide +kernel
theorem dMo_price_25 : decode cMo_price 25 = .ok (.aload_n 0, 1) := by decide +kernel
theorem dMo_price_26 : decode cMo_price 26 = .ok (.getfield 37, 3) := by decide +kernel
theorem dMo_price_29 : decode cMo_price 29 = .ok (.iconst 0, 1) := by decide +kernel
theorem dMo_price_30 : decode cMo_price 30 = .ok (.iaload, 1) := by decide +kernel
theorem dMo_price_31 : decode cMo_price 31 = .ok (.if_icmp .gt 10, 3) := by decide +kernel
theorem dMo_price_34 : decode cMo_price 34 = .ok (.lload 4, 2) := by decide +kernel
theorem dMo_price_36 : decode cMo_price 36 = .ok (.lconst 0, 1) := by decide +kernel
theorem dMo_price_37 : decode cMo_price 37 = .ok (.lcmp, 1) := by decide +kernel
theorem dMo_price_38 : decode cMo_price 38 = .ok (.ifCond .ge 9, 3) := by decide +kernel
theorem dMo_price_41 : decode cMo_price 41 = .ok (.ldc2_w 107, 3) := by decide +kernel
theorem dMo_price_44 : decode cMo_price 44 = .ok (.goto 12, 3) := by decide +kernel
theorem dMo_price_47 : decode cMo_price 47 = .ok (.aload_n 0, 1) := by decide +kernel
theorem dMo_price_48 : decode cMo_price 48 = .ok (.iload_n 3, 1) := by decide +kernel
theorem dMo_price_49 : decode cMo_price 49 = .ok (.invokevirtual 97, 3) := by decide +kernel
theorem dMo_price_52 : decode cMo_price 52 = .ok (.i2l, 1) := by decide +kernel
theorem dMo_price_53 : decode cMo_price 53 = .ok (.lload 4, 2) := by decide +kernel
theorem dMo_price_55 : decode cMo_price 55 = .ok (.ladd, 1) := by decide +kernel
theorem dMo_price_56 : decode cMo_price 56 = .ok (.lreturn, 1) := by decide +kernel
abbrev cMo_work : ByteArray := prog_9_method_24_code
def yMo_work : MethodName := ⟨RMo, "work", "(I)V"⟩
theorem dMo_work_0 : decode cMo_work 0 = .ok (.aload_n 0, 1) := by decide +kernel
theorem dMo_work_1 : decode cMo_work 1 = .ok (.iload_n 1, 1) := by decide +kernel
theorem dMo_work_2 : decode cMo_work 2 = .ok (.putfield 127, 3) := by decide +kernel
theorem dMo_work_5 : decode cMo_work 5 = .ok (.aload_n 0, 1) := by decide +kernel
theorem dMo_work_6 : decode cMo_work 6 = .ok (.iconst 0, 1) := by decide +kernel
theorem dMo_work_7 : decode cMo_work 7 = .ok (.putfield 61, 3) := by decide +kernel
theorem dMo_work_10 : decode cMo_work 10 = .ok (.aload_n 0, 1) := by decide +kernel
theorem dMo_work_11 : decode cMo_work 11 = .ok (.iconst 0, 1) := by decide +kernel
theorem dMo_work_12 : decode cMo_work 12 = .ok (.putfield 113, 3) := by decide +kernel
theorem dMo_work_15 : decode cMo_work 15 = .ok (.aload_n 0, 1) := by decide +kernel
theorem dMo_work_16 : decode cMo_work 16 = .ok (.invokevirtual 130, 3) := by decide +kernel
theorem dMo_work_19 : decode cMo_work 19 = .ok (.iload_n 1, 1) := by decide +kernel
theorem dMo_work_20 : decode cMo_work 20 = .ok (.iconst 5, 1) := by decide +kernel
theorem dMo_work_21 : decode cMo_work 21 = .ok (.if_icmp .ne 7, 3) := by decide +kernel
theorem dMo_work_24 : decode cMo_work 24 = .ok (.aload_n 0, 1) := by decide +kernel
theorem dMo_work_25 : decode cMo_work 25 = .ok (.invokevirtual 133, 3) := by decide +kernel
theorem dMo_work_28 : decode cMo_work 28 = .ok (.aload_n 0, 1) := by decide +kernel
theorem dMo_work_29 : decode cMo_work 29 = .ok (.getfield 28, 3) := by decide +kernel
theorem dMo_work_32 : decode cMo_work 32 = .ok (.astore_n 2, 1) := by decide +kernel
theorem dMo_work_33 : decode cMo_work 33 = .ok (.iconst 0, 1) := by decide +kernel
theorem dMo_work_34 : decode cMo_work 34 = .ok (.istore_n 3, 1) := by decide +kernel
theorem dMo_work_35 : decode cMo_work 35 = .ok (.iconst 0, 1) := by decide +kernel
theorem dMo_work_36 : decode cMo_work 36 = .ok (.istore 4, 2) := by decide +kernel
theorem dMo_work_38 : decode cMo_work 38 = .ok (.iload 4, 2) := by decide +kernel
theorem dMo_work_40 : decode cMo_work 40 = .ok (.aload_n 0, 1) := by decide +kernel
theorem dMo_work_41 : decode cMo_work 41 = .ok (.getfield 68, 3) := by decide +kernel
theorem dMo_work_44 : decode cMo_work 44 = .ok (.if_icmp .ge 122, 3) := by decide +kernel
theorem dMo_work_47 : decode cMo_work 47 = .ok (.iload 4, 2) := by decide +kernel
theorem dMo_work_49 : decode cMo_work 49 = .ok (.istore 5, 2) := by decide +kernel
theorem dMo_work_51 : decode cMo_work 51 = .ok (.iload_n 1, 1) := by decide +kernel
theorem dMo_work_52 : decode cMo_work 52 = .ok (.iconst 1, 1) := by decide +kernel
theorem dMo_work_53 : decode cMo_work 53 = .ok (.if_icmp .ne 15, 3) := by decide +kernel
theorem dMo_work_56 : decode cMo_work 56 = .ok (.aload_n 0, 1) := by decide +kernel
theorem dMo_work_57 : decode cMo_work 57 = .ok (.getfield 16, 3) := by decide +kernel
theorem dMo_work_60 : decode cMo_work 60 = .ok (.iload 4, 2) := by decide +kernel
theorem dMo_work_62 : decode cMo_work 62 = .ok (.iaload, 1) := by decide +kernel
theorem dMo_work_63 : decode cMo_work 63 = .ok (.istore 5, 2) := by decide +kernel
theorem dMo_work_65 : decode cMo_work 65 = .ok (.goto 69, 3) := by decide +kernel
theorem dMo_work_68 : decode cMo_work 68 = .ok (.iload_n 1, 1) := by decide +kernel
theorem dMo_work_69 : decode cMo_work 69 = .ok (.iconst 1, 1) := by decide +kernel
theorem dMo_work_70 : decode cMo_work 70 = .ok (.if_icmp .le 19, 3) := by decide +kernel
theorem dMo_work_73 : decode cMo_work 73 = .ok (.iload_n 1, 1) := by decide +kernel
theorem dMo_work_74 : decode cMo_work 74 = .ok (.iconst 5, 1) := by decide +kernel
theorem dMo_work_75 : decode cMo_work 75 = .ok (.if_icmp .ge 14, 3) := by decide +kernel
theorem dMo_work_78 : decode cMo_work 78 = .ok (.aload_n 0, 1) := by decide +kernel
theorem dMo_work_79 : decode cMo_work 79 = .ok (.iload_n 1, 1) := by decide +kernel
theorem dMo_work_80 : decode cMo_work 80 = .ok (.iload_n 3, 1) := by decide +kernel
theorem dMo_work_81 : decode cMo_work 81 = .ok (.invokevirtual 136, 3) := by decide +kernel
theorem dMo_work_84 : decode cMo_work 84 = .ok (.istore 5, 2) := by decide +kernel
theorem dMo_work_86 : decode cMo_work 86 = .ok (.goto 48, 3) := by decide +kernel
theorem dMo_work_89 : decode cMo_work 89 = .ok (.iload_n 1, 1) := by decide +kernel
theorem dMo_work_90 : decode cMo_work 90 = .ok (.iconst 5, 1) := by decide +kernel
theorem dMo_work_91 : decode cMo_work 91 = .ok (.if_icmp .ne 43, 3) := by decide +kernel
theorem dMo_work_94 : decode cMo_work 94 = .ok (.iconst 0, 1) := by decide +kernel
theorem dMo_work_95 : decode cMo_work 95 = .ok (.istore 5, 2) := by decide +kernel
theorem dMo_work_97 : decode cMo_work 97 = .ok (.aload_n 0, 1) := by decide +kernel
theorem dMo_work_98 : decode cMo_work 98 = .ok (.invokevirtual 130, 3) := by decide +kernel
theorem dMo_work_101 : decode cMo_work 101 = .ok (.iload_n 3, 1) := by decide +kernel
theorem dMo_work_102 : decode cMo_work 102 = .ok (.iload 5, 2) := by decide +kernel
theorem dMo_work_104 : decode cMo_work 104 = .ok (.ishr, 1) := by decide +kernel
theorem dMo_work_105 : decode cMo_work 105 = .ok (.iconst 1, 1) := by decide +kernel
theorem dMo_work_106 : decode cMo_work 106 = .ok (.iand, 1) := by decide +kernel
theorem dMo_work_107 : decode cMo_work 107 = .ok (.iconst 1, 1) := by decide +kernel
theorem dMo_work_108 : decode cMo_work 108 = .ok (.if_icmp .eq 20, 3) := by decide +kernel
theorem dMo_work_111 : decode cMo_work 111 = .ok (.aload_n 0, 1) := by decide +kernel
theorem dMo_work_112 : decode cMo_work 112 = .ok (.iload 5, 2) := by decide +kernel
theorem dMo_work_114 : decode cMo_work 114 = .ok (.iload_n 3, 1) := by decide +kernel
theorem dMo_work_115 : decode cMo_work 115 = .ok (.invokevirtual 123, 3) := by decide +kernel
theorem dMo_work_118 : decode cMo_work 118 = .ok (.aload_n 0, 1) := by decide +kernel
theorem dMo_work_119 : decode cMo_work 119 = .ok (.getfield 40, 3) := by decide +kernel
theorem dMo_work_122 : decode cMo_work 122 = .ok (.iload_n 3, 1) := by decide +kernel
theorem dMo_work_123 : decode cMo_work 123 = .ok (.laload, 1) := by decide +kernel
theorem dMo_work_124 : decode cMo_work 124 = .ok (.lcmp, 1) := by decide +kernel
theorem dMo_work_125 : decode cMo_work 125 = .ok (.ifCond .eq 9, 3) := by decide +kernel
theorem dMo_work_128 : decode cMo_work 128 = .ok (.iinc 5 1, 3) := by decide +kernel
theorem dMo_work_131 : decode cMo_work 131 = .ok (.goto (-30), 3) := by decide +kernel
theorem dMo_work_134 : decode cMo_work 134 = .ok (.aload_n 2, 1) := by decide +kernel
theorem dMo_work_135 : decode cMo_work 135 = .ok (.iload 4, 2) := by decide +kernel
theorem dMo_work_137 : decode cMo_work 137 = .ok (.iload 5, 2) := by decide +kernel
theorem dMo_work_139 : decode cMo_work 139 = .ok (.iastore, 1) := by decide +kernel
theorem dMo_work_140 : decode cMo_work 140 = .ok (.iload_n 3, 1) := by decide +kernel
theorem dMo_work_141 : decode cMo_work 141 = .ok (.iconst 1, 1) := by decide +kernel
theorem dMo_work_142 : decode cMo_work 142 = .ok (.iload 5, 2) := by decide +kernel
theorem dMo_work_144 : decode cMo_work 144 = .ok (.ishl, 1) := by decide +kernel
theorem dMo_work_145 : decode cMo_work 145 = .ok (.ior, 1) := by decide +kernel
theorem dMo_work_146 : decode cMo_work 146 = .ok (.istore_n 3, 1) := by decide +kernel
theorem dMo_work_147 : decode cMo_work 147 = .ok (.iload_n 1, 1) := by decide +kernel
theorem dMo_work_148 : decode cMo_work 148 = .ok (.iconst 5, 1) := by decide +kernel
theorem dMo_work_149 : decode cMo_work 149 = .ok (.if_icmp .ge 11, 3) := by decide +kernel
theorem dMo_work_152 : decode cMo_work 152 = .ok (.aload_n 0, 1) := by decide +kernel
theorem dMo_work_153 : decode cMo_work 153 = .ok (.iload 5, 2) := by decide +kernel
theorem dMo_work_155 : decode cMo_work 155 = .ok (.iload 4, 2) := by decide +kernel
theorem dMo_work_157 : decode cMo_work 157 = .ok (.invokevirtual 139, 3) := by decide +kernel
theorem dMo_work_160 : decode cMo_work 160 = .ok (.iinc 4 1, 3) := by decide +kernel
theorem dMo_work_163 : decode cMo_work 163 = .ok (.goto (-125), 3) := by decide +kernel
theorem dMo_work_166 : decode cMo_work 166 = .ok (.iload_n 1, 1) := by decide +kernel
theorem dMo_work_167 : decode cMo_work 167 = .ok (.iconst 5, 1) := by decide +kernel
theorem dMo_work_168 : decode cMo_work 168 = .ok (.if_icmp .ne 35, 3) := by decide +kernel
theorem dMo_work_171 : decode cMo_work 171 = .ok (.aload_n 0, 1) := by decide +kernel
theorem dMo_work_172 : decode cMo_work 172 = .ok (.invokevirtual 130, 3) := by decide +kernel
theorem dMo_work_175 : decode cMo_work 175 = .ok (.iconst 0, 1) := by decide +kernel
theorem dMo_work_176 : decode cMo_work 176 = .ok (.istore 4, 2) := by decide +kernel
theorem dMo_work_178 : decode cMo_work 178 = .ok (.iload 4, 2) := by decide +kernel
theorem dMo_work_180 : decode cMo_work 180 = .ok (.aload_n 0, 1) := by decide +kernel
theorem dMo_work_181 : decode cMo_work 181 = .ok (.getfield 68, 3) := by decide +kernel
theorem dMo_work_184 : decode cMo_work 184 = .ok (.if_icmp .ge 19, 3) := by decide +kernel
theorem dMo_work_187 : decode cMo_work 187 = .ok (.aload_n 0, 1) := by decide +kernel
theorem dMo_work_188 : decode cMo_work 188 = .ok (.aload_n 2, 1) := by decide +kernel
theorem dMo_work_189 : decode cMo_work 189 = .ok (.iload 4, 2) := by decide +kernel
theorem dMo_work_191 : decode cMo_work 191 = .ok (.iaload, 1) := by decide +kernel
theorem dMo_work_192 : decode cMo_work 192 = .ok (.iload 4, 2) := by decide +kernel
theorem dMo_work_194 : decode cMo_work 194 = .ok (.invokevirtual 139, 3) := by decide +kernel
theorem dMo_work_197 : decode cMo_work 197 = .ok (.iinc 4 1, 3) := by decide +kernel
theorem dMo_work_200 : decode cMo_work 200 = .ok (.goto (-22), 3) := by decide +kernel
theorem dMo_work_203 : decode cMo_work 203 = .ok (.return_, 1) := by decide +kernel
abbrev cMo_refresh : ByteArray := prog_9_method_25_code
def yMo_refresh : MethodName := ⟨RMo, "refresh", "()V"⟩
theorem dMo_refresh_0 : decode cMo_refresh 0 = .ok (.aload_n 0, 1) := by decide +kernel
theorem dMo_refresh_1 : decode cMo_refresh 1 = .ok (.getfield 61, 3) := by decide +kernel
theorem dMo_refresh_4 : decode cMo_refresh 4 = .ok (.ifCond .eq 8, 3) := by decide +kernel
theorem dMo_refresh_7 : decode cMo_refresh 7 = .ok (.aload_n 0, 1) := by decide +kernel
theorem dMo_refresh_8 : decode cMo_refresh 8 = .ok (.iconst 0, 1) := by decide +kernel
theorem dMo_refresh_9 : decode cMo_refresh 9 = .ok (.invokevirtual 143, 3) := by decide +kernel
theorem dMo_refresh_12 : decode cMo_refresh 12 = .ok (.return_, 1) := by decide +kernel
abbrev cMo_width : ByteArray := prog_9_method_26_code
def yMo_width : MethodName := ⟨RMo, "width", "()I"⟩
theorem dMo_width_0 : decode cMo_width 0 = .ok (.iconst (-1), 1) := by decide +kernel
theorem dMo_width_1 : decode cMo_width 1 = .ok (.istore_n 1, 1) := by decide +kernel
theorem dMo_width_2 : decode cMo_width 2 = .ok (.iconst 0, 1) := by decide +kernel
theorem dMo_width_3 : decode cMo_width 3 = .ok (.istore_n 2, 1) := by decide +kernel
theorem dMo_width_4 : decode cMo_width 4 = .ok (.iload_n 2, 1) := by decide +kernel
theorem dMo_width_5 : decode cMo_width 5 = .ok (.aload_n 0, 1) := by decide +kernel
theorem dMo_width_6 : decode cMo_width 6 = .ok (.getfield 68, 3) := by decide +kernel
theorem dMo_width_9 : decode cMo_width 9 = .ok (.if_icmp .ge 40, 3) := by decide +kernel
theorem dMo_width_12 : decode cMo_width 12 = .ok (.aload_n 0, 1) := by decide +kernel
theorem dMo_width_13 : decode cMo_width 13 = .ok (.getfield 31, 3) := by decide +kernel
theorem dMo_width_16 : decode cMo_width 16 = .ok (.iload_n 2, 1) := by decide +kernel
theorem dMo_width_17 : decode cMo_width 17 = .ok (.iaload, 1) := by decide +kernel
theorem dMo_width_18 : decode cMo_width 18 = .ok (.invokestatic 86, 3) := by decide +kernel
theorem dMo_width_21 : decode cMo_width 21 = .ok (.iconst 1, 1) := by decide +kernel
theorem dMo_width_22 : decode cMo_width 22 = .ok (.isub, 1) := by decide +kernel
theorem dMo_width_23 : decode cMo_width 23 = .ok (.iload_n 1, 1) := by decide +kernel
theorem dMo_width_24 : decode cMo_width 24 = .ok (.if_icmp .le 17, 3) := by decide +kernel
theorem dMo_width_27 : decode cMo_width 27 = .ok (.aload_n 0, 1) := by decide +kernel
theorem dMo_width_28 : decode cMo_width 28 = .ok (.getfield 31, 3) := by decide +kernel
theorem dMo_width_31 : decode cMo_width 31 = .ok (.iload_n 2, 1) := by decide +kernel
theorem dMo_width_32 : decode cMo_width 32 = .ok (.iaload, 1) := by decide +kernel
theorem dMo_width_33 : decode cMo_width 33 = .ok (.invokestatic 86, 3) := by decide +kernel
theorem dMo_width_36 : decode cMo_width 36 = .ok (.iconst 1, 1) := by decide +kernel
theorem dMo_width_37 : decode cMo_width 37 = .ok (.isub, 1) := by decide +kernel
theorem dMo_width_38 : decode cMo_width 38 = .ok (.goto 4, 3) := by decide +kernel
theorem dMo_width_41 : decode cMo_width 41 = .ok (.iload_n 1, 1) := by decide +kernel
theorem dMo_width_42 : decode cMo_width 42 = .ok (.istore_n 1, 1) := by decide +kernel
theorem dMo_width_43 : decode cMo_width 43 = .ok (.iinc 2 1, 3) := by decide +kernel
theorem dMo_width_46 : decode cMo_width 46 = .ok (.goto (-42), 3) := by decide +kernel
theorem dMo_width_49 : decode cMo_width 49 = .ok (.iload_n 1, 1) := by decide +kernel
theorem dMo_width_50 : decode cMo_width 50 = .ok (.ireturn, 1) := by decide +kernel
abbrev cMo_order : ByteArray := prog_9_method_27_code
def yMo_order : MethodName := ⟨RMo, "order", "(I)I"⟩
theorem dMo_order_0 : decode cMo_order 0 = .ok (.aload_n 0, 1) := by decide +kernel
theorem dMo_order_1 : decode cMo_order 1 = .ok (.iconst 0, 1) := by decide +kernel
theorem dMo_order_2 : decode cMo_order 2 = .ok (.putfield 65, 3) := by decide +kernel
theorem dMo_order_5 : decode cMo_order 5 = .ok (.iload_n 1, 1) := by decide +kernel
theorem dMo_order_6 : decode cMo_order 6 = .ok (.i2l, 1) := by decide +kernel
theorem dMo_order_7 : decode cMo_order 7 = .ok (.lconst 0, 1) := by decide +kernel
theorem dMo_order_8 : decode cMo_order 8 = .ok (.ldc2_w 147, 3) := by decide +kernel
theorem dMo_order_11 : decode cMo_order 11 = .ok (.invokestatic 71, 3) := by decide +kernel
theorem dMo_order_14 : decode cMo_order 14 = .ok (.ifCond .ne 6, 3) := by decide +kernel
theorem dMo_order_17 : decode cMo_order 17 = .ok (.bipush (-2), 2) := by decide +kernel
theorem dMo_order_19 : decode cMo_order 19 = .ok (.ireturn, 1) := by decide +kernel
theorem dMo_order_20 : decode cMo_order 20 = .ok (.iload_n 1, 1) := by decide +kernel
theorem dMo_order_21 : decode cMo_order 21 = .ok (.iconst 1, 1) := by decide +kernel
theorem dMo_order_22 : decode cMo_order 22 = .ok (.if_icmp .ne 64, 3) := by decide +kernel
theorem dMo_order_25 : decode cMo_order 25 = .ok (.iconst 0, 1) := by decide +kernel
theorem dMo_order_26 : decode cMo_order 26 = .ok (.istore_n 2, 1) := by decide +kernel
theorem dMo_order_27 : decode cMo_order 27 = .ok (.iconst 0, 1) := by decide +kernel
theorem dMo_order_28 : decode cMo_order 28 = .ok (.istore_n 3, 1) := by decide +kernel
theorem dMo_order_29 : decode cMo_order 29 = .ok (.iload_n 3, 1) := by decide +kernel
theorem dMo_order_30 : decode cMo_order 30 = .ok (.aload_n 0, 1) := by decide +kernel
theorem dMo_order_31 : decode cMo_order 31 = .ok (.getfield 68, 3) := by decide +kernel
theorem dMo_order_34 : decode cMo_order 34 = .ok (.if_icmp .ge 37, 3) := by decide +kernel
theorem dMo_order_37 : decode cMo_order 37 = .ok (.aload_n 0, 1) := by decide +kernel
theorem dMo_order_38 : decode cMo_order 38 = .ok (.aload_n 0, 1) := by decide +kernel
theorem dMo_order_39 : decode cMo_order 39 = .ok (.getfield 16, 3) := by decide +kernel
theorem dMo_order_42 : decode cMo_order 42 = .ok (.iload_n 3, 1) := by decide +kernel
theorem dMo_order_43 : decode cMo_order 43 = .ok (.iaload, 1) := by decide +kernel
theorem dMo_order_44 : decode cMo_order 44 = .ok (.invokevirtual 104, 3) := by decide +kernel
theorem dMo_order_47 : decode cMo_order 47 = .ok (.ifCond .eq 16, 3) := by decide +kernel
theorem dMo_order_50 : decode cMo_order 50 = .ok (.iload_n 2, 1) := by decide +kernel
theorem dMo_order_51 : decode cMo_order 51 = .ok (.iconst 1, 1) := by decide +kernel
theorem dMo_order_52 : decode cMo_order 52 = .ok (.aload_n 0, 1) := by decide +kernel
theorem dMo_order_53 : decode cMo_order 53 = .ok (.getfield 16, 3) := by decide +kernel
theorem dMo_order_56 : decode cMo_order 56 = .ok (.iload_n 3, 1) := by decide +kernel
theorem dMo_order_57 : decode cMo_order 57 = .ok (.iaload, 1) := by decide +kernel
theorem dMo_order_58 : decode cMo_order 58 = .ok (.ishl, 1) := by decide +kernel
theorem dMo_order_59 : decode cMo_order 59 = .ok (.ior, 1) := by decide +kernel
theorem dMo_order_60 : decode cMo_order 60 = .ok (.goto 4, 3) := by decide +kernel
theorem dMo_order_63 : decode cMo_order 63 = .ok (.iload_n 2, 1) := by decide +kernel
theorem dMo_order_64 : decode cMo_order 64 = .ok (.istore_n 2, 1) := by decide +kernel
theorem dMo_order_65 : decode cMo_order 65 = .ok (.iinc 3 1, 3) := by decide +kernel
theorem dMo_order_68 : decode cMo_order 68 = .ok (.goto (-39), 3) := by decide +kernel
theorem dMo_order_71 : decode cMo_order 71 = .ok (.iload_n 2, 1) := by decide +kernel
theorem dMo_order_72 : decode cMo_order 72 = .ok (.iconst 1, 1) := by decide +kernel
theorem dMo_order_73 : decode cMo_order 73 = .ok (.aload_n 0, 1) := by decide +kernel
theorem dMo_order_74 : decode cMo_order 74 = .ok (.getfield 68, 3) := by decide +kernel
theorem dMo_order_77 : decode cMo_order 77 = .ok (.ishl, 1) := by decide +kernel
theorem dMo_order_78 : decode cMo_order 78 = .ok (.iconst 1, 1) := by decide +kernel
theorem dMo_order_79 : decode cMo_order 79 = .ok (.isub, 1) := by decide +kernel
theorem dMo_order_80 : decode cMo_order 80 = .ok (.if_icmp .eq 6, 3) := by decide +kernel
theorem dMo_order_83 : decode cMo_order 83 = .ok (.bipush (-3), 2) := by decide +kernel
theorem dMo_order_85 : decode cMo_order 85 = .ok (.ireturn, 1) := by decide +kernel
theorem dMo_order_86 : decode cMo_order 86 = .ok (.aload_n 0, 1) := by decide +kernel
theorem dMo_order_87 : decode cMo_order 87 = .ok (.iload_n 1, 1) := by decide +kernel
theorem dMo_order_88 : decode cMo_order 88 = .ok (.invokevirtual 143, 3) := by decide +kernel
theorem dMo_order_91 : decode cMo_order 91 = .ok (.aload_n 0, 1) := by decide +kernel
theorem dMo_order_92 : decode cMo_order 92 = .ok (.invokevirtual 149, 3) := by decide +kernel
theorem dMo_order_95 : decode cMo_order 95 = .ok (.ireturn, 1) := by decide +kernel
abbrev cMo_taken : ByteArray := prog_9_method_28_code
def yMo_taken : MethodName := ⟨RMo, "taken", "(II)I"⟩
theorem dMo_taken_0 : decode cMo_taken 0 = .ok (.aload_n 0, 1) := by decide +kernel
theorem dMo_taken_1 : decode cMo_taken 1 = .ok (.iconst 0, 1) := by decide +kernel
theorem dMo_taken_2 : decode cMo_taken 2 = .ok (.putfield 65, 3) := by decide +kernel
theorem dMo_taken_5 : decode cMo_taken 5 = .ok (.aload_n 0, 1) := by decide +kernel
theorem dMo_taken_6 : decode cMo_taken 6 = .ok (.iload_n 1, 1) := by decide +kernel
theorem dMo_taken_7 : decode cMo_taken 7 = .ok (.invokevirtual 104, 3) := by decide +kernel
theorem dMo_taken_10 : decode cMo_taken 10 = .ok (.ifCond .ne 5, 3) := by decide +kernel
theorem dMo_taken_13 : decode cMo_taken 13 = .ok (.iconst (-1), 1) := by decide +kernel
theorem dMo_taken_14 : decode cMo_taken 14 = .ok (.ireturn, 1) := by decide +kernel
theorem dMo_taken_15 : decode cMo_taken 15 = .ok (.iload_n 2, 1) := by decide +kernel
theorem dMo_taken_16 : decode cMo_taken 16 = .ok (.i2l, 1) := by decide +kernel
theorem dMo_taken_17 : decode cMo_taken 17 = .ok (.lconst 0, 1) := by decide +kernel
theorem dMo_taken_18 : decode cMo_taken 18 = .ok (.ldc2_w 102, 3) := by decide +kernel
theorem dMo_taken_21 : decode cMo_taken 21 = .ok (.invokestatic 71, 3) := by decide +kernel
theorem dMo_taken_24 : decode cMo_taken 24 = .ok (.ifCond .ne 6, 3) := by decide +kernel
theorem dMo_taken_27 : decode cMo_taken 27 = .ok (.bipush (-2), 2) := by decide +kernel
theorem dMo_taken_29 : decode cMo_taken 29 = .ok (.ireturn, 1) := by decide +kernel
theorem dMo_taken_30 : decode cMo_taken 30 = .ok (.aload_n 0, 1) := by decide +kernel
theorem dMo_taken_31 : decode cMo_taken 31 = .ok (.invokevirtual 152, 3) := by decide +kernel
theorem dMo_taken_34 : decode cMo_taken 34 = .ok (.iload_n 2, 1) := by decide +kernel
theorem dMo_taken_35 : decode cMo_taken 35 = .ok (.ifCond .ne 10, 3) := by decide +kernel
theorem dMo_taken_38 : decode cMo_taken 38 = .ok (.aload_n 0, 1) := by decide +kernel
theorem dMo_taken_39 : decode cMo_taken 39 = .ok (.getfield 28, 3) := by decide +kernel
theorem dMo_taken_42 : decode cMo_taken 42 = .ok (.iload_n 1, 1) := by decide +kernel
theorem dMo_taken_43 : decode cMo_taken 43 = .ok (.iaload, 1) := by decide +kernel
theorem dMo_taken_44 : decode cMo_taken 44 = .ok (.ireturn, 1) := by decide +kernel
theorem dMo_taken_45 : decode cMo_taken 45 = .ok (.iload_n 2, 1) := by decide +kernel
theorem dMo_taken_46 : decode cMo_taken 46 = .ok (.iconst 1, 1) := by decide +kernel
theorem dMo_taken_47 : decode cMo_taken 47 = .ok (.if_icmp .ne 10, 3) := by decide +kernel
theorem dMo_taken_50 : decode cMo_taken 50 = .ok (.aload_n 0, 1) := by decide +kernel
theorem dMo_taken_51 : decode cMo_taken 51 = .ok (.getfield 31, 3) := by decide +kernel
theorem dMo_taken_54 : decode cMo_taken 54 = .ok (.iload_n 1, 1) := by decide +kernel
theorem dMo_taken_55 : decode cMo_taken 55 = .ok (.iaload, 1) := by decide +kernel
theorem dMo_taken_56 : decode cMo_taken 56 = .ok (.ireturn, 1) := by decide +kernel
theorem dMo_taken_57 : decode cMo_taken 57 = .ok (.iload_n 2, 1) := by decide +kernel
theorem dMo_taken_58 : decode cMo_taken 58 = .ok (.iconst 3, 1) := by decide +kernel
theorem dMo_taken_59 : decode cMo_taken 59 = .ok (.if_icmp .ne 14, 3) := by decide +kernel
theorem dMo_taken_62 : decode cMo_taken 62 = .ok (.aload_n 0, 1) := by decide +kernel
theorem dMo_taken_63 : decode cMo_taken 63 = .ok (.aload_n 0, 1) := by decide +kernel
theorem dMo_taken_64 : decode cMo_taken 64 = .ok (.getfield 31, 3) := by decide +kernel
theorem dMo_taken_67 : decode cMo_taken 67 = .ok (.iload_n 1, 1) := by decide +kernel
theorem dMo_taken_68 : decode cMo_taken 68 = .ok (.iaload, 1) := by decide +kernel
theorem dMo_taken_69 : decode cMo_taken 69 = .ok (.invokevirtual 97, 3) := by decide +kernel
theorem dMo_taken_72 : decode cMo_taken 72 = .ok (.ireturn, 1) := by decide +kernel
theorem dMo_taken_73 : decode cMo_taken 73 = .ok (.iload_n 1, 1) := by decide +kernel
theorem dMo_taken_74 : decode cMo_taken 74 = .ok (.iconst 1, 1) := by decide +kernel
theorem dMo_taken_75 : decode cMo_taken 75 = .ok (.iadd, 1) := by decide +kernel
theorem dMo_taken_76 : decode cMo_taken 76 = .ok (.istore_n 3, 1) := by decide +kernel
theorem dMo_taken_77 : decode cMo_taken 77 = .ok (.iload_n 3, 1) := by decide +kernel
theorem dMo_taken_78 : decode cMo_taken 78 = .ok (.aload_n 0, 1) := by decide +kernel
theorem dMo_taken_79 : decode cMo_taken 79 = .ok (.getfield 68, 3) := by decide +kernel
theorem dMo_taken_82 : decode cMo_taken 82 = .ok (.if_icmp .ge 30, 3) := by decide +kernel
theorem dMo_taken_85 : decode cMo_taken 85 = .ok (.aload_n 0, 1) := by decide +kernel
theorem dMo_taken_86 : decode cMo_taken 86 = .ok (.getfield 31, 3) := by decide +kernel
theorem dMo_taken_89 : decode cMo_taken 89 = .ok (.iload_n 1, 1) := by decide +kernel
theorem dMo_taken_90 : decode cMo_taken 90 = .ok (.iaload, 1) := by decide +kernel
theorem dMo_taken_91 : decode cMo_taken 91 = .ok (.aload_n 0, 1) := by decide +kernel
theorem dMo_taken_92 : decode cMo_taken 92 = .ok (.getfield 28, 3) := by decide +kernel
theorem dMo_taken_95 : decode cMo_taken 95 = .ok (.iload_n 3, 1) := by decide +kernel
theorem dMo_taken_96 : decode cMo_taken 96 = .ok (.iaload, 1) := by decide +kernel
theorem dMo_taken_97 : decode cMo_taken 97 = .ok (.ishr, 1) := by decide +kernel
theorem dMo_taken_98 : decode cMo_taken 98 = .ok (.iconst 1, 1) := by decide +kernel
theorem dMo_taken_99 : decode cMo_taken 99 = .ok (.iand, 1) := by decide +kernel
theorem dMo_taken_100 : decode cMo_taken 100 = .ok (.iconst 1, 1) := by decide +kernel
theorem dMo_taken_101 : decode cMo_taken 101 = .ok (.if_icmp .ne 5, 3) := by decide +kernel
theorem dMo_taken_104 : decode cMo_taken 104 = .ok (.iload_n 3, 1) := by decide +kernel
theorem dMo_taken_105 : decode cMo_taken 105 = .ok (.ireturn, 1) := by decide +kernel
theorem dMo_taken_106 : decode cMo_taken 106 = .ok (.iinc 3 1, 3) := by decide +kernel
theorem dMo_taken_109 : decode cMo_taken 109 = .ok (.goto (-32), 3) := by decide +kernel
theorem dMo_taken_112 : decode cMo_taken 112 = .ok (.iconst (-1), 1) := by decide +kernel
theorem dMo_taken_113 : decode cMo_taken 113 = .ok (.ireturn, 1) := by decide +kernel
abbrev cMo_mostCells : ByteArray := prog_9_method_29_code
def yMo_mostCells : MethodName := ⟨RMo, "mostCells", "()I"⟩
theorem dMo_mostCells_0 : decode cMo_mostCells 0 = .ok (.iconst 0, 1) := by decide +kernel
theorem dMo_mostCells_1 : decode cMo_mostCells 1 = .ok (.istore_n 1, 1) := by decide +kernel
theorem dMo_mostCells_2 : decode cMo_mostCells 2 = .ok (.iconst 0, 1) := by decide +kernel
theorem dMo_mostCells_3 : decode cMo_mostCells 3 = .ok (.istore_n 2, 1) := by decide +kernel
theorem dMo_mostCells_4 : decode cMo_mostCells 4 = .ok (.iload_n 2, 1) := by decide +kernel
theorem dMo_mostCells_5 : decode cMo_mostCells 5 = .ok (.aload_n 0, 1) := by decide +kernel
theorem dMo_mostCells_6 : decode cMo_mostCells 6 = .ok (.getfield 68, 3) := by decide +kernel
theorem dMo_mostCells_9 : decode cMo_mostCells 9 = .ok (.if_icmp .ge 38, 3) := by decide +kernel
theorem dMo_mostCells_12 : decode cMo_mostCells 12 = .ok (.aload_n 0, 1) := by decide +kernel
theorem dMo_mostCells_13 : decode cMo_mostCells 13 = .ok (.aload_n 0, 1) := by decide +kernel
theorem dMo_mostCells_14 : decode cMo_mostCells 14 = .ok (.getfield 31, 3) := by decide +kernel
theorem dMo_mostCells_17 : decode cMo_mostCells 17 = .ok (.iload_n 2, 1) := by decide +kernel
theorem dMo_mostCells_18 : decode cMo_mostCells 18 = .ok (.iaload, 1) := by decide +kernel
theorem dMo_mostCells_19 : decode cMo_mostCells 19 = .ok (.invokevirtual 97, 3) := by decide +kernel
theorem dMo_mostCells_22 : decode cMo_mostCells 22 = .ok (.iload_n 1, 1) := by decide +kernel
theorem dMo_mostCells_23 : decode cMo_mostCells 23 = .ok (.if_icmp .le 16, 3) := by decide +kernel
theorem dMo_mostCells_26 : decode cMo_mostCells 26 = .ok (.aload_n 0, 1) := by decide +kernel
theorem dMo_mostCells_27 : decode cMo_mostCells 27 = .ok (.aload_n 0, 1) := by decide +kernel
theorem dMo_mostCells_28 : decode cMo_mostCells 28 = .ok (.getfield 31, 3) := by decide +kernel
theorem dMo_mostCells_31 : decode cMo_mostCells 31 = .ok (.iload_n 2, 1) := by decide +kernel
theorem dMo_mostCells_32 : decode cMo_mostCells 32 = .ok (.iaload, 1) := by decide +kernel
theorem dMo_mostCells_33 : decode cMo_mostCells 33 = .ok (.invokevirtual 97, 3) := by decide +kernel
theorem dMo_mostCells_36 : decode cMo_mostCells 36 = .ok (.goto 4, 3) := by decide +kernel
theorem dMo_mostCells_39 : decode cMo_mostCells 39 = .ok (.iload_n 1, 1) := by decide +kernel
theorem dMo_mostCells_40 : decode cMo_mostCells 40 = .ok (.istore_n 1, 1) := by decide +kernel
theorem dMo_mostCells_41 : decode cMo_mostCells 41 = .ok (.iinc 2 1, 3) := by decide +kernel
theorem dMo_mostCells_44 : decode cMo_mostCells 44 = .ok (.goto (-40), 3) := by decide +kernel
theorem dMo_mostCells_47 : decode cMo_mostCells 47 = .ok (.iload_n 1, 1) := by decide +kernel
theorem dMo_mostCells_48 : decode cMo_mostCells 48 = .ok (.ireturn, 1) := by decide +kernel
abbrev cMo_pairs : ByteArray := prog_9_method_30_code
def yMo_pairs : MethodName := ⟨RMo, "pairs", "()I"⟩
theorem dMo_pairs_0 : decode cMo_pairs 0 = .ok (.aload_n 0, 1) := by decide +kernel
theorem dMo_pairs_1 : decode cMo_pairs 1 = .ok (.invokevirtual 130, 3) := by decide +kernel
theorem dMo_pairs_4 : decode cMo_pairs 4 = .ok (.iconst 0, 1) := by decide +kernel
theorem dMo_pairs_5 : decode cMo_pairs 5 = .ok (.istore_n 1, 1) := by decide +kernel
theorem dMo_pairs_6 : decode cMo_pairs 6 = .ok (.iconst 0, 1) := by decide +kernel
theorem dMo_pairs_7 : decode cMo_pairs 7 = .ok (.istore_n 2, 1) := by decide +kernel
theorem dMo_pairs_8 : decode cMo_pairs 8 = .ok (.iload_n 2, 1) := by decide +kernel
theorem dMo_pairs_9 : decode cMo_pairs 9 = .ok (.aload_n 0, 1) := by decide +kernel
theorem dMo_pairs_10 : decode cMo_pairs 10 = .ok (.getfield 68, 3) := by decide +kernel
theorem dMo_pairs_13 : decode cMo_pairs 13 = .ok (.if_icmp .ge 21, 3) := by decide +kernel
theorem dMo_pairs_16 : decode cMo_pairs 16 = .ok (.iload_n 1, 1) := by decide +kernel
theorem dMo_pairs_17 : decode cMo_pairs 17 = .ok (.aload_n 0, 1) := by decide +kernel
theorem dMo_pairs_18 : decode cMo_pairs 18 = .ok (.getfield 34, 3) := by decide +kernel
theorem dMo_pairs_21 : decode cMo_pairs 21 = .ok (.iload_n 2, 1) := by decide +kernel
theorem dMo_pairs_22 : decode cMo_pairs 22 = .ok (.iaload, 1) := by decide +kernel
theorem dMo_pairs_23 : decode cMo_pairs 23 = .ok (.invokestatic 86, 3) := by decide +kernel
theorem dMo_pairs_26 : decode cMo_pairs 26 = .ok (.iadd, 1) := by decide +kernel
theorem dMo_pairs_27 : decode cMo_pairs 27 = .ok (.istore_n 1, 1) := by decide +kernel
theorem dMo_pairs_28 : decode cMo_pairs 28 = .ok (.iinc 2 1, 3) := by decide +kernel
theorem dMo_pairs_31 : decode cMo_pairs 31 = .ok (.goto (-23), 3) := by decide +kernel
theorem dMo_pairs_34 : decode cMo_pairs 34 = .ok (.iload_n 1, 1) := by decide +kernel
theorem dMo_pairs_35 : decode cMo_pairs 35 = .ok (.iconst 2, 1) := by decide +kernel
theorem dMo_pairs_36 : decode cMo_pairs 36 = .ok (.idiv, 1) := by decide +kernel
theorem dMo_pairs_37 : decode cMo_pairs 37 = .ok (.ireturn, 1) := by decide +kernel
abbrev cMo_told : ByteArray := prog_9_method_31_code
def yMo_told : MethodName := ⟨RMo, "told", "(I)I"⟩
theorem dMo_told_0 : decode cMo_told 0 = .ok (.aload_n 0, 1) := by decide +kernel
theorem dMo_told_1 : decode cMo_told 1 = .ok (.iconst 0, 1) := by decide +kernel
theorem dMo_told_2 : decode cMo_told 2 = .ok (.putfield 65, 3) := by decide +kernel
theorem dMo_told_5 : decode cMo_told 5 = .ok (.iload_n 1, 1) := by decide +kernel
theorem dMo_told_6 : decode cMo_told 6 = .ok (.i2l, 1) := by decide +kernel
theorem dMo_told_7 : decode cMo_told 7 = .ok (.lconst 0, 1) := by decide +kernel
theorem dMo_told_8 : decode cMo_told 8 = .ok (.ldc2_w 155, 3) := by decide +kernel
theorem dMo_told_11 : decode cMo_told 11 = .ok (.invokestatic 71, 3) := by decide +kernel
theorem dMo_told_14 : decode cMo_told 14 = .ok (.ifCond .ne 6, 3) := by decide +kernel
theorem dMo_told_17 : decode cMo_told 17 = .ok (.bipush (-2), 2) := by decide +kernel
theorem dMo_told_19 : decode cMo_told 19 = .ok (.ireturn, 1) := by decide +kernel
theorem dMo_told_20 : decode cMo_told 20 = .ok (.aload_n 0, 1) := by decide +kernel
theorem dMo_told_21 : decode cMo_told 21 = .ok (.invokevirtual 152, 3) := by decide +kernel
theorem dMo_told_24 : decode cMo_told 24 = .ok (.iload_n 1, 1) := by decide +kernel
theorem dMo_told_25 : decode cMo_told 25 = .ok (.tableswitch 124 0 8 #[51, 56, 61, 66, 71, 76, 81, 86, 91], 51) := by decide +kernel
theorem dMo_told_76 : decode cMo_told 76 = .ok (.aload_n 0, 1) := by decide +kernel
theorem dMo_told_77 : decode cMo_told 77 = .ok (.getfield 68, 3) := by decide +kernel
theorem dMo_told_80 : decode cMo_told 80 = .ok (.ireturn, 1) := by decide +kernel
theorem dMo_told_81 : decode cMo_told 81 = .ok (.aload_n 0, 1) := by decide +kernel
theorem dMo_told_82 : decode cMo_told 82 = .ok (.getfield 79, 3) := by decide +kernel
theorem dMo_told_85 : decode cMo_told 85 = .ok (.ireturn, 1) := by decide +kernel
theorem dMo_told_86 : decode cMo_told 86 = .ok (.aload_n 0, 1) := by decide +kernel
theorem dMo_told_87 : decode cMo_told 87 = .ok (.invokevirtual 90, 3) := by decide +kernel
theorem dMo_told_90 : decode cMo_told 90 = .ok (.ireturn, 1) := by decide +kernel
theorem dMo_told_91 : decode cMo_told 91 = .ok (.aload_n 0, 1) := by decide +kernel
theorem dMo_told_92 : decode cMo_told 92 = .ok (.getfield 58, 3) := by decide +kernel
theorem dMo_told_95 : decode cMo_told 95 = .ok (.ireturn, 1) := by decide +kernel
theorem dMo_told_96 : decode cMo_told 96 = .ok (.aload_n 0, 1) := by decide +kernel
theorem dMo_told_97 : decode cMo_told 97 = .ok (.invokevirtual 157, 3) := by decide +kernel
theorem dMo_told_100 : decode cMo_told 100 = .ok (.ireturn, 1) := by decide +kernel
theorem dMo_told_101 : decode cMo_told 101 = .ok (.aload_n 0, 1) := by decide +kernel
theorem dMo_told_102 : decode cMo_told 102 = .ok (.getfield 127, 3) := by decide +kernel
theorem dMo_told_105 : decode cMo_told 105 = .ok (.ireturn, 1) := by decide +kernel
theorem dMo_told_106 : decode cMo_told 106 = .ok (.aload_n 0, 1) := by decide +kernel
theorem dMo_told_107 : decode cMo_told 107 = .ok (.invokevirtual 149, 3) := by decide +kernel
theorem dMo_told_110 : decode cMo_told 110 = .ok (.ireturn, 1) := by decide +kernel
theorem dMo_told_111 : decode cMo_told 111 = .ok (.aload_n 0, 1) := by decide +kernel
theorem dMo_told_112 : decode cMo_told 112 = .ok (.getfield 113, 3) := by decide +kernel
theorem dMo_told_115 : decode cMo_told 115 = .ok (.ireturn, 1) := by decide +kernel
theorem dMo_told_116 : decode cMo_told 116 = .ok (.iconst 0, 1) := by decide +kernel
theorem dMo_told_117 : decode cMo_told 117 = .ok (.istore_n 2, 1) := by decide +kernel
theorem dMo_told_118 : decode cMo_told 118 = .ok (.iconst 0, 1) := by decide +kernel
theorem dMo_told_119 : decode cMo_told 119 = .ok (.istore_n 3, 1) := by decide +kernel
theorem dMo_told_120 : decode cMo_told 120 = .ok (.iload_n 3, 1) := by decide +kernel
theorem dMo_told_121 : decode cMo_told 121 = .ok (.aload_n 0, 1) := by decide +kernel
theorem dMo_told_122 : decode cMo_told 122 = .ok (.getfield 68, 3) := by decide +kernel
theorem dMo_told_125 : decode cMo_told 125 = .ok (.if_icmp .ge 22, 3) := by decide +kernel
theorem dMo_told_128 : decode cMo_told 128 = .ok (.iload_n 2, 1) := by decide +kernel
theorem dMo_told_129 : decode cMo_told 129 = .ok (.aload_n 0, 1) := by decide +kernel
theorem dMo_told_130 : decode cMo_told 130 = .ok (.aload_n 0, 1) := by decide +kernel
theorem dMo_told_131 : decode cMo_told 131 = .ok (.getfield 31, 3) := by decide +kernel
theorem dMo_told_134 : decode cMo_told 134 = .ok (.iload_n 3, 1) := by decide +kernel
theorem dMo_told_135 : decode cMo_told 135 = .ok (.iaload, 1) := by decide +kernel
theorem dMo_told_136 : decode cMo_told 136 = .ok (.invokevirtual 97, 3) := by decide +kernel
theorem dMo_told_139 : decode cMo_told 139 = .ok (.iadd, 1) := by decide +kernel
theorem dMo_told_140 : decode cMo_told 140 = .ok (.istore_n 2, 1) := by decide +kernel
theorem dMo_told_141 : decode cMo_told 141 = .ok (.iinc 3 1, 3) := by decide +kernel
theorem dMo_told_144 : decode cMo_told 144 = .ok (.goto (-24), 3) := by decide +kernel
theorem dMo_told_147 : decode cMo_told 147 = .ok (.iload_n 2, 1) := by decide +kernel
theorem dMo_told_148 : decode cMo_told 148 = .ok (.ireturn, 1) := by decide +kernel
theorem dMo_told_149 : decode cMo_told 149 = .ok (.aload_n 0, 1) := by decide +kernel
theorem dMo_told_150 : decode cMo_told 150 = .ok (.invokevirtual 160, 3) := by decide +kernel
theorem dMo_told_153 : decode cMo_told 153 = .ok (.ireturn, 1) := by decide +kernel
abbrev cMo_isTooMuch : ByteArray := prog_9_method_32_code
def yMo_isTooMuch : MethodName := ⟨RMo, "isTooMuch", "()Z"⟩
theorem dMo_isTooMuch_0 : decode cMo_isTooMuch 0 = .ok (.aload_n 0, 1) := by decide +kernel
theorem dMo_isTooMuch_1 : decode cMo_isTooMuch 1 = .ok (.invokevirtual 152, 3) := by decide +kernel
theorem dMo_isTooMuch_4 : decode cMo_isTooMuch 4 = .ok (.aload_n 0, 1) := by decide +kernel
theorem dMo_isTooMuch_5 : decode cMo_isTooMuch 5 = .ok (.invokevirtual 160, 3) := by decide +kernel
theorem dMo_isTooMuch_8 : decode cMo_isTooMuch 8 = .ok (.aload_n 0, 1) := by decide +kernel
theorem dMo_isTooMuch_9 : decode cMo_isTooMuch 9 = .ok (.getfield 54, 3) := by decide +kernel
theorem dMo_isTooMuch_12 : decode cMo_isTooMuch 12 = .ok (.if_icmp .le 7, 3) := by decide +kernel
theorem dMo_isTooMuch_15 : decode cMo_isTooMuch 15 = .ok (.iconst 1, 1) := by decide +kernel
theorem dMo_isTooMuch_16 : decode cMo_isTooMuch 16 = .ok (.goto 4, 3) := by decide +kernel
theorem dMo_isTooMuch_19 : decode cMo_isTooMuch 19 = .ok (.iconst 0, 1) := by decide +kernel
theorem dMo_isTooMuch_20 : decode cMo_isTooMuch 20 = .ok (.ireturn, 1) := by decide +kernel
abbrev cMo_lay : ByteArray := prog_9_method_33_code
def yMo_lay : MethodName := ⟨RMo, "lay", "(I)V"⟩
theorem dMo_lay_0 : decode cMo_lay 0 = .ok (.iload_n 1, 1) := by decide +kernel
theorem dMo_lay_1 : decode cMo_lay 1 = .ok (.istore_n 2, 1) := by decide +kernel
theorem dMo_lay_2 : decode cMo_lay 2 = .ok (.aload_n 0, 1) := by decide +kernel
theorem dMo_lay_3 : decode cMo_lay 3 = .ok (.getfield 68, 3) := by decide +kernel
theorem dMo_lay_6 : decode cMo_lay 6 = .ok (.iconst 1, 1) := by decide +kernel
theorem dMo_lay_7 : decode cMo_lay 7 = .ok (.isub, 1) := by decide +kernel
theorem dMo_lay_8 : decode cMo_lay 8 = .ok (.istore_n 3, 1) := by decide +kernel
theorem dMo_lay_9 : decode cMo_lay 9 = .ok (.iload_n 3, 1) := by decide +kernel
theorem dMo_lay_10 : decode cMo_lay 10 = .ok (.ifCond .lt 32, 3) := by decide +kernel
theorem dMo_lay_13 : decode cMo_lay 13 = .ok (.aload_n 0, 1) := by decide +kernel
theorem dMo_lay_14 : decode cMo_lay 14 = .ok (.getfield 44, 3) := by decide +kernel
theorem dMo_lay_17 : decode cMo_lay 17 = .ok (.iload_n 3, 1) := by decide +kernel
theorem dMo_lay_18 : decode cMo_lay 18 = .ok (.iload_n 2, 1) := by decide +kernel
theorem dMo_lay_19 : decode cMo_lay 19 = .ok (.aload_n 0, 1) := by decide +kernel
theorem dMo_lay_20 : decode cMo_lay 20 = .ok (.getfield 7, 3) := by decide +kernel
theorem dMo_lay_23 : decode cMo_lay 23 = .ok (.iload_n 3, 1) := by decide +kernel
theorem dMo_lay_24 : decode cMo_lay 24 = .ok (.iaload, 1) := by decide +kernel
theorem dMo_lay_25 : decode cMo_lay 25 = .ok (.irem, 1) := by decide +kernel
theorem dMo_lay_26 : decode cMo_lay 26 = .ok (.iastore, 1) := by decide +kernel
theorem dMo_lay_27 : decode cMo_lay 27 = .ok (.iload_n 2, 1) := by decide +kernel
theorem dMo_lay_28 : decode cMo_lay 28 = .ok (.aload_n 0, 1) := by decide +kernel
theorem dMo_lay_29 : decode cMo_lay 29 = .ok (.getfield 7, 3) := by decide +kernel
theorem dMo_lay_32 : decode cMo_lay 32 = .ok (.iload_n 3, 1) := by decide +kernel
theorem dMo_lay_33 : decode cMo_lay 33 = .ok (.iaload, 1) := by decide +kernel
theorem dMo_lay_34 : decode cMo_lay 34 = .ok (.idiv, 1) := by decide +kernel
theorem dMo_lay_35 : decode cMo_lay 35 = .ok (.istore_n 2, 1) := by decide +kernel
theorem dMo_lay_36 : decode cMo_lay 36 = .ok (.iinc 3 (-1), 3) := by decide +kernel
theorem dMo_lay_39 : decode cMo_lay 39 = .ok (.goto (-30), 3) := by decide +kernel
theorem dMo_lay_42 : decode cMo_lay 42 = .ok (.return_, 1) := by decide +kernel
abbrev cMo_numberOf : ByteArray := prog_9_method_34_code
def yMo_numberOf : MethodName := ⟨RMo, "numberOf", "(I)I"⟩
theorem dMo_numberOf_0 : decode cMo_numberOf 0 = .ok (.iconst 0, 1) := by decide +kernel
theorem dMo_numberOf_1 : decode cMo_numberOf 1 = .ok (.istore_n 2, 1) := by decide +kernel
theorem dMo_numberOf_2 : decode cMo_numberOf 2 = .ok (.iconst 1, 1) := by decide +kernel
theorem dMo_numberOf_3 : decode cMo_numberOf 3 = .ok (.istore_n 3, 1) := by decide +kernel
theorem dMo_numberOf_4 : decode cMo_numberOf 4 = .ok (.iconst 0, 1) := by decide +kernel
theorem dMo_numberOf_5 : decode cMo_numberOf 5 = .ok (.istore 4, 2) := by decide +kernel
theorem dMo_numberOf_7 : decode cMo_numberOf 7 = .ok (.iload 4, 2) := by decide +kernel
theorem dMo_numberOf_9 : decode cMo_numberOf 9 = .ok (.aload_n 0, 1) := by decide +kernel
theorem dMo_numberOf_10 : decode cMo_numberOf 10 = .ok (.getfield 68, 3) := by decide +kernel
theorem dMo_numberOf_13 : decode cMo_numberOf 13 = .ok (.if_icmp .ge 41, 3) := by decide +kernel
theorem dMo_numberOf_16 : decode cMo_numberOf 16 = .ok (.iload_n 1, 1) := by decide +kernel
theorem dMo_numberOf_17 : decode cMo_numberOf 17 = .ok (.iload 4, 2) := by decide +kernel
theorem dMo_numberOf_19 : decode cMo_numberOf 19 = .ok (.ishr, 1) := by decide +kernel
theorem dMo_numberOf_20 : decode cMo_numberOf 20 = .ok (.iconst 1, 1) := by decide +kernel
theorem dMo_numberOf_21 : decode cMo_numberOf 21 = .ok (.iand, 1) := by decide +kernel
theorem dMo_numberOf_22 : decode cMo_numberOf 22 = .ok (.iconst 1, 1) := by decide +kernel
theorem dMo_numberOf_23 : decode cMo_numberOf 23 = .ok (.if_icmp .ne 25, 3) := by decide +kernel
theorem dMo_numberOf_26 : decode cMo_numberOf 26 = .ok (.iload_n 2, 1) := by decide +kernel
theorem dMo_numberOf_27 : decode cMo_numberOf 27 = .ok (.iload_n 3, 1) := by decide +kernel
theorem dMo_numberOf_28 : decode cMo_numberOf 28 = .ok (.aload_n 0, 1) := by decide +kernel
theorem dMo_numberOf_29 : decode cMo_numberOf 29 = .ok (.getfield 44, 3) := by decide +kernel
theorem dMo_numberOf_32 : decode cMo_numberOf 32 = .ok (.iload 4, 2) := by decide +kernel
theorem dMo_numberOf_34 : decode cMo_numberOf 34 = .ok (.iaload, 1) := by decide +kernel
theorem dMo_numberOf_35 : decode cMo_numberOf 35 = .ok (.imul, 1) := by decide +kernel
theorem dMo_numberOf_36 : decode cMo_numberOf 36 = .ok (.iadd, 1) := by decide +kernel
theorem dMo_numberOf_37 : decode cMo_numberOf 37 = .ok (.istore_n 2, 1) := by decide +kernel
theorem dMo_numberOf_38 : decode cMo_numberOf 38 = .ok (.iload_n 3, 1) := by decide +kernel
theorem dMo_numberOf_39 : decode cMo_numberOf 39 = .ok (.aload_n 0, 1) := by decide +kernel
theorem dMo_numberOf_40 : decode cMo_numberOf 40 = .ok (.getfield 7, 3) := by decide +kernel
theorem dMo_numberOf_43 : decode cMo_numberOf 43 = .ok (.iload 4, 2) := by decide +kernel
theorem dMo_numberOf_45 : decode cMo_numberOf 45 = .ok (.iaload, 1) := by decide +kernel
theorem dMo_numberOf_46 : decode cMo_numberOf 46 = .ok (.imul, 1) := by decide +kernel
theorem dMo_numberOf_47 : decode cMo_numberOf 47 = .ok (.istore_n 3, 1) := by decide +kernel
theorem dMo_numberOf_48 : decode cMo_numberOf 48 = .ok (.iinc 4 1, 3) := by decide +kernel
theorem dMo_numberOf_51 : decode cMo_numberOf 51 = .ok (.goto (-44), 3) := by decide +kernel
theorem dMo_numberOf_54 : decode cMo_numberOf 54 = .ok (.iload_n 2, 1) := by decide +kernel
theorem dMo_numberOf_55 : decode cMo_numberOf 55 = .ok (.ireturn, 1) := by decide +kernel
abbrev cMo_weigh : ByteArray := prog_9_method_35_code
def yMo_weigh : MethodName := ⟨RMo, "weigh", "(I)J"⟩
theorem dMo_weigh_0 : decode cMo_weigh 0 = .ok (.aload_n 0, 1) := by decide +kernel
theorem dMo_weigh_1 : decode cMo_weigh 1 = .ok (.iload_n 1, 1) := by decide +kernel
theorem dMo_weigh_2 : decode cMo_weigh 2 = .ok (.invokevirtual 163, 3) := by decide +kernel
theorem dMo_weigh_5 : decode cMo_weigh 5 = .ok (.iconst 0, 1) := by decide +kernel
theorem dMo_weigh_6 : decode cMo_weigh 6 = .ok (.istore_n 2, 1) := by decide +kernel
theorem dMo_weigh_7 : decode cMo_weigh 7 = .ok (.iload_n 2, 1) := by decide +kernel
theorem dMo_weigh_8 : decode cMo_weigh 8 = .ok (.aload_n 0, 1) := by decide +kernel
theorem dMo_weigh_9 : decode cMo_weigh 9 = .ok (.getfield 68, 3) := by decide +kernel
theorem dMo_weigh_12 : decode cMo_weigh 12 = .ok (.if_icmp .ge 36, 3) := by decide +kernel
theorem dMo_weigh_15 : decode cMo_weigh 15 = .ok (.aload_n 0, 1) := by decide +kernel
theorem dMo_weigh_16 : decode cMo_weigh 16 = .ok (.getfield 13, 3) := by decide +kernel
theorem dMo_weigh_19 : decode cMo_weigh 19 = .ok (.iload_n 2, 1) := by decide +kernel
theorem dMo_weigh_20 : decode cMo_weigh 20 = .ok (.iaload, 1) := by decide +kernel
theorem dMo_weigh_21 : decode cMo_weigh 21 = .ok (.iconst (-1), 1) := by decide +kernel
theorem dMo_weigh_22 : decode cMo_weigh 22 = .ok (.if_icmp .eq 20, 3) := by decide +kernel
theorem dMo_weigh_25 : decode cMo_weigh 25 = .ok (.aload_n 0, 1) := by decide +kernel
theorem dMo_weigh_26 : decode cMo_weigh 26 = .ok (.getfield 13, 3) := by decide +kernel
theorem dMo_weigh_29 : decode cMo_weigh 29 = .ok (.iload_n 2, 1) := by decide +kernel
theorem dMo_weigh_30 : decode cMo_weigh 30 = .ok (.iaload, 1) := by decide +kernel
theorem dMo_weigh_31 : decode cMo_weigh 31 = .ok (.aload_n 0, 1) := by decide +kernel
theorem dMo_weigh_32 : decode cMo_weigh 32 = .ok (.getfield 44, 3) := by decide +kernel
theorem dMo_weigh_35 : decode cMo_weigh 35 = .ok (.iload_n 2, 1) := by decide +kernel
theorem dMo_weigh_36 : decode cMo_weigh 36 = .ok (.iaload, 1) := by decide +kernel
theorem dMo_weigh_37 : decode cMo_weigh 37 = .ok (.if_icmp .eq 5, 3) := by decide +kernel
theorem dMo_weigh_40 : decode cMo_weigh 40 = .ok (.lconst 0, 1) := by decide +kernel
theorem dMo_weigh_41 : decode cMo_weigh 41 = .ok (.lreturn, 1) := by decide +kernel
theorem dMo_weigh_42 : decode cMo_weigh 42 = .ok (.iinc 2 1, 3) := by decide +kernel
theorem dMo_weigh_45 : decode cMo_weigh 45 = .ok (.goto (-38), 3) := by decide +kernel
theorem dMo_weigh_48 : decode cMo_weigh 48 = .ok (.lconst 1, 1) := by decide +kernel
theorem dMo_weigh_49 : decode cMo_weigh 49 = .ok (.lstore_n 2, 1) := by decide +kernel
theorem dMo_weigh_50 : decode cMo_weigh 50 = .ok (.iconst 0, 1) := by decide +kernel
theorem dMo_weigh_51 : decode cMo_weigh 51 = .ok (.istore 4, 2) := by decide +kernel
theorem dMo_weigh_53 : decode cMo_weigh 53 = .ok (.iload 4, 2) := by decide +kernel
theorem dMo_weigh_55 : decode cMo_weigh 55 = .ok (.aload_n 0, 1) := by decide +kernel
theorem dMo_weigh_56 : decode cMo_weigh 56 = .ok (.getfield 79, 3) := by decide +kernel
theorem dMo_weigh_59 : decode cMo_weigh 59 = .ok (.if_icmp .ge 67, 3) := by decide +kernel
theorem dMo_weigh_62 : decode cMo_weigh 62 = .ok (.lload_n 2, 1) := by decide +kernel
theorem dMo_weigh_63 : decode cMo_weigh 63 = .ok (.lconst 0, 1) := by decide +kernel
theorem dMo_weigh_64 : decode cMo_weigh 64 = .ok (.lcmp, 1) := by decide +kernel
theorem dMo_weigh_65 : decode cMo_weigh 65 = .ok (.ifCond .le 61, 3) := by decide +kernel
theorem dMo_weigh_68 : decode cMo_weigh 68 = .ok (.aload_n 0, 1) := by decide +kernel
theorem dMo_weigh_69 : decode cMo_weigh 69 = .ok (.getfield 25, 3) := by decide +kernel
theorem dMo_weigh_72 : decode cMo_weigh 72 = .ok (.sipush 256, 3) := by decide +kernel
theorem dMo_weigh_75 : decode cMo_weigh 75 = .ok (.iload 4, 2) := by decide +kernel
theorem dMo_weigh_77 : decode cMo_weigh 77 = .ok (.imul, 1) := by decide +kernel
theorem dMo_weigh_78 : decode cMo_weigh 78 = .ok (.aload_n 0, 1) := by decide +kernel
theorem dMo_weigh_79 : decode cMo_weigh 79 = .ok (.aload_n 0, 1) := by decide +kernel
theorem dMo_weigh_80 : decode cMo_weigh 80 = .ok (.getfield 19, 3) := by decide +kernel
theorem dMo_weigh_83 : decode cMo_weigh 83 = .ok (.iload 4, 2) := by decide +kernel
theorem dMo_weigh_85 : decode cMo_weigh 85 = .ok (.iaload, 1) := by decide +kernel
theorem dMo_weigh_86 : decode cMo_weigh 86 = .ok (.invokevirtual 166, 3) := by decide +kernel
theorem dMo_weigh_89 : decode cMo_weigh 89 = .ok (.iadd, 1) := by decide +kernel
theorem dMo_weigh_90 : decode cMo_weigh 90 = .ok (.iaload, 1) := by decide +kernel
theorem dMo_weigh_91 : decode cMo_weigh 91 = .ok (.istore 5, 2) := by decide +kernel
theorem dMo_weigh_93 : decode cMo_weigh 93 = .ok (.iconst 0, 1) := by decide +kernel
theorem dMo_weigh_94 : decode cMo_weigh 94 = .ok (.istore 6, 2) := by decide +kernel
theorem dMo_weigh_96 : decode cMo_weigh 96 = .ok (.iload 6, 2) := by decide +kernel
theorem dMo_weigh_98 : decode cMo_weigh 98 = .ok (.aload_n 0, 1) := by decide +kernel
theorem dMo_weigh_99 : decode cMo_weigh 99 = .ok (.getfield 22, 3) := by decide +kernel
theorem dMo_weigh_102 : decode cMo_weigh 102 = .ok (.iload 4, 2) := by decide +kernel
theorem dMo_weigh_104 : decode cMo_weigh 104 = .ok (.iaload, 1) := by decide +kernel
theorem dMo_weigh_105 : decode cMo_weigh 105 = .ok (.if_icmp .ge 15, 3) := by decide +kernel
theorem dMo_weigh_108 : decode cMo_weigh 108 = .ok (.lload_n 2, 1) := by decide +kernel
theorem dMo_weigh_109 : decode cMo_weigh 109 = .ok (.iload 5, 2) := by decide +kernel
theorem dMo_weigh_111 : decode cMo_weigh 111 = .ok (.i2l, 1) := by decide +kernel
theorem dMo_weigh_112 : decode cMo_weigh 112 = .ok (.lmul, 1) := by decide +kernel
theorem dMo_weigh_113 : decode cMo_weigh 113 = .ok (.lstore_n 2, 1) := by decide +kernel
theorem dMo_weigh_114 : decode cMo_weigh 114 = .ok (.iinc 6 1, 3) := by decide +kernel
theorem dMo_weigh_117 : decode cMo_weigh 117 = .ok (.goto (-21), 3) := by decide +kernel
theorem dMo_weigh_120 : decode cMo_weigh 120 = .ok (.iinc 4 1, 3) := by decide +kernel
theorem dMo_weigh_123 : decode cMo_weigh 123 = .ok (.goto (-70), 3) := by decide +kernel
theorem dMo_weigh_126 : decode cMo_weigh 126 = .ok (.lload_n 2, 1) := by decide +kernel
theorem dMo_weigh_127 : decode cMo_weigh 127 = .ok (.lreturn, 1) := by decide +kernel
abbrev cMo_sum : ByteArray := prog_9_method_36_code
def yMo_sum : MethodName := ⟨RMo, "sum", "()J"⟩
theorem dMo_sum_0 : decode cMo_sum 0 = .ok (.lconst 0, 1) := by decide +kernel
theorem dMo_sum_1 : decode cMo_sum 1 = .ok (.lstore_n 1, 1) := by decide +kernel
theorem dMo_sum_2 : decode cMo_sum 2 = .ok (.iconst 0, 1) := by decide +kernel
theorem dMo_sum_3 : decode cMo_sum 3 = .ok (.istore_n 3, 1) := by decide +kernel
theorem dMo_sum_4 : decode cMo_sum 4 = .ok (.iload_n 3, 1) := by decide +kernel
theorem dMo_sum_5 : decode cMo_sum 5 = .ok (.aload_n 0, 1) := by decide +kernel
theorem dMo_sum_6 : decode cMo_sum 6 = .ok (.getfield 58, 3) := by decide +kernel
theorem dMo_sum_9 : decode cMo_sum 9 = .ok (.if_icmp .ge 17, 3) := by decide +kernel
theorem dMo_sum_12 : decode cMo_sum 12 = .ok (.lload_n 1, 1) := by decide +kernel
theorem dMo_sum_13 : decode cMo_sum 13 = .ok (.aload_n 0, 1) := by decide +kernel
theorem dMo_sum_14 : decode cMo_sum 14 = .ok (.iload_n 3, 1) := by decide +kernel
theorem dMo_sum_15 : decode cMo_sum 15 = .ok (.invokevirtual 169, 3) := by decide +kernel
theorem dMo_sum_18 : decode cMo_sum 18 = .ok (.ladd, 1) := by decide +kernel
theorem dMo_sum_19 : decode cMo_sum 19 = .ok (.lstore_n 1, 1) := by decide +kernel
theorem dMo_sum_20 : decode cMo_sum 20 = .ok (.iinc 3 1, 3) := by decide +kernel
theorem dMo_sum_23 : decode cMo_sum 23 = .ok (.goto (-19), 3) := by decide +kernel
theorem dMo_sum_26 : decode cMo_sum 26 = .ok (.lload_n 1, 1) := by decide +kernel
theorem dMo_sum_27 : decode cMo_sum 27 = .ok (.lreturn, 1) := by decide +kernel
abbrev cMo_total : ByteArray := prog_9_method_37_code
def yMo_total : MethodName := ⟨RMo, "total", "()J"⟩
theorem dMo_total_0 : decode cMo_total 0 = .ok (.aload_n 0, 1) := by decide +kernel
theorem dMo_total_1 : decode cMo_total 1 = .ok (.iconst 0, 1) := by decide +kernel
theorem dMo_total_2 : decode cMo_total 2 = .ok (.putfield 65, 3) := by decide +kernel
theorem dMo_total_5 : decode cMo_total 5 = .ok (.aload_n 0, 1) := by decide +kernel
theorem dMo_total_6 : decode cMo_total 6 = .ok (.invokevirtual 173, 3) := by decide +kernel
theorem dMo_total_9 : decode cMo_total 9 = .ok (.ifCond .eq 9, 3) := by decide +kernel
theorem dMo_total_12 : decode cMo_total 12 = .ok (.ldc2_w 177, 3) := by decide +kernel
theorem dMo_total_15 : decode cMo_total 15 = .ok (.goto 7, 3) := by decide +kernel
theorem dMo_total_18 : decode cMo_total 18 = .ok (.aload_n 0, 1) := by decide +kernel
theorem dMo_total_19 : decode cMo_total 19 = .ok (.invokevirtual 179, 3) := by decide +kernel
theorem dMo_total_22 : decode cMo_total 22 = .ok (.lreturn, 1) := by decide +kernel
abbrev cMo_divisor : ByteArray := prog_9_method_38_code
def yMo_divisor : MethodName := ⟨RMo, "divisor", "(JJ)J"⟩
theorem dMo_divisor_0 : decode cMo_divisor 0 = .ok (.lload_n 0, 1) := by decide +kernel
theorem dMo_divisor_1 : decode cMo_divisor 1 = .ok (.lstore 4, 2) := by decide +kernel
theorem dMo_divisor_3 : decode cMo_divisor 3 = .ok (.lload_n 2, 1) := by decide +kernel
theorem dMo_divisor_4 : decode cMo_divisor 4 = .ok (.lstore 6, 2) := by decide +kernel
theorem dMo_divisor_6 : decode cMo_divisor 6 = .ok (.lload 6, 2) := by decide +kernel
theorem dMo_divisor_8 : decode cMo_divisor 8 = .ok (.lconst 0, 1) := by decide +kernel
theorem dMo_divisor_9 : decode cMo_divisor 9 = .ok (.lcmp, 1) := by decide +kernel
theorem dMo_divisor_10 : decode cMo_divisor 10 = .ok (.ifCond .eq 21, 3) := by decide +kernel
theorem dMo_divisor_13 : decode cMo_divisor 13 = .ok (.lload 4, 2) := by decide +kernel
theorem dMo_divisor_15 : decode cMo_divisor 15 = .ok (.lload 6, 2) := by decide +kernel
theorem dMo_divisor_17 : decode cMo_divisor 17 = .ok (.lrem, 1) := by decide +kernel
theorem dMo_divisor_18 : decode cMo_divisor 18 = .ok (.lstore 8, 2) := by decide +kernel
theorem dMo_divisor_20 : decode cMo_divisor 20 = .ok (.lload 6, 2) := by decide +kernel
theorem dMo_divisor_22 : decode cMo_divisor 22 = .ok (.lstore 4, 2) := by decide +kernel
theorem dMo_divisor_24 : decode cMo_divisor 24 = .ok (.lload 8, 2) := by decide +kernel
theorem dMo_divisor_26 : decode cMo_divisor 26 = .ok (.lstore 6, 2) := by decide +kernel
theorem dMo_divisor_28 : decode cMo_divisor 28 = .ok (.goto (-22), 3) := by decide +kernel
theorem dMo_divisor_31 : decode cMo_divisor 31 = .ok (.lload 4, 2) := by decide +kernel
theorem dMo_divisor_33 : decode cMo_divisor 33 = .ok (.lreturn, 1) := by decide +kernel
abbrev cMo_share : ByteArray := prog_9_method_39_code
def yMo_share : MethodName := ⟨RMo, "share", "(III)J"⟩
theorem dMo_share_0 : decode cMo_share 0 = .ok (.aload_n 0, 1) := by decide +kernel
theorem dMo_share_1 : decode cMo_share 1 = .ok (.iconst 0, 1) := by decide +kernel
theorem dMo_share_2 : decode cMo_share 2 = .ok (.putfield 65, 3) := by decide +kernel
theorem dMo_share_5 : decode cMo_share 5 = .ok (.aload_n 0, 1) := by decide +kernel
theorem dMo_share_6 : decode cMo_share 6 = .ok (.iload_n 1, 1) := by decide +kernel
theorem dMo_share_7 : decode cMo_share 7 = .ok (.invokevirtual 82, 3) := by decide +kernel
theorem dMo_share_10 : decode cMo_share 10 = .ok (.ifCond .ne 7, 3) := by decide +kernel
theorem dMo_share_13 : decode cMo_share 13 = .ok (.ldc2_w 107, 3) := by decide +kernel
theorem dMo_share_16 : decode cMo_share 16 = .ok (.lreturn, 1) := by decide +kernel
theorem dMo_share_17 : decode cMo_share 17 = .ok (.iload_n 2, 1) := by decide +kernel
theorem dMo_share_18 : decode cMo_share 18 = .ok (.i2l, 1) := by decide +kernel
theorem dMo_share_19 : decode cMo_share 19 = .ok (.lconst 0, 1) := by decide +kernel
theorem dMo_share_20 : decode cMo_share 20 = .ok (.aload_n 0, 1) := by decide +kernel
theorem dMo_share_21 : decode cMo_share 21 = .ok (.iload_n 1, 1) := by decide +kernel
theorem dMo_share_22 : decode cMo_share 22 = .ok (.invokevirtual 97, 3) := by decide +kernel
theorem dMo_share_25 : decode cMo_share 25 = .ok (.iconst 1, 1) := by decide +kernel
theorem dMo_share_26 : decode cMo_share 26 = .ok (.isub, 1) := by decide +kernel
theorem dMo_share_27 : decode cMo_share 27 = .ok (.i2l, 1) := by decide +kernel
theorem dMo_share_28 : decode cMo_share 28 = .ok (.invokestatic 71, 3) := by decide +kernel
theorem dMo_share_31 : decode cMo_share 31 = .ok (.ifCond .eq 13, 3) := by decide +kernel
theorem dMo_share_34 : decode cMo_share 34 = .ok (.iload_n 3, 1) := by decide +kernel
theorem dMo_share_35 : decode cMo_share 35 = .ok (.i2l, 1) := by decide +kernel
theorem dMo_share_36 : decode cMo_share 36 = .ok (.lconst 0, 1) := by decide +kernel
theorem dMo_share_37 : decode cMo_share 37 = .ok (.lconst 1, 1) := by decide +kernel
theorem dMo_share_38 : decode cMo_share 38 = .ok (.invokestatic 71, 3) := by decide +kernel
theorem dMo_share_41 : decode cMo_share 41 = .ok (.ifCond .ne 7, 3) := by decide +kernel
theorem dMo_share_44 : decode cMo_share 44 = .ok (.ldc2_w 183, 3) := by decide +kernel
theorem dMo_share_47 : decode cMo_share 47 = .ok (.lreturn, 1) := by decide +kernel
theorem dMo_share_48 : decode cMo_share 48 = .ok (.aload_n 0, 1) := by decide +kernel
theorem dMo_share_49 : decode cMo_share 49 = .ok (.invokevirtual 173, 3) := by decide +kernel
theorem dMo_share_52 : decode cMo_share 52 = .ok (.ifCond .eq 7, 3) := by decide +kernel
theorem dMo_share_55 : decode cMo_share 55 = .ok (.ldc2_w 177, 3) := by decide +kernel
theorem dMo_share_58 : decode cMo_share 58 = .ok (.lreturn, 1) := by decide +kernel
theorem dMo_share_59 : decode cMo_share 59 = .ok (.lconst 0, 1) := by decide +kernel
theorem dMo_share_60 : decode cMo_share 60 = .ok (.lstore 4, 2) := by decide +kernel
theorem dMo_share_62 : decode cMo_share 62 = .ok (.lconst 0, 1) := by decide +kernel
theorem dMo_share_63 : decode cMo_share 63 = .ok (.lstore 6, 2) := by decide +kernel
theorem dMo_share_65 : decode cMo_share 65 = .ok (.iconst 0, 1) := by decide +kernel
theorem dMo_share_66 : decode cMo_share 66 = .ok (.istore 8, 2) := by decide +kernel
theorem dMo_share_68 : decode cMo_share 68 = .ok (.iload 8, 2) := by decide +kernel
theorem dMo_share_70 : decode cMo_share 70 = .ok (.aload_n 0, 1) := by decide +kernel
theorem dMo_share_71 : decode cMo_share 71 = .ok (.getfield 58, 3) := by decide +kernel
theorem dMo_share_74 : decode cMo_share 74 = .ok (.if_icmp .ge 45, 3) := by decide +kernel
theorem dMo_share_77 : decode cMo_share 77 = .ok (.aload_n 0, 1) := by decide +kernel
theorem dMo_share_78 : decode cMo_share 78 = .ok (.iload 8, 2) := by decide +kernel
theorem dMo_share_80 : decode cMo_share 80 = .ok (.invokevirtual 169, 3) := by decide +kernel
theorem dMo_share_83 : decode cMo_share 83 = .ok (.lstore 9, 2) := by decide +kernel
theorem dMo_share_85 : decode cMo_share 85 = .ok (.lload 4, 2) := by decide +kernel
theorem dMo_share_87 : decode cMo_share 87 = .ok (.lload 9, 2) := by decide +kernel
theorem dMo_share_89 : decode cMo_share 89 = .ok (.ladd, 1) := by decide +kernel
theorem dMo_share_90 : decode cMo_share 90 = .ok (.lstore 4, 2) := by decide +kernel
theorem dMo_share_92 : decode cMo_share 92 = .ok (.aload_n 0, 1) := by decide +kernel
theorem dMo_share_93 : decode cMo_share 93 = .ok (.iload_n 1, 1) := by decide +kernel
theorem dMo_share_94 : decode cMo_share 94 = .ok (.invokevirtual 166, 3) := by decide +kernel
theorem dMo_share_97 : decode cMo_share 97 = .ok (.iload_n 2, 1) := by decide +kernel
theorem dMo_share_98 : decode cMo_share 98 = .ok (.if_icmp .ne 11, 3) := by decide +kernel
theorem dMo_share_101 : decode cMo_share 101 = .ok (.lload 6, 2) := by decide +kernel
theorem dMo_share_103 : decode cMo_share 103 = .ok (.lload 9, 2) := by decide +kernel
theorem dMo_share_105 : decode cMo_share 105 = .ok (.ladd, 1) := by decide +kernel
theorem dMo_share_106 : decode cMo_share 106 = .ok (.goto 5, 3) := by decide +kernel
theorem dMo_share_109 : decode cMo_share 109 = .ok (.lload 6, 2) := by decide +kernel
theorem dMo_share_111 : decode cMo_share 111 = .ok (.lstore 6, 2) := by decide +kernel
theorem dMo_share_113 : decode cMo_share 113 = .ok (.iinc 8 1, 3) := by decide +kernel
theorem dMo_share_116 : decode cMo_share 116 = .ok (.goto (-48), 3) := by decide +kernel
theorem dMo_share_119 : decode cMo_share 119 = .ok (.lload 4, 2) := by decide +kernel
theorem dMo_share_121 : decode cMo_share 121 = .ok (.lconst 0, 1) := by decide +kernel
theorem dMo_share_122 : decode cMo_share 122 = .ok (.lcmp, 1) := by decide +kernel
theorem dMo_share_123 : decode cMo_share 123 = .ok (.ifCond .ne 7, 3) := by decide +kernel
theorem dMo_share_126 : decode cMo_share 126 = .ok (.ldc2_w 185, 3) := by decide +kernel
theorem dMo_share_129 : decode cMo_share 129 = .ok (.lreturn, 1) := by decide +kernel
theorem dMo_share_130 : decode cMo_share 130 = .ok (.lload 4, 2) := by decide +kernel
theorem dMo_share_132 : decode cMo_share 132 = .ok (.lload 6, 2) := by decide +kernel
theorem dMo_share_134 : decode cMo_share 134 = .ok (.invokestatic 187, 3) := by decide +kernel
theorem dMo_share_137 : decode cMo_share 137 = .ok (.lstore 8, 2) := by decide +kernel
theorem dMo_share_139 : decode cMo_share 139 = .ok (.iload_n 3, 1) := by decide +kernel
theorem dMo_share_140 : decode cMo_share 140 = .ok (.ifCond .ne 11, 3) := by decide +kernel
theorem dMo_share_143 : decode cMo_share 143 = .ok (.lload 6, 2) := by decide +kernel
theorem dMo_share_145 : decode cMo_share 145 = .ok (.lload 8, 2) := by decide +kernel
theorem dMo_share_147 : decode cMo_share 147 = .ok (.ldiv, 1) := by decide +kernel
theorem dMo_share_148 : decode cMo_share 148 = .ok (.goto 8, 3) := by decide +kernel
theorem dMo_share_151 : decode cMo_share 151 = .ok (.lload 4, 2) := by decide +kernel
theorem dMo_share_153 : decode cMo_share 153 = .ok (.lload 8, 2) := by decide +kernel
theorem dMo_share_155 : decode cMo_share 155 = .ok (.ldiv, 1) := by decide +kernel
theorem dMo_share_156 : decode cMo_share 156 = .ok (.lreturn, 1) := by decide +kernel
abbrev cMo_rankAll : ByteArray := prog_9_method_40_code
def yMo_rankAll : MethodName := ⟨RMo, "rankAll", "()V"⟩
theorem dMo_rankAll_0 : decode cMo_rankAll 0 = .ok (.aload_n 0, 1) := by decide +kernel
theorem dMo_rankAll_1 : decode cMo_rankAll 1 = .ok (.iconst 0, 1) := by decide +kernel
theorem dMo_rankAll_2 : decode cMo_rankAll 2 = .ok (.putfield 191, 3) := by decide +kernel
theorem dMo_rankAll_5 : decode cMo_rankAll 5 = .ok (.iconst 0, 1) := by decide +kernel
theorem dMo_rankAll_6 : decode cMo_rankAll 6 = .ok (.istore_n 1, 1) := by decide +kernel
theorem dMo_rankAll_7 : decode cMo_rankAll 7 = .ok (.iload_n 1, 1) := by decide +kernel
theorem dMo_rankAll_8 : decode cMo_rankAll 8 = .ok (.aload_n 0, 1) := by decide +kernel
theorem dMo_rankAll_9 : decode cMo_rankAll 9 = .ok (.getfield 58, 3) := by decide +kernel
theorem dMo_rankAll_12 : decode cMo_rankAll 12 = .ok (.if_icmp .ge 124, 3) := by decide +kernel
theorem dMo_rankAll_15 : decode cMo_rankAll 15 = .ok (.aload_n 0, 1) := by decide +kernel
theorem dMo_rankAll_16 : decode cMo_rankAll 16 = .ok (.iload_n 1, 1) := by decide +kernel
theorem dMo_rankAll_17 : decode cMo_rankAll 17 = .ok (.invokevirtual 169, 3) := by decide +kernel
theorem dMo_rankAll_20 : decode cMo_rankAll 20 = .ok (.lstore_n 2, 1) := by decide +kernel
theorem dMo_rankAll_21 : decode cMo_rankAll 21 = .ok (.lload_n 2, 1) := by decide +kernel
theorem dMo_rankAll_22 : decode cMo_rankAll 22 = .ok (.lconst 0, 1) := by decide +kernel
theorem dMo_rankAll_23 : decode cMo_rankAll 23 = .ok (.lcmp, 1) := by decide +kernel
theorem dMo_rankAll_24 : decode cMo_rankAll 24 = .ok (.ifCond .le 106, 3) := by decide +kernel
theorem dMo_rankAll_27 : decode cMo_rankAll 27 = .ok (.aload_n 0, 1) := by decide +kernel
theorem dMo_rankAll_28 : decode cMo_rankAll 28 = .ok (.getfield 191, 3) := by decide +kernel
theorem dMo_rankAll_31 : decode cMo_rankAll 31 = .ok (.istore 4, 2) := by decide +kernel
theorem dMo_rankAll_33 : decode cMo_rankAll 33 = .ok (.iload 4, 2) := by decide +kernel
theorem dMo_rankAll_35 : decode cMo_rankAll 35 = .ok (.ifCond .le 55, 3) := by decide +kernel
theorem dMo_rankAll_38 : decode cMo_rankAll 38 = .ok (.aload_n 0, 1) := by decide +kernel
theorem dMo_rankAll_39 : decode cMo_rankAll 39 = .ok (.getfield 47, 3) := by decide +kernel
theorem dMo_rankAll_42 : decode cMo_rankAll 42 = .ok (.iload 4, 2) := by decide +kernel
theorem dMo_rankAll_44 : decode cMo_rankAll 44 = .ok (.iconst 1, 1) := by decide +kernel
theorem dMo_rankAll_45 : decode cMo_rankAll 45 = .ok (.isub, 1) := by decide +kernel
theorem dMo_rankAll_46 : decode cMo_rankAll 46 = .ok (.laload, 1) := by decide +kernel
theorem dMo_rankAll_47 : decode cMo_rankAll 47 = .ok (.lload_n 2, 1) := by decide +kernel
theorem dMo_rankAll_48 : decode cMo_rankAll 48 = .ok (.lcmp, 1) := by decide +kernel
theorem dMo_rankAll_49 : decode cMo_rankAll 49 = .ok (.ifCond .ge 41, 3) := by decide +kernel
theorem dMo_rankAll_52 : decode cMo_rankAll 52 = .ok (.aload_n 0, 1) := by decide +kernel
theorem dMo_rankAll_53 : decode cMo_rankAll 53 = .ok (.getfield 47, 3) := by decide +kernel
theorem dMo_rankAll_56 : decode cMo_rankAll 56 = .ok (.iload 4, 2) := by decide +kernel
theorem dMo_rankAll_58 : decode cMo_rankAll 58 = .ok (.aload_n 0, 1) := by decide +kernel
theorem dMo_rankAll_59 : decode cMo_rankAll 59 = .ok (.getfield 47, 3) := by decide +kernel
theorem dMo_rankAll_62 : decode cMo_rankAll 62 = .ok (.iload 4, 2) := by decide +kernel
theorem dMo_rankAll_64 : decode cMo_rankAll 64 = .ok (.iconst 1, 1) := by decide +kernel
theorem dMo_rankAll_65 : decode cMo_rankAll 65 = .ok (.isub, 1) := by decide +kernel
theorem dMo_rankAll_66 : decode cMo_rankAll 66 = .ok (.laload, 1) := by decide +kernel
theorem dMo_rankAll_67 : decode cMo_rankAll 67 = .ok (.lastore, 1) := by decide +kernel
theorem dMo_rankAll_68 : decode cMo_rankAll 68 = .ok (.aload_n 0, 1) := by decide +kernel
theorem dMo_rankAll_69 : decode cMo_rankAll 69 = .ok (.getfield 50, 3) := by decide +kernel
theorem dMo_rankAll_72 : decode cMo_rankAll 72 = .ok (.iload 4, 2) := by decide +kernel
theorem dMo_rankAll_74 : decode cMo_rankAll 74 = .ok (.aload_n 0, 1) := by decide +kernel
theorem dMo_rankAll_75 : decode cMo_rankAll 75 = .ok (.getfield 50, 3) := by decide +kernel
theorem dMo_rankAll_78 : decode cMo_rankAll 78 = .ok (.iload 4, 2) := by decide +kernel
theorem dMo_rankAll_80 : decode cMo_rankAll 80 = .ok (.iconst 1, 1) := by decide +kernel
theorem dMo_rankAll_81 : decode cMo_rankAll 81 = .ok (.isub, 1) := by decide +kernel
theorem dMo_rankAll_82 : decode cMo_rankAll 82 = .ok (.iaload, 1) := by decide +kernel
theorem dMo_rankAll_83 : decode cMo_rankAll 83 = .ok (.iastore, 1) := by decide +kernel
theorem dMo_rankAll_84 : decode cMo_rankAll 84 = .ok (.iinc 4 (-1), 3) := by decide +kernel
theorem dMo_rankAll_87 : decode cMo_rankAll 87 = .ok (.goto (-54), 3) := by decide +kernel
theorem dMo_rankAll_90 : decode cMo_rankAll 90 = .ok (.aload_n 0, 1) := by decide +kernel
theorem dMo_rankAll_91 : decode cMo_rankAll 91 = .ok (.getfield 47, 3) := by decide +kernel
theorem dMo_rankAll_94 : decode cMo_rankAll 94 = .ok (.iload 4, 2) := by decide +kernel
theorem dMo_rankAll_96 : decode cMo_rankAll 96 = .ok (.lload_n 2, 1) := by decide +kernel
theorem dMo_rankAll_97 : decode cMo_rankAll 97 = .ok (.lastore, 1) := by decide +kernel
theorem dMo_rankAll_98 : decode cMo_rankAll 98 = .ok (.aload_n 0, 1) := by decide +kernel
theorem dMo_rankAll_99 : decode cMo_rankAll 99 = .ok (.getfield 50, 3) := by decide +kernel
theorem dMo_rankAll_102 : decode cMo_rankAll 102 = .ok (.iload 4, 2) := by decide +kernel
theorem dMo_rankAll_104 : decode cMo_rankAll 104 = .ok (.iload_n 1, 1) := by decide +kernel
theorem dMo_rankAll_105 : decode cMo_rankAll 105 = .ok (.iastore, 1) := by decide +kernel
theorem dMo_rankAll_106 : decode cMo_rankAll 106 = .ok (.aload_n 0, 1) := by decide +kernel
theorem dMo_rankAll_107 : decode cMo_rankAll 107 = .ok (.aload_n 0, 1) := by decide +kernel
theorem dMo_rankAll_108 : decode cMo_rankAll 108 = .ok (.getfield 191, 3) := by decide +kernel
theorem dMo_rankAll_111 : decode cMo_rankAll 111 = .ok (.bipush 24, 2) := by decide +kernel
theorem dMo_rankAll_113 : decode cMo_rankAll 113 = .ok (.if_icmp .ge 12, 3) := by decide +kernel
theorem dMo_rankAll_116 : decode cMo_rankAll 116 = .ok (.aload_n 0, 1) := by decide +kernel
theorem dMo_rankAll_117 : decode cMo_rankAll 117 = .ok (.getfield 191, 3) := by decide +kernel
theorem dMo_rankAll_120 : decode cMo_rankAll 120 = .ok (.iconst 1, 1) := by decide +kernel
theorem dMo_rankAll_121 : decode cMo_rankAll 121 = .ok (.iadd, 1) := by decide +kernel
theorem dMo_rankAll_122 : decode cMo_rankAll 122 = .ok (.goto 5, 3) := by decide +kernel
theorem dMo_rankAll_125 : decode cMo_rankAll 125 = .ok (.bipush 24, 2) := by decide +kernel
theorem dMo_rankAll_127 : decode cMo_rankAll 127 = .ok (.putfield 191, 3) := by decide +kernel
theorem dMo_rankAll_130 : decode cMo_rankAll 130 = .ok (.iinc 1 1, 3) := by decide +kernel
theorem dMo_rankAll_133 : decode cMo_rankAll 133 = .ok (.goto (-126), 3) := by decide +kernel
theorem dMo_rankAll_136 : decode cMo_rankAll 136 = .ok (.return_, 1) := by decide +kernel
abbrev cMo_greatest : ByteArray := prog_9_method_41_code
def yMo_greatest : MethodName := ⟨RMo, "greatest", "()J"⟩
theorem dMo_greatest_0 : decode cMo_greatest 0 = .ok (.aload_n 0, 1) := by decide +kernel
theorem dMo_greatest_1 : decode cMo_greatest 1 = .ok (.iconst 0, 1) := by decide +kernel
theorem dMo_greatest_2 : decode cMo_greatest 2 = .ok (.putfield 65, 3) := by decide +kernel
theorem dMo_greatest_5 : decode cMo_greatest 5 = .ok (.aload_n 0, 1) := by decide +kernel
theorem dMo_greatest_6 : decode cMo_greatest 6 = .ok (.invokevirtual 173, 3) := by decide +kernel
theorem dMo_greatest_9 : decode cMo_greatest 9 = .ok (.ifCond .eq 7, 3) := by decide +kernel
theorem dMo_greatest_12 : decode cMo_greatest 12 = .ok (.ldc2_w 177, 3) := by decide +kernel
theorem dMo_greatest_15 : decode cMo_greatest 15 = .ok (.lreturn, 1) := by decide +kernel
theorem dMo_greatest_16 : decode cMo_greatest 16 = .ok (.aload_n 0, 1) := by decide +kernel
theorem dMo_greatest_17 : decode cMo_greatest 17 = .ok (.invokevirtual 194, 3) := by decide +kernel
theorem dMo_greatest_20 : decode cMo_greatest 20 = .ok (.aload_n 0, 1) := by decide +kernel
theorem dMo_greatest_21 : decode cMo_greatest 21 = .ok (.getfield 191, 3) := by decide +kernel
theorem dMo_greatest_24 : decode cMo_greatest 24 = .ok (.ifCond .ne 7, 3) := by decide +kernel
theorem dMo_greatest_27 : decode cMo_greatest 27 = .ok (.lconst 0, 1) := by decide +kernel
theorem dMo_greatest_28 : decode cMo_greatest 28 = .ok (.goto 9, 3) := by decide +kernel
theorem dMo_greatest_31 : decode cMo_greatest 31 = .ok (.aload_n 0, 1) := by decide +kernel
theorem dMo_greatest_32 : decode cMo_greatest 32 = .ok (.getfield 47, 3) := by decide +kernel
theorem dMo_greatest_35 : decode cMo_greatest 35 = .ok (.iconst 0, 1) := by decide +kernel
theorem dMo_greatest_36 : decode cMo_greatest 36 = .ok (.laload, 1) := by decide +kernel
theorem dMo_greatest_37 : decode cMo_greatest 37 = .ok (.lreturn, 1) := by decide +kernel
abbrev cMo_best : ByteArray := prog_9_method_42_code
def yMo_best : MethodName := ⟨RMo, "best", "(I)I"⟩
theorem dMo_best_0 : decode cMo_best 0 = .ok (.aload_n 0, 1) := by decide +kernel
theorem dMo_best_1 : decode cMo_best 1 = .ok (.iconst 0, 1) := by decide +kernel
theorem dMo_best_2 : decode cMo_best 2 = .ok (.putfield 65, 3) := by decide +kernel
theorem dMo_best_5 : decode cMo_best 5 = .ok (.aload_n 0, 1) := by decide +kernel
theorem dMo_best_6 : decode cMo_best 6 = .ok (.iload_n 1, 1) := by decide +kernel
theorem dMo_best_7 : decode cMo_best 7 = .ok (.invokevirtual 104, 3) := by decide +kernel
theorem dMo_best_10 : decode cMo_best 10 = .ok (.ifCond .ne 5, 3) := by decide +kernel
theorem dMo_best_13 : decode cMo_best 13 = .ok (.iconst (-1), 1) := by decide +kernel
theorem dMo_best_14 : decode cMo_best 14 = .ok (.ireturn, 1) := by decide +kernel
theorem dMo_best_15 : decode cMo_best 15 = .ok (.aload_n 0, 1) := by decide +kernel
theorem dMo_best_16 : decode cMo_best 16 = .ok (.invokevirtual 173, 3) := by decide +kernel
theorem dMo_best_19 : decode cMo_best 19 = .ok (.ifCond .eq 6, 3) := by decide +kernel
theorem dMo_best_22 : decode cMo_best 22 = .ok (.bipush (-4), 2) := by decide +kernel
theorem dMo_best_24 : decode cMo_best 24 = .ok (.ireturn, 1) := by decide +kernel
theorem dMo_best_25 : decode cMo_best 25 = .ok (.aload_n 0, 1) := by decide +kernel
theorem dMo_best_26 : decode cMo_best 26 = .ok (.invokevirtual 194, 3) := by decide +kernel
theorem dMo_best_29 : decode cMo_best 29 = .ok (.aload_n 0, 1) := by decide +kernel
theorem dMo_best_30 : decode cMo_best 30 = .ok (.getfield 191, 3) := by decide +kernel
theorem dMo_best_33 : decode cMo_best 33 = .ok (.ifCond .ne 6, 3) := by decide +kernel
theorem dMo_best_36 : decode cMo_best 36 = .ok (.bipush (-3), 2) := by decide +kernel
theorem dMo_best_38 : decode cMo_best 38 = .ok (.ireturn, 1) := by decide +kernel
theorem dMo_best_39 : decode cMo_best 39 = .ok (.aload_n 0, 1) := by decide +kernel
theorem dMo_best_40 : decode cMo_best 40 = .ok (.aload_n 0, 1) := by decide +kernel
theorem dMo_best_41 : decode cMo_best 41 = .ok (.getfield 50, 3) := by decide +kernel
theorem dMo_best_44 : decode cMo_best 44 = .ok (.iconst 0, 1) := by decide +kernel
theorem dMo_best_45 : decode cMo_best 45 = .ok (.iaload, 1) := by decide +kernel
theorem dMo_best_46 : decode cMo_best 46 = .ok (.invokevirtual 163, 3) := by decide +kernel
theorem dMo_best_49 : decode cMo_best 49 = .ok (.aload_n 0, 1) := by decide +kernel
theorem dMo_best_50 : decode cMo_best 50 = .ok (.getfield 44, 3) := by decide +kernel
theorem dMo_best_53 : decode cMo_best 53 = .ok (.iload_n 1, 1) := by decide +kernel
theorem dMo_best_54 : decode cMo_best 54 = .ok (.iaload, 1) := by decide +kernel
theorem dMo_best_55 : decode cMo_best 55 = .ok (.ireturn, 1) := by decide +kernel
abbrev cMo_rank : ByteArray := prog_9_method_43_code
def yMo_rank : MethodName := ⟨RMo, "rank", "(II)J"⟩
theorem dMo_rank_0 : decode cMo_rank 0 = .ok (.aload_n 0, 1) := by decide +kernel
theorem dMo_rank_1 : decode cMo_rank 1 = .ok (.iconst 0, 1) := by decide +kernel
theorem dMo_rank_2 : decode cMo_rank 2 = .ok (.putfield 65, 3) := by decide +kernel
theorem dMo_rank_5 : decode cMo_rank 5 = .ok (.iload_n 2, 1) := by decide +kernel
theorem dMo_rank_6 : decode cMo_rank 6 = .ok (.iconst (-1), 1) := by decide +kernel
theorem dMo_rank_7 : decode cMo_rank 7 = .ok (.if_icmp .eq 15, 3) := by decide +kernel
theorem dMo_rank_10 : decode cMo_rank 10 = .ok (.aload_n 0, 1) := by decide +kernel
theorem dMo_rank_11 : decode cMo_rank 11 = .ok (.iload_n 2, 1) := by decide +kernel
theorem dMo_rank_12 : decode cMo_rank 12 = .ok (.invokevirtual 104, 3) := by decide +kernel
theorem dMo_rank_15 : decode cMo_rank 15 = .ok (.ifCond .ne 7, 3) := by decide +kernel
theorem dMo_rank_18 : decode cMo_rank 18 = .ok (.ldc2_w 107, 3) := by decide +kernel
theorem dMo_rank_21 : decode cMo_rank 21 = .ok (.lreturn, 1) := by decide +kernel
theorem dMo_rank_22 : decode cMo_rank 22 = .ok (.iload_n 1, 1) := by decide +kernel
theorem dMo_rank_23 : decode cMo_rank 23 = .ok (.i2l, 1) := by decide +kernel
theorem dMo_rank_24 : decode cMo_rank 24 = .ok (.lconst 0, 1) := by decide +kernel
theorem dMo_rank_25 : decode cMo_rank 25 = .ok (.ldc2_w 197, 3) := by decide +kernel
theorem dMo_rank_28 : decode cMo_rank 28 = .ok (.invokestatic 71, 3) := by decide +kernel
theorem dMo_rank_31 : decode cMo_rank 31 = .ok (.ifCond .ne 7, 3) := by decide +kernel
theorem dMo_rank_34 : decode cMo_rank 34 = .ok (.ldc2_w 183, 3) := by decide +kernel
theorem dMo_rank_37 : decode cMo_rank 37 = .ok (.lreturn, 1) := by decide +kernel
theorem dMo_rank_38 : decode cMo_rank 38 = .ok (.aload_n 0, 1) := by decide +kernel
theorem dMo_rank_39 : decode cMo_rank 39 = .ok (.invokevirtual 173, 3) := by decide +kernel
theorem dMo_rank_42 : decode cMo_rank 42 = .ok (.ifCond .eq 7, 3) := by decide +kernel
theorem dMo_rank_45 : decode cMo_rank 45 = .ok (.ldc2_w 177, 3) := by decide +kernel
theorem dMo_rank_48 : decode cMo_rank 48 = .ok (.lreturn, 1) := by decide +kernel
theorem dMo_rank_49 : decode cMo_rank 49 = .ok (.aload_n 0, 1) := by decide +kernel
theorem dMo_rank_50 : decode cMo_rank 50 = .ok (.invokevirtual 194, 3) := by decide +kernel
theorem dMo_rank_53 : decode cMo_rank 53 = .ok (.iload_n 1, 1) := by decide +kernel
theorem dMo_rank_54 : decode cMo_rank 54 = .ok (.aload_n 0, 1) := by decide +kernel
theorem dMo_rank_55 : decode cMo_rank 55 = .ok (.getfield 191, 3) := by decide +kernel
theorem dMo_rank_58 : decode cMo_rank 58 = .ok (.if_icmp .lt 7, 3) := by decide +kernel
theorem dMo_rank_61 : decode cMo_rank 61 = .ok (.ldc2_w 185, 3) := by decide +kernel
theorem dMo_rank_64 : decode cMo_rank 64 = .ok (.lreturn, 1) := by decide +kernel
theorem dMo_rank_65 : decode cMo_rank 65 = .ok (.iload_n 2, 1) := by decide +kernel
theorem dMo_rank_66 : decode cMo_rank 66 = .ok (.iconst (-1), 1) := by decide +kernel
theorem dMo_rank_67 : decode cMo_rank 67 = .ok (.if_icmp .ne 10, 3) := by decide +kernel
theorem dMo_rank_70 : decode cMo_rank 70 = .ok (.aload_n 0, 1) := by decide +kernel
theorem dMo_rank_71 : decode cMo_rank 71 = .ok (.getfield 47, 3) := by decide +kernel
theorem dMo_rank_74 : decode cMo_rank 74 = .ok (.iload_n 1, 1) := by decide +kernel
theorem dMo_rank_75 : decode cMo_rank 75 = .ok (.laload, 1) := by decide +kernel
theorem dMo_rank_76 : decode cMo_rank 76 = .ok (.lreturn, 1) := by decide +kernel
theorem dMo_rank_77 : decode cMo_rank 77 = .ok (.aload_n 0, 1) := by decide +kernel
theorem dMo_rank_78 : decode cMo_rank 78 = .ok (.aload_n 0, 1) := by decide +kernel
theorem dMo_rank_79 : decode cMo_rank 79 = .ok (.getfield 50, 3) := by decide +kernel
theorem dMo_rank_82 : decode cMo_rank 82 = .ok (.iload_n 1, 1) := by decide +kernel
theorem dMo_rank_83 : decode cMo_rank 83 = .ok (.iaload, 1) := by decide +kernel
theorem dMo_rank_84 : decode cMo_rank 84 = .ok (.invokevirtual 163, 3) := by decide +kernel
theorem dMo_rank_87 : decode cMo_rank 87 = .ok (.aload_n 0, 1) := by decide +kernel
theorem dMo_rank_88 : decode cMo_rank 88 = .ok (.getfield 44, 3) := by decide +kernel
theorem dMo_rank_91 : decode cMo_rank 91 = .ok (.iload_n 2, 1) := by decide +kernel
theorem dMo_rank_92 : decode cMo_rank 92 = .ok (.iaload, 1) := by decide +kernel
theorem dMo_rank_93 : decode cMo_rank 93 = .ok (.i2l, 1) := by decide +kernel
theorem dMo_rank_94 : decode cMo_rank 94 = .ok (.lreturn, 1) := by decide +kernel
abbrev cMo_support : ByteArray := prog_9_method_44_code
def yMo_support : MethodName := ⟨RMo, "support", "()I"⟩
theorem dMo_support_0 : decode cMo_support 0 = .ok (.aload_n 0, 1) := by decide +kernel
theorem dMo_support_1 : decode cMo_support 1 = .ok (.iconst 0, 1) := by decide +kernel
theorem dMo_support_2 : decode cMo_support 2 = .ok (.putfield 65, 3) := by decide +kernel
theorem dMo_support_5 : decode cMo_support 5 = .ok (.aload_n 0, 1) := by decide +kernel
theorem dMo_support_6 : decode cMo_support 6 = .ok (.invokevirtual 173, 3) := by decide +kernel
theorem dMo_support_9 : decode cMo_support 9 = .ok (.ifCond .eq 6, 3) := by decide +kernel
theorem dMo_support_12 : decode cMo_support 12 = .ok (.bipush (-4), 2) := by decide +kernel
theorem dMo_support_14 : decode cMo_support 14 = .ok (.ireturn, 1) := by decide +kernel
theorem dMo_support_15 : decode cMo_support 15 = .ok (.iconst 0, 1) := by decide +kernel
theorem dMo_support_16 : decode cMo_support 16 = .ok (.istore_n 1, 1) := by decide +kernel
theorem dMo_support_17 : decode cMo_support 17 = .ok (.iconst 0, 1) := by decide +kernel
theorem dMo_support_18 : decode cMo_support 18 = .ok (.istore_n 2, 1) := by decide +kernel
theorem dMo_support_19 : decode cMo_support 19 = .ok (.iload_n 2, 1) := by decide +kernel
theorem dMo_support_20 : decode cMo_support 20 = .ok (.aload_n 0, 1) := by decide +kernel
theorem dMo_support_21 : decode cMo_support 21 = .ok (.getfield 58, 3) := by decide +kernel
theorem dMo_support_24 : decode cMo_support 24 = .ok (.if_icmp .ge 27, 3) := by decide +kernel
theorem dMo_support_27 : decode cMo_support 27 = .ok (.aload_n 0, 1) := by decide +kernel
theorem dMo_support_28 : decode cMo_support 28 = .ok (.iload_n 2, 1) := by decide +kernel
theorem dMo_support_29 : decode cMo_support 29 = .ok (.invokevirtual 169, 3) := by decide +kernel
theorem dMo_support_32 : decode cMo_support 32 = .ok (.lconst 0, 1) := by decide +kernel
theorem dMo_support_33 : decode cMo_support 33 = .ok (.lcmp, 1) := by decide +kernel
theorem dMo_support_34 : decode cMo_support 34 = .ok (.ifCond .le 9, 3) := by decide +kernel
theorem dMo_support_37 : decode cMo_support 37 = .ok (.iload_n 1, 1) := by decide +kernel
theorem dMo_support_38 : decode cMo_support 38 = .ok (.iconst 1, 1) := by decide +kernel
theorem dMo_support_39 : decode cMo_support 39 = .ok (.iadd, 1) := by decide +kernel
theorem dMo_support_40 : decode cMo_support 40 = .ok (.goto 4, 3) := by decide +kernel
theorem dMo_support_43 : decode cMo_support 43 = .ok (.iload_n 1, 1) := by decide +kernel
theorem dMo_support_44 : decode cMo_support 44 = .ok (.istore_n 1, 1) := by decide +kernel
theorem dMo_support_45 : decode cMo_support 45 = .ok (.iinc 2 1, 3) := by decide +kernel
theorem dMo_support_48 : decode cMo_support 48 = .ok (.goto (-29), 3) := by decide +kernel
theorem dMo_support_51 : decode cMo_support 51 = .ok (.iload_n 1, 1) := by decide +kernel
theorem dMo_support_52 : decode cMo_support 52 = .ok (.ireturn, 1) := by decide +kernel
abbrev cMo_among : ByteArray := prog_9_method_45_code
def yMo_among : MethodName := ⟨RMo, "among", "(II)I"⟩
theorem dMo_among_0 : decode cMo_among 0 = .ok (.aload_n 0, 1) := by decide +kernel
theorem dMo_among_1 : decode cMo_among 1 = .ok (.iconst 0, 1) := by decide +kernel
theorem dMo_among_2 : decode cMo_among 2 = .ok (.putfield 65, 3) := by decide +kernel
theorem dMo_among_5 : decode cMo_among 5 = .ok (.aload_n 0, 1) := by decide +kernel
theorem dMo_among_6 : decode cMo_among 6 = .ok (.iload_n 1, 1) := by decide +kernel
theorem dMo_among_7 : decode cMo_among 7 = .ok (.invokevirtual 104, 3) := by decide +kernel
theorem dMo_among_10 : decode cMo_among 10 = .ok (.ifCond .ne 5, 3) := by decide +kernel
theorem dMo_among_13 : decode cMo_among 13 = .ok (.iconst (-1), 1) := by decide +kernel
theorem dMo_among_14 : decode cMo_among 14 = .ok (.ireturn, 1) := by decide +kernel
theorem dMo_among_15 : decode cMo_among 15 = .ok (.iload_n 2, 1) := by decide +kernel
theorem dMo_among_16 : decode cMo_among 16 = .ok (.i2l, 1) := by decide +kernel
theorem dMo_among_17 : decode cMo_among 17 = .ok (.lconst 0, 1) := by decide +kernel
theorem dMo_among_18 : decode cMo_among 18 = .ok (.aload_n 0, 1) := by decide +kernel
theorem dMo_among_19 : decode cMo_among 19 = .ok (.getfield 7, 3) := by decide +kernel
theorem dMo_among_22 : decode cMo_among 22 = .ok (.iload_n 1, 1) := by decide +kernel
theorem dMo_among_23 : decode cMo_among 23 = .ok (.iaload, 1) := by decide +kernel
theorem dMo_among_24 : decode cMo_among 24 = .ok (.iconst 1, 1) := by decide +kernel
theorem dMo_among_25 : decode cMo_among 25 = .ok (.isub, 1) := by decide +kernel
theorem dMo_among_26 : decode cMo_among 26 = .ok (.i2l, 1) := by decide +kernel
theorem dMo_among_27 : decode cMo_among 27 = .ok (.invokestatic 71, 3) := by decide +kernel
theorem dMo_among_30 : decode cMo_among 30 = .ok (.ifCond .ne 6, 3) := by decide +kernel
theorem dMo_among_33 : decode cMo_among 33 = .ok (.bipush (-2), 2) := by decide +kernel
theorem dMo_among_35 : decode cMo_among 35 = .ok (.ireturn, 1) := by decide +kernel
theorem dMo_among_36 : decode cMo_among 36 = .ok (.aload_n 0, 1) := by decide +kernel
theorem dMo_among_37 : decode cMo_among 37 = .ok (.invokevirtual 173, 3) := by decide +kernel
theorem dMo_among_40 : decode cMo_among 40 = .ok (.ifCond .eq 6, 3) := by decide +kernel
theorem dMo_among_43 : decode cMo_among 43 = .ok (.bipush (-4), 2) := by decide +kernel
theorem dMo_among_45 : decode cMo_among 45 = .ok (.ireturn, 1) := by decide +kernel
theorem dMo_among_46 : decode cMo_among 46 = .ok (.iconst 0, 1) := by decide +kernel
theorem dMo_among_47 : decode cMo_among 47 = .ok (.istore_n 3, 1) := by decide +kernel
theorem dMo_among_48 : decode cMo_among 48 = .ok (.iconst 0, 1) := by decide +kernel
theorem dMo_among_49 : decode cMo_among 49 = .ok (.istore 4, 2) := by decide +kernel
theorem dMo_among_51 : decode cMo_among 51 = .ok (.iload 4, 2) := by decide +kernel
theorem dMo_among_53 : decode cMo_among 53 = .ok (.aload_n 0, 1) := by decide +kernel
theorem dMo_among_54 : decode cMo_among 54 = .ok (.getfield 58, 3) := by decide +kernel
theorem dMo_among_57 : decode cMo_among 57 = .ok (.if_icmp .ge 38, 3) := by decide +kernel
theorem dMo_among_60 : decode cMo_among 60 = .ok (.aload_n 0, 1) := by decide +kernel
theorem dMo_among_61 : decode cMo_among 61 = .ok (.iload 4, 2) := by decide +kernel
theorem dMo_among_63 : decode cMo_among 63 = .ok (.invokevirtual 169, 3) := by decide +kernel
theorem dMo_among_66 : decode cMo_among 66 = .ok (.lconst 0, 1) := by decide +kernel
theorem dMo_among_67 : decode cMo_among 67 = .ok (.lcmp, 1) := by decide +kernel
theorem dMo_among_68 : decode cMo_among 68 = .ok (.ifCond .le 19, 3) := by decide +kernel
theorem dMo_among_71 : decode cMo_among 71 = .ok (.aload_n 0, 1) := by decide +kernel
theorem dMo_among_72 : decode cMo_among 72 = .ok (.getfield 44, 3) := by decide +kernel
theorem dMo_among_75 : decode cMo_among 75 = .ok (.iload_n 1, 1) := by decide +kernel
theorem dMo_among_76 : decode cMo_among 76 = .ok (.iaload, 1) := by decide +kernel
theorem dMo_among_77 : decode cMo_among 77 = .ok (.iload_n 2, 1) := by decide +kernel
theorem dMo_among_78 : decode cMo_among 78 = .ok (.if_icmp .ne 9, 3) := by decide +kernel
theorem dMo_among_81 : decode cMo_among 81 = .ok (.iload_n 3, 1) := by decide +kernel
theorem dMo_among_82 : decode cMo_among 82 = .ok (.iconst 1, 1) := by decide +kernel
theorem dMo_among_83 : decode cMo_among 83 = .ok (.iadd, 1) := by decide +kernel
theorem dMo_among_84 : decode cMo_among 84 = .ok (.goto 4, 3) := by decide +kernel
theorem dMo_among_87 : decode cMo_among 87 = .ok (.iload_n 3, 1) := by decide +kernel
theorem dMo_among_88 : decode cMo_among 88 = .ok (.istore_n 3, 1) := by decide +kernel
theorem dMo_among_89 : decode cMo_among 89 = .ok (.iinc 4 1, 3) := by decide +kernel
theorem dMo_among_92 : decode cMo_among 92 = .ok (.goto (-41), 3) := by decide +kernel
theorem dMo_among_95 : decode cMo_among 95 = .ok (.iload_n 3, 1) := by decide +kernel
theorem dMo_among_96 : decode cMo_among 96 = .ok (.ireturn, 1) := by decide +kernel
abbrev cMo_drawn : ByteArray := prog_9_method_46_code
def yMo_drawn : MethodName := ⟨RMo, "drawn", "(JI)I"⟩
theorem dMo_drawn_0 : decode cMo_drawn 0 = .ok (.aload_n 0, 1) := by decide +kernel
theorem dMo_drawn_1 : decode cMo_drawn 1 = .ok (.iconst 0, 1) := by decide +kernel
theorem dMo_drawn_2 : decode cMo_drawn 2 = .ok (.putfield 65, 3) := by decide +kernel
theorem dMo_drawn_5 : decode cMo_drawn 5 = .ok (.aload_n 0, 1) := by decide +kernel
theorem dMo_drawn_6 : decode cMo_drawn 6 = .ok (.iload_n 3, 1) := by decide +kernel
theorem dMo_drawn_7 : decode cMo_drawn 7 = .ok (.invokevirtual 104, 3) := by decide +kernel
theorem dMo_drawn_10 : decode cMo_drawn 10 = .ok (.ifCond .ne 5, 3) := by decide +kernel
theorem dMo_drawn_13 : decode cMo_drawn 13 = .ok (.iconst (-1), 1) := by decide +kernel
theorem dMo_drawn_14 : decode cMo_drawn 14 = .ok (.ireturn, 1) := by decide +kernel
theorem dMo_drawn_15 : decode cMo_drawn 15 = .ok (.lload_n 1, 1) := by decide +kernel
theorem dMo_drawn_16 : decode cMo_drawn 16 = .ok (.lconst 0, 1) := by decide +kernel
theorem dMo_drawn_17 : decode cMo_drawn 17 = .ok (.lcmp, 1) := by decide +kernel
theorem dMo_drawn_18 : decode cMo_drawn 18 = .ok (.ifCond .ge 6, 3) := by decide +kernel
theorem dMo_drawn_21 : decode cMo_drawn 21 = .ok (.bipush (-2), 2) := by decide +kernel
theorem dMo_drawn_23 : decode cMo_drawn 23 = .ok (.ireturn, 1) := by decide +kernel
theorem dMo_drawn_24 : decode cMo_drawn 24 = .ok (.aload_n 0, 1) := by decide +kernel
theorem dMo_drawn_25 : decode cMo_drawn 25 = .ok (.invokevirtual 173, 3) := by decide +kernel
theorem dMo_drawn_28 : decode cMo_drawn 28 = .ok (.ifCond .eq 6, 3) := by decide +kernel
theorem dMo_drawn_31 : decode cMo_drawn 31 = .ok (.bipush (-4), 2) := by decide +kernel
theorem dMo_drawn_33 : decode cMo_drawn 33 = .ok (.ireturn, 1) := by decide +kernel
theorem dMo_drawn_34 : decode cMo_drawn 34 = .ok (.aload_n 0, 1) := by decide +kernel
theorem dMo_drawn_35 : decode cMo_drawn 35 = .ok (.invokevirtual 179, 3) := by decide +kernel
theorem dMo_drawn_38 : decode cMo_drawn 38 = .ok (.lload_n 1, 1) := by decide +kernel
theorem dMo_drawn_39 : decode cMo_drawn 39 = .ok (.lcmp, 1) := by decide +kernel
theorem dMo_drawn_40 : decode cMo_drawn 40 = .ok (.ifCond .gt 6, 3) := by decide +kernel
theorem dMo_drawn_43 : decode cMo_drawn 43 = .ok (.bipush (-3), 2) := by decide +kernel
theorem dMo_drawn_45 : decode cMo_drawn 45 = .ok (.ireturn, 1) := by decide +kernel
theorem dMo_drawn_46 : decode cMo_drawn 46 = .ok (.lconst 0, 1) := by decide +kernel
theorem dMo_drawn_47 : decode cMo_drawn 47 = .ok (.lstore 4, 2) := by decide +kernel
theorem dMo_drawn_49 : decode cMo_drawn 49 = .ok (.iconst (-1), 1) := by decide +kernel
theorem dMo_drawn_50 : decode cMo_drawn 50 = .ok (.istore 6, 2) := by decide +kernel
theorem dMo_drawn_52 : decode cMo_drawn 52 = .ok (.lload 4, 2) := by decide +kernel
theorem dMo_drawn_54 : decode cMo_drawn 54 = .ok (.lload_n 1, 1) := by decide +kernel
theorem dMo_drawn_55 : decode cMo_drawn 55 = .ok (.lcmp, 1) := by decide +kernel
theorem dMo_drawn_56 : decode cMo_drawn 56 = .ok (.ifCond .gt 20, 3) := by decide +kernel
theorem dMo_drawn_59 : decode cMo_drawn 59 = .ok (.iinc 6 1, 3) := by decide +kernel
theorem dMo_drawn_62 : decode cMo_drawn 62 = .ok (.lload 4, 2) := by decide +kernel
theorem dMo_drawn_64 : decode cMo_drawn 64 = .ok (.aload_n 0, 1) := by decide +kernel
theorem dMo_drawn_65 : decode cMo_drawn 65 = .ok (.iload 6, 2) := by decide +kernel
theorem dMo_drawn_67 : decode cMo_drawn 67 = .ok (.invokevirtual 169, 3) := by decide +kernel
theorem dMo_drawn_70 : decode cMo_drawn 70 = .ok (.ladd, 1) := by decide +kernel
theorem dMo_drawn_71 : decode cMo_drawn 71 = .ok (.lstore 4, 2) := by decide +kernel
theorem dMo_drawn_73 : decode cMo_drawn 73 = .ok (.goto (-21), 3) := by decide +kernel
theorem dMo_drawn_76 : decode cMo_drawn 76 = .ok (.aload_n 0, 1) := by decide +kernel
theorem dMo_drawn_77 : decode cMo_drawn 77 = .ok (.iload 6, 2) := by decide +kernel
theorem dMo_drawn_79 : decode cMo_drawn 79 = .ok (.invokevirtual 163, 3) := by decide +kernel
theorem dMo_drawn_82 : decode cMo_drawn 82 = .ok (.aload_n 0, 1) := by decide +kernel
theorem dMo_drawn_83 : decode cMo_drawn 83 = .ok (.getfield 44, 3) := by decide +kernel
theorem dMo_drawn_86 : decode cMo_drawn 86 = .ok (.iload_n 3, 1) := by decide +kernel
theorem dMo_drawn_87 : decode cMo_drawn 87 = .ok (.iaload, 1) := by decide +kernel
theorem dMo_drawn_88 : decode cMo_drawn 88 = .ok (.ireturn, 1) := by decide +kernel
abbrev cMo_apart : ByteArray := prog_9_method_47_code
def yMo_apart : MethodName := ⟨RMo, "apart", "(III)I"⟩
theorem dMo_apart_0 : decode cMo_apart 0 = .ok (.aload_n 0, 1) := by decide +kernel
theorem dMo_apart_1 : decode cMo_apart 1 = .ok (.iconst 0, 1) := by decide +kernel
theorem dMo_apart_2 : decode cMo_apart 2 = .ok (.putfield 65, 3) := by decide +kernel
theorem dMo_apart_5 : decode cMo_apart 5 = .ok (.aload_n 0, 1) := by decide +kernel
theorem dMo_apart_6 : decode cMo_apart 6 = .ok (.iload_n 1, 1) := by decide +kernel
theorem dMo_apart_7 : decode cMo_apart 7 = .ok (.invokevirtual 104, 3) := by decide +kernel
theorem dMo_apart_10 : decode cMo_apart 10 = .ok (.ifCond .eq 19, 3) := by decide +kernel
theorem dMo_apart_13 : decode cMo_apart 13 = .ok (.aload_n 0, 1) := by decide +kernel
theorem dMo_apart_14 : decode cMo_apart 14 = .ok (.iload_n 2, 1) := by decide +kernel
theorem dMo_apart_15 : decode cMo_apart 15 = .ok (.invokevirtual 104, 3) := by decide +kernel
theorem dMo_apart_18 : decode cMo_apart 18 = .ok (.ifCond .eq 11, 3) := by decide +kernel
theorem dMo_apart_21 : decode cMo_apart 21 = .ok (.aload_n 0, 1) := by decide +kernel
theorem dMo_apart_22 : decode cMo_apart 22 = .ok (.iload_n 3, 1) := by decide +kernel
theorem dMo_apart_23 : decode cMo_apart 23 = .ok (.invokevirtual 82, 3) := by decide +kernel
theorem dMo_apart_26 : decode cMo_apart 26 = .ok (.ifCond .ne 5, 3) := by decide +kernel
theorem dMo_apart_29 : decode cMo_apart 29 = .ok (.iconst (-1), 1) := by decide +kernel
theorem dMo_apart_30 : decode cMo_apart 30 = .ok (.ireturn, 1) := by decide +kernel
theorem dMo_apart_31 : decode cMo_apart 31 = .ok (.iload_n 3, 1) := by decide +kernel
theorem dMo_apart_32 : decode cMo_apart 32 = .ok (.iload_n 1, 1) := by decide +kernel
theorem dMo_apart_33 : decode cMo_apart 33 = .ok (.ishr, 1) := by decide +kernel
theorem dMo_apart_34 : decode cMo_apart 34 = .ok (.iconst 1, 1) := by decide +kernel
theorem dMo_apart_35 : decode cMo_apart 35 = .ok (.iand, 1) := by decide +kernel
theorem dMo_apart_36 : decode cMo_apart 36 = .ok (.iconst 1, 1) := by decide +kernel
theorem dMo_apart_37 : decode cMo_apart 37 = .ok (.if_icmp .eq 12, 3) := by decide +kernel
theorem dMo_apart_40 : decode cMo_apart 40 = .ok (.iload_n 3, 1) := by decide +kernel
theorem dMo_apart_41 : decode cMo_apart 41 = .ok (.iload_n 2, 1) := by decide +kernel
theorem dMo_apart_42 : decode cMo_apart 42 = .ok (.ishr, 1) := by decide +kernel
theorem dMo_apart_43 : decode cMo_apart 43 = .ok (.iconst 1, 1) := by decide +kernel
theorem dMo_apart_44 : decode cMo_apart 44 = .ok (.iand, 1) := by decide +kernel
theorem dMo_apart_45 : decode cMo_apart 45 = .ok (.iconst 1, 1) := by decide +kernel
theorem dMo_apart_46 : decode cMo_apart 46 = .ok (.if_icmp .ne 5, 3) := by decide +kernel
theorem dMo_apart_49 : decode cMo_apart 49 = .ok (.iconst 1, 1) := by decide +kernel
theorem dMo_apart_50 : decode cMo_apart 50 = .ok (.ireturn, 1) := by decide +kernel
theorem dMo_apart_51 : decode cMo_apart 51 = .ok (.aload_n 0, 1) := by decide +kernel
theorem dMo_apart_52 : decode cMo_apart 52 = .ok (.invokevirtual 130, 3) := by decide +kernel
theorem dMo_apart_55 : decode cMo_apart 55 = .ok (.iconst 1, 1) := by decide +kernel
theorem dMo_apart_56 : decode cMo_apart 56 = .ok (.iload_n 1, 1) := by decide +kernel
theorem dMo_apart_57 : decode cMo_apart 57 = .ok (.ishl, 1) := by decide +kernel
theorem dMo_apart_58 : decode cMo_apart 58 = .ok (.istore 4, 2) := by decide +kernel
theorem dMo_apart_60 : decode cMo_apart 60 = .ok (.iconst 1, 1) := by decide +kernel
theorem dMo_apart_61 : decode cMo_apart 61 = .ok (.istore 5, 2) := by decide +kernel
theorem dMo_apart_63 : decode cMo_apart 63 = .ok (.iload 5, 2) := by decide +kernel
theorem dMo_apart_65 : decode cMo_apart 65 = .ok (.ifCond .eq 78, 3) := by decide +kernel
theorem dMo_apart_68 : decode cMo_apart 68 = .ok (.iload 4, 2) := by decide +kernel
theorem dMo_apart_70 : decode cMo_apart 70 = .ok (.istore 6, 2) := by decide +kernel
theorem dMo_apart_72 : decode cMo_apart 72 = .ok (.iconst 0, 1) := by decide +kernel
theorem dMo_apart_73 : decode cMo_apart 73 = .ok (.istore 7, 2) := by decide +kernel
theorem dMo_apart_75 : decode cMo_apart 75 = .ok (.iload 7, 2) := by decide +kernel
theorem dMo_apart_77 : decode cMo_apart 77 = .ok (.aload_n 0, 1) := by decide +kernel
theorem dMo_apart_78 : decode cMo_apart 78 = .ok (.getfield 68, 3) := by decide +kernel
theorem dMo_apart_81 : decode cMo_apart 81 = .ok (.if_icmp .ge 41, 3) := by decide +kernel
theorem dMo_apart_84 : decode cMo_apart 84 = .ok (.iload 4, 2) := by decide +kernel
theorem dMo_apart_86 : decode cMo_apart 86 = .ok (.iload 7, 2) := by decide +kernel
theorem dMo_apart_88 : decode cMo_apart 88 = .ok (.ishr, 1) := by decide +kernel
theorem dMo_apart_89 : decode cMo_apart 89 = .ok (.iconst 1, 1) := by decide +kernel
theorem dMo_apart_90 : decode cMo_apart 90 = .ok (.iand, 1) := by decide +kernel
theorem dMo_apart_91 : decode cMo_apart 91 = .ok (.iconst 1, 1) := by decide +kernel
theorem dMo_apart_92 : decode cMo_apart 92 = .ok (.if_icmp .ne 20, 3) := by decide +kernel
theorem dMo_apart_95 : decode cMo_apart 95 = .ok (.iload 6, 2) := by decide +kernel
theorem dMo_apart_97 : decode cMo_apart 97 = .ok (.aload_n 0, 1) := by decide +kernel
theorem dMo_apart_98 : decode cMo_apart 98 = .ok (.getfield 34, 3) := by decide +kernel
theorem dMo_apart_101 : decode cMo_apart 101 = .ok (.iload 7, 2) := by decide +kernel
theorem dMo_apart_103 : decode cMo_apart 103 = .ok (.iaload, 1) := by decide +kernel
theorem dMo_apart_104 : decode cMo_apart 104 = .ok (.iload_n 3, 1) := by decide +kernel
theorem dMo_apart_105 : decode cMo_apart 105 = .ok (.iconst (-1), 1) := by decide +kernel
theorem dMo_apart_106 : decode cMo_apart 106 = .ok (.ixor, 1) := by decide +kernel
theorem dMo_apart_107 : decode cMo_apart 107 = .ok (.iand, 1) := by decide +kernel
theorem dMo_apart_108 : decode cMo_apart 108 = .ok (.ior, 1) := by decide +kernel
theorem dMo_apart_109 : decode cMo_apart 109 = .ok (.goto 5, 3) := by decide +kernel
theorem dMo_apart_112 : decode cMo_apart 112 = .ok (.iload 6, 2) := by decide +kernel
theorem dMo_apart_114 : decode cMo_apart 114 = .ok (.istore 6, 2) := by decide +kernel
theorem dMo_apart_116 : decode cMo_apart 116 = .ok (.iinc 7 1, 3) := by decide +kernel
theorem dMo_apart_119 : decode cMo_apart 119 = .ok (.goto (-44), 3) := by decide +kernel
theorem dMo_apart_122 : decode cMo_apart 122 = .ok (.iload 6, 2) := by decide +kernel
theorem dMo_apart_124 : decode cMo_apart 124 = .ok (.iload 4, 2) := by decide +kernel
theorem dMo_apart_126 : decode cMo_apart 126 = .ok (.if_icmp .eq 7, 3) := by decide +kernel
theorem dMo_apart_129 : decode cMo_apart 129 = .ok (.iconst 1, 1) := by decide +kernel
theorem dMo_apart_130 : decode cMo_apart 130 = .ok (.goto 4, 3) := by decide +kernel
theorem dMo_apart_133 : decode cMo_apart 133 = .ok (.iconst 0, 1) := by decide +kernel
theorem dMo_apart_134 : decode cMo_apart 134 = .ok (.istore 5, 2) := by decide +kernel
theorem dMo_apart_136 : decode cMo_apart 136 = .ok (.iload 6, 2) := by decide +kernel
theorem dMo_apart_138 : decode cMo_apart 138 = .ok (.istore 4, 2) := by decide +kernel
theorem dMo_apart_140 : decode cMo_apart 140 = .ok (.goto (-77), 3) := by decide +kernel
theorem dMo_apart_143 : decode cMo_apart 143 = .ok (.iload 4, 2) := by decide +kernel
theorem dMo_apart_145 : decode cMo_apart 145 = .ok (.iload_n 2, 1) := by decide +kernel
theorem dMo_apart_146 : decode cMo_apart 146 = .ok (.ishr, 1) := by decide +kernel
theorem dMo_apart_147 : decode cMo_apart 147 = .ok (.iconst 1, 1) := by decide +kernel
theorem dMo_apart_148 : decode cMo_apart 148 = .ok (.iand, 1) := by decide +kernel
theorem dMo_apart_149 : decode cMo_apart 149 = .ok (.iconst 1, 1) := by decide +kernel
theorem dMo_apart_150 : decode cMo_apart 150 = .ok (.if_icmp .ne 7, 3) := by decide +kernel
theorem dMo_apart_153 : decode cMo_apart 153 = .ok (.iconst 0, 1) := by decide +kernel
theorem dMo_apart_154 : decode cMo_apart 154 = .ok (.goto 4, 3) := by decide +kernel
theorem dMo_apart_157 : decode cMo_apart 157 = .ok (.iconst 1, 1) := by decide +kernel
theorem dMo_apart_158 : decode cMo_apart 158 = .ok (.ireturn, 1) := by decide +kernel
abbrev cMo_weight : ByteArray := prog_9_method_48_code
def yMo_weight : MethodName := ⟨RMo, "weight", "(I)J"⟩
theorem dMo_weight_0 : decode cMo_weight 0 = .ok (.aload_n 0, 1) := by decide +kernel
theorem dMo_weight_1 : decode cMo_weight 1 = .ok (.iconst 0, 1) := by decide +kernel
theorem dMo_weight_2 : decode cMo_weight 2 = .ok (.putfield 65, 3) := by decide +kernel
theorem dMo_weight_5 : decode cMo_weight 5 = .ok (.iload_n 1, 1) := by decide +kernel
theorem dMo_weight_6 : decode cMo_weight 6 = .ok (.i2l, 1) := by decide +kernel
theorem dMo_weight_7 : decode cMo_weight 7 = .ok (.lconst 0, 1) := by decide +kernel
theorem dMo_weight_8 : decode cMo_weight 8 = .ok (.aload_n 0, 1) := by decide +kernel
theorem dMo_weight_9 : decode cMo_weight 9 = .ok (.getfield 58, 3) := by decide +kernel
theorem dMo_weight_12 : decode cMo_weight 12 = .ok (.iconst 1, 1) := by decide +kernel
theorem dMo_weight_13 : decode cMo_weight 13 = .ok (.isub, 1) := by decide +kernel
theorem dMo_weight_14 : decode cMo_weight 14 = .ok (.i2l, 1) := by decide +kernel
theorem dMo_weight_15 : decode cMo_weight 15 = .ok (.invokestatic 71, 3) := by decide +kernel
theorem dMo_weight_18 : decode cMo_weight 18 = .ok (.ifCond .eq 11, 3) := by decide +kernel
theorem dMo_weight_21 : decode cMo_weight 21 = .ok (.aload_n 0, 1) := by decide +kernel
theorem dMo_weight_22 : decode cMo_weight 22 = .ok (.iload_n 1, 1) := by decide +kernel
theorem dMo_weight_23 : decode cMo_weight 23 = .ok (.invokevirtual 169, 3) := by decide +kernel
theorem dMo_weight_26 : decode cMo_weight 26 = .ok (.goto 6, 3) := by decide +kernel
theorem dMo_weight_29 : decode cMo_weight 29 = .ok (.ldc2_w 183, 3) := by decide +kernel
theorem dMo_weight_32 : decode cMo_weight 32 = .ok (.lreturn, 1) := by decide +kernel
