abbrev cFa_init : ByteArray := prog_2_method_1_code
def yFa_init : MethodName := ⟨RFa, "<init>", "(ILTableOrders$Graph;LTableOrders$Factor;)V"⟩
theorem dFa_init_0 : decode cFa_init 0 = .ok (.aload_n 0, 1) := by decide +kernel
theorem dFa_init_1 : decode cFa_init 1 = .ok (.invokespecial 1, 3) := by decide +kernel
theorem dFa_init_4 : decode cFa_init 4 = .ok (.aload_n 0, 1) := by decide +kernel
theorem dFa_init_5 : decode cFa_init 5 = .ok (.iconst 1, 1) := by decide +kernel
theorem dFa_init_6 : decode cFa_init 6 = .ok (.putfield 7, 3) := by decide +kernel
theorem dFa_init_9 : decode cFa_init 9 = .ok (.aload_n 0, 1) := by decide +kernel
theorem dFa_init_10 : decode cFa_init 10 = .ok (.iload_n 1, 1) := by decide +kernel
theorem dFa_init_11 : decode cFa_init 11 = .ok (.invokestatic 13, 3) := by decide +kernel
theorem dFa_init_14 : decode cFa_init 14 = .ok (.newarray .int, 2) := by decide +kernel
theorem dFa_init_16 : decode cFa_init 16 = .ok (.putfield 19, 3) := by decide +kernel
theorem dFa_init_19 : decode cFa_init 19 = .ok (.aload_n 0, 1) := by decide +kernel
theorem dFa_init_20 : decode cFa_init 20 = .ok (.aload_n 0, 1) := by decide +kernel
theorem dFa_init_21 : decode cFa_init 21 = .ok (.getfield 19, 3) := by decide +kernel
theorem dFa_init_24 : decode cFa_init 24 = .ok (.arraylength, 1) := by decide +kernel
theorem dFa_init_25 : decode cFa_init 25 = .ok (.newarray .int, 2) := by decide +kernel
theorem dFa_init_27 : decode cFa_init 27 = .ok (.putfield 23, 3) := by decide +kernel
theorem dFa_init_30 : decode cFa_init 30 = .ok (.iconst 1, 1) := by decide +kernel
theorem dFa_init_31 : decode cFa_init 31 = .ok (.istore 4, 2) := by decide +kernel
theorem dFa_init_33 : decode cFa_init 33 = .ok (.iconst 0, 1) := by decide +kernel
theorem dFa_init_34 : decode cFa_init 34 = .ok (.istore 5, 2) := by decide +kernel
theorem dFa_init_36 : decode cFa_init 36 = .ok (.iconst 0, 1) := by decide +kernel
theorem dFa_init_37 : decode cFa_init 37 = .ok (.istore 6, 2) := by decide +kernel
theorem dFa_init_39 : decode cFa_init 39 = .ok (.iload 6, 2) := by decide +kernel
theorem dFa_init_41 : decode cFa_init 41 = .ok (.aload_n 2, 1) := by decide +kernel
theorem dFa_init_42 : decode cFa_init 42 = .ok (.getfield 26, 3) := by decide +kernel
theorem dFa_init_45 : decode cFa_init 45 = .ok (.if_icmp .ge 61, 3) := by decide +kernel
theorem dFa_init_48 : decode cFa_init 48 = .ok (.iload 5, 2) := by decide +kernel
theorem dFa_init_50 : decode cFa_init 50 = .ok (.aload_n 0, 1) := by decide +kernel
theorem dFa_init_51 : decode cFa_init 51 = .ok (.getfield 19, 3) := by decide +kernel
theorem dFa_init_54 : decode cFa_init 54 = .ok (.arraylength, 1) := by decide +kernel
theorem dFa_init_55 : decode cFa_init 55 = .ok (.if_icmp .ge 51, 3) := by decide +kernel
theorem dFa_init_58 : decode cFa_init 58 = .ok (.iload_n 1, 1) := by decide +kernel
theorem dFa_init_59 : decode cFa_init 59 = .ok (.iconst 1, 1) := by decide +kernel
theorem dFa_init_60 : decode cFa_init 60 = .ok (.iload 6, 2) := by decide +kernel
theorem dFa_init_62 : decode cFa_init 62 = .ok (.ishl, 1) := by decide +kernel
theorem dFa_init_63 : decode cFa_init 63 = .ok (.iand, 1) := by decide +kernel
theorem dFa_init_64 : decode cFa_init 64 = .ok (.ifCond .eq 36, 3) := by decide +kernel
theorem dFa_init_67 : decode cFa_init 67 = .ok (.aload_n 0, 1) := by decide +kernel
theorem dFa_init_68 : decode cFa_init 68 = .ok (.getfield 19, 3) := by decide +kernel
theorem dFa_init_71 : decode cFa_init 71 = .ok (.iload 5, 2) := by decide +kernel
theorem dFa_init_73 : decode cFa_init 73 = .ok (.iload 6, 2) := by decide +kernel
theorem dFa_init_75 : decode cFa_init 75 = .ok (.iastore, 1) := by decide +kernel
theorem dFa_init_76 : decode cFa_init 76 = .ok (.aload_n 0, 1) := by decide +kernel
theorem dFa_init_77 : decode cFa_init 77 = .ok (.getfield 23, 3) := by decide +kernel
theorem dFa_init_80 : decode cFa_init 80 = .ok (.iload 5, 2) := by decide +kernel
theorem dFa_init_82 : decode cFa_init 82 = .ok (.iload 4, 2) := by decide +kernel
theorem dFa_init_84 : decode cFa_init 84 = .ok (.iastore, 1) := by decide +kernel
theorem dFa_init_85 : decode cFa_init 85 = .ok (.iload 4, 2) := by decide +kernel
theorem dFa_init_87 : decode cFa_init 87 = .ok (.aload_n 2, 1) := by decide +kernel
theorem dFa_init_88 : decode cFa_init 88 = .ok (.getfield 30, 3) := by decide +kernel
theorem dFa_init_91 : decode cFa_init 91 = .ok (.iload 6, 2) := by decide +kernel
theorem dFa_init_93 : decode cFa_init 93 = .ok (.iaload, 1) := by decide +kernel
theorem dFa_init_94 : decode cFa_init 94 = .ok (.imul, 1) := by decide +kernel
theorem dFa_init_95 : decode cFa_init 95 = .ok (.istore 4, 2) := by decide +kernel
theorem dFa_init_97 : decode cFa_init 97 = .ok (.iinc 5 1, 3) := by decide +kernel
theorem dFa_init_100 : decode cFa_init 100 = .ok (.iinc 6 1, 3) := by decide +kernel
theorem dFa_init_103 : decode cFa_init 103 = .ok (.goto (-64), 3) := by decide +kernel
theorem dFa_init_106 : decode cFa_init 106 = .ok (.aload_n 0, 1) := by decide +kernel
theorem dFa_init_107 : decode cFa_init 107 = .ok (.iload 4, 2) := by decide +kernel
theorem dFa_init_109 : decode cFa_init 109 = .ok (.newarray .int, 2) := by decide +kernel
theorem dFa_init_111 : decode cFa_init 111 = .ok (.putfield 33, 3) := by decide +kernel
theorem dFa_init_114 : decode cFa_init 114 = .ok (.aload_n 0, 1) := by decide +kernel
theorem dFa_init_115 : decode cFa_init 115 = .ok (.iload 4, 2) := by decide +kernel
theorem dFa_init_117 : decode cFa_init 117 = .ok (.newarray .int, 2) := by decide +kernel
theorem dFa_init_119 : decode cFa_init 119 = .ok (.putfield 36, 3) := by decide +kernel
theorem dFa_init_122 : decode cFa_init 122 = .ok (.aload_n 0, 1) := by decide +kernel
theorem dFa_init_123 : decode cFa_init 123 = .ok (.getfield 33, 3) := by decide +kernel
theorem dFa_init_126 : decode cFa_init 126 = .ok (.iconst 1, 1) := by decide +kernel
theorem dFa_init_127 : decode cFa_init 127 = .ok (.invokestatic 39, 3) := by decide +kernel
theorem dFa_init_130 : decode cFa_init 130 = .ok (.aload_n 0, 1) := by decide +kernel
theorem dFa_init_131 : decode cFa_init 131 = .ok (.getfield 36, 3) := by decide +kernel
theorem dFa_init_134 : decode cFa_init 134 = .ok (.iconst 1, 1) := by decide +kernel
theorem dFa_init_135 : decode cFa_init 135 = .ok (.invokestatic 39, 3) := by decide +kernel
theorem dFa_init_138 : decode cFa_init 138 = .ok (.aload_n 0, 1) := by decide +kernel
theorem dFa_init_139 : decode cFa_init 139 = .ok (.aload_n 3, 1) := by decide +kernel
theorem dFa_init_140 : decode cFa_init 140 = .ok (.putfield 45, 3) := by decide +kernel
theorem dFa_init_143 : decode cFa_init 143 = .ok (.return_, 1) := by decide +kernel
abbrev cFa_setEntry : ByteArray := prog_2_method_2_code
def yFa_setEntry : MethodName := ⟨RFa, "setEntry", "(II)I"⟩
theorem dFa_setEntry_0 : decode cFa_setEntry 0 = .ok (.aload_n 0, 1) := by decide +kernel
theorem dFa_setEntry_1 : decode cFa_setEntry 1 = .ok (.getfield 33, 3) := by decide +kernel
theorem dFa_setEntry_4 : decode cFa_setEntry 4 = .ok (.iload_n 1, 1) := by decide +kernel
theorem dFa_setEntry_5 : decode cFa_setEntry 5 = .ok (.iaload, 1) := by decide +kernel
theorem dFa_setEntry_6 : decode cFa_setEntry 6 = .ok (.istore_n 3, 1) := by decide +kernel
theorem dFa_setEntry_7 : decode cFa_setEntry 7 = .ok (.aload_n 0, 1) := by decide +kernel
theorem dFa_setEntry_8 : decode cFa_setEntry 8 = .ok (.getfield 33, 3) := by decide +kernel
theorem dFa_setEntry_11 : decode cFa_setEntry 11 = .ok (.iload_n 1, 1) := by decide +kernel
theorem dFa_setEntry_12 : decode cFa_setEntry 12 = .ok (.iload_n 2, 1) := by decide +kernel
theorem dFa_setEntry_13 : decode cFa_setEntry 13 = .ok (.iastore, 1) := by decide +kernel
theorem dFa_setEntry_14 : decode cFa_setEntry 14 = .ok (.aload_n 0, 1) := by decide +kernel
theorem dFa_setEntry_15 : decode cFa_setEntry 15 = .ok (.getfield 36, 3) := by decide +kernel
theorem dFa_setEntry_18 : decode cFa_setEntry 18 = .ok (.iload_n 1, 1) := by decide +kernel
theorem dFa_setEntry_19 : decode cFa_setEntry 19 = .ok (.aload_n 0, 1) := by decide +kernel
theorem dFa_setEntry_20 : decode cFa_setEntry 20 = .ok (.iload_n 2, 1) := by decide +kernel
theorem dFa_setEntry_21 : decode cFa_setEntry 21 = .ok (.invokevirtual 49, 3) := by decide +kernel
theorem dFa_setEntry_24 : decode cFa_setEntry 24 = .ok (.iastore, 1) := by decide +kernel
theorem dFa_setEntry_25 : decode cFa_setEntry 25 = .ok (.iload_n 3, 1) := by decide +kernel
theorem dFa_setEntry_26 : decode cFa_setEntry 26 = .ok (.ireturn, 1) := by decide +kernel
abbrev cFa_setTimes : ByteArray := prog_2_method_3_code
def yFa_setTimes : MethodName := ⟨RFa, "setTimes", "(I)I"⟩
theorem dFa_setTimes_0 : decode cFa_setTimes 0 = .ok (.aload_n 0, 1) := by decide +kernel
theorem dFa_setTimes_1 : decode cFa_setTimes 1 = .ok (.getfield 7, 3) := by decide +kernel
theorem dFa_setTimes_4 : decode cFa_setTimes 4 = .ok (.istore_n 2, 1) := by decide +kernel
theorem dFa_setTimes_5 : decode cFa_setTimes 5 = .ok (.aload_n 0, 1) := by decide +kernel
theorem dFa_setTimes_6 : decode cFa_setTimes 6 = .ok (.iload_n 1, 1) := by decide +kernel
theorem dFa_setTimes_7 : decode cFa_setTimes 7 = .ok (.putfield 7, 3) := by decide +kernel
theorem dFa_setTimes_10 : decode cFa_setTimes 10 = .ok (.iconst 0, 1) := by decide +kernel
theorem dFa_setTimes_11 : decode cFa_setTimes 11 = .ok (.istore_n 3, 1) := by decide +kernel
theorem dFa_setTimes_12 : decode cFa_setTimes 12 = .ok (.iload_n 3, 1) := by decide +kernel
theorem dFa_setTimes_13 : decode cFa_setTimes 13 = .ok (.aload_n 0, 1) := by decide +kernel
theorem dFa_setTimes_14 : decode cFa_setTimes 14 = .ok (.getfield 33, 3) := by decide +kernel
theorem dFa_setTimes_17 : decode cFa_setTimes 17 = .ok (.arraylength, 1) := by decide +kernel
theorem dFa_setTimes_18 : decode cFa_setTimes 18 = .ok (.if_icmp .ge 25, 3) := by decide +kernel
theorem dFa_setTimes_21 : decode cFa_setTimes 21 = .ok (.aload_n 0, 1) := by decide +kernel
theorem dFa_setTimes_22 : decode cFa_setTimes 22 = .ok (.getfield 36, 3) := by decide +kernel
theorem dFa_setTimes_25 : decode cFa_setTimes 25 = .ok (.iload_n 3, 1) := by decide +kernel
theorem dFa_setTimes_26 : decode cFa_setTimes 26 = .ok (.aload_n 0, 1) := by decide +kernel
theorem dFa_setTimes_27 : decode cFa_setTimes 27 = .ok (.aload_n 0, 1) := by decide +kernel
theorem dFa_setTimes_28 : decode cFa_setTimes 28 = .ok (.getfield 33, 3) := by decide +kernel
theorem dFa_setTimes_31 : decode cFa_setTimes 31 = .ok (.iload_n 3, 1) := by decide +kernel
theorem dFa_setTimes_32 : decode cFa_setTimes 32 = .ok (.iaload, 1) := by decide +kernel
theorem dFa_setTimes_33 : decode cFa_setTimes 33 = .ok (.invokevirtual 49, 3) := by decide +kernel
theorem dFa_setTimes_36 : decode cFa_setTimes 36 = .ok (.iastore, 1) := by decide +kernel
theorem dFa_setTimes_37 : decode cFa_setTimes 37 = .ok (.iinc 3 1, 3) := by decide +kernel
theorem dFa_setTimes_40 : decode cFa_setTimes 40 = .ok (.goto (-28), 3) := by decide +kernel
theorem dFa_setTimes_43 : decode cFa_setTimes 43 = .ok (.iload_n 2, 1) := by decide +kernel
theorem dFa_setTimes_44 : decode cFa_setTimes 44 = .ok (.ireturn, 1) := by decide +kernel
abbrev cFa_power : ByteArray := prog_2_method_4_code
def yFa_power : MethodName := ⟨RFa, "power", "(I)I"⟩
theorem dFa_power_0 : decode cFa_power 0 = .ok (.iconst 1, 1) := by decide +kernel
theorem dFa_power_1 : decode cFa_power 1 = .ok (.istore_n 2, 1) := by decide +kernel
theorem dFa_power_2 : decode cFa_power 2 = .ok (.iconst 0, 1) := by decide +kernel
theorem dFa_power_3 : decode cFa_power 3 = .ok (.istore_n 3, 1) := by decide +kernel
theorem dFa_power_4 : decode cFa_power 4 = .ok (.iload_n 3, 1) := by decide +kernel
theorem dFa_power_5 : decode cFa_power 5 = .ok (.aload_n 0, 1) := by decide +kernel
theorem dFa_power_6 : decode cFa_power 6 = .ok (.getfield 7, 3) := by decide +kernel
theorem dFa_power_9 : decode cFa_power 9 = .ok (.if_icmp .ge 13, 3) := by decide +kernel
theorem dFa_power_12 : decode cFa_power 12 = .ok (.iload_n 2, 1) := by decide +kernel
theorem dFa_power_13 : decode cFa_power 13 = .ok (.iload_n 1, 1) := by decide +kernel
theorem dFa_power_14 : decode cFa_power 14 = .ok (.imul, 1) := by decide +kernel
theorem dFa_power_15 : decode cFa_power 15 = .ok (.istore_n 2, 1) := by decide +kernel
theorem dFa_power_16 : decode cFa_power 16 = .ok (.iinc 3 1, 3) := by decide +kernel
theorem dFa_power_19 : decode cFa_power 19 = .ok (.goto (-15), 3) := by decide +kernel
theorem dFa_power_22 : decode cFa_power 22 = .ok (.iload_n 2, 1) := by decide +kernel
theorem dFa_power_23 : decode cFa_power 23 = .ok (.ireturn, 1) := by decide +kernel
abbrev cFa_entryAt : ByteArray := prog_2_method_5_code
def yFa_entryAt : MethodName := ⟨RFa, "entryAt", "([I)I"⟩
theorem dFa_entryAt_0 : decode cFa_entryAt 0 = .ok (.iconst 0, 1) := by decide +kernel
theorem dFa_entryAt_1 : decode cFa_entryAt 1 = .ok (.istore_n 2, 1) := by decide +kernel
theorem dFa_entryAt_2 : decode cFa_entryAt 2 = .ok (.iconst 0, 1) := by decide +kernel
theorem dFa_entryAt_3 : decode cFa_entryAt 3 = .ok (.istore_n 3, 1) := by decide +kernel
theorem dFa_entryAt_4 : decode cFa_entryAt 4 = .ok (.iload_n 3, 1) := by decide +kernel
theorem dFa_entryAt_5 : decode cFa_entryAt 5 = .ok (.aload_n 0, 1) := by decide +kernel
theorem dFa_entryAt_6 : decode cFa_entryAt 6 = .ok (.getfield 19, 3) := by decide +kernel
theorem dFa_entryAt_9 : decode cFa_entryAt 9 = .ok (.arraylength, 1) := by decide +kernel
theorem dFa_entryAt_10 : decode cFa_entryAt 10 = .ok (.if_icmp .ge 27, 3) := by decide +kernel
theorem dFa_entryAt_13 : decode cFa_entryAt 13 = .ok (.iload_n 2, 1) := by decide +kernel
theorem dFa_entryAt_14 : decode cFa_entryAt 14 = .ok (.aload_n 1, 1) := by decide +kernel
theorem dFa_entryAt_15 : decode cFa_entryAt 15 = .ok (.aload_n 0, 1) := by decide +kernel
theorem dFa_entryAt_16 : decode cFa_entryAt 16 = .ok (.getfield 19, 3) := by decide +kernel
theorem dFa_entryAt_19 : decode cFa_entryAt 19 = .ok (.iload_n 3, 1) := by decide +kernel
theorem dFa_entryAt_20 : decode cFa_entryAt 20 = .ok (.iaload, 1) := by decide +kernel
theorem dFa_entryAt_21 : decode cFa_entryAt 21 = .ok (.iaload, 1) := by decide +kernel
theorem dFa_entryAt_22 : decode cFa_entryAt 22 = .ok (.aload_n 0, 1) := by decide +kernel
theorem dFa_entryAt_23 : decode cFa_entryAt 23 = .ok (.getfield 23, 3) := by decide +kernel
theorem dFa_entryAt_26 : decode cFa_entryAt 26 = .ok (.iload_n 3, 1) := by decide +kernel
theorem dFa_entryAt_27 : decode cFa_entryAt 27 = .ok (.iaload, 1) := by decide +kernel
theorem dFa_entryAt_28 : decode cFa_entryAt 28 = .ok (.imul, 1) := by decide +kernel
theorem dFa_entryAt_29 : decode cFa_entryAt 29 = .ok (.iadd, 1) := by decide +kernel
theorem dFa_entryAt_30 : decode cFa_entryAt 30 = .ok (.istore_n 2, 1) := by decide +kernel
theorem dFa_entryAt_31 : decode cFa_entryAt 31 = .ok (.iinc 3 1, 3) := by decide +kernel
theorem dFa_entryAt_34 : decode cFa_entryAt 34 = .ok (.goto (-30), 3) := by decide +kernel
theorem dFa_entryAt_37 : decode cFa_entryAt 37 = .ok (.iload_n 2, 1) := by decide +kernel
theorem dFa_entryAt_38 : decode cFa_entryAt 38 = .ok (.ireturn, 1) := by decide +kernel
abbrev cFa_powerAt : ByteArray := prog_2_method_6_code
def yFa_powerAt : MethodName := ⟨RFa, "powerAt", "([I)I"⟩
theorem dFa_powerAt_0 : decode cFa_powerAt 0 = .ok (.aload_n 0, 1) := by decide +kernel
theorem dFa_powerAt_1 : decode cFa_powerAt 1 = .ok (.aload_n 1, 1) := by decide +kernel
theorem dFa_powerAt_2 : decode cFa_powerAt 2 = .ok (.invokevirtual 52, 3) := by decide +kernel
theorem dFa_powerAt_5 : decode cFa_powerAt 5 = .ok (.istore_n 2, 1) := by decide +kernel
theorem dFa_powerAt_6 : decode cFa_powerAt 6 = .ok (.iload_n 2, 1) := by decide +kernel
theorem dFa_powerAt_7 : decode cFa_powerAt 7 = .ok (.aload_n 0, 1) := by decide +kernel
theorem dFa_powerAt_8 : decode cFa_powerAt 8 = .ok (.getfield 36, 3) := by decide +kernel
theorem dFa_powerAt_11 : decode cFa_powerAt 11 = .ok (.arraylength, 1) := by decide +kernel
theorem dFa_powerAt_12 : decode cFa_powerAt 12 = .ok (.if_icmp .ge 12, 3) := by decide +kernel
theorem dFa_powerAt_15 : decode cFa_powerAt 15 = .ok (.aload_n 0, 1) := by decide +kernel
theorem dFa_powerAt_16 : decode cFa_powerAt 16 = .ok (.getfield 36, 3) := by decide +kernel
theorem dFa_powerAt_19 : decode cFa_powerAt 19 = .ok (.iload_n 2, 1) := by decide +kernel
theorem dFa_powerAt_20 : decode cFa_powerAt 20 = .ok (.iaload, 1) := by decide +kernel
theorem dFa_powerAt_21 : decode cFa_powerAt 21 = .ok (.goto 4, 3) := by decide +kernel
theorem dFa_powerAt_24 : decode cFa_powerAt 24 = .ok (.iconst 0, 1) := by decide +kernel
theorem dFa_powerAt_25 : decode cFa_powerAt 25 = .ok (.ireturn, 1) := by decide +kernel
abbrev cFa_multiply : ByteArray := prog_2_method_7_code
def yFa_multiply : MethodName := ⟨RFa, "multiply", "([JII[I)V"⟩
theorem dFa_multiply_0 : decode cFa_multiply 0 = .ok (.aload_n 0, 1) := by decide +kernel
theorem dFa_multiply_1 : decode cFa_multiply 1 = .ok (.getfield 23, 3) := by decide +kernel
theorem dFa_multiply_4 : decode cFa_multiply 4 = .ok (.arraylength, 1) := by decide +kernel
theorem dFa_multiply_5 : decode cFa_multiply 5 = .ok (.ifCond .ne 7, 3) := by decide +kernel
theorem dFa_multiply_8 : decode cFa_multiply 8 = .ok (.iconst 0, 1) := by decide +kernel
theorem dFa_multiply_9 : decode cFa_multiply 9 = .ok (.goto 15, 3) := by decide +kernel
theorem dFa_multiply_12 : decode cFa_multiply 12 = .ok (.aload_n 0, 1) := by decide +kernel
theorem dFa_multiply_13 : decode cFa_multiply 13 = .ok (.getfield 23, 3) := by decide +kernel
theorem dFa_multiply_16 : decode cFa_multiply 16 = .ok (.aload_n 0, 1) := by decide +kernel
theorem dFa_multiply_17 : decode cFa_multiply 17 = .ok (.getfield 23, 3) := by decide +kernel
theorem dFa_multiply_20 : decode cFa_multiply 20 = .ok (.arraylength, 1) := by decide +kernel
theorem dFa_multiply_21 : decode cFa_multiply 21 = .ok (.iconst 1, 1) := by decide +kernel
theorem dFa_multiply_22 : decode cFa_multiply 22 = .ok (.isub, 1) := by decide +kernel
theorem dFa_multiply_23 : decode cFa_multiply 23 = .ok (.iaload, 1) := by decide +kernel
theorem dFa_multiply_24 : decode cFa_multiply 24 = .ok (.istore 5, 2) := by decide +kernel
theorem dFa_multiply_26 : decode cFa_multiply 26 = .ok (.aload_n 0, 1) := by decide +kernel
theorem dFa_multiply_27 : decode cFa_multiply 27 = .ok (.aload 4, 2) := by decide +kernel
theorem dFa_multiply_29 : decode cFa_multiply 29 = .ok (.invokevirtual 52, 3) := by decide +kernel
theorem dFa_multiply_32 : decode cFa_multiply 32 = .ok (.istore 6, 2) := by decide +kernel
theorem dFa_multiply_34 : decode cFa_multiply 34 = .ok (.iconst 0, 1) := by decide +kernel
theorem dFa_multiply_35 : decode cFa_multiply 35 = .ok (.istore 7, 2) := by decide +kernel
theorem dFa_multiply_37 : decode cFa_multiply 37 = .ok (.iload 7, 2) := by decide +kernel
theorem dFa_multiply_39 : decode cFa_multiply 39 = .ok (.iload_n 3, 1) := by decide +kernel
theorem dFa_multiply_40 : decode cFa_multiply 40 = .ok (.if_icmp .ge 43, 3) := by decide +kernel
theorem dFa_multiply_43 : decode cFa_multiply 43 = .ok (.iload 6, 2) := by decide +kernel
theorem dFa_multiply_45 : decode cFa_multiply 45 = .ok (.aload_n 0, 1) := by decide +kernel
theorem dFa_multiply_46 : decode cFa_multiply 46 = .ok (.getfield 36, 3) := by decide +kernel
theorem dFa_multiply_49 : decode cFa_multiply 49 = .ok (.arraylength, 1) := by decide +kernel
theorem dFa_multiply_50 : decode cFa_multiply 50 = .ok (.if_icmp .ge 33, 3) := by decide +kernel
theorem dFa_multiply_53 : decode cFa_multiply 53 = .ok (.aload_n 1, 1) := by decide +kernel
theorem dFa_multiply_54 : decode cFa_multiply 54 = .ok (.iload_n 2, 1) := by decide +kernel
theorem dFa_multiply_55 : decode cFa_multiply 55 = .ok (.iload 7, 2) := by decide +kernel
theorem dFa_multiply_57 : decode cFa_multiply 57 = .ok (.iadd, 1) := by decide +kernel
theorem dFa_multiply_58 : decode cFa_multiply 58 = .ok (.dup2, 1) := by decide +kernel
theorem dFa_multiply_59 : decode cFa_multiply 59 = .ok (.laload, 1) := by decide +kernel
theorem dFa_multiply_60 : decode cFa_multiply 60 = .ok (.aload_n 0, 1) := by decide +kernel
theorem dFa_multiply_61 : decode cFa_multiply 61 = .ok (.getfield 36, 3) := by decide +kernel
theorem dFa_multiply_64 : decode cFa_multiply 64 = .ok (.iload 6, 2) := by decide +kernel
theorem dFa_multiply_66 : decode cFa_multiply 66 = .ok (.iaload, 1) := by decide +kernel
theorem dFa_multiply_67 : decode cFa_multiply 67 = .ok (.i2l, 1) := by decide +kernel
theorem dFa_multiply_68 : decode cFa_multiply 68 = .ok (.lmul, 1) := by decide +kernel
theorem dFa_multiply_69 : decode cFa_multiply 69 = .ok (.lastore, 1) := by decide +kernel
theorem dFa_multiply_70 : decode cFa_multiply 70 = .ok (.iload 6, 2) := by decide +kernel
theorem dFa_multiply_72 : decode cFa_multiply 72 = .ok (.iload 5, 2) := by decide +kernel
theorem dFa_multiply_74 : decode cFa_multiply 74 = .ok (.iadd, 1) := by decide +kernel
theorem dFa_multiply_75 : decode cFa_multiply 75 = .ok (.istore 6, 2) := by decide +kernel
theorem dFa_multiply_77 : decode cFa_multiply 77 = .ok (.iinc 7 1, 3) := by decide +kernel
theorem dFa_multiply_80 : decode cFa_multiply 80 = .ok (.goto (-43), 3) := by decide +kernel
theorem dFa_multiply_83 : decode cFa_multiply 83 = .ok (.return_, 1) := by decide +kernel
