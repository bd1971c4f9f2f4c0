abbrev cFa_init : ByteArray := prog_2_method_1_code
def yFa_init : MethodName := ⟨RFa, "<init>", "()V"⟩
theorem dFa_init_0 : decode cFa_init 0 = .ok (.aload_n 0, 1) := by decide +kernel
theorem dFa_init_1 : decode cFa_init 1 = .ok (.invokespecial 3, 3) := by decide +kernel
theorem dFa_init_4 : decode cFa_init 4 = .ok (.aload_n 0, 1) := by decide +kernel
theorem dFa_init_5 : decode cFa_init 5 = .ok (.iconst 4, 1) := by decide +kernel
theorem dFa_init_6 : decode cFa_init 6 = .ok (.newarray .int, 2) := by decide +kernel
theorem dFa_init_8 : decode cFa_init 8 = .ok (.putfield 9, 3) := by decide +kernel
theorem dFa_init_11 : decode cFa_init 11 = .ok (.aload_n 0, 1) := by decide +kernel
theorem dFa_init_12 : decode cFa_init 12 = .ok (.iconst 4, 1) := by decide +kernel
theorem dFa_init_13 : decode cFa_init 13 = .ok (.newarray .int, 2) := by decide +kernel
theorem dFa_init_15 : decode cFa_init 15 = .ok (.putfield 15, 3) := by decide +kernel
theorem dFa_init_18 : decode cFa_init 18 = .ok (.aload_n 0, 1) := by decide +kernel
theorem dFa_init_19 : decode cFa_init 19 = .ok (.sipush 256, 3) := by decide +kernel
theorem dFa_init_22 : decode cFa_init 22 = .ok (.newarray .int, 2) := by decide +kernel
theorem dFa_init_24 : decode cFa_init 24 = .ok (.putfield 18, 3) := by decide +kernel
theorem dFa_init_27 : decode cFa_init 27 = .ok (.aload_n 0, 1) := by decide +kernel
theorem dFa_init_28 : decode cFa_init 28 = .ok (.sipush 256, 3) := by decide +kernel
theorem dFa_init_31 : decode cFa_init 31 = .ok (.newarray .int, 2) := by decide +kernel
theorem dFa_init_33 : decode cFa_init 33 = .ok (.putfield 21, 3) := by decide +kernel
theorem dFa_init_36 : decode cFa_init 36 = .ok (.aload_n 0, 1) := by decide +kernel
theorem dFa_init_37 : decode cFa_init 37 = .ok (.iconst 1, 1) := by decide +kernel
theorem dFa_init_38 : decode cFa_init 38 = .ok (.putfield 24, 3) := by decide +kernel
theorem dFa_init_41 : decode cFa_init 41 = .ok (.aload_n 0, 1) := by decide +kernel
theorem dFa_init_42 : decode cFa_init 42 = .ok (.iconst 1, 1) := by decide +kernel
theorem dFa_init_43 : decode cFa_init 43 = .ok (.putfield 28, 3) := by decide +kernel
theorem dFa_init_46 : decode cFa_init 46 = .ok (.aload_n 0, 1) := by decide +kernel
theorem dFa_init_47 : decode cFa_init 47 = .ok (.getfield 18, 3) := by decide +kernel
theorem dFa_init_50 : decode cFa_init 50 = .ok (.iconst 1, 1) := by decide +kernel
theorem dFa_init_51 : decode cFa_init 51 = .ok (.invokestatic 31, 3) := by decide +kernel
theorem dFa_init_54 : decode cFa_init 54 = .ok (.aload_n 0, 1) := by decide +kernel
theorem dFa_init_55 : decode cFa_init 55 = .ok (.getfield 21, 3) := by decide +kernel
theorem dFa_init_58 : decode cFa_init 58 = .ok (.iconst 1, 1) := by decide +kernel
theorem dFa_init_59 : decode cFa_init 59 = .ok (.invokestatic 31, 3) := by decide +kernel
theorem dFa_init_62 : decode cFa_init 62 = .ok (.return_, 1) := by decide +kernel
abbrev cFa_spanNames : ByteArray := prog_2_method_2_code
def yFa_spanNames : MethodName := ⟨RFa, "spanNames", "(ILTableOrders$Graph;)V"⟩
theorem dFa_spanNames_0 : decode cFa_spanNames 0 = .ok (.iconst 0, 1) := by decide +kernel
theorem dFa_spanNames_1 : decode cFa_spanNames 1 = .ok (.istore_n 3, 1) := by decide +kernel
theorem dFa_spanNames_2 : decode cFa_spanNames 2 = .ok (.iload_n 3, 1) := by decide +kernel
theorem dFa_spanNames_3 : decode cFa_spanNames 3 = .ok (.aload_n 2, 1) := by decide +kernel
theorem dFa_spanNames_4 : decode cFa_spanNames 4 = .ok (.getfield 37, 3) := by decide +kernel
theorem dFa_spanNames_7 : decode cFa_spanNames 7 = .ok (.if_icmp .ge 73, 3) := by decide +kernel
theorem dFa_spanNames_10 : decode cFa_spanNames 10 = .ok (.aload_n 0, 1) := by decide +kernel
theorem dFa_spanNames_11 : decode cFa_spanNames 11 = .ok (.getfield 41, 3) := by decide +kernel
theorem dFa_spanNames_14 : decode cFa_spanNames 14 = .ok (.iconst 4, 1) := by decide +kernel
theorem dFa_spanNames_15 : decode cFa_spanNames 15 = .ok (.if_icmp .ge 65, 3) := by decide +kernel
theorem dFa_spanNames_18 : decode cFa_spanNames 18 = .ok (.iload_n 1, 1) := by decide +kernel
theorem dFa_spanNames_19 : decode cFa_spanNames 19 = .ok (.iconst 1, 1) := by decide +kernel
theorem dFa_spanNames_20 : decode cFa_spanNames 20 = .ok (.iload_n 3, 1) := by decide +kernel
theorem dFa_spanNames_21 : decode cFa_spanNames 21 = .ok (.ishl, 1) := by decide +kernel
theorem dFa_spanNames_22 : decode cFa_spanNames 22 = .ok (.iand, 1) := by decide +kernel
theorem dFa_spanNames_23 : decode cFa_spanNames 23 = .ok (.ifCond .eq 51, 3) := by decide +kernel
theorem dFa_spanNames_26 : decode cFa_spanNames 26 = .ok (.aload_n 0, 1) := by decide +kernel
theorem dFa_spanNames_27 : decode cFa_spanNames 27 = .ok (.getfield 9, 3) := by decide +kernel
theorem dFa_spanNames_30 : decode cFa_spanNames 30 = .ok (.aload_n 0, 1) := by decide +kernel
theorem dFa_spanNames_31 : decode cFa_spanNames 31 = .ok (.getfield 41, 3) := by decide +kernel
theorem dFa_spanNames_34 : decode cFa_spanNames 34 = .ok (.iload_n 3, 1) := by decide +kernel
theorem dFa_spanNames_35 : decode cFa_spanNames 35 = .ok (.iastore, 1) := by decide +kernel
theorem dFa_spanNames_36 : decode cFa_spanNames 36 = .ok (.aload_n 0, 1) := by decide +kernel
theorem dFa_spanNames_37 : decode cFa_spanNames 37 = .ok (.getfield 15, 3) := by decide +kernel
theorem dFa_spanNames_40 : decode cFa_spanNames 40 = .ok (.aload_n 0, 1) := by decide +kernel
theorem dFa_spanNames_41 : decode cFa_spanNames 41 = .ok (.getfield 41, 3) := by decide +kernel
theorem dFa_spanNames_44 : decode cFa_spanNames 44 = .ok (.aload_n 0, 1) := by decide +kernel
theorem dFa_spanNames_45 : decode cFa_spanNames 45 = .ok (.getfield 24, 3) := by decide +kernel
theorem dFa_spanNames_48 : decode cFa_spanNames 48 = .ok (.iastore, 1) := by decide +kernel
theorem dFa_spanNames_49 : decode cFa_spanNames 49 = .ok (.aload_n 0, 1) := by decide +kernel
theorem dFa_spanNames_50 : decode cFa_spanNames 50 = .ok (.dup, 1) := by decide +kernel
theorem dFa_spanNames_51 : decode cFa_spanNames 51 = .ok (.getfield 24, 3) := by decide +kernel
theorem dFa_spanNames_54 : decode cFa_spanNames 54 = .ok (.aload_n 2, 1) := by decide +kernel
theorem dFa_spanNames_55 : decode cFa_spanNames 55 = .ok (.getfield 44, 3) := by decide +kernel
theorem dFa_spanNames_58 : decode cFa_spanNames 58 = .ok (.iload_n 3, 1) := by decide +kernel
theorem dFa_spanNames_59 : decode cFa_spanNames 59 = .ok (.iaload, 1) := by decide +kernel
theorem dFa_spanNames_60 : decode cFa_spanNames 60 = .ok (.imul, 1) := by decide +kernel
theorem dFa_spanNames_61 : decode cFa_spanNames 61 = .ok (.putfield 24, 3) := by decide +kernel
theorem dFa_spanNames_64 : decode cFa_spanNames 64 = .ok (.aload_n 0, 1) := by decide +kernel
theorem dFa_spanNames_65 : decode cFa_spanNames 65 = .ok (.dup, 1) := by decide +kernel
theorem dFa_spanNames_66 : decode cFa_spanNames 66 = .ok (.getfield 41, 3) := by decide +kernel
theorem dFa_spanNames_69 : decode cFa_spanNames 69 = .ok (.iconst 1, 1) := by decide +kernel
theorem dFa_spanNames_70 : decode cFa_spanNames 70 = .ok (.iadd, 1) := by decide +kernel
theorem dFa_spanNames_71 : decode cFa_spanNames 71 = .ok (.putfield 41, 3) := by decide +kernel
theorem dFa_spanNames_74 : decode cFa_spanNames 74 = .ok (.iinc 3 1, 3) := by decide +kernel
theorem dFa_spanNames_77 : decode cFa_spanNames 77 = .ok (.goto (-75), 3) := by decide +kernel
theorem dFa_spanNames_80 : decode cFa_spanNames 80 = .ok (.return_, 1) := by decide +kernel
abbrev cFa_setEntry : ByteArray := prog_2_method_3_code
def yFa_setEntry : MethodName := ⟨RFa, "setEntry", "(II)I"⟩
theorem dFa_setEntry_0 : decode cFa_setEntry 0 = .ok (.aload_n 0, 1) := by decide +kernel
theorem dFa_setEntry_1 : decode cFa_setEntry 1 = .ok (.getfield 18, 3) := by decide +kernel
theorem dFa_setEntry_4 : decode cFa_setEntry 4 = .ok (.iload_n 1, 1) := by decide +kernel
theorem dFa_setEntry_5 : decode cFa_setEntry 5 = .ok (.iaload, 1) := by decide +kernel
theorem dFa_setEntry_6 : decode cFa_setEntry 6 = .ok (.istore_n 3, 1) := by decide +kernel
theorem dFa_setEntry_7 : decode cFa_setEntry 7 = .ok (.aload_n 0, 1) := by decide +kernel
theorem dFa_setEntry_8 : decode cFa_setEntry 8 = .ok (.getfield 18, 3) := by decide +kernel
theorem dFa_setEntry_11 : decode cFa_setEntry 11 = .ok (.iload_n 1, 1) := by decide +kernel
theorem dFa_setEntry_12 : decode cFa_setEntry 12 = .ok (.iload_n 2, 1) := by decide +kernel
theorem dFa_setEntry_13 : decode cFa_setEntry 13 = .ok (.iastore, 1) := by decide +kernel
theorem dFa_setEntry_14 : decode cFa_setEntry 14 = .ok (.aload_n 0, 1) := by decide +kernel
theorem dFa_setEntry_15 : decode cFa_setEntry 15 = .ok (.getfield 21, 3) := by decide +kernel
theorem dFa_setEntry_18 : decode cFa_setEntry 18 = .ok (.iload_n 1, 1) := by decide +kernel
theorem dFa_setEntry_19 : decode cFa_setEntry 19 = .ok (.aload_n 0, 1) := by decide +kernel
theorem dFa_setEntry_20 : decode cFa_setEntry 20 = .ok (.iload_n 2, 1) := by decide +kernel
theorem dFa_setEntry_21 : decode cFa_setEntry 21 = .ok (.invokevirtual 47, 3) := by decide +kernel
theorem dFa_setEntry_24 : decode cFa_setEntry 24 = .ok (.iastore, 1) := by decide +kernel
theorem dFa_setEntry_25 : decode cFa_setEntry 25 = .ok (.iload_n 3, 1) := by decide +kernel
theorem dFa_setEntry_26 : decode cFa_setEntry 26 = .ok (.ireturn, 1) := by decide +kernel
abbrev cFa_setTimes : ByteArray := prog_2_method_4_code
def yFa_setTimes : MethodName := ⟨RFa, "setTimes", "(I)I"⟩
theorem dFa_setTimes_0 : decode cFa_setTimes 0 = .ok (.aload_n 0, 1) := by decide +kernel
theorem dFa_setTimes_1 : decode cFa_setTimes 1 = .ok (.getfield 28, 3) := by decide +kernel
theorem dFa_setTimes_4 : decode cFa_setTimes 4 = .ok (.istore_n 2, 1) := by decide +kernel
theorem dFa_setTimes_5 : decode cFa_setTimes 5 = .ok (.aload_n 0, 1) := by decide +kernel
theorem dFa_setTimes_6 : decode cFa_setTimes 6 = .ok (.iload_n 1, 1) := by decide +kernel
theorem dFa_setTimes_7 : decode cFa_setTimes 7 = .ok (.putfield 28, 3) := by decide +kernel
theorem dFa_setTimes_10 : decode cFa_setTimes 10 = .ok (.iconst 0, 1) := by decide +kernel
theorem dFa_setTimes_11 : decode cFa_setTimes 11 = .ok (.istore_n 3, 1) := by decide +kernel
theorem dFa_setTimes_12 : decode cFa_setTimes 12 = .ok (.iload_n 3, 1) := by decide +kernel
theorem dFa_setTimes_13 : decode cFa_setTimes 13 = .ok (.aload_n 0, 1) := by decide +kernel
theorem dFa_setTimes_14 : decode cFa_setTimes 14 = .ok (.getfield 24, 3) := by decide +kernel
theorem dFa_setTimes_17 : decode cFa_setTimes 17 = .ok (.if_icmp .ge 25, 3) := by decide +kernel
theorem dFa_setTimes_20 : decode cFa_setTimes 20 = .ok (.aload_n 0, 1) := by decide +kernel
theorem dFa_setTimes_21 : decode cFa_setTimes 21 = .ok (.getfield 21, 3) := by decide +kernel
theorem dFa_setTimes_24 : decode cFa_setTimes 24 = .ok (.iload_n 3, 1) := by decide +kernel
theorem dFa_setTimes_25 : decode cFa_setTimes 25 = .ok (.aload_n 0, 1) := by decide +kernel
theorem dFa_setTimes_26 : decode cFa_setTimes 26 = .ok (.aload_n 0, 1) := by decide +kernel
theorem dFa_setTimes_27 : decode cFa_setTimes 27 = .ok (.getfield 18, 3) := by decide +kernel
theorem dFa_setTimes_30 : decode cFa_setTimes 30 = .ok (.iload_n 3, 1) := by decide +kernel
theorem dFa_setTimes_31 : decode cFa_setTimes 31 = .ok (.iaload, 1) := by decide +kernel
theorem dFa_setTimes_32 : decode cFa_setTimes 32 = .ok (.invokevirtual 47, 3) := by decide +kernel
theorem dFa_setTimes_35 : decode cFa_setTimes 35 = .ok (.iastore, 1) := by decide +kernel
theorem dFa_setTimes_36 : decode cFa_setTimes 36 = .ok (.iinc 3 1, 3) := by decide +kernel
theorem dFa_setTimes_39 : decode cFa_setTimes 39 = .ok (.goto (-27), 3) := by decide +kernel
theorem dFa_setTimes_42 : decode cFa_setTimes 42 = .ok (.iload_n 2, 1) := by decide +kernel
theorem dFa_setTimes_43 : decode cFa_setTimes 43 = .ok (.ireturn, 1) := by decide +kernel
abbrev cFa_power : ByteArray := prog_2_method_5_code
def yFa_power : MethodName := ⟨RFa, "power", "(I)I"⟩
theorem dFa_power_0 : decode cFa_power 0 = .ok (.iconst 1, 1) := by decide +kernel
theorem dFa_power_1 : decode cFa_power 1 = .ok (.istore_n 2, 1) := by decide +kernel
theorem dFa_power_2 : decode cFa_power 2 = .ok (.iconst 0, 1) := by decide +kernel
theorem dFa_power_3 : decode cFa_power 3 = .ok (.istore_n 3, 1) := by decide +kernel
theorem dFa_power_4 : decode cFa_power 4 = .ok (.iload_n 3, 1) := by decide +kernel
theorem dFa_power_5 : decode cFa_power 5 = .ok (.aload_n 0, 1) := by decide +kernel
theorem dFa_power_6 : decode cFa_power 6 = .ok (.getfield 28, 3) := by decide +kernel
theorem dFa_power_9 : decode cFa_power 9 = .ok (.if_icmp .ge 13, 3) := by decide +kernel
theorem dFa_power_12 : decode cFa_power 12 = .ok (.iload_n 2, 1) := by decide +kernel
theorem dFa_power_13 : decode cFa_power 13 = .ok (.iload_n 1, 1) := by decide +kernel
theorem dFa_power_14 : decode cFa_power 14 = .ok (.imul, 1) := by decide +kernel
theorem dFa_power_15 : decode cFa_power 15 = .ok (.istore_n 2, 1) := by decide +kernel
theorem dFa_power_16 : decode cFa_power 16 = .ok (.iinc 3 1, 3) := by decide +kernel
theorem dFa_power_19 : decode cFa_power 19 = .ok (.goto (-15), 3) := by decide +kernel
theorem dFa_power_22 : decode cFa_power 22 = .ok (.iload_n 2, 1) := by decide +kernel
theorem dFa_power_23 : decode cFa_power 23 = .ok (.ireturn, 1) := by decide +kernel
abbrev cFa_entryAt : ByteArray := prog_2_method_6_code
def yFa_entryAt : MethodName := ⟨RFa, "entryAt", "([I)I"⟩
theorem dFa_entryAt_0 : decode cFa_entryAt 0 = .ok (.iconst 0, 1) := by decide +kernel
theorem dFa_entryAt_1 : decode cFa_entryAt 1 = .ok (.istore_n 2, 1) := by decide +kernel
theorem dFa_entryAt_2 : decode cFa_entryAt 2 = .ok (.iconst 0, 1) := by decide +kernel
theorem dFa_entryAt_3 : decode cFa_entryAt 3 = .ok (.istore_n 3, 1) := by decide +kernel
theorem dFa_entryAt_4 : decode cFa_entryAt 4 = .ok (.iload_n 3, 1) := by decide +kernel
theorem dFa_entryAt_5 : decode cFa_entryAt 5 = .ok (.aload_n 0, 1) := by decide +kernel
theorem dFa_entryAt_6 : decode cFa_entryAt 6 = .ok (.getfield 41, 3) := by decide +kernel
theorem dFa_entryAt_9 : decode cFa_entryAt 9 = .ok (.if_icmp .ge 27, 3) := by decide +kernel
theorem dFa_entryAt_12 : decode cFa_entryAt 12 = .ok (.iload_n 2, 1) := by decide +kernel
theorem dFa_entryAt_13 : decode cFa_entryAt 13 = .ok (.aload_n 1, 1) := by decide +kernel
theorem dFa_entryAt_14 : decode cFa_entryAt 14 = .ok (.aload_n 0, 1) := by decide +kernel
theorem dFa_entryAt_15 : decode cFa_entryAt 15 = .ok (.getfield 9, 3) := by decide +kernel
theorem dFa_entryAt_18 : decode cFa_entryAt 18 = .ok (.iload_n 3, 1) := by decide +kernel
theorem dFa_entryAt_19 : decode cFa_entryAt 19 = .ok (.iaload, 1) := by decide +kernel
theorem dFa_entryAt_20 : decode cFa_entryAt 20 = .ok (.iaload, 1) := by decide +kernel
theorem dFa_entryAt_21 : decode cFa_entryAt 21 = .ok (.aload_n 0, 1) := by decide +kernel
theorem dFa_entryAt_22 : decode cFa_entryAt 22 = .ok (.getfield 15, 3) := by decide +kernel
theorem dFa_entryAt_25 : decode cFa_entryAt 25 = .ok (.iload_n 3, 1) := by decide +kernel
theorem dFa_entryAt_26 : decode cFa_entryAt 26 = .ok (.iaload, 1) := by decide +kernel
theorem dFa_entryAt_27 : decode cFa_entryAt 27 = .ok (.imul, 1) := by decide +kernel
theorem dFa_entryAt_28 : decode cFa_entryAt 28 = .ok (.iadd, 1) := by decide +kernel
theorem dFa_entryAt_29 : decode cFa_entryAt 29 = .ok (.istore_n 2, 1) := by decide +kernel
theorem dFa_entryAt_30 : decode cFa_entryAt 30 = .ok (.iinc 3 1, 3) := by decide +kernel
theorem dFa_entryAt_33 : decode cFa_entryAt 33 = .ok (.goto (-29), 3) := by decide +kernel
theorem dFa_entryAt_36 : decode cFa_entryAt 36 = .ok (.iload_n 2, 1) := by decide +kernel
theorem dFa_entryAt_37 : decode cFa_entryAt 37 = .ok (.ireturn, 1) := by decide +kernel
abbrev cFa_powerAt : ByteArray := prog_2_method_7_code
def yFa_powerAt : MethodName := ⟨RFa, "powerAt", "([I)I"⟩
theorem dFa_powerAt_0 : decode cFa_powerAt 0 = .ok (.aload_n 0, 1) := by decide +kernel
theorem dFa_powerAt_1 : decode cFa_powerAt 1 = .ok (.aload_n 1, 1) := by decide +kernel
theorem dFa_powerAt_2 : decode cFa_powerAt 2 = .ok (.invokevirtual 51, 3) := by decide +kernel
theorem dFa_powerAt_5 : decode cFa_powerAt 5 = .ok (.istore_n 2, 1) := by decide +kernel
theorem dFa_powerAt_6 : decode cFa_powerAt 6 = .ok (.iload_n 2, 1) := by decide +kernel
theorem dFa_powerAt_7 : decode cFa_powerAt 7 = .ok (.aload_n 0, 1) := by decide +kernel
theorem dFa_powerAt_8 : decode cFa_powerAt 8 = .ok (.getfield 24, 3) := by decide +kernel
theorem dFa_powerAt_11 : decode cFa_powerAt 11 = .ok (.if_icmp .ge 12, 3) := by decide +kernel
theorem dFa_powerAt_14 : decode cFa_powerAt 14 = .ok (.aload_n 0, 1) := by decide +kernel
theorem dFa_powerAt_15 : decode cFa_powerAt 15 = .ok (.getfield 21, 3) := by decide +kernel
theorem dFa_powerAt_18 : decode cFa_powerAt 18 = .ok (.iload_n 2, 1) := by decide +kernel
theorem dFa_powerAt_19 : decode cFa_powerAt 19 = .ok (.iaload, 1) := by decide +kernel
theorem dFa_powerAt_20 : decode cFa_powerAt 20 = .ok (.goto 4, 3) := by decide +kernel
theorem dFa_powerAt_23 : decode cFa_powerAt 23 = .ok (.iconst 0, 1) := by decide +kernel
theorem dFa_powerAt_24 : decode cFa_powerAt 24 = .ok (.ireturn, 1) := by decide +kernel
abbrev cFa_multiply : ByteArray := prog_2_method_8_code
def yFa_multiply : MethodName := ⟨RFa, "multiply", "([JII[I)V"⟩
theorem dFa_multiply_0 : decode cFa_multiply 0 = .ok (.aload_n 0, 1) := by decide +kernel
theorem dFa_multiply_1 : decode cFa_multiply 1 = .ok (.getfield 41, 3) := by decide +kernel
theorem dFa_multiply_4 : decode cFa_multiply 4 = .ok (.ifCond .ne 7, 3) := by decide +kernel
theorem dFa_multiply_7 : decode cFa_multiply 7 = .ok (.iconst 0, 1) := by decide +kernel
theorem dFa_multiply_8 : decode cFa_multiply 8 = .ok (.goto 14, 3) := by decide +kernel
theorem dFa_multiply_11 : decode cFa_multiply 11 = .ok (.aload_n 0, 1) := by decide +kernel
theorem dFa_multiply_12 : decode cFa_multiply 12 = .ok (.getfield 15, 3) := by decide +kernel
theorem dFa_multiply_15 : decode cFa_multiply 15 = .ok (.aload_n 0, 1) := by decide +kernel
theorem dFa_multiply_16 : decode cFa_multiply 16 = .ok (.getfield 41, 3) := by decide +kernel
theorem dFa_multiply_19 : decode cFa_multiply 19 = .ok (.iconst 1, 1) := by decide +kernel
theorem dFa_multiply_20 : decode cFa_multiply 20 = .ok (.isub, 1) := by decide +kernel
theorem dFa_multiply_21 : decode cFa_multiply 21 = .ok (.iaload, 1) := by decide +kernel
theorem dFa_multiply_22 : decode cFa_multiply 22 = .ok (.istore 5, 2) := by decide +kernel
theorem dFa_multiply_24 : decode cFa_multiply 24 = .ok (.aload_n 0, 1) := by decide +kernel
theorem dFa_multiply_25 : decode cFa_multiply 25 = .ok (.aload 4, 2) := by decide +kernel
theorem dFa_multiply_27 : decode cFa_multiply 27 = .ok (.invokevirtual 51, 3) := by decide +kernel
theorem dFa_multiply_30 : decode cFa_multiply 30 = .ok (.istore 6, 2) := by decide +kernel
theorem dFa_multiply_32 : decode cFa_multiply 32 = .ok (.iconst 0, 1) := by decide +kernel
theorem dFa_multiply_33 : decode cFa_multiply 33 = .ok (.istore 7, 2) := by decide +kernel
theorem dFa_multiply_35 : decode cFa_multiply 35 = .ok (.iload 7, 2) := by decide +kernel
theorem dFa_multiply_37 : decode cFa_multiply 37 = .ok (.iload_n 3, 1) := by decide +kernel
theorem dFa_multiply_38 : decode cFa_multiply 38 = .ok (.if_icmp .ge 42, 3) := by decide +kernel
theorem dFa_multiply_41 : decode cFa_multiply 41 = .ok (.iload 6, 2) := by decide +kernel
theorem dFa_multiply_43 : decode cFa_multiply 43 = .ok (.aload_n 0, 1) := by decide +kernel
theorem dFa_multiply_44 : decode cFa_multiply 44 = .ok (.getfield 24, 3) := by decide +kernel
theorem dFa_multiply_47 : decode cFa_multiply 47 = .ok (.if_icmp .ge 33, 3) := by decide +kernel
theorem dFa_multiply_50 : decode cFa_multiply 50 = .ok (.aload_n 1, 1) := by decide +kernel
theorem dFa_multiply_51 : decode cFa_multiply 51 = .ok (.iload_n 2, 1) := by decide +kernel
theorem dFa_multiply_52 : decode cFa_multiply 52 = .ok (.iload 7, 2) := by decide +kernel
theorem dFa_multiply_54 : decode cFa_multiply 54 = .ok (.iadd, 1) := by decide +kernel
theorem dFa_multiply_55 : decode cFa_multiply 55 = .ok (.dup2, 1) := by decide +kernel
theorem dFa_multiply_56 : decode cFa_multiply 56 = .ok (.laload, 1) := by decide +kernel
theorem dFa_multiply_57 : decode cFa_multiply 57 = .ok (.aload_n 0, 1) := by decide +kernel
theorem dFa_multiply_58 : decode cFa_multiply 58 = .ok (.getfield 21, 3) := by decide +kernel
theorem dFa_multiply_61 : decode cFa_multiply 61 = .ok (.iload 6, 2) := by decide +kernel
theorem dFa_multiply_63 : decode cFa_multiply 63 = .ok (.iaload, 1) := by decide +kernel
theorem dFa_multiply_64 : decode cFa_multiply 64 = .ok (.i2l, 1) := by decide +kernel
theorem dFa_multiply_65 : decode cFa_multiply 65 = .ok (.lmul, 1) := by decide +kernel
theorem dFa_multiply_66 : decode cFa_multiply 66 = .ok (.lastore, 1) := by decide +kernel
theorem dFa_multiply_67 : decode cFa_multiply 67 = .ok (.iload 6, 2) := by decide +kernel
theorem dFa_multiply_69 : decode cFa_multiply 69 = .ok (.iload 5, 2) := by decide +kernel
theorem dFa_multiply_71 : decode cFa_multiply 71 = .ok (.iadd, 1) := by decide +kernel
theorem dFa_multiply_72 : decode cFa_multiply 72 = .ok (.istore 6, 2) := by decide +kernel
theorem dFa_multiply_74 : decode cFa_multiply 74 = .ok (.iinc 7 1, 3) := by decide +kernel
theorem dFa_multiply_77 : decode cFa_multiply 77 = .ok (.goto (-42), 3) := by decide +kernel
theorem dFa_multiply_80 : decode cFa_multiply 80 = .ok (.return_, 1) := by decide +kernel
