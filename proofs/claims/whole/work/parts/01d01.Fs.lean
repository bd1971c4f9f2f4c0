abbrev cFs_init : ByteArray := prog_3_method_1_code
def yFs_init : MethodName := ⟨RFs, "<init>", "(LTableOrders$Graph;)V"⟩
theorem dFs_init_0 : decode cFs_init 0 = .ok (.aload_n 0, 1) := by decide +kernel
theorem dFs_init_1 : decode cFs_init 1 = .ok (.invokespecial 3, 3) := by decide +kernel
theorem dFs_init_4 : decode cFs_init 4 = .ok (.aload_n 0, 1) := by decide +kernel
theorem dFs_init_5 : decode cFs_init 5 = .ok (.bipush 16, 2) := by decide +kernel
theorem dFs_init_7 : decode cFs_init 7 = .ok (.anewarray 9, 3) := by decide +kernel
theorem dFs_init_10 : decode cFs_init 10 = .ok (.putfield 11, 3) := by decide +kernel
theorem dFs_init_13 : decode cFs_init 13 = .ok (.aload_n 0, 1) := by decide +kernel
theorem dFs_init_14 : decode cFs_init 14 = .ok (.bipush 13, 2) := by decide +kernel
theorem dFs_init_16 : decode cFs_init 16 = .ok (.anewarray 9, 3) := by decide +kernel
theorem dFs_init_19 : decode cFs_init 19 = .ok (.putfield 17, 3) := by decide +kernel
theorem dFs_init_22 : decode cFs_init 22 = .ok (.aload_n 0, 1) := by decide +kernel
theorem dFs_init_23 : decode cFs_init 23 = .ok (.aload_n 1, 1) := by decide +kernel
theorem dFs_init_24 : decode cFs_init 24 = .ok (.putfield 20, 3) := by decide +kernel
theorem dFs_init_27 : decode cFs_init 27 = .ok (.iconst 0, 1) := by decide +kernel
theorem dFs_init_28 : decode cFs_init 28 = .ok (.istore_n 2, 1) := by decide +kernel
theorem dFs_init_29 : decode cFs_init 29 = .ok (.iload_n 2, 1) := by decide +kernel
theorem dFs_init_30 : decode cFs_init 30 = .ok (.bipush 16, 2) := by decide +kernel
theorem dFs_init_32 : decode cFs_init 32 = .ok (.if_icmp .ge 22, 3) := by decide +kernel
theorem dFs_init_35 : decode cFs_init 35 = .ok (.aload_n 0, 1) := by decide +kernel
theorem dFs_init_36 : decode cFs_init 36 = .ok (.getfield 11, 3) := by decide +kernel
theorem dFs_init_39 : decode cFs_init 39 = .ok (.iload_n 2, 1) := by decide +kernel
theorem dFs_init_40 : decode cFs_init 40 = .ok (.new 9, 3) := by decide +kernel
theorem dFs_init_43 : decode cFs_init 43 = .ok (.dup, 1) := by decide +kernel
theorem dFs_init_44 : decode cFs_init 44 = .ok (.invokespecial 24, 3) := by decide +kernel
theorem dFs_init_47 : decode cFs_init 47 = .ok (.aastore, 1) := by decide +kernel
theorem dFs_init_48 : decode cFs_init 48 = .ok (.iinc 2 1, 3) := by decide +kernel
theorem dFs_init_51 : decode cFs_init 51 = .ok (.goto (-22), 3) := by decide +kernel
theorem dFs_init_54 : decode cFs_init 54 = .ok (.return_, 1) := by decide +kernel
abbrev cFs_add : ByteArray := prog_3_method_2_code
def yFs_add : MethodName := ⟨RFs, "add", "(I)I"⟩
theorem dFs_add_0 : decode cFs_add 0 = .ok (.aload_n 0, 1) := by decide +kernel
theorem dFs_add_1 : decode cFs_add 1 = .ok (.getfield 25, 3) := by decide +kernel
theorem dFs_add_4 : decode cFs_add 4 = .ok (.istore_n 2, 1) := by decide +kernel
theorem dFs_add_5 : decode cFs_add 5 = .ok (.iload_n 2, 1) := by decide +kernel
theorem dFs_add_6 : decode cFs_add 6 = .ok (.bipush 16, 2) := by decide +kernel
theorem dFs_add_8 : decode cFs_add 8 = .ok (.if_icmp .ge 12, 3) := by decide +kernel
theorem dFs_add_11 : decode cFs_add 11 = .ok (.aload_n 0, 1) := by decide +kernel
theorem dFs_add_12 : decode cFs_add 12 = .ok (.getfield 11, 3) := by decide +kernel
theorem dFs_add_15 : decode cFs_add 15 = .ok (.iload_n 2, 1) := by decide +kernel
theorem dFs_add_16 : decode cFs_add 16 = .ok (.aaload, 1) := by decide +kernel
theorem dFs_add_17 : decode cFs_add 17 = .ok (.goto 4, 3) := by decide +kernel
theorem dFs_add_20 : decode cFs_add 20 = .ok (.aconst_null, 1) := by decide +kernel
theorem dFs_add_21 : decode cFs_add 21 = .ok (.astore_n 3, 1) := by decide +kernel
theorem dFs_add_22 : decode cFs_add 22 = .ok (.aload_n 3, 1) := by decide +kernel
theorem dFs_add_23 : decode cFs_add 23 = .ok (.ifnull 54, 3) := by decide +kernel
theorem dFs_add_26 : decode cFs_add 26 = .ok (.iload_n 1, 1) := by decide +kernel
theorem dFs_add_27 : decode cFs_add 27 = .ok (.invokestatic 29, 3) := by decide +kernel
theorem dFs_add_30 : decode cFs_add 30 = .ok (.istore 4, 2) := by decide +kernel
theorem dFs_add_32 : decode cFs_add 32 = .ok (.aload_n 3, 1) := by decide +kernel
theorem dFs_add_33 : decode cFs_add 33 = .ok (.iload_n 1, 1) := by decide +kernel
theorem dFs_add_34 : decode cFs_add 34 = .ok (.aload_n 0, 1) := by decide +kernel
theorem dFs_add_35 : decode cFs_add 35 = .ok (.getfield 20, 3) := by decide +kernel
theorem dFs_add_38 : decode cFs_add 38 = .ok (.invokevirtual 33, 3) := by decide +kernel
theorem dFs_add_41 : decode cFs_add 41 = .ok (.aload_n 3, 1) := by decide +kernel
theorem dFs_add_42 : decode cFs_add 42 = .ok (.aload_n 0, 1) := by decide +kernel
theorem dFs_add_43 : decode cFs_add 43 = .ok (.getfield 17, 3) := by decide +kernel
theorem dFs_add_46 : decode cFs_add 46 = .ok (.iload 4, 2) := by decide +kernel
theorem dFs_add_48 : decode cFs_add 48 = .ok (.aaload, 1) := by decide +kernel
theorem dFs_add_49 : decode cFs_add 49 = .ok (.putfield 37, 3) := by decide +kernel
theorem dFs_add_52 : decode cFs_add 52 = .ok (.aload_n 0, 1) := by decide +kernel
theorem dFs_add_53 : decode cFs_add 53 = .ok (.getfield 17, 3) := by decide +kernel
theorem dFs_add_56 : decode cFs_add 56 = .ok (.iload 4, 2) := by decide +kernel
theorem dFs_add_58 : decode cFs_add 58 = .ok (.aload_n 3, 1) := by decide +kernel
theorem dFs_add_59 : decode cFs_add 59 = .ok (.aastore, 1) := by decide +kernel
theorem dFs_add_60 : decode cFs_add 60 = .ok (.aload_n 0, 1) := by decide +kernel
theorem dFs_add_61 : decode cFs_add 61 = .ok (.iload_n 2, 1) := by decide +kernel
theorem dFs_add_62 : decode cFs_add 62 = .ok (.iconst 1, 1) := by decide +kernel
theorem dFs_add_63 : decode cFs_add 63 = .ok (.iadd, 1) := by decide +kernel
theorem dFs_add_64 : decode cFs_add 64 = .ok (.putfield 25, 3) := by decide +kernel
theorem dFs_add_67 : decode cFs_add 67 = .ok (.aload_n 0, 1) := by decide +kernel
theorem dFs_add_68 : decode cFs_add 68 = .ok (.dup, 1) := by decide +kernel
theorem dFs_add_69 : decode cFs_add 69 = .ok (.getfield 41, 3) := by decide +kernel
theorem dFs_add_72 : decode cFs_add 72 = .ok (.iconst 1, 1) := by decide +kernel
theorem dFs_add_73 : decode cFs_add 73 = .ok (.iadd, 1) := by decide +kernel
theorem dFs_add_74 : decode cFs_add 74 = .ok (.putfield 41, 3) := by decide +kernel
theorem dFs_add_77 : decode cFs_add 77 = .ok (.iload_n 2, 1) := by decide +kernel
theorem dFs_add_78 : decode cFs_add 78 = .ok (.ireturn, 1) := by decide +kernel
abbrev cFs_afterLastName : ByteArray := prog_3_method_3_code
def yFs_afterLastName : MethodName := ⟨RFs, "afterLastName", "(I)I"⟩
theorem dFs_afterLastName_0 : decode cFs_afterLastName 0 = .ok (.iconst 0, 1) := by decide +kernel
theorem dFs_afterLastName_1 : decode cFs_afterLastName 1 = .ok (.istore_n 1, 1) := by decide +kernel
theorem dFs_afterLastName_2 : decode cFs_afterLastName 2 = .ok (.iconst 0, 1) := by decide +kernel
theorem dFs_afterLastName_3 : decode cFs_afterLastName 3 = .ok (.istore_n 2, 1) := by decide +kernel
theorem dFs_afterLastName_4 : decode cFs_afterLastName 4 = .ok (.iload_n 2, 1) := by decide +kernel
theorem dFs_afterLastName_5 : decode cFs_afterLastName 5 = .ok (.bipush 12, 2) := by decide +kernel
theorem dFs_afterLastName_7 : decode cFs_afterLastName 7 = .ok (.if_icmp .ge 21, 3) := by decide +kernel
theorem dFs_afterLastName_10 : decode cFs_afterLastName 10 = .ok (.iload_n 0, 1) := by decide +kernel
theorem dFs_afterLastName_11 : decode cFs_afterLastName 11 = .ok (.iconst 1, 1) := by decide +kernel
theorem dFs_afterLastName_12 : decode cFs_afterLastName 12 = .ok (.iload_n 2, 1) := by decide +kernel
theorem dFs_afterLastName_13 : decode cFs_afterLastName 13 = .ok (.ishl, 1) := by decide +kernel
theorem dFs_afterLastName_14 : decode cFs_afterLastName 14 = .ok (.iand, 1) := by decide +kernel
theorem dFs_afterLastName_15 : decode cFs_afterLastName 15 = .ok (.ifCond .eq 7, 3) := by decide +kernel
theorem dFs_afterLastName_18 : decode cFs_afterLastName 18 = .ok (.iload_n 2, 1) := by decide +kernel
theorem dFs_afterLastName_19 : decode cFs_afterLastName 19 = .ok (.iconst 1, 1) := by decide +kernel
theorem dFs_afterLastName_20 : decode cFs_afterLastName 20 = .ok (.iadd, 1) := by decide +kernel
theorem dFs_afterLastName_21 : decode cFs_afterLastName 21 = .ok (.istore_n 1, 1) := by decide +kernel
theorem dFs_afterLastName_22 : decode cFs_afterLastName 22 = .ok (.iinc 2 1, 3) := by decide +kernel
theorem dFs_afterLastName_25 : decode cFs_afterLastName 25 = .ok (.goto (-21), 3) := by decide +kernel
theorem dFs_afterLastName_28 : decode cFs_afterLastName 28 = .ok (.iload_n 1, 1) := by decide +kernel
theorem dFs_afterLastName_29 : decode cFs_afterLastName 29 = .ok (.ireturn, 1) := by decide +kernel
abbrev cFs_numbered : ByteArray := prog_3_method_4_code
def yFs_numbered : MethodName := ⟨RFs, "numbered", "(I)LTableOrders$Factor;"⟩
theorem dFs_numbered_0 : decode cFs_numbered 0 = .ok (.iload_n 1, 1) := by decide +kernel
theorem dFs_numbered_1 : decode cFs_numbered 1 = .ok (.ifCond .lt 11, 3) := by decide +kernel
theorem dFs_numbered_4 : decode cFs_numbered 4 = .ok (.iload_n 1, 1) := by decide +kernel
theorem dFs_numbered_5 : decode cFs_numbered 5 = .ok (.aload_n 0, 1) := by decide +kernel
theorem dFs_numbered_6 : decode cFs_numbered 6 = .ok (.getfield 25, 3) := by decide +kernel
theorem dFs_numbered_9 : decode cFs_numbered 9 = .ok (.if_icmp .lt 7, 3) := by decide +kernel
theorem dFs_numbered_12 : decode cFs_numbered 12 = .ok (.aconst_null, 1) := by decide +kernel
theorem dFs_numbered_13 : decode cFs_numbered 13 = .ok (.goto 9, 3) := by decide +kernel
theorem dFs_numbered_16 : decode cFs_numbered 16 = .ok (.aload_n 0, 1) := by decide +kernel
theorem dFs_numbered_17 : decode cFs_numbered 17 = .ok (.getfield 11, 3) := by decide +kernel
theorem dFs_numbered_20 : decode cFs_numbered 20 = .ok (.iload_n 1, 1) := by decide +kernel
theorem dFs_numbered_21 : decode cFs_numbered 21 = .ok (.aaload, 1) := by decide +kernel
theorem dFs_numbered_22 : decode cFs_numbered 22 = .ok (.areturn, 1) := by decide +kernel
abbrev cFs_setCopies : ByteArray := prog_3_method_5_code
def yFs_setCopies : MethodName := ⟨RFs, "setCopies", "(LTableOrders$Factor;I)I"⟩
theorem dFs_setCopies_0 : decode cFs_setCopies 0 = .ok (.aload_n 1, 1) := by decide +kernel
theorem dFs_setCopies_1 : decode cFs_setCopies 1 = .ok (.iload_n 2, 1) := by decide +kernel
theorem dFs_setCopies_2 : decode cFs_setCopies 2 = .ok (.invokevirtual 44, 3) := by decide +kernel
theorem dFs_setCopies_5 : decode cFs_setCopies 5 = .ok (.istore_n 3, 1) := by decide +kernel
theorem dFs_setCopies_6 : decode cFs_setCopies 6 = .ok (.aload_n 0, 1) := by decide +kernel
theorem dFs_setCopies_7 : decode cFs_setCopies 7 = .ok (.dup, 1) := by decide +kernel
theorem dFs_setCopies_8 : decode cFs_setCopies 8 = .ok (.getfield 41, 3) := by decide +kernel
theorem dFs_setCopies_11 : decode cFs_setCopies 11 = .ok (.iload_n 2, 1) := by decide +kernel
theorem dFs_setCopies_12 : decode cFs_setCopies 12 = .ok (.iload_n 3, 1) := by decide +kernel
theorem dFs_setCopies_13 : decode cFs_setCopies 13 = .ok (.isub, 1) := by decide +kernel
theorem dFs_setCopies_14 : decode cFs_setCopies 14 = .ok (.iadd, 1) := by decide +kernel
theorem dFs_setCopies_15 : decode cFs_setCopies 15 = .ok (.putfield 41, 3) := by decide +kernel
theorem dFs_setCopies_18 : decode cFs_setCopies 18 = .ok (.iload_n 3, 1) := by decide +kernel
theorem dFs_setCopies_19 : decode cFs_setCopies 19 = .ok (.ireturn, 1) := by decide +kernel
abbrev cFs_productWithoutNames : ByteArray := prog_3_method_6_code
def yFs_productWithoutNames : MethodName := ⟨RFs, "productWithoutNames", "()J"⟩
theorem dFs_productWithoutNames_0 : decode cFs_productWithoutNames 0 = .ok (.lconst 1, 1) := by decide +kernel
theorem dFs_productWithoutNames_1 : decode cFs_productWithoutNames 1 = .ok (.lstore_n 1, 1) := by decide +kernel
theorem dFs_productWithoutNames_2 : decode cFs_productWithoutNames 2 = .ok (.aload_n 0, 1) := by decide +kernel
theorem dFs_productWithoutNames_3 : decode cFs_productWithoutNames 3 = .ok (.getfield 17, 3) := by decide +kernel
theorem dFs_productWithoutNames_6 : decode cFs_productWithoutNames 6 = .ok (.iconst 0, 1) := by decide +kernel
theorem dFs_productWithoutNames_7 : decode cFs_productWithoutNames 7 = .ok (.aaload, 1) := by decide +kernel
theorem dFs_productWithoutNames_8 : decode cFs_productWithoutNames 8 = .ok (.astore_n 3, 1) := by decide +kernel
theorem dFs_productWithoutNames_9 : decode cFs_productWithoutNames 9 = .ok (.aload_n 3, 1) := by decide +kernel
theorem dFs_productWithoutNames_10 : decode cFs_productWithoutNames 10 = .ok (.ifnull 21, 3) := by decide +kernel
theorem dFs_productWithoutNames_13 : decode cFs_productWithoutNames 13 = .ok (.lload_n 1, 1) := by decide +kernel
theorem dFs_productWithoutNames_14 : decode cFs_productWithoutNames 14 = .ok (.aload_n 3, 1) := by decide +kernel
theorem dFs_productWithoutNames_15 : decode cFs_productWithoutNames 15 = .ok (.getfield 47, 3) := by decide +kernel
theorem dFs_productWithoutNames_18 : decode cFs_productWithoutNames 18 = .ok (.iconst 0, 1) := by decide +kernel
theorem dFs_productWithoutNames_19 : decode cFs_productWithoutNames 19 = .ok (.iaload, 1) := by decide +kernel
theorem dFs_productWithoutNames_20 : decode cFs_productWithoutNames 20 = .ok (.i2l, 1) := by decide +kernel
theorem dFs_productWithoutNames_21 : decode cFs_productWithoutNames 21 = .ok (.lmul, 1) := by decide +kernel
theorem dFs_productWithoutNames_22 : decode cFs_productWithoutNames 22 = .ok (.lstore_n 1, 1) := by decide +kernel
theorem dFs_productWithoutNames_23 : decode cFs_productWithoutNames 23 = .ok (.aload_n 3, 1) := by decide +kernel
theorem dFs_productWithoutNames_24 : decode cFs_productWithoutNames 24 = .ok (.getfield 37, 3) := by decide +kernel
theorem dFs_productWithoutNames_27 : decode cFs_productWithoutNames 27 = .ok (.astore_n 3, 1) := by decide +kernel
theorem dFs_productWithoutNames_28 : decode cFs_productWithoutNames 28 = .ok (.goto (-19), 3) := by decide +kernel
theorem dFs_productWithoutNames_31 : decode cFs_productWithoutNames 31 = .ok (.lload_n 1, 1) := by decide +kernel
theorem dFs_productWithoutNames_32 : decode cFs_productWithoutNames 32 = .ok (.lreturn, 1) := by decide +kernel
abbrev cFs_multiplyLast : ByteArray := prog_3_method_7_code
def yFs_multiplyLast : MethodName := ⟨RFs, "multiplyLast", "(I[JI[I)V"⟩
theorem dFs_multiplyLast_0 : decode cFs_multiplyLast 0 = .ok (.aload_n 0, 1) := by decide +kernel
theorem dFs_multiplyLast_1 : decode cFs_multiplyLast 1 = .ok (.getfield 20, 3) := by decide +kernel
theorem dFs_multiplyLast_4 : decode cFs_multiplyLast 4 = .ok (.getfield 51, 3) := by decide +kernel
theorem dFs_multiplyLast_7 : decode cFs_multiplyLast 7 = .ok (.iload_n 1, 1) := by decide +kernel
theorem dFs_multiplyLast_8 : decode cFs_multiplyLast 8 = .ok (.iaload, 1) := by decide +kernel
theorem dFs_multiplyLast_9 : decode cFs_multiplyLast 9 = .ok (.istore 5, 2) := by decide +kernel
theorem dFs_multiplyLast_11 : decode cFs_multiplyLast 11 = .ok (.aload_n 0, 1) := by decide +kernel
theorem dFs_multiplyLast_12 : decode cFs_multiplyLast 12 = .ok (.getfield 17, 3) := by decide +kernel
theorem dFs_multiplyLast_15 : decode cFs_multiplyLast 15 = .ok (.iload_n 1, 1) := by decide +kernel
theorem dFs_multiplyLast_16 : decode cFs_multiplyLast 16 = .ok (.iconst 1, 1) := by decide +kernel
theorem dFs_multiplyLast_17 : decode cFs_multiplyLast 17 = .ok (.iadd, 1) := by decide +kernel
theorem dFs_multiplyLast_18 : decode cFs_multiplyLast 18 = .ok (.aaload, 1) := by decide +kernel
theorem dFs_multiplyLast_19 : decode cFs_multiplyLast 19 = .ok (.astore 6, 2) := by decide +kernel
theorem dFs_multiplyLast_21 : decode cFs_multiplyLast 21 = .ok (.aload 6, 2) := by decide +kernel
theorem dFs_multiplyLast_23 : decode cFs_multiplyLast 23 = .ok (.ifnull 24, 3) := by decide +kernel
theorem dFs_multiplyLast_26 : decode cFs_multiplyLast 26 = .ok (.aload 6, 2) := by decide +kernel
theorem dFs_multiplyLast_28 : decode cFs_multiplyLast 28 = .ok (.aload_n 2, 1) := by decide +kernel
theorem dFs_multiplyLast_29 : decode cFs_multiplyLast 29 = .ok (.iload_n 3, 1) := by decide +kernel
theorem dFs_multiplyLast_30 : decode cFs_multiplyLast 30 = .ok (.iload 5, 2) := by decide +kernel
theorem dFs_multiplyLast_32 : decode cFs_multiplyLast 32 = .ok (.aload 4, 2) := by decide +kernel
theorem dFs_multiplyLast_34 : decode cFs_multiplyLast 34 = .ok (.invokevirtual 56, 3) := by decide +kernel
theorem dFs_multiplyLast_37 : decode cFs_multiplyLast 37 = .ok (.aload 6, 2) := by decide +kernel
theorem dFs_multiplyLast_39 : decode cFs_multiplyLast 39 = .ok (.getfield 37, 3) := by decide +kernel
theorem dFs_multiplyLast_42 : decode cFs_multiplyLast 42 = .ok (.astore 6, 2) := by decide +kernel
theorem dFs_multiplyLast_44 : decode cFs_multiplyLast 44 = .ok (.goto (-23), 3) := by decide +kernel
theorem dFs_multiplyLast_47 : decode cFs_multiplyLast 47 = .ok (.return_, 1) := by decide +kernel
abbrev cFs_productAt : ByteArray := prog_3_method_8_code
def yFs_productAt : MethodName := ⟨RFs, "productAt", "([I)J"⟩
theorem dFs_productAt_0 : decode cFs_productAt 0 = .ok (.lconst 1, 1) := by decide +kernel
theorem dFs_productAt_1 : decode cFs_productAt 1 = .ok (.lstore_n 2, 1) := by decide +kernel
theorem dFs_productAt_2 : decode cFs_productAt 2 = .ok (.iconst 0, 1) := by decide +kernel
theorem dFs_productAt_3 : decode cFs_productAt 3 = .ok (.istore 4, 2) := by decide +kernel
theorem dFs_productAt_5 : decode cFs_productAt 5 = .ok (.iload 4, 2) := by decide +kernel
theorem dFs_productAt_7 : decode cFs_productAt 7 = .ok (.aload_n 0, 1) := by decide +kernel
theorem dFs_productAt_8 : decode cFs_productAt 8 = .ok (.getfield 25, 3) := by decide +kernel
theorem dFs_productAt_11 : decode cFs_productAt 11 = .ok (.if_icmp .ge 36, 3) := by decide +kernel
theorem dFs_productAt_14 : decode cFs_productAt 14 = .ok (.aload_n 0, 1) := by decide +kernel
theorem dFs_productAt_15 : decode cFs_productAt 15 = .ok (.iload 4, 2) := by decide +kernel
theorem dFs_productAt_17 : decode cFs_productAt 17 = .ok (.invokevirtual 60, 3) := by decide +kernel
theorem dFs_productAt_20 : decode cFs_productAt 20 = .ok (.astore 5, 2) := by decide +kernel
theorem dFs_productAt_22 : decode cFs_productAt 22 = .ok (.lload_n 2, 1) := by decide +kernel
theorem dFs_productAt_23 : decode cFs_productAt 23 = .ok (.aload 5, 2) := by decide +kernel
theorem dFs_productAt_25 : decode cFs_productAt 25 = .ok (.ifnonnull 7, 3) := by decide +kernel
theorem dFs_productAt_28 : decode cFs_productAt 28 = .ok (.lconst 1, 1) := by decide +kernel
theorem dFs_productAt_29 : decode cFs_productAt 29 = .ok (.goto 10, 3) := by decide +kernel
theorem dFs_productAt_32 : decode cFs_productAt 32 = .ok (.aload 5, 2) := by decide +kernel
theorem dFs_productAt_34 : decode cFs_productAt 34 = .ok (.aload_n 1, 1) := by decide +kernel
theorem dFs_productAt_35 : decode cFs_productAt 35 = .ok (.invokevirtual 64, 3) := by decide +kernel
theorem dFs_productAt_38 : decode cFs_productAt 38 = .ok (.i2l, 1) := by decide +kernel
theorem dFs_productAt_39 : decode cFs_productAt 39 = .ok (.lmul, 1) := by decide +kernel
theorem dFs_productAt_40 : decode cFs_productAt 40 = .ok (.lstore_n 2, 1) := by decide +kernel
theorem dFs_productAt_41 : decode cFs_productAt 41 = .ok (.iinc 4 1, 3) := by decide +kernel
theorem dFs_productAt_44 : decode cFs_productAt 44 = .ok (.goto (-39), 3) := by decide +kernel
theorem dFs_productAt_47 : decode cFs_productAt 47 = .ok (.lload_n 2, 1) := by decide +kernel
theorem dFs_productAt_48 : decode cFs_productAt 48 = .ok (.lreturn, 1) := by decide +kernel
