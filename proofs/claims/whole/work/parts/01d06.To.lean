abbrev cTo_init : ByteArray := prog_1_method_1_code
def yTo_init : MethodName := ⟨RTo, "<init>", "()V"⟩
theorem dTo_init_0 : decode cTo_init 0 = .ok (.aload_n 0, 1) := by decide +kernel
theorem dTo_init_1 : decode cTo_init 1 = .ok (.invokespecial 3, 3) := by decide +kernel
theorem dTo_init_4 : decode cTo_init 4 = .ok (.aload_n 0, 1) := by decide +kernel
theorem dTo_init_5 : decode cTo_init 5 = .ok (.new 9, 3) := by decide +kernel
theorem dTo_init_8 : decode cTo_init 8 = .ok (.dup, 1) := by decide +kernel
theorem dTo_init_9 : decode cTo_init 9 = .ok (.invokespecial 11, 3) := by decide +kernel
theorem dTo_init_12 : decode cTo_init 12 = .ok (.putfield 12, 3) := by decide +kernel
theorem dTo_init_15 : decode cTo_init 15 = .ok (.aload_n 0, 1) := by decide +kernel
theorem dTo_init_16 : decode cTo_init 16 = .ok (.new 16, 3) := by decide +kernel
theorem dTo_init_19 : decode cTo_init 19 = .ok (.dup, 1) := by decide +kernel
theorem dTo_init_20 : decode cTo_init 20 = .ok (.aload_n 0, 1) := by decide +kernel
theorem dTo_init_21 : decode cTo_init 21 = .ok (.getfield 12, 3) := by decide +kernel
theorem dTo_init_24 : decode cTo_init 24 = .ok (.invokespecial 18, 3) := by decide +kernel
theorem dTo_init_27 : decode cTo_init 27 = .ok (.putfield 21, 3) := by decide +kernel
theorem dTo_init_30 : decode cTo_init 30 = .ok (.aload_n 0, 1) := by decide +kernel
theorem dTo_init_31 : decode cTo_init 31 = .ok (.new 25, 3) := by decide +kernel
theorem dTo_init_34 : decode cTo_init 34 = .ok (.dup, 1) := by decide +kernel
theorem dTo_init_35 : decode cTo_init 35 = .ok (.aload_n 0, 1) := by decide +kernel
theorem dTo_init_36 : decode cTo_init 36 = .ok (.getfield 12, 3) := by decide +kernel
theorem dTo_init_39 : decode cTo_init 39 = .ok (.invokespecial 27, 3) := by decide +kernel
theorem dTo_init_42 : decode cTo_init 42 = .ok (.putfield 28, 3) := by decide +kernel
theorem dTo_init_45 : decode cTo_init 45 = .ok (.aload_n 0, 1) := by decide +kernel
theorem dTo_init_46 : decode cTo_init 46 = .ok (.new 32, 3) := by decide +kernel
theorem dTo_init_49 : decode cTo_init 49 = .ok (.dup, 1) := by decide +kernel
theorem dTo_init_50 : decode cTo_init 50 = .ok (.aload_n 0, 1) := by decide +kernel
theorem dTo_init_51 : decode cTo_init 51 = .ok (.getfield 12, 3) := by decide +kernel
theorem dTo_init_54 : decode cTo_init 54 = .ok (.aload_n 0, 1) := by decide +kernel
theorem dTo_init_55 : decode cTo_init 55 = .ok (.getfield 21, 3) := by decide +kernel
theorem dTo_init_58 : decode cTo_init 58 = .ok (.invokespecial 34, 3) := by decide +kernel
theorem dTo_init_61 : decode cTo_init 61 = .ok (.putfield 37, 3) := by decide +kernel
theorem dTo_init_64 : decode cTo_init 64 = .ok (.aload_n 0, 1) := by decide +kernel
theorem dTo_init_65 : decode cTo_init 65 = .ok (.ldc 41, 2) := by decide +kernel
theorem dTo_init_67 : decode cTo_init 67 = .ok (.putfield 42, 3) := by decide +kernel
theorem dTo_init_70 : decode cTo_init 70 = .ok (.return_, 1) := by decide +kernel
abbrev cTo_name : ByteArray := prog_1_method_2_code
def yTo_name : MethodName := ⟨RTo, "name", "(I)I"⟩
theorem dTo_name_0 : decode cTo_name 0 = .ok (.iload_n 1, 1) := by decide +kernel
theorem dTo_name_1 : decode cTo_name 1 = .ok (.iconst 2, 1) := by decide +kernel
theorem dTo_name_2 : decode cTo_name 2 = .ok (.if_icmp .lt 8, 3) := by decide +kernel
theorem dTo_name_5 : decode cTo_name 5 = .ok (.iload_n 1, 1) := by decide +kernel
theorem dTo_name_6 : decode cTo_name 6 = .ok (.iconst 4, 1) := by decide +kernel
theorem dTo_name_7 : decode cTo_name 7 = .ok (.if_icmp .le 6, 3) := by decide +kernel
theorem dTo_name_10 : decode cTo_name 10 = .ok (.bipush (-2), 2) := by decide +kernel
theorem dTo_name_12 : decode cTo_name 12 = .ok (.ireturn, 1) := by decide +kernel
theorem dTo_name_13 : decode cTo_name 13 = .ok (.aload_n 0, 1) := by decide +kernel
theorem dTo_name_14 : decode cTo_name 14 = .ok (.getfield 12, 3) := by decide +kernel
theorem dTo_name_17 : decode cTo_name 17 = .ok (.getfield 46, 3) := by decide +kernel
theorem dTo_name_20 : decode cTo_name 20 = .ok (.bipush 12, 2) := by decide +kernel
theorem dTo_name_22 : decode cTo_name 22 = .ok (.if_icmp .ge 17, 3) := by decide +kernel
theorem dTo_name_25 : decode cTo_name 25 = .ok (.aload_n 0, 1) := by decide +kernel
theorem dTo_name_26 : decode cTo_name 26 = .ok (.getfield 12, 3) := by decide +kernel
theorem dTo_name_29 : decode cTo_name 29 = .ok (.getfield 49, 3) := by decide +kernel
theorem dTo_name_32 : decode cTo_name 32 = .ok (.iload_n 1, 1) := by decide +kernel
theorem dTo_name_33 : decode cTo_name 33 = .ok (.imul, 1) := by decide +kernel
theorem dTo_name_34 : decode cTo_name 34 = .ok (.ldc 41, 2) := by decide +kernel
theorem dTo_name_36 : decode cTo_name 36 = .ok (.if_icmp .le 6, 3) := by decide +kernel
theorem dTo_name_39 : decode cTo_name 39 = .ok (.bipush (-4), 2) := by decide +kernel
theorem dTo_name_41 : decode cTo_name 41 = .ok (.ireturn, 1) := by decide +kernel
theorem dTo_name_42 : decode cTo_name 42 = .ok (.aload_n 0, 1) := by decide +kernel
theorem dTo_name_43 : decode cTo_name 43 = .ok (.getfield 28, 3) := by decide +kernel
theorem dTo_name_46 : decode cTo_name 46 = .ok (.invokevirtual 52, 3) := by decide +kernel
theorem dTo_name_49 : decode cTo_name 49 = .ok (.aload_n 0, 1) := by decide +kernel
theorem dTo_name_50 : decode cTo_name 50 = .ok (.getfield 37, 3) := by decide +kernel
theorem dTo_name_53 : decode cTo_name 53 = .ok (.invokevirtual 55, 3) := by decide +kernel
theorem dTo_name_56 : decode cTo_name 56 = .ok (.aload_n 0, 1) := by decide +kernel
theorem dTo_name_57 : decode cTo_name 57 = .ok (.getfield 12, 3) := by decide +kernel
theorem dTo_name_60 : decode cTo_name 60 = .ok (.iload_n 1, 1) := by decide +kernel
theorem dTo_name_61 : decode cTo_name 61 = .ok (.invokevirtual 56, 3) := by decide +kernel
theorem dTo_name_64 : decode cTo_name 64 = .ok (.ireturn, 1) := by decide +kernel
abbrev cTo_factor : ByteArray := prog_1_method_3_code
def yTo_factor : MethodName := ⟨RTo, "factor", "(I)I"⟩
theorem dTo_factor_0 : decode cTo_factor 0 = .ok (.aload_n 0, 1) := by decide +kernel
theorem dTo_factor_1 : decode cTo_factor 1 = .ok (.getfield 12, 3) := by decide +kernel
theorem dTo_factor_4 : decode cTo_factor 4 = .ok (.iload_n 1, 1) := by decide +kernel
theorem dTo_factor_5 : decode cTo_factor 5 = .ok (.invokevirtual 60, 3) := by decide +kernel
theorem dTo_factor_8 : decode cTo_factor 8 = .ok (.ifCond .ne 5, 3) := by decide +kernel
theorem dTo_factor_11 : decode cTo_factor 11 = .ok (.iconst (-1), 1) := by decide +kernel
theorem dTo_factor_12 : decode cTo_factor 12 = .ok (.ireturn, 1) := by decide +kernel
theorem dTo_factor_13 : decode cTo_factor 13 = .ok (.iload_n 1, 1) := by decide +kernel
theorem dTo_factor_14 : decode cTo_factor 14 = .ok (.invokestatic 64, 3) := by decide +kernel
theorem dTo_factor_17 : decode cTo_factor 17 = .ok (.iconst 4, 1) := by decide +kernel
theorem dTo_factor_18 : decode cTo_factor 18 = .ok (.if_icmp .le 6, 3) := by decide +kernel
theorem dTo_factor_21 : decode cTo_factor 21 = .ok (.bipush (-2), 2) := by decide +kernel
theorem dTo_factor_23 : decode cTo_factor 23 = .ok (.ireturn, 1) := by decide +kernel
theorem dTo_factor_24 : decode cTo_factor 24 = .ok (.aload_n 0, 1) := by decide +kernel
theorem dTo_factor_25 : decode cTo_factor 25 = .ok (.getfield 21, 3) := by decide +kernel
theorem dTo_factor_28 : decode cTo_factor 28 = .ok (.getfield 69, 3) := by decide +kernel
theorem dTo_factor_31 : decode cTo_factor 31 = .ok (.bipush 16, 2) := by decide +kernel
theorem dTo_factor_33 : decode cTo_factor 33 = .ok (.if_icmp .lt 6, 3) := by decide +kernel
theorem dTo_factor_36 : decode cTo_factor 36 = .ok (.bipush (-4), 2) := by decide +kernel
theorem dTo_factor_38 : decode cTo_factor 38 = .ok (.ireturn, 1) := by decide +kernel
theorem dTo_factor_39 : decode cTo_factor 39 = .ok (.aload_n 0, 1) := by decide +kernel
theorem dTo_factor_40 : decode cTo_factor 40 = .ok (.getfield 28, 3) := by decide +kernel
theorem dTo_factor_43 : decode cTo_factor 43 = .ok (.invokevirtual 52, 3) := by decide +kernel
theorem dTo_factor_46 : decode cTo_factor 46 = .ok (.aload_n 0, 1) := by decide +kernel
theorem dTo_factor_47 : decode cTo_factor 47 = .ok (.getfield 37, 3) := by decide +kernel
theorem dTo_factor_50 : decode cTo_factor 50 = .ok (.invokevirtual 55, 3) := by decide +kernel
theorem dTo_factor_53 : decode cTo_factor 53 = .ok (.aload_n 0, 1) := by decide +kernel
theorem dTo_factor_54 : decode cTo_factor 54 = .ok (.getfield 12, 3) := by decide +kernel
theorem dTo_factor_57 : decode cTo_factor 57 = .ok (.iload_n 1, 1) := by decide +kernel
theorem dTo_factor_58 : decode cTo_factor 58 = .ok (.invokevirtual 72, 3) := by decide +kernel
theorem dTo_factor_61 : decode cTo_factor 61 = .ok (.aload_n 0, 1) := by decide +kernel
theorem dTo_factor_62 : decode cTo_factor 62 = .ok (.getfield 21, 3) := by decide +kernel
theorem dTo_factor_65 : decode cTo_factor 65 = .ok (.iload_n 1, 1) := by decide +kernel
theorem dTo_factor_66 : decode cTo_factor 66 = .ok (.invokevirtual 76, 3) := by decide +kernel
theorem dTo_factor_69 : decode cTo_factor 69 = .ok (.ireturn, 1) := by decide +kernel
abbrev cTo_put : ByteArray := prog_1_method_4_code
def yTo_put : MethodName := ⟨RTo, "put", "(III)I"⟩
theorem dTo_put_0 : decode cTo_put 0 = .ok (.aload_n 0, 1) := by decide +kernel
theorem dTo_put_1 : decode cTo_put 1 = .ok (.getfield 21, 3) := by decide +kernel
theorem dTo_put_4 : decode cTo_put 4 = .ok (.iload_n 1, 1) := by decide +kernel
theorem dTo_put_5 : decode cTo_put 5 = .ok (.invokevirtual 79, 3) := by decide +kernel
theorem dTo_put_8 : decode cTo_put 8 = .ok (.astore 4, 2) := by decide +kernel
theorem dTo_put_10 : decode cTo_put 10 = .ok (.aload 4, 2) := by decide +kernel
theorem dTo_put_12 : decode cTo_put 12 = .ok (.ifnonnull 5, 3) := by decide +kernel
theorem dTo_put_15 : decode cTo_put 15 = .ok (.iconst (-1), 1) := by decide +kernel
theorem dTo_put_16 : decode cTo_put 16 = .ok (.ireturn, 1) := by decide +kernel
theorem dTo_put_17 : decode cTo_put 17 = .ok (.iload_n 2, 1) := by decide +kernel
theorem dTo_put_18 : decode cTo_put 18 = .ok (.ifCond .lt 22, 3) := by decide +kernel
theorem dTo_put_21 : decode cTo_put 21 = .ok (.iload_n 2, 1) := by decide +kernel
theorem dTo_put_22 : decode cTo_put 22 = .ok (.aload 4, 2) := by decide +kernel
theorem dTo_put_24 : decode cTo_put 24 = .ok (.getfield 83, 3) := by decide +kernel
theorem dTo_put_27 : decode cTo_put 27 = .ok (.if_icmp .ge 13, 3) := by decide +kernel
theorem dTo_put_30 : decode cTo_put 30 = .ok (.iload_n 3, 1) := by decide +kernel
theorem dTo_put_31 : decode cTo_put 31 = .ok (.ifCond .lt 9, 3) := by decide +kernel
theorem dTo_put_34 : decode cTo_put 34 = .ok (.iload_n 3, 1) := by decide +kernel
theorem dTo_put_35 : decode cTo_put 35 = .ok (.bipush 7, 2) := by decide +kernel
theorem dTo_put_37 : decode cTo_put 37 = .ok (.if_icmp .le 6, 3) := by decide +kernel
theorem dTo_put_40 : decode cTo_put 40 = .ok (.bipush (-2), 2) := by decide +kernel
theorem dTo_put_42 : decode cTo_put 42 = .ok (.ireturn, 1) := by decide +kernel
theorem dTo_put_43 : decode cTo_put 43 = .ok (.aload_n 0, 1) := by decide +kernel
theorem dTo_put_44 : decode cTo_put 44 = .ok (.getfield 37, 3) := by decide +kernel
theorem dTo_put_47 : decode cTo_put 47 = .ok (.invokevirtual 55, 3) := by decide +kernel
theorem dTo_put_50 : decode cTo_put 50 = .ok (.aload 4, 2) := by decide +kernel
theorem dTo_put_52 : decode cTo_put 52 = .ok (.iload_n 2, 1) := by decide +kernel
theorem dTo_put_53 : decode cTo_put 53 = .ok (.iload_n 3, 1) := by decide +kernel
theorem dTo_put_54 : decode cTo_put 54 = .ok (.invokevirtual 88, 3) := by decide +kernel
theorem dTo_put_57 : decode cTo_put 57 = .ok (.ireturn, 1) := by decide +kernel
abbrev cTo_copies : ByteArray := prog_1_method_5_code
def yTo_copies : MethodName := ⟨RTo, "copies", "(II)I"⟩
theorem dTo_copies_0 : decode cTo_copies 0 = .ok (.aload_n 0, 1) := by decide +kernel
theorem dTo_copies_1 : decode cTo_copies 1 = .ok (.getfield 21, 3) := by decide +kernel
theorem dTo_copies_4 : decode cTo_copies 4 = .ok (.iload_n 1, 1) := by decide +kernel
theorem dTo_copies_5 : decode cTo_copies 5 = .ok (.invokevirtual 79, 3) := by decide +kernel
theorem dTo_copies_8 : decode cTo_copies 8 = .ok (.astore_n 3, 1) := by decide +kernel
theorem dTo_copies_9 : decode cTo_copies 9 = .ok (.aload_n 3, 1) := by decide +kernel
theorem dTo_copies_10 : decode cTo_copies 10 = .ok (.ifnonnull 5, 3) := by decide +kernel
theorem dTo_copies_13 : decode cTo_copies 13 = .ok (.iconst (-1), 1) := by decide +kernel
theorem dTo_copies_14 : decode cTo_copies 14 = .ok (.ireturn, 1) := by decide +kernel
theorem dTo_copies_15 : decode cTo_copies 15 = .ok (.iload_n 2, 1) := by decide +kernel
theorem dTo_copies_16 : decode cTo_copies 16 = .ok (.iconst 1, 1) := by decide +kernel
theorem dTo_copies_17 : decode cTo_copies 17 = .ok (.if_icmp .lt 8, 3) := by decide +kernel
theorem dTo_copies_20 : decode cTo_copies 20 = .ok (.iload_n 2, 1) := by decide +kernel
theorem dTo_copies_21 : decode cTo_copies 21 = .ok (.iconst 3, 1) := by decide +kernel
theorem dTo_copies_22 : decode cTo_copies 22 = .ok (.if_icmp .le 6, 3) := by decide +kernel
theorem dTo_copies_25 : decode cTo_copies 25 = .ok (.bipush (-2), 2) := by decide +kernel
theorem dTo_copies_27 : decode cTo_copies 27 = .ok (.ireturn, 1) := by decide +kernel
theorem dTo_copies_28 : decode cTo_copies 28 = .ok (.aload_n 0, 1) := by decide +kernel
theorem dTo_copies_29 : decode cTo_copies 29 = .ok (.getfield 21, 3) := by decide +kernel
theorem dTo_copies_32 : decode cTo_copies 32 = .ok (.getfield 69, 3) := by decide +kernel
theorem dTo_copies_35 : decode cTo_copies 35 = .ok (.aload_n 3, 1) := by decide +kernel
theorem dTo_copies_36 : decode cTo_copies 36 = .ok (.getfield 92, 3) := by decide +kernel
theorem dTo_copies_39 : decode cTo_copies 39 = .ok (.isub, 1) := by decide +kernel
theorem dTo_copies_40 : decode cTo_copies 40 = .ok (.iload_n 2, 1) := by decide +kernel
theorem dTo_copies_41 : decode cTo_copies 41 = .ok (.iadd, 1) := by decide +kernel
theorem dTo_copies_42 : decode cTo_copies 42 = .ok (.bipush 16, 2) := by decide +kernel
theorem dTo_copies_44 : decode cTo_copies 44 = .ok (.if_icmp .le 6, 3) := by decide +kernel
theorem dTo_copies_47 : decode cTo_copies 47 = .ok (.bipush (-4), 2) := by decide +kernel
theorem dTo_copies_49 : decode cTo_copies 49 = .ok (.ireturn, 1) := by decide +kernel
theorem dTo_copies_50 : decode cTo_copies 50 = .ok (.aload_n 0, 1) := by decide +kernel
theorem dTo_copies_51 : decode cTo_copies 51 = .ok (.getfield 37, 3) := by decide +kernel
theorem dTo_copies_54 : decode cTo_copies 54 = .ok (.invokevirtual 55, 3) := by decide +kernel
theorem dTo_copies_57 : decode cTo_copies 57 = .ok (.aload_n 0, 1) := by decide +kernel
theorem dTo_copies_58 : decode cTo_copies 58 = .ok (.getfield 21, 3) := by decide +kernel
theorem dTo_copies_61 : decode cTo_copies 61 = .ok (.aload_n 3, 1) := by decide +kernel
theorem dTo_copies_62 : decode cTo_copies 62 = .ok (.iload_n 2, 1) := by decide +kernel
theorem dTo_copies_63 : decode cTo_copies 63 = .ok (.invokevirtual 95, 3) := by decide +kernel
theorem dTo_copies_66 : decode cTo_copies 66 = .ok (.ireturn, 1) := by decide +kernel
abbrev cTo_evidence : ByteArray := prog_1_method_6_code
def yTo_evidence : MethodName := ⟨RTo, "evidence", "(II)I"⟩
theorem dTo_evidence_0 : decode cTo_evidence 0 = .ok (.aload_n 0, 1) := by decide +kernel
theorem dTo_evidence_1 : decode cTo_evidence 1 = .ok (.getfield 12, 3) := by decide +kernel
theorem dTo_evidence_4 : decode cTo_evidence 4 = .ok (.iload_n 1, 1) := by decide +kernel
theorem dTo_evidence_5 : decode cTo_evidence 5 = .ok (.invokevirtual 99, 3) := by decide +kernel
theorem dTo_evidence_8 : decode cTo_evidence 8 = .ok (.ifCond .ne 5, 3) := by decide +kernel
theorem dTo_evidence_11 : decode cTo_evidence 11 = .ok (.iconst (-1), 1) := by decide +kernel
theorem dTo_evidence_12 : decode cTo_evidence 12 = .ok (.ireturn, 1) := by decide +kernel
theorem dTo_evidence_13 : decode cTo_evidence 13 = .ok (.iload_n 2, 1) := by decide +kernel
theorem dTo_evidence_14 : decode cTo_evidence 14 = .ok (.iconst (-1), 1) := by decide +kernel
theorem dTo_evidence_15 : decode cTo_evidence 15 = .ok (.if_icmp .eq 18, 3) := by decide +kernel
theorem dTo_evidence_18 : decode cTo_evidence 18 = .ok (.aload_n 0, 1) := by decide +kernel
theorem dTo_evidence_19 : decode cTo_evidence 19 = .ok (.getfield 12, 3) := by decide +kernel
theorem dTo_evidence_22 : decode cTo_evidence 22 = .ok (.iload_n 1, 1) := by decide +kernel
theorem dTo_evidence_23 : decode cTo_evidence 23 = .ok (.iload_n 2, 1) := by decide +kernel
theorem dTo_evidence_24 : decode cTo_evidence 24 = .ok (.invokevirtual 102, 3) := by decide +kernel
theorem dTo_evidence_27 : decode cTo_evidence 27 = .ok (.ifCond .ne 6, 3) := by decide +kernel
theorem dTo_evidence_30 : decode cTo_evidence 30 = .ok (.bipush (-2), 2) := by decide +kernel
theorem dTo_evidence_32 : decode cTo_evidence 32 = .ok (.ireturn, 1) := by decide +kernel
theorem dTo_evidence_33 : decode cTo_evidence 33 = .ok (.aload_n 0, 1) := by decide +kernel
theorem dTo_evidence_34 : decode cTo_evidence 34 = .ok (.getfield 37, 3) := by decide +kernel
theorem dTo_evidence_37 : decode cTo_evidence 37 = .ok (.invokevirtual 55, 3) := by decide +kernel
theorem dTo_evidence_40 : decode cTo_evidence 40 = .ok (.aload_n 0, 1) := by decide +kernel
theorem dTo_evidence_41 : decode cTo_evidence 41 = .ok (.getfield 37, 3) := by decide +kernel
theorem dTo_evidence_44 : decode cTo_evidence 44 = .ok (.getfield 106, 3) := by decide +kernel
theorem dTo_evidence_47 : decode cTo_evidence 47 = .ok (.iload_n 1, 1) := by decide +kernel
theorem dTo_evidence_48 : decode cTo_evidence 48 = .ok (.iaload, 1) := by decide +kernel
theorem dTo_evidence_49 : decode cTo_evidence 49 = .ok (.istore_n 3, 1) := by decide +kernel
theorem dTo_evidence_50 : decode cTo_evidence 50 = .ok (.aload_n 0, 1) := by decide +kernel
theorem dTo_evidence_51 : decode cTo_evidence 51 = .ok (.getfield 37, 3) := by decide +kernel
theorem dTo_evidence_54 : decode cTo_evidence 54 = .ok (.getfield 106, 3) := by decide +kernel
theorem dTo_evidence_57 : decode cTo_evidence 57 = .ok (.iload_n 1, 1) := by decide +kernel
theorem dTo_evidence_58 : decode cTo_evidence 58 = .ok (.iload_n 2, 1) := by decide +kernel
theorem dTo_evidence_59 : decode cTo_evidence 59 = .ok (.iastore, 1) := by decide +kernel
theorem dTo_evidence_60 : decode cTo_evidence 60 = .ok (.iload_n 3, 1) := by decide +kernel
theorem dTo_evidence_61 : decode cTo_evidence 61 = .ok (.ireturn, 1) := by decide +kernel
abbrev cTo_memory : ByteArray := prog_1_method_7_code
def yTo_memory : MethodName := ⟨RTo, "memory", "(I)I"⟩
theorem dTo_memory_0 : decode cTo_memory 0 = .ok (.iload_n 1, 1) := by decide +kernel
theorem dTo_memory_1 : decode cTo_memory 1 = .ok (.iconst 1, 1) := by decide +kernel
theorem dTo_memory_2 : decode cTo_memory 2 = .ok (.if_icmp .lt 9, 3) := by decide +kernel
theorem dTo_memory_5 : decode cTo_memory 5 = .ok (.iload_n 1, 1) := by decide +kernel
theorem dTo_memory_6 : decode cTo_memory 6 = .ok (.ldc 41, 2) := by decide +kernel
theorem dTo_memory_8 : decode cTo_memory 8 = .ok (.if_icmp .le 6, 3) := by decide +kernel
theorem dTo_memory_11 : decode cTo_memory 11 = .ok (.bipush (-2), 2) := by decide +kernel
theorem dTo_memory_13 : decode cTo_memory 13 = .ok (.ireturn, 1) := by decide +kernel
theorem dTo_memory_14 : decode cTo_memory 14 = .ok (.aload_n 0, 1) := by decide +kernel
theorem dTo_memory_15 : decode cTo_memory 15 = .ok (.getfield 42, 3) := by decide +kernel
theorem dTo_memory_18 : decode cTo_memory 18 = .ok (.istore_n 2, 1) := by decide +kernel
theorem dTo_memory_19 : decode cTo_memory 19 = .ok (.aload_n 0, 1) := by decide +kernel
theorem dTo_memory_20 : decode cTo_memory 20 = .ok (.iload_n 1, 1) := by decide +kernel
theorem dTo_memory_21 : decode cTo_memory 21 = .ok (.putfield 42, 3) := by decide +kernel
theorem dTo_memory_24 : decode cTo_memory 24 = .ok (.iload_n 2, 1) := by decide +kernel
theorem dTo_memory_25 : decode cTo_memory 25 = .ok (.ireturn, 1) := by decide +kernel
abbrev cTo_place : ByteArray := prog_1_method_8_code
def yTo_place : MethodName := ⟨RTo, "place", "(II)I"⟩
theorem dTo_place_0 : decode cTo_place 0 = .ok (.iload_n 1, 1) := by decide +kernel
theorem dTo_place_1 : decode cTo_place 1 = .ok (.ifCond .lt 9, 3) := by decide +kernel
theorem dTo_place_4 : decode cTo_place 4 = .ok (.iload_n 1, 1) := by decide +kernel
theorem dTo_place_5 : decode cTo_place 5 = .ok (.bipush 12, 2) := by decide +kernel
theorem dTo_place_7 : decode cTo_place 7 = .ok (.if_icmp .lt 6, 3) := by decide +kernel
theorem dTo_place_10 : decode cTo_place 10 = .ok (.bipush (-2), 2) := by decide +kernel
theorem dTo_place_12 : decode cTo_place 12 = .ok (.ireturn, 1) := by decide +kernel
theorem dTo_place_13 : decode cTo_place 13 = .ok (.aload_n 0, 1) := by decide +kernel
theorem dTo_place_14 : decode cTo_place 14 = .ok (.getfield 12, 3) := by decide +kernel
theorem dTo_place_17 : decode cTo_place 17 = .ok (.iload_n 2, 1) := by decide +kernel
theorem dTo_place_18 : decode cTo_place 18 = .ok (.invokevirtual 99, 3) := by decide +kernel
theorem dTo_place_21 : decode cTo_place 21 = .ok (.ifCond .ne 5, 3) := by decide +kernel
theorem dTo_place_24 : decode cTo_place 24 = .ok (.iconst (-1), 1) := by decide +kernel
theorem dTo_place_25 : decode cTo_place 25 = .ok (.ireturn, 1) := by decide +kernel
theorem dTo_place_26 : decode cTo_place 26 = .ok (.aload_n 0, 1) := by decide +kernel
theorem dTo_place_27 : decode cTo_place 27 = .ok (.getfield 28, 3) := by decide +kernel
theorem dTo_place_30 : decode cTo_place 30 = .ok (.getfield 110, 3) := by decide +kernel
theorem dTo_place_33 : decode cTo_place 33 = .ok (.iload_n 1, 1) := by decide +kernel
theorem dTo_place_34 : decode cTo_place 34 = .ok (.iaload, 1) := by decide +kernel
theorem dTo_place_35 : decode cTo_place 35 = .ok (.istore_n 3, 1) := by decide +kernel
theorem dTo_place_36 : decode cTo_place 36 = .ok (.aload_n 0, 1) := by decide +kernel
theorem dTo_place_37 : decode cTo_place 37 = .ok (.getfield 28, 3) := by decide +kernel
theorem dTo_place_40 : decode cTo_place 40 = .ok (.getfield 110, 3) := by decide +kernel
theorem dTo_place_43 : decode cTo_place 43 = .ok (.iload_n 1, 1) := by decide +kernel
theorem dTo_place_44 : decode cTo_place 44 = .ok (.iload_n 2, 1) := by decide +kernel
theorem dTo_place_45 : decode cTo_place 45 = .ok (.iastore, 1) := by decide +kernel
theorem dTo_place_46 : decode cTo_place 46 = .ok (.iload_n 3, 1) := by decide +kernel
theorem dTo_place_47 : decode cTo_place 47 = .ok (.ireturn, 1) := by decide +kernel
abbrev cTo_order : ByteArray := prog_1_method_9_code
def yTo_order : MethodName := ⟨RTo, "order", "(I)I"⟩
theorem dTo_order_0 : decode cTo_order 0 = .ok (.iload_n 1, 1) := by decide +kernel
theorem dTo_order_1 : decode cTo_order 1 = .ok (.ifCond .lt 8, 3) := by decide +kernel
theorem dTo_order_4 : decode cTo_order 4 = .ok (.iload_n 1, 1) := by decide +kernel
theorem dTo_order_5 : decode cTo_order 5 = .ok (.iconst 5, 1) := by decide +kernel
theorem dTo_order_6 : decode cTo_order 6 = .ok (.if_icmp .le 6, 3) := by decide +kernel
theorem dTo_order_9 : decode cTo_order 9 = .ok (.bipush (-2), 2) := by decide +kernel
theorem dTo_order_11 : decode cTo_order 11 = .ok (.ireturn, 1) := by decide +kernel
theorem dTo_order_12 : decode cTo_order 12 = .ok (.iload_n 1, 1) := by decide +kernel
theorem dTo_order_13 : decode cTo_order 13 = .ok (.iconst 1, 1) := by decide +kernel
theorem dTo_order_14 : decode cTo_order 14 = .ok (.if_icmp .ne 16, 3) := by decide +kernel
theorem dTo_order_17 : decode cTo_order 17 = .ok (.aload_n 0, 1) := by decide +kernel
theorem dTo_order_18 : decode cTo_order 18 = .ok (.getfield 28, 3) := by decide +kernel
theorem dTo_order_21 : decode cTo_order 21 = .ok (.invokevirtual 113, 3) := by decide +kernel
theorem dTo_order_24 : decode cTo_order 24 = .ok (.ifCond .ne 6, 3) := by decide +kernel
theorem dTo_order_27 : decode cTo_order 27 = .ok (.bipush (-3), 2) := by decide +kernel
theorem dTo_order_29 : decode cTo_order 29 = .ok (.ireturn, 1) := by decide +kernel
theorem dTo_order_30 : decode cTo_order 30 = .ok (.aload_n 0, 1) := by decide +kernel
theorem dTo_order_31 : decode cTo_order 31 = .ok (.getfield 28, 3) := by decide +kernel
theorem dTo_order_34 : decode cTo_order 34 = .ok (.iload_n 1, 1) := by decide +kernel
theorem dTo_order_35 : decode cTo_order 35 = .ok (.invokevirtual 117, 3) := by decide +kernel
theorem dTo_order_38 : decode cTo_order 38 = .ok (.aload_n 0, 1) := by decide +kernel
theorem dTo_order_39 : decode cTo_order 39 = .ok (.getfield 28, 3) := by decide +kernel
theorem dTo_order_42 : decode cTo_order 42 = .ok (.getfield 120, 3) := by decide +kernel
theorem dTo_order_45 : decode cTo_order 45 = .ok (.ireturn, 1) := by decide +kernel
abbrev cTo_taken : ByteArray := prog_1_method_10_code
def yTo_taken : MethodName := ⟨RTo, "taken", "(II)I"⟩
theorem dTo_taken_0 : decode cTo_taken 0 = .ok (.aload_n 0, 1) := by decide +kernel
theorem dTo_taken_1 : decode cTo_taken 1 = .ok (.getfield 12, 3) := by decide +kernel
theorem dTo_taken_4 : decode cTo_taken 4 = .ok (.iload_n 1, 1) := by decide +kernel
theorem dTo_taken_5 : decode cTo_taken 5 = .ok (.invokevirtual 99, 3) := by decide +kernel
theorem dTo_taken_8 : decode cTo_taken 8 = .ok (.ifCond .ne 5, 3) := by decide +kernel
theorem dTo_taken_11 : decode cTo_taken 11 = .ok (.iconst (-1), 1) := by decide +kernel
theorem dTo_taken_12 : decode cTo_taken 12 = .ok (.ireturn, 1) := by decide +kernel
theorem dTo_taken_13 : decode cTo_taken 13 = .ok (.aload_n 0, 1) := by decide +kernel
theorem dTo_taken_14 : decode cTo_taken 14 = .ok (.getfield 28, 3) := by decide +kernel
theorem dTo_taken_17 : decode cTo_taken 17 = .ok (.invokevirtual 123, 3) := by decide +kernel
theorem dTo_taken_20 : decode cTo_taken 20 = .ok (.iload_n 2, 1) := by decide +kernel
theorem dTo_taken_21 : decode cTo_taken 21 = .ok (.tableswitch 77 0 3 #[31, 41, 51, 60], 31) := by decide +kernel
theorem dTo_taken_52 : decode cTo_taken 52 = .ok (.aload_n 0, 1) := by decide +kernel
theorem dTo_taken_53 : decode cTo_taken 53 = .ok (.getfield 28, 3) := by decide +kernel
theorem dTo_taken_56 : decode cTo_taken 56 = .ok (.getfield 126, 3) := by decide +kernel
theorem dTo_taken_59 : decode cTo_taken 59 = .ok (.iload_n 1, 1) := by decide +kernel
theorem dTo_taken_60 : decode cTo_taken 60 = .ok (.iaload, 1) := by decide +kernel
theorem dTo_taken_61 : decode cTo_taken 61 = .ok (.ireturn, 1) := by decide +kernel
theorem dTo_taken_62 : decode cTo_taken 62 = .ok (.aload_n 0, 1) := by decide +kernel
theorem dTo_taken_63 : decode cTo_taken 63 = .ok (.getfield 28, 3) := by decide +kernel
theorem dTo_taken_66 : decode cTo_taken 66 = .ok (.getfield 129, 3) := by decide +kernel
theorem dTo_taken_69 : decode cTo_taken 69 = .ok (.iload_n 1, 1) := by decide +kernel
theorem dTo_taken_70 : decode cTo_taken 70 = .ok (.iaload, 1) := by decide +kernel
theorem dTo_taken_71 : decode cTo_taken 71 = .ok (.ireturn, 1) := by decide +kernel
theorem dTo_taken_72 : decode cTo_taken 72 = .ok (.aload_n 0, 1) := by decide +kernel
theorem dTo_taken_73 : decode cTo_taken 73 = .ok (.getfield 28, 3) := by decide +kernel
theorem dTo_taken_76 : decode cTo_taken 76 = .ok (.iload_n 1, 1) := by decide +kernel
theorem dTo_taken_77 : decode cTo_taken 77 = .ok (.invokevirtual 132, 3) := by decide +kernel
theorem dTo_taken_80 : decode cTo_taken 80 = .ok (.ireturn, 1) := by decide +kernel
theorem dTo_taken_81 : decode cTo_taken 81 = .ok (.aload_n 0, 1) := by decide +kernel
theorem dTo_taken_82 : decode cTo_taken 82 = .ok (.getfield 12, 3) := by decide +kernel
theorem dTo_taken_85 : decode cTo_taken 85 = .ok (.aload_n 0, 1) := by decide +kernel
theorem dTo_taken_86 : decode cTo_taken 86 = .ok (.getfield 28, 3) := by decide +kernel
theorem dTo_taken_89 : decode cTo_taken 89 = .ok (.getfield 129, 3) := by decide +kernel
theorem dTo_taken_92 : decode cTo_taken 92 = .ok (.iload_n 1, 1) := by decide +kernel
theorem dTo_taken_93 : decode cTo_taken 93 = .ok (.iaload, 1) := by decide +kernel
theorem dTo_taken_94 : decode cTo_taken 94 = .ok (.invokevirtual 135, 3) := by decide +kernel
theorem dTo_taken_97 : decode cTo_taken 97 = .ok (.ireturn, 1) := by decide +kernel
theorem dTo_taken_98 : decode cTo_taken 98 = .ok (.bipush (-2), 2) := by decide +kernel
theorem dTo_taken_100 : decode cTo_taken 100 = .ok (.ireturn, 1) := by decide +kernel
abbrev cTo_told : ByteArray := prog_1_method_11_code
def yTo_told : MethodName := ⟨RTo, "told", "(I)I"⟩
theorem dTo_told_0 : decode cTo_told 0 = .ok (.iload_n 1, 1) := by decide +kernel
theorem dTo_told_1 : decode cTo_told 1 = .ok (.tableswitch 75 0 4 #[35, 43, 51, 59, 67], 35) := by decide +kernel
theorem dTo_told_36 : decode cTo_told 36 = .ok (.aload_n 0, 1) := by decide +kernel
theorem dTo_told_37 : decode cTo_told 37 = .ok (.getfield 12, 3) := by decide +kernel
theorem dTo_told_40 : decode cTo_told 40 = .ok (.getfield 46, 3) := by decide +kernel
theorem dTo_told_43 : decode cTo_told 43 = .ok (.ireturn, 1) := by decide +kernel
theorem dTo_told_44 : decode cTo_told 44 = .ok (.aload_n 0, 1) := by decide +kernel
theorem dTo_told_45 : decode cTo_told 45 = .ok (.getfield 21, 3) := by decide +kernel
theorem dTo_told_48 : decode cTo_told 48 = .ok (.getfield 138, 3) := by decide +kernel
theorem dTo_told_51 : decode cTo_told 51 = .ok (.ireturn, 1) := by decide +kernel
theorem dTo_told_52 : decode cTo_told 52 = .ok (.aload_n 0, 1) := by decide +kernel
theorem dTo_told_53 : decode cTo_told 53 = .ok (.getfield 21, 3) := by decide +kernel
theorem dTo_told_56 : decode cTo_told 56 = .ok (.getfield 69, 3) := by decide +kernel
theorem dTo_told_59 : decode cTo_told 59 = .ok (.ireturn, 1) := by decide +kernel
theorem dTo_told_60 : decode cTo_told 60 = .ok (.aload_n 0, 1) := by decide +kernel
theorem dTo_told_61 : decode cTo_told 61 = .ok (.getfield 12, 3) := by decide +kernel
theorem dTo_told_64 : decode cTo_told 64 = .ok (.getfield 49, 3) := by decide +kernel
theorem dTo_told_67 : decode cTo_told 67 = .ok (.ireturn, 1) := by decide +kernel
theorem dTo_told_68 : decode cTo_told 68 = .ok (.aload_n 0, 1) := by decide +kernel
theorem dTo_told_69 : decode cTo_told 69 = .ok (.getfield 12, 3) := by decide +kernel
theorem dTo_told_72 : decode cTo_told 72 = .ok (.invokevirtual 141, 3) := by decide +kernel
theorem dTo_told_75 : decode cTo_told 75 = .ok (.ireturn, 1) := by decide +kernel
theorem dTo_told_76 : decode cTo_told 76 = .ok (.aload_n 0, 1) := by decide +kernel
theorem dTo_told_77 : decode cTo_told 77 = .ok (.iload_n 1, 1) := by decide +kernel
theorem dTo_told_78 : decode cTo_told 78 = .ok (.invokevirtual 145, 3) := by decide +kernel
theorem dTo_told_81 : decode cTo_told 81 = .ok (.ireturn, 1) := by decide +kernel
abbrev cTo_total : ByteArray := prog_1_method_12_code
def yTo_total : MethodName := ⟨RTo, "total", "()J"⟩
theorem dTo_total_0 : decode cTo_total 0 = .ok (.aload_n 0, 1) := by decide +kernel
theorem dTo_total_1 : decode cTo_total 1 = .ok (.invokevirtual 148, 3) := by decide +kernel
theorem dTo_total_4 : decode cTo_total 4 = .ok (.ifCond .eq 7, 3) := by decide +kernel
theorem dTo_total_7 : decode cTo_total 7 = .ok (.ldc2_w 151, 3) := by decide +kernel
theorem dTo_total_10 : decode cTo_total 10 = .ok (.lreturn, 1) := by decide +kernel
theorem dTo_total_11 : decode cTo_total 11 = .ok (.aload_n 0, 1) := by decide +kernel
theorem dTo_total_12 : decode cTo_total 12 = .ok (.getfield 37, 3) := by decide +kernel
theorem dTo_total_15 : decode cTo_total 15 = .ok (.invokevirtual 153, 3) := by decide +kernel
theorem dTo_total_18 : decode cTo_total 18 = .ok (.aload_n 0, 1) := by decide +kernel
theorem dTo_total_19 : decode cTo_total 19 = .ok (.getfield 37, 3) := by decide +kernel
theorem dTo_total_22 : decode cTo_total 22 = .ok (.getfield 154, 3) := by decide +kernel
theorem dTo_total_25 : decode cTo_total 25 = .ok (.lreturn, 1) := by decide +kernel
abbrev cTo_share : ByteArray := prog_1_method_13_code
def yTo_share : MethodName := ⟨RTo, "share", "(III)J"⟩
theorem dTo_share_0 : decode cTo_share 0 = .ok (.aload_n 0, 1) := by decide +kernel
theorem dTo_share_1 : decode cTo_share 1 = .ok (.getfield 12, 3) := by decide +kernel
theorem dTo_share_4 : decode cTo_share 4 = .ok (.iload_n 1, 1) := by decide +kernel
theorem dTo_share_5 : decode cTo_share 5 = .ok (.invokevirtual 60, 3) := by decide +kernel
theorem dTo_share_8 : decode cTo_share 8 = .ok (.ifCond .ne 7, 3) := by decide +kernel
theorem dTo_share_11 : decode cTo_share 11 = .ok (.ldc2_w 158, 3) := by decide +kernel
theorem dTo_share_14 : decode cTo_share 14 = .ok (.lreturn, 1) := by decide +kernel
theorem dTo_share_15 : decode cTo_share 15 = .ok (.iload_n 2, 1) := by decide +kernel
theorem dTo_share_16 : decode cTo_share 16 = .ok (.ifCond .lt 24, 3) := by decide +kernel
theorem dTo_share_19 : decode cTo_share 19 = .ok (.iload_n 2, 1) := by decide +kernel
theorem dTo_share_20 : decode cTo_share 20 = .ok (.aload_n 0, 1) := by decide +kernel
theorem dTo_share_21 : decode cTo_share 21 = .ok (.getfield 12, 3) := by decide +kernel
theorem dTo_share_24 : decode cTo_share 24 = .ok (.iload_n 1, 1) := by decide +kernel
theorem dTo_share_25 : decode cTo_share 25 = .ok (.invokevirtual 135, 3) := by decide +kernel
theorem dTo_share_28 : decode cTo_share 28 = .ok (.if_icmp .ge 12, 3) := by decide +kernel
theorem dTo_share_31 : decode cTo_share 31 = .ok (.iload_n 3, 1) := by decide +kernel
theorem dTo_share_32 : decode cTo_share 32 = .ok (.ifCond .lt 8, 3) := by decide +kernel
theorem dTo_share_35 : decode cTo_share 35 = .ok (.iload_n 3, 1) := by decide +kernel
theorem dTo_share_36 : decode cTo_share 36 = .ok (.iconst 1, 1) := by decide +kernel
theorem dTo_share_37 : decode cTo_share 37 = .ok (.if_icmp .le 7, 3) := by decide +kernel
theorem dTo_share_40 : decode cTo_share 40 = .ok (.ldc2_w 160, 3) := by decide +kernel
theorem dTo_share_43 : decode cTo_share 43 = .ok (.lreturn, 1) := by decide +kernel
theorem dTo_share_44 : decode cTo_share 44 = .ok (.aload_n 0, 1) := by decide +kernel
theorem dTo_share_45 : decode cTo_share 45 = .ok (.invokevirtual 148, 3) := by decide +kernel
theorem dTo_share_48 : decode cTo_share 48 = .ok (.ifCond .eq 7, 3) := by decide +kernel
theorem dTo_share_51 : decode cTo_share 51 = .ok (.ldc2_w 151, 3) := by decide +kernel
theorem dTo_share_54 : decode cTo_share 54 = .ok (.lreturn, 1) := by decide +kernel
theorem dTo_share_55 : decode cTo_share 55 = .ok (.aload_n 0, 1) := by decide +kernel
theorem dTo_share_56 : decode cTo_share 56 = .ok (.getfield 37, 3) := by decide +kernel
theorem dTo_share_59 : decode cTo_share 59 = .ok (.invokevirtual 153, 3) := by decide +kernel
theorem dTo_share_62 : decode cTo_share 62 = .ok (.aload_n 0, 1) := by decide +kernel
theorem dTo_share_63 : decode cTo_share 63 = .ok (.getfield 37, 3) := by decide +kernel
theorem dTo_share_66 : decode cTo_share 66 = .ok (.getfield 154, 3) := by decide +kernel
theorem dTo_share_69 : decode cTo_share 69 = .ok (.lconst 0, 1) := by decide +kernel
theorem dTo_share_70 : decode cTo_share 70 = .ok (.lcmp, 1) := by decide +kernel
theorem dTo_share_71 : decode cTo_share 71 = .ok (.ifCond .gt 7, 3) := by decide +kernel
theorem dTo_share_74 : decode cTo_share 74 = .ok (.ldc2_w 162, 3) := by decide +kernel
theorem dTo_share_77 : decode cTo_share 77 = .ok (.lreturn, 1) := by decide +kernel
theorem dTo_share_78 : decode cTo_share 78 = .ok (.aload_n 0, 1) := by decide +kernel
theorem dTo_share_79 : decode cTo_share 79 = .ok (.getfield 37, 3) := by decide +kernel
theorem dTo_share_82 : decode cTo_share 82 = .ok (.iload_n 1, 1) := by decide +kernel
theorem dTo_share_83 : decode cTo_share 83 = .ok (.iload_n 2, 1) := by decide +kernel
theorem dTo_share_84 : decode cTo_share 84 = .ok (.invokevirtual 164, 3) := by decide +kernel
theorem dTo_share_87 : decode cTo_share 87 = .ok (.aload_n 0, 1) := by decide +kernel
theorem dTo_share_88 : decode cTo_share 88 = .ok (.getfield 37, 3) := by decide +kernel
theorem dTo_share_91 : decode cTo_share 91 = .ok (.getfield 168, 3) := by decide +kernel
theorem dTo_share_94 : decode cTo_share 94 = .ok (.aload_n 0, 1) := by decide +kernel
theorem dTo_share_95 : decode cTo_share 95 = .ok (.getfield 37, 3) := by decide +kernel
theorem dTo_share_98 : decode cTo_share 98 = .ok (.getfield 154, 3) := by decide +kernel
theorem dTo_share_101 : decode cTo_share 101 = .ok (.invokestatic 171, 3) := by decide +kernel
theorem dTo_share_104 : decode cTo_share 104 = .ok (.lstore 4, 2) := by decide +kernel
theorem dTo_share_106 : decode cTo_share 106 = .ok (.lload 4, 2) := by decide +kernel
theorem dTo_share_108 : decode cTo_share 108 = .ok (.lconst 0, 1) := by decide +kernel
theorem dTo_share_109 : decode cTo_share 109 = .ok (.lcmp, 1) := by decide +kernel
theorem dTo_share_110 : decode cTo_share 110 = .ok (.ifCond .gt 7, 3) := by decide +kernel
theorem dTo_share_113 : decode cTo_share 113 = .ok (.ldc2_w 162, 3) := by decide +kernel
theorem dTo_share_116 : decode cTo_share 116 = .ok (.lreturn, 1) := by decide +kernel
theorem dTo_share_117 : decode cTo_share 117 = .ok (.iload_n 3, 1) := by decide +kernel
theorem dTo_share_118 : decode cTo_share 118 = .ok (.ifCond .ne 13, 3) := by decide +kernel
theorem dTo_share_121 : decode cTo_share 121 = .ok (.aload_n 0, 1) := by decide +kernel
theorem dTo_share_122 : decode cTo_share 122 = .ok (.getfield 37, 3) := by decide +kernel
theorem dTo_share_125 : decode cTo_share 125 = .ok (.getfield 168, 3) := by decide +kernel
theorem dTo_share_128 : decode cTo_share 128 = .ok (.goto 10, 3) := by decide +kernel
theorem dTo_share_131 : decode cTo_share 131 = .ok (.aload_n 0, 1) := by decide +kernel
theorem dTo_share_132 : decode cTo_share 132 = .ok (.getfield 37, 3) := by decide +kernel
theorem dTo_share_135 : decode cTo_share 135 = .ok (.getfield 154, 3) := by decide +kernel
theorem dTo_share_138 : decode cTo_share 138 = .ok (.lload 4, 2) := by decide +kernel
theorem dTo_share_140 : decode cTo_share 140 = .ok (.ldiv, 1) := by decide +kernel
theorem dTo_share_141 : decode cTo_share 141 = .ok (.lreturn, 1) := by decide +kernel
abbrev cTo_greatest : ByteArray := prog_1_method_14_code
def yTo_greatest : MethodName := ⟨RTo, "greatest", "()J"⟩
theorem dTo_greatest_0 : decode cTo_greatest 0 = .ok (.aload_n 0, 1) := by decide +kernel
theorem dTo_greatest_1 : decode cTo_greatest 1 = .ok (.invokevirtual 148, 3) := by decide +kernel
theorem dTo_greatest_4 : decode cTo_greatest 4 = .ok (.ifCond .eq 7, 3) := by decide +kernel
theorem dTo_greatest_7 : decode cTo_greatest 7 = .ok (.ldc2_w 151, 3) := by decide +kernel
theorem dTo_greatest_10 : decode cTo_greatest 10 = .ok (.lreturn, 1) := by decide +kernel
theorem dTo_greatest_11 : decode cTo_greatest 11 = .ok (.aload_n 0, 1) := by decide +kernel
theorem dTo_greatest_12 : decode cTo_greatest 12 = .ok (.getfield 37, 3) := by decide +kernel
theorem dTo_greatest_15 : decode cTo_greatest 15 = .ok (.invokevirtual 153, 3) := by decide +kernel
theorem dTo_greatest_18 : decode cTo_greatest 18 = .ok (.aload_n 0, 1) := by decide +kernel
theorem dTo_greatest_19 : decode cTo_greatest 19 = .ok (.getfield 37, 3) := by decide +kernel
theorem dTo_greatest_22 : decode cTo_greatest 22 = .ok (.getfield 175, 3) := by decide +kernel
theorem dTo_greatest_25 : decode cTo_greatest 25 = .ok (.ifCond .le 15, 3) := by decide +kernel
theorem dTo_greatest_28 : decode cTo_greatest 28 = .ok (.aload_n 0, 1) := by decide +kernel
theorem dTo_greatest_29 : decode cTo_greatest 29 = .ok (.getfield 37, 3) := by decide +kernel
theorem dTo_greatest_32 : decode cTo_greatest 32 = .ok (.getfield 178, 3) := by decide +kernel
theorem dTo_greatest_35 : decode cTo_greatest 35 = .ok (.iconst 0, 1) := by decide +kernel
theorem dTo_greatest_36 : decode cTo_greatest 36 = .ok (.laload, 1) := by decide +kernel
theorem dTo_greatest_37 : decode cTo_greatest 37 = .ok (.goto 4, 3) := by decide +kernel
theorem dTo_greatest_40 : decode cTo_greatest 40 = .ok (.lconst 0, 1) := by decide +kernel
theorem dTo_greatest_41 : decode cTo_greatest 41 = .ok (.lreturn, 1) := by decide +kernel
abbrev cTo_best : ByteArray := prog_1_method_15_code
def yTo_best : MethodName := ⟨RTo, "best", "(I)I"⟩
theorem dTo_best_0 : decode cTo_best 0 = .ok (.aload_n 0, 1) := by decide +kernel
theorem dTo_best_1 : decode cTo_best 1 = .ok (.getfield 12, 3) := by decide +kernel
theorem dTo_best_4 : decode cTo_best 4 = .ok (.iload_n 1, 1) := by decide +kernel
theorem dTo_best_5 : decode cTo_best 5 = .ok (.invokevirtual 99, 3) := by decide +kernel
theorem dTo_best_8 : decode cTo_best 8 = .ok (.ifCond .ne 5, 3) := by decide +kernel
theorem dTo_best_11 : decode cTo_best 11 = .ok (.iconst (-1), 1) := by decide +kernel
theorem dTo_best_12 : decode cTo_best 12 = .ok (.ireturn, 1) := by decide +kernel
theorem dTo_best_13 : decode cTo_best 13 = .ok (.aload_n 0, 1) := by decide +kernel
theorem dTo_best_14 : decode cTo_best 14 = .ok (.invokevirtual 148, 3) := by decide +kernel
theorem dTo_best_17 : decode cTo_best 17 = .ok (.ifCond .eq 6, 3) := by decide +kernel
theorem dTo_best_20 : decode cTo_best 20 = .ok (.bipush (-4), 2) := by decide +kernel
theorem dTo_best_22 : decode cTo_best 22 = .ok (.ireturn, 1) := by decide +kernel
theorem dTo_best_23 : decode cTo_best 23 = .ok (.aload_n 0, 1) := by decide +kernel
theorem dTo_best_24 : decode cTo_best 24 = .ok (.getfield 37, 3) := by decide +kernel
theorem dTo_best_27 : decode cTo_best 27 = .ok (.invokevirtual 153, 3) := by decide +kernel
theorem dTo_best_30 : decode cTo_best 30 = .ok (.aload_n 0, 1) := by decide +kernel
theorem dTo_best_31 : decode cTo_best 31 = .ok (.getfield 37, 3) := by decide +kernel
theorem dTo_best_34 : decode cTo_best 34 = .ok (.getfield 175, 3) := by decide +kernel
theorem dTo_best_37 : decode cTo_best 37 = .ok (.ifCond .le 23, 3) := by decide +kernel
theorem dTo_best_40 : decode cTo_best 40 = .ok (.aload_n 0, 1) := by decide +kernel
theorem dTo_best_41 : decode cTo_best 41 = .ok (.getfield 12, 3) := by decide +kernel
theorem dTo_best_44 : decode cTo_best 44 = .ok (.aload_n 0, 1) := by decide +kernel
theorem dTo_best_45 : decode cTo_best 45 = .ok (.getfield 37, 3) := by decide +kernel
theorem dTo_best_48 : decode cTo_best 48 = .ok (.getfield 182, 3) := by decide +kernel
theorem dTo_best_51 : decode cTo_best 51 = .ok (.iconst 0, 1) := by decide +kernel
theorem dTo_best_52 : decode cTo_best 52 = .ok (.iaload, 1) := by decide +kernel
theorem dTo_best_53 : decode cTo_best 53 = .ok (.iload_n 1, 1) := by decide +kernel
theorem dTo_best_54 : decode cTo_best 54 = .ok (.invokevirtual 185, 3) := by decide +kernel
theorem dTo_best_57 : decode cTo_best 57 = .ok (.goto 5, 3) := by decide +kernel
theorem dTo_best_60 : decode cTo_best 60 = .ok (.bipush (-3), 2) := by decide +kernel
theorem dTo_best_62 : decode cTo_best 62 = .ok (.ireturn, 1) := by decide +kernel
abbrev cTo_rank : ByteArray := prog_1_method_16_code
def yTo_rank : MethodName := ⟨RTo, "rank", "(II)J"⟩
theorem dTo_rank_0 : decode cTo_rank 0 = .ok (.iload_n 2, 1) := by decide +kernel
theorem dTo_rank_1 : decode cTo_rank 1 = .ok (.iconst (-1), 1) := by decide +kernel
theorem dTo_rank_2 : decode cTo_rank 2 = .ok (.if_icmp .eq 18, 3) := by decide +kernel
theorem dTo_rank_5 : decode cTo_rank 5 = .ok (.aload_n 0, 1) := by decide +kernel
theorem dTo_rank_6 : decode cTo_rank 6 = .ok (.getfield 12, 3) := by decide +kernel
theorem dTo_rank_9 : decode cTo_rank 9 = .ok (.iload_n 2, 1) := by decide +kernel
theorem dTo_rank_10 : decode cTo_rank 10 = .ok (.invokevirtual 99, 3) := by decide +kernel
theorem dTo_rank_13 : decode cTo_rank 13 = .ok (.ifCond .ne 7, 3) := by decide +kernel
theorem dTo_rank_16 : decode cTo_rank 16 = .ok (.ldc2_w 158, 3) := by decide +kernel
theorem dTo_rank_19 : decode cTo_rank 19 = .ok (.lreturn, 1) := by decide +kernel
theorem dTo_rank_20 : decode cTo_rank 20 = .ok (.iload_n 1, 1) := by decide +kernel
theorem dTo_rank_21 : decode cTo_rank 21 = .ok (.ifCond .lt 9, 3) := by decide +kernel
theorem dTo_rank_24 : decode cTo_rank 24 = .ok (.iload_n 1, 1) := by decide +kernel
theorem dTo_rank_25 : decode cTo_rank 25 = .ok (.bipush 24, 2) := by decide +kernel
theorem dTo_rank_27 : decode cTo_rank 27 = .ok (.if_icmp .lt 7, 3) := by decide +kernel
theorem dTo_rank_30 : decode cTo_rank 30 = .ok (.ldc2_w 160, 3) := by decide +kernel
theorem dTo_rank_33 : decode cTo_rank 33 = .ok (.lreturn, 1) := by decide +kernel
theorem dTo_rank_34 : decode cTo_rank 34 = .ok (.aload_n 0, 1) := by decide +kernel
theorem dTo_rank_35 : decode cTo_rank 35 = .ok (.invokevirtual 148, 3) := by decide +kernel
theorem dTo_rank_38 : decode cTo_rank 38 = .ok (.ifCond .eq 7, 3) := by decide +kernel
theorem dTo_rank_41 : decode cTo_rank 41 = .ok (.ldc2_w 151, 3) := by decide +kernel
theorem dTo_rank_44 : decode cTo_rank 44 = .ok (.lreturn, 1) := by decide +kernel
theorem dTo_rank_45 : decode cTo_rank 45 = .ok (.aload_n 0, 1) := by decide +kernel
theorem dTo_rank_46 : decode cTo_rank 46 = .ok (.getfield 37, 3) := by decide +kernel
theorem dTo_rank_49 : decode cTo_rank 49 = .ok (.invokevirtual 153, 3) := by decide +kernel
theorem dTo_rank_52 : decode cTo_rank 52 = .ok (.iload_n 1, 1) := by decide +kernel
theorem dTo_rank_53 : decode cTo_rank 53 = .ok (.aload_n 0, 1) := by decide +kernel
theorem dTo_rank_54 : decode cTo_rank 54 = .ok (.getfield 37, 3) := by decide +kernel
theorem dTo_rank_57 : decode cTo_rank 57 = .ok (.getfield 175, 3) := by decide +kernel
theorem dTo_rank_60 : decode cTo_rank 60 = .ok (.if_icmp .lt 7, 3) := by decide +kernel
theorem dTo_rank_63 : decode cTo_rank 63 = .ok (.ldc2_w 162, 3) := by decide +kernel
theorem dTo_rank_66 : decode cTo_rank 66 = .ok (.lreturn, 1) := by decide +kernel
theorem dTo_rank_67 : decode cTo_rank 67 = .ok (.iload_n 2, 1) := by decide +kernel
theorem dTo_rank_68 : decode cTo_rank 68 = .ok (.iconst (-1), 1) := by decide +kernel
theorem dTo_rank_69 : decode cTo_rank 69 = .ok (.if_icmp .ne 15, 3) := by decide +kernel
theorem dTo_rank_72 : decode cTo_rank 72 = .ok (.aload_n 0, 1) := by decide +kernel
theorem dTo_rank_73 : decode cTo_rank 73 = .ok (.getfield 37, 3) := by decide +kernel
theorem dTo_rank_76 : decode cTo_rank 76 = .ok (.getfield 178, 3) := by decide +kernel
theorem dTo_rank_79 : decode cTo_rank 79 = .ok (.iload_n 1, 1) := by decide +kernel
theorem dTo_rank_80 : decode cTo_rank 80 = .ok (.laload, 1) := by decide +kernel
theorem dTo_rank_81 : decode cTo_rank 81 = .ok (.goto 21, 3) := by decide +kernel
theorem dTo_rank_84 : decode cTo_rank 84 = .ok (.aload_n 0, 1) := by decide +kernel
theorem dTo_rank_85 : decode cTo_rank 85 = .ok (.getfield 12, 3) := by decide +kernel
theorem dTo_rank_88 : decode cTo_rank 88 = .ok (.aload_n 0, 1) := by decide +kernel
theorem dTo_rank_89 : decode cTo_rank 89 = .ok (.getfield 37, 3) := by decide +kernel
theorem dTo_rank_92 : decode cTo_rank 92 = .ok (.getfield 182, 3) := by decide +kernel
theorem dTo_rank_95 : decode cTo_rank 95 = .ok (.iload_n 1, 1) := by decide +kernel
theorem dTo_rank_96 : decode cTo_rank 96 = .ok (.iaload, 1) := by decide +kernel
theorem dTo_rank_97 : decode cTo_rank 97 = .ok (.iload_n 2, 1) := by decide +kernel
theorem dTo_rank_98 : decode cTo_rank 98 = .ok (.invokevirtual 185, 3) := by decide +kernel
theorem dTo_rank_101 : decode cTo_rank 101 = .ok (.i2l, 1) := by decide +kernel
theorem dTo_rank_102 : decode cTo_rank 102 = .ok (.lreturn, 1) := by decide +kernel
abbrev cTo_support : ByteArray := prog_1_method_17_code
def yTo_support : MethodName := ⟨RTo, "support", "()I"⟩
theorem dTo_support_0 : decode cTo_support 0 = .ok (.aload_n 0, 1) := by decide +kernel
theorem dTo_support_1 : decode cTo_support 1 = .ok (.invokevirtual 148, 3) := by decide +kernel
theorem dTo_support_4 : decode cTo_support 4 = .ok (.ifCond .eq 6, 3) := by decide +kernel
theorem dTo_support_7 : decode cTo_support 7 = .ok (.bipush (-4), 2) := by decide +kernel
theorem dTo_support_9 : decode cTo_support 9 = .ok (.ireturn, 1) := by decide +kernel
theorem dTo_support_10 : decode cTo_support 10 = .ok (.aload_n 0, 1) := by decide +kernel
theorem dTo_support_11 : decode cTo_support 11 = .ok (.getfield 37, 3) := by decide +kernel
theorem dTo_support_14 : decode cTo_support 14 = .ok (.invokevirtual 153, 3) := by decide +kernel
theorem dTo_support_17 : decode cTo_support 17 = .ok (.aload_n 0, 1) := by decide +kernel
theorem dTo_support_18 : decode cTo_support 18 = .ok (.getfield 37, 3) := by decide +kernel
theorem dTo_support_21 : decode cTo_support 21 = .ok (.getfield 188, 3) := by decide +kernel
theorem dTo_support_24 : decode cTo_support 24 = .ok (.ireturn, 1) := by decide +kernel
abbrev cTo_among : ByteArray := prog_1_method_18_code
def yTo_among : MethodName := ⟨RTo, "among", "(II)I"⟩
theorem dTo_among_0 : decode cTo_among 0 = .ok (.aload_n 0, 1) := by decide +kernel
theorem dTo_among_1 : decode cTo_among 1 = .ok (.getfield 12, 3) := by decide +kernel
theorem dTo_among_4 : decode cTo_among 4 = .ok (.iload_n 1, 1) := by decide +kernel
theorem dTo_among_5 : decode cTo_among 5 = .ok (.invokevirtual 99, 3) := by decide +kernel
theorem dTo_among_8 : decode cTo_among 8 = .ok (.ifCond .ne 5, 3) := by decide +kernel
theorem dTo_among_11 : decode cTo_among 11 = .ok (.iconst (-1), 1) := by decide +kernel
theorem dTo_among_12 : decode cTo_among 12 = .ok (.ireturn, 1) := by decide +kernel
theorem dTo_among_13 : decode cTo_among 13 = .ok (.aload_n 0, 1) := by decide +kernel
theorem dTo_among_14 : decode cTo_among 14 = .ok (.getfield 12, 3) := by decide +kernel
theorem dTo_among_17 : decode cTo_among 17 = .ok (.iload_n 1, 1) := by decide +kernel
theorem dTo_among_18 : decode cTo_among 18 = .ok (.iload_n 2, 1) := by decide +kernel
theorem dTo_among_19 : decode cTo_among 19 = .ok (.invokevirtual 102, 3) := by decide +kernel
theorem dTo_among_22 : decode cTo_among 22 = .ok (.ifCond .ne 6, 3) := by decide +kernel
theorem dTo_among_25 : decode cTo_among 25 = .ok (.bipush (-2), 2) := by decide +kernel
theorem dTo_among_27 : decode cTo_among 27 = .ok (.ireturn, 1) := by decide +kernel
theorem dTo_among_28 : decode cTo_among 28 = .ok (.aload_n 0, 1) := by decide +kernel
theorem dTo_among_29 : decode cTo_among 29 = .ok (.invokevirtual 148, 3) := by decide +kernel
theorem dTo_among_32 : decode cTo_among 32 = .ok (.ifCond .eq 6, 3) := by decide +kernel
theorem dTo_among_35 : decode cTo_among 35 = .ok (.bipush (-4), 2) := by decide +kernel
theorem dTo_among_37 : decode cTo_among 37 = .ok (.ireturn, 1) := by decide +kernel
theorem dTo_among_38 : decode cTo_among 38 = .ok (.aload_n 0, 1) := by decide +kernel
theorem dTo_among_39 : decode cTo_among 39 = .ok (.getfield 37, 3) := by decide +kernel
theorem dTo_among_42 : decode cTo_among 42 = .ok (.invokevirtual 153, 3) := by decide +kernel
theorem dTo_among_45 : decode cTo_among 45 = .ok (.aload_n 0, 1) := by decide +kernel
theorem dTo_among_46 : decode cTo_among 46 = .ok (.getfield 37, 3) := by decide +kernel
theorem dTo_among_49 : decode cTo_among 49 = .ok (.iconst 1, 1) := by decide +kernel
theorem dTo_among_50 : decode cTo_among 50 = .ok (.iload_n 1, 1) := by decide +kernel
theorem dTo_among_51 : decode cTo_among 51 = .ok (.ishl, 1) := by decide +kernel
theorem dTo_among_52 : decode cTo_among 52 = .ok (.iload_n 2, 1) := by decide +kernel
theorem dTo_among_53 : decode cTo_among 53 = .ok (.invokevirtual 164, 3) := by decide +kernel
theorem dTo_among_56 : decode cTo_among 56 = .ok (.aload_n 0, 1) := by decide +kernel
theorem dTo_among_57 : decode cTo_among 57 = .ok (.getfield 37, 3) := by decide +kernel
theorem dTo_among_60 : decode cTo_among 60 = .ok (.getfield 191, 3) := by decide +kernel
theorem dTo_among_63 : decode cTo_among 63 = .ok (.ireturn, 1) := by decide +kernel
abbrev cTo_drawn : ByteArray := prog_1_method_19_code
def yTo_drawn : MethodName := ⟨RTo, "drawn", "(JI)I"⟩
theorem dTo_drawn_0 : decode cTo_drawn 0 = .ok (.aload_n 0, 1) := by decide +kernel
theorem dTo_drawn_1 : decode cTo_drawn 1 = .ok (.getfield 12, 3) := by decide +kernel
theorem dTo_drawn_4 : decode cTo_drawn 4 = .ok (.iload_n 3, 1) := by decide +kernel
theorem dTo_drawn_5 : decode cTo_drawn 5 = .ok (.invokevirtual 99, 3) := by decide +kernel
theorem dTo_drawn_8 : decode cTo_drawn 8 = .ok (.ifCond .ne 5, 3) := by decide +kernel
theorem dTo_drawn_11 : decode cTo_drawn 11 = .ok (.iconst (-1), 1) := by decide +kernel
theorem dTo_drawn_12 : decode cTo_drawn 12 = .ok (.ireturn, 1) := by decide +kernel
theorem dTo_drawn_13 : decode cTo_drawn 13 = .ok (.lload_n 1, 1) := by decide +kernel
theorem dTo_drawn_14 : decode cTo_drawn 14 = .ok (.lconst 0, 1) := by decide +kernel
theorem dTo_drawn_15 : decode cTo_drawn 15 = .ok (.lcmp, 1) := by decide +kernel
theorem dTo_drawn_16 : decode cTo_drawn 16 = .ok (.ifCond .ge 6, 3) := by decide +kernel
theorem dTo_drawn_19 : decode cTo_drawn 19 = .ok (.bipush (-2), 2) := by decide +kernel
theorem dTo_drawn_21 : decode cTo_drawn 21 = .ok (.ireturn, 1) := by decide +kernel
theorem dTo_drawn_22 : decode cTo_drawn 22 = .ok (.aload_n 0, 1) := by decide +kernel
theorem dTo_drawn_23 : decode cTo_drawn 23 = .ok (.invokevirtual 148, 3) := by decide +kernel
theorem dTo_drawn_26 : decode cTo_drawn 26 = .ok (.ifCond .eq 6, 3) := by decide +kernel
theorem dTo_drawn_29 : decode cTo_drawn 29 = .ok (.bipush (-4), 2) := by decide +kernel
theorem dTo_drawn_31 : decode cTo_drawn 31 = .ok (.ireturn, 1) := by decide +kernel
theorem dTo_drawn_32 : decode cTo_drawn 32 = .ok (.aload_n 0, 1) := by decide +kernel
theorem dTo_drawn_33 : decode cTo_drawn 33 = .ok (.getfield 37, 3) := by decide +kernel
theorem dTo_drawn_36 : decode cTo_drawn 36 = .ok (.invokevirtual 153, 3) := by decide +kernel
theorem dTo_drawn_39 : decode cTo_drawn 39 = .ok (.lload_n 1, 1) := by decide +kernel
theorem dTo_drawn_40 : decode cTo_drawn 40 = .ok (.aload_n 0, 1) := by decide +kernel
theorem dTo_drawn_41 : decode cTo_drawn 41 = .ok (.getfield 37, 3) := by decide +kernel
theorem dTo_drawn_44 : decode cTo_drawn 44 = .ok (.getfield 154, 3) := by decide +kernel
theorem dTo_drawn_47 : decode cTo_drawn 47 = .ok (.lcmp, 1) := by decide +kernel
theorem dTo_drawn_48 : decode cTo_drawn 48 = .ok (.ifCond .ge 22, 3) := by decide +kernel
theorem dTo_drawn_51 : decode cTo_drawn 51 = .ok (.aload_n 0, 1) := by decide +kernel
theorem dTo_drawn_52 : decode cTo_drawn 52 = .ok (.getfield 12, 3) := by decide +kernel
theorem dTo_drawn_55 : decode cTo_drawn 55 = .ok (.aload_n 0, 1) := by decide +kernel
theorem dTo_drawn_56 : decode cTo_drawn 56 = .ok (.getfield 37, 3) := by decide +kernel
theorem dTo_drawn_59 : decode cTo_drawn 59 = .ok (.lload_n 1, 1) := by decide +kernel
theorem dTo_drawn_60 : decode cTo_drawn 60 = .ok (.invokevirtual 194, 3) := by decide +kernel
theorem dTo_drawn_63 : decode cTo_drawn 63 = .ok (.iload_n 3, 1) := by decide +kernel
theorem dTo_drawn_64 : decode cTo_drawn 64 = .ok (.invokevirtual 185, 3) := by decide +kernel
theorem dTo_drawn_67 : decode cTo_drawn 67 = .ok (.goto 5, 3) := by decide +kernel
theorem dTo_drawn_70 : decode cTo_drawn 70 = .ok (.bipush (-3), 2) := by decide +kernel
theorem dTo_drawn_72 : decode cTo_drawn 72 = .ok (.ireturn, 1) := by decide +kernel
abbrev cTo_apart : ByteArray := prog_1_method_20_code
def yTo_apart : MethodName := ⟨RTo, "apart", "(III)I"⟩
theorem dTo_apart_0 : decode cTo_apart 0 = .ok (.aload_n 0, 1) := by decide +kernel
theorem dTo_apart_1 : decode cTo_apart 1 = .ok (.getfield 12, 3) := by decide +kernel
theorem dTo_apart_4 : decode cTo_apart 4 = .ok (.iload_n 1, 1) := by decide +kernel
theorem dTo_apart_5 : decode cTo_apart 5 = .ok (.invokevirtual 99, 3) := by decide +kernel
theorem dTo_apart_8 : decode cTo_apart 8 = .ok (.ifCond .eq 25, 3) := by decide +kernel
theorem dTo_apart_11 : decode cTo_apart 11 = .ok (.aload_n 0, 1) := by decide +kernel
theorem dTo_apart_12 : decode cTo_apart 12 = .ok (.getfield 12, 3) := by decide +kernel
theorem dTo_apart_15 : decode cTo_apart 15 = .ok (.iload_n 2, 1) := by decide +kernel
theorem dTo_apart_16 : decode cTo_apart 16 = .ok (.invokevirtual 99, 3) := by decide +kernel
theorem dTo_apart_19 : decode cTo_apart 19 = .ok (.ifCond .eq 14, 3) := by decide +kernel
theorem dTo_apart_22 : decode cTo_apart 22 = .ok (.aload_n 0, 1) := by decide +kernel
theorem dTo_apart_23 : decode cTo_apart 23 = .ok (.getfield 12, 3) := by decide +kernel
theorem dTo_apart_26 : decode cTo_apart 26 = .ok (.iload_n 3, 1) := by decide +kernel
theorem dTo_apart_27 : decode cTo_apart 27 = .ok (.invokevirtual 60, 3) := by decide +kernel
theorem dTo_apart_30 : decode cTo_apart 30 = .ok (.ifCond .ne 5, 3) := by decide +kernel
theorem dTo_apart_33 : decode cTo_apart 33 = .ok (.iconst (-1), 1) := by decide +kernel
theorem dTo_apart_34 : decode cTo_apart 34 = .ok (.ireturn, 1) := by decide +kernel
theorem dTo_apart_35 : decode cTo_apart 35 = .ok (.iconst 1, 1) := by decide +kernel
theorem dTo_apart_36 : decode cTo_apart 36 = .ok (.iload_n 1, 1) := by decide +kernel
theorem dTo_apart_37 : decode cTo_apart 37 = .ok (.ishl, 1) := by decide +kernel
theorem dTo_apart_38 : decode cTo_apart 38 = .ok (.iconst 1, 1) := by decide +kernel
theorem dTo_apart_39 : decode cTo_apart 39 = .ok (.iload_n 2, 1) := by decide +kernel
theorem dTo_apart_40 : decode cTo_apart 40 = .ok (.ishl, 1) := by decide +kernel
theorem dTo_apart_41 : decode cTo_apart 41 = .ok (.ior, 1) := by decide +kernel
theorem dTo_apart_42 : decode cTo_apart 42 = .ok (.istore 4, 2) := by decide +kernel
theorem dTo_apart_44 : decode cTo_apart 44 = .ok (.iload 4, 2) := by decide +kernel
theorem dTo_apart_46 : decode cTo_apart 46 = .ok (.iload_n 3, 1) := by decide +kernel
theorem dTo_apart_47 : decode cTo_apart 47 = .ok (.iand, 1) := by decide +kernel
theorem dTo_apart_48 : decode cTo_apart 48 = .ok (.ifCond .eq 5, 3) := by decide +kernel
theorem dTo_apart_51 : decode cTo_apart 51 = .ok (.iconst 1, 1) := by decide +kernel
theorem dTo_apart_52 : decode cTo_apart 52 = .ok (.ireturn, 1) := by decide +kernel
theorem dTo_apart_53 : decode cTo_apart 53 = .ok (.aload_n 0, 1) := by decide +kernel
theorem dTo_apart_54 : decode cTo_apart 54 = .ok (.getfield 12, 3) := by decide +kernel
theorem dTo_apart_57 : decode cTo_apart 57 = .ok (.iload_n 1, 1) := by decide +kernel
theorem dTo_apart_58 : decode cTo_apart 58 = .ok (.iload_n 3, 1) := by decide +kernel
theorem dTo_apart_59 : decode cTo_apart 59 = .ok (.iconst (-1), 1) := by decide +kernel
theorem dTo_apart_60 : decode cTo_apart 60 = .ok (.ixor, 1) := by decide +kernel
theorem dTo_apart_61 : decode cTo_apart 61 = .ok (.invokevirtual 198, 3) := by decide +kernel
theorem dTo_apart_64 : decode cTo_apart 64 = .ok (.iconst 1, 1) := by decide +kernel
theorem dTo_apart_65 : decode cTo_apart 65 = .ok (.iload_n 2, 1) := by decide +kernel
theorem dTo_apart_66 : decode cTo_apart 66 = .ok (.ishl, 1) := by decide +kernel
theorem dTo_apart_67 : decode cTo_apart 67 = .ok (.iand, 1) := by decide +kernel
theorem dTo_apart_68 : decode cTo_apart 68 = .ok (.ifCond .ne 7, 3) := by decide +kernel
theorem dTo_apart_71 : decode cTo_apart 71 = .ok (.iconst 1, 1) := by decide +kernel
theorem dTo_apart_72 : decode cTo_apart 72 = .ok (.goto 4, 3) := by decide +kernel
theorem dTo_apart_75 : decode cTo_apart 75 = .ok (.iconst 0, 1) := by decide +kernel
theorem dTo_apart_76 : decode cTo_apart 76 = .ok (.ireturn, 1) := by decide +kernel
abbrev cTo_weight : ByteArray := prog_1_method_21_code
def yTo_weight : MethodName := ⟨RTo, "weight", "(I)J"⟩
theorem dTo_weight_0 : decode cTo_weight 0 = .ok (.iload_n 1, 1) := by decide +kernel
theorem dTo_weight_1 : decode cTo_weight 1 = .ok (.ifCond .lt 14, 3) := by decide +kernel
theorem dTo_weight_4 : decode cTo_weight 4 = .ok (.iload_n 1, 1) := by decide +kernel
theorem dTo_weight_5 : decode cTo_weight 5 = .ok (.aload_n 0, 1) := by decide +kernel
theorem dTo_weight_6 : decode cTo_weight 6 = .ok (.getfield 12, 3) := by decide +kernel
theorem dTo_weight_9 : decode cTo_weight 9 = .ok (.getfield 49, 3) := by decide +kernel
theorem dTo_weight_12 : decode cTo_weight 12 = .ok (.if_icmp .lt 9, 3) := by decide +kernel
theorem dTo_weight_15 : decode cTo_weight 15 = .ok (.ldc2_w 160, 3) := by decide +kernel
theorem dTo_weight_18 : decode cTo_weight 18 = .ok (.goto 11, 3) := by decide +kernel
theorem dTo_weight_21 : decode cTo_weight 21 = .ok (.aload_n 0, 1) := by decide +kernel
theorem dTo_weight_22 : decode cTo_weight 22 = .ok (.getfield 37, 3) := by decide +kernel
theorem dTo_weight_25 : decode cTo_weight 25 = .ok (.iload_n 1, 1) := by decide +kernel
theorem dTo_weight_26 : decode cTo_weight 26 = .ok (.invokevirtual 201, 3) := by decide +kernel
theorem dTo_weight_29 : decode cTo_weight 29 = .ok (.lreturn, 1) := by decide +kernel
abbrev cTo_toldOfOrder : ByteArray := prog_1_method_22_code
def yTo_toldOfOrder : MethodName := ⟨RTo, "toldOfOrder", "(I)I"⟩
theorem dTo_toldOfOrder_0 : decode cTo_toldOfOrder 0 = .ok (.aload_n 0, 1) := by decide +kernel
theorem dTo_toldOfOrder_1 : decode cTo_toldOfOrder 1 = .ok (.getfield 28, 3) := by decide +kernel
theorem dTo_toldOfOrder_4 : decode cTo_toldOfOrder 4 = .ok (.invokevirtual 123, 3) := by decide +kernel
theorem dTo_toldOfOrder_7 : decode cTo_toldOfOrder 7 = .ok (.iload_n 1, 1) := by decide +kernel
theorem dTo_toldOfOrder_8 : decode cTo_toldOfOrder 8 = .ok (.tableswitch 76 5 9 #[36, 44, 52, 60, 68], 36) := by decide +kernel
theorem dTo_toldOfOrder_44 : decode cTo_toldOfOrder 44 = .ok (.aload_n 0, 1) := by decide +kernel
theorem dTo_toldOfOrder_45 : decode cTo_toldOfOrder 45 = .ok (.getfield 28, 3) := by decide +kernel
theorem dTo_toldOfOrder_48 : decode cTo_toldOfOrder 48 = .ok (.getfield 205, 3) := by decide +kernel
theorem dTo_toldOfOrder_51 : decode cTo_toldOfOrder 51 = .ok (.ireturn, 1) := by decide +kernel
theorem dTo_toldOfOrder_52 : decode cTo_toldOfOrder 52 = .ok (.aload_n 0, 1) := by decide +kernel
theorem dTo_toldOfOrder_53 : decode cTo_toldOfOrder 53 = .ok (.getfield 28, 3) := by decide +kernel
theorem dTo_toldOfOrder_56 : decode cTo_toldOfOrder 56 = .ok (.getfield 120, 3) := by decide +kernel
theorem dTo_toldOfOrder_59 : decode cTo_toldOfOrder 59 = .ok (.ireturn, 1) := by decide +kernel
theorem dTo_toldOfOrder_60 : decode cTo_toldOfOrder 60 = .ok (.aload_n 0, 1) := by decide +kernel
theorem dTo_toldOfOrder_61 : decode cTo_toldOfOrder 61 = .ok (.getfield 28, 3) := by decide +kernel
theorem dTo_toldOfOrder_64 : decode cTo_toldOfOrder 64 = .ok (.getfield 208, 3) := by decide +kernel
theorem dTo_toldOfOrder_67 : decode cTo_toldOfOrder 67 = .ok (.ireturn, 1) := by decide +kernel
theorem dTo_toldOfOrder_68 : decode cTo_toldOfOrder 68 = .ok (.aload_n 0, 1) := by decide +kernel
theorem dTo_toldOfOrder_69 : decode cTo_toldOfOrder 69 = .ok (.getfield 28, 3) := by decide +kernel
theorem dTo_toldOfOrder_72 : decode cTo_toldOfOrder 72 = .ok (.getfield 211, 3) := by decide +kernel
theorem dTo_toldOfOrder_75 : decode cTo_toldOfOrder 75 = .ok (.ireturn, 1) := by decide +kernel
theorem dTo_toldOfOrder_76 : decode cTo_toldOfOrder 76 = .ok (.aload_n 0, 1) := by decide +kernel
theorem dTo_toldOfOrder_77 : decode cTo_toldOfOrder 77 = .ok (.getfield 28, 3) := by decide +kernel
theorem dTo_toldOfOrder_80 : decode cTo_toldOfOrder 80 = .ok (.getfield 214, 3) := by decide +kernel
theorem dTo_toldOfOrder_83 : decode cTo_toldOfOrder 83 = .ok (.ireturn, 1) := by decide +kernel
theorem dTo_toldOfOrder_84 : decode cTo_toldOfOrder 84 = .ok (.bipush (-2), 2) := by decide +kernel
theorem dTo_toldOfOrder_86 : decode cTo_toldOfOrder 86 = .ok (.ireturn, 1) := by decide +kernel
abbrev cTo_lacksMemory : ByteArray := prog_1_method_23_code
def yTo_lacksMemory : MethodName := ⟨RTo, "lacksMemory", "()Z"⟩
theorem dTo_lacksMemory_0 : decode cTo_lacksMemory 0 = .ok (.aload_n 0, 1) := by decide +kernel
theorem dTo_lacksMemory_1 : decode cTo_lacksMemory 1 = .ok (.getfield 28, 3) := by decide +kernel
theorem dTo_lacksMemory_4 : decode cTo_lacksMemory 4 = .ok (.invokevirtual 123, 3) := by decide +kernel
theorem dTo_lacksMemory_7 : decode cTo_lacksMemory 7 = .ok (.aload_n 0, 1) := by decide +kernel
theorem dTo_lacksMemory_8 : decode cTo_lacksMemory 8 = .ok (.getfield 28, 3) := by decide +kernel
theorem dTo_lacksMemory_11 : decode cTo_lacksMemory 11 = .ok (.getfield 214, 3) := by decide +kernel
theorem dTo_lacksMemory_14 : decode cTo_lacksMemory 14 = .ok (.aload_n 0, 1) := by decide +kernel
theorem dTo_lacksMemory_15 : decode cTo_lacksMemory 15 = .ok (.getfield 42, 3) := by decide +kernel
theorem dTo_lacksMemory_18 : decode cTo_lacksMemory 18 = .ok (.if_icmp .le 7, 3) := by decide +kernel
theorem dTo_lacksMemory_21 : decode cTo_lacksMemory 21 = .ok (.iconst 1, 1) := by decide +kernel
theorem dTo_lacksMemory_22 : decode cTo_lacksMemory 22 = .ok (.goto 4, 3) := by decide +kernel
theorem dTo_lacksMemory_25 : decode cTo_lacksMemory 25 = .ok (.iconst 0, 1) := by decide +kernel
theorem dTo_lacksMemory_26 : decode cTo_lacksMemory 26 = .ok (.ireturn, 1) := by decide +kernel
abbrev cTo_commonDivisor : ByteArray := prog_1_method_24_code
def yTo_commonDivisor : MethodName := ⟨RTo, "commonDivisor", "(JJ)J"⟩
theorem dTo_commonDivisor_0 : decode cTo_commonDivisor 0 = .ok (.lload_n 0, 1) := by decide +kernel
theorem dTo_commonDivisor_1 : decode cTo_commonDivisor 1 = .ok (.lstore 4, 2) := by decide +kernel
theorem dTo_commonDivisor_3 : decode cTo_commonDivisor 3 = .ok (.lload_n 2, 1) := by decide +kernel
theorem dTo_commonDivisor_4 : decode cTo_commonDivisor 4 = .ok (.lstore 6, 2) := by decide +kernel
theorem dTo_commonDivisor_6 : decode cTo_commonDivisor 6 = .ok (.iconst 0, 1) := by decide +kernel
theorem dTo_commonDivisor_7 : decode cTo_commonDivisor 7 = .ok (.istore 8, 2) := by decide +kernel
theorem dTo_commonDivisor_9 : decode cTo_commonDivisor 9 = .ok (.iload 8, 2) := by decide +kernel
theorem dTo_commonDivisor_11 : decode cTo_commonDivisor 11 = .ok (.sipush 128, 3) := by decide +kernel
theorem dTo_commonDivisor_14 : decode cTo_commonDivisor 14 = .ok (.if_icmp .ge 31, 3) := by decide +kernel
theorem dTo_commonDivisor_17 : decode cTo_commonDivisor 17 = .ok (.lload 6, 2) := by decide +kernel
theorem dTo_commonDivisor_19 : decode cTo_commonDivisor 19 = .ok (.lconst 0, 1) := by decide +kernel
theorem dTo_commonDivisor_20 : decode cTo_commonDivisor 20 = .ok (.lcmp, 1) := by decide +kernel
theorem dTo_commonDivisor_21 : decode cTo_commonDivisor 21 = .ok (.ifCond .eq 24, 3) := by decide +kernel
theorem dTo_commonDivisor_24 : decode cTo_commonDivisor 24 = .ok (.lload 4, 2) := by decide +kernel
theorem dTo_commonDivisor_26 : decode cTo_commonDivisor 26 = .ok (.lload 6, 2) := by decide +kernel
theorem dTo_commonDivisor_28 : decode cTo_commonDivisor 28 = .ok (.lrem, 1) := by decide +kernel
theorem dTo_commonDivisor_29 : decode cTo_commonDivisor 29 = .ok (.lstore 9, 2) := by decide +kernel
theorem dTo_commonDivisor_31 : decode cTo_commonDivisor 31 = .ok (.lload 6, 2) := by decide +kernel
theorem dTo_commonDivisor_33 : decode cTo_commonDivisor 33 = .ok (.lstore 4, 2) := by decide +kernel
theorem dTo_commonDivisor_35 : decode cTo_commonDivisor 35 = .ok (.lload 9, 2) := by decide +kernel
theorem dTo_commonDivisor_37 : decode cTo_commonDivisor 37 = .ok (.lstore 6, 2) := by decide +kernel
theorem dTo_commonDivisor_39 : decode cTo_commonDivisor 39 = .ok (.iinc 8 1, 3) := by decide +kernel
theorem dTo_commonDivisor_42 : decode cTo_commonDivisor 42 = .ok (.goto (-33), 3) := by decide +kernel
theorem dTo_commonDivisor_45 : decode cTo_commonDivisor 45 = .ok (.lload 4, 2) := by decide +kernel
theorem dTo_commonDivisor_47 : decode cTo_commonDivisor 47 = .ok (.lreturn, 1) := by decide +kernel
