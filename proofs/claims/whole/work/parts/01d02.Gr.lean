abbrev cGr_init : ByteArray := prog_4_method_1_code
def yGr_init : MethodName := ⟨RGr, "<init>", "()V"⟩
theorem dGr_init_0 : decode cGr_init 0 = .ok (.aload_n 0, 1) := by decide +kernel
theorem dGr_init_1 : decode cGr_init 1 = .ok (.invokespecial 3, 3) := by decide +kernel
theorem dGr_init_4 : decode cGr_init 4 = .ok (.aload_n 0, 1) := by decide +kernel
theorem dGr_init_5 : decode cGr_init 5 = .ok (.bipush 12, 2) := by decide +kernel
theorem dGr_init_7 : decode cGr_init 7 = .ok (.newarray .int, 2) := by decide +kernel
theorem dGr_init_9 : decode cGr_init 9 = .ok (.putfield 9, 3) := by decide +kernel
theorem dGr_init_12 : decode cGr_init 12 = .ok (.aload_n 0, 1) := by decide +kernel
theorem dGr_init_13 : decode cGr_init 13 = .ok (.bipush 12, 2) := by decide +kernel
theorem dGr_init_15 : decode cGr_init 15 = .ok (.newarray .int, 2) := by decide +kernel
theorem dGr_init_17 : decode cGr_init 17 = .ok (.putfield 15, 3) := by decide +kernel
theorem dGr_init_20 : decode cGr_init 20 = .ok (.aload_n 0, 1) := by decide +kernel
theorem dGr_init_21 : decode cGr_init 21 = .ok (.iconst 1, 1) := by decide +kernel
theorem dGr_init_22 : decode cGr_init 22 = .ok (.putfield 18, 3) := by decide +kernel
theorem dGr_init_25 : decode cGr_init 25 = .ok (.return_, 1) := by decide +kernel
abbrev cGr_addName : ByteArray := prog_4_method_2_code
def yGr_addName : MethodName := ⟨RGr, "addName", "(I)I"⟩
theorem dGr_addName_0 : decode cGr_addName 0 = .ok (.aload_n 0, 1) := by decide +kernel
theorem dGr_addName_1 : decode cGr_addName 1 = .ok (.getfield 22, 3) := by decide +kernel
theorem dGr_addName_4 : decode cGr_addName 4 = .ok (.istore_n 2, 1) := by decide +kernel
theorem dGr_addName_5 : decode cGr_addName 5 = .ok (.iload_n 2, 1) := by decide +kernel
theorem dGr_addName_6 : decode cGr_addName 6 = .ok (.bipush 12, 2) := by decide +kernel
theorem dGr_addName_8 : decode cGr_addName 8 = .ok (.if_icmp .ge 27, 3) := by decide +kernel
theorem dGr_addName_11 : decode cGr_addName 11 = .ok (.aload_n 0, 1) := by decide +kernel
theorem dGr_addName_12 : decode cGr_addName 12 = .ok (.getfield 9, 3) := by decide +kernel
theorem dGr_addName_15 : decode cGr_addName 15 = .ok (.iload_n 2, 1) := by decide +kernel
theorem dGr_addName_16 : decode cGr_addName 16 = .ok (.iload_n 1, 1) := by decide +kernel
theorem dGr_addName_17 : decode cGr_addName 17 = .ok (.iastore, 1) := by decide +kernel
theorem dGr_addName_18 : decode cGr_addName 18 = .ok (.aload_n 0, 1) := by decide +kernel
theorem dGr_addName_19 : decode cGr_addName 19 = .ok (.iload_n 2, 1) := by decide +kernel
theorem dGr_addName_20 : decode cGr_addName 20 = .ok (.iconst 1, 1) := by decide +kernel
theorem dGr_addName_21 : decode cGr_addName 21 = .ok (.iadd, 1) := by decide +kernel
theorem dGr_addName_22 : decode cGr_addName 22 = .ok (.putfield 22, 3) := by decide +kernel
theorem dGr_addName_25 : decode cGr_addName 25 = .ok (.aload_n 0, 1) := by decide +kernel
theorem dGr_addName_26 : decode cGr_addName 26 = .ok (.aload_n 0, 1) := by decide +kernel
theorem dGr_addName_27 : decode cGr_addName 27 = .ok (.getfield 18, 3) := by decide +kernel
theorem dGr_addName_30 : decode cGr_addName 30 = .ok (.iload_n 1, 1) := by decide +kernel
theorem dGr_addName_31 : decode cGr_addName 31 = .ok (.imul, 1) := by decide +kernel
theorem dGr_addName_32 : decode cGr_addName 32 = .ok (.putfield 18, 3) := by decide +kernel
theorem dGr_addName_35 : decode cGr_addName 35 = .ok (.iload_n 2, 1) := by decide +kernel
theorem dGr_addName_36 : decode cGr_addName 36 = .ok (.ireturn, 1) := by decide +kernel
abbrev cGr_join : ByteArray := prog_4_method_3_code
def yGr_join : MethodName := ⟨RGr, "join", "(I)V"⟩
theorem dGr_join_0 : decode cGr_join 0 = .ok (.iconst 0, 1) := by decide +kernel
theorem dGr_join_1 : decode cGr_join 1 = .ok (.istore_n 2, 1) := by decide +kernel
theorem dGr_join_2 : decode cGr_join 2 = .ok (.iload_n 2, 1) := by decide +kernel
theorem dGr_join_3 : decode cGr_join 3 = .ok (.aload_n 0, 1) := by decide +kernel
theorem dGr_join_4 : decode cGr_join 4 = .ok (.getfield 22, 3) := by decide +kernel
theorem dGr_join_7 : decode cGr_join 7 = .ok (.if_icmp .ge 33, 3) := by decide +kernel
theorem dGr_join_10 : decode cGr_join 10 = .ok (.iload_n 1, 1) := by decide +kernel
theorem dGr_join_11 : decode cGr_join 11 = .ok (.iconst 1, 1) := by decide +kernel
theorem dGr_join_12 : decode cGr_join 12 = .ok (.iload_n 2, 1) := by decide +kernel
theorem dGr_join_13 : decode cGr_join 13 = .ok (.ishl, 1) := by decide +kernel
theorem dGr_join_14 : decode cGr_join 14 = .ok (.iand, 1) := by decide +kernel
theorem dGr_join_15 : decode cGr_join 15 = .ok (.ifCond .eq 19, 3) := by decide +kernel
theorem dGr_join_18 : decode cGr_join 18 = .ok (.aload_n 0, 1) := by decide +kernel
theorem dGr_join_19 : decode cGr_join 19 = .ok (.getfield 15, 3) := by decide +kernel
theorem dGr_join_22 : decode cGr_join 22 = .ok (.iload_n 2, 1) := by decide +kernel
theorem dGr_join_23 : decode cGr_join 23 = .ok (.dup2, 1) := by decide +kernel
theorem dGr_join_24 : decode cGr_join 24 = .ok (.iaload, 1) := by decide +kernel
theorem dGr_join_25 : decode cGr_join 25 = .ok (.iload_n 1, 1) := by decide +kernel
theorem dGr_join_26 : decode cGr_join 26 = .ok (.iconst 1, 1) := by decide +kernel
theorem dGr_join_27 : decode cGr_join 27 = .ok (.iload_n 2, 1) := by decide +kernel
theorem dGr_join_28 : decode cGr_join 28 = .ok (.ishl, 1) := by decide +kernel
theorem dGr_join_29 : decode cGr_join 29 = .ok (.iconst (-1), 1) := by decide +kernel
theorem dGr_join_30 : decode cGr_join 30 = .ok (.ixor, 1) := by decide +kernel
theorem dGr_join_31 : decode cGr_join 31 = .ok (.iand, 1) := by decide +kernel
theorem dGr_join_32 : decode cGr_join 32 = .ok (.ior, 1) := by decide +kernel
theorem dGr_join_33 : decode cGr_join 33 = .ok (.iastore, 1) := by decide +kernel
theorem dGr_join_34 : decode cGr_join 34 = .ok (.iinc 2 1, 3) := by decide +kernel
theorem dGr_join_37 : decode cGr_join 37 = .ok (.goto (-35), 3) := by decide +kernel
theorem dGr_join_40 : decode cGr_join 40 = .ok (.return_, 1) := by decide +kernel
abbrev cGr_knows : ByteArray := prog_4_method_4_code
def yGr_knows : MethodName := ⟨RGr, "knows", "(I)Z"⟩
theorem dGr_knows_0 : decode cGr_knows 0 = .ok (.iload_n 1, 1) := by decide +kernel
theorem dGr_knows_1 : decode cGr_knows 1 = .ok (.ifCond .lt 15, 3) := by decide +kernel
theorem dGr_knows_4 : decode cGr_knows 4 = .ok (.iload_n 1, 1) := by decide +kernel
theorem dGr_knows_5 : decode cGr_knows 5 = .ok (.aload_n 0, 1) := by decide +kernel
theorem dGr_knows_6 : decode cGr_knows 6 = .ok (.getfield 22, 3) := by decide +kernel
theorem dGr_knows_9 : decode cGr_knows 9 = .ok (.if_icmp .ge 7, 3) := by decide +kernel
theorem dGr_knows_12 : decode cGr_knows 12 = .ok (.iconst 1, 1) := by decide +kernel
theorem dGr_knows_13 : decode cGr_knows 13 = .ok (.goto 4, 3) := by decide +kernel
theorem dGr_knows_16 : decode cGr_knows 16 = .ok (.iconst 0, 1) := by decide +kernel
theorem dGr_knows_17 : decode cGr_knows 17 = .ok (.ireturn, 1) := by decide +kernel
abbrev cGr_knowsAll : ByteArray := prog_4_method_5_code
def yGr_knowsAll : MethodName := ⟨RGr, "knowsAll", "(I)Z"⟩
theorem dGr_knowsAll_0 : decode cGr_knowsAll 0 = .ok (.iload_n 1, 1) := by decide +kernel
theorem dGr_knowsAll_1 : decode cGr_knowsAll 1 = .ok (.ifCond .lt 16, 3) := by decide +kernel
theorem dGr_knowsAll_4 : decode cGr_knowsAll 4 = .ok (.iload_n 1, 1) := by decide +kernel
theorem dGr_knowsAll_5 : decode cGr_knowsAll 5 = .ok (.aload_n 0, 1) := by decide +kernel
theorem dGr_knowsAll_6 : decode cGr_knowsAll 6 = .ok (.getfield 22, 3) := by decide +kernel
theorem dGr_knowsAll_9 : decode cGr_knowsAll 9 = .ok (.ishr, 1) := by decide +kernel
theorem dGr_knowsAll_10 : decode cGr_knowsAll 10 = .ok (.ifCond .ne 7, 3) := by decide +kernel
theorem dGr_knowsAll_13 : decode cGr_knowsAll 13 = .ok (.iconst 1, 1) := by decide +kernel
theorem dGr_knowsAll_14 : decode cGr_knowsAll 14 = .ok (.goto 4, 3) := by decide +kernel
theorem dGr_knowsAll_17 : decode cGr_knowsAll 17 = .ok (.iconst 0, 1) := by decide +kernel
theorem dGr_knowsAll_18 : decode cGr_knowsAll 18 = .ok (.ireturn, 1) := by decide +kernel
abbrev cGr_hasValue : ByteArray := prog_4_method_6_code
def yGr_hasValue : MethodName := ⟨RGr, "hasValue", "(II)Z"⟩
theorem dGr_hasValue_0 : decode cGr_hasValue 0 = .ok (.iload_n 2, 1) := by decide +kernel
theorem dGr_hasValue_1 : decode cGr_hasValue 1 = .ok (.ifCond .lt 17, 3) := by decide +kernel
theorem dGr_hasValue_4 : decode cGr_hasValue 4 = .ok (.iload_n 2, 1) := by decide +kernel
theorem dGr_hasValue_5 : decode cGr_hasValue 5 = .ok (.aload_n 0, 1) := by decide +kernel
theorem dGr_hasValue_6 : decode cGr_hasValue 6 = .ok (.getfield 9, 3) := by decide +kernel
theorem dGr_hasValue_9 : decode cGr_hasValue 9 = .ok (.iload_n 1, 1) := by decide +kernel
theorem dGr_hasValue_10 : decode cGr_hasValue 10 = .ok (.iaload, 1) := by decide +kernel
theorem dGr_hasValue_11 : decode cGr_hasValue 11 = .ok (.if_icmp .ge 7, 3) := by decide +kernel
theorem dGr_hasValue_14 : decode cGr_hasValue 14 = .ok (.iconst 1, 1) := by decide +kernel
theorem dGr_hasValue_15 : decode cGr_hasValue 15 = .ok (.goto 4, 3) := by decide +kernel
theorem dGr_hasValue_18 : decode cGr_hasValue 18 = .ok (.iconst 0, 1) := by decide +kernel
theorem dGr_hasValue_19 : decode cGr_hasValue 19 = .ok (.ireturn, 1) := by decide +kernel
abbrev cGr_everyName : ByteArray := prog_4_method_7_code
def yGr_everyName : MethodName := ⟨RGr, "everyName", "()I"⟩
theorem dGr_everyName_0 : decode cGr_everyName 0 = .ok (.iconst 1, 1) := by decide +kernel
theorem dGr_everyName_1 : decode cGr_everyName 1 = .ok (.aload_n 0, 1) := by decide +kernel
theorem dGr_everyName_2 : decode cGr_everyName 2 = .ok (.getfield 22, 3) := by decide +kernel
theorem dGr_everyName_5 : decode cGr_everyName 5 = .ok (.ishl, 1) := by decide +kernel
theorem dGr_everyName_6 : decode cGr_everyName 6 = .ok (.iconst 1, 1) := by decide +kernel
theorem dGr_everyName_7 : decode cGr_everyName 7 = .ok (.isub, 1) := by decide +kernel
theorem dGr_everyName_8 : decode cGr_everyName 8 = .ok (.ireturn, 1) := by decide +kernel
abbrev cGr_cellsOf : ByteArray := prog_4_method_8_code
def yGr_cellsOf : MethodName := ⟨RGr, "cellsOf", "(I)I"⟩
theorem dGr_cellsOf_0 : decode cGr_cellsOf 0 = .ok (.iconst 1, 1) := by decide +kernel
theorem dGr_cellsOf_1 : decode cGr_cellsOf 1 = .ok (.istore_n 2, 1) := by decide +kernel
theorem dGr_cellsOf_2 : decode cGr_cellsOf 2 = .ok (.iconst 0, 1) := by decide +kernel
theorem dGr_cellsOf_3 : decode cGr_cellsOf 3 = .ok (.istore_n 3, 1) := by decide +kernel
theorem dGr_cellsOf_4 : decode cGr_cellsOf 4 = .ok (.iload_n 3, 1) := by decide +kernel
theorem dGr_cellsOf_5 : decode cGr_cellsOf 5 = .ok (.aload_n 0, 1) := by decide +kernel
theorem dGr_cellsOf_6 : decode cGr_cellsOf 6 = .ok (.getfield 22, 3) := by decide +kernel
theorem dGr_cellsOf_9 : decode cGr_cellsOf 9 = .ok (.if_icmp .ge 26, 3) := by decide +kernel
theorem dGr_cellsOf_12 : decode cGr_cellsOf 12 = .ok (.iload_n 1, 1) := by decide +kernel
theorem dGr_cellsOf_13 : decode cGr_cellsOf 13 = .ok (.iconst 1, 1) := by decide +kernel
theorem dGr_cellsOf_14 : decode cGr_cellsOf 14 = .ok (.iload_n 3, 1) := by decide +kernel
theorem dGr_cellsOf_15 : decode cGr_cellsOf 15 = .ok (.ishl, 1) := by decide +kernel
theorem dGr_cellsOf_16 : decode cGr_cellsOf 16 = .ok (.iand, 1) := by decide +kernel
theorem dGr_cellsOf_17 : decode cGr_cellsOf 17 = .ok (.ifCond .eq 12, 3) := by decide +kernel
theorem dGr_cellsOf_20 : decode cGr_cellsOf 20 = .ok (.iload_n 2, 1) := by decide +kernel
theorem dGr_cellsOf_21 : decode cGr_cellsOf 21 = .ok (.aload_n 0, 1) := by decide +kernel
theorem dGr_cellsOf_22 : decode cGr_cellsOf 22 = .ok (.getfield 9, 3) := by decide +kernel
theorem dGr_cellsOf_25 : decode cGr_cellsOf 25 = .ok (.iload_n 3, 1) := by decide +kernel
theorem dGr_cellsOf_26 : decode cGr_cellsOf 26 = .ok (.iaload, 1) := by decide +kernel
theorem dGr_cellsOf_27 : decode cGr_cellsOf 27 = .ok (.imul, 1) := by decide +kernel
theorem dGr_cellsOf_28 : decode cGr_cellsOf 28 = .ok (.istore_n 2, 1) := by decide +kernel
theorem dGr_cellsOf_29 : decode cGr_cellsOf 29 = .ok (.iinc 3 1, 3) := by decide +kernel
theorem dGr_cellsOf_32 : decode cGr_cellsOf 32 = .ok (.goto (-28), 3) := by decide +kernel
theorem dGr_cellsOf_35 : decode cGr_cellsOf 35 = .ok (.iload_n 2, 1) := by decide +kernel
theorem dGr_cellsOf_36 : decode cGr_cellsOf 36 = .ok (.ireturn, 1) := by decide +kernel
abbrev cGr_pairs : ByteArray := prog_4_method_9_code
def yGr_pairs : MethodName := ⟨RGr, "pairs", "()I"⟩
theorem dGr_pairs_0 : decode cGr_pairs 0 = .ok (.iconst 0, 1) := by decide +kernel
theorem dGr_pairs_1 : decode cGr_pairs 1 = .ok (.istore_n 1, 1) := by decide +kernel
theorem dGr_pairs_2 : decode cGr_pairs 2 = .ok (.iconst 0, 1) := by decide +kernel
theorem dGr_pairs_3 : decode cGr_pairs 3 = .ok (.istore_n 2, 1) := by decide +kernel
theorem dGr_pairs_4 : decode cGr_pairs 4 = .ok (.iload_n 2, 1) := by decide +kernel
theorem dGr_pairs_5 : decode cGr_pairs 5 = .ok (.aload_n 0, 1) := by decide +kernel
theorem dGr_pairs_6 : decode cGr_pairs 6 = .ok (.getfield 22, 3) := by decide +kernel
theorem dGr_pairs_9 : decode cGr_pairs 9 = .ok (.if_icmp .ge 21, 3) := by decide +kernel
theorem dGr_pairs_12 : decode cGr_pairs 12 = .ok (.iload_n 1, 1) := by decide +kernel
theorem dGr_pairs_13 : decode cGr_pairs 13 = .ok (.aload_n 0, 1) := by decide +kernel
theorem dGr_pairs_14 : decode cGr_pairs 14 = .ok (.getfield 15, 3) := by decide +kernel
theorem dGr_pairs_17 : decode cGr_pairs 17 = .ok (.iload_n 2, 1) := by decide +kernel
theorem dGr_pairs_18 : decode cGr_pairs 18 = .ok (.iaload, 1) := by decide +kernel
theorem dGr_pairs_19 : decode cGr_pairs 19 = .ok (.invokestatic 25, 3) := by decide +kernel
theorem dGr_pairs_22 : decode cGr_pairs 22 = .ok (.iadd, 1) := by decide +kernel
theorem dGr_pairs_23 : decode cGr_pairs 23 = .ok (.istore_n 1, 1) := by decide +kernel
theorem dGr_pairs_24 : decode cGr_pairs 24 = .ok (.iinc 2 1, 3) := by decide +kernel
theorem dGr_pairs_27 : decode cGr_pairs 27 = .ok (.goto (-23), 3) := by decide +kernel
theorem dGr_pairs_30 : decode cGr_pairs 30 = .ok (.iload_n 1, 1) := by decide +kernel
theorem dGr_pairs_31 : decode cGr_pairs 31 = .ok (.iconst 2, 1) := by decide +kernel
theorem dGr_pairs_32 : decode cGr_pairs 32 = .ok (.idiv, 1) := by decide +kernel
theorem dGr_pairs_33 : decode cGr_pairs 33 = .ok (.ireturn, 1) := by decide +kernel
abbrev cGr_reached : ByteArray := prog_4_method_10_code
def yGr_reached : MethodName := ⟨RGr, "reached", "(II)I"⟩
theorem dGr_reached_0 : decode cGr_reached 0 = .ok (.aload_n 0, 1) := by decide +kernel
theorem dGr_reached_1 : decode cGr_reached 1 = .ok (.getfield 15, 3) := by decide +kernel
theorem dGr_reached_4 : decode cGr_reached 4 = .ok (.iload_n 1, 1) := by decide +kernel
theorem dGr_reached_5 : decode cGr_reached 5 = .ok (.iaload, 1) := by decide +kernel
theorem dGr_reached_6 : decode cGr_reached 6 = .ok (.iconst 1, 1) := by decide +kernel
theorem dGr_reached_7 : decode cGr_reached 7 = .ok (.iload_n 1, 1) := by decide +kernel
theorem dGr_reached_8 : decode cGr_reached 8 = .ok (.ishl, 1) := by decide +kernel
theorem dGr_reached_9 : decode cGr_reached 9 = .ok (.ior, 1) := by decide +kernel
theorem dGr_reached_10 : decode cGr_reached 10 = .ok (.istore_n 3, 1) := by decide +kernel
theorem dGr_reached_11 : decode cGr_reached 11 = .ok (.iconst 0, 1) := by decide +kernel
theorem dGr_reached_12 : decode cGr_reached 12 = .ok (.istore 4, 2) := by decide +kernel
theorem dGr_reached_14 : decode cGr_reached 14 = .ok (.iconst 0, 1) := by decide +kernel
theorem dGr_reached_15 : decode cGr_reached 15 = .ok (.istore 5, 2) := by decide +kernel
theorem dGr_reached_17 : decode cGr_reached 17 = .ok (.iload 5, 2) := by decide +kernel
theorem dGr_reached_19 : decode cGr_reached 19 = .ok (.aload_n 0, 1) := by decide +kernel
theorem dGr_reached_20 : decode cGr_reached 20 = .ok (.getfield 22, 3) := by decide +kernel
theorem dGr_reached_23 : decode cGr_reached 23 = .ok (.if_icmp .ge 59, 3) := by decide +kernel
theorem dGr_reached_26 : decode cGr_reached 26 = .ok (.iload_n 3, 1) := by decide +kernel
theorem dGr_reached_27 : decode cGr_reached 27 = .ok (.iload_n 2, 1) := by decide +kernel
theorem dGr_reached_28 : decode cGr_reached 28 = .ok (.iand, 1) := by decide +kernel
theorem dGr_reached_29 : decode cGr_reached 29 = .ok (.iload 4, 2) := by decide +kernel
theorem dGr_reached_31 : decode cGr_reached 31 = .ok (.iconst (-1), 1) := by decide +kernel
theorem dGr_reached_32 : decode cGr_reached 32 = .ok (.ixor, 1) := by decide +kernel
theorem dGr_reached_33 : decode cGr_reached 33 = .ok (.iand, 1) := by decide +kernel
theorem dGr_reached_34 : decode cGr_reached 34 = .ok (.istore 6, 2) := by decide +kernel
theorem dGr_reached_36 : decode cGr_reached 36 = .ok (.iload 6, 2) := by decide +kernel
theorem dGr_reached_38 : decode cGr_reached 38 = .ok (.ifCond .ne 6, 3) := by decide +kernel
theorem dGr_reached_41 : decode cGr_reached 41 = .ok (.goto 41, 3) := by decide +kernel
theorem dGr_reached_44 : decode cGr_reached 44 = .ok (.iload 6, 2) := by decide +kernel
theorem dGr_reached_46 : decode cGr_reached 46 = .ok (.iload 6, 2) := by decide +kernel
theorem dGr_reached_48 : decode cGr_reached 48 = .ok (.ineg, 1) := by decide +kernel
theorem dGr_reached_49 : decode cGr_reached 49 = .ok (.iand, 1) := by decide +kernel
theorem dGr_reached_50 : decode cGr_reached 50 = .ok (.iconst 1, 1) := by decide +kernel
theorem dGr_reached_51 : decode cGr_reached 51 = .ok (.isub, 1) := by decide +kernel
theorem dGr_reached_52 : decode cGr_reached 52 = .ok (.invokestatic 25, 3) := by decide +kernel
theorem dGr_reached_55 : decode cGr_reached 55 = .ok (.istore 7, 2) := by decide +kernel
theorem dGr_reached_57 : decode cGr_reached 57 = .ok (.iload 4, 2) := by decide +kernel
theorem dGr_reached_59 : decode cGr_reached 59 = .ok (.iconst 1, 1) := by decide +kernel
theorem dGr_reached_60 : decode cGr_reached 60 = .ok (.iload 7, 2) := by decide +kernel
theorem dGr_reached_62 : decode cGr_reached 62 = .ok (.ishl, 1) := by decide +kernel
theorem dGr_reached_63 : decode cGr_reached 63 = .ok (.ior, 1) := by decide +kernel
theorem dGr_reached_64 : decode cGr_reached 64 = .ok (.istore 4, 2) := by decide +kernel
theorem dGr_reached_66 : decode cGr_reached 66 = .ok (.iload_n 3, 1) := by decide +kernel
theorem dGr_reached_67 : decode cGr_reached 67 = .ok (.aload_n 0, 1) := by decide +kernel
theorem dGr_reached_68 : decode cGr_reached 68 = .ok (.getfield 15, 3) := by decide +kernel
theorem dGr_reached_71 : decode cGr_reached 71 = .ok (.iload 7, 2) := by decide +kernel
theorem dGr_reached_73 : decode cGr_reached 73 = .ok (.iaload, 1) := by decide +kernel
theorem dGr_reached_74 : decode cGr_reached 74 = .ok (.ior, 1) := by decide +kernel
theorem dGr_reached_75 : decode cGr_reached 75 = .ok (.istore_n 3, 1) := by decide +kernel
theorem dGr_reached_76 : decode cGr_reached 76 = .ok (.iinc 5 1, 3) := by decide +kernel
theorem dGr_reached_79 : decode cGr_reached 79 = .ok (.goto (-62), 3) := by decide +kernel
theorem dGr_reached_82 : decode cGr_reached 82 = .ok (.iload_n 3, 1) := by decide +kernel
theorem dGr_reached_83 : decode cGr_reached 83 = .ok (.ireturn, 1) := by decide +kernel
abbrev cGr_bagOf : ByteArray := prog_4_method_11_code
def yGr_bagOf : MethodName := ⟨RGr, "bagOf", "(II)I"⟩
theorem dGr_bagOf_0 : decode cGr_bagOf 0 = .ok (.aload_n 0, 1) := by decide +kernel
theorem dGr_bagOf_1 : decode cGr_bagOf 1 = .ok (.iload_n 1, 1) := by decide +kernel
theorem dGr_bagOf_2 : decode cGr_bagOf 2 = .ok (.iload_n 2, 1) := by decide +kernel
theorem dGr_bagOf_3 : decode cGr_bagOf 3 = .ok (.invokevirtual 31, 3) := by decide +kernel
theorem dGr_bagOf_6 : decode cGr_bagOf 6 = .ok (.iload_n 2, 1) := by decide +kernel
theorem dGr_bagOf_7 : decode cGr_bagOf 7 = .ok (.iconst (-1), 1) := by decide +kernel
theorem dGr_bagOf_8 : decode cGr_bagOf 8 = .ok (.ixor, 1) := by decide +kernel
theorem dGr_bagOf_9 : decode cGr_bagOf 9 = .ok (.iand, 1) := by decide +kernel
theorem dGr_bagOf_10 : decode cGr_bagOf 10 = .ok (.ireturn, 1) := by decide +kernel
abbrev cGr_fillOf : ByteArray := prog_4_method_12_code
def yGr_fillOf : MethodName := ⟨RGr, "fillOf", "(II)I"⟩
theorem dGr_fillOf_0 : decode cGr_fillOf 0 = .ok (.iconst 0, 1) := by decide +kernel
theorem dGr_fillOf_1 : decode cGr_fillOf 1 = .ok (.istore_n 3, 1) := by decide +kernel
theorem dGr_fillOf_2 : decode cGr_fillOf 2 = .ok (.iconst 0, 1) := by decide +kernel
theorem dGr_fillOf_3 : decode cGr_fillOf 3 = .ok (.istore 4, 2) := by decide +kernel
theorem dGr_fillOf_5 : decode cGr_fillOf 5 = .ok (.iload 4, 2) := by decide +kernel
theorem dGr_fillOf_7 : decode cGr_fillOf 7 = .ok (.aload_n 0, 1) := by decide +kernel
theorem dGr_fillOf_8 : decode cGr_fillOf 8 = .ok (.getfield 22, 3) := by decide +kernel
theorem dGr_fillOf_11 : decode cGr_fillOf 11 = .ok (.if_icmp .ge 35, 3) := by decide +kernel
theorem dGr_fillOf_14 : decode cGr_fillOf 14 = .ok (.iload_n 1, 1) := by decide +kernel
theorem dGr_fillOf_15 : decode cGr_fillOf 15 = .ok (.iconst 1, 1) := by decide +kernel
theorem dGr_fillOf_16 : decode cGr_fillOf 16 = .ok (.iload 4, 2) := by decide +kernel
theorem dGr_fillOf_18 : decode cGr_fillOf 18 = .ok (.ishl, 1) := by decide +kernel
theorem dGr_fillOf_19 : decode cGr_fillOf 19 = .ok (.iand, 1) := by decide +kernel
theorem dGr_fillOf_20 : decode cGr_fillOf 20 = .ok (.ifCond .eq 20, 3) := by decide +kernel
theorem dGr_fillOf_23 : decode cGr_fillOf 23 = .ok (.iload_n 3, 1) := by decide +kernel
theorem dGr_fillOf_24 : decode cGr_fillOf 24 = .ok (.iload_n 1, 1) := by decide +kernel
theorem dGr_fillOf_25 : decode cGr_fillOf 25 = .ok (.aload_n 0, 1) := by decide +kernel
theorem dGr_fillOf_26 : decode cGr_fillOf 26 = .ok (.iload 4, 2) := by decide +kernel
theorem dGr_fillOf_28 : decode cGr_fillOf 28 = .ok (.iload_n 2, 1) := by decide +kernel
theorem dGr_fillOf_29 : decode cGr_fillOf 29 = .ok (.invokevirtual 31, 3) := by decide +kernel
theorem dGr_fillOf_32 : decode cGr_fillOf 32 = .ok (.iconst (-1), 1) := by decide +kernel
theorem dGr_fillOf_33 : decode cGr_fillOf 33 = .ok (.ixor, 1) := by decide +kernel
theorem dGr_fillOf_34 : decode cGr_fillOf 34 = .ok (.iand, 1) := by decide +kernel
theorem dGr_fillOf_35 : decode cGr_fillOf 35 = .ok (.invokestatic 25, 3) := by decide +kernel
theorem dGr_fillOf_38 : decode cGr_fillOf 38 = .ok (.iadd, 1) := by decide +kernel
theorem dGr_fillOf_39 : decode cGr_fillOf 39 = .ok (.istore_n 3, 1) := by decide +kernel
theorem dGr_fillOf_40 : decode cGr_fillOf 40 = .ok (.iinc 4 1, 3) := by decide +kernel
theorem dGr_fillOf_43 : decode cGr_fillOf 43 = .ok (.goto (-38), 3) := by decide +kernel
theorem dGr_fillOf_46 : decode cGr_fillOf 46 = .ok (.iload_n 3, 1) := by decide +kernel
theorem dGr_fillOf_47 : decode cGr_fillOf 47 = .ok (.iconst 2, 1) := by decide +kernel
theorem dGr_fillOf_48 : decode cGr_fillOf 48 = .ok (.idiv, 1) := by decide +kernel
theorem dGr_fillOf_49 : decode cGr_fillOf 49 = .ok (.ireturn, 1) := by decide +kernel
abbrev cGr_valueIn : ByteArray := prog_4_method_13_code
def yGr_valueIn : MethodName := ⟨RGr, "valueIn", "(II)I"⟩
theorem dGr_valueIn_0 : decode cGr_valueIn 0 = .ok (.iload_n 1, 1) := by decide +kernel
theorem dGr_valueIn_1 : decode cGr_valueIn 1 = .ok (.istore_n 3, 1) := by decide +kernel
theorem dGr_valueIn_2 : decode cGr_valueIn 2 = .ok (.aload_n 0, 1) := by decide +kernel
theorem dGr_valueIn_3 : decode cGr_valueIn 3 = .ok (.getfield 22, 3) := by decide +kernel
theorem dGr_valueIn_6 : decode cGr_valueIn 6 = .ok (.iconst 1, 1) := by decide +kernel
theorem dGr_valueIn_7 : decode cGr_valueIn 7 = .ok (.isub, 1) := by decide +kernel
theorem dGr_valueIn_8 : decode cGr_valueIn 8 = .ok (.istore 4, 2) := by decide +kernel
theorem dGr_valueIn_10 : decode cGr_valueIn 10 = .ok (.iload 4, 2) := by decide +kernel
theorem dGr_valueIn_12 : decode cGr_valueIn 12 = .ok (.iload_n 2, 1) := by decide +kernel
theorem dGr_valueIn_13 : decode cGr_valueIn 13 = .ok (.if_icmp .le 21, 3) := by decide +kernel
theorem dGr_valueIn_16 : decode cGr_valueIn 16 = .ok (.iload_n 3, 1) := by decide +kernel
theorem dGr_valueIn_17 : decode cGr_valueIn 17 = .ok (.aload_n 0, 1) := by decide +kernel
theorem dGr_valueIn_18 : decode cGr_valueIn 18 = .ok (.getfield 9, 3) := by decide +kernel
theorem dGr_valueIn_21 : decode cGr_valueIn 21 = .ok (.iload 4, 2) := by decide +kernel
theorem dGr_valueIn_23 : decode cGr_valueIn 23 = .ok (.iaload, 1) := by decide +kernel
theorem dGr_valueIn_24 : decode cGr_valueIn 24 = .ok (.invokestatic 35, 3) := by decide +kernel
theorem dGr_valueIn_27 : decode cGr_valueIn 27 = .ok (.istore_n 3, 1) := by decide +kernel
theorem dGr_valueIn_28 : decode cGr_valueIn 28 = .ok (.iinc 4 (-1), 3) := by decide +kernel
theorem dGr_valueIn_31 : decode cGr_valueIn 31 = .ok (.goto (-21), 3) := by decide +kernel
theorem dGr_valueIn_34 : decode cGr_valueIn 34 = .ok (.iload_n 3, 1) := by decide +kernel
theorem dGr_valueIn_35 : decode cGr_valueIn 35 = .ok (.aload_n 0, 1) := by decide +kernel
theorem dGr_valueIn_36 : decode cGr_valueIn 36 = .ok (.getfield 9, 3) := by decide +kernel
theorem dGr_valueIn_39 : decode cGr_valueIn 39 = .ok (.iload_n 2, 1) := by decide +kernel
theorem dGr_valueIn_40 : decode cGr_valueIn 40 = .ok (.iaload, 1) := by decide +kernel
theorem dGr_valueIn_41 : decode cGr_valueIn 41 = .ok (.invokestatic 38, 3) := by decide +kernel
theorem dGr_valueIn_44 : decode cGr_valueIn 44 = .ok (.ireturn, 1) := by decide +kernel
abbrev cGr_quotient : ByteArray := prog_4_method_14_code
def yGr_quotient : MethodName := ⟨RGr, "quotient", "(II)I"⟩
theorem dGr_quotient_0 : decode cGr_quotient 0 = .ok (.iload_n 1, 1) := by decide +kernel
theorem dGr_quotient_1 : decode cGr_quotient 1 = .ok (.ifCond .le 9, 3) := by decide +kernel
theorem dGr_quotient_4 : decode cGr_quotient 4 = .ok (.iload_n 0, 1) := by decide +kernel
theorem dGr_quotient_5 : decode cGr_quotient 5 = .ok (.iload_n 1, 1) := by decide +kernel
theorem dGr_quotient_6 : decode cGr_quotient 6 = .ok (.idiv, 1) := by decide +kernel
theorem dGr_quotient_7 : decode cGr_quotient 7 = .ok (.goto 4, 3) := by decide +kernel
theorem dGr_quotient_10 : decode cGr_quotient 10 = .ok (.iconst 0, 1) := by decide +kernel
theorem dGr_quotient_11 : decode cGr_quotient 11 = .ok (.ireturn, 1) := by decide +kernel
abbrev cGr_remainder : ByteArray := prog_4_method_15_code
def yGr_remainder : MethodName := ⟨RGr, "remainder", "(II)I"⟩
theorem dGr_remainder_0 : decode cGr_remainder 0 = .ok (.iload_n 1, 1) := by decide +kernel
theorem dGr_remainder_1 : decode cGr_remainder 1 = .ok (.ifCond .le 9, 3) := by decide +kernel
theorem dGr_remainder_4 : decode cGr_remainder 4 = .ok (.iload_n 0, 1) := by decide +kernel
theorem dGr_remainder_5 : decode cGr_remainder 5 = .ok (.iload_n 1, 1) := by decide +kernel
theorem dGr_remainder_6 : decode cGr_remainder 6 = .ok (.irem, 1) := by decide +kernel
theorem dGr_remainder_7 : decode cGr_remainder 7 = .ok (.goto 4, 3) := by decide +kernel
theorem dGr_remainder_10 : decode cGr_remainder 10 = .ok (.iconst 0, 1) := by decide +kernel
theorem dGr_remainder_11 : decode cGr_remainder 11 = .ok (.ireturn, 1) := by decide +kernel
