abbrev cSq_init : ByteArray := prog_6_method_1_code
def ySq_init : MethodName := ⟨RSq, "<init>", "(LTableOrders$Graph;)V"⟩
theorem dSq_init_0 : decode cSq_init 0 = .ok (.aload_n 0, 1) := by decide +kernel
theorem dSq_init_1 : decode cSq_init 1 = .ok (.invokespecial 3, 3) := by decide +kernel
theorem dSq_init_4 : decode cSq_init 4 = .ok (.aload_n 0, 1) := by decide +kernel
theorem dSq_init_5 : decode cSq_init 5 = .ok (.bipush 12, 2) := by decide +kernel
theorem dSq_init_7 : decode cSq_init 7 = .ok (.newarray .int, 2) := by decide +kernel
theorem dSq_init_9 : decode cSq_init 9 = .ok (.putfield 9, 3) := by decide +kernel
theorem dSq_init_12 : decode cSq_init 12 = .ok (.aload_n 0, 1) := by decide +kernel
theorem dSq_init_13 : decode cSq_init 13 = .ok (.bipush 12, 2) := by decide +kernel
theorem dSq_init_15 : decode cSq_init 15 = .ok (.newarray .int, 2) := by decide +kernel
theorem dSq_init_17 : decode cSq_init 17 = .ok (.putfield 15, 3) := by decide +kernel
theorem dSq_init_20 : decode cSq_init 20 = .ok (.aload_n 0, 1) := by decide +kernel
theorem dSq_init_21 : decode cSq_init 21 = .ok (.bipush 12, 2) := by decide +kernel
theorem dSq_init_23 : decode cSq_init 23 = .ok (.newarray .int, 2) := by decide +kernel
theorem dSq_init_25 : decode cSq_init 25 = .ok (.putfield 18, 3) := by decide +kernel
theorem dSq_init_28 : decode cSq_init 28 = .ok (.aload_n 0, 1) := by decide +kernel
theorem dSq_init_29 : decode cSq_init 29 = .ok (.aload_n 1, 1) := by decide +kernel
theorem dSq_init_30 : decode cSq_init 30 = .ok (.putfield 21, 3) := by decide +kernel
theorem dSq_init_33 : decode cSq_init 33 = .ok (.aload_n 0, 1) := by decide +kernel
theorem dSq_init_34 : decode cSq_init 34 = .ok (.new 25, 3) := by decide +kernel
theorem dSq_init_37 : decode cSq_init 37 = .ok (.dup, 1) := by decide +kernel
theorem dSq_init_38 : decode cSq_init 38 = .ok (.aload_n 1, 1) := by decide +kernel
theorem dSq_init_39 : decode cSq_init 39 = .ok (.invokespecial 27, 3) := by decide +kernel
theorem dSq_init_42 : decode cSq_init 42 = .ok (.putfield 30, 3) := by decide +kernel
theorem dSq_init_45 : decode cSq_init 45 = .ok (.aload_n 0, 1) := by decide +kernel
theorem dSq_init_46 : decode cSq_init 46 = .ok (.getfield 9, 3) := by decide +kernel
theorem dSq_init_49 : decode cSq_init 49 = .ok (.iconst (-1), 1) := by decide +kernel
theorem dSq_init_50 : decode cSq_init 50 = .ok (.invokestatic 34, 3) := by decide +kernel
theorem dSq_init_53 : decode cSq_init 53 = .ok (.return_, 1) := by decide +kernel
abbrev cSq_placesHaveEachOnce : ByteArray := prog_6_method_2_code
def ySq_placesHaveEachOnce : MethodName := ⟨RSq, "placesHaveEachOnce", "()Z"⟩
theorem dSq_placesHaveEachOnce_0 : decode cSq_placesHaveEachOnce 0 = .ok (.iconst 0, 1) := by decide +kernel
theorem dSq_placesHaveEachOnce_1 : decode cSq_placesHaveEachOnce 1 = .ok (.istore_n 1, 1) := by decide +kernel
theorem dSq_placesHaveEachOnce_2 : decode cSq_placesHaveEachOnce 2 = .ok (.iconst 0, 1) := by decide +kernel
theorem dSq_placesHaveEachOnce_3 : decode cSq_placesHaveEachOnce 3 = .ok (.istore_n 2, 1) := by decide +kernel
theorem dSq_placesHaveEachOnce_4 : decode cSq_placesHaveEachOnce 4 = .ok (.iload_n 2, 1) := by decide +kernel
theorem dSq_placesHaveEachOnce_5 : decode cSq_placesHaveEachOnce 5 = .ok (.aload_n 0, 1) := by decide +kernel
theorem dSq_placesHaveEachOnce_6 : decode cSq_placesHaveEachOnce 6 = .ok (.getfield 21, 3) := by decide +kernel
theorem dSq_placesHaveEachOnce_9 : decode cSq_placesHaveEachOnce 9 = .ok (.getfield 40, 3) := by decide +kernel
theorem dSq_placesHaveEachOnce_12 : decode cSq_placesHaveEachOnce 12 = .ok (.if_icmp .ge 30, 3) := by decide +kernel
theorem dSq_placesHaveEachOnce_15 : decode cSq_placesHaveEachOnce 15 = .ok (.aload_n 0, 1) := by decide +kernel
theorem dSq_placesHaveEachOnce_16 : decode cSq_placesHaveEachOnce 16 = .ok (.getfield 9, 3) := by decide +kernel
theorem dSq_placesHaveEachOnce_19 : decode cSq_placesHaveEachOnce 19 = .ok (.iload_n 2, 1) := by decide +kernel
theorem dSq_placesHaveEachOnce_20 : decode cSq_placesHaveEachOnce 20 = .ok (.iaload, 1) := by decide +kernel
theorem dSq_placesHaveEachOnce_21 : decode cSq_placesHaveEachOnce 21 = .ok (.iconst (-1), 1) := by decide +kernel
theorem dSq_placesHaveEachOnce_22 : decode cSq_placesHaveEachOnce 22 = .ok (.if_icmp .eq 14, 3) := by decide +kernel
theorem dSq_placesHaveEachOnce_25 : decode cSq_placesHaveEachOnce 25 = .ok (.iload_n 1, 1) := by decide +kernel
theorem dSq_placesHaveEachOnce_26 : decode cSq_placesHaveEachOnce 26 = .ok (.iconst 1, 1) := by decide +kernel
theorem dSq_placesHaveEachOnce_27 : decode cSq_placesHaveEachOnce 27 = .ok (.aload_n 0, 1) := by decide +kernel
theorem dSq_placesHaveEachOnce_28 : decode cSq_placesHaveEachOnce 28 = .ok (.getfield 9, 3) := by decide +kernel
theorem dSq_placesHaveEachOnce_31 : decode cSq_placesHaveEachOnce 31 = .ok (.iload_n 2, 1) := by decide +kernel
theorem dSq_placesHaveEachOnce_32 : decode cSq_placesHaveEachOnce 32 = .ok (.iaload, 1) := by decide +kernel
theorem dSq_placesHaveEachOnce_33 : decode cSq_placesHaveEachOnce 33 = .ok (.ishl, 1) := by decide +kernel
theorem dSq_placesHaveEachOnce_34 : decode cSq_placesHaveEachOnce 34 = .ok (.ior, 1) := by decide +kernel
theorem dSq_placesHaveEachOnce_35 : decode cSq_placesHaveEachOnce 35 = .ok (.istore_n 1, 1) := by decide +kernel
theorem dSq_placesHaveEachOnce_36 : decode cSq_placesHaveEachOnce 36 = .ok (.iinc 2 1, 3) := by decide +kernel
theorem dSq_placesHaveEachOnce_39 : decode cSq_placesHaveEachOnce 39 = .ok (.goto (-35), 3) := by decide +kernel
theorem dSq_placesHaveEachOnce_42 : decode cSq_placesHaveEachOnce 42 = .ok (.iload_n 1, 1) := by decide +kernel
theorem dSq_placesHaveEachOnce_43 : decode cSq_placesHaveEachOnce 43 = .ok (.aload_n 0, 1) := by decide +kernel
theorem dSq_placesHaveEachOnce_44 : decode cSq_placesHaveEachOnce 44 = .ok (.getfield 21, 3) := by decide +kernel
theorem dSq_placesHaveEachOnce_47 : decode cSq_placesHaveEachOnce 47 = .ok (.invokevirtual 46, 3) := by decide +kernel
theorem dSq_placesHaveEachOnce_50 : decode cSq_placesHaveEachOnce 50 = .ok (.if_icmp .ne 7, 3) := by decide +kernel
theorem dSq_placesHaveEachOnce_53 : decode cSq_placesHaveEachOnce 53 = .ok (.iconst 1, 1) := by decide +kernel
theorem dSq_placesHaveEachOnce_54 : decode cSq_placesHaveEachOnce 54 = .ok (.goto 4, 3) := by decide +kernel
theorem dSq_placesHaveEachOnce_57 : decode cSq_placesHaveEachOnce 57 = .ok (.iconst 0, 1) := by decide +kernel
theorem dSq_placesHaveEachOnce_58 : decode cSq_placesHaveEachOnce 58 = .ok (.ireturn, 1) := by decide +kernel
abbrev cSq_forget : ByteArray := prog_6_method_3_code
def ySq_forget : MethodName := ⟨RSq, "forget", "()V"⟩
theorem dSq_forget_0 : decode cSq_forget 0 = .ok (.aload_n 0, 1) := by decide +kernel
theorem dSq_forget_1 : decode cSq_forget 1 = .ok (.iconst 0, 1) := by decide +kernel
theorem dSq_forget_2 : decode cSq_forget 2 = .ok (.putfield 50, 3) := by decide +kernel
theorem dSq_forget_5 : decode cSq_forget 5 = .ok (.aload_n 0, 1) := by decide +kernel
theorem dSq_forget_6 : decode cSq_forget 6 = .ok (.getfield 30, 3) := by decide +kernel
theorem dSq_forget_9 : decode cSq_forget 9 = .ok (.invokevirtual 54, 3) := by decide +kernel
theorem dSq_forget_12 : decode cSq_forget 12 = .ok (.return_, 1) := by decide +kernel
abbrev cSq_refresh : ByteArray := prog_6_method_4_code
def ySq_refresh : MethodName := ⟨RSq, "refresh", "()V"⟩
theorem dSq_refresh_0 : decode cSq_refresh 0 = .ok (.aload_n 0, 1) := by decide +kernel
theorem dSq_refresh_1 : decode cSq_refresh 1 = .ok (.getfield 50, 3) := by decide +kernel
theorem dSq_refresh_4 : decode cSq_refresh 4 = .ok (.ifCond .eq 4, 3) := by decide +kernel
theorem dSq_refresh_7 : decode cSq_refresh 7 = .ok (.return_, 1) := by decide +kernel
theorem dSq_refresh_8 : decode cSq_refresh 8 = .ok (.aload_n 0, 1) := by decide +kernel
theorem dSq_refresh_9 : decode cSq_refresh 9 = .ok (.iconst 0, 1) := by decide +kernel
theorem dSq_refresh_10 : decode cSq_refresh 10 = .ok (.putfield 57, 3) := by decide +kernel
theorem dSq_refresh_13 : decode cSq_refresh 13 = .ok (.iconst 0, 1) := by decide +kernel
theorem dSq_refresh_14 : decode cSq_refresh 14 = .ok (.istore_n 1, 1) := by decide +kernel
theorem dSq_refresh_15 : decode cSq_refresh 15 = .ok (.iload_n 1, 1) := by decide +kernel
theorem dSq_refresh_16 : decode cSq_refresh 16 = .ok (.aload_n 0, 1) := by decide +kernel
theorem dSq_refresh_17 : decode cSq_refresh 17 = .ok (.getfield 21, 3) := by decide +kernel
theorem dSq_refresh_20 : decode cSq_refresh 20 = .ok (.getfield 40, 3) := by decide +kernel
theorem dSq_refresh_23 : decode cSq_refresh 23 = .ok (.if_icmp .ge 16, 3) := by decide +kernel
theorem dSq_refresh_26 : decode cSq_refresh 26 = .ok (.aload_n 0, 1) := by decide +kernel
theorem dSq_refresh_27 : decode cSq_refresh 27 = .ok (.getfield 15, 3) := by decide +kernel
theorem dSq_refresh_30 : decode cSq_refresh 30 = .ok (.iload_n 1, 1) := by decide +kernel
theorem dSq_refresh_31 : decode cSq_refresh 31 = .ok (.iload_n 1, 1) := by decide +kernel
theorem dSq_refresh_32 : decode cSq_refresh 32 = .ok (.iastore, 1) := by decide +kernel
theorem dSq_refresh_33 : decode cSq_refresh 33 = .ok (.iinc 1 1, 3) := by decide +kernel
theorem dSq_refresh_36 : decode cSq_refresh 36 = .ok (.goto (-21), 3) := by decide +kernel
theorem dSq_refresh_39 : decode cSq_refresh 39 = .ok (.aload_n 0, 1) := by decide +kernel
theorem dSq_refresh_40 : decode cSq_refresh 40 = .ok (.invokevirtual 60, 3) := by decide +kernel
theorem dSq_refresh_43 : decode cSq_refresh 43 = .ok (.return_, 1) := by decide +kernel
abbrev cSq_arrange : ByteArray := prog_6_method_5_code
def ySq_arrange : MethodName := ⟨RSq, "arrange", "(I)V"⟩
theorem dSq_arrange_0 : decode cSq_arrange 0 = .ok (.aload_n 0, 1) := by decide +kernel
theorem dSq_arrange_1 : decode cSq_arrange 1 = .ok (.iload_n 1, 1) := by decide +kernel
theorem dSq_arrange_2 : decode cSq_arrange 2 = .ok (.putfield 57, 3) := by decide +kernel
theorem dSq_arrange_5 : decode cSq_arrange 5 = .ok (.aload_n 0, 1) := by decide +kernel
theorem dSq_arrange_6 : decode cSq_arrange 6 = .ok (.getfield 57, 3) := by decide +kernel
theorem dSq_arrange_9 : decode cSq_arrange 9 = .ok (.iconst 5, 1) := by decide +kernel
theorem dSq_arrange_10 : decode cSq_arrange 10 = .ok (.if_icmp .ne 10, 3) := by decide +kernel
theorem dSq_arrange_13 : decode cSq_arrange 13 = .ok (.aload_n 0, 1) := by decide +kernel
theorem dSq_arrange_14 : decode cSq_arrange 14 = .ok (.getfield 30, 3) := by decide +kernel
theorem dSq_arrange_17 : decode cSq_arrange 17 = .ok (.invokevirtual 63, 3) := by decide +kernel
theorem dSq_arrange_20 : decode cSq_arrange 20 = .ok (.iconst 0, 1) := by decide +kernel
theorem dSq_arrange_21 : decode cSq_arrange 21 = .ok (.istore_n 2, 1) := by decide +kernel
theorem dSq_arrange_22 : decode cSq_arrange 22 = .ok (.iconst 0, 1) := by decide +kernel
theorem dSq_arrange_23 : decode cSq_arrange 23 = .ok (.istore_n 3, 1) := by decide +kernel
theorem dSq_arrange_24 : decode cSq_arrange 24 = .ok (.iload_n 3, 1) := by decide +kernel
theorem dSq_arrange_25 : decode cSq_arrange 25 = .ok (.aload_n 0, 1) := by decide +kernel
theorem dSq_arrange_26 : decode cSq_arrange 26 = .ok (.getfield 21, 3) := by decide +kernel
theorem dSq_arrange_29 : decode cSq_arrange 29 = .ok (.getfield 40, 3) := by decide +kernel
theorem dSq_arrange_32 : decode cSq_arrange 32 = .ok (.if_icmp .ge 32, 3) := by decide +kernel
theorem dSq_arrange_35 : decode cSq_arrange 35 = .ok (.aload_n 0, 1) := by decide +kernel
theorem dSq_arrange_36 : decode cSq_arrange 36 = .ok (.getfield 15, 3) := by decide +kernel
theorem dSq_arrange_39 : decode cSq_arrange 39 = .ok (.iload_n 3, 1) := by decide +kernel
theorem dSq_arrange_40 : decode cSq_arrange 40 = .ok (.aload_n 0, 1) := by decide +kernel
theorem dSq_arrange_41 : decode cSq_arrange 41 = .ok (.iload_n 3, 1) := by decide +kernel
theorem dSq_arrange_42 : decode cSq_arrange 42 = .ok (.iload_n 2, 1) := by decide +kernel
theorem dSq_arrange_43 : decode cSq_arrange 43 = .ok (.invokevirtual 66, 3) := by decide +kernel
theorem dSq_arrange_46 : decode cSq_arrange 46 = .ok (.iastore, 1) := by decide +kernel
theorem dSq_arrange_47 : decode cSq_arrange 47 = .ok (.iload_n 2, 1) := by decide +kernel
theorem dSq_arrange_48 : decode cSq_arrange 48 = .ok (.iconst 1, 1) := by decide +kernel
theorem dSq_arrange_49 : decode cSq_arrange 49 = .ok (.aload_n 0, 1) := by decide +kernel
theorem dSq_arrange_50 : decode cSq_arrange 50 = .ok (.getfield 15, 3) := by decide +kernel
theorem dSq_arrange_53 : decode cSq_arrange 53 = .ok (.iload_n 3, 1) := by decide +kernel
theorem dSq_arrange_54 : decode cSq_arrange 54 = .ok (.iaload, 1) := by decide +kernel
theorem dSq_arrange_55 : decode cSq_arrange 55 = .ok (.ishl, 1) := by decide +kernel
theorem dSq_arrange_56 : decode cSq_arrange 56 = .ok (.ior, 1) := by decide +kernel
theorem dSq_arrange_57 : decode cSq_arrange 57 = .ok (.istore_n 2, 1) := by decide +kernel
theorem dSq_arrange_58 : decode cSq_arrange 58 = .ok (.iinc 3 1, 3) := by decide +kernel
theorem dSq_arrange_61 : decode cSq_arrange 61 = .ok (.goto (-37), 3) := by decide +kernel
theorem dSq_arrange_64 : decode cSq_arrange 64 = .ok (.aload_n 0, 1) := by decide +kernel
theorem dSq_arrange_65 : decode cSq_arrange 65 = .ok (.invokevirtual 60, 3) := by decide +kernel
theorem dSq_arrange_68 : decode cSq_arrange 68 = .ok (.return_, 1) := by decide +kernel
abbrev cSq_chosenAt : ByteArray := prog_6_method_6_code
def ySq_chosenAt : MethodName := ⟨RSq, "chosenAt", "(II)I"⟩
theorem dSq_chosenAt_0 : decode cSq_chosenAt 0 = .ok (.aload_n 0, 1) := by decide +kernel
theorem dSq_chosenAt_1 : decode cSq_chosenAt 1 = .ok (.getfield 57, 3) := by decide +kernel
theorem dSq_chosenAt_4 : decode cSq_chosenAt 4 = .ok (.lookupswitch 55 #[(0, 36), (1, 38), (5, 45)], 36) := by decide +kernel
theorem dSq_chosenAt_40 : decode cSq_chosenAt 40 = .ok (.iload_n 1, 1) := by decide +kernel
theorem dSq_chosenAt_41 : decode cSq_chosenAt 41 = .ok (.ireturn, 1) := by decide +kernel
theorem dSq_chosenAt_42 : decode cSq_chosenAt 42 = .ok (.aload_n 0, 1) := by decide +kernel
theorem dSq_chosenAt_43 : decode cSq_chosenAt 43 = .ok (.getfield 9, 3) := by decide +kernel
theorem dSq_chosenAt_46 : decode cSq_chosenAt 46 = .ok (.iload_n 1, 1) := by decide +kernel
theorem dSq_chosenAt_47 : decode cSq_chosenAt 47 = .ok (.iaload, 1) := by decide +kernel
theorem dSq_chosenAt_48 : decode cSq_chosenAt 48 = .ok (.ireturn, 1) := by decide +kernel
theorem dSq_chosenAt_49 : decode cSq_chosenAt 49 = .ok (.aload_n 0, 1) := by decide +kernel
theorem dSq_chosenAt_50 : decode cSq_chosenAt 50 = .ok (.getfield 30, 3) := by decide +kernel
theorem dSq_chosenAt_53 : decode cSq_chosenAt 53 = .ok (.getfield 70, 3) := by decide +kernel
theorem dSq_chosenAt_56 : decode cSq_chosenAt 56 = .ok (.iload_n 1, 1) := by decide +kernel
theorem dSq_chosenAt_57 : decode cSq_chosenAt 57 = .ok (.iaload, 1) := by decide +kernel
theorem dSq_chosenAt_58 : decode cSq_chosenAt 58 = .ok (.ireturn, 1) := by decide +kernel
theorem dSq_chosenAt_59 : decode cSq_chosenAt 59 = .ok (.aload_n 0, 1) := by decide +kernel
theorem dSq_chosenAt_60 : decode cSq_chosenAt 60 = .ok (.iload_n 2, 1) := by decide +kernel
theorem dSq_chosenAt_61 : decode cSq_chosenAt 61 = .ok (.invokevirtual 73, 3) := by decide +kernel
theorem dSq_chosenAt_64 : decode cSq_chosenAt 64 = .ok (.ireturn, 1) := by decide +kernel
abbrev cSq_cheapest : ByteArray := prog_6_method_7_code
def ySq_cheapest : MethodName := ⟨RSq, "cheapest", "(I)I"⟩
theorem dSq_cheapest_0 : decode cSq_cheapest 0 = .ok (.iconst 0, 1) := by decide +kernel
theorem dSq_cheapest_1 : decode cSq_cheapest 1 = .ok (.istore_n 2, 1) := by decide +kernel
theorem dSq_cheapest_2 : decode cSq_cheapest 2 = .ok (.ldc 79, 2) := by decide +kernel
theorem dSq_cheapest_4 : decode cSq_cheapest 4 = .ok (.istore_n 3, 1) := by decide +kernel
theorem dSq_cheapest_5 : decode cSq_cheapest 5 = .ok (.iconst 0, 1) := by decide +kernel
theorem dSq_cheapest_6 : decode cSq_cheapest 6 = .ok (.istore 4, 2) := by decide +kernel
theorem dSq_cheapest_8 : decode cSq_cheapest 8 = .ok (.iload 4, 2) := by decide +kernel
theorem dSq_cheapest_10 : decode cSq_cheapest 10 = .ok (.aload_n 0, 1) := by decide +kernel
theorem dSq_cheapest_11 : decode cSq_cheapest 11 = .ok (.getfield 21, 3) := by decide +kernel
theorem dSq_cheapest_14 : decode cSq_cheapest 14 = .ok (.getfield 40, 3) := by decide +kernel
theorem dSq_cheapest_17 : decode cSq_cheapest 17 = .ok (.if_icmp .ge 43, 3) := by decide +kernel
theorem dSq_cheapest_20 : decode cSq_cheapest 20 = .ok (.iload_n 1, 1) := by decide +kernel
theorem dSq_cheapest_21 : decode cSq_cheapest 21 = .ok (.iconst 1, 1) := by decide +kernel
theorem dSq_cheapest_22 : decode cSq_cheapest 22 = .ok (.iload 4, 2) := by decide +kernel
theorem dSq_cheapest_24 : decode cSq_cheapest 24 = .ok (.ishl, 1) := by decide +kernel
theorem dSq_cheapest_25 : decode cSq_cheapest 25 = .ok (.iand, 1) := by decide +kernel
theorem dSq_cheapest_26 : decode cSq_cheapest 26 = .ok (.ifCond .eq 7, 3) := by decide +kernel
theorem dSq_cheapest_29 : decode cSq_cheapest 29 = .ok (.iload_n 3, 1) := by decide +kernel
theorem dSq_cheapest_30 : decode cSq_cheapest 30 = .ok (.goto 10, 3) := by decide +kernel
theorem dSq_cheapest_33 : decode cSq_cheapest 33 = .ok (.aload_n 0, 1) := by decide +kernel
theorem dSq_cheapest_34 : decode cSq_cheapest 34 = .ok (.iload 4, 2) := by decide +kernel
theorem dSq_cheapest_36 : decode cSq_cheapest 36 = .ok (.iload_n 1, 1) := by decide +kernel
theorem dSq_cheapest_37 : decode cSq_cheapest 37 = .ok (.invokevirtual 80, 3) := by decide +kernel
theorem dSq_cheapest_40 : decode cSq_cheapest 40 = .ok (.istore 5, 2) := by decide +kernel
theorem dSq_cheapest_42 : decode cSq_cheapest 42 = .ok (.iload 5, 2) := by decide +kernel
theorem dSq_cheapest_44 : decode cSq_cheapest 44 = .ok (.iload_n 3, 1) := by decide +kernel
theorem dSq_cheapest_45 : decode cSq_cheapest 45 = .ok (.if_icmp .ge 9, 3) := by decide +kernel
theorem dSq_cheapest_48 : decode cSq_cheapest 48 = .ok (.iload 5, 2) := by decide +kernel
theorem dSq_cheapest_50 : decode cSq_cheapest 50 = .ok (.istore_n 3, 1) := by decide +kernel
theorem dSq_cheapest_51 : decode cSq_cheapest 51 = .ok (.iload 4, 2) := by decide +kernel
theorem dSq_cheapest_53 : decode cSq_cheapest 53 = .ok (.istore_n 2, 1) := by decide +kernel
theorem dSq_cheapest_54 : decode cSq_cheapest 54 = .ok (.iinc 4 1, 3) := by decide +kernel
theorem dSq_cheapest_57 : decode cSq_cheapest 57 = .ok (.goto (-49), 3) := by decide +kernel
theorem dSq_cheapest_60 : decode cSq_cheapest 60 = .ok (.iload_n 2, 1) := by decide +kernel
theorem dSq_cheapest_61 : decode cSq_cheapest 61 = .ok (.ireturn, 1) := by decide +kernel
abbrev cSq_costOf : ByteArray := prog_6_method_8_code
def ySq_costOf : MethodName := ⟨RSq, "costOf", "(II)I"⟩
theorem dSq_costOf_0 : decode cSq_costOf 0 = .ok (.aload_n 0, 1) := by decide +kernel
theorem dSq_costOf_1 : decode cSq_costOf 1 = .ok (.getfield 21, 3) := by decide +kernel
theorem dSq_costOf_4 : decode cSq_costOf 4 = .ok (.iload_n 1, 1) := by decide +kernel
theorem dSq_costOf_5 : decode cSq_costOf 5 = .ok (.iload_n 2, 1) := by decide +kernel
theorem dSq_costOf_6 : decode cSq_costOf 6 = .ok (.invokevirtual 83, 3) := by decide +kernel
theorem dSq_costOf_9 : decode cSq_costOf 9 = .ok (.istore_n 3, 1) := by decide +kernel
theorem dSq_costOf_10 : decode cSq_costOf 10 = .ok (.aload_n 0, 1) := by decide +kernel
theorem dSq_costOf_11 : decode cSq_costOf 11 = .ok (.getfield 57, 3) := by decide +kernel
theorem dSq_costOf_14 : decode cSq_costOf 14 = .ok (.tableswitch 41 2 4 #[26, 31, 41], 26) := by decide +kernel
theorem dSq_costOf_40 : decode cSq_costOf 40 = .ok (.iload_n 3, 1) := by decide +kernel
theorem dSq_costOf_41 : decode cSq_costOf 41 = .ok (.invokestatic 86, 3) := by decide +kernel
theorem dSq_costOf_44 : decode cSq_costOf 44 = .ok (.ireturn, 1) := by decide +kernel
theorem dSq_costOf_45 : decode cSq_costOf 45 = .ok (.aload_n 0, 1) := by decide +kernel
theorem dSq_costOf_46 : decode cSq_costOf 46 = .ok (.getfield 21, 3) := by decide +kernel
theorem dSq_costOf_49 : decode cSq_costOf 49 = .ok (.iload_n 3, 1) := by decide +kernel
theorem dSq_costOf_50 : decode cSq_costOf 50 = .ok (.iload_n 2, 1) := by decide +kernel
theorem dSq_costOf_51 : decode cSq_costOf 51 = .ok (.invokevirtual 89, 3) := by decide +kernel
theorem dSq_costOf_54 : decode cSq_costOf 54 = .ok (.ireturn, 1) := by decide +kernel
theorem dSq_costOf_55 : decode cSq_costOf 55 = .ok (.aload_n 0, 1) := by decide +kernel
theorem dSq_costOf_56 : decode cSq_costOf 56 = .ok (.getfield 21, 3) := by decide +kernel
theorem dSq_costOf_59 : decode cSq_costOf 59 = .ok (.iload_n 3, 1) := by decide +kernel
theorem dSq_costOf_60 : decode cSq_costOf 60 = .ok (.invokevirtual 92, 3) := by decide +kernel
theorem dSq_costOf_63 : decode cSq_costOf 63 = .ok (.ireturn, 1) := by decide +kernel
abbrev cSq_takeAllOut : ByteArray := prog_6_method_9_code
def ySq_takeAllOut : MethodName := ⟨RSq, "takeAllOut", "()V"⟩
theorem dSq_takeAllOut_0 : decode cSq_takeAllOut 0 = .ok (.aload_n 0, 1) := by decide +kernel
theorem dSq_takeAllOut_1 : decode cSq_takeAllOut 1 = .ok (.iconst (-1), 1) := by decide +kernel
theorem dSq_takeAllOut_2 : decode cSq_takeAllOut 2 = .ok (.putfield 95, 3) := by decide +kernel
theorem dSq_takeAllOut_5 : decode cSq_takeAllOut 5 = .ok (.aload_n 0, 1) := by decide +kernel
theorem dSq_takeAllOut_6 : decode cSq_takeAllOut 6 = .ok (.iconst 0, 1) := by decide +kernel
theorem dSq_takeAllOut_7 : decode cSq_takeAllOut 7 = .ok (.putfield 98, 3) := by decide +kernel
theorem dSq_takeAllOut_10 : decode cSq_takeAllOut 10 = .ok (.aload_n 0, 1) := by decide +kernel
theorem dSq_takeAllOut_11 : decode cSq_takeAllOut 11 = .ok (.iconst 0, 1) := by decide +kernel
theorem dSq_takeAllOut_12 : decode cSq_takeAllOut 12 = .ok (.putfield 101, 3) := by decide +kernel
theorem dSq_takeAllOut_15 : decode cSq_takeAllOut 15 = .ok (.aload_n 0, 1) := by decide +kernel
theorem dSq_takeAllOut_16 : decode cSq_takeAllOut 16 = .ok (.iconst 0, 1) := by decide +kernel
theorem dSq_takeAllOut_17 : decode cSq_takeAllOut 17 = .ok (.putfield 104, 3) := by decide +kernel
theorem dSq_takeAllOut_20 : decode cSq_takeAllOut 20 = .ok (.iconst 0, 1) := by decide +kernel
theorem dSq_takeAllOut_21 : decode cSq_takeAllOut 21 = .ok (.istore_n 1, 1) := by decide +kernel
theorem dSq_takeAllOut_22 : decode cSq_takeAllOut 22 = .ok (.iconst 0, 1) := by decide +kernel
theorem dSq_takeAllOut_23 : decode cSq_takeAllOut 23 = .ok (.istore_n 2, 1) := by decide +kernel
theorem dSq_takeAllOut_24 : decode cSq_takeAllOut 24 = .ok (.iload_n 2, 1) := by decide +kernel
theorem dSq_takeAllOut_25 : decode cSq_takeAllOut 25 = .ok (.aload_n 0, 1) := by decide +kernel
theorem dSq_takeAllOut_26 : decode cSq_takeAllOut 26 = .ok (.getfield 21, 3) := by decide +kernel
theorem dSq_takeAllOut_29 : decode cSq_takeAllOut 29 = .ok (.getfield 40, 3) := by decide +kernel
theorem dSq_takeAllOut_32 : decode cSq_takeAllOut 32 = .ok (.if_icmp .ge 111, 3) := by decide +kernel
theorem dSq_takeAllOut_35 : decode cSq_takeAllOut 35 = .ok (.aload_n 0, 1) := by decide +kernel
theorem dSq_takeAllOut_36 : decode cSq_takeAllOut 36 = .ok (.getfield 21, 3) := by decide +kernel
theorem dSq_takeAllOut_39 : decode cSq_takeAllOut 39 = .ok (.aload_n 0, 1) := by decide +kernel
theorem dSq_takeAllOut_40 : decode cSq_takeAllOut 40 = .ok (.getfield 15, 3) := by decide +kernel
theorem dSq_takeAllOut_43 : decode cSq_takeAllOut 43 = .ok (.iload_n 2, 1) := by decide +kernel
theorem dSq_takeAllOut_44 : decode cSq_takeAllOut 44 = .ok (.iaload, 1) := by decide +kernel
theorem dSq_takeAllOut_45 : decode cSq_takeAllOut 45 = .ok (.iload_n 1, 1) := by decide +kernel
theorem dSq_takeAllOut_46 : decode cSq_takeAllOut 46 = .ok (.invokevirtual 83, 3) := by decide +kernel
theorem dSq_takeAllOut_49 : decode cSq_takeAllOut 49 = .ok (.istore_n 3, 1) := by decide +kernel
theorem dSq_takeAllOut_50 : decode cSq_takeAllOut 50 = .ok (.aload_n 0, 1) := by decide +kernel
theorem dSq_takeAllOut_51 : decode cSq_takeAllOut 51 = .ok (.getfield 21, 3) := by decide +kernel
theorem dSq_takeAllOut_54 : decode cSq_takeAllOut 54 = .ok (.iload_n 3, 1) := by decide +kernel
theorem dSq_takeAllOut_55 : decode cSq_takeAllOut 55 = .ok (.invokevirtual 92, 3) := by decide +kernel
theorem dSq_takeAllOut_58 : decode cSq_takeAllOut 58 = .ok (.istore 4, 2) := by decide +kernel
theorem dSq_takeAllOut_60 : decode cSq_takeAllOut 60 = .ok (.aload_n 0, 1) := by decide +kernel
theorem dSq_takeAllOut_61 : decode cSq_takeAllOut 61 = .ok (.getfield 18, 3) := by decide +kernel
theorem dSq_takeAllOut_64 : decode cSq_takeAllOut 64 = .ok (.iload_n 2, 1) := by decide +kernel
theorem dSq_takeAllOut_65 : decode cSq_takeAllOut 65 = .ok (.iload_n 3, 1) := by decide +kernel
theorem dSq_takeAllOut_66 : decode cSq_takeAllOut 66 = .ok (.iastore, 1) := by decide +kernel
theorem dSq_takeAllOut_67 : decode cSq_takeAllOut 67 = .ok (.aload_n 0, 1) := by decide +kernel
theorem dSq_takeAllOut_68 : decode cSq_takeAllOut 68 = .ok (.aload_n 0, 1) := by decide +kernel
theorem dSq_takeAllOut_69 : decode cSq_takeAllOut 69 = .ok (.getfield 95, 3) := by decide +kernel
theorem dSq_takeAllOut_72 : decode cSq_takeAllOut 72 = .ok (.iload_n 3, 1) := by decide +kernel
theorem dSq_takeAllOut_73 : decode cSq_takeAllOut 73 = .ok (.invokestatic 86, 3) := by decide +kernel
theorem dSq_takeAllOut_76 : decode cSq_takeAllOut 76 = .ok (.iconst 1, 1) := by decide +kernel
theorem dSq_takeAllOut_77 : decode cSq_takeAllOut 77 = .ok (.isub, 1) := by decide +kernel
theorem dSq_takeAllOut_78 : decode cSq_takeAllOut 78 = .ok (.invokestatic 107, 3) := by decide +kernel
theorem dSq_takeAllOut_81 : decode cSq_takeAllOut 81 = .ok (.putfield 95, 3) := by decide +kernel
theorem dSq_takeAllOut_84 : decode cSq_takeAllOut 84 = .ok (.aload_n 0, 1) := by decide +kernel
theorem dSq_takeAllOut_85 : decode cSq_takeAllOut 85 = .ok (.dup, 1) := by decide +kernel
theorem dSq_takeAllOut_86 : decode cSq_takeAllOut 86 = .ok (.getfield 98, 3) := by decide +kernel
theorem dSq_takeAllOut_89 : decode cSq_takeAllOut 89 = .ok (.aload_n 0, 1) := by decide +kernel
theorem dSq_takeAllOut_90 : decode cSq_takeAllOut 90 = .ok (.getfield 21, 3) := by decide +kernel
theorem dSq_takeAllOut_93 : decode cSq_takeAllOut 93 = .ok (.iload_n 3, 1) := by decide +kernel
theorem dSq_takeAllOut_94 : decode cSq_takeAllOut 94 = .ok (.iload_n 1, 1) := by decide +kernel
theorem dSq_takeAllOut_95 : decode cSq_takeAllOut 95 = .ok (.invokevirtual 89, 3) := by decide +kernel
theorem dSq_takeAllOut_98 : decode cSq_takeAllOut 98 = .ok (.iadd, 1) := by decide +kernel
theorem dSq_takeAllOut_99 : decode cSq_takeAllOut 99 = .ok (.putfield 98, 3) := by decide +kernel
theorem dSq_takeAllOut_102 : decode cSq_takeAllOut 102 = .ok (.aload_n 0, 1) := by decide +kernel
theorem dSq_takeAllOut_103 : decode cSq_takeAllOut 103 = .ok (.dup, 1) := by decide +kernel
theorem dSq_takeAllOut_104 : decode cSq_takeAllOut 104 = .ok (.getfield 101, 3) := by decide +kernel
theorem dSq_takeAllOut_107 : decode cSq_takeAllOut 107 = .ok (.iload 4, 2) := by decide +kernel
theorem dSq_takeAllOut_109 : decode cSq_takeAllOut 109 = .ok (.iadd, 1) := by decide +kernel
theorem dSq_takeAllOut_110 : decode cSq_takeAllOut 110 = .ok (.putfield 101, 3) := by decide +kernel
theorem dSq_takeAllOut_113 : decode cSq_takeAllOut 113 = .ok (.aload_n 0, 1) := by decide +kernel
theorem dSq_takeAllOut_114 : decode cSq_takeAllOut 114 = .ok (.aload_n 0, 1) := by decide +kernel
theorem dSq_takeAllOut_115 : decode cSq_takeAllOut 115 = .ok (.getfield 104, 3) := by decide +kernel
theorem dSq_takeAllOut_118 : decode cSq_takeAllOut 118 = .ok (.iload 4, 2) := by decide +kernel
theorem dSq_takeAllOut_120 : decode cSq_takeAllOut 120 = .ok (.invokestatic 107, 3) := by decide +kernel
theorem dSq_takeAllOut_123 : decode cSq_takeAllOut 123 = .ok (.putfield 104, 3) := by decide +kernel
theorem dSq_takeAllOut_126 : decode cSq_takeAllOut 126 = .ok (.iload_n 1, 1) := by decide +kernel
theorem dSq_takeAllOut_127 : decode cSq_takeAllOut 127 = .ok (.iconst 1, 1) := by decide +kernel
theorem dSq_takeAllOut_128 : decode cSq_takeAllOut 128 = .ok (.aload_n 0, 1) := by decide +kernel
theorem dSq_takeAllOut_129 : decode cSq_takeAllOut 129 = .ok (.getfield 15, 3) := by decide +kernel
theorem dSq_takeAllOut_132 : decode cSq_takeAllOut 132 = .ok (.iload_n 2, 1) := by decide +kernel
theorem dSq_takeAllOut_133 : decode cSq_takeAllOut 133 = .ok (.iaload, 1) := by decide +kernel
theorem dSq_takeAllOut_134 : decode cSq_takeAllOut 134 = .ok (.ishl, 1) := by decide +kernel
theorem dSq_takeAllOut_135 : decode cSq_takeAllOut 135 = .ok (.ior, 1) := by decide +kernel
theorem dSq_takeAllOut_136 : decode cSq_takeAllOut 136 = .ok (.istore_n 1, 1) := by decide +kernel
theorem dSq_takeAllOut_137 : decode cSq_takeAllOut 137 = .ok (.iinc 2 1, 3) := by decide +kernel
theorem dSq_takeAllOut_140 : decode cSq_takeAllOut 140 = .ok (.goto (-116), 3) := by decide +kernel
theorem dSq_takeAllOut_143 : decode cSq_takeAllOut 143 = .ok (.aload_n 0, 1) := by decide +kernel
theorem dSq_takeAllOut_144 : decode cSq_takeAllOut 144 = .ok (.iconst 1, 1) := by decide +kernel
theorem dSq_takeAllOut_145 : decode cSq_takeAllOut 145 = .ok (.putfield 50, 3) := by decide +kernel
theorem dSq_takeAllOut_148 : decode cSq_takeAllOut 148 = .ok (.return_, 1) := by decide +kernel
abbrev cSq_parentOf : ByteArray := prog_6_method_10_code
def ySq_parentOf : MethodName := ⟨RSq, "parentOf", "(I)I"⟩
theorem dSq_parentOf_0 : decode cSq_parentOf 0 = .ok (.iload_n 1, 1) := by decide +kernel
theorem dSq_parentOf_1 : decode cSq_parentOf 1 = .ok (.iconst 1, 1) := by decide +kernel
theorem dSq_parentOf_2 : decode cSq_parentOf 2 = .ok (.iadd, 1) := by decide +kernel
theorem dSq_parentOf_3 : decode cSq_parentOf 3 = .ok (.istore_n 2, 1) := by decide +kernel
theorem dSq_parentOf_4 : decode cSq_parentOf 4 = .ok (.iload_n 2, 1) := by decide +kernel
theorem dSq_parentOf_5 : decode cSq_parentOf 5 = .ok (.aload_n 0, 1) := by decide +kernel
theorem dSq_parentOf_6 : decode cSq_parentOf 6 = .ok (.getfield 21, 3) := by decide +kernel
theorem dSq_parentOf_9 : decode cSq_parentOf 9 = .ok (.getfield 40, 3) := by decide +kernel
theorem dSq_parentOf_12 : decode cSq_parentOf 12 = .ok (.if_icmp .ge 29, 3) := by decide +kernel
theorem dSq_parentOf_15 : decode cSq_parentOf 15 = .ok (.aload_n 0, 1) := by decide +kernel
theorem dSq_parentOf_16 : decode cSq_parentOf 16 = .ok (.getfield 18, 3) := by decide +kernel
theorem dSq_parentOf_19 : decode cSq_parentOf 19 = .ok (.iload_n 1, 1) := by decide +kernel
theorem dSq_parentOf_20 : decode cSq_parentOf 20 = .ok (.iaload, 1) := by decide +kernel
theorem dSq_parentOf_21 : decode cSq_parentOf 21 = .ok (.iconst 1, 1) := by decide +kernel
theorem dSq_parentOf_22 : decode cSq_parentOf 22 = .ok (.aload_n 0, 1) := by decide +kernel
theorem dSq_parentOf_23 : decode cSq_parentOf 23 = .ok (.getfield 15, 3) := by decide +kernel
theorem dSq_parentOf_26 : decode cSq_parentOf 26 = .ok (.iload_n 2, 1) := by decide +kernel
theorem dSq_parentOf_27 : decode cSq_parentOf 27 = .ok (.iaload, 1) := by decide +kernel
theorem dSq_parentOf_28 : decode cSq_parentOf 28 = .ok (.ishl, 1) := by decide +kernel
theorem dSq_parentOf_29 : decode cSq_parentOf 29 = .ok (.iand, 1) := by decide +kernel
theorem dSq_parentOf_30 : decode cSq_parentOf 30 = .ok (.ifCond .eq 5, 3) := by decide +kernel
theorem dSq_parentOf_33 : decode cSq_parentOf 33 = .ok (.iload_n 2, 1) := by decide +kernel
theorem dSq_parentOf_34 : decode cSq_parentOf 34 = .ok (.ireturn, 1) := by decide +kernel
theorem dSq_parentOf_35 : decode cSq_parentOf 35 = .ok (.iinc 2 1, 3) := by decide +kernel
theorem dSq_parentOf_38 : decode cSq_parentOf 38 = .ok (.goto (-34), 3) := by decide +kernel
theorem dSq_parentOf_41 : decode cSq_parentOf 41 = .ok (.iconst (-1), 1) := by decide +kernel
theorem dSq_parentOf_42 : decode cSq_parentOf 42 = .ok (.ireturn, 1) := by decide +kernel
