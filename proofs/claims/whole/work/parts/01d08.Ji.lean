abbrev cJi_bitCount : ByteArray := prog_10_method_49_code
def yJi_bitCount : MethodName := ⟨RJi, "bitCount", "(I)I"⟩
theorem dJi_bitCount_0 : decode cJi_bitCount 0 = .ok (.iload_n 0, 1) := by decide +kernel
theorem dJi_bitCount_1 : decode cJi_bitCount 1 = .ok (.iload_n 0, 1) := by decide +kernel
theorem dJi_bitCount_2 : decode cJi_bitCount 2 = .ok (.iconst 1, 1) := by decide +kernel
theorem dJi_bitCount_3 : decode cJi_bitCount 3 = .ok (.iushr, 1) := by decide +kernel
theorem dJi_bitCount_4 : decode cJi_bitCount 4 = .ok (.ldc_w 265, 3) := by decide +kernel
theorem dJi_bitCount_7 : decode cJi_bitCount 7 = .ok (.iand, 1) := by decide +kernel
theorem dJi_bitCount_8 : decode cJi_bitCount 8 = .ok (.isub, 1) := by decide +kernel
theorem dJi_bitCount_9 : decode cJi_bitCount 9 = .ok (.istore_n 0, 1) := by decide +kernel
theorem dJi_bitCount_10 : decode cJi_bitCount 10 = .ok (.iload_n 0, 1) := by decide +kernel
theorem dJi_bitCount_11 : decode cJi_bitCount 11 = .ok (.ldc_w 266, 3) := by decide +kernel
theorem dJi_bitCount_14 : decode cJi_bitCount 14 = .ok (.iand, 1) := by decide +kernel
theorem dJi_bitCount_15 : decode cJi_bitCount 15 = .ok (.iload_n 0, 1) := by decide +kernel
theorem dJi_bitCount_16 : decode cJi_bitCount 16 = .ok (.iconst 2, 1) := by decide +kernel
theorem dJi_bitCount_17 : decode cJi_bitCount 17 = .ok (.iushr, 1) := by decide +kernel
theorem dJi_bitCount_18 : decode cJi_bitCount 18 = .ok (.ldc_w 266, 3) := by decide +kernel
theorem dJi_bitCount_21 : decode cJi_bitCount 21 = .ok (.iand, 1) := by decide +kernel
theorem dJi_bitCount_22 : decode cJi_bitCount 22 = .ok (.iadd, 1) := by decide +kernel
theorem dJi_bitCount_23 : decode cJi_bitCount 23 = .ok (.istore_n 0, 1) := by decide +kernel
theorem dJi_bitCount_24 : decode cJi_bitCount 24 = .ok (.iload_n 0, 1) := by decide +kernel
theorem dJi_bitCount_25 : decode cJi_bitCount 25 = .ok (.iload_n 0, 1) := by decide +kernel
theorem dJi_bitCount_26 : decode cJi_bitCount 26 = .ok (.iconst 4, 1) := by decide +kernel
theorem dJi_bitCount_27 : decode cJi_bitCount 27 = .ok (.iushr, 1) := by decide +kernel
theorem dJi_bitCount_28 : decode cJi_bitCount 28 = .ok (.iadd, 1) := by decide +kernel
theorem dJi_bitCount_29 : decode cJi_bitCount 29 = .ok (.ldc_w 267, 3) := by decide +kernel
theorem dJi_bitCount_32 : decode cJi_bitCount 32 = .ok (.iand, 1) := by decide +kernel
theorem dJi_bitCount_33 : decode cJi_bitCount 33 = .ok (.istore_n 0, 1) := by decide +kernel
theorem dJi_bitCount_34 : decode cJi_bitCount 34 = .ok (.iload_n 0, 1) := by decide +kernel
theorem dJi_bitCount_35 : decode cJi_bitCount 35 = .ok (.iload_n 0, 1) := by decide +kernel
theorem dJi_bitCount_36 : decode cJi_bitCount 36 = .ok (.bipush 8, 2) := by decide +kernel
theorem dJi_bitCount_38 : decode cJi_bitCount 38 = .ok (.iushr, 1) := by decide +kernel
theorem dJi_bitCount_39 : decode cJi_bitCount 39 = .ok (.iadd, 1) := by decide +kernel
theorem dJi_bitCount_40 : decode cJi_bitCount 40 = .ok (.istore_n 0, 1) := by decide +kernel
theorem dJi_bitCount_41 : decode cJi_bitCount 41 = .ok (.iload_n 0, 1) := by decide +kernel
theorem dJi_bitCount_42 : decode cJi_bitCount 42 = .ok (.iload_n 0, 1) := by decide +kernel
theorem dJi_bitCount_43 : decode cJi_bitCount 43 = .ok (.bipush 16, 2) := by decide +kernel
theorem dJi_bitCount_45 : decode cJi_bitCount 45 = .ok (.iushr, 1) := by decide +kernel
theorem dJi_bitCount_46 : decode cJi_bitCount 46 = .ok (.iadd, 1) := by decide +kernel
theorem dJi_bitCount_47 : decode cJi_bitCount 47 = .ok (.istore_n 0, 1) := by decide +kernel
theorem dJi_bitCount_48 : decode cJi_bitCount 48 = .ok (.iload_n 0, 1) := by decide +kernel
theorem dJi_bitCount_49 : decode cJi_bitCount 49 = .ok (.bipush 63, 2) := by decide +kernel
theorem dJi_bitCount_51 : decode cJi_bitCount 51 = .ok (.iand, 1) := by decide +kernel
theorem dJi_bitCount_52 : decode cJi_bitCount 52 = .ok (.ireturn, 1) := by decide +kernel
