abbrev cJm_max : ByteArray := prog_11_method_65_code
def yJm_max : MethodName := ⟨RJm, "max", "(II)I"⟩
theorem dJm_max_0 : decode cJm_max 0 = .ok (.iload_n 0, 1) := by decide +kernel
theorem dJm_max_1 : decode cJm_max 1 = .ok (.iload_n 1, 1) := by decide +kernel
theorem dJm_max_2 : decode cJm_max 2 = .ok (.if_icmp .lt 7, 3) := by decide +kernel
theorem dJm_max_5 : decode cJm_max 5 = .ok (.iload_n 0, 1) := by decide +kernel
theorem dJm_max_6 : decode cJm_max 6 = .ok (.goto 4, 3) := by decide +kernel
theorem dJm_max_9 : decode cJm_max 9 = .ok (.iload_n 1, 1) := by decide +kernel
theorem dJm_max_10 : decode cJm_max 10 = .ok (.ireturn, 1) := by decide +kernel
abbrev cJm_min : ByteArray := prog_11_method_69_code
def yJm_min : MethodName := ⟨RJm, "min", "(II)I"⟩
theorem dJm_min_0 : decode cJm_min 0 = .ok (.iload_n 0, 1) := by decide +kernel
theorem dJm_min_1 : decode cJm_min 1 = .ok (.iload_n 1, 1) := by decide +kernel
theorem dJm_min_2 : decode cJm_min 2 = .ok (.if_icmp .gt 7, 3) := by decide +kernel
theorem dJm_min_5 : decode cJm_min 5 = .ok (.iload_n 0, 1) := by decide +kernel
theorem dJm_min_6 : decode cJm_min 6 = .ok (.goto 4, 3) := by decide +kernel
theorem dJm_min_9 : decode cJm_min 9 = .ok (.iload_n 1, 1) := by decide +kernel
theorem dJm_min_10 : decode cJm_min 10 = .ok (.ireturn, 1) := by decide +kernel
