/-! Names and decode rows, printed. -/
abbrev cc_floorDiv : ByteArray := prog_12_method_47_code
def yy_floorDiv : MethodName := ⟨"java/lang/Math", "floorDiv", "(II)I"⟩
def ww_floorDiv : List Cond := .code yy_floorDiv cc_floorDiv 3 (some .int) :: zz_B
theorem d_floorDiv_0 : decode cc_floorDiv 0 = .ok (.iload_n 0, 1) := by decide +kernel
theorem d_floorDiv_1 : decode cc_floorDiv 1 = .ok (.iload_n 1, 1) := by decide +kernel
theorem d_floorDiv_2 : decode cc_floorDiv 2 = .ok (.idiv, 1) := by decide +kernel
theorem d_floorDiv_3 : decode cc_floorDiv 3 = .ok (.istore_n 2, 1) := by decide +kernel
theorem d_floorDiv_4 : decode cc_floorDiv 4 = .ok (.iload_n 0, 1) := by decide +kernel
theorem d_floorDiv_5 : decode cc_floorDiv 5 = .ok (.iload_n 1, 1) := by decide +kernel
theorem d_floorDiv_6 : decode cc_floorDiv 6 = .ok (.ixor, 1) := by decide +kernel
theorem d_floorDiv_7 : decode cc_floorDiv 7 = .ok (.ifCond .ge 14, 3) := by decide +kernel
theorem d_floorDiv_10 : decode cc_floorDiv 10 = .ok (.iload_n 2, 1) := by decide +kernel
theorem d_floorDiv_11 : decode cc_floorDiv 11 = .ok (.iload_n 1, 1) := by decide +kernel
theorem d_floorDiv_12 : decode cc_floorDiv 12 = .ok (.imul, 1) := by decide +kernel
theorem d_floorDiv_13 : decode cc_floorDiv 13 = .ok (.iload_n 0, 1) := by decide +kernel
theorem d_floorDiv_14 : decode cc_floorDiv 14 = .ok (.if_icmp .eq 7, 3) := by decide +kernel
theorem d_floorDiv_17 : decode cc_floorDiv 17 = .ok (.iload_n 2, 1) := by decide +kernel
theorem d_floorDiv_18 : decode cc_floorDiv 18 = .ok (.iconst 1, 1) := by decide +kernel
theorem d_floorDiv_19 : decode cc_floorDiv 19 = .ok (.isub, 1) := by decide +kernel
theorem d_floorDiv_20 : decode cc_floorDiv 20 = .ok (.ireturn, 1) := by decide +kernel
theorem d_floorDiv_21 : decode cc_floorDiv 21 = .ok (.iload_n 2, 1) := by decide +kernel
theorem d_floorDiv_22 : decode cc_floorDiv 22 = .ok (.ireturn, 1) := by decide +kernel
