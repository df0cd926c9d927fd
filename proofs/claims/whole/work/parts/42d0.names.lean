/-! Names and decode rows, printed. -/
abbrev cc_li_size : ByteArray := prog_2_method_2_code
def yy_li_size : MethodName := ⟨"SpotContours$Lines", "size", "()I"⟩
def ww_li_size : List Cond := .code yy_li_size cc_li_size 1 (some .int) :: zz_B
theorem d_li_size_0 : decode cc_li_size 0 = .ok (.aload_n 0, 1) := by decide +kernel
theorem d_li_size_1 : decode cc_li_size 1 = .ok (.getfield 28, 3) := by decide +kernel
theorem d_li_size_4 : decode cc_li_size 4 = .ok (.ireturn, 1) := by decide +kernel
abbrev cc_li_isLine : ByteArray := prog_2_method_3_code
def yy_li_isLine : MethodName := ⟨"SpotContours$Lines", "isLine", "(I)Z"⟩
def ww_li_isLine : List Cond := .code yy_li_isLine cc_li_isLine 2 (some .boolean) :: zz_B
theorem d_li_isLine_0 : decode cc_li_isLine 0 = .ok (.iload_n 1, 1) := by decide +kernel
theorem d_li_isLine_1 : decode cc_li_isLine 1 = .ok (.ifCond .lt 15, 3) := by decide +kernel
theorem d_li_isLine_4 : decode cc_li_isLine 4 = .ok (.iload_n 1, 1) := by decide +kernel
theorem d_li_isLine_5 : decode cc_li_isLine 5 = .ok (.aload_n 0, 1) := by decide +kernel
theorem d_li_isLine_6 : decode cc_li_isLine 6 = .ok (.getfield 28, 3) := by decide +kernel
theorem d_li_isLine_9 : decode cc_li_isLine 9 = .ok (.if_icmp .ge 7, 3) := by decide +kernel
theorem d_li_isLine_12 : decode cc_li_isLine 12 = .ok (.iconst 1, 1) := by decide +kernel
theorem d_li_isLine_13 : decode cc_li_isLine 13 = .ok (.goto 4, 3) := by decide +kernel
theorem d_li_isLine_16 : decode cc_li_isLine 16 = .ok (.iconst 0, 1) := by decide +kernel
theorem d_li_isLine_17 : decode cc_li_isLine 17 = .ok (.ireturn, 1) := by decide +kernel
abbrev cc_li_length : ByteArray := prog_2_method_4_code
def yy_li_length : MethodName := ⟨"SpotContours$Lines", "length", "(I)I"⟩
def ww_li_length : List Cond := .code yy_li_length cc_li_length 2 (some .int) :: zz_B
theorem d_li_length_0 : decode cc_li_length 0 = .ok (.aload_n 0, 1) := by decide +kernel
theorem d_li_length_1 : decode cc_li_length 1 = .ok (.getfield 19, 3) := by decide +kernel
theorem d_li_length_4 : decode cc_li_length 4 = .ok (.iload_n 1, 1) := by decide +kernel
theorem d_li_length_5 : decode cc_li_length 5 = .ok (.iconst 1, 1) := by decide +kernel
theorem d_li_length_6 : decode cc_li_length 6 = .ok (.iadd, 1) := by decide +kernel
theorem d_li_length_7 : decode cc_li_length 7 = .ok (.iaload, 1) := by decide +kernel
theorem d_li_length_8 : decode cc_li_length 8 = .ok (.aload_n 0, 1) := by decide +kernel
theorem d_li_length_9 : decode cc_li_length 9 = .ok (.getfield 19, 3) := by decide +kernel
theorem d_li_length_12 : decode cc_li_length 12 = .ok (.iload_n 1, 1) := by decide +kernel
theorem d_li_length_13 : decode cc_li_length 13 = .ok (.iaload, 1) := by decide +kernel
theorem d_li_length_14 : decode cc_li_length 14 = .ok (.isub, 1) := by decide +kernel
theorem d_li_length_15 : decode cc_li_length 15 = .ok (.ireturn, 1) := by decide +kernel
abbrev cc_li_isRing : ByteArray := prog_2_method_5_code
def yy_li_isRing : MethodName := ⟨"SpotContours$Lines", "isRing", "(I)Z"⟩
def ww_li_isRing : List Cond := .code yy_li_isRing cc_li_isRing 2 (some .boolean) :: zz_B
theorem d_li_isRing_0 : decode cc_li_isRing 0 = .ok (.aload_n 0, 1) := by decide +kernel
theorem d_li_isRing_1 : decode cc_li_isRing 1 = .ok (.getfield 22, 3) := by decide +kernel
theorem d_li_isRing_4 : decode cc_li_isRing 4 = .ok (.iload_n 1, 1) := by decide +kernel
theorem d_li_isRing_5 : decode cc_li_isRing 5 = .ok (.baload, 1) := by decide +kernel
theorem d_li_isRing_6 : decode cc_li_isRing 6 = .ok (.ireturn, 1) := by decide +kernel
abbrev cc_li_pair : ByteArray := prog_2_method_6_code
def yy_li_pair : MethodName := ⟨"SpotContours$Lines", "pair", "(II)I"⟩
def ww_li_pair : List Cond := .code yy_li_pair cc_li_pair 3 (some .int) :: zz_B
theorem d_li_pair_0 : decode cc_li_pair 0 = .ok (.aload_n 0, 1) := by decide +kernel
theorem d_li_pair_1 : decode cc_li_pair 1 = .ok (.getfield 15, 3) := by decide +kernel
theorem d_li_pair_4 : decode cc_li_pair 4 = .ok (.aload_n 0, 1) := by decide +kernel
theorem d_li_pair_5 : decode cc_li_pair 5 = .ok (.getfield 19, 3) := by decide +kernel
theorem d_li_pair_8 : decode cc_li_pair 8 = .ok (.iload_n 1, 1) := by decide +kernel
theorem d_li_pair_9 : decode cc_li_pair 9 = .ok (.iaload, 1) := by decide +kernel
theorem d_li_pair_10 : decode cc_li_pair 10 = .ok (.iload_n 2, 1) := by decide +kernel
theorem d_li_pair_11 : decode cc_li_pair 11 = .ok (.iadd, 1) := by decide +kernel
theorem d_li_pair_12 : decode cc_li_pair 12 = .ok (.iaload, 1) := by decide +kernel
theorem d_li_pair_13 : decode cc_li_pair 13 = .ok (.ireturn, 1) := by decide +kernel
abbrev cc_li_isHollow : ByteArray := prog_2_method_7_code
def yy_li_isHollow : MethodName := ⟨"SpotContours$Lines", "isHollow", "(LSpotContours$Spots;I)Z"⟩
def ww_li_isHollow : List Cond := .code yy_li_isHollow cc_li_isHollow 5 (some .boolean) :: zz_B
theorem d_li_isHollow_0 : decode cc_li_isHollow 0 = .ok (.aload_n 0, 1) := by decide +kernel
theorem d_li_isHollow_1 : decode cc_li_isHollow 1 = .ok (.iload_n 2, 1) := by decide +kernel
theorem d_li_isHollow_2 : decode cc_li_isHollow 2 = .ok (.iconst 0, 1) := by decide +kernel
theorem d_li_isHollow_3 : decode cc_li_isHollow 3 = .ok (.invokevirtual 32, 3) := by decide +kernel
theorem d_li_isHollow_6 : decode cc_li_isHollow 6 = .ok (.invokestatic 36, 3) := by decide +kernel
theorem d_li_isHollow_9 : decode cc_li_isHollow 9 = .ok (.istore_n 3, 1) := by decide +kernel
theorem d_li_isHollow_10 : decode cc_li_isHollow 10 = .ok (.iconst 0, 1) := by decide +kernel
theorem d_li_isHollow_11 : decode cc_li_isHollow 11 = .ok (.istore 4, 2) := by decide +kernel
theorem d_li_isHollow_13 : decode cc_li_isHollow 13 = .ok (.iload 4, 2) := by decide +kernel
theorem d_li_isHollow_15 : decode cc_li_isHollow 15 = .ok (.aload_n 0, 1) := by decide +kernel
theorem d_li_isHollow_16 : decode cc_li_isHollow 16 = .ok (.iload_n 2, 1) := by decide +kernel
theorem d_li_isHollow_17 : decode cc_li_isHollow 17 = .ok (.invokevirtual 40, 3) := by decide +kernel
theorem d_li_isHollow_20 : decode cc_li_isHollow 20 = .ok (.if_icmp .ge 41, 3) := by decide +kernel
theorem d_li_isHollow_23 : decode cc_li_isHollow 23 = .ok (.aload_n 1, 1) := by decide +kernel
theorem d_li_isHollow_24 : decode cc_li_isHollow 24 = .ok (.iload_n 3, 1) := by decide +kernel
theorem d_li_isHollow_25 : decode cc_li_isHollow 25 = .ok (.aload_n 0, 1) := by decide +kernel
theorem d_li_isHollow_26 : decode cc_li_isHollow 26 = .ok (.iload_n 2, 1) := by decide +kernel
theorem d_li_isHollow_27 : decode cc_li_isHollow 27 = .ok (.iload 4, 2) := by decide +kernel
theorem d_li_isHollow_29 : decode cc_li_isHollow 29 = .ok (.invokevirtual 32, 3) := by decide +kernel
theorem d_li_isHollow_32 : decode cc_li_isHollow 32 = .ok (.invokestatic 36, 3) := by decide +kernel
theorem d_li_isHollow_35 : decode cc_li_isHollow 35 = .ok (.invokestatic 43, 3) := by decide +kernel
theorem d_li_isHollow_38 : decode cc_li_isHollow 38 = .ok (.istore_n 3, 1) := by decide +kernel
theorem d_li_isHollow_39 : decode cc_li_isHollow 39 = .ok (.aload_n 1, 1) := by decide +kernel
theorem d_li_isHollow_40 : decode cc_li_isHollow 40 = .ok (.iload_n 3, 1) := by decide +kernel
theorem d_li_isHollow_41 : decode cc_li_isHollow 41 = .ok (.aload_n 0, 1) := by decide +kernel
theorem d_li_isHollow_42 : decode cc_li_isHollow 42 = .ok (.iload_n 2, 1) := by decide +kernel
theorem d_li_isHollow_43 : decode cc_li_isHollow 43 = .ok (.iload 4, 2) := by decide +kernel
theorem d_li_isHollow_45 : decode cc_li_isHollow 45 = .ok (.invokevirtual 32, 3) := by decide +kernel
theorem d_li_isHollow_48 : decode cc_li_isHollow 48 = .ok (.invokestatic 47, 3) := by decide +kernel
theorem d_li_isHollow_51 : decode cc_li_isHollow 51 = .ok (.invokestatic 43, 3) := by decide +kernel
theorem d_li_isHollow_54 : decode cc_li_isHollow 54 = .ok (.istore_n 3, 1) := by decide +kernel
theorem d_li_isHollow_55 : decode cc_li_isHollow 55 = .ok (.iinc 4 1, 3) := by decide +kernel
theorem d_li_isHollow_58 : decode cc_li_isHollow 58 = .ok (.goto (-45), 3) := by decide +kernel
theorem d_li_isHollow_61 : decode cc_li_isHollow 61 = .ok (.aload_n 0, 1) := by decide +kernel
theorem d_li_isHollow_62 : decode cc_li_isHollow 62 = .ok (.getfield 9, 3) := by decide +kernel
theorem d_li_isHollow_65 : decode cc_li_isHollow 65 = .ok (.iload_n 3, 1) := by decide +kernel
theorem d_li_isHollow_66 : decode cc_li_isHollow 66 = .ok (.baload, 1) := by decide +kernel
theorem d_li_isHollow_67 : decode cc_li_isHollow 67 = .ok (.ireturn, 1) := by decide +kernel
abbrev cc_li_moreLeft : ByteArray := prog_2_method_8_code
def yy_li_moreLeft : MethodName := ⟨"SpotContours$Lines", "moreLeft", "(LSpotContours$Spots;II)I"⟩
def ww_li_moreLeft : List Cond := .code yy_li_moreLeft cc_li_moreLeft 3 (some .int) :: zz_B
theorem d_li_moreLeft_0 : decode cc_li_moreLeft 0 = .ok (.aload_n 0, 1) := by decide +kernel
theorem d_li_moreLeft_1 : decode cc_li_moreLeft 1 = .ok (.iload_n 2, 1) := by decide +kernel
theorem d_li_moreLeft_2 : decode cc_li_moreLeft 2 = .ok (.invokevirtual 50, 3) := by decide +kernel
theorem d_li_moreLeft_5 : decode cc_li_moreLeft 5 = .ok (.aload_n 0, 1) := by decide +kernel
theorem d_li_moreLeft_6 : decode cc_li_moreLeft 6 = .ok (.iload_n 1, 1) := by decide +kernel
theorem d_li_moreLeft_7 : decode cc_li_moreLeft 7 = .ok (.invokevirtual 50, 3) := by decide +kernel
theorem d_li_moreLeft_10 : decode cc_li_moreLeft 10 = .ok (.if_icmp .ge 7, 3) := by decide +kernel
theorem d_li_moreLeft_13 : decode cc_li_moreLeft 13 = .ok (.iload_n 2, 1) := by decide +kernel
theorem d_li_moreLeft_14 : decode cc_li_moreLeft 14 = .ok (.goto 4, 3) := by decide +kernel
theorem d_li_moreLeft_17 : decode cc_li_moreLeft 17 = .ok (.iload_n 1, 1) := by decide +kernel
theorem d_li_moreLeft_18 : decode cc_li_moreLeft 18 = .ok (.ireturn, 1) := by decide +kernel
abbrev cc_li_trace : ByteArray := prog_2_method_9_code
def yy_li_trace : MethodName := ⟨"SpotContours$Lines", "trace", "(LSpotContours$Spots;LSpotContours$Mesh;I)V"⟩
def ww_li_trace : List Cond := .code yy_li_trace cc_li_trace 6 none :: zz_B
theorem d_li_trace_0 : decode cc_li_trace 0 = .ok (.aload_n 0, 1) := by decide +kernel
theorem d_li_trace_1 : decode cc_li_trace 1 = .ok (.invokevirtual 55, 3) := by decide +kernel
theorem d_li_trace_4 : decode cc_li_trace 4 = .ok (.iconst 0, 1) := by decide +kernel
theorem d_li_trace_5 : decode cc_li_trace 5 = .ok (.istore 4, 2) := by decide +kernel
theorem d_li_trace_7 : decode cc_li_trace 7 = .ok (.iload 4, 2) := by decide +kernel
theorem d_li_trace_9 : decode cc_li_trace 9 = .ok (.aload_n 1, 1) := by decide +kernel
theorem d_li_trace_10 : decode cc_li_trace 10 = .ok (.invokevirtual 58, 3) := by decide +kernel
theorem d_li_trace_13 : decode cc_li_trace 13 = .ok (.if_icmp .ge 31, 3) := by decide +kernel
theorem d_li_trace_16 : decode cc_li_trace 16 = .ok (.aload_n 0, 1) := by decide +kernel
theorem d_li_trace_17 : decode cc_li_trace 17 = .ok (.getfield 9, 3) := by decide +kernel
theorem d_li_trace_20 : decode cc_li_trace 20 = .ok (.iload 4, 2) := by decide +kernel
theorem d_li_trace_22 : decode cc_li_trace 22 = .ok (.aload_n 1, 1) := by decide +kernel
theorem d_li_trace_23 : decode cc_li_trace 23 = .ok (.iload 4, 2) := by decide +kernel
theorem d_li_trace_25 : decode cc_li_trace 25 = .ok (.invokevirtual 62, 3) := by decide +kernel
theorem d_li_trace_28 : decode cc_li_trace 28 = .ok (.iload_n 3, 1) := by decide +kernel
theorem d_li_trace_29 : decode cc_li_trace 29 = .ok (.if_icmp .le 7, 3) := by decide +kernel
theorem d_li_trace_32 : decode cc_li_trace 32 = .ok (.iconst 1, 1) := by decide +kernel
theorem d_li_trace_33 : decode cc_li_trace 33 = .ok (.goto 4, 3) := by decide +kernel
theorem d_li_trace_36 : decode cc_li_trace 36 = .ok (.iconst 0, 1) := by decide +kernel
theorem d_li_trace_37 : decode cc_li_trace 37 = .ok (.bastore, 1) := by decide +kernel
theorem d_li_trace_38 : decode cc_li_trace 38 = .ok (.iinc 4 1, 3) := by decide +kernel
theorem d_li_trace_41 : decode cc_li_trace 41 = .ok (.goto (-34), 3) := by decide +kernel
theorem d_li_trace_44 : decode cc_li_trace 44 = .ok (.iconst 0, 1) := by decide +kernel
theorem d_li_trace_45 : decode cc_li_trace 45 = .ok (.istore 4, 2) := by decide +kernel
theorem d_li_trace_47 : decode cc_li_trace 47 = .ok (.iload 4, 2) := by decide +kernel
theorem d_li_trace_49 : decode cc_li_trace 49 = .ok (.aload_n 1, 1) := by decide +kernel
theorem d_li_trace_50 : decode cc_li_trace 50 = .ok (.invokevirtual 58, 3) := by decide +kernel
theorem d_li_trace_53 : decode cc_li_trace 53 = .ok (.if_icmp .ge 92, 3) := by decide +kernel
theorem d_li_trace_56 : decode cc_li_trace 56 = .ok (.iload 4, 2) := by decide +kernel
theorem d_li_trace_58 : decode cc_li_trace 58 = .ok (.iconst 1, 1) := by decide +kernel
theorem d_li_trace_59 : decode cc_li_trace 59 = .ok (.iadd, 1) := by decide +kernel
theorem d_li_trace_60 : decode cc_li_trace 60 = .ok (.istore 5, 2) := by decide +kernel
theorem d_li_trace_62 : decode cc_li_trace 62 = .ok (.iload 5, 2) := by decide +kernel
theorem d_li_trace_64 : decode cc_li_trace 64 = .ok (.aload_n 1, 1) := by decide +kernel
theorem d_li_trace_65 : decode cc_li_trace 65 = .ok (.invokevirtual 58, 3) := by decide +kernel
theorem d_li_trace_68 : decode cc_li_trace 68 = .ok (.if_icmp .ge 71, 3) := by decide +kernel
theorem d_li_trace_71 : decode cc_li_trace 71 = .ok (.aload_n 0, 1) := by decide +kernel
theorem d_li_trace_72 : decode cc_li_trace 72 = .ok (.getfield 9, 3) := by decide +kernel
theorem d_li_trace_75 : decode cc_li_trace 75 = .ok (.iload 4, 2) := by decide +kernel
theorem d_li_trace_77 : decode cc_li_trace 77 = .ok (.baload, 1) := by decide +kernel
theorem d_li_trace_78 : decode cc_li_trace 78 = .ok (.aload_n 0, 1) := by decide +kernel
theorem d_li_trace_79 : decode cc_li_trace 79 = .ok (.getfield 9, 3) := by decide +kernel
theorem d_li_trace_82 : decode cc_li_trace 82 = .ok (.iload 5, 2) := by decide +kernel
theorem d_li_trace_84 : decode cc_li_trace 84 = .ok (.baload, 1) := by decide +kernel
theorem d_li_trace_85 : decode cc_li_trace 85 = .ok (.if_icmp .eq 48, 3) := by decide +kernel
theorem d_li_trace_88 : decode cc_li_trace 88 = .ok (.aload_n 2, 1) := by decide +kernel
theorem d_li_trace_89 : decode cc_li_trace 89 = .ok (.iload 4, 2) := by decide +kernel
theorem d_li_trace_91 : decode cc_li_trace 91 = .ok (.iload 5, 2) := by decide +kernel
theorem d_li_trace_93 : decode cc_li_trace 93 = .ok (.invokevirtual 65, 3) := by decide +kernel
theorem d_li_trace_96 : decode cc_li_trace 96 = .ok (.ifCond .le 37, 3) := by decide +kernel
theorem d_li_trace_99 : decode cc_li_trace 99 = .ok (.aload_n 0, 1) := by decide +kernel
theorem d_li_trace_100 : decode cc_li_trace 100 = .ok (.aload_n 2, 1) := by decide +kernel
theorem d_li_trace_101 : decode cc_li_trace 101 = .ok (.aload_n 0, 1) := by decide +kernel
theorem d_li_trace_102 : decode cc_li_trace 102 = .ok (.getfield 9, 3) := by decide +kernel
theorem d_li_trace_105 : decode cc_li_trace 105 = .ok (.iload 4, 2) := by decide +kernel
theorem d_li_trace_107 : decode cc_li_trace 107 = .ok (.baload, 1) := by decide +kernel
theorem d_li_trace_108 : decode cc_li_trace 108 = .ok (.ifCond .eq 14, 3) := by decide +kernel
theorem d_li_trace_111 : decode cc_li_trace 111 = .ok (.bipush 16, 2) := by decide +kernel
theorem d_li_trace_113 : decode cc_li_trace 113 = .ok (.iload 4, 2) := by decide +kernel
theorem d_li_trace_115 : decode cc_li_trace 115 = .ok (.imul, 1) := by decide +kernel
theorem d_li_trace_116 : decode cc_li_trace 116 = .ok (.iload 5, 2) := by decide +kernel
theorem d_li_trace_118 : decode cc_li_trace 118 = .ok (.iadd, 1) := by decide +kernel
theorem d_li_trace_119 : decode cc_li_trace 119 = .ok (.goto 11, 3) := by decide +kernel
theorem d_li_trace_122 : decode cc_li_trace 122 = .ok (.bipush 16, 2) := by decide +kernel
theorem d_li_trace_124 : decode cc_li_trace 124 = .ok (.iload 5, 2) := by decide +kernel
theorem d_li_trace_126 : decode cc_li_trace 126 = .ok (.imul, 1) := by decide +kernel
theorem d_li_trace_127 : decode cc_li_trace 127 = .ok (.iload 4, 2) := by decide +kernel
theorem d_li_trace_129 : decode cc_li_trace 129 = .ok (.iadd, 1) := by decide +kernel
theorem d_li_trace_130 : decode cc_li_trace 130 = .ok (.invokevirtual 70, 3) := by decide +kernel
theorem d_li_trace_133 : decode cc_li_trace 133 = .ok (.iinc 5 1, 3) := by decide +kernel
theorem d_li_trace_136 : decode cc_li_trace 136 = .ok (.goto (-74), 3) := by decide +kernel
theorem d_li_trace_139 : decode cc_li_trace 139 = .ok (.iinc 4 1, 3) := by decide +kernel
theorem d_li_trace_142 : decode cc_li_trace 142 = .ok (.goto (-95), 3) := by decide +kernel
theorem d_li_trace_145 : decode cc_li_trace 145 = .ok (.return_, 1) := by decide +kernel
abbrev cc_li_clear : ByteArray := prog_2_method_10_code
def yy_li_clear : MethodName := ⟨"SpotContours$Lines", "clear", "()V"⟩
def ww_li_clear : List Cond := .code yy_li_clear cc_li_clear 2 none :: zz_B
theorem d_li_clear_0 : decode cc_li_clear 0 = .ok (.aload_n 0, 1) := by decide +kernel
theorem d_li_clear_1 : decode cc_li_clear 1 = .ok (.iconst 0, 1) := by decide +kernel
theorem d_li_clear_2 : decode cc_li_clear 2 = .ok (.putfield 28, 3) := by decide +kernel
theorem d_li_clear_5 : decode cc_li_clear 5 = .ok (.iconst 0, 1) := by decide +kernel
theorem d_li_clear_6 : decode cc_li_clear 6 = .ok (.istore_n 1, 1) := by decide +kernel
theorem d_li_clear_7 : decode cc_li_clear 7 = .ok (.iload_n 1, 1) := by decide +kernel
theorem d_li_clear_8 : decode cc_li_clear 8 = .ok (.sipush 256, 3) := by decide +kernel
theorem d_li_clear_11 : decode cc_li_clear 11 = .ok (.if_icmp .ge 16, 3) := by decide +kernel
theorem d_li_clear_14 : decode cc_li_clear 14 = .ok (.aload_n 0, 1) := by decide +kernel
theorem d_li_clear_15 : decode cc_li_clear 15 = .ok (.getfield 25, 3) := by decide +kernel
theorem d_li_clear_18 : decode cc_li_clear 18 = .ok (.iload_n 1, 1) := by decide +kernel
theorem d_li_clear_19 : decode cc_li_clear 19 = .ok (.iconst 0, 1) := by decide +kernel
theorem d_li_clear_20 : decode cc_li_clear 20 = .ok (.bastore, 1) := by decide +kernel
theorem d_li_clear_21 : decode cc_li_clear 21 = .ok (.iinc 1 1, 3) := by decide +kernel
theorem d_li_clear_24 : decode cc_li_clear 24 = .ok (.goto (-17), 3) := by decide +kernel
theorem d_li_clear_27 : decode cc_li_clear 27 = .ok (.return_, 1) := by decide +kernel
abbrev cc_li_traceFrom : ByteArray := prog_2_method_11_code
def yy_li_traceFrom : MethodName := ⟨"SpotContours$Lines", "traceFrom", "(LSpotContours$Mesh;I)V"⟩
def ww_li_traceFrom : List Cond := .code yy_li_traceFrom cc_li_traceFrom 6 none :: zz_B
theorem d_li_traceFrom_0 : decode cc_li_traceFrom 0 = .ok (.aload_n 0, 1) := by decide +kernel
theorem d_li_traceFrom_1 : decode cc_li_traceFrom 1 = .ok (.getfield 25, 3) := by decide +kernel
theorem d_li_traceFrom_4 : decode cc_li_traceFrom 4 = .ok (.iload_n 2, 1) := by decide +kernel
theorem d_li_traceFrom_5 : decode cc_li_traceFrom 5 = .ok (.baload, 1) := by decide +kernel
theorem d_li_traceFrom_6 : decode cc_li_traceFrom 6 = .ok (.ifCond .ne 12, 3) := by decide +kernel
theorem d_li_traceFrom_9 : decode cc_li_traceFrom 9 = .ok (.aload_n 0, 1) := by decide +kernel
theorem d_li_traceFrom_10 : decode cc_li_traceFrom 10 = .ok (.getfield 28, 3) := by decide +kernel
theorem d_li_traceFrom_13 : decode cc_li_traceFrom 13 = .ok (.bipush 120, 2) := by decide +kernel
theorem d_li_traceFrom_15 : decode cc_li_traceFrom 15 = .ok (.if_icmp .lt 4, 3) := by decide +kernel
theorem d_li_traceFrom_18 : decode cc_li_traceFrom 18 = .ok (.return_, 1) := by decide +kernel
theorem d_li_traceFrom_19 : decode cc_li_traceFrom 19 = .ok (.aload_n 0, 1) := by decide +kernel
theorem d_li_traceFrom_20 : decode cc_li_traceFrom 20 = .ok (.aload_n 1, 1) := by decide +kernel
theorem d_li_traceFrom_21 : decode cc_li_traceFrom 21 = .ok (.iload_n 2, 1) := by decide +kernel
theorem d_li_traceFrom_22 : decode cc_li_traceFrom 22 = .ok (.invokevirtual 74, 3) := by decide +kernel
theorem d_li_traceFrom_25 : decode cc_li_traceFrom 25 = .ok (.istore_n 3, 1) := by decide +kernel
theorem d_li_traceFrom_26 : decode cc_li_traceFrom 26 = .ok (.aload_n 0, 1) := by decide +kernel
theorem d_li_traceFrom_27 : decode cc_li_traceFrom 27 = .ok (.getfield 22, 3) := by decide +kernel
theorem d_li_traceFrom_30 : decode cc_li_traceFrom 30 = .ok (.aload_n 0, 1) := by decide +kernel
theorem d_li_traceFrom_31 : decode cc_li_traceFrom 31 = .ok (.getfield 28, 3) := by decide +kernel
theorem d_li_traceFrom_34 : decode cc_li_traceFrom 34 = .ok (.aload_n 0, 1) := by decide +kernel
theorem d_li_traceFrom_35 : decode cc_li_traceFrom 35 = .ok (.aload_n 1, 1) := by decide +kernel
theorem d_li_traceFrom_36 : decode cc_li_traceFrom 36 = .ok (.iload_n 3, 1) := by decide +kernel
theorem d_li_traceFrom_37 : decode cc_li_traceFrom 37 = .ok (.invokevirtual 78, 3) := by decide +kernel
theorem d_li_traceFrom_40 : decode cc_li_traceFrom 40 = .ok (.iconst (-1), 1) := by decide +kernel
theorem d_li_traceFrom_41 : decode cc_li_traceFrom 41 = .ok (.if_icmp .eq 7, 3) := by decide +kernel
theorem d_li_traceFrom_44 : decode cc_li_traceFrom 44 = .ok (.iconst 1, 1) := by decide +kernel
theorem d_li_traceFrom_45 : decode cc_li_traceFrom 45 = .ok (.goto 4, 3) := by decide +kernel
theorem d_li_traceFrom_48 : decode cc_li_traceFrom 48 = .ok (.iconst 0, 1) := by decide +kernel
theorem d_li_traceFrom_49 : decode cc_li_traceFrom 49 = .ok (.bastore, 1) := by decide +kernel
theorem d_li_traceFrom_50 : decode cc_li_traceFrom 50 = .ok (.aload_n 0, 1) := by decide +kernel
theorem d_li_traceFrom_51 : decode cc_li_traceFrom 51 = .ok (.getfield 19, 3) := by decide +kernel
theorem d_li_traceFrom_54 : decode cc_li_traceFrom 54 = .ok (.aload_n 0, 1) := by decide +kernel
theorem d_li_traceFrom_55 : decode cc_li_traceFrom 55 = .ok (.getfield 28, 3) := by decide +kernel
theorem d_li_traceFrom_58 : decode cc_li_traceFrom 58 = .ok (.iaload, 1) := by decide +kernel
theorem d_li_traceFrom_59 : decode cc_li_traceFrom 59 = .ok (.istore 4, 2) := by decide +kernel
theorem d_li_traceFrom_61 : decode cc_li_traceFrom 61 = .ok (.iload 4, 2) := by decide +kernel
theorem d_li_traceFrom_63 : decode cc_li_traceFrom 63 = .ok (.istore 5, 2) := by decide +kernel
theorem d_li_traceFrom_65 : decode cc_li_traceFrom 65 = .ok (.iload 5, 2) := by decide +kernel
theorem d_li_traceFrom_67 : decode cc_li_traceFrom 67 = .ok (.bipush 120, 2) := by decide +kernel
theorem d_li_traceFrom_69 : decode cc_li_traceFrom 69 = .ok (.if_icmp .ge 51, 3) := by decide +kernel
theorem d_li_traceFrom_72 : decode cc_li_traceFrom 72 = .ok (.iload_n 3, 1) := by decide +kernel
theorem d_li_traceFrom_73 : decode cc_li_traceFrom 73 = .ok (.iconst (-1), 1) := by decide +kernel
theorem d_li_traceFrom_74 : decode cc_li_traceFrom 74 = .ok (.if_icmp .eq 46, 3) := by decide +kernel
theorem d_li_traceFrom_77 : decode cc_li_traceFrom 77 = .ok (.aload_n 0, 1) := by decide +kernel
theorem d_li_traceFrom_78 : decode cc_li_traceFrom 78 = .ok (.getfield 25, 3) := by decide +kernel
theorem d_li_traceFrom_81 : decode cc_li_traceFrom 81 = .ok (.iload_n 3, 1) := by decide +kernel
theorem d_li_traceFrom_82 : decode cc_li_traceFrom 82 = .ok (.baload, 1) := by decide +kernel
theorem d_li_traceFrom_83 : decode cc_li_traceFrom 83 = .ok (.ifCond .ne 37, 3) := by decide +kernel
theorem d_li_traceFrom_86 : decode cc_li_traceFrom 86 = .ok (.aload_n 0, 1) := by decide +kernel
theorem d_li_traceFrom_87 : decode cc_li_traceFrom 87 = .ok (.getfield 15, 3) := by decide +kernel
theorem d_li_traceFrom_90 : decode cc_li_traceFrom 90 = .ok (.iload 5, 2) := by decide +kernel
theorem d_li_traceFrom_92 : decode cc_li_traceFrom 92 = .ok (.iload_n 3, 1) := by decide +kernel
theorem d_li_traceFrom_93 : decode cc_li_traceFrom 93 = .ok (.iastore, 1) := by decide +kernel
theorem d_li_traceFrom_94 : decode cc_li_traceFrom 94 = .ok (.aload_n 0, 1) := by decide +kernel
theorem d_li_traceFrom_95 : decode cc_li_traceFrom 95 = .ok (.getfield 25, 3) := by decide +kernel
theorem d_li_traceFrom_98 : decode cc_li_traceFrom 98 = .ok (.iload_n 3, 1) := by decide +kernel
theorem d_li_traceFrom_99 : decode cc_li_traceFrom 99 = .ok (.iconst 1, 1) := by decide +kernel
theorem d_li_traceFrom_100 : decode cc_li_traceFrom 100 = .ok (.bastore, 1) := by decide +kernel
theorem d_li_traceFrom_101 : decode cc_li_traceFrom 101 = .ok (.aload_n 0, 1) := by decide +kernel
theorem d_li_traceFrom_102 : decode cc_li_traceFrom 102 = .ok (.aload_n 1, 1) := by decide +kernel
theorem d_li_traceFrom_103 : decode cc_li_traceFrom 103 = .ok (.iload_n 3, 1) := by decide +kernel
theorem d_li_traceFrom_104 : decode cc_li_traceFrom 104 = .ok (.invokevirtual 81, 3) := by decide +kernel
theorem d_li_traceFrom_107 : decode cc_li_traceFrom 107 = .ok (.istore_n 3, 1) := by decide +kernel
theorem d_li_traceFrom_108 : decode cc_li_traceFrom 108 = .ok (.iload 5, 2) := by decide +kernel
theorem d_li_traceFrom_110 : decode cc_li_traceFrom 110 = .ok (.iconst 1, 1) := by decide +kernel
theorem d_li_traceFrom_111 : decode cc_li_traceFrom 111 = .ok (.iadd, 1) := by decide +kernel
theorem d_li_traceFrom_112 : decode cc_li_traceFrom 112 = .ok (.istore 4, 2) := by decide +kernel
theorem d_li_traceFrom_114 : decode cc_li_traceFrom 114 = .ok (.iinc 5 1, 3) := by decide +kernel
theorem d_li_traceFrom_117 : decode cc_li_traceFrom 117 = .ok (.goto (-52), 3) := by decide +kernel
theorem d_li_traceFrom_120 : decode cc_li_traceFrom 120 = .ok (.aload_n 0, 1) := by decide +kernel
theorem d_li_traceFrom_121 : decode cc_li_traceFrom 121 = .ok (.dup, 1) := by decide +kernel
theorem d_li_traceFrom_122 : decode cc_li_traceFrom 122 = .ok (.getfield 28, 3) := by decide +kernel
theorem d_li_traceFrom_125 : decode cc_li_traceFrom 125 = .ok (.iconst 1, 1) := by decide +kernel
theorem d_li_traceFrom_126 : decode cc_li_traceFrom 126 = .ok (.iadd, 1) := by decide +kernel
theorem d_li_traceFrom_127 : decode cc_li_traceFrom 127 = .ok (.putfield 28, 3) := by decide +kernel
theorem d_li_traceFrom_130 : decode cc_li_traceFrom 130 = .ok (.aload_n 0, 1) := by decide +kernel
theorem d_li_traceFrom_131 : decode cc_li_traceFrom 131 = .ok (.getfield 19, 3) := by decide +kernel
theorem d_li_traceFrom_134 : decode cc_li_traceFrom 134 = .ok (.aload_n 0, 1) := by decide +kernel
theorem d_li_traceFrom_135 : decode cc_li_traceFrom 135 = .ok (.getfield 28, 3) := by decide +kernel
theorem d_li_traceFrom_138 : decode cc_li_traceFrom 138 = .ok (.iload 4, 2) := by decide +kernel
theorem d_li_traceFrom_140 : decode cc_li_traceFrom 140 = .ok (.iastore, 1) := by decide +kernel
theorem d_li_traceFrom_141 : decode cc_li_traceFrom 141 = .ok (.return_, 1) := by decide +kernel
abbrev cc_li_beginning : ByteArray := prog_2_method_12_code
def yy_li_beginning : MethodName := ⟨"SpotContours$Lines", "beginning", "(LSpotContours$Mesh;I)I"⟩
def ww_li_beginning : List Cond := .code yy_li_beginning cc_li_beginning 6 (some .int) :: zz_B
theorem d_li_beginning_0 : decode cc_li_beginning 0 = .ok (.iload_n 2, 1) := by decide +kernel
theorem d_li_beginning_1 : decode cc_li_beginning 1 = .ok (.istore_n 3, 1) := by decide +kernel
theorem d_li_beginning_2 : decode cc_li_beginning 2 = .ok (.iconst 0, 1) := by decide +kernel
theorem d_li_beginning_3 : decode cc_li_beginning 3 = .ok (.istore 4, 2) := by decide +kernel
theorem d_li_beginning_5 : decode cc_li_beginning 5 = .ok (.iload 4, 2) := by decide +kernel
theorem d_li_beginning_7 : decode cc_li_beginning 7 = .ok (.bipush 120, 2) := by decide +kernel
theorem d_li_beginning_9 : decode cc_li_beginning 9 = .ok (.if_icmp .ge 36, 3) := by decide +kernel
theorem d_li_beginning_12 : decode cc_li_beginning 12 = .ok (.aload_n 0, 1) := by decide +kernel
theorem d_li_beginning_13 : decode cc_li_beginning 13 = .ok (.aload_n 1, 1) := by decide +kernel
theorem d_li_beginning_14 : decode cc_li_beginning 14 = .ok (.iload_n 3, 1) := by decide +kernel
theorem d_li_beginning_15 : decode cc_li_beginning 15 = .ok (.invokevirtual 78, 3) := by decide +kernel
theorem d_li_beginning_18 : decode cc_li_beginning 18 = .ok (.istore 5, 2) := by decide +kernel
theorem d_li_beginning_20 : decode cc_li_beginning 20 = .ok (.iload 5, 2) := by decide +kernel
theorem d_li_beginning_22 : decode cc_li_beginning 22 = .ok (.iconst (-1), 1) := by decide +kernel
theorem d_li_beginning_23 : decode cc_li_beginning 23 = .ok (.if_icmp .ne 5, 3) := by decide +kernel
theorem d_li_beginning_26 : decode cc_li_beginning 26 = .ok (.iload_n 3, 1) := by decide +kernel
theorem d_li_beginning_27 : decode cc_li_beginning 27 = .ok (.ireturn, 1) := by decide +kernel
theorem d_li_beginning_28 : decode cc_li_beginning 28 = .ok (.iload 5, 2) := by decide +kernel
theorem d_li_beginning_30 : decode cc_li_beginning 30 = .ok (.iload_n 2, 1) := by decide +kernel
theorem d_li_beginning_31 : decode cc_li_beginning 31 = .ok (.if_icmp .ne 5, 3) := by decide +kernel
theorem d_li_beginning_34 : decode cc_li_beginning 34 = .ok (.iload_n 2, 1) := by decide +kernel
theorem d_li_beginning_35 : decode cc_li_beginning 35 = .ok (.ireturn, 1) := by decide +kernel
theorem d_li_beginning_36 : decode cc_li_beginning 36 = .ok (.iload 5, 2) := by decide +kernel
theorem d_li_beginning_38 : decode cc_li_beginning 38 = .ok (.istore_n 3, 1) := by decide +kernel
theorem d_li_beginning_39 : decode cc_li_beginning 39 = .ok (.iinc 4 1, 3) := by decide +kernel
theorem d_li_beginning_42 : decode cc_li_beginning 42 = .ok (.goto (-37), 3) := by decide +kernel
theorem d_li_beginning_45 : decode cc_li_beginning 45 = .ok (.iload_n 2, 1) := by decide +kernel
theorem d_li_beginning_46 : decode cc_li_beginning 46 = .ok (.ireturn, 1) := by decide +kernel
abbrev cc_li_behind : ByteArray := prog_2_method_13_code
def yy_li_behind : MethodName := ⟨"SpotContours$Lines", "behind", "(LSpotContours$Mesh;I)I"⟩
def ww_li_behind : List Cond := .code yy_li_behind cc_li_behind 5 (some .int) :: zz_B
theorem d_li_behind_0 : decode cc_li_behind 0 = .ok (.iload_n 2, 1) := by decide +kernel
theorem d_li_behind_1 : decode cc_li_behind 1 = .ok (.invokestatic 36, 3) := by decide +kernel
theorem d_li_behind_4 : decode cc_li_behind 4 = .ok (.istore_n 3, 1) := by decide +kernel
theorem d_li_behind_5 : decode cc_li_behind 5 = .ok (.iload_n 2, 1) := by decide +kernel
theorem d_li_behind_6 : decode cc_li_behind 6 = .ok (.invokestatic 47, 3) := by decide +kernel
theorem d_li_behind_9 : decode cc_li_behind 9 = .ok (.istore 4, 2) := by decide +kernel
theorem d_li_behind_11 : decode cc_li_behind 11 = .ok (.aload_n 0, 1) := by decide +kernel
theorem d_li_behind_12 : decode cc_li_behind 12 = .ok (.iload_n 3, 1) := by decide +kernel
theorem d_li_behind_13 : decode cc_li_behind 13 = .ok (.iload 4, 2) := by decide +kernel
theorem d_li_behind_15 : decode cc_li_behind 15 = .ok (.aload_n 1, 1) := by decide +kernel
theorem d_li_behind_16 : decode cc_li_behind 16 = .ok (.iload 4, 2) := by decide +kernel
theorem d_li_behind_18 : decode cc_li_behind 18 = .ok (.iload_n 3, 1) := by decide +kernel
theorem d_li_behind_19 : decode cc_li_behind 19 = .ok (.invokevirtual 84, 3) := by decide +kernel
theorem d_li_behind_22 : decode cc_li_behind 22 = .ok (.invokevirtual 87, 3) := by decide +kernel
theorem d_li_behind_25 : decode cc_li_behind 25 = .ok (.ireturn, 1) := by decide +kernel
abbrev cc_li_before : ByteArray := prog_2_method_14_code
def yy_li_before : MethodName := ⟨"SpotContours$Lines", "before", "(LSpotContours$Mesh;I)I"⟩
def ww_li_before : List Cond := .code yy_li_before cc_li_before 5 (some .int) :: zz_B
theorem d_li_before_0 : decode cc_li_before 0 = .ok (.iload_n 2, 1) := by decide +kernel
theorem d_li_before_1 : decode cc_li_before 1 = .ok (.invokestatic 36, 3) := by decide +kernel
theorem d_li_before_4 : decode cc_li_before 4 = .ok (.istore_n 3, 1) := by decide +kernel
theorem d_li_before_5 : decode cc_li_before 5 = .ok (.iload_n 2, 1) := by decide +kernel
theorem d_li_before_6 : decode cc_li_before 6 = .ok (.invokestatic 47, 3) := by decide +kernel
theorem d_li_before_9 : decode cc_li_before 9 = .ok (.istore 4, 2) := by decide +kernel
theorem d_li_before_11 : decode cc_li_before 11 = .ok (.aload_n 0, 1) := by decide +kernel
theorem d_li_before_12 : decode cc_li_before 12 = .ok (.iload_n 3, 1) := by decide +kernel
theorem d_li_before_13 : decode cc_li_before 13 = .ok (.iload 4, 2) := by decide +kernel
theorem d_li_before_15 : decode cc_li_before 15 = .ok (.aload_n 1, 1) := by decide +kernel
theorem d_li_before_16 : decode cc_li_before 16 = .ok (.iload_n 3, 1) := by decide +kernel
theorem d_li_before_17 : decode cc_li_before 17 = .ok (.iload 4, 2) := by decide +kernel
theorem d_li_before_19 : decode cc_li_before 19 = .ok (.invokevirtual 84, 3) := by decide +kernel
theorem d_li_before_22 : decode cc_li_before 22 = .ok (.invokevirtual 87, 3) := by decide +kernel
theorem d_li_before_25 : decode cc_li_before 25 = .ok (.ireturn, 1) := by decide +kernel
abbrev cc_li_otherPair : ByteArray := prog_2_method_15_code
def yy_li_otherPair : MethodName := ⟨"SpotContours$Lines", "otherPair", "(III)I"⟩
def ww_li_otherPair : List Cond := .code yy_li_otherPair cc_li_otherPair 4 (some .int) :: zz_B
theorem d_li_otherPair_0 : decode cc_li_otherPair 0 = .ok (.iload_n 3, 1) := by decide +kernel
theorem d_li_otherPair_1 : decode cc_li_otherPair 1 = .ok (.iconst (-1), 1) := by decide +kernel
theorem d_li_otherPair_2 : decode cc_li_otherPair 2 = .ok (.if_icmp .ne 5, 3) := by decide +kernel
theorem d_li_otherPair_5 : decode cc_li_otherPair 5 = .ok (.iconst (-1), 1) := by decide +kernel
theorem d_li_otherPair_6 : decode cc_li_otherPair 6 = .ok (.ireturn, 1) := by decide +kernel
theorem d_li_otherPair_7 : decode cc_li_otherPair 7 = .ok (.aload_n 0, 1) := by decide +kernel
theorem d_li_otherPair_8 : decode cc_li_otherPair 8 = .ok (.getfield 9, 3) := by decide +kernel
theorem d_li_otherPair_11 : decode cc_li_otherPair 11 = .ok (.iload_n 3, 1) := by decide +kernel
theorem d_li_otherPair_12 : decode cc_li_otherPair 12 = .ok (.baload, 1) := by decide +kernel
theorem d_li_otherPair_13 : decode cc_li_otherPair 13 = .ok (.ifCond .eq 12, 3) := by decide +kernel
theorem d_li_otherPair_16 : decode cc_li_otherPair 16 = .ok (.bipush 16, 2) := by decide +kernel
theorem d_li_otherPair_18 : decode cc_li_otherPair 18 = .ok (.iload_n 3, 1) := by decide +kernel
theorem d_li_otherPair_19 : decode cc_li_otherPair 19 = .ok (.imul, 1) := by decide +kernel
theorem d_li_otherPair_20 : decode cc_li_otherPair 20 = .ok (.iload_n 2, 1) := by decide +kernel
theorem d_li_otherPair_21 : decode cc_li_otherPair 21 = .ok (.iadd, 1) := by decide +kernel
theorem d_li_otherPair_22 : decode cc_li_otherPair 22 = .ok (.goto 9, 3) := by decide +kernel
theorem d_li_otherPair_25 : decode cc_li_otherPair 25 = .ok (.bipush 16, 2) := by decide +kernel
theorem d_li_otherPair_27 : decode cc_li_otherPair 27 = .ok (.iload_n 1, 1) := by decide +kernel
theorem d_li_otherPair_28 : decode cc_li_otherPair 28 = .ok (.imul, 1) := by decide +kernel
theorem d_li_otherPair_29 : decode cc_li_otherPair 29 = .ok (.iload_n 3, 1) := by decide +kernel
theorem d_li_otherPair_30 : decode cc_li_otherPair 30 = .ok (.iadd, 1) := by decide +kernel
theorem d_li_otherPair_31 : decode cc_li_otherPair 31 = .ok (.ireturn, 1) := by decide +kernel
