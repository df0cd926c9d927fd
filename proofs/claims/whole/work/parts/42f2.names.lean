/-! Names and decode rows, printed. -/
abbrev cc_mo_findContours : ByteArray := prog_7_method_25_code
def yy_mo_findContours : MethodName := ⟨"SpotContoursModel", "findContours", "(I)V"⟩
def ww_mo_findContours : List Cond := .code yy_mo_findContours cc_mo_findContours 6 none :: zz_B
theorem d_mo_findContours_0 : decode cc_mo_findContours 0 = .ok (.iconst 0, 1) := by decide +kernel
theorem d_mo_findContours_1 : decode cc_mo_findContours 1 = .ok (.istore_n 2, 1) := by decide +kernel
theorem d_mo_findContours_2 : decode cc_mo_findContours 2 = .ok (.iload_n 2, 1) := by decide +kernel
theorem d_mo_findContours_3 : decode cc_mo_findContours 3 = .ok (.sipush 256, 3) := by decide +kernel
theorem d_mo_findContours_6 : decode cc_mo_findContours 6 = .ok (.if_icmp .ge 37, 3) := by decide +kernel
theorem d_mo_findContours_9 : decode cc_mo_findContours 9 = .ok (.aload_n 0, 1) := by decide +kernel
theorem d_mo_findContours_10 : decode cc_mo_findContours 10 = .ok (.getfield 22, 3) := by decide +kernel
theorem d_mo_findContours_13 : decode cc_mo_findContours 13 = .ok (.iload_n 2, 1) := by decide +kernel
theorem d_mo_findContours_14 : decode cc_mo_findContours 14 = .ok (.iconst 0, 1) := by decide +kernel
theorem d_mo_findContours_15 : decode cc_mo_findContours 15 = .ok (.bastore, 1) := by decide +kernel
theorem d_mo_findContours_16 : decode cc_mo_findContours 16 = .ok (.aload_n 0, 1) := by decide +kernel
theorem d_mo_findContours_17 : decode cc_mo_findContours 17 = .ok (.getfield 32, 3) := by decide +kernel
theorem d_mo_findContours_20 : decode cc_mo_findContours 20 = .ok (.iload_n 2, 1) := by decide +kernel
theorem d_mo_findContours_21 : decode cc_mo_findContours 21 = .ok (.iconst 0, 1) := by decide +kernel
theorem d_mo_findContours_22 : decode cc_mo_findContours 22 = .ok (.bastore, 1) := by decide +kernel
theorem d_mo_findContours_23 : decode cc_mo_findContours 23 = .ok (.aload_n 0, 1) := by decide +kernel
theorem d_mo_findContours_24 : decode cc_mo_findContours 24 = .ok (.getfield 26, 3) := by decide +kernel
theorem d_mo_findContours_27 : decode cc_mo_findContours 27 = .ok (.iload_n 2, 1) := by decide +kernel
theorem d_mo_findContours_28 : decode cc_mo_findContours 28 = .ok (.iconst (-1), 1) := by decide +kernel
theorem d_mo_findContours_29 : decode cc_mo_findContours 29 = .ok (.iastore, 1) := by decide +kernel
theorem d_mo_findContours_30 : decode cc_mo_findContours 30 = .ok (.aload_n 0, 1) := by decide +kernel
theorem d_mo_findContours_31 : decode cc_mo_findContours 31 = .ok (.getfield 29, 3) := by decide +kernel
theorem d_mo_findContours_34 : decode cc_mo_findContours 34 = .ok (.iload_n 2, 1) := by decide +kernel
theorem d_mo_findContours_35 : decode cc_mo_findContours 35 = .ok (.iconst (-1), 1) := by decide +kernel
theorem d_mo_findContours_36 : decode cc_mo_findContours 36 = .ok (.iastore, 1) := by decide +kernel
theorem d_mo_findContours_37 : decode cc_mo_findContours 37 = .ok (.iinc 2 1, 3) := by decide +kernel
theorem d_mo_findContours_40 : decode cc_mo_findContours 40 = .ok (.goto (-38), 3) := by decide +kernel
theorem d_mo_findContours_43 : decode cc_mo_findContours 43 = .ok (.iconst 0, 1) := by decide +kernel
theorem d_mo_findContours_44 : decode cc_mo_findContours 44 = .ok (.istore_n 2, 1) := by decide +kernel
theorem d_mo_findContours_45 : decode cc_mo_findContours 45 = .ok (.iload_n 2, 1) := by decide +kernel
theorem d_mo_findContours_46 : decode cc_mo_findContours 46 = .ok (.aload_n 0, 1) := by decide +kernel
theorem d_mo_findContours_47 : decode cc_mo_findContours 47 = .ok (.getfield 92, 3) := by decide +kernel
theorem d_mo_findContours_50 : decode cc_mo_findContours 50 = .ok (.if_icmp .ge 72, 3) := by decide +kernel
theorem d_mo_findContours_53 : decode cc_mo_findContours 53 = .ok (.aload_n 0, 1) := by decide +kernel
theorem d_mo_findContours_54 : decode cc_mo_findContours 54 = .ok (.getfield 19, 3) := by decide +kernel
theorem d_mo_findContours_57 : decode cc_mo_findContours 57 = .ok (.iconst 3, 1) := by decide +kernel
theorem d_mo_findContours_58 : decode cc_mo_findContours 58 = .ok (.iload_n 2, 1) := by decide +kernel
theorem d_mo_findContours_59 : decode cc_mo_findContours 59 = .ok (.imul, 1) := by decide +kernel
theorem d_mo_findContours_60 : decode cc_mo_findContours 60 = .ok (.iaload, 1) := by decide +kernel
theorem d_mo_findContours_61 : decode cc_mo_findContours 61 = .ok (.istore_n 3, 1) := by decide +kernel
theorem d_mo_findContours_62 : decode cc_mo_findContours 62 = .ok (.aload_n 0, 1) := by decide +kernel
theorem d_mo_findContours_63 : decode cc_mo_findContours 63 = .ok (.getfield 19, 3) := by decide +kernel
theorem d_mo_findContours_66 : decode cc_mo_findContours 66 = .ok (.iconst 3, 1) := by decide +kernel
theorem d_mo_findContours_67 : decode cc_mo_findContours 67 = .ok (.iload_n 2, 1) := by decide +kernel
theorem d_mo_findContours_68 : decode cc_mo_findContours 68 = .ok (.imul, 1) := by decide +kernel
theorem d_mo_findContours_69 : decode cc_mo_findContours 69 = .ok (.iconst 1, 1) := by decide +kernel
theorem d_mo_findContours_70 : decode cc_mo_findContours 70 = .ok (.iadd, 1) := by decide +kernel
theorem d_mo_findContours_71 : decode cc_mo_findContours 71 = .ok (.iaload, 1) := by decide +kernel
theorem d_mo_findContours_72 : decode cc_mo_findContours 72 = .ok (.istore 4, 2) := by decide +kernel
theorem d_mo_findContours_74 : decode cc_mo_findContours 74 = .ok (.aload_n 0, 1) := by decide +kernel
theorem d_mo_findContours_75 : decode cc_mo_findContours 75 = .ok (.getfield 19, 3) := by decide +kernel
theorem d_mo_findContours_78 : decode cc_mo_findContours 78 = .ok (.iconst 3, 1) := by decide +kernel
theorem d_mo_findContours_79 : decode cc_mo_findContours 79 = .ok (.iload_n 2, 1) := by decide +kernel
theorem d_mo_findContours_80 : decode cc_mo_findContours 80 = .ok (.imul, 1) := by decide +kernel
theorem d_mo_findContours_81 : decode cc_mo_findContours 81 = .ok (.iconst 2, 1) := by decide +kernel
theorem d_mo_findContours_82 : decode cc_mo_findContours 82 = .ok (.iadd, 1) := by decide +kernel
theorem d_mo_findContours_83 : decode cc_mo_findContours 83 = .ok (.iaload, 1) := by decide +kernel
theorem d_mo_findContours_84 : decode cc_mo_findContours 84 = .ok (.istore 5, 2) := by decide +kernel
theorem d_mo_findContours_86 : decode cc_mo_findContours 86 = .ok (.aload_n 0, 1) := by decide +kernel
theorem d_mo_findContours_87 : decode cc_mo_findContours 87 = .ok (.iload_n 3, 1) := by decide +kernel
theorem d_mo_findContours_88 : decode cc_mo_findContours 88 = .ok (.iload 4, 2) := by decide +kernel
theorem d_mo_findContours_90 : decode cc_mo_findContours 90 = .ok (.iload 5, 2) := by decide +kernel
theorem d_mo_findContours_92 : decode cc_mo_findContours 92 = .ok (.iload_n 1, 1) := by decide +kernel
theorem d_mo_findContours_93 : decode cc_mo_findContours 93 = .ok (.invokevirtual 127, 3) := by decide +kernel
theorem d_mo_findContours_96 : decode cc_mo_findContours 96 = .ok (.aload_n 0, 1) := by decide +kernel
theorem d_mo_findContours_97 : decode cc_mo_findContours 97 = .ok (.iload_n 3, 1) := by decide +kernel
theorem d_mo_findContours_98 : decode cc_mo_findContours 98 = .ok (.iload 5, 2) := by decide +kernel
theorem d_mo_findContours_100 : decode cc_mo_findContours 100 = .ok (.iload 4, 2) := by decide +kernel
theorem d_mo_findContours_102 : decode cc_mo_findContours 102 = .ok (.iload_n 1, 1) := by decide +kernel
theorem d_mo_findContours_103 : decode cc_mo_findContours 103 = .ok (.invokevirtual 127, 3) := by decide +kernel
theorem d_mo_findContours_106 : decode cc_mo_findContours 106 = .ok (.aload_n 0, 1) := by decide +kernel
theorem d_mo_findContours_107 : decode cc_mo_findContours 107 = .ok (.iload 4, 2) := by decide +kernel
theorem d_mo_findContours_109 : decode cc_mo_findContours 109 = .ok (.iload 5, 2) := by decide +kernel
theorem d_mo_findContours_111 : decode cc_mo_findContours 111 = .ok (.iload_n 3, 1) := by decide +kernel
theorem d_mo_findContours_112 : decode cc_mo_findContours 112 = .ok (.iload_n 1, 1) := by decide +kernel
theorem d_mo_findContours_113 : decode cc_mo_findContours 113 = .ok (.invokevirtual 127, 3) := by decide +kernel
theorem d_mo_findContours_116 : decode cc_mo_findContours 116 = .ok (.iinc 2 1, 3) := by decide +kernel
theorem d_mo_findContours_119 : decode cc_mo_findContours 119 = .ok (.goto (-74), 3) := by decide +kernel
theorem d_mo_findContours_122 : decode cc_mo_findContours 122 = .ok (.aload_n 0, 1) := by decide +kernel
theorem d_mo_findContours_123 : decode cc_mo_findContours 123 = .ok (.iconst 0, 1) := by decide +kernel
theorem d_mo_findContours_124 : decode cc_mo_findContours 124 = .ok (.putfield 121, 3) := by decide +kernel
theorem d_mo_findContours_127 : decode cc_mo_findContours 127 = .ok (.aload_n 0, 1) := by decide +kernel
theorem d_mo_findContours_128 : decode cc_mo_findContours 128 = .ok (.iconst 0, 1) := by decide +kernel
theorem d_mo_findContours_129 : decode cc_mo_findContours 129 = .ok (.putfield 124, 3) := by decide +kernel
theorem d_mo_findContours_132 : decode cc_mo_findContours 132 = .ok (.iconst 0, 1) := by decide +kernel
theorem d_mo_findContours_133 : decode cc_mo_findContours 133 = .ok (.istore_n 2, 1) := by decide +kernel
theorem d_mo_findContours_134 : decode cc_mo_findContours 134 = .ok (.iload_n 2, 1) := by decide +kernel
theorem d_mo_findContours_135 : decode cc_mo_findContours 135 = .ok (.sipush 256, 3) := by decide +kernel
theorem d_mo_findContours_138 : decode cc_mo_findContours 138 = .ok (.if_icmp .ge 32, 3) := by decide +kernel
theorem d_mo_findContours_141 : decode cc_mo_findContours 141 = .ok (.aload_n 0, 1) := by decide +kernel
theorem d_mo_findContours_142 : decode cc_mo_findContours 142 = .ok (.getfield 22, 3) := by decide +kernel
theorem d_mo_findContours_145 : decode cc_mo_findContours 145 = .ok (.iload_n 2, 1) := by decide +kernel
theorem d_mo_findContours_146 : decode cc_mo_findContours 146 = .ok (.baload, 1) := by decide +kernel
theorem d_mo_findContours_147 : decode cc_mo_findContours 147 = .ok (.ifCond .eq 17, 3) := by decide +kernel
theorem d_mo_findContours_150 : decode cc_mo_findContours 150 = .ok (.aload_n 0, 1) := by decide +kernel
theorem d_mo_findContours_151 : decode cc_mo_findContours 151 = .ok (.getfield 32, 3) := by decide +kernel
theorem d_mo_findContours_154 : decode cc_mo_findContours 154 = .ok (.iload_n 2, 1) := by decide +kernel
theorem d_mo_findContours_155 : decode cc_mo_findContours 155 = .ok (.baload, 1) := by decide +kernel
theorem d_mo_findContours_156 : decode cc_mo_findContours 156 = .ok (.ifCond .ne 8, 3) := by decide +kernel
theorem d_mo_findContours_159 : decode cc_mo_findContours 159 = .ok (.aload_n 0, 1) := by decide +kernel
theorem d_mo_findContours_160 : decode cc_mo_findContours 160 = .ok (.iload_n 2, 1) := by decide +kernel
theorem d_mo_findContours_161 : decode cc_mo_findContours 161 = .ok (.invokevirtual 130, 3) := by decide +kernel
theorem d_mo_findContours_164 : decode cc_mo_findContours 164 = .ok (.iinc 2 1, 3) := by decide +kernel
theorem d_mo_findContours_167 : decode cc_mo_findContours 167 = .ok (.goto (-33), 3) := by decide +kernel
theorem d_mo_findContours_170 : decode cc_mo_findContours 170 = .ok (.return_, 1) := by decide +kernel
abbrev cc_mo_isLevel : ByteArray := prog_7_method_26_code
def yy_mo_isLevel : MethodName := ⟨"SpotContoursModel", "isLevel", "(I)Z"⟩
def ww_mo_isLevel : List Cond := .code yy_mo_isLevel cc_mo_isLevel 1 (some .boolean) :: zz_B
theorem d_mo_isLevel_0 : decode cc_mo_isLevel 0 = .ok (.iload_n 0, 1) := by decide +kernel
theorem d_mo_isLevel_1 : decode cc_mo_isLevel 1 = .ok (.ifCond .lt 14, 3) := by decide +kernel
theorem d_mo_isLevel_4 : decode cc_mo_isLevel 4 = .ok (.iload_n 0, 1) := by decide +kernel
theorem d_mo_isLevel_5 : decode cc_mo_isLevel 5 = .ok (.sipush 998, 3) := by decide +kernel
theorem d_mo_isLevel_8 : decode cc_mo_isLevel 8 = .ok (.if_icmp .gt 7, 3) := by decide +kernel
theorem d_mo_isLevel_11 : decode cc_mo_isLevel 11 = .ok (.iconst 1, 1) := by decide +kernel
theorem d_mo_isLevel_12 : decode cc_mo_isLevel 12 = .ok (.goto 4, 3) := by decide +kernel
theorem d_mo_isLevel_15 : decode cc_mo_isLevel 15 = .ok (.iconst 0, 1) := by decide +kernel
theorem d_mo_isLevel_16 : decode cc_mo_isLevel 16 = .ok (.ireturn, 1) := by decide +kernel
abbrev cc_mo_contours : ByteArray := prog_7_method_27_code
def yy_mo_contours : MethodName := ⟨"SpotContoursModel", "contours", "(I)I"⟩
def ww_mo_contours : List Cond := .code yy_mo_contours cc_mo_contours 2 (some .int) :: zz_B
theorem d_mo_contours_0 : decode cc_mo_contours 0 = .ok (.aload_n 0, 1) := by decide +kernel
theorem d_mo_contours_1 : decode cc_mo_contours 1 = .ok (.iload_n 1, 1) := by decide +kernel
theorem d_mo_contours_2 : decode cc_mo_contours 2 = .ok (.invokestatic 134, 3) := by decide +kernel
theorem d_mo_contours_5 : decode cc_mo_contours 5 = .ok (.ifCond .eq 7, 3) := by decide +kernel
theorem d_mo_contours_8 : decode cc_mo_contours 8 = .ok (.iconst 0, 1) := by decide +kernel
theorem d_mo_contours_9 : decode cc_mo_contours 9 = .ok (.goto 4, 3) := by decide +kernel
theorem d_mo_contours_12 : decode cc_mo_contours 12 = .ok (.iconst 1, 1) := by decide +kernel
theorem d_mo_contours_13 : decode cc_mo_contours 13 = .ok (.putfield 56, 3) := by decide +kernel
theorem d_mo_contours_16 : decode cc_mo_contours 16 = .ok (.aload_n 0, 1) := by decide +kernel
theorem d_mo_contours_17 : decode cc_mo_contours 17 = .ok (.getfield 56, 3) := by decide +kernel
theorem d_mo_contours_20 : decode cc_mo_contours 20 = .ok (.ifCond .eq 5, 3) := by decide +kernel
theorem d_mo_contours_23 : decode cc_mo_contours 23 = .ok (.iconst 0, 1) := by decide +kernel
theorem d_mo_contours_24 : decode cc_mo_contours 24 = .ok (.ireturn, 1) := by decide +kernel
theorem d_mo_contours_25 : decode cc_mo_contours 25 = .ok (.aload_n 0, 1) := by decide +kernel
theorem d_mo_contours_26 : decode cc_mo_contours 26 = .ok (.iload_n 1, 1) := by decide +kernel
theorem d_mo_contours_27 : decode cc_mo_contours 27 = .ok (.invokevirtual 137, 3) := by decide +kernel
theorem d_mo_contours_30 : decode cc_mo_contours 30 = .ok (.aload_n 0, 1) := by decide +kernel
theorem d_mo_contours_31 : decode cc_mo_contours 31 = .ok (.getfield 121, 3) := by decide +kernel
theorem d_mo_contours_34 : decode cc_mo_contours 34 = .ok (.ireturn, 1) := by decide +kernel
abbrev cc_mo_asked : ByteArray := prog_7_method_28_code
def yy_mo_asked : MethodName := ⟨"SpotContoursModel", "asked", "(II)I"⟩
def ww_mo_asked : List Cond := .code yy_mo_asked cc_mo_asked 3 (some .int) :: zz_B
theorem d_mo_asked_0 : decode cc_mo_asked 0 = .ok (.iload_n 1, 1) := by decide +kernel
theorem d_mo_asked_1 : decode cc_mo_asked 1 = .ok (.invokestatic 134, 3) := by decide +kernel
theorem d_mo_asked_4 : decode cc_mo_asked 4 = .ok (.ifCond .ne 5, 3) := by decide +kernel
theorem d_mo_asked_7 : decode cc_mo_asked 7 = .ok (.iconst 1, 1) := by decide +kernel
theorem d_mo_asked_8 : decode cc_mo_asked 8 = .ok (.ireturn, 1) := by decide +kernel
theorem d_mo_asked_9 : decode cc_mo_asked 9 = .ok (.aload_n 0, 1) := by decide +kernel
theorem d_mo_asked_10 : decode cc_mo_asked 10 = .ok (.iload_n 1, 1) := by decide +kernel
theorem d_mo_asked_11 : decode cc_mo_asked 11 = .ok (.invokevirtual 137, 3) := by decide +kernel
theorem d_mo_asked_14 : decode cc_mo_asked 14 = .ok (.iload_n 2, 1) := by decide +kernel
theorem d_mo_asked_15 : decode cc_mo_asked 15 = .ok (.ifCond .lt 11, 3) := by decide +kernel
theorem d_mo_asked_18 : decode cc_mo_asked 18 = .ok (.iload_n 2, 1) := by decide +kernel
theorem d_mo_asked_19 : decode cc_mo_asked 19 = .ok (.aload_n 0, 1) := by decide +kernel
theorem d_mo_asked_20 : decode cc_mo_asked 20 = .ok (.getfield 121, 3) := by decide +kernel
theorem d_mo_asked_23 : decode cc_mo_asked 23 = .ok (.if_icmp .lt 7, 3) := by decide +kernel
theorem d_mo_asked_26 : decode cc_mo_asked 26 = .ok (.iconst 2, 1) := by decide +kernel
theorem d_mo_asked_27 : decode cc_mo_asked 27 = .ok (.goto 4, 3) := by decide +kernel
theorem d_mo_asked_30 : decode cc_mo_asked 30 = .ok (.iconst 0, 1) := by decide +kernel
theorem d_mo_asked_31 : decode cc_mo_asked 31 = .ok (.ireturn, 1) := by decide +kernel
abbrev cc_mo_isHollow : ByteArray := prog_7_method_29_code
def yy_mo_isHollow : MethodName := ⟨"SpotContoursModel", "isHollow", "(II)Z"⟩
def ww_mo_isHollow : List Cond := .code yy_mo_isHollow cc_mo_isHollow 5 (some .boolean) :: zz_B
theorem d_mo_isHollow_0 : decode cc_mo_isHollow 0 = .ok (.aload_n 0, 1) := by decide +kernel
theorem d_mo_isHollow_1 : decode cc_mo_isHollow 1 = .ok (.getfield 44, 3) := by decide +kernel
theorem d_mo_isHollow_4 : decode cc_mo_isHollow 4 = .ok (.aload_n 0, 1) := by decide +kernel
theorem d_mo_isHollow_5 : decode cc_mo_isHollow 5 = .ok (.getfield 35, 3) := by decide +kernel
theorem d_mo_isHollow_8 : decode cc_mo_isHollow 8 = .ok (.iload_n 2, 1) := by decide +kernel
theorem d_mo_isHollow_9 : decode cc_mo_isHollow 9 = .ok (.iaload, 1) := by decide +kernel
theorem d_mo_isHollow_10 : decode cc_mo_isHollow 10 = .ok (.iaload, 1) := by decide +kernel
theorem d_mo_isHollow_11 : decode cc_mo_isHollow 11 = .ok (.bipush 16, 2) := by decide +kernel
theorem d_mo_isHollow_13 : decode cc_mo_isHollow 13 = .ok (.idiv, 1) := by decide +kernel
theorem d_mo_isHollow_14 : decode cc_mo_isHollow 14 = .ok (.istore_n 3, 1) := by decide +kernel
theorem d_mo_isHollow_15 : decode cc_mo_isHollow 15 = .ok (.aload_n 0, 1) := by decide +kernel
theorem d_mo_isHollow_16 : decode cc_mo_isHollow 16 = .ok (.getfield 35, 3) := by decide +kernel
theorem d_mo_isHollow_19 : decode cc_mo_isHollow 19 = .ok (.iload_n 2, 1) := by decide +kernel
theorem d_mo_isHollow_20 : decode cc_mo_isHollow 20 = .ok (.iaload, 1) := by decide +kernel
theorem d_mo_isHollow_21 : decode cc_mo_isHollow 21 = .ok (.istore 4, 2) := by decide +kernel
theorem d_mo_isHollow_23 : decode cc_mo_isHollow 23 = .ok (.iload 4, 2) := by decide +kernel
theorem d_mo_isHollow_25 : decode cc_mo_isHollow 25 = .ok (.aload_n 0, 1) := by decide +kernel
theorem d_mo_isHollow_26 : decode cc_mo_isHollow 26 = .ok (.getfield 35, 3) := by decide +kernel
theorem d_mo_isHollow_29 : decode cc_mo_isHollow 29 = .ok (.iload_n 2, 1) := by decide +kernel
theorem d_mo_isHollow_30 : decode cc_mo_isHollow 30 = .ok (.iaload, 1) := by decide +kernel
theorem d_mo_isHollow_31 : decode cc_mo_isHollow 31 = .ok (.aload_n 0, 1) := by decide +kernel
theorem d_mo_isHollow_32 : decode cc_mo_isHollow 32 = .ok (.getfield 38, 3) := by decide +kernel
theorem d_mo_isHollow_35 : decode cc_mo_isHollow 35 = .ok (.iload_n 2, 1) := by decide +kernel
theorem d_mo_isHollow_36 : decode cc_mo_isHollow 36 = .ok (.iaload, 1) := by decide +kernel
theorem d_mo_isHollow_37 : decode cc_mo_isHollow 37 = .ok (.iadd, 1) := by decide +kernel
theorem d_mo_isHollow_38 : decode cc_mo_isHollow 38 = .ok (.if_icmp .ge 87, 3) := by decide +kernel
theorem d_mo_isHollow_41 : decode cc_mo_isHollow 41 = .ok (.aload_n 0, 1) := by decide +kernel
theorem d_mo_isHollow_42 : decode cc_mo_isHollow 42 = .ok (.getfield 7, 3) := by decide +kernel
theorem d_mo_isHollow_45 : decode cc_mo_isHollow 45 = .ok (.aload_n 0, 1) := by decide +kernel
theorem d_mo_isHollow_46 : decode cc_mo_isHollow 46 = .ok (.getfield 44, 3) := by decide +kernel
theorem d_mo_isHollow_49 : decode cc_mo_isHollow 49 = .ok (.iload 4, 2) := by decide +kernel
theorem d_mo_isHollow_51 : decode cc_mo_isHollow 51 = .ok (.iaload, 1) := by decide +kernel
theorem d_mo_isHollow_52 : decode cc_mo_isHollow 52 = .ok (.bipush 16, 2) := by decide +kernel
theorem d_mo_isHollow_54 : decode cc_mo_isHollow 54 = .ok (.idiv, 1) := by decide +kernel
theorem d_mo_isHollow_55 : decode cc_mo_isHollow 55 = .ok (.iaload, 1) := by decide +kernel
theorem d_mo_isHollow_56 : decode cc_mo_isHollow 56 = .ok (.aload_n 0, 1) := by decide +kernel
theorem d_mo_isHollow_57 : decode cc_mo_isHollow 57 = .ok (.getfield 7, 3) := by decide +kernel
theorem d_mo_isHollow_60 : decode cc_mo_isHollow 60 = .ok (.iload_n 3, 1) := by decide +kernel
theorem d_mo_isHollow_61 : decode cc_mo_isHollow 61 = .ok (.iaload, 1) := by decide +kernel
theorem d_mo_isHollow_62 : decode cc_mo_isHollow 62 = .ok (.if_icmp .ge 16, 3) := by decide +kernel
theorem d_mo_isHollow_65 : decode cc_mo_isHollow 65 = .ok (.aload_n 0, 1) := by decide +kernel
theorem d_mo_isHollow_66 : decode cc_mo_isHollow 66 = .ok (.getfield 44, 3) := by decide +kernel
theorem d_mo_isHollow_69 : decode cc_mo_isHollow 69 = .ok (.iload 4, 2) := by decide +kernel
theorem d_mo_isHollow_71 : decode cc_mo_isHollow 71 = .ok (.iaload, 1) := by decide +kernel
theorem d_mo_isHollow_72 : decode cc_mo_isHollow 72 = .ok (.bipush 16, 2) := by decide +kernel
theorem d_mo_isHollow_74 : decode cc_mo_isHollow 74 = .ok (.idiv, 1) := by decide +kernel
theorem d_mo_isHollow_75 : decode cc_mo_isHollow 75 = .ok (.goto 4, 3) := by decide +kernel
theorem d_mo_isHollow_78 : decode cc_mo_isHollow 78 = .ok (.iload_n 3, 1) := by decide +kernel
theorem d_mo_isHollow_79 : decode cc_mo_isHollow 79 = .ok (.istore_n 3, 1) := by decide +kernel
theorem d_mo_isHollow_80 : decode cc_mo_isHollow 80 = .ok (.aload_n 0, 1) := by decide +kernel
theorem d_mo_isHollow_81 : decode cc_mo_isHollow 81 = .ok (.getfield 7, 3) := by decide +kernel
theorem d_mo_isHollow_84 : decode cc_mo_isHollow 84 = .ok (.aload_n 0, 1) := by decide +kernel
theorem d_mo_isHollow_85 : decode cc_mo_isHollow 85 = .ok (.getfield 44, 3) := by decide +kernel
theorem d_mo_isHollow_88 : decode cc_mo_isHollow 88 = .ok (.iload 4, 2) := by decide +kernel
theorem d_mo_isHollow_90 : decode cc_mo_isHollow 90 = .ok (.iaload, 1) := by decide +kernel
theorem d_mo_isHollow_91 : decode cc_mo_isHollow 91 = .ok (.bipush 16, 2) := by decide +kernel
theorem d_mo_isHollow_93 : decode cc_mo_isHollow 93 = .ok (.irem, 1) := by decide +kernel
theorem d_mo_isHollow_94 : decode cc_mo_isHollow 94 = .ok (.iaload, 1) := by decide +kernel
theorem d_mo_isHollow_95 : decode cc_mo_isHollow 95 = .ok (.aload_n 0, 1) := by decide +kernel
theorem d_mo_isHollow_96 : decode cc_mo_isHollow 96 = .ok (.getfield 7, 3) := by decide +kernel
theorem d_mo_isHollow_99 : decode cc_mo_isHollow 99 = .ok (.iload_n 3, 1) := by decide +kernel
theorem d_mo_isHollow_100 : decode cc_mo_isHollow 100 = .ok (.iaload, 1) := by decide +kernel
theorem d_mo_isHollow_101 : decode cc_mo_isHollow 101 = .ok (.if_icmp .ge 16, 3) := by decide +kernel
theorem d_mo_isHollow_104 : decode cc_mo_isHollow 104 = .ok (.aload_n 0, 1) := by decide +kernel
theorem d_mo_isHollow_105 : decode cc_mo_isHollow 105 = .ok (.getfield 44, 3) := by decide +kernel
theorem d_mo_isHollow_108 : decode cc_mo_isHollow 108 = .ok (.iload 4, 2) := by decide +kernel
theorem d_mo_isHollow_110 : decode cc_mo_isHollow 110 = .ok (.iaload, 1) := by decide +kernel
theorem d_mo_isHollow_111 : decode cc_mo_isHollow 111 = .ok (.bipush 16, 2) := by decide +kernel
theorem d_mo_isHollow_113 : decode cc_mo_isHollow 113 = .ok (.irem, 1) := by decide +kernel
theorem d_mo_isHollow_114 : decode cc_mo_isHollow 114 = .ok (.goto 4, 3) := by decide +kernel
theorem d_mo_isHollow_117 : decode cc_mo_isHollow 117 = .ok (.iload_n 3, 1) := by decide +kernel
theorem d_mo_isHollow_118 : decode cc_mo_isHollow 118 = .ok (.istore_n 3, 1) := by decide +kernel
theorem d_mo_isHollow_119 : decode cc_mo_isHollow 119 = .ok (.iinc 4 1, 3) := by decide +kernel
theorem d_mo_isHollow_122 : decode cc_mo_isHollow 122 = .ok (.goto (-99), 3) := by decide +kernel
theorem d_mo_isHollow_125 : decode cc_mo_isHollow 125 = .ok (.aload_n 0, 1) := by decide +kernel
theorem d_mo_isHollow_126 : decode cc_mo_isHollow 126 = .ok (.iload_n 3, 1) := by decide +kernel
theorem d_mo_isHollow_127 : decode cc_mo_isHollow 127 = .ok (.iload_n 1, 1) := by decide +kernel
theorem d_mo_isHollow_128 : decode cc_mo_isHollow 128 = .ok (.invokevirtual 110, 3) := by decide +kernel
theorem d_mo_isHollow_131 : decode cc_mo_isHollow 131 = .ok (.ireturn, 1) := by decide +kernel
abbrev cc_mo_contour : ByteArray := prog_7_method_30_code
def yy_mo_contour : MethodName := ⟨"SpotContoursModel", "contour", "(II)I"⟩
def ww_mo_contour : List Cond := .code yy_mo_contour cc_mo_contour 3 (some .int) :: zz_B
theorem d_mo_contour_0 : decode cc_mo_contour 0 = .ok (.aload_n 0, 1) := by decide +kernel
theorem d_mo_contour_1 : decode cc_mo_contour 1 = .ok (.aload_n 0, 1) := by decide +kernel
theorem d_mo_contour_2 : decode cc_mo_contour 2 = .ok (.iload_n 1, 1) := by decide +kernel
theorem d_mo_contour_3 : decode cc_mo_contour 3 = .ok (.iload_n 2, 1) := by decide +kernel
theorem d_mo_contour_4 : decode cc_mo_contour 4 = .ok (.invokevirtual 140, 3) := by decide +kernel
theorem d_mo_contour_7 : decode cc_mo_contour 7 = .ok (.putfield 56, 3) := by decide +kernel
theorem d_mo_contour_10 : decode cc_mo_contour 10 = .ok (.aload_n 0, 1) := by decide +kernel
theorem d_mo_contour_11 : decode cc_mo_contour 11 = .ok (.getfield 56, 3) := by decide +kernel
theorem d_mo_contour_14 : decode cc_mo_contour 14 = .ok (.ifCond .eq 5, 3) := by decide +kernel
theorem d_mo_contour_17 : decode cc_mo_contour 17 = .ok (.iconst 0, 1) := by decide +kernel
theorem d_mo_contour_18 : decode cc_mo_contour 18 = .ok (.ireturn, 1) := by decide +kernel
theorem d_mo_contour_19 : decode cc_mo_contour 19 = .ok (.aload_n 0, 1) := by decide +kernel
theorem d_mo_contour_20 : decode cc_mo_contour 20 = .ok (.getfield 38, 3) := by decide +kernel
theorem d_mo_contour_23 : decode cc_mo_contour 23 = .ok (.iload_n 2, 1) := by decide +kernel
theorem d_mo_contour_24 : decode cc_mo_contour 24 = .ok (.iaload, 1) := by decide +kernel
theorem d_mo_contour_25 : decode cc_mo_contour 25 = .ok (.aload_n 0, 1) := by decide +kernel
theorem d_mo_contour_26 : decode cc_mo_contour 26 = .ok (.getfield 41, 3) := by decide +kernel
theorem d_mo_contour_29 : decode cc_mo_contour 29 = .ok (.iload_n 2, 1) := by decide +kernel
theorem d_mo_contour_30 : decode cc_mo_contour 30 = .ok (.baload, 1) := by decide +kernel
theorem d_mo_contour_31 : decode cc_mo_contour 31 = .ok (.ifCond .ne 7, 3) := by decide +kernel
theorem d_mo_contour_34 : decode cc_mo_contour 34 = .ok (.iconst 0, 1) := by decide +kernel
theorem d_mo_contour_35 : decode cc_mo_contour 35 = .ok (.goto 21, 3) := by decide +kernel
theorem d_mo_contour_38 : decode cc_mo_contour 38 = .ok (.aload_n 0, 1) := by decide +kernel
theorem d_mo_contour_39 : decode cc_mo_contour 39 = .ok (.iload_n 1, 1) := by decide +kernel
theorem d_mo_contour_40 : decode cc_mo_contour 40 = .ok (.iload_n 2, 1) := by decide +kernel
theorem d_mo_contour_41 : decode cc_mo_contour 41 = .ok (.invokevirtual 143, 3) := by decide +kernel
theorem d_mo_contour_44 : decode cc_mo_contour 44 = .ok (.ifCond .eq 9, 3) := by decide +kernel
theorem d_mo_contour_47 : decode cc_mo_contour 47 = .ok (.sipush 2000, 3) := by decide +kernel
theorem d_mo_contour_50 : decode cc_mo_contour 50 = .ok (.goto 6, 3) := by decide +kernel
theorem d_mo_contour_53 : decode cc_mo_contour 53 = .ok (.sipush 1000, 3) := by decide +kernel
theorem d_mo_contour_56 : decode cc_mo_contour 56 = .ok (.iadd, 1) := by decide +kernel
theorem d_mo_contour_57 : decode cc_mo_contour 57 = .ok (.ireturn, 1) := by decide +kernel
abbrev cc_mo_askedFor : ByteArray := prog_7_method_31_code
def yy_mo_askedFor : MethodName := ⟨"SpotContoursModel", "askedFor", "(III)I"⟩
def ww_mo_askedFor : List Cond := .code yy_mo_askedFor cc_mo_askedFor 5 (some .int) :: zz_B
theorem d_mo_askedFor_0 : decode cc_mo_askedFor 0 = .ok (.aload_n 0, 1) := by decide +kernel
theorem d_mo_askedFor_1 : decode cc_mo_askedFor 1 = .ok (.iload_n 1, 1) := by decide +kernel
theorem d_mo_askedFor_2 : decode cc_mo_askedFor 2 = .ok (.iload_n 2, 1) := by decide +kernel
theorem d_mo_askedFor_3 : decode cc_mo_askedFor 3 = .ok (.invokevirtual 140, 3) := by decide +kernel
theorem d_mo_askedFor_6 : decode cc_mo_askedFor 6 = .ok (.istore 4, 2) := by decide +kernel
theorem d_mo_askedFor_8 : decode cc_mo_askedFor 8 = .ok (.iload 4, 2) := by decide +kernel
theorem d_mo_askedFor_10 : decode cc_mo_askedFor 10 = .ok (.ifCond .ne 21, 3) := by decide +kernel
theorem d_mo_askedFor_13 : decode cc_mo_askedFor 13 = .ok (.iload_n 3, 1) := by decide +kernel
theorem d_mo_askedFor_14 : decode cc_mo_askedFor 14 = .ok (.ifCond .lt 13, 3) := by decide +kernel
theorem d_mo_askedFor_17 : decode cc_mo_askedFor 17 = .ok (.iload_n 3, 1) := by decide +kernel
theorem d_mo_askedFor_18 : decode cc_mo_askedFor 18 = .ok (.aload_n 0, 1) := by decide +kernel
theorem d_mo_askedFor_19 : decode cc_mo_askedFor 19 = .ok (.getfield 38, 3) := by decide +kernel
theorem d_mo_askedFor_22 : decode cc_mo_askedFor 22 = .ok (.iload_n 2, 1) := by decide +kernel
theorem d_mo_askedFor_23 : decode cc_mo_askedFor 23 = .ok (.iaload, 1) := by decide +kernel
theorem d_mo_askedFor_24 : decode cc_mo_askedFor 24 = .ok (.if_icmp .lt 7, 3) := by decide +kernel
theorem d_mo_askedFor_27 : decode cc_mo_askedFor 27 = .ok (.iconst 2, 1) := by decide +kernel
theorem d_mo_askedFor_28 : decode cc_mo_askedFor 28 = .ok (.goto 5, 3) := by decide +kernel
theorem d_mo_askedFor_31 : decode cc_mo_askedFor 31 = .ok (.iload 4, 2) := by decide +kernel
theorem d_mo_askedFor_33 : decode cc_mo_askedFor 33 = .ok (.ireturn, 1) := by decide +kernel
abbrev cc_mo_crossing : ByteArray := prog_7_method_32_code
def yy_mo_crossing : MethodName := ⟨"SpotContoursModel", "crossing", "(III)I"⟩
def ww_mo_crossing : List Cond := .code yy_mo_crossing cc_mo_crossing 4 (some .int) :: zz_B
theorem d_mo_crossing_0 : decode cc_mo_crossing 0 = .ok (.aload_n 0, 1) := by decide +kernel
theorem d_mo_crossing_1 : decode cc_mo_crossing 1 = .ok (.aload_n 0, 1) := by decide +kernel
theorem d_mo_crossing_2 : decode cc_mo_crossing 2 = .ok (.iload_n 1, 1) := by decide +kernel
theorem d_mo_crossing_3 : decode cc_mo_crossing 3 = .ok (.iload_n 2, 1) := by decide +kernel
theorem d_mo_crossing_4 : decode cc_mo_crossing 4 = .ok (.iload_n 3, 1) := by decide +kernel
theorem d_mo_crossing_5 : decode cc_mo_crossing 5 = .ok (.invokevirtual 146, 3) := by decide +kernel
theorem d_mo_crossing_8 : decode cc_mo_crossing 8 = .ok (.putfield 56, 3) := by decide +kernel
theorem d_mo_crossing_11 : decode cc_mo_crossing 11 = .ok (.aload_n 0, 1) := by decide +kernel
theorem d_mo_crossing_12 : decode cc_mo_crossing 12 = .ok (.getfield 56, 3) := by decide +kernel
theorem d_mo_crossing_15 : decode cc_mo_crossing 15 = .ok (.ifCond .ne 19, 3) := by decide +kernel
theorem d_mo_crossing_18 : decode cc_mo_crossing 18 = .ok (.aload_n 0, 1) := by decide +kernel
theorem d_mo_crossing_19 : decode cc_mo_crossing 19 = .ok (.getfield 44, 3) := by decide +kernel
theorem d_mo_crossing_22 : decode cc_mo_crossing 22 = .ok (.aload_n 0, 1) := by decide +kernel
theorem d_mo_crossing_23 : decode cc_mo_crossing 23 = .ok (.getfield 35, 3) := by decide +kernel
theorem d_mo_crossing_26 : decode cc_mo_crossing 26 = .ok (.iload_n 2, 1) := by decide +kernel
theorem d_mo_crossing_27 : decode cc_mo_crossing 27 = .ok (.iaload, 1) := by decide +kernel
theorem d_mo_crossing_28 : decode cc_mo_crossing 28 = .ok (.iload_n 3, 1) := by decide +kernel
theorem d_mo_crossing_29 : decode cc_mo_crossing 29 = .ok (.iadd, 1) := by decide +kernel
theorem d_mo_crossing_30 : decode cc_mo_crossing 30 = .ok (.iaload, 1) := by decide +kernel
theorem d_mo_crossing_31 : decode cc_mo_crossing 31 = .ok (.goto 4, 3) := by decide +kernel
theorem d_mo_crossing_34 : decode cc_mo_crossing 34 = .ok (.iconst 0, 1) := by decide +kernel
theorem d_mo_crossing_35 : decode cc_mo_crossing 35 = .ok (.ireturn, 1) := by decide +kernel
abbrev cc_mo_placeOf : ByteArray := prog_7_method_33_code
def yy_mo_placeOf : MethodName := ⟨"SpotContoursModel", "placeOf", "(II)I"⟩
def ww_mo_placeOf : List Cond := .code yy_mo_placeOf cc_mo_placeOf 13 (some .int) :: zz_B
theorem d_mo_placeOf_0 : decode cc_mo_placeOf 0 = .ok (.aload_n 0, 1) := by decide +kernel
theorem d_mo_placeOf_1 : decode cc_mo_placeOf 1 = .ok (.iload_n 2, 1) := by decide +kernel
theorem d_mo_placeOf_2 : decode cc_mo_placeOf 2 = .ok (.bipush 16, 2) := by decide +kernel
theorem d_mo_placeOf_4 : decode cc_mo_placeOf 4 = .ok (.idiv, 1) := by decide +kernel
theorem d_mo_placeOf_5 : decode cc_mo_placeOf 5 = .ok (.iload_n 1, 1) := by decide +kernel
theorem d_mo_placeOf_6 : decode cc_mo_placeOf 6 = .ok (.invokevirtual 110, 3) := by decide +kernel
theorem d_mo_placeOf_9 : decode cc_mo_placeOf 9 = .ok (.ifCond .eq 10, 3) := by decide +kernel
theorem d_mo_placeOf_12 : decode cc_mo_placeOf 12 = .ok (.iload_n 2, 1) := by decide +kernel
theorem d_mo_placeOf_13 : decode cc_mo_placeOf 13 = .ok (.bipush 16, 2) := by decide +kernel
theorem d_mo_placeOf_15 : decode cc_mo_placeOf 15 = .ok (.idiv, 1) := by decide +kernel
theorem d_mo_placeOf_16 : decode cc_mo_placeOf 16 = .ok (.goto 7, 3) := by decide +kernel
theorem d_mo_placeOf_19 : decode cc_mo_placeOf 19 = .ok (.iload_n 2, 1) := by decide +kernel
theorem d_mo_placeOf_20 : decode cc_mo_placeOf 20 = .ok (.bipush 16, 2) := by decide +kernel
theorem d_mo_placeOf_22 : decode cc_mo_placeOf 22 = .ok (.irem, 1) := by decide +kernel
theorem d_mo_placeOf_23 : decode cc_mo_placeOf 23 = .ok (.istore_n 3, 1) := by decide +kernel
theorem d_mo_placeOf_24 : decode cc_mo_placeOf 24 = .ok (.iload_n 2, 1) := by decide +kernel
theorem d_mo_placeOf_25 : decode cc_mo_placeOf 25 = .ok (.bipush 16, 2) := by decide +kernel
theorem d_mo_placeOf_27 : decode cc_mo_placeOf 27 = .ok (.idiv, 1) := by decide +kernel
theorem d_mo_placeOf_28 : decode cc_mo_placeOf 28 = .ok (.iload_n 2, 1) := by decide +kernel
theorem d_mo_placeOf_29 : decode cc_mo_placeOf 29 = .ok (.bipush 16, 2) := by decide +kernel
theorem d_mo_placeOf_31 : decode cc_mo_placeOf 31 = .ok (.irem, 1) := by decide +kernel
theorem d_mo_placeOf_32 : decode cc_mo_placeOf 32 = .ok (.iadd, 1) := by decide +kernel
theorem d_mo_placeOf_33 : decode cc_mo_placeOf 33 = .ok (.iload_n 3, 1) := by decide +kernel
theorem d_mo_placeOf_34 : decode cc_mo_placeOf 34 = .ok (.isub, 1) := by decide +kernel
theorem d_mo_placeOf_35 : decode cc_mo_placeOf 35 = .ok (.istore 4, 2) := by decide +kernel
theorem d_mo_placeOf_37 : decode cc_mo_placeOf 37 = .ok (.iconst 2, 1) := by decide +kernel
theorem d_mo_placeOf_38 : decode cc_mo_placeOf 38 = .ok (.iload_n 1, 1) := by decide +kernel
theorem d_mo_placeOf_39 : decode cc_mo_placeOf 39 = .ok (.imul, 1) := by decide +kernel
theorem d_mo_placeOf_40 : decode cc_mo_placeOf 40 = .ok (.iconst 1, 1) := by decide +kernel
theorem d_mo_placeOf_41 : decode cc_mo_placeOf 41 = .ok (.iadd, 1) := by decide +kernel
theorem d_mo_placeOf_42 : decode cc_mo_placeOf 42 = .ok (.iconst 2, 1) := by decide +kernel
theorem d_mo_placeOf_43 : decode cc_mo_placeOf 43 = .ok (.aload_n 0, 1) := by decide +kernel
theorem d_mo_placeOf_44 : decode cc_mo_placeOf 44 = .ok (.getfield 16, 3) := by decide +kernel
theorem d_mo_placeOf_47 : decode cc_mo_placeOf 47 = .ok (.iload 4, 2) := by decide +kernel
theorem d_mo_placeOf_49 : decode cc_mo_placeOf 49 = .ok (.iaload, 1) := by decide +kernel
theorem d_mo_placeOf_50 : decode cc_mo_placeOf 50 = .ok (.imul, 1) := by decide +kernel
theorem d_mo_placeOf_51 : decode cc_mo_placeOf 51 = .ok (.isub, 1) := by decide +kernel
theorem d_mo_placeOf_52 : decode cc_mo_placeOf 52 = .ok (.i2l, 1) := by decide +kernel
theorem d_mo_placeOf_53 : decode cc_mo_placeOf 53 = .ok (.lstore 5, 2) := by decide +kernel
theorem d_mo_placeOf_55 : decode cc_mo_placeOf 55 = .ok (.iconst 2, 1) := by decide +kernel
theorem d_mo_placeOf_56 : decode cc_mo_placeOf 56 = .ok (.aload_n 0, 1) := by decide +kernel
theorem d_mo_placeOf_57 : decode cc_mo_placeOf 57 = .ok (.getfield 16, 3) := by decide +kernel
theorem d_mo_placeOf_60 : decode cc_mo_placeOf 60 = .ok (.iload_n 3, 1) := by decide +kernel
theorem d_mo_placeOf_61 : decode cc_mo_placeOf 61 = .ok (.iaload, 1) := by decide +kernel
theorem d_mo_placeOf_62 : decode cc_mo_placeOf 62 = .ok (.aload_n 0, 1) := by decide +kernel
theorem d_mo_placeOf_63 : decode cc_mo_placeOf 63 = .ok (.getfield 16, 3) := by decide +kernel
theorem d_mo_placeOf_66 : decode cc_mo_placeOf 66 = .ok (.iload 4, 2) := by decide +kernel
theorem d_mo_placeOf_68 : decode cc_mo_placeOf 68 = .ok (.iaload, 1) := by decide +kernel
theorem d_mo_placeOf_69 : decode cc_mo_placeOf 69 = .ok (.isub, 1) := by decide +kernel
theorem d_mo_placeOf_70 : decode cc_mo_placeOf 70 = .ok (.imul, 1) := by decide +kernel
theorem d_mo_placeOf_71 : decode cc_mo_placeOf 71 = .ok (.i2l, 1) := by decide +kernel
theorem d_mo_placeOf_72 : decode cc_mo_placeOf 72 = .ok (.lstore 7, 2) := by decide +kernel
theorem d_mo_placeOf_74 : decode cc_mo_placeOf 74 = .ok (.aload_n 0, 1) := by decide +kernel
theorem d_mo_placeOf_75 : decode cc_mo_placeOf 75 = .ok (.getfield 7, 3) := by decide +kernel
theorem d_mo_placeOf_78 : decode cc_mo_placeOf 78 = .ok (.iload 4, 2) := by decide +kernel
theorem d_mo_placeOf_80 : decode cc_mo_placeOf 80 = .ok (.iaload, 1) := by decide +kernel
theorem d_mo_placeOf_81 : decode cc_mo_placeOf 81 = .ok (.i2l, 1) := by decide +kernel
theorem d_mo_placeOf_82 : decode cc_mo_placeOf 82 = .ok (.aload_n 0, 1) := by decide +kernel
theorem d_mo_placeOf_83 : decode cc_mo_placeOf 83 = .ok (.getfield 7, 3) := by decide +kernel
theorem d_mo_placeOf_86 : decode cc_mo_placeOf 86 = .ok (.iload_n 3, 1) := by decide +kernel
theorem d_mo_placeOf_87 : decode cc_mo_placeOf 87 = .ok (.iaload, 1) := by decide +kernel
theorem d_mo_placeOf_88 : decode cc_mo_placeOf 88 = .ok (.aload_n 0, 1) := by decide +kernel
theorem d_mo_placeOf_89 : decode cc_mo_placeOf 89 = .ok (.getfield 7, 3) := by decide +kernel
theorem d_mo_placeOf_92 : decode cc_mo_placeOf 92 = .ok (.iload 4, 2) := by decide +kernel
theorem d_mo_placeOf_94 : decode cc_mo_placeOf 94 = .ok (.iaload, 1) := by decide +kernel
theorem d_mo_placeOf_95 : decode cc_mo_placeOf 95 = .ok (.isub, 1) := by decide +kernel
theorem d_mo_placeOf_96 : decode cc_mo_placeOf 96 = .ok (.i2l, 1) := by decide +kernel
theorem d_mo_placeOf_97 : decode cc_mo_placeOf 97 = .ok (.lload 5, 2) := by decide +kernel
theorem d_mo_placeOf_99 : decode cc_mo_placeOf 99 = .ok (.lmul, 1) := by decide +kernel
theorem d_mo_placeOf_100 : decode cc_mo_placeOf 100 = .ok (.lload 7, 2) := by decide +kernel
theorem d_mo_placeOf_102 : decode cc_mo_placeOf 102 = .ok (.invokestatic 106, 3) := by decide +kernel
theorem d_mo_placeOf_105 : decode cc_mo_placeOf 105 = .ok (.ladd, 1) := by decide +kernel
theorem d_mo_placeOf_106 : decode cc_mo_placeOf 106 = .ok (.lstore 9, 2) := by decide +kernel
theorem d_mo_placeOf_108 : decode cc_mo_placeOf 108 = .ok (.aload_n 0, 1) := by decide +kernel
theorem d_mo_placeOf_109 : decode cc_mo_placeOf 109 = .ok (.getfield 13, 3) := by decide +kernel
theorem d_mo_placeOf_112 : decode cc_mo_placeOf 112 = .ok (.iload 4, 2) := by decide +kernel
theorem d_mo_placeOf_114 : decode cc_mo_placeOf 114 = .ok (.iaload, 1) := by decide +kernel
theorem d_mo_placeOf_115 : decode cc_mo_placeOf 115 = .ok (.i2l, 1) := by decide +kernel
theorem d_mo_placeOf_116 : decode cc_mo_placeOf 116 = .ok (.aload_n 0, 1) := by decide +kernel
theorem d_mo_placeOf_117 : decode cc_mo_placeOf 117 = .ok (.getfield 13, 3) := by decide +kernel
theorem d_mo_placeOf_120 : decode cc_mo_placeOf 120 = .ok (.iload_n 3, 1) := by decide +kernel
theorem d_mo_placeOf_121 : decode cc_mo_placeOf 121 = .ok (.iaload, 1) := by decide +kernel
theorem d_mo_placeOf_122 : decode cc_mo_placeOf 122 = .ok (.aload_n 0, 1) := by decide +kernel
theorem d_mo_placeOf_123 : decode cc_mo_placeOf 123 = .ok (.getfield 13, 3) := by decide +kernel
theorem d_mo_placeOf_126 : decode cc_mo_placeOf 126 = .ok (.iload 4, 2) := by decide +kernel
theorem d_mo_placeOf_128 : decode cc_mo_placeOf 128 = .ok (.iaload, 1) := by decide +kernel
theorem d_mo_placeOf_129 : decode cc_mo_placeOf 129 = .ok (.isub, 1) := by decide +kernel
theorem d_mo_placeOf_130 : decode cc_mo_placeOf 130 = .ok (.i2l, 1) := by decide +kernel
theorem d_mo_placeOf_131 : decode cc_mo_placeOf 131 = .ok (.lload 5, 2) := by decide +kernel
theorem d_mo_placeOf_133 : decode cc_mo_placeOf 133 = .ok (.lmul, 1) := by decide +kernel
theorem d_mo_placeOf_134 : decode cc_mo_placeOf 134 = .ok (.lload 7, 2) := by decide +kernel
theorem d_mo_placeOf_136 : decode cc_mo_placeOf 136 = .ok (.invokestatic 106, 3) := by decide +kernel
theorem d_mo_placeOf_139 : decode cc_mo_placeOf 139 = .ok (.ladd, 1) := by decide +kernel
theorem d_mo_placeOf_140 : decode cc_mo_placeOf 140 = .ok (.lstore 11, 2) := by decide +kernel
theorem d_mo_placeOf_142 : decode cc_mo_placeOf 142 = .ok (.ldc2_w 149, 3) := by decide +kernel
theorem d_mo_placeOf_145 : decode cc_mo_placeOf 145 = .ok (.lload 9, 2) := by decide +kernel
theorem d_mo_placeOf_147 : decode cc_mo_placeOf 147 = .ok (.lmul, 1) := by decide +kernel
theorem d_mo_placeOf_148 : decode cc_mo_placeOf 148 = .ok (.lload 11, 2) := by decide +kernel
theorem d_mo_placeOf_150 : decode cc_mo_placeOf 150 = .ok (.ladd, 1) := by decide +kernel
theorem d_mo_placeOf_151 : decode cc_mo_placeOf 151 = .ok (.l2i, 1) := by decide +kernel
theorem d_mo_placeOf_152 : decode cc_mo_placeOf 152 = .ok (.ireturn, 1) := by decide +kernel
abbrev cc_mo_place : ByteArray := prog_7_method_34_code
def yy_mo_place : MethodName := ⟨"SpotContoursModel", "place", "(III)I"⟩
def ww_mo_place : List Cond := .code yy_mo_place cc_mo_place 4 (some .int) :: zz_B
theorem d_mo_place_0 : decode cc_mo_place 0 = .ok (.aload_n 0, 1) := by decide +kernel
theorem d_mo_place_1 : decode cc_mo_place 1 = .ok (.aload_n 0, 1) := by decide +kernel
theorem d_mo_place_2 : decode cc_mo_place 2 = .ok (.iload_n 1, 1) := by decide +kernel
theorem d_mo_place_3 : decode cc_mo_place 3 = .ok (.iload_n 2, 1) := by decide +kernel
theorem d_mo_place_4 : decode cc_mo_place 4 = .ok (.iload_n 3, 1) := by decide +kernel
theorem d_mo_place_5 : decode cc_mo_place 5 = .ok (.invokevirtual 146, 3) := by decide +kernel
theorem d_mo_place_8 : decode cc_mo_place 8 = .ok (.putfield 56, 3) := by decide +kernel
theorem d_mo_place_11 : decode cc_mo_place 11 = .ok (.aload_n 0, 1) := by decide +kernel
theorem d_mo_place_12 : decode cc_mo_place 12 = .ok (.getfield 56, 3) := by decide +kernel
theorem d_mo_place_15 : decode cc_mo_place 15 = .ok (.ifCond .ne 24, 3) := by decide +kernel
theorem d_mo_place_18 : decode cc_mo_place 18 = .ok (.aload_n 0, 1) := by decide +kernel
theorem d_mo_place_19 : decode cc_mo_place 19 = .ok (.iload_n 1, 1) := by decide +kernel
theorem d_mo_place_20 : decode cc_mo_place 20 = .ok (.aload_n 0, 1) := by decide +kernel
theorem d_mo_place_21 : decode cc_mo_place 21 = .ok (.getfield 44, 3) := by decide +kernel
theorem d_mo_place_24 : decode cc_mo_place 24 = .ok (.aload_n 0, 1) := by decide +kernel
theorem d_mo_place_25 : decode cc_mo_place 25 = .ok (.getfield 35, 3) := by decide +kernel
theorem d_mo_place_28 : decode cc_mo_place 28 = .ok (.iload_n 2, 1) := by decide +kernel
theorem d_mo_place_29 : decode cc_mo_place 29 = .ok (.iaload, 1) := by decide +kernel
theorem d_mo_place_30 : decode cc_mo_place 30 = .ok (.iload_n 3, 1) := by decide +kernel
theorem d_mo_place_31 : decode cc_mo_place 31 = .ok (.iadd, 1) := by decide +kernel
theorem d_mo_place_32 : decode cc_mo_place 32 = .ok (.iaload, 1) := by decide +kernel
theorem d_mo_place_33 : decode cc_mo_place 33 = .ok (.invokevirtual 151, 3) := by decide +kernel
theorem d_mo_place_36 : decode cc_mo_place 36 = .ok (.goto 4, 3) := by decide +kernel
theorem d_mo_place_39 : decode cc_mo_place 39 = .ok (.iconst 0, 1) := by decide +kernel
theorem d_mo_place_40 : decode cc_mo_place 40 = .ok (.ireturn, 1) := by decide +kernel
abbrev cc_mo_isNear : ByteArray := prog_7_method_35_code
def yy_mo_isNear : MethodName := ⟨"SpotContoursModel", "isNear", "(III)Z"⟩
def ww_mo_isNear : List Cond := .code yy_mo_isNear cc_mo_isNear 4 (some .boolean) :: zz_B
theorem d_mo_isNear_0 : decode cc_mo_isNear 0 = .ok (.iload_n 1, 1) := by decide +kernel
theorem d_mo_isNear_1 : decode cc_mo_isNear 1 = .ok (.iload_n 2, 1) := by decide +kernel
theorem d_mo_isNear_2 : decode cc_mo_isNear 2 = .ok (.isub, 1) := by decide +kernel
theorem d_mo_isNear_3 : decode cc_mo_isNear 3 = .ok (.iload_n 3, 1) := by decide +kernel
theorem d_mo_isNear_4 : decode cc_mo_isNear 4 = .ok (.if_icmp .gt 14, 3) := by decide +kernel
theorem d_mo_isNear_7 : decode cc_mo_isNear 7 = .ok (.iload_n 2, 1) := by decide +kernel
theorem d_mo_isNear_8 : decode cc_mo_isNear 8 = .ok (.iload_n 1, 1) := by decide +kernel
theorem d_mo_isNear_9 : decode cc_mo_isNear 9 = .ok (.isub, 1) := by decide +kernel
theorem d_mo_isNear_10 : decode cc_mo_isNear 10 = .ok (.iload_n 3, 1) := by decide +kernel
theorem d_mo_isNear_11 : decode cc_mo_isNear 11 = .ok (.if_icmp .gt 7, 3) := by decide +kernel
theorem d_mo_isNear_14 : decode cc_mo_isNear 14 = .ok (.iconst 1, 1) := by decide +kernel
theorem d_mo_isNear_15 : decode cc_mo_isNear 15 = .ok (.goto 4, 3) := by decide +kernel
theorem d_mo_isNear_18 : decode cc_mo_isNear 18 = .ok (.iconst 0, 1) := by decide +kernel
theorem d_mo_isNear_19 : decode cc_mo_isNear 19 = .ok (.ireturn, 1) := by decide +kernel
abbrev cc_mo_clashes : ByteArray := prog_7_method_36_code
def yy_mo_clashes : MethodName := ⟨"SpotContoursModel", "clashes", "(II)Z"⟩
def ww_mo_clashes : List Cond := .code yy_mo_clashes cc_mo_clashes 5 (some .boolean) :: zz_B
theorem d_mo_clashes_0 : decode cc_mo_clashes 0 = .ok (.iconst 0, 1) := by decide +kernel
theorem d_mo_clashes_1 : decode cc_mo_clashes 1 = .ok (.istore_n 3, 1) := by decide +kernel
theorem d_mo_clashes_2 : decode cc_mo_clashes 2 = .ok (.iconst 0, 1) := by decide +kernel
theorem d_mo_clashes_3 : decode cc_mo_clashes 3 = .ok (.istore 4, 2) := by decide +kernel
theorem d_mo_clashes_5 : decode cc_mo_clashes 5 = .ok (.iload 4, 2) := by decide +kernel
theorem d_mo_clashes_7 : decode cc_mo_clashes 7 = .ok (.aload_n 0, 1) := by decide +kernel
theorem d_mo_clashes_8 : decode cc_mo_clashes 8 = .ok (.getfield 60, 3) := by decide +kernel
theorem d_mo_clashes_11 : decode cc_mo_clashes 11 = .ok (.if_icmp .ge 51, 3) := by decide +kernel
theorem d_mo_clashes_14 : decode cc_mo_clashes 14 = .ok (.iload_n 3, 1) := by decide +kernel
theorem d_mo_clashes_15 : decode cc_mo_clashes 15 = .ok (.ifCond .ne 35, 3) := by decide +kernel
theorem d_mo_clashes_18 : decode cc_mo_clashes 18 = .ok (.aload_n 0, 1) := by decide +kernel
theorem d_mo_clashes_19 : decode cc_mo_clashes 19 = .ok (.aload_n 0, 1) := by decide +kernel
theorem d_mo_clashes_20 : decode cc_mo_clashes 20 = .ok (.getfield 7, 3) := by decide +kernel
theorem d_mo_clashes_23 : decode cc_mo_clashes 23 = .ok (.iload 4, 2) := by decide +kernel
theorem d_mo_clashes_25 : decode cc_mo_clashes 25 = .ok (.iaload, 1) := by decide +kernel
theorem d_mo_clashes_26 : decode cc_mo_clashes 26 = .ok (.iload_n 1, 1) := by decide +kernel
theorem d_mo_clashes_27 : decode cc_mo_clashes 27 = .ok (.iconst 3, 1) := by decide +kernel
theorem d_mo_clashes_28 : decode cc_mo_clashes 28 = .ok (.invokevirtual 154, 3) := by decide +kernel
theorem d_mo_clashes_31 : decode cc_mo_clashes 31 = .ok (.ifCond .eq 23, 3) := by decide +kernel
theorem d_mo_clashes_34 : decode cc_mo_clashes 34 = .ok (.aload_n 0, 1) := by decide +kernel
theorem d_mo_clashes_35 : decode cc_mo_clashes 35 = .ok (.aload_n 0, 1) := by decide +kernel
theorem d_mo_clashes_36 : decode cc_mo_clashes 36 = .ok (.getfield 13, 3) := by decide +kernel
theorem d_mo_clashes_39 : decode cc_mo_clashes 39 = .ok (.iload 4, 2) := by decide +kernel
theorem d_mo_clashes_41 : decode cc_mo_clashes 41 = .ok (.iaload, 1) := by decide +kernel
theorem d_mo_clashes_42 : decode cc_mo_clashes 42 = .ok (.iload_n 2, 1) := by decide +kernel
theorem d_mo_clashes_43 : decode cc_mo_clashes 43 = .ok (.iconst 1, 1) := by decide +kernel
theorem d_mo_clashes_44 : decode cc_mo_clashes 44 = .ok (.invokevirtual 154, 3) := by decide +kernel
theorem d_mo_clashes_47 : decode cc_mo_clashes 47 = .ok (.ifCond .eq 7, 3) := by decide +kernel
theorem d_mo_clashes_50 : decode cc_mo_clashes 50 = .ok (.iconst 1, 1) := by decide +kernel
theorem d_mo_clashes_51 : decode cc_mo_clashes 51 = .ok (.goto 4, 3) := by decide +kernel
theorem d_mo_clashes_54 : decode cc_mo_clashes 54 = .ok (.iconst 0, 1) := by decide +kernel
theorem d_mo_clashes_55 : decode cc_mo_clashes 55 = .ok (.istore_n 3, 1) := by decide +kernel
theorem d_mo_clashes_56 : decode cc_mo_clashes 56 = .ok (.iinc 4 1, 3) := by decide +kernel
theorem d_mo_clashes_59 : decode cc_mo_clashes 59 = .ok (.goto (-54), 3) := by decide +kernel
theorem d_mo_clashes_62 : decode cc_mo_clashes 62 = .ok (.iconst 0, 1) := by decide +kernel
theorem d_mo_clashes_63 : decode cc_mo_clashes 63 = .ok (.istore 4, 2) := by decide +kernel
theorem d_mo_clashes_65 : decode cc_mo_clashes 65 = .ok (.iload 4, 2) := by decide +kernel
theorem d_mo_clashes_67 : decode cc_mo_clashes 67 = .ok (.aload_n 0, 1) := by decide +kernel
theorem d_mo_clashes_68 : decode cc_mo_clashes 68 = .ok (.getfield 63, 3) := by decide +kernel
theorem d_mo_clashes_71 : decode cc_mo_clashes 71 = .ok (.if_icmp .ge 52, 3) := by decide +kernel
theorem d_mo_clashes_74 : decode cc_mo_clashes 74 = .ok (.iload_n 3, 1) := by decide +kernel
theorem d_mo_clashes_75 : decode cc_mo_clashes 75 = .ok (.ifCond .ne 36, 3) := by decide +kernel
theorem d_mo_clashes_78 : decode cc_mo_clashes 78 = .ok (.aload_n 0, 1) := by decide +kernel
theorem d_mo_clashes_79 : decode cc_mo_clashes 79 = .ok (.aload_n 0, 1) := by decide +kernel
theorem d_mo_clashes_80 : decode cc_mo_clashes 80 = .ok (.getfield 50, 3) := by decide +kernel
theorem d_mo_clashes_83 : decode cc_mo_clashes 83 = .ok (.iload 4, 2) := by decide +kernel
theorem d_mo_clashes_85 : decode cc_mo_clashes 85 = .ok (.iaload, 1) := by decide +kernel
theorem d_mo_clashes_86 : decode cc_mo_clashes 86 = .ok (.iload_n 1, 1) := by decide +kernel
theorem d_mo_clashes_87 : decode cc_mo_clashes 87 = .ok (.bipush 6, 2) := by decide +kernel
theorem d_mo_clashes_89 : decode cc_mo_clashes 89 = .ok (.invokevirtual 154, 3) := by decide +kernel
theorem d_mo_clashes_92 : decode cc_mo_clashes 92 = .ok (.ifCond .eq 23, 3) := by decide +kernel
theorem d_mo_clashes_95 : decode cc_mo_clashes 95 = .ok (.aload_n 0, 1) := by decide +kernel
theorem d_mo_clashes_96 : decode cc_mo_clashes 96 = .ok (.aload_n 0, 1) := by decide +kernel
theorem d_mo_clashes_97 : decode cc_mo_clashes 97 = .ok (.getfield 53, 3) := by decide +kernel
theorem d_mo_clashes_100 : decode cc_mo_clashes 100 = .ok (.iload 4, 2) := by decide +kernel
theorem d_mo_clashes_102 : decode cc_mo_clashes 102 = .ok (.iaload, 1) := by decide +kernel
theorem d_mo_clashes_103 : decode cc_mo_clashes 103 = .ok (.iload_n 2, 1) := by decide +kernel
theorem d_mo_clashes_104 : decode cc_mo_clashes 104 = .ok (.iconst 2, 1) := by decide +kernel
theorem d_mo_clashes_105 : decode cc_mo_clashes 105 = .ok (.invokevirtual 154, 3) := by decide +kernel
theorem d_mo_clashes_108 : decode cc_mo_clashes 108 = .ok (.ifCond .eq 7, 3) := by decide +kernel
theorem d_mo_clashes_111 : decode cc_mo_clashes 111 = .ok (.iconst 1, 1) := by decide +kernel
theorem d_mo_clashes_112 : decode cc_mo_clashes 112 = .ok (.goto 4, 3) := by decide +kernel
theorem d_mo_clashes_115 : decode cc_mo_clashes 115 = .ok (.iconst 0, 1) := by decide +kernel
theorem d_mo_clashes_116 : decode cc_mo_clashes 116 = .ok (.istore_n 3, 1) := by decide +kernel
theorem d_mo_clashes_117 : decode cc_mo_clashes 117 = .ok (.iinc 4 1, 3) := by decide +kernel
theorem d_mo_clashes_120 : decode cc_mo_clashes 120 = .ok (.goto (-55), 3) := by decide +kernel
theorem d_mo_clashes_123 : decode cc_mo_clashes 123 = .ok (.iload_n 3, 1) := by decide +kernel
theorem d_mo_clashes_124 : decode cc_mo_clashes 124 = .ok (.ireturn, 1) := by decide +kernel
