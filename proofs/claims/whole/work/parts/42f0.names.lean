/-! Names and decode rows, printed. -/
abbrev cc_mo_thrown : ByteArray := prog_7_method_2_code
def yy_mo_thrown : MethodName := ⟨"SpotContoursModel", "thrown", "()I"⟩
def ww_mo_thrown : List Cond := .code yy_mo_thrown cc_mo_thrown 1 (some .int) :: zz_B
theorem d_mo_thrown_0 : decode cc_mo_thrown 0 = .ok (.aload_n 0, 1) := by decide +kernel
theorem d_mo_thrown_1 : decode cc_mo_thrown 1 = .ok (.getfield 56, 3) := by decide +kernel
theorem d_mo_thrown_4 : decode cc_mo_thrown 4 = .ok (.ireturn, 1) := by decide +kernel
abbrev cc_mo_isSpot : ByteArray := prog_7_method_3_code
def yy_mo_isSpot : MethodName := ⟨"SpotContoursModel", "isSpot", "(I)Z"⟩
def ww_mo_isSpot : List Cond := .code yy_mo_isSpot cc_mo_isSpot 2 (some .boolean) :: zz_B
theorem d_mo_isSpot_0 : decode cc_mo_isSpot 0 = .ok (.iload_n 1, 1) := by decide +kernel
theorem d_mo_isSpot_1 : decode cc_mo_isSpot 1 = .ok (.ifCond .lt 15, 3) := by decide +kernel
theorem d_mo_isSpot_4 : decode cc_mo_isSpot 4 = .ok (.iload_n 1, 1) := by decide +kernel
theorem d_mo_isSpot_5 : decode cc_mo_isSpot 5 = .ok (.aload_n 0, 1) := by decide +kernel
theorem d_mo_isSpot_6 : decode cc_mo_isSpot 6 = .ok (.getfield 60, 3) := by decide +kernel
theorem d_mo_isSpot_9 : decode cc_mo_isSpot 9 = .ok (.if_icmp .ge 7, 3) := by decide +kernel
theorem d_mo_isSpot_12 : decode cc_mo_isSpot 12 = .ok (.iconst 1, 1) := by decide +kernel
theorem d_mo_isSpot_13 : decode cc_mo_isSpot 13 = .ok (.goto 4, 3) := by decide +kernel
theorem d_mo_isSpot_16 : decode cc_mo_isSpot 16 = .ok (.iconst 0, 1) := by decide +kernel
theorem d_mo_isSpot_17 : decode cc_mo_isSpot 17 = .ok (.ireturn, 1) := by decide +kernel
abbrev cc_mo_spot : ByteArray := prog_7_method_4_code
def yy_mo_spot : MethodName := ⟨"SpotContoursModel", "spot", "(III)I"⟩
def ww_mo_spot : List Cond := .code yy_mo_spot cc_mo_spot 6 (some .int) :: zz_B
theorem d_mo_spot_0 : decode cc_mo_spot 0 = .ok (.iload_n 1, 1) := by decide +kernel
theorem d_mo_spot_1 : decode cc_mo_spot 1 = .ok (.ifCond .lt 30, 3) := by decide +kernel
theorem d_mo_spot_4 : decode cc_mo_spot 4 = .ok (.iload_n 1, 1) := by decide +kernel
theorem d_mo_spot_5 : decode cc_mo_spot 5 = .ok (.bipush 63, 2) := by decide +kernel
theorem d_mo_spot_7 : decode cc_mo_spot 7 = .ok (.if_icmp .gt 24, 3) := by decide +kernel
theorem d_mo_spot_10 : decode cc_mo_spot 10 = .ok (.iload_n 2, 1) := by decide +kernel
theorem d_mo_spot_11 : decode cc_mo_spot 11 = .ok (.ifCond .lt 20, 3) := by decide +kernel
theorem d_mo_spot_14 : decode cc_mo_spot 14 = .ok (.iload_n 2, 1) := by decide +kernel
theorem d_mo_spot_15 : decode cc_mo_spot 15 = .ok (.bipush 63, 2) := by decide +kernel
theorem d_mo_spot_17 : decode cc_mo_spot 17 = .ok (.if_icmp .gt 14, 3) := by decide +kernel
theorem d_mo_spot_20 : decode cc_mo_spot 20 = .ok (.iload_n 3, 1) := by decide +kernel
theorem d_mo_spot_21 : decode cc_mo_spot 21 = .ok (.ifCond .lt 10, 3) := by decide +kernel
theorem d_mo_spot_24 : decode cc_mo_spot 24 = .ok (.iload_n 3, 1) := by decide +kernel
theorem d_mo_spot_25 : decode cc_mo_spot 25 = .ok (.sipush 999, 3) := by decide +kernel
theorem d_mo_spot_28 : decode cc_mo_spot 28 = .ok (.if_icmp .le 7, 3) := by decide +kernel
theorem d_mo_spot_31 : decode cc_mo_spot 31 = .ok (.iconst 1, 1) := by decide +kernel
theorem d_mo_spot_32 : decode cc_mo_spot 32 = .ok (.goto 4, 3) := by decide +kernel
theorem d_mo_spot_35 : decode cc_mo_spot 35 = .ok (.iconst 0, 1) := by decide +kernel
theorem d_mo_spot_36 : decode cc_mo_spot 36 = .ok (.istore 4, 2) := by decide +kernel
theorem d_mo_spot_38 : decode cc_mo_spot 38 = .ok (.iconst 0, 1) := by decide +kernel
theorem d_mo_spot_39 : decode cc_mo_spot 39 = .ok (.istore 5, 2) := by decide +kernel
theorem d_mo_spot_41 : decode cc_mo_spot 41 = .ok (.iload 5, 2) := by decide +kernel
theorem d_mo_spot_43 : decode cc_mo_spot 43 = .ok (.aload_n 0, 1) := by decide +kernel
theorem d_mo_spot_44 : decode cc_mo_spot 44 = .ok (.getfield 60, 3) := by decide +kernel
theorem d_mo_spot_47 : decode cc_mo_spot 47 = .ok (.if_icmp .ge 43, 3) := by decide +kernel
theorem d_mo_spot_50 : decode cc_mo_spot 50 = .ok (.iload 4, 2) := by decide +kernel
theorem d_mo_spot_52 : decode cc_mo_spot 52 = .ok (.ifCond .ne 25, 3) := by decide +kernel
theorem d_mo_spot_55 : decode cc_mo_spot 55 = .ok (.aload_n 0, 1) := by decide +kernel
theorem d_mo_spot_56 : decode cc_mo_spot 56 = .ok (.getfield 7, 3) := by decide +kernel
theorem d_mo_spot_59 : decode cc_mo_spot 59 = .ok (.iload 5, 2) := by decide +kernel
theorem d_mo_spot_61 : decode cc_mo_spot 61 = .ok (.iaload, 1) := by decide +kernel
theorem d_mo_spot_62 : decode cc_mo_spot 62 = .ok (.iload_n 1, 1) := by decide +kernel
theorem d_mo_spot_63 : decode cc_mo_spot 63 = .ok (.if_icmp .ne 18, 3) := by decide +kernel
theorem d_mo_spot_66 : decode cc_mo_spot 66 = .ok (.aload_n 0, 1) := by decide +kernel
theorem d_mo_spot_67 : decode cc_mo_spot 67 = .ok (.getfield 13, 3) := by decide +kernel
theorem d_mo_spot_70 : decode cc_mo_spot 70 = .ok (.iload 5, 2) := by decide +kernel
theorem d_mo_spot_72 : decode cc_mo_spot 72 = .ok (.iaload, 1) := by decide +kernel
theorem d_mo_spot_73 : decode cc_mo_spot 73 = .ok (.iload_n 2, 1) := by decide +kernel
theorem d_mo_spot_74 : decode cc_mo_spot 74 = .ok (.if_icmp .ne 7, 3) := by decide +kernel
theorem d_mo_spot_77 : decode cc_mo_spot 77 = .ok (.iconst 1, 1) := by decide +kernel
theorem d_mo_spot_78 : decode cc_mo_spot 78 = .ok (.goto 4, 3) := by decide +kernel
theorem d_mo_spot_81 : decode cc_mo_spot 81 = .ok (.iconst 0, 1) := by decide +kernel
theorem d_mo_spot_82 : decode cc_mo_spot 82 = .ok (.istore 4, 2) := by decide +kernel
theorem d_mo_spot_84 : decode cc_mo_spot 84 = .ok (.iinc 5 1, 3) := by decide +kernel
theorem d_mo_spot_87 : decode cc_mo_spot 87 = .ok (.goto (-46), 3) := by decide +kernel
theorem d_mo_spot_90 : decode cc_mo_spot 90 = .ok (.aload_n 0, 1) := by decide +kernel
theorem d_mo_spot_91 : decode cc_mo_spot 91 = .ok (.iload 4, 2) := by decide +kernel
theorem d_mo_spot_93 : decode cc_mo_spot 93 = .ok (.ifCond .eq 7, 3) := by decide +kernel
theorem d_mo_spot_96 : decode cc_mo_spot 96 = .ok (.iconst 1, 1) := by decide +kernel
theorem d_mo_spot_97 : decode cc_mo_spot 97 = .ok (.goto 17, 3) := by decide +kernel
theorem d_mo_spot_100 : decode cc_mo_spot 100 = .ok (.aload_n 0, 1) := by decide +kernel
theorem d_mo_spot_101 : decode cc_mo_spot 101 = .ok (.getfield 60, 3) := by decide +kernel
theorem d_mo_spot_104 : decode cc_mo_spot 104 = .ok (.bipush 16, 2) := by decide +kernel
theorem d_mo_spot_106 : decode cc_mo_spot 106 = .ok (.if_icmp .ne 7, 3) := by decide +kernel
theorem d_mo_spot_109 : decode cc_mo_spot 109 = .ok (.iconst 2, 1) := by decide +kernel
theorem d_mo_spot_110 : decode cc_mo_spot 110 = .ok (.goto 4, 3) := by decide +kernel
theorem d_mo_spot_113 : decode cc_mo_spot 113 = .ok (.iconst 0, 1) := by decide +kernel
theorem d_mo_spot_114 : decode cc_mo_spot 114 = .ok (.putfield 56, 3) := by decide +kernel
theorem d_mo_spot_117 : decode cc_mo_spot 117 = .ok (.aload_n 0, 1) := by decide +kernel
theorem d_mo_spot_118 : decode cc_mo_spot 118 = .ok (.getfield 56, 3) := by decide +kernel
theorem d_mo_spot_121 : decode cc_mo_spot 121 = .ok (.ifCond .eq 5, 3) := by decide +kernel
theorem d_mo_spot_124 : decode cc_mo_spot 124 = .ok (.iconst 0, 1) := by decide +kernel
theorem d_mo_spot_125 : decode cc_mo_spot 125 = .ok (.ireturn, 1) := by decide +kernel
theorem d_mo_spot_126 : decode cc_mo_spot 126 = .ok (.aload_n 0, 1) := by decide +kernel
theorem d_mo_spot_127 : decode cc_mo_spot 127 = .ok (.getfield 7, 3) := by decide +kernel
theorem d_mo_spot_130 : decode cc_mo_spot 130 = .ok (.aload_n 0, 1) := by decide +kernel
theorem d_mo_spot_131 : decode cc_mo_spot 131 = .ok (.getfield 60, 3) := by decide +kernel
theorem d_mo_spot_134 : decode cc_mo_spot 134 = .ok (.iload_n 1, 1) := by decide +kernel
theorem d_mo_spot_135 : decode cc_mo_spot 135 = .ok (.iastore, 1) := by decide +kernel
theorem d_mo_spot_136 : decode cc_mo_spot 136 = .ok (.aload_n 0, 1) := by decide +kernel
theorem d_mo_spot_137 : decode cc_mo_spot 137 = .ok (.getfield 13, 3) := by decide +kernel
theorem d_mo_spot_140 : decode cc_mo_spot 140 = .ok (.aload_n 0, 1) := by decide +kernel
theorem d_mo_spot_141 : decode cc_mo_spot 141 = .ok (.getfield 60, 3) := by decide +kernel
theorem d_mo_spot_144 : decode cc_mo_spot 144 = .ok (.iload_n 2, 1) := by decide +kernel
theorem d_mo_spot_145 : decode cc_mo_spot 145 = .ok (.iastore, 1) := by decide +kernel
theorem d_mo_spot_146 : decode cc_mo_spot 146 = .ok (.aload_n 0, 1) := by decide +kernel
theorem d_mo_spot_147 : decode cc_mo_spot 147 = .ok (.getfield 16, 3) := by decide +kernel
theorem d_mo_spot_150 : decode cc_mo_spot 150 = .ok (.aload_n 0, 1) := by decide +kernel
theorem d_mo_spot_151 : decode cc_mo_spot 151 = .ok (.getfield 60, 3) := by decide +kernel
theorem d_mo_spot_154 : decode cc_mo_spot 154 = .ok (.iload_n 3, 1) := by decide +kernel
theorem d_mo_spot_155 : decode cc_mo_spot 155 = .ok (.iastore, 1) := by decide +kernel
theorem d_mo_spot_156 : decode cc_mo_spot 156 = .ok (.aload_n 0, 1) := by decide +kernel
theorem d_mo_spot_157 : decode cc_mo_spot 157 = .ok (.dup, 1) := by decide +kernel
theorem d_mo_spot_158 : decode cc_mo_spot 158 = .ok (.getfield 60, 3) := by decide +kernel
theorem d_mo_spot_161 : decode cc_mo_spot 161 = .ok (.iconst 1, 1) := by decide +kernel
theorem d_mo_spot_162 : decode cc_mo_spot 162 = .ok (.iadd, 1) := by decide +kernel
theorem d_mo_spot_163 : decode cc_mo_spot 163 = .ok (.putfield 60, 3) := by decide +kernel
theorem d_mo_spot_166 : decode cc_mo_spot 166 = .ok (.aload_n 0, 1) := by decide +kernel
theorem d_mo_spot_167 : decode cc_mo_spot 167 = .ok (.iconst 0, 1) := by decide +kernel
theorem d_mo_spot_168 : decode cc_mo_spot 168 = .ok (.putfield 63, 3) := by decide +kernel
theorem d_mo_spot_171 : decode cc_mo_spot 171 = .ok (.aload_n 0, 1) := by decide +kernel
theorem d_mo_spot_172 : decode cc_mo_spot 172 = .ok (.invokevirtual 66, 3) := by decide +kernel
theorem d_mo_spot_175 : decode cc_mo_spot 175 = .ok (.aload_n 0, 1) := by decide +kernel
theorem d_mo_spot_176 : decode cc_mo_spot 176 = .ok (.getfield 60, 3) := by decide +kernel
theorem d_mo_spot_179 : decode cc_mo_spot 179 = .ok (.iconst 1, 1) := by decide +kernel
theorem d_mo_spot_180 : decode cc_mo_spot 180 = .ok (.isub, 1) := by decide +kernel
theorem d_mo_spot_181 : decode cc_mo_spot 181 = .ok (.ireturn, 1) := by decide +kernel
abbrev cc_mo_raise : ByteArray := prog_7_method_5_code
def yy_mo_raise : MethodName := ⟨"SpotContoursModel", "raise", "(II)I"⟩
def ww_mo_raise : List Cond := .code yy_mo_raise cc_mo_raise 4 (some .int) :: zz_B
theorem d_mo_raise_0 : decode cc_mo_raise 0 = .ok (.aload_n 0, 1) := by decide +kernel
theorem d_mo_raise_1 : decode cc_mo_raise 1 = .ok (.aload_n 0, 1) := by decide +kernel
theorem d_mo_raise_2 : decode cc_mo_raise 2 = .ok (.iload_n 1, 1) := by decide +kernel
theorem d_mo_raise_3 : decode cc_mo_raise 3 = .ok (.invokevirtual 69, 3) := by decide +kernel
theorem d_mo_raise_6 : decode cc_mo_raise 6 = .ok (.ifCond .ne 7, 3) := by decide +kernel
theorem d_mo_raise_9 : decode cc_mo_raise 9 = .ok (.iconst 1, 1) := by decide +kernel
theorem d_mo_raise_10 : decode cc_mo_raise 10 = .ok (.goto 19, 3) := by decide +kernel
theorem d_mo_raise_13 : decode cc_mo_raise 13 = .ok (.iload_n 2, 1) := by decide +kernel
theorem d_mo_raise_14 : decode cc_mo_raise 14 = .ok (.ifCond .lt 10, 3) := by decide +kernel
theorem d_mo_raise_17 : decode cc_mo_raise 17 = .ok (.iload_n 2, 1) := by decide +kernel
theorem d_mo_raise_18 : decode cc_mo_raise 18 = .ok (.sipush 999, 3) := by decide +kernel
theorem d_mo_raise_21 : decode cc_mo_raise 21 = .ok (.if_icmp .le 7, 3) := by decide +kernel
theorem d_mo_raise_24 : decode cc_mo_raise 24 = .ok (.iconst 2, 1) := by decide +kernel
theorem d_mo_raise_25 : decode cc_mo_raise 25 = .ok (.goto 4, 3) := by decide +kernel
theorem d_mo_raise_28 : decode cc_mo_raise 28 = .ok (.iconst 0, 1) := by decide +kernel
theorem d_mo_raise_29 : decode cc_mo_raise 29 = .ok (.putfield 56, 3) := by decide +kernel
theorem d_mo_raise_32 : decode cc_mo_raise 32 = .ok (.aload_n 0, 1) := by decide +kernel
theorem d_mo_raise_33 : decode cc_mo_raise 33 = .ok (.getfield 56, 3) := by decide +kernel
theorem d_mo_raise_36 : decode cc_mo_raise 36 = .ok (.ifCond .eq 5, 3) := by decide +kernel
theorem d_mo_raise_39 : decode cc_mo_raise 39 = .ok (.iconst 0, 1) := by decide +kernel
theorem d_mo_raise_40 : decode cc_mo_raise 40 = .ok (.ireturn, 1) := by decide +kernel
theorem d_mo_raise_41 : decode cc_mo_raise 41 = .ok (.aload_n 0, 1) := by decide +kernel
theorem d_mo_raise_42 : decode cc_mo_raise 42 = .ok (.getfield 16, 3) := by decide +kernel
theorem d_mo_raise_45 : decode cc_mo_raise 45 = .ok (.iload_n 1, 1) := by decide +kernel
theorem d_mo_raise_46 : decode cc_mo_raise 46 = .ok (.iaload, 1) := by decide +kernel
theorem d_mo_raise_47 : decode cc_mo_raise 47 = .ok (.istore_n 3, 1) := by decide +kernel
theorem d_mo_raise_48 : decode cc_mo_raise 48 = .ok (.aload_n 0, 1) := by decide +kernel
theorem d_mo_raise_49 : decode cc_mo_raise 49 = .ok (.getfield 16, 3) := by decide +kernel
theorem d_mo_raise_52 : decode cc_mo_raise 52 = .ok (.iload_n 1, 1) := by decide +kernel
theorem d_mo_raise_53 : decode cc_mo_raise 53 = .ok (.iload_n 2, 1) := by decide +kernel
theorem d_mo_raise_54 : decode cc_mo_raise 54 = .ok (.iastore, 1) := by decide +kernel
theorem d_mo_raise_55 : decode cc_mo_raise 55 = .ok (.aload_n 0, 1) := by decide +kernel
theorem d_mo_raise_56 : decode cc_mo_raise 56 = .ok (.iconst 0, 1) := by decide +kernel
theorem d_mo_raise_57 : decode cc_mo_raise 57 = .ok (.putfield 63, 3) := by decide +kernel
theorem d_mo_raise_60 : decode cc_mo_raise 60 = .ok (.iload_n 3, 1) := by decide +kernel
theorem d_mo_raise_61 : decode cc_mo_raise 61 = .ok (.ireturn, 1) := by decide +kernel
abbrev cc_mo_turn : ByteArray := prog_7_method_6_code
def yy_mo_turn : MethodName := ⟨"SpotContoursModel", "turn", "(III)I"⟩
def ww_mo_turn : List Cond := .code yy_mo_turn cc_mo_turn 4 (some .int) :: zz_B
theorem d_mo_turn_0 : decode cc_mo_turn 0 = .ok (.aload_n 0, 1) := by decide +kernel
theorem d_mo_turn_1 : decode cc_mo_turn 1 = .ok (.getfield 7, 3) := by decide +kernel
theorem d_mo_turn_4 : decode cc_mo_turn 4 = .ok (.iload_n 2, 1) := by decide +kernel
theorem d_mo_turn_5 : decode cc_mo_turn 5 = .ok (.iaload, 1) := by decide +kernel
theorem d_mo_turn_6 : decode cc_mo_turn 6 = .ok (.aload_n 0, 1) := by decide +kernel
theorem d_mo_turn_7 : decode cc_mo_turn 7 = .ok (.getfield 7, 3) := by decide +kernel
theorem d_mo_turn_10 : decode cc_mo_turn 10 = .ok (.iload_n 1, 1) := by decide +kernel
theorem d_mo_turn_11 : decode cc_mo_turn 11 = .ok (.iaload, 1) := by decide +kernel
theorem d_mo_turn_12 : decode cc_mo_turn 12 = .ok (.isub, 1) := by decide +kernel
theorem d_mo_turn_13 : decode cc_mo_turn 13 = .ok (.aload_n 0, 1) := by decide +kernel
theorem d_mo_turn_14 : decode cc_mo_turn 14 = .ok (.getfield 13, 3) := by decide +kernel
theorem d_mo_turn_17 : decode cc_mo_turn 17 = .ok (.iload_n 3, 1) := by decide +kernel
theorem d_mo_turn_18 : decode cc_mo_turn 18 = .ok (.iaload, 1) := by decide +kernel
theorem d_mo_turn_19 : decode cc_mo_turn 19 = .ok (.aload_n 0, 1) := by decide +kernel
theorem d_mo_turn_20 : decode cc_mo_turn 20 = .ok (.getfield 13, 3) := by decide +kernel
theorem d_mo_turn_23 : decode cc_mo_turn 23 = .ok (.iload_n 1, 1) := by decide +kernel
theorem d_mo_turn_24 : decode cc_mo_turn 24 = .ok (.iaload, 1) := by decide +kernel
theorem d_mo_turn_25 : decode cc_mo_turn 25 = .ok (.isub, 1) := by decide +kernel
theorem d_mo_turn_26 : decode cc_mo_turn 26 = .ok (.imul, 1) := by decide +kernel
theorem d_mo_turn_27 : decode cc_mo_turn 27 = .ok (.aload_n 0, 1) := by decide +kernel
theorem d_mo_turn_28 : decode cc_mo_turn 28 = .ok (.getfield 13, 3) := by decide +kernel
theorem d_mo_turn_31 : decode cc_mo_turn 31 = .ok (.iload_n 2, 1) := by decide +kernel
theorem d_mo_turn_32 : decode cc_mo_turn 32 = .ok (.iaload, 1) := by decide +kernel
theorem d_mo_turn_33 : decode cc_mo_turn 33 = .ok (.aload_n 0, 1) := by decide +kernel
theorem d_mo_turn_34 : decode cc_mo_turn 34 = .ok (.getfield 13, 3) := by decide +kernel
theorem d_mo_turn_37 : decode cc_mo_turn 37 = .ok (.iload_n 1, 1) := by decide +kernel
theorem d_mo_turn_38 : decode cc_mo_turn 38 = .ok (.iaload, 1) := by decide +kernel
theorem d_mo_turn_39 : decode cc_mo_turn 39 = .ok (.isub, 1) := by decide +kernel
theorem d_mo_turn_40 : decode cc_mo_turn 40 = .ok (.aload_n 0, 1) := by decide +kernel
theorem d_mo_turn_41 : decode cc_mo_turn 41 = .ok (.getfield 7, 3) := by decide +kernel
theorem d_mo_turn_44 : decode cc_mo_turn 44 = .ok (.iload_n 3, 1) := by decide +kernel
theorem d_mo_turn_45 : decode cc_mo_turn 45 = .ok (.iaload, 1) := by decide +kernel
theorem d_mo_turn_46 : decode cc_mo_turn 46 = .ok (.aload_n 0, 1) := by decide +kernel
theorem d_mo_turn_47 : decode cc_mo_turn 47 = .ok (.getfield 7, 3) := by decide +kernel
theorem d_mo_turn_50 : decode cc_mo_turn 50 = .ok (.iload_n 1, 1) := by decide +kernel
theorem d_mo_turn_51 : decode cc_mo_turn 51 = .ok (.iaload, 1) := by decide +kernel
theorem d_mo_turn_52 : decode cc_mo_turn 52 = .ok (.isub, 1) := by decide +kernel
theorem d_mo_turn_53 : decode cc_mo_turn 53 = .ok (.imul, 1) := by decide +kernel
theorem d_mo_turn_54 : decode cc_mo_turn 54 = .ok (.isub, 1) := by decide +kernel
theorem d_mo_turn_55 : decode cc_mo_turn 55 = .ok (.ireturn, 1) := by decide +kernel
abbrev cc_mo_square : ByteArray := prog_7_method_7_code
def yy_mo_square : MethodName := ⟨"SpotContoursModel", "square", "(II)J"⟩
def ww_mo_square : List Cond := .code yy_mo_square cc_mo_square 3 (some .long) :: zz_B
theorem d_mo_square_0 : decode cc_mo_square 0 = .ok (.aload_n 0, 1) := by decide +kernel
theorem d_mo_square_1 : decode cc_mo_square 1 = .ok (.getfield 7, 3) := by decide +kernel
theorem d_mo_square_4 : decode cc_mo_square 4 = .ok (.iload_n 1, 1) := by decide +kernel
theorem d_mo_square_5 : decode cc_mo_square 5 = .ok (.iaload, 1) := by decide +kernel
theorem d_mo_square_6 : decode cc_mo_square 6 = .ok (.aload_n 0, 1) := by decide +kernel
theorem d_mo_square_7 : decode cc_mo_square 7 = .ok (.getfield 7, 3) := by decide +kernel
theorem d_mo_square_10 : decode cc_mo_square 10 = .ok (.iload_n 2, 1) := by decide +kernel
theorem d_mo_square_11 : decode cc_mo_square 11 = .ok (.iaload, 1) := by decide +kernel
theorem d_mo_square_12 : decode cc_mo_square 12 = .ok (.isub, 1) := by decide +kernel
theorem d_mo_square_13 : decode cc_mo_square 13 = .ok (.i2l, 1) := by decide +kernel
theorem d_mo_square_14 : decode cc_mo_square 14 = .ok (.aload_n 0, 1) := by decide +kernel
theorem d_mo_square_15 : decode cc_mo_square 15 = .ok (.getfield 7, 3) := by decide +kernel
theorem d_mo_square_18 : decode cc_mo_square 18 = .ok (.iload_n 1, 1) := by decide +kernel
theorem d_mo_square_19 : decode cc_mo_square 19 = .ok (.iaload, 1) := by decide +kernel
theorem d_mo_square_20 : decode cc_mo_square 20 = .ok (.aload_n 0, 1) := by decide +kernel
theorem d_mo_square_21 : decode cc_mo_square 21 = .ok (.getfield 7, 3) := by decide +kernel
theorem d_mo_square_24 : decode cc_mo_square 24 = .ok (.iload_n 2, 1) := by decide +kernel
theorem d_mo_square_25 : decode cc_mo_square 25 = .ok (.iaload, 1) := by decide +kernel
theorem d_mo_square_26 : decode cc_mo_square 26 = .ok (.isub, 1) := by decide +kernel
theorem d_mo_square_27 : decode cc_mo_square 27 = .ok (.i2l, 1) := by decide +kernel
theorem d_mo_square_28 : decode cc_mo_square 28 = .ok (.lmul, 1) := by decide +kernel
theorem d_mo_square_29 : decode cc_mo_square 29 = .ok (.aload_n 0, 1) := by decide +kernel
theorem d_mo_square_30 : decode cc_mo_square 30 = .ok (.getfield 13, 3) := by decide +kernel
theorem d_mo_square_33 : decode cc_mo_square 33 = .ok (.iload_n 1, 1) := by decide +kernel
theorem d_mo_square_34 : decode cc_mo_square 34 = .ok (.iaload, 1) := by decide +kernel
theorem d_mo_square_35 : decode cc_mo_square 35 = .ok (.aload_n 0, 1) := by decide +kernel
theorem d_mo_square_36 : decode cc_mo_square 36 = .ok (.getfield 13, 3) := by decide +kernel
theorem d_mo_square_39 : decode cc_mo_square 39 = .ok (.iload_n 2, 1) := by decide +kernel
theorem d_mo_square_40 : decode cc_mo_square 40 = .ok (.iaload, 1) := by decide +kernel
theorem d_mo_square_41 : decode cc_mo_square 41 = .ok (.isub, 1) := by decide +kernel
theorem d_mo_square_42 : decode cc_mo_square 42 = .ok (.i2l, 1) := by decide +kernel
theorem d_mo_square_43 : decode cc_mo_square 43 = .ok (.aload_n 0, 1) := by decide +kernel
theorem d_mo_square_44 : decode cc_mo_square 44 = .ok (.getfield 13, 3) := by decide +kernel
theorem d_mo_square_47 : decode cc_mo_square 47 = .ok (.iload_n 1, 1) := by decide +kernel
theorem d_mo_square_48 : decode cc_mo_square 48 = .ok (.iaload, 1) := by decide +kernel
theorem d_mo_square_49 : decode cc_mo_square 49 = .ok (.aload_n 0, 1) := by decide +kernel
theorem d_mo_square_50 : decode cc_mo_square 50 = .ok (.getfield 13, 3) := by decide +kernel
theorem d_mo_square_53 : decode cc_mo_square 53 = .ok (.iload_n 2, 1) := by decide +kernel
theorem d_mo_square_54 : decode cc_mo_square 54 = .ok (.iaload, 1) := by decide +kernel
theorem d_mo_square_55 : decode cc_mo_square 55 = .ok (.isub, 1) := by decide +kernel
theorem d_mo_square_56 : decode cc_mo_square 56 = .ok (.i2l, 1) := by decide +kernel
theorem d_mo_square_57 : decode cc_mo_square 57 = .ok (.lmul, 1) := by decide +kernel
theorem d_mo_square_58 : decode cc_mo_square 58 = .ok (.ladd, 1) := by decide +kernel
theorem d_mo_square_59 : decode cc_mo_square 59 = .ok (.lreturn, 1) := by decide +kernel
abbrev cc_mo_inside : ByteArray := prog_7_method_8_code
def yy_mo_inside : MethodName := ⟨"SpotContoursModel", "inside", "(IIII)J"⟩
def ww_mo_inside : List Cond := .code yy_mo_inside cc_mo_inside 7 (some .long) :: zz_B
theorem d_mo_inside_0 : decode cc_mo_inside 0 = .ok (.aload_n 0, 1) := by decide +kernel
theorem d_mo_inside_1 : decode cc_mo_inside 1 = .ok (.iload_n 1, 1) := by decide +kernel
theorem d_mo_inside_2 : decode cc_mo_inside 2 = .ok (.iload 4, 2) := by decide +kernel
theorem d_mo_inside_4 : decode cc_mo_inside 4 = .ok (.invokevirtual 73, 3) := by decide +kernel
theorem d_mo_inside_7 : decode cc_mo_inside 7 = .ok (.aload_n 0, 1) := by decide +kernel
theorem d_mo_inside_8 : decode cc_mo_inside 8 = .ok (.iload 4, 2) := by decide +kernel
theorem d_mo_inside_10 : decode cc_mo_inside 10 = .ok (.iload_n 2, 1) := by decide +kernel
theorem d_mo_inside_11 : decode cc_mo_inside 11 = .ok (.iload_n 3, 1) := by decide +kernel
theorem d_mo_inside_12 : decode cc_mo_inside 12 = .ok (.invokevirtual 77, 3) := by decide +kernel
theorem d_mo_inside_15 : decode cc_mo_inside 15 = .ok (.i2l, 1) := by decide +kernel
theorem d_mo_inside_16 : decode cc_mo_inside 16 = .ok (.lmul, 1) := by decide +kernel
theorem d_mo_inside_17 : decode cc_mo_inside 17 = .ok (.aload_n 0, 1) := by decide +kernel
theorem d_mo_inside_18 : decode cc_mo_inside 18 = .ok (.iload_n 2, 1) := by decide +kernel
theorem d_mo_inside_19 : decode cc_mo_inside 19 = .ok (.iload 4, 2) := by decide +kernel
theorem d_mo_inside_21 : decode cc_mo_inside 21 = .ok (.invokevirtual 73, 3) := by decide +kernel
theorem d_mo_inside_24 : decode cc_mo_inside 24 = .ok (.aload_n 0, 1) := by decide +kernel
theorem d_mo_inside_25 : decode cc_mo_inside 25 = .ok (.iload 4, 2) := by decide +kernel
theorem d_mo_inside_27 : decode cc_mo_inside 27 = .ok (.iload_n 3, 1) := by decide +kernel
theorem d_mo_inside_28 : decode cc_mo_inside 28 = .ok (.iload_n 1, 1) := by decide +kernel
theorem d_mo_inside_29 : decode cc_mo_inside 29 = .ok (.invokevirtual 77, 3) := by decide +kernel
theorem d_mo_inside_32 : decode cc_mo_inside 32 = .ok (.i2l, 1) := by decide +kernel
theorem d_mo_inside_33 : decode cc_mo_inside 33 = .ok (.lmul, 1) := by decide +kernel
theorem d_mo_inside_34 : decode cc_mo_inside 34 = .ok (.ladd, 1) := by decide +kernel
theorem d_mo_inside_35 : decode cc_mo_inside 35 = .ok (.aload_n 0, 1) := by decide +kernel
theorem d_mo_inside_36 : decode cc_mo_inside 36 = .ok (.iload_n 3, 1) := by decide +kernel
theorem d_mo_inside_37 : decode cc_mo_inside 37 = .ok (.iload 4, 2) := by decide +kernel
theorem d_mo_inside_39 : decode cc_mo_inside 39 = .ok (.invokevirtual 73, 3) := by decide +kernel
theorem d_mo_inside_42 : decode cc_mo_inside 42 = .ok (.aload_n 0, 1) := by decide +kernel
theorem d_mo_inside_43 : decode cc_mo_inside 43 = .ok (.iload 4, 2) := by decide +kernel
theorem d_mo_inside_45 : decode cc_mo_inside 45 = .ok (.iload_n 1, 1) := by decide +kernel
theorem d_mo_inside_46 : decode cc_mo_inside 46 = .ok (.iload_n 2, 1) := by decide +kernel
theorem d_mo_inside_47 : decode cc_mo_inside 47 = .ok (.invokevirtual 77, 3) := by decide +kernel
theorem d_mo_inside_50 : decode cc_mo_inside 50 = .ok (.i2l, 1) := by decide +kernel
theorem d_mo_inside_51 : decode cc_mo_inside 51 = .ok (.lmul, 1) := by decide +kernel
theorem d_mo_inside_52 : decode cc_mo_inside 52 = .ok (.ladd, 1) := by decide +kernel
theorem d_mo_inside_53 : decode cc_mo_inside 53 = .ok (.lstore 5, 2) := by decide +kernel
theorem d_mo_inside_55 : decode cc_mo_inside 55 = .ok (.aload_n 0, 1) := by decide +kernel
theorem d_mo_inside_56 : decode cc_mo_inside 56 = .ok (.iload_n 1, 1) := by decide +kernel
theorem d_mo_inside_57 : decode cc_mo_inside 57 = .ok (.iload_n 2, 1) := by decide +kernel
theorem d_mo_inside_58 : decode cc_mo_inside 58 = .ok (.iload_n 3, 1) := by decide +kernel
theorem d_mo_inside_59 : decode cc_mo_inside 59 = .ok (.invokevirtual 77, 3) := by decide +kernel
theorem d_mo_inside_62 : decode cc_mo_inside 62 = .ok (.ifCond .le 8, 3) := by decide +kernel
theorem d_mo_inside_65 : decode cc_mo_inside 65 = .ok (.lload 5, 2) := by decide +kernel
theorem d_mo_inside_67 : decode cc_mo_inside 67 = .ok (.goto 6, 3) := by decide +kernel
theorem d_mo_inside_70 : decode cc_mo_inside 70 = .ok (.lload 5, 2) := by decide +kernel
theorem d_mo_inside_72 : decode cc_mo_inside 72 = .ok (.lneg, 1) := by decide +kernel
theorem d_mo_inside_73 : decode cc_mo_inside 73 = .ok (.lreturn, 1) := by decide +kernel
abbrev cc_mo_parts : ByteArray := prog_7_method_9_code
def yy_mo_parts : MethodName := ⟨"SpotContoursModel", "parts", "(IIII)Z"⟩
def ww_mo_parts : List Cond := .code yy_mo_parts cc_mo_parts 5 (some .boolean) :: zz_B
theorem d_mo_parts_0 : decode cc_mo_parts 0 = .ok (.aload_n 0, 1) := by decide +kernel
theorem d_mo_parts_1 : decode cc_mo_parts 1 = .ok (.iload_n 1, 1) := by decide +kernel
theorem d_mo_parts_2 : decode cc_mo_parts 2 = .ok (.iload_n 2, 1) := by decide +kernel
theorem d_mo_parts_3 : decode cc_mo_parts 3 = .ok (.iload_n 3, 1) := by decide +kernel
theorem d_mo_parts_4 : decode cc_mo_parts 4 = .ok (.invokevirtual 77, 3) := by decide +kernel
theorem d_mo_parts_7 : decode cc_mo_parts 7 = .ok (.ifCond .le 7, 3) := by decide +kernel
theorem d_mo_parts_10 : decode cc_mo_parts 10 = .ok (.iconst 1, 1) := by decide +kernel
theorem d_mo_parts_11 : decode cc_mo_parts 11 = .ok (.goto 4, 3) := by decide +kernel
theorem d_mo_parts_14 : decode cc_mo_parts 14 = .ok (.iconst 0, 1) := by decide +kernel
theorem d_mo_parts_15 : decode cc_mo_parts 15 = .ok (.aload_n 0, 1) := by decide +kernel
theorem d_mo_parts_16 : decode cc_mo_parts 16 = .ok (.iload_n 1, 1) := by decide +kernel
theorem d_mo_parts_17 : decode cc_mo_parts 17 = .ok (.iload_n 2, 1) := by decide +kernel
theorem d_mo_parts_18 : decode cc_mo_parts 18 = .ok (.iload 4, 2) := by decide +kernel
theorem d_mo_parts_20 : decode cc_mo_parts 20 = .ok (.invokevirtual 77, 3) := by decide +kernel
theorem d_mo_parts_23 : decode cc_mo_parts 23 = .ok (.ifCond .le 7, 3) := by decide +kernel
theorem d_mo_parts_26 : decode cc_mo_parts 26 = .ok (.iconst 1, 1) := by decide +kernel
theorem d_mo_parts_27 : decode cc_mo_parts 27 = .ok (.goto 4, 3) := by decide +kernel
theorem d_mo_parts_30 : decode cc_mo_parts 30 = .ok (.iconst 0, 1) := by decide +kernel
theorem d_mo_parts_31 : decode cc_mo_parts 31 = .ok (.if_icmp .eq 7, 3) := by decide +kernel
theorem d_mo_parts_34 : decode cc_mo_parts 34 = .ok (.iconst 1, 1) := by decide +kernel
theorem d_mo_parts_35 : decode cc_mo_parts 35 = .ok (.goto 4, 3) := by decide +kernel
theorem d_mo_parts_38 : decode cc_mo_parts 38 = .ok (.iconst 0, 1) := by decide +kernel
theorem d_mo_parts_39 : decode cc_mo_parts 39 = .ok (.ireturn, 1) := by decide +kernel
abbrev cc_mo_isIn : ByteArray := prog_7_method_10_code
def yy_mo_isIn : MethodName := ⟨"SpotContoursModel", "isIn", "(IIII)Z"⟩
def ww_mo_isIn : List Cond := .code yy_mo_isIn cc_mo_isIn 9 (some .boolean) :: zz_B
theorem d_mo_isIn_0 : decode cc_mo_isIn 0 = .ok (.aload_n 0, 1) := by decide +kernel
theorem d_mo_isIn_1 : decode cc_mo_isIn 1 = .ok (.iload_n 1, 1) := by decide +kernel
theorem d_mo_isIn_2 : decode cc_mo_isIn 2 = .ok (.iload_n 2, 1) := by decide +kernel
theorem d_mo_isIn_3 : decode cc_mo_isIn 3 = .ok (.iload_n 3, 1) := by decide +kernel
theorem d_mo_isIn_4 : decode cc_mo_isIn 4 = .ok (.iload 4, 2) := by decide +kernel
theorem d_mo_isIn_6 : decode cc_mo_isIn 6 = .ok (.invokevirtual 81, 3) := by decide +kernel
theorem d_mo_isIn_9 : decode cc_mo_isIn 9 = .ok (.lstore 5, 2) := by decide +kernel
theorem d_mo_isIn_11 : decode cc_mo_isIn 11 = .ok (.lload 5, 2) := by decide +kernel
theorem d_mo_isIn_13 : decode cc_mo_isIn 13 = .ok (.lconst 0, 1) := by decide +kernel
theorem d_mo_isIn_14 : decode cc_mo_isIn 14 = .ok (.lcmp, 1) := by decide +kernel
theorem d_mo_isIn_15 : decode cc_mo_isIn 15 = .ok (.ifCond .eq 16, 3) := by decide +kernel
theorem d_mo_isIn_18 : decode cc_mo_isIn 18 = .ok (.lload 5, 2) := by decide +kernel
theorem d_mo_isIn_20 : decode cc_mo_isIn 20 = .ok (.lconst 0, 1) := by decide +kernel
theorem d_mo_isIn_21 : decode cc_mo_isIn 21 = .ok (.lcmp, 1) := by decide +kernel
theorem d_mo_isIn_22 : decode cc_mo_isIn 22 = .ok (.ifCond .le 7, 3) := by decide +kernel
theorem d_mo_isIn_25 : decode cc_mo_isIn 25 = .ok (.iconst 1, 1) := by decide +kernel
theorem d_mo_isIn_26 : decode cc_mo_isIn 26 = .ok (.goto 4, 3) := by decide +kernel
theorem d_mo_isIn_29 : decode cc_mo_isIn 29 = .ok (.iconst 0, 1) := by decide +kernel
theorem d_mo_isIn_30 : decode cc_mo_isIn 30 = .ok (.ireturn, 1) := by decide +kernel
theorem d_mo_isIn_31 : decode cc_mo_isIn 31 = .ok (.aload_n 0, 1) := by decide +kernel
theorem d_mo_isIn_32 : decode cc_mo_isIn 32 = .ok (.iload 4, 2) := by decide +kernel
theorem d_mo_isIn_34 : decode cc_mo_isIn 34 = .ok (.iload_n 1, 1) := by decide +kernel
theorem d_mo_isIn_35 : decode cc_mo_isIn 35 = .ok (.iload_n 2, 1) := by decide +kernel
theorem d_mo_isIn_36 : decode cc_mo_isIn 36 = .ok (.iload_n 3, 1) := by decide +kernel
theorem d_mo_isIn_37 : decode cc_mo_isIn 37 = .ok (.invokevirtual 85, 3) := by decide +kernel
theorem d_mo_isIn_40 : decode cc_mo_isIn 40 = .ok (.ifCond .eq 7, 3) := by decide +kernel
theorem d_mo_isIn_43 : decode cc_mo_isIn 43 = .ok (.iload_n 1, 1) := by decide +kernel
theorem d_mo_isIn_44 : decode cc_mo_isIn 44 = .ok (.goto 20, 3) := by decide +kernel
theorem d_mo_isIn_47 : decode cc_mo_isIn 47 = .ok (.aload_n 0, 1) := by decide +kernel
theorem d_mo_isIn_48 : decode cc_mo_isIn 48 = .ok (.iload 4, 2) := by decide +kernel
theorem d_mo_isIn_50 : decode cc_mo_isIn 50 = .ok (.iload_n 2, 1) := by decide +kernel
theorem d_mo_isIn_51 : decode cc_mo_isIn 51 = .ok (.iload_n 1, 1) := by decide +kernel
theorem d_mo_isIn_52 : decode cc_mo_isIn 52 = .ok (.iload_n 3, 1) := by decide +kernel
theorem d_mo_isIn_53 : decode cc_mo_isIn 53 = .ok (.invokevirtual 85, 3) := by decide +kernel
theorem d_mo_isIn_56 : decode cc_mo_isIn 56 = .ok (.ifCond .eq 7, 3) := by decide +kernel
theorem d_mo_isIn_59 : decode cc_mo_isIn 59 = .ok (.iload_n 2, 1) := by decide +kernel
theorem d_mo_isIn_60 : decode cc_mo_isIn 60 = .ok (.goto 4, 3) := by decide +kernel
theorem d_mo_isIn_63 : decode cc_mo_isIn 63 = .ok (.iload_n 3, 1) := by decide +kernel
theorem d_mo_isIn_64 : decode cc_mo_isIn 64 = .ok (.istore 7, 2) := by decide +kernel
theorem d_mo_isIn_66 : decode cc_mo_isIn 66 = .ok (.iload_n 1, 1) := by decide +kernel
theorem d_mo_isIn_67 : decode cc_mo_isIn 67 = .ok (.iload_n 2, 1) := by decide +kernel
theorem d_mo_isIn_68 : decode cc_mo_isIn 68 = .ok (.if_icmp .ge 7, 3) := by decide +kernel
theorem d_mo_isIn_71 : decode cc_mo_isIn 71 = .ok (.iload_n 1, 1) := by decide +kernel
theorem d_mo_isIn_72 : decode cc_mo_isIn 72 = .ok (.goto 4, 3) := by decide +kernel
theorem d_mo_isIn_75 : decode cc_mo_isIn 75 = .ok (.iload_n 2, 1) := by decide +kernel
theorem d_mo_isIn_76 : decode cc_mo_isIn 76 = .ok (.istore 8, 2) := by decide +kernel
theorem d_mo_isIn_78 : decode cc_mo_isIn 78 = .ok (.iload_n 3, 1) := by decide +kernel
theorem d_mo_isIn_79 : decode cc_mo_isIn 79 = .ok (.iload 8, 2) := by decide +kernel
theorem d_mo_isIn_81 : decode cc_mo_isIn 81 = .ok (.if_icmp .ge 7, 3) := by decide +kernel
theorem d_mo_isIn_84 : decode cc_mo_isIn 84 = .ok (.iload_n 3, 1) := by decide +kernel
theorem d_mo_isIn_85 : decode cc_mo_isIn 85 = .ok (.goto 5, 3) := by decide +kernel
theorem d_mo_isIn_88 : decode cc_mo_isIn 88 = .ok (.iload 8, 2) := by decide +kernel
theorem d_mo_isIn_90 : decode cc_mo_isIn 90 = .ok (.istore 8, 2) := by decide +kernel
theorem d_mo_isIn_92 : decode cc_mo_isIn 92 = .ok (.iload 4, 2) := by decide +kernel
theorem d_mo_isIn_94 : decode cc_mo_isIn 94 = .ok (.iload 8, 2) := by decide +kernel
theorem d_mo_isIn_96 : decode cc_mo_isIn 96 = .ok (.if_icmp .ge 8, 3) := by decide +kernel
theorem d_mo_isIn_99 : decode cc_mo_isIn 99 = .ok (.iload 4, 2) := by decide +kernel
theorem d_mo_isIn_101 : decode cc_mo_isIn 101 = .ok (.goto 5, 3) := by decide +kernel
theorem d_mo_isIn_104 : decode cc_mo_isIn 104 = .ok (.iload 8, 2) := by decide +kernel
theorem d_mo_isIn_106 : decode cc_mo_isIn 106 = .ok (.istore 8, 2) := by decide +kernel
theorem d_mo_isIn_108 : decode cc_mo_isIn 108 = .ok (.iload 8, 2) := by decide +kernel
theorem d_mo_isIn_110 : decode cc_mo_isIn 110 = .ok (.iload 4, 2) := by decide +kernel
theorem d_mo_isIn_112 : decode cc_mo_isIn 112 = .ok (.if_icmp .eq 14, 3) := by decide +kernel
theorem d_mo_isIn_115 : decode cc_mo_isIn 115 = .ok (.iload 8, 2) := by decide +kernel
theorem d_mo_isIn_117 : decode cc_mo_isIn 117 = .ok (.iload 7, 2) := by decide +kernel
theorem d_mo_isIn_119 : decode cc_mo_isIn 119 = .ok (.if_icmp .eq 7, 3) := by decide +kernel
theorem d_mo_isIn_122 : decode cc_mo_isIn 122 = .ok (.iconst 1, 1) := by decide +kernel
theorem d_mo_isIn_123 : decode cc_mo_isIn 123 = .ok (.goto 4, 3) := by decide +kernel
theorem d_mo_isIn_126 : decode cc_mo_isIn 126 = .ok (.iconst 0, 1) := by decide +kernel
theorem d_mo_isIn_127 : decode cc_mo_isIn 127 = .ok (.ireturn, 1) := by decide +kernel
abbrev cc_mo_isTriangle : ByteArray := prog_7_method_11_code
def yy_mo_isTriangle : MethodName := ⟨"SpotContoursModel", "isTriangle", "(III)Z"⟩
def ww_mo_isTriangle : List Cond := .code yy_mo_isTriangle cc_mo_isTriangle 6 (some .boolean) :: zz_B
theorem d_mo_isTriangle_0 : decode cc_mo_isTriangle 0 = .ok (.aload_n 0, 1) := by decide +kernel
theorem d_mo_isTriangle_1 : decode cc_mo_isTriangle 1 = .ok (.iload_n 1, 1) := by decide +kernel
theorem d_mo_isTriangle_2 : decode cc_mo_isTriangle 2 = .ok (.iload_n 2, 1) := by decide +kernel
theorem d_mo_isTriangle_3 : decode cc_mo_isTriangle 3 = .ok (.iload_n 3, 1) := by decide +kernel
theorem d_mo_isTriangle_4 : decode cc_mo_isTriangle 4 = .ok (.invokevirtual 77, 3) := by decide +kernel
theorem d_mo_isTriangle_7 : decode cc_mo_isTriangle 7 = .ok (.ifCond .ne 5, 3) := by decide +kernel
theorem d_mo_isTriangle_10 : decode cc_mo_isTriangle 10 = .ok (.iconst 0, 1) := by decide +kernel
theorem d_mo_isTriangle_11 : decode cc_mo_isTriangle 11 = .ok (.ireturn, 1) := by decide +kernel
theorem d_mo_isTriangle_12 : decode cc_mo_isTriangle 12 = .ok (.iconst 1, 1) := by decide +kernel
theorem d_mo_isTriangle_13 : decode cc_mo_isTriangle 13 = .ok (.istore 4, 2) := by decide +kernel
theorem d_mo_isTriangle_15 : decode cc_mo_isTriangle 15 = .ok (.iconst 0, 1) := by decide +kernel
theorem d_mo_isTriangle_16 : decode cc_mo_isTriangle 16 = .ok (.istore 5, 2) := by decide +kernel
theorem d_mo_isTriangle_18 : decode cc_mo_isTriangle 18 = .ok (.iload 5, 2) := by decide +kernel
theorem d_mo_isTriangle_20 : decode cc_mo_isTriangle 20 = .ok (.aload_n 0, 1) := by decide +kernel
theorem d_mo_isTriangle_21 : decode cc_mo_isTriangle 21 = .ok (.getfield 60, 3) := by decide +kernel
theorem d_mo_isTriangle_24 : decode cc_mo_isTriangle 24 = .ok (.if_icmp .ge 51, 3) := by decide +kernel
theorem d_mo_isTriangle_27 : decode cc_mo_isTriangle 27 = .ok (.iload 4, 2) := by decide +kernel
theorem d_mo_isTriangle_29 : decode cc_mo_isTriangle 29 = .ok (.ifCond .eq 46, 3) := by decide +kernel
theorem d_mo_isTriangle_32 : decode cc_mo_isTriangle 32 = .ok (.iload 5, 2) := by decide +kernel
theorem d_mo_isTriangle_34 : decode cc_mo_isTriangle 34 = .ok (.iload_n 1, 1) := by decide +kernel
theorem d_mo_isTriangle_35 : decode cc_mo_isTriangle 35 = .ok (.if_icmp .eq 27, 3) := by decide +kernel
theorem d_mo_isTriangle_38 : decode cc_mo_isTriangle 38 = .ok (.iload 5, 2) := by decide +kernel
theorem d_mo_isTriangle_40 : decode cc_mo_isTriangle 40 = .ok (.iload_n 2, 1) := by decide +kernel
theorem d_mo_isTriangle_41 : decode cc_mo_isTriangle 41 = .ok (.if_icmp .eq 21, 3) := by decide +kernel
theorem d_mo_isTriangle_44 : decode cc_mo_isTriangle 44 = .ok (.iload 5, 2) := by decide +kernel
theorem d_mo_isTriangle_46 : decode cc_mo_isTriangle 46 = .ok (.iload_n 3, 1) := by decide +kernel
theorem d_mo_isTriangle_47 : decode cc_mo_isTriangle 47 = .ok (.if_icmp .eq 15, 3) := by decide +kernel
theorem d_mo_isTriangle_50 : decode cc_mo_isTriangle 50 = .ok (.aload_n 0, 1) := by decide +kernel
theorem d_mo_isTriangle_51 : decode cc_mo_isTriangle 51 = .ok (.iload_n 1, 1) := by decide +kernel
theorem d_mo_isTriangle_52 : decode cc_mo_isTriangle 52 = .ok (.iload_n 2, 1) := by decide +kernel
theorem d_mo_isTriangle_53 : decode cc_mo_isTriangle 53 = .ok (.iload_n 3, 1) := by decide +kernel
theorem d_mo_isTriangle_54 : decode cc_mo_isTriangle 54 = .ok (.iload 5, 2) := by decide +kernel
theorem d_mo_isTriangle_56 : decode cc_mo_isTriangle 56 = .ok (.invokevirtual 89, 3) := by decide +kernel
theorem d_mo_isTriangle_59 : decode cc_mo_isTriangle 59 = .ok (.ifCond .ne 7, 3) := by decide +kernel
theorem d_mo_isTriangle_62 : decode cc_mo_isTriangle 62 = .ok (.iconst 1, 1) := by decide +kernel
theorem d_mo_isTriangle_63 : decode cc_mo_isTriangle 63 = .ok (.goto 4, 3) := by decide +kernel
theorem d_mo_isTriangle_66 : decode cc_mo_isTriangle 66 = .ok (.iconst 0, 1) := by decide +kernel
theorem d_mo_isTriangle_67 : decode cc_mo_isTriangle 67 = .ok (.istore 4, 2) := by decide +kernel
theorem d_mo_isTriangle_69 : decode cc_mo_isTriangle 69 = .ok (.iinc 5 1, 3) := by decide +kernel
theorem d_mo_isTriangle_72 : decode cc_mo_isTriangle 72 = .ok (.goto (-54), 3) := by decide +kernel
theorem d_mo_isTriangle_75 : decode cc_mo_isTriangle 75 = .ok (.iload 4, 2) := by decide +kernel
theorem d_mo_isTriangle_77 : decode cc_mo_isTriangle 77 = .ok (.ireturn, 1) := by decide +kernel
abbrev cc_mo_findTriangles : ByteArray := prog_7_method_12_code
def yy_mo_findTriangles : MethodName := ⟨"SpotContoursModel", "findTriangles", "()V"⟩
def ww_mo_findTriangles : List Cond := .code yy_mo_findTriangles cc_mo_findTriangles 4 none :: zz_B
theorem d_mo_findTriangles_0 : decode cc_mo_findTriangles 0 = .ok (.aload_n 0, 1) := by decide +kernel
theorem d_mo_findTriangles_1 : decode cc_mo_findTriangles 1 = .ok (.iconst 0, 1) := by decide +kernel
theorem d_mo_findTriangles_2 : decode cc_mo_findTriangles 2 = .ok (.putfield 92, 3) := by decide +kernel
theorem d_mo_findTriangles_5 : decode cc_mo_findTriangles 5 = .ok (.iconst 0, 1) := by decide +kernel
theorem d_mo_findTriangles_6 : decode cc_mo_findTriangles 6 = .ok (.istore_n 1, 1) := by decide +kernel
theorem d_mo_findTriangles_7 : decode cc_mo_findTriangles 7 = .ok (.iload_n 1, 1) := by decide +kernel
theorem d_mo_findTriangles_8 : decode cc_mo_findTriangles 8 = .ok (.aload_n 0, 1) := by decide +kernel
theorem d_mo_findTriangles_9 : decode cc_mo_findTriangles 9 = .ok (.getfield 60, 3) := by decide +kernel
theorem d_mo_findTriangles_12 : decode cc_mo_findTriangles 12 = .ok (.if_icmp .ge 105, 3) := by decide +kernel
theorem d_mo_findTriangles_15 : decode cc_mo_findTriangles 15 = .ok (.iload_n 1, 1) := by decide +kernel
theorem d_mo_findTriangles_16 : decode cc_mo_findTriangles 16 = .ok (.iconst 1, 1) := by decide +kernel
theorem d_mo_findTriangles_17 : decode cc_mo_findTriangles 17 = .ok (.iadd, 1) := by decide +kernel
theorem d_mo_findTriangles_18 : decode cc_mo_findTriangles 18 = .ok (.istore_n 2, 1) := by decide +kernel
theorem d_mo_findTriangles_19 : decode cc_mo_findTriangles 19 = .ok (.iload_n 2, 1) := by decide +kernel
theorem d_mo_findTriangles_20 : decode cc_mo_findTriangles 20 = .ok (.aload_n 0, 1) := by decide +kernel
theorem d_mo_findTriangles_21 : decode cc_mo_findTriangles 21 = .ok (.getfield 60, 3) := by decide +kernel
theorem d_mo_findTriangles_24 : decode cc_mo_findTriangles 24 = .ok (.if_icmp .ge 87, 3) := by decide +kernel
theorem d_mo_findTriangles_27 : decode cc_mo_findTriangles 27 = .ok (.iload_n 2, 1) := by decide +kernel
theorem d_mo_findTriangles_28 : decode cc_mo_findTriangles 28 = .ok (.iconst 1, 1) := by decide +kernel
theorem d_mo_findTriangles_29 : decode cc_mo_findTriangles 29 = .ok (.iadd, 1) := by decide +kernel
theorem d_mo_findTriangles_30 : decode cc_mo_findTriangles 30 = .ok (.istore_n 3, 1) := by decide +kernel
theorem d_mo_findTriangles_31 : decode cc_mo_findTriangles 31 = .ok (.iload_n 3, 1) := by decide +kernel
theorem d_mo_findTriangles_32 : decode cc_mo_findTriangles 32 = .ok (.aload_n 0, 1) := by decide +kernel
theorem d_mo_findTriangles_33 : decode cc_mo_findTriangles 33 = .ok (.getfield 60, 3) := by decide +kernel
theorem d_mo_findTriangles_36 : decode cc_mo_findTriangles 36 = .ok (.if_icmp .ge 69, 3) := by decide +kernel
theorem d_mo_findTriangles_39 : decode cc_mo_findTriangles 39 = .ok (.aload_n 0, 1) := by decide +kernel
theorem d_mo_findTriangles_40 : decode cc_mo_findTriangles 40 = .ok (.iload_n 1, 1) := by decide +kernel
theorem d_mo_findTriangles_41 : decode cc_mo_findTriangles 41 = .ok (.iload_n 2, 1) := by decide +kernel
theorem d_mo_findTriangles_42 : decode cc_mo_findTriangles 42 = .ok (.iload_n 3, 1) := by decide +kernel
theorem d_mo_findTriangles_43 : decode cc_mo_findTriangles 43 = .ok (.invokevirtual 95, 3) := by decide +kernel
theorem d_mo_findTriangles_46 : decode cc_mo_findTriangles 46 = .ok (.ifCond .eq 53, 3) := by decide +kernel
theorem d_mo_findTriangles_49 : decode cc_mo_findTriangles 49 = .ok (.aload_n 0, 1) := by decide +kernel
theorem d_mo_findTriangles_50 : decode cc_mo_findTriangles 50 = .ok (.getfield 19, 3) := by decide +kernel
theorem d_mo_findTriangles_53 : decode cc_mo_findTriangles 53 = .ok (.iconst 3, 1) := by decide +kernel
theorem d_mo_findTriangles_54 : decode cc_mo_findTriangles 54 = .ok (.aload_n 0, 1) := by decide +kernel
theorem d_mo_findTriangles_55 : decode cc_mo_findTriangles 55 = .ok (.getfield 92, 3) := by decide +kernel
theorem d_mo_findTriangles_58 : decode cc_mo_findTriangles 58 = .ok (.imul, 1) := by decide +kernel
theorem d_mo_findTriangles_59 : decode cc_mo_findTriangles 59 = .ok (.iload_n 1, 1) := by decide +kernel
theorem d_mo_findTriangles_60 : decode cc_mo_findTriangles 60 = .ok (.iastore, 1) := by decide +kernel
theorem d_mo_findTriangles_61 : decode cc_mo_findTriangles 61 = .ok (.aload_n 0, 1) := by decide +kernel
theorem d_mo_findTriangles_62 : decode cc_mo_findTriangles 62 = .ok (.getfield 19, 3) := by decide +kernel
theorem d_mo_findTriangles_65 : decode cc_mo_findTriangles 65 = .ok (.iconst 3, 1) := by decide +kernel
theorem d_mo_findTriangles_66 : decode cc_mo_findTriangles 66 = .ok (.aload_n 0, 1) := by decide +kernel
theorem d_mo_findTriangles_67 : decode cc_mo_findTriangles 67 = .ok (.getfield 92, 3) := by decide +kernel
theorem d_mo_findTriangles_70 : decode cc_mo_findTriangles 70 = .ok (.imul, 1) := by decide +kernel
theorem d_mo_findTriangles_71 : decode cc_mo_findTriangles 71 = .ok (.iconst 1, 1) := by decide +kernel
theorem d_mo_findTriangles_72 : decode cc_mo_findTriangles 72 = .ok (.iadd, 1) := by decide +kernel
theorem d_mo_findTriangles_73 : decode cc_mo_findTriangles 73 = .ok (.iload_n 2, 1) := by decide +kernel
theorem d_mo_findTriangles_74 : decode cc_mo_findTriangles 74 = .ok (.iastore, 1) := by decide +kernel
theorem d_mo_findTriangles_75 : decode cc_mo_findTriangles 75 = .ok (.aload_n 0, 1) := by decide +kernel
theorem d_mo_findTriangles_76 : decode cc_mo_findTriangles 76 = .ok (.getfield 19, 3) := by decide +kernel
theorem d_mo_findTriangles_79 : decode cc_mo_findTriangles 79 = .ok (.iconst 3, 1) := by decide +kernel
theorem d_mo_findTriangles_80 : decode cc_mo_findTriangles 80 = .ok (.aload_n 0, 1) := by decide +kernel
theorem d_mo_findTriangles_81 : decode cc_mo_findTriangles 81 = .ok (.getfield 92, 3) := by decide +kernel
theorem d_mo_findTriangles_84 : decode cc_mo_findTriangles 84 = .ok (.imul, 1) := by decide +kernel
theorem d_mo_findTriangles_85 : decode cc_mo_findTriangles 85 = .ok (.iconst 2, 1) := by decide +kernel
theorem d_mo_findTriangles_86 : decode cc_mo_findTriangles 86 = .ok (.iadd, 1) := by decide +kernel
theorem d_mo_findTriangles_87 : decode cc_mo_findTriangles 87 = .ok (.iload_n 3, 1) := by decide +kernel
theorem d_mo_findTriangles_88 : decode cc_mo_findTriangles 88 = .ok (.iastore, 1) := by decide +kernel
theorem d_mo_findTriangles_89 : decode cc_mo_findTriangles 89 = .ok (.aload_n 0, 1) := by decide +kernel
theorem d_mo_findTriangles_90 : decode cc_mo_findTriangles 90 = .ok (.dup, 1) := by decide +kernel
theorem d_mo_findTriangles_91 : decode cc_mo_findTriangles 91 = .ok (.getfield 92, 3) := by decide +kernel
theorem d_mo_findTriangles_94 : decode cc_mo_findTriangles 94 = .ok (.iconst 1, 1) := by decide +kernel
theorem d_mo_findTriangles_95 : decode cc_mo_findTriangles 95 = .ok (.iadd, 1) := by decide +kernel
theorem d_mo_findTriangles_96 : decode cc_mo_findTriangles 96 = .ok (.putfield 92, 3) := by decide +kernel
theorem d_mo_findTriangles_99 : decode cc_mo_findTriangles 99 = .ok (.iinc 3 1, 3) := by decide +kernel
theorem d_mo_findTriangles_102 : decode cc_mo_findTriangles 102 = .ok (.goto (-71), 3) := by decide +kernel
theorem d_mo_findTriangles_105 : decode cc_mo_findTriangles 105 = .ok (.iinc 2 1, 3) := by decide +kernel
theorem d_mo_findTriangles_108 : decode cc_mo_findTriangles 108 = .ok (.goto (-89), 3) := by decide +kernel
theorem d_mo_findTriangles_111 : decode cc_mo_findTriangles 111 = .ok (.iinc 1 1, 3) := by decide +kernel
theorem d_mo_findTriangles_114 : decode cc_mo_findTriangles 114 = .ok (.goto (-107), 3) := by decide +kernel
theorem d_mo_findTriangles_117 : decode cc_mo_findTriangles 117 = .ok (.return_, 1) := by decide +kernel
