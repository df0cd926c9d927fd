/-! Names and decode rows, printed. -/
abbrev cc_sp_size : ByteArray := prog_4_method_2_code
def yy_sp_size : MethodName := ⟨"SpotContours$Spots", "size", "()I"⟩
def ww_sp_size : List Cond := .code yy_sp_size cc_sp_size 1 (some .int) :: zz_B
theorem d_sp_size_0 : decode cc_sp_size 0 = .ok (.aload_n 0, 1) := by decide +kernel
theorem d_sp_size_1 : decode cc_sp_size 1 = .ok (.getfield 21, 3) := by decide +kernel
theorem d_sp_size_4 : decode cc_sp_size 4 = .ok (.ireturn, 1) := by decide +kernel
abbrev cc_sp_isNumber : ByteArray := prog_4_method_3_code
def yy_sp_isNumber : MethodName := ⟨"SpotContours$Spots", "isNumber", "(I)Z"⟩
def ww_sp_isNumber : List Cond := .code yy_sp_isNumber cc_sp_isNumber 2 (some .boolean) :: zz_B
theorem d_sp_isNumber_0 : decode cc_sp_isNumber 0 = .ok (.iload_n 1, 1) := by decide +kernel
theorem d_sp_isNumber_1 : decode cc_sp_isNumber 1 = .ok (.ifCond .lt 15, 3) := by decide +kernel
theorem d_sp_isNumber_4 : decode cc_sp_isNumber 4 = .ok (.iload_n 1, 1) := by decide +kernel
theorem d_sp_isNumber_5 : decode cc_sp_isNumber 5 = .ok (.aload_n 0, 1) := by decide +kernel
theorem d_sp_isNumber_6 : decode cc_sp_isNumber 6 = .ok (.getfield 21, 3) := by decide +kernel
theorem d_sp_isNumber_9 : decode cc_sp_isNumber 9 = .ok (.if_icmp .ge 7, 3) := by decide +kernel
theorem d_sp_isNumber_12 : decode cc_sp_isNumber 12 = .ok (.iconst 1, 1) := by decide +kernel
theorem d_sp_isNumber_13 : decode cc_sp_isNumber 13 = .ok (.goto 4, 3) := by decide +kernel
theorem d_sp_isNumber_16 : decode cc_sp_isNumber 16 = .ok (.iconst 0, 1) := by decide +kernel
theorem d_sp_isNumber_17 : decode cc_sp_isNumber 17 = .ok (.ireturn, 1) := by decide +kernel
abbrev cc_sp_x : ByteArray := prog_4_method_4_code
def yy_sp_x : MethodName := ⟨"SpotContours$Spots", "x", "(I)I"⟩
def ww_sp_x : List Cond := .code yy_sp_x cc_sp_x 2 (some .int) :: zz_B
theorem d_sp_x_0 : decode cc_sp_x 0 = .ok (.aload_n 0, 1) := by decide +kernel
theorem d_sp_x_1 : decode cc_sp_x 1 = .ok (.getfield 9, 3) := by decide +kernel
theorem d_sp_x_4 : decode cc_sp_x 4 = .ok (.iload_n 1, 1) := by decide +kernel
theorem d_sp_x_5 : decode cc_sp_x 5 = .ok (.iaload, 1) := by decide +kernel
theorem d_sp_x_6 : decode cc_sp_x 6 = .ok (.ireturn, 1) := by decide +kernel
abbrev cc_sp_y : ByteArray := prog_4_method_5_code
def yy_sp_y : MethodName := ⟨"SpotContours$Spots", "y", "(I)I"⟩
def ww_sp_y : List Cond := .code yy_sp_y cc_sp_y 2 (some .int) :: zz_B
theorem d_sp_y_0 : decode cc_sp_y 0 = .ok (.aload_n 0, 1) := by decide +kernel
theorem d_sp_y_1 : decode cc_sp_y 1 = .ok (.getfield 15, 3) := by decide +kernel
theorem d_sp_y_4 : decode cc_sp_y 4 = .ok (.iload_n 1, 1) := by decide +kernel
theorem d_sp_y_5 : decode cc_sp_y 5 = .ok (.iaload, 1) := by decide +kernel
theorem d_sp_y_6 : decode cc_sp_y 6 = .ok (.ireturn, 1) := by decide +kernel
abbrev cc_sp_height : ByteArray := prog_4_method_6_code
def yy_sp_height : MethodName := ⟨"SpotContours$Spots", "height", "(I)I"⟩
def ww_sp_height : List Cond := .code yy_sp_height cc_sp_height 2 (some .int) :: zz_B
theorem d_sp_height_0 : decode cc_sp_height 0 = .ok (.aload_n 0, 1) := by decide +kernel
theorem d_sp_height_1 : decode cc_sp_height 1 = .ok (.getfield 18, 3) := by decide +kernel
theorem d_sp_height_4 : decode cc_sp_height 4 = .ok (.iload_n 1, 1) := by decide +kernel
theorem d_sp_height_5 : decode cc_sp_height 5 = .ok (.iaload, 1) := by decide +kernel
theorem d_sp_height_6 : decode cc_sp_height 6 = .ok (.ireturn, 1) := by decide +kernel
abbrev cc_sp_setHeight : ByteArray := prog_4_method_7_code
def yy_sp_setHeight : MethodName := ⟨"SpotContours$Spots", "setHeight", "(II)V"⟩
def ww_sp_setHeight : List Cond := .code yy_sp_setHeight cc_sp_setHeight 3 none :: zz_B
theorem d_sp_setHeight_0 : decode cc_sp_setHeight 0 = .ok (.aload_n 0, 1) := by decide +kernel
theorem d_sp_setHeight_1 : decode cc_sp_setHeight 1 = .ok (.getfield 18, 3) := by decide +kernel
theorem d_sp_setHeight_4 : decode cc_sp_setHeight 4 = .ok (.iload_n 1, 1) := by decide +kernel
theorem d_sp_setHeight_5 : decode cc_sp_setHeight 5 = .ok (.iload_n 2, 1) := by decide +kernel
theorem d_sp_setHeight_6 : decode cc_sp_setHeight 6 = .ok (.iastore, 1) := by decide +kernel
theorem d_sp_setHeight_7 : decode cc_sp_setHeight 7 = .ok (.return_, 1) := by decide +kernel
abbrev cc_sp_isTaken : ByteArray := prog_4_method_8_code
def yy_sp_isTaken : MethodName := ⟨"SpotContours$Spots", "isTaken", "(II)Z"⟩
def ww_sp_isTaken : List Cond := .code yy_sp_isTaken cc_sp_isTaken 4 (some .boolean) :: zz_B
theorem d_sp_isTaken_0 : decode cc_sp_isTaken 0 = .ok (.iconst 0, 1) := by decide +kernel
theorem d_sp_isTaken_1 : decode cc_sp_isTaken 1 = .ok (.istore_n 3, 1) := by decide +kernel
theorem d_sp_isTaken_2 : decode cc_sp_isTaken 2 = .ok (.iload_n 3, 1) := by decide +kernel
theorem d_sp_isTaken_3 : decode cc_sp_isTaken 3 = .ok (.aload_n 0, 1) := by decide +kernel
theorem d_sp_isTaken_4 : decode cc_sp_isTaken 4 = .ok (.getfield 21, 3) := by decide +kernel
theorem d_sp_isTaken_7 : decode cc_sp_isTaken 7 = .ok (.if_icmp .ge 31, 3) := by decide +kernel
theorem d_sp_isTaken_10 : decode cc_sp_isTaken 10 = .ok (.aload_n 0, 1) := by decide +kernel
theorem d_sp_isTaken_11 : decode cc_sp_isTaken 11 = .ok (.getfield 9, 3) := by decide +kernel
theorem d_sp_isTaken_14 : decode cc_sp_isTaken 14 = .ok (.iload_n 3, 1) := by decide +kernel
theorem d_sp_isTaken_15 : decode cc_sp_isTaken 15 = .ok (.iaload, 1) := by decide +kernel
theorem d_sp_isTaken_16 : decode cc_sp_isTaken 16 = .ok (.iload_n 1, 1) := by decide +kernel
theorem d_sp_isTaken_17 : decode cc_sp_isTaken 17 = .ok (.if_icmp .ne 15, 3) := by decide +kernel
theorem d_sp_isTaken_20 : decode cc_sp_isTaken 20 = .ok (.aload_n 0, 1) := by decide +kernel
theorem d_sp_isTaken_21 : decode cc_sp_isTaken 21 = .ok (.getfield 15, 3) := by decide +kernel
theorem d_sp_isTaken_24 : decode cc_sp_isTaken 24 = .ok (.iload_n 3, 1) := by decide +kernel
theorem d_sp_isTaken_25 : decode cc_sp_isTaken 25 = .ok (.iaload, 1) := by decide +kernel
theorem d_sp_isTaken_26 : decode cc_sp_isTaken 26 = .ok (.iload_n 2, 1) := by decide +kernel
theorem d_sp_isTaken_27 : decode cc_sp_isTaken 27 = .ok (.if_icmp .ne 5, 3) := by decide +kernel
theorem d_sp_isTaken_30 : decode cc_sp_isTaken 30 = .ok (.iconst 1, 1) := by decide +kernel
theorem d_sp_isTaken_31 : decode cc_sp_isTaken 31 = .ok (.ireturn, 1) := by decide +kernel
theorem d_sp_isTaken_32 : decode cc_sp_isTaken 32 = .ok (.iinc 3 1, 3) := by decide +kernel
theorem d_sp_isTaken_35 : decode cc_sp_isTaken 35 = .ok (.goto (-33), 3) := by decide +kernel
theorem d_sp_isTaken_38 : decode cc_sp_isTaken 38 = .ok (.iconst 0, 1) := by decide +kernel
theorem d_sp_isTaken_39 : decode cc_sp_isTaken 39 = .ok (.ireturn, 1) := by decide +kernel
abbrev cc_sp_add : ByteArray := prog_4_method_9_code
def yy_sp_add : MethodName := ⟨"SpotContours$Spots", "add", "(III)I"⟩
def ww_sp_add : List Cond := .code yy_sp_add cc_sp_add 4 (some .int) :: zz_B
theorem d_sp_add_0 : decode cc_sp_add 0 = .ok (.aload_n 0, 1) := by decide +kernel
theorem d_sp_add_1 : decode cc_sp_add 1 = .ok (.getfield 9, 3) := by decide +kernel
theorem d_sp_add_4 : decode cc_sp_add 4 = .ok (.aload_n 0, 1) := by decide +kernel
theorem d_sp_add_5 : decode cc_sp_add 5 = .ok (.getfield 21, 3) := by decide +kernel
theorem d_sp_add_8 : decode cc_sp_add 8 = .ok (.iload_n 1, 1) := by decide +kernel
theorem d_sp_add_9 : decode cc_sp_add 9 = .ok (.iastore, 1) := by decide +kernel
theorem d_sp_add_10 : decode cc_sp_add 10 = .ok (.aload_n 0, 1) := by decide +kernel
theorem d_sp_add_11 : decode cc_sp_add 11 = .ok (.getfield 15, 3) := by decide +kernel
theorem d_sp_add_14 : decode cc_sp_add 14 = .ok (.aload_n 0, 1) := by decide +kernel
theorem d_sp_add_15 : decode cc_sp_add 15 = .ok (.getfield 21, 3) := by decide +kernel
theorem d_sp_add_18 : decode cc_sp_add 18 = .ok (.iload_n 2, 1) := by decide +kernel
theorem d_sp_add_19 : decode cc_sp_add 19 = .ok (.iastore, 1) := by decide +kernel
theorem d_sp_add_20 : decode cc_sp_add 20 = .ok (.aload_n 0, 1) := by decide +kernel
theorem d_sp_add_21 : decode cc_sp_add 21 = .ok (.getfield 18, 3) := by decide +kernel
theorem d_sp_add_24 : decode cc_sp_add 24 = .ok (.aload_n 0, 1) := by decide +kernel
theorem d_sp_add_25 : decode cc_sp_add 25 = .ok (.getfield 21, 3) := by decide +kernel
theorem d_sp_add_28 : decode cc_sp_add 28 = .ok (.iload_n 3, 1) := by decide +kernel
theorem d_sp_add_29 : decode cc_sp_add 29 = .ok (.iastore, 1) := by decide +kernel
theorem d_sp_add_30 : decode cc_sp_add 30 = .ok (.aload_n 0, 1) := by decide +kernel
theorem d_sp_add_31 : decode cc_sp_add 31 = .ok (.dup, 1) := by decide +kernel
theorem d_sp_add_32 : decode cc_sp_add 32 = .ok (.getfield 21, 3) := by decide +kernel
theorem d_sp_add_35 : decode cc_sp_add 35 = .ok (.iconst 1, 1) := by decide +kernel
theorem d_sp_add_36 : decode cc_sp_add 36 = .ok (.iadd, 1) := by decide +kernel
theorem d_sp_add_37 : decode cc_sp_add 37 = .ok (.putfield 21, 3) := by decide +kernel
theorem d_sp_add_40 : decode cc_sp_add 40 = .ok (.aload_n 0, 1) := by decide +kernel
theorem d_sp_add_41 : decode cc_sp_add 41 = .ok (.getfield 21, 3) := by decide +kernel
theorem d_sp_add_44 : decode cc_sp_add 44 = .ok (.iconst 1, 1) := by decide +kernel
theorem d_sp_add_45 : decode cc_sp_add 45 = .ok (.isub, 1) := by decide +kernel
theorem d_sp_add_46 : decode cc_sp_add 46 = .ok (.ireturn, 1) := by decide +kernel
abbrev cc_sp_turn : ByteArray := prog_4_method_10_code
def yy_sp_turn : MethodName := ⟨"SpotContours$Spots", "turn", "(III)I"⟩
def ww_sp_turn : List Cond := .code yy_sp_turn cc_sp_turn 4 (some .int) :: zz_B
theorem d_sp_turn_0 : decode cc_sp_turn 0 = .ok (.aload_n 0, 1) := by decide +kernel
theorem d_sp_turn_1 : decode cc_sp_turn 1 = .ok (.iload_n 1, 1) := by decide +kernel
theorem d_sp_turn_2 : decode cc_sp_turn 2 = .ok (.iload_n 2, 1) := by decide +kernel
theorem d_sp_turn_3 : decode cc_sp_turn 3 = .ok (.aload_n 0, 1) := by decide +kernel
theorem d_sp_turn_4 : decode cc_sp_turn 4 = .ok (.getfield 9, 3) := by decide +kernel
theorem d_sp_turn_7 : decode cc_sp_turn 7 = .ok (.iload_n 3, 1) := by decide +kernel
theorem d_sp_turn_8 : decode cc_sp_turn 8 = .ok (.iaload, 1) := by decide +kernel
theorem d_sp_turn_9 : decode cc_sp_turn 9 = .ok (.aload_n 0, 1) := by decide +kernel
theorem d_sp_turn_10 : decode cc_sp_turn 10 = .ok (.getfield 15, 3) := by decide +kernel
theorem d_sp_turn_13 : decode cc_sp_turn 13 = .ok (.iload_n 3, 1) := by decide +kernel
theorem d_sp_turn_14 : decode cc_sp_turn 14 = .ok (.iaload, 1) := by decide +kernel
theorem d_sp_turn_15 : decode cc_sp_turn 15 = .ok (.invokevirtual 25, 3) := by decide +kernel
theorem d_sp_turn_18 : decode cc_sp_turn 18 = .ok (.ireturn, 1) := by decide +kernel
abbrev cc_sp_turnTo : ByteArray := prog_4_method_11_code
def yy_sp_turnTo : MethodName := ⟨"SpotContours$Spots", "turnTo", "(IIII)I"⟩
def ww_sp_turnTo : List Cond := .code yy_sp_turnTo cc_sp_turnTo 5 (some .int) :: zz_B
theorem d_sp_turnTo_0 : decode cc_sp_turnTo 0 = .ok (.aload_n 0, 1) := by decide +kernel
theorem d_sp_turnTo_1 : decode cc_sp_turnTo 1 = .ok (.getfield 9, 3) := by decide +kernel
theorem d_sp_turnTo_4 : decode cc_sp_turnTo 4 = .ok (.iload_n 2, 1) := by decide +kernel
theorem d_sp_turnTo_5 : decode cc_sp_turnTo 5 = .ok (.iaload, 1) := by decide +kernel
theorem d_sp_turnTo_6 : decode cc_sp_turnTo 6 = .ok (.aload_n 0, 1) := by decide +kernel
theorem d_sp_turnTo_7 : decode cc_sp_turnTo 7 = .ok (.getfield 9, 3) := by decide +kernel
theorem d_sp_turnTo_10 : decode cc_sp_turnTo 10 = .ok (.iload_n 1, 1) := by decide +kernel
theorem d_sp_turnTo_11 : decode cc_sp_turnTo 11 = .ok (.iaload, 1) := by decide +kernel
theorem d_sp_turnTo_12 : decode cc_sp_turnTo 12 = .ok (.isub, 1) := by decide +kernel
theorem d_sp_turnTo_13 : decode cc_sp_turnTo 13 = .ok (.iload 4, 2) := by decide +kernel
theorem d_sp_turnTo_15 : decode cc_sp_turnTo 15 = .ok (.aload_n 0, 1) := by decide +kernel
theorem d_sp_turnTo_16 : decode cc_sp_turnTo 16 = .ok (.getfield 15, 3) := by decide +kernel
theorem d_sp_turnTo_19 : decode cc_sp_turnTo 19 = .ok (.iload_n 1, 1) := by decide +kernel
theorem d_sp_turnTo_20 : decode cc_sp_turnTo 20 = .ok (.iaload, 1) := by decide +kernel
theorem d_sp_turnTo_21 : decode cc_sp_turnTo 21 = .ok (.isub, 1) := by decide +kernel
theorem d_sp_turnTo_22 : decode cc_sp_turnTo 22 = .ok (.imul, 1) := by decide +kernel
theorem d_sp_turnTo_23 : decode cc_sp_turnTo 23 = .ok (.aload_n 0, 1) := by decide +kernel
theorem d_sp_turnTo_24 : decode cc_sp_turnTo 24 = .ok (.getfield 15, 3) := by decide +kernel
theorem d_sp_turnTo_27 : decode cc_sp_turnTo 27 = .ok (.iload_n 2, 1) := by decide +kernel
theorem d_sp_turnTo_28 : decode cc_sp_turnTo 28 = .ok (.iaload, 1) := by decide +kernel
theorem d_sp_turnTo_29 : decode cc_sp_turnTo 29 = .ok (.aload_n 0, 1) := by decide +kernel
theorem d_sp_turnTo_30 : decode cc_sp_turnTo 30 = .ok (.getfield 15, 3) := by decide +kernel
theorem d_sp_turnTo_33 : decode cc_sp_turnTo 33 = .ok (.iload_n 1, 1) := by decide +kernel
theorem d_sp_turnTo_34 : decode cc_sp_turnTo 34 = .ok (.iaload, 1) := by decide +kernel
theorem d_sp_turnTo_35 : decode cc_sp_turnTo 35 = .ok (.isub, 1) := by decide +kernel
theorem d_sp_turnTo_36 : decode cc_sp_turnTo 36 = .ok (.iload_n 3, 1) := by decide +kernel
theorem d_sp_turnTo_37 : decode cc_sp_turnTo 37 = .ok (.aload_n 0, 1) := by decide +kernel
theorem d_sp_turnTo_38 : decode cc_sp_turnTo 38 = .ok (.getfield 9, 3) := by decide +kernel
theorem d_sp_turnTo_41 : decode cc_sp_turnTo 41 = .ok (.iload_n 1, 1) := by decide +kernel
theorem d_sp_turnTo_42 : decode cc_sp_turnTo 42 = .ok (.iaload, 1) := by decide +kernel
theorem d_sp_turnTo_43 : decode cc_sp_turnTo 43 = .ok (.isub, 1) := by decide +kernel
theorem d_sp_turnTo_44 : decode cc_sp_turnTo 44 = .ok (.imul, 1) := by decide +kernel
theorem d_sp_turnTo_45 : decode cc_sp_turnTo 45 = .ok (.isub, 1) := by decide +kernel
theorem d_sp_turnTo_46 : decode cc_sp_turnTo 46 = .ok (.ireturn, 1) := by decide +kernel
abbrev cc_sp_isInCircle : ByteArray := prog_4_method_12_code
def yy_sp_isInCircle : MethodName := ⟨"SpotContours$Spots", "isInCircle", "(IIII)Z"⟩
def ww_sp_isInCircle : List Cond := .code yy_sp_isInCircle cc_sp_isInCircle 7 (some .boolean) :: zz_B
theorem d_sp_isInCircle_0 : decode cc_sp_isInCircle 0 = .ok (.aload_n 0, 1) := by decide +kernel
theorem d_sp_isInCircle_1 : decode cc_sp_isInCircle 1 = .ok (.iload_n 1, 1) := by decide +kernel
theorem d_sp_isInCircle_2 : decode cc_sp_isInCircle 2 = .ok (.iload_n 2, 1) := by decide +kernel
theorem d_sp_isInCircle_3 : decode cc_sp_isInCircle 3 = .ok (.iload_n 3, 1) := by decide +kernel
theorem d_sp_isInCircle_4 : decode cc_sp_isInCircle 4 = .ok (.iload 4, 2) := by decide +kernel
theorem d_sp_isInCircle_6 : decode cc_sp_isInCircle 6 = .ok (.invokevirtual 29, 3) := by decide +kernel
theorem d_sp_isInCircle_9 : decode cc_sp_isInCircle 9 = .ok (.lstore 5, 2) := by decide +kernel
theorem d_sp_isInCircle_11 : decode cc_sp_isInCircle 11 = .ok (.lload 5, 2) := by decide +kernel
theorem d_sp_isInCircle_13 : decode cc_sp_isInCircle 13 = .ok (.lconst 0, 1) := by decide +kernel
theorem d_sp_isInCircle_14 : decode cc_sp_isInCircle 14 = .ok (.lcmp, 1) := by decide +kernel
theorem d_sp_isInCircle_15 : decode cc_sp_isInCircle 15 = .ok (.ifCond .eq 16, 3) := by decide +kernel
theorem d_sp_isInCircle_18 : decode cc_sp_isInCircle 18 = .ok (.lload 5, 2) := by decide +kernel
theorem d_sp_isInCircle_20 : decode cc_sp_isInCircle 20 = .ok (.lconst 0, 1) := by decide +kernel
theorem d_sp_isInCircle_21 : decode cc_sp_isInCircle 21 = .ok (.lcmp, 1) := by decide +kernel
theorem d_sp_isInCircle_22 : decode cc_sp_isInCircle 22 = .ok (.ifCond .le 7, 3) := by decide +kernel
theorem d_sp_isInCircle_25 : decode cc_sp_isInCircle 25 = .ok (.iconst 1, 1) := by decide +kernel
theorem d_sp_isInCircle_26 : decode cc_sp_isInCircle 26 = .ok (.goto 4, 3) := by decide +kernel
theorem d_sp_isInCircle_29 : decode cc_sp_isInCircle 29 = .ok (.iconst 0, 1) := by decide +kernel
theorem d_sp_isInCircle_30 : decode cc_sp_isInCircle 30 = .ok (.ireturn, 1) := by decide +kernel
theorem d_sp_isInCircle_31 : decode cc_sp_isInCircle 31 = .ok (.iload_n 1, 1) := by decide +kernel
theorem d_sp_isInCircle_32 : decode cc_sp_isInCircle 32 = .ok (.iload 4, 2) := by decide +kernel
theorem d_sp_isInCircle_34 : decode cc_sp_isInCircle 34 = .ok (.if_icmp .ge 19, 3) := by decide +kernel
theorem d_sp_isInCircle_37 : decode cc_sp_isInCircle 37 = .ok (.aload_n 0, 1) := by decide +kernel
theorem d_sp_isInCircle_38 : decode cc_sp_isInCircle 38 = .ok (.iload_n 1, 1) := by decide +kernel
theorem d_sp_isInCircle_39 : decode cc_sp_isInCircle 39 = .ok (.iload 4, 2) := by decide +kernel
theorem d_sp_isInCircle_41 : decode cc_sp_isInCircle 41 = .ok (.iload_n 2, 1) := by decide +kernel
theorem d_sp_isInCircle_42 : decode cc_sp_isInCircle 42 = .ok (.iload_n 3, 1) := by decide +kernel
theorem d_sp_isInCircle_43 : decode cc_sp_isInCircle 43 = .ok (.invokevirtual 33, 3) := by decide +kernel
theorem d_sp_isInCircle_46 : decode cc_sp_isInCircle 46 = .ok (.ifCond .ne 7, 3) := by decide +kernel
theorem d_sp_isInCircle_49 : decode cc_sp_isInCircle 49 = .ok (.iconst 1, 1) := by decide +kernel
theorem d_sp_isInCircle_50 : decode cc_sp_isInCircle 50 = .ok (.goto 4, 3) := by decide +kernel
theorem d_sp_isInCircle_53 : decode cc_sp_isInCircle 53 = .ok (.iconst 0, 1) := by decide +kernel
theorem d_sp_isInCircle_54 : decode cc_sp_isInCircle 54 = .ok (.ireturn, 1) := by decide +kernel
abbrev cc_sp_depthInCircle : ByteArray := prog_4_method_13_code
def yy_sp_depthInCircle : MethodName := ⟨"SpotContours$Spots", "depthInCircle", "(IIII)J"⟩
def ww_sp_depthInCircle : List Cond := .code yy_sp_depthInCircle cc_sp_depthInCircle 7 (some .long) :: zz_B
theorem d_sp_depthInCircle_0 : decode cc_sp_depthInCircle 0 = .ok (.aload_n 0, 1) := by decide +kernel
theorem d_sp_depthInCircle_1 : decode cc_sp_depthInCircle 1 = .ok (.iload 4, 2) := by decide +kernel
theorem d_sp_depthInCircle_3 : decode cc_sp_depthInCircle 3 = .ok (.iload_n 1, 1) := by decide +kernel
theorem d_sp_depthInCircle_4 : decode cc_sp_depthInCircle 4 = .ok (.invokevirtual 37, 3) := by decide +kernel
theorem d_sp_depthInCircle_7 : decode cc_sp_depthInCircle 7 = .ok (.aload_n 0, 1) := by decide +kernel
theorem d_sp_depthInCircle_8 : decode cc_sp_depthInCircle 8 = .ok (.iload 4, 2) := by decide +kernel
theorem d_sp_depthInCircle_10 : decode cc_sp_depthInCircle 10 = .ok (.iload_n 2, 1) := by decide +kernel
theorem d_sp_depthInCircle_11 : decode cc_sp_depthInCircle 11 = .ok (.iload_n 3, 1) := by decide +kernel
theorem d_sp_depthInCircle_12 : decode cc_sp_depthInCircle 12 = .ok (.invokevirtual 41, 3) := by decide +kernel
theorem d_sp_depthInCircle_15 : decode cc_sp_depthInCircle 15 = .ok (.i2l, 1) := by decide +kernel
theorem d_sp_depthInCircle_16 : decode cc_sp_depthInCircle 16 = .ok (.lmul, 1) := by decide +kernel
theorem d_sp_depthInCircle_17 : decode cc_sp_depthInCircle 17 = .ok (.aload_n 0, 1) := by decide +kernel
theorem d_sp_depthInCircle_18 : decode cc_sp_depthInCircle 18 = .ok (.iload 4, 2) := by decide +kernel
theorem d_sp_depthInCircle_20 : decode cc_sp_depthInCircle 20 = .ok (.iload_n 2, 1) := by decide +kernel
theorem d_sp_depthInCircle_21 : decode cc_sp_depthInCircle 21 = .ok (.invokevirtual 37, 3) := by decide +kernel
theorem d_sp_depthInCircle_24 : decode cc_sp_depthInCircle 24 = .ok (.aload_n 0, 1) := by decide +kernel
theorem d_sp_depthInCircle_25 : decode cc_sp_depthInCircle 25 = .ok (.iload 4, 2) := by decide +kernel
theorem d_sp_depthInCircle_27 : decode cc_sp_depthInCircle 27 = .ok (.iload_n 1, 1) := by decide +kernel
theorem d_sp_depthInCircle_28 : decode cc_sp_depthInCircle 28 = .ok (.iload_n 3, 1) := by decide +kernel
theorem d_sp_depthInCircle_29 : decode cc_sp_depthInCircle 29 = .ok (.invokevirtual 41, 3) := by decide +kernel
theorem d_sp_depthInCircle_32 : decode cc_sp_depthInCircle 32 = .ok (.i2l, 1) := by decide +kernel
theorem d_sp_depthInCircle_33 : decode cc_sp_depthInCircle 33 = .ok (.lmul, 1) := by decide +kernel
theorem d_sp_depthInCircle_34 : decode cc_sp_depthInCircle 34 = .ok (.lsub, 1) := by decide +kernel
theorem d_sp_depthInCircle_35 : decode cc_sp_depthInCircle 35 = .ok (.aload_n 0, 1) := by decide +kernel
theorem d_sp_depthInCircle_36 : decode cc_sp_depthInCircle 36 = .ok (.iload 4, 2) := by decide +kernel
theorem d_sp_depthInCircle_38 : decode cc_sp_depthInCircle 38 = .ok (.iload_n 3, 1) := by decide +kernel
theorem d_sp_depthInCircle_39 : decode cc_sp_depthInCircle 39 = .ok (.invokevirtual 37, 3) := by decide +kernel
theorem d_sp_depthInCircle_42 : decode cc_sp_depthInCircle 42 = .ok (.aload_n 0, 1) := by decide +kernel
theorem d_sp_depthInCircle_43 : decode cc_sp_depthInCircle 43 = .ok (.iload 4, 2) := by decide +kernel
theorem d_sp_depthInCircle_45 : decode cc_sp_depthInCircle 45 = .ok (.iload_n 1, 1) := by decide +kernel
theorem d_sp_depthInCircle_46 : decode cc_sp_depthInCircle 46 = .ok (.iload_n 2, 1) := by decide +kernel
theorem d_sp_depthInCircle_47 : decode cc_sp_depthInCircle 47 = .ok (.invokevirtual 41, 3) := by decide +kernel
theorem d_sp_depthInCircle_50 : decode cc_sp_depthInCircle 50 = .ok (.i2l, 1) := by decide +kernel
theorem d_sp_depthInCircle_51 : decode cc_sp_depthInCircle 51 = .ok (.lmul, 1) := by decide +kernel
theorem d_sp_depthInCircle_52 : decode cc_sp_depthInCircle 52 = .ok (.ladd, 1) := by decide +kernel
theorem d_sp_depthInCircle_53 : decode cc_sp_depthInCircle 53 = .ok (.lstore 5, 2) := by decide +kernel
theorem d_sp_depthInCircle_55 : decode cc_sp_depthInCircle 55 = .ok (.aload_n 0, 1) := by decide +kernel
theorem d_sp_depthInCircle_56 : decode cc_sp_depthInCircle 56 = .ok (.iload_n 1, 1) := by decide +kernel
theorem d_sp_depthInCircle_57 : decode cc_sp_depthInCircle 57 = .ok (.iload_n 2, 1) := by decide +kernel
theorem d_sp_depthInCircle_58 : decode cc_sp_depthInCircle 58 = .ok (.iload_n 3, 1) := by decide +kernel
theorem d_sp_depthInCircle_59 : decode cc_sp_depthInCircle 59 = .ok (.invokevirtual 41, 3) := by decide +kernel
theorem d_sp_depthInCircle_62 : decode cc_sp_depthInCircle 62 = .ok (.ifCond .le 8, 3) := by decide +kernel
theorem d_sp_depthInCircle_65 : decode cc_sp_depthInCircle 65 = .ok (.lload 5, 2) := by decide +kernel
theorem d_sp_depthInCircle_67 : decode cc_sp_depthInCircle 67 = .ok (.goto 6, 3) := by decide +kernel
theorem d_sp_depthInCircle_70 : decode cc_sp_depthInCircle 70 = .ok (.lload 5, 2) := by decide +kernel
theorem d_sp_depthInCircle_72 : decode cc_sp_depthInCircle 72 = .ok (.lneg, 1) := by decide +kernel
theorem d_sp_depthInCircle_73 : decode cc_sp_depthInCircle 73 = .ok (.lreturn, 1) := by decide +kernel
abbrev cc_sp_squareFrom : ByteArray := prog_4_method_14_code
def yy_sp_squareFrom : MethodName := ⟨"SpotContours$Spots", "squareFrom", "(II)J"⟩
def ww_sp_squareFrom : List Cond := .code yy_sp_squareFrom cc_sp_squareFrom 7 (some .long) :: zz_B
theorem d_sp_squareFrom_0 : decode cc_sp_squareFrom 0 = .ok (.aload_n 0, 1) := by decide +kernel
theorem d_sp_squareFrom_1 : decode cc_sp_squareFrom 1 = .ok (.getfield 9, 3) := by decide +kernel
theorem d_sp_squareFrom_4 : decode cc_sp_squareFrom 4 = .ok (.iload_n 2, 1) := by decide +kernel
theorem d_sp_squareFrom_5 : decode cc_sp_squareFrom 5 = .ok (.iaload, 1) := by decide +kernel
theorem d_sp_squareFrom_6 : decode cc_sp_squareFrom 6 = .ok (.aload_n 0, 1) := by decide +kernel
theorem d_sp_squareFrom_7 : decode cc_sp_squareFrom 7 = .ok (.getfield 9, 3) := by decide +kernel
theorem d_sp_squareFrom_10 : decode cc_sp_squareFrom 10 = .ok (.iload_n 1, 1) := by decide +kernel
theorem d_sp_squareFrom_11 : decode cc_sp_squareFrom 11 = .ok (.iaload, 1) := by decide +kernel
theorem d_sp_squareFrom_12 : decode cc_sp_squareFrom 12 = .ok (.isub, 1) := by decide +kernel
theorem d_sp_squareFrom_13 : decode cc_sp_squareFrom 13 = .ok (.i2l, 1) := by decide +kernel
theorem d_sp_squareFrom_14 : decode cc_sp_squareFrom 14 = .ok (.lstore_n 3, 1) := by decide +kernel
theorem d_sp_squareFrom_15 : decode cc_sp_squareFrom 15 = .ok (.aload_n 0, 1) := by decide +kernel
theorem d_sp_squareFrom_16 : decode cc_sp_squareFrom 16 = .ok (.getfield 15, 3) := by decide +kernel
theorem d_sp_squareFrom_19 : decode cc_sp_squareFrom 19 = .ok (.iload_n 2, 1) := by decide +kernel
theorem d_sp_squareFrom_20 : decode cc_sp_squareFrom 20 = .ok (.iaload, 1) := by decide +kernel
theorem d_sp_squareFrom_21 : decode cc_sp_squareFrom 21 = .ok (.aload_n 0, 1) := by decide +kernel
theorem d_sp_squareFrom_22 : decode cc_sp_squareFrom 22 = .ok (.getfield 15, 3) := by decide +kernel
theorem d_sp_squareFrom_25 : decode cc_sp_squareFrom 25 = .ok (.iload_n 1, 1) := by decide +kernel
theorem d_sp_squareFrom_26 : decode cc_sp_squareFrom 26 = .ok (.iaload, 1) := by decide +kernel
theorem d_sp_squareFrom_27 : decode cc_sp_squareFrom 27 = .ok (.isub, 1) := by decide +kernel
theorem d_sp_squareFrom_28 : decode cc_sp_squareFrom 28 = .ok (.i2l, 1) := by decide +kernel
theorem d_sp_squareFrom_29 : decode cc_sp_squareFrom 29 = .ok (.lstore 5, 2) := by decide +kernel
theorem d_sp_squareFrom_31 : decode cc_sp_squareFrom 31 = .ok (.lload_n 3, 1) := by decide +kernel
theorem d_sp_squareFrom_32 : decode cc_sp_squareFrom 32 = .ok (.lload_n 3, 1) := by decide +kernel
theorem d_sp_squareFrom_33 : decode cc_sp_squareFrom 33 = .ok (.lmul, 1) := by decide +kernel
theorem d_sp_squareFrom_34 : decode cc_sp_squareFrom 34 = .ok (.lload 5, 2) := by decide +kernel
theorem d_sp_squareFrom_36 : decode cc_sp_squareFrom 36 = .ok (.lload 5, 2) := by decide +kernel
theorem d_sp_squareFrom_38 : decode cc_sp_squareFrom 38 = .ok (.lmul, 1) := by decide +kernel
theorem d_sp_squareFrom_39 : decode cc_sp_squareFrom 39 = .ok (.ladd, 1) := by decide +kernel
theorem d_sp_squareFrom_40 : decode cc_sp_squareFrom 40 = .ok (.lreturn, 1) := by decide +kernel
abbrev cc_sp_areOpposite : ByteArray := prog_4_method_15_code
def yy_sp_areOpposite : MethodName := ⟨"SpotContours$Spots", "areOpposite", "(IIII)Z"⟩
def ww_sp_areOpposite : List Cond := .code yy_sp_areOpposite cc_sp_areOpposite 5 (some .boolean) :: zz_B
theorem d_sp_areOpposite_0 : decode cc_sp_areOpposite 0 = .ok (.aload_n 0, 1) := by decide +kernel
theorem d_sp_areOpposite_1 : decode cc_sp_areOpposite 1 = .ok (.iload_n 1, 1) := by decide +kernel
theorem d_sp_areOpposite_2 : decode cc_sp_areOpposite 2 = .ok (.iload_n 2, 1) := by decide +kernel
theorem d_sp_areOpposite_3 : decode cc_sp_areOpposite 3 = .ok (.iload_n 3, 1) := by decide +kernel
theorem d_sp_areOpposite_4 : decode cc_sp_areOpposite 4 = .ok (.invokevirtual 41, 3) := by decide +kernel
theorem d_sp_areOpposite_7 : decode cc_sp_areOpposite 7 = .ok (.ifCond .le 7, 3) := by decide +kernel
theorem d_sp_areOpposite_10 : decode cc_sp_areOpposite 10 = .ok (.iconst 1, 1) := by decide +kernel
theorem d_sp_areOpposite_11 : decode cc_sp_areOpposite 11 = .ok (.goto 4, 3) := by decide +kernel
theorem d_sp_areOpposite_14 : decode cc_sp_areOpposite 14 = .ok (.iconst 0, 1) := by decide +kernel
theorem d_sp_areOpposite_15 : decode cc_sp_areOpposite 15 = .ok (.aload_n 0, 1) := by decide +kernel
theorem d_sp_areOpposite_16 : decode cc_sp_areOpposite 16 = .ok (.iload_n 1, 1) := by decide +kernel
theorem d_sp_areOpposite_17 : decode cc_sp_areOpposite 17 = .ok (.iload_n 2, 1) := by decide +kernel
theorem d_sp_areOpposite_18 : decode cc_sp_areOpposite 18 = .ok (.iload 4, 2) := by decide +kernel
theorem d_sp_areOpposite_20 : decode cc_sp_areOpposite 20 = .ok (.invokevirtual 41, 3) := by decide +kernel
theorem d_sp_areOpposite_23 : decode cc_sp_areOpposite 23 = .ok (.ifCond .le 7, 3) := by decide +kernel
theorem d_sp_areOpposite_26 : decode cc_sp_areOpposite 26 = .ok (.iconst 1, 1) := by decide +kernel
theorem d_sp_areOpposite_27 : decode cc_sp_areOpposite 27 = .ok (.goto 4, 3) := by decide +kernel
theorem d_sp_areOpposite_30 : decode cc_sp_areOpposite 30 = .ok (.iconst 0, 1) := by decide +kernel
theorem d_sp_areOpposite_31 : decode cc_sp_areOpposite 31 = .ok (.if_icmp .eq 7, 3) := by decide +kernel
theorem d_sp_areOpposite_34 : decode cc_sp_areOpposite 34 = .ok (.iconst 1, 1) := by decide +kernel
theorem d_sp_areOpposite_35 : decode cc_sp_areOpposite 35 = .ok (.goto 4, 3) := by decide +kernel
theorem d_sp_areOpposite_38 : decode cc_sp_areOpposite 38 = .ok (.iconst 0, 1) := by decide +kernel
theorem d_sp_areOpposite_39 : decode cc_sp_areOpposite 39 = .ok (.ireturn, 1) := by decide +kernel
abbrev cc_sp_crossingX : ByteArray := prog_4_method_16_code
def yy_sp_crossingX : MethodName := ⟨"SpotContours$Spots", "crossingX", "(II)I"⟩
def ww_sp_crossingX : List Cond := .code yy_sp_crossingX cc_sp_crossingX 3 (some .int) :: zz_B
theorem d_sp_crossingX_0 : decode cc_sp_crossingX 0 = .ok (.aload_n 0, 1) := by decide +kernel
theorem d_sp_crossingX_1 : decode cc_sp_crossingX 1 = .ok (.aload_n 0, 1) := by decide +kernel
theorem d_sp_crossingX_2 : decode cc_sp_crossingX 2 = .ok (.getfield 9, 3) := by decide +kernel
theorem d_sp_crossingX_5 : decode cc_sp_crossingX 5 = .ok (.iload_n 1, 1) := by decide +kernel
theorem d_sp_crossingX_6 : decode cc_sp_crossingX 6 = .ok (.iload_n 2, 1) := by decide +kernel
theorem d_sp_crossingX_7 : decode cc_sp_crossingX 7 = .ok (.invokevirtual 45, 3) := by decide +kernel
theorem d_sp_crossingX_10 : decode cc_sp_crossingX 10 = .ok (.ireturn, 1) := by decide +kernel
abbrev cc_sp_crossingY : ByteArray := prog_4_method_17_code
def yy_sp_crossingY : MethodName := ⟨"SpotContours$Spots", "crossingY", "(II)I"⟩
def ww_sp_crossingY : List Cond := .code yy_sp_crossingY cc_sp_crossingY 3 (some .int) :: zz_B
theorem d_sp_crossingY_0 : decode cc_sp_crossingY 0 = .ok (.aload_n 0, 1) := by decide +kernel
theorem d_sp_crossingY_1 : decode cc_sp_crossingY 1 = .ok (.aload_n 0, 1) := by decide +kernel
theorem d_sp_crossingY_2 : decode cc_sp_crossingY 2 = .ok (.getfield 15, 3) := by decide +kernel
theorem d_sp_crossingY_5 : decode cc_sp_crossingY 5 = .ok (.iload_n 1, 1) := by decide +kernel
theorem d_sp_crossingY_6 : decode cc_sp_crossingY 6 = .ok (.iload_n 2, 1) := by decide +kernel
theorem d_sp_crossingY_7 : decode cc_sp_crossingY 7 = .ok (.invokevirtual 45, 3) := by decide +kernel
theorem d_sp_crossingY_10 : decode cc_sp_crossingY 10 = .ok (.ireturn, 1) := by decide +kernel
abbrev cc_sp_crossingOf : ByteArray := prog_4_method_18_code
def yy_sp_crossingOf : MethodName := ⟨"SpotContours$Spots", "crossingOf", "([III)I"⟩
def ww_sp_crossingOf : List Cond := .code yy_sp_crossingOf cc_sp_crossingOf 8 (some .int) :: zz_B
theorem d_sp_crossingOf_0 : decode cc_sp_crossingOf 0 = .ok (.iload_n 2, 1) := by decide +kernel
theorem d_sp_crossingOf_1 : decode cc_sp_crossingOf 1 = .ok (.invokestatic 49, 3) := by decide +kernel
theorem d_sp_crossingOf_4 : decode cc_sp_crossingOf 4 = .ok (.istore 4, 2) := by decide +kernel
theorem d_sp_crossingOf_6 : decode cc_sp_crossingOf 6 = .ok (.iload_n 2, 1) := by decide +kernel
theorem d_sp_crossingOf_7 : decode cc_sp_crossingOf 7 = .ok (.invokestatic 53, 3) := by decide +kernel
theorem d_sp_crossingOf_10 : decode cc_sp_crossingOf 10 = .ok (.istore 5, 2) := by decide +kernel
theorem d_sp_crossingOf_12 : decode cc_sp_crossingOf 12 = .ok (.aload_n 0, 1) := by decide +kernel
theorem d_sp_crossingOf_13 : decode cc_sp_crossingOf 13 = .ok (.getfield 18, 3) := by decide +kernel
theorem d_sp_crossingOf_16 : decode cc_sp_crossingOf 16 = .ok (.iload 4, 2) := by decide +kernel
theorem d_sp_crossingOf_18 : decode cc_sp_crossingOf 18 = .ok (.iaload, 1) := by decide +kernel
theorem d_sp_crossingOf_19 : decode cc_sp_crossingOf 19 = .ok (.aload_n 0, 1) := by decide +kernel
theorem d_sp_crossingOf_20 : decode cc_sp_crossingOf 20 = .ok (.getfield 18, 3) := by decide +kernel
theorem d_sp_crossingOf_23 : decode cc_sp_crossingOf 23 = .ok (.iload 5, 2) := by decide +kernel
theorem d_sp_crossingOf_25 : decode cc_sp_crossingOf 25 = .ok (.iaload, 1) := by decide +kernel
theorem d_sp_crossingOf_26 : decode cc_sp_crossingOf 26 = .ok (.isub, 1) := by decide +kernel
theorem d_sp_crossingOf_27 : decode cc_sp_crossingOf 27 = .ok (.istore 6, 2) := by decide +kernel
theorem d_sp_crossingOf_29 : decode cc_sp_crossingOf 29 = .ok (.iload 6, 2) := by decide +kernel
theorem d_sp_crossingOf_31 : decode cc_sp_crossingOf 31 = .ok (.ifCond .gt 8, 3) := by decide +kernel
theorem d_sp_crossingOf_34 : decode cc_sp_crossingOf 34 = .ok (.aload_n 1, 1) := by decide +kernel
theorem d_sp_crossingOf_35 : decode cc_sp_crossingOf 35 = .ok (.iload 5, 2) := by decide +kernel
theorem d_sp_crossingOf_37 : decode cc_sp_crossingOf 37 = .ok (.iaload, 1) := by decide +kernel
theorem d_sp_crossingOf_38 : decode cc_sp_crossingOf 38 = .ok (.ireturn, 1) := by decide +kernel
theorem d_sp_crossingOf_39 : decode cc_sp_crossingOf 39 = .ok (.aload_n 1, 1) := by decide +kernel
theorem d_sp_crossingOf_40 : decode cc_sp_crossingOf 40 = .ok (.iload 4, 2) := by decide +kernel
theorem d_sp_crossingOf_42 : decode cc_sp_crossingOf 42 = .ok (.iaload, 1) := by decide +kernel
theorem d_sp_crossingOf_43 : decode cc_sp_crossingOf 43 = .ok (.aload_n 1, 1) := by decide +kernel
theorem d_sp_crossingOf_44 : decode cc_sp_crossingOf 44 = .ok (.iload 5, 2) := by decide +kernel
theorem d_sp_crossingOf_46 : decode cc_sp_crossingOf 46 = .ok (.iaload, 1) := by decide +kernel
theorem d_sp_crossingOf_47 : decode cc_sp_crossingOf 47 = .ok (.isub, 1) := by decide +kernel
theorem d_sp_crossingOf_48 : decode cc_sp_crossingOf 48 = .ok (.iconst 2, 1) := by decide +kernel
theorem d_sp_crossingOf_49 : decode cc_sp_crossingOf 49 = .ok (.iload_n 3, 1) := by decide +kernel
theorem d_sp_crossingOf_50 : decode cc_sp_crossingOf 50 = .ok (.imul, 1) := by decide +kernel
theorem d_sp_crossingOf_51 : decode cc_sp_crossingOf 51 = .ok (.iconst 1, 1) := by decide +kernel
theorem d_sp_crossingOf_52 : decode cc_sp_crossingOf 52 = .ok (.iadd, 1) := by decide +kernel
theorem d_sp_crossingOf_53 : decode cc_sp_crossingOf 53 = .ok (.iconst 2, 1) := by decide +kernel
theorem d_sp_crossingOf_54 : decode cc_sp_crossingOf 54 = .ok (.aload_n 0, 1) := by decide +kernel
theorem d_sp_crossingOf_55 : decode cc_sp_crossingOf 55 = .ok (.getfield 18, 3) := by decide +kernel
theorem d_sp_crossingOf_58 : decode cc_sp_crossingOf 58 = .ok (.iload 5, 2) := by decide +kernel
theorem d_sp_crossingOf_60 : decode cc_sp_crossingOf 60 = .ok (.iaload, 1) := by decide +kernel
theorem d_sp_crossingOf_61 : decode cc_sp_crossingOf 61 = .ok (.imul, 1) := by decide +kernel
theorem d_sp_crossingOf_62 : decode cc_sp_crossingOf 62 = .ok (.isub, 1) := by decide +kernel
theorem d_sp_crossingOf_63 : decode cc_sp_crossingOf 63 = .ok (.imul, 1) := by decide +kernel
theorem d_sp_crossingOf_64 : decode cc_sp_crossingOf 64 = .ok (.istore 7, 2) := by decide +kernel
theorem d_sp_crossingOf_66 : decode cc_sp_crossingOf 66 = .ok (.aload_n 1, 1) := by decide +kernel
theorem d_sp_crossingOf_67 : decode cc_sp_crossingOf 67 = .ok (.iload 5, 2) := by decide +kernel
theorem d_sp_crossingOf_69 : decode cc_sp_crossingOf 69 = .ok (.iaload, 1) := by decide +kernel
theorem d_sp_crossingOf_70 : decode cc_sp_crossingOf 70 = .ok (.iload 7, 2) := by decide +kernel
theorem d_sp_crossingOf_72 : decode cc_sp_crossingOf 72 = .ok (.iconst 2, 1) := by decide +kernel
theorem d_sp_crossingOf_73 : decode cc_sp_crossingOf 73 = .ok (.iload 6, 2) := by decide +kernel
theorem d_sp_crossingOf_75 : decode cc_sp_crossingOf 75 = .ok (.imul, 1) := by decide +kernel
theorem d_sp_crossingOf_76 : decode cc_sp_crossingOf 76 = .ok (.invokestatic 56, 3) := by decide +kernel
theorem d_sp_crossingOf_79 : decode cc_sp_crossingOf 79 = .ok (.iadd, 1) := by decide +kernel
theorem d_sp_crossingOf_80 : decode cc_sp_crossingOf 80 = .ok (.ireturn, 1) := by decide +kernel
