/-! Names and decode rows, printed. -/
abbrev cc_ta_size : ByteArray := prog_5_method_2_code
def yy_ta_size : MethodName := ⟨"SpotContours$Tags", "size", "()I"⟩
def ww_ta_size : List Cond := .code yy_ta_size cc_ta_size 1 (some .int) :: zz_B
theorem d_ta_size_0 : decode cc_ta_size 0 = .ok (.aload_n 0, 1) := by decide +kernel
theorem d_ta_size_1 : decode cc_ta_size 1 = .ok (.getfield 19, 3) := by decide +kernel
theorem d_ta_size_4 : decode cc_ta_size 4 = .ok (.ireturn, 1) := by decide +kernel
abbrev cc_ta_isFull : ByteArray := prog_5_method_3_code
def yy_ta_isFull : MethodName := ⟨"SpotContours$Tags", "isFull", "()Z"⟩
def ww_ta_isFull : List Cond := .code yy_ta_isFull cc_ta_isFull 1 (some .boolean) :: zz_B
theorem d_ta_isFull_0 : decode cc_ta_isFull 0 = .ok (.aload_n 0, 1) := by decide +kernel
theorem d_ta_isFull_1 : decode cc_ta_isFull 1 = .ok (.getfield 19, 3) := by decide +kernel
theorem d_ta_isFull_4 : decode cc_ta_isFull 4 = .ok (.bipush 20, 2) := by decide +kernel
theorem d_ta_isFull_6 : decode cc_ta_isFull 6 = .ok (.if_icmp .lt 7, 3) := by decide +kernel
theorem d_ta_isFull_9 : decode cc_ta_isFull 9 = .ok (.iconst 1, 1) := by decide +kernel
theorem d_ta_isFull_10 : decode cc_ta_isFull 10 = .ok (.goto 4, 3) := by decide +kernel
theorem d_ta_isFull_13 : decode cc_ta_isFull 13 = .ok (.iconst 0, 1) := by decide +kernel
theorem d_ta_isFull_14 : decode cc_ta_isFull 14 = .ok (.ireturn, 1) := by decide +kernel
abbrev cc_ta_level : ByteArray := prog_5_method_4_code
def yy_ta_level : MethodName := ⟨"SpotContours$Tags", "level", "(I)I"⟩
def ww_ta_level : List Cond := .code yy_ta_level cc_ta_level 2 (some .int) :: zz_B
theorem d_ta_level_0 : decode cc_ta_level 0 = .ok (.aload_n 0, 1) := by decide +kernel
theorem d_ta_level_1 : decode cc_ta_level 1 = .ok (.getfield 9, 3) := by decide +kernel
theorem d_ta_level_4 : decode cc_ta_level 4 = .ok (.iload_n 1, 1) := by decide +kernel
theorem d_ta_level_5 : decode cc_ta_level 5 = .ok (.iaload, 1) := by decide +kernel
theorem d_ta_level_6 : decode cc_ta_level 6 = .ok (.ireturn, 1) := by decide +kernel
abbrev cc_ta_x : ByteArray := prog_5_method_5_code
def yy_ta_x : MethodName := ⟨"SpotContours$Tags", "x", "(I)I"⟩
def ww_ta_x : List Cond := .code yy_ta_x cc_ta_x 2 (some .int) :: zz_B
theorem d_ta_x_0 : decode cc_ta_x 0 = .ok (.aload_n 0, 1) := by decide +kernel
theorem d_ta_x_1 : decode cc_ta_x 1 = .ok (.getfield 13, 3) := by decide +kernel
theorem d_ta_x_4 : decode cc_ta_x 4 = .ok (.iload_n 1, 1) := by decide +kernel
theorem d_ta_x_5 : decode cc_ta_x 5 = .ok (.iaload, 1) := by decide +kernel
theorem d_ta_x_6 : decode cc_ta_x 6 = .ok (.ireturn, 1) := by decide +kernel
abbrev cc_ta_y : ByteArray := prog_5_method_6_code
def yy_ta_y : MethodName := ⟨"SpotContours$Tags", "y", "(I)I"⟩
def ww_ta_y : List Cond := .code yy_ta_y cc_ta_y 2 (some .int) :: zz_B
theorem d_ta_y_0 : decode cc_ta_y 0 = .ok (.aload_n 0, 1) := by decide +kernel
theorem d_ta_y_1 : decode cc_ta_y 1 = .ok (.getfield 16, 3) := by decide +kernel
theorem d_ta_y_4 : decode cc_ta_y 4 = .ok (.iload_n 1, 1) := by decide +kernel
theorem d_ta_y_5 : decode cc_ta_y 5 = .ok (.iaload, 1) := by decide +kernel
theorem d_ta_y_6 : decode cc_ta_y 6 = .ok (.ireturn, 1) := by decide +kernel
abbrev cc_ta_add : ByteArray := prog_5_method_7_code
def yy_ta_add : MethodName := ⟨"SpotContours$Tags", "add", "(III)V"⟩
def ww_ta_add : List Cond := .code yy_ta_add cc_ta_add 4 none :: zz_B
theorem d_ta_add_0 : decode cc_ta_add 0 = .ok (.aload_n 0, 1) := by decide +kernel
theorem d_ta_add_1 : decode cc_ta_add 1 = .ok (.getfield 9, 3) := by decide +kernel
theorem d_ta_add_4 : decode cc_ta_add 4 = .ok (.aload_n 0, 1) := by decide +kernel
theorem d_ta_add_5 : decode cc_ta_add 5 = .ok (.getfield 19, 3) := by decide +kernel
theorem d_ta_add_8 : decode cc_ta_add 8 = .ok (.iload_n 1, 1) := by decide +kernel
theorem d_ta_add_9 : decode cc_ta_add 9 = .ok (.iastore, 1) := by decide +kernel
theorem d_ta_add_10 : decode cc_ta_add 10 = .ok (.aload_n 0, 1) := by decide +kernel
theorem d_ta_add_11 : decode cc_ta_add 11 = .ok (.getfield 13, 3) := by decide +kernel
theorem d_ta_add_14 : decode cc_ta_add 14 = .ok (.aload_n 0, 1) := by decide +kernel
theorem d_ta_add_15 : decode cc_ta_add 15 = .ok (.getfield 19, 3) := by decide +kernel
theorem d_ta_add_18 : decode cc_ta_add 18 = .ok (.iload_n 2, 1) := by decide +kernel
theorem d_ta_add_19 : decode cc_ta_add 19 = .ok (.iastore, 1) := by decide +kernel
theorem d_ta_add_20 : decode cc_ta_add 20 = .ok (.aload_n 0, 1) := by decide +kernel
theorem d_ta_add_21 : decode cc_ta_add 21 = .ok (.getfield 16, 3) := by decide +kernel
theorem d_ta_add_24 : decode cc_ta_add 24 = .ok (.aload_n 0, 1) := by decide +kernel
theorem d_ta_add_25 : decode cc_ta_add 25 = .ok (.getfield 19, 3) := by decide +kernel
theorem d_ta_add_28 : decode cc_ta_add 28 = .ok (.iload_n 3, 1) := by decide +kernel
theorem d_ta_add_29 : decode cc_ta_add 29 = .ok (.iastore, 1) := by decide +kernel
theorem d_ta_add_30 : decode cc_ta_add 30 = .ok (.aload_n 0, 1) := by decide +kernel
theorem d_ta_add_31 : decode cc_ta_add 31 = .ok (.dup, 1) := by decide +kernel
theorem d_ta_add_32 : decode cc_ta_add 32 = .ok (.getfield 19, 3) := by decide +kernel
theorem d_ta_add_35 : decode cc_ta_add 35 = .ok (.iconst 1, 1) := by decide +kernel
theorem d_ta_add_36 : decode cc_ta_add 36 = .ok (.iadd, 1) := by decide +kernel
theorem d_ta_add_37 : decode cc_ta_add 37 = .ok (.putfield 19, 3) := by decide +kernel
theorem d_ta_add_40 : decode cc_ta_add 40 = .ok (.return_, 1) := by decide +kernel
abbrev cc_ta_cutTo : ByteArray := prog_5_method_8_code
def yy_ta_cutTo : MethodName := ⟨"SpotContours$Tags", "cutTo", "(I)V"⟩
def ww_ta_cutTo : List Cond := .code yy_ta_cutTo cc_ta_cutTo 2 none :: zz_B
theorem d_ta_cutTo_0 : decode cc_ta_cutTo 0 = .ok (.aload_n 0, 1) := by decide +kernel
theorem d_ta_cutTo_1 : decode cc_ta_cutTo 1 = .ok (.iload_n 1, 1) := by decide +kernel
theorem d_ta_cutTo_2 : decode cc_ta_cutTo 2 = .ok (.putfield 19, 3) := by decide +kernel
theorem d_ta_cutTo_5 : decode cc_ta_cutTo 5 = .ok (.return_, 1) := by decide +kernel
abbrev cc_ta_coversSpot : ByteArray := prog_5_method_9_code
def yy_ta_coversSpot : MethodName := ⟨"SpotContours$Tags", "coversSpot", "(LSpotContours$Spots;II)Z"⟩
def ww_ta_coversSpot : List Cond := .code yy_ta_coversSpot cc_ta_coversSpot 4 (some .boolean) :: zz_B
theorem d_ta_coversSpot_0 : decode cc_ta_coversSpot 0 = .ok (.iconst 0, 1) := by decide +kernel
theorem d_ta_coversSpot_1 : decode cc_ta_coversSpot 1 = .ok (.istore_n 3, 1) := by decide +kernel
theorem d_ta_coversSpot_2 : decode cc_ta_coversSpot 2 = .ok (.iload_n 3, 1) := by decide +kernel
theorem d_ta_coversSpot_3 : decode cc_ta_coversSpot 3 = .ok (.aload_n 0, 1) := by decide +kernel
theorem d_ta_coversSpot_4 : decode cc_ta_coversSpot 4 = .ok (.invokevirtual 23, 3) := by decide +kernel
theorem d_ta_coversSpot_7 : decode cc_ta_coversSpot 7 = .ok (.if_icmp .ge 39, 3) := by decide +kernel
theorem d_ta_coversSpot_10 : decode cc_ta_coversSpot 10 = .ok (.aload_n 0, 1) := by decide +kernel
theorem d_ta_coversSpot_11 : decode cc_ta_coversSpot 11 = .ok (.iload_n 3, 1) := by decide +kernel
theorem d_ta_coversSpot_12 : decode cc_ta_coversSpot 12 = .ok (.invokevirtual 29, 3) := by decide +kernel
theorem d_ta_coversSpot_15 : decode cc_ta_coversSpot 15 = .ok (.iload_n 1, 1) := by decide +kernel
theorem d_ta_coversSpot_16 : decode cc_ta_coversSpot 16 = .ok (.isub, 1) := by decide +kernel
theorem d_ta_coversSpot_17 : decode cc_ta_coversSpot 17 = .ok (.invokestatic 33, 3) := by decide +kernel
theorem d_ta_coversSpot_20 : decode cc_ta_coversSpot 20 = .ok (.iconst 3, 1) := by decide +kernel
theorem d_ta_coversSpot_21 : decode cc_ta_coversSpot 21 = .ok (.if_icmp .gt 19, 3) := by decide +kernel
theorem d_ta_coversSpot_24 : decode cc_ta_coversSpot 24 = .ok (.aload_n 0, 1) := by decide +kernel
theorem d_ta_coversSpot_25 : decode cc_ta_coversSpot 25 = .ok (.iload_n 3, 1) := by decide +kernel
theorem d_ta_coversSpot_26 : decode cc_ta_coversSpot 26 = .ok (.invokevirtual 38, 3) := by decide +kernel
theorem d_ta_coversSpot_29 : decode cc_ta_coversSpot 29 = .ok (.iload_n 2, 1) := by decide +kernel
theorem d_ta_coversSpot_30 : decode cc_ta_coversSpot 30 = .ok (.isub, 1) := by decide +kernel
theorem d_ta_coversSpot_31 : decode cc_ta_coversSpot 31 = .ok (.invokestatic 33, 3) := by decide +kernel
theorem d_ta_coversSpot_34 : decode cc_ta_coversSpot 34 = .ok (.iconst 1, 1) := by decide +kernel
theorem d_ta_coversSpot_35 : decode cc_ta_coversSpot 35 = .ok (.if_icmp .gt 5, 3) := by decide +kernel
theorem d_ta_coversSpot_38 : decode cc_ta_coversSpot 38 = .ok (.iconst 1, 1) := by decide +kernel
theorem d_ta_coversSpot_39 : decode cc_ta_coversSpot 39 = .ok (.ireturn, 1) := by decide +kernel
theorem d_ta_coversSpot_40 : decode cc_ta_coversSpot 40 = .ok (.iinc 3 1, 3) := by decide +kernel
theorem d_ta_coversSpot_43 : decode cc_ta_coversSpot 43 = .ok (.goto (-41), 3) := by decide +kernel
theorem d_ta_coversSpot_46 : decode cc_ta_coversSpot 46 = .ok (.iconst 0, 1) := by decide +kernel
theorem d_ta_coversSpot_47 : decode cc_ta_coversSpot 47 = .ok (.ireturn, 1) := by decide +kernel
abbrev cc_ta_clashesAt : ByteArray := prog_5_method_10_code
def yy_ta_clashesAt : MethodName := ⟨"SpotContours$Tags", "clashesAt", "(II)Z"⟩
def ww_ta_clashesAt : List Cond := .code yy_ta_clashesAt cc_ta_clashesAt 4 (some .boolean) :: zz_B
theorem d_ta_clashesAt_0 : decode cc_ta_clashesAt 0 = .ok (.iconst 0, 1) := by decide +kernel
theorem d_ta_clashesAt_1 : decode cc_ta_clashesAt 1 = .ok (.istore_n 3, 1) := by decide +kernel
theorem d_ta_clashesAt_2 : decode cc_ta_clashesAt 2 = .ok (.iload_n 3, 1) := by decide +kernel
theorem d_ta_clashesAt_3 : decode cc_ta_clashesAt 3 = .ok (.aload_n 0, 1) := by decide +kernel
theorem d_ta_clashesAt_4 : decode cc_ta_clashesAt 4 = .ok (.getfield 19, 3) := by decide +kernel
theorem d_ta_clashesAt_7 : decode cc_ta_clashesAt 7 = .ok (.if_icmp .ge 42, 3) := by decide +kernel
theorem d_ta_clashesAt_10 : decode cc_ta_clashesAt 10 = .ok (.aload_n 0, 1) := by decide +kernel
theorem d_ta_clashesAt_11 : decode cc_ta_clashesAt 11 = .ok (.getfield 13, 3) := by decide +kernel
theorem d_ta_clashesAt_14 : decode cc_ta_clashesAt 14 = .ok (.iload_n 3, 1) := by decide +kernel
theorem d_ta_clashesAt_15 : decode cc_ta_clashesAt 15 = .ok (.iaload, 1) := by decide +kernel
theorem d_ta_clashesAt_16 : decode cc_ta_clashesAt 16 = .ok (.iload_n 1, 1) := by decide +kernel
theorem d_ta_clashesAt_17 : decode cc_ta_clashesAt 17 = .ok (.isub, 1) := by decide +kernel
theorem d_ta_clashesAt_18 : decode cc_ta_clashesAt 18 = .ok (.invokestatic 33, 3) := by decide +kernel
theorem d_ta_clashesAt_21 : decode cc_ta_clashesAt 21 = .ok (.bipush 6, 2) := by decide +kernel
theorem d_ta_clashesAt_23 : decode cc_ta_clashesAt 23 = .ok (.if_icmp .gt 20, 3) := by decide +kernel
theorem d_ta_clashesAt_26 : decode cc_ta_clashesAt 26 = .ok (.aload_n 0, 1) := by decide +kernel
theorem d_ta_clashesAt_27 : decode cc_ta_clashesAt 27 = .ok (.getfield 16, 3) := by decide +kernel
theorem d_ta_clashesAt_30 : decode cc_ta_clashesAt 30 = .ok (.iload_n 3, 1) := by decide +kernel
theorem d_ta_clashesAt_31 : decode cc_ta_clashesAt 31 = .ok (.iaload, 1) := by decide +kernel
theorem d_ta_clashesAt_32 : decode cc_ta_clashesAt 32 = .ok (.iload_n 2, 1) := by decide +kernel
theorem d_ta_clashesAt_33 : decode cc_ta_clashesAt 33 = .ok (.isub, 1) := by decide +kernel
theorem d_ta_clashesAt_34 : decode cc_ta_clashesAt 34 = .ok (.invokestatic 33, 3) := by decide +kernel
theorem d_ta_clashesAt_37 : decode cc_ta_clashesAt 37 = .ok (.iconst 2, 1) := by decide +kernel
theorem d_ta_clashesAt_38 : decode cc_ta_clashesAt 38 = .ok (.if_icmp .gt 5, 3) := by decide +kernel
theorem d_ta_clashesAt_41 : decode cc_ta_clashesAt 41 = .ok (.iconst 1, 1) := by decide +kernel
theorem d_ta_clashesAt_42 : decode cc_ta_clashesAt 42 = .ok (.ireturn, 1) := by decide +kernel
theorem d_ta_clashesAt_43 : decode cc_ta_clashesAt 43 = .ok (.iinc 3 1, 3) := by decide +kernel
theorem d_ta_clashesAt_46 : decode cc_ta_clashesAt 46 = .ok (.goto (-44), 3) := by decide +kernel
theorem d_ta_clashesAt_49 : decode cc_ta_clashesAt 49 = .ok (.iconst 0, 1) := by decide +kernel
theorem d_ta_clashesAt_50 : decode cc_ta_clashesAt 50 = .ok (.ireturn, 1) := by decide +kernel
