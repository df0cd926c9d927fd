/-! Names and decode rows, printed. -/
abbrev cc_me_size : ByteArray := prog_3_method_2_code
def yy_me_size : MethodName := ⟨"SpotContours$Mesh", "size", "()I"⟩
def ww_me_size : List Cond := .code yy_me_size cc_me_size 1 (some .int) :: zz_B
theorem d_me_size_0 : decode cc_me_size 0 = .ok (.aload_n 0, 1) := by decide +kernel
theorem d_me_size_1 : decode cc_me_size 1 = .ok (.getfield 21, 3) := by decide +kernel
theorem d_me_size_4 : decode cc_me_size 4 = .ok (.ireturn, 1) := by decide +kernel
abbrev cc_me_cornerOf : ByteArray := prog_3_method_3_code
def yy_me_cornerOf : MethodName := ⟨"SpotContours$Mesh", "cornerOf", "(II)I"⟩
def ww_me_cornerOf : List Cond := .code yy_me_cornerOf cc_me_cornerOf 3 (some .int) :: zz_B
theorem d_me_cornerOf_0 : decode cc_me_cornerOf 0 = .ok (.aload_n 0, 1) := by decide +kernel
theorem d_me_cornerOf_1 : decode cc_me_cornerOf 1 = .ok (.getfield 11, 3) := by decide +kernel
theorem d_me_cornerOf_4 : decode cc_me_cornerOf 4 = .ok (.iconst 3, 1) := by decide +kernel
theorem d_me_cornerOf_5 : decode cc_me_cornerOf 5 = .ok (.iload_n 1, 1) := by decide +kernel
theorem d_me_cornerOf_6 : decode cc_me_cornerOf 6 = .ok (.imul, 1) := by decide +kernel
theorem d_me_cornerOf_7 : decode cc_me_cornerOf 7 = .ok (.iload_n 2, 1) := by decide +kernel
theorem d_me_cornerOf_8 : decode cc_me_cornerOf 8 = .ok (.iadd, 1) := by decide +kernel
theorem d_me_cornerOf_9 : decode cc_me_cornerOf 9 = .ok (.iaload, 1) := by decide +kernel
theorem d_me_cornerOf_10 : decode cc_me_cornerOf 10 = .ok (.ireturn, 1) := by decide +kernel
abbrev cc_me_thirdRightOf : ByteArray := prog_3_method_4_code
def yy_me_thirdRightOf : MethodName := ⟨"SpotContours$Mesh", "thirdRightOf", "(II)I"⟩
def ww_me_thirdRightOf : List Cond := .code yy_me_thirdRightOf cc_me_thirdRightOf 3 (some .int) :: zz_B
theorem d_me_thirdRightOf_0 : decode cc_me_thirdRightOf 0 = .ok (.aload_n 0, 1) := by decide +kernel
theorem d_me_thirdRightOf_1 : decode cc_me_thirdRightOf 1 = .ok (.getfield 15, 3) := by decide +kernel
theorem d_me_thirdRightOf_4 : decode cc_me_thirdRightOf 4 = .ok (.bipush 16, 2) := by decide +kernel
theorem d_me_thirdRightOf_6 : decode cc_me_thirdRightOf 6 = .ok (.iload_n 1, 1) := by decide +kernel
theorem d_me_thirdRightOf_7 : decode cc_me_thirdRightOf 7 = .ok (.imul, 1) := by decide +kernel
theorem d_me_thirdRightOf_8 : decode cc_me_thirdRightOf 8 = .ok (.iload_n 2, 1) := by decide +kernel
theorem d_me_thirdRightOf_9 : decode cc_me_thirdRightOf 9 = .ok (.iadd, 1) := by decide +kernel
theorem d_me_thirdRightOf_10 : decode cc_me_thirdRightOf 10 = .ok (.iaload, 1) := by decide +kernel
theorem d_me_thirdRightOf_11 : decode cc_me_thirdRightOf 11 = .ok (.ireturn, 1) := by decide +kernel
abbrev cc_me_sharing : ByteArray := prog_3_method_5_code
def yy_me_sharing : MethodName := ⟨"SpotContours$Mesh", "sharing", "(II)I"⟩
def ww_me_sharing : List Cond := .code yy_me_sharing cc_me_sharing 5 (some .int) :: zz_B
theorem d_me_sharing_0 : decode cc_me_sharing 0 = .ok (.iload_n 1, 1) := by decide +kernel
theorem d_me_sharing_1 : decode cc_me_sharing 1 = .ok (.iload_n 2, 1) := by decide +kernel
theorem d_me_sharing_2 : decode cc_me_sharing 2 = .ok (.if_icmp .ne 5, 3) := by decide +kernel
theorem d_me_sharing_5 : decode cc_me_sharing 5 = .ok (.iconst 0, 1) := by decide +kernel
theorem d_me_sharing_6 : decode cc_me_sharing 6 = .ok (.ireturn, 1) := by decide +kernel
theorem d_me_sharing_7 : decode cc_me_sharing 7 = .ok (.aload_n 0, 1) := by decide +kernel
theorem d_me_sharing_8 : decode cc_me_sharing 8 = .ok (.iload_n 1, 1) := by decide +kernel
theorem d_me_sharing_9 : decode cc_me_sharing 9 = .ok (.iload_n 2, 1) := by decide +kernel
theorem d_me_sharing_10 : decode cc_me_sharing 10 = .ok (.invokevirtual 25, 3) := by decide +kernel
theorem d_me_sharing_13 : decode cc_me_sharing 13 = .ok (.iconst (-1), 1) := by decide +kernel
theorem d_me_sharing_14 : decode cc_me_sharing 14 = .ok (.if_icmp .ne 7, 3) := by decide +kernel
theorem d_me_sharing_17 : decode cc_me_sharing 17 = .ok (.iconst 0, 1) := by decide +kernel
theorem d_me_sharing_18 : decode cc_me_sharing 18 = .ok (.goto 4, 3) := by decide +kernel
theorem d_me_sharing_21 : decode cc_me_sharing 21 = .ok (.iconst 1, 1) := by decide +kernel
theorem d_me_sharing_22 : decode cc_me_sharing 22 = .ok (.istore_n 3, 1) := by decide +kernel
theorem d_me_sharing_23 : decode cc_me_sharing 23 = .ok (.aload_n 0, 1) := by decide +kernel
theorem d_me_sharing_24 : decode cc_me_sharing 24 = .ok (.iload_n 2, 1) := by decide +kernel
theorem d_me_sharing_25 : decode cc_me_sharing 25 = .ok (.iload_n 1, 1) := by decide +kernel
theorem d_me_sharing_26 : decode cc_me_sharing 26 = .ok (.invokevirtual 25, 3) := by decide +kernel
theorem d_me_sharing_29 : decode cc_me_sharing 29 = .ok (.iconst (-1), 1) := by decide +kernel
theorem d_me_sharing_30 : decode cc_me_sharing 30 = .ok (.if_icmp .ne 7, 3) := by decide +kernel
theorem d_me_sharing_33 : decode cc_me_sharing 33 = .ok (.iconst 0, 1) := by decide +kernel
theorem d_me_sharing_34 : decode cc_me_sharing 34 = .ok (.goto 4, 3) := by decide +kernel
theorem d_me_sharing_37 : decode cc_me_sharing 37 = .ok (.iconst 1, 1) := by decide +kernel
theorem d_me_sharing_38 : decode cc_me_sharing 38 = .ok (.istore 4, 2) := by decide +kernel
theorem d_me_sharing_40 : decode cc_me_sharing 40 = .ok (.iload_n 3, 1) := by decide +kernel
theorem d_me_sharing_41 : decode cc_me_sharing 41 = .ok (.iload 4, 2) := by decide +kernel
theorem d_me_sharing_43 : decode cc_me_sharing 43 = .ok (.iadd, 1) := by decide +kernel
theorem d_me_sharing_44 : decode cc_me_sharing 44 = .ok (.ireturn, 1) := by decide +kernel
abbrev cc_me_rebuild : ByteArray := prog_3_method_6_code
def yy_me_rebuild : MethodName := ⟨"SpotContours$Mesh", "rebuild", "(LSpotContours$Spots;)V"⟩
def ww_me_rebuild : List Cond := .code yy_me_rebuild cc_me_rebuild 5 none :: zz_B
theorem d_me_rebuild_0 : decode cc_me_rebuild 0 = .ok (.aload_n 0, 1) := by decide +kernel
theorem d_me_rebuild_1 : decode cc_me_rebuild 1 = .ok (.invokevirtual 18, 3) := by decide +kernel
theorem d_me_rebuild_4 : decode cc_me_rebuild 4 = .ok (.iconst 0, 1) := by decide +kernel
theorem d_me_rebuild_5 : decode cc_me_rebuild 5 = .ok (.istore_n 2, 1) := by decide +kernel
theorem d_me_rebuild_6 : decode cc_me_rebuild 6 = .ok (.iload_n 2, 1) := by decide +kernel
theorem d_me_rebuild_7 : decode cc_me_rebuild 7 = .ok (.aload_n 1, 1) := by decide +kernel
theorem d_me_rebuild_8 : decode cc_me_rebuild 8 = .ok (.invokevirtual 29, 3) := by decide +kernel
theorem d_me_rebuild_11 : decode cc_me_rebuild 11 = .ok (.if_icmp .ge 91, 3) := by decide +kernel
theorem d_me_rebuild_14 : decode cc_me_rebuild 14 = .ok (.iload_n 2, 1) := by decide +kernel
theorem d_me_rebuild_15 : decode cc_me_rebuild 15 = .ok (.iconst 1, 1) := by decide +kernel
theorem d_me_rebuild_16 : decode cc_me_rebuild 16 = .ok (.iadd, 1) := by decide +kernel
theorem d_me_rebuild_17 : decode cc_me_rebuild 17 = .ok (.istore_n 3, 1) := by decide +kernel
theorem d_me_rebuild_18 : decode cc_me_rebuild 18 = .ok (.iload_n 3, 1) := by decide +kernel
theorem d_me_rebuild_19 : decode cc_me_rebuild 19 = .ok (.aload_n 1, 1) := by decide +kernel
theorem d_me_rebuild_20 : decode cc_me_rebuild 20 = .ok (.invokevirtual 29, 3) := by decide +kernel
theorem d_me_rebuild_23 : decode cc_me_rebuild 23 = .ok (.if_icmp .ge 73, 3) := by decide +kernel
theorem d_me_rebuild_26 : decode cc_me_rebuild 26 = .ok (.iload_n 3, 1) := by decide +kernel
theorem d_me_rebuild_27 : decode cc_me_rebuild 27 = .ok (.iconst 1, 1) := by decide +kernel
theorem d_me_rebuild_28 : decode cc_me_rebuild 28 = .ok (.iadd, 1) := by decide +kernel
theorem d_me_rebuild_29 : decode cc_me_rebuild 29 = .ok (.istore 4, 2) := by decide +kernel
theorem d_me_rebuild_31 : decode cc_me_rebuild 31 = .ok (.iload 4, 2) := by decide +kernel
theorem d_me_rebuild_33 : decode cc_me_rebuild 33 = .ok (.aload_n 1, 1) := by decide +kernel
theorem d_me_rebuild_34 : decode cc_me_rebuild 34 = .ok (.invokevirtual 29, 3) := by decide +kernel
theorem d_me_rebuild_37 : decode cc_me_rebuild 37 = .ok (.if_icmp .ge 53, 3) := by decide +kernel
theorem d_me_rebuild_40 : decode cc_me_rebuild 40 = .ok (.aload_n 0, 1) := by decide +kernel
theorem d_me_rebuild_41 : decode cc_me_rebuild 41 = .ok (.getfield 21, 3) := by decide +kernel
theorem d_me_rebuild_44 : decode cc_me_rebuild 44 = .ok (.bipush 27, 2) := by decide +kernel
theorem d_me_rebuild_46 : decode cc_me_rebuild 46 = .ok (.if_icmp .ge 38, 3) := by decide +kernel
theorem d_me_rebuild_49 : decode cc_me_rebuild 49 = .ok (.aload_n 1, 1) := by decide +kernel
theorem d_me_rebuild_50 : decode cc_me_rebuild 50 = .ok (.iload_n 2, 1) := by decide +kernel
theorem d_me_rebuild_51 : decode cc_me_rebuild 51 = .ok (.iload_n 3, 1) := by decide +kernel
theorem d_me_rebuild_52 : decode cc_me_rebuild 52 = .ok (.iload 4, 2) := by decide +kernel
theorem d_me_rebuild_54 : decode cc_me_rebuild 54 = .ok (.invokestatic 35, 3) := by decide +kernel
theorem d_me_rebuild_57 : decode cc_me_rebuild 57 = .ok (.ifCond .eq 27, 3) := by decide +kernel
theorem d_me_rebuild_60 : decode cc_me_rebuild 60 = .ok (.aload_n 0, 1) := by decide +kernel
theorem d_me_rebuild_61 : decode cc_me_rebuild 61 = .ok (.iload_n 2, 1) := by decide +kernel
theorem d_me_rebuild_62 : decode cc_me_rebuild 62 = .ok (.iload_n 3, 1) := by decide +kernel
theorem d_me_rebuild_63 : decode cc_me_rebuild 63 = .ok (.iload 4, 2) := by decide +kernel
theorem d_me_rebuild_65 : decode cc_me_rebuild 65 = .ok (.aload_n 1, 1) := by decide +kernel
theorem d_me_rebuild_66 : decode cc_me_rebuild 66 = .ok (.iload_n 2, 1) := by decide +kernel
theorem d_me_rebuild_67 : decode cc_me_rebuild 67 = .ok (.iload_n 3, 1) := by decide +kernel
theorem d_me_rebuild_68 : decode cc_me_rebuild 68 = .ok (.iload 4, 2) := by decide +kernel
theorem d_me_rebuild_70 : decode cc_me_rebuild 70 = .ok (.invokevirtual 39, 3) := by decide +kernel
theorem d_me_rebuild_73 : decode cc_me_rebuild 73 = .ok (.ifCond .ge 7, 3) := by decide +kernel
theorem d_me_rebuild_76 : decode cc_me_rebuild 76 = .ok (.iconst 1, 1) := by decide +kernel
theorem d_me_rebuild_77 : decode cc_me_rebuild 77 = .ok (.goto 4, 3) := by decide +kernel
theorem d_me_rebuild_80 : decode cc_me_rebuild 80 = .ok (.iconst 0, 1) := by decide +kernel
theorem d_me_rebuild_81 : decode cc_me_rebuild 81 = .ok (.invokevirtual 43, 3) := by decide +kernel
theorem d_me_rebuild_84 : decode cc_me_rebuild 84 = .ok (.iinc 4 1, 3) := by decide +kernel
theorem d_me_rebuild_87 : decode cc_me_rebuild 87 = .ok (.goto (-56), 3) := by decide +kernel
theorem d_me_rebuild_90 : decode cc_me_rebuild 90 = .ok (.iinc 3 1, 3) := by decide +kernel
theorem d_me_rebuild_93 : decode cc_me_rebuild 93 = .ok (.goto (-75), 3) := by decide +kernel
theorem d_me_rebuild_96 : decode cc_me_rebuild 96 = .ok (.iinc 2 1, 3) := by decide +kernel
theorem d_me_rebuild_99 : decode cc_me_rebuild 99 = .ok (.goto (-93), 3) := by decide +kernel
theorem d_me_rebuild_102 : decode cc_me_rebuild 102 = .ok (.return_, 1) := by decide +kernel
abbrev cc_me_clear : ByteArray := prog_3_method_7_code
def yy_me_clear : MethodName := ⟨"SpotContours$Mesh", "clear", "()V"⟩
def ww_me_clear : List Cond := .code yy_me_clear cc_me_clear 2 none :: zz_B
theorem d_me_clear_0 : decode cc_me_clear 0 = .ok (.aload_n 0, 1) := by decide +kernel
theorem d_me_clear_1 : decode cc_me_clear 1 = .ok (.iconst 0, 1) := by decide +kernel
theorem d_me_clear_2 : decode cc_me_clear 2 = .ok (.putfield 21, 3) := by decide +kernel
theorem d_me_clear_5 : decode cc_me_clear 5 = .ok (.iconst 0, 1) := by decide +kernel
theorem d_me_clear_6 : decode cc_me_clear 6 = .ok (.istore_n 1, 1) := by decide +kernel
theorem d_me_clear_7 : decode cc_me_clear 7 = .ok (.iload_n 1, 1) := by decide +kernel
theorem d_me_clear_8 : decode cc_me_clear 8 = .ok (.sipush 256, 3) := by decide +kernel
theorem d_me_clear_11 : decode cc_me_clear 11 = .ok (.if_icmp .ge 16, 3) := by decide +kernel
theorem d_me_clear_14 : decode cc_me_clear 14 = .ok (.aload_n 0, 1) := by decide +kernel
theorem d_me_clear_15 : decode cc_me_clear 15 = .ok (.getfield 15, 3) := by decide +kernel
theorem d_me_clear_18 : decode cc_me_clear 18 = .ok (.iload_n 1, 1) := by decide +kernel
theorem d_me_clear_19 : decode cc_me_clear 19 = .ok (.iconst (-1), 1) := by decide +kernel
theorem d_me_clear_20 : decode cc_me_clear 20 = .ok (.iastore, 1) := by decide +kernel
theorem d_me_clear_21 : decode cc_me_clear 21 = .ok (.iinc 1 1, 3) := by decide +kernel
theorem d_me_clear_24 : decode cc_me_clear 24 = .ok (.goto (-17), 3) := by decide +kernel
theorem d_me_clear_27 : decode cc_me_clear 27 = .ok (.return_, 1) := by decide +kernel
abbrev cc_me_isTriangle : ByteArray := prog_3_method_8_code
def yy_me_isTriangle : MethodName := ⟨"SpotContours$Mesh", "isTriangle", "(LSpotContours$Spots;III)Z"⟩
def ww_me_isTriangle : List Cond := .code yy_me_isTriangle cc_me_isTriangle 5 (some .boolean) :: zz_B
theorem d_me_isTriangle_0 : decode cc_me_isTriangle 0 = .ok (.aload_n 0, 1) := by decide +kernel
theorem d_me_isTriangle_1 : decode cc_me_isTriangle 1 = .ok (.iload_n 1, 1) := by decide +kernel
theorem d_me_isTriangle_2 : decode cc_me_isTriangle 2 = .ok (.iload_n 2, 1) := by decide +kernel
theorem d_me_isTriangle_3 : decode cc_me_isTriangle 3 = .ok (.iload_n 3, 1) := by decide +kernel
theorem d_me_isTriangle_4 : decode cc_me_isTriangle 4 = .ok (.invokevirtual 39, 3) := by decide +kernel
theorem d_me_isTriangle_7 : decode cc_me_isTriangle 7 = .ok (.ifCond .ne 5, 3) := by decide +kernel
theorem d_me_isTriangle_10 : decode cc_me_isTriangle 10 = .ok (.iconst 0, 1) := by decide +kernel
theorem d_me_isTriangle_11 : decode cc_me_isTriangle 11 = .ok (.ireturn, 1) := by decide +kernel
theorem d_me_isTriangle_12 : decode cc_me_isTriangle 12 = .ok (.iconst 0, 1) := by decide +kernel
theorem d_me_isTriangle_13 : decode cc_me_isTriangle 13 = .ok (.istore 4, 2) := by decide +kernel
theorem d_me_isTriangle_15 : decode cc_me_isTriangle 15 = .ok (.iload 4, 2) := by decide +kernel
theorem d_me_isTriangle_17 : decode cc_me_isTriangle 17 = .ok (.aload_n 0, 1) := by decide +kernel
theorem d_me_isTriangle_18 : decode cc_me_isTriangle 18 = .ok (.invokevirtual 29, 3) := by decide +kernel
theorem d_me_isTriangle_21 : decode cc_me_isTriangle 21 = .ok (.if_icmp .ge 41, 3) := by decide +kernel
theorem d_me_isTriangle_24 : decode cc_me_isTriangle 24 = .ok (.iload 4, 2) := by decide +kernel
theorem d_me_isTriangle_26 : decode cc_me_isTriangle 26 = .ok (.iload_n 1, 1) := by decide +kernel
theorem d_me_isTriangle_27 : decode cc_me_isTriangle 27 = .ok (.if_icmp .eq 29, 3) := by decide +kernel
theorem d_me_isTriangle_30 : decode cc_me_isTriangle 30 = .ok (.iload 4, 2) := by decide +kernel
theorem d_me_isTriangle_32 : decode cc_me_isTriangle 32 = .ok (.iload_n 2, 1) := by decide +kernel
theorem d_me_isTriangle_33 : decode cc_me_isTriangle 33 = .ok (.if_icmp .eq 23, 3) := by decide +kernel
theorem d_me_isTriangle_36 : decode cc_me_isTriangle 36 = .ok (.iload 4, 2) := by decide +kernel
theorem d_me_isTriangle_38 : decode cc_me_isTriangle 38 = .ok (.iload_n 3, 1) := by decide +kernel
theorem d_me_isTriangle_39 : decode cc_me_isTriangle 39 = .ok (.if_icmp .eq 17, 3) := by decide +kernel
theorem d_me_isTriangle_42 : decode cc_me_isTriangle 42 = .ok (.aload_n 0, 1) := by decide +kernel
theorem d_me_isTriangle_43 : decode cc_me_isTriangle 43 = .ok (.iload_n 1, 1) := by decide +kernel
theorem d_me_isTriangle_44 : decode cc_me_isTriangle 44 = .ok (.iload_n 2, 1) := by decide +kernel
theorem d_me_isTriangle_45 : decode cc_me_isTriangle 45 = .ok (.iload_n 3, 1) := by decide +kernel
theorem d_me_isTriangle_46 : decode cc_me_isTriangle 46 = .ok (.iload 4, 2) := by decide +kernel
theorem d_me_isTriangle_48 : decode cc_me_isTriangle 48 = .ok (.invokevirtual 47, 3) := by decide +kernel
theorem d_me_isTriangle_51 : decode cc_me_isTriangle 51 = .ok (.ifCond .eq 5, 3) := by decide +kernel
theorem d_me_isTriangle_54 : decode cc_me_isTriangle 54 = .ok (.iconst 0, 1) := by decide +kernel
theorem d_me_isTriangle_55 : decode cc_me_isTriangle 55 = .ok (.ireturn, 1) := by decide +kernel
theorem d_me_isTriangle_56 : decode cc_me_isTriangle 56 = .ok (.iinc 4 1, 3) := by decide +kernel
theorem d_me_isTriangle_59 : decode cc_me_isTriangle 59 = .ok (.goto (-44), 3) := by decide +kernel
theorem d_me_isTriangle_62 : decode cc_me_isTriangle 62 = .ok (.iconst 1, 1) := by decide +kernel
theorem d_me_isTriangle_63 : decode cc_me_isTriangle 63 = .ok (.ireturn, 1) := by decide +kernel
abbrev cc_me_add : ByteArray := prog_3_method_9_code
def yy_me_add : MethodName := ⟨"SpotContours$Mesh", "add", "(IIIZ)V"⟩
def ww_me_add : List Cond := .code yy_me_add cc_me_add 6 none :: zz_B
theorem d_me_add_0 : decode cc_me_add 0 = .ok (.iconst 3, 1) := by decide +kernel
theorem d_me_add_1 : decode cc_me_add 1 = .ok (.aload_n 0, 1) := by decide +kernel
theorem d_me_add_2 : decode cc_me_add 2 = .ok (.getfield 21, 3) := by decide +kernel
theorem d_me_add_5 : decode cc_me_add 5 = .ok (.imul, 1) := by decide +kernel
theorem d_me_add_6 : decode cc_me_add 6 = .ok (.istore 5, 2) := by decide +kernel
theorem d_me_add_8 : decode cc_me_add 8 = .ok (.aload_n 0, 1) := by decide +kernel
theorem d_me_add_9 : decode cc_me_add 9 = .ok (.getfield 11, 3) := by decide +kernel
theorem d_me_add_12 : decode cc_me_add 12 = .ok (.iload 5, 2) := by decide +kernel
theorem d_me_add_14 : decode cc_me_add 14 = .ok (.iload_n 1, 1) := by decide +kernel
theorem d_me_add_15 : decode cc_me_add 15 = .ok (.iastore, 1) := by decide +kernel
theorem d_me_add_16 : decode cc_me_add 16 = .ok (.aload_n 0, 1) := by decide +kernel
theorem d_me_add_17 : decode cc_me_add 17 = .ok (.getfield 11, 3) := by decide +kernel
theorem d_me_add_20 : decode cc_me_add 20 = .ok (.iload 5, 2) := by decide +kernel
theorem d_me_add_22 : decode cc_me_add 22 = .ok (.iconst 1, 1) := by decide +kernel
theorem d_me_add_23 : decode cc_me_add 23 = .ok (.iadd, 1) := by decide +kernel
theorem d_me_add_24 : decode cc_me_add 24 = .ok (.iload_n 2, 1) := by decide +kernel
theorem d_me_add_25 : decode cc_me_add 25 = .ok (.iastore, 1) := by decide +kernel
theorem d_me_add_26 : decode cc_me_add 26 = .ok (.aload_n 0, 1) := by decide +kernel
theorem d_me_add_27 : decode cc_me_add 27 = .ok (.getfield 11, 3) := by decide +kernel
theorem d_me_add_30 : decode cc_me_add 30 = .ok (.iload 5, 2) := by decide +kernel
theorem d_me_add_32 : decode cc_me_add 32 = .ok (.iconst 2, 1) := by decide +kernel
theorem d_me_add_33 : decode cc_me_add 33 = .ok (.iadd, 1) := by decide +kernel
theorem d_me_add_34 : decode cc_me_add 34 = .ok (.iload_n 3, 1) := by decide +kernel
theorem d_me_add_35 : decode cc_me_add 35 = .ok (.iastore, 1) := by decide +kernel
theorem d_me_add_36 : decode cc_me_add 36 = .ok (.aload_n 0, 1) := by decide +kernel
theorem d_me_add_37 : decode cc_me_add 37 = .ok (.dup, 1) := by decide +kernel
theorem d_me_add_38 : decode cc_me_add 38 = .ok (.getfield 21, 3) := by decide +kernel
theorem d_me_add_41 : decode cc_me_add 41 = .ok (.iconst 1, 1) := by decide +kernel
theorem d_me_add_42 : decode cc_me_add 42 = .ok (.iadd, 1) := by decide +kernel
theorem d_me_add_43 : decode cc_me_add 43 = .ok (.putfield 21, 3) := by decide +kernel
theorem d_me_add_46 : decode cc_me_add 46 = .ok (.iload 4, 2) := by decide +kernel
theorem d_me_add_48 : decode cc_me_add 48 = .ok (.ifCond .eq 13, 3) := by decide +kernel
theorem d_me_add_51 : decode cc_me_add 51 = .ok (.aload_n 0, 1) := by decide +kernel
theorem d_me_add_52 : decode cc_me_add 52 = .ok (.iload_n 1, 1) := by decide +kernel
theorem d_me_add_53 : decode cc_me_add 53 = .ok (.iload_n 2, 1) := by decide +kernel
theorem d_me_add_54 : decode cc_me_add 54 = .ok (.iload_n 3, 1) := by decide +kernel
theorem d_me_add_55 : decode cc_me_add 55 = .ok (.invokevirtual 51, 3) := by decide +kernel
theorem d_me_add_58 : decode cc_me_add 58 = .ok (.goto 10, 3) := by decide +kernel
theorem d_me_add_61 : decode cc_me_add 61 = .ok (.aload_n 0, 1) := by decide +kernel
theorem d_me_add_62 : decode cc_me_add 62 = .ok (.iload_n 1, 1) := by decide +kernel
theorem d_me_add_63 : decode cc_me_add 63 = .ok (.iload_n 3, 1) := by decide +kernel
theorem d_me_add_64 : decode cc_me_add 64 = .ok (.iload_n 2, 1) := by decide +kernel
theorem d_me_add_65 : decode cc_me_add 65 = .ok (.invokevirtual 51, 3) := by decide +kernel
theorem d_me_add_68 : decode cc_me_add 68 = .ok (.return_, 1) := by decide +kernel
abbrev cc_me_addSides : ByteArray := prog_3_method_10_code
def yy_me_addSides : MethodName := ⟨"SpotContours$Mesh", "addSides", "(III)V"⟩
def ww_me_addSides : List Cond := .code yy_me_addSides cc_me_addSides 4 none :: zz_B
theorem d_me_addSides_0 : decode cc_me_addSides 0 = .ok (.aload_n 0, 1) := by decide +kernel
theorem d_me_addSides_1 : decode cc_me_addSides 1 = .ok (.getfield 15, 3) := by decide +kernel
theorem d_me_addSides_4 : decode cc_me_addSides 4 = .ok (.bipush 16, 2) := by decide +kernel
theorem d_me_addSides_6 : decode cc_me_addSides 6 = .ok (.iload_n 1, 1) := by decide +kernel
theorem d_me_addSides_7 : decode cc_me_addSides 7 = .ok (.imul, 1) := by decide +kernel
theorem d_me_addSides_8 : decode cc_me_addSides 8 = .ok (.iload_n 2, 1) := by decide +kernel
theorem d_me_addSides_9 : decode cc_me_addSides 9 = .ok (.iadd, 1) := by decide +kernel
theorem d_me_addSides_10 : decode cc_me_addSides 10 = .ok (.iload_n 3, 1) := by decide +kernel
theorem d_me_addSides_11 : decode cc_me_addSides 11 = .ok (.iastore, 1) := by decide +kernel
theorem d_me_addSides_12 : decode cc_me_addSides 12 = .ok (.aload_n 0, 1) := by decide +kernel
theorem d_me_addSides_13 : decode cc_me_addSides 13 = .ok (.getfield 15, 3) := by decide +kernel
theorem d_me_addSides_16 : decode cc_me_addSides 16 = .ok (.bipush 16, 2) := by decide +kernel
theorem d_me_addSides_18 : decode cc_me_addSides 18 = .ok (.iload_n 2, 1) := by decide +kernel
theorem d_me_addSides_19 : decode cc_me_addSides 19 = .ok (.imul, 1) := by decide +kernel
theorem d_me_addSides_20 : decode cc_me_addSides 20 = .ok (.iload_n 3, 1) := by decide +kernel
theorem d_me_addSides_21 : decode cc_me_addSides 21 = .ok (.iadd, 1) := by decide +kernel
theorem d_me_addSides_22 : decode cc_me_addSides 22 = .ok (.iload_n 1, 1) := by decide +kernel
theorem d_me_addSides_23 : decode cc_me_addSides 23 = .ok (.iastore, 1) := by decide +kernel
theorem d_me_addSides_24 : decode cc_me_addSides 24 = .ok (.aload_n 0, 1) := by decide +kernel
theorem d_me_addSides_25 : decode cc_me_addSides 25 = .ok (.getfield 15, 3) := by decide +kernel
theorem d_me_addSides_28 : decode cc_me_addSides 28 = .ok (.bipush 16, 2) := by decide +kernel
theorem d_me_addSides_30 : decode cc_me_addSides 30 = .ok (.iload_n 3, 1) := by decide +kernel
theorem d_me_addSides_31 : decode cc_me_addSides 31 = .ok (.imul, 1) := by decide +kernel
theorem d_me_addSides_32 : decode cc_me_addSides 32 = .ok (.iload_n 1, 1) := by decide +kernel
theorem d_me_addSides_33 : decode cc_me_addSides 33 = .ok (.iadd, 1) := by decide +kernel
theorem d_me_addSides_34 : decode cc_me_addSides 34 = .ok (.iload_n 2, 1) := by decide +kernel
theorem d_me_addSides_35 : decode cc_me_addSides 35 = .ok (.iastore, 1) := by decide +kernel
theorem d_me_addSides_36 : decode cc_me_addSides 36 = .ok (.return_, 1) := by decide +kernel
abbrev cc_me_heightAt : ByteArray := prog_3_method_11_code
def yy_me_heightAt : MethodName := ⟨"SpotContours$Mesh", "heightAt", "(LSpotContours$Spots;II)I"⟩
def ww_me_heightAt : List Cond := .code yy_me_heightAt cc_me_heightAt 6 (some .int) :: zz_B
theorem d_me_heightAt_0 : decode cc_me_heightAt 0 = .ok (.iconst 0, 1) := by decide +kernel
theorem d_me_heightAt_1 : decode cc_me_heightAt 1 = .ok (.istore 4, 2) := by decide +kernel
theorem d_me_heightAt_3 : decode cc_me_heightAt 3 = .ok (.iload 4, 2) := by decide +kernel
theorem d_me_heightAt_5 : decode cc_me_heightAt 5 = .ok (.aload_n 0, 1) := by decide +kernel
theorem d_me_heightAt_6 : decode cc_me_heightAt 6 = .ok (.getfield 21, 3) := by decide +kernel
theorem d_me_heightAt_9 : decode cc_me_heightAt 9 = .ok (.if_icmp .ge 29, 3) := by decide +kernel
theorem d_me_heightAt_12 : decode cc_me_heightAt 12 = .ok (.aload_n 0, 1) := by decide +kernel
theorem d_me_heightAt_13 : decode cc_me_heightAt 13 = .ok (.aload_n 1, 1) := by decide +kernel
theorem d_me_heightAt_14 : decode cc_me_heightAt 14 = .ok (.iload 4, 2) := by decide +kernel
theorem d_me_heightAt_16 : decode cc_me_heightAt 16 = .ok (.iload_n 2, 1) := by decide +kernel
theorem d_me_heightAt_17 : decode cc_me_heightAt 17 = .ok (.iload_n 3, 1) := by decide +kernel
theorem d_me_heightAt_18 : decode cc_me_heightAt 18 = .ok (.invokevirtual 55, 3) := by decide +kernel
theorem d_me_heightAt_21 : decode cc_me_heightAt 21 = .ok (.istore 5, 2) := by decide +kernel
theorem d_me_heightAt_23 : decode cc_me_heightAt 23 = .ok (.iload 5, 2) := by decide +kernel
theorem d_me_heightAt_25 : decode cc_me_heightAt 25 = .ok (.iconst (-1), 1) := by decide +kernel
theorem d_me_heightAt_26 : decode cc_me_heightAt 26 = .ok (.if_icmp .eq 6, 3) := by decide +kernel
theorem d_me_heightAt_29 : decode cc_me_heightAt 29 = .ok (.iload 5, 2) := by decide +kernel
theorem d_me_heightAt_31 : decode cc_me_heightAt 31 = .ok (.ireturn, 1) := by decide +kernel
theorem d_me_heightAt_32 : decode cc_me_heightAt 32 = .ok (.iinc 4 1, 3) := by decide +kernel
theorem d_me_heightAt_35 : decode cc_me_heightAt 35 = .ok (.goto (-32), 3) := by decide +kernel
theorem d_me_heightAt_38 : decode cc_me_heightAt 38 = .ok (.iconst (-1), 1) := by decide +kernel
theorem d_me_heightAt_39 : decode cc_me_heightAt 39 = .ok (.ireturn, 1) := by decide +kernel
abbrev cc_me_heightIn : ByteArray := prog_3_method_12_code
def yy_me_heightIn : MethodName := ⟨"SpotContours$Mesh", "heightIn", "(LSpotContours$Spots;III)I"⟩
def ww_me_heightIn : List Cond := .code yy_me_heightIn cc_me_heightIn 13 (some .int) :: zz_B
theorem d_me_heightIn_0 : decode cc_me_heightIn 0 = .ok (.aload_n 0, 1) := by decide +kernel
theorem d_me_heightIn_1 : decode cc_me_heightIn 1 = .ok (.iload_n 2, 1) := by decide +kernel
theorem d_me_heightIn_2 : decode cc_me_heightIn 2 = .ok (.iconst 0, 1) := by decide +kernel
theorem d_me_heightIn_3 : decode cc_me_heightIn 3 = .ok (.invokevirtual 59, 3) := by decide +kernel
theorem d_me_heightIn_6 : decode cc_me_heightIn 6 = .ok (.istore 5, 2) := by decide +kernel
theorem d_me_heightIn_8 : decode cc_me_heightIn 8 = .ok (.aload_n 0, 1) := by decide +kernel
theorem d_me_heightIn_9 : decode cc_me_heightIn 9 = .ok (.iload_n 2, 1) := by decide +kernel
theorem d_me_heightIn_10 : decode cc_me_heightIn 10 = .ok (.iconst 1, 1) := by decide +kernel
theorem d_me_heightIn_11 : decode cc_me_heightIn 11 = .ok (.invokevirtual 59, 3) := by decide +kernel
theorem d_me_heightIn_14 : decode cc_me_heightIn 14 = .ok (.istore 6, 2) := by decide +kernel
theorem d_me_heightIn_16 : decode cc_me_heightIn 16 = .ok (.aload_n 0, 1) := by decide +kernel
theorem d_me_heightIn_17 : decode cc_me_heightIn 17 = .ok (.iload_n 2, 1) := by decide +kernel
theorem d_me_heightIn_18 : decode cc_me_heightIn 18 = .ok (.iconst 2, 1) := by decide +kernel
theorem d_me_heightIn_19 : decode cc_me_heightIn 19 = .ok (.invokevirtual 59, 3) := by decide +kernel
theorem d_me_heightIn_22 : decode cc_me_heightIn 22 = .ok (.istore 7, 2) := by decide +kernel
theorem d_me_heightIn_24 : decode cc_me_heightIn 24 = .ok (.aload_n 1, 1) := by decide +kernel
theorem d_me_heightIn_25 : decode cc_me_heightIn 25 = .ok (.iload 5, 2) := by decide +kernel
theorem d_me_heightIn_27 : decode cc_me_heightIn 27 = .ok (.iload 6, 2) := by decide +kernel
theorem d_me_heightIn_29 : decode cc_me_heightIn 29 = .ok (.iload 7, 2) := by decide +kernel
theorem d_me_heightIn_31 : decode cc_me_heightIn 31 = .ok (.invokevirtual 39, 3) := by decide +kernel
theorem d_me_heightIn_34 : decode cc_me_heightIn 34 = .ok (.ifCond .le 7, 3) := by decide +kernel
theorem d_me_heightIn_37 : decode cc_me_heightIn 37 = .ok (.iconst 1, 1) := by decide +kernel
theorem d_me_heightIn_38 : decode cc_me_heightIn 38 = .ok (.goto 4, 3) := by decide +kernel
theorem d_me_heightIn_41 : decode cc_me_heightIn 41 = .ok (.iconst (-1), 1) := by decide +kernel
theorem d_me_heightIn_42 : decode cc_me_heightIn 42 = .ok (.istore 8, 2) := by decide +kernel
theorem d_me_heightIn_44 : decode cc_me_heightIn 44 = .ok (.iload 8, 2) := by decide +kernel
theorem d_me_heightIn_46 : decode cc_me_heightIn 46 = .ok (.aload_n 1, 1) := by decide +kernel
theorem d_me_heightIn_47 : decode cc_me_heightIn 47 = .ok (.iload 6, 2) := by decide +kernel
theorem d_me_heightIn_49 : decode cc_me_heightIn 49 = .ok (.iload 7, 2) := by decide +kernel
theorem d_me_heightIn_51 : decode cc_me_heightIn 51 = .ok (.iload_n 3, 1) := by decide +kernel
theorem d_me_heightIn_52 : decode cc_me_heightIn 52 = .ok (.iload 4, 2) := by decide +kernel
theorem d_me_heightIn_54 : decode cc_me_heightIn 54 = .ok (.invokevirtual 62, 3) := by decide +kernel
theorem d_me_heightIn_57 : decode cc_me_heightIn 57 = .ok (.imul, 1) := by decide +kernel
theorem d_me_heightIn_58 : decode cc_me_heightIn 58 = .ok (.istore 9, 2) := by decide +kernel
theorem d_me_heightIn_60 : decode cc_me_heightIn 60 = .ok (.iload 8, 2) := by decide +kernel
theorem d_me_heightIn_62 : decode cc_me_heightIn 62 = .ok (.aload_n 1, 1) := by decide +kernel
theorem d_me_heightIn_63 : decode cc_me_heightIn 63 = .ok (.iload 7, 2) := by decide +kernel
theorem d_me_heightIn_65 : decode cc_me_heightIn 65 = .ok (.iload 5, 2) := by decide +kernel
theorem d_me_heightIn_67 : decode cc_me_heightIn 67 = .ok (.iload_n 3, 1) := by decide +kernel
theorem d_me_heightIn_68 : decode cc_me_heightIn 68 = .ok (.iload 4, 2) := by decide +kernel
theorem d_me_heightIn_70 : decode cc_me_heightIn 70 = .ok (.invokevirtual 62, 3) := by decide +kernel
theorem d_me_heightIn_73 : decode cc_me_heightIn 73 = .ok (.imul, 1) := by decide +kernel
theorem d_me_heightIn_74 : decode cc_me_heightIn 74 = .ok (.istore 10, 2) := by decide +kernel
theorem d_me_heightIn_76 : decode cc_me_heightIn 76 = .ok (.iload 8, 2) := by decide +kernel
theorem d_me_heightIn_78 : decode cc_me_heightIn 78 = .ok (.aload_n 1, 1) := by decide +kernel
theorem d_me_heightIn_79 : decode cc_me_heightIn 79 = .ok (.iload 5, 2) := by decide +kernel
theorem d_me_heightIn_81 : decode cc_me_heightIn 81 = .ok (.iload 6, 2) := by decide +kernel
theorem d_me_heightIn_83 : decode cc_me_heightIn 83 = .ok (.iload_n 3, 1) := by decide +kernel
theorem d_me_heightIn_84 : decode cc_me_heightIn 84 = .ok (.iload 4, 2) := by decide +kernel
theorem d_me_heightIn_86 : decode cc_me_heightIn 86 = .ok (.invokevirtual 62, 3) := by decide +kernel
theorem d_me_heightIn_89 : decode cc_me_heightIn 89 = .ok (.imul, 1) := by decide +kernel
theorem d_me_heightIn_90 : decode cc_me_heightIn 90 = .ok (.istore 11, 2) := by decide +kernel
theorem d_me_heightIn_92 : decode cc_me_heightIn 92 = .ok (.iload 9, 2) := by decide +kernel
theorem d_me_heightIn_94 : decode cc_me_heightIn 94 = .ok (.iload 10, 2) := by decide +kernel
theorem d_me_heightIn_96 : decode cc_me_heightIn 96 = .ok (.iadd, 1) := by decide +kernel
theorem d_me_heightIn_97 : decode cc_me_heightIn 97 = .ok (.iload 11, 2) := by decide +kernel
theorem d_me_heightIn_99 : decode cc_me_heightIn 99 = .ok (.iadd, 1) := by decide +kernel
theorem d_me_heightIn_100 : decode cc_me_heightIn 100 = .ok (.istore 12, 2) := by decide +kernel
theorem d_me_heightIn_102 : decode cc_me_heightIn 102 = .ok (.iload 9, 2) := by decide +kernel
theorem d_me_heightIn_104 : decode cc_me_heightIn 104 = .ok (.ifCond .lt 18, 3) := by decide +kernel
theorem d_me_heightIn_107 : decode cc_me_heightIn 107 = .ok (.iload 10, 2) := by decide +kernel
theorem d_me_heightIn_109 : decode cc_me_heightIn 109 = .ok (.ifCond .lt 13, 3) := by decide +kernel
theorem d_me_heightIn_112 : decode cc_me_heightIn 112 = .ok (.iload 11, 2) := by decide +kernel
theorem d_me_heightIn_114 : decode cc_me_heightIn 114 = .ok (.ifCond .lt 8, 3) := by decide +kernel
theorem d_me_heightIn_117 : decode cc_me_heightIn 117 = .ok (.iload 12, 2) := by decide +kernel
theorem d_me_heightIn_119 : decode cc_me_heightIn 119 = .ok (.ifCond .ne 5, 3) := by decide +kernel
theorem d_me_heightIn_122 : decode cc_me_heightIn 122 = .ok (.iconst (-1), 1) := by decide +kernel
theorem d_me_heightIn_123 : decode cc_me_heightIn 123 = .ok (.ireturn, 1) := by decide +kernel
theorem d_me_heightIn_124 : decode cc_me_heightIn 124 = .ok (.iload 9, 2) := by decide +kernel
theorem d_me_heightIn_126 : decode cc_me_heightIn 126 = .ok (.aload_n 1, 1) := by decide +kernel
theorem d_me_heightIn_127 : decode cc_me_heightIn 127 = .ok (.iload 5, 2) := by decide +kernel
theorem d_me_heightIn_129 : decode cc_me_heightIn 129 = .ok (.invokevirtual 66, 3) := by decide +kernel
theorem d_me_heightIn_132 : decode cc_me_heightIn 132 = .ok (.imul, 1) := by decide +kernel
theorem d_me_heightIn_133 : decode cc_me_heightIn 133 = .ok (.iload 10, 2) := by decide +kernel
theorem d_me_heightIn_135 : decode cc_me_heightIn 135 = .ok (.aload_n 1, 1) := by decide +kernel
theorem d_me_heightIn_136 : decode cc_me_heightIn 136 = .ok (.iload 6, 2) := by decide +kernel
theorem d_me_heightIn_138 : decode cc_me_heightIn 138 = .ok (.invokevirtual 66, 3) := by decide +kernel
theorem d_me_heightIn_141 : decode cc_me_heightIn 141 = .ok (.imul, 1) := by decide +kernel
theorem d_me_heightIn_142 : decode cc_me_heightIn 142 = .ok (.iadd, 1) := by decide +kernel
theorem d_me_heightIn_143 : decode cc_me_heightIn 143 = .ok (.iload 11, 2) := by decide +kernel
theorem d_me_heightIn_145 : decode cc_me_heightIn 145 = .ok (.aload_n 1, 1) := by decide +kernel
theorem d_me_heightIn_146 : decode cc_me_heightIn 146 = .ok (.iload 7, 2) := by decide +kernel
theorem d_me_heightIn_148 : decode cc_me_heightIn 148 = .ok (.invokevirtual 66, 3) := by decide +kernel
theorem d_me_heightIn_151 : decode cc_me_heightIn 151 = .ok (.imul, 1) := by decide +kernel
theorem d_me_heightIn_152 : decode cc_me_heightIn 152 = .ok (.iadd, 1) := by decide +kernel
theorem d_me_heightIn_153 : decode cc_me_heightIn 153 = .ok (.iload 12, 2) := by decide +kernel
theorem d_me_heightIn_155 : decode cc_me_heightIn 155 = .ok (.invokestatic 70, 3) := by decide +kernel
theorem d_me_heightIn_158 : decode cc_me_heightIn 158 = .ok (.ireturn, 1) := by decide +kernel
