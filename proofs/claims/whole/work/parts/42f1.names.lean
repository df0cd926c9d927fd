/-! Names and decode rows, printed. -/
abbrev cc_mo_triangles : ByteArray := prog_7_method_13_code
def yy_mo_triangles : MethodName := ⟨"SpotContoursModel", "triangles", "()I"⟩
def ww_mo_triangles : List Cond := .code yy_mo_triangles cc_mo_triangles 1 (some .int) :: zz_B
theorem d_mo_triangles_0 : decode cc_mo_triangles 0 = .ok (.aload_n 0, 1) := by decide +kernel
theorem d_mo_triangles_1 : decode cc_mo_triangles 1 = .ok (.iconst 0, 1) := by decide +kernel
theorem d_mo_triangles_2 : decode cc_mo_triangles 2 = .ok (.putfield 56, 3) := by decide +kernel
theorem d_mo_triangles_5 : decode cc_mo_triangles 5 = .ok (.aload_n 0, 1) := by decide +kernel
theorem d_mo_triangles_6 : decode cc_mo_triangles 6 = .ok (.getfield 92, 3) := by decide +kernel
theorem d_mo_triangles_9 : decode cc_mo_triangles 9 = .ok (.ireturn, 1) := by decide +kernel
abbrev cc_mo_corner : ByteArray := prog_7_method_14_code
def yy_mo_corner : MethodName := ⟨"SpotContoursModel", "corner", "(II)I"⟩
def ww_mo_corner : List Cond := .code yy_mo_corner cc_mo_corner 3 (some .int) :: zz_B
theorem d_mo_corner_0 : decode cc_mo_corner 0 = .ok (.aload_n 0, 1) := by decide +kernel
theorem d_mo_corner_1 : decode cc_mo_corner 1 = .ok (.iload_n 1, 1) := by decide +kernel
theorem d_mo_corner_2 : decode cc_mo_corner 2 = .ok (.ifCond .lt 20, 3) := by decide +kernel
theorem d_mo_corner_5 : decode cc_mo_corner 5 = .ok (.iload_n 1, 1) := by decide +kernel
theorem d_mo_corner_6 : decode cc_mo_corner 6 = .ok (.aload_n 0, 1) := by decide +kernel
theorem d_mo_corner_7 : decode cc_mo_corner 7 = .ok (.getfield 92, 3) := by decide +kernel
theorem d_mo_corner_10 : decode cc_mo_corner 10 = .ok (.if_icmp .ge 12, 3) := by decide +kernel
theorem d_mo_corner_13 : decode cc_mo_corner 13 = .ok (.iload_n 2, 1) := by decide +kernel
theorem d_mo_corner_14 : decode cc_mo_corner 14 = .ok (.ifCond .lt 8, 3) := by decide +kernel
theorem d_mo_corner_17 : decode cc_mo_corner 17 = .ok (.iload_n 2, 1) := by decide +kernel
theorem d_mo_corner_18 : decode cc_mo_corner 18 = .ok (.iconst 2, 1) := by decide +kernel
theorem d_mo_corner_19 : decode cc_mo_corner 19 = .ok (.if_icmp .le 7, 3) := by decide +kernel
theorem d_mo_corner_22 : decode cc_mo_corner 22 = .ok (.iconst 1, 1) := by decide +kernel
theorem d_mo_corner_23 : decode cc_mo_corner 23 = .ok (.goto 4, 3) := by decide +kernel
theorem d_mo_corner_26 : decode cc_mo_corner 26 = .ok (.iconst 0, 1) := by decide +kernel
theorem d_mo_corner_27 : decode cc_mo_corner 27 = .ok (.putfield 56, 3) := by decide +kernel
theorem d_mo_corner_30 : decode cc_mo_corner 30 = .ok (.aload_n 0, 1) := by decide +kernel
theorem d_mo_corner_31 : decode cc_mo_corner 31 = .ok (.getfield 56, 3) := by decide +kernel
theorem d_mo_corner_34 : decode cc_mo_corner 34 = .ok (.ifCond .ne 16, 3) := by decide +kernel
theorem d_mo_corner_37 : decode cc_mo_corner 37 = .ok (.aload_n 0, 1) := by decide +kernel
theorem d_mo_corner_38 : decode cc_mo_corner 38 = .ok (.getfield 19, 3) := by decide +kernel
theorem d_mo_corner_41 : decode cc_mo_corner 41 = .ok (.iconst 3, 1) := by decide +kernel
theorem d_mo_corner_42 : decode cc_mo_corner 42 = .ok (.iload_n 1, 1) := by decide +kernel
theorem d_mo_corner_43 : decode cc_mo_corner 43 = .ok (.imul, 1) := by decide +kernel
theorem d_mo_corner_44 : decode cc_mo_corner 44 = .ok (.iload_n 2, 1) := by decide +kernel
theorem d_mo_corner_45 : decode cc_mo_corner 45 = .ok (.iadd, 1) := by decide +kernel
theorem d_mo_corner_46 : decode cc_mo_corner 46 = .ok (.iaload, 1) := by decide +kernel
theorem d_mo_corner_47 : decode cc_mo_corner 47 = .ok (.goto 4, 3) := by decide +kernel
theorem d_mo_corner_50 : decode cc_mo_corner 50 = .ok (.iconst 0, 1) := by decide +kernel
theorem d_mo_corner_51 : decode cc_mo_corner 51 = .ok (.ireturn, 1) := by decide +kernel
abbrev cc_mo_has : ByteArray := prog_7_method_15_code
def yy_mo_has : MethodName := ⟨"SpotContoursModel", "has", "(II)Z"⟩
def ww_mo_has : List Cond := .code yy_mo_has cc_mo_has 3 (some .boolean) :: zz_B
theorem d_mo_has_0 : decode cc_mo_has 0 = .ok (.aload_n 0, 1) := by decide +kernel
theorem d_mo_has_1 : decode cc_mo_has 1 = .ok (.getfield 19, 3) := by decide +kernel
theorem d_mo_has_4 : decode cc_mo_has 4 = .ok (.iconst 3, 1) := by decide +kernel
theorem d_mo_has_5 : decode cc_mo_has 5 = .ok (.iload_n 1, 1) := by decide +kernel
theorem d_mo_has_6 : decode cc_mo_has 6 = .ok (.imul, 1) := by decide +kernel
theorem d_mo_has_7 : decode cc_mo_has 7 = .ok (.iaload, 1) := by decide +kernel
theorem d_mo_has_8 : decode cc_mo_has 8 = .ok (.iload_n 2, 1) := by decide +kernel
theorem d_mo_has_9 : decode cc_mo_has 9 = .ok (.if_icmp .eq 31, 3) := by decide +kernel
theorem d_mo_has_12 : decode cc_mo_has 12 = .ok (.aload_n 0, 1) := by decide +kernel
theorem d_mo_has_13 : decode cc_mo_has 13 = .ok (.getfield 19, 3) := by decide +kernel
theorem d_mo_has_16 : decode cc_mo_has 16 = .ok (.iconst 3, 1) := by decide +kernel
theorem d_mo_has_17 : decode cc_mo_has 17 = .ok (.iload_n 1, 1) := by decide +kernel
theorem d_mo_has_18 : decode cc_mo_has 18 = .ok (.imul, 1) := by decide +kernel
theorem d_mo_has_19 : decode cc_mo_has 19 = .ok (.iconst 1, 1) := by decide +kernel
theorem d_mo_has_20 : decode cc_mo_has 20 = .ok (.iadd, 1) := by decide +kernel
theorem d_mo_has_21 : decode cc_mo_has 21 = .ok (.iaload, 1) := by decide +kernel
theorem d_mo_has_22 : decode cc_mo_has 22 = .ok (.iload_n 2, 1) := by decide +kernel
theorem d_mo_has_23 : decode cc_mo_has 23 = .ok (.if_icmp .eq 17, 3) := by decide +kernel
theorem d_mo_has_26 : decode cc_mo_has 26 = .ok (.aload_n 0, 1) := by decide +kernel
theorem d_mo_has_27 : decode cc_mo_has 27 = .ok (.getfield 19, 3) := by decide +kernel
theorem d_mo_has_30 : decode cc_mo_has 30 = .ok (.iconst 3, 1) := by decide +kernel
theorem d_mo_has_31 : decode cc_mo_has 31 = .ok (.iload_n 1, 1) := by decide +kernel
theorem d_mo_has_32 : decode cc_mo_has 32 = .ok (.imul, 1) := by decide +kernel
theorem d_mo_has_33 : decode cc_mo_has 33 = .ok (.iconst 2, 1) := by decide +kernel
theorem d_mo_has_34 : decode cc_mo_has 34 = .ok (.iadd, 1) := by decide +kernel
theorem d_mo_has_35 : decode cc_mo_has 35 = .ok (.iaload, 1) := by decide +kernel
theorem d_mo_has_36 : decode cc_mo_has 36 = .ok (.iload_n 2, 1) := by decide +kernel
theorem d_mo_has_37 : decode cc_mo_has 37 = .ok (.if_icmp .ne 7, 3) := by decide +kernel
theorem d_mo_has_40 : decode cc_mo_has 40 = .ok (.iconst 1, 1) := by decide +kernel
theorem d_mo_has_41 : decode cc_mo_has 41 = .ok (.goto 4, 3) := by decide +kernel
theorem d_mo_has_44 : decode cc_mo_has 44 = .ok (.iconst 0, 1) := by decide +kernel
theorem d_mo_has_45 : decode cc_mo_has 45 = .ok (.ireturn, 1) := by decide +kernel
abbrev cc_mo_edge : ByteArray := prog_7_method_16_code
def yy_mo_edge : MethodName := ⟨"SpotContoursModel", "edge", "(II)I"⟩
def ww_mo_edge : List Cond := .code yy_mo_edge cc_mo_edge 5 (some .int) :: zz_B
theorem d_mo_edge_0 : decode cc_mo_edge 0 = .ok (.aload_n 0, 1) := by decide +kernel
theorem d_mo_edge_1 : decode cc_mo_edge 1 = .ok (.aload_n 0, 1) := by decide +kernel
theorem d_mo_edge_2 : decode cc_mo_edge 2 = .ok (.iload_n 1, 1) := by decide +kernel
theorem d_mo_edge_3 : decode cc_mo_edge 3 = .ok (.invokevirtual 69, 3) := by decide +kernel
theorem d_mo_edge_6 : decode cc_mo_edge 6 = .ok (.ifCond .eq 15, 3) := by decide +kernel
theorem d_mo_edge_9 : decode cc_mo_edge 9 = .ok (.aload_n 0, 1) := by decide +kernel
theorem d_mo_edge_10 : decode cc_mo_edge 10 = .ok (.iload_n 2, 1) := by decide +kernel
theorem d_mo_edge_11 : decode cc_mo_edge 11 = .ok (.invokevirtual 69, 3) := by decide +kernel
theorem d_mo_edge_14 : decode cc_mo_edge 14 = .ok (.ifCond .eq 7, 3) := by decide +kernel
theorem d_mo_edge_17 : decode cc_mo_edge 17 = .ok (.iconst 0, 1) := by decide +kernel
theorem d_mo_edge_18 : decode cc_mo_edge 18 = .ok (.goto 4, 3) := by decide +kernel
theorem d_mo_edge_21 : decode cc_mo_edge 21 = .ok (.iconst 1, 1) := by decide +kernel
theorem d_mo_edge_22 : decode cc_mo_edge 22 = .ok (.putfield 56, 3) := by decide +kernel
theorem d_mo_edge_25 : decode cc_mo_edge 25 = .ok (.iconst 0, 1) := by decide +kernel
theorem d_mo_edge_26 : decode cc_mo_edge 26 = .ok (.istore_n 3, 1) := by decide +kernel
theorem d_mo_edge_27 : decode cc_mo_edge 27 = .ok (.iconst 0, 1) := by decide +kernel
theorem d_mo_edge_28 : decode cc_mo_edge 28 = .ok (.istore 4, 2) := by decide +kernel
theorem d_mo_edge_30 : decode cc_mo_edge 30 = .ok (.iload 4, 2) := by decide +kernel
theorem d_mo_edge_32 : decode cc_mo_edge 32 = .ok (.aload_n 0, 1) := by decide +kernel
theorem d_mo_edge_33 : decode cc_mo_edge 33 = .ok (.getfield 92, 3) := by decide +kernel
theorem d_mo_edge_36 : decode cc_mo_edge 36 = .ok (.if_icmp .ge 49, 3) := by decide +kernel
theorem d_mo_edge_39 : decode cc_mo_edge 39 = .ok (.aload_n 0, 1) := by decide +kernel
theorem d_mo_edge_40 : decode cc_mo_edge 40 = .ok (.getfield 56, 3) := by decide +kernel
theorem d_mo_edge_43 : decode cc_mo_edge 43 = .ok (.ifCond .ne 42, 3) := by decide +kernel
theorem d_mo_edge_46 : decode cc_mo_edge 46 = .ok (.iload_n 1, 1) := by decide +kernel
theorem d_mo_edge_47 : decode cc_mo_edge 47 = .ok (.iload_n 2, 1) := by decide +kernel
theorem d_mo_edge_48 : decode cc_mo_edge 48 = .ok (.if_icmp .eq 37, 3) := by decide +kernel
theorem d_mo_edge_51 : decode cc_mo_edge 51 = .ok (.iload_n 3, 1) := by decide +kernel
theorem d_mo_edge_52 : decode cc_mo_edge 52 = .ok (.aload_n 0, 1) := by decide +kernel
theorem d_mo_edge_53 : decode cc_mo_edge 53 = .ok (.iload 4, 2) := by decide +kernel
theorem d_mo_edge_55 : decode cc_mo_edge 55 = .ok (.iload_n 1, 1) := by decide +kernel
theorem d_mo_edge_56 : decode cc_mo_edge 56 = .ok (.invokevirtual 99, 3) := by decide +kernel
theorem d_mo_edge_59 : decode cc_mo_edge 59 = .ok (.ifCond .eq 17, 3) := by decide +kernel
theorem d_mo_edge_62 : decode cc_mo_edge 62 = .ok (.aload_n 0, 1) := by decide +kernel
theorem d_mo_edge_63 : decode cc_mo_edge 63 = .ok (.iload 4, 2) := by decide +kernel
theorem d_mo_edge_65 : decode cc_mo_edge 65 = .ok (.iload_n 2, 1) := by decide +kernel
theorem d_mo_edge_66 : decode cc_mo_edge 66 = .ok (.invokevirtual 99, 3) := by decide +kernel
theorem d_mo_edge_69 : decode cc_mo_edge 69 = .ok (.ifCond .eq 7, 3) := by decide +kernel
theorem d_mo_edge_72 : decode cc_mo_edge 72 = .ok (.iconst 1, 1) := by decide +kernel
theorem d_mo_edge_73 : decode cc_mo_edge 73 = .ok (.goto 4, 3) := by decide +kernel
theorem d_mo_edge_76 : decode cc_mo_edge 76 = .ok (.iconst 0, 1) := by decide +kernel
theorem d_mo_edge_77 : decode cc_mo_edge 77 = .ok (.iadd, 1) := by decide +kernel
theorem d_mo_edge_78 : decode cc_mo_edge 78 = .ok (.istore_n 3, 1) := by decide +kernel
theorem d_mo_edge_79 : decode cc_mo_edge 79 = .ok (.iinc 4 1, 3) := by decide +kernel
theorem d_mo_edge_82 : decode cc_mo_edge 82 = .ok (.goto (-52), 3) := by decide +kernel
theorem d_mo_edge_85 : decode cc_mo_edge 85 = .ok (.iload_n 3, 1) := by decide +kernel
theorem d_mo_edge_86 : decode cc_mo_edge 86 = .ok (.ireturn, 1) := by decide +kernel
abbrev cc_mo_toPlace : ByteArray := prog_7_method_17_code
def yy_mo_toPlace : MethodName := ⟨"SpotContoursModel", "toPlace", "(IIII)J"⟩
def ww_mo_toPlace : List Cond := .code yy_mo_toPlace cc_mo_toPlace 5 (some .long) :: zz_B
theorem d_mo_toPlace_0 : decode cc_mo_toPlace 0 = .ok (.aload_n 0, 1) := by decide +kernel
theorem d_mo_toPlace_1 : decode cc_mo_toPlace 1 = .ok (.getfield 7, 3) := by decide +kernel
theorem d_mo_toPlace_4 : decode cc_mo_toPlace 4 = .ok (.iload_n 2, 1) := by decide +kernel
theorem d_mo_toPlace_5 : decode cc_mo_toPlace 5 = .ok (.iaload, 1) := by decide +kernel
theorem d_mo_toPlace_6 : decode cc_mo_toPlace 6 = .ok (.aload_n 0, 1) := by decide +kernel
theorem d_mo_toPlace_7 : decode cc_mo_toPlace 7 = .ok (.getfield 7, 3) := by decide +kernel
theorem d_mo_toPlace_10 : decode cc_mo_toPlace 10 = .ok (.iload_n 1, 1) := by decide +kernel
theorem d_mo_toPlace_11 : decode cc_mo_toPlace 11 = .ok (.iaload, 1) := by decide +kernel
theorem d_mo_toPlace_12 : decode cc_mo_toPlace 12 = .ok (.isub, 1) := by decide +kernel
theorem d_mo_toPlace_13 : decode cc_mo_toPlace 13 = .ok (.i2l, 1) := by decide +kernel
theorem d_mo_toPlace_14 : decode cc_mo_toPlace 14 = .ok (.iload 4, 2) := by decide +kernel
theorem d_mo_toPlace_16 : decode cc_mo_toPlace 16 = .ok (.i2l, 1) := by decide +kernel
theorem d_mo_toPlace_17 : decode cc_mo_toPlace 17 = .ok (.aload_n 0, 1) := by decide +kernel
theorem d_mo_toPlace_18 : decode cc_mo_toPlace 18 = .ok (.getfield 13, 3) := by decide +kernel
theorem d_mo_toPlace_21 : decode cc_mo_toPlace 21 = .ok (.iload_n 1, 1) := by decide +kernel
theorem d_mo_toPlace_22 : decode cc_mo_toPlace 22 = .ok (.iaload, 1) := by decide +kernel
theorem d_mo_toPlace_23 : decode cc_mo_toPlace 23 = .ok (.i2l, 1) := by decide +kernel
theorem d_mo_toPlace_24 : decode cc_mo_toPlace 24 = .ok (.lsub, 1) := by decide +kernel
theorem d_mo_toPlace_25 : decode cc_mo_toPlace 25 = .ok (.lmul, 1) := by decide +kernel
theorem d_mo_toPlace_26 : decode cc_mo_toPlace 26 = .ok (.aload_n 0, 1) := by decide +kernel
theorem d_mo_toPlace_27 : decode cc_mo_toPlace 27 = .ok (.getfield 13, 3) := by decide +kernel
theorem d_mo_toPlace_30 : decode cc_mo_toPlace 30 = .ok (.iload_n 2, 1) := by decide +kernel
theorem d_mo_toPlace_31 : decode cc_mo_toPlace 31 = .ok (.iaload, 1) := by decide +kernel
theorem d_mo_toPlace_32 : decode cc_mo_toPlace 32 = .ok (.aload_n 0, 1) := by decide +kernel
theorem d_mo_toPlace_33 : decode cc_mo_toPlace 33 = .ok (.getfield 13, 3) := by decide +kernel
theorem d_mo_toPlace_36 : decode cc_mo_toPlace 36 = .ok (.iload_n 1, 1) := by decide +kernel
theorem d_mo_toPlace_37 : decode cc_mo_toPlace 37 = .ok (.iaload, 1) := by decide +kernel
theorem d_mo_toPlace_38 : decode cc_mo_toPlace 38 = .ok (.isub, 1) := by decide +kernel
theorem d_mo_toPlace_39 : decode cc_mo_toPlace 39 = .ok (.i2l, 1) := by decide +kernel
theorem d_mo_toPlace_40 : decode cc_mo_toPlace 40 = .ok (.iload_n 3, 1) := by decide +kernel
theorem d_mo_toPlace_41 : decode cc_mo_toPlace 41 = .ok (.i2l, 1) := by decide +kernel
theorem d_mo_toPlace_42 : decode cc_mo_toPlace 42 = .ok (.aload_n 0, 1) := by decide +kernel
theorem d_mo_toPlace_43 : decode cc_mo_toPlace 43 = .ok (.getfield 7, 3) := by decide +kernel
theorem d_mo_toPlace_46 : decode cc_mo_toPlace 46 = .ok (.iload_n 1, 1) := by decide +kernel
theorem d_mo_toPlace_47 : decode cc_mo_toPlace 47 = .ok (.iaload, 1) := by decide +kernel
theorem d_mo_toPlace_48 : decode cc_mo_toPlace 48 = .ok (.i2l, 1) := by decide +kernel
theorem d_mo_toPlace_49 : decode cc_mo_toPlace 49 = .ok (.lsub, 1) := by decide +kernel
theorem d_mo_toPlace_50 : decode cc_mo_toPlace 50 = .ok (.lmul, 1) := by decide +kernel
theorem d_mo_toPlace_51 : decode cc_mo_toPlace 51 = .ok (.lsub, 1) := by decide +kernel
theorem d_mo_toPlace_52 : decode cc_mo_toPlace 52 = .ok (.lreturn, 1) := by decide +kernel
abbrev cc_mo_floor : ByteArray := prog_7_method_18_code
def yy_mo_floor : MethodName := ⟨"SpotContoursModel", "floor", "(JJ)J"⟩
def ww_mo_floor : List Cond := .code yy_mo_floor cc_mo_floor 6 (some .long) :: zz_B
theorem d_mo_floor_0 : decode cc_mo_floor 0 = .ok (.lload_n 0, 1) := by decide +kernel
theorem d_mo_floor_1 : decode cc_mo_floor 1 = .ok (.lload_n 2, 1) := by decide +kernel
theorem d_mo_floor_2 : decode cc_mo_floor 2 = .ok (.ldiv, 1) := by decide +kernel
theorem d_mo_floor_3 : decode cc_mo_floor 3 = .ok (.lstore 4, 2) := by decide +kernel
theorem d_mo_floor_5 : decode cc_mo_floor 5 = .ok (.lload 4, 2) := by decide +kernel
theorem d_mo_floor_7 : decode cc_mo_floor 7 = .ok (.lload_n 2, 1) := by decide +kernel
theorem d_mo_floor_8 : decode cc_mo_floor 8 = .ok (.lmul, 1) := by decide +kernel
theorem d_mo_floor_9 : decode cc_mo_floor 9 = .ok (.lload_n 0, 1) := by decide +kernel
theorem d_mo_floor_10 : decode cc_mo_floor 10 = .ok (.lcmp, 1) := by decide +kernel
theorem d_mo_floor_11 : decode cc_mo_floor 11 = .ok (.ifCond .le 10, 3) := by decide +kernel
theorem d_mo_floor_14 : decode cc_mo_floor 14 = .ok (.lload 4, 2) := by decide +kernel
theorem d_mo_floor_16 : decode cc_mo_floor 16 = .ok (.lconst 1, 1) := by decide +kernel
theorem d_mo_floor_17 : decode cc_mo_floor 17 = .ok (.lsub, 1) := by decide +kernel
theorem d_mo_floor_18 : decode cc_mo_floor 18 = .ok (.goto 5, 3) := by decide +kernel
theorem d_mo_floor_21 : decode cc_mo_floor 21 = .ok (.lload 4, 2) := by decide +kernel
theorem d_mo_floor_23 : decode cc_mo_floor 23 = .ok (.lreturn, 1) := by decide +kernel
abbrev cc_mo_at : ByteArray := prog_7_method_19_code
def yy_mo_at : MethodName := ⟨"SpotContoursModel", "at", "(II)I"⟩
def ww_mo_at : List Cond := .code yy_mo_at cc_mo_at 15 (some .int) :: zz_B
theorem d_mo_at_0 : decode cc_mo_at 0 = .ok (.aload_n 0, 1) := by decide +kernel
theorem d_mo_at_1 : decode cc_mo_at 1 = .ok (.iconst 1, 1) := by decide +kernel
theorem d_mo_at_2 : decode cc_mo_at 2 = .ok (.putfield 56, 3) := by decide +kernel
theorem d_mo_at_5 : decode cc_mo_at 5 = .ok (.iconst 0, 1) := by decide +kernel
theorem d_mo_at_6 : decode cc_mo_at 6 = .ok (.istore_n 3, 1) := by decide +kernel
theorem d_mo_at_7 : decode cc_mo_at 7 = .ok (.iconst 0, 1) := by decide +kernel
theorem d_mo_at_8 : decode cc_mo_at 8 = .ok (.istore 4, 2) := by decide +kernel
theorem d_mo_at_10 : decode cc_mo_at 10 = .ok (.iload 4, 2) := by decide +kernel
theorem d_mo_at_12 : decode cc_mo_at 12 = .ok (.aload_n 0, 1) := by decide +kernel
theorem d_mo_at_13 : decode cc_mo_at 13 = .ok (.getfield 92, 3) := by decide +kernel
theorem d_mo_at_16 : decode cc_mo_at 16 = .ok (.if_icmp .ge 196, 3) := by decide +kernel
theorem d_mo_at_19 : decode cc_mo_at 19 = .ok (.aload_n 0, 1) := by decide +kernel
theorem d_mo_at_20 : decode cc_mo_at 20 = .ok (.getfield 56, 3) := by decide +kernel
theorem d_mo_at_23 : decode cc_mo_at 23 = .ok (.iconst 1, 1) := by decide +kernel
theorem d_mo_at_24 : decode cc_mo_at 24 = .ok (.if_icmp .ne 188, 3) := by decide +kernel
theorem d_mo_at_27 : decode cc_mo_at 27 = .ok (.aload_n 0, 1) := by decide +kernel
theorem d_mo_at_28 : decode cc_mo_at 28 = .ok (.getfield 19, 3) := by decide +kernel
theorem d_mo_at_31 : decode cc_mo_at 31 = .ok (.iconst 3, 1) := by decide +kernel
theorem d_mo_at_32 : decode cc_mo_at 32 = .ok (.iload 4, 2) := by decide +kernel
theorem d_mo_at_34 : decode cc_mo_at 34 = .ok (.imul, 1) := by decide +kernel
theorem d_mo_at_35 : decode cc_mo_at 35 = .ok (.iaload, 1) := by decide +kernel
theorem d_mo_at_36 : decode cc_mo_at 36 = .ok (.istore 5, 2) := by decide +kernel
theorem d_mo_at_38 : decode cc_mo_at 38 = .ok (.aload_n 0, 1) := by decide +kernel
theorem d_mo_at_39 : decode cc_mo_at 39 = .ok (.getfield 19, 3) := by decide +kernel
theorem d_mo_at_42 : decode cc_mo_at 42 = .ok (.iconst 3, 1) := by decide +kernel
theorem d_mo_at_43 : decode cc_mo_at 43 = .ok (.iload 4, 2) := by decide +kernel
theorem d_mo_at_45 : decode cc_mo_at 45 = .ok (.imul, 1) := by decide +kernel
theorem d_mo_at_46 : decode cc_mo_at 46 = .ok (.iconst 1, 1) := by decide +kernel
theorem d_mo_at_47 : decode cc_mo_at 47 = .ok (.iadd, 1) := by decide +kernel
theorem d_mo_at_48 : decode cc_mo_at 48 = .ok (.iaload, 1) := by decide +kernel
theorem d_mo_at_49 : decode cc_mo_at 49 = .ok (.istore 6, 2) := by decide +kernel
theorem d_mo_at_51 : decode cc_mo_at 51 = .ok (.aload_n 0, 1) := by decide +kernel
theorem d_mo_at_52 : decode cc_mo_at 52 = .ok (.getfield 19, 3) := by decide +kernel
theorem d_mo_at_55 : decode cc_mo_at 55 = .ok (.iconst 3, 1) := by decide +kernel
theorem d_mo_at_56 : decode cc_mo_at 56 = .ok (.iload 4, 2) := by decide +kernel
theorem d_mo_at_58 : decode cc_mo_at 58 = .ok (.imul, 1) := by decide +kernel
theorem d_mo_at_59 : decode cc_mo_at 59 = .ok (.iconst 2, 1) := by decide +kernel
theorem d_mo_at_60 : decode cc_mo_at 60 = .ok (.iadd, 1) := by decide +kernel
theorem d_mo_at_61 : decode cc_mo_at 61 = .ok (.iaload, 1) := by decide +kernel
theorem d_mo_at_62 : decode cc_mo_at 62 = .ok (.istore 7, 2) := by decide +kernel
theorem d_mo_at_64 : decode cc_mo_at 64 = .ok (.aload_n 0, 1) := by decide +kernel
theorem d_mo_at_65 : decode cc_mo_at 65 = .ok (.iload 5, 2) := by decide +kernel
theorem d_mo_at_67 : decode cc_mo_at 67 = .ok (.iload 6, 2) := by decide +kernel
theorem d_mo_at_69 : decode cc_mo_at 69 = .ok (.iload 7, 2) := by decide +kernel
theorem d_mo_at_71 : decode cc_mo_at 71 = .ok (.invokevirtual 77, 3) := by decide +kernel
theorem d_mo_at_74 : decode cc_mo_at 74 = .ok (.ifCond .le 7, 3) := by decide +kernel
theorem d_mo_at_77 : decode cc_mo_at 77 = .ok (.iconst 1, 1) := by decide +kernel
theorem d_mo_at_78 : decode cc_mo_at 78 = .ok (.goto 4, 3) := by decide +kernel
theorem d_mo_at_81 : decode cc_mo_at 81 = .ok (.iconst (-1), 1) := by decide +kernel
theorem d_mo_at_82 : decode cc_mo_at 82 = .ok (.istore 8, 2) := by decide +kernel
theorem d_mo_at_84 : decode cc_mo_at 84 = .ok (.iload 8, 2) := by decide +kernel
theorem d_mo_at_86 : decode cc_mo_at 86 = .ok (.i2l, 1) := by decide +kernel
theorem d_mo_at_87 : decode cc_mo_at 87 = .ok (.aload_n 0, 1) := by decide +kernel
theorem d_mo_at_88 : decode cc_mo_at 88 = .ok (.iload 6, 2) := by decide +kernel
theorem d_mo_at_90 : decode cc_mo_at 90 = .ok (.iload 7, 2) := by decide +kernel
theorem d_mo_at_92 : decode cc_mo_at 92 = .ok (.iload_n 1, 1) := by decide +kernel
theorem d_mo_at_93 : decode cc_mo_at 93 = .ok (.iload_n 2, 1) := by decide +kernel
theorem d_mo_at_94 : decode cc_mo_at 94 = .ok (.invokevirtual 103, 3) := by decide +kernel
theorem d_mo_at_97 : decode cc_mo_at 97 = .ok (.lmul, 1) := by decide +kernel
theorem d_mo_at_98 : decode cc_mo_at 98 = .ok (.lstore 9, 2) := by decide +kernel
theorem d_mo_at_100 : decode cc_mo_at 100 = .ok (.iload 8, 2) := by decide +kernel
theorem d_mo_at_102 : decode cc_mo_at 102 = .ok (.i2l, 1) := by decide +kernel
theorem d_mo_at_103 : decode cc_mo_at 103 = .ok (.aload_n 0, 1) := by decide +kernel
theorem d_mo_at_104 : decode cc_mo_at 104 = .ok (.iload 7, 2) := by decide +kernel
theorem d_mo_at_106 : decode cc_mo_at 106 = .ok (.iload 5, 2) := by decide +kernel
theorem d_mo_at_108 : decode cc_mo_at 108 = .ok (.iload_n 1, 1) := by decide +kernel
theorem d_mo_at_109 : decode cc_mo_at 109 = .ok (.iload_n 2, 1) := by decide +kernel
theorem d_mo_at_110 : decode cc_mo_at 110 = .ok (.invokevirtual 103, 3) := by decide +kernel
theorem d_mo_at_113 : decode cc_mo_at 113 = .ok (.lmul, 1) := by decide +kernel
theorem d_mo_at_114 : decode cc_mo_at 114 = .ok (.lstore 11, 2) := by decide +kernel
theorem d_mo_at_116 : decode cc_mo_at 116 = .ok (.iload 8, 2) := by decide +kernel
theorem d_mo_at_118 : decode cc_mo_at 118 = .ok (.i2l, 1) := by decide +kernel
theorem d_mo_at_119 : decode cc_mo_at 119 = .ok (.aload_n 0, 1) := by decide +kernel
theorem d_mo_at_120 : decode cc_mo_at 120 = .ok (.iload 5, 2) := by decide +kernel
theorem d_mo_at_122 : decode cc_mo_at 122 = .ok (.iload 6, 2) := by decide +kernel
theorem d_mo_at_124 : decode cc_mo_at 124 = .ok (.iload_n 1, 1) := by decide +kernel
theorem d_mo_at_125 : decode cc_mo_at 125 = .ok (.iload_n 2, 1) := by decide +kernel
theorem d_mo_at_126 : decode cc_mo_at 126 = .ok (.invokevirtual 103, 3) := by decide +kernel
theorem d_mo_at_129 : decode cc_mo_at 129 = .ok (.lmul, 1) := by decide +kernel
theorem d_mo_at_130 : decode cc_mo_at 130 = .ok (.lstore 13, 2) := by decide +kernel
theorem d_mo_at_132 : decode cc_mo_at 132 = .ok (.lload 9, 2) := by decide +kernel
theorem d_mo_at_134 : decode cc_mo_at 134 = .ok (.lconst 0, 1) := by decide +kernel
theorem d_mo_at_135 : decode cc_mo_at 135 = .ok (.lcmp, 1) := by decide +kernel
theorem d_mo_at_136 : decode cc_mo_at 136 = .ok (.ifCond .lt 70, 3) := by decide +kernel
theorem d_mo_at_139 : decode cc_mo_at 139 = .ok (.lload 11, 2) := by decide +kernel
theorem d_mo_at_141 : decode cc_mo_at 141 = .ok (.lconst 0, 1) := by decide +kernel
theorem d_mo_at_142 : decode cc_mo_at 142 = .ok (.lcmp, 1) := by decide +kernel
theorem d_mo_at_143 : decode cc_mo_at 143 = .ok (.ifCond .lt 63, 3) := by decide +kernel
theorem d_mo_at_146 : decode cc_mo_at 146 = .ok (.lload 13, 2) := by decide +kernel
theorem d_mo_at_148 : decode cc_mo_at 148 = .ok (.lconst 0, 1) := by decide +kernel
theorem d_mo_at_149 : decode cc_mo_at 149 = .ok (.lcmp, 1) := by decide +kernel
theorem d_mo_at_150 : decode cc_mo_at 150 = .ok (.ifCond .lt 56, 3) := by decide +kernel
theorem d_mo_at_153 : decode cc_mo_at 153 = .ok (.lload 9, 2) := by decide +kernel
theorem d_mo_at_155 : decode cc_mo_at 155 = .ok (.aload_n 0, 1) := by decide +kernel
theorem d_mo_at_156 : decode cc_mo_at 156 = .ok (.getfield 16, 3) := by decide +kernel
theorem d_mo_at_159 : decode cc_mo_at 159 = .ok (.iload 5, 2) := by decide +kernel
theorem d_mo_at_161 : decode cc_mo_at 161 = .ok (.iaload, 1) := by decide +kernel
theorem d_mo_at_162 : decode cc_mo_at 162 = .ok (.i2l, 1) := by decide +kernel
theorem d_mo_at_163 : decode cc_mo_at 163 = .ok (.lmul, 1) := by decide +kernel
theorem d_mo_at_164 : decode cc_mo_at 164 = .ok (.lload 11, 2) := by decide +kernel
theorem d_mo_at_166 : decode cc_mo_at 166 = .ok (.aload_n 0, 1) := by decide +kernel
theorem d_mo_at_167 : decode cc_mo_at 167 = .ok (.getfield 16, 3) := by decide +kernel
theorem d_mo_at_170 : decode cc_mo_at 170 = .ok (.iload 6, 2) := by decide +kernel
theorem d_mo_at_172 : decode cc_mo_at 172 = .ok (.iaload, 1) := by decide +kernel
theorem d_mo_at_173 : decode cc_mo_at 173 = .ok (.i2l, 1) := by decide +kernel
theorem d_mo_at_174 : decode cc_mo_at 174 = .ok (.lmul, 1) := by decide +kernel
theorem d_mo_at_175 : decode cc_mo_at 175 = .ok (.ladd, 1) := by decide +kernel
theorem d_mo_at_176 : decode cc_mo_at 176 = .ok (.lload 13, 2) := by decide +kernel
theorem d_mo_at_178 : decode cc_mo_at 178 = .ok (.aload_n 0, 1) := by decide +kernel
theorem d_mo_at_179 : decode cc_mo_at 179 = .ok (.getfield 16, 3) := by decide +kernel
theorem d_mo_at_182 : decode cc_mo_at 182 = .ok (.iload 7, 2) := by decide +kernel
theorem d_mo_at_184 : decode cc_mo_at 184 = .ok (.iaload, 1) := by decide +kernel
theorem d_mo_at_185 : decode cc_mo_at 185 = .ok (.i2l, 1) := by decide +kernel
theorem d_mo_at_186 : decode cc_mo_at 186 = .ok (.lmul, 1) := by decide +kernel
theorem d_mo_at_187 : decode cc_mo_at 187 = .ok (.ladd, 1) := by decide +kernel
theorem d_mo_at_188 : decode cc_mo_at 188 = .ok (.lload 9, 2) := by decide +kernel
theorem d_mo_at_190 : decode cc_mo_at 190 = .ok (.lload 11, 2) := by decide +kernel
theorem d_mo_at_192 : decode cc_mo_at 192 = .ok (.ladd, 1) := by decide +kernel
theorem d_mo_at_193 : decode cc_mo_at 193 = .ok (.lload 13, 2) := by decide +kernel
theorem d_mo_at_195 : decode cc_mo_at 195 = .ok (.ladd, 1) := by decide +kernel
theorem d_mo_at_196 : decode cc_mo_at 196 = .ok (.invokestatic 106, 3) := by decide +kernel
theorem d_mo_at_199 : decode cc_mo_at 199 = .ok (.l2i, 1) := by decide +kernel
theorem d_mo_at_200 : decode cc_mo_at 200 = .ok (.istore_n 3, 1) := by decide +kernel
theorem d_mo_at_201 : decode cc_mo_at 201 = .ok (.aload_n 0, 1) := by decide +kernel
theorem d_mo_at_202 : decode cc_mo_at 202 = .ok (.iconst 0, 1) := by decide +kernel
theorem d_mo_at_203 : decode cc_mo_at 203 = .ok (.putfield 56, 3) := by decide +kernel
theorem d_mo_at_206 : decode cc_mo_at 206 = .ok (.iinc 4 1, 3) := by decide +kernel
theorem d_mo_at_209 : decode cc_mo_at 209 = .ok (.goto (-199), 3) := by decide +kernel
theorem d_mo_at_212 : decode cc_mo_at 212 = .ok (.iload_n 3, 1) := by decide +kernel
theorem d_mo_at_213 : decode cc_mo_at 213 = .ok (.ireturn, 1) := by decide +kernel
abbrev cc_mo_isHigh : ByteArray := prog_7_method_20_code
def yy_mo_isHigh : MethodName := ⟨"SpotContoursModel", "isHigh", "(II)Z"⟩
def ww_mo_isHigh : List Cond := .code yy_mo_isHigh cc_mo_isHigh 3 (some .boolean) :: zz_B
theorem d_mo_isHigh_0 : decode cc_mo_isHigh 0 = .ok (.aload_n 0, 1) := by decide +kernel
theorem d_mo_isHigh_1 : decode cc_mo_isHigh 1 = .ok (.getfield 16, 3) := by decide +kernel
theorem d_mo_isHigh_4 : decode cc_mo_isHigh 4 = .ok (.iload_n 1, 1) := by decide +kernel
theorem d_mo_isHigh_5 : decode cc_mo_isHigh 5 = .ok (.iaload, 1) := by decide +kernel
theorem d_mo_isHigh_6 : decode cc_mo_isHigh 6 = .ok (.iload_n 2, 1) := by decide +kernel
theorem d_mo_isHigh_7 : decode cc_mo_isHigh 7 = .ok (.if_icmp .le 7, 3) := by decide +kernel
theorem d_mo_isHigh_10 : decode cc_mo_isHigh 10 = .ok (.iconst 1, 1) := by decide +kernel
theorem d_mo_isHigh_11 : decode cc_mo_isHigh 11 = .ok (.goto 4, 3) := by decide +kernel
theorem d_mo_isHigh_14 : decode cc_mo_isHigh 14 = .ok (.iconst 0, 1) := by decide +kernel
theorem d_mo_isHigh_15 : decode cc_mo_isHigh 15 = .ok (.ireturn, 1) := by decide +kernel
abbrev cc_mo_edgeOf : ByteArray := prog_7_method_21_code
def yy_mo_edgeOf : MethodName := ⟨"SpotContoursModel", "edgeOf", "(II)I"⟩
def ww_mo_edgeOf : List Cond := .code yy_mo_edgeOf cc_mo_edgeOf 2 (some .int) :: zz_B
theorem d_mo_edgeOf_0 : decode cc_mo_edgeOf 0 = .ok (.iload_n 0, 1) := by decide +kernel
theorem d_mo_edgeOf_1 : decode cc_mo_edgeOf 1 = .ok (.iload_n 1, 1) := by decide +kernel
theorem d_mo_edgeOf_2 : decode cc_mo_edgeOf 2 = .ok (.if_icmp .ge 12, 3) := by decide +kernel
theorem d_mo_edgeOf_5 : decode cc_mo_edgeOf 5 = .ok (.bipush 16, 2) := by decide +kernel
theorem d_mo_edgeOf_7 : decode cc_mo_edgeOf 7 = .ok (.iload_n 0, 1) := by decide +kernel
theorem d_mo_edgeOf_8 : decode cc_mo_edgeOf 8 = .ok (.imul, 1) := by decide +kernel
theorem d_mo_edgeOf_9 : decode cc_mo_edgeOf 9 = .ok (.iload_n 1, 1) := by decide +kernel
theorem d_mo_edgeOf_10 : decode cc_mo_edgeOf 10 = .ok (.iadd, 1) := by decide +kernel
theorem d_mo_edgeOf_11 : decode cc_mo_edgeOf 11 = .ok (.goto 9, 3) := by decide +kernel
theorem d_mo_edgeOf_14 : decode cc_mo_edgeOf 14 = .ok (.bipush 16, 2) := by decide +kernel
theorem d_mo_edgeOf_16 : decode cc_mo_edgeOf 16 = .ok (.iload_n 1, 1) := by decide +kernel
theorem d_mo_edgeOf_17 : decode cc_mo_edgeOf 17 = .ok (.imul, 1) := by decide +kernel
theorem d_mo_edgeOf_18 : decode cc_mo_edgeOf 18 = .ok (.iload_n 0, 1) := by decide +kernel
theorem d_mo_edgeOf_19 : decode cc_mo_edgeOf 19 = .ok (.iadd, 1) := by decide +kernel
theorem d_mo_edgeOf_20 : decode cc_mo_edgeOf 20 = .ok (.ireturn, 1) := by decide +kernel
abbrev cc_mo_join : ByteArray := prog_7_method_22_code
def yy_mo_join : MethodName := ⟨"SpotContoursModel", "join", "(IIII)V"⟩
def ww_mo_join : List Cond := .code yy_mo_join cc_mo_join 6 none :: zz_B
theorem d_mo_join_0 : decode cc_mo_join 0 = .ok (.aload_n 0, 1) := by decide +kernel
theorem d_mo_join_1 : decode cc_mo_join 1 = .ok (.iload_n 2, 1) := by decide +kernel
theorem d_mo_join_2 : decode cc_mo_join 2 = .ok (.iload_n 1, 1) := by decide +kernel
theorem d_mo_join_3 : decode cc_mo_join 3 = .ok (.iload_n 3, 1) := by decide +kernel
theorem d_mo_join_4 : decode cc_mo_join 4 = .ok (.invokevirtual 77, 3) := by decide +kernel
theorem d_mo_join_7 : decode cc_mo_join 7 = .ok (.ifCond .lt 4, 3) := by decide +kernel
theorem d_mo_join_10 : decode cc_mo_join 10 = .ok (.return_, 1) := by decide +kernel
theorem d_mo_join_11 : decode cc_mo_join 11 = .ok (.aload_n 0, 1) := by decide +kernel
theorem d_mo_join_12 : decode cc_mo_join 12 = .ok (.iload_n 3, 1) := by decide +kernel
theorem d_mo_join_13 : decode cc_mo_join 13 = .ok (.iload 4, 2) := by decide +kernel
theorem d_mo_join_15 : decode cc_mo_join 15 = .ok (.invokevirtual 110, 3) := by decide +kernel
theorem d_mo_join_18 : decode cc_mo_join 18 = .ok (.ifCond .eq 11, 3) := by decide +kernel
theorem d_mo_join_21 : decode cc_mo_join 21 = .ok (.iload_n 3, 1) := by decide +kernel
theorem d_mo_join_22 : decode cc_mo_join 22 = .ok (.iload_n 2, 1) := by decide +kernel
theorem d_mo_join_23 : decode cc_mo_join 23 = .ok (.invokestatic 113, 3) := by decide +kernel
theorem d_mo_join_26 : decode cc_mo_join 26 = .ok (.goto 8, 3) := by decide +kernel
theorem d_mo_join_29 : decode cc_mo_join 29 = .ok (.iload_n 1, 1) := by decide +kernel
theorem d_mo_join_30 : decode cc_mo_join 30 = .ok (.iload_n 3, 1) := by decide +kernel
theorem d_mo_join_31 : decode cc_mo_join 31 = .ok (.invokestatic 113, 3) := by decide +kernel
theorem d_mo_join_34 : decode cc_mo_join 34 = .ok (.istore 5, 2) := by decide +kernel
theorem d_mo_join_36 : decode cc_mo_join 36 = .ok (.aload_n 0, 1) := by decide +kernel
theorem d_mo_join_37 : decode cc_mo_join 37 = .ok (.getfield 26, 3) := by decide +kernel
theorem d_mo_join_40 : decode cc_mo_join 40 = .ok (.iload_n 1, 1) := by decide +kernel
theorem d_mo_join_41 : decode cc_mo_join 41 = .ok (.iload_n 2, 1) := by decide +kernel
theorem d_mo_join_42 : decode cc_mo_join 42 = .ok (.invokestatic 113, 3) := by decide +kernel
theorem d_mo_join_45 : decode cc_mo_join 45 = .ok (.iload 5, 2) := by decide +kernel
theorem d_mo_join_47 : decode cc_mo_join 47 = .ok (.iastore, 1) := by decide +kernel
theorem d_mo_join_48 : decode cc_mo_join 48 = .ok (.aload_n 0, 1) := by decide +kernel
theorem d_mo_join_49 : decode cc_mo_join 49 = .ok (.getfield 29, 3) := by decide +kernel
theorem d_mo_join_52 : decode cc_mo_join 52 = .ok (.iload 5, 2) := by decide +kernel
theorem d_mo_join_54 : decode cc_mo_join 54 = .ok (.iload_n 1, 1) := by decide +kernel
theorem d_mo_join_55 : decode cc_mo_join 55 = .ok (.iload_n 2, 1) := by decide +kernel
theorem d_mo_join_56 : decode cc_mo_join 56 = .ok (.invokestatic 113, 3) := by decide +kernel
theorem d_mo_join_59 : decode cc_mo_join 59 = .ok (.iastore, 1) := by decide +kernel
theorem d_mo_join_60 : decode cc_mo_join 60 = .ok (.return_, 1) := by decide +kernel
abbrev cc_mo_pair : ByteArray := prog_7_method_23_code
def yy_mo_pair : MethodName := ⟨"SpotContoursModel", "pair", "(IIII)V"⟩
def ww_mo_pair : List Cond := .code yy_mo_pair cc_mo_pair 5 none :: zz_B
theorem d_mo_pair_0 : decode cc_mo_pair 0 = .ok (.aload_n 0, 1) := by decide +kernel
theorem d_mo_pair_1 : decode cc_mo_pair 1 = .ok (.iload_n 1, 1) := by decide +kernel
theorem d_mo_pair_2 : decode cc_mo_pair 2 = .ok (.iload 4, 2) := by decide +kernel
theorem d_mo_pair_4 : decode cc_mo_pair 4 = .ok (.invokevirtual 110, 3) := by decide +kernel
theorem d_mo_pair_7 : decode cc_mo_pair 7 = .ok (.aload_n 0, 1) := by decide +kernel
theorem d_mo_pair_8 : decode cc_mo_pair 8 = .ok (.iload_n 2, 1) := by decide +kernel
theorem d_mo_pair_9 : decode cc_mo_pair 9 = .ok (.iload 4, 2) := by decide +kernel
theorem d_mo_pair_11 : decode cc_mo_pair 11 = .ok (.invokevirtual 110, 3) := by decide +kernel
theorem d_mo_pair_14 : decode cc_mo_pair 14 = .ok (.if_icmp .ne 4, 3) := by decide +kernel
theorem d_mo_pair_17 : decode cc_mo_pair 17 = .ok (.return_, 1) := by decide +kernel
theorem d_mo_pair_18 : decode cc_mo_pair 18 = .ok (.aload_n 0, 1) := by decide +kernel
theorem d_mo_pair_19 : decode cc_mo_pair 19 = .ok (.getfield 22, 3) := by decide +kernel
theorem d_mo_pair_22 : decode cc_mo_pair 22 = .ok (.iload_n 1, 1) := by decide +kernel
theorem d_mo_pair_23 : decode cc_mo_pair 23 = .ok (.iload_n 2, 1) := by decide +kernel
theorem d_mo_pair_24 : decode cc_mo_pair 24 = .ok (.invokestatic 113, 3) := by decide +kernel
theorem d_mo_pair_27 : decode cc_mo_pair 27 = .ok (.iconst 1, 1) := by decide +kernel
theorem d_mo_pair_28 : decode cc_mo_pair 28 = .ok (.bastore, 1) := by decide +kernel
theorem d_mo_pair_29 : decode cc_mo_pair 29 = .ok (.aload_n 0, 1) := by decide +kernel
theorem d_mo_pair_30 : decode cc_mo_pair 30 = .ok (.iload_n 1, 1) := by decide +kernel
theorem d_mo_pair_31 : decode cc_mo_pair 31 = .ok (.iload 4, 2) := by decide +kernel
theorem d_mo_pair_33 : decode cc_mo_pair 33 = .ok (.invokevirtual 110, 3) := by decide +kernel
theorem d_mo_pair_36 : decode cc_mo_pair 36 = .ok (.ifCond .eq 15, 3) := by decide +kernel
theorem d_mo_pair_39 : decode cc_mo_pair 39 = .ok (.aload_n 0, 1) := by decide +kernel
theorem d_mo_pair_40 : decode cc_mo_pair 40 = .ok (.iload_n 1, 1) := by decide +kernel
theorem d_mo_pair_41 : decode cc_mo_pair 41 = .ok (.iload_n 2, 1) := by decide +kernel
theorem d_mo_pair_42 : decode cc_mo_pair 42 = .ok (.iload_n 3, 1) := by decide +kernel
theorem d_mo_pair_43 : decode cc_mo_pair 43 = .ok (.iload 4, 2) := by decide +kernel
theorem d_mo_pair_45 : decode cc_mo_pair 45 = .ok (.invokevirtual 117, 3) := by decide +kernel
theorem d_mo_pair_48 : decode cc_mo_pair 48 = .ok (.goto 12, 3) := by decide +kernel
theorem d_mo_pair_51 : decode cc_mo_pair 51 = .ok (.aload_n 0, 1) := by decide +kernel
theorem d_mo_pair_52 : decode cc_mo_pair 52 = .ok (.iload_n 2, 1) := by decide +kernel
theorem d_mo_pair_53 : decode cc_mo_pair 53 = .ok (.iload_n 1, 1) := by decide +kernel
theorem d_mo_pair_54 : decode cc_mo_pair 54 = .ok (.iload_n 3, 1) := by decide +kernel
theorem d_mo_pair_55 : decode cc_mo_pair 55 = .ok (.iload 4, 2) := by decide +kernel
theorem d_mo_pair_57 : decode cc_mo_pair 57 = .ok (.invokevirtual 117, 3) := by decide +kernel
theorem d_mo_pair_60 : decode cc_mo_pair 60 = .ok (.return_, 1) := by decide +kernel
abbrev cc_mo_gather : ByteArray := prog_7_method_24_code
def yy_mo_gather : MethodName := ⟨"SpotContoursModel", "gather", "(I)V"⟩
def ww_mo_gather : List Cond := .code yy_mo_gather cc_mo_gather 6 none :: zz_B
theorem d_mo_gather_0 : decode cc_mo_gather 0 = .ok (.iload_n 1, 1) := by decide +kernel
theorem d_mo_gather_1 : decode cc_mo_gather 1 = .ok (.istore_n 2, 1) := by decide +kernel
theorem d_mo_gather_2 : decode cc_mo_gather 2 = .ok (.iconst 0, 1) := by decide +kernel
theorem d_mo_gather_3 : decode cc_mo_gather 3 = .ok (.istore_n 3, 1) := by decide +kernel
theorem d_mo_gather_4 : decode cc_mo_gather 4 = .ok (.aload_n 0, 1) := by decide +kernel
theorem d_mo_gather_5 : decode cc_mo_gather 5 = .ok (.getfield 29, 3) := by decide +kernel
theorem d_mo_gather_8 : decode cc_mo_gather 8 = .ok (.iload_n 2, 1) := by decide +kernel
theorem d_mo_gather_9 : decode cc_mo_gather 9 = .ok (.iaload, 1) := by decide +kernel
theorem d_mo_gather_10 : decode cc_mo_gather 10 = .ok (.ifCond .lt 28, 3) := by decide +kernel
theorem d_mo_gather_13 : decode cc_mo_gather 13 = .ok (.iload_n 3, 1) := by decide +kernel
theorem d_mo_gather_14 : decode cc_mo_gather 14 = .ok (.ifCond .ne 24, 3) := by decide +kernel
theorem d_mo_gather_17 : decode cc_mo_gather 17 = .ok (.aload_n 0, 1) := by decide +kernel
theorem d_mo_gather_18 : decode cc_mo_gather 18 = .ok (.getfield 29, 3) := by decide +kernel
theorem d_mo_gather_21 : decode cc_mo_gather 21 = .ok (.iload_n 2, 1) := by decide +kernel
theorem d_mo_gather_22 : decode cc_mo_gather 22 = .ok (.iaload, 1) := by decide +kernel
theorem d_mo_gather_23 : decode cc_mo_gather 23 = .ok (.istore_n 2, 1) := by decide +kernel
theorem d_mo_gather_24 : decode cc_mo_gather 24 = .ok (.iload_n 2, 1) := by decide +kernel
theorem d_mo_gather_25 : decode cc_mo_gather 25 = .ok (.iload_n 1, 1) := by decide +kernel
theorem d_mo_gather_26 : decode cc_mo_gather 26 = .ok (.if_icmp .ne 7, 3) := by decide +kernel
theorem d_mo_gather_29 : decode cc_mo_gather 29 = .ok (.iconst 1, 1) := by decide +kernel
theorem d_mo_gather_30 : decode cc_mo_gather 30 = .ok (.goto 4, 3) := by decide +kernel
theorem d_mo_gather_33 : decode cc_mo_gather 33 = .ok (.iconst 0, 1) := by decide +kernel
theorem d_mo_gather_34 : decode cc_mo_gather 34 = .ok (.istore_n 3, 1) := by decide +kernel
theorem d_mo_gather_35 : decode cc_mo_gather 35 = .ok (.goto (-31), 3) := by decide +kernel
theorem d_mo_gather_38 : decode cc_mo_gather 38 = .ok (.aload_n 0, 1) := by decide +kernel
theorem d_mo_gather_39 : decode cc_mo_gather 39 = .ok (.getfield 35, 3) := by decide +kernel
theorem d_mo_gather_42 : decode cc_mo_gather 42 = .ok (.aload_n 0, 1) := by decide +kernel
theorem d_mo_gather_43 : decode cc_mo_gather 43 = .ok (.getfield 121, 3) := by decide +kernel
theorem d_mo_gather_46 : decode cc_mo_gather 46 = .ok (.aload_n 0, 1) := by decide +kernel
theorem d_mo_gather_47 : decode cc_mo_gather 47 = .ok (.getfield 124, 3) := by decide +kernel
theorem d_mo_gather_50 : decode cc_mo_gather 50 = .ok (.iastore, 1) := by decide +kernel
theorem d_mo_gather_51 : decode cc_mo_gather 51 = .ok (.aload_n 0, 1) := by decide +kernel
theorem d_mo_gather_52 : decode cc_mo_gather 52 = .ok (.getfield 41, 3) := by decide +kernel
theorem d_mo_gather_55 : decode cc_mo_gather 55 = .ok (.aload_n 0, 1) := by decide +kernel
theorem d_mo_gather_56 : decode cc_mo_gather 56 = .ok (.getfield 121, 3) := by decide +kernel
theorem d_mo_gather_59 : decode cc_mo_gather 59 = .ok (.iload_n 3, 1) := by decide +kernel
theorem d_mo_gather_60 : decode cc_mo_gather 60 = .ok (.bastore, 1) := by decide +kernel
theorem d_mo_gather_61 : decode cc_mo_gather 61 = .ok (.iload_n 2, 1) := by decide +kernel
theorem d_mo_gather_62 : decode cc_mo_gather 62 = .ok (.istore 4, 2) := by decide +kernel
theorem d_mo_gather_64 : decode cc_mo_gather 64 = .ok (.iconst 1, 1) := by decide +kernel
theorem d_mo_gather_65 : decode cc_mo_gather 65 = .ok (.istore 5, 2) := by decide +kernel
theorem d_mo_gather_67 : decode cc_mo_gather 67 = .ok (.iload 5, 2) := by decide +kernel
theorem d_mo_gather_69 : decode cc_mo_gather 69 = .ok (.ifCond .eq 62, 3) := by decide +kernel
theorem d_mo_gather_72 : decode cc_mo_gather 72 = .ok (.aload_n 0, 1) := by decide +kernel
theorem d_mo_gather_73 : decode cc_mo_gather 73 = .ok (.getfield 44, 3) := by decide +kernel
theorem d_mo_gather_76 : decode cc_mo_gather 76 = .ok (.aload_n 0, 1) := by decide +kernel
theorem d_mo_gather_77 : decode cc_mo_gather 77 = .ok (.getfield 124, 3) := by decide +kernel
theorem d_mo_gather_80 : decode cc_mo_gather 80 = .ok (.iload 4, 2) := by decide +kernel
theorem d_mo_gather_82 : decode cc_mo_gather 82 = .ok (.iastore, 1) := by decide +kernel
theorem d_mo_gather_83 : decode cc_mo_gather 83 = .ok (.aload_n 0, 1) := by decide +kernel
theorem d_mo_gather_84 : decode cc_mo_gather 84 = .ok (.dup, 1) := by decide +kernel
theorem d_mo_gather_85 : decode cc_mo_gather 85 = .ok (.getfield 124, 3) := by decide +kernel
theorem d_mo_gather_88 : decode cc_mo_gather 88 = .ok (.iconst 1, 1) := by decide +kernel
theorem d_mo_gather_89 : decode cc_mo_gather 89 = .ok (.iadd, 1) := by decide +kernel
theorem d_mo_gather_90 : decode cc_mo_gather 90 = .ok (.putfield 124, 3) := by decide +kernel
theorem d_mo_gather_93 : decode cc_mo_gather 93 = .ok (.aload_n 0, 1) := by decide +kernel
theorem d_mo_gather_94 : decode cc_mo_gather 94 = .ok (.getfield 32, 3) := by decide +kernel
theorem d_mo_gather_97 : decode cc_mo_gather 97 = .ok (.iload 4, 2) := by decide +kernel
theorem d_mo_gather_99 : decode cc_mo_gather 99 = .ok (.iconst 1, 1) := by decide +kernel
theorem d_mo_gather_100 : decode cc_mo_gather 100 = .ok (.bastore, 1) := by decide +kernel
theorem d_mo_gather_101 : decode cc_mo_gather 101 = .ok (.aload_n 0, 1) := by decide +kernel
theorem d_mo_gather_102 : decode cc_mo_gather 102 = .ok (.getfield 26, 3) := by decide +kernel
theorem d_mo_gather_105 : decode cc_mo_gather 105 = .ok (.iload 4, 2) := by decide +kernel
theorem d_mo_gather_107 : decode cc_mo_gather 107 = .ok (.iaload, 1) := by decide +kernel
theorem d_mo_gather_108 : decode cc_mo_gather 108 = .ok (.istore 4, 2) := by decide +kernel
theorem d_mo_gather_110 : decode cc_mo_gather 110 = .ok (.iload 4, 2) := by decide +kernel
theorem d_mo_gather_112 : decode cc_mo_gather 112 = .ok (.ifCond .lt 13, 3) := by decide +kernel
theorem d_mo_gather_115 : decode cc_mo_gather 115 = .ok (.iload 4, 2) := by decide +kernel
theorem d_mo_gather_117 : decode cc_mo_gather 117 = .ok (.iload_n 2, 1) := by decide +kernel
theorem d_mo_gather_118 : decode cc_mo_gather 118 = .ok (.if_icmp .eq 7, 3) := by decide +kernel
theorem d_mo_gather_121 : decode cc_mo_gather 121 = .ok (.iconst 1, 1) := by decide +kernel
theorem d_mo_gather_122 : decode cc_mo_gather 122 = .ok (.goto 4, 3) := by decide +kernel
theorem d_mo_gather_125 : decode cc_mo_gather 125 = .ok (.iconst 0, 1) := by decide +kernel
theorem d_mo_gather_126 : decode cc_mo_gather 126 = .ok (.istore 5, 2) := by decide +kernel
theorem d_mo_gather_128 : decode cc_mo_gather 128 = .ok (.goto (-61), 3) := by decide +kernel
theorem d_mo_gather_131 : decode cc_mo_gather 131 = .ok (.aload_n 0, 1) := by decide +kernel
theorem d_mo_gather_132 : decode cc_mo_gather 132 = .ok (.getfield 38, 3) := by decide +kernel
theorem d_mo_gather_135 : decode cc_mo_gather 135 = .ok (.aload_n 0, 1) := by decide +kernel
theorem d_mo_gather_136 : decode cc_mo_gather 136 = .ok (.getfield 121, 3) := by decide +kernel
theorem d_mo_gather_139 : decode cc_mo_gather 139 = .ok (.aload_n 0, 1) := by decide +kernel
theorem d_mo_gather_140 : decode cc_mo_gather 140 = .ok (.getfield 124, 3) := by decide +kernel
theorem d_mo_gather_143 : decode cc_mo_gather 143 = .ok (.aload_n 0, 1) := by decide +kernel
theorem d_mo_gather_144 : decode cc_mo_gather 144 = .ok (.getfield 35, 3) := by decide +kernel
theorem d_mo_gather_147 : decode cc_mo_gather 147 = .ok (.aload_n 0, 1) := by decide +kernel
theorem d_mo_gather_148 : decode cc_mo_gather 148 = .ok (.getfield 121, 3) := by decide +kernel
theorem d_mo_gather_151 : decode cc_mo_gather 151 = .ok (.iaload, 1) := by decide +kernel
theorem d_mo_gather_152 : decode cc_mo_gather 152 = .ok (.isub, 1) := by decide +kernel
theorem d_mo_gather_153 : decode cc_mo_gather 153 = .ok (.iastore, 1) := by decide +kernel
theorem d_mo_gather_154 : decode cc_mo_gather 154 = .ok (.aload_n 0, 1) := by decide +kernel
theorem d_mo_gather_155 : decode cc_mo_gather 155 = .ok (.dup, 1) := by decide +kernel
theorem d_mo_gather_156 : decode cc_mo_gather 156 = .ok (.getfield 121, 3) := by decide +kernel
theorem d_mo_gather_159 : decode cc_mo_gather 159 = .ok (.iconst 1, 1) := by decide +kernel
theorem d_mo_gather_160 : decode cc_mo_gather 160 = .ok (.iadd, 1) := by decide +kernel
theorem d_mo_gather_161 : decode cc_mo_gather 161 = .ok (.putfield 121, 3) := by decide +kernel
theorem d_mo_gather_164 : decode cc_mo_gather 164 = .ok (.return_, 1) := by decide +kernel
