/-! Names and decode rows, printed. -/
abbrev cc_sc_spot : ByteArray := prog_1_method_2_code
def yy_sc_spot : MethodName := ⟨"SpotContours", "spot", "(III)I"⟩
def ww_sc_spot : List Cond := .code yy_sc_spot cc_sc_spot 5 (some .int) :: zz_B
theorem d_sc_spot_0 : decode cc_sc_spot 0 = .ok (.iload_n 1, 1) := by decide +kernel
theorem d_sc_spot_1 : decode cc_sc_spot 1 = .ok (.iload_n 2, 1) := by decide +kernel
theorem d_sc_spot_2 : decode cc_sc_spot 2 = .ok (.invokestatic 37, 3) := by decide +kernel
theorem d_sc_spot_5 : decode cc_sc_spot 5 = .ok (.ifCond .eq 22, 3) := by decide +kernel
theorem d_sc_spot_8 : decode cc_sc_spot 8 = .ok (.iload_n 3, 1) := by decide +kernel
theorem d_sc_spot_9 : decode cc_sc_spot 9 = .ok (.invokestatic 41, 3) := by decide +kernel
theorem d_sc_spot_12 : decode cc_sc_spot 12 = .ok (.ifCond .eq 15, 3) := by decide +kernel
theorem d_sc_spot_15 : decode cc_sc_spot 15 = .ok (.aload_n 0, 1) := by decide +kernel
theorem d_sc_spot_16 : decode cc_sc_spot 16 = .ok (.getfield 12, 3) := by decide +kernel
theorem d_sc_spot_19 : decode cc_sc_spot 19 = .ok (.iload_n 1, 1) := by decide +kernel
theorem d_sc_spot_20 : decode cc_sc_spot 20 = .ok (.iload_n 2, 1) := by decide +kernel
theorem d_sc_spot_21 : decode cc_sc_spot 21 = .ok (.invokevirtual 45, 3) := by decide +kernel
theorem d_sc_spot_24 : decode cc_sc_spot 24 = .ok (.ifCond .eq 11, 3) := by decide +kernel
theorem d_sc_spot_27 : decode cc_sc_spot 27 = .ok (.new 48, 3) := by decide +kernel
theorem d_sc_spot_30 : decode cc_sc_spot 30 = .ok (.dup, 1) := by decide +kernel
theorem d_sc_spot_31 : decode cc_sc_spot 31 = .ok (.invokespecial 50, 3) := by decide +kernel
theorem d_sc_spot_34 : decode cc_sc_spot 34 = .ok (.athrow, 1) := by decide +kernel
theorem d_sc_spot_35 : decode cc_sc_spot 35 = .ok (.aload_n 0, 1) := by decide +kernel
theorem d_sc_spot_36 : decode cc_sc_spot 36 = .ok (.getfield 12, 3) := by decide +kernel
theorem d_sc_spot_39 : decode cc_sc_spot 39 = .ok (.invokevirtual 51, 3) := by decide +kernel
theorem d_sc_spot_42 : decode cc_sc_spot 42 = .ok (.bipush 16, 2) := by decide +kernel
theorem d_sc_spot_44 : decode cc_sc_spot 44 = .ok (.if_icmp .lt 11, 3) := by decide +kernel
theorem d_sc_spot_47 : decode cc_sc_spot 47 = .ok (.new 55, 3) := by decide +kernel
theorem d_sc_spot_50 : decode cc_sc_spot 50 = .ok (.dup, 1) := by decide +kernel
theorem d_sc_spot_51 : decode cc_sc_spot 51 = .ok (.invokespecial 57, 3) := by decide +kernel
theorem d_sc_spot_54 : decode cc_sc_spot 54 = .ok (.athrow, 1) := by decide +kernel
theorem d_sc_spot_55 : decode cc_sc_spot 55 = .ok (.aload_n 0, 1) := by decide +kernel
theorem d_sc_spot_56 : decode cc_sc_spot 56 = .ok (.getfield 12, 3) := by decide +kernel
theorem d_sc_spot_59 : decode cc_sc_spot 59 = .ok (.iload_n 1, 1) := by decide +kernel
theorem d_sc_spot_60 : decode cc_sc_spot 60 = .ok (.iload_n 2, 1) := by decide +kernel
theorem d_sc_spot_61 : decode cc_sc_spot 61 = .ok (.iload_n 3, 1) := by decide +kernel
theorem d_sc_spot_62 : decode cc_sc_spot 62 = .ok (.invokevirtual 58, 3) := by decide +kernel
theorem d_sc_spot_65 : decode cc_sc_spot 65 = .ok (.istore 4, 2) := by decide +kernel
theorem d_sc_spot_67 : decode cc_sc_spot 67 = .ok (.aload_n 0, 1) := by decide +kernel
theorem d_sc_spot_68 : decode cc_sc_spot 68 = .ok (.getfield 19, 3) := by decide +kernel
theorem d_sc_spot_71 : decode cc_sc_spot 71 = .ok (.aload_n 0, 1) := by decide +kernel
theorem d_sc_spot_72 : decode cc_sc_spot 72 = .ok (.getfield 12, 3) := by decide +kernel
theorem d_sc_spot_75 : decode cc_sc_spot 75 = .ok (.invokevirtual 62, 3) := by decide +kernel
theorem d_sc_spot_78 : decode cc_sc_spot 78 = .ok (.aload_n 0, 1) := by decide +kernel
theorem d_sc_spot_79 : decode cc_sc_spot 79 = .ok (.getfield 33, 3) := by decide +kernel
theorem d_sc_spot_82 : decode cc_sc_spot 82 = .ok (.iconst 0, 1) := by decide +kernel
theorem d_sc_spot_83 : decode cc_sc_spot 83 = .ok (.invokevirtual 66, 3) := by decide +kernel
theorem d_sc_spot_86 : decode cc_sc_spot 86 = .ok (.iload 4, 2) := by decide +kernel
theorem d_sc_spot_88 : decode cc_sc_spot 88 = .ok (.ireturn, 1) := by decide +kernel
abbrev cc_sc_raise : ByteArray := prog_1_method_3_code
def yy_sc_raise : MethodName := ⟨"SpotContours", "raise", "(II)I"⟩
def ww_sc_raise : List Cond := .code yy_sc_raise cc_sc_raise 4 (some .int) :: zz_B
theorem d_sc_raise_0 : decode cc_sc_raise 0 = .ok (.aload_n 0, 1) := by decide +kernel
theorem d_sc_raise_1 : decode cc_sc_raise 1 = .ok (.getfield 12, 3) := by decide +kernel
theorem d_sc_raise_4 : decode cc_sc_raise 4 = .ok (.iload_n 1, 1) := by decide +kernel
theorem d_sc_raise_5 : decode cc_sc_raise 5 = .ok (.invokevirtual 70, 3) := by decide +kernel
theorem d_sc_raise_8 : decode cc_sc_raise 8 = .ok (.ifCond .ne 11, 3) := by decide +kernel
theorem d_sc_raise_11 : decode cc_sc_raise 11 = .ok (.new 73, 3) := by decide +kernel
theorem d_sc_raise_14 : decode cc_sc_raise 14 = .ok (.dup, 1) := by decide +kernel
theorem d_sc_raise_15 : decode cc_sc_raise 15 = .ok (.invokespecial 75, 3) := by decide +kernel
theorem d_sc_raise_18 : decode cc_sc_raise 18 = .ok (.athrow, 1) := by decide +kernel
theorem d_sc_raise_19 : decode cc_sc_raise 19 = .ok (.iload_n 2, 1) := by decide +kernel
theorem d_sc_raise_20 : decode cc_sc_raise 20 = .ok (.invokestatic 41, 3) := by decide +kernel
theorem d_sc_raise_23 : decode cc_sc_raise 23 = .ok (.ifCond .ne 11, 3) := by decide +kernel
theorem d_sc_raise_26 : decode cc_sc_raise 26 = .ok (.new 48, 3) := by decide +kernel
theorem d_sc_raise_29 : decode cc_sc_raise 29 = .ok (.dup, 1) := by decide +kernel
theorem d_sc_raise_30 : decode cc_sc_raise 30 = .ok (.invokespecial 50, 3) := by decide +kernel
theorem d_sc_raise_33 : decode cc_sc_raise 33 = .ok (.athrow, 1) := by decide +kernel
theorem d_sc_raise_34 : decode cc_sc_raise 34 = .ok (.aload_n 0, 1) := by decide +kernel
theorem d_sc_raise_35 : decode cc_sc_raise 35 = .ok (.getfield 12, 3) := by decide +kernel
theorem d_sc_raise_38 : decode cc_sc_raise 38 = .ok (.iload_n 1, 1) := by decide +kernel
theorem d_sc_raise_39 : decode cc_sc_raise 39 = .ok (.invokevirtual 76, 3) := by decide +kernel
theorem d_sc_raise_42 : decode cc_sc_raise 42 = .ok (.istore_n 3, 1) := by decide +kernel
theorem d_sc_raise_43 : decode cc_sc_raise 43 = .ok (.aload_n 0, 1) := by decide +kernel
theorem d_sc_raise_44 : decode cc_sc_raise 44 = .ok (.getfield 12, 3) := by decide +kernel
theorem d_sc_raise_47 : decode cc_sc_raise 47 = .ok (.iload_n 1, 1) := by decide +kernel
theorem d_sc_raise_48 : decode cc_sc_raise 48 = .ok (.iload_n 2, 1) := by decide +kernel
theorem d_sc_raise_49 : decode cc_sc_raise 49 = .ok (.invokevirtual 80, 3) := by decide +kernel
theorem d_sc_raise_52 : decode cc_sc_raise 52 = .ok (.aload_n 0, 1) := by decide +kernel
theorem d_sc_raise_53 : decode cc_sc_raise 53 = .ok (.getfield 33, 3) := by decide +kernel
theorem d_sc_raise_56 : decode cc_sc_raise 56 = .ok (.iconst 0, 1) := by decide +kernel
theorem d_sc_raise_57 : decode cc_sc_raise 57 = .ok (.invokevirtual 66, 3) := by decide +kernel
theorem d_sc_raise_60 : decode cc_sc_raise 60 = .ok (.iload_n 3, 1) := by decide +kernel
theorem d_sc_raise_61 : decode cc_sc_raise 61 = .ok (.ireturn, 1) := by decide +kernel
abbrev cc_sc_triangles : ByteArray := prog_1_method_4_code
def yy_sc_triangles : MethodName := ⟨"SpotContours", "triangles", "()I"⟩
def ww_sc_triangles : List Cond := .code yy_sc_triangles cc_sc_triangles 1 (some .int) :: zz_B
theorem d_sc_triangles_0 : decode cc_sc_triangles 0 = .ok (.aload_n 0, 1) := by decide +kernel
theorem d_sc_triangles_1 : decode cc_sc_triangles 1 = .ok (.getfield 19, 3) := by decide +kernel
theorem d_sc_triangles_4 : decode cc_sc_triangles 4 = .ok (.invokevirtual 84, 3) := by decide +kernel
theorem d_sc_triangles_7 : decode cc_sc_triangles 7 = .ok (.ireturn, 1) := by decide +kernel
abbrev cc_sc_corner : ByteArray := prog_1_method_5_code
def yy_sc_corner : MethodName := ⟨"SpotContours", "corner", "(II)I"⟩
def ww_sc_corner : List Cond := .code yy_sc_corner cc_sc_corner 3 (some .int) :: zz_B
theorem d_sc_corner_0 : decode cc_sc_corner 0 = .ok (.iload_n 1, 1) := by decide +kernel
theorem d_sc_corner_1 : decode cc_sc_corner 1 = .ok (.ifCond .lt 23, 3) := by decide +kernel
theorem d_sc_corner_4 : decode cc_sc_corner 4 = .ok (.iload_n 1, 1) := by decide +kernel
theorem d_sc_corner_5 : decode cc_sc_corner 5 = .ok (.aload_n 0, 1) := by decide +kernel
theorem d_sc_corner_6 : decode cc_sc_corner 6 = .ok (.getfield 19, 3) := by decide +kernel
theorem d_sc_corner_9 : decode cc_sc_corner 9 = .ok (.invokevirtual 84, 3) := by decide +kernel
theorem d_sc_corner_12 : decode cc_sc_corner 12 = .ok (.if_icmp .ge 12, 3) := by decide +kernel
theorem d_sc_corner_15 : decode cc_sc_corner 15 = .ok (.iload_n 2, 1) := by decide +kernel
theorem d_sc_corner_16 : decode cc_sc_corner 16 = .ok (.ifCond .lt 8, 3) := by decide +kernel
theorem d_sc_corner_19 : decode cc_sc_corner 19 = .ok (.iload_n 2, 1) := by decide +kernel
theorem d_sc_corner_20 : decode cc_sc_corner 20 = .ok (.iconst 3, 1) := by decide +kernel
theorem d_sc_corner_21 : decode cc_sc_corner 21 = .ok (.if_icmp .lt 11, 3) := by decide +kernel
theorem d_sc_corner_24 : decode cc_sc_corner 24 = .ok (.new 73, 3) := by decide +kernel
theorem d_sc_corner_27 : decode cc_sc_corner 27 = .ok (.dup, 1) := by decide +kernel
theorem d_sc_corner_28 : decode cc_sc_corner 28 = .ok (.invokespecial 75, 3) := by decide +kernel
theorem d_sc_corner_31 : decode cc_sc_corner 31 = .ok (.athrow, 1) := by decide +kernel
theorem d_sc_corner_32 : decode cc_sc_corner 32 = .ok (.aload_n 0, 1) := by decide +kernel
theorem d_sc_corner_33 : decode cc_sc_corner 33 = .ok (.getfield 19, 3) := by decide +kernel
theorem d_sc_corner_36 : decode cc_sc_corner 36 = .ok (.iload_n 1, 1) := by decide +kernel
theorem d_sc_corner_37 : decode cc_sc_corner 37 = .ok (.iload_n 2, 1) := by decide +kernel
theorem d_sc_corner_38 : decode cc_sc_corner 38 = .ok (.invokevirtual 85, 3) := by decide +kernel
theorem d_sc_corner_41 : decode cc_sc_corner 41 = .ok (.ireturn, 1) := by decide +kernel
abbrev cc_sc_edge : ByteArray := prog_1_method_6_code
def yy_sc_edge : MethodName := ⟨"SpotContours", "edge", "(II)I"⟩
def ww_sc_edge : List Cond := .code yy_sc_edge cc_sc_edge 3 (some .int) :: zz_B
theorem d_sc_edge_0 : decode cc_sc_edge 0 = .ok (.aload_n 0, 1) := by decide +kernel
theorem d_sc_edge_1 : decode cc_sc_edge 1 = .ok (.getfield 12, 3) := by decide +kernel
theorem d_sc_edge_4 : decode cc_sc_edge 4 = .ok (.iload_n 1, 1) := by decide +kernel
theorem d_sc_edge_5 : decode cc_sc_edge 5 = .ok (.invokevirtual 70, 3) := by decide +kernel
theorem d_sc_edge_8 : decode cc_sc_edge 8 = .ok (.ifCond .eq 14, 3) := by decide +kernel
theorem d_sc_edge_11 : decode cc_sc_edge 11 = .ok (.aload_n 0, 1) := by decide +kernel
theorem d_sc_edge_12 : decode cc_sc_edge 12 = .ok (.getfield 12, 3) := by decide +kernel
theorem d_sc_edge_15 : decode cc_sc_edge 15 = .ok (.iload_n 2, 1) := by decide +kernel
theorem d_sc_edge_16 : decode cc_sc_edge 16 = .ok (.invokevirtual 70, 3) := by decide +kernel
theorem d_sc_edge_19 : decode cc_sc_edge 19 = .ok (.ifCond .ne 11, 3) := by decide +kernel
theorem d_sc_edge_22 : decode cc_sc_edge 22 = .ok (.new 73, 3) := by decide +kernel
theorem d_sc_edge_25 : decode cc_sc_edge 25 = .ok (.dup, 1) := by decide +kernel
theorem d_sc_edge_26 : decode cc_sc_edge 26 = .ok (.invokespecial 75, 3) := by decide +kernel
theorem d_sc_edge_29 : decode cc_sc_edge 29 = .ok (.athrow, 1) := by decide +kernel
theorem d_sc_edge_30 : decode cc_sc_edge 30 = .ok (.aload_n 0, 1) := by decide +kernel
theorem d_sc_edge_31 : decode cc_sc_edge 31 = .ok (.getfield 19, 3) := by decide +kernel
theorem d_sc_edge_34 : decode cc_sc_edge 34 = .ok (.iload_n 1, 1) := by decide +kernel
theorem d_sc_edge_35 : decode cc_sc_edge 35 = .ok (.iload_n 2, 1) := by decide +kernel
theorem d_sc_edge_36 : decode cc_sc_edge 36 = .ok (.invokevirtual 89, 3) := by decide +kernel
theorem d_sc_edge_39 : decode cc_sc_edge 39 = .ok (.ireturn, 1) := by decide +kernel
abbrev cc_sc_at : ByteArray := prog_1_method_7_code
def yy_sc_at : MethodName := ⟨"SpotContours", "at", "(II)I"⟩
def ww_sc_at : List Cond := .code yy_sc_at cc_sc_at 4 (some .int) :: zz_B
theorem d_sc_at_0 : decode cc_sc_at 0 = .ok (.iload_n 1, 1) := by decide +kernel
theorem d_sc_at_1 : decode cc_sc_at 1 = .ok (.iload_n 2, 1) := by decide +kernel
theorem d_sc_at_2 : decode cc_sc_at 2 = .ok (.invokestatic 37, 3) := by decide +kernel
theorem d_sc_at_5 : decode cc_sc_at 5 = .ok (.ifCond .eq 19, 3) := by decide +kernel
theorem d_sc_at_8 : decode cc_sc_at 8 = .ok (.aload_n 0, 1) := by decide +kernel
theorem d_sc_at_9 : decode cc_sc_at 9 = .ok (.getfield 19, 3) := by decide +kernel
theorem d_sc_at_12 : decode cc_sc_at 12 = .ok (.aload_n 0, 1) := by decide +kernel
theorem d_sc_at_13 : decode cc_sc_at 13 = .ok (.getfield 12, 3) := by decide +kernel
theorem d_sc_at_16 : decode cc_sc_at 16 = .ok (.iload_n 1, 1) := by decide +kernel
theorem d_sc_at_17 : decode cc_sc_at 17 = .ok (.iload_n 2, 1) := by decide +kernel
theorem d_sc_at_18 : decode cc_sc_at 18 = .ok (.invokevirtual 92, 3) := by decide +kernel
theorem d_sc_at_21 : decode cc_sc_at 21 = .ok (.goto 4, 3) := by decide +kernel
theorem d_sc_at_24 : decode cc_sc_at 24 = .ok (.iconst (-1), 1) := by decide +kernel
theorem d_sc_at_25 : decode cc_sc_at 25 = .ok (.istore_n 3, 1) := by decide +kernel
theorem d_sc_at_26 : decode cc_sc_at 26 = .ok (.iload_n 3, 1) := by decide +kernel
theorem d_sc_at_27 : decode cc_sc_at 27 = .ok (.iconst (-1), 1) := by decide +kernel
theorem d_sc_at_28 : decode cc_sc_at 28 = .ok (.if_icmp .ne 11, 3) := by decide +kernel
theorem d_sc_at_31 : decode cc_sc_at 31 = .ok (.new 96, 3) := by decide +kernel
theorem d_sc_at_34 : decode cc_sc_at 34 = .ok (.dup, 1) := by decide +kernel
theorem d_sc_at_35 : decode cc_sc_at 35 = .ok (.invokespecial 98, 3) := by decide +kernel
theorem d_sc_at_38 : decode cc_sc_at 38 = .ok (.athrow, 1) := by decide +kernel
theorem d_sc_at_39 : decode cc_sc_at 39 = .ok (.iload_n 3, 1) := by decide +kernel
theorem d_sc_at_40 : decode cc_sc_at 40 = .ok (.ireturn, 1) := by decide +kernel
abbrev cc_sc_contours : ByteArray := prog_1_method_8_code
def yy_sc_contours : MethodName := ⟨"SpotContours", "contours", "(I)I"⟩
def ww_sc_contours : List Cond := .code yy_sc_contours cc_sc_contours 2 (some .int) :: zz_B
theorem d_sc_contours_0 : decode cc_sc_contours 0 = .ok (.aload_n 0, 1) := by decide +kernel
theorem d_sc_contours_1 : decode cc_sc_contours 1 = .ok (.iload_n 1, 1) := by decide +kernel
theorem d_sc_contours_2 : decode cc_sc_contours 2 = .ok (.invokevirtual 99, 3) := by decide +kernel
theorem d_sc_contours_5 : decode cc_sc_contours 5 = .ok (.aload_n 0, 1) := by decide +kernel
theorem d_sc_contours_6 : decode cc_sc_contours 6 = .ok (.getfield 26, 3) := by decide +kernel
theorem d_sc_contours_9 : decode cc_sc_contours 9 = .ok (.invokevirtual 102, 3) := by decide +kernel
theorem d_sc_contours_12 : decode cc_sc_contours 12 = .ok (.ireturn, 1) := by decide +kernel
abbrev cc_sc_contour : ByteArray := prog_1_method_9_code
def yy_sc_contour : MethodName := ⟨"SpotContours", "contour", "(II)I"⟩
def ww_sc_contour : List Cond := .code yy_sc_contour cc_sc_contour 4 (some .int) :: zz_B
theorem d_sc_contour_0 : decode cc_sc_contour 0 = .ok (.aload_n 0, 1) := by decide +kernel
theorem d_sc_contour_1 : decode cc_sc_contour 1 = .ok (.iload_n 1, 1) := by decide +kernel
theorem d_sc_contour_2 : decode cc_sc_contour 2 = .ok (.invokevirtual 99, 3) := by decide +kernel
theorem d_sc_contour_5 : decode cc_sc_contour 5 = .ok (.aload_n 0, 1) := by decide +kernel
theorem d_sc_contour_6 : decode cc_sc_contour 6 = .ok (.getfield 26, 3) := by decide +kernel
theorem d_sc_contour_9 : decode cc_sc_contour 9 = .ok (.iload_n 2, 1) := by decide +kernel
theorem d_sc_contour_10 : decode cc_sc_contour 10 = .ok (.invokevirtual 103, 3) := by decide +kernel
theorem d_sc_contour_13 : decode cc_sc_contour 13 = .ok (.ifCond .ne 11, 3) := by decide +kernel
theorem d_sc_contour_16 : decode cc_sc_contour 16 = .ok (.new 73, 3) := by decide +kernel
theorem d_sc_contour_19 : decode cc_sc_contour 19 = .ok (.dup, 1) := by decide +kernel
theorem d_sc_contour_20 : decode cc_sc_contour 20 = .ok (.invokespecial 75, 3) := by decide +kernel
theorem d_sc_contour_23 : decode cc_sc_contour 23 = .ok (.athrow, 1) := by decide +kernel
theorem d_sc_contour_24 : decode cc_sc_contour 24 = .ok (.aload_n 0, 1) := by decide +kernel
theorem d_sc_contour_25 : decode cc_sc_contour 25 = .ok (.getfield 26, 3) := by decide +kernel
theorem d_sc_contour_28 : decode cc_sc_contour 28 = .ok (.iload_n 2, 1) := by decide +kernel
theorem d_sc_contour_29 : decode cc_sc_contour 29 = .ok (.invokevirtual 106, 3) := by decide +kernel
theorem d_sc_contour_32 : decode cc_sc_contour 32 = .ok (.istore_n 3, 1) := by decide +kernel
theorem d_sc_contour_33 : decode cc_sc_contour 33 = .ok (.aload_n 0, 1) := by decide +kernel
theorem d_sc_contour_34 : decode cc_sc_contour 34 = .ok (.getfield 26, 3) := by decide +kernel
theorem d_sc_contour_37 : decode cc_sc_contour 37 = .ok (.iload_n 2, 1) := by decide +kernel
theorem d_sc_contour_38 : decode cc_sc_contour 38 = .ok (.invokevirtual 109, 3) := by decide +kernel
theorem d_sc_contour_41 : decode cc_sc_contour 41 = .ok (.ifCond .ne 5, 3) := by decide +kernel
theorem d_sc_contour_44 : decode cc_sc_contour 44 = .ok (.iload_n 3, 1) := by decide +kernel
theorem d_sc_contour_45 : decode cc_sc_contour 45 = .ok (.ireturn, 1) := by decide +kernel
theorem d_sc_contour_46 : decode cc_sc_contour 46 = .ok (.aload_n 0, 1) := by decide +kernel
theorem d_sc_contour_47 : decode cc_sc_contour 47 = .ok (.getfield 26, 3) := by decide +kernel
theorem d_sc_contour_50 : decode cc_sc_contour 50 = .ok (.aload_n 0, 1) := by decide +kernel
theorem d_sc_contour_51 : decode cc_sc_contour 51 = .ok (.getfield 12, 3) := by decide +kernel
theorem d_sc_contour_54 : decode cc_sc_contour 54 = .ok (.iload_n 2, 1) := by decide +kernel
theorem d_sc_contour_55 : decode cc_sc_contour 55 = .ok (.invokevirtual 112, 3) := by decide +kernel
theorem d_sc_contour_58 : decode cc_sc_contour 58 = .ok (.ifCond .eq 11, 3) := by decide +kernel
theorem d_sc_contour_61 : decode cc_sc_contour 61 = .ok (.iload_n 3, 1) := by decide +kernel
theorem d_sc_contour_62 : decode cc_sc_contour 62 = .ok (.sipush 2000, 3) := by decide +kernel
theorem d_sc_contour_65 : decode cc_sc_contour 65 = .ok (.iadd, 1) := by decide +kernel
theorem d_sc_contour_66 : decode cc_sc_contour 66 = .ok (.goto 8, 3) := by decide +kernel
theorem d_sc_contour_69 : decode cc_sc_contour 69 = .ok (.iload_n 3, 1) := by decide +kernel
theorem d_sc_contour_70 : decode cc_sc_contour 70 = .ok (.sipush 1000, 3) := by decide +kernel
theorem d_sc_contour_73 : decode cc_sc_contour 73 = .ok (.iadd, 1) := by decide +kernel
theorem d_sc_contour_74 : decode cc_sc_contour 74 = .ok (.ireturn, 1) := by decide +kernel
abbrev cc_sc_crossing : ByteArray := prog_1_method_10_code
def yy_sc_crossing : MethodName := ⟨"SpotContours", "crossing", "(III)I"⟩
def ww_sc_crossing : List Cond := .code yy_sc_crossing cc_sc_crossing 7 (some .int) :: zz_B
theorem d_sc_crossing_0 : decode cc_sc_crossing 0 = .ok (.aload_n 0, 1) := by decide +kernel
theorem d_sc_crossing_1 : decode cc_sc_crossing 1 = .ok (.iload_n 1, 1) := by decide +kernel
theorem d_sc_crossing_2 : decode cc_sc_crossing 2 = .ok (.invokevirtual 99, 3) := by decide +kernel
theorem d_sc_crossing_5 : decode cc_sc_crossing 5 = .ok (.aload_n 0, 1) := by decide +kernel
theorem d_sc_crossing_6 : decode cc_sc_crossing 6 = .ok (.iload_n 2, 1) := by decide +kernel
theorem d_sc_crossing_7 : decode cc_sc_crossing 7 = .ok (.iload_n 3, 1) := by decide +kernel
theorem d_sc_crossing_8 : decode cc_sc_crossing 8 = .ok (.invokevirtual 116, 3) := by decide +kernel
theorem d_sc_crossing_11 : decode cc_sc_crossing 11 = .ok (.istore 4, 2) := by decide +kernel
theorem d_sc_crossing_13 : decode cc_sc_crossing 13 = .ok (.iload 4, 2) := by decide +kernel
theorem d_sc_crossing_15 : decode cc_sc_crossing 15 = .ok (.invokestatic 119, 3) := by decide +kernel
theorem d_sc_crossing_18 : decode cc_sc_crossing 18 = .ok (.istore 5, 2) := by decide +kernel
theorem d_sc_crossing_20 : decode cc_sc_crossing 20 = .ok (.iload 4, 2) := by decide +kernel
theorem d_sc_crossing_22 : decode cc_sc_crossing 22 = .ok (.invokestatic 122, 3) := by decide +kernel
theorem d_sc_crossing_25 : decode cc_sc_crossing 25 = .ok (.istore 6, 2) := by decide +kernel
theorem d_sc_crossing_27 : decode cc_sc_crossing 27 = .ok (.bipush 16, 2) := by decide +kernel
theorem d_sc_crossing_29 : decode cc_sc_crossing 29 = .ok (.iload 5, 2) := by decide +kernel
theorem d_sc_crossing_31 : decode cc_sc_crossing 31 = .ok (.iload 6, 2) := by decide +kernel
theorem d_sc_crossing_33 : decode cc_sc_crossing 33 = .ok (.invokestatic 125, 3) := by decide +kernel
theorem d_sc_crossing_36 : decode cc_sc_crossing 36 = .ok (.imul, 1) := by decide +kernel
theorem d_sc_crossing_37 : decode cc_sc_crossing 37 = .ok (.iload 5, 2) := by decide +kernel
theorem d_sc_crossing_39 : decode cc_sc_crossing 39 = .ok (.iload 6, 2) := by decide +kernel
theorem d_sc_crossing_41 : decode cc_sc_crossing 41 = .ok (.invokestatic 130, 3) := by decide +kernel
theorem d_sc_crossing_44 : decode cc_sc_crossing 44 = .ok (.iadd, 1) := by decide +kernel
theorem d_sc_crossing_45 : decode cc_sc_crossing 45 = .ok (.ireturn, 1) := by decide +kernel
abbrev cc_sc_place : ByteArray := prog_1_method_11_code
def yy_sc_place : MethodName := ⟨"SpotContours", "place", "(III)I"⟩
def ww_sc_place : List Cond := .code yy_sc_place cc_sc_place 5 (some .int) :: zz_B
theorem d_sc_place_0 : decode cc_sc_place 0 = .ok (.aload_n 0, 1) := by decide +kernel
theorem d_sc_place_1 : decode cc_sc_place 1 = .ok (.iload_n 1, 1) := by decide +kernel
theorem d_sc_place_2 : decode cc_sc_place 2 = .ok (.invokevirtual 99, 3) := by decide +kernel
theorem d_sc_place_5 : decode cc_sc_place 5 = .ok (.aload_n 0, 1) := by decide +kernel
theorem d_sc_place_6 : decode cc_sc_place 6 = .ok (.iload_n 2, 1) := by decide +kernel
theorem d_sc_place_7 : decode cc_sc_place 7 = .ok (.iload_n 3, 1) := by decide +kernel
theorem d_sc_place_8 : decode cc_sc_place 8 = .ok (.invokevirtual 116, 3) := by decide +kernel
theorem d_sc_place_11 : decode cc_sc_place 11 = .ok (.istore 4, 2) := by decide +kernel
theorem d_sc_place_13 : decode cc_sc_place 13 = .ok (.bipush 64, 2) := by decide +kernel
theorem d_sc_place_15 : decode cc_sc_place 15 = .ok (.aload_n 0, 1) := by decide +kernel
theorem d_sc_place_16 : decode cc_sc_place 16 = .ok (.getfield 12, 3) := by decide +kernel
theorem d_sc_place_19 : decode cc_sc_place 19 = .ok (.iload 4, 2) := by decide +kernel
theorem d_sc_place_21 : decode cc_sc_place 21 = .ok (.iload_n 1, 1) := by decide +kernel
theorem d_sc_place_22 : decode cc_sc_place 22 = .ok (.invokevirtual 133, 3) := by decide +kernel
theorem d_sc_place_25 : decode cc_sc_place 25 = .ok (.imul, 1) := by decide +kernel
theorem d_sc_place_26 : decode cc_sc_place 26 = .ok (.aload_n 0, 1) := by decide +kernel
theorem d_sc_place_27 : decode cc_sc_place 27 = .ok (.getfield 12, 3) := by decide +kernel
theorem d_sc_place_30 : decode cc_sc_place 30 = .ok (.iload 4, 2) := by decide +kernel
theorem d_sc_place_32 : decode cc_sc_place 32 = .ok (.iload_n 1, 1) := by decide +kernel
theorem d_sc_place_33 : decode cc_sc_place 33 = .ok (.invokevirtual 136, 3) := by decide +kernel
theorem d_sc_place_36 : decode cc_sc_place 36 = .ok (.iadd, 1) := by decide +kernel
theorem d_sc_place_37 : decode cc_sc_place 37 = .ok (.ireturn, 1) := by decide +kernel
abbrev cc_sc_label : ByteArray := prog_1_method_12_code
def yy_sc_label : MethodName := ⟨"SpotContours", "label", "(I)I"⟩
def ww_sc_label : List Cond := .code yy_sc_label cc_sc_label 5 (some .int) :: zz_B
theorem d_sc_label_0 : decode cc_sc_label 0 = .ok (.aload_n 0, 1) := by decide +kernel
theorem d_sc_label_1 : decode cc_sc_label 1 = .ok (.iload_n 1, 1) := by decide +kernel
theorem d_sc_label_2 : decode cc_sc_label 2 = .ok (.invokevirtual 99, 3) := by decide +kernel
theorem d_sc_label_5 : decode cc_sc_label 5 = .ok (.aload_n 0, 1) := by decide +kernel
theorem d_sc_label_6 : decode cc_sc_label 6 = .ok (.getfield 33, 3) := by decide +kernel
theorem d_sc_label_9 : decode cc_sc_label 9 = .ok (.invokevirtual 139, 3) := by decide +kernel
theorem d_sc_label_12 : decode cc_sc_label 12 = .ok (.istore_n 2, 1) := by decide +kernel
theorem d_sc_label_13 : decode cc_sc_label 13 = .ok (.iconst 0, 1) := by decide +kernel
theorem d_sc_label_14 : decode cc_sc_label 14 = .ok (.istore_n 3, 1) := by decide +kernel
theorem d_sc_label_15 : decode cc_sc_label 15 = .ok (.iload_n 3, 1) := by decide +kernel
theorem d_sc_label_16 : decode cc_sc_label 16 = .ok (.aload_n 0, 1) := by decide +kernel
theorem d_sc_label_17 : decode cc_sc_label 17 = .ok (.getfield 26, 3) := by decide +kernel
theorem d_sc_label_20 : decode cc_sc_label 20 = .ok (.invokevirtual 102, 3) := by decide +kernel
theorem d_sc_label_23 : decode cc_sc_label 23 = .ok (.if_icmp .ge 80, 3) := by decide +kernel
theorem d_sc_label_26 : decode cc_sc_label 26 = .ok (.aload_n 0, 1) := by decide +kernel
theorem d_sc_label_27 : decode cc_sc_label 27 = .ok (.iload_n 1, 1) := by decide +kernel
theorem d_sc_label_28 : decode cc_sc_label 28 = .ok (.iload_n 3, 1) := by decide +kernel
theorem d_sc_label_29 : decode cc_sc_label 29 = .ok (.invokevirtual 140, 3) := by decide +kernel
theorem d_sc_label_32 : decode cc_sc_label 32 = .ok (.istore 4, 2) := by decide +kernel
theorem d_sc_label_34 : decode cc_sc_label 34 = .ok (.iload 4, 2) := by decide +kernel
theorem d_sc_label_36 : decode cc_sc_label 36 = .ok (.iconst (-1), 1) := by decide +kernel
theorem d_sc_label_37 : decode cc_sc_label 37 = .ok (.if_icmp .ne 6, 3) := by decide +kernel
theorem d_sc_label_40 : decode cc_sc_label 40 = .ok (.goto 57, 3) := by decide +kernel
theorem d_sc_label_43 : decode cc_sc_label 43 = .ok (.aload_n 0, 1) := by decide +kernel
theorem d_sc_label_44 : decode cc_sc_label 44 = .ok (.getfield 33, 3) := by decide +kernel
theorem d_sc_label_47 : decode cc_sc_label 47 = .ok (.invokevirtual 143, 3) := by decide +kernel
theorem d_sc_label_50 : decode cc_sc_label 50 = .ok (.ifCond .eq 19, 3) := by decide +kernel
theorem d_sc_label_53 : decode cc_sc_label 53 = .ok (.aload_n 0, 1) := by decide +kernel
theorem d_sc_label_54 : decode cc_sc_label 54 = .ok (.getfield 33, 3) := by decide +kernel
theorem d_sc_label_57 : decode cc_sc_label 57 = .ok (.iload_n 2, 1) := by decide +kernel
theorem d_sc_label_58 : decode cc_sc_label 58 = .ok (.invokevirtual 66, 3) := by decide +kernel
theorem d_sc_label_61 : decode cc_sc_label 61 = .ok (.new 55, 3) := by decide +kernel
theorem d_sc_label_64 : decode cc_sc_label 64 = .ok (.dup, 1) := by decide +kernel
theorem d_sc_label_65 : decode cc_sc_label 65 = .ok (.invokespecial 57, 3) := by decide +kernel
theorem d_sc_label_68 : decode cc_sc_label 68 = .ok (.athrow, 1) := by decide +kernel
theorem d_sc_label_69 : decode cc_sc_label 69 = .ok (.aload_n 0, 1) := by decide +kernel
theorem d_sc_label_70 : decode cc_sc_label 70 = .ok (.getfield 33, 3) := by decide +kernel
theorem d_sc_label_73 : decode cc_sc_label 73 = .ok (.iload_n 1, 1) := by decide +kernel
theorem d_sc_label_74 : decode cc_sc_label 74 = .ok (.aload_n 0, 1) := by decide +kernel
theorem d_sc_label_75 : decode cc_sc_label 75 = .ok (.getfield 12, 3) := by decide +kernel
theorem d_sc_label_78 : decode cc_sc_label 78 = .ok (.iload 4, 2) := by decide +kernel
theorem d_sc_label_80 : decode cc_sc_label 80 = .ok (.iload_n 1, 1) := by decide +kernel
theorem d_sc_label_81 : decode cc_sc_label 81 = .ok (.invokevirtual 133, 3) := by decide +kernel
theorem d_sc_label_84 : decode cc_sc_label 84 = .ok (.aload_n 0, 1) := by decide +kernel
theorem d_sc_label_85 : decode cc_sc_label 85 = .ok (.getfield 12, 3) := by decide +kernel
theorem d_sc_label_88 : decode cc_sc_label 88 = .ok (.iload 4, 2) := by decide +kernel
theorem d_sc_label_90 : decode cc_sc_label 90 = .ok (.iload_n 1, 1) := by decide +kernel
theorem d_sc_label_91 : decode cc_sc_label 91 = .ok (.invokevirtual 136, 3) := by decide +kernel
theorem d_sc_label_94 : decode cc_sc_label 94 = .ok (.invokevirtual 147, 3) := by decide +kernel
theorem d_sc_label_97 : decode cc_sc_label 97 = .ok (.iinc 3 1, 3) := by decide +kernel
theorem d_sc_label_100 : decode cc_sc_label 100 = .ok (.goto (-85), 3) := by decide +kernel
theorem d_sc_label_103 : decode cc_sc_label 103 = .ok (.aload_n 0, 1) := by decide +kernel
theorem d_sc_label_104 : decode cc_sc_label 104 = .ok (.getfield 33, 3) := by decide +kernel
theorem d_sc_label_107 : decode cc_sc_label 107 = .ok (.invokevirtual 139, 3) := by decide +kernel
theorem d_sc_label_110 : decode cc_sc_label 110 = .ok (.iload_n 2, 1) := by decide +kernel
theorem d_sc_label_111 : decode cc_sc_label 111 = .ok (.isub, 1) := by decide +kernel
theorem d_sc_label_112 : decode cc_sc_label 112 = .ok (.ireturn, 1) := by decide +kernel
abbrev cc_sc_labels : ByteArray := prog_1_method_13_code
def yy_sc_labels : MethodName := ⟨"SpotContours", "labels", "()I"⟩
def ww_sc_labels : List Cond := .code yy_sc_labels cc_sc_labels 1 (some .int) :: zz_B
theorem d_sc_labels_0 : decode cc_sc_labels 0 = .ok (.aload_n 0, 1) := by decide +kernel
theorem d_sc_labels_1 : decode cc_sc_labels 1 = .ok (.getfield 33, 3) := by decide +kernel
theorem d_sc_labels_4 : decode cc_sc_labels 4 = .ok (.invokevirtual 139, 3) := by decide +kernel
theorem d_sc_labels_7 : decode cc_sc_labels 7 = .ok (.ireturn, 1) := by decide +kernel
abbrev cc_sc_labelOf : ByteArray := prog_1_method_14_code
def yy_sc_labelOf : MethodName := ⟨"SpotContours", "labelOf", "(II)I"⟩
def ww_sc_labelOf : List Cond := .code yy_sc_labelOf cc_sc_labelOf 3 (some .int) :: zz_B
theorem d_sc_labelOf_0 : decode cc_sc_labelOf 0 = .ok (.iload_n 1, 1) := by decide +kernel
theorem d_sc_labelOf_1 : decode cc_sc_labelOf 1 = .ok (.ifCond .lt 14, 3) := by decide +kernel
theorem d_sc_labelOf_4 : decode cc_sc_labelOf 4 = .ok (.iload_n 1, 1) := by decide +kernel
theorem d_sc_labelOf_5 : decode cc_sc_labelOf 5 = .ok (.aload_n 0, 1) := by decide +kernel
theorem d_sc_labelOf_6 : decode cc_sc_labelOf 6 = .ok (.getfield 33, 3) := by decide +kernel
theorem d_sc_labelOf_9 : decode cc_sc_labelOf 9 = .ok (.invokevirtual 139, 3) := by decide +kernel
theorem d_sc_labelOf_12 : decode cc_sc_labelOf 12 = .ok (.if_icmp .lt 11, 3) := by decide +kernel
theorem d_sc_labelOf_15 : decode cc_sc_labelOf 15 = .ok (.new 73, 3) := by decide +kernel
theorem d_sc_labelOf_18 : decode cc_sc_labelOf 18 = .ok (.dup, 1) := by decide +kernel
theorem d_sc_labelOf_19 : decode cc_sc_labelOf 19 = .ok (.invokespecial 75, 3) := by decide +kernel
theorem d_sc_labelOf_22 : decode cc_sc_labelOf 22 = .ok (.athrow, 1) := by decide +kernel
theorem d_sc_labelOf_23 : decode cc_sc_labelOf 23 = .ok (.iload_n 2, 1) := by decide +kernel
theorem d_sc_labelOf_24 : decode cc_sc_labelOf 24 = .ok (.tableswitch 55 0 2 #[28, 37, 46], 28) := by decide +kernel
theorem d_sc_labelOf_52 : decode cc_sc_labelOf 52 = .ok (.aload_n 0, 1) := by decide +kernel
theorem d_sc_labelOf_53 : decode cc_sc_labelOf 53 = .ok (.getfield 33, 3) := by decide +kernel
theorem d_sc_labelOf_56 : decode cc_sc_labelOf 56 = .ok (.iload_n 1, 1) := by decide +kernel
theorem d_sc_labelOf_57 : decode cc_sc_labelOf 57 = .ok (.invokevirtual 150, 3) := by decide +kernel
theorem d_sc_labelOf_60 : decode cc_sc_labelOf 60 = .ok (.ireturn, 1) := by decide +kernel
theorem d_sc_labelOf_61 : decode cc_sc_labelOf 61 = .ok (.aload_n 0, 1) := by decide +kernel
theorem d_sc_labelOf_62 : decode cc_sc_labelOf 62 = .ok (.getfield 33, 3) := by decide +kernel
theorem d_sc_labelOf_65 : decode cc_sc_labelOf 65 = .ok (.iload_n 1, 1) := by decide +kernel
theorem d_sc_labelOf_66 : decode cc_sc_labelOf 66 = .ok (.invokevirtual 153, 3) := by decide +kernel
theorem d_sc_labelOf_69 : decode cc_sc_labelOf 69 = .ok (.ireturn, 1) := by decide +kernel
theorem d_sc_labelOf_70 : decode cc_sc_labelOf 70 = .ok (.aload_n 0, 1) := by decide +kernel
theorem d_sc_labelOf_71 : decode cc_sc_labelOf 71 = .ok (.getfield 33, 3) := by decide +kernel
theorem d_sc_labelOf_74 : decode cc_sc_labelOf 74 = .ok (.iload_n 1, 1) := by decide +kernel
theorem d_sc_labelOf_75 : decode cc_sc_labelOf 75 = .ok (.invokevirtual 156, 3) := by decide +kernel
theorem d_sc_labelOf_78 : decode cc_sc_labelOf 78 = .ok (.ireturn, 1) := by decide +kernel
theorem d_sc_labelOf_79 : decode cc_sc_labelOf 79 = .ok (.new 48, 3) := by decide +kernel
theorem d_sc_labelOf_82 : decode cc_sc_labelOf 82 = .ok (.dup, 1) := by decide +kernel
theorem d_sc_labelOf_83 : decode cc_sc_labelOf 83 = .ok (.invokespecial 50, 3) := by decide +kernel
theorem d_sc_labelOf_86 : decode cc_sc_labelOf 86 = .ok (.athrow, 1) := by decide +kernel
abbrev cc_sc_wipe : ByteArray := prog_1_method_15_code
def yy_sc_wipe : MethodName := ⟨"SpotContours", "wipe", "()I"⟩
def ww_sc_wipe : List Cond := .code yy_sc_wipe cc_sc_wipe 2 (some .int) :: zz_B
theorem d_sc_wipe_0 : decode cc_sc_wipe 0 = .ok (.aload_n 0, 1) := by decide +kernel
theorem d_sc_wipe_1 : decode cc_sc_wipe 1 = .ok (.getfield 33, 3) := by decide +kernel
theorem d_sc_wipe_4 : decode cc_sc_wipe 4 = .ok (.invokevirtual 139, 3) := by decide +kernel
theorem d_sc_wipe_7 : decode cc_sc_wipe 7 = .ok (.istore_n 1, 1) := by decide +kernel
theorem d_sc_wipe_8 : decode cc_sc_wipe 8 = .ok (.aload_n 0, 1) := by decide +kernel
theorem d_sc_wipe_9 : decode cc_sc_wipe 9 = .ok (.getfield 33, 3) := by decide +kernel
theorem d_sc_wipe_12 : decode cc_sc_wipe 12 = .ok (.iconst 0, 1) := by decide +kernel
theorem d_sc_wipe_13 : decode cc_sc_wipe 13 = .ok (.invokevirtual 66, 3) := by decide +kernel
theorem d_sc_wipe_16 : decode cc_sc_wipe 16 = .ok (.iload_n 1, 1) := by decide +kernel
theorem d_sc_wipe_17 : decode cc_sc_wipe 17 = .ok (.ireturn, 1) := by decide +kernel
abbrev cc_sc_isOnMap : ByteArray := prog_1_method_16_code
def yy_sc_isOnMap : MethodName := ⟨"SpotContours", "isOnMap", "(II)Z"⟩
def ww_sc_isOnMap : List Cond := .code yy_sc_isOnMap cc_sc_isOnMap 2 (some .boolean) :: zz_B
theorem d_sc_isOnMap_0 : decode cc_sc_isOnMap 0 = .ok (.iload_n 0, 1) := by decide +kernel
theorem d_sc_isOnMap_1 : decode cc_sc_isOnMap 1 = .ok (.ifCond .lt 23, 3) := by decide +kernel
theorem d_sc_isOnMap_4 : decode cc_sc_isOnMap 4 = .ok (.iload_n 0, 1) := by decide +kernel
theorem d_sc_isOnMap_5 : decode cc_sc_isOnMap 5 = .ok (.bipush 64, 2) := by decide +kernel
theorem d_sc_isOnMap_7 : decode cc_sc_isOnMap 7 = .ok (.if_icmp .ge 17, 3) := by decide +kernel
theorem d_sc_isOnMap_10 : decode cc_sc_isOnMap 10 = .ok (.iload_n 1, 1) := by decide +kernel
theorem d_sc_isOnMap_11 : decode cc_sc_isOnMap 11 = .ok (.ifCond .lt 13, 3) := by decide +kernel
theorem d_sc_isOnMap_14 : decode cc_sc_isOnMap 14 = .ok (.iload_n 1, 1) := by decide +kernel
theorem d_sc_isOnMap_15 : decode cc_sc_isOnMap 15 = .ok (.bipush 64, 2) := by decide +kernel
theorem d_sc_isOnMap_17 : decode cc_sc_isOnMap 17 = .ok (.if_icmp .ge 7, 3) := by decide +kernel
theorem d_sc_isOnMap_20 : decode cc_sc_isOnMap 20 = .ok (.iconst 1, 1) := by decide +kernel
theorem d_sc_isOnMap_21 : decode cc_sc_isOnMap 21 = .ok (.goto 4, 3) := by decide +kernel
theorem d_sc_isOnMap_24 : decode cc_sc_isOnMap 24 = .ok (.iconst 0, 1) := by decide +kernel
theorem d_sc_isOnMap_25 : decode cc_sc_isOnMap 25 = .ok (.ireturn, 1) := by decide +kernel
abbrev cc_sc_isHeight : ByteArray := prog_1_method_17_code
def yy_sc_isHeight : MethodName := ⟨"SpotContours", "isHeight", "(I)Z"⟩
def ww_sc_isHeight : List Cond := .code yy_sc_isHeight cc_sc_isHeight 1 (some .boolean) :: zz_B
theorem d_sc_isHeight_0 : decode cc_sc_isHeight 0 = .ok (.iload_n 0, 1) := by decide +kernel
theorem d_sc_isHeight_1 : decode cc_sc_isHeight 1 = .ok (.ifCond .lt 14, 3) := by decide +kernel
theorem d_sc_isHeight_4 : decode cc_sc_isHeight 4 = .ok (.iload_n 0, 1) := by decide +kernel
theorem d_sc_isHeight_5 : decode cc_sc_isHeight 5 = .ok (.sipush 999, 3) := by decide +kernel
theorem d_sc_isHeight_8 : decode cc_sc_isHeight 8 = .ok (.if_icmp .gt 7, 3) := by decide +kernel
theorem d_sc_isHeight_11 : decode cc_sc_isHeight 11 = .ok (.iconst 1, 1) := by decide +kernel
theorem d_sc_isHeight_12 : decode cc_sc_isHeight 12 = .ok (.goto 4, 3) := by decide +kernel
theorem d_sc_isHeight_15 : decode cc_sc_isHeight 15 = .ok (.iconst 0, 1) := by decide +kernel
theorem d_sc_isHeight_16 : decode cc_sc_isHeight 16 = .ok (.ireturn, 1) := by decide +kernel
abbrev cc_sc_traceLevel : ByteArray := prog_1_method_18_code
def yy_sc_traceLevel : MethodName := ⟨"SpotContours", "traceLevel", "(I)V"⟩
def ww_sc_traceLevel : List Cond := .code yy_sc_traceLevel cc_sc_traceLevel 2 none :: zz_B
theorem d_sc_traceLevel_0 : decode cc_sc_traceLevel 0 = .ok (.iload_n 1, 1) := by decide +kernel
theorem d_sc_traceLevel_1 : decode cc_sc_traceLevel 1 = .ok (.ifCond .lt 10, 3) := by decide +kernel
theorem d_sc_traceLevel_4 : decode cc_sc_traceLevel 4 = .ok (.iload_n 1, 1) := by decide +kernel
theorem d_sc_traceLevel_5 : decode cc_sc_traceLevel 5 = .ok (.sipush 998, 3) := by decide +kernel
theorem d_sc_traceLevel_8 : decode cc_sc_traceLevel 8 = .ok (.if_icmp .le 11, 3) := by decide +kernel
theorem d_sc_traceLevel_11 : decode cc_sc_traceLevel 11 = .ok (.new 48, 3) := by decide +kernel
theorem d_sc_traceLevel_14 : decode cc_sc_traceLevel 14 = .ok (.dup, 1) := by decide +kernel
theorem d_sc_traceLevel_15 : decode cc_sc_traceLevel 15 = .ok (.invokespecial 50, 3) := by decide +kernel
theorem d_sc_traceLevel_18 : decode cc_sc_traceLevel 18 = .ok (.athrow, 1) := by decide +kernel
theorem d_sc_traceLevel_19 : decode cc_sc_traceLevel 19 = .ok (.aload_n 0, 1) := by decide +kernel
theorem d_sc_traceLevel_20 : decode cc_sc_traceLevel 20 = .ok (.getfield 26, 3) := by decide +kernel
theorem d_sc_traceLevel_23 : decode cc_sc_traceLevel 23 = .ok (.aload_n 0, 1) := by decide +kernel
theorem d_sc_traceLevel_24 : decode cc_sc_traceLevel 24 = .ok (.getfield 12, 3) := by decide +kernel
theorem d_sc_traceLevel_27 : decode cc_sc_traceLevel 27 = .ok (.aload_n 0, 1) := by decide +kernel
theorem d_sc_traceLevel_28 : decode cc_sc_traceLevel 28 = .ok (.getfield 19, 3) := by decide +kernel
theorem d_sc_traceLevel_31 : decode cc_sc_traceLevel 31 = .ok (.iload_n 1, 1) := by decide +kernel
theorem d_sc_traceLevel_32 : decode cc_sc_traceLevel 32 = .ok (.invokevirtual 159, 3) := by decide +kernel
theorem d_sc_traceLevel_35 : decode cc_sc_traceLevel 35 = .ok (.return_, 1) := by decide +kernel
abbrev cc_sc_highOf : ByteArray := prog_1_method_19_code
def yy_sc_highOf : MethodName := ⟨"SpotContours", "highOf", "(I)I"⟩
def ww_sc_highOf : List Cond := .code yy_sc_highOf cc_sc_highOf 1 (some .int) :: zz_B
theorem d_sc_highOf_0 : decode cc_sc_highOf 0 = .ok (.iload_n 0, 1) := by decide +kernel
theorem d_sc_highOf_1 : decode cc_sc_highOf 1 = .ok (.bipush 16, 2) := by decide +kernel
theorem d_sc_highOf_3 : decode cc_sc_highOf 3 = .ok (.idiv, 1) := by decide +kernel
theorem d_sc_highOf_4 : decode cc_sc_highOf 4 = .ok (.ireturn, 1) := by decide +kernel
abbrev cc_sc_lowOf : ByteArray := prog_1_method_20_code
def yy_sc_lowOf : MethodName := ⟨"SpotContours", "lowOf", "(I)I"⟩
def ww_sc_lowOf : List Cond := .code yy_sc_lowOf cc_sc_lowOf 1 (some .int) :: zz_B
theorem d_sc_lowOf_0 : decode cc_sc_lowOf 0 = .ok (.iload_n 0, 1) := by decide +kernel
theorem d_sc_lowOf_1 : decode cc_sc_lowOf 1 = .ok (.bipush 16, 2) := by decide +kernel
theorem d_sc_lowOf_3 : decode cc_sc_lowOf 3 = .ok (.irem, 1) := by decide +kernel
theorem d_sc_lowOf_4 : decode cc_sc_lowOf 4 = .ok (.ireturn, 1) := by decide +kernel
abbrev cc_sc_pairAt : ByteArray := prog_1_method_21_code
def yy_sc_pairAt : MethodName := ⟨"SpotContours", "pairAt", "(II)I"⟩
def ww_sc_pairAt : List Cond := .code yy_sc_pairAt cc_sc_pairAt 3 (some .int) :: zz_B
theorem d_sc_pairAt_0 : decode cc_sc_pairAt 0 = .ok (.aload_n 0, 1) := by decide +kernel
theorem d_sc_pairAt_1 : decode cc_sc_pairAt 1 = .ok (.getfield 26, 3) := by decide +kernel
theorem d_sc_pairAt_4 : decode cc_sc_pairAt 4 = .ok (.iload_n 1, 1) := by decide +kernel
theorem d_sc_pairAt_5 : decode cc_sc_pairAt 5 = .ok (.invokevirtual 103, 3) := by decide +kernel
theorem d_sc_pairAt_8 : decode cc_sc_pairAt 8 = .ok (.ifCond .eq 19, 3) := by decide +kernel
theorem d_sc_pairAt_11 : decode cc_sc_pairAt 11 = .ok (.iload_n 2, 1) := by decide +kernel
theorem d_sc_pairAt_12 : decode cc_sc_pairAt 12 = .ok (.ifCond .lt 15, 3) := by decide +kernel
theorem d_sc_pairAt_15 : decode cc_sc_pairAt 15 = .ok (.iload_n 2, 1) := by decide +kernel
theorem d_sc_pairAt_16 : decode cc_sc_pairAt 16 = .ok (.aload_n 0, 1) := by decide +kernel
theorem d_sc_pairAt_17 : decode cc_sc_pairAt 17 = .ok (.getfield 26, 3) := by decide +kernel
theorem d_sc_pairAt_20 : decode cc_sc_pairAt 20 = .ok (.iload_n 1, 1) := by decide +kernel
theorem d_sc_pairAt_21 : decode cc_sc_pairAt 21 = .ok (.invokevirtual 106, 3) := by decide +kernel
theorem d_sc_pairAt_24 : decode cc_sc_pairAt 24 = .ok (.if_icmp .lt 11, 3) := by decide +kernel
theorem d_sc_pairAt_27 : decode cc_sc_pairAt 27 = .ok (.new 73, 3) := by decide +kernel
theorem d_sc_pairAt_30 : decode cc_sc_pairAt 30 = .ok (.dup, 1) := by decide +kernel
theorem d_sc_pairAt_31 : decode cc_sc_pairAt 31 = .ok (.invokespecial 75, 3) := by decide +kernel
theorem d_sc_pairAt_34 : decode cc_sc_pairAt 34 = .ok (.athrow, 1) := by decide +kernel
theorem d_sc_pairAt_35 : decode cc_sc_pairAt 35 = .ok (.aload_n 0, 1) := by decide +kernel
theorem d_sc_pairAt_36 : decode cc_sc_pairAt 36 = .ok (.getfield 26, 3) := by decide +kernel
theorem d_sc_pairAt_39 : decode cc_sc_pairAt 39 = .ok (.iload_n 1, 1) := by decide +kernel
theorem d_sc_pairAt_40 : decode cc_sc_pairAt 40 = .ok (.iload_n 2, 1) := by decide +kernel
theorem d_sc_pairAt_41 : decode cc_sc_pairAt 41 = .ok (.invokevirtual 163, 3) := by decide +kernel
theorem d_sc_pairAt_44 : decode cc_sc_pairAt 44 = .ok (.ireturn, 1) := by decide +kernel
abbrev cc_sc_firstFreePair : ByteArray := prog_1_method_22_code
def yy_sc_firstFreePair : MethodName := ⟨"SpotContours", "firstFreePair", "(II)I"⟩
def ww_sc_firstFreePair : List Cond := .code yy_sc_firstFreePair cc_sc_firstFreePair 7 (some .int) :: zz_B
theorem d_sc_firstFreePair_0 : decode cc_sc_firstFreePair 0 = .ok (.iconst 0, 1) := by decide +kernel
theorem d_sc_firstFreePair_1 : decode cc_sc_firstFreePair 1 = .ok (.istore_n 3, 1) := by decide +kernel
theorem d_sc_firstFreePair_2 : decode cc_sc_firstFreePair 2 = .ok (.iload_n 3, 1) := by decide +kernel
theorem d_sc_firstFreePair_3 : decode cc_sc_firstFreePair 3 = .ok (.aload_n 0, 1) := by decide +kernel
theorem d_sc_firstFreePair_4 : decode cc_sc_firstFreePair 4 = .ok (.getfield 26, 3) := by decide +kernel
theorem d_sc_firstFreePair_7 : decode cc_sc_firstFreePair 7 = .ok (.iload_n 2, 1) := by decide +kernel
theorem d_sc_firstFreePair_8 : decode cc_sc_firstFreePair 8 = .ok (.invokevirtual 106, 3) := by decide +kernel
theorem d_sc_firstFreePair_11 : decode cc_sc_firstFreePair 11 = .ok (.if_icmp .ge 75, 3) := by decide +kernel
theorem d_sc_firstFreePair_14 : decode cc_sc_firstFreePair 14 = .ok (.aload_n 0, 1) := by decide +kernel
theorem d_sc_firstFreePair_15 : decode cc_sc_firstFreePair 15 = .ok (.getfield 26, 3) := by decide +kernel
theorem d_sc_firstFreePair_18 : decode cc_sc_firstFreePair 18 = .ok (.iload_n 2, 1) := by decide +kernel
theorem d_sc_firstFreePair_19 : decode cc_sc_firstFreePair 19 = .ok (.iload_n 3, 1) := by decide +kernel
theorem d_sc_firstFreePair_20 : decode cc_sc_firstFreePair 20 = .ok (.invokevirtual 163, 3) := by decide +kernel
theorem d_sc_firstFreePair_23 : decode cc_sc_firstFreePair 23 = .ok (.istore 4, 2) := by decide +kernel
theorem d_sc_firstFreePair_25 : decode cc_sc_firstFreePair 25 = .ok (.aload_n 0, 1) := by decide +kernel
theorem d_sc_firstFreePair_26 : decode cc_sc_firstFreePair 26 = .ok (.getfield 12, 3) := by decide +kernel
theorem d_sc_firstFreePair_29 : decode cc_sc_firstFreePair 29 = .ok (.iload 4, 2) := by decide +kernel
theorem d_sc_firstFreePair_31 : decode cc_sc_firstFreePair 31 = .ok (.iload_n 1, 1) := by decide +kernel
theorem d_sc_firstFreePair_32 : decode cc_sc_firstFreePair 32 = .ok (.invokevirtual 133, 3) := by decide +kernel
theorem d_sc_firstFreePair_35 : decode cc_sc_firstFreePair 35 = .ok (.istore 5, 2) := by decide +kernel
theorem d_sc_firstFreePair_37 : decode cc_sc_firstFreePair 37 = .ok (.aload_n 0, 1) := by decide +kernel
theorem d_sc_firstFreePair_38 : decode cc_sc_firstFreePair 38 = .ok (.getfield 12, 3) := by decide +kernel
theorem d_sc_firstFreePair_41 : decode cc_sc_firstFreePair 41 = .ok (.iload 4, 2) := by decide +kernel
theorem d_sc_firstFreePair_43 : decode cc_sc_firstFreePair 43 = .ok (.iload_n 1, 1) := by decide +kernel
theorem d_sc_firstFreePair_44 : decode cc_sc_firstFreePair 44 = .ok (.invokevirtual 136, 3) := by decide +kernel
theorem d_sc_firstFreePair_47 : decode cc_sc_firstFreePair 47 = .ok (.istore 6, 2) := by decide +kernel
theorem d_sc_firstFreePair_49 : decode cc_sc_firstFreePair 49 = .ok (.aload_n 0, 1) := by decide +kernel
theorem d_sc_firstFreePair_50 : decode cc_sc_firstFreePair 50 = .ok (.getfield 12, 3) := by decide +kernel
theorem d_sc_firstFreePair_53 : decode cc_sc_firstFreePair 53 = .ok (.iload 5, 2) := by decide +kernel
theorem d_sc_firstFreePair_55 : decode cc_sc_firstFreePair 55 = .ok (.iload 6, 2) := by decide +kernel
theorem d_sc_firstFreePair_57 : decode cc_sc_firstFreePair 57 = .ok (.invokestatic 166, 3) := by decide +kernel
theorem d_sc_firstFreePair_60 : decode cc_sc_firstFreePair 60 = .ok (.ifCond .ne 20, 3) := by decide +kernel
theorem d_sc_firstFreePair_63 : decode cc_sc_firstFreePair 63 = .ok (.aload_n 0, 1) := by decide +kernel
theorem d_sc_firstFreePair_64 : decode cc_sc_firstFreePair 64 = .ok (.getfield 33, 3) := by decide +kernel
theorem d_sc_firstFreePair_67 : decode cc_sc_firstFreePair 67 = .ok (.iload 5, 2) := by decide +kernel
theorem d_sc_firstFreePair_69 : decode cc_sc_firstFreePair 69 = .ok (.iload 6, 2) := by decide +kernel
theorem d_sc_firstFreePair_71 : decode cc_sc_firstFreePair 71 = .ok (.invokevirtual 170, 3) := by decide +kernel
theorem d_sc_firstFreePair_74 : decode cc_sc_firstFreePair 74 = .ok (.ifCond .ne 6, 3) := by decide +kernel
theorem d_sc_firstFreePair_77 : decode cc_sc_firstFreePair 77 = .ok (.iload 4, 2) := by decide +kernel
theorem d_sc_firstFreePair_79 : decode cc_sc_firstFreePair 79 = .ok (.ireturn, 1) := by decide +kernel
theorem d_sc_firstFreePair_80 : decode cc_sc_firstFreePair 80 = .ok (.iinc 3 1, 3) := by decide +kernel
theorem d_sc_firstFreePair_83 : decode cc_sc_firstFreePair 83 = .ok (.goto (-81), 3) := by decide +kernel
theorem d_sc_firstFreePair_86 : decode cc_sc_firstFreePair 86 = .ok (.iconst (-1), 1) := by decide +kernel
theorem d_sc_firstFreePair_87 : decode cc_sc_firstFreePair 87 = .ok (.ireturn, 1) := by decide +kernel
