/-! The law's wrappers, printed. -/
abbrev cc_la_spot : ByteArray := method_3_code
def yy_la_spot : MethodName := ⟨"SpotContoursLaw", "spot", "(LSpotContours;III[J)I"⟩
abbrev hh_la_spot : List (Nat × Nat × Nat × Nat) := [(0, 12, 15, 13), (0, 12, 19, 15)]
def ww_la_spot : List Cond := .codeWith yy_la_spot cc_la_spot 6 (some .int) hh_la_spot :: zz_B
theorem d_la_spot_0 : decode cc_la_spot 0 = .ok (.aload 4, 2) := by decide +kernel
theorem d_la_spot_2 : decode cc_la_spot 2 = .ok (.iconst 0, 1) := by decide +kernel
theorem d_la_spot_3 : decode cc_la_spot 3 = .ok (.aload_n 0, 1) := by decide +kernel
theorem d_la_spot_4 : decode cc_la_spot 4 = .ok (.iload_n 1, 1) := by decide +kernel
theorem d_la_spot_5 : decode cc_la_spot 5 = .ok (.iload_n 2, 1) := by decide +kernel
theorem d_la_spot_6 : decode cc_la_spot 6 = .ok (.iload_n 3, 1) := by decide +kernel
theorem d_la_spot_7 : decode cc_la_spot 7 = .ok (.invokevirtual 7, 3) := by decide +kernel
theorem d_la_spot_10 : decode cc_la_spot 10 = .ok (.i2l, 1) := by decide +kernel
theorem d_la_spot_11 : decode cc_la_spot 11 = .ok (.lastore, 1) := by decide +kernel
theorem d_la_spot_12 : decode cc_la_spot 12 = .ok (.goto 11, 3) := by decide +kernel
theorem d_la_spot_15 : decode cc_la_spot 15 = .ok (.astore 5, 2) := by decide +kernel
theorem d_la_spot_17 : decode cc_la_spot 17 = .ok (.iconst 1, 1) := by decide +kernel
theorem d_la_spot_18 : decode cc_la_spot 18 = .ok (.ireturn, 1) := by decide +kernel
theorem d_la_spot_19 : decode cc_la_spot 19 = .ok (.astore 5, 2) := by decide +kernel
theorem d_la_spot_21 : decode cc_la_spot 21 = .ok (.iconst 2, 1) := by decide +kernel
theorem d_la_spot_22 : decode cc_la_spot 22 = .ok (.ireturn, 1) := by decide +kernel
theorem d_la_spot_23 : decode cc_la_spot 23 = .ok (.iconst 0, 1) := by decide +kernel
theorem d_la_spot_24 : decode cc_la_spot 24 = .ok (.ireturn, 1) := by decide +kernel
abbrev cc_la_raise : ByteArray := method_4_code
def yy_la_raise : MethodName := ⟨"SpotContoursLaw", "raise", "(LSpotContours;II[J)I"⟩
abbrev hh_la_raise : List (Nat × Nat × Nat × Nat) := [(0, 10, 13, 21), (0, 10, 17, 13)]
def ww_la_raise : List Cond := .codeWith yy_la_raise cc_la_raise 5 (some .int) hh_la_raise :: zz_B
theorem d_la_raise_0 : decode cc_la_raise 0 = .ok (.aload_n 3, 1) := by decide +kernel
theorem d_la_raise_1 : decode cc_la_raise 1 = .ok (.iconst 0, 1) := by decide +kernel
theorem d_la_raise_2 : decode cc_la_raise 2 = .ok (.aload_n 0, 1) := by decide +kernel
theorem d_la_raise_3 : decode cc_la_raise 3 = .ok (.iload_n 1, 1) := by decide +kernel
theorem d_la_raise_4 : decode cc_la_raise 4 = .ok (.iload_n 2, 1) := by decide +kernel
theorem d_la_raise_5 : decode cc_la_raise 5 = .ok (.invokevirtual 17, 3) := by decide +kernel
theorem d_la_raise_8 : decode cc_la_raise 8 = .ok (.i2l, 1) := by decide +kernel
theorem d_la_raise_9 : decode cc_la_raise 9 = .ok (.lastore, 1) := by decide +kernel
theorem d_la_raise_10 : decode cc_la_raise 10 = .ok (.goto 11, 3) := by decide +kernel
theorem d_la_raise_13 : decode cc_la_raise 13 = .ok (.astore 4, 2) := by decide +kernel
theorem d_la_raise_15 : decode cc_la_raise 15 = .ok (.iconst 1, 1) := by decide +kernel
theorem d_la_raise_16 : decode cc_la_raise 16 = .ok (.ireturn, 1) := by decide +kernel
theorem d_la_raise_17 : decode cc_la_raise 17 = .ok (.astore 4, 2) := by decide +kernel
theorem d_la_raise_19 : decode cc_la_raise 19 = .ok (.iconst 2, 1) := by decide +kernel
theorem d_la_raise_20 : decode cc_la_raise 20 = .ok (.ireturn, 1) := by decide +kernel
theorem d_la_raise_21 : decode cc_la_raise 21 = .ok (.iconst 0, 1) := by decide +kernel
theorem d_la_raise_22 : decode cc_la_raise 22 = .ok (.ireturn, 1) := by decide +kernel
abbrev cc_la_corner : ByteArray := method_5_code
def yy_la_corner : MethodName := ⟨"SpotContoursLaw", "corner", "(LSpotContours;II[J)I"⟩
abbrev hh_la_corner : List (Nat × Nat × Nat × Nat) := [(0, 10, 13, 21)]
def ww_la_corner : List Cond := .codeWith yy_la_corner cc_la_corner 5 (some .int) hh_la_corner :: zz_B
theorem d_la_corner_0 : decode cc_la_corner 0 = .ok (.aload_n 3, 1) := by decide +kernel
theorem d_la_corner_1 : decode cc_la_corner 1 = .ok (.iconst 0, 1) := by decide +kernel
theorem d_la_corner_2 : decode cc_la_corner 2 = .ok (.aload_n 0, 1) := by decide +kernel
theorem d_la_corner_3 : decode cc_la_corner 3 = .ok (.iload_n 1, 1) := by decide +kernel
theorem d_la_corner_4 : decode cc_la_corner 4 = .ok (.iload_n 2, 1) := by decide +kernel
theorem d_la_corner_5 : decode cc_la_corner 5 = .ok (.invokevirtual 23, 3) := by decide +kernel
theorem d_la_corner_8 : decode cc_la_corner 8 = .ok (.i2l, 1) := by decide +kernel
theorem d_la_corner_9 : decode cc_la_corner 9 = .ok (.lastore, 1) := by decide +kernel
theorem d_la_corner_10 : decode cc_la_corner 10 = .ok (.goto 7, 3) := by decide +kernel
theorem d_la_corner_13 : decode cc_la_corner 13 = .ok (.astore 4, 2) := by decide +kernel
theorem d_la_corner_15 : decode cc_la_corner 15 = .ok (.iconst 1, 1) := by decide +kernel
theorem d_la_corner_16 : decode cc_la_corner 16 = .ok (.ireturn, 1) := by decide +kernel
theorem d_la_corner_17 : decode cc_la_corner 17 = .ok (.iconst 0, 1) := by decide +kernel
theorem d_la_corner_18 : decode cc_la_corner 18 = .ok (.ireturn, 1) := by decide +kernel
abbrev cc_la_edge : ByteArray := method_6_code
def yy_la_edge : MethodName := ⟨"SpotContoursLaw", "edge", "(LSpotContours;II[J)I"⟩
abbrev hh_la_edge : List (Nat × Nat × Nat × Nat) := [(0, 10, 13, 21)]
def ww_la_edge : List Cond := .codeWith yy_la_edge cc_la_edge 5 (some .int) hh_la_edge :: zz_B
theorem d_la_edge_0 : decode cc_la_edge 0 = .ok (.aload_n 3, 1) := by decide +kernel
theorem d_la_edge_1 : decode cc_la_edge 1 = .ok (.iconst 0, 1) := by decide +kernel
theorem d_la_edge_2 : decode cc_la_edge 2 = .ok (.aload_n 0, 1) := by decide +kernel
theorem d_la_edge_3 : decode cc_la_edge 3 = .ok (.iload_n 1, 1) := by decide +kernel
theorem d_la_edge_4 : decode cc_la_edge 4 = .ok (.iload_n 2, 1) := by decide +kernel
theorem d_la_edge_5 : decode cc_la_edge 5 = .ok (.invokevirtual 26, 3) := by decide +kernel
theorem d_la_edge_8 : decode cc_la_edge 8 = .ok (.i2l, 1) := by decide +kernel
theorem d_la_edge_9 : decode cc_la_edge 9 = .ok (.lastore, 1) := by decide +kernel
theorem d_la_edge_10 : decode cc_la_edge 10 = .ok (.goto 7, 3) := by decide +kernel
theorem d_la_edge_13 : decode cc_la_edge 13 = .ok (.astore 4, 2) := by decide +kernel
theorem d_la_edge_15 : decode cc_la_edge 15 = .ok (.iconst 1, 1) := by decide +kernel
theorem d_la_edge_16 : decode cc_la_edge 16 = .ok (.ireturn, 1) := by decide +kernel
theorem d_la_edge_17 : decode cc_la_edge 17 = .ok (.iconst 0, 1) := by decide +kernel
theorem d_la_edge_18 : decode cc_la_edge 18 = .ok (.ireturn, 1) := by decide +kernel
abbrev cc_la_at : ByteArray := method_7_code
def yy_la_at : MethodName := ⟨"SpotContoursLaw", "at", "(LSpotContours;II[J)I"⟩
abbrev hh_la_at : List (Nat × Nat × Nat × Nat) := [(0, 10, 13, 32)]
def ww_la_at : List Cond := .codeWith yy_la_at cc_la_at 5 (some .int) hh_la_at :: zz_B
theorem d_la_at_0 : decode cc_la_at 0 = .ok (.aload_n 3, 1) := by decide +kernel
theorem d_la_at_1 : decode cc_la_at 1 = .ok (.iconst 0, 1) := by decide +kernel
theorem d_la_at_2 : decode cc_la_at 2 = .ok (.aload_n 0, 1) := by decide +kernel
theorem d_la_at_3 : decode cc_la_at 3 = .ok (.iload_n 1, 1) := by decide +kernel
theorem d_la_at_4 : decode cc_la_at 4 = .ok (.iload_n 2, 1) := by decide +kernel
theorem d_la_at_5 : decode cc_la_at 5 = .ok (.invokevirtual 29, 3) := by decide +kernel
theorem d_la_at_8 : decode cc_la_at 8 = .ok (.i2l, 1) := by decide +kernel
theorem d_la_at_9 : decode cc_la_at 9 = .ok (.lastore, 1) := by decide +kernel
theorem d_la_at_10 : decode cc_la_at 10 = .ok (.goto 7, 3) := by decide +kernel
theorem d_la_at_13 : decode cc_la_at 13 = .ok (.astore 4, 2) := by decide +kernel
theorem d_la_at_15 : decode cc_la_at 15 = .ok (.iconst 1, 1) := by decide +kernel
theorem d_la_at_16 : decode cc_la_at 16 = .ok (.ireturn, 1) := by decide +kernel
theorem d_la_at_17 : decode cc_la_at 17 = .ok (.iconst 0, 1) := by decide +kernel
theorem d_la_at_18 : decode cc_la_at 18 = .ok (.ireturn, 1) := by decide +kernel
abbrev cc_la_contours : ByteArray := method_8_code
def yy_la_contours : MethodName := ⟨"SpotContoursLaw", "contours", "(LSpotContours;I[J)I"⟩
abbrev hh_la_contours : List (Nat × Nat × Nat × Nat) := [(0, 9, 12, 13)]
def ww_la_contours : List Cond := .codeWith yy_la_contours cc_la_contours 4 (some .int) hh_la_contours :: zz_B
theorem d_la_contours_0 : decode cc_la_contours 0 = .ok (.aload_n 2, 1) := by decide +kernel
theorem d_la_contours_1 : decode cc_la_contours 1 = .ok (.iconst 0, 1) := by decide +kernel
theorem d_la_contours_2 : decode cc_la_contours 2 = .ok (.aload_n 0, 1) := by decide +kernel
theorem d_la_contours_3 : decode cc_la_contours 3 = .ok (.iload_n 1, 1) := by decide +kernel
theorem d_la_contours_4 : decode cc_la_contours 4 = .ok (.invokevirtual 34, 3) := by decide +kernel
theorem d_la_contours_7 : decode cc_la_contours 7 = .ok (.i2l, 1) := by decide +kernel
theorem d_la_contours_8 : decode cc_la_contours 8 = .ok (.lastore, 1) := by decide +kernel
theorem d_la_contours_9 : decode cc_la_contours 9 = .ok (.goto 6, 3) := by decide +kernel
theorem d_la_contours_12 : decode cc_la_contours 12 = .ok (.astore_n 3, 1) := by decide +kernel
theorem d_la_contours_13 : decode cc_la_contours 13 = .ok (.iconst 1, 1) := by decide +kernel
theorem d_la_contours_14 : decode cc_la_contours 14 = .ok (.ireturn, 1) := by decide +kernel
theorem d_la_contours_15 : decode cc_la_contours 15 = .ok (.iconst 0, 1) := by decide +kernel
theorem d_la_contours_16 : decode cc_la_contours 16 = .ok (.ireturn, 1) := by decide +kernel
abbrev cc_la_contour : ByteArray := method_9_code
def yy_la_contour : MethodName := ⟨"SpotContoursLaw", "contour", "(LSpotContours;II[J)I"⟩
abbrev hh_la_contour : List (Nat × Nat × Nat × Nat) := [(0, 10, 13, 13), (0, 10, 17, 21)]
def ww_la_contour : List Cond := .codeWith yy_la_contour cc_la_contour 5 (some .int) hh_la_contour :: zz_B
theorem d_la_contour_0 : decode cc_la_contour 0 = .ok (.aload_n 3, 1) := by decide +kernel
theorem d_la_contour_1 : decode cc_la_contour 1 = .ok (.iconst 0, 1) := by decide +kernel
theorem d_la_contour_2 : decode cc_la_contour 2 = .ok (.aload_n 0, 1) := by decide +kernel
theorem d_la_contour_3 : decode cc_la_contour 3 = .ok (.iload_n 1, 1) := by decide +kernel
theorem d_la_contour_4 : decode cc_la_contour 4 = .ok (.iload_n 2, 1) := by decide +kernel
theorem d_la_contour_5 : decode cc_la_contour 5 = .ok (.invokevirtual 38, 3) := by decide +kernel
theorem d_la_contour_8 : decode cc_la_contour 8 = .ok (.i2l, 1) := by decide +kernel
theorem d_la_contour_9 : decode cc_la_contour 9 = .ok (.lastore, 1) := by decide +kernel
theorem d_la_contour_10 : decode cc_la_contour 10 = .ok (.goto 11, 3) := by decide +kernel
theorem d_la_contour_13 : decode cc_la_contour 13 = .ok (.astore 4, 2) := by decide +kernel
theorem d_la_contour_15 : decode cc_la_contour 15 = .ok (.iconst 1, 1) := by decide +kernel
theorem d_la_contour_16 : decode cc_la_contour 16 = .ok (.ireturn, 1) := by decide +kernel
theorem d_la_contour_17 : decode cc_la_contour 17 = .ok (.astore 4, 2) := by decide +kernel
theorem d_la_contour_19 : decode cc_la_contour 19 = .ok (.iconst 2, 1) := by decide +kernel
theorem d_la_contour_20 : decode cc_la_contour 20 = .ok (.ireturn, 1) := by decide +kernel
theorem d_la_contour_21 : decode cc_la_contour 21 = .ok (.iconst 0, 1) := by decide +kernel
theorem d_la_contour_22 : decode cc_la_contour 22 = .ok (.ireturn, 1) := by decide +kernel
abbrev cc_la_crossing : ByteArray := method_10_code
def yy_la_crossing : MethodName := ⟨"SpotContoursLaw", "crossing", "(LSpotContours;III[J)I"⟩
abbrev hh_la_crossing : List (Nat × Nat × Nat × Nat) := [(0, 12, 15, 13), (0, 12, 19, 21)]
def ww_la_crossing : List Cond := .codeWith yy_la_crossing cc_la_crossing 6 (some .int) hh_la_crossing :: zz_B
theorem d_la_crossing_0 : decode cc_la_crossing 0 = .ok (.aload 4, 2) := by decide +kernel
theorem d_la_crossing_2 : decode cc_la_crossing 2 = .ok (.iconst 0, 1) := by decide +kernel
theorem d_la_crossing_3 : decode cc_la_crossing 3 = .ok (.aload_n 0, 1) := by decide +kernel
theorem d_la_crossing_4 : decode cc_la_crossing 4 = .ok (.iload_n 1, 1) := by decide +kernel
theorem d_la_crossing_5 : decode cc_la_crossing 5 = .ok (.iload_n 2, 1) := by decide +kernel
theorem d_la_crossing_6 : decode cc_la_crossing 6 = .ok (.iload_n 3, 1) := by decide +kernel
theorem d_la_crossing_7 : decode cc_la_crossing 7 = .ok (.invokevirtual 41, 3) := by decide +kernel
theorem d_la_crossing_10 : decode cc_la_crossing 10 = .ok (.i2l, 1) := by decide +kernel
theorem d_la_crossing_11 : decode cc_la_crossing 11 = .ok (.lastore, 1) := by decide +kernel
theorem d_la_crossing_12 : decode cc_la_crossing 12 = .ok (.goto 11, 3) := by decide +kernel
theorem d_la_crossing_15 : decode cc_la_crossing 15 = .ok (.astore 5, 2) := by decide +kernel
theorem d_la_crossing_17 : decode cc_la_crossing 17 = .ok (.iconst 1, 1) := by decide +kernel
theorem d_la_crossing_18 : decode cc_la_crossing 18 = .ok (.ireturn, 1) := by decide +kernel
theorem d_la_crossing_19 : decode cc_la_crossing 19 = .ok (.astore 5, 2) := by decide +kernel
theorem d_la_crossing_21 : decode cc_la_crossing 21 = .ok (.iconst 2, 1) := by decide +kernel
theorem d_la_crossing_22 : decode cc_la_crossing 22 = .ok (.ireturn, 1) := by decide +kernel
theorem d_la_crossing_23 : decode cc_la_crossing 23 = .ok (.iconst 0, 1) := by decide +kernel
theorem d_la_crossing_24 : decode cc_la_crossing 24 = .ok (.ireturn, 1) := by decide +kernel
abbrev cc_la_place : ByteArray := method_11_code
def yy_la_place : MethodName := ⟨"SpotContoursLaw", "place", "(LSpotContours;III[J)I"⟩
abbrev hh_la_place : List (Nat × Nat × Nat × Nat) := [(0, 12, 15, 13), (0, 12, 19, 21)]
def ww_la_place : List Cond := .codeWith yy_la_place cc_la_place 6 (some .int) hh_la_place :: zz_B
theorem d_la_place_0 : decode cc_la_place 0 = .ok (.aload 4, 2) := by decide +kernel
theorem d_la_place_2 : decode cc_la_place 2 = .ok (.iconst 0, 1) := by decide +kernel
theorem d_la_place_3 : decode cc_la_place 3 = .ok (.aload_n 0, 1) := by decide +kernel
theorem d_la_place_4 : decode cc_la_place 4 = .ok (.iload_n 1, 1) := by decide +kernel
theorem d_la_place_5 : decode cc_la_place 5 = .ok (.iload_n 2, 1) := by decide +kernel
theorem d_la_place_6 : decode cc_la_place 6 = .ok (.iload_n 3, 1) := by decide +kernel
theorem d_la_place_7 : decode cc_la_place 7 = .ok (.invokevirtual 44, 3) := by decide +kernel
theorem d_la_place_10 : decode cc_la_place 10 = .ok (.i2l, 1) := by decide +kernel
theorem d_la_place_11 : decode cc_la_place 11 = .ok (.lastore, 1) := by decide +kernel
theorem d_la_place_12 : decode cc_la_place 12 = .ok (.goto 11, 3) := by decide +kernel
theorem d_la_place_15 : decode cc_la_place 15 = .ok (.astore 5, 2) := by decide +kernel
theorem d_la_place_17 : decode cc_la_place 17 = .ok (.iconst 1, 1) := by decide +kernel
theorem d_la_place_18 : decode cc_la_place 18 = .ok (.ireturn, 1) := by decide +kernel
theorem d_la_place_19 : decode cc_la_place 19 = .ok (.astore 5, 2) := by decide +kernel
theorem d_la_place_21 : decode cc_la_place 21 = .ok (.iconst 2, 1) := by decide +kernel
theorem d_la_place_22 : decode cc_la_place 22 = .ok (.ireturn, 1) := by decide +kernel
theorem d_la_place_23 : decode cc_la_place 23 = .ok (.iconst 0, 1) := by decide +kernel
theorem d_la_place_24 : decode cc_la_place 24 = .ok (.ireturn, 1) := by decide +kernel
abbrev cc_la_label : ByteArray := method_12_code
def yy_la_label : MethodName := ⟨"SpotContoursLaw", "label", "(LSpotContours;I[J)I"⟩
abbrev hh_la_label : List (Nat × Nat × Nat × Nat) := [(0, 9, 12, 13), (0, 9, 15, 15)]
def ww_la_label : List Cond := .codeWith yy_la_label cc_la_label 4 (some .int) hh_la_label :: zz_B
theorem d_la_label_0 : decode cc_la_label 0 = .ok (.aload_n 2, 1) := by decide +kernel
theorem d_la_label_1 : decode cc_la_label 1 = .ok (.iconst 0, 1) := by decide +kernel
theorem d_la_label_2 : decode cc_la_label 2 = .ok (.aload_n 0, 1) := by decide +kernel
theorem d_la_label_3 : decode cc_la_label 3 = .ok (.iload_n 1, 1) := by decide +kernel
theorem d_la_label_4 : decode cc_la_label 4 = .ok (.invokevirtual 47, 3) := by decide +kernel
theorem d_la_label_7 : decode cc_la_label 7 = .ok (.i2l, 1) := by decide +kernel
theorem d_la_label_8 : decode cc_la_label 8 = .ok (.lastore, 1) := by decide +kernel
theorem d_la_label_9 : decode cc_la_label 9 = .ok (.goto 9, 3) := by decide +kernel
theorem d_la_label_12 : decode cc_la_label 12 = .ok (.astore_n 3, 1) := by decide +kernel
theorem d_la_label_13 : decode cc_la_label 13 = .ok (.iconst 1, 1) := by decide +kernel
theorem d_la_label_14 : decode cc_la_label 14 = .ok (.ireturn, 1) := by decide +kernel
theorem d_la_label_15 : decode cc_la_label 15 = .ok (.astore_n 3, 1) := by decide +kernel
theorem d_la_label_16 : decode cc_la_label 16 = .ok (.iconst 2, 1) := by decide +kernel
theorem d_la_label_17 : decode cc_la_label 17 = .ok (.ireturn, 1) := by decide +kernel
theorem d_la_label_18 : decode cc_la_label 18 = .ok (.iconst 0, 1) := by decide +kernel
theorem d_la_label_19 : decode cc_la_label 19 = .ok (.ireturn, 1) := by decide +kernel
abbrev cc_la_labelOf : ByteArray := method_13_code
def yy_la_labelOf : MethodName := ⟨"SpotContoursLaw", "labelOf", "(LSpotContours;II[J)I"⟩
abbrev hh_la_labelOf : List (Nat × Nat × Nat × Nat) := [(0, 10, 13, 21), (0, 10, 17, 13)]
def ww_la_labelOf : List Cond := .codeWith yy_la_labelOf cc_la_labelOf 5 (some .int) hh_la_labelOf :: zz_B
theorem d_la_labelOf_0 : decode cc_la_labelOf 0 = .ok (.aload_n 3, 1) := by decide +kernel
theorem d_la_labelOf_1 : decode cc_la_labelOf 1 = .ok (.iconst 0, 1) := by decide +kernel
theorem d_la_labelOf_2 : decode cc_la_labelOf 2 = .ok (.aload_n 0, 1) := by decide +kernel
theorem d_la_labelOf_3 : decode cc_la_labelOf 3 = .ok (.iload_n 1, 1) := by decide +kernel
theorem d_la_labelOf_4 : decode cc_la_labelOf 4 = .ok (.iload_n 2, 1) := by decide +kernel
theorem d_la_labelOf_5 : decode cc_la_labelOf 5 = .ok (.invokevirtual 50, 3) := by decide +kernel
theorem d_la_labelOf_8 : decode cc_la_labelOf 8 = .ok (.i2l, 1) := by decide +kernel
theorem d_la_labelOf_9 : decode cc_la_labelOf 9 = .ok (.lastore, 1) := by decide +kernel
theorem d_la_labelOf_10 : decode cc_la_labelOf 10 = .ok (.goto 11, 3) := by decide +kernel
theorem d_la_labelOf_13 : decode cc_la_labelOf 13 = .ok (.astore 4, 2) := by decide +kernel
theorem d_la_labelOf_15 : decode cc_la_labelOf 15 = .ok (.iconst 1, 1) := by decide +kernel
theorem d_la_labelOf_16 : decode cc_la_labelOf 16 = .ok (.ireturn, 1) := by decide +kernel
theorem d_la_labelOf_17 : decode cc_la_labelOf 17 = .ok (.astore 4, 2) := by decide +kernel
theorem d_la_labelOf_19 : decode cc_la_labelOf 19 = .ok (.iconst 2, 1) := by decide +kernel
theorem d_la_labelOf_20 : decode cc_la_labelOf 20 = .ok (.ireturn, 1) := by decide +kernel
theorem d_la_labelOf_21 : decode cc_la_labelOf 21 = .ok (.iconst 0, 1) := by decide +kernel
theorem d_la_labelOf_22 : decode cc_la_labelOf 22 = .ok (.ireturn, 1) := by decide +kernel
theorem wl_0 : Cond.code ⟨"SpotContours", "spot", "(III)I"⟩ prog_1_method_2_code 5 (some .int) ∈ zz_B := zz_mem (List.mem_append_right _ (List.mem_of_getElem? (i := 153) (by decide +kernel))) (by decide +kernel)
theorem wl_1 : Cond.methodLink "SpotContoursLaw" 7 ⟨"SpotContours", "spot", "(III)I"⟩ ∈ zz_B := zz_mem (List.mem_append_right _ (List.mem_of_getElem? (i := 150) (by decide +kernel))) (by decide +kernel)
theorem wl_2 : Cond.instanceMethod ⟨"SpotContours", "spot", "(III)I"⟩ ∈ zz_B := zz_mem (List.mem_append_right _ (List.mem_of_getElem? (i := 151) (by decide +kernel))) (by decide +kernel)
theorem wl_3 : Cond.selects "SpotContours" ⟨"SpotContours", "spot", "(III)I"⟩ ⟨"SpotContours", "spot", "(III)I"⟩ ∈ zz_B := zz_mem (List.mem_append_right _ (List.mem_of_getElem? (i := 152) (by decide +kernel))) (by decide +kernel)
theorem wl_4 : Cond.initialized "SpotContours" ∈ zz_B := zz_mem (List.mem_append_right _ (List.mem_of_getElem? (i := 1) (by decide +kernel))) (by decide +kernel)
theorem wl_5 : Cond.classLink "SpotContoursLaw" 13 "java/lang/IllegalArgumentException" ∈ zz_B := zz_mem (List.mem_append_right _ (List.mem_of_getElem? (i := 148) (by decide +kernel))) (by decide +kernel)
theorem wl_6 : Cond.classLink "SpotContoursLaw" 15 "java/lang/IllegalStateException" ∈ zz_B := zz_mem (List.mem_append_right _ (List.mem_of_getElem? (i := 149) (by decide +kernel))) (by decide +kernel)
theorem wl_7 : Cond.code ⟨"SpotContours", "raise", "(II)I"⟩ prog_1_method_3_code 4 (some .int) ∈ zz_B := zz_mem (List.mem_append_right _ (List.mem_of_getElem? (i := 299) (by decide +kernel))) (by decide +kernel)
theorem wl_8 : Cond.methodLink "SpotContoursLaw" 17 ⟨"SpotContours", "raise", "(II)I"⟩ ∈ zz_B := zz_mem (List.mem_append_right _ (List.mem_of_getElem? (i := 296) (by decide +kernel))) (by decide +kernel)
theorem wl_9 : Cond.instanceMethod ⟨"SpotContours", "raise", "(II)I"⟩ ∈ zz_B := zz_mem (List.mem_append_right _ (List.mem_of_getElem? (i := 297) (by decide +kernel))) (by decide +kernel)
theorem wl_10 : Cond.selects "SpotContours" ⟨"SpotContours", "raise", "(II)I"⟩ ⟨"SpotContours", "raise", "(II)I"⟩ ∈ zz_B := zz_mem (List.mem_append_right _ (List.mem_of_getElem? (i := 298) (by decide +kernel))) (by decide +kernel)
theorem wl_11 : Cond.classLink "SpotContoursLaw" 21 "java/lang/IndexOutOfBoundsException" ∈ zz_B := zz_mem (List.mem_append_right _ (List.mem_of_getElem? (i := 295) (by decide +kernel))) (by decide +kernel)
theorem wl_12 : Cond.code ⟨"SpotContours", "corner", "(II)I"⟩ prog_1_method_5_code 3 (some .int) ∈ zz_B := zz_mem (List.mem_append_right _ (List.mem_of_getElem? (i := 333) (by decide +kernel))) (by decide +kernel)
theorem wl_13 : Cond.methodLink "SpotContoursLaw" 23 ⟨"SpotContours", "corner", "(II)I"⟩ ∈ zz_B := zz_mem (List.mem_append_right _ (List.mem_of_getElem? (i := 330) (by decide +kernel))) (by decide +kernel)
theorem wl_14 : Cond.instanceMethod ⟨"SpotContours", "corner", "(II)I"⟩ ∈ zz_B := zz_mem (List.mem_append_right _ (List.mem_of_getElem? (i := 331) (by decide +kernel))) (by decide +kernel)
theorem wl_15 : Cond.selects "SpotContours" ⟨"SpotContours", "corner", "(II)I"⟩ ⟨"SpotContours", "corner", "(II)I"⟩ ∈ zz_B := zz_mem (List.mem_append_right _ (List.mem_of_getElem? (i := 332) (by decide +kernel))) (by decide +kernel)
theorem wl_16 : Cond.code ⟨"SpotContours", "edge", "(II)I"⟩ prog_1_method_6_code 3 (some .int) ∈ zz_B := zz_mem (List.mem_append_right _ (List.mem_of_getElem? (i := 344) (by decide +kernel))) (by decide +kernel)
theorem wl_17 : Cond.methodLink "SpotContoursLaw" 26 ⟨"SpotContours", "edge", "(II)I"⟩ ∈ zz_B := zz_mem (List.mem_append_right _ (List.mem_of_getElem? (i := 341) (by decide +kernel))) (by decide +kernel)
theorem wl_18 : Cond.instanceMethod ⟨"SpotContours", "edge", "(II)I"⟩ ∈ zz_B := zz_mem (List.mem_append_right _ (List.mem_of_getElem? (i := 342) (by decide +kernel))) (by decide +kernel)
theorem wl_19 : Cond.selects "SpotContours" ⟨"SpotContours", "edge", "(II)I"⟩ ⟨"SpotContours", "edge", "(II)I"⟩ ∈ zz_B := zz_mem (List.mem_append_right _ (List.mem_of_getElem? (i := 343) (by decide +kernel))) (by decide +kernel)
theorem wl_20 : Cond.code ⟨"SpotContours", "at", "(II)I"⟩ prog_1_method_7_code 4 (some .int) ∈ zz_B := zz_mem (List.mem_append_right _ (List.mem_of_getElem? (i := 360) (by decide +kernel))) (by decide +kernel)
theorem wl_21 : Cond.methodLink "SpotContoursLaw" 29 ⟨"SpotContours", "at", "(II)I"⟩ ∈ zz_B := zz_mem (List.mem_append_right _ (List.mem_of_getElem? (i := 357) (by decide +kernel))) (by decide +kernel)
theorem wl_22 : Cond.instanceMethod ⟨"SpotContours", "at", "(II)I"⟩ ∈ zz_B := zz_mem (List.mem_append_right _ (List.mem_of_getElem? (i := 358) (by decide +kernel))) (by decide +kernel)
theorem wl_23 : Cond.selects "SpotContours" ⟨"SpotContours", "at", "(II)I"⟩ ⟨"SpotContours", "at", "(II)I"⟩ ∈ zz_B := zz_mem (List.mem_append_right _ (List.mem_of_getElem? (i := 359) (by decide +kernel))) (by decide +kernel)
theorem wl_24 : Cond.classLink "SpotContoursLaw" 32 "java/util/NoSuchElementException" ∈ zz_B := zz_mem (List.mem_append_right _ (List.mem_of_getElem? (i := 356) (by decide +kernel))) (by decide +kernel)
theorem wl_25 : Cond.code ⟨"SpotContours", "contours", "(I)I"⟩ prog_1_method_8_code 2 (some .int) ∈ zz_B := zz_mem (List.mem_append_right _ (List.mem_of_getElem? (i := 396) (by decide +kernel))) (by decide +kernel)
theorem wl_26 : Cond.methodLink "SpotContoursLaw" 34 ⟨"SpotContours", "contours", "(I)I"⟩ ∈ zz_B := zz_mem (List.mem_append_right _ (List.mem_of_getElem? (i := 393) (by decide +kernel))) (by decide +kernel)
theorem wl_27 : Cond.instanceMethod ⟨"SpotContours", "contours", "(I)I"⟩ ∈ zz_B := zz_mem (List.mem_append_right _ (List.mem_of_getElem? (i := 394) (by decide +kernel))) (by decide +kernel)
theorem wl_28 : Cond.selects "SpotContours" ⟨"SpotContours", "contours", "(I)I"⟩ ⟨"SpotContours", "contours", "(I)I"⟩ ∈ zz_B := zz_mem (List.mem_append_right _ (List.mem_of_getElem? (i := 395) (by decide +kernel))) (by decide +kernel)
theorem wl_29 : Cond.code ⟨"SpotContours", "contour", "(II)I"⟩ prog_1_method_9_code 4 (some .int) ∈ zz_B := zz_mem (List.mem_append_right _ (List.mem_of_getElem? (i := 449) (by decide +kernel))) (by decide +kernel)
theorem wl_30 : Cond.methodLink "SpotContoursLaw" 38 ⟨"SpotContours", "contour", "(II)I"⟩ ∈ zz_B := zz_mem (List.mem_append_right _ (List.mem_of_getElem? (i := 446) (by decide +kernel))) (by decide +kernel)
theorem wl_31 : Cond.instanceMethod ⟨"SpotContours", "contour", "(II)I"⟩ ∈ zz_B := zz_mem (List.mem_append_right _ (List.mem_of_getElem? (i := 447) (by decide +kernel))) (by decide +kernel)
theorem wl_32 : Cond.selects "SpotContours" ⟨"SpotContours", "contour", "(II)I"⟩ ⟨"SpotContours", "contour", "(II)I"⟩ ∈ zz_B := zz_mem (List.mem_append_right _ (List.mem_of_getElem? (i := 448) (by decide +kernel))) (by decide +kernel)
theorem wl_33 : Cond.code ⟨"SpotContours", "crossing", "(III)I"⟩ prog_1_method_10_code 7 (some .int) ∈ zz_B := zz_mem (List.mem_append_right _ (List.mem_of_getElem? (i := 484) (by decide +kernel))) (by decide +kernel)
theorem wl_34 : Cond.methodLink "SpotContoursLaw" 41 ⟨"SpotContours", "crossing", "(III)I"⟩ ∈ zz_B := zz_mem (List.mem_append_right _ (List.mem_of_getElem? (i := 481) (by decide +kernel))) (by decide +kernel)
theorem wl_35 : Cond.instanceMethod ⟨"SpotContours", "crossing", "(III)I"⟩ ∈ zz_B := zz_mem (List.mem_append_right _ (List.mem_of_getElem? (i := 482) (by decide +kernel))) (by decide +kernel)
theorem wl_36 : Cond.selects "SpotContours" ⟨"SpotContours", "crossing", "(III)I"⟩ ⟨"SpotContours", "crossing", "(III)I"⟩ ∈ zz_B := zz_mem (List.mem_append_right _ (List.mem_of_getElem? (i := 483) (by decide +kernel))) (by decide +kernel)
theorem wl_37 : Cond.code ⟨"SpotContours", "place", "(III)I"⟩ prog_1_method_11_code 5 (some .int) ∈ zz_B := zz_mem (List.mem_append_right _ (List.mem_of_getElem? (i := 504) (by decide +kernel))) (by decide +kernel)
theorem wl_38 : Cond.methodLink "SpotContoursLaw" 44 ⟨"SpotContours", "place", "(III)I"⟩ ∈ zz_B := zz_mem (List.mem_append_right _ (List.mem_of_getElem? (i := 501) (by decide +kernel))) (by decide +kernel)
theorem wl_39 : Cond.instanceMethod ⟨"SpotContours", "place", "(III)I"⟩ ∈ zz_B := zz_mem (List.mem_append_right _ (List.mem_of_getElem? (i := 502) (by decide +kernel))) (by decide +kernel)
theorem wl_40 : Cond.selects "SpotContours" ⟨"SpotContours", "place", "(III)I"⟩ ⟨"SpotContours", "place", "(III)I"⟩ ∈ zz_B := zz_mem (List.mem_append_right _ (List.mem_of_getElem? (i := 503) (by decide +kernel))) (by decide +kernel)
theorem wl_41 : Cond.code ⟨"SpotContours", "label", "(I)I"⟩ prog_1_method_12_code 5 (some .int) ∈ zz_B := zz_mem (List.mem_append_right _ (List.mem_of_getElem? (i := 526) (by decide +kernel))) (by decide +kernel)
theorem wl_42 : Cond.methodLink "SpotContoursLaw" 47 ⟨"SpotContours", "label", "(I)I"⟩ ∈ zz_B := zz_mem (List.mem_append_right _ (List.mem_of_getElem? (i := 523) (by decide +kernel))) (by decide +kernel)
theorem wl_43 : Cond.instanceMethod ⟨"SpotContours", "label", "(I)I"⟩ ∈ zz_B := zz_mem (List.mem_append_right _ (List.mem_of_getElem? (i := 524) (by decide +kernel))) (by decide +kernel)
theorem wl_44 : Cond.selects "SpotContours" ⟨"SpotContours", "label", "(I)I"⟩ ⟨"SpotContours", "label", "(I)I"⟩ ∈ zz_B := zz_mem (List.mem_append_right _ (List.mem_of_getElem? (i := 525) (by decide +kernel))) (by decide +kernel)
theorem wl_45 : Cond.code ⟨"SpotContours", "labelOf", "(II)I"⟩ prog_1_method_14_code 3 (some .int) ∈ zz_B := zz_mem (List.mem_append_right _ (List.mem_of_getElem? (i := 561) (by decide +kernel))) (by decide +kernel)
theorem wl_46 : Cond.methodLink "SpotContoursLaw" 50 ⟨"SpotContours", "labelOf", "(II)I"⟩ ∈ zz_B := zz_mem (List.mem_append_right _ (List.mem_of_getElem? (i := 558) (by decide +kernel))) (by decide +kernel)
theorem wl_47 : Cond.instanceMethod ⟨"SpotContours", "labelOf", "(II)I"⟩ ∈ zz_B := zz_mem (List.mem_append_right _ (List.mem_of_getElem? (i := 559) (by decide +kernel))) (by decide +kernel)
theorem wl_48 : Cond.selects "SpotContours" ⟨"SpotContours", "labelOf", "(II)I"⟩ ⟨"SpotContours", "labelOf", "(II)I"⟩ ∈ zz_B := zz_mem (List.mem_append_right _ (List.mem_of_getElem? (i := 560) (by decide +kernel))) (by decide +kernel)
abbrev rm_la_spot : Room := { frames := 7, cells := 1, slots := 6, locals := 171 }
set_option maxHeartbeats 4000000 in
set_option maxRecDepth 100000 in
theorem lz_spot (l : Launch) (hlt : l.stackTraces = false) (dC : Nat → ClassId) (dI : Nat → Nat → Nat) (a : Nat → Nat) (o : Nat) (cI cZ cJ : ClassId) (sz : Nat) (x1 : Int32) (x2 : Int32) (x3 : Int32) (g : St) (f : Nat → Int64) (post : Int32 → St × (Nat → Int64) → Prop) (po : Int32 → St → Prop) (px : Nat → St → Prop) (h : wp_sc_spot x1 x2 x3 g po px) (hpo : ∀ r g1, po r g1 → post 0 (g1, vp_updL f 0 r.toInt64)) (hpx : ∀ e9 g1, px e9 g1 → (e9 = 0 ∧ post 1 (g1, f)) ∨ (e9 = 1 ∧ post 2 (g1, f))) : Met l yy_la_spot ww_la_spot rm_la_spot (lz_Pre (dC, dI) a o cI cZ cJ [.ref (a 0), .int x1, .int x2, .int x3, .ref o] (g, f) sz) (va_Qi post (lz_W (dC, dI) a o cI cZ cJ (va_A (lz_w a o cI cZ cJ (g, f)) sz)) (va_A (lz_w a o cI cZ cJ (g, f)) sz)) 1 (6 * 1) (va_A (lz_w a o cI cZ cJ (g, f)) sz) := by
  refine va_MetW (cc := cc_la_spot) (maxL := 6) (ret := some .int) (hh := hh_la_spot) (by decide) rfl ?_
  intro p e s m args below meth c s₁ B hml hv
  obtain ⟨hav, hsz, hP, hK, hD0, hN, hN3, hU⟩ := hv
  have hx := B.exec
  have hb := B.bytes
  have hr := B.returns
  have hts := atoms_spec (ws := ww_la_spot) B.pre
  have htab : c.exceptionTable.toList = tableOf hh_la_spot := vx_table (x := yy_la_spot) B (hts _ List.mem_cons_self)
  have hown : s.vm.findClass "SpotContoursLaw" = some m.cls := findClass_of_methodNamed B.named
  subst hsz
  have hD := hD0.self (sz := s.heap.size)
  generalize hAe : va_A (lz_w a o cI cZ cJ (g, f)) s.heap.size = A at hD hU ⊢
  have hA : ∀ q : Nat, s.heap.size ≤ q → A q := fun q h => by rw [← hAe]; exact Or.inr h
  have hS : va_S A s.heap s.heap [] := va_S.rf
  have he9 := lg_entry_eq m [.ref (a 0), .int x1, .int x2, .int x3, .ref o] 6
  rw [← hav] at he9
  rw [he9]
  have hl := lv_entry [.ref (a 0), .int x1, .int x2, .int x3, .ref o] (n := 6) (Nat.le_of_ble_eq_true rfl)
  generalize (lg_sl [.ref (a 0), .int x1, .int x2, .int x3, .ref o] ++ List.replicate (6 - (lg_sl [.ref (a 0), .int x1, .int x2, .int x3, .ref o]).length) Slot.unset).toArray = ls at hl ⊢
  have hl : lv_has ls 6 [(0, .ref (a 0)), (1, .int x1), (2, .int x2), (3, .int x3), (4, .ref o)] := hl
  have hK2 : va_K (dC, dI) zzCl [(cI, .int), (cZ, .boolean)] s := hK.sub [0, 1] rfl
  have hF := zz_free (w := wC a cI cZ) (lz_dl hD) hS hA
  refine lv_aload hx hb d_la_spot_0 (lv_at hl 4 rfl) ?_
  refine lv_iconst (v := 0) hx hb d_la_spot_2 (by decide) ?_
  refine lv_aload_n hx hb d_la_spot_3 rfl (lv_at hl 0 rfl) ?_
  refine lv_iload_n hx hb d_la_spot_4 rfl (lv_at hl 1 rfl) ?_
  refine lv_iload_n hx hb d_la_spot_5 rfl (lv_at hl 2 rfl) ?_
  refine lv_iload_n hx hb d_la_spot_6 rfl (lv_at hl 3 rfl) ?_
  refine vx_calli (vx_runV (As := [.int x1, .int x2, .int x3]) (rest := [.int 0, .ref o]) ⟨hx, hb, hml, hown, hts⟩ (mc_sc_spot l hlt dC dI a cI cZ _ x1 x2 x3 g _ _ h) (zz_cwV 3 hts (zz_good wl_0) rfl rfl rfl wl_1 wl_2 wl_3 wl_4 (by decide +kernel) ⟨Nat.le_of_ble_eq_true rfl, Nat.le_of_ble_eq_true rfl⟩) ⟨zz_blindX, va_recv hK2 (lz_l hP) rfl (wC_0 a cI cZ g), zz_preX (lz_l hP) hK2 (lz_dl hD) hN hS hA hU⟩ rfl rfl hl.1 rfl (lv_room (Nat.le_of_ble_eq_true rfl)) d_la_spot_7 ⟨Nat.le_of_ble_eq_true rfl, Nat.le_of_ble_eq_true rfl⟩) hS (fun q _ h => hF q h) hF (fun q _ h => hF q h) (fun E ce q9 u t H1 locs1 ht hvm hp hB hz1 hk1 hS1 hce hcv hcl => ?_) (fun r u t H1 locs1 ht hvm hp hB hz1 hk1 hS1 => ?_)
  · obtain ⟨hE, hP1, hK1, hD1⟩ := hB
    rw [ht] at hP1
    obtain ⟨hP2, hD2⟩ := lz_join hP hD hk1 hF hP1 hD1
    have hP2 : va_P (dC, dI) zzCl (lz_w a o cI cZ cJ (u.2, f)) H1 := hP2
    have hD2 : va_D A (lz_w a o cI cZ cJ (u.2, f)) := hD2
    have hS2 := hS1
    have hp := hpx _ _ hp
    rcases hp with ⟨hk, hp⟩ | ⟨hk, hp⟩
    · rw [hk] at hE
      subst hE
      refine vx_catch (name := zz_xn 0) hown [] ⟨0, 12, 15, 13⟩ [⟨0, 12, 19, 15⟩] htab (fun z h => nomatch h) (by decide) (by decide) (hts _ (zz_in wl_5)) (va_Nw.use rfl (hN.2.1 0)) hce hcv hcl ?_
      refine lv_astore (lv' := _) hx hb d_la_spot_15 hl (by decide) rfl (fun ls hl => ?_)
      refine lv_iconst (v := 1) hx hb d_la_spot_17 (by decide) ?_
      refine W.widen (k := 1) (n := 6 * 1) (Nat.le_of_ble_eq_true rfl) (Nat.le_of_ble_eq_true rfl) ?_
      exact W.iret (v := 1) hx hb hr (fun t ht hW => ⟨⟨1, (u.2, f), rfl, hp, by rw [ht]; exact hP2, va_K.moved hW.alike hK, hD2⟩, hS2.F ht⟩) hS2.2.2 d_la_spot_18
    · rw [hk] at hE
      subst hE
      refine vx_catch (name := zz_xn 1) hown [⟨0, 12, 15, 13⟩] ⟨0, 12, 19, 15⟩ [] htab (fun z h => by cases List.mem_singleton.mp h; exact Or.inr ⟨by decide, zz_xn 0, (hts _ (zz_in wl_5)), hN3.1⟩) (by decide) (by decide) (hts _ (zz_in wl_6)) (va_Nw.use rfl (hN.2.1 1)) hce hcv hcl ?_
      refine lv_astore (lv' := _) hx hb d_la_spot_19 hl (by decide) rfl (fun ls hl => ?_)
      refine lv_iconst (v := 2) hx hb d_la_spot_21 (by decide) ?_
      refine W.widen (k := 1) (n := 6 * 1) (Nat.le_of_ble_eq_true rfl) (Nat.le_of_ble_eq_true rfl) ?_
      exact W.iret (v := 2) hx hb hr (fun t ht hW => ⟨⟨2, (u.2, f), rfl, hp, by rw [ht]; exact hP2, va_K.moved hW.alike hK, hD2⟩, hS2.F ht⟩) hS2.2.2 d_la_spot_22
  · have hp := hpo _ _ hp
    obtain ⟨hP1, hK1, hD1⟩ := hB
    rw [ht] at hP1
    obtain ⟨hP2, hD2⟩ := lz_join hP hD hk1 hF hP1 hD1
    refine lv_i2l hx hb d_la_spot_10 rfl ?_
    refine va_last hx hb hK hP2 hD2 hS1 18 2 rfl rfl (i := 0) (show ¬ ((0 : Int32) < 0 ∨ 1 ≤ (0 : Int32).toNatClampNeg) by decide) d_la_spot_11 (fun H2 locs2 hP2 hD2 hS2 => ?_)
    have hP2 : va_P (dC, dI) zzCl (lz_w a o cI cZ cJ (u, vp_updL f 0 r.toInt64)) H2 := hP2
    have hD2 : va_D A (lz_w a o cI cZ cJ (u, vp_updL f 0 r.toInt64)) := hD2
    refine lv_goto (tgt := 23) hx hb d_la_spot_12 (by decide) ?_
    refine lv_iconst (v := 0) hx hb d_la_spot_23 (by decide) ?_
    refine W.widen (k := 1) (n := 6 * 1) (Nat.le_of_ble_eq_true rfl) (Nat.le_of_ble_eq_true rfl) ?_
    exact W.iret (v := 0) hx hb hr (fun t ht hW => ⟨⟨0, (u, vp_updL f 0 r.toInt64), rfl, hp, by rw [ht]; exact hP2, va_K.moved hW.alike hK, hD2⟩, hS2.F ht⟩) hS2.2.2 d_la_spot_24
abbrev rm_la_raise : Room := { frames := 7, cells := 1, slots := 6, locals := 104 }
set_option maxHeartbeats 4000000 in
set_option maxRecDepth 100000 in
theorem lz_raise (l : Launch) (hlt : l.stackTraces = false) (dC : Nat → ClassId) (dI : Nat → Nat → Nat) (a : Nat → Nat) (o : Nat) (cI cZ cJ : ClassId) (sz : Nat) (x1 : Int32) (x2 : Int32) (g : St) (f : Nat → Int64) (post : Int32 → St × (Nat → Int64) → Prop) (po : Int32 → St → Prop) (px : Nat → St → Prop) (h : wp_sc_raise x1 x2 g po px) (hpo : ∀ r g1, po r g1 → post 0 (g1, vp_updL f 0 r.toInt64)) (hpx : ∀ e9 g1, px e9 g1 → (e9 = 2 ∧ post 1 (g1, f)) ∨ (e9 = 0 ∧ post 2 (g1, f))) : Met l yy_la_raise ww_la_raise rm_la_raise (lz_Pre (dC, dI) a o cI cZ cJ [.ref (a 0), .int x1, .int x2, .ref o] (g, f) sz) (va_Qi post (lz_W (dC, dI) a o cI cZ cJ (va_A (lz_w a o cI cZ cJ (g, f)) sz)) (va_A (lz_w a o cI cZ cJ (g, f)) sz)) 1 (6 * 1) (va_A (lz_w a o cI cZ cJ (g, f)) sz) := by
  refine va_MetW (cc := cc_la_raise) (maxL := 5) (ret := some .int) (hh := hh_la_raise) (by decide) rfl ?_
  intro p e s m args below meth c s₁ B hml hv
  obtain ⟨hav, hsz, hP, hK, hD0, hN, hN3, hU⟩ := hv
  have hx := B.exec
  have hb := B.bytes
  have hr := B.returns
  have hts := atoms_spec (ws := ww_la_raise) B.pre
  have htab : c.exceptionTable.toList = tableOf hh_la_raise := vx_table (x := yy_la_raise) B (hts _ List.mem_cons_self)
  have hown : s.vm.findClass "SpotContoursLaw" = some m.cls := findClass_of_methodNamed B.named
  subst hsz
  have hD := hD0.self (sz := s.heap.size)
  generalize hAe : va_A (lz_w a o cI cZ cJ (g, f)) s.heap.size = A at hD hU ⊢
  have hA : ∀ q : Nat, s.heap.size ≤ q → A q := fun q h => by rw [← hAe]; exact Or.inr h
  have hS : va_S A s.heap s.heap [] := va_S.rf
  have he9 := lg_entry_eq m [.ref (a 0), .int x1, .int x2, .ref o] 5
  rw [← hav] at he9
  rw [he9]
  have hl := lv_entry [.ref (a 0), .int x1, .int x2, .ref o] (n := 5) (Nat.le_of_ble_eq_true rfl)
  generalize (lg_sl [.ref (a 0), .int x1, .int x2, .ref o] ++ List.replicate (5 - (lg_sl [.ref (a 0), .int x1, .int x2, .ref o]).length) Slot.unset).toArray = ls at hl ⊢
  have hl : lv_has ls 5 [(0, .ref (a 0)), (1, .int x1), (2, .int x2), (3, .ref o)] := hl
  have hK2 : va_K (dC, dI) zzCl [(cI, .int), (cZ, .boolean)] s := hK.sub [0, 1] rfl
  have hF := zz_free (w := wC a cI cZ) (lz_dl hD) hS hA
  refine lv_aload_n hx hb d_la_raise_0 rfl (lv_at hl 3 rfl) ?_
  refine lv_iconst (v := 0) hx hb d_la_raise_1 (by decide) ?_
  refine lv_aload_n hx hb d_la_raise_2 rfl (lv_at hl 0 rfl) ?_
  refine lv_iload_n hx hb d_la_raise_3 rfl (lv_at hl 1 rfl) ?_
  refine lv_iload_n hx hb d_la_raise_4 rfl (lv_at hl 2 rfl) ?_
  refine vx_calli (vx_runV (As := [.int x1, .int x2]) (rest := [.int 0, .ref o]) ⟨hx, hb, hml, hown, hts⟩ (mc_sc_raise l hlt dC dI a cI cZ _ x1 x2 g _ _ h) (zz_cwV 2 hts (zz_good wl_7) rfl rfl rfl wl_8 wl_9 wl_10 wl_4 (by decide +kernel) ⟨Nat.le_of_ble_eq_true rfl, Nat.le_of_ble_eq_true rfl⟩) ⟨zz_blindX, va_recv hK2 (lz_l hP) rfl (wC_0 a cI cZ g), zz_preX (lz_l hP) hK2 (lz_dl hD) hN hS hA hU⟩ rfl rfl hl.1 rfl (lv_room (Nat.le_of_ble_eq_true rfl)) d_la_raise_5 ⟨Nat.le_of_ble_eq_true rfl, Nat.le_of_ble_eq_true rfl⟩) hS (fun q _ h => hF q h) hF (fun q _ h => hF q h) (fun E ce q9 u t H1 locs1 ht hvm hp hB hz1 hk1 hS1 hce hcv hcl => ?_) (fun r u t H1 locs1 ht hvm hp hB hz1 hk1 hS1 => ?_)
  · obtain ⟨hE, hP1, hK1, hD1⟩ := hB
    rw [ht] at hP1
    obtain ⟨hP2, hD2⟩ := lz_join hP hD hk1 hF hP1 hD1
    have hP2 : va_P (dC, dI) zzCl (lz_w a o cI cZ cJ (u.2, f)) H1 := hP2
    have hD2 : va_D A (lz_w a o cI cZ cJ (u.2, f)) := hD2
    have hS2 := hS1
    have hp := hpx _ _ hp
    rcases hp with ⟨hk, hp⟩ | ⟨hk, hp⟩
    · rw [hk] at hE
      subst hE
      refine vx_catch (name := zz_xn 2) hown [] ⟨0, 10, 13, 21⟩ [⟨0, 10, 17, 13⟩] htab (fun z h => nomatch h) (by decide) (by decide) (hts _ (zz_in wl_11)) (va_Nw.use rfl (hN.2.1 2)) hce hcv hcl ?_
      refine lv_astore (lv' := _) hx hb d_la_raise_13 hl (by decide) rfl (fun ls hl => ?_)
      refine lv_iconst (v := 1) hx hb d_la_raise_15 (by decide) ?_
      refine W.widen (k := 1) (n := 6 * 1) (Nat.le_of_ble_eq_true rfl) (Nat.le_of_ble_eq_true rfl) ?_
      exact W.iret (v := 1) hx hb hr (fun t ht hW => ⟨⟨1, (u.2, f), rfl, hp, by rw [ht]; exact hP2, va_K.moved hW.alike hK, hD2⟩, hS2.F ht⟩) hS2.2.2 d_la_raise_16
    · rw [hk] at hE
      subst hE
      refine vx_catch (name := zz_xn 0) hown [⟨0, 10, 13, 21⟩] ⟨0, 10, 17, 13⟩ [] htab (fun z h => by cases List.mem_singleton.mp h; exact Or.inr ⟨by decide, zz_xn 2, (hts _ (zz_in wl_11)), hN3.2.1⟩) (by decide) (by decide) (hts _ (zz_in wl_5)) (va_Nw.use rfl (hN.2.1 0)) hce hcv hcl ?_
      refine lv_astore (lv' := _) hx hb d_la_raise_17 hl (by decide) rfl (fun ls hl => ?_)
      refine lv_iconst (v := 2) hx hb d_la_raise_19 (by decide) ?_
      refine W.widen (k := 1) (n := 6 * 1) (Nat.le_of_ble_eq_true rfl) (Nat.le_of_ble_eq_true rfl) ?_
      exact W.iret (v := 2) hx hb hr (fun t ht hW => ⟨⟨2, (u.2, f), rfl, hp, by rw [ht]; exact hP2, va_K.moved hW.alike hK, hD2⟩, hS2.F ht⟩) hS2.2.2 d_la_raise_20
  · have hp := hpo _ _ hp
    obtain ⟨hP1, hK1, hD1⟩ := hB
    rw [ht] at hP1
    obtain ⟨hP2, hD2⟩ := lz_join hP hD hk1 hF hP1 hD1
    refine lv_i2l hx hb d_la_raise_8 rfl ?_
    refine va_last hx hb hK hP2 hD2 hS1 18 2 rfl rfl (i := 0) (show ¬ ((0 : Int32) < 0 ∨ 1 ≤ (0 : Int32).toNatClampNeg) by decide) d_la_raise_9 (fun H2 locs2 hP2 hD2 hS2 => ?_)
    have hP2 : va_P (dC, dI) zzCl (lz_w a o cI cZ cJ (u, vp_updL f 0 r.toInt64)) H2 := hP2
    have hD2 : va_D A (lz_w a o cI cZ cJ (u, vp_updL f 0 r.toInt64)) := hD2
    refine lv_goto (tgt := 21) hx hb d_la_raise_10 (by decide) ?_
    refine lv_iconst (v := 0) hx hb d_la_raise_21 (by decide) ?_
    refine W.widen (k := 1) (n := 6 * 1) (Nat.le_of_ble_eq_true rfl) (Nat.le_of_ble_eq_true rfl) ?_
    exact W.iret (v := 0) hx hb hr (fun t ht hW => ⟨⟨0, (u, vp_updL f 0 r.toInt64), rfl, hp, by rw [ht]; exact hP2, va_K.moved hW.alike hK, hD2⟩, hS2.F ht⟩) hS2.2.2 d_la_raise_22
abbrev rm_la_corner : Room := { frames := 7, cells := 1, slots := 6, locals := 103 }
set_option maxHeartbeats 4000000 in
set_option maxRecDepth 100000 in
theorem lz_corner (l : Launch) (hlt : l.stackTraces = false) (dC : Nat → ClassId) (dI : Nat → Nat → Nat) (a : Nat → Nat) (o : Nat) (cI cZ cJ : ClassId) (sz : Nat) (x1 : Int32) (x2 : Int32) (g : St) (f : Nat → Int64) (post : Int32 → St × (Nat → Int64) → Prop) (po : Int32 → St → Prop) (px : Nat → St → Prop) (h : wp_sc_corner x1 x2 g po px) (hpo : ∀ r g1, po r g1 → post 0 (g1, vp_updL f 0 r.toInt64)) (hpx : ∀ e9 g1, px e9 g1 → (e9 = 2 ∧ post 1 (g1, f))) : Met l yy_la_corner ww_la_corner rm_la_corner (lz_Pre (dC, dI) a o cI cZ cJ [.ref (a 0), .int x1, .int x2, .ref o] (g, f) sz) (va_Qi post (lz_W (dC, dI) a o cI cZ cJ (va_A (lz_w a o cI cZ cJ (g, f)) sz)) (va_A (lz_w a o cI cZ cJ (g, f)) sz)) 1 (6 * 1) (va_A (lz_w a o cI cZ cJ (g, f)) sz) := by
  refine va_MetW (cc := cc_la_corner) (maxL := 5) (ret := some .int) (hh := hh_la_corner) (by decide) rfl ?_
  intro p e s m args below meth c s₁ B hml hv
  obtain ⟨hav, hsz, hP, hK, hD0, hN, hN3, hU⟩ := hv
  have hx := B.exec
  have hb := B.bytes
  have hr := B.returns
  have hts := atoms_spec (ws := ww_la_corner) B.pre
  have htab : c.exceptionTable.toList = tableOf hh_la_corner := vx_table (x := yy_la_corner) B (hts _ List.mem_cons_self)
  have hown : s.vm.findClass "SpotContoursLaw" = some m.cls := findClass_of_methodNamed B.named
  subst hsz
  have hD := hD0.self (sz := s.heap.size)
  generalize hAe : va_A (lz_w a o cI cZ cJ (g, f)) s.heap.size = A at hD hU ⊢
  have hA : ∀ q : Nat, s.heap.size ≤ q → A q := fun q h => by rw [← hAe]; exact Or.inr h
  have hS : va_S A s.heap s.heap [] := va_S.rf
  have he9 := lg_entry_eq m [.ref (a 0), .int x1, .int x2, .ref o] 5
  rw [← hav] at he9
  rw [he9]
  have hl := lv_entry [.ref (a 0), .int x1, .int x2, .ref o] (n := 5) (Nat.le_of_ble_eq_true rfl)
  generalize (lg_sl [.ref (a 0), .int x1, .int x2, .ref o] ++ List.replicate (5 - (lg_sl [.ref (a 0), .int x1, .int x2, .ref o]).length) Slot.unset).toArray = ls at hl ⊢
  have hl : lv_has ls 5 [(0, .ref (a 0)), (1, .int x1), (2, .int x2), (3, .ref o)] := hl
  have hK2 : va_K (dC, dI) zzCl [(cI, .int), (cZ, .boolean)] s := hK.sub [0, 1] rfl
  have hF := zz_free (w := wC a cI cZ) (lz_dl hD) hS hA
  refine lv_aload_n hx hb d_la_corner_0 rfl (lv_at hl 3 rfl) ?_
  refine lv_iconst (v := 0) hx hb d_la_corner_1 (by decide) ?_
  refine lv_aload_n hx hb d_la_corner_2 rfl (lv_at hl 0 rfl) ?_
  refine lv_iload_n hx hb d_la_corner_3 rfl (lv_at hl 1 rfl) ?_
  refine lv_iload_n hx hb d_la_corner_4 rfl (lv_at hl 2 rfl) ?_
  refine vx_calli (vx_runV (As := [.int x1, .int x2]) (rest := [.int 0, .ref o]) ⟨hx, hb, hml, hown, hts⟩ (mc_sc_corner l hlt dC dI a cI cZ _ x1 x2 g _ _ h) (zz_cwV 2 hts (zz_good wl_12) rfl rfl rfl wl_13 wl_14 wl_15 wl_4 (by decide +kernel) ⟨Nat.le_of_ble_eq_true rfl, Nat.le_of_ble_eq_true rfl⟩) ⟨zz_blindX, va_recv hK2 (lz_l hP) rfl (wC_0 a cI cZ g), zz_preX (lz_l hP) hK2 (lz_dl hD) hN hS hA hU⟩ rfl rfl hl.1 rfl (lv_room (Nat.le_of_ble_eq_true rfl)) d_la_corner_5 ⟨Nat.le_of_ble_eq_true rfl, Nat.le_of_ble_eq_true rfl⟩) hS (fun q _ h => hF q h) hF (fun q _ h => hF q h) (fun E ce q9 u t H1 locs1 ht hvm hp hB hz1 hk1 hS1 hce hcv hcl => ?_) (fun r u t H1 locs1 ht hvm hp hB hz1 hk1 hS1 => ?_)
  · obtain ⟨hE, hP1, hK1, hD1⟩ := hB
    rw [ht] at hP1
    obtain ⟨hP2, hD2⟩ := lz_join hP hD hk1 hF hP1 hD1
    have hP2 : va_P (dC, dI) zzCl (lz_w a o cI cZ cJ (u.2, f)) H1 := hP2
    have hD2 : va_D A (lz_w a o cI cZ cJ (u.2, f)) := hD2
    have hS2 := hS1
    have hp := hpx _ _ hp
    obtain ⟨hk, hp⟩ := hp
    rw [hk] at hE
    subst hE
    refine vx_catch (name := zz_xn 2) hown [] ⟨0, 10, 13, 21⟩ [] htab (fun z h => nomatch h) (by decide) (by decide) (hts _ (zz_in wl_11)) (va_Nw.use rfl (hN.2.1 2)) hce hcv hcl ?_
    refine lv_astore (lv' := _) hx hb d_la_corner_13 hl (by decide) rfl (fun ls hl => ?_)
    refine lv_iconst (v := 1) hx hb d_la_corner_15 (by decide) ?_
    refine W.widen (k := 1) (n := 6 * 1) (Nat.le_of_ble_eq_true rfl) (Nat.le_of_ble_eq_true rfl) ?_
    exact W.iret (v := 1) hx hb hr (fun t ht hW => ⟨⟨1, (u.2, f), rfl, hp, by rw [ht]; exact hP2, va_K.moved hW.alike hK, hD2⟩, hS2.F ht⟩) hS2.2.2 d_la_corner_16
  · have hp := hpo _ _ hp
    obtain ⟨hP1, hK1, hD1⟩ := hB
    rw [ht] at hP1
    obtain ⟨hP2, hD2⟩ := lz_join hP hD hk1 hF hP1 hD1
    refine lv_i2l hx hb d_la_corner_8 rfl ?_
    refine va_last hx hb hK hP2 hD2 hS1 18 2 rfl rfl (i := 0) (show ¬ ((0 : Int32) < 0 ∨ 1 ≤ (0 : Int32).toNatClampNeg) by decide) d_la_corner_9 (fun H2 locs2 hP2 hD2 hS2 => ?_)
    have hP2 : va_P (dC, dI) zzCl (lz_w a o cI cZ cJ (u, vp_updL f 0 r.toInt64)) H2 := hP2
    have hD2 : va_D A (lz_w a o cI cZ cJ (u, vp_updL f 0 r.toInt64)) := hD2
    refine lv_goto (tgt := 17) hx hb d_la_corner_10 (by decide) ?_
    refine lv_iconst (v := 0) hx hb d_la_corner_17 (by decide) ?_
    refine W.widen (k := 1) (n := 6 * 1) (Nat.le_of_ble_eq_true rfl) (Nat.le_of_ble_eq_true rfl) ?_
    exact W.iret (v := 0) hx hb hr (fun t ht hW => ⟨⟨0, (u, vp_updL f 0 r.toInt64), rfl, hp, by rw [ht]; exact hP2, va_K.moved hW.alike hK, hD2⟩, hS2.F ht⟩) hS2.2.2 d_la_corner_18
abbrev rm_la_edge : Room := { frames := 7, cells := 1, slots := 6, locals := 103 }
set_option maxHeartbeats 4000000 in
set_option maxRecDepth 100000 in
theorem lz_edge (l : Launch) (hlt : l.stackTraces = false) (dC : Nat → ClassId) (dI : Nat → Nat → Nat) (a : Nat → Nat) (o : Nat) (cI cZ cJ : ClassId) (sz : Nat) (x1 : Int32) (x2 : Int32) (g : St) (f : Nat → Int64) (post : Int32 → St × (Nat → Int64) → Prop) (po : Int32 → St → Prop) (px : Nat → St → Prop) (h : wp_sc_edge x1 x2 g po px) (hpo : ∀ r g1, po r g1 → post 0 (g1, vp_updL f 0 r.toInt64)) (hpx : ∀ e9 g1, px e9 g1 → (e9 = 2 ∧ post 1 (g1, f))) : Met l yy_la_edge ww_la_edge rm_la_edge (lz_Pre (dC, dI) a o cI cZ cJ [.ref (a 0), .int x1, .int x2, .ref o] (g, f) sz) (va_Qi post (lz_W (dC, dI) a o cI cZ cJ (va_A (lz_w a o cI cZ cJ (g, f)) sz)) (va_A (lz_w a o cI cZ cJ (g, f)) sz)) 1 (6 * 1) (va_A (lz_w a o cI cZ cJ (g, f)) sz) := by
  refine va_MetW (cc := cc_la_edge) (maxL := 5) (ret := some .int) (hh := hh_la_edge) (by decide) rfl ?_
  intro p e s m args below meth c s₁ B hml hv
  obtain ⟨hav, hsz, hP, hK, hD0, hN, hN3, hU⟩ := hv
  have hx := B.exec
  have hb := B.bytes
  have hr := B.returns
  have hts := atoms_spec (ws := ww_la_edge) B.pre
  have htab : c.exceptionTable.toList = tableOf hh_la_edge := vx_table (x := yy_la_edge) B (hts _ List.mem_cons_self)
  have hown : s.vm.findClass "SpotContoursLaw" = some m.cls := findClass_of_methodNamed B.named
  subst hsz
  have hD := hD0.self (sz := s.heap.size)
  generalize hAe : va_A (lz_w a o cI cZ cJ (g, f)) s.heap.size = A at hD hU ⊢
  have hA : ∀ q : Nat, s.heap.size ≤ q → A q := fun q h => by rw [← hAe]; exact Or.inr h
  have hS : va_S A s.heap s.heap [] := va_S.rf
  have he9 := lg_entry_eq m [.ref (a 0), .int x1, .int x2, .ref o] 5
  rw [← hav] at he9
  rw [he9]
  have hl := lv_entry [.ref (a 0), .int x1, .int x2, .ref o] (n := 5) (Nat.le_of_ble_eq_true rfl)
  generalize (lg_sl [.ref (a 0), .int x1, .int x2, .ref o] ++ List.replicate (5 - (lg_sl [.ref (a 0), .int x1, .int x2, .ref o]).length) Slot.unset).toArray = ls at hl ⊢
  have hl : lv_has ls 5 [(0, .ref (a 0)), (1, .int x1), (2, .int x2), (3, .ref o)] := hl
  have hK2 : va_K (dC, dI) zzCl [(cI, .int), (cZ, .boolean)] s := hK.sub [0, 1] rfl
  have hF := zz_free (w := wC a cI cZ) (lz_dl hD) hS hA
  refine lv_aload_n hx hb d_la_edge_0 rfl (lv_at hl 3 rfl) ?_
  refine lv_iconst (v := 0) hx hb d_la_edge_1 (by decide) ?_
  refine lv_aload_n hx hb d_la_edge_2 rfl (lv_at hl 0 rfl) ?_
  refine lv_iload_n hx hb d_la_edge_3 rfl (lv_at hl 1 rfl) ?_
  refine lv_iload_n hx hb d_la_edge_4 rfl (lv_at hl 2 rfl) ?_
  refine vx_calli (vx_runV (As := [.int x1, .int x2]) (rest := [.int 0, .ref o]) ⟨hx, hb, hml, hown, hts⟩ (mc_sc_edge l hlt dC dI a cI cZ _ x1 x2 g _ _ h) (zz_cwV 2 hts (zz_good wl_16) rfl rfl rfl wl_17 wl_18 wl_19 wl_4 (by decide +kernel) ⟨Nat.le_of_ble_eq_true rfl, Nat.le_of_ble_eq_true rfl⟩) ⟨zz_blindX, va_recv hK2 (lz_l hP) rfl (wC_0 a cI cZ g), zz_preX (lz_l hP) hK2 (lz_dl hD) hN hS hA hU⟩ rfl rfl hl.1 rfl (lv_room (Nat.le_of_ble_eq_true rfl)) d_la_edge_5 ⟨Nat.le_of_ble_eq_true rfl, Nat.le_of_ble_eq_true rfl⟩) hS (fun q _ h => hF q h) hF (fun q _ h => hF q h) (fun E ce q9 u t H1 locs1 ht hvm hp hB hz1 hk1 hS1 hce hcv hcl => ?_) (fun r u t H1 locs1 ht hvm hp hB hz1 hk1 hS1 => ?_)
  · obtain ⟨hE, hP1, hK1, hD1⟩ := hB
    rw [ht] at hP1
    obtain ⟨hP2, hD2⟩ := lz_join hP hD hk1 hF hP1 hD1
    have hP2 : va_P (dC, dI) zzCl (lz_w a o cI cZ cJ (u.2, f)) H1 := hP2
    have hD2 : va_D A (lz_w a o cI cZ cJ (u.2, f)) := hD2
    have hS2 := hS1
    have hp := hpx _ _ hp
    obtain ⟨hk, hp⟩ := hp
    rw [hk] at hE
    subst hE
    refine vx_catch (name := zz_xn 2) hown [] ⟨0, 10, 13, 21⟩ [] htab (fun z h => nomatch h) (by decide) (by decide) (hts _ (zz_in wl_11)) (va_Nw.use rfl (hN.2.1 2)) hce hcv hcl ?_
    refine lv_astore (lv' := _) hx hb d_la_edge_13 hl (by decide) rfl (fun ls hl => ?_)
    refine lv_iconst (v := 1) hx hb d_la_edge_15 (by decide) ?_
    refine W.widen (k := 1) (n := 6 * 1) (Nat.le_of_ble_eq_true rfl) (Nat.le_of_ble_eq_true rfl) ?_
    exact W.iret (v := 1) hx hb hr (fun t ht hW => ⟨⟨1, (u.2, f), rfl, hp, by rw [ht]; exact hP2, va_K.moved hW.alike hK, hD2⟩, hS2.F ht⟩) hS2.2.2 d_la_edge_16
  · have hp := hpo _ _ hp
    obtain ⟨hP1, hK1, hD1⟩ := hB
    rw [ht] at hP1
    obtain ⟨hP2, hD2⟩ := lz_join hP hD hk1 hF hP1 hD1
    refine lv_i2l hx hb d_la_edge_8 rfl ?_
    refine va_last hx hb hK hP2 hD2 hS1 18 2 rfl rfl (i := 0) (show ¬ ((0 : Int32) < 0 ∨ 1 ≤ (0 : Int32).toNatClampNeg) by decide) d_la_edge_9 (fun H2 locs2 hP2 hD2 hS2 => ?_)
    have hP2 : va_P (dC, dI) zzCl (lz_w a o cI cZ cJ (u, vp_updL f 0 r.toInt64)) H2 := hP2
    have hD2 : va_D A (lz_w a o cI cZ cJ (u, vp_updL f 0 r.toInt64)) := hD2
    refine lv_goto (tgt := 17) hx hb d_la_edge_10 (by decide) ?_
    refine lv_iconst (v := 0) hx hb d_la_edge_17 (by decide) ?_
    refine W.widen (k := 1) (n := 6 * 1) (Nat.le_of_ble_eq_true rfl) (Nat.le_of_ble_eq_true rfl) ?_
    exact W.iret (v := 0) hx hb hr (fun t ht hW => ⟨⟨0, (u, vp_updL f 0 r.toInt64), rfl, hp, by rw [ht]; exact hP2, va_K.moved hW.alike hK, hD2⟩, hS2.F ht⟩) hS2.2.2 d_la_edge_18
abbrev rm_la_at : Room := { frames := 7, cells := 1, slots := 6, locals := 127 }
set_option maxHeartbeats 4000000 in
set_option maxRecDepth 100000 in
theorem lz_at (l : Launch) (hlt : l.stackTraces = false) (dC : Nat → ClassId) (dI : Nat → Nat → Nat) (a : Nat → Nat) (o : Nat) (cI cZ cJ : ClassId) (sz : Nat) (x1 : Int32) (x2 : Int32) (g : St) (f : Nat → Int64) (post : Int32 → St × (Nat → Int64) → Prop) (po : Int32 → St → Prop) (px : Nat → St → Prop) (h : wp_sc_at x1 x2 g po px) (hpo : ∀ r g1, po r g1 → post 0 (g1, vp_updL f 0 r.toInt64)) (hpx : ∀ e9 g1, px e9 g1 → (e9 = 3 ∧ post 1 (g1, f))) : Met l yy_la_at ww_la_at rm_la_at (lz_Pre (dC, dI) a o cI cZ cJ [.ref (a 0), .int x1, .int x2, .ref o] (g, f) sz) (va_Qi post (lz_W (dC, dI) a o cI cZ cJ (va_A (lz_w a o cI cZ cJ (g, f)) sz)) (va_A (lz_w a o cI cZ cJ (g, f)) sz)) 1 (6 * 1) (va_A (lz_w a o cI cZ cJ (g, f)) sz) := by
  refine va_MetW (cc := cc_la_at) (maxL := 5) (ret := some .int) (hh := hh_la_at) (by decide) rfl ?_
  intro p e s m args below meth c s₁ B hml hv
  obtain ⟨hav, hsz, hP, hK, hD0, hN, hN3, hU⟩ := hv
  have hx := B.exec
  have hb := B.bytes
  have hr := B.returns
  have hts := atoms_spec (ws := ww_la_at) B.pre
  have htab : c.exceptionTable.toList = tableOf hh_la_at := vx_table (x := yy_la_at) B (hts _ List.mem_cons_self)
  have hown : s.vm.findClass "SpotContoursLaw" = some m.cls := findClass_of_methodNamed B.named
  subst hsz
  have hD := hD0.self (sz := s.heap.size)
  generalize hAe : va_A (lz_w a o cI cZ cJ (g, f)) s.heap.size = A at hD hU ⊢
  have hA : ∀ q : Nat, s.heap.size ≤ q → A q := fun q h => by rw [← hAe]; exact Or.inr h
  have hS : va_S A s.heap s.heap [] := va_S.rf
  have he9 := lg_entry_eq m [.ref (a 0), .int x1, .int x2, .ref o] 5
  rw [← hav] at he9
  rw [he9]
  have hl := lv_entry [.ref (a 0), .int x1, .int x2, .ref o] (n := 5) (Nat.le_of_ble_eq_true rfl)
  generalize (lg_sl [.ref (a 0), .int x1, .int x2, .ref o] ++ List.replicate (5 - (lg_sl [.ref (a 0), .int x1, .int x2, .ref o]).length) Slot.unset).toArray = ls at hl ⊢
  have hl : lv_has ls 5 [(0, .ref (a 0)), (1, .int x1), (2, .int x2), (3, .ref o)] := hl
  have hK2 : va_K (dC, dI) zzCl [(cI, .int), (cZ, .boolean)] s := hK.sub [0, 1] rfl
  have hF := zz_free (w := wC a cI cZ) (lz_dl hD) hS hA
  refine lv_aload_n hx hb d_la_at_0 rfl (lv_at hl 3 rfl) ?_
  refine lv_iconst (v := 0) hx hb d_la_at_1 (by decide) ?_
  refine lv_aload_n hx hb d_la_at_2 rfl (lv_at hl 0 rfl) ?_
  refine lv_iload_n hx hb d_la_at_3 rfl (lv_at hl 1 rfl) ?_
  refine lv_iload_n hx hb d_la_at_4 rfl (lv_at hl 2 rfl) ?_
  refine vx_calli (vx_runV (As := [.int x1, .int x2]) (rest := [.int 0, .ref o]) ⟨hx, hb, hml, hown, hts⟩ (mc_sc_at l hlt dC dI a cI cZ _ x1 x2 g _ _ h) (zz_cwV 2 hts (zz_good wl_20) rfl rfl rfl wl_21 wl_22 wl_23 wl_4 (by decide +kernel) ⟨Nat.le_of_ble_eq_true rfl, Nat.le_of_ble_eq_true rfl⟩) ⟨zz_blindX, va_recv hK2 (lz_l hP) rfl (wC_0 a cI cZ g), zz_preX (lz_l hP) hK2 (lz_dl hD) hN hS hA hU⟩ rfl rfl hl.1 rfl (lv_room (Nat.le_of_ble_eq_true rfl)) d_la_at_5 ⟨Nat.le_of_ble_eq_true rfl, Nat.le_of_ble_eq_true rfl⟩) hS (fun q _ h => hF q h) hF (fun q _ h => hF q h) (fun E ce q9 u t H1 locs1 ht hvm hp hB hz1 hk1 hS1 hce hcv hcl => ?_) (fun r u t H1 locs1 ht hvm hp hB hz1 hk1 hS1 => ?_)
  · obtain ⟨hE, hP1, hK1, hD1⟩ := hB
    rw [ht] at hP1
    obtain ⟨hP2, hD2⟩ := lz_join hP hD hk1 hF hP1 hD1
    have hP2 : va_P (dC, dI) zzCl (lz_w a o cI cZ cJ (u.2, f)) H1 := hP2
    have hD2 : va_D A (lz_w a o cI cZ cJ (u.2, f)) := hD2
    have hS2 := hS1
    have hp := hpx _ _ hp
    obtain ⟨hk, hp⟩ := hp
    rw [hk] at hE
    subst hE
    refine vx_catch (name := zz_xn 3) hown [] ⟨0, 10, 13, 32⟩ [] htab (fun z h => nomatch h) (by decide) (by decide) (hts _ (zz_in wl_24)) (va_Nw.use rfl (hN.2.1 3)) hce hcv hcl ?_
    refine lv_astore (lv' := _) hx hb d_la_at_13 hl (by decide) rfl (fun ls hl => ?_)
    refine lv_iconst (v := 1) hx hb d_la_at_15 (by decide) ?_
    refine W.widen (k := 1) (n := 6 * 1) (Nat.le_of_ble_eq_true rfl) (Nat.le_of_ble_eq_true rfl) ?_
    exact W.iret (v := 1) hx hb hr (fun t ht hW => ⟨⟨1, (u.2, f), rfl, hp, by rw [ht]; exact hP2, va_K.moved hW.alike hK, hD2⟩, hS2.F ht⟩) hS2.2.2 d_la_at_16
  · have hp := hpo _ _ hp
    obtain ⟨hP1, hK1, hD1⟩ := hB
    rw [ht] at hP1
    obtain ⟨hP2, hD2⟩ := lz_join hP hD hk1 hF hP1 hD1
    refine lv_i2l hx hb d_la_at_8 rfl ?_
    refine va_last hx hb hK hP2 hD2 hS1 18 2 rfl rfl (i := 0) (show ¬ ((0 : Int32) < 0 ∨ 1 ≤ (0 : Int32).toNatClampNeg) by decide) d_la_at_9 (fun H2 locs2 hP2 hD2 hS2 => ?_)
    have hP2 : va_P (dC, dI) zzCl (lz_w a o cI cZ cJ (u, vp_updL f 0 r.toInt64)) H2 := hP2
    have hD2 : va_D A (lz_w a o cI cZ cJ (u, vp_updL f 0 r.toInt64)) := hD2
    refine lv_goto (tgt := 17) hx hb d_la_at_10 (by decide) ?_
    refine lv_iconst (v := 0) hx hb d_la_at_17 (by decide) ?_
    refine W.widen (k := 1) (n := 6 * 1) (Nat.le_of_ble_eq_true rfl) (Nat.le_of_ble_eq_true rfl) ?_
    exact W.iret (v := 0) hx hb hr (fun t ht hW => ⟨⟨0, (u, vp_updL f 0 r.toInt64), rfl, hp, by rw [ht]; exact hP2, va_K.moved hW.alike hK, hD2⟩, hS2.F ht⟩) hS2.2.2 d_la_at_18
abbrev rm_la_contours : Room := { frames := 8, cells := 1, slots := 6, locals := 164 }
set_option maxHeartbeats 4000000 in
set_option maxRecDepth 100000 in
theorem lz_contours (l : Launch) (hlt : l.stackTraces = false) (dC : Nat → ClassId) (dI : Nat → Nat → Nat) (a : Nat → Nat) (o : Nat) (cI cZ cJ : ClassId) (sz : Nat) (x1 : Int32) (g : St) (f : Nat → Int64) (post : Int32 → St × (Nat → Int64) → Prop) (po : Int32 → St → Prop) (px : Nat → St → Prop) (h : wp_sc_contours x1 g po px) (hpo : ∀ r g1, po r g1 → post 0 (g1, vp_updL f 0 r.toInt64)) (hpx : ∀ e9 g1, px e9 g1 → (e9 = 0 ∧ post 1 (g1, f))) : Met l yy_la_contours ww_la_contours rm_la_contours (lz_Pre (dC, dI) a o cI cZ cJ [.ref (a 0), .int x1, .ref o] (g, f) sz) (va_Qi post (lz_W (dC, dI) a o cI cZ cJ (va_A (lz_w a o cI cZ cJ (g, f)) sz)) (va_A (lz_w a o cI cZ cJ (g, f)) sz)) 1 (6 * 1) (va_A (lz_w a o cI cZ cJ (g, f)) sz) := by
  refine va_MetW (cc := cc_la_contours) (maxL := 4) (ret := some .int) (hh := hh_la_contours) (by decide) rfl ?_
  intro p e s m args below meth c s₁ B hml hv
  obtain ⟨hav, hsz, hP, hK, hD0, hN, hN3, hU⟩ := hv
  have hx := B.exec
  have hb := B.bytes
  have hr := B.returns
  have hts := atoms_spec (ws := ww_la_contours) B.pre
  have htab : c.exceptionTable.toList = tableOf hh_la_contours := vx_table (x := yy_la_contours) B (hts _ List.mem_cons_self)
  have hown : s.vm.findClass "SpotContoursLaw" = some m.cls := findClass_of_methodNamed B.named
  subst hsz
  have hD := hD0.self (sz := s.heap.size)
  generalize hAe : va_A (lz_w a o cI cZ cJ (g, f)) s.heap.size = A at hD hU ⊢
  have hA : ∀ q : Nat, s.heap.size ≤ q → A q := fun q h => by rw [← hAe]; exact Or.inr h
  have hS : va_S A s.heap s.heap [] := va_S.rf
  have he9 := lg_entry_eq m [.ref (a 0), .int x1, .ref o] 4
  rw [← hav] at he9
  rw [he9]
  have hl := lv_entry [.ref (a 0), .int x1, .ref o] (n := 4) (Nat.le_of_ble_eq_true rfl)
  generalize (lg_sl [.ref (a 0), .int x1, .ref o] ++ List.replicate (4 - (lg_sl [.ref (a 0), .int x1, .ref o]).length) Slot.unset).toArray = ls at hl ⊢
  have hl : lv_has ls 4 [(0, .ref (a 0)), (1, .int x1), (2, .ref o)] := hl
  have hK2 : va_K (dC, dI) zzCl [(cI, .int), (cZ, .boolean)] s := hK.sub [0, 1] rfl
  have hF := zz_free (w := wC a cI cZ) (lz_dl hD) hS hA
  refine lv_aload_n hx hb d_la_contours_0 rfl (lv_at hl 2 rfl) ?_
  refine lv_iconst (v := 0) hx hb d_la_contours_1 (by decide) ?_
  refine lv_aload_n hx hb d_la_contours_2 rfl (lv_at hl 0 rfl) ?_
  refine lv_iload_n hx hb d_la_contours_3 rfl (lv_at hl 1 rfl) ?_
  refine vx_calli (vx_runV (As := [.int x1]) (rest := [.int 0, .ref o]) ⟨hx, hb, hml, hown, hts⟩ (mc_sc_contours l hlt dC dI a cI cZ _ x1 g _ _ h) (zz_cwV 1 hts (zz_good wl_25) rfl rfl rfl wl_26 wl_27 wl_28 wl_4 (by decide +kernel) ⟨Nat.le_of_ble_eq_true rfl, Nat.le_of_ble_eq_true rfl⟩) ⟨zz_blindX, va_recv hK2 (lz_l hP) rfl (wC_0 a cI cZ g), zz_preX (lz_l hP) hK2 (lz_dl hD) hN hS hA hU⟩ rfl rfl hl.1 rfl (lv_room (Nat.le_of_ble_eq_true rfl)) d_la_contours_4 ⟨Nat.le_of_ble_eq_true rfl, Nat.le_of_ble_eq_true rfl⟩) hS (fun q _ h => hF q h) hF (fun q _ h => hF q h) (fun E ce q9 u t H1 locs1 ht hvm hp hB hz1 hk1 hS1 hce hcv hcl => ?_) (fun r u t H1 locs1 ht hvm hp hB hz1 hk1 hS1 => ?_)
  · obtain ⟨hE, hP1, hK1, hD1⟩ := hB
    rw [ht] at hP1
    obtain ⟨hP2, hD2⟩ := lz_join hP hD hk1 hF hP1 hD1
    have hP2 : va_P (dC, dI) zzCl (lz_w a o cI cZ cJ (u.2, f)) H1 := hP2
    have hD2 : va_D A (lz_w a o cI cZ cJ (u.2, f)) := hD2
    have hS2 := hS1
    have hp := hpx _ _ hp
    obtain ⟨hk, hp⟩ := hp
    rw [hk] at hE
    subst hE
    refine vx_catch (name := zz_xn 0) hown [] ⟨0, 9, 12, 13⟩ [] htab (fun z h => nomatch h) (by decide) (by decide) (hts _ (zz_in wl_5)) (va_Nw.use rfl (hN.2.1 0)) hce hcv hcl ?_
    refine lv_astore_n (lv' := _) hx hb d_la_contours_12 rfl hl (by decide) rfl (fun ls hl => ?_)
    refine lv_iconst (v := 1) hx hb d_la_contours_13 (by decide) ?_
    refine W.widen (k := 1) (n := 6 * 1) (Nat.le_of_ble_eq_true rfl) (Nat.le_of_ble_eq_true rfl) ?_
    exact W.iret (v := 1) hx hb hr (fun t ht hW => ⟨⟨1, (u.2, f), rfl, hp, by rw [ht]; exact hP2, va_K.moved hW.alike hK, hD2⟩, hS2.F ht⟩) hS2.2.2 d_la_contours_14
  · have hp := hpo _ _ hp
    obtain ⟨hP1, hK1, hD1⟩ := hB
    rw [ht] at hP1
    obtain ⟨hP2, hD2⟩ := lz_join hP hD hk1 hF hP1 hD1
    refine lv_i2l hx hb d_la_contours_7 rfl ?_
    refine va_last hx hb hK hP2 hD2 hS1 18 2 rfl rfl (i := 0) (show ¬ ((0 : Int32) < 0 ∨ 1 ≤ (0 : Int32).toNatClampNeg) by decide) d_la_contours_8 (fun H2 locs2 hP2 hD2 hS2 => ?_)
    have hP2 : va_P (dC, dI) zzCl (lz_w a o cI cZ cJ (u, vp_updL f 0 r.toInt64)) H2 := hP2
    have hD2 : va_D A (lz_w a o cI cZ cJ (u, vp_updL f 0 r.toInt64)) := hD2
    refine lv_goto (tgt := 15) hx hb d_la_contours_9 (by decide) ?_
    refine lv_iconst (v := 0) hx hb d_la_contours_15 (by decide) ?_
    refine W.widen (k := 1) (n := 6 * 1) (Nat.le_of_ble_eq_true rfl) (Nat.le_of_ble_eq_true rfl) ?_
    exact W.iret (v := 0) hx hb hr (fun t ht hW => ⟨⟨0, (u, vp_updL f 0 r.toInt64), rfl, hp, by rw [ht]; exact hP2, va_K.moved hW.alike hK, hD2⟩, hS2.F ht⟩) hS2.2.2 d_la_contours_16
abbrev rm_la_contour : Room := { frames := 8, cells := 2, slots := 12, locals := 166 }
set_option maxHeartbeats 4000000 in
set_option maxRecDepth 100000 in
theorem lz_contour (l : Launch) (hlt : l.stackTraces = false) (dC : Nat → ClassId) (dI : Nat → Nat → Nat) (a : Nat → Nat) (o : Nat) (cI cZ cJ : ClassId) (sz : Nat) (x1 : Int32) (x2 : Int32) (g : St) (f : Nat → Int64) (post : Int32 → St × (Nat → Int64) → Prop) (po : Int32 → St → Prop) (px : Nat → St → Prop) (h : wp_sc_contour x1 x2 g po px) (hpo : ∀ r g1, po r g1 → post 0 (g1, vp_updL f 0 r.toInt64)) (hpx : ∀ e9 g1, px e9 g1 → (e9 = 0 ∧ post 1 (g1, f)) ∨ (e9 = 2 ∧ post 2 (g1, f))) : Met l yy_la_contour ww_la_contour rm_la_contour (lz_Pre (dC, dI) a o cI cZ cJ [.ref (a 0), .int x1, .int x2, .ref o] (g, f) sz) (va_Qi post (lz_W (dC, dI) a o cI cZ cJ (va_A (lz_w a o cI cZ cJ (g, f)) sz)) (va_A (lz_w a o cI cZ cJ (g, f)) sz)) 2 (6 * 2) (va_A (lz_w a o cI cZ cJ (g, f)) sz) := by
  refine va_MetW (cc := cc_la_contour) (maxL := 5) (ret := some .int) (hh := hh_la_contour) (by decide) rfl ?_
  intro p e s m args below meth c s₁ B hml hv
  obtain ⟨hav, hsz, hP, hK, hD0, hN, hN3, hU⟩ := hv
  have hx := B.exec
  have hb := B.bytes
  have hr := B.returns
  have hts := atoms_spec (ws := ww_la_contour) B.pre
  have htab : c.exceptionTable.toList = tableOf hh_la_contour := vx_table (x := yy_la_contour) B (hts _ List.mem_cons_self)
  have hown : s.vm.findClass "SpotContoursLaw" = some m.cls := findClass_of_methodNamed B.named
  subst hsz
  have hD := hD0.self (sz := s.heap.size)
  generalize hAe : va_A (lz_w a o cI cZ cJ (g, f)) s.heap.size = A at hD hU ⊢
  have hA : ∀ q : Nat, s.heap.size ≤ q → A q := fun q h => by rw [← hAe]; exact Or.inr h
  have hS : va_S A s.heap s.heap [] := va_S.rf
  have he9 := lg_entry_eq m [.ref (a 0), .int x1, .int x2, .ref o] 5
  rw [← hav] at he9
  rw [he9]
  have hl := lv_entry [.ref (a 0), .int x1, .int x2, .ref o] (n := 5) (Nat.le_of_ble_eq_true rfl)
  generalize (lg_sl [.ref (a 0), .int x1, .int x2, .ref o] ++ List.replicate (5 - (lg_sl [.ref (a 0), .int x1, .int x2, .ref o]).length) Slot.unset).toArray = ls at hl ⊢
  have hl : lv_has ls 5 [(0, .ref (a 0)), (1, .int x1), (2, .int x2), (3, .ref o)] := hl
  have hK2 : va_K (dC, dI) zzCl [(cI, .int), (cZ, .boolean)] s := hK.sub [0, 1] rfl
  have hF := zz_free (w := wC a cI cZ) (lz_dl hD) hS hA
  refine lv_aload_n hx hb d_la_contour_0 rfl (lv_at hl 3 rfl) ?_
  refine lv_iconst (v := 0) hx hb d_la_contour_1 (by decide) ?_
  refine lv_aload_n hx hb d_la_contour_2 rfl (lv_at hl 0 rfl) ?_
  refine lv_iload_n hx hb d_la_contour_3 rfl (lv_at hl 1 rfl) ?_
  refine lv_iload_n hx hb d_la_contour_4 rfl (lv_at hl 2 rfl) ?_
  refine vx_calli (vx_runV (As := [.int x1, .int x2]) (rest := [.int 0, .ref o]) ⟨hx, hb, hml, hown, hts⟩ (mc_sc_contour l hlt dC dI a cI cZ _ x1 x2 g _ _ h) (zz_cwV 2 hts (zz_good wl_29) rfl rfl rfl wl_30 wl_31 wl_32 wl_4 (by decide +kernel) ⟨Nat.le_of_ble_eq_true rfl, Nat.le_of_ble_eq_true rfl⟩) ⟨zz_blindX, va_recv hK2 (lz_l hP) rfl (wC_0 a cI cZ g), zz_preX (lz_l hP) hK2 (lz_dl hD) hN hS hA hU⟩ rfl rfl hl.1 rfl (lv_room (Nat.le_of_ble_eq_true rfl)) d_la_contour_5 ⟨Nat.le_of_ble_eq_true rfl, Nat.le_of_ble_eq_true rfl⟩) hS (fun q _ h => hF q h) hF (fun q _ h => hF q h) (fun E ce q9 u t H1 locs1 ht hvm hp hB hz1 hk1 hS1 hce hcv hcl => ?_) (fun r u t H1 locs1 ht hvm hp hB hz1 hk1 hS1 => ?_)
  · obtain ⟨hE, hP1, hK1, hD1⟩ := hB
    rw [ht] at hP1
    obtain ⟨hP2, hD2⟩ := lz_join hP hD hk1 hF hP1 hD1
    have hP2 : va_P (dC, dI) zzCl (lz_w a o cI cZ cJ (u.2, f)) H1 := hP2
    have hD2 : va_D A (lz_w a o cI cZ cJ (u.2, f)) := hD2
    have hS2 := hS1
    have hp := hpx _ _ hp
    rcases hp with ⟨hk, hp⟩ | ⟨hk, hp⟩
    · rw [hk] at hE
      subst hE
      refine vx_catch (name := zz_xn 0) hown [] ⟨0, 10, 13, 13⟩ [⟨0, 10, 17, 21⟩] htab (fun z h => nomatch h) (by decide) (by decide) (hts _ (zz_in wl_5)) (va_Nw.use rfl (hN.2.1 0)) hce hcv hcl ?_
      refine lv_astore (lv' := _) hx hb d_la_contour_13 hl (by decide) rfl (fun ls hl => ?_)
      refine lv_iconst (v := 1) hx hb d_la_contour_15 (by decide) ?_
      refine W.widen (k := 2) (n := 6 * 2) (Nat.le_of_ble_eq_true rfl) (Nat.le_of_ble_eq_true rfl) ?_
      exact W.iret (v := 1) hx hb hr (fun t ht hW => ⟨⟨1, (u.2, f), rfl, hp, by rw [ht]; exact hP2, va_K.moved hW.alike hK, hD2⟩, hS2.F ht⟩) hS2.2.2 d_la_contour_16
    · rw [hk] at hE
      subst hE
      refine vx_catch (name := zz_xn 2) hown [⟨0, 10, 13, 13⟩] ⟨0, 10, 17, 21⟩ [] htab (fun z h => by cases List.mem_singleton.mp h; exact Or.inr ⟨by decide, zz_xn 0, (hts _ (zz_in wl_5)), hN3.2.2⟩) (by decide) (by decide) (hts _ (zz_in wl_11)) (va_Nw.use rfl (hN.2.1 2)) hce hcv hcl ?_
      refine lv_astore (lv' := _) hx hb d_la_contour_17 hl (by decide) rfl (fun ls hl => ?_)
      refine lv_iconst (v := 2) hx hb d_la_contour_19 (by decide) ?_
      refine W.widen (k := 2) (n := 6 * 2) (Nat.le_of_ble_eq_true rfl) (Nat.le_of_ble_eq_true rfl) ?_
      exact W.iret (v := 2) hx hb hr (fun t ht hW => ⟨⟨2, (u.2, f), rfl, hp, by rw [ht]; exact hP2, va_K.moved hW.alike hK, hD2⟩, hS2.F ht⟩) hS2.2.2 d_la_contour_20
  · have hp := hpo _ _ hp
    obtain ⟨hP1, hK1, hD1⟩ := hB
    rw [ht] at hP1
    obtain ⟨hP2, hD2⟩ := lz_join hP hD hk1 hF hP1 hD1
    refine lv_i2l hx hb d_la_contour_8 rfl ?_
    refine va_last hx hb hK hP2 hD2 hS1 18 2 rfl rfl (i := 0) (show ¬ ((0 : Int32) < 0 ∨ 1 ≤ (0 : Int32).toNatClampNeg) by decide) d_la_contour_9 (fun H2 locs2 hP2 hD2 hS2 => ?_)
    have hP2 : va_P (dC, dI) zzCl (lz_w a o cI cZ cJ (u, vp_updL f 0 r.toInt64)) H2 := hP2
    have hD2 : va_D A (lz_w a o cI cZ cJ (u, vp_updL f 0 r.toInt64)) := hD2
    refine lv_goto (tgt := 21) hx hb d_la_contour_10 (by decide) ?_
    refine lv_iconst (v := 0) hx hb d_la_contour_21 (by decide) ?_
    refine W.widen (k := 2) (n := 6 * 2) (Nat.le_of_ble_eq_true rfl) (Nat.le_of_ble_eq_true rfl) ?_
    exact W.iret (v := 0) hx hb hr (fun t ht hW => ⟨⟨0, (u, vp_updL f 0 r.toInt64), rfl, hp, by rw [ht]; exact hP2, va_K.moved hW.alike hK, hD2⟩, hS2.F ht⟩) hS2.2.2 d_la_contour_22
abbrev rm_la_crossing : Room := { frames := 8, cells := 2, slots := 12, locals := 169 }
set_option maxHeartbeats 4000000 in
set_option maxRecDepth 100000 in
theorem lz_crossing (l : Launch) (hlt : l.stackTraces = false) (dC : Nat → ClassId) (dI : Nat → Nat → Nat) (a : Nat → Nat) (o : Nat) (cI cZ cJ : ClassId) (sz : Nat) (x1 : Int32) (x2 : Int32) (x3 : Int32) (g : St) (f : Nat → Int64) (post : Int32 → St × (Nat → Int64) → Prop) (po : Int32 → St → Prop) (px : Nat → St → Prop) (h : wp_sc_crossing x1 x2 x3 g po px) (hpo : ∀ r g1, po r g1 → post 0 (g1, vp_updL f 0 r.toInt64)) (hpx : ∀ e9 g1, px e9 g1 → (e9 = 0 ∧ post 1 (g1, f)) ∨ (e9 = 2 ∧ post 2 (g1, f))) : Met l yy_la_crossing ww_la_crossing rm_la_crossing (lz_Pre (dC, dI) a o cI cZ cJ [.ref (a 0), .int x1, .int x2, .int x3, .ref o] (g, f) sz) (va_Qi post (lz_W (dC, dI) a o cI cZ cJ (va_A (lz_w a o cI cZ cJ (g, f)) sz)) (va_A (lz_w a o cI cZ cJ (g, f)) sz)) 2 (6 * 2) (va_A (lz_w a o cI cZ cJ (g, f)) sz) := by
  refine va_MetW (cc := cc_la_crossing) (maxL := 6) (ret := some .int) (hh := hh_la_crossing) (by decide) rfl ?_
  intro p e s m args below meth c s₁ B hml hv
  obtain ⟨hav, hsz, hP, hK, hD0, hN, hN3, hU⟩ := hv
  have hx := B.exec
  have hb := B.bytes
  have hr := B.returns
  have hts := atoms_spec (ws := ww_la_crossing) B.pre
  have htab : c.exceptionTable.toList = tableOf hh_la_crossing := vx_table (x := yy_la_crossing) B (hts _ List.mem_cons_self)
  have hown : s.vm.findClass "SpotContoursLaw" = some m.cls := findClass_of_methodNamed B.named
  subst hsz
  have hD := hD0.self (sz := s.heap.size)
  generalize hAe : va_A (lz_w a o cI cZ cJ (g, f)) s.heap.size = A at hD hU ⊢
  have hA : ∀ q : Nat, s.heap.size ≤ q → A q := fun q h => by rw [← hAe]; exact Or.inr h
  have hS : va_S A s.heap s.heap [] := va_S.rf
  have he9 := lg_entry_eq m [.ref (a 0), .int x1, .int x2, .int x3, .ref o] 6
  rw [← hav] at he9
  rw [he9]
  have hl := lv_entry [.ref (a 0), .int x1, .int x2, .int x3, .ref o] (n := 6) (Nat.le_of_ble_eq_true rfl)
  generalize (lg_sl [.ref (a 0), .int x1, .int x2, .int x3, .ref o] ++ List.replicate (6 - (lg_sl [.ref (a 0), .int x1, .int x2, .int x3, .ref o]).length) Slot.unset).toArray = ls at hl ⊢
  have hl : lv_has ls 6 [(0, .ref (a 0)), (1, .int x1), (2, .int x2), (3, .int x3), (4, .ref o)] := hl
  have hK2 : va_K (dC, dI) zzCl [(cI, .int), (cZ, .boolean)] s := hK.sub [0, 1] rfl
  have hF := zz_free (w := wC a cI cZ) (lz_dl hD) hS hA
  refine lv_aload hx hb d_la_crossing_0 (lv_at hl 4 rfl) ?_
  refine lv_iconst (v := 0) hx hb d_la_crossing_2 (by decide) ?_
  refine lv_aload_n hx hb d_la_crossing_3 rfl (lv_at hl 0 rfl) ?_
  refine lv_iload_n hx hb d_la_crossing_4 rfl (lv_at hl 1 rfl) ?_
  refine lv_iload_n hx hb d_la_crossing_5 rfl (lv_at hl 2 rfl) ?_
  refine lv_iload_n hx hb d_la_crossing_6 rfl (lv_at hl 3 rfl) ?_
  refine vx_calli (vx_runV (As := [.int x1, .int x2, .int x3]) (rest := [.int 0, .ref o]) ⟨hx, hb, hml, hown, hts⟩ (mc_sc_crossing l hlt dC dI a cI cZ _ x1 x2 x3 g _ _ h) (zz_cwV 3 hts (zz_good wl_33) rfl rfl rfl wl_34 wl_35 wl_36 wl_4 (by decide +kernel) ⟨Nat.le_of_ble_eq_true rfl, Nat.le_of_ble_eq_true rfl⟩) ⟨zz_blindX, va_recv hK2 (lz_l hP) rfl (wC_0 a cI cZ g), zz_preX (lz_l hP) hK2 (lz_dl hD) hN hS hA hU⟩ rfl rfl hl.1 rfl (lv_room (Nat.le_of_ble_eq_true rfl)) d_la_crossing_7 ⟨Nat.le_of_ble_eq_true rfl, Nat.le_of_ble_eq_true rfl⟩) hS (fun q _ h => hF q h) hF (fun q _ h => hF q h) (fun E ce q9 u t H1 locs1 ht hvm hp hB hz1 hk1 hS1 hce hcv hcl => ?_) (fun r u t H1 locs1 ht hvm hp hB hz1 hk1 hS1 => ?_)
  · obtain ⟨hE, hP1, hK1, hD1⟩ := hB
    rw [ht] at hP1
    obtain ⟨hP2, hD2⟩ := lz_join hP hD hk1 hF hP1 hD1
    have hP2 : va_P (dC, dI) zzCl (lz_w a o cI cZ cJ (u.2, f)) H1 := hP2
    have hD2 : va_D A (lz_w a o cI cZ cJ (u.2, f)) := hD2
    have hS2 := hS1
    have hp := hpx _ _ hp
    rcases hp with ⟨hk, hp⟩ | ⟨hk, hp⟩
    · rw [hk] at hE
      subst hE
      refine vx_catch (name := zz_xn 0) hown [] ⟨0, 12, 15, 13⟩ [⟨0, 12, 19, 21⟩] htab (fun z h => nomatch h) (by decide) (by decide) (hts _ (zz_in wl_5)) (va_Nw.use rfl (hN.2.1 0)) hce hcv hcl ?_
      refine lv_astore (lv' := _) hx hb d_la_crossing_15 hl (by decide) rfl (fun ls hl => ?_)
      refine lv_iconst (v := 1) hx hb d_la_crossing_17 (by decide) ?_
      refine W.widen (k := 2) (n := 6 * 2) (Nat.le_of_ble_eq_true rfl) (Nat.le_of_ble_eq_true rfl) ?_
      exact W.iret (v := 1) hx hb hr (fun t ht hW => ⟨⟨1, (u.2, f), rfl, hp, by rw [ht]; exact hP2, va_K.moved hW.alike hK, hD2⟩, hS2.F ht⟩) hS2.2.2 d_la_crossing_18
    · rw [hk] at hE
      subst hE
      refine vx_catch (name := zz_xn 2) hown [⟨0, 12, 15, 13⟩] ⟨0, 12, 19, 21⟩ [] htab (fun z h => by cases List.mem_singleton.mp h; exact Or.inr ⟨by decide, zz_xn 0, (hts _ (zz_in wl_5)), hN3.2.2⟩) (by decide) (by decide) (hts _ (zz_in wl_11)) (va_Nw.use rfl (hN.2.1 2)) hce hcv hcl ?_
      refine lv_astore (lv' := _) hx hb d_la_crossing_19 hl (by decide) rfl (fun ls hl => ?_)
      refine lv_iconst (v := 2) hx hb d_la_crossing_21 (by decide) ?_
      refine W.widen (k := 2) (n := 6 * 2) (Nat.le_of_ble_eq_true rfl) (Nat.le_of_ble_eq_true rfl) ?_
      exact W.iret (v := 2) hx hb hr (fun t ht hW => ⟨⟨2, (u.2, f), rfl, hp, by rw [ht]; exact hP2, va_K.moved hW.alike hK, hD2⟩, hS2.F ht⟩) hS2.2.2 d_la_crossing_22
  · have hp := hpo _ _ hp
    obtain ⟨hP1, hK1, hD1⟩ := hB
    rw [ht] at hP1
    obtain ⟨hP2, hD2⟩ := lz_join hP hD hk1 hF hP1 hD1
    refine lv_i2l hx hb d_la_crossing_10 rfl ?_
    refine va_last hx hb hK hP2 hD2 hS1 18 2 rfl rfl (i := 0) (show ¬ ((0 : Int32) < 0 ∨ 1 ≤ (0 : Int32).toNatClampNeg) by decide) d_la_crossing_11 (fun H2 locs2 hP2 hD2 hS2 => ?_)
    have hP2 : va_P (dC, dI) zzCl (lz_w a o cI cZ cJ (u, vp_updL f 0 r.toInt64)) H2 := hP2
    have hD2 : va_D A (lz_w a o cI cZ cJ (u, vp_updL f 0 r.toInt64)) := hD2
    refine lv_goto (tgt := 23) hx hb d_la_crossing_12 (by decide) ?_
    refine lv_iconst (v := 0) hx hb d_la_crossing_23 (by decide) ?_
    refine W.widen (k := 2) (n := 6 * 2) (Nat.le_of_ble_eq_true rfl) (Nat.le_of_ble_eq_true rfl) ?_
    exact W.iret (v := 0) hx hb hr (fun t ht hW => ⟨⟨0, (u, vp_updL f 0 r.toInt64), rfl, hp, by rw [ht]; exact hP2, va_K.moved hW.alike hK, hD2⟩, hS2.F ht⟩) hS2.2.2 d_la_crossing_24
abbrev rm_la_place : Room := { frames := 8, cells := 2, slots := 12, locals := 167 }
set_option maxHeartbeats 4000000 in
set_option maxRecDepth 100000 in
theorem lz_place (l : Launch) (hlt : l.stackTraces = false) (dC : Nat → ClassId) (dI : Nat → Nat → Nat) (a : Nat → Nat) (o : Nat) (cI cZ cJ : ClassId) (sz : Nat) (x1 : Int32) (x2 : Int32) (x3 : Int32) (g : St) (f : Nat → Int64) (post : Int32 → St × (Nat → Int64) → Prop) (po : Int32 → St → Prop) (px : Nat → St → Prop) (h : wp_sc_place x1 x2 x3 g po px) (hpo : ∀ r g1, po r g1 → post 0 (g1, vp_updL f 0 r.toInt64)) (hpx : ∀ e9 g1, px e9 g1 → (e9 = 0 ∧ post 1 (g1, f)) ∨ (e9 = 2 ∧ post 2 (g1, f))) : Met l yy_la_place ww_la_place rm_la_place (lz_Pre (dC, dI) a o cI cZ cJ [.ref (a 0), .int x1, .int x2, .int x3, .ref o] (g, f) sz) (va_Qi post (lz_W (dC, dI) a o cI cZ cJ (va_A (lz_w a o cI cZ cJ (g, f)) sz)) (va_A (lz_w a o cI cZ cJ (g, f)) sz)) 2 (6 * 2) (va_A (lz_w a o cI cZ cJ (g, f)) sz) := by
  refine va_MetW (cc := cc_la_place) (maxL := 6) (ret := some .int) (hh := hh_la_place) (by decide) rfl ?_
  intro p e s m args below meth c s₁ B hml hv
  obtain ⟨hav, hsz, hP, hK, hD0, hN, hN3, hU⟩ := hv
  have hx := B.exec
  have hb := B.bytes
  have hr := B.returns
  have hts := atoms_spec (ws := ww_la_place) B.pre
  have htab : c.exceptionTable.toList = tableOf hh_la_place := vx_table (x := yy_la_place) B (hts _ List.mem_cons_self)
  have hown : s.vm.findClass "SpotContoursLaw" = some m.cls := findClass_of_methodNamed B.named
  subst hsz
  have hD := hD0.self (sz := s.heap.size)
  generalize hAe : va_A (lz_w a o cI cZ cJ (g, f)) s.heap.size = A at hD hU ⊢
  have hA : ∀ q : Nat, s.heap.size ≤ q → A q := fun q h => by rw [← hAe]; exact Or.inr h
  have hS : va_S A s.heap s.heap [] := va_S.rf
  have he9 := lg_entry_eq m [.ref (a 0), .int x1, .int x2, .int x3, .ref o] 6
  rw [← hav] at he9
  rw [he9]
  have hl := lv_entry [.ref (a 0), .int x1, .int x2, .int x3, .ref o] (n := 6) (Nat.le_of_ble_eq_true rfl)
  generalize (lg_sl [.ref (a 0), .int x1, .int x2, .int x3, .ref o] ++ List.replicate (6 - (lg_sl [.ref (a 0), .int x1, .int x2, .int x3, .ref o]).length) Slot.unset).toArray = ls at hl ⊢
  have hl : lv_has ls 6 [(0, .ref (a 0)), (1, .int x1), (2, .int x2), (3, .int x3), (4, .ref o)] := hl
  have hK2 : va_K (dC, dI) zzCl [(cI, .int), (cZ, .boolean)] s := hK.sub [0, 1] rfl
  have hF := zz_free (w := wC a cI cZ) (lz_dl hD) hS hA
  refine lv_aload hx hb d_la_place_0 (lv_at hl 4 rfl) ?_
  refine lv_iconst (v := 0) hx hb d_la_place_2 (by decide) ?_
  refine lv_aload_n hx hb d_la_place_3 rfl (lv_at hl 0 rfl) ?_
  refine lv_iload_n hx hb d_la_place_4 rfl (lv_at hl 1 rfl) ?_
  refine lv_iload_n hx hb d_la_place_5 rfl (lv_at hl 2 rfl) ?_
  refine lv_iload_n hx hb d_la_place_6 rfl (lv_at hl 3 rfl) ?_
  refine vx_calli (vx_runV (As := [.int x1, .int x2, .int x3]) (rest := [.int 0, .ref o]) ⟨hx, hb, hml, hown, hts⟩ (mc_sc_place l hlt dC dI a cI cZ _ x1 x2 x3 g _ _ h) (zz_cwV 3 hts (zz_good wl_37) rfl rfl rfl wl_38 wl_39 wl_40 wl_4 (by decide +kernel) ⟨Nat.le_of_ble_eq_true rfl, Nat.le_of_ble_eq_true rfl⟩) ⟨zz_blindX, va_recv hK2 (lz_l hP) rfl (wC_0 a cI cZ g), zz_preX (lz_l hP) hK2 (lz_dl hD) hN hS hA hU⟩ rfl rfl hl.1 rfl (lv_room (Nat.le_of_ble_eq_true rfl)) d_la_place_7 ⟨Nat.le_of_ble_eq_true rfl, Nat.le_of_ble_eq_true rfl⟩) hS (fun q _ h => hF q h) hF (fun q _ h => hF q h) (fun E ce q9 u t H1 locs1 ht hvm hp hB hz1 hk1 hS1 hce hcv hcl => ?_) (fun r u t H1 locs1 ht hvm hp hB hz1 hk1 hS1 => ?_)
  · obtain ⟨hE, hP1, hK1, hD1⟩ := hB
    rw [ht] at hP1
    obtain ⟨hP2, hD2⟩ := lz_join hP hD hk1 hF hP1 hD1
    have hP2 : va_P (dC, dI) zzCl (lz_w a o cI cZ cJ (u.2, f)) H1 := hP2
    have hD2 : va_D A (lz_w a o cI cZ cJ (u.2, f)) := hD2
    have hS2 := hS1
    have hp := hpx _ _ hp
    rcases hp with ⟨hk, hp⟩ | ⟨hk, hp⟩
    · rw [hk] at hE
      subst hE
      refine vx_catch (name := zz_xn 0) hown [] ⟨0, 12, 15, 13⟩ [⟨0, 12, 19, 21⟩] htab (fun z h => nomatch h) (by decide) (by decide) (hts _ (zz_in wl_5)) (va_Nw.use rfl (hN.2.1 0)) hce hcv hcl ?_
      refine lv_astore (lv' := _) hx hb d_la_place_15 hl (by decide) rfl (fun ls hl => ?_)
      refine lv_iconst (v := 1) hx hb d_la_place_17 (by decide) ?_
      refine W.widen (k := 2) (n := 6 * 2) (Nat.le_of_ble_eq_true rfl) (Nat.le_of_ble_eq_true rfl) ?_
      exact W.iret (v := 1) hx hb hr (fun t ht hW => ⟨⟨1, (u.2, f), rfl, hp, by rw [ht]; exact hP2, va_K.moved hW.alike hK, hD2⟩, hS2.F ht⟩) hS2.2.2 d_la_place_18
    · rw [hk] at hE
      subst hE
      refine vx_catch (name := zz_xn 2) hown [⟨0, 12, 15, 13⟩] ⟨0, 12, 19, 21⟩ [] htab (fun z h => by cases List.mem_singleton.mp h; exact Or.inr ⟨by decide, zz_xn 0, (hts _ (zz_in wl_5)), hN3.2.2⟩) (by decide) (by decide) (hts _ (zz_in wl_11)) (va_Nw.use rfl (hN.2.1 2)) hce hcv hcl ?_
      refine lv_astore (lv' := _) hx hb d_la_place_19 hl (by decide) rfl (fun ls hl => ?_)
      refine lv_iconst (v := 2) hx hb d_la_place_21 (by decide) ?_
      refine W.widen (k := 2) (n := 6 * 2) (Nat.le_of_ble_eq_true rfl) (Nat.le_of_ble_eq_true rfl) ?_
      exact W.iret (v := 2) hx hb hr (fun t ht hW => ⟨⟨2, (u.2, f), rfl, hp, by rw [ht]; exact hP2, va_K.moved hW.alike hK, hD2⟩, hS2.F ht⟩) hS2.2.2 d_la_place_22
  · have hp := hpo _ _ hp
    obtain ⟨hP1, hK1, hD1⟩ := hB
    rw [ht] at hP1
    obtain ⟨hP2, hD2⟩ := lz_join hP hD hk1 hF hP1 hD1
    refine lv_i2l hx hb d_la_place_10 rfl ?_
    refine va_last hx hb hK hP2 hD2 hS1 18 2 rfl rfl (i := 0) (show ¬ ((0 : Int32) < 0 ∨ 1 ≤ (0 : Int32).toNatClampNeg) by decide) d_la_place_11 (fun H2 locs2 hP2 hD2 hS2 => ?_)
    have hP2 : va_P (dC, dI) zzCl (lz_w a o cI cZ cJ (u, vp_updL f 0 r.toInt64)) H2 := hP2
    have hD2 : va_D A (lz_w a o cI cZ cJ (u, vp_updL f 0 r.toInt64)) := hD2
    refine lv_goto (tgt := 23) hx hb d_la_place_12 (by decide) ?_
    refine lv_iconst (v := 0) hx hb d_la_place_23 (by decide) ?_
    refine W.widen (k := 2) (n := 6 * 2) (Nat.le_of_ble_eq_true rfl) (Nat.le_of_ble_eq_true rfl) ?_
    exact W.iret (v := 0) hx hb hr (fun t ht hW => ⟨⟨0, (u, vp_updL f 0 r.toInt64), rfl, hp, by rw [ht]; exact hP2, va_K.moved hW.alike hK, hD2⟩, hS2.F ht⟩) hS2.2.2 d_la_place_24
abbrev rm_la_label : Room := { frames := 8, cells := 2, slots := 12, locals := 167 }
set_option maxHeartbeats 4000000 in
set_option maxRecDepth 100000 in
theorem lz_label (l : Launch) (hlt : l.stackTraces = false) (dC : Nat → ClassId) (dI : Nat → Nat → Nat) (a : Nat → Nat) (o : Nat) (cI cZ cJ : ClassId) (sz : Nat) (x1 : Int32) (g : St) (f : Nat → Int64) (post : Int32 → St × (Nat → Int64) → Prop) (po : Int32 → St → Prop) (px : Nat → St → Prop) (h : wp_sc_label x1 g po px) (hpo : ∀ r g1, po r g1 → post 0 (g1, vp_updL f 0 r.toInt64)) (hpx : ∀ e9 g1, px e9 g1 → (e9 = 0 ∧ post 1 (g1, f)) ∨ (e9 = 1 ∧ post 2 (g1, f))) : Met l yy_la_label ww_la_label rm_la_label (lz_Pre (dC, dI) a o cI cZ cJ [.ref (a 0), .int x1, .ref o] (g, f) sz) (va_Qi post (lz_W (dC, dI) a o cI cZ cJ (va_A (lz_w a o cI cZ cJ (g, f)) sz)) (va_A (lz_w a o cI cZ cJ (g, f)) sz)) 2 (6 * 2) (va_A (lz_w a o cI cZ cJ (g, f)) sz) := by
  refine va_MetW (cc := cc_la_label) (maxL := 4) (ret := some .int) (hh := hh_la_label) (by decide) rfl ?_
  intro p e s m args below meth c s₁ B hml hv
  obtain ⟨hav, hsz, hP, hK, hD0, hN, hN3, hU⟩ := hv
  have hx := B.exec
  have hb := B.bytes
  have hr := B.returns
  have hts := atoms_spec (ws := ww_la_label) B.pre
  have htab : c.exceptionTable.toList = tableOf hh_la_label := vx_table (x := yy_la_label) B (hts _ List.mem_cons_self)
  have hown : s.vm.findClass "SpotContoursLaw" = some m.cls := findClass_of_methodNamed B.named
  subst hsz
  have hD := hD0.self (sz := s.heap.size)
  generalize hAe : va_A (lz_w a o cI cZ cJ (g, f)) s.heap.size = A at hD hU ⊢
  have hA : ∀ q : Nat, s.heap.size ≤ q → A q := fun q h => by rw [← hAe]; exact Or.inr h
  have hS : va_S A s.heap s.heap [] := va_S.rf
  have he9 := lg_entry_eq m [.ref (a 0), .int x1, .ref o] 4
  rw [← hav] at he9
  rw [he9]
  have hl := lv_entry [.ref (a 0), .int x1, .ref o] (n := 4) (Nat.le_of_ble_eq_true rfl)
  generalize (lg_sl [.ref (a 0), .int x1, .ref o] ++ List.replicate (4 - (lg_sl [.ref (a 0), .int x1, .ref o]).length) Slot.unset).toArray = ls at hl ⊢
  have hl : lv_has ls 4 [(0, .ref (a 0)), (1, .int x1), (2, .ref o)] := hl
  have hK2 : va_K (dC, dI) zzCl [(cI, .int), (cZ, .boolean)] s := hK.sub [0, 1] rfl
  have hF := zz_free (w := wC a cI cZ) (lz_dl hD) hS hA
  refine lv_aload_n hx hb d_la_label_0 rfl (lv_at hl 2 rfl) ?_
  refine lv_iconst (v := 0) hx hb d_la_label_1 (by decide) ?_
  refine lv_aload_n hx hb d_la_label_2 rfl (lv_at hl 0 rfl) ?_
  refine lv_iload_n hx hb d_la_label_3 rfl (lv_at hl 1 rfl) ?_
  refine vx_calli (vx_runV (As := [.int x1]) (rest := [.int 0, .ref o]) ⟨hx, hb, hml, hown, hts⟩ (mc_sc_label l hlt dC dI a cI cZ _ x1 g _ _ h) (zz_cwV 1 hts (zz_good wl_41) rfl rfl rfl wl_42 wl_43 wl_44 wl_4 (by decide +kernel) ⟨Nat.le_of_ble_eq_true rfl, Nat.le_of_ble_eq_true rfl⟩) ⟨zz_blindX, va_recv hK2 (lz_l hP) rfl (wC_0 a cI cZ g), zz_preX (lz_l hP) hK2 (lz_dl hD) hN hS hA hU⟩ rfl rfl hl.1 rfl (lv_room (Nat.le_of_ble_eq_true rfl)) d_la_label_4 ⟨Nat.le_of_ble_eq_true rfl, Nat.le_of_ble_eq_true rfl⟩) hS (fun q _ h => hF q h) hF (fun q _ h => hF q h) (fun E ce q9 u t H1 locs1 ht hvm hp hB hz1 hk1 hS1 hce hcv hcl => ?_) (fun r u t H1 locs1 ht hvm hp hB hz1 hk1 hS1 => ?_)
  · obtain ⟨hE, hP1, hK1, hD1⟩ := hB
    rw [ht] at hP1
    obtain ⟨hP2, hD2⟩ := lz_join hP hD hk1 hF hP1 hD1
    have hP2 : va_P (dC, dI) zzCl (lz_w a o cI cZ cJ (u.2, f)) H1 := hP2
    have hD2 : va_D A (lz_w a o cI cZ cJ (u.2, f)) := hD2
    have hS2 := hS1
    have hp := hpx _ _ hp
    rcases hp with ⟨hk, hp⟩ | ⟨hk, hp⟩
    · rw [hk] at hE
      subst hE
      refine vx_catch (name := zz_xn 0) hown [] ⟨0, 9, 12, 13⟩ [⟨0, 9, 15, 15⟩] htab (fun z h => nomatch h) (by decide) (by decide) (hts _ (zz_in wl_5)) (va_Nw.use rfl (hN.2.1 0)) hce hcv hcl ?_
      refine lv_astore_n (lv' := _) hx hb d_la_label_12 rfl hl (by decide) rfl (fun ls hl => ?_)
      refine lv_iconst (v := 1) hx hb d_la_label_13 (by decide) ?_
      refine W.widen (k := 2) (n := 6 * 2) (Nat.le_of_ble_eq_true rfl) (Nat.le_of_ble_eq_true rfl) ?_
      exact W.iret (v := 1) hx hb hr (fun t ht hW => ⟨⟨1, (u.2, f), rfl, hp, by rw [ht]; exact hP2, va_K.moved hW.alike hK, hD2⟩, hS2.F ht⟩) hS2.2.2 d_la_label_14
    · rw [hk] at hE
      subst hE
      refine vx_catch (name := zz_xn 1) hown [⟨0, 9, 12, 13⟩] ⟨0, 9, 15, 15⟩ [] htab (fun z h => by cases List.mem_singleton.mp h; exact Or.inr ⟨by decide, zz_xn 0, (hts _ (zz_in wl_5)), hN3.1⟩) (by decide) (by decide) (hts _ (zz_in wl_6)) (va_Nw.use rfl (hN.2.1 1)) hce hcv hcl ?_
      refine lv_astore_n (lv' := _) hx hb d_la_label_15 rfl hl (by decide) rfl (fun ls hl => ?_)
      refine lv_iconst (v := 2) hx hb d_la_label_16 (by decide) ?_
      refine W.widen (k := 2) (n := 6 * 2) (Nat.le_of_ble_eq_true rfl) (Nat.le_of_ble_eq_true rfl) ?_
      exact W.iret (v := 2) hx hb hr (fun t ht hW => ⟨⟨2, (u.2, f), rfl, hp, by rw [ht]; exact hP2, va_K.moved hW.alike hK, hD2⟩, hS2.F ht⟩) hS2.2.2 d_la_label_17
  · have hp := hpo _ _ hp
    obtain ⟨hP1, hK1, hD1⟩ := hB
    rw [ht] at hP1
    obtain ⟨hP2, hD2⟩ := lz_join hP hD hk1 hF hP1 hD1
    refine lv_i2l hx hb d_la_label_7 rfl ?_
    refine va_last hx hb hK hP2 hD2 hS1 18 2 rfl rfl (i := 0) (show ¬ ((0 : Int32) < 0 ∨ 1 ≤ (0 : Int32).toNatClampNeg) by decide) d_la_label_8 (fun H2 locs2 hP2 hD2 hS2 => ?_)
    have hP2 : va_P (dC, dI) zzCl (lz_w a o cI cZ cJ (u, vp_updL f 0 r.toInt64)) H2 := hP2
    have hD2 : va_D A (lz_w a o cI cZ cJ (u, vp_updL f 0 r.toInt64)) := hD2
    refine lv_goto (tgt := 18) hx hb d_la_label_9 (by decide) ?_
    refine lv_iconst (v := 0) hx hb d_la_label_18 (by decide) ?_
    refine W.widen (k := 2) (n := 6 * 2) (Nat.le_of_ble_eq_true rfl) (Nat.le_of_ble_eq_true rfl) ?_
    exact W.iret (v := 0) hx hb hr (fun t ht hW => ⟨⟨0, (u, vp_updL f 0 r.toInt64), rfl, hp, by rw [ht]; exact hP2, va_K.moved hW.alike hK, hD2⟩, hS2.F ht⟩) hS2.2.2 d_la_label_19
abbrev rm_la_labelOf : Room := { frames := 7, cells := 1, slots := 6, locals := 103 }
set_option maxHeartbeats 4000000 in
set_option maxRecDepth 100000 in
theorem lz_labelOf (l : Launch) (hlt : l.stackTraces = false) (dC : Nat → ClassId) (dI : Nat → Nat → Nat) (a : Nat → Nat) (o : Nat) (cI cZ cJ : ClassId) (sz : Nat) (x1 : Int32) (x2 : Int32) (g : St) (f : Nat → Int64) (post : Int32 → St × (Nat → Int64) → Prop) (po : Int32 → St → Prop) (px : Nat → St → Prop) (h : wp_sc_labelOf x1 x2 g po px) (hpo : ∀ r g1, po r g1 → post 0 (g1, vp_updL f 0 r.toInt64)) (hpx : ∀ e9 g1, px e9 g1 → (e9 = 2 ∧ post 1 (g1, f)) ∨ (e9 = 0 ∧ post 2 (g1, f))) : Met l yy_la_labelOf ww_la_labelOf rm_la_labelOf (lz_Pre (dC, dI) a o cI cZ cJ [.ref (a 0), .int x1, .int x2, .ref o] (g, f) sz) (va_Qi post (lz_W (dC, dI) a o cI cZ cJ (va_A (lz_w a o cI cZ cJ (g, f)) sz)) (va_A (lz_w a o cI cZ cJ (g, f)) sz)) 1 (6 * 1) (va_A (lz_w a o cI cZ cJ (g, f)) sz) := by
  refine va_MetW (cc := cc_la_labelOf) (maxL := 5) (ret := some .int) (hh := hh_la_labelOf) (by decide) rfl ?_
  intro p e s m args below meth c s₁ B hml hv
  obtain ⟨hav, hsz, hP, hK, hD0, hN, hN3, hU⟩ := hv
  have hx := B.exec
  have hb := B.bytes
  have hr := B.returns
  have hts := atoms_spec (ws := ww_la_labelOf) B.pre
  have htab : c.exceptionTable.toList = tableOf hh_la_labelOf := vx_table (x := yy_la_labelOf) B (hts _ List.mem_cons_self)
  have hown : s.vm.findClass "SpotContoursLaw" = some m.cls := findClass_of_methodNamed B.named
  subst hsz
  have hD := hD0.self (sz := s.heap.size)
  generalize hAe : va_A (lz_w a o cI cZ cJ (g, f)) s.heap.size = A at hD hU ⊢
  have hA : ∀ q : Nat, s.heap.size ≤ q → A q := fun q h => by rw [← hAe]; exact Or.inr h
  have hS : va_S A s.heap s.heap [] := va_S.rf
  have he9 := lg_entry_eq m [.ref (a 0), .int x1, .int x2, .ref o] 5
  rw [← hav] at he9
  rw [he9]
  have hl := lv_entry [.ref (a 0), .int x1, .int x2, .ref o] (n := 5) (Nat.le_of_ble_eq_true rfl)
  generalize (lg_sl [.ref (a 0), .int x1, .int x2, .ref o] ++ List.replicate (5 - (lg_sl [.ref (a 0), .int x1, .int x2, .ref o]).length) Slot.unset).toArray = ls at hl ⊢
  have hl : lv_has ls 5 [(0, .ref (a 0)), (1, .int x1), (2, .int x2), (3, .ref o)] := hl
  have hK2 : va_K (dC, dI) zzCl [(cI, .int), (cZ, .boolean)] s := hK.sub [0, 1] rfl
  have hF := zz_free (w := wC a cI cZ) (lz_dl hD) hS hA
  refine lv_aload_n hx hb d_la_labelOf_0 rfl (lv_at hl 3 rfl) ?_
  refine lv_iconst (v := 0) hx hb d_la_labelOf_1 (by decide) ?_
  refine lv_aload_n hx hb d_la_labelOf_2 rfl (lv_at hl 0 rfl) ?_
  refine lv_iload_n hx hb d_la_labelOf_3 rfl (lv_at hl 1 rfl) ?_
  refine lv_iload_n hx hb d_la_labelOf_4 rfl (lv_at hl 2 rfl) ?_
  refine vx_calli (vx_runV (As := [.int x1, .int x2]) (rest := [.int 0, .ref o]) ⟨hx, hb, hml, hown, hts⟩ (mc_sc_labelOf l hlt dC dI a cI cZ _ x1 x2 g _ _ h) (zz_cwV 2 hts (zz_good wl_45) rfl rfl rfl wl_46 wl_47 wl_48 wl_4 (by decide +kernel) ⟨Nat.le_of_ble_eq_true rfl, Nat.le_of_ble_eq_true rfl⟩) ⟨zz_blindX, va_recv hK2 (lz_l hP) rfl (wC_0 a cI cZ g), zz_preX (lz_l hP) hK2 (lz_dl hD) hN hS hA hU⟩ rfl rfl hl.1 rfl (lv_room (Nat.le_of_ble_eq_true rfl)) d_la_labelOf_5 ⟨Nat.le_of_ble_eq_true rfl, Nat.le_of_ble_eq_true rfl⟩) hS (fun q _ h => hF q h) hF (fun q _ h => hF q h) (fun E ce q9 u t H1 locs1 ht hvm hp hB hz1 hk1 hS1 hce hcv hcl => ?_) (fun r u t H1 locs1 ht hvm hp hB hz1 hk1 hS1 => ?_)
  · obtain ⟨hE, hP1, hK1, hD1⟩ := hB
    rw [ht] at hP1
    obtain ⟨hP2, hD2⟩ := lz_join hP hD hk1 hF hP1 hD1
    have hP2 : va_P (dC, dI) zzCl (lz_w a o cI cZ cJ (u.2, f)) H1 := hP2
    have hD2 : va_D A (lz_w a o cI cZ cJ (u.2, f)) := hD2
    have hS2 := hS1
    have hp := hpx _ _ hp
    rcases hp with ⟨hk, hp⟩ | ⟨hk, hp⟩
    · rw [hk] at hE
      subst hE
      refine vx_catch (name := zz_xn 2) hown [] ⟨0, 10, 13, 21⟩ [⟨0, 10, 17, 13⟩] htab (fun z h => nomatch h) (by decide) (by decide) (hts _ (zz_in wl_11)) (va_Nw.use rfl (hN.2.1 2)) hce hcv hcl ?_
      refine lv_astore (lv' := _) hx hb d_la_labelOf_13 hl (by decide) rfl (fun ls hl => ?_)
      refine lv_iconst (v := 1) hx hb d_la_labelOf_15 (by decide) ?_
      refine W.widen (k := 1) (n := 6 * 1) (Nat.le_of_ble_eq_true rfl) (Nat.le_of_ble_eq_true rfl) ?_
      exact W.iret (v := 1) hx hb hr (fun t ht hW => ⟨⟨1, (u.2, f), rfl, hp, by rw [ht]; exact hP2, va_K.moved hW.alike hK, hD2⟩, hS2.F ht⟩) hS2.2.2 d_la_labelOf_16
    · rw [hk] at hE
      subst hE
      refine vx_catch (name := zz_xn 0) hown [⟨0, 10, 13, 21⟩] ⟨0, 10, 17, 13⟩ [] htab (fun z h => by cases List.mem_singleton.mp h; exact Or.inr ⟨by decide, zz_xn 2, (hts _ (zz_in wl_11)), hN3.2.1⟩) (by decide) (by decide) (hts _ (zz_in wl_5)) (va_Nw.use rfl (hN.2.1 0)) hce hcv hcl ?_
      refine lv_astore (lv' := _) hx hb d_la_labelOf_17 hl (by decide) rfl (fun ls hl => ?_)
      refine lv_iconst (v := 2) hx hb d_la_labelOf_19 (by decide) ?_
      refine W.widen (k := 1) (n := 6 * 1) (Nat.le_of_ble_eq_true rfl) (Nat.le_of_ble_eq_true rfl) ?_
      exact W.iret (v := 2) hx hb hr (fun t ht hW => ⟨⟨2, (u.2, f), rfl, hp, by rw [ht]; exact hP2, va_K.moved hW.alike hK, hD2⟩, hS2.F ht⟩) hS2.2.2 d_la_labelOf_20
  · have hp := hpo _ _ hp
    obtain ⟨hP1, hK1, hD1⟩ := hB
    rw [ht] at hP1
    obtain ⟨hP2, hD2⟩ := lz_join hP hD hk1 hF hP1 hD1
    refine lv_i2l hx hb d_la_labelOf_8 rfl ?_
    refine va_last hx hb hK hP2 hD2 hS1 18 2 rfl rfl (i := 0) (show ¬ ((0 : Int32) < 0 ∨ 1 ≤ (0 : Int32).toNatClampNeg) by decide) d_la_labelOf_9 (fun H2 locs2 hP2 hD2 hS2 => ?_)
    have hP2 : va_P (dC, dI) zzCl (lz_w a o cI cZ cJ (u, vp_updL f 0 r.toInt64)) H2 := hP2
    have hD2 : va_D A (lz_w a o cI cZ cJ (u, vp_updL f 0 r.toInt64)) := hD2
    refine lv_goto (tgt := 21) hx hb d_la_labelOf_10 (by decide) ?_
    refine lv_iconst (v := 0) hx hb d_la_labelOf_21 (by decide) ?_
    refine W.widen (k := 1) (n := 6 * 1) (Nat.le_of_ble_eq_true rfl) (Nat.le_of_ble_eq_true rfl) ?_
    exact W.iret (v := 0) hx hb hr (fun t ht hW => ⟨⟨0, (u, vp_updL f 0 r.toInt64), rfl, hp, by rw [ht]; exact hP2, va_K.moved hW.alike hK, hD2⟩, hS2.F ht⟩) hS2.2.2 d_la_labelOf_22
