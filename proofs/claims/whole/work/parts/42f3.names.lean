/-! Names and decode rows, printed. -/
abbrev cc_mo_labelContour : ByteArray := prog_7_method_37_code
def yy_mo_labelContour : MethodName := ⟨"SpotContoursModel", "labelContour", "(II)V"⟩
def ww_mo_labelContour : List Cond := .code yy_mo_labelContour cc_mo_labelContour 6 none :: zz_B
theorem d_mo_labelContour_0 : decode cc_mo_labelContour 0 = .ok (.iconst 0, 1) := by decide +kernel
theorem d_mo_labelContour_1 : decode cc_mo_labelContour 1 = .ok (.istore_n 3, 1) := by decide +kernel
theorem d_mo_labelContour_2 : decode cc_mo_labelContour 2 = .ok (.iconst 0, 1) := by decide +kernel
theorem d_mo_labelContour_3 : decode cc_mo_labelContour 3 = .ok (.istore 4, 2) := by decide +kernel
theorem d_mo_labelContour_5 : decode cc_mo_labelContour 5 = .ok (.iload 4, 2) := by decide +kernel
theorem d_mo_labelContour_7 : decode cc_mo_labelContour 7 = .ok (.aload_n 0, 1) := by decide +kernel
theorem d_mo_labelContour_8 : decode cc_mo_labelContour 8 = .ok (.getfield 38, 3) := by decide +kernel
theorem d_mo_labelContour_11 : decode cc_mo_labelContour 11 = .ok (.iload_n 2, 1) := by decide +kernel
theorem d_mo_labelContour_12 : decode cc_mo_labelContour 12 = .ok (.iaload, 1) := by decide +kernel
theorem d_mo_labelContour_13 : decode cc_mo_labelContour 13 = .ok (.if_icmp .ge 101, 3) := by decide +kernel
theorem d_mo_labelContour_16 : decode cc_mo_labelContour 16 = .ok (.iload_n 3, 1) := by decide +kernel
theorem d_mo_labelContour_17 : decode cc_mo_labelContour 17 = .ok (.ifCond .ne 97, 3) := by decide +kernel
theorem d_mo_labelContour_20 : decode cc_mo_labelContour 20 = .ok (.aload_n 0, 1) := by decide +kernel
theorem d_mo_labelContour_21 : decode cc_mo_labelContour 21 = .ok (.iload_n 1, 1) := by decide +kernel
theorem d_mo_labelContour_22 : decode cc_mo_labelContour 22 = .ok (.aload_n 0, 1) := by decide +kernel
theorem d_mo_labelContour_23 : decode cc_mo_labelContour 23 = .ok (.getfield 44, 3) := by decide +kernel
theorem d_mo_labelContour_26 : decode cc_mo_labelContour 26 = .ok (.aload_n 0, 1) := by decide +kernel
theorem d_mo_labelContour_27 : decode cc_mo_labelContour 27 = .ok (.getfield 35, 3) := by decide +kernel
theorem d_mo_labelContour_30 : decode cc_mo_labelContour 30 = .ok (.iload_n 2, 1) := by decide +kernel
theorem d_mo_labelContour_31 : decode cc_mo_labelContour 31 = .ok (.iaload, 1) := by decide +kernel
theorem d_mo_labelContour_32 : decode cc_mo_labelContour 32 = .ok (.iload 4, 2) := by decide +kernel
theorem d_mo_labelContour_34 : decode cc_mo_labelContour 34 = .ok (.iadd, 1) := by decide +kernel
theorem d_mo_labelContour_35 : decode cc_mo_labelContour 35 = .ok (.iaload, 1) := by decide +kernel
theorem d_mo_labelContour_36 : decode cc_mo_labelContour 36 = .ok (.invokevirtual 151, 3) := by decide +kernel
theorem d_mo_labelContour_39 : decode cc_mo_labelContour 39 = .ok (.istore 5, 2) := by decide +kernel
theorem d_mo_labelContour_41 : decode cc_mo_labelContour 41 = .ok (.aload_n 0, 1) := by decide +kernel
theorem d_mo_labelContour_42 : decode cc_mo_labelContour 42 = .ok (.iload 5, 2) := by decide +kernel
theorem d_mo_labelContour_44 : decode cc_mo_labelContour 44 = .ok (.bipush 64, 2) := by decide +kernel
theorem d_mo_labelContour_46 : decode cc_mo_labelContour 46 = .ok (.idiv, 1) := by decide +kernel
theorem d_mo_labelContour_47 : decode cc_mo_labelContour 47 = .ok (.iload 5, 2) := by decide +kernel
theorem d_mo_labelContour_49 : decode cc_mo_labelContour 49 = .ok (.bipush 64, 2) := by decide +kernel
theorem d_mo_labelContour_51 : decode cc_mo_labelContour 51 = .ok (.irem, 1) := by decide +kernel
theorem d_mo_labelContour_52 : decode cc_mo_labelContour 52 = .ok (.invokevirtual 157, 3) := by decide +kernel
theorem d_mo_labelContour_55 : decode cc_mo_labelContour 55 = .ok (.ifCond .ne 53, 3) := by decide +kernel
theorem d_mo_labelContour_58 : decode cc_mo_labelContour 58 = .ok (.aload_n 0, 1) := by decide +kernel
theorem d_mo_labelContour_59 : decode cc_mo_labelContour 59 = .ok (.getfield 47, 3) := by decide +kernel
theorem d_mo_labelContour_62 : decode cc_mo_labelContour 62 = .ok (.aload_n 0, 1) := by decide +kernel
theorem d_mo_labelContour_63 : decode cc_mo_labelContour 63 = .ok (.getfield 63, 3) := by decide +kernel
theorem d_mo_labelContour_66 : decode cc_mo_labelContour 66 = .ok (.iload_n 1, 1) := by decide +kernel
theorem d_mo_labelContour_67 : decode cc_mo_labelContour 67 = .ok (.iastore, 1) := by decide +kernel
theorem d_mo_labelContour_68 : decode cc_mo_labelContour 68 = .ok (.aload_n 0, 1) := by decide +kernel
theorem d_mo_labelContour_69 : decode cc_mo_labelContour 69 = .ok (.getfield 50, 3) := by decide +kernel
theorem d_mo_labelContour_72 : decode cc_mo_labelContour 72 = .ok (.aload_n 0, 1) := by decide +kernel
theorem d_mo_labelContour_73 : decode cc_mo_labelContour 73 = .ok (.getfield 63, 3) := by decide +kernel
theorem d_mo_labelContour_76 : decode cc_mo_labelContour 76 = .ok (.iload 5, 2) := by decide +kernel
theorem d_mo_labelContour_78 : decode cc_mo_labelContour 78 = .ok (.bipush 64, 2) := by decide +kernel
theorem d_mo_labelContour_80 : decode cc_mo_labelContour 80 = .ok (.idiv, 1) := by decide +kernel
theorem d_mo_labelContour_81 : decode cc_mo_labelContour 81 = .ok (.iastore, 1) := by decide +kernel
theorem d_mo_labelContour_82 : decode cc_mo_labelContour 82 = .ok (.aload_n 0, 1) := by decide +kernel
theorem d_mo_labelContour_83 : decode cc_mo_labelContour 83 = .ok (.getfield 53, 3) := by decide +kernel
theorem d_mo_labelContour_86 : decode cc_mo_labelContour 86 = .ok (.aload_n 0, 1) := by decide +kernel
theorem d_mo_labelContour_87 : decode cc_mo_labelContour 87 = .ok (.getfield 63, 3) := by decide +kernel
theorem d_mo_labelContour_90 : decode cc_mo_labelContour 90 = .ok (.iload 5, 2) := by decide +kernel
theorem d_mo_labelContour_92 : decode cc_mo_labelContour 92 = .ok (.bipush 64, 2) := by decide +kernel
theorem d_mo_labelContour_94 : decode cc_mo_labelContour 94 = .ok (.irem, 1) := by decide +kernel
theorem d_mo_labelContour_95 : decode cc_mo_labelContour 95 = .ok (.iastore, 1) := by decide +kernel
theorem d_mo_labelContour_96 : decode cc_mo_labelContour 96 = .ok (.aload_n 0, 1) := by decide +kernel
theorem d_mo_labelContour_97 : decode cc_mo_labelContour 97 = .ok (.dup, 1) := by decide +kernel
theorem d_mo_labelContour_98 : decode cc_mo_labelContour 98 = .ok (.getfield 63, 3) := by decide +kernel
theorem d_mo_labelContour_101 : decode cc_mo_labelContour 101 = .ok (.iconst 1, 1) := by decide +kernel
theorem d_mo_labelContour_102 : decode cc_mo_labelContour 102 = .ok (.iadd, 1) := by decide +kernel
theorem d_mo_labelContour_103 : decode cc_mo_labelContour 103 = .ok (.putfield 63, 3) := by decide +kernel
theorem d_mo_labelContour_106 : decode cc_mo_labelContour 106 = .ok (.iconst 1, 1) := by decide +kernel
theorem d_mo_labelContour_107 : decode cc_mo_labelContour 107 = .ok (.istore_n 3, 1) := by decide +kernel
theorem d_mo_labelContour_108 : decode cc_mo_labelContour 108 = .ok (.iinc 4 1, 3) := by decide +kernel
theorem d_mo_labelContour_111 : decode cc_mo_labelContour 111 = .ok (.goto (-106), 3) := by decide +kernel
theorem d_mo_labelContour_114 : decode cc_mo_labelContour 114 = .ok (.return_, 1) := by decide +kernel
abbrev cc_mo_label : ByteArray := prog_7_method_38_code
def yy_mo_label : MethodName := ⟨"SpotContoursModel", "label", "(I)I"⟩
def ww_mo_label : List Cond := .code yy_mo_label cc_mo_label 4 (some .int) :: zz_B
theorem d_mo_label_0 : decode cc_mo_label 0 = .ok (.aload_n 0, 1) := by decide +kernel
theorem d_mo_label_1 : decode cc_mo_label 1 = .ok (.iload_n 1, 1) := by decide +kernel
theorem d_mo_label_2 : decode cc_mo_label 2 = .ok (.invokestatic 134, 3) := by decide +kernel
theorem d_mo_label_5 : decode cc_mo_label 5 = .ok (.ifCond .eq 7, 3) := by decide +kernel
theorem d_mo_label_8 : decode cc_mo_label 8 = .ok (.iconst 0, 1) := by decide +kernel
theorem d_mo_label_9 : decode cc_mo_label 9 = .ok (.goto 4, 3) := by decide +kernel
theorem d_mo_label_12 : decode cc_mo_label 12 = .ok (.iconst 1, 1) := by decide +kernel
theorem d_mo_label_13 : decode cc_mo_label 13 = .ok (.putfield 56, 3) := by decide +kernel
theorem d_mo_label_16 : decode cc_mo_label 16 = .ok (.aload_n 0, 1) := by decide +kernel
theorem d_mo_label_17 : decode cc_mo_label 17 = .ok (.getfield 56, 3) := by decide +kernel
theorem d_mo_label_20 : decode cc_mo_label 20 = .ok (.ifCond .eq 5, 3) := by decide +kernel
theorem d_mo_label_23 : decode cc_mo_label 23 = .ok (.iconst 0, 1) := by decide +kernel
theorem d_mo_label_24 : decode cc_mo_label 24 = .ok (.ireturn, 1) := by decide +kernel
theorem d_mo_label_25 : decode cc_mo_label 25 = .ok (.aload_n 0, 1) := by decide +kernel
theorem d_mo_label_26 : decode cc_mo_label 26 = .ok (.iload_n 1, 1) := by decide +kernel
theorem d_mo_label_27 : decode cc_mo_label 27 = .ok (.invokevirtual 137, 3) := by decide +kernel
theorem d_mo_label_30 : decode cc_mo_label 30 = .ok (.aload_n 0, 1) := by decide +kernel
theorem d_mo_label_31 : decode cc_mo_label 31 = .ok (.getfield 63, 3) := by decide +kernel
theorem d_mo_label_34 : decode cc_mo_label 34 = .ok (.istore_n 2, 1) := by decide +kernel
theorem d_mo_label_35 : decode cc_mo_label 35 = .ok (.iconst 0, 1) := by decide +kernel
theorem d_mo_label_36 : decode cc_mo_label 36 = .ok (.istore_n 3, 1) := by decide +kernel
theorem d_mo_label_37 : decode cc_mo_label 37 = .ok (.iload_n 3, 1) := by decide +kernel
theorem d_mo_label_38 : decode cc_mo_label 38 = .ok (.aload_n 0, 1) := by decide +kernel
theorem d_mo_label_39 : decode cc_mo_label 39 = .ok (.getfield 121, 3) := by decide +kernel
theorem d_mo_label_42 : decode cc_mo_label 42 = .ok (.if_icmp .ge 15, 3) := by decide +kernel
theorem d_mo_label_45 : decode cc_mo_label 45 = .ok (.aload_n 0, 1) := by decide +kernel
theorem d_mo_label_46 : decode cc_mo_label 46 = .ok (.iload_n 1, 1) := by decide +kernel
theorem d_mo_label_47 : decode cc_mo_label 47 = .ok (.iload_n 3, 1) := by decide +kernel
theorem d_mo_label_48 : decode cc_mo_label 48 = .ok (.invokevirtual 160, 3) := by decide +kernel
theorem d_mo_label_51 : decode cc_mo_label 51 = .ok (.iinc 3 1, 3) := by decide +kernel
theorem d_mo_label_54 : decode cc_mo_label 54 = .ok (.goto (-17), 3) := by decide +kernel
theorem d_mo_label_57 : decode cc_mo_label 57 = .ok (.aload_n 0, 1) := by decide +kernel
theorem d_mo_label_58 : decode cc_mo_label 58 = .ok (.getfield 63, 3) := by decide +kernel
theorem d_mo_label_61 : decode cc_mo_label 61 = .ok (.iload_n 2, 1) := by decide +kernel
theorem d_mo_label_62 : decode cc_mo_label 62 = .ok (.isub, 1) := by decide +kernel
theorem d_mo_label_63 : decode cc_mo_label 63 = .ok (.istore_n 3, 1) := by decide +kernel
theorem d_mo_label_64 : decode cc_mo_label 64 = .ok (.aload_n 0, 1) := by decide +kernel
theorem d_mo_label_65 : decode cc_mo_label 65 = .ok (.aload_n 0, 1) := by decide +kernel
theorem d_mo_label_66 : decode cc_mo_label 66 = .ok (.getfield 63, 3) := by decide +kernel
theorem d_mo_label_69 : decode cc_mo_label 69 = .ok (.bipush 20, 2) := by decide +kernel
theorem d_mo_label_71 : decode cc_mo_label 71 = .ok (.if_icmp .le 7, 3) := by decide +kernel
theorem d_mo_label_74 : decode cc_mo_label 74 = .ok (.iconst 2, 1) := by decide +kernel
theorem d_mo_label_75 : decode cc_mo_label 75 = .ok (.goto 4, 3) := by decide +kernel
theorem d_mo_label_78 : decode cc_mo_label 78 = .ok (.iconst 0, 1) := by decide +kernel
theorem d_mo_label_79 : decode cc_mo_label 79 = .ok (.putfield 56, 3) := by decide +kernel
theorem d_mo_label_82 : decode cc_mo_label 82 = .ok (.aload_n 0, 1) := by decide +kernel
theorem d_mo_label_83 : decode cc_mo_label 83 = .ok (.aload_n 0, 1) := by decide +kernel
theorem d_mo_label_84 : decode cc_mo_label 84 = .ok (.getfield 56, 3) := by decide +kernel
theorem d_mo_label_87 : decode cc_mo_label 87 = .ok (.ifCond .ne 10, 3) := by decide +kernel
theorem d_mo_label_90 : decode cc_mo_label 90 = .ok (.aload_n 0, 1) := by decide +kernel
theorem d_mo_label_91 : decode cc_mo_label 91 = .ok (.getfield 63, 3) := by decide +kernel
theorem d_mo_label_94 : decode cc_mo_label 94 = .ok (.goto 4, 3) := by decide +kernel
theorem d_mo_label_97 : decode cc_mo_label 97 = .ok (.iload_n 2, 1) := by decide +kernel
theorem d_mo_label_98 : decode cc_mo_label 98 = .ok (.putfield 63, 3) := by decide +kernel
theorem d_mo_label_101 : decode cc_mo_label 101 = .ok (.aload_n 0, 1) := by decide +kernel
theorem d_mo_label_102 : decode cc_mo_label 102 = .ok (.getfield 56, 3) := by decide +kernel
theorem d_mo_label_105 : decode cc_mo_label 105 = .ok (.ifCond .ne 7, 3) := by decide +kernel
theorem d_mo_label_108 : decode cc_mo_label 108 = .ok (.iload_n 3, 1) := by decide +kernel
theorem d_mo_label_109 : decode cc_mo_label 109 = .ok (.goto 4, 3) := by decide +kernel
theorem d_mo_label_112 : decode cc_mo_label 112 = .ok (.iconst 0, 1) := by decide +kernel
theorem d_mo_label_113 : decode cc_mo_label 113 = .ok (.ireturn, 1) := by decide +kernel
abbrev cc_mo_labels : ByteArray := prog_7_method_39_code
def yy_mo_labels : MethodName := ⟨"SpotContoursModel", "labels", "()I"⟩
def ww_mo_labels : List Cond := .code yy_mo_labels cc_mo_labels 1 (some .int) :: zz_B
theorem d_mo_labels_0 : decode cc_mo_labels 0 = .ok (.aload_n 0, 1) := by decide +kernel
theorem d_mo_labels_1 : decode cc_mo_labels 1 = .ok (.iconst 0, 1) := by decide +kernel
theorem d_mo_labels_2 : decode cc_mo_labels 2 = .ok (.putfield 56, 3) := by decide +kernel
theorem d_mo_labels_5 : decode cc_mo_labels 5 = .ok (.aload_n 0, 1) := by decide +kernel
theorem d_mo_labels_6 : decode cc_mo_labels 6 = .ok (.getfield 63, 3) := by decide +kernel
theorem d_mo_labels_9 : decode cc_mo_labels 9 = .ok (.ireturn, 1) := by decide +kernel
abbrev cc_mo_labelOf : ByteArray := prog_7_method_40_code
def yy_mo_labelOf : MethodName := ⟨"SpotContoursModel", "labelOf", "(II)I"⟩
def ww_mo_labelOf : List Cond := .code yy_mo_labelOf cc_mo_labelOf 3 (some .int) :: zz_B
theorem d_mo_labelOf_0 : decode cc_mo_labelOf 0 = .ok (.aload_n 0, 1) := by decide +kernel
theorem d_mo_labelOf_1 : decode cc_mo_labelOf 1 = .ok (.iload_n 1, 1) := by decide +kernel
theorem d_mo_labelOf_2 : decode cc_mo_labelOf 2 = .ok (.ifCond .lt 11, 3) := by decide +kernel
theorem d_mo_labelOf_5 : decode cc_mo_labelOf 5 = .ok (.iload_n 1, 1) := by decide +kernel
theorem d_mo_labelOf_6 : decode cc_mo_labelOf 6 = .ok (.aload_n 0, 1) := by decide +kernel
theorem d_mo_labelOf_7 : decode cc_mo_labelOf 7 = .ok (.getfield 63, 3) := by decide +kernel
theorem d_mo_labelOf_10 : decode cc_mo_labelOf 10 = .ok (.if_icmp .lt 7, 3) := by decide +kernel
theorem d_mo_labelOf_13 : decode cc_mo_labelOf 13 = .ok (.iconst 1, 1) := by decide +kernel
theorem d_mo_labelOf_14 : decode cc_mo_labelOf 14 = .ok (.goto 17, 3) := by decide +kernel
theorem d_mo_labelOf_17 : decode cc_mo_labelOf 17 = .ok (.iload_n 2, 1) := by decide +kernel
theorem d_mo_labelOf_18 : decode cc_mo_labelOf 18 = .ok (.ifCond .lt 8, 3) := by decide +kernel
theorem d_mo_labelOf_21 : decode cc_mo_labelOf 21 = .ok (.iload_n 2, 1) := by decide +kernel
theorem d_mo_labelOf_22 : decode cc_mo_labelOf 22 = .ok (.iconst 2, 1) := by decide +kernel
theorem d_mo_labelOf_23 : decode cc_mo_labelOf 23 = .ok (.if_icmp .le 7, 3) := by decide +kernel
theorem d_mo_labelOf_26 : decode cc_mo_labelOf 26 = .ok (.iconst 2, 1) := by decide +kernel
theorem d_mo_labelOf_27 : decode cc_mo_labelOf 27 = .ok (.goto 4, 3) := by decide +kernel
theorem d_mo_labelOf_30 : decode cc_mo_labelOf 30 = .ok (.iconst 0, 1) := by decide +kernel
theorem d_mo_labelOf_31 : decode cc_mo_labelOf 31 = .ok (.putfield 56, 3) := by decide +kernel
theorem d_mo_labelOf_34 : decode cc_mo_labelOf 34 = .ok (.aload_n 0, 1) := by decide +kernel
theorem d_mo_labelOf_35 : decode cc_mo_labelOf 35 = .ok (.getfield 56, 3) := by decide +kernel
theorem d_mo_labelOf_38 : decode cc_mo_labelOf 38 = .ok (.ifCond .eq 7, 3) := by decide +kernel
theorem d_mo_labelOf_41 : decode cc_mo_labelOf 41 = .ok (.iconst 0, 1) := by decide +kernel
theorem d_mo_labelOf_42 : decode cc_mo_labelOf 42 = .ok (.goto 36, 3) := by decide +kernel
theorem d_mo_labelOf_45 : decode cc_mo_labelOf 45 = .ok (.iload_n 2, 1) := by decide +kernel
theorem d_mo_labelOf_46 : decode cc_mo_labelOf 46 = .ok (.ifCond .ne 12, 3) := by decide +kernel
theorem d_mo_labelOf_49 : decode cc_mo_labelOf 49 = .ok (.aload_n 0, 1) := by decide +kernel
theorem d_mo_labelOf_50 : decode cc_mo_labelOf 50 = .ok (.getfield 47, 3) := by decide +kernel
theorem d_mo_labelOf_53 : decode cc_mo_labelOf 53 = .ok (.iload_n 1, 1) := by decide +kernel
theorem d_mo_labelOf_54 : decode cc_mo_labelOf 54 = .ok (.iaload, 1) := by decide +kernel
theorem d_mo_labelOf_55 : decode cc_mo_labelOf 55 = .ok (.goto 23, 3) := by decide +kernel
theorem d_mo_labelOf_58 : decode cc_mo_labelOf 58 = .ok (.iload_n 2, 1) := by decide +kernel
theorem d_mo_labelOf_59 : decode cc_mo_labelOf 59 = .ok (.iconst 1, 1) := by decide +kernel
theorem d_mo_labelOf_60 : decode cc_mo_labelOf 60 = .ok (.if_icmp .ne 12, 3) := by decide +kernel
theorem d_mo_labelOf_63 : decode cc_mo_labelOf 63 = .ok (.aload_n 0, 1) := by decide +kernel
theorem d_mo_labelOf_64 : decode cc_mo_labelOf 64 = .ok (.getfield 50, 3) := by decide +kernel
theorem d_mo_labelOf_67 : decode cc_mo_labelOf 67 = .ok (.iload_n 1, 1) := by decide +kernel
theorem d_mo_labelOf_68 : decode cc_mo_labelOf 68 = .ok (.iaload, 1) := by decide +kernel
theorem d_mo_labelOf_69 : decode cc_mo_labelOf 69 = .ok (.goto 9, 3) := by decide +kernel
theorem d_mo_labelOf_72 : decode cc_mo_labelOf 72 = .ok (.aload_n 0, 1) := by decide +kernel
theorem d_mo_labelOf_73 : decode cc_mo_labelOf 73 = .ok (.getfield 53, 3) := by decide +kernel
theorem d_mo_labelOf_76 : decode cc_mo_labelOf 76 = .ok (.iload_n 1, 1) := by decide +kernel
theorem d_mo_labelOf_77 : decode cc_mo_labelOf 77 = .ok (.iaload, 1) := by decide +kernel
theorem d_mo_labelOf_78 : decode cc_mo_labelOf 78 = .ok (.ireturn, 1) := by decide +kernel
abbrev cc_mo_wipe : ByteArray := prog_7_method_41_code
def yy_mo_wipe : MethodName := ⟨"SpotContoursModel", "wipe", "()I"⟩
def ww_mo_wipe : List Cond := .code yy_mo_wipe cc_mo_wipe 2 (some .int) :: zz_B
theorem d_mo_wipe_0 : decode cc_mo_wipe 0 = .ok (.aload_n 0, 1) := by decide +kernel
theorem d_mo_wipe_1 : decode cc_mo_wipe 1 = .ok (.iconst 0, 1) := by decide +kernel
theorem d_mo_wipe_2 : decode cc_mo_wipe 2 = .ok (.putfield 56, 3) := by decide +kernel
theorem d_mo_wipe_5 : decode cc_mo_wipe 5 = .ok (.aload_n 0, 1) := by decide +kernel
theorem d_mo_wipe_6 : decode cc_mo_wipe 6 = .ok (.getfield 63, 3) := by decide +kernel
theorem d_mo_wipe_9 : decode cc_mo_wipe 9 = .ok (.istore_n 1, 1) := by decide +kernel
theorem d_mo_wipe_10 : decode cc_mo_wipe 10 = .ok (.aload_n 0, 1) := by decide +kernel
theorem d_mo_wipe_11 : decode cc_mo_wipe 11 = .ok (.iconst 0, 1) := by decide +kernel
theorem d_mo_wipe_12 : decode cc_mo_wipe 12 = .ok (.putfield 63, 3) := by decide +kernel
theorem d_mo_wipe_15 : decode cc_mo_wipe 15 = .ok (.iload_n 1, 1) := by decide +kernel
theorem d_mo_wipe_16 : decode cc_mo_wipe 16 = .ok (.ireturn, 1) := by decide +kernel
