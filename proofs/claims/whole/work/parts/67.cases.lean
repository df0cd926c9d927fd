/-! The law's cases, printed. -/
abbrev lz_c : Cond := .initialized "SpotContoursLaw"
def lz_A (s : State) : Nat → Prop := fun q => s.heap.size ≤ q
section
variable {R : Room} {s : State} {args : Array Value} {own C : String} {index maxL mc ms : Nat} {y : MethodName} {bytes : ByteArray} {ret : Option FieldType} {ws ws' : List Cond} {rm : Room} {c : Cond} {hh : List (Nat × Nat × Nat × Nat)}
theorem lz_cwSW (n : Nat) (ht : ∀ w ∈ c :: zz_B, w.before args s = true) (hG : GoodIn (c :: zz_B) ws) (hw : ws = Cond.codeWith y bytes maxL ret hh :: ws') (hrc : rm.cells = mc) (hrs : rm.slots = ms)
    (hl : Cond.methodLink own index y ∈ zz_B) (hs : Cond.static y ∈ zz_B) (hini : Cond.initialized y.cls ∈ zz_B)
    (hd : y.cls ≠ "java/lang/invoke/MethodHandle" ∧ y.cls ≠ "java/lang/invoke/VarHandle" ∧ (parseMethodDescriptor y.desc).map (fun d => d.parameters.length) = some n) (hR : rm.frames + 1 ≤ R.frames ∧ 8 + (maxL + 11) + rm.locals ≤ R.locals) :
    vx_CSW R s args own index y bytes maxL ret hh ws rm mc ms n := by
  have hc : Cond.codeWith y bytes maxL ret hh ∈ ws := by rw [hw]; exact List.mem_cons_self
  refine ⟨⟨hrc, hrs, hR.1, hR.2, pay_in ht hG, hc⟩, ht _ (hG _ hc).1, ht _ (zz_in hini), ⟨hd.1, hd.2.1⟩, fun sig h => ?_, ht _ (zz_in hl), ht _ (zz_in hs)⟩
  have h2 := hd.2.2
  rw [h] at h2
  exact (Option.some.inj h2).symm
end
theorem lz_in {i L j : Nat} (hi : i + 4 ≤ L) (hL : L ≤ 2048) (hj : j < 4) : vp_in (nI i + nI j) L := by
  rw [nI_add]; exact vp_in_nI (by omega) (by omega)
theorem lz_cmp (x : Int64) : lg_cmp x x = 0 := by unfold lg_cmp; simp
theorem lz_upd (f : Nat → Int64) (v : Int64) : vp_updL f 0 v 0 = v := by simp [vp_updL]
theorem lz_nI0 {k : Nat} (h2 : k ≤ 2) (h : nI k = 0) : k = 0 := by
  rcases (show k = 0 ∨ k = 1 ∨ k = 2 by omega) with rfl | rfl | rfl
  · rfl
  · exact absurd h (by decide)
  · exact absurd h (by decide)
/-- what stays through the law -/
def lz_X (p : Program) (l : Launch) (s : State) (m : MethodId) (c : Code) (b0 L : Nat) (xs : Nat → Int32) (dC : Nat → ClassId) (dI : Nat → Nat → Nat) (cI cZ cJ : ClassId) : Prop :=
  p.tables.exec = Jvm.exec ∧ c.code = code ∧ c.maxLocals = 7 ∧ s.vm.findClass "SpotContoursLaw" = some m.cls ∧ (∀ w ∈ lz_c :: zz_B, w.before #[Value.ref b0] s = true) ∧ va_X b0 L xs s s.heap ∧ b0 < s.heap.size ∧ va_K (dC, dI) zzCl (lz_ty cI cZ cJ) s ∧ zz_N s ∧ zz_N3 s ∧ zz_U (lz_A s) s s.heap ∧ l.stackTraces = false
/-- what holds between two calls -/
def lz_Y (s : State) (dC : Nat → ClassId) (dI : Nat → Nat → Nat) (a b : Nat → Nat) (o : Nat) (cI cZ cJ : ClassId) (b0 i : Nat) (g h : St) (f : Nat → Int64) (H : Heap) (locs : List Loc) (ls : Array Slot) : Prop :=
  (∃ (n : Nat) (X Y Z : Nat → Int) (t : Lt), iC g n X Y Z t ∧ iM h n X Y Z t) ∧ va_P (dC, dI) zzCl (lz_w a o cI cZ cJ (g, f) ++ wM b cI cZ h) H ∧ va_D (lz_A s) (lz_w a o cI cZ cJ (g, f) ++ wM b cI cZ h) ∧ va_S (lz_A s) s.heap H locs ∧ lv_has ls 7 [(0, .ref b0), (1, .ref (a 0)), (2, .ref (b 0)), (3, .ref o), (4, .int (nI i))]
theorem wq_0 : Cond.codeWith ⟨"SpotContoursLaw", "spot", "(LSpotContours;III[J)I"⟩ method_3_code 6 (some .int) [(0, 12, 15, 13), (0, 12, 19, 15)] ∈ zz_B := zz_mem (List.mem_append_right _ (List.mem_of_getElem? (i := 147) (by decide +kernel))) (by decide +kernel)
theorem wq_1 : Cond.methodLink "SpotContoursLaw" 57 ⟨"SpotContoursLaw", "spot", "(LSpotContours;III[J)I"⟩ ∈ zz_B := zz_mem (List.mem_append_right _ (List.mem_of_getElem? (i := 145) (by decide +kernel))) (by decide +kernel)
theorem wq_2 : Cond.static ⟨"SpotContoursLaw", "spot", "(LSpotContours;III[J)I"⟩ ∈ zz_B := zz_mem (List.mem_append_right _ (List.mem_of_getElem? (i := 146) (by decide +kernel))) (by decide +kernel)
theorem wq_3 : Cond.initialized "SpotContoursLaw" ∈ zz_B := zz_mem (List.mem_append_right _ (List.mem_of_getElem? (i := 0) (by decide +kernel))) (by decide +kernel)
theorem wq_4 : Cond.code ⟨"SpotContoursModel", "spot", "(III)I"⟩ prog_7_method_4_code 6 (some .int) ∈ zz_B := zz_mem (List.mem_append_right _ (List.mem_of_getElem? (i := 651) (by decide +kernel))) (by decide +kernel)
theorem wq_5 : Cond.methodLink "SpotContoursLaw" 62 ⟨"SpotContoursModel", "spot", "(III)I"⟩ ∈ zz_B := zz_mem (List.mem_append_right _ (List.mem_of_getElem? (i := 648) (by decide +kernel))) (by decide +kernel)
theorem wq_6 : Cond.instanceMethod ⟨"SpotContoursModel", "spot", "(III)I"⟩ ∈ zz_B := zz_mem (List.mem_append_right _ (List.mem_of_getElem? (i := 649) (by decide +kernel))) (by decide +kernel)
theorem wq_7 : Cond.selects "SpotContoursModel" ⟨"SpotContoursModel", "spot", "(III)I"⟩ ⟨"SpotContoursModel", "spot", "(III)I"⟩ ∈ zz_B := zz_mem (List.mem_append_right _ (List.mem_of_getElem? (i := 650) (by decide +kernel))) (by decide +kernel)
theorem wq_8 : Cond.initialized "SpotContoursModel" ∈ zz_B := zz_mem (List.mem_append_right _ (List.mem_of_getElem? (i := 6) (by decide +kernel))) (by decide +kernel)
theorem wq_9 : Cond.code ⟨"SpotContoursModel", "thrown", "()I"⟩ prog_7_method_2_code 1 (some .int) ∈ zz_B := zz_mem (List.mem_append_right _ (List.mem_of_getElem? (i := 647) (by decide +kernel))) (by decide +kernel)
theorem wq_10 : Cond.methodLink "SpotContoursLaw" 63 ⟨"SpotContoursModel", "thrown", "()I"⟩ ∈ zz_B := zz_mem (List.mem_append_right _ (List.mem_of_getElem? (i := 644) (by decide +kernel))) (by decide +kernel)
theorem wq_11 : Cond.instanceMethod ⟨"SpotContoursModel", "thrown", "()I"⟩ ∈ zz_B := zz_mem (List.mem_append_right _ (List.mem_of_getElem? (i := 645) (by decide +kernel))) (by decide +kernel)
theorem wq_12 : Cond.selects "SpotContoursModel" ⟨"SpotContoursModel", "thrown", "()I"⟩ ⟨"SpotContoursModel", "thrown", "()I"⟩ ∈ zz_B := zz_mem (List.mem_append_right _ (List.mem_of_getElem? (i := 646) (by decide +kernel))) (by decide +kernel)
theorem wq_13 : Cond.codeWith ⟨"SpotContoursLaw", "raise", "(LSpotContours;II[J)I"⟩ method_4_code 5 (some .int) [(0, 10, 13, 21), (0, 10, 17, 13)] ∈ zz_B := zz_mem (List.mem_append_right _ (List.mem_of_getElem? (i := 294) (by decide +kernel))) (by decide +kernel)
theorem wq_14 : Cond.methodLink "SpotContoursLaw" 67 ⟨"SpotContoursLaw", "raise", "(LSpotContours;II[J)I"⟩ ∈ zz_B := zz_mem (List.mem_append_right _ (List.mem_of_getElem? (i := 292) (by decide +kernel))) (by decide +kernel)
theorem wq_15 : Cond.static ⟨"SpotContoursLaw", "raise", "(LSpotContours;II[J)I"⟩ ∈ zz_B := zz_mem (List.mem_append_right _ (List.mem_of_getElem? (i := 293) (by decide +kernel))) (by decide +kernel)
theorem wq_16 : Cond.code ⟨"SpotContoursModel", "raise", "(II)I"⟩ prog_7_method_5_code 4 (some .int) ∈ zz_B := zz_mem (List.mem_append_right _ (List.mem_of_getElem? (i := 683) (by decide +kernel))) (by decide +kernel)
theorem wq_17 : Cond.methodLink "SpotContoursLaw" 70 ⟨"SpotContoursModel", "raise", "(II)I"⟩ ∈ zz_B := zz_mem (List.mem_append_right _ (List.mem_of_getElem? (i := 680) (by decide +kernel))) (by decide +kernel)
theorem wq_18 : Cond.instanceMethod ⟨"SpotContoursModel", "raise", "(II)I"⟩ ∈ zz_B := zz_mem (List.mem_append_right _ (List.mem_of_getElem? (i := 681) (by decide +kernel))) (by decide +kernel)
theorem wq_19 : Cond.selects "SpotContoursModel" ⟨"SpotContoursModel", "raise", "(II)I"⟩ ⟨"SpotContoursModel", "raise", "(II)I"⟩ ∈ zz_B := zz_mem (List.mem_append_right _ (List.mem_of_getElem? (i := 682) (by decide +kernel))) (by decide +kernel)
theorem wq_20 : Cond.code ⟨"SpotContours", "triangles", "()I"⟩ prog_1_method_4_code 1 (some .int) ∈ zz_B := zz_mem (List.mem_append_right _ (List.mem_of_getElem? (i := 124) (by decide +kernel))) (by decide +kernel)
theorem wq_21 : Cond.methodLink "SpotContoursLaw" 71 ⟨"SpotContours", "triangles", "()I"⟩ ∈ zz_B := zz_mem (List.mem_append_right _ (List.mem_of_getElem? (i := 121) (by decide +kernel))) (by decide +kernel)
theorem wq_22 : Cond.instanceMethod ⟨"SpotContours", "triangles", "()I"⟩ ∈ zz_B := zz_mem (List.mem_append_right _ (List.mem_of_getElem? (i := 122) (by decide +kernel))) (by decide +kernel)
theorem wq_23 : Cond.selects "SpotContours" ⟨"SpotContours", "triangles", "()I"⟩ ⟨"SpotContours", "triangles", "()I"⟩ ∈ zz_B := zz_mem (List.mem_append_right _ (List.mem_of_getElem? (i := 123) (by decide +kernel))) (by decide +kernel)
theorem wq_24 : Cond.initialized "SpotContours" ∈ zz_B := zz_mem (List.mem_append_right _ (List.mem_of_getElem? (i := 1) (by decide +kernel))) (by decide +kernel)
theorem wq_25 : Cond.code ⟨"SpotContoursModel", "triangles", "()I"⟩ prog_7_method_13_code 1 (some .int) ∈ zz_B := zz_mem (List.mem_append_right _ (List.mem_of_getElem? (i := 691) (by decide +kernel))) (by decide +kernel)
theorem wq_26 : Cond.methodLink "SpotContoursLaw" 74 ⟨"SpotContoursModel", "triangles", "()I"⟩ ∈ zz_B := zz_mem (List.mem_append_right _ (List.mem_of_getElem? (i := 688) (by decide +kernel))) (by decide +kernel)
theorem wq_27 : Cond.instanceMethod ⟨"SpotContoursModel", "triangles", "()I"⟩ ∈ zz_B := zz_mem (List.mem_append_right _ (List.mem_of_getElem? (i := 689) (by decide +kernel))) (by decide +kernel)
theorem wq_28 : Cond.selects "SpotContoursModel" ⟨"SpotContoursModel", "triangles", "()I"⟩ ⟨"SpotContoursModel", "triangles", "()I"⟩ ∈ zz_B := zz_mem (List.mem_append_right _ (List.mem_of_getElem? (i := 690) (by decide +kernel))) (by decide +kernel)
theorem wq_29 : Cond.codeWith ⟨"SpotContoursLaw", "corner", "(LSpotContours;II[J)I"⟩ method_5_code 5 (some .int) [(0, 10, 13, 21)] ∈ zz_B := zz_mem (List.mem_append_right _ (List.mem_of_getElem? (i := 329) (by decide +kernel))) (by decide +kernel)
theorem wq_30 : Cond.methodLink "SpotContoursLaw" 75 ⟨"SpotContoursLaw", "corner", "(LSpotContours;II[J)I"⟩ ∈ zz_B := zz_mem (List.mem_append_right _ (List.mem_of_getElem? (i := 327) (by decide +kernel))) (by decide +kernel)
theorem wq_31 : Cond.static ⟨"SpotContoursLaw", "corner", "(LSpotContours;II[J)I"⟩ ∈ zz_B := zz_mem (List.mem_append_right _ (List.mem_of_getElem? (i := 328) (by decide +kernel))) (by decide +kernel)
theorem wq_32 : Cond.code ⟨"SpotContoursModel", "corner", "(II)I"⟩ prog_7_method_14_code 3 (some .int) ∈ zz_B := zz_mem (List.mem_append_right _ (List.mem_of_getElem? (i := 695) (by decide +kernel))) (by decide +kernel)
theorem wq_33 : Cond.methodLink "SpotContoursLaw" 77 ⟨"SpotContoursModel", "corner", "(II)I"⟩ ∈ zz_B := zz_mem (List.mem_append_right _ (List.mem_of_getElem? (i := 692) (by decide +kernel))) (by decide +kernel)
theorem wq_34 : Cond.instanceMethod ⟨"SpotContoursModel", "corner", "(II)I"⟩ ∈ zz_B := zz_mem (List.mem_append_right _ (List.mem_of_getElem? (i := 693) (by decide +kernel))) (by decide +kernel)
theorem wq_35 : Cond.selects "SpotContoursModel" ⟨"SpotContoursModel", "corner", "(II)I"⟩ ⟨"SpotContoursModel", "corner", "(II)I"⟩ ∈ zz_B := zz_mem (List.mem_append_right _ (List.mem_of_getElem? (i := 694) (by decide +kernel))) (by decide +kernel)
theorem wq_36 : Cond.codeWith ⟨"SpotContoursLaw", "edge", "(LSpotContours;II[J)I"⟩ method_6_code 5 (some .int) [(0, 10, 13, 21)] ∈ zz_B := zz_mem (List.mem_append_right _ (List.mem_of_getElem? (i := 340) (by decide +kernel))) (by decide +kernel)
theorem wq_37 : Cond.methodLink "SpotContoursLaw" 78 ⟨"SpotContoursLaw", "edge", "(LSpotContours;II[J)I"⟩ ∈ zz_B := zz_mem (List.mem_append_right _ (List.mem_of_getElem? (i := 338) (by decide +kernel))) (by decide +kernel)
theorem wq_38 : Cond.static ⟨"SpotContoursLaw", "edge", "(LSpotContours;II[J)I"⟩ ∈ zz_B := zz_mem (List.mem_append_right _ (List.mem_of_getElem? (i := 339) (by decide +kernel))) (by decide +kernel)
theorem wq_39 : Cond.code ⟨"SpotContoursModel", "edge", "(II)I"⟩ prog_7_method_16_code 5 (some .int) ∈ zz_B := zz_mem (List.mem_append_right _ (List.mem_of_getElem? (i := 699) (by decide +kernel))) (by decide +kernel)
theorem wq_40 : Cond.methodLink "SpotContoursLaw" 80 ⟨"SpotContoursModel", "edge", "(II)I"⟩ ∈ zz_B := zz_mem (List.mem_append_right _ (List.mem_of_getElem? (i := 696) (by decide +kernel))) (by decide +kernel)
theorem wq_41 : Cond.instanceMethod ⟨"SpotContoursModel", "edge", "(II)I"⟩ ∈ zz_B := zz_mem (List.mem_append_right _ (List.mem_of_getElem? (i := 697) (by decide +kernel))) (by decide +kernel)
theorem wq_42 : Cond.selects "SpotContoursModel" ⟨"SpotContoursModel", "edge", "(II)I"⟩ ⟨"SpotContoursModel", "edge", "(II)I"⟩ ∈ zz_B := zz_mem (List.mem_append_right _ (List.mem_of_getElem? (i := 698) (by decide +kernel))) (by decide +kernel)
theorem wq_43 : Cond.codeWith ⟨"SpotContoursLaw", "at", "(LSpotContours;II[J)I"⟩ method_7_code 5 (some .int) [(0, 10, 13, 32)] ∈ zz_B := zz_mem (List.mem_append_right _ (List.mem_of_getElem? (i := 355) (by decide +kernel))) (by decide +kernel)
theorem wq_44 : Cond.methodLink "SpotContoursLaw" 81 ⟨"SpotContoursLaw", "at", "(LSpotContours;II[J)I"⟩ ∈ zz_B := zz_mem (List.mem_append_right _ (List.mem_of_getElem? (i := 353) (by decide +kernel))) (by decide +kernel)
theorem wq_45 : Cond.static ⟨"SpotContoursLaw", "at", "(LSpotContours;II[J)I"⟩ ∈ zz_B := zz_mem (List.mem_append_right _ (List.mem_of_getElem? (i := 354) (by decide +kernel))) (by decide +kernel)
theorem wq_46 : Cond.code ⟨"SpotContoursModel", "at", "(II)I"⟩ prog_7_method_19_code 15 (some .int) ∈ zz_B := zz_mem (List.mem_append_right _ (List.mem_of_getElem? (i := 707) (by decide +kernel))) (by decide +kernel)
theorem wq_47 : Cond.methodLink "SpotContoursLaw" 83 ⟨"SpotContoursModel", "at", "(II)I"⟩ ∈ zz_B := zz_mem (List.mem_append_right _ (List.mem_of_getElem? (i := 704) (by decide +kernel))) (by decide +kernel)
theorem wq_48 : Cond.instanceMethod ⟨"SpotContoursModel", "at", "(II)I"⟩ ∈ zz_B := zz_mem (List.mem_append_right _ (List.mem_of_getElem? (i := 705) (by decide +kernel))) (by decide +kernel)
theorem wq_49 : Cond.selects "SpotContoursModel" ⟨"SpotContoursModel", "at", "(II)I"⟩ ⟨"SpotContoursModel", "at", "(II)I"⟩ ∈ zz_B := zz_mem (List.mem_append_right _ (List.mem_of_getElem? (i := 706) (by decide +kernel))) (by decide +kernel)
theorem wq_50 : Cond.codeWith ⟨"SpotContoursLaw", "contours", "(LSpotContours;I[J)I"⟩ method_8_code 4 (some .int) [(0, 9, 12, 13)] ∈ zz_B := zz_mem (List.mem_append_right _ (List.mem_of_getElem? (i := 392) (by decide +kernel))) (by decide +kernel)
theorem wq_51 : Cond.methodLink "SpotContoursLaw" 84 ⟨"SpotContoursLaw", "contours", "(LSpotContours;I[J)I"⟩ ∈ zz_B := zz_mem (List.mem_append_right _ (List.mem_of_getElem? (i := 390) (by decide +kernel))) (by decide +kernel)
theorem wq_52 : Cond.static ⟨"SpotContoursLaw", "contours", "(LSpotContours;I[J)I"⟩ ∈ zz_B := zz_mem (List.mem_append_right _ (List.mem_of_getElem? (i := 391) (by decide +kernel))) (by decide +kernel)
theorem wq_53 : Cond.code ⟨"SpotContoursModel", "contours", "(I)I"⟩ prog_7_method_27_code 2 (some .int) ∈ zz_B := zz_mem (List.mem_append_right _ (List.mem_of_getElem? (i := 718) (by decide +kernel))) (by decide +kernel)
theorem wq_54 : Cond.methodLink "SpotContoursLaw" 87 ⟨"SpotContoursModel", "contours", "(I)I"⟩ ∈ zz_B := zz_mem (List.mem_append_right _ (List.mem_of_getElem? (i := 715) (by decide +kernel))) (by decide +kernel)
theorem wq_55 : Cond.instanceMethod ⟨"SpotContoursModel", "contours", "(I)I"⟩ ∈ zz_B := zz_mem (List.mem_append_right _ (List.mem_of_getElem? (i := 716) (by decide +kernel))) (by decide +kernel)
theorem wq_56 : Cond.selects "SpotContoursModel" ⟨"SpotContoursModel", "contours", "(I)I"⟩ ⟨"SpotContoursModel", "contours", "(I)I"⟩ ∈ zz_B := zz_mem (List.mem_append_right _ (List.mem_of_getElem? (i := 717) (by decide +kernel))) (by decide +kernel)
theorem wq_57 : Cond.codeWith ⟨"SpotContoursLaw", "contour", "(LSpotContours;II[J)I"⟩ method_9_code 5 (some .int) [(0, 10, 13, 13), (0, 10, 17, 21)] ∈ zz_B := zz_mem (List.mem_append_right _ (List.mem_of_getElem? (i := 445) (by decide +kernel))) (by decide +kernel)
theorem wq_58 : Cond.methodLink "SpotContoursLaw" 88 ⟨"SpotContoursLaw", "contour", "(LSpotContours;II[J)I"⟩ ∈ zz_B := zz_mem (List.mem_append_right _ (List.mem_of_getElem? (i := 443) (by decide +kernel))) (by decide +kernel)
theorem wq_59 : Cond.static ⟨"SpotContoursLaw", "contour", "(LSpotContours;II[J)I"⟩ ∈ zz_B := zz_mem (List.mem_append_right _ (List.mem_of_getElem? (i := 444) (by decide +kernel))) (by decide +kernel)
theorem wq_60 : Cond.code ⟨"SpotContoursModel", "contour", "(II)I"⟩ prog_7_method_30_code 3 (some .int) ∈ zz_B := zz_mem (List.mem_append_right _ (List.mem_of_getElem? (i := 748) (by decide +kernel))) (by decide +kernel)
theorem wq_61 : Cond.methodLink "SpotContoursLaw" 90 ⟨"SpotContoursModel", "contour", "(II)I"⟩ ∈ zz_B := zz_mem (List.mem_append_right _ (List.mem_of_getElem? (i := 745) (by decide +kernel))) (by decide +kernel)
theorem wq_62 : Cond.instanceMethod ⟨"SpotContoursModel", "contour", "(II)I"⟩ ∈ zz_B := zz_mem (List.mem_append_right _ (List.mem_of_getElem? (i := 746) (by decide +kernel))) (by decide +kernel)
theorem wq_63 : Cond.selects "SpotContoursModel" ⟨"SpotContoursModel", "contour", "(II)I"⟩ ⟨"SpotContoursModel", "contour", "(II)I"⟩ ∈ zz_B := zz_mem (List.mem_append_right _ (List.mem_of_getElem? (i := 747) (by decide +kernel))) (by decide +kernel)
theorem wq_64 : Cond.codeWith ⟨"SpotContoursLaw", "crossing", "(LSpotContours;III[J)I"⟩ method_10_code 6 (some .int) [(0, 12, 15, 13), (0, 12, 19, 21)] ∈ zz_B := zz_mem (List.mem_append_right _ (List.mem_of_getElem? (i := 480) (by decide +kernel))) (by decide +kernel)
theorem wq_65 : Cond.methodLink "SpotContoursLaw" 91 ⟨"SpotContoursLaw", "crossing", "(LSpotContours;III[J)I"⟩ ∈ zz_B := zz_mem (List.mem_append_right _ (List.mem_of_getElem? (i := 478) (by decide +kernel))) (by decide +kernel)
theorem wq_66 : Cond.static ⟨"SpotContoursLaw", "crossing", "(LSpotContours;III[J)I"⟩ ∈ zz_B := zz_mem (List.mem_append_right _ (List.mem_of_getElem? (i := 479) (by decide +kernel))) (by decide +kernel)
theorem wq_67 : Cond.code ⟨"SpotContoursModel", "crossing", "(III)I"⟩ prog_7_method_32_code 4 (some .int) ∈ zz_B := zz_mem (List.mem_append_right _ (List.mem_of_getElem? (i := 760) (by decide +kernel))) (by decide +kernel)
theorem wq_68 : Cond.methodLink "SpotContoursLaw" 93 ⟨"SpotContoursModel", "crossing", "(III)I"⟩ ∈ zz_B := zz_mem (List.mem_append_right _ (List.mem_of_getElem? (i := 757) (by decide +kernel))) (by decide +kernel)
theorem wq_69 : Cond.instanceMethod ⟨"SpotContoursModel", "crossing", "(III)I"⟩ ∈ zz_B := zz_mem (List.mem_append_right _ (List.mem_of_getElem? (i := 758) (by decide +kernel))) (by decide +kernel)
theorem wq_70 : Cond.selects "SpotContoursModel" ⟨"SpotContoursModel", "crossing", "(III)I"⟩ ⟨"SpotContoursModel", "crossing", "(III)I"⟩ ∈ zz_B := zz_mem (List.mem_append_right _ (List.mem_of_getElem? (i := 759) (by decide +kernel))) (by decide +kernel)
theorem wq_71 : Cond.codeWith ⟨"SpotContoursLaw", "place", "(LSpotContours;III[J)I"⟩ method_11_code 6 (some .int) [(0, 12, 15, 13), (0, 12, 19, 21)] ∈ zz_B := zz_mem (List.mem_append_right _ (List.mem_of_getElem? (i := 500) (by decide +kernel))) (by decide +kernel)
theorem wq_72 : Cond.methodLink "SpotContoursLaw" 94 ⟨"SpotContoursLaw", "place", "(LSpotContours;III[J)I"⟩ ∈ zz_B := zz_mem (List.mem_append_right _ (List.mem_of_getElem? (i := 498) (by decide +kernel))) (by decide +kernel)
theorem wq_73 : Cond.static ⟨"SpotContoursLaw", "place", "(LSpotContours;III[J)I"⟩ ∈ zz_B := zz_mem (List.mem_append_right _ (List.mem_of_getElem? (i := 499) (by decide +kernel))) (by decide +kernel)
theorem wq_74 : Cond.code ⟨"SpotContoursModel", "place", "(III)I"⟩ prog_7_method_34_code 4 (some .int) ∈ zz_B := zz_mem (List.mem_append_right _ (List.mem_of_getElem? (i := 768) (by decide +kernel))) (by decide +kernel)
theorem wq_75 : Cond.methodLink "SpotContoursLaw" 96 ⟨"SpotContoursModel", "place", "(III)I"⟩ ∈ zz_B := zz_mem (List.mem_append_right _ (List.mem_of_getElem? (i := 765) (by decide +kernel))) (by decide +kernel)
theorem wq_76 : Cond.instanceMethod ⟨"SpotContoursModel", "place", "(III)I"⟩ ∈ zz_B := zz_mem (List.mem_append_right _ (List.mem_of_getElem? (i := 766) (by decide +kernel))) (by decide +kernel)
theorem wq_77 : Cond.selects "SpotContoursModel" ⟨"SpotContoursModel", "place", "(III)I"⟩ ⟨"SpotContoursModel", "place", "(III)I"⟩ ∈ zz_B := zz_mem (List.mem_append_right _ (List.mem_of_getElem? (i := 767) (by decide +kernel))) (by decide +kernel)
theorem wq_78 : Cond.codeWith ⟨"SpotContoursLaw", "label", "(LSpotContours;I[J)I"⟩ method_12_code 4 (some .int) [(0, 9, 12, 13), (0, 9, 15, 15)] ∈ zz_B := zz_mem (List.mem_append_right _ (List.mem_of_getElem? (i := 522) (by decide +kernel))) (by decide +kernel)
theorem wq_79 : Cond.methodLink "SpotContoursLaw" 97 ⟨"SpotContoursLaw", "label", "(LSpotContours;I[J)I"⟩ ∈ zz_B := zz_mem (List.mem_append_right _ (List.mem_of_getElem? (i := 520) (by decide +kernel))) (by decide +kernel)
theorem wq_80 : Cond.static ⟨"SpotContoursLaw", "label", "(LSpotContours;I[J)I"⟩ ∈ zz_B := zz_mem (List.mem_append_right _ (List.mem_of_getElem? (i := 521) (by decide +kernel))) (by decide +kernel)
theorem wq_81 : Cond.code ⟨"SpotContoursModel", "label", "(I)I"⟩ prog_7_method_38_code 4 (some .int) ∈ zz_B := zz_mem (List.mem_append_right _ (List.mem_of_getElem? (i := 777) (by decide +kernel))) (by decide +kernel)
theorem wq_82 : Cond.methodLink "SpotContoursLaw" 99 ⟨"SpotContoursModel", "label", "(I)I"⟩ ∈ zz_B := zz_mem (List.mem_append_right _ (List.mem_of_getElem? (i := 774) (by decide +kernel))) (by decide +kernel)
theorem wq_83 : Cond.instanceMethod ⟨"SpotContoursModel", "label", "(I)I"⟩ ∈ zz_B := zz_mem (List.mem_append_right _ (List.mem_of_getElem? (i := 775) (by decide +kernel))) (by decide +kernel)
theorem wq_84 : Cond.selects "SpotContoursModel" ⟨"SpotContoursModel", "label", "(I)I"⟩ ⟨"SpotContoursModel", "label", "(I)I"⟩ ∈ zz_B := zz_mem (List.mem_append_right _ (List.mem_of_getElem? (i := 776) (by decide +kernel))) (by decide +kernel)
theorem wq_85 : Cond.code ⟨"SpotContours", "labels", "()I"⟩ prog_1_method_13_code 1 (some .int) ∈ zz_B := zz_mem (List.mem_append_right _ (List.mem_of_getElem? (i := 132) (by decide +kernel))) (by decide +kernel)
theorem wq_86 : Cond.methodLink "SpotContoursLaw" 100 ⟨"SpotContours", "labels", "()I"⟩ ∈ zz_B := zz_mem (List.mem_append_right _ (List.mem_of_getElem? (i := 129) (by decide +kernel))) (by decide +kernel)
theorem wq_87 : Cond.instanceMethod ⟨"SpotContours", "labels", "()I"⟩ ∈ zz_B := zz_mem (List.mem_append_right _ (List.mem_of_getElem? (i := 130) (by decide +kernel))) (by decide +kernel)
theorem wq_88 : Cond.selects "SpotContours" ⟨"SpotContours", "labels", "()I"⟩ ⟨"SpotContours", "labels", "()I"⟩ ∈ zz_B := zz_mem (List.mem_append_right _ (List.mem_of_getElem? (i := 131) (by decide +kernel))) (by decide +kernel)
theorem wq_89 : Cond.code ⟨"SpotContoursModel", "labels", "()I"⟩ prog_7_method_39_code 1 (some .int) ∈ zz_B := zz_mem (List.mem_append_right _ (List.mem_of_getElem? (i := 793) (by decide +kernel))) (by decide +kernel)
theorem wq_90 : Cond.methodLink "SpotContoursLaw" 103 ⟨"SpotContoursModel", "labels", "()I"⟩ ∈ zz_B := zz_mem (List.mem_append_right _ (List.mem_of_getElem? (i := 790) (by decide +kernel))) (by decide +kernel)
theorem wq_91 : Cond.instanceMethod ⟨"SpotContoursModel", "labels", "()I"⟩ ∈ zz_B := zz_mem (List.mem_append_right _ (List.mem_of_getElem? (i := 791) (by decide +kernel))) (by decide +kernel)
theorem wq_92 : Cond.selects "SpotContoursModel" ⟨"SpotContoursModel", "labels", "()I"⟩ ⟨"SpotContoursModel", "labels", "()I"⟩ ∈ zz_B := zz_mem (List.mem_append_right _ (List.mem_of_getElem? (i := 792) (by decide +kernel))) (by decide +kernel)
theorem wq_93 : Cond.codeWith ⟨"SpotContoursLaw", "labelOf", "(LSpotContours;II[J)I"⟩ method_13_code 5 (some .int) [(0, 10, 13, 21), (0, 10, 17, 13)] ∈ zz_B := zz_mem (List.mem_append_right _ (List.mem_of_getElem? (i := 557) (by decide +kernel))) (by decide +kernel)
theorem wq_94 : Cond.methodLink "SpotContoursLaw" 104 ⟨"SpotContoursLaw", "labelOf", "(LSpotContours;II[J)I"⟩ ∈ zz_B := zz_mem (List.mem_append_right _ (List.mem_of_getElem? (i := 555) (by decide +kernel))) (by decide +kernel)
theorem wq_95 : Cond.static ⟨"SpotContoursLaw", "labelOf", "(LSpotContours;II[J)I"⟩ ∈ zz_B := zz_mem (List.mem_append_right _ (List.mem_of_getElem? (i := 556) (by decide +kernel))) (by decide +kernel)
theorem wq_96 : Cond.code ⟨"SpotContoursModel", "labelOf", "(II)I"⟩ prog_7_method_40_code 3 (some .int) ∈ zz_B := zz_mem (List.mem_append_right _ (List.mem_of_getElem? (i := 797) (by decide +kernel))) (by decide +kernel)
theorem wq_97 : Cond.methodLink "SpotContoursLaw" 106 ⟨"SpotContoursModel", "labelOf", "(II)I"⟩ ∈ zz_B := zz_mem (List.mem_append_right _ (List.mem_of_getElem? (i := 794) (by decide +kernel))) (by decide +kernel)
theorem wq_98 : Cond.instanceMethod ⟨"SpotContoursModel", "labelOf", "(II)I"⟩ ∈ zz_B := zz_mem (List.mem_append_right _ (List.mem_of_getElem? (i := 795) (by decide +kernel))) (by decide +kernel)
theorem wq_99 : Cond.selects "SpotContoursModel" ⟨"SpotContoursModel", "labelOf", "(II)I"⟩ ⟨"SpotContoursModel", "labelOf", "(II)I"⟩ ∈ zz_B := zz_mem (List.mem_append_right _ (List.mem_of_getElem? (i := 796) (by decide +kernel))) (by decide +kernel)
theorem wq_100 : Cond.code ⟨"SpotContours", "wipe", "()I"⟩ prog_1_method_15_code 2 (some .int) ∈ zz_B := zz_mem (List.mem_append_right _ (List.mem_of_getElem? (i := 140) (by decide +kernel))) (by decide +kernel)
theorem wq_101 : Cond.methodLink "SpotContoursLaw" 107 ⟨"SpotContours", "wipe", "()I"⟩ ∈ zz_B := zz_mem (List.mem_append_right _ (List.mem_of_getElem? (i := 137) (by decide +kernel))) (by decide +kernel)
theorem wq_102 : Cond.instanceMethod ⟨"SpotContours", "wipe", "()I"⟩ ∈ zz_B := zz_mem (List.mem_append_right _ (List.mem_of_getElem? (i := 138) (by decide +kernel))) (by decide +kernel)
theorem wq_103 : Cond.selects "SpotContours" ⟨"SpotContours", "wipe", "()I"⟩ ⟨"SpotContours", "wipe", "()I"⟩ ∈ zz_B := zz_mem (List.mem_append_right _ (List.mem_of_getElem? (i := 139) (by decide +kernel))) (by decide +kernel)
theorem wq_104 : Cond.code ⟨"SpotContoursModel", "wipe", "()I"⟩ prog_7_method_41_code 2 (some .int) ∈ zz_B := zz_mem (List.mem_append_right _ (List.mem_of_getElem? (i := 801) (by decide +kernel))) (by decide +kernel)
theorem wq_105 : Cond.methodLink "SpotContoursLaw" 110 ⟨"SpotContoursModel", "wipe", "()I"⟩ ∈ zz_B := zz_mem (List.mem_append_right _ (List.mem_of_getElem? (i := 798) (by decide +kernel))) (by decide +kernel)
theorem wq_106 : Cond.instanceMethod ⟨"SpotContoursModel", "wipe", "()I"⟩ ∈ zz_B := zz_mem (List.mem_append_right _ (List.mem_of_getElem? (i := 799) (by decide +kernel))) (by decide +kernel)
theorem wq_107 : Cond.selects "SpotContoursModel" ⟨"SpotContoursModel", "wipe", "()I"⟩ ⟨"SpotContoursModel", "wipe", "()I"⟩ ∈ zz_B := zz_mem (List.mem_append_right _ (List.mem_of_getElem? (i := 800) (by decide +kernel))) (by decide +kernel)
theorem oq_spot {g h : St} {n : Nat} {X Y Z : Nat → Int} {t : Lt} (x1 x2 x3 : Int32) (hC : iC g n X Y Z t) (hM : iM h n X Y Z t) : ∃ (k : Nat) (r : Int32) (n' : Nat) (X' Y' Z' : Nat → Int) (t' : Lt), k ≤ 2 ∧ wp_sc_spot x1 x2 x3 g (pC k r n' X' Y' Z' t') (xC [(0, 1), (1, 2)] k n' X' Y' Z' t') ∧ wp_mo_spot x1 x2 x3 h (pM k r n' X' Y' Z' t') := by
  obtain ⟨a0, p0, q0, rfl⟩ := iI_any x1
  obtain ⟨a1, p1, q1, rfl⟩ := iI_any x2
  obtain ⟨a2, p2, q2, rfl⟩ := iI_any x3
  exact op_spot ⟨p0, q0⟩ ⟨p1, q1⟩ ⟨p2, q2⟩ hC hM
theorem oq_raise {g h : St} {n : Nat} {X Y Z : Nat → Int} {t : Lt} (x1 x2 : Int32) (hC : iC g n X Y Z t) (hM : iM h n X Y Z t) : ∃ (k : Nat) (r : Int32) (n' : Nat) (X' Y' Z' : Nat → Int) (t' : Lt), k ≤ 2 ∧ wp_sc_raise x1 x2 g (pC k r n' X' Y' Z' t') (xC [(2, 1), (0, 2)] k n' X' Y' Z' t') ∧ wp_mo_raise x1 x2 h (pM k r n' X' Y' Z' t') := by
  obtain ⟨a0, p0, q0, rfl⟩ := iI_any x1
  obtain ⟨a1, p1, q1, rfl⟩ := iI_any x2
  obtain ⟨k, r, Z', t', w⟩ := op_raise ⟨p0, q0⟩ ⟨p1, q1⟩ hC hM
  exact ⟨k, r, n, X, Y, Z', t', w⟩
theorem oq_corner {g h : St} {n : Nat} {X Y Z : Nat → Int} {t : Lt} (x1 x2 : Int32) (hC : iC g n X Y Z t) (hM : iM h n X Y Z t) : ∃ (k : Nat) (r : Int32) (n' : Nat) (X' Y' Z' : Nat → Int) (t' : Lt), k ≤ 2 ∧ wp_sc_corner x1 x2 g (pC k r n' X' Y' Z' t') (xC [(2, 1)] k n' X' Y' Z' t') ∧ wp_mo_corner x1 x2 h (pM k r n' X' Y' Z' t') := by
  obtain ⟨a0, p0, q0, rfl⟩ := iI_any x1
  obtain ⟨a1, p1, q1, rfl⟩ := iI_any x2
  obtain ⟨k, r, w⟩ := op_corner ⟨p0, q0⟩ ⟨p1, q1⟩ hC hM
  exact ⟨k, r, n, X, Y, Z, t, w⟩
theorem oq_edge {g h : St} {n : Nat} {X Y Z : Nat → Int} {t : Lt} (x1 x2 : Int32) (hC : iC g n X Y Z t) (hM : iM h n X Y Z t) : ∃ (k : Nat) (r : Int32) (n' : Nat) (X' Y' Z' : Nat → Int) (t' : Lt), k ≤ 2 ∧ wp_sc_edge x1 x2 g (pC k r n' X' Y' Z' t') (xC [(2, 1)] k n' X' Y' Z' t') ∧ wp_mo_edge x1 x2 h (pM k r n' X' Y' Z' t') := by
  obtain ⟨a0, p0, q0, rfl⟩ := iI_any x1
  obtain ⟨a1, p1, q1, rfl⟩ := iI_any x2
  obtain ⟨k, r, w⟩ := op_edge ⟨p0, q0⟩ ⟨p1, q1⟩ hC hM
  exact ⟨k, r, n, X, Y, Z, t, w⟩
theorem oq_at {g h : St} {n : Nat} {X Y Z : Nat → Int} {t : Lt} (x1 x2 : Int32) (hC : iC g n X Y Z t) (hM : iM h n X Y Z t) : ∃ (k : Nat) (r : Int32) (n' : Nat) (X' Y' Z' : Nat → Int) (t' : Lt), k ≤ 2 ∧ wp_sc_at x1 x2 g (pC k r n' X' Y' Z' t') (xC [(3, 1)] k n' X' Y' Z' t') ∧ wp_mo_at x1 x2 h (pM k r n' X' Y' Z' t') := by
  obtain ⟨a0, p0, q0, rfl⟩ := iI_any x1
  obtain ⟨a1, p1, q1, rfl⟩ := iI_any x2
  obtain ⟨k, r, w⟩ := op_at ⟨p0, q0⟩ ⟨p1, q1⟩ hC hM
  exact ⟨k, r, n, X, Y, Z, t, w⟩
theorem oq_contours {g h : St} {n : Nat} {X Y Z : Nat → Int} {t : Lt} (x1 : Int32) (hC : iC g n X Y Z t) (hM : iM h n X Y Z t) : ∃ (k : Nat) (r : Int32) (n' : Nat) (X' Y' Z' : Nat → Int) (t' : Lt), k ≤ 2 ∧ wp_sc_contours x1 g (pC k r n' X' Y' Z' t') (xC [(0, 1)] k n' X' Y' Z' t') ∧ wp_mo_contours x1 h (pM k r n' X' Y' Z' t') := by
  obtain ⟨a0, p0, q0, rfl⟩ := iI_any x1
  obtain ⟨k, r, w⟩ := op_contours ⟨p0, q0⟩ hC hM
  exact ⟨k, r, n, X, Y, Z, t, w⟩
theorem oq_contour {g h : St} {n : Nat} {X Y Z : Nat → Int} {t : Lt} (x1 x2 : Int32) (hC : iC g n X Y Z t) (hM : iM h n X Y Z t) : ∃ (k : Nat) (r : Int32) (n' : Nat) (X' Y' Z' : Nat → Int) (t' : Lt), k ≤ 2 ∧ wp_sc_contour x1 x2 g (pC k r n' X' Y' Z' t') (xC [(0, 1), (2, 2)] k n' X' Y' Z' t') ∧ wp_mo_contour x1 x2 h (pM k r n' X' Y' Z' t') := by
  obtain ⟨a0, p0, q0, rfl⟩ := iI_any x1
  obtain ⟨a1, p1, q1, rfl⟩ := iI_any x2
  obtain ⟨k, r, w⟩ := op_contour ⟨p0, q0⟩ ⟨p1, q1⟩ hC hM
  exact ⟨k, r, n, X, Y, Z, t, w⟩
theorem oq_crossing {g h : St} {n : Nat} {X Y Z : Nat → Int} {t : Lt} (x1 x2 x3 : Int32) (hC : iC g n X Y Z t) (hM : iM h n X Y Z t) : ∃ (k : Nat) (r : Int32) (n' : Nat) (X' Y' Z' : Nat → Int) (t' : Lt), k ≤ 2 ∧ wp_sc_crossing x1 x2 x3 g (pC k r n' X' Y' Z' t') (xC [(0, 1), (2, 2)] k n' X' Y' Z' t') ∧ wp_mo_crossing x1 x2 x3 h (pM k r n' X' Y' Z' t') := by
  obtain ⟨a0, p0, q0, rfl⟩ := iI_any x1
  obtain ⟨a1, p1, q1, rfl⟩ := iI_any x2
  obtain ⟨a2, p2, q2, rfl⟩ := iI_any x3
  obtain ⟨k, r, w⟩ := op_crossing ⟨p0, q0⟩ ⟨p1, q1⟩ ⟨p2, q2⟩ hC hM
  exact ⟨k, r, n, X, Y, Z, t, w⟩
theorem oq_place {g h : St} {n : Nat} {X Y Z : Nat → Int} {t : Lt} (x1 x2 x3 : Int32) (hC : iC g n X Y Z t) (hM : iM h n X Y Z t) : ∃ (k : Nat) (r : Int32) (n' : Nat) (X' Y' Z' : Nat → Int) (t' : Lt), k ≤ 2 ∧ wp_sc_place x1 x2 x3 g (pC k r n' X' Y' Z' t') (xC [(0, 1), (2, 2)] k n' X' Y' Z' t') ∧ wp_mo_place x1 x2 x3 h (pM k r n' X' Y' Z' t') := by
  obtain ⟨a0, p0, q0, rfl⟩ := iI_any x1
  obtain ⟨a1, p1, q1, rfl⟩ := iI_any x2
  obtain ⟨a2, p2, q2, rfl⟩ := iI_any x3
  obtain ⟨k, r, w⟩ := op_place ⟨p0, q0⟩ ⟨p1, q1⟩ ⟨p2, q2⟩ hC hM
  exact ⟨k, r, n, X, Y, Z, t, w⟩
theorem oq_label {g h : St} {n : Nat} {X Y Z : Nat → Int} {t : Lt} (x1 : Int32) (hC : iC g n X Y Z t) (hM : iM h n X Y Z t) : ∃ (k : Nat) (r : Int32) (n' : Nat) (X' Y' Z' : Nat → Int) (t' : Lt), k ≤ 2 ∧ wp_sc_label x1 g (pC k r n' X' Y' Z' t') (xC [(0, 1), (1, 2)] k n' X' Y' Z' t') ∧ wp_mo_label x1 h (pM k r n' X' Y' Z' t') := by
  obtain ⟨a0, p0, q0, rfl⟩ := iI_any x1
  obtain ⟨k, r, t', w⟩ := op_label ⟨p0, q0⟩ hC hM
  exact ⟨k, r, n, X, Y, Z, t', w⟩
theorem oq_labelOf {g h : St} {n : Nat} {X Y Z : Nat → Int} {t : Lt} (x1 x2 : Int32) (hC : iC g n X Y Z t) (hM : iM h n X Y Z t) : ∃ (k : Nat) (r : Int32) (n' : Nat) (X' Y' Z' : Nat → Int) (t' : Lt), k ≤ 2 ∧ wp_sc_labelOf x1 x2 g (pC k r n' X' Y' Z' t') (xC [(2, 1), (0, 2)] k n' X' Y' Z' t') ∧ wp_mo_labelOf x1 x2 h (pM k r n' X' Y' Z' t') := by
  obtain ⟨a0, p0, q0, rfl⟩ := iI_any x1
  obtain ⟨a1, p1, q1, rfl⟩ := iI_any x2
  obtain ⟨k, r, w⟩ := op_labelOf ⟨p0, q0⟩ ⟨p1, q1⟩ hC hM
  exact ⟨k, r, n, X, Y, Z, t, w⟩
section
variable {p : Program} {l : Launch} {e : Env} {s : State} {m : MethodId} {below : List Frame} {meth : Method} {c : Code} {b0 L : Nat} {xs : Nat → Int32} {dC : Nat → ClassId} {dI : Nat → Nat → Nat} {a b : Nat → Nat} {o : Nat} {cI cZ cJ : ClassId} {Q : State → Prop} {H : Heap} {locs : List Loc} {ls : Array Slot} {cells slots i : Nat} {g h : St} {f : Nat → Int64}
set_option maxHeartbeats 4000000 in
set_option maxRecDepth 100000 in
theorem cs_spot (hx9 : lz_X p l s m c b0 L xs dC dI cI cZ cJ) (hi : i + 4 ≤ L) (hL : L ≤ 2048) (hY : lz_Y s dC dI a b o cI cZ cJ b0 i g h f H locs ls) (hce : cells + 2 ≤ 601024) (hsl : slots + 12 ≤ 7293034) (K : ∀ g h f H locs ls, lz_Y s dC dI a b o cI cZ cJ b0 i g h f H locs ls → W p l e room_1 s m #[Value.ref b0] below meth c H locs (cells + 2) (slots + 12) Q (F0 m 907 ls [])) : W p l e room_1 s m #[Value.ref b0] below meth c H locs cells slots Q (F0 m 108 ls []) := by
  obtain ⟨hx, hb, hml, hown, hts, hX, hbl, hK, hN, hN3, hU, hlt⟩ := hx9
  obtain ⟨⟨n, X, Y, Z, t, hC, hM⟩, hP, hD, hS, hl⟩ := hY
  have hA : ∀ q, s.heap.size ≤ q → lz_A s q := fun _ h => h
  have hbA : ¬ lz_A s b0 := Nat.not_le.mpr hbl
  have hK2 : va_K (dC, dI) zzCl [(cI, .int), (cZ, .boolean)] s := hK.sub [0, 1] rfl
  obtain ⟨k, r, n', X', Y', Z', t', hk2, hw1, hw2⟩ := oq_spot (xs (nI i + 1).toNatClampNeg) (xs (nI i + 2).toNatClampNeg) (xs (nI i + 3).toNatClampNeg) hC hM
  refine lv_aload_n hx hb d_law_108 rfl (lv_at hl 1 rfl) ?_
  refine lv_aload_n hx hb d_law_109 rfl (lv_at hl 0 rfl) ?_
  refine lv_iload hx hb d_law_110 (lv_at hl 4 rfl) ?_
  refine lv_iconst (v := 1) hx hb d_law_112 (by decide) ?_
  refine lv_iadd hx hb d_law_113 ?_
  refine va_sld hx hb hX hbl hbA hS (lz_in (j := 1) hi hL (by decide)) d_law_114 ?_
  refine lv_aload_n hx hb d_law_115 rfl (lv_at hl 0 rfl) ?_
  refine lv_iload hx hb d_law_116 (lv_at hl 4 rfl) ?_
  refine lv_iconst (v := 2) hx hb d_law_118 (by decide) ?_
  refine lv_iadd hx hb d_law_119 ?_
  refine va_sld hx hb hX hbl hbA hS (lz_in (j := 2) hi hL (by decide)) d_law_120 ?_
  refine lv_aload_n hx hb d_law_121 rfl (lv_at hl 0 rfl) ?_
  refine lv_iload hx hb d_law_122 (lv_at hl 4 rfl) ?_
  refine lv_iconst (v := 3) hx hb d_law_124 (by decide) ?_
  refine lv_iadd hx hb d_law_125 ?_
  refine va_sld hx hb hX hbl hbA hS (lz_in (j := 3) hi hL (by decide)) d_law_126 ?_
  refine lv_aload_n hx hb d_law_127 rfl (lv_at hl 3 rfl) ?_
  have hF := lz_free (lz_dl hD) hS hA
  have hM9 := lz_spot l hlt dC dI a o cI cZ cJ H.size (xs (nI i + 1).toNatClampNeg) (xs (nI i + 2).toNatClampNeg) (xs (nI i + 3).toNatClampNeg) g f (fun v u => v = nI k ∧ iC u.1 n' X' Y' Z' t' ∧ (k = 0 → u.2 0 = r.toInt64)) _ _ hw1 (fun r1 g1 hp => ⟨by rw [hp.1]; rfl, hp.2.2, fun _ => by rw [hp.2.1]; exact lz_upd f r.toInt64⟩) (fun e9 g1 hp => by
    obtain ⟨hm, hi9⟩ := hp
    rcases List.mem_cons.mp hm with hm | hm
    · obtain ⟨e1, e2⟩ := Prod.mk.inj hm
      exact Or.inl ⟨e1, by rw [e2]; rfl, hi9, fun h9 => absurd (h9.symm.trans e2) (by decide)⟩
    · obtain ⟨e1, e2⟩ := Prod.mk.inj (List.mem_singleton.mp hm)
      exact Or.inr ⟨e1, by rw [e2]; rfl, hi9, fun h9 => absurd (h9.symm.trans e2) (by decide)⟩)
  refine va_calli (vx_runSW (As := [.ref (a 0), .int (xs (nI i + 1).toNatClampNeg), .int (xs (nI i + 2).toNatClampNeg), .int (xs (nI i + 3).toNatClampNeg), .ref o]) (rest := []) ⟨hx, hb, hml, hown, hts⟩ hM9 (lz_cwSW 5 hts (zz_good wq_0) rfl rfl rfl wq_1 wq_2 wq_3 (by decide +kernel) ⟨Nat.le_of_ble_eq_true rfl, Nat.le_of_ble_eq_true rfl⟩) ⟨lz_blind, lz_pre (lz_l hP) hK (lz_dl hD) hN hN3 hS hA hU⟩ rfl rfl hl.1 rfl (lv_room (Nat.le_of_ble_eq_true rfl)) d_law_128 ⟨show cells + 1 ≤ 601024 by omega, show slots + 6 * 1 ≤ 7293034 by omega⟩) hS (fun q _ h => hF q h) hF (fun r1 u1 t1 H1 locs1 ht hvm hp hB hz1 hk1 hS1 => ?_)
  obtain ⟨hP1, hK1, hD1⟩ := hB
  rw [ht] at hP1
  obtain ⟨hP, hD⟩ := lz_join hP hD hk1 hF hP1 hD1
  obtain ⟨g1, f1⟩ := u1
  obtain ⟨hr1, hC1, hv1⟩ := hp
  subst hr1
  have hS := hS1
  refine lv_istore (lv' := [(5, .int (nI k)), (0, .ref b0), (1, .ref (a 0)), (2, .ref (b 0)), (3, .ref o), (4, .int (nI i))]) hx hb d_law_131 hl (by decide) rfl (fun ls hl => ?_)
  refine lv_aload_n hx hb d_law_133 rfl (lv_at hl 3 rfl) ?_
  refine lv_aload_n hx hb d_law_134 rfl (lv_at hl 1 rfl) ?_
  refine lv_iload hx hb d_law_135 (lv_at hl 5 rfl) ?_
  refine lv_iconst (v := 1) hx hb d_law_137 (by decide) ?_
  refine lv_iadd hx hb d_law_138 ?_
  refine va_sld hx hb hX hbl hbA hS (lz_in (j := 1) hi hL (by decide)) d_law_139 ?_
  refine lv_aload_n hx hb d_law_140 rfl (lv_at hl 1 rfl) ?_
  refine lv_iload hx hb d_law_141 (lv_at hl 5 rfl) ?_
  refine lv_iconst (v := 2) hx hb d_law_143 (by decide) ?_
  refine lv_iadd hx hb d_law_144 ?_
  refine va_sld hx hb hX hbl hbA hS (lz_in (j := 2) hi hL (by decide)) d_law_145 ?_
  refine lv_aload_n hx hb d_law_146 rfl (lv_at hl 1 rfl) ?_
  refine lv_iload hx hb d_law_147 (lv_at hl 5 rfl) ?_
  refine lv_iconst (v := 3) hx hb d_law_149 (by decide) ?_
  refine lv_iadd hx hb d_law_150 ?_
  refine va_sld hx hb hX hbl hbA hS (lz_in (j := 3) hi hL (by decide)) d_law_151 ?_
  have hF1 := zz_free (w := wM b cI cZ) (lz_dr hD) hS hA
  refine va_calli (va_runV (As := [.int (xs (nI i + 1).toNatClampNeg), .int (xs (nI i + 2).toNatClampNeg), .int (xs (nI i + 3).toNatClampNeg)]) (rest := []) ⟨hx, hb, hml, hown, hts⟩ (mc_mo_spot l dC dI b cI cZ _ (xs (nI i + 1).toNatClampNeg) (xs (nI i + 2).toNatClampNeg) (xs (nI i + 3).toNatClampNeg) h _ hw2) (zz_cwV 3 hts (zz_good wq_4) rfl rfl rfl wq_5 wq_6 wq_7 wq_8 (by decide +kernel) ⟨Nat.le_of_ble_eq_true rfl, Nat.le_of_ble_eq_true rfl⟩) ⟨zz_blind, va_recv hK2 (lz_r hP) rfl (wM_0 b cI cZ h), zz_pre (w := wM b cI cZ) (lz_r hP) hK2 (lz_dr hD) hN⟩ rfl rfl hl.1 rfl (lv_room (Nat.le_of_ble_eq_true rfl)) d_law_152 ⟨show cells + 1 ≤ 601024 by omega, show slots + 6 * 1 ≤ 7293034 by omega⟩) hS (fun q _ h => hF1 q h) hF1 (fun r2 h1 t1 H1 locs1 ht hvm hp1 hB hz1 hk1 hS1 => ?_)
  obtain ⟨hP1, hK1, hD1⟩ := hB
  rw [ht] at hP1
  obtain ⟨hP, hD⟩ := lz_joinR hP hD hk1 hF1 hP1 hD1
  have hS := hS1
  obtain ⟨hth, hv2, hM1⟩ := hp1
  refine lv_istore (lv' := [(6, .int r2), (5, .int (nI k)), (0, .ref b0), (1, .ref (a 0)), (2, .ref (b 0)), (3, .ref o), (4, .int (nI i))]) hx hb d_law_155 hl (by decide) rfl (fun ls hl => ?_)
  refine lv_aload_n hx hb d_law_157 rfl (lv_at hl 4 rfl) ?_
  have hF2 := zz_free (w := wM b cI cZ) (lz_dr hD) hS hA
  refine va_calli (va_runV (As := []) (rest := []) ⟨hx, hb, hml, hown, hts⟩ (mc_mo_thrown l dC dI b cI cZ _  h1 (fun r3 h3 => r3 = h1 0 0 ∧ h3 = h1) ⟨rfl, rfl⟩) (zz_cwV 0 hts (zz_good wq_9) rfl rfl rfl wq_10 wq_11 wq_12 wq_8 (by decide +kernel) ⟨Nat.le_of_ble_eq_true rfl, Nat.le_of_ble_eq_true rfl⟩) ⟨zz_blind, va_recv hK2 (lz_r hP) rfl (wM_0 b cI cZ h1), zz_pre (w := wM b cI cZ) (lz_r hP) hK2 (lz_dr hD) hN⟩ rfl rfl hl.1 rfl (lv_room (Nat.le_of_ble_eq_true rfl)) d_law_158 ⟨show cells + 1 + 0 ≤ 601024 by omega, show slots + 6 * 1 + 0 ≤ 7293034 by omega⟩) hS (fun q _ h => hF2 q h) hF2 (fun r3 h2 t1 H2 locs2 ht hvm hp2 hB hz1 hk1 hS1 => ?_)
  obtain ⟨hP1, hK1, hD1⟩ := hB
  rw [ht] at hP1
  obtain ⟨hP, hD⟩ := lz_joinR hP hD hk1 hF2 hP1 hD1
  have hS := hS1
  obtain ⟨hr3, hh3⟩ := hp2
  rw [hh3] at hP hD
  refine lv_iload hx hb d_law_161 (lv_at hl 1 rfl) ?_
  refine lv_icmp_eq (tgt := 168) hx hb d_law_163 (by decide) (fun hc => ?_) (fun hc => absurd (hr3.trans hth) hc)
  refine lv_iload hx hb d_law_168 (lv_at hl 1 rfl) ?_
  refine lv_if_ne (tgt := 185) hx hb d_law_170 (by decide) (fun hc => ?_) (fun hc => ?_)
  · refine lv_goto (tgt := 907) hx hb d_law_185 (by decide) ?_
    refine W.widen (k := cells + 2) (n := slots + 12) (by omega) (by omega) ?_
    exact K _ _ _ _ _ _ ⟨⟨n', X', Y', Z', t', hC1, hM1⟩, hP, hD, hS, lv_sub hl [2, 3, 4, 5, 6] rfl⟩
  · have hk0 := lz_nI0 hk2 hc
    refine lv_aload_n hx hb d_law_173 rfl (lv_at hl 5 rfl) ?_
    refine lv_iconst (v := 0) hx hb d_law_174 (by decide) ?_
    refine va_lald hx hb hK hP 18 2 rfl rfl (i := 0) (show ¬ ((0 : Int32) < 0 ∨ 1 ≤ (0 : Int32).toNatClampNeg) by decide) d_law_175 ?_
    refine lv_iload hx hb d_law_176 (lv_at hl 0 rfl) ?_
    refine lv_i2l (v := r2.toInt64) hx hb d_law_178 rfl ?_
    refine W.lcmp hx hb d_law_179 ?_
    refine lv_if_eq (tgt := 185) hx hb d_law_180 (by decide) (fun hc => ?_) (fun hc => absurd (show lg_cmp (f1 0) r2.toInt64 = 0 by rw [show f1 0 = r.toInt64 from hv1 hk0, hv2 hk0]; exact lz_cmp _) hc)
    refine lv_goto (tgt := 907) hx hb d_law_185 (by decide) ?_
    refine W.widen (k := cells + 2) (n := slots + 12) (by omega) (by omega) ?_
    exact K _ _ _ _ _ _ ⟨⟨n', X', Y', Z', t', hC1, hM1⟩, hP, hD, hS, lv_sub hl [2, 3, 4, 5, 6] rfl⟩
set_option maxHeartbeats 4000000 in
set_option maxRecDepth 100000 in
theorem cs_raise (hx9 : lz_X p l s m c b0 L xs dC dI cI cZ cJ) (hi : i + 4 ≤ L) (hL : L ≤ 2048) (hY : lz_Y s dC dI a b o cI cZ cJ b0 i g h f H locs ls) (hce : cells + 2 ≤ 601024) (hsl : slots + 12 ≤ 7293034) (K : ∀ g h f H locs ls, lz_Y s dC dI a b o cI cZ cJ b0 i g h f H locs ls → W p l e room_1 s m #[Value.ref b0] below meth c H locs (cells + 2) (slots + 12) Q (F0 m 907 ls [])) : W p l e room_1 s m #[Value.ref b0] below meth c H locs cells slots Q (F0 m 188 ls []) := by
  obtain ⟨hx, hb, hml, hown, hts, hX, hbl, hK, hN, hN3, hU, hlt⟩ := hx9
  obtain ⟨⟨n, X, Y, Z, t, hC, hM⟩, hP, hD, hS, hl⟩ := hY
  have hA : ∀ q, s.heap.size ≤ q → lz_A s q := fun _ h => h
  have hbA : ¬ lz_A s b0 := Nat.not_le.mpr hbl
  have hK2 : va_K (dC, dI) zzCl [(cI, .int), (cZ, .boolean)] s := hK.sub [0, 1] rfl
  obtain ⟨k, r, n', X', Y', Z', t', hk2, hw1, hw2⟩ := oq_raise (xs (nI i + 1).toNatClampNeg) (xs (nI i + 2).toNatClampNeg) hC hM
  refine lv_aload_n hx hb d_law_188 rfl (lv_at hl 1 rfl) ?_
  refine lv_aload_n hx hb d_law_189 rfl (lv_at hl 0 rfl) ?_
  refine lv_iload hx hb d_law_190 (lv_at hl 4 rfl) ?_
  refine lv_iconst (v := 1) hx hb d_law_192 (by decide) ?_
  refine lv_iadd hx hb d_law_193 ?_
  refine va_sld hx hb hX hbl hbA hS (lz_in (j := 1) hi hL (by decide)) d_law_194 ?_
  refine lv_aload_n hx hb d_law_195 rfl (lv_at hl 0 rfl) ?_
  refine lv_iload hx hb d_law_196 (lv_at hl 4 rfl) ?_
  refine lv_iconst (v := 2) hx hb d_law_198 (by decide) ?_
  refine lv_iadd hx hb d_law_199 ?_
  refine va_sld hx hb hX hbl hbA hS (lz_in (j := 2) hi hL (by decide)) d_law_200 ?_
  refine lv_aload_n hx hb d_law_201 rfl (lv_at hl 3 rfl) ?_
  have hF := lz_free (lz_dl hD) hS hA
  have hM9 := lz_raise l hlt dC dI a o cI cZ cJ H.size (xs (nI i + 1).toNatClampNeg) (xs (nI i + 2).toNatClampNeg) g f (fun v u => v = nI k ∧ iC u.1 n' X' Y' Z' t' ∧ (k = 0 → u.2 0 = r.toInt64)) _ _ hw1 (fun r1 g1 hp => ⟨by rw [hp.1]; rfl, hp.2.2, fun _ => by rw [hp.2.1]; exact lz_upd f r.toInt64⟩) (fun e9 g1 hp => by
    obtain ⟨hm, hi9⟩ := hp
    rcases List.mem_cons.mp hm with hm | hm
    · obtain ⟨e1, e2⟩ := Prod.mk.inj hm
      exact Or.inl ⟨e1, by rw [e2]; rfl, hi9, fun h9 => absurd (h9.symm.trans e2) (by decide)⟩
    · obtain ⟨e1, e2⟩ := Prod.mk.inj (List.mem_singleton.mp hm)
      exact Or.inr ⟨e1, by rw [e2]; rfl, hi9, fun h9 => absurd (h9.symm.trans e2) (by decide)⟩)
  refine va_calli (vx_runSW (As := [.ref (a 0), .int (xs (nI i + 1).toNatClampNeg), .int (xs (nI i + 2).toNatClampNeg), .ref o]) (rest := []) ⟨hx, hb, hml, hown, hts⟩ hM9 (lz_cwSW 4 hts (zz_good wq_13) rfl rfl rfl wq_14 wq_15 wq_3 (by decide +kernel) ⟨Nat.le_of_ble_eq_true rfl, Nat.le_of_ble_eq_true rfl⟩) ⟨lz_blind, lz_pre (lz_l hP) hK (lz_dl hD) hN hN3 hS hA hU⟩ rfl rfl hl.1 rfl (lv_room (Nat.le_of_ble_eq_true rfl)) d_law_202 ⟨show cells + 1 ≤ 601024 by omega, show slots + 6 * 1 ≤ 7293034 by omega⟩) hS (fun q _ h => hF q h) hF (fun r1 u1 t1 H1 locs1 ht hvm hp hB hz1 hk1 hS1 => ?_)
  obtain ⟨hP1, hK1, hD1⟩ := hB
  rw [ht] at hP1
  obtain ⟨hP, hD⟩ := lz_join hP hD hk1 hF hP1 hD1
  obtain ⟨g1, f1⟩ := u1
  obtain ⟨hr1, hC1, hv1⟩ := hp
  subst hr1
  have hS := hS1
  refine lv_istore (lv' := [(5, .int (nI k)), (0, .ref b0), (1, .ref (a 0)), (2, .ref (b 0)), (3, .ref o), (4, .int (nI i))]) hx hb d_law_205 hl (by decide) rfl (fun ls hl => ?_)
  refine lv_aload_n hx hb d_law_207 rfl (lv_at hl 3 rfl) ?_
  refine lv_aload_n hx hb d_law_208 rfl (lv_at hl 1 rfl) ?_
  refine lv_iload hx hb d_law_209 (lv_at hl 5 rfl) ?_
  refine lv_iconst (v := 1) hx hb d_law_211 (by decide) ?_
  refine lv_iadd hx hb d_law_212 ?_
  refine va_sld hx hb hX hbl hbA hS (lz_in (j := 1) hi hL (by decide)) d_law_213 ?_
  refine lv_aload_n hx hb d_law_214 rfl (lv_at hl 1 rfl) ?_
  refine lv_iload hx hb d_law_215 (lv_at hl 5 rfl) ?_
  refine lv_iconst (v := 2) hx hb d_law_217 (by decide) ?_
  refine lv_iadd hx hb d_law_218 ?_
  refine va_sld hx hb hX hbl hbA hS (lz_in (j := 2) hi hL (by decide)) d_law_219 ?_
  have hF1 := zz_free (w := wM b cI cZ) (lz_dr hD) hS hA
  refine va_calli (va_runV (As := [.int (xs (nI i + 1).toNatClampNeg), .int (xs (nI i + 2).toNatClampNeg)]) (rest := []) ⟨hx, hb, hml, hown, hts⟩ (mc_mo_raise l dC dI b cI cZ _ (xs (nI i + 1).toNatClampNeg) (xs (nI i + 2).toNatClampNeg) h _ hw2) (zz_cwV 2 hts (zz_good wq_16) rfl rfl rfl wq_17 wq_18 wq_19 wq_8 (by decide +kernel) ⟨Nat.le_of_ble_eq_true rfl, Nat.le_of_ble_eq_true rfl⟩) ⟨zz_blind, va_recv hK2 (lz_r hP) rfl (wM_0 b cI cZ h), zz_pre (w := wM b cI cZ) (lz_r hP) hK2 (lz_dr hD) hN⟩ rfl rfl hl.1 rfl (lv_room (Nat.le_of_ble_eq_true rfl)) d_law_220 ⟨show cells + 1 ≤ 601024 by omega, show slots + 6 * 1 ≤ 7293034 by omega⟩) hS (fun q _ h => hF1 q h) hF1 (fun r2 h1 t1 H1 locs1 ht hvm hp1 hB hz1 hk1 hS1 => ?_)
  obtain ⟨hP1, hK1, hD1⟩ := hB
  rw [ht] at hP1
  obtain ⟨hP, hD⟩ := lz_joinR hP hD hk1 hF1 hP1 hD1
  have hS := hS1
  obtain ⟨hth, hv2, hM1⟩ := hp1
  refine lv_istore (lv' := [(6, .int r2), (5, .int (nI k)), (0, .ref b0), (1, .ref (a 0)), (2, .ref (b 0)), (3, .ref o), (4, .int (nI i))]) hx hb d_law_223 hl (by decide) rfl (fun ls hl => ?_)
  refine lv_aload_n hx hb d_law_225 rfl (lv_at hl 4 rfl) ?_
  have hF2 := zz_free (w := wM b cI cZ) (lz_dr hD) hS hA
  refine va_calli (va_runV (As := []) (rest := []) ⟨hx, hb, hml, hown, hts⟩ (mc_mo_thrown l dC dI b cI cZ _  h1 (fun r3 h3 => r3 = h1 0 0 ∧ h3 = h1) ⟨rfl, rfl⟩) (zz_cwV 0 hts (zz_good wq_9) rfl rfl rfl wq_10 wq_11 wq_12 wq_8 (by decide +kernel) ⟨Nat.le_of_ble_eq_true rfl, Nat.le_of_ble_eq_true rfl⟩) ⟨zz_blind, va_recv hK2 (lz_r hP) rfl (wM_0 b cI cZ h1), zz_pre (w := wM b cI cZ) (lz_r hP) hK2 (lz_dr hD) hN⟩ rfl rfl hl.1 rfl (lv_room (Nat.le_of_ble_eq_true rfl)) d_law_226 ⟨show cells + 1 + 0 ≤ 601024 by omega, show slots + 6 * 1 + 0 ≤ 7293034 by omega⟩) hS (fun q _ h => hF2 q h) hF2 (fun r3 h2 t1 H2 locs2 ht hvm hp2 hB hz1 hk1 hS1 => ?_)
  obtain ⟨hP1, hK1, hD1⟩ := hB
  rw [ht] at hP1
  obtain ⟨hP, hD⟩ := lz_joinR hP hD hk1 hF2 hP1 hD1
  have hS := hS1
  obtain ⟨hr3, hh3⟩ := hp2
  rw [hh3] at hP hD
  refine lv_iload hx hb d_law_229 (lv_at hl 1 rfl) ?_
  refine lv_icmp_eq (tgt := 236) hx hb d_law_231 (by decide) (fun hc => ?_) (fun hc => absurd (hr3.trans hth) hc)
  refine lv_iload hx hb d_law_236 (lv_at hl 1 rfl) ?_
  refine lv_if_ne (tgt := 253) hx hb d_law_238 (by decide) (fun hc => ?_) (fun hc => ?_)
  · refine lv_goto (tgt := 907) hx hb d_law_253 (by decide) ?_
    refine W.widen (k := cells + 2) (n := slots + 12) (by omega) (by omega) ?_
    exact K _ _ _ _ _ _ ⟨⟨n', X', Y', Z', t', hC1, hM1⟩, hP, hD, hS, lv_sub hl [2, 3, 4, 5, 6] rfl⟩
  · have hk0 := lz_nI0 hk2 hc
    refine lv_aload_n hx hb d_law_241 rfl (lv_at hl 5 rfl) ?_
    refine lv_iconst (v := 0) hx hb d_law_242 (by decide) ?_
    refine va_lald hx hb hK hP 18 2 rfl rfl (i := 0) (show ¬ ((0 : Int32) < 0 ∨ 1 ≤ (0 : Int32).toNatClampNeg) by decide) d_law_243 ?_
    refine lv_iload hx hb d_law_244 (lv_at hl 0 rfl) ?_
    refine lv_i2l (v := r2.toInt64) hx hb d_law_246 rfl ?_
    refine W.lcmp hx hb d_law_247 ?_
    refine lv_if_eq (tgt := 253) hx hb d_law_248 (by decide) (fun hc => ?_) (fun hc => absurd (show lg_cmp (f1 0) r2.toInt64 = 0 by rw [show f1 0 = r.toInt64 from hv1 hk0, hv2 hk0]; exact lz_cmp _) hc)
    refine lv_goto (tgt := 907) hx hb d_law_253 (by decide) ?_
    refine W.widen (k := cells + 2) (n := slots + 12) (by omega) (by omega) ?_
    exact K _ _ _ _ _ _ ⟨⟨n', X', Y', Z', t', hC1, hM1⟩, hP, hD, hS, lv_sub hl [2, 3, 4, 5, 6] rfl⟩
set_option maxHeartbeats 4000000 in
set_option maxRecDepth 100000 in
theorem cs_triangles (hx9 : lz_X p l s m c b0 L xs dC dI cI cZ cJ) (hi : i + 4 ≤ L) (hL : L ≤ 2048) (hY : lz_Y s dC dI a b o cI cZ cJ b0 i g h f H locs ls) (hce : cells + 2 ≤ 601024) (hsl : slots + 12 ≤ 7293034) (K : ∀ g h f H locs ls, lz_Y s dC dI a b o cI cZ cJ b0 i g h f H locs ls → W p l e room_1 s m #[Value.ref b0] below meth c H locs (cells + 2) (slots + 12) Q (F0 m 907 ls [])) : W p l e room_1 s m #[Value.ref b0] below meth c H locs cells slots Q (F0 m 256 ls []) := by
  obtain ⟨hx, hb, hml, hown, hts, hX, hbl, hK, hN, hN3, hU, hlt⟩ := hx9
  obtain ⟨⟨n, X, Y, Z, t, hC, hM⟩, hP, hD, hS, hl⟩ := hY
  have hA : ∀ q, s.heap.size ≤ q → lz_A s q := fun _ h => h
  have hbA : ¬ lz_A s b0 := Nat.not_le.mpr hbl
  have hK2 : va_K (dC, dI) zzCl [(cI, .int), (cZ, .boolean)] s := hK.sub [0, 1] rfl
  obtain ⟨r, hw1, hw2⟩ := op_triangles hC hM
  refine lv_aload_n hx hb d_law_256 rfl (lv_at hl 1 rfl) ?_
  have hP : va_P (dC, dI) zzCl (wC a cI cZ g ++ ([(o, .inl (cJ, 1, .inr (.inl f)))] ++ wM b cI cZ h)) H := by rw [← List.append_assoc]; exact hP
  have hD : va_D (lz_A s) (wC a cI cZ g ++ ([(o, .inl (cJ, 1, .inr (.inl f)))] ++ wM b cI cZ h)) := by rw [← List.append_assoc]; exact hD
  have hF := zz_free (w := wC a cI cZ) (lz_dl hD) hS hA
  refine va_calli (va_runV (As := []) (rest := []) ⟨hx, hb, hml, hown, hts⟩ (mc_sc_triangles l dC dI a cI cZ _ g _ hw1) (zz_cwV 0 hts (zz_good wq_20) rfl rfl rfl wq_21 wq_22 wq_23 wq_24 (by decide +kernel) ⟨Nat.le_of_ble_eq_true rfl, Nat.le_of_ble_eq_true rfl⟩) ⟨zz_blind, va_recv hK2 (lz_l hP) rfl (wC_0 a cI cZ g), zz_pre (w := wC a cI cZ) (lz_l hP) hK2 (lz_dl hD) hN⟩ rfl rfl hl.1 rfl (lv_room (Nat.le_of_ble_eq_true rfl)) d_law_257 ⟨show cells + 0 ≤ 601024 by omega, show slots + 0 ≤ 7293034 by omega⟩) hS (fun q _ h => hF q h) hF (fun r1 g1 t1 H1 locs1 ht hvm hp hB hz1 hk1 hS1 => ?_)
  obtain ⟨hP1, hK1, hD1⟩ := hB
  rw [ht] at hP1
  obtain ⟨hP, hD⟩ := lz_join hP hD hk1 hF hP1 hD1
  obtain ⟨hr1, hC1⟩ := hp
  have hS := hS1
  have hP : va_P (dC, dI) zzCl (lz_w a o cI cZ cJ (g1, f) ++ wM b cI cZ h) H1 := by rw [← List.append_assoc] at hP; exact hP
  have hD : va_D (lz_A s) (lz_w a o cI cZ cJ (g1, f) ++ wM b cI cZ h) := by rw [← List.append_assoc] at hD; exact hD
  refine lv_aload_n hx hb d_law_260 rfl (lv_at hl 2 rfl) ?_
  have hF1 := zz_free (w := wM b cI cZ) (lz_dr hD) hS hA
  refine va_calli (va_runV (As := []) (rest := [.int r1]) ⟨hx, hb, hml, hown, hts⟩ (mc_mo_triangles l dC dI b cI cZ _ h _ hw2) (zz_cwV 0 hts (zz_good wq_25) rfl rfl rfl wq_26 wq_27 wq_28 wq_8 (by decide +kernel) ⟨Nat.le_of_ble_eq_true rfl, Nat.le_of_ble_eq_true rfl⟩) ⟨zz_blind, va_recv hK2 (lz_r hP) rfl (wM_0 b cI cZ h), zz_pre (w := wM b cI cZ) (lz_r hP) hK2 (lz_dr hD) hN⟩ rfl rfl hl.1 rfl (lv_room (Nat.le_of_ble_eq_true rfl)) d_law_261 ⟨show cells + 0 + 0 ≤ 601024 by omega, show slots + 0 + 0 ≤ 7293034 by omega⟩) hS (fun q _ h => hF1 q h) hF1 (fun r2 h1 t1 H2 locs2 ht hvm hp hB hz1 hk1 hS1 => ?_)
  obtain ⟨hP1, hK1, hD1⟩ := hB
  rw [ht] at hP1
  obtain ⟨hP, hD⟩ := lz_joinR hP hD hk1 hF1 hP1 hD1
  obtain ⟨hr2, hM1⟩ := hp
  have hS := hS1
  refine lv_icmp_eq (tgt := 907) hx hb d_law_264 (by decide) (fun hc => ?_) (fun hc => absurd (hr1.trans hr2.symm) hc)
  refine W.widen (k := cells + 2) (n := slots + 12) (by omega) (by omega) ?_
  exact K _ _ _ _ _ _ ⟨⟨n, X, Y, Z, t, hC1, hM1⟩, hP, hD, hS, hl⟩
set_option maxHeartbeats 4000000 in
set_option maxRecDepth 100000 in
theorem cs_corner (hx9 : lz_X p l s m c b0 L xs dC dI cI cZ cJ) (hi : i + 4 ≤ L) (hL : L ≤ 2048) (hY : lz_Y s dC dI a b o cI cZ cJ b0 i g h f H locs ls) (hce : cells + 2 ≤ 601024) (hsl : slots + 12 ≤ 7293034) (K : ∀ g h f H locs ls, lz_Y s dC dI a b o cI cZ cJ b0 i g h f H locs ls → W p l e room_1 s m #[Value.ref b0] below meth c H locs (cells + 2) (slots + 12) Q (F0 m 907 ls [])) : W p l e room_1 s m #[Value.ref b0] below meth c H locs cells slots Q (F0 m 269 ls []) := by
  obtain ⟨hx, hb, hml, hown, hts, hX, hbl, hK, hN, hN3, hU, hlt⟩ := hx9
  obtain ⟨⟨n, X, Y, Z, t, hC, hM⟩, hP, hD, hS, hl⟩ := hY
  have hA : ∀ q, s.heap.size ≤ q → lz_A s q := fun _ h => h
  have hbA : ¬ lz_A s b0 := Nat.not_le.mpr hbl
  have hK2 : va_K (dC, dI) zzCl [(cI, .int), (cZ, .boolean)] s := hK.sub [0, 1] rfl
  obtain ⟨k, r, n', X', Y', Z', t', hk2, hw1, hw2⟩ := oq_corner (xs (nI i + 1).toNatClampNeg) (xs (nI i + 2).toNatClampNeg) hC hM
  refine lv_aload_n hx hb d_law_269 rfl (lv_at hl 1 rfl) ?_
  refine lv_aload_n hx hb d_law_270 rfl (lv_at hl 0 rfl) ?_
  refine lv_iload hx hb d_law_271 (lv_at hl 4 rfl) ?_
  refine lv_iconst (v := 1) hx hb d_law_273 (by decide) ?_
  refine lv_iadd hx hb d_law_274 ?_
  refine va_sld hx hb hX hbl hbA hS (lz_in (j := 1) hi hL (by decide)) d_law_275 ?_
  refine lv_aload_n hx hb d_law_276 rfl (lv_at hl 0 rfl) ?_
  refine lv_iload hx hb d_law_277 (lv_at hl 4 rfl) ?_
  refine lv_iconst (v := 2) hx hb d_law_279 (by decide) ?_
  refine lv_iadd hx hb d_law_280 ?_
  refine va_sld hx hb hX hbl hbA hS (lz_in (j := 2) hi hL (by decide)) d_law_281 ?_
  refine lv_aload_n hx hb d_law_282 rfl (lv_at hl 3 rfl) ?_
  have hF := lz_free (lz_dl hD) hS hA
  have hM9 := lz_corner l hlt dC dI a o cI cZ cJ H.size (xs (nI i + 1).toNatClampNeg) (xs (nI i + 2).toNatClampNeg) g f (fun v u => v = nI k ∧ iC u.1 n' X' Y' Z' t' ∧ (k = 0 → u.2 0 = r.toInt64)) _ _ hw1 (fun r1 g1 hp => ⟨by rw [hp.1]; rfl, hp.2.2, fun _ => by rw [hp.2.1]; exact lz_upd f r.toInt64⟩) (fun e9 g1 hp => by
    obtain ⟨hm, hi9⟩ := hp
    obtain ⟨e1, e2⟩ := Prod.mk.inj (List.mem_singleton.mp hm)
    exact ⟨e1, by rw [e2]; rfl, hi9, fun h9 => absurd (h9.symm.trans e2) (by decide)⟩)
  refine va_calli (vx_runSW (As := [.ref (a 0), .int (xs (nI i + 1).toNatClampNeg), .int (xs (nI i + 2).toNatClampNeg), .ref o]) (rest := []) ⟨hx, hb, hml, hown, hts⟩ hM9 (lz_cwSW 4 hts (zz_good wq_29) rfl rfl rfl wq_30 wq_31 wq_3 (by decide +kernel) ⟨Nat.le_of_ble_eq_true rfl, Nat.le_of_ble_eq_true rfl⟩) ⟨lz_blind, lz_pre (lz_l hP) hK (lz_dl hD) hN hN3 hS hA hU⟩ rfl rfl hl.1 rfl (lv_room (Nat.le_of_ble_eq_true rfl)) d_law_283 ⟨show cells + 1 ≤ 601024 by omega, show slots + 6 * 1 ≤ 7293034 by omega⟩) hS (fun q _ h => hF q h) hF (fun r1 u1 t1 H1 locs1 ht hvm hp hB hz1 hk1 hS1 => ?_)
  obtain ⟨hP1, hK1, hD1⟩ := hB
  rw [ht] at hP1
  obtain ⟨hP, hD⟩ := lz_join hP hD hk1 hF hP1 hD1
  obtain ⟨g1, f1⟩ := u1
  obtain ⟨hr1, hC1, hv1⟩ := hp
  subst hr1
  have hS := hS1
  refine lv_istore (lv' := [(5, .int (nI k)), (0, .ref b0), (1, .ref (a 0)), (2, .ref (b 0)), (3, .ref o), (4, .int (nI i))]) hx hb d_law_286 hl (by decide) rfl (fun ls hl => ?_)
  refine lv_aload_n hx hb d_law_288 rfl (lv_at hl 3 rfl) ?_
  refine lv_aload_n hx hb d_law_289 rfl (lv_at hl 1 rfl) ?_
  refine lv_iload hx hb d_law_290 (lv_at hl 5 rfl) ?_
  refine lv_iconst (v := 1) hx hb d_law_292 (by decide) ?_
  refine lv_iadd hx hb d_law_293 ?_
  refine va_sld hx hb hX hbl hbA hS (lz_in (j := 1) hi hL (by decide)) d_law_294 ?_
  refine lv_aload_n hx hb d_law_295 rfl (lv_at hl 1 rfl) ?_
  refine lv_iload hx hb d_law_296 (lv_at hl 5 rfl) ?_
  refine lv_iconst (v := 2) hx hb d_law_298 (by decide) ?_
  refine lv_iadd hx hb d_law_299 ?_
  refine va_sld hx hb hX hbl hbA hS (lz_in (j := 2) hi hL (by decide)) d_law_300 ?_
  have hF1 := zz_free (w := wM b cI cZ) (lz_dr hD) hS hA
  refine va_calli (va_runV (As := [.int (xs (nI i + 1).toNatClampNeg), .int (xs (nI i + 2).toNatClampNeg)]) (rest := []) ⟨hx, hb, hml, hown, hts⟩ (mc_mo_corner l dC dI b cI cZ _ (xs (nI i + 1).toNatClampNeg) (xs (nI i + 2).toNatClampNeg) h _ hw2) (zz_cwV 2 hts (zz_good wq_32) rfl rfl rfl wq_33 wq_34 wq_35 wq_8 (by decide +kernel) ⟨Nat.le_of_ble_eq_true rfl, Nat.le_of_ble_eq_true rfl⟩) ⟨zz_blind, va_recv hK2 (lz_r hP) rfl (wM_0 b cI cZ h), zz_pre (w := wM b cI cZ) (lz_r hP) hK2 (lz_dr hD) hN⟩ rfl rfl hl.1 rfl (lv_room (Nat.le_of_ble_eq_true rfl)) d_law_301 ⟨show cells + 1 ≤ 601024 by omega, show slots + 6 * 1 ≤ 7293034 by omega⟩) hS (fun q _ h => hF1 q h) hF1 (fun r2 h1 t1 H1 locs1 ht hvm hp1 hB hz1 hk1 hS1 => ?_)
  obtain ⟨hP1, hK1, hD1⟩ := hB
  rw [ht] at hP1
  obtain ⟨hP, hD⟩ := lz_joinR hP hD hk1 hF1 hP1 hD1
  have hS := hS1
  obtain ⟨hth, hv2, hM1⟩ := hp1
  refine lv_istore (lv' := [(6, .int r2), (5, .int (nI k)), (0, .ref b0), (1, .ref (a 0)), (2, .ref (b 0)), (3, .ref o), (4, .int (nI i))]) hx hb d_law_304 hl (by decide) rfl (fun ls hl => ?_)
  refine lv_aload_n hx hb d_law_306 rfl (lv_at hl 4 rfl) ?_
  have hF2 := zz_free (w := wM b cI cZ) (lz_dr hD) hS hA
  refine va_calli (va_runV (As := []) (rest := []) ⟨hx, hb, hml, hown, hts⟩ (mc_mo_thrown l dC dI b cI cZ _  h1 (fun r3 h3 => r3 = h1 0 0 ∧ h3 = h1) ⟨rfl, rfl⟩) (zz_cwV 0 hts (zz_good wq_9) rfl rfl rfl wq_10 wq_11 wq_12 wq_8 (by decide +kernel) ⟨Nat.le_of_ble_eq_true rfl, Nat.le_of_ble_eq_true rfl⟩) ⟨zz_blind, va_recv hK2 (lz_r hP) rfl (wM_0 b cI cZ h1), zz_pre (w := wM b cI cZ) (lz_r hP) hK2 (lz_dr hD) hN⟩ rfl rfl hl.1 rfl (lv_room (Nat.le_of_ble_eq_true rfl)) d_law_307 ⟨show cells + 1 + 0 ≤ 601024 by omega, show slots + 6 * 1 + 0 ≤ 7293034 by omega⟩) hS (fun q _ h => hF2 q h) hF2 (fun r3 h2 t1 H2 locs2 ht hvm hp2 hB hz1 hk1 hS1 => ?_)
  obtain ⟨hP1, hK1, hD1⟩ := hB
  rw [ht] at hP1
  obtain ⟨hP, hD⟩ := lz_joinR hP hD hk1 hF2 hP1 hD1
  have hS := hS1
  obtain ⟨hr3, hh3⟩ := hp2
  rw [hh3] at hP hD
  refine lv_iload hx hb d_law_310 (lv_at hl 1 rfl) ?_
  refine lv_icmp_eq (tgt := 317) hx hb d_law_312 (by decide) (fun hc => ?_) (fun hc => absurd (hr3.trans hth) hc)
  refine lv_iload hx hb d_law_317 (lv_at hl 1 rfl) ?_
  refine lv_if_ne (tgt := 334) hx hb d_law_319 (by decide) (fun hc => ?_) (fun hc => ?_)
  · refine lv_goto (tgt := 907) hx hb d_law_334 (by decide) ?_
    refine W.widen (k := cells + 2) (n := slots + 12) (by omega) (by omega) ?_
    exact K _ _ _ _ _ _ ⟨⟨n', X', Y', Z', t', hC1, hM1⟩, hP, hD, hS, lv_sub hl [2, 3, 4, 5, 6] rfl⟩
  · have hk0 := lz_nI0 hk2 hc
    refine lv_aload_n hx hb d_law_322 rfl (lv_at hl 5 rfl) ?_
    refine lv_iconst (v := 0) hx hb d_law_323 (by decide) ?_
    refine va_lald hx hb hK hP 18 2 rfl rfl (i := 0) (show ¬ ((0 : Int32) < 0 ∨ 1 ≤ (0 : Int32).toNatClampNeg) by decide) d_law_324 ?_
    refine lv_iload hx hb d_law_325 (lv_at hl 0 rfl) ?_
    refine lv_i2l (v := r2.toInt64) hx hb d_law_327 rfl ?_
    refine W.lcmp hx hb d_law_328 ?_
    refine lv_if_eq (tgt := 334) hx hb d_law_329 (by decide) (fun hc => ?_) (fun hc => absurd (show lg_cmp (f1 0) r2.toInt64 = 0 by rw [show f1 0 = r.toInt64 from hv1 hk0, hv2 hk0]; exact lz_cmp _) hc)
    refine lv_goto (tgt := 907) hx hb d_law_334 (by decide) ?_
    refine W.widen (k := cells + 2) (n := slots + 12) (by omega) (by omega) ?_
    exact K _ _ _ _ _ _ ⟨⟨n', X', Y', Z', t', hC1, hM1⟩, hP, hD, hS, lv_sub hl [2, 3, 4, 5, 6] rfl⟩
set_option maxHeartbeats 4000000 in
set_option maxRecDepth 100000 in
theorem cs_edge (hx9 : lz_X p l s m c b0 L xs dC dI cI cZ cJ) (hi : i + 4 ≤ L) (hL : L ≤ 2048) (hY : lz_Y s dC dI a b o cI cZ cJ b0 i g h f H locs ls) (hce : cells + 2 ≤ 601024) (hsl : slots + 12 ≤ 7293034) (K : ∀ g h f H locs ls, lz_Y s dC dI a b o cI cZ cJ b0 i g h f H locs ls → W p l e room_1 s m #[Value.ref b0] below meth c H locs (cells + 2) (slots + 12) Q (F0 m 907 ls [])) : W p l e room_1 s m #[Value.ref b0] below meth c H locs cells slots Q (F0 m 337 ls []) := by
  obtain ⟨hx, hb, hml, hown, hts, hX, hbl, hK, hN, hN3, hU, hlt⟩ := hx9
  obtain ⟨⟨n, X, Y, Z, t, hC, hM⟩, hP, hD, hS, hl⟩ := hY
  have hA : ∀ q, s.heap.size ≤ q → lz_A s q := fun _ h => h
  have hbA : ¬ lz_A s b0 := Nat.not_le.mpr hbl
  have hK2 : va_K (dC, dI) zzCl [(cI, .int), (cZ, .boolean)] s := hK.sub [0, 1] rfl
  obtain ⟨k, r, n', X', Y', Z', t', hk2, hw1, hw2⟩ := oq_edge (xs (nI i + 1).toNatClampNeg) (xs (nI i + 2).toNatClampNeg) hC hM
  refine lv_aload_n hx hb d_law_337 rfl (lv_at hl 1 rfl) ?_
  refine lv_aload_n hx hb d_law_338 rfl (lv_at hl 0 rfl) ?_
  refine lv_iload hx hb d_law_339 (lv_at hl 4 rfl) ?_
  refine lv_iconst (v := 1) hx hb d_law_341 (by decide) ?_
  refine lv_iadd hx hb d_law_342 ?_
  refine va_sld hx hb hX hbl hbA hS (lz_in (j := 1) hi hL (by decide)) d_law_343 ?_
  refine lv_aload_n hx hb d_law_344 rfl (lv_at hl 0 rfl) ?_
  refine lv_iload hx hb d_law_345 (lv_at hl 4 rfl) ?_
  refine lv_iconst (v := 2) hx hb d_law_347 (by decide) ?_
  refine lv_iadd hx hb d_law_348 ?_
  refine va_sld hx hb hX hbl hbA hS (lz_in (j := 2) hi hL (by decide)) d_law_349 ?_
  refine lv_aload_n hx hb d_law_350 rfl (lv_at hl 3 rfl) ?_
  have hF := lz_free (lz_dl hD) hS hA
  have hM9 := lz_edge l hlt dC dI a o cI cZ cJ H.size (xs (nI i + 1).toNatClampNeg) (xs (nI i + 2).toNatClampNeg) g f (fun v u => v = nI k ∧ iC u.1 n' X' Y' Z' t' ∧ (k = 0 → u.2 0 = r.toInt64)) _ _ hw1 (fun r1 g1 hp => ⟨by rw [hp.1]; rfl, hp.2.2, fun _ => by rw [hp.2.1]; exact lz_upd f r.toInt64⟩) (fun e9 g1 hp => by
    obtain ⟨hm, hi9⟩ := hp
    obtain ⟨e1, e2⟩ := Prod.mk.inj (List.mem_singleton.mp hm)
    exact ⟨e1, by rw [e2]; rfl, hi9, fun h9 => absurd (h9.symm.trans e2) (by decide)⟩)
  refine va_calli (vx_runSW (As := [.ref (a 0), .int (xs (nI i + 1).toNatClampNeg), .int (xs (nI i + 2).toNatClampNeg), .ref o]) (rest := []) ⟨hx, hb, hml, hown, hts⟩ hM9 (lz_cwSW 4 hts (zz_good wq_36) rfl rfl rfl wq_37 wq_38 wq_3 (by decide +kernel) ⟨Nat.le_of_ble_eq_true rfl, Nat.le_of_ble_eq_true rfl⟩) ⟨lz_blind, lz_pre (lz_l hP) hK (lz_dl hD) hN hN3 hS hA hU⟩ rfl rfl hl.1 rfl (lv_room (Nat.le_of_ble_eq_true rfl)) d_law_351 ⟨show cells + 1 ≤ 601024 by omega, show slots + 6 * 1 ≤ 7293034 by omega⟩) hS (fun q _ h => hF q h) hF (fun r1 u1 t1 H1 locs1 ht hvm hp hB hz1 hk1 hS1 => ?_)
  obtain ⟨hP1, hK1, hD1⟩ := hB
  rw [ht] at hP1
  obtain ⟨hP, hD⟩ := lz_join hP hD hk1 hF hP1 hD1
  obtain ⟨g1, f1⟩ := u1
  obtain ⟨hr1, hC1, hv1⟩ := hp
  subst hr1
  have hS := hS1
  refine lv_istore (lv' := [(5, .int (nI k)), (0, .ref b0), (1, .ref (a 0)), (2, .ref (b 0)), (3, .ref o), (4, .int (nI i))]) hx hb d_law_354 hl (by decide) rfl (fun ls hl => ?_)
  refine lv_aload_n hx hb d_law_356 rfl (lv_at hl 3 rfl) ?_
  refine lv_aload_n hx hb d_law_357 rfl (lv_at hl 1 rfl) ?_
  refine lv_iload hx hb d_law_358 (lv_at hl 5 rfl) ?_
  refine lv_iconst (v := 1) hx hb d_law_360 (by decide) ?_
  refine lv_iadd hx hb d_law_361 ?_
  refine va_sld hx hb hX hbl hbA hS (lz_in (j := 1) hi hL (by decide)) d_law_362 ?_
  refine lv_aload_n hx hb d_law_363 rfl (lv_at hl 1 rfl) ?_
  refine lv_iload hx hb d_law_364 (lv_at hl 5 rfl) ?_
  refine lv_iconst (v := 2) hx hb d_law_366 (by decide) ?_
  refine lv_iadd hx hb d_law_367 ?_
  refine va_sld hx hb hX hbl hbA hS (lz_in (j := 2) hi hL (by decide)) d_law_368 ?_
  have hF1 := zz_free (w := wM b cI cZ) (lz_dr hD) hS hA
  refine va_calli (va_runV (As := [.int (xs (nI i + 1).toNatClampNeg), .int (xs (nI i + 2).toNatClampNeg)]) (rest := []) ⟨hx, hb, hml, hown, hts⟩ (mc_mo_edge l dC dI b cI cZ _ (xs (nI i + 1).toNatClampNeg) (xs (nI i + 2).toNatClampNeg) h _ hw2) (zz_cwV 2 hts (zz_good wq_39) rfl rfl rfl wq_40 wq_41 wq_42 wq_8 (by decide +kernel) ⟨Nat.le_of_ble_eq_true rfl, Nat.le_of_ble_eq_true rfl⟩) ⟨zz_blind, va_recv hK2 (lz_r hP) rfl (wM_0 b cI cZ h), zz_pre (w := wM b cI cZ) (lz_r hP) hK2 (lz_dr hD) hN⟩ rfl rfl hl.1 rfl (lv_room (Nat.le_of_ble_eq_true rfl)) d_law_369 ⟨show cells + 1 ≤ 601024 by omega, show slots + 6 * 1 ≤ 7293034 by omega⟩) hS (fun q _ h => hF1 q h) hF1 (fun r2 h1 t1 H1 locs1 ht hvm hp1 hB hz1 hk1 hS1 => ?_)
  obtain ⟨hP1, hK1, hD1⟩ := hB
  rw [ht] at hP1
  obtain ⟨hP, hD⟩ := lz_joinR hP hD hk1 hF1 hP1 hD1
  have hS := hS1
  obtain ⟨hth, hv2, hM1⟩ := hp1
  refine lv_istore (lv' := [(6, .int r2), (5, .int (nI k)), (0, .ref b0), (1, .ref (a 0)), (2, .ref (b 0)), (3, .ref o), (4, .int (nI i))]) hx hb d_law_372 hl (by decide) rfl (fun ls hl => ?_)
  refine lv_aload_n hx hb d_law_374 rfl (lv_at hl 4 rfl) ?_
  have hF2 := zz_free (w := wM b cI cZ) (lz_dr hD) hS hA
  refine va_calli (va_runV (As := []) (rest := []) ⟨hx, hb, hml, hown, hts⟩ (mc_mo_thrown l dC dI b cI cZ _  h1 (fun r3 h3 => r3 = h1 0 0 ∧ h3 = h1) ⟨rfl, rfl⟩) (zz_cwV 0 hts (zz_good wq_9) rfl rfl rfl wq_10 wq_11 wq_12 wq_8 (by decide +kernel) ⟨Nat.le_of_ble_eq_true rfl, Nat.le_of_ble_eq_true rfl⟩) ⟨zz_blind, va_recv hK2 (lz_r hP) rfl (wM_0 b cI cZ h1), zz_pre (w := wM b cI cZ) (lz_r hP) hK2 (lz_dr hD) hN⟩ rfl rfl hl.1 rfl (lv_room (Nat.le_of_ble_eq_true rfl)) d_law_375 ⟨show cells + 1 + 0 ≤ 601024 by omega, show slots + 6 * 1 + 0 ≤ 7293034 by omega⟩) hS (fun q _ h => hF2 q h) hF2 (fun r3 h2 t1 H2 locs2 ht hvm hp2 hB hz1 hk1 hS1 => ?_)
  obtain ⟨hP1, hK1, hD1⟩ := hB
  rw [ht] at hP1
  obtain ⟨hP, hD⟩ := lz_joinR hP hD hk1 hF2 hP1 hD1
  have hS := hS1
  obtain ⟨hr3, hh3⟩ := hp2
  rw [hh3] at hP hD
  refine lv_iload hx hb d_law_378 (lv_at hl 1 rfl) ?_
  refine lv_icmp_eq (tgt := 385) hx hb d_law_380 (by decide) (fun hc => ?_) (fun hc => absurd (hr3.trans hth) hc)
  refine lv_iload hx hb d_law_385 (lv_at hl 1 rfl) ?_
  refine lv_if_ne (tgt := 402) hx hb d_law_387 (by decide) (fun hc => ?_) (fun hc => ?_)
  · refine lv_goto (tgt := 907) hx hb d_law_402 (by decide) ?_
    refine W.widen (k := cells + 2) (n := slots + 12) (by omega) (by omega) ?_
    exact K _ _ _ _ _ _ ⟨⟨n', X', Y', Z', t', hC1, hM1⟩, hP, hD, hS, lv_sub hl [2, 3, 4, 5, 6] rfl⟩
  · have hk0 := lz_nI0 hk2 hc
    refine lv_aload_n hx hb d_law_390 rfl (lv_at hl 5 rfl) ?_
    refine lv_iconst (v := 0) hx hb d_law_391 (by decide) ?_
    refine va_lald hx hb hK hP 18 2 rfl rfl (i := 0) (show ¬ ((0 : Int32) < 0 ∨ 1 ≤ (0 : Int32).toNatClampNeg) by decide) d_law_392 ?_
    refine lv_iload hx hb d_law_393 (lv_at hl 0 rfl) ?_
    refine lv_i2l (v := r2.toInt64) hx hb d_law_395 rfl ?_
    refine W.lcmp hx hb d_law_396 ?_
    refine lv_if_eq (tgt := 402) hx hb d_law_397 (by decide) (fun hc => ?_) (fun hc => absurd (show lg_cmp (f1 0) r2.toInt64 = 0 by rw [show f1 0 = r.toInt64 from hv1 hk0, hv2 hk0]; exact lz_cmp _) hc)
    refine lv_goto (tgt := 907) hx hb d_law_402 (by decide) ?_
    refine W.widen (k := cells + 2) (n := slots + 12) (by omega) (by omega) ?_
    exact K _ _ _ _ _ _ ⟨⟨n', X', Y', Z', t', hC1, hM1⟩, hP, hD, hS, lv_sub hl [2, 3, 4, 5, 6] rfl⟩
set_option maxHeartbeats 4000000 in
set_option maxRecDepth 100000 in
theorem cs_at (hx9 : lz_X p l s m c b0 L xs dC dI cI cZ cJ) (hi : i + 4 ≤ L) (hL : L ≤ 2048) (hY : lz_Y s dC dI a b o cI cZ cJ b0 i g h f H locs ls) (hce : cells + 2 ≤ 601024) (hsl : slots + 12 ≤ 7293034) (K : ∀ g h f H locs ls, lz_Y s dC dI a b o cI cZ cJ b0 i g h f H locs ls → W p l e room_1 s m #[Value.ref b0] below meth c H locs (cells + 2) (slots + 12) Q (F0 m 907 ls [])) : W p l e room_1 s m #[Value.ref b0] below meth c H locs cells slots Q (F0 m 405 ls []) := by
  obtain ⟨hx, hb, hml, hown, hts, hX, hbl, hK, hN, hN3, hU, hlt⟩ := hx9
  obtain ⟨⟨n, X, Y, Z, t, hC, hM⟩, hP, hD, hS, hl⟩ := hY
  have hA : ∀ q, s.heap.size ≤ q → lz_A s q := fun _ h => h
  have hbA : ¬ lz_A s b0 := Nat.not_le.mpr hbl
  have hK2 : va_K (dC, dI) zzCl [(cI, .int), (cZ, .boolean)] s := hK.sub [0, 1] rfl
  obtain ⟨k, r, n', X', Y', Z', t', hk2, hw1, hw2⟩ := oq_at (xs (nI i + 1).toNatClampNeg) (xs (nI i + 2).toNatClampNeg) hC hM
  refine lv_aload_n hx hb d_law_405 rfl (lv_at hl 1 rfl) ?_
  refine lv_aload_n hx hb d_law_406 rfl (lv_at hl 0 rfl) ?_
  refine lv_iload hx hb d_law_407 (lv_at hl 4 rfl) ?_
  refine lv_iconst (v := 1) hx hb d_law_409 (by decide) ?_
  refine lv_iadd hx hb d_law_410 ?_
  refine va_sld hx hb hX hbl hbA hS (lz_in (j := 1) hi hL (by decide)) d_law_411 ?_
  refine lv_aload_n hx hb d_law_412 rfl (lv_at hl 0 rfl) ?_
  refine lv_iload hx hb d_law_413 (lv_at hl 4 rfl) ?_
  refine lv_iconst (v := 2) hx hb d_law_415 (by decide) ?_
  refine lv_iadd hx hb d_law_416 ?_
  refine va_sld hx hb hX hbl hbA hS (lz_in (j := 2) hi hL (by decide)) d_law_417 ?_
  refine lv_aload_n hx hb d_law_418 rfl (lv_at hl 3 rfl) ?_
  have hF := lz_free (lz_dl hD) hS hA
  have hM9 := lz_at l hlt dC dI a o cI cZ cJ H.size (xs (nI i + 1).toNatClampNeg) (xs (nI i + 2).toNatClampNeg) g f (fun v u => v = nI k ∧ iC u.1 n' X' Y' Z' t' ∧ (k = 0 → u.2 0 = r.toInt64)) _ _ hw1 (fun r1 g1 hp => ⟨by rw [hp.1]; rfl, hp.2.2, fun _ => by rw [hp.2.1]; exact lz_upd f r.toInt64⟩) (fun e9 g1 hp => by
    obtain ⟨hm, hi9⟩ := hp
    obtain ⟨e1, e2⟩ := Prod.mk.inj (List.mem_singleton.mp hm)
    exact ⟨e1, by rw [e2]; rfl, hi9, fun h9 => absurd (h9.symm.trans e2) (by decide)⟩)
  refine va_calli (vx_runSW (As := [.ref (a 0), .int (xs (nI i + 1).toNatClampNeg), .int (xs (nI i + 2).toNatClampNeg), .ref o]) (rest := []) ⟨hx, hb, hml, hown, hts⟩ hM9 (lz_cwSW 4 hts (zz_good wq_43) rfl rfl rfl wq_44 wq_45 wq_3 (by decide +kernel) ⟨Nat.le_of_ble_eq_true rfl, Nat.le_of_ble_eq_true rfl⟩) ⟨lz_blind, lz_pre (lz_l hP) hK (lz_dl hD) hN hN3 hS hA hU⟩ rfl rfl hl.1 rfl (lv_room (Nat.le_of_ble_eq_true rfl)) d_law_419 ⟨show cells + 1 ≤ 601024 by omega, show slots + 6 * 1 ≤ 7293034 by omega⟩) hS (fun q _ h => hF q h) hF (fun r1 u1 t1 H1 locs1 ht hvm hp hB hz1 hk1 hS1 => ?_)
  obtain ⟨hP1, hK1, hD1⟩ := hB
  rw [ht] at hP1
  obtain ⟨hP, hD⟩ := lz_join hP hD hk1 hF hP1 hD1
  obtain ⟨g1, f1⟩ := u1
  obtain ⟨hr1, hC1, hv1⟩ := hp
  subst hr1
  have hS := hS1
  refine lv_istore (lv' := [(5, .int (nI k)), (0, .ref b0), (1, .ref (a 0)), (2, .ref (b 0)), (3, .ref o), (4, .int (nI i))]) hx hb d_law_422 hl (by decide) rfl (fun ls hl => ?_)
  refine lv_aload_n hx hb d_law_424 rfl (lv_at hl 3 rfl) ?_
  refine lv_aload_n hx hb d_law_425 rfl (lv_at hl 1 rfl) ?_
  refine lv_iload hx hb d_law_426 (lv_at hl 5 rfl) ?_
  refine lv_iconst (v := 1) hx hb d_law_428 (by decide) ?_
  refine lv_iadd hx hb d_law_429 ?_
  refine va_sld hx hb hX hbl hbA hS (lz_in (j := 1) hi hL (by decide)) d_law_430 ?_
  refine lv_aload_n hx hb d_law_431 rfl (lv_at hl 1 rfl) ?_
  refine lv_iload hx hb d_law_432 (lv_at hl 5 rfl) ?_
  refine lv_iconst (v := 2) hx hb d_law_434 (by decide) ?_
  refine lv_iadd hx hb d_law_435 ?_
  refine va_sld hx hb hX hbl hbA hS (lz_in (j := 2) hi hL (by decide)) d_law_436 ?_
  have hF1 := zz_free (w := wM b cI cZ) (lz_dr hD) hS hA
  refine va_calli (va_runV (As := [.int (xs (nI i + 1).toNatClampNeg), .int (xs (nI i + 2).toNatClampNeg)]) (rest := []) ⟨hx, hb, hml, hown, hts⟩ (mc_mo_at l dC dI b cI cZ _ (xs (nI i + 1).toNatClampNeg) (xs (nI i + 2).toNatClampNeg) h _ hw2) (zz_cwV 2 hts (zz_good wq_46) rfl rfl rfl wq_47 wq_48 wq_49 wq_8 (by decide +kernel) ⟨Nat.le_of_ble_eq_true rfl, Nat.le_of_ble_eq_true rfl⟩) ⟨zz_blind, va_recv hK2 (lz_r hP) rfl (wM_0 b cI cZ h), zz_pre (w := wM b cI cZ) (lz_r hP) hK2 (lz_dr hD) hN⟩ rfl rfl hl.1 rfl (lv_room (Nat.le_of_ble_eq_true rfl)) d_law_437 ⟨show cells + 1 ≤ 601024 by omega, show slots + 6 * 1 ≤ 7293034 by omega⟩) hS (fun q _ h => hF1 q h) hF1 (fun r2 h1 t1 H1 locs1 ht hvm hp1 hB hz1 hk1 hS1 => ?_)
  obtain ⟨hP1, hK1, hD1⟩ := hB
  rw [ht] at hP1
  obtain ⟨hP, hD⟩ := lz_joinR hP hD hk1 hF1 hP1 hD1
  have hS := hS1
  obtain ⟨hth, hv2, hM1⟩ := hp1
  refine lv_istore (lv' := [(6, .int r2), (5, .int (nI k)), (0, .ref b0), (1, .ref (a 0)), (2, .ref (b 0)), (3, .ref o), (4, .int (nI i))]) hx hb d_law_440 hl (by decide) rfl (fun ls hl => ?_)
  refine lv_aload_n hx hb d_law_442 rfl (lv_at hl 4 rfl) ?_
  have hF2 := zz_free (w := wM b cI cZ) (lz_dr hD) hS hA
  refine va_calli (va_runV (As := []) (rest := []) ⟨hx, hb, hml, hown, hts⟩ (mc_mo_thrown l dC dI b cI cZ _  h1 (fun r3 h3 => r3 = h1 0 0 ∧ h3 = h1) ⟨rfl, rfl⟩) (zz_cwV 0 hts (zz_good wq_9) rfl rfl rfl wq_10 wq_11 wq_12 wq_8 (by decide +kernel) ⟨Nat.le_of_ble_eq_true rfl, Nat.le_of_ble_eq_true rfl⟩) ⟨zz_blind, va_recv hK2 (lz_r hP) rfl (wM_0 b cI cZ h1), zz_pre (w := wM b cI cZ) (lz_r hP) hK2 (lz_dr hD) hN⟩ rfl rfl hl.1 rfl (lv_room (Nat.le_of_ble_eq_true rfl)) d_law_443 ⟨show cells + 1 + 0 ≤ 601024 by omega, show slots + 6 * 1 + 0 ≤ 7293034 by omega⟩) hS (fun q _ h => hF2 q h) hF2 (fun r3 h2 t1 H2 locs2 ht hvm hp2 hB hz1 hk1 hS1 => ?_)
  obtain ⟨hP1, hK1, hD1⟩ := hB
  rw [ht] at hP1
  obtain ⟨hP, hD⟩ := lz_joinR hP hD hk1 hF2 hP1 hD1
  have hS := hS1
  obtain ⟨hr3, hh3⟩ := hp2
  rw [hh3] at hP hD
  refine lv_iload hx hb d_law_446 (lv_at hl 1 rfl) ?_
  refine lv_icmp_eq (tgt := 453) hx hb d_law_448 (by decide) (fun hc => ?_) (fun hc => absurd (hr3.trans hth) hc)
  refine lv_iload hx hb d_law_453 (lv_at hl 1 rfl) ?_
  refine lv_if_ne (tgt := 470) hx hb d_law_455 (by decide) (fun hc => ?_) (fun hc => ?_)
  · refine lv_goto (tgt := 907) hx hb d_law_470 (by decide) ?_
    refine W.widen (k := cells + 2) (n := slots + 12) (by omega) (by omega) ?_
    exact K _ _ _ _ _ _ ⟨⟨n', X', Y', Z', t', hC1, hM1⟩, hP, hD, hS, lv_sub hl [2, 3, 4, 5, 6] rfl⟩
  · have hk0 := lz_nI0 hk2 hc
    refine lv_aload_n hx hb d_law_458 rfl (lv_at hl 5 rfl) ?_
    refine lv_iconst (v := 0) hx hb d_law_459 (by decide) ?_
    refine va_lald hx hb hK hP 18 2 rfl rfl (i := 0) (show ¬ ((0 : Int32) < 0 ∨ 1 ≤ (0 : Int32).toNatClampNeg) by decide) d_law_460 ?_
    refine lv_iload hx hb d_law_461 (lv_at hl 0 rfl) ?_
    refine lv_i2l (v := r2.toInt64) hx hb d_law_463 rfl ?_
    refine W.lcmp hx hb d_law_464 ?_
    refine lv_if_eq (tgt := 470) hx hb d_law_465 (by decide) (fun hc => ?_) (fun hc => absurd (show lg_cmp (f1 0) r2.toInt64 = 0 by rw [show f1 0 = r.toInt64 from hv1 hk0, hv2 hk0]; exact lz_cmp _) hc)
    refine lv_goto (tgt := 907) hx hb d_law_470 (by decide) ?_
    refine W.widen (k := cells + 2) (n := slots + 12) (by omega) (by omega) ?_
    exact K _ _ _ _ _ _ ⟨⟨n', X', Y', Z', t', hC1, hM1⟩, hP, hD, hS, lv_sub hl [2, 3, 4, 5, 6] rfl⟩
set_option maxHeartbeats 4000000 in
set_option maxRecDepth 100000 in
theorem cs_contours (hx9 : lz_X p l s m c b0 L xs dC dI cI cZ cJ) (hi : i + 4 ≤ L) (hL : L ≤ 2048) (hY : lz_Y s dC dI a b o cI cZ cJ b0 i g h f H locs ls) (hce : cells + 2 ≤ 601024) (hsl : slots + 12 ≤ 7293034) (K : ∀ g h f H locs ls, lz_Y s dC dI a b o cI cZ cJ b0 i g h f H locs ls → W p l e room_1 s m #[Value.ref b0] below meth c H locs (cells + 2) (slots + 12) Q (F0 m 907 ls [])) : W p l e room_1 s m #[Value.ref b0] below meth c H locs cells slots Q (F0 m 473 ls []) := by
  obtain ⟨hx, hb, hml, hown, hts, hX, hbl, hK, hN, hN3, hU, hlt⟩ := hx9
  obtain ⟨⟨n, X, Y, Z, t, hC, hM⟩, hP, hD, hS, hl⟩ := hY
  have hA : ∀ q, s.heap.size ≤ q → lz_A s q := fun _ h => h
  have hbA : ¬ lz_A s b0 := Nat.not_le.mpr hbl
  have hK2 : va_K (dC, dI) zzCl [(cI, .int), (cZ, .boolean)] s := hK.sub [0, 1] rfl
  obtain ⟨k, r, n', X', Y', Z', t', hk2, hw1, hw2⟩ := oq_contours (xs (nI i + 1).toNatClampNeg) hC hM
  refine lv_aload_n hx hb d_law_473 rfl (lv_at hl 1 rfl) ?_
  refine lv_aload_n hx hb d_law_474 rfl (lv_at hl 0 rfl) ?_
  refine lv_iload hx hb d_law_475 (lv_at hl 4 rfl) ?_
  refine lv_iconst (v := 1) hx hb d_law_477 (by decide) ?_
  refine lv_iadd hx hb d_law_478 ?_
  refine va_sld hx hb hX hbl hbA hS (lz_in (j := 1) hi hL (by decide)) d_law_479 ?_
  refine lv_aload_n hx hb d_law_480 rfl (lv_at hl 3 rfl) ?_
  have hF := lz_free (lz_dl hD) hS hA
  have hM9 := lz_contours l hlt dC dI a o cI cZ cJ H.size (xs (nI i + 1).toNatClampNeg) g f (fun v u => v = nI k ∧ iC u.1 n' X' Y' Z' t' ∧ (k = 0 → u.2 0 = r.toInt64)) _ _ hw1 (fun r1 g1 hp => ⟨by rw [hp.1]; rfl, hp.2.2, fun _ => by rw [hp.2.1]; exact lz_upd f r.toInt64⟩) (fun e9 g1 hp => by
    obtain ⟨hm, hi9⟩ := hp
    obtain ⟨e1, e2⟩ := Prod.mk.inj (List.mem_singleton.mp hm)
    exact ⟨e1, by rw [e2]; rfl, hi9, fun h9 => absurd (h9.symm.trans e2) (by decide)⟩)
  refine va_calli (vx_runSW (As := [.ref (a 0), .int (xs (nI i + 1).toNatClampNeg), .ref o]) (rest := []) ⟨hx, hb, hml, hown, hts⟩ hM9 (lz_cwSW 3 hts (zz_good wq_50) rfl rfl rfl wq_51 wq_52 wq_3 (by decide +kernel) ⟨Nat.le_of_ble_eq_true rfl, Nat.le_of_ble_eq_true rfl⟩) ⟨lz_blind, lz_pre (lz_l hP) hK (lz_dl hD) hN hN3 hS hA hU⟩ rfl rfl hl.1 rfl (lv_room (Nat.le_of_ble_eq_true rfl)) d_law_481 ⟨show cells + 1 ≤ 601024 by omega, show slots + 6 * 1 ≤ 7293034 by omega⟩) hS (fun q _ h => hF q h) hF (fun r1 u1 t1 H1 locs1 ht hvm hp hB hz1 hk1 hS1 => ?_)
  obtain ⟨hP1, hK1, hD1⟩ := hB
  rw [ht] at hP1
  obtain ⟨hP, hD⟩ := lz_join hP hD hk1 hF hP1 hD1
  obtain ⟨g1, f1⟩ := u1
  obtain ⟨hr1, hC1, hv1⟩ := hp
  subst hr1
  have hS := hS1
  refine lv_istore (lv' := [(5, .int (nI k)), (0, .ref b0), (1, .ref (a 0)), (2, .ref (b 0)), (3, .ref o), (4, .int (nI i))]) hx hb d_law_484 hl (by decide) rfl (fun ls hl => ?_)
  refine lv_aload_n hx hb d_law_486 rfl (lv_at hl 3 rfl) ?_
  refine lv_aload_n hx hb d_law_487 rfl (lv_at hl 1 rfl) ?_
  refine lv_iload hx hb d_law_488 (lv_at hl 5 rfl) ?_
  refine lv_iconst (v := 1) hx hb d_law_490 (by decide) ?_
  refine lv_iadd hx hb d_law_491 ?_
  refine va_sld hx hb hX hbl hbA hS (lz_in (j := 1) hi hL (by decide)) d_law_492 ?_
  have hF1 := zz_free (w := wM b cI cZ) (lz_dr hD) hS hA
  refine va_calli (va_runV (As := [.int (xs (nI i + 1).toNatClampNeg)]) (rest := []) ⟨hx, hb, hml, hown, hts⟩ (mc_mo_contours l dC dI b cI cZ _ (xs (nI i + 1).toNatClampNeg) h _ hw2) (zz_cwV 1 hts (zz_good wq_53) rfl rfl rfl wq_54 wq_55 wq_56 wq_8 (by decide +kernel) ⟨Nat.le_of_ble_eq_true rfl, Nat.le_of_ble_eq_true rfl⟩) ⟨zz_blind, va_recv hK2 (lz_r hP) rfl (wM_0 b cI cZ h), zz_pre (w := wM b cI cZ) (lz_r hP) hK2 (lz_dr hD) hN⟩ rfl rfl hl.1 rfl (lv_room (Nat.le_of_ble_eq_true rfl)) d_law_493 ⟨show cells + 1 ≤ 601024 by omega, show slots + 6 * 1 ≤ 7293034 by omega⟩) hS (fun q _ h => hF1 q h) hF1 (fun r2 h1 t1 H1 locs1 ht hvm hp1 hB hz1 hk1 hS1 => ?_)
  obtain ⟨hP1, hK1, hD1⟩ := hB
  rw [ht] at hP1
  obtain ⟨hP, hD⟩ := lz_joinR hP hD hk1 hF1 hP1 hD1
  have hS := hS1
  obtain ⟨hth, hv2, hM1⟩ := hp1
  refine lv_istore (lv' := [(6, .int r2), (5, .int (nI k)), (0, .ref b0), (1, .ref (a 0)), (2, .ref (b 0)), (3, .ref o), (4, .int (nI i))]) hx hb d_law_496 hl (by decide) rfl (fun ls hl => ?_)
  refine lv_aload_n hx hb d_law_498 rfl (lv_at hl 4 rfl) ?_
  have hF2 := zz_free (w := wM b cI cZ) (lz_dr hD) hS hA
  refine va_calli (va_runV (As := []) (rest := []) ⟨hx, hb, hml, hown, hts⟩ (mc_mo_thrown l dC dI b cI cZ _  h1 (fun r3 h3 => r3 = h1 0 0 ∧ h3 = h1) ⟨rfl, rfl⟩) (zz_cwV 0 hts (zz_good wq_9) rfl rfl rfl wq_10 wq_11 wq_12 wq_8 (by decide +kernel) ⟨Nat.le_of_ble_eq_true rfl, Nat.le_of_ble_eq_true rfl⟩) ⟨zz_blind, va_recv hK2 (lz_r hP) rfl (wM_0 b cI cZ h1), zz_pre (w := wM b cI cZ) (lz_r hP) hK2 (lz_dr hD) hN⟩ rfl rfl hl.1 rfl (lv_room (Nat.le_of_ble_eq_true rfl)) d_law_499 ⟨show cells + 1 + 0 ≤ 601024 by omega, show slots + 6 * 1 + 0 ≤ 7293034 by omega⟩) hS (fun q _ h => hF2 q h) hF2 (fun r3 h2 t1 H2 locs2 ht hvm hp2 hB hz1 hk1 hS1 => ?_)
  obtain ⟨hP1, hK1, hD1⟩ := hB
  rw [ht] at hP1
  obtain ⟨hP, hD⟩ := lz_joinR hP hD hk1 hF2 hP1 hD1
  have hS := hS1
  obtain ⟨hr3, hh3⟩ := hp2
  rw [hh3] at hP hD
  refine lv_iload hx hb d_law_502 (lv_at hl 1 rfl) ?_
  refine lv_icmp_eq (tgt := 509) hx hb d_law_504 (by decide) (fun hc => ?_) (fun hc => absurd (hr3.trans hth) hc)
  refine lv_iload hx hb d_law_509 (lv_at hl 1 rfl) ?_
  refine lv_if_ne (tgt := 526) hx hb d_law_511 (by decide) (fun hc => ?_) (fun hc => ?_)
  · refine lv_goto (tgt := 907) hx hb d_law_526 (by decide) ?_
    refine W.widen (k := cells + 2) (n := slots + 12) (by omega) (by omega) ?_
    exact K _ _ _ _ _ _ ⟨⟨n', X', Y', Z', t', hC1, hM1⟩, hP, hD, hS, lv_sub hl [2, 3, 4, 5, 6] rfl⟩
  · have hk0 := lz_nI0 hk2 hc
    refine lv_aload_n hx hb d_law_514 rfl (lv_at hl 5 rfl) ?_
    refine lv_iconst (v := 0) hx hb d_law_515 (by decide) ?_
    refine va_lald hx hb hK hP 18 2 rfl rfl (i := 0) (show ¬ ((0 : Int32) < 0 ∨ 1 ≤ (0 : Int32).toNatClampNeg) by decide) d_law_516 ?_
    refine lv_iload hx hb d_law_517 (lv_at hl 0 rfl) ?_
    refine lv_i2l (v := r2.toInt64) hx hb d_law_519 rfl ?_
    refine W.lcmp hx hb d_law_520 ?_
    refine lv_if_eq (tgt := 526) hx hb d_law_521 (by decide) (fun hc => ?_) (fun hc => absurd (show lg_cmp (f1 0) r2.toInt64 = 0 by rw [show f1 0 = r.toInt64 from hv1 hk0, hv2 hk0]; exact lz_cmp _) hc)
    refine lv_goto (tgt := 907) hx hb d_law_526 (by decide) ?_
    refine W.widen (k := cells + 2) (n := slots + 12) (by omega) (by omega) ?_
    exact K _ _ _ _ _ _ ⟨⟨n', X', Y', Z', t', hC1, hM1⟩, hP, hD, hS, lv_sub hl [2, 3, 4, 5, 6] rfl⟩
set_option maxHeartbeats 4000000 in
set_option maxRecDepth 100000 in
theorem cs_contour (hx9 : lz_X p l s m c b0 L xs dC dI cI cZ cJ) (hi : i + 4 ≤ L) (hL : L ≤ 2048) (hY : lz_Y s dC dI a b o cI cZ cJ b0 i g h f H locs ls) (hce : cells + 2 ≤ 601024) (hsl : slots + 12 ≤ 7293034) (K : ∀ g h f H locs ls, lz_Y s dC dI a b o cI cZ cJ b0 i g h f H locs ls → W p l e room_1 s m #[Value.ref b0] below meth c H locs (cells + 2) (slots + 12) Q (F0 m 907 ls [])) : W p l e room_1 s m #[Value.ref b0] below meth c H locs cells slots Q (F0 m 529 ls []) := by
  obtain ⟨hx, hb, hml, hown, hts, hX, hbl, hK, hN, hN3, hU, hlt⟩ := hx9
  obtain ⟨⟨n, X, Y, Z, t, hC, hM⟩, hP, hD, hS, hl⟩ := hY
  have hA : ∀ q, s.heap.size ≤ q → lz_A s q := fun _ h => h
  have hbA : ¬ lz_A s b0 := Nat.not_le.mpr hbl
  have hK2 : va_K (dC, dI) zzCl [(cI, .int), (cZ, .boolean)] s := hK.sub [0, 1] rfl
  obtain ⟨k, r, n', X', Y', Z', t', hk2, hw1, hw2⟩ := oq_contour (xs (nI i + 1).toNatClampNeg) (xs (nI i + 2).toNatClampNeg) hC hM
  refine lv_aload_n hx hb d_law_529 rfl (lv_at hl 1 rfl) ?_
  refine lv_aload_n hx hb d_law_530 rfl (lv_at hl 0 rfl) ?_
  refine lv_iload hx hb d_law_531 (lv_at hl 4 rfl) ?_
  refine lv_iconst (v := 1) hx hb d_law_533 (by decide) ?_
  refine lv_iadd hx hb d_law_534 ?_
  refine va_sld hx hb hX hbl hbA hS (lz_in (j := 1) hi hL (by decide)) d_law_535 ?_
  refine lv_aload_n hx hb d_law_536 rfl (lv_at hl 0 rfl) ?_
  refine lv_iload hx hb d_law_537 (lv_at hl 4 rfl) ?_
  refine lv_iconst (v := 2) hx hb d_law_539 (by decide) ?_
  refine lv_iadd hx hb d_law_540 ?_
  refine va_sld hx hb hX hbl hbA hS (lz_in (j := 2) hi hL (by decide)) d_law_541 ?_
  refine lv_aload_n hx hb d_law_542 rfl (lv_at hl 3 rfl) ?_
  have hF := lz_free (lz_dl hD) hS hA
  have hM9 := lz_contour l hlt dC dI a o cI cZ cJ H.size (xs (nI i + 1).toNatClampNeg) (xs (nI i + 2).toNatClampNeg) g f (fun v u => v = nI k ∧ iC u.1 n' X' Y' Z' t' ∧ (k = 0 → u.2 0 = r.toInt64)) _ _ hw1 (fun r1 g1 hp => ⟨by rw [hp.1]; rfl, hp.2.2, fun _ => by rw [hp.2.1]; exact lz_upd f r.toInt64⟩) (fun e9 g1 hp => by
    obtain ⟨hm, hi9⟩ := hp
    rcases List.mem_cons.mp hm with hm | hm
    · obtain ⟨e1, e2⟩ := Prod.mk.inj hm
      exact Or.inl ⟨e1, by rw [e2]; rfl, hi9, fun h9 => absurd (h9.symm.trans e2) (by decide)⟩
    · obtain ⟨e1, e2⟩ := Prod.mk.inj (List.mem_singleton.mp hm)
      exact Or.inr ⟨e1, by rw [e2]; rfl, hi9, fun h9 => absurd (h9.symm.trans e2) (by decide)⟩)
  refine va_calli (vx_runSW (As := [.ref (a 0), .int (xs (nI i + 1).toNatClampNeg), .int (xs (nI i + 2).toNatClampNeg), .ref o]) (rest := []) ⟨hx, hb, hml, hown, hts⟩ hM9 (lz_cwSW 4 hts (zz_good wq_57) rfl rfl rfl wq_58 wq_59 wq_3 (by decide +kernel) ⟨Nat.le_of_ble_eq_true rfl, Nat.le_of_ble_eq_true rfl⟩) ⟨lz_blind, lz_pre (lz_l hP) hK (lz_dl hD) hN hN3 hS hA hU⟩ rfl rfl hl.1 rfl (lv_room (Nat.le_of_ble_eq_true rfl)) d_law_543 ⟨show cells + 2 ≤ 601024 by omega, show slots + 6 * 2 ≤ 7293034 by omega⟩) hS (fun q _ h => hF q h) hF (fun r1 u1 t1 H1 locs1 ht hvm hp hB hz1 hk1 hS1 => ?_)
  obtain ⟨hP1, hK1, hD1⟩ := hB
  rw [ht] at hP1
  obtain ⟨hP, hD⟩ := lz_join hP hD hk1 hF hP1 hD1
  obtain ⟨g1, f1⟩ := u1
  obtain ⟨hr1, hC1, hv1⟩ := hp
  subst hr1
  have hS := hS1
  refine lv_istore (lv' := [(5, .int (nI k)), (0, .ref b0), (1, .ref (a 0)), (2, .ref (b 0)), (3, .ref o), (4, .int (nI i))]) hx hb d_law_546 hl (by decide) rfl (fun ls hl => ?_)
  refine lv_aload_n hx hb d_law_548 rfl (lv_at hl 3 rfl) ?_
  refine lv_aload_n hx hb d_law_549 rfl (lv_at hl 1 rfl) ?_
  refine lv_iload hx hb d_law_550 (lv_at hl 5 rfl) ?_
  refine lv_iconst (v := 1) hx hb d_law_552 (by decide) ?_
  refine lv_iadd hx hb d_law_553 ?_
  refine va_sld hx hb hX hbl hbA hS (lz_in (j := 1) hi hL (by decide)) d_law_554 ?_
  refine lv_aload_n hx hb d_law_555 rfl (lv_at hl 1 rfl) ?_
  refine lv_iload hx hb d_law_556 (lv_at hl 5 rfl) ?_
  refine lv_iconst (v := 2) hx hb d_law_558 (by decide) ?_
  refine lv_iadd hx hb d_law_559 ?_
  refine va_sld hx hb hX hbl hbA hS (lz_in (j := 2) hi hL (by decide)) d_law_560 ?_
  have hF1 := zz_free (w := wM b cI cZ) (lz_dr hD) hS hA
  refine va_calli (va_runV (As := [.int (xs (nI i + 1).toNatClampNeg), .int (xs (nI i + 2).toNatClampNeg)]) (rest := []) ⟨hx, hb, hml, hown, hts⟩ (mc_mo_contour l dC dI b cI cZ _ (xs (nI i + 1).toNatClampNeg) (xs (nI i + 2).toNatClampNeg) h _ hw2) (zz_cwV 2 hts (zz_good wq_60) rfl rfl rfl wq_61 wq_62 wq_63 wq_8 (by decide +kernel) ⟨Nat.le_of_ble_eq_true rfl, Nat.le_of_ble_eq_true rfl⟩) ⟨zz_blind, va_recv hK2 (lz_r hP) rfl (wM_0 b cI cZ h), zz_pre (w := wM b cI cZ) (lz_r hP) hK2 (lz_dr hD) hN⟩ rfl rfl hl.1 rfl (lv_room (Nat.le_of_ble_eq_true rfl)) d_law_561 ⟨show cells + 2 ≤ 601024 by omega, show slots + 6 * 2 ≤ 7293034 by omega⟩) hS (fun q _ h => hF1 q h) hF1 (fun r2 h1 t1 H1 locs1 ht hvm hp1 hB hz1 hk1 hS1 => ?_)
  obtain ⟨hP1, hK1, hD1⟩ := hB
  rw [ht] at hP1
  obtain ⟨hP, hD⟩ := lz_joinR hP hD hk1 hF1 hP1 hD1
  have hS := hS1
  obtain ⟨hth, hv2, hM1⟩ := hp1
  refine lv_istore (lv' := [(6, .int r2), (5, .int (nI k)), (0, .ref b0), (1, .ref (a 0)), (2, .ref (b 0)), (3, .ref o), (4, .int (nI i))]) hx hb d_law_564 hl (by decide) rfl (fun ls hl => ?_)
  refine lv_aload_n hx hb d_law_566 rfl (lv_at hl 4 rfl) ?_
  have hF2 := zz_free (w := wM b cI cZ) (lz_dr hD) hS hA
  refine va_calli (va_runV (As := []) (rest := []) ⟨hx, hb, hml, hown, hts⟩ (mc_mo_thrown l dC dI b cI cZ _  h1 (fun r3 h3 => r3 = h1 0 0 ∧ h3 = h1) ⟨rfl, rfl⟩) (zz_cwV 0 hts (zz_good wq_9) rfl rfl rfl wq_10 wq_11 wq_12 wq_8 (by decide +kernel) ⟨Nat.le_of_ble_eq_true rfl, Nat.le_of_ble_eq_true rfl⟩) ⟨zz_blind, va_recv hK2 (lz_r hP) rfl (wM_0 b cI cZ h1), zz_pre (w := wM b cI cZ) (lz_r hP) hK2 (lz_dr hD) hN⟩ rfl rfl hl.1 rfl (lv_room (Nat.le_of_ble_eq_true rfl)) d_law_567 ⟨show cells + 2 + 0 ≤ 601024 by omega, show slots + 6 * 2 + 0 ≤ 7293034 by omega⟩) hS (fun q _ h => hF2 q h) hF2 (fun r3 h2 t1 H2 locs2 ht hvm hp2 hB hz1 hk1 hS1 => ?_)
  obtain ⟨hP1, hK1, hD1⟩ := hB
  rw [ht] at hP1
  obtain ⟨hP, hD⟩ := lz_joinR hP hD hk1 hF2 hP1 hD1
  have hS := hS1
  obtain ⟨hr3, hh3⟩ := hp2
  rw [hh3] at hP hD
  refine lv_iload hx hb d_law_570 (lv_at hl 1 rfl) ?_
  refine lv_icmp_eq (tgt := 577) hx hb d_law_572 (by decide) (fun hc => ?_) (fun hc => absurd (hr3.trans hth) hc)
  refine lv_iload hx hb d_law_577 (lv_at hl 1 rfl) ?_
  refine lv_if_ne (tgt := 594) hx hb d_law_579 (by decide) (fun hc => ?_) (fun hc => ?_)
  · refine lv_goto (tgt := 907) hx hb d_law_594 (by decide) ?_
    refine W.widen (k := cells + 2) (n := slots + 12) (by omega) (by omega) ?_
    exact K _ _ _ _ _ _ ⟨⟨n', X', Y', Z', t', hC1, hM1⟩, hP, hD, hS, lv_sub hl [2, 3, 4, 5, 6] rfl⟩
  · have hk0 := lz_nI0 hk2 hc
    refine lv_aload_n hx hb d_law_582 rfl (lv_at hl 5 rfl) ?_
    refine lv_iconst (v := 0) hx hb d_law_583 (by decide) ?_
    refine va_lald hx hb hK hP 18 2 rfl rfl (i := 0) (show ¬ ((0 : Int32) < 0 ∨ 1 ≤ (0 : Int32).toNatClampNeg) by decide) d_law_584 ?_
    refine lv_iload hx hb d_law_585 (lv_at hl 0 rfl) ?_
    refine lv_i2l (v := r2.toInt64) hx hb d_law_587 rfl ?_
    refine W.lcmp hx hb d_law_588 ?_
    refine lv_if_eq (tgt := 594) hx hb d_law_589 (by decide) (fun hc => ?_) (fun hc => absurd (show lg_cmp (f1 0) r2.toInt64 = 0 by rw [show f1 0 = r.toInt64 from hv1 hk0, hv2 hk0]; exact lz_cmp _) hc)
    refine lv_goto (tgt := 907) hx hb d_law_594 (by decide) ?_
    refine W.widen (k := cells + 2) (n := slots + 12) (by omega) (by omega) ?_
    exact K _ _ _ _ _ _ ⟨⟨n', X', Y', Z', t', hC1, hM1⟩, hP, hD, hS, lv_sub hl [2, 3, 4, 5, 6] rfl⟩
set_option maxHeartbeats 4000000 in
set_option maxRecDepth 100000 in
theorem cs_crossing (hx9 : lz_X p l s m c b0 L xs dC dI cI cZ cJ) (hi : i + 4 ≤ L) (hL : L ≤ 2048) (hY : lz_Y s dC dI a b o cI cZ cJ b0 i g h f H locs ls) (hce : cells + 2 ≤ 601024) (hsl : slots + 12 ≤ 7293034) (K : ∀ g h f H locs ls, lz_Y s dC dI a b o cI cZ cJ b0 i g h f H locs ls → W p l e room_1 s m #[Value.ref b0] below meth c H locs (cells + 2) (slots + 12) Q (F0 m 907 ls [])) : W p l e room_1 s m #[Value.ref b0] below meth c H locs cells slots Q (F0 m 597 ls []) := by
  obtain ⟨hx, hb, hml, hown, hts, hX, hbl, hK, hN, hN3, hU, hlt⟩ := hx9
  obtain ⟨⟨n, X, Y, Z, t, hC, hM⟩, hP, hD, hS, hl⟩ := hY
  have hA : ∀ q, s.heap.size ≤ q → lz_A s q := fun _ h => h
  have hbA : ¬ lz_A s b0 := Nat.not_le.mpr hbl
  have hK2 : va_K (dC, dI) zzCl [(cI, .int), (cZ, .boolean)] s := hK.sub [0, 1] rfl
  obtain ⟨k, r, n', X', Y', Z', t', hk2, hw1, hw2⟩ := oq_crossing (xs (nI i + 1).toNatClampNeg) (xs (nI i + 2).toNatClampNeg) (xs (nI i + 3).toNatClampNeg) hC hM
  refine lv_aload_n hx hb d_law_597 rfl (lv_at hl 1 rfl) ?_
  refine lv_aload_n hx hb d_law_598 rfl (lv_at hl 0 rfl) ?_
  refine lv_iload hx hb d_law_599 (lv_at hl 4 rfl) ?_
  refine lv_iconst (v := 1) hx hb d_law_601 (by decide) ?_
  refine lv_iadd hx hb d_law_602 ?_
  refine va_sld hx hb hX hbl hbA hS (lz_in (j := 1) hi hL (by decide)) d_law_603 ?_
  refine lv_aload_n hx hb d_law_604 rfl (lv_at hl 0 rfl) ?_
  refine lv_iload hx hb d_law_605 (lv_at hl 4 rfl) ?_
  refine lv_iconst (v := 2) hx hb d_law_607 (by decide) ?_
  refine lv_iadd hx hb d_law_608 ?_
  refine va_sld hx hb hX hbl hbA hS (lz_in (j := 2) hi hL (by decide)) d_law_609 ?_
  refine lv_aload_n hx hb d_law_610 rfl (lv_at hl 0 rfl) ?_
  refine lv_iload hx hb d_law_611 (lv_at hl 4 rfl) ?_
  refine lv_iconst (v := 3) hx hb d_law_613 (by decide) ?_
  refine lv_iadd hx hb d_law_614 ?_
  refine va_sld hx hb hX hbl hbA hS (lz_in (j := 3) hi hL (by decide)) d_law_615 ?_
  refine lv_aload_n hx hb d_law_616 rfl (lv_at hl 3 rfl) ?_
  have hF := lz_free (lz_dl hD) hS hA
  have hM9 := lz_crossing l hlt dC dI a o cI cZ cJ H.size (xs (nI i + 1).toNatClampNeg) (xs (nI i + 2).toNatClampNeg) (xs (nI i + 3).toNatClampNeg) g f (fun v u => v = nI k ∧ iC u.1 n' X' Y' Z' t' ∧ (k = 0 → u.2 0 = r.toInt64)) _ _ hw1 (fun r1 g1 hp => ⟨by rw [hp.1]; rfl, hp.2.2, fun _ => by rw [hp.2.1]; exact lz_upd f r.toInt64⟩) (fun e9 g1 hp => by
    obtain ⟨hm, hi9⟩ := hp
    rcases List.mem_cons.mp hm with hm | hm
    · obtain ⟨e1, e2⟩ := Prod.mk.inj hm
      exact Or.inl ⟨e1, by rw [e2]; rfl, hi9, fun h9 => absurd (h9.symm.trans e2) (by decide)⟩
    · obtain ⟨e1, e2⟩ := Prod.mk.inj (List.mem_singleton.mp hm)
      exact Or.inr ⟨e1, by rw [e2]; rfl, hi9, fun h9 => absurd (h9.symm.trans e2) (by decide)⟩)
  refine va_calli (vx_runSW (As := [.ref (a 0), .int (xs (nI i + 1).toNatClampNeg), .int (xs (nI i + 2).toNatClampNeg), .int (xs (nI i + 3).toNatClampNeg), .ref o]) (rest := []) ⟨hx, hb, hml, hown, hts⟩ hM9 (lz_cwSW 5 hts (zz_good wq_64) rfl rfl rfl wq_65 wq_66 wq_3 (by decide +kernel) ⟨Nat.le_of_ble_eq_true rfl, Nat.le_of_ble_eq_true rfl⟩) ⟨lz_blind, lz_pre (lz_l hP) hK (lz_dl hD) hN hN3 hS hA hU⟩ rfl rfl hl.1 rfl (lv_room (Nat.le_of_ble_eq_true rfl)) d_law_617 ⟨show cells + 2 ≤ 601024 by omega, show slots + 6 * 2 ≤ 7293034 by omega⟩) hS (fun q _ h => hF q h) hF (fun r1 u1 t1 H1 locs1 ht hvm hp hB hz1 hk1 hS1 => ?_)
  obtain ⟨hP1, hK1, hD1⟩ := hB
  rw [ht] at hP1
  obtain ⟨hP, hD⟩ := lz_join hP hD hk1 hF hP1 hD1
  obtain ⟨g1, f1⟩ := u1
  obtain ⟨hr1, hC1, hv1⟩ := hp
  subst hr1
  have hS := hS1
  refine lv_istore (lv' := [(5, .int (nI k)), (0, .ref b0), (1, .ref (a 0)), (2, .ref (b 0)), (3, .ref o), (4, .int (nI i))]) hx hb d_law_620 hl (by decide) rfl (fun ls hl => ?_)
  refine lv_aload_n hx hb d_law_622 rfl (lv_at hl 3 rfl) ?_
  refine lv_aload_n hx hb d_law_623 rfl (lv_at hl 1 rfl) ?_
  refine lv_iload hx hb d_law_624 (lv_at hl 5 rfl) ?_
  refine lv_iconst (v := 1) hx hb d_law_626 (by decide) ?_
  refine lv_iadd hx hb d_law_627 ?_
  refine va_sld hx hb hX hbl hbA hS (lz_in (j := 1) hi hL (by decide)) d_law_628 ?_
  refine lv_aload_n hx hb d_law_629 rfl (lv_at hl 1 rfl) ?_
  refine lv_iload hx hb d_law_630 (lv_at hl 5 rfl) ?_
  refine lv_iconst (v := 2) hx hb d_law_632 (by decide) ?_
  refine lv_iadd hx hb d_law_633 ?_
  refine va_sld hx hb hX hbl hbA hS (lz_in (j := 2) hi hL (by decide)) d_law_634 ?_
  refine lv_aload_n hx hb d_law_635 rfl (lv_at hl 1 rfl) ?_
  refine lv_iload hx hb d_law_636 (lv_at hl 5 rfl) ?_
  refine lv_iconst (v := 3) hx hb d_law_638 (by decide) ?_
  refine lv_iadd hx hb d_law_639 ?_
  refine va_sld hx hb hX hbl hbA hS (lz_in (j := 3) hi hL (by decide)) d_law_640 ?_
  have hF1 := zz_free (w := wM b cI cZ) (lz_dr hD) hS hA
  refine va_calli (va_runV (As := [.int (xs (nI i + 1).toNatClampNeg), .int (xs (nI i + 2).toNatClampNeg), .int (xs (nI i + 3).toNatClampNeg)]) (rest := []) ⟨hx, hb, hml, hown, hts⟩ (mc_mo_crossing l dC dI b cI cZ _ (xs (nI i + 1).toNatClampNeg) (xs (nI i + 2).toNatClampNeg) (xs (nI i + 3).toNatClampNeg) h _ hw2) (zz_cwV 3 hts (zz_good wq_67) rfl rfl rfl wq_68 wq_69 wq_70 wq_8 (by decide +kernel) ⟨Nat.le_of_ble_eq_true rfl, Nat.le_of_ble_eq_true rfl⟩) ⟨zz_blind, va_recv hK2 (lz_r hP) rfl (wM_0 b cI cZ h), zz_pre (w := wM b cI cZ) (lz_r hP) hK2 (lz_dr hD) hN⟩ rfl rfl hl.1 rfl (lv_room (Nat.le_of_ble_eq_true rfl)) d_law_641 ⟨show cells + 2 ≤ 601024 by omega, show slots + 6 * 2 ≤ 7293034 by omega⟩) hS (fun q _ h => hF1 q h) hF1 (fun r2 h1 t1 H1 locs1 ht hvm hp1 hB hz1 hk1 hS1 => ?_)
  obtain ⟨hP1, hK1, hD1⟩ := hB
  rw [ht] at hP1
  obtain ⟨hP, hD⟩ := lz_joinR hP hD hk1 hF1 hP1 hD1
  have hS := hS1
  obtain ⟨hth, hv2, hM1⟩ := hp1
  refine lv_istore (lv' := [(6, .int r2), (5, .int (nI k)), (0, .ref b0), (1, .ref (a 0)), (2, .ref (b 0)), (3, .ref o), (4, .int (nI i))]) hx hb d_law_644 hl (by decide) rfl (fun ls hl => ?_)
  refine lv_aload_n hx hb d_law_646 rfl (lv_at hl 4 rfl) ?_
  have hF2 := zz_free (w := wM b cI cZ) (lz_dr hD) hS hA
  refine va_calli (va_runV (As := []) (rest := []) ⟨hx, hb, hml, hown, hts⟩ (mc_mo_thrown l dC dI b cI cZ _  h1 (fun r3 h3 => r3 = h1 0 0 ∧ h3 = h1) ⟨rfl, rfl⟩) (zz_cwV 0 hts (zz_good wq_9) rfl rfl rfl wq_10 wq_11 wq_12 wq_8 (by decide +kernel) ⟨Nat.le_of_ble_eq_true rfl, Nat.le_of_ble_eq_true rfl⟩) ⟨zz_blind, va_recv hK2 (lz_r hP) rfl (wM_0 b cI cZ h1), zz_pre (w := wM b cI cZ) (lz_r hP) hK2 (lz_dr hD) hN⟩ rfl rfl hl.1 rfl (lv_room (Nat.le_of_ble_eq_true rfl)) d_law_647 ⟨show cells + 2 + 0 ≤ 601024 by omega, show slots + 6 * 2 + 0 ≤ 7293034 by omega⟩) hS (fun q _ h => hF2 q h) hF2 (fun r3 h2 t1 H2 locs2 ht hvm hp2 hB hz1 hk1 hS1 => ?_)
  obtain ⟨hP1, hK1, hD1⟩ := hB
  rw [ht] at hP1
  obtain ⟨hP, hD⟩ := lz_joinR hP hD hk1 hF2 hP1 hD1
  have hS := hS1
  obtain ⟨hr3, hh3⟩ := hp2
  rw [hh3] at hP hD
  refine lv_iload hx hb d_law_650 (lv_at hl 1 rfl) ?_
  refine lv_icmp_eq (tgt := 657) hx hb d_law_652 (by decide) (fun hc => ?_) (fun hc => absurd (hr3.trans hth) hc)
  refine lv_iload hx hb d_law_657 (lv_at hl 1 rfl) ?_
  refine lv_if_ne (tgt := 674) hx hb d_law_659 (by decide) (fun hc => ?_) (fun hc => ?_)
  · refine lv_goto (tgt := 907) hx hb d_law_674 (by decide) ?_
    refine W.widen (k := cells + 2) (n := slots + 12) (by omega) (by omega) ?_
    exact K _ _ _ _ _ _ ⟨⟨n', X', Y', Z', t', hC1, hM1⟩, hP, hD, hS, lv_sub hl [2, 3, 4, 5, 6] rfl⟩
  · have hk0 := lz_nI0 hk2 hc
    refine lv_aload_n hx hb d_law_662 rfl (lv_at hl 5 rfl) ?_
    refine lv_iconst (v := 0) hx hb d_law_663 (by decide) ?_
    refine va_lald hx hb hK hP 18 2 rfl rfl (i := 0) (show ¬ ((0 : Int32) < 0 ∨ 1 ≤ (0 : Int32).toNatClampNeg) by decide) d_law_664 ?_
    refine lv_iload hx hb d_law_665 (lv_at hl 0 rfl) ?_
    refine lv_i2l (v := r2.toInt64) hx hb d_law_667 rfl ?_
    refine W.lcmp hx hb d_law_668 ?_
    refine lv_if_eq (tgt := 674) hx hb d_law_669 (by decide) (fun hc => ?_) (fun hc => absurd (show lg_cmp (f1 0) r2.toInt64 = 0 by rw [show f1 0 = r.toInt64 from hv1 hk0, hv2 hk0]; exact lz_cmp _) hc)
    refine lv_goto (tgt := 907) hx hb d_law_674 (by decide) ?_
    refine W.widen (k := cells + 2) (n := slots + 12) (by omega) (by omega) ?_
    exact K _ _ _ _ _ _ ⟨⟨n', X', Y', Z', t', hC1, hM1⟩, hP, hD, hS, lv_sub hl [2, 3, 4, 5, 6] rfl⟩
set_option maxHeartbeats 4000000 in
set_option maxRecDepth 100000 in
theorem cs_place (hx9 : lz_X p l s m c b0 L xs dC dI cI cZ cJ) (hi : i + 4 ≤ L) (hL : L ≤ 2048) (hY : lz_Y s dC dI a b o cI cZ cJ b0 i g h f H locs ls) (hce : cells + 2 ≤ 601024) (hsl : slots + 12 ≤ 7293034) (K : ∀ g h f H locs ls, lz_Y s dC dI a b o cI cZ cJ b0 i g h f H locs ls → W p l e room_1 s m #[Value.ref b0] below meth c H locs (cells + 2) (slots + 12) Q (F0 m 907 ls [])) : W p l e room_1 s m #[Value.ref b0] below meth c H locs cells slots Q (F0 m 677 ls []) := by
  obtain ⟨hx, hb, hml, hown, hts, hX, hbl, hK, hN, hN3, hU, hlt⟩ := hx9
  obtain ⟨⟨n, X, Y, Z, t, hC, hM⟩, hP, hD, hS, hl⟩ := hY
  have hA : ∀ q, s.heap.size ≤ q → lz_A s q := fun _ h => h
  have hbA : ¬ lz_A s b0 := Nat.not_le.mpr hbl
  have hK2 : va_K (dC, dI) zzCl [(cI, .int), (cZ, .boolean)] s := hK.sub [0, 1] rfl
  obtain ⟨k, r, n', X', Y', Z', t', hk2, hw1, hw2⟩ := oq_place (xs (nI i + 1).toNatClampNeg) (xs (nI i + 2).toNatClampNeg) (xs (nI i + 3).toNatClampNeg) hC hM
  refine lv_aload_n hx hb d_law_677 rfl (lv_at hl 1 rfl) ?_
  refine lv_aload_n hx hb d_law_678 rfl (lv_at hl 0 rfl) ?_
  refine lv_iload hx hb d_law_679 (lv_at hl 4 rfl) ?_
  refine lv_iconst (v := 1) hx hb d_law_681 (by decide) ?_
  refine lv_iadd hx hb d_law_682 ?_
  refine va_sld hx hb hX hbl hbA hS (lz_in (j := 1) hi hL (by decide)) d_law_683 ?_
  refine lv_aload_n hx hb d_law_684 rfl (lv_at hl 0 rfl) ?_
  refine lv_iload hx hb d_law_685 (lv_at hl 4 rfl) ?_
  refine lv_iconst (v := 2) hx hb d_law_687 (by decide) ?_
  refine lv_iadd hx hb d_law_688 ?_
  refine va_sld hx hb hX hbl hbA hS (lz_in (j := 2) hi hL (by decide)) d_law_689 ?_
  refine lv_aload_n hx hb d_law_690 rfl (lv_at hl 0 rfl) ?_
  refine lv_iload hx hb d_law_691 (lv_at hl 4 rfl) ?_
  refine lv_iconst (v := 3) hx hb d_law_693 (by decide) ?_
  refine lv_iadd hx hb d_law_694 ?_
  refine va_sld hx hb hX hbl hbA hS (lz_in (j := 3) hi hL (by decide)) d_law_695 ?_
  refine lv_aload_n hx hb d_law_696 rfl (lv_at hl 3 rfl) ?_
  have hF := lz_free (lz_dl hD) hS hA
  have hM9 := lz_place l hlt dC dI a o cI cZ cJ H.size (xs (nI i + 1).toNatClampNeg) (xs (nI i + 2).toNatClampNeg) (xs (nI i + 3).toNatClampNeg) g f (fun v u => v = nI k ∧ iC u.1 n' X' Y' Z' t' ∧ (k = 0 → u.2 0 = r.toInt64)) _ _ hw1 (fun r1 g1 hp => ⟨by rw [hp.1]; rfl, hp.2.2, fun _ => by rw [hp.2.1]; exact lz_upd f r.toInt64⟩) (fun e9 g1 hp => by
    obtain ⟨hm, hi9⟩ := hp
    rcases List.mem_cons.mp hm with hm | hm
    · obtain ⟨e1, e2⟩ := Prod.mk.inj hm
      exact Or.inl ⟨e1, by rw [e2]; rfl, hi9, fun h9 => absurd (h9.symm.trans e2) (by decide)⟩
    · obtain ⟨e1, e2⟩ := Prod.mk.inj (List.mem_singleton.mp hm)
      exact Or.inr ⟨e1, by rw [e2]; rfl, hi9, fun h9 => absurd (h9.symm.trans e2) (by decide)⟩)
  refine va_calli (vx_runSW (As := [.ref (a 0), .int (xs (nI i + 1).toNatClampNeg), .int (xs (nI i + 2).toNatClampNeg), .int (xs (nI i + 3).toNatClampNeg), .ref o]) (rest := []) ⟨hx, hb, hml, hown, hts⟩ hM9 (lz_cwSW 5 hts (zz_good wq_71) rfl rfl rfl wq_72 wq_73 wq_3 (by decide +kernel) ⟨Nat.le_of_ble_eq_true rfl, Nat.le_of_ble_eq_true rfl⟩) ⟨lz_blind, lz_pre (lz_l hP) hK (lz_dl hD) hN hN3 hS hA hU⟩ rfl rfl hl.1 rfl (lv_room (Nat.le_of_ble_eq_true rfl)) d_law_697 ⟨show cells + 2 ≤ 601024 by omega, show slots + 6 * 2 ≤ 7293034 by omega⟩) hS (fun q _ h => hF q h) hF (fun r1 u1 t1 H1 locs1 ht hvm hp hB hz1 hk1 hS1 => ?_)
  obtain ⟨hP1, hK1, hD1⟩ := hB
  rw [ht] at hP1
  obtain ⟨hP, hD⟩ := lz_join hP hD hk1 hF hP1 hD1
  obtain ⟨g1, f1⟩ := u1
  obtain ⟨hr1, hC1, hv1⟩ := hp
  subst hr1
  have hS := hS1
  refine lv_istore (lv' := [(5, .int (nI k)), (0, .ref b0), (1, .ref (a 0)), (2, .ref (b 0)), (3, .ref o), (4, .int (nI i))]) hx hb d_law_700 hl (by decide) rfl (fun ls hl => ?_)
  refine lv_aload_n hx hb d_law_702 rfl (lv_at hl 3 rfl) ?_
  refine lv_aload_n hx hb d_law_703 rfl (lv_at hl 1 rfl) ?_
  refine lv_iload hx hb d_law_704 (lv_at hl 5 rfl) ?_
  refine lv_iconst (v := 1) hx hb d_law_706 (by decide) ?_
  refine lv_iadd hx hb d_law_707 ?_
  refine va_sld hx hb hX hbl hbA hS (lz_in (j := 1) hi hL (by decide)) d_law_708 ?_
  refine lv_aload_n hx hb d_law_709 rfl (lv_at hl 1 rfl) ?_
  refine lv_iload hx hb d_law_710 (lv_at hl 5 rfl) ?_
  refine lv_iconst (v := 2) hx hb d_law_712 (by decide) ?_
  refine lv_iadd hx hb d_law_713 ?_
  refine va_sld hx hb hX hbl hbA hS (lz_in (j := 2) hi hL (by decide)) d_law_714 ?_
  refine lv_aload_n hx hb d_law_715 rfl (lv_at hl 1 rfl) ?_
  refine lv_iload hx hb d_law_716 (lv_at hl 5 rfl) ?_
  refine lv_iconst (v := 3) hx hb d_law_718 (by decide) ?_
  refine lv_iadd hx hb d_law_719 ?_
  refine va_sld hx hb hX hbl hbA hS (lz_in (j := 3) hi hL (by decide)) d_law_720 ?_
  have hF1 := zz_free (w := wM b cI cZ) (lz_dr hD) hS hA
  refine va_calli (va_runV (As := [.int (xs (nI i + 1).toNatClampNeg), .int (xs (nI i + 2).toNatClampNeg), .int (xs (nI i + 3).toNatClampNeg)]) (rest := []) ⟨hx, hb, hml, hown, hts⟩ (mc_mo_place l dC dI b cI cZ _ (xs (nI i + 1).toNatClampNeg) (xs (nI i + 2).toNatClampNeg) (xs (nI i + 3).toNatClampNeg) h _ hw2) (zz_cwV 3 hts (zz_good wq_74) rfl rfl rfl wq_75 wq_76 wq_77 wq_8 (by decide +kernel) ⟨Nat.le_of_ble_eq_true rfl, Nat.le_of_ble_eq_true rfl⟩) ⟨zz_blind, va_recv hK2 (lz_r hP) rfl (wM_0 b cI cZ h), zz_pre (w := wM b cI cZ) (lz_r hP) hK2 (lz_dr hD) hN⟩ rfl rfl hl.1 rfl (lv_room (Nat.le_of_ble_eq_true rfl)) d_law_721 ⟨show cells + 2 ≤ 601024 by omega, show slots + 6 * 2 ≤ 7293034 by omega⟩) hS (fun q _ h => hF1 q h) hF1 (fun r2 h1 t1 H1 locs1 ht hvm hp1 hB hz1 hk1 hS1 => ?_)
  obtain ⟨hP1, hK1, hD1⟩ := hB
  rw [ht] at hP1
  obtain ⟨hP, hD⟩ := lz_joinR hP hD hk1 hF1 hP1 hD1
  have hS := hS1
  obtain ⟨hth, hv2, hM1⟩ := hp1
  refine lv_istore (lv' := [(6, .int r2), (5, .int (nI k)), (0, .ref b0), (1, .ref (a 0)), (2, .ref (b 0)), (3, .ref o), (4, .int (nI i))]) hx hb d_law_724 hl (by decide) rfl (fun ls hl => ?_)
  refine lv_aload_n hx hb d_law_726 rfl (lv_at hl 4 rfl) ?_
  have hF2 := zz_free (w := wM b cI cZ) (lz_dr hD) hS hA
  refine va_calli (va_runV (As := []) (rest := []) ⟨hx, hb, hml, hown, hts⟩ (mc_mo_thrown l dC dI b cI cZ _  h1 (fun r3 h3 => r3 = h1 0 0 ∧ h3 = h1) ⟨rfl, rfl⟩) (zz_cwV 0 hts (zz_good wq_9) rfl rfl rfl wq_10 wq_11 wq_12 wq_8 (by decide +kernel) ⟨Nat.le_of_ble_eq_true rfl, Nat.le_of_ble_eq_true rfl⟩) ⟨zz_blind, va_recv hK2 (lz_r hP) rfl (wM_0 b cI cZ h1), zz_pre (w := wM b cI cZ) (lz_r hP) hK2 (lz_dr hD) hN⟩ rfl rfl hl.1 rfl (lv_room (Nat.le_of_ble_eq_true rfl)) d_law_727 ⟨show cells + 2 + 0 ≤ 601024 by omega, show slots + 6 * 2 + 0 ≤ 7293034 by omega⟩) hS (fun q _ h => hF2 q h) hF2 (fun r3 h2 t1 H2 locs2 ht hvm hp2 hB hz1 hk1 hS1 => ?_)
  obtain ⟨hP1, hK1, hD1⟩ := hB
  rw [ht] at hP1
  obtain ⟨hP, hD⟩ := lz_joinR hP hD hk1 hF2 hP1 hD1
  have hS := hS1
  obtain ⟨hr3, hh3⟩ := hp2
  rw [hh3] at hP hD
  refine lv_iload hx hb d_law_730 (lv_at hl 1 rfl) ?_
  refine lv_icmp_eq (tgt := 737) hx hb d_law_732 (by decide) (fun hc => ?_) (fun hc => absurd (hr3.trans hth) hc)
  refine lv_iload hx hb d_law_737 (lv_at hl 1 rfl) ?_
  refine lv_if_ne (tgt := 754) hx hb d_law_739 (by decide) (fun hc => ?_) (fun hc => ?_)
  · refine lv_goto (tgt := 907) hx hb d_law_754 (by decide) ?_
    refine W.widen (k := cells + 2) (n := slots + 12) (by omega) (by omega) ?_
    exact K _ _ _ _ _ _ ⟨⟨n', X', Y', Z', t', hC1, hM1⟩, hP, hD, hS, lv_sub hl [2, 3, 4, 5, 6] rfl⟩
  · have hk0 := lz_nI0 hk2 hc
    refine lv_aload_n hx hb d_law_742 rfl (lv_at hl 5 rfl) ?_
    refine lv_iconst (v := 0) hx hb d_law_743 (by decide) ?_
    refine va_lald hx hb hK hP 18 2 rfl rfl (i := 0) (show ¬ ((0 : Int32) < 0 ∨ 1 ≤ (0 : Int32).toNatClampNeg) by decide) d_law_744 ?_
    refine lv_iload hx hb d_law_745 (lv_at hl 0 rfl) ?_
    refine lv_i2l (v := r2.toInt64) hx hb d_law_747 rfl ?_
    refine W.lcmp hx hb d_law_748 ?_
    refine lv_if_eq (tgt := 754) hx hb d_law_749 (by decide) (fun hc => ?_) (fun hc => absurd (show lg_cmp (f1 0) r2.toInt64 = 0 by rw [show f1 0 = r.toInt64 from hv1 hk0, hv2 hk0]; exact lz_cmp _) hc)
    refine lv_goto (tgt := 907) hx hb d_law_754 (by decide) ?_
    refine W.widen (k := cells + 2) (n := slots + 12) (by omega) (by omega) ?_
    exact K _ _ _ _ _ _ ⟨⟨n', X', Y', Z', t', hC1, hM1⟩, hP, hD, hS, lv_sub hl [2, 3, 4, 5, 6] rfl⟩
set_option maxHeartbeats 4000000 in
set_option maxRecDepth 100000 in
theorem cs_label (hx9 : lz_X p l s m c b0 L xs dC dI cI cZ cJ) (hi : i + 4 ≤ L) (hL : L ≤ 2048) (hY : lz_Y s dC dI a b o cI cZ cJ b0 i g h f H locs ls) (hce : cells + 2 ≤ 601024) (hsl : slots + 12 ≤ 7293034) (K : ∀ g h f H locs ls, lz_Y s dC dI a b o cI cZ cJ b0 i g h f H locs ls → W p l e room_1 s m #[Value.ref b0] below meth c H locs (cells + 2) (slots + 12) Q (F0 m 907 ls [])) : W p l e room_1 s m #[Value.ref b0] below meth c H locs cells slots Q (F0 m 757 ls []) := by
  obtain ⟨hx, hb, hml, hown, hts, hX, hbl, hK, hN, hN3, hU, hlt⟩ := hx9
  obtain ⟨⟨n, X, Y, Z, t, hC, hM⟩, hP, hD, hS, hl⟩ := hY
  have hA : ∀ q, s.heap.size ≤ q → lz_A s q := fun _ h => h
  have hbA : ¬ lz_A s b0 := Nat.not_le.mpr hbl
  have hK2 : va_K (dC, dI) zzCl [(cI, .int), (cZ, .boolean)] s := hK.sub [0, 1] rfl
  obtain ⟨k, r, n', X', Y', Z', t', hk2, hw1, hw2⟩ := oq_label (xs (nI i + 1).toNatClampNeg) hC hM
  refine lv_aload_n hx hb d_law_757 rfl (lv_at hl 1 rfl) ?_
  refine lv_aload_n hx hb d_law_758 rfl (lv_at hl 0 rfl) ?_
  refine lv_iload hx hb d_law_759 (lv_at hl 4 rfl) ?_
  refine lv_iconst (v := 1) hx hb d_law_761 (by decide) ?_
  refine lv_iadd hx hb d_law_762 ?_
  refine va_sld hx hb hX hbl hbA hS (lz_in (j := 1) hi hL (by decide)) d_law_763 ?_
  refine lv_aload_n hx hb d_law_764 rfl (lv_at hl 3 rfl) ?_
  have hF := lz_free (lz_dl hD) hS hA
  have hM9 := lz_label l hlt dC dI a o cI cZ cJ H.size (xs (nI i + 1).toNatClampNeg) g f (fun v u => v = nI k ∧ iC u.1 n' X' Y' Z' t' ∧ (k = 0 → u.2 0 = r.toInt64)) _ _ hw1 (fun r1 g1 hp => ⟨by rw [hp.1]; rfl, hp.2.2, fun _ => by rw [hp.2.1]; exact lz_upd f r.toInt64⟩) (fun e9 g1 hp => by
    obtain ⟨hm, hi9⟩ := hp
    rcases List.mem_cons.mp hm with hm | hm
    · obtain ⟨e1, e2⟩ := Prod.mk.inj hm
      exact Or.inl ⟨e1, by rw [e2]; rfl, hi9, fun h9 => absurd (h9.symm.trans e2) (by decide)⟩
    · obtain ⟨e1, e2⟩ := Prod.mk.inj (List.mem_singleton.mp hm)
      exact Or.inr ⟨e1, by rw [e2]; rfl, hi9, fun h9 => absurd (h9.symm.trans e2) (by decide)⟩)
  refine va_calli (vx_runSW (As := [.ref (a 0), .int (xs (nI i + 1).toNatClampNeg), .ref o]) (rest := []) ⟨hx, hb, hml, hown, hts⟩ hM9 (lz_cwSW 3 hts (zz_good wq_78) rfl rfl rfl wq_79 wq_80 wq_3 (by decide +kernel) ⟨Nat.le_of_ble_eq_true rfl, Nat.le_of_ble_eq_true rfl⟩) ⟨lz_blind, lz_pre (lz_l hP) hK (lz_dl hD) hN hN3 hS hA hU⟩ rfl rfl hl.1 rfl (lv_room (Nat.le_of_ble_eq_true rfl)) d_law_765 ⟨show cells + 2 ≤ 601024 by omega, show slots + 6 * 2 ≤ 7293034 by omega⟩) hS (fun q _ h => hF q h) hF (fun r1 u1 t1 H1 locs1 ht hvm hp hB hz1 hk1 hS1 => ?_)
  obtain ⟨hP1, hK1, hD1⟩ := hB
  rw [ht] at hP1
  obtain ⟨hP, hD⟩ := lz_join hP hD hk1 hF hP1 hD1
  obtain ⟨g1, f1⟩ := u1
  obtain ⟨hr1, hC1, hv1⟩ := hp
  subst hr1
  have hS := hS1
  refine lv_istore (lv' := [(5, .int (nI k)), (0, .ref b0), (1, .ref (a 0)), (2, .ref (b 0)), (3, .ref o), (4, .int (nI i))]) hx hb d_law_768 hl (by decide) rfl (fun ls hl => ?_)
  refine lv_aload_n hx hb d_law_770 rfl (lv_at hl 3 rfl) ?_
  refine lv_aload_n hx hb d_law_771 rfl (lv_at hl 1 rfl) ?_
  refine lv_iload hx hb d_law_772 (lv_at hl 5 rfl) ?_
  refine lv_iconst (v := 1) hx hb d_law_774 (by decide) ?_
  refine lv_iadd hx hb d_law_775 ?_
  refine va_sld hx hb hX hbl hbA hS (lz_in (j := 1) hi hL (by decide)) d_law_776 ?_
  have hF1 := zz_free (w := wM b cI cZ) (lz_dr hD) hS hA
  refine va_calli (va_runV (As := [.int (xs (nI i + 1).toNatClampNeg)]) (rest := []) ⟨hx, hb, hml, hown, hts⟩ (mc_mo_label l dC dI b cI cZ _ (xs (nI i + 1).toNatClampNeg) h _ hw2) (zz_cwV 1 hts (zz_good wq_81) rfl rfl rfl wq_82 wq_83 wq_84 wq_8 (by decide +kernel) ⟨Nat.le_of_ble_eq_true rfl, Nat.le_of_ble_eq_true rfl⟩) ⟨zz_blind, va_recv hK2 (lz_r hP) rfl (wM_0 b cI cZ h), zz_pre (w := wM b cI cZ) (lz_r hP) hK2 (lz_dr hD) hN⟩ rfl rfl hl.1 rfl (lv_room (Nat.le_of_ble_eq_true rfl)) d_law_777 ⟨show cells + 2 ≤ 601024 by omega, show slots + 6 * 2 ≤ 7293034 by omega⟩) hS (fun q _ h => hF1 q h) hF1 (fun r2 h1 t1 H1 locs1 ht hvm hp1 hB hz1 hk1 hS1 => ?_)
  obtain ⟨hP1, hK1, hD1⟩ := hB
  rw [ht] at hP1
  obtain ⟨hP, hD⟩ := lz_joinR hP hD hk1 hF1 hP1 hD1
  have hS := hS1
  obtain ⟨hth, hv2, hM1⟩ := hp1
  refine lv_istore (lv' := [(6, .int r2), (5, .int (nI k)), (0, .ref b0), (1, .ref (a 0)), (2, .ref (b 0)), (3, .ref o), (4, .int (nI i))]) hx hb d_law_780 hl (by decide) rfl (fun ls hl => ?_)
  refine lv_aload_n hx hb d_law_782 rfl (lv_at hl 4 rfl) ?_
  have hF2 := zz_free (w := wM b cI cZ) (lz_dr hD) hS hA
  refine va_calli (va_runV (As := []) (rest := []) ⟨hx, hb, hml, hown, hts⟩ (mc_mo_thrown l dC dI b cI cZ _  h1 (fun r3 h3 => r3 = h1 0 0 ∧ h3 = h1) ⟨rfl, rfl⟩) (zz_cwV 0 hts (zz_good wq_9) rfl rfl rfl wq_10 wq_11 wq_12 wq_8 (by decide +kernel) ⟨Nat.le_of_ble_eq_true rfl, Nat.le_of_ble_eq_true rfl⟩) ⟨zz_blind, va_recv hK2 (lz_r hP) rfl (wM_0 b cI cZ h1), zz_pre (w := wM b cI cZ) (lz_r hP) hK2 (lz_dr hD) hN⟩ rfl rfl hl.1 rfl (lv_room (Nat.le_of_ble_eq_true rfl)) d_law_783 ⟨show cells + 2 + 0 ≤ 601024 by omega, show slots + 6 * 2 + 0 ≤ 7293034 by omega⟩) hS (fun q _ h => hF2 q h) hF2 (fun r3 h2 t1 H2 locs2 ht hvm hp2 hB hz1 hk1 hS1 => ?_)
  obtain ⟨hP1, hK1, hD1⟩ := hB
  rw [ht] at hP1
  obtain ⟨hP, hD⟩ := lz_joinR hP hD hk1 hF2 hP1 hD1
  have hS := hS1
  obtain ⟨hr3, hh3⟩ := hp2
  rw [hh3] at hP hD
  refine lv_iload hx hb d_law_786 (lv_at hl 1 rfl) ?_
  refine lv_icmp_eq (tgt := 793) hx hb d_law_788 (by decide) (fun hc => ?_) (fun hc => absurd (hr3.trans hth) hc)
  refine lv_iload hx hb d_law_793 (lv_at hl 1 rfl) ?_
  refine lv_if_ne (tgt := 810) hx hb d_law_795 (by decide) (fun hc => ?_) (fun hc => ?_)
  · refine lv_goto (tgt := 907) hx hb d_law_810 (by decide) ?_
    refine W.widen (k := cells + 2) (n := slots + 12) (by omega) (by omega) ?_
    exact K _ _ _ _ _ _ ⟨⟨n', X', Y', Z', t', hC1, hM1⟩, hP, hD, hS, lv_sub hl [2, 3, 4, 5, 6] rfl⟩
  · have hk0 := lz_nI0 hk2 hc
    refine lv_aload_n hx hb d_law_798 rfl (lv_at hl 5 rfl) ?_
    refine lv_iconst (v := 0) hx hb d_law_799 (by decide) ?_
    refine va_lald hx hb hK hP 18 2 rfl rfl (i := 0) (show ¬ ((0 : Int32) < 0 ∨ 1 ≤ (0 : Int32).toNatClampNeg) by decide) d_law_800 ?_
    refine lv_iload hx hb d_law_801 (lv_at hl 0 rfl) ?_
    refine lv_i2l (v := r2.toInt64) hx hb d_law_803 rfl ?_
    refine W.lcmp hx hb d_law_804 ?_
    refine lv_if_eq (tgt := 810) hx hb d_law_805 (by decide) (fun hc => ?_) (fun hc => absurd (show lg_cmp (f1 0) r2.toInt64 = 0 by rw [show f1 0 = r.toInt64 from hv1 hk0, hv2 hk0]; exact lz_cmp _) hc)
    refine lv_goto (tgt := 907) hx hb d_law_810 (by decide) ?_
    refine W.widen (k := cells + 2) (n := slots + 12) (by omega) (by omega) ?_
    exact K _ _ _ _ _ _ ⟨⟨n', X', Y', Z', t', hC1, hM1⟩, hP, hD, hS, lv_sub hl [2, 3, 4, 5, 6] rfl⟩
set_option maxHeartbeats 4000000 in
set_option maxRecDepth 100000 in
theorem cs_labels (hx9 : lz_X p l s m c b0 L xs dC dI cI cZ cJ) (hi : i + 4 ≤ L) (hL : L ≤ 2048) (hY : lz_Y s dC dI a b o cI cZ cJ b0 i g h f H locs ls) (hce : cells + 2 ≤ 601024) (hsl : slots + 12 ≤ 7293034) (K : ∀ g h f H locs ls, lz_Y s dC dI a b o cI cZ cJ b0 i g h f H locs ls → W p l e room_1 s m #[Value.ref b0] below meth c H locs (cells + 2) (slots + 12) Q (F0 m 907 ls [])) : W p l e room_1 s m #[Value.ref b0] below meth c H locs cells slots Q (F0 m 813 ls []) := by
  obtain ⟨hx, hb, hml, hown, hts, hX, hbl, hK, hN, hN3, hU, hlt⟩ := hx9
  obtain ⟨⟨n, X, Y, Z, t, hC, hM⟩, hP, hD, hS, hl⟩ := hY
  have hA : ∀ q, s.heap.size ≤ q → lz_A s q := fun _ h => h
  have hbA : ¬ lz_A s b0 := Nat.not_le.mpr hbl
  have hK2 : va_K (dC, dI) zzCl [(cI, .int), (cZ, .boolean)] s := hK.sub [0, 1] rfl
  obtain ⟨r, hw1, hw2⟩ := op_labels hC hM
  refine lv_aload_n hx hb d_law_813 rfl (lv_at hl 1 rfl) ?_
  have hP : va_P (dC, dI) zzCl (wC a cI cZ g ++ ([(o, .inl (cJ, 1, .inr (.inl f)))] ++ wM b cI cZ h)) H := by rw [← List.append_assoc]; exact hP
  have hD : va_D (lz_A s) (wC a cI cZ g ++ ([(o, .inl (cJ, 1, .inr (.inl f)))] ++ wM b cI cZ h)) := by rw [← List.append_assoc]; exact hD
  have hF := zz_free (w := wC a cI cZ) (lz_dl hD) hS hA
  refine va_calli (va_runV (As := []) (rest := []) ⟨hx, hb, hml, hown, hts⟩ (mc_sc_labels l dC dI a cI cZ _ g _ hw1) (zz_cwV 0 hts (zz_good wq_85) rfl rfl rfl wq_86 wq_87 wq_88 wq_24 (by decide +kernel) ⟨Nat.le_of_ble_eq_true rfl, Nat.le_of_ble_eq_true rfl⟩) ⟨zz_blind, va_recv hK2 (lz_l hP) rfl (wC_0 a cI cZ g), zz_pre (w := wC a cI cZ) (lz_l hP) hK2 (lz_dl hD) hN⟩ rfl rfl hl.1 rfl (lv_room (Nat.le_of_ble_eq_true rfl)) d_law_814 ⟨show cells + 0 ≤ 601024 by omega, show slots + 0 ≤ 7293034 by omega⟩) hS (fun q _ h => hF q h) hF (fun r1 g1 t1 H1 locs1 ht hvm hp hB hz1 hk1 hS1 => ?_)
  obtain ⟨hP1, hK1, hD1⟩ := hB
  rw [ht] at hP1
  obtain ⟨hP, hD⟩ := lz_join hP hD hk1 hF hP1 hD1
  obtain ⟨hr1, hC1⟩ := hp
  have hS := hS1
  have hP : va_P (dC, dI) zzCl (lz_w a o cI cZ cJ (g1, f) ++ wM b cI cZ h) H1 := by rw [← List.append_assoc] at hP; exact hP
  have hD : va_D (lz_A s) (lz_w a o cI cZ cJ (g1, f) ++ wM b cI cZ h) := by rw [← List.append_assoc] at hD; exact hD
  refine lv_aload_n hx hb d_law_817 rfl (lv_at hl 2 rfl) ?_
  have hF1 := zz_free (w := wM b cI cZ) (lz_dr hD) hS hA
  refine va_calli (va_runV (As := []) (rest := [.int r1]) ⟨hx, hb, hml, hown, hts⟩ (mc_mo_labels l dC dI b cI cZ _ h _ hw2) (zz_cwV 0 hts (zz_good wq_89) rfl rfl rfl wq_90 wq_91 wq_92 wq_8 (by decide +kernel) ⟨Nat.le_of_ble_eq_true rfl, Nat.le_of_ble_eq_true rfl⟩) ⟨zz_blind, va_recv hK2 (lz_r hP) rfl (wM_0 b cI cZ h), zz_pre (w := wM b cI cZ) (lz_r hP) hK2 (lz_dr hD) hN⟩ rfl rfl hl.1 rfl (lv_room (Nat.le_of_ble_eq_true rfl)) d_law_818 ⟨show cells + 0 + 0 ≤ 601024 by omega, show slots + 0 + 0 ≤ 7293034 by omega⟩) hS (fun q _ h => hF1 q h) hF1 (fun r2 h1 t1 H2 locs2 ht hvm hp hB hz1 hk1 hS1 => ?_)
  obtain ⟨hP1, hK1, hD1⟩ := hB
  rw [ht] at hP1
  obtain ⟨hP, hD⟩ := lz_joinR hP hD hk1 hF1 hP1 hD1
  obtain ⟨hr2, hM1⟩ := hp
  have hS := hS1
  refine lv_icmp_eq (tgt := 907) hx hb d_law_821 (by decide) (fun hc => ?_) (fun hc => absurd (hr1.trans hr2.symm) hc)
  refine W.widen (k := cells + 2) (n := slots + 12) (by omega) (by omega) ?_
  exact K _ _ _ _ _ _ ⟨⟨n, X, Y, Z, t, hC1, hM1⟩, hP, hD, hS, hl⟩
set_option maxHeartbeats 4000000 in
set_option maxRecDepth 100000 in
theorem cs_labelOf (hx9 : lz_X p l s m c b0 L xs dC dI cI cZ cJ) (hi : i + 4 ≤ L) (hL : L ≤ 2048) (hY : lz_Y s dC dI a b o cI cZ cJ b0 i g h f H locs ls) (hce : cells + 2 ≤ 601024) (hsl : slots + 12 ≤ 7293034) (K : ∀ g h f H locs ls, lz_Y s dC dI a b o cI cZ cJ b0 i g h f H locs ls → W p l e room_1 s m #[Value.ref b0] below meth c H locs (cells + 2) (slots + 12) Q (F0 m 907 ls [])) : W p l e room_1 s m #[Value.ref b0] below meth c H locs cells slots Q (F0 m 826 ls []) := by
  obtain ⟨hx, hb, hml, hown, hts, hX, hbl, hK, hN, hN3, hU, hlt⟩ := hx9
  obtain ⟨⟨n, X, Y, Z, t, hC, hM⟩, hP, hD, hS, hl⟩ := hY
  have hA : ∀ q, s.heap.size ≤ q → lz_A s q := fun _ h => h
  have hbA : ¬ lz_A s b0 := Nat.not_le.mpr hbl
  have hK2 : va_K (dC, dI) zzCl [(cI, .int), (cZ, .boolean)] s := hK.sub [0, 1] rfl
  obtain ⟨k, r, n', X', Y', Z', t', hk2, hw1, hw2⟩ := oq_labelOf (xs (nI i + 1).toNatClampNeg) (xs (nI i + 2).toNatClampNeg) hC hM
  refine lv_aload_n hx hb d_law_826 rfl (lv_at hl 1 rfl) ?_
  refine lv_aload_n hx hb d_law_827 rfl (lv_at hl 0 rfl) ?_
  refine lv_iload hx hb d_law_828 (lv_at hl 4 rfl) ?_
  refine lv_iconst (v := 1) hx hb d_law_830 (by decide) ?_
  refine lv_iadd hx hb d_law_831 ?_
  refine va_sld hx hb hX hbl hbA hS (lz_in (j := 1) hi hL (by decide)) d_law_832 ?_
  refine lv_aload_n hx hb d_law_833 rfl (lv_at hl 0 rfl) ?_
  refine lv_iload hx hb d_law_834 (lv_at hl 4 rfl) ?_
  refine lv_iconst (v := 2) hx hb d_law_836 (by decide) ?_
  refine lv_iadd hx hb d_law_837 ?_
  refine va_sld hx hb hX hbl hbA hS (lz_in (j := 2) hi hL (by decide)) d_law_838 ?_
  refine lv_aload_n hx hb d_law_839 rfl (lv_at hl 3 rfl) ?_
  have hF := lz_free (lz_dl hD) hS hA
  have hM9 := lz_labelOf l hlt dC dI a o cI cZ cJ H.size (xs (nI i + 1).toNatClampNeg) (xs (nI i + 2).toNatClampNeg) g f (fun v u => v = nI k ∧ iC u.1 n' X' Y' Z' t' ∧ (k = 0 → u.2 0 = r.toInt64)) _ _ hw1 (fun r1 g1 hp => ⟨by rw [hp.1]; rfl, hp.2.2, fun _ => by rw [hp.2.1]; exact lz_upd f r.toInt64⟩) (fun e9 g1 hp => by
    obtain ⟨hm, hi9⟩ := hp
    rcases List.mem_cons.mp hm with hm | hm
    · obtain ⟨e1, e2⟩ := Prod.mk.inj hm
      exact Or.inl ⟨e1, by rw [e2]; rfl, hi9, fun h9 => absurd (h9.symm.trans e2) (by decide)⟩
    · obtain ⟨e1, e2⟩ := Prod.mk.inj (List.mem_singleton.mp hm)
      exact Or.inr ⟨e1, by rw [e2]; rfl, hi9, fun h9 => absurd (h9.symm.trans e2) (by decide)⟩)
  refine va_calli (vx_runSW (As := [.ref (a 0), .int (xs (nI i + 1).toNatClampNeg), .int (xs (nI i + 2).toNatClampNeg), .ref o]) (rest := []) ⟨hx, hb, hml, hown, hts⟩ hM9 (lz_cwSW 4 hts (zz_good wq_93) rfl rfl rfl wq_94 wq_95 wq_3 (by decide +kernel) ⟨Nat.le_of_ble_eq_true rfl, Nat.le_of_ble_eq_true rfl⟩) ⟨lz_blind, lz_pre (lz_l hP) hK (lz_dl hD) hN hN3 hS hA hU⟩ rfl rfl hl.1 rfl (lv_room (Nat.le_of_ble_eq_true rfl)) d_law_840 ⟨show cells + 1 ≤ 601024 by omega, show slots + 6 * 1 ≤ 7293034 by omega⟩) hS (fun q _ h => hF q h) hF (fun r1 u1 t1 H1 locs1 ht hvm hp hB hz1 hk1 hS1 => ?_)
  obtain ⟨hP1, hK1, hD1⟩ := hB
  rw [ht] at hP1
  obtain ⟨hP, hD⟩ := lz_join hP hD hk1 hF hP1 hD1
  obtain ⟨g1, f1⟩ := u1
  obtain ⟨hr1, hC1, hv1⟩ := hp
  subst hr1
  have hS := hS1
  refine lv_istore (lv' := [(5, .int (nI k)), (0, .ref b0), (1, .ref (a 0)), (2, .ref (b 0)), (3, .ref o), (4, .int (nI i))]) hx hb d_law_843 hl (by decide) rfl (fun ls hl => ?_)
  refine lv_aload_n hx hb d_law_845 rfl (lv_at hl 3 rfl) ?_
  refine lv_aload_n hx hb d_law_846 rfl (lv_at hl 1 rfl) ?_
  refine lv_iload hx hb d_law_847 (lv_at hl 5 rfl) ?_
  refine lv_iconst (v := 1) hx hb d_law_849 (by decide) ?_
  refine lv_iadd hx hb d_law_850 ?_
  refine va_sld hx hb hX hbl hbA hS (lz_in (j := 1) hi hL (by decide)) d_law_851 ?_
  refine lv_aload_n hx hb d_law_852 rfl (lv_at hl 1 rfl) ?_
  refine lv_iload hx hb d_law_853 (lv_at hl 5 rfl) ?_
  refine lv_iconst (v := 2) hx hb d_law_855 (by decide) ?_
  refine lv_iadd hx hb d_law_856 ?_
  refine va_sld hx hb hX hbl hbA hS (lz_in (j := 2) hi hL (by decide)) d_law_857 ?_
  have hF1 := zz_free (w := wM b cI cZ) (lz_dr hD) hS hA
  refine va_calli (va_runV (As := [.int (xs (nI i + 1).toNatClampNeg), .int (xs (nI i + 2).toNatClampNeg)]) (rest := []) ⟨hx, hb, hml, hown, hts⟩ (mc_mo_labelOf l dC dI b cI cZ _ (xs (nI i + 1).toNatClampNeg) (xs (nI i + 2).toNatClampNeg) h _ hw2) (zz_cwV 2 hts (zz_good wq_96) rfl rfl rfl wq_97 wq_98 wq_99 wq_8 (by decide +kernel) ⟨Nat.le_of_ble_eq_true rfl, Nat.le_of_ble_eq_true rfl⟩) ⟨zz_blind, va_recv hK2 (lz_r hP) rfl (wM_0 b cI cZ h), zz_pre (w := wM b cI cZ) (lz_r hP) hK2 (lz_dr hD) hN⟩ rfl rfl hl.1 rfl (lv_room (Nat.le_of_ble_eq_true rfl)) d_law_858 ⟨show cells + 1 ≤ 601024 by omega, show slots + 6 * 1 ≤ 7293034 by omega⟩) hS (fun q _ h => hF1 q h) hF1 (fun r2 h1 t1 H1 locs1 ht hvm hp1 hB hz1 hk1 hS1 => ?_)
  obtain ⟨hP1, hK1, hD1⟩ := hB
  rw [ht] at hP1
  obtain ⟨hP, hD⟩ := lz_joinR hP hD hk1 hF1 hP1 hD1
  have hS := hS1
  obtain ⟨hth, hv2, hM1⟩ := hp1
  refine lv_istore (lv' := [(6, .int r2), (5, .int (nI k)), (0, .ref b0), (1, .ref (a 0)), (2, .ref (b 0)), (3, .ref o), (4, .int (nI i))]) hx hb d_law_861 hl (by decide) rfl (fun ls hl => ?_)
  refine lv_aload_n hx hb d_law_863 rfl (lv_at hl 4 rfl) ?_
  have hF2 := zz_free (w := wM b cI cZ) (lz_dr hD) hS hA
  refine va_calli (va_runV (As := []) (rest := []) ⟨hx, hb, hml, hown, hts⟩ (mc_mo_thrown l dC dI b cI cZ _  h1 (fun r3 h3 => r3 = h1 0 0 ∧ h3 = h1) ⟨rfl, rfl⟩) (zz_cwV 0 hts (zz_good wq_9) rfl rfl rfl wq_10 wq_11 wq_12 wq_8 (by decide +kernel) ⟨Nat.le_of_ble_eq_true rfl, Nat.le_of_ble_eq_true rfl⟩) ⟨zz_blind, va_recv hK2 (lz_r hP) rfl (wM_0 b cI cZ h1), zz_pre (w := wM b cI cZ) (lz_r hP) hK2 (lz_dr hD) hN⟩ rfl rfl hl.1 rfl (lv_room (Nat.le_of_ble_eq_true rfl)) d_law_864 ⟨show cells + 1 + 0 ≤ 601024 by omega, show slots + 6 * 1 + 0 ≤ 7293034 by omega⟩) hS (fun q _ h => hF2 q h) hF2 (fun r3 h2 t1 H2 locs2 ht hvm hp2 hB hz1 hk1 hS1 => ?_)
  obtain ⟨hP1, hK1, hD1⟩ := hB
  rw [ht] at hP1
  obtain ⟨hP, hD⟩ := lz_joinR hP hD hk1 hF2 hP1 hD1
  have hS := hS1
  obtain ⟨hr3, hh3⟩ := hp2
  rw [hh3] at hP hD
  refine lv_iload hx hb d_law_867 (lv_at hl 1 rfl) ?_
  refine lv_icmp_eq (tgt := 874) hx hb d_law_869 (by decide) (fun hc => ?_) (fun hc => absurd (hr3.trans hth) hc)
  refine lv_iload hx hb d_law_874 (lv_at hl 1 rfl) ?_
  refine lv_if_ne (tgt := 891) hx hb d_law_876 (by decide) (fun hc => ?_) (fun hc => ?_)
  · refine lv_goto (tgt := 907) hx hb d_law_891 (by decide) ?_
    refine W.widen (k := cells + 2) (n := slots + 12) (by omega) (by omega) ?_
    exact K _ _ _ _ _ _ ⟨⟨n', X', Y', Z', t', hC1, hM1⟩, hP, hD, hS, lv_sub hl [2, 3, 4, 5, 6] rfl⟩
  · have hk0 := lz_nI0 hk2 hc
    refine lv_aload_n hx hb d_law_879 rfl (lv_at hl 5 rfl) ?_
    refine lv_iconst (v := 0) hx hb d_law_880 (by decide) ?_
    refine va_lald hx hb hK hP 18 2 rfl rfl (i := 0) (show ¬ ((0 : Int32) < 0 ∨ 1 ≤ (0 : Int32).toNatClampNeg) by decide) d_law_881 ?_
    refine lv_iload hx hb d_law_882 (lv_at hl 0 rfl) ?_
    refine lv_i2l (v := r2.toInt64) hx hb d_law_884 rfl ?_
    refine W.lcmp hx hb d_law_885 ?_
    refine lv_if_eq (tgt := 891) hx hb d_law_886 (by decide) (fun hc => ?_) (fun hc => absurd (show lg_cmp (f1 0) r2.toInt64 = 0 by rw [show f1 0 = r.toInt64 from hv1 hk0, hv2 hk0]; exact lz_cmp _) hc)
    refine lv_goto (tgt := 907) hx hb d_law_891 (by decide) ?_
    refine W.widen (k := cells + 2) (n := slots + 12) (by omega) (by omega) ?_
    exact K _ _ _ _ _ _ ⟨⟨n', X', Y', Z', t', hC1, hM1⟩, hP, hD, hS, lv_sub hl [2, 3, 4, 5, 6] rfl⟩
set_option maxHeartbeats 4000000 in
set_option maxRecDepth 100000 in
theorem cs_wipe (hx9 : lz_X p l s m c b0 L xs dC dI cI cZ cJ) (hi : i + 4 ≤ L) (hL : L ≤ 2048) (hY : lz_Y s dC dI a b o cI cZ cJ b0 i g h f H locs ls) (hce : cells + 2 ≤ 601024) (hsl : slots + 12 ≤ 7293034) (K : ∀ g h f H locs ls, lz_Y s dC dI a b o cI cZ cJ b0 i g h f H locs ls → W p l e room_1 s m #[Value.ref b0] below meth c H locs (cells + 2) (slots + 12) Q (F0 m 907 ls [])) : W p l e room_1 s m #[Value.ref b0] below meth c H locs cells slots Q (F0 m 894 ls []) := by
  obtain ⟨hx, hb, hml, hown, hts, hX, hbl, hK, hN, hN3, hU, hlt⟩ := hx9
  obtain ⟨⟨n, X, Y, Z, t, hC, hM⟩, hP, hD, hS, hl⟩ := hY
  have hA : ∀ q, s.heap.size ≤ q → lz_A s q := fun _ h => h
  have hbA : ¬ lz_A s b0 := Nat.not_le.mpr hbl
  have hK2 : va_K (dC, dI) zzCl [(cI, .int), (cZ, .boolean)] s := hK.sub [0, 1] rfl
  obtain ⟨r, hw1, hw2⟩ := op_wipe hC hM
  refine lv_aload_n hx hb d_law_894 rfl (lv_at hl 1 rfl) ?_
  have hP : va_P (dC, dI) zzCl (wC a cI cZ g ++ ([(o, .inl (cJ, 1, .inr (.inl f)))] ++ wM b cI cZ h)) H := by rw [← List.append_assoc]; exact hP
  have hD : va_D (lz_A s) (wC a cI cZ g ++ ([(o, .inl (cJ, 1, .inr (.inl f)))] ++ wM b cI cZ h)) := by rw [← List.append_assoc]; exact hD
  have hF := zz_free (w := wC a cI cZ) (lz_dl hD) hS hA
  refine va_calli (va_runV (As := []) (rest := []) ⟨hx, hb, hml, hown, hts⟩ (mc_sc_wipe l dC dI a cI cZ _ g _ hw1) (zz_cwV 0 hts (zz_good wq_100) rfl rfl rfl wq_101 wq_102 wq_103 wq_24 (by decide +kernel) ⟨Nat.le_of_ble_eq_true rfl, Nat.le_of_ble_eq_true rfl⟩) ⟨zz_blind, va_recv hK2 (lz_l hP) rfl (wC_0 a cI cZ g), zz_pre (w := wC a cI cZ) (lz_l hP) hK2 (lz_dl hD) hN⟩ rfl rfl hl.1 rfl (lv_room (Nat.le_of_ble_eq_true rfl)) d_law_895 ⟨show cells + 0 ≤ 601024 by omega, show slots + 0 ≤ 7293034 by omega⟩) hS (fun q _ h => hF q h) hF (fun r1 g1 t1 H1 locs1 ht hvm hp hB hz1 hk1 hS1 => ?_)
  obtain ⟨hP1, hK1, hD1⟩ := hB
  rw [ht] at hP1
  obtain ⟨hP, hD⟩ := lz_join hP hD hk1 hF hP1 hD1
  obtain ⟨hr1, hC1⟩ := hp
  have hS := hS1
  have hP : va_P (dC, dI) zzCl (lz_w a o cI cZ cJ (g1, f) ++ wM b cI cZ h) H1 := by rw [← List.append_assoc] at hP; exact hP
  have hD : va_D (lz_A s) (lz_w a o cI cZ cJ (g1, f) ++ wM b cI cZ h) := by rw [← List.append_assoc] at hD; exact hD
  refine lv_aload_n hx hb d_law_898 rfl (lv_at hl 2 rfl) ?_
  have hF1 := zz_free (w := wM b cI cZ) (lz_dr hD) hS hA
  refine va_calli (va_runV (As := []) (rest := [.int r1]) ⟨hx, hb, hml, hown, hts⟩ (mc_mo_wipe l dC dI b cI cZ _ h _ hw2) (zz_cwV 0 hts (zz_good wq_104) rfl rfl rfl wq_105 wq_106 wq_107 wq_8 (by decide +kernel) ⟨Nat.le_of_ble_eq_true rfl, Nat.le_of_ble_eq_true rfl⟩) ⟨zz_blind, va_recv hK2 (lz_r hP) rfl (wM_0 b cI cZ h), zz_pre (w := wM b cI cZ) (lz_r hP) hK2 (lz_dr hD) hN⟩ rfl rfl hl.1 rfl (lv_room (Nat.le_of_ble_eq_true rfl)) d_law_899 ⟨show cells + 0 + 0 ≤ 601024 by omega, show slots + 0 + 0 ≤ 7293034 by omega⟩) hS (fun q _ h => hF1 q h) hF1 (fun r2 h1 t1 H2 locs2 ht hvm hp hB hz1 hk1 hS1 => ?_)
  obtain ⟨hP1, hK1, hD1⟩ := hB
  rw [ht] at hP1
  obtain ⟨hP, hD⟩ := lz_joinR hP hD hk1 hF1 hP1 hD1
  obtain ⟨hr2, hM1⟩ := hp
  have hS := hS1
  refine lv_icmp_eq (tgt := 907) hx hb d_law_902 (by decide) (fun hc => ?_) (fun hc => absurd (hr1.trans hr2.symm) hc)
  refine W.widen (k := cells + 2) (n := slots + 12) (by omega) (by omega) ?_
  exact K _ _ _ _ _ _ ⟨⟨n, X, Y, Z, (0, t.2), hC1, hM1⟩, hP, hD, hS, hl⟩
end
