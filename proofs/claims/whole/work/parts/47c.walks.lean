/-! Contracts by their walks, printed. -/
abbrev rm_sp_turn : Room := { frames := 1, cells := 0, slots := 0, locals := 24 }
set_option maxHeartbeats 4000000 in
set_option maxRecDepth 100000 in
theorem mc_sp_turn (l : Launch) (dC : Nat → ClassId) (dI : Nat → Nat → Nat) (a : Nat → Nat) (cI cZ : ClassId) (sz : Nat) (x1 : Int32) (x2 : Int32) (x3 : Int32) (g : St) (post : Int32 → St → Prop) (h : wp_sp_turn x1 x2 x3 g post) : Met l yy_sp_turn ww_sp_turn rm_sp_turn (zz_Pre (dC, dI) (wC a cI cZ) [(cI, .int), (cZ, .boolean)] [.ref (a 1), .int x1, .int x2, .int x3] g sz) (va_Qi post (zz_W (dC, dI) (wC a cI cZ) [(cI, .int), (cZ, .boolean)] (va_A (wC a cI cZ g) sz)) (va_A (wC a cI cZ g) sz)) 0 0 (va_A (wC a cI cZ g) sz) := by
  refine Met.ofW (cc := cc_sp_turn) (maxL := 4) (ret := (some .int)) (by decide) rfl ?_
  intro p e s m args below meth c s₁ B hml hv
  obtain ⟨hav, hsz, hP, hK, hD0, hN⟩ := hv
  have hx := B.exec
  have hb := B.bytes
  have hr := B.returns
  have hts := atoms_spec (ws := ww_sp_turn) B.pre
  have hown : s.vm.findClass "SpotContours$Spots" = some m.cls := findClass_of_methodNamed B.named
  have hlocks := B.notSynchronized
  subst hsz
  have hD := hD0.self (sz := s.heap.size)
  generalize hAe : va_A (wC a cI cZ g) s.heap.size = A at hD ⊢
  have hA : ∀ q : Nat, s.heap.size ≤ q → A q := fun q h => by rw [← hAe]; exact Or.inr h
  have hS : va_S A s.heap s.heap [] := va_S.rf
  have he9 := lg_entry_eq m [.ref (a 1), .int x1, .int x2, .int x3] 4
  rw [← hav] at he9
  rw [he9]
  have hl := lv_entry [.ref (a 1), .int x1, .int x2, .int x3] (n := 4) (Nat.le_of_ble_eq_true rfl)
  generalize (lg_sl [.ref (a 1), .int x1, .int x2, .int x3] ++ List.replicate (4 - (lg_sl [.ref (a 1), .int x1, .int x2, .int x3]).length) Slot.unset).toArray = ls at hl ⊢
  have hl : lv_has ls 4 [(0, .ref (a 1)), (1, .int x1), (2, .int x2), (3, .int x3)] := hl
  have hin__sp : ∀ w ∈ u_ws R_sp T_sp 4, w ∈ ww_sp_turn := fun w h => zz_in (hin0_sp w h)
  have fl_9 := hts (.fieldLink "SpotContours$Spots" 9 "SpotContours$Spots" "xs" "[I") (zz_in wm_360)
  have fl_15 := hts (.fieldLink "SpotContours$Spots" 15 "SpotContours$Spots" "ys" "[I") (zz_in wm_368)
  unfold wp_sp_turn at h
  refine lv_aload_n hx hb d_sp_turn_0 rfl (lv_at hl 0 rfl) ?_
  refine lv_iload_n hx hb d_sp_turn_1 rfl (lv_at hl 1 rfl) ?_
  refine lv_iload_n hx hb d_sp_turn_2 rfl (lv_at hl 2 rfl) ?_
  refine lv_aload_n hx hb d_sp_turn_3 rfl (lv_at hl 0 rfl) ?_
  refine va_get (D := (dC, dI)) (ci := 2) (v := .ref (a 5)) (C := R_sp) (T := T_sp) (N := 4) hx hb hts hin__sp hown hK hP 1 (wC_1 a cI cZ g) rfl 0 (by decide) fl_9 (fun _ h9 => h9) rfl d_sp_turn_4 ?_
  refine lv_iload_n hx hb d_sp_turn_7 rfl (lv_at hl 3 rfl) ?_
  refine va_iald hx hb hK hP 5 0 (wC_5 a cI cZ g) rfl h.1 d_sp_turn_8 ?_
  have h := h.2
  refine lv_aload_n hx hb d_sp_turn_9 rfl (lv_at hl 0 rfl) ?_
  refine va_get (D := (dC, dI)) (ci := 2) (v := .ref (a 6)) (C := R_sp) (T := T_sp) (N := 4) hx hb hts hin__sp hown hK hP 1 (wC_1 a cI cZ g) rfl 1 (by decide) fl_15 (fun _ h9 => h9) rfl d_sp_turn_10 ?_
  refine lv_iload_n hx hb d_sp_turn_13 rfl (lv_at hl 3 rfl) ?_
  refine va_iald hx hb hK hP 6 0 (wC_6 a cI cZ g) rfl h.1 d_sp_turn_14 ?_
  have h := h.2
  refine zz_ci (va_runV (As := [.int x1, .int x2, .int (g 5 (ix x3)), .int (g 6 (ix x3))]) (rest := []) ⟨hx, hb, hml, hown, hts⟩ (mc_sp_turnTo l dC dI a cI cZ _ x1 x2 (g 5 (ix x3)) (g 6 (ix x3)) g _ h) (zz_cwV 4 hts (zz_good wm_64) rfl rfl rfl wm_65 wm_66 wm_67 wm_1 (by decide +kernel) ⟨Nat.le_of_ble_eq_true rfl, Nat.le_of_ble_eq_true rfl⟩) ⟨zz_blind, (va_recv hK hP rfl (wC_1 a cI cZ g)), zz_pre hP hK hD hN⟩ rfl rfl hl.1 rfl (lv_room (Nat.le_of_ble_eq_true rfl)) d_sp_turn_15 ⟨Nat.le_of_ble_eq_true rfl, Nat.le_of_ble_eq_true rfl⟩) hD hS hA (fun r2 g1 H locs h hP hD hS => ?_)
  exact W.iret (v := r2) hx hb hr (fun t ht hW => ⟨⟨r2, g1, rfl, h, by rw [ht]; exact hP, va_K.moved hW.alike hK, hD⟩, hS.F ht⟩) hS.2.2 d_sp_turn_18
abbrev rm_sp_squareFrom : Room := { frames := 0, cells := 0, slots := 0, locals := 0 }
set_option maxHeartbeats 4000000 in
set_option maxRecDepth 100000 in
theorem mc_sp_squareFrom (l : Launch) (dC : Nat → ClassId) (dI : Nat → Nat → Nat) (a : Nat → Nat) (cI cZ : ClassId) (sz : Nat) (x1 : Int32) (x2 : Int32) (g : St) (post : Int64 → St → Prop) (h : wp_sp_squareFrom x1 x2 g post) : Met l yy_sp_squareFrom ww_sp_squareFrom rm_sp_squareFrom (zz_Pre (dC, dI) (wC a cI cZ) [(cI, .int), (cZ, .boolean)] [.ref (a 1), .int x1, .int x2] g sz) (va_Ql post (zz_W (dC, dI) (wC a cI cZ) [(cI, .int), (cZ, .boolean)] (va_A (wC a cI cZ g) sz)) (va_A (wC a cI cZ g) sz)) 0 0 (va_A (wC a cI cZ g) sz) := by
  refine Met.ofW (cc := cc_sp_squareFrom) (maxL := 7) (ret := (some .long)) (by decide) rfl ?_
  intro p e s m args below meth c s₁ B hml hv
  obtain ⟨hav, hsz, hP, hK, hD0, hN⟩ := hv
  have hx := B.exec
  have hb := B.bytes
  have hr := B.returns
  have hts := atoms_spec (ws := ww_sp_squareFrom) B.pre
  have hown : s.vm.findClass "SpotContours$Spots" = some m.cls := findClass_of_methodNamed B.named
  have hlocks := B.notSynchronized
  subst hsz
  have hD := hD0.self (sz := s.heap.size)
  generalize hAe : va_A (wC a cI cZ g) s.heap.size = A at hD ⊢
  have hA : ∀ q : Nat, s.heap.size ≤ q → A q := fun q h => by rw [← hAe]; exact Or.inr h
  have hS : va_S A s.heap s.heap [] := va_S.rf
  have he9 := lg_entry_eq m [.ref (a 1), .int x1, .int x2] 7
  rw [← hav] at he9
  rw [he9]
  have hl := lv_entry [.ref (a 1), .int x1, .int x2] (n := 7) (Nat.le_of_ble_eq_true rfl)
  generalize (lg_sl [.ref (a 1), .int x1, .int x2] ++ List.replicate (7 - (lg_sl [.ref (a 1), .int x1, .int x2]).length) Slot.unset).toArray = ls at hl ⊢
  have hl : lv_has ls 7 [(0, .ref (a 1)), (1, .int x1), (2, .int x2)] := hl
  have hin__sp : ∀ w ∈ u_ws R_sp T_sp 4, w ∈ ww_sp_squareFrom := fun w h => zz_in (hin0_sp w h)
  have fl_9 := hts (.fieldLink "SpotContours$Spots" 9 "SpotContours$Spots" "xs" "[I") (zz_in wm_360)
  have fl_15 := hts (.fieldLink "SpotContours$Spots" 15 "SpotContours$Spots" "ys" "[I") (zz_in wm_368)
  unfold wp_sp_squareFrom at h
  refine lv_aload_n hx hb d_sp_squareFrom_0 rfl (lv_at hl 0 rfl) ?_
  refine va_get (D := (dC, dI)) (ci := 2) (v := .ref (a 5)) (C := R_sp) (T := T_sp) (N := 4) hx hb hts hin__sp hown hK hP 1 (wC_1 a cI cZ g) rfl 0 (by decide) fl_9 (fun _ h9 => h9) rfl d_sp_squareFrom_1 ?_
  refine lv_iload_n hx hb d_sp_squareFrom_4 rfl (lv_at hl 2 rfl) ?_
  refine va_iald hx hb hK hP 5 0 (wC_5 a cI cZ g) rfl h.1 d_sp_squareFrom_5 ?_
  have h := h.2
  refine lv_aload_n hx hb d_sp_squareFrom_6 rfl (lv_at hl 0 rfl) ?_
  refine va_get (D := (dC, dI)) (ci := 2) (v := .ref (a 5)) (C := R_sp) (T := T_sp) (N := 4) hx hb hts hin__sp hown hK hP 1 (wC_1 a cI cZ g) rfl 0 (by decide) fl_9 (fun _ h9 => h9) rfl d_sp_squareFrom_7 ?_
  refine lv_iload_n hx hb d_sp_squareFrom_10 rfl (lv_at hl 1 rfl) ?_
  refine va_iald hx hb hK hP 5 0 (wC_5 a cI cZ g) rfl h.1 d_sp_squareFrom_11 ?_
  have h := h.2
  refine lv_isub hx hb d_sp_squareFrom_12 ?_
  refine lv_i2l (v := ((g 5 (ix x2)) - (g 5 (ix x1))).toInt64) hx hb d_sp_squareFrom_13 rfl ?_
  refine lv_lstore_n (lv' := [(3, .long ((g 5 (ix x2)) - (g 5 (ix x1))).toInt64), (0, .ref (a 1)), (1, .int x1), (2, .int x2)]) hx hb d_sp_squareFrom_14 rfl hl (by decide) rfl (fun ls hl => ?_)
  refine lv_aload_n hx hb d_sp_squareFrom_15 rfl (lv_at hl 1 rfl) ?_
  refine va_get (D := (dC, dI)) (ci := 2) (v := .ref (a 6)) (C := R_sp) (T := T_sp) (N := 4) hx hb hts hin__sp hown hK hP 1 (wC_1 a cI cZ g) rfl 1 (by decide) fl_15 (fun _ h9 => h9) rfl d_sp_squareFrom_16 ?_
  refine lv_iload_n hx hb d_sp_squareFrom_19 rfl (lv_at hl 3 rfl) ?_
  refine va_iald hx hb hK hP 6 0 (wC_6 a cI cZ g) rfl h.1 d_sp_squareFrom_20 ?_
  have h := h.2
  refine lv_aload_n hx hb d_sp_squareFrom_21 rfl (lv_at hl 1 rfl) ?_
  refine va_get (D := (dC, dI)) (ci := 2) (v := .ref (a 6)) (C := R_sp) (T := T_sp) (N := 4) hx hb hts hin__sp hown hK hP 1 (wC_1 a cI cZ g) rfl 1 (by decide) fl_15 (fun _ h9 => h9) rfl d_sp_squareFrom_22 ?_
  refine lv_iload_n hx hb d_sp_squareFrom_25 rfl (lv_at hl 2 rfl) ?_
  refine va_iald hx hb hK hP 6 0 (wC_6 a cI cZ g) rfl h.1 d_sp_squareFrom_26 ?_
  have h := h.2
  refine lv_isub hx hb d_sp_squareFrom_27 ?_
  refine lv_i2l (v := ((g 6 (ix x2)) - (g 6 (ix x1))).toInt64) hx hb d_sp_squareFrom_28 rfl ?_
  refine lv_lstore (lv' := [(5, .long ((g 6 (ix x2)) - (g 6 (ix x1))).toInt64), (3, .long ((g 5 (ix x2)) - (g 5 (ix x1))).toInt64), (0, .ref (a 1)), (1, .int x1), (2, .int x2)]) hx hb d_sp_squareFrom_29 hl (by decide) rfl (fun ls hl => ?_)
  refine lv_lload_n hx hb d_sp_squareFrom_31 rfl (lv_at hl 1 rfl) ?_
  refine lv_lload_n hx hb d_sp_squareFrom_32 rfl (lv_at hl 1 rfl) ?_
  refine lv_lmul hx hb d_sp_squareFrom_33 ?_
  refine lv_lload hx hb d_sp_squareFrom_34 (lv_at hl 0 rfl) ?_
  refine lv_lload hx hb d_sp_squareFrom_36 (lv_at hl 0 rfl) ?_
  refine lv_lmul hx hb d_sp_squareFrom_38 ?_
  refine lv_ladd hx hb d_sp_squareFrom_39 ?_
  exact W.lret (v := ((((g 5 (ix x2)) - (g 5 (ix x1))).toInt64 * ((g 5 (ix x2)) - (g 5 (ix x1))).toInt64) + (((g 6 (ix x2)) - (g 6 (ix x1))).toInt64 * ((g 6 (ix x2)) - (g 6 (ix x1))).toInt64))) hx hb hr (fun t ht hW => ⟨⟨((((g 5 (ix x2)) - (g 5 (ix x1))).toInt64 * ((g 5 (ix x2)) - (g 5 (ix x1))).toInt64) + (((g 6 (ix x2)) - (g 6 (ix x1))).toInt64 * ((g 6 (ix x2)) - (g 6 (ix x1))).toInt64)), g, rfl, h, by rw [ht]; exact hP, va_K.moved hW.alike hK, hD⟩, hS.F ht⟩) hS.2.2 d_sp_squareFrom_40
abbrev rm_sp_depthInCircle : Room := { frames := 2, cells := 0, slots := 0, locals := 47 }
set_option maxHeartbeats 4000000 in
set_option maxRecDepth 100000 in
theorem mc_sp_depthInCircle (l : Launch) (dC : Nat → ClassId) (dI : Nat → Nat → Nat) (a : Nat → Nat) (cI cZ : ClassId) (sz : Nat) (x1 : Int32) (x2 : Int32) (x3 : Int32) (x4 : Int32) (g : St) (post : Int64 → St → Prop) (h : wp_sp_depthInCircle x1 x2 x3 x4 g post) : Met l yy_sp_depthInCircle ww_sp_depthInCircle rm_sp_depthInCircle (zz_Pre (dC, dI) (wC a cI cZ) [(cI, .int), (cZ, .boolean)] [.ref (a 1), .int x1, .int x2, .int x3, .int x4] g sz) (va_Ql post (zz_W (dC, dI) (wC a cI cZ) [(cI, .int), (cZ, .boolean)] (va_A (wC a cI cZ g) sz)) (va_A (wC a cI cZ g) sz)) 0 0 (va_A (wC a cI cZ g) sz) := by
  refine Met.ofW (cc := cc_sp_depthInCircle) (maxL := 7) (ret := (some .long)) (by decide) rfl ?_
  intro p e s m args below meth c s₁ B hml hv
  obtain ⟨hav, hsz, hP, hK, hD0, hN⟩ := hv
  have hx := B.exec
  have hb := B.bytes
  have hr := B.returns
  have hts := atoms_spec (ws := ww_sp_depthInCircle) B.pre
  have hown : s.vm.findClass "SpotContours$Spots" = some m.cls := findClass_of_methodNamed B.named
  have hlocks := B.notSynchronized
  subst hsz
  have hD := hD0.self (sz := s.heap.size)
  generalize hAe : va_A (wC a cI cZ g) s.heap.size = A at hD ⊢
  have hA : ∀ q : Nat, s.heap.size ≤ q → A q := fun q h => by rw [← hAe]; exact Or.inr h
  have hS : va_S A s.heap s.heap [] := va_S.rf
  have he9 := lg_entry_eq m [.ref (a 1), .int x1, .int x2, .int x3, .int x4] 7
  rw [← hav] at he9
  rw [he9]
  have hl := lv_entry [.ref (a 1), .int x1, .int x2, .int x3, .int x4] (n := 7) (Nat.le_of_ble_eq_true rfl)
  generalize (lg_sl [.ref (a 1), .int x1, .int x2, .int x3, .int x4] ++ List.replicate (7 - (lg_sl [.ref (a 1), .int x1, .int x2, .int x3, .int x4]).length) Slot.unset).toArray = ls at hl ⊢
  have hl : lv_has ls 7 [(0, .ref (a 1)), (1, .int x1), (2, .int x2), (3, .int x3), (4, .int x4)] := hl
  unfold wp_sp_depthInCircle at h
  refine lv_aload_n hx hb d_sp_depthInCircle_0 rfl (lv_at hl 0 rfl) ?_
  refine lv_iload hx hb d_sp_depthInCircle_1 (lv_at hl 4 rfl) ?_
  refine lv_iload_n hx hb d_sp_depthInCircle_3 rfl (lv_at hl 1 rfl) ?_
  refine zz_cl (va_runV (As := [.int x4, .int x1]) (rest := []) ⟨hx, hb, hml, hown, hts⟩ (mc_sp_squareFrom l dC dI a cI cZ _ x4 x1 g _ h) (zz_cwV 2 hts (zz_good wm_72) rfl rfl rfl wm_73 wm_74 wm_75 wm_1 (by decide +kernel) ⟨Nat.le_of_ble_eq_true rfl, Nat.le_of_ble_eq_true rfl⟩) ⟨zz_blind, (va_recv hK hP rfl (wC_1 a cI cZ g)), zz_pre hP hK hD hN⟩ rfl rfl hl.1 rfl (lv_room (Nat.le_of_ble_eq_true rfl)) d_sp_depthInCircle_4 ⟨Nat.le_of_ble_eq_true rfl, Nat.le_of_ble_eq_true rfl⟩) hD hS hA (fun r2 g1 H locs h hP hD hS => ?_)
  refine lv_aload_n hx hb d_sp_depthInCircle_7 rfl (lv_at hl 0 rfl) ?_
  refine lv_iload hx hb d_sp_depthInCircle_8 (lv_at hl 4 rfl) ?_
  refine lv_iload_n hx hb d_sp_depthInCircle_10 rfl (lv_at hl 2 rfl) ?_
  refine lv_iload_n hx hb d_sp_depthInCircle_11 rfl (lv_at hl 3 rfl) ?_
  refine zz_ci (va_runV (As := [.int x4, .int x2, .int x3]) (rest := [.long r2]) ⟨hx, hb, hml, hown, hts⟩ (mc_sp_turn l dC dI a cI cZ _ x4 x2 x3 g1 _ h) (zz_cwV 3 hts (zz_good wm_68) rfl rfl rfl wm_69 wm_70 wm_71 wm_1 (by decide +kernel) ⟨Nat.le_of_ble_eq_true rfl, Nat.le_of_ble_eq_true rfl⟩) ⟨zz_blind, (va_recv hK hP rfl (wC_1 a cI cZ g1)), zz_pre hP hK hD hN⟩ rfl rfl hl.1 rfl (lv_room (Nat.le_of_ble_eq_true rfl)) d_sp_depthInCircle_12 ⟨Nat.le_of_ble_eq_true rfl, Nat.le_of_ble_eq_true rfl⟩) hD hS hA (fun r4 g3 H locs h hP hD hS => ?_)
  refine lv_i2l (v := r4.toInt64) hx hb d_sp_depthInCircle_15 rfl ?_
  refine lv_lmul hx hb d_sp_depthInCircle_16 ?_
  refine lv_aload_n hx hb d_sp_depthInCircle_17 rfl (lv_at hl 0 rfl) ?_
  refine lv_iload hx hb d_sp_depthInCircle_18 (lv_at hl 4 rfl) ?_
  refine lv_iload_n hx hb d_sp_depthInCircle_20 rfl (lv_at hl 2 rfl) ?_
  refine zz_cl (va_runV (As := [.int x4, .int x2]) (rest := [.long (r2 * r4.toInt64)]) ⟨hx, hb, hml, hown, hts⟩ (mc_sp_squareFrom l dC dI a cI cZ _ x4 x2 g3 _ h) (zz_cwV 2 hts (zz_good wm_72) rfl rfl rfl wm_73 wm_74 wm_75 wm_1 (by decide +kernel) ⟨Nat.le_of_ble_eq_true rfl, Nat.le_of_ble_eq_true rfl⟩) ⟨zz_blind, (va_recv hK hP rfl (wC_1 a cI cZ g3)), zz_pre hP hK hD hN⟩ rfl rfl hl.1 rfl (lv_room (Nat.le_of_ble_eq_true rfl)) d_sp_depthInCircle_21 ⟨Nat.le_of_ble_eq_true rfl, Nat.le_of_ble_eq_true rfl⟩) hD hS hA (fun r6 g5 H locs h hP hD hS => ?_)
  refine lv_aload_n hx hb d_sp_depthInCircle_24 rfl (lv_at hl 0 rfl) ?_
  refine lv_iload hx hb d_sp_depthInCircle_25 (lv_at hl 4 rfl) ?_
  refine lv_iload_n hx hb d_sp_depthInCircle_27 rfl (lv_at hl 1 rfl) ?_
  refine lv_iload_n hx hb d_sp_depthInCircle_28 rfl (lv_at hl 3 rfl) ?_
  refine zz_ci (va_runV (As := [.int x4, .int x1, .int x3]) (rest := [.long r6, .long (r2 * r4.toInt64)]) ⟨hx, hb, hml, hown, hts⟩ (mc_sp_turn l dC dI a cI cZ _ x4 x1 x3 g5 _ h) (zz_cwV 3 hts (zz_good wm_68) rfl rfl rfl wm_69 wm_70 wm_71 wm_1 (by decide +kernel) ⟨Nat.le_of_ble_eq_true rfl, Nat.le_of_ble_eq_true rfl⟩) ⟨zz_blind, (va_recv hK hP rfl (wC_1 a cI cZ g5)), zz_pre hP hK hD hN⟩ rfl rfl hl.1 rfl (lv_room (Nat.le_of_ble_eq_true rfl)) d_sp_depthInCircle_29 ⟨Nat.le_of_ble_eq_true rfl, Nat.le_of_ble_eq_true rfl⟩) hD hS hA (fun r8 g7 H locs h hP hD hS => ?_)
  refine lv_i2l (v := r8.toInt64) hx hb d_sp_depthInCircle_32 rfl ?_
  refine lv_lmul hx hb d_sp_depthInCircle_33 ?_
  refine lv_lsub hx hb d_sp_depthInCircle_34 ?_
  refine lv_aload_n hx hb d_sp_depthInCircle_35 rfl (lv_at hl 0 rfl) ?_
  refine lv_iload hx hb d_sp_depthInCircle_36 (lv_at hl 4 rfl) ?_
  refine lv_iload_n hx hb d_sp_depthInCircle_38 rfl (lv_at hl 3 rfl) ?_
  refine zz_cl (va_runV (As := [.int x4, .int x3]) (rest := [.long ((r2 * r4.toInt64) - (r6 * r8.toInt64))]) ⟨hx, hb, hml, hown, hts⟩ (mc_sp_squareFrom l dC dI a cI cZ _ x4 x3 g7 _ h) (zz_cwV 2 hts (zz_good wm_72) rfl rfl rfl wm_73 wm_74 wm_75 wm_1 (by decide +kernel) ⟨Nat.le_of_ble_eq_true rfl, Nat.le_of_ble_eq_true rfl⟩) ⟨zz_blind, (va_recv hK hP rfl (wC_1 a cI cZ g7)), zz_pre hP hK hD hN⟩ rfl rfl hl.1 rfl (lv_room (Nat.le_of_ble_eq_true rfl)) d_sp_depthInCircle_39 ⟨Nat.le_of_ble_eq_true rfl, Nat.le_of_ble_eq_true rfl⟩) hD hS hA (fun r10 g9 H locs h hP hD hS => ?_)
  refine lv_aload_n hx hb d_sp_depthInCircle_42 rfl (lv_at hl 0 rfl) ?_
  refine lv_iload hx hb d_sp_depthInCircle_43 (lv_at hl 4 rfl) ?_
  refine lv_iload_n hx hb d_sp_depthInCircle_45 rfl (lv_at hl 1 rfl) ?_
  refine lv_iload_n hx hb d_sp_depthInCircle_46 rfl (lv_at hl 2 rfl) ?_
  refine zz_ci (va_runV (As := [.int x4, .int x1, .int x2]) (rest := [.long r10, .long ((r2 * r4.toInt64) - (r6 * r8.toInt64))]) ⟨hx, hb, hml, hown, hts⟩ (mc_sp_turn l dC dI a cI cZ _ x4 x1 x2 g9 _ h) (zz_cwV 3 hts (zz_good wm_68) rfl rfl rfl wm_69 wm_70 wm_71 wm_1 (by decide +kernel) ⟨Nat.le_of_ble_eq_true rfl, Nat.le_of_ble_eq_true rfl⟩) ⟨zz_blind, (va_recv hK hP rfl (wC_1 a cI cZ g9)), zz_pre hP hK hD hN⟩ rfl rfl hl.1 rfl (lv_room (Nat.le_of_ble_eq_true rfl)) d_sp_depthInCircle_47 ⟨Nat.le_of_ble_eq_true rfl, Nat.le_of_ble_eq_true rfl⟩) hD hS hA (fun r12 g11 H locs h hP hD hS => ?_)
  refine lv_i2l (v := r12.toInt64) hx hb d_sp_depthInCircle_50 rfl ?_
  refine lv_lmul hx hb d_sp_depthInCircle_51 ?_
  refine lv_ladd hx hb d_sp_depthInCircle_52 ?_
  refine lv_lstore (lv' := [(5, .long (((r2 * r4.toInt64) - (r6 * r8.toInt64)) + (r10 * r12.toInt64))), (0, .ref (a 1)), (1, .int x1), (2, .int x2), (3, .int x3), (4, .int x4)]) hx hb d_sp_depthInCircle_53 hl (by decide) rfl (fun ls hl => ?_)
  refine lv_aload_n hx hb d_sp_depthInCircle_55 rfl (lv_at hl 1 rfl) ?_
  refine lv_iload_n hx hb d_sp_depthInCircle_56 rfl (lv_at hl 2 rfl) ?_
  refine lv_iload_n hx hb d_sp_depthInCircle_57 rfl (lv_at hl 3 rfl) ?_
  refine lv_iload_n hx hb d_sp_depthInCircle_58 rfl (lv_at hl 4 rfl) ?_
  refine zz_ci (va_runV (As := [.int x1, .int x2, .int x3]) (rest := []) ⟨hx, hb, hml, hown, hts⟩ (mc_sp_turn l dC dI a cI cZ _ x1 x2 x3 g11 _ h) (zz_cwV 3 hts (zz_good wm_68) rfl rfl rfl wm_69 wm_70 wm_71 wm_1 (by decide +kernel) ⟨Nat.le_of_ble_eq_true rfl, Nat.le_of_ble_eq_true rfl⟩) ⟨zz_blind, (va_recv hK hP rfl (wC_1 a cI cZ g11)), zz_pre hP hK hD hN⟩ rfl rfl hl.1 rfl (lv_room (Nat.le_of_ble_eq_true rfl)) d_sp_depthInCircle_59 ⟨Nat.le_of_ble_eq_true rfl, Nat.le_of_ble_eq_true rfl⟩) hD hS hA (fun r14 g13 H locs h hP hD hS => ?_)
  refine lv_if_le (tgt := 70) hx hb d_sp_depthInCircle_62 (by decide) (fun hc => ?_) (fun hc => ?_)
  · have h := h.1 hc
    refine lv_lload hx hb d_sp_depthInCircle_70 (lv_at hl 0 rfl) ?_
    refine lv_lneg hx hb d_sp_depthInCircle_72 ?_
    exact W.lret (v := (-(((r2 * r4.toInt64) - (r6 * r8.toInt64)) + (r10 * r12.toInt64)))) hx hb hr (fun t ht hW => ⟨⟨(-(((r2 * r4.toInt64) - (r6 * r8.toInt64)) + (r10 * r12.toInt64))), g13, rfl, h, by rw [ht]; exact hP, va_K.moved hW.alike hK, hD⟩, hS.F ht⟩) hS.2.2 d_sp_depthInCircle_73
  · have h := h.2 hc
    refine lv_lload hx hb d_sp_depthInCircle_65 (lv_at hl 0 rfl) ?_
    refine lv_goto (tgt := 73) hx hb d_sp_depthInCircle_67 (by decide) ?_
    exact W.lret (v := (((r2 * r4.toInt64) - (r6 * r8.toInt64)) + (r10 * r12.toInt64))) hx hb hr (fun t ht hW => ⟨⟨(((r2 * r4.toInt64) - (r6 * r8.toInt64)) + (r10 * r12.toInt64)), g13, rfl, h, by rw [ht]; exact hP, va_K.moved hW.alike hK, hD⟩, hS.F ht⟩) hS.2.2 d_sp_depthInCircle_73
abbrev rm_sp_areOpposite : Room := { frames := 2, cells := 0, slots := 0, locals := 47 }
set_option maxHeartbeats 4000000 in
set_option maxRecDepth 100000 in
theorem mc_sp_areOpposite (l : Launch) (dC : Nat → ClassId) (dI : Nat → Nat → Nat) (a : Nat → Nat) (cI cZ : ClassId) (sz : Nat) (x1 : Int32) (x2 : Int32) (x3 : Int32) (x4 : Int32) (g : St) (post : Int32 → St → Prop) (h : wp_sp_areOpposite x1 x2 x3 x4 g post) : Met l yy_sp_areOpposite ww_sp_areOpposite rm_sp_areOpposite (zz_Pre (dC, dI) (wC a cI cZ) [(cI, .int), (cZ, .boolean)] [.ref (a 1), .int x1, .int x2, .int x3, .int x4] g sz) (va_Qi post (zz_W (dC, dI) (wC a cI cZ) [(cI, .int), (cZ, .boolean)] (va_A (wC a cI cZ g) sz)) (va_A (wC a cI cZ g) sz)) 0 0 (va_A (wC a cI cZ g) sz) := by
  refine Met.ofW (cc := cc_sp_areOpposite) (maxL := 5) (ret := (some .boolean)) (by decide) rfl ?_
  intro p e s m args below meth c s₁ B hml hv
  obtain ⟨hav, hsz, hP, hK, hD0, hN⟩ := hv
  have hx := B.exec
  have hb := B.bytes
  have hr := B.returns
  have hts := atoms_spec (ws := ww_sp_areOpposite) B.pre
  have hown : s.vm.findClass "SpotContours$Spots" = some m.cls := findClass_of_methodNamed B.named
  have hlocks := B.notSynchronized
  subst hsz
  have hD := hD0.self (sz := s.heap.size)
  generalize hAe : va_A (wC a cI cZ g) s.heap.size = A at hD ⊢
  have hA : ∀ q : Nat, s.heap.size ≤ q → A q := fun q h => by rw [← hAe]; exact Or.inr h
  have hS : va_S A s.heap s.heap [] := va_S.rf
  have he9 := lg_entry_eq m [.ref (a 1), .int x1, .int x2, .int x3, .int x4] 5
  rw [← hav] at he9
  rw [he9]
  have hl := lv_entry [.ref (a 1), .int x1, .int x2, .int x3, .int x4] (n := 5) (Nat.le_of_ble_eq_true rfl)
  generalize (lg_sl [.ref (a 1), .int x1, .int x2, .int x3, .int x4] ++ List.replicate (5 - (lg_sl [.ref (a 1), .int x1, .int x2, .int x3, .int x4]).length) Slot.unset).toArray = ls at hl ⊢
  have hl : lv_has ls 5 [(0, .ref (a 1)), (1, .int x1), (2, .int x2), (3, .int x3), (4, .int x4)] := hl
  have J15 : ∀ (v1 : Int32) (v2 : Int32) (v4 : Int32) (s0 : Int32) (g : St), jn_sp_areOpposite_J15 v1 v2 v4 s0 g post → ∀ (H : Heap) (locs : List Loc) (ls : Array Slot), va_P (dC, dI) zzCl (wC a cI cZ g) H → va_D A (wC a cI cZ g) → va_S A s.heap H locs → lv_has ls 5 [(0, .ref (a 1)), (1, .int v1), (2, .int v2), (4, .int v4)] → W p l e (headSpec ww_sp_areOpposite rm_sp_areOpposite).room s m args below meth c H locs 0 0 (zz_Qi below (dC, dI) (wC a cI cZ) [(cI, .int), (cZ, .boolean)] A post args s) (F0 m 15 ls [.int s0]) := by
    intro v1 v2 v4 s0 g h H locs ls hP hD hS hl
    unfold jn_sp_areOpposite_J15 at h
    refine lv_aload_n hx hb d_sp_areOpposite_15 rfl (lv_at hl 0 rfl) ?_
    refine lv_iload_n hx hb d_sp_areOpposite_16 rfl (lv_at hl 1 rfl) ?_
    refine lv_iload_n hx hb d_sp_areOpposite_17 rfl (lv_at hl 2 rfl) ?_
    refine lv_iload hx hb d_sp_areOpposite_18 (lv_at hl 3 rfl) ?_
    refine zz_ci (va_runV (As := [.int v1, .int v2, .int v4]) (rest := [.int s0]) ⟨hx, hb, hml, hown, hts⟩ (mc_sp_turn l dC dI a cI cZ _ v1 v2 v4 g _ h) (zz_cwV 3 hts (zz_good wm_68) rfl rfl rfl wm_69 wm_70 wm_71 wm_1 (by decide +kernel) ⟨Nat.le_of_ble_eq_true rfl, Nat.le_of_ble_eq_true rfl⟩) ⟨zz_blind, (va_recv hK hP rfl (wC_1 a cI cZ g)), zz_pre hP hK hD hN⟩ rfl rfl hl.1 rfl (lv_room (Nat.le_of_ble_eq_true rfl)) d_sp_areOpposite_20 ⟨Nat.le_of_ble_eq_true rfl, Nat.le_of_ble_eq_true rfl⟩) hD hS hA (fun r4 g3 H locs h hP hD hS => ?_)
    refine lv_if_le (tgt := 30) hx hb d_sp_areOpposite_23 (by decide) (fun hc => ?_) (fun hc => ?_)
    · have h := h.1 hc
      refine lv_iconst (v := 0) hx hb d_sp_areOpposite_30 (by decide) ?_
      refine lv_icmp_eq (tgt := 38) hx hb d_sp_areOpposite_31 (by decide) (fun hc => ?_) (fun hc => ?_)
      · have h := h.1 hc
        refine lv_iconst (v := 0) hx hb d_sp_areOpposite_38 (by decide) ?_
        exact W.zret (v := 0) hx hb hr (by decide) (fun t ht hW => ⟨⟨0, g3, rfl, h, by rw [ht]; exact hP, va_K.moved hW.alike hK, hD⟩, hS.F ht⟩) hS.2.2 d_sp_areOpposite_39
      · have h := h.2 hc
        refine lv_iconst (v := 1) hx hb d_sp_areOpposite_34 (by decide) ?_
        refine lv_goto (tgt := 39) hx hb d_sp_areOpposite_35 (by decide) ?_
        exact W.zret (v := 1) hx hb hr (by decide) (fun t ht hW => ⟨⟨1, g3, rfl, h, by rw [ht]; exact hP, va_K.moved hW.alike hK, hD⟩, hS.F ht⟩) hS.2.2 d_sp_areOpposite_39
    · have h := h.2 hc
      refine lv_iconst (v := 1) hx hb d_sp_areOpposite_26 (by decide) ?_
      refine lv_goto (tgt := 31) hx hb d_sp_areOpposite_27 (by decide) ?_
      refine lv_icmp_eq (tgt := 38) hx hb d_sp_areOpposite_31 (by decide) (fun hc => ?_) (fun hc => ?_)
      · have h := h.1 hc
        refine lv_iconst (v := 0) hx hb d_sp_areOpposite_38 (by decide) ?_
        exact W.zret (v := 0) hx hb hr (by decide) (fun t ht hW => ⟨⟨0, g3, rfl, h, by rw [ht]; exact hP, va_K.moved hW.alike hK, hD⟩, hS.F ht⟩) hS.2.2 d_sp_areOpposite_39
      · have h := h.2 hc
        refine lv_iconst (v := 1) hx hb d_sp_areOpposite_34 (by decide) ?_
        refine lv_goto (tgt := 39) hx hb d_sp_areOpposite_35 (by decide) ?_
        exact W.zret (v := 1) hx hb hr (by decide) (fun t ht hW => ⟨⟨1, g3, rfl, h, by rw [ht]; exact hP, va_K.moved hW.alike hK, hD⟩, hS.F ht⟩) hS.2.2 d_sp_areOpposite_39
  unfold wp_sp_areOpposite at h
  refine lv_aload_n hx hb d_sp_areOpposite_0 rfl (lv_at hl 0 rfl) ?_
  refine lv_iload_n hx hb d_sp_areOpposite_1 rfl (lv_at hl 1 rfl) ?_
  refine lv_iload_n hx hb d_sp_areOpposite_2 rfl (lv_at hl 2 rfl) ?_
  refine lv_iload_n hx hb d_sp_areOpposite_3 rfl (lv_at hl 3 rfl) ?_
  refine zz_ci (va_runV (As := [.int x1, .int x2, .int x3]) (rest := []) ⟨hx, hb, hml, hown, hts⟩ (mc_sp_turn l dC dI a cI cZ _ x1 x2 x3 g _ h) (zz_cwV 3 hts (zz_good wm_68) rfl rfl rfl wm_69 wm_70 wm_71 wm_1 (by decide +kernel) ⟨Nat.le_of_ble_eq_true rfl, Nat.le_of_ble_eq_true rfl⟩) ⟨zz_blind, (va_recv hK hP rfl (wC_1 a cI cZ g)), zz_pre hP hK hD hN⟩ rfl rfl hl.1 rfl (lv_room (Nat.le_of_ble_eq_true rfl)) d_sp_areOpposite_4 ⟨Nat.le_of_ble_eq_true rfl, Nat.le_of_ble_eq_true rfl⟩) hD hS hA (fun r2 g1 H locs h hP hD hS => ?_)
  refine lv_if_le (tgt := 14) hx hb d_sp_areOpposite_7 (by decide) (fun hc => ?_) (fun hc => ?_)
  · have h := h.1 hc
    refine lv_iconst (v := 0) hx hb d_sp_areOpposite_14 (by decide) ?_
    exact J15 _ _ _ _ _ h _ _ _ hP hD hS (lv_sub hl [0, 1, 2, 4] rfl)
  · have h := h.2 hc
    refine lv_iconst (v := 1) hx hb d_sp_areOpposite_10 (by decide) ?_
    refine lv_goto (tgt := 15) hx hb d_sp_areOpposite_11 (by decide) ?_
    exact J15 _ _ _ _ _ h _ _ _ hP hD hS (lv_sub hl [0, 1, 2, 4] rfl)
abbrev rm_sp_isInCircle : Room := { frames := 3, cells := 0, slots := 0, locals := 73 }
set_option maxHeartbeats 4000000 in
set_option maxRecDepth 100000 in
theorem mc_sp_isInCircle (l : Launch) (dC : Nat → ClassId) (dI : Nat → Nat → Nat) (a : Nat → Nat) (cI cZ : ClassId) (sz : Nat) (x1 : Int32) (x2 : Int32) (x3 : Int32) (x4 : Int32) (g : St) (post : Int32 → St → Prop) (h : wp_sp_isInCircle x1 x2 x3 x4 g post) : Met l yy_sp_isInCircle ww_sp_isInCircle rm_sp_isInCircle (zz_Pre (dC, dI) (wC a cI cZ) [(cI, .int), (cZ, .boolean)] [.ref (a 1), .int x1, .int x2, .int x3, .int x4] g sz) (va_Qi post (zz_W (dC, dI) (wC a cI cZ) [(cI, .int), (cZ, .boolean)] (va_A (wC a cI cZ g) sz)) (va_A (wC a cI cZ g) sz)) 0 0 (va_A (wC a cI cZ g) sz) := by
  refine Met.ofW (cc := cc_sp_isInCircle) (maxL := 7) (ret := (some .boolean)) (by decide) rfl ?_
  intro p e s m args below meth c s₁ B hml hv
  obtain ⟨hav, hsz, hP, hK, hD0, hN⟩ := hv
  have hx := B.exec
  have hb := B.bytes
  have hr := B.returns
  have hts := atoms_spec (ws := ww_sp_isInCircle) B.pre
  have hown : s.vm.findClass "SpotContours$Spots" = some m.cls := findClass_of_methodNamed B.named
  have hlocks := B.notSynchronized
  subst hsz
  have hD := hD0.self (sz := s.heap.size)
  generalize hAe : va_A (wC a cI cZ g) s.heap.size = A at hD ⊢
  have hA : ∀ q : Nat, s.heap.size ≤ q → A q := fun q h => by rw [← hAe]; exact Or.inr h
  have hS : va_S A s.heap s.heap [] := va_S.rf
  have he9 := lg_entry_eq m [.ref (a 1), .int x1, .int x2, .int x3, .int x4] 7
  rw [← hav] at he9
  rw [he9]
  have hl := lv_entry [.ref (a 1), .int x1, .int x2, .int x3, .int x4] (n := 7) (Nat.le_of_ble_eq_true rfl)
  generalize (lg_sl [.ref (a 1), .int x1, .int x2, .int x3, .int x4] ++ List.replicate (7 - (lg_sl [.ref (a 1), .int x1, .int x2, .int x3, .int x4]).length) Slot.unset).toArray = ls at hl ⊢
  have hl : lv_has ls 7 [(0, .ref (a 1)), (1, .int x1), (2, .int x2), (3, .int x3), (4, .int x4)] := hl
  unfold wp_sp_isInCircle at h
  refine lv_aload_n hx hb d_sp_isInCircle_0 rfl (lv_at hl 0 rfl) ?_
  refine lv_iload_n hx hb d_sp_isInCircle_1 rfl (lv_at hl 1 rfl) ?_
  refine lv_iload_n hx hb d_sp_isInCircle_2 rfl (lv_at hl 2 rfl) ?_
  refine lv_iload_n hx hb d_sp_isInCircle_3 rfl (lv_at hl 3 rfl) ?_
  refine lv_iload hx hb d_sp_isInCircle_4 (lv_at hl 4 rfl) ?_
  refine zz_cl (va_runV (As := [.int x1, .int x2, .int x3, .int x4]) (rest := []) ⟨hx, hb, hml, hown, hts⟩ (mc_sp_depthInCircle l dC dI a cI cZ _ x1 x2 x3 x4 g _ h) (zz_cwV 4 hts (zz_good wm_80) rfl rfl rfl wm_81 wm_82 wm_83 wm_1 (by decide +kernel) ⟨Nat.le_of_ble_eq_true rfl, Nat.le_of_ble_eq_true rfl⟩) ⟨zz_blind, (va_recv hK hP rfl (wC_1 a cI cZ g)), zz_pre hP hK hD hN⟩ rfl rfl hl.1 rfl (lv_room (Nat.le_of_ble_eq_true rfl)) d_sp_isInCircle_6 ⟨Nat.le_of_ble_eq_true rfl, Nat.le_of_ble_eq_true rfl⟩) hD hS hA (fun r2 g1 H locs h hP hD hS => ?_)
  refine lv_lstore (lv' := [(5, .long r2), (0, .ref (a 1)), (1, .int x1), (2, .int x2), (3, .int x3), (4, .int x4)]) hx hb d_sp_isInCircle_9 hl (by decide) rfl (fun ls hl => ?_)
  refine lv_lload hx hb d_sp_isInCircle_11 (lv_at hl 0 rfl) ?_
  refine lv_lconst (v := 0) hx hb d_sp_isInCircle_13 (by decide) ?_
  refine W.lcmp hx hb d_sp_isInCircle_14 ?_
  refine lv_if_eq (tgt := 31) hx hb d_sp_isInCircle_15 (by decide) (fun hc => ?_) (fun hc => ?_)
  · have h := h.1 hc
    refine lv_iload_n hx hb d_sp_isInCircle_31 rfl (lv_at hl 2 rfl) ?_
    refine lv_iload hx hb d_sp_isInCircle_32 (lv_at hl 5 rfl) ?_
    refine lv_icmp_ge (tgt := 53) hx hb d_sp_isInCircle_34 (by decide) (fun hc => ?_) (fun hc => ?_)
    · have h := h.1 hc
      refine lv_iconst (v := 0) hx hb d_sp_isInCircle_53 (by decide) ?_
      exact W.zret (v := 0) hx hb hr (by decide) (fun t ht hW => ⟨⟨0, g1, rfl, h, by rw [ht]; exact hP, va_K.moved hW.alike hK, hD⟩, hS.F ht⟩) hS.2.2 d_sp_isInCircle_54
    · have h := h.2 hc
      refine lv_aload_n hx hb d_sp_isInCircle_37 rfl (lv_at hl 1 rfl) ?_
      refine lv_iload_n hx hb d_sp_isInCircle_38 rfl (lv_at hl 2 rfl) ?_
      refine lv_iload hx hb d_sp_isInCircle_39 (lv_at hl 5 rfl) ?_
      refine lv_iload_n hx hb d_sp_isInCircle_41 rfl (lv_at hl 3 rfl) ?_
      refine lv_iload_n hx hb d_sp_isInCircle_42 rfl (lv_at hl 4 rfl) ?_
      refine zz_ci (va_runV (As := [.int x1, .int x4, .int x2, .int x3]) (rest := []) ⟨hx, hb, hml, hown, hts⟩ (mc_sp_areOpposite l dC dI a cI cZ _ x1 x4 x2 x3 g1 _ h) (zz_cwV 4 hts (zz_good wm_76) rfl rfl rfl wm_77 wm_78 wm_79 wm_1 (by decide +kernel) ⟨Nat.le_of_ble_eq_true rfl, Nat.le_of_ble_eq_true rfl⟩) ⟨zz_blind, (va_recv hK hP rfl (wC_1 a cI cZ g1)), zz_pre hP hK hD hN⟩ rfl rfl hl.1 rfl (lv_room (Nat.le_of_ble_eq_true rfl)) d_sp_isInCircle_43 ⟨Nat.le_of_ble_eq_true rfl, Nat.le_of_ble_eq_true rfl⟩) hD hS hA (fun r4 g3 H locs h hP hD hS => ?_)
      refine lv_if_ne (tgt := 53) hx hb d_sp_isInCircle_46 (by decide) (fun hc => ?_) (fun hc => ?_)
      · have h := h.1 hc
        refine lv_iconst (v := 0) hx hb d_sp_isInCircle_53 (by decide) ?_
        exact W.zret (v := 0) hx hb hr (by decide) (fun t ht hW => ⟨⟨0, g3, rfl, h, by rw [ht]; exact hP, va_K.moved hW.alike hK, hD⟩, hS.F ht⟩) hS.2.2 d_sp_isInCircle_54
      · have h := h.2 hc
        refine lv_iconst (v := 1) hx hb d_sp_isInCircle_49 (by decide) ?_
        refine lv_goto (tgt := 54) hx hb d_sp_isInCircle_50 (by decide) ?_
        exact W.zret (v := 1) hx hb hr (by decide) (fun t ht hW => ⟨⟨1, g3, rfl, h, by rw [ht]; exact hP, va_K.moved hW.alike hK, hD⟩, hS.F ht⟩) hS.2.2 d_sp_isInCircle_54
  · have h := h.2 hc
    refine lv_lload hx hb d_sp_isInCircle_18 (lv_at hl 0 rfl) ?_
    refine lv_lconst (v := 0) hx hb d_sp_isInCircle_20 (by decide) ?_
    refine W.lcmp hx hb d_sp_isInCircle_21 ?_
    refine lv_if_le (tgt := 29) hx hb d_sp_isInCircle_22 (by decide) (fun hc => ?_) (fun hc => ?_)
    · have h := h.1 hc
      refine lv_iconst (v := 0) hx hb d_sp_isInCircle_29 (by decide) ?_
      exact W.zret (v := 0) hx hb hr (by decide) (fun t ht hW => ⟨⟨0, g1, rfl, h, by rw [ht]; exact hP, va_K.moved hW.alike hK, hD⟩, hS.F ht⟩) hS.2.2 d_sp_isInCircle_30
    · have h := h.2 hc
      refine lv_iconst (v := 1) hx hb d_sp_isInCircle_25 (by decide) ?_
      refine lv_goto (tgt := 30) hx hb d_sp_isInCircle_26 (by decide) ?_
      exact W.zret (v := 1) hx hb hr (by decide) (fun t ht hW => ⟨⟨1, g1, rfl, h, by rw [ht]; exact hP, va_K.moved hW.alike hK, hD⟩, hS.F ht⟩) hS.2.2 d_sp_isInCircle_30
abbrev rm_me_isTriangle : Room := { frames := 4, cells := 0, slots := 0, locals := 99 }
set_option maxHeartbeats 4000000 in
set_option maxRecDepth 100000 in
theorem mc_me_isTriangle (l : Launch) (dC : Nat → ClassId) (dI : Nat → Nat → Nat) (a : Nat → Nat) (cI cZ : ClassId) (sz : Nat) (x1 : Int32) (x2 : Int32) (x3 : Int32) (g : St) (post : Int32 → St → Prop) (h : wp_me_isTriangle x1 x2 x3 g post) : Met l yy_me_isTriangle ww_me_isTriangle rm_me_isTriangle (zz_Pre (dC, dI) (wC a cI cZ) [(cI, .int), (cZ, .boolean)] [.ref (a 1), .int x1, .int x2, .int x3] g sz) (va_Qi post (zz_W (dC, dI) (wC a cI cZ) [(cI, .int), (cZ, .boolean)] (va_A (wC a cI cZ g) sz)) (va_A (wC a cI cZ g) sz)) 0 0 (va_A (wC a cI cZ g) sz) := by
  refine Met.ofW (cc := cc_me_isTriangle) (maxL := 5) (ret := (some .boolean)) (by decide) rfl ?_
  intro p e s m args below meth c s₁ B hml hv
  obtain ⟨hav, hsz, hP, hK, hD0, hN⟩ := hv
  have hx := B.exec
  have hb := B.bytes
  have hr := B.returns
  have hts := atoms_spec (ws := ww_me_isTriangle) B.pre
  have hown : s.vm.findClass "SpotContours$Mesh" = some m.cls := findClass_of_methodNamed B.named
  have hlocks := B.notSynchronized
  subst hsz
  have hD := hD0.self (sz := s.heap.size)
  generalize hAe : va_A (wC a cI cZ g) s.heap.size = A at hD ⊢
  have hA : ∀ q : Nat, s.heap.size ≤ q → A q := fun q h => by rw [← hAe]; exact Or.inr h
  have hS : va_S A s.heap s.heap [] := va_S.rf
  have he9 := lg_entry_eq m [.ref (a 1), .int x1, .int x2, .int x3] 5
  rw [← hav] at he9
  rw [he9]
  have hl := lv_entry [.ref (a 1), .int x1, .int x2, .int x3] (n := 5) (Nat.le_of_ble_eq_true rfl)
  generalize (lg_sl [.ref (a 1), .int x1, .int x2, .int x3] ++ List.replicate (5 - (lg_sl [.ref (a 1), .int x1, .int x2, .int x3]).length) Slot.unset).toArray = ls at hl ⊢
  have hl : lv_has ls 5 [(0, .ref (a 1)), (1, .int x1), (2, .int x2), (3, .int x3)] := hl
  have L15 : ∀ (n : Nat) (v1 : Int32) (v2 : Int32) (v3 : Int32) (v4 : Int32) (g : St) (K62 : St → Prop) , (∀ (g : St), K62 g → ∀ (H : Heap) (locs : List Loc) (ls : Array Slot), va_P (dC, dI) zzCl (wC a cI cZ g) H → va_D A (wC a cI cZ g) → va_S A s.heap H locs → lv_has ls 5 [] → W p l e (headSpec ww_me_isTriangle rm_me_isTriangle).room s m args below meth c H locs 0 0 (zz_Qi below (dC, dI) (wC a cI cZ) [(cI, .int), (cZ, .boolean)] A post args s) (F0 m 62 ls [])) → lp_me_isTriangle_L15 n v1 v2 v3 v4 g K62 post → ∀ (H : Heap) (locs : List Loc) (ls : Array Slot), va_P (dC, dI) zzCl (wC a cI cZ g) H → va_D A (wC a cI cZ g) → va_S A s.heap H locs → lv_has ls 5 [(0, .ref (a 1)), (1, .int v1), (2, .int v2), (3, .int v3), (4, .int v4)] → W p l e (headSpec ww_me_isTriangle rm_me_isTriangle).room s m args below meth c H locs 0 0 (zz_Qi below (dC, dI) (wC a cI cZ) [(cI, .int), (cZ, .boolean)] A post args s) (F0 m 15 ls []) := by
    intro n
    induction n with
    | zero => intro v1 v2 v3 v4 g K62 hK62 h; exact h.elim
    | succ n ih =>
      intro v1 v2 v3 v4 g K62 hK62 h H locs ls hP hD hS hl
      unfold lp_me_isTriangle_L15 at h
      refine lv_iload hx hb d_me_isTriangle_15 (lv_at hl 4 rfl) ?_
      refine lv_aload_n hx hb d_me_isTriangle_17 rfl (lv_at hl 0 rfl) ?_
      refine zz_ci (va_runV (As := []) (rest := [.int v4]) ⟨hx, hb, hml, hown, hts⟩ (mc_sp_size l dC dI a cI cZ _  g _ h) (zz_cwV 0 hts (zz_good wm_48) rfl rfl rfl wm_88 wm_50 wm_51 wm_1 (by decide +kernel) ⟨Nat.le_of_ble_eq_true rfl, Nat.le_of_ble_eq_true rfl⟩) ⟨zz_blind, (va_recv hK hP rfl (wC_1 a cI cZ g)), zz_pre hP hK hD hN⟩ rfl rfl hl.1 rfl (lv_room (Nat.le_of_ble_eq_true rfl)) d_me_isTriangle_18 ⟨Nat.le_of_ble_eq_true rfl, Nat.le_of_ble_eq_true rfl⟩) hD hS hA (fun r4 g3 H locs h hP hD hS => ?_)
      refine lv_icmp_ge (tgt := 62) hx hb d_me_isTriangle_21 (by decide) (fun hc => ?_) (fun hc => ?_)
      · have h := h.1 hc
        exact hK62 _ h _ _ _ hP hD hS (lv_sub hl [] rfl)
      · have h := h.2 hc
        refine lv_iload hx hb d_me_isTriangle_24 (lv_at hl 4 rfl) ?_
        refine lv_iload_n hx hb d_me_isTriangle_26 rfl (lv_at hl 1 rfl) ?_
        refine lv_icmp_eq (tgt := 56) hx hb d_me_isTriangle_27 (by decide) (fun hc => ?_) (fun hc => ?_)
        · have h := h.1 hc
          refine lv_iinc (k := 4) (v := (v4 + 1)) (lv' := [(4, .int (v4 + 1)), (0, .ref (a 1)), (1, .int v1), (2, .int v2), (3, .int v3)]) hx hb d_me_isTriangle_56 hl rfl rfl (by decide) rfl (fun ls hl => ?_)
          refine lv_goto (tgt := 15) hx hb d_me_isTriangle_59 (by decide) ?_
          exact ih _ _ _ _ _ _ hK62 h _ _ _ hP hD hS (lv_sub hl [1, 2, 3, 4, 0] rfl)
        · have h := h.2 hc
          refine lv_iload hx hb d_me_isTriangle_30 (lv_at hl 4 rfl) ?_
          refine lv_iload_n hx hb d_me_isTriangle_32 rfl (lv_at hl 2 rfl) ?_
          refine lv_icmp_eq (tgt := 56) hx hb d_me_isTriangle_33 (by decide) (fun hc => ?_) (fun hc => ?_)
          · have h := h.1 hc
            refine lv_iinc (k := 4) (v := (v4 + 1)) (lv' := [(4, .int (v4 + 1)), (0, .ref (a 1)), (1, .int v1), (2, .int v2), (3, .int v3)]) hx hb d_me_isTriangle_56 hl rfl rfl (by decide) rfl (fun ls hl => ?_)
            refine lv_goto (tgt := 15) hx hb d_me_isTriangle_59 (by decide) ?_
            exact ih _ _ _ _ _ _ hK62 h _ _ _ hP hD hS (lv_sub hl [1, 2, 3, 4, 0] rfl)
          · have h := h.2 hc
            refine lv_iload hx hb d_me_isTriangle_36 (lv_at hl 4 rfl) ?_
            refine lv_iload_n hx hb d_me_isTriangle_38 rfl (lv_at hl 3 rfl) ?_
            refine lv_icmp_eq (tgt := 56) hx hb d_me_isTriangle_39 (by decide) (fun hc => ?_) (fun hc => ?_)
            · have h := h.1 hc
              refine lv_iinc (k := 4) (v := (v4 + 1)) (lv' := [(4, .int (v4 + 1)), (0, .ref (a 1)), (1, .int v1), (2, .int v2), (3, .int v3)]) hx hb d_me_isTriangle_56 hl rfl rfl (by decide) rfl (fun ls hl => ?_)
              refine lv_goto (tgt := 15) hx hb d_me_isTriangle_59 (by decide) ?_
              exact ih _ _ _ _ _ _ hK62 h _ _ _ hP hD hS (lv_sub hl [1, 2, 3, 4, 0] rfl)
            · have h := h.2 hc
              refine lv_aload_n hx hb d_me_isTriangle_42 rfl (lv_at hl 0 rfl) ?_
              refine lv_iload_n hx hb d_me_isTriangle_43 rfl (lv_at hl 1 rfl) ?_
              refine lv_iload_n hx hb d_me_isTriangle_44 rfl (lv_at hl 2 rfl) ?_
              refine lv_iload_n hx hb d_me_isTriangle_45 rfl (lv_at hl 3 rfl) ?_
              refine lv_iload hx hb d_me_isTriangle_46 (lv_at hl 4 rfl) ?_
              refine zz_ci (va_runV (As := [.int v1, .int v2, .int v3, .int v4]) (rest := []) ⟨hx, hb, hml, hown, hts⟩ (mc_sp_isInCircle l dC dI a cI cZ _ v1 v2 v3 v4 g3 _ h) (zz_cwV 4 hts (zz_good wm_84) rfl rfl rfl wm_85 wm_86 wm_87 wm_1 (by decide +kernel) ⟨Nat.le_of_ble_eq_true rfl, Nat.le_of_ble_eq_true rfl⟩) ⟨zz_blind, (va_recv hK hP rfl (wC_1 a cI cZ g3)), zz_pre hP hK hD hN⟩ rfl rfl hl.1 rfl (lv_room (Nat.le_of_ble_eq_true rfl)) d_me_isTriangle_48 ⟨Nat.le_of_ble_eq_true rfl, Nat.le_of_ble_eq_true rfl⟩) hD hS hA (fun r6 g5 H locs h hP hD hS => ?_)
              refine lv_if_eq (tgt := 56) hx hb d_me_isTriangle_51 (by decide) (fun hc => ?_) (fun hc => ?_)
              · have h := h.1 hc
                refine lv_iinc (k := 4) (v := (v4 + 1)) (lv' := [(4, .int (v4 + 1)), (0, .ref (a 1)), (1, .int v1), (2, .int v2), (3, .int v3)]) hx hb d_me_isTriangle_56 hl rfl rfl (by decide) rfl (fun ls hl => ?_)
                refine lv_goto (tgt := 15) hx hb d_me_isTriangle_59 (by decide) ?_
                exact ih _ _ _ _ _ _ hK62 h _ _ _ hP hD hS (lv_sub hl [1, 2, 3, 4, 0] rfl)
              · have h := h.2 hc
                refine lv_iconst (v := 0) hx hb d_me_isTriangle_54 (by decide) ?_
                exact W.zret (v := 0) hx hb hr (by decide) (fun t ht hW => ⟨⟨0, g5, rfl, h, by rw [ht]; exact hP, va_K.moved hW.alike hK, hD⟩, hS.F ht⟩) hS.2.2 d_me_isTriangle_55
  unfold wp_me_isTriangle at h
  refine lv_aload_n hx hb d_me_isTriangle_0 rfl (lv_at hl 0 rfl) ?_
  refine lv_iload_n hx hb d_me_isTriangle_1 rfl (lv_at hl 1 rfl) ?_
  refine lv_iload_n hx hb d_me_isTriangle_2 rfl (lv_at hl 2 rfl) ?_
  refine lv_iload_n hx hb d_me_isTriangle_3 rfl (lv_at hl 3 rfl) ?_
  refine zz_ci (va_runV (As := [.int x1, .int x2, .int x3]) (rest := []) ⟨hx, hb, hml, hown, hts⟩ (mc_sp_turn l dC dI a cI cZ _ x1 x2 x3 g _ h) (zz_cwV 3 hts (zz_good wm_68) rfl rfl rfl wm_89 wm_70 wm_71 wm_1 (by decide +kernel) ⟨Nat.le_of_ble_eq_true rfl, Nat.le_of_ble_eq_true rfl⟩) ⟨zz_blind, (va_recv hK hP rfl (wC_1 a cI cZ g)), zz_pre hP hK hD hN⟩ rfl rfl hl.1 rfl (lv_room (Nat.le_of_ble_eq_true rfl)) d_me_isTriangle_4 ⟨Nat.le_of_ble_eq_true rfl, Nat.le_of_ble_eq_true rfl⟩) hD hS hA (fun r2 g1 H locs h hP hD hS => ?_)
  refine lv_if_ne (tgt := 12) hx hb d_me_isTriangle_7 (by decide) (fun hc => ?_) (fun hc => ?_)
  · have h := h.1 hc
    refine lv_iconst (v := 0) hx hb d_me_isTriangle_12 (by decide) ?_
    refine lv_istore (lv' := [(4, .int 0), (0, .ref (a 1)), (1, .int x1), (2, .int x2), (3, .int x3)]) hx hb d_me_isTriangle_13 hl (by decide) rfl (fun ls hl => ?_)
    obtain ⟨n15, h⟩ := h
    refine L15 n15 _ _ _ _ _ _ (fun g7 h H locs ls hP hD hS hl => ?_) h _ _ _ hP hD hS (lv_sub hl [1, 2, 3, 4, 0] rfl)
    refine lv_iconst (v := 1) hx hb d_me_isTriangle_62 (by decide) ?_
    exact W.zret (v := 1) hx hb hr (by decide) (fun t ht hW => ⟨⟨1, g7, rfl, h, by rw [ht]; exact hP, va_K.moved hW.alike hK, hD⟩, hS.F ht⟩) hS.2.2 d_me_isTriangle_63
  · have h := h.2 hc
    refine lv_iconst (v := 0) hx hb d_me_isTriangle_10 (by decide) ?_
    exact W.zret (v := 0) hx hb hr (by decide) (fun t ht hW => ⟨⟨0, g1, rfl, h, by rw [ht]; exact hP, va_K.moved hW.alike hK, hD⟩, hS.F ht⟩) hS.2.2 d_me_isTriangle_11
abbrev rm_me_addSides : Room := { frames := 0, cells := 0, slots := 0, locals := 0 }
set_option maxHeartbeats 4000000 in
set_option maxRecDepth 100000 in
theorem mc_me_addSides (l : Launch) (dC : Nat → ClassId) (dI : Nat → Nat → Nat) (a : Nat → Nat) (cI cZ : ClassId) (sz : Nat) (x1 : Int32) (x2 : Int32) (x3 : Int32) (g : St) (post : St → Prop) (h : wp_me_addSides x1 x2 x3 g post) : Met l yy_me_addSides ww_me_addSides rm_me_addSides (zz_Pre (dC, dI) (wC a cI cZ) [(cI, .int), (cZ, .boolean)] [.ref (a 2), .int x1, .int x2, .int x3] g sz) (va_Qv post (zz_W (dC, dI) (wC a cI cZ) [(cI, .int), (cZ, .boolean)] (va_A (wC a cI cZ g) sz)) (va_A (wC a cI cZ g) sz)) 0 0 (va_A (wC a cI cZ g) sz) := by
  refine Met.ofW (cc := cc_me_addSides) (maxL := 4) (ret := none) (by decide) rfl ?_
  intro p e s m args below meth c s₁ B hml hv
  obtain ⟨hav, hsz, hP, hK, hD0, hN⟩ := hv
  have hx := B.exec
  have hb := B.bytes
  have hr := B.returns
  have hts := atoms_spec (ws := ww_me_addSides) B.pre
  have hown : s.vm.findClass "SpotContours$Mesh" = some m.cls := findClass_of_methodNamed B.named
  have hlocks := B.notSynchronized
  subst hsz
  have hD := hD0.self (sz := s.heap.size)
  generalize hAe : va_A (wC a cI cZ g) s.heap.size = A at hD ⊢
  have hA : ∀ q : Nat, s.heap.size ≤ q → A q := fun q h => by rw [← hAe]; exact Or.inr h
  have hS : va_S A s.heap s.heap [] := va_S.rf
  have he9 := lg_entry_eq m [.ref (a 2), .int x1, .int x2, .int x3] 4
  rw [← hav] at he9
  rw [he9]
  have hl := lv_entry [.ref (a 2), .int x1, .int x2, .int x3] (n := 4) (Nat.le_of_ble_eq_true rfl)
  generalize (lg_sl [.ref (a 2), .int x1, .int x2, .int x3] ++ List.replicate (4 - (lg_sl [.ref (a 2), .int x1, .int x2, .int x3]).length) Slot.unset).toArray = ls at hl ⊢
  have hl : lv_has ls 4 [(0, .ref (a 2)), (1, .int x1), (2, .int x2), (3, .int x3)] := hl
  have hin__me : ∀ w ∈ u_ws R_me T_me 3, w ∈ ww_me_addSides := fun w h => zz_in (hin0_me w h)
  have fl_15 := hts (.fieldLink "SpotContours$Mesh" 15 "SpotContours$Mesh" "rightOf" "[I") (zz_in wm_365)
  unfold wp_me_addSides at h
  refine lv_aload_n hx hb d_me_addSides_0 rfl (lv_at hl 0 rfl) ?_
  refine va_get (D := (dC, dI)) (ci := 1) (v := .ref (a 9)) (C := R_me) (T := T_me) (N := 3) hx hb hts hin__me hown hK hP 2 (wC_2 a cI cZ g) rfl 1 (by decide) fl_15 (fun _ h9 => h9) rfl d_me_addSides_1 ?_
  refine lv_bipush (v := 16) hx hb d_me_addSides_4 (by decide) ?_
  refine lv_iload_n hx hb d_me_addSides_6 rfl (lv_at hl 1 rfl) ?_
  refine lv_imul hx hb d_me_addSides_7 ?_
  refine lv_iload_n hx hb d_me_addSides_8 rfl (lv_at hl 2 rfl) ?_
  refine lv_iadd hx hb d_me_addSides_9 ?_
  refine lv_iload_n hx hb d_me_addSides_10 rfl (lv_at hl 3 rfl) ?_
  refine va_iast hx hb hK hP hD hS 9 0 (wC_9 a cI cZ g) rfl h.1 d_me_addSides_11 (fun H locs hP hD hS => ?_)
  obtain ⟨g1, e_g1⟩ : ∃ z : St, z = gp g 9 (ix ((16 * x1) + x2)) x3 := ⟨_, rfl⟩
  have h := h.2 g1 e_g1
  have hP : va_P (dC, dI) zzCl (wC a cI cZ g1) H := by rw [e_g1]; exact hP
  have hD : va_D A (wC a cI cZ g1) := by rw [e_g1]; exact hD
  refine lv_aload_n hx hb d_me_addSides_12 rfl (lv_at hl 0 rfl) ?_
  refine va_get (D := (dC, dI)) (ci := 1) (v := .ref (a 9)) (C := R_me) (T := T_me) (N := 3) hx hb hts hin__me hown hK hP 2 (wC_2 a cI cZ g1) rfl 1 (by decide) fl_15 (fun _ h9 => h9) rfl d_me_addSides_13 ?_
  refine lv_bipush (v := 16) hx hb d_me_addSides_16 (by decide) ?_
  refine lv_iload_n hx hb d_me_addSides_18 rfl (lv_at hl 2 rfl) ?_
  refine lv_imul hx hb d_me_addSides_19 ?_
  refine lv_iload_n hx hb d_me_addSides_20 rfl (lv_at hl 3 rfl) ?_
  refine lv_iadd hx hb d_me_addSides_21 ?_
  refine lv_iload_n hx hb d_me_addSides_22 rfl (lv_at hl 1 rfl) ?_
  refine va_iast hx hb hK hP hD hS 9 0 (wC_9 a cI cZ g1) rfl h.1 d_me_addSides_23 (fun H locs hP hD hS => ?_)
  obtain ⟨g2, e_g2⟩ : ∃ z : St, z = gp g1 9 (ix ((16 * x2) + x3)) x1 := ⟨_, rfl⟩
  have h := h.2 g2 e_g2
  have hP : va_P (dC, dI) zzCl (wC a cI cZ g2) H := by rw [e_g2]; exact hP
  have hD : va_D A (wC a cI cZ g2) := by rw [e_g2]; exact hD
  refine lv_aload_n hx hb d_me_addSides_24 rfl (lv_at hl 0 rfl) ?_
  refine va_get (D := (dC, dI)) (ci := 1) (v := .ref (a 9)) (C := R_me) (T := T_me) (N := 3) hx hb hts hin__me hown hK hP 2 (wC_2 a cI cZ g2) rfl 1 (by decide) fl_15 (fun _ h9 => h9) rfl d_me_addSides_25 ?_
  refine lv_bipush (v := 16) hx hb d_me_addSides_28 (by decide) ?_
  refine lv_iload_n hx hb d_me_addSides_30 rfl (lv_at hl 3 rfl) ?_
  refine lv_imul hx hb d_me_addSides_31 ?_
  refine lv_iload_n hx hb d_me_addSides_32 rfl (lv_at hl 1 rfl) ?_
  refine lv_iadd hx hb d_me_addSides_33 ?_
  refine lv_iload_n hx hb d_me_addSides_34 rfl (lv_at hl 2 rfl) ?_
  refine va_iast hx hb hK hP hD hS 9 0 (wC_9 a cI cZ g2) rfl h.1 d_me_addSides_35 (fun H locs hP hD hS => ?_)
  obtain ⟨g3, e_g3⟩ : ∃ z : St, z = gp g2 9 (ix ((16 * x3) + x1)) x2 := ⟨_, rfl⟩
  have h := h.2 g3 e_g3
  have hP : va_P (dC, dI) zzCl (wC a cI cZ g3) H := by rw [e_g3]; exact hP
  have hD : va_D A (wC a cI cZ g3) := by rw [e_g3]; exact hD
  exact W.vret hx hb hr (fun t ht hW => ⟨⟨g3, rfl, h, by rw [ht]; exact hP, va_K.moved hW.alike hK, hD⟩, hS.F ht⟩) hS.2.2 d_me_addSides_36
abbrev rm_me_add : Room := { frames := 1, cells := 0, slots := 0, locals := 23 }
set_option maxHeartbeats 4000000 in
set_option maxRecDepth 100000 in
theorem mc_me_add (l : Launch) (dC : Nat → ClassId) (dI : Nat → Nat → Nat) (a : Nat → Nat) (cI cZ : ClassId) (sz : Nat) (x1 : Int32) (x2 : Int32) (x3 : Int32) (x4 : Int32) (g : St) (post : St → Prop) (h : wp_me_add x1 x2 x3 x4 g post) : Met l yy_me_add ww_me_add rm_me_add (zz_Pre (dC, dI) (wC a cI cZ) [(cI, .int), (cZ, .boolean)] [.ref (a 2), .int x1, .int x2, .int x3, .int x4] g sz) (va_Qv post (zz_W (dC, dI) (wC a cI cZ) [(cI, .int), (cZ, .boolean)] (va_A (wC a cI cZ g) sz)) (va_A (wC a cI cZ g) sz)) 0 0 (va_A (wC a cI cZ g) sz) := by
  refine Met.ofW (cc := cc_me_add) (maxL := 6) (ret := none) (by decide) rfl ?_
  intro p e s m args below meth c s₁ B hml hv
  obtain ⟨hav, hsz, hP, hK, hD0, hN⟩ := hv
  have hx := B.exec
  have hb := B.bytes
  have hr := B.returns
  have hts := atoms_spec (ws := ww_me_add) B.pre
  have hown : s.vm.findClass "SpotContours$Mesh" = some m.cls := findClass_of_methodNamed B.named
  have hlocks := B.notSynchronized
  subst hsz
  have hD := hD0.self (sz := s.heap.size)
  generalize hAe : va_A (wC a cI cZ g) s.heap.size = A at hD ⊢
  have hA : ∀ q : Nat, s.heap.size ≤ q → A q := fun q h => by rw [← hAe]; exact Or.inr h
  have hS : va_S A s.heap s.heap [] := va_S.rf
  have he9 := lg_entry_eq m [.ref (a 2), .int x1, .int x2, .int x3, .int x4] 6
  rw [← hav] at he9
  rw [he9]
  have hl := lv_entry [.ref (a 2), .int x1, .int x2, .int x3, .int x4] (n := 6) (Nat.le_of_ble_eq_true rfl)
  generalize (lg_sl [.ref (a 2), .int x1, .int x2, .int x3, .int x4] ++ List.replicate (6 - (lg_sl [.ref (a 2), .int x1, .int x2, .int x3, .int x4]).length) Slot.unset).toArray = ls at hl ⊢
  have hl : lv_has ls 6 [(0, .ref (a 2)), (1, .int x1), (2, .int x2), (3, .int x3), (4, .int x4)] := hl
  have hin__me : ∀ w ∈ u_ws R_me T_me 3, w ∈ ww_me_add := fun w h => zz_in (hin0_me w h)
  have fl_11 := hts (.fieldLink "SpotContours$Mesh" 11 "SpotContours$Mesh" "corners" "[I") (zz_in wm_367)
  have fl_21 := hts (.fieldLink "SpotContours$Mesh" 21 "SpotContours$Mesh" "count" "I") (zz_in wm_366)
  unfold wp_me_add at h
  refine lv_iconst (v := 3) hx hb d_me_add_0 (by decide) ?_
  refine lv_aload_n hx hb d_me_add_1 rfl (lv_at hl 0 rfl) ?_
  refine va_get (D := (dC, dI)) (ci := 1) (v := .int (g 2 2)) (C := R_me) (T := T_me) (N := 3) hx hb hts hin__me hown hK hP 2 (wC_2 a cI cZ g) rfl 2 (by decide) fl_21 (fun _ h9 => h9) rfl d_me_add_2 ?_
  refine lv_imul hx hb d_me_add_5 ?_
  refine lv_istore (lv' := [(5, .int (3 * (g 2 2))), (0, .ref (a 2)), (1, .int x1), (2, .int x2), (3, .int x3), (4, .int x4)]) hx hb d_me_add_6 hl (by decide) rfl (fun ls hl => ?_)
  refine lv_aload_n hx hb d_me_add_8 rfl (lv_at hl 1 rfl) ?_
  refine va_get (D := (dC, dI)) (ci := 1) (v := .ref (a 8)) (C := R_me) (T := T_me) (N := 3) hx hb hts hin__me hown hK hP 2 (wC_2 a cI cZ g) rfl 0 (by decide) fl_11 (fun _ h9 => h9) rfl d_me_add_9 ?_
  refine lv_iload hx hb d_me_add_12 (lv_at hl 0 rfl) ?_
  refine lv_iload_n hx hb d_me_add_14 rfl (lv_at hl 2 rfl) ?_
  refine va_iast hx hb hK hP hD hS 8 0 (wC_8 a cI cZ g) rfl h.1 d_me_add_15 (fun H locs hP hD hS => ?_)
  obtain ⟨g1, e_g1⟩ : ∃ z : St, z = gp g 8 (ix (3 * (g 2 2))) x1 := ⟨_, rfl⟩
  have h := h.2 g1 e_g1
  have hP : va_P (dC, dI) zzCl (wC a cI cZ g1) H := by rw [e_g1]; exact hP
  have hD : va_D A (wC a cI cZ g1) := by rw [e_g1]; exact hD
  refine lv_aload_n hx hb d_me_add_16 rfl (lv_at hl 1 rfl) ?_
  refine va_get (D := (dC, dI)) (ci := 1) (v := .ref (a 8)) (C := R_me) (T := T_me) (N := 3) hx hb hts hin__me hown hK hP 2 (wC_2 a cI cZ g1) rfl 0 (by decide) fl_11 (fun _ h9 => h9) rfl d_me_add_17 ?_
  refine lv_iload hx hb d_me_add_20 (lv_at hl 0 rfl) ?_
  refine lv_iconst (v := 1) hx hb d_me_add_22 (by decide) ?_
  refine lv_iadd hx hb d_me_add_23 ?_
  refine lv_iload_n hx hb d_me_add_24 rfl (lv_at hl 3 rfl) ?_
  refine va_iast hx hb hK hP hD hS 8 0 (wC_8 a cI cZ g1) rfl h.1 d_me_add_25 (fun H locs hP hD hS => ?_)
  obtain ⟨g2, e_g2⟩ : ∃ z : St, z = gp g1 8 (ix ((3 * (g 2 2)) + 1)) x2 := ⟨_, rfl⟩
  have h := h.2 g2 e_g2
  have hP : va_P (dC, dI) zzCl (wC a cI cZ g2) H := by rw [e_g2]; exact hP
  have hD : va_D A (wC a cI cZ g2) := by rw [e_g2]; exact hD
  refine lv_aload_n hx hb d_me_add_26 rfl (lv_at hl 1 rfl) ?_
  refine va_get (D := (dC, dI)) (ci := 1) (v := .ref (a 8)) (C := R_me) (T := T_me) (N := 3) hx hb hts hin__me hown hK hP 2 (wC_2 a cI cZ g2) rfl 0 (by decide) fl_11 (fun _ h9 => h9) rfl d_me_add_27 ?_
  refine lv_iload hx hb d_me_add_30 (lv_at hl 0 rfl) ?_
  refine lv_iconst (v := 2) hx hb d_me_add_32 (by decide) ?_
  refine lv_iadd hx hb d_me_add_33 ?_
  refine lv_iload_n hx hb d_me_add_34 rfl (lv_at hl 4 rfl) ?_
  refine va_iast hx hb hK hP hD hS 8 0 (wC_8 a cI cZ g2) rfl h.1 d_me_add_35 (fun H locs hP hD hS => ?_)
  obtain ⟨g3, e_g3⟩ : ∃ z : St, z = gp g2 8 (ix ((3 * (g 2 2)) + 2)) x3 := ⟨_, rfl⟩
  have h := h.2 g3 e_g3
  have hP : va_P (dC, dI) zzCl (wC a cI cZ g3) H := by rw [e_g3]; exact hP
  have hD : va_D A (wC a cI cZ g3) := by rw [e_g3]; exact hD
  refine lv_aload_n hx hb d_me_add_36 rfl (lv_at hl 1 rfl) ?_
  refine lv_dup hx hb d_me_add_37 rfl ?_
  refine va_get (D := (dC, dI)) (ci := 1) (v := .int (g3 2 2)) (C := R_me) (T := T_me) (N := 3) hx hb hts hin__me hown hK hP 2 (wC_2 a cI cZ g3) rfl 2 (by decide) fl_21 (fun _ h9 => h9) rfl d_me_add_38 ?_
  refine lv_iconst (v := 1) hx hb d_me_add_41 (by decide) ?_
  refine lv_iadd hx hb d_me_add_42 ?_
  refine va_put (D := (dC, dI)) (ci := 1) (v := .int ((g3 2 2) + 1)) (ty := .int) (C := R_me) (T := T_me) (N := 3) hx hb hts hin__me ty_me tok_me nmd_me hown hK hP hD hS 2 (wC_2 a cI cZ g3) rfl 2 (by decide) fl_21 (fun _ h9 => h9) rfl (by decide +kernel) rfl rfl (Nat.le_of_ble_eq_true rfl) d_me_add_43 (fun H locs hP hD hS => ?_)
  obtain ⟨g4, e_g4⟩ : ∃ z : St, z = gp g3 2 2 ((g3 2 2) + 1) := ⟨_, rfl⟩
  have h := h g4 e_g4
  have hP : va_P (dC, dI) zzCl (wC a cI cZ g4) H := by rw [e_g4]; exact hP
  have hD : va_D A (wC a cI cZ g4) := by rw [e_g4]; exact hD
  refine lv_iload hx hb d_me_add_46 (lv_at hl 5 rfl) ?_
  refine lv_if_eq (tgt := 61) hx hb d_me_add_48 (by decide) (fun hc => ?_) (fun hc => ?_)
  · have h := h.1 hc
    refine lv_aload_n hx hb d_me_add_61 rfl (lv_at hl 1 rfl) ?_
    refine lv_iload_n hx hb d_me_add_62 rfl (lv_at hl 2 rfl) ?_
    refine lv_iload_n hx hb d_me_add_63 rfl (lv_at hl 4 rfl) ?_
    refine lv_iload_n hx hb d_me_add_64 rfl (lv_at hl 3 rfl) ?_
    refine zz_cv (va_runV (As := [.int x1, .int x3, .int x2]) (rest := []) ⟨hx, hb, hml, hown, hts⟩ (mc_me_addSides l dC dI a cI cZ _ x1 x3 x2 g4 _ h) (zz_cwV 3 hts (zz_good wm_90) rfl rfl rfl wm_91 wm_92 wm_93 wm_23 (by decide +kernel) ⟨Nat.le_of_ble_eq_true rfl, Nat.le_of_ble_eq_true rfl⟩) ⟨zz_blind, (va_recv hK hP rfl (wC_2 a cI cZ g4)), zz_pre hP hK hD hN⟩ rfl rfl hl.1 rfl (lv_room (Nat.le_of_ble_eq_true rfl)) d_me_add_65 ⟨Nat.le_of_ble_eq_true rfl, Nat.le_of_ble_eq_true rfl⟩) hD hS hA (fun g5 H locs h hP hD hS => ?_)
    exact W.vret hx hb hr (fun t ht hW => ⟨⟨g5, rfl, h, by rw [ht]; exact hP, va_K.moved hW.alike hK, hD⟩, hS.F ht⟩) hS.2.2 d_me_add_68
  · have h := h.2 hc
    refine lv_aload_n hx hb d_me_add_51 rfl (lv_at hl 1 rfl) ?_
    refine lv_iload_n hx hb d_me_add_52 rfl (lv_at hl 2 rfl) ?_
    refine lv_iload_n hx hb d_me_add_53 rfl (lv_at hl 3 rfl) ?_
    refine lv_iload_n hx hb d_me_add_54 rfl (lv_at hl 4 rfl) ?_
    refine zz_cv (va_runV (As := [.int x1, .int x2, .int x3]) (rest := []) ⟨hx, hb, hml, hown, hts⟩ (mc_me_addSides l dC dI a cI cZ _ x1 x2 x3 g4 _ h) (zz_cwV 3 hts (zz_good wm_90) rfl rfl rfl wm_91 wm_92 wm_93 wm_23 (by decide +kernel) ⟨Nat.le_of_ble_eq_true rfl, Nat.le_of_ble_eq_true rfl⟩) ⟨zz_blind, (va_recv hK hP rfl (wC_2 a cI cZ g4)), zz_pre hP hK hD hN⟩ rfl rfl hl.1 rfl (lv_room (Nat.le_of_ble_eq_true rfl)) d_me_add_55 ⟨Nat.le_of_ble_eq_true rfl, Nat.le_of_ble_eq_true rfl⟩) hD hS hA (fun g6 H locs h hP hD hS => ?_)
    refine lv_goto (tgt := 68) hx hb d_me_add_58 (by decide) ?_
    exact W.vret hx hb hr (fun t ht hW => ⟨⟨g6, rfl, h, by rw [ht]; exact hP, va_K.moved hW.alike hK, hD⟩, hS.F ht⟩) hS.2.2 d_me_add_68
abbrev rm_me_rebuild : Room := { frames := 5, cells := 0, slots := 0, locals := 123 }
set_option maxHeartbeats 4000000 in
set_option maxRecDepth 100000 in
theorem mc_me_rebuild (l : Launch) (dC : Nat → ClassId) (dI : Nat → Nat → Nat) (a : Nat → Nat) (cI cZ : ClassId) (sz : Nat) (g : St) (post : St → Prop) (h : wp_me_rebuild  g post) : Met l yy_me_rebuild ww_me_rebuild rm_me_rebuild (zz_Pre (dC, dI) (wC a cI cZ) [(cI, .int), (cZ, .boolean)] [.ref (a 2), .ref (a 1)] g sz) (va_Qv post (zz_W (dC, dI) (wC a cI cZ) [(cI, .int), (cZ, .boolean)] (va_A (wC a cI cZ g) sz)) (va_A (wC a cI cZ g) sz)) 0 0 (va_A (wC a cI cZ g) sz) := by
  refine Met.ofW (cc := cc_me_rebuild) (maxL := 5) (ret := none) (by decide) rfl ?_
  intro p e s m args below meth c s₁ B hml hv
  obtain ⟨hav, hsz, hP, hK, hD0, hN⟩ := hv
  have hx := B.exec
  have hb := B.bytes
  have hr := B.returns
  have hts := atoms_spec (ws := ww_me_rebuild) B.pre
  have hown : s.vm.findClass "SpotContours$Mesh" = some m.cls := findClass_of_methodNamed B.named
  have hlocks := B.notSynchronized
  subst hsz
  have hD := hD0.self (sz := s.heap.size)
  generalize hAe : va_A (wC a cI cZ g) s.heap.size = A at hD ⊢
  have hA : ∀ q : Nat, s.heap.size ≤ q → A q := fun q h => by rw [← hAe]; exact Or.inr h
  have hS : va_S A s.heap s.heap [] := va_S.rf
  have he9 := lg_entry_eq m [.ref (a 2), .ref (a 1)] 5
  rw [← hav] at he9
  rw [he9]
  have hl := lv_entry [.ref (a 2), .ref (a 1)] (n := 5) (Nat.le_of_ble_eq_true rfl)
  generalize (lg_sl [.ref (a 2), .ref (a 1)] ++ List.replicate (5 - (lg_sl [.ref (a 2), .ref (a 1)]).length) Slot.unset).toArray = ls at hl ⊢
  have hl : lv_has ls 5 [(0, .ref (a 2)), (1, .ref (a 1))] := hl
  have hin__me : ∀ w ∈ u_ws R_me T_me 3, w ∈ ww_me_rebuild := fun w h => zz_in (hin0_me w h)
  have fl_21 := hts (.fieldLink "SpotContours$Mesh" 21 "SpotContours$Mesh" "count" "I") (zz_in wm_366)
  have L31 : ∀ (n : Nat) (v2 : Int32) (v3 : Int32) (v4 : Int32) (g : St) (K90 : Int32 → Int32 → St → Prop) , (∀ (v2 : Int32) (v3 : Int32) (g : St), K90 v2 v3 g → ∀ (H : Heap) (locs : List Loc) (ls : Array Slot), va_P (dC, dI) zzCl (wC a cI cZ g) H → va_D A (wC a cI cZ g) → va_S A s.heap H locs → lv_has ls 5 [(0, .ref (a 2)), (1, .ref (a 1)), (2, .int v2), (3, .int v3)] → W p l e (headSpec ww_me_rebuild rm_me_rebuild).room s m args below meth c H locs 0 0 (zz_Qv below (dC, dI) (wC a cI cZ) [(cI, .int), (cZ, .boolean)] A post args s) (F0 m 90 ls [])) → lp_me_rebuild_L31 n v2 v3 v4 g K90 post → ∀ (H : Heap) (locs : List Loc) (ls : Array Slot), va_P (dC, dI) zzCl (wC a cI cZ g) H → va_D A (wC a cI cZ g) → va_S A s.heap H locs → lv_has ls 5 [(0, .ref (a 2)), (1, .ref (a 1)), (2, .int v2), (3, .int v3), (4, .int v4)] → W p l e (headSpec ww_me_rebuild rm_me_rebuild).room s m args below meth c H locs 0 0 (zz_Qv below (dC, dI) (wC a cI cZ) [(cI, .int), (cZ, .boolean)] A post args s) (F0 m 31 ls []) := by
    intro n
    induction n with
    | zero => intro v2 v3 v4 g K90 hK90 h; exact h.elim
    | succ n ih =>
      intro v2 v3 v4 g K90 hK90 h H locs ls hP hD hS hl
      unfold lp_me_rebuild_L31 at h
      refine lv_iload hx hb d_me_rebuild_31 (lv_at hl 4 rfl) ?_
      refine lv_aload_n hx hb d_me_rebuild_33 rfl (lv_at hl 1 rfl) ?_
      refine zz_ci (va_runV (As := []) (rest := [.int v4]) ⟨hx, hb, hml, hown, hts⟩ (mc_sp_size l dC dI a cI cZ _  g _ h) (zz_cwV 0 hts (zz_good wm_48) rfl rfl rfl wm_88 wm_50 wm_51 wm_1 (by decide +kernel) ⟨Nat.le_of_ble_eq_true rfl, Nat.le_of_ble_eq_true rfl⟩) ⟨zz_blind, (va_recv hK hP rfl (wC_1 a cI cZ g)), zz_pre hP hK hD hN⟩ rfl rfl hl.1 rfl (lv_room (Nat.le_of_ble_eq_true rfl)) d_me_rebuild_34 ⟨Nat.le_of_ble_eq_true rfl, Nat.le_of_ble_eq_true rfl⟩) hD hS hA (fun r7 g6 H locs h hP hD hS => ?_)
      refine lv_icmp_ge (tgt := 90) hx hb d_me_rebuild_37 (by decide) (fun hc => ?_) (fun hc => ?_)
      · have h := h.1 hc
        exact hK90 _ _ _ h _ _ _ hP hD hS (lv_sub hl [0, 1, 2, 3] rfl)
      · have h := h.2 hc
        refine lv_aload_n hx hb d_me_rebuild_40 rfl (lv_at hl 0 rfl) ?_
        refine va_get (D := (dC, dI)) (ci := 1) (v := .int (g6 2 2)) (C := R_me) (T := T_me) (N := 3) hx hb hts hin__me hown hK hP 2 (wC_2 a cI cZ g6) rfl 2 (by decide) fl_21 (fun _ h9 => h9) rfl d_me_rebuild_41 ?_
        refine lv_bipush (v := 27) hx hb d_me_rebuild_44 (by decide) ?_
        refine lv_icmp_ge (tgt := 84) hx hb d_me_rebuild_46 (by decide) (fun hc => ?_) (fun hc => ?_)
        · have h := h.1 hc
          refine lv_iinc (k := 4) (v := (v4 + 1)) (lv' := [(4, .int (v4 + 1)), (0, .ref (a 2)), (1, .ref (a 1)), (2, .int v2), (3, .int v3)]) hx hb d_me_rebuild_84 hl rfl rfl (by decide) rfl (fun ls hl => ?_)
          refine lv_goto (tgt := 31) hx hb d_me_rebuild_87 (by decide) ?_
          exact ih _ _ _ _ _ hK90 h _ _ _ hP hD hS (lv_sub hl [1, 2, 3, 4, 0] rfl)
        · have h := h.2 hc
          refine lv_aload_n hx hb d_me_rebuild_49 rfl (lv_at hl 1 rfl) ?_
          refine lv_iload_n hx hb d_me_rebuild_50 rfl (lv_at hl 2 rfl) ?_
          refine lv_iload_n hx hb d_me_rebuild_51 rfl (lv_at hl 3 rfl) ?_
          refine lv_iload hx hb d_me_rebuild_52 (lv_at hl 4 rfl) ?_
          refine zz_ci (va_runS (As := [.ref (a 1), .int v2, .int v3, .int v4]) (rest := []) ⟨hx, hb, hml, hown, hts⟩ (mc_me_isTriangle l dC dI a cI cZ _ v2 v3 v4 g6 _ h) (zz_cwS 4 hts (zz_good wm_98) rfl rfl rfl wm_99 wm_100 wm_23 (by decide +kernel) ⟨Nat.le_of_ble_eq_true rfl, Nat.le_of_ble_eq_true rfl⟩) ⟨zz_blind, zz_pre hP hK hD hN⟩ rfl rfl hl.1 rfl (lv_room (Nat.le_of_ble_eq_true rfl)) d_me_rebuild_54 ⟨Nat.le_of_ble_eq_true rfl, Nat.le_of_ble_eq_true rfl⟩) hD hS hA (fun r9 g8 H locs h hP hD hS => ?_)
          refine lv_if_eq (tgt := 84) hx hb d_me_rebuild_57 (by decide) (fun hc => ?_) (fun hc => ?_)
          · have h := h.1 hc
            refine lv_iinc (k := 4) (v := (v4 + 1)) (lv' := [(4, .int (v4 + 1)), (0, .ref (a 2)), (1, .ref (a 1)), (2, .int v2), (3, .int v3)]) hx hb d_me_rebuild_84 hl rfl rfl (by decide) rfl (fun ls hl => ?_)
            refine lv_goto (tgt := 31) hx hb d_me_rebuild_87 (by decide) ?_
            exact ih _ _ _ _ _ hK90 h _ _ _ hP hD hS (lv_sub hl [1, 2, 3, 4, 0] rfl)
          · have h := h.2 hc
            refine lv_aload_n hx hb d_me_rebuild_60 rfl (lv_at hl 0 rfl) ?_
            refine lv_iload_n hx hb d_me_rebuild_61 rfl (lv_at hl 2 rfl) ?_
            refine lv_iload_n hx hb d_me_rebuild_62 rfl (lv_at hl 3 rfl) ?_
            refine lv_iload hx hb d_me_rebuild_63 (lv_at hl 4 rfl) ?_
            refine lv_aload_n hx hb d_me_rebuild_65 rfl (lv_at hl 1 rfl) ?_
            refine lv_iload_n hx hb d_me_rebuild_66 rfl (lv_at hl 2 rfl) ?_
            refine lv_iload_n hx hb d_me_rebuild_67 rfl (lv_at hl 3 rfl) ?_
            refine lv_iload hx hb d_me_rebuild_68 (lv_at hl 4 rfl) ?_
            refine zz_ci (va_runV (As := [.int v2, .int v3, .int v4]) (rest := [.int v4, .int v3, .int v2, .ref (a 2)]) ⟨hx, hb, hml, hown, hts⟩ (mc_sp_turn l dC dI a cI cZ _ v2 v3 v4 g8 _ h) (zz_cwV 3 hts (zz_good wm_68) rfl rfl rfl wm_89 wm_70 wm_71 wm_1 (by decide +kernel) ⟨Nat.le_of_ble_eq_true rfl, Nat.le_of_ble_eq_true rfl⟩) ⟨zz_blind, (va_recv hK hP rfl (wC_1 a cI cZ g8)), zz_pre hP hK hD hN⟩ rfl rfl hl.1 rfl (lv_room (Nat.le_of_ble_eq_true rfl)) d_me_rebuild_70 ⟨Nat.le_of_ble_eq_true rfl, Nat.le_of_ble_eq_true rfl⟩) hD hS hA (fun r11 g10 H locs h hP hD hS => ?_)
            refine lv_if_ge (tgt := 80) hx hb d_me_rebuild_73 (by decide) (fun hc => ?_) (fun hc => ?_)
            · have h := h.1 hc
              refine lv_iconst (v := 0) hx hb d_me_rebuild_80 (by decide) ?_
              refine zz_cv (va_runV (As := [.int v2, .int v3, .int v4, .int 0]) (rest := []) ⟨hx, hb, hml, hown, hts⟩ (mc_me_add l dC dI a cI cZ _ v2 v3 v4 0 g10 _ h) (zz_cwV 4 hts (zz_good wm_94) rfl rfl rfl wm_95 wm_96 wm_97 wm_23 (by decide +kernel) ⟨Nat.le_of_ble_eq_true rfl, Nat.le_of_ble_eq_true rfl⟩) ⟨zz_blind, (va_recv hK hP rfl (wC_2 a cI cZ g10)), zz_pre hP hK hD hN⟩ rfl rfl hl.1 rfl (lv_room (Nat.le_of_ble_eq_true rfl)) d_me_rebuild_81 ⟨Nat.le_of_ble_eq_true rfl, Nat.le_of_ble_eq_true rfl⟩) hD hS hA (fun g12 H locs h hP hD hS => ?_)
              refine lv_iinc (k := 4) (v := (v4 + 1)) (lv' := [(4, .int (v4 + 1)), (0, .ref (a 2)), (1, .ref (a 1)), (2, .int v2), (3, .int v3)]) hx hb d_me_rebuild_84 hl rfl rfl (by decide) rfl (fun ls hl => ?_)
              refine lv_goto (tgt := 31) hx hb d_me_rebuild_87 (by decide) ?_
              exact ih _ _ _ _ _ hK90 h _ _ _ hP hD hS (lv_sub hl [1, 2, 3, 4, 0] rfl)
            · have h := h.2 hc
              refine lv_iconst (v := 1) hx hb d_me_rebuild_76 (by decide) ?_
              refine lv_goto (tgt := 81) hx hb d_me_rebuild_77 (by decide) ?_
              refine zz_cv (va_runV (As := [.int v2, .int v3, .int v4, .int 1]) (rest := []) ⟨hx, hb, hml, hown, hts⟩ (mc_me_add l dC dI a cI cZ _ v2 v3 v4 1 g10 _ h) (zz_cwV 4 hts (zz_good wm_94) rfl rfl rfl wm_95 wm_96 wm_97 wm_23 (by decide +kernel) ⟨Nat.le_of_ble_eq_true rfl, Nat.le_of_ble_eq_true rfl⟩) ⟨zz_blind, (va_recv hK hP rfl (wC_2 a cI cZ g10)), zz_pre hP hK hD hN⟩ rfl rfl hl.1 rfl (lv_room (Nat.le_of_ble_eq_true rfl)) d_me_rebuild_81 ⟨Nat.le_of_ble_eq_true rfl, Nat.le_of_ble_eq_true rfl⟩) hD hS hA (fun g13 H locs h hP hD hS => ?_)
              refine lv_iinc (k := 4) (v := (v4 + 1)) (lv' := [(4, .int (v4 + 1)), (0, .ref (a 2)), (1, .ref (a 1)), (2, .int v2), (3, .int v3)]) hx hb d_me_rebuild_84 hl rfl rfl (by decide) rfl (fun ls hl => ?_)
              refine lv_goto (tgt := 31) hx hb d_me_rebuild_87 (by decide) ?_
              exact ih _ _ _ _ _ hK90 h _ _ _ hP hD hS (lv_sub hl [1, 2, 3, 4, 0] rfl)
  have L18 : ∀ (n : Nat) (v2 : Int32) (v3 : Int32) (g : St) (K96 : Int32 → St → Prop) , (∀ (v2 : Int32) (g : St), K96 v2 g → ∀ (H : Heap) (locs : List Loc) (ls : Array Slot), va_P (dC, dI) zzCl (wC a cI cZ g) H → va_D A (wC a cI cZ g) → va_S A s.heap H locs → lv_has ls 5 [(0, .ref (a 2)), (1, .ref (a 1)), (2, .int v2)] → W p l e (headSpec ww_me_rebuild rm_me_rebuild).room s m args below meth c H locs 0 0 (zz_Qv below (dC, dI) (wC a cI cZ) [(cI, .int), (cZ, .boolean)] A post args s) (F0 m 96 ls [])) → lp_me_rebuild_L18 n v2 v3 g K96 post → ∀ (H : Heap) (locs : List Loc) (ls : Array Slot), va_P (dC, dI) zzCl (wC a cI cZ g) H → va_D A (wC a cI cZ g) → va_S A s.heap H locs → lv_has ls 5 [(0, .ref (a 2)), (1, .ref (a 1)), (2, .int v2), (3, .int v3)] → W p l e (headSpec ww_me_rebuild rm_me_rebuild).room s m args below meth c H locs 0 0 (zz_Qv below (dC, dI) (wC a cI cZ) [(cI, .int), (cZ, .boolean)] A post args s) (F0 m 18 ls []) := by
    intro n
    induction n with
    | zero => intro v2 v3 g K96 hK96 h; exact h.elim
    | succ n ih =>
      intro v2 v3 g K96 hK96 h H locs ls hP hD hS hl
      unfold lp_me_rebuild_L18 at h
      refine lv_iload_n hx hb d_me_rebuild_18 rfl (lv_at hl 3 rfl) ?_
      refine lv_aload_n hx hb d_me_rebuild_19 rfl (lv_at hl 1 rfl) ?_
      refine zz_ci (va_runV (As := []) (rest := [.int v3]) ⟨hx, hb, hml, hown, hts⟩ (mc_sp_size l dC dI a cI cZ _  g _ h) (zz_cwV 0 hts (zz_good wm_48) rfl rfl rfl wm_88 wm_50 wm_51 wm_1 (by decide +kernel) ⟨Nat.le_of_ble_eq_true rfl, Nat.le_of_ble_eq_true rfl⟩) ⟨zz_blind, (va_recv hK hP rfl (wC_1 a cI cZ g)), zz_pre hP hK hD hN⟩ rfl rfl hl.1 rfl (lv_room (Nat.le_of_ble_eq_true rfl)) d_me_rebuild_20 ⟨Nat.le_of_ble_eq_true rfl, Nat.le_of_ble_eq_true rfl⟩) hD hS hA (fun r5 g4 H locs h hP hD hS => ?_)
      refine lv_icmp_ge (tgt := 96) hx hb d_me_rebuild_23 (by decide) (fun hc => ?_) (fun hc => ?_)
      · have h := h.1 hc
        exact hK96 _ _ h _ _ _ hP hD hS (lv_sub hl [0, 1, 2] rfl)
      · have h := h.2 hc
        refine lv_iload_n hx hb d_me_rebuild_26 rfl (lv_at hl 3 rfl) ?_
        refine lv_iconst (v := 1) hx hb d_me_rebuild_27 (by decide) ?_
        refine lv_iadd hx hb d_me_rebuild_28 ?_
        refine lv_istore (lv' := [(4, .int (v3 + 1)), (0, .ref (a 2)), (1, .ref (a 1)), (2, .int v2), (3, .int v3)]) hx hb d_me_rebuild_29 hl (by decide) rfl (fun ls hl => ?_)
        obtain ⟨n31, h⟩ := h
        refine L31 n31 _ _ _ _ _ (fun w15 w16 g14 h H locs ls hP hD hS hl => ?_) h _ _ _ hP hD hS (lv_sub hl [1, 2, 3, 4, 0] rfl)
        refine lv_iinc (k := 3) (v := (w16 + 1)) (lv' := [(3, .int (w16 + 1)), (0, .ref (a 2)), (1, .ref (a 1)), (2, .int w15)]) hx hb d_me_rebuild_90 hl rfl rfl (by decide) rfl (fun ls hl => ?_)
        refine lv_goto (tgt := 18) hx hb d_me_rebuild_93 (by decide) ?_
        exact ih _ _ _ _ hK96 h _ _ _ hP hD hS (lv_sub hl [1, 2, 3, 0] rfl)
  have L6 : ∀ (n : Nat) (v2 : Int32) (g : St) (K102 : St → Prop) , (∀ (g : St), K102 g → ∀ (H : Heap) (locs : List Loc) (ls : Array Slot), va_P (dC, dI) zzCl (wC a cI cZ g) H → va_D A (wC a cI cZ g) → va_S A s.heap H locs → lv_has ls 5 [] → W p l e (headSpec ww_me_rebuild rm_me_rebuild).room s m args below meth c H locs 0 0 (zz_Qv below (dC, dI) (wC a cI cZ) [(cI, .int), (cZ, .boolean)] A post args s) (F0 m 102 ls [])) → lp_me_rebuild_L6 n v2 g K102 post → ∀ (H : Heap) (locs : List Loc) (ls : Array Slot), va_P (dC, dI) zzCl (wC a cI cZ g) H → va_D A (wC a cI cZ g) → va_S A s.heap H locs → lv_has ls 5 [(0, .ref (a 2)), (1, .ref (a 1)), (2, .int v2)] → W p l e (headSpec ww_me_rebuild rm_me_rebuild).room s m args below meth c H locs 0 0 (zz_Qv below (dC, dI) (wC a cI cZ) [(cI, .int), (cZ, .boolean)] A post args s) (F0 m 6 ls []) := by
    intro n
    induction n with
    | zero => intro v2 g K102 hK102 h; exact h.elim
    | succ n ih =>
      intro v2 g K102 hK102 h H locs ls hP hD hS hl
      unfold lp_me_rebuild_L6 at h
      refine lv_iload_n hx hb d_me_rebuild_6 rfl (lv_at hl 2 rfl) ?_
      refine lv_aload_n hx hb d_me_rebuild_7 rfl (lv_at hl 1 rfl) ?_
      refine zz_ci (va_runV (As := []) (rest := [.int v2]) ⟨hx, hb, hml, hown, hts⟩ (mc_sp_size l dC dI a cI cZ _  g _ h) (zz_cwV 0 hts (zz_good wm_48) rfl rfl rfl wm_88 wm_50 wm_51 wm_1 (by decide +kernel) ⟨Nat.le_of_ble_eq_true rfl, Nat.le_of_ble_eq_true rfl⟩) ⟨zz_blind, (va_recv hK hP rfl (wC_1 a cI cZ g)), zz_pre hP hK hD hN⟩ rfl rfl hl.1 rfl (lv_room (Nat.le_of_ble_eq_true rfl)) d_me_rebuild_8 ⟨Nat.le_of_ble_eq_true rfl, Nat.le_of_ble_eq_true rfl⟩) hD hS hA (fun r3 g2 H locs h hP hD hS => ?_)
      refine lv_icmp_ge (tgt := 102) hx hb d_me_rebuild_11 (by decide) (fun hc => ?_) (fun hc => ?_)
      · have h := h.1 hc
        exact hK102 _ h _ _ _ hP hD hS (lv_sub hl [] rfl)
      · have h := h.2 hc
        refine lv_iload_n hx hb d_me_rebuild_14 rfl (lv_at hl 2 rfl) ?_
        refine lv_iconst (v := 1) hx hb d_me_rebuild_15 (by decide) ?_
        refine lv_iadd hx hb d_me_rebuild_16 ?_
        refine lv_istore_n (lv' := [(3, .int (v2 + 1)), (0, .ref (a 2)), (1, .ref (a 1)), (2, .int v2)]) hx hb d_me_rebuild_17 rfl hl (by decide) rfl (fun ls hl => ?_)
        obtain ⟨n18, h⟩ := h
        refine L18 n18 _ _ _ _ (fun w18 g17 h H locs ls hP hD hS hl => ?_) h _ _ _ hP hD hS (lv_sub hl [1, 2, 3, 0] rfl)
        refine lv_iinc (k := 2) (v := (w18 + 1)) (lv' := [(2, .int (w18 + 1)), (0, .ref (a 2)), (1, .ref (a 1))]) hx hb d_me_rebuild_96 hl rfl rfl (by decide) rfl (fun ls hl => ?_)
        refine lv_goto (tgt := 6) hx hb d_me_rebuild_99 (by decide) ?_
        exact ih _ _ _ hK102 h _ _ _ hP hD hS (lv_sub hl [1, 2, 0] rfl)
  unfold wp_me_rebuild at h
  refine lv_aload_n hx hb d_me_rebuild_0 rfl (lv_at hl 0 rfl) ?_
  refine zz_cv (va_runV (As := []) (rest := []) ⟨hx, hb, hml, hown, hts⟩ (mc_me_clear l dC dI a cI cZ _  g _ h) (zz_cwV 0 hts (zz_good wm_101) rfl rfl rfl wm_102 wm_103 wm_104 wm_23 (by decide +kernel) ⟨Nat.le_of_ble_eq_true rfl, Nat.le_of_ble_eq_true rfl⟩) ⟨zz_blind, (va_recv hK hP rfl (wC_2 a cI cZ g)), zz_pre hP hK hD hN⟩ rfl rfl hl.1 rfl (lv_room (Nat.le_of_ble_eq_true rfl)) d_me_rebuild_1 ⟨Nat.le_of_ble_eq_true rfl, Nat.le_of_ble_eq_true rfl⟩) hD hS hA (fun g1 H locs h hP hD hS => ?_)
  refine lv_iconst (v := 0) hx hb d_me_rebuild_4 (by decide) ?_
  refine lv_istore_n (lv' := [(2, .int 0), (0, .ref (a 2)), (1, .ref (a 1))]) hx hb d_me_rebuild_5 rfl hl (by decide) rfl (fun ls hl => ?_)
  obtain ⟨n6, h⟩ := h
  refine L6 n6 _ _ _ (fun g19 h H locs ls hP hD hS hl => ?_) h _ _ _ hP hD hS (lv_sub hl [1, 2, 0] rfl)
  exact W.vret hx hb hr (fun t ht hW => ⟨⟨g19, rfl, h, by rw [ht]; exact hP, va_K.moved hW.alike hK, hD⟩, hS.F ht⟩) hS.2.2 d_me_rebuild_102
