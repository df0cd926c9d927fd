/-! Contracts by their walks, printed. -/
abbrev rm_sp_crossingX : Room := { frames := 2, cells := 0, slots := 0, locals := 49 }
set_option maxHeartbeats 4000000 in
set_option maxRecDepth 100000 in
theorem mc_sp_crossingX (l : Launch) (dC : Nat → ClassId) (dI : Nat → Nat → Nat) (a : Nat → Nat) (cI cZ : ClassId) (sz : Nat) (x1 : Int32) (x2 : Int32) (g : St) (post : Int32 → St → Prop) (h : wp_sp_crossingX x1 x2 g post) : Met l yy_sp_crossingX ww_sp_crossingX rm_sp_crossingX (zz_Pre (dC, dI) (wC a cI cZ) [(cI, .int), (cZ, .boolean)] [.ref (a 1), .int x1, .int x2] g sz) (va_Qi post (zz_W (dC, dI) (wC a cI cZ) [(cI, .int), (cZ, .boolean)] (va_A (wC a cI cZ g) sz)) (va_A (wC a cI cZ g) sz)) 0 0 (va_A (wC a cI cZ g) sz) := by
  refine Met.ofW (cc := cc_sp_crossingX) (maxL := 3) (ret := (some .int)) (by decide) rfl ?_
  intro p e s m args below meth c s₁ B hml hv
  obtain ⟨hav, hsz, hP, hK, hD0, hN⟩ := hv
  have hx := B.exec
  have hb := B.bytes
  have hr := B.returns
  have hts := atoms_spec (ws := ww_sp_crossingX) B.pre
  have hown : s.vm.findClass "SpotContours$Spots" = some m.cls := findClass_of_methodNamed B.named
  have hlocks := B.notSynchronized
  subst hsz
  have hD := hD0.self (sz := s.heap.size)
  generalize hAe : va_A (wC a cI cZ g) s.heap.size = A at hD ⊢
  have hA : ∀ q : Nat, s.heap.size ≤ q → A q := fun q h => by rw [← hAe]; exact Or.inr h
  have hS : va_S A s.heap s.heap [] := va_S.rf
  have he9 := lg_entry_eq m [.ref (a 1), .int x1, .int x2] 3
  rw [← hav] at he9
  rw [he9]
  have hl := lv_entry [.ref (a 1), .int x1, .int x2] (n := 3) (Nat.le_of_ble_eq_true rfl)
  generalize (lg_sl [.ref (a 1), .int x1, .int x2] ++ List.replicate (3 - (lg_sl [.ref (a 1), .int x1, .int x2]).length) Slot.unset).toArray = ls at hl ⊢
  have hl : lv_has ls 3 [(0, .ref (a 1)), (1, .int x1), (2, .int x2)] := hl
  have hin__sp : ∀ w ∈ u_ws R_sp T_sp 4, w ∈ ww_sp_crossingX := fun w h => zz_in (hin0_sp w h)
  have fl_9 := hts (.fieldLink "SpotContours$Spots" 9 "SpotContours$Spots" "xs" "[I") (zz_in wm_360)
  unfold wp_sp_crossingX at h
  refine lv_aload_n hx hb d_sp_crossingX_0 rfl (lv_at hl 0 rfl) ?_
  refine lv_aload_n hx hb d_sp_crossingX_1 rfl (lv_at hl 0 rfl) ?_
  refine va_get (D := (dC, dI)) (ci := 2) (v := .ref (a 5)) (C := R_sp) (T := T_sp) (N := 4) hx hb hts hin__sp hown hK hP 1 (wC_1 a cI cZ g) rfl 0 (by decide) fl_9 (fun _ h9 => h9) rfl d_sp_crossingX_2 ?_
  refine lv_iload_n hx hb d_sp_crossingX_5 rfl (lv_at hl 1 rfl) ?_
  refine lv_iload_n hx hb d_sp_crossingX_6 rfl (lv_at hl 2 rfl) ?_
  refine zz_ci (va_runV (As := [.ref (a 5), .int x1, .int x2]) (rest := []) ⟨hx, hb, hml, hown, hts⟩ (mc_sp_crossingOf_5 l dC dI a cI cZ _ x1 x2 g _ h) (zz_cwV 3 hts (zz_good wm_120) rfl rfl rfl wm_121 wm_122 wm_123 wm_1 (by decide +kernel) ⟨Nat.le_of_ble_eq_true rfl, Nat.le_of_ble_eq_true rfl⟩) ⟨zz_blind, (va_recv hK hP rfl (wC_1 a cI cZ g)), zz_pre hP hK hD hN⟩ rfl rfl hl.1 rfl (lv_room (Nat.le_of_ble_eq_true rfl)) d_sp_crossingX_7 ⟨Nat.le_of_ble_eq_true rfl, Nat.le_of_ble_eq_true rfl⟩) hD hS hA (fun r2 g1 H locs h hP hD hS => ?_)
  exact W.iret (v := r2) hx hb hr (fun t ht hW => ⟨⟨r2, g1, rfl, h, by rw [ht]; exact hP, va_K.moved hW.alike hK, hD⟩, hS.F ht⟩) hS.2.2 d_sp_crossingX_10
abbrev rm_sp_crossingY : Room := { frames := 2, cells := 0, slots := 0, locals := 49 }
set_option maxHeartbeats 4000000 in
set_option maxRecDepth 100000 in
theorem mc_sp_crossingY (l : Launch) (dC : Nat → ClassId) (dI : Nat → Nat → Nat) (a : Nat → Nat) (cI cZ : ClassId) (sz : Nat) (x1 : Int32) (x2 : Int32) (g : St) (post : Int32 → St → Prop) (h : wp_sp_crossingY x1 x2 g post) : Met l yy_sp_crossingY ww_sp_crossingY rm_sp_crossingY (zz_Pre (dC, dI) (wC a cI cZ) [(cI, .int), (cZ, .boolean)] [.ref (a 1), .int x1, .int x2] g sz) (va_Qi post (zz_W (dC, dI) (wC a cI cZ) [(cI, .int), (cZ, .boolean)] (va_A (wC a cI cZ g) sz)) (va_A (wC a cI cZ g) sz)) 0 0 (va_A (wC a cI cZ g) sz) := by
  refine Met.ofW (cc := cc_sp_crossingY) (maxL := 3) (ret := (some .int)) (by decide) rfl ?_
  intro p e s m args below meth c s₁ B hml hv
  obtain ⟨hav, hsz, hP, hK, hD0, hN⟩ := hv
  have hx := B.exec
  have hb := B.bytes
  have hr := B.returns
  have hts := atoms_spec (ws := ww_sp_crossingY) B.pre
  have hown : s.vm.findClass "SpotContours$Spots" = some m.cls := findClass_of_methodNamed B.named
  have hlocks := B.notSynchronized
  subst hsz
  have hD := hD0.self (sz := s.heap.size)
  generalize hAe : va_A (wC a cI cZ g) s.heap.size = A at hD ⊢
  have hA : ∀ q : Nat, s.heap.size ≤ q → A q := fun q h => by rw [← hAe]; exact Or.inr h
  have hS : va_S A s.heap s.heap [] := va_S.rf
  have he9 := lg_entry_eq m [.ref (a 1), .int x1, .int x2] 3
  rw [← hav] at he9
  rw [he9]
  have hl := lv_entry [.ref (a 1), .int x1, .int x2] (n := 3) (Nat.le_of_ble_eq_true rfl)
  generalize (lg_sl [.ref (a 1), .int x1, .int x2] ++ List.replicate (3 - (lg_sl [.ref (a 1), .int x1, .int x2]).length) Slot.unset).toArray = ls at hl ⊢
  have hl : lv_has ls 3 [(0, .ref (a 1)), (1, .int x1), (2, .int x2)] := hl
  have hin__sp : ∀ w ∈ u_ws R_sp T_sp 4, w ∈ ww_sp_crossingY := fun w h => zz_in (hin0_sp w h)
  have fl_15 := hts (.fieldLink "SpotContours$Spots" 15 "SpotContours$Spots" "ys" "[I") (zz_in wm_368)
  unfold wp_sp_crossingY at h
  refine lv_aload_n hx hb d_sp_crossingY_0 rfl (lv_at hl 0 rfl) ?_
  refine lv_aload_n hx hb d_sp_crossingY_1 rfl (lv_at hl 0 rfl) ?_
  refine va_get (D := (dC, dI)) (ci := 2) (v := .ref (a 6)) (C := R_sp) (T := T_sp) (N := 4) hx hb hts hin__sp hown hK hP 1 (wC_1 a cI cZ g) rfl 1 (by decide) fl_15 (fun _ h9 => h9) rfl d_sp_crossingY_2 ?_
  refine lv_iload_n hx hb d_sp_crossingY_5 rfl (lv_at hl 1 rfl) ?_
  refine lv_iload_n hx hb d_sp_crossingY_6 rfl (lv_at hl 2 rfl) ?_
  refine zz_ci (va_runV (As := [.ref (a 6), .int x1, .int x2]) (rest := []) ⟨hx, hb, hml, hown, hts⟩ (mc_sp_crossingOf_6 l dC dI a cI cZ _ x1 x2 g _ h) (zz_cwV 3 hts (zz_good wm_120) rfl rfl rfl wm_121 wm_122 wm_123 wm_1 (by decide +kernel) ⟨Nat.le_of_ble_eq_true rfl, Nat.le_of_ble_eq_true rfl⟩) ⟨zz_blind, (va_recv hK hP rfl (wC_1 a cI cZ g)), zz_pre hP hK hD hN⟩ rfl rfl hl.1 rfl (lv_room (Nat.le_of_ble_eq_true rfl)) d_sp_crossingY_7 ⟨Nat.le_of_ble_eq_true rfl, Nat.le_of_ble_eq_true rfl⟩) hD hS hA (fun r2 g1 H locs h hP hD hS => ?_)
  exact W.iret (v := r2) hx hb hr (fun t ht hW => ⟨⟨r2, g1, rfl, h, by rw [ht]; exact hP, va_K.moved hW.alike hK, hD⟩, hS.F ht⟩) hS.2.2 d_sp_crossingY_10
abbrev rm_ta_size : Room := { frames := 0, cells := 0, slots := 0, locals := 0 }
set_option maxHeartbeats 4000000 in
set_option maxRecDepth 100000 in
theorem mc_ta_size (l : Launch) (dC : Nat → ClassId) (dI : Nat → Nat → Nat) (a : Nat → Nat) (cI cZ : ClassId) (sz : Nat) (g : St) (post : Int32 → St → Prop) (h : wp_ta_size  g post) : Met l yy_ta_size ww_ta_size rm_ta_size (zz_Pre (dC, dI) (wC a cI cZ) [(cI, .int), (cZ, .boolean)] [.ref (a 4)] g sz) (va_Qi post (zz_W (dC, dI) (wC a cI cZ) [(cI, .int), (cZ, .boolean)] (va_A (wC a cI cZ g) sz)) (va_A (wC a cI cZ g) sz)) 0 0 (va_A (wC a cI cZ g) sz) := by
  refine Met.ofW (cc := cc_ta_size) (maxL := 1) (ret := (some .int)) (by decide) rfl ?_
  intro p e s m args below meth c s₁ B hml hv
  obtain ⟨hav, hsz, hP, hK, hD0, hN⟩ := hv
  have hx := B.exec
  have hb := B.bytes
  have hr := B.returns
  have hts := atoms_spec (ws := ww_ta_size) B.pre
  have hown : s.vm.findClass "SpotContours$Tags" = some m.cls := findClass_of_methodNamed B.named
  have hlocks := B.notSynchronized
  subst hsz
  have hD := hD0.self (sz := s.heap.size)
  generalize hAe : va_A (wC a cI cZ g) s.heap.size = A at hD ⊢
  have hA : ∀ q : Nat, s.heap.size ≤ q → A q := fun q h => by rw [← hAe]; exact Or.inr h
  have hS : va_S A s.heap s.heap [] := va_S.rf
  have he9 := lg_entry_eq m [.ref (a 4)] 1
  rw [← hav] at he9
  rw [he9]
  have hl := lv_entry [.ref (a 4)] (n := 1) (Nat.le_of_ble_eq_true rfl)
  generalize (lg_sl [.ref (a 4)] ++ List.replicate (1 - (lg_sl [.ref (a 4)]).length) Slot.unset).toArray = ls at hl ⊢
  have hl : lv_has ls 1 [(0, .ref (a 4))] := hl
  have hin__ta : ∀ w ∈ u_ws R_ta T_ta 4, w ∈ ww_ta_size := fun w h => zz_in (hin0_ta w h)
  have fl_19 := hts (.fieldLink "SpotContours$Tags" 19 "SpotContours$Tags" "count" "I") (zz_in wm_369)
  unfold wp_ta_size at h
  refine lv_aload_n hx hb d_ta_size_0 rfl (lv_at hl 0 rfl) ?_
  refine va_get (D := (dC, dI)) (ci := 3) (v := .int (g 4 3)) (C := R_ta) (T := T_ta) (N := 4) hx hb hts hin__ta hown hK hP 4 (wC_4 a cI cZ g) rfl 3 (by decide) fl_19 (fun _ h9 => h9) rfl d_ta_size_1 ?_
  exact W.iret (v := (g 4 3)) hx hb hr (fun t ht hW => ⟨⟨(g 4 3), g, rfl, h, by rw [ht]; exact hP, va_K.moved hW.alike hK, hD⟩, hS.F ht⟩) hS.2.2 d_ta_size_4
abbrev rm_ta_isFull : Room := { frames := 0, cells := 0, slots := 0, locals := 0 }
set_option maxHeartbeats 4000000 in
set_option maxRecDepth 100000 in
theorem mc_ta_isFull (l : Launch) (dC : Nat → ClassId) (dI : Nat → Nat → Nat) (a : Nat → Nat) (cI cZ : ClassId) (sz : Nat) (g : St) (post : Int32 → St → Prop) (h : wp_ta_isFull  g post) : Met l yy_ta_isFull ww_ta_isFull rm_ta_isFull (zz_Pre (dC, dI) (wC a cI cZ) [(cI, .int), (cZ, .boolean)] [.ref (a 4)] g sz) (va_Qi post (zz_W (dC, dI) (wC a cI cZ) [(cI, .int), (cZ, .boolean)] (va_A (wC a cI cZ g) sz)) (va_A (wC a cI cZ g) sz)) 0 0 (va_A (wC a cI cZ g) sz) := by
  refine Met.ofW (cc := cc_ta_isFull) (maxL := 1) (ret := (some .boolean)) (by decide) rfl ?_
  intro p e s m args below meth c s₁ B hml hv
  obtain ⟨hav, hsz, hP, hK, hD0, hN⟩ := hv
  have hx := B.exec
  have hb := B.bytes
  have hr := B.returns
  have hts := atoms_spec (ws := ww_ta_isFull) B.pre
  have hown : s.vm.findClass "SpotContours$Tags" = some m.cls := findClass_of_methodNamed B.named
  have hlocks := B.notSynchronized
  subst hsz
  have hD := hD0.self (sz := s.heap.size)
  generalize hAe : va_A (wC a cI cZ g) s.heap.size = A at hD ⊢
  have hA : ∀ q : Nat, s.heap.size ≤ q → A q := fun q h => by rw [← hAe]; exact Or.inr h
  have hS : va_S A s.heap s.heap [] := va_S.rf
  have he9 := lg_entry_eq m [.ref (a 4)] 1
  rw [← hav] at he9
  rw [he9]
  have hl := lv_entry [.ref (a 4)] (n := 1) (Nat.le_of_ble_eq_true rfl)
  generalize (lg_sl [.ref (a 4)] ++ List.replicate (1 - (lg_sl [.ref (a 4)]).length) Slot.unset).toArray = ls at hl ⊢
  have hl : lv_has ls 1 [(0, .ref (a 4))] := hl
  have hin__ta : ∀ w ∈ u_ws R_ta T_ta 4, w ∈ ww_ta_isFull := fun w h => zz_in (hin0_ta w h)
  have fl_19 := hts (.fieldLink "SpotContours$Tags" 19 "SpotContours$Tags" "count" "I") (zz_in wm_369)
  unfold wp_ta_isFull at h
  refine lv_aload_n hx hb d_ta_isFull_0 rfl (lv_at hl 0 rfl) ?_
  refine va_get (D := (dC, dI)) (ci := 3) (v := .int (g 4 3)) (C := R_ta) (T := T_ta) (N := 4) hx hb hts hin__ta hown hK hP 4 (wC_4 a cI cZ g) rfl 3 (by decide) fl_19 (fun _ h9 => h9) rfl d_ta_isFull_1 ?_
  refine lv_bipush (v := 20) hx hb d_ta_isFull_4 (by decide) ?_
  refine lv_icmp_lt (tgt := 13) hx hb d_ta_isFull_6 (by decide) (fun hc => ?_) (fun hc => ?_)
  · have h := h.1 hc
    refine lv_iconst (v := 0) hx hb d_ta_isFull_13 (by decide) ?_
    exact W.zret (v := 0) hx hb hr (by decide) (fun t ht hW => ⟨⟨0, g, rfl, h, by rw [ht]; exact hP, va_K.moved hW.alike hK, hD⟩, hS.F ht⟩) hS.2.2 d_ta_isFull_14
  · have h := h.2 hc
    refine lv_iconst (v := 1) hx hb d_ta_isFull_9 (by decide) ?_
    refine lv_goto (tgt := 14) hx hb d_ta_isFull_10 (by decide) ?_
    exact W.zret (v := 1) hx hb hr (by decide) (fun t ht hW => ⟨⟨1, g, rfl, h, by rw [ht]; exact hP, va_K.moved hW.alike hK, hD⟩, hS.F ht⟩) hS.2.2 d_ta_isFull_14
abbrev rm_ta_level : Room := { frames := 0, cells := 0, slots := 0, locals := 0 }
set_option maxHeartbeats 4000000 in
set_option maxRecDepth 100000 in
theorem mc_ta_level (l : Launch) (dC : Nat → ClassId) (dI : Nat → Nat → Nat) (a : Nat → Nat) (cI cZ : ClassId) (sz : Nat) (x1 : Int32) (g : St) (post : Int32 → St → Prop) (h : wp_ta_level x1 g post) : Met l yy_ta_level ww_ta_level rm_ta_level (zz_Pre (dC, dI) (wC a cI cZ) [(cI, .int), (cZ, .boolean)] [.ref (a 4), .int x1] g sz) (va_Qi post (zz_W (dC, dI) (wC a cI cZ) [(cI, .int), (cZ, .boolean)] (va_A (wC a cI cZ g) sz)) (va_A (wC a cI cZ g) sz)) 0 0 (va_A (wC a cI cZ g) sz) := by
  refine Met.ofW (cc := cc_ta_level) (maxL := 2) (ret := (some .int)) (by decide) rfl ?_
  intro p e s m args below meth c s₁ B hml hv
  obtain ⟨hav, hsz, hP, hK, hD0, hN⟩ := hv
  have hx := B.exec
  have hb := B.bytes
  have hr := B.returns
  have hts := atoms_spec (ws := ww_ta_level) B.pre
  have hown : s.vm.findClass "SpotContours$Tags" = some m.cls := findClass_of_methodNamed B.named
  have hlocks := B.notSynchronized
  subst hsz
  have hD := hD0.self (sz := s.heap.size)
  generalize hAe : va_A (wC a cI cZ g) s.heap.size = A at hD ⊢
  have hA : ∀ q : Nat, s.heap.size ≤ q → A q := fun q h => by rw [← hAe]; exact Or.inr h
  have hS : va_S A s.heap s.heap [] := va_S.rf
  have he9 := lg_entry_eq m [.ref (a 4), .int x1] 2
  rw [← hav] at he9
  rw [he9]
  have hl := lv_entry [.ref (a 4), .int x1] (n := 2) (Nat.le_of_ble_eq_true rfl)
  generalize (lg_sl [.ref (a 4), .int x1] ++ List.replicate (2 - (lg_sl [.ref (a 4), .int x1]).length) Slot.unset).toArray = ls at hl ⊢
  have hl : lv_has ls 2 [(0, .ref (a 4)), (1, .int x1)] := hl
  have hin__ta : ∀ w ∈ u_ws R_ta T_ta 4, w ∈ ww_ta_level := fun w h => zz_in (hin0_ta w h)
  have fl_9 := hts (.fieldLink "SpotContours$Tags" 9 "SpotContours$Tags" "levels" "[I") (zz_in wm_370)
  unfold wp_ta_level at h
  refine lv_aload_n hx hb d_ta_level_0 rfl (lv_at hl 0 rfl) ?_
  refine va_get (D := (dC, dI)) (ci := 3) (v := .ref (a 15)) (C := R_ta) (T := T_ta) (N := 4) hx hb hts hin__ta hown hK hP 4 (wC_4 a cI cZ g) rfl 0 (by decide) fl_9 (fun _ h9 => h9) rfl d_ta_level_1 ?_
  refine lv_iload_n hx hb d_ta_level_4 rfl (lv_at hl 1 rfl) ?_
  refine va_iald hx hb hK hP 15 0 (wC_15 a cI cZ g) rfl h.1 d_ta_level_5 ?_
  have h := h.2
  exact W.iret (v := (g 15 (ix x1))) hx hb hr (fun t ht hW => ⟨⟨(g 15 (ix x1)), g, rfl, h, by rw [ht]; exact hP, va_K.moved hW.alike hK, hD⟩, hS.F ht⟩) hS.2.2 d_ta_level_6
abbrev rm_ta_x : Room := { frames := 0, cells := 0, slots := 0, locals := 0 }
set_option maxHeartbeats 4000000 in
set_option maxRecDepth 100000 in
theorem mc_ta_x (l : Launch) (dC : Nat → ClassId) (dI : Nat → Nat → Nat) (a : Nat → Nat) (cI cZ : ClassId) (sz : Nat) (x1 : Int32) (g : St) (post : Int32 → St → Prop) (h : wp_ta_x x1 g post) : Met l yy_ta_x ww_ta_x rm_ta_x (zz_Pre (dC, dI) (wC a cI cZ) [(cI, .int), (cZ, .boolean)] [.ref (a 4), .int x1] g sz) (va_Qi post (zz_W (dC, dI) (wC a cI cZ) [(cI, .int), (cZ, .boolean)] (va_A (wC a cI cZ g) sz)) (va_A (wC a cI cZ g) sz)) 0 0 (va_A (wC a cI cZ g) sz) := by
  refine Met.ofW (cc := cc_ta_x) (maxL := 2) (ret := (some .int)) (by decide) rfl ?_
  intro p e s m args below meth c s₁ B hml hv
  obtain ⟨hav, hsz, hP, hK, hD0, hN⟩ := hv
  have hx := B.exec
  have hb := B.bytes
  have hr := B.returns
  have hts := atoms_spec (ws := ww_ta_x) B.pre
  have hown : s.vm.findClass "SpotContours$Tags" = some m.cls := findClass_of_methodNamed B.named
  have hlocks := B.notSynchronized
  subst hsz
  have hD := hD0.self (sz := s.heap.size)
  generalize hAe : va_A (wC a cI cZ g) s.heap.size = A at hD ⊢
  have hA : ∀ q : Nat, s.heap.size ≤ q → A q := fun q h => by rw [← hAe]; exact Or.inr h
  have hS : va_S A s.heap s.heap [] := va_S.rf
  have he9 := lg_entry_eq m [.ref (a 4), .int x1] 2
  rw [← hav] at he9
  rw [he9]
  have hl := lv_entry [.ref (a 4), .int x1] (n := 2) (Nat.le_of_ble_eq_true rfl)
  generalize (lg_sl [.ref (a 4), .int x1] ++ List.replicate (2 - (lg_sl [.ref (a 4), .int x1]).length) Slot.unset).toArray = ls at hl ⊢
  have hl : lv_has ls 2 [(0, .ref (a 4)), (1, .int x1)] := hl
  have hin__ta : ∀ w ∈ u_ws R_ta T_ta 4, w ∈ ww_ta_x := fun w h => zz_in (hin0_ta w h)
  have fl_13 := hts (.fieldLink "SpotContours$Tags" 13 "SpotContours$Tags" "xs" "[I") (zz_in wm_371)
  unfold wp_ta_x at h
  refine lv_aload_n hx hb d_ta_x_0 rfl (lv_at hl 0 rfl) ?_
  refine va_get (D := (dC, dI)) (ci := 3) (v := .ref (a 16)) (C := R_ta) (T := T_ta) (N := 4) hx hb hts hin__ta hown hK hP 4 (wC_4 a cI cZ g) rfl 1 (by decide) fl_13 (fun _ h9 => h9) rfl d_ta_x_1 ?_
  refine lv_iload_n hx hb d_ta_x_4 rfl (lv_at hl 1 rfl) ?_
  refine va_iald hx hb hK hP 16 0 (wC_16 a cI cZ g) rfl h.1 d_ta_x_5 ?_
  have h := h.2
  exact W.iret (v := (g 16 (ix x1))) hx hb hr (fun t ht hW => ⟨⟨(g 16 (ix x1)), g, rfl, h, by rw [ht]; exact hP, va_K.moved hW.alike hK, hD⟩, hS.F ht⟩) hS.2.2 d_ta_x_6
abbrev rm_ta_y : Room := { frames := 0, cells := 0, slots := 0, locals := 0 }
set_option maxHeartbeats 4000000 in
set_option maxRecDepth 100000 in
theorem mc_ta_y (l : Launch) (dC : Nat → ClassId) (dI : Nat → Nat → Nat) (a : Nat → Nat) (cI cZ : ClassId) (sz : Nat) (x1 : Int32) (g : St) (post : Int32 → St → Prop) (h : wp_ta_y x1 g post) : Met l yy_ta_y ww_ta_y rm_ta_y (zz_Pre (dC, dI) (wC a cI cZ) [(cI, .int), (cZ, .boolean)] [.ref (a 4), .int x1] g sz) (va_Qi post (zz_W (dC, dI) (wC a cI cZ) [(cI, .int), (cZ, .boolean)] (va_A (wC a cI cZ g) sz)) (va_A (wC a cI cZ g) sz)) 0 0 (va_A (wC a cI cZ g) sz) := by
  refine Met.ofW (cc := cc_ta_y) (maxL := 2) (ret := (some .int)) (by decide) rfl ?_
  intro p e s m args below meth c s₁ B hml hv
  obtain ⟨hav, hsz, hP, hK, hD0, hN⟩ := hv
  have hx := B.exec
  have hb := B.bytes
  have hr := B.returns
  have hts := atoms_spec (ws := ww_ta_y) B.pre
  have hown : s.vm.findClass "SpotContours$Tags" = some m.cls := findClass_of_methodNamed B.named
  have hlocks := B.notSynchronized
  subst hsz
  have hD := hD0.self (sz := s.heap.size)
  generalize hAe : va_A (wC a cI cZ g) s.heap.size = A at hD ⊢
  have hA : ∀ q : Nat, s.heap.size ≤ q → A q := fun q h => by rw [← hAe]; exact Or.inr h
  have hS : va_S A s.heap s.heap [] := va_S.rf
  have he9 := lg_entry_eq m [.ref (a 4), .int x1] 2
  rw [← hav] at he9
  rw [he9]
  have hl := lv_entry [.ref (a 4), .int x1] (n := 2) (Nat.le_of_ble_eq_true rfl)
  generalize (lg_sl [.ref (a 4), .int x1] ++ List.replicate (2 - (lg_sl [.ref (a 4), .int x1]).length) Slot.unset).toArray = ls at hl ⊢
  have hl : lv_has ls 2 [(0, .ref (a 4)), (1, .int x1)] := hl
  have hin__ta : ∀ w ∈ u_ws R_ta T_ta 4, w ∈ ww_ta_y := fun w h => zz_in (hin0_ta w h)
  have fl_16 := hts (.fieldLink "SpotContours$Tags" 16 "SpotContours$Tags" "ys" "[I") (zz_in wm_372)
  unfold wp_ta_y at h
  refine lv_aload_n hx hb d_ta_y_0 rfl (lv_at hl 0 rfl) ?_
  refine va_get (D := (dC, dI)) (ci := 3) (v := .ref (a 17)) (C := R_ta) (T := T_ta) (N := 4) hx hb hts hin__ta hown hK hP 4 (wC_4 a cI cZ g) rfl 2 (by decide) fl_16 (fun _ h9 => h9) rfl d_ta_y_1 ?_
  refine lv_iload_n hx hb d_ta_y_4 rfl (lv_at hl 1 rfl) ?_
  refine va_iald hx hb hK hP 17 0 (wC_17 a cI cZ g) rfl h.1 d_ta_y_5 ?_
  have h := h.2
  exact W.iret (v := (g 17 (ix x1))) hx hb hr (fun t ht hW => ⟨⟨(g 17 (ix x1)), g, rfl, h, by rw [ht]; exact hP, va_K.moved hW.alike hK, hD⟩, hS.F ht⟩) hS.2.2 d_ta_y_6
abbrev rm_ta_add : Room := { frames := 0, cells := 0, slots := 0, locals := 0 }
set_option maxHeartbeats 4000000 in
set_option maxRecDepth 100000 in
theorem mc_ta_add (l : Launch) (dC : Nat → ClassId) (dI : Nat → Nat → Nat) (a : Nat → Nat) (cI cZ : ClassId) (sz : Nat) (x1 : Int32) (x2 : Int32) (x3 : Int32) (g : St) (post : St → Prop) (h : wp_ta_add x1 x2 x3 g post) : Met l yy_ta_add ww_ta_add rm_ta_add (zz_Pre (dC, dI) (wC a cI cZ) [(cI, .int), (cZ, .boolean)] [.ref (a 4), .int x1, .int x2, .int x3] g sz) (va_Qv post (zz_W (dC, dI) (wC a cI cZ) [(cI, .int), (cZ, .boolean)] (va_A (wC a cI cZ g) sz)) (va_A (wC a cI cZ g) sz)) 0 0 (va_A (wC a cI cZ g) sz) := by
  refine Met.ofW (cc := cc_ta_add) (maxL := 4) (ret := none) (by decide) rfl ?_
  intro p e s m args below meth c s₁ B hml hv
  obtain ⟨hav, hsz, hP, hK, hD0, hN⟩ := hv
  have hx := B.exec
  have hb := B.bytes
  have hr := B.returns
  have hts := atoms_spec (ws := ww_ta_add) B.pre
  have hown : s.vm.findClass "SpotContours$Tags" = some m.cls := findClass_of_methodNamed B.named
  have hlocks := B.notSynchronized
  subst hsz
  have hD := hD0.self (sz := s.heap.size)
  generalize hAe : va_A (wC a cI cZ g) s.heap.size = A at hD ⊢
  have hA : ∀ q : Nat, s.heap.size ≤ q → A q := fun q h => by rw [← hAe]; exact Or.inr h
  have hS : va_S A s.heap s.heap [] := va_S.rf
  have he9 := lg_entry_eq m [.ref (a 4), .int x1, .int x2, .int x3] 4
  rw [← hav] at he9
  rw [he9]
  have hl := lv_entry [.ref (a 4), .int x1, .int x2, .int x3] (n := 4) (Nat.le_of_ble_eq_true rfl)
  generalize (lg_sl [.ref (a 4), .int x1, .int x2, .int x3] ++ List.replicate (4 - (lg_sl [.ref (a 4), .int x1, .int x2, .int x3]).length) Slot.unset).toArray = ls at hl ⊢
  have hl : lv_has ls 4 [(0, .ref (a 4)), (1, .int x1), (2, .int x2), (3, .int x3)] := hl
  have hin__ta : ∀ w ∈ u_ws R_ta T_ta 4, w ∈ ww_ta_add := fun w h => zz_in (hin0_ta w h)
  have fl_9 := hts (.fieldLink "SpotContours$Tags" 9 "SpotContours$Tags" "levels" "[I") (zz_in wm_370)
  have fl_13 := hts (.fieldLink "SpotContours$Tags" 13 "SpotContours$Tags" "xs" "[I") (zz_in wm_371)
  have fl_16 := hts (.fieldLink "SpotContours$Tags" 16 "SpotContours$Tags" "ys" "[I") (zz_in wm_372)
  have fl_19 := hts (.fieldLink "SpotContours$Tags" 19 "SpotContours$Tags" "count" "I") (zz_in wm_369)
  unfold wp_ta_add at h
  refine lv_aload_n hx hb d_ta_add_0 rfl (lv_at hl 0 rfl) ?_
  refine va_get (D := (dC, dI)) (ci := 3) (v := .ref (a 15)) (C := R_ta) (T := T_ta) (N := 4) hx hb hts hin__ta hown hK hP 4 (wC_4 a cI cZ g) rfl 0 (by decide) fl_9 (fun _ h9 => h9) rfl d_ta_add_1 ?_
  refine lv_aload_n hx hb d_ta_add_4 rfl (lv_at hl 0 rfl) ?_
  refine va_get (D := (dC, dI)) (ci := 3) (v := .int (g 4 3)) (C := R_ta) (T := T_ta) (N := 4) hx hb hts hin__ta hown hK hP 4 (wC_4 a cI cZ g) rfl 3 (by decide) fl_19 (fun _ h9 => h9) rfl d_ta_add_5 ?_
  refine lv_iload_n hx hb d_ta_add_8 rfl (lv_at hl 1 rfl) ?_
  refine va_iast hx hb hK hP hD hS 15 0 (wC_15 a cI cZ g) rfl h.1 d_ta_add_9 (fun H locs hP hD hS => ?_)
  obtain ⟨g1, e_g1⟩ : ∃ z : St, z = gp g 15 (ix (g 4 3)) x1 := ⟨_, rfl⟩
  have h := h.2 g1 e_g1
  have hP : va_P (dC, dI) zzCl (wC a cI cZ g1) H := by rw [e_g1]; exact hP
  have hD : va_D A (wC a cI cZ g1) := by rw [e_g1]; exact hD
  refine lv_aload_n hx hb d_ta_add_10 rfl (lv_at hl 0 rfl) ?_
  refine va_get (D := (dC, dI)) (ci := 3) (v := .ref (a 16)) (C := R_ta) (T := T_ta) (N := 4) hx hb hts hin__ta hown hK hP 4 (wC_4 a cI cZ g1) rfl 1 (by decide) fl_13 (fun _ h9 => h9) rfl d_ta_add_11 ?_
  refine lv_aload_n hx hb d_ta_add_14 rfl (lv_at hl 0 rfl) ?_
  refine va_get (D := (dC, dI)) (ci := 3) (v := .int (g1 4 3)) (C := R_ta) (T := T_ta) (N := 4) hx hb hts hin__ta hown hK hP 4 (wC_4 a cI cZ g1) rfl 3 (by decide) fl_19 (fun _ h9 => h9) rfl d_ta_add_15 ?_
  refine lv_iload_n hx hb d_ta_add_18 rfl (lv_at hl 2 rfl) ?_
  refine va_iast hx hb hK hP hD hS 16 0 (wC_16 a cI cZ g1) rfl h.1 d_ta_add_19 (fun H locs hP hD hS => ?_)
  obtain ⟨g2, e_g2⟩ : ∃ z : St, z = gp g1 16 (ix (g1 4 3)) x2 := ⟨_, rfl⟩
  have h := h.2 g2 e_g2
  have hP : va_P (dC, dI) zzCl (wC a cI cZ g2) H := by rw [e_g2]; exact hP
  have hD : va_D A (wC a cI cZ g2) := by rw [e_g2]; exact hD
  refine lv_aload_n hx hb d_ta_add_20 rfl (lv_at hl 0 rfl) ?_
  refine va_get (D := (dC, dI)) (ci := 3) (v := .ref (a 17)) (C := R_ta) (T := T_ta) (N := 4) hx hb hts hin__ta hown hK hP 4 (wC_4 a cI cZ g2) rfl 2 (by decide) fl_16 (fun _ h9 => h9) rfl d_ta_add_21 ?_
  refine lv_aload_n hx hb d_ta_add_24 rfl (lv_at hl 0 rfl) ?_
  refine va_get (D := (dC, dI)) (ci := 3) (v := .int (g2 4 3)) (C := R_ta) (T := T_ta) (N := 4) hx hb hts hin__ta hown hK hP 4 (wC_4 a cI cZ g2) rfl 3 (by decide) fl_19 (fun _ h9 => h9) rfl d_ta_add_25 ?_
  refine lv_iload_n hx hb d_ta_add_28 rfl (lv_at hl 3 rfl) ?_
  refine va_iast hx hb hK hP hD hS 17 0 (wC_17 a cI cZ g2) rfl h.1 d_ta_add_29 (fun H locs hP hD hS => ?_)
  obtain ⟨g3, e_g3⟩ : ∃ z : St, z = gp g2 17 (ix (g2 4 3)) x3 := ⟨_, rfl⟩
  have h := h.2 g3 e_g3
  have hP : va_P (dC, dI) zzCl (wC a cI cZ g3) H := by rw [e_g3]; exact hP
  have hD : va_D A (wC a cI cZ g3) := by rw [e_g3]; exact hD
  refine lv_aload_n hx hb d_ta_add_30 rfl (lv_at hl 0 rfl) ?_
  refine lv_dup hx hb d_ta_add_31 rfl ?_
  refine va_get (D := (dC, dI)) (ci := 3) (v := .int (g3 4 3)) (C := R_ta) (T := T_ta) (N := 4) hx hb hts hin__ta hown hK hP 4 (wC_4 a cI cZ g3) rfl 3 (by decide) fl_19 (fun _ h9 => h9) rfl d_ta_add_32 ?_
  refine lv_iconst (v := 1) hx hb d_ta_add_35 (by decide) ?_
  refine lv_iadd hx hb d_ta_add_36 ?_
  refine va_put (D := (dC, dI)) (ci := 3) (v := .int ((g3 4 3) + 1)) (ty := .int) (C := R_ta) (T := T_ta) (N := 4) hx hb hts hin__ta ty_ta tok_ta nmd_ta hown hK hP hD hS 4 (wC_4 a cI cZ g3) rfl 3 (by decide) fl_19 (fun _ h9 => h9) rfl (by decide +kernel) rfl rfl (Nat.le_of_ble_eq_true rfl) d_ta_add_37 (fun H locs hP hD hS => ?_)
  obtain ⟨g4, e_g4⟩ : ∃ z : St, z = gp g3 4 3 ((g3 4 3) + 1) := ⟨_, rfl⟩
  have h := h g4 e_g4
  have hP : va_P (dC, dI) zzCl (wC a cI cZ g4) H := by rw [e_g4]; exact hP
  have hD : va_D A (wC a cI cZ g4) := by rw [e_g4]; exact hD
  exact W.vret hx hb hr (fun t ht hW => ⟨⟨g4, rfl, h, by rw [ht]; exact hP, va_K.moved hW.alike hK, hD⟩, hS.F ht⟩) hS.2.2 d_ta_add_40
abbrev rm_ta_cutTo : Room := { frames := 0, cells := 0, slots := 0, locals := 0 }
set_option maxHeartbeats 4000000 in
set_option maxRecDepth 100000 in
theorem mc_ta_cutTo (l : Launch) (dC : Nat → ClassId) (dI : Nat → Nat → Nat) (a : Nat → Nat) (cI cZ : ClassId) (sz : Nat) (x1 : Int32) (g : St) (post : St → Prop) (h : wp_ta_cutTo x1 g post) : Met l yy_ta_cutTo ww_ta_cutTo rm_ta_cutTo (zz_Pre (dC, dI) (wC a cI cZ) [(cI, .int), (cZ, .boolean)] [.ref (a 4), .int x1] g sz) (va_Qv post (zz_W (dC, dI) (wC a cI cZ) [(cI, .int), (cZ, .boolean)] (va_A (wC a cI cZ g) sz)) (va_A (wC a cI cZ g) sz)) 0 0 (va_A (wC a cI cZ g) sz) := by
  refine Met.ofW (cc := cc_ta_cutTo) (maxL := 2) (ret := none) (by decide) rfl ?_
  intro p e s m args below meth c s₁ B hml hv
  obtain ⟨hav, hsz, hP, hK, hD0, hN⟩ := hv
  have hx := B.exec
  have hb := B.bytes
  have hr := B.returns
  have hts := atoms_spec (ws := ww_ta_cutTo) B.pre
  have hown : s.vm.findClass "SpotContours$Tags" = some m.cls := findClass_of_methodNamed B.named
  have hlocks := B.notSynchronized
  subst hsz
  have hD := hD0.self (sz := s.heap.size)
  generalize hAe : va_A (wC a cI cZ g) s.heap.size = A at hD ⊢
  have hA : ∀ q : Nat, s.heap.size ≤ q → A q := fun q h => by rw [← hAe]; exact Or.inr h
  have hS : va_S A s.heap s.heap [] := va_S.rf
  have he9 := lg_entry_eq m [.ref (a 4), .int x1] 2
  rw [← hav] at he9
  rw [he9]
  have hl := lv_entry [.ref (a 4), .int x1] (n := 2) (Nat.le_of_ble_eq_true rfl)
  generalize (lg_sl [.ref (a 4), .int x1] ++ List.replicate (2 - (lg_sl [.ref (a 4), .int x1]).length) Slot.unset).toArray = ls at hl ⊢
  have hl : lv_has ls 2 [(0, .ref (a 4)), (1, .int x1)] := hl
  have hin__ta : ∀ w ∈ u_ws R_ta T_ta 4, w ∈ ww_ta_cutTo := fun w h => zz_in (hin0_ta w h)
  have fl_19 := hts (.fieldLink "SpotContours$Tags" 19 "SpotContours$Tags" "count" "I") (zz_in wm_369)
  unfold wp_ta_cutTo at h
  refine lv_aload_n hx hb d_ta_cutTo_0 rfl (lv_at hl 0 rfl) ?_
  refine lv_iload_n hx hb d_ta_cutTo_1 rfl (lv_at hl 1 rfl) ?_
  refine va_put (D := (dC, dI)) (ci := 3) (v := .int x1) (ty := .int) (C := R_ta) (T := T_ta) (N := 4) hx hb hts hin__ta ty_ta tok_ta nmd_ta hown hK hP hD hS 4 (wC_4 a cI cZ g) rfl 3 (by decide) fl_19 (fun _ h9 => h9) rfl (by decide +kernel) rfl rfl (Nat.le_of_ble_eq_true rfl) d_ta_cutTo_2 (fun H locs hP hD hS => ?_)
  obtain ⟨g1, e_g1⟩ : ∃ z : St, z = gp g 4 3 x1 := ⟨_, rfl⟩
  have h := h g1 e_g1
  have hP : va_P (dC, dI) zzCl (wC a cI cZ g1) H := by rw [e_g1]; exact hP
  have hD : va_D A (wC a cI cZ g1) := by rw [e_g1]; exact hD
  exact W.vret hx hb hr (fun t ht hW => ⟨⟨g1, rfl, h, by rw [ht]; exact hP, va_K.moved hW.alike hK, hD⟩, hS.F ht⟩) hS.2.2 d_ta_cutTo_5
abbrev rm_ta_coversSpot : Room := { frames := 1, cells := 0, slots := 0, locals := 21 }
set_option maxHeartbeats 4000000 in
set_option maxRecDepth 100000 in
theorem mc_ta_coversSpot (l : Launch) (dC : Nat → ClassId) (dI : Nat → Nat → Nat) (a : Nat → Nat) (cI cZ : ClassId) (sz : Nat) (x1 : Int32) (x2 : Int32) (g : St) (post : Int32 → St → Prop) (h : wp_ta_coversSpot x1 x2 g post) : Met l yy_ta_coversSpot ww_ta_coversSpot rm_ta_coversSpot (zz_Pre (dC, dI) (wC a cI cZ) [(cI, .int), (cZ, .boolean)] [.ref (a 1), .int x1, .int x2] g sz) (va_Qi post (zz_W (dC, dI) (wC a cI cZ) [(cI, .int), (cZ, .boolean)] (va_A (wC a cI cZ g) sz)) (va_A (wC a cI cZ g) sz)) 0 0 (va_A (wC a cI cZ g) sz) := by
  refine Met.ofW (cc := cc_ta_coversSpot) (maxL := 4) (ret := (some .boolean)) (by decide) rfl ?_
  intro p e s m args below meth c s₁ B hml hv
  obtain ⟨hav, hsz, hP, hK, hD0, hN⟩ := hv
  have hx := B.exec
  have hb := B.bytes
  have hr := B.returns
  have hts := atoms_spec (ws := ww_ta_coversSpot) B.pre
  have hown : s.vm.findClass "SpotContours$Tags" = some m.cls := findClass_of_methodNamed B.named
  have hlocks := B.notSynchronized
  subst hsz
  have hD := hD0.self (sz := s.heap.size)
  generalize hAe : va_A (wC a cI cZ g) s.heap.size = A at hD ⊢
  have hA : ∀ q : Nat, s.heap.size ≤ q → A q := fun q h => by rw [← hAe]; exact Or.inr h
  have hS : va_S A s.heap s.heap [] := va_S.rf
  have he9 := lg_entry_eq m [.ref (a 1), .int x1, .int x2] 4
  rw [← hav] at he9
  rw [he9]
  have hl := lv_entry [.ref (a 1), .int x1, .int x2] (n := 4) (Nat.le_of_ble_eq_true rfl)
  generalize (lg_sl [.ref (a 1), .int x1, .int x2] ++ List.replicate (4 - (lg_sl [.ref (a 1), .int x1, .int x2]).length) Slot.unset).toArray = ls at hl ⊢
  have hl : lv_has ls 4 [(0, .ref (a 1)), (1, .int x1), (2, .int x2)] := hl
  have L2 : ∀ (n : Nat) (v1 : Int32) (v2 : Int32) (v3 : Int32) (g : St) (K46 : St → Prop) , (∀ (g : St), K46 g → ∀ (H : Heap) (locs : List Loc) (ls : Array Slot), va_P (dC, dI) zzCl (wC a cI cZ g) H → va_D A (wC a cI cZ g) → va_S A s.heap H locs → lv_has ls 4 [] → W p l e (headSpec ww_ta_coversSpot rm_ta_coversSpot).room s m args below meth c H locs 0 0 (zz_Qi below (dC, dI) (wC a cI cZ) [(cI, .int), (cZ, .boolean)] A post args s) (F0 m 46 ls [])) → lp_ta_coversSpot_L2 n v1 v2 v3 g K46 post → ∀ (H : Heap) (locs : List Loc) (ls : Array Slot), va_P (dC, dI) zzCl (wC a cI cZ g) H → va_D A (wC a cI cZ g) → va_S A s.heap H locs → lv_has ls 4 [(0, .ref (a 1)), (1, .int v1), (2, .int v2), (3, .int v3)] → W p l e (headSpec ww_ta_coversSpot rm_ta_coversSpot).room s m args below meth c H locs 0 0 (zz_Qi below (dC, dI) (wC a cI cZ) [(cI, .int), (cZ, .boolean)] A post args s) (F0 m 2 ls []) := by
    intro n
    induction n with
    | zero => intro v1 v2 v3 g K46 hK46 h; exact h.elim
    | succ n ih =>
      intro v1 v2 v3 g K46 hK46 h H locs ls hP hD hS hl
      unfold lp_ta_coversSpot_L2 at h
      refine lv_iload_n hx hb d_ta_coversSpot_2 rfl (lv_at hl 3 rfl) ?_
      refine lv_aload_n hx hb d_ta_coversSpot_3 rfl (lv_at hl 0 rfl) ?_
      refine zz_ci (va_runV (As := []) (rest := [.int v3]) ⟨hx, hb, hml, hown, hts⟩ (mc_sp_size l dC dI a cI cZ _  g _ h) (zz_cwV 0 hts (zz_good wm_48) rfl rfl rfl wm_132 wm_50 wm_51 wm_1 (by decide +kernel) ⟨Nat.le_of_ble_eq_true rfl, Nat.le_of_ble_eq_true rfl⟩) ⟨zz_blind, (va_recv hK hP rfl (wC_1 a cI cZ g)), zz_pre hP hK hD hN⟩ rfl rfl hl.1 rfl (lv_room (Nat.le_of_ble_eq_true rfl)) d_ta_coversSpot_4 ⟨Nat.le_of_ble_eq_true rfl, Nat.le_of_ble_eq_true rfl⟩) hD hS hA (fun r2 g1 H locs h hP hD hS => ?_)
      refine lv_icmp_ge (tgt := 46) hx hb d_ta_coversSpot_7 (by decide) (fun hc => ?_) (fun hc => ?_)
      · have h := h.1 hc
        exact hK46 _ h _ _ _ hP hD hS (lv_sub hl [] rfl)
      · have h := h.2 hc
        refine lv_aload_n hx hb d_ta_coversSpot_10 rfl (lv_at hl 0 rfl) ?_
        refine lv_iload_n hx hb d_ta_coversSpot_11 rfl (lv_at hl 3 rfl) ?_
        refine zz_ci (va_runV (As := [.int v3]) (rest := []) ⟨hx, hb, hml, hown, hts⟩ (mc_sp_x l dC dI a cI cZ _ v3 g1 _ h) (zz_cwV 1 hts (zz_good wm_0) rfl rfl rfl wm_131 wm_3 wm_4 wm_1 (by decide +kernel) ⟨Nat.le_of_ble_eq_true rfl, Nat.le_of_ble_eq_true rfl⟩) ⟨zz_blind, (va_recv hK hP rfl (wC_1 a cI cZ g1)), zz_pre hP hK hD hN⟩ rfl rfl hl.1 rfl (lv_room (Nat.le_of_ble_eq_true rfl)) d_ta_coversSpot_12 ⟨Nat.le_of_ble_eq_true rfl, Nat.le_of_ble_eq_true rfl⟩) hD hS hA (fun r4 g3 H locs h hP hD hS => ?_)
        refine lv_iload_n hx hb d_ta_coversSpot_15 rfl (lv_at hl 1 rfl) ?_
        refine lv_isub hx hb d_ta_coversSpot_16 ?_
        refine va_mabs hx hb (hml.trans hl.1.symm) hown (hts _ (zz_in wm_124)) (hts _ (zz_in wm_125)) (hts _ (zz_in wm_106)) (hts _ (zz_in wm_126)) (Nat.le_of_ble_eq_true rfl) (Nat.le_of_ble_eq_true rfl) (Nat.zero_le _) (Nat.zero_le _) d_ta_coversSpot_17 ?_
        refine lv_iconst (v := 3) hx hb d_ta_coversSpot_20 (by decide) ?_
        refine lv_icmp_gt (tgt := 40) hx hb d_ta_coversSpot_21 (by decide) (fun hc => ?_) (fun hc => ?_)
        · have h := h.1 hc
          refine lv_iinc (k := 3) (v := (v3 + 1)) (lv' := [(3, .int (v3 + 1)), (0, .ref (a 1)), (1, .int v1), (2, .int v2)]) hx hb d_ta_coversSpot_40 hl rfl rfl (by decide) rfl (fun ls hl => ?_)
          refine lv_goto (tgt := 2) hx hb d_ta_coversSpot_43 (by decide) ?_
          exact ih _ _ _ _ _ hK46 h _ _ _ hP hD hS (lv_sub hl [1, 2, 3, 0] rfl)
        · have h := h.2 hc
          refine lv_aload_n hx hb d_ta_coversSpot_24 rfl (lv_at hl 0 rfl) ?_
          refine lv_iload_n hx hb d_ta_coversSpot_25 rfl (lv_at hl 3 rfl) ?_
          refine zz_ci (va_runV (As := [.int v3]) (rest := []) ⟨hx, hb, hml, hown, hts⟩ (mc_sp_y l dC dI a cI cZ _ v3 g3 _ h) (zz_cwV 1 hts (zz_good wm_127) rfl rfl rfl wm_128 wm_129 wm_130 wm_1 (by decide +kernel) ⟨Nat.le_of_ble_eq_true rfl, Nat.le_of_ble_eq_true rfl⟩) ⟨zz_blind, (va_recv hK hP rfl (wC_1 a cI cZ g3)), zz_pre hP hK hD hN⟩ rfl rfl hl.1 rfl (lv_room (Nat.le_of_ble_eq_true rfl)) d_ta_coversSpot_26 ⟨Nat.le_of_ble_eq_true rfl, Nat.le_of_ble_eq_true rfl⟩) hD hS hA (fun r6 g5 H locs h hP hD hS => ?_)
          refine lv_iload_n hx hb d_ta_coversSpot_29 rfl (lv_at hl 2 rfl) ?_
          refine lv_isub hx hb d_ta_coversSpot_30 ?_
          refine va_mabs hx hb (hml.trans hl.1.symm) hown (hts _ (zz_in wm_124)) (hts _ (zz_in wm_125)) (hts _ (zz_in wm_106)) (hts _ (zz_in wm_126)) (Nat.le_of_ble_eq_true rfl) (Nat.le_of_ble_eq_true rfl) (Nat.zero_le _) (Nat.zero_le _) d_ta_coversSpot_31 ?_
          refine lv_iconst (v := 1) hx hb d_ta_coversSpot_34 (by decide) ?_
          refine lv_icmp_gt (tgt := 40) hx hb d_ta_coversSpot_35 (by decide) (fun hc => ?_) (fun hc => ?_)
          · have h := h.1 hc
            refine lv_iinc (k := 3) (v := (v3 + 1)) (lv' := [(3, .int (v3 + 1)), (0, .ref (a 1)), (1, .int v1), (2, .int v2)]) hx hb d_ta_coversSpot_40 hl rfl rfl (by decide) rfl (fun ls hl => ?_)
            refine lv_goto (tgt := 2) hx hb d_ta_coversSpot_43 (by decide) ?_
            exact ih _ _ _ _ _ hK46 h _ _ _ hP hD hS (lv_sub hl [1, 2, 3, 0] rfl)
          · have h := h.2 hc
            refine lv_iconst (v := 1) hx hb d_ta_coversSpot_38 (by decide) ?_
            exact W.zret (v := 1) hx hb hr (by decide) (fun t ht hW => ⟨⟨1, g5, rfl, h, by rw [ht]; exact hP, va_K.moved hW.alike hK, hD⟩, hS.F ht⟩) hS.2.2 d_ta_coversSpot_39
  unfold wp_ta_coversSpot at h
  refine lv_iconst (v := 0) hx hb d_ta_coversSpot_0 (by decide) ?_
  refine lv_istore_n (lv' := [(3, .int 0), (0, .ref (a 1)), (1, .int x1), (2, .int x2)]) hx hb d_ta_coversSpot_1 rfl hl (by decide) rfl (fun ls hl => ?_)
  obtain ⟨n2, h⟩ := h
  refine L2 n2 _ _ _ _ _ (fun g7 h H locs ls hP hD hS hl => ?_) h _ _ _ hP hD hS (lv_sub hl [1, 2, 3, 0] rfl)
  refine lv_iconst (v := 0) hx hb d_ta_coversSpot_46 (by decide) ?_
  exact W.zret (v := 0) hx hb hr (by decide) (fun t ht hW => ⟨⟨0, g7, rfl, h, by rw [ht]; exact hP, va_K.moved hW.alike hK, hD⟩, hS.F ht⟩) hS.2.2 d_ta_coversSpot_47
abbrev rm_ta_clashesAt : Room := { frames := 1, cells := 0, slots := 0, locals := 21 }
set_option maxHeartbeats 4000000 in
set_option maxRecDepth 100000 in
theorem mc_ta_clashesAt (l : Launch) (dC : Nat → ClassId) (dI : Nat → Nat → Nat) (a : Nat → Nat) (cI cZ : ClassId) (sz : Nat) (x1 : Int32) (x2 : Int32) (g : St) (post : Int32 → St → Prop) (h : wp_ta_clashesAt x1 x2 g post) : Met l yy_ta_clashesAt ww_ta_clashesAt rm_ta_clashesAt (zz_Pre (dC, dI) (wC a cI cZ) [(cI, .int), (cZ, .boolean)] [.ref (a 4), .int x1, .int x2] g sz) (va_Qi post (zz_W (dC, dI) (wC a cI cZ) [(cI, .int), (cZ, .boolean)] (va_A (wC a cI cZ g) sz)) (va_A (wC a cI cZ g) sz)) 0 0 (va_A (wC a cI cZ g) sz) := by
  refine Met.ofW (cc := cc_ta_clashesAt) (maxL := 4) (ret := (some .boolean)) (by decide) rfl ?_
  intro p e s m args below meth c s₁ B hml hv
  obtain ⟨hav, hsz, hP, hK, hD0, hN⟩ := hv
  have hx := B.exec
  have hb := B.bytes
  have hr := B.returns
  have hts := atoms_spec (ws := ww_ta_clashesAt) B.pre
  have hown : s.vm.findClass "SpotContours$Tags" = some m.cls := findClass_of_methodNamed B.named
  have hlocks := B.notSynchronized
  subst hsz
  have hD := hD0.self (sz := s.heap.size)
  generalize hAe : va_A (wC a cI cZ g) s.heap.size = A at hD ⊢
  have hA : ∀ q : Nat, s.heap.size ≤ q → A q := fun q h => by rw [← hAe]; exact Or.inr h
  have hS : va_S A s.heap s.heap [] := va_S.rf
  have he9 := lg_entry_eq m [.ref (a 4), .int x1, .int x2] 4
  rw [← hav] at he9
  rw [he9]
  have hl := lv_entry [.ref (a 4), .int x1, .int x2] (n := 4) (Nat.le_of_ble_eq_true rfl)
  generalize (lg_sl [.ref (a 4), .int x1, .int x2] ++ List.replicate (4 - (lg_sl [.ref (a 4), .int x1, .int x2]).length) Slot.unset).toArray = ls at hl ⊢
  have hl : lv_has ls 4 [(0, .ref (a 4)), (1, .int x1), (2, .int x2)] := hl
  have hin__ta : ∀ w ∈ u_ws R_ta T_ta 4, w ∈ ww_ta_clashesAt := fun w h => zz_in (hin0_ta w h)
  have fl_13 := hts (.fieldLink "SpotContours$Tags" 13 "SpotContours$Tags" "xs" "[I") (zz_in wm_371)
  have fl_16 := hts (.fieldLink "SpotContours$Tags" 16 "SpotContours$Tags" "ys" "[I") (zz_in wm_372)
  have fl_19 := hts (.fieldLink "SpotContours$Tags" 19 "SpotContours$Tags" "count" "I") (zz_in wm_369)
  have L2 : ∀ (n : Nat) (v1 : Int32) (v2 : Int32) (v3 : Int32) (g : St) (K49 : St → Prop) , (∀ (g : St), K49 g → ∀ (H : Heap) (locs : List Loc) (ls : Array Slot), va_P (dC, dI) zzCl (wC a cI cZ g) H → va_D A (wC a cI cZ g) → va_S A s.heap H locs → lv_has ls 4 [] → W p l e (headSpec ww_ta_clashesAt rm_ta_clashesAt).room s m args below meth c H locs 0 0 (zz_Qi below (dC, dI) (wC a cI cZ) [(cI, .int), (cZ, .boolean)] A post args s) (F0 m 49 ls [])) → lp_ta_clashesAt_L2 n v1 v2 v3 g K49 post → ∀ (H : Heap) (locs : List Loc) (ls : Array Slot), va_P (dC, dI) zzCl (wC a cI cZ g) H → va_D A (wC a cI cZ g) → va_S A s.heap H locs → lv_has ls 4 [(0, .ref (a 4)), (1, .int v1), (2, .int v2), (3, .int v3)] → W p l e (headSpec ww_ta_clashesAt rm_ta_clashesAt).room s m args below meth c H locs 0 0 (zz_Qi below (dC, dI) (wC a cI cZ) [(cI, .int), (cZ, .boolean)] A post args s) (F0 m 2 ls []) := by
    intro n
    induction n with
    | zero => intro v1 v2 v3 g K49 hK49 h; exact h.elim
    | succ n ih =>
      intro v1 v2 v3 g K49 hK49 h H locs ls hP hD hS hl
      unfold lp_ta_clashesAt_L2 at h
      refine lv_iload_n hx hb d_ta_clashesAt_2 rfl (lv_at hl 3 rfl) ?_
      refine lv_aload_n hx hb d_ta_clashesAt_3 rfl (lv_at hl 0 rfl) ?_
      refine va_get (D := (dC, dI)) (ci := 3) (v := .int (g 4 3)) (C := R_ta) (T := T_ta) (N := 4) hx hb hts hin__ta hown hK hP 4 (wC_4 a cI cZ g) rfl 3 (by decide) fl_19 (fun _ h9 => h9) rfl d_ta_clashesAt_4 ?_
      refine lv_icmp_ge (tgt := 49) hx hb d_ta_clashesAt_7 (by decide) (fun hc => ?_) (fun hc => ?_)
      · have h := h.1 hc
        exact hK49 _ h _ _ _ hP hD hS (lv_sub hl [] rfl)
      · have h := h.2 hc
        refine lv_aload_n hx hb d_ta_clashesAt_10 rfl (lv_at hl 0 rfl) ?_
        refine va_get (D := (dC, dI)) (ci := 3) (v := .ref (a 16)) (C := R_ta) (T := T_ta) (N := 4) hx hb hts hin__ta hown hK hP 4 (wC_4 a cI cZ g) rfl 1 (by decide) fl_13 (fun _ h9 => h9) rfl d_ta_clashesAt_11 ?_
        refine lv_iload_n hx hb d_ta_clashesAt_14 rfl (lv_at hl 3 rfl) ?_
        refine va_iald hx hb hK hP 16 0 (wC_16 a cI cZ g) rfl h.1 d_ta_clashesAt_15 ?_
        have h := h.2
        refine lv_iload_n hx hb d_ta_clashesAt_16 rfl (lv_at hl 1 rfl) ?_
        refine lv_isub hx hb d_ta_clashesAt_17 ?_
        refine va_mabs hx hb (hml.trans hl.1.symm) hown (hts _ (zz_in wm_124)) (hts _ (zz_in wm_125)) (hts _ (zz_in wm_106)) (hts _ (zz_in wm_126)) (Nat.le_of_ble_eq_true rfl) (Nat.le_of_ble_eq_true rfl) (Nat.zero_le _) (Nat.zero_le _) d_ta_clashesAt_18 ?_
        refine lv_bipush (v := 6) hx hb d_ta_clashesAt_21 (by decide) ?_
        refine lv_icmp_gt (tgt := 43) hx hb d_ta_clashesAt_23 (by decide) (fun hc => ?_) (fun hc => ?_)
        · have h := h.1 hc
          refine lv_iinc (k := 3) (v := (v3 + 1)) (lv' := [(3, .int (v3 + 1)), (0, .ref (a 4)), (1, .int v1), (2, .int v2)]) hx hb d_ta_clashesAt_43 hl rfl rfl (by decide) rfl (fun ls hl => ?_)
          refine lv_goto (tgt := 2) hx hb d_ta_clashesAt_46 (by decide) ?_
          exact ih _ _ _ _ _ hK49 h _ _ _ hP hD hS (lv_sub hl [1, 2, 3, 0] rfl)
        · have h := h.2 hc
          refine lv_aload_n hx hb d_ta_clashesAt_26 rfl (lv_at hl 0 rfl) ?_
          refine va_get (D := (dC, dI)) (ci := 3) (v := .ref (a 17)) (C := R_ta) (T := T_ta) (N := 4) hx hb hts hin__ta hown hK hP 4 (wC_4 a cI cZ g) rfl 2 (by decide) fl_16 (fun _ h9 => h9) rfl d_ta_clashesAt_27 ?_
          refine lv_iload_n hx hb d_ta_clashesAt_30 rfl (lv_at hl 3 rfl) ?_
          refine va_iald hx hb hK hP 17 0 (wC_17 a cI cZ g) rfl h.1 d_ta_clashesAt_31 ?_
          have h := h.2
          refine lv_iload_n hx hb d_ta_clashesAt_32 rfl (lv_at hl 2 rfl) ?_
          refine lv_isub hx hb d_ta_clashesAt_33 ?_
          refine va_mabs hx hb (hml.trans hl.1.symm) hown (hts _ (zz_in wm_124)) (hts _ (zz_in wm_125)) (hts _ (zz_in wm_106)) (hts _ (zz_in wm_126)) (Nat.le_of_ble_eq_true rfl) (Nat.le_of_ble_eq_true rfl) (Nat.zero_le _) (Nat.zero_le _) d_ta_clashesAt_34 ?_
          refine lv_iconst (v := 2) hx hb d_ta_clashesAt_37 (by decide) ?_
          refine lv_icmp_gt (tgt := 43) hx hb d_ta_clashesAt_38 (by decide) (fun hc => ?_) (fun hc => ?_)
          · have h := h.1 hc
            refine lv_iinc (k := 3) (v := (v3 + 1)) (lv' := [(3, .int (v3 + 1)), (0, .ref (a 4)), (1, .int v1), (2, .int v2)]) hx hb d_ta_clashesAt_43 hl rfl rfl (by decide) rfl (fun ls hl => ?_)
            refine lv_goto (tgt := 2) hx hb d_ta_clashesAt_46 (by decide) ?_
            exact ih _ _ _ _ _ hK49 h _ _ _ hP hD hS (lv_sub hl [1, 2, 3, 0] rfl)
          · have h := h.2 hc
            refine lv_iconst (v := 1) hx hb d_ta_clashesAt_41 (by decide) ?_
            exact W.zret (v := 1) hx hb hr (by decide) (fun t ht hW => ⟨⟨1, g, rfl, h, by rw [ht]; exact hP, va_K.moved hW.alike hK, hD⟩, hS.F ht⟩) hS.2.2 d_ta_clashesAt_42
  unfold wp_ta_clashesAt at h
  refine lv_iconst (v := 0) hx hb d_ta_clashesAt_0 (by decide) ?_
  refine lv_istore_n (lv' := [(3, .int 0), (0, .ref (a 4)), (1, .int x1), (2, .int x2)]) hx hb d_ta_clashesAt_1 rfl hl (by decide) rfl (fun ls hl => ?_)
  obtain ⟨n2, h⟩ := h
  refine L2 n2 _ _ _ _ _ (fun g1 h H locs ls hP hD hS hl => ?_) h _ _ _ hP hD hS (lv_sub hl [1, 2, 3, 0] rfl)
  refine lv_iconst (v := 0) hx hb d_ta_clashesAt_49 (by decide) ?_
  exact W.zret (v := 0) hx hb hr (by decide) (fun t ht hW => ⟨⟨0, g1, rfl, h, by rw [ht]; exact hP, va_K.moved hW.alike hK, hD⟩, hS.F ht⟩) hS.2.2 d_ta_clashesAt_50
abbrev rm_sc_isOnMap : Room := { frames := 0, cells := 0, slots := 0, locals := 0 }
set_option maxHeartbeats 4000000 in
set_option maxRecDepth 100000 in
theorem mc_sc_isOnMap (l : Launch) (dC : Nat → ClassId) (dI : Nat → Nat → Nat) (a : Nat → Nat) (cI cZ : ClassId) (sz : Nat) (x0 : Int32) (x1 : Int32) (g : St) (post : Int32 → St → Prop) (h : wp_sc_isOnMap x0 x1 g post) : Met l yy_sc_isOnMap ww_sc_isOnMap rm_sc_isOnMap (zz_Pre (dC, dI) (wC a cI cZ) [(cI, .int), (cZ, .boolean)] [.int x0, .int x1] g sz) (va_Qi post (zz_W (dC, dI) (wC a cI cZ) [(cI, .int), (cZ, .boolean)] (va_A (wC a cI cZ g) sz)) (va_A (wC a cI cZ g) sz)) 0 0 (va_A (wC a cI cZ g) sz) := by
  refine Met.ofW (cc := cc_sc_isOnMap) (maxL := 2) (ret := (some .boolean)) (by decide) rfl ?_
  intro p e s m args below meth c s₁ B hml hv
  obtain ⟨hav, hsz, hP, hK, hD0, hN⟩ := hv
  have hx := B.exec
  have hb := B.bytes
  have hr := B.returns
  have hts := atoms_spec (ws := ww_sc_isOnMap) B.pre
  have hown : s.vm.findClass "SpotContours" = some m.cls := findClass_of_methodNamed B.named
  have hlocks := B.notSynchronized
  subst hsz
  have hD := hD0.self (sz := s.heap.size)
  generalize hAe : va_A (wC a cI cZ g) s.heap.size = A at hD ⊢
  have hA : ∀ q : Nat, s.heap.size ≤ q → A q := fun q h => by rw [← hAe]; exact Or.inr h
  have hS : va_S A s.heap s.heap [] := va_S.rf
  have he9 := lg_entry_eq m [.int x0, .int x1] 2
  rw [← hav] at he9
  rw [he9]
  have hl := lv_entry [.int x0, .int x1] (n := 2) (Nat.le_of_ble_eq_true rfl)
  generalize (lg_sl [.int x0, .int x1] ++ List.replicate (2 - (lg_sl [.int x0, .int x1]).length) Slot.unset).toArray = ls at hl ⊢
  have hl : lv_has ls 2 [(0, .int x0), (1, .int x1)] := hl
  unfold wp_sc_isOnMap at h
  refine lv_iload_n hx hb d_sc_isOnMap_0 rfl (lv_at hl 0 rfl) ?_
  refine lv_if_lt (tgt := 24) hx hb d_sc_isOnMap_1 (by decide) (fun hc => ?_) (fun hc => ?_)
  · have h := h.1 hc
    refine lv_iconst (v := 0) hx hb d_sc_isOnMap_24 (by decide) ?_
    exact W.zret (v := 0) hx hb hr (by decide) (fun t ht hW => ⟨⟨0, g, rfl, h, by rw [ht]; exact hP, va_K.moved hW.alike hK, hD⟩, hS.F ht⟩) hS.2.2 d_sc_isOnMap_25
  · have h := h.2 hc
    refine lv_iload_n hx hb d_sc_isOnMap_4 rfl (lv_at hl 0 rfl) ?_
    refine lv_bipush (v := 64) hx hb d_sc_isOnMap_5 (by decide) ?_
    refine lv_icmp_ge (tgt := 24) hx hb d_sc_isOnMap_7 (by decide) (fun hc => ?_) (fun hc => ?_)
    · have h := h.1 hc
      refine lv_iconst (v := 0) hx hb d_sc_isOnMap_24 (by decide) ?_
      exact W.zret (v := 0) hx hb hr (by decide) (fun t ht hW => ⟨⟨0, g, rfl, h, by rw [ht]; exact hP, va_K.moved hW.alike hK, hD⟩, hS.F ht⟩) hS.2.2 d_sc_isOnMap_25
    · have h := h.2 hc
      refine lv_iload_n hx hb d_sc_isOnMap_10 rfl (lv_at hl 1 rfl) ?_
      refine lv_if_lt (tgt := 24) hx hb d_sc_isOnMap_11 (by decide) (fun hc => ?_) (fun hc => ?_)
      · have h := h.1 hc
        refine lv_iconst (v := 0) hx hb d_sc_isOnMap_24 (by decide) ?_
        exact W.zret (v := 0) hx hb hr (by decide) (fun t ht hW => ⟨⟨0, g, rfl, h, by rw [ht]; exact hP, va_K.moved hW.alike hK, hD⟩, hS.F ht⟩) hS.2.2 d_sc_isOnMap_25
      · have h := h.2 hc
        refine lv_iload_n hx hb d_sc_isOnMap_14 rfl (lv_at hl 1 rfl) ?_
        refine lv_bipush (v := 64) hx hb d_sc_isOnMap_15 (by decide) ?_
        refine lv_icmp_ge (tgt := 24) hx hb d_sc_isOnMap_17 (by decide) (fun hc => ?_) (fun hc => ?_)
        · have h := h.1 hc
          refine lv_iconst (v := 0) hx hb d_sc_isOnMap_24 (by decide) ?_
          exact W.zret (v := 0) hx hb hr (by decide) (fun t ht hW => ⟨⟨0, g, rfl, h, by rw [ht]; exact hP, va_K.moved hW.alike hK, hD⟩, hS.F ht⟩) hS.2.2 d_sc_isOnMap_25
        · have h := h.2 hc
          refine lv_iconst (v := 1) hx hb d_sc_isOnMap_20 (by decide) ?_
          refine lv_goto (tgt := 25) hx hb d_sc_isOnMap_21 (by decide) ?_
          exact W.zret (v := 1) hx hb hr (by decide) (fun t ht hW => ⟨⟨1, g, rfl, h, by rw [ht]; exact hP, va_K.moved hW.alike hK, hD⟩, hS.F ht⟩) hS.2.2 d_sc_isOnMap_25
abbrev rm_sc_isHeight : Room := { frames := 0, cells := 0, slots := 0, locals := 0 }
set_option maxHeartbeats 4000000 in
set_option maxRecDepth 100000 in
theorem mc_sc_isHeight (l : Launch) (dC : Nat → ClassId) (dI : Nat → Nat → Nat) (a : Nat → Nat) (cI cZ : ClassId) (sz : Nat) (x0 : Int32) (g : St) (post : Int32 → St → Prop) (h : wp_sc_isHeight x0 g post) : Met l yy_sc_isHeight ww_sc_isHeight rm_sc_isHeight (zz_Pre (dC, dI) (wC a cI cZ) [(cI, .int), (cZ, .boolean)] [.int x0] g sz) (va_Qi post (zz_W (dC, dI) (wC a cI cZ) [(cI, .int), (cZ, .boolean)] (va_A (wC a cI cZ g) sz)) (va_A (wC a cI cZ g) sz)) 0 0 (va_A (wC a cI cZ g) sz) := by
  refine Met.ofW (cc := cc_sc_isHeight) (maxL := 1) (ret := (some .boolean)) (by decide) rfl ?_
  intro p e s m args below meth c s₁ B hml hv
  obtain ⟨hav, hsz, hP, hK, hD0, hN⟩ := hv
  have hx := B.exec
  have hb := B.bytes
  have hr := B.returns
  have hts := atoms_spec (ws := ww_sc_isHeight) B.pre
  have hown : s.vm.findClass "SpotContours" = some m.cls := findClass_of_methodNamed B.named
  have hlocks := B.notSynchronized
  subst hsz
  have hD := hD0.self (sz := s.heap.size)
  generalize hAe : va_A (wC a cI cZ g) s.heap.size = A at hD ⊢
  have hA : ∀ q : Nat, s.heap.size ≤ q → A q := fun q h => by rw [← hAe]; exact Or.inr h
  have hS : va_S A s.heap s.heap [] := va_S.rf
  have he9 := lg_entry_eq m [.int x0] 1
  rw [← hav] at he9
  rw [he9]
  have hl := lv_entry [.int x0] (n := 1) (Nat.le_of_ble_eq_true rfl)
  generalize (lg_sl [.int x0] ++ List.replicate (1 - (lg_sl [.int x0]).length) Slot.unset).toArray = ls at hl ⊢
  have hl : lv_has ls 1 [(0, .int x0)] := hl
  unfold wp_sc_isHeight at h
  refine lv_iload_n hx hb d_sc_isHeight_0 rfl (lv_at hl 0 rfl) ?_
  refine lv_if_lt (tgt := 15) hx hb d_sc_isHeight_1 (by decide) (fun hc => ?_) (fun hc => ?_)
  · have h := h.1 hc
    refine lv_iconst (v := 0) hx hb d_sc_isHeight_15 (by decide) ?_
    exact W.zret (v := 0) hx hb hr (by decide) (fun t ht hW => ⟨⟨0, g, rfl, h, by rw [ht]; exact hP, va_K.moved hW.alike hK, hD⟩, hS.F ht⟩) hS.2.2 d_sc_isHeight_16
  · have h := h.2 hc
    refine lv_iload_n hx hb d_sc_isHeight_4 rfl (lv_at hl 0 rfl) ?_
    refine lv_sipush (v := 999) hx hb d_sc_isHeight_5 (by decide) ?_
    refine lv_icmp_gt (tgt := 15) hx hb d_sc_isHeight_8 (by decide) (fun hc => ?_) (fun hc => ?_)
    · have h := h.1 hc
      refine lv_iconst (v := 0) hx hb d_sc_isHeight_15 (by decide) ?_
      exact W.zret (v := 0) hx hb hr (by decide) (fun t ht hW => ⟨⟨0, g, rfl, h, by rw [ht]; exact hP, va_K.moved hW.alike hK, hD⟩, hS.F ht⟩) hS.2.2 d_sc_isHeight_16
    · have h := h.2 hc
      refine lv_iconst (v := 1) hx hb d_sc_isHeight_11 (by decide) ?_
      refine lv_goto (tgt := 16) hx hb d_sc_isHeight_12 (by decide) ?_
      exact W.zret (v := 1) hx hb hr (by decide) (fun t ht hW => ⟨⟨1, g, rfl, h, by rw [ht]; exact hP, va_K.moved hW.alike hK, hD⟩, hS.F ht⟩) hS.2.2 d_sc_isHeight_16
abbrev rm_sc_triangles : Room := { frames := 1, cells := 0, slots := 0, locals := 20 }
set_option maxHeartbeats 4000000 in
set_option maxRecDepth 100000 in
theorem mc_sc_triangles (l : Launch) (dC : Nat → ClassId) (dI : Nat → Nat → Nat) (a : Nat → Nat) (cI cZ : ClassId) (sz : Nat) (g : St) (post : Int32 → St → Prop) (h : wp_sc_triangles  g post) : Met l yy_sc_triangles ww_sc_triangles rm_sc_triangles (zz_Pre (dC, dI) (wC a cI cZ) [(cI, .int), (cZ, .boolean)] [.ref (a 0)] g sz) (va_Qi post (zz_W (dC, dI) (wC a cI cZ) [(cI, .int), (cZ, .boolean)] (va_A (wC a cI cZ g) sz)) (va_A (wC a cI cZ g) sz)) 0 0 (va_A (wC a cI cZ g) sz) := by
  refine Met.ofW (cc := cc_sc_triangles) (maxL := 1) (ret := (some .int)) (by decide) rfl ?_
  intro p e s m args below meth c s₁ B hml hv
  obtain ⟨hav, hsz, hP, hK, hD0, hN⟩ := hv
  have hx := B.exec
  have hb := B.bytes
  have hr := B.returns
  have hts := atoms_spec (ws := ww_sc_triangles) B.pre
  have hown : s.vm.findClass "SpotContours" = some m.cls := findClass_of_methodNamed B.named
  have hlocks := B.notSynchronized
  subst hsz
  have hD := hD0.self (sz := s.heap.size)
  generalize hAe : va_A (wC a cI cZ g) s.heap.size = A at hD ⊢
  have hA : ∀ q : Nat, s.heap.size ≤ q → A q := fun q h => by rw [← hAe]; exact Or.inr h
  have hS : va_S A s.heap s.heap [] := va_S.rf
  have he9 := lg_entry_eq m [.ref (a 0)] 1
  rw [← hav] at he9
  rw [he9]
  have hl := lv_entry [.ref (a 0)] (n := 1) (Nat.le_of_ble_eq_true rfl)
  generalize (lg_sl [.ref (a 0)] ++ List.replicate (1 - (lg_sl [.ref (a 0)]).length) Slot.unset).toArray = ls at hl ⊢
  have hl : lv_has ls 1 [(0, .ref (a 0))] := hl
  have hin__sc : ∀ w ∈ u_ws R_sc T_sc 4, w ∈ ww_sc_triangles := fun w h => zz_in (hin0_sc w h)
  have fl_19 := hts (.fieldLink "SpotContours" 19 "SpotContours" "mesh" "LSpotContours$Mesh;") (zz_in wm_374)
  unfold wp_sc_triangles at h
  refine lv_aload_n hx hb d_sc_triangles_0 rfl (lv_at hl 0 rfl) ?_
  refine va_get (D := (dC, dI)) (ci := 4) (v := .ref (a 2)) (C := R_sc) (T := T_sc) (N := 4) hx hb hts hin__sc hown hK hP 0 (wC_0 a cI cZ g) rfl 1 (by decide) fl_19 (fun _ h9 => h9) rfl d_sc_triangles_1 ?_
  refine zz_ci (va_runV (As := []) (rest := []) ⟨hx, hb, hml, hown, hts⟩ (mc_me_size l dC dI a cI cZ _  g _ h) (zz_cwV 0 hts (zz_good wm_166) rfl rfl rfl wm_167 wm_168 wm_169 wm_23 (by decide +kernel) ⟨Nat.le_of_ble_eq_true rfl, Nat.le_of_ble_eq_true rfl⟩) ⟨zz_blind, (va_recv hK hP rfl (wC_2 a cI cZ g)), zz_pre hP hK hD hN⟩ rfl rfl hl.1 rfl (lv_room (Nat.le_of_ble_eq_true rfl)) d_sc_triangles_4 ⟨Nat.le_of_ble_eq_true rfl, Nat.le_of_ble_eq_true rfl⟩) hD hS hA (fun r2 g1 H locs h hP hD hS => ?_)
  exact W.iret (v := r2) hx hb hr (fun t ht hW => ⟨⟨r2, g1, rfl, h, by rw [ht]; exact hP, va_K.moved hW.alike hK, hD⟩, hS.F ht⟩) hS.2.2 d_sc_triangles_7
abbrev rm_sc_firstFreePair : Room := { frames := 3, cells := 0, slots := 0, locals := 71 }
set_option maxHeartbeats 4000000 in
set_option maxRecDepth 100000 in
theorem mc_sc_firstFreePair (l : Launch) (dC : Nat → ClassId) (dI : Nat → Nat → Nat) (a : Nat → Nat) (cI cZ : ClassId) (sz : Nat) (x1 : Int32) (x2 : Int32) (g : St) (post : Int32 → St → Prop) (h : wp_sc_firstFreePair x1 x2 g post) : Met l yy_sc_firstFreePair ww_sc_firstFreePair rm_sc_firstFreePair (zz_Pre (dC, dI) (wC a cI cZ) [(cI, .int), (cZ, .boolean)] [.ref (a 0), .int x1, .int x2] g sz) (va_Qi post (zz_W (dC, dI) (wC a cI cZ) [(cI, .int), (cZ, .boolean)] (va_A (wC a cI cZ g) sz)) (va_A (wC a cI cZ g) sz)) 0 0 (va_A (wC a cI cZ g) sz) := by
  refine Met.ofW (cc := cc_sc_firstFreePair) (maxL := 7) (ret := (some .int)) (by decide) rfl ?_
  intro p e s m args below meth c s₁ B hml hv
  obtain ⟨hav, hsz, hP, hK, hD0, hN⟩ := hv
  have hx := B.exec
  have hb := B.bytes
  have hr := B.returns
  have hts := atoms_spec (ws := ww_sc_firstFreePair) B.pre
  have hown : s.vm.findClass "SpotContours" = some m.cls := findClass_of_methodNamed B.named
  have hlocks := B.notSynchronized
  subst hsz
  have hD := hD0.self (sz := s.heap.size)
  generalize hAe : va_A (wC a cI cZ g) s.heap.size = A at hD ⊢
  have hA : ∀ q : Nat, s.heap.size ≤ q → A q := fun q h => by rw [← hAe]; exact Or.inr h
  have hS : va_S A s.heap s.heap [] := va_S.rf
  have he9 := lg_entry_eq m [.ref (a 0), .int x1, .int x2] 7
  rw [← hav] at he9
  rw [he9]
  have hl := lv_entry [.ref (a 0), .int x1, .int x2] (n := 7) (Nat.le_of_ble_eq_true rfl)
  generalize (lg_sl [.ref (a 0), .int x1, .int x2] ++ List.replicate (7 - (lg_sl [.ref (a 0), .int x1, .int x2]).length) Slot.unset).toArray = ls at hl ⊢
  have hl : lv_has ls 7 [(0, .ref (a 0)), (1, .int x1), (2, .int x2)] := hl
  have hin__sc : ∀ w ∈ u_ws R_sc T_sc 4, w ∈ ww_sc_firstFreePair := fun w h => zz_in (hin0_sc w h)
  have fl_12 := hts (.fieldLink "SpotContours" 12 "SpotContours" "spots" "LSpotContours$Spots;") (zz_in wm_373)
  have fl_26 := hts (.fieldLink "SpotContours" 26 "SpotContours" "lines" "LSpotContours$Lines;") (zz_in wm_376)
  have fl_33 := hts (.fieldLink "SpotContours" 33 "SpotContours" "tags" "LSpotContours$Tags;") (zz_in wm_375)
  have L2 : ∀ (n : Nat) (v1 : Int32) (v2 : Int32) (v3 : Int32) (g : St) (K86 : St → Prop) , (∀ (g : St), K86 g → ∀ (H : Heap) (locs : List Loc) (ls : Array Slot), va_P (dC, dI) zzCl (wC a cI cZ g) H → va_D A (wC a cI cZ g) → va_S A s.heap H locs → lv_has ls 7 [] → W p l e (headSpec ww_sc_firstFreePair rm_sc_firstFreePair).room s m args below meth c H locs 0 0 (zz_Qi below (dC, dI) (wC a cI cZ) [(cI, .int), (cZ, .boolean)] A post args s) (F0 m 86 ls [])) → lp_sc_firstFreePair_L2 n v1 v2 v3 g K86 post → ∀ (H : Heap) (locs : List Loc) (ls : Array Slot), va_P (dC, dI) zzCl (wC a cI cZ g) H → va_D A (wC a cI cZ g) → va_S A s.heap H locs → lv_has ls 7 [(0, .ref (a 0)), (1, .int v1), (2, .int v2), (3, .int v3)] → W p l e (headSpec ww_sc_firstFreePair rm_sc_firstFreePair).room s m args below meth c H locs 0 0 (zz_Qi below (dC, dI) (wC a cI cZ) [(cI, .int), (cZ, .boolean)] A post args s) (F0 m 2 ls []) := by
    intro n
    induction n with
    | zero => intro v1 v2 v3 g K86 hK86 h; exact h.elim
    | succ n ih =>
      intro v1 v2 v3 g K86 hK86 h H locs ls hP hD hS hl
      unfold lp_sc_firstFreePair_L2 at h
      refine lv_iload_n hx hb d_sc_firstFreePair_2 rfl (lv_at hl 3 rfl) ?_
      refine lv_aload_n hx hb d_sc_firstFreePair_3 rfl (lv_at hl 0 rfl) ?_
      refine va_get (D := (dC, dI)) (ci := 4) (v := .ref (a 3)) (C := R_sc) (T := T_sc) (N := 4) hx hb hts hin__sc hown hK hP 0 (wC_0 a cI cZ g) rfl 2 (by decide) fl_26 (fun _ h9 => h9) rfl d_sc_firstFreePair_4 ?_
      refine lv_iload_n hx hb d_sc_firstFreePair_7 rfl (lv_at hl 2 rfl) ?_
      refine zz_ci (va_runV (As := [.int v2]) (rest := [.int v3]) ⟨hx, hb, hml, hown, hts⟩ (mc_li_length l dC dI a cI cZ _ v2 g _ h) (zz_cwV 1 hts (zz_good wm_18) rfl rfl rfl wm_196 wm_20 wm_21 wm_6 (by decide +kernel) ⟨Nat.le_of_ble_eq_true rfl, Nat.le_of_ble_eq_true rfl⟩) ⟨zz_blind, (va_recv hK hP rfl (wC_3 a cI cZ g)), zz_pre hP hK hD hN⟩ rfl rfl hl.1 rfl (lv_room (Nat.le_of_ble_eq_true rfl)) d_sc_firstFreePair_8 ⟨Nat.le_of_ble_eq_true rfl, Nat.le_of_ble_eq_true rfl⟩) hD hS hA (fun r2 g1 H locs h hP hD hS => ?_)
      refine lv_icmp_ge (tgt := 86) hx hb d_sc_firstFreePair_11 (by decide) (fun hc => ?_) (fun hc => ?_)
      · have h := h.1 hc
        exact hK86 _ h _ _ _ hP hD hS (lv_sub hl [] rfl)
      · have h := h.2 hc
        refine lv_aload_n hx hb d_sc_firstFreePair_14 rfl (lv_at hl 0 rfl) ?_
        refine va_get (D := (dC, dI)) (ci := 4) (v := .ref (a 3)) (C := R_sc) (T := T_sc) (N := 4) hx hb hts hin__sc hown hK hP 0 (wC_0 a cI cZ g1) rfl 2 (by decide) fl_26 (fun _ h9 => h9) rfl d_sc_firstFreePair_15 ?_
        refine lv_iload_n hx hb d_sc_firstFreePair_18 rfl (lv_at hl 2 rfl) ?_
        refine lv_iload_n hx hb d_sc_firstFreePair_19 rfl (lv_at hl 3 rfl) ?_
        refine zz_ci (va_runV (As := [.int v2, .int v3]) (rest := []) ⟨hx, hb, hml, hown, hts⟩ (mc_li_pair l dC dI a cI cZ _ v2 v3 g1 _ h) (zz_cwV 2 hts (zz_good wm_12) rfl rfl rfl wm_201 wm_14 wm_15 wm_6 (by decide +kernel) ⟨Nat.le_of_ble_eq_true rfl, Nat.le_of_ble_eq_true rfl⟩) ⟨zz_blind, (va_recv hK hP rfl (wC_3 a cI cZ g1)), zz_pre hP hK hD hN⟩ rfl rfl hl.1 rfl (lv_room (Nat.le_of_ble_eq_true rfl)) d_sc_firstFreePair_20 ⟨Nat.le_of_ble_eq_true rfl, Nat.le_of_ble_eq_true rfl⟩) hD hS hA (fun r4 g3 H locs h hP hD hS => ?_)
        refine lv_istore (lv' := [(4, .int r4), (0, .ref (a 0)), (1, .int v1), (2, .int v2), (3, .int v3)]) hx hb d_sc_firstFreePair_23 hl (by decide) rfl (fun ls hl => ?_)
        refine lv_aload_n hx hb d_sc_firstFreePair_25 rfl (lv_at hl 1 rfl) ?_
        refine va_get (D := (dC, dI)) (ci := 4) (v := .ref (a 1)) (C := R_sc) (T := T_sc) (N := 4) hx hb hts hin__sc hown hK hP 0 (wC_0 a cI cZ g3) rfl 0 (by decide) fl_12 (fun _ h9 => h9) rfl d_sc_firstFreePair_26 ?_
        refine lv_iload hx hb d_sc_firstFreePair_29 (lv_at hl 0 rfl) ?_
        refine lv_iload_n hx hb d_sc_firstFreePair_31 rfl (lv_at hl 2 rfl) ?_
        refine zz_ci (va_runV (As := [.int r4, .int v1]) (rest := []) ⟨hx, hb, hml, hown, hts⟩ (mc_sp_crossingX l dC dI a cI cZ _ r4 v1 g3 _ h) (zz_cwV 2 hts (zz_good wm_218) rfl rfl rfl wm_219 wm_220 wm_221 wm_1 (by decide +kernel) ⟨Nat.le_of_ble_eq_true rfl, Nat.le_of_ble_eq_true rfl⟩) ⟨zz_blind, (va_recv hK hP rfl (wC_1 a cI cZ g3)), zz_pre hP hK hD hN⟩ rfl rfl hl.1 rfl (lv_room (Nat.le_of_ble_eq_true rfl)) d_sc_firstFreePair_32 ⟨Nat.le_of_ble_eq_true rfl, Nat.le_of_ble_eq_true rfl⟩) hD hS hA (fun r6 g5 H locs h hP hD hS => ?_)
        refine lv_istore (lv' := [(5, .int r6), (4, .int r4), (0, .ref (a 0)), (1, .int v1), (2, .int v2), (3, .int v3)]) hx hb d_sc_firstFreePair_35 hl (by decide) rfl (fun ls hl => ?_)
        refine lv_aload_n hx hb d_sc_firstFreePair_37 rfl (lv_at hl 2 rfl) ?_
        refine va_get (D := (dC, dI)) (ci := 4) (v := .ref (a 1)) (C := R_sc) (T := T_sc) (N := 4) hx hb hts hin__sc hown hK hP 0 (wC_0 a cI cZ g5) rfl 0 (by decide) fl_12 (fun _ h9 => h9) rfl d_sc_firstFreePair_38 ?_
        refine lv_iload hx hb d_sc_firstFreePair_41 (lv_at hl 1 rfl) ?_
        refine lv_iload_n hx hb d_sc_firstFreePair_43 rfl (lv_at hl 3 rfl) ?_
        refine zz_ci (va_runV (As := [.int r4, .int v1]) (rest := []) ⟨hx, hb, hml, hown, hts⟩ (mc_sp_crossingY l dC dI a cI cZ _ r4 v1 g5 _ h) (zz_cwV 2 hts (zz_good wm_214) rfl rfl rfl wm_215 wm_216 wm_217 wm_1 (by decide +kernel) ⟨Nat.le_of_ble_eq_true rfl, Nat.le_of_ble_eq_true rfl⟩) ⟨zz_blind, (va_recv hK hP rfl (wC_1 a cI cZ g5)), zz_pre hP hK hD hN⟩ rfl rfl hl.1 rfl (lv_room (Nat.le_of_ble_eq_true rfl)) d_sc_firstFreePair_44 ⟨Nat.le_of_ble_eq_true rfl, Nat.le_of_ble_eq_true rfl⟩) hD hS hA (fun r8 g7 H locs h hP hD hS => ?_)
        refine lv_istore (lv' := [(6, .int r8), (5, .int r6), (4, .int r4), (0, .ref (a 0)), (1, .int v1), (2, .int v2), (3, .int v3)]) hx hb d_sc_firstFreePair_47 hl (by decide) rfl (fun ls hl => ?_)
        refine lv_aload_n hx hb d_sc_firstFreePair_49 rfl (lv_at hl 3 rfl) ?_
        refine va_get (D := (dC, dI)) (ci := 4) (v := .ref (a 1)) (C := R_sc) (T := T_sc) (N := 4) hx hb hts hin__sc hown hK hP 0 (wC_0 a cI cZ g7) rfl 0 (by decide) fl_12 (fun _ h9 => h9) rfl d_sc_firstFreePair_50 ?_
        refine lv_iload hx hb d_sc_firstFreePair_53 (lv_at hl 1 rfl) ?_
        refine lv_iload hx hb d_sc_firstFreePair_55 (lv_at hl 0 rfl) ?_
        refine zz_ci (va_runS (As := [.ref (a 1), .int r6, .int r8]) (rest := []) ⟨hx, hb, hml, hown, hts⟩ (mc_ta_coversSpot l dC dI a cI cZ _ r6 r8 g7 _ h) (zz_cwS 3 hts (zz_good wm_226) rfl rfl rfl wm_227 wm_228 wm_134 (by decide +kernel) ⟨Nat.le_of_ble_eq_true rfl, Nat.le_of_ble_eq_true rfl⟩) ⟨zz_blind, zz_pre hP hK hD hN⟩ rfl rfl hl.1 rfl (lv_room (Nat.le_of_ble_eq_true rfl)) d_sc_firstFreePair_57 ⟨Nat.le_of_ble_eq_true rfl, Nat.le_of_ble_eq_true rfl⟩) hD hS hA (fun r10 g9 H locs h hP hD hS => ?_)
        refine lv_if_ne (tgt := 80) hx hb d_sc_firstFreePair_60 (by decide) (fun hc => ?_) (fun hc => ?_)
        · have h := h.1 hc
          refine lv_iinc (k := 6) (v := (v3 + 1)) (lv' := [(3, .int (v3 + 1)), (6, .int r8), (5, .int r6), (4, .int r4), (0, .ref (a 0)), (1, .int v1), (2, .int v2)]) hx hb d_sc_firstFreePair_80 hl rfl rfl (by decide) rfl (fun ls hl => ?_)
          refine lv_goto (tgt := 2) hx hb d_sc_firstFreePair_83 (by decide) ?_
          exact ih _ _ _ _ _ hK86 h _ _ _ hP hD hS (lv_sub hl [4, 5, 6, 0] rfl)
        · have h := h.2 hc
          refine lv_aload_n hx hb d_sc_firstFreePair_63 rfl (lv_at hl 3 rfl) ?_
          refine va_get (D := (dC, dI)) (ci := 4) (v := .ref (a 4)) (C := R_sc) (T := T_sc) (N := 4) hx hb hts hin__sc hown hK hP 0 (wC_0 a cI cZ g9) rfl 3 (by decide) fl_33 (fun _ h9 => h9) rfl d_sc_firstFreePair_64 ?_
          refine lv_iload hx hb d_sc_firstFreePair_67 (lv_at hl 1 rfl) ?_
          refine lv_iload hx hb d_sc_firstFreePair_69 (lv_at hl 0 rfl) ?_
          refine zz_ci (va_runV (As := [.int r6, .int r8]) (rest := []) ⟨hx, hb, hml, hown, hts⟩ (mc_ta_clashesAt l dC dI a cI cZ _ r6 r8 g9 _ h) (zz_cwV 2 hts (zz_good wm_222) rfl rfl rfl wm_223 wm_224 wm_225 wm_134 (by decide +kernel) ⟨Nat.le_of_ble_eq_true rfl, Nat.le_of_ble_eq_true rfl⟩) ⟨zz_blind, (va_recv hK hP rfl (wC_4 a cI cZ g9)), zz_pre hP hK hD hN⟩ rfl rfl hl.1 rfl (lv_room (Nat.le_of_ble_eq_true rfl)) d_sc_firstFreePair_71 ⟨Nat.le_of_ble_eq_true rfl, Nat.le_of_ble_eq_true rfl⟩) hD hS hA (fun r12 g11 H locs h hP hD hS => ?_)
          refine lv_if_ne (tgt := 80) hx hb d_sc_firstFreePair_74 (by decide) (fun hc => ?_) (fun hc => ?_)
          · have h := h.1 hc
            refine lv_iinc (k := 6) (v := (v3 + 1)) (lv' := [(3, .int (v3 + 1)), (6, .int r8), (5, .int r6), (4, .int r4), (0, .ref (a 0)), (1, .int v1), (2, .int v2)]) hx hb d_sc_firstFreePair_80 hl rfl rfl (by decide) rfl (fun ls hl => ?_)
            refine lv_goto (tgt := 2) hx hb d_sc_firstFreePair_83 (by decide) ?_
            exact ih _ _ _ _ _ hK86 h _ _ _ hP hD hS (lv_sub hl [4, 5, 6, 0] rfl)
          · have h := h.2 hc
            refine lv_iload hx hb d_sc_firstFreePair_77 (lv_at hl 2 rfl) ?_
            exact W.iret (v := r4) hx hb hr (fun t ht hW => ⟨⟨r4, g11, rfl, h, by rw [ht]; exact hP, va_K.moved hW.alike hK, hD⟩, hS.F ht⟩) hS.2.2 d_sc_firstFreePair_79
  unfold wp_sc_firstFreePair at h
  refine lv_iconst (v := 0) hx hb d_sc_firstFreePair_0 (by decide) ?_
  refine lv_istore_n (lv' := [(3, .int 0), (0, .ref (a 0)), (1, .int x1), (2, .int x2)]) hx hb d_sc_firstFreePair_1 rfl hl (by decide) rfl (fun ls hl => ?_)
  obtain ⟨n2, h⟩ := h
  refine L2 n2 _ _ _ _ _ (fun g13 h H locs ls hP hD hS hl => ?_) h _ _ _ hP hD hS (lv_sub hl [1, 2, 3, 0] rfl)
  refine lv_iconst (v := (-1)) hx hb d_sc_firstFreePair_86 (by decide) ?_
  exact W.iret (v := (-1)) hx hb hr (fun t ht hW => ⟨⟨(-1), g13, rfl, h, by rw [ht]; exact hP, va_K.moved hW.alike hK, hD⟩, hS.F ht⟩) hS.2.2 d_sc_firstFreePair_87
