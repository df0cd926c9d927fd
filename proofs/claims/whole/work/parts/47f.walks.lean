/-! Contracts by their walks, printed. -/
abbrev rm_sc_labels : Room := { frames := 1, cells := 0, slots := 0, locals := 20 }
set_option maxHeartbeats 4000000 in
set_option maxRecDepth 100000 in
theorem mc_sc_labels (l : Launch) (dC : Nat → ClassId) (dI : Nat → Nat → Nat) (a : Nat → Nat) (cI cZ : ClassId) (sz : Nat) (g : St) (post : Int32 → St → Prop) (h : wp_sc_labels  g post) : Met l yy_sc_labels ww_sc_labels rm_sc_labels (zz_Pre (dC, dI) (wC a cI cZ) [(cI, .int), (cZ, .boolean)] [.ref (a 0)] g sz) (va_Qi post (zz_W (dC, dI) (wC a cI cZ) [(cI, .int), (cZ, .boolean)] (va_A (wC a cI cZ g) sz)) (va_A (wC a cI cZ g) sz)) 0 0 (va_A (wC a cI cZ g) sz) := by
  refine Met.ofW (cc := cc_sc_labels) (maxL := 1) (ret := (some .int)) (by decide) rfl ?_
  intro p e s m args below meth c s₁ B hml hv
  obtain ⟨hav, hsz, hP, hK, hD0, hN⟩ := hv
  have hx := B.exec
  have hb := B.bytes
  have hr := B.returns
  have hts := atoms_spec (ws := ww_sc_labels) B.pre
  have hown : s.vm.findClass "SpotContours" = some m.cls := findClass_of_methodNamed B.named
  have hlocks := B.notSynchronized
  subst hsz
  have hD := hD0.self (sz := s.heap.size)
  generalize hAe : va_A (wC a cI cZ g) s.heap.size = A at hD ⊢
  have hA : ∀ q : Nat, s.heap.size ≤ q → A q := fun q h => by rw [← hAe]; exact Or.inr h
  have hS : va_S A s.heap s.heap [] := va_S.rf
  have he9 := lg_entry_eq m [.ref (a 0)] 1
  rw [← hav] at he9
  rw [he9]
  have hl := lv_entry [.ref (a 0)] (n := 1) (Nat.le_of_ble_eq_true rfl)
  generalize (lg_sl [.ref (a 0)] ++ List.replicate (1 - (lg_sl [.ref (a 0)]).length) Slot.unset).toArray = ls at hl ⊢
  have hl : lv_has ls 1 [(0, .ref (a 0))] := hl
  have hin__sc : ∀ w ∈ u_ws R_sc T_sc 4, w ∈ ww_sc_labels := fun w h => zz_in (hin0_sc w h)
  have fl_33 := hts (.fieldLink "SpotContours" 33 "SpotContours" "tags" "LSpotContours$Tags;") (zz_in wm_375)
  unfold wp_sc_labels at h
  refine lv_aload_n hx hb d_sc_labels_0 rfl (lv_at hl 0 rfl) ?_
  refine va_get (D := (dC, dI)) (ci := 4) (v := .ref (a 4)) (C := R_sc) (T := T_sc) (N := 4) hx hb hts hin__sc hown hK hP 0 (wC_0 a cI cZ g) rfl 3 (by decide) fl_33 (fun _ h9 => h9) rfl d_sc_labels_1 ?_
  refine zz_ci (va_runV (As := []) (rest := []) ⟨hx, hb, hml, hown, hts⟩ (mc_ta_size l dC dI a cI cZ _  g _ h) (zz_cwV 0 hts (zz_good wm_241) rfl rfl rfl wm_242 wm_243 wm_244 wm_134 (by decide +kernel) ⟨Nat.le_of_ble_eq_true rfl, Nat.le_of_ble_eq_true rfl⟩) ⟨zz_blind, (va_recv hK hP rfl (wC_4 a cI cZ g)), zz_pre hP hK hD hN⟩ rfl rfl hl.1 rfl (lv_room (Nat.le_of_ble_eq_true rfl)) d_sc_labels_4 ⟨Nat.le_of_ble_eq_true rfl, Nat.le_of_ble_eq_true rfl⟩) hD hS hA (fun r2 g1 H locs h hP hD hS => ?_)
  exact W.iret (v := r2) hx hb hr (fun t ht hW => ⟨⟨r2, g1, rfl, h, by rw [ht]; exact hP, va_K.moved hW.alike hK, hD⟩, hS.F ht⟩) hS.2.2 d_sc_labels_7
abbrev rm_sc_wipe : Room := { frames := 1, cells := 0, slots := 0, locals := 21 }
set_option maxHeartbeats 4000000 in
set_option maxRecDepth 100000 in
theorem mc_sc_wipe (l : Launch) (dC : Nat → ClassId) (dI : Nat → Nat → Nat) (a : Nat → Nat) (cI cZ : ClassId) (sz : Nat) (g : St) (post : Int32 → St → Prop) (h : wp_sc_wipe  g post) : Met l yy_sc_wipe ww_sc_wipe rm_sc_wipe (zz_Pre (dC, dI) (wC a cI cZ) [(cI, .int), (cZ, .boolean)] [.ref (a 0)] g sz) (va_Qi post (zz_W (dC, dI) (wC a cI cZ) [(cI, .int), (cZ, .boolean)] (va_A (wC a cI cZ g) sz)) (va_A (wC a cI cZ g) sz)) 0 0 (va_A (wC a cI cZ g) sz) := by
  refine Met.ofW (cc := cc_sc_wipe) (maxL := 2) (ret := (some .int)) (by decide) rfl ?_
  intro p e s m args below meth c s₁ B hml hv
  obtain ⟨hav, hsz, hP, hK, hD0, hN⟩ := hv
  have hx := B.exec
  have hb := B.bytes
  have hr := B.returns
  have hts := atoms_spec (ws := ww_sc_wipe) B.pre
  have hown : s.vm.findClass "SpotContours" = some m.cls := findClass_of_methodNamed B.named
  have hlocks := B.notSynchronized
  subst hsz
  have hD := hD0.self (sz := s.heap.size)
  generalize hAe : va_A (wC a cI cZ g) s.heap.size = A at hD ⊢
  have hA : ∀ q : Nat, s.heap.size ≤ q → A q := fun q h => by rw [← hAe]; exact Or.inr h
  have hS : va_S A s.heap s.heap [] := va_S.rf
  have he9 := lg_entry_eq m [.ref (a 0)] 2
  rw [← hav] at he9
  rw [he9]
  have hl := lv_entry [.ref (a 0)] (n := 2) (Nat.le_of_ble_eq_true rfl)
  generalize (lg_sl [.ref (a 0)] ++ List.replicate (2 - (lg_sl [.ref (a 0)]).length) Slot.unset).toArray = ls at hl ⊢
  have hl : lv_has ls 2 [(0, .ref (a 0))] := hl
  have hin__sc : ∀ w ∈ u_ws R_sc T_sc 4, w ∈ ww_sc_wipe := fun w h => zz_in (hin0_sc w h)
  have fl_33 := hts (.fieldLink "SpotContours" 33 "SpotContours" "tags" "LSpotContours$Tags;") (zz_in wm_375)
  unfold wp_sc_wipe at h
  refine lv_aload_n hx hb d_sc_wipe_0 rfl (lv_at hl 0 rfl) ?_
  refine va_get (D := (dC, dI)) (ci := 4) (v := .ref (a 4)) (C := R_sc) (T := T_sc) (N := 4) hx hb hts hin__sc hown hK hP 0 (wC_0 a cI cZ g) rfl 3 (by decide) fl_33 (fun _ h9 => h9) rfl d_sc_wipe_1 ?_
  refine zz_ci (va_runV (As := []) (rest := []) ⟨hx, hb, hml, hown, hts⟩ (mc_ta_size l dC dI a cI cZ _  g _ h) (zz_cwV 0 hts (zz_good wm_241) rfl rfl rfl wm_242 wm_243 wm_244 wm_134 (by decide +kernel) ⟨Nat.le_of_ble_eq_true rfl, Nat.le_of_ble_eq_true rfl⟩) ⟨zz_blind, (va_recv hK hP rfl (wC_4 a cI cZ g)), zz_pre hP hK hD hN⟩ rfl rfl hl.1 rfl (lv_room (Nat.le_of_ble_eq_true rfl)) d_sc_wipe_4 ⟨Nat.le_of_ble_eq_true rfl, Nat.le_of_ble_eq_true rfl⟩) hD hS hA (fun r2 g1 H locs h hP hD hS => ?_)
  refine lv_istore_n (lv' := [(1, .int r2), (0, .ref (a 0))]) hx hb d_sc_wipe_7 rfl hl (by decide) rfl (fun ls hl => ?_)
  refine lv_aload_n hx hb d_sc_wipe_8 rfl (lv_at hl 1 rfl) ?_
  refine va_get (D := (dC, dI)) (ci := 4) (v := .ref (a 4)) (C := R_sc) (T := T_sc) (N := 4) hx hb hts hin__sc hown hK hP 0 (wC_0 a cI cZ g1) rfl 3 (by decide) fl_33 (fun _ h9 => h9) rfl d_sc_wipe_9 ?_
  refine lv_iconst (v := 0) hx hb d_sc_wipe_12 (by decide) ?_
  refine zz_cv (va_runV (As := [.int 0]) (rest := []) ⟨hx, hb, hml, hown, hts⟩ (mc_ta_cutTo l dC dI a cI cZ _ 0 g1 _ h) (zz_cwV 1 hts (zz_good wm_133) rfl rfl rfl wm_135 wm_136 wm_137 wm_134 (by decide +kernel) ⟨Nat.le_of_ble_eq_true rfl, Nat.le_of_ble_eq_true rfl⟩) ⟨zz_blind, (va_recv hK hP rfl (wC_4 a cI cZ g1)), zz_pre hP hK hD hN⟩ rfl rfl hl.1 rfl (lv_room (Nat.le_of_ble_eq_true rfl)) d_sc_wipe_13 ⟨Nat.le_of_ble_eq_true rfl, Nat.le_of_ble_eq_true rfl⟩) hD hS hA (fun g3 H locs h hP hD hS => ?_)
  refine lv_iload_n hx hb d_sc_wipe_16 rfl (lv_at hl 0 rfl) ?_
  exact W.iret (v := r2) hx hb hr (fun t ht hW => ⟨⟨r2, g3, rfl, h, by rw [ht]; exact hP, va_K.moved hW.alike hK, hD⟩, hS.F ht⟩) hS.2.2 d_sc_wipe_17
abbrev rm_mo_thrown : Room := { frames := 0, cells := 0, slots := 0, locals := 0 }
set_option maxHeartbeats 4000000 in
set_option maxRecDepth 100000 in
theorem mc_mo_thrown (l : Launch) (dC : Nat → ClassId) (dI : Nat → Nat → Nat) (a : Nat → Nat) (cI cZ : ClassId) (sz : Nat) (g : St) (post : Int32 → St → Prop) (h : wp_mo_thrown  g post) : Met l yy_mo_thrown ww_mo_thrown rm_mo_thrown (zz_Pre (dC, dI) (wM a cI cZ) [(cI, .int), (cZ, .boolean)] [.ref (a 0)] g sz) (va_Qi post (zz_W (dC, dI) (wM a cI cZ) [(cI, .int), (cZ, .boolean)] (va_A (wM a cI cZ g) sz)) (va_A (wM a cI cZ g) sz)) 0 0 (va_A (wM a cI cZ g) sz) := by
  refine Met.ofW (cc := cc_mo_thrown) (maxL := 1) (ret := (some .int)) (by decide) rfl ?_
  intro p e s m args below meth c s₁ B hml hv
  obtain ⟨hav, hsz, hP, hK, hD0, hN⟩ := hv
  have hx := B.exec
  have hb := B.bytes
  have hr := B.returns
  have hts := atoms_spec (ws := ww_mo_thrown) B.pre
  have hown : s.vm.findClass "SpotContoursModel" = some m.cls := findClass_of_methodNamed B.named
  have hlocks := B.notSynchronized
  subst hsz
  have hD := hD0.self (sz := s.heap.size)
  generalize hAe : va_A (wM a cI cZ g) s.heap.size = A at hD ⊢
  have hA : ∀ q : Nat, s.heap.size ≤ q → A q := fun q h => by rw [← hAe]; exact Or.inr h
  have hS : va_S A s.heap s.heap [] := va_S.rf
  have he9 := lg_entry_eq m [.ref (a 0)] 1
  rw [← hav] at he9
  rw [he9]
  have hl := lv_entry [.ref (a 0)] (n := 1) (Nat.le_of_ble_eq_true rfl)
  generalize (lg_sl [.ref (a 0)] ++ List.replicate (1 - (lg_sl [.ref (a 0)]).length) Slot.unset).toArray = ls at hl ⊢
  have hl : lv_has ls 1 [(0, .ref (a 0))] := hl
  have hin__mo : ∀ w ∈ u_ws R_mo T_mo 21, w ∈ ww_mo_thrown := fun w h => zz_in (hin0_mo w h)
  have fl_56 := hts (.fieldLink "SpotContoursModel" 56 "SpotContoursModel" "thrown" "I") (zz_in wm_377)
  unfold wp_mo_thrown at h
  refine lv_aload_n hx hb d_mo_thrown_0 rfl (lv_at hl 0 rfl) ?_
  refine va_get (D := (dC, dI)) (ci := 5) (v := .int (g 0 0)) (C := R_mo) (T := T_mo) (N := 21) hx hb hts hin__mo hown hK hP 0 (wM_0 a cI cZ g) rfl 0 (by decide) fl_56 (fun _ h9 => h9) rfl d_mo_thrown_1 ?_
  exact W.iret (v := (g 0 0)) hx hb hr (fun t ht hW => ⟨⟨(g 0 0), g, rfl, h, by rw [ht]; exact hP, va_K.moved hW.alike hK, hD⟩, hS.F ht⟩) hS.2.2 d_mo_thrown_4
abbrev rm_mo_isSpot : Room := { frames := 0, cells := 0, slots := 0, locals := 0 }
set_option maxHeartbeats 4000000 in
set_option maxRecDepth 100000 in
theorem mc_mo_isSpot (l : Launch) (dC : Nat → ClassId) (dI : Nat → Nat → Nat) (a : Nat → Nat) (cI cZ : ClassId) (sz : Nat) (x1 : Int32) (g : St) (post : Int32 → St → Prop) (h : wp_mo_isSpot x1 g post) : Met l yy_mo_isSpot ww_mo_isSpot rm_mo_isSpot (zz_Pre (dC, dI) (wM a cI cZ) [(cI, .int), (cZ, .boolean)] [.ref (a 0), .int x1] g sz) (va_Qi post (zz_W (dC, dI) (wM a cI cZ) [(cI, .int), (cZ, .boolean)] (va_A (wM a cI cZ g) sz)) (va_A (wM a cI cZ g) sz)) 0 0 (va_A (wM a cI cZ g) sz) := by
  refine Met.ofW (cc := cc_mo_isSpot) (maxL := 2) (ret := (some .boolean)) (by decide) rfl ?_
  intro p e s m args below meth c s₁ B hml hv
  obtain ⟨hav, hsz, hP, hK, hD0, hN⟩ := hv
  have hx := B.exec
  have hb := B.bytes
  have hr := B.returns
  have hts := atoms_spec (ws := ww_mo_isSpot) B.pre
  have hown : s.vm.findClass "SpotContoursModel" = some m.cls := findClass_of_methodNamed B.named
  have hlocks := B.notSynchronized
  subst hsz
  have hD := hD0.self (sz := s.heap.size)
  generalize hAe : va_A (wM a cI cZ g) s.heap.size = A at hD ⊢
  have hA : ∀ q : Nat, s.heap.size ≤ q → A q := fun q h => by rw [← hAe]; exact Or.inr h
  have hS : va_S A s.heap s.heap [] := va_S.rf
  have he9 := lg_entry_eq m [.ref (a 0), .int x1] 2
  rw [← hav] at he9
  rw [he9]
  have hl := lv_entry [.ref (a 0), .int x1] (n := 2) (Nat.le_of_ble_eq_true rfl)
  generalize (lg_sl [.ref (a 0), .int x1] ++ List.replicate (2 - (lg_sl [.ref (a 0), .int x1]).length) Slot.unset).toArray = ls at hl ⊢
  have hl : lv_has ls 2 [(0, .ref (a 0)), (1, .int x1)] := hl
  have hin__mo : ∀ w ∈ u_ws R_mo T_mo 21, w ∈ ww_mo_isSpot := fun w h => zz_in (hin0_mo w h)
  have fl_60 := hts (.fieldLink "SpotContoursModel" 60 "SpotContoursModel" "spots" "I") (zz_in wm_378)
  unfold wp_mo_isSpot at h
  refine lv_iload_n hx hb d_mo_isSpot_0 rfl (lv_at hl 1 rfl) ?_
  refine lv_if_lt (tgt := 16) hx hb d_mo_isSpot_1 (by decide) (fun hc => ?_) (fun hc => ?_)
  · have h := h.1 hc
    refine lv_iconst (v := 0) hx hb d_mo_isSpot_16 (by decide) ?_
    exact W.zret (v := 0) hx hb hr (by decide) (fun t ht hW => ⟨⟨0, g, rfl, h, by rw [ht]; exact hP, va_K.moved hW.alike hK, hD⟩, hS.F ht⟩) hS.2.2 d_mo_isSpot_17
  · have h := h.2 hc
    refine lv_iload_n hx hb d_mo_isSpot_4 rfl (lv_at hl 1 rfl) ?_
    refine lv_aload_n hx hb d_mo_isSpot_5 rfl (lv_at hl 0 rfl) ?_
    refine va_get (D := (dC, dI)) (ci := 5) (v := .int (g 0 1)) (C := R_mo) (T := T_mo) (N := 21) hx hb hts hin__mo hown hK hP 0 (wM_0 a cI cZ g) rfl 1 (by decide) fl_60 (fun _ h9 => h9) rfl d_mo_isSpot_6 ?_
    refine lv_icmp_ge (tgt := 16) hx hb d_mo_isSpot_9 (by decide) (fun hc => ?_) (fun hc => ?_)
    · have h := h.1 hc
      refine lv_iconst (v := 0) hx hb d_mo_isSpot_16 (by decide) ?_
      exact W.zret (v := 0) hx hb hr (by decide) (fun t ht hW => ⟨⟨0, g, rfl, h, by rw [ht]; exact hP, va_K.moved hW.alike hK, hD⟩, hS.F ht⟩) hS.2.2 d_mo_isSpot_17
    · have h := h.2 hc
      refine lv_iconst (v := 1) hx hb d_mo_isSpot_12 (by decide) ?_
      refine lv_goto (tgt := 17) hx hb d_mo_isSpot_13 (by decide) ?_
      exact W.zret (v := 1) hx hb hr (by decide) (fun t ht hW => ⟨⟨1, g, rfl, h, by rw [ht]; exact hP, va_K.moved hW.alike hK, hD⟩, hS.F ht⟩) hS.2.2 d_mo_isSpot_17
abbrev rm_mo_turn : Room := { frames := 0, cells := 0, slots := 0, locals := 0 }
set_option maxHeartbeats 4000000 in
set_option maxRecDepth 100000 in
theorem mc_mo_turn (l : Launch) (dC : Nat → ClassId) (dI : Nat → Nat → Nat) (a : Nat → Nat) (cI cZ : ClassId) (sz : Nat) (x1 : Int32) (x2 : Int32) (x3 : Int32) (g : St) (post : Int32 → St → Prop) (h : wp_mo_turn x1 x2 x3 g post) : Met l yy_mo_turn ww_mo_turn rm_mo_turn (zz_Pre (dC, dI) (wM a cI cZ) [(cI, .int), (cZ, .boolean)] [.ref (a 0), .int x1, .int x2, .int x3] g sz) (va_Qi post (zz_W (dC, dI) (wM a cI cZ) [(cI, .int), (cZ, .boolean)] (va_A (wM a cI cZ g) sz)) (va_A (wM a cI cZ g) sz)) 0 0 (va_A (wM a cI cZ g) sz) := by
  refine Met.ofW (cc := cc_mo_turn) (maxL := 4) (ret := (some .int)) (by decide) rfl ?_
  intro p e s m args below meth c s₁ B hml hv
  obtain ⟨hav, hsz, hP, hK, hD0, hN⟩ := hv
  have hx := B.exec
  have hb := B.bytes
  have hr := B.returns
  have hts := atoms_spec (ws := ww_mo_turn) B.pre
  have hown : s.vm.findClass "SpotContoursModel" = some m.cls := findClass_of_methodNamed B.named
  have hlocks := B.notSynchronized
  subst hsz
  have hD := hD0.self (sz := s.heap.size)
  generalize hAe : va_A (wM a cI cZ g) s.heap.size = A at hD ⊢
  have hA : ∀ q : Nat, s.heap.size ≤ q → A q := fun q h => by rw [← hAe]; exact Or.inr h
  have hS : va_S A s.heap s.heap [] := va_S.rf
  have he9 := lg_entry_eq m [.ref (a 0), .int x1, .int x2, .int x3] 4
  rw [← hav] at he9
  rw [he9]
  have hl := lv_entry [.ref (a 0), .int x1, .int x2, .int x3] (n := 4) (Nat.le_of_ble_eq_true rfl)
  generalize (lg_sl [.ref (a 0), .int x1, .int x2, .int x3] ++ List.replicate (4 - (lg_sl [.ref (a 0), .int x1, .int x2, .int x3]).length) Slot.unset).toArray = ls at hl ⊢
  have hl : lv_has ls 4 [(0, .ref (a 0)), (1, .int x1), (2, .int x2), (3, .int x3)] := hl
  have hin__mo : ∀ w ∈ u_ws R_mo T_mo 21, w ∈ ww_mo_turn := fun w h => zz_in (hin0_mo w h)
  have fl_7 := hts (.fieldLink "SpotContoursModel" 7 "SpotContoursModel" "xs" "[I") (zz_in wm_379)
  have fl_13 := hts (.fieldLink "SpotContoursModel" 13 "SpotContoursModel" "ys" "[I") (zz_in wm_380)
  unfold wp_mo_turn at h
  refine lv_aload_n hx hb d_mo_turn_0 rfl (lv_at hl 0 rfl) ?_
  refine va_get (D := (dC, dI)) (ci := 5) (v := .ref (a 1)) (C := R_mo) (T := T_mo) (N := 21) hx hb hts hin__mo hown hK hP 0 (wM_0 a cI cZ g) rfl 2 (by decide) fl_7 (fun _ h9 => h9) rfl d_mo_turn_1 ?_
  refine lv_iload_n hx hb d_mo_turn_4 rfl (lv_at hl 2 rfl) ?_
  refine va_iald hx hb hK hP 1 0 (wM_1 a cI cZ g) rfl h.1 d_mo_turn_5 ?_
  have h := h.2
  refine lv_aload_n hx hb d_mo_turn_6 rfl (lv_at hl 0 rfl) ?_
  refine va_get (D := (dC, dI)) (ci := 5) (v := .ref (a 1)) (C := R_mo) (T := T_mo) (N := 21) hx hb hts hin__mo hown hK hP 0 (wM_0 a cI cZ g) rfl 2 (by decide) fl_7 (fun _ h9 => h9) rfl d_mo_turn_7 ?_
  refine lv_iload_n hx hb d_mo_turn_10 rfl (lv_at hl 1 rfl) ?_
  refine va_iald hx hb hK hP 1 0 (wM_1 a cI cZ g) rfl h.1 d_mo_turn_11 ?_
  have h := h.2
  refine lv_isub hx hb d_mo_turn_12 ?_
  refine lv_aload_n hx hb d_mo_turn_13 rfl (lv_at hl 0 rfl) ?_
  refine va_get (D := (dC, dI)) (ci := 5) (v := .ref (a 2)) (C := R_mo) (T := T_mo) (N := 21) hx hb hts hin__mo hown hK hP 0 (wM_0 a cI cZ g) rfl 3 (by decide) fl_13 (fun _ h9 => h9) rfl d_mo_turn_14 ?_
  refine lv_iload_n hx hb d_mo_turn_17 rfl (lv_at hl 3 rfl) ?_
  refine va_iald hx hb hK hP 2 0 (wM_2 a cI cZ g) rfl h.1 d_mo_turn_18 ?_
  have h := h.2
  refine lv_aload_n hx hb d_mo_turn_19 rfl (lv_at hl 0 rfl) ?_
  refine va_get (D := (dC, dI)) (ci := 5) (v := .ref (a 2)) (C := R_mo) (T := T_mo) (N := 21) hx hb hts hin__mo hown hK hP 0 (wM_0 a cI cZ g) rfl 3 (by decide) fl_13 (fun _ h9 => h9) rfl d_mo_turn_20 ?_
  refine lv_iload_n hx hb d_mo_turn_23 rfl (lv_at hl 1 rfl) ?_
  refine va_iald hx hb hK hP 2 0 (wM_2 a cI cZ g) rfl h.1 d_mo_turn_24 ?_
  have h := h.2
  refine lv_isub hx hb d_mo_turn_25 ?_
  refine lv_imul hx hb d_mo_turn_26 ?_
  refine lv_aload_n hx hb d_mo_turn_27 rfl (lv_at hl 0 rfl) ?_
  refine va_get (D := (dC, dI)) (ci := 5) (v := .ref (a 2)) (C := R_mo) (T := T_mo) (N := 21) hx hb hts hin__mo hown hK hP 0 (wM_0 a cI cZ g) rfl 3 (by decide) fl_13 (fun _ h9 => h9) rfl d_mo_turn_28 ?_
  refine lv_iload_n hx hb d_mo_turn_31 rfl (lv_at hl 2 rfl) ?_
  refine va_iald hx hb hK hP 2 0 (wM_2 a cI cZ g) rfl h.1 d_mo_turn_32 ?_
  have h := h.2
  refine lv_aload_n hx hb d_mo_turn_33 rfl (lv_at hl 0 rfl) ?_
  refine va_get (D := (dC, dI)) (ci := 5) (v := .ref (a 2)) (C := R_mo) (T := T_mo) (N := 21) hx hb hts hin__mo hown hK hP 0 (wM_0 a cI cZ g) rfl 3 (by decide) fl_13 (fun _ h9 => h9) rfl d_mo_turn_34 ?_
  refine lv_iload_n hx hb d_mo_turn_37 rfl (lv_at hl 1 rfl) ?_
  refine va_iald hx hb hK hP 2 0 (wM_2 a cI cZ g) rfl h.1 d_mo_turn_38 ?_
  have h := h.2
  refine lv_isub hx hb d_mo_turn_39 ?_
  refine lv_aload_n hx hb d_mo_turn_40 rfl (lv_at hl 0 rfl) ?_
  refine va_get (D := (dC, dI)) (ci := 5) (v := .ref (a 1)) (C := R_mo) (T := T_mo) (N := 21) hx hb hts hin__mo hown hK hP 0 (wM_0 a cI cZ g) rfl 2 (by decide) fl_7 (fun _ h9 => h9) rfl d_mo_turn_41 ?_
  refine lv_iload_n hx hb d_mo_turn_44 rfl (lv_at hl 3 rfl) ?_
  refine va_iald hx hb hK hP 1 0 (wM_1 a cI cZ g) rfl h.1 d_mo_turn_45 ?_
  have h := h.2
  refine lv_aload_n hx hb d_mo_turn_46 rfl (lv_at hl 0 rfl) ?_
  refine va_get (D := (dC, dI)) (ci := 5) (v := .ref (a 1)) (C := R_mo) (T := T_mo) (N := 21) hx hb hts hin__mo hown hK hP 0 (wM_0 a cI cZ g) rfl 2 (by decide) fl_7 (fun _ h9 => h9) rfl d_mo_turn_47 ?_
  refine lv_iload_n hx hb d_mo_turn_50 rfl (lv_at hl 1 rfl) ?_
  refine va_iald hx hb hK hP 1 0 (wM_1 a cI cZ g) rfl h.1 d_mo_turn_51 ?_
  have h := h.2
  refine lv_isub hx hb d_mo_turn_52 ?_
  refine lv_imul hx hb d_mo_turn_53 ?_
  refine lv_isub hx hb d_mo_turn_54 ?_
  exact W.iret (v := ((((g 1 (ix x2)) - (g 1 (ix x1))) * ((g 2 (ix x3)) - (g 2 (ix x1)))) - (((g 2 (ix x2)) - (g 2 (ix x1))) * ((g 1 (ix x3)) - (g 1 (ix x1)))))) hx hb hr (fun t ht hW => ⟨⟨((((g 1 (ix x2)) - (g 1 (ix x1))) * ((g 2 (ix x3)) - (g 2 (ix x1)))) - (((g 2 (ix x2)) - (g 2 (ix x1))) * ((g 1 (ix x3)) - (g 1 (ix x1))))), g, rfl, h, by rw [ht]; exact hP, va_K.moved hW.alike hK, hD⟩, hS.F ht⟩) hS.2.2 d_mo_turn_55
abbrev rm_mo_square : Room := { frames := 0, cells := 0, slots := 0, locals := 0 }
set_option maxHeartbeats 4000000 in
set_option maxRecDepth 100000 in
theorem mc_mo_square (l : Launch) (dC : Nat → ClassId) (dI : Nat → Nat → Nat) (a : Nat → Nat) (cI cZ : ClassId) (sz : Nat) (x1 : Int32) (x2 : Int32) (g : St) (post : Int64 → St → Prop) (h : wp_mo_square x1 x2 g post) : Met l yy_mo_square ww_mo_square rm_mo_square (zz_Pre (dC, dI) (wM a cI cZ) [(cI, .int), (cZ, .boolean)] [.ref (a 0), .int x1, .int x2] g sz) (va_Ql post (zz_W (dC, dI) (wM a cI cZ) [(cI, .int), (cZ, .boolean)] (va_A (wM a cI cZ g) sz)) (va_A (wM a cI cZ g) sz)) 0 0 (va_A (wM a cI cZ g) sz) := by
  refine Met.ofW (cc := cc_mo_square) (maxL := 3) (ret := (some .long)) (by decide) rfl ?_
  intro p e s m args below meth c s₁ B hml hv
  obtain ⟨hav, hsz, hP, hK, hD0, hN⟩ := hv
  have hx := B.exec
  have hb := B.bytes
  have hr := B.returns
  have hts := atoms_spec (ws := ww_mo_square) B.pre
  have hown : s.vm.findClass "SpotContoursModel" = some m.cls := findClass_of_methodNamed B.named
  have hlocks := B.notSynchronized
  subst hsz
  have hD := hD0.self (sz := s.heap.size)
  generalize hAe : va_A (wM a cI cZ g) s.heap.size = A at hD ⊢
  have hA : ∀ q : Nat, s.heap.size ≤ q → A q := fun q h => by rw [← hAe]; exact Or.inr h
  have hS : va_S A s.heap s.heap [] := va_S.rf
  have he9 := lg_entry_eq m [.ref (a 0), .int x1, .int x2] 3
  rw [← hav] at he9
  rw [he9]
  have hl := lv_entry [.ref (a 0), .int x1, .int x2] (n := 3) (Nat.le_of_ble_eq_true rfl)
  generalize (lg_sl [.ref (a 0), .int x1, .int x2] ++ List.replicate (3 - (lg_sl [.ref (a 0), .int x1, .int x2]).length) Slot.unset).toArray = ls at hl ⊢
  have hl : lv_has ls 3 [(0, .ref (a 0)), (1, .int x1), (2, .int x2)] := hl
  have hin__mo : ∀ w ∈ u_ws R_mo T_mo 21, w ∈ ww_mo_square := fun w h => zz_in (hin0_mo w h)
  have fl_7 := hts (.fieldLink "SpotContoursModel" 7 "SpotContoursModel" "xs" "[I") (zz_in wm_379)
  have fl_13 := hts (.fieldLink "SpotContoursModel" 13 "SpotContoursModel" "ys" "[I") (zz_in wm_380)
  unfold wp_mo_square at h
  refine lv_aload_n hx hb d_mo_square_0 rfl (lv_at hl 0 rfl) ?_
  refine va_get (D := (dC, dI)) (ci := 5) (v := .ref (a 1)) (C := R_mo) (T := T_mo) (N := 21) hx hb hts hin__mo hown hK hP 0 (wM_0 a cI cZ g) rfl 2 (by decide) fl_7 (fun _ h9 => h9) rfl d_mo_square_1 ?_
  refine lv_iload_n hx hb d_mo_square_4 rfl (lv_at hl 1 rfl) ?_
  refine va_iald hx hb hK hP 1 0 (wM_1 a cI cZ g) rfl h.1 d_mo_square_5 ?_
  have h := h.2
  refine lv_aload_n hx hb d_mo_square_6 rfl (lv_at hl 0 rfl) ?_
  refine va_get (D := (dC, dI)) (ci := 5) (v := .ref (a 1)) (C := R_mo) (T := T_mo) (N := 21) hx hb hts hin__mo hown hK hP 0 (wM_0 a cI cZ g) rfl 2 (by decide) fl_7 (fun _ h9 => h9) rfl d_mo_square_7 ?_
  refine lv_iload_n hx hb d_mo_square_10 rfl (lv_at hl 2 rfl) ?_
  refine va_iald hx hb hK hP 1 0 (wM_1 a cI cZ g) rfl h.1 d_mo_square_11 ?_
  have h := h.2
  refine lv_isub hx hb d_mo_square_12 ?_
  refine lv_i2l (v := ((g 1 (ix x1)) - (g 1 (ix x2))).toInt64) hx hb d_mo_square_13 rfl ?_
  refine lv_aload_n hx hb d_mo_square_14 rfl (lv_at hl 0 rfl) ?_
  refine va_get (D := (dC, dI)) (ci := 5) (v := .ref (a 1)) (C := R_mo) (T := T_mo) (N := 21) hx hb hts hin__mo hown hK hP 0 (wM_0 a cI cZ g) rfl 2 (by decide) fl_7 (fun _ h9 => h9) rfl d_mo_square_15 ?_
  refine lv_iload_n hx hb d_mo_square_18 rfl (lv_at hl 1 rfl) ?_
  refine va_iald hx hb hK hP 1 0 (wM_1 a cI cZ g) rfl h.1 d_mo_square_19 ?_
  have h := h.2
  refine lv_aload_n hx hb d_mo_square_20 rfl (lv_at hl 0 rfl) ?_
  refine va_get (D := (dC, dI)) (ci := 5) (v := .ref (a 1)) (C := R_mo) (T := T_mo) (N := 21) hx hb hts hin__mo hown hK hP 0 (wM_0 a cI cZ g) rfl 2 (by decide) fl_7 (fun _ h9 => h9) rfl d_mo_square_21 ?_
  refine lv_iload_n hx hb d_mo_square_24 rfl (lv_at hl 2 rfl) ?_
  refine va_iald hx hb hK hP 1 0 (wM_1 a cI cZ g) rfl h.1 d_mo_square_25 ?_
  have h := h.2
  refine lv_isub hx hb d_mo_square_26 ?_
  refine lv_i2l (v := ((g 1 (ix x1)) - (g 1 (ix x2))).toInt64) hx hb d_mo_square_27 rfl ?_
  refine lv_lmul hx hb d_mo_square_28 ?_
  refine lv_aload_n hx hb d_mo_square_29 rfl (lv_at hl 0 rfl) ?_
  refine va_get (D := (dC, dI)) (ci := 5) (v := .ref (a 2)) (C := R_mo) (T := T_mo) (N := 21) hx hb hts hin__mo hown hK hP 0 (wM_0 a cI cZ g) rfl 3 (by decide) fl_13 (fun _ h9 => h9) rfl d_mo_square_30 ?_
  refine lv_iload_n hx hb d_mo_square_33 rfl (lv_at hl 1 rfl) ?_
  refine va_iald hx hb hK hP 2 0 (wM_2 a cI cZ g) rfl h.1 d_mo_square_34 ?_
  have h := h.2
  refine lv_aload_n hx hb d_mo_square_35 rfl (lv_at hl 0 rfl) ?_
  refine va_get (D := (dC, dI)) (ci := 5) (v := .ref (a 2)) (C := R_mo) (T := T_mo) (N := 21) hx hb hts hin__mo hown hK hP 0 (wM_0 a cI cZ g) rfl 3 (by decide) fl_13 (fun _ h9 => h9) rfl d_mo_square_36 ?_
  refine lv_iload_n hx hb d_mo_square_39 rfl (lv_at hl 2 rfl) ?_
  refine va_iald hx hb hK hP 2 0 (wM_2 a cI cZ g) rfl h.1 d_mo_square_40 ?_
  have h := h.2
  refine lv_isub hx hb d_mo_square_41 ?_
  refine lv_i2l (v := ((g 2 (ix x1)) - (g 2 (ix x2))).toInt64) hx hb d_mo_square_42 rfl ?_
  refine lv_aload_n hx hb d_mo_square_43 rfl (lv_at hl 0 rfl) ?_
  refine va_get (D := (dC, dI)) (ci := 5) (v := .ref (a 2)) (C := R_mo) (T := T_mo) (N := 21) hx hb hts hin__mo hown hK hP 0 (wM_0 a cI cZ g) rfl 3 (by decide) fl_13 (fun _ h9 => h9) rfl d_mo_square_44 ?_
  refine lv_iload_n hx hb d_mo_square_47 rfl (lv_at hl 1 rfl) ?_
  refine va_iald hx hb hK hP 2 0 (wM_2 a cI cZ g) rfl h.1 d_mo_square_48 ?_
  have h := h.2
  refine lv_aload_n hx hb d_mo_square_49 rfl (lv_at hl 0 rfl) ?_
  refine va_get (D := (dC, dI)) (ci := 5) (v := .ref (a 2)) (C := R_mo) (T := T_mo) (N := 21) hx hb hts hin__mo hown hK hP 0 (wM_0 a cI cZ g) rfl 3 (by decide) fl_13 (fun _ h9 => h9) rfl d_mo_square_50 ?_
  refine lv_iload_n hx hb d_mo_square_53 rfl (lv_at hl 2 rfl) ?_
  refine va_iald hx hb hK hP 2 0 (wM_2 a cI cZ g) rfl h.1 d_mo_square_54 ?_
  have h := h.2
  refine lv_isub hx hb d_mo_square_55 ?_
  refine lv_i2l (v := ((g 2 (ix x1)) - (g 2 (ix x2))).toInt64) hx hb d_mo_square_56 rfl ?_
  refine lv_lmul hx hb d_mo_square_57 ?_
  refine lv_ladd hx hb d_mo_square_58 ?_
  exact W.lret (v := ((((g 1 (ix x1)) - (g 1 (ix x2))).toInt64 * ((g 1 (ix x1)) - (g 1 (ix x2))).toInt64) + (((g 2 (ix x1)) - (g 2 (ix x2))).toInt64 * ((g 2 (ix x1)) - (g 2 (ix x2))).toInt64))) hx hb hr (fun t ht hW => ⟨⟨((((g 1 (ix x1)) - (g 1 (ix x2))).toInt64 * ((g 1 (ix x1)) - (g 1 (ix x2))).toInt64) + (((g 2 (ix x1)) - (g 2 (ix x2))).toInt64 * ((g 2 (ix x1)) - (g 2 (ix x2))).toInt64)), g, rfl, h, by rw [ht]; exact hP, va_K.moved hW.alike hK, hD⟩, hS.F ht⟩) hS.2.2 d_mo_square_59
abbrev rm_mo_inside : Room := { frames := 1, cells := 0, slots := 0, locals := 23 }
set_option maxHeartbeats 4000000 in
set_option maxRecDepth 100000 in
theorem mc_mo_inside (l : Launch) (dC : Nat → ClassId) (dI : Nat → Nat → Nat) (a : Nat → Nat) (cI cZ : ClassId) (sz : Nat) (x1 : Int32) (x2 : Int32) (x3 : Int32) (x4 : Int32) (g : St) (post : Int64 → St → Prop) (h : wp_mo_inside x1 x2 x3 x4 g post) : Met l yy_mo_inside ww_mo_inside rm_mo_inside (zz_Pre (dC, dI) (wM a cI cZ) [(cI, .int), (cZ, .boolean)] [.ref (a 0), .int x1, .int x2, .int x3, .int x4] g sz) (va_Ql post (zz_W (dC, dI) (wM a cI cZ) [(cI, .int), (cZ, .boolean)] (va_A (wM a cI cZ g) sz)) (va_A (wM a cI cZ g) sz)) 0 0 (va_A (wM a cI cZ g) sz) := by
  refine Met.ofW (cc := cc_mo_inside) (maxL := 7) (ret := (some .long)) (by decide) rfl ?_
  intro p e s m args below meth c s₁ B hml hv
  obtain ⟨hav, hsz, hP, hK, hD0, hN⟩ := hv
  have hx := B.exec
  have hb := B.bytes
  have hr := B.returns
  have hts := atoms_spec (ws := ww_mo_inside) B.pre
  have hown : s.vm.findClass "SpotContoursModel" = some m.cls := findClass_of_methodNamed B.named
  have hlocks := B.notSynchronized
  subst hsz
  have hD := hD0.self (sz := s.heap.size)
  generalize hAe : va_A (wM a cI cZ g) s.heap.size = A at hD ⊢
  have hA : ∀ q : Nat, s.heap.size ≤ q → A q := fun q h => by rw [← hAe]; exact Or.inr h
  have hS : va_S A s.heap s.heap [] := va_S.rf
  have he9 := lg_entry_eq m [.ref (a 0), .int x1, .int x2, .int x3, .int x4] 7
  rw [← hav] at he9
  rw [he9]
  have hl := lv_entry [.ref (a 0), .int x1, .int x2, .int x3, .int x4] (n := 7) (Nat.le_of_ble_eq_true rfl)
  generalize (lg_sl [.ref (a 0), .int x1, .int x2, .int x3, .int x4] ++ List.replicate (7 - (lg_sl [.ref (a 0), .int x1, .int x2, .int x3, .int x4]).length) Slot.unset).toArray = ls at hl ⊢
  have hl : lv_has ls 7 [(0, .ref (a 0)), (1, .int x1), (2, .int x2), (3, .int x3), (4, .int x4)] := hl
  unfold wp_mo_inside at h
  refine lv_aload_n hx hb d_mo_inside_0 rfl (lv_at hl 0 rfl) ?_
  refine lv_iload_n hx hb d_mo_inside_1 rfl (lv_at hl 1 rfl) ?_
  refine lv_iload hx hb d_mo_inside_2 (lv_at hl 4 rfl) ?_
  refine zz_cl (va_runV (As := [.int x1, .int x4]) (rest := []) ⟨hx, hb, hml, hown, hts⟩ (mc_mo_square l dC dI a cI cZ _ x1 x4 g _ h) (zz_cwV 2 hts (zz_good wm_262) rfl rfl rfl wm_263 wm_264 wm_265 wm_258 (by decide +kernel) ⟨Nat.le_of_ble_eq_true rfl, Nat.le_of_ble_eq_true rfl⟩) ⟨zz_blind, (va_recv hK hP rfl (wM_0 a cI cZ g)), zz_pre hP hK hD hN⟩ rfl rfl hl.1 rfl (lv_room (Nat.le_of_ble_eq_true rfl)) d_mo_inside_4 ⟨Nat.le_of_ble_eq_true rfl, Nat.le_of_ble_eq_true rfl⟩) hD hS hA (fun r2 g1 H locs h hP hD hS => ?_)
  refine lv_aload_n hx hb d_mo_inside_7 rfl (lv_at hl 0 rfl) ?_
  refine lv_iload hx hb d_mo_inside_8 (lv_at hl 4 rfl) ?_
  refine lv_iload_n hx hb d_mo_inside_10 rfl (lv_at hl 2 rfl) ?_
  refine lv_iload_n hx hb d_mo_inside_11 rfl (lv_at hl 3 rfl) ?_
  refine zz_ci (va_runV (As := [.int x4, .int x2, .int x3]) (rest := [.long r2]) ⟨hx, hb, hml, hown, hts⟩ (mc_mo_turn l dC dI a cI cZ _ x4 x2 x3 g1 _ h) (zz_cwV 3 hts (zz_good wm_257) rfl rfl rfl wm_259 wm_260 wm_261 wm_258 (by decide +kernel) ⟨Nat.le_of_ble_eq_true rfl, Nat.le_of_ble_eq_true rfl⟩) ⟨zz_blind, (va_recv hK hP rfl (wM_0 a cI cZ g1)), zz_pre hP hK hD hN⟩ rfl rfl hl.1 rfl (lv_room (Nat.le_of_ble_eq_true rfl)) d_mo_inside_12 ⟨Nat.le_of_ble_eq_true rfl, Nat.le_of_ble_eq_true rfl⟩) hD hS hA (fun r4 g3 H locs h hP hD hS => ?_)
  refine lv_i2l (v := r4.toInt64) hx hb d_mo_inside_15 rfl ?_
  refine lv_lmul hx hb d_mo_inside_16 ?_
  refine lv_aload_n hx hb d_mo_inside_17 rfl (lv_at hl 0 rfl) ?_
  refine lv_iload_n hx hb d_mo_inside_18 rfl (lv_at hl 2 rfl) ?_
  refine lv_iload hx hb d_mo_inside_19 (lv_at hl 4 rfl) ?_
  refine zz_cl (va_runV (As := [.int x2, .int x4]) (rest := [.long (r2 * r4.toInt64)]) ⟨hx, hb, hml, hown, hts⟩ (mc_mo_square l dC dI a cI cZ _ x2 x4 g3 _ h) (zz_cwV 2 hts (zz_good wm_262) rfl rfl rfl wm_263 wm_264 wm_265 wm_258 (by decide +kernel) ⟨Nat.le_of_ble_eq_true rfl, Nat.le_of_ble_eq_true rfl⟩) ⟨zz_blind, (va_recv hK hP rfl (wM_0 a cI cZ g3)), zz_pre hP hK hD hN⟩ rfl rfl hl.1 rfl (lv_room (Nat.le_of_ble_eq_true rfl)) d_mo_inside_21 ⟨Nat.le_of_ble_eq_true rfl, Nat.le_of_ble_eq_true rfl⟩) hD hS hA (fun r6 g5 H locs h hP hD hS => ?_)
  refine lv_aload_n hx hb d_mo_inside_24 rfl (lv_at hl 0 rfl) ?_
  refine lv_iload hx hb d_mo_inside_25 (lv_at hl 4 rfl) ?_
  refine lv_iload_n hx hb d_mo_inside_27 rfl (lv_at hl 3 rfl) ?_
  refine lv_iload_n hx hb d_mo_inside_28 rfl (lv_at hl 1 rfl) ?_
  refine zz_ci (va_runV (As := [.int x4, .int x3, .int x1]) (rest := [.long r6, .long (r2 * r4.toInt64)]) ⟨hx, hb, hml, hown, hts⟩ (mc_mo_turn l dC dI a cI cZ _ x4 x3 x1 g5 _ h) (zz_cwV 3 hts (zz_good wm_257) rfl rfl rfl wm_259 wm_260 wm_261 wm_258 (by decide +kernel) ⟨Nat.le_of_ble_eq_true rfl, Nat.le_of_ble_eq_true rfl⟩) ⟨zz_blind, (va_recv hK hP rfl (wM_0 a cI cZ g5)), zz_pre hP hK hD hN⟩ rfl rfl hl.1 rfl (lv_room (Nat.le_of_ble_eq_true rfl)) d_mo_inside_29 ⟨Nat.le_of_ble_eq_true rfl, Nat.le_of_ble_eq_true rfl⟩) hD hS hA (fun r8 g7 H locs h hP hD hS => ?_)
  refine lv_i2l (v := r8.toInt64) hx hb d_mo_inside_32 rfl ?_
  refine lv_lmul hx hb d_mo_inside_33 ?_
  refine lv_ladd hx hb d_mo_inside_34 ?_
  refine lv_aload_n hx hb d_mo_inside_35 rfl (lv_at hl 0 rfl) ?_
  refine lv_iload_n hx hb d_mo_inside_36 rfl (lv_at hl 3 rfl) ?_
  refine lv_iload hx hb d_mo_inside_37 (lv_at hl 4 rfl) ?_
  refine zz_cl (va_runV (As := [.int x3, .int x4]) (rest := [.long ((r2 * r4.toInt64) + (r6 * r8.toInt64))]) ⟨hx, hb, hml, hown, hts⟩ (mc_mo_square l dC dI a cI cZ _ x3 x4 g7 _ h) (zz_cwV 2 hts (zz_good wm_262) rfl rfl rfl wm_263 wm_264 wm_265 wm_258 (by decide +kernel) ⟨Nat.le_of_ble_eq_true rfl, Nat.le_of_ble_eq_true rfl⟩) ⟨zz_blind, (va_recv hK hP rfl (wM_0 a cI cZ g7)), zz_pre hP hK hD hN⟩ rfl rfl hl.1 rfl (lv_room (Nat.le_of_ble_eq_true rfl)) d_mo_inside_39 ⟨Nat.le_of_ble_eq_true rfl, Nat.le_of_ble_eq_true rfl⟩) hD hS hA (fun r10 g9 H locs h hP hD hS => ?_)
  refine lv_aload_n hx hb d_mo_inside_42 rfl (lv_at hl 0 rfl) ?_
  refine lv_iload hx hb d_mo_inside_43 (lv_at hl 4 rfl) ?_
  refine lv_iload_n hx hb d_mo_inside_45 rfl (lv_at hl 1 rfl) ?_
  refine lv_iload_n hx hb d_mo_inside_46 rfl (lv_at hl 2 rfl) ?_
  refine zz_ci (va_runV (As := [.int x4, .int x1, .int x2]) (rest := [.long r10, .long ((r2 * r4.toInt64) + (r6 * r8.toInt64))]) ⟨hx, hb, hml, hown, hts⟩ (mc_mo_turn l dC dI a cI cZ _ x4 x1 x2 g9 _ h) (zz_cwV 3 hts (zz_good wm_257) rfl rfl rfl wm_259 wm_260 wm_261 wm_258 (by decide +kernel) ⟨Nat.le_of_ble_eq_true rfl, Nat.le_of_ble_eq_true rfl⟩) ⟨zz_blind, (va_recv hK hP rfl (wM_0 a cI cZ g9)), zz_pre hP hK hD hN⟩ rfl rfl hl.1 rfl (lv_room (Nat.le_of_ble_eq_true rfl)) d_mo_inside_47 ⟨Nat.le_of_ble_eq_true rfl, Nat.le_of_ble_eq_true rfl⟩) hD hS hA (fun r12 g11 H locs h hP hD hS => ?_)
  refine lv_i2l (v := r12.toInt64) hx hb d_mo_inside_50 rfl ?_
  refine lv_lmul hx hb d_mo_inside_51 ?_
  refine lv_ladd hx hb d_mo_inside_52 ?_
  refine lv_lstore (lv' := [(5, .long (((r2 * r4.toInt64) + (r6 * r8.toInt64)) + (r10 * r12.toInt64))), (0, .ref (a 0)), (1, .int x1), (2, .int x2), (3, .int x3), (4, .int x4)]) hx hb d_mo_inside_53 hl (by decide) rfl (fun ls hl => ?_)
  refine lv_aload_n hx hb d_mo_inside_55 rfl (lv_at hl 1 rfl) ?_
  refine lv_iload_n hx hb d_mo_inside_56 rfl (lv_at hl 2 rfl) ?_
  refine lv_iload_n hx hb d_mo_inside_57 rfl (lv_at hl 3 rfl) ?_
  refine lv_iload_n hx hb d_mo_inside_58 rfl (lv_at hl 4 rfl) ?_
  refine zz_ci (va_runV (As := [.int x1, .int x2, .int x3]) (rest := []) ⟨hx, hb, hml, hown, hts⟩ (mc_mo_turn l dC dI a cI cZ _ x1 x2 x3 g11 _ h) (zz_cwV 3 hts (zz_good wm_257) rfl rfl rfl wm_259 wm_260 wm_261 wm_258 (by decide +kernel) ⟨Nat.le_of_ble_eq_true rfl, Nat.le_of_ble_eq_true rfl⟩) ⟨zz_blind, (va_recv hK hP rfl (wM_0 a cI cZ g11)), zz_pre hP hK hD hN⟩ rfl rfl hl.1 rfl (lv_room (Nat.le_of_ble_eq_true rfl)) d_mo_inside_59 ⟨Nat.le_of_ble_eq_true rfl, Nat.le_of_ble_eq_true rfl⟩) hD hS hA (fun r14 g13 H locs h hP hD hS => ?_)
  refine lv_if_le (tgt := 70) hx hb d_mo_inside_62 (by decide) (fun hc => ?_) (fun hc => ?_)
  · have h := h.1 hc
    refine lv_lload hx hb d_mo_inside_70 (lv_at hl 0 rfl) ?_
    refine lv_lneg hx hb d_mo_inside_72 ?_
    exact W.lret (v := (-(((r2 * r4.toInt64) + (r6 * r8.toInt64)) + (r10 * r12.toInt64)))) hx hb hr (fun t ht hW => ⟨⟨(-(((r2 * r4.toInt64) + (r6 * r8.toInt64)) + (r10 * r12.toInt64))), g13, rfl, h, by rw [ht]; exact hP, va_K.moved hW.alike hK, hD⟩, hS.F ht⟩) hS.2.2 d_mo_inside_73
  · have h := h.2 hc
    refine lv_lload hx hb d_mo_inside_65 (lv_at hl 0 rfl) ?_
    refine lv_goto (tgt := 73) hx hb d_mo_inside_67 (by decide) ?_
    exact W.lret (v := (((r2 * r4.toInt64) + (r6 * r8.toInt64)) + (r10 * r12.toInt64))) hx hb hr (fun t ht hW => ⟨⟨(((r2 * r4.toInt64) + (r6 * r8.toInt64)) + (r10 * r12.toInt64)), g13, rfl, h, by rw [ht]; exact hP, va_K.moved hW.alike hK, hD⟩, hS.F ht⟩) hS.2.2 d_mo_inside_73
abbrev rm_mo_parts : Room := { frames := 1, cells := 0, slots := 0, locals := 23 }
set_option maxHeartbeats 4000000 in
set_option maxRecDepth 100000 in
theorem mc_mo_parts (l : Launch) (dC : Nat → ClassId) (dI : Nat → Nat → Nat) (a : Nat → Nat) (cI cZ : ClassId) (sz : Nat) (x1 : Int32) (x2 : Int32) (x3 : Int32) (x4 : Int32) (g : St) (post : Int32 → St → Prop) (h : wp_mo_parts x1 x2 x3 x4 g post) : Met l yy_mo_parts ww_mo_parts rm_mo_parts (zz_Pre (dC, dI) (wM a cI cZ) [(cI, .int), (cZ, .boolean)] [.ref (a 0), .int x1, .int x2, .int x3, .int x4] g sz) (va_Qi post (zz_W (dC, dI) (wM a cI cZ) [(cI, .int), (cZ, .boolean)] (va_A (wM a cI cZ g) sz)) (va_A (wM a cI cZ g) sz)) 0 0 (va_A (wM a cI cZ g) sz) := by
  refine Met.ofW (cc := cc_mo_parts) (maxL := 5) (ret := (some .boolean)) (by decide) rfl ?_
  intro p e s m args below meth c s₁ B hml hv
  obtain ⟨hav, hsz, hP, hK, hD0, hN⟩ := hv
  have hx := B.exec
  have hb := B.bytes
  have hr := B.returns
  have hts := atoms_spec (ws := ww_mo_parts) B.pre
  have hown : s.vm.findClass "SpotContoursModel" = some m.cls := findClass_of_methodNamed B.named
  have hlocks := B.notSynchronized
  subst hsz
  have hD := hD0.self (sz := s.heap.size)
  generalize hAe : va_A (wM a cI cZ g) s.heap.size = A at hD ⊢
  have hA : ∀ q : Nat, s.heap.size ≤ q → A q := fun q h => by rw [← hAe]; exact Or.inr h
  have hS : va_S A s.heap s.heap [] := va_S.rf
  have he9 := lg_entry_eq m [.ref (a 0), .int x1, .int x2, .int x3, .int x4] 5
  rw [← hav] at he9
  rw [he9]
  have hl := lv_entry [.ref (a 0), .int x1, .int x2, .int x3, .int x4] (n := 5) (Nat.le_of_ble_eq_true rfl)
  generalize (lg_sl [.ref (a 0), .int x1, .int x2, .int x3, .int x4] ++ List.replicate (5 - (lg_sl [.ref (a 0), .int x1, .int x2, .int x3, .int x4]).length) Slot.unset).toArray = ls at hl ⊢
  have hl : lv_has ls 5 [(0, .ref (a 0)), (1, .int x1), (2, .int x2), (3, .int x3), (4, .int x4)] := hl
  have J15 : ∀ (v1 : Int32) (v2 : Int32) (v4 : Int32) (s0 : Int32) (g : St), jn_mo_parts_J15 v1 v2 v4 s0 g post → ∀ (H : Heap) (locs : List Loc) (ls : Array Slot), va_P (dC, dI) zzCl (wM a cI cZ g) H → va_D A (wM a cI cZ g) → va_S A s.heap H locs → lv_has ls 5 [(0, .ref (a 0)), (1, .int v1), (2, .int v2), (4, .int v4)] → W p l e (headSpec ww_mo_parts rm_mo_parts).room s m args below meth c H locs 0 0 (zz_Qi below (dC, dI) (wM a cI cZ) [(cI, .int), (cZ, .boolean)] A post args s) (F0 m 15 ls [.int s0]) := by
    intro v1 v2 v4 s0 g h H locs ls hP hD hS hl
    unfold jn_mo_parts_J15 at h
    refine lv_aload_n hx hb d_mo_parts_15 rfl (lv_at hl 0 rfl) ?_
    refine lv_iload_n hx hb d_mo_parts_16 rfl (lv_at hl 1 rfl) ?_
    refine lv_iload_n hx hb d_mo_parts_17 rfl (lv_at hl 2 rfl) ?_
    refine lv_iload hx hb d_mo_parts_18 (lv_at hl 3 rfl) ?_
    refine zz_ci (va_runV (As := [.int v1, .int v2, .int v4]) (rest := [.int s0]) ⟨hx, hb, hml, hown, hts⟩ (mc_mo_turn l dC dI a cI cZ _ v1 v2 v4 g _ h) (zz_cwV 3 hts (zz_good wm_257) rfl rfl rfl wm_259 wm_260 wm_261 wm_258 (by decide +kernel) ⟨Nat.le_of_ble_eq_true rfl, Nat.le_of_ble_eq_true rfl⟩) ⟨zz_blind, (va_recv hK hP rfl (wM_0 a cI cZ g)), zz_pre hP hK hD hN⟩ rfl rfl hl.1 rfl (lv_room (Nat.le_of_ble_eq_true rfl)) d_mo_parts_20 ⟨Nat.le_of_ble_eq_true rfl, Nat.le_of_ble_eq_true rfl⟩) hD hS hA (fun r4 g3 H locs h hP hD hS => ?_)
    refine lv_if_le (tgt := 30) hx hb d_mo_parts_23 (by decide) (fun hc => ?_) (fun hc => ?_)
    · have h := h.1 hc
      refine lv_iconst (v := 0) hx hb d_mo_parts_30 (by decide) ?_
      refine lv_icmp_eq (tgt := 38) hx hb d_mo_parts_31 (by decide) (fun hc => ?_) (fun hc => ?_)
      · have h := h.1 hc
        refine lv_iconst (v := 0) hx hb d_mo_parts_38 (by decide) ?_
        exact W.zret (v := 0) hx hb hr (by decide) (fun t ht hW => ⟨⟨0, g3, rfl, h, by rw [ht]; exact hP, va_K.moved hW.alike hK, hD⟩, hS.F ht⟩) hS.2.2 d_mo_parts_39
      · have h := h.2 hc
        refine lv_iconst (v := 1) hx hb d_mo_parts_34 (by decide) ?_
        refine lv_goto (tgt := 39) hx hb d_mo_parts_35 (by decide) ?_
        exact W.zret (v := 1) hx hb hr (by decide) (fun t ht hW => ⟨⟨1, g3, rfl, h, by rw [ht]; exact hP, va_K.moved hW.alike hK, hD⟩, hS.F ht⟩) hS.2.2 d_mo_parts_39
    · have h := h.2 hc
      refine lv_iconst (v := 1) hx hb d_mo_parts_26 (by decide) ?_
      refine lv_goto (tgt := 31) hx hb d_mo_parts_27 (by decide) ?_
      refine lv_icmp_eq (tgt := 38) hx hb d_mo_parts_31 (by decide) (fun hc => ?_) (fun hc => ?_)
      · have h := h.1 hc
        refine lv_iconst (v := 0) hx hb d_mo_parts_38 (by decide) ?_
        exact W.zret (v := 0) hx hb hr (by decide) (fun t ht hW => ⟨⟨0, g3, rfl, h, by rw [ht]; exact hP, va_K.moved hW.alike hK, hD⟩, hS.F ht⟩) hS.2.2 d_mo_parts_39
      · have h := h.2 hc
        refine lv_iconst (v := 1) hx hb d_mo_parts_34 (by decide) ?_
        refine lv_goto (tgt := 39) hx hb d_mo_parts_35 (by decide) ?_
        exact W.zret (v := 1) hx hb hr (by decide) (fun t ht hW => ⟨⟨1, g3, rfl, h, by rw [ht]; exact hP, va_K.moved hW.alike hK, hD⟩, hS.F ht⟩) hS.2.2 d_mo_parts_39
  unfold wp_mo_parts at h
  refine lv_aload_n hx hb d_mo_parts_0 rfl (lv_at hl 0 rfl) ?_
  refine lv_iload_n hx hb d_mo_parts_1 rfl (lv_at hl 1 rfl) ?_
  refine lv_iload_n hx hb d_mo_parts_2 rfl (lv_at hl 2 rfl) ?_
  refine lv_iload_n hx hb d_mo_parts_3 rfl (lv_at hl 3 rfl) ?_
  refine zz_ci (va_runV (As := [.int x1, .int x2, .int x3]) (rest := []) ⟨hx, hb, hml, hown, hts⟩ (mc_mo_turn l dC dI a cI cZ _ x1 x2 x3 g _ h) (zz_cwV 3 hts (zz_good wm_257) rfl rfl rfl wm_259 wm_260 wm_261 wm_258 (by decide +kernel) ⟨Nat.le_of_ble_eq_true rfl, Nat.le_of_ble_eq_true rfl⟩) ⟨zz_blind, (va_recv hK hP rfl (wM_0 a cI cZ g)), zz_pre hP hK hD hN⟩ rfl rfl hl.1 rfl (lv_room (Nat.le_of_ble_eq_true rfl)) d_mo_parts_4 ⟨Nat.le_of_ble_eq_true rfl, Nat.le_of_ble_eq_true rfl⟩) hD hS hA (fun r2 g1 H locs h hP hD hS => ?_)
  refine lv_if_le (tgt := 14) hx hb d_mo_parts_7 (by decide) (fun hc => ?_) (fun hc => ?_)
  · have h := h.1 hc
    refine lv_iconst (v := 0) hx hb d_mo_parts_14 (by decide) ?_
    exact J15 _ _ _ _ _ h _ _ _ hP hD hS (lv_sub hl [0, 1, 2, 4] rfl)
  · have h := h.2 hc
    refine lv_iconst (v := 1) hx hb d_mo_parts_10 (by decide) ?_
    refine lv_goto (tgt := 15) hx hb d_mo_parts_11 (by decide) ?_
    exact J15 _ _ _ _ _ h _ _ _ hP hD hS (lv_sub hl [0, 1, 2, 4] rfl)
abbrev rm_mo_isIn : Room := { frames := 2, cells := 0, slots := 0, locals := 49 }
set_option maxHeartbeats 4000000 in
set_option maxRecDepth 100000 in
theorem mc_mo_isIn (l : Launch) (dC : Nat → ClassId) (dI : Nat → Nat → Nat) (a : Nat → Nat) (cI cZ : ClassId) (sz : Nat) (x1 : Int32) (x2 : Int32) (x3 : Int32) (x4 : Int32) (g : St) (post : Int32 → St → Prop) (h : wp_mo_isIn x1 x2 x3 x4 g post) : Met l yy_mo_isIn ww_mo_isIn rm_mo_isIn (zz_Pre (dC, dI) (wM a cI cZ) [(cI, .int), (cZ, .boolean)] [.ref (a 0), .int x1, .int x2, .int x3, .int x4] g sz) (va_Qi post (zz_W (dC, dI) (wM a cI cZ) [(cI, .int), (cZ, .boolean)] (va_A (wM a cI cZ g) sz)) (va_A (wM a cI cZ g) sz)) 0 0 (va_A (wM a cI cZ g) sz) := by
  refine Met.ofW (cc := cc_mo_isIn) (maxL := 9) (ret := (some .boolean)) (by decide) rfl ?_
  intro p e s m args below meth c s₁ B hml hv
  obtain ⟨hav, hsz, hP, hK, hD0, hN⟩ := hv
  have hx := B.exec
  have hb := B.bytes
  have hr := B.returns
  have hts := atoms_spec (ws := ww_mo_isIn) B.pre
  have hown : s.vm.findClass "SpotContoursModel" = some m.cls := findClass_of_methodNamed B.named
  have hlocks := B.notSynchronized
  subst hsz
  have hD := hD0.self (sz := s.heap.size)
  generalize hAe : va_A (wM a cI cZ g) s.heap.size = A at hD ⊢
  have hA : ∀ q : Nat, s.heap.size ≤ q → A q := fun q h => by rw [← hAe]; exact Or.inr h
  have hS : va_S A s.heap s.heap [] := va_S.rf
  have he9 := lg_entry_eq m [.ref (a 0), .int x1, .int x2, .int x3, .int x4] 9
  rw [← hav] at he9
  rw [he9]
  have hl := lv_entry [.ref (a 0), .int x1, .int x2, .int x3, .int x4] (n := 9) (Nat.le_of_ble_eq_true rfl)
  generalize (lg_sl [.ref (a 0), .int x1, .int x2, .int x3, .int x4] ++ List.replicate (9 - (lg_sl [.ref (a 0), .int x1, .int x2, .int x3, .int x4]).length) Slot.unset).toArray = ls at hl ⊢
  have hl : lv_has ls 9 [(0, .ref (a 0)), (1, .int x1), (2, .int x2), (3, .int x3), (4, .int x4)] := hl
  have J106 : ∀ (v4 : Int32) (v7 : Int32) (s0 : Int32) (g : St), jn_mo_isIn_J106 v4 v7 s0 g post → ∀ (H : Heap) (locs : List Loc) (ls : Array Slot), va_P (dC, dI) zzCl (wM a cI cZ g) H → va_D A (wM a cI cZ g) → va_S A s.heap H locs → lv_has ls 9 [(4, .int v4), (7, .int v7)] → W p l e (headSpec ww_mo_isIn rm_mo_isIn).room s m args below meth c H locs 0 0 (zz_Qi below (dC, dI) (wM a cI cZ) [(cI, .int), (cZ, .boolean)] A post args s) (F0 m 106 ls [.int s0]) := by
    intro v4 v7 s0 g h H locs ls hP hD hS hl
    unfold jn_mo_isIn_J106 at h
    refine lv_istore (lv' := [(8, .int s0), (4, .int v4), (7, .int v7)]) hx hb d_mo_isIn_106 hl (by decide) rfl (fun ls hl => ?_)
    refine lv_iload hx hb d_mo_isIn_108 (lv_at hl 0 rfl) ?_
    refine lv_iload hx hb d_mo_isIn_110 (lv_at hl 1 rfl) ?_
    refine lv_icmp_eq (tgt := 126) hx hb d_mo_isIn_112 (by decide) (fun hc => ?_) (fun hc => ?_)
    · have h := h.1 hc
      refine lv_iconst (v := 0) hx hb d_mo_isIn_126 (by decide) ?_
      exact W.zret (v := 0) hx hb hr (by decide) (fun t ht hW => ⟨⟨0, g, rfl, h, by rw [ht]; exact hP, va_K.moved hW.alike hK, hD⟩, hS.F ht⟩) hS.2.2 d_mo_isIn_127
    · have h := h.2 hc
      refine lv_iload hx hb d_mo_isIn_115 (lv_at hl 0 rfl) ?_
      refine lv_iload hx hb d_mo_isIn_117 (lv_at hl 2 rfl) ?_
      refine lv_icmp_eq (tgt := 126) hx hb d_mo_isIn_119 (by decide) (fun hc => ?_) (fun hc => ?_)
      · have h := h.1 hc
        refine lv_iconst (v := 0) hx hb d_mo_isIn_126 (by decide) ?_
        exact W.zret (v := 0) hx hb hr (by decide) (fun t ht hW => ⟨⟨0, g, rfl, h, by rw [ht]; exact hP, va_K.moved hW.alike hK, hD⟩, hS.F ht⟩) hS.2.2 d_mo_isIn_127
      · have h := h.2 hc
        refine lv_iconst (v := 1) hx hb d_mo_isIn_122 (by decide) ?_
        refine lv_goto (tgt := 127) hx hb d_mo_isIn_123 (by decide) ?_
        exact W.zret (v := 1) hx hb hr (by decide) (fun t ht hW => ⟨⟨1, g, rfl, h, by rw [ht]; exact hP, va_K.moved hW.alike hK, hD⟩, hS.F ht⟩) hS.2.2 d_mo_isIn_127
  have J90 : ∀ (v4 : Int32) (v7 : Int32) (s0 : Int32) (g : St), jn_mo_isIn_J90 v4 v7 s0 g post → ∀ (H : Heap) (locs : List Loc) (ls : Array Slot), va_P (dC, dI) zzCl (wM a cI cZ g) H → va_D A (wM a cI cZ g) → va_S A s.heap H locs → lv_has ls 9 [(4, .int v4), (7, .int v7)] → W p l e (headSpec ww_mo_isIn rm_mo_isIn).room s m args below meth c H locs 0 0 (zz_Qi below (dC, dI) (wM a cI cZ) [(cI, .int), (cZ, .boolean)] A post args s) (F0 m 90 ls [.int s0]) := by
    intro v4 v7 s0 g h H locs ls hP hD hS hl
    unfold jn_mo_isIn_J90 at h
    refine lv_istore (lv' := [(8, .int s0), (4, .int v4), (7, .int v7)]) hx hb d_mo_isIn_90 hl (by decide) rfl (fun ls hl => ?_)
    refine lv_iload hx hb d_mo_isIn_92 (lv_at hl 1 rfl) ?_
    refine lv_iload hx hb d_mo_isIn_94 (lv_at hl 0 rfl) ?_
    refine lv_icmp_ge (tgt := 104) hx hb d_mo_isIn_96 (by decide) (fun hc => ?_) (fun hc => ?_)
    · have h := h.1 hc
      refine lv_iload hx hb d_mo_isIn_104 (lv_at hl 0 rfl) ?_
      exact J106 _ _ _ _ h _ _ _ hP hD hS (lv_sub hl [1, 2] rfl)
    · have h := h.2 hc
      refine lv_iload hx hb d_mo_isIn_99 (lv_at hl 1 rfl) ?_
      refine lv_goto (tgt := 106) hx hb d_mo_isIn_101 (by decide) ?_
      exact J106 _ _ _ _ h _ _ _ hP hD hS (lv_sub hl [1, 2] rfl)
  have J76 : ∀ (v3 : Int32) (v4 : Int32) (v7 : Int32) (s0 : Int32) (g : St), jn_mo_isIn_J76 v3 v4 v7 s0 g post → ∀ (H : Heap) (locs : List Loc) (ls : Array Slot), va_P (dC, dI) zzCl (wM a cI cZ g) H → va_D A (wM a cI cZ g) → va_S A s.heap H locs → lv_has ls 9 [(3, .int v3), (4, .int v4), (7, .int v7)] → W p l e (headSpec ww_mo_isIn rm_mo_isIn).room s m args below meth c H locs 0 0 (zz_Qi below (dC, dI) (wM a cI cZ) [(cI, .int), (cZ, .boolean)] A post args s) (F0 m 76 ls [.int s0]) := by
    intro v3 v4 v7 s0 g h H locs ls hP hD hS hl
    unfold jn_mo_isIn_J76 at h
    refine lv_istore (lv' := [(8, .int s0), (3, .int v3), (4, .int v4), (7, .int v7)]) hx hb d_mo_isIn_76 hl (by decide) rfl (fun ls hl => ?_)
    refine lv_iload_n hx hb d_mo_isIn_78 rfl (lv_at hl 1 rfl) ?_
    refine lv_iload hx hb d_mo_isIn_79 (lv_at hl 0 rfl) ?_
    refine lv_icmp_ge (tgt := 88) hx hb d_mo_isIn_81 (by decide) (fun hc => ?_) (fun hc => ?_)
    · have h := h.1 hc
      refine lv_iload hx hb d_mo_isIn_88 (lv_at hl 0 rfl) ?_
      exact J90 _ _ _ _ h _ _ _ hP hD hS (lv_sub hl [2, 3] rfl)
    · have h := h.2 hc
      refine lv_iload_n hx hb d_mo_isIn_84 rfl (lv_at hl 1 rfl) ?_
      refine lv_goto (tgt := 90) hx hb d_mo_isIn_85 (by decide) ?_
      exact J90 _ _ _ _ h _ _ _ hP hD hS (lv_sub hl [2, 3] rfl)
  have J64 : ∀ (v1 : Int32) (v2 : Int32) (v3 : Int32) (v4 : Int32) (s0 : Int32) (g : St), jn_mo_isIn_J64 v1 v2 v3 v4 s0 g post → ∀ (H : Heap) (locs : List Loc) (ls : Array Slot), va_P (dC, dI) zzCl (wM a cI cZ g) H → va_D A (wM a cI cZ g) → va_S A s.heap H locs → lv_has ls 9 [(1, .int v1), (2, .int v2), (3, .int v3), (4, .int v4)] → W p l e (headSpec ww_mo_isIn rm_mo_isIn).room s m args below meth c H locs 0 0 (zz_Qi below (dC, dI) (wM a cI cZ) [(cI, .int), (cZ, .boolean)] A post args s) (F0 m 64 ls [.int s0]) := by
    intro v1 v2 v3 v4 s0 g h H locs ls hP hD hS hl
    unfold jn_mo_isIn_J64 at h
    refine lv_istore (lv' := [(7, .int s0), (1, .int v1), (2, .int v2), (3, .int v3), (4, .int v4)]) hx hb d_mo_isIn_64 hl (by decide) rfl (fun ls hl => ?_)
    refine lv_iload_n hx hb d_mo_isIn_66 rfl (lv_at hl 1 rfl) ?_
    refine lv_iload_n hx hb d_mo_isIn_67 rfl (lv_at hl 2 rfl) ?_
    refine lv_icmp_ge (tgt := 75) hx hb d_mo_isIn_68 (by decide) (fun hc => ?_) (fun hc => ?_)
    · have h := h.1 hc
      refine lv_iload_n hx hb d_mo_isIn_75 rfl (lv_at hl 2 rfl) ?_
      exact J76 _ _ _ _ _ h _ _ _ hP hD hS (lv_sub hl [3, 4, 0] rfl)
    · have h := h.2 hc
      refine lv_iload_n hx hb d_mo_isIn_71 rfl (lv_at hl 1 rfl) ?_
      refine lv_goto (tgt := 76) hx hb d_mo_isIn_72 (by decide) ?_
      exact J76 _ _ _ _ _ h _ _ _ hP hD hS (lv_sub hl [3, 4, 0] rfl)
  unfold wp_mo_isIn at h
  refine lv_aload_n hx hb d_mo_isIn_0 rfl (lv_at hl 0 rfl) ?_
  refine lv_iload_n hx hb d_mo_isIn_1 rfl (lv_at hl 1 rfl) ?_
  refine lv_iload_n hx hb d_mo_isIn_2 rfl (lv_at hl 2 rfl) ?_
  refine lv_iload_n hx hb d_mo_isIn_3 rfl (lv_at hl 3 rfl) ?_
  refine lv_iload hx hb d_mo_isIn_4 (lv_at hl 4 rfl) ?_
  refine zz_cl (va_runV (As := [.int x1, .int x2, .int x3, .int x4]) (rest := []) ⟨hx, hb, hml, hown, hts⟩ (mc_mo_inside l dC dI a cI cZ _ x1 x2 x3 x4 g _ h) (zz_cwV 4 hts (zz_good wm_270) rfl rfl rfl wm_271 wm_272 wm_273 wm_258 (by decide +kernel) ⟨Nat.le_of_ble_eq_true rfl, Nat.le_of_ble_eq_true rfl⟩) ⟨zz_blind, (va_recv hK hP rfl (wM_0 a cI cZ g)), zz_pre hP hK hD hN⟩ rfl rfl hl.1 rfl (lv_room (Nat.le_of_ble_eq_true rfl)) d_mo_isIn_6 ⟨Nat.le_of_ble_eq_true rfl, Nat.le_of_ble_eq_true rfl⟩) hD hS hA (fun r2 g1 H locs h hP hD hS => ?_)
  refine lv_lstore (lv' := [(5, .long r2), (0, .ref (a 0)), (1, .int x1), (2, .int x2), (3, .int x3), (4, .int x4)]) hx hb d_mo_isIn_9 hl (by decide) rfl (fun ls hl => ?_)
  refine lv_lload hx hb d_mo_isIn_11 (lv_at hl 0 rfl) ?_
  refine lv_lconst (v := 0) hx hb d_mo_isIn_13 (by decide) ?_
  refine W.lcmp hx hb d_mo_isIn_14 ?_
  refine lv_if_eq (tgt := 31) hx hb d_mo_isIn_15 (by decide) (fun hc => ?_) (fun hc => ?_)
  · have h := h.1 hc
    refine lv_aload_n hx hb d_mo_isIn_31 rfl (lv_at hl 1 rfl) ?_
    refine lv_iload hx hb d_mo_isIn_32 (lv_at hl 5 rfl) ?_
    refine lv_iload_n hx hb d_mo_isIn_34 rfl (lv_at hl 2 rfl) ?_
    refine lv_iload_n hx hb d_mo_isIn_35 rfl (lv_at hl 3 rfl) ?_
    refine lv_iload_n hx hb d_mo_isIn_36 rfl (lv_at hl 4 rfl) ?_
    refine zz_ci (va_runV (As := [.int x4, .int x1, .int x2, .int x3]) (rest := []) ⟨hx, hb, hml, hown, hts⟩ (mc_mo_parts l dC dI a cI cZ _ x4 x1 x2 x3 g1 _ h) (zz_cwV 4 hts (zz_good wm_266) rfl rfl rfl wm_267 wm_268 wm_269 wm_258 (by decide +kernel) ⟨Nat.le_of_ble_eq_true rfl, Nat.le_of_ble_eq_true rfl⟩) ⟨zz_blind, (va_recv hK hP rfl (wM_0 a cI cZ g1)), zz_pre hP hK hD hN⟩ rfl rfl hl.1 rfl (lv_room (Nat.le_of_ble_eq_true rfl)) d_mo_isIn_37 ⟨Nat.le_of_ble_eq_true rfl, Nat.le_of_ble_eq_true rfl⟩) hD hS hA (fun r4 g3 H locs h hP hD hS => ?_)
    refine lv_if_eq (tgt := 47) hx hb d_mo_isIn_40 (by decide) (fun hc => ?_) (fun hc => ?_)
    · have h := h.1 hc
      refine lv_aload_n hx hb d_mo_isIn_47 rfl (lv_at hl 1 rfl) ?_
      refine lv_iload hx hb d_mo_isIn_48 (lv_at hl 5 rfl) ?_
      refine lv_iload_n hx hb d_mo_isIn_50 rfl (lv_at hl 3 rfl) ?_
      refine lv_iload_n hx hb d_mo_isIn_51 rfl (lv_at hl 2 rfl) ?_
      refine lv_iload_n hx hb d_mo_isIn_52 rfl (lv_at hl 4 rfl) ?_
      refine zz_ci (va_runV (As := [.int x4, .int x2, .int x1, .int x3]) (rest := []) ⟨hx, hb, hml, hown, hts⟩ (mc_mo_parts l dC dI a cI cZ _ x4 x2 x1 x3 g3 _ h) (zz_cwV 4 hts (zz_good wm_266) rfl rfl rfl wm_267 wm_268 wm_269 wm_258 (by decide +kernel) ⟨Nat.le_of_ble_eq_true rfl, Nat.le_of_ble_eq_true rfl⟩) ⟨zz_blind, (va_recv hK hP rfl (wM_0 a cI cZ g3)), zz_pre hP hK hD hN⟩ rfl rfl hl.1 rfl (lv_room (Nat.le_of_ble_eq_true rfl)) d_mo_isIn_53 ⟨Nat.le_of_ble_eq_true rfl, Nat.le_of_ble_eq_true rfl⟩) hD hS hA (fun r6 g5 H locs h hP hD hS => ?_)
      refine lv_if_eq (tgt := 63) hx hb d_mo_isIn_56 (by decide) (fun hc => ?_) (fun hc => ?_)
      · have h := h.1 hc
        refine lv_iload_n hx hb d_mo_isIn_63 rfl (lv_at hl 4 rfl) ?_
        exact J64 _ _ _ _ _ _ h _ _ _ hP hD hS (lv_sub hl [2, 3, 4, 5] rfl)
      · have h := h.2 hc
        refine lv_iload_n hx hb d_mo_isIn_59 rfl (lv_at hl 3 rfl) ?_
        refine lv_goto (tgt := 64) hx hb d_mo_isIn_60 (by decide) ?_
        exact J64 _ _ _ _ _ _ h _ _ _ hP hD hS (lv_sub hl [2, 3, 4, 5] rfl)
    · have h := h.2 hc
      refine lv_iload_n hx hb d_mo_isIn_43 rfl (lv_at hl 2 rfl) ?_
      refine lv_goto (tgt := 64) hx hb d_mo_isIn_44 (by decide) ?_
      exact J64 _ _ _ _ _ _ h _ _ _ hP hD hS (lv_sub hl [2, 3, 4, 5] rfl)
  · have h := h.2 hc
    refine lv_lload hx hb d_mo_isIn_18 (lv_at hl 0 rfl) ?_
    refine lv_lconst (v := 0) hx hb d_mo_isIn_20 (by decide) ?_
    refine W.lcmp hx hb d_mo_isIn_21 ?_
    refine lv_if_le (tgt := 29) hx hb d_mo_isIn_22 (by decide) (fun hc => ?_) (fun hc => ?_)
    · have h := h.1 hc
      refine lv_iconst (v := 0) hx hb d_mo_isIn_29 (by decide) ?_
      exact W.zret (v := 0) hx hb hr (by decide) (fun t ht hW => ⟨⟨0, g1, rfl, h, by rw [ht]; exact hP, va_K.moved hW.alike hK, hD⟩, hS.F ht⟩) hS.2.2 d_mo_isIn_30
    · have h := h.2 hc
      refine lv_iconst (v := 1) hx hb d_mo_isIn_25 (by decide) ?_
      refine lv_goto (tgt := 30) hx hb d_mo_isIn_26 (by decide) ?_
      exact W.zret (v := 1) hx hb hr (by decide) (fun t ht hW => ⟨⟨1, g1, rfl, h, by rw [ht]; exact hP, va_K.moved hW.alike hK, hD⟩, hS.F ht⟩) hS.2.2 d_mo_isIn_30
abbrev rm_mo_isTriangle : Room := { frames := 3, cells := 0, slots := 0, locals := 77 }
set_option maxHeartbeats 4000000 in
set_option maxRecDepth 100000 in
theorem mc_mo_isTriangle (l : Launch) (dC : Nat → ClassId) (dI : Nat → Nat → Nat) (a : Nat → Nat) (cI cZ : ClassId) (sz : Nat) (x1 : Int32) (x2 : Int32) (x3 : Int32) (g : St) (post : Int32 → St → Prop) (h : wp_mo_isTriangle x1 x2 x3 g post) : Met l yy_mo_isTriangle ww_mo_isTriangle rm_mo_isTriangle (zz_Pre (dC, dI) (wM a cI cZ) [(cI, .int), (cZ, .boolean)] [.ref (a 0), .int x1, .int x2, .int x3] g sz) (va_Qi post (zz_W (dC, dI) (wM a cI cZ) [(cI, .int), (cZ, .boolean)] (va_A (wM a cI cZ g) sz)) (va_A (wM a cI cZ g) sz)) 0 0 (va_A (wM a cI cZ g) sz) := by
  refine Met.ofW (cc := cc_mo_isTriangle) (maxL := 6) (ret := (some .boolean)) (by decide) rfl ?_
  intro p e s m args below meth c s₁ B hml hv
  obtain ⟨hav, hsz, hP, hK, hD0, hN⟩ := hv
  have hx := B.exec
  have hb := B.bytes
  have hr := B.returns
  have hts := atoms_spec (ws := ww_mo_isTriangle) B.pre
  have hown : s.vm.findClass "SpotContoursModel" = some m.cls := findClass_of_methodNamed B.named
  have hlocks := B.notSynchronized
  subst hsz
  have hD := hD0.self (sz := s.heap.size)
  generalize hAe : va_A (wM a cI cZ g) s.heap.size = A at hD ⊢
  have hA : ∀ q : Nat, s.heap.size ≤ q → A q := fun q h => by rw [← hAe]; exact Or.inr h
  have hS : va_S A s.heap s.heap [] := va_S.rf
  have he9 := lg_entry_eq m [.ref (a 0), .int x1, .int x2, .int x3] 6
  rw [← hav] at he9
  rw [he9]
  have hl := lv_entry [.ref (a 0), .int x1, .int x2, .int x3] (n := 6) (Nat.le_of_ble_eq_true rfl)
  generalize (lg_sl [.ref (a 0), .int x1, .int x2, .int x3] ++ List.replicate (6 - (lg_sl [.ref (a 0), .int x1, .int x2, .int x3]).length) Slot.unset).toArray = ls at hl ⊢
  have hl : lv_has ls 6 [(0, .ref (a 0)), (1, .int x1), (2, .int x2), (3, .int x3)] := hl
  have hin__mo : ∀ w ∈ u_ws R_mo T_mo 21, w ∈ ww_mo_isTriangle := fun w h => zz_in (hin0_mo w h)
  have fl_60 := hts (.fieldLink "SpotContoursModel" 60 "SpotContoursModel" "spots" "I") (zz_in wm_378)
  have L18 : ∀ (n : Nat) (v1 : Int32) (v2 : Int32) (v3 : Int32) (v4 : Int32) (v5 : Int32) (g : St) (K75 : Int32 → St → Prop) , (∀ (v4 : Int32) (g : St), K75 v4 g → ∀ (H : Heap) (locs : List Loc) (ls : Array Slot), va_P (dC, dI) zzCl (wM a cI cZ g) H → va_D A (wM a cI cZ g) → va_S A s.heap H locs → lv_has ls 6 [(4, .int v4)] → W p l e (headSpec ww_mo_isTriangle rm_mo_isTriangle).room s m args below meth c H locs 0 0 (zz_Qi below (dC, dI) (wM a cI cZ) [(cI, .int), (cZ, .boolean)] A post args s) (F0 m 75 ls [])) → lp_mo_isTriangle_L18 n v1 v2 v3 v4 v5 g K75 post → ∀ (H : Heap) (locs : List Loc) (ls : Array Slot), va_P (dC, dI) zzCl (wM a cI cZ g) H → va_D A (wM a cI cZ g) → va_S A s.heap H locs → lv_has ls 6 [(0, .ref (a 0)), (1, .int v1), (2, .int v2), (3, .int v3), (4, .int v4), (5, .int v5)] → W p l e (headSpec ww_mo_isTriangle rm_mo_isTriangle).room s m args below meth c H locs 0 0 (zz_Qi below (dC, dI) (wM a cI cZ) [(cI, .int), (cZ, .boolean)] A post args s) (F0 m 18 ls []) := by
    intro n
    induction n with
    | zero => intro v1 v2 v3 v4 v5 g K75 hK75 h; exact h.elim
    | succ n ih =>
      intro v1 v2 v3 v4 v5 g K75 hK75 h H locs ls hP hD hS hl
      unfold lp_mo_isTriangle_L18 at h
      refine lv_iload hx hb d_mo_isTriangle_18 (lv_at hl 5 rfl) ?_
      refine lv_aload_n hx hb d_mo_isTriangle_20 rfl (lv_at hl 0 rfl) ?_
      refine va_get (D := (dC, dI)) (ci := 5) (v := .int (g 0 1)) (C := R_mo) (T := T_mo) (N := 21) hx hb hts hin__mo hown hK hP 0 (wM_0 a cI cZ g) rfl 1 (by decide) fl_60 (fun _ h9 => h9) rfl d_mo_isTriangle_21 ?_
      refine lv_icmp_ge (tgt := 75) hx hb d_mo_isTriangle_24 (by decide) (fun hc => ?_) (fun hc => ?_)
      · have h := h.1 hc
        exact hK75 _ _ h _ _ _ hP hD hS (lv_sub hl [4] rfl)
      · have h := h.2 hc
        refine lv_iload hx hb d_mo_isTriangle_27 (lv_at hl 4 rfl) ?_
        refine lv_if_eq (tgt := 75) hx hb d_mo_isTriangle_29 (by decide) (fun hc => ?_) (fun hc => ?_)
        · have h := h.1 hc
          exact hK75 _ _ h _ _ _ hP hD hS (lv_sub hl [4] rfl)
        · have h := h.2 hc
          refine lv_iload hx hb d_mo_isTriangle_32 (lv_at hl 5 rfl) ?_
          refine lv_iload_n hx hb d_mo_isTriangle_34 rfl (lv_at hl 1 rfl) ?_
          refine lv_icmp_eq (tgt := 62) hx hb d_mo_isTriangle_35 (by decide) (fun hc => ?_) (fun hc => ?_)
          · have h := h.1 hc
            refine lv_iconst (v := 1) hx hb d_mo_isTriangle_62 (by decide) ?_
            refine lv_goto (tgt := 67) hx hb d_mo_isTriangle_63 (by decide) ?_
            refine lv_istore (lv' := [(4, .int 1), (0, .ref (a 0)), (1, .int v1), (2, .int v2), (3, .int v3), (5, .int v5)]) hx hb d_mo_isTriangle_67 hl (by decide) rfl (fun ls hl => ?_)
            refine lv_iinc (k := 5) (v := (v5 + 1)) (lv' := [(5, .int (v5 + 1)), (4, .int 1), (0, .ref (a 0)), (1, .int v1), (2, .int v2), (3, .int v3)]) hx hb d_mo_isTriangle_69 hl rfl rfl (by decide) rfl (fun ls hl => ?_)
            refine lv_goto (tgt := 18) hx hb d_mo_isTriangle_72 (by decide) ?_
            exact ih _ _ _ _ _ _ _ hK75 h _ _ _ hP hD hS (lv_sub hl [2, 3, 4, 5, 1, 0] rfl)
          · have h := h.2 hc
            refine lv_iload hx hb d_mo_isTriangle_38 (lv_at hl 5 rfl) ?_
            refine lv_iload_n hx hb d_mo_isTriangle_40 rfl (lv_at hl 2 rfl) ?_
            refine lv_icmp_eq (tgt := 62) hx hb d_mo_isTriangle_41 (by decide) (fun hc => ?_) (fun hc => ?_)
            · have h := h.1 hc
              refine lv_iconst (v := 1) hx hb d_mo_isTriangle_62 (by decide) ?_
              refine lv_goto (tgt := 67) hx hb d_mo_isTriangle_63 (by decide) ?_
              refine lv_istore (lv' := [(4, .int 1), (0, .ref (a 0)), (1, .int v1), (2, .int v2), (3, .int v3), (5, .int v5)]) hx hb d_mo_isTriangle_67 hl (by decide) rfl (fun ls hl => ?_)
              refine lv_iinc (k := 5) (v := (v5 + 1)) (lv' := [(5, .int (v5 + 1)), (4, .int 1), (0, .ref (a 0)), (1, .int v1), (2, .int v2), (3, .int v3)]) hx hb d_mo_isTriangle_69 hl rfl rfl (by decide) rfl (fun ls hl => ?_)
              refine lv_goto (tgt := 18) hx hb d_mo_isTriangle_72 (by decide) ?_
              exact ih _ _ _ _ _ _ _ hK75 h _ _ _ hP hD hS (lv_sub hl [2, 3, 4, 5, 1, 0] rfl)
            · have h := h.2 hc
              refine lv_iload hx hb d_mo_isTriangle_44 (lv_at hl 5 rfl) ?_
              refine lv_iload_n hx hb d_mo_isTriangle_46 rfl (lv_at hl 3 rfl) ?_
              refine lv_icmp_eq (tgt := 62) hx hb d_mo_isTriangle_47 (by decide) (fun hc => ?_) (fun hc => ?_)
              · have h := h.1 hc
                refine lv_iconst (v := 1) hx hb d_mo_isTriangle_62 (by decide) ?_
                refine lv_goto (tgt := 67) hx hb d_mo_isTriangle_63 (by decide) ?_
                refine lv_istore (lv' := [(4, .int 1), (0, .ref (a 0)), (1, .int v1), (2, .int v2), (3, .int v3), (5, .int v5)]) hx hb d_mo_isTriangle_67 hl (by decide) rfl (fun ls hl => ?_)
                refine lv_iinc (k := 5) (v := (v5 + 1)) (lv' := [(5, .int (v5 + 1)), (4, .int 1), (0, .ref (a 0)), (1, .int v1), (2, .int v2), (3, .int v3)]) hx hb d_mo_isTriangle_69 hl rfl rfl (by decide) rfl (fun ls hl => ?_)
                refine lv_goto (tgt := 18) hx hb d_mo_isTriangle_72 (by decide) ?_
                exact ih _ _ _ _ _ _ _ hK75 h _ _ _ hP hD hS (lv_sub hl [2, 3, 4, 5, 1, 0] rfl)
              · have h := h.2 hc
                refine lv_aload_n hx hb d_mo_isTriangle_50 rfl (lv_at hl 0 rfl) ?_
                refine lv_iload_n hx hb d_mo_isTriangle_51 rfl (lv_at hl 1 rfl) ?_
                refine lv_iload_n hx hb d_mo_isTriangle_52 rfl (lv_at hl 2 rfl) ?_
                refine lv_iload_n hx hb d_mo_isTriangle_53 rfl (lv_at hl 3 rfl) ?_
                refine lv_iload hx hb d_mo_isTriangle_54 (lv_at hl 5 rfl) ?_
                refine zz_ci (va_runV (As := [.int v1, .int v2, .int v3, .int v5]) (rest := []) ⟨hx, hb, hml, hown, hts⟩ (mc_mo_isIn l dC dI a cI cZ _ v1 v2 v3 v5 g _ h) (zz_cwV 4 hts (zz_good wm_274) rfl rfl rfl wm_275 wm_276 wm_277 wm_258 (by decide +kernel) ⟨Nat.le_of_ble_eq_true rfl, Nat.le_of_ble_eq_true rfl⟩) ⟨zz_blind, (va_recv hK hP rfl (wM_0 a cI cZ g)), zz_pre hP hK hD hN⟩ rfl rfl hl.1 rfl (lv_room (Nat.le_of_ble_eq_true rfl)) d_mo_isTriangle_56 ⟨Nat.le_of_ble_eq_true rfl, Nat.le_of_ble_eq_true rfl⟩) hD hS hA (fun r4 g3 H locs h hP hD hS => ?_)
                refine lv_if_ne (tgt := 66) hx hb d_mo_isTriangle_59 (by decide) (fun hc => ?_) (fun hc => ?_)
                · have h := h.1 hc
                  refine lv_iconst (v := 0) hx hb d_mo_isTriangle_66 (by decide) ?_
                  refine lv_istore (lv' := [(4, .int 0), (0, .ref (a 0)), (1, .int v1), (2, .int v2), (3, .int v3), (5, .int v5)]) hx hb d_mo_isTriangle_67 hl (by decide) rfl (fun ls hl => ?_)
                  refine lv_iinc (k := 5) (v := (v5 + 1)) (lv' := [(5, .int (v5 + 1)), (4, .int 0), (0, .ref (a 0)), (1, .int v1), (2, .int v2), (3, .int v3)]) hx hb d_mo_isTriangle_69 hl rfl rfl (by decide) rfl (fun ls hl => ?_)
                  refine lv_goto (tgt := 18) hx hb d_mo_isTriangle_72 (by decide) ?_
                  exact ih _ _ _ _ _ _ _ hK75 h _ _ _ hP hD hS (lv_sub hl [2, 3, 4, 5, 1, 0] rfl)
                · have h := h.2 hc
                  refine lv_iconst (v := 1) hx hb d_mo_isTriangle_62 (by decide) ?_
                  refine lv_goto (tgt := 67) hx hb d_mo_isTriangle_63 (by decide) ?_
                  refine lv_istore (lv' := [(4, .int 1), (0, .ref (a 0)), (1, .int v1), (2, .int v2), (3, .int v3), (5, .int v5)]) hx hb d_mo_isTriangle_67 hl (by decide) rfl (fun ls hl => ?_)
                  refine lv_iinc (k := 5) (v := (v5 + 1)) (lv' := [(5, .int (v5 + 1)), (4, .int 1), (0, .ref (a 0)), (1, .int v1), (2, .int v2), (3, .int v3)]) hx hb d_mo_isTriangle_69 hl rfl rfl (by decide) rfl (fun ls hl => ?_)
                  refine lv_goto (tgt := 18) hx hb d_mo_isTriangle_72 (by decide) ?_
                  exact ih _ _ _ _ _ _ _ hK75 h _ _ _ hP hD hS (lv_sub hl [2, 3, 4, 5, 1, 0] rfl)
  unfold wp_mo_isTriangle at h
  refine lv_aload_n hx hb d_mo_isTriangle_0 rfl (lv_at hl 0 rfl) ?_
  refine lv_iload_n hx hb d_mo_isTriangle_1 rfl (lv_at hl 1 rfl) ?_
  refine lv_iload_n hx hb d_mo_isTriangle_2 rfl (lv_at hl 2 rfl) ?_
  refine lv_iload_n hx hb d_mo_isTriangle_3 rfl (lv_at hl 3 rfl) ?_
  refine zz_ci (va_runV (As := [.int x1, .int x2, .int x3]) (rest := []) ⟨hx, hb, hml, hown, hts⟩ (mc_mo_turn l dC dI a cI cZ _ x1 x2 x3 g _ h) (zz_cwV 3 hts (zz_good wm_257) rfl rfl rfl wm_259 wm_260 wm_261 wm_258 (by decide +kernel) ⟨Nat.le_of_ble_eq_true rfl, Nat.le_of_ble_eq_true rfl⟩) ⟨zz_blind, (va_recv hK hP rfl (wM_0 a cI cZ g)), zz_pre hP hK hD hN⟩ rfl rfl hl.1 rfl (lv_room (Nat.le_of_ble_eq_true rfl)) d_mo_isTriangle_4 ⟨Nat.le_of_ble_eq_true rfl, Nat.le_of_ble_eq_true rfl⟩) hD hS hA (fun r2 g1 H locs h hP hD hS => ?_)
  refine lv_if_ne (tgt := 12) hx hb d_mo_isTriangle_7 (by decide) (fun hc => ?_) (fun hc => ?_)
  · have h := h.1 hc
    refine lv_iconst (v := 1) hx hb d_mo_isTriangle_12 (by decide) ?_
    refine lv_istore (lv' := [(4, .int 1), (0, .ref (a 0)), (1, .int x1), (2, .int x2), (3, .int x3)]) hx hb d_mo_isTriangle_13 hl (by decide) rfl (fun ls hl => ?_)
    refine lv_iconst (v := 0) hx hb d_mo_isTriangle_15 (by decide) ?_
    refine lv_istore (lv' := [(5, .int 0), (4, .int 1), (0, .ref (a 0)), (1, .int x1), (2, .int x2), (3, .int x3)]) hx hb d_mo_isTriangle_16 hl (by decide) rfl (fun ls hl => ?_)
    obtain ⟨n18, h⟩ := h
    refine L18 n18 _ _ _ _ _ _ _ (fun w6 g5 h H locs ls hP hD hS hl => ?_) h _ _ _ hP hD hS (lv_sub hl [2, 3, 4, 5, 1, 0] rfl)
    refine lv_iload hx hb d_mo_isTriangle_75 (lv_at hl 0 rfl) ?_
    exact W.zret (v := w6) hx hb hr h.1 (fun t ht hW => ⟨⟨w6, g5, rfl, h.2, by rw [ht]; exact hP, va_K.moved hW.alike hK, hD⟩, hS.F ht⟩) hS.2.2 d_mo_isTriangle_77
  · have h := h.2 hc
    refine lv_iconst (v := 0) hx hb d_mo_isTriangle_10 (by decide) ?_
    exact W.zret (v := 0) hx hb hr (by decide) (fun t ht hW => ⟨⟨0, g1, rfl, h, by rw [ht]; exact hP, va_K.moved hW.alike hK, hD⟩, hS.F ht⟩) hS.2.2 d_mo_isTriangle_11
