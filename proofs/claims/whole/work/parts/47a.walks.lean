/-! Contracts by their walks, printed. -/
abbrev rm_li_size : Room := { frames := 0, cells := 0, slots := 0, locals := 0 }
set_option maxHeartbeats 4000000 in
set_option maxRecDepth 100000 in
theorem mc_li_size (l : Launch) (dC : Nat → ClassId) (dI : Nat → Nat → Nat) (a : Nat → Nat) (cI cZ : ClassId) (sz : Nat) (g : St) (post : Int32 → St → Prop) (h : wp_li_size  g post) : Met l yy_li_size ww_li_size rm_li_size (zz_Pre (dC, dI) (wC a cI cZ) [(cI, .int), (cZ, .boolean)] [.ref (a 3)] g sz) (va_Qi post (zz_W (dC, dI) (wC a cI cZ) [(cI, .int), (cZ, .boolean)] (va_A (wC a cI cZ g) sz)) (va_A (wC a cI cZ g) sz)) 0 0 (va_A (wC a cI cZ g) sz) := by
  refine Met.ofW (cc := cc_li_size) (maxL := 1) (ret := (some .int)) (by decide) rfl ?_
  intro p e s m args below meth c s₁ B hml hv
  obtain ⟨hav, hsz, hP, hK, hD0, hN⟩ := hv
  have hx := B.exec
  have hb := B.bytes
  have hr := B.returns
  have hts := atoms_spec (ws := ww_li_size) B.pre
  have hown : s.vm.findClass "SpotContours$Lines" = some m.cls := findClass_of_methodNamed B.named
  have hlocks := B.notSynchronized
  subst hsz
  have hD := hD0.self (sz := s.heap.size)
  generalize hAe : va_A (wC a cI cZ g) s.heap.size = A at hD ⊢
  have hA : ∀ q : Nat, s.heap.size ≤ q → A q := fun q h => by rw [← hAe]; exact Or.inr h
  have hS : va_S A s.heap s.heap [] := va_S.rf
  have he9 := lg_entry_eq m [.ref (a 3)] 1
  rw [← hav] at he9
  rw [he9]
  have hl := lv_entry [.ref (a 3)] (n := 1) (Nat.le_of_ble_eq_true rfl)
  generalize (lg_sl [.ref (a 3)] ++ List.replicate (1 - (lg_sl [.ref (a 3)]).length) Slot.unset).toArray = ls at hl ⊢
  have hl : lv_has ls 1 [(0, .ref (a 3))] := hl
  have hin__li : ∀ w ∈ u_ws R_li T_li 6, w ∈ ww_li_size := fun w h => zz_in (hin0_li w h)
  have fl_28 := hts (.fieldLink "SpotContours$Lines" 28 "SpotContours$Lines" "count" "I") (zz_in wm_356)
  unfold wp_li_size at h
  refine lv_aload_n hx hb d_li_size_0 rfl (lv_at hl 0 rfl) ?_
  refine va_get (D := (dC, dI)) (ci := 0) (v := .int (g 3 5)) (C := R_li) (T := T_li) (N := 6) hx hb hts hin__li hown hK hP 3 (wC_3 a cI cZ g) rfl 5 (by decide) fl_28 (fun _ h9 => h9) rfl d_li_size_1 ?_
  exact W.iret (v := (g 3 5)) hx hb hr (fun t ht hW => ⟨⟨(g 3 5), g, rfl, h, by rw [ht]; exact hP, va_K.moved hW.alike hK, hD⟩, hS.F ht⟩) hS.2.2 d_li_size_4
abbrev rm_li_isLine : Room := { frames := 0, cells := 0, slots := 0, locals := 0 }
set_option maxHeartbeats 4000000 in
set_option maxRecDepth 100000 in
theorem mc_li_isLine (l : Launch) (dC : Nat → ClassId) (dI : Nat → Nat → Nat) (a : Nat → Nat) (cI cZ : ClassId) (sz : Nat) (x1 : Int32) (g : St) (post : Int32 → St → Prop) (h : wp_li_isLine x1 g post) : Met l yy_li_isLine ww_li_isLine rm_li_isLine (zz_Pre (dC, dI) (wC a cI cZ) [(cI, .int), (cZ, .boolean)] [.ref (a 3), .int x1] g sz) (va_Qi post (zz_W (dC, dI) (wC a cI cZ) [(cI, .int), (cZ, .boolean)] (va_A (wC a cI cZ g) sz)) (va_A (wC a cI cZ g) sz)) 0 0 (va_A (wC a cI cZ g) sz) := by
  refine Met.ofW (cc := cc_li_isLine) (maxL := 2) (ret := (some .boolean)) (by decide) rfl ?_
  intro p e s m args below meth c s₁ B hml hv
  obtain ⟨hav, hsz, hP, hK, hD0, hN⟩ := hv
  have hx := B.exec
  have hb := B.bytes
  have hr := B.returns
  have hts := atoms_spec (ws := ww_li_isLine) B.pre
  have hown : s.vm.findClass "SpotContours$Lines" = some m.cls := findClass_of_methodNamed B.named
  have hlocks := B.notSynchronized
  subst hsz
  have hD := hD0.self (sz := s.heap.size)
  generalize hAe : va_A (wC a cI cZ g) s.heap.size = A at hD ⊢
  have hA : ∀ q : Nat, s.heap.size ≤ q → A q := fun q h => by rw [← hAe]; exact Or.inr h
  have hS : va_S A s.heap s.heap [] := va_S.rf
  have he9 := lg_entry_eq m [.ref (a 3), .int x1] 2
  rw [← hav] at he9
  rw [he9]
  have hl := lv_entry [.ref (a 3), .int x1] (n := 2) (Nat.le_of_ble_eq_true rfl)
  generalize (lg_sl [.ref (a 3), .int x1] ++ List.replicate (2 - (lg_sl [.ref (a 3), .int x1]).length) Slot.unset).toArray = ls at hl ⊢
  have hl : lv_has ls 2 [(0, .ref (a 3)), (1, .int x1)] := hl
  have hin__li : ∀ w ∈ u_ws R_li T_li 6, w ∈ ww_li_isLine := fun w h => zz_in (hin0_li w h)
  have fl_28 := hts (.fieldLink "SpotContours$Lines" 28 "SpotContours$Lines" "count" "I") (zz_in wm_356)
  unfold wp_li_isLine at h
  refine lv_iload_n hx hb d_li_isLine_0 rfl (lv_at hl 1 rfl) ?_
  refine lv_if_lt (tgt := 16) hx hb d_li_isLine_1 (by decide) (fun hc => ?_) (fun hc => ?_)
  · have h := h.1 hc
    refine lv_iconst (v := 0) hx hb d_li_isLine_16 (by decide) ?_
    exact W.zret (v := 0) hx hb hr (by decide) (fun t ht hW => ⟨⟨0, g, rfl, h, by rw [ht]; exact hP, va_K.moved hW.alike hK, hD⟩, hS.F ht⟩) hS.2.2 d_li_isLine_17
  · have h := h.2 hc
    refine lv_iload_n hx hb d_li_isLine_4 rfl (lv_at hl 1 rfl) ?_
    refine lv_aload_n hx hb d_li_isLine_5 rfl (lv_at hl 0 rfl) ?_
    refine va_get (D := (dC, dI)) (ci := 0) (v := .int (g 3 5)) (C := R_li) (T := T_li) (N := 6) hx hb hts hin__li hown hK hP 3 (wC_3 a cI cZ g) rfl 5 (by decide) fl_28 (fun _ h9 => h9) rfl d_li_isLine_6 ?_
    refine lv_icmp_ge (tgt := 16) hx hb d_li_isLine_9 (by decide) (fun hc => ?_) (fun hc => ?_)
    · have h := h.1 hc
      refine lv_iconst (v := 0) hx hb d_li_isLine_16 (by decide) ?_
      exact W.zret (v := 0) hx hb hr (by decide) (fun t ht hW => ⟨⟨0, g, rfl, h, by rw [ht]; exact hP, va_K.moved hW.alike hK, hD⟩, hS.F ht⟩) hS.2.2 d_li_isLine_17
    · have h := h.2 hc
      refine lv_iconst (v := 1) hx hb d_li_isLine_12 (by decide) ?_
      refine lv_goto (tgt := 17) hx hb d_li_isLine_13 (by decide) ?_
      exact W.zret (v := 1) hx hb hr (by decide) (fun t ht hW => ⟨⟨1, g, rfl, h, by rw [ht]; exact hP, va_K.moved hW.alike hK, hD⟩, hS.F ht⟩) hS.2.2 d_li_isLine_17
abbrev rm_li_length : Room := { frames := 0, cells := 0, slots := 0, locals := 0 }
set_option maxHeartbeats 4000000 in
set_option maxRecDepth 100000 in
theorem mc_li_length (l : Launch) (dC : Nat → ClassId) (dI : Nat → Nat → Nat) (a : Nat → Nat) (cI cZ : ClassId) (sz : Nat) (x1 : Int32) (g : St) (post : Int32 → St → Prop) (h : wp_li_length x1 g post) : Met l yy_li_length ww_li_length rm_li_length (zz_Pre (dC, dI) (wC a cI cZ) [(cI, .int), (cZ, .boolean)] [.ref (a 3), .int x1] g sz) (va_Qi post (zz_W (dC, dI) (wC a cI cZ) [(cI, .int), (cZ, .boolean)] (va_A (wC a cI cZ g) sz)) (va_A (wC a cI cZ g) sz)) 0 0 (va_A (wC a cI cZ g) sz) := by
  refine Met.ofW (cc := cc_li_length) (maxL := 2) (ret := (some .int)) (by decide) rfl ?_
  intro p e s m args below meth c s₁ B hml hv
  obtain ⟨hav, hsz, hP, hK, hD0, hN⟩ := hv
  have hx := B.exec
  have hb := B.bytes
  have hr := B.returns
  have hts := atoms_spec (ws := ww_li_length) B.pre
  have hown : s.vm.findClass "SpotContours$Lines" = some m.cls := findClass_of_methodNamed B.named
  have hlocks := B.notSynchronized
  subst hsz
  have hD := hD0.self (sz := s.heap.size)
  generalize hAe : va_A (wC a cI cZ g) s.heap.size = A at hD ⊢
  have hA : ∀ q : Nat, s.heap.size ≤ q → A q := fun q h => by rw [← hAe]; exact Or.inr h
  have hS : va_S A s.heap s.heap [] := va_S.rf
  have he9 := lg_entry_eq m [.ref (a 3), .int x1] 2
  rw [← hav] at he9
  rw [he9]
  have hl := lv_entry [.ref (a 3), .int x1] (n := 2) (Nat.le_of_ble_eq_true rfl)
  generalize (lg_sl [.ref (a 3), .int x1] ++ List.replicate (2 - (lg_sl [.ref (a 3), .int x1]).length) Slot.unset).toArray = ls at hl ⊢
  have hl : lv_has ls 2 [(0, .ref (a 3)), (1, .int x1)] := hl
  have hin__li : ∀ w ∈ u_ws R_li T_li 6, w ∈ ww_li_length := fun w h => zz_in (hin0_li w h)
  have fl_19 := hts (.fieldLink "SpotContours$Lines" 19 "SpotContours$Lines" "starts" "[I") (zz_in wm_357)
  unfold wp_li_length at h
  refine lv_aload_n hx hb d_li_length_0 rfl (lv_at hl 0 rfl) ?_
  refine va_get (D := (dC, dI)) (ci := 0) (v := .ref (a 12)) (C := R_li) (T := T_li) (N := 6) hx hb hts hin__li hown hK hP 3 (wC_3 a cI cZ g) rfl 2 (by decide) fl_19 (fun _ h9 => h9) rfl d_li_length_1 ?_
  refine lv_iload_n hx hb d_li_length_4 rfl (lv_at hl 1 rfl) ?_
  refine lv_iconst (v := 1) hx hb d_li_length_5 (by decide) ?_
  refine lv_iadd hx hb d_li_length_6 ?_
  refine va_iald hx hb hK hP 12 0 (wC_12 a cI cZ g) rfl h.1 d_li_length_7 ?_
  have h := h.2
  refine lv_aload_n hx hb d_li_length_8 rfl (lv_at hl 0 rfl) ?_
  refine va_get (D := (dC, dI)) (ci := 0) (v := .ref (a 12)) (C := R_li) (T := T_li) (N := 6) hx hb hts hin__li hown hK hP 3 (wC_3 a cI cZ g) rfl 2 (by decide) fl_19 (fun _ h9 => h9) rfl d_li_length_9 ?_
  refine lv_iload_n hx hb d_li_length_12 rfl (lv_at hl 1 rfl) ?_
  refine va_iald hx hb hK hP 12 0 (wC_12 a cI cZ g) rfl h.1 d_li_length_13 ?_
  have h := h.2
  refine lv_isub hx hb d_li_length_14 ?_
  exact W.iret (v := ((g 12 (ix (x1 + 1))) - (g 12 (ix x1)))) hx hb hr (fun t ht hW => ⟨⟨((g 12 (ix (x1 + 1))) - (g 12 (ix x1))), g, rfl, h, by rw [ht]; exact hP, va_K.moved hW.alike hK, hD⟩, hS.F ht⟩) hS.2.2 d_li_length_15
abbrev rm_li_isRing : Room := { frames := 0, cells := 0, slots := 0, locals := 0 }
set_option maxHeartbeats 4000000 in
set_option maxRecDepth 100000 in
theorem mc_li_isRing (l : Launch) (dC : Nat → ClassId) (dI : Nat → Nat → Nat) (a : Nat → Nat) (cI cZ : ClassId) (sz : Nat) (x1 : Int32) (g : St) (post : Int32 → St → Prop) (h : wp_li_isRing x1 g post) : Met l yy_li_isRing ww_li_isRing rm_li_isRing (zz_Pre (dC, dI) (wC a cI cZ) [(cI, .int), (cZ, .boolean)] [.ref (a 3), .int x1] g sz) (va_Qi post (zz_W (dC, dI) (wC a cI cZ) [(cI, .int), (cZ, .boolean)] (va_A (wC a cI cZ g) sz)) (va_A (wC a cI cZ g) sz)) 0 0 (va_A (wC a cI cZ g) sz) := by
  refine Met.ofW (cc := cc_li_isRing) (maxL := 2) (ret := (some .boolean)) (by decide) rfl ?_
  intro p e s m args below meth c s₁ B hml hv
  obtain ⟨hav, hsz, hP, hK, hD0, hN⟩ := hv
  have hx := B.exec
  have hb := B.bytes
  have hr := B.returns
  have hts := atoms_spec (ws := ww_li_isRing) B.pre
  have hown : s.vm.findClass "SpotContours$Lines" = some m.cls := findClass_of_methodNamed B.named
  have hlocks := B.notSynchronized
  subst hsz
  have hD := hD0.self (sz := s.heap.size)
  generalize hAe : va_A (wC a cI cZ g) s.heap.size = A at hD ⊢
  have hA : ∀ q : Nat, s.heap.size ≤ q → A q := fun q h => by rw [← hAe]; exact Or.inr h
  have hS : va_S A s.heap s.heap [] := va_S.rf
  have he9 := lg_entry_eq m [.ref (a 3), .int x1] 2
  rw [← hav] at he9
  rw [he9]
  have hl := lv_entry [.ref (a 3), .int x1] (n := 2) (Nat.le_of_ble_eq_true rfl)
  generalize (lg_sl [.ref (a 3), .int x1] ++ List.replicate (2 - (lg_sl [.ref (a 3), .int x1]).length) Slot.unset).toArray = ls at hl ⊢
  have hl : lv_has ls 2 [(0, .ref (a 3)), (1, .int x1)] := hl
  have hin__li : ∀ w ∈ u_ws R_li T_li 6, w ∈ ww_li_isRing := fun w h => zz_in (hin0_li w h)
  have fl_22 := hts (.fieldLink "SpotContours$Lines" 22 "SpotContours$Lines" "rings" "[Z") (zz_in wm_358)
  unfold wp_li_isRing at h
  refine lv_aload_n hx hb d_li_isRing_0 rfl (lv_at hl 0 rfl) ?_
  refine va_get (D := (dC, dI)) (ci := 0) (v := .ref (a 13)) (C := R_li) (T := T_li) (N := 6) hx hb hts hin__li hown hK hP 3 (wC_3 a cI cZ g) rfl 3 (by decide) fl_22 (fun _ h9 => h9) rfl d_li_isRing_1 ?_
  refine lv_iload_n hx hb d_li_isRing_4 rfl (lv_at hl 1 rfl) ?_
  refine va_zald hx hb hK hP 13 1 (wC_13 a cI cZ g) rfl h.1 d_li_isRing_5 ?_
  have h := h.2
  exact W.zret (v := (g 13 (ix x1))) hx hb hr h.1 (fun t ht hW => ⟨⟨(g 13 (ix x1)), g, rfl, h.2, by rw [ht]; exact hP, va_K.moved hW.alike hK, hD⟩, hS.F ht⟩) hS.2.2 d_li_isRing_6
abbrev rm_li_pair : Room := { frames := 0, cells := 0, slots := 0, locals := 0 }
set_option maxHeartbeats 4000000 in
set_option maxRecDepth 100000 in
theorem mc_li_pair (l : Launch) (dC : Nat → ClassId) (dI : Nat → Nat → Nat) (a : Nat → Nat) (cI cZ : ClassId) (sz : Nat) (x1 : Int32) (x2 : Int32) (g : St) (post : Int32 → St → Prop) (h : wp_li_pair x1 x2 g post) : Met l yy_li_pair ww_li_pair rm_li_pair (zz_Pre (dC, dI) (wC a cI cZ) [(cI, .int), (cZ, .boolean)] [.ref (a 3), .int x1, .int x2] g sz) (va_Qi post (zz_W (dC, dI) (wC a cI cZ) [(cI, .int), (cZ, .boolean)] (va_A (wC a cI cZ g) sz)) (va_A (wC a cI cZ g) sz)) 0 0 (va_A (wC a cI cZ g) sz) := by
  refine Met.ofW (cc := cc_li_pair) (maxL := 3) (ret := (some .int)) (by decide) rfl ?_
  intro p e s m args below meth c s₁ B hml hv
  obtain ⟨hav, hsz, hP, hK, hD0, hN⟩ := hv
  have hx := B.exec
  have hb := B.bytes
  have hr := B.returns
  have hts := atoms_spec (ws := ww_li_pair) B.pre
  have hown : s.vm.findClass "SpotContours$Lines" = some m.cls := findClass_of_methodNamed B.named
  have hlocks := B.notSynchronized
  subst hsz
  have hD := hD0.self (sz := s.heap.size)
  generalize hAe : va_A (wC a cI cZ g) s.heap.size = A at hD ⊢
  have hA : ∀ q : Nat, s.heap.size ≤ q → A q := fun q h => by rw [← hAe]; exact Or.inr h
  have hS : va_S A s.heap s.heap [] := va_S.rf
  have he9 := lg_entry_eq m [.ref (a 3), .int x1, .int x2] 3
  rw [← hav] at he9
  rw [he9]
  have hl := lv_entry [.ref (a 3), .int x1, .int x2] (n := 3) (Nat.le_of_ble_eq_true rfl)
  generalize (lg_sl [.ref (a 3), .int x1, .int x2] ++ List.replicate (3 - (lg_sl [.ref (a 3), .int x1, .int x2]).length) Slot.unset).toArray = ls at hl ⊢
  have hl : lv_has ls 3 [(0, .ref (a 3)), (1, .int x1), (2, .int x2)] := hl
  have hin__li : ∀ w ∈ u_ws R_li T_li 6, w ∈ ww_li_pair := fun w h => zz_in (hin0_li w h)
  have fl_15 := hts (.fieldLink "SpotContours$Lines" 15 "SpotContours$Lines" "pairs" "[I") (zz_in wm_359)
  have fl_19 := hts (.fieldLink "SpotContours$Lines" 19 "SpotContours$Lines" "starts" "[I") (zz_in wm_357)
  unfold wp_li_pair at h
  refine lv_aload_n hx hb d_li_pair_0 rfl (lv_at hl 0 rfl) ?_
  refine va_get (D := (dC, dI)) (ci := 0) (v := .ref (a 11)) (C := R_li) (T := T_li) (N := 6) hx hb hts hin__li hown hK hP 3 (wC_3 a cI cZ g) rfl 1 (by decide) fl_15 (fun _ h9 => h9) rfl d_li_pair_1 ?_
  refine lv_aload_n hx hb d_li_pair_4 rfl (lv_at hl 0 rfl) ?_
  refine va_get (D := (dC, dI)) (ci := 0) (v := .ref (a 12)) (C := R_li) (T := T_li) (N := 6) hx hb hts hin__li hown hK hP 3 (wC_3 a cI cZ g) rfl 2 (by decide) fl_19 (fun _ h9 => h9) rfl d_li_pair_5 ?_
  refine lv_iload_n hx hb d_li_pair_8 rfl (lv_at hl 1 rfl) ?_
  refine va_iald hx hb hK hP 12 0 (wC_12 a cI cZ g) rfl h.1 d_li_pair_9 ?_
  have h := h.2
  refine lv_iload_n hx hb d_li_pair_10 rfl (lv_at hl 2 rfl) ?_
  refine lv_iadd hx hb d_li_pair_11 ?_
  refine va_iald hx hb hK hP 11 0 (wC_11 a cI cZ g) rfl h.1 d_li_pair_12 ?_
  have h := h.2
  exact W.iret (v := (g 11 (ix ((g 12 (ix x1)) + x2)))) hx hb hr (fun t ht hW => ⟨⟨(g 11 (ix ((g 12 (ix x1)) + x2))), g, rfl, h, by rw [ht]; exact hP, va_K.moved hW.alike hK, hD⟩, hS.F ht⟩) hS.2.2 d_li_pair_13
abbrev rm_sc_highOf : Room := { frames := 0, cells := 0, slots := 0, locals := 0 }
set_option maxHeartbeats 4000000 in
set_option maxRecDepth 100000 in
theorem mc_sc_highOf (l : Launch) (dC : Nat → ClassId) (dI : Nat → Nat → Nat) (a : Nat → Nat) (cI cZ : ClassId) (sz : Nat) (x0 : Int32) (g : St) (post : Int32 → St → Prop) (h : wp_sc_highOf x0 g post) : Met l yy_sc_highOf ww_sc_highOf rm_sc_highOf (zz_Pre (dC, dI) (wC a cI cZ) [(cI, .int), (cZ, .boolean)] [.int x0] g sz) (va_Qi post (zz_W (dC, dI) (wC a cI cZ) [(cI, .int), (cZ, .boolean)] (va_A (wC a cI cZ g) sz)) (va_A (wC a cI cZ g) sz)) 0 0 (va_A (wC a cI cZ g) sz) := by
  refine Met.ofW (cc := cc_sc_highOf) (maxL := 1) (ret := (some .int)) (by decide) rfl ?_
  intro p e s m args below meth c s₁ B hml hv
  obtain ⟨hav, hsz, hP, hK, hD0, hN⟩ := hv
  have hx := B.exec
  have hb := B.bytes
  have hr := B.returns
  have hts := atoms_spec (ws := ww_sc_highOf) B.pre
  have hown : s.vm.findClass "SpotContours" = some m.cls := findClass_of_methodNamed B.named
  have hlocks := B.notSynchronized
  subst hsz
  have hD := hD0.self (sz := s.heap.size)
  generalize hAe : va_A (wC a cI cZ g) s.heap.size = A at hD ⊢
  have hA : ∀ q : Nat, s.heap.size ≤ q → A q := fun q h => by rw [← hAe]; exact Or.inr h
  have hS : va_S A s.heap s.heap [] := va_S.rf
  have he9 := lg_entry_eq m [.int x0] 1
  rw [← hav] at he9
  rw [he9]
  have hl := lv_entry [.int x0] (n := 1) (Nat.le_of_ble_eq_true rfl)
  generalize (lg_sl [.int x0] ++ List.replicate (1 - (lg_sl [.int x0]).length) Slot.unset).toArray = ls at hl ⊢
  have hl : lv_has ls 1 [(0, .int x0)] := hl
  unfold wp_sc_highOf at h
  refine lv_iload_n hx hb d_sc_highOf_0 rfl (lv_at hl 0 rfl) ?_
  refine lv_bipush (v := 16) hx hb d_sc_highOf_1 (by decide) ?_
  refine lv_idiv hx hb d_sc_highOf_3 (by decide) ?_
  exact W.iret (v := (x0 / 16)) hx hb hr (fun t ht hW => ⟨⟨(x0 / 16), g, rfl, h, by rw [ht]; exact hP, va_K.moved hW.alike hK, hD⟩, hS.F ht⟩) hS.2.2 d_sc_highOf_4
abbrev rm_sp_x : Room := { frames := 0, cells := 0, slots := 0, locals := 0 }
set_option maxHeartbeats 4000000 in
set_option maxRecDepth 100000 in
theorem mc_sp_x (l : Launch) (dC : Nat → ClassId) (dI : Nat → Nat → Nat) (a : Nat → Nat) (cI cZ : ClassId) (sz : Nat) (x1 : Int32) (g : St) (post : Int32 → St → Prop) (h : wp_sp_x x1 g post) : Met l yy_sp_x ww_sp_x rm_sp_x (zz_Pre (dC, dI) (wC a cI cZ) [(cI, .int), (cZ, .boolean)] [.ref (a 1), .int x1] g sz) (va_Qi post (zz_W (dC, dI) (wC a cI cZ) [(cI, .int), (cZ, .boolean)] (va_A (wC a cI cZ g) sz)) (va_A (wC a cI cZ g) sz)) 0 0 (va_A (wC a cI cZ g) sz) := by
  refine Met.ofW (cc := cc_sp_x) (maxL := 2) (ret := (some .int)) (by decide) rfl ?_
  intro p e s m args below meth c s₁ B hml hv
  obtain ⟨hav, hsz, hP, hK, hD0, hN⟩ := hv
  have hx := B.exec
  have hb := B.bytes
  have hr := B.returns
  have hts := atoms_spec (ws := ww_sp_x) B.pre
  have hown : s.vm.findClass "SpotContours$Spots" = some m.cls := findClass_of_methodNamed B.named
  have hlocks := B.notSynchronized
  subst hsz
  have hD := hD0.self (sz := s.heap.size)
  generalize hAe : va_A (wC a cI cZ g) s.heap.size = A at hD ⊢
  have hA : ∀ q : Nat, s.heap.size ≤ q → A q := fun q h => by rw [← hAe]; exact Or.inr h
  have hS : va_S A s.heap s.heap [] := va_S.rf
  have he9 := lg_entry_eq m [.ref (a 1), .int x1] 2
  rw [← hav] at he9
  rw [he9]
  have hl := lv_entry [.ref (a 1), .int x1] (n := 2) (Nat.le_of_ble_eq_true rfl)
  generalize (lg_sl [.ref (a 1), .int x1] ++ List.replicate (2 - (lg_sl [.ref (a 1), .int x1]).length) Slot.unset).toArray = ls at hl ⊢
  have hl : lv_has ls 2 [(0, .ref (a 1)), (1, .int x1)] := hl
  have hin__sp : ∀ w ∈ u_ws R_sp T_sp 4, w ∈ ww_sp_x := fun w h => zz_in (hin0_sp w h)
  have fl_9 := hts (.fieldLink "SpotContours$Spots" 9 "SpotContours$Spots" "xs" "[I") (zz_in wm_360)
  unfold wp_sp_x at h
  refine lv_aload_n hx hb d_sp_x_0 rfl (lv_at hl 0 rfl) ?_
  refine va_get (D := (dC, dI)) (ci := 2) (v := .ref (a 5)) (C := R_sp) (T := T_sp) (N := 4) hx hb hts hin__sp hown hK hP 1 (wC_1 a cI cZ g) rfl 0 (by decide) fl_9 (fun _ h9 => h9) rfl d_sp_x_1 ?_
  refine lv_iload_n hx hb d_sp_x_4 rfl (lv_at hl 1 rfl) ?_
  refine va_iald hx hb hK hP 5 0 (wC_5 a cI cZ g) rfl h.1 d_sp_x_5 ?_
  have h := h.2
  exact W.iret (v := (g 5 (ix x1))) hx hb hr (fun t ht hW => ⟨⟨(g 5 (ix x1)), g, rfl, h, by rw [ht]; exact hP, va_K.moved hW.alike hK, hD⟩, hS.F ht⟩) hS.2.2 d_sp_x_6
abbrev rm_li_moreLeft : Room := { frames := 1, cells := 0, slots := 0, locals := 21 }
set_option maxHeartbeats 4000000 in
set_option maxRecDepth 100000 in
theorem mc_li_moreLeft (l : Launch) (dC : Nat → ClassId) (dI : Nat → Nat → Nat) (a : Nat → Nat) (cI cZ : ClassId) (sz : Nat) (x1 : Int32) (x2 : Int32) (g : St) (post : Int32 → St → Prop) (h : wp_li_moreLeft x1 x2 g post) : Met l yy_li_moreLeft ww_li_moreLeft rm_li_moreLeft (zz_Pre (dC, dI) (wC a cI cZ) [(cI, .int), (cZ, .boolean)] [.ref (a 1), .int x1, .int x2] g sz) (va_Qi post (zz_W (dC, dI) (wC a cI cZ) [(cI, .int), (cZ, .boolean)] (va_A (wC a cI cZ g) sz)) (va_A (wC a cI cZ g) sz)) 0 0 (va_A (wC a cI cZ g) sz) := by
  refine Met.ofW (cc := cc_li_moreLeft) (maxL := 3) (ret := (some .int)) (by decide) rfl ?_
  intro p e s m args below meth c s₁ B hml hv
  obtain ⟨hav, hsz, hP, hK, hD0, hN⟩ := hv
  have hx := B.exec
  have hb := B.bytes
  have hr := B.returns
  have hts := atoms_spec (ws := ww_li_moreLeft) B.pre
  have hown : s.vm.findClass "SpotContours$Lines" = some m.cls := findClass_of_methodNamed B.named
  have hlocks := B.notSynchronized
  subst hsz
  have hD := hD0.self (sz := s.heap.size)
  generalize hAe : va_A (wC a cI cZ g) s.heap.size = A at hD ⊢
  have hA : ∀ q : Nat, s.heap.size ≤ q → A q := fun q h => by rw [← hAe]; exact Or.inr h
  have hS : va_S A s.heap s.heap [] := va_S.rf
  have he9 := lg_entry_eq m [.ref (a 1), .int x1, .int x2] 3
  rw [← hav] at he9
  rw [he9]
  have hl := lv_entry [.ref (a 1), .int x1, .int x2] (n := 3) (Nat.le_of_ble_eq_true rfl)
  generalize (lg_sl [.ref (a 1), .int x1, .int x2] ++ List.replicate (3 - (lg_sl [.ref (a 1), .int x1, .int x2]).length) Slot.unset).toArray = ls at hl ⊢
  have hl : lv_has ls 3 [(0, .ref (a 1)), (1, .int x1), (2, .int x2)] := hl
  unfold wp_li_moreLeft at h
  refine lv_aload_n hx hb d_li_moreLeft_0 rfl (lv_at hl 0 rfl) ?_
  refine lv_iload_n hx hb d_li_moreLeft_1 rfl (lv_at hl 2 rfl) ?_
  refine zz_ci (va_runV (As := [.int x2]) (rest := []) ⟨hx, hb, hml, hown, hts⟩ (mc_sp_x l dC dI a cI cZ _ x2 g _ h) (zz_cwV 1 hts (zz_good wm_0) rfl rfl rfl wm_2 wm_3 wm_4 wm_1 (by decide +kernel) ⟨Nat.le_of_ble_eq_true rfl, Nat.le_of_ble_eq_true rfl⟩) ⟨zz_blind, (va_recv hK hP rfl (wC_1 a cI cZ g)), zz_pre hP hK hD hN⟩ rfl rfl hl.1 rfl (lv_room (Nat.le_of_ble_eq_true rfl)) d_li_moreLeft_2 ⟨Nat.le_of_ble_eq_true rfl, Nat.le_of_ble_eq_true rfl⟩) hD hS hA (fun r2 g1 H locs h hP hD hS => ?_)
  refine lv_aload_n hx hb d_li_moreLeft_5 rfl (lv_at hl 0 rfl) ?_
  refine lv_iload_n hx hb d_li_moreLeft_6 rfl (lv_at hl 1 rfl) ?_
  refine zz_ci (va_runV (As := [.int x1]) (rest := [.int r2]) ⟨hx, hb, hml, hown, hts⟩ (mc_sp_x l dC dI a cI cZ _ x1 g1 _ h) (zz_cwV 1 hts (zz_good wm_0) rfl rfl rfl wm_2 wm_3 wm_4 wm_1 (by decide +kernel) ⟨Nat.le_of_ble_eq_true rfl, Nat.le_of_ble_eq_true rfl⟩) ⟨zz_blind, (va_recv hK hP rfl (wC_1 a cI cZ g1)), zz_pre hP hK hD hN⟩ rfl rfl hl.1 rfl (lv_room (Nat.le_of_ble_eq_true rfl)) d_li_moreLeft_7 ⟨Nat.le_of_ble_eq_true rfl, Nat.le_of_ble_eq_true rfl⟩) hD hS hA (fun r4 g3 H locs h hP hD hS => ?_)
  refine lv_icmp_ge (tgt := 17) hx hb d_li_moreLeft_10 (by decide) (fun hc => ?_) (fun hc => ?_)
  · have h := h.1 hc
    refine lv_iload_n hx hb d_li_moreLeft_17 rfl (lv_at hl 1 rfl) ?_
    exact W.iret (v := x1) hx hb hr (fun t ht hW => ⟨⟨x1, g3, rfl, h, by rw [ht]; exact hP, va_K.moved hW.alike hK, hD⟩, hS.F ht⟩) hS.2.2 d_li_moreLeft_18
  · have h := h.2 hc
    refine lv_iload_n hx hb d_li_moreLeft_13 rfl (lv_at hl 2 rfl) ?_
    refine lv_goto (tgt := 18) hx hb d_li_moreLeft_14 (by decide) ?_
    exact W.iret (v := x2) hx hb hr (fun t ht hW => ⟨⟨x2, g3, rfl, h, by rw [ht]; exact hP, va_K.moved hW.alike hK, hD⟩, hS.F ht⟩) hS.2.2 d_li_moreLeft_18
abbrev rm_sc_lowOf : Room := { frames := 0, cells := 0, slots := 0, locals := 0 }
set_option maxHeartbeats 4000000 in
set_option maxRecDepth 100000 in
theorem mc_sc_lowOf (l : Launch) (dC : Nat → ClassId) (dI : Nat → Nat → Nat) (a : Nat → Nat) (cI cZ : ClassId) (sz : Nat) (x0 : Int32) (g : St) (post : Int32 → St → Prop) (h : wp_sc_lowOf x0 g post) : Met l yy_sc_lowOf ww_sc_lowOf rm_sc_lowOf (zz_Pre (dC, dI) (wC a cI cZ) [(cI, .int), (cZ, .boolean)] [.int x0] g sz) (va_Qi post (zz_W (dC, dI) (wC a cI cZ) [(cI, .int), (cZ, .boolean)] (va_A (wC a cI cZ g) sz)) (va_A (wC a cI cZ g) sz)) 0 0 (va_A (wC a cI cZ g) sz) := by
  refine Met.ofW (cc := cc_sc_lowOf) (maxL := 1) (ret := (some .int)) (by decide) rfl ?_
  intro p e s m args below meth c s₁ B hml hv
  obtain ⟨hav, hsz, hP, hK, hD0, hN⟩ := hv
  have hx := B.exec
  have hb := B.bytes
  have hr := B.returns
  have hts := atoms_spec (ws := ww_sc_lowOf) B.pre
  have hown : s.vm.findClass "SpotContours" = some m.cls := findClass_of_methodNamed B.named
  have hlocks := B.notSynchronized
  subst hsz
  have hD := hD0.self (sz := s.heap.size)
  generalize hAe : va_A (wC a cI cZ g) s.heap.size = A at hD ⊢
  have hA : ∀ q : Nat, s.heap.size ≤ q → A q := fun q h => by rw [← hAe]; exact Or.inr h
  have hS : va_S A s.heap s.heap [] := va_S.rf
  have he9 := lg_entry_eq m [.int x0] 1
  rw [← hav] at he9
  rw [he9]
  have hl := lv_entry [.int x0] (n := 1) (Nat.le_of_ble_eq_true rfl)
  generalize (lg_sl [.int x0] ++ List.replicate (1 - (lg_sl [.int x0]).length) Slot.unset).toArray = ls at hl ⊢
  have hl : lv_has ls 1 [(0, .int x0)] := hl
  unfold wp_sc_lowOf at h
  refine lv_iload_n hx hb d_sc_lowOf_0 rfl (lv_at hl 0 rfl) ?_
  refine lv_bipush (v := 16) hx hb d_sc_lowOf_1 (by decide) ?_
  refine lv_irem hx hb d_sc_lowOf_3 (by decide) ?_
  exact W.iret (v := (x0 - x0 / 16 * 16)) hx hb hr (fun t ht hW => ⟨⟨(x0 - x0 / 16 * 16), g, rfl, h, by rw [ht]; exact hP, va_K.moved hW.alike hK, hD⟩, hS.F ht⟩) hS.2.2 d_sc_lowOf_4
abbrev rm_li_isHollow : Room := { frames := 2, cells := 0, slots := 0, locals := 43 }
set_option maxHeartbeats 4000000 in
set_option maxRecDepth 100000 in
theorem mc_li_isHollow (l : Launch) (dC : Nat → ClassId) (dI : Nat → Nat → Nat) (a : Nat → Nat) (cI cZ : ClassId) (sz : Nat) (x2 : Int32) (g : St) (post : Int32 → St → Prop) (h : wp_li_isHollow x2 g post) : Met l yy_li_isHollow ww_li_isHollow rm_li_isHollow (zz_Pre (dC, dI) (wC a cI cZ) [(cI, .int), (cZ, .boolean)] [.ref (a 3), .ref (a 1), .int x2] g sz) (va_Qi post (zz_W (dC, dI) (wC a cI cZ) [(cI, .int), (cZ, .boolean)] (va_A (wC a cI cZ g) sz)) (va_A (wC a cI cZ g) sz)) 0 0 (va_A (wC a cI cZ g) sz) := by
  refine Met.ofW (cc := cc_li_isHollow) (maxL := 5) (ret := (some .boolean)) (by decide) rfl ?_
  intro p e s m args below meth c s₁ B hml hv
  obtain ⟨hav, hsz, hP, hK, hD0, hN⟩ := hv
  have hx := B.exec
  have hb := B.bytes
  have hr := B.returns
  have hts := atoms_spec (ws := ww_li_isHollow) B.pre
  have hown : s.vm.findClass "SpotContours$Lines" = some m.cls := findClass_of_methodNamed B.named
  have hlocks := B.notSynchronized
  subst hsz
  have hD := hD0.self (sz := s.heap.size)
  generalize hAe : va_A (wC a cI cZ g) s.heap.size = A at hD ⊢
  have hA : ∀ q : Nat, s.heap.size ≤ q → A q := fun q h => by rw [← hAe]; exact Or.inr h
  have hS : va_S A s.heap s.heap [] := va_S.rf
  have he9 := lg_entry_eq m [.ref (a 3), .ref (a 1), .int x2] 5
  rw [← hav] at he9
  rw [he9]
  have hl := lv_entry [.ref (a 3), .ref (a 1), .int x2] (n := 5) (Nat.le_of_ble_eq_true rfl)
  generalize (lg_sl [.ref (a 3), .ref (a 1), .int x2] ++ List.replicate (5 - (lg_sl [.ref (a 3), .ref (a 1), .int x2]).length) Slot.unset).toArray = ls at hl ⊢
  have hl : lv_has ls 5 [(0, .ref (a 3)), (1, .ref (a 1)), (2, .int x2)] := hl
  have hin__li : ∀ w ∈ u_ws R_li T_li 6, w ∈ ww_li_isHollow := fun w h => zz_in (hin0_li w h)
  have fl_9 := hts (.fieldLink "SpotContours$Lines" 9 "SpotContours$Lines" "isHigh" "[Z") (zz_in wm_361)
  have L13 : ∀ (n : Nat) (v2 : Int32) (v3 : Int32) (v4 : Int32) (g : St) (K61 : Int32 → St → Prop) , (∀ (v3 : Int32) (g : St), K61 v3 g → ∀ (H : Heap) (locs : List Loc) (ls : Array Slot), va_P (dC, dI) zzCl (wC a cI cZ g) H → va_D A (wC a cI cZ g) → va_S A s.heap H locs → lv_has ls 5 [(0, .ref (a 3)), (3, .int v3)] → W p l e (headSpec ww_li_isHollow rm_li_isHollow).room s m args below meth c H locs 0 0 (zz_Qi below (dC, dI) (wC a cI cZ) [(cI, .int), (cZ, .boolean)] A post args s) (F0 m 61 ls [])) → lp_li_isHollow_L13 n v2 v3 v4 g K61 post → ∀ (H : Heap) (locs : List Loc) (ls : Array Slot), va_P (dC, dI) zzCl (wC a cI cZ g) H → va_D A (wC a cI cZ g) → va_S A s.heap H locs → lv_has ls 5 [(0, .ref (a 3)), (1, .ref (a 1)), (2, .int v2), (3, .int v3), (4, .int v4)] → W p l e (headSpec ww_li_isHollow rm_li_isHollow).room s m args below meth c H locs 0 0 (zz_Qi below (dC, dI) (wC a cI cZ) [(cI, .int), (cZ, .boolean)] A post args s) (F0 m 13 ls []) := by
    intro n
    induction n with
    | zero => intro v2 v3 v4 g K61 hK61 h; exact h.elim
    | succ n ih =>
      intro v2 v3 v4 g K61 hK61 h H locs ls hP hD hS hl
      unfold lp_li_isHollow_L13 at h
      refine lv_iload hx hb d_li_isHollow_13 (lv_at hl 4 rfl) ?_
      refine lv_aload_n hx hb d_li_isHollow_15 rfl (lv_at hl 0 rfl) ?_
      refine lv_iload_n hx hb d_li_isHollow_16 rfl (lv_at hl 2 rfl) ?_
      refine zz_ci (va_runV (As := [.int v2]) (rest := [.int v4]) ⟨hx, hb, hml, hown, hts⟩ (mc_li_length l dC dI a cI cZ _ v2 g _ h) (zz_cwV 1 hts (zz_good wm_18) rfl rfl rfl wm_19 wm_20 wm_21 wm_6 (by decide +kernel) ⟨Nat.le_of_ble_eq_true rfl, Nat.le_of_ble_eq_true rfl⟩) ⟨zz_blind, (va_recv hK hP rfl (wC_3 a cI cZ g)), zz_pre hP hK hD hN⟩ rfl rfl hl.1 rfl (lv_room (Nat.le_of_ble_eq_true rfl)) d_li_isHollow_17 ⟨Nat.le_of_ble_eq_true rfl, Nat.le_of_ble_eq_true rfl⟩) hD hS hA (fun r6 g5 H locs h hP hD hS => ?_)
      refine lv_icmp_ge (tgt := 61) hx hb d_li_isHollow_20 (by decide) (fun hc => ?_) (fun hc => ?_)
      · have h := h.1 hc
        exact hK61 _ _ h _ _ _ hP hD hS (lv_sub hl [0, 3] rfl)
      · have h := h.2 hc
        refine lv_aload_n hx hb d_li_isHollow_23 rfl (lv_at hl 1 rfl) ?_
        refine lv_iload_n hx hb d_li_isHollow_24 rfl (lv_at hl 3 rfl) ?_
        refine lv_aload_n hx hb d_li_isHollow_25 rfl (lv_at hl 0 rfl) ?_
        refine lv_iload_n hx hb d_li_isHollow_26 rfl (lv_at hl 2 rfl) ?_
        refine lv_iload hx hb d_li_isHollow_27 (lv_at hl 4 rfl) ?_
        refine zz_ci (va_runV (As := [.int v2, .int v4]) (rest := [.int v3, .ref (a 1)]) ⟨hx, hb, hml, hown, hts⟩ (mc_li_pair l dC dI a cI cZ _ v2 v4 g5 _ h) (zz_cwV 2 hts (zz_good wm_12) rfl rfl rfl wm_13 wm_14 wm_15 wm_6 (by decide +kernel) ⟨Nat.le_of_ble_eq_true rfl, Nat.le_of_ble_eq_true rfl⟩) ⟨zz_blind, (va_recv hK hP rfl (wC_3 a cI cZ g5)), zz_pre hP hK hD hN⟩ rfl rfl hl.1 rfl (lv_room (Nat.le_of_ble_eq_true rfl)) d_li_isHollow_29 ⟨Nat.le_of_ble_eq_true rfl, Nat.le_of_ble_eq_true rfl⟩) hD hS hA (fun r8 g7 H locs h hP hD hS => ?_)
        refine zz_ci (va_runSN (As := [.int r8]) (rest := [.int v3, .ref (a 1)]) ⟨hx, hb, hml, hown, hts⟩ (mc_sc_highOf l dC dI a cI cZ _ r8 g7 _ h) (zz_cwSN 1 hts (zz_good wm_16) rfl rfl rfl hN.1.1 wm_17 wm_10 (by decide +kernel) ⟨Nat.le_of_ble_eq_true rfl, Nat.le_of_ble_eq_true rfl⟩) ⟨zz_blind, zz_pre hP hK hD hN⟩ rfl rfl hl.1 rfl (lv_room (Nat.le_of_ble_eq_true rfl)) d_li_isHollow_32 ⟨Nat.le_of_ble_eq_true rfl, Nat.le_of_ble_eq_true rfl⟩) hD hS hA (fun r10 g9 H locs h hP hD hS => ?_)
        refine zz_ci (va_runS (As := [.ref (a 1), .int v3, .int r10]) (rest := []) ⟨hx, hb, hml, hown, hts⟩ (mc_li_moreLeft l dC dI a cI cZ _ v3 r10 g9 _ h) (zz_cwS 3 hts (zz_good wm_5) rfl rfl rfl wm_7 wm_8 wm_6 (by decide +kernel) ⟨Nat.le_of_ble_eq_true rfl, Nat.le_of_ble_eq_true rfl⟩) ⟨zz_blind, zz_pre hP hK hD hN⟩ rfl rfl hl.1 rfl (lv_room (Nat.le_of_ble_eq_true rfl)) d_li_isHollow_35 ⟨Nat.le_of_ble_eq_true rfl, Nat.le_of_ble_eq_true rfl⟩) hD hS hA (fun r12 g11 H locs h hP hD hS => ?_)
        refine lv_istore_n (lv' := [(3, .int r12), (0, .ref (a 3)), (1, .ref (a 1)), (2, .int v2), (4, .int v4)]) hx hb d_li_isHollow_38 rfl hl (by decide) rfl (fun ls hl => ?_)
        refine lv_aload_n hx hb d_li_isHollow_39 rfl (lv_at hl 2 rfl) ?_
        refine lv_iload_n hx hb d_li_isHollow_40 rfl (lv_at hl 0 rfl) ?_
        refine lv_aload_n hx hb d_li_isHollow_41 rfl (lv_at hl 1 rfl) ?_
        refine lv_iload_n hx hb d_li_isHollow_42 rfl (lv_at hl 3 rfl) ?_
        refine lv_iload hx hb d_li_isHollow_43 (lv_at hl 4 rfl) ?_
        refine zz_ci (va_runV (As := [.int v2, .int v4]) (rest := [.int r12, .ref (a 1)]) ⟨hx, hb, hml, hown, hts⟩ (mc_li_pair l dC dI a cI cZ _ v2 v4 g11 _ h) (zz_cwV 2 hts (zz_good wm_12) rfl rfl rfl wm_13 wm_14 wm_15 wm_6 (by decide +kernel) ⟨Nat.le_of_ble_eq_true rfl, Nat.le_of_ble_eq_true rfl⟩) ⟨zz_blind, (va_recv hK hP rfl (wC_3 a cI cZ g11)), zz_pre hP hK hD hN⟩ rfl rfl hl.1 rfl (lv_room (Nat.le_of_ble_eq_true rfl)) d_li_isHollow_45 ⟨Nat.le_of_ble_eq_true rfl, Nat.le_of_ble_eq_true rfl⟩) hD hS hA (fun r14 g13 H locs h hP hD hS => ?_)
        refine zz_ci (va_runSN (As := [.int r14]) (rest := [.int r12, .ref (a 1)]) ⟨hx, hb, hml, hown, hts⟩ (mc_sc_lowOf l dC dI a cI cZ _ r14 g13 _ h) (zz_cwSN 1 hts (zz_good wm_9) rfl rfl rfl hN.1.2.1 wm_11 wm_10 (by decide +kernel) ⟨Nat.le_of_ble_eq_true rfl, Nat.le_of_ble_eq_true rfl⟩) ⟨zz_blind, zz_pre hP hK hD hN⟩ rfl rfl hl.1 rfl (lv_room (Nat.le_of_ble_eq_true rfl)) d_li_isHollow_48 ⟨Nat.le_of_ble_eq_true rfl, Nat.le_of_ble_eq_true rfl⟩) hD hS hA (fun r16 g15 H locs h hP hD hS => ?_)
        refine zz_ci (va_runS (As := [.ref (a 1), .int r12, .int r16]) (rest := []) ⟨hx, hb, hml, hown, hts⟩ (mc_li_moreLeft l dC dI a cI cZ _ r12 r16 g15 _ h) (zz_cwS 3 hts (zz_good wm_5) rfl rfl rfl wm_7 wm_8 wm_6 (by decide +kernel) ⟨Nat.le_of_ble_eq_true rfl, Nat.le_of_ble_eq_true rfl⟩) ⟨zz_blind, zz_pre hP hK hD hN⟩ rfl rfl hl.1 rfl (lv_room (Nat.le_of_ble_eq_true rfl)) d_li_isHollow_51 ⟨Nat.le_of_ble_eq_true rfl, Nat.le_of_ble_eq_true rfl⟩) hD hS hA (fun r18 g17 H locs h hP hD hS => ?_)
        refine lv_istore_n (lv' := [(3, .int r18), (0, .ref (a 3)), (1, .ref (a 1)), (2, .int v2), (4, .int v4)]) hx hb d_li_isHollow_54 rfl hl (by decide) rfl (fun ls hl => ?_)
        refine lv_iinc (k := 4) (v := (v4 + 1)) (lv' := [(4, .int (v4 + 1)), (3, .int r18), (0, .ref (a 3)), (1, .ref (a 1)), (2, .int v2)]) hx hb d_li_isHollow_55 hl rfl rfl (by decide) rfl (fun ls hl => ?_)
        refine lv_goto (tgt := 13) hx hb d_li_isHollow_58 (by decide) ?_
        exact ih _ _ _ _ _ hK61 h _ _ _ hP hD hS (lv_sub hl [2, 3, 4, 1, 0] rfl)
  unfold wp_li_isHollow at h
  refine lv_aload_n hx hb d_li_isHollow_0 rfl (lv_at hl 0 rfl) ?_
  refine lv_iload_n hx hb d_li_isHollow_1 rfl (lv_at hl 2 rfl) ?_
  refine lv_iconst (v := 0) hx hb d_li_isHollow_2 (by decide) ?_
  refine zz_ci (va_runV (As := [.int x2, .int 0]) (rest := []) ⟨hx, hb, hml, hown, hts⟩ (mc_li_pair l dC dI a cI cZ _ x2 0 g _ h) (zz_cwV 2 hts (zz_good wm_12) rfl rfl rfl wm_13 wm_14 wm_15 wm_6 (by decide +kernel) ⟨Nat.le_of_ble_eq_true rfl, Nat.le_of_ble_eq_true rfl⟩) ⟨zz_blind, (va_recv hK hP rfl (wC_3 a cI cZ g)), zz_pre hP hK hD hN⟩ rfl rfl hl.1 rfl (lv_room (Nat.le_of_ble_eq_true rfl)) d_li_isHollow_3 ⟨Nat.le_of_ble_eq_true rfl, Nat.le_of_ble_eq_true rfl⟩) hD hS hA (fun r2 g1 H locs h hP hD hS => ?_)
  refine zz_ci (va_runSN (As := [.int r2]) (rest := []) ⟨hx, hb, hml, hown, hts⟩ (mc_sc_highOf l dC dI a cI cZ _ r2 g1 _ h) (zz_cwSN 1 hts (zz_good wm_16) rfl rfl rfl hN.1.1 wm_17 wm_10 (by decide +kernel) ⟨Nat.le_of_ble_eq_true rfl, Nat.le_of_ble_eq_true rfl⟩) ⟨zz_blind, zz_pre hP hK hD hN⟩ rfl rfl hl.1 rfl (lv_room (Nat.le_of_ble_eq_true rfl)) d_li_isHollow_6 ⟨Nat.le_of_ble_eq_true rfl, Nat.le_of_ble_eq_true rfl⟩) hD hS hA (fun r4 g3 H locs h hP hD hS => ?_)
  refine lv_istore_n (lv' := [(3, .int r4), (0, .ref (a 3)), (1, .ref (a 1)), (2, .int x2)]) hx hb d_li_isHollow_9 rfl hl (by decide) rfl (fun ls hl => ?_)
  refine lv_iconst (v := 0) hx hb d_li_isHollow_10 (by decide) ?_
  refine lv_istore (lv' := [(4, .int 0), (3, .int r4), (0, .ref (a 3)), (1, .ref (a 1)), (2, .int x2)]) hx hb d_li_isHollow_11 hl (by decide) rfl (fun ls hl => ?_)
  obtain ⟨n13, h⟩ := h
  refine L13 n13 _ _ _ _ _ (fun w20 g19 h H locs ls hP hD hS hl => ?_) h _ _ _ hP hD hS (lv_sub hl [2, 3, 4, 1, 0] rfl)
  refine lv_aload_n hx hb d_li_isHollow_61 rfl (lv_at hl 0 rfl) ?_
  refine va_get (D := (dC, dI)) (ci := 0) (v := .ref (a 10)) (C := R_li) (T := T_li) (N := 6) hx hb hts hin__li hown hK hP 3 (wC_3 a cI cZ g19) rfl 0 (by decide) fl_9 (fun _ h9 => h9) rfl d_li_isHollow_62 ?_
  refine lv_iload_n hx hb d_li_isHollow_65 rfl (lv_at hl 1 rfl) ?_
  refine va_zald hx hb hK hP 10 1 (wC_10 a cI cZ g19) rfl h.1 d_li_isHollow_66 ?_
  have h := h.2
  exact W.zret (v := (g19 10 (ix w20))) hx hb hr h.1 (fun t ht hW => ⟨⟨(g19 10 (ix w20)), g19, rfl, h.2, by rw [ht]; exact hP, va_K.moved hW.alike hK, hD⟩, hS.F ht⟩) hS.2.2 d_li_isHollow_67
abbrev rm_li_clear : Room := { frames := 0, cells := 0, slots := 0, locals := 0 }
set_option maxHeartbeats 4000000 in
set_option maxRecDepth 100000 in
theorem mc_li_clear (l : Launch) (dC : Nat → ClassId) (dI : Nat → Nat → Nat) (a : Nat → Nat) (cI cZ : ClassId) (sz : Nat) (g : St) (post : St → Prop) (h : wp_li_clear  g post) : Met l yy_li_clear ww_li_clear rm_li_clear (zz_Pre (dC, dI) (wC a cI cZ) [(cI, .int), (cZ, .boolean)] [.ref (a 3)] g sz) (va_Qv post (zz_W (dC, dI) (wC a cI cZ) [(cI, .int), (cZ, .boolean)] (va_A (wC a cI cZ g) sz)) (va_A (wC a cI cZ g) sz)) 0 0 (va_A (wC a cI cZ g) sz) := by
  refine Met.ofW (cc := cc_li_clear) (maxL := 2) (ret := none) (by decide) rfl ?_
  intro p e s m args below meth c s₁ B hml hv
  obtain ⟨hav, hsz, hP, hK, hD0, hN⟩ := hv
  have hx := B.exec
  have hb := B.bytes
  have hr := B.returns
  have hts := atoms_spec (ws := ww_li_clear) B.pre
  have hown : s.vm.findClass "SpotContours$Lines" = some m.cls := findClass_of_methodNamed B.named
  have hlocks := B.notSynchronized
  subst hsz
  have hD := hD0.self (sz := s.heap.size)
  generalize hAe : va_A (wC a cI cZ g) s.heap.size = A at hD ⊢
  have hA : ∀ q : Nat, s.heap.size ≤ q → A q := fun q h => by rw [← hAe]; exact Or.inr h
  have hS : va_S A s.heap s.heap [] := va_S.rf
  have he9 := lg_entry_eq m [.ref (a 3)] 2
  rw [← hav] at he9
  rw [he9]
  have hl := lv_entry [.ref (a 3)] (n := 2) (Nat.le_of_ble_eq_true rfl)
  generalize (lg_sl [.ref (a 3)] ++ List.replicate (2 - (lg_sl [.ref (a 3)]).length) Slot.unset).toArray = ls at hl ⊢
  have hl : lv_has ls 2 [(0, .ref (a 3))] := hl
  have hin__li : ∀ w ∈ u_ws R_li T_li 6, w ∈ ww_li_clear := fun w h => zz_in (hin0_li w h)
  have fl_25 := hts (.fieldLink "SpotContours$Lines" 25 "SpotContours$Lines" "isTraced" "[Z") (zz_in wm_362)
  have fl_28 := hts (.fieldLink "SpotContours$Lines" 28 "SpotContours$Lines" "count" "I") (zz_in wm_356)
  have L7 : ∀ (n : Nat) (v1 : Int32) (g : St) (K27 : St → Prop) , (∀ (g : St), K27 g → ∀ (H : Heap) (locs : List Loc) (ls : Array Slot), va_P (dC, dI) zzCl (wC a cI cZ g) H → va_D A (wC a cI cZ g) → va_S A s.heap H locs → lv_has ls 2 [] → W p l e (headSpec ww_li_clear rm_li_clear).room s m args below meth c H locs 0 0 (zz_Qv below (dC, dI) (wC a cI cZ) [(cI, .int), (cZ, .boolean)] A post args s) (F0 m 27 ls [])) → lp_li_clear_L7 n v1 g K27 post → ∀ (H : Heap) (locs : List Loc) (ls : Array Slot), va_P (dC, dI) zzCl (wC a cI cZ g) H → va_D A (wC a cI cZ g) → va_S A s.heap H locs → lv_has ls 2 [(0, .ref (a 3)), (1, .int v1)] → W p l e (headSpec ww_li_clear rm_li_clear).room s m args below meth c H locs 0 0 (zz_Qv below (dC, dI) (wC a cI cZ) [(cI, .int), (cZ, .boolean)] A post args s) (F0 m 7 ls []) := by
    intro n
    induction n with
    | zero => intro v1 g K27 hK27 h; exact h.elim
    | succ n ih =>
      intro v1 g K27 hK27 h H locs ls hP hD hS hl
      unfold lp_li_clear_L7 at h
      refine lv_iload_n hx hb d_li_clear_7 rfl (lv_at hl 1 rfl) ?_
      refine lv_sipush (v := 256) hx hb d_li_clear_8 (by decide) ?_
      refine lv_icmp_ge (tgt := 27) hx hb d_li_clear_11 (by decide) (fun hc => ?_) (fun hc => ?_)
      · have h := h.1 hc
        exact hK27 _ h _ _ _ hP hD hS (lv_sub hl [] rfl)
      · have h := h.2 hc
        refine lv_aload_n hx hb d_li_clear_14 rfl (lv_at hl 0 rfl) ?_
        refine va_get (D := (dC, dI)) (ci := 0) (v := .ref (a 14)) (C := R_li) (T := T_li) (N := 6) hx hb hts hin__li hown hK hP 3 (wC_3 a cI cZ g) rfl 4 (by decide) fl_25 (fun _ h9 => h9) rfl d_li_clear_15 ?_
        refine lv_iload_n hx hb d_li_clear_18 rfl (lv_at hl 1 rfl) ?_
        refine lv_iconst (v := 0) hx hb d_li_clear_19 (by decide) ?_
        refine va_zast hx hb hK hP hD hS 14 1 (wC_14 a cI cZ g) rfl h.1 d_li_clear_20 (fun H locs hP hD hS => ?_)
        obtain ⟨g2, e_g2⟩ : ∃ z : St, z = gp g 14 (ix v1) (vp_nar .boolean 0) := ⟨_, rfl⟩
        have h := h.2 g2 e_g2
        have hP : va_P (dC, dI) zzCl (wC a cI cZ g2) H := by rw [e_g2]; exact hP
        have hD : va_D A (wC a cI cZ g2) := by rw [e_g2]; exact hD
        refine lv_iinc (k := 1) (v := (v1 + 1)) (lv' := [(1, .int (v1 + 1)), (0, .ref (a 3))]) hx hb d_li_clear_21 hl rfl rfl (by decide) rfl (fun ls hl => ?_)
        refine lv_goto (tgt := 7) hx hb d_li_clear_24 (by decide) ?_
        exact ih _ _ _ hK27 h _ _ _ hP hD hS (lv_sub hl [1, 0] rfl)
  unfold wp_li_clear at h
  refine lv_aload_n hx hb d_li_clear_0 rfl (lv_at hl 0 rfl) ?_
  refine lv_iconst (v := 0) hx hb d_li_clear_1 (by decide) ?_
  refine va_put (D := (dC, dI)) (ci := 0) (v := .int 0) (ty := .int) (C := R_li) (T := T_li) (N := 6) hx hb hts hin__li ty_li tok_li nmd_li hown hK hP hD hS 3 (wC_3 a cI cZ g) rfl 5 (by decide) fl_28 (fun _ h9 => h9) rfl (by decide +kernel) rfl rfl (Nat.le_of_ble_eq_true rfl) d_li_clear_2 (fun H locs hP hD hS => ?_)
  obtain ⟨g1, e_g1⟩ : ∃ z : St, z = gp g 3 5 0 := ⟨_, rfl⟩
  have h := h g1 e_g1
  have hP : va_P (dC, dI) zzCl (wC a cI cZ g1) H := by rw [e_g1]; exact hP
  have hD : va_D A (wC a cI cZ g1) := by rw [e_g1]; exact hD
  refine lv_iconst (v := 0) hx hb d_li_clear_5 (by decide) ?_
  refine lv_istore_n (lv' := [(1, .int 0), (0, .ref (a 3))]) hx hb d_li_clear_6 rfl hl (by decide) rfl (fun ls hl => ?_)
  obtain ⟨n7, h⟩ := h
  refine L7 n7 _ _ _ (fun g3 h H locs ls hP hD hS hl => ?_) h _ _ _ hP hD hS (lv_sub hl [1, 0] rfl)
  exact W.vret hx hb hr (fun t ht hW => ⟨⟨g3, rfl, h, by rw [ht]; exact hP, va_K.moved hW.alike hK, hD⟩, hS.F ht⟩) hS.2.2 d_li_clear_27
abbrev rm_sp_size : Room := { frames := 0, cells := 0, slots := 0, locals := 0 }
set_option maxHeartbeats 4000000 in
set_option maxRecDepth 100000 in
theorem mc_sp_size (l : Launch) (dC : Nat → ClassId) (dI : Nat → Nat → Nat) (a : Nat → Nat) (cI cZ : ClassId) (sz : Nat) (g : St) (post : Int32 → St → Prop) (h : wp_sp_size  g post) : Met l yy_sp_size ww_sp_size rm_sp_size (zz_Pre (dC, dI) (wC a cI cZ) [(cI, .int), (cZ, .boolean)] [.ref (a 1)] g sz) (va_Qi post (zz_W (dC, dI) (wC a cI cZ) [(cI, .int), (cZ, .boolean)] (va_A (wC a cI cZ g) sz)) (va_A (wC a cI cZ g) sz)) 0 0 (va_A (wC a cI cZ g) sz) := by
  refine Met.ofW (cc := cc_sp_size) (maxL := 1) (ret := (some .int)) (by decide) rfl ?_
  intro p e s m args below meth c s₁ B hml hv
  obtain ⟨hav, hsz, hP, hK, hD0, hN⟩ := hv
  have hx := B.exec
  have hb := B.bytes
  have hr := B.returns
  have hts := atoms_spec (ws := ww_sp_size) B.pre
  have hown : s.vm.findClass "SpotContours$Spots" = some m.cls := findClass_of_methodNamed B.named
  have hlocks := B.notSynchronized
  subst hsz
  have hD := hD0.self (sz := s.heap.size)
  generalize hAe : va_A (wC a cI cZ g) s.heap.size = A at hD ⊢
  have hA : ∀ q : Nat, s.heap.size ≤ q → A q := fun q h => by rw [← hAe]; exact Or.inr h
  have hS : va_S A s.heap s.heap [] := va_S.rf
  have he9 := lg_entry_eq m [.ref (a 1)] 1
  rw [← hav] at he9
  rw [he9]
  have hl := lv_entry [.ref (a 1)] (n := 1) (Nat.le_of_ble_eq_true rfl)
  generalize (lg_sl [.ref (a 1)] ++ List.replicate (1 - (lg_sl [.ref (a 1)]).length) Slot.unset).toArray = ls at hl ⊢
  have hl : lv_has ls 1 [(0, .ref (a 1))] := hl
  have hin__sp : ∀ w ∈ u_ws R_sp T_sp 4, w ∈ ww_sp_size := fun w h => zz_in (hin0_sp w h)
  have fl_21 := hts (.fieldLink "SpotContours$Spots" 21 "SpotContours$Spots" "count" "I") (zz_in wm_363)
  unfold wp_sp_size at h
  refine lv_aload_n hx hb d_sp_size_0 rfl (lv_at hl 0 rfl) ?_
  refine va_get (D := (dC, dI)) (ci := 2) (v := .int (g 1 3)) (C := R_sp) (T := T_sp) (N := 4) hx hb hts hin__sp hown hK hP 1 (wC_1 a cI cZ g) rfl 3 (by decide) fl_21 (fun _ h9 => h9) rfl d_sp_size_1 ?_
  exact W.iret (v := (g 1 3)) hx hb hr (fun t ht hW => ⟨⟨(g 1 3), g, rfl, h, by rw [ht]; exact hP, va_K.moved hW.alike hK, hD⟩, hS.F ht⟩) hS.2.2 d_sp_size_4
abbrev rm_sp_height : Room := { frames := 0, cells := 0, slots := 0, locals := 0 }
set_option maxHeartbeats 4000000 in
set_option maxRecDepth 100000 in
theorem mc_sp_height (l : Launch) (dC : Nat → ClassId) (dI : Nat → Nat → Nat) (a : Nat → Nat) (cI cZ : ClassId) (sz : Nat) (x1 : Int32) (g : St) (post : Int32 → St → Prop) (h : wp_sp_height x1 g post) : Met l yy_sp_height ww_sp_height rm_sp_height (zz_Pre (dC, dI) (wC a cI cZ) [(cI, .int), (cZ, .boolean)] [.ref (a 1), .int x1] g sz) (va_Qi post (zz_W (dC, dI) (wC a cI cZ) [(cI, .int), (cZ, .boolean)] (va_A (wC a cI cZ g) sz)) (va_A (wC a cI cZ g) sz)) 0 0 (va_A (wC a cI cZ g) sz) := by
  refine Met.ofW (cc := cc_sp_height) (maxL := 2) (ret := (some .int)) (by decide) rfl ?_
  intro p e s m args below meth c s₁ B hml hv
  obtain ⟨hav, hsz, hP, hK, hD0, hN⟩ := hv
  have hx := B.exec
  have hb := B.bytes
  have hr := B.returns
  have hts := atoms_spec (ws := ww_sp_height) B.pre
  have hown : s.vm.findClass "SpotContours$Spots" = some m.cls := findClass_of_methodNamed B.named
  have hlocks := B.notSynchronized
  subst hsz
  have hD := hD0.self (sz := s.heap.size)
  generalize hAe : va_A (wC a cI cZ g) s.heap.size = A at hD ⊢
  have hA : ∀ q : Nat, s.heap.size ≤ q → A q := fun q h => by rw [← hAe]; exact Or.inr h
  have hS : va_S A s.heap s.heap [] := va_S.rf
  have he9 := lg_entry_eq m [.ref (a 1), .int x1] 2
  rw [← hav] at he9
  rw [he9]
  have hl := lv_entry [.ref (a 1), .int x1] (n := 2) (Nat.le_of_ble_eq_true rfl)
  generalize (lg_sl [.ref (a 1), .int x1] ++ List.replicate (2 - (lg_sl [.ref (a 1), .int x1]).length) Slot.unset).toArray = ls at hl ⊢
  have hl : lv_has ls 2 [(0, .ref (a 1)), (1, .int x1)] := hl
  have hin__sp : ∀ w ∈ u_ws R_sp T_sp 4, w ∈ ww_sp_height := fun w h => zz_in (hin0_sp w h)
  have fl_18 := hts (.fieldLink "SpotContours$Spots" 18 "SpotContours$Spots" "heights" "[I") (zz_in wm_364)
  unfold wp_sp_height at h
  refine lv_aload_n hx hb d_sp_height_0 rfl (lv_at hl 0 rfl) ?_
  refine va_get (D := (dC, dI)) (ci := 2) (v := .ref (a 7)) (C := R_sp) (T := T_sp) (N := 4) hx hb hts hin__sp hown hK hP 1 (wC_1 a cI cZ g) rfl 2 (by decide) fl_18 (fun _ h9 => h9) rfl d_sp_height_1 ?_
  refine lv_iload_n hx hb d_sp_height_4 rfl (lv_at hl 1 rfl) ?_
  refine va_iald hx hb hK hP 7 0 (wC_7 a cI cZ g) rfl h.1 d_sp_height_5 ?_
  have h := h.2
  exact W.iret (v := (g 7 (ix x1))) hx hb hr (fun t ht hW => ⟨⟨(g 7 (ix x1)), g, rfl, h, by rw [ht]; exact hP, va_K.moved hW.alike hK, hD⟩, hS.F ht⟩) hS.2.2 d_sp_height_6
abbrev rm_me_thirdRightOf : Room := { frames := 0, cells := 0, slots := 0, locals := 0 }
set_option maxHeartbeats 4000000 in
set_option maxRecDepth 100000 in
theorem mc_me_thirdRightOf (l : Launch) (dC : Nat → ClassId) (dI : Nat → Nat → Nat) (a : Nat → Nat) (cI cZ : ClassId) (sz : Nat) (x1 : Int32) (x2 : Int32) (g : St) (post : Int32 → St → Prop) (h : wp_me_thirdRightOf x1 x2 g post) : Met l yy_me_thirdRightOf ww_me_thirdRightOf rm_me_thirdRightOf (zz_Pre (dC, dI) (wC a cI cZ) [(cI, .int), (cZ, .boolean)] [.ref (a 2), .int x1, .int x2] g sz) (va_Qi post (zz_W (dC, dI) (wC a cI cZ) [(cI, .int), (cZ, .boolean)] (va_A (wC a cI cZ g) sz)) (va_A (wC a cI cZ g) sz)) 0 0 (va_A (wC a cI cZ g) sz) := by
  refine Met.ofW (cc := cc_me_thirdRightOf) (maxL := 3) (ret := (some .int)) (by decide) rfl ?_
  intro p e s m args below meth c s₁ B hml hv
  obtain ⟨hav, hsz, hP, hK, hD0, hN⟩ := hv
  have hx := B.exec
  have hb := B.bytes
  have hr := B.returns
  have hts := atoms_spec (ws := ww_me_thirdRightOf) B.pre
  have hown : s.vm.findClass "SpotContours$Mesh" = some m.cls := findClass_of_methodNamed B.named
  have hlocks := B.notSynchronized
  subst hsz
  have hD := hD0.self (sz := s.heap.size)
  generalize hAe : va_A (wC a cI cZ g) s.heap.size = A at hD ⊢
  have hA : ∀ q : Nat, s.heap.size ≤ q → A q := fun q h => by rw [← hAe]; exact Or.inr h
  have hS : va_S A s.heap s.heap [] := va_S.rf
  have he9 := lg_entry_eq m [.ref (a 2), .int x1, .int x2] 3
  rw [← hav] at he9
  rw [he9]
  have hl := lv_entry [.ref (a 2), .int x1, .int x2] (n := 3) (Nat.le_of_ble_eq_true rfl)
  generalize (lg_sl [.ref (a 2), .int x1, .int x2] ++ List.replicate (3 - (lg_sl [.ref (a 2), .int x1, .int x2]).length) Slot.unset).toArray = ls at hl ⊢
  have hl : lv_has ls 3 [(0, .ref (a 2)), (1, .int x1), (2, .int x2)] := hl
  have hin__me : ∀ w ∈ u_ws R_me T_me 3, w ∈ ww_me_thirdRightOf := fun w h => zz_in (hin0_me w h)
  have fl_15 := hts (.fieldLink "SpotContours$Mesh" 15 "SpotContours$Mesh" "rightOf" "[I") (zz_in wm_365)
  unfold wp_me_thirdRightOf at h
  refine lv_aload_n hx hb d_me_thirdRightOf_0 rfl (lv_at hl 0 rfl) ?_
  refine va_get (D := (dC, dI)) (ci := 1) (v := .ref (a 9)) (C := R_me) (T := T_me) (N := 3) hx hb hts hin__me hown hK hP 2 (wC_2 a cI cZ g) rfl 1 (by decide) fl_15 (fun _ h9 => h9) rfl d_me_thirdRightOf_1 ?_
  refine lv_bipush (v := 16) hx hb d_me_thirdRightOf_4 (by decide) ?_
  refine lv_iload_n hx hb d_me_thirdRightOf_6 rfl (lv_at hl 1 rfl) ?_
  refine lv_imul hx hb d_me_thirdRightOf_7 ?_
  refine lv_iload_n hx hb d_me_thirdRightOf_8 rfl (lv_at hl 2 rfl) ?_
  refine lv_iadd hx hb d_me_thirdRightOf_9 ?_
  refine va_iald hx hb hK hP 9 0 (wC_9 a cI cZ g) rfl h.1 d_me_thirdRightOf_10 ?_
  have h := h.2
  exact W.iret (v := (g 9 (ix ((16 * x1) + x2)))) hx hb hr (fun t ht hW => ⟨⟨(g 9 (ix ((16 * x1) + x2))), g, rfl, h, by rw [ht]; exact hP, va_K.moved hW.alike hK, hD⟩, hS.F ht⟩) hS.2.2 d_me_thirdRightOf_11
abbrev rm_me_sharing : Room := { frames := 1, cells := 0, slots := 0, locals := 22 }
set_option maxHeartbeats 4000000 in
set_option maxRecDepth 100000 in
theorem mc_me_sharing (l : Launch) (dC : Nat → ClassId) (dI : Nat → Nat → Nat) (a : Nat → Nat) (cI cZ : ClassId) (sz : Nat) (x1 : Int32) (x2 : Int32) (g : St) (post : Int32 → St → Prop) (h : wp_me_sharing x1 x2 g post) : Met l yy_me_sharing ww_me_sharing rm_me_sharing (zz_Pre (dC, dI) (wC a cI cZ) [(cI, .int), (cZ, .boolean)] [.ref (a 2), .int x1, .int x2] g sz) (va_Qi post (zz_W (dC, dI) (wC a cI cZ) [(cI, .int), (cZ, .boolean)] (va_A (wC a cI cZ g) sz)) (va_A (wC a cI cZ g) sz)) 0 0 (va_A (wC a cI cZ g) sz) := by
  refine Met.ofW (cc := cc_me_sharing) (maxL := 5) (ret := (some .int)) (by decide) rfl ?_
  intro p e s m args below meth c s₁ B hml hv
  obtain ⟨hav, hsz, hP, hK, hD0, hN⟩ := hv
  have hx := B.exec
  have hb := B.bytes
  have hr := B.returns
  have hts := atoms_spec (ws := ww_me_sharing) B.pre
  have hown : s.vm.findClass "SpotContours$Mesh" = some m.cls := findClass_of_methodNamed B.named
  have hlocks := B.notSynchronized
  subst hsz
  have hD := hD0.self (sz := s.heap.size)
  generalize hAe : va_A (wC a cI cZ g) s.heap.size = A at hD ⊢
  have hA : ∀ q : Nat, s.heap.size ≤ q → A q := fun q h => by rw [← hAe]; exact Or.inr h
  have hS : va_S A s.heap s.heap [] := va_S.rf
  have he9 := lg_entry_eq m [.ref (a 2), .int x1, .int x2] 5
  rw [← hav] at he9
  rw [he9]
  have hl := lv_entry [.ref (a 2), .int x1, .int x2] (n := 5) (Nat.le_of_ble_eq_true rfl)
  generalize (lg_sl [.ref (a 2), .int x1, .int x2] ++ List.replicate (5 - (lg_sl [.ref (a 2), .int x1, .int x2]).length) Slot.unset).toArray = ls at hl ⊢
  have hl : lv_has ls 5 [(0, .ref (a 2)), (1, .int x1), (2, .int x2)] := hl
  have J22 : ∀ (v1 : Int32) (v2 : Int32) (s0 : Int32) (g : St), jn_me_sharing_J22 v1 v2 s0 g post → ∀ (H : Heap) (locs : List Loc) (ls : Array Slot), va_P (dC, dI) zzCl (wC a cI cZ g) H → va_D A (wC a cI cZ g) → va_S A s.heap H locs → lv_has ls 5 [(0, .ref (a 2)), (1, .int v1), (2, .int v2)] → W p l e (headSpec ww_me_sharing rm_me_sharing).room s m args below meth c H locs 0 0 (zz_Qi below (dC, dI) (wC a cI cZ) [(cI, .int), (cZ, .boolean)] A post args s) (F0 m 22 ls [.int s0]) := by
    intro v1 v2 s0 g h H locs ls hP hD hS hl
    unfold jn_me_sharing_J22 at h
    refine lv_istore_n (lv' := [(3, .int s0), (0, .ref (a 2)), (1, .int v1), (2, .int v2)]) hx hb d_me_sharing_22 rfl hl (by decide) rfl (fun ls hl => ?_)
    refine lv_aload_n hx hb d_me_sharing_23 rfl (lv_at hl 1 rfl) ?_
    refine lv_iload_n hx hb d_me_sharing_24 rfl (lv_at hl 3 rfl) ?_
    refine lv_iload_n hx hb d_me_sharing_25 rfl (lv_at hl 2 rfl) ?_
    refine zz_ci (va_runV (As := [.int v2, .int v1]) (rest := []) ⟨hx, hb, hml, hown, hts⟩ (mc_me_thirdRightOf l dC dI a cI cZ _ v2 v1 g _ h) (zz_cwV 2 hts (zz_good wm_22) rfl rfl rfl wm_24 wm_25 wm_26 wm_23 (by decide +kernel) ⟨Nat.le_of_ble_eq_true rfl, Nat.le_of_ble_eq_true rfl⟩) ⟨zz_blind, (va_recv hK hP rfl (wC_2 a cI cZ g)), zz_pre hP hK hD hN⟩ rfl rfl hl.1 rfl (lv_room (Nat.le_of_ble_eq_true rfl)) d_me_sharing_26 ⟨Nat.le_of_ble_eq_true rfl, Nat.le_of_ble_eq_true rfl⟩) hD hS hA (fun r4 g3 H locs h hP hD hS => ?_)
    refine lv_iconst (v := (-1)) hx hb d_me_sharing_29 (by decide) ?_
    refine lv_icmp_ne (tgt := 37) hx hb d_me_sharing_30 (by decide) (fun hc => ?_) (fun hc => ?_)
    · have h := h.1 hc
      refine lv_iconst (v := 1) hx hb d_me_sharing_37 (by decide) ?_
      refine lv_istore (lv' := [(4, .int 1), (3, .int s0), (0, .ref (a 2)), (1, .int v1), (2, .int v2)]) hx hb d_me_sharing_38 hl (by decide) rfl (fun ls hl => ?_)
      refine lv_iload_n hx hb d_me_sharing_40 rfl (lv_at hl 1 rfl) ?_
      refine lv_iload hx hb d_me_sharing_41 (lv_at hl 0 rfl) ?_
      refine lv_iadd hx hb d_me_sharing_43 ?_
      exact W.iret (v := (s0 + 1)) hx hb hr (fun t ht hW => ⟨⟨(s0 + 1), g3, rfl, h, by rw [ht]; exact hP, va_K.moved hW.alike hK, hD⟩, hS.F ht⟩) hS.2.2 d_me_sharing_44
    · have h := h.2 hc
      refine lv_iconst (v := 0) hx hb d_me_sharing_33 (by decide) ?_
      refine lv_goto (tgt := 38) hx hb d_me_sharing_34 (by decide) ?_
      refine lv_istore (lv' := [(4, .int 0), (3, .int s0), (0, .ref (a 2)), (1, .int v1), (2, .int v2)]) hx hb d_me_sharing_38 hl (by decide) rfl (fun ls hl => ?_)
      refine lv_iload_n hx hb d_me_sharing_40 rfl (lv_at hl 1 rfl) ?_
      refine lv_iload hx hb d_me_sharing_41 (lv_at hl 0 rfl) ?_
      refine lv_iadd hx hb d_me_sharing_43 ?_
      exact W.iret (v := (s0 + 0)) hx hb hr (fun t ht hW => ⟨⟨(s0 + 0), g3, rfl, h, by rw [ht]; exact hP, va_K.moved hW.alike hK, hD⟩, hS.F ht⟩) hS.2.2 d_me_sharing_44
  unfold wp_me_sharing at h
  refine lv_iload_n hx hb d_me_sharing_0 rfl (lv_at hl 1 rfl) ?_
  refine lv_iload_n hx hb d_me_sharing_1 rfl (lv_at hl 2 rfl) ?_
  refine lv_icmp_ne (tgt := 7) hx hb d_me_sharing_2 (by decide) (fun hc => ?_) (fun hc => ?_)
  · have h := h.1 hc
    refine lv_aload_n hx hb d_me_sharing_7 rfl (lv_at hl 0 rfl) ?_
    refine lv_iload_n hx hb d_me_sharing_8 rfl (lv_at hl 1 rfl) ?_
    refine lv_iload_n hx hb d_me_sharing_9 rfl (lv_at hl 2 rfl) ?_
    refine zz_ci (va_runV (As := [.int x1, .int x2]) (rest := []) ⟨hx, hb, hml, hown, hts⟩ (mc_me_thirdRightOf l dC dI a cI cZ _ x1 x2 g _ h) (zz_cwV 2 hts (zz_good wm_22) rfl rfl rfl wm_24 wm_25 wm_26 wm_23 (by decide +kernel) ⟨Nat.le_of_ble_eq_true rfl, Nat.le_of_ble_eq_true rfl⟩) ⟨zz_blind, (va_recv hK hP rfl (wC_2 a cI cZ g)), zz_pre hP hK hD hN⟩ rfl rfl hl.1 rfl (lv_room (Nat.le_of_ble_eq_true rfl)) d_me_sharing_10 ⟨Nat.le_of_ble_eq_true rfl, Nat.le_of_ble_eq_true rfl⟩) hD hS hA (fun r2 g1 H locs h hP hD hS => ?_)
    refine lv_iconst (v := (-1)) hx hb d_me_sharing_13 (by decide) ?_
    refine lv_icmp_ne (tgt := 21) hx hb d_me_sharing_14 (by decide) (fun hc => ?_) (fun hc => ?_)
    · have h := h.1 hc
      refine lv_iconst (v := 1) hx hb d_me_sharing_21 (by decide) ?_
      exact J22 _ _ _ _ h _ _ _ hP hD hS (lv_sub hl [0, 1, 2] rfl)
    · have h := h.2 hc
      refine lv_iconst (v := 0) hx hb d_me_sharing_17 (by decide) ?_
      refine lv_goto (tgt := 22) hx hb d_me_sharing_18 (by decide) ?_
      exact J22 _ _ _ _ h _ _ _ hP hD hS (lv_sub hl [0, 1, 2] rfl)
  · have h := h.2 hc
    refine lv_iconst (v := 0) hx hb d_me_sharing_5 (by decide) ?_
    exact W.iret (v := 0) hx hb hr (fun t ht hW => ⟨⟨0, g, rfl, h, by rw [ht]; exact hP, va_K.moved hW.alike hK, hD⟩, hS.F ht⟩) hS.2.2 d_me_sharing_6
abbrev rm_li_otherPair : Room := { frames := 0, cells := 0, slots := 0, locals := 0 }
set_option maxHeartbeats 4000000 in
set_option maxRecDepth 100000 in
theorem mc_li_otherPair (l : Launch) (dC : Nat → ClassId) (dI : Nat → Nat → Nat) (a : Nat → Nat) (cI cZ : ClassId) (sz : Nat) (x1 : Int32) (x2 : Int32) (x3 : Int32) (g : St) (post : Int32 → St → Prop) (h : wp_li_otherPair x1 x2 x3 g post) : Met l yy_li_otherPair ww_li_otherPair rm_li_otherPair (zz_Pre (dC, dI) (wC a cI cZ) [(cI, .int), (cZ, .boolean)] [.ref (a 3), .int x1, .int x2, .int x3] g sz) (va_Qi post (zz_W (dC, dI) (wC a cI cZ) [(cI, .int), (cZ, .boolean)] (va_A (wC a cI cZ g) sz)) (va_A (wC a cI cZ g) sz)) 0 0 (va_A (wC a cI cZ g) sz) := by
  refine Met.ofW (cc := cc_li_otherPair) (maxL := 4) (ret := (some .int)) (by decide) rfl ?_
  intro p e s m args below meth c s₁ B hml hv
  obtain ⟨hav, hsz, hP, hK, hD0, hN⟩ := hv
  have hx := B.exec
  have hb := B.bytes
  have hr := B.returns
  have hts := atoms_spec (ws := ww_li_otherPair) B.pre
  have hown : s.vm.findClass "SpotContours$Lines" = some m.cls := findClass_of_methodNamed B.named
  have hlocks := B.notSynchronized
  subst hsz
  have hD := hD0.self (sz := s.heap.size)
  generalize hAe : va_A (wC a cI cZ g) s.heap.size = A at hD ⊢
  have hA : ∀ q : Nat, s.heap.size ≤ q → A q := fun q h => by rw [← hAe]; exact Or.inr h
  have hS : va_S A s.heap s.heap [] := va_S.rf
  have he9 := lg_entry_eq m [.ref (a 3), .int x1, .int x2, .int x3] 4
  rw [← hav] at he9
  rw [he9]
  have hl := lv_entry [.ref (a 3), .int x1, .int x2, .int x3] (n := 4) (Nat.le_of_ble_eq_true rfl)
  generalize (lg_sl [.ref (a 3), .int x1, .int x2, .int x3] ++ List.replicate (4 - (lg_sl [.ref (a 3), .int x1, .int x2, .int x3]).length) Slot.unset).toArray = ls at hl ⊢
  have hl : lv_has ls 4 [(0, .ref (a 3)), (1, .int x1), (2, .int x2), (3, .int x3)] := hl
  have hin__li : ∀ w ∈ u_ws R_li T_li 6, w ∈ ww_li_otherPair := fun w h => zz_in (hin0_li w h)
  have fl_9 := hts (.fieldLink "SpotContours$Lines" 9 "SpotContours$Lines" "isHigh" "[Z") (zz_in wm_361)
  unfold wp_li_otherPair at h
  refine lv_iload_n hx hb d_li_otherPair_0 rfl (lv_at hl 3 rfl) ?_
  refine lv_iconst (v := (-1)) hx hb d_li_otherPair_1 (by decide) ?_
  refine lv_icmp_ne (tgt := 7) hx hb d_li_otherPair_2 (by decide) (fun hc => ?_) (fun hc => ?_)
  · have h := h.1 hc
    refine lv_aload_n hx hb d_li_otherPair_7 rfl (lv_at hl 0 rfl) ?_
    refine va_get (D := (dC, dI)) (ci := 0) (v := .ref (a 10)) (C := R_li) (T := T_li) (N := 6) hx hb hts hin__li hown hK hP 3 (wC_3 a cI cZ g) rfl 0 (by decide) fl_9 (fun _ h9 => h9) rfl d_li_otherPair_8 ?_
    refine lv_iload_n hx hb d_li_otherPair_11 rfl (lv_at hl 3 rfl) ?_
    refine va_zald hx hb hK hP 10 1 (wC_10 a cI cZ g) rfl h.1 d_li_otherPair_12 ?_
    have h := h.2
    refine lv_if_eq (tgt := 25) hx hb d_li_otherPair_13 (by decide) (fun hc => ?_) (fun hc => ?_)
    · have h := h.1 hc
      refine lv_bipush (v := 16) hx hb d_li_otherPair_25 (by decide) ?_
      refine lv_iload_n hx hb d_li_otherPair_27 rfl (lv_at hl 1 rfl) ?_
      refine lv_imul hx hb d_li_otherPair_28 ?_
      refine lv_iload_n hx hb d_li_otherPair_29 rfl (lv_at hl 3 rfl) ?_
      refine lv_iadd hx hb d_li_otherPair_30 ?_
      exact W.iret (v := ((16 * x1) + x3)) hx hb hr (fun t ht hW => ⟨⟨((16 * x1) + x3), g, rfl, h, by rw [ht]; exact hP, va_K.moved hW.alike hK, hD⟩, hS.F ht⟩) hS.2.2 d_li_otherPair_31
    · have h := h.2 hc
      refine lv_bipush (v := 16) hx hb d_li_otherPair_16 (by decide) ?_
      refine lv_iload_n hx hb d_li_otherPair_18 rfl (lv_at hl 3 rfl) ?_
      refine lv_imul hx hb d_li_otherPair_19 ?_
      refine lv_iload_n hx hb d_li_otherPair_20 rfl (lv_at hl 2 rfl) ?_
      refine lv_iadd hx hb d_li_otherPair_21 ?_
      refine lv_goto (tgt := 31) hx hb d_li_otherPair_22 (by decide) ?_
      exact W.iret (v := ((16 * x3) + x2)) hx hb hr (fun t ht hW => ⟨⟨((16 * x3) + x2), g, rfl, h, by rw [ht]; exact hP, va_K.moved hW.alike hK, hD⟩, hS.F ht⟩) hS.2.2 d_li_otherPair_31
  · have h := h.2 hc
    refine lv_iconst (v := (-1)) hx hb d_li_otherPair_5 (by decide) ?_
    exact W.iret (v := (-1)) hx hb hr (fun t ht hW => ⟨⟨(-1), g, rfl, h, by rw [ht]; exact hP, va_K.moved hW.alike hK, hD⟩, hS.F ht⟩) hS.2.2 d_li_otherPair_6
abbrev rm_li_before : Room := { frames := 1, cells := 0, slots := 0, locals := 23 }
set_option maxHeartbeats 4000000 in
set_option maxRecDepth 100000 in
theorem mc_li_before (l : Launch) (dC : Nat → ClassId) (dI : Nat → Nat → Nat) (a : Nat → Nat) (cI cZ : ClassId) (sz : Nat) (x2 : Int32) (g : St) (post : Int32 → St → Prop) (h : wp_li_before x2 g post) : Met l yy_li_before ww_li_before rm_li_before (zz_Pre (dC, dI) (wC a cI cZ) [(cI, .int), (cZ, .boolean)] [.ref (a 3), .ref (a 2), .int x2] g sz) (va_Qi post (zz_W (dC, dI) (wC a cI cZ) [(cI, .int), (cZ, .boolean)] (va_A (wC a cI cZ g) sz)) (va_A (wC a cI cZ g) sz)) 0 0 (va_A (wC a cI cZ g) sz) := by
  refine Met.ofW (cc := cc_li_before) (maxL := 5) (ret := (some .int)) (by decide) rfl ?_
  intro p e s m args below meth c s₁ B hml hv
  obtain ⟨hav, hsz, hP, hK, hD0, hN⟩ := hv
  have hx := B.exec
  have hb := B.bytes
  have hr := B.returns
  have hts := atoms_spec (ws := ww_li_before) B.pre
  have hown : s.vm.findClass "SpotContours$Lines" = some m.cls := findClass_of_methodNamed B.named
  have hlocks := B.notSynchronized
  subst hsz
  have hD := hD0.self (sz := s.heap.size)
  generalize hAe : va_A (wC a cI cZ g) s.heap.size = A at hD ⊢
  have hA : ∀ q : Nat, s.heap.size ≤ q → A q := fun q h => by rw [← hAe]; exact Or.inr h
  have hS : va_S A s.heap s.heap [] := va_S.rf
  have he9 := lg_entry_eq m [.ref (a 3), .ref (a 2), .int x2] 5
  rw [← hav] at he9
  rw [he9]
  have hl := lv_entry [.ref (a 3), .ref (a 2), .int x2] (n := 5) (Nat.le_of_ble_eq_true rfl)
  generalize (lg_sl [.ref (a 3), .ref (a 2), .int x2] ++ List.replicate (5 - (lg_sl [.ref (a 3), .ref (a 2), .int x2]).length) Slot.unset).toArray = ls at hl ⊢
  have hl : lv_has ls 5 [(0, .ref (a 3)), (1, .ref (a 2)), (2, .int x2)] := hl
  unfold wp_li_before at h
  refine lv_iload_n hx hb d_li_before_0 rfl (lv_at hl 2 rfl) ?_
  refine zz_ci (va_runSN (As := [.int x2]) (rest := []) ⟨hx, hb, hml, hown, hts⟩ (mc_sc_highOf l dC dI a cI cZ _ x2 g _ h) (zz_cwSN 1 hts (zz_good wm_16) rfl rfl rfl hN.1.1 wm_17 wm_10 (by decide +kernel) ⟨Nat.le_of_ble_eq_true rfl, Nat.le_of_ble_eq_true rfl⟩) ⟨zz_blind, zz_pre hP hK hD hN⟩ rfl rfl hl.1 rfl (lv_room (Nat.le_of_ble_eq_true rfl)) d_li_before_1 ⟨Nat.le_of_ble_eq_true rfl, Nat.le_of_ble_eq_true rfl⟩) hD hS hA (fun r2 g1 H locs h hP hD hS => ?_)
  refine lv_istore_n (lv' := [(3, .int r2), (0, .ref (a 3)), (1, .ref (a 2)), (2, .int x2)]) hx hb d_li_before_4 rfl hl (by decide) rfl (fun ls hl => ?_)
  refine lv_iload_n hx hb d_li_before_5 rfl (lv_at hl 3 rfl) ?_
  refine zz_ci (va_runSN (As := [.int x2]) (rest := []) ⟨hx, hb, hml, hown, hts⟩ (mc_sc_lowOf l dC dI a cI cZ _ x2 g1 _ h) (zz_cwSN 1 hts (zz_good wm_9) rfl rfl rfl hN.1.2.1 wm_11 wm_10 (by decide +kernel) ⟨Nat.le_of_ble_eq_true rfl, Nat.le_of_ble_eq_true rfl⟩) ⟨zz_blind, zz_pre hP hK hD hN⟩ rfl rfl hl.1 rfl (lv_room (Nat.le_of_ble_eq_true rfl)) d_li_before_6 ⟨Nat.le_of_ble_eq_true rfl, Nat.le_of_ble_eq_true rfl⟩) hD hS hA (fun r4 g3 H locs h hP hD hS => ?_)
  refine lv_istore (lv' := [(4, .int r4), (3, .int r2), (0, .ref (a 3)), (1, .ref (a 2)), (2, .int x2)]) hx hb d_li_before_9 hl (by decide) rfl (fun ls hl => ?_)
  refine lv_aload_n hx hb d_li_before_11 rfl (lv_at hl 2 rfl) ?_
  refine lv_iload_n hx hb d_li_before_12 rfl (lv_at hl 1 rfl) ?_
  refine lv_iload hx hb d_li_before_13 (lv_at hl 0 rfl) ?_
  refine lv_aload_n hx hb d_li_before_15 rfl (lv_at hl 3 rfl) ?_
  refine lv_iload_n hx hb d_li_before_16 rfl (lv_at hl 1 rfl) ?_
  refine lv_iload hx hb d_li_before_17 (lv_at hl 0 rfl) ?_
  refine zz_ci (va_runV (As := [.int r2, .int r4]) (rest := [.int r4, .int r2, .ref (a 3)]) ⟨hx, hb, hml, hown, hts⟩ (mc_me_thirdRightOf l dC dI a cI cZ _ r2 r4 g3 _ h) (zz_cwV 2 hts (zz_good wm_22) rfl rfl rfl wm_31 wm_25 wm_26 wm_23 (by decide +kernel) ⟨Nat.le_of_ble_eq_true rfl, Nat.le_of_ble_eq_true rfl⟩) ⟨zz_blind, (va_recv hK hP rfl (wC_2 a cI cZ g3)), zz_pre hP hK hD hN⟩ rfl rfl hl.1 rfl (lv_room (Nat.le_of_ble_eq_true rfl)) d_li_before_19 ⟨Nat.le_of_ble_eq_true rfl, Nat.le_of_ble_eq_true rfl⟩) hD hS hA (fun r6 g5 H locs h hP hD hS => ?_)
  refine zz_ci (va_runV (As := [.int r2, .int r4, .int r6]) (rest := []) ⟨hx, hb, hml, hown, hts⟩ (mc_li_otherPair l dC dI a cI cZ _ r2 r4 r6 g5 _ h) (zz_cwV 3 hts (zz_good wm_27) rfl rfl rfl wm_28 wm_29 wm_30 wm_6 (by decide +kernel) ⟨Nat.le_of_ble_eq_true rfl, Nat.le_of_ble_eq_true rfl⟩) ⟨zz_blind, (va_recv hK hP rfl (wC_3 a cI cZ g5)), zz_pre hP hK hD hN⟩ rfl rfl hl.1 rfl (lv_room (Nat.le_of_ble_eq_true rfl)) d_li_before_22 ⟨Nat.le_of_ble_eq_true rfl, Nat.le_of_ble_eq_true rfl⟩) hD hS hA (fun r8 g7 H locs h hP hD hS => ?_)
  exact W.iret (v := r8) hx hb hr (fun t ht hW => ⟨⟨r8, g7, rfl, h, by rw [ht]; exact hP, va_K.moved hW.alike hK, hD⟩, hS.F ht⟩) hS.2.2 d_li_before_25
