/-! Contracts of methods that may throw, printed. -/
theorem zz_out3 {x : Int32} (h0 : ¬ x = 0) (h1 : ¬ x = 1) (h2 : ¬ x = 2) : x.toInt < 0 ∨ 2 < x.toInt := by
  by_cases a : x.toInt < 0
  · exact Or.inl a
  by_cases b : 2 < x.toInt
  · exact Or.inr b
  exfalso
  have c : x.toInt = 0 ∨ x.toInt = 1 ∨ x.toInt = 2 := by omega
  rcases c with c | c | c
  · exact h0 (Int32.toInt_inj.mp c)
  · exact h1 (Int32.toInt_inj.mp c)
  · exact h2 (Int32.toInt_inj.mp c)
theorem thf_0 : Bundle.fit (zz_xn 0) = true := by decide +kernel
theorem thl_0 : Cond.classLink "SpotContours" 48 (zz_xn 0) ∈ zz_B := wm_398
theorem thi_0 : Cond.initialized (zz_xn 0) ∈ zz_B := wm_399
theorem th1_0 : ∀ w ∈ (vx_at0 "SpotContours" 50 (zz_xn 0) zz_nm).filter goodWord, w ∈ zz_B := by decide +kernel
theorem th2_0 : ∀ w ∈ (vx_at0 "SpotContours" 50 (zz_xn 0) zz_nm).filter (fun w => !goodWord w), w ∈ zz_bad 0 := by decide +kernel
theorem th3_0 : ∀ w ∈ Cond.classLink "SpotContours" 48 (zz_xn 0) :: Cond.initialized (zz_xn 0) :: vx_at0 "SpotContours" 50 (zz_xn 0) zz_nm, vx_ot w = true := by decide +kernel
theorem thf_1 : Bundle.fit (zz_xn 1) = true := by decide +kernel
theorem thl_1 : Cond.classLink "SpotContours" 55 (zz_xn 1) ∈ zz_B := wm_400
theorem thi_1 : Cond.initialized (zz_xn 1) ∈ zz_B := wm_401
theorem th1_1 : ∀ w ∈ (vx_at0 "SpotContours" 57 (zz_xn 1) zz_nm).filter goodWord, w ∈ zz_B := by decide +kernel
theorem th2_1 : ∀ w ∈ (vx_at0 "SpotContours" 57 (zz_xn 1) zz_nm).filter (fun w => !goodWord w), w ∈ zz_bad 1 := by decide +kernel
theorem th3_1 : ∀ w ∈ Cond.classLink "SpotContours" 55 (zz_xn 1) :: Cond.initialized (zz_xn 1) :: vx_at0 "SpotContours" 57 (zz_xn 1) zz_nm, vx_ot w = true := by decide +kernel
theorem thf_2 : Bundle.fit (zz_xn 2) = true := by decide +kernel
theorem thl_2 : Cond.classLink "SpotContours" 73 (zz_xn 2) ∈ zz_B := wm_402
theorem thi_2 : Cond.initialized (zz_xn 2) ∈ zz_B := wm_403
theorem th1_2 : ∀ w ∈ (vx_at0 "SpotContours" 75 (zz_xn 2) zz_nm).filter goodWord, w ∈ zz_B := by decide +kernel
theorem th2_2 : ∀ w ∈ (vx_at0 "SpotContours" 75 (zz_xn 2) zz_nm).filter (fun w => !goodWord w), w ∈ zz_bad 2 := by decide +kernel
theorem th3_2 : ∀ w ∈ Cond.classLink "SpotContours" 73 (zz_xn 2) :: Cond.initialized (zz_xn 2) :: vx_at0 "SpotContours" 75 (zz_xn 2) zz_nm, vx_ot w = true := by decide +kernel
theorem thf_3 : Bundle.fit (zz_xn 3) = true := by decide +kernel
theorem thl_3 : Cond.classLink "SpotContours" 96 (zz_xn 3) ∈ zz_B := wm_404
theorem thi_3 : Cond.initialized (zz_xn 3) ∈ zz_B := wm_405
theorem th1_3 : ∀ w ∈ (vx_at0 "SpotContours" 98 (zz_xn 3) zz_nm).filter goodWord, w ∈ zz_B := by decide +kernel
theorem th2_3 : ∀ w ∈ (vx_at0 "SpotContours" 98 (zz_xn 3) zz_nm).filter (fun w => !goodWord w), w ∈ zz_bad 3 := by decide +kernel
theorem th3_3 : ∀ w ∈ Cond.classLink "SpotContours" 96 (zz_xn 3) :: Cond.initialized (zz_xn 3) :: vx_at0 "SpotContours" 98 (zz_xn 3) zz_nm, vx_ot w = true := by decide +kernel
abbrev rm_sc_spot : Room := { frames := 6, cells := 1, slots := 6, locals := 147 }
set_option maxHeartbeats 4000000 in
set_option maxRecDepth 100000 in
theorem mc_sc_spot (l : Launch) (hlt : l.stackTraces = false) (dC : Nat → ClassId) (dI : Nat → Nat → Nat) (a : Nat → Nat) (cI cZ : ClassId) (sz : Nat) (x1 : Int32) (x2 : Int32) (x3 : Int32) (g : St) (post : Int32 → St → Prop) (px : Nat → St → Prop) (h : wp_sc_spot x1 x2 x3 g post px) : vx_Met l yy_sc_spot ww_sc_spot rm_sc_spot (zz_PreX (dC, dI) (wC a cI cZ) [(cI, .int), (cZ, .boolean)] [.ref (a 0), .int x1, .int x2, .int x3] g sz) (va_Qi post (zz_W (dC, dI) (wC a cI cZ) [(cI, .int), (cZ, .boolean)] (va_A (wC a cI cZ g) sz)) (va_A (wC a cI cZ g) sz)) (zz_X (dC, dI) (wC a cI cZ) [(cI, .int), (cZ, .boolean)] (va_A (wC a cI cZ g) sz) px) 1 (6 * 1) (va_A (wC a cI cZ g) sz) := by
  refine vx_ofW (cc := cc_sc_spot) (maxL := 5) (ret := (some .int)) (by decide) rfl ?_
  intro p e s m args below meth c s₁ B hml hout hv
  obtain ⟨hav, hsz, hP, hK, hD0, hN, hU⟩ := hv
  have hx := B.exec
  have hb := B.bytes
  have hr := B.returns
  have hts := atoms_spec (ws := ww_sc_spot) B.pre
  have hown : s.vm.findClass "SpotContours" = some m.cls := findClass_of_methodNamed B.named
  have hlocks := B.notSynchronized
  subst hsz
  have hD := hD0.self (sz := s.heap.size)
  generalize hAe : va_A (wC a cI cZ g) s.heap.size = A at hD hU ⊢
  have hA : ∀ q : Nat, s.heap.size ≤ q → A q := fun q h => by rw [← hAe]; exact Or.inr h
  have hS : va_S A s.heap s.heap [] := va_S.rf
  have he9 := lg_entry_eq m [.ref (a 0), .int x1, .int x2, .int x3] 5
  rw [← hav] at he9
  rw [he9]
  have hl := lv_entry [.ref (a 0), .int x1, .int x2, .int x3] (n := 5) (Nat.le_of_ble_eq_true rfl)
  generalize (lg_sl [.ref (a 0), .int x1, .int x2, .int x3] ++ List.replicate (5 - (lg_sl [.ref (a 0), .int x1, .int x2, .int x3]).length) Slot.unset).toArray = ls at hl ⊢
  have hl : lv_has ls 5 [(0, .ref (a 0)), (1, .int x1), (2, .int x2), (3, .int x3)] := hl
  have hin__sc : ∀ w ∈ u_ws R_sc T_sc 4, w ∈ ww_sc_spot := fun w h => zz_in (hin0_sc w h)
  have fl_12 := hts (.fieldLink "SpotContours" 12 "SpotContours" "spots" "LSpotContours$Spots;") (zz_in wm_373)
  have fl_19 := hts (.fieldLink "SpotContours" 19 "SpotContours" "mesh" "LSpotContours$Mesh;") (zz_in wm_374)
  have fl_33 := hts (.fieldLink "SpotContours" 33 "SpotContours" "tags" "LSpotContours$Tags;") (zz_in wm_375)
  unfold wp_sc_spot at h
  refine lv_iload_n hx hb d_sc_spot_0 rfl (lv_at hl 1 rfl) ?_
  refine lv_iload_n hx hb d_sc_spot_1 rfl (lv_at hl 2 rfl) ?_
  refine zz_ci (va_runS (As := [.int x1, .int x2]) (rest := []) ⟨hx, hb, hml, hown, hts⟩ (mc_sc_isOnMap l dC dI a cI cZ _ x1 x2 g _ h) (zz_cwS 2 hts (zz_good wm_154) rfl rfl rfl wm_155 wm_156 wm_10 (by decide +kernel) ⟨Nat.le_of_ble_eq_true rfl, Nat.le_of_ble_eq_true rfl⟩) ⟨zz_blind, zz_pre hP hK hD hN⟩ rfl rfl hl.1 rfl (lv_room (Nat.le_of_ble_eq_true rfl)) d_sc_spot_2 ⟨Nat.le_of_ble_eq_true rfl, Nat.le_of_ble_eq_true rfl⟩) hD hS hA (fun r2 g1 H locs h hP hD hS => ?_)
  refine lv_if_eq (tgt := 27) hx hb d_sc_spot_5 (by decide) (fun hc => ?_) (fun hc => ?_)
  · have h := h.1 hc
    exact zz_thr 0 hx hb hlt hown hts hN hU hP hK hD hS thf_0 thl_0 thi_0 th1_0 th2_0 th3_0 (hl.1.trans hml.symm) d_sc_spot_27 d_sc_spot_30 d_sc_spot_31 d_sc_spot_34 hout (Nat.le_of_ble_eq_true rfl) (Nat.le_of_ble_eq_true rfl) (Nat.le_of_ble_eq_true rfl) (Nat.le_of_ble_eq_true rfl) hlocks (Nat.le_of_ble_eq_true rfl) (Nat.le_of_ble_eq_true rfl) h
  · have h := h.2 hc
    refine lv_iload_n hx hb d_sc_spot_8 rfl (lv_at hl 3 rfl) ?_
    refine zz_ci (va_runS (As := [.int x3]) (rest := []) ⟨hx, hb, hml, hown, hts⟩ (mc_sc_isHeight l dC dI a cI cZ _ x3 g1 _ h) (zz_cwS 1 hts (zz_good wm_151) rfl rfl rfl wm_152 wm_153 wm_10 (by decide +kernel) ⟨Nat.le_of_ble_eq_true rfl, Nat.le_of_ble_eq_true rfl⟩) ⟨zz_blind, zz_pre hP hK hD hN⟩ rfl rfl hl.1 rfl (lv_room (Nat.le_of_ble_eq_true rfl)) d_sc_spot_9 ⟨Nat.le_of_ble_eq_true rfl, Nat.le_of_ble_eq_true rfl⟩) hD hS hA (fun r4 g3 H locs h hP hD hS => ?_)
    refine lv_if_eq (tgt := 27) hx hb d_sc_spot_12 (by decide) (fun hc => ?_) (fun hc => ?_)
    · have h := h.1 hc
      exact zz_thr 0 hx hb hlt hown hts hN hU hP hK hD hS thf_0 thl_0 thi_0 th1_0 th2_0 th3_0 (hl.1.trans hml.symm) d_sc_spot_27 d_sc_spot_30 d_sc_spot_31 d_sc_spot_34 hout (Nat.le_of_ble_eq_true rfl) (Nat.le_of_ble_eq_true rfl) (Nat.le_of_ble_eq_true rfl) (Nat.le_of_ble_eq_true rfl) hlocks (Nat.le_of_ble_eq_true rfl) (Nat.le_of_ble_eq_true rfl) h
    · have h := h.2 hc
      refine lv_aload_n hx hb d_sc_spot_15 rfl (lv_at hl 0 rfl) ?_
      refine va_get (D := (dC, dI)) (ci := 4) (v := .ref (a 1)) (C := R_sc) (T := T_sc) (N := 4) hx hb hts hin__sc hown hK hP 0 (wC_0 a cI cZ g3) rfl 0 (by decide) fl_12 (fun _ h9 => h9) rfl d_sc_spot_16 ?_
      refine lv_iload_n hx hb d_sc_spot_19 rfl (lv_at hl 1 rfl) ?_
      refine lv_iload_n hx hb d_sc_spot_20 rfl (lv_at hl 2 rfl) ?_
      refine zz_ci (va_runV (As := [.int x1, .int x2]) (rest := []) ⟨hx, hb, hml, hown, hts⟩ (mc_sp_isTaken l dC dI a cI cZ _ x1 x2 g3 _ h) (zz_cwV 2 hts (zz_good wm_147) rfl rfl rfl wm_148 wm_149 wm_150 wm_1 (by decide +kernel) ⟨Nat.le_of_ble_eq_true rfl, Nat.le_of_ble_eq_true rfl⟩) ⟨zz_blind, (va_recv hK hP rfl (wC_1 a cI cZ g3)), zz_pre hP hK hD hN⟩ rfl rfl hl.1 rfl (lv_room (Nat.le_of_ble_eq_true rfl)) d_sc_spot_21 ⟨Nat.le_of_ble_eq_true rfl, Nat.le_of_ble_eq_true rfl⟩) hD hS hA (fun r6 g5 H locs h hP hD hS => ?_)
      refine lv_if_eq (tgt := 35) hx hb d_sc_spot_24 (by decide) (fun hc => ?_) (fun hc => ?_)
      · have h := h.1 hc
        refine lv_aload_n hx hb d_sc_spot_35 rfl (lv_at hl 0 rfl) ?_
        refine va_get (D := (dC, dI)) (ci := 4) (v := .ref (a 1)) (C := R_sc) (T := T_sc) (N := 4) hx hb hts hin__sc hown hK hP 0 (wC_0 a cI cZ g5) rfl 0 (by decide) fl_12 (fun _ h9 => h9) rfl d_sc_spot_36 ?_
        refine zz_ci (va_runV (As := []) (rest := []) ⟨hx, hb, hml, hown, hts⟩ (mc_sp_size l dC dI a cI cZ _  g5 _ h) (zz_cwV 0 hts (zz_good wm_48) rfl rfl rfl wm_146 wm_50 wm_51 wm_1 (by decide +kernel) ⟨Nat.le_of_ble_eq_true rfl, Nat.le_of_ble_eq_true rfl⟩) ⟨zz_blind, (va_recv hK hP rfl (wC_1 a cI cZ g5)), zz_pre hP hK hD hN⟩ rfl rfl hl.1 rfl (lv_room (Nat.le_of_ble_eq_true rfl)) d_sc_spot_39 ⟨Nat.le_of_ble_eq_true rfl, Nat.le_of_ble_eq_true rfl⟩) hD hS hA (fun r8 g7 H locs h hP hD hS => ?_)
        refine lv_bipush (v := 16) hx hb d_sc_spot_42 (by decide) ?_
        refine lv_icmp_lt (tgt := 55) hx hb d_sc_spot_44 (by decide) (fun hc => ?_) (fun hc => ?_)
        · have h := h.1 hc
          refine lv_aload_n hx hb d_sc_spot_55 rfl (lv_at hl 0 rfl) ?_
          refine va_get (D := (dC, dI)) (ci := 4) (v := .ref (a 1)) (C := R_sc) (T := T_sc) (N := 4) hx hb hts hin__sc hown hK hP 0 (wC_0 a cI cZ g7) rfl 0 (by decide) fl_12 (fun _ h9 => h9) rfl d_sc_spot_56 ?_
          refine lv_iload_n hx hb d_sc_spot_59 rfl (lv_at hl 1 rfl) ?_
          refine lv_iload_n hx hb d_sc_spot_60 rfl (lv_at hl 2 rfl) ?_
          refine lv_iload_n hx hb d_sc_spot_61 rfl (lv_at hl 3 rfl) ?_
          refine zz_ci (va_runV (As := [.int x1, .int x2, .int x3]) (rest := []) ⟨hx, hb, hml, hown, hts⟩ (mc_sp_add l dC dI a cI cZ _ x1 x2 x3 g7 _ h) (zz_cwV 3 hts (zz_good wm_142) rfl rfl rfl wm_143 wm_144 wm_145 wm_1 (by decide +kernel) ⟨Nat.le_of_ble_eq_true rfl, Nat.le_of_ble_eq_true rfl⟩) ⟨zz_blind, (va_recv hK hP rfl (wC_1 a cI cZ g7)), zz_pre hP hK hD hN⟩ rfl rfl hl.1 rfl (lv_room (Nat.le_of_ble_eq_true rfl)) d_sc_spot_62 ⟨Nat.le_of_ble_eq_true rfl, Nat.le_of_ble_eq_true rfl⟩) hD hS hA (fun r10 g9 H locs h hP hD hS => ?_)
          refine lv_istore (lv' := [(4, .int r10), (0, .ref (a 0)), (1, .int x1), (2, .int x2), (3, .int x3)]) hx hb d_sc_spot_65 hl (by decide) rfl (fun ls hl => ?_)
          refine lv_aload_n hx hb d_sc_spot_67 rfl (lv_at hl 1 rfl) ?_
          refine va_get (D := (dC, dI)) (ci := 4) (v := .ref (a 2)) (C := R_sc) (T := T_sc) (N := 4) hx hb hts hin__sc hown hK hP 0 (wC_0 a cI cZ g9) rfl 1 (by decide) fl_19 (fun _ h9 => h9) rfl d_sc_spot_68 ?_
          refine lv_aload_n hx hb d_sc_spot_71 rfl (lv_at hl 1 rfl) ?_
          refine va_get (D := (dC, dI)) (ci := 4) (v := .ref (a 1)) (C := R_sc) (T := T_sc) (N := 4) hx hb hts hin__sc hown hK hP 0 (wC_0 a cI cZ g9) rfl 0 (by decide) fl_12 (fun _ h9 => h9) rfl d_sc_spot_72 ?_
          refine zz_cv (va_runV (As := [.ref (a 1)]) (rest := []) ⟨hx, hb, hml, hown, hts⟩ (mc_me_rebuild l dC dI a cI cZ _  g9 _ h) (zz_cwV 1 hts (zz_good wm_138) rfl rfl rfl wm_139 wm_140 wm_141 wm_23 (by decide +kernel) ⟨Nat.le_of_ble_eq_true rfl, Nat.le_of_ble_eq_true rfl⟩) ⟨zz_blind, (va_recv hK hP rfl (wC_2 a cI cZ g9)), zz_pre hP hK hD hN⟩ rfl rfl hl.1 rfl (lv_room (Nat.le_of_ble_eq_true rfl)) d_sc_spot_75 ⟨Nat.le_of_ble_eq_true rfl, Nat.le_of_ble_eq_true rfl⟩) hD hS hA (fun g11 H locs h hP hD hS => ?_)
          refine lv_aload_n hx hb d_sc_spot_78 rfl (lv_at hl 1 rfl) ?_
          refine va_get (D := (dC, dI)) (ci := 4) (v := .ref (a 4)) (C := R_sc) (T := T_sc) (N := 4) hx hb hts hin__sc hown hK hP 0 (wC_0 a cI cZ g11) rfl 3 (by decide) fl_33 (fun _ h9 => h9) rfl d_sc_spot_79 ?_
          refine lv_iconst (v := 0) hx hb d_sc_spot_82 (by decide) ?_
          refine zz_cv (va_runV (As := [.int 0]) (rest := []) ⟨hx, hb, hml, hown, hts⟩ (mc_ta_cutTo l dC dI a cI cZ _ 0 g11 _ h) (zz_cwV 1 hts (zz_good wm_133) rfl rfl rfl wm_135 wm_136 wm_137 wm_134 (by decide +kernel) ⟨Nat.le_of_ble_eq_true rfl, Nat.le_of_ble_eq_true rfl⟩) ⟨zz_blind, (va_recv hK hP rfl (wC_4 a cI cZ g11)), zz_pre hP hK hD hN⟩ rfl rfl hl.1 rfl (lv_room (Nat.le_of_ble_eq_true rfl)) d_sc_spot_83 ⟨Nat.le_of_ble_eq_true rfl, Nat.le_of_ble_eq_true rfl⟩) hD hS hA (fun g12 H locs h hP hD hS => ?_)
          refine lv_iload hx hb d_sc_spot_86 (lv_at hl 0 rfl) ?_
          refine vx_ret ?_
          refine W.widen (k := 1) (n := 6 * 1) (Nat.le_of_ble_eq_true rfl) (Nat.le_of_ble_eq_true rfl) ?_
          exact W.iret (v := r10) hx hb hr (fun t ht hW => ⟨⟨r10, g12, rfl, h, by rw [ht]; exact hP, va_K.moved hW.alike hK, hD⟩, hS.F ht⟩) hS.2.2 d_sc_spot_88
        · have h := h.2 hc
          exact zz_thr 1 hx hb hlt hown hts hN hU hP hK hD hS thf_1 thl_1 thi_1 th1_1 th2_1 th3_1 (hl.1.trans hml.symm) d_sc_spot_47 d_sc_spot_50 d_sc_spot_51 d_sc_spot_54 hout (Nat.le_of_ble_eq_true rfl) (Nat.le_of_ble_eq_true rfl) (Nat.le_of_ble_eq_true rfl) (Nat.le_of_ble_eq_true rfl) hlocks (Nat.le_of_ble_eq_true rfl) (Nat.le_of_ble_eq_true rfl) h
      · have h := h.2 hc
        exact zz_thr 0 hx hb hlt hown hts hN hU hP hK hD hS thf_0 thl_0 thi_0 th1_0 th2_0 th3_0 (hl.1.trans hml.symm) d_sc_spot_27 d_sc_spot_30 d_sc_spot_31 d_sc_spot_34 hout (Nat.le_of_ble_eq_true rfl) (Nat.le_of_ble_eq_true rfl) (Nat.le_of_ble_eq_true rfl) (Nat.le_of_ble_eq_true rfl) hlocks (Nat.le_of_ble_eq_true rfl) (Nat.le_of_ble_eq_true rfl) h
abbrev rm_sc_raise : Room := { frames := 6, cells := 1, slots := 6, locals := 81 }
set_option maxHeartbeats 4000000 in
set_option maxRecDepth 100000 in
theorem mc_sc_raise (l : Launch) (hlt : l.stackTraces = false) (dC : Nat → ClassId) (dI : Nat → Nat → Nat) (a : Nat → Nat) (cI cZ : ClassId) (sz : Nat) (x1 : Int32) (x2 : Int32) (g : St) (post : Int32 → St → Prop) (px : Nat → St → Prop) (h : wp_sc_raise x1 x2 g post px) : vx_Met l yy_sc_raise ww_sc_raise rm_sc_raise (zz_PreX (dC, dI) (wC a cI cZ) [(cI, .int), (cZ, .boolean)] [.ref (a 0), .int x1, .int x2] g sz) (va_Qi post (zz_W (dC, dI) (wC a cI cZ) [(cI, .int), (cZ, .boolean)] (va_A (wC a cI cZ g) sz)) (va_A (wC a cI cZ g) sz)) (zz_X (dC, dI) (wC a cI cZ) [(cI, .int), (cZ, .boolean)] (va_A (wC a cI cZ g) sz) px) 1 (6 * 1) (va_A (wC a cI cZ g) sz) := by
  refine vx_ofW (cc := cc_sc_raise) (maxL := 4) (ret := (some .int)) (by decide) rfl ?_
  intro p e s m args below meth c s₁ B hml hout hv
  obtain ⟨hav, hsz, hP, hK, hD0, hN, hU⟩ := hv
  have hx := B.exec
  have hb := B.bytes
  have hr := B.returns
  have hts := atoms_spec (ws := ww_sc_raise) B.pre
  have hown : s.vm.findClass "SpotContours" = some m.cls := findClass_of_methodNamed B.named
  have hlocks := B.notSynchronized
  subst hsz
  have hD := hD0.self (sz := s.heap.size)
  generalize hAe : va_A (wC a cI cZ g) s.heap.size = A at hD hU ⊢
  have hA : ∀ q : Nat, s.heap.size ≤ q → A q := fun q h => by rw [← hAe]; exact Or.inr h
  have hS : va_S A s.heap s.heap [] := va_S.rf
  have he9 := lg_entry_eq m [.ref (a 0), .int x1, .int x2] 4
  rw [← hav] at he9
  rw [he9]
  have hl := lv_entry [.ref (a 0), .int x1, .int x2] (n := 4) (Nat.le_of_ble_eq_true rfl)
  generalize (lg_sl [.ref (a 0), .int x1, .int x2] ++ List.replicate (4 - (lg_sl [.ref (a 0), .int x1, .int x2]).length) Slot.unset).toArray = ls at hl ⊢
  have hl : lv_has ls 4 [(0, .ref (a 0)), (1, .int x1), (2, .int x2)] := hl
  have hin__sc : ∀ w ∈ u_ws R_sc T_sc 4, w ∈ ww_sc_raise := fun w h => zz_in (hin0_sc w h)
  have fl_12 := hts (.fieldLink "SpotContours" 12 "SpotContours" "spots" "LSpotContours$Spots;") (zz_in wm_373)
  have fl_33 := hts (.fieldLink "SpotContours" 33 "SpotContours" "tags" "LSpotContours$Tags;") (zz_in wm_375)
  unfold wp_sc_raise at h
  refine lv_aload_n hx hb d_sc_raise_0 rfl (lv_at hl 0 rfl) ?_
  refine va_get (D := (dC, dI)) (ci := 4) (v := .ref (a 1)) (C := R_sc) (T := T_sc) (N := 4) hx hb hts hin__sc hown hK hP 0 (wC_0 a cI cZ g) rfl 0 (by decide) fl_12 (fun _ h9 => h9) rfl d_sc_raise_1 ?_
  refine lv_iload_n hx hb d_sc_raise_4 rfl (lv_at hl 1 rfl) ?_
  refine zz_ci (va_runV (As := [.int x1]) (rest := []) ⟨hx, hb, hml, hown, hts⟩ (mc_sp_isNumber l dC dI a cI cZ _ x1 g _ h) (zz_cwV 1 hts (zz_good wm_162) rfl rfl rfl wm_163 wm_164 wm_165 wm_1 (by decide +kernel) ⟨Nat.le_of_ble_eq_true rfl, Nat.le_of_ble_eq_true rfl⟩) ⟨zz_blind, (va_recv hK hP rfl (wC_1 a cI cZ g)), zz_pre hP hK hD hN⟩ rfl rfl hl.1 rfl (lv_room (Nat.le_of_ble_eq_true rfl)) d_sc_raise_5 ⟨Nat.le_of_ble_eq_true rfl, Nat.le_of_ble_eq_true rfl⟩) hD hS hA (fun r2 g1 H locs h hP hD hS => ?_)
  refine lv_if_ne (tgt := 19) hx hb d_sc_raise_8 (by decide) (fun hc => ?_) (fun hc => ?_)
  · have h := h.1 hc
    refine lv_iload_n hx hb d_sc_raise_19 rfl (lv_at hl 2 rfl) ?_
    refine zz_ci (va_runS (As := [.int x2]) (rest := []) ⟨hx, hb, hml, hown, hts⟩ (mc_sc_isHeight l dC dI a cI cZ _ x2 g1 _ h) (zz_cwS 1 hts (zz_good wm_151) rfl rfl rfl wm_152 wm_153 wm_10 (by decide +kernel) ⟨Nat.le_of_ble_eq_true rfl, Nat.le_of_ble_eq_true rfl⟩) ⟨zz_blind, zz_pre hP hK hD hN⟩ rfl rfl hl.1 rfl (lv_room (Nat.le_of_ble_eq_true rfl)) d_sc_raise_20 ⟨Nat.le_of_ble_eq_true rfl, Nat.le_of_ble_eq_true rfl⟩) hD hS hA (fun r4 g3 H locs h hP hD hS => ?_)
    refine lv_if_ne (tgt := 34) hx hb d_sc_raise_23 (by decide) (fun hc => ?_) (fun hc => ?_)
    · have h := h.1 hc
      refine lv_aload_n hx hb d_sc_raise_34 rfl (lv_at hl 0 rfl) ?_
      refine va_get (D := (dC, dI)) (ci := 4) (v := .ref (a 1)) (C := R_sc) (T := T_sc) (N := 4) hx hb hts hin__sc hown hK hP 0 (wC_0 a cI cZ g3) rfl 0 (by decide) fl_12 (fun _ h9 => h9) rfl d_sc_raise_35 ?_
      refine lv_iload_n hx hb d_sc_raise_38 rfl (lv_at hl 1 rfl) ?_
      refine zz_ci (va_runV (As := [.int x1]) (rest := []) ⟨hx, hb, hml, hown, hts⟩ (mc_sp_height l dC dI a cI cZ _ x1 g3 _ h) (zz_cwV 1 hts (zz_good wm_44) rfl rfl rfl wm_161 wm_46 wm_47 wm_1 (by decide +kernel) ⟨Nat.le_of_ble_eq_true rfl, Nat.le_of_ble_eq_true rfl⟩) ⟨zz_blind, (va_recv hK hP rfl (wC_1 a cI cZ g3)), zz_pre hP hK hD hN⟩ rfl rfl hl.1 rfl (lv_room (Nat.le_of_ble_eq_true rfl)) d_sc_raise_39 ⟨Nat.le_of_ble_eq_true rfl, Nat.le_of_ble_eq_true rfl⟩) hD hS hA (fun r6 g5 H locs h hP hD hS => ?_)
      refine lv_istore_n (lv' := [(3, .int r6), (0, .ref (a 0)), (1, .int x1), (2, .int x2)]) hx hb d_sc_raise_42 rfl hl (by decide) rfl (fun ls hl => ?_)
      refine lv_aload_n hx hb d_sc_raise_43 rfl (lv_at hl 1 rfl) ?_
      refine va_get (D := (dC, dI)) (ci := 4) (v := .ref (a 1)) (C := R_sc) (T := T_sc) (N := 4) hx hb hts hin__sc hown hK hP 0 (wC_0 a cI cZ g5) rfl 0 (by decide) fl_12 (fun _ h9 => h9) rfl d_sc_raise_44 ?_
      refine lv_iload_n hx hb d_sc_raise_47 rfl (lv_at hl 2 rfl) ?_
      refine lv_iload_n hx hb d_sc_raise_48 rfl (lv_at hl 3 rfl) ?_
      refine zz_cv (va_runV (As := [.int x1, .int x2]) (rest := []) ⟨hx, hb, hml, hown, hts⟩ (mc_sp_setHeight l dC dI a cI cZ _ x1 x2 g5 _ h) (zz_cwV 2 hts (zz_good wm_157) rfl rfl rfl wm_158 wm_159 wm_160 wm_1 (by decide +kernel) ⟨Nat.le_of_ble_eq_true rfl, Nat.le_of_ble_eq_true rfl⟩) ⟨zz_blind, (va_recv hK hP rfl (wC_1 a cI cZ g5)), zz_pre hP hK hD hN⟩ rfl rfl hl.1 rfl (lv_room (Nat.le_of_ble_eq_true rfl)) d_sc_raise_49 ⟨Nat.le_of_ble_eq_true rfl, Nat.le_of_ble_eq_true rfl⟩) hD hS hA (fun g7 H locs h hP hD hS => ?_)
      refine lv_aload_n hx hb d_sc_raise_52 rfl (lv_at hl 1 rfl) ?_
      refine va_get (D := (dC, dI)) (ci := 4) (v := .ref (a 4)) (C := R_sc) (T := T_sc) (N := 4) hx hb hts hin__sc hown hK hP 0 (wC_0 a cI cZ g7) rfl 3 (by decide) fl_33 (fun _ h9 => h9) rfl d_sc_raise_53 ?_
      refine lv_iconst (v := 0) hx hb d_sc_raise_56 (by decide) ?_
      refine zz_cv (va_runV (As := [.int 0]) (rest := []) ⟨hx, hb, hml, hown, hts⟩ (mc_ta_cutTo l dC dI a cI cZ _ 0 g7 _ h) (zz_cwV 1 hts (zz_good wm_133) rfl rfl rfl wm_135 wm_136 wm_137 wm_134 (by decide +kernel) ⟨Nat.le_of_ble_eq_true rfl, Nat.le_of_ble_eq_true rfl⟩) ⟨zz_blind, (va_recv hK hP rfl (wC_4 a cI cZ g7)), zz_pre hP hK hD hN⟩ rfl rfl hl.1 rfl (lv_room (Nat.le_of_ble_eq_true rfl)) d_sc_raise_57 ⟨Nat.le_of_ble_eq_true rfl, Nat.le_of_ble_eq_true rfl⟩) hD hS hA (fun g8 H locs h hP hD hS => ?_)
      refine lv_iload_n hx hb d_sc_raise_60 rfl (lv_at hl 0 rfl) ?_
      refine vx_ret ?_
      refine W.widen (k := 1) (n := 6 * 1) (Nat.le_of_ble_eq_true rfl) (Nat.le_of_ble_eq_true rfl) ?_
      exact W.iret (v := r6) hx hb hr (fun t ht hW => ⟨⟨r6, g8, rfl, h, by rw [ht]; exact hP, va_K.moved hW.alike hK, hD⟩, hS.F ht⟩) hS.2.2 d_sc_raise_61
    · have h := h.2 hc
      exact zz_thr 0 hx hb hlt hown hts hN hU hP hK hD hS thf_0 thl_0 thi_0 th1_0 th2_0 th3_0 (hl.1.trans hml.symm) d_sc_raise_26 d_sc_raise_29 d_sc_raise_30 d_sc_raise_33 hout (Nat.le_of_ble_eq_true rfl) (Nat.le_of_ble_eq_true rfl) (Nat.le_of_ble_eq_true rfl) (Nat.le_of_ble_eq_true rfl) hlocks (Nat.le_of_ble_eq_true rfl) (Nat.le_of_ble_eq_true rfl) h
  · have h := h.2 hc
    exact zz_thr 2 hx hb hlt hown hts hN hU hP hK hD hS thf_2 thl_2 thi_2 th1_2 th2_2 th3_2 (hl.1.trans hml.symm) d_sc_raise_11 d_sc_raise_14 d_sc_raise_15 d_sc_raise_18 hout (Nat.le_of_ble_eq_true rfl) (Nat.le_of_ble_eq_true rfl) (Nat.le_of_ble_eq_true rfl) (Nat.le_of_ble_eq_true rfl) hlocks (Nat.le_of_ble_eq_true rfl) (Nat.le_of_ble_eq_true rfl) h
abbrev rm_sc_corner : Room := { frames := 6, cells := 1, slots := 6, locals := 81 }
set_option maxHeartbeats 4000000 in
set_option maxRecDepth 100000 in
theorem mc_sc_corner (l : Launch) (hlt : l.stackTraces = false) (dC : Nat → ClassId) (dI : Nat → Nat → Nat) (a : Nat → Nat) (cI cZ : ClassId) (sz : Nat) (x1 : Int32) (x2 : Int32) (g : St) (post : Int32 → St → Prop) (px : Nat → St → Prop) (h : wp_sc_corner x1 x2 g post px) : vx_Met l yy_sc_corner ww_sc_corner rm_sc_corner (zz_PreX (dC, dI) (wC a cI cZ) [(cI, .int), (cZ, .boolean)] [.ref (a 0), .int x1, .int x2] g sz) (va_Qi post (zz_W (dC, dI) (wC a cI cZ) [(cI, .int), (cZ, .boolean)] (va_A (wC a cI cZ g) sz)) (va_A (wC a cI cZ g) sz)) (zz_X (dC, dI) (wC a cI cZ) [(cI, .int), (cZ, .boolean)] (va_A (wC a cI cZ g) sz) px) 1 (6 * 1) (va_A (wC a cI cZ g) sz) := by
  refine vx_ofW (cc := cc_sc_corner) (maxL := 3) (ret := (some .int)) (by decide) rfl ?_
  intro p e s m args below meth c s₁ B hml hout hv
  obtain ⟨hav, hsz, hP, hK, hD0, hN, hU⟩ := hv
  have hx := B.exec
  have hb := B.bytes
  have hr := B.returns
  have hts := atoms_spec (ws := ww_sc_corner) B.pre
  have hown : s.vm.findClass "SpotContours" = some m.cls := findClass_of_methodNamed B.named
  have hlocks := B.notSynchronized
  subst hsz
  have hD := hD0.self (sz := s.heap.size)
  generalize hAe : va_A (wC a cI cZ g) s.heap.size = A at hD hU ⊢
  have hA : ∀ q : Nat, s.heap.size ≤ q → A q := fun q h => by rw [← hAe]; exact Or.inr h
  have hS : va_S A s.heap s.heap [] := va_S.rf
  have he9 := lg_entry_eq m [.ref (a 0), .int x1, .int x2] 3
  rw [← hav] at he9
  rw [he9]
  have hl := lv_entry [.ref (a 0), .int x1, .int x2] (n := 3) (Nat.le_of_ble_eq_true rfl)
  generalize (lg_sl [.ref (a 0), .int x1, .int x2] ++ List.replicate (3 - (lg_sl [.ref (a 0), .int x1, .int x2]).length) Slot.unset).toArray = ls at hl ⊢
  have hl : lv_has ls 3 [(0, .ref (a 0)), (1, .int x1), (2, .int x2)] := hl
  have hin__sc : ∀ w ∈ u_ws R_sc T_sc 4, w ∈ ww_sc_corner := fun w h => zz_in (hin0_sc w h)
  have fl_19 := hts (.fieldLink "SpotContours" 19 "SpotContours" "mesh" "LSpotContours$Mesh;") (zz_in wm_374)
  unfold wp_sc_corner at h
  refine lv_iload_n hx hb d_sc_corner_0 rfl (lv_at hl 1 rfl) ?_
  refine lv_if_lt (tgt := 24) hx hb d_sc_corner_1 (by decide) (fun hc => ?_) (fun hc => ?_)
  · have h := h.1 hc
    exact zz_thr 2 hx hb hlt hown hts hN hU hP hK hD hS thf_2 thl_2 thi_2 th1_2 th2_2 th3_2 (hl.1.trans hml.symm) d_sc_corner_24 d_sc_corner_27 d_sc_corner_28 d_sc_corner_31 hout (Nat.le_of_ble_eq_true rfl) (Nat.le_of_ble_eq_true rfl) (Nat.le_of_ble_eq_true rfl) (Nat.le_of_ble_eq_true rfl) hlocks (Nat.le_of_ble_eq_true rfl) (Nat.le_of_ble_eq_true rfl) h
  · have h := h.2 hc
    refine lv_iload_n hx hb d_sc_corner_4 rfl (lv_at hl 1 rfl) ?_
    refine lv_aload_n hx hb d_sc_corner_5 rfl (lv_at hl 0 rfl) ?_
    refine va_get (D := (dC, dI)) (ci := 4) (v := .ref (a 2)) (C := R_sc) (T := T_sc) (N := 4) hx hb hts hin__sc hown hK hP 0 (wC_0 a cI cZ g) rfl 1 (by decide) fl_19 (fun _ h9 => h9) rfl d_sc_corner_6 ?_
    refine zz_ci (va_runV (As := []) (rest := [.int x1]) ⟨hx, hb, hml, hown, hts⟩ (mc_me_size l dC dI a cI cZ _  g _ h) (zz_cwV 0 hts (zz_good wm_166) rfl rfl rfl wm_167 wm_168 wm_169 wm_23 (by decide +kernel) ⟨Nat.le_of_ble_eq_true rfl, Nat.le_of_ble_eq_true rfl⟩) ⟨zz_blind, (va_recv hK hP rfl (wC_2 a cI cZ g)), zz_pre hP hK hD hN⟩ rfl rfl hl.1 rfl (lv_room (Nat.le_of_ble_eq_true rfl)) d_sc_corner_9 ⟨Nat.le_of_ble_eq_true rfl, Nat.le_of_ble_eq_true rfl⟩) hD hS hA (fun r2 g1 H locs h hP hD hS => ?_)
    refine lv_icmp_ge (tgt := 24) hx hb d_sc_corner_12 (by decide) (fun hc => ?_) (fun hc => ?_)
    · have h := h.1 hc
      exact zz_thr 2 hx hb hlt hown hts hN hU hP hK hD hS thf_2 thl_2 thi_2 th1_2 th2_2 th3_2 (hl.1.trans hml.symm) d_sc_corner_24 d_sc_corner_27 d_sc_corner_28 d_sc_corner_31 hout (Nat.le_of_ble_eq_true rfl) (Nat.le_of_ble_eq_true rfl) (Nat.le_of_ble_eq_true rfl) (Nat.le_of_ble_eq_true rfl) hlocks (Nat.le_of_ble_eq_true rfl) (Nat.le_of_ble_eq_true rfl) h
    · have h := h.2 hc
      refine lv_iload_n hx hb d_sc_corner_15 rfl (lv_at hl 2 rfl) ?_
      refine lv_if_lt (tgt := 24) hx hb d_sc_corner_16 (by decide) (fun hc => ?_) (fun hc => ?_)
      · have h := h.1 hc
        exact zz_thr 2 hx hb hlt hown hts hN hU hP hK hD hS thf_2 thl_2 thi_2 th1_2 th2_2 th3_2 (hl.1.trans hml.symm) d_sc_corner_24 d_sc_corner_27 d_sc_corner_28 d_sc_corner_31 hout (Nat.le_of_ble_eq_true rfl) (Nat.le_of_ble_eq_true rfl) (Nat.le_of_ble_eq_true rfl) (Nat.le_of_ble_eq_true rfl) hlocks (Nat.le_of_ble_eq_true rfl) (Nat.le_of_ble_eq_true rfl) h
      · have h := h.2 hc
        refine lv_iload_n hx hb d_sc_corner_19 rfl (lv_at hl 2 rfl) ?_
        refine lv_iconst (v := 3) hx hb d_sc_corner_20 (by decide) ?_
        refine lv_icmp_lt (tgt := 32) hx hb d_sc_corner_21 (by decide) (fun hc => ?_) (fun hc => ?_)
        · have h := h.1 hc
          refine lv_aload_n hx hb d_sc_corner_32 rfl (lv_at hl 0 rfl) ?_
          refine va_get (D := (dC, dI)) (ci := 4) (v := .ref (a 2)) (C := R_sc) (T := T_sc) (N := 4) hx hb hts hin__sc hown hK hP 0 (wC_0 a cI cZ g1) rfl 1 (by decide) fl_19 (fun _ h9 => h9) rfl d_sc_corner_33 ?_
          refine lv_iload_n hx hb d_sc_corner_36 rfl (lv_at hl 1 rfl) ?_
          refine lv_iload_n hx hb d_sc_corner_37 rfl (lv_at hl 2 rfl) ?_
          refine zz_ci (va_runV (As := [.int x1, .int x2]) (rest := []) ⟨hx, hb, hml, hown, hts⟩ (mc_me_cornerOf l dC dI a cI cZ _ x1 x2 g1 _ h) (zz_cwV 2 hts (zz_good wm_111) rfl rfl rfl wm_170 wm_113 wm_114 wm_23 (by decide +kernel) ⟨Nat.le_of_ble_eq_true rfl, Nat.le_of_ble_eq_true rfl⟩) ⟨zz_blind, (va_recv hK hP rfl (wC_2 a cI cZ g1)), zz_pre hP hK hD hN⟩ rfl rfl hl.1 rfl (lv_room (Nat.le_of_ble_eq_true rfl)) d_sc_corner_38 ⟨Nat.le_of_ble_eq_true rfl, Nat.le_of_ble_eq_true rfl⟩) hD hS hA (fun r4 g3 H locs h hP hD hS => ?_)
          refine vx_ret ?_
          refine W.widen (k := 1) (n := 6 * 1) (Nat.le_of_ble_eq_true rfl) (Nat.le_of_ble_eq_true rfl) ?_
          exact W.iret (v := r4) hx hb hr (fun t ht hW => ⟨⟨r4, g3, rfl, h, by rw [ht]; exact hP, va_K.moved hW.alike hK, hD⟩, hS.F ht⟩) hS.2.2 d_sc_corner_41
        · have h := h.2 hc
          exact zz_thr 2 hx hb hlt hown hts hN hU hP hK hD hS thf_2 thl_2 thi_2 th1_2 th2_2 th3_2 (hl.1.trans hml.symm) d_sc_corner_24 d_sc_corner_27 d_sc_corner_28 d_sc_corner_31 hout (Nat.le_of_ble_eq_true rfl) (Nat.le_of_ble_eq_true rfl) (Nat.le_of_ble_eq_true rfl) (Nat.le_of_ble_eq_true rfl) hlocks (Nat.le_of_ble_eq_true rfl) (Nat.le_of_ble_eq_true rfl) h
abbrev rm_sc_edge : Room := { frames := 6, cells := 1, slots := 6, locals := 81 }
set_option maxHeartbeats 4000000 in
set_option maxRecDepth 100000 in
theorem mc_sc_edge (l : Launch) (hlt : l.stackTraces = false) (dC : Nat → ClassId) (dI : Nat → Nat → Nat) (a : Nat → Nat) (cI cZ : ClassId) (sz : Nat) (x1 : Int32) (x2 : Int32) (g : St) (post : Int32 → St → Prop) (px : Nat → St → Prop) (h : wp_sc_edge x1 x2 g post px) : vx_Met l yy_sc_edge ww_sc_edge rm_sc_edge (zz_PreX (dC, dI) (wC a cI cZ) [(cI, .int), (cZ, .boolean)] [.ref (a 0), .int x1, .int x2] g sz) (va_Qi post (zz_W (dC, dI) (wC a cI cZ) [(cI, .int), (cZ, .boolean)] (va_A (wC a cI cZ g) sz)) (va_A (wC a cI cZ g) sz)) (zz_X (dC, dI) (wC a cI cZ) [(cI, .int), (cZ, .boolean)] (va_A (wC a cI cZ g) sz) px) 1 (6 * 1) (va_A (wC a cI cZ g) sz) := by
  refine vx_ofW (cc := cc_sc_edge) (maxL := 3) (ret := (some .int)) (by decide) rfl ?_
  intro p e s m args below meth c s₁ B hml hout hv
  obtain ⟨hav, hsz, hP, hK, hD0, hN, hU⟩ := hv
  have hx := B.exec
  have hb := B.bytes
  have hr := B.returns
  have hts := atoms_spec (ws := ww_sc_edge) B.pre
  have hown : s.vm.findClass "SpotContours" = some m.cls := findClass_of_methodNamed B.named
  have hlocks := B.notSynchronized
  subst hsz
  have hD := hD0.self (sz := s.heap.size)
  generalize hAe : va_A (wC a cI cZ g) s.heap.size = A at hD hU ⊢
  have hA : ∀ q : Nat, s.heap.size ≤ q → A q := fun q h => by rw [← hAe]; exact Or.inr h
  have hS : va_S A s.heap s.heap [] := va_S.rf
  have he9 := lg_entry_eq m [.ref (a 0), .int x1, .int x2] 3
  rw [← hav] at he9
  rw [he9]
  have hl := lv_entry [.ref (a 0), .int x1, .int x2] (n := 3) (Nat.le_of_ble_eq_true rfl)
  generalize (lg_sl [.ref (a 0), .int x1, .int x2] ++ List.replicate (3 - (lg_sl [.ref (a 0), .int x1, .int x2]).length) Slot.unset).toArray = ls at hl ⊢
  have hl : lv_has ls 3 [(0, .ref (a 0)), (1, .int x1), (2, .int x2)] := hl
  have hin__sc : ∀ w ∈ u_ws R_sc T_sc 4, w ∈ ww_sc_edge := fun w h => zz_in (hin0_sc w h)
  have fl_12 := hts (.fieldLink "SpotContours" 12 "SpotContours" "spots" "LSpotContours$Spots;") (zz_in wm_373)
  have fl_19 := hts (.fieldLink "SpotContours" 19 "SpotContours" "mesh" "LSpotContours$Mesh;") (zz_in wm_374)
  unfold wp_sc_edge at h
  refine lv_aload_n hx hb d_sc_edge_0 rfl (lv_at hl 0 rfl) ?_
  refine va_get (D := (dC, dI)) (ci := 4) (v := .ref (a 1)) (C := R_sc) (T := T_sc) (N := 4) hx hb hts hin__sc hown hK hP 0 (wC_0 a cI cZ g) rfl 0 (by decide) fl_12 (fun _ h9 => h9) rfl d_sc_edge_1 ?_
  refine lv_iload_n hx hb d_sc_edge_4 rfl (lv_at hl 1 rfl) ?_
  refine zz_ci (va_runV (As := [.int x1]) (rest := []) ⟨hx, hb, hml, hown, hts⟩ (mc_sp_isNumber l dC dI a cI cZ _ x1 g _ h) (zz_cwV 1 hts (zz_good wm_162) rfl rfl rfl wm_163 wm_164 wm_165 wm_1 (by decide +kernel) ⟨Nat.le_of_ble_eq_true rfl, Nat.le_of_ble_eq_true rfl⟩) ⟨zz_blind, (va_recv hK hP rfl (wC_1 a cI cZ g)), zz_pre hP hK hD hN⟩ rfl rfl hl.1 rfl (lv_room (Nat.le_of_ble_eq_true rfl)) d_sc_edge_5 ⟨Nat.le_of_ble_eq_true rfl, Nat.le_of_ble_eq_true rfl⟩) hD hS hA (fun r2 g1 H locs h hP hD hS => ?_)
  refine lv_if_eq (tgt := 22) hx hb d_sc_edge_8 (by decide) (fun hc => ?_) (fun hc => ?_)
  · have h := h.1 hc
    exact zz_thr 2 hx hb hlt hown hts hN hU hP hK hD hS thf_2 thl_2 thi_2 th1_2 th2_2 th3_2 (hl.1.trans hml.symm) d_sc_edge_22 d_sc_edge_25 d_sc_edge_26 d_sc_edge_29 hout (Nat.le_of_ble_eq_true rfl) (Nat.le_of_ble_eq_true rfl) (Nat.le_of_ble_eq_true rfl) (Nat.le_of_ble_eq_true rfl) hlocks (Nat.le_of_ble_eq_true rfl) (Nat.le_of_ble_eq_true rfl) h
  · have h := h.2 hc
    refine lv_aload_n hx hb d_sc_edge_11 rfl (lv_at hl 0 rfl) ?_
    refine va_get (D := (dC, dI)) (ci := 4) (v := .ref (a 1)) (C := R_sc) (T := T_sc) (N := 4) hx hb hts hin__sc hown hK hP 0 (wC_0 a cI cZ g1) rfl 0 (by decide) fl_12 (fun _ h9 => h9) rfl d_sc_edge_12 ?_
    refine lv_iload_n hx hb d_sc_edge_15 rfl (lv_at hl 2 rfl) ?_
    refine zz_ci (va_runV (As := [.int x2]) (rest := []) ⟨hx, hb, hml, hown, hts⟩ (mc_sp_isNumber l dC dI a cI cZ _ x2 g1 _ h) (zz_cwV 1 hts (zz_good wm_162) rfl rfl rfl wm_163 wm_164 wm_165 wm_1 (by decide +kernel) ⟨Nat.le_of_ble_eq_true rfl, Nat.le_of_ble_eq_true rfl⟩) ⟨zz_blind, (va_recv hK hP rfl (wC_1 a cI cZ g1)), zz_pre hP hK hD hN⟩ rfl rfl hl.1 rfl (lv_room (Nat.le_of_ble_eq_true rfl)) d_sc_edge_16 ⟨Nat.le_of_ble_eq_true rfl, Nat.le_of_ble_eq_true rfl⟩) hD hS hA (fun r4 g3 H locs h hP hD hS => ?_)
    refine lv_if_ne (tgt := 30) hx hb d_sc_edge_19 (by decide) (fun hc => ?_) (fun hc => ?_)
    · have h := h.1 hc
      refine lv_aload_n hx hb d_sc_edge_30 rfl (lv_at hl 0 rfl) ?_
      refine va_get (D := (dC, dI)) (ci := 4) (v := .ref (a 2)) (C := R_sc) (T := T_sc) (N := 4) hx hb hts hin__sc hown hK hP 0 (wC_0 a cI cZ g3) rfl 1 (by decide) fl_19 (fun _ h9 => h9) rfl d_sc_edge_31 ?_
      refine lv_iload_n hx hb d_sc_edge_34 rfl (lv_at hl 1 rfl) ?_
      refine lv_iload_n hx hb d_sc_edge_35 rfl (lv_at hl 2 rfl) ?_
      refine zz_ci (va_runV (As := [.int x1, .int x2]) (rest := []) ⟨hx, hb, hml, hown, hts⟩ (mc_me_sharing l dC dI a cI cZ _ x1 x2 g3 _ h) (zz_cwV 2 hts (zz_good wm_56) rfl rfl rfl wm_171 wm_58 wm_59 wm_23 (by decide +kernel) ⟨Nat.le_of_ble_eq_true rfl, Nat.le_of_ble_eq_true rfl⟩) ⟨zz_blind, (va_recv hK hP rfl (wC_2 a cI cZ g3)), zz_pre hP hK hD hN⟩ rfl rfl hl.1 rfl (lv_room (Nat.le_of_ble_eq_true rfl)) d_sc_edge_36 ⟨Nat.le_of_ble_eq_true rfl, Nat.le_of_ble_eq_true rfl⟩) hD hS hA (fun r6 g5 H locs h hP hD hS => ?_)
      refine vx_ret ?_
      refine W.widen (k := 1) (n := 6 * 1) (Nat.le_of_ble_eq_true rfl) (Nat.le_of_ble_eq_true rfl) ?_
      exact W.iret (v := r6) hx hb hr (fun t ht hW => ⟨⟨r6, g5, rfl, h, by rw [ht]; exact hP, va_K.moved hW.alike hK, hD⟩, hS.F ht⟩) hS.2.2 d_sc_edge_39
    · have h := h.2 hc
      exact zz_thr 2 hx hb hlt hown hts hN hU hP hK hD hS thf_2 thl_2 thi_2 th1_2 th2_2 th3_2 (hl.1.trans hml.symm) d_sc_edge_22 d_sc_edge_25 d_sc_edge_26 d_sc_edge_29 hout (Nat.le_of_ble_eq_true rfl) (Nat.le_of_ble_eq_true rfl) (Nat.le_of_ble_eq_true rfl) (Nat.le_of_ble_eq_true rfl) hlocks (Nat.le_of_ble_eq_true rfl) (Nat.le_of_ble_eq_true rfl) h
abbrev rm_sc_at : Room := { frames := 6, cells := 1, slots := 6, locals := 104 }
set_option maxHeartbeats 4000000 in
set_option maxRecDepth 100000 in
theorem mc_sc_at (l : Launch) (hlt : l.stackTraces = false) (dC : Nat → ClassId) (dI : Nat → Nat → Nat) (a : Nat → Nat) (cI cZ : ClassId) (sz : Nat) (x1 : Int32) (x2 : Int32) (g : St) (post : Int32 → St → Prop) (px : Nat → St → Prop) (h : wp_sc_at x1 x2 g post px) : vx_Met l yy_sc_at ww_sc_at rm_sc_at (zz_PreX (dC, dI) (wC a cI cZ) [(cI, .int), (cZ, .boolean)] [.ref (a 0), .int x1, .int x2] g sz) (va_Qi post (zz_W (dC, dI) (wC a cI cZ) [(cI, .int), (cZ, .boolean)] (va_A (wC a cI cZ g) sz)) (va_A (wC a cI cZ g) sz)) (zz_X (dC, dI) (wC a cI cZ) [(cI, .int), (cZ, .boolean)] (va_A (wC a cI cZ g) sz) px) 1 (6 * 1) (va_A (wC a cI cZ g) sz) := by
  refine vx_ofW (cc := cc_sc_at) (maxL := 4) (ret := (some .int)) (by decide) rfl ?_
  intro p e s m args below meth c s₁ B hml hout hv
  obtain ⟨hav, hsz, hP, hK, hD0, hN, hU⟩ := hv
  have hx := B.exec
  have hb := B.bytes
  have hr := B.returns
  have hts := atoms_spec (ws := ww_sc_at) B.pre
  have hown : s.vm.findClass "SpotContours" = some m.cls := findClass_of_methodNamed B.named
  have hlocks := B.notSynchronized
  subst hsz
  have hD := hD0.self (sz := s.heap.size)
  generalize hAe : va_A (wC a cI cZ g) s.heap.size = A at hD hU ⊢
  have hA : ∀ q : Nat, s.heap.size ≤ q → A q := fun q h => by rw [← hAe]; exact Or.inr h
  have hS : va_S A s.heap s.heap [] := va_S.rf
  have he9 := lg_entry_eq m [.ref (a 0), .int x1, .int x2] 4
  rw [← hav] at he9
  rw [he9]
  have hl := lv_entry [.ref (a 0), .int x1, .int x2] (n := 4) (Nat.le_of_ble_eq_true rfl)
  generalize (lg_sl [.ref (a 0), .int x1, .int x2] ++ List.replicate (4 - (lg_sl [.ref (a 0), .int x1, .int x2]).length) Slot.unset).toArray = ls at hl ⊢
  have hl : lv_has ls 4 [(0, .ref (a 0)), (1, .int x1), (2, .int x2)] := hl
  have hin__sc : ∀ w ∈ u_ws R_sc T_sc 4, w ∈ ww_sc_at := fun w h => zz_in (hin0_sc w h)
  have fl_12 := hts (.fieldLink "SpotContours" 12 "SpotContours" "spots" "LSpotContours$Spots;") (zz_in wm_373)
  have fl_19 := hts (.fieldLink "SpotContours" 19 "SpotContours" "mesh" "LSpotContours$Mesh;") (zz_in wm_374)
  have J25 : ∀ (s0 : Int32) (g : St), jn_sc_at_J25 s0 g post px → ∀ (H : Heap) (locs : List Loc) (ls : Array Slot), va_P (dC, dI) zzCl (wC a cI cZ g) H → va_D A (wC a cI cZ g) → va_S A s.heap H locs → lv_has ls 4 [] → W p l e (headSpec ww_sc_at rm_sc_at).room s m args below meth c H locs 0 0 (zz_Qix 1 below (dC, dI) (wC a cI cZ) [(cI, .int), (cZ, .boolean)] A post px args s) (F0 m 25 ls [.int s0]) := by
    intro s0 g h H locs ls hP hD hS hl
    unfold jn_sc_at_J25 at h
    refine lv_istore_n (lv' := [(3, .int s0)]) hx hb d_sc_at_25 rfl hl (by decide) rfl (fun ls hl => ?_)
    refine lv_iload_n hx hb d_sc_at_26 rfl (lv_at hl 0 rfl) ?_
    refine lv_iconst (v := (-1)) hx hb d_sc_at_27 (by decide) ?_
    refine lv_icmp_ne (tgt := 39) hx hb d_sc_at_28 (by decide) (fun hc => ?_) (fun hc => ?_)
    · have h := h.1 hc
      refine lv_iload_n hx hb d_sc_at_39 rfl (lv_at hl 0 rfl) ?_
      refine vx_ret ?_
      refine W.widen (k := 1) (n := 6 * 1) (Nat.le_of_ble_eq_true rfl) (Nat.le_of_ble_eq_true rfl) ?_
      exact W.iret (v := s0) hx hb hr (fun t ht hW => ⟨⟨s0, g, rfl, h, by rw [ht]; exact hP, va_K.moved hW.alike hK, hD⟩, hS.F ht⟩) hS.2.2 d_sc_at_40
    · have h := h.2 hc
      exact zz_thr 3 hx hb hlt hown hts hN hU hP hK hD hS thf_3 thl_3 thi_3 th1_3 th2_3 th3_3 (hl.1.trans hml.symm) d_sc_at_31 d_sc_at_34 d_sc_at_35 d_sc_at_38 hout (Nat.le_of_ble_eq_true rfl) (Nat.le_of_ble_eq_true rfl) (Nat.le_of_ble_eq_true rfl) (Nat.le_of_ble_eq_true rfl) hlocks (Nat.le_of_ble_eq_true rfl) (Nat.le_of_ble_eq_true rfl) h
  unfold wp_sc_at at h
  refine lv_iload_n hx hb d_sc_at_0 rfl (lv_at hl 1 rfl) ?_
  refine lv_iload_n hx hb d_sc_at_1 rfl (lv_at hl 2 rfl) ?_
  refine zz_ci (va_runS (As := [.int x1, .int x2]) (rest := []) ⟨hx, hb, hml, hown, hts⟩ (mc_sc_isOnMap l dC dI a cI cZ _ x1 x2 g _ h) (zz_cwS 2 hts (zz_good wm_154) rfl rfl rfl wm_155 wm_156 wm_10 (by decide +kernel) ⟨Nat.le_of_ble_eq_true rfl, Nat.le_of_ble_eq_true rfl⟩) ⟨zz_blind, zz_pre hP hK hD hN⟩ rfl rfl hl.1 rfl (lv_room (Nat.le_of_ble_eq_true rfl)) d_sc_at_2 ⟨Nat.le_of_ble_eq_true rfl, Nat.le_of_ble_eq_true rfl⟩) hD hS hA (fun r2 g1 H locs h hP hD hS => ?_)
  refine lv_if_eq (tgt := 24) hx hb d_sc_at_5 (by decide) (fun hc => ?_) (fun hc => ?_)
  · have h := h.1 hc
    refine lv_iconst (v := (-1)) hx hb d_sc_at_24 (by decide) ?_
    exact J25 _ _ h _ _ _ hP hD hS (lv_sub hl [] rfl)
  · have h := h.2 hc
    refine lv_aload_n hx hb d_sc_at_8 rfl (lv_at hl 0 rfl) ?_
    refine va_get (D := (dC, dI)) (ci := 4) (v := .ref (a 2)) (C := R_sc) (T := T_sc) (N := 4) hx hb hts hin__sc hown hK hP 0 (wC_0 a cI cZ g1) rfl 1 (by decide) fl_19 (fun _ h9 => h9) rfl d_sc_at_9 ?_
    refine lv_aload_n hx hb d_sc_at_12 rfl (lv_at hl 0 rfl) ?_
    refine va_get (D := (dC, dI)) (ci := 4) (v := .ref (a 1)) (C := R_sc) (T := T_sc) (N := 4) hx hb hts hin__sc hown hK hP 0 (wC_0 a cI cZ g1) rfl 0 (by decide) fl_12 (fun _ h9 => h9) rfl d_sc_at_13 ?_
    refine lv_iload_n hx hb d_sc_at_16 rfl (lv_at hl 1 rfl) ?_
    refine lv_iload_n hx hb d_sc_at_17 rfl (lv_at hl 2 rfl) ?_
    refine zz_ci (va_runV (As := [.ref (a 1), .int x1, .int x2]) (rest := []) ⟨hx, hb, hml, hown, hts⟩ (mc_me_heightAt l dC dI a cI cZ _ x1 x2 g1 _ h) (zz_cwV 3 hts (zz_good wm_172) rfl rfl rfl wm_173 wm_174 wm_175 wm_23 (by decide +kernel) ⟨Nat.le_of_ble_eq_true rfl, Nat.le_of_ble_eq_true rfl⟩) ⟨zz_blind, (va_recv hK hP rfl (wC_2 a cI cZ g1)), zz_pre hP hK hD hN⟩ rfl rfl hl.1 rfl (lv_room (Nat.le_of_ble_eq_true rfl)) d_sc_at_18 ⟨Nat.le_of_ble_eq_true rfl, Nat.le_of_ble_eq_true rfl⟩) hD hS hA (fun r4 g3 H locs h hP hD hS => ?_)
    refine lv_goto (tgt := 25) hx hb d_sc_at_21 (by decide) ?_
    exact J25 _ _ h _ _ _ hP hD hS (lv_sub hl [] rfl)
abbrev rm_sc_traceLevel : Room := { frames := 6, cells := 1, slots := 6, locals := 122 }
set_option maxHeartbeats 4000000 in
set_option maxRecDepth 100000 in
theorem mc_sc_traceLevel (l : Launch) (hlt : l.stackTraces = false) (dC : Nat → ClassId) (dI : Nat → Nat → Nat) (a : Nat → Nat) (cI cZ : ClassId) (sz : Nat) (x1 : Int32) (g : St) (post : St → Prop) (px : Nat → St → Prop) (h : wp_sc_traceLevel x1 g post px) : vx_Met l yy_sc_traceLevel ww_sc_traceLevel rm_sc_traceLevel (zz_PreX (dC, dI) (wC a cI cZ) [(cI, .int), (cZ, .boolean)] [.ref (a 0), .int x1] g sz) (va_Qv post (zz_W (dC, dI) (wC a cI cZ) [(cI, .int), (cZ, .boolean)] (va_A (wC a cI cZ g) sz)) (va_A (wC a cI cZ g) sz)) (zz_X (dC, dI) (wC a cI cZ) [(cI, .int), (cZ, .boolean)] (va_A (wC a cI cZ g) sz) px) 1 (6 * 1) (va_A (wC a cI cZ g) sz) := by
  refine vx_ofW (cc := cc_sc_traceLevel) (maxL := 2) (ret := none) (by decide) rfl ?_
  intro p e s m args below meth c s₁ B hml hout hv
  obtain ⟨hav, hsz, hP, hK, hD0, hN, hU⟩ := hv
  have hx := B.exec
  have hb := B.bytes
  have hr := B.returns
  have hts := atoms_spec (ws := ww_sc_traceLevel) B.pre
  have hown : s.vm.findClass "SpotContours" = some m.cls := findClass_of_methodNamed B.named
  have hlocks := B.notSynchronized
  subst hsz
  have hD := hD0.self (sz := s.heap.size)
  generalize hAe : va_A (wC a cI cZ g) s.heap.size = A at hD hU ⊢
  have hA : ∀ q : Nat, s.heap.size ≤ q → A q := fun q h => by rw [← hAe]; exact Or.inr h
  have hS : va_S A s.heap s.heap [] := va_S.rf
  have he9 := lg_entry_eq m [.ref (a 0), .int x1] 2
  rw [← hav] at he9
  rw [he9]
  have hl := lv_entry [.ref (a 0), .int x1] (n := 2) (Nat.le_of_ble_eq_true rfl)
  generalize (lg_sl [.ref (a 0), .int x1] ++ List.replicate (2 - (lg_sl [.ref (a 0), .int x1]).length) Slot.unset).toArray = ls at hl ⊢
  have hl : lv_has ls 2 [(0, .ref (a 0)), (1, .int x1)] := hl
  have hin__sc : ∀ w ∈ u_ws R_sc T_sc 4, w ∈ ww_sc_traceLevel := fun w h => zz_in (hin0_sc w h)
  have fl_12 := hts (.fieldLink "SpotContours" 12 "SpotContours" "spots" "LSpotContours$Spots;") (zz_in wm_373)
  have fl_19 := hts (.fieldLink "SpotContours" 19 "SpotContours" "mesh" "LSpotContours$Mesh;") (zz_in wm_374)
  have fl_26 := hts (.fieldLink "SpotContours" 26 "SpotContours" "lines" "LSpotContours$Lines;") (zz_in wm_376)
  unfold wp_sc_traceLevel at h
  refine lv_iload_n hx hb d_sc_traceLevel_0 rfl (lv_at hl 1 rfl) ?_
  refine lv_if_lt (tgt := 11) hx hb d_sc_traceLevel_1 (by decide) (fun hc => ?_) (fun hc => ?_)
  · have h := h.1 hc
    exact zz_thr 0 hx hb hlt hown hts hN hU hP hK hD hS thf_0 thl_0 thi_0 th1_0 th2_0 th3_0 (hl.1.trans hml.symm) d_sc_traceLevel_11 d_sc_traceLevel_14 d_sc_traceLevel_15 d_sc_traceLevel_18 hout (Nat.le_of_ble_eq_true rfl) (Nat.le_of_ble_eq_true rfl) (Nat.le_of_ble_eq_true rfl) (Nat.le_of_ble_eq_true rfl) hlocks (Nat.le_of_ble_eq_true rfl) (Nat.le_of_ble_eq_true rfl) h
  · have h := h.2 hc
    refine lv_iload_n hx hb d_sc_traceLevel_4 rfl (lv_at hl 1 rfl) ?_
    refine lv_sipush (v := 998) hx hb d_sc_traceLevel_5 (by decide) ?_
    refine lv_icmp_le (tgt := 19) hx hb d_sc_traceLevel_8 (by decide) (fun hc => ?_) (fun hc => ?_)
    · have h := h.1 hc
      refine lv_aload_n hx hb d_sc_traceLevel_19 rfl (lv_at hl 0 rfl) ?_
      refine va_get (D := (dC, dI)) (ci := 4) (v := .ref (a 3)) (C := R_sc) (T := T_sc) (N := 4) hx hb hts hin__sc hown hK hP 0 (wC_0 a cI cZ g) rfl 2 (by decide) fl_26 (fun _ h9 => h9) rfl d_sc_traceLevel_20 ?_
      refine lv_aload_n hx hb d_sc_traceLevel_23 rfl (lv_at hl 0 rfl) ?_
      refine va_get (D := (dC, dI)) (ci := 4) (v := .ref (a 1)) (C := R_sc) (T := T_sc) (N := 4) hx hb hts hin__sc hown hK hP 0 (wC_0 a cI cZ g) rfl 0 (by decide) fl_12 (fun _ h9 => h9) rfl d_sc_traceLevel_24 ?_
      refine lv_aload_n hx hb d_sc_traceLevel_27 rfl (lv_at hl 0 rfl) ?_
      refine va_get (D := (dC, dI)) (ci := 4) (v := .ref (a 2)) (C := R_sc) (T := T_sc) (N := 4) hx hb hts hin__sc hown hK hP 0 (wC_0 a cI cZ g) rfl 1 (by decide) fl_19 (fun _ h9 => h9) rfl d_sc_traceLevel_28 ?_
      refine lv_iload_n hx hb d_sc_traceLevel_31 rfl (lv_at hl 1 rfl) ?_
      refine zz_cv (va_runV (As := [.ref (a 1), .ref (a 2), .int x1]) (rest := []) ⟨hx, hb, hml, hown, hts⟩ (mc_li_trace l dC dI a cI cZ _ x1 g _ h) (zz_cwV 3 hts (zz_good wm_176) rfl rfl rfl wm_177 wm_178 wm_179 wm_6 (by decide +kernel) ⟨Nat.le_of_ble_eq_true rfl, Nat.le_of_ble_eq_true rfl⟩) ⟨zz_blind, (va_recv hK hP rfl (wC_3 a cI cZ g)), zz_pre hP hK hD hN⟩ rfl rfl hl.1 rfl (lv_room (Nat.le_of_ble_eq_true rfl)) d_sc_traceLevel_32 ⟨Nat.le_of_ble_eq_true rfl, Nat.le_of_ble_eq_true rfl⟩) hD hS hA (fun g1 H locs h hP hD hS => ?_)
      refine vx_ret ?_
      refine W.widen (k := 1) (n := 6 * 1) (Nat.le_of_ble_eq_true rfl) (Nat.le_of_ble_eq_true rfl) ?_
      exact W.vret hx hb hr (fun t ht hW => ⟨⟨g1, rfl, h, by rw [ht]; exact hP, va_K.moved hW.alike hK, hD⟩, hS.F ht⟩) hS.2.2 d_sc_traceLevel_35
    · have h := h.2 hc
      exact zz_thr 0 hx hb hlt hown hts hN hU hP hK hD hS thf_0 thl_0 thi_0 th1_0 th2_0 th3_0 (hl.1.trans hml.symm) d_sc_traceLevel_11 d_sc_traceLevel_14 d_sc_traceLevel_15 d_sc_traceLevel_18 hout (Nat.le_of_ble_eq_true rfl) (Nat.le_of_ble_eq_true rfl) (Nat.le_of_ble_eq_true rfl) (Nat.le_of_ble_eq_true rfl) hlocks (Nat.le_of_ble_eq_true rfl) (Nat.le_of_ble_eq_true rfl) h
abbrev rm_sc_contours : Room := { frames := 7, cells := 1, slots := 6, locals := 143 }
set_option maxHeartbeats 4000000 in
set_option maxRecDepth 100000 in
theorem mc_sc_contours (l : Launch) (hlt : l.stackTraces = false) (dC : Nat → ClassId) (dI : Nat → Nat → Nat) (a : Nat → Nat) (cI cZ : ClassId) (sz : Nat) (x1 : Int32) (g : St) (post : Int32 → St → Prop) (px : Nat → St → Prop) (h : wp_sc_contours x1 g post px) : vx_Met l yy_sc_contours ww_sc_contours rm_sc_contours (zz_PreX (dC, dI) (wC a cI cZ) [(cI, .int), (cZ, .boolean)] [.ref (a 0), .int x1] g sz) (va_Qi post (zz_W (dC, dI) (wC a cI cZ) [(cI, .int), (cZ, .boolean)] (va_A (wC a cI cZ g) sz)) (va_A (wC a cI cZ g) sz)) (zz_X (dC, dI) (wC a cI cZ) [(cI, .int), (cZ, .boolean)] (va_A (wC a cI cZ g) sz) px) 1 (6 * 1) (va_A (wC a cI cZ g) sz) := by
  refine vx_ofW (cc := cc_sc_contours) (maxL := 2) (ret := (some .int)) (by decide) rfl ?_
  intro p e s m args below meth c s₁ B hml hout hv
  obtain ⟨hav, hsz, hP, hK, hD0, hN, hU⟩ := hv
  have hx := B.exec
  have hb := B.bytes
  have hr := B.returns
  have hts := atoms_spec (ws := ww_sc_contours) B.pre
  have hown : s.vm.findClass "SpotContours" = some m.cls := findClass_of_methodNamed B.named
  have hlocks := B.notSynchronized
  subst hsz
  have hD := hD0.self (sz := s.heap.size)
  generalize hAe : va_A (wC a cI cZ g) s.heap.size = A at hD hU ⊢
  have hA : ∀ q : Nat, s.heap.size ≤ q → A q := fun q h => by rw [← hAe]; exact Or.inr h
  have hS : va_S A s.heap s.heap [] := va_S.rf
  have he9 := lg_entry_eq m [.ref (a 0), .int x1] 2
  rw [← hav] at he9
  rw [he9]
  have hl := lv_entry [.ref (a 0), .int x1] (n := 2) (Nat.le_of_ble_eq_true rfl)
  generalize (lg_sl [.ref (a 0), .int x1] ++ List.replicate (2 - (lg_sl [.ref (a 0), .int x1]).length) Slot.unset).toArray = ls at hl ⊢
  have hl : lv_has ls 2 [(0, .ref (a 0)), (1, .int x1)] := hl
  have hin__sc : ∀ w ∈ u_ws R_sc T_sc 4, w ∈ ww_sc_contours := fun w h => zz_in (hin0_sc w h)
  have fl_26 := hts (.fieldLink "SpotContours" 26 "SpotContours" "lines" "LSpotContours$Lines;") (zz_in wm_376)
  unfold wp_sc_contours at h
  refine lv_aload_n hx hb d_sc_contours_0 rfl (lv_at hl 0 rfl) ?_
  refine lv_iload_n hx hb d_sc_contours_1 rfl (lv_at hl 1 rfl) ?_
  refine zz_cvx (vx_runV (As := [.int x1]) (rest := []) ⟨hx, hb, hml, hown, hts⟩ (mc_sc_traceLevel l hlt dC dI a cI cZ _ x1 g _ _ h) (zz_cwV 1 hts (zz_good wm_184) rfl rfl rfl wm_185 wm_186 wm_187 wm_10 (by decide +kernel) ⟨Nat.le_of_ble_eq_true rfl, Nat.le_of_ble_eq_true rfl⟩) ⟨zz_blindX, (va_recv hK hP rfl (wC_0 a cI cZ g)), zz_preX hP hK hD hN hS hA hU⟩ rfl rfl hl.1 rfl (lv_room (Nat.le_of_ble_eq_true rfl)) d_sc_contours_2 ⟨Nat.le_of_ble_eq_true rfl, Nat.le_of_ble_eq_true rfl⟩) hD hS hA hout hlocks (Nat.le_of_ble_eq_true rfl) (Nat.le_of_ble_eq_true rfl) (fun g1 H locs h hP hD hS => ?_)
  refine lv_aload_n hx hb d_sc_contours_5 rfl (lv_at hl 0 rfl) ?_
  refine va_get (D := (dC, dI)) (ci := 4) (v := .ref (a 3)) (C := R_sc) (T := T_sc) (N := 4) hx hb hts hin__sc hown hK hP 0 (wC_0 a cI cZ g1) rfl 2 (by decide) fl_26 (fun _ h9 => h9) rfl d_sc_contours_6 ?_
  refine zz_ci (va_runV (As := []) (rest := []) ⟨hx, hb, hml, hown, hts⟩ (mc_li_size l dC dI a cI cZ _  g1 _ h) (zz_cwV 0 hts (zz_good wm_180) rfl rfl rfl wm_181 wm_182 wm_183 wm_6 (by decide +kernel) ⟨Nat.le_of_ble_eq_true rfl, Nat.le_of_ble_eq_true rfl⟩) ⟨zz_blind, (va_recv hK hP rfl (wC_3 a cI cZ g1)), zz_pre hP hK hD hN⟩ rfl rfl hl.1 rfl (lv_room (Nat.le_of_ble_eq_true rfl)) d_sc_contours_9 ⟨Nat.le_of_ble_eq_true rfl, Nat.le_of_ble_eq_true rfl⟩) hD hS hA (fun r3 g2 H locs h hP hD hS => ?_)
  refine vx_ret ?_
  refine W.widen (k := 1) (n := 6 * 1) (Nat.le_of_ble_eq_true rfl) (Nat.le_of_ble_eq_true rfl) ?_
  exact W.iret (v := r3) hx hb hr (fun t ht hW => ⟨⟨r3, g2, rfl, h, by rw [ht]; exact hP, va_K.moved hW.alike hK, hD⟩, hS.F ht⟩) hS.2.2 d_sc_contours_12
abbrev rm_sc_contour : Room := { frames := 7, cells := 2, slots := 12, locals := 143 }
set_option maxHeartbeats 4000000 in
set_option maxRecDepth 100000 in
theorem mc_sc_contour (l : Launch) (hlt : l.stackTraces = false) (dC : Nat → ClassId) (dI : Nat → Nat → Nat) (a : Nat → Nat) (cI cZ : ClassId) (sz : Nat) (x1 : Int32) (x2 : Int32) (g : St) (post : Int32 → St → Prop) (px : Nat → St → Prop) (h : wp_sc_contour x1 x2 g post px) : vx_Met l yy_sc_contour ww_sc_contour rm_sc_contour (zz_PreX (dC, dI) (wC a cI cZ) [(cI, .int), (cZ, .boolean)] [.ref (a 0), .int x1, .int x2] g sz) (va_Qi post (zz_W (dC, dI) (wC a cI cZ) [(cI, .int), (cZ, .boolean)] (va_A (wC a cI cZ g) sz)) (va_A (wC a cI cZ g) sz)) (zz_X (dC, dI) (wC a cI cZ) [(cI, .int), (cZ, .boolean)] (va_A (wC a cI cZ g) sz) px) 2 (6 * 2) (va_A (wC a cI cZ g) sz) := by
  refine vx_ofW (cc := cc_sc_contour) (maxL := 4) (ret := (some .int)) (by decide) rfl ?_
  intro p e s m args below meth c s₁ B hml hout hv
  obtain ⟨hav, hsz, hP, hK, hD0, hN, hU⟩ := hv
  have hx := B.exec
  have hb := B.bytes
  have hr := B.returns
  have hts := atoms_spec (ws := ww_sc_contour) B.pre
  have hown : s.vm.findClass "SpotContours" = some m.cls := findClass_of_methodNamed B.named
  have hlocks := B.notSynchronized
  subst hsz
  have hD := hD0.self (sz := s.heap.size)
  generalize hAe : va_A (wC a cI cZ g) s.heap.size = A at hD hU ⊢
  have hA : ∀ q : Nat, s.heap.size ≤ q → A q := fun q h => by rw [← hAe]; exact Or.inr h
  have hS : va_S A s.heap s.heap [] := va_S.rf
  have he9 := lg_entry_eq m [.ref (a 0), .int x1, .int x2] 4
  rw [← hav] at he9
  rw [he9]
  have hl := lv_entry [.ref (a 0), .int x1, .int x2] (n := 4) (Nat.le_of_ble_eq_true rfl)
  generalize (lg_sl [.ref (a 0), .int x1, .int x2] ++ List.replicate (4 - (lg_sl [.ref (a 0), .int x1, .int x2]).length) Slot.unset).toArray = ls at hl ⊢
  have hl : lv_has ls 4 [(0, .ref (a 0)), (1, .int x1), (2, .int x2)] := hl
  have hin__sc : ∀ w ∈ u_ws R_sc T_sc 4, w ∈ ww_sc_contour := fun w h => zz_in (hin0_sc w h)
  have fl_12 := hts (.fieldLink "SpotContours" 12 "SpotContours" "spots" "LSpotContours$Spots;") (zz_in wm_373)
  have fl_26 := hts (.fieldLink "SpotContours" 26 "SpotContours" "lines" "LSpotContours$Lines;") (zz_in wm_376)
  unfold wp_sc_contour at h
  refine lv_aload_n hx hb d_sc_contour_0 rfl (lv_at hl 0 rfl) ?_
  refine lv_iload_n hx hb d_sc_contour_1 rfl (lv_at hl 1 rfl) ?_
  refine zz_cvx (vx_runV (As := [.int x1]) (rest := []) ⟨hx, hb, hml, hown, hts⟩ (mc_sc_traceLevel l hlt dC dI a cI cZ _ x1 g _ _ h) (zz_cwV 1 hts (zz_good wm_184) rfl rfl rfl wm_185 wm_186 wm_187 wm_10 (by decide +kernel) ⟨Nat.le_of_ble_eq_true rfl, Nat.le_of_ble_eq_true rfl⟩) ⟨zz_blindX, (va_recv hK hP rfl (wC_0 a cI cZ g)), zz_preX hP hK hD hN hS hA hU⟩ rfl rfl hl.1 rfl (lv_room (Nat.le_of_ble_eq_true rfl)) d_sc_contour_2 ⟨Nat.le_of_ble_eq_true rfl, Nat.le_of_ble_eq_true rfl⟩) hD hS hA hout hlocks (Nat.le_of_ble_eq_true rfl) (Nat.le_of_ble_eq_true rfl) (fun g1 H locs h hP hD hS => ?_)
  refine lv_aload_n hx hb d_sc_contour_5 rfl (lv_at hl 0 rfl) ?_
  refine va_get (D := (dC, dI)) (ci := 4) (v := .ref (a 3)) (C := R_sc) (T := T_sc) (N := 4) hx hb hts hin__sc hown hK hP 0 (wC_0 a cI cZ g1) rfl 2 (by decide) fl_26 (fun _ h9 => h9) rfl d_sc_contour_6 ?_
  refine lv_iload_n hx hb d_sc_contour_9 rfl (lv_at hl 2 rfl) ?_
  refine zz_ci (va_runV (As := [.int x2]) (rest := []) ⟨hx, hb, hml, hown, hts⟩ (mc_li_isLine l dC dI a cI cZ _ x2 g1 _ h) (zz_cwV 1 hts (zz_good wm_197) rfl rfl rfl wm_198 wm_199 wm_200 wm_6 (by decide +kernel) ⟨Nat.le_of_ble_eq_true rfl, Nat.le_of_ble_eq_true rfl⟩) ⟨zz_blind, (va_recv hK hP rfl (wC_3 a cI cZ g1)), zz_pre hP hK hD hN⟩ rfl rfl hl.1 rfl (lv_room (Nat.le_of_ble_eq_true rfl)) d_sc_contour_10 ⟨Nat.le_of_ble_eq_true rfl, Nat.le_of_ble_eq_true rfl⟩) hD hS hA (fun r3 g2 H locs h hP hD hS => ?_)
  refine lv_if_ne (tgt := 24) hx hb d_sc_contour_13 (by decide) (fun hc => ?_) (fun hc => ?_)
  · have h := h.1 hc
    refine lv_aload_n hx hb d_sc_contour_24 rfl (lv_at hl 0 rfl) ?_
    refine va_get (D := (dC, dI)) (ci := 4) (v := .ref (a 3)) (C := R_sc) (T := T_sc) (N := 4) hx hb hts hin__sc hown hK hP 0 (wC_0 a cI cZ g2) rfl 2 (by decide) fl_26 (fun _ h9 => h9) rfl d_sc_contour_25 ?_
    refine lv_iload_n hx hb d_sc_contour_28 rfl (lv_at hl 2 rfl) ?_
    refine zz_ci (va_runV (As := [.int x2]) (rest := []) ⟨hx, hb, hml, hown, hts⟩ (mc_li_length l dC dI a cI cZ _ x2 g2 _ h) (zz_cwV 1 hts (zz_good wm_18) rfl rfl rfl wm_196 wm_20 wm_21 wm_6 (by decide +kernel) ⟨Nat.le_of_ble_eq_true rfl, Nat.le_of_ble_eq_true rfl⟩) ⟨zz_blind, (va_recv hK hP rfl (wC_3 a cI cZ g2)), zz_pre hP hK hD hN⟩ rfl rfl hl.1 rfl (lv_room (Nat.le_of_ble_eq_true rfl)) d_sc_contour_29 ⟨Nat.le_of_ble_eq_true rfl, Nat.le_of_ble_eq_true rfl⟩) hD hS hA (fun r5 g4 H locs h hP hD hS => ?_)
    refine lv_istore_n (lv' := [(3, .int r5), (0, .ref (a 0)), (1, .int x1), (2, .int x2)]) hx hb d_sc_contour_32 rfl hl (by decide) rfl (fun ls hl => ?_)
    refine lv_aload_n hx hb d_sc_contour_33 rfl (lv_at hl 1 rfl) ?_
    refine va_get (D := (dC, dI)) (ci := 4) (v := .ref (a 3)) (C := R_sc) (T := T_sc) (N := 4) hx hb hts hin__sc hown hK hP 0 (wC_0 a cI cZ g4) rfl 2 (by decide) fl_26 (fun _ h9 => h9) rfl d_sc_contour_34 ?_
    refine lv_iload_n hx hb d_sc_contour_37 rfl (lv_at hl 3 rfl) ?_
    refine zz_ci (va_runV (As := [.int x2]) (rest := []) ⟨hx, hb, hml, hown, hts⟩ (mc_li_isRing l dC dI a cI cZ _ x2 g4 _ h) (zz_cwV 1 hts (zz_good wm_192) rfl rfl rfl wm_193 wm_194 wm_195 wm_6 (by decide +kernel) ⟨Nat.le_of_ble_eq_true rfl, Nat.le_of_ble_eq_true rfl⟩) ⟨zz_blind, (va_recv hK hP rfl (wC_3 a cI cZ g4)), zz_pre hP hK hD hN⟩ rfl rfl hl.1 rfl (lv_room (Nat.le_of_ble_eq_true rfl)) d_sc_contour_38 ⟨Nat.le_of_ble_eq_true rfl, Nat.le_of_ble_eq_true rfl⟩) hD hS hA (fun r7 g6 H locs h hP hD hS => ?_)
    refine lv_if_ne (tgt := 46) hx hb d_sc_contour_41 (by decide) (fun hc => ?_) (fun hc => ?_)
    · have h := h.1 hc
      refine lv_aload_n hx hb d_sc_contour_46 rfl (lv_at hl 1 rfl) ?_
      refine va_get (D := (dC, dI)) (ci := 4) (v := .ref (a 3)) (C := R_sc) (T := T_sc) (N := 4) hx hb hts hin__sc hown hK hP 0 (wC_0 a cI cZ g6) rfl 2 (by decide) fl_26 (fun _ h9 => h9) rfl d_sc_contour_47 ?_
      refine lv_aload_n hx hb d_sc_contour_50 rfl (lv_at hl 1 rfl) ?_
      refine va_get (D := (dC, dI)) (ci := 4) (v := .ref (a 1)) (C := R_sc) (T := T_sc) (N := 4) hx hb hts hin__sc hown hK hP 0 (wC_0 a cI cZ g6) rfl 0 (by decide) fl_12 (fun _ h9 => h9) rfl d_sc_contour_51 ?_
      refine lv_iload_n hx hb d_sc_contour_54 rfl (lv_at hl 3 rfl) ?_
      refine zz_ci (va_runV (As := [.ref (a 1), .int x2]) (rest := []) ⟨hx, hb, hml, hown, hts⟩ (mc_li_isHollow l dC dI a cI cZ _ x2 g6 _ h) (zz_cwV 2 hts (zz_good wm_188) rfl rfl rfl wm_189 wm_190 wm_191 wm_6 (by decide +kernel) ⟨Nat.le_of_ble_eq_true rfl, Nat.le_of_ble_eq_true rfl⟩) ⟨zz_blind, (va_recv hK hP rfl (wC_3 a cI cZ g6)), zz_pre hP hK hD hN⟩ rfl rfl hl.1 rfl (lv_room (Nat.le_of_ble_eq_true rfl)) d_sc_contour_55 ⟨Nat.le_of_ble_eq_true rfl, Nat.le_of_ble_eq_true rfl⟩) hD hS hA (fun r9 g8 H locs h hP hD hS => ?_)
      refine lv_if_eq (tgt := 69) hx hb d_sc_contour_58 (by decide) (fun hc => ?_) (fun hc => ?_)
      · have h := h.1 hc
        refine lv_iload_n hx hb d_sc_contour_69 rfl (lv_at hl 0 rfl) ?_
        refine lv_sipush (v := 1000) hx hb d_sc_contour_70 (by decide) ?_
        refine lv_iadd hx hb d_sc_contour_73 ?_
        refine vx_ret ?_
        refine W.widen (k := 2) (n := 6 * 2) (Nat.le_of_ble_eq_true rfl) (Nat.le_of_ble_eq_true rfl) ?_
        exact W.iret (v := (r5 + 1000)) hx hb hr (fun t ht hW => ⟨⟨(r5 + 1000), g8, rfl, h, by rw [ht]; exact hP, va_K.moved hW.alike hK, hD⟩, hS.F ht⟩) hS.2.2 d_sc_contour_74
      · have h := h.2 hc
        refine lv_iload_n hx hb d_sc_contour_61 rfl (lv_at hl 0 rfl) ?_
        refine lv_sipush (v := 2000) hx hb d_sc_contour_62 (by decide) ?_
        refine lv_iadd hx hb d_sc_contour_65 ?_
        refine lv_goto (tgt := 74) hx hb d_sc_contour_66 (by decide) ?_
        refine vx_ret ?_
        refine W.widen (k := 2) (n := 6 * 2) (Nat.le_of_ble_eq_true rfl) (Nat.le_of_ble_eq_true rfl) ?_
        exact W.iret (v := (r5 + 2000)) hx hb hr (fun t ht hW => ⟨⟨(r5 + 2000), g8, rfl, h, by rw [ht]; exact hP, va_K.moved hW.alike hK, hD⟩, hS.F ht⟩) hS.2.2 d_sc_contour_74
    · have h := h.2 hc
      refine lv_iload_n hx hb d_sc_contour_44 rfl (lv_at hl 0 rfl) ?_
      refine vx_ret ?_
      refine W.widen (k := 2) (n := 6 * 2) (Nat.le_of_ble_eq_true rfl) (Nat.le_of_ble_eq_true rfl) ?_
      exact W.iret (v := r5) hx hb hr (fun t ht hW => ⟨⟨r5, g6, rfl, h, by rw [ht]; exact hP, va_K.moved hW.alike hK, hD⟩, hS.F ht⟩) hS.2.2 d_sc_contour_45
  · have h := h.2 hc
    exact zz_thr 2 hx hb hlt hown hts hN hU hP hK hD hS thf_2 thl_2 thi_2 th1_2 th2_2 th3_2 (hl.1.trans hml.symm) d_sc_contour_16 d_sc_contour_19 d_sc_contour_20 d_sc_contour_23 hout (Nat.le_of_ble_eq_true rfl) (Nat.le_of_ble_eq_true rfl) (Nat.le_of_ble_eq_true rfl) (Nat.le_of_ble_eq_true rfl) hlocks (Nat.le_of_ble_eq_true rfl) (Nat.le_of_ble_eq_true rfl) h
abbrev rm_sc_pairAt : Room := { frames := 6, cells := 1, slots := 6, locals := 81 }
set_option maxHeartbeats 4000000 in
set_option maxRecDepth 100000 in
theorem mc_sc_pairAt (l : Launch) (hlt : l.stackTraces = false) (dC : Nat → ClassId) (dI : Nat → Nat → Nat) (a : Nat → Nat) (cI cZ : ClassId) (sz : Nat) (x1 : Int32) (x2 : Int32) (g : St) (post : Int32 → St → Prop) (px : Nat → St → Prop) (h : wp_sc_pairAt x1 x2 g post px) : vx_Met l yy_sc_pairAt ww_sc_pairAt rm_sc_pairAt (zz_PreX (dC, dI) (wC a cI cZ) [(cI, .int), (cZ, .boolean)] [.ref (a 0), .int x1, .int x2] g sz) (va_Qi post (zz_W (dC, dI) (wC a cI cZ) [(cI, .int), (cZ, .boolean)] (va_A (wC a cI cZ g) sz)) (va_A (wC a cI cZ g) sz)) (zz_X (dC, dI) (wC a cI cZ) [(cI, .int), (cZ, .boolean)] (va_A (wC a cI cZ g) sz) px) 1 (6 * 1) (va_A (wC a cI cZ g) sz) := by
  refine vx_ofW (cc := cc_sc_pairAt) (maxL := 3) (ret := (some .int)) (by decide) rfl ?_
  intro p e s m args below meth c s₁ B hml hout hv
  obtain ⟨hav, hsz, hP, hK, hD0, hN, hU⟩ := hv
  have hx := B.exec
  have hb := B.bytes
  have hr := B.returns
  have hts := atoms_spec (ws := ww_sc_pairAt) B.pre
  have hown : s.vm.findClass "SpotContours" = some m.cls := findClass_of_methodNamed B.named
  have hlocks := B.notSynchronized
  subst hsz
  have hD := hD0.self (sz := s.heap.size)
  generalize hAe : va_A (wC a cI cZ g) s.heap.size = A at hD hU ⊢
  have hA : ∀ q : Nat, s.heap.size ≤ q → A q := fun q h => by rw [← hAe]; exact Or.inr h
  have hS : va_S A s.heap s.heap [] := va_S.rf
  have he9 := lg_entry_eq m [.ref (a 0), .int x1, .int x2] 3
  rw [← hav] at he9
  rw [he9]
  have hl := lv_entry [.ref (a 0), .int x1, .int x2] (n := 3) (Nat.le_of_ble_eq_true rfl)
  generalize (lg_sl [.ref (a 0), .int x1, .int x2] ++ List.replicate (3 - (lg_sl [.ref (a 0), .int x1, .int x2]).length) Slot.unset).toArray = ls at hl ⊢
  have hl : lv_has ls 3 [(0, .ref (a 0)), (1, .int x1), (2, .int x2)] := hl
  have hin__sc : ∀ w ∈ u_ws R_sc T_sc 4, w ∈ ww_sc_pairAt := fun w h => zz_in (hin0_sc w h)
  have fl_26 := hts (.fieldLink "SpotContours" 26 "SpotContours" "lines" "LSpotContours$Lines;") (zz_in wm_376)
  unfold wp_sc_pairAt at h
  refine lv_aload_n hx hb d_sc_pairAt_0 rfl (lv_at hl 0 rfl) ?_
  refine va_get (D := (dC, dI)) (ci := 4) (v := .ref (a 3)) (C := R_sc) (T := T_sc) (N := 4) hx hb hts hin__sc hown hK hP 0 (wC_0 a cI cZ g) rfl 2 (by decide) fl_26 (fun _ h9 => h9) rfl d_sc_pairAt_1 ?_
  refine lv_iload_n hx hb d_sc_pairAt_4 rfl (lv_at hl 1 rfl) ?_
  refine zz_ci (va_runV (As := [.int x1]) (rest := []) ⟨hx, hb, hml, hown, hts⟩ (mc_li_isLine l dC dI a cI cZ _ x1 g _ h) (zz_cwV 1 hts (zz_good wm_197) rfl rfl rfl wm_198 wm_199 wm_200 wm_6 (by decide +kernel) ⟨Nat.le_of_ble_eq_true rfl, Nat.le_of_ble_eq_true rfl⟩) ⟨zz_blind, (va_recv hK hP rfl (wC_3 a cI cZ g)), zz_pre hP hK hD hN⟩ rfl rfl hl.1 rfl (lv_room (Nat.le_of_ble_eq_true rfl)) d_sc_pairAt_5 ⟨Nat.le_of_ble_eq_true rfl, Nat.le_of_ble_eq_true rfl⟩) hD hS hA (fun r2 g1 H locs h hP hD hS => ?_)
  refine lv_if_eq (tgt := 27) hx hb d_sc_pairAt_8 (by decide) (fun hc => ?_) (fun hc => ?_)
  · have h := h.1 hc
    exact zz_thr 2 hx hb hlt hown hts hN hU hP hK hD hS thf_2 thl_2 thi_2 th1_2 th2_2 th3_2 (hl.1.trans hml.symm) d_sc_pairAt_27 d_sc_pairAt_30 d_sc_pairAt_31 d_sc_pairAt_34 hout (Nat.le_of_ble_eq_true rfl) (Nat.le_of_ble_eq_true rfl) (Nat.le_of_ble_eq_true rfl) (Nat.le_of_ble_eq_true rfl) hlocks (Nat.le_of_ble_eq_true rfl) (Nat.le_of_ble_eq_true rfl) h
  · have h := h.2 hc
    refine lv_iload_n hx hb d_sc_pairAt_11 rfl (lv_at hl 2 rfl) ?_
    refine lv_if_lt (tgt := 27) hx hb d_sc_pairAt_12 (by decide) (fun hc => ?_) (fun hc => ?_)
    · have h := h.1 hc
      exact zz_thr 2 hx hb hlt hown hts hN hU hP hK hD hS thf_2 thl_2 thi_2 th1_2 th2_2 th3_2 (hl.1.trans hml.symm) d_sc_pairAt_27 d_sc_pairAt_30 d_sc_pairAt_31 d_sc_pairAt_34 hout (Nat.le_of_ble_eq_true rfl) (Nat.le_of_ble_eq_true rfl) (Nat.le_of_ble_eq_true rfl) (Nat.le_of_ble_eq_true rfl) hlocks (Nat.le_of_ble_eq_true rfl) (Nat.le_of_ble_eq_true rfl) h
    · have h := h.2 hc
      refine lv_iload_n hx hb d_sc_pairAt_15 rfl (lv_at hl 2 rfl) ?_
      refine lv_aload_n hx hb d_sc_pairAt_16 rfl (lv_at hl 0 rfl) ?_
      refine va_get (D := (dC, dI)) (ci := 4) (v := .ref (a 3)) (C := R_sc) (T := T_sc) (N := 4) hx hb hts hin__sc hown hK hP 0 (wC_0 a cI cZ g1) rfl 2 (by decide) fl_26 (fun _ h9 => h9) rfl d_sc_pairAt_17 ?_
      refine lv_iload_n hx hb d_sc_pairAt_20 rfl (lv_at hl 1 rfl) ?_
      refine zz_ci (va_runV (As := [.int x1]) (rest := [.int x2]) ⟨hx, hb, hml, hown, hts⟩ (mc_li_length l dC dI a cI cZ _ x1 g1 _ h) (zz_cwV 1 hts (zz_good wm_18) rfl rfl rfl wm_196 wm_20 wm_21 wm_6 (by decide +kernel) ⟨Nat.le_of_ble_eq_true rfl, Nat.le_of_ble_eq_true rfl⟩) ⟨zz_blind, (va_recv hK hP rfl (wC_3 a cI cZ g1)), zz_pre hP hK hD hN⟩ rfl rfl hl.1 rfl (lv_room (Nat.le_of_ble_eq_true rfl)) d_sc_pairAt_21 ⟨Nat.le_of_ble_eq_true rfl, Nat.le_of_ble_eq_true rfl⟩) hD hS hA (fun r4 g3 H locs h hP hD hS => ?_)
      refine lv_icmp_lt (tgt := 35) hx hb d_sc_pairAt_24 (by decide) (fun hc => ?_) (fun hc => ?_)
      · have h := h.1 hc
        refine lv_aload_n hx hb d_sc_pairAt_35 rfl (lv_at hl 0 rfl) ?_
        refine va_get (D := (dC, dI)) (ci := 4) (v := .ref (a 3)) (C := R_sc) (T := T_sc) (N := 4) hx hb hts hin__sc hown hK hP 0 (wC_0 a cI cZ g3) rfl 2 (by decide) fl_26 (fun _ h9 => h9) rfl d_sc_pairAt_36 ?_
        refine lv_iload_n hx hb d_sc_pairAt_39 rfl (lv_at hl 1 rfl) ?_
        refine lv_iload_n hx hb d_sc_pairAt_40 rfl (lv_at hl 2 rfl) ?_
        refine zz_ci (va_runV (As := [.int x1, .int x2]) (rest := []) ⟨hx, hb, hml, hown, hts⟩ (mc_li_pair l dC dI a cI cZ _ x1 x2 g3 _ h) (zz_cwV 2 hts (zz_good wm_12) rfl rfl rfl wm_201 wm_14 wm_15 wm_6 (by decide +kernel) ⟨Nat.le_of_ble_eq_true rfl, Nat.le_of_ble_eq_true rfl⟩) ⟨zz_blind, (va_recv hK hP rfl (wC_3 a cI cZ g3)), zz_pre hP hK hD hN⟩ rfl rfl hl.1 rfl (lv_room (Nat.le_of_ble_eq_true rfl)) d_sc_pairAt_41 ⟨Nat.le_of_ble_eq_true rfl, Nat.le_of_ble_eq_true rfl⟩) hD hS hA (fun r6 g5 H locs h hP hD hS => ?_)
        refine vx_ret ?_
        refine W.widen (k := 1) (n := 6 * 1) (Nat.le_of_ble_eq_true rfl) (Nat.le_of_ble_eq_true rfl) ?_
        exact W.iret (v := r6) hx hb hr (fun t ht hW => ⟨⟨r6, g5, rfl, h, by rw [ht]; exact hP, va_K.moved hW.alike hK, hD⟩, hS.F ht⟩) hS.2.2 d_sc_pairAt_44
      · have h := h.2 hc
        exact zz_thr 2 hx hb hlt hown hts hN hU hP hK hD hS thf_2 thl_2 thi_2 th1_2 th2_2 th3_2 (hl.1.trans hml.symm) d_sc_pairAt_27 d_sc_pairAt_30 d_sc_pairAt_31 d_sc_pairAt_34 hout (Nat.le_of_ble_eq_true rfl) (Nat.le_of_ble_eq_true rfl) (Nat.le_of_ble_eq_true rfl) (Nat.le_of_ble_eq_true rfl) hlocks (Nat.le_of_ble_eq_true rfl) (Nat.le_of_ble_eq_true rfl) h
abbrev rm_sc_crossing : Room := { frames := 7, cells := 2, slots := 12, locals := 143 }
set_option maxHeartbeats 4000000 in
set_option maxRecDepth 100000 in
theorem mc_sc_crossing (l : Launch) (hlt : l.stackTraces = false) (dC : Nat → ClassId) (dI : Nat → Nat → Nat) (a : Nat → Nat) (cI cZ : ClassId) (sz : Nat) (x1 : Int32) (x2 : Int32) (x3 : Int32) (g : St) (post : Int32 → St → Prop) (px : Nat → St → Prop) (h : wp_sc_crossing x1 x2 x3 g post px) : vx_Met l yy_sc_crossing ww_sc_crossing rm_sc_crossing (zz_PreX (dC, dI) (wC a cI cZ) [(cI, .int), (cZ, .boolean)] [.ref (a 0), .int x1, .int x2, .int x3] g sz) (va_Qi post (zz_W (dC, dI) (wC a cI cZ) [(cI, .int), (cZ, .boolean)] (va_A (wC a cI cZ g) sz)) (va_A (wC a cI cZ g) sz)) (zz_X (dC, dI) (wC a cI cZ) [(cI, .int), (cZ, .boolean)] (va_A (wC a cI cZ g) sz) px) 2 (6 * 2) (va_A (wC a cI cZ g) sz) := by
  refine vx_ofW (cc := cc_sc_crossing) (maxL := 7) (ret := (some .int)) (by decide) rfl ?_
  intro p e s m args below meth c s₁ B hml hout hv
  obtain ⟨hav, hsz, hP, hK, hD0, hN, hU⟩ := hv
  have hx := B.exec
  have hb := B.bytes
  have hr := B.returns
  have hts := atoms_spec (ws := ww_sc_crossing) B.pre
  have hown : s.vm.findClass "SpotContours" = some m.cls := findClass_of_methodNamed B.named
  have hlocks := B.notSynchronized
  subst hsz
  have hD := hD0.self (sz := s.heap.size)
  generalize hAe : va_A (wC a cI cZ g) s.heap.size = A at hD hU ⊢
  have hA : ∀ q : Nat, s.heap.size ≤ q → A q := fun q h => by rw [← hAe]; exact Or.inr h
  have hS : va_S A s.heap s.heap [] := va_S.rf
  have he9 := lg_entry_eq m [.ref (a 0), .int x1, .int x2, .int x3] 7
  rw [← hav] at he9
  rw [he9]
  have hl := lv_entry [.ref (a 0), .int x1, .int x2, .int x3] (n := 7) (Nat.le_of_ble_eq_true rfl)
  generalize (lg_sl [.ref (a 0), .int x1, .int x2, .int x3] ++ List.replicate (7 - (lg_sl [.ref (a 0), .int x1, .int x2, .int x3]).length) Slot.unset).toArray = ls at hl ⊢
  have hl : lv_has ls 7 [(0, .ref (a 0)), (1, .int x1), (2, .int x2), (3, .int x3)] := hl
  unfold wp_sc_crossing at h
  refine lv_aload_n hx hb d_sc_crossing_0 rfl (lv_at hl 0 rfl) ?_
  refine lv_iload_n hx hb d_sc_crossing_1 rfl (lv_at hl 1 rfl) ?_
  refine zz_cvx (vx_runV (As := [.int x1]) (rest := []) ⟨hx, hb, hml, hown, hts⟩ (mc_sc_traceLevel l hlt dC dI a cI cZ _ x1 g _ _ h) (zz_cwV 1 hts (zz_good wm_184) rfl rfl rfl wm_185 wm_186 wm_187 wm_10 (by decide +kernel) ⟨Nat.le_of_ble_eq_true rfl, Nat.le_of_ble_eq_true rfl⟩) ⟨zz_blindX, (va_recv hK hP rfl (wC_0 a cI cZ g)), zz_preX hP hK hD hN hS hA hU⟩ rfl rfl hl.1 rfl (lv_room (Nat.le_of_ble_eq_true rfl)) d_sc_crossing_2 ⟨Nat.le_of_ble_eq_true rfl, Nat.le_of_ble_eq_true rfl⟩) hD hS hA hout hlocks (Nat.le_of_ble_eq_true rfl) (Nat.le_of_ble_eq_true rfl) (fun g1 H locs h hP hD hS => ?_)
  refine lv_aload_n hx hb d_sc_crossing_5 rfl (lv_at hl 0 rfl) ?_
  refine lv_iload_n hx hb d_sc_crossing_6 rfl (lv_at hl 2 rfl) ?_
  refine lv_iload_n hx hb d_sc_crossing_7 rfl (lv_at hl 3 rfl) ?_
  refine zz_cix (vx_runV (As := [.int x2, .int x3]) (rest := []) ⟨hx, hb, hml, hown, hts⟩ (mc_sc_pairAt l hlt dC dI a cI cZ _ x2 x3 g1 _ _ h) (zz_cwV 2 hts (zz_good wm_210) rfl rfl rfl wm_211 wm_212 wm_213 wm_10 (by decide +kernel) ⟨Nat.le_of_ble_eq_true rfl, Nat.le_of_ble_eq_true rfl⟩) ⟨zz_blindX, (va_recv hK hP rfl (wC_0 a cI cZ g1)), zz_preX hP hK hD hN hS hA hU⟩ rfl rfl hl.1 rfl (lv_room (Nat.le_of_ble_eq_true rfl)) d_sc_crossing_8 ⟨Nat.le_of_ble_eq_true rfl, Nat.le_of_ble_eq_true rfl⟩) hD hS hA hout hlocks (Nat.le_of_ble_eq_true rfl) (Nat.le_of_ble_eq_true rfl) (fun r3 g2 H locs h hP hD hS => ?_)
  refine lv_istore (lv' := [(4, .int r3), (0, .ref (a 0)), (1, .int x1), (2, .int x2), (3, .int x3)]) hx hb d_sc_crossing_11 hl (by decide) rfl (fun ls hl => ?_)
  refine lv_iload hx hb d_sc_crossing_13 (lv_at hl 0 rfl) ?_
  refine zz_ci (va_runS (As := [.int r3]) (rest := []) ⟨hx, hb, hml, hown, hts⟩ (mc_sc_highOf l dC dI a cI cZ _ r3 g2 _ h) (zz_cwS 1 hts (zz_good wm_16) rfl rfl rfl wm_209 wm_17 wm_10 (by decide +kernel) ⟨Nat.le_of_ble_eq_true rfl, Nat.le_of_ble_eq_true rfl⟩) ⟨zz_blind, zz_pre hP hK hD hN⟩ rfl rfl hl.1 rfl (lv_room (Nat.le_of_ble_eq_true rfl)) d_sc_crossing_15 ⟨Nat.le_of_ble_eq_true rfl, Nat.le_of_ble_eq_true rfl⟩) hD hS hA (fun r5 g4 H locs h hP hD hS => ?_)
  refine lv_istore (lv' := [(5, .int r5), (4, .int r3), (0, .ref (a 0)), (1, .int x1), (2, .int x2), (3, .int x3)]) hx hb d_sc_crossing_18 hl (by decide) rfl (fun ls hl => ?_)
  refine lv_iload hx hb d_sc_crossing_20 (lv_at hl 1 rfl) ?_
  refine zz_ci (va_runS (As := [.int r3]) (rest := []) ⟨hx, hb, hml, hown, hts⟩ (mc_sc_lowOf l dC dI a cI cZ _ r3 g4 _ h) (zz_cwS 1 hts (zz_good wm_9) rfl rfl rfl wm_208 wm_11 wm_10 (by decide +kernel) ⟨Nat.le_of_ble_eq_true rfl, Nat.le_of_ble_eq_true rfl⟩) ⟨zz_blind, zz_pre hP hK hD hN⟩ rfl rfl hl.1 rfl (lv_room (Nat.le_of_ble_eq_true rfl)) d_sc_crossing_22 ⟨Nat.le_of_ble_eq_true rfl, Nat.le_of_ble_eq_true rfl⟩) hD hS hA (fun r7 g6 H locs h hP hD hS => ?_)
  refine lv_istore (lv' := [(6, .int r7), (5, .int r5), (4, .int r3), (0, .ref (a 0)), (1, .int x1), (2, .int x2), (3, .int x3)]) hx hb d_sc_crossing_25 hl (by decide) rfl (fun ls hl => ?_)
  refine lv_bipush (v := 16) hx hb d_sc_crossing_27 (by decide) ?_
  refine lv_iload hx hb d_sc_crossing_29 (lv_at hl 1 rfl) ?_
  refine lv_iload hx hb d_sc_crossing_31 (lv_at hl 0 rfl) ?_
  refine va_mmin hx hb (hml.trans hl.1.symm) hown (hts _ (zz_in wm_202)) (hts _ (zz_in wm_203)) (hts _ (zz_in wm_106)) (hts _ (zz_in wm_204)) (by exact Nat.le_of_ble_eq_true rfl) (by exact Nat.le_of_ble_eq_true rfl) (by exact Nat.le_of_ble_eq_true rfl) (by exact Nat.le_of_ble_eq_true rfl) d_sc_crossing_33 ?_
  refine lv_imul hx hb d_sc_crossing_36 ?_
  refine lv_iload hx hb d_sc_crossing_37 (lv_at hl 1 rfl) ?_
  refine lv_iload hx hb d_sc_crossing_39 (lv_at hl 0 rfl) ?_
  refine va_mmax hx hb (hml.trans hl.1.symm) hown (hts _ (zz_in wm_205)) (hts _ (zz_in wm_206)) (hts _ (zz_in wm_106)) (hts _ (zz_in wm_207)) (by exact Nat.le_of_ble_eq_true rfl) (by exact Nat.le_of_ble_eq_true rfl) (by exact Nat.le_of_ble_eq_true rfl) (by exact Nat.le_of_ble_eq_true rfl) d_sc_crossing_41 ?_
  refine lv_iadd hx hb d_sc_crossing_44 ?_
  refine vx_ret ?_
  refine W.widen (k := 2) (n := 6 * 2) (Nat.le_of_ble_eq_true rfl) (Nat.le_of_ble_eq_true rfl) ?_
  exact W.iret (v := ((16 * (if r7 < r5 then r7 else r5)) + (if r5 < r7 then r7 else r5))) hx hb hr (fun t ht hW => ⟨⟨((16 * (if r7 < r5 then r7 else r5)) + (if r5 < r7 then r7 else r5)), g6, rfl, h, by rw [ht]; exact hP, va_K.moved hW.alike hK, hD⟩, hS.F ht⟩) hS.2.2 d_sc_crossing_45
abbrev rm_sc_place : Room := { frames := 7, cells := 2, slots := 12, locals := 143 }
set_option maxHeartbeats 4000000 in
set_option maxRecDepth 100000 in
theorem mc_sc_place (l : Launch) (hlt : l.stackTraces = false) (dC : Nat → ClassId) (dI : Nat → Nat → Nat) (a : Nat → Nat) (cI cZ : ClassId) (sz : Nat) (x1 : Int32) (x2 : Int32) (x3 : Int32) (g : St) (post : Int32 → St → Prop) (px : Nat → St → Prop) (h : wp_sc_place x1 x2 x3 g post px) : vx_Met l yy_sc_place ww_sc_place rm_sc_place (zz_PreX (dC, dI) (wC a cI cZ) [(cI, .int), (cZ, .boolean)] [.ref (a 0), .int x1, .int x2, .int x3] g sz) (va_Qi post (zz_W (dC, dI) (wC a cI cZ) [(cI, .int), (cZ, .boolean)] (va_A (wC a cI cZ g) sz)) (va_A (wC a cI cZ g) sz)) (zz_X (dC, dI) (wC a cI cZ) [(cI, .int), (cZ, .boolean)] (va_A (wC a cI cZ g) sz) px) 2 (6 * 2) (va_A (wC a cI cZ g) sz) := by
  refine vx_ofW (cc := cc_sc_place) (maxL := 5) (ret := (some .int)) (by decide) rfl ?_
  intro p e s m args below meth c s₁ B hml hout hv
  obtain ⟨hav, hsz, hP, hK, hD0, hN, hU⟩ := hv
  have hx := B.exec
  have hb := B.bytes
  have hr := B.returns
  have hts := atoms_spec (ws := ww_sc_place) B.pre
  have hown : s.vm.findClass "SpotContours" = some m.cls := findClass_of_methodNamed B.named
  have hlocks := B.notSynchronized
  subst hsz
  have hD := hD0.self (sz := s.heap.size)
  generalize hAe : va_A (wC a cI cZ g) s.heap.size = A at hD hU ⊢
  have hA : ∀ q : Nat, s.heap.size ≤ q → A q := fun q h => by rw [← hAe]; exact Or.inr h
  have hS : va_S A s.heap s.heap [] := va_S.rf
  have he9 := lg_entry_eq m [.ref (a 0), .int x1, .int x2, .int x3] 5
  rw [← hav] at he9
  rw [he9]
  have hl := lv_entry [.ref (a 0), .int x1, .int x2, .int x3] (n := 5) (Nat.le_of_ble_eq_true rfl)
  generalize (lg_sl [.ref (a 0), .int x1, .int x2, .int x3] ++ List.replicate (5 - (lg_sl [.ref (a 0), .int x1, .int x2, .int x3]).length) Slot.unset).toArray = ls at hl ⊢
  have hl : lv_has ls 5 [(0, .ref (a 0)), (1, .int x1), (2, .int x2), (3, .int x3)] := hl
  have hin__sc : ∀ w ∈ u_ws R_sc T_sc 4, w ∈ ww_sc_place := fun w h => zz_in (hin0_sc w h)
  have fl_12 := hts (.fieldLink "SpotContours" 12 "SpotContours" "spots" "LSpotContours$Spots;") (zz_in wm_373)
  unfold wp_sc_place at h
  refine lv_aload_n hx hb d_sc_place_0 rfl (lv_at hl 0 rfl) ?_
  refine lv_iload_n hx hb d_sc_place_1 rfl (lv_at hl 1 rfl) ?_
  refine zz_cvx (vx_runV (As := [.int x1]) (rest := []) ⟨hx, hb, hml, hown, hts⟩ (mc_sc_traceLevel l hlt dC dI a cI cZ _ x1 g _ _ h) (zz_cwV 1 hts (zz_good wm_184) rfl rfl rfl wm_185 wm_186 wm_187 wm_10 (by decide +kernel) ⟨Nat.le_of_ble_eq_true rfl, Nat.le_of_ble_eq_true rfl⟩) ⟨zz_blindX, (va_recv hK hP rfl (wC_0 a cI cZ g)), zz_preX hP hK hD hN hS hA hU⟩ rfl rfl hl.1 rfl (lv_room (Nat.le_of_ble_eq_true rfl)) d_sc_place_2 ⟨Nat.le_of_ble_eq_true rfl, Nat.le_of_ble_eq_true rfl⟩) hD hS hA hout hlocks (Nat.le_of_ble_eq_true rfl) (Nat.le_of_ble_eq_true rfl) (fun g1 H locs h hP hD hS => ?_)
  refine lv_aload_n hx hb d_sc_place_5 rfl (lv_at hl 0 rfl) ?_
  refine lv_iload_n hx hb d_sc_place_6 rfl (lv_at hl 2 rfl) ?_
  refine lv_iload_n hx hb d_sc_place_7 rfl (lv_at hl 3 rfl) ?_
  refine zz_cix (vx_runV (As := [.int x2, .int x3]) (rest := []) ⟨hx, hb, hml, hown, hts⟩ (mc_sc_pairAt l hlt dC dI a cI cZ _ x2 x3 g1 _ _ h) (zz_cwV 2 hts (zz_good wm_210) rfl rfl rfl wm_211 wm_212 wm_213 wm_10 (by decide +kernel) ⟨Nat.le_of_ble_eq_true rfl, Nat.le_of_ble_eq_true rfl⟩) ⟨zz_blindX, (va_recv hK hP rfl (wC_0 a cI cZ g1)), zz_preX hP hK hD hN hS hA hU⟩ rfl rfl hl.1 rfl (lv_room (Nat.le_of_ble_eq_true rfl)) d_sc_place_8 ⟨Nat.le_of_ble_eq_true rfl, Nat.le_of_ble_eq_true rfl⟩) hD hS hA hout hlocks (Nat.le_of_ble_eq_true rfl) (Nat.le_of_ble_eq_true rfl) (fun r3 g2 H locs h hP hD hS => ?_)
  refine lv_istore (lv' := [(4, .int r3), (0, .ref (a 0)), (1, .int x1), (2, .int x2), (3, .int x3)]) hx hb d_sc_place_11 hl (by decide) rfl (fun ls hl => ?_)
  refine lv_bipush (v := 64) hx hb d_sc_place_13 (by decide) ?_
  refine lv_aload_n hx hb d_sc_place_15 rfl (lv_at hl 1 rfl) ?_
  refine va_get (D := (dC, dI)) (ci := 4) (v := .ref (a 1)) (C := R_sc) (T := T_sc) (N := 4) hx hb hts hin__sc hown hK hP 0 (wC_0 a cI cZ g2) rfl 0 (by decide) fl_12 (fun _ h9 => h9) rfl d_sc_place_16 ?_
  refine lv_iload hx hb d_sc_place_19 (lv_at hl 0 rfl) ?_
  refine lv_iload_n hx hb d_sc_place_21 rfl (lv_at hl 2 rfl) ?_
  refine zz_ci (va_runV (As := [.int r3, .int x1]) (rest := [.int 64]) ⟨hx, hb, hml, hown, hts⟩ (mc_sp_crossingX l dC dI a cI cZ _ r3 x1 g2 _ h) (zz_cwV 2 hts (zz_good wm_218) rfl rfl rfl wm_219 wm_220 wm_221 wm_1 (by decide +kernel) ⟨Nat.le_of_ble_eq_true rfl, Nat.le_of_ble_eq_true rfl⟩) ⟨zz_blind, (va_recv hK hP rfl (wC_1 a cI cZ g2)), zz_pre hP hK hD hN⟩ rfl rfl hl.1 rfl (lv_room (Nat.le_of_ble_eq_true rfl)) d_sc_place_22 ⟨Nat.le_of_ble_eq_true rfl, Nat.le_of_ble_eq_true rfl⟩) hD hS hA (fun r5 g4 H locs h hP hD hS => ?_)
  refine lv_imul hx hb d_sc_place_25 ?_
  refine lv_aload_n hx hb d_sc_place_26 rfl (lv_at hl 1 rfl) ?_
  refine va_get (D := (dC, dI)) (ci := 4) (v := .ref (a 1)) (C := R_sc) (T := T_sc) (N := 4) hx hb hts hin__sc hown hK hP 0 (wC_0 a cI cZ g4) rfl 0 (by decide) fl_12 (fun _ h9 => h9) rfl d_sc_place_27 ?_
  refine lv_iload hx hb d_sc_place_30 (lv_at hl 0 rfl) ?_
  refine lv_iload_n hx hb d_sc_place_32 rfl (lv_at hl 2 rfl) ?_
  refine zz_ci (va_runV (As := [.int r3, .int x1]) (rest := [.int (64 * r5)]) ⟨hx, hb, hml, hown, hts⟩ (mc_sp_crossingY l dC dI a cI cZ _ r3 x1 g4 _ h) (zz_cwV 2 hts (zz_good wm_214) rfl rfl rfl wm_215 wm_216 wm_217 wm_1 (by decide +kernel) ⟨Nat.le_of_ble_eq_true rfl, Nat.le_of_ble_eq_true rfl⟩) ⟨zz_blind, (va_recv hK hP rfl (wC_1 a cI cZ g4)), zz_pre hP hK hD hN⟩ rfl rfl hl.1 rfl (lv_room (Nat.le_of_ble_eq_true rfl)) d_sc_place_33 ⟨Nat.le_of_ble_eq_true rfl, Nat.le_of_ble_eq_true rfl⟩) hD hS hA (fun r7 g6 H locs h hP hD hS => ?_)
  refine lv_iadd hx hb d_sc_place_36 ?_
  refine vx_ret ?_
  refine W.widen (k := 2) (n := 6 * 2) (Nat.le_of_ble_eq_true rfl) (Nat.le_of_ble_eq_true rfl) ?_
  exact W.iret (v := ((64 * r5) + r7)) hx hb hr (fun t ht hW => ⟨⟨((64 * r5) + r7), g6, rfl, h, by rw [ht]; exact hP, va_K.moved hW.alike hK, hD⟩, hS.F ht⟩) hS.2.2 d_sc_place_37
abbrev rm_sc_label : Room := { frames := 7, cells := 2, slots := 12, locals := 143 }
set_option maxHeartbeats 4000000 in
set_option maxRecDepth 100000 in
theorem mc_sc_label (l : Launch) (hlt : l.stackTraces = false) (dC : Nat → ClassId) (dI : Nat → Nat → Nat) (a : Nat → Nat) (cI cZ : ClassId) (sz : Nat) (x1 : Int32) (g : St) (post : Int32 → St → Prop) (px : Nat → St → Prop) (h : wp_sc_label x1 g post px) : vx_Met l yy_sc_label ww_sc_label rm_sc_label (zz_PreX (dC, dI) (wC a cI cZ) [(cI, .int), (cZ, .boolean)] [.ref (a 0), .int x1] g sz) (va_Qi post (zz_W (dC, dI) (wC a cI cZ) [(cI, .int), (cZ, .boolean)] (va_A (wC a cI cZ g) sz)) (va_A (wC a cI cZ g) sz)) (zz_X (dC, dI) (wC a cI cZ) [(cI, .int), (cZ, .boolean)] (va_A (wC a cI cZ g) sz) px) 2 (6 * 2) (va_A (wC a cI cZ g) sz) := by
  refine vx_ofW (cc := cc_sc_label) (maxL := 5) (ret := (some .int)) (by decide) rfl ?_
  intro p e s m args below meth c s₁ B hml hout hv
  obtain ⟨hav, hsz, hP, hK, hD0, hN, hU⟩ := hv
  have hx := B.exec
  have hb := B.bytes
  have hr := B.returns
  have hts := atoms_spec (ws := ww_sc_label) B.pre
  have hown : s.vm.findClass "SpotContours" = some m.cls := findClass_of_methodNamed B.named
  have hlocks := B.notSynchronized
  subst hsz
  have hD := hD0.self (sz := s.heap.size)
  generalize hAe : va_A (wC a cI cZ g) s.heap.size = A at hD hU ⊢
  have hA : ∀ q : Nat, s.heap.size ≤ q → A q := fun q h => by rw [← hAe]; exact Or.inr h
  have hS : va_S A s.heap s.heap [] := va_S.rf
  have he9 := lg_entry_eq m [.ref (a 0), .int x1] 5
  rw [← hav] at he9
  rw [he9]
  have hl := lv_entry [.ref (a 0), .int x1] (n := 5) (Nat.le_of_ble_eq_true rfl)
  generalize (lg_sl [.ref (a 0), .int x1] ++ List.replicate (5 - (lg_sl [.ref (a 0), .int x1]).length) Slot.unset).toArray = ls at hl ⊢
  have hl : lv_has ls 5 [(0, .ref (a 0)), (1, .int x1)] := hl
  have hin__sc : ∀ w ∈ u_ws R_sc T_sc 4, w ∈ ww_sc_label := fun w h => zz_in (hin0_sc w h)
  have fl_12 := hts (.fieldLink "SpotContours" 12 "SpotContours" "spots" "LSpotContours$Spots;") (zz_in wm_373)
  have fl_26 := hts (.fieldLink "SpotContours" 26 "SpotContours" "lines" "LSpotContours$Lines;") (zz_in wm_376)
  have fl_33 := hts (.fieldLink "SpotContours" 33 "SpotContours" "tags" "LSpotContours$Tags;") (zz_in wm_375)
  have L15 : ∀ (n : Nat) (v1 : Int32) (v2 : Int32) (v3 : Int32) (g : St) (K103 : Int32 → St → Prop) , (∀ (v2 : Int32) (g : St), K103 v2 g → ∀ (H : Heap) (locs : List Loc) (ls : Array Slot), va_P (dC, dI) zzCl (wC a cI cZ g) H → va_D A (wC a cI cZ g) → va_S A s.heap H locs → lv_has ls 5 [(0, .ref (a 0)), (2, .int v2)] → W p l e (headSpec ww_sc_label rm_sc_label).room s m args below meth c H locs 1 6 (zz_Qix 2 below (dC, dI) (wC a cI cZ) [(cI, .int), (cZ, .boolean)] A post px args s) (F0 m 103 ls [])) → lp_sc_label_L15 n v1 v2 v3 g K103 post px → ∀ (H : Heap) (locs : List Loc) (ls : Array Slot), va_P (dC, dI) zzCl (wC a cI cZ g) H → va_D A (wC a cI cZ g) → va_S A s.heap H locs → lv_has ls 5 [(0, .ref (a 0)), (1, .int v1), (2, .int v2), (3, .int v3)] → W p l e (headSpec ww_sc_label rm_sc_label).room s m args below meth c H locs 1 6 (zz_Qix 2 below (dC, dI) (wC a cI cZ) [(cI, .int), (cZ, .boolean)] A post px args s) (F0 m 15 ls []) := by
    intro n
    induction n with
    | zero => intro v1 v2 v3 g K103 hK103 h; exact h.elim
    | succ n ih =>
      intro v1 v2 v3 g K103 hK103 h H locs ls hP hD hS hl
      unfold lp_sc_label_L15 at h
      refine lv_iload_n hx hb d_sc_label_15 rfl (lv_at hl 3 rfl) ?_
      refine lv_aload_n hx hb d_sc_label_16 rfl (lv_at hl 0 rfl) ?_
      refine va_get (D := (dC, dI)) (ci := 4) (v := .ref (a 3)) (C := R_sc) (T := T_sc) (N := 4) hx hb hts hin__sc hown hK hP 0 (wC_0 a cI cZ g) rfl 2 (by decide) fl_26 (fun _ h9 => h9) rfl d_sc_label_17 ?_
      refine zz_ci (va_runV (As := []) (rest := [.int v3]) ⟨hx, hb, hml, hown, hts⟩ (mc_li_size l dC dI a cI cZ _  g _ h) (zz_cwV 0 hts (zz_good wm_180) rfl rfl rfl wm_181 wm_182 wm_183 wm_6 (by decide +kernel) ⟨Nat.le_of_ble_eq_true rfl, Nat.le_of_ble_eq_true rfl⟩) ⟨zz_blind, (va_recv hK hP rfl (wC_3 a cI cZ g)), zz_pre hP hK hD hN⟩ rfl rfl hl.1 rfl (lv_room (Nat.le_of_ble_eq_true rfl)) d_sc_label_20 ⟨Nat.le_of_ble_eq_true rfl, Nat.le_of_ble_eq_true rfl⟩) hD hS hA (fun r5 g4 H locs h hP hD hS => ?_)
      refine lv_icmp_ge (tgt := 103) hx hb d_sc_label_23 (by decide) (fun hc => ?_) (fun hc => ?_)
      · have h := h.1 hc
        exact hK103 _ _ h _ _ _ hP hD hS (lv_sub hl [0, 2] rfl)
      · have h := h.2 hc
        refine lv_aload_n hx hb d_sc_label_26 rfl (lv_at hl 0 rfl) ?_
        refine lv_iload_n hx hb d_sc_label_27 rfl (lv_at hl 1 rfl) ?_
        refine lv_iload_n hx hb d_sc_label_28 rfl (lv_at hl 3 rfl) ?_
        refine zz_ci (va_runV (As := [.int v1, .int v3]) (rest := []) ⟨hx, hb, hml, hown, hts⟩ (mc_sc_firstFreePair l dC dI a cI cZ _ v1 v3 g4 _ h) (zz_cwV 2 hts (zz_good wm_237) rfl rfl rfl wm_238 wm_239 wm_240 wm_10 (by decide +kernel) ⟨Nat.le_of_ble_eq_true rfl, Nat.le_of_ble_eq_true rfl⟩) ⟨zz_blind, (va_recv hK hP rfl (wC_0 a cI cZ g4)), zz_pre hP hK hD hN⟩ rfl rfl hl.1 rfl (lv_room (Nat.le_of_ble_eq_true rfl)) d_sc_label_29 ⟨Nat.le_of_ble_eq_true rfl, Nat.le_of_ble_eq_true rfl⟩) hD hS hA (fun r7 g6 H locs h hP hD hS => ?_)
        refine lv_istore (lv' := [(4, .int r7), (0, .ref (a 0)), (1, .int v1), (2, .int v2), (3, .int v3)]) hx hb d_sc_label_32 hl (by decide) rfl (fun ls hl => ?_)
        refine lv_iload hx hb d_sc_label_34 (lv_at hl 0 rfl) ?_
        refine lv_iconst (v := (-1)) hx hb d_sc_label_36 (by decide) ?_
        refine lv_icmp_ne (tgt := 43) hx hb d_sc_label_37 (by decide) (fun hc => ?_) (fun hc => ?_)
        · have h := h.1 hc
          refine lv_aload_n hx hb d_sc_label_43 rfl (lv_at hl 1 rfl) ?_
          refine va_get (D := (dC, dI)) (ci := 4) (v := .ref (a 4)) (C := R_sc) (T := T_sc) (N := 4) hx hb hts hin__sc hown hK hP 0 (wC_0 a cI cZ g6) rfl 3 (by decide) fl_33 (fun _ h9 => h9) rfl d_sc_label_44 ?_
          refine zz_ci (va_runV (As := []) (rest := []) ⟨hx, hb, hml, hown, hts⟩ (mc_ta_isFull l dC dI a cI cZ _  g6 _ h) (zz_cwV 0 hts (zz_good wm_233) rfl rfl rfl wm_234 wm_235 wm_236 wm_134 (by decide +kernel) ⟨Nat.le_of_ble_eq_true rfl, Nat.le_of_ble_eq_true rfl⟩) ⟨zz_blind, (va_recv hK hP rfl (wC_4 a cI cZ g6)), zz_pre hP hK hD hN⟩ rfl rfl hl.1 rfl (lv_room (Nat.le_of_ble_eq_true rfl)) d_sc_label_47 ⟨Nat.le_of_ble_eq_true rfl, Nat.le_of_ble_eq_true rfl⟩) hD hS hA (fun r9 g8 H locs h hP hD hS => ?_)
          refine lv_if_eq (tgt := 69) hx hb d_sc_label_50 (by decide) (fun hc => ?_) (fun hc => ?_)
          · have h := h.1 hc
            refine lv_aload_n hx hb d_sc_label_69 rfl (lv_at hl 1 rfl) ?_
            refine va_get (D := (dC, dI)) (ci := 4) (v := .ref (a 4)) (C := R_sc) (T := T_sc) (N := 4) hx hb hts hin__sc hown hK hP 0 (wC_0 a cI cZ g8) rfl 3 (by decide) fl_33 (fun _ h9 => h9) rfl d_sc_label_70 ?_
            refine lv_iload_n hx hb d_sc_label_73 rfl (lv_at hl 2 rfl) ?_
            refine lv_aload_n hx hb d_sc_label_74 rfl (lv_at hl 1 rfl) ?_
            refine va_get (D := (dC, dI)) (ci := 4) (v := .ref (a 1)) (C := R_sc) (T := T_sc) (N := 4) hx hb hts hin__sc hown hK hP 0 (wC_0 a cI cZ g8) rfl 0 (by decide) fl_12 (fun _ h9 => h9) rfl d_sc_label_75 ?_
            refine lv_iload hx hb d_sc_label_78 (lv_at hl 0 rfl) ?_
            refine lv_iload_n hx hb d_sc_label_80 rfl (lv_at hl 2 rfl) ?_
            refine zz_ci (va_runV (As := [.int r7, .int v1]) (rest := [.int v1, .ref (a 4)]) ⟨hx, hb, hml, hown, hts⟩ (mc_sp_crossingX l dC dI a cI cZ _ r7 v1 g8 _ h) (zz_cwV 2 hts (zz_good wm_218) rfl rfl rfl wm_219 wm_220 wm_221 wm_1 (by decide +kernel) ⟨Nat.le_of_ble_eq_true rfl, Nat.le_of_ble_eq_true rfl⟩) ⟨zz_blind, (va_recv hK hP rfl (wC_1 a cI cZ g8)), zz_pre hP hK hD hN⟩ rfl rfl hl.1 rfl (lv_room (Nat.le_of_ble_eq_true rfl)) d_sc_label_81 ⟨Nat.le_of_ble_eq_true rfl, Nat.le_of_ble_eq_true rfl⟩) hD hS hA (fun r11 g10 H locs h hP hD hS => ?_)
            refine lv_aload_n hx hb d_sc_label_84 rfl (lv_at hl 1 rfl) ?_
            refine va_get (D := (dC, dI)) (ci := 4) (v := .ref (a 1)) (C := R_sc) (T := T_sc) (N := 4) hx hb hts hin__sc hown hK hP 0 (wC_0 a cI cZ g10) rfl 0 (by decide) fl_12 (fun _ h9 => h9) rfl d_sc_label_85 ?_
            refine lv_iload hx hb d_sc_label_88 (lv_at hl 0 rfl) ?_
            refine lv_iload_n hx hb d_sc_label_90 rfl (lv_at hl 2 rfl) ?_
            refine zz_ci (va_runV (As := [.int r7, .int v1]) (rest := [.int r11, .int v1, .ref (a 4)]) ⟨hx, hb, hml, hown, hts⟩ (mc_sp_crossingY l dC dI a cI cZ _ r7 v1 g10 _ h) (zz_cwV 2 hts (zz_good wm_214) rfl rfl rfl wm_215 wm_216 wm_217 wm_1 (by decide +kernel) ⟨Nat.le_of_ble_eq_true rfl, Nat.le_of_ble_eq_true rfl⟩) ⟨zz_blind, (va_recv hK hP rfl (wC_1 a cI cZ g10)), zz_pre hP hK hD hN⟩ rfl rfl hl.1 rfl (lv_room (Nat.le_of_ble_eq_true rfl)) d_sc_label_91 ⟨Nat.le_of_ble_eq_true rfl, Nat.le_of_ble_eq_true rfl⟩) hD hS hA (fun r13 g12 H locs h hP hD hS => ?_)
            refine zz_cv (va_runV (As := [.int v1, .int r11, .int r13]) (rest := []) ⟨hx, hb, hml, hown, hts⟩ (mc_ta_add l dC dI a cI cZ _ v1 r11 r13 g12 _ h) (zz_cwV 3 hts (zz_good wm_229) rfl rfl rfl wm_230 wm_231 wm_232 wm_134 (by decide +kernel) ⟨Nat.le_of_ble_eq_true rfl, Nat.le_of_ble_eq_true rfl⟩) ⟨zz_blind, (va_recv hK hP rfl (wC_4 a cI cZ g12)), zz_pre hP hK hD hN⟩ rfl rfl hl.1 rfl (lv_room (Nat.le_of_ble_eq_true rfl)) d_sc_label_94 ⟨Nat.le_of_ble_eq_true rfl, Nat.le_of_ble_eq_true rfl⟩) hD hS hA (fun g14 H locs h hP hD hS => ?_)
            refine lv_iinc (k := 4) (v := (v3 + 1)) (lv' := [(3, .int (v3 + 1)), (4, .int r7), (0, .ref (a 0)), (1, .int v1), (2, .int v2)]) hx hb d_sc_label_97 hl rfl rfl (by decide) rfl (fun ls hl => ?_)
            refine lv_goto (tgt := 15) hx hb d_sc_label_100 (by decide) ?_
            exact ih _ _ _ _ _ hK103 h _ _ _ hP hD hS (lv_sub hl [2, 3, 4, 0] rfl)
          · have h := h.2 hc
            refine lv_aload_n hx hb d_sc_label_53 rfl (lv_at hl 1 rfl) ?_
            refine va_get (D := (dC, dI)) (ci := 4) (v := .ref (a 4)) (C := R_sc) (T := T_sc) (N := 4) hx hb hts hin__sc hown hK hP 0 (wC_0 a cI cZ g8) rfl 3 (by decide) fl_33 (fun _ h9 => h9) rfl d_sc_label_54 ?_
            refine lv_iload_n hx hb d_sc_label_57 rfl (lv_at hl 3 rfl) ?_
            refine zz_cv (va_runV (As := [.int v2]) (rest := []) ⟨hx, hb, hml, hown, hts⟩ (mc_ta_cutTo l dC dI a cI cZ _ v2 g8 _ h) (zz_cwV 1 hts (zz_good wm_133) rfl rfl rfl wm_135 wm_136 wm_137 wm_134 (by decide +kernel) ⟨Nat.le_of_ble_eq_true rfl, Nat.le_of_ble_eq_true rfl⟩) ⟨zz_blind, (va_recv hK hP rfl (wC_4 a cI cZ g8)), zz_pre hP hK hD hN⟩ rfl rfl hl.1 rfl (lv_room (Nat.le_of_ble_eq_true rfl)) d_sc_label_58 ⟨Nat.le_of_ble_eq_true rfl, Nat.le_of_ble_eq_true rfl⟩) hD hS hA (fun g15 H locs h hP hD hS => ?_)
            exact zz_thr 1 hx hb hlt hown hts hN hU hP hK hD hS thf_1 thl_1 thi_1 th1_1 th2_1 th3_1 (hl.1.trans hml.symm) d_sc_label_61 d_sc_label_64 d_sc_label_65 d_sc_label_68 hout (Nat.le_of_ble_eq_true rfl) (Nat.le_of_ble_eq_true rfl) (Nat.le_of_ble_eq_true rfl) (Nat.le_of_ble_eq_true rfl) hlocks (Nat.le_of_ble_eq_true rfl) (Nat.le_of_ble_eq_true rfl) h
        · have h := h.2 hc
          refine lv_goto (tgt := 97) hx hb d_sc_label_40 (by decide) ?_
          refine lv_iinc (k := 4) (v := (v3 + 1)) (lv' := [(3, .int (v3 + 1)), (4, .int r7), (0, .ref (a 0)), (1, .int v1), (2, .int v2)]) hx hb d_sc_label_97 hl rfl rfl (by decide) rfl (fun ls hl => ?_)
          refine lv_goto (tgt := 15) hx hb d_sc_label_100 (by decide) ?_
          exact ih _ _ _ _ _ hK103 h _ _ _ hP hD hS (lv_sub hl [2, 3, 4, 0] rfl)
  unfold wp_sc_label at h
  refine lv_aload_n hx hb d_sc_label_0 rfl (lv_at hl 0 rfl) ?_
  refine lv_iload_n hx hb d_sc_label_1 rfl (lv_at hl 1 rfl) ?_
  refine zz_cvx (vx_runV (As := [.int x1]) (rest := []) ⟨hx, hb, hml, hown, hts⟩ (mc_sc_traceLevel l hlt dC dI a cI cZ _ x1 g _ _ h) (zz_cwV 1 hts (zz_good wm_184) rfl rfl rfl wm_185 wm_186 wm_187 wm_10 (by decide +kernel) ⟨Nat.le_of_ble_eq_true rfl, Nat.le_of_ble_eq_true rfl⟩) ⟨zz_blindX, (va_recv hK hP rfl (wC_0 a cI cZ g)), zz_preX hP hK hD hN hS hA hU⟩ rfl rfl hl.1 rfl (lv_room (Nat.le_of_ble_eq_true rfl)) d_sc_label_2 ⟨Nat.le_of_ble_eq_true rfl, Nat.le_of_ble_eq_true rfl⟩) hD hS hA hout hlocks (Nat.le_of_ble_eq_true rfl) (Nat.le_of_ble_eq_true rfl) (fun g1 H locs h hP hD hS => ?_)
  refine lv_aload_n hx hb d_sc_label_5 rfl (lv_at hl 0 rfl) ?_
  refine va_get (D := (dC, dI)) (ci := 4) (v := .ref (a 4)) (C := R_sc) (T := T_sc) (N := 4) hx hb hts hin__sc hown hK hP 0 (wC_0 a cI cZ g1) rfl 3 (by decide) fl_33 (fun _ h9 => h9) rfl d_sc_label_6 ?_
  refine zz_ci (va_runV (As := []) (rest := []) ⟨hx, hb, hml, hown, hts⟩ (mc_ta_size l dC dI a cI cZ _  g1 _ h) (zz_cwV 0 hts (zz_good wm_241) rfl rfl rfl wm_242 wm_243 wm_244 wm_134 (by decide +kernel) ⟨Nat.le_of_ble_eq_true rfl, Nat.le_of_ble_eq_true rfl⟩) ⟨zz_blind, (va_recv hK hP rfl (wC_4 a cI cZ g1)), zz_pre hP hK hD hN⟩ rfl rfl hl.1 rfl (lv_room (Nat.le_of_ble_eq_true rfl)) d_sc_label_9 ⟨Nat.le_of_ble_eq_true rfl, Nat.le_of_ble_eq_true rfl⟩) hD hS hA (fun r3 g2 H locs h hP hD hS => ?_)
  refine lv_istore_n (lv' := [(2, .int r3), (0, .ref (a 0)), (1, .int x1)]) hx hb d_sc_label_12 rfl hl (by decide) rfl (fun ls hl => ?_)
  refine lv_iconst (v := 0) hx hb d_sc_label_13 (by decide) ?_
  refine lv_istore_n (lv' := [(3, .int 0), (2, .int r3), (0, .ref (a 0)), (1, .int x1)]) hx hb d_sc_label_14 rfl hl (by decide) rfl (fun ls hl => ?_)
  obtain ⟨n15, h⟩ := h
  refine L15 n15 _ _ _ _ _ (fun w17 g16 h H locs ls hP hD hS hl => ?_) h _ _ _ hP hD hS (lv_sub hl [2, 3, 1, 0] rfl)
  refine lv_aload_n hx hb d_sc_label_103 rfl (lv_at hl 0 rfl) ?_
  refine va_get (D := (dC, dI)) (ci := 4) (v := .ref (a 4)) (C := R_sc) (T := T_sc) (N := 4) hx hb hts hin__sc hown hK hP 0 (wC_0 a cI cZ g16) rfl 3 (by decide) fl_33 (fun _ h9 => h9) rfl d_sc_label_104 ?_
  refine zz_ci (va_runV (As := []) (rest := []) ⟨hx, hb, hml, hown, hts⟩ (mc_ta_size l dC dI a cI cZ _  g16 _ h) (zz_cwV 0 hts (zz_good wm_241) rfl rfl rfl wm_242 wm_243 wm_244 wm_134 (by decide +kernel) ⟨Nat.le_of_ble_eq_true rfl, Nat.le_of_ble_eq_true rfl⟩) ⟨zz_blind, (va_recv hK hP rfl (wC_4 a cI cZ g16)), zz_pre hP hK hD hN⟩ rfl rfl hl.1 rfl (lv_room (Nat.le_of_ble_eq_true rfl)) d_sc_label_107 ⟨Nat.le_of_ble_eq_true rfl, Nat.le_of_ble_eq_true rfl⟩) hD hS hA (fun r19 g18 H locs h hP hD hS => ?_)
  refine lv_iload_n hx hb d_sc_label_110 rfl (lv_at hl 1 rfl) ?_
  refine lv_isub hx hb d_sc_label_111 ?_
  refine vx_ret ?_
  refine W.widen (k := 2) (n := 6 * 2) (Nat.le_of_ble_eq_true rfl) (Nat.le_of_ble_eq_true rfl) ?_
  exact W.iret (v := (r19 - w17)) hx hb hr (fun t ht hW => ⟨⟨(r19 - w17), g18, rfl, h, by rw [ht]; exact hP, va_K.moved hW.alike hK, hD⟩, hS.F ht⟩) hS.2.2 d_sc_label_112
abbrev rm_sc_labelOf : Room := { frames := 6, cells := 1, slots := 6, locals := 81 }
set_option maxHeartbeats 4000000 in
set_option maxRecDepth 100000 in
theorem mc_sc_labelOf (l : Launch) (hlt : l.stackTraces = false) (dC : Nat → ClassId) (dI : Nat → Nat → Nat) (a : Nat → Nat) (cI cZ : ClassId) (sz : Nat) (x1 : Int32) (x2 : Int32) (g : St) (post : Int32 → St → Prop) (px : Nat → St → Prop) (h : wp_sc_labelOf x1 x2 g post px) : vx_Met l yy_sc_labelOf ww_sc_labelOf rm_sc_labelOf (zz_PreX (dC, dI) (wC a cI cZ) [(cI, .int), (cZ, .boolean)] [.ref (a 0), .int x1, .int x2] g sz) (va_Qi post (zz_W (dC, dI) (wC a cI cZ) [(cI, .int), (cZ, .boolean)] (va_A (wC a cI cZ g) sz)) (va_A (wC a cI cZ g) sz)) (zz_X (dC, dI) (wC a cI cZ) [(cI, .int), (cZ, .boolean)] (va_A (wC a cI cZ g) sz) px) 1 (6 * 1) (va_A (wC a cI cZ g) sz) := by
  refine vx_ofW (cc := cc_sc_labelOf) (maxL := 3) (ret := (some .int)) (by decide) rfl ?_
  intro p e s m args below meth c s₁ B hml hout hv
  obtain ⟨hav, hsz, hP, hK, hD0, hN, hU⟩ := hv
  have hx := B.exec
  have hb := B.bytes
  have hr := B.returns
  have hts := atoms_spec (ws := ww_sc_labelOf) B.pre
  have hown : s.vm.findClass "SpotContours" = some m.cls := findClass_of_methodNamed B.named
  have hlocks := B.notSynchronized
  subst hsz
  have hD := hD0.self (sz := s.heap.size)
  generalize hAe : va_A (wC a cI cZ g) s.heap.size = A at hD hU ⊢
  have hA : ∀ q : Nat, s.heap.size ≤ q → A q := fun q h => by rw [← hAe]; exact Or.inr h
  have hS : va_S A s.heap s.heap [] := va_S.rf
  have he9 := lg_entry_eq m [.ref (a 0), .int x1, .int x2] 3
  rw [← hav] at he9
  rw [he9]
  have hl := lv_entry [.ref (a 0), .int x1, .int x2] (n := 3) (Nat.le_of_ble_eq_true rfl)
  generalize (lg_sl [.ref (a 0), .int x1, .int x2] ++ List.replicate (3 - (lg_sl [.ref (a 0), .int x1, .int x2]).length) Slot.unset).toArray = ls at hl ⊢
  have hl : lv_has ls 3 [(0, .ref (a 0)), (1, .int x1), (2, .int x2)] := hl
  have hin__sc : ∀ w ∈ u_ws R_sc T_sc 4, w ∈ ww_sc_labelOf := fun w h => zz_in (hin0_sc w h)
  have fl_33 := hts (.fieldLink "SpotContours" 33 "SpotContours" "tags" "LSpotContours$Tags;") (zz_in wm_375)
  unfold wp_sc_labelOf at h
  refine lv_iload_n hx hb d_sc_labelOf_0 rfl (lv_at hl 1 rfl) ?_
  refine lv_if_lt (tgt := 15) hx hb d_sc_labelOf_1 (by decide) (fun hc => ?_) (fun hc => ?_)
  · have h := h.1 hc
    exact zz_thr 2 hx hb hlt hown hts hN hU hP hK hD hS thf_2 thl_2 thi_2 th1_2 th2_2 th3_2 (hl.1.trans hml.symm) d_sc_labelOf_15 d_sc_labelOf_18 d_sc_labelOf_19 d_sc_labelOf_22 hout (Nat.le_of_ble_eq_true rfl) (Nat.le_of_ble_eq_true rfl) (Nat.le_of_ble_eq_true rfl) (Nat.le_of_ble_eq_true rfl) hlocks (Nat.le_of_ble_eq_true rfl) (Nat.le_of_ble_eq_true rfl) h
  · have h := h.2 hc
    refine lv_iload_n hx hb d_sc_labelOf_4 rfl (lv_at hl 1 rfl) ?_
    refine lv_aload_n hx hb d_sc_labelOf_5 rfl (lv_at hl 0 rfl) ?_
    refine va_get (D := (dC, dI)) (ci := 4) (v := .ref (a 4)) (C := R_sc) (T := T_sc) (N := 4) hx hb hts hin__sc hown hK hP 0 (wC_0 a cI cZ g) rfl 3 (by decide) fl_33 (fun _ h9 => h9) rfl d_sc_labelOf_6 ?_
    refine zz_ci (va_runV (As := []) (rest := [.int x1]) ⟨hx, hb, hml, hown, hts⟩ (mc_ta_size l dC dI a cI cZ _  g _ h) (zz_cwV 0 hts (zz_good wm_241) rfl rfl rfl wm_242 wm_243 wm_244 wm_134 (by decide +kernel) ⟨Nat.le_of_ble_eq_true rfl, Nat.le_of_ble_eq_true rfl⟩) ⟨zz_blind, (va_recv hK hP rfl (wC_4 a cI cZ g)), zz_pre hP hK hD hN⟩ rfl rfl hl.1 rfl (lv_room (Nat.le_of_ble_eq_true rfl)) d_sc_labelOf_9 ⟨Nat.le_of_ble_eq_true rfl, Nat.le_of_ble_eq_true rfl⟩) hD hS hA (fun r2 g1 H locs h hP hD hS => ?_)
    refine lv_icmp_lt (tgt := 23) hx hb d_sc_labelOf_12 (by decide) (fun hc => ?_) (fun hc => ?_)
    · have h := h.1 hc
      refine lv_iload_n hx hb d_sc_labelOf_23 rfl (lv_at hl 2 rfl) ?_
      by_cases hk0 : x2 = 0
      · refine lv_tableIn (off := 28) (tgt := 52) hx hb d_sc_labelOf_24 (by rw [hk0]; decide) (by rw [hk0]; decide) (by rw [hk0]; rfl) (by decide) ?_
        have h := h.1 hk0
        refine lv_aload_n hx hb d_sc_labelOf_52 rfl (lv_at hl 0 rfl) ?_
        refine va_get (D := (dC, dI)) (ci := 4) (v := .ref (a 4)) (C := R_sc) (T := T_sc) (N := 4) hx hb hts hin__sc hown hK hP 0 (wC_0 a cI cZ g1) rfl 3 (by decide) fl_33 (fun _ h9 => h9) rfl d_sc_labelOf_53 ?_
        refine lv_iload_n hx hb d_sc_labelOf_56 rfl (lv_at hl 1 rfl) ?_
        refine zz_ci (va_runV (As := [.int x1]) (rest := []) ⟨hx, hb, hml, hown, hts⟩ (mc_ta_level l dC dI a cI cZ _ x1 g1 _ h) (zz_cwV 1 hts (zz_good wm_245) rfl rfl rfl wm_246 wm_247 wm_248 wm_134 (by decide +kernel) ⟨Nat.le_of_ble_eq_true rfl, Nat.le_of_ble_eq_true rfl⟩) ⟨zz_blind, (va_recv hK hP rfl (wC_4 a cI cZ g1)), zz_pre hP hK hD hN⟩ rfl rfl hl.1 rfl (lv_room (Nat.le_of_ble_eq_true rfl)) d_sc_labelOf_57 ⟨Nat.le_of_ble_eq_true rfl, Nat.le_of_ble_eq_true rfl⟩) hD hS hA (fun r4 g3 H locs h hP hD hS => ?_)
        refine vx_ret ?_
        refine W.widen (k := 1) (n := 6 * 1) (Nat.le_of_ble_eq_true rfl) (Nat.le_of_ble_eq_true rfl) ?_
        exact W.iret (v := r4) hx hb hr (fun t ht hW => ⟨⟨r4, g3, rfl, h, by rw [ht]; exact hP, va_K.moved hW.alike hK, hD⟩, hS.F ht⟩) hS.2.2 d_sc_labelOf_60
      by_cases hk1 : x2 = 1
      · refine lv_tableIn (off := 37) (tgt := 61) hx hb d_sc_labelOf_24 (by rw [hk1]; decide) (by rw [hk1]; decide) (by rw [hk1]; rfl) (by decide) ?_
        have h := h.2.1 hk1
        refine lv_aload_n hx hb d_sc_labelOf_61 rfl (lv_at hl 0 rfl) ?_
        refine va_get (D := (dC, dI)) (ci := 4) (v := .ref (a 4)) (C := R_sc) (T := T_sc) (N := 4) hx hb hts hin__sc hown hK hP 0 (wC_0 a cI cZ g1) rfl 3 (by decide) fl_33 (fun _ h9 => h9) rfl d_sc_labelOf_62 ?_
        refine lv_iload_n hx hb d_sc_labelOf_65 rfl (lv_at hl 1 rfl) ?_
        refine zz_ci (va_runV (As := [.int x1]) (rest := []) ⟨hx, hb, hml, hown, hts⟩ (mc_ta_x l dC dI a cI cZ _ x1 g1 _ h) (zz_cwV 1 hts (zz_good wm_249) rfl rfl rfl wm_250 wm_251 wm_252 wm_134 (by decide +kernel) ⟨Nat.le_of_ble_eq_true rfl, Nat.le_of_ble_eq_true rfl⟩) ⟨zz_blind, (va_recv hK hP rfl (wC_4 a cI cZ g1)), zz_pre hP hK hD hN⟩ rfl rfl hl.1 rfl (lv_room (Nat.le_of_ble_eq_true rfl)) d_sc_labelOf_66 ⟨Nat.le_of_ble_eq_true rfl, Nat.le_of_ble_eq_true rfl⟩) hD hS hA (fun r6 g5 H locs h hP hD hS => ?_)
        refine vx_ret ?_
        refine W.widen (k := 1) (n := 6 * 1) (Nat.le_of_ble_eq_true rfl) (Nat.le_of_ble_eq_true rfl) ?_
        exact W.iret (v := r6) hx hb hr (fun t ht hW => ⟨⟨r6, g5, rfl, h, by rw [ht]; exact hP, va_K.moved hW.alike hK, hD⟩, hS.F ht⟩) hS.2.2 d_sc_labelOf_69
      by_cases hk2 : x2 = 2
      · refine lv_tableIn (off := 46) (tgt := 70) hx hb d_sc_labelOf_24 (by rw [hk2]; decide) (by rw [hk2]; decide) (by rw [hk2]; rfl) (by decide) ?_
        have h := h.2.2.1 hk2
        refine lv_aload_n hx hb d_sc_labelOf_70 rfl (lv_at hl 0 rfl) ?_
        refine va_get (D := (dC, dI)) (ci := 4) (v := .ref (a 4)) (C := R_sc) (T := T_sc) (N := 4) hx hb hts hin__sc hown hK hP 0 (wC_0 a cI cZ g1) rfl 3 (by decide) fl_33 (fun _ h9 => h9) rfl d_sc_labelOf_71 ?_
        refine lv_iload_n hx hb d_sc_labelOf_74 rfl (lv_at hl 1 rfl) ?_
        refine zz_ci (va_runV (As := [.int x1]) (rest := []) ⟨hx, hb, hml, hown, hts⟩ (mc_ta_y l dC dI a cI cZ _ x1 g1 _ h) (zz_cwV 1 hts (zz_good wm_253) rfl rfl rfl wm_254 wm_255 wm_256 wm_134 (by decide +kernel) ⟨Nat.le_of_ble_eq_true rfl, Nat.le_of_ble_eq_true rfl⟩) ⟨zz_blind, (va_recv hK hP rfl (wC_4 a cI cZ g1)), zz_pre hP hK hD hN⟩ rfl rfl hl.1 rfl (lv_room (Nat.le_of_ble_eq_true rfl)) d_sc_labelOf_75 ⟨Nat.le_of_ble_eq_true rfl, Nat.le_of_ble_eq_true rfl⟩) hD hS hA (fun r8 g7 H locs h hP hD hS => ?_)
        refine vx_ret ?_
        refine W.widen (k := 1) (n := 6 * 1) (Nat.le_of_ble_eq_true rfl) (Nat.le_of_ble_eq_true rfl) ?_
        exact W.iret (v := r8) hx hb hr (fun t ht hW => ⟨⟨r8, g7, rfl, h, by rw [ht]; exact hP, va_K.moved hW.alike hK, hD⟩, hS.F ht⟩) hS.2.2 d_sc_labelOf_78
      refine lv_tableOut (tgt := 79) hx hb d_sc_labelOf_24 (zz_out3 hk0 hk1 hk2) (by decide) ?_
      have h := h.2.2.2 hk0 hk1 hk2
      exact zz_thr 0 hx hb hlt hown hts hN hU hP hK hD hS thf_0 thl_0 thi_0 th1_0 th2_0 th3_0 (hl.1.trans hml.symm) d_sc_labelOf_79 d_sc_labelOf_82 d_sc_labelOf_83 d_sc_labelOf_86 hout (Nat.le_of_ble_eq_true rfl) (Nat.le_of_ble_eq_true rfl) (Nat.le_of_ble_eq_true rfl) (Nat.le_of_ble_eq_true rfl) hlocks (Nat.le_of_ble_eq_true rfl) (Nat.le_of_ble_eq_true rfl) h
    · have h := h.2 hc
      exact zz_thr 2 hx hb hlt hown hts hN hU hP hK hD hS thf_2 thl_2 thi_2 th1_2 th2_2 th3_2 (hl.1.trans hml.symm) d_sc_labelOf_15 d_sc_labelOf_18 d_sc_labelOf_19 d_sc_labelOf_22 hout (Nat.le_of_ble_eq_true rfl) (Nat.le_of_ble_eq_true rfl) (Nat.le_of_ble_eq_true rfl) (Nat.le_of_ble_eq_true rfl) hlocks (Nat.le_of_ble_eq_true rfl) (Nat.le_of_ble_eq_true rfl) h
