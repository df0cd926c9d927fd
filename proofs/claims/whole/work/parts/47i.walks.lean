/-! Contracts by their walks, printed. -/
abbrev rm_mo_pair : Room := { frames := 2, cells := 0, slots := 0, locals := 48 }
set_option maxHeartbeats 4000000 in
set_option maxRecDepth 100000 in
theorem mc_mo_pair (l : Launch) (dC : Nat → ClassId) (dI : Nat → Nat → Nat) (a : Nat → Nat) (cI cZ : ClassId) (sz : Nat) (x1 : Int32) (x2 : Int32) (x3 : Int32) (x4 : Int32) (g : St) (post : St → Prop) (h : wp_mo_pair x1 x2 x3 x4 g post) : Met l yy_mo_pair ww_mo_pair rm_mo_pair (zz_Pre (dC, dI) (wM a cI cZ) [(cI, .int), (cZ, .boolean)] [.ref (a 0), .int x1, .int x2, .int x3, .int x4] g sz) (va_Qv post (zz_W (dC, dI) (wM a cI cZ) [(cI, .int), (cZ, .boolean)] (va_A (wM a cI cZ g) sz)) (va_A (wM a cI cZ g) sz)) 0 0 (va_A (wM a cI cZ g) sz) := by
  refine Met.ofW (cc := cc_mo_pair) (maxL := 5) (ret := none) (by decide) rfl ?_
  intro p e s m args below meth c s₁ B hml hv
  obtain ⟨hav, hsz, hP, hK, hD0, hN⟩ := hv
  have hx := B.exec
  have hb := B.bytes
  have hr := B.returns
  have hts := atoms_spec (ws := ww_mo_pair) B.pre
  have hown : s.vm.findClass "SpotContoursModel" = some m.cls := findClass_of_methodNamed B.named
  have hlocks := B.notSynchronized
  subst hsz
  have hD := hD0.self (sz := s.heap.size)
  generalize hAe : va_A (wM a cI cZ g) s.heap.size = A at hD ⊢
  have hA : ∀ q : Nat, s.heap.size ≤ q → A q := fun q h => by rw [← hAe]; exact Or.inr h
  have hS : va_S A s.heap s.heap [] := va_S.rf
  have he9 := lg_entry_eq m [.ref (a 0), .int x1, .int x2, .int x3, .int x4] 5
  rw [← hav] at he9
  rw [he9]
  have hl := lv_entry [.ref (a 0), .int x1, .int x2, .int x3, .int x4] (n := 5) (Nat.le_of_ble_eq_true rfl)
  generalize (lg_sl [.ref (a 0), .int x1, .int x2, .int x3, .int x4] ++ List.replicate (5 - (lg_sl [.ref (a 0), .int x1, .int x2, .int x3, .int x4]).length) Slot.unset).toArray = ls at hl ⊢
  have hl : lv_has ls 5 [(0, .ref (a 0)), (1, .int x1), (2, .int x2), (3, .int x3), (4, .int x4)] := hl
  have hin__mo : ∀ w ∈ u_ws R_mo T_mo 21, w ∈ ww_mo_pair := fun w h => zz_in (hin0_mo w h)
  have fl_22 := hts (.fieldLink "SpotContoursModel" 22 "SpotContoursModel" "is" "[Z") (zz_in wm_387)
  unfold wp_mo_pair at h
  refine lv_aload_n hx hb d_mo_pair_0 rfl (lv_at hl 0 rfl) ?_
  refine lv_iload_n hx hb d_mo_pair_1 rfl (lv_at hl 1 rfl) ?_
  refine lv_iload hx hb d_mo_pair_2 (lv_at hl 4 rfl) ?_
  refine zz_ci (va_runV (As := [.int x1, .int x4]) (rest := []) ⟨hx, hb, hml, hown, hts⟩ (mc_mo_isHigh l dC dI a cI cZ _ x1 x4 g _ h) (zz_cwV 2 hts (zz_good wm_304) rfl rfl rfl wm_305 wm_306 wm_307 wm_258 (by decide +kernel) ⟨Nat.le_of_ble_eq_true rfl, Nat.le_of_ble_eq_true rfl⟩) ⟨zz_blind, (va_recv hK hP rfl (wM_0 a cI cZ g)), zz_pre hP hK hD hN⟩ rfl rfl hl.1 rfl (lv_room (Nat.le_of_ble_eq_true rfl)) d_mo_pair_4 ⟨Nat.le_of_ble_eq_true rfl, Nat.le_of_ble_eq_true rfl⟩) hD hS hA (fun r2 g1 H locs h hP hD hS => ?_)
  refine lv_aload_n hx hb d_mo_pair_7 rfl (lv_at hl 0 rfl) ?_
  refine lv_iload_n hx hb d_mo_pair_8 rfl (lv_at hl 2 rfl) ?_
  refine lv_iload hx hb d_mo_pair_9 (lv_at hl 4 rfl) ?_
  refine zz_ci (va_runV (As := [.int x2, .int x4]) (rest := [.int r2]) ⟨hx, hb, hml, hown, hts⟩ (mc_mo_isHigh l dC dI a cI cZ _ x2 x4 g1 _ h) (zz_cwV 2 hts (zz_good wm_304) rfl rfl rfl wm_305 wm_306 wm_307 wm_258 (by decide +kernel) ⟨Nat.le_of_ble_eq_true rfl, Nat.le_of_ble_eq_true rfl⟩) ⟨zz_blind, (va_recv hK hP rfl (wM_0 a cI cZ g1)), zz_pre hP hK hD hN⟩ rfl rfl hl.1 rfl (lv_room (Nat.le_of_ble_eq_true rfl)) d_mo_pair_11 ⟨Nat.le_of_ble_eq_true rfl, Nat.le_of_ble_eq_true rfl⟩) hD hS hA (fun r4 g3 H locs h hP hD hS => ?_)
  refine lv_icmp_ne (tgt := 18) hx hb d_mo_pair_14 (by decide) (fun hc => ?_) (fun hc => ?_)
  · have h := h.1 hc
    refine lv_aload_n hx hb d_mo_pair_18 rfl (lv_at hl 0 rfl) ?_
    refine va_get (D := (dC, dI)) (ci := 5) (v := .ref (a 5)) (C := R_mo) (T := T_mo) (N := 21) hx hb hts hin__mo hown hK hP 0 (wM_0 a cI cZ g3) rfl 7 (by decide) fl_22 (fun _ h9 => h9) rfl d_mo_pair_19 ?_
    refine lv_iload_n hx hb d_mo_pair_22 rfl (lv_at hl 1 rfl) ?_
    refine lv_iload_n hx hb d_mo_pair_23 rfl (lv_at hl 2 rfl) ?_
    refine zz_ci (va_runS (As := [.int x1, .int x2]) (rest := [.ref (a 5)]) ⟨hx, hb, hml, hown, hts⟩ (mc_mo_edgeOf l dC dI a cI cZ _ x1 x2 g3 _ h) (zz_cwS 2 hts (zz_good wm_301) rfl rfl rfl wm_302 wm_303 wm_258 (by decide +kernel) ⟨Nat.le_of_ble_eq_true rfl, Nat.le_of_ble_eq_true rfl⟩) ⟨zz_blind, zz_pre hP hK hD hN⟩ rfl rfl hl.1 rfl (lv_room (Nat.le_of_ble_eq_true rfl)) d_mo_pair_24 ⟨Nat.le_of_ble_eq_true rfl, Nat.le_of_ble_eq_true rfl⟩) hD hS hA (fun r6 g5 H locs h hP hD hS => ?_)
    refine lv_iconst (v := 1) hx hb d_mo_pair_27 (by decide) ?_
    refine va_zast hx hb hK hP hD hS 5 1 (wM_5 a cI cZ g5) rfl h.1 d_mo_pair_28 (fun H locs hP hD hS => ?_)
    obtain ⟨g7, e_g7⟩ : ∃ z : St, z = gp g5 5 (ix r6) (vp_nar .boolean 1) := ⟨_, rfl⟩
    have h := h.2 g7 e_g7
    have hP : va_P (dC, dI) zzCl (wM a cI cZ g7) H := by rw [e_g7]; exact hP
    have hD : va_D A (wM a cI cZ g7) := by rw [e_g7]; exact hD
    refine lv_aload_n hx hb d_mo_pair_29 rfl (lv_at hl 0 rfl) ?_
    refine lv_iload_n hx hb d_mo_pair_30 rfl (lv_at hl 1 rfl) ?_
    refine lv_iload hx hb d_mo_pair_31 (lv_at hl 4 rfl) ?_
    refine zz_ci (va_runV (As := [.int x1, .int x4]) (rest := []) ⟨hx, hb, hml, hown, hts⟩ (mc_mo_isHigh l dC dI a cI cZ _ x1 x4 g7 _ h) (zz_cwV 2 hts (zz_good wm_304) rfl rfl rfl wm_305 wm_306 wm_307 wm_258 (by decide +kernel) ⟨Nat.le_of_ble_eq_true rfl, Nat.le_of_ble_eq_true rfl⟩) ⟨zz_blind, (va_recv hK hP rfl (wM_0 a cI cZ g7)), zz_pre hP hK hD hN⟩ rfl rfl hl.1 rfl (lv_room (Nat.le_of_ble_eq_true rfl)) d_mo_pair_33 ⟨Nat.le_of_ble_eq_true rfl, Nat.le_of_ble_eq_true rfl⟩) hD hS hA (fun r9 g8 H locs h hP hD hS => ?_)
    refine lv_if_eq (tgt := 51) hx hb d_mo_pair_36 (by decide) (fun hc => ?_) (fun hc => ?_)
    · have h := h.1 hc
      refine lv_aload_n hx hb d_mo_pair_51 rfl (lv_at hl 0 rfl) ?_
      refine lv_iload_n hx hb d_mo_pair_52 rfl (lv_at hl 2 rfl) ?_
      refine lv_iload_n hx hb d_mo_pair_53 rfl (lv_at hl 1 rfl) ?_
      refine lv_iload_n hx hb d_mo_pair_54 rfl (lv_at hl 3 rfl) ?_
      refine lv_iload hx hb d_mo_pair_55 (lv_at hl 4 rfl) ?_
      refine zz_cv (va_runV (As := [.int x2, .int x1, .int x3, .int x4]) (rest := []) ⟨hx, hb, hml, hown, hts⟩ (mc_mo_join l dC dI a cI cZ _ x2 x1 x3 x4 g8 _ h) (zz_cwV 4 hts (zz_good wm_308) rfl rfl rfl wm_309 wm_310 wm_311 wm_258 (by decide +kernel) ⟨Nat.le_of_ble_eq_true rfl, Nat.le_of_ble_eq_true rfl⟩) ⟨zz_blind, (va_recv hK hP rfl (wM_0 a cI cZ g8)), zz_pre hP hK hD hN⟩ rfl rfl hl.1 rfl (lv_room (Nat.le_of_ble_eq_true rfl)) d_mo_pair_57 ⟨Nat.le_of_ble_eq_true rfl, Nat.le_of_ble_eq_true rfl⟩) hD hS hA (fun g10 H locs h hP hD hS => ?_)
      exact W.vret hx hb hr (fun t ht hW => ⟨⟨g10, rfl, h, by rw [ht]; exact hP, va_K.moved hW.alike hK, hD⟩, hS.F ht⟩) hS.2.2 d_mo_pair_60
    · have h := h.2 hc
      refine lv_aload_n hx hb d_mo_pair_39 rfl (lv_at hl 0 rfl) ?_
      refine lv_iload_n hx hb d_mo_pair_40 rfl (lv_at hl 1 rfl) ?_
      refine lv_iload_n hx hb d_mo_pair_41 rfl (lv_at hl 2 rfl) ?_
      refine lv_iload_n hx hb d_mo_pair_42 rfl (lv_at hl 3 rfl) ?_
      refine lv_iload hx hb d_mo_pair_43 (lv_at hl 4 rfl) ?_
      refine zz_cv (va_runV (As := [.int x1, .int x2, .int x3, .int x4]) (rest := []) ⟨hx, hb, hml, hown, hts⟩ (mc_mo_join l dC dI a cI cZ _ x1 x2 x3 x4 g8 _ h) (zz_cwV 4 hts (zz_good wm_308) rfl rfl rfl wm_309 wm_310 wm_311 wm_258 (by decide +kernel) ⟨Nat.le_of_ble_eq_true rfl, Nat.le_of_ble_eq_true rfl⟩) ⟨zz_blind, (va_recv hK hP rfl (wM_0 a cI cZ g8)), zz_pre hP hK hD hN⟩ rfl rfl hl.1 rfl (lv_room (Nat.le_of_ble_eq_true rfl)) d_mo_pair_45 ⟨Nat.le_of_ble_eq_true rfl, Nat.le_of_ble_eq_true rfl⟩) hD hS hA (fun g11 H locs h hP hD hS => ?_)
      refine lv_goto (tgt := 60) hx hb d_mo_pair_48 (by decide) ?_
      exact W.vret hx hb hr (fun t ht hW => ⟨⟨g11, rfl, h, by rw [ht]; exact hP, va_K.moved hW.alike hK, hD⟩, hS.F ht⟩) hS.2.2 d_mo_pair_60
  · have h := h.2 hc
    exact W.vret hx hb hr (fun t ht hW => ⟨⟨g3, rfl, h, by rw [ht]; exact hP, va_K.moved hW.alike hK, hD⟩, hS.F ht⟩) hS.2.2 d_mo_pair_17
abbrev rm_mo_gather : Room := { frames := 0, cells := 0, slots := 0, locals := 0 }
set_option maxHeartbeats 4000000 in
set_option maxRecDepth 100000 in
theorem mc_mo_gather (l : Launch) (dC : Nat → ClassId) (dI : Nat → Nat → Nat) (a : Nat → Nat) (cI cZ : ClassId) (sz : Nat) (x1 : Int32) (g : St) (post : St → Prop) (h : wp_mo_gather x1 g post) : Met l yy_mo_gather ww_mo_gather rm_mo_gather (zz_Pre (dC, dI) (wM a cI cZ) [(cI, .int), (cZ, .boolean)] [.ref (a 0), .int x1] g sz) (va_Qv post (zz_W (dC, dI) (wM a cI cZ) [(cI, .int), (cZ, .boolean)] (va_A (wM a cI cZ g) sz)) (va_A (wM a cI cZ g) sz)) 0 0 (va_A (wM a cI cZ g) sz) := by
  refine Met.ofW (cc := cc_mo_gather) (maxL := 6) (ret := none) (by decide) rfl ?_
  intro p e s m args below meth c s₁ B hml hv
  obtain ⟨hav, hsz, hP, hK, hD0, hN⟩ := hv
  have hx := B.exec
  have hb := B.bytes
  have hr := B.returns
  have hts := atoms_spec (ws := ww_mo_gather) B.pre
  have hown : s.vm.findClass "SpotContoursModel" = some m.cls := findClass_of_methodNamed B.named
  have hlocks := B.notSynchronized
  subst hsz
  have hD := hD0.self (sz := s.heap.size)
  generalize hAe : va_A (wM a cI cZ g) s.heap.size = A at hD ⊢
  have hA : ∀ q : Nat, s.heap.size ≤ q → A q := fun q h => by rw [← hAe]; exact Or.inr h
  have hS : va_S A s.heap s.heap [] := va_S.rf
  have he9 := lg_entry_eq m [.ref (a 0), .int x1] 6
  rw [← hav] at he9
  rw [he9]
  have hl := lv_entry [.ref (a 0), .int x1] (n := 6) (Nat.le_of_ble_eq_true rfl)
  generalize (lg_sl [.ref (a 0), .int x1] ++ List.replicate (6 - (lg_sl [.ref (a 0), .int x1]).length) Slot.unset).toArray = ls at hl ⊢
  have hl : lv_has ls 6 [(0, .ref (a 0)), (1, .int x1)] := hl
  have hin__mo : ∀ w ∈ u_ws R_mo T_mo 21, w ∈ ww_mo_gather := fun w h => zz_in (hin0_mo w h)
  have fl_26 := hts (.fieldLink "SpotContoursModel" 26 "SpotContoursModel" "nexts" "[I") (zz_in wm_385)
  have fl_29 := hts (.fieldLink "SpotContoursModel" 29 "SpotContoursModel" "befores" "[I") (zz_in wm_386)
  have fl_32 := hts (.fieldLink "SpotContoursModel" 32 "SpotContoursModel" "gathered" "[Z") (zz_in wm_388)
  have fl_35 := hts (.fieldLink "SpotContoursModel" 35 "SpotContoursModel" "begins" "[I") (zz_in wm_389)
  have fl_38 := hts (.fieldLink "SpotContoursModel" 38 "SpotContoursModel" "sizes" "[I") (zz_in wm_390)
  have fl_41 := hts (.fieldLink "SpotContoursModel" 41 "SpotContoursModel" "rings" "[Z") (zz_in wm_391)
  have fl_44 := hts (.fieldLink "SpotContoursModel" 44 "SpotContoursModel" "row" "[I") (zz_in wm_392)
  have fl_121 := hts (.fieldLink "SpotContoursModel" 121 "SpotContoursModel" "contours" "I") (zz_in wm_393)
  have fl_124 := hts (.fieldLink "SpotContoursModel" 124 "SpotContoursModel" "filled" "I") (zz_in wm_394)
  have L4 : ∀ (n : Nat) (v1 : Int32) (v2 : Int32) (v3 : Int32) (g : St) (K38 : Int32 → Int32 → St → Prop) , (∀ (v2 : Int32) (v3 : Int32) (g : St), K38 v2 v3 g → ∀ (H : Heap) (locs : List Loc) (ls : Array Slot), va_P (dC, dI) zzCl (wM a cI cZ g) H → va_D A (wM a cI cZ g) → va_S A s.heap H locs → lv_has ls 6 [(0, .ref (a 0)), (2, .int v2), (3, .int v3)] → W p l e (headSpec ww_mo_gather rm_mo_gather).room s m args below meth c H locs 0 0 (zz_Qv below (dC, dI) (wM a cI cZ) [(cI, .int), (cZ, .boolean)] A post args s) (F0 m 38 ls [])) → lp_mo_gather_L4 n v1 v2 v3 g K38 post → ∀ (H : Heap) (locs : List Loc) (ls : Array Slot), va_P (dC, dI) zzCl (wM a cI cZ g) H → va_D A (wM a cI cZ g) → va_S A s.heap H locs → lv_has ls 6 [(0, .ref (a 0)), (1, .int v1), (2, .int v2), (3, .int v3)] → W p l e (headSpec ww_mo_gather rm_mo_gather).room s m args below meth c H locs 0 0 (zz_Qv below (dC, dI) (wM a cI cZ) [(cI, .int), (cZ, .boolean)] A post args s) (F0 m 4 ls []) := by
    intro n
    induction n with
    | zero => intro v1 v2 v3 g K38 hK38 h; exact h.elim
    | succ n ih =>
      intro v1 v2 v3 g K38 hK38 h H locs ls hP hD hS hl
      unfold lp_mo_gather_L4 at h
      refine lv_aload_n hx hb d_mo_gather_4 rfl (lv_at hl 0 rfl) ?_
      refine va_get (D := (dC, dI)) (ci := 5) (v := .ref (a 7)) (C := R_mo) (T := T_mo) (N := 21) hx hb hts hin__mo hown hK hP 0 (wM_0 a cI cZ g) rfl 9 (by decide) fl_29 (fun _ h9 => h9) rfl d_mo_gather_5 ?_
      refine lv_iload_n hx hb d_mo_gather_8 rfl (lv_at hl 2 rfl) ?_
      refine va_iald hx hb hK hP 7 0 (wM_7 a cI cZ g) rfl h.1 d_mo_gather_9 ?_
      have h := h.2
      refine lv_if_lt (tgt := 38) hx hb d_mo_gather_10 (by decide) (fun hc => ?_) (fun hc => ?_)
      · have h := h.1 hc
        exact hK38 _ _ _ h _ _ _ hP hD hS (lv_sub hl [0, 2, 3] rfl)
      · have h := h.2 hc
        refine lv_iload_n hx hb d_mo_gather_13 rfl (lv_at hl 3 rfl) ?_
        refine lv_if_ne (tgt := 38) hx hb d_mo_gather_14 (by decide) (fun hc => ?_) (fun hc => ?_)
        · have h := h.1 hc
          exact hK38 _ _ _ h _ _ _ hP hD hS (lv_sub hl [0, 2, 3] rfl)
        · have h := h.2 hc
          refine lv_aload_n hx hb d_mo_gather_17 rfl (lv_at hl 0 rfl) ?_
          refine va_get (D := (dC, dI)) (ci := 5) (v := .ref (a 7)) (C := R_mo) (T := T_mo) (N := 21) hx hb hts hin__mo hown hK hP 0 (wM_0 a cI cZ g) rfl 9 (by decide) fl_29 (fun _ h9 => h9) rfl d_mo_gather_18 ?_
          refine lv_iload_n hx hb d_mo_gather_21 rfl (lv_at hl 2 rfl) ?_
          refine va_iald hx hb hK hP 7 0 (wM_7 a cI cZ g) rfl h.1 d_mo_gather_22 ?_
          have h := h.2
          refine lv_istore_n (lv' := [(2, .int (g 7 (ix v2))), (0, .ref (a 0)), (1, .int v1), (3, .int v3)]) hx hb d_mo_gather_23 rfl hl (by decide) rfl (fun ls hl => ?_)
          refine lv_iload_n hx hb d_mo_gather_24 rfl (lv_at hl 0 rfl) ?_
          refine lv_iload_n hx hb d_mo_gather_25 rfl (lv_at hl 2 rfl) ?_
          refine lv_icmp_ne (tgt := 33) hx hb d_mo_gather_26 (by decide) (fun hc => ?_) (fun hc => ?_)
          · have h := h.1 hc
            refine lv_iconst (v := 0) hx hb d_mo_gather_33 (by decide) ?_
            refine lv_istore_n (lv' := [(3, .int 0), (2, .int (g 7 (ix v2))), (0, .ref (a 0)), (1, .int v1)]) hx hb d_mo_gather_34 rfl hl (by decide) rfl (fun ls hl => ?_)
            refine lv_goto (tgt := 4) hx hb d_mo_gather_35 (by decide) ?_
            exact ih _ _ _ _ _ hK38 h _ _ _ hP hD hS (lv_sub hl [2, 3, 1, 0] rfl)
          · have h := h.2 hc
            refine lv_iconst (v := 1) hx hb d_mo_gather_29 (by decide) ?_
            refine lv_goto (tgt := 34) hx hb d_mo_gather_30 (by decide) ?_
            refine lv_istore_n (lv' := [(3, .int 1), (2, .int (g 7 (ix v2))), (0, .ref (a 0)), (1, .int v1)]) hx hb d_mo_gather_34 rfl hl (by decide) rfl (fun ls hl => ?_)
            refine lv_goto (tgt := 4) hx hb d_mo_gather_35 (by decide) ?_
            exact ih _ _ _ _ _ hK38 h _ _ _ hP hD hS (lv_sub hl [2, 3, 1, 0] rfl)
  have L67 : ∀ (n : Nat) (v2 : Int32) (v4 : Int32) (v5 : Int32) (g : St) (K131 : St → Prop) , (∀ (g : St), K131 g → ∀ (H : Heap) (locs : List Loc) (ls : Array Slot), va_P (dC, dI) zzCl (wM a cI cZ g) H → va_D A (wM a cI cZ g) → va_S A s.heap H locs → lv_has ls 6 [(0, .ref (a 0))] → W p l e (headSpec ww_mo_gather rm_mo_gather).room s m args below meth c H locs 0 0 (zz_Qv below (dC, dI) (wM a cI cZ) [(cI, .int), (cZ, .boolean)] A post args s) (F0 m 131 ls [])) → lp_mo_gather_L67 n v2 v4 v5 g K131 post → ∀ (H : Heap) (locs : List Loc) (ls : Array Slot), va_P (dC, dI) zzCl (wM a cI cZ g) H → va_D A (wM a cI cZ g) → va_S A s.heap H locs → lv_has ls 6 [(0, .ref (a 0)), (2, .int v2), (4, .int v4), (5, .int v5)] → W p l e (headSpec ww_mo_gather rm_mo_gather).room s m args below meth c H locs 0 0 (zz_Qv below (dC, dI) (wM a cI cZ) [(cI, .int), (cZ, .boolean)] A post args s) (F0 m 67 ls []) := by
    intro n
    induction n with
    | zero => intro v2 v4 v5 g K131 hK131 h; exact h.elim
    | succ n ih =>
      intro v2 v4 v5 g K131 hK131 h H locs ls hP hD hS hl
      unfold lp_mo_gather_L67 at h
      refine lv_iload hx hb d_mo_gather_67 (lv_at hl 3 rfl) ?_
      refine lv_if_eq (tgt := 131) hx hb d_mo_gather_69 (by decide) (fun hc => ?_) (fun hc => ?_)
      · have h := h.1 hc
        exact hK131 _ h _ _ _ hP hD hS (lv_sub hl [0] rfl)
      · have h := h.2 hc
        refine lv_aload_n hx hb d_mo_gather_72 rfl (lv_at hl 0 rfl) ?_
        refine va_get (D := (dC, dI)) (ci := 5) (v := .ref (a 12)) (C := R_mo) (T := T_mo) (N := 21) hx hb hts hin__mo hown hK hP 0 (wM_0 a cI cZ g) rfl 16 (by decide) fl_44 (fun _ h9 => h9) rfl d_mo_gather_73 ?_
        refine lv_aload_n hx hb d_mo_gather_76 rfl (lv_at hl 0 rfl) ?_
        refine va_get (D := (dC, dI)) (ci := 5) (v := .int (g 0 15)) (C := R_mo) (T := T_mo) (N := 21) hx hb hts hin__mo hown hK hP 0 (wM_0 a cI cZ g) rfl 15 (by decide) fl_124 (fun _ h9 => h9) rfl d_mo_gather_77 ?_
        refine lv_iload hx hb d_mo_gather_80 (lv_at hl 2 rfl) ?_
        refine va_iast hx hb hK hP hD hS 12 0 (wM_12 a cI cZ g) rfl h.1 d_mo_gather_82 (fun H locs hP hD hS => ?_)
        obtain ⟨g6, e_g6⟩ : ∃ z : St, z = gp g 12 (ix (g 0 15)) v4 := ⟨_, rfl⟩
        have h := h.2 g6 e_g6
        have hP : va_P (dC, dI) zzCl (wM a cI cZ g6) H := by rw [e_g6]; exact hP
        have hD : va_D A (wM a cI cZ g6) := by rw [e_g6]; exact hD
        refine lv_aload_n hx hb d_mo_gather_83 rfl (lv_at hl 0 rfl) ?_
        refine lv_dup hx hb d_mo_gather_84 rfl ?_
        refine va_get (D := (dC, dI)) (ci := 5) (v := .int (g6 0 15)) (C := R_mo) (T := T_mo) (N := 21) hx hb hts hin__mo hown hK hP 0 (wM_0 a cI cZ g6) rfl 15 (by decide) fl_124 (fun _ h9 => h9) rfl d_mo_gather_85 ?_
        refine lv_iconst (v := 1) hx hb d_mo_gather_88 (by decide) ?_
        refine lv_iadd hx hb d_mo_gather_89 ?_
        refine va_put (D := (dC, dI)) (ci := 5) (v := .int ((g6 0 15) + 1)) (ty := .int) (C := R_mo) (T := T_mo) (N := 21) hx hb hts hin__mo ty_mo tok_mo nmd_mo hown hK hP hD hS 0 (wM_0 a cI cZ g6) rfl 15 (by decide) fl_124 (fun _ h9 => h9) rfl (by decide +kernel) rfl rfl (Nat.le_of_ble_eq_true rfl) d_mo_gather_90 (fun H locs hP hD hS => ?_)
        obtain ⟨g7, e_g7⟩ : ∃ z : St, z = gp g6 0 15 ((g6 0 15) + 1) := ⟨_, rfl⟩
        have h := h g7 e_g7
        have hP : va_P (dC, dI) zzCl (wM a cI cZ g7) H := by rw [e_g7]; exact hP
        have hD : va_D A (wM a cI cZ g7) := by rw [e_g7]; exact hD
        refine lv_aload_n hx hb d_mo_gather_93 rfl (lv_at hl 0 rfl) ?_
        refine va_get (D := (dC, dI)) (ci := 5) (v := .ref (a 8)) (C := R_mo) (T := T_mo) (N := 21) hx hb hts hin__mo hown hK hP 0 (wM_0 a cI cZ g7) rfl 10 (by decide) fl_32 (fun _ h9 => h9) rfl d_mo_gather_94 ?_
        refine lv_iload hx hb d_mo_gather_97 (lv_at hl 2 rfl) ?_
        refine lv_iconst (v := 1) hx hb d_mo_gather_99 (by decide) ?_
        refine va_zast hx hb hK hP hD hS 8 1 (wM_8 a cI cZ g7) rfl h.1 d_mo_gather_100 (fun H locs hP hD hS => ?_)
        obtain ⟨g8, e_g8⟩ : ∃ z : St, z = gp g7 8 (ix v4) (vp_nar .boolean 1) := ⟨_, rfl⟩
        have h := h.2 g8 e_g8
        have hP : va_P (dC, dI) zzCl (wM a cI cZ g8) H := by rw [e_g8]; exact hP
        have hD : va_D A (wM a cI cZ g8) := by rw [e_g8]; exact hD
        refine lv_aload_n hx hb d_mo_gather_101 rfl (lv_at hl 0 rfl) ?_
        refine va_get (D := (dC, dI)) (ci := 5) (v := .ref (a 6)) (C := R_mo) (T := T_mo) (N := 21) hx hb hts hin__mo hown hK hP 0 (wM_0 a cI cZ g8) rfl 8 (by decide) fl_26 (fun _ h9 => h9) rfl d_mo_gather_102 ?_
        refine lv_iload hx hb d_mo_gather_105 (lv_at hl 2 rfl) ?_
        refine va_iald hx hb hK hP 6 0 (wM_6 a cI cZ g8) rfl h.1 d_mo_gather_107 ?_
        have h := h.2
        refine lv_istore (lv' := [(4, .int (g8 6 (ix v4))), (0, .ref (a 0)), (2, .int v2), (5, .int v5)]) hx hb d_mo_gather_108 hl (by decide) rfl (fun ls hl => ?_)
        refine lv_iload hx hb d_mo_gather_110 (lv_at hl 0 rfl) ?_
        refine lv_if_lt (tgt := 125) hx hb d_mo_gather_112 (by decide) (fun hc => ?_) (fun hc => ?_)
        · have h := h.1 hc
          refine lv_iconst (v := 0) hx hb d_mo_gather_125 (by decide) ?_
          refine lv_istore (lv' := [(5, .int 0), (4, .int (g8 6 (ix v4))), (0, .ref (a 0)), (2, .int v2)]) hx hb d_mo_gather_126 hl (by decide) rfl (fun ls hl => ?_)
          refine lv_goto (tgt := 67) hx hb d_mo_gather_128 (by decide) ?_
          exact ih _ _ _ _ _ hK131 h _ _ _ hP hD hS (lv_sub hl [2, 3, 1, 0] rfl)
        · have h := h.2 hc
          refine lv_iload hx hb d_mo_gather_115 (lv_at hl 0 rfl) ?_
          refine lv_iload_n hx hb d_mo_gather_117 rfl (lv_at hl 2 rfl) ?_
          refine lv_icmp_eq (tgt := 125) hx hb d_mo_gather_118 (by decide) (fun hc => ?_) (fun hc => ?_)
          · have h := h.1 hc
            refine lv_iconst (v := 0) hx hb d_mo_gather_125 (by decide) ?_
            refine lv_istore (lv' := [(5, .int 0), (4, .int (g8 6 (ix v4))), (0, .ref (a 0)), (2, .int v2)]) hx hb d_mo_gather_126 hl (by decide) rfl (fun ls hl => ?_)
            refine lv_goto (tgt := 67) hx hb d_mo_gather_128 (by decide) ?_
            exact ih _ _ _ _ _ hK131 h _ _ _ hP hD hS (lv_sub hl [2, 3, 1, 0] rfl)
          · have h := h.2 hc
            refine lv_iconst (v := 1) hx hb d_mo_gather_121 (by decide) ?_
            refine lv_goto (tgt := 126) hx hb d_mo_gather_122 (by decide) ?_
            refine lv_istore (lv' := [(5, .int 1), (4, .int (g8 6 (ix v4))), (0, .ref (a 0)), (2, .int v2)]) hx hb d_mo_gather_126 hl (by decide) rfl (fun ls hl => ?_)
            refine lv_goto (tgt := 67) hx hb d_mo_gather_128 (by decide) ?_
            exact ih _ _ _ _ _ hK131 h _ _ _ hP hD hS (lv_sub hl [2, 3, 1, 0] rfl)
  have J38 : ∀ (v2 : Int32) (v3 : Int32) (g : St), jn_mo_gather_J38 v2 v3 g post → ∀ (H : Heap) (locs : List Loc) (ls : Array Slot), va_P (dC, dI) zzCl (wM a cI cZ g) H → va_D A (wM a cI cZ g) → va_S A s.heap H locs → lv_has ls 6 [(0, .ref (a 0)), (2, .int v2), (3, .int v3)] → W p l e (headSpec ww_mo_gather rm_mo_gather).room s m args below meth c H locs 0 0 (zz_Qv below (dC, dI) (wM a cI cZ) [(cI, .int), (cZ, .boolean)] A post args s) (F0 m 38 ls []) := by
    intro v2 v3 g h H locs ls hP hD hS hl
    unfold jn_mo_gather_J38 at h
    refine lv_aload_n hx hb d_mo_gather_38 rfl (lv_at hl 0 rfl) ?_
    refine va_get (D := (dC, dI)) (ci := 5) (v := .ref (a 9)) (C := R_mo) (T := T_mo) (N := 21) hx hb hts hin__mo hown hK hP 0 (wM_0 a cI cZ g) rfl 12 (by decide) fl_35 (fun _ h9 => h9) rfl d_mo_gather_39 ?_
    refine lv_aload_n hx hb d_mo_gather_42 rfl (lv_at hl 0 rfl) ?_
    refine va_get (D := (dC, dI)) (ci := 5) (v := .int (g 0 11)) (C := R_mo) (T := T_mo) (N := 21) hx hb hts hin__mo hown hK hP 0 (wM_0 a cI cZ g) rfl 11 (by decide) fl_121 (fun _ h9 => h9) rfl d_mo_gather_43 ?_
    refine lv_aload_n hx hb d_mo_gather_46 rfl (lv_at hl 0 rfl) ?_
    refine va_get (D := (dC, dI)) (ci := 5) (v := .int (g 0 15)) (C := R_mo) (T := T_mo) (N := 21) hx hb hts hin__mo hown hK hP 0 (wM_0 a cI cZ g) rfl 15 (by decide) fl_124 (fun _ h9 => h9) rfl d_mo_gather_47 ?_
    refine va_iast hx hb hK hP hD hS 9 0 (wM_9 a cI cZ g) rfl h.1 d_mo_gather_50 (fun H locs hP hD hS => ?_)
    obtain ⟨g4, e_g4⟩ : ∃ z : St, z = gp g 9 (ix (g 0 11)) (g 0 15) := ⟨_, rfl⟩
    have h := h.2 g4 e_g4
    have hP : va_P (dC, dI) zzCl (wM a cI cZ g4) H := by rw [e_g4]; exact hP
    have hD : va_D A (wM a cI cZ g4) := by rw [e_g4]; exact hD
    refine lv_aload_n hx hb d_mo_gather_51 rfl (lv_at hl 0 rfl) ?_
    refine va_get (D := (dC, dI)) (ci := 5) (v := .ref (a 11)) (C := R_mo) (T := T_mo) (N := 21) hx hb hts hin__mo hown hK hP 0 (wM_0 a cI cZ g4) rfl 14 (by decide) fl_41 (fun _ h9 => h9) rfl d_mo_gather_52 ?_
    refine lv_aload_n hx hb d_mo_gather_55 rfl (lv_at hl 0 rfl) ?_
    refine va_get (D := (dC, dI)) (ci := 5) (v := .int (g4 0 11)) (C := R_mo) (T := T_mo) (N := 21) hx hb hts hin__mo hown hK hP 0 (wM_0 a cI cZ g4) rfl 11 (by decide) fl_121 (fun _ h9 => h9) rfl d_mo_gather_56 ?_
    refine lv_iload_n hx hb d_mo_gather_59 rfl (lv_at hl 2 rfl) ?_
    refine va_zast hx hb hK hP hD hS 11 1 (wM_11 a cI cZ g4) rfl h.1 d_mo_gather_60 (fun H locs hP hD hS => ?_)
    obtain ⟨g5, e_g5⟩ : ∃ z : St, z = gp g4 11 (ix (g4 0 11)) (vp_nar .boolean v3) := ⟨_, rfl⟩
    have h := h.2 g5 e_g5
    have hP : va_P (dC, dI) zzCl (wM a cI cZ g5) H := by rw [e_g5]; exact hP
    have hD : va_D A (wM a cI cZ g5) := by rw [e_g5]; exact hD
    refine lv_iload_n hx hb d_mo_gather_61 rfl (lv_at hl 1 rfl) ?_
    refine lv_istore (lv' := [(4, .int v2), (0, .ref (a 0)), (2, .int v2), (3, .int v3)]) hx hb d_mo_gather_62 hl (by decide) rfl (fun ls hl => ?_)
    refine lv_iconst (v := 1) hx hb d_mo_gather_64 (by decide) ?_
    refine lv_istore (lv' := [(5, .int 1), (4, .int v2), (0, .ref (a 0)), (2, .int v2), (3, .int v3)]) hx hb d_mo_gather_65 hl (by decide) rfl (fun ls hl => ?_)
    obtain ⟨n67, h⟩ := h
    refine L67 n67 _ _ _ _ _ (fun g9 h H locs ls hP hD hS hl => ?_) h _ _ _ hP hD hS (lv_sub hl [2, 3, 1, 0] rfl)
    refine lv_aload_n hx hb d_mo_gather_131 rfl (lv_at hl 0 rfl) ?_
    refine va_get (D := (dC, dI)) (ci := 5) (v := .ref (a 10)) (C := R_mo) (T := T_mo) (N := 21) hx hb hts hin__mo hown hK hP 0 (wM_0 a cI cZ g9) rfl 13 (by decide) fl_38 (fun _ h9 => h9) rfl d_mo_gather_132 ?_
    refine lv_aload_n hx hb d_mo_gather_135 rfl (lv_at hl 0 rfl) ?_
    refine va_get (D := (dC, dI)) (ci := 5) (v := .int (g9 0 11)) (C := R_mo) (T := T_mo) (N := 21) hx hb hts hin__mo hown hK hP 0 (wM_0 a cI cZ g9) rfl 11 (by decide) fl_121 (fun _ h9 => h9) rfl d_mo_gather_136 ?_
    refine lv_aload_n hx hb d_mo_gather_139 rfl (lv_at hl 0 rfl) ?_
    refine va_get (D := (dC, dI)) (ci := 5) (v := .int (g9 0 15)) (C := R_mo) (T := T_mo) (N := 21) hx hb hts hin__mo hown hK hP 0 (wM_0 a cI cZ g9) rfl 15 (by decide) fl_124 (fun _ h9 => h9) rfl d_mo_gather_140 ?_
    refine lv_aload_n hx hb d_mo_gather_143 rfl (lv_at hl 0 rfl) ?_
    refine va_get (D := (dC, dI)) (ci := 5) (v := .ref (a 9)) (C := R_mo) (T := T_mo) (N := 21) hx hb hts hin__mo hown hK hP 0 (wM_0 a cI cZ g9) rfl 12 (by decide) fl_35 (fun _ h9 => h9) rfl d_mo_gather_144 ?_
    refine lv_aload_n hx hb d_mo_gather_147 rfl (lv_at hl 0 rfl) ?_
    refine va_get (D := (dC, dI)) (ci := 5) (v := .int (g9 0 11)) (C := R_mo) (T := T_mo) (N := 21) hx hb hts hin__mo hown hK hP 0 (wM_0 a cI cZ g9) rfl 11 (by decide) fl_121 (fun _ h9 => h9) rfl d_mo_gather_148 ?_
    refine va_iald hx hb hK hP 9 0 (wM_9 a cI cZ g9) rfl h.1 d_mo_gather_151 ?_
    have h := h.2
    refine lv_isub hx hb d_mo_gather_152 ?_
    refine va_iast hx hb hK hP hD hS 10 0 (wM_10 a cI cZ g9) rfl h.1 d_mo_gather_153 (fun H locs hP hD hS => ?_)
    obtain ⟨g10, e_g10⟩ : ∃ z : St, z = gp g9 10 (ix (g9 0 11)) ((g9 0 15) - (g9 9 (ix (g9 0 11)))) := ⟨_, rfl⟩
    have h := h.2 g10 e_g10
    have hP : va_P (dC, dI) zzCl (wM a cI cZ g10) H := by rw [e_g10]; exact hP
    have hD : va_D A (wM a cI cZ g10) := by rw [e_g10]; exact hD
    refine lv_aload_n hx hb d_mo_gather_154 rfl (lv_at hl 0 rfl) ?_
    refine lv_dup hx hb d_mo_gather_155 rfl ?_
    refine va_get (D := (dC, dI)) (ci := 5) (v := .int (g10 0 11)) (C := R_mo) (T := T_mo) (N := 21) hx hb hts hin__mo hown hK hP 0 (wM_0 a cI cZ g10) rfl 11 (by decide) fl_121 (fun _ h9 => h9) rfl d_mo_gather_156 ?_
    refine lv_iconst (v := 1) hx hb d_mo_gather_159 (by decide) ?_
    refine lv_iadd hx hb d_mo_gather_160 ?_
    refine va_put (D := (dC, dI)) (ci := 5) (v := .int ((g10 0 11) + 1)) (ty := .int) (C := R_mo) (T := T_mo) (N := 21) hx hb hts hin__mo ty_mo tok_mo nmd_mo hown hK hP hD hS 0 (wM_0 a cI cZ g10) rfl 11 (by decide) fl_121 (fun _ h9 => h9) rfl (by decide +kernel) rfl rfl (Nat.le_of_ble_eq_true rfl) d_mo_gather_161 (fun H locs hP hD hS => ?_)
    obtain ⟨g11, e_g11⟩ : ∃ z : St, z = gp g10 0 11 ((g10 0 11) + 1) := ⟨_, rfl⟩
    have h := h g11 e_g11
    have hP : va_P (dC, dI) zzCl (wM a cI cZ g11) H := by rw [e_g11]; exact hP
    have hD : va_D A (wM a cI cZ g11) := by rw [e_g11]; exact hD
    exact W.vret hx hb hr (fun t ht hW => ⟨⟨g11, rfl, h, by rw [ht]; exact hP, va_K.moved hW.alike hK, hD⟩, hS.F ht⟩) hS.2.2 d_mo_gather_164
  unfold wp_mo_gather at h
  refine lv_iload_n hx hb d_mo_gather_0 rfl (lv_at hl 1 rfl) ?_
  refine lv_istore_n (lv' := [(2, .int x1), (0, .ref (a 0)), (1, .int x1)]) hx hb d_mo_gather_1 rfl hl (by decide) rfl (fun ls hl => ?_)
  refine lv_iconst (v := 0) hx hb d_mo_gather_2 (by decide) ?_
  refine lv_istore_n (lv' := [(3, .int 0), (2, .int x1), (0, .ref (a 0)), (1, .int x1)]) hx hb d_mo_gather_3 rfl hl (by decide) rfl (fun ls hl => ?_)
  obtain ⟨n4, h⟩ := h
  refine L4 n4 _ _ _ _ _ (fun w2 w3 g1 h H locs ls hP hD hS hl => ?_) h _ _ _ hP hD hS (lv_sub hl [2, 3, 1, 0] rfl)
  exact J38 _ _ _ h _ _ _ hP hD hS (lv_sub hl [0, 1, 2] rfl)
abbrev rm_mo_findContours : Room := { frames := 3, cells := 0, slots := 0, locals := 72 }
set_option maxHeartbeats 4000000 in
set_option maxRecDepth 100000 in
theorem mc_mo_findContours (l : Launch) (dC : Nat → ClassId) (dI : Nat → Nat → Nat) (a : Nat → Nat) (cI cZ : ClassId) (sz : Nat) (x1 : Int32) (g : St) (post : St → Prop) (h : wp_mo_findContours x1 g post) : Met l yy_mo_findContours ww_mo_findContours rm_mo_findContours (zz_Pre (dC, dI) (wM a cI cZ) [(cI, .int), (cZ, .boolean)] [.ref (a 0), .int x1] g sz) (va_Qv post (zz_W (dC, dI) (wM a cI cZ) [(cI, .int), (cZ, .boolean)] (va_A (wM a cI cZ g) sz)) (va_A (wM a cI cZ g) sz)) 0 0 (va_A (wM a cI cZ g) sz) := by
  refine Met.ofW (cc := cc_mo_findContours) (maxL := 6) (ret := none) (by decide) rfl ?_
  intro p e s m args below meth c s₁ B hml hv
  obtain ⟨hav, hsz, hP, hK, hD0, hN⟩ := hv
  have hx := B.exec
  have hb := B.bytes
  have hr := B.returns
  have hts := atoms_spec (ws := ww_mo_findContours) B.pre
  have hown : s.vm.findClass "SpotContoursModel" = some m.cls := findClass_of_methodNamed B.named
  have hlocks := B.notSynchronized
  subst hsz
  have hD := hD0.self (sz := s.heap.size)
  generalize hAe : va_A (wM a cI cZ g) s.heap.size = A at hD ⊢
  have hA : ∀ q : Nat, s.heap.size ≤ q → A q := fun q h => by rw [← hAe]; exact Or.inr h
  have hS : va_S A s.heap s.heap [] := va_S.rf
  have he9 := lg_entry_eq m [.ref (a 0), .int x1] 6
  rw [← hav] at he9
  rw [he9]
  have hl := lv_entry [.ref (a 0), .int x1] (n := 6) (Nat.le_of_ble_eq_true rfl)
  generalize (lg_sl [.ref (a 0), .int x1] ++ List.replicate (6 - (lg_sl [.ref (a 0), .int x1]).length) Slot.unset).toArray = ls at hl ⊢
  have hl : lv_has ls 6 [(0, .ref (a 0)), (1, .int x1)] := hl
  have hin__mo : ∀ w ∈ u_ws R_mo T_mo 21, w ∈ ww_mo_findContours := fun w h => zz_in (hin0_mo w h)
  have fl_19 := hts (.fieldLink "SpotContoursModel" 19 "SpotContoursModel" "corners" "[I") (zz_in wm_381)
  have fl_22 := hts (.fieldLink "SpotContoursModel" 22 "SpotContoursModel" "is" "[Z") (zz_in wm_387)
  have fl_26 := hts (.fieldLink "SpotContoursModel" 26 "SpotContoursModel" "nexts" "[I") (zz_in wm_385)
  have fl_29 := hts (.fieldLink "SpotContoursModel" 29 "SpotContoursModel" "befores" "[I") (zz_in wm_386)
  have fl_32 := hts (.fieldLink "SpotContoursModel" 32 "SpotContoursModel" "gathered" "[Z") (zz_in wm_388)
  have fl_92 := hts (.fieldLink "SpotContoursModel" 92 "SpotContoursModel" "count" "I") (zz_in wm_382)
  have fl_121 := hts (.fieldLink "SpotContoursModel" 121 "SpotContoursModel" "contours" "I") (zz_in wm_393)
  have fl_124 := hts (.fieldLink "SpotContoursModel" 124 "SpotContoursModel" "filled" "I") (zz_in wm_394)
  have L2 : ∀ (n : Nat) (v1 : Int32) (v2 : Int32) (g : St) (K43 : Int32 → St → Prop) , (∀ (v1 : Int32) (g : St), K43 v1 g → ∀ (H : Heap) (locs : List Loc) (ls : Array Slot), va_P (dC, dI) zzCl (wM a cI cZ g) H → va_D A (wM a cI cZ g) → va_S A s.heap H locs → lv_has ls 6 [(0, .ref (a 0)), (1, .int v1)] → W p l e (headSpec ww_mo_findContours rm_mo_findContours).room s m args below meth c H locs 0 0 (zz_Qv below (dC, dI) (wM a cI cZ) [(cI, .int), (cZ, .boolean)] A post args s) (F0 m 43 ls [])) → lp_mo_findContours_L2 n v1 v2 g K43 post → ∀ (H : Heap) (locs : List Loc) (ls : Array Slot), va_P (dC, dI) zzCl (wM a cI cZ g) H → va_D A (wM a cI cZ g) → va_S A s.heap H locs → lv_has ls 6 [(0, .ref (a 0)), (1, .int v1), (2, .int v2)] → W p l e (headSpec ww_mo_findContours rm_mo_findContours).room s m args below meth c H locs 0 0 (zz_Qv below (dC, dI) (wM a cI cZ) [(cI, .int), (cZ, .boolean)] A post args s) (F0 m 2 ls []) := by
    intro n
    induction n with
    | zero => intro v1 v2 g K43 hK43 h; exact h.elim
    | succ n ih =>
      intro v1 v2 g K43 hK43 h H locs ls hP hD hS hl
      unfold lp_mo_findContours_L2 at h
      refine lv_iload_n hx hb d_mo_findContours_2 rfl (lv_at hl 2 rfl) ?_
      refine lv_sipush (v := 256) hx hb d_mo_findContours_3 (by decide) ?_
      refine lv_icmp_ge (tgt := 43) hx hb d_mo_findContours_6 (by decide) (fun hc => ?_) (fun hc => ?_)
      · have h := h.1 hc
        exact hK43 _ _ h _ _ _ hP hD hS (lv_sub hl [0, 1] rfl)
      · have h := h.2 hc
        refine lv_aload_n hx hb d_mo_findContours_9 rfl (lv_at hl 0 rfl) ?_
        refine va_get (D := (dC, dI)) (ci := 5) (v := .ref (a 5)) (C := R_mo) (T := T_mo) (N := 21) hx hb hts hin__mo hown hK hP 0 (wM_0 a cI cZ g) rfl 7 (by decide) fl_22 (fun _ h9 => h9) rfl d_mo_findContours_10 ?_
        refine lv_iload_n hx hb d_mo_findContours_13 rfl (lv_at hl 2 rfl) ?_
        refine lv_iconst (v := 0) hx hb d_mo_findContours_14 (by decide) ?_
        refine va_zast hx hb hK hP hD hS 5 1 (wM_5 a cI cZ g) rfl h.1 d_mo_findContours_15 (fun H locs hP hD hS => ?_)
        obtain ⟨g1, e_g1⟩ : ∃ z : St, z = gp g 5 (ix v2) (vp_nar .boolean 0) := ⟨_, rfl⟩
        have h := h.2 g1 e_g1
        have hP : va_P (dC, dI) zzCl (wM a cI cZ g1) H := by rw [e_g1]; exact hP
        have hD : va_D A (wM a cI cZ g1) := by rw [e_g1]; exact hD
        refine lv_aload_n hx hb d_mo_findContours_16 rfl (lv_at hl 0 rfl) ?_
        refine va_get (D := (dC, dI)) (ci := 5) (v := .ref (a 8)) (C := R_mo) (T := T_mo) (N := 21) hx hb hts hin__mo hown hK hP 0 (wM_0 a cI cZ g1) rfl 10 (by decide) fl_32 (fun _ h9 => h9) rfl d_mo_findContours_17 ?_
        refine lv_iload_n hx hb d_mo_findContours_20 rfl (lv_at hl 2 rfl) ?_
        refine lv_iconst (v := 0) hx hb d_mo_findContours_21 (by decide) ?_
        refine va_zast hx hb hK hP hD hS 8 1 (wM_8 a cI cZ g1) rfl h.1 d_mo_findContours_22 (fun H locs hP hD hS => ?_)
        obtain ⟨g2, e_g2⟩ : ∃ z : St, z = gp g1 8 (ix v2) (vp_nar .boolean 0) := ⟨_, rfl⟩
        have h := h.2 g2 e_g2
        have hP : va_P (dC, dI) zzCl (wM a cI cZ g2) H := by rw [e_g2]; exact hP
        have hD : va_D A (wM a cI cZ g2) := by rw [e_g2]; exact hD
        refine lv_aload_n hx hb d_mo_findContours_23 rfl (lv_at hl 0 rfl) ?_
        refine va_get (D := (dC, dI)) (ci := 5) (v := .ref (a 6)) (C := R_mo) (T := T_mo) (N := 21) hx hb hts hin__mo hown hK hP 0 (wM_0 a cI cZ g2) rfl 8 (by decide) fl_26 (fun _ h9 => h9) rfl d_mo_findContours_24 ?_
        refine lv_iload_n hx hb d_mo_findContours_27 rfl (lv_at hl 2 rfl) ?_
        refine lv_iconst (v := (-1)) hx hb d_mo_findContours_28 (by decide) ?_
        refine va_iast hx hb hK hP hD hS 6 0 (wM_6 a cI cZ g2) rfl h.1 d_mo_findContours_29 (fun H locs hP hD hS => ?_)
        obtain ⟨g3, e_g3⟩ : ∃ z : St, z = gp g2 6 (ix v2) (-1) := ⟨_, rfl⟩
        have h := h.2 g3 e_g3
        have hP : va_P (dC, dI) zzCl (wM a cI cZ g3) H := by rw [e_g3]; exact hP
        have hD : va_D A (wM a cI cZ g3) := by rw [e_g3]; exact hD
        refine lv_aload_n hx hb d_mo_findContours_30 rfl (lv_at hl 0 rfl) ?_
        refine va_get (D := (dC, dI)) (ci := 5) (v := .ref (a 7)) (C := R_mo) (T := T_mo) (N := 21) hx hb hts hin__mo hown hK hP 0 (wM_0 a cI cZ g3) rfl 9 (by decide) fl_29 (fun _ h9 => h9) rfl d_mo_findContours_31 ?_
        refine lv_iload_n hx hb d_mo_findContours_34 rfl (lv_at hl 2 rfl) ?_
        refine lv_iconst (v := (-1)) hx hb d_mo_findContours_35 (by decide) ?_
        refine va_iast hx hb hK hP hD hS 7 0 (wM_7 a cI cZ g3) rfl h.1 d_mo_findContours_36 (fun H locs hP hD hS => ?_)
        obtain ⟨g4, e_g4⟩ : ∃ z : St, z = gp g3 7 (ix v2) (-1) := ⟨_, rfl⟩
        have h := h.2 g4 e_g4
        have hP : va_P (dC, dI) zzCl (wM a cI cZ g4) H := by rw [e_g4]; exact hP
        have hD : va_D A (wM a cI cZ g4) := by rw [e_g4]; exact hD
        refine lv_iinc (k := 2) (v := (v2 + 1)) (lv' := [(2, .int (v2 + 1)), (0, .ref (a 0)), (1, .int v1)]) hx hb d_mo_findContours_37 hl rfl rfl (by decide) rfl (fun ls hl => ?_)
        refine lv_goto (tgt := 2) hx hb d_mo_findContours_40 (by decide) ?_
        exact ih _ _ _ _ hK43 h _ _ _ hP hD hS (lv_sub hl [1, 2, 0] rfl)
  have L45 : ∀ (n : Nat) (v1 : Int32) (v2 : Int32) (g : St) (K122 : St → Prop) , (∀ (g : St), K122 g → ∀ (H : Heap) (locs : List Loc) (ls : Array Slot), va_P (dC, dI) zzCl (wM a cI cZ g) H → va_D A (wM a cI cZ g) → va_S A s.heap H locs → lv_has ls 6 [(0, .ref (a 0))] → W p l e (headSpec ww_mo_findContours rm_mo_findContours).room s m args below meth c H locs 0 0 (zz_Qv below (dC, dI) (wM a cI cZ) [(cI, .int), (cZ, .boolean)] A post args s) (F0 m 122 ls [])) → lp_mo_findContours_L45 n v1 v2 g K122 post → ∀ (H : Heap) (locs : List Loc) (ls : Array Slot), va_P (dC, dI) zzCl (wM a cI cZ g) H → va_D A (wM a cI cZ g) → va_S A s.heap H locs → lv_has ls 6 [(0, .ref (a 0)), (1, .int v1), (2, .int v2)] → W p l e (headSpec ww_mo_findContours rm_mo_findContours).room s m args below meth c H locs 0 0 (zz_Qv below (dC, dI) (wM a cI cZ) [(cI, .int), (cZ, .boolean)] A post args s) (F0 m 45 ls []) := by
    intro n
    induction n with
    | zero => intro v1 v2 g K122 hK122 h; exact h.elim
    | succ n ih =>
      intro v1 v2 g K122 hK122 h H locs ls hP hD hS hl
      unfold lp_mo_findContours_L45 at h
      refine lv_iload_n hx hb d_mo_findContours_45 rfl (lv_at hl 2 rfl) ?_
      refine lv_aload_n hx hb d_mo_findContours_46 rfl (lv_at hl 0 rfl) ?_
      refine va_get (D := (dC, dI)) (ci := 5) (v := .int (g 0 5)) (C := R_mo) (T := T_mo) (N := 21) hx hb hts hin__mo hown hK hP 0 (wM_0 a cI cZ g) rfl 5 (by decide) fl_92 (fun _ h9 => h9) rfl d_mo_findContours_47 ?_
      refine lv_icmp_ge (tgt := 122) hx hb d_mo_findContours_50 (by decide) (fun hc => ?_) (fun hc => ?_)
      · have h := h.1 hc
        exact hK122 _ h _ _ _ hP hD hS (lv_sub hl [0] rfl)
      · have h := h.2 hc
        refine lv_aload_n hx hb d_mo_findContours_53 rfl (lv_at hl 0 rfl) ?_
        refine va_get (D := (dC, dI)) (ci := 5) (v := .ref (a 4)) (C := R_mo) (T := T_mo) (N := 21) hx hb hts hin__mo hown hK hP 0 (wM_0 a cI cZ g) rfl 6 (by decide) fl_19 (fun _ h9 => h9) rfl d_mo_findContours_54 ?_
        refine lv_iconst (v := 3) hx hb d_mo_findContours_57 (by decide) ?_
        refine lv_iload_n hx hb d_mo_findContours_58 rfl (lv_at hl 2 rfl) ?_
        refine lv_imul hx hb d_mo_findContours_59 ?_
        refine va_iald hx hb hK hP 4 0 (wM_4 a cI cZ g) rfl h.1 d_mo_findContours_60 ?_
        have h := h.2
        refine lv_istore_n (lv' := [(3, .int (g 4 (ix (3 * v2)))), (0, .ref (a 0)), (1, .int v1), (2, .int v2)]) hx hb d_mo_findContours_61 rfl hl (by decide) rfl (fun ls hl => ?_)
        refine lv_aload_n hx hb d_mo_findContours_62 rfl (lv_at hl 1 rfl) ?_
        refine va_get (D := (dC, dI)) (ci := 5) (v := .ref (a 4)) (C := R_mo) (T := T_mo) (N := 21) hx hb hts hin__mo hown hK hP 0 (wM_0 a cI cZ g) rfl 6 (by decide) fl_19 (fun _ h9 => h9) rfl d_mo_findContours_63 ?_
        refine lv_iconst (v := 3) hx hb d_mo_findContours_66 (by decide) ?_
        refine lv_iload_n hx hb d_mo_findContours_67 rfl (lv_at hl 3 rfl) ?_
        refine lv_imul hx hb d_mo_findContours_68 ?_
        refine lv_iconst (v := 1) hx hb d_mo_findContours_69 (by decide) ?_
        refine lv_iadd hx hb d_mo_findContours_70 ?_
        refine va_iald hx hb hK hP 4 0 (wM_4 a cI cZ g) rfl h.1 d_mo_findContours_71 ?_
        have h := h.2
        refine lv_istore (lv' := [(4, .int (g 4 (ix ((3 * v2) + 1)))), (3, .int (g 4 (ix (3 * v2)))), (0, .ref (a 0)), (1, .int v1), (2, .int v2)]) hx hb d_mo_findContours_72 hl (by decide) rfl (fun ls hl => ?_)
        refine lv_aload_n hx hb d_mo_findContours_74 rfl (lv_at hl 2 rfl) ?_
        refine va_get (D := (dC, dI)) (ci := 5) (v := .ref (a 4)) (C := R_mo) (T := T_mo) (N := 21) hx hb hts hin__mo hown hK hP 0 (wM_0 a cI cZ g) rfl 6 (by decide) fl_19 (fun _ h9 => h9) rfl d_mo_findContours_75 ?_
        refine lv_iconst (v := 3) hx hb d_mo_findContours_78 (by decide) ?_
        refine lv_iload_n hx hb d_mo_findContours_79 rfl (lv_at hl 4 rfl) ?_
        refine lv_imul hx hb d_mo_findContours_80 ?_
        refine lv_iconst (v := 2) hx hb d_mo_findContours_81 (by decide) ?_
        refine lv_iadd hx hb d_mo_findContours_82 ?_
        refine va_iald hx hb hK hP 4 0 (wM_4 a cI cZ g) rfl h.1 d_mo_findContours_83 ?_
        have h := h.2
        refine lv_istore (lv' := [(5, .int (g 4 (ix ((3 * v2) + 2)))), (4, .int (g 4 (ix ((3 * v2) + 1)))), (3, .int (g 4 (ix (3 * v2)))), (0, .ref (a 0)), (1, .int v1), (2, .int v2)]) hx hb d_mo_findContours_84 hl (by decide) rfl (fun ls hl => ?_)
        refine lv_aload_n hx hb d_mo_findContours_86 rfl (lv_at hl 3 rfl) ?_
        refine lv_iload_n hx hb d_mo_findContours_87 rfl (lv_at hl 2 rfl) ?_
        refine lv_iload hx hb d_mo_findContours_88 (lv_at hl 1 rfl) ?_
        refine lv_iload hx hb d_mo_findContours_90 (lv_at hl 0 rfl) ?_
        refine lv_iload_n hx hb d_mo_findContours_92 rfl (lv_at hl 4 rfl) ?_
        refine zz_cv (va_runV (As := [.int (g 4 (ix (3 * v2))), .int (g 4 (ix ((3 * v2) + 1))), .int (g 4 (ix ((3 * v2) + 2))), .int v1]) (rest := []) ⟨hx, hb, hml, hown, hts⟩ (mc_mo_pair l dC dI a cI cZ _ (g 4 (ix (3 * v2))) (g 4 (ix ((3 * v2) + 1))) (g 4 (ix ((3 * v2) + 2))) v1 g _ h) (zz_cwV 4 hts (zz_good wm_312) rfl rfl rfl wm_313 wm_314 wm_315 wm_258 (by decide +kernel) ⟨Nat.le_of_ble_eq_true rfl, Nat.le_of_ble_eq_true rfl⟩) ⟨zz_blind, (va_recv hK hP rfl (wM_0 a cI cZ g)), zz_pre hP hK hD hN⟩ rfl rfl hl.1 rfl (lv_room (Nat.le_of_ble_eq_true rfl)) d_mo_findContours_93 ⟨Nat.le_of_ble_eq_true rfl, Nat.le_of_ble_eq_true rfl⟩) hD hS hA (fun g7 H locs h hP hD hS => ?_)
        refine lv_aload_n hx hb d_mo_findContours_96 rfl (lv_at hl 3 rfl) ?_
        refine lv_iload_n hx hb d_mo_findContours_97 rfl (lv_at hl 2 rfl) ?_
        refine lv_iload hx hb d_mo_findContours_98 (lv_at hl 0 rfl) ?_
        refine lv_iload hx hb d_mo_findContours_100 (lv_at hl 1 rfl) ?_
        refine lv_iload_n hx hb d_mo_findContours_102 rfl (lv_at hl 4 rfl) ?_
        refine zz_cv (va_runV (As := [.int (g 4 (ix (3 * v2))), .int (g 4 (ix ((3 * v2) + 2))), .int (g 4 (ix ((3 * v2) + 1))), .int v1]) (rest := []) ⟨hx, hb, hml, hown, hts⟩ (mc_mo_pair l dC dI a cI cZ _ (g 4 (ix (3 * v2))) (g 4 (ix ((3 * v2) + 2))) (g 4 (ix ((3 * v2) + 1))) v1 g7 _ h) (zz_cwV 4 hts (zz_good wm_312) rfl rfl rfl wm_313 wm_314 wm_315 wm_258 (by decide +kernel) ⟨Nat.le_of_ble_eq_true rfl, Nat.le_of_ble_eq_true rfl⟩) ⟨zz_blind, (va_recv hK hP rfl (wM_0 a cI cZ g7)), zz_pre hP hK hD hN⟩ rfl rfl hl.1 rfl (lv_room (Nat.le_of_ble_eq_true rfl)) d_mo_findContours_103 ⟨Nat.le_of_ble_eq_true rfl, Nat.le_of_ble_eq_true rfl⟩) hD hS hA (fun g8 H locs h hP hD hS => ?_)
        refine lv_aload_n hx hb d_mo_findContours_106 rfl (lv_at hl 3 rfl) ?_
        refine lv_iload hx hb d_mo_findContours_107 (lv_at hl 1 rfl) ?_
        refine lv_iload hx hb d_mo_findContours_109 (lv_at hl 0 rfl) ?_
        refine lv_iload_n hx hb d_mo_findContours_111 rfl (lv_at hl 2 rfl) ?_
        refine lv_iload_n hx hb d_mo_findContours_112 rfl (lv_at hl 4 rfl) ?_
        refine zz_cv (va_runV (As := [.int (g 4 (ix ((3 * v2) + 1))), .int (g 4 (ix ((3 * v2) + 2))), .int (g 4 (ix (3 * v2))), .int v1]) (rest := []) ⟨hx, hb, hml, hown, hts⟩ (mc_mo_pair l dC dI a cI cZ _ (g 4 (ix ((3 * v2) + 1))) (g 4 (ix ((3 * v2) + 2))) (g 4 (ix (3 * v2))) v1 g8 _ h) (zz_cwV 4 hts (zz_good wm_312) rfl rfl rfl wm_313 wm_314 wm_315 wm_258 (by decide +kernel) ⟨Nat.le_of_ble_eq_true rfl, Nat.le_of_ble_eq_true rfl⟩) ⟨zz_blind, (va_recv hK hP rfl (wM_0 a cI cZ g8)), zz_pre hP hK hD hN⟩ rfl rfl hl.1 rfl (lv_room (Nat.le_of_ble_eq_true rfl)) d_mo_findContours_113 ⟨Nat.le_of_ble_eq_true rfl, Nat.le_of_ble_eq_true rfl⟩) hD hS hA (fun g9 H locs h hP hD hS => ?_)
        refine lv_iinc (k := 5) (v := (v2 + 1)) (lv' := [(2, .int (v2 + 1)), (5, .int (g 4 (ix ((3 * v2) + 2)))), (4, .int (g 4 (ix ((3 * v2) + 1)))), (3, .int (g 4 (ix (3 * v2)))), (0, .ref (a 0)), (1, .int v1)]) hx hb d_mo_findContours_116 hl rfl rfl (by decide) rfl (fun ls hl => ?_)
        refine lv_goto (tgt := 45) hx hb d_mo_findContours_119 (by decide) ?_
        exact ih _ _ _ _ hK122 h _ _ _ hP hD hS (lv_sub hl [4, 5, 0] rfl)
  have L134 : ∀ (n : Nat) (v2 : Int32) (g : St) (K170 : St → Prop) , (∀ (g : St), K170 g → ∀ (H : Heap) (locs : List Loc) (ls : Array Slot), va_P (dC, dI) zzCl (wM a cI cZ g) H → va_D A (wM a cI cZ g) → va_S A s.heap H locs → lv_has ls 6 [] → W p l e (headSpec ww_mo_findContours rm_mo_findContours).room s m args below meth c H locs 0 0 (zz_Qv below (dC, dI) (wM a cI cZ) [(cI, .int), (cZ, .boolean)] A post args s) (F0 m 170 ls [])) → lp_mo_findContours_L134 n v2 g K170 post → ∀ (H : Heap) (locs : List Loc) (ls : Array Slot), va_P (dC, dI) zzCl (wM a cI cZ g) H → va_D A (wM a cI cZ g) → va_S A s.heap H locs → lv_has ls 6 [(0, .ref (a 0)), (2, .int v2)] → W p l e (headSpec ww_mo_findContours rm_mo_findContours).room s m args below meth c H locs 0 0 (zz_Qv below (dC, dI) (wM a cI cZ) [(cI, .int), (cZ, .boolean)] A post args s) (F0 m 134 ls []) := by
    intro n
    induction n with
    | zero => intro v2 g K170 hK170 h; exact h.elim
    | succ n ih =>
      intro v2 g K170 hK170 h H locs ls hP hD hS hl
      unfold lp_mo_findContours_L134 at h
      refine lv_iload_n hx hb d_mo_findContours_134 rfl (lv_at hl 1 rfl) ?_
      refine lv_sipush (v := 256) hx hb d_mo_findContours_135 (by decide) ?_
      refine lv_icmp_ge (tgt := 170) hx hb d_mo_findContours_138 (by decide) (fun hc => ?_) (fun hc => ?_)
      · have h := h.1 hc
        exact hK170 _ h _ _ _ hP hD hS (lv_sub hl [] rfl)
      · have h := h.2 hc
        refine lv_aload_n hx hb d_mo_findContours_141 rfl (lv_at hl 0 rfl) ?_
        refine va_get (D := (dC, dI)) (ci := 5) (v := .ref (a 5)) (C := R_mo) (T := T_mo) (N := 21) hx hb hts hin__mo hown hK hP 0 (wM_0 a cI cZ g) rfl 7 (by decide) fl_22 (fun _ h9 => h9) rfl d_mo_findContours_142 ?_
        refine lv_iload_n hx hb d_mo_findContours_145 rfl (lv_at hl 1 rfl) ?_
        refine va_zald hx hb hK hP 5 1 (wM_5 a cI cZ g) rfl h.1 d_mo_findContours_146 ?_
        have h := h.2
        refine lv_if_eq (tgt := 164) hx hb d_mo_findContours_147 (by decide) (fun hc => ?_) (fun hc => ?_)
        · have h := h.1 hc
          refine lv_iinc (k := 1) (v := (v2 + 1)) (lv' := [(2, .int (v2 + 1)), (0, .ref (a 0))]) hx hb d_mo_findContours_164 hl rfl rfl (by decide) rfl (fun ls hl => ?_)
          refine lv_goto (tgt := 134) hx hb d_mo_findContours_167 (by decide) ?_
          exact ih _ _ _ hK170 h _ _ _ hP hD hS (lv_sub hl [1, 0] rfl)
        · have h := h.2 hc
          refine lv_aload_n hx hb d_mo_findContours_150 rfl (lv_at hl 0 rfl) ?_
          refine va_get (D := (dC, dI)) (ci := 5) (v := .ref (a 8)) (C := R_mo) (T := T_mo) (N := 21) hx hb hts hin__mo hown hK hP 0 (wM_0 a cI cZ g) rfl 10 (by decide) fl_32 (fun _ h9 => h9) rfl d_mo_findContours_151 ?_
          refine lv_iload_n hx hb d_mo_findContours_154 rfl (lv_at hl 1 rfl) ?_
          refine va_zald hx hb hK hP 8 1 (wM_8 a cI cZ g) rfl h.1 d_mo_findContours_155 ?_
          have h := h.2
          refine lv_if_ne (tgt := 164) hx hb d_mo_findContours_156 (by decide) (fun hc => ?_) (fun hc => ?_)
          · have h := h.1 hc
            refine lv_iinc (k := 1) (v := (v2 + 1)) (lv' := [(2, .int (v2 + 1)), (0, .ref (a 0))]) hx hb d_mo_findContours_164 hl rfl rfl (by decide) rfl (fun ls hl => ?_)
            refine lv_goto (tgt := 134) hx hb d_mo_findContours_167 (by decide) ?_
            exact ih _ _ _ hK170 h _ _ _ hP hD hS (lv_sub hl [1, 0] rfl)
          · have h := h.2 hc
            refine lv_aload_n hx hb d_mo_findContours_159 rfl (lv_at hl 0 rfl) ?_
            refine lv_iload_n hx hb d_mo_findContours_160 rfl (lv_at hl 1 rfl) ?_
            refine zz_cv (va_runV (As := [.int v2]) (rest := []) ⟨hx, hb, hml, hown, hts⟩ (mc_mo_gather l dC dI a cI cZ _ v2 g _ h) (zz_cwV 1 hts (zz_good wm_316) rfl rfl rfl wm_317 wm_318 wm_319 wm_258 (by decide +kernel) ⟨Nat.le_of_ble_eq_true rfl, Nat.le_of_ble_eq_true rfl⟩) ⟨zz_blind, (va_recv hK hP rfl (wM_0 a cI cZ g)), zz_pre hP hK hD hN⟩ rfl rfl hl.1 rfl (lv_room (Nat.le_of_ble_eq_true rfl)) d_mo_findContours_161 ⟨Nat.le_of_ble_eq_true rfl, Nat.le_of_ble_eq_true rfl⟩) hD hS hA (fun g13 H locs h hP hD hS => ?_)
            refine lv_iinc (k := 1) (v := (v2 + 1)) (lv' := [(2, .int (v2 + 1)), (0, .ref (a 0))]) hx hb d_mo_findContours_164 hl rfl rfl (by decide) rfl (fun ls hl => ?_)
            refine lv_goto (tgt := 134) hx hb d_mo_findContours_167 (by decide) ?_
            exact ih _ _ _ hK170 h _ _ _ hP hD hS (lv_sub hl [1, 0] rfl)
  unfold wp_mo_findContours at h
  refine lv_iconst (v := 0) hx hb d_mo_findContours_0 (by decide) ?_
  refine lv_istore_n (lv' := [(2, .int 0), (0, .ref (a 0)), (1, .int x1)]) hx hb d_mo_findContours_1 rfl hl (by decide) rfl (fun ls hl => ?_)
  obtain ⟨n2, h⟩ := h
  refine L2 n2 _ _ _ _ (fun w6 g5 h H locs ls hP hD hS hl => ?_) h _ _ _ hP hD hS (lv_sub hl [1, 2, 0] rfl)
  refine lv_iconst (v := 0) hx hb d_mo_findContours_43 (by decide) ?_
  refine lv_istore_n (lv' := [(2, .int 0), (0, .ref (a 0)), (1, .int w6)]) hx hb d_mo_findContours_44 rfl hl (by decide) rfl (fun ls hl => ?_)
  obtain ⟨n45, h⟩ := h
  refine L45 n45 _ _ _ _ (fun g10 h H locs ls hP hD hS hl => ?_) h _ _ _ hP hD hS (lv_sub hl [1, 2, 0] rfl)
  refine lv_aload_n hx hb d_mo_findContours_122 rfl (lv_at hl 0 rfl) ?_
  refine lv_iconst (v := 0) hx hb d_mo_findContours_123 (by decide) ?_
  refine va_put (D := (dC, dI)) (ci := 5) (v := .int 0) (ty := .int) (C := R_mo) (T := T_mo) (N := 21) hx hb hts hin__mo ty_mo tok_mo nmd_mo hown hK hP hD hS 0 (wM_0 a cI cZ g10) rfl 11 (by decide) fl_121 (fun _ h9 => h9) rfl (by decide +kernel) rfl rfl (Nat.le_of_ble_eq_true rfl) d_mo_findContours_124 (fun H locs hP hD hS => ?_)
  obtain ⟨g11, e_g11⟩ : ∃ z : St, z = gp g10 0 11 0 := ⟨_, rfl⟩
  have h := h g11 e_g11
  have hP : va_P (dC, dI) zzCl (wM a cI cZ g11) H := by rw [e_g11]; exact hP
  have hD : va_D A (wM a cI cZ g11) := by rw [e_g11]; exact hD
  refine lv_aload_n hx hb d_mo_findContours_127 rfl (lv_at hl 0 rfl) ?_
  refine lv_iconst (v := 0) hx hb d_mo_findContours_128 (by decide) ?_
  refine va_put (D := (dC, dI)) (ci := 5) (v := .int 0) (ty := .int) (C := R_mo) (T := T_mo) (N := 21) hx hb hts hin__mo ty_mo tok_mo nmd_mo hown hK hP hD hS 0 (wM_0 a cI cZ g11) rfl 15 (by decide) fl_124 (fun _ h9 => h9) rfl (by decide +kernel) rfl rfl (Nat.le_of_ble_eq_true rfl) d_mo_findContours_129 (fun H locs hP hD hS => ?_)
  obtain ⟨g12, e_g12⟩ : ∃ z : St, z = gp g11 0 15 0 := ⟨_, rfl⟩
  have h := h g12 e_g12
  have hP : va_P (dC, dI) zzCl (wM a cI cZ g12) H := by rw [e_g12]; exact hP
  have hD : va_D A (wM a cI cZ g12) := by rw [e_g12]; exact hD
  refine lv_iconst (v := 0) hx hb d_mo_findContours_132 (by decide) ?_
  refine lv_istore_n (lv' := [(2, .int 0), (0, .ref (a 0))]) hx hb d_mo_findContours_133 rfl hl (by decide) rfl (fun ls hl => ?_)
  obtain ⟨n134, h⟩ := h
  refine L134 n134 _ _ _ (fun g14 h H locs ls hP hD hS hl => ?_) h _ _ _ hP hD hS (lv_sub hl [1, 0] rfl)
  exact W.vret hx hb hr (fun t ht hW => ⟨⟨g14, rfl, h, by rw [ht]; exact hP, va_K.moved hW.alike hK, hD⟩, hS.F ht⟩) hS.2.2 d_mo_findContours_170
abbrev rm_mo_isLevel : Room := { frames := 0, cells := 0, slots := 0, locals := 0 }
set_option maxHeartbeats 4000000 in
set_option maxRecDepth 100000 in
theorem mc_mo_isLevel (l : Launch) (dC : Nat → ClassId) (dI : Nat → Nat → Nat) (a : Nat → Nat) (cI cZ : ClassId) (sz : Nat) (x0 : Int32) (g : St) (post : Int32 → St → Prop) (h : wp_mo_isLevel x0 g post) : Met l yy_mo_isLevel ww_mo_isLevel rm_mo_isLevel (zz_Pre (dC, dI) (wM a cI cZ) [(cI, .int), (cZ, .boolean)] [.int x0] g sz) (va_Qi post (zz_W (dC, dI) (wM a cI cZ) [(cI, .int), (cZ, .boolean)] (va_A (wM a cI cZ g) sz)) (va_A (wM a cI cZ g) sz)) 0 0 (va_A (wM a cI cZ g) sz) := by
  refine Met.ofW (cc := cc_mo_isLevel) (maxL := 1) (ret := (some .boolean)) (by decide) rfl ?_
  intro p e s m args below meth c s₁ B hml hv
  obtain ⟨hav, hsz, hP, hK, hD0, hN⟩ := hv
  have hx := B.exec
  have hb := B.bytes
  have hr := B.returns
  have hts := atoms_spec (ws := ww_mo_isLevel) B.pre
  have hown : s.vm.findClass "SpotContoursModel" = some m.cls := findClass_of_methodNamed B.named
  have hlocks := B.notSynchronized
  subst hsz
  have hD := hD0.self (sz := s.heap.size)
  generalize hAe : va_A (wM a cI cZ g) s.heap.size = A at hD ⊢
  have hA : ∀ q : Nat, s.heap.size ≤ q → A q := fun q h => by rw [← hAe]; exact Or.inr h
  have hS : va_S A s.heap s.heap [] := va_S.rf
  have he9 := lg_entry_eq m [.int x0] 1
  rw [← hav] at he9
  rw [he9]
  have hl := lv_entry [.int x0] (n := 1) (Nat.le_of_ble_eq_true rfl)
  generalize (lg_sl [.int x0] ++ List.replicate (1 - (lg_sl [.int x0]).length) Slot.unset).toArray = ls at hl ⊢
  have hl : lv_has ls 1 [(0, .int x0)] := hl
  unfold wp_mo_isLevel at h
  refine lv_iload_n hx hb d_mo_isLevel_0 rfl (lv_at hl 0 rfl) ?_
  refine lv_if_lt (tgt := 15) hx hb d_mo_isLevel_1 (by decide) (fun hc => ?_) (fun hc => ?_)
  · have h := h.1 hc
    refine lv_iconst (v := 0) hx hb d_mo_isLevel_15 (by decide) ?_
    exact W.zret (v := 0) hx hb hr (by decide) (fun t ht hW => ⟨⟨0, g, rfl, h, by rw [ht]; exact hP, va_K.moved hW.alike hK, hD⟩, hS.F ht⟩) hS.2.2 d_mo_isLevel_16
  · have h := h.2 hc
    refine lv_iload_n hx hb d_mo_isLevel_4 rfl (lv_at hl 0 rfl) ?_
    refine lv_sipush (v := 998) hx hb d_mo_isLevel_5 (by decide) ?_
    refine lv_icmp_gt (tgt := 15) hx hb d_mo_isLevel_8 (by decide) (fun hc => ?_) (fun hc => ?_)
    · have h := h.1 hc
      refine lv_iconst (v := 0) hx hb d_mo_isLevel_15 (by decide) ?_
      exact W.zret (v := 0) hx hb hr (by decide) (fun t ht hW => ⟨⟨0, g, rfl, h, by rw [ht]; exact hP, va_K.moved hW.alike hK, hD⟩, hS.F ht⟩) hS.2.2 d_mo_isLevel_16
    · have h := h.2 hc
      refine lv_iconst (v := 1) hx hb d_mo_isLevel_11 (by decide) ?_
      refine lv_goto (tgt := 16) hx hb d_mo_isLevel_12 (by decide) ?_
      exact W.zret (v := 1) hx hb hr (by decide) (fun t ht hW => ⟨⟨1, g, rfl, h, by rw [ht]; exact hP, va_K.moved hW.alike hK, hD⟩, hS.F ht⟩) hS.2.2 d_mo_isLevel_16
abbrev rm_mo_contours : Room := { frames := 4, cells := 0, slots := 0, locals := 97 }
set_option maxHeartbeats 4000000 in
set_option maxRecDepth 100000 in
theorem mc_mo_contours (l : Launch) (dC : Nat → ClassId) (dI : Nat → Nat → Nat) (a : Nat → Nat) (cI cZ : ClassId) (sz : Nat) (x1 : Int32) (g : St) (post : Int32 → St → Prop) (h : wp_mo_contours x1 g post) : Met l yy_mo_contours ww_mo_contours rm_mo_contours (zz_Pre (dC, dI) (wM a cI cZ) [(cI, .int), (cZ, .boolean)] [.ref (a 0), .int x1] g sz) (va_Qi post (zz_W (dC, dI) (wM a cI cZ) [(cI, .int), (cZ, .boolean)] (va_A (wM a cI cZ g) sz)) (va_A (wM a cI cZ g) sz)) 0 0 (va_A (wM a cI cZ g) sz) := by
  refine Met.ofW (cc := cc_mo_contours) (maxL := 2) (ret := (some .int)) (by decide) rfl ?_
  intro p e s m args below meth c s₁ B hml hv
  obtain ⟨hav, hsz, hP, hK, hD0, hN⟩ := hv
  have hx := B.exec
  have hb := B.bytes
  have hr := B.returns
  have hts := atoms_spec (ws := ww_mo_contours) B.pre
  have hown : s.vm.findClass "SpotContoursModel" = some m.cls := findClass_of_methodNamed B.named
  have hlocks := B.notSynchronized
  subst hsz
  have hD := hD0.self (sz := s.heap.size)
  generalize hAe : va_A (wM a cI cZ g) s.heap.size = A at hD ⊢
  have hA : ∀ q : Nat, s.heap.size ≤ q → A q := fun q h => by rw [← hAe]; exact Or.inr h
  have hS : va_S A s.heap s.heap [] := va_S.rf
  have he9 := lg_entry_eq m [.ref (a 0), .int x1] 2
  rw [← hav] at he9
  rw [he9]
  have hl := lv_entry [.ref (a 0), .int x1] (n := 2) (Nat.le_of_ble_eq_true rfl)
  generalize (lg_sl [.ref (a 0), .int x1] ++ List.replicate (2 - (lg_sl [.ref (a 0), .int x1]).length) Slot.unset).toArray = ls at hl ⊢
  have hl : lv_has ls 2 [(0, .ref (a 0)), (1, .int x1)] := hl
  have hin__mo : ∀ w ∈ u_ws R_mo T_mo 21, w ∈ ww_mo_contours := fun w h => zz_in (hin0_mo w h)
  have fl_56 := hts (.fieldLink "SpotContoursModel" 56 "SpotContoursModel" "thrown" "I") (zz_in wm_377)
  have fl_121 := hts (.fieldLink "SpotContoursModel" 121 "SpotContoursModel" "contours" "I") (zz_in wm_393)
  have J13 : ∀ (v1 : Int32) (s1 : Int32) (g : St), jn_mo_contours_J13 v1 s1 g post → ∀ (H : Heap) (locs : List Loc) (ls : Array Slot), va_P (dC, dI) zzCl (wM a cI cZ g) H → va_D A (wM a cI cZ g) → va_S A s.heap H locs → lv_has ls 2 [(0, .ref (a 0)), (1, .int v1)] → W p l e (headSpec ww_mo_contours rm_mo_contours).room s m args below meth c H locs 0 0 (zz_Qi below (dC, dI) (wM a cI cZ) [(cI, .int), (cZ, .boolean)] A post args s) (F0 m 13 ls [.int s1, .ref (a 0)]) := by
    intro v1 s1 g h H locs ls hP hD hS hl
    unfold jn_mo_contours_J13 at h
    refine va_put (D := (dC, dI)) (ci := 5) (v := .int s1) (ty := .int) (C := R_mo) (T := T_mo) (N := 21) hx hb hts hin__mo ty_mo tok_mo nmd_mo hown hK hP hD hS 0 (wM_0 a cI cZ g) rfl 0 (by decide) fl_56 (fun _ h9 => h9) rfl (by decide +kernel) rfl rfl (Nat.le_of_ble_eq_true rfl) d_mo_contours_13 (fun H locs hP hD hS => ?_)
    obtain ⟨g3, e_g3⟩ : ∃ z : St, z = gp g 0 0 s1 := ⟨_, rfl⟩
    have h := h g3 e_g3
    have hP : va_P (dC, dI) zzCl (wM a cI cZ g3) H := by rw [e_g3]; exact hP
    have hD : va_D A (wM a cI cZ g3) := by rw [e_g3]; exact hD
    refine lv_aload_n hx hb d_mo_contours_16 rfl (lv_at hl 0 rfl) ?_
    refine va_get (D := (dC, dI)) (ci := 5) (v := .int (g3 0 0)) (C := R_mo) (T := T_mo) (N := 21) hx hb hts hin__mo hown hK hP 0 (wM_0 a cI cZ g3) rfl 0 (by decide) fl_56 (fun _ h9 => h9) rfl d_mo_contours_17 ?_
    refine lv_if_eq (tgt := 25) hx hb d_mo_contours_20 (by decide) (fun hc => ?_) (fun hc => ?_)
    · have h := h.1 hc
      refine lv_aload_n hx hb d_mo_contours_25 rfl (lv_at hl 0 rfl) ?_
      refine lv_iload_n hx hb d_mo_contours_26 rfl (lv_at hl 1 rfl) ?_
      refine zz_cv (va_runV (As := [.int v1]) (rest := []) ⟨hx, hb, hml, hown, hts⟩ (mc_mo_findContours l dC dI a cI cZ _ v1 g3 _ h) (zz_cwV 1 hts (zz_good wm_320) rfl rfl rfl wm_321 wm_322 wm_323 wm_258 (by decide +kernel) ⟨Nat.le_of_ble_eq_true rfl, Nat.le_of_ble_eq_true rfl⟩) ⟨zz_blind, (va_recv hK hP rfl (wM_0 a cI cZ g3)), zz_pre hP hK hD hN⟩ rfl rfl hl.1 rfl (lv_room (Nat.le_of_ble_eq_true rfl)) d_mo_contours_27 ⟨Nat.le_of_ble_eq_true rfl, Nat.le_of_ble_eq_true rfl⟩) hD hS hA (fun g4 H locs h hP hD hS => ?_)
      refine lv_aload_n hx hb d_mo_contours_30 rfl (lv_at hl 0 rfl) ?_
      refine va_get (D := (dC, dI)) (ci := 5) (v := .int (g4 0 11)) (C := R_mo) (T := T_mo) (N := 21) hx hb hts hin__mo hown hK hP 0 (wM_0 a cI cZ g4) rfl 11 (by decide) fl_121 (fun _ h9 => h9) rfl d_mo_contours_31 ?_
      exact W.iret (v := (g4 0 11)) hx hb hr (fun t ht hW => ⟨⟨(g4 0 11), g4, rfl, h, by rw [ht]; exact hP, va_K.moved hW.alike hK, hD⟩, hS.F ht⟩) hS.2.2 d_mo_contours_34
    · have h := h.2 hc
      refine lv_iconst (v := 0) hx hb d_mo_contours_23 (by decide) ?_
      exact W.iret (v := 0) hx hb hr (fun t ht hW => ⟨⟨0, g3, rfl, h, by rw [ht]; exact hP, va_K.moved hW.alike hK, hD⟩, hS.F ht⟩) hS.2.2 d_mo_contours_24
  unfold wp_mo_contours at h
  refine lv_aload_n hx hb d_mo_contours_0 rfl (lv_at hl 0 rfl) ?_
  refine lv_iload_n hx hb d_mo_contours_1 rfl (lv_at hl 1 rfl) ?_
  refine zz_ci (va_runS (As := [.int x1]) (rest := [.ref (a 0)]) ⟨hx, hb, hml, hown, hts⟩ (mc_mo_isLevel l dC dI a cI cZ _ x1 g _ h) (zz_cwS 1 hts (zz_good wm_324) rfl rfl rfl wm_325 wm_326 wm_258 (by decide +kernel) ⟨Nat.le_of_ble_eq_true rfl, Nat.le_of_ble_eq_true rfl⟩) ⟨zz_blind, zz_pre hP hK hD hN⟩ rfl rfl hl.1 rfl (lv_room (Nat.le_of_ble_eq_true rfl)) d_mo_contours_2 ⟨Nat.le_of_ble_eq_true rfl, Nat.le_of_ble_eq_true rfl⟩) hD hS hA (fun r2 g1 H locs h hP hD hS => ?_)
  refine lv_if_eq (tgt := 12) hx hb d_mo_contours_5 (by decide) (fun hc => ?_) (fun hc => ?_)
  · have h := h.1 hc
    refine lv_iconst (v := 1) hx hb d_mo_contours_12 (by decide) ?_
    exact J13 _ _ _ h _ _ _ hP hD hS (lv_sub hl [0, 1] rfl)
  · have h := h.2 hc
    refine lv_iconst (v := 0) hx hb d_mo_contours_8 (by decide) ?_
    refine lv_goto (tgt := 13) hx hb d_mo_contours_9 (by decide) ?_
    exact J13 _ _ _ h _ _ _ hP hD hS (lv_sub hl [0, 1] rfl)
