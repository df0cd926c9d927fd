/-! Contracts by their walks, printed. -/
abbrev rm_mo_asked : Room := { frames := 4, cells := 0, slots := 0, locals := 97 }
set_option maxHeartbeats 4000000 in
set_option maxRecDepth 100000 in
theorem mc_mo_asked (l : Launch) (dC : Nat → ClassId) (dI : Nat → Nat → Nat) (a : Nat → Nat) (cI cZ : ClassId) (sz : Nat) (x1 : Int32) (x2 : Int32) (g : St) (post : Int32 → St → Prop) (h : wp_mo_asked x1 x2 g post) : Met l yy_mo_asked ww_mo_asked rm_mo_asked (zz_Pre (dC, dI) (wM a cI cZ) [(cI, .int), (cZ, .boolean)] [.ref (a 0), .int x1, .int x2] g sz) (va_Qi post (zz_W (dC, dI) (wM a cI cZ) [(cI, .int), (cZ, .boolean)] (va_A (wM a cI cZ g) sz)) (va_A (wM a cI cZ g) sz)) 0 0 (va_A (wM a cI cZ g) sz) := by
  refine Met.ofW (cc := cc_mo_asked) (maxL := 3) (ret := (some .int)) (by decide) rfl ?_
  intro p e s m args below meth c s₁ B hml hv
  obtain ⟨hav, hsz, hP, hK, hD0, hN⟩ := hv
  have hx := B.exec
  have hb := B.bytes
  have hr := B.returns
  have hts := atoms_spec (ws := ww_mo_asked) B.pre
  have hown : s.vm.findClass "SpotContoursModel" = some m.cls := findClass_of_methodNamed B.named
  have hlocks := B.notSynchronized
  subst hsz
  have hD := hD0.self (sz := s.heap.size)
  generalize hAe : va_A (wM a cI cZ g) s.heap.size = A at hD ⊢
  have hA : ∀ q : Nat, s.heap.size ≤ q → A q := fun q h => by rw [← hAe]; exact Or.inr h
  have hS : va_S A s.heap s.heap [] := va_S.rf
  have he9 := lg_entry_eq m [.ref (a 0), .int x1, .int x2] 3
  rw [← hav] at he9
  rw [he9]
  have hl := lv_entry [.ref (a 0), .int x1, .int x2] (n := 3) (Nat.le_of_ble_eq_true rfl)
  generalize (lg_sl [.ref (a 0), .int x1, .int x2] ++ List.replicate (3 - (lg_sl [.ref (a 0), .int x1, .int x2]).length) Slot.unset).toArray = ls at hl ⊢
  have hl : lv_has ls 3 [(0, .ref (a 0)), (1, .int x1), (2, .int x2)] := hl
  have hin__mo : ∀ w ∈ u_ws R_mo T_mo 21, w ∈ ww_mo_asked := fun w h => zz_in (hin0_mo w h)
  have fl_121 := hts (.fieldLink "SpotContoursModel" 121 "SpotContoursModel" "contours" "I") (zz_in wm_393)
  unfold wp_mo_asked at h
  refine lv_iload_n hx hb d_mo_asked_0 rfl (lv_at hl 1 rfl) ?_
  refine zz_ci (va_runS (As := [.int x1]) (rest := []) ⟨hx, hb, hml, hown, hts⟩ (mc_mo_isLevel l dC dI a cI cZ _ x1 g _ h) (zz_cwS 1 hts (zz_good wm_324) rfl rfl rfl wm_325 wm_326 wm_258 (by decide +kernel) ⟨Nat.le_of_ble_eq_true rfl, Nat.le_of_ble_eq_true rfl⟩) ⟨zz_blind, zz_pre hP hK hD hN⟩ rfl rfl hl.1 rfl (lv_room (Nat.le_of_ble_eq_true rfl)) d_mo_asked_1 ⟨Nat.le_of_ble_eq_true rfl, Nat.le_of_ble_eq_true rfl⟩) hD hS hA (fun r2 g1 H locs h hP hD hS => ?_)
  refine lv_if_ne (tgt := 9) hx hb d_mo_asked_4 (by decide) (fun hc => ?_) (fun hc => ?_)
  · have h := h.1 hc
    refine lv_aload_n hx hb d_mo_asked_9 rfl (lv_at hl 0 rfl) ?_
    refine lv_iload_n hx hb d_mo_asked_10 rfl (lv_at hl 1 rfl) ?_
    refine zz_cv (va_runV (As := [.int x1]) (rest := []) ⟨hx, hb, hml, hown, hts⟩ (mc_mo_findContours l dC dI a cI cZ _ x1 g1 _ h) (zz_cwV 1 hts (zz_good wm_320) rfl rfl rfl wm_321 wm_322 wm_323 wm_258 (by decide +kernel) ⟨Nat.le_of_ble_eq_true rfl, Nat.le_of_ble_eq_true rfl⟩) ⟨zz_blind, (va_recv hK hP rfl (wM_0 a cI cZ g1)), zz_pre hP hK hD hN⟩ rfl rfl hl.1 rfl (lv_room (Nat.le_of_ble_eq_true rfl)) d_mo_asked_11 ⟨Nat.le_of_ble_eq_true rfl, Nat.le_of_ble_eq_true rfl⟩) hD hS hA (fun g3 H locs h hP hD hS => ?_)
    refine lv_iload_n hx hb d_mo_asked_14 rfl (lv_at hl 2 rfl) ?_
    refine lv_if_lt (tgt := 26) hx hb d_mo_asked_15 (by decide) (fun hc => ?_) (fun hc => ?_)
    · have h := h.1 hc
      refine lv_iconst (v := 2) hx hb d_mo_asked_26 (by decide) ?_
      refine lv_goto (tgt := 31) hx hb d_mo_asked_27 (by decide) ?_
      exact W.iret (v := 2) hx hb hr (fun t ht hW => ⟨⟨2, g3, rfl, h, by rw [ht]; exact hP, va_K.moved hW.alike hK, hD⟩, hS.F ht⟩) hS.2.2 d_mo_asked_31
    · have h := h.2 hc
      refine lv_iload_n hx hb d_mo_asked_18 rfl (lv_at hl 2 rfl) ?_
      refine lv_aload_n hx hb d_mo_asked_19 rfl (lv_at hl 0 rfl) ?_
      refine va_get (D := (dC, dI)) (ci := 5) (v := .int (g3 0 11)) (C := R_mo) (T := T_mo) (N := 21) hx hb hts hin__mo hown hK hP 0 (wM_0 a cI cZ g3) rfl 11 (by decide) fl_121 (fun _ h9 => h9) rfl d_mo_asked_20 ?_
      refine lv_icmp_lt (tgt := 30) hx hb d_mo_asked_23 (by decide) (fun hc => ?_) (fun hc => ?_)
      · have h := h.1 hc
        refine lv_iconst (v := 0) hx hb d_mo_asked_30 (by decide) ?_
        exact W.iret (v := 0) hx hb hr (fun t ht hW => ⟨⟨0, g3, rfl, h, by rw [ht]; exact hP, va_K.moved hW.alike hK, hD⟩, hS.F ht⟩) hS.2.2 d_mo_asked_31
      · have h := h.2 hc
        refine lv_iconst (v := 2) hx hb d_mo_asked_26 (by decide) ?_
        refine lv_goto (tgt := 31) hx hb d_mo_asked_27 (by decide) ?_
        exact W.iret (v := 2) hx hb hr (fun t ht hW => ⟨⟨2, g3, rfl, h, by rw [ht]; exact hP, va_K.moved hW.alike hK, hD⟩, hS.F ht⟩) hS.2.2 d_mo_asked_31
  · have h := h.2 hc
    refine lv_iconst (v := 1) hx hb d_mo_asked_7 (by decide) ?_
    exact W.iret (v := 1) hx hb hr (fun t ht hW => ⟨⟨1, g1, rfl, h, by rw [ht]; exact hP, va_K.moved hW.alike hK, hD⟩, hS.F ht⟩) hS.2.2 d_mo_asked_8
abbrev rm_mo_isHollow : Room := { frames := 1, cells := 0, slots := 0, locals := 22 }
set_option maxHeartbeats 4000000 in
set_option maxRecDepth 100000 in
theorem mc_mo_isHollow (l : Launch) (dC : Nat → ClassId) (dI : Nat → Nat → Nat) (a : Nat → Nat) (cI cZ : ClassId) (sz : Nat) (x1 : Int32) (x2 : Int32) (g : St) (post : Int32 → St → Prop) (h : wp_mo_isHollow x1 x2 g post) : Met l yy_mo_isHollow ww_mo_isHollow rm_mo_isHollow (zz_Pre (dC, dI) (wM a cI cZ) [(cI, .int), (cZ, .boolean)] [.ref (a 0), .int x1, .int x2] g sz) (va_Qi post (zz_W (dC, dI) (wM a cI cZ) [(cI, .int), (cZ, .boolean)] (va_A (wM a cI cZ g) sz)) (va_A (wM a cI cZ g) sz)) 0 0 (va_A (wM a cI cZ g) sz) := by
  refine Met.ofW (cc := cc_mo_isHollow) (maxL := 5) (ret := (some .boolean)) (by decide) rfl ?_
  intro p e s m args below meth c s₁ B hml hv
  obtain ⟨hav, hsz, hP, hK, hD0, hN⟩ := hv
  have hx := B.exec
  have hb := B.bytes
  have hr := B.returns
  have hts := atoms_spec (ws := ww_mo_isHollow) B.pre
  have hown : s.vm.findClass "SpotContoursModel" = some m.cls := findClass_of_methodNamed B.named
  have hlocks := B.notSynchronized
  subst hsz
  have hD := hD0.self (sz := s.heap.size)
  generalize hAe : va_A (wM a cI cZ g) s.heap.size = A at hD ⊢
  have hA : ∀ q : Nat, s.heap.size ≤ q → A q := fun q h => by rw [← hAe]; exact Or.inr h
  have hS : va_S A s.heap s.heap [] := va_S.rf
  have he9 := lg_entry_eq m [.ref (a 0), .int x1, .int x2] 5
  rw [← hav] at he9
  rw [he9]
  have hl := lv_entry [.ref (a 0), .int x1, .int x2] (n := 5) (Nat.le_of_ble_eq_true rfl)
  generalize (lg_sl [.ref (a 0), .int x1, .int x2] ++ List.replicate (5 - (lg_sl [.ref (a 0), .int x1, .int x2]).length) Slot.unset).toArray = ls at hl ⊢
  have hl : lv_has ls 5 [(0, .ref (a 0)), (1, .int x1), (2, .int x2)] := hl
  have hin__mo : ∀ w ∈ u_ws R_mo T_mo 21, w ∈ ww_mo_isHollow := fun w h => zz_in (hin0_mo w h)
  have fl_7 := hts (.fieldLink "SpotContoursModel" 7 "SpotContoursModel" "xs" "[I") (zz_in wm_379)
  have fl_35 := hts (.fieldLink "SpotContoursModel" 35 "SpotContoursModel" "begins" "[I") (zz_in wm_389)
  have fl_38 := hts (.fieldLink "SpotContoursModel" 38 "SpotContoursModel" "sizes" "[I") (zz_in wm_390)
  have fl_44 := hts (.fieldLink "SpotContoursModel" 44 "SpotContoursModel" "row" "[I") (zz_in wm_392)
  have J79 : ∀ (v1 : Int32) (v2 : Int32) (v4 : Int32) (s0 : Int32) (g : St) (K23 : Int32 → Int32 → Int32 → Int32 → St → Prop) , (∀ (v1 : Int32) (v2 : Int32) (v3 : Int32) (v4 : Int32) (g : St), K23 v1 v2 v3 v4 g → ∀ (H : Heap) (locs : List Loc) (ls : Array Slot), va_P (dC, dI) zzCl (wM a cI cZ g) H → va_D A (wM a cI cZ g) → va_S A s.heap H locs → lv_has ls 5 [(0, .ref (a 0)), (1, .int v1), (2, .int v2), (3, .int v3), (4, .int v4)] → W p l e (headSpec ww_mo_isHollow rm_mo_isHollow).room s m args below meth c H locs 0 0 (zz_Qi below (dC, dI) (wM a cI cZ) [(cI, .int), (cZ, .boolean)] A post args s) (F0 m 23 ls [])) → jn_mo_isHollow_J79 v1 v2 v4 s0 g K23 post → ∀ (H : Heap) (locs : List Loc) (ls : Array Slot), va_P (dC, dI) zzCl (wM a cI cZ g) H → va_D A (wM a cI cZ g) → va_S A s.heap H locs → lv_has ls 5 [(0, .ref (a 0)), (1, .int v1), (2, .int v2), (4, .int v4)] → W p l e (headSpec ww_mo_isHollow rm_mo_isHollow).room s m args below meth c H locs 0 0 (zz_Qi below (dC, dI) (wM a cI cZ) [(cI, .int), (cZ, .boolean)] A post args s) (F0 m 79 ls [.int s0]) := by
    intro v1 v2 v4 s0 g K23 hK23 h H locs ls hP hD hS hl
    unfold jn_mo_isHollow_J79 at h
    refine lv_istore_n (lv' := [(3, .int s0), (0, .ref (a 0)), (1, .int v1), (2, .int v2), (4, .int v4)]) hx hb d_mo_isHollow_79 rfl hl (by decide) rfl (fun ls hl => ?_)
    refine lv_aload_n hx hb d_mo_isHollow_80 rfl (lv_at hl 1 rfl) ?_
    refine va_get (D := (dC, dI)) (ci := 5) (v := .ref (a 1)) (C := R_mo) (T := T_mo) (N := 21) hx hb hts hin__mo hown hK hP 0 (wM_0 a cI cZ g) rfl 2 (by decide) fl_7 (fun _ h9 => h9) rfl d_mo_isHollow_81 ?_
    refine lv_aload_n hx hb d_mo_isHollow_84 rfl (lv_at hl 1 rfl) ?_
    refine va_get (D := (dC, dI)) (ci := 5) (v := .ref (a 12)) (C := R_mo) (T := T_mo) (N := 21) hx hb hts hin__mo hown hK hP 0 (wM_0 a cI cZ g) rfl 16 (by decide) fl_44 (fun _ h9 => h9) rfl d_mo_isHollow_85 ?_
    refine lv_iload hx hb d_mo_isHollow_88 (lv_at hl 4 rfl) ?_
    refine va_iald hx hb hK hP 12 0 (wM_12 a cI cZ g) rfl h.1 d_mo_isHollow_90 ?_
    have h := h.2
    refine lv_bipush (v := 16) hx hb d_mo_isHollow_91 (by decide) ?_
    refine lv_irem hx hb d_mo_isHollow_93 (by decide) ?_
    refine va_iald hx hb hK hP 1 0 (wM_1 a cI cZ g) rfl h.1 d_mo_isHollow_94 ?_
    have h := h.2
    refine lv_aload_n hx hb d_mo_isHollow_95 rfl (lv_at hl 1 rfl) ?_
    refine va_get (D := (dC, dI)) (ci := 5) (v := .ref (a 1)) (C := R_mo) (T := T_mo) (N := 21) hx hb hts hin__mo hown hK hP 0 (wM_0 a cI cZ g) rfl 2 (by decide) fl_7 (fun _ h9 => h9) rfl d_mo_isHollow_96 ?_
    refine lv_iload_n hx hb d_mo_isHollow_99 rfl (lv_at hl 0 rfl) ?_
    refine va_iald hx hb hK hP 1 0 (wM_1 a cI cZ g) rfl h.1 d_mo_isHollow_100 ?_
    have h := h.2
    refine lv_icmp_ge (tgt := 117) hx hb d_mo_isHollow_101 (by decide) (fun hc => ?_) (fun hc => ?_)
    · have h := h.1 hc
      refine lv_iload_n hx hb d_mo_isHollow_117 rfl (lv_at hl 0 rfl) ?_
      refine lv_istore_n (lv' := [(3, .int s0), (0, .ref (a 0)), (1, .int v1), (2, .int v2), (4, .int v4)]) hx hb d_mo_isHollow_118 rfl hl (by decide) rfl (fun ls hl => ?_)
      refine lv_iinc (k := 4) (v := (v4 + 1)) (lv' := [(4, .int (v4 + 1)), (3, .int s0), (0, .ref (a 0)), (1, .int v1), (2, .int v2)]) hx hb d_mo_isHollow_119 hl rfl rfl (by decide) rfl (fun ls hl => ?_)
      refine lv_goto (tgt := 23) hx hb d_mo_isHollow_122 (by decide) ?_
      exact hK23 _ _ _ _ _ h _ _ _ hP hD hS (lv_sub hl [2, 3, 4, 1, 0] rfl)
    · have h := h.2 hc
      refine lv_aload_n hx hb d_mo_isHollow_104 rfl (lv_at hl 1 rfl) ?_
      refine va_get (D := (dC, dI)) (ci := 5) (v := .ref (a 12)) (C := R_mo) (T := T_mo) (N := 21) hx hb hts hin__mo hown hK hP 0 (wM_0 a cI cZ g) rfl 16 (by decide) fl_44 (fun _ h9 => h9) rfl d_mo_isHollow_105 ?_
      refine lv_iload hx hb d_mo_isHollow_108 (lv_at hl 4 rfl) ?_
      refine va_iald hx hb hK hP 12 0 (wM_12 a cI cZ g) rfl h.1 d_mo_isHollow_110 ?_
      have h := h.2
      refine lv_bipush (v := 16) hx hb d_mo_isHollow_111 (by decide) ?_
      refine lv_irem hx hb d_mo_isHollow_113 (by decide) ?_
      refine lv_goto (tgt := 118) hx hb d_mo_isHollow_114 (by decide) ?_
      refine lv_istore_n (lv' := [(3, .int ((g 12 (ix v4)) - (g 12 (ix v4)) / 16 * 16)), (0, .ref (a 0)), (1, .int v1), (2, .int v2), (4, .int v4)]) hx hb d_mo_isHollow_118 rfl hl (by decide) rfl (fun ls hl => ?_)
      refine lv_iinc (k := 4) (v := (v4 + 1)) (lv' := [(4, .int (v4 + 1)), (3, .int ((g 12 (ix v4)) - (g 12 (ix v4)) / 16 * 16)), (0, .ref (a 0)), (1, .int v1), (2, .int v2)]) hx hb d_mo_isHollow_119 hl rfl rfl (by decide) rfl (fun ls hl => ?_)
      refine lv_goto (tgt := 23) hx hb d_mo_isHollow_122 (by decide) ?_
      exact hK23 _ _ _ _ _ h _ _ _ hP hD hS (lv_sub hl [2, 3, 4, 1, 0] rfl)
  have L23 : ∀ (n : Nat) (v1 : Int32) (v2 : Int32) (v3 : Int32) (v4 : Int32) (g : St) (K125 : Int32 → Int32 → St → Prop) , (∀ (v1 : Int32) (v3 : Int32) (g : St), K125 v1 v3 g → ∀ (H : Heap) (locs : List Loc) (ls : Array Slot), va_P (dC, dI) zzCl (wM a cI cZ g) H → va_D A (wM a cI cZ g) → va_S A s.heap H locs → lv_has ls 5 [(0, .ref (a 0)), (1, .int v1), (3, .int v3)] → W p l e (headSpec ww_mo_isHollow rm_mo_isHollow).room s m args below meth c H locs 0 0 (zz_Qi below (dC, dI) (wM a cI cZ) [(cI, .int), (cZ, .boolean)] A post args s) (F0 m 125 ls [])) → lp_mo_isHollow_L23 n v1 v2 v3 v4 g K125 post → ∀ (H : Heap) (locs : List Loc) (ls : Array Slot), va_P (dC, dI) zzCl (wM a cI cZ g) H → va_D A (wM a cI cZ g) → va_S A s.heap H locs → lv_has ls 5 [(0, .ref (a 0)), (1, .int v1), (2, .int v2), (3, .int v3), (4, .int v4)] → W p l e (headSpec ww_mo_isHollow rm_mo_isHollow).room s m args below meth c H locs 0 0 (zz_Qi below (dC, dI) (wM a cI cZ) [(cI, .int), (cZ, .boolean)] A post args s) (F0 m 23 ls []) := by
    intro n
    induction n with
    | zero => intro v1 v2 v3 v4 g K125 hK125 h; exact h.elim
    | succ n ih =>
      intro v1 v2 v3 v4 g K125 hK125 h H locs ls hP hD hS hl
      unfold lp_mo_isHollow_L23 at h
      refine lv_iload hx hb d_mo_isHollow_23 (lv_at hl 4 rfl) ?_
      refine lv_aload_n hx hb d_mo_isHollow_25 rfl (lv_at hl 0 rfl) ?_
      refine va_get (D := (dC, dI)) (ci := 5) (v := .ref (a 9)) (C := R_mo) (T := T_mo) (N := 21) hx hb hts hin__mo hown hK hP 0 (wM_0 a cI cZ g) rfl 12 (by decide) fl_35 (fun _ h9 => h9) rfl d_mo_isHollow_26 ?_
      refine lv_iload_n hx hb d_mo_isHollow_29 rfl (lv_at hl 2 rfl) ?_
      refine va_iald hx hb hK hP 9 0 (wM_9 a cI cZ g) rfl h.1 d_mo_isHollow_30 ?_
      have h := h.2
      refine lv_aload_n hx hb d_mo_isHollow_31 rfl (lv_at hl 0 rfl) ?_
      refine va_get (D := (dC, dI)) (ci := 5) (v := .ref (a 10)) (C := R_mo) (T := T_mo) (N := 21) hx hb hts hin__mo hown hK hP 0 (wM_0 a cI cZ g) rfl 13 (by decide) fl_38 (fun _ h9 => h9) rfl d_mo_isHollow_32 ?_
      refine lv_iload_n hx hb d_mo_isHollow_35 rfl (lv_at hl 2 rfl) ?_
      refine va_iald hx hb hK hP 10 0 (wM_10 a cI cZ g) rfl h.1 d_mo_isHollow_36 ?_
      have h := h.2
      refine lv_iadd hx hb d_mo_isHollow_37 ?_
      refine lv_icmp_ge (tgt := 125) hx hb d_mo_isHollow_38 (by decide) (fun hc => ?_) (fun hc => ?_)
      · have h := h.1 hc
        exact hK125 _ _ _ h _ _ _ hP hD hS (lv_sub hl [0, 1, 3] rfl)
      · have h := h.2 hc
        refine lv_aload_n hx hb d_mo_isHollow_41 rfl (lv_at hl 0 rfl) ?_
        refine va_get (D := (dC, dI)) (ci := 5) (v := .ref (a 1)) (C := R_mo) (T := T_mo) (N := 21) hx hb hts hin__mo hown hK hP 0 (wM_0 a cI cZ g) rfl 2 (by decide) fl_7 (fun _ h9 => h9) rfl d_mo_isHollow_42 ?_
        refine lv_aload_n hx hb d_mo_isHollow_45 rfl (lv_at hl 0 rfl) ?_
        refine va_get (D := (dC, dI)) (ci := 5) (v := .ref (a 12)) (C := R_mo) (T := T_mo) (N := 21) hx hb hts hin__mo hown hK hP 0 (wM_0 a cI cZ g) rfl 16 (by decide) fl_44 (fun _ h9 => h9) rfl d_mo_isHollow_46 ?_
        refine lv_iload hx hb d_mo_isHollow_49 (lv_at hl 4 rfl) ?_
        refine va_iald hx hb hK hP 12 0 (wM_12 a cI cZ g) rfl h.1 d_mo_isHollow_51 ?_
        have h := h.2
        refine lv_bipush (v := 16) hx hb d_mo_isHollow_52 (by decide) ?_
        refine lv_idiv hx hb d_mo_isHollow_54 (by decide) ?_
        refine va_iald hx hb hK hP 1 0 (wM_1 a cI cZ g) rfl h.1 d_mo_isHollow_55 ?_
        have h := h.2
        refine lv_aload_n hx hb d_mo_isHollow_56 rfl (lv_at hl 0 rfl) ?_
        refine va_get (D := (dC, dI)) (ci := 5) (v := .ref (a 1)) (C := R_mo) (T := T_mo) (N := 21) hx hb hts hin__mo hown hK hP 0 (wM_0 a cI cZ g) rfl 2 (by decide) fl_7 (fun _ h9 => h9) rfl d_mo_isHollow_57 ?_
        refine lv_iload_n hx hb d_mo_isHollow_60 rfl (lv_at hl 3 rfl) ?_
        refine va_iald hx hb hK hP 1 0 (wM_1 a cI cZ g) rfl h.1 d_mo_isHollow_61 ?_
        have h := h.2
        refine lv_icmp_ge (tgt := 78) hx hb d_mo_isHollow_62 (by decide) (fun hc => ?_) (fun hc => ?_)
        · have h := h.1 hc
          refine lv_iload_n hx hb d_mo_isHollow_78 rfl (lv_at hl 3 rfl) ?_
          refine J79 _ _ _ _ _ _ (fun w2 w3 w4 w5 g1 h H locs ls hP hD hS hl => ?_) h _ _ _ hP hD hS (lv_sub hl [0, 1, 2, 4] rfl)
          exact ih _ _ _ _ _ _ hK125 h _ _ _ hP hD hS (lv_sub hl [0, 1, 2, 3, 4] rfl)
        · have h := h.2 hc
          refine lv_aload_n hx hb d_mo_isHollow_65 rfl (lv_at hl 0 rfl) ?_
          refine va_get (D := (dC, dI)) (ci := 5) (v := .ref (a 12)) (C := R_mo) (T := T_mo) (N := 21) hx hb hts hin__mo hown hK hP 0 (wM_0 a cI cZ g) rfl 16 (by decide) fl_44 (fun _ h9 => h9) rfl d_mo_isHollow_66 ?_
          refine lv_iload hx hb d_mo_isHollow_69 (lv_at hl 4 rfl) ?_
          refine va_iald hx hb hK hP 12 0 (wM_12 a cI cZ g) rfl h.1 d_mo_isHollow_71 ?_
          have h := h.2
          refine lv_bipush (v := 16) hx hb d_mo_isHollow_72 (by decide) ?_
          refine lv_idiv hx hb d_mo_isHollow_74 (by decide) ?_
          refine lv_goto (tgt := 79) hx hb d_mo_isHollow_75 (by decide) ?_
          refine J79 _ _ _ _ _ _ (fun w7 w8 w9 w10 g6 h H locs ls hP hD hS hl => ?_) h _ _ _ hP hD hS (lv_sub hl [0, 1, 2, 4] rfl)
          exact ih _ _ _ _ _ _ hK125 h _ _ _ hP hD hS (lv_sub hl [0, 1, 2, 3, 4] rfl)
  unfold wp_mo_isHollow at h
  refine lv_aload_n hx hb d_mo_isHollow_0 rfl (lv_at hl 0 rfl) ?_
  refine va_get (D := (dC, dI)) (ci := 5) (v := .ref (a 12)) (C := R_mo) (T := T_mo) (N := 21) hx hb hts hin__mo hown hK hP 0 (wM_0 a cI cZ g) rfl 16 (by decide) fl_44 (fun _ h9 => h9) rfl d_mo_isHollow_1 ?_
  refine lv_aload_n hx hb d_mo_isHollow_4 rfl (lv_at hl 0 rfl) ?_
  refine va_get (D := (dC, dI)) (ci := 5) (v := .ref (a 9)) (C := R_mo) (T := T_mo) (N := 21) hx hb hts hin__mo hown hK hP 0 (wM_0 a cI cZ g) rfl 12 (by decide) fl_35 (fun _ h9 => h9) rfl d_mo_isHollow_5 ?_
  refine lv_iload_n hx hb d_mo_isHollow_8 rfl (lv_at hl 2 rfl) ?_
  refine va_iald hx hb hK hP 9 0 (wM_9 a cI cZ g) rfl h.1 d_mo_isHollow_9 ?_
  have h := h.2
  refine va_iald hx hb hK hP 12 0 (wM_12 a cI cZ g) rfl h.1 d_mo_isHollow_10 ?_
  have h := h.2
  refine lv_bipush (v := 16) hx hb d_mo_isHollow_11 (by decide) ?_
  refine lv_idiv hx hb d_mo_isHollow_13 (by decide) ?_
  refine lv_istore_n (lv' := [(3, .int ((g 12 (ix (g 9 (ix x2)))) / 16)), (0, .ref (a 0)), (1, .int x1), (2, .int x2)]) hx hb d_mo_isHollow_14 rfl hl (by decide) rfl (fun ls hl => ?_)
  refine lv_aload_n hx hb d_mo_isHollow_15 rfl (lv_at hl 1 rfl) ?_
  refine va_get (D := (dC, dI)) (ci := 5) (v := .ref (a 9)) (C := R_mo) (T := T_mo) (N := 21) hx hb hts hin__mo hown hK hP 0 (wM_0 a cI cZ g) rfl 12 (by decide) fl_35 (fun _ h9 => h9) rfl d_mo_isHollow_16 ?_
  refine lv_iload_n hx hb d_mo_isHollow_19 rfl (lv_at hl 3 rfl) ?_
  refine va_iald hx hb hK hP 9 0 (wM_9 a cI cZ g) rfl h.1 d_mo_isHollow_20 ?_
  have h := h.2
  refine lv_istore (lv' := [(4, .int (g 9 (ix x2))), (3, .int ((g 12 (ix (g 9 (ix x2)))) / 16)), (0, .ref (a 0)), (1, .int x1), (2, .int x2)]) hx hb d_mo_isHollow_21 hl (by decide) rfl (fun ls hl => ?_)
  obtain ⟨n23, h⟩ := h
  refine L23 n23 _ _ _ _ _ _ (fun w12 w13 g11 h H locs ls hP hD hS hl => ?_) h _ _ _ hP hD hS (lv_sub hl [2, 3, 4, 1, 0] rfl)
  refine lv_aload_n hx hb d_mo_isHollow_125 rfl (lv_at hl 0 rfl) ?_
  refine lv_iload_n hx hb d_mo_isHollow_126 rfl (lv_at hl 2 rfl) ?_
  refine lv_iload_n hx hb d_mo_isHollow_127 rfl (lv_at hl 1 rfl) ?_
  refine zz_ci (va_runV (As := [.int w13, .int w12]) (rest := []) ⟨hx, hb, hml, hown, hts⟩ (mc_mo_isHigh l dC dI a cI cZ _ w13 w12 g11 _ h) (zz_cwV 2 hts (zz_good wm_304) rfl rfl rfl wm_305 wm_306 wm_307 wm_258 (by decide +kernel) ⟨Nat.le_of_ble_eq_true rfl, Nat.le_of_ble_eq_true rfl⟩) ⟨zz_blind, (va_recv hK hP rfl (wM_0 a cI cZ g11)), zz_pre hP hK hD hN⟩ rfl rfl hl.1 rfl (lv_room (Nat.le_of_ble_eq_true rfl)) d_mo_isHollow_128 ⟨Nat.le_of_ble_eq_true rfl, Nat.le_of_ble_eq_true rfl⟩) hD hS hA (fun r15 g14 H locs h hP hD hS => ?_)
  exact W.zret (v := r15) hx hb hr h.1 (fun t ht hW => ⟨⟨r15, g14, rfl, h.2, by rw [ht]; exact hP, va_K.moved hW.alike hK, hD⟩, hS.F ht⟩) hS.2.2 d_mo_isHollow_131
abbrev rm_mo_contour : Room := { frames := 5, cells := 0, slots := 0, locals := 119 }
set_option maxHeartbeats 4000000 in
set_option maxRecDepth 100000 in
theorem mc_mo_contour (l : Launch) (dC : Nat → ClassId) (dI : Nat → Nat → Nat) (a : Nat → Nat) (cI cZ : ClassId) (sz : Nat) (x1 : Int32) (x2 : Int32) (g : St) (post : Int32 → St → Prop) (h : wp_mo_contour x1 x2 g post) : Met l yy_mo_contour ww_mo_contour rm_mo_contour (zz_Pre (dC, dI) (wM a cI cZ) [(cI, .int), (cZ, .boolean)] [.ref (a 0), .int x1, .int x2] g sz) (va_Qi post (zz_W (dC, dI) (wM a cI cZ) [(cI, .int), (cZ, .boolean)] (va_A (wM a cI cZ g) sz)) (va_A (wM a cI cZ g) sz)) 0 0 (va_A (wM a cI cZ g) sz) := by
  refine Met.ofW (cc := cc_mo_contour) (maxL := 3) (ret := (some .int)) (by decide) rfl ?_
  intro p e s m args below meth c s₁ B hml hv
  obtain ⟨hav, hsz, hP, hK, hD0, hN⟩ := hv
  have hx := B.exec
  have hb := B.bytes
  have hr := B.returns
  have hts := atoms_spec (ws := ww_mo_contour) B.pre
  have hown : s.vm.findClass "SpotContoursModel" = some m.cls := findClass_of_methodNamed B.named
  have hlocks := B.notSynchronized
  subst hsz
  have hD := hD0.self (sz := s.heap.size)
  generalize hAe : va_A (wM a cI cZ g) s.heap.size = A at hD ⊢
  have hA : ∀ q : Nat, s.heap.size ≤ q → A q := fun q h => by rw [← hAe]; exact Or.inr h
  have hS : va_S A s.heap s.heap [] := va_S.rf
  have he9 := lg_entry_eq m [.ref (a 0), .int x1, .int x2] 3
  rw [← hav] at he9
  rw [he9]
  have hl := lv_entry [.ref (a 0), .int x1, .int x2] (n := 3) (Nat.le_of_ble_eq_true rfl)
  generalize (lg_sl [.ref (a 0), .int x1, .int x2] ++ List.replicate (3 - (lg_sl [.ref (a 0), .int x1, .int x2]).length) Slot.unset).toArray = ls at hl ⊢
  have hl : lv_has ls 3 [(0, .ref (a 0)), (1, .int x1), (2, .int x2)] := hl
  have hin__mo : ∀ w ∈ u_ws R_mo T_mo 21, w ∈ ww_mo_contour := fun w h => zz_in (hin0_mo w h)
  have fl_38 := hts (.fieldLink "SpotContoursModel" 38 "SpotContoursModel" "sizes" "[I") (zz_in wm_390)
  have fl_41 := hts (.fieldLink "SpotContoursModel" 41 "SpotContoursModel" "rings" "[Z") (zz_in wm_391)
  have fl_56 := hts (.fieldLink "SpotContoursModel" 56 "SpotContoursModel" "thrown" "I") (zz_in wm_377)
  unfold wp_mo_contour at h
  refine lv_aload_n hx hb d_mo_contour_0 rfl (lv_at hl 0 rfl) ?_
  refine lv_aload_n hx hb d_mo_contour_1 rfl (lv_at hl 0 rfl) ?_
  refine lv_iload_n hx hb d_mo_contour_2 rfl (lv_at hl 1 rfl) ?_
  refine lv_iload_n hx hb d_mo_contour_3 rfl (lv_at hl 2 rfl) ?_
  refine zz_ci (va_runV (As := [.int x1, .int x2]) (rest := [.ref (a 0)]) ⟨hx, hb, hml, hown, hts⟩ (mc_mo_asked l dC dI a cI cZ _ x1 x2 g _ h) (zz_cwV 2 hts (zz_good wm_331) rfl rfl rfl wm_332 wm_333 wm_334 wm_258 (by decide +kernel) ⟨Nat.le_of_ble_eq_true rfl, Nat.le_of_ble_eq_true rfl⟩) ⟨zz_blind, (va_recv hK hP rfl (wM_0 a cI cZ g)), zz_pre hP hK hD hN⟩ rfl rfl hl.1 rfl (lv_room (Nat.le_of_ble_eq_true rfl)) d_mo_contour_4 ⟨Nat.le_of_ble_eq_true rfl, Nat.le_of_ble_eq_true rfl⟩) hD hS hA (fun r2 g1 H locs h hP hD hS => ?_)
  refine va_put (D := (dC, dI)) (ci := 5) (v := .int r2) (ty := .int) (C := R_mo) (T := T_mo) (N := 21) hx hb hts hin__mo ty_mo tok_mo nmd_mo hown hK hP hD hS 0 (wM_0 a cI cZ g1) rfl 0 (by decide) fl_56 (fun _ h9 => h9) rfl (by decide +kernel) rfl rfl (Nat.le_of_ble_eq_true rfl) d_mo_contour_7 (fun H locs hP hD hS => ?_)
  obtain ⟨g3, e_g3⟩ : ∃ z : St, z = gp g1 0 0 r2 := ⟨_, rfl⟩
  have h := h g3 e_g3
  have hP : va_P (dC, dI) zzCl (wM a cI cZ g3) H := by rw [e_g3]; exact hP
  have hD : va_D A (wM a cI cZ g3) := by rw [e_g3]; exact hD
  refine lv_aload_n hx hb d_mo_contour_10 rfl (lv_at hl 0 rfl) ?_
  refine va_get (D := (dC, dI)) (ci := 5) (v := .int (g3 0 0)) (C := R_mo) (T := T_mo) (N := 21) hx hb hts hin__mo hown hK hP 0 (wM_0 a cI cZ g3) rfl 0 (by decide) fl_56 (fun _ h9 => h9) rfl d_mo_contour_11 ?_
  refine lv_if_eq (tgt := 19) hx hb d_mo_contour_14 (by decide) (fun hc => ?_) (fun hc => ?_)
  · have h := h.1 hc
    refine lv_aload_n hx hb d_mo_contour_19 rfl (lv_at hl 0 rfl) ?_
    refine va_get (D := (dC, dI)) (ci := 5) (v := .ref (a 10)) (C := R_mo) (T := T_mo) (N := 21) hx hb hts hin__mo hown hK hP 0 (wM_0 a cI cZ g3) rfl 13 (by decide) fl_38 (fun _ h9 => h9) rfl d_mo_contour_20 ?_
    refine lv_iload_n hx hb d_mo_contour_23 rfl (lv_at hl 2 rfl) ?_
    refine va_iald hx hb hK hP 10 0 (wM_10 a cI cZ g3) rfl h.1 d_mo_contour_24 ?_
    have h := h.2
    refine lv_aload_n hx hb d_mo_contour_25 rfl (lv_at hl 0 rfl) ?_
    refine va_get (D := (dC, dI)) (ci := 5) (v := .ref (a 11)) (C := R_mo) (T := T_mo) (N := 21) hx hb hts hin__mo hown hK hP 0 (wM_0 a cI cZ g3) rfl 14 (by decide) fl_41 (fun _ h9 => h9) rfl d_mo_contour_26 ?_
    refine lv_iload_n hx hb d_mo_contour_29 rfl (lv_at hl 2 rfl) ?_
    refine va_zald hx hb hK hP 11 1 (wM_11 a cI cZ g3) rfl h.1 d_mo_contour_30 ?_
    have h := h.2
    refine lv_if_ne (tgt := 38) hx hb d_mo_contour_31 (by decide) (fun hc => ?_) (fun hc => ?_)
    · have h := h.1 hc
      refine lv_aload_n hx hb d_mo_contour_38 rfl (lv_at hl 0 rfl) ?_
      refine lv_iload_n hx hb d_mo_contour_39 rfl (lv_at hl 1 rfl) ?_
      refine lv_iload_n hx hb d_mo_contour_40 rfl (lv_at hl 2 rfl) ?_
      refine zz_ci (va_runV (As := [.int x1, .int x2]) (rest := [.int (g3 10 (ix x2))]) ⟨hx, hb, hml, hown, hts⟩ (mc_mo_isHollow l dC dI a cI cZ _ x1 x2 g3 _ h) (zz_cwV 2 hts (zz_good wm_327) rfl rfl rfl wm_328 wm_329 wm_330 wm_258 (by decide +kernel) ⟨Nat.le_of_ble_eq_true rfl, Nat.le_of_ble_eq_true rfl⟩) ⟨zz_blind, (va_recv hK hP rfl (wM_0 a cI cZ g3)), zz_pre hP hK hD hN⟩ rfl rfl hl.1 rfl (lv_room (Nat.le_of_ble_eq_true rfl)) d_mo_contour_41 ⟨Nat.le_of_ble_eq_true rfl, Nat.le_of_ble_eq_true rfl⟩) hD hS hA (fun r5 g4 H locs h hP hD hS => ?_)
      refine lv_if_eq (tgt := 53) hx hb d_mo_contour_44 (by decide) (fun hc => ?_) (fun hc => ?_)
      · have h := h.1 hc
        refine lv_sipush (v := 1000) hx hb d_mo_contour_53 (by decide) ?_
        refine lv_iadd hx hb d_mo_contour_56 ?_
        exact W.iret (v := ((g3 10 (ix x2)) + 1000)) hx hb hr (fun t ht hW => ⟨⟨((g3 10 (ix x2)) + 1000), g4, rfl, h, by rw [ht]; exact hP, va_K.moved hW.alike hK, hD⟩, hS.F ht⟩) hS.2.2 d_mo_contour_57
      · have h := h.2 hc
        refine lv_sipush (v := 2000) hx hb d_mo_contour_47 (by decide) ?_
        refine lv_goto (tgt := 56) hx hb d_mo_contour_50 (by decide) ?_
        refine lv_iadd hx hb d_mo_contour_56 ?_
        exact W.iret (v := ((g3 10 (ix x2)) + 2000)) hx hb hr (fun t ht hW => ⟨⟨((g3 10 (ix x2)) + 2000), g4, rfl, h, by rw [ht]; exact hP, va_K.moved hW.alike hK, hD⟩, hS.F ht⟩) hS.2.2 d_mo_contour_57
    · have h := h.2 hc
      refine lv_iconst (v := 0) hx hb d_mo_contour_34 (by decide) ?_
      refine lv_goto (tgt := 56) hx hb d_mo_contour_35 (by decide) ?_
      refine lv_iadd hx hb d_mo_contour_56 ?_
      exact W.iret (v := ((g3 10 (ix x2)) + 0)) hx hb hr (fun t ht hW => ⟨⟨((g3 10 (ix x2)) + 0), g3, rfl, h, by rw [ht]; exact hP, va_K.moved hW.alike hK, hD⟩, hS.F ht⟩) hS.2.2 d_mo_contour_57
  · have h := h.2 hc
    refine lv_iconst (v := 0) hx hb d_mo_contour_17 (by decide) ?_
    exact W.iret (v := 0) hx hb hr (fun t ht hW => ⟨⟨0, g3, rfl, h, by rw [ht]; exact hP, va_K.moved hW.alike hK, hD⟩, hS.F ht⟩) hS.2.2 d_mo_contour_18
abbrev rm_mo_askedFor : Room := { frames := 5, cells := 0, slots := 0, locals := 119 }
set_option maxHeartbeats 4000000 in
set_option maxRecDepth 100000 in
theorem mc_mo_askedFor (l : Launch) (dC : Nat → ClassId) (dI : Nat → Nat → Nat) (a : Nat → Nat) (cI cZ : ClassId) (sz : Nat) (x1 : Int32) (x2 : Int32) (x3 : Int32) (g : St) (post : Int32 → St → Prop) (h : wp_mo_askedFor x1 x2 x3 g post) : Met l yy_mo_askedFor ww_mo_askedFor rm_mo_askedFor (zz_Pre (dC, dI) (wM a cI cZ) [(cI, .int), (cZ, .boolean)] [.ref (a 0), .int x1, .int x2, .int x3] g sz) (va_Qi post (zz_W (dC, dI) (wM a cI cZ) [(cI, .int), (cZ, .boolean)] (va_A (wM a cI cZ g) sz)) (va_A (wM a cI cZ g) sz)) 0 0 (va_A (wM a cI cZ g) sz) := by
  refine Met.ofW (cc := cc_mo_askedFor) (maxL := 5) (ret := (some .int)) (by decide) rfl ?_
  intro p e s m args below meth c s₁ B hml hv
  obtain ⟨hav, hsz, hP, hK, hD0, hN⟩ := hv
  have hx := B.exec
  have hb := B.bytes
  have hr := B.returns
  have hts := atoms_spec (ws := ww_mo_askedFor) B.pre
  have hown : s.vm.findClass "SpotContoursModel" = some m.cls := findClass_of_methodNamed B.named
  have hlocks := B.notSynchronized
  subst hsz
  have hD := hD0.self (sz := s.heap.size)
  generalize hAe : va_A (wM a cI cZ g) s.heap.size = A at hD ⊢
  have hA : ∀ q : Nat, s.heap.size ≤ q → A q := fun q h => by rw [← hAe]; exact Or.inr h
  have hS : va_S A s.heap s.heap [] := va_S.rf
  have he9 := lg_entry_eq m [.ref (a 0), .int x1, .int x2, .int x3] 5
  rw [← hav] at he9
  rw [he9]
  have hl := lv_entry [.ref (a 0), .int x1, .int x2, .int x3] (n := 5) (Nat.le_of_ble_eq_true rfl)
  generalize (lg_sl [.ref (a 0), .int x1, .int x2, .int x3] ++ List.replicate (5 - (lg_sl [.ref (a 0), .int x1, .int x2, .int x3]).length) Slot.unset).toArray = ls at hl ⊢
  have hl : lv_has ls 5 [(0, .ref (a 0)), (1, .int x1), (2, .int x2), (3, .int x3)] := hl
  have hin__mo : ∀ w ∈ u_ws R_mo T_mo 21, w ∈ ww_mo_askedFor := fun w h => zz_in (hin0_mo w h)
  have fl_38 := hts (.fieldLink "SpotContoursModel" 38 "SpotContoursModel" "sizes" "[I") (zz_in wm_390)
  unfold wp_mo_askedFor at h
  refine lv_aload_n hx hb d_mo_askedFor_0 rfl (lv_at hl 0 rfl) ?_
  refine lv_iload_n hx hb d_mo_askedFor_1 rfl (lv_at hl 1 rfl) ?_
  refine lv_iload_n hx hb d_mo_askedFor_2 rfl (lv_at hl 2 rfl) ?_
  refine zz_ci (va_runV (As := [.int x1, .int x2]) (rest := []) ⟨hx, hb, hml, hown, hts⟩ (mc_mo_asked l dC dI a cI cZ _ x1 x2 g _ h) (zz_cwV 2 hts (zz_good wm_331) rfl rfl rfl wm_332 wm_333 wm_334 wm_258 (by decide +kernel) ⟨Nat.le_of_ble_eq_true rfl, Nat.le_of_ble_eq_true rfl⟩) ⟨zz_blind, (va_recv hK hP rfl (wM_0 a cI cZ g)), zz_pre hP hK hD hN⟩ rfl rfl hl.1 rfl (lv_room (Nat.le_of_ble_eq_true rfl)) d_mo_askedFor_3 ⟨Nat.le_of_ble_eq_true rfl, Nat.le_of_ble_eq_true rfl⟩) hD hS hA (fun r2 g1 H locs h hP hD hS => ?_)
  refine lv_istore (lv' := [(4, .int r2), (0, .ref (a 0)), (1, .int x1), (2, .int x2), (3, .int x3)]) hx hb d_mo_askedFor_6 hl (by decide) rfl (fun ls hl => ?_)
  refine lv_iload hx hb d_mo_askedFor_8 (lv_at hl 0 rfl) ?_
  refine lv_if_ne (tgt := 31) hx hb d_mo_askedFor_10 (by decide) (fun hc => ?_) (fun hc => ?_)
  · have h := h.1 hc
    refine lv_iload hx hb d_mo_askedFor_31 (lv_at hl 0 rfl) ?_
    exact W.iret (v := r2) hx hb hr (fun t ht hW => ⟨⟨r2, g1, rfl, h, by rw [ht]; exact hP, va_K.moved hW.alike hK, hD⟩, hS.F ht⟩) hS.2.2 d_mo_askedFor_33
  · have h := h.2 hc
    refine lv_iload_n hx hb d_mo_askedFor_13 rfl (lv_at hl 4 rfl) ?_
    refine lv_if_lt (tgt := 27) hx hb d_mo_askedFor_14 (by decide) (fun hc => ?_) (fun hc => ?_)
    · have h := h.1 hc
      refine lv_iconst (v := 2) hx hb d_mo_askedFor_27 (by decide) ?_
      refine lv_goto (tgt := 33) hx hb d_mo_askedFor_28 (by decide) ?_
      exact W.iret (v := 2) hx hb hr (fun t ht hW => ⟨⟨2, g1, rfl, h, by rw [ht]; exact hP, va_K.moved hW.alike hK, hD⟩, hS.F ht⟩) hS.2.2 d_mo_askedFor_33
    · have h := h.2 hc
      refine lv_iload_n hx hb d_mo_askedFor_17 rfl (lv_at hl 4 rfl) ?_
      refine lv_aload_n hx hb d_mo_askedFor_18 rfl (lv_at hl 1 rfl) ?_
      refine va_get (D := (dC, dI)) (ci := 5) (v := .ref (a 10)) (C := R_mo) (T := T_mo) (N := 21) hx hb hts hin__mo hown hK hP 0 (wM_0 a cI cZ g1) rfl 13 (by decide) fl_38 (fun _ h9 => h9) rfl d_mo_askedFor_19 ?_
      refine lv_iload_n hx hb d_mo_askedFor_22 rfl (lv_at hl 3 rfl) ?_
      refine va_iald hx hb hK hP 10 0 (wM_10 a cI cZ g1) rfl h.1 d_mo_askedFor_23 ?_
      have h := h.2
      refine lv_icmp_lt (tgt := 31) hx hb d_mo_askedFor_24 (by decide) (fun hc => ?_) (fun hc => ?_)
      · have h := h.1 hc
        refine lv_iload hx hb d_mo_askedFor_31 (lv_at hl 0 rfl) ?_
        exact W.iret (v := r2) hx hb hr (fun t ht hW => ⟨⟨r2, g1, rfl, h, by rw [ht]; exact hP, va_K.moved hW.alike hK, hD⟩, hS.F ht⟩) hS.2.2 d_mo_askedFor_33
      · have h := h.2 hc
        refine lv_iconst (v := 2) hx hb d_mo_askedFor_27 (by decide) ?_
        refine lv_goto (tgt := 33) hx hb d_mo_askedFor_28 (by decide) ?_
        exact W.iret (v := 2) hx hb hr (fun t ht hW => ⟨⟨2, g1, rfl, h, by rw [ht]; exact hP, va_K.moved hW.alike hK, hD⟩, hS.F ht⟩) hS.2.2 d_mo_askedFor_33
abbrev rm_mo_crossing : Room := { frames := 6, cells := 0, slots := 0, locals := 143 }
set_option maxHeartbeats 4000000 in
set_option maxRecDepth 100000 in
theorem mc_mo_crossing (l : Launch) (dC : Nat → ClassId) (dI : Nat → Nat → Nat) (a : Nat → Nat) (cI cZ : ClassId) (sz : Nat) (x1 : Int32) (x2 : Int32) (x3 : Int32) (g : St) (post : Int32 → St → Prop) (h : wp_mo_crossing x1 x2 x3 g post) : Met l yy_mo_crossing ww_mo_crossing rm_mo_crossing (zz_Pre (dC, dI) (wM a cI cZ) [(cI, .int), (cZ, .boolean)] [.ref (a 0), .int x1, .int x2, .int x3] g sz) (va_Qi post (zz_W (dC, dI) (wM a cI cZ) [(cI, .int), (cZ, .boolean)] (va_A (wM a cI cZ g) sz)) (va_A (wM a cI cZ g) sz)) 0 0 (va_A (wM a cI cZ g) sz) := by
  refine Met.ofW (cc := cc_mo_crossing) (maxL := 4) (ret := (some .int)) (by decide) rfl ?_
  intro p e s m args below meth c s₁ B hml hv
  obtain ⟨hav, hsz, hP, hK, hD0, hN⟩ := hv
  have hx := B.exec
  have hb := B.bytes
  have hr := B.returns
  have hts := atoms_spec (ws := ww_mo_crossing) B.pre
  have hown : s.vm.findClass "SpotContoursModel" = some m.cls := findClass_of_methodNamed B.named
  have hlocks := B.notSynchronized
  subst hsz
  have hD := hD0.self (sz := s.heap.size)
  generalize hAe : va_A (wM a cI cZ g) s.heap.size = A at hD ⊢
  have hA : ∀ q : Nat, s.heap.size ≤ q → A q := fun q h => by rw [← hAe]; exact Or.inr h
  have hS : va_S A s.heap s.heap [] := va_S.rf
  have he9 := lg_entry_eq m [.ref (a 0), .int x1, .int x2, .int x3] 4
  rw [← hav] at he9
  rw [he9]
  have hl := lv_entry [.ref (a 0), .int x1, .int x2, .int x3] (n := 4) (Nat.le_of_ble_eq_true rfl)
  generalize (lg_sl [.ref (a 0), .int x1, .int x2, .int x3] ++ List.replicate (4 - (lg_sl [.ref (a 0), .int x1, .int x2, .int x3]).length) Slot.unset).toArray = ls at hl ⊢
  have hl : lv_has ls 4 [(0, .ref (a 0)), (1, .int x1), (2, .int x2), (3, .int x3)] := hl
  have hin__mo : ∀ w ∈ u_ws R_mo T_mo 21, w ∈ ww_mo_crossing := fun w h => zz_in (hin0_mo w h)
  have fl_35 := hts (.fieldLink "SpotContoursModel" 35 "SpotContoursModel" "begins" "[I") (zz_in wm_389)
  have fl_44 := hts (.fieldLink "SpotContoursModel" 44 "SpotContoursModel" "row" "[I") (zz_in wm_392)
  have fl_56 := hts (.fieldLink "SpotContoursModel" 56 "SpotContoursModel" "thrown" "I") (zz_in wm_377)
  unfold wp_mo_crossing at h
  refine lv_aload_n hx hb d_mo_crossing_0 rfl (lv_at hl 0 rfl) ?_
  refine lv_aload_n hx hb d_mo_crossing_1 rfl (lv_at hl 0 rfl) ?_
  refine lv_iload_n hx hb d_mo_crossing_2 rfl (lv_at hl 1 rfl) ?_
  refine lv_iload_n hx hb d_mo_crossing_3 rfl (lv_at hl 2 rfl) ?_
  refine lv_iload_n hx hb d_mo_crossing_4 rfl (lv_at hl 3 rfl) ?_
  refine zz_ci (va_runV (As := [.int x1, .int x2, .int x3]) (rest := [.ref (a 0)]) ⟨hx, hb, hml, hown, hts⟩ (mc_mo_askedFor l dC dI a cI cZ _ x1 x2 x3 g _ h) (zz_cwV 3 hts (zz_good wm_335) rfl rfl rfl wm_336 wm_337 wm_338 wm_258 (by decide +kernel) ⟨Nat.le_of_ble_eq_true rfl, Nat.le_of_ble_eq_true rfl⟩) ⟨zz_blind, (va_recv hK hP rfl (wM_0 a cI cZ g)), zz_pre hP hK hD hN⟩ rfl rfl hl.1 rfl (lv_room (Nat.le_of_ble_eq_true rfl)) d_mo_crossing_5 ⟨Nat.le_of_ble_eq_true rfl, Nat.le_of_ble_eq_true rfl⟩) hD hS hA (fun r2 g1 H locs h hP hD hS => ?_)
  refine va_put (D := (dC, dI)) (ci := 5) (v := .int r2) (ty := .int) (C := R_mo) (T := T_mo) (N := 21) hx hb hts hin__mo ty_mo tok_mo nmd_mo hown hK hP hD hS 0 (wM_0 a cI cZ g1) rfl 0 (by decide) fl_56 (fun _ h9 => h9) rfl (by decide +kernel) rfl rfl (Nat.le_of_ble_eq_true rfl) d_mo_crossing_8 (fun H locs hP hD hS => ?_)
  obtain ⟨g3, e_g3⟩ : ∃ z : St, z = gp g1 0 0 r2 := ⟨_, rfl⟩
  have h := h g3 e_g3
  have hP : va_P (dC, dI) zzCl (wM a cI cZ g3) H := by rw [e_g3]; exact hP
  have hD : va_D A (wM a cI cZ g3) := by rw [e_g3]; exact hD
  refine lv_aload_n hx hb d_mo_crossing_11 rfl (lv_at hl 0 rfl) ?_
  refine va_get (D := (dC, dI)) (ci := 5) (v := .int (g3 0 0)) (C := R_mo) (T := T_mo) (N := 21) hx hb hts hin__mo hown hK hP 0 (wM_0 a cI cZ g3) rfl 0 (by decide) fl_56 (fun _ h9 => h9) rfl d_mo_crossing_12 ?_
  refine lv_if_ne (tgt := 34) hx hb d_mo_crossing_15 (by decide) (fun hc => ?_) (fun hc => ?_)
  · have h := h.1 hc
    refine lv_iconst (v := 0) hx hb d_mo_crossing_34 (by decide) ?_
    exact W.iret (v := 0) hx hb hr (fun t ht hW => ⟨⟨0, g3, rfl, h, by rw [ht]; exact hP, va_K.moved hW.alike hK, hD⟩, hS.F ht⟩) hS.2.2 d_mo_crossing_35
  · have h := h.2 hc
    refine lv_aload_n hx hb d_mo_crossing_18 rfl (lv_at hl 0 rfl) ?_
    refine va_get (D := (dC, dI)) (ci := 5) (v := .ref (a 12)) (C := R_mo) (T := T_mo) (N := 21) hx hb hts hin__mo hown hK hP 0 (wM_0 a cI cZ g3) rfl 16 (by decide) fl_44 (fun _ h9 => h9) rfl d_mo_crossing_19 ?_
    refine lv_aload_n hx hb d_mo_crossing_22 rfl (lv_at hl 0 rfl) ?_
    refine va_get (D := (dC, dI)) (ci := 5) (v := .ref (a 9)) (C := R_mo) (T := T_mo) (N := 21) hx hb hts hin__mo hown hK hP 0 (wM_0 a cI cZ g3) rfl 12 (by decide) fl_35 (fun _ h9 => h9) rfl d_mo_crossing_23 ?_
    refine lv_iload_n hx hb d_mo_crossing_26 rfl (lv_at hl 2 rfl) ?_
    refine va_iald hx hb hK hP 9 0 (wM_9 a cI cZ g3) rfl h.1 d_mo_crossing_27 ?_
    have h := h.2
    refine lv_iload_n hx hb d_mo_crossing_28 rfl (lv_at hl 3 rfl) ?_
    refine lv_iadd hx hb d_mo_crossing_29 ?_
    refine va_iald hx hb hK hP 12 0 (wM_12 a cI cZ g3) rfl h.1 d_mo_crossing_30 ?_
    have h := h.2
    refine lv_goto (tgt := 35) hx hb d_mo_crossing_31 (by decide) ?_
    exact W.iret (v := (g3 12 (ix ((g3 9 (ix x2)) + x3)))) hx hb hr (fun t ht hW => ⟨⟨(g3 12 (ix ((g3 9 (ix x2)) + x3))), g3, rfl, h, by rw [ht]; exact hP, va_K.moved hW.alike hK, hD⟩, hS.F ht⟩) hS.2.2 d_mo_crossing_35
abbrev rm_mo_placeOf : Room := { frames := 1, cells := 0, slots := 0, locals := 25 }
set_option maxHeartbeats 4000000 in
set_option maxRecDepth 100000 in
theorem mc_mo_placeOf (l : Launch) (dC : Nat → ClassId) (dI : Nat → Nat → Nat) (a : Nat → Nat) (cI cZ : ClassId) (sz : Nat) (x1 : Int32) (x2 : Int32) (g : St) (post : Int32 → St → Prop) (h : wp_mo_placeOf x1 x2 g post) : Met l yy_mo_placeOf ww_mo_placeOf rm_mo_placeOf (zz_Pre (dC, dI) (wM a cI cZ) [(cI, .int), (cZ, .boolean)] [.ref (a 0), .int x1, .int x2] g sz) (va_Qi post (zz_W (dC, dI) (wM a cI cZ) [(cI, .int), (cZ, .boolean)] (va_A (wM a cI cZ g) sz)) (va_A (wM a cI cZ g) sz)) 0 0 (va_A (wM a cI cZ g) sz) := by
  refine Met.ofW (cc := cc_mo_placeOf) (maxL := 13) (ret := (some .int)) (by decide) rfl ?_
  intro p e s m args below meth c s₁ B hml hv
  obtain ⟨hav, hsz, hP, hK, hD0, hN⟩ := hv
  have hx := B.exec
  have hb := B.bytes
  have hr := B.returns
  have hts := atoms_spec (ws := ww_mo_placeOf) B.pre
  have hown : s.vm.findClass "SpotContoursModel" = some m.cls := findClass_of_methodNamed B.named
  have hlocks := B.notSynchronized
  subst hsz
  have hD := hD0.self (sz := s.heap.size)
  generalize hAe : va_A (wM a cI cZ g) s.heap.size = A at hD ⊢
  have hA : ∀ q : Nat, s.heap.size ≤ q → A q := fun q h => by rw [← hAe]; exact Or.inr h
  have hS : va_S A s.heap s.heap [] := va_S.rf
  have he9 := lg_entry_eq m [.ref (a 0), .int x1, .int x2] 13
  rw [← hav] at he9
  rw [he9]
  have hl := lv_entry [.ref (a 0), .int x1, .int x2] (n := 13) (Nat.le_of_ble_eq_true rfl)
  generalize (lg_sl [.ref (a 0), .int x1, .int x2] ++ List.replicate (13 - (lg_sl [.ref (a 0), .int x1, .int x2]).length) Slot.unset).toArray = ls at hl ⊢
  have hl : lv_has ls 13 [(0, .ref (a 0)), (1, .int x1), (2, .int x2)] := hl
  have hin__mo : ∀ w ∈ u_ws R_mo T_mo 21, w ∈ ww_mo_placeOf := fun w h => zz_in (hin0_mo w h)
  have fl_7 := hts (.fieldLink "SpotContoursModel" 7 "SpotContoursModel" "xs" "[I") (zz_in wm_379)
  have fl_13 := hts (.fieldLink "SpotContoursModel" 13 "SpotContoursModel" "ys" "[I") (zz_in wm_380)
  have fl_16 := hts (.fieldLink "SpotContoursModel" 16 "SpotContoursModel" "zs" "[I") (zz_in wm_383)
  have J23 : ∀ (v1 : Int32) (v2 : Int32) (s0 : Int32) (g : St), jn_mo_placeOf_J23 v1 v2 s0 g post → ∀ (H : Heap) (locs : List Loc) (ls : Array Slot), va_P (dC, dI) zzCl (wM a cI cZ g) H → va_D A (wM a cI cZ g) → va_S A s.heap H locs → lv_has ls 13 [(0, .ref (a 0)), (1, .int v1), (2, .int v2)] → W p l e (headSpec ww_mo_placeOf rm_mo_placeOf).room s m args below meth c H locs 0 0 (zz_Qi below (dC, dI) (wM a cI cZ) [(cI, .int), (cZ, .boolean)] A post args s) (F0 m 23 ls [.int s0]) := by
    intro v1 v2 s0 g h H locs ls hP hD hS hl
    unfold jn_mo_placeOf_J23 at h
    refine lv_istore_n (lv' := [(3, .int s0), (0, .ref (a 0)), (1, .int v1), (2, .int v2)]) hx hb d_mo_placeOf_23 rfl hl (by decide) rfl (fun ls hl => ?_)
    refine lv_iload_n hx hb d_mo_placeOf_24 rfl (lv_at hl 3 rfl) ?_
    refine lv_bipush (v := 16) hx hb d_mo_placeOf_25 (by decide) ?_
    refine lv_idiv hx hb d_mo_placeOf_27 (by decide) ?_
    refine lv_iload_n hx hb d_mo_placeOf_28 rfl (lv_at hl 3 rfl) ?_
    refine lv_bipush (v := 16) hx hb d_mo_placeOf_29 (by decide) ?_
    refine lv_irem hx hb d_mo_placeOf_31 (by decide) ?_
    refine lv_iadd hx hb d_mo_placeOf_32 ?_
    refine lv_iload_n hx hb d_mo_placeOf_33 rfl (lv_at hl 0 rfl) ?_
    refine lv_isub hx hb d_mo_placeOf_34 ?_
    refine lv_istore (lv' := [(4, .int (((v2 / 16) + (v2 - v2 / 16 * 16)) - s0)), (3, .int s0), (0, .ref (a 0)), (1, .int v1), (2, .int v2)]) hx hb d_mo_placeOf_35 hl (by decide) rfl (fun ls hl => ?_)
    refine lv_iconst (v := 2) hx hb d_mo_placeOf_37 (by decide) ?_
    refine lv_iload_n hx hb d_mo_placeOf_38 rfl (lv_at hl 3 rfl) ?_
    refine lv_imul hx hb d_mo_placeOf_39 ?_
    refine lv_iconst (v := 1) hx hb d_mo_placeOf_40 (by decide) ?_
    refine lv_iadd hx hb d_mo_placeOf_41 ?_
    refine lv_iconst (v := 2) hx hb d_mo_placeOf_42 (by decide) ?_
    refine lv_aload_n hx hb d_mo_placeOf_43 rfl (lv_at hl 2 rfl) ?_
    refine va_get (D := (dC, dI)) (ci := 5) (v := .ref (a 3)) (C := R_mo) (T := T_mo) (N := 21) hx hb hts hin__mo hown hK hP 0 (wM_0 a cI cZ g) rfl 4 (by decide) fl_16 (fun _ h9 => h9) rfl d_mo_placeOf_44 ?_
    refine lv_iload hx hb d_mo_placeOf_47 (lv_at hl 0 rfl) ?_
    refine va_iald hx hb hK hP 3 0 (wM_3 a cI cZ g) rfl h.1 d_mo_placeOf_49 ?_
    have h := h.2
    refine lv_imul hx hb d_mo_placeOf_50 ?_
    refine lv_isub hx hb d_mo_placeOf_51 ?_
    refine lv_i2l (v := (((2 * v1) + 1) - (2 * (g 3 (ix (((v2 / 16) + (v2 - v2 / 16 * 16)) - s0))))).toInt64) hx hb d_mo_placeOf_52 rfl ?_
    refine lv_lstore (lv' := [(5, .long (((2 * v1) + 1) - (2 * (g 3 (ix (((v2 / 16) + (v2 - v2 / 16 * 16)) - s0))))).toInt64), (4, .int (((v2 / 16) + (v2 - v2 / 16 * 16)) - s0)), (3, .int s0), (0, .ref (a 0)), (1, .int v1), (2, .int v2)]) hx hb d_mo_placeOf_53 hl (by decide) rfl (fun ls hl => ?_)
    refine lv_iconst (v := 2) hx hb d_mo_placeOf_55 (by decide) ?_
    refine lv_aload_n hx hb d_mo_placeOf_56 rfl (lv_at hl 3 rfl) ?_
    refine va_get (D := (dC, dI)) (ci := 5) (v := .ref (a 3)) (C := R_mo) (T := T_mo) (N := 21) hx hb hts hin__mo hown hK hP 0 (wM_0 a cI cZ g) rfl 4 (by decide) fl_16 (fun _ h9 => h9) rfl d_mo_placeOf_57 ?_
    refine lv_iload_n hx hb d_mo_placeOf_60 rfl (lv_at hl 2 rfl) ?_
    refine va_iald hx hb hK hP 3 0 (wM_3 a cI cZ g) rfl h.1 d_mo_placeOf_61 ?_
    have h := h.2
    refine lv_aload_n hx hb d_mo_placeOf_62 rfl (lv_at hl 3 rfl) ?_
    refine va_get (D := (dC, dI)) (ci := 5) (v := .ref (a 3)) (C := R_mo) (T := T_mo) (N := 21) hx hb hts hin__mo hown hK hP 0 (wM_0 a cI cZ g) rfl 4 (by decide) fl_16 (fun _ h9 => h9) rfl d_mo_placeOf_63 ?_
    refine lv_iload hx hb d_mo_placeOf_66 (lv_at hl 1 rfl) ?_
    refine va_iald hx hb hK hP 3 0 (wM_3 a cI cZ g) rfl h.1 d_mo_placeOf_68 ?_
    have h := h.2
    refine lv_isub hx hb d_mo_placeOf_69 ?_
    refine lv_imul hx hb d_mo_placeOf_70 ?_
    refine lv_i2l (v := (2 * ((g 3 (ix s0)) - (g 3 (ix (((v2 / 16) + (v2 - v2 / 16 * 16)) - s0))))).toInt64) hx hb d_mo_placeOf_71 rfl ?_
    refine lv_lstore (lv' := [(7, .long (2 * ((g 3 (ix s0)) - (g 3 (ix (((v2 / 16) + (v2 - v2 / 16 * 16)) - s0))))).toInt64), (5, .long (((2 * v1) + 1) - (2 * (g 3 (ix (((v2 / 16) + (v2 - v2 / 16 * 16)) - s0))))).toInt64), (4, .int (((v2 / 16) + (v2 - v2 / 16 * 16)) - s0)), (3, .int s0), (0, .ref (a 0)), (1, .int v1), (2, .int v2)]) hx hb d_mo_placeOf_72 hl (by decide) rfl (fun ls hl => ?_)
    refine lv_aload_n hx hb d_mo_placeOf_74 rfl (lv_at hl 4 rfl) ?_
    refine va_get (D := (dC, dI)) (ci := 5) (v := .ref (a 1)) (C := R_mo) (T := T_mo) (N := 21) hx hb hts hin__mo hown hK hP 0 (wM_0 a cI cZ g) rfl 2 (by decide) fl_7 (fun _ h9 => h9) rfl d_mo_placeOf_75 ?_
    refine lv_iload hx hb d_mo_placeOf_78 (lv_at hl 2 rfl) ?_
    refine va_iald hx hb hK hP 1 0 (wM_1 a cI cZ g) rfl h.1 d_mo_placeOf_80 ?_
    have h := h.2
    refine lv_i2l (v := (g 1 (ix (((v2 / 16) + (v2 - v2 / 16 * 16)) - s0))).toInt64) hx hb d_mo_placeOf_81 rfl ?_
    refine lv_aload_n hx hb d_mo_placeOf_82 rfl (lv_at hl 4 rfl) ?_
    refine va_get (D := (dC, dI)) (ci := 5) (v := .ref (a 1)) (C := R_mo) (T := T_mo) (N := 21) hx hb hts hin__mo hown hK hP 0 (wM_0 a cI cZ g) rfl 2 (by decide) fl_7 (fun _ h9 => h9) rfl d_mo_placeOf_83 ?_
    refine lv_iload_n hx hb d_mo_placeOf_86 rfl (lv_at hl 3 rfl) ?_
    refine va_iald hx hb hK hP 1 0 (wM_1 a cI cZ g) rfl h.1 d_mo_placeOf_87 ?_
    have h := h.2
    refine lv_aload_n hx hb d_mo_placeOf_88 rfl (lv_at hl 4 rfl) ?_
    refine va_get (D := (dC, dI)) (ci := 5) (v := .ref (a 1)) (C := R_mo) (T := T_mo) (N := 21) hx hb hts hin__mo hown hK hP 0 (wM_0 a cI cZ g) rfl 2 (by decide) fl_7 (fun _ h9 => h9) rfl d_mo_placeOf_89 ?_
    refine lv_iload hx hb d_mo_placeOf_92 (lv_at hl 2 rfl) ?_
    refine va_iald hx hb hK hP 1 0 (wM_1 a cI cZ g) rfl h.1 d_mo_placeOf_94 ?_
    have h := h.2
    refine lv_isub hx hb d_mo_placeOf_95 ?_
    refine lv_i2l (v := ((g 1 (ix s0)) - (g 1 (ix (((v2 / 16) + (v2 - v2 / 16 * 16)) - s0)))).toInt64) hx hb d_mo_placeOf_96 rfl ?_
    refine lv_lload hx hb d_mo_placeOf_97 (lv_at hl 1 rfl) ?_
    refine lv_lmul hx hb d_mo_placeOf_99 ?_
    refine lv_lload hx hb d_mo_placeOf_100 (lv_at hl 0 rfl) ?_
    refine zz_cl (va_runS (As := [.long (((g 1 (ix s0)) - (g 1 (ix (((v2 / 16) + (v2 - v2 / 16 * 16)) - s0)))).toInt64 * (((2 * v1) + 1) - (2 * (g 3 (ix (((v2 / 16) + (v2 - v2 / 16 * 16)) - s0))))).toInt64), .long (2 * ((g 3 (ix s0)) - (g 3 (ix (((v2 / 16) + (v2 - v2 / 16 * 16)) - s0))))).toInt64]) (rest := [.long (g 1 (ix (((v2 / 16) + (v2 - v2 / 16 * 16)) - s0))).toInt64]) ⟨hx, hb, hml, hown, hts⟩ (mc_mo_floor l dC dI a cI cZ _ (((g 1 (ix s0)) - (g 1 (ix (((v2 / 16) + (v2 - v2 / 16 * 16)) - s0)))).toInt64 * (((2 * v1) + 1) - (2 * (g 3 (ix (((v2 / 16) + (v2 - v2 / 16 * 16)) - s0))))).toInt64) (2 * ((g 3 (ix s0)) - (g 3 (ix (((v2 / 16) + (v2 - v2 / 16 * 16)) - s0))))).toInt64 g _ h) (zz_cwS 2 hts (zz_good wm_294) rfl rfl rfl wm_295 wm_296 wm_258 (by decide +kernel) ⟨Nat.le_of_ble_eq_true rfl, Nat.le_of_ble_eq_true rfl⟩) ⟨zz_blind, zz_pre hP hK hD hN⟩ rfl rfl hl.1 rfl (lv_room (Nat.le_of_ble_eq_true rfl)) d_mo_placeOf_102 ⟨Nat.le_of_ble_eq_true rfl, Nat.le_of_ble_eq_true rfl⟩) hD hS hA (fun r4 g3 H locs h hP hD hS => ?_)
    refine lv_ladd hx hb d_mo_placeOf_105 ?_
    refine lv_lstore (lv' := [(9, .long ((g 1 (ix (((v2 / 16) + (v2 - v2 / 16 * 16)) - s0))).toInt64 + r4)), (7, .long (2 * ((g 3 (ix s0)) - (g 3 (ix (((v2 / 16) + (v2 - v2 / 16 * 16)) - s0))))).toInt64), (5, .long (((2 * v1) + 1) - (2 * (g 3 (ix (((v2 / 16) + (v2 - v2 / 16 * 16)) - s0))))).toInt64), (4, .int (((v2 / 16) + (v2 - v2 / 16 * 16)) - s0)), (3, .int s0), (0, .ref (a 0)), (1, .int v1), (2, .int v2)]) hx hb d_mo_placeOf_106 hl (by decide) rfl (fun ls hl => ?_)
    refine lv_aload_n hx hb d_mo_placeOf_108 rfl (lv_at hl 5 rfl) ?_
    refine va_get (D := (dC, dI)) (ci := 5) (v := .ref (a 2)) (C := R_mo) (T := T_mo) (N := 21) hx hb hts hin__mo hown hK hP 0 (wM_0 a cI cZ g3) rfl 3 (by decide) fl_13 (fun _ h9 => h9) rfl d_mo_placeOf_109 ?_
    refine lv_iload hx hb d_mo_placeOf_112 (lv_at hl 3 rfl) ?_
    refine va_iald hx hb hK hP 2 0 (wM_2 a cI cZ g3) rfl h.1 d_mo_placeOf_114 ?_
    have h := h.2
    refine lv_i2l (v := (g3 2 (ix (((v2 / 16) + (v2 - v2 / 16 * 16)) - s0))).toInt64) hx hb d_mo_placeOf_115 rfl ?_
    refine lv_aload_n hx hb d_mo_placeOf_116 rfl (lv_at hl 5 rfl) ?_
    refine va_get (D := (dC, dI)) (ci := 5) (v := .ref (a 2)) (C := R_mo) (T := T_mo) (N := 21) hx hb hts hin__mo hown hK hP 0 (wM_0 a cI cZ g3) rfl 3 (by decide) fl_13 (fun _ h9 => h9) rfl d_mo_placeOf_117 ?_
    refine lv_iload_n hx hb d_mo_placeOf_120 rfl (lv_at hl 4 rfl) ?_
    refine va_iald hx hb hK hP 2 0 (wM_2 a cI cZ g3) rfl h.1 d_mo_placeOf_121 ?_
    have h := h.2
    refine lv_aload_n hx hb d_mo_placeOf_122 rfl (lv_at hl 5 rfl) ?_
    refine va_get (D := (dC, dI)) (ci := 5) (v := .ref (a 2)) (C := R_mo) (T := T_mo) (N := 21) hx hb hts hin__mo hown hK hP 0 (wM_0 a cI cZ g3) rfl 3 (by decide) fl_13 (fun _ h9 => h9) rfl d_mo_placeOf_123 ?_
    refine lv_iload hx hb d_mo_placeOf_126 (lv_at hl 3 rfl) ?_
    refine va_iald hx hb hK hP 2 0 (wM_2 a cI cZ g3) rfl h.1 d_mo_placeOf_128 ?_
    have h := h.2
    refine lv_isub hx hb d_mo_placeOf_129 ?_
    refine lv_i2l (v := ((g3 2 (ix s0)) - (g3 2 (ix (((v2 / 16) + (v2 - v2 / 16 * 16)) - s0)))).toInt64) hx hb d_mo_placeOf_130 rfl ?_
    refine lv_lload hx hb d_mo_placeOf_131 (lv_at hl 2 rfl) ?_
    refine lv_lmul hx hb d_mo_placeOf_133 ?_
    refine lv_lload hx hb d_mo_placeOf_134 (lv_at hl 1 rfl) ?_
    refine zz_cl (va_runS (As := [.long (((g3 2 (ix s0)) - (g3 2 (ix (((v2 / 16) + (v2 - v2 / 16 * 16)) - s0)))).toInt64 * (((2 * v1) + 1) - (2 * (g 3 (ix (((v2 / 16) + (v2 - v2 / 16 * 16)) - s0))))).toInt64), .long (2 * ((g 3 (ix s0)) - (g 3 (ix (((v2 / 16) + (v2 - v2 / 16 * 16)) - s0))))).toInt64]) (rest := [.long (g3 2 (ix (((v2 / 16) + (v2 - v2 / 16 * 16)) - s0))).toInt64]) ⟨hx, hb, hml, hown, hts⟩ (mc_mo_floor l dC dI a cI cZ _ (((g3 2 (ix s0)) - (g3 2 (ix (((v2 / 16) + (v2 - v2 / 16 * 16)) - s0)))).toInt64 * (((2 * v1) + 1) - (2 * (g 3 (ix (((v2 / 16) + (v2 - v2 / 16 * 16)) - s0))))).toInt64) (2 * ((g 3 (ix s0)) - (g 3 (ix (((v2 / 16) + (v2 - v2 / 16 * 16)) - s0))))).toInt64 g3 _ h) (zz_cwS 2 hts (zz_good wm_294) rfl rfl rfl wm_295 wm_296 wm_258 (by decide +kernel) ⟨Nat.le_of_ble_eq_true rfl, Nat.le_of_ble_eq_true rfl⟩) ⟨zz_blind, zz_pre hP hK hD hN⟩ rfl rfl hl.1 rfl (lv_room (Nat.le_of_ble_eq_true rfl)) d_mo_placeOf_136 ⟨Nat.le_of_ble_eq_true rfl, Nat.le_of_ble_eq_true rfl⟩) hD hS hA (fun r6 g5 H locs h hP hD hS => ?_)
    refine lv_ladd hx hb d_mo_placeOf_139 ?_
    refine lv_lstore (lv' := [(11, .long ((g3 2 (ix (((v2 / 16) + (v2 - v2 / 16 * 16)) - s0))).toInt64 + r6)), (9, .long ((g 1 (ix (((v2 / 16) + (v2 - v2 / 16 * 16)) - s0))).toInt64 + r4)), (7, .long (2 * ((g 3 (ix s0)) - (g 3 (ix (((v2 / 16) + (v2 - v2 / 16 * 16)) - s0))))).toInt64), (5, .long (((2 * v1) + 1) - (2 * (g 3 (ix (((v2 / 16) + (v2 - v2 / 16 * 16)) - s0))))).toInt64), (4, .int (((v2 / 16) + (v2 - v2 / 16 * 16)) - s0)), (3, .int s0), (0, .ref (a 0)), (1, .int v1), (2, .int v2)]) hx hb d_mo_placeOf_140 hl (by decide) rfl (fun ls hl => ?_)
    refine lv_ldc2 (v := 64) hx hb hown (hts _ (zz_in wm_339)) d_mo_placeOf_142 ?_
    refine lv_lload hx hb d_mo_placeOf_145 (lv_at hl 1 rfl) ?_
    refine lv_lmul hx hb d_mo_placeOf_147 ?_
    refine lv_lload hx hb d_mo_placeOf_148 (lv_at hl 0 rfl) ?_
    refine lv_ladd hx hb d_mo_placeOf_150 ?_
    refine lv_l2i (v := ((64 * ((g 1 (ix (((v2 / 16) + (v2 - v2 / 16 * 16)) - s0))).toInt64 + r4)) + ((g3 2 (ix (((v2 / 16) + (v2 - v2 / 16 * 16)) - s0))).toInt64 + r6)).toInt32) hx hb d_mo_placeOf_151 rfl ?_
    exact W.iret (v := ((64 * ((g 1 (ix (((v2 / 16) + (v2 - v2 / 16 * 16)) - s0))).toInt64 + r4)) + ((g3 2 (ix (((v2 / 16) + (v2 - v2 / 16 * 16)) - s0))).toInt64 + r6)).toInt32) hx hb hr (fun t ht hW => ⟨⟨((64 * ((g 1 (ix (((v2 / 16) + (v2 - v2 / 16 * 16)) - s0))).toInt64 + r4)) + ((g3 2 (ix (((v2 / 16) + (v2 - v2 / 16 * 16)) - s0))).toInt64 + r6)).toInt32, g5, rfl, h, by rw [ht]; exact hP, va_K.moved hW.alike hK, hD⟩, hS.F ht⟩) hS.2.2 d_mo_placeOf_152
  unfold wp_mo_placeOf at h
  refine lv_aload_n hx hb d_mo_placeOf_0 rfl (lv_at hl 0 rfl) ?_
  refine lv_iload_n hx hb d_mo_placeOf_1 rfl (lv_at hl 2 rfl) ?_
  refine lv_bipush (v := 16) hx hb d_mo_placeOf_2 (by decide) ?_
  refine lv_idiv hx hb d_mo_placeOf_4 (by decide) ?_
  refine lv_iload_n hx hb d_mo_placeOf_5 rfl (lv_at hl 1 rfl) ?_
  refine zz_ci (va_runV (As := [.int (x2 / 16), .int x1]) (rest := []) ⟨hx, hb, hml, hown, hts⟩ (mc_mo_isHigh l dC dI a cI cZ _ (x2 / 16) x1 g _ h) (zz_cwV 2 hts (zz_good wm_304) rfl rfl rfl wm_305 wm_306 wm_307 wm_258 (by decide +kernel) ⟨Nat.le_of_ble_eq_true rfl, Nat.le_of_ble_eq_true rfl⟩) ⟨zz_blind, (va_recv hK hP rfl (wM_0 a cI cZ g)), zz_pre hP hK hD hN⟩ rfl rfl hl.1 rfl (lv_room (Nat.le_of_ble_eq_true rfl)) d_mo_placeOf_6 ⟨Nat.le_of_ble_eq_true rfl, Nat.le_of_ble_eq_true rfl⟩) hD hS hA (fun r2 g1 H locs h hP hD hS => ?_)
  refine lv_if_eq (tgt := 19) hx hb d_mo_placeOf_9 (by decide) (fun hc => ?_) (fun hc => ?_)
  · have h := h.1 hc
    refine lv_iload_n hx hb d_mo_placeOf_19 rfl (lv_at hl 2 rfl) ?_
    refine lv_bipush (v := 16) hx hb d_mo_placeOf_20 (by decide) ?_
    refine lv_irem hx hb d_mo_placeOf_22 (by decide) ?_
    exact J23 _ _ _ _ h _ _ _ hP hD hS (lv_sub hl [0, 1, 2] rfl)
  · have h := h.2 hc
    refine lv_iload_n hx hb d_mo_placeOf_12 rfl (lv_at hl 2 rfl) ?_
    refine lv_bipush (v := 16) hx hb d_mo_placeOf_13 (by decide) ?_
    refine lv_idiv hx hb d_mo_placeOf_15 (by decide) ?_
    refine lv_goto (tgt := 23) hx hb d_mo_placeOf_16 (by decide) ?_
    exact J23 _ _ _ _ h _ _ _ hP hD hS (lv_sub hl [0, 1, 2] rfl)
abbrev rm_mo_place : Room := { frames := 6, cells := 0, slots := 0, locals := 143 }
set_option maxHeartbeats 4000000 in
set_option maxRecDepth 100000 in
theorem mc_mo_place (l : Launch) (dC : Nat → ClassId) (dI : Nat → Nat → Nat) (a : Nat → Nat) (cI cZ : ClassId) (sz : Nat) (x1 : Int32) (x2 : Int32) (x3 : Int32) (g : St) (post : Int32 → St → Prop) (h : wp_mo_place x1 x2 x3 g post) : Met l yy_mo_place ww_mo_place rm_mo_place (zz_Pre (dC, dI) (wM a cI cZ) [(cI, .int), (cZ, .boolean)] [.ref (a 0), .int x1, .int x2, .int x3] g sz) (va_Qi post (zz_W (dC, dI) (wM a cI cZ) [(cI, .int), (cZ, .boolean)] (va_A (wM a cI cZ g) sz)) (va_A (wM a cI cZ g) sz)) 0 0 (va_A (wM a cI cZ g) sz) := by
  refine Met.ofW (cc := cc_mo_place) (maxL := 4) (ret := (some .int)) (by decide) rfl ?_
  intro p e s m args below meth c s₁ B hml hv
  obtain ⟨hav, hsz, hP, hK, hD0, hN⟩ := hv
  have hx := B.exec
  have hb := B.bytes
  have hr := B.returns
  have hts := atoms_spec (ws := ww_mo_place) B.pre
  have hown : s.vm.findClass "SpotContoursModel" = some m.cls := findClass_of_methodNamed B.named
  have hlocks := B.notSynchronized
  subst hsz
  have hD := hD0.self (sz := s.heap.size)
  generalize hAe : va_A (wM a cI cZ g) s.heap.size = A at hD ⊢
  have hA : ∀ q : Nat, s.heap.size ≤ q → A q := fun q h => by rw [← hAe]; exact Or.inr h
  have hS : va_S A s.heap s.heap [] := va_S.rf
  have he9 := lg_entry_eq m [.ref (a 0), .int x1, .int x2, .int x3] 4
  rw [← hav] at he9
  rw [he9]
  have hl := lv_entry [.ref (a 0), .int x1, .int x2, .int x3] (n := 4) (Nat.le_of_ble_eq_true rfl)
  generalize (lg_sl [.ref (a 0), .int x1, .int x2, .int x3] ++ List.replicate (4 - (lg_sl [.ref (a 0), .int x1, .int x2, .int x3]).length) Slot.unset).toArray = ls at hl ⊢
  have hl : lv_has ls 4 [(0, .ref (a 0)), (1, .int x1), (2, .int x2), (3, .int x3)] := hl
  have hin__mo : ∀ w ∈ u_ws R_mo T_mo 21, w ∈ ww_mo_place := fun w h => zz_in (hin0_mo w h)
  have fl_35 := hts (.fieldLink "SpotContoursModel" 35 "SpotContoursModel" "begins" "[I") (zz_in wm_389)
  have fl_44 := hts (.fieldLink "SpotContoursModel" 44 "SpotContoursModel" "row" "[I") (zz_in wm_392)
  have fl_56 := hts (.fieldLink "SpotContoursModel" 56 "SpotContoursModel" "thrown" "I") (zz_in wm_377)
  unfold wp_mo_place at h
  refine lv_aload_n hx hb d_mo_place_0 rfl (lv_at hl 0 rfl) ?_
  refine lv_aload_n hx hb d_mo_place_1 rfl (lv_at hl 0 rfl) ?_
  refine lv_iload_n hx hb d_mo_place_2 rfl (lv_at hl 1 rfl) ?_
  refine lv_iload_n hx hb d_mo_place_3 rfl (lv_at hl 2 rfl) ?_
  refine lv_iload_n hx hb d_mo_place_4 rfl (lv_at hl 3 rfl) ?_
  refine zz_ci (va_runV (As := [.int x1, .int x2, .int x3]) (rest := [.ref (a 0)]) ⟨hx, hb, hml, hown, hts⟩ (mc_mo_askedFor l dC dI a cI cZ _ x1 x2 x3 g _ h) (zz_cwV 3 hts (zz_good wm_335) rfl rfl rfl wm_336 wm_337 wm_338 wm_258 (by decide +kernel) ⟨Nat.le_of_ble_eq_true rfl, Nat.le_of_ble_eq_true rfl⟩) ⟨zz_blind, (va_recv hK hP rfl (wM_0 a cI cZ g)), zz_pre hP hK hD hN⟩ rfl rfl hl.1 rfl (lv_room (Nat.le_of_ble_eq_true rfl)) d_mo_place_5 ⟨Nat.le_of_ble_eq_true rfl, Nat.le_of_ble_eq_true rfl⟩) hD hS hA (fun r2 g1 H locs h hP hD hS => ?_)
  refine va_put (D := (dC, dI)) (ci := 5) (v := .int r2) (ty := .int) (C := R_mo) (T := T_mo) (N := 21) hx hb hts hin__mo ty_mo tok_mo nmd_mo hown hK hP hD hS 0 (wM_0 a cI cZ g1) rfl 0 (by decide) fl_56 (fun _ h9 => h9) rfl (by decide +kernel) rfl rfl (Nat.le_of_ble_eq_true rfl) d_mo_place_8 (fun H locs hP hD hS => ?_)
  obtain ⟨g3, e_g3⟩ : ∃ z : St, z = gp g1 0 0 r2 := ⟨_, rfl⟩
  have h := h g3 e_g3
  have hP : va_P (dC, dI) zzCl (wM a cI cZ g3) H := by rw [e_g3]; exact hP
  have hD : va_D A (wM a cI cZ g3) := by rw [e_g3]; exact hD
  refine lv_aload_n hx hb d_mo_place_11 rfl (lv_at hl 0 rfl) ?_
  refine va_get (D := (dC, dI)) (ci := 5) (v := .int (g3 0 0)) (C := R_mo) (T := T_mo) (N := 21) hx hb hts hin__mo hown hK hP 0 (wM_0 a cI cZ g3) rfl 0 (by decide) fl_56 (fun _ h9 => h9) rfl d_mo_place_12 ?_
  refine lv_if_ne (tgt := 39) hx hb d_mo_place_15 (by decide) (fun hc => ?_) (fun hc => ?_)
  · have h := h.1 hc
    refine lv_iconst (v := 0) hx hb d_mo_place_39 (by decide) ?_
    exact W.iret (v := 0) hx hb hr (fun t ht hW => ⟨⟨0, g3, rfl, h, by rw [ht]; exact hP, va_K.moved hW.alike hK, hD⟩, hS.F ht⟩) hS.2.2 d_mo_place_40
  · have h := h.2 hc
    refine lv_aload_n hx hb d_mo_place_18 rfl (lv_at hl 0 rfl) ?_
    refine lv_iload_n hx hb d_mo_place_19 rfl (lv_at hl 1 rfl) ?_
    refine lv_aload_n hx hb d_mo_place_20 rfl (lv_at hl 0 rfl) ?_
    refine va_get (D := (dC, dI)) (ci := 5) (v := .ref (a 12)) (C := R_mo) (T := T_mo) (N := 21) hx hb hts hin__mo hown hK hP 0 (wM_0 a cI cZ g3) rfl 16 (by decide) fl_44 (fun _ h9 => h9) rfl d_mo_place_21 ?_
    refine lv_aload_n hx hb d_mo_place_24 rfl (lv_at hl 0 rfl) ?_
    refine va_get (D := (dC, dI)) (ci := 5) (v := .ref (a 9)) (C := R_mo) (T := T_mo) (N := 21) hx hb hts hin__mo hown hK hP 0 (wM_0 a cI cZ g3) rfl 12 (by decide) fl_35 (fun _ h9 => h9) rfl d_mo_place_25 ?_
    refine lv_iload_n hx hb d_mo_place_28 rfl (lv_at hl 2 rfl) ?_
    refine va_iald hx hb hK hP 9 0 (wM_9 a cI cZ g3) rfl h.1 d_mo_place_29 ?_
    have h := h.2
    refine lv_iload_n hx hb d_mo_place_30 rfl (lv_at hl 3 rfl) ?_
    refine lv_iadd hx hb d_mo_place_31 ?_
    refine va_iald hx hb hK hP 12 0 (wM_12 a cI cZ g3) rfl h.1 d_mo_place_32 ?_
    have h := h.2
    refine zz_ci (va_runV (As := [.int x1, .int (g3 12 (ix ((g3 9 (ix x2)) + x3)))]) (rest := []) ⟨hx, hb, hml, hown, hts⟩ (mc_mo_placeOf l dC dI a cI cZ _ x1 (g3 12 (ix ((g3 9 (ix x2)) + x3))) g3 _ h) (zz_cwV 2 hts (zz_good wm_340) rfl rfl rfl wm_341 wm_342 wm_343 wm_258 (by decide +kernel) ⟨Nat.le_of_ble_eq_true rfl, Nat.le_of_ble_eq_true rfl⟩) ⟨zz_blind, (va_recv hK hP rfl (wM_0 a cI cZ g3)), zz_pre hP hK hD hN⟩ rfl rfl hl.1 rfl (lv_room (Nat.le_of_ble_eq_true rfl)) d_mo_place_33 ⟨Nat.le_of_ble_eq_true rfl, Nat.le_of_ble_eq_true rfl⟩) hD hS hA (fun r5 g4 H locs h hP hD hS => ?_)
    refine lv_goto (tgt := 40) hx hb d_mo_place_36 (by decide) ?_
    exact W.iret (v := r5) hx hb hr (fun t ht hW => ⟨⟨r5, g4, rfl, h, by rw [ht]; exact hP, va_K.moved hW.alike hK, hD⟩, hS.F ht⟩) hS.2.2 d_mo_place_40
abbrev rm_mo_isNear : Room := { frames := 0, cells := 0, slots := 0, locals := 0 }
set_option maxHeartbeats 4000000 in
set_option maxRecDepth 100000 in
theorem mc_mo_isNear (l : Launch) (dC : Nat → ClassId) (dI : Nat → Nat → Nat) (a : Nat → Nat) (cI cZ : ClassId) (sz : Nat) (x1 : Int32) (x2 : Int32) (x3 : Int32) (g : St) (post : Int32 → St → Prop) (h : wp_mo_isNear x1 x2 x3 g post) : Met l yy_mo_isNear ww_mo_isNear rm_mo_isNear (zz_Pre (dC, dI) (wM a cI cZ) [(cI, .int), (cZ, .boolean)] [.ref (a 0), .int x1, .int x2, .int x3] g sz) (va_Qi post (zz_W (dC, dI) (wM a cI cZ) [(cI, .int), (cZ, .boolean)] (va_A (wM a cI cZ g) sz)) (va_A (wM a cI cZ g) sz)) 0 0 (va_A (wM a cI cZ g) sz) := by
  refine Met.ofW (cc := cc_mo_isNear) (maxL := 4) (ret := (some .boolean)) (by decide) rfl ?_
  intro p e s m args below meth c s₁ B hml hv
  obtain ⟨hav, hsz, hP, hK, hD0, hN⟩ := hv
  have hx := B.exec
  have hb := B.bytes
  have hr := B.returns
  have hts := atoms_spec (ws := ww_mo_isNear) B.pre
  have hown : s.vm.findClass "SpotContoursModel" = some m.cls := findClass_of_methodNamed B.named
  have hlocks := B.notSynchronized
  subst hsz
  have hD := hD0.self (sz := s.heap.size)
  generalize hAe : va_A (wM a cI cZ g) s.heap.size = A at hD ⊢
  have hA : ∀ q : Nat, s.heap.size ≤ q → A q := fun q h => by rw [← hAe]; exact Or.inr h
  have hS : va_S A s.heap s.heap [] := va_S.rf
  have he9 := lg_entry_eq m [.ref (a 0), .int x1, .int x2, .int x3] 4
  rw [← hav] at he9
  rw [he9]
  have hl := lv_entry [.ref (a 0), .int x1, .int x2, .int x3] (n := 4) (Nat.le_of_ble_eq_true rfl)
  generalize (lg_sl [.ref (a 0), .int x1, .int x2, .int x3] ++ List.replicate (4 - (lg_sl [.ref (a 0), .int x1, .int x2, .int x3]).length) Slot.unset).toArray = ls at hl ⊢
  have hl : lv_has ls 4 [(0, .ref (a 0)), (1, .int x1), (2, .int x2), (3, .int x3)] := hl
  unfold wp_mo_isNear at h
  refine lv_iload_n hx hb d_mo_isNear_0 rfl (lv_at hl 1 rfl) ?_
  refine lv_iload_n hx hb d_mo_isNear_1 rfl (lv_at hl 2 rfl) ?_
  refine lv_isub hx hb d_mo_isNear_2 ?_
  refine lv_iload_n hx hb d_mo_isNear_3 rfl (lv_at hl 3 rfl) ?_
  refine lv_icmp_gt (tgt := 18) hx hb d_mo_isNear_4 (by decide) (fun hc => ?_) (fun hc => ?_)
  · have h := h.1 hc
    refine lv_iconst (v := 0) hx hb d_mo_isNear_18 (by decide) ?_
    exact W.zret (v := 0) hx hb hr (by decide) (fun t ht hW => ⟨⟨0, g, rfl, h, by rw [ht]; exact hP, va_K.moved hW.alike hK, hD⟩, hS.F ht⟩) hS.2.2 d_mo_isNear_19
  · have h := h.2 hc
    refine lv_iload_n hx hb d_mo_isNear_7 rfl (lv_at hl 2 rfl) ?_
    refine lv_iload_n hx hb d_mo_isNear_8 rfl (lv_at hl 1 rfl) ?_
    refine lv_isub hx hb d_mo_isNear_9 ?_
    refine lv_iload_n hx hb d_mo_isNear_10 rfl (lv_at hl 3 rfl) ?_
    refine lv_icmp_gt (tgt := 18) hx hb d_mo_isNear_11 (by decide) (fun hc => ?_) (fun hc => ?_)
    · have h := h.1 hc
      refine lv_iconst (v := 0) hx hb d_mo_isNear_18 (by decide) ?_
      exact W.zret (v := 0) hx hb hr (by decide) (fun t ht hW => ⟨⟨0, g, rfl, h, by rw [ht]; exact hP, va_K.moved hW.alike hK, hD⟩, hS.F ht⟩) hS.2.2 d_mo_isNear_19
    · have h := h.2 hc
      refine lv_iconst (v := 1) hx hb d_mo_isNear_14 (by decide) ?_
      refine lv_goto (tgt := 19) hx hb d_mo_isNear_15 (by decide) ?_
      exact W.zret (v := 1) hx hb hr (by decide) (fun t ht hW => ⟨⟨1, g, rfl, h, by rw [ht]; exact hP, va_K.moved hW.alike hK, hD⟩, hS.F ht⟩) hS.2.2 d_mo_isNear_19
