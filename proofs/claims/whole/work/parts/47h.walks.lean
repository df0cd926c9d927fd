/-! Contracts by their walks, printed. -/
abbrev rm_mo_edge : Room := { frames := 1, cells := 0, slots := 0, locals := 22 }
set_option maxHeartbeats 4000000 in
set_option maxRecDepth 100000 in
theorem mc_mo_edge (l : Launch) (dC : Nat → ClassId) (dI : Nat → Nat → Nat) (a : Nat → Nat) (cI cZ : ClassId) (sz : Nat) (x1 : Int32) (x2 : Int32) (g : St) (post : Int32 → St → Prop) (h : wp_mo_edge x1 x2 g post) : Met l yy_mo_edge ww_mo_edge rm_mo_edge (zz_Pre (dC, dI) (wM a cI cZ) [(cI, .int), (cZ, .boolean)] [.ref (a 0), .int x1, .int x2] g sz) (va_Qi post (zz_W (dC, dI) (wM a cI cZ) [(cI, .int), (cZ, .boolean)] (va_A (wM a cI cZ g) sz)) (va_A (wM a cI cZ g) sz)) 0 0 (va_A (wM a cI cZ g) sz) := by
  refine Met.ofW (cc := cc_mo_edge) (maxL := 5) (ret := (some .int)) (by decide) rfl ?_
  intro p e s m args below meth c s₁ B hml hv
  obtain ⟨hav, hsz, hP, hK, hD0, hN⟩ := hv
  have hx := B.exec
  have hb := B.bytes
  have hr := B.returns
  have hts := atoms_spec (ws := ww_mo_edge) B.pre
  have hown : s.vm.findClass "SpotContoursModel" = some m.cls := findClass_of_methodNamed B.named
  have hlocks := B.notSynchronized
  subst hsz
  have hD := hD0.self (sz := s.heap.size)
  generalize hAe : va_A (wM a cI cZ g) s.heap.size = A at hD ⊢
  have hA : ∀ q : Nat, s.heap.size ≤ q → A q := fun q h => by rw [← hAe]; exact Or.inr h
  have hS : va_S A s.heap s.heap [] := va_S.rf
  have he9 := lg_entry_eq m [.ref (a 0), .int x1, .int x2] 5
  rw [← hav] at he9
  rw [he9]
  have hl := lv_entry [.ref (a 0), .int x1, .int x2] (n := 5) (Nat.le_of_ble_eq_true rfl)
  generalize (lg_sl [.ref (a 0), .int x1, .int x2] ++ List.replicate (5 - (lg_sl [.ref (a 0), .int x1, .int x2]).length) Slot.unset).toArray = ls at hl ⊢
  have hl : lv_has ls 5 [(0, .ref (a 0)), (1, .int x1), (2, .int x2)] := hl
  have hin__mo : ∀ w ∈ u_ws R_mo T_mo 21, w ∈ ww_mo_edge := fun w h => zz_in (hin0_mo w h)
  have fl_56 := hts (.fieldLink "SpotContoursModel" 56 "SpotContoursModel" "thrown" "I") (zz_in wm_377)
  have fl_92 := hts (.fieldLink "SpotContoursModel" 92 "SpotContoursModel" "count" "I") (zz_in wm_382)
  have L30 : ∀ (n : Nat) (v1 : Int32) (v2 : Int32) (v3 : Int32) (v4 : Int32) (g : St) (K85 : Int32 → St → Prop) , (∀ (v3 : Int32) (g : St), K85 v3 g → ∀ (H : Heap) (locs : List Loc) (ls : Array Slot), va_P (dC, dI) zzCl (wM a cI cZ g) H → va_D A (wM a cI cZ g) → va_S A s.heap H locs → lv_has ls 5 [(3, .int v3)] → W p l e (headSpec ww_mo_edge rm_mo_edge).room s m args below meth c H locs 0 0 (zz_Qi below (dC, dI) (wM a cI cZ) [(cI, .int), (cZ, .boolean)] A post args s) (F0 m 85 ls [])) → lp_mo_edge_L30 n v1 v2 v3 v4 g K85 post → ∀ (H : Heap) (locs : List Loc) (ls : Array Slot), va_P (dC, dI) zzCl (wM a cI cZ g) H → va_D A (wM a cI cZ g) → va_S A s.heap H locs → lv_has ls 5 [(0, .ref (a 0)), (1, .int v1), (2, .int v2), (3, .int v3), (4, .int v4)] → W p l e (headSpec ww_mo_edge rm_mo_edge).room s m args below meth c H locs 0 0 (zz_Qi below (dC, dI) (wM a cI cZ) [(cI, .int), (cZ, .boolean)] A post args s) (F0 m 30 ls []) := by
    intro n
    induction n with
    | zero => intro v1 v2 v3 v4 g K85 hK85 h; exact h.elim
    | succ n ih =>
      intro v1 v2 v3 v4 g K85 hK85 h H locs ls hP hD hS hl
      unfold lp_mo_edge_L30 at h
      refine lv_iload hx hb d_mo_edge_30 (lv_at hl 4 rfl) ?_
      refine lv_aload_n hx hb d_mo_edge_32 rfl (lv_at hl 0 rfl) ?_
      refine va_get (D := (dC, dI)) (ci := 5) (v := .int (g 0 5)) (C := R_mo) (T := T_mo) (N := 21) hx hb hts hin__mo hown hK hP 0 (wM_0 a cI cZ g) rfl 5 (by decide) fl_92 (fun _ h9 => h9) rfl d_mo_edge_33 ?_
      refine lv_icmp_ge (tgt := 85) hx hb d_mo_edge_36 (by decide) (fun hc => ?_) (fun hc => ?_)
      · have h := h.1 hc
        exact hK85 _ _ h _ _ _ hP hD hS (lv_sub hl [3] rfl)
      · have h := h.2 hc
        refine lv_aload_n hx hb d_mo_edge_39 rfl (lv_at hl 0 rfl) ?_
        refine va_get (D := (dC, dI)) (ci := 5) (v := .int (g 0 0)) (C := R_mo) (T := T_mo) (N := 21) hx hb hts hin__mo hown hK hP 0 (wM_0 a cI cZ g) rfl 0 (by decide) fl_56 (fun _ h9 => h9) rfl d_mo_edge_40 ?_
        refine lv_if_ne (tgt := 85) hx hb d_mo_edge_43 (by decide) (fun hc => ?_) (fun hc => ?_)
        · have h := h.1 hc
          exact hK85 _ _ h _ _ _ hP hD hS (lv_sub hl [3] rfl)
        · have h := h.2 hc
          refine lv_iload_n hx hb d_mo_edge_46 rfl (lv_at hl 1 rfl) ?_
          refine lv_iload_n hx hb d_mo_edge_47 rfl (lv_at hl 2 rfl) ?_
          refine lv_icmp_eq (tgt := 85) hx hb d_mo_edge_48 (by decide) (fun hc => ?_) (fun hc => ?_)
          · have h := h.1 hc
            exact hK85 _ _ h _ _ _ hP hD hS (lv_sub hl [3] rfl)
          · have h := h.2 hc
            refine lv_iload_n hx hb d_mo_edge_51 rfl (lv_at hl 3 rfl) ?_
            refine lv_aload_n hx hb d_mo_edge_52 rfl (lv_at hl 0 rfl) ?_
            refine lv_iload hx hb d_mo_edge_53 (lv_at hl 4 rfl) ?_
            refine lv_iload_n hx hb d_mo_edge_55 rfl (lv_at hl 1 rfl) ?_
            refine zz_ci (va_runV (As := [.int v4, .int v1]) (rest := [.int v3]) ⟨hx, hb, hml, hown, hts⟩ (mc_mo_has l dC dI a cI cZ _ v4 v1 g _ h) (zz_cwV 2 hts (zz_good wm_290) rfl rfl rfl wm_291 wm_292 wm_293 wm_258 (by decide +kernel) ⟨Nat.le_of_ble_eq_true rfl, Nat.le_of_ble_eq_true rfl⟩) ⟨zz_blind, (va_recv hK hP rfl (wM_0 a cI cZ g)), zz_pre hP hK hD hN⟩ rfl rfl hl.1 rfl (lv_room (Nat.le_of_ble_eq_true rfl)) d_mo_edge_56 ⟨Nat.le_of_ble_eq_true rfl, Nat.le_of_ble_eq_true rfl⟩) hD hS hA (fun r5 g4 H locs h hP hD hS => ?_)
            refine lv_if_eq (tgt := 76) hx hb d_mo_edge_59 (by decide) (fun hc => ?_) (fun hc => ?_)
            · have h := h.1 hc
              refine lv_iconst (v := 0) hx hb d_mo_edge_76 (by decide) ?_
              refine lv_iadd hx hb d_mo_edge_77 ?_
              refine lv_istore_n (lv' := [(3, .int (v3 + 0)), (0, .ref (a 0)), (1, .int v1), (2, .int v2), (4, .int v4)]) hx hb d_mo_edge_78 rfl hl (by decide) rfl (fun ls hl => ?_)
              refine lv_iinc (k := 4) (v := (v4 + 1)) (lv' := [(4, .int (v4 + 1)), (3, .int (v3 + 0)), (0, .ref (a 0)), (1, .int v1), (2, .int v2)]) hx hb d_mo_edge_79 hl rfl rfl (by decide) rfl (fun ls hl => ?_)
              refine lv_goto (tgt := 30) hx hb d_mo_edge_82 (by decide) ?_
              exact ih _ _ _ _ _ _ hK85 h _ _ _ hP hD hS (lv_sub hl [2, 3, 4, 1, 0] rfl)
            · have h := h.2 hc
              refine lv_aload_n hx hb d_mo_edge_62 rfl (lv_at hl 0 rfl) ?_
              refine lv_iload hx hb d_mo_edge_63 (lv_at hl 4 rfl) ?_
              refine lv_iload_n hx hb d_mo_edge_65 rfl (lv_at hl 2 rfl) ?_
              refine zz_ci (va_runV (As := [.int v4, .int v2]) (rest := [.int v3]) ⟨hx, hb, hml, hown, hts⟩ (mc_mo_has l dC dI a cI cZ _ v4 v2 g4 _ h) (zz_cwV 2 hts (zz_good wm_290) rfl rfl rfl wm_291 wm_292 wm_293 wm_258 (by decide +kernel) ⟨Nat.le_of_ble_eq_true rfl, Nat.le_of_ble_eq_true rfl⟩) ⟨zz_blind, (va_recv hK hP rfl (wM_0 a cI cZ g4)), zz_pre hP hK hD hN⟩ rfl rfl hl.1 rfl (lv_room (Nat.le_of_ble_eq_true rfl)) d_mo_edge_66 ⟨Nat.le_of_ble_eq_true rfl, Nat.le_of_ble_eq_true rfl⟩) hD hS hA (fun r7 g6 H locs h hP hD hS => ?_)
              refine lv_if_eq (tgt := 76) hx hb d_mo_edge_69 (by decide) (fun hc => ?_) (fun hc => ?_)
              · have h := h.1 hc
                refine lv_iconst (v := 0) hx hb d_mo_edge_76 (by decide) ?_
                refine lv_iadd hx hb d_mo_edge_77 ?_
                refine lv_istore_n (lv' := [(3, .int (v3 + 0)), (0, .ref (a 0)), (1, .int v1), (2, .int v2), (4, .int v4)]) hx hb d_mo_edge_78 rfl hl (by decide) rfl (fun ls hl => ?_)
                refine lv_iinc (k := 4) (v := (v4 + 1)) (lv' := [(4, .int (v4 + 1)), (3, .int (v3 + 0)), (0, .ref (a 0)), (1, .int v1), (2, .int v2)]) hx hb d_mo_edge_79 hl rfl rfl (by decide) rfl (fun ls hl => ?_)
                refine lv_goto (tgt := 30) hx hb d_mo_edge_82 (by decide) ?_
                exact ih _ _ _ _ _ _ hK85 h _ _ _ hP hD hS (lv_sub hl [2, 3, 4, 1, 0] rfl)
              · have h := h.2 hc
                refine lv_iconst (v := 1) hx hb d_mo_edge_72 (by decide) ?_
                refine lv_goto (tgt := 77) hx hb d_mo_edge_73 (by decide) ?_
                refine lv_iadd hx hb d_mo_edge_77 ?_
                refine lv_istore_n (lv' := [(3, .int (v3 + 1)), (0, .ref (a 0)), (1, .int v1), (2, .int v2), (4, .int v4)]) hx hb d_mo_edge_78 rfl hl (by decide) rfl (fun ls hl => ?_)
                refine lv_iinc (k := 4) (v := (v4 + 1)) (lv' := [(4, .int (v4 + 1)), (3, .int (v3 + 1)), (0, .ref (a 0)), (1, .int v1), (2, .int v2)]) hx hb d_mo_edge_79 hl rfl rfl (by decide) rfl (fun ls hl => ?_)
                refine lv_goto (tgt := 30) hx hb d_mo_edge_82 (by decide) ?_
                exact ih _ _ _ _ _ _ hK85 h _ _ _ hP hD hS (lv_sub hl [2, 3, 4, 1, 0] rfl)
  have J22 : ∀ (v1 : Int32) (v2 : Int32) (s1 : Int32) (g : St), jn_mo_edge_J22 v1 v2 s1 g post → ∀ (H : Heap) (locs : List Loc) (ls : Array Slot), va_P (dC, dI) zzCl (wM a cI cZ g) H → va_D A (wM a cI cZ g) → va_S A s.heap H locs → lv_has ls 5 [(0, .ref (a 0)), (1, .int v1), (2, .int v2)] → W p l e (headSpec ww_mo_edge rm_mo_edge).room s m args below meth c H locs 0 0 (zz_Qi below (dC, dI) (wM a cI cZ) [(cI, .int), (cZ, .boolean)] A post args s) (F0 m 22 ls [.int s1, .ref (a 0)]) := by
    intro v1 v2 s1 g h H locs ls hP hD hS hl
    unfold jn_mo_edge_J22 at h
    refine va_put (D := (dC, dI)) (ci := 5) (v := .int s1) (ty := .int) (C := R_mo) (T := T_mo) (N := 21) hx hb hts hin__mo ty_mo tok_mo nmd_mo hown hK hP hD hS 0 (wM_0 a cI cZ g) rfl 0 (by decide) fl_56 (fun _ h9 => h9) rfl (by decide +kernel) rfl rfl (Nat.le_of_ble_eq_true rfl) d_mo_edge_22 (fun H locs hP hD hS => ?_)
    obtain ⟨g3, e_g3⟩ : ∃ z : St, z = gp g 0 0 s1 := ⟨_, rfl⟩
    have h := h g3 e_g3
    have hP : va_P (dC, dI) zzCl (wM a cI cZ g3) H := by rw [e_g3]; exact hP
    have hD : va_D A (wM a cI cZ g3) := by rw [e_g3]; exact hD
    refine lv_iconst (v := 0) hx hb d_mo_edge_25 (by decide) ?_
    refine lv_istore_n (lv' := [(3, .int 0), (0, .ref (a 0)), (1, .int v1), (2, .int v2)]) hx hb d_mo_edge_26 rfl hl (by decide) rfl (fun ls hl => ?_)
    refine lv_iconst (v := 0) hx hb d_mo_edge_27 (by decide) ?_
    refine lv_istore (lv' := [(4, .int 0), (3, .int 0), (0, .ref (a 0)), (1, .int v1), (2, .int v2)]) hx hb d_mo_edge_28 hl (by decide) rfl (fun ls hl => ?_)
    obtain ⟨n30, h⟩ := h
    refine L30 n30 _ _ _ _ _ _ (fun w9 g8 h H locs ls hP hD hS hl => ?_) h _ _ _ hP hD hS (lv_sub hl [2, 3, 4, 1, 0] rfl)
    refine lv_iload_n hx hb d_mo_edge_85 rfl (lv_at hl 0 rfl) ?_
    exact W.iret (v := w9) hx hb hr (fun t ht hW => ⟨⟨w9, g8, rfl, h, by rw [ht]; exact hP, va_K.moved hW.alike hK, hD⟩, hS.F ht⟩) hS.2.2 d_mo_edge_86
  have J21 : ∀ (v1 : Int32) (v2 : Int32) (g : St), jn_mo_edge_J21 v1 v2 g post → ∀ (H : Heap) (locs : List Loc) (ls : Array Slot), va_P (dC, dI) zzCl (wM a cI cZ g) H → va_D A (wM a cI cZ g) → va_S A s.heap H locs → lv_has ls 5 [(0, .ref (a 0)), (1, .int v1), (2, .int v2)] → W p l e (headSpec ww_mo_edge rm_mo_edge).room s m args below meth c H locs 0 0 (zz_Qi below (dC, dI) (wM a cI cZ) [(cI, .int), (cZ, .boolean)] A post args s) (F0 m 21 ls [.ref (a 0)]) := by
    intro v1 v2 g h H locs ls hP hD hS hl
    unfold jn_mo_edge_J21 at h
    refine lv_iconst (v := 1) hx hb d_mo_edge_21 (by decide) ?_
    exact J22 _ _ _ _ h _ _ _ hP hD hS (lv_sub hl [0, 1, 2] rfl)
  unfold wp_mo_edge at h
  refine lv_aload_n hx hb d_mo_edge_0 rfl (lv_at hl 0 rfl) ?_
  refine lv_aload_n hx hb d_mo_edge_1 rfl (lv_at hl 0 rfl) ?_
  refine lv_iload_n hx hb d_mo_edge_2 rfl (lv_at hl 1 rfl) ?_
  refine zz_ci (va_runV (As := [.int x1]) (rest := [.ref (a 0)]) ⟨hx, hb, hml, hown, hts⟩ (mc_mo_isSpot l dC dI a cI cZ _ x1 g _ h) (zz_cwV 1 hts (zz_good wm_286) rfl rfl rfl wm_287 wm_288 wm_289 wm_258 (by decide +kernel) ⟨Nat.le_of_ble_eq_true rfl, Nat.le_of_ble_eq_true rfl⟩) ⟨zz_blind, (va_recv hK hP rfl (wM_0 a cI cZ g)), zz_pre hP hK hD hN⟩ rfl rfl hl.1 rfl (lv_room (Nat.le_of_ble_eq_true rfl)) d_mo_edge_3 ⟨Nat.le_of_ble_eq_true rfl, Nat.le_of_ble_eq_true rfl⟩) hD hS hA (fun r2 g1 H locs h hP hD hS => ?_)
  refine lv_if_eq (tgt := 21) hx hb d_mo_edge_6 (by decide) (fun hc => ?_) (fun hc => ?_)
  · have h := h.1 hc
    exact J21 _ _ _ h _ _ _ hP hD hS (lv_sub hl [0, 1, 2] rfl)
  · have h := h.2 hc
    refine lv_aload_n hx hb d_mo_edge_9 rfl (lv_at hl 0 rfl) ?_
    refine lv_iload_n hx hb d_mo_edge_10 rfl (lv_at hl 2 rfl) ?_
    refine zz_ci (va_runV (As := [.int x2]) (rest := [.ref (a 0)]) ⟨hx, hb, hml, hown, hts⟩ (mc_mo_isSpot l dC dI a cI cZ _ x2 g1 _ h) (zz_cwV 1 hts (zz_good wm_286) rfl rfl rfl wm_287 wm_288 wm_289 wm_258 (by decide +kernel) ⟨Nat.le_of_ble_eq_true rfl, Nat.le_of_ble_eq_true rfl⟩) ⟨zz_blind, (va_recv hK hP rfl (wM_0 a cI cZ g1)), zz_pre hP hK hD hN⟩ rfl rfl hl.1 rfl (lv_room (Nat.le_of_ble_eq_true rfl)) d_mo_edge_11 ⟨Nat.le_of_ble_eq_true rfl, Nat.le_of_ble_eq_true rfl⟩) hD hS hA (fun r11 g10 H locs h hP hD hS => ?_)
    refine lv_if_eq (tgt := 21) hx hb d_mo_edge_14 (by decide) (fun hc => ?_) (fun hc => ?_)
    · have h := h.1 hc
      exact J21 _ _ _ h _ _ _ hP hD hS (lv_sub hl [0, 1, 2] rfl)
    · have h := h.2 hc
      refine lv_iconst (v := 0) hx hb d_mo_edge_17 (by decide) ?_
      refine lv_goto (tgt := 22) hx hb d_mo_edge_18 (by decide) ?_
      exact J22 _ _ _ _ h _ _ _ hP hD hS (lv_sub hl [0, 1, 2] rfl)
abbrev rm_mo_toPlace : Room := { frames := 0, cells := 0, slots := 0, locals := 0 }
set_option maxHeartbeats 4000000 in
set_option maxRecDepth 100000 in
theorem mc_mo_toPlace (l : Launch) (dC : Nat → ClassId) (dI : Nat → Nat → Nat) (a : Nat → Nat) (cI cZ : ClassId) (sz : Nat) (x1 : Int32) (x2 : Int32) (x3 : Int32) (x4 : Int32) (g : St) (post : Int64 → St → Prop) (h : wp_mo_toPlace x1 x2 x3 x4 g post) : Met l yy_mo_toPlace ww_mo_toPlace rm_mo_toPlace (zz_Pre (dC, dI) (wM a cI cZ) [(cI, .int), (cZ, .boolean)] [.ref (a 0), .int x1, .int x2, .int x3, .int x4] g sz) (va_Ql post (zz_W (dC, dI) (wM a cI cZ) [(cI, .int), (cZ, .boolean)] (va_A (wM a cI cZ g) sz)) (va_A (wM a cI cZ g) sz)) 0 0 (va_A (wM a cI cZ g) sz) := by
  refine Met.ofW (cc := cc_mo_toPlace) (maxL := 5) (ret := (some .long)) (by decide) rfl ?_
  intro p e s m args below meth c s₁ B hml hv
  obtain ⟨hav, hsz, hP, hK, hD0, hN⟩ := hv
  have hx := B.exec
  have hb := B.bytes
  have hr := B.returns
  have hts := atoms_spec (ws := ww_mo_toPlace) B.pre
  have hown : s.vm.findClass "SpotContoursModel" = some m.cls := findClass_of_methodNamed B.named
  have hlocks := B.notSynchronized
  subst hsz
  have hD := hD0.self (sz := s.heap.size)
  generalize hAe : va_A (wM a cI cZ g) s.heap.size = A at hD ⊢
  have hA : ∀ q : Nat, s.heap.size ≤ q → A q := fun q h => by rw [← hAe]; exact Or.inr h
  have hS : va_S A s.heap s.heap [] := va_S.rf
  have he9 := lg_entry_eq m [.ref (a 0), .int x1, .int x2, .int x3, .int x4] 5
  rw [← hav] at he9
  rw [he9]
  have hl := lv_entry [.ref (a 0), .int x1, .int x2, .int x3, .int x4] (n := 5) (Nat.le_of_ble_eq_true rfl)
  generalize (lg_sl [.ref (a 0), .int x1, .int x2, .int x3, .int x4] ++ List.replicate (5 - (lg_sl [.ref (a 0), .int x1, .int x2, .int x3, .int x4]).length) Slot.unset).toArray = ls at hl ⊢
  have hl : lv_has ls 5 [(0, .ref (a 0)), (1, .int x1), (2, .int x2), (3, .int x3), (4, .int x4)] := hl
  have hin__mo : ∀ w ∈ u_ws R_mo T_mo 21, w ∈ ww_mo_toPlace := fun w h => zz_in (hin0_mo w h)
  have fl_7 := hts (.fieldLink "SpotContoursModel" 7 "SpotContoursModel" "xs" "[I") (zz_in wm_379)
  have fl_13 := hts (.fieldLink "SpotContoursModel" 13 "SpotContoursModel" "ys" "[I") (zz_in wm_380)
  unfold wp_mo_toPlace at h
  refine lv_aload_n hx hb d_mo_toPlace_0 rfl (lv_at hl 0 rfl) ?_
  refine va_get (D := (dC, dI)) (ci := 5) (v := .ref (a 1)) (C := R_mo) (T := T_mo) (N := 21) hx hb hts hin__mo hown hK hP 0 (wM_0 a cI cZ g) rfl 2 (by decide) fl_7 (fun _ h9 => h9) rfl d_mo_toPlace_1 ?_
  refine lv_iload_n hx hb d_mo_toPlace_4 rfl (lv_at hl 2 rfl) ?_
  refine va_iald hx hb hK hP 1 0 (wM_1 a cI cZ g) rfl h.1 d_mo_toPlace_5 ?_
  have h := h.2
  refine lv_aload_n hx hb d_mo_toPlace_6 rfl (lv_at hl 0 rfl) ?_
  refine va_get (D := (dC, dI)) (ci := 5) (v := .ref (a 1)) (C := R_mo) (T := T_mo) (N := 21) hx hb hts hin__mo hown hK hP 0 (wM_0 a cI cZ g) rfl 2 (by decide) fl_7 (fun _ h9 => h9) rfl d_mo_toPlace_7 ?_
  refine lv_iload_n hx hb d_mo_toPlace_10 rfl (lv_at hl 1 rfl) ?_
  refine va_iald hx hb hK hP 1 0 (wM_1 a cI cZ g) rfl h.1 d_mo_toPlace_11 ?_
  have h := h.2
  refine lv_isub hx hb d_mo_toPlace_12 ?_
  refine lv_i2l (v := ((g 1 (ix x2)) - (g 1 (ix x1))).toInt64) hx hb d_mo_toPlace_13 rfl ?_
  refine lv_iload hx hb d_mo_toPlace_14 (lv_at hl 4 rfl) ?_
  refine lv_i2l (v := x4.toInt64) hx hb d_mo_toPlace_16 rfl ?_
  refine lv_aload_n hx hb d_mo_toPlace_17 rfl (lv_at hl 0 rfl) ?_
  refine va_get (D := (dC, dI)) (ci := 5) (v := .ref (a 2)) (C := R_mo) (T := T_mo) (N := 21) hx hb hts hin__mo hown hK hP 0 (wM_0 a cI cZ g) rfl 3 (by decide) fl_13 (fun _ h9 => h9) rfl d_mo_toPlace_18 ?_
  refine lv_iload_n hx hb d_mo_toPlace_21 rfl (lv_at hl 1 rfl) ?_
  refine va_iald hx hb hK hP 2 0 (wM_2 a cI cZ g) rfl h.1 d_mo_toPlace_22 ?_
  have h := h.2
  refine lv_i2l (v := (g 2 (ix x1)).toInt64) hx hb d_mo_toPlace_23 rfl ?_
  refine lv_lsub hx hb d_mo_toPlace_24 ?_
  refine lv_lmul hx hb d_mo_toPlace_25 ?_
  refine lv_aload_n hx hb d_mo_toPlace_26 rfl (lv_at hl 0 rfl) ?_
  refine va_get (D := (dC, dI)) (ci := 5) (v := .ref (a 2)) (C := R_mo) (T := T_mo) (N := 21) hx hb hts hin__mo hown hK hP 0 (wM_0 a cI cZ g) rfl 3 (by decide) fl_13 (fun _ h9 => h9) rfl d_mo_toPlace_27 ?_
  refine lv_iload_n hx hb d_mo_toPlace_30 rfl (lv_at hl 2 rfl) ?_
  refine va_iald hx hb hK hP 2 0 (wM_2 a cI cZ g) rfl h.1 d_mo_toPlace_31 ?_
  have h := h.2
  refine lv_aload_n hx hb d_mo_toPlace_32 rfl (lv_at hl 0 rfl) ?_
  refine va_get (D := (dC, dI)) (ci := 5) (v := .ref (a 2)) (C := R_mo) (T := T_mo) (N := 21) hx hb hts hin__mo hown hK hP 0 (wM_0 a cI cZ g) rfl 3 (by decide) fl_13 (fun _ h9 => h9) rfl d_mo_toPlace_33 ?_
  refine lv_iload_n hx hb d_mo_toPlace_36 rfl (lv_at hl 1 rfl) ?_
  refine va_iald hx hb hK hP 2 0 (wM_2 a cI cZ g) rfl h.1 d_mo_toPlace_37 ?_
  have h := h.2
  refine lv_isub hx hb d_mo_toPlace_38 ?_
  refine lv_i2l (v := ((g 2 (ix x2)) - (g 2 (ix x1))).toInt64) hx hb d_mo_toPlace_39 rfl ?_
  refine lv_iload_n hx hb d_mo_toPlace_40 rfl (lv_at hl 3 rfl) ?_
  refine lv_i2l (v := x3.toInt64) hx hb d_mo_toPlace_41 rfl ?_
  refine lv_aload_n hx hb d_mo_toPlace_42 rfl (lv_at hl 0 rfl) ?_
  refine va_get (D := (dC, dI)) (ci := 5) (v := .ref (a 1)) (C := R_mo) (T := T_mo) (N := 21) hx hb hts hin__mo hown hK hP 0 (wM_0 a cI cZ g) rfl 2 (by decide) fl_7 (fun _ h9 => h9) rfl d_mo_toPlace_43 ?_
  refine lv_iload_n hx hb d_mo_toPlace_46 rfl (lv_at hl 1 rfl) ?_
  refine va_iald hx hb hK hP 1 0 (wM_1 a cI cZ g) rfl h.1 d_mo_toPlace_47 ?_
  have h := h.2
  refine lv_i2l (v := (g 1 (ix x1)).toInt64) hx hb d_mo_toPlace_48 rfl ?_
  refine lv_lsub hx hb d_mo_toPlace_49 ?_
  refine lv_lmul hx hb d_mo_toPlace_50 ?_
  refine lv_lsub hx hb d_mo_toPlace_51 ?_
  exact W.lret (v := ((((g 1 (ix x2)) - (g 1 (ix x1))).toInt64 * (x4.toInt64 - (g 2 (ix x1)).toInt64)) - (((g 2 (ix x2)) - (g 2 (ix x1))).toInt64 * (x3.toInt64 - (g 1 (ix x1)).toInt64)))) hx hb hr (fun t ht hW => ⟨⟨((((g 1 (ix x2)) - (g 1 (ix x1))).toInt64 * (x4.toInt64 - (g 2 (ix x1)).toInt64)) - (((g 2 (ix x2)) - (g 2 (ix x1))).toInt64 * (x3.toInt64 - (g 1 (ix x1)).toInt64))), g, rfl, h, by rw [ht]; exact hP, va_K.moved hW.alike hK, hD⟩, hS.F ht⟩) hS.2.2 d_mo_toPlace_52
abbrev rm_mo_floor : Room := { frames := 0, cells := 0, slots := 0, locals := 0 }
set_option maxHeartbeats 4000000 in
set_option maxRecDepth 100000 in
theorem mc_mo_floor (l : Launch) (dC : Nat → ClassId) (dI : Nat → Nat → Nat) (a : Nat → Nat) (cI cZ : ClassId) (sz : Nat) (x0 : Int64) (x2 : Int64) (g : St) (post : Int64 → St → Prop) (h : wp_mo_floor x0 x2 g post) : Met l yy_mo_floor ww_mo_floor rm_mo_floor (zz_Pre (dC, dI) (wM a cI cZ) [(cI, .int), (cZ, .boolean)] [.long x0, .long x2] g sz) (va_Ql post (zz_W (dC, dI) (wM a cI cZ) [(cI, .int), (cZ, .boolean)] (va_A (wM a cI cZ g) sz)) (va_A (wM a cI cZ g) sz)) 0 0 (va_A (wM a cI cZ g) sz) := by
  refine Met.ofW (cc := cc_mo_floor) (maxL := 6) (ret := (some .long)) (by decide) rfl ?_
  intro p e s m args below meth c s₁ B hml hv
  obtain ⟨hav, hsz, hP, hK, hD0, hN⟩ := hv
  have hx := B.exec
  have hb := B.bytes
  have hr := B.returns
  have hts := atoms_spec (ws := ww_mo_floor) B.pre
  have hown : s.vm.findClass "SpotContoursModel" = some m.cls := findClass_of_methodNamed B.named
  have hlocks := B.notSynchronized
  subst hsz
  have hD := hD0.self (sz := s.heap.size)
  generalize hAe : va_A (wM a cI cZ g) s.heap.size = A at hD ⊢
  have hA : ∀ q : Nat, s.heap.size ≤ q → A q := fun q h => by rw [← hAe]; exact Or.inr h
  have hS : va_S A s.heap s.heap [] := va_S.rf
  have he9 := lg_entry_eq m [.long x0, .long x2] 6
  rw [← hav] at he9
  rw [he9]
  have hl := lv_entry [.long x0, .long x2] (n := 6) (Nat.le_of_ble_eq_true rfl)
  generalize (lg_sl [.long x0, .long x2] ++ List.replicate (6 - (lg_sl [.long x0, .long x2]).length) Slot.unset).toArray = ls at hl ⊢
  have hl : lv_has ls 6 [(0, .long x0), (2, .long x2)] := hl
  unfold wp_mo_floor at h
  refine lv_lload_n hx hb d_mo_floor_0 rfl (lv_at hl 0 rfl) ?_
  refine lv_lload_n hx hb d_mo_floor_1 rfl (lv_at hl 1 rfl) ?_
  refine lv_ldiv hx hb d_mo_floor_2 h.1 ?_
  have h := h.2
  refine lv_lstore (lv' := [(4, .long (x0 / x2)), (0, .long x0), (2, .long x2)]) hx hb d_mo_floor_3 hl (by decide) rfl (fun ls hl => ?_)
  refine lv_lload hx hb d_mo_floor_5 (lv_at hl 0 rfl) ?_
  refine lv_lload_n hx hb d_mo_floor_7 rfl (lv_at hl 2 rfl) ?_
  refine lv_lmul hx hb d_mo_floor_8 ?_
  refine lv_lload_n hx hb d_mo_floor_9 rfl (lv_at hl 1 rfl) ?_
  refine W.lcmp hx hb d_mo_floor_10 ?_
  refine lv_if_le (tgt := 21) hx hb d_mo_floor_11 (by decide) (fun hc => ?_) (fun hc => ?_)
  · have h := h.1 hc
    refine lv_lload hx hb d_mo_floor_21 (lv_at hl 0 rfl) ?_
    exact W.lret (v := (x0 / x2)) hx hb hr (fun t ht hW => ⟨⟨(x0 / x2), g, rfl, h, by rw [ht]; exact hP, va_K.moved hW.alike hK, hD⟩, hS.F ht⟩) hS.2.2 d_mo_floor_23
  · have h := h.2 hc
    refine lv_lload hx hb d_mo_floor_14 (lv_at hl 0 rfl) ?_
    refine lv_lconst (v := 1) hx hb d_mo_floor_16 (by decide) ?_
    refine lv_lsub hx hb d_mo_floor_17 ?_
    refine lv_goto (tgt := 23) hx hb d_mo_floor_18 (by decide) ?_
    exact W.lret (v := ((x0 / x2) - 1)) hx hb hr (fun t ht hW => ⟨⟨((x0 / x2) - 1), g, rfl, h, by rw [ht]; exact hP, va_K.moved hW.alike hK, hD⟩, hS.F ht⟩) hS.2.2 d_mo_floor_23
abbrev rm_mo_at : Room := { frames := 1, cells := 0, slots := 0, locals := 25 }
set_option maxHeartbeats 4000000 in
set_option maxRecDepth 100000 in
theorem mc_mo_at (l : Launch) (dC : Nat → ClassId) (dI : Nat → Nat → Nat) (a : Nat → Nat) (cI cZ : ClassId) (sz : Nat) (x1 : Int32) (x2 : Int32) (g : St) (post : Int32 → St → Prop) (h : wp_mo_at x1 x2 g post) : Met l yy_mo_at ww_mo_at rm_mo_at (zz_Pre (dC, dI) (wM a cI cZ) [(cI, .int), (cZ, .boolean)] [.ref (a 0), .int x1, .int x2] g sz) (va_Qi post (zz_W (dC, dI) (wM a cI cZ) [(cI, .int), (cZ, .boolean)] (va_A (wM a cI cZ g) sz)) (va_A (wM a cI cZ g) sz)) 0 0 (va_A (wM a cI cZ g) sz) := by
  refine Met.ofW (cc := cc_mo_at) (maxL := 15) (ret := (some .int)) (by decide) rfl ?_
  intro p e s m args below meth c s₁ B hml hv
  obtain ⟨hav, hsz, hP, hK, hD0, hN⟩ := hv
  have hx := B.exec
  have hb := B.bytes
  have hr := B.returns
  have hts := atoms_spec (ws := ww_mo_at) B.pre
  have hown : s.vm.findClass "SpotContoursModel" = some m.cls := findClass_of_methodNamed B.named
  have hlocks := B.notSynchronized
  subst hsz
  have hD := hD0.self (sz := s.heap.size)
  generalize hAe : va_A (wM a cI cZ g) s.heap.size = A at hD ⊢
  have hA : ∀ q : Nat, s.heap.size ≤ q → A q := fun q h => by rw [← hAe]; exact Or.inr h
  have hS : va_S A s.heap s.heap [] := va_S.rf
  have he9 := lg_entry_eq m [.ref (a 0), .int x1, .int x2] 15
  rw [← hav] at he9
  rw [he9]
  have hl := lv_entry [.ref (a 0), .int x1, .int x2] (n := 15) (Nat.le_of_ble_eq_true rfl)
  generalize (lg_sl [.ref (a 0), .int x1, .int x2] ++ List.replicate (15 - (lg_sl [.ref (a 0), .int x1, .int x2]).length) Slot.unset).toArray = ls at hl ⊢
  have hl : lv_has ls 15 [(0, .ref (a 0)), (1, .int x1), (2, .int x2)] := hl
  have hin__mo : ∀ w ∈ u_ws R_mo T_mo 21, w ∈ ww_mo_at := fun w h => zz_in (hin0_mo w h)
  have fl_16 := hts (.fieldLink "SpotContoursModel" 16 "SpotContoursModel" "zs" "[I") (zz_in wm_383)
  have fl_19 := hts (.fieldLink "SpotContoursModel" 19 "SpotContoursModel" "corners" "[I") (zz_in wm_381)
  have fl_56 := hts (.fieldLink "SpotContoursModel" 56 "SpotContoursModel" "thrown" "I") (zz_in wm_377)
  have fl_92 := hts (.fieldLink "SpotContoursModel" 92 "SpotContoursModel" "count" "I") (zz_in wm_382)
  have J82 : ∀ (v1 : Int32) (v2 : Int32) (v3 : Int32) (v4 : Int32) (v5 : Int32) (v6 : Int32) (v7 : Int32) (s0 : Int32) (g : St) (K10 : Int32 → Int32 → Int32 → Int32 → St → Prop) , (∀ (v1 : Int32) (v2 : Int32) (v3 : Int32) (v4 : Int32) (g : St), K10 v1 v2 v3 v4 g → ∀ (H : Heap) (locs : List Loc) (ls : Array Slot), va_P (dC, dI) zzCl (wM a cI cZ g) H → va_D A (wM a cI cZ g) → va_S A s.heap H locs → lv_has ls 15 [(0, .ref (a 0)), (1, .int v1), (2, .int v2), (3, .int v3), (4, .int v4)] → W p l e (headSpec ww_mo_at rm_mo_at).room s m args below meth c H locs 0 0 (zz_Qi below (dC, dI) (wM a cI cZ) [(cI, .int), (cZ, .boolean)] A post args s) (F0 m 10 ls [])) → jn_mo_at_J82 v1 v2 v3 v4 v5 v6 v7 s0 g K10 post → ∀ (H : Heap) (locs : List Loc) (ls : Array Slot), va_P (dC, dI) zzCl (wM a cI cZ g) H → va_D A (wM a cI cZ g) → va_S A s.heap H locs → lv_has ls 15 [(0, .ref (a 0)), (1, .int v1), (2, .int v2), (3, .int v3), (4, .int v4), (5, .int v5), (6, .int v6), (7, .int v7)] → W p l e (headSpec ww_mo_at rm_mo_at).room s m args below meth c H locs 0 0 (zz_Qi below (dC, dI) (wM a cI cZ) [(cI, .int), (cZ, .boolean)] A post args s) (F0 m 82 ls [.int s0]) := by
    intro v1 v2 v3 v4 v5 v6 v7 s0 g K10 hK10 h H locs ls hP hD hS hl
    unfold jn_mo_at_J82 at h
    refine lv_istore (lv' := [(8, .int s0), (0, .ref (a 0)), (1, .int v1), (2, .int v2), (3, .int v3), (4, .int v4), (5, .int v5), (6, .int v6), (7, .int v7)]) hx hb d_mo_at_82 hl (by decide) rfl (fun ls hl => ?_)
    refine lv_iload hx hb d_mo_at_84 (lv_at hl 0 rfl) ?_
    refine lv_i2l (v := s0.toInt64) hx hb d_mo_at_86 rfl ?_
    refine lv_aload_n hx hb d_mo_at_87 rfl (lv_at hl 1 rfl) ?_
    refine lv_iload hx hb d_mo_at_88 (lv_at hl 7 rfl) ?_
    refine lv_iload hx hb d_mo_at_90 (lv_at hl 8 rfl) ?_
    refine lv_iload_n hx hb d_mo_at_92 rfl (lv_at hl 2 rfl) ?_
    refine lv_iload_n hx hb d_mo_at_93 rfl (lv_at hl 3 rfl) ?_
    refine zz_cl (va_runV (As := [.int v6, .int v7, .int v1, .int v2]) (rest := [.long (s0.toInt64)]) ⟨hx, hb, hml, hown, hts⟩ (mc_mo_toPlace l dC dI a cI cZ _ v6 v7 v1 v2 g _ h) (zz_cwV 4 hts (zz_good wm_297) rfl rfl rfl wm_298 wm_299 wm_300 wm_258 (by decide +kernel) ⟨Nat.le_of_ble_eq_true rfl, Nat.le_of_ble_eq_true rfl⟩) ⟨zz_blind, (va_recv hK hP rfl (wM_0 a cI cZ g)), zz_pre hP hK hD hN⟩ rfl rfl hl.1 rfl (lv_room (Nat.le_of_ble_eq_true rfl)) d_mo_at_94 ⟨Nat.le_of_ble_eq_true rfl, Nat.le_of_ble_eq_true rfl⟩) hD hS hA (fun r5 g4 H locs h hP hD hS => ?_)
    refine lv_lmul hx hb d_mo_at_97 ?_
    refine lv_lstore (lv' := [(9, .long (s0.toInt64 * r5)), (8, .int s0), (0, .ref (a 0)), (1, .int v1), (2, .int v2), (3, .int v3), (4, .int v4), (5, .int v5), (6, .int v6), (7, .int v7)]) hx hb d_mo_at_98 hl (by decide) rfl (fun ls hl => ?_)
    refine lv_iload hx hb d_mo_at_100 (lv_at hl 1 rfl) ?_
    refine lv_i2l (v := s0.toInt64) hx hb d_mo_at_102 rfl ?_
    refine lv_aload_n hx hb d_mo_at_103 rfl (lv_at hl 2 rfl) ?_
    refine lv_iload hx hb d_mo_at_104 (lv_at hl 9 rfl) ?_
    refine lv_iload hx hb d_mo_at_106 (lv_at hl 7 rfl) ?_
    refine lv_iload_n hx hb d_mo_at_108 rfl (lv_at hl 3 rfl) ?_
    refine lv_iload_n hx hb d_mo_at_109 rfl (lv_at hl 4 rfl) ?_
    refine zz_cl (va_runV (As := [.int v7, .int v5, .int v1, .int v2]) (rest := [.long (s0.toInt64)]) ⟨hx, hb, hml, hown, hts⟩ (mc_mo_toPlace l dC dI a cI cZ _ v7 v5 v1 v2 g4 _ h) (zz_cwV 4 hts (zz_good wm_297) rfl rfl rfl wm_298 wm_299 wm_300 wm_258 (by decide +kernel) ⟨Nat.le_of_ble_eq_true rfl, Nat.le_of_ble_eq_true rfl⟩) ⟨zz_blind, (va_recv hK hP rfl (wM_0 a cI cZ g4)), zz_pre hP hK hD hN⟩ rfl rfl hl.1 rfl (lv_room (Nat.le_of_ble_eq_true rfl)) d_mo_at_110 ⟨Nat.le_of_ble_eq_true rfl, Nat.le_of_ble_eq_true rfl⟩) hD hS hA (fun r7 g6 H locs h hP hD hS => ?_)
    refine lv_lmul hx hb d_mo_at_113 ?_
    refine lv_lstore (lv' := [(11, .long (s0.toInt64 * r7)), (9, .long (s0.toInt64 * r5)), (8, .int s0), (0, .ref (a 0)), (1, .int v1), (2, .int v2), (3, .int v3), (4, .int v4), (5, .int v5), (6, .int v6), (7, .int v7)]) hx hb d_mo_at_114 hl (by decide) rfl (fun ls hl => ?_)
    refine lv_iload hx hb d_mo_at_116 (lv_at hl 2 rfl) ?_
    refine lv_i2l (v := s0.toInt64) hx hb d_mo_at_118 rfl ?_
    refine lv_aload_n hx hb d_mo_at_119 rfl (lv_at hl 3 rfl) ?_
    refine lv_iload hx hb d_mo_at_120 (lv_at hl 8 rfl) ?_
    refine lv_iload hx hb d_mo_at_122 (lv_at hl 9 rfl) ?_
    refine lv_iload_n hx hb d_mo_at_124 rfl (lv_at hl 4 rfl) ?_
    refine lv_iload_n hx hb d_mo_at_125 rfl (lv_at hl 5 rfl) ?_
    refine zz_cl (va_runV (As := [.int v5, .int v6, .int v1, .int v2]) (rest := [.long (s0.toInt64)]) ⟨hx, hb, hml, hown, hts⟩ (mc_mo_toPlace l dC dI a cI cZ _ v5 v6 v1 v2 g6 _ h) (zz_cwV 4 hts (zz_good wm_297) rfl rfl rfl wm_298 wm_299 wm_300 wm_258 (by decide +kernel) ⟨Nat.le_of_ble_eq_true rfl, Nat.le_of_ble_eq_true rfl⟩) ⟨zz_blind, (va_recv hK hP rfl (wM_0 a cI cZ g6)), zz_pre hP hK hD hN⟩ rfl rfl hl.1 rfl (lv_room (Nat.le_of_ble_eq_true rfl)) d_mo_at_126 ⟨Nat.le_of_ble_eq_true rfl, Nat.le_of_ble_eq_true rfl⟩) hD hS hA (fun r9 g8 H locs h hP hD hS => ?_)
    refine lv_lmul hx hb d_mo_at_129 ?_
    refine lv_lstore (lv' := [(13, .long (s0.toInt64 * r9)), (11, .long (s0.toInt64 * r7)), (9, .long (s0.toInt64 * r5)), (8, .int s0), (0, .ref (a 0)), (1, .int v1), (2, .int v2), (3, .int v3), (4, .int v4), (5, .int v5), (6, .int v6), (7, .int v7)]) hx hb d_mo_at_130 hl (by decide) rfl (fun ls hl => ?_)
    refine lv_lload hx hb d_mo_at_132 (lv_at hl 2 rfl) ?_
    refine lv_lconst (v := 0) hx hb d_mo_at_134 (by decide) ?_
    refine W.lcmp hx hb d_mo_at_135 ?_
    refine lv_if_lt (tgt := 206) hx hb d_mo_at_136 (by decide) (fun hc => ?_) (fun hc => ?_)
    · have h := h.1 hc
      refine lv_iinc (k := 8) (v := (v4 + 1)) (lv' := [(4, .int (v4 + 1)), (13, .long (s0.toInt64 * r9)), (11, .long (s0.toInt64 * r7)), (9, .long (s0.toInt64 * r5)), (8, .int s0), (0, .ref (a 0)), (1, .int v1), (2, .int v2), (3, .int v3), (5, .int v5), (6, .int v6), (7, .int v7)]) hx hb d_mo_at_206 hl rfl rfl (by decide) rfl (fun ls hl => ?_)
      refine lv_goto (tgt := 10) hx hb d_mo_at_209 (by decide) ?_
      exact hK10 _ _ _ _ _ h _ _ _ hP hD hS (lv_sub hl [5, 6, 7, 8, 0] rfl)
    · have h := h.2 hc
      refine lv_lload hx hb d_mo_at_139 (lv_at hl 1 rfl) ?_
      refine lv_lconst (v := 0) hx hb d_mo_at_141 (by decide) ?_
      refine W.lcmp hx hb d_mo_at_142 ?_
      refine lv_if_lt (tgt := 206) hx hb d_mo_at_143 (by decide) (fun hc => ?_) (fun hc => ?_)
      · have h := h.1 hc
        refine lv_iinc (k := 8) (v := (v4 + 1)) (lv' := [(4, .int (v4 + 1)), (13, .long (s0.toInt64 * r9)), (11, .long (s0.toInt64 * r7)), (9, .long (s0.toInt64 * r5)), (8, .int s0), (0, .ref (a 0)), (1, .int v1), (2, .int v2), (3, .int v3), (5, .int v5), (6, .int v6), (7, .int v7)]) hx hb d_mo_at_206 hl rfl rfl (by decide) rfl (fun ls hl => ?_)
        refine lv_goto (tgt := 10) hx hb d_mo_at_209 (by decide) ?_
        exact hK10 _ _ _ _ _ h _ _ _ hP hD hS (lv_sub hl [5, 6, 7, 8, 0] rfl)
      · have h := h.2 hc
        refine lv_lload hx hb d_mo_at_146 (lv_at hl 0 rfl) ?_
        refine lv_lconst (v := 0) hx hb d_mo_at_148 (by decide) ?_
        refine W.lcmp hx hb d_mo_at_149 ?_
        refine lv_if_lt (tgt := 206) hx hb d_mo_at_150 (by decide) (fun hc => ?_) (fun hc => ?_)
        · have h := h.1 hc
          refine lv_iinc (k := 8) (v := (v4 + 1)) (lv' := [(4, .int (v4 + 1)), (13, .long (s0.toInt64 * r9)), (11, .long (s0.toInt64 * r7)), (9, .long (s0.toInt64 * r5)), (8, .int s0), (0, .ref (a 0)), (1, .int v1), (2, .int v2), (3, .int v3), (5, .int v5), (6, .int v6), (7, .int v7)]) hx hb d_mo_at_206 hl rfl rfl (by decide) rfl (fun ls hl => ?_)
          refine lv_goto (tgt := 10) hx hb d_mo_at_209 (by decide) ?_
          exact hK10 _ _ _ _ _ h _ _ _ hP hD hS (lv_sub hl [5, 6, 7, 8, 0] rfl)
        · have h := h.2 hc
          refine lv_lload hx hb d_mo_at_153 (lv_at hl 2 rfl) ?_
          refine lv_aload_n hx hb d_mo_at_155 rfl (lv_at hl 4 rfl) ?_
          refine va_get (D := (dC, dI)) (ci := 5) (v := .ref (a 3)) (C := R_mo) (T := T_mo) (N := 21) hx hb hts hin__mo hown hK hP 0 (wM_0 a cI cZ g8) rfl 4 (by decide) fl_16 (fun _ h9 => h9) rfl d_mo_at_156 ?_
          refine lv_iload hx hb d_mo_at_159 (lv_at hl 9 rfl) ?_
          refine va_iald hx hb hK hP 3 0 (wM_3 a cI cZ g8) rfl h.1 d_mo_at_161 ?_
          have h := h.2
          refine lv_i2l (v := (g8 3 (ix v5)).toInt64) hx hb d_mo_at_162 rfl ?_
          refine lv_lmul hx hb d_mo_at_163 ?_
          refine lv_lload hx hb d_mo_at_164 (lv_at hl 1 rfl) ?_
          refine lv_aload_n hx hb d_mo_at_166 rfl (lv_at hl 4 rfl) ?_
          refine va_get (D := (dC, dI)) (ci := 5) (v := .ref (a 3)) (C := R_mo) (T := T_mo) (N := 21) hx hb hts hin__mo hown hK hP 0 (wM_0 a cI cZ g8) rfl 4 (by decide) fl_16 (fun _ h9 => h9) rfl d_mo_at_167 ?_
          refine lv_iload hx hb d_mo_at_170 (lv_at hl 10 rfl) ?_
          refine va_iald hx hb hK hP 3 0 (wM_3 a cI cZ g8) rfl h.1 d_mo_at_172 ?_
          have h := h.2
          refine lv_i2l (v := (g8 3 (ix v6)).toInt64) hx hb d_mo_at_173 rfl ?_
          refine lv_lmul hx hb d_mo_at_174 ?_
          refine lv_ladd hx hb d_mo_at_175 ?_
          refine lv_lload hx hb d_mo_at_176 (lv_at hl 0 rfl) ?_
          refine lv_aload_n hx hb d_mo_at_178 rfl (lv_at hl 4 rfl) ?_
          refine va_get (D := (dC, dI)) (ci := 5) (v := .ref (a 3)) (C := R_mo) (T := T_mo) (N := 21) hx hb hts hin__mo hown hK hP 0 (wM_0 a cI cZ g8) rfl 4 (by decide) fl_16 (fun _ h9 => h9) rfl d_mo_at_179 ?_
          refine lv_iload hx hb d_mo_at_182 (lv_at hl 11 rfl) ?_
          refine va_iald hx hb hK hP 3 0 (wM_3 a cI cZ g8) rfl h.1 d_mo_at_184 ?_
          have h := h.2
          refine lv_i2l (v := (g8 3 (ix v7)).toInt64) hx hb d_mo_at_185 rfl ?_
          refine lv_lmul hx hb d_mo_at_186 ?_
          refine lv_ladd hx hb d_mo_at_187 ?_
          refine lv_lload hx hb d_mo_at_188 (lv_at hl 2 rfl) ?_
          refine lv_lload hx hb d_mo_at_190 (lv_at hl 1 rfl) ?_
          refine lv_ladd hx hb d_mo_at_192 ?_
          refine lv_lload hx hb d_mo_at_193 (lv_at hl 0 rfl) ?_
          refine lv_ladd hx hb d_mo_at_195 ?_
          refine zz_cl (va_runS (As := [.long ((((s0.toInt64 * r5) * (g8 3 (ix v5)).toInt64) + ((s0.toInt64 * r7) * (g8 3 (ix v6)).toInt64)) + ((s0.toInt64 * r9) * (g8 3 (ix v7)).toInt64)), .long (((s0.toInt64 * r5) + (s0.toInt64 * r7)) + (s0.toInt64 * r9))]) (rest := []) ⟨hx, hb, hml, hown, hts⟩ (mc_mo_floor l dC dI a cI cZ _ ((((s0.toInt64 * r5) * (g8 3 (ix v5)).toInt64) + ((s0.toInt64 * r7) * (g8 3 (ix v6)).toInt64)) + ((s0.toInt64 * r9) * (g8 3 (ix v7)).toInt64)) (((s0.toInt64 * r5) + (s0.toInt64 * r7)) + (s0.toInt64 * r9)) g8 _ h) (zz_cwS 2 hts (zz_good wm_294) rfl rfl rfl wm_295 wm_296 wm_258 (by decide +kernel) ⟨Nat.le_of_ble_eq_true rfl, Nat.le_of_ble_eq_true rfl⟩) ⟨zz_blind, zz_pre hP hK hD hN⟩ rfl rfl hl.1 rfl (lv_room (Nat.le_of_ble_eq_true rfl)) d_mo_at_196 ⟨Nat.le_of_ble_eq_true rfl, Nat.le_of_ble_eq_true rfl⟩) hD hS hA (fun r11 g10 H locs h hP hD hS => ?_)
          refine lv_l2i (v := r11.toInt32) hx hb d_mo_at_199 rfl ?_
          refine lv_istore_n (lv' := [(3, .int (r11.toInt32)), (13, .long (s0.toInt64 * r9)), (11, .long (s0.toInt64 * r7)), (9, .long (s0.toInt64 * r5)), (8, .int s0), (0, .ref (a 0)), (1, .int v1), (2, .int v2), (4, .int v4), (5, .int v5), (6, .int v6), (7, .int v7)]) hx hb d_mo_at_200 rfl hl (by decide) rfl (fun ls hl => ?_)
          refine lv_aload_n hx hb d_mo_at_201 rfl (lv_at hl 5 rfl) ?_
          refine lv_iconst (v := 0) hx hb d_mo_at_202 (by decide) ?_
          refine va_put (D := (dC, dI)) (ci := 5) (v := .int 0) (ty := .int) (C := R_mo) (T := T_mo) (N := 21) hx hb hts hin__mo ty_mo tok_mo nmd_mo hown hK hP hD hS 0 (wM_0 a cI cZ g10) rfl 0 (by decide) fl_56 (fun _ h9 => h9) rfl (by decide +kernel) rfl rfl (Nat.le_of_ble_eq_true rfl) d_mo_at_203 (fun H locs hP hD hS => ?_)
          obtain ⟨g12, e_g12⟩ : ∃ z : St, z = gp g10 0 0 0 := ⟨_, rfl⟩
          have h := h g12 e_g12
          have hP : va_P (dC, dI) zzCl (wM a cI cZ g12) H := by rw [e_g12]; exact hP
          have hD : va_D A (wM a cI cZ g12) := by rw [e_g12]; exact hD
          refine lv_iinc (k := 8) (v := (v4 + 1)) (lv' := [(4, .int (v4 + 1)), (3, .int (r11.toInt32)), (13, .long (s0.toInt64 * r9)), (11, .long (s0.toInt64 * r7)), (9, .long (s0.toInt64 * r5)), (8, .int s0), (0, .ref (a 0)), (1, .int v1), (2, .int v2), (5, .int v5), (6, .int v6), (7, .int v7)]) hx hb d_mo_at_206 hl rfl rfl (by decide) rfl (fun ls hl => ?_)
          refine lv_goto (tgt := 10) hx hb d_mo_at_209 (by decide) ?_
          exact hK10 _ _ _ _ _ h _ _ _ hP hD hS (lv_sub hl [6, 7, 8, 1, 0] rfl)
  have L10 : ∀ (n : Nat) (v1 : Int32) (v2 : Int32) (v3 : Int32) (v4 : Int32) (g : St) (K212 : Int32 → St → Prop) , (∀ (v3 : Int32) (g : St), K212 v3 g → ∀ (H : Heap) (locs : List Loc) (ls : Array Slot), va_P (dC, dI) zzCl (wM a cI cZ g) H → va_D A (wM a cI cZ g) → va_S A s.heap H locs → lv_has ls 15 [(3, .int v3)] → W p l e (headSpec ww_mo_at rm_mo_at).room s m args below meth c H locs 0 0 (zz_Qi below (dC, dI) (wM a cI cZ) [(cI, .int), (cZ, .boolean)] A post args s) (F0 m 212 ls [])) → lp_mo_at_L10 n v1 v2 v3 v4 g K212 post → ∀ (H : Heap) (locs : List Loc) (ls : Array Slot), va_P (dC, dI) zzCl (wM a cI cZ g) H → va_D A (wM a cI cZ g) → va_S A s.heap H locs → lv_has ls 15 [(0, .ref (a 0)), (1, .int v1), (2, .int v2), (3, .int v3), (4, .int v4)] → W p l e (headSpec ww_mo_at rm_mo_at).room s m args below meth c H locs 0 0 (zz_Qi below (dC, dI) (wM a cI cZ) [(cI, .int), (cZ, .boolean)] A post args s) (F0 m 10 ls []) := by
    intro n
    induction n with
    | zero => intro v1 v2 v3 v4 g K212 hK212 h; exact h.elim
    | succ n ih =>
      intro v1 v2 v3 v4 g K212 hK212 h H locs ls hP hD hS hl
      unfold lp_mo_at_L10 at h
      refine lv_iload hx hb d_mo_at_10 (lv_at hl 4 rfl) ?_
      refine lv_aload_n hx hb d_mo_at_12 rfl (lv_at hl 0 rfl) ?_
      refine va_get (D := (dC, dI)) (ci := 5) (v := .int (g 0 5)) (C := R_mo) (T := T_mo) (N := 21) hx hb hts hin__mo hown hK hP 0 (wM_0 a cI cZ g) rfl 5 (by decide) fl_92 (fun _ h9 => h9) rfl d_mo_at_13 ?_
      refine lv_icmp_ge (tgt := 212) hx hb d_mo_at_16 (by decide) (fun hc => ?_) (fun hc => ?_)
      · have h := h.1 hc
        exact hK212 _ _ h _ _ _ hP hD hS (lv_sub hl [3] rfl)
      · have h := h.2 hc
        refine lv_aload_n hx hb d_mo_at_19 rfl (lv_at hl 0 rfl) ?_
        refine va_get (D := (dC, dI)) (ci := 5) (v := .int (g 0 0)) (C := R_mo) (T := T_mo) (N := 21) hx hb hts hin__mo hown hK hP 0 (wM_0 a cI cZ g) rfl 0 (by decide) fl_56 (fun _ h9 => h9) rfl d_mo_at_20 ?_
        refine lv_iconst (v := 1) hx hb d_mo_at_23 (by decide) ?_
        refine lv_icmp_ne (tgt := 212) hx hb d_mo_at_24 (by decide) (fun hc => ?_) (fun hc => ?_)
        · have h := h.1 hc
          exact hK212 _ _ h _ _ _ hP hD hS (lv_sub hl [3] rfl)
        · have h := h.2 hc
          refine lv_aload_n hx hb d_mo_at_27 rfl (lv_at hl 0 rfl) ?_
          refine va_get (D := (dC, dI)) (ci := 5) (v := .ref (a 4)) (C := R_mo) (T := T_mo) (N := 21) hx hb hts hin__mo hown hK hP 0 (wM_0 a cI cZ g) rfl 6 (by decide) fl_19 (fun _ h9 => h9) rfl d_mo_at_28 ?_
          refine lv_iconst (v := 3) hx hb d_mo_at_31 (by decide) ?_
          refine lv_iload hx hb d_mo_at_32 (lv_at hl 4 rfl) ?_
          refine lv_imul hx hb d_mo_at_34 ?_
          refine va_iald hx hb hK hP 4 0 (wM_4 a cI cZ g) rfl h.1 d_mo_at_35 ?_
          have h := h.2
          refine lv_istore (lv' := [(5, .int (g 4 (ix (3 * v4)))), (0, .ref (a 0)), (1, .int v1), (2, .int v2), (3, .int v3), (4, .int v4)]) hx hb d_mo_at_36 hl (by decide) rfl (fun ls hl => ?_)
          refine lv_aload_n hx hb d_mo_at_38 rfl (lv_at hl 1 rfl) ?_
          refine va_get (D := (dC, dI)) (ci := 5) (v := .ref (a 4)) (C := R_mo) (T := T_mo) (N := 21) hx hb hts hin__mo hown hK hP 0 (wM_0 a cI cZ g) rfl 6 (by decide) fl_19 (fun _ h9 => h9) rfl d_mo_at_39 ?_
          refine lv_iconst (v := 3) hx hb d_mo_at_42 (by decide) ?_
          refine lv_iload hx hb d_mo_at_43 (lv_at hl 5 rfl) ?_
          refine lv_imul hx hb d_mo_at_45 ?_
          refine lv_iconst (v := 1) hx hb d_mo_at_46 (by decide) ?_
          refine lv_iadd hx hb d_mo_at_47 ?_
          refine va_iald hx hb hK hP 4 0 (wM_4 a cI cZ g) rfl h.1 d_mo_at_48 ?_
          have h := h.2
          refine lv_istore (lv' := [(6, .int (g 4 (ix ((3 * v4) + 1)))), (5, .int (g 4 (ix (3 * v4)))), (0, .ref (a 0)), (1, .int v1), (2, .int v2), (3, .int v3), (4, .int v4)]) hx hb d_mo_at_49 hl (by decide) rfl (fun ls hl => ?_)
          refine lv_aload_n hx hb d_mo_at_51 rfl (lv_at hl 2 rfl) ?_
          refine va_get (D := (dC, dI)) (ci := 5) (v := .ref (a 4)) (C := R_mo) (T := T_mo) (N := 21) hx hb hts hin__mo hown hK hP 0 (wM_0 a cI cZ g) rfl 6 (by decide) fl_19 (fun _ h9 => h9) rfl d_mo_at_52 ?_
          refine lv_iconst (v := 3) hx hb d_mo_at_55 (by decide) ?_
          refine lv_iload hx hb d_mo_at_56 (lv_at hl 6 rfl) ?_
          refine lv_imul hx hb d_mo_at_58 ?_
          refine lv_iconst (v := 2) hx hb d_mo_at_59 (by decide) ?_
          refine lv_iadd hx hb d_mo_at_60 ?_
          refine va_iald hx hb hK hP 4 0 (wM_4 a cI cZ g) rfl h.1 d_mo_at_61 ?_
          have h := h.2
          refine lv_istore (lv' := [(7, .int (g 4 (ix ((3 * v4) + 2)))), (6, .int (g 4 (ix ((3 * v4) + 1)))), (5, .int (g 4 (ix (3 * v4)))), (0, .ref (a 0)), (1, .int v1), (2, .int v2), (3, .int v3), (4, .int v4)]) hx hb d_mo_at_62 hl (by decide) rfl (fun ls hl => ?_)
          refine lv_aload_n hx hb d_mo_at_64 rfl (lv_at hl 3 rfl) ?_
          refine lv_iload hx hb d_mo_at_65 (lv_at hl 2 rfl) ?_
          refine lv_iload hx hb d_mo_at_67 (lv_at hl 1 rfl) ?_
          refine lv_iload hx hb d_mo_at_69 (lv_at hl 0 rfl) ?_
          refine zz_ci (va_runV (As := [.int (g 4 (ix (3 * v4))), .int (g 4 (ix ((3 * v4) + 1))), .int (g 4 (ix ((3 * v4) + 2)))]) (rest := []) ⟨hx, hb, hml, hown, hts⟩ (mc_mo_turn l dC dI a cI cZ _ (g 4 (ix (3 * v4))) (g 4 (ix ((3 * v4) + 1))) (g 4 (ix ((3 * v4) + 2))) g _ h) (zz_cwV 3 hts (zz_good wm_257) rfl rfl rfl wm_259 wm_260 wm_261 wm_258 (by decide +kernel) ⟨Nat.le_of_ble_eq_true rfl, Nat.le_of_ble_eq_true rfl⟩) ⟨zz_blind, (va_recv hK hP rfl (wM_0 a cI cZ g)), zz_pre hP hK hD hN⟩ rfl rfl hl.1 rfl (lv_room (Nat.le_of_ble_eq_true rfl)) d_mo_at_71 ⟨Nat.le_of_ble_eq_true rfl, Nat.le_of_ble_eq_true rfl⟩) hD hS hA (fun r3 g2 H locs h hP hD hS => ?_)
          refine lv_if_le (tgt := 81) hx hb d_mo_at_74 (by decide) (fun hc => ?_) (fun hc => ?_)
          · have h := h.1 hc
            refine lv_iconst (v := (-1)) hx hb d_mo_at_81 (by decide) ?_
            refine J82 _ _ _ _ _ _ _ _ _ _ (fun w14 w15 w16 w17 g13 h H locs ls hP hD hS hl => ?_) h _ _ _ hP hD hS (lv_sub hl [3, 4, 5, 6, 7, 2, 1, 0] rfl)
            exact ih _ _ _ _ _ _ hK212 h _ _ _ hP hD hS (lv_sub hl [0, 1, 2, 3, 4] rfl)
          · have h := h.2 hc
            refine lv_iconst (v := 1) hx hb d_mo_at_77 (by decide) ?_
            refine lv_goto (tgt := 82) hx hb d_mo_at_78 (by decide) ?_
            refine J82 _ _ _ _ _ _ _ _ _ _ (fun w19 w20 w21 w22 g18 h H locs ls hP hD hS hl => ?_) h _ _ _ hP hD hS (lv_sub hl [3, 4, 5, 6, 7, 2, 1, 0] rfl)
            exact ih _ _ _ _ _ _ hK212 h _ _ _ hP hD hS (lv_sub hl [0, 1, 2, 3, 4] rfl)
  unfold wp_mo_at at h
  refine lv_aload_n hx hb d_mo_at_0 rfl (lv_at hl 0 rfl) ?_
  refine lv_iconst (v := 1) hx hb d_mo_at_1 (by decide) ?_
  refine va_put (D := (dC, dI)) (ci := 5) (v := .int 1) (ty := .int) (C := R_mo) (T := T_mo) (N := 21) hx hb hts hin__mo ty_mo tok_mo nmd_mo hown hK hP hD hS 0 (wM_0 a cI cZ g) rfl 0 (by decide) fl_56 (fun _ h9 => h9) rfl (by decide +kernel) rfl rfl (Nat.le_of_ble_eq_true rfl) d_mo_at_2 (fun H locs hP hD hS => ?_)
  obtain ⟨g1, e_g1⟩ : ∃ z : St, z = gp g 0 0 1 := ⟨_, rfl⟩
  have h := h g1 e_g1
  have hP : va_P (dC, dI) zzCl (wM a cI cZ g1) H := by rw [e_g1]; exact hP
  have hD : va_D A (wM a cI cZ g1) := by rw [e_g1]; exact hD
  refine lv_iconst (v := 0) hx hb d_mo_at_5 (by decide) ?_
  refine lv_istore_n (lv' := [(3, .int 0), (0, .ref (a 0)), (1, .int x1), (2, .int x2)]) hx hb d_mo_at_6 rfl hl (by decide) rfl (fun ls hl => ?_)
  refine lv_iconst (v := 0) hx hb d_mo_at_7 (by decide) ?_
  refine lv_istore (lv' := [(4, .int 0), (3, .int 0), (0, .ref (a 0)), (1, .int x1), (2, .int x2)]) hx hb d_mo_at_8 hl (by decide) rfl (fun ls hl => ?_)
  obtain ⟨n10, h⟩ := h
  refine L10 n10 _ _ _ _ _ _ (fun w24 g23 h H locs ls hP hD hS hl => ?_) h _ _ _ hP hD hS (lv_sub hl [2, 3, 4, 1, 0] rfl)
  refine lv_iload_n hx hb d_mo_at_212 rfl (lv_at hl 0 rfl) ?_
  exact W.iret (v := w24) hx hb hr (fun t ht hW => ⟨⟨w24, g23, rfl, h, by rw [ht]; exact hP, va_K.moved hW.alike hK, hD⟩, hS.F ht⟩) hS.2.2 d_mo_at_213
abbrev rm_mo_isHigh : Room := { frames := 0, cells := 0, slots := 0, locals := 0 }
set_option maxHeartbeats 4000000 in
set_option maxRecDepth 100000 in
theorem mc_mo_isHigh (l : Launch) (dC : Nat → ClassId) (dI : Nat → Nat → Nat) (a : Nat → Nat) (cI cZ : ClassId) (sz : Nat) (x1 : Int32) (x2 : Int32) (g : St) (post : Int32 → St → Prop) (h : wp_mo_isHigh x1 x2 g post) : Met l yy_mo_isHigh ww_mo_isHigh rm_mo_isHigh (zz_Pre (dC, dI) (wM a cI cZ) [(cI, .int), (cZ, .boolean)] [.ref (a 0), .int x1, .int x2] g sz) (va_Qi post (zz_W (dC, dI) (wM a cI cZ) [(cI, .int), (cZ, .boolean)] (va_A (wM a cI cZ g) sz)) (va_A (wM a cI cZ g) sz)) 0 0 (va_A (wM a cI cZ g) sz) := by
  refine Met.ofW (cc := cc_mo_isHigh) (maxL := 3) (ret := (some .boolean)) (by decide) rfl ?_
  intro p e s m args below meth c s₁ B hml hv
  obtain ⟨hav, hsz, hP, hK, hD0, hN⟩ := hv
  have hx := B.exec
  have hb := B.bytes
  have hr := B.returns
  have hts := atoms_spec (ws := ww_mo_isHigh) B.pre
  have hown : s.vm.findClass "SpotContoursModel" = some m.cls := findClass_of_methodNamed B.named
  have hlocks := B.notSynchronized
  subst hsz
  have hD := hD0.self (sz := s.heap.size)
  generalize hAe : va_A (wM a cI cZ g) s.heap.size = A at hD ⊢
  have hA : ∀ q : Nat, s.heap.size ≤ q → A q := fun q h => by rw [← hAe]; exact Or.inr h
  have hS : va_S A s.heap s.heap [] := va_S.rf
  have he9 := lg_entry_eq m [.ref (a 0), .int x1, .int x2] 3
  rw [← hav] at he9
  rw [he9]
  have hl := lv_entry [.ref (a 0), .int x1, .int x2] (n := 3) (Nat.le_of_ble_eq_true rfl)
  generalize (lg_sl [.ref (a 0), .int x1, .int x2] ++ List.replicate (3 - (lg_sl [.ref (a 0), .int x1, .int x2]).length) Slot.unset).toArray = ls at hl ⊢
  have hl : lv_has ls 3 [(0, .ref (a 0)), (1, .int x1), (2, .int x2)] := hl
  have hin__mo : ∀ w ∈ u_ws R_mo T_mo 21, w ∈ ww_mo_isHigh := fun w h => zz_in (hin0_mo w h)
  have fl_16 := hts (.fieldLink "SpotContoursModel" 16 "SpotContoursModel" "zs" "[I") (zz_in wm_383)
  unfold wp_mo_isHigh at h
  refine lv_aload_n hx hb d_mo_isHigh_0 rfl (lv_at hl 0 rfl) ?_
  refine va_get (D := (dC, dI)) (ci := 5) (v := .ref (a 3)) (C := R_mo) (T := T_mo) (N := 21) hx hb hts hin__mo hown hK hP 0 (wM_0 a cI cZ g) rfl 4 (by decide) fl_16 (fun _ h9 => h9) rfl d_mo_isHigh_1 ?_
  refine lv_iload_n hx hb d_mo_isHigh_4 rfl (lv_at hl 1 rfl) ?_
  refine va_iald hx hb hK hP 3 0 (wM_3 a cI cZ g) rfl h.1 d_mo_isHigh_5 ?_
  have h := h.2
  refine lv_iload_n hx hb d_mo_isHigh_6 rfl (lv_at hl 2 rfl) ?_
  refine lv_icmp_le (tgt := 14) hx hb d_mo_isHigh_7 (by decide) (fun hc => ?_) (fun hc => ?_)
  · have h := h.1 hc
    refine lv_iconst (v := 0) hx hb d_mo_isHigh_14 (by decide) ?_
    exact W.zret (v := 0) hx hb hr (by decide) (fun t ht hW => ⟨⟨0, g, rfl, h, by rw [ht]; exact hP, va_K.moved hW.alike hK, hD⟩, hS.F ht⟩) hS.2.2 d_mo_isHigh_15
  · have h := h.2 hc
    refine lv_iconst (v := 1) hx hb d_mo_isHigh_10 (by decide) ?_
    refine lv_goto (tgt := 15) hx hb d_mo_isHigh_11 (by decide) ?_
    exact W.zret (v := 1) hx hb hr (by decide) (fun t ht hW => ⟨⟨1, g, rfl, h, by rw [ht]; exact hP, va_K.moved hW.alike hK, hD⟩, hS.F ht⟩) hS.2.2 d_mo_isHigh_15
abbrev rm_mo_edgeOf : Room := { frames := 0, cells := 0, slots := 0, locals := 0 }
set_option maxHeartbeats 4000000 in
set_option maxRecDepth 100000 in
theorem mc_mo_edgeOf (l : Launch) (dC : Nat → ClassId) (dI : Nat → Nat → Nat) (a : Nat → Nat) (cI cZ : ClassId) (sz : Nat) (x0 : Int32) (x1 : Int32) (g : St) (post : Int32 → St → Prop) (h : wp_mo_edgeOf x0 x1 g post) : Met l yy_mo_edgeOf ww_mo_edgeOf rm_mo_edgeOf (zz_Pre (dC, dI) (wM a cI cZ) [(cI, .int), (cZ, .boolean)] [.int x0, .int x1] g sz) (va_Qi post (zz_W (dC, dI) (wM a cI cZ) [(cI, .int), (cZ, .boolean)] (va_A (wM a cI cZ g) sz)) (va_A (wM a cI cZ g) sz)) 0 0 (va_A (wM a cI cZ g) sz) := by
  refine Met.ofW (cc := cc_mo_edgeOf) (maxL := 2) (ret := (some .int)) (by decide) rfl ?_
  intro p e s m args below meth c s₁ B hml hv
  obtain ⟨hav, hsz, hP, hK, hD0, hN⟩ := hv
  have hx := B.exec
  have hb := B.bytes
  have hr := B.returns
  have hts := atoms_spec (ws := ww_mo_edgeOf) B.pre
  have hown : s.vm.findClass "SpotContoursModel" = some m.cls := findClass_of_methodNamed B.named
  have hlocks := B.notSynchronized
  subst hsz
  have hD := hD0.self (sz := s.heap.size)
  generalize hAe : va_A (wM a cI cZ g) s.heap.size = A at hD ⊢
  have hA : ∀ q : Nat, s.heap.size ≤ q → A q := fun q h => by rw [← hAe]; exact Or.inr h
  have hS : va_S A s.heap s.heap [] := va_S.rf
  have he9 := lg_entry_eq m [.int x0, .int x1] 2
  rw [← hav] at he9
  rw [he9]
  have hl := lv_entry [.int x0, .int x1] (n := 2) (Nat.le_of_ble_eq_true rfl)
  generalize (lg_sl [.int x0, .int x1] ++ List.replicate (2 - (lg_sl [.int x0, .int x1]).length) Slot.unset).toArray = ls at hl ⊢
  have hl : lv_has ls 2 [(0, .int x0), (1, .int x1)] := hl
  unfold wp_mo_edgeOf at h
  refine lv_iload_n hx hb d_mo_edgeOf_0 rfl (lv_at hl 0 rfl) ?_
  refine lv_iload_n hx hb d_mo_edgeOf_1 rfl (lv_at hl 1 rfl) ?_
  refine lv_icmp_ge (tgt := 14) hx hb d_mo_edgeOf_2 (by decide) (fun hc => ?_) (fun hc => ?_)
  · have h := h.1 hc
    refine lv_bipush (v := 16) hx hb d_mo_edgeOf_14 (by decide) ?_
    refine lv_iload_n hx hb d_mo_edgeOf_16 rfl (lv_at hl 1 rfl) ?_
    refine lv_imul hx hb d_mo_edgeOf_17 ?_
    refine lv_iload_n hx hb d_mo_edgeOf_18 rfl (lv_at hl 0 rfl) ?_
    refine lv_iadd hx hb d_mo_edgeOf_19 ?_
    exact W.iret (v := ((16 * x1) + x0)) hx hb hr (fun t ht hW => ⟨⟨((16 * x1) + x0), g, rfl, h, by rw [ht]; exact hP, va_K.moved hW.alike hK, hD⟩, hS.F ht⟩) hS.2.2 d_mo_edgeOf_20
  · have h := h.2 hc
    refine lv_bipush (v := 16) hx hb d_mo_edgeOf_5 (by decide) ?_
    refine lv_iload_n hx hb d_mo_edgeOf_7 rfl (lv_at hl 0 rfl) ?_
    refine lv_imul hx hb d_mo_edgeOf_8 ?_
    refine lv_iload_n hx hb d_mo_edgeOf_9 rfl (lv_at hl 1 rfl) ?_
    refine lv_iadd hx hb d_mo_edgeOf_10 ?_
    refine lv_goto (tgt := 20) hx hb d_mo_edgeOf_11 (by decide) ?_
    exact W.iret (v := ((16 * x0) + x1)) hx hb hr (fun t ht hW => ⟨⟨((16 * x0) + x1), g, rfl, h, by rw [ht]; exact hP, va_K.moved hW.alike hK, hD⟩, hS.F ht⟩) hS.2.2 d_mo_edgeOf_20
abbrev rm_mo_join : Room := { frames := 1, cells := 0, slots := 0, locals := 23 }
set_option maxHeartbeats 4000000 in
set_option maxRecDepth 100000 in
theorem mc_mo_join (l : Launch) (dC : Nat → ClassId) (dI : Nat → Nat → Nat) (a : Nat → Nat) (cI cZ : ClassId) (sz : Nat) (x1 : Int32) (x2 : Int32) (x3 : Int32) (x4 : Int32) (g : St) (post : St → Prop) (h : wp_mo_join x1 x2 x3 x4 g post) : Met l yy_mo_join ww_mo_join rm_mo_join (zz_Pre (dC, dI) (wM a cI cZ) [(cI, .int), (cZ, .boolean)] [.ref (a 0), .int x1, .int x2, .int x3, .int x4] g sz) (va_Qv post (zz_W (dC, dI) (wM a cI cZ) [(cI, .int), (cZ, .boolean)] (va_A (wM a cI cZ g) sz)) (va_A (wM a cI cZ g) sz)) 0 0 (va_A (wM a cI cZ g) sz) := by
  refine Met.ofW (cc := cc_mo_join) (maxL := 6) (ret := none) (by decide) rfl ?_
  intro p e s m args below meth c s₁ B hml hv
  obtain ⟨hav, hsz, hP, hK, hD0, hN⟩ := hv
  have hx := B.exec
  have hb := B.bytes
  have hr := B.returns
  have hts := atoms_spec (ws := ww_mo_join) B.pre
  have hown : s.vm.findClass "SpotContoursModel" = some m.cls := findClass_of_methodNamed B.named
  have hlocks := B.notSynchronized
  subst hsz
  have hD := hD0.self (sz := s.heap.size)
  generalize hAe : va_A (wM a cI cZ g) s.heap.size = A at hD ⊢
  have hA : ∀ q : Nat, s.heap.size ≤ q → A q := fun q h => by rw [← hAe]; exact Or.inr h
  have hS : va_S A s.heap s.heap [] := va_S.rf
  have he9 := lg_entry_eq m [.ref (a 0), .int x1, .int x2, .int x3, .int x4] 6
  rw [← hav] at he9
  rw [he9]
  have hl := lv_entry [.ref (a 0), .int x1, .int x2, .int x3, .int x4] (n := 6) (Nat.le_of_ble_eq_true rfl)
  generalize (lg_sl [.ref (a 0), .int x1, .int x2, .int x3, .int x4] ++ List.replicate (6 - (lg_sl [.ref (a 0), .int x1, .int x2, .int x3, .int x4]).length) Slot.unset).toArray = ls at hl ⊢
  have hl : lv_has ls 6 [(0, .ref (a 0)), (1, .int x1), (2, .int x2), (3, .int x3), (4, .int x4)] := hl
  have hin__mo : ∀ w ∈ u_ws R_mo T_mo 21, w ∈ ww_mo_join := fun w h => zz_in (hin0_mo w h)
  have fl_26 := hts (.fieldLink "SpotContoursModel" 26 "SpotContoursModel" "nexts" "[I") (zz_in wm_385)
  have fl_29 := hts (.fieldLink "SpotContoursModel" 29 "SpotContoursModel" "befores" "[I") (zz_in wm_386)
  have J34 : ∀ (v1 : Int32) (v2 : Int32) (s0 : Int32) (g : St), jn_mo_join_J34 v1 v2 s0 g post → ∀ (H : Heap) (locs : List Loc) (ls : Array Slot), va_P (dC, dI) zzCl (wM a cI cZ g) H → va_D A (wM a cI cZ g) → va_S A s.heap H locs → lv_has ls 6 [(0, .ref (a 0)), (1, .int v1), (2, .int v2)] → W p l e (headSpec ww_mo_join rm_mo_join).room s m args below meth c H locs 0 0 (zz_Qv below (dC, dI) (wM a cI cZ) [(cI, .int), (cZ, .boolean)] A post args s) (F0 m 34 ls [.int s0]) := by
    intro v1 v2 s0 g h H locs ls hP hD hS hl
    unfold jn_mo_join_J34 at h
    refine lv_istore (lv' := [(5, .int s0), (0, .ref (a 0)), (1, .int v1), (2, .int v2)]) hx hb d_mo_join_34 hl (by decide) rfl (fun ls hl => ?_)
    refine lv_aload_n hx hb d_mo_join_36 rfl (lv_at hl 1 rfl) ?_
    refine va_get (D := (dC, dI)) (ci := 5) (v := .ref (a 6)) (C := R_mo) (T := T_mo) (N := 21) hx hb hts hin__mo hown hK hP 0 (wM_0 a cI cZ g) rfl 8 (by decide) fl_26 (fun _ h9 => h9) rfl d_mo_join_37 ?_
    refine lv_iload_n hx hb d_mo_join_40 rfl (lv_at hl 2 rfl) ?_
    refine lv_iload_n hx hb d_mo_join_41 rfl (lv_at hl 3 rfl) ?_
    refine zz_ci (va_runS (As := [.int v1, .int v2]) (rest := [.ref (a 6)]) ⟨hx, hb, hml, hown, hts⟩ (mc_mo_edgeOf l dC dI a cI cZ _ v1 v2 g _ h) (zz_cwS 2 hts (zz_good wm_301) rfl rfl rfl wm_302 wm_303 wm_258 (by decide +kernel) ⟨Nat.le_of_ble_eq_true rfl, Nat.le_of_ble_eq_true rfl⟩) ⟨zz_blind, zz_pre hP hK hD hN⟩ rfl rfl hl.1 rfl (lv_room (Nat.le_of_ble_eq_true rfl)) d_mo_join_42 ⟨Nat.le_of_ble_eq_true rfl, Nat.le_of_ble_eq_true rfl⟩) hD hS hA (fun r8 g7 H locs h hP hD hS => ?_)
    refine lv_iload hx hb d_mo_join_45 (lv_at hl 0 rfl) ?_
    refine va_iast hx hb hK hP hD hS 6 0 (wM_6 a cI cZ g7) rfl h.1 d_mo_join_47 (fun H locs hP hD hS => ?_)
    obtain ⟨g9, e_g9⟩ : ∃ z : St, z = gp g7 6 (ix r8) s0 := ⟨_, rfl⟩
    have h := h.2 g9 e_g9
    have hP : va_P (dC, dI) zzCl (wM a cI cZ g9) H := by rw [e_g9]; exact hP
    have hD : va_D A (wM a cI cZ g9) := by rw [e_g9]; exact hD
    refine lv_aload_n hx hb d_mo_join_48 rfl (lv_at hl 1 rfl) ?_
    refine va_get (D := (dC, dI)) (ci := 5) (v := .ref (a 7)) (C := R_mo) (T := T_mo) (N := 21) hx hb hts hin__mo hown hK hP 0 (wM_0 a cI cZ g9) rfl 9 (by decide) fl_29 (fun _ h9 => h9) rfl d_mo_join_49 ?_
    refine lv_iload hx hb d_mo_join_52 (lv_at hl 0 rfl) ?_
    refine lv_iload_n hx hb d_mo_join_54 rfl (lv_at hl 2 rfl) ?_
    refine lv_iload_n hx hb d_mo_join_55 rfl (lv_at hl 3 rfl) ?_
    refine zz_ci (va_runS (As := [.int v1, .int v2]) (rest := [.int s0, .ref (a 7)]) ⟨hx, hb, hml, hown, hts⟩ (mc_mo_edgeOf l dC dI a cI cZ _ v1 v2 g9 _ h) (zz_cwS 2 hts (zz_good wm_301) rfl rfl rfl wm_302 wm_303 wm_258 (by decide +kernel) ⟨Nat.le_of_ble_eq_true rfl, Nat.le_of_ble_eq_true rfl⟩) ⟨zz_blind, zz_pre hP hK hD hN⟩ rfl rfl hl.1 rfl (lv_room (Nat.le_of_ble_eq_true rfl)) d_mo_join_56 ⟨Nat.le_of_ble_eq_true rfl, Nat.le_of_ble_eq_true rfl⟩) hD hS hA (fun r11 g10 H locs h hP hD hS => ?_)
    refine va_iast hx hb hK hP hD hS 7 0 (wM_7 a cI cZ g10) rfl h.1 d_mo_join_59 (fun H locs hP hD hS => ?_)
    obtain ⟨g12, e_g12⟩ : ∃ z : St, z = gp g10 7 (ix s0) r11 := ⟨_, rfl⟩
    have h := h.2 g12 e_g12
    have hP : va_P (dC, dI) zzCl (wM a cI cZ g12) H := by rw [e_g12]; exact hP
    have hD : va_D A (wM a cI cZ g12) := by rw [e_g12]; exact hD
    exact W.vret hx hb hr (fun t ht hW => ⟨⟨g12, rfl, h, by rw [ht]; exact hP, va_K.moved hW.alike hK, hD⟩, hS.F ht⟩) hS.2.2 d_mo_join_60
  unfold wp_mo_join at h
  refine lv_aload_n hx hb d_mo_join_0 rfl (lv_at hl 0 rfl) ?_
  refine lv_iload_n hx hb d_mo_join_1 rfl (lv_at hl 2 rfl) ?_
  refine lv_iload_n hx hb d_mo_join_2 rfl (lv_at hl 1 rfl) ?_
  refine lv_iload_n hx hb d_mo_join_3 rfl (lv_at hl 3 rfl) ?_
  refine zz_ci (va_runV (As := [.int x2, .int x1, .int x3]) (rest := []) ⟨hx, hb, hml, hown, hts⟩ (mc_mo_turn l dC dI a cI cZ _ x2 x1 x3 g _ h) (zz_cwV 3 hts (zz_good wm_257) rfl rfl rfl wm_259 wm_260 wm_261 wm_258 (by decide +kernel) ⟨Nat.le_of_ble_eq_true rfl, Nat.le_of_ble_eq_true rfl⟩) ⟨zz_blind, (va_recv hK hP rfl (wM_0 a cI cZ g)), zz_pre hP hK hD hN⟩ rfl rfl hl.1 rfl (lv_room (Nat.le_of_ble_eq_true rfl)) d_mo_join_4 ⟨Nat.le_of_ble_eq_true rfl, Nat.le_of_ble_eq_true rfl⟩) hD hS hA (fun r2 g1 H locs h hP hD hS => ?_)
  refine lv_if_lt (tgt := 11) hx hb d_mo_join_7 (by decide) (fun hc => ?_) (fun hc => ?_)
  · have h := h.1 hc
    refine lv_aload_n hx hb d_mo_join_11 rfl (lv_at hl 0 rfl) ?_
    refine lv_iload_n hx hb d_mo_join_12 rfl (lv_at hl 3 rfl) ?_
    refine lv_iload hx hb d_mo_join_13 (lv_at hl 4 rfl) ?_
    refine zz_ci (va_runV (As := [.int x3, .int x4]) (rest := []) ⟨hx, hb, hml, hown, hts⟩ (mc_mo_isHigh l dC dI a cI cZ _ x3 x4 g1 _ h) (zz_cwV 2 hts (zz_good wm_304) rfl rfl rfl wm_305 wm_306 wm_307 wm_258 (by decide +kernel) ⟨Nat.le_of_ble_eq_true rfl, Nat.le_of_ble_eq_true rfl⟩) ⟨zz_blind, (va_recv hK hP rfl (wM_0 a cI cZ g1)), zz_pre hP hK hD hN⟩ rfl rfl hl.1 rfl (lv_room (Nat.le_of_ble_eq_true rfl)) d_mo_join_15 ⟨Nat.le_of_ble_eq_true rfl, Nat.le_of_ble_eq_true rfl⟩) hD hS hA (fun r4 g3 H locs h hP hD hS => ?_)
    refine lv_if_eq (tgt := 29) hx hb d_mo_join_18 (by decide) (fun hc => ?_) (fun hc => ?_)
    · have h := h.1 hc
      refine lv_iload_n hx hb d_mo_join_29 rfl (lv_at hl 1 rfl) ?_
      refine lv_iload_n hx hb d_mo_join_30 rfl (lv_at hl 3 rfl) ?_
      refine zz_ci (va_runS (As := [.int x1, .int x3]) (rest := []) ⟨hx, hb, hml, hown, hts⟩ (mc_mo_edgeOf l dC dI a cI cZ _ x1 x3 g3 _ h) (zz_cwS 2 hts (zz_good wm_301) rfl rfl rfl wm_302 wm_303 wm_258 (by decide +kernel) ⟨Nat.le_of_ble_eq_true rfl, Nat.le_of_ble_eq_true rfl⟩) ⟨zz_blind, zz_pre hP hK hD hN⟩ rfl rfl hl.1 rfl (lv_room (Nat.le_of_ble_eq_true rfl)) d_mo_join_31 ⟨Nat.le_of_ble_eq_true rfl, Nat.le_of_ble_eq_true rfl⟩) hD hS hA (fun r6 g5 H locs h hP hD hS => ?_)
      exact J34 _ _ _ _ h _ _ _ hP hD hS (lv_sub hl [0, 1, 2] rfl)
    · have h := h.2 hc
      refine lv_iload_n hx hb d_mo_join_21 rfl (lv_at hl 3 rfl) ?_
      refine lv_iload_n hx hb d_mo_join_22 rfl (lv_at hl 2 rfl) ?_
      refine zz_ci (va_runS (As := [.int x3, .int x2]) (rest := []) ⟨hx, hb, hml, hown, hts⟩ (mc_mo_edgeOf l dC dI a cI cZ _ x3 x2 g3 _ h) (zz_cwS 2 hts (zz_good wm_301) rfl rfl rfl wm_302 wm_303 wm_258 (by decide +kernel) ⟨Nat.le_of_ble_eq_true rfl, Nat.le_of_ble_eq_true rfl⟩) ⟨zz_blind, zz_pre hP hK hD hN⟩ rfl rfl hl.1 rfl (lv_room (Nat.le_of_ble_eq_true rfl)) d_mo_join_23 ⟨Nat.le_of_ble_eq_true rfl, Nat.le_of_ble_eq_true rfl⟩) hD hS hA (fun r14 g13 H locs h hP hD hS => ?_)
      refine lv_goto (tgt := 34) hx hb d_mo_join_26 (by decide) ?_
      exact J34 _ _ _ _ h _ _ _ hP hD hS (lv_sub hl [0, 1, 2] rfl)
  · have h := h.2 hc
    exact W.vret hx hb hr (fun t ht hW => ⟨⟨g1, rfl, h, by rw [ht]; exact hP, va_K.moved hW.alike hK, hD⟩, hS.F ht⟩) hS.2.2 d_mo_join_10
