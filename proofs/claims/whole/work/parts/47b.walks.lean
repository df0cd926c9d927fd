/-! Contracts by their walks, printed. -/
abbrev rm_li_beginning : Room := { frames := 2, cells := 0, slots := 0, locals := 47 }
set_option maxHeartbeats 4000000 in
set_option maxRecDepth 100000 in
theorem mc_li_beginning (l : Launch) (dC : Nat → ClassId) (dI : Nat → Nat → Nat) (a : Nat → Nat) (cI cZ : ClassId) (sz : Nat) (x2 : Int32) (g : St) (post : Int32 → St → Prop) (h : wp_li_beginning x2 g post) : Met l yy_li_beginning ww_li_beginning rm_li_beginning (zz_Pre (dC, dI) (wC a cI cZ) [(cI, .int), (cZ, .boolean)] [.ref (a 3), .ref (a 2), .int x2] g sz) (va_Qi post (zz_W (dC, dI) (wC a cI cZ) [(cI, .int), (cZ, .boolean)] (va_A (wC a cI cZ g) sz)) (va_A (wC a cI cZ g) sz)) 0 0 (va_A (wC a cI cZ g) sz) := by
  refine Met.ofW (cc := cc_li_beginning) (maxL := 6) (ret := (some .int)) (by decide) rfl ?_
  intro p e s m args below meth c s₁ B hml hv
  obtain ⟨hav, hsz, hP, hK, hD0, hN⟩ := hv
  have hx := B.exec
  have hb := B.bytes
  have hr := B.returns
  have hts := atoms_spec (ws := ww_li_beginning) B.pre
  have hown : s.vm.findClass "SpotContours$Lines" = some m.cls := findClass_of_methodNamed B.named
  have hlocks := B.notSynchronized
  subst hsz
  have hD := hD0.self (sz := s.heap.size)
  generalize hAe : va_A (wC a cI cZ g) s.heap.size = A at hD ⊢
  have hA : ∀ q : Nat, s.heap.size ≤ q → A q := fun q h => by rw [← hAe]; exact Or.inr h
  have hS : va_S A s.heap s.heap [] := va_S.rf
  have he9 := lg_entry_eq m [.ref (a 3), .ref (a 2), .int x2] 6
  rw [← hav] at he9
  rw [he9]
  have hl := lv_entry [.ref (a 3), .ref (a 2), .int x2] (n := 6) (Nat.le_of_ble_eq_true rfl)
  generalize (lg_sl [.ref (a 3), .ref (a 2), .int x2] ++ List.replicate (6 - (lg_sl [.ref (a 3), .ref (a 2), .int x2]).length) Slot.unset).toArray = ls at hl ⊢
  have hl : lv_has ls 6 [(0, .ref (a 3)), (1, .ref (a 2)), (2, .int x2)] := hl
  have L5 : ∀ (n : Nat) (v2 : Int32) (v3 : Int32) (v4 : Int32) (g : St) (K45 : Int32 → St → Prop) , (∀ (v2 : Int32) (g : St), K45 v2 g → ∀ (H : Heap) (locs : List Loc) (ls : Array Slot), va_P (dC, dI) zzCl (wC a cI cZ g) H → va_D A (wC a cI cZ g) → va_S A s.heap H locs → lv_has ls 6 [(2, .int v2)] → W p l e (headSpec ww_li_beginning rm_li_beginning).room s m args below meth c H locs 0 0 (zz_Qi below (dC, dI) (wC a cI cZ) [(cI, .int), (cZ, .boolean)] A post args s) (F0 m 45 ls [])) → lp_li_beginning_L5 n v2 v3 v4 g K45 post → ∀ (H : Heap) (locs : List Loc) (ls : Array Slot), va_P (dC, dI) zzCl (wC a cI cZ g) H → va_D A (wC a cI cZ g) → va_S A s.heap H locs → lv_has ls 6 [(0, .ref (a 3)), (1, .ref (a 2)), (2, .int v2), (3, .int v3), (4, .int v4)] → W p l e (headSpec ww_li_beginning rm_li_beginning).room s m args below meth c H locs 0 0 (zz_Qi below (dC, dI) (wC a cI cZ) [(cI, .int), (cZ, .boolean)] A post args s) (F0 m 5 ls []) := by
    intro n
    induction n with
    | zero => intro v2 v3 v4 g K45 hK45 h; exact h.elim
    | succ n ih =>
      intro v2 v3 v4 g K45 hK45 h H locs ls hP hD hS hl
      unfold lp_li_beginning_L5 at h
      refine lv_iload hx hb d_li_beginning_5 (lv_at hl 4 rfl) ?_
      refine lv_bipush (v := 120) hx hb d_li_beginning_7 (by decide) ?_
      refine lv_icmp_ge (tgt := 45) hx hb d_li_beginning_9 (by decide) (fun hc => ?_) (fun hc => ?_)
      · have h := h.1 hc
        exact hK45 _ _ h _ _ _ hP hD hS (lv_sub hl [2] rfl)
      · have h := h.2 hc
        refine lv_aload_n hx hb d_li_beginning_12 rfl (lv_at hl 0 rfl) ?_
        refine lv_aload_n hx hb d_li_beginning_13 rfl (lv_at hl 1 rfl) ?_
        refine lv_iload_n hx hb d_li_beginning_14 rfl (lv_at hl 3 rfl) ?_
        refine zz_ci (va_runV (As := [.ref (a 2), .int v3]) (rest := []) ⟨hx, hb, hml, hown, hts⟩ (mc_li_before l dC dI a cI cZ _ v3 g _ h) (zz_cwV 2 hts (zz_good wm_32) rfl rfl rfl wm_33 wm_34 wm_35 wm_6 (by decide +kernel) ⟨Nat.le_of_ble_eq_true rfl, Nat.le_of_ble_eq_true rfl⟩) ⟨zz_blind, (va_recv hK hP rfl (wC_3 a cI cZ g)), zz_pre hP hK hD hN⟩ rfl rfl hl.1 rfl (lv_room (Nat.le_of_ble_eq_true rfl)) d_li_beginning_15 ⟨Nat.le_of_ble_eq_true rfl, Nat.le_of_ble_eq_true rfl⟩) hD hS hA (fun r2 g1 H locs h hP hD hS => ?_)
        refine lv_istore (lv' := [(5, .int r2), (0, .ref (a 3)), (1, .ref (a 2)), (2, .int v2), (3, .int v3), (4, .int v4)]) hx hb d_li_beginning_18 hl (by decide) rfl (fun ls hl => ?_)
        refine lv_iload hx hb d_li_beginning_20 (lv_at hl 0 rfl) ?_
        refine lv_iconst (v := (-1)) hx hb d_li_beginning_22 (by decide) ?_
        refine lv_icmp_ne (tgt := 28) hx hb d_li_beginning_23 (by decide) (fun hc => ?_) (fun hc => ?_)
        · have h := h.1 hc
          refine lv_iload hx hb d_li_beginning_28 (lv_at hl 0 rfl) ?_
          refine lv_iload_n hx hb d_li_beginning_30 rfl (lv_at hl 3 rfl) ?_
          refine lv_icmp_ne (tgt := 36) hx hb d_li_beginning_31 (by decide) (fun hc => ?_) (fun hc => ?_)
          · have h := h.1 hc
            refine lv_iload hx hb d_li_beginning_36 (lv_at hl 0 rfl) ?_
            refine lv_istore_n (lv' := [(3, .int r2), (5, .int r2), (0, .ref (a 3)), (1, .ref (a 2)), (2, .int v2), (4, .int v4)]) hx hb d_li_beginning_38 rfl hl (by decide) rfl (fun ls hl => ?_)
            refine lv_iinc (k := 5) (v := (v4 + 1)) (lv' := [(4, .int (v4 + 1)), (3, .int r2), (5, .int r2), (0, .ref (a 3)), (1, .ref (a 2)), (2, .int v2)]) hx hb d_li_beginning_39 hl rfl rfl (by decide) rfl (fun ls hl => ?_)
            refine lv_goto (tgt := 5) hx hb d_li_beginning_42 (by decide) ?_
            exact ih _ _ _ _ _ hK45 h _ _ _ hP hD hS (lv_sub hl [3, 4, 5, 1, 0] rfl)
          · have h := h.2 hc
            refine lv_iload_n hx hb d_li_beginning_34 rfl (lv_at hl 3 rfl) ?_
            exact W.iret (v := v2) hx hb hr (fun t ht hW => ⟨⟨v2, g1, rfl, h, by rw [ht]; exact hP, va_K.moved hW.alike hK, hD⟩, hS.F ht⟩) hS.2.2 d_li_beginning_35
        · have h := h.2 hc
          refine lv_iload_n hx hb d_li_beginning_26 rfl (lv_at hl 4 rfl) ?_
          exact W.iret (v := v3) hx hb hr (fun t ht hW => ⟨⟨v3, g1, rfl, h, by rw [ht]; exact hP, va_K.moved hW.alike hK, hD⟩, hS.F ht⟩) hS.2.2 d_li_beginning_27
  unfold wp_li_beginning at h
  refine lv_iload_n hx hb d_li_beginning_0 rfl (lv_at hl 2 rfl) ?_
  refine lv_istore_n (lv' := [(3, .int x2), (0, .ref (a 3)), (1, .ref (a 2)), (2, .int x2)]) hx hb d_li_beginning_1 rfl hl (by decide) rfl (fun ls hl => ?_)
  refine lv_iconst (v := 0) hx hb d_li_beginning_2 (by decide) ?_
  refine lv_istore (lv' := [(4, .int 0), (3, .int x2), (0, .ref (a 3)), (1, .ref (a 2)), (2, .int x2)]) hx hb d_li_beginning_3 hl (by decide) rfl (fun ls hl => ?_)
  obtain ⟨n5, h⟩ := h
  refine L5 n5 _ _ _ _ _ (fun w4 g3 h H locs ls hP hD hS hl => ?_) h _ _ _ hP hD hS (lv_sub hl [2, 3, 4, 1, 0] rfl)
  refine lv_iload_n hx hb d_li_beginning_45 rfl (lv_at hl 0 rfl) ?_
  exact W.iret (v := w4) hx hb hr (fun t ht hW => ⟨⟨w4, g3, rfl, h, by rw [ht]; exact hP, va_K.moved hW.alike hK, hD⟩, hS.F ht⟩) hS.2.2 d_li_beginning_46
abbrev rm_li_behind : Room := { frames := 1, cells := 0, slots := 0, locals := 23 }
set_option maxHeartbeats 4000000 in
set_option maxRecDepth 100000 in
theorem mc_li_behind (l : Launch) (dC : Nat → ClassId) (dI : Nat → Nat → Nat) (a : Nat → Nat) (cI cZ : ClassId) (sz : Nat) (x2 : Int32) (g : St) (post : Int32 → St → Prop) (h : wp_li_behind x2 g post) : Met l yy_li_behind ww_li_behind rm_li_behind (zz_Pre (dC, dI) (wC a cI cZ) [(cI, .int), (cZ, .boolean)] [.ref (a 3), .ref (a 2), .int x2] g sz) (va_Qi post (zz_W (dC, dI) (wC a cI cZ) [(cI, .int), (cZ, .boolean)] (va_A (wC a cI cZ g) sz)) (va_A (wC a cI cZ g) sz)) 0 0 (va_A (wC a cI cZ g) sz) := by
  refine Met.ofW (cc := cc_li_behind) (maxL := 5) (ret := (some .int)) (by decide) rfl ?_
  intro p e s m args below meth c s₁ B hml hv
  obtain ⟨hav, hsz, hP, hK, hD0, hN⟩ := hv
  have hx := B.exec
  have hb := B.bytes
  have hr := B.returns
  have hts := atoms_spec (ws := ww_li_behind) B.pre
  have hown : s.vm.findClass "SpotContours$Lines" = some m.cls := findClass_of_methodNamed B.named
  have hlocks := B.notSynchronized
  subst hsz
  have hD := hD0.self (sz := s.heap.size)
  generalize hAe : va_A (wC a cI cZ g) s.heap.size = A at hD ⊢
  have hA : ∀ q : Nat, s.heap.size ≤ q → A q := fun q h => by rw [← hAe]; exact Or.inr h
  have hS : va_S A s.heap s.heap [] := va_S.rf
  have he9 := lg_entry_eq m [.ref (a 3), .ref (a 2), .int x2] 5
  rw [← hav] at he9
  rw [he9]
  have hl := lv_entry [.ref (a 3), .ref (a 2), .int x2] (n := 5) (Nat.le_of_ble_eq_true rfl)
  generalize (lg_sl [.ref (a 3), .ref (a 2), .int x2] ++ List.replicate (5 - (lg_sl [.ref (a 3), .ref (a 2), .int x2]).length) Slot.unset).toArray = ls at hl ⊢
  have hl : lv_has ls 5 [(0, .ref (a 3)), (1, .ref (a 2)), (2, .int x2)] := hl
  unfold wp_li_behind at h
  refine lv_iload_n hx hb d_li_behind_0 rfl (lv_at hl 2 rfl) ?_
  refine zz_ci (va_runSN (As := [.int x2]) (rest := []) ⟨hx, hb, hml, hown, hts⟩ (mc_sc_highOf l dC dI a cI cZ _ x2 g _ h) (zz_cwSN 1 hts (zz_good wm_16) rfl rfl rfl hN.1.1 wm_17 wm_10 (by decide +kernel) ⟨Nat.le_of_ble_eq_true rfl, Nat.le_of_ble_eq_true rfl⟩) ⟨zz_blind, zz_pre hP hK hD hN⟩ rfl rfl hl.1 rfl (lv_room (Nat.le_of_ble_eq_true rfl)) d_li_behind_1 ⟨Nat.le_of_ble_eq_true rfl, Nat.le_of_ble_eq_true rfl⟩) hD hS hA (fun r2 g1 H locs h hP hD hS => ?_)
  refine lv_istore_n (lv' := [(3, .int r2), (0, .ref (a 3)), (1, .ref (a 2)), (2, .int x2)]) hx hb d_li_behind_4 rfl hl (by decide) rfl (fun ls hl => ?_)
  refine lv_iload_n hx hb d_li_behind_5 rfl (lv_at hl 3 rfl) ?_
  refine zz_ci (va_runSN (As := [.int x2]) (rest := []) ⟨hx, hb, hml, hown, hts⟩ (mc_sc_lowOf l dC dI a cI cZ _ x2 g1 _ h) (zz_cwSN 1 hts (zz_good wm_9) rfl rfl rfl hN.1.2.1 wm_11 wm_10 (by decide +kernel) ⟨Nat.le_of_ble_eq_true rfl, Nat.le_of_ble_eq_true rfl⟩) ⟨zz_blind, zz_pre hP hK hD hN⟩ rfl rfl hl.1 rfl (lv_room (Nat.le_of_ble_eq_true rfl)) d_li_behind_6 ⟨Nat.le_of_ble_eq_true rfl, Nat.le_of_ble_eq_true rfl⟩) hD hS hA (fun r4 g3 H locs h hP hD hS => ?_)
  refine lv_istore (lv' := [(4, .int r4), (3, .int r2), (0, .ref (a 3)), (1, .ref (a 2)), (2, .int x2)]) hx hb d_li_behind_9 hl (by decide) rfl (fun ls hl => ?_)
  refine lv_aload_n hx hb d_li_behind_11 rfl (lv_at hl 2 rfl) ?_
  refine lv_iload_n hx hb d_li_behind_12 rfl (lv_at hl 1 rfl) ?_
  refine lv_iload hx hb d_li_behind_13 (lv_at hl 0 rfl) ?_
  refine lv_aload_n hx hb d_li_behind_15 rfl (lv_at hl 3 rfl) ?_
  refine lv_iload hx hb d_li_behind_16 (lv_at hl 0 rfl) ?_
  refine lv_iload_n hx hb d_li_behind_18 rfl (lv_at hl 1 rfl) ?_
  refine zz_ci (va_runV (As := [.int r4, .int r2]) (rest := [.int r4, .int r2, .ref (a 3)]) ⟨hx, hb, hml, hown, hts⟩ (mc_me_thirdRightOf l dC dI a cI cZ _ r4 r2 g3 _ h) (zz_cwV 2 hts (zz_good wm_22) rfl rfl rfl wm_31 wm_25 wm_26 wm_23 (by decide +kernel) ⟨Nat.le_of_ble_eq_true rfl, Nat.le_of_ble_eq_true rfl⟩) ⟨zz_blind, (va_recv hK hP rfl (wC_2 a cI cZ g3)), zz_pre hP hK hD hN⟩ rfl rfl hl.1 rfl (lv_room (Nat.le_of_ble_eq_true rfl)) d_li_behind_19 ⟨Nat.le_of_ble_eq_true rfl, Nat.le_of_ble_eq_true rfl⟩) hD hS hA (fun r6 g5 H locs h hP hD hS => ?_)
  refine zz_ci (va_runV (As := [.int r2, .int r4, .int r6]) (rest := []) ⟨hx, hb, hml, hown, hts⟩ (mc_li_otherPair l dC dI a cI cZ _ r2 r4 r6 g5 _ h) (zz_cwV 3 hts (zz_good wm_27) rfl rfl rfl wm_28 wm_29 wm_30 wm_6 (by decide +kernel) ⟨Nat.le_of_ble_eq_true rfl, Nat.le_of_ble_eq_true rfl⟩) ⟨zz_blind, (va_recv hK hP rfl (wC_3 a cI cZ g5)), zz_pre hP hK hD hN⟩ rfl rfl hl.1 rfl (lv_room (Nat.le_of_ble_eq_true rfl)) d_li_behind_22 ⟨Nat.le_of_ble_eq_true rfl, Nat.le_of_ble_eq_true rfl⟩) hD hS hA (fun r8 g7 H locs h hP hD hS => ?_)
  exact W.iret (v := r8) hx hb hr (fun t ht hW => ⟨⟨r8, g7, rfl, h, by rw [ht]; exact hP, va_K.moved hW.alike hK, hD⟩, hS.F ht⟩) hS.2.2 d_li_behind_25
abbrev rm_li_traceFrom : Room := { frames := 3, cells := 0, slots := 0, locals := 72 }
set_option maxHeartbeats 4000000 in
set_option maxRecDepth 100000 in
theorem mc_li_traceFrom (l : Launch) (dC : Nat → ClassId) (dI : Nat → Nat → Nat) (a : Nat → Nat) (cI cZ : ClassId) (sz : Nat) (x2 : Int32) (g : St) (post : St → Prop) (h : wp_li_traceFrom x2 g post) : Met l yy_li_traceFrom ww_li_traceFrom rm_li_traceFrom (zz_Pre (dC, dI) (wC a cI cZ) [(cI, .int), (cZ, .boolean)] [.ref (a 3), .ref (a 2), .int x2] g sz) (va_Qv post (zz_W (dC, dI) (wC a cI cZ) [(cI, .int), (cZ, .boolean)] (va_A (wC a cI cZ g) sz)) (va_A (wC a cI cZ g) sz)) 0 0 (va_A (wC a cI cZ g) sz) := by
  refine Met.ofW (cc := cc_li_traceFrom) (maxL := 6) (ret := none) (by decide) rfl ?_
  intro p e s m args below meth c s₁ B hml hv
  obtain ⟨hav, hsz, hP, hK, hD0, hN⟩ := hv
  have hx := B.exec
  have hb := B.bytes
  have hr := B.returns
  have hts := atoms_spec (ws := ww_li_traceFrom) B.pre
  have hown : s.vm.findClass "SpotContours$Lines" = some m.cls := findClass_of_methodNamed B.named
  have hlocks := B.notSynchronized
  subst hsz
  have hD := hD0.self (sz := s.heap.size)
  generalize hAe : va_A (wC a cI cZ g) s.heap.size = A at hD ⊢
  have hA : ∀ q : Nat, s.heap.size ≤ q → A q := fun q h => by rw [← hAe]; exact Or.inr h
  have hS : va_S A s.heap s.heap [] := va_S.rf
  have he9 := lg_entry_eq m [.ref (a 3), .ref (a 2), .int x2] 6
  rw [← hav] at he9
  rw [he9]
  have hl := lv_entry [.ref (a 3), .ref (a 2), .int x2] (n := 6) (Nat.le_of_ble_eq_true rfl)
  generalize (lg_sl [.ref (a 3), .ref (a 2), .int x2] ++ List.replicate (6 - (lg_sl [.ref (a 3), .ref (a 2), .int x2]).length) Slot.unset).toArray = ls at hl ⊢
  have hl : lv_has ls 6 [(0, .ref (a 3)), (1, .ref (a 2)), (2, .int x2)] := hl
  have hin__li : ∀ w ∈ u_ws R_li T_li 6, w ∈ ww_li_traceFrom := fun w h => zz_in (hin0_li w h)
  have fl_15 := hts (.fieldLink "SpotContours$Lines" 15 "SpotContours$Lines" "pairs" "[I") (zz_in wm_359)
  have fl_19 := hts (.fieldLink "SpotContours$Lines" 19 "SpotContours$Lines" "starts" "[I") (zz_in wm_357)
  have fl_22 := hts (.fieldLink "SpotContours$Lines" 22 "SpotContours$Lines" "rings" "[Z") (zz_in wm_358)
  have fl_25 := hts (.fieldLink "SpotContours$Lines" 25 "SpotContours$Lines" "isTraced" "[Z") (zz_in wm_362)
  have fl_28 := hts (.fieldLink "SpotContours$Lines" 28 "SpotContours$Lines" "count" "I") (zz_in wm_356)
  have L65 : ∀ (n : Nat) (v3 : Int32) (v4 : Int32) (v5 : Int32) (g : St) (K120 : Int32 → St → Prop) , (∀ (v4 : Int32) (g : St), K120 v4 g → ∀ (H : Heap) (locs : List Loc) (ls : Array Slot), va_P (dC, dI) zzCl (wC a cI cZ g) H → va_D A (wC a cI cZ g) → va_S A s.heap H locs → lv_has ls 6 [(0, .ref (a 3)), (4, .int v4)] → W p l e (headSpec ww_li_traceFrom rm_li_traceFrom).room s m args below meth c H locs 0 0 (zz_Qv below (dC, dI) (wC a cI cZ) [(cI, .int), (cZ, .boolean)] A post args s) (F0 m 120 ls [])) → lp_li_traceFrom_L65 n v3 v4 v5 g K120 post → ∀ (H : Heap) (locs : List Loc) (ls : Array Slot), va_P (dC, dI) zzCl (wC a cI cZ g) H → va_D A (wC a cI cZ g) → va_S A s.heap H locs → lv_has ls 6 [(0, .ref (a 3)), (1, .ref (a 2)), (3, .int v3), (4, .int v4), (5, .int v5)] → W p l e (headSpec ww_li_traceFrom rm_li_traceFrom).room s m args below meth c H locs 0 0 (zz_Qv below (dC, dI) (wC a cI cZ) [(cI, .int), (cZ, .boolean)] A post args s) (F0 m 65 ls []) := by
    intro n
    induction n with
    | zero => intro v3 v4 v5 g K120 hK120 h; exact h.elim
    | succ n ih =>
      intro v3 v4 v5 g K120 hK120 h H locs ls hP hD hS hl
      unfold lp_li_traceFrom_L65 at h
      refine lv_iload hx hb d_li_traceFrom_65 (lv_at hl 4 rfl) ?_
      refine lv_bipush (v := 120) hx hb d_li_traceFrom_67 (by decide) ?_
      refine lv_icmp_ge (tgt := 120) hx hb d_li_traceFrom_69 (by decide) (fun hc => ?_) (fun hc => ?_)
      · have h := h.1 hc
        exact hK120 _ _ h _ _ _ hP hD hS (lv_sub hl [0, 3] rfl)
      · have h := h.2 hc
        refine lv_iload_n hx hb d_li_traceFrom_72 rfl (lv_at hl 2 rfl) ?_
        refine lv_iconst (v := (-1)) hx hb d_li_traceFrom_73 (by decide) ?_
        refine lv_icmp_eq (tgt := 120) hx hb d_li_traceFrom_74 (by decide) (fun hc => ?_) (fun hc => ?_)
        · have h := h.1 hc
          exact hK120 _ _ h _ _ _ hP hD hS (lv_sub hl [0, 3] rfl)
        · have h := h.2 hc
          refine lv_aload_n hx hb d_li_traceFrom_77 rfl (lv_at hl 0 rfl) ?_
          refine va_get (D := (dC, dI)) (ci := 0) (v := .ref (a 14)) (C := R_li) (T := T_li) (N := 6) hx hb hts hin__li hown hK hP 3 (wC_3 a cI cZ g) rfl 4 (by decide) fl_25 (fun _ h9 => h9) rfl d_li_traceFrom_78 ?_
          refine lv_iload_n hx hb d_li_traceFrom_81 rfl (lv_at hl 2 rfl) ?_
          refine va_zald hx hb hK hP 14 1 (wC_14 a cI cZ g) rfl h.1 d_li_traceFrom_82 ?_
          have h := h.2
          refine lv_if_ne (tgt := 120) hx hb d_li_traceFrom_83 (by decide) (fun hc => ?_) (fun hc => ?_)
          · have h := h.1 hc
            exact hK120 _ _ h _ _ _ hP hD hS (lv_sub hl [0, 3] rfl)
          · have h := h.2 hc
            refine lv_aload_n hx hb d_li_traceFrom_86 rfl (lv_at hl 0 rfl) ?_
            refine va_get (D := (dC, dI)) (ci := 0) (v := .ref (a 11)) (C := R_li) (T := T_li) (N := 6) hx hb hts hin__li hown hK hP 3 (wC_3 a cI cZ g) rfl 1 (by decide) fl_15 (fun _ h9 => h9) rfl d_li_traceFrom_87 ?_
            refine lv_iload hx hb d_li_traceFrom_90 (lv_at hl 4 rfl) ?_
            refine lv_iload_n hx hb d_li_traceFrom_92 rfl (lv_at hl 2 rfl) ?_
            refine va_iast hx hb hK hP hD hS 11 0 (wC_11 a cI cZ g) rfl h.1 d_li_traceFrom_93 (fun H locs hP hD hS => ?_)
            obtain ⟨g6, e_g6⟩ : ∃ z : St, z = gp g 11 (ix v5) v3 := ⟨_, rfl⟩
            have h := h.2 g6 e_g6
            have hP : va_P (dC, dI) zzCl (wC a cI cZ g6) H := by rw [e_g6]; exact hP
            have hD : va_D A (wC a cI cZ g6) := by rw [e_g6]; exact hD
            refine lv_aload_n hx hb d_li_traceFrom_94 rfl (lv_at hl 0 rfl) ?_
            refine va_get (D := (dC, dI)) (ci := 0) (v := .ref (a 14)) (C := R_li) (T := T_li) (N := 6) hx hb hts hin__li hown hK hP 3 (wC_3 a cI cZ g6) rfl 4 (by decide) fl_25 (fun _ h9 => h9) rfl d_li_traceFrom_95 ?_
            refine lv_iload_n hx hb d_li_traceFrom_98 rfl (lv_at hl 2 rfl) ?_
            refine lv_iconst (v := 1) hx hb d_li_traceFrom_99 (by decide) ?_
            refine va_zast hx hb hK hP hD hS 14 1 (wC_14 a cI cZ g6) rfl h.1 d_li_traceFrom_100 (fun H locs hP hD hS => ?_)
            obtain ⟨g7, e_g7⟩ : ∃ z : St, z = gp g6 14 (ix v3) (vp_nar .boolean 1) := ⟨_, rfl⟩
            have h := h.2 g7 e_g7
            have hP : va_P (dC, dI) zzCl (wC a cI cZ g7) H := by rw [e_g7]; exact hP
            have hD : va_D A (wC a cI cZ g7) := by rw [e_g7]; exact hD
            refine lv_aload_n hx hb d_li_traceFrom_101 rfl (lv_at hl 0 rfl) ?_
            refine lv_aload_n hx hb d_li_traceFrom_102 rfl (lv_at hl 1 rfl) ?_
            refine lv_iload_n hx hb d_li_traceFrom_103 rfl (lv_at hl 2 rfl) ?_
            refine zz_ci (va_runV (As := [.ref (a 2), .int v3]) (rest := []) ⟨hx, hb, hml, hown, hts⟩ (mc_li_behind l dC dI a cI cZ _ v3 g7 _ h) (zz_cwV 2 hts (zz_good wm_36) rfl rfl rfl wm_37 wm_38 wm_39 wm_6 (by decide +kernel) ⟨Nat.le_of_ble_eq_true rfl, Nat.le_of_ble_eq_true rfl⟩) ⟨zz_blind, (va_recv hK hP rfl (wC_3 a cI cZ g7)), zz_pre hP hK hD hN⟩ rfl rfl hl.1 rfl (lv_room (Nat.le_of_ble_eq_true rfl)) d_li_traceFrom_104 ⟨Nat.le_of_ble_eq_true rfl, Nat.le_of_ble_eq_true rfl⟩) hD hS hA (fun r9 g8 H locs h hP hD hS => ?_)
            refine lv_istore_n (lv' := [(3, .int r9), (0, .ref (a 3)), (1, .ref (a 2)), (4, .int v4), (5, .int v5)]) hx hb d_li_traceFrom_107 rfl hl (by decide) rfl (fun ls hl => ?_)
            refine lv_iload hx hb d_li_traceFrom_108 (lv_at hl 4 rfl) ?_
            refine lv_iconst (v := 1) hx hb d_li_traceFrom_110 (by decide) ?_
            refine lv_iadd hx hb d_li_traceFrom_111 ?_
            refine lv_istore (lv' := [(4, .int (v5 + 1)), (3, .int r9), (0, .ref (a 3)), (1, .ref (a 2)), (5, .int v5)]) hx hb d_li_traceFrom_112 hl (by decide) rfl (fun ls hl => ?_)
            refine lv_iinc (k := 4) (v := (v5 + 1)) (lv' := [(5, .int (v5 + 1)), (4, .int (v5 + 1)), (3, .int r9), (0, .ref (a 3)), (1, .ref (a 2))]) hx hb d_li_traceFrom_114 hl rfl rfl (by decide) rfl (fun ls hl => ?_)
            refine lv_goto (tgt := 65) hx hb d_li_traceFrom_117 (by decide) ?_
            exact ih _ _ _ _ _ hK120 h _ _ _ hP hD hS (lv_sub hl [3, 4, 2, 1, 0] rfl)
  have J120 : ∀ (v4 : Int32) (g : St), jn_li_traceFrom_J120 v4 g post → ∀ (H : Heap) (locs : List Loc) (ls : Array Slot), va_P (dC, dI) zzCl (wC a cI cZ g) H → va_D A (wC a cI cZ g) → va_S A s.heap H locs → lv_has ls 6 [(0, .ref (a 3)), (4, .int v4)] → W p l e (headSpec ww_li_traceFrom rm_li_traceFrom).room s m args below meth c H locs 0 0 (zz_Qv below (dC, dI) (wC a cI cZ) [(cI, .int), (cZ, .boolean)] A post args s) (F0 m 120 ls []) := by
    intro v4 g h H locs ls hP hD hS hl
    unfold jn_li_traceFrom_J120 at h
    refine lv_aload_n hx hb d_li_traceFrom_120 rfl (lv_at hl 0 rfl) ?_
    refine lv_dup hx hb d_li_traceFrom_121 rfl ?_
    refine va_get (D := (dC, dI)) (ci := 0) (v := .int (g 3 5)) (C := R_li) (T := T_li) (N := 6) hx hb hts hin__li hown hK hP 3 (wC_3 a cI cZ g) rfl 5 (by decide) fl_28 (fun _ h9 => h9) rfl d_li_traceFrom_122 ?_
    refine lv_iconst (v := 1) hx hb d_li_traceFrom_125 (by decide) ?_
    refine lv_iadd hx hb d_li_traceFrom_126 ?_
    refine va_put (D := (dC, dI)) (ci := 0) (v := .int ((g 3 5) + 1)) (ty := .int) (C := R_li) (T := T_li) (N := 6) hx hb hts hin__li ty_li tok_li nmd_li hown hK hP hD hS 3 (wC_3 a cI cZ g) rfl 5 (by decide) fl_28 (fun _ h9 => h9) rfl (by decide +kernel) rfl rfl (Nat.le_of_ble_eq_true rfl) d_li_traceFrom_127 (fun H locs hP hD hS => ?_)
    obtain ⟨g12, e_g12⟩ : ∃ z : St, z = gp g 3 5 ((g 3 5) + 1) := ⟨_, rfl⟩
    have h := h g12 e_g12
    have hP : va_P (dC, dI) zzCl (wC a cI cZ g12) H := by rw [e_g12]; exact hP
    have hD : va_D A (wC a cI cZ g12) := by rw [e_g12]; exact hD
    refine lv_aload_n hx hb d_li_traceFrom_130 rfl (lv_at hl 0 rfl) ?_
    refine va_get (D := (dC, dI)) (ci := 0) (v := .ref (a 12)) (C := R_li) (T := T_li) (N := 6) hx hb hts hin__li hown hK hP 3 (wC_3 a cI cZ g12) rfl 2 (by decide) fl_19 (fun _ h9 => h9) rfl d_li_traceFrom_131 ?_
    refine lv_aload_n hx hb d_li_traceFrom_134 rfl (lv_at hl 0 rfl) ?_
    refine va_get (D := (dC, dI)) (ci := 0) (v := .int (g12 3 5)) (C := R_li) (T := T_li) (N := 6) hx hb hts hin__li hown hK hP 3 (wC_3 a cI cZ g12) rfl 5 (by decide) fl_28 (fun _ h9 => h9) rfl d_li_traceFrom_135 ?_
    refine lv_iload hx hb d_li_traceFrom_138 (lv_at hl 1 rfl) ?_
    refine va_iast hx hb hK hP hD hS 12 0 (wC_12 a cI cZ g12) rfl h.1 d_li_traceFrom_140 (fun H locs hP hD hS => ?_)
    obtain ⟨g13, e_g13⟩ : ∃ z : St, z = gp g12 12 (ix (g12 3 5)) v4 := ⟨_, rfl⟩
    have h := h.2 g13 e_g13
    have hP : va_P (dC, dI) zzCl (wC a cI cZ g13) H := by rw [e_g13]; exact hP
    have hD : va_D A (wC a cI cZ g13) := by rw [e_g13]; exact hD
    exact W.vret hx hb hr (fun t ht hW => ⟨⟨g13, rfl, h, by rw [ht]; exact hP, va_K.moved hW.alike hK, hD⟩, hS.F ht⟩) hS.2.2 d_li_traceFrom_141
  have J49 : ∀ (v3 : Int32) (s1 : Int32) (s2 : Int32) (g : St), jn_li_traceFrom_J49 v3 s1 s2 g post → ∀ (H : Heap) (locs : List Loc) (ls : Array Slot), va_P (dC, dI) zzCl (wC a cI cZ g) H → va_D A (wC a cI cZ g) → va_S A s.heap H locs → lv_has ls 6 [(0, .ref (a 3)), (1, .ref (a 2)), (3, .int v3)] → W p l e (headSpec ww_li_traceFrom rm_li_traceFrom).room s m args below meth c H locs 0 0 (zz_Qv below (dC, dI) (wC a cI cZ) [(cI, .int), (cZ, .boolean)] A post args s) (F0 m 49 ls [.int s2, .int s1, .ref (a 13)]) := by
    intro v3 s1 s2 g h H locs ls hP hD hS hl
    unfold jn_li_traceFrom_J49 at h
    refine va_zast hx hb hK hP hD hS 13 1 (wC_13 a cI cZ g) rfl h.1 d_li_traceFrom_49 (fun H locs hP hD hS => ?_)
    obtain ⟨g5, e_g5⟩ : ∃ z : St, z = gp g 13 (ix s1) (vp_nar .boolean s2) := ⟨_, rfl⟩
    have h := h.2 g5 e_g5
    have hP : va_P (dC, dI) zzCl (wC a cI cZ g5) H := by rw [e_g5]; exact hP
    have hD : va_D A (wC a cI cZ g5) := by rw [e_g5]; exact hD
    refine lv_aload_n hx hb d_li_traceFrom_50 rfl (lv_at hl 0 rfl) ?_
    refine va_get (D := (dC, dI)) (ci := 0) (v := .ref (a 12)) (C := R_li) (T := T_li) (N := 6) hx hb hts hin__li hown hK hP 3 (wC_3 a cI cZ g5) rfl 2 (by decide) fl_19 (fun _ h9 => h9) rfl d_li_traceFrom_51 ?_
    refine lv_aload_n hx hb d_li_traceFrom_54 rfl (lv_at hl 0 rfl) ?_
    refine va_get (D := (dC, dI)) (ci := 0) (v := .int (g5 3 5)) (C := R_li) (T := T_li) (N := 6) hx hb hts hin__li hown hK hP 3 (wC_3 a cI cZ g5) rfl 5 (by decide) fl_28 (fun _ h9 => h9) rfl d_li_traceFrom_55 ?_
    refine va_iald hx hb hK hP 12 0 (wC_12 a cI cZ g5) rfl h.1 d_li_traceFrom_58 ?_
    have h := h.2
    refine lv_istore (lv' := [(4, .int (g5 12 (ix (g5 3 5)))), (0, .ref (a 3)), (1, .ref (a 2)), (3, .int v3)]) hx hb d_li_traceFrom_59 hl (by decide) rfl (fun ls hl => ?_)
    refine lv_iload hx hb d_li_traceFrom_61 (lv_at hl 0 rfl) ?_
    refine lv_istore (lv' := [(5, .int (g5 12 (ix (g5 3 5)))), (4, .int (g5 12 (ix (g5 3 5)))), (0, .ref (a 3)), (1, .ref (a 2)), (3, .int v3)]) hx hb d_li_traceFrom_63 hl (by decide) rfl (fun ls hl => ?_)
    obtain ⟨n65, h⟩ := h
    refine L65 n65 _ _ _ _ _ (fun w11 g10 h H locs ls hP hD hS hl => ?_) h _ _ _ hP hD hS (lv_sub hl [2, 3, 4, 1, 0] rfl)
    exact J120 _ _ h _ _ _ hP hD hS (lv_sub hl [0, 1] rfl)
  unfold wp_li_traceFrom at h
  refine lv_aload_n hx hb d_li_traceFrom_0 rfl (lv_at hl 0 rfl) ?_
  refine va_get (D := (dC, dI)) (ci := 0) (v := .ref (a 14)) (C := R_li) (T := T_li) (N := 6) hx hb hts hin__li hown hK hP 3 (wC_3 a cI cZ g) rfl 4 (by decide) fl_25 (fun _ h9 => h9) rfl d_li_traceFrom_1 ?_
  refine lv_iload_n hx hb d_li_traceFrom_4 rfl (lv_at hl 2 rfl) ?_
  refine va_zald hx hb hK hP 14 1 (wC_14 a cI cZ g) rfl h.1 d_li_traceFrom_5 ?_
  have h := h.2
  refine lv_if_ne (tgt := 18) hx hb d_li_traceFrom_6 (by decide) (fun hc => ?_) (fun hc => ?_)
  · have h := h.1 hc
    exact W.vret hx hb hr (fun t ht hW => ⟨⟨g, rfl, h, by rw [ht]; exact hP, va_K.moved hW.alike hK, hD⟩, hS.F ht⟩) hS.2.2 d_li_traceFrom_18
  · have h := h.2 hc
    refine lv_aload_n hx hb d_li_traceFrom_9 rfl (lv_at hl 0 rfl) ?_
    refine va_get (D := (dC, dI)) (ci := 0) (v := .int (g 3 5)) (C := R_li) (T := T_li) (N := 6) hx hb hts hin__li hown hK hP 3 (wC_3 a cI cZ g) rfl 5 (by decide) fl_28 (fun _ h9 => h9) rfl d_li_traceFrom_10 ?_
    refine lv_bipush (v := 120) hx hb d_li_traceFrom_13 (by decide) ?_
    refine lv_icmp_lt (tgt := 19) hx hb d_li_traceFrom_15 (by decide) (fun hc => ?_) (fun hc => ?_)
    · have h := h.1 hc
      refine lv_aload_n hx hb d_li_traceFrom_19 rfl (lv_at hl 0 rfl) ?_
      refine lv_aload_n hx hb d_li_traceFrom_20 rfl (lv_at hl 1 rfl) ?_
      refine lv_iload_n hx hb d_li_traceFrom_21 rfl (lv_at hl 2 rfl) ?_
      refine zz_ci (va_runV (As := [.ref (a 2), .int x2]) (rest := []) ⟨hx, hb, hml, hown, hts⟩ (mc_li_beginning l dC dI a cI cZ _ x2 g _ h) (zz_cwV 2 hts (zz_good wm_40) rfl rfl rfl wm_41 wm_42 wm_43 wm_6 (by decide +kernel) ⟨Nat.le_of_ble_eq_true rfl, Nat.le_of_ble_eq_true rfl⟩) ⟨zz_blind, (va_recv hK hP rfl (wC_3 a cI cZ g)), zz_pre hP hK hD hN⟩ rfl rfl hl.1 rfl (lv_room (Nat.le_of_ble_eq_true rfl)) d_li_traceFrom_22 ⟨Nat.le_of_ble_eq_true rfl, Nat.le_of_ble_eq_true rfl⟩) hD hS hA (fun r2 g1 H locs h hP hD hS => ?_)
      refine lv_istore_n (lv' := [(3, .int r2), (0, .ref (a 3)), (1, .ref (a 2)), (2, .int x2)]) hx hb d_li_traceFrom_25 rfl hl (by decide) rfl (fun ls hl => ?_)
      refine lv_aload_n hx hb d_li_traceFrom_26 rfl (lv_at hl 1 rfl) ?_
      refine va_get (D := (dC, dI)) (ci := 0) (v := .ref (a 13)) (C := R_li) (T := T_li) (N := 6) hx hb hts hin__li hown hK hP 3 (wC_3 a cI cZ g1) rfl 3 (by decide) fl_22 (fun _ h9 => h9) rfl d_li_traceFrom_27 ?_
      refine lv_aload_n hx hb d_li_traceFrom_30 rfl (lv_at hl 1 rfl) ?_
      refine va_get (D := (dC, dI)) (ci := 0) (v := .int (g1 3 5)) (C := R_li) (T := T_li) (N := 6) hx hb hts hin__li hown hK hP 3 (wC_3 a cI cZ g1) rfl 5 (by decide) fl_28 (fun _ h9 => h9) rfl d_li_traceFrom_31 ?_
      refine lv_aload_n hx hb d_li_traceFrom_34 rfl (lv_at hl 1 rfl) ?_
      refine lv_aload_n hx hb d_li_traceFrom_35 rfl (lv_at hl 2 rfl) ?_
      refine lv_iload_n hx hb d_li_traceFrom_36 rfl (lv_at hl 0 rfl) ?_
      refine zz_ci (va_runV (As := [.ref (a 2), .int r2]) (rest := [.int (g1 3 5), .ref (a 13)]) ⟨hx, hb, hml, hown, hts⟩ (mc_li_before l dC dI a cI cZ _ r2 g1 _ h) (zz_cwV 2 hts (zz_good wm_32) rfl rfl rfl wm_33 wm_34 wm_35 wm_6 (by decide +kernel) ⟨Nat.le_of_ble_eq_true rfl, Nat.le_of_ble_eq_true rfl⟩) ⟨zz_blind, (va_recv hK hP rfl (wC_3 a cI cZ g1)), zz_pre hP hK hD hN⟩ rfl rfl hl.1 rfl (lv_room (Nat.le_of_ble_eq_true rfl)) d_li_traceFrom_37 ⟨Nat.le_of_ble_eq_true rfl, Nat.le_of_ble_eq_true rfl⟩) hD hS hA (fun r4 g3 H locs h hP hD hS => ?_)
      refine lv_iconst (v := (-1)) hx hb d_li_traceFrom_40 (by decide) ?_
      refine lv_icmp_eq (tgt := 48) hx hb d_li_traceFrom_41 (by decide) (fun hc => ?_) (fun hc => ?_)
      · have h := h.1 hc
        refine lv_iconst (v := 0) hx hb d_li_traceFrom_48 (by decide) ?_
        exact J49 _ _ _ _ h _ _ _ hP hD hS (lv_sub hl [1, 2, 0] rfl)
      · have h := h.2 hc
        refine lv_iconst (v := 1) hx hb d_li_traceFrom_44 (by decide) ?_
        refine lv_goto (tgt := 49) hx hb d_li_traceFrom_45 (by decide) ?_
        exact J49 _ _ _ _ h _ _ _ hP hD hS (lv_sub hl [1, 2, 0] rfl)
    · have h := h.2 hc
      exact W.vret hx hb hr (fun t ht hW => ⟨⟨g, rfl, h, by rw [ht]; exact hP, va_K.moved hW.alike hK, hD⟩, hS.F ht⟩) hS.2.2 d_li_traceFrom_18
abbrev rm_li_trace : Room := { frames := 4, cells := 0, slots := 0, locals := 97 }
set_option maxHeartbeats 4000000 in
set_option maxRecDepth 100000 in
theorem mc_li_trace (l : Launch) (dC : Nat → ClassId) (dI : Nat → Nat → Nat) (a : Nat → Nat) (cI cZ : ClassId) (sz : Nat) (x3 : Int32) (g : St) (post : St → Prop) (h : wp_li_trace x3 g post) : Met l yy_li_trace ww_li_trace rm_li_trace (zz_Pre (dC, dI) (wC a cI cZ) [(cI, .int), (cZ, .boolean)] [.ref (a 3), .ref (a 1), .ref (a 2), .int x3] g sz) (va_Qv post (zz_W (dC, dI) (wC a cI cZ) [(cI, .int), (cZ, .boolean)] (va_A (wC a cI cZ g) sz)) (va_A (wC a cI cZ g) sz)) 0 0 (va_A (wC a cI cZ g) sz) := by
  refine Met.ofW (cc := cc_li_trace) (maxL := 6) (ret := none) (by decide) rfl ?_
  intro p e s m args below meth c s₁ B hml hv
  obtain ⟨hav, hsz, hP, hK, hD0, hN⟩ := hv
  have hx := B.exec
  have hb := B.bytes
  have hr := B.returns
  have hts := atoms_spec (ws := ww_li_trace) B.pre
  have hown : s.vm.findClass "SpotContours$Lines" = some m.cls := findClass_of_methodNamed B.named
  have hlocks := B.notSynchronized
  subst hsz
  have hD := hD0.self (sz := s.heap.size)
  generalize hAe : va_A (wC a cI cZ g) s.heap.size = A at hD ⊢
  have hA : ∀ q : Nat, s.heap.size ≤ q → A q := fun q h => by rw [← hAe]; exact Or.inr h
  have hS : va_S A s.heap s.heap [] := va_S.rf
  have he9 := lg_entry_eq m [.ref (a 3), .ref (a 1), .ref (a 2), .int x3] 6
  rw [← hav] at he9
  rw [he9]
  have hl := lv_entry [.ref (a 3), .ref (a 1), .ref (a 2), .int x3] (n := 6) (Nat.le_of_ble_eq_true rfl)
  generalize (lg_sl [.ref (a 3), .ref (a 1), .ref (a 2), .int x3] ++ List.replicate (6 - (lg_sl [.ref (a 3), .ref (a 1), .ref (a 2), .int x3]).length) Slot.unset).toArray = ls at hl ⊢
  have hl : lv_has ls 6 [(0, .ref (a 3)), (1, .ref (a 1)), (2, .ref (a 2)), (3, .int x3)] := hl
  have hin__li : ∀ w ∈ u_ws R_li T_li 6, w ∈ ww_li_trace := fun w h => zz_in (hin0_li w h)
  have fl_9 := hts (.fieldLink "SpotContours$Lines" 9 "SpotContours$Lines" "isHigh" "[Z") (zz_in wm_361)
  have L7 : ∀ (n : Nat) (v3 : Int32) (v4 : Int32) (g : St) (K44 : St → Prop) , (∀ (g : St), K44 g → ∀ (H : Heap) (locs : List Loc) (ls : Array Slot), va_P (dC, dI) zzCl (wC a cI cZ g) H → va_D A (wC a cI cZ g) → va_S A s.heap H locs → lv_has ls 6 [(0, .ref (a 3)), (1, .ref (a 1)), (2, .ref (a 2))] → W p l e (headSpec ww_li_trace rm_li_trace).room s m args below meth c H locs 0 0 (zz_Qv below (dC, dI) (wC a cI cZ) [(cI, .int), (cZ, .boolean)] A post args s) (F0 m 44 ls [])) → lp_li_trace_L7 n v3 v4 g K44 post → ∀ (H : Heap) (locs : List Loc) (ls : Array Slot), va_P (dC, dI) zzCl (wC a cI cZ g) H → va_D A (wC a cI cZ g) → va_S A s.heap H locs → lv_has ls 6 [(0, .ref (a 3)), (1, .ref (a 1)), (2, .ref (a 2)), (3, .int v3), (4, .int v4)] → W p l e (headSpec ww_li_trace rm_li_trace).room s m args below meth c H locs 0 0 (zz_Qv below (dC, dI) (wC a cI cZ) [(cI, .int), (cZ, .boolean)] A post args s) (F0 m 7 ls []) := by
    intro n
    induction n with
    | zero => intro v3 v4 g K44 hK44 h; exact h.elim
    | succ n ih =>
      intro v3 v4 g K44 hK44 h H locs ls hP hD hS hl
      unfold lp_li_trace_L7 at h
      refine lv_iload hx hb d_li_trace_7 (lv_at hl 4 rfl) ?_
      refine lv_aload_n hx hb d_li_trace_9 rfl (lv_at hl 1 rfl) ?_
      refine zz_ci (va_runV (As := []) (rest := [.int v4]) ⟨hx, hb, hml, hown, hts⟩ (mc_sp_size l dC dI a cI cZ _  g _ h) (zz_cwV 0 hts (zz_good wm_48) rfl rfl rfl wm_49 wm_50 wm_51 wm_1 (by decide +kernel) ⟨Nat.le_of_ble_eq_true rfl, Nat.le_of_ble_eq_true rfl⟩) ⟨zz_blind, (va_recv hK hP rfl (wC_1 a cI cZ g)), zz_pre hP hK hD hN⟩ rfl rfl hl.1 rfl (lv_room (Nat.le_of_ble_eq_true rfl)) d_li_trace_10 ⟨Nat.le_of_ble_eq_true rfl, Nat.le_of_ble_eq_true rfl⟩) hD hS hA (fun r3 g2 H locs h hP hD hS => ?_)
      refine lv_icmp_ge (tgt := 44) hx hb d_li_trace_13 (by decide) (fun hc => ?_) (fun hc => ?_)
      · have h := h.1 hc
        exact hK44 _ h _ _ _ hP hD hS (lv_sub hl [0, 1, 2] rfl)
      · have h := h.2 hc
        refine lv_aload_n hx hb d_li_trace_16 rfl (lv_at hl 0 rfl) ?_
        refine va_get (D := (dC, dI)) (ci := 0) (v := .ref (a 10)) (C := R_li) (T := T_li) (N := 6) hx hb hts hin__li hown hK hP 3 (wC_3 a cI cZ g2) rfl 0 (by decide) fl_9 (fun _ h9 => h9) rfl d_li_trace_17 ?_
        refine lv_iload hx hb d_li_trace_20 (lv_at hl 4 rfl) ?_
        refine lv_aload_n hx hb d_li_trace_22 rfl (lv_at hl 1 rfl) ?_
        refine lv_iload hx hb d_li_trace_23 (lv_at hl 4 rfl) ?_
        refine zz_ci (va_runV (As := [.int v4]) (rest := [.int v4, .ref (a 10)]) ⟨hx, hb, hml, hown, hts⟩ (mc_sp_height l dC dI a cI cZ _ v4 g2 _ h) (zz_cwV 1 hts (zz_good wm_44) rfl rfl rfl wm_45 wm_46 wm_47 wm_1 (by decide +kernel) ⟨Nat.le_of_ble_eq_true rfl, Nat.le_of_ble_eq_true rfl⟩) ⟨zz_blind, (va_recv hK hP rfl (wC_1 a cI cZ g2)), zz_pre hP hK hD hN⟩ rfl rfl hl.1 rfl (lv_room (Nat.le_of_ble_eq_true rfl)) d_li_trace_25 ⟨Nat.le_of_ble_eq_true rfl, Nat.le_of_ble_eq_true rfl⟩) hD hS hA (fun r5 g4 H locs h hP hD hS => ?_)
        refine lv_iload_n hx hb d_li_trace_28 rfl (lv_at hl 3 rfl) ?_
        refine lv_icmp_le (tgt := 36) hx hb d_li_trace_29 (by decide) (fun hc => ?_) (fun hc => ?_)
        · have h := h.1 hc
          refine lv_iconst (v := 0) hx hb d_li_trace_36 (by decide) ?_
          refine va_zast hx hb hK hP hD hS 10 1 (wC_10 a cI cZ g4) rfl h.1 d_li_trace_37 (fun H locs hP hD hS => ?_)
          obtain ⟨g6, e_g6⟩ : ∃ z : St, z = gp g4 10 (ix v4) (vp_nar .boolean 0) := ⟨_, rfl⟩
          have h := h.2 g6 e_g6
          have hP : va_P (dC, dI) zzCl (wC a cI cZ g6) H := by rw [e_g6]; exact hP
          have hD : va_D A (wC a cI cZ g6) := by rw [e_g6]; exact hD
          refine lv_iinc (k := 4) (v := (v4 + 1)) (lv' := [(4, .int (v4 + 1)), (0, .ref (a 3)), (1, .ref (a 1)), (2, .ref (a 2)), (3, .int v3)]) hx hb d_li_trace_38 hl rfl rfl (by decide) rfl (fun ls hl => ?_)
          refine lv_goto (tgt := 7) hx hb d_li_trace_41 (by decide) ?_
          exact ih _ _ _ _ hK44 h _ _ _ hP hD hS (lv_sub hl [1, 2, 3, 4, 0] rfl)
        · have h := h.2 hc
          refine lv_iconst (v := 1) hx hb d_li_trace_32 (by decide) ?_
          refine lv_goto (tgt := 37) hx hb d_li_trace_33 (by decide) ?_
          refine va_zast hx hb hK hP hD hS 10 1 (wC_10 a cI cZ g4) rfl h.1 d_li_trace_37 (fun H locs hP hD hS => ?_)
          obtain ⟨g7, e_g7⟩ : ∃ z : St, z = gp g4 10 (ix v4) (vp_nar .boolean 1) := ⟨_, rfl⟩
          have h := h.2 g7 e_g7
          have hP : va_P (dC, dI) zzCl (wC a cI cZ g7) H := by rw [e_g7]; exact hP
          have hD : va_D A (wC a cI cZ g7) := by rw [e_g7]; exact hD
          refine lv_iinc (k := 4) (v := (v4 + 1)) (lv' := [(4, .int (v4 + 1)), (0, .ref (a 3)), (1, .ref (a 1)), (2, .ref (a 2)), (3, .int v3)]) hx hb d_li_trace_38 hl rfl rfl (by decide) rfl (fun ls hl => ?_)
          refine lv_goto (tgt := 7) hx hb d_li_trace_41 (by decide) ?_
          exact ih _ _ _ _ hK44 h _ _ _ hP hD hS (lv_sub hl [1, 2, 3, 4, 0] rfl)
  have L62 : ∀ (n : Nat) (v4 : Int32) (v5 : Int32) (g : St) (K139 : Int32 → St → Prop) , (∀ (v4 : Int32) (g : St), K139 v4 g → ∀ (H : Heap) (locs : List Loc) (ls : Array Slot), va_P (dC, dI) zzCl (wC a cI cZ g) H → va_D A (wC a cI cZ g) → va_S A s.heap H locs → lv_has ls 6 [(0, .ref (a 3)), (1, .ref (a 1)), (2, .ref (a 2)), (4, .int v4)] → W p l e (headSpec ww_li_trace rm_li_trace).room s m args below meth c H locs 0 0 (zz_Qv below (dC, dI) (wC a cI cZ) [(cI, .int), (cZ, .boolean)] A post args s) (F0 m 139 ls [])) → lp_li_trace_L62 n v4 v5 g K139 post → ∀ (H : Heap) (locs : List Loc) (ls : Array Slot), va_P (dC, dI) zzCl (wC a cI cZ g) H → va_D A (wC a cI cZ g) → va_S A s.heap H locs → lv_has ls 6 [(0, .ref (a 3)), (1, .ref (a 1)), (2, .ref (a 2)), (4, .int v4), (5, .int v5)] → W p l e (headSpec ww_li_trace rm_li_trace).room s m args below meth c H locs 0 0 (zz_Qv below (dC, dI) (wC a cI cZ) [(cI, .int), (cZ, .boolean)] A post args s) (F0 m 62 ls []) := by
    intro n
    induction n with
    | zero => intro v4 v5 g K139 hK139 h; exact h.elim
    | succ n ih =>
      intro v4 v5 g K139 hK139 h H locs ls hP hD hS hl
      unfold lp_li_trace_L62 at h
      refine lv_iload hx hb d_li_trace_62 (lv_at hl 4 rfl) ?_
      refine lv_aload_n hx hb d_li_trace_64 rfl (lv_at hl 1 rfl) ?_
      refine zz_ci (va_runV (As := []) (rest := [.int v5]) ⟨hx, hb, hml, hown, hts⟩ (mc_sp_size l dC dI a cI cZ _  g _ h) (zz_cwV 0 hts (zz_good wm_48) rfl rfl rfl wm_49 wm_50 wm_51 wm_1 (by decide +kernel) ⟨Nat.le_of_ble_eq_true rfl, Nat.le_of_ble_eq_true rfl⟩) ⟨zz_blind, (va_recv hK hP rfl (wC_1 a cI cZ g)), zz_pre hP hK hD hN⟩ rfl rfl hl.1 rfl (lv_room (Nat.le_of_ble_eq_true rfl)) d_li_trace_65 ⟨Nat.le_of_ble_eq_true rfl, Nat.le_of_ble_eq_true rfl⟩) hD hS hA (fun r12 g11 H locs h hP hD hS => ?_)
      refine lv_icmp_ge (tgt := 139) hx hb d_li_trace_68 (by decide) (fun hc => ?_) (fun hc => ?_)
      · have h := h.1 hc
        exact hK139 _ _ h _ _ _ hP hD hS (lv_sub hl [0, 1, 2, 3] rfl)
      · have h := h.2 hc
        refine lv_aload_n hx hb d_li_trace_71 rfl (lv_at hl 0 rfl) ?_
        refine va_get (D := (dC, dI)) (ci := 0) (v := .ref (a 10)) (C := R_li) (T := T_li) (N := 6) hx hb hts hin__li hown hK hP 3 (wC_3 a cI cZ g11) rfl 0 (by decide) fl_9 (fun _ h9 => h9) rfl d_li_trace_72 ?_
        refine lv_iload hx hb d_li_trace_75 (lv_at hl 3 rfl) ?_
        refine va_zald hx hb hK hP 10 1 (wC_10 a cI cZ g11) rfl h.1 d_li_trace_77 ?_
        have h := h.2
        refine lv_aload_n hx hb d_li_trace_78 rfl (lv_at hl 0 rfl) ?_
        refine va_get (D := (dC, dI)) (ci := 0) (v := .ref (a 10)) (C := R_li) (T := T_li) (N := 6) hx hb hts hin__li hown hK hP 3 (wC_3 a cI cZ g11) rfl 0 (by decide) fl_9 (fun _ h9 => h9) rfl d_li_trace_79 ?_
        refine lv_iload hx hb d_li_trace_82 (lv_at hl 4 rfl) ?_
        refine va_zald hx hb hK hP 10 1 (wC_10 a cI cZ g11) rfl h.1 d_li_trace_84 ?_
        have h := h.2
        refine lv_icmp_eq (tgt := 133) hx hb d_li_trace_85 (by decide) (fun hc => ?_) (fun hc => ?_)
        · have h := h.1 hc
          refine lv_iinc (k := 4) (v := (v5 + 1)) (lv' := [(5, .int (v5 + 1)), (0, .ref (a 3)), (1, .ref (a 1)), (2, .ref (a 2)), (4, .int v4)]) hx hb d_li_trace_133 hl rfl rfl (by decide) rfl (fun ls hl => ?_)
          refine lv_goto (tgt := 62) hx hb d_li_trace_136 (by decide) ?_
          exact ih _ _ _ _ hK139 h _ _ _ hP hD hS (lv_sub hl [1, 2, 3, 4, 0] rfl)
        · have h := h.2 hc
          refine lv_aload_n hx hb d_li_trace_88 rfl (lv_at hl 2 rfl) ?_
          refine lv_iload hx hb d_li_trace_89 (lv_at hl 3 rfl) ?_
          refine lv_iload hx hb d_li_trace_91 (lv_at hl 4 rfl) ?_
          refine zz_ci (va_runV (As := [.int v4, .int v5]) (rest := []) ⟨hx, hb, hml, hown, hts⟩ (mc_me_sharing l dC dI a cI cZ _ v4 v5 g11 _ h) (zz_cwV 2 hts (zz_good wm_56) rfl rfl rfl wm_57 wm_58 wm_59 wm_23 (by decide +kernel) ⟨Nat.le_of_ble_eq_true rfl, Nat.le_of_ble_eq_true rfl⟩) ⟨zz_blind, (va_recv hK hP rfl (wC_2 a cI cZ g11)), zz_pre hP hK hD hN⟩ rfl rfl hl.1 rfl (lv_room (Nat.le_of_ble_eq_true rfl)) d_li_trace_93 ⟨Nat.le_of_ble_eq_true rfl, Nat.le_of_ble_eq_true rfl⟩) hD hS hA (fun r14 g13 H locs h hP hD hS => ?_)
          refine lv_if_le (tgt := 133) hx hb d_li_trace_96 (by decide) (fun hc => ?_) (fun hc => ?_)
          · have h := h.1 hc
            refine lv_iinc (k := 4) (v := (v5 + 1)) (lv' := [(5, .int (v5 + 1)), (0, .ref (a 3)), (1, .ref (a 1)), (2, .ref (a 2)), (4, .int v4)]) hx hb d_li_trace_133 hl rfl rfl (by decide) rfl (fun ls hl => ?_)
            refine lv_goto (tgt := 62) hx hb d_li_trace_136 (by decide) ?_
            exact ih _ _ _ _ hK139 h _ _ _ hP hD hS (lv_sub hl [1, 2, 3, 4, 0] rfl)
          · have h := h.2 hc
            refine lv_aload_n hx hb d_li_trace_99 rfl (lv_at hl 0 rfl) ?_
            refine lv_aload_n hx hb d_li_trace_100 rfl (lv_at hl 2 rfl) ?_
            refine lv_aload_n hx hb d_li_trace_101 rfl (lv_at hl 0 rfl) ?_
            refine va_get (D := (dC, dI)) (ci := 0) (v := .ref (a 10)) (C := R_li) (T := T_li) (N := 6) hx hb hts hin__li hown hK hP 3 (wC_3 a cI cZ g13) rfl 0 (by decide) fl_9 (fun _ h9 => h9) rfl d_li_trace_102 ?_
            refine lv_iload hx hb d_li_trace_105 (lv_at hl 3 rfl) ?_
            refine va_zald hx hb hK hP 10 1 (wC_10 a cI cZ g13) rfl h.1 d_li_trace_107 ?_
            have h := h.2
            refine lv_if_eq (tgt := 122) hx hb d_li_trace_108 (by decide) (fun hc => ?_) (fun hc => ?_)
            · have h := h.1 hc
              refine lv_bipush (v := 16) hx hb d_li_trace_122 (by decide) ?_
              refine lv_iload hx hb d_li_trace_124 (lv_at hl 4 rfl) ?_
              refine lv_imul hx hb d_li_trace_126 ?_
              refine lv_iload hx hb d_li_trace_127 (lv_at hl 3 rfl) ?_
              refine lv_iadd hx hb d_li_trace_129 ?_
              refine zz_cv (va_runV (As := [.ref (a 2), .int ((16 * v5) + v4)]) (rest := []) ⟨hx, hb, hml, hown, hts⟩ (mc_li_traceFrom l dC dI a cI cZ _ ((16 * v5) + v4) g13 _ h) (zz_cwV 2 hts (zz_good wm_52) rfl rfl rfl wm_53 wm_54 wm_55 wm_6 (by decide +kernel) ⟨Nat.le_of_ble_eq_true rfl, Nat.le_of_ble_eq_true rfl⟩) ⟨zz_blind, (va_recv hK hP rfl (wC_3 a cI cZ g13)), zz_pre hP hK hD hN⟩ rfl rfl hl.1 rfl (lv_room (Nat.le_of_ble_eq_true rfl)) d_li_trace_130 ⟨Nat.le_of_ble_eq_true rfl, Nat.le_of_ble_eq_true rfl⟩) hD hS hA (fun g15 H locs h hP hD hS => ?_)
              refine lv_iinc (k := 4) (v := (v5 + 1)) (lv' := [(5, .int (v5 + 1)), (0, .ref (a 3)), (1, .ref (a 1)), (2, .ref (a 2)), (4, .int v4)]) hx hb d_li_trace_133 hl rfl rfl (by decide) rfl (fun ls hl => ?_)
              refine lv_goto (tgt := 62) hx hb d_li_trace_136 (by decide) ?_
              exact ih _ _ _ _ hK139 h _ _ _ hP hD hS (lv_sub hl [1, 2, 3, 4, 0] rfl)
            · have h := h.2 hc
              refine lv_bipush (v := 16) hx hb d_li_trace_111 (by decide) ?_
              refine lv_iload hx hb d_li_trace_113 (lv_at hl 3 rfl) ?_
              refine lv_imul hx hb d_li_trace_115 ?_
              refine lv_iload hx hb d_li_trace_116 (lv_at hl 4 rfl) ?_
              refine lv_iadd hx hb d_li_trace_118 ?_
              refine lv_goto (tgt := 130) hx hb d_li_trace_119 (by decide) ?_
              refine zz_cv (va_runV (As := [.ref (a 2), .int ((16 * v4) + v5)]) (rest := []) ⟨hx, hb, hml, hown, hts⟩ (mc_li_traceFrom l dC dI a cI cZ _ ((16 * v4) + v5) g13 _ h) (zz_cwV 2 hts (zz_good wm_52) rfl rfl rfl wm_53 wm_54 wm_55 wm_6 (by decide +kernel) ⟨Nat.le_of_ble_eq_true rfl, Nat.le_of_ble_eq_true rfl⟩) ⟨zz_blind, (va_recv hK hP rfl (wC_3 a cI cZ g13)), zz_pre hP hK hD hN⟩ rfl rfl hl.1 rfl (lv_room (Nat.le_of_ble_eq_true rfl)) d_li_trace_130 ⟨Nat.le_of_ble_eq_true rfl, Nat.le_of_ble_eq_true rfl⟩) hD hS hA (fun g16 H locs h hP hD hS => ?_)
              refine lv_iinc (k := 4) (v := (v5 + 1)) (lv' := [(5, .int (v5 + 1)), (0, .ref (a 3)), (1, .ref (a 1)), (2, .ref (a 2)), (4, .int v4)]) hx hb d_li_trace_133 hl rfl rfl (by decide) rfl (fun ls hl => ?_)
              refine lv_goto (tgt := 62) hx hb d_li_trace_136 (by decide) ?_
              exact ih _ _ _ _ hK139 h _ _ _ hP hD hS (lv_sub hl [1, 2, 3, 4, 0] rfl)
  have L47 : ∀ (n : Nat) (v4 : Int32) (g : St) (K145 : St → Prop) , (∀ (g : St), K145 g → ∀ (H : Heap) (locs : List Loc) (ls : Array Slot), va_P (dC, dI) zzCl (wC a cI cZ g) H → va_D A (wC a cI cZ g) → va_S A s.heap H locs → lv_has ls 6 [] → W p l e (headSpec ww_li_trace rm_li_trace).room s m args below meth c H locs 0 0 (zz_Qv below (dC, dI) (wC a cI cZ) [(cI, .int), (cZ, .boolean)] A post args s) (F0 m 145 ls [])) → lp_li_trace_L47 n v4 g K145 post → ∀ (H : Heap) (locs : List Loc) (ls : Array Slot), va_P (dC, dI) zzCl (wC a cI cZ g) H → va_D A (wC a cI cZ g) → va_S A s.heap H locs → lv_has ls 6 [(0, .ref (a 3)), (1, .ref (a 1)), (2, .ref (a 2)), (4, .int v4)] → W p l e (headSpec ww_li_trace rm_li_trace).room s m args below meth c H locs 0 0 (zz_Qv below (dC, dI) (wC a cI cZ) [(cI, .int), (cZ, .boolean)] A post args s) (F0 m 47 ls []) := by
    intro n
    induction n with
    | zero => intro v4 g K145 hK145 h; exact h.elim
    | succ n ih =>
      intro v4 g K145 hK145 h H locs ls hP hD hS hl
      unfold lp_li_trace_L47 at h
      refine lv_iload hx hb d_li_trace_47 (lv_at hl 3 rfl) ?_
      refine lv_aload_n hx hb d_li_trace_49 rfl (lv_at hl 1 rfl) ?_
      refine zz_ci (va_runV (As := []) (rest := [.int v4]) ⟨hx, hb, hml, hown, hts⟩ (mc_sp_size l dC dI a cI cZ _  g _ h) (zz_cwV 0 hts (zz_good wm_48) rfl rfl rfl wm_49 wm_50 wm_51 wm_1 (by decide +kernel) ⟨Nat.le_of_ble_eq_true rfl, Nat.le_of_ble_eq_true rfl⟩) ⟨zz_blind, (va_recv hK hP rfl (wC_1 a cI cZ g)), zz_pre hP hK hD hN⟩ rfl rfl hl.1 rfl (lv_room (Nat.le_of_ble_eq_true rfl)) d_li_trace_50 ⟨Nat.le_of_ble_eq_true rfl, Nat.le_of_ble_eq_true rfl⟩) hD hS hA (fun r10 g9 H locs h hP hD hS => ?_)
      refine lv_icmp_ge (tgt := 145) hx hb d_li_trace_53 (by decide) (fun hc => ?_) (fun hc => ?_)
      · have h := h.1 hc
        exact hK145 _ h _ _ _ hP hD hS (lv_sub hl [] rfl)
      · have h := h.2 hc
        refine lv_iload hx hb d_li_trace_56 (lv_at hl 3 rfl) ?_
        refine lv_iconst (v := 1) hx hb d_li_trace_58 (by decide) ?_
        refine lv_iadd hx hb d_li_trace_59 ?_
        refine lv_istore (lv' := [(5, .int (v4 + 1)), (0, .ref (a 3)), (1, .ref (a 1)), (2, .ref (a 2)), (4, .int v4)]) hx hb d_li_trace_60 hl (by decide) rfl (fun ls hl => ?_)
        obtain ⟨n62, h⟩ := h
        refine L62 n62 _ _ _ _ (fun w18 g17 h H locs ls hP hD hS hl => ?_) h _ _ _ hP hD hS (lv_sub hl [1, 2, 3, 4, 0] rfl)
        refine lv_iinc (k := 3) (v := (w18 + 1)) (lv' := [(4, .int (w18 + 1)), (0, .ref (a 3)), (1, .ref (a 1)), (2, .ref (a 2))]) hx hb d_li_trace_139 hl rfl rfl (by decide) rfl (fun ls hl => ?_)
        refine lv_goto (tgt := 47) hx hb d_li_trace_142 (by decide) ?_
        exact ih _ _ _ hK145 h _ _ _ hP hD hS (lv_sub hl [1, 2, 3, 0] rfl)
  unfold wp_li_trace at h
  refine lv_aload_n hx hb d_li_trace_0 rfl (lv_at hl 0 rfl) ?_
  refine zz_cv (va_runV (As := []) (rest := []) ⟨hx, hb, hml, hown, hts⟩ (mc_li_clear l dC dI a cI cZ _  g _ h) (zz_cwV 0 hts (zz_good wm_60) rfl rfl rfl wm_61 wm_62 wm_63 wm_6 (by decide +kernel) ⟨Nat.le_of_ble_eq_true rfl, Nat.le_of_ble_eq_true rfl⟩) ⟨zz_blind, (va_recv hK hP rfl (wC_3 a cI cZ g)), zz_pre hP hK hD hN⟩ rfl rfl hl.1 rfl (lv_room (Nat.le_of_ble_eq_true rfl)) d_li_trace_1 ⟨Nat.le_of_ble_eq_true rfl, Nat.le_of_ble_eq_true rfl⟩) hD hS hA (fun g1 H locs h hP hD hS => ?_)
  refine lv_iconst (v := 0) hx hb d_li_trace_4 (by decide) ?_
  refine lv_istore (lv' := [(4, .int 0), (0, .ref (a 3)), (1, .ref (a 1)), (2, .ref (a 2)), (3, .int x3)]) hx hb d_li_trace_5 hl (by decide) rfl (fun ls hl => ?_)
  obtain ⟨n7, h⟩ := h
  refine L7 n7 _ _ _ _ (fun g8 h H locs ls hP hD hS hl => ?_) h _ _ _ hP hD hS (lv_sub hl [1, 2, 3, 4, 0] rfl)
  refine lv_iconst (v := 0) hx hb d_li_trace_44 (by decide) ?_
  refine lv_istore (lv' := [(4, .int 0), (0, .ref (a 3)), (1, .ref (a 1)), (2, .ref (a 2))]) hx hb d_li_trace_45 hl (by decide) rfl (fun ls hl => ?_)
  obtain ⟨n47, h⟩ := h
  refine L47 n47 _ _ _ (fun g19 h H locs ls hP hD hS hl => ?_) h _ _ _ hP hD hS (lv_sub hl [1, 2, 3, 0] rfl)
  exact W.vret hx hb hr (fun t ht hW => ⟨⟨g19, rfl, h, by rw [ht]; exact hP, va_K.moved hW.alike hK, hD⟩, hS.F ht⟩) hS.2.2 d_li_trace_145
abbrev rm_me_size : Room := { frames := 0, cells := 0, slots := 0, locals := 0 }
set_option maxHeartbeats 4000000 in
set_option maxRecDepth 100000 in
theorem mc_me_size (l : Launch) (dC : Nat → ClassId) (dI : Nat → Nat → Nat) (a : Nat → Nat) (cI cZ : ClassId) (sz : Nat) (g : St) (post : Int32 → St → Prop) (h : wp_me_size  g post) : Met l yy_me_size ww_me_size rm_me_size (zz_Pre (dC, dI) (wC a cI cZ) [(cI, .int), (cZ, .boolean)] [.ref (a 2)] g sz) (va_Qi post (zz_W (dC, dI) (wC a cI cZ) [(cI, .int), (cZ, .boolean)] (va_A (wC a cI cZ g) sz)) (va_A (wC a cI cZ g) sz)) 0 0 (va_A (wC a cI cZ g) sz) := by
  refine Met.ofW (cc := cc_me_size) (maxL := 1) (ret := (some .int)) (by decide) rfl ?_
  intro p e s m args below meth c s₁ B hml hv
  obtain ⟨hav, hsz, hP, hK, hD0, hN⟩ := hv
  have hx := B.exec
  have hb := B.bytes
  have hr := B.returns
  have hts := atoms_spec (ws := ww_me_size) B.pre
  have hown : s.vm.findClass "SpotContours$Mesh" = some m.cls := findClass_of_methodNamed B.named
  have hlocks := B.notSynchronized
  subst hsz
  have hD := hD0.self (sz := s.heap.size)
  generalize hAe : va_A (wC a cI cZ g) s.heap.size = A at hD ⊢
  have hA : ∀ q : Nat, s.heap.size ≤ q → A q := fun q h => by rw [← hAe]; exact Or.inr h
  have hS : va_S A s.heap s.heap [] := va_S.rf
  have he9 := lg_entry_eq m [.ref (a 2)] 1
  rw [← hav] at he9
  rw [he9]
  have hl := lv_entry [.ref (a 2)] (n := 1) (Nat.le_of_ble_eq_true rfl)
  generalize (lg_sl [.ref (a 2)] ++ List.replicate (1 - (lg_sl [.ref (a 2)]).length) Slot.unset).toArray = ls at hl ⊢
  have hl : lv_has ls 1 [(0, .ref (a 2))] := hl
  have hin__me : ∀ w ∈ u_ws R_me T_me 3, w ∈ ww_me_size := fun w h => zz_in (hin0_me w h)
  have fl_21 := hts (.fieldLink "SpotContours$Mesh" 21 "SpotContours$Mesh" "count" "I") (zz_in wm_366)
  unfold wp_me_size at h
  refine lv_aload_n hx hb d_me_size_0 rfl (lv_at hl 0 rfl) ?_
  refine va_get (D := (dC, dI)) (ci := 1) (v := .int (g 2 2)) (C := R_me) (T := T_me) (N := 3) hx hb hts hin__me hown hK hP 2 (wC_2 a cI cZ g) rfl 2 (by decide) fl_21 (fun _ h9 => h9) rfl d_me_size_1 ?_
  exact W.iret (v := (g 2 2)) hx hb hr (fun t ht hW => ⟨⟨(g 2 2), g, rfl, h, by rw [ht]; exact hP, va_K.moved hW.alike hK, hD⟩, hS.F ht⟩) hS.2.2 d_me_size_4
abbrev rm_me_cornerOf : Room := { frames := 0, cells := 0, slots := 0, locals := 0 }
set_option maxHeartbeats 4000000 in
set_option maxRecDepth 100000 in
theorem mc_me_cornerOf (l : Launch) (dC : Nat → ClassId) (dI : Nat → Nat → Nat) (a : Nat → Nat) (cI cZ : ClassId) (sz : Nat) (x1 : Int32) (x2 : Int32) (g : St) (post : Int32 → St → Prop) (h : wp_me_cornerOf x1 x2 g post) : Met l yy_me_cornerOf ww_me_cornerOf rm_me_cornerOf (zz_Pre (dC, dI) (wC a cI cZ) [(cI, .int), (cZ, .boolean)] [.ref (a 2), .int x1, .int x2] g sz) (va_Qi post (zz_W (dC, dI) (wC a cI cZ) [(cI, .int), (cZ, .boolean)] (va_A (wC a cI cZ g) sz)) (va_A (wC a cI cZ g) sz)) 0 0 (va_A (wC a cI cZ g) sz) := by
  refine Met.ofW (cc := cc_me_cornerOf) (maxL := 3) (ret := (some .int)) (by decide) rfl ?_
  intro p e s m args below meth c s₁ B hml hv
  obtain ⟨hav, hsz, hP, hK, hD0, hN⟩ := hv
  have hx := B.exec
  have hb := B.bytes
  have hr := B.returns
  have hts := atoms_spec (ws := ww_me_cornerOf) B.pre
  have hown : s.vm.findClass "SpotContours$Mesh" = some m.cls := findClass_of_methodNamed B.named
  have hlocks := B.notSynchronized
  subst hsz
  have hD := hD0.self (sz := s.heap.size)
  generalize hAe : va_A (wC a cI cZ g) s.heap.size = A at hD ⊢
  have hA : ∀ q : Nat, s.heap.size ≤ q → A q := fun q h => by rw [← hAe]; exact Or.inr h
  have hS : va_S A s.heap s.heap [] := va_S.rf
  have he9 := lg_entry_eq m [.ref (a 2), .int x1, .int x2] 3
  rw [← hav] at he9
  rw [he9]
  have hl := lv_entry [.ref (a 2), .int x1, .int x2] (n := 3) (Nat.le_of_ble_eq_true rfl)
  generalize (lg_sl [.ref (a 2), .int x1, .int x2] ++ List.replicate (3 - (lg_sl [.ref (a 2), .int x1, .int x2]).length) Slot.unset).toArray = ls at hl ⊢
  have hl : lv_has ls 3 [(0, .ref (a 2)), (1, .int x1), (2, .int x2)] := hl
  have hin__me : ∀ w ∈ u_ws R_me T_me 3, w ∈ ww_me_cornerOf := fun w h => zz_in (hin0_me w h)
  have fl_11 := hts (.fieldLink "SpotContours$Mesh" 11 "SpotContours$Mesh" "corners" "[I") (zz_in wm_367)
  unfold wp_me_cornerOf at h
  refine lv_aload_n hx hb d_me_cornerOf_0 rfl (lv_at hl 0 rfl) ?_
  refine va_get (D := (dC, dI)) (ci := 1) (v := .ref (a 8)) (C := R_me) (T := T_me) (N := 3) hx hb hts hin__me hown hK hP 2 (wC_2 a cI cZ g) rfl 0 (by decide) fl_11 (fun _ h9 => h9) rfl d_me_cornerOf_1 ?_
  refine lv_iconst (v := 3) hx hb d_me_cornerOf_4 (by decide) ?_
  refine lv_iload_n hx hb d_me_cornerOf_5 rfl (lv_at hl 1 rfl) ?_
  refine lv_imul hx hb d_me_cornerOf_6 ?_
  refine lv_iload_n hx hb d_me_cornerOf_7 rfl (lv_at hl 2 rfl) ?_
  refine lv_iadd hx hb d_me_cornerOf_8 ?_
  refine va_iald hx hb hK hP 8 0 (wC_8 a cI cZ g) rfl h.1 d_me_cornerOf_9 ?_
  have h := h.2
  exact W.iret (v := (g 8 (ix ((3 * x1) + x2)))) hx hb hr (fun t ht hW => ⟨⟨(g 8 (ix ((3 * x1) + x2))), g, rfl, h, by rw [ht]; exact hP, va_K.moved hW.alike hK, hD⟩, hS.F ht⟩) hS.2.2 d_me_cornerOf_10
abbrev rm_me_clear : Room := { frames := 0, cells := 0, slots := 0, locals := 0 }
set_option maxHeartbeats 4000000 in
set_option maxRecDepth 100000 in
theorem mc_me_clear (l : Launch) (dC : Nat → ClassId) (dI : Nat → Nat → Nat) (a : Nat → Nat) (cI cZ : ClassId) (sz : Nat) (g : St) (post : St → Prop) (h : wp_me_clear  g post) : Met l yy_me_clear ww_me_clear rm_me_clear (zz_Pre (dC, dI) (wC a cI cZ) [(cI, .int), (cZ, .boolean)] [.ref (a 2)] g sz) (va_Qv post (zz_W (dC, dI) (wC a cI cZ) [(cI, .int), (cZ, .boolean)] (va_A (wC a cI cZ g) sz)) (va_A (wC a cI cZ g) sz)) 0 0 (va_A (wC a cI cZ g) sz) := by
  refine Met.ofW (cc := cc_me_clear) (maxL := 2) (ret := none) (by decide) rfl ?_
  intro p e s m args below meth c s₁ B hml hv
  obtain ⟨hav, hsz, hP, hK, hD0, hN⟩ := hv
  have hx := B.exec
  have hb := B.bytes
  have hr := B.returns
  have hts := atoms_spec (ws := ww_me_clear) B.pre
  have hown : s.vm.findClass "SpotContours$Mesh" = some m.cls := findClass_of_methodNamed B.named
  have hlocks := B.notSynchronized
  subst hsz
  have hD := hD0.self (sz := s.heap.size)
  generalize hAe : va_A (wC a cI cZ g) s.heap.size = A at hD ⊢
  have hA : ∀ q : Nat, s.heap.size ≤ q → A q := fun q h => by rw [← hAe]; exact Or.inr h
  have hS : va_S A s.heap s.heap [] := va_S.rf
  have he9 := lg_entry_eq m [.ref (a 2)] 2
  rw [← hav] at he9
  rw [he9]
  have hl := lv_entry [.ref (a 2)] (n := 2) (Nat.le_of_ble_eq_true rfl)
  generalize (lg_sl [.ref (a 2)] ++ List.replicate (2 - (lg_sl [.ref (a 2)]).length) Slot.unset).toArray = ls at hl ⊢
  have hl : lv_has ls 2 [(0, .ref (a 2))] := hl
  have hin__me : ∀ w ∈ u_ws R_me T_me 3, w ∈ ww_me_clear := fun w h => zz_in (hin0_me w h)
  have fl_15 := hts (.fieldLink "SpotContours$Mesh" 15 "SpotContours$Mesh" "rightOf" "[I") (zz_in wm_365)
  have fl_21 := hts (.fieldLink "SpotContours$Mesh" 21 "SpotContours$Mesh" "count" "I") (zz_in wm_366)
  have L7 : ∀ (n : Nat) (v1 : Int32) (g : St) (K27 : St → Prop) , (∀ (g : St), K27 g → ∀ (H : Heap) (locs : List Loc) (ls : Array Slot), va_P (dC, dI) zzCl (wC a cI cZ g) H → va_D A (wC a cI cZ g) → va_S A s.heap H locs → lv_has ls 2 [] → W p l e (headSpec ww_me_clear rm_me_clear).room s m args below meth c H locs 0 0 (zz_Qv below (dC, dI) (wC a cI cZ) [(cI, .int), (cZ, .boolean)] A post args s) (F0 m 27 ls [])) → lp_me_clear_L7 n v1 g K27 post → ∀ (H : Heap) (locs : List Loc) (ls : Array Slot), va_P (dC, dI) zzCl (wC a cI cZ g) H → va_D A (wC a cI cZ g) → va_S A s.heap H locs → lv_has ls 2 [(0, .ref (a 2)), (1, .int v1)] → W p l e (headSpec ww_me_clear rm_me_clear).room s m args below meth c H locs 0 0 (zz_Qv below (dC, dI) (wC a cI cZ) [(cI, .int), (cZ, .boolean)] A post args s) (F0 m 7 ls []) := by
    intro n
    induction n with
    | zero => intro v1 g K27 hK27 h; exact h.elim
    | succ n ih =>
      intro v1 g K27 hK27 h H locs ls hP hD hS hl
      unfold lp_me_clear_L7 at h
      refine lv_iload_n hx hb d_me_clear_7 rfl (lv_at hl 1 rfl) ?_
      refine lv_sipush (v := 256) hx hb d_me_clear_8 (by decide) ?_
      refine lv_icmp_ge (tgt := 27) hx hb d_me_clear_11 (by decide) (fun hc => ?_) (fun hc => ?_)
      · have h := h.1 hc
        exact hK27 _ h _ _ _ hP hD hS (lv_sub hl [] rfl)
      · have h := h.2 hc
        refine lv_aload_n hx hb d_me_clear_14 rfl (lv_at hl 0 rfl) ?_
        refine va_get (D := (dC, dI)) (ci := 1) (v := .ref (a 9)) (C := R_me) (T := T_me) (N := 3) hx hb hts hin__me hown hK hP 2 (wC_2 a cI cZ g) rfl 1 (by decide) fl_15 (fun _ h9 => h9) rfl d_me_clear_15 ?_
        refine lv_iload_n hx hb d_me_clear_18 rfl (lv_at hl 1 rfl) ?_
        refine lv_iconst (v := (-1)) hx hb d_me_clear_19 (by decide) ?_
        refine va_iast hx hb hK hP hD hS 9 0 (wC_9 a cI cZ g) rfl h.1 d_me_clear_20 (fun H locs hP hD hS => ?_)
        obtain ⟨g2, e_g2⟩ : ∃ z : St, z = gp g 9 (ix v1) (-1) := ⟨_, rfl⟩
        have h := h.2 g2 e_g2
        have hP : va_P (dC, dI) zzCl (wC a cI cZ g2) H := by rw [e_g2]; exact hP
        have hD : va_D A (wC a cI cZ g2) := by rw [e_g2]; exact hD
        refine lv_iinc (k := 1) (v := (v1 + 1)) (lv' := [(1, .int (v1 + 1)), (0, .ref (a 2))]) hx hb d_me_clear_21 hl rfl rfl (by decide) rfl (fun ls hl => ?_)
        refine lv_goto (tgt := 7) hx hb d_me_clear_24 (by decide) ?_
        exact ih _ _ _ hK27 h _ _ _ hP hD hS (lv_sub hl [1, 0] rfl)
  unfold wp_me_clear at h
  refine lv_aload_n hx hb d_me_clear_0 rfl (lv_at hl 0 rfl) ?_
  refine lv_iconst (v := 0) hx hb d_me_clear_1 (by decide) ?_
  refine va_put (D := (dC, dI)) (ci := 1) (v := .int 0) (ty := .int) (C := R_me) (T := T_me) (N := 3) hx hb hts hin__me ty_me tok_me nmd_me hown hK hP hD hS 2 (wC_2 a cI cZ g) rfl 2 (by decide) fl_21 (fun _ h9 => h9) rfl (by decide +kernel) rfl rfl (Nat.le_of_ble_eq_true rfl) d_me_clear_2 (fun H locs hP hD hS => ?_)
  obtain ⟨g1, e_g1⟩ : ∃ z : St, z = gp g 2 2 0 := ⟨_, rfl⟩
  have h := h g1 e_g1
  have hP : va_P (dC, dI) zzCl (wC a cI cZ g1) H := by rw [e_g1]; exact hP
  have hD : va_D A (wC a cI cZ g1) := by rw [e_g1]; exact hD
  refine lv_iconst (v := 0) hx hb d_me_clear_5 (by decide) ?_
  refine lv_istore_n (lv' := [(1, .int 0), (0, .ref (a 2))]) hx hb d_me_clear_6 rfl hl (by decide) rfl (fun ls hl => ?_)
  obtain ⟨n7, h⟩ := h
  refine L7 n7 _ _ _ (fun g3 h H locs ls hP hD hS hl => ?_) h _ _ _ hP hD hS (lv_sub hl [1, 0] rfl)
  exact W.vret hx hb hr (fun t ht hW => ⟨⟨g3, rfl, h, by rw [ht]; exact hP, va_K.moved hW.alike hK, hD⟩, hS.F ht⟩) hS.2.2 d_me_clear_27
abbrev rm_sp_turnTo : Room := { frames := 0, cells := 0, slots := 0, locals := 0 }
set_option maxHeartbeats 4000000 in
set_option maxRecDepth 100000 in
theorem mc_sp_turnTo (l : Launch) (dC : Nat → ClassId) (dI : Nat → Nat → Nat) (a : Nat → Nat) (cI cZ : ClassId) (sz : Nat) (x1 : Int32) (x2 : Int32) (x3 : Int32) (x4 : Int32) (g : St) (post : Int32 → St → Prop) (h : wp_sp_turnTo x1 x2 x3 x4 g post) : Met l yy_sp_turnTo ww_sp_turnTo rm_sp_turnTo (zz_Pre (dC, dI) (wC a cI cZ) [(cI, .int), (cZ, .boolean)] [.ref (a 1), .int x1, .int x2, .int x3, .int x4] g sz) (va_Qi post (zz_W (dC, dI) (wC a cI cZ) [(cI, .int), (cZ, .boolean)] (va_A (wC a cI cZ g) sz)) (va_A (wC a cI cZ g) sz)) 0 0 (va_A (wC a cI cZ g) sz) := by
  refine Met.ofW (cc := cc_sp_turnTo) (maxL := 5) (ret := (some .int)) (by decide) rfl ?_
  intro p e s m args below meth c s₁ B hml hv
  obtain ⟨hav, hsz, hP, hK, hD0, hN⟩ := hv
  have hx := B.exec
  have hb := B.bytes
  have hr := B.returns
  have hts := atoms_spec (ws := ww_sp_turnTo) B.pre
  have hown : s.vm.findClass "SpotContours$Spots" = some m.cls := findClass_of_methodNamed B.named
  have hlocks := B.notSynchronized
  subst hsz
  have hD := hD0.self (sz := s.heap.size)
  generalize hAe : va_A (wC a cI cZ g) s.heap.size = A at hD ⊢
  have hA : ∀ q : Nat, s.heap.size ≤ q → A q := fun q h => by rw [← hAe]; exact Or.inr h
  have hS : va_S A s.heap s.heap [] := va_S.rf
  have he9 := lg_entry_eq m [.ref (a 1), .int x1, .int x2, .int x3, .int x4] 5
  rw [← hav] at he9
  rw [he9]
  have hl := lv_entry [.ref (a 1), .int x1, .int x2, .int x3, .int x4] (n := 5) (Nat.le_of_ble_eq_true rfl)
  generalize (lg_sl [.ref (a 1), .int x1, .int x2, .int x3, .int x4] ++ List.replicate (5 - (lg_sl [.ref (a 1), .int x1, .int x2, .int x3, .int x4]).length) Slot.unset).toArray = ls at hl ⊢
  have hl : lv_has ls 5 [(0, .ref (a 1)), (1, .int x1), (2, .int x2), (3, .int x3), (4, .int x4)] := hl
  have hin__sp : ∀ w ∈ u_ws R_sp T_sp 4, w ∈ ww_sp_turnTo := fun w h => zz_in (hin0_sp w h)
  have fl_9 := hts (.fieldLink "SpotContours$Spots" 9 "SpotContours$Spots" "xs" "[I") (zz_in wm_360)
  have fl_15 := hts (.fieldLink "SpotContours$Spots" 15 "SpotContours$Spots" "ys" "[I") (zz_in wm_368)
  unfold wp_sp_turnTo at h
  refine lv_aload_n hx hb d_sp_turnTo_0 rfl (lv_at hl 0 rfl) ?_
  refine va_get (D := (dC, dI)) (ci := 2) (v := .ref (a 5)) (C := R_sp) (T := T_sp) (N := 4) hx hb hts hin__sp hown hK hP 1 (wC_1 a cI cZ g) rfl 0 (by decide) fl_9 (fun _ h9 => h9) rfl d_sp_turnTo_1 ?_
  refine lv_iload_n hx hb d_sp_turnTo_4 rfl (lv_at hl 2 rfl) ?_
  refine va_iald hx hb hK hP 5 0 (wC_5 a cI cZ g) rfl h.1 d_sp_turnTo_5 ?_
  have h := h.2
  refine lv_aload_n hx hb d_sp_turnTo_6 rfl (lv_at hl 0 rfl) ?_
  refine va_get (D := (dC, dI)) (ci := 2) (v := .ref (a 5)) (C := R_sp) (T := T_sp) (N := 4) hx hb hts hin__sp hown hK hP 1 (wC_1 a cI cZ g) rfl 0 (by decide) fl_9 (fun _ h9 => h9) rfl d_sp_turnTo_7 ?_
  refine lv_iload_n hx hb d_sp_turnTo_10 rfl (lv_at hl 1 rfl) ?_
  refine va_iald hx hb hK hP 5 0 (wC_5 a cI cZ g) rfl h.1 d_sp_turnTo_11 ?_
  have h := h.2
  refine lv_isub hx hb d_sp_turnTo_12 ?_
  refine lv_iload hx hb d_sp_turnTo_13 (lv_at hl 4 rfl) ?_
  refine lv_aload_n hx hb d_sp_turnTo_15 rfl (lv_at hl 0 rfl) ?_
  refine va_get (D := (dC, dI)) (ci := 2) (v := .ref (a 6)) (C := R_sp) (T := T_sp) (N := 4) hx hb hts hin__sp hown hK hP 1 (wC_1 a cI cZ g) rfl 1 (by decide) fl_15 (fun _ h9 => h9) rfl d_sp_turnTo_16 ?_
  refine lv_iload_n hx hb d_sp_turnTo_19 rfl (lv_at hl 1 rfl) ?_
  refine va_iald hx hb hK hP 6 0 (wC_6 a cI cZ g) rfl h.1 d_sp_turnTo_20 ?_
  have h := h.2
  refine lv_isub hx hb d_sp_turnTo_21 ?_
  refine lv_imul hx hb d_sp_turnTo_22 ?_
  refine lv_aload_n hx hb d_sp_turnTo_23 rfl (lv_at hl 0 rfl) ?_
  refine va_get (D := (dC, dI)) (ci := 2) (v := .ref (a 6)) (C := R_sp) (T := T_sp) (N := 4) hx hb hts hin__sp hown hK hP 1 (wC_1 a cI cZ g) rfl 1 (by decide) fl_15 (fun _ h9 => h9) rfl d_sp_turnTo_24 ?_
  refine lv_iload_n hx hb d_sp_turnTo_27 rfl (lv_at hl 2 rfl) ?_
  refine va_iald hx hb hK hP 6 0 (wC_6 a cI cZ g) rfl h.1 d_sp_turnTo_28 ?_
  have h := h.2
  refine lv_aload_n hx hb d_sp_turnTo_29 rfl (lv_at hl 0 rfl) ?_
  refine va_get (D := (dC, dI)) (ci := 2) (v := .ref (a 6)) (C := R_sp) (T := T_sp) (N := 4) hx hb hts hin__sp hown hK hP 1 (wC_1 a cI cZ g) rfl 1 (by decide) fl_15 (fun _ h9 => h9) rfl d_sp_turnTo_30 ?_
  refine lv_iload_n hx hb d_sp_turnTo_33 rfl (lv_at hl 1 rfl) ?_
  refine va_iald hx hb hK hP 6 0 (wC_6 a cI cZ g) rfl h.1 d_sp_turnTo_34 ?_
  have h := h.2
  refine lv_isub hx hb d_sp_turnTo_35 ?_
  refine lv_iload_n hx hb d_sp_turnTo_36 rfl (lv_at hl 3 rfl) ?_
  refine lv_aload_n hx hb d_sp_turnTo_37 rfl (lv_at hl 0 rfl) ?_
  refine va_get (D := (dC, dI)) (ci := 2) (v := .ref (a 5)) (C := R_sp) (T := T_sp) (N := 4) hx hb hts hin__sp hown hK hP 1 (wC_1 a cI cZ g) rfl 0 (by decide) fl_9 (fun _ h9 => h9) rfl d_sp_turnTo_38 ?_
  refine lv_iload_n hx hb d_sp_turnTo_41 rfl (lv_at hl 1 rfl) ?_
  refine va_iald hx hb hK hP 5 0 (wC_5 a cI cZ g) rfl h.1 d_sp_turnTo_42 ?_
  have h := h.2
  refine lv_isub hx hb d_sp_turnTo_43 ?_
  refine lv_imul hx hb d_sp_turnTo_44 ?_
  refine lv_isub hx hb d_sp_turnTo_45 ?_
  exact W.iret (v := ((((g 5 (ix x2)) - (g 5 (ix x1))) * (x4 - (g 6 (ix x1)))) - (((g 6 (ix x2)) - (g 6 (ix x1))) * (x3 - (g 5 (ix x1)))))) hx hb hr (fun t ht hW => ⟨⟨((((g 5 (ix x2)) - (g 5 (ix x1))) * (x4 - (g 6 (ix x1)))) - (((g 6 (ix x2)) - (g 6 (ix x1))) * (x3 - (g 5 (ix x1))))), g, rfl, h, by rw [ht]; exact hP, va_K.moved hW.alike hK, hD⟩, hS.F ht⟩) hS.2.2 d_sp_turnTo_46
