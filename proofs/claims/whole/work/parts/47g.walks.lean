/-! Contracts by their walks, printed. -/
abbrev rm_mo_findTriangles : Room := { frames := 4, cells := 0, slots := 0, locals := 102 }
set_option maxHeartbeats 4000000 in
set_option maxRecDepth 100000 in
theorem mc_mo_findTriangles (l : Launch) (dC : Nat → ClassId) (dI : Nat → Nat → Nat) (a : Nat → Nat) (cI cZ : ClassId) (sz : Nat) (g : St) (post : St → Prop) (h : wp_mo_findTriangles  g post) : Met l yy_mo_findTriangles ww_mo_findTriangles rm_mo_findTriangles (zz_Pre (dC, dI) (wM a cI cZ) [(cI, .int), (cZ, .boolean)] [.ref (a 0)] g sz) (va_Qv post (zz_W (dC, dI) (wM a cI cZ) [(cI, .int), (cZ, .boolean)] (va_A (wM a cI cZ g) sz)) (va_A (wM a cI cZ g) sz)) 0 0 (va_A (wM a cI cZ g) sz) := by
  refine Met.ofW (cc := cc_mo_findTriangles) (maxL := 4) (ret := none) (by decide) rfl ?_
  intro p e s m args below meth c s₁ B hml hv
  obtain ⟨hav, hsz, hP, hK, hD0, hN⟩ := hv
  have hx := B.exec
  have hb := B.bytes
  have hr := B.returns
  have hts := atoms_spec (ws := ww_mo_findTriangles) B.pre
  have hown : s.vm.findClass "SpotContoursModel" = some m.cls := findClass_of_methodNamed B.named
  have hlocks := B.notSynchronized
  subst hsz
  have hD := hD0.self (sz := s.heap.size)
  generalize hAe : va_A (wM a cI cZ g) s.heap.size = A at hD ⊢
  have hA : ∀ q : Nat, s.heap.size ≤ q → A q := fun q h => by rw [← hAe]; exact Or.inr h
  have hS : va_S A s.heap s.heap [] := va_S.rf
  have he9 := lg_entry_eq m [.ref (a 0)] 4
  rw [← hav] at he9
  rw [he9]
  have hl := lv_entry [.ref (a 0)] (n := 4) (Nat.le_of_ble_eq_true rfl)
  generalize (lg_sl [.ref (a 0)] ++ List.replicate (4 - (lg_sl [.ref (a 0)]).length) Slot.unset).toArray = ls at hl ⊢
  have hl : lv_has ls 4 [(0, .ref (a 0))] := hl
  have hin__mo : ∀ w ∈ u_ws R_mo T_mo 21, w ∈ ww_mo_findTriangles := fun w h => zz_in (hin0_mo w h)
  have fl_19 := hts (.fieldLink "SpotContoursModel" 19 "SpotContoursModel" "corners" "[I") (zz_in wm_381)
  have fl_60 := hts (.fieldLink "SpotContoursModel" 60 "SpotContoursModel" "spots" "I") (zz_in wm_378)
  have fl_92 := hts (.fieldLink "SpotContoursModel" 92 "SpotContoursModel" "count" "I") (zz_in wm_382)
  have L31 : ∀ (n : Nat) (v1 : Int32) (v2 : Int32) (v3 : Int32) (g : St) (K105 : Int32 → Int32 → St → Prop) , (∀ (v1 : Int32) (v2 : Int32) (g : St), K105 v1 v2 g → ∀ (H : Heap) (locs : List Loc) (ls : Array Slot), va_P (dC, dI) zzCl (wM a cI cZ g) H → va_D A (wM a cI cZ g) → va_S A s.heap H locs → lv_has ls 4 [(0, .ref (a 0)), (1, .int v1), (2, .int v2)] → W p l e (headSpec ww_mo_findTriangles rm_mo_findTriangles).room s m args below meth c H locs 0 0 (zz_Qv below (dC, dI) (wM a cI cZ) [(cI, .int), (cZ, .boolean)] A post args s) (F0 m 105 ls [])) → lp_mo_findTriangles_L31 n v1 v2 v3 g K105 post → ∀ (H : Heap) (locs : List Loc) (ls : Array Slot), va_P (dC, dI) zzCl (wM a cI cZ g) H → va_D A (wM a cI cZ g) → va_S A s.heap H locs → lv_has ls 4 [(0, .ref (a 0)), (1, .int v1), (2, .int v2), (3, .int v3)] → W p l e (headSpec ww_mo_findTriangles rm_mo_findTriangles).room s m args below meth c H locs 0 0 (zz_Qv below (dC, dI) (wM a cI cZ) [(cI, .int), (cZ, .boolean)] A post args s) (F0 m 31 ls []) := by
    intro n
    induction n with
    | zero => intro v1 v2 v3 g K105 hK105 h; exact h.elim
    | succ n ih =>
      intro v1 v2 v3 g K105 hK105 h H locs ls hP hD hS hl
      unfold lp_mo_findTriangles_L31 at h
      refine lv_iload_n hx hb d_mo_findTriangles_31 rfl (lv_at hl 3 rfl) ?_
      refine lv_aload_n hx hb d_mo_findTriangles_32 rfl (lv_at hl 0 rfl) ?_
      refine va_get (D := (dC, dI)) (ci := 5) (v := .int (g 0 1)) (C := R_mo) (T := T_mo) (N := 21) hx hb hts hin__mo hown hK hP 0 (wM_0 a cI cZ g) rfl 1 (by decide) fl_60 (fun _ h9 => h9) rfl d_mo_findTriangles_33 ?_
      refine lv_icmp_ge (tgt := 105) hx hb d_mo_findTriangles_36 (by decide) (fun hc => ?_) (fun hc => ?_)
      · have h := h.1 hc
        exact hK105 _ _ _ h _ _ _ hP hD hS (lv_sub hl [0, 1, 2] rfl)
      · have h := h.2 hc
        refine lv_aload_n hx hb d_mo_findTriangles_39 rfl (lv_at hl 0 rfl) ?_
        refine lv_iload_n hx hb d_mo_findTriangles_40 rfl (lv_at hl 1 rfl) ?_
        refine lv_iload_n hx hb d_mo_findTriangles_41 rfl (lv_at hl 2 rfl) ?_
        refine lv_iload_n hx hb d_mo_findTriangles_42 rfl (lv_at hl 3 rfl) ?_
        refine zz_ci (va_runV (As := [.int v1, .int v2, .int v3]) (rest := []) ⟨hx, hb, hml, hown, hts⟩ (mc_mo_isTriangle l dC dI a cI cZ _ v1 v2 v3 g _ h) (zz_cwV 3 hts (zz_good wm_278) rfl rfl rfl wm_279 wm_280 wm_281 wm_258 (by decide +kernel) ⟨Nat.le_of_ble_eq_true rfl, Nat.le_of_ble_eq_true rfl⟩) ⟨zz_blind, (va_recv hK hP rfl (wM_0 a cI cZ g)), zz_pre hP hK hD hN⟩ rfl rfl hl.1 rfl (lv_room (Nat.le_of_ble_eq_true rfl)) d_mo_findTriangles_43 ⟨Nat.le_of_ble_eq_true rfl, Nat.le_of_ble_eq_true rfl⟩) hD hS hA (fun r3 g2 H locs h hP hD hS => ?_)
        refine lv_if_eq (tgt := 99) hx hb d_mo_findTriangles_46 (by decide) (fun hc => ?_) (fun hc => ?_)
        · have h := h.1 hc
          refine lv_iinc (k := 3) (v := (v3 + 1)) (lv' := [(3, .int (v3 + 1)), (0, .ref (a 0)), (1, .int v1), (2, .int v2)]) hx hb d_mo_findTriangles_99 hl rfl rfl (by decide) rfl (fun ls hl => ?_)
          refine lv_goto (tgt := 31) hx hb d_mo_findTriangles_102 (by decide) ?_
          exact ih _ _ _ _ _ hK105 h _ _ _ hP hD hS (lv_sub hl [1, 2, 3, 0] rfl)
        · have h := h.2 hc
          refine lv_aload_n hx hb d_mo_findTriangles_49 rfl (lv_at hl 0 rfl) ?_
          refine va_get (D := (dC, dI)) (ci := 5) (v := .ref (a 4)) (C := R_mo) (T := T_mo) (N := 21) hx hb hts hin__mo hown hK hP 0 (wM_0 a cI cZ g2) rfl 6 (by decide) fl_19 (fun _ h9 => h9) rfl d_mo_findTriangles_50 ?_
          refine lv_iconst (v := 3) hx hb d_mo_findTriangles_53 (by decide) ?_
          refine lv_aload_n hx hb d_mo_findTriangles_54 rfl (lv_at hl 0 rfl) ?_
          refine va_get (D := (dC, dI)) (ci := 5) (v := .int (g2 0 5)) (C := R_mo) (T := T_mo) (N := 21) hx hb hts hin__mo hown hK hP 0 (wM_0 a cI cZ g2) rfl 5 (by decide) fl_92 (fun _ h9 => h9) rfl d_mo_findTriangles_55 ?_
          refine lv_imul hx hb d_mo_findTriangles_58 ?_
          refine lv_iload_n hx hb d_mo_findTriangles_59 rfl (lv_at hl 1 rfl) ?_
          refine va_iast hx hb hK hP hD hS 4 0 (wM_4 a cI cZ g2) rfl h.1 d_mo_findTriangles_60 (fun H locs hP hD hS => ?_)
          obtain ⟨g4, e_g4⟩ : ∃ z : St, z = gp g2 4 (ix (3 * (g2 0 5))) v1 := ⟨_, rfl⟩
          have h := h.2 g4 e_g4
          have hP : va_P (dC, dI) zzCl (wM a cI cZ g4) H := by rw [e_g4]; exact hP
          have hD : va_D A (wM a cI cZ g4) := by rw [e_g4]; exact hD
          refine lv_aload_n hx hb d_mo_findTriangles_61 rfl (lv_at hl 0 rfl) ?_
          refine va_get (D := (dC, dI)) (ci := 5) (v := .ref (a 4)) (C := R_mo) (T := T_mo) (N := 21) hx hb hts hin__mo hown hK hP 0 (wM_0 a cI cZ g4) rfl 6 (by decide) fl_19 (fun _ h9 => h9) rfl d_mo_findTriangles_62 ?_
          refine lv_iconst (v := 3) hx hb d_mo_findTriangles_65 (by decide) ?_
          refine lv_aload_n hx hb d_mo_findTriangles_66 rfl (lv_at hl 0 rfl) ?_
          refine va_get (D := (dC, dI)) (ci := 5) (v := .int (g4 0 5)) (C := R_mo) (T := T_mo) (N := 21) hx hb hts hin__mo hown hK hP 0 (wM_0 a cI cZ g4) rfl 5 (by decide) fl_92 (fun _ h9 => h9) rfl d_mo_findTriangles_67 ?_
          refine lv_imul hx hb d_mo_findTriangles_70 ?_
          refine lv_iconst (v := 1) hx hb d_mo_findTriangles_71 (by decide) ?_
          refine lv_iadd hx hb d_mo_findTriangles_72 ?_
          refine lv_iload_n hx hb d_mo_findTriangles_73 rfl (lv_at hl 2 rfl) ?_
          refine va_iast hx hb hK hP hD hS 4 0 (wM_4 a cI cZ g4) rfl h.1 d_mo_findTriangles_74 (fun H locs hP hD hS => ?_)
          obtain ⟨g5, e_g5⟩ : ∃ z : St, z = gp g4 4 (ix ((3 * (g4 0 5)) + 1)) v2 := ⟨_, rfl⟩
          have h := h.2 g5 e_g5
          have hP : va_P (dC, dI) zzCl (wM a cI cZ g5) H := by rw [e_g5]; exact hP
          have hD : va_D A (wM a cI cZ g5) := by rw [e_g5]; exact hD
          refine lv_aload_n hx hb d_mo_findTriangles_75 rfl (lv_at hl 0 rfl) ?_
          refine va_get (D := (dC, dI)) (ci := 5) (v := .ref (a 4)) (C := R_mo) (T := T_mo) (N := 21) hx hb hts hin__mo hown hK hP 0 (wM_0 a cI cZ g5) rfl 6 (by decide) fl_19 (fun _ h9 => h9) rfl d_mo_findTriangles_76 ?_
          refine lv_iconst (v := 3) hx hb d_mo_findTriangles_79 (by decide) ?_
          refine lv_aload_n hx hb d_mo_findTriangles_80 rfl (lv_at hl 0 rfl) ?_
          refine va_get (D := (dC, dI)) (ci := 5) (v := .int (g5 0 5)) (C := R_mo) (T := T_mo) (N := 21) hx hb hts hin__mo hown hK hP 0 (wM_0 a cI cZ g5) rfl 5 (by decide) fl_92 (fun _ h9 => h9) rfl d_mo_findTriangles_81 ?_
          refine lv_imul hx hb d_mo_findTriangles_84 ?_
          refine lv_iconst (v := 2) hx hb d_mo_findTriangles_85 (by decide) ?_
          refine lv_iadd hx hb d_mo_findTriangles_86 ?_
          refine lv_iload_n hx hb d_mo_findTriangles_87 rfl (lv_at hl 3 rfl) ?_
          refine va_iast hx hb hK hP hD hS 4 0 (wM_4 a cI cZ g5) rfl h.1 d_mo_findTriangles_88 (fun H locs hP hD hS => ?_)
          obtain ⟨g6, e_g6⟩ : ∃ z : St, z = gp g5 4 (ix ((3 * (g5 0 5)) + 2)) v3 := ⟨_, rfl⟩
          have h := h.2 g6 e_g6
          have hP : va_P (dC, dI) zzCl (wM a cI cZ g6) H := by rw [e_g6]; exact hP
          have hD : va_D A (wM a cI cZ g6) := by rw [e_g6]; exact hD
          refine lv_aload_n hx hb d_mo_findTriangles_89 rfl (lv_at hl 0 rfl) ?_
          refine lv_dup hx hb d_mo_findTriangles_90 rfl ?_
          refine va_get (D := (dC, dI)) (ci := 5) (v := .int (g6 0 5)) (C := R_mo) (T := T_mo) (N := 21) hx hb hts hin__mo hown hK hP 0 (wM_0 a cI cZ g6) rfl 5 (by decide) fl_92 (fun _ h9 => h9) rfl d_mo_findTriangles_91 ?_
          refine lv_iconst (v := 1) hx hb d_mo_findTriangles_94 (by decide) ?_
          refine lv_iadd hx hb d_mo_findTriangles_95 ?_
          refine va_put (D := (dC, dI)) (ci := 5) (v := .int ((g6 0 5) + 1)) (ty := .int) (C := R_mo) (T := T_mo) (N := 21) hx hb hts hin__mo ty_mo tok_mo nmd_mo hown hK hP hD hS 0 (wM_0 a cI cZ g6) rfl 5 (by decide) fl_92 (fun _ h9 => h9) rfl (by decide +kernel) rfl rfl (Nat.le_of_ble_eq_true rfl) d_mo_findTriangles_96 (fun H locs hP hD hS => ?_)
          obtain ⟨g7, e_g7⟩ : ∃ z : St, z = gp g6 0 5 ((g6 0 5) + 1) := ⟨_, rfl⟩
          have h := h g7 e_g7
          have hP : va_P (dC, dI) zzCl (wM a cI cZ g7) H := by rw [e_g7]; exact hP
          have hD : va_D A (wM a cI cZ g7) := by rw [e_g7]; exact hD
          refine lv_iinc (k := 3) (v := (v3 + 1)) (lv' := [(3, .int (v3 + 1)), (0, .ref (a 0)), (1, .int v1), (2, .int v2)]) hx hb d_mo_findTriangles_99 hl rfl rfl (by decide) rfl (fun ls hl => ?_)
          refine lv_goto (tgt := 31) hx hb d_mo_findTriangles_102 (by decide) ?_
          exact ih _ _ _ _ _ hK105 h _ _ _ hP hD hS (lv_sub hl [1, 2, 3, 0] rfl)
  have L19 : ∀ (n : Nat) (v1 : Int32) (v2 : Int32) (g : St) (K111 : Int32 → St → Prop) , (∀ (v1 : Int32) (g : St), K111 v1 g → ∀ (H : Heap) (locs : List Loc) (ls : Array Slot), va_P (dC, dI) zzCl (wM a cI cZ g) H → va_D A (wM a cI cZ g) → va_S A s.heap H locs → lv_has ls 4 [(0, .ref (a 0)), (1, .int v1)] → W p l e (headSpec ww_mo_findTriangles rm_mo_findTriangles).room s m args below meth c H locs 0 0 (zz_Qv below (dC, dI) (wM a cI cZ) [(cI, .int), (cZ, .boolean)] A post args s) (F0 m 111 ls [])) → lp_mo_findTriangles_L19 n v1 v2 g K111 post → ∀ (H : Heap) (locs : List Loc) (ls : Array Slot), va_P (dC, dI) zzCl (wM a cI cZ g) H → va_D A (wM a cI cZ g) → va_S A s.heap H locs → lv_has ls 4 [(0, .ref (a 0)), (1, .int v1), (2, .int v2)] → W p l e (headSpec ww_mo_findTriangles rm_mo_findTriangles).room s m args below meth c H locs 0 0 (zz_Qv below (dC, dI) (wM a cI cZ) [(cI, .int), (cZ, .boolean)] A post args s) (F0 m 19 ls []) := by
    intro n
    induction n with
    | zero => intro v1 v2 g K111 hK111 h; exact h.elim
    | succ n ih =>
      intro v1 v2 g K111 hK111 h H locs ls hP hD hS hl
      unfold lp_mo_findTriangles_L19 at h
      refine lv_iload_n hx hb d_mo_findTriangles_19 rfl (lv_at hl 2 rfl) ?_
      refine lv_aload_n hx hb d_mo_findTriangles_20 rfl (lv_at hl 0 rfl) ?_
      refine va_get (D := (dC, dI)) (ci := 5) (v := .int (g 0 1)) (C := R_mo) (T := T_mo) (N := 21) hx hb hts hin__mo hown hK hP 0 (wM_0 a cI cZ g) rfl 1 (by decide) fl_60 (fun _ h9 => h9) rfl d_mo_findTriangles_21 ?_
      refine lv_icmp_ge (tgt := 111) hx hb d_mo_findTriangles_24 (by decide) (fun hc => ?_) (fun hc => ?_)
      · have h := h.1 hc
        exact hK111 _ _ h _ _ _ hP hD hS (lv_sub hl [0, 1] rfl)
      · have h := h.2 hc
        refine lv_iload_n hx hb d_mo_findTriangles_27 rfl (lv_at hl 2 rfl) ?_
        refine lv_iconst (v := 1) hx hb d_mo_findTriangles_28 (by decide) ?_
        refine lv_iadd hx hb d_mo_findTriangles_29 ?_
        refine lv_istore_n (lv' := [(3, .int (v2 + 1)), (0, .ref (a 0)), (1, .int v1), (2, .int v2)]) hx hb d_mo_findTriangles_30 rfl hl (by decide) rfl (fun ls hl => ?_)
        obtain ⟨n31, h⟩ := h
        refine L31 n31 _ _ _ _ _ (fun w9 w10 g8 h H locs ls hP hD hS hl => ?_) h _ _ _ hP hD hS (lv_sub hl [1, 2, 3, 0] rfl)
        refine lv_iinc (k := 2) (v := (w10 + 1)) (lv' := [(2, .int (w10 + 1)), (0, .ref (a 0)), (1, .int w9)]) hx hb d_mo_findTriangles_105 hl rfl rfl (by decide) rfl (fun ls hl => ?_)
        refine lv_goto (tgt := 19) hx hb d_mo_findTriangles_108 (by decide) ?_
        exact ih _ _ _ _ hK111 h _ _ _ hP hD hS (lv_sub hl [1, 2, 0] rfl)
  have L7 : ∀ (n : Nat) (v1 : Int32) (g : St) (K117 : St → Prop) , (∀ (g : St), K117 g → ∀ (H : Heap) (locs : List Loc) (ls : Array Slot), va_P (dC, dI) zzCl (wM a cI cZ g) H → va_D A (wM a cI cZ g) → va_S A s.heap H locs → lv_has ls 4 [] → W p l e (headSpec ww_mo_findTriangles rm_mo_findTriangles).room s m args below meth c H locs 0 0 (zz_Qv below (dC, dI) (wM a cI cZ) [(cI, .int), (cZ, .boolean)] A post args s) (F0 m 117 ls [])) → lp_mo_findTriangles_L7 n v1 g K117 post → ∀ (H : Heap) (locs : List Loc) (ls : Array Slot), va_P (dC, dI) zzCl (wM a cI cZ g) H → va_D A (wM a cI cZ g) → va_S A s.heap H locs → lv_has ls 4 [(0, .ref (a 0)), (1, .int v1)] → W p l e (headSpec ww_mo_findTriangles rm_mo_findTriangles).room s m args below meth c H locs 0 0 (zz_Qv below (dC, dI) (wM a cI cZ) [(cI, .int), (cZ, .boolean)] A post args s) (F0 m 7 ls []) := by
    intro n
    induction n with
    | zero => intro v1 g K117 hK117 h; exact h.elim
    | succ n ih =>
      intro v1 g K117 hK117 h H locs ls hP hD hS hl
      unfold lp_mo_findTriangles_L7 at h
      refine lv_iload_n hx hb d_mo_findTriangles_7 rfl (lv_at hl 1 rfl) ?_
      refine lv_aload_n hx hb d_mo_findTriangles_8 rfl (lv_at hl 0 rfl) ?_
      refine va_get (D := (dC, dI)) (ci := 5) (v := .int (g 0 1)) (C := R_mo) (T := T_mo) (N := 21) hx hb hts hin__mo hown hK hP 0 (wM_0 a cI cZ g) rfl 1 (by decide) fl_60 (fun _ h9 => h9) rfl d_mo_findTriangles_9 ?_
      refine lv_icmp_ge (tgt := 117) hx hb d_mo_findTriangles_12 (by decide) (fun hc => ?_) (fun hc => ?_)
      · have h := h.1 hc
        exact hK117 _ h _ _ _ hP hD hS (lv_sub hl [] rfl)
      · have h := h.2 hc
        refine lv_iload_n hx hb d_mo_findTriangles_15 rfl (lv_at hl 1 rfl) ?_
        refine lv_iconst (v := 1) hx hb d_mo_findTriangles_16 (by decide) ?_
        refine lv_iadd hx hb d_mo_findTriangles_17 ?_
        refine lv_istore_n (lv' := [(2, .int (v1 + 1)), (0, .ref (a 0)), (1, .int v1)]) hx hb d_mo_findTriangles_18 rfl hl (by decide) rfl (fun ls hl => ?_)
        obtain ⟨n19, h⟩ := h
        refine L19 n19 _ _ _ _ (fun w12 g11 h H locs ls hP hD hS hl => ?_) h _ _ _ hP hD hS (lv_sub hl [1, 2, 0] rfl)
        refine lv_iinc (k := 1) (v := (w12 + 1)) (lv' := [(1, .int (w12 + 1)), (0, .ref (a 0))]) hx hb d_mo_findTriangles_111 hl rfl rfl (by decide) rfl (fun ls hl => ?_)
        refine lv_goto (tgt := 7) hx hb d_mo_findTriangles_114 (by decide) ?_
        exact ih _ _ _ hK117 h _ _ _ hP hD hS (lv_sub hl [1, 0] rfl)
  unfold wp_mo_findTriangles at h
  refine lv_aload_n hx hb d_mo_findTriangles_0 rfl (lv_at hl 0 rfl) ?_
  refine lv_iconst (v := 0) hx hb d_mo_findTriangles_1 (by decide) ?_
  refine va_put (D := (dC, dI)) (ci := 5) (v := .int 0) (ty := .int) (C := R_mo) (T := T_mo) (N := 21) hx hb hts hin__mo ty_mo tok_mo nmd_mo hown hK hP hD hS 0 (wM_0 a cI cZ g) rfl 5 (by decide) fl_92 (fun _ h9 => h9) rfl (by decide +kernel) rfl rfl (Nat.le_of_ble_eq_true rfl) d_mo_findTriangles_2 (fun H locs hP hD hS => ?_)
  obtain ⟨g1, e_g1⟩ : ∃ z : St, z = gp g 0 5 0 := ⟨_, rfl⟩
  have h := h g1 e_g1
  have hP : va_P (dC, dI) zzCl (wM a cI cZ g1) H := by rw [e_g1]; exact hP
  have hD : va_D A (wM a cI cZ g1) := by rw [e_g1]; exact hD
  refine lv_iconst (v := 0) hx hb d_mo_findTriangles_5 (by decide) ?_
  refine lv_istore_n (lv' := [(1, .int 0), (0, .ref (a 0))]) hx hb d_mo_findTriangles_6 rfl hl (by decide) rfl (fun ls hl => ?_)
  obtain ⟨n7, h⟩ := h
  refine L7 n7 _ _ _ (fun g13 h H locs ls hP hD hS hl => ?_) h _ _ _ hP hD hS (lv_sub hl [1, 0] rfl)
  exact W.vret hx hb hr (fun t ht hW => ⟨⟨g13, rfl, h, by rw [ht]; exact hP, va_K.moved hW.alike hK, hD⟩, hS.F ht⟩) hS.2.2 d_mo_findTriangles_117
abbrev rm_mo_spot : Room := { frames := 5, cells := 0, slots := 0, locals := 125 }
set_option maxHeartbeats 4000000 in
set_option maxRecDepth 100000 in
theorem mc_mo_spot (l : Launch) (dC : Nat → ClassId) (dI : Nat → Nat → Nat) (a : Nat → Nat) (cI cZ : ClassId) (sz : Nat) (x1 : Int32) (x2 : Int32) (x3 : Int32) (g : St) (post : Int32 → St → Prop) (h : wp_mo_spot x1 x2 x3 g post) : Met l yy_mo_spot ww_mo_spot rm_mo_spot (zz_Pre (dC, dI) (wM a cI cZ) [(cI, .int), (cZ, .boolean)] [.ref (a 0), .int x1, .int x2, .int x3] g sz) (va_Qi post (zz_W (dC, dI) (wM a cI cZ) [(cI, .int), (cZ, .boolean)] (va_A (wM a cI cZ g) sz)) (va_A (wM a cI cZ g) sz)) 0 0 (va_A (wM a cI cZ g) sz) := by
  refine Met.ofW (cc := cc_mo_spot) (maxL := 6) (ret := (some .int)) (by decide) rfl ?_
  intro p e s m args below meth c s₁ B hml hv
  obtain ⟨hav, hsz, hP, hK, hD0, hN⟩ := hv
  have hx := B.exec
  have hb := B.bytes
  have hr := B.returns
  have hts := atoms_spec (ws := ww_mo_spot) B.pre
  have hown : s.vm.findClass "SpotContoursModel" = some m.cls := findClass_of_methodNamed B.named
  have hlocks := B.notSynchronized
  subst hsz
  have hD := hD0.self (sz := s.heap.size)
  generalize hAe : va_A (wM a cI cZ g) s.heap.size = A at hD ⊢
  have hA : ∀ q : Nat, s.heap.size ≤ q → A q := fun q h => by rw [← hAe]; exact Or.inr h
  have hS : va_S A s.heap s.heap [] := va_S.rf
  have he9 := lg_entry_eq m [.ref (a 0), .int x1, .int x2, .int x3] 6
  rw [← hav] at he9
  rw [he9]
  have hl := lv_entry [.ref (a 0), .int x1, .int x2, .int x3] (n := 6) (Nat.le_of_ble_eq_true rfl)
  generalize (lg_sl [.ref (a 0), .int x1, .int x2, .int x3] ++ List.replicate (6 - (lg_sl [.ref (a 0), .int x1, .int x2, .int x3]).length) Slot.unset).toArray = ls at hl ⊢
  have hl : lv_has ls 6 [(0, .ref (a 0)), (1, .int x1), (2, .int x2), (3, .int x3)] := hl
  have hin__mo : ∀ w ∈ u_ws R_mo T_mo 21, w ∈ ww_mo_spot := fun w h => zz_in (hin0_mo w h)
  have fl_7 := hts (.fieldLink "SpotContoursModel" 7 "SpotContoursModel" "xs" "[I") (zz_in wm_379)
  have fl_13 := hts (.fieldLink "SpotContoursModel" 13 "SpotContoursModel" "ys" "[I") (zz_in wm_380)
  have fl_16 := hts (.fieldLink "SpotContoursModel" 16 "SpotContoursModel" "zs" "[I") (zz_in wm_383)
  have fl_56 := hts (.fieldLink "SpotContoursModel" 56 "SpotContoursModel" "thrown" "I") (zz_in wm_377)
  have fl_60 := hts (.fieldLink "SpotContoursModel" 60 "SpotContoursModel" "spots" "I") (zz_in wm_378)
  have fl_63 := hts (.fieldLink "SpotContoursModel" 63 "SpotContoursModel" "labels" "I") (zz_in wm_384)
  have L41 : ∀ (n : Nat) (v1 : Int32) (v2 : Int32) (v3 : Int32) (v4 : Int32) (v5 : Int32) (g : St) (K90 : Int32 → Int32 → Int32 → Int32 → St → Prop) , (∀ (v1 : Int32) (v2 : Int32) (v3 : Int32) (v4 : Int32) (g : St), K90 v1 v2 v3 v4 g → ∀ (H : Heap) (locs : List Loc) (ls : Array Slot), va_P (dC, dI) zzCl (wM a cI cZ g) H → va_D A (wM a cI cZ g) → va_S A s.heap H locs → lv_has ls 6 [(0, .ref (a 0)), (1, .int v1), (2, .int v2), (3, .int v3), (4, .int v4)] → W p l e (headSpec ww_mo_spot rm_mo_spot).room s m args below meth c H locs 0 0 (zz_Qi below (dC, dI) (wM a cI cZ) [(cI, .int), (cZ, .boolean)] A post args s) (F0 m 90 ls [])) → lp_mo_spot_L41 n v1 v2 v3 v4 v5 g K90 post → ∀ (H : Heap) (locs : List Loc) (ls : Array Slot), va_P (dC, dI) zzCl (wM a cI cZ g) H → va_D A (wM a cI cZ g) → va_S A s.heap H locs → lv_has ls 6 [(0, .ref (a 0)), (1, .int v1), (2, .int v2), (3, .int v3), (4, .int v4), (5, .int v5)] → W p l e (headSpec ww_mo_spot rm_mo_spot).room s m args below meth c H locs 0 0 (zz_Qi below (dC, dI) (wM a cI cZ) [(cI, .int), (cZ, .boolean)] A post args s) (F0 m 41 ls []) := by
    intro n
    induction n with
    | zero => intro v1 v2 v3 v4 v5 g K90 hK90 h; exact h.elim
    | succ n ih =>
      intro v1 v2 v3 v4 v5 g K90 hK90 h H locs ls hP hD hS hl
      unfold lp_mo_spot_L41 at h
      refine lv_iload hx hb d_mo_spot_41 (lv_at hl 5 rfl) ?_
      refine lv_aload_n hx hb d_mo_spot_43 rfl (lv_at hl 0 rfl) ?_
      refine va_get (D := (dC, dI)) (ci := 5) (v := .int (g 0 1)) (C := R_mo) (T := T_mo) (N := 21) hx hb hts hin__mo hown hK hP 0 (wM_0 a cI cZ g) rfl 1 (by decide) fl_60 (fun _ h9 => h9) rfl d_mo_spot_44 ?_
      refine lv_icmp_ge (tgt := 90) hx hb d_mo_spot_47 (by decide) (fun hc => ?_) (fun hc => ?_)
      · have h := h.1 hc
        exact hK90 _ _ _ _ _ h _ _ _ hP hD hS (lv_sub hl [0, 1, 2, 3, 4] rfl)
      · have h := h.2 hc
        refine lv_iload hx hb d_mo_spot_50 (lv_at hl 4 rfl) ?_
        refine lv_if_ne (tgt := 77) hx hb d_mo_spot_52 (by decide) (fun hc => ?_) (fun hc => ?_)
        · have h := h.1 hc
          refine lv_iconst (v := 1) hx hb d_mo_spot_77 (by decide) ?_
          refine lv_goto (tgt := 82) hx hb d_mo_spot_78 (by decide) ?_
          refine lv_istore (lv' := [(4, .int 1), (0, .ref (a 0)), (1, .int v1), (2, .int v2), (3, .int v3), (5, .int v5)]) hx hb d_mo_spot_82 hl (by decide) rfl (fun ls hl => ?_)
          refine lv_iinc (k := 5) (v := (v5 + 1)) (lv' := [(5, .int (v5 + 1)), (4, .int 1), (0, .ref (a 0)), (1, .int v1), (2, .int v2), (3, .int v3)]) hx hb d_mo_spot_84 hl rfl rfl (by decide) rfl (fun ls hl => ?_)
          refine lv_goto (tgt := 41) hx hb d_mo_spot_87 (by decide) ?_
          exact ih _ _ _ _ _ _ _ hK90 h _ _ _ hP hD hS (lv_sub hl [2, 3, 4, 5, 1, 0] rfl)
        · have h := h.2 hc
          refine lv_aload_n hx hb d_mo_spot_55 rfl (lv_at hl 0 rfl) ?_
          refine va_get (D := (dC, dI)) (ci := 5) (v := .ref (a 1)) (C := R_mo) (T := T_mo) (N := 21) hx hb hts hin__mo hown hK hP 0 (wM_0 a cI cZ g) rfl 2 (by decide) fl_7 (fun _ h9 => h9) rfl d_mo_spot_56 ?_
          refine lv_iload hx hb d_mo_spot_59 (lv_at hl 5 rfl) ?_
          refine va_iald hx hb hK hP 1 0 (wM_1 a cI cZ g) rfl h.1 d_mo_spot_61 ?_
          have h := h.2
          refine lv_iload_n hx hb d_mo_spot_62 rfl (lv_at hl 1 rfl) ?_
          refine lv_icmp_ne (tgt := 81) hx hb d_mo_spot_63 (by decide) (fun hc => ?_) (fun hc => ?_)
          · have h := h.1 hc
            refine lv_iconst (v := 0) hx hb d_mo_spot_81 (by decide) ?_
            refine lv_istore (lv' := [(4, .int 0), (0, .ref (a 0)), (1, .int v1), (2, .int v2), (3, .int v3), (5, .int v5)]) hx hb d_mo_spot_82 hl (by decide) rfl (fun ls hl => ?_)
            refine lv_iinc (k := 5) (v := (v5 + 1)) (lv' := [(5, .int (v5 + 1)), (4, .int 0), (0, .ref (a 0)), (1, .int v1), (2, .int v2), (3, .int v3)]) hx hb d_mo_spot_84 hl rfl rfl (by decide) rfl (fun ls hl => ?_)
            refine lv_goto (tgt := 41) hx hb d_mo_spot_87 (by decide) ?_
            exact ih _ _ _ _ _ _ _ hK90 h _ _ _ hP hD hS (lv_sub hl [2, 3, 4, 5, 1, 0] rfl)
          · have h := h.2 hc
            refine lv_aload_n hx hb d_mo_spot_66 rfl (lv_at hl 0 rfl) ?_
            refine va_get (D := (dC, dI)) (ci := 5) (v := .ref (a 2)) (C := R_mo) (T := T_mo) (N := 21) hx hb hts hin__mo hown hK hP 0 (wM_0 a cI cZ g) rfl 3 (by decide) fl_13 (fun _ h9 => h9) rfl d_mo_spot_67 ?_
            refine lv_iload hx hb d_mo_spot_70 (lv_at hl 5 rfl) ?_
            refine va_iald hx hb hK hP 2 0 (wM_2 a cI cZ g) rfl h.1 d_mo_spot_72 ?_
            have h := h.2
            refine lv_iload_n hx hb d_mo_spot_73 rfl (lv_at hl 2 rfl) ?_
            refine lv_icmp_ne (tgt := 81) hx hb d_mo_spot_74 (by decide) (fun hc => ?_) (fun hc => ?_)
            · have h := h.1 hc
              refine lv_iconst (v := 0) hx hb d_mo_spot_81 (by decide) ?_
              refine lv_istore (lv' := [(4, .int 0), (0, .ref (a 0)), (1, .int v1), (2, .int v2), (3, .int v3), (5, .int v5)]) hx hb d_mo_spot_82 hl (by decide) rfl (fun ls hl => ?_)
              refine lv_iinc (k := 5) (v := (v5 + 1)) (lv' := [(5, .int (v5 + 1)), (4, .int 0), (0, .ref (a 0)), (1, .int v1), (2, .int v2), (3, .int v3)]) hx hb d_mo_spot_84 hl rfl rfl (by decide) rfl (fun ls hl => ?_)
              refine lv_goto (tgt := 41) hx hb d_mo_spot_87 (by decide) ?_
              exact ih _ _ _ _ _ _ _ hK90 h _ _ _ hP hD hS (lv_sub hl [2, 3, 4, 5, 1, 0] rfl)
            · have h := h.2 hc
              refine lv_iconst (v := 1) hx hb d_mo_spot_77 (by decide) ?_
              refine lv_goto (tgt := 82) hx hb d_mo_spot_78 (by decide) ?_
              refine lv_istore (lv' := [(4, .int 1), (0, .ref (a 0)), (1, .int v1), (2, .int v2), (3, .int v3), (5, .int v5)]) hx hb d_mo_spot_82 hl (by decide) rfl (fun ls hl => ?_)
              refine lv_iinc (k := 5) (v := (v5 + 1)) (lv' := [(5, .int (v5 + 1)), (4, .int 1), (0, .ref (a 0)), (1, .int v1), (2, .int v2), (3, .int v3)]) hx hb d_mo_spot_84 hl rfl rfl (by decide) rfl (fun ls hl => ?_)
              refine lv_goto (tgt := 41) hx hb d_mo_spot_87 (by decide) ?_
              exact ih _ _ _ _ _ _ _ hK90 h _ _ _ hP hD hS (lv_sub hl [2, 3, 4, 5, 1, 0] rfl)
  have J114 : ∀ (v1 : Int32) (v2 : Int32) (v3 : Int32) (s1 : Int32) (g : St), jn_mo_spot_J114 v1 v2 v3 s1 g post → ∀ (H : Heap) (locs : List Loc) (ls : Array Slot), va_P (dC, dI) zzCl (wM a cI cZ g) H → va_D A (wM a cI cZ g) → va_S A s.heap H locs → lv_has ls 6 [(0, .ref (a 0)), (1, .int v1), (2, .int v2), (3, .int v3)] → W p l e (headSpec ww_mo_spot rm_mo_spot).room s m args below meth c H locs 0 0 (zz_Qi below (dC, dI) (wM a cI cZ) [(cI, .int), (cZ, .boolean)] A post args s) (F0 m 114 ls [.int s1, .ref (a 0)]) := by
    intro v1 v2 v3 s1 g h H locs ls hP hD hS hl
    unfold jn_mo_spot_J114 at h
    refine va_put (D := (dC, dI)) (ci := 5) (v := .int s1) (ty := .int) (C := R_mo) (T := T_mo) (N := 21) hx hb hts hin__mo ty_mo tok_mo nmd_mo hown hK hP hD hS 0 (wM_0 a cI cZ g) rfl 0 (by decide) fl_56 (fun _ h9 => h9) rfl (by decide +kernel) rfl rfl (Nat.le_of_ble_eq_true rfl) d_mo_spot_114 (fun H locs hP hD hS => ?_)
    obtain ⟨g6, e_g6⟩ : ∃ z : St, z = gp g 0 0 s1 := ⟨_, rfl⟩
    have h := h g6 e_g6
    have hP : va_P (dC, dI) zzCl (wM a cI cZ g6) H := by rw [e_g6]; exact hP
    have hD : va_D A (wM a cI cZ g6) := by rw [e_g6]; exact hD
    refine lv_aload_n hx hb d_mo_spot_117 rfl (lv_at hl 0 rfl) ?_
    refine va_get (D := (dC, dI)) (ci := 5) (v := .int (g6 0 0)) (C := R_mo) (T := T_mo) (N := 21) hx hb hts hin__mo hown hK hP 0 (wM_0 a cI cZ g6) rfl 0 (by decide) fl_56 (fun _ h9 => h9) rfl d_mo_spot_118 ?_
    refine lv_if_eq (tgt := 126) hx hb d_mo_spot_121 (by decide) (fun hc => ?_) (fun hc => ?_)
    · have h := h.1 hc
      refine lv_aload_n hx hb d_mo_spot_126 rfl (lv_at hl 0 rfl) ?_
      refine va_get (D := (dC, dI)) (ci := 5) (v := .ref (a 1)) (C := R_mo) (T := T_mo) (N := 21) hx hb hts hin__mo hown hK hP 0 (wM_0 a cI cZ g6) rfl 2 (by decide) fl_7 (fun _ h9 => h9) rfl d_mo_spot_127 ?_
      refine lv_aload_n hx hb d_mo_spot_130 rfl (lv_at hl 0 rfl) ?_
      refine va_get (D := (dC, dI)) (ci := 5) (v := .int (g6 0 1)) (C := R_mo) (T := T_mo) (N := 21) hx hb hts hin__mo hown hK hP 0 (wM_0 a cI cZ g6) rfl 1 (by decide) fl_60 (fun _ h9 => h9) rfl d_mo_spot_131 ?_
      refine lv_iload_n hx hb d_mo_spot_134 rfl (lv_at hl 1 rfl) ?_
      refine va_iast hx hb hK hP hD hS 1 0 (wM_1 a cI cZ g6) rfl h.1 d_mo_spot_135 (fun H locs hP hD hS => ?_)
      obtain ⟨g7, e_g7⟩ : ∃ z : St, z = gp g6 1 (ix (g6 0 1)) v1 := ⟨_, rfl⟩
      have h := h.2 g7 e_g7
      have hP : va_P (dC, dI) zzCl (wM a cI cZ g7) H := by rw [e_g7]; exact hP
      have hD : va_D A (wM a cI cZ g7) := by rw [e_g7]; exact hD
      refine lv_aload_n hx hb d_mo_spot_136 rfl (lv_at hl 0 rfl) ?_
      refine va_get (D := (dC, dI)) (ci := 5) (v := .ref (a 2)) (C := R_mo) (T := T_mo) (N := 21) hx hb hts hin__mo hown hK hP 0 (wM_0 a cI cZ g7) rfl 3 (by decide) fl_13 (fun _ h9 => h9) rfl d_mo_spot_137 ?_
      refine lv_aload_n hx hb d_mo_spot_140 rfl (lv_at hl 0 rfl) ?_
      refine va_get (D := (dC, dI)) (ci := 5) (v := .int (g7 0 1)) (C := R_mo) (T := T_mo) (N := 21) hx hb hts hin__mo hown hK hP 0 (wM_0 a cI cZ g7) rfl 1 (by decide) fl_60 (fun _ h9 => h9) rfl d_mo_spot_141 ?_
      refine lv_iload_n hx hb d_mo_spot_144 rfl (lv_at hl 2 rfl) ?_
      refine va_iast hx hb hK hP hD hS 2 0 (wM_2 a cI cZ g7) rfl h.1 d_mo_spot_145 (fun H locs hP hD hS => ?_)
      obtain ⟨g8, e_g8⟩ : ∃ z : St, z = gp g7 2 (ix (g7 0 1)) v2 := ⟨_, rfl⟩
      have h := h.2 g8 e_g8
      have hP : va_P (dC, dI) zzCl (wM a cI cZ g8) H := by rw [e_g8]; exact hP
      have hD : va_D A (wM a cI cZ g8) := by rw [e_g8]; exact hD
      refine lv_aload_n hx hb d_mo_spot_146 rfl (lv_at hl 0 rfl) ?_
      refine va_get (D := (dC, dI)) (ci := 5) (v := .ref (a 3)) (C := R_mo) (T := T_mo) (N := 21) hx hb hts hin__mo hown hK hP 0 (wM_0 a cI cZ g8) rfl 4 (by decide) fl_16 (fun _ h9 => h9) rfl d_mo_spot_147 ?_
      refine lv_aload_n hx hb d_mo_spot_150 rfl (lv_at hl 0 rfl) ?_
      refine va_get (D := (dC, dI)) (ci := 5) (v := .int (g8 0 1)) (C := R_mo) (T := T_mo) (N := 21) hx hb hts hin__mo hown hK hP 0 (wM_0 a cI cZ g8) rfl 1 (by decide) fl_60 (fun _ h9 => h9) rfl d_mo_spot_151 ?_
      refine lv_iload_n hx hb d_mo_spot_154 rfl (lv_at hl 3 rfl) ?_
      refine va_iast hx hb hK hP hD hS 3 0 (wM_3 a cI cZ g8) rfl h.1 d_mo_spot_155 (fun H locs hP hD hS => ?_)
      obtain ⟨g9, e_g9⟩ : ∃ z : St, z = gp g8 3 (ix (g8 0 1)) v3 := ⟨_, rfl⟩
      have h := h.2 g9 e_g9
      have hP : va_P (dC, dI) zzCl (wM a cI cZ g9) H := by rw [e_g9]; exact hP
      have hD : va_D A (wM a cI cZ g9) := by rw [e_g9]; exact hD
      refine lv_aload_n hx hb d_mo_spot_156 rfl (lv_at hl 0 rfl) ?_
      refine lv_dup hx hb d_mo_spot_157 rfl ?_
      refine va_get (D := (dC, dI)) (ci := 5) (v := .int (g9 0 1)) (C := R_mo) (T := T_mo) (N := 21) hx hb hts hin__mo hown hK hP 0 (wM_0 a cI cZ g9) rfl 1 (by decide) fl_60 (fun _ h9 => h9) rfl d_mo_spot_158 ?_
      refine lv_iconst (v := 1) hx hb d_mo_spot_161 (by decide) ?_
      refine lv_iadd hx hb d_mo_spot_162 ?_
      refine va_put (D := (dC, dI)) (ci := 5) (v := .int ((g9 0 1) + 1)) (ty := .int) (C := R_mo) (T := T_mo) (N := 21) hx hb hts hin__mo ty_mo tok_mo nmd_mo hown hK hP hD hS 0 (wM_0 a cI cZ g9) rfl 1 (by decide) fl_60 (fun _ h9 => h9) rfl (by decide +kernel) rfl rfl (Nat.le_of_ble_eq_true rfl) d_mo_spot_163 (fun H locs hP hD hS => ?_)
      obtain ⟨g10, e_g10⟩ : ∃ z : St, z = gp g9 0 1 ((g9 0 1) + 1) := ⟨_, rfl⟩
      have h := h g10 e_g10
      have hP : va_P (dC, dI) zzCl (wM a cI cZ g10) H := by rw [e_g10]; exact hP
      have hD : va_D A (wM a cI cZ g10) := by rw [e_g10]; exact hD
      refine lv_aload_n hx hb d_mo_spot_166 rfl (lv_at hl 0 rfl) ?_
      refine lv_iconst (v := 0) hx hb d_mo_spot_167 (by decide) ?_
      refine va_put (D := (dC, dI)) (ci := 5) (v := .int 0) (ty := .int) (C := R_mo) (T := T_mo) (N := 21) hx hb hts hin__mo ty_mo tok_mo nmd_mo hown hK hP hD hS 0 (wM_0 a cI cZ g10) rfl 17 (by decide) fl_63 (fun _ h9 => h9) rfl (by decide +kernel) rfl rfl (Nat.le_of_ble_eq_true rfl) d_mo_spot_168 (fun H locs hP hD hS => ?_)
      obtain ⟨g11, e_g11⟩ : ∃ z : St, z = gp g10 0 17 0 := ⟨_, rfl⟩
      have h := h g11 e_g11
      have hP : va_P (dC, dI) zzCl (wM a cI cZ g11) H := by rw [e_g11]; exact hP
      have hD : va_D A (wM a cI cZ g11) := by rw [e_g11]; exact hD
      refine lv_aload_n hx hb d_mo_spot_171 rfl (lv_at hl 0 rfl) ?_
      refine zz_cv (va_runV (As := []) (rest := []) ⟨hx, hb, hml, hown, hts⟩ (mc_mo_findTriangles l dC dI a cI cZ _  g11 _ h) (zz_cwV 0 hts (zz_good wm_282) rfl rfl rfl wm_283 wm_284 wm_285 wm_258 (by decide +kernel) ⟨Nat.le_of_ble_eq_true rfl, Nat.le_of_ble_eq_true rfl⟩) ⟨zz_blind, (va_recv hK hP rfl (wM_0 a cI cZ g11)), zz_pre hP hK hD hN⟩ rfl rfl hl.1 rfl (lv_room (Nat.le_of_ble_eq_true rfl)) d_mo_spot_172 ⟨Nat.le_of_ble_eq_true rfl, Nat.le_of_ble_eq_true rfl⟩) hD hS hA (fun g12 H locs h hP hD hS => ?_)
      refine lv_aload_n hx hb d_mo_spot_175 rfl (lv_at hl 0 rfl) ?_
      refine va_get (D := (dC, dI)) (ci := 5) (v := .int (g12 0 1)) (C := R_mo) (T := T_mo) (N := 21) hx hb hts hin__mo hown hK hP 0 (wM_0 a cI cZ g12) rfl 1 (by decide) fl_60 (fun _ h9 => h9) rfl d_mo_spot_176 ?_
      refine lv_iconst (v := 1) hx hb d_mo_spot_179 (by decide) ?_
      refine lv_isub hx hb d_mo_spot_180 ?_
      exact W.iret (v := ((g12 0 1) - 1)) hx hb hr (fun t ht hW => ⟨⟨((g12 0 1) - 1), g12, rfl, h, by rw [ht]; exact hP, va_K.moved hW.alike hK, hD⟩, hS.F ht⟩) hS.2.2 d_mo_spot_181
    · have h := h.2 hc
      refine lv_iconst (v := 0) hx hb d_mo_spot_124 (by decide) ?_
      exact W.iret (v := 0) hx hb hr (fun t ht hW => ⟨⟨0, g6, rfl, h, by rw [ht]; exact hP, va_K.moved hW.alike hK, hD⟩, hS.F ht⟩) hS.2.2 d_mo_spot_125
  have J36 : ∀ (v1 : Int32) (v2 : Int32) (v3 : Int32) (s0 : Int32) (g : St), jn_mo_spot_J36 v1 v2 v3 s0 g post → ∀ (H : Heap) (locs : List Loc) (ls : Array Slot), va_P (dC, dI) zzCl (wM a cI cZ g) H → va_D A (wM a cI cZ g) → va_S A s.heap H locs → lv_has ls 6 [(0, .ref (a 0)), (1, .int v1), (2, .int v2), (3, .int v3)] → W p l e (headSpec ww_mo_spot rm_mo_spot).room s m args below meth c H locs 0 0 (zz_Qi below (dC, dI) (wM a cI cZ) [(cI, .int), (cZ, .boolean)] A post args s) (F0 m 36 ls [.int s0]) := by
    intro v1 v2 v3 s0 g h H locs ls hP hD hS hl
    unfold jn_mo_spot_J36 at h
    refine lv_istore (lv' := [(4, .int s0), (0, .ref (a 0)), (1, .int v1), (2, .int v2), (3, .int v3)]) hx hb d_mo_spot_36 hl (by decide) rfl (fun ls hl => ?_)
    refine lv_iconst (v := 0) hx hb d_mo_spot_38 (by decide) ?_
    refine lv_istore (lv' := [(5, .int 0), (4, .int s0), (0, .ref (a 0)), (1, .int v1), (2, .int v2), (3, .int v3)]) hx hb d_mo_spot_39 hl (by decide) rfl (fun ls hl => ?_)
    obtain ⟨n41, h⟩ := h
    refine L41 n41 _ _ _ _ _ _ _ (fun w2 w3 w4 w5 g1 h H locs ls hP hD hS hl => ?_) h _ _ _ hP hD hS (lv_sub hl [2, 3, 4, 5, 1, 0] rfl)
    refine lv_aload_n hx hb d_mo_spot_90 rfl (lv_at hl 0 rfl) ?_
    refine lv_iload hx hb d_mo_spot_91 (lv_at hl 4 rfl) ?_
    refine lv_if_eq (tgt := 100) hx hb d_mo_spot_93 (by decide) (fun hc => ?_) (fun hc => ?_)
    · have h := h.1 hc
      refine lv_aload_n hx hb d_mo_spot_100 rfl (lv_at hl 0 rfl) ?_
      refine va_get (D := (dC, dI)) (ci := 5) (v := .int (g1 0 1)) (C := R_mo) (T := T_mo) (N := 21) hx hb hts hin__mo hown hK hP 0 (wM_0 a cI cZ g1) rfl 1 (by decide) fl_60 (fun _ h9 => h9) rfl d_mo_spot_101 ?_
      refine lv_bipush (v := 16) hx hb d_mo_spot_104 (by decide) ?_
      refine lv_icmp_ne (tgt := 113) hx hb d_mo_spot_106 (by decide) (fun hc => ?_) (fun hc => ?_)
      · have h := h.1 hc
        refine lv_iconst (v := 0) hx hb d_mo_spot_113 (by decide) ?_
        exact J114 _ _ _ _ _ h _ _ _ hP hD hS (lv_sub hl [0, 1, 2, 3] rfl)
      · have h := h.2 hc
        refine lv_iconst (v := 2) hx hb d_mo_spot_109 (by decide) ?_
        refine lv_goto (tgt := 114) hx hb d_mo_spot_110 (by decide) ?_
        exact J114 _ _ _ _ _ h _ _ _ hP hD hS (lv_sub hl [0, 1, 2, 3] rfl)
    · have h := h.2 hc
      refine lv_iconst (v := 1) hx hb d_mo_spot_96 (by decide) ?_
      refine lv_goto (tgt := 114) hx hb d_mo_spot_97 (by decide) ?_
      exact J114 _ _ _ _ _ h _ _ _ hP hD hS (lv_sub hl [0, 1, 2, 3] rfl)
  have J31 : ∀ (v1 : Int32) (v2 : Int32) (v3 : Int32) (g : St), jn_mo_spot_J31 v1 v2 v3 g post → ∀ (H : Heap) (locs : List Loc) (ls : Array Slot), va_P (dC, dI) zzCl (wM a cI cZ g) H → va_D A (wM a cI cZ g) → va_S A s.heap H locs → lv_has ls 6 [(0, .ref (a 0)), (1, .int v1), (2, .int v2), (3, .int v3)] → W p l e (headSpec ww_mo_spot rm_mo_spot).room s m args below meth c H locs 0 0 (zz_Qi below (dC, dI) (wM a cI cZ) [(cI, .int), (cZ, .boolean)] A post args s) (F0 m 31 ls []) := by
    intro v1 v2 v3 g h H locs ls hP hD hS hl
    unfold jn_mo_spot_J31 at h
    refine lv_iconst (v := 1) hx hb d_mo_spot_31 (by decide) ?_
    refine lv_goto (tgt := 36) hx hb d_mo_spot_32 (by decide) ?_
    exact J36 _ _ _ _ _ h _ _ _ hP hD hS (lv_sub hl [0, 1, 2, 3] rfl)
  unfold wp_mo_spot at h
  refine lv_iload_n hx hb d_mo_spot_0 rfl (lv_at hl 1 rfl) ?_
  refine lv_if_lt (tgt := 31) hx hb d_mo_spot_1 (by decide) (fun hc => ?_) (fun hc => ?_)
  · have h := h.1 hc
    exact J31 _ _ _ _ h _ _ _ hP hD hS (lv_sub hl [0, 1, 2, 3] rfl)
  · have h := h.2 hc
    refine lv_iload_n hx hb d_mo_spot_4 rfl (lv_at hl 1 rfl) ?_
    refine lv_bipush (v := 63) hx hb d_mo_spot_5 (by decide) ?_
    refine lv_icmp_gt (tgt := 31) hx hb d_mo_spot_7 (by decide) (fun hc => ?_) (fun hc => ?_)
    · have h := h.1 hc
      exact J31 _ _ _ _ h _ _ _ hP hD hS (lv_sub hl [0, 1, 2, 3] rfl)
    · have h := h.2 hc
      refine lv_iload_n hx hb d_mo_spot_10 rfl (lv_at hl 2 rfl) ?_
      refine lv_if_lt (tgt := 31) hx hb d_mo_spot_11 (by decide) (fun hc => ?_) (fun hc => ?_)
      · have h := h.1 hc
        exact J31 _ _ _ _ h _ _ _ hP hD hS (lv_sub hl [0, 1, 2, 3] rfl)
      · have h := h.2 hc
        refine lv_iload_n hx hb d_mo_spot_14 rfl (lv_at hl 2 rfl) ?_
        refine lv_bipush (v := 63) hx hb d_mo_spot_15 (by decide) ?_
        refine lv_icmp_gt (tgt := 31) hx hb d_mo_spot_17 (by decide) (fun hc => ?_) (fun hc => ?_)
        · have h := h.1 hc
          exact J31 _ _ _ _ h _ _ _ hP hD hS (lv_sub hl [0, 1, 2, 3] rfl)
        · have h := h.2 hc
          refine lv_iload_n hx hb d_mo_spot_20 rfl (lv_at hl 3 rfl) ?_
          refine lv_if_lt (tgt := 31) hx hb d_mo_spot_21 (by decide) (fun hc => ?_) (fun hc => ?_)
          · have h := h.1 hc
            exact J31 _ _ _ _ h _ _ _ hP hD hS (lv_sub hl [0, 1, 2, 3] rfl)
          · have h := h.2 hc
            refine lv_iload_n hx hb d_mo_spot_24 rfl (lv_at hl 3 rfl) ?_
            refine lv_sipush (v := 999) hx hb d_mo_spot_25 (by decide) ?_
            refine lv_icmp_le (tgt := 35) hx hb d_mo_spot_28 (by decide) (fun hc => ?_) (fun hc => ?_)
            · have h := h.1 hc
              refine lv_iconst (v := 0) hx hb d_mo_spot_35 (by decide) ?_
              exact J36 _ _ _ _ _ h _ _ _ hP hD hS (lv_sub hl [0, 1, 2, 3] rfl)
            · have h := h.2 hc
              exact J31 _ _ _ _ h _ _ _ hP hD hS (lv_sub hl [0, 1, 2, 3] rfl)
abbrev rm_mo_raise : Room := { frames := 1, cells := 0, slots := 0, locals := 21 }
set_option maxHeartbeats 4000000 in
set_option maxRecDepth 100000 in
theorem mc_mo_raise (l : Launch) (dC : Nat → ClassId) (dI : Nat → Nat → Nat) (a : Nat → Nat) (cI cZ : ClassId) (sz : Nat) (x1 : Int32) (x2 : Int32) (g : St) (post : Int32 → St → Prop) (h : wp_mo_raise x1 x2 g post) : Met l yy_mo_raise ww_mo_raise rm_mo_raise (zz_Pre (dC, dI) (wM a cI cZ) [(cI, .int), (cZ, .boolean)] [.ref (a 0), .int x1, .int x2] g sz) (va_Qi post (zz_W (dC, dI) (wM a cI cZ) [(cI, .int), (cZ, .boolean)] (va_A (wM a cI cZ g) sz)) (va_A (wM a cI cZ g) sz)) 0 0 (va_A (wM a cI cZ g) sz) := by
  refine Met.ofW (cc := cc_mo_raise) (maxL := 4) (ret := (some .int)) (by decide) rfl ?_
  intro p e s m args below meth c s₁ B hml hv
  obtain ⟨hav, hsz, hP, hK, hD0, hN⟩ := hv
  have hx := B.exec
  have hb := B.bytes
  have hr := B.returns
  have hts := atoms_spec (ws := ww_mo_raise) B.pre
  have hown : s.vm.findClass "SpotContoursModel" = some m.cls := findClass_of_methodNamed B.named
  have hlocks := B.notSynchronized
  subst hsz
  have hD := hD0.self (sz := s.heap.size)
  generalize hAe : va_A (wM a cI cZ g) s.heap.size = A at hD ⊢
  have hA : ∀ q : Nat, s.heap.size ≤ q → A q := fun q h => by rw [← hAe]; exact Or.inr h
  have hS : va_S A s.heap s.heap [] := va_S.rf
  have he9 := lg_entry_eq m [.ref (a 0), .int x1, .int x2] 4
  rw [← hav] at he9
  rw [he9]
  have hl := lv_entry [.ref (a 0), .int x1, .int x2] (n := 4) (Nat.le_of_ble_eq_true rfl)
  generalize (lg_sl [.ref (a 0), .int x1, .int x2] ++ List.replicate (4 - (lg_sl [.ref (a 0), .int x1, .int x2]).length) Slot.unset).toArray = ls at hl ⊢
  have hl : lv_has ls 4 [(0, .ref (a 0)), (1, .int x1), (2, .int x2)] := hl
  have hin__mo : ∀ w ∈ u_ws R_mo T_mo 21, w ∈ ww_mo_raise := fun w h => zz_in (hin0_mo w h)
  have fl_16 := hts (.fieldLink "SpotContoursModel" 16 "SpotContoursModel" "zs" "[I") (zz_in wm_383)
  have fl_56 := hts (.fieldLink "SpotContoursModel" 56 "SpotContoursModel" "thrown" "I") (zz_in wm_377)
  have fl_63 := hts (.fieldLink "SpotContoursModel" 63 "SpotContoursModel" "labels" "I") (zz_in wm_384)
  have J29 : ∀ (v1 : Int32) (v2 : Int32) (s1 : Int32) (g : St), jn_mo_raise_J29 v1 v2 s1 g post → ∀ (H : Heap) (locs : List Loc) (ls : Array Slot), va_P (dC, dI) zzCl (wM a cI cZ g) H → va_D A (wM a cI cZ g) → va_S A s.heap H locs → lv_has ls 4 [(0, .ref (a 0)), (1, .int v1), (2, .int v2)] → W p l e (headSpec ww_mo_raise rm_mo_raise).room s m args below meth c H locs 0 0 (zz_Qi below (dC, dI) (wM a cI cZ) [(cI, .int), (cZ, .boolean)] A post args s) (F0 m 29 ls [.int s1, .ref (a 0)]) := by
    intro v1 v2 s1 g h H locs ls hP hD hS hl
    unfold jn_mo_raise_J29 at h
    refine va_put (D := (dC, dI)) (ci := 5) (v := .int s1) (ty := .int) (C := R_mo) (T := T_mo) (N := 21) hx hb hts hin__mo ty_mo tok_mo nmd_mo hown hK hP hD hS 0 (wM_0 a cI cZ g) rfl 0 (by decide) fl_56 (fun _ h9 => h9) rfl (by decide +kernel) rfl rfl (Nat.le_of_ble_eq_true rfl) d_mo_raise_29 (fun H locs hP hD hS => ?_)
    obtain ⟨g3, e_g3⟩ : ∃ z : St, z = gp g 0 0 s1 := ⟨_, rfl⟩
    have h := h g3 e_g3
    have hP : va_P (dC, dI) zzCl (wM a cI cZ g3) H := by rw [e_g3]; exact hP
    have hD : va_D A (wM a cI cZ g3) := by rw [e_g3]; exact hD
    refine lv_aload_n hx hb d_mo_raise_32 rfl (lv_at hl 0 rfl) ?_
    refine va_get (D := (dC, dI)) (ci := 5) (v := .int (g3 0 0)) (C := R_mo) (T := T_mo) (N := 21) hx hb hts hin__mo hown hK hP 0 (wM_0 a cI cZ g3) rfl 0 (by decide) fl_56 (fun _ h9 => h9) rfl d_mo_raise_33 ?_
    refine lv_if_eq (tgt := 41) hx hb d_mo_raise_36 (by decide) (fun hc => ?_) (fun hc => ?_)
    · have h := h.1 hc
      refine lv_aload_n hx hb d_mo_raise_41 rfl (lv_at hl 0 rfl) ?_
      refine va_get (D := (dC, dI)) (ci := 5) (v := .ref (a 3)) (C := R_mo) (T := T_mo) (N := 21) hx hb hts hin__mo hown hK hP 0 (wM_0 a cI cZ g3) rfl 4 (by decide) fl_16 (fun _ h9 => h9) rfl d_mo_raise_42 ?_
      refine lv_iload_n hx hb d_mo_raise_45 rfl (lv_at hl 1 rfl) ?_
      refine va_iald hx hb hK hP 3 0 (wM_3 a cI cZ g3) rfl h.1 d_mo_raise_46 ?_
      have h := h.2
      refine lv_istore_n (lv' := [(3, .int (g3 3 (ix v1))), (0, .ref (a 0)), (1, .int v1), (2, .int v2)]) hx hb d_mo_raise_47 rfl hl (by decide) rfl (fun ls hl => ?_)
      refine lv_aload_n hx hb d_mo_raise_48 rfl (lv_at hl 1 rfl) ?_
      refine va_get (D := (dC, dI)) (ci := 5) (v := .ref (a 3)) (C := R_mo) (T := T_mo) (N := 21) hx hb hts hin__mo hown hK hP 0 (wM_0 a cI cZ g3) rfl 4 (by decide) fl_16 (fun _ h9 => h9) rfl d_mo_raise_49 ?_
      refine lv_iload_n hx hb d_mo_raise_52 rfl (lv_at hl 2 rfl) ?_
      refine lv_iload_n hx hb d_mo_raise_53 rfl (lv_at hl 3 rfl) ?_
      refine va_iast hx hb hK hP hD hS 3 0 (wM_3 a cI cZ g3) rfl h.1 d_mo_raise_54 (fun H locs hP hD hS => ?_)
      obtain ⟨g4, e_g4⟩ : ∃ z : St, z = gp g3 3 (ix v1) v2 := ⟨_, rfl⟩
      have h := h.2 g4 e_g4
      have hP : va_P (dC, dI) zzCl (wM a cI cZ g4) H := by rw [e_g4]; exact hP
      have hD : va_D A (wM a cI cZ g4) := by rw [e_g4]; exact hD
      refine lv_aload_n hx hb d_mo_raise_55 rfl (lv_at hl 1 rfl) ?_
      refine lv_iconst (v := 0) hx hb d_mo_raise_56 (by decide) ?_
      refine va_put (D := (dC, dI)) (ci := 5) (v := .int 0) (ty := .int) (C := R_mo) (T := T_mo) (N := 21) hx hb hts hin__mo ty_mo tok_mo nmd_mo hown hK hP hD hS 0 (wM_0 a cI cZ g4) rfl 17 (by decide) fl_63 (fun _ h9 => h9) rfl (by decide +kernel) rfl rfl (Nat.le_of_ble_eq_true rfl) d_mo_raise_57 (fun H locs hP hD hS => ?_)
      obtain ⟨g5, e_g5⟩ : ∃ z : St, z = gp g4 0 17 0 := ⟨_, rfl⟩
      have h := h g5 e_g5
      have hP : va_P (dC, dI) zzCl (wM a cI cZ g5) H := by rw [e_g5]; exact hP
      have hD : va_D A (wM a cI cZ g5) := by rw [e_g5]; exact hD
      refine lv_iload_n hx hb d_mo_raise_60 rfl (lv_at hl 0 rfl) ?_
      exact W.iret (v := (g3 3 (ix v1))) hx hb hr (fun t ht hW => ⟨⟨(g3 3 (ix v1)), g5, rfl, h, by rw [ht]; exact hP, va_K.moved hW.alike hK, hD⟩, hS.F ht⟩) hS.2.2 d_mo_raise_61
    · have h := h.2 hc
      refine lv_iconst (v := 0) hx hb d_mo_raise_39 (by decide) ?_
      exact W.iret (v := 0) hx hb hr (fun t ht hW => ⟨⟨0, g3, rfl, h, by rw [ht]; exact hP, va_K.moved hW.alike hK, hD⟩, hS.F ht⟩) hS.2.2 d_mo_raise_40
  have J24 : ∀ (v1 : Int32) (v2 : Int32) (g : St), jn_mo_raise_J24 v1 v2 g post → ∀ (H : Heap) (locs : List Loc) (ls : Array Slot), va_P (dC, dI) zzCl (wM a cI cZ g) H → va_D A (wM a cI cZ g) → va_S A s.heap H locs → lv_has ls 4 [(0, .ref (a 0)), (1, .int v1), (2, .int v2)] → W p l e (headSpec ww_mo_raise rm_mo_raise).room s m args below meth c H locs 0 0 (zz_Qi below (dC, dI) (wM a cI cZ) [(cI, .int), (cZ, .boolean)] A post args s) (F0 m 24 ls [.ref (a 0)]) := by
    intro v1 v2 g h H locs ls hP hD hS hl
    unfold jn_mo_raise_J24 at h
    refine lv_iconst (v := 2) hx hb d_mo_raise_24 (by decide) ?_
    refine lv_goto (tgt := 29) hx hb d_mo_raise_25 (by decide) ?_
    exact J29 _ _ _ _ h _ _ _ hP hD hS (lv_sub hl [0, 1, 2] rfl)
  unfold wp_mo_raise at h
  refine lv_aload_n hx hb d_mo_raise_0 rfl (lv_at hl 0 rfl) ?_
  refine lv_aload_n hx hb d_mo_raise_1 rfl (lv_at hl 0 rfl) ?_
  refine lv_iload_n hx hb d_mo_raise_2 rfl (lv_at hl 1 rfl) ?_
  refine zz_ci (va_runV (As := [.int x1]) (rest := [.ref (a 0)]) ⟨hx, hb, hml, hown, hts⟩ (mc_mo_isSpot l dC dI a cI cZ _ x1 g _ h) (zz_cwV 1 hts (zz_good wm_286) rfl rfl rfl wm_287 wm_288 wm_289 wm_258 (by decide +kernel) ⟨Nat.le_of_ble_eq_true rfl, Nat.le_of_ble_eq_true rfl⟩) ⟨zz_blind, (va_recv hK hP rfl (wM_0 a cI cZ g)), zz_pre hP hK hD hN⟩ rfl rfl hl.1 rfl (lv_room (Nat.le_of_ble_eq_true rfl)) d_mo_raise_3 ⟨Nat.le_of_ble_eq_true rfl, Nat.le_of_ble_eq_true rfl⟩) hD hS hA (fun r2 g1 H locs h hP hD hS => ?_)
  refine lv_if_ne (tgt := 13) hx hb d_mo_raise_6 (by decide) (fun hc => ?_) (fun hc => ?_)
  · have h := h.1 hc
    refine lv_iload_n hx hb d_mo_raise_13 rfl (lv_at hl 2 rfl) ?_
    refine lv_if_lt (tgt := 24) hx hb d_mo_raise_14 (by decide) (fun hc => ?_) (fun hc => ?_)
    · have h := h.1 hc
      exact J24 _ _ _ h _ _ _ hP hD hS (lv_sub hl [0, 1, 2] rfl)
    · have h := h.2 hc
      refine lv_iload_n hx hb d_mo_raise_17 rfl (lv_at hl 2 rfl) ?_
      refine lv_sipush (v := 999) hx hb d_mo_raise_18 (by decide) ?_
      refine lv_icmp_le (tgt := 28) hx hb d_mo_raise_21 (by decide) (fun hc => ?_) (fun hc => ?_)
      · have h := h.1 hc
        refine lv_iconst (v := 0) hx hb d_mo_raise_28 (by decide) ?_
        exact J29 _ _ _ _ h _ _ _ hP hD hS (lv_sub hl [0, 1, 2] rfl)
      · have h := h.2 hc
        exact J24 _ _ _ h _ _ _ hP hD hS (lv_sub hl [0, 1, 2] rfl)
  · have h := h.2 hc
    refine lv_iconst (v := 1) hx hb d_mo_raise_9 (by decide) ?_
    refine lv_goto (tgt := 29) hx hb d_mo_raise_10 (by decide) ?_
    exact J29 _ _ _ _ h _ _ _ hP hD hS (lv_sub hl [0, 1, 2] rfl)
abbrev rm_mo_triangles : Room := { frames := 0, cells := 0, slots := 0, locals := 0 }
set_option maxHeartbeats 4000000 in
set_option maxRecDepth 100000 in
theorem mc_mo_triangles (l : Launch) (dC : Nat → ClassId) (dI : Nat → Nat → Nat) (a : Nat → Nat) (cI cZ : ClassId) (sz : Nat) (g : St) (post : Int32 → St → Prop) (h : wp_mo_triangles  g post) : Met l yy_mo_triangles ww_mo_triangles rm_mo_triangles (zz_Pre (dC, dI) (wM a cI cZ) [(cI, .int), (cZ, .boolean)] [.ref (a 0)] g sz) (va_Qi post (zz_W (dC, dI) (wM a cI cZ) [(cI, .int), (cZ, .boolean)] (va_A (wM a cI cZ g) sz)) (va_A (wM a cI cZ g) sz)) 0 0 (va_A (wM a cI cZ g) sz) := by
  refine Met.ofW (cc := cc_mo_triangles) (maxL := 1) (ret := (some .int)) (by decide) rfl ?_
  intro p e s m args below meth c s₁ B hml hv
  obtain ⟨hav, hsz, hP, hK, hD0, hN⟩ := hv
  have hx := B.exec
  have hb := B.bytes
  have hr := B.returns
  have hts := atoms_spec (ws := ww_mo_triangles) B.pre
  have hown : s.vm.findClass "SpotContoursModel" = some m.cls := findClass_of_methodNamed B.named
  have hlocks := B.notSynchronized
  subst hsz
  have hD := hD0.self (sz := s.heap.size)
  generalize hAe : va_A (wM a cI cZ g) s.heap.size = A at hD ⊢
  have hA : ∀ q : Nat, s.heap.size ≤ q → A q := fun q h => by rw [← hAe]; exact Or.inr h
  have hS : va_S A s.heap s.heap [] := va_S.rf
  have he9 := lg_entry_eq m [.ref (a 0)] 1
  rw [← hav] at he9
  rw [he9]
  have hl := lv_entry [.ref (a 0)] (n := 1) (Nat.le_of_ble_eq_true rfl)
  generalize (lg_sl [.ref (a 0)] ++ List.replicate (1 - (lg_sl [.ref (a 0)]).length) Slot.unset).toArray = ls at hl ⊢
  have hl : lv_has ls 1 [(0, .ref (a 0))] := hl
  have hin__mo : ∀ w ∈ u_ws R_mo T_mo 21, w ∈ ww_mo_triangles := fun w h => zz_in (hin0_mo w h)
  have fl_56 := hts (.fieldLink "SpotContoursModel" 56 "SpotContoursModel" "thrown" "I") (zz_in wm_377)
  have fl_92 := hts (.fieldLink "SpotContoursModel" 92 "SpotContoursModel" "count" "I") (zz_in wm_382)
  unfold wp_mo_triangles at h
  refine lv_aload_n hx hb d_mo_triangles_0 rfl (lv_at hl 0 rfl) ?_
  refine lv_iconst (v := 0) hx hb d_mo_triangles_1 (by decide) ?_
  refine va_put (D := (dC, dI)) (ci := 5) (v := .int 0) (ty := .int) (C := R_mo) (T := T_mo) (N := 21) hx hb hts hin__mo ty_mo tok_mo nmd_mo hown hK hP hD hS 0 (wM_0 a cI cZ g) rfl 0 (by decide) fl_56 (fun _ h9 => h9) rfl (by decide +kernel) rfl rfl (Nat.le_of_ble_eq_true rfl) d_mo_triangles_2 (fun H locs hP hD hS => ?_)
  obtain ⟨g1, e_g1⟩ : ∃ z : St, z = gp g 0 0 0 := ⟨_, rfl⟩
  have h := h g1 e_g1
  have hP : va_P (dC, dI) zzCl (wM a cI cZ g1) H := by rw [e_g1]; exact hP
  have hD : va_D A (wM a cI cZ g1) := by rw [e_g1]; exact hD
  refine lv_aload_n hx hb d_mo_triangles_5 rfl (lv_at hl 0 rfl) ?_
  refine va_get (D := (dC, dI)) (ci := 5) (v := .int (g1 0 5)) (C := R_mo) (T := T_mo) (N := 21) hx hb hts hin__mo hown hK hP 0 (wM_0 a cI cZ g1) rfl 5 (by decide) fl_92 (fun _ h9 => h9) rfl d_mo_triangles_6 ?_
  exact W.iret (v := (g1 0 5)) hx hb hr (fun t ht hW => ⟨⟨(g1 0 5), g1, rfl, h, by rw [ht]; exact hP, va_K.moved hW.alike hK, hD⟩, hS.F ht⟩) hS.2.2 d_mo_triangles_9
abbrev rm_mo_corner : Room := { frames := 0, cells := 0, slots := 0, locals := 0 }
set_option maxHeartbeats 4000000 in
set_option maxRecDepth 100000 in
theorem mc_mo_corner (l : Launch) (dC : Nat → ClassId) (dI : Nat → Nat → Nat) (a : Nat → Nat) (cI cZ : ClassId) (sz : Nat) (x1 : Int32) (x2 : Int32) (g : St) (post : Int32 → St → Prop) (h : wp_mo_corner x1 x2 g post) : Met l yy_mo_corner ww_mo_corner rm_mo_corner (zz_Pre (dC, dI) (wM a cI cZ) [(cI, .int), (cZ, .boolean)] [.ref (a 0), .int x1, .int x2] g sz) (va_Qi post (zz_W (dC, dI) (wM a cI cZ) [(cI, .int), (cZ, .boolean)] (va_A (wM a cI cZ g) sz)) (va_A (wM a cI cZ g) sz)) 0 0 (va_A (wM a cI cZ g) sz) := by
  refine Met.ofW (cc := cc_mo_corner) (maxL := 3) (ret := (some .int)) (by decide) rfl ?_
  intro p e s m args below meth c s₁ B hml hv
  obtain ⟨hav, hsz, hP, hK, hD0, hN⟩ := hv
  have hx := B.exec
  have hb := B.bytes
  have hr := B.returns
  have hts := atoms_spec (ws := ww_mo_corner) B.pre
  have hown : s.vm.findClass "SpotContoursModel" = some m.cls := findClass_of_methodNamed B.named
  have hlocks := B.notSynchronized
  subst hsz
  have hD := hD0.self (sz := s.heap.size)
  generalize hAe : va_A (wM a cI cZ g) s.heap.size = A at hD ⊢
  have hA : ∀ q : Nat, s.heap.size ≤ q → A q := fun q h => by rw [← hAe]; exact Or.inr h
  have hS : va_S A s.heap s.heap [] := va_S.rf
  have he9 := lg_entry_eq m [.ref (a 0), .int x1, .int x2] 3
  rw [← hav] at he9
  rw [he9]
  have hl := lv_entry [.ref (a 0), .int x1, .int x2] (n := 3) (Nat.le_of_ble_eq_true rfl)
  generalize (lg_sl [.ref (a 0), .int x1, .int x2] ++ List.replicate (3 - (lg_sl [.ref (a 0), .int x1, .int x2]).length) Slot.unset).toArray = ls at hl ⊢
  have hl : lv_has ls 3 [(0, .ref (a 0)), (1, .int x1), (2, .int x2)] := hl
  have hin__mo : ∀ w ∈ u_ws R_mo T_mo 21, w ∈ ww_mo_corner := fun w h => zz_in (hin0_mo w h)
  have fl_19 := hts (.fieldLink "SpotContoursModel" 19 "SpotContoursModel" "corners" "[I") (zz_in wm_381)
  have fl_56 := hts (.fieldLink "SpotContoursModel" 56 "SpotContoursModel" "thrown" "I") (zz_in wm_377)
  have fl_92 := hts (.fieldLink "SpotContoursModel" 92 "SpotContoursModel" "count" "I") (zz_in wm_382)
  have J27 : ∀ (v1 : Int32) (v2 : Int32) (s1 : Int32) (g : St), jn_mo_corner_J27 v1 v2 s1 g post → ∀ (H : Heap) (locs : List Loc) (ls : Array Slot), va_P (dC, dI) zzCl (wM a cI cZ g) H → va_D A (wM a cI cZ g) → va_S A s.heap H locs → lv_has ls 3 [(0, .ref (a 0)), (1, .int v1), (2, .int v2)] → W p l e (headSpec ww_mo_corner rm_mo_corner).room s m args below meth c H locs 0 0 (zz_Qi below (dC, dI) (wM a cI cZ) [(cI, .int), (cZ, .boolean)] A post args s) (F0 m 27 ls [.int s1, .ref (a 0)]) := by
    intro v1 v2 s1 g h H locs ls hP hD hS hl
    unfold jn_mo_corner_J27 at h
    refine va_put (D := (dC, dI)) (ci := 5) (v := .int s1) (ty := .int) (C := R_mo) (T := T_mo) (N := 21) hx hb hts hin__mo ty_mo tok_mo nmd_mo hown hK hP hD hS 0 (wM_0 a cI cZ g) rfl 0 (by decide) fl_56 (fun _ h9 => h9) rfl (by decide +kernel) rfl rfl (Nat.le_of_ble_eq_true rfl) d_mo_corner_27 (fun H locs hP hD hS => ?_)
    obtain ⟨g1, e_g1⟩ : ∃ z : St, z = gp g 0 0 s1 := ⟨_, rfl⟩
    have h := h g1 e_g1
    have hP : va_P (dC, dI) zzCl (wM a cI cZ g1) H := by rw [e_g1]; exact hP
    have hD : va_D A (wM a cI cZ g1) := by rw [e_g1]; exact hD
    refine lv_aload_n hx hb d_mo_corner_30 rfl (lv_at hl 0 rfl) ?_
    refine va_get (D := (dC, dI)) (ci := 5) (v := .int (g1 0 0)) (C := R_mo) (T := T_mo) (N := 21) hx hb hts hin__mo hown hK hP 0 (wM_0 a cI cZ g1) rfl 0 (by decide) fl_56 (fun _ h9 => h9) rfl d_mo_corner_31 ?_
    refine lv_if_ne (tgt := 50) hx hb d_mo_corner_34 (by decide) (fun hc => ?_) (fun hc => ?_)
    · have h := h.1 hc
      refine lv_iconst (v := 0) hx hb d_mo_corner_50 (by decide) ?_
      exact W.iret (v := 0) hx hb hr (fun t ht hW => ⟨⟨0, g1, rfl, h, by rw [ht]; exact hP, va_K.moved hW.alike hK, hD⟩, hS.F ht⟩) hS.2.2 d_mo_corner_51
    · have h := h.2 hc
      refine lv_aload_n hx hb d_mo_corner_37 rfl (lv_at hl 0 rfl) ?_
      refine va_get (D := (dC, dI)) (ci := 5) (v := .ref (a 4)) (C := R_mo) (T := T_mo) (N := 21) hx hb hts hin__mo hown hK hP 0 (wM_0 a cI cZ g1) rfl 6 (by decide) fl_19 (fun _ h9 => h9) rfl d_mo_corner_38 ?_
      refine lv_iconst (v := 3) hx hb d_mo_corner_41 (by decide) ?_
      refine lv_iload_n hx hb d_mo_corner_42 rfl (lv_at hl 1 rfl) ?_
      refine lv_imul hx hb d_mo_corner_43 ?_
      refine lv_iload_n hx hb d_mo_corner_44 rfl (lv_at hl 2 rfl) ?_
      refine lv_iadd hx hb d_mo_corner_45 ?_
      refine va_iald hx hb hK hP 4 0 (wM_4 a cI cZ g1) rfl h.1 d_mo_corner_46 ?_
      have h := h.2
      refine lv_goto (tgt := 51) hx hb d_mo_corner_47 (by decide) ?_
      exact W.iret (v := (g1 4 (ix ((3 * v1) + v2)))) hx hb hr (fun t ht hW => ⟨⟨(g1 4 (ix ((3 * v1) + v2))), g1, rfl, h, by rw [ht]; exact hP, va_K.moved hW.alike hK, hD⟩, hS.F ht⟩) hS.2.2 d_mo_corner_51
  have J22 : ∀ (v1 : Int32) (v2 : Int32) (g : St), jn_mo_corner_J22 v1 v2 g post → ∀ (H : Heap) (locs : List Loc) (ls : Array Slot), va_P (dC, dI) zzCl (wM a cI cZ g) H → va_D A (wM a cI cZ g) → va_S A s.heap H locs → lv_has ls 3 [(0, .ref (a 0)), (1, .int v1), (2, .int v2)] → W p l e (headSpec ww_mo_corner rm_mo_corner).room s m args below meth c H locs 0 0 (zz_Qi below (dC, dI) (wM a cI cZ) [(cI, .int), (cZ, .boolean)] A post args s) (F0 m 22 ls [.ref (a 0)]) := by
    intro v1 v2 g h H locs ls hP hD hS hl
    unfold jn_mo_corner_J22 at h
    refine lv_iconst (v := 1) hx hb d_mo_corner_22 (by decide) ?_
    refine lv_goto (tgt := 27) hx hb d_mo_corner_23 (by decide) ?_
    exact J27 _ _ _ _ h _ _ _ hP hD hS (lv_sub hl [0, 1, 2] rfl)
  unfold wp_mo_corner at h
  refine lv_aload_n hx hb d_mo_corner_0 rfl (lv_at hl 0 rfl) ?_
  refine lv_iload_n hx hb d_mo_corner_1 rfl (lv_at hl 1 rfl) ?_
  refine lv_if_lt (tgt := 22) hx hb d_mo_corner_2 (by decide) (fun hc => ?_) (fun hc => ?_)
  · have h := h.1 hc
    exact J22 _ _ _ h _ _ _ hP hD hS (lv_sub hl [0, 1, 2] rfl)
  · have h := h.2 hc
    refine lv_iload_n hx hb d_mo_corner_5 rfl (lv_at hl 1 rfl) ?_
    refine lv_aload_n hx hb d_mo_corner_6 rfl (lv_at hl 0 rfl) ?_
    refine va_get (D := (dC, dI)) (ci := 5) (v := .int (g 0 5)) (C := R_mo) (T := T_mo) (N := 21) hx hb hts hin__mo hown hK hP 0 (wM_0 a cI cZ g) rfl 5 (by decide) fl_92 (fun _ h9 => h9) rfl d_mo_corner_7 ?_
    refine lv_icmp_ge (tgt := 22) hx hb d_mo_corner_10 (by decide) (fun hc => ?_) (fun hc => ?_)
    · have h := h.1 hc
      exact J22 _ _ _ h _ _ _ hP hD hS (lv_sub hl [0, 1, 2] rfl)
    · have h := h.2 hc
      refine lv_iload_n hx hb d_mo_corner_13 rfl (lv_at hl 2 rfl) ?_
      refine lv_if_lt (tgt := 22) hx hb d_mo_corner_14 (by decide) (fun hc => ?_) (fun hc => ?_)
      · have h := h.1 hc
        exact J22 _ _ _ h _ _ _ hP hD hS (lv_sub hl [0, 1, 2] rfl)
      · have h := h.2 hc
        refine lv_iload_n hx hb d_mo_corner_17 rfl (lv_at hl 2 rfl) ?_
        refine lv_iconst (v := 2) hx hb d_mo_corner_18 (by decide) ?_
        refine lv_icmp_le (tgt := 26) hx hb d_mo_corner_19 (by decide) (fun hc => ?_) (fun hc => ?_)
        · have h := h.1 hc
          refine lv_iconst (v := 0) hx hb d_mo_corner_26 (by decide) ?_
          exact J27 _ _ _ _ h _ _ _ hP hD hS (lv_sub hl [0, 1, 2] rfl)
        · have h := h.2 hc
          exact J22 _ _ _ h _ _ _ hP hD hS (lv_sub hl [0, 1, 2] rfl)
abbrev rm_mo_has : Room := { frames := 0, cells := 0, slots := 0, locals := 0 }
set_option maxHeartbeats 4000000 in
set_option maxRecDepth 100000 in
theorem mc_mo_has (l : Launch) (dC : Nat → ClassId) (dI : Nat → Nat → Nat) (a : Nat → Nat) (cI cZ : ClassId) (sz : Nat) (x1 : Int32) (x2 : Int32) (g : St) (post : Int32 → St → Prop) (h : wp_mo_has x1 x2 g post) : Met l yy_mo_has ww_mo_has rm_mo_has (zz_Pre (dC, dI) (wM a cI cZ) [(cI, .int), (cZ, .boolean)] [.ref (a 0), .int x1, .int x2] g sz) (va_Qi post (zz_W (dC, dI) (wM a cI cZ) [(cI, .int), (cZ, .boolean)] (va_A (wM a cI cZ g) sz)) (va_A (wM a cI cZ g) sz)) 0 0 (va_A (wM a cI cZ g) sz) := by
  refine Met.ofW (cc := cc_mo_has) (maxL := 3) (ret := (some .boolean)) (by decide) rfl ?_
  intro p e s m args below meth c s₁ B hml hv
  obtain ⟨hav, hsz, hP, hK, hD0, hN⟩ := hv
  have hx := B.exec
  have hb := B.bytes
  have hr := B.returns
  have hts := atoms_spec (ws := ww_mo_has) B.pre
  have hown : s.vm.findClass "SpotContoursModel" = some m.cls := findClass_of_methodNamed B.named
  have hlocks := B.notSynchronized
  subst hsz
  have hD := hD0.self (sz := s.heap.size)
  generalize hAe : va_A (wM a cI cZ g) s.heap.size = A at hD ⊢
  have hA : ∀ q : Nat, s.heap.size ≤ q → A q := fun q h => by rw [← hAe]; exact Or.inr h
  have hS : va_S A s.heap s.heap [] := va_S.rf
  have he9 := lg_entry_eq m [.ref (a 0), .int x1, .int x2] 3
  rw [← hav] at he9
  rw [he9]
  have hl := lv_entry [.ref (a 0), .int x1, .int x2] (n := 3) (Nat.le_of_ble_eq_true rfl)
  generalize (lg_sl [.ref (a 0), .int x1, .int x2] ++ List.replicate (3 - (lg_sl [.ref (a 0), .int x1, .int x2]).length) Slot.unset).toArray = ls at hl ⊢
  have hl : lv_has ls 3 [(0, .ref (a 0)), (1, .int x1), (2, .int x2)] := hl
  have hin__mo : ∀ w ∈ u_ws R_mo T_mo 21, w ∈ ww_mo_has := fun w h => zz_in (hin0_mo w h)
  have fl_19 := hts (.fieldLink "SpotContoursModel" 19 "SpotContoursModel" "corners" "[I") (zz_in wm_381)
  unfold wp_mo_has at h
  refine lv_aload_n hx hb d_mo_has_0 rfl (lv_at hl 0 rfl) ?_
  refine va_get (D := (dC, dI)) (ci := 5) (v := .ref (a 4)) (C := R_mo) (T := T_mo) (N := 21) hx hb hts hin__mo hown hK hP 0 (wM_0 a cI cZ g) rfl 6 (by decide) fl_19 (fun _ h9 => h9) rfl d_mo_has_1 ?_
  refine lv_iconst (v := 3) hx hb d_mo_has_4 (by decide) ?_
  refine lv_iload_n hx hb d_mo_has_5 rfl (lv_at hl 1 rfl) ?_
  refine lv_imul hx hb d_mo_has_6 ?_
  refine va_iald hx hb hK hP 4 0 (wM_4 a cI cZ g) rfl h.1 d_mo_has_7 ?_
  have h := h.2
  refine lv_iload_n hx hb d_mo_has_8 rfl (lv_at hl 2 rfl) ?_
  refine lv_icmp_eq (tgt := 40) hx hb d_mo_has_9 (by decide) (fun hc => ?_) (fun hc => ?_)
  · have h := h.1 hc
    refine lv_iconst (v := 1) hx hb d_mo_has_40 (by decide) ?_
    refine lv_goto (tgt := 45) hx hb d_mo_has_41 (by decide) ?_
    exact W.zret (v := 1) hx hb hr (by decide) (fun t ht hW => ⟨⟨1, g, rfl, h, by rw [ht]; exact hP, va_K.moved hW.alike hK, hD⟩, hS.F ht⟩) hS.2.2 d_mo_has_45
  · have h := h.2 hc
    refine lv_aload_n hx hb d_mo_has_12 rfl (lv_at hl 0 rfl) ?_
    refine va_get (D := (dC, dI)) (ci := 5) (v := .ref (a 4)) (C := R_mo) (T := T_mo) (N := 21) hx hb hts hin__mo hown hK hP 0 (wM_0 a cI cZ g) rfl 6 (by decide) fl_19 (fun _ h9 => h9) rfl d_mo_has_13 ?_
    refine lv_iconst (v := 3) hx hb d_mo_has_16 (by decide) ?_
    refine lv_iload_n hx hb d_mo_has_17 rfl (lv_at hl 1 rfl) ?_
    refine lv_imul hx hb d_mo_has_18 ?_
    refine lv_iconst (v := 1) hx hb d_mo_has_19 (by decide) ?_
    refine lv_iadd hx hb d_mo_has_20 ?_
    refine va_iald hx hb hK hP 4 0 (wM_4 a cI cZ g) rfl h.1 d_mo_has_21 ?_
    have h := h.2
    refine lv_iload_n hx hb d_mo_has_22 rfl (lv_at hl 2 rfl) ?_
    refine lv_icmp_eq (tgt := 40) hx hb d_mo_has_23 (by decide) (fun hc => ?_) (fun hc => ?_)
    · have h := h.1 hc
      refine lv_iconst (v := 1) hx hb d_mo_has_40 (by decide) ?_
      refine lv_goto (tgt := 45) hx hb d_mo_has_41 (by decide) ?_
      exact W.zret (v := 1) hx hb hr (by decide) (fun t ht hW => ⟨⟨1, g, rfl, h, by rw [ht]; exact hP, va_K.moved hW.alike hK, hD⟩, hS.F ht⟩) hS.2.2 d_mo_has_45
    · have h := h.2 hc
      refine lv_aload_n hx hb d_mo_has_26 rfl (lv_at hl 0 rfl) ?_
      refine va_get (D := (dC, dI)) (ci := 5) (v := .ref (a 4)) (C := R_mo) (T := T_mo) (N := 21) hx hb hts hin__mo hown hK hP 0 (wM_0 a cI cZ g) rfl 6 (by decide) fl_19 (fun _ h9 => h9) rfl d_mo_has_27 ?_
      refine lv_iconst (v := 3) hx hb d_mo_has_30 (by decide) ?_
      refine lv_iload_n hx hb d_mo_has_31 rfl (lv_at hl 1 rfl) ?_
      refine lv_imul hx hb d_mo_has_32 ?_
      refine lv_iconst (v := 2) hx hb d_mo_has_33 (by decide) ?_
      refine lv_iadd hx hb d_mo_has_34 ?_
      refine va_iald hx hb hK hP 4 0 (wM_4 a cI cZ g) rfl h.1 d_mo_has_35 ?_
      have h := h.2
      refine lv_iload_n hx hb d_mo_has_36 rfl (lv_at hl 2 rfl) ?_
      refine lv_icmp_ne (tgt := 44) hx hb d_mo_has_37 (by decide) (fun hc => ?_) (fun hc => ?_)
      · have h := h.1 hc
        refine lv_iconst (v := 0) hx hb d_mo_has_44 (by decide) ?_
        exact W.zret (v := 0) hx hb hr (by decide) (fun t ht hW => ⟨⟨0, g, rfl, h, by rw [ht]; exact hP, va_K.moved hW.alike hK, hD⟩, hS.F ht⟩) hS.2.2 d_mo_has_45
      · have h := h.2 hc
        refine lv_iconst (v := 1) hx hb d_mo_has_40 (by decide) ?_
        refine lv_goto (tgt := 45) hx hb d_mo_has_41 (by decide) ?_
        exact W.zret (v := 1) hx hb hr (by decide) (fun t ht hW => ⟨⟨1, g, rfl, h, by rw [ht]; exact hP, va_K.moved hW.alike hK, hD⟩, hS.F ht⟩) hS.2.2 d_mo_has_45
