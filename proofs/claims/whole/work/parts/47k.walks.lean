/-! Contracts by their walks, printed. -/
abbrev rm_mo_clashes : Room := { frames := 1, cells := 0, slots := 0, locals := 23 }
set_option maxHeartbeats 4000000 in
set_option maxRecDepth 100000 in
theorem mc_mo_clashes (l : Launch) (dC : Nat → ClassId) (dI : Nat → Nat → Nat) (a : Nat → Nat) (cI cZ : ClassId) (sz : Nat) (x1 : Int32) (x2 : Int32) (g : St) (post : Int32 → St → Prop) (h : wp_mo_clashes x1 x2 g post) : Met l yy_mo_clashes ww_mo_clashes rm_mo_clashes (zz_Pre (dC, dI) (wM a cI cZ) [(cI, .int), (cZ, .boolean)] [.ref (a 0), .int x1, .int x2] g sz) (va_Qi post (zz_W (dC, dI) (wM a cI cZ) [(cI, .int), (cZ, .boolean)] (va_A (wM a cI cZ g) sz)) (va_A (wM a cI cZ g) sz)) 0 0 (va_A (wM a cI cZ g) sz) := by
  refine Met.ofW (cc := cc_mo_clashes) (maxL := 5) (ret := (some .boolean)) (by decide) rfl ?_
  intro p e s m args below meth c s₁ B hml hv
  obtain ⟨hav, hsz, hP, hK, hD0, hN⟩ := hv
  have hx := B.exec
  have hb := B.bytes
  have hr := B.returns
  have hts := atoms_spec (ws := ww_mo_clashes) B.pre
  have hown : s.vm.findClass "SpotContoursModel" = some m.cls := findClass_of_methodNamed B.named
  have hlocks := B.notSynchronized
  subst hsz
  have hD := hD0.self (sz := s.heap.size)
  generalize hAe : va_A (wM a cI cZ g) s.heap.size = A at hD ⊢
  have hA : ∀ q : Nat, s.heap.size ≤ q → A q := fun q h => by rw [← hAe]; exact Or.inr h
  have hS : va_S A s.heap s.heap [] := va_S.rf
  have he9 := lg_entry_eq m [.ref (a 0), .int x1, .int x2] 5
  rw [← hav] at he9
  rw [he9]
  have hl := lv_entry [.ref (a 0), .int x1, .int x2] (n := 5) (Nat.le_of_ble_eq_true rfl)
  generalize (lg_sl [.ref (a 0), .int x1, .int x2] ++ List.replicate (5 - (lg_sl [.ref (a 0), .int x1, .int x2]).length) Slot.unset).toArray = ls at hl ⊢
  have hl : lv_has ls 5 [(0, .ref (a 0)), (1, .int x1), (2, .int x2)] := hl
  have hin__mo : ∀ w ∈ u_ws R_mo T_mo 21, w ∈ ww_mo_clashes := fun w h => zz_in (hin0_mo w h)
  have fl_7 := hts (.fieldLink "SpotContoursModel" 7 "SpotContoursModel" "xs" "[I") (zz_in wm_379)
  have fl_13 := hts (.fieldLink "SpotContoursModel" 13 "SpotContoursModel" "ys" "[I") (zz_in wm_380)
  have fl_50 := hts (.fieldLink "SpotContoursModel" 50 "SpotContoursModel" "labelX" "[I") (zz_in wm_395)
  have fl_53 := hts (.fieldLink "SpotContoursModel" 53 "SpotContoursModel" "labelY" "[I") (zz_in wm_396)
  have fl_60 := hts (.fieldLink "SpotContoursModel" 60 "SpotContoursModel" "spots" "I") (zz_in wm_378)
  have fl_63 := hts (.fieldLink "SpotContoursModel" 63 "SpotContoursModel" "labels" "I") (zz_in wm_384)
  have L5 : ∀ (n : Nat) (v1 : Int32) (v2 : Int32) (v3 : Int32) (v4 : Int32) (g : St) (K62 : Int32 → Int32 → Int32 → St → Prop) , (∀ (v1 : Int32) (v2 : Int32) (v3 : Int32) (g : St), K62 v1 v2 v3 g → ∀ (H : Heap) (locs : List Loc) (ls : Array Slot), va_P (dC, dI) zzCl (wM a cI cZ g) H → va_D A (wM a cI cZ g) → va_S A s.heap H locs → lv_has ls 5 [(0, .ref (a 0)), (1, .int v1), (2, .int v2), (3, .int v3)] → W p l e (headSpec ww_mo_clashes rm_mo_clashes).room s m args below meth c H locs 0 0 (zz_Qi below (dC, dI) (wM a cI cZ) [(cI, .int), (cZ, .boolean)] A post args s) (F0 m 62 ls [])) → lp_mo_clashes_L5 n v1 v2 v3 v4 g K62 post → ∀ (H : Heap) (locs : List Loc) (ls : Array Slot), va_P (dC, dI) zzCl (wM a cI cZ g) H → va_D A (wM a cI cZ g) → va_S A s.heap H locs → lv_has ls 5 [(0, .ref (a 0)), (1, .int v1), (2, .int v2), (3, .int v3), (4, .int v4)] → W p l e (headSpec ww_mo_clashes rm_mo_clashes).room s m args below meth c H locs 0 0 (zz_Qi below (dC, dI) (wM a cI cZ) [(cI, .int), (cZ, .boolean)] A post args s) (F0 m 5 ls []) := by
    intro n
    induction n with
    | zero => intro v1 v2 v3 v4 g K62 hK62 h; exact h.elim
    | succ n ih =>
      intro v1 v2 v3 v4 g K62 hK62 h H locs ls hP hD hS hl
      unfold lp_mo_clashes_L5 at h
      refine lv_iload hx hb d_mo_clashes_5 (lv_at hl 4 rfl) ?_
      refine lv_aload_n hx hb d_mo_clashes_7 rfl (lv_at hl 0 rfl) ?_
      refine va_get (D := (dC, dI)) (ci := 5) (v := .int (g 0 1)) (C := R_mo) (T := T_mo) (N := 21) hx hb hts hin__mo hown hK hP 0 (wM_0 a cI cZ g) rfl 1 (by decide) fl_60 (fun _ h9 => h9) rfl d_mo_clashes_8 ?_
      refine lv_icmp_ge (tgt := 62) hx hb d_mo_clashes_11 (by decide) (fun hc => ?_) (fun hc => ?_)
      · have h := h.1 hc
        exact hK62 _ _ _ _ h _ _ _ hP hD hS (lv_sub hl [0, 1, 2, 3] rfl)
      · have h := h.2 hc
        refine lv_iload_n hx hb d_mo_clashes_14 rfl (lv_at hl 3 rfl) ?_
        refine lv_if_ne (tgt := 50) hx hb d_mo_clashes_15 (by decide) (fun hc => ?_) (fun hc => ?_)
        · have h := h.1 hc
          refine lv_iconst (v := 1) hx hb d_mo_clashes_50 (by decide) ?_
          refine lv_goto (tgt := 55) hx hb d_mo_clashes_51 (by decide) ?_
          refine lv_istore_n (lv' := [(3, .int 1), (0, .ref (a 0)), (1, .int v1), (2, .int v2), (4, .int v4)]) hx hb d_mo_clashes_55 rfl hl (by decide) rfl (fun ls hl => ?_)
          refine lv_iinc (k := 4) (v := (v4 + 1)) (lv' := [(4, .int (v4 + 1)), (3, .int 1), (0, .ref (a 0)), (1, .int v1), (2, .int v2)]) hx hb d_mo_clashes_56 hl rfl rfl (by decide) rfl (fun ls hl => ?_)
          refine lv_goto (tgt := 5) hx hb d_mo_clashes_59 (by decide) ?_
          exact ih _ _ _ _ _ _ hK62 h _ _ _ hP hD hS (lv_sub hl [2, 3, 4, 1, 0] rfl)
        · have h := h.2 hc
          refine lv_aload_n hx hb d_mo_clashes_18 rfl (lv_at hl 0 rfl) ?_
          refine lv_aload_n hx hb d_mo_clashes_19 rfl (lv_at hl 0 rfl) ?_
          refine va_get (D := (dC, dI)) (ci := 5) (v := .ref (a 1)) (C := R_mo) (T := T_mo) (N := 21) hx hb hts hin__mo hown hK hP 0 (wM_0 a cI cZ g) rfl 2 (by decide) fl_7 (fun _ h9 => h9) rfl d_mo_clashes_20 ?_
          refine lv_iload hx hb d_mo_clashes_23 (lv_at hl 4 rfl) ?_
          refine va_iald hx hb hK hP 1 0 (wM_1 a cI cZ g) rfl h.1 d_mo_clashes_25 ?_
          have h := h.2
          refine lv_iload_n hx hb d_mo_clashes_26 rfl (lv_at hl 1 rfl) ?_
          refine lv_iconst (v := 3) hx hb d_mo_clashes_27 (by decide) ?_
          refine zz_ci (va_runV (As := [.int (g 1 (ix v4)), .int v1, .int 3]) (rest := []) ⟨hx, hb, hml, hown, hts⟩ (mc_mo_isNear l dC dI a cI cZ _ (g 1 (ix v4)) v1 3 g _ h) (zz_cwV 3 hts (zz_good wm_344) rfl rfl rfl wm_345 wm_346 wm_347 wm_258 (by decide +kernel) ⟨Nat.le_of_ble_eq_true rfl, Nat.le_of_ble_eq_true rfl⟩) ⟨zz_blind, (va_recv hK hP rfl (wM_0 a cI cZ g)), zz_pre hP hK hD hN⟩ rfl rfl hl.1 rfl (lv_room (Nat.le_of_ble_eq_true rfl)) d_mo_clashes_28 ⟨Nat.le_of_ble_eq_true rfl, Nat.le_of_ble_eq_true rfl⟩) hD hS hA (fun r2 g1 H locs h hP hD hS => ?_)
          refine lv_if_eq (tgt := 54) hx hb d_mo_clashes_31 (by decide) (fun hc => ?_) (fun hc => ?_)
          · have h := h.1 hc
            refine lv_iconst (v := 0) hx hb d_mo_clashes_54 (by decide) ?_
            refine lv_istore_n (lv' := [(3, .int 0), (0, .ref (a 0)), (1, .int v1), (2, .int v2), (4, .int v4)]) hx hb d_mo_clashes_55 rfl hl (by decide) rfl (fun ls hl => ?_)
            refine lv_iinc (k := 4) (v := (v4 + 1)) (lv' := [(4, .int (v4 + 1)), (3, .int 0), (0, .ref (a 0)), (1, .int v1), (2, .int v2)]) hx hb d_mo_clashes_56 hl rfl rfl (by decide) rfl (fun ls hl => ?_)
            refine lv_goto (tgt := 5) hx hb d_mo_clashes_59 (by decide) ?_
            exact ih _ _ _ _ _ _ hK62 h _ _ _ hP hD hS (lv_sub hl [2, 3, 4, 1, 0] rfl)
          · have h := h.2 hc
            refine lv_aload_n hx hb d_mo_clashes_34 rfl (lv_at hl 0 rfl) ?_
            refine lv_aload_n hx hb d_mo_clashes_35 rfl (lv_at hl 0 rfl) ?_
            refine va_get (D := (dC, dI)) (ci := 5) (v := .ref (a 2)) (C := R_mo) (T := T_mo) (N := 21) hx hb hts hin__mo hown hK hP 0 (wM_0 a cI cZ g1) rfl 3 (by decide) fl_13 (fun _ h9 => h9) rfl d_mo_clashes_36 ?_
            refine lv_iload hx hb d_mo_clashes_39 (lv_at hl 4 rfl) ?_
            refine va_iald hx hb hK hP 2 0 (wM_2 a cI cZ g1) rfl h.1 d_mo_clashes_41 ?_
            have h := h.2
            refine lv_iload_n hx hb d_mo_clashes_42 rfl (lv_at hl 2 rfl) ?_
            refine lv_iconst (v := 1) hx hb d_mo_clashes_43 (by decide) ?_
            refine zz_ci (va_runV (As := [.int (g1 2 (ix v4)), .int v2, .int 1]) (rest := []) ⟨hx, hb, hml, hown, hts⟩ (mc_mo_isNear l dC dI a cI cZ _ (g1 2 (ix v4)) v2 1 g1 _ h) (zz_cwV 3 hts (zz_good wm_344) rfl rfl rfl wm_345 wm_346 wm_347 wm_258 (by decide +kernel) ⟨Nat.le_of_ble_eq_true rfl, Nat.le_of_ble_eq_true rfl⟩) ⟨zz_blind, (va_recv hK hP rfl (wM_0 a cI cZ g1)), zz_pre hP hK hD hN⟩ rfl rfl hl.1 rfl (lv_room (Nat.le_of_ble_eq_true rfl)) d_mo_clashes_44 ⟨Nat.le_of_ble_eq_true rfl, Nat.le_of_ble_eq_true rfl⟩) hD hS hA (fun r4 g3 H locs h hP hD hS => ?_)
            refine lv_if_eq (tgt := 54) hx hb d_mo_clashes_47 (by decide) (fun hc => ?_) (fun hc => ?_)
            · have h := h.1 hc
              refine lv_iconst (v := 0) hx hb d_mo_clashes_54 (by decide) ?_
              refine lv_istore_n (lv' := [(3, .int 0), (0, .ref (a 0)), (1, .int v1), (2, .int v2), (4, .int v4)]) hx hb d_mo_clashes_55 rfl hl (by decide) rfl (fun ls hl => ?_)
              refine lv_iinc (k := 4) (v := (v4 + 1)) (lv' := [(4, .int (v4 + 1)), (3, .int 0), (0, .ref (a 0)), (1, .int v1), (2, .int v2)]) hx hb d_mo_clashes_56 hl rfl rfl (by decide) rfl (fun ls hl => ?_)
              refine lv_goto (tgt := 5) hx hb d_mo_clashes_59 (by decide) ?_
              exact ih _ _ _ _ _ _ hK62 h _ _ _ hP hD hS (lv_sub hl [2, 3, 4, 1, 0] rfl)
            · have h := h.2 hc
              refine lv_iconst (v := 1) hx hb d_mo_clashes_50 (by decide) ?_
              refine lv_goto (tgt := 55) hx hb d_mo_clashes_51 (by decide) ?_
              refine lv_istore_n (lv' := [(3, .int 1), (0, .ref (a 0)), (1, .int v1), (2, .int v2), (4, .int v4)]) hx hb d_mo_clashes_55 rfl hl (by decide) rfl (fun ls hl => ?_)
              refine lv_iinc (k := 4) (v := (v4 + 1)) (lv' := [(4, .int (v4 + 1)), (3, .int 1), (0, .ref (a 0)), (1, .int v1), (2, .int v2)]) hx hb d_mo_clashes_56 hl rfl rfl (by decide) rfl (fun ls hl => ?_)
              refine lv_goto (tgt := 5) hx hb d_mo_clashes_59 (by decide) ?_
              exact ih _ _ _ _ _ _ hK62 h _ _ _ hP hD hS (lv_sub hl [2, 3, 4, 1, 0] rfl)
  have L65 : ∀ (n : Nat) (v1 : Int32) (v2 : Int32) (v3 : Int32) (v4 : Int32) (g : St) (K123 : Int32 → St → Prop) , (∀ (v3 : Int32) (g : St), K123 v3 g → ∀ (H : Heap) (locs : List Loc) (ls : Array Slot), va_P (dC, dI) zzCl (wM a cI cZ g) H → va_D A (wM a cI cZ g) → va_S A s.heap H locs → lv_has ls 5 [(3, .int v3)] → W p l e (headSpec ww_mo_clashes rm_mo_clashes).room s m args below meth c H locs 0 0 (zz_Qi below (dC, dI) (wM a cI cZ) [(cI, .int), (cZ, .boolean)] A post args s) (F0 m 123 ls [])) → lp_mo_clashes_L65 n v1 v2 v3 v4 g K123 post → ∀ (H : Heap) (locs : List Loc) (ls : Array Slot), va_P (dC, dI) zzCl (wM a cI cZ g) H → va_D A (wM a cI cZ g) → va_S A s.heap H locs → lv_has ls 5 [(0, .ref (a 0)), (1, .int v1), (2, .int v2), (3, .int v3), (4, .int v4)] → W p l e (headSpec ww_mo_clashes rm_mo_clashes).room s m args below meth c H locs 0 0 (zz_Qi below (dC, dI) (wM a cI cZ) [(cI, .int), (cZ, .boolean)] A post args s) (F0 m 65 ls []) := by
    intro n
    induction n with
    | zero => intro v1 v2 v3 v4 g K123 hK123 h; exact h.elim
    | succ n ih =>
      intro v1 v2 v3 v4 g K123 hK123 h H locs ls hP hD hS hl
      unfold lp_mo_clashes_L65 at h
      refine lv_iload hx hb d_mo_clashes_65 (lv_at hl 4 rfl) ?_
      refine lv_aload_n hx hb d_mo_clashes_67 rfl (lv_at hl 0 rfl) ?_
      refine va_get (D := (dC, dI)) (ci := 5) (v := .int (g 0 17)) (C := R_mo) (T := T_mo) (N := 21) hx hb hts hin__mo hown hK hP 0 (wM_0 a cI cZ g) rfl 17 (by decide) fl_63 (fun _ h9 => h9) rfl d_mo_clashes_68 ?_
      refine lv_icmp_ge (tgt := 123) hx hb d_mo_clashes_71 (by decide) (fun hc => ?_) (fun hc => ?_)
      · have h := h.1 hc
        exact hK123 _ _ h _ _ _ hP hD hS (lv_sub hl [3] rfl)
      · have h := h.2 hc
        refine lv_iload_n hx hb d_mo_clashes_74 rfl (lv_at hl 3 rfl) ?_
        refine lv_if_ne (tgt := 111) hx hb d_mo_clashes_75 (by decide) (fun hc => ?_) (fun hc => ?_)
        · have h := h.1 hc
          refine lv_iconst (v := 1) hx hb d_mo_clashes_111 (by decide) ?_
          refine lv_goto (tgt := 116) hx hb d_mo_clashes_112 (by decide) ?_
          refine lv_istore_n (lv' := [(3, .int 1), (0, .ref (a 0)), (1, .int v1), (2, .int v2), (4, .int v4)]) hx hb d_mo_clashes_116 rfl hl (by decide) rfl (fun ls hl => ?_)
          refine lv_iinc (k := 4) (v := (v4 + 1)) (lv' := [(4, .int (v4 + 1)), (3, .int 1), (0, .ref (a 0)), (1, .int v1), (2, .int v2)]) hx hb d_mo_clashes_117 hl rfl rfl (by decide) rfl (fun ls hl => ?_)
          refine lv_goto (tgt := 65) hx hb d_mo_clashes_120 (by decide) ?_
          exact ih _ _ _ _ _ _ hK123 h _ _ _ hP hD hS (lv_sub hl [2, 3, 4, 1, 0] rfl)
        · have h := h.2 hc
          refine lv_aload_n hx hb d_mo_clashes_78 rfl (lv_at hl 0 rfl) ?_
          refine lv_aload_n hx hb d_mo_clashes_79 rfl (lv_at hl 0 rfl) ?_
          refine va_get (D := (dC, dI)) (ci := 5) (v := .ref (a 14)) (C := R_mo) (T := T_mo) (N := 21) hx hb hts hin__mo hown hK hP 0 (wM_0 a cI cZ g) rfl 19 (by decide) fl_50 (fun _ h9 => h9) rfl d_mo_clashes_80 ?_
          refine lv_iload hx hb d_mo_clashes_83 (lv_at hl 4 rfl) ?_
          refine va_iald hx hb hK hP 14 0 (wM_14 a cI cZ g) rfl h.1 d_mo_clashes_85 ?_
          have h := h.2
          refine lv_iload_n hx hb d_mo_clashes_86 rfl (lv_at hl 1 rfl) ?_
          refine lv_bipush (v := 6) hx hb d_mo_clashes_87 (by decide) ?_
          refine zz_ci (va_runV (As := [.int (g 14 (ix v4)), .int v1, .int 6]) (rest := []) ⟨hx, hb, hml, hown, hts⟩ (mc_mo_isNear l dC dI a cI cZ _ (g 14 (ix v4)) v1 6 g _ h) (zz_cwV 3 hts (zz_good wm_344) rfl rfl rfl wm_345 wm_346 wm_347 wm_258 (by decide +kernel) ⟨Nat.le_of_ble_eq_true rfl, Nat.le_of_ble_eq_true rfl⟩) ⟨zz_blind, (va_recv hK hP rfl (wM_0 a cI cZ g)), zz_pre hP hK hD hN⟩ rfl rfl hl.1 rfl (lv_room (Nat.le_of_ble_eq_true rfl)) d_mo_clashes_89 ⟨Nat.le_of_ble_eq_true rfl, Nat.le_of_ble_eq_true rfl⟩) hD hS hA (fun r10 g9 H locs h hP hD hS => ?_)
          refine lv_if_eq (tgt := 115) hx hb d_mo_clashes_92 (by decide) (fun hc => ?_) (fun hc => ?_)
          · have h := h.1 hc
            refine lv_iconst (v := 0) hx hb d_mo_clashes_115 (by decide) ?_
            refine lv_istore_n (lv' := [(3, .int 0), (0, .ref (a 0)), (1, .int v1), (2, .int v2), (4, .int v4)]) hx hb d_mo_clashes_116 rfl hl (by decide) rfl (fun ls hl => ?_)
            refine lv_iinc (k := 4) (v := (v4 + 1)) (lv' := [(4, .int (v4 + 1)), (3, .int 0), (0, .ref (a 0)), (1, .int v1), (2, .int v2)]) hx hb d_mo_clashes_117 hl rfl rfl (by decide) rfl (fun ls hl => ?_)
            refine lv_goto (tgt := 65) hx hb d_mo_clashes_120 (by decide) ?_
            exact ih _ _ _ _ _ _ hK123 h _ _ _ hP hD hS (lv_sub hl [2, 3, 4, 1, 0] rfl)
          · have h := h.2 hc
            refine lv_aload_n hx hb d_mo_clashes_95 rfl (lv_at hl 0 rfl) ?_
            refine lv_aload_n hx hb d_mo_clashes_96 rfl (lv_at hl 0 rfl) ?_
            refine va_get (D := (dC, dI)) (ci := 5) (v := .ref (a 15)) (C := R_mo) (T := T_mo) (N := 21) hx hb hts hin__mo hown hK hP 0 (wM_0 a cI cZ g9) rfl 20 (by decide) fl_53 (fun _ h9 => h9) rfl d_mo_clashes_97 ?_
            refine lv_iload hx hb d_mo_clashes_100 (lv_at hl 4 rfl) ?_
            refine va_iald hx hb hK hP 15 0 (wM_15 a cI cZ g9) rfl h.1 d_mo_clashes_102 ?_
            have h := h.2
            refine lv_iload_n hx hb d_mo_clashes_103 rfl (lv_at hl 2 rfl) ?_
            refine lv_iconst (v := 2) hx hb d_mo_clashes_104 (by decide) ?_
            refine zz_ci (va_runV (As := [.int (g9 15 (ix v4)), .int v2, .int 2]) (rest := []) ⟨hx, hb, hml, hown, hts⟩ (mc_mo_isNear l dC dI a cI cZ _ (g9 15 (ix v4)) v2 2 g9 _ h) (zz_cwV 3 hts (zz_good wm_344) rfl rfl rfl wm_345 wm_346 wm_347 wm_258 (by decide +kernel) ⟨Nat.le_of_ble_eq_true rfl, Nat.le_of_ble_eq_true rfl⟩) ⟨zz_blind, (va_recv hK hP rfl (wM_0 a cI cZ g9)), zz_pre hP hK hD hN⟩ rfl rfl hl.1 rfl (lv_room (Nat.le_of_ble_eq_true rfl)) d_mo_clashes_105 ⟨Nat.le_of_ble_eq_true rfl, Nat.le_of_ble_eq_true rfl⟩) hD hS hA (fun r12 g11 H locs h hP hD hS => ?_)
            refine lv_if_eq (tgt := 115) hx hb d_mo_clashes_108 (by decide) (fun hc => ?_) (fun hc => ?_)
            · have h := h.1 hc
              refine lv_iconst (v := 0) hx hb d_mo_clashes_115 (by decide) ?_
              refine lv_istore_n (lv' := [(3, .int 0), (0, .ref (a 0)), (1, .int v1), (2, .int v2), (4, .int v4)]) hx hb d_mo_clashes_116 rfl hl (by decide) rfl (fun ls hl => ?_)
              refine lv_iinc (k := 4) (v := (v4 + 1)) (lv' := [(4, .int (v4 + 1)), (3, .int 0), (0, .ref (a 0)), (1, .int v1), (2, .int v2)]) hx hb d_mo_clashes_117 hl rfl rfl (by decide) rfl (fun ls hl => ?_)
              refine lv_goto (tgt := 65) hx hb d_mo_clashes_120 (by decide) ?_
              exact ih _ _ _ _ _ _ hK123 h _ _ _ hP hD hS (lv_sub hl [2, 3, 4, 1, 0] rfl)
            · have h := h.2 hc
              refine lv_iconst (v := 1) hx hb d_mo_clashes_111 (by decide) ?_
              refine lv_goto (tgt := 116) hx hb d_mo_clashes_112 (by decide) ?_
              refine lv_istore_n (lv' := [(3, .int 1), (0, .ref (a 0)), (1, .int v1), (2, .int v2), (4, .int v4)]) hx hb d_mo_clashes_116 rfl hl (by decide) rfl (fun ls hl => ?_)
              refine lv_iinc (k := 4) (v := (v4 + 1)) (lv' := [(4, .int (v4 + 1)), (3, .int 1), (0, .ref (a 0)), (1, .int v1), (2, .int v2)]) hx hb d_mo_clashes_117 hl rfl rfl (by decide) rfl (fun ls hl => ?_)
              refine lv_goto (tgt := 65) hx hb d_mo_clashes_120 (by decide) ?_
              exact ih _ _ _ _ _ _ hK123 h _ _ _ hP hD hS (lv_sub hl [2, 3, 4, 1, 0] rfl)
  unfold wp_mo_clashes at h
  refine lv_iconst (v := 0) hx hb d_mo_clashes_0 (by decide) ?_
  refine lv_istore_n (lv' := [(3, .int 0), (0, .ref (a 0)), (1, .int x1), (2, .int x2)]) hx hb d_mo_clashes_1 rfl hl (by decide) rfl (fun ls hl => ?_)
  refine lv_iconst (v := 0) hx hb d_mo_clashes_2 (by decide) ?_
  refine lv_istore (lv' := [(4, .int 0), (3, .int 0), (0, .ref (a 0)), (1, .int x1), (2, .int x2)]) hx hb d_mo_clashes_3 hl (by decide) rfl (fun ls hl => ?_)
  obtain ⟨n5, h⟩ := h
  refine L5 n5 _ _ _ _ _ _ (fun w6 w7 w8 g5 h H locs ls hP hD hS hl => ?_) h _ _ _ hP hD hS (lv_sub hl [2, 3, 4, 1, 0] rfl)
  refine lv_iconst (v := 0) hx hb d_mo_clashes_62 (by decide) ?_
  refine lv_istore (lv' := [(4, .int 0), (0, .ref (a 0)), (1, .int w6), (2, .int w7), (3, .int w8)]) hx hb d_mo_clashes_63 hl (by decide) rfl (fun ls hl => ?_)
  obtain ⟨n65, h⟩ := h
  refine L65 n65 _ _ _ _ _ _ (fun w14 g13 h H locs ls hP hD hS hl => ?_) h _ _ _ hP hD hS (lv_sub hl [1, 2, 3, 4, 0] rfl)
  refine lv_iload_n hx hb d_mo_clashes_123 rfl (lv_at hl 0 rfl) ?_
  exact W.zret (v := w14) hx hb hr h.1 (fun t ht hW => ⟨⟨w14, g13, rfl, h.2, by rw [ht]; exact hP, va_K.moved hW.alike hK, hD⟩, hS.F ht⟩) hS.2.2 d_mo_clashes_124
abbrev rm_mo_labelContour : Room := { frames := 2, cells := 0, slots := 0, locals := 57 }
set_option maxHeartbeats 4000000 in
set_option maxRecDepth 100000 in
theorem mc_mo_labelContour (l : Launch) (dC : Nat → ClassId) (dI : Nat → Nat → Nat) (a : Nat → Nat) (cI cZ : ClassId) (sz : Nat) (x1 : Int32) (x2 : Int32) (g : St) (post : St → Prop) (h : wp_mo_labelContour x1 x2 g post) : Met l yy_mo_labelContour ww_mo_labelContour rm_mo_labelContour (zz_Pre (dC, dI) (wM a cI cZ) [(cI, .int), (cZ, .boolean)] [.ref (a 0), .int x1, .int x2] g sz) (va_Qv post (zz_W (dC, dI) (wM a cI cZ) [(cI, .int), (cZ, .boolean)] (va_A (wM a cI cZ g) sz)) (va_A (wM a cI cZ g) sz)) 0 0 (va_A (wM a cI cZ g) sz) := by
  refine Met.ofW (cc := cc_mo_labelContour) (maxL := 6) (ret := none) (by decide) rfl ?_
  intro p e s m args below meth c s₁ B hml hv
  obtain ⟨hav, hsz, hP, hK, hD0, hN⟩ := hv
  have hx := B.exec
  have hb := B.bytes
  have hr := B.returns
  have hts := atoms_spec (ws := ww_mo_labelContour) B.pre
  have hown : s.vm.findClass "SpotContoursModel" = some m.cls := findClass_of_methodNamed B.named
  have hlocks := B.notSynchronized
  subst hsz
  have hD := hD0.self (sz := s.heap.size)
  generalize hAe : va_A (wM a cI cZ g) s.heap.size = A at hD ⊢
  have hA : ∀ q : Nat, s.heap.size ≤ q → A q := fun q h => by rw [← hAe]; exact Or.inr h
  have hS : va_S A s.heap s.heap [] := va_S.rf
  have he9 := lg_entry_eq m [.ref (a 0), .int x1, .int x2] 6
  rw [← hav] at he9
  rw [he9]
  have hl := lv_entry [.ref (a 0), .int x1, .int x2] (n := 6) (Nat.le_of_ble_eq_true rfl)
  generalize (lg_sl [.ref (a 0), .int x1, .int x2] ++ List.replicate (6 - (lg_sl [.ref (a 0), .int x1, .int x2]).length) Slot.unset).toArray = ls at hl ⊢
  have hl : lv_has ls 6 [(0, .ref (a 0)), (1, .int x1), (2, .int x2)] := hl
  have hin__mo : ∀ w ∈ u_ws R_mo T_mo 21, w ∈ ww_mo_labelContour := fun w h => zz_in (hin0_mo w h)
  have fl_35 := hts (.fieldLink "SpotContoursModel" 35 "SpotContoursModel" "begins" "[I") (zz_in wm_389)
  have fl_38 := hts (.fieldLink "SpotContoursModel" 38 "SpotContoursModel" "sizes" "[I") (zz_in wm_390)
  have fl_44 := hts (.fieldLink "SpotContoursModel" 44 "SpotContoursModel" "row" "[I") (zz_in wm_392)
  have fl_47 := hts (.fieldLink "SpotContoursModel" 47 "SpotContoursModel" "labelLevel" "[I") (zz_in wm_397)
  have fl_50 := hts (.fieldLink "SpotContoursModel" 50 "SpotContoursModel" "labelX" "[I") (zz_in wm_395)
  have fl_53 := hts (.fieldLink "SpotContoursModel" 53 "SpotContoursModel" "labelY" "[I") (zz_in wm_396)
  have fl_63 := hts (.fieldLink "SpotContoursModel" 63 "SpotContoursModel" "labels" "I") (zz_in wm_384)
  have L5 : ∀ (n : Nat) (v1 : Int32) (v2 : Int32) (v3 : Int32) (v4 : Int32) (g : St) (K114 : St → Prop) , (∀ (g : St), K114 g → ∀ (H : Heap) (locs : List Loc) (ls : Array Slot), va_P (dC, dI) zzCl (wM a cI cZ g) H → va_D A (wM a cI cZ g) → va_S A s.heap H locs → lv_has ls 6 [] → W p l e (headSpec ww_mo_labelContour rm_mo_labelContour).room s m args below meth c H locs 0 0 (zz_Qv below (dC, dI) (wM a cI cZ) [(cI, .int), (cZ, .boolean)] A post args s) (F0 m 114 ls [])) → lp_mo_labelContour_L5 n v1 v2 v3 v4 g K114 post → ∀ (H : Heap) (locs : List Loc) (ls : Array Slot), va_P (dC, dI) zzCl (wM a cI cZ g) H → va_D A (wM a cI cZ g) → va_S A s.heap H locs → lv_has ls 6 [(0, .ref (a 0)), (1, .int v1), (2, .int v2), (3, .int v3), (4, .int v4)] → W p l e (headSpec ww_mo_labelContour rm_mo_labelContour).room s m args below meth c H locs 0 0 (zz_Qv below (dC, dI) (wM a cI cZ) [(cI, .int), (cZ, .boolean)] A post args s) (F0 m 5 ls []) := by
    intro n
    induction n with
    | zero => intro v1 v2 v3 v4 g K114 hK114 h; exact h.elim
    | succ n ih =>
      intro v1 v2 v3 v4 g K114 hK114 h H locs ls hP hD hS hl
      unfold lp_mo_labelContour_L5 at h
      refine lv_iload hx hb d_mo_labelContour_5 (lv_at hl 4 rfl) ?_
      refine lv_aload_n hx hb d_mo_labelContour_7 rfl (lv_at hl 0 rfl) ?_
      refine va_get (D := (dC, dI)) (ci := 5) (v := .ref (a 10)) (C := R_mo) (T := T_mo) (N := 21) hx hb hts hin__mo hown hK hP 0 (wM_0 a cI cZ g) rfl 13 (by decide) fl_38 (fun _ h9 => h9) rfl d_mo_labelContour_8 ?_
      refine lv_iload_n hx hb d_mo_labelContour_11 rfl (lv_at hl 2 rfl) ?_
      refine va_iald hx hb hK hP 10 0 (wM_10 a cI cZ g) rfl h.1 d_mo_labelContour_12 ?_
      have h := h.2
      refine lv_icmp_ge (tgt := 114) hx hb d_mo_labelContour_13 (by decide) (fun hc => ?_) (fun hc => ?_)
      · have h := h.1 hc
        exact hK114 _ h _ _ _ hP hD hS (lv_sub hl [] rfl)
      · have h := h.2 hc
        refine lv_iload_n hx hb d_mo_labelContour_16 rfl (lv_at hl 3 rfl) ?_
        refine lv_if_ne (tgt := 114) hx hb d_mo_labelContour_17 (by decide) (fun hc => ?_) (fun hc => ?_)
        · have h := h.1 hc
          exact hK114 _ h _ _ _ hP hD hS (lv_sub hl [] rfl)
        · have h := h.2 hc
          refine lv_aload_n hx hb d_mo_labelContour_20 rfl (lv_at hl 0 rfl) ?_
          refine lv_iload_n hx hb d_mo_labelContour_21 rfl (lv_at hl 1 rfl) ?_
          refine lv_aload_n hx hb d_mo_labelContour_22 rfl (lv_at hl 0 rfl) ?_
          refine va_get (D := (dC, dI)) (ci := 5) (v := .ref (a 12)) (C := R_mo) (T := T_mo) (N := 21) hx hb hts hin__mo hown hK hP 0 (wM_0 a cI cZ g) rfl 16 (by decide) fl_44 (fun _ h9 => h9) rfl d_mo_labelContour_23 ?_
          refine lv_aload_n hx hb d_mo_labelContour_26 rfl (lv_at hl 0 rfl) ?_
          refine va_get (D := (dC, dI)) (ci := 5) (v := .ref (a 9)) (C := R_mo) (T := T_mo) (N := 21) hx hb hts hin__mo hown hK hP 0 (wM_0 a cI cZ g) rfl 12 (by decide) fl_35 (fun _ h9 => h9) rfl d_mo_labelContour_27 ?_
          refine lv_iload_n hx hb d_mo_labelContour_30 rfl (lv_at hl 2 rfl) ?_
          refine va_iald hx hb hK hP 9 0 (wM_9 a cI cZ g) rfl h.1 d_mo_labelContour_31 ?_
          have h := h.2
          refine lv_iload hx hb d_mo_labelContour_32 (lv_at hl 4 rfl) ?_
          refine lv_iadd hx hb d_mo_labelContour_34 ?_
          refine va_iald hx hb hK hP 12 0 (wM_12 a cI cZ g) rfl h.1 d_mo_labelContour_35 ?_
          have h := h.2
          refine zz_ci (va_runV (As := [.int v1, .int (g 12 (ix ((g 9 (ix v2)) + v4)))]) (rest := []) ⟨hx, hb, hml, hown, hts⟩ (mc_mo_placeOf l dC dI a cI cZ _ v1 (g 12 (ix ((g 9 (ix v2)) + v4))) g _ h) (zz_cwV 2 hts (zz_good wm_340) rfl rfl rfl wm_341 wm_342 wm_343 wm_258 (by decide +kernel) ⟨Nat.le_of_ble_eq_true rfl, Nat.le_of_ble_eq_true rfl⟩) ⟨zz_blind, (va_recv hK hP rfl (wM_0 a cI cZ g)), zz_pre hP hK hD hN⟩ rfl rfl hl.1 rfl (lv_room (Nat.le_of_ble_eq_true rfl)) d_mo_labelContour_36 ⟨Nat.le_of_ble_eq_true rfl, Nat.le_of_ble_eq_true rfl⟩) hD hS hA (fun r2 g1 H locs h hP hD hS => ?_)
          refine lv_istore (lv' := [(5, .int r2), (0, .ref (a 0)), (1, .int v1), (2, .int v2), (3, .int v3), (4, .int v4)]) hx hb d_mo_labelContour_39 hl (by decide) rfl (fun ls hl => ?_)
          refine lv_aload_n hx hb d_mo_labelContour_41 rfl (lv_at hl 1 rfl) ?_
          refine lv_iload hx hb d_mo_labelContour_42 (lv_at hl 0 rfl) ?_
          refine lv_bipush (v := 64) hx hb d_mo_labelContour_44 (by decide) ?_
          refine lv_idiv hx hb d_mo_labelContour_46 (by decide) ?_
          refine lv_iload hx hb d_mo_labelContour_47 (lv_at hl 0 rfl) ?_
          refine lv_bipush (v := 64) hx hb d_mo_labelContour_49 (by decide) ?_
          refine lv_irem hx hb d_mo_labelContour_51 (by decide) ?_
          refine zz_ci (va_runV (As := [.int (r2 / 64), .int (r2 - r2 / 64 * 64)]) (rest := []) ⟨hx, hb, hml, hown, hts⟩ (mc_mo_clashes l dC dI a cI cZ _ (r2 / 64) (r2 - r2 / 64 * 64) g1 _ h) (zz_cwV 2 hts (zz_good wm_348) rfl rfl rfl wm_349 wm_350 wm_351 wm_258 (by decide +kernel) ⟨Nat.le_of_ble_eq_true rfl, Nat.le_of_ble_eq_true rfl⟩) ⟨zz_blind, (va_recv hK hP rfl (wM_0 a cI cZ g1)), zz_pre hP hK hD hN⟩ rfl rfl hl.1 rfl (lv_room (Nat.le_of_ble_eq_true rfl)) d_mo_labelContour_52 ⟨Nat.le_of_ble_eq_true rfl, Nat.le_of_ble_eq_true rfl⟩) hD hS hA (fun r4 g3 H locs h hP hD hS => ?_)
          refine lv_if_ne (tgt := 108) hx hb d_mo_labelContour_55 (by decide) (fun hc => ?_) (fun hc => ?_)
          · have h := h.1 hc
            refine lv_iinc (k := 5) (v := (v4 + 1)) (lv' := [(4, .int (v4 + 1)), (5, .int r2), (0, .ref (a 0)), (1, .int v1), (2, .int v2), (3, .int v3)]) hx hb d_mo_labelContour_108 hl rfl rfl (by decide) rfl (fun ls hl => ?_)
            refine lv_goto (tgt := 5) hx hb d_mo_labelContour_111 (by decide) ?_
            exact ih _ _ _ _ _ _ hK114 h _ _ _ hP hD hS (lv_sub hl [2, 3, 4, 5, 0] rfl)
          · have h := h.2 hc
            refine lv_aload_n hx hb d_mo_labelContour_58 rfl (lv_at hl 1 rfl) ?_
            refine va_get (D := (dC, dI)) (ci := 5) (v := .ref (a 13)) (C := R_mo) (T := T_mo) (N := 21) hx hb hts hin__mo hown hK hP 0 (wM_0 a cI cZ g3) rfl 18 (by decide) fl_47 (fun _ h9 => h9) rfl d_mo_labelContour_59 ?_
            refine lv_aload_n hx hb d_mo_labelContour_62 rfl (lv_at hl 1 rfl) ?_
            refine va_get (D := (dC, dI)) (ci := 5) (v := .int (g3 0 17)) (C := R_mo) (T := T_mo) (N := 21) hx hb hts hin__mo hown hK hP 0 (wM_0 a cI cZ g3) rfl 17 (by decide) fl_63 (fun _ h9 => h9) rfl d_mo_labelContour_63 ?_
            refine lv_iload_n hx hb d_mo_labelContour_66 rfl (lv_at hl 2 rfl) ?_
            refine va_iast hx hb hK hP hD hS 13 0 (wM_13 a cI cZ g3) rfl h.1 d_mo_labelContour_67 (fun H locs hP hD hS => ?_)
            obtain ⟨g5, e_g5⟩ : ∃ z : St, z = gp g3 13 (ix (g3 0 17)) v1 := ⟨_, rfl⟩
            have h := h.2 g5 e_g5
            have hP : va_P (dC, dI) zzCl (wM a cI cZ g5) H := by rw [e_g5]; exact hP
            have hD : va_D A (wM a cI cZ g5) := by rw [e_g5]; exact hD
            refine lv_aload_n hx hb d_mo_labelContour_68 rfl (lv_at hl 1 rfl) ?_
            refine va_get (D := (dC, dI)) (ci := 5) (v := .ref (a 14)) (C := R_mo) (T := T_mo) (N := 21) hx hb hts hin__mo hown hK hP 0 (wM_0 a cI cZ g5) rfl 19 (by decide) fl_50 (fun _ h9 => h9) rfl d_mo_labelContour_69 ?_
            refine lv_aload_n hx hb d_mo_labelContour_72 rfl (lv_at hl 1 rfl) ?_
            refine va_get (D := (dC, dI)) (ci := 5) (v := .int (g5 0 17)) (C := R_mo) (T := T_mo) (N := 21) hx hb hts hin__mo hown hK hP 0 (wM_0 a cI cZ g5) rfl 17 (by decide) fl_63 (fun _ h9 => h9) rfl d_mo_labelContour_73 ?_
            refine lv_iload hx hb d_mo_labelContour_76 (lv_at hl 0 rfl) ?_
            refine lv_bipush (v := 64) hx hb d_mo_labelContour_78 (by decide) ?_
            refine lv_idiv hx hb d_mo_labelContour_80 (by decide) ?_
            refine va_iast hx hb hK hP hD hS 14 0 (wM_14 a cI cZ g5) rfl h.1 d_mo_labelContour_81 (fun H locs hP hD hS => ?_)
            obtain ⟨g6, e_g6⟩ : ∃ z : St, z = gp g5 14 (ix (g5 0 17)) (r2 / 64) := ⟨_, rfl⟩
            have h := h.2 g6 e_g6
            have hP : va_P (dC, dI) zzCl (wM a cI cZ g6) H := by rw [e_g6]; exact hP
            have hD : va_D A (wM a cI cZ g6) := by rw [e_g6]; exact hD
            refine lv_aload_n hx hb d_mo_labelContour_82 rfl (lv_at hl 1 rfl) ?_
            refine va_get (D := (dC, dI)) (ci := 5) (v := .ref (a 15)) (C := R_mo) (T := T_mo) (N := 21) hx hb hts hin__mo hown hK hP 0 (wM_0 a cI cZ g6) rfl 20 (by decide) fl_53 (fun _ h9 => h9) rfl d_mo_labelContour_83 ?_
            refine lv_aload_n hx hb d_mo_labelContour_86 rfl (lv_at hl 1 rfl) ?_
            refine va_get (D := (dC, dI)) (ci := 5) (v := .int (g6 0 17)) (C := R_mo) (T := T_mo) (N := 21) hx hb hts hin__mo hown hK hP 0 (wM_0 a cI cZ g6) rfl 17 (by decide) fl_63 (fun _ h9 => h9) rfl d_mo_labelContour_87 ?_
            refine lv_iload hx hb d_mo_labelContour_90 (lv_at hl 0 rfl) ?_
            refine lv_bipush (v := 64) hx hb d_mo_labelContour_92 (by decide) ?_
            refine lv_irem hx hb d_mo_labelContour_94 (by decide) ?_
            refine va_iast hx hb hK hP hD hS 15 0 (wM_15 a cI cZ g6) rfl h.1 d_mo_labelContour_95 (fun H locs hP hD hS => ?_)
            obtain ⟨g7, e_g7⟩ : ∃ z : St, z = gp g6 15 (ix (g6 0 17)) (r2 - r2 / 64 * 64) := ⟨_, rfl⟩
            have h := h.2 g7 e_g7
            have hP : va_P (dC, dI) zzCl (wM a cI cZ g7) H := by rw [e_g7]; exact hP
            have hD : va_D A (wM a cI cZ g7) := by rw [e_g7]; exact hD
            refine lv_aload_n hx hb d_mo_labelContour_96 rfl (lv_at hl 1 rfl) ?_
            refine lv_dup hx hb d_mo_labelContour_97 rfl ?_
            refine va_get (D := (dC, dI)) (ci := 5) (v := .int (g7 0 17)) (C := R_mo) (T := T_mo) (N := 21) hx hb hts hin__mo hown hK hP 0 (wM_0 a cI cZ g7) rfl 17 (by decide) fl_63 (fun _ h9 => h9) rfl d_mo_labelContour_98 ?_
            refine lv_iconst (v := 1) hx hb d_mo_labelContour_101 (by decide) ?_
            refine lv_iadd hx hb d_mo_labelContour_102 ?_
            refine va_put (D := (dC, dI)) (ci := 5) (v := .int ((g7 0 17) + 1)) (ty := .int) (C := R_mo) (T := T_mo) (N := 21) hx hb hts hin__mo ty_mo tok_mo nmd_mo hown hK hP hD hS 0 (wM_0 a cI cZ g7) rfl 17 (by decide) fl_63 (fun _ h9 => h9) rfl (by decide +kernel) rfl rfl (Nat.le_of_ble_eq_true rfl) d_mo_labelContour_103 (fun H locs hP hD hS => ?_)
            obtain ⟨g8, e_g8⟩ : ∃ z : St, z = gp g7 0 17 ((g7 0 17) + 1) := ⟨_, rfl⟩
            have h := h g8 e_g8
            have hP : va_P (dC, dI) zzCl (wM a cI cZ g8) H := by rw [e_g8]; exact hP
            have hD : va_D A (wM a cI cZ g8) := by rw [e_g8]; exact hD
            refine lv_iconst (v := 1) hx hb d_mo_labelContour_106 (by decide) ?_
            refine lv_istore_n (lv' := [(3, .int 1), (5, .int r2), (0, .ref (a 0)), (1, .int v1), (2, .int v2), (4, .int v4)]) hx hb d_mo_labelContour_107 rfl hl (by decide) rfl (fun ls hl => ?_)
            refine lv_iinc (k := 5) (v := (v4 + 1)) (lv' := [(4, .int (v4 + 1)), (3, .int 1), (5, .int r2), (0, .ref (a 0)), (1, .int v1), (2, .int v2)]) hx hb d_mo_labelContour_108 hl rfl rfl (by decide) rfl (fun ls hl => ?_)
            refine lv_goto (tgt := 5) hx hb d_mo_labelContour_111 (by decide) ?_
            exact ih _ _ _ _ _ _ hK114 h _ _ _ hP hD hS (lv_sub hl [3, 4, 5, 1, 0] rfl)
  unfold wp_mo_labelContour at h
  refine lv_iconst (v := 0) hx hb d_mo_labelContour_0 (by decide) ?_
  refine lv_istore_n (lv' := [(3, .int 0), (0, .ref (a 0)), (1, .int x1), (2, .int x2)]) hx hb d_mo_labelContour_1 rfl hl (by decide) rfl (fun ls hl => ?_)
  refine lv_iconst (v := 0) hx hb d_mo_labelContour_2 (by decide) ?_
  refine lv_istore (lv' := [(4, .int 0), (3, .int 0), (0, .ref (a 0)), (1, .int x1), (2, .int x2)]) hx hb d_mo_labelContour_3 hl (by decide) rfl (fun ls hl => ?_)
  obtain ⟨n5, h⟩ := h
  refine L5 n5 _ _ _ _ _ _ (fun g9 h H locs ls hP hD hS hl => ?_) h _ _ _ hP hD hS (lv_sub hl [2, 3, 4, 1, 0] rfl)
  exact W.vret hx hb hr (fun t ht hW => ⟨⟨g9, rfl, h, by rw [ht]; exact hP, va_K.moved hW.alike hK, hD⟩, hS.F ht⟩) hS.2.2 d_mo_labelContour_114
abbrev rm_mo_label : Room := { frames := 4, cells := 0, slots := 0, locals := 97 }
set_option maxHeartbeats 4000000 in
set_option maxRecDepth 100000 in
theorem mc_mo_label (l : Launch) (dC : Nat → ClassId) (dI : Nat → Nat → Nat) (a : Nat → Nat) (cI cZ : ClassId) (sz : Nat) (x1 : Int32) (g : St) (post : Int32 → St → Prop) (h : wp_mo_label x1 g post) : Met l yy_mo_label ww_mo_label rm_mo_label (zz_Pre (dC, dI) (wM a cI cZ) [(cI, .int), (cZ, .boolean)] [.ref (a 0), .int x1] g sz) (va_Qi post (zz_W (dC, dI) (wM a cI cZ) [(cI, .int), (cZ, .boolean)] (va_A (wM a cI cZ g) sz)) (va_A (wM a cI cZ g) sz)) 0 0 (va_A (wM a cI cZ g) sz) := by
  refine Met.ofW (cc := cc_mo_label) (maxL := 4) (ret := (some .int)) (by decide) rfl ?_
  intro p e s m args below meth c s₁ B hml hv
  obtain ⟨hav, hsz, hP, hK, hD0, hN⟩ := hv
  have hx := B.exec
  have hb := B.bytes
  have hr := B.returns
  have hts := atoms_spec (ws := ww_mo_label) B.pre
  have hown : s.vm.findClass "SpotContoursModel" = some m.cls := findClass_of_methodNamed B.named
  have hlocks := B.notSynchronized
  subst hsz
  have hD := hD0.self (sz := s.heap.size)
  generalize hAe : va_A (wM a cI cZ g) s.heap.size = A at hD ⊢
  have hA : ∀ q : Nat, s.heap.size ≤ q → A q := fun q h => by rw [← hAe]; exact Or.inr h
  have hS : va_S A s.heap s.heap [] := va_S.rf
  have he9 := lg_entry_eq m [.ref (a 0), .int x1] 4
  rw [← hav] at he9
  rw [he9]
  have hl := lv_entry [.ref (a 0), .int x1] (n := 4) (Nat.le_of_ble_eq_true rfl)
  generalize (lg_sl [.ref (a 0), .int x1] ++ List.replicate (4 - (lg_sl [.ref (a 0), .int x1]).length) Slot.unset).toArray = ls at hl ⊢
  have hl : lv_has ls 4 [(0, .ref (a 0)), (1, .int x1)] := hl
  have hin__mo : ∀ w ∈ u_ws R_mo T_mo 21, w ∈ ww_mo_label := fun w h => zz_in (hin0_mo w h)
  have fl_56 := hts (.fieldLink "SpotContoursModel" 56 "SpotContoursModel" "thrown" "I") (zz_in wm_377)
  have fl_63 := hts (.fieldLink "SpotContoursModel" 63 "SpotContoursModel" "labels" "I") (zz_in wm_384)
  have fl_121 := hts (.fieldLink "SpotContoursModel" 121 "SpotContoursModel" "contours" "I") (zz_in wm_393)
  have L37 : ∀ (n : Nat) (v1 : Int32) (v2 : Int32) (v3 : Int32) (g : St) (K57 : Int32 → St → Prop) , (∀ (v2 : Int32) (g : St), K57 v2 g → ∀ (H : Heap) (locs : List Loc) (ls : Array Slot), va_P (dC, dI) zzCl (wM a cI cZ g) H → va_D A (wM a cI cZ g) → va_S A s.heap H locs → lv_has ls 4 [(0, .ref (a 0)), (2, .int v2)] → W p l e (headSpec ww_mo_label rm_mo_label).room s m args below meth c H locs 0 0 (zz_Qi below (dC, dI) (wM a cI cZ) [(cI, .int), (cZ, .boolean)] A post args s) (F0 m 57 ls [])) → lp_mo_label_L37 n v1 v2 v3 g K57 post → ∀ (H : Heap) (locs : List Loc) (ls : Array Slot), va_P (dC, dI) zzCl (wM a cI cZ g) H → va_D A (wM a cI cZ g) → va_S A s.heap H locs → lv_has ls 4 [(0, .ref (a 0)), (1, .int v1), (2, .int v2), (3, .int v3)] → W p l e (headSpec ww_mo_label rm_mo_label).room s m args below meth c H locs 0 0 (zz_Qi below (dC, dI) (wM a cI cZ) [(cI, .int), (cZ, .boolean)] A post args s) (F0 m 37 ls []) := by
    intro n
    induction n with
    | zero => intro v1 v2 v3 g K57 hK57 h; exact h.elim
    | succ n ih =>
      intro v1 v2 v3 g K57 hK57 h H locs ls hP hD hS hl
      unfold lp_mo_label_L37 at h
      refine lv_iload_n hx hb d_mo_label_37 rfl (lv_at hl 3 rfl) ?_
      refine lv_aload_n hx hb d_mo_label_38 rfl (lv_at hl 0 rfl) ?_
      refine va_get (D := (dC, dI)) (ci := 5) (v := .int (g 0 11)) (C := R_mo) (T := T_mo) (N := 21) hx hb hts hin__mo hown hK hP 0 (wM_0 a cI cZ g) rfl 11 (by decide) fl_121 (fun _ h9 => h9) rfl d_mo_label_39 ?_
      refine lv_icmp_ge (tgt := 57) hx hb d_mo_label_42 (by decide) (fun hc => ?_) (fun hc => ?_)
      · have h := h.1 hc
        exact hK57 _ _ h _ _ _ hP hD hS (lv_sub hl [0, 2] rfl)
      · have h := h.2 hc
        refine lv_aload_n hx hb d_mo_label_45 rfl (lv_at hl 0 rfl) ?_
        refine lv_iload_n hx hb d_mo_label_46 rfl (lv_at hl 1 rfl) ?_
        refine lv_iload_n hx hb d_mo_label_47 rfl (lv_at hl 3 rfl) ?_
        refine zz_cv (va_runV (As := [.int v1, .int v3]) (rest := []) ⟨hx, hb, hml, hown, hts⟩ (mc_mo_labelContour l dC dI a cI cZ _ v1 v3 g _ h) (zz_cwV 2 hts (zz_good wm_352) rfl rfl rfl wm_353 wm_354 wm_355 wm_258 (by decide +kernel) ⟨Nat.le_of_ble_eq_true rfl, Nat.le_of_ble_eq_true rfl⟩) ⟨zz_blind, (va_recv hK hP rfl (wM_0 a cI cZ g)), zz_pre hP hK hD hN⟩ rfl rfl hl.1 rfl (lv_room (Nat.le_of_ble_eq_true rfl)) d_mo_label_48 ⟨Nat.le_of_ble_eq_true rfl, Nat.le_of_ble_eq_true rfl⟩) hD hS hA (fun g5 H locs h hP hD hS => ?_)
        refine lv_iinc (k := 3) (v := (v3 + 1)) (lv' := [(3, .int (v3 + 1)), (0, .ref (a 0)), (1, .int v1), (2, .int v2)]) hx hb d_mo_label_51 hl rfl rfl (by decide) rfl (fun ls hl => ?_)
        refine lv_goto (tgt := 37) hx hb d_mo_label_54 (by decide) ?_
        exact ih _ _ _ _ _ hK57 h _ _ _ hP hD hS (lv_sub hl [1, 2, 3, 0] rfl)
  have J79 : ∀ (v2 : Int32) (v3 : Int32) (s1 : Int32) (g : St), jn_mo_label_J79 v2 v3 s1 g post → ∀ (H : Heap) (locs : List Loc) (ls : Array Slot), va_P (dC, dI) zzCl (wM a cI cZ g) H → va_D A (wM a cI cZ g) → va_S A s.heap H locs → lv_has ls 4 [(0, .ref (a 0)), (2, .int v2), (3, .int v3)] → W p l e (headSpec ww_mo_label rm_mo_label).room s m args below meth c H locs 0 0 (zz_Qi below (dC, dI) (wM a cI cZ) [(cI, .int), (cZ, .boolean)] A post args s) (F0 m 79 ls [.int s1, .ref (a 0)]) := by
    intro v2 v3 s1 g h H locs ls hP hD hS hl
    unfold jn_mo_label_J79 at h
    refine va_put (D := (dC, dI)) (ci := 5) (v := .int s1) (ty := .int) (C := R_mo) (T := T_mo) (N := 21) hx hb hts hin__mo ty_mo tok_mo nmd_mo hown hK hP hD hS 0 (wM_0 a cI cZ g) rfl 0 (by decide) fl_56 (fun _ h9 => h9) rfl (by decide +kernel) rfl rfl (Nat.le_of_ble_eq_true rfl) d_mo_label_79 (fun H locs hP hD hS => ?_)
    obtain ⟨g8, e_g8⟩ : ∃ z : St, z = gp g 0 0 s1 := ⟨_, rfl⟩
    have h := h g8 e_g8
    have hP : va_P (dC, dI) zzCl (wM a cI cZ g8) H := by rw [e_g8]; exact hP
    have hD : va_D A (wM a cI cZ g8) := by rw [e_g8]; exact hD
    refine lv_aload_n hx hb d_mo_label_82 rfl (lv_at hl 0 rfl) ?_
    refine lv_aload_n hx hb d_mo_label_83 rfl (lv_at hl 0 rfl) ?_
    refine va_get (D := (dC, dI)) (ci := 5) (v := .int (g8 0 0)) (C := R_mo) (T := T_mo) (N := 21) hx hb hts hin__mo hown hK hP 0 (wM_0 a cI cZ g8) rfl 0 (by decide) fl_56 (fun _ h9 => h9) rfl d_mo_label_84 ?_
    refine lv_if_ne (tgt := 97) hx hb d_mo_label_87 (by decide) (fun hc => ?_) (fun hc => ?_)
    · have h := h.1 hc
      refine lv_iload_n hx hb d_mo_label_97 rfl (lv_at hl 1 rfl) ?_
      refine va_put (D := (dC, dI)) (ci := 5) (v := .int v2) (ty := .int) (C := R_mo) (T := T_mo) (N := 21) hx hb hts hin__mo ty_mo tok_mo nmd_mo hown hK hP hD hS 0 (wM_0 a cI cZ g8) rfl 17 (by decide) fl_63 (fun _ h9 => h9) rfl (by decide +kernel) rfl rfl (Nat.le_of_ble_eq_true rfl) d_mo_label_98 (fun H locs hP hD hS => ?_)
      obtain ⟨g9, e_g9⟩ : ∃ z : St, z = gp g8 0 17 v2 := ⟨_, rfl⟩
      have h := h g9 e_g9
      have hP : va_P (dC, dI) zzCl (wM a cI cZ g9) H := by rw [e_g9]; exact hP
      have hD : va_D A (wM a cI cZ g9) := by rw [e_g9]; exact hD
      refine lv_aload_n hx hb d_mo_label_101 rfl (lv_at hl 0 rfl) ?_
      refine va_get (D := (dC, dI)) (ci := 5) (v := .int (g9 0 0)) (C := R_mo) (T := T_mo) (N := 21) hx hb hts hin__mo hown hK hP 0 (wM_0 a cI cZ g9) rfl 0 (by decide) fl_56 (fun _ h9 => h9) rfl d_mo_label_102 ?_
      refine lv_if_ne (tgt := 112) hx hb d_mo_label_105 (by decide) (fun hc => ?_) (fun hc => ?_)
      · have h := h.1 hc
        refine lv_iconst (v := 0) hx hb d_mo_label_112 (by decide) ?_
        exact W.iret (v := 0) hx hb hr (fun t ht hW => ⟨⟨0, g9, rfl, h, by rw [ht]; exact hP, va_K.moved hW.alike hK, hD⟩, hS.F ht⟩) hS.2.2 d_mo_label_113
      · have h := h.2 hc
        refine lv_iload_n hx hb d_mo_label_108 rfl (lv_at hl 2 rfl) ?_
        refine lv_goto (tgt := 113) hx hb d_mo_label_109 (by decide) ?_
        exact W.iret (v := v3) hx hb hr (fun t ht hW => ⟨⟨v3, g9, rfl, h, by rw [ht]; exact hP, va_K.moved hW.alike hK, hD⟩, hS.F ht⟩) hS.2.2 d_mo_label_113
    · have h := h.2 hc
      refine lv_aload_n hx hb d_mo_label_90 rfl (lv_at hl 0 rfl) ?_
      refine va_get (D := (dC, dI)) (ci := 5) (v := .int (g8 0 17)) (C := R_mo) (T := T_mo) (N := 21) hx hb hts hin__mo hown hK hP 0 (wM_0 a cI cZ g8) rfl 17 (by decide) fl_63 (fun _ h9 => h9) rfl d_mo_label_91 ?_
      refine lv_goto (tgt := 98) hx hb d_mo_label_94 (by decide) ?_
      refine va_put (D := (dC, dI)) (ci := 5) (v := .int (g8 0 17)) (ty := .int) (C := R_mo) (T := T_mo) (N := 21) hx hb hts hin__mo ty_mo tok_mo nmd_mo hown hK hP hD hS 0 (wM_0 a cI cZ g8) rfl 17 (by decide) fl_63 (fun _ h9 => h9) rfl (by decide +kernel) rfl rfl (Nat.le_of_ble_eq_true rfl) d_mo_label_98 (fun H locs hP hD hS => ?_)
      obtain ⟨g10, e_g10⟩ : ∃ z : St, z = gp g8 0 17 (g8 0 17) := ⟨_, rfl⟩
      have h := h g10 e_g10
      have hP : va_P (dC, dI) zzCl (wM a cI cZ g10) H := by rw [e_g10]; exact hP
      have hD : va_D A (wM a cI cZ g10) := by rw [e_g10]; exact hD
      refine lv_aload_n hx hb d_mo_label_101 rfl (lv_at hl 0 rfl) ?_
      refine va_get (D := (dC, dI)) (ci := 5) (v := .int (g10 0 0)) (C := R_mo) (T := T_mo) (N := 21) hx hb hts hin__mo hown hK hP 0 (wM_0 a cI cZ g10) rfl 0 (by decide) fl_56 (fun _ h9 => h9) rfl d_mo_label_102 ?_
      refine lv_if_ne (tgt := 112) hx hb d_mo_label_105 (by decide) (fun hc => ?_) (fun hc => ?_)
      · have h := h.1 hc
        refine lv_iconst (v := 0) hx hb d_mo_label_112 (by decide) ?_
        exact W.iret (v := 0) hx hb hr (fun t ht hW => ⟨⟨0, g10, rfl, h, by rw [ht]; exact hP, va_K.moved hW.alike hK, hD⟩, hS.F ht⟩) hS.2.2 d_mo_label_113
      · have h := h.2 hc
        refine lv_iload_n hx hb d_mo_label_108 rfl (lv_at hl 2 rfl) ?_
        refine lv_goto (tgt := 113) hx hb d_mo_label_109 (by decide) ?_
        exact W.iret (v := v3) hx hb hr (fun t ht hW => ⟨⟨v3, g10, rfl, h, by rw [ht]; exact hP, va_K.moved hW.alike hK, hD⟩, hS.F ht⟩) hS.2.2 d_mo_label_113
  have J13 : ∀ (v1 : Int32) (s1 : Int32) (g : St), jn_mo_label_J13 v1 s1 g post → ∀ (H : Heap) (locs : List Loc) (ls : Array Slot), va_P (dC, dI) zzCl (wM a cI cZ g) H → va_D A (wM a cI cZ g) → va_S A s.heap H locs → lv_has ls 4 [(0, .ref (a 0)), (1, .int v1)] → W p l e (headSpec ww_mo_label rm_mo_label).room s m args below meth c H locs 0 0 (zz_Qi below (dC, dI) (wM a cI cZ) [(cI, .int), (cZ, .boolean)] A post args s) (F0 m 13 ls [.int s1, .ref (a 0)]) := by
    intro v1 s1 g h H locs ls hP hD hS hl
    unfold jn_mo_label_J13 at h
    refine va_put (D := (dC, dI)) (ci := 5) (v := .int s1) (ty := .int) (C := R_mo) (T := T_mo) (N := 21) hx hb hts hin__mo ty_mo tok_mo nmd_mo hown hK hP hD hS 0 (wM_0 a cI cZ g) rfl 0 (by decide) fl_56 (fun _ h9 => h9) rfl (by decide +kernel) rfl rfl (Nat.le_of_ble_eq_true rfl) d_mo_label_13 (fun H locs hP hD hS => ?_)
    obtain ⟨g3, e_g3⟩ : ∃ z : St, z = gp g 0 0 s1 := ⟨_, rfl⟩
    have h := h g3 e_g3
    have hP : va_P (dC, dI) zzCl (wM a cI cZ g3) H := by rw [e_g3]; exact hP
    have hD : va_D A (wM a cI cZ g3) := by rw [e_g3]; exact hD
    refine lv_aload_n hx hb d_mo_label_16 rfl (lv_at hl 0 rfl) ?_
    refine va_get (D := (dC, dI)) (ci := 5) (v := .int (g3 0 0)) (C := R_mo) (T := T_mo) (N := 21) hx hb hts hin__mo hown hK hP 0 (wM_0 a cI cZ g3) rfl 0 (by decide) fl_56 (fun _ h9 => h9) rfl d_mo_label_17 ?_
    refine lv_if_eq (tgt := 25) hx hb d_mo_label_20 (by decide) (fun hc => ?_) (fun hc => ?_)
    · have h := h.1 hc
      refine lv_aload_n hx hb d_mo_label_25 rfl (lv_at hl 0 rfl) ?_
      refine lv_iload_n hx hb d_mo_label_26 rfl (lv_at hl 1 rfl) ?_
      refine zz_cv (va_runV (As := [.int v1]) (rest := []) ⟨hx, hb, hml, hown, hts⟩ (mc_mo_findContours l dC dI a cI cZ _ v1 g3 _ h) (zz_cwV 1 hts (zz_good wm_320) rfl rfl rfl wm_321 wm_322 wm_323 wm_258 (by decide +kernel) ⟨Nat.le_of_ble_eq_true rfl, Nat.le_of_ble_eq_true rfl⟩) ⟨zz_blind, (va_recv hK hP rfl (wM_0 a cI cZ g3)), zz_pre hP hK hD hN⟩ rfl rfl hl.1 rfl (lv_room (Nat.le_of_ble_eq_true rfl)) d_mo_label_27 ⟨Nat.le_of_ble_eq_true rfl, Nat.le_of_ble_eq_true rfl⟩) hD hS hA (fun g4 H locs h hP hD hS => ?_)
      refine lv_aload_n hx hb d_mo_label_30 rfl (lv_at hl 0 rfl) ?_
      refine va_get (D := (dC, dI)) (ci := 5) (v := .int (g4 0 17)) (C := R_mo) (T := T_mo) (N := 21) hx hb hts hin__mo hown hK hP 0 (wM_0 a cI cZ g4) rfl 17 (by decide) fl_63 (fun _ h9 => h9) rfl d_mo_label_31 ?_
      refine lv_istore_n (lv' := [(2, .int (g4 0 17)), (0, .ref (a 0)), (1, .int v1)]) hx hb d_mo_label_34 rfl hl (by decide) rfl (fun ls hl => ?_)
      refine lv_iconst (v := 0) hx hb d_mo_label_35 (by decide) ?_
      refine lv_istore_n (lv' := [(3, .int 0), (2, .int (g4 0 17)), (0, .ref (a 0)), (1, .int v1)]) hx hb d_mo_label_36 rfl hl (by decide) rfl (fun ls hl => ?_)
      obtain ⟨n37, h⟩ := h
      refine L37 n37 _ _ _ _ _ (fun w7 g6 h H locs ls hP hD hS hl => ?_) h _ _ _ hP hD hS (lv_sub hl [2, 3, 1, 0] rfl)
      refine lv_aload_n hx hb d_mo_label_57 rfl (lv_at hl 0 rfl) ?_
      refine va_get (D := (dC, dI)) (ci := 5) (v := .int (g6 0 17)) (C := R_mo) (T := T_mo) (N := 21) hx hb hts hin__mo hown hK hP 0 (wM_0 a cI cZ g6) rfl 17 (by decide) fl_63 (fun _ h9 => h9) rfl d_mo_label_58 ?_
      refine lv_iload_n hx hb d_mo_label_61 rfl (lv_at hl 1 rfl) ?_
      refine lv_isub hx hb d_mo_label_62 ?_
      refine lv_istore_n (lv' := [(3, .int ((g6 0 17) - w7)), (0, .ref (a 0)), (2, .int w7)]) hx hb d_mo_label_63 rfl hl (by decide) rfl (fun ls hl => ?_)
      refine lv_aload_n hx hb d_mo_label_64 rfl (lv_at hl 1 rfl) ?_
      refine lv_aload_n hx hb d_mo_label_65 rfl (lv_at hl 1 rfl) ?_
      refine va_get (D := (dC, dI)) (ci := 5) (v := .int (g6 0 17)) (C := R_mo) (T := T_mo) (N := 21) hx hb hts hin__mo hown hK hP 0 (wM_0 a cI cZ g6) rfl 17 (by decide) fl_63 (fun _ h9 => h9) rfl d_mo_label_66 ?_
      refine lv_bipush (v := 20) hx hb d_mo_label_69 (by decide) ?_
      refine lv_icmp_le (tgt := 78) hx hb d_mo_label_71 (by decide) (fun hc => ?_) (fun hc => ?_)
      · have h := h.1 hc
        refine lv_iconst (v := 0) hx hb d_mo_label_78 (by decide) ?_
        exact J79 _ _ _ _ h _ _ _ hP hD hS (lv_sub hl [1, 2, 0] rfl)
      · have h := h.2 hc
        refine lv_iconst (v := 2) hx hb d_mo_label_74 (by decide) ?_
        refine lv_goto (tgt := 79) hx hb d_mo_label_75 (by decide) ?_
        exact J79 _ _ _ _ h _ _ _ hP hD hS (lv_sub hl [1, 2, 0] rfl)
    · have h := h.2 hc
      refine lv_iconst (v := 0) hx hb d_mo_label_23 (by decide) ?_
      exact W.iret (v := 0) hx hb hr (fun t ht hW => ⟨⟨0, g3, rfl, h, by rw [ht]; exact hP, va_K.moved hW.alike hK, hD⟩, hS.F ht⟩) hS.2.2 d_mo_label_24
  unfold wp_mo_label at h
  refine lv_aload_n hx hb d_mo_label_0 rfl (lv_at hl 0 rfl) ?_
  refine lv_iload_n hx hb d_mo_label_1 rfl (lv_at hl 1 rfl) ?_
  refine zz_ci (va_runS (As := [.int x1]) (rest := [.ref (a 0)]) ⟨hx, hb, hml, hown, hts⟩ (mc_mo_isLevel l dC dI a cI cZ _ x1 g _ h) (zz_cwS 1 hts (zz_good wm_324) rfl rfl rfl wm_325 wm_326 wm_258 (by decide +kernel) ⟨Nat.le_of_ble_eq_true rfl, Nat.le_of_ble_eq_true rfl⟩) ⟨zz_blind, zz_pre hP hK hD hN⟩ rfl rfl hl.1 rfl (lv_room (Nat.le_of_ble_eq_true rfl)) d_mo_label_2 ⟨Nat.le_of_ble_eq_true rfl, Nat.le_of_ble_eq_true rfl⟩) hD hS hA (fun r2 g1 H locs h hP hD hS => ?_)
  refine lv_if_eq (tgt := 12) hx hb d_mo_label_5 (by decide) (fun hc => ?_) (fun hc => ?_)
  · have h := h.1 hc
    refine lv_iconst (v := 1) hx hb d_mo_label_12 (by decide) ?_
    exact J13 _ _ _ h _ _ _ hP hD hS (lv_sub hl [0, 1] rfl)
  · have h := h.2 hc
    refine lv_iconst (v := 0) hx hb d_mo_label_8 (by decide) ?_
    refine lv_goto (tgt := 13) hx hb d_mo_label_9 (by decide) ?_
    exact J13 _ _ _ h _ _ _ hP hD hS (lv_sub hl [0, 1] rfl)
abbrev rm_mo_labels : Room := { frames := 0, cells := 0, slots := 0, locals := 0 }
set_option maxHeartbeats 4000000 in
set_option maxRecDepth 100000 in
theorem mc_mo_labels (l : Launch) (dC : Nat → ClassId) (dI : Nat → Nat → Nat) (a : Nat → Nat) (cI cZ : ClassId) (sz : Nat) (g : St) (post : Int32 → St → Prop) (h : wp_mo_labels  g post) : Met l yy_mo_labels ww_mo_labels rm_mo_labels (zz_Pre (dC, dI) (wM a cI cZ) [(cI, .int), (cZ, .boolean)] [.ref (a 0)] g sz) (va_Qi post (zz_W (dC, dI) (wM a cI cZ) [(cI, .int), (cZ, .boolean)] (va_A (wM a cI cZ g) sz)) (va_A (wM a cI cZ g) sz)) 0 0 (va_A (wM a cI cZ g) sz) := by
  refine Met.ofW (cc := cc_mo_labels) (maxL := 1) (ret := (some .int)) (by decide) rfl ?_
  intro p e s m args below meth c s₁ B hml hv
  obtain ⟨hav, hsz, hP, hK, hD0, hN⟩ := hv
  have hx := B.exec
  have hb := B.bytes
  have hr := B.returns
  have hts := atoms_spec (ws := ww_mo_labels) B.pre
  have hown : s.vm.findClass "SpotContoursModel" = some m.cls := findClass_of_methodNamed B.named
  have hlocks := B.notSynchronized
  subst hsz
  have hD := hD0.self (sz := s.heap.size)
  generalize hAe : va_A (wM a cI cZ g) s.heap.size = A at hD ⊢
  have hA : ∀ q : Nat, s.heap.size ≤ q → A q := fun q h => by rw [← hAe]; exact Or.inr h
  have hS : va_S A s.heap s.heap [] := va_S.rf
  have he9 := lg_entry_eq m [.ref (a 0)] 1
  rw [← hav] at he9
  rw [he9]
  have hl := lv_entry [.ref (a 0)] (n := 1) (Nat.le_of_ble_eq_true rfl)
  generalize (lg_sl [.ref (a 0)] ++ List.replicate (1 - (lg_sl [.ref (a 0)]).length) Slot.unset).toArray = ls at hl ⊢
  have hl : lv_has ls 1 [(0, .ref (a 0))] := hl
  have hin__mo : ∀ w ∈ u_ws R_mo T_mo 21, w ∈ ww_mo_labels := fun w h => zz_in (hin0_mo w h)
  have fl_56 := hts (.fieldLink "SpotContoursModel" 56 "SpotContoursModel" "thrown" "I") (zz_in wm_377)
  have fl_63 := hts (.fieldLink "SpotContoursModel" 63 "SpotContoursModel" "labels" "I") (zz_in wm_384)
  unfold wp_mo_labels at h
  refine lv_aload_n hx hb d_mo_labels_0 rfl (lv_at hl 0 rfl) ?_
  refine lv_iconst (v := 0) hx hb d_mo_labels_1 (by decide) ?_
  refine va_put (D := (dC, dI)) (ci := 5) (v := .int 0) (ty := .int) (C := R_mo) (T := T_mo) (N := 21) hx hb hts hin__mo ty_mo tok_mo nmd_mo hown hK hP hD hS 0 (wM_0 a cI cZ g) rfl 0 (by decide) fl_56 (fun _ h9 => h9) rfl (by decide +kernel) rfl rfl (Nat.le_of_ble_eq_true rfl) d_mo_labels_2 (fun H locs hP hD hS => ?_)
  obtain ⟨g1, e_g1⟩ : ∃ z : St, z = gp g 0 0 0 := ⟨_, rfl⟩
  have h := h g1 e_g1
  have hP : va_P (dC, dI) zzCl (wM a cI cZ g1) H := by rw [e_g1]; exact hP
  have hD : va_D A (wM a cI cZ g1) := by rw [e_g1]; exact hD
  refine lv_aload_n hx hb d_mo_labels_5 rfl (lv_at hl 0 rfl) ?_
  refine va_get (D := (dC, dI)) (ci := 5) (v := .int (g1 0 17)) (C := R_mo) (T := T_mo) (N := 21) hx hb hts hin__mo hown hK hP 0 (wM_0 a cI cZ g1) rfl 17 (by decide) fl_63 (fun _ h9 => h9) rfl d_mo_labels_6 ?_
  exact W.iret (v := (g1 0 17)) hx hb hr (fun t ht hW => ⟨⟨(g1 0 17), g1, rfl, h, by rw [ht]; exact hP, va_K.moved hW.alike hK, hD⟩, hS.F ht⟩) hS.2.2 d_mo_labels_9
abbrev rm_mo_labelOf : Room := { frames := 0, cells := 0, slots := 0, locals := 0 }
set_option maxHeartbeats 4000000 in
set_option maxRecDepth 100000 in
theorem mc_mo_labelOf (l : Launch) (dC : Nat → ClassId) (dI : Nat → Nat → Nat) (a : Nat → Nat) (cI cZ : ClassId) (sz : Nat) (x1 : Int32) (x2 : Int32) (g : St) (post : Int32 → St → Prop) (h : wp_mo_labelOf x1 x2 g post) : Met l yy_mo_labelOf ww_mo_labelOf rm_mo_labelOf (zz_Pre (dC, dI) (wM a cI cZ) [(cI, .int), (cZ, .boolean)] [.ref (a 0), .int x1, .int x2] g sz) (va_Qi post (zz_W (dC, dI) (wM a cI cZ) [(cI, .int), (cZ, .boolean)] (va_A (wM a cI cZ g) sz)) (va_A (wM a cI cZ g) sz)) 0 0 (va_A (wM a cI cZ g) sz) := by
  refine Met.ofW (cc := cc_mo_labelOf) (maxL := 3) (ret := (some .int)) (by decide) rfl ?_
  intro p e s m args below meth c s₁ B hml hv
  obtain ⟨hav, hsz, hP, hK, hD0, hN⟩ := hv
  have hx := B.exec
  have hb := B.bytes
  have hr := B.returns
  have hts := atoms_spec (ws := ww_mo_labelOf) B.pre
  have hown : s.vm.findClass "SpotContoursModel" = some m.cls := findClass_of_methodNamed B.named
  have hlocks := B.notSynchronized
  subst hsz
  have hD := hD0.self (sz := s.heap.size)
  generalize hAe : va_A (wM a cI cZ g) s.heap.size = A at hD ⊢
  have hA : ∀ q : Nat, s.heap.size ≤ q → A q := fun q h => by rw [← hAe]; exact Or.inr h
  have hS : va_S A s.heap s.heap [] := va_S.rf
  have he9 := lg_entry_eq m [.ref (a 0), .int x1, .int x2] 3
  rw [← hav] at he9
  rw [he9]
  have hl := lv_entry [.ref (a 0), .int x1, .int x2] (n := 3) (Nat.le_of_ble_eq_true rfl)
  generalize (lg_sl [.ref (a 0), .int x1, .int x2] ++ List.replicate (3 - (lg_sl [.ref (a 0), .int x1, .int x2]).length) Slot.unset).toArray = ls at hl ⊢
  have hl : lv_has ls 3 [(0, .ref (a 0)), (1, .int x1), (2, .int x2)] := hl
  have hin__mo : ∀ w ∈ u_ws R_mo T_mo 21, w ∈ ww_mo_labelOf := fun w h => zz_in (hin0_mo w h)
  have fl_47 := hts (.fieldLink "SpotContoursModel" 47 "SpotContoursModel" "labelLevel" "[I") (zz_in wm_397)
  have fl_50 := hts (.fieldLink "SpotContoursModel" 50 "SpotContoursModel" "labelX" "[I") (zz_in wm_395)
  have fl_53 := hts (.fieldLink "SpotContoursModel" 53 "SpotContoursModel" "labelY" "[I") (zz_in wm_396)
  have fl_56 := hts (.fieldLink "SpotContoursModel" 56 "SpotContoursModel" "thrown" "I") (zz_in wm_377)
  have fl_63 := hts (.fieldLink "SpotContoursModel" 63 "SpotContoursModel" "labels" "I") (zz_in wm_384)
  have J31 : ∀ (v1 : Int32) (v2 : Int32) (s1 : Int32) (g : St), jn_mo_labelOf_J31 v1 v2 s1 g post → ∀ (H : Heap) (locs : List Loc) (ls : Array Slot), va_P (dC, dI) zzCl (wM a cI cZ g) H → va_D A (wM a cI cZ g) → va_S A s.heap H locs → lv_has ls 3 [(0, .ref (a 0)), (1, .int v1), (2, .int v2)] → W p l e (headSpec ww_mo_labelOf rm_mo_labelOf).room s m args below meth c H locs 0 0 (zz_Qi below (dC, dI) (wM a cI cZ) [(cI, .int), (cZ, .boolean)] A post args s) (F0 m 31 ls [.int s1, .ref (a 0)]) := by
    intro v1 v2 s1 g h H locs ls hP hD hS hl
    unfold jn_mo_labelOf_J31 at h
    refine va_put (D := (dC, dI)) (ci := 5) (v := .int s1) (ty := .int) (C := R_mo) (T := T_mo) (N := 21) hx hb hts hin__mo ty_mo tok_mo nmd_mo hown hK hP hD hS 0 (wM_0 a cI cZ g) rfl 0 (by decide) fl_56 (fun _ h9 => h9) rfl (by decide +kernel) rfl rfl (Nat.le_of_ble_eq_true rfl) d_mo_labelOf_31 (fun H locs hP hD hS => ?_)
    obtain ⟨g1, e_g1⟩ : ∃ z : St, z = gp g 0 0 s1 := ⟨_, rfl⟩
    have h := h g1 e_g1
    have hP : va_P (dC, dI) zzCl (wM a cI cZ g1) H := by rw [e_g1]; exact hP
    have hD : va_D A (wM a cI cZ g1) := by rw [e_g1]; exact hD
    refine lv_aload_n hx hb d_mo_labelOf_34 rfl (lv_at hl 0 rfl) ?_
    refine va_get (D := (dC, dI)) (ci := 5) (v := .int (g1 0 0)) (C := R_mo) (T := T_mo) (N := 21) hx hb hts hin__mo hown hK hP 0 (wM_0 a cI cZ g1) rfl 0 (by decide) fl_56 (fun _ h9 => h9) rfl d_mo_labelOf_35 ?_
    refine lv_if_eq (tgt := 45) hx hb d_mo_labelOf_38 (by decide) (fun hc => ?_) (fun hc => ?_)
    · have h := h.1 hc
      refine lv_iload_n hx hb d_mo_labelOf_45 rfl (lv_at hl 2 rfl) ?_
      refine lv_if_ne (tgt := 58) hx hb d_mo_labelOf_46 (by decide) (fun hc => ?_) (fun hc => ?_)
      · have h := h.1 hc
        refine lv_iload_n hx hb d_mo_labelOf_58 rfl (lv_at hl 2 rfl) ?_
        refine lv_iconst (v := 1) hx hb d_mo_labelOf_59 (by decide) ?_
        refine lv_icmp_ne (tgt := 72) hx hb d_mo_labelOf_60 (by decide) (fun hc => ?_) (fun hc => ?_)
        · have h := h.1 hc
          refine lv_aload_n hx hb d_mo_labelOf_72 rfl (lv_at hl 0 rfl) ?_
          refine va_get (D := (dC, dI)) (ci := 5) (v := .ref (a 15)) (C := R_mo) (T := T_mo) (N := 21) hx hb hts hin__mo hown hK hP 0 (wM_0 a cI cZ g1) rfl 20 (by decide) fl_53 (fun _ h9 => h9) rfl d_mo_labelOf_73 ?_
          refine lv_iload_n hx hb d_mo_labelOf_76 rfl (lv_at hl 1 rfl) ?_
          refine va_iald hx hb hK hP 15 0 (wM_15 a cI cZ g1) rfl h.1 d_mo_labelOf_77 ?_
          have h := h.2
          exact W.iret (v := (g1 15 (ix v1))) hx hb hr (fun t ht hW => ⟨⟨(g1 15 (ix v1)), g1, rfl, h, by rw [ht]; exact hP, va_K.moved hW.alike hK, hD⟩, hS.F ht⟩) hS.2.2 d_mo_labelOf_78
        · have h := h.2 hc
          refine lv_aload_n hx hb d_mo_labelOf_63 rfl (lv_at hl 0 rfl) ?_
          refine va_get (D := (dC, dI)) (ci := 5) (v := .ref (a 14)) (C := R_mo) (T := T_mo) (N := 21) hx hb hts hin__mo hown hK hP 0 (wM_0 a cI cZ g1) rfl 19 (by decide) fl_50 (fun _ h9 => h9) rfl d_mo_labelOf_64 ?_
          refine lv_iload_n hx hb d_mo_labelOf_67 rfl (lv_at hl 1 rfl) ?_
          refine va_iald hx hb hK hP 14 0 (wM_14 a cI cZ g1) rfl h.1 d_mo_labelOf_68 ?_
          have h := h.2
          refine lv_goto (tgt := 78) hx hb d_mo_labelOf_69 (by decide) ?_
          exact W.iret (v := (g1 14 (ix v1))) hx hb hr (fun t ht hW => ⟨⟨(g1 14 (ix v1)), g1, rfl, h, by rw [ht]; exact hP, va_K.moved hW.alike hK, hD⟩, hS.F ht⟩) hS.2.2 d_mo_labelOf_78
      · have h := h.2 hc
        refine lv_aload_n hx hb d_mo_labelOf_49 rfl (lv_at hl 0 rfl) ?_
        refine va_get (D := (dC, dI)) (ci := 5) (v := .ref (a 13)) (C := R_mo) (T := T_mo) (N := 21) hx hb hts hin__mo hown hK hP 0 (wM_0 a cI cZ g1) rfl 18 (by decide) fl_47 (fun _ h9 => h9) rfl d_mo_labelOf_50 ?_
        refine lv_iload_n hx hb d_mo_labelOf_53 rfl (lv_at hl 1 rfl) ?_
        refine va_iald hx hb hK hP 13 0 (wM_13 a cI cZ g1) rfl h.1 d_mo_labelOf_54 ?_
        have h := h.2
        refine lv_goto (tgt := 78) hx hb d_mo_labelOf_55 (by decide) ?_
        exact W.iret (v := (g1 13 (ix v1))) hx hb hr (fun t ht hW => ⟨⟨(g1 13 (ix v1)), g1, rfl, h, by rw [ht]; exact hP, va_K.moved hW.alike hK, hD⟩, hS.F ht⟩) hS.2.2 d_mo_labelOf_78
    · have h := h.2 hc
      refine lv_iconst (v := 0) hx hb d_mo_labelOf_41 (by decide) ?_
      refine lv_goto (tgt := 78) hx hb d_mo_labelOf_42 (by decide) ?_
      exact W.iret (v := 0) hx hb hr (fun t ht hW => ⟨⟨0, g1, rfl, h, by rw [ht]; exact hP, va_K.moved hW.alike hK, hD⟩, hS.F ht⟩) hS.2.2 d_mo_labelOf_78
  have J13 : ∀ (v1 : Int32) (v2 : Int32) (g : St), jn_mo_labelOf_J13 v1 v2 g post → ∀ (H : Heap) (locs : List Loc) (ls : Array Slot), va_P (dC, dI) zzCl (wM a cI cZ g) H → va_D A (wM a cI cZ g) → va_S A s.heap H locs → lv_has ls 3 [(0, .ref (a 0)), (1, .int v1), (2, .int v2)] → W p l e (headSpec ww_mo_labelOf rm_mo_labelOf).room s m args below meth c H locs 0 0 (zz_Qi below (dC, dI) (wM a cI cZ) [(cI, .int), (cZ, .boolean)] A post args s) (F0 m 13 ls [.ref (a 0)]) := by
    intro v1 v2 g h H locs ls hP hD hS hl
    unfold jn_mo_labelOf_J13 at h
    refine lv_iconst (v := 1) hx hb d_mo_labelOf_13 (by decide) ?_
    refine lv_goto (tgt := 31) hx hb d_mo_labelOf_14 (by decide) ?_
    exact J31 _ _ _ _ h _ _ _ hP hD hS (lv_sub hl [0, 1, 2] rfl)
  have J26 : ∀ (v1 : Int32) (v2 : Int32) (g : St), jn_mo_labelOf_J26 v1 v2 g post → ∀ (H : Heap) (locs : List Loc) (ls : Array Slot), va_P (dC, dI) zzCl (wM a cI cZ g) H → va_D A (wM a cI cZ g) → va_S A s.heap H locs → lv_has ls 3 [(0, .ref (a 0)), (1, .int v1), (2, .int v2)] → W p l e (headSpec ww_mo_labelOf rm_mo_labelOf).room s m args below meth c H locs 0 0 (zz_Qi below (dC, dI) (wM a cI cZ) [(cI, .int), (cZ, .boolean)] A post args s) (F0 m 26 ls [.ref (a 0)]) := by
    intro v1 v2 g h H locs ls hP hD hS hl
    unfold jn_mo_labelOf_J26 at h
    refine lv_iconst (v := 2) hx hb d_mo_labelOf_26 (by decide) ?_
    refine lv_goto (tgt := 31) hx hb d_mo_labelOf_27 (by decide) ?_
    exact J31 _ _ _ _ h _ _ _ hP hD hS (lv_sub hl [0, 1, 2] rfl)
  unfold wp_mo_labelOf at h
  refine lv_aload_n hx hb d_mo_labelOf_0 rfl (lv_at hl 0 rfl) ?_
  refine lv_iload_n hx hb d_mo_labelOf_1 rfl (lv_at hl 1 rfl) ?_
  refine lv_if_lt (tgt := 13) hx hb d_mo_labelOf_2 (by decide) (fun hc => ?_) (fun hc => ?_)
  · have h := h.1 hc
    exact J13 _ _ _ h _ _ _ hP hD hS (lv_sub hl [0, 1, 2] rfl)
  · have h := h.2 hc
    refine lv_iload_n hx hb d_mo_labelOf_5 rfl (lv_at hl 1 rfl) ?_
    refine lv_aload_n hx hb d_mo_labelOf_6 rfl (lv_at hl 0 rfl) ?_
    refine va_get (D := (dC, dI)) (ci := 5) (v := .int (g 0 17)) (C := R_mo) (T := T_mo) (N := 21) hx hb hts hin__mo hown hK hP 0 (wM_0 a cI cZ g) rfl 17 (by decide) fl_63 (fun _ h9 => h9) rfl d_mo_labelOf_7 ?_
    refine lv_icmp_lt (tgt := 17) hx hb d_mo_labelOf_10 (by decide) (fun hc => ?_) (fun hc => ?_)
    · have h := h.1 hc
      refine lv_iload_n hx hb d_mo_labelOf_17 rfl (lv_at hl 2 rfl) ?_
      refine lv_if_lt (tgt := 26) hx hb d_mo_labelOf_18 (by decide) (fun hc => ?_) (fun hc => ?_)
      · have h := h.1 hc
        exact J26 _ _ _ h _ _ _ hP hD hS (lv_sub hl [0, 1, 2] rfl)
      · have h := h.2 hc
        refine lv_iload_n hx hb d_mo_labelOf_21 rfl (lv_at hl 2 rfl) ?_
        refine lv_iconst (v := 2) hx hb d_mo_labelOf_22 (by decide) ?_
        refine lv_icmp_le (tgt := 30) hx hb d_mo_labelOf_23 (by decide) (fun hc => ?_) (fun hc => ?_)
        · have h := h.1 hc
          refine lv_iconst (v := 0) hx hb d_mo_labelOf_30 (by decide) ?_
          exact J31 _ _ _ _ h _ _ _ hP hD hS (lv_sub hl [0, 1, 2] rfl)
        · have h := h.2 hc
          exact J26 _ _ _ h _ _ _ hP hD hS (lv_sub hl [0, 1, 2] rfl)
    · have h := h.2 hc
      exact J13 _ _ _ h _ _ _ hP hD hS (lv_sub hl [0, 1, 2] rfl)
