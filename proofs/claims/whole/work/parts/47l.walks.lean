/-! Contracts by their walks, printed. -/
abbrev rm_mo_wipe : Room := { frames := 0, cells := 0, slots := 0, locals := 0 }
set_option maxHeartbeats 4000000 in
set_option maxRecDepth 100000 in
theorem mc_mo_wipe (l : Launch) (dC : Nat → ClassId) (dI : Nat → Nat → Nat) (a : Nat → Nat) (cI cZ : ClassId) (sz : Nat) (g : St) (post : Int32 → St → Prop) (h : wp_mo_wipe  g post) : Met l yy_mo_wipe ww_mo_wipe rm_mo_wipe (zz_Pre (dC, dI) (wM a cI cZ) [(cI, .int), (cZ, .boolean)] [.ref (a 0)] g sz) (va_Qi post (zz_W (dC, dI) (wM a cI cZ) [(cI, .int), (cZ, .boolean)] (va_A (wM a cI cZ g) sz)) (va_A (wM a cI cZ g) sz)) 0 0 (va_A (wM a cI cZ g) sz) := by
  refine Met.ofW (cc := cc_mo_wipe) (maxL := 2) (ret := (some .int)) (by decide) rfl ?_
  intro p e s m args below meth c s₁ B hml hv
  obtain ⟨hav, hsz, hP, hK, hD0, hN⟩ := hv
  have hx := B.exec
  have hb := B.bytes
  have hr := B.returns
  have hts := atoms_spec (ws := ww_mo_wipe) B.pre
  have hown : s.vm.findClass "SpotContoursModel" = some m.cls := findClass_of_methodNamed B.named
  have hlocks := B.notSynchronized
  subst hsz
  have hD := hD0.self (sz := s.heap.size)
  generalize hAe : va_A (wM a cI cZ g) s.heap.size = A at hD ⊢
  have hA : ∀ q : Nat, s.heap.size ≤ q → A q := fun q h => by rw [← hAe]; exact Or.inr h
  have hS : va_S A s.heap s.heap [] := va_S.rf
  have he9 := lg_entry_eq m [.ref (a 0)] 2
  rw [← hav] at he9
  rw [he9]
  have hl := lv_entry [.ref (a 0)] (n := 2) (Nat.le_of_ble_eq_true rfl)
  generalize (lg_sl [.ref (a 0)] ++ List.replicate (2 - (lg_sl [.ref (a 0)]).length) Slot.unset).toArray = ls at hl ⊢
  have hl : lv_has ls 2 [(0, .ref (a 0))] := hl
  have hin__mo : ∀ w ∈ u_ws R_mo T_mo 21, w ∈ ww_mo_wipe := fun w h => zz_in (hin0_mo w h)
  have fl_56 := hts (.fieldLink "SpotContoursModel" 56 "SpotContoursModel" "thrown" "I") (zz_in wm_377)
  have fl_63 := hts (.fieldLink "SpotContoursModel" 63 "SpotContoursModel" "labels" "I") (zz_in wm_384)
  unfold wp_mo_wipe at h
  refine lv_aload_n hx hb d_mo_wipe_0 rfl (lv_at hl 0 rfl) ?_
  refine lv_iconst (v := 0) hx hb d_mo_wipe_1 (by decide) ?_
  refine va_put (D := (dC, dI)) (ci := 5) (v := .int 0) (ty := .int) (C := R_mo) (T := T_mo) (N := 21) hx hb hts hin__mo ty_mo tok_mo nmd_mo hown hK hP hD hS 0 (wM_0 a cI cZ g) rfl 0 (by decide) fl_56 (fun _ h9 => h9) rfl (by decide +kernel) rfl rfl (Nat.le_of_ble_eq_true rfl) d_mo_wipe_2 (fun H locs hP hD hS => ?_)
  obtain ⟨g1, e_g1⟩ : ∃ z : St, z = gp g 0 0 0 := ⟨_, rfl⟩
  have h := h g1 e_g1
  have hP : va_P (dC, dI) zzCl (wM a cI cZ g1) H := by rw [e_g1]; exact hP
  have hD : va_D A (wM a cI cZ g1) := by rw [e_g1]; exact hD
  refine lv_aload_n hx hb d_mo_wipe_5 rfl (lv_at hl 0 rfl) ?_
  refine va_get (D := (dC, dI)) (ci := 5) (v := .int (g1 0 17)) (C := R_mo) (T := T_mo) (N := 21) hx hb hts hin__mo hown hK hP 0 (wM_0 a cI cZ g1) rfl 17 (by decide) fl_63 (fun _ h9 => h9) rfl d_mo_wipe_6 ?_
  refine lv_istore_n (lv' := [(1, .int (g1 0 17)), (0, .ref (a 0))]) hx hb d_mo_wipe_9 rfl hl (by decide) rfl (fun ls hl => ?_)
  refine lv_aload_n hx hb d_mo_wipe_10 rfl (lv_at hl 1 rfl) ?_
  refine lv_iconst (v := 0) hx hb d_mo_wipe_11 (by decide) ?_
  refine va_put (D := (dC, dI)) (ci := 5) (v := .int 0) (ty := .int) (C := R_mo) (T := T_mo) (N := 21) hx hb hts hin__mo ty_mo tok_mo nmd_mo hown hK hP hD hS 0 (wM_0 a cI cZ g1) rfl 17 (by decide) fl_63 (fun _ h9 => h9) rfl (by decide +kernel) rfl rfl (Nat.le_of_ble_eq_true rfl) d_mo_wipe_12 (fun H locs hP hD hS => ?_)
  obtain ⟨g2, e_g2⟩ : ∃ z : St, z = gp g1 0 17 0 := ⟨_, rfl⟩
  have h := h g2 e_g2
  have hP : va_P (dC, dI) zzCl (wM a cI cZ g2) H := by rw [e_g2]; exact hP
  have hD : va_D A (wM a cI cZ g2) := by rw [e_g2]; exact hD
  refine lv_iload_n hx hb d_mo_wipe_15 rfl (lv_at hl 0 rfl) ?_
  exact W.iret (v := (g1 0 17)) hx hb hr (fun t ht hW => ⟨⟨(g1 0 17), g2, rfl, h, by rw [ht]; exact hP, va_K.moved hW.alike hK, hD⟩, hS.F ht⟩) hS.2.2 d_mo_wipe_16
