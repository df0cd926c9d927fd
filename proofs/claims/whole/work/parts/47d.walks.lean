/-! Contracts by their walks, printed. -/
abbrev rm_floorDiv : Room := { frames := 0, cells := 0, slots := 0, locals := 0 }
set_option maxHeartbeats 4000000 in
set_option maxRecDepth 100000 in
theorem mc_floorDiv (l : Launch) (dC : Nat → ClassId) (dI : Nat → Nat → Nat) (a : Nat → Nat) (cI cZ : ClassId) (sz : Nat) (x0 : Int32) (x1 : Int32) (g : St) (post : Int32 → St → Prop) (h : wp_floorDiv x0 x1 g post) : Met l yy_floorDiv ww_floorDiv rm_floorDiv (zz_Pre (dC, dI) (wC a cI cZ) [(cI, .int), (cZ, .boolean)] [.int x0, .int x1] g sz) (va_Qi post (zz_W (dC, dI) (wC a cI cZ) [(cI, .int), (cZ, .boolean)] (va_A (wC a cI cZ g) sz)) (va_A (wC a cI cZ g) sz)) 0 0 (va_A (wC a cI cZ g) sz) := by
  refine va_MetF (cc := cc_floorDiv) (maxL := 3) (ret := (some .int)) (by decide +kernel) rfl ?_
  intro p e s m args below meth c s₁ B hml hv
  obtain ⟨hav, hsz, hP, hK, hD0, hN⟩ := hv
  have hx := B.exec
  have hb := B.bytes
  have hr := B.returns
  have hts := atoms_spec (ws := ww_floorDiv) B.pre
  have hown : s.vm.findClass "java/lang/Math" = some m.cls := findClass_of_methodNamed B.named
  have hlocks := B.notSynchronized
  subst hsz
  have hD := hD0.self (sz := s.heap.size)
  generalize hAe : va_A (wC a cI cZ g) s.heap.size = A at hD ⊢
  have hA : ∀ q : Nat, s.heap.size ≤ q → A q := fun q h => by rw [← hAe]; exact Or.inr h
  have hS : va_S A s.heap s.heap [] := va_S.rf
  have he9 := lg_entry_eq m [.int x0, .int x1] 3
  rw [← hav] at he9
  rw [he9]
  have hl := lv_entry [.int x0, .int x1] (n := 3) (Nat.le_of_ble_eq_true rfl)
  generalize (lg_sl [.int x0, .int x1] ++ List.replicate (3 - (lg_sl [.int x0, .int x1]).length) Slot.unset).toArray = ls at hl ⊢
  have hl : lv_has ls 3 [(0, .int x0), (1, .int x1)] := hl
  unfold wp_floorDiv at h
  refine lv_iload_n hx hb d_floorDiv_0 rfl (lv_at hl 0 rfl) ?_
  refine lv_iload_n hx hb d_floorDiv_1 rfl (lv_at hl 1 rfl) ?_
  refine lv_idiv hx hb d_floorDiv_2 h.1 ?_
  have h := h.2
  refine lv_istore_n (lv' := [(2, .int (x0 / x1)), (0, .int x0), (1, .int x1)]) hx hb d_floorDiv_3 rfl hl (by decide) rfl (fun ls hl => ?_)
  refine lv_iload_n hx hb d_floorDiv_4 rfl (lv_at hl 1 rfl) ?_
  refine lv_iload_n hx hb d_floorDiv_5 rfl (lv_at hl 2 rfl) ?_
  refine lv_ixor hx hb d_floorDiv_6 ?_
  refine lv_if_ge (tgt := 21) hx hb d_floorDiv_7 (by decide) (fun hc => ?_) (fun hc => ?_)
  · have h := h.1 hc
    refine lv_iload_n hx hb d_floorDiv_21 rfl (lv_at hl 0 rfl) ?_
    exact W.iret (v := (x0 / x1)) hx hb hr (fun t ht hW => ⟨⟨(x0 / x1), g, rfl, h, by rw [ht]; exact hP, va_K.moved hW.alike hK, hD⟩, hS.F ht⟩) hS.2.2 d_floorDiv_22
  · have h := h.2 hc
    refine lv_iload_n hx hb d_floorDiv_10 rfl (lv_at hl 0 rfl) ?_
    refine lv_iload_n hx hb d_floorDiv_11 rfl (lv_at hl 2 rfl) ?_
    refine lv_imul hx hb d_floorDiv_12 ?_
    refine lv_iload_n hx hb d_floorDiv_13 rfl (lv_at hl 1 rfl) ?_
    refine lv_icmp_eq (tgt := 21) hx hb d_floorDiv_14 (by decide) (fun hc => ?_) (fun hc => ?_)
    · have h := h.1 hc
      refine lv_iload_n hx hb d_floorDiv_21 rfl (lv_at hl 0 rfl) ?_
      exact W.iret (v := (x0 / x1)) hx hb hr (fun t ht hW => ⟨⟨(x0 / x1), g, rfl, h, by rw [ht]; exact hP, va_K.moved hW.alike hK, hD⟩, hS.F ht⟩) hS.2.2 d_floorDiv_22
    · have h := h.2 hc
      refine lv_iload_n hx hb d_floorDiv_17 rfl (lv_at hl 0 rfl) ?_
      refine lv_iconst (v := 1) hx hb d_floorDiv_18 (by decide) ?_
      refine lv_isub hx hb d_floorDiv_19 ?_
      exact W.iret (v := ((x0 / x1) - 1)) hx hb hr (fun t ht hW => ⟨⟨((x0 / x1) - 1), g, rfl, h, by rw [ht]; exact hP, va_K.moved hW.alike hK, hD⟩, hS.F ht⟩) hS.2.2 d_floorDiv_20
abbrev rm_me_heightIn : Room := { frames := 2, cells := 0, slots := 0, locals := 47 }
set_option maxHeartbeats 4000000 in
set_option maxRecDepth 100000 in
theorem mc_me_heightIn (l : Launch) (dC : Nat → ClassId) (dI : Nat → Nat → Nat) (a : Nat → Nat) (cI cZ : ClassId) (sz : Nat) (x2 : Int32) (x3 : Int32) (x4 : Int32) (g : St) (post : Int32 → St → Prop) (h : wp_me_heightIn x2 x3 x4 g post) : Met l yy_me_heightIn ww_me_heightIn rm_me_heightIn (zz_Pre (dC, dI) (wC a cI cZ) [(cI, .int), (cZ, .boolean)] [.ref (a 2), .ref (a 1), .int x2, .int x3, .int x4] g sz) (va_Qi post (zz_W (dC, dI) (wC a cI cZ) [(cI, .int), (cZ, .boolean)] (va_A (wC a cI cZ g) sz)) (va_A (wC a cI cZ g) sz)) 0 0 (va_A (wC a cI cZ g) sz) := by
  refine Met.ofW (cc := cc_me_heightIn) (maxL := 13) (ret := (some .int)) (by decide) rfl ?_
  intro p e s m args below meth c s₁ B hml hv
  obtain ⟨hav, hsz, hP, hK, hD0, hN⟩ := hv
  have hx := B.exec
  have hb := B.bytes
  have hr := B.returns
  have hts := atoms_spec (ws := ww_me_heightIn) B.pre
  have hown : s.vm.findClass "SpotContours$Mesh" = some m.cls := findClass_of_methodNamed B.named
  have hlocks := B.notSynchronized
  subst hsz
  have hD := hD0.self (sz := s.heap.size)
  generalize hAe : va_A (wC a cI cZ g) s.heap.size = A at hD ⊢
  have hA : ∀ q : Nat, s.heap.size ≤ q → A q := fun q h => by rw [← hAe]; exact Or.inr h
  have hS : va_S A s.heap s.heap [] := va_S.rf
  have he9 := lg_entry_eq m [.ref (a 2), .ref (a 1), .int x2, .int x3, .int x4] 13
  rw [← hav] at he9
  rw [he9]
  have hl := lv_entry [.ref (a 2), .ref (a 1), .int x2, .int x3, .int x4] (n := 13) (Nat.le_of_ble_eq_true rfl)
  generalize (lg_sl [.ref (a 2), .ref (a 1), .int x2, .int x3, .int x4] ++ List.replicate (13 - (lg_sl [.ref (a 2), .ref (a 1), .int x2, .int x3, .int x4]).length) Slot.unset).toArray = ls at hl ⊢
  have hl : lv_has ls 13 [(0, .ref (a 2)), (1, .ref (a 1)), (2, .int x2), (3, .int x3), (4, .int x4)] := hl
  have J42 : ∀ (v3 : Int32) (v4 : Int32) (v5 : Int32) (v6 : Int32) (v7 : Int32) (s0 : Int32) (g : St), jn_me_heightIn_J42 v3 v4 v5 v6 v7 s0 g post → ∀ (H : Heap) (locs : List Loc) (ls : Array Slot), va_P (dC, dI) zzCl (wC a cI cZ g) H → va_D A (wC a cI cZ g) → va_S A s.heap H locs → lv_has ls 13 [(1, .ref (a 1)), (3, .int v3), (4, .int v4), (5, .int v5), (6, .int v6), (7, .int v7)] → W p l e (headSpec ww_me_heightIn rm_me_heightIn).room s m args below meth c H locs 0 0 (zz_Qi below (dC, dI) (wC a cI cZ) [(cI, .int), (cZ, .boolean)] A post args s) (F0 m 42 ls [.int s0]) := by
    intro v3 v4 v5 v6 v7 s0 g h H locs ls hP hD hS hl
    unfold jn_me_heightIn_J42 at h
    refine lv_istore (lv' := [(8, .int s0), (1, .ref (a 1)), (3, .int v3), (4, .int v4), (5, .int v5), (6, .int v6), (7, .int v7)]) hx hb d_me_heightIn_42 hl (by decide) rfl (fun ls hl => ?_)
    refine lv_iload hx hb d_me_heightIn_44 (lv_at hl 0 rfl) ?_
    refine lv_aload_n hx hb d_me_heightIn_46 rfl (lv_at hl 1 rfl) ?_
    refine lv_iload hx hb d_me_heightIn_47 (lv_at hl 5 rfl) ?_
    refine lv_iload hx hb d_me_heightIn_49 (lv_at hl 6 rfl) ?_
    refine lv_iload_n hx hb d_me_heightIn_51 rfl (lv_at hl 2 rfl) ?_
    refine lv_iload hx hb d_me_heightIn_52 (lv_at hl 3 rfl) ?_
    refine zz_ci (va_runV (As := [.int v6, .int v7, .int v3, .int v4]) (rest := [.int s0]) ⟨hx, hb, hml, hown, hts⟩ (mc_sp_turnTo l dC dI a cI cZ _ v6 v7 v3 v4 g _ h) (zz_cwV 4 hts (zz_good wm_64) rfl rfl rfl wm_110 wm_66 wm_67 wm_1 (by decide +kernel) ⟨Nat.le_of_ble_eq_true rfl, Nat.le_of_ble_eq_true rfl⟩) ⟨zz_blind, (va_recv hK hP rfl (wC_1 a cI cZ g)), zz_pre hP hK hD hN⟩ rfl rfl hl.1 rfl (lv_room (Nat.le_of_ble_eq_true rfl)) d_me_heightIn_54 ⟨Nat.le_of_ble_eq_true rfl, Nat.le_of_ble_eq_true rfl⟩) hD hS hA (fun r10 g9 H locs h hP hD hS => ?_)
    refine lv_imul hx hb d_me_heightIn_57 ?_
    refine lv_istore (lv' := [(9, .int (s0 * r10)), (8, .int s0), (1, .ref (a 1)), (3, .int v3), (4, .int v4), (5, .int v5), (6, .int v6), (7, .int v7)]) hx hb d_me_heightIn_58 hl (by decide) rfl (fun ls hl => ?_)
    refine lv_iload hx hb d_me_heightIn_60 (lv_at hl 1 rfl) ?_
    refine lv_aload_n hx hb d_me_heightIn_62 rfl (lv_at hl 2 rfl) ?_
    refine lv_iload hx hb d_me_heightIn_63 (lv_at hl 7 rfl) ?_
    refine lv_iload hx hb d_me_heightIn_65 (lv_at hl 5 rfl) ?_
    refine lv_iload_n hx hb d_me_heightIn_67 rfl (lv_at hl 3 rfl) ?_
    refine lv_iload hx hb d_me_heightIn_68 (lv_at hl 4 rfl) ?_
    refine zz_ci (va_runV (As := [.int v7, .int v5, .int v3, .int v4]) (rest := [.int s0]) ⟨hx, hb, hml, hown, hts⟩ (mc_sp_turnTo l dC dI a cI cZ _ v7 v5 v3 v4 g9 _ h) (zz_cwV 4 hts (zz_good wm_64) rfl rfl rfl wm_110 wm_66 wm_67 wm_1 (by decide +kernel) ⟨Nat.le_of_ble_eq_true rfl, Nat.le_of_ble_eq_true rfl⟩) ⟨zz_blind, (va_recv hK hP rfl (wC_1 a cI cZ g9)), zz_pre hP hK hD hN⟩ rfl rfl hl.1 rfl (lv_room (Nat.le_of_ble_eq_true rfl)) d_me_heightIn_70 ⟨Nat.le_of_ble_eq_true rfl, Nat.le_of_ble_eq_true rfl⟩) hD hS hA (fun r12 g11 H locs h hP hD hS => ?_)
    refine lv_imul hx hb d_me_heightIn_73 ?_
    refine lv_istore (lv' := [(10, .int (s0 * r12)), (9, .int (s0 * r10)), (8, .int s0), (1, .ref (a 1)), (3, .int v3), (4, .int v4), (5, .int v5), (6, .int v6), (7, .int v7)]) hx hb d_me_heightIn_74 hl (by decide) rfl (fun ls hl => ?_)
    refine lv_iload hx hb d_me_heightIn_76 (lv_at hl 2 rfl) ?_
    refine lv_aload_n hx hb d_me_heightIn_78 rfl (lv_at hl 3 rfl) ?_
    refine lv_iload hx hb d_me_heightIn_79 (lv_at hl 6 rfl) ?_
    refine lv_iload hx hb d_me_heightIn_81 (lv_at hl 7 rfl) ?_
    refine lv_iload_n hx hb d_me_heightIn_83 rfl (lv_at hl 4 rfl) ?_
    refine lv_iload hx hb d_me_heightIn_84 (lv_at hl 5 rfl) ?_
    refine zz_ci (va_runV (As := [.int v5, .int v6, .int v3, .int v4]) (rest := [.int s0]) ⟨hx, hb, hml, hown, hts⟩ (mc_sp_turnTo l dC dI a cI cZ _ v5 v6 v3 v4 g11 _ h) (zz_cwV 4 hts (zz_good wm_64) rfl rfl rfl wm_110 wm_66 wm_67 wm_1 (by decide +kernel) ⟨Nat.le_of_ble_eq_true rfl, Nat.le_of_ble_eq_true rfl⟩) ⟨zz_blind, (va_recv hK hP rfl (wC_1 a cI cZ g11)), zz_pre hP hK hD hN⟩ rfl rfl hl.1 rfl (lv_room (Nat.le_of_ble_eq_true rfl)) d_me_heightIn_86 ⟨Nat.le_of_ble_eq_true rfl, Nat.le_of_ble_eq_true rfl⟩) hD hS hA (fun r14 g13 H locs h hP hD hS => ?_)
    refine lv_imul hx hb d_me_heightIn_89 ?_
    refine lv_istore (lv' := [(11, .int (s0 * r14)), (10, .int (s0 * r12)), (9, .int (s0 * r10)), (8, .int s0), (1, .ref (a 1)), (3, .int v3), (4, .int v4), (5, .int v5), (6, .int v6), (7, .int v7)]) hx hb d_me_heightIn_90 hl (by decide) rfl (fun ls hl => ?_)
    refine lv_iload hx hb d_me_heightIn_92 (lv_at hl 2 rfl) ?_
    refine lv_iload hx hb d_me_heightIn_94 (lv_at hl 1 rfl) ?_
    refine lv_iadd hx hb d_me_heightIn_96 ?_
    refine lv_iload hx hb d_me_heightIn_97 (lv_at hl 0 rfl) ?_
    refine lv_iadd hx hb d_me_heightIn_99 ?_
    refine lv_istore (lv' := [(12, .int (((s0 * r10) + (s0 * r12)) + (s0 * r14))), (11, .int (s0 * r14)), (10, .int (s0 * r12)), (9, .int (s0 * r10)), (8, .int s0), (1, .ref (a 1)), (3, .int v3), (4, .int v4), (5, .int v5), (6, .int v6), (7, .int v7)]) hx hb d_me_heightIn_100 hl (by decide) rfl (fun ls hl => ?_)
    refine lv_iload hx hb d_me_heightIn_102 (lv_at hl 3 rfl) ?_
    refine lv_if_lt (tgt := 122) hx hb d_me_heightIn_104 (by decide) (fun hc => ?_) (fun hc => ?_)
    · have h := h.1 hc
      refine lv_iconst (v := (-1)) hx hb d_me_heightIn_122 (by decide) ?_
      exact W.iret (v := (-1)) hx hb hr (fun t ht hW => ⟨⟨(-1), g13, rfl, h, by rw [ht]; exact hP, va_K.moved hW.alike hK, hD⟩, hS.F ht⟩) hS.2.2 d_me_heightIn_123
    · have h := h.2 hc
      refine lv_iload hx hb d_me_heightIn_107 (lv_at hl 2 rfl) ?_
      refine lv_if_lt (tgt := 122) hx hb d_me_heightIn_109 (by decide) (fun hc => ?_) (fun hc => ?_)
      · have h := h.1 hc
        refine lv_iconst (v := (-1)) hx hb d_me_heightIn_122 (by decide) ?_
        exact W.iret (v := (-1)) hx hb hr (fun t ht hW => ⟨⟨(-1), g13, rfl, h, by rw [ht]; exact hP, va_K.moved hW.alike hK, hD⟩, hS.F ht⟩) hS.2.2 d_me_heightIn_123
      · have h := h.2 hc
        refine lv_iload hx hb d_me_heightIn_112 (lv_at hl 1 rfl) ?_
        refine lv_if_lt (tgt := 122) hx hb d_me_heightIn_114 (by decide) (fun hc => ?_) (fun hc => ?_)
        · have h := h.1 hc
          refine lv_iconst (v := (-1)) hx hb d_me_heightIn_122 (by decide) ?_
          exact W.iret (v := (-1)) hx hb hr (fun t ht hW => ⟨⟨(-1), g13, rfl, h, by rw [ht]; exact hP, va_K.moved hW.alike hK, hD⟩, hS.F ht⟩) hS.2.2 d_me_heightIn_123
        · have h := h.2 hc
          refine lv_iload hx hb d_me_heightIn_117 (lv_at hl 0 rfl) ?_
          refine lv_if_ne (tgt := 124) hx hb d_me_heightIn_119 (by decide) (fun hc => ?_) (fun hc => ?_)
          · have h := h.1 hc
            refine lv_iload hx hb d_me_heightIn_124 (lv_at hl 3 rfl) ?_
            refine lv_aload_n hx hb d_me_heightIn_126 rfl (lv_at hl 5 rfl) ?_
            refine lv_iload hx hb d_me_heightIn_127 (lv_at hl 8 rfl) ?_
            refine zz_ci (va_runV (As := [.int v5]) (rest := [.int (s0 * r10)]) ⟨hx, hb, hml, hown, hts⟩ (mc_sp_height l dC dI a cI cZ _ v5 g13 _ h) (zz_cwV 1 hts (zz_good wm_44) rfl rfl rfl wm_109 wm_46 wm_47 wm_1 (by decide +kernel) ⟨Nat.le_of_ble_eq_true rfl, Nat.le_of_ble_eq_true rfl⟩) ⟨zz_blind, (va_recv hK hP rfl (wC_1 a cI cZ g13)), zz_pre hP hK hD hN⟩ rfl rfl hl.1 rfl (lv_room (Nat.le_of_ble_eq_true rfl)) d_me_heightIn_129 ⟨Nat.le_of_ble_eq_true rfl, Nat.le_of_ble_eq_true rfl⟩) hD hS hA (fun r16 g15 H locs h hP hD hS => ?_)
            refine lv_imul hx hb d_me_heightIn_132 ?_
            refine lv_iload hx hb d_me_heightIn_133 (lv_at hl 2 rfl) ?_
            refine lv_aload_n hx hb d_me_heightIn_135 rfl (lv_at hl 5 rfl) ?_
            refine lv_iload hx hb d_me_heightIn_136 (lv_at hl 9 rfl) ?_
            refine zz_ci (va_runV (As := [.int v6]) (rest := [.int (s0 * r12), .int ((s0 * r10) * r16)]) ⟨hx, hb, hml, hown, hts⟩ (mc_sp_height l dC dI a cI cZ _ v6 g15 _ h) (zz_cwV 1 hts (zz_good wm_44) rfl rfl rfl wm_109 wm_46 wm_47 wm_1 (by decide +kernel) ⟨Nat.le_of_ble_eq_true rfl, Nat.le_of_ble_eq_true rfl⟩) ⟨zz_blind, (va_recv hK hP rfl (wC_1 a cI cZ g15)), zz_pre hP hK hD hN⟩ rfl rfl hl.1 rfl (lv_room (Nat.le_of_ble_eq_true rfl)) d_me_heightIn_138 ⟨Nat.le_of_ble_eq_true rfl, Nat.le_of_ble_eq_true rfl⟩) hD hS hA (fun r18 g17 H locs h hP hD hS => ?_)
            refine lv_imul hx hb d_me_heightIn_141 ?_
            refine lv_iadd hx hb d_me_heightIn_142 ?_
            refine lv_iload hx hb d_me_heightIn_143 (lv_at hl 1 rfl) ?_
            refine lv_aload_n hx hb d_me_heightIn_145 rfl (lv_at hl 5 rfl) ?_
            refine lv_iload hx hb d_me_heightIn_146 (lv_at hl 10 rfl) ?_
            refine zz_ci (va_runV (As := [.int v7]) (rest := [.int (s0 * r14), .int (((s0 * r10) * r16) + ((s0 * r12) * r18))]) ⟨hx, hb, hml, hown, hts⟩ (mc_sp_height l dC dI a cI cZ _ v7 g17 _ h) (zz_cwV 1 hts (zz_good wm_44) rfl rfl rfl wm_109 wm_46 wm_47 wm_1 (by decide +kernel) ⟨Nat.le_of_ble_eq_true rfl, Nat.le_of_ble_eq_true rfl⟩) ⟨zz_blind, (va_recv hK hP rfl (wC_1 a cI cZ g17)), zz_pre hP hK hD hN⟩ rfl rfl hl.1 rfl (lv_room (Nat.le_of_ble_eq_true rfl)) d_me_heightIn_148 ⟨Nat.le_of_ble_eq_true rfl, Nat.le_of_ble_eq_true rfl⟩) hD hS hA (fun r20 g19 H locs h hP hD hS => ?_)
            refine lv_imul hx hb d_me_heightIn_151 ?_
            refine lv_iadd hx hb d_me_heightIn_152 ?_
            refine lv_iload hx hb d_me_heightIn_153 (lv_at hl 0 rfl) ?_
            refine zz_ci (va_runS (As := [.int ((((s0 * r10) * r16) + ((s0 * r12) * r18)) + ((s0 * r14) * r20)), .int (((s0 * r10) + (s0 * r12)) + (s0 * r14))]) (rest := []) ⟨hx, hb, hml, hown, hts⟩ (mc_floorDiv l dC dI a cI cZ _ ((((s0 * r10) * r16) + ((s0 * r12) * r18)) + ((s0 * r14) * r20)) (((s0 * r10) + (s0 * r12)) + (s0 * r14)) g19 _ h) (zz_cwS 2 hts (zz_good wm_105) rfl rfl rfl wm_107 wm_108 wm_106 (by decide +kernel) ⟨Nat.le_of_ble_eq_true rfl, Nat.le_of_ble_eq_true rfl⟩) ⟨zz_blind, zz_pre hP hK hD hN⟩ rfl rfl hl.1 rfl (lv_room (Nat.le_of_ble_eq_true rfl)) d_me_heightIn_155 ⟨Nat.le_of_ble_eq_true rfl, Nat.le_of_ble_eq_true rfl⟩) hD hS hA (fun r22 g21 H locs h hP hD hS => ?_)
            exact W.iret (v := r22) hx hb hr (fun t ht hW => ⟨⟨r22, g21, rfl, h, by rw [ht]; exact hP, va_K.moved hW.alike hK, hD⟩, hS.F ht⟩) hS.2.2 d_me_heightIn_158
          · have h := h.2 hc
            refine lv_iconst (v := (-1)) hx hb d_me_heightIn_122 (by decide) ?_
            exact W.iret (v := (-1)) hx hb hr (fun t ht hW => ⟨⟨(-1), g13, rfl, h, by rw [ht]; exact hP, va_K.moved hW.alike hK, hD⟩, hS.F ht⟩) hS.2.2 d_me_heightIn_123
  unfold wp_me_heightIn at h
  refine lv_aload_n hx hb d_me_heightIn_0 rfl (lv_at hl 0 rfl) ?_
  refine lv_iload_n hx hb d_me_heightIn_1 rfl (lv_at hl 2 rfl) ?_
  refine lv_iconst (v := 0) hx hb d_me_heightIn_2 (by decide) ?_
  refine zz_ci (va_runV (As := [.int x2, .int 0]) (rest := []) ⟨hx, hb, hml, hown, hts⟩ (mc_me_cornerOf l dC dI a cI cZ _ x2 0 g _ h) (zz_cwV 2 hts (zz_good wm_111) rfl rfl rfl wm_112 wm_113 wm_114 wm_23 (by decide +kernel) ⟨Nat.le_of_ble_eq_true rfl, Nat.le_of_ble_eq_true rfl⟩) ⟨zz_blind, (va_recv hK hP rfl (wC_2 a cI cZ g)), zz_pre hP hK hD hN⟩ rfl rfl hl.1 rfl (lv_room (Nat.le_of_ble_eq_true rfl)) d_me_heightIn_3 ⟨Nat.le_of_ble_eq_true rfl, Nat.le_of_ble_eq_true rfl⟩) hD hS hA (fun r2 g1 H locs h hP hD hS => ?_)
  refine lv_istore (lv' := [(5, .int r2), (0, .ref (a 2)), (1, .ref (a 1)), (2, .int x2), (3, .int x3), (4, .int x4)]) hx hb d_me_heightIn_6 hl (by decide) rfl (fun ls hl => ?_)
  refine lv_aload_n hx hb d_me_heightIn_8 rfl (lv_at hl 1 rfl) ?_
  refine lv_iload_n hx hb d_me_heightIn_9 rfl (lv_at hl 3 rfl) ?_
  refine lv_iconst (v := 1) hx hb d_me_heightIn_10 (by decide) ?_
  refine zz_ci (va_runV (As := [.int x2, .int 1]) (rest := []) ⟨hx, hb, hml, hown, hts⟩ (mc_me_cornerOf l dC dI a cI cZ _ x2 1 g1 _ h) (zz_cwV 2 hts (zz_good wm_111) rfl rfl rfl wm_112 wm_113 wm_114 wm_23 (by decide +kernel) ⟨Nat.le_of_ble_eq_true rfl, Nat.le_of_ble_eq_true rfl⟩) ⟨zz_blind, (va_recv hK hP rfl (wC_2 a cI cZ g1)), zz_pre hP hK hD hN⟩ rfl rfl hl.1 rfl (lv_room (Nat.le_of_ble_eq_true rfl)) d_me_heightIn_11 ⟨Nat.le_of_ble_eq_true rfl, Nat.le_of_ble_eq_true rfl⟩) hD hS hA (fun r4 g3 H locs h hP hD hS => ?_)
  refine lv_istore (lv' := [(6, .int r4), (5, .int r2), (0, .ref (a 2)), (1, .ref (a 1)), (2, .int x2), (3, .int x3), (4, .int x4)]) hx hb d_me_heightIn_14 hl (by decide) rfl (fun ls hl => ?_)
  refine lv_aload_n hx hb d_me_heightIn_16 rfl (lv_at hl 2 rfl) ?_
  refine lv_iload_n hx hb d_me_heightIn_17 rfl (lv_at hl 4 rfl) ?_
  refine lv_iconst (v := 2) hx hb d_me_heightIn_18 (by decide) ?_
  refine zz_ci (va_runV (As := [.int x2, .int 2]) (rest := []) ⟨hx, hb, hml, hown, hts⟩ (mc_me_cornerOf l dC dI a cI cZ _ x2 2 g3 _ h) (zz_cwV 2 hts (zz_good wm_111) rfl rfl rfl wm_112 wm_113 wm_114 wm_23 (by decide +kernel) ⟨Nat.le_of_ble_eq_true rfl, Nat.le_of_ble_eq_true rfl⟩) ⟨zz_blind, (va_recv hK hP rfl (wC_2 a cI cZ g3)), zz_pre hP hK hD hN⟩ rfl rfl hl.1 rfl (lv_room (Nat.le_of_ble_eq_true rfl)) d_me_heightIn_19 ⟨Nat.le_of_ble_eq_true rfl, Nat.le_of_ble_eq_true rfl⟩) hD hS hA (fun r6 g5 H locs h hP hD hS => ?_)
  refine lv_istore (lv' := [(7, .int r6), (6, .int r4), (5, .int r2), (0, .ref (a 2)), (1, .ref (a 1)), (2, .int x2), (3, .int x3), (4, .int x4)]) hx hb d_me_heightIn_22 hl (by decide) rfl (fun ls hl => ?_)
  refine lv_aload_n hx hb d_me_heightIn_24 rfl (lv_at hl 4 rfl) ?_
  refine lv_iload hx hb d_me_heightIn_25 (lv_at hl 2 rfl) ?_
  refine lv_iload hx hb d_me_heightIn_27 (lv_at hl 1 rfl) ?_
  refine lv_iload hx hb d_me_heightIn_29 (lv_at hl 0 rfl) ?_
  refine zz_ci (va_runV (As := [.int r2, .int r4, .int r6]) (rest := []) ⟨hx, hb, hml, hown, hts⟩ (mc_sp_turn l dC dI a cI cZ _ r2 r4 r6 g5 _ h) (zz_cwV 3 hts (zz_good wm_68) rfl rfl rfl wm_89 wm_70 wm_71 wm_1 (by decide +kernel) ⟨Nat.le_of_ble_eq_true rfl, Nat.le_of_ble_eq_true rfl⟩) ⟨zz_blind, (va_recv hK hP rfl (wC_1 a cI cZ g5)), zz_pre hP hK hD hN⟩ rfl rfl hl.1 rfl (lv_room (Nat.le_of_ble_eq_true rfl)) d_me_heightIn_31 ⟨Nat.le_of_ble_eq_true rfl, Nat.le_of_ble_eq_true rfl⟩) hD hS hA (fun r8 g7 H locs h hP hD hS => ?_)
  refine lv_if_le (tgt := 41) hx hb d_me_heightIn_34 (by decide) (fun hc => ?_) (fun hc => ?_)
  · have h := h.1 hc
    refine lv_iconst (v := (-1)) hx hb d_me_heightIn_41 (by decide) ?_
    exact J42 _ _ _ _ _ _ _ h _ _ _ hP hD hS (lv_sub hl [4, 6, 7, 2, 1, 0] rfl)
  · have h := h.2 hc
    refine lv_iconst (v := 1) hx hb d_me_heightIn_37 (by decide) ?_
    refine lv_goto (tgt := 42) hx hb d_me_heightIn_38 (by decide) ?_
    exact J42 _ _ _ _ _ _ _ h _ _ _ hP hD hS (lv_sub hl [4, 6, 7, 2, 1, 0] rfl)
abbrev rm_me_heightAt : Room := { frames := 3, cells := 0, slots := 0, locals := 79 }
set_option maxHeartbeats 4000000 in
set_option maxRecDepth 100000 in
theorem mc_me_heightAt (l : Launch) (dC : Nat → ClassId) (dI : Nat → Nat → Nat) (a : Nat → Nat) (cI cZ : ClassId) (sz : Nat) (x2 : Int32) (x3 : Int32) (g : St) (post : Int32 → St → Prop) (h : wp_me_heightAt x2 x3 g post) : Met l yy_me_heightAt ww_me_heightAt rm_me_heightAt (zz_Pre (dC, dI) (wC a cI cZ) [(cI, .int), (cZ, .boolean)] [.ref (a 2), .ref (a 1), .int x2, .int x3] g sz) (va_Qi post (zz_W (dC, dI) (wC a cI cZ) [(cI, .int), (cZ, .boolean)] (va_A (wC a cI cZ g) sz)) (va_A (wC a cI cZ g) sz)) 0 0 (va_A (wC a cI cZ g) sz) := by
  refine Met.ofW (cc := cc_me_heightAt) (maxL := 6) (ret := (some .int)) (by decide) rfl ?_
  intro p e s m args below meth c s₁ B hml hv
  obtain ⟨hav, hsz, hP, hK, hD0, hN⟩ := hv
  have hx := B.exec
  have hb := B.bytes
  have hr := B.returns
  have hts := atoms_spec (ws := ww_me_heightAt) B.pre
  have hown : s.vm.findClass "SpotContours$Mesh" = some m.cls := findClass_of_methodNamed B.named
  have hlocks := B.notSynchronized
  subst hsz
  have hD := hD0.self (sz := s.heap.size)
  generalize hAe : va_A (wC a cI cZ g) s.heap.size = A at hD ⊢
  have hA : ∀ q : Nat, s.heap.size ≤ q → A q := fun q h => by rw [← hAe]; exact Or.inr h
  have hS : va_S A s.heap s.heap [] := va_S.rf
  have he9 := lg_entry_eq m [.ref (a 2), .ref (a 1), .int x2, .int x3] 6
  rw [← hav] at he9
  rw [he9]
  have hl := lv_entry [.ref (a 2), .ref (a 1), .int x2, .int x3] (n := 6) (Nat.le_of_ble_eq_true rfl)
  generalize (lg_sl [.ref (a 2), .ref (a 1), .int x2, .int x3] ++ List.replicate (6 - (lg_sl [.ref (a 2), .ref (a 1), .int x2, .int x3]).length) Slot.unset).toArray = ls at hl ⊢
  have hl : lv_has ls 6 [(0, .ref (a 2)), (1, .ref (a 1)), (2, .int x2), (3, .int x3)] := hl
  have hin__me : ∀ w ∈ u_ws R_me T_me 3, w ∈ ww_me_heightAt := fun w h => zz_in (hin0_me w h)
  have fl_21 := hts (.fieldLink "SpotContours$Mesh" 21 "SpotContours$Mesh" "count" "I") (zz_in wm_366)
  have L3 : ∀ (n : Nat) (v2 : Int32) (v3 : Int32) (v4 : Int32) (g : St) (K38 : St → Prop) , (∀ (g : St), K38 g → ∀ (H : Heap) (locs : List Loc) (ls : Array Slot), va_P (dC, dI) zzCl (wC a cI cZ g) H → va_D A (wC a cI cZ g) → va_S A s.heap H locs → lv_has ls 6 [] → W p l e (headSpec ww_me_heightAt rm_me_heightAt).room s m args below meth c H locs 0 0 (zz_Qi below (dC, dI) (wC a cI cZ) [(cI, .int), (cZ, .boolean)] A post args s) (F0 m 38 ls [])) → lp_me_heightAt_L3 n v2 v3 v4 g K38 post → ∀ (H : Heap) (locs : List Loc) (ls : Array Slot), va_P (dC, dI) zzCl (wC a cI cZ g) H → va_D A (wC a cI cZ g) → va_S A s.heap H locs → lv_has ls 6 [(0, .ref (a 2)), (1, .ref (a 1)), (2, .int v2), (3, .int v3), (4, .int v4)] → W p l e (headSpec ww_me_heightAt rm_me_heightAt).room s m args below meth c H locs 0 0 (zz_Qi below (dC, dI) (wC a cI cZ) [(cI, .int), (cZ, .boolean)] A post args s) (F0 m 3 ls []) := by
    intro n
    induction n with
    | zero => intro v2 v3 v4 g K38 hK38 h; exact h.elim
    | succ n ih =>
      intro v2 v3 v4 g K38 hK38 h H locs ls hP hD hS hl
      unfold lp_me_heightAt_L3 at h
      refine lv_iload hx hb d_me_heightAt_3 (lv_at hl 4 rfl) ?_
      refine lv_aload_n hx hb d_me_heightAt_5 rfl (lv_at hl 0 rfl) ?_
      refine va_get (D := (dC, dI)) (ci := 1) (v := .int (g 2 2)) (C := R_me) (T := T_me) (N := 3) hx hb hts hin__me hown hK hP 2 (wC_2 a cI cZ g) rfl 2 (by decide) fl_21 (fun _ h9 => h9) rfl d_me_heightAt_6 ?_
      refine lv_icmp_ge (tgt := 38) hx hb d_me_heightAt_9 (by decide) (fun hc => ?_) (fun hc => ?_)
      · have h := h.1 hc
        exact hK38 _ h _ _ _ hP hD hS (lv_sub hl [] rfl)
      · have h := h.2 hc
        refine lv_aload_n hx hb d_me_heightAt_12 rfl (lv_at hl 0 rfl) ?_
        refine lv_aload_n hx hb d_me_heightAt_13 rfl (lv_at hl 1 rfl) ?_
        refine lv_iload hx hb d_me_heightAt_14 (lv_at hl 4 rfl) ?_
        refine lv_iload_n hx hb d_me_heightAt_16 rfl (lv_at hl 2 rfl) ?_
        refine lv_iload_n hx hb d_me_heightAt_17 rfl (lv_at hl 3 rfl) ?_
        refine zz_ci (va_runV (As := [.ref (a 1), .int v4, .int v2, .int v3]) (rest := []) ⟨hx, hb, hml, hown, hts⟩ (mc_me_heightIn l dC dI a cI cZ _ v4 v2 v3 g _ h) (zz_cwV 4 hts (zz_good wm_115) rfl rfl rfl wm_116 wm_117 wm_118 wm_23 (by decide +kernel) ⟨Nat.le_of_ble_eq_true rfl, Nat.le_of_ble_eq_true rfl⟩) ⟨zz_blind, (va_recv hK hP rfl (wC_2 a cI cZ g)), zz_pre hP hK hD hN⟩ rfl rfl hl.1 rfl (lv_room (Nat.le_of_ble_eq_true rfl)) d_me_heightAt_18 ⟨Nat.le_of_ble_eq_true rfl, Nat.le_of_ble_eq_true rfl⟩) hD hS hA (fun r2 g1 H locs h hP hD hS => ?_)
        refine lv_istore (lv' := [(5, .int r2), (0, .ref (a 2)), (1, .ref (a 1)), (2, .int v2), (3, .int v3), (4, .int v4)]) hx hb d_me_heightAt_21 hl (by decide) rfl (fun ls hl => ?_)
        refine lv_iload hx hb d_me_heightAt_23 (lv_at hl 0 rfl) ?_
        refine lv_iconst (v := (-1)) hx hb d_me_heightAt_25 (by decide) ?_
        refine lv_icmp_eq (tgt := 32) hx hb d_me_heightAt_26 (by decide) (fun hc => ?_) (fun hc => ?_)
        · have h := h.1 hc
          refine lv_iinc (k := 5) (v := (v4 + 1)) (lv' := [(4, .int (v4 + 1)), (5, .int r2), (0, .ref (a 2)), (1, .ref (a 1)), (2, .int v2), (3, .int v3)]) hx hb d_me_heightAt_32 hl rfl rfl (by decide) rfl (fun ls hl => ?_)
          refine lv_goto (tgt := 3) hx hb d_me_heightAt_35 (by decide) ?_
          exact ih _ _ _ _ _ hK38 h _ _ _ hP hD hS (lv_sub hl [2, 3, 4, 5, 0] rfl)
        · have h := h.2 hc
          refine lv_iload hx hb d_me_heightAt_29 (lv_at hl 0 rfl) ?_
          exact W.iret (v := r2) hx hb hr (fun t ht hW => ⟨⟨r2, g1, rfl, h, by rw [ht]; exact hP, va_K.moved hW.alike hK, hD⟩, hS.F ht⟩) hS.2.2 d_me_heightAt_31
  unfold wp_me_heightAt at h
  refine lv_iconst (v := 0) hx hb d_me_heightAt_0 (by decide) ?_
  refine lv_istore (lv' := [(4, .int 0), (0, .ref (a 2)), (1, .ref (a 1)), (2, .int x2), (3, .int x3)]) hx hb d_me_heightAt_1 hl (by decide) rfl (fun ls hl => ?_)
  obtain ⟨n3, h⟩ := h
  refine L3 n3 _ _ _ _ _ (fun g3 h H locs ls hP hD hS hl => ?_) h _ _ _ hP hD hS (lv_sub hl [1, 2, 3, 4, 0] rfl)
  refine lv_iconst (v := (-1)) hx hb d_me_heightAt_38 (by decide) ?_
  exact W.iret (v := (-1)) hx hb hr (fun t ht hW => ⟨⟨(-1), g3, rfl, h, by rw [ht]; exact hP, va_K.moved hW.alike hK, hD⟩, hS.F ht⟩) hS.2.2 d_me_heightAt_39
abbrev rm_sp_isNumber : Room := { frames := 0, cells := 0, slots := 0, locals := 0 }
set_option maxHeartbeats 4000000 in
set_option maxRecDepth 100000 in
theorem mc_sp_isNumber (l : Launch) (dC : Nat → ClassId) (dI : Nat → Nat → Nat) (a : Nat → Nat) (cI cZ : ClassId) (sz : Nat) (x1 : Int32) (g : St) (post : Int32 → St → Prop) (h : wp_sp_isNumber x1 g post) : Met l yy_sp_isNumber ww_sp_isNumber rm_sp_isNumber (zz_Pre (dC, dI) (wC a cI cZ) [(cI, .int), (cZ, .boolean)] [.ref (a 1), .int x1] g sz) (va_Qi post (zz_W (dC, dI) (wC a cI cZ) [(cI, .int), (cZ, .boolean)] (va_A (wC a cI cZ g) sz)) (va_A (wC a cI cZ g) sz)) 0 0 (va_A (wC a cI cZ g) sz) := by
  refine Met.ofW (cc := cc_sp_isNumber) (maxL := 2) (ret := (some .boolean)) (by decide) rfl ?_
  intro p e s m args below meth c s₁ B hml hv
  obtain ⟨hav, hsz, hP, hK, hD0, hN⟩ := hv
  have hx := B.exec
  have hb := B.bytes
  have hr := B.returns
  have hts := atoms_spec (ws := ww_sp_isNumber) B.pre
  have hown : s.vm.findClass "SpotContours$Spots" = some m.cls := findClass_of_methodNamed B.named
  have hlocks := B.notSynchronized
  subst hsz
  have hD := hD0.self (sz := s.heap.size)
  generalize hAe : va_A (wC a cI cZ g) s.heap.size = A at hD ⊢
  have hA : ∀ q : Nat, s.heap.size ≤ q → A q := fun q h => by rw [← hAe]; exact Or.inr h
  have hS : va_S A s.heap s.heap [] := va_S.rf
  have he9 := lg_entry_eq m [.ref (a 1), .int x1] 2
  rw [← hav] at he9
  rw [he9]
  have hl := lv_entry [.ref (a 1), .int x1] (n := 2) (Nat.le_of_ble_eq_true rfl)
  generalize (lg_sl [.ref (a 1), .int x1] ++ List.replicate (2 - (lg_sl [.ref (a 1), .int x1]).length) Slot.unset).toArray = ls at hl ⊢
  have hl : lv_has ls 2 [(0, .ref (a 1)), (1, .int x1)] := hl
  have hin__sp : ∀ w ∈ u_ws R_sp T_sp 4, w ∈ ww_sp_isNumber := fun w h => zz_in (hin0_sp w h)
  have fl_21 := hts (.fieldLink "SpotContours$Spots" 21 "SpotContours$Spots" "count" "I") (zz_in wm_363)
  unfold wp_sp_isNumber at h
  refine lv_iload_n hx hb d_sp_isNumber_0 rfl (lv_at hl 1 rfl) ?_
  refine lv_if_lt (tgt := 16) hx hb d_sp_isNumber_1 (by decide) (fun hc => ?_) (fun hc => ?_)
  · have h := h.1 hc
    refine lv_iconst (v := 0) hx hb d_sp_isNumber_16 (by decide) ?_
    exact W.zret (v := 0) hx hb hr (by decide) (fun t ht hW => ⟨⟨0, g, rfl, h, by rw [ht]; exact hP, va_K.moved hW.alike hK, hD⟩, hS.F ht⟩) hS.2.2 d_sp_isNumber_17
  · have h := h.2 hc
    refine lv_iload_n hx hb d_sp_isNumber_4 rfl (lv_at hl 1 rfl) ?_
    refine lv_aload_n hx hb d_sp_isNumber_5 rfl (lv_at hl 0 rfl) ?_
    refine va_get (D := (dC, dI)) (ci := 2) (v := .int (g 1 3)) (C := R_sp) (T := T_sp) (N := 4) hx hb hts hin__sp hown hK hP 1 (wC_1 a cI cZ g) rfl 3 (by decide) fl_21 (fun _ h9 => h9) rfl d_sp_isNumber_6 ?_
    refine lv_icmp_ge (tgt := 16) hx hb d_sp_isNumber_9 (by decide) (fun hc => ?_) (fun hc => ?_)
    · have h := h.1 hc
      refine lv_iconst (v := 0) hx hb d_sp_isNumber_16 (by decide) ?_
      exact W.zret (v := 0) hx hb hr (by decide) (fun t ht hW => ⟨⟨0, g, rfl, h, by rw [ht]; exact hP, va_K.moved hW.alike hK, hD⟩, hS.F ht⟩) hS.2.2 d_sp_isNumber_17
    · have h := h.2 hc
      refine lv_iconst (v := 1) hx hb d_sp_isNumber_12 (by decide) ?_
      refine lv_goto (tgt := 17) hx hb d_sp_isNumber_13 (by decide) ?_
      exact W.zret (v := 1) hx hb hr (by decide) (fun t ht hW => ⟨⟨1, g, rfl, h, by rw [ht]; exact hP, va_K.moved hW.alike hK, hD⟩, hS.F ht⟩) hS.2.2 d_sp_isNumber_17
abbrev rm_sp_y : Room := { frames := 0, cells := 0, slots := 0, locals := 0 }
set_option maxHeartbeats 4000000 in
set_option maxRecDepth 100000 in
theorem mc_sp_y (l : Launch) (dC : Nat → ClassId) (dI : Nat → Nat → Nat) (a : Nat → Nat) (cI cZ : ClassId) (sz : Nat) (x1 : Int32) (g : St) (post : Int32 → St → Prop) (h : wp_sp_y x1 g post) : Met l yy_sp_y ww_sp_y rm_sp_y (zz_Pre (dC, dI) (wC a cI cZ) [(cI, .int), (cZ, .boolean)] [.ref (a 1), .int x1] g sz) (va_Qi post (zz_W (dC, dI) (wC a cI cZ) [(cI, .int), (cZ, .boolean)] (va_A (wC a cI cZ g) sz)) (va_A (wC a cI cZ g) sz)) 0 0 (va_A (wC a cI cZ g) sz) := by
  refine Met.ofW (cc := cc_sp_y) (maxL := 2) (ret := (some .int)) (by decide) rfl ?_
  intro p e s m args below meth c s₁ B hml hv
  obtain ⟨hav, hsz, hP, hK, hD0, hN⟩ := hv
  have hx := B.exec
  have hb := B.bytes
  have hr := B.returns
  have hts := atoms_spec (ws := ww_sp_y) B.pre
  have hown : s.vm.findClass "SpotContours$Spots" = some m.cls := findClass_of_methodNamed B.named
  have hlocks := B.notSynchronized
  subst hsz
  have hD := hD0.self (sz := s.heap.size)
  generalize hAe : va_A (wC a cI cZ g) s.heap.size = A at hD ⊢
  have hA : ∀ q : Nat, s.heap.size ≤ q → A q := fun q h => by rw [← hAe]; exact Or.inr h
  have hS : va_S A s.heap s.heap [] := va_S.rf
  have he9 := lg_entry_eq m [.ref (a 1), .int x1] 2
  rw [← hav] at he9
  rw [he9]
  have hl := lv_entry [.ref (a 1), .int x1] (n := 2) (Nat.le_of_ble_eq_true rfl)
  generalize (lg_sl [.ref (a 1), .int x1] ++ List.replicate (2 - (lg_sl [.ref (a 1), .int x1]).length) Slot.unset).toArray = ls at hl ⊢
  have hl : lv_has ls 2 [(0, .ref (a 1)), (1, .int x1)] := hl
  have hin__sp : ∀ w ∈ u_ws R_sp T_sp 4, w ∈ ww_sp_y := fun w h => zz_in (hin0_sp w h)
  have fl_15 := hts (.fieldLink "SpotContours$Spots" 15 "SpotContours$Spots" "ys" "[I") (zz_in wm_368)
  unfold wp_sp_y at h
  refine lv_aload_n hx hb d_sp_y_0 rfl (lv_at hl 0 rfl) ?_
  refine va_get (D := (dC, dI)) (ci := 2) (v := .ref (a 6)) (C := R_sp) (T := T_sp) (N := 4) hx hb hts hin__sp hown hK hP 1 (wC_1 a cI cZ g) rfl 1 (by decide) fl_15 (fun _ h9 => h9) rfl d_sp_y_1 ?_
  refine lv_iload_n hx hb d_sp_y_4 rfl (lv_at hl 1 rfl) ?_
  refine va_iald hx hb hK hP 6 0 (wC_6 a cI cZ g) rfl h.1 d_sp_y_5 ?_
  have h := h.2
  exact W.iret (v := (g 6 (ix x1))) hx hb hr (fun t ht hW => ⟨⟨(g 6 (ix x1)), g, rfl, h, by rw [ht]; exact hP, va_K.moved hW.alike hK, hD⟩, hS.F ht⟩) hS.2.2 d_sp_y_6
abbrev rm_sp_setHeight : Room := { frames := 0, cells := 0, slots := 0, locals := 0 }
set_option maxHeartbeats 4000000 in
set_option maxRecDepth 100000 in
theorem mc_sp_setHeight (l : Launch) (dC : Nat → ClassId) (dI : Nat → Nat → Nat) (a : Nat → Nat) (cI cZ : ClassId) (sz : Nat) (x1 : Int32) (x2 : Int32) (g : St) (post : St → Prop) (h : wp_sp_setHeight x1 x2 g post) : Met l yy_sp_setHeight ww_sp_setHeight rm_sp_setHeight (zz_Pre (dC, dI) (wC a cI cZ) [(cI, .int), (cZ, .boolean)] [.ref (a 1), .int x1, .int x2] g sz) (va_Qv post (zz_W (dC, dI) (wC a cI cZ) [(cI, .int), (cZ, .boolean)] (va_A (wC a cI cZ g) sz)) (va_A (wC a cI cZ g) sz)) 0 0 (va_A (wC a cI cZ g) sz) := by
  refine Met.ofW (cc := cc_sp_setHeight) (maxL := 3) (ret := none) (by decide) rfl ?_
  intro p e s m args below meth c s₁ B hml hv
  obtain ⟨hav, hsz, hP, hK, hD0, hN⟩ := hv
  have hx := B.exec
  have hb := B.bytes
  have hr := B.returns
  have hts := atoms_spec (ws := ww_sp_setHeight) B.pre
  have hown : s.vm.findClass "SpotContours$Spots" = some m.cls := findClass_of_methodNamed B.named
  have hlocks := B.notSynchronized
  subst hsz
  have hD := hD0.self (sz := s.heap.size)
  generalize hAe : va_A (wC a cI cZ g) s.heap.size = A at hD ⊢
  have hA : ∀ q : Nat, s.heap.size ≤ q → A q := fun q h => by rw [← hAe]; exact Or.inr h
  have hS : va_S A s.heap s.heap [] := va_S.rf
  have he9 := lg_entry_eq m [.ref (a 1), .int x1, .int x2] 3
  rw [← hav] at he9
  rw [he9]
  have hl := lv_entry [.ref (a 1), .int x1, .int x2] (n := 3) (Nat.le_of_ble_eq_true rfl)
  generalize (lg_sl [.ref (a 1), .int x1, .int x2] ++ List.replicate (3 - (lg_sl [.ref (a 1), .int x1, .int x2]).length) Slot.unset).toArray = ls at hl ⊢
  have hl : lv_has ls 3 [(0, .ref (a 1)), (1, .int x1), (2, .int x2)] := hl
  have hin__sp : ∀ w ∈ u_ws R_sp T_sp 4, w ∈ ww_sp_setHeight := fun w h => zz_in (hin0_sp w h)
  have fl_18 := hts (.fieldLink "SpotContours$Spots" 18 "SpotContours$Spots" "heights" "[I") (zz_in wm_364)
  unfold wp_sp_setHeight at h
  refine lv_aload_n hx hb d_sp_setHeight_0 rfl (lv_at hl 0 rfl) ?_
  refine va_get (D := (dC, dI)) (ci := 2) (v := .ref (a 7)) (C := R_sp) (T := T_sp) (N := 4) hx hb hts hin__sp hown hK hP 1 (wC_1 a cI cZ g) rfl 2 (by decide) fl_18 (fun _ h9 => h9) rfl d_sp_setHeight_1 ?_
  refine lv_iload_n hx hb d_sp_setHeight_4 rfl (lv_at hl 1 rfl) ?_
  refine lv_iload_n hx hb d_sp_setHeight_5 rfl (lv_at hl 2 rfl) ?_
  refine va_iast hx hb hK hP hD hS 7 0 (wC_7 a cI cZ g) rfl h.1 d_sp_setHeight_6 (fun H locs hP hD hS => ?_)
  obtain ⟨g1, e_g1⟩ : ∃ z : St, z = gp g 7 (ix x1) x2 := ⟨_, rfl⟩
  have h := h.2 g1 e_g1
  have hP : va_P (dC, dI) zzCl (wC a cI cZ g1) H := by rw [e_g1]; exact hP
  have hD : va_D A (wC a cI cZ g1) := by rw [e_g1]; exact hD
  exact W.vret hx hb hr (fun t ht hW => ⟨⟨g1, rfl, h, by rw [ht]; exact hP, va_K.moved hW.alike hK, hD⟩, hS.F ht⟩) hS.2.2 d_sp_setHeight_7
abbrev rm_sp_isTaken : Room := { frames := 0, cells := 0, slots := 0, locals := 0 }
set_option maxHeartbeats 4000000 in
set_option maxRecDepth 100000 in
theorem mc_sp_isTaken (l : Launch) (dC : Nat → ClassId) (dI : Nat → Nat → Nat) (a : Nat → Nat) (cI cZ : ClassId) (sz : Nat) (x1 : Int32) (x2 : Int32) (g : St) (post : Int32 → St → Prop) (h : wp_sp_isTaken x1 x2 g post) : Met l yy_sp_isTaken ww_sp_isTaken rm_sp_isTaken (zz_Pre (dC, dI) (wC a cI cZ) [(cI, .int), (cZ, .boolean)] [.ref (a 1), .int x1, .int x2] g sz) (va_Qi post (zz_W (dC, dI) (wC a cI cZ) [(cI, .int), (cZ, .boolean)] (va_A (wC a cI cZ g) sz)) (va_A (wC a cI cZ g) sz)) 0 0 (va_A (wC a cI cZ g) sz) := by
  refine Met.ofW (cc := cc_sp_isTaken) (maxL := 4) (ret := (some .boolean)) (by decide) rfl ?_
  intro p e s m args below meth c s₁ B hml hv
  obtain ⟨hav, hsz, hP, hK, hD0, hN⟩ := hv
  have hx := B.exec
  have hb := B.bytes
  have hr := B.returns
  have hts := atoms_spec (ws := ww_sp_isTaken) B.pre
  have hown : s.vm.findClass "SpotContours$Spots" = some m.cls := findClass_of_methodNamed B.named
  have hlocks := B.notSynchronized
  subst hsz
  have hD := hD0.self (sz := s.heap.size)
  generalize hAe : va_A (wC a cI cZ g) s.heap.size = A at hD ⊢
  have hA : ∀ q : Nat, s.heap.size ≤ q → A q := fun q h => by rw [← hAe]; exact Or.inr h
  have hS : va_S A s.heap s.heap [] := va_S.rf
  have he9 := lg_entry_eq m [.ref (a 1), .int x1, .int x2] 4
  rw [← hav] at he9
  rw [he9]
  have hl := lv_entry [.ref (a 1), .int x1, .int x2] (n := 4) (Nat.le_of_ble_eq_true rfl)
  generalize (lg_sl [.ref (a 1), .int x1, .int x2] ++ List.replicate (4 - (lg_sl [.ref (a 1), .int x1, .int x2]).length) Slot.unset).toArray = ls at hl ⊢
  have hl : lv_has ls 4 [(0, .ref (a 1)), (1, .int x1), (2, .int x2)] := hl
  have hin__sp : ∀ w ∈ u_ws R_sp T_sp 4, w ∈ ww_sp_isTaken := fun w h => zz_in (hin0_sp w h)
  have fl_9 := hts (.fieldLink "SpotContours$Spots" 9 "SpotContours$Spots" "xs" "[I") (zz_in wm_360)
  have fl_15 := hts (.fieldLink "SpotContours$Spots" 15 "SpotContours$Spots" "ys" "[I") (zz_in wm_368)
  have fl_21 := hts (.fieldLink "SpotContours$Spots" 21 "SpotContours$Spots" "count" "I") (zz_in wm_363)
  have L2 : ∀ (n : Nat) (v1 : Int32) (v2 : Int32) (v3 : Int32) (g : St) (K38 : St → Prop) , (∀ (g : St), K38 g → ∀ (H : Heap) (locs : List Loc) (ls : Array Slot), va_P (dC, dI) zzCl (wC a cI cZ g) H → va_D A (wC a cI cZ g) → va_S A s.heap H locs → lv_has ls 4 [] → W p l e (headSpec ww_sp_isTaken rm_sp_isTaken).room s m args below meth c H locs 0 0 (zz_Qi below (dC, dI) (wC a cI cZ) [(cI, .int), (cZ, .boolean)] A post args s) (F0 m 38 ls [])) → lp_sp_isTaken_L2 n v1 v2 v3 g K38 post → ∀ (H : Heap) (locs : List Loc) (ls : Array Slot), va_P (dC, dI) zzCl (wC a cI cZ g) H → va_D A (wC a cI cZ g) → va_S A s.heap H locs → lv_has ls 4 [(0, .ref (a 1)), (1, .int v1), (2, .int v2), (3, .int v3)] → W p l e (headSpec ww_sp_isTaken rm_sp_isTaken).room s m args below meth c H locs 0 0 (zz_Qi below (dC, dI) (wC a cI cZ) [(cI, .int), (cZ, .boolean)] A post args s) (F0 m 2 ls []) := by
    intro n
    induction n with
    | zero => intro v1 v2 v3 g K38 hK38 h; exact h.elim
    | succ n ih =>
      intro v1 v2 v3 g K38 hK38 h H locs ls hP hD hS hl
      unfold lp_sp_isTaken_L2 at h
      refine lv_iload_n hx hb d_sp_isTaken_2 rfl (lv_at hl 3 rfl) ?_
      refine lv_aload_n hx hb d_sp_isTaken_3 rfl (lv_at hl 0 rfl) ?_
      refine va_get (D := (dC, dI)) (ci := 2) (v := .int (g 1 3)) (C := R_sp) (T := T_sp) (N := 4) hx hb hts hin__sp hown hK hP 1 (wC_1 a cI cZ g) rfl 3 (by decide) fl_21 (fun _ h9 => h9) rfl d_sp_isTaken_4 ?_
      refine lv_icmp_ge (tgt := 38) hx hb d_sp_isTaken_7 (by decide) (fun hc => ?_) (fun hc => ?_)
      · have h := h.1 hc
        exact hK38 _ h _ _ _ hP hD hS (lv_sub hl [] rfl)
      · have h := h.2 hc
        refine lv_aload_n hx hb d_sp_isTaken_10 rfl (lv_at hl 0 rfl) ?_
        refine va_get (D := (dC, dI)) (ci := 2) (v := .ref (a 5)) (C := R_sp) (T := T_sp) (N := 4) hx hb hts hin__sp hown hK hP 1 (wC_1 a cI cZ g) rfl 0 (by decide) fl_9 (fun _ h9 => h9) rfl d_sp_isTaken_11 ?_
        refine lv_iload_n hx hb d_sp_isTaken_14 rfl (lv_at hl 3 rfl) ?_
        refine va_iald hx hb hK hP 5 0 (wC_5 a cI cZ g) rfl h.1 d_sp_isTaken_15 ?_
        have h := h.2
        refine lv_iload_n hx hb d_sp_isTaken_16 rfl (lv_at hl 1 rfl) ?_
        refine lv_icmp_ne (tgt := 32) hx hb d_sp_isTaken_17 (by decide) (fun hc => ?_) (fun hc => ?_)
        · have h := h.1 hc
          refine lv_iinc (k := 3) (v := (v3 + 1)) (lv' := [(3, .int (v3 + 1)), (0, .ref (a 1)), (1, .int v1), (2, .int v2)]) hx hb d_sp_isTaken_32 hl rfl rfl (by decide) rfl (fun ls hl => ?_)
          refine lv_goto (tgt := 2) hx hb d_sp_isTaken_35 (by decide) ?_
          exact ih _ _ _ _ _ hK38 h _ _ _ hP hD hS (lv_sub hl [1, 2, 3, 0] rfl)
        · have h := h.2 hc
          refine lv_aload_n hx hb d_sp_isTaken_20 rfl (lv_at hl 0 rfl) ?_
          refine va_get (D := (dC, dI)) (ci := 2) (v := .ref (a 6)) (C := R_sp) (T := T_sp) (N := 4) hx hb hts hin__sp hown hK hP 1 (wC_1 a cI cZ g) rfl 1 (by decide) fl_15 (fun _ h9 => h9) rfl d_sp_isTaken_21 ?_
          refine lv_iload_n hx hb d_sp_isTaken_24 rfl (lv_at hl 3 rfl) ?_
          refine va_iald hx hb hK hP 6 0 (wC_6 a cI cZ g) rfl h.1 d_sp_isTaken_25 ?_
          have h := h.2
          refine lv_iload_n hx hb d_sp_isTaken_26 rfl (lv_at hl 2 rfl) ?_
          refine lv_icmp_ne (tgt := 32) hx hb d_sp_isTaken_27 (by decide) (fun hc => ?_) (fun hc => ?_)
          · have h := h.1 hc
            refine lv_iinc (k := 3) (v := (v3 + 1)) (lv' := [(3, .int (v3 + 1)), (0, .ref (a 1)), (1, .int v1), (2, .int v2)]) hx hb d_sp_isTaken_32 hl rfl rfl (by decide) rfl (fun ls hl => ?_)
            refine lv_goto (tgt := 2) hx hb d_sp_isTaken_35 (by decide) ?_
            exact ih _ _ _ _ _ hK38 h _ _ _ hP hD hS (lv_sub hl [1, 2, 3, 0] rfl)
          · have h := h.2 hc
            refine lv_iconst (v := 1) hx hb d_sp_isTaken_30 (by decide) ?_
            exact W.zret (v := 1) hx hb hr (by decide) (fun t ht hW => ⟨⟨1, g, rfl, h, by rw [ht]; exact hP, va_K.moved hW.alike hK, hD⟩, hS.F ht⟩) hS.2.2 d_sp_isTaken_31
  unfold wp_sp_isTaken at h
  refine lv_iconst (v := 0) hx hb d_sp_isTaken_0 (by decide) ?_
  refine lv_istore_n (lv' := [(3, .int 0), (0, .ref (a 1)), (1, .int x1), (2, .int x2)]) hx hb d_sp_isTaken_1 rfl hl (by decide) rfl (fun ls hl => ?_)
  obtain ⟨n2, h⟩ := h
  refine L2 n2 _ _ _ _ _ (fun g1 h H locs ls hP hD hS hl => ?_) h _ _ _ hP hD hS (lv_sub hl [1, 2, 3, 0] rfl)
  refine lv_iconst (v := 0) hx hb d_sp_isTaken_38 (by decide) ?_
  exact W.zret (v := 0) hx hb hr (by decide) (fun t ht hW => ⟨⟨0, g1, rfl, h, by rw [ht]; exact hP, va_K.moved hW.alike hK, hD⟩, hS.F ht⟩) hS.2.2 d_sp_isTaken_39
abbrev rm_sp_add : Room := { frames := 0, cells := 0, slots := 0, locals := 0 }
set_option maxHeartbeats 4000000 in
set_option maxRecDepth 100000 in
theorem mc_sp_add (l : Launch) (dC : Nat → ClassId) (dI : Nat → Nat → Nat) (a : Nat → Nat) (cI cZ : ClassId) (sz : Nat) (x1 : Int32) (x2 : Int32) (x3 : Int32) (g : St) (post : Int32 → St → Prop) (h : wp_sp_add x1 x2 x3 g post) : Met l yy_sp_add ww_sp_add rm_sp_add (zz_Pre (dC, dI) (wC a cI cZ) [(cI, .int), (cZ, .boolean)] [.ref (a 1), .int x1, .int x2, .int x3] g sz) (va_Qi post (zz_W (dC, dI) (wC a cI cZ) [(cI, .int), (cZ, .boolean)] (va_A (wC a cI cZ g) sz)) (va_A (wC a cI cZ g) sz)) 0 0 (va_A (wC a cI cZ g) sz) := by
  refine Met.ofW (cc := cc_sp_add) (maxL := 4) (ret := (some .int)) (by decide) rfl ?_
  intro p e s m args below meth c s₁ B hml hv
  obtain ⟨hav, hsz, hP, hK, hD0, hN⟩ := hv
  have hx := B.exec
  have hb := B.bytes
  have hr := B.returns
  have hts := atoms_spec (ws := ww_sp_add) B.pre
  have hown : s.vm.findClass "SpotContours$Spots" = some m.cls := findClass_of_methodNamed B.named
  have hlocks := B.notSynchronized
  subst hsz
  have hD := hD0.self (sz := s.heap.size)
  generalize hAe : va_A (wC a cI cZ g) s.heap.size = A at hD ⊢
  have hA : ∀ q : Nat, s.heap.size ≤ q → A q := fun q h => by rw [← hAe]; exact Or.inr h
  have hS : va_S A s.heap s.heap [] := va_S.rf
  have he9 := lg_entry_eq m [.ref (a 1), .int x1, .int x2, .int x3] 4
  rw [← hav] at he9
  rw [he9]
  have hl := lv_entry [.ref (a 1), .int x1, .int x2, .int x3] (n := 4) (Nat.le_of_ble_eq_true rfl)
  generalize (lg_sl [.ref (a 1), .int x1, .int x2, .int x3] ++ List.replicate (4 - (lg_sl [.ref (a 1), .int x1, .int x2, .int x3]).length) Slot.unset).toArray = ls at hl ⊢
  have hl : lv_has ls 4 [(0, .ref (a 1)), (1, .int x1), (2, .int x2), (3, .int x3)] := hl
  have hin__sp : ∀ w ∈ u_ws R_sp T_sp 4, w ∈ ww_sp_add := fun w h => zz_in (hin0_sp w h)
  have fl_9 := hts (.fieldLink "SpotContours$Spots" 9 "SpotContours$Spots" "xs" "[I") (zz_in wm_360)
  have fl_15 := hts (.fieldLink "SpotContours$Spots" 15 "SpotContours$Spots" "ys" "[I") (zz_in wm_368)
  have fl_18 := hts (.fieldLink "SpotContours$Spots" 18 "SpotContours$Spots" "heights" "[I") (zz_in wm_364)
  have fl_21 := hts (.fieldLink "SpotContours$Spots" 21 "SpotContours$Spots" "count" "I") (zz_in wm_363)
  unfold wp_sp_add at h
  refine lv_aload_n hx hb d_sp_add_0 rfl (lv_at hl 0 rfl) ?_
  refine va_get (D := (dC, dI)) (ci := 2) (v := .ref (a 5)) (C := R_sp) (T := T_sp) (N := 4) hx hb hts hin__sp hown hK hP 1 (wC_1 a cI cZ g) rfl 0 (by decide) fl_9 (fun _ h9 => h9) rfl d_sp_add_1 ?_
  refine lv_aload_n hx hb d_sp_add_4 rfl (lv_at hl 0 rfl) ?_
  refine va_get (D := (dC, dI)) (ci := 2) (v := .int (g 1 3)) (C := R_sp) (T := T_sp) (N := 4) hx hb hts hin__sp hown hK hP 1 (wC_1 a cI cZ g) rfl 3 (by decide) fl_21 (fun _ h9 => h9) rfl d_sp_add_5 ?_
  refine lv_iload_n hx hb d_sp_add_8 rfl (lv_at hl 1 rfl) ?_
  refine va_iast hx hb hK hP hD hS 5 0 (wC_5 a cI cZ g) rfl h.1 d_sp_add_9 (fun H locs hP hD hS => ?_)
  obtain ⟨g1, e_g1⟩ : ∃ z : St, z = gp g 5 (ix (g 1 3)) x1 := ⟨_, rfl⟩
  have h := h.2 g1 e_g1
  have hP : va_P (dC, dI) zzCl (wC a cI cZ g1) H := by rw [e_g1]; exact hP
  have hD : va_D A (wC a cI cZ g1) := by rw [e_g1]; exact hD
  refine lv_aload_n hx hb d_sp_add_10 rfl (lv_at hl 0 rfl) ?_
  refine va_get (D := (dC, dI)) (ci := 2) (v := .ref (a 6)) (C := R_sp) (T := T_sp) (N := 4) hx hb hts hin__sp hown hK hP 1 (wC_1 a cI cZ g1) rfl 1 (by decide) fl_15 (fun _ h9 => h9) rfl d_sp_add_11 ?_
  refine lv_aload_n hx hb d_sp_add_14 rfl (lv_at hl 0 rfl) ?_
  refine va_get (D := (dC, dI)) (ci := 2) (v := .int (g1 1 3)) (C := R_sp) (T := T_sp) (N := 4) hx hb hts hin__sp hown hK hP 1 (wC_1 a cI cZ g1) rfl 3 (by decide) fl_21 (fun _ h9 => h9) rfl d_sp_add_15 ?_
  refine lv_iload_n hx hb d_sp_add_18 rfl (lv_at hl 2 rfl) ?_
  refine va_iast hx hb hK hP hD hS 6 0 (wC_6 a cI cZ g1) rfl h.1 d_sp_add_19 (fun H locs hP hD hS => ?_)
  obtain ⟨g2, e_g2⟩ : ∃ z : St, z = gp g1 6 (ix (g1 1 3)) x2 := ⟨_, rfl⟩
  have h := h.2 g2 e_g2
  have hP : va_P (dC, dI) zzCl (wC a cI cZ g2) H := by rw [e_g2]; exact hP
  have hD : va_D A (wC a cI cZ g2) := by rw [e_g2]; exact hD
  refine lv_aload_n hx hb d_sp_add_20 rfl (lv_at hl 0 rfl) ?_
  refine va_get (D := (dC, dI)) (ci := 2) (v := .ref (a 7)) (C := R_sp) (T := T_sp) (N := 4) hx hb hts hin__sp hown hK hP 1 (wC_1 a cI cZ g2) rfl 2 (by decide) fl_18 (fun _ h9 => h9) rfl d_sp_add_21 ?_
  refine lv_aload_n hx hb d_sp_add_24 rfl (lv_at hl 0 rfl) ?_
  refine va_get (D := (dC, dI)) (ci := 2) (v := .int (g2 1 3)) (C := R_sp) (T := T_sp) (N := 4) hx hb hts hin__sp hown hK hP 1 (wC_1 a cI cZ g2) rfl 3 (by decide) fl_21 (fun _ h9 => h9) rfl d_sp_add_25 ?_
  refine lv_iload_n hx hb d_sp_add_28 rfl (lv_at hl 3 rfl) ?_
  refine va_iast hx hb hK hP hD hS 7 0 (wC_7 a cI cZ g2) rfl h.1 d_sp_add_29 (fun H locs hP hD hS => ?_)
  obtain ⟨g3, e_g3⟩ : ∃ z : St, z = gp g2 7 (ix (g2 1 3)) x3 := ⟨_, rfl⟩
  have h := h.2 g3 e_g3
  have hP : va_P (dC, dI) zzCl (wC a cI cZ g3) H := by rw [e_g3]; exact hP
  have hD : va_D A (wC a cI cZ g3) := by rw [e_g3]; exact hD
  refine lv_aload_n hx hb d_sp_add_30 rfl (lv_at hl 0 rfl) ?_
  refine lv_dup hx hb d_sp_add_31 rfl ?_
  refine va_get (D := (dC, dI)) (ci := 2) (v := .int (g3 1 3)) (C := R_sp) (T := T_sp) (N := 4) hx hb hts hin__sp hown hK hP 1 (wC_1 a cI cZ g3) rfl 3 (by decide) fl_21 (fun _ h9 => h9) rfl d_sp_add_32 ?_
  refine lv_iconst (v := 1) hx hb d_sp_add_35 (by decide) ?_
  refine lv_iadd hx hb d_sp_add_36 ?_
  refine va_put (D := (dC, dI)) (ci := 2) (v := .int ((g3 1 3) + 1)) (ty := .int) (C := R_sp) (T := T_sp) (N := 4) hx hb hts hin__sp ty_sp tok_sp nmd_sp hown hK hP hD hS 1 (wC_1 a cI cZ g3) rfl 3 (by decide) fl_21 (fun _ h9 => h9) rfl (by decide +kernel) rfl rfl (Nat.le_of_ble_eq_true rfl) d_sp_add_37 (fun H locs hP hD hS => ?_)
  obtain ⟨g4, e_g4⟩ : ∃ z : St, z = gp g3 1 3 ((g3 1 3) + 1) := ⟨_, rfl⟩
  have h := h g4 e_g4
  have hP : va_P (dC, dI) zzCl (wC a cI cZ g4) H := by rw [e_g4]; exact hP
  have hD : va_D A (wC a cI cZ g4) := by rw [e_g4]; exact hD
  refine lv_aload_n hx hb d_sp_add_40 rfl (lv_at hl 0 rfl) ?_
  refine va_get (D := (dC, dI)) (ci := 2) (v := .int (g4 1 3)) (C := R_sp) (T := T_sp) (N := 4) hx hb hts hin__sp hown hK hP 1 (wC_1 a cI cZ g4) rfl 3 (by decide) fl_21 (fun _ h9 => h9) rfl d_sp_add_41 ?_
  refine lv_iconst (v := 1) hx hb d_sp_add_44 (by decide) ?_
  refine lv_isub hx hb d_sp_add_45 ?_
  exact W.iret (v := ((g4 1 3) - 1)) hx hb hr (fun t ht hW => ⟨⟨((g4 1 3) - 1), g4, rfl, h, by rw [ht]; exact hP, va_K.moved hW.alike hK, hD⟩, hS.F ht⟩) hS.2.2 d_sp_add_46
abbrev rm_sp_crossingOf_5 : Room := { frames := 1, cells := 0, slots := 0, locals := 22 }
set_option maxHeartbeats 4000000 in
set_option maxRecDepth 100000 in
theorem mc_sp_crossingOf_5 (l : Launch) (dC : Nat → ClassId) (dI : Nat → Nat → Nat) (a : Nat → Nat) (cI cZ : ClassId) (sz : Nat) (x2 : Int32) (x3 : Int32) (g : St) (post : Int32 → St → Prop) (h : wp_sp_crossingOf_5 x2 x3 g post) : Met l yy_sp_crossingOf ww_sp_crossingOf rm_sp_crossingOf_5 (zz_Pre (dC, dI) (wC a cI cZ) [(cI, .int), (cZ, .boolean)] [.ref (a 1), .ref (a 5), .int x2, .int x3] g sz) (va_Qi post (zz_W (dC, dI) (wC a cI cZ) [(cI, .int), (cZ, .boolean)] (va_A (wC a cI cZ g) sz)) (va_A (wC a cI cZ g) sz)) 0 0 (va_A (wC a cI cZ g) sz) := by
  refine Met.ofW (cc := cc_sp_crossingOf) (maxL := 8) (ret := (some .int)) (by decide) rfl ?_
  intro p e s m args below meth c s₁ B hml hv
  obtain ⟨hav, hsz, hP, hK, hD0, hN⟩ := hv
  have hx := B.exec
  have hb := B.bytes
  have hr := B.returns
  have hts := atoms_spec (ws := ww_sp_crossingOf) B.pre
  have hown : s.vm.findClass "SpotContours$Spots" = some m.cls := findClass_of_methodNamed B.named
  have hlocks := B.notSynchronized
  subst hsz
  have hD := hD0.self (sz := s.heap.size)
  generalize hAe : va_A (wC a cI cZ g) s.heap.size = A at hD ⊢
  have hA : ∀ q : Nat, s.heap.size ≤ q → A q := fun q h => by rw [← hAe]; exact Or.inr h
  have hS : va_S A s.heap s.heap [] := va_S.rf
  have he9 := lg_entry_eq m [.ref (a 1), .ref (a 5), .int x2, .int x3] 8
  rw [← hav] at he9
  rw [he9]
  have hl := lv_entry [.ref (a 1), .ref (a 5), .int x2, .int x3] (n := 8) (Nat.le_of_ble_eq_true rfl)
  generalize (lg_sl [.ref (a 1), .ref (a 5), .int x2, .int x3] ++ List.replicate (8 - (lg_sl [.ref (a 1), .ref (a 5), .int x2, .int x3]).length) Slot.unset).toArray = ls at hl ⊢
  have hl : lv_has ls 8 [(0, .ref (a 1)), (1, .ref (a 5)), (2, .int x2), (3, .int x3)] := hl
  have hin__sp : ∀ w ∈ u_ws R_sp T_sp 4, w ∈ ww_sp_crossingOf := fun w h => zz_in (hin0_sp w h)
  have fl_18 := hts (.fieldLink "SpotContours$Spots" 18 "SpotContours$Spots" "heights" "[I") (zz_in wm_364)
  unfold wp_sp_crossingOf_5 at h
  refine lv_iload_n hx hb d_sp_crossingOf_0 rfl (lv_at hl 2 rfl) ?_
  refine zz_ci (va_runSN (As := [.int x2]) (rest := []) ⟨hx, hb, hml, hown, hts⟩ (mc_sc_highOf l dC dI a cI cZ _ x2 g _ h) (zz_cwSN 1 hts (zz_good wm_16) rfl rfl rfl hN.1.2.2.1 wm_17 wm_10 (by decide +kernel) ⟨Nat.le_of_ble_eq_true rfl, Nat.le_of_ble_eq_true rfl⟩) ⟨zz_blind, zz_pre hP hK hD hN⟩ rfl rfl hl.1 rfl (lv_room (Nat.le_of_ble_eq_true rfl)) d_sp_crossingOf_1 ⟨Nat.le_of_ble_eq_true rfl, Nat.le_of_ble_eq_true rfl⟩) hD hS hA (fun r2 g1 H locs h hP hD hS => ?_)
  refine lv_istore (lv' := [(4, .int r2), (0, .ref (a 1)), (1, .ref (a 5)), (2, .int x2), (3, .int x3)]) hx hb d_sp_crossingOf_4 hl (by decide) rfl (fun ls hl => ?_)
  refine lv_iload_n hx hb d_sp_crossingOf_6 rfl (lv_at hl 3 rfl) ?_
  refine zz_ci (va_runSN (As := [.int x2]) (rest := []) ⟨hx, hb, hml, hown, hts⟩ (mc_sc_lowOf l dC dI a cI cZ _ x2 g1 _ h) (zz_cwSN 1 hts (zz_good wm_9) rfl rfl rfl hN.1.2.2.2 wm_11 wm_10 (by decide +kernel) ⟨Nat.le_of_ble_eq_true rfl, Nat.le_of_ble_eq_true rfl⟩) ⟨zz_blind, zz_pre hP hK hD hN⟩ rfl rfl hl.1 rfl (lv_room (Nat.le_of_ble_eq_true rfl)) d_sp_crossingOf_7 ⟨Nat.le_of_ble_eq_true rfl, Nat.le_of_ble_eq_true rfl⟩) hD hS hA (fun r4 g3 H locs h hP hD hS => ?_)
  refine lv_istore (lv' := [(5, .int r4), (4, .int r2), (0, .ref (a 1)), (1, .ref (a 5)), (2, .int x2), (3, .int x3)]) hx hb d_sp_crossingOf_10 hl (by decide) rfl (fun ls hl => ?_)
  refine lv_aload_n hx hb d_sp_crossingOf_12 rfl (lv_at hl 2 rfl) ?_
  refine va_get (D := (dC, dI)) (ci := 2) (v := .ref (a 7)) (C := R_sp) (T := T_sp) (N := 4) hx hb hts hin__sp hown hK hP 1 (wC_1 a cI cZ g3) rfl 2 (by decide) fl_18 (fun _ h9 => h9) rfl d_sp_crossingOf_13 ?_
  refine lv_iload hx hb d_sp_crossingOf_16 (lv_at hl 1 rfl) ?_
  refine va_iald hx hb hK hP 7 0 (wC_7 a cI cZ g3) rfl h.1 d_sp_crossingOf_18 ?_
  have h := h.2
  refine lv_aload_n hx hb d_sp_crossingOf_19 rfl (lv_at hl 2 rfl) ?_
  refine va_get (D := (dC, dI)) (ci := 2) (v := .ref (a 7)) (C := R_sp) (T := T_sp) (N := 4) hx hb hts hin__sp hown hK hP 1 (wC_1 a cI cZ g3) rfl 2 (by decide) fl_18 (fun _ h9 => h9) rfl d_sp_crossingOf_20 ?_
  refine lv_iload hx hb d_sp_crossingOf_23 (lv_at hl 0 rfl) ?_
  refine va_iald hx hb hK hP 7 0 (wC_7 a cI cZ g3) rfl h.1 d_sp_crossingOf_25 ?_
  have h := h.2
  refine lv_isub hx hb d_sp_crossingOf_26 ?_
  refine lv_istore (lv' := [(6, .int ((g3 7 (ix r2)) - (g3 7 (ix r4)))), (5, .int r4), (4, .int r2), (0, .ref (a 1)), (1, .ref (a 5)), (2, .int x2), (3, .int x3)]) hx hb d_sp_crossingOf_27 hl (by decide) rfl (fun ls hl => ?_)
  refine lv_iload hx hb d_sp_crossingOf_29 (lv_at hl 0 rfl) ?_
  refine lv_if_gt (tgt := 39) hx hb d_sp_crossingOf_31 (by decide) (fun hc => ?_) (fun hc => ?_)
  · have h := h.1 hc
    refine lv_aload_n hx hb d_sp_crossingOf_39 rfl (lv_at hl 4 rfl) ?_
    refine lv_iload hx hb d_sp_crossingOf_40 (lv_at hl 2 rfl) ?_
    refine va_iald hx hb hK hP 5 0 (wC_5 a cI cZ g3) rfl h.1 d_sp_crossingOf_42 ?_
    have h := h.2
    refine lv_aload_n hx hb d_sp_crossingOf_43 rfl (lv_at hl 4 rfl) ?_
    refine lv_iload hx hb d_sp_crossingOf_44 (lv_at hl 1 rfl) ?_
    refine va_iald hx hb hK hP 5 0 (wC_5 a cI cZ g3) rfl h.1 d_sp_crossingOf_46 ?_
    have h := h.2
    refine lv_isub hx hb d_sp_crossingOf_47 ?_
    refine lv_iconst (v := 2) hx hb d_sp_crossingOf_48 (by decide) ?_
    refine lv_iload_n hx hb d_sp_crossingOf_49 rfl (lv_at hl 6 rfl) ?_
    refine lv_imul hx hb d_sp_crossingOf_50 ?_
    refine lv_iconst (v := 1) hx hb d_sp_crossingOf_51 (by decide) ?_
    refine lv_iadd hx hb d_sp_crossingOf_52 ?_
    refine lv_iconst (v := 2) hx hb d_sp_crossingOf_53 (by decide) ?_
    refine lv_aload_n hx hb d_sp_crossingOf_54 rfl (lv_at hl 3 rfl) ?_
    refine va_get (D := (dC, dI)) (ci := 2) (v := .ref (a 7)) (C := R_sp) (T := T_sp) (N := 4) hx hb hts hin__sp hown hK hP 1 (wC_1 a cI cZ g3) rfl 2 (by decide) fl_18 (fun _ h9 => h9) rfl d_sp_crossingOf_55 ?_
    refine lv_iload hx hb d_sp_crossingOf_58 (lv_at hl 1 rfl) ?_
    refine va_iald hx hb hK hP 7 0 (wC_7 a cI cZ g3) rfl h.1 d_sp_crossingOf_60 ?_
    have h := h.2
    refine lv_imul hx hb d_sp_crossingOf_61 ?_
    refine lv_isub hx hb d_sp_crossingOf_62 ?_
    refine lv_imul hx hb d_sp_crossingOf_63 ?_
    refine lv_istore (lv' := [(7, .int (((g3 5 (ix r2)) - (g3 5 (ix r4))) * (((2 * x3) + 1) - (2 * (g3 7 (ix r4)))))), (6, .int ((g3 7 (ix r2)) - (g3 7 (ix r4)))), (5, .int r4), (4, .int r2), (0, .ref (a 1)), (1, .ref (a 5)), (2, .int x2), (3, .int x3)]) hx hb d_sp_crossingOf_64 hl (by decide) rfl (fun ls hl => ?_)
    refine lv_aload_n hx hb d_sp_crossingOf_66 rfl (lv_at hl 5 rfl) ?_
    refine lv_iload hx hb d_sp_crossingOf_67 (lv_at hl 2 rfl) ?_
    refine va_iald hx hb hK hP 5 0 (wC_5 a cI cZ g3) rfl h.1 d_sp_crossingOf_69 ?_
    have h := h.2
    refine lv_iload hx hb d_sp_crossingOf_70 (lv_at hl 0 rfl) ?_
    refine lv_iconst (v := 2) hx hb d_sp_crossingOf_72 (by decide) ?_
    refine lv_iload hx hb d_sp_crossingOf_73 (lv_at hl 1 rfl) ?_
    refine lv_imul hx hb d_sp_crossingOf_75 ?_
    refine zz_ci (va_runS (As := [.int (((g3 5 (ix r2)) - (g3 5 (ix r4))) * (((2 * x3) + 1) - (2 * (g3 7 (ix r4))))), .int (2 * ((g3 7 (ix r2)) - (g3 7 (ix r4))))]) (rest := [.int (g3 5 (ix r4))]) ⟨hx, hb, hml, hown, hts⟩ (mc_floorDiv l dC dI a cI cZ _ (((g3 5 (ix r2)) - (g3 5 (ix r4))) * (((2 * x3) + 1) - (2 * (g3 7 (ix r4))))) (2 * ((g3 7 (ix r2)) - (g3 7 (ix r4)))) g3 _ h) (zz_cwS 2 hts (zz_good wm_105) rfl rfl rfl wm_119 wm_108 wm_106 (by decide +kernel) ⟨Nat.le_of_ble_eq_true rfl, Nat.le_of_ble_eq_true rfl⟩) ⟨zz_blind, zz_pre hP hK hD hN⟩ rfl rfl hl.1 rfl (lv_room (Nat.le_of_ble_eq_true rfl)) d_sp_crossingOf_76 ⟨Nat.le_of_ble_eq_true rfl, Nat.le_of_ble_eq_true rfl⟩) hD hS hA (fun r6 g5 H locs h hP hD hS => ?_)
    refine lv_iadd hx hb d_sp_crossingOf_79 ?_
    exact W.iret (v := ((g3 5 (ix r4)) + r6)) hx hb hr (fun t ht hW => ⟨⟨((g3 5 (ix r4)) + r6), g5, rfl, h, by rw [ht]; exact hP, va_K.moved hW.alike hK, hD⟩, hS.F ht⟩) hS.2.2 d_sp_crossingOf_80
  · have h := h.2 hc
    refine lv_aload_n hx hb d_sp_crossingOf_34 rfl (lv_at hl 4 rfl) ?_
    refine lv_iload hx hb d_sp_crossingOf_35 (lv_at hl 1 rfl) ?_
    refine va_iald hx hb hK hP 5 0 (wC_5 a cI cZ g3) rfl h.1 d_sp_crossingOf_37 ?_
    have h := h.2
    exact W.iret (v := (g3 5 (ix r4))) hx hb hr (fun t ht hW => ⟨⟨(g3 5 (ix r4)), g3, rfl, h, by rw [ht]; exact hP, va_K.moved hW.alike hK, hD⟩, hS.F ht⟩) hS.2.2 d_sp_crossingOf_38
abbrev rm_sp_crossingOf_6 : Room := { frames := 1, cells := 0, slots := 0, locals := 22 }
set_option maxHeartbeats 4000000 in
set_option maxRecDepth 100000 in
theorem mc_sp_crossingOf_6 (l : Launch) (dC : Nat → ClassId) (dI : Nat → Nat → Nat) (a : Nat → Nat) (cI cZ : ClassId) (sz : Nat) (x2 : Int32) (x3 : Int32) (g : St) (post : Int32 → St → Prop) (h : wp_sp_crossingOf_6 x2 x3 g post) : Met l yy_sp_crossingOf ww_sp_crossingOf rm_sp_crossingOf_6 (zz_Pre (dC, dI) (wC a cI cZ) [(cI, .int), (cZ, .boolean)] [.ref (a 1), .ref (a 6), .int x2, .int x3] g sz) (va_Qi post (zz_W (dC, dI) (wC a cI cZ) [(cI, .int), (cZ, .boolean)] (va_A (wC a cI cZ g) sz)) (va_A (wC a cI cZ g) sz)) 0 0 (va_A (wC a cI cZ g) sz) := by
  refine Met.ofW (cc := cc_sp_crossingOf) (maxL := 8) (ret := (some .int)) (by decide) rfl ?_
  intro p e s m args below meth c s₁ B hml hv
  obtain ⟨hav, hsz, hP, hK, hD0, hN⟩ := hv
  have hx := B.exec
  have hb := B.bytes
  have hr := B.returns
  have hts := atoms_spec (ws := ww_sp_crossingOf) B.pre
  have hown : s.vm.findClass "SpotContours$Spots" = some m.cls := findClass_of_methodNamed B.named
  have hlocks := B.notSynchronized
  subst hsz
  have hD := hD0.self (sz := s.heap.size)
  generalize hAe : va_A (wC a cI cZ g) s.heap.size = A at hD ⊢
  have hA : ∀ q : Nat, s.heap.size ≤ q → A q := fun q h => by rw [← hAe]; exact Or.inr h
  have hS : va_S A s.heap s.heap [] := va_S.rf
  have he9 := lg_entry_eq m [.ref (a 1), .ref (a 6), .int x2, .int x3] 8
  rw [← hav] at he9
  rw [he9]
  have hl := lv_entry [.ref (a 1), .ref (a 6), .int x2, .int x3] (n := 8) (Nat.le_of_ble_eq_true rfl)
  generalize (lg_sl [.ref (a 1), .ref (a 6), .int x2, .int x3] ++ List.replicate (8 - (lg_sl [.ref (a 1), .ref (a 6), .int x2, .int x3]).length) Slot.unset).toArray = ls at hl ⊢
  have hl : lv_has ls 8 [(0, .ref (a 1)), (1, .ref (a 6)), (2, .int x2), (3, .int x3)] := hl
  have hin__sp : ∀ w ∈ u_ws R_sp T_sp 4, w ∈ ww_sp_crossingOf := fun w h => zz_in (hin0_sp w h)
  have fl_18 := hts (.fieldLink "SpotContours$Spots" 18 "SpotContours$Spots" "heights" "[I") (zz_in wm_364)
  unfold wp_sp_crossingOf_6 at h
  refine lv_iload_n hx hb d_sp_crossingOf_0 rfl (lv_at hl 2 rfl) ?_
  refine zz_ci (va_runSN (As := [.int x2]) (rest := []) ⟨hx, hb, hml, hown, hts⟩ (mc_sc_highOf l dC dI a cI cZ _ x2 g _ h) (zz_cwSN 1 hts (zz_good wm_16) rfl rfl rfl hN.1.2.2.1 wm_17 wm_10 (by decide +kernel) ⟨Nat.le_of_ble_eq_true rfl, Nat.le_of_ble_eq_true rfl⟩) ⟨zz_blind, zz_pre hP hK hD hN⟩ rfl rfl hl.1 rfl (lv_room (Nat.le_of_ble_eq_true rfl)) d_sp_crossingOf_1 ⟨Nat.le_of_ble_eq_true rfl, Nat.le_of_ble_eq_true rfl⟩) hD hS hA (fun r2 g1 H locs h hP hD hS => ?_)
  refine lv_istore (lv' := [(4, .int r2), (0, .ref (a 1)), (1, .ref (a 6)), (2, .int x2), (3, .int x3)]) hx hb d_sp_crossingOf_4 hl (by decide) rfl (fun ls hl => ?_)
  refine lv_iload_n hx hb d_sp_crossingOf_6 rfl (lv_at hl 3 rfl) ?_
  refine zz_ci (va_runSN (As := [.int x2]) (rest := []) ⟨hx, hb, hml, hown, hts⟩ (mc_sc_lowOf l dC dI a cI cZ _ x2 g1 _ h) (zz_cwSN 1 hts (zz_good wm_9) rfl rfl rfl hN.1.2.2.2 wm_11 wm_10 (by decide +kernel) ⟨Nat.le_of_ble_eq_true rfl, Nat.le_of_ble_eq_true rfl⟩) ⟨zz_blind, zz_pre hP hK hD hN⟩ rfl rfl hl.1 rfl (lv_room (Nat.le_of_ble_eq_true rfl)) d_sp_crossingOf_7 ⟨Nat.le_of_ble_eq_true rfl, Nat.le_of_ble_eq_true rfl⟩) hD hS hA (fun r4 g3 H locs h hP hD hS => ?_)
  refine lv_istore (lv' := [(5, .int r4), (4, .int r2), (0, .ref (a 1)), (1, .ref (a 6)), (2, .int x2), (3, .int x3)]) hx hb d_sp_crossingOf_10 hl (by decide) rfl (fun ls hl => ?_)
  refine lv_aload_n hx hb d_sp_crossingOf_12 rfl (lv_at hl 2 rfl) ?_
  refine va_get (D := (dC, dI)) (ci := 2) (v := .ref (a 7)) (C := R_sp) (T := T_sp) (N := 4) hx hb hts hin__sp hown hK hP 1 (wC_1 a cI cZ g3) rfl 2 (by decide) fl_18 (fun _ h9 => h9) rfl d_sp_crossingOf_13 ?_
  refine lv_iload hx hb d_sp_crossingOf_16 (lv_at hl 1 rfl) ?_
  refine va_iald hx hb hK hP 7 0 (wC_7 a cI cZ g3) rfl h.1 d_sp_crossingOf_18 ?_
  have h := h.2
  refine lv_aload_n hx hb d_sp_crossingOf_19 rfl (lv_at hl 2 rfl) ?_
  refine va_get (D := (dC, dI)) (ci := 2) (v := .ref (a 7)) (C := R_sp) (T := T_sp) (N := 4) hx hb hts hin__sp hown hK hP 1 (wC_1 a cI cZ g3) rfl 2 (by decide) fl_18 (fun _ h9 => h9) rfl d_sp_crossingOf_20 ?_
  refine lv_iload hx hb d_sp_crossingOf_23 (lv_at hl 0 rfl) ?_
  refine va_iald hx hb hK hP 7 0 (wC_7 a cI cZ g3) rfl h.1 d_sp_crossingOf_25 ?_
  have h := h.2
  refine lv_isub hx hb d_sp_crossingOf_26 ?_
  refine lv_istore (lv' := [(6, .int ((g3 7 (ix r2)) - (g3 7 (ix r4)))), (5, .int r4), (4, .int r2), (0, .ref (a 1)), (1, .ref (a 6)), (2, .int x2), (3, .int x3)]) hx hb d_sp_crossingOf_27 hl (by decide) rfl (fun ls hl => ?_)
  refine lv_iload hx hb d_sp_crossingOf_29 (lv_at hl 0 rfl) ?_
  refine lv_if_gt (tgt := 39) hx hb d_sp_crossingOf_31 (by decide) (fun hc => ?_) (fun hc => ?_)
  · have h := h.1 hc
    refine lv_aload_n hx hb d_sp_crossingOf_39 rfl (lv_at hl 4 rfl) ?_
    refine lv_iload hx hb d_sp_crossingOf_40 (lv_at hl 2 rfl) ?_
    refine va_iald hx hb hK hP 6 0 (wC_6 a cI cZ g3) rfl h.1 d_sp_crossingOf_42 ?_
    have h := h.2
    refine lv_aload_n hx hb d_sp_crossingOf_43 rfl (lv_at hl 4 rfl) ?_
    refine lv_iload hx hb d_sp_crossingOf_44 (lv_at hl 1 rfl) ?_
    refine va_iald hx hb hK hP 6 0 (wC_6 a cI cZ g3) rfl h.1 d_sp_crossingOf_46 ?_
    have h := h.2
    refine lv_isub hx hb d_sp_crossingOf_47 ?_
    refine lv_iconst (v := 2) hx hb d_sp_crossingOf_48 (by decide) ?_
    refine lv_iload_n hx hb d_sp_crossingOf_49 rfl (lv_at hl 6 rfl) ?_
    refine lv_imul hx hb d_sp_crossingOf_50 ?_
    refine lv_iconst (v := 1) hx hb d_sp_crossingOf_51 (by decide) ?_
    refine lv_iadd hx hb d_sp_crossingOf_52 ?_
    refine lv_iconst (v := 2) hx hb d_sp_crossingOf_53 (by decide) ?_
    refine lv_aload_n hx hb d_sp_crossingOf_54 rfl (lv_at hl 3 rfl) ?_
    refine va_get (D := (dC, dI)) (ci := 2) (v := .ref (a 7)) (C := R_sp) (T := T_sp) (N := 4) hx hb hts hin__sp hown hK hP 1 (wC_1 a cI cZ g3) rfl 2 (by decide) fl_18 (fun _ h9 => h9) rfl d_sp_crossingOf_55 ?_
    refine lv_iload hx hb d_sp_crossingOf_58 (lv_at hl 1 rfl) ?_
    refine va_iald hx hb hK hP 7 0 (wC_7 a cI cZ g3) rfl h.1 d_sp_crossingOf_60 ?_
    have h := h.2
    refine lv_imul hx hb d_sp_crossingOf_61 ?_
    refine lv_isub hx hb d_sp_crossingOf_62 ?_
    refine lv_imul hx hb d_sp_crossingOf_63 ?_
    refine lv_istore (lv' := [(7, .int (((g3 6 (ix r2)) - (g3 6 (ix r4))) * (((2 * x3) + 1) - (2 * (g3 7 (ix r4)))))), (6, .int ((g3 7 (ix r2)) - (g3 7 (ix r4)))), (5, .int r4), (4, .int r2), (0, .ref (a 1)), (1, .ref (a 6)), (2, .int x2), (3, .int x3)]) hx hb d_sp_crossingOf_64 hl (by decide) rfl (fun ls hl => ?_)
    refine lv_aload_n hx hb d_sp_crossingOf_66 rfl (lv_at hl 5 rfl) ?_
    refine lv_iload hx hb d_sp_crossingOf_67 (lv_at hl 2 rfl) ?_
    refine va_iald hx hb hK hP 6 0 (wC_6 a cI cZ g3) rfl h.1 d_sp_crossingOf_69 ?_
    have h := h.2
    refine lv_iload hx hb d_sp_crossingOf_70 (lv_at hl 0 rfl) ?_
    refine lv_iconst (v := 2) hx hb d_sp_crossingOf_72 (by decide) ?_
    refine lv_iload hx hb d_sp_crossingOf_73 (lv_at hl 1 rfl) ?_
    refine lv_imul hx hb d_sp_crossingOf_75 ?_
    refine zz_ci (va_runS (As := [.int (((g3 6 (ix r2)) - (g3 6 (ix r4))) * (((2 * x3) + 1) - (2 * (g3 7 (ix r4))))), .int (2 * ((g3 7 (ix r2)) - (g3 7 (ix r4))))]) (rest := [.int (g3 6 (ix r4))]) ⟨hx, hb, hml, hown, hts⟩ (mc_floorDiv l dC dI a cI cZ _ (((g3 6 (ix r2)) - (g3 6 (ix r4))) * (((2 * x3) + 1) - (2 * (g3 7 (ix r4))))) (2 * ((g3 7 (ix r2)) - (g3 7 (ix r4)))) g3 _ h) (zz_cwS 2 hts (zz_good wm_105) rfl rfl rfl wm_119 wm_108 wm_106 (by decide +kernel) ⟨Nat.le_of_ble_eq_true rfl, Nat.le_of_ble_eq_true rfl⟩) ⟨zz_blind, zz_pre hP hK hD hN⟩ rfl rfl hl.1 rfl (lv_room (Nat.le_of_ble_eq_true rfl)) d_sp_crossingOf_76 ⟨Nat.le_of_ble_eq_true rfl, Nat.le_of_ble_eq_true rfl⟩) hD hS hA (fun r6 g5 H locs h hP hD hS => ?_)
    refine lv_iadd hx hb d_sp_crossingOf_79 ?_
    exact W.iret (v := ((g3 6 (ix r4)) + r6)) hx hb hr (fun t ht hW => ⟨⟨((g3 6 (ix r4)) + r6), g5, rfl, h, by rw [ht]; exact hP, va_K.moved hW.alike hK, hD⟩, hS.F ht⟩) hS.2.2 d_sp_crossingOf_80
  · have h := h.2 hc
    refine lv_aload_n hx hb d_sp_crossingOf_34 rfl (lv_at hl 4 rfl) ?_
    refine lv_iload hx hb d_sp_crossingOf_35 (lv_at hl 1 rfl) ?_
    refine va_iald hx hb hK hP 6 0 (wC_6 a cI cZ g3) rfl h.1 d_sp_crossingOf_37 ?_
    have h := h.2
    exact W.iret (v := (g3 6 (ix r4))) hx hb hr (fun t ht hW => ⟨⟨(g3 6 (ix r4)), g3, rfl, h, by rw [ht]; exact hP, va_K.moved hW.alike hK, hD⟩, hS.F ht⟩) hS.2.2 d_sp_crossingOf_38
