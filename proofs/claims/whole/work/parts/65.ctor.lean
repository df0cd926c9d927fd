/-! The constructors, printed. -/
abbrev kc_0 : St := fun _ _ => 0
section
variable {p : Program} {l : Launch} {e : Env} {R : Room} {s : State} {m : MethodId} {args : Array Value} {below : List Frame} {meth : Method} {c : Code} {H H0 : Heap} {locs : List Loc} {cells slots : Nat} {Q : State → Prop}
variable {pc : Nat} {ls : Array Slot} {rest : List Value} {A : Nat → Prop} {D : va_G} {cl : List vw_C} {ws : va_W} {tys : List (ClassId × FieldType)} {cc : ByteArray}
/-- a new array of a class that is known -/
theorem zz_newt (hexec : p.tables.exec = Jvm.exec) (hb : c.code = cc) {atype : ArrayType} (harr : (Cond.arrayClass (newarray.typeOf atype)).before args s = true) {ty : FieldType} (hty : newarray.typeOf atype = ty) (hK : va_K D cl tys s) (hP : va_P D cl ws H) (hD : va_D A ws) (hS : va_S A H0 H locs) (hA : ∀ q, H0.size ≤ q → A q)
    (t0 : Nat) {cA : ClassId} (ht : tys[t0]? = some (cA, ty)) (hra : ∀ cB, va_RA s cB ty → s.vm.findClass ("[" ++ ty.toString) = some cB)
    {n : Int32} {N' : Nat} {a0 : vp_A} (ha : ∀ cA : ClassId, vp_cell cA a0 = arrV cA N' (fun _ => defaultValue ty)) (hn : ¬ n < 0) (hN : n.toNatClampNeg = N') (hbytes : N' * componentBytes ty ≤ 536870912) (hcells : cells + 1 ≤ R.cells) (hslots : slots + N' ≤ R.slots) (hdg : decode cc pc = .ok (.newarray atype, 2))
    (kk : ∀ (q : Nat) (H1 : Heap), va_P D cl (ws ++ [(q, .inl (cA, a0))]) H1 → va_D A (ws ++ [(q, .inl (cA, a0))]) → va_S A H0 H1 locs → W p l e R s m args below meth c H1 locs (cells + 1) (slots + N') Q (F0 m (pc + 2) ls (.ref q :: rest))) : W p l e R s m args below meth c H locs cells slots Q (F0 m pc ls (.int n :: rest)) := by
  refine va_newa hexec hb harr hty hK hP hD hS hA ha hn hN hbytes hcells hslots hdg (fun q cB H1 hK1 hP1 hD1 hS1 => ?_)
  have e1 := hra cA (hK.2 t0 _ ht).2
  have e2 := hra cB (hK1.2 tys.length (cB, ty) (by rw [List.getElem?_append_right (Nat.le_refl _), Nat.sub_self]; rfl)).2
  have e3 : cB = cA := Option.some.inj (e2.symm.trans e1)
  subst e3
  exact kk q H1 hP1 hD1 hS1
end
def wE (a : Nat → Nat) (cI cZ : ClassId) (g : St) : va_W := [(a 2, .inr (1, [.ref (a 8), .ref (a 9), .int (g 2 2)])), (a 8, .inl (cI, 81, .inl (g 8))), (a 9, .inl (cI, 256, .inl (g 9)))]
theorem wE_0 (a : Nat → Nat) (cI cZ : ClassId) (g : St) : (wE a cI cZ g)[0]? = some (a 2, .inr (1, [.ref (a 8), .ref (a 9), .int (g 2 2)])) := rfl
theorem wE_2 (a : Nat → Nat) (cI cZ : ClassId) (g : St) : (wE a cI cZ g)[2]? = some (a 9, .inl (cI, 256, .inl (g 9))) := rfl
set_option maxHeartbeats 4000000 in
set_option maxRecDepth 100000 in
theorem mE_me_clear (l : Launch) (dC : Nat → ClassId) (dI : Nat → Nat → Nat) (a : Nat → Nat) (cI cZ : ClassId) (sz : Nat) (g : St) (post : St → Prop) (h : wp_me_clear  g post) : Met l yy_me_clear ww_me_clear rm_me_clear (zz_Pre (dC, dI) (wE a cI cZ) [(cI, .int), (cZ, .boolean)] [.ref (a 2)] g sz) (va_Qv post (zz_W (dC, dI) (wE a cI cZ) [(cI, .int), (cZ, .boolean)] (va_A (wE a cI cZ g) sz)) (va_A (wE a cI cZ g) sz)) 0 0 (va_A (wE a cI cZ g) sz) := by
  refine Met.ofW (cc := cc_me_clear) (maxL := 2) (ret := none) (by decide) rfl ?_
  intro p e s m args below meth c s₁ B hml hv
  obtain ⟨hav, hsz, hP, hK, hD0, hN⟩ := hv
  have hx := B.exec
  have hb := B.bytes
  have hr := B.returns
  have hts := atoms_spec (ws := ww_me_clear) B.pre
  have hown : s.vm.findClass "SpotContours$Mesh" = some m.cls := findClass_of_methodNamed B.named
  have hlocks := B.notSynchronized
  subst hsz
  have hD := hD0.self (sz := s.heap.size)
  generalize hAe : va_A (wE a cI cZ g) s.heap.size = A at hD ⊢
  have hA : ∀ q : Nat, s.heap.size ≤ q → A q := fun q h => by rw [← hAe]; exact Or.inr h
  have hS : va_S A s.heap s.heap [] := va_S.rf
  have he9 := lg_entry_eq m [.ref (a 2)] 2
  rw [← hav] at he9
  rw [he9]
  have hl := lv_entry [.ref (a 2)] (n := 2) (Nat.le_of_ble_eq_true rfl)
  generalize (lg_sl [.ref (a 2)] ++ List.replicate (2 - (lg_sl [.ref (a 2)]).length) Slot.unset).toArray = ls at hl ⊢
  have hl : lv_has ls 2 [(0, .ref (a 2))] := hl
  have hin__me : ∀ w ∈ u_ws R_me T_me 3, w ∈ ww_me_clear := fun w h => zz_in (hin0_me w h)
  have fl_15 := hts (.fieldLink "SpotContours$Mesh" 15 "SpotContours$Mesh" "rightOf" "[I") (zz_in wm_365)
  have fl_21 := hts (.fieldLink "SpotContours$Mesh" 21 "SpotContours$Mesh" "count" "I") (zz_in wm_366)
  have L7 : ∀ (n : Nat) (v1 : Int32) (g : St) (K27 : St → Prop) , (∀ (g : St), K27 g → ∀ (H : Heap) (locs : List Loc) (ls : Array Slot), va_P (dC, dI) zzCl (wE a cI cZ g) H → va_D A (wE a cI cZ g) → va_S A s.heap H locs → lv_has ls 2 [] → W p l e (headSpec ww_me_clear rm_me_clear).room s m args below meth c H locs 0 0 (zz_Qv below (dC, dI) (wE a cI cZ) [(cI, .int), (cZ, .boolean)] A post args s) (F0 m 27 ls [])) → lp_me_clear_L7 n v1 g K27 post → ∀ (H : Heap) (locs : List Loc) (ls : Array Slot), va_P (dC, dI) zzCl (wE a cI cZ g) H → va_D A (wE a cI cZ g) → va_S A s.heap H locs → lv_has ls 2 [(0, .ref (a 2)), (1, .int v1)] → W p l e (headSpec ww_me_clear rm_me_clear).room s m args below meth c H locs 0 0 (zz_Qv below (dC, dI) (wE a cI cZ) [(cI, .int), (cZ, .boolean)] A post args s) (F0 m 7 ls []) := by
    intro n
    induction n with
    | zero => intro v1 g K27 hK27 h; exact h.elim
    | succ n ih =>
      intro v1 g K27 hK27 h H locs ls hP hD hS hl
      unfold lp_me_clear_L7 at h
      refine lv_iload_n hx hb d_me_clear_7 rfl (lv_at hl 1 rfl) ?_
      refine lv_sipush (v := 256) hx hb d_me_clear_8 (by decide) ?_
      refine lv_icmp_ge (tgt := 27) hx hb d_me_clear_11 (by decide) (fun hc => ?_) (fun hc => ?_)
      · have h := h.1 hc
        exact hK27 _ h _ _ _ hP hD hS (lv_sub hl [] rfl)
      · have h := h.2 hc
        refine lv_aload_n hx hb d_me_clear_14 rfl (lv_at hl 0 rfl) ?_
        refine va_get (D := (dC, dI)) (ci := 1) (v := .ref (a 9)) (C := R_me) (T := T_me) (N := 3) hx hb hts hin__me hown hK hP 0 (wE_0 a cI cZ g) rfl 1 (by decide) fl_15 (fun _ h9 => h9) rfl d_me_clear_15 ?_
        refine lv_iload_n hx hb d_me_clear_18 rfl (lv_at hl 1 rfl) ?_
        refine lv_iconst (v := (-1)) hx hb d_me_clear_19 (by decide) ?_
        refine va_iast hx hb hK hP hD hS 2 0 (wE_2 a cI cZ g) rfl h.1 d_me_clear_20 (fun H locs hP hD hS => ?_)
        obtain ⟨g2, e_g2⟩ : ∃ z : St, z = gp g 9 (ix v1) (-1) := ⟨_, rfl⟩
        have h := h.2 g2 e_g2
        have hP : va_P (dC, dI) zzCl (wE a cI cZ g2) H := by rw [e_g2]; exact hP
        have hD : va_D A (wE a cI cZ g2) := by rw [e_g2]; exact hD
        refine lv_iinc (k := 1) (v := (v1 + 1)) (lv' := [(1, .int (v1 + 1)), (0, .ref (a 2))]) hx hb d_me_clear_21 hl rfl rfl (by decide) rfl (fun ls hl => ?_)
        refine lv_goto (tgt := 7) hx hb d_me_clear_24 (by decide) ?_
        exact ih _ _ _ hK27 h _ _ _ hP hD hS (lv_sub hl [1, 0] rfl)
  unfold wp_me_clear at h
  refine lv_aload_n hx hb d_me_clear_0 rfl (lv_at hl 0 rfl) ?_
  refine lv_iconst (v := 0) hx hb d_me_clear_1 (by decide) ?_
  refine va_put (D := (dC, dI)) (ci := 1) (v := .int 0) (ty := .int) (C := R_me) (T := T_me) (N := 3) hx hb hts hin__me ty_me tok_me nmd_me hown hK hP hD hS 0 (wE_0 a cI cZ g) rfl 2 (by decide) fl_21 (fun _ h9 => h9) rfl (by decide +kernel) rfl rfl (Nat.le_of_ble_eq_true rfl) d_me_clear_2 (fun H locs hP hD hS => ?_)
  obtain ⟨g1, e_g1⟩ : ∃ z : St, z = gp g 2 2 0 := ⟨_, rfl⟩
  have h := h g1 e_g1
  have hP : va_P (dC, dI) zzCl (wE a cI cZ g1) H := by rw [e_g1]; exact hP
  have hD : va_D A (wE a cI cZ g1) := by rw [e_g1]; exact hD
  refine lv_iconst (v := 0) hx hb d_me_clear_5 (by decide) ?_
  refine lv_istore_n (lv' := [(1, .int 0), (0, .ref (a 2))]) hx hb d_me_clear_6 rfl hl (by decide) rfl (fun ls hl => ?_)
  obtain ⟨n7, h⟩ := h
  refine L7 n7 _ _ _ (fun g3 h H locs ls hP hD hS hl => ?_) h _ _ _ hP hD hS (lv_sub hl [1, 0] rfl)
  exact W.vret hx hb hr (fun t ht hW => ⟨⟨g3, rfl, h, by rw [ht]; exact hP, va_K.moved hW.alike hK, hD⟩, hS.F ht⟩) hS.2.2 d_me_clear_27
abbrev cc_sp_init : ByteArray := prog_4_method_1_code
def yy_sp_init : MethodName := ⟨"SpotContours$Spots", "<init>", "()V"⟩
def ww_sp_init : List Cond := .code yy_sp_init cc_sp_init 1 none :: zz_B
theorem d_sp_init_0 : decode cc_sp_init 0 = .ok (.aload_n 0, 1) := by decide +kernel
theorem d_sp_init_1 : decode cc_sp_init 1 = .ok (.invokespecial 3, 3) := by decide +kernel
theorem d_sp_init_4 : decode cc_sp_init 4 = .ok (.aload_n 0, 1) := by decide +kernel
theorem d_sp_init_5 : decode cc_sp_init 5 = .ok (.bipush 16, 2) := by decide +kernel
theorem d_sp_init_7 : decode cc_sp_init 7 = .ok (.newarray .int, 2) := by decide +kernel
theorem d_sp_init_9 : decode cc_sp_init 9 = .ok (.putfield 9, 3) := by decide +kernel
theorem d_sp_init_12 : decode cc_sp_init 12 = .ok (.aload_n 0, 1) := by decide +kernel
theorem d_sp_init_13 : decode cc_sp_init 13 = .ok (.bipush 16, 2) := by decide +kernel
theorem d_sp_init_15 : decode cc_sp_init 15 = .ok (.newarray .int, 2) := by decide +kernel
theorem d_sp_init_17 : decode cc_sp_init 17 = .ok (.putfield 15, 3) := by decide +kernel
theorem d_sp_init_20 : decode cc_sp_init 20 = .ok (.aload_n 0, 1) := by decide +kernel
theorem d_sp_init_21 : decode cc_sp_init 21 = .ok (.bipush 16, 2) := by decide +kernel
theorem d_sp_init_23 : decode cc_sp_init 23 = .ok (.newarray .int, 2) := by decide +kernel
theorem d_sp_init_25 : decode cc_sp_init 25 = .ok (.putfield 18, 3) := by decide +kernel
theorem d_sp_init_28 : decode cc_sp_init 28 = .ok (.return_, 1) := by decide +kernel
abbrev cc_ta_init : ByteArray := prog_5_method_1_code
def yy_ta_init : MethodName := ⟨"SpotContours$Tags", "<init>", "()V"⟩
def ww_ta_init : List Cond := .code yy_ta_init cc_ta_init 1 none :: zz_B
theorem d_ta_init_0 : decode cc_ta_init 0 = .ok (.aload_n 0, 1) := by decide +kernel
theorem d_ta_init_1 : decode cc_ta_init 1 = .ok (.invokespecial 1, 3) := by decide +kernel
theorem d_ta_init_4 : decode cc_ta_init 4 = .ok (.aload_n 0, 1) := by decide +kernel
theorem d_ta_init_5 : decode cc_ta_init 5 = .ok (.bipush 20, 2) := by decide +kernel
theorem d_ta_init_7 : decode cc_ta_init 7 = .ok (.newarray .int, 2) := by decide +kernel
theorem d_ta_init_9 : decode cc_ta_init 9 = .ok (.putfield 9, 3) := by decide +kernel
theorem d_ta_init_12 : decode cc_ta_init 12 = .ok (.aload_n 0, 1) := by decide +kernel
theorem d_ta_init_13 : decode cc_ta_init 13 = .ok (.bipush 20, 2) := by decide +kernel
theorem d_ta_init_15 : decode cc_ta_init 15 = .ok (.newarray .int, 2) := by decide +kernel
theorem d_ta_init_17 : decode cc_ta_init 17 = .ok (.putfield 13, 3) := by decide +kernel
theorem d_ta_init_20 : decode cc_ta_init 20 = .ok (.aload_n 0, 1) := by decide +kernel
theorem d_ta_init_21 : decode cc_ta_init 21 = .ok (.bipush 20, 2) := by decide +kernel
theorem d_ta_init_23 : decode cc_ta_init 23 = .ok (.newarray .int, 2) := by decide +kernel
theorem d_ta_init_25 : decode cc_ta_init 25 = .ok (.putfield 16, 3) := by decide +kernel
theorem d_ta_init_28 : decode cc_ta_init 28 = .ok (.return_, 1) := by decide +kernel
abbrev cc_li_init : ByteArray := prog_2_method_1_code
def yy_li_init : MethodName := ⟨"SpotContours$Lines", "<init>", "()V"⟩
def ww_li_init : List Cond := .code yy_li_init cc_li_init 1 none :: zz_B
theorem d_li_init_0 : decode cc_li_init 0 = .ok (.aload_n 0, 1) := by decide +kernel
theorem d_li_init_1 : decode cc_li_init 1 = .ok (.invokespecial 3, 3) := by decide +kernel
theorem d_li_init_4 : decode cc_li_init 4 = .ok (.aload_n 0, 1) := by decide +kernel
theorem d_li_init_5 : decode cc_li_init 5 = .ok (.bipush 16, 2) := by decide +kernel
theorem d_li_init_7 : decode cc_li_init 7 = .ok (.newarray .boolean, 2) := by decide +kernel
theorem d_li_init_9 : decode cc_li_init 9 = .ok (.putfield 9, 3) := by decide +kernel
theorem d_li_init_12 : decode cc_li_init 12 = .ok (.aload_n 0, 1) := by decide +kernel
theorem d_li_init_13 : decode cc_li_init 13 = .ok (.bipush 120, 2) := by decide +kernel
theorem d_li_init_15 : decode cc_li_init 15 = .ok (.newarray .int, 2) := by decide +kernel
theorem d_li_init_17 : decode cc_li_init 17 = .ok (.putfield 15, 3) := by decide +kernel
theorem d_li_init_20 : decode cc_li_init 20 = .ok (.aload_n 0, 1) := by decide +kernel
theorem d_li_init_21 : decode cc_li_init 21 = .ok (.bipush 121, 2) := by decide +kernel
theorem d_li_init_23 : decode cc_li_init 23 = .ok (.newarray .int, 2) := by decide +kernel
theorem d_li_init_25 : decode cc_li_init 25 = .ok (.putfield 19, 3) := by decide +kernel
theorem d_li_init_28 : decode cc_li_init 28 = .ok (.aload_n 0, 1) := by decide +kernel
theorem d_li_init_29 : decode cc_li_init 29 = .ok (.bipush 120, 2) := by decide +kernel
theorem d_li_init_31 : decode cc_li_init 31 = .ok (.newarray .boolean, 2) := by decide +kernel
theorem d_li_init_33 : decode cc_li_init 33 = .ok (.putfield 22, 3) := by decide +kernel
theorem d_li_init_36 : decode cc_li_init 36 = .ok (.aload_n 0, 1) := by decide +kernel
theorem d_li_init_37 : decode cc_li_init 37 = .ok (.sipush 256, 3) := by decide +kernel
theorem d_li_init_40 : decode cc_li_init 40 = .ok (.newarray .boolean, 2) := by decide +kernel
theorem d_li_init_42 : decode cc_li_init 42 = .ok (.putfield 25, 3) := by decide +kernel
theorem d_li_init_45 : decode cc_li_init 45 = .ok (.return_, 1) := by decide +kernel
abbrev cc_me_init : ByteArray := prog_3_method_1_code
def yy_me_init : MethodName := ⟨"SpotContours$Mesh", "<init>", "()V"⟩
def ww_me_init : List Cond := .code yy_me_init cc_me_init 1 none :: zz_B
theorem d_me_init_0 : decode cc_me_init 0 = .ok (.aload_n 0, 1) := by decide +kernel
theorem d_me_init_1 : decode cc_me_init 1 = .ok (.invokespecial 3, 3) := by decide +kernel
theorem d_me_init_4 : decode cc_me_init 4 = .ok (.aload_n 0, 1) := by decide +kernel
theorem d_me_init_5 : decode cc_me_init 5 = .ok (.bipush 81, 2) := by decide +kernel
theorem d_me_init_7 : decode cc_me_init 7 = .ok (.newarray .int, 2) := by decide +kernel
theorem d_me_init_9 : decode cc_me_init 9 = .ok (.putfield 11, 3) := by decide +kernel
theorem d_me_init_12 : decode cc_me_init 12 = .ok (.aload_n 0, 1) := by decide +kernel
theorem d_me_init_13 : decode cc_me_init 13 = .ok (.sipush 256, 3) := by decide +kernel
theorem d_me_init_16 : decode cc_me_init 16 = .ok (.newarray .int, 2) := by decide +kernel
theorem d_me_init_18 : decode cc_me_init 18 = .ok (.putfield 15, 3) := by decide +kernel
theorem d_me_init_21 : decode cc_me_init 21 = .ok (.aload_n 0, 1) := by decide +kernel
theorem d_me_init_22 : decode cc_me_init 22 = .ok (.invokevirtual 18, 3) := by decide +kernel
theorem d_me_init_25 : decode cc_me_init 25 = .ok (.return_, 1) := by decide +kernel
abbrev cc_mo_init : ByteArray := prog_7_method_1_code
def yy_mo_init : MethodName := ⟨"SpotContoursModel", "<init>", "()V"⟩
def ww_mo_init : List Cond := .code yy_mo_init cc_mo_init 1 none :: zz_B
theorem d_mo_init_0 : decode cc_mo_init 0 = .ok (.aload_n 0, 1) := by decide +kernel
theorem d_mo_init_1 : decode cc_mo_init 1 = .ok (.invokespecial 1, 3) := by decide +kernel
theorem d_mo_init_4 : decode cc_mo_init 4 = .ok (.aload_n 0, 1) := by decide +kernel
theorem d_mo_init_5 : decode cc_mo_init 5 = .ok (.bipush 16, 2) := by decide +kernel
theorem d_mo_init_7 : decode cc_mo_init 7 = .ok (.newarray .int, 2) := by decide +kernel
theorem d_mo_init_9 : decode cc_mo_init 9 = .ok (.putfield 7, 3) := by decide +kernel
theorem d_mo_init_12 : decode cc_mo_init 12 = .ok (.aload_n 0, 1) := by decide +kernel
theorem d_mo_init_13 : decode cc_mo_init 13 = .ok (.bipush 16, 2) := by decide +kernel
theorem d_mo_init_15 : decode cc_mo_init 15 = .ok (.newarray .int, 2) := by decide +kernel
theorem d_mo_init_17 : decode cc_mo_init 17 = .ok (.putfield 13, 3) := by decide +kernel
theorem d_mo_init_20 : decode cc_mo_init 20 = .ok (.aload_n 0, 1) := by decide +kernel
theorem d_mo_init_21 : decode cc_mo_init 21 = .ok (.bipush 16, 2) := by decide +kernel
theorem d_mo_init_23 : decode cc_mo_init 23 = .ok (.newarray .int, 2) := by decide +kernel
theorem d_mo_init_25 : decode cc_mo_init 25 = .ok (.putfield 16, 3) := by decide +kernel
theorem d_mo_init_28 : decode cc_mo_init 28 = .ok (.aload_n 0, 1) := by decide +kernel
theorem d_mo_init_29 : decode cc_mo_init 29 = .ok (.sipush 150, 3) := by decide +kernel
theorem d_mo_init_32 : decode cc_mo_init 32 = .ok (.newarray .int, 2) := by decide +kernel
theorem d_mo_init_34 : decode cc_mo_init 34 = .ok (.putfield 19, 3) := by decide +kernel
theorem d_mo_init_37 : decode cc_mo_init 37 = .ok (.aload_n 0, 1) := by decide +kernel
theorem d_mo_init_38 : decode cc_mo_init 38 = .ok (.sipush 256, 3) := by decide +kernel
theorem d_mo_init_41 : decode cc_mo_init 41 = .ok (.newarray .boolean, 2) := by decide +kernel
theorem d_mo_init_43 : decode cc_mo_init 43 = .ok (.putfield 22, 3) := by decide +kernel
theorem d_mo_init_46 : decode cc_mo_init 46 = .ok (.aload_n 0, 1) := by decide +kernel
theorem d_mo_init_47 : decode cc_mo_init 47 = .ok (.sipush 256, 3) := by decide +kernel
theorem d_mo_init_50 : decode cc_mo_init 50 = .ok (.newarray .int, 2) := by decide +kernel
theorem d_mo_init_52 : decode cc_mo_init 52 = .ok (.putfield 26, 3) := by decide +kernel
theorem d_mo_init_55 : decode cc_mo_init 55 = .ok (.aload_n 0, 1) := by decide +kernel
theorem d_mo_init_56 : decode cc_mo_init 56 = .ok (.sipush 256, 3) := by decide +kernel
theorem d_mo_init_59 : decode cc_mo_init 59 = .ok (.newarray .int, 2) := by decide +kernel
theorem d_mo_init_61 : decode cc_mo_init 61 = .ok (.putfield 29, 3) := by decide +kernel
theorem d_mo_init_64 : decode cc_mo_init 64 = .ok (.aload_n 0, 1) := by decide +kernel
theorem d_mo_init_65 : decode cc_mo_init 65 = .ok (.sipush 256, 3) := by decide +kernel
theorem d_mo_init_68 : decode cc_mo_init 68 = .ok (.newarray .boolean, 2) := by decide +kernel
theorem d_mo_init_70 : decode cc_mo_init 70 = .ok (.putfield 32, 3) := by decide +kernel
theorem d_mo_init_73 : decode cc_mo_init 73 = .ok (.aload_n 0, 1) := by decide +kernel
theorem d_mo_init_74 : decode cc_mo_init 74 = .ok (.sipush 130, 3) := by decide +kernel
theorem d_mo_init_77 : decode cc_mo_init 77 = .ok (.newarray .int, 2) := by decide +kernel
theorem d_mo_init_79 : decode cc_mo_init 79 = .ok (.putfield 35, 3) := by decide +kernel
theorem d_mo_init_82 : decode cc_mo_init 82 = .ok (.aload_n 0, 1) := by decide +kernel
theorem d_mo_init_83 : decode cc_mo_init 83 = .ok (.sipush 130, 3) := by decide +kernel
theorem d_mo_init_86 : decode cc_mo_init 86 = .ok (.newarray .int, 2) := by decide +kernel
theorem d_mo_init_88 : decode cc_mo_init 88 = .ok (.putfield 38, 3) := by decide +kernel
theorem d_mo_init_91 : decode cc_mo_init 91 = .ok (.aload_n 0, 1) := by decide +kernel
theorem d_mo_init_92 : decode cc_mo_init 92 = .ok (.sipush 130, 3) := by decide +kernel
theorem d_mo_init_95 : decode cc_mo_init 95 = .ok (.newarray .boolean, 2) := by decide +kernel
theorem d_mo_init_97 : decode cc_mo_init 97 = .ok (.putfield 41, 3) := by decide +kernel
theorem d_mo_init_100 : decode cc_mo_init 100 = .ok (.aload_n 0, 1) := by decide +kernel
theorem d_mo_init_101 : decode cc_mo_init 101 = .ok (.sipush 260, 3) := by decide +kernel
theorem d_mo_init_104 : decode cc_mo_init 104 = .ok (.newarray .int, 2) := by decide +kernel
theorem d_mo_init_106 : decode cc_mo_init 106 = .ok (.putfield 44, 3) := by decide +kernel
theorem d_mo_init_109 : decode cc_mo_init 109 = .ok (.aload_n 0, 1) := by decide +kernel
theorem d_mo_init_110 : decode cc_mo_init 110 = .ok (.bipush 60, 2) := by decide +kernel
theorem d_mo_init_112 : decode cc_mo_init 112 = .ok (.newarray .int, 2) := by decide +kernel
theorem d_mo_init_114 : decode cc_mo_init 114 = .ok (.putfield 47, 3) := by decide +kernel
theorem d_mo_init_117 : decode cc_mo_init 117 = .ok (.aload_n 0, 1) := by decide +kernel
theorem d_mo_init_118 : decode cc_mo_init 118 = .ok (.bipush 60, 2) := by decide +kernel
theorem d_mo_init_120 : decode cc_mo_init 120 = .ok (.newarray .int, 2) := by decide +kernel
theorem d_mo_init_122 : decode cc_mo_init 122 = .ok (.putfield 50, 3) := by decide +kernel
theorem d_mo_init_125 : decode cc_mo_init 125 = .ok (.aload_n 0, 1) := by decide +kernel
theorem d_mo_init_126 : decode cc_mo_init 126 = .ok (.bipush 60, 2) := by decide +kernel
theorem d_mo_init_128 : decode cc_mo_init 128 = .ok (.newarray .int, 2) := by decide +kernel
theorem d_mo_init_130 : decode cc_mo_init 130 = .ok (.putfield 53, 3) := by decide +kernel
theorem d_mo_init_133 : decode cc_mo_init 133 = .ok (.return_, 1) := by decide +kernel
abbrev cc_sc_init : ByteArray := prog_1_method_1_code
def yy_sc_init : MethodName := ⟨"SpotContours", "<init>", "()V"⟩
def ww_sc_init : List Cond := .code yy_sc_init cc_sc_init 1 none :: zz_B
theorem d_sc_init_0 : decode cc_sc_init 0 = .ok (.aload_n 0, 1) := by decide +kernel
theorem d_sc_init_1 : decode cc_sc_init 1 = .ok (.invokespecial 3, 3) := by decide +kernel
theorem d_sc_init_4 : decode cc_sc_init 4 = .ok (.aload_n 0, 1) := by decide +kernel
theorem d_sc_init_5 : decode cc_sc_init 5 = .ok (.new 9, 3) := by decide +kernel
theorem d_sc_init_8 : decode cc_sc_init 8 = .ok (.dup, 1) := by decide +kernel
theorem d_sc_init_9 : decode cc_sc_init 9 = .ok (.invokespecial 11, 3) := by decide +kernel
theorem d_sc_init_12 : decode cc_sc_init 12 = .ok (.putfield 12, 3) := by decide +kernel
theorem d_sc_init_15 : decode cc_sc_init 15 = .ok (.aload_n 0, 1) := by decide +kernel
theorem d_sc_init_16 : decode cc_sc_init 16 = .ok (.new 16, 3) := by decide +kernel
theorem d_sc_init_19 : decode cc_sc_init 19 = .ok (.dup, 1) := by decide +kernel
theorem d_sc_init_20 : decode cc_sc_init 20 = .ok (.invokespecial 18, 3) := by decide +kernel
theorem d_sc_init_23 : decode cc_sc_init 23 = .ok (.putfield 19, 3) := by decide +kernel
theorem d_sc_init_26 : decode cc_sc_init 26 = .ok (.aload_n 0, 1) := by decide +kernel
theorem d_sc_init_27 : decode cc_sc_init 27 = .ok (.new 23, 3) := by decide +kernel
theorem d_sc_init_30 : decode cc_sc_init 30 = .ok (.dup, 1) := by decide +kernel
theorem d_sc_init_31 : decode cc_sc_init 31 = .ok (.invokespecial 25, 3) := by decide +kernel
theorem d_sc_init_34 : decode cc_sc_init 34 = .ok (.putfield 26, 3) := by decide +kernel
theorem d_sc_init_37 : decode cc_sc_init 37 = .ok (.aload_n 0, 1) := by decide +kernel
theorem d_sc_init_38 : decode cc_sc_init 38 = .ok (.new 30, 3) := by decide +kernel
theorem d_sc_init_41 : decode cc_sc_init 41 = .ok (.dup, 1) := by decide +kernel
theorem d_sc_init_42 : decode cc_sc_init 42 = .ok (.invokespecial 32, 3) := by decide +kernel
theorem d_sc_init_45 : decode cc_sc_init 45 = .ok (.putfield 33, 3) := by decide +kernel
theorem d_sc_init_48 : decode cc_sc_init 48 = .ok (.return_, 1) := by decide +kernel
theorem wk_0 : Cond.methodLink "SpotContours$Spots" 3 ⟨"java/lang/Object", "<init>", "()V"⟩ ∈ zz_B := zz_mem (List.mem_append_right _ (List.mem_of_getElem? (i := 28) (by decide +kernel))) (by decide +kernel)
theorem wk_1 : Cond.instanceMethod ⟨"java/lang/Object", "<init>", "()V"⟩ ∈ zz_B := zz_mem (List.mem_append_right _ (List.mem_of_getElem? (i := 21) (by decide +kernel))) (by decide +kernel)
theorem wk_2 : Cond.code ⟨"java/lang/Object", "<init>", "()V"⟩ object_method_1_code 1 none ∈ zz_B := zz_mem (List.mem_append_right _ (List.mem_of_getElem? (i := 22) (by decide +kernel))) (by decide +kernel)
theorem wk_3 : Cond.arrayClass .int ∈ zz_B := zz_mem (List.mem_append_right _ (List.mem_of_getElem? (i := 42) (by decide +kernel))) (by decide +kernel)
theorem wk_4 : Cond.fieldLink "SpotContours$Spots" 9 "SpotContours$Spots" "xs" "[I" ∈ zz_B := zz_mem (List.mem_append_right _ (List.mem_of_getElem? (i := 29) (by decide +kernel))) (by decide +kernel)
theorem wk_5 : Cond.fieldLink "SpotContours$Spots" 15 "SpotContours$Spots" "ys" "[I" ∈ zz_B := zz_mem (List.mem_append_right _ (List.mem_of_getElem? (i := 30) (by decide +kernel))) (by decide +kernel)
theorem wk_6 : Cond.fieldLink "SpotContours$Spots" 18 "SpotContours$Spots" "heights" "[I" ∈ zz_B := zz_mem (List.mem_append_right _ (List.mem_of_getElem? (i := 31) (by decide +kernel))) (by decide +kernel)
theorem wk_7 : Cond.methodLink "SpotContours$Tags" 1 ⟨"java/lang/Object", "<init>", "()V"⟩ ∈ zz_B := zz_mem (List.mem_append_right _ (List.mem_of_getElem? (i := 94) (by decide +kernel))) (by decide +kernel)
theorem wk_8 : Cond.fieldLink "SpotContours$Tags" 9 "SpotContours$Tags" "levels" "[I" ∈ zz_B := zz_mem (List.mem_append_right _ (List.mem_of_getElem? (i := 95) (by decide +kernel))) (by decide +kernel)
theorem wk_9 : Cond.fieldLink "SpotContours$Tags" 13 "SpotContours$Tags" "xs" "[I" ∈ zz_B := zz_mem (List.mem_append_right _ (List.mem_of_getElem? (i := 96) (by decide +kernel))) (by decide +kernel)
theorem wk_10 : Cond.fieldLink "SpotContours$Tags" 16 "SpotContours$Tags" "ys" "[I" ∈ zz_B := zz_mem (List.mem_append_right _ (List.mem_of_getElem? (i := 97) (by decide +kernel))) (by decide +kernel)
theorem wk_11 : Cond.methodLink "SpotContours$Lines" 3 ⟨"java/lang/Object", "<init>", "()V"⟩ ∈ zz_B := zz_mem (List.mem_append_right _ (List.mem_of_getElem? (i := 68) (by decide +kernel))) (by decide +kernel)
theorem wk_12 : Cond.arrayClass .boolean ∈ zz_B := zz_mem (List.mem_append_right _ (List.mem_of_getElem? (i := 88) (by decide +kernel))) (by decide +kernel)
theorem wk_13 : Cond.fieldLink "SpotContours$Lines" 9 "SpotContours$Lines" "isHigh" "[Z" ∈ zz_B := zz_mem (List.mem_append_right _ (List.mem_of_getElem? (i := 69) (by decide +kernel))) (by decide +kernel)
theorem wk_14 : Cond.fieldLink "SpotContours$Lines" 15 "SpotContours$Lines" "pairs" "[I" ∈ zz_B := zz_mem (List.mem_append_right _ (List.mem_of_getElem? (i := 70) (by decide +kernel))) (by decide +kernel)
theorem wk_15 : Cond.fieldLink "SpotContours$Lines" 19 "SpotContours$Lines" "starts" "[I" ∈ zz_B := zz_mem (List.mem_append_right _ (List.mem_of_getElem? (i := 71) (by decide +kernel))) (by decide +kernel)
theorem wk_16 : Cond.fieldLink "SpotContours$Lines" 22 "SpotContours$Lines" "rings" "[Z" ∈ zz_B := zz_mem (List.mem_append_right _ (List.mem_of_getElem? (i := 72) (by decide +kernel))) (by decide +kernel)
theorem wk_17 : Cond.fieldLink "SpotContours$Lines" 25 "SpotContours$Lines" "isTraced" "[Z" ∈ zz_B := zz_mem (List.mem_append_right _ (List.mem_of_getElem? (i := 73) (by decide +kernel))) (by decide +kernel)
theorem wk_18 : Cond.methodLink "SpotContours$Mesh" 3 ⟨"java/lang/Object", "<init>", "()V"⟩ ∈ zz_B := zz_mem (List.mem_append_right _ (List.mem_of_getElem? (i := 48) (by decide +kernel))) (by decide +kernel)
theorem wk_19 : Cond.fieldLink "SpotContours$Mesh" 11 "SpotContours$Mesh" "corners" "[I" ∈ zz_B := zz_mem (List.mem_append_right _ (List.mem_of_getElem? (i := 53) (by decide +kernel))) (by decide +kernel)
theorem wk_20 : Cond.fieldLink "SpotContours$Mesh" 15 "SpotContours$Mesh" "rightOf" "[I" ∈ zz_B := zz_mem (List.mem_append_right _ (List.mem_of_getElem? (i := 54) (by decide +kernel))) (by decide +kernel)
theorem wk_21 : Cond.code ⟨"SpotContours$Mesh", "clear", "()V"⟩ prog_3_method_7_code 2 none ∈ zz_B := zz_mem (List.mem_append_right _ (List.mem_of_getElem? (i := 52) (by decide +kernel))) (by decide +kernel)
theorem wk_22 : Cond.methodLink "SpotContours$Mesh" 18 ⟨"SpotContours$Mesh", "clear", "()V"⟩ ∈ zz_B := zz_mem (List.mem_append_right _ (List.mem_of_getElem? (i := 49) (by decide +kernel))) (by decide +kernel)
theorem wk_23 : Cond.instanceMethod ⟨"SpotContours$Mesh", "clear", "()V"⟩ ∈ zz_B := zz_mem (List.mem_append_right _ (List.mem_of_getElem? (i := 51) (by decide +kernel))) (by decide +kernel)
theorem wk_24 : Cond.selects "SpotContours$Mesh" ⟨"SpotContours$Mesh", "clear", "()V"⟩ ⟨"SpotContours$Mesh", "clear", "()V"⟩ ∈ zz_B := zz_mem (List.mem_append_left _ (by decide +kernel)) (by decide +kernel)
theorem wk_25 : Cond.initialized "SpotContours$Mesh" ∈ zz_B := zz_mem (List.mem_append_right _ (List.mem_of_getElem? (i := 3) (by decide +kernel))) (by decide +kernel)
theorem wk_26 : Cond.methodLink "SpotContoursModel" 1 ⟨"java/lang/Object", "<init>", "()V"⟩ ∈ zz_B := zz_mem (List.mem_append_right _ (List.mem_of_getElem? (i := 579) (by decide +kernel))) (by decide +kernel)
theorem wk_27 : Cond.fieldLink "SpotContoursModel" 7 "SpotContoursModel" "xs" "[I" ∈ zz_B := zz_mem (List.mem_append_right _ (List.mem_of_getElem? (i := 582) (by decide +kernel))) (by decide +kernel)
theorem wk_28 : Cond.fieldLink "SpotContoursModel" 13 "SpotContoursModel" "ys" "[I" ∈ zz_B := zz_mem (List.mem_append_right _ (List.mem_of_getElem? (i := 583) (by decide +kernel))) (by decide +kernel)
theorem wk_29 : Cond.fieldLink "SpotContoursModel" 16 "SpotContoursModel" "zs" "[I" ∈ zz_B := zz_mem (List.mem_append_right _ (List.mem_of_getElem? (i := 584) (by decide +kernel))) (by decide +kernel)
theorem wk_30 : Cond.fieldLink "SpotContoursModel" 19 "SpotContoursModel" "corners" "[I" ∈ zz_B := zz_mem (List.mem_append_right _ (List.mem_of_getElem? (i := 586) (by decide +kernel))) (by decide +kernel)
theorem wk_31 : Cond.fieldLink "SpotContoursModel" 22 "SpotContoursModel" "is" "[Z" ∈ zz_B := zz_mem (List.mem_append_right _ (List.mem_of_getElem? (i := 587) (by decide +kernel))) (by decide +kernel)
theorem wk_32 : Cond.fieldLink "SpotContoursModel" 26 "SpotContoursModel" "nexts" "[I" ∈ zz_B := zz_mem (List.mem_append_right _ (List.mem_of_getElem? (i := 588) (by decide +kernel))) (by decide +kernel)
theorem wk_33 : Cond.fieldLink "SpotContoursModel" 29 "SpotContoursModel" "befores" "[I" ∈ zz_B := zz_mem (List.mem_append_right _ (List.mem_of_getElem? (i := 589) (by decide +kernel))) (by decide +kernel)
theorem wk_34 : Cond.fieldLink "SpotContoursModel" 32 "SpotContoursModel" "gathered" "[Z" ∈ zz_B := zz_mem (List.mem_append_right _ (List.mem_of_getElem? (i := 590) (by decide +kernel))) (by decide +kernel)
theorem wk_35 : Cond.fieldLink "SpotContoursModel" 35 "SpotContoursModel" "begins" "[I" ∈ zz_B := zz_mem (List.mem_append_right _ (List.mem_of_getElem? (i := 592) (by decide +kernel))) (by decide +kernel)
theorem wk_36 : Cond.fieldLink "SpotContoursModel" 38 "SpotContoursModel" "sizes" "[I" ∈ zz_B := zz_mem (List.mem_append_right _ (List.mem_of_getElem? (i := 593) (by decide +kernel))) (by decide +kernel)
theorem wk_37 : Cond.fieldLink "SpotContoursModel" 41 "SpotContoursModel" "rings" "[Z" ∈ zz_B := zz_mem (List.mem_append_right _ (List.mem_of_getElem? (i := 594) (by decide +kernel))) (by decide +kernel)
theorem wk_38 : Cond.fieldLink "SpotContoursModel" 44 "SpotContoursModel" "row" "[I" ∈ zz_B := zz_mem (List.mem_append_right _ (List.mem_of_getElem? (i := 596) (by decide +kernel))) (by decide +kernel)
theorem wk_39 : Cond.fieldLink "SpotContoursModel" 47 "SpotContoursModel" "labelLevel" "[I" ∈ zz_B := zz_mem (List.mem_append_right _ (List.mem_of_getElem? (i := 598) (by decide +kernel))) (by decide +kernel)
theorem wk_40 : Cond.fieldLink "SpotContoursModel" 50 "SpotContoursModel" "labelX" "[I" ∈ zz_B := zz_mem (List.mem_append_right _ (List.mem_of_getElem? (i := 599) (by decide +kernel))) (by decide +kernel)
theorem wk_41 : Cond.fieldLink "SpotContoursModel" 53 "SpotContoursModel" "labelY" "[I" ∈ zz_B := zz_mem (List.mem_append_right _ (List.mem_of_getElem? (i := 600) (by decide +kernel))) (by decide +kernel)
theorem wk_42 : Cond.methodLink "SpotContours" 3 ⟨"java/lang/Object", "<init>", "()V"⟩ ∈ zz_B := zz_mem (List.mem_append_right _ (List.mem_of_getElem? (i := 20) (by decide +kernel))) (by decide +kernel)
theorem wk_43 : Cond.classLink "SpotContours" 9 "SpotContours$Spots" ∈ zz_B := zz_mem (List.mem_append_right _ (List.mem_of_getElem? (i := 23) (by decide +kernel))) (by decide +kernel)
theorem wk_44 : Cond.instantiable "SpotContours$Spots" 4 ∈ zz_B := zz_mem (List.mem_append_right _ (List.mem_of_getElem? (i := 24) (by decide +kernel))) (by decide +kernel)
theorem wk_45 : Cond.initialized "SpotContours$Spots" ∈ zz_B := zz_mem (List.mem_append_right _ (List.mem_of_getElem? (i := 2) (by decide +kernel))) (by decide +kernel)
theorem wk_46 : Cond.code ⟨"SpotContours$Spots", "<init>", "()V"⟩ prog_4_method_1_code 1 none ∈ zz_B := zz_mem (List.mem_append_right _ (List.mem_of_getElem? (i := 27) (by decide +kernel))) (by decide +kernel)
theorem wk_47 : Cond.instanceMethod ⟨"SpotContours$Spots", "<init>", "()V"⟩ ∈ zz_B := zz_mem (List.mem_append_right _ (List.mem_of_getElem? (i := 26) (by decide +kernel))) (by decide +kernel)
theorem wk_48 : Cond.fieldLink "SpotContours" 12 "SpotContours" "spots" "LSpotContours$Spots;" ∈ zz_B := zz_mem (List.mem_append_right _ (List.mem_of_getElem? (i := 108) (by decide +kernel))) (by decide +kernel)
theorem wk_49 : Cond.classLink "SpotContours" 16 "SpotContours$Mesh" ∈ zz_B := zz_mem (List.mem_append_right _ (List.mem_of_getElem? (i := 43) (by decide +kernel))) (by decide +kernel)
theorem wk_50 : Cond.instantiable "SpotContours$Mesh" 3 ∈ zz_B := zz_mem (List.mem_append_right _ (List.mem_of_getElem? (i := 44) (by decide +kernel))) (by decide +kernel)
theorem wk_51 : Cond.code ⟨"SpotContours$Mesh", "<init>", "()V"⟩ prog_3_method_1_code 1 none ∈ zz_B := zz_mem (List.mem_append_right _ (List.mem_of_getElem? (i := 47) (by decide +kernel))) (by decide +kernel)
theorem wk_52 : Cond.instanceMethod ⟨"SpotContours$Mesh", "<init>", "()V"⟩ ∈ zz_B := zz_mem (List.mem_append_right _ (List.mem_of_getElem? (i := 46) (by decide +kernel))) (by decide +kernel)
theorem wk_53 : Cond.methodLink "SpotContours" 18 ⟨"SpotContours$Mesh", "<init>", "()V"⟩ ∈ zz_B := zz_mem (List.mem_append_right _ (List.mem_of_getElem? (i := 45) (by decide +kernel))) (by decide +kernel)
theorem wk_54 : Cond.fieldLink "SpotContours" 19 "SpotContours" "mesh" "LSpotContours$Mesh;" ∈ zz_B := zz_mem (List.mem_append_right _ (List.mem_of_getElem? (i := 109) (by decide +kernel))) (by decide +kernel)
theorem wk_55 : Cond.classLink "SpotContours" 23 "SpotContours$Lines" ∈ zz_B := zz_mem (List.mem_append_right _ (List.mem_of_getElem? (i := 63) (by decide +kernel))) (by decide +kernel)
theorem wk_56 : Cond.instantiable "SpotContours$Lines" 6 ∈ zz_B := zz_mem (List.mem_append_right _ (List.mem_of_getElem? (i := 64) (by decide +kernel))) (by decide +kernel)
theorem wk_57 : Cond.initialized "SpotContours$Lines" ∈ zz_B := zz_mem (List.mem_append_right _ (List.mem_of_getElem? (i := 4) (by decide +kernel))) (by decide +kernel)
theorem wk_58 : Cond.code ⟨"SpotContours$Lines", "<init>", "()V"⟩ prog_2_method_1_code 1 none ∈ zz_B := zz_mem (List.mem_append_right _ (List.mem_of_getElem? (i := 67) (by decide +kernel))) (by decide +kernel)
theorem wk_59 : Cond.instanceMethod ⟨"SpotContours$Lines", "<init>", "()V"⟩ ∈ zz_B := zz_mem (List.mem_append_right _ (List.mem_of_getElem? (i := 66) (by decide +kernel))) (by decide +kernel)
theorem wk_60 : Cond.fieldLink "SpotContours" 26 "SpotContours" "lines" "LSpotContours$Lines;" ∈ zz_B := zz_mem (List.mem_append_right _ (List.mem_of_getElem? (i := 110) (by decide +kernel))) (by decide +kernel)
theorem wk_61 : Cond.classLink "SpotContours" 30 "SpotContours$Tags" ∈ zz_B := zz_mem (List.mem_append_right _ (List.mem_of_getElem? (i := 89) (by decide +kernel))) (by decide +kernel)
theorem wk_62 : Cond.instantiable "SpotContours$Tags" 4 ∈ zz_B := zz_mem (List.mem_append_right _ (List.mem_of_getElem? (i := 90) (by decide +kernel))) (by decide +kernel)
theorem wk_63 : Cond.initialized "SpotContours$Tags" ∈ zz_B := zz_mem (List.mem_append_right _ (List.mem_of_getElem? (i := 5) (by decide +kernel))) (by decide +kernel)
theorem wk_64 : Cond.code ⟨"SpotContours$Tags", "<init>", "()V"⟩ prog_5_method_1_code 1 none ∈ zz_B := zz_mem (List.mem_append_right _ (List.mem_of_getElem? (i := 93) (by decide +kernel))) (by decide +kernel)
theorem wk_65 : Cond.instanceMethod ⟨"SpotContours$Tags", "<init>", "()V"⟩ ∈ zz_B := zz_mem (List.mem_append_right _ (List.mem_of_getElem? (i := 92) (by decide +kernel))) (by decide +kernel)
theorem wk_66 : Cond.fieldLink "SpotContours" 33 "SpotContours" "tags" "LSpotContours$Tags;" ∈ zz_B := zz_mem (List.mem_append_right _ (List.mem_of_getElem? (i := 111) (by decide +kernel))) (by decide +kernel)
abbrev rm_sp_init : Room := { frames := 1, cells := 3, slots := 48, locals := 12 }
set_option maxHeartbeats 4000000 in
set_option maxRecDepth 100000 in
theorem mc_sp_init (l : Launch) (dC : Nat → ClassId) (dI : Nat → Nat → Nat) (q : Nat) (cI cZ : ClassId) (sz : Nat) : Met l yy_sp_init ww_sp_init rm_sp_init (zz_Pre (dC, dI) (fun _ => [(q, .inr (2, [.null, .null, .null, .int 0]))]) [(cI, .int), (cZ, .boolean)] [.ref q] kc_0 sz) (va_Qv (fun _ : Nat → Nat => True) (fun u t => va_P (dC, dI) zzCl ([(q, .inr (2, [.ref (u 0), .ref (u 1), .ref (u 2), .int 0])), (u 0, .inl (cI, 16, .inl (fun _ => 0))), (u 1, .inl (cI, 16, .inl (fun _ => 0))), (u 2, .inl (cI, 16, .inl (fun _ => 0)))]) t.heap ∧ va_K (dC, dI) zzCl [(cI, .int), (cZ, .boolean)] t ∧ va_D (va_A [(q, .inr (2, [.null, .null, .null, .int 0]))] sz) ([(q, .inr (2, [.ref (u 0), .ref (u 1), .ref (u 2), .int 0])), (u 0, .inl (cI, 16, .inl (fun _ => 0))), (u 1, .inl (cI, 16, .inl (fun _ => 0))), (u 2, .inl (cI, 16, .inl (fun _ => 0)))])) (va_A [(q, .inr (2, [.null, .null, .null, .int 0]))] sz)) 3 48 (va_A [(q, .inr (2, [.null, .null, .null, .int 0]))] sz) := by
  refine Met.ofW (cc := cc_sp_init) (maxL := 1) (ret := none) (by decide) rfl ?_
  intro p e s m args below meth c s₁ B hml hv
  obtain ⟨hav, hsz, hP, hK, hD0, hN⟩ := hv
  have hx := B.exec
  have hb := B.bytes
  have hr := B.returns
  have hts := atoms_spec (ws := ww_sp_init) B.pre
  have hown : s.vm.findClass "SpotContours$Spots" = some m.cls := findClass_of_methodNamed B.named
  have hin : meth.name = "<init>" := (name_of_methodNamed B.named B.method).1
  subst hsz
  have hD := hD0.self (sz := s.heap.size)
  generalize hAe : va_A [(q, .inr (2, [.null, .null, .null, .int 0]))] s.heap.size = A at hD ⊢
  have hA : ∀ q : Nat, s.heap.size ≤ q → A q := fun q h => by rw [← hAe]; exact Or.inr h
  have hS : va_S A s.heap s.heap [] := va_S.rf
  have he9 := lg_entry_eq m [.ref q] 1
  rw [← hav] at he9
  rw [he9]
  have hl := lv_entry [.ref q] (n := 1) (Nat.le_of_ble_eq_true rfl)
  generalize (lg_sl [.ref q] ++ List.replicate (1 - (lg_sl [.ref q]).length) Slot.unset).toArray = ls at hl ⊢
  have hl : lv_has ls 1 [(0, .ref q)] := hl
  have hin__sp : ∀ w ∈ u_ws R_sp T_sp 4, w ∈ ww_sp_init := fun w h => zz_in (hin0_sp w h)
  refine lv_aload_n hx hb d_sp_init_0 rfl (lv_at hl 0 rfl) ?_
  refine W.objInit hx hb hown (hts _ (zz_in wk_0)) (hts _ (zz_in wk_1)) (hts _ (zz_in wk_2)) rfl (by rw [hml]; exact hl.1) rfl d_sp_init_1 (Nat.le_of_ble_eq_true rfl) (Nat.le_of_ble_eq_true rfl) ?_
  refine W.eq (g2 := F0 m 4 ls []) rfl ?_
  refine lv_aload_n hx hb d_sp_init_4 rfl (lv_at hl 0 rfl) ?_
  refine lv_bipush (v := 16) hx hb d_sp_init_5 (by decide) ?_
  refine zz_newt (atype := .int) (ty := .int) (a0 := (16, .inl (fun _ => 0))) hx hb (hts _ (zz_in wk_3)) rfl hK hP hD hS hA 0 rfl (fun _ h => h) (fun _ => rfl) (by decide) (by decide) (by decide) (Nat.le_of_ble_eq_true rfl) (Nat.le_of_ble_eq_true rfl) d_sp_init_7 (fun q1 H hP hD hS => ?_)
  have hP : va_P (dC, dI) zzCl [(q, .inr (2, [.null, .null, .null, .int 0])), (q1, .inl (cI, 16, .inl (fun _ => 0)))] H := hP
  have hD : va_D A [(q, .inr (2, [.null, .null, .null, .int 0])), (q1, .inl (cI, 16, .inl (fun _ => 0)))] := hD
  refine va_putF (D := (dC, dI)) (ci := 2) (v := .ref q1) (ty := .array .int) (C := R_sp) (T := T_sp) (N := 4) hx hb hts hin__sp ty_sp tok_sp nmd_sp hown hK hP hD hS 0 rfl rfl 0 (by decide) (hts _ (zz_in wk_4)) (fun _ h9 => h9) rfl hin rfl (by decide +kernel) rfl rfl (Nat.le_of_ble_eq_true rfl) d_sp_init_9 (fun H locs hP hD hS => ?_)
  have hP : va_P (dC, dI) zzCl [(q, .inr (2, [.ref q1, .null, .null, .int 0])), (q1, .inl (cI, 16, .inl (fun _ => 0)))] H := hP
  have hD : va_D A [(q, .inr (2, [.ref q1, .null, .null, .int 0])), (q1, .inl (cI, 16, .inl (fun _ => 0)))] := hD
  refine lv_aload_n hx hb d_sp_init_12 rfl (lv_at hl 0 rfl) ?_
  refine lv_bipush (v := 16) hx hb d_sp_init_13 (by decide) ?_
  refine zz_newt (atype := .int) (ty := .int) (a0 := (16, .inl (fun _ => 0))) hx hb (hts _ (zz_in wk_3)) rfl hK hP hD hS hA 0 rfl (fun _ h => h) (fun _ => rfl) (by decide) (by decide) (by decide) (Nat.le_of_ble_eq_true rfl) (Nat.le_of_ble_eq_true rfl) d_sp_init_15 (fun q2 H hP hD hS => ?_)
  have hP : va_P (dC, dI) zzCl [(q, .inr (2, [.ref q1, .null, .null, .int 0])), (q1, .inl (cI, 16, .inl (fun _ => 0))), (q2, .inl (cI, 16, .inl (fun _ => 0)))] H := hP
  have hD : va_D A [(q, .inr (2, [.ref q1, .null, .null, .int 0])), (q1, .inl (cI, 16, .inl (fun _ => 0))), (q2, .inl (cI, 16, .inl (fun _ => 0)))] := hD
  refine va_putF (D := (dC, dI)) (ci := 2) (v := .ref q2) (ty := .array .int) (C := R_sp) (T := T_sp) (N := 4) hx hb hts hin__sp ty_sp tok_sp nmd_sp hown hK hP hD hS 0 rfl rfl 1 (by decide) (hts _ (zz_in wk_5)) (fun _ h9 => h9) rfl hin rfl (by decide +kernel) rfl rfl (Nat.le_of_ble_eq_true rfl) d_sp_init_17 (fun H locs hP hD hS => ?_)
  have hP : va_P (dC, dI) zzCl [(q, .inr (2, [.ref q1, .ref q2, .null, .int 0])), (q1, .inl (cI, 16, .inl (fun _ => 0))), (q2, .inl (cI, 16, .inl (fun _ => 0)))] H := hP
  have hD : va_D A [(q, .inr (2, [.ref q1, .ref q2, .null, .int 0])), (q1, .inl (cI, 16, .inl (fun _ => 0))), (q2, .inl (cI, 16, .inl (fun _ => 0)))] := hD
  refine lv_aload_n hx hb d_sp_init_20 rfl (lv_at hl 0 rfl) ?_
  refine lv_bipush (v := 16) hx hb d_sp_init_21 (by decide) ?_
  refine zz_newt (atype := .int) (ty := .int) (a0 := (16, .inl (fun _ => 0))) hx hb (hts _ (zz_in wk_3)) rfl hK hP hD hS hA 0 rfl (fun _ h => h) (fun _ => rfl) (by decide) (by decide) (by decide) (Nat.le_of_ble_eq_true rfl) (Nat.le_of_ble_eq_true rfl) d_sp_init_23 (fun q3 H hP hD hS => ?_)
  have hP : va_P (dC, dI) zzCl [(q, .inr (2, [.ref q1, .ref q2, .null, .int 0])), (q1, .inl (cI, 16, .inl (fun _ => 0))), (q2, .inl (cI, 16, .inl (fun _ => 0))), (q3, .inl (cI, 16, .inl (fun _ => 0)))] H := hP
  have hD : va_D A [(q, .inr (2, [.ref q1, .ref q2, .null, .int 0])), (q1, .inl (cI, 16, .inl (fun _ => 0))), (q2, .inl (cI, 16, .inl (fun _ => 0))), (q3, .inl (cI, 16, .inl (fun _ => 0)))] := hD
  refine va_putF (D := (dC, dI)) (ci := 2) (v := .ref q3) (ty := .array .int) (C := R_sp) (T := T_sp) (N := 4) hx hb hts hin__sp ty_sp tok_sp nmd_sp hown hK hP hD hS 0 rfl rfl 2 (by decide) (hts _ (zz_in wk_6)) (fun _ h9 => h9) rfl hin rfl (by decide +kernel) rfl rfl (Nat.le_of_ble_eq_true rfl) d_sp_init_25 (fun H locs hP hD hS => ?_)
  have hP : va_P (dC, dI) zzCl [(q, .inr (2, [.ref q1, .ref q2, .ref q3, .int 0])), (q1, .inl (cI, 16, .inl (fun _ => 0))), (q2, .inl (cI, 16, .inl (fun _ => 0))), (q3, .inl (cI, 16, .inl (fun _ => 0)))] H := hP
  have hD : va_D A [(q, .inr (2, [.ref q1, .ref q2, .ref q3, .int 0])), (q1, .inl (cI, 16, .inl (fun _ => 0))), (q2, .inl (cI, 16, .inl (fun _ => 0))), (q3, .inl (cI, 16, .inl (fun _ => 0)))] := hD
  refine W.widen (k := 3) (n := 48) (Nat.le_of_ble_eq_true rfl) (Nat.le_of_ble_eq_true rfl) ?_
  exact W.vret hx hb hr (fun t ht hW => ⟨⟨(fun k => [q1, q2, q3].getD k 0), rfl, trivial, by rw [ht]; exact hP, va_K.moved hW.alike hK, hD⟩, hS.F ht⟩) hS.2.2 d_sp_init_28
abbrev rm_ta_init : Room := { frames := 1, cells := 3, slots := 60, locals := 12 }
set_option maxHeartbeats 4000000 in
set_option maxRecDepth 100000 in
theorem mc_ta_init (l : Launch) (dC : Nat → ClassId) (dI : Nat → Nat → Nat) (q : Nat) (cI cZ : ClassId) (sz : Nat) : Met l yy_ta_init ww_ta_init rm_ta_init (zz_Pre (dC, dI) (fun _ => [(q, .inr (3, [.null, .null, .null, .int 0]))]) [(cI, .int), (cZ, .boolean)] [.ref q] kc_0 sz) (va_Qv (fun _ : Nat → Nat => True) (fun u t => va_P (dC, dI) zzCl ([(q, .inr (3, [.ref (u 0), .ref (u 1), .ref (u 2), .int 0])), (u 0, .inl (cI, 20, .inl (fun _ => 0))), (u 1, .inl (cI, 20, .inl (fun _ => 0))), (u 2, .inl (cI, 20, .inl (fun _ => 0)))]) t.heap ∧ va_K (dC, dI) zzCl [(cI, .int), (cZ, .boolean)] t ∧ va_D (va_A [(q, .inr (3, [.null, .null, .null, .int 0]))] sz) ([(q, .inr (3, [.ref (u 0), .ref (u 1), .ref (u 2), .int 0])), (u 0, .inl (cI, 20, .inl (fun _ => 0))), (u 1, .inl (cI, 20, .inl (fun _ => 0))), (u 2, .inl (cI, 20, .inl (fun _ => 0)))])) (va_A [(q, .inr (3, [.null, .null, .null, .int 0]))] sz)) 3 60 (va_A [(q, .inr (3, [.null, .null, .null, .int 0]))] sz) := by
  refine Met.ofW (cc := cc_ta_init) (maxL := 1) (ret := none) (by decide) rfl ?_
  intro p e s m args below meth c s₁ B hml hv
  obtain ⟨hav, hsz, hP, hK, hD0, hN⟩ := hv
  have hx := B.exec
  have hb := B.bytes
  have hr := B.returns
  have hts := atoms_spec (ws := ww_ta_init) B.pre
  have hown : s.vm.findClass "SpotContours$Tags" = some m.cls := findClass_of_methodNamed B.named
  have hin : meth.name = "<init>" := (name_of_methodNamed B.named B.method).1
  subst hsz
  have hD := hD0.self (sz := s.heap.size)
  generalize hAe : va_A [(q, .inr (3, [.null, .null, .null, .int 0]))] s.heap.size = A at hD ⊢
  have hA : ∀ q : Nat, s.heap.size ≤ q → A q := fun q h => by rw [← hAe]; exact Or.inr h
  have hS : va_S A s.heap s.heap [] := va_S.rf
  have he9 := lg_entry_eq m [.ref q] 1
  rw [← hav] at he9
  rw [he9]
  have hl := lv_entry [.ref q] (n := 1) (Nat.le_of_ble_eq_true rfl)
  generalize (lg_sl [.ref q] ++ List.replicate (1 - (lg_sl [.ref q]).length) Slot.unset).toArray = ls at hl ⊢
  have hl : lv_has ls 1 [(0, .ref q)] := hl
  have hin__ta : ∀ w ∈ u_ws R_ta T_ta 4, w ∈ ww_ta_init := fun w h => zz_in (hin0_ta w h)
  refine lv_aload_n hx hb d_ta_init_0 rfl (lv_at hl 0 rfl) ?_
  refine W.objInit hx hb hown (hts _ (zz_in wk_7)) (hts _ (zz_in wk_1)) (hts _ (zz_in wk_2)) rfl (by rw [hml]; exact hl.1) rfl d_ta_init_1 (Nat.le_of_ble_eq_true rfl) (Nat.le_of_ble_eq_true rfl) ?_
  refine W.eq (g2 := F0 m 4 ls []) rfl ?_
  refine lv_aload_n hx hb d_ta_init_4 rfl (lv_at hl 0 rfl) ?_
  refine lv_bipush (v := 20) hx hb d_ta_init_5 (by decide) ?_
  refine zz_newt (atype := .int) (ty := .int) (a0 := (20, .inl (fun _ => 0))) hx hb (hts _ (zz_in wk_3)) rfl hK hP hD hS hA 0 rfl (fun _ h => h) (fun _ => rfl) (by decide) (by decide) (by decide) (Nat.le_of_ble_eq_true rfl) (Nat.le_of_ble_eq_true rfl) d_ta_init_7 (fun q1 H hP hD hS => ?_)
  have hP : va_P (dC, dI) zzCl [(q, .inr (3, [.null, .null, .null, .int 0])), (q1, .inl (cI, 20, .inl (fun _ => 0)))] H := hP
  have hD : va_D A [(q, .inr (3, [.null, .null, .null, .int 0])), (q1, .inl (cI, 20, .inl (fun _ => 0)))] := hD
  refine va_putF (D := (dC, dI)) (ci := 3) (v := .ref q1) (ty := .array .int) (C := R_ta) (T := T_ta) (N := 4) hx hb hts hin__ta ty_ta tok_ta nmd_ta hown hK hP hD hS 0 rfl rfl 0 (by decide) (hts _ (zz_in wk_8)) (fun _ h9 => h9) rfl hin rfl (by decide +kernel) rfl rfl (Nat.le_of_ble_eq_true rfl) d_ta_init_9 (fun H locs hP hD hS => ?_)
  have hP : va_P (dC, dI) zzCl [(q, .inr (3, [.ref q1, .null, .null, .int 0])), (q1, .inl (cI, 20, .inl (fun _ => 0)))] H := hP
  have hD : va_D A [(q, .inr (3, [.ref q1, .null, .null, .int 0])), (q1, .inl (cI, 20, .inl (fun _ => 0)))] := hD
  refine lv_aload_n hx hb d_ta_init_12 rfl (lv_at hl 0 rfl) ?_
  refine lv_bipush (v := 20) hx hb d_ta_init_13 (by decide) ?_
  refine zz_newt (atype := .int) (ty := .int) (a0 := (20, .inl (fun _ => 0))) hx hb (hts _ (zz_in wk_3)) rfl hK hP hD hS hA 0 rfl (fun _ h => h) (fun _ => rfl) (by decide) (by decide) (by decide) (Nat.le_of_ble_eq_true rfl) (Nat.le_of_ble_eq_true rfl) d_ta_init_15 (fun q2 H hP hD hS => ?_)
  have hP : va_P (dC, dI) zzCl [(q, .inr (3, [.ref q1, .null, .null, .int 0])), (q1, .inl (cI, 20, .inl (fun _ => 0))), (q2, .inl (cI, 20, .inl (fun _ => 0)))] H := hP
  have hD : va_D A [(q, .inr (3, [.ref q1, .null, .null, .int 0])), (q1, .inl (cI, 20, .inl (fun _ => 0))), (q2, .inl (cI, 20, .inl (fun _ => 0)))] := hD
  refine va_putF (D := (dC, dI)) (ci := 3) (v := .ref q2) (ty := .array .int) (C := R_ta) (T := T_ta) (N := 4) hx hb hts hin__ta ty_ta tok_ta nmd_ta hown hK hP hD hS 0 rfl rfl 1 (by decide) (hts _ (zz_in wk_9)) (fun _ h9 => h9) rfl hin rfl (by decide +kernel) rfl rfl (Nat.le_of_ble_eq_true rfl) d_ta_init_17 (fun H locs hP hD hS => ?_)
  have hP : va_P (dC, dI) zzCl [(q, .inr (3, [.ref q1, .ref q2, .null, .int 0])), (q1, .inl (cI, 20, .inl (fun _ => 0))), (q2, .inl (cI, 20, .inl (fun _ => 0)))] H := hP
  have hD : va_D A [(q, .inr (3, [.ref q1, .ref q2, .null, .int 0])), (q1, .inl (cI, 20, .inl (fun _ => 0))), (q2, .inl (cI, 20, .inl (fun _ => 0)))] := hD
  refine lv_aload_n hx hb d_ta_init_20 rfl (lv_at hl 0 rfl) ?_
  refine lv_bipush (v := 20) hx hb d_ta_init_21 (by decide) ?_
  refine zz_newt (atype := .int) (ty := .int) (a0 := (20, .inl (fun _ => 0))) hx hb (hts _ (zz_in wk_3)) rfl hK hP hD hS hA 0 rfl (fun _ h => h) (fun _ => rfl) (by decide) (by decide) (by decide) (Nat.le_of_ble_eq_true rfl) (Nat.le_of_ble_eq_true rfl) d_ta_init_23 (fun q3 H hP hD hS => ?_)
  have hP : va_P (dC, dI) zzCl [(q, .inr (3, [.ref q1, .ref q2, .null, .int 0])), (q1, .inl (cI, 20, .inl (fun _ => 0))), (q2, .inl (cI, 20, .inl (fun _ => 0))), (q3, .inl (cI, 20, .inl (fun _ => 0)))] H := hP
  have hD : va_D A [(q, .inr (3, [.ref q1, .ref q2, .null, .int 0])), (q1, .inl (cI, 20, .inl (fun _ => 0))), (q2, .inl (cI, 20, .inl (fun _ => 0))), (q3, .inl (cI, 20, .inl (fun _ => 0)))] := hD
  refine va_putF (D := (dC, dI)) (ci := 3) (v := .ref q3) (ty := .array .int) (C := R_ta) (T := T_ta) (N := 4) hx hb hts hin__ta ty_ta tok_ta nmd_ta hown hK hP hD hS 0 rfl rfl 2 (by decide) (hts _ (zz_in wk_10)) (fun _ h9 => h9) rfl hin rfl (by decide +kernel) rfl rfl (Nat.le_of_ble_eq_true rfl) d_ta_init_25 (fun H locs hP hD hS => ?_)
  have hP : va_P (dC, dI) zzCl [(q, .inr (3, [.ref q1, .ref q2, .ref q3, .int 0])), (q1, .inl (cI, 20, .inl (fun _ => 0))), (q2, .inl (cI, 20, .inl (fun _ => 0))), (q3, .inl (cI, 20, .inl (fun _ => 0)))] H := hP
  have hD : va_D A [(q, .inr (3, [.ref q1, .ref q2, .ref q3, .int 0])), (q1, .inl (cI, 20, .inl (fun _ => 0))), (q2, .inl (cI, 20, .inl (fun _ => 0))), (q3, .inl (cI, 20, .inl (fun _ => 0)))] := hD
  refine W.widen (k := 3) (n := 60) (Nat.le_of_ble_eq_true rfl) (Nat.le_of_ble_eq_true rfl) ?_
  exact W.vret hx hb hr (fun t ht hW => ⟨⟨(fun k => [q1, q2, q3].getD k 0), rfl, trivial, by rw [ht]; exact hP, va_K.moved hW.alike hK, hD⟩, hS.F ht⟩) hS.2.2 d_ta_init_28
abbrev rm_li_init : Room := { frames := 1, cells := 5, slots := 633, locals := 12 }
set_option maxHeartbeats 4000000 in
set_option maxRecDepth 100000 in
theorem mc_li_init (l : Launch) (dC : Nat → ClassId) (dI : Nat → Nat → Nat) (q : Nat) (cI cZ : ClassId) (sz : Nat) : Met l yy_li_init ww_li_init rm_li_init (zz_Pre (dC, dI) (fun _ => [(q, .inr (0, [.null, .null, .null, .null, .null, .int 0]))]) [(cI, .int), (cZ, .boolean)] [.ref q] kc_0 sz) (va_Qv (fun _ : Nat → Nat => True) (fun u t => va_P (dC, dI) zzCl ([(q, .inr (0, [.ref (u 0), .ref (u 1), .ref (u 2), .ref (u 3), .ref (u 4), .int 0])), (u 0, .inl (cZ, 16, .inl (fun _ => 0))), (u 1, .inl (cI, 120, .inl (fun _ => 0))), (u 2, .inl (cI, 121, .inl (fun _ => 0))), (u 3, .inl (cZ, 120, .inl (fun _ => 0))), (u 4, .inl (cZ, 256, .inl (fun _ => 0)))]) t.heap ∧ va_K (dC, dI) zzCl [(cI, .int), (cZ, .boolean)] t ∧ va_D (va_A [(q, .inr (0, [.null, .null, .null, .null, .null, .int 0]))] sz) ([(q, .inr (0, [.ref (u 0), .ref (u 1), .ref (u 2), .ref (u 3), .ref (u 4), .int 0])), (u 0, .inl (cZ, 16, .inl (fun _ => 0))), (u 1, .inl (cI, 120, .inl (fun _ => 0))), (u 2, .inl (cI, 121, .inl (fun _ => 0))), (u 3, .inl (cZ, 120, .inl (fun _ => 0))), (u 4, .inl (cZ, 256, .inl (fun _ => 0)))])) (va_A [(q, .inr (0, [.null, .null, .null, .null, .null, .int 0]))] sz)) 5 633 (va_A [(q, .inr (0, [.null, .null, .null, .null, .null, .int 0]))] sz) := by
  refine Met.ofW (cc := cc_li_init) (maxL := 1) (ret := none) (by decide) rfl ?_
  intro p e s m args below meth c s₁ B hml hv
  obtain ⟨hav, hsz, hP, hK, hD0, hN⟩ := hv
  have hx := B.exec
  have hb := B.bytes
  have hr := B.returns
  have hts := atoms_spec (ws := ww_li_init) B.pre
  have hown : s.vm.findClass "SpotContours$Lines" = some m.cls := findClass_of_methodNamed B.named
  have hin : meth.name = "<init>" := (name_of_methodNamed B.named B.method).1
  subst hsz
  have hD := hD0.self (sz := s.heap.size)
  generalize hAe : va_A [(q, .inr (0, [.null, .null, .null, .null, .null, .int 0]))] s.heap.size = A at hD ⊢
  have hA : ∀ q : Nat, s.heap.size ≤ q → A q := fun q h => by rw [← hAe]; exact Or.inr h
  have hS : va_S A s.heap s.heap [] := va_S.rf
  have he9 := lg_entry_eq m [.ref q] 1
  rw [← hav] at he9
  rw [he9]
  have hl := lv_entry [.ref q] (n := 1) (Nat.le_of_ble_eq_true rfl)
  generalize (lg_sl [.ref q] ++ List.replicate (1 - (lg_sl [.ref q]).length) Slot.unset).toArray = ls at hl ⊢
  have hl : lv_has ls 1 [(0, .ref q)] := hl
  have hin__li : ∀ w ∈ u_ws R_li T_li 6, w ∈ ww_li_init := fun w h => zz_in (hin0_li w h)
  refine lv_aload_n hx hb d_li_init_0 rfl (lv_at hl 0 rfl) ?_
  refine W.objInit hx hb hown (hts _ (zz_in wk_11)) (hts _ (zz_in wk_1)) (hts _ (zz_in wk_2)) rfl (by rw [hml]; exact hl.1) rfl d_li_init_1 (Nat.le_of_ble_eq_true rfl) (Nat.le_of_ble_eq_true rfl) ?_
  refine W.eq (g2 := F0 m 4 ls []) rfl ?_
  refine lv_aload_n hx hb d_li_init_4 rfl (lv_at hl 0 rfl) ?_
  refine lv_bipush (v := 16) hx hb d_li_init_5 (by decide) ?_
  refine zz_newt (atype := .boolean) (ty := .boolean) (a0 := (16, .inl (fun _ => 0))) hx hb (hts _ (zz_in wk_12)) rfl hK hP hD hS hA 1 rfl (fun _ h => h) (fun _ => rfl) (by decide) (by decide) (by decide) (Nat.le_of_ble_eq_true rfl) (Nat.le_of_ble_eq_true rfl) d_li_init_7 (fun q1 H hP hD hS => ?_)
  have hP : va_P (dC, dI) zzCl [(q, .inr (0, [.null, .null, .null, .null, .null, .int 0])), (q1, .inl (cZ, 16, .inl (fun _ => 0)))] H := hP
  have hD : va_D A [(q, .inr (0, [.null, .null, .null, .null, .null, .int 0])), (q1, .inl (cZ, 16, .inl (fun _ => 0)))] := hD
  refine va_putF (D := (dC, dI)) (ci := 0) (v := .ref q1) (ty := .array .boolean) (C := R_li) (T := T_li) (N := 6) hx hb hts hin__li ty_li tok_li nmd_li hown hK hP hD hS 0 rfl rfl 0 (by decide) (hts _ (zz_in wk_13)) (fun _ h9 => h9) rfl hin rfl (by decide +kernel) rfl rfl (Nat.le_of_ble_eq_true rfl) d_li_init_9 (fun H locs hP hD hS => ?_)
  have hP : va_P (dC, dI) zzCl [(q, .inr (0, [.ref q1, .null, .null, .null, .null, .int 0])), (q1, .inl (cZ, 16, .inl (fun _ => 0)))] H := hP
  have hD : va_D A [(q, .inr (0, [.ref q1, .null, .null, .null, .null, .int 0])), (q1, .inl (cZ, 16, .inl (fun _ => 0)))] := hD
  refine lv_aload_n hx hb d_li_init_12 rfl (lv_at hl 0 rfl) ?_
  refine lv_bipush (v := 120) hx hb d_li_init_13 (by decide) ?_
  refine zz_newt (atype := .int) (ty := .int) (a0 := (120, .inl (fun _ => 0))) hx hb (hts _ (zz_in wk_3)) rfl hK hP hD hS hA 0 rfl (fun _ h => h) (fun _ => rfl) (by decide) (by decide) (by decide) (Nat.le_of_ble_eq_true rfl) (Nat.le_of_ble_eq_true rfl) d_li_init_15 (fun q2 H hP hD hS => ?_)
  have hP : va_P (dC, dI) zzCl [(q, .inr (0, [.ref q1, .null, .null, .null, .null, .int 0])), (q1, .inl (cZ, 16, .inl (fun _ => 0))), (q2, .inl (cI, 120, .inl (fun _ => 0)))] H := hP
  have hD : va_D A [(q, .inr (0, [.ref q1, .null, .null, .null, .null, .int 0])), (q1, .inl (cZ, 16, .inl (fun _ => 0))), (q2, .inl (cI, 120, .inl (fun _ => 0)))] := hD
  refine va_putF (D := (dC, dI)) (ci := 0) (v := .ref q2) (ty := .array .int) (C := R_li) (T := T_li) (N := 6) hx hb hts hin__li ty_li tok_li nmd_li hown hK hP hD hS 0 rfl rfl 1 (by decide) (hts _ (zz_in wk_14)) (fun _ h9 => h9) rfl hin rfl (by decide +kernel) rfl rfl (Nat.le_of_ble_eq_true rfl) d_li_init_17 (fun H locs hP hD hS => ?_)
  have hP : va_P (dC, dI) zzCl [(q, .inr (0, [.ref q1, .ref q2, .null, .null, .null, .int 0])), (q1, .inl (cZ, 16, .inl (fun _ => 0))), (q2, .inl (cI, 120, .inl (fun _ => 0)))] H := hP
  have hD : va_D A [(q, .inr (0, [.ref q1, .ref q2, .null, .null, .null, .int 0])), (q1, .inl (cZ, 16, .inl (fun _ => 0))), (q2, .inl (cI, 120, .inl (fun _ => 0)))] := hD
  refine lv_aload_n hx hb d_li_init_20 rfl (lv_at hl 0 rfl) ?_
  refine lv_bipush (v := 121) hx hb d_li_init_21 (by decide) ?_
  refine zz_newt (atype := .int) (ty := .int) (a0 := (121, .inl (fun _ => 0))) hx hb (hts _ (zz_in wk_3)) rfl hK hP hD hS hA 0 rfl (fun _ h => h) (fun _ => rfl) (by decide) (by decide) (by decide) (Nat.le_of_ble_eq_true rfl) (Nat.le_of_ble_eq_true rfl) d_li_init_23 (fun q3 H hP hD hS => ?_)
  have hP : va_P (dC, dI) zzCl [(q, .inr (0, [.ref q1, .ref q2, .null, .null, .null, .int 0])), (q1, .inl (cZ, 16, .inl (fun _ => 0))), (q2, .inl (cI, 120, .inl (fun _ => 0))), (q3, .inl (cI, 121, .inl (fun _ => 0)))] H := hP
  have hD : va_D A [(q, .inr (0, [.ref q1, .ref q2, .null, .null, .null, .int 0])), (q1, .inl (cZ, 16, .inl (fun _ => 0))), (q2, .inl (cI, 120, .inl (fun _ => 0))), (q3, .inl (cI, 121, .inl (fun _ => 0)))] := hD
  refine va_putF (D := (dC, dI)) (ci := 0) (v := .ref q3) (ty := .array .int) (C := R_li) (T := T_li) (N := 6) hx hb hts hin__li ty_li tok_li nmd_li hown hK hP hD hS 0 rfl rfl 2 (by decide) (hts _ (zz_in wk_15)) (fun _ h9 => h9) rfl hin rfl (by decide +kernel) rfl rfl (Nat.le_of_ble_eq_true rfl) d_li_init_25 (fun H locs hP hD hS => ?_)
  have hP : va_P (dC, dI) zzCl [(q, .inr (0, [.ref q1, .ref q2, .ref q3, .null, .null, .int 0])), (q1, .inl (cZ, 16, .inl (fun _ => 0))), (q2, .inl (cI, 120, .inl (fun _ => 0))), (q3, .inl (cI, 121, .inl (fun _ => 0)))] H := hP
  have hD : va_D A [(q, .inr (0, [.ref q1, .ref q2, .ref q3, .null, .null, .int 0])), (q1, .inl (cZ, 16, .inl (fun _ => 0))), (q2, .inl (cI, 120, .inl (fun _ => 0))), (q3, .inl (cI, 121, .inl (fun _ => 0)))] := hD
  refine lv_aload_n hx hb d_li_init_28 rfl (lv_at hl 0 rfl) ?_
  refine lv_bipush (v := 120) hx hb d_li_init_29 (by decide) ?_
  refine zz_newt (atype := .boolean) (ty := .boolean) (a0 := (120, .inl (fun _ => 0))) hx hb (hts _ (zz_in wk_12)) rfl hK hP hD hS hA 1 rfl (fun _ h => h) (fun _ => rfl) (by decide) (by decide) (by decide) (Nat.le_of_ble_eq_true rfl) (Nat.le_of_ble_eq_true rfl) d_li_init_31 (fun q4 H hP hD hS => ?_)
  have hP : va_P (dC, dI) zzCl [(q, .inr (0, [.ref q1, .ref q2, .ref q3, .null, .null, .int 0])), (q1, .inl (cZ, 16, .inl (fun _ => 0))), (q2, .inl (cI, 120, .inl (fun _ => 0))), (q3, .inl (cI, 121, .inl (fun _ => 0))), (q4, .inl (cZ, 120, .inl (fun _ => 0)))] H := hP
  have hD : va_D A [(q, .inr (0, [.ref q1, .ref q2, .ref q3, .null, .null, .int 0])), (q1, .inl (cZ, 16, .inl (fun _ => 0))), (q2, .inl (cI, 120, .inl (fun _ => 0))), (q3, .inl (cI, 121, .inl (fun _ => 0))), (q4, .inl (cZ, 120, .inl (fun _ => 0)))] := hD
  refine va_putF (D := (dC, dI)) (ci := 0) (v := .ref q4) (ty := .array .boolean) (C := R_li) (T := T_li) (N := 6) hx hb hts hin__li ty_li tok_li nmd_li hown hK hP hD hS 0 rfl rfl 3 (by decide) (hts _ (zz_in wk_16)) (fun _ h9 => h9) rfl hin rfl (by decide +kernel) rfl rfl (Nat.le_of_ble_eq_true rfl) d_li_init_33 (fun H locs hP hD hS => ?_)
  have hP : va_P (dC, dI) zzCl [(q, .inr (0, [.ref q1, .ref q2, .ref q3, .ref q4, .null, .int 0])), (q1, .inl (cZ, 16, .inl (fun _ => 0))), (q2, .inl (cI, 120, .inl (fun _ => 0))), (q3, .inl (cI, 121, .inl (fun _ => 0))), (q4, .inl (cZ, 120, .inl (fun _ => 0)))] H := hP
  have hD : va_D A [(q, .inr (0, [.ref q1, .ref q2, .ref q3, .ref q4, .null, .int 0])), (q1, .inl (cZ, 16, .inl (fun _ => 0))), (q2, .inl (cI, 120, .inl (fun _ => 0))), (q3, .inl (cI, 121, .inl (fun _ => 0))), (q4, .inl (cZ, 120, .inl (fun _ => 0)))] := hD
  refine lv_aload_n hx hb d_li_init_36 rfl (lv_at hl 0 rfl) ?_
  refine lv_sipush (v := 256) hx hb d_li_init_37 (by decide) ?_
  refine zz_newt (atype := .boolean) (ty := .boolean) (a0 := (256, .inl (fun _ => 0))) hx hb (hts _ (zz_in wk_12)) rfl hK hP hD hS hA 1 rfl (fun _ h => h) (fun _ => rfl) (by decide) (by decide) (by decide) (Nat.le_of_ble_eq_true rfl) (Nat.le_of_ble_eq_true rfl) d_li_init_40 (fun q5 H hP hD hS => ?_)
  have hP : va_P (dC, dI) zzCl [(q, .inr (0, [.ref q1, .ref q2, .ref q3, .ref q4, .null, .int 0])), (q1, .inl (cZ, 16, .inl (fun _ => 0))), (q2, .inl (cI, 120, .inl (fun _ => 0))), (q3, .inl (cI, 121, .inl (fun _ => 0))), (q4, .inl (cZ, 120, .inl (fun _ => 0))), (q5, .inl (cZ, 256, .inl (fun _ => 0)))] H := hP
  have hD : va_D A [(q, .inr (0, [.ref q1, .ref q2, .ref q3, .ref q4, .null, .int 0])), (q1, .inl (cZ, 16, .inl (fun _ => 0))), (q2, .inl (cI, 120, .inl (fun _ => 0))), (q3, .inl (cI, 121, .inl (fun _ => 0))), (q4, .inl (cZ, 120, .inl (fun _ => 0))), (q5, .inl (cZ, 256, .inl (fun _ => 0)))] := hD
  refine va_putF (D := (dC, dI)) (ci := 0) (v := .ref q5) (ty := .array .boolean) (C := R_li) (T := T_li) (N := 6) hx hb hts hin__li ty_li tok_li nmd_li hown hK hP hD hS 0 rfl rfl 4 (by decide) (hts _ (zz_in wk_17)) (fun _ h9 => h9) rfl hin rfl (by decide +kernel) rfl rfl (Nat.le_of_ble_eq_true rfl) d_li_init_42 (fun H locs hP hD hS => ?_)
  have hP : va_P (dC, dI) zzCl [(q, .inr (0, [.ref q1, .ref q2, .ref q3, .ref q4, .ref q5, .int 0])), (q1, .inl (cZ, 16, .inl (fun _ => 0))), (q2, .inl (cI, 120, .inl (fun _ => 0))), (q3, .inl (cI, 121, .inl (fun _ => 0))), (q4, .inl (cZ, 120, .inl (fun _ => 0))), (q5, .inl (cZ, 256, .inl (fun _ => 0)))] H := hP
  have hD : va_D A [(q, .inr (0, [.ref q1, .ref q2, .ref q3, .ref q4, .ref q5, .int 0])), (q1, .inl (cZ, 16, .inl (fun _ => 0))), (q2, .inl (cI, 120, .inl (fun _ => 0))), (q3, .inl (cI, 121, .inl (fun _ => 0))), (q4, .inl (cZ, 120, .inl (fun _ => 0))), (q5, .inl (cZ, 256, .inl (fun _ => 0)))] := hD
  refine W.widen (k := 5) (n := 633) (Nat.le_of_ble_eq_true rfl) (Nat.le_of_ble_eq_true rfl) ?_
  exact W.vret hx hb hr (fun t ht hW => ⟨⟨(fun k => [q1, q2, q3, q4, q5].getD k 0), rfl, trivial, by rw [ht]; exact hP, va_K.moved hW.alike hK, hD⟩, hS.F ht⟩) hS.2.2 d_li_init_45
abbrev rm_me_init : Room := { frames := 1, cells := 2, slots := 337, locals := 21 }
set_option maxHeartbeats 4000000 in
set_option maxRecDepth 100000 in
theorem mc_me_init (l : Launch) (dC : Nat → ClassId) (dI : Nat → Nat → Nat) (q : Nat) (cI cZ : ClassId) (sz : Nat) : Met l yy_me_init ww_me_init rm_me_init (zz_Pre (dC, dI) (fun _ => [(q, .inr (1, [.null, .null, .int 0]))]) [(cI, .int), (cZ, .boolean)] [.ref q] kc_0 sz) (va_Qv (fun u : (Nat → Nat) × St => u.2 2 2 = 0 ∧ ∀ i, i < 256 → u.2 9 i = -1) (fun u t => va_P (dC, dI) zzCl ([(q, .inr (1, [.ref (u.1 0), .ref (u.1 1), .int (u.2 2 2)])), (u.1 0, .inl (cI, 81, .inl (u.2 8))), (u.1 1, .inl (cI, 256, .inl (u.2 9)))]) t.heap ∧ va_K (dC, dI) zzCl [(cI, .int), (cZ, .boolean)] t ∧ va_D (va_A [(q, .inr (1, [.null, .null, .int 0]))] sz) ([(q, .inr (1, [.ref (u.1 0), .ref (u.1 1), .int (u.2 2 2)])), (u.1 0, .inl (cI, 81, .inl (u.2 8))), (u.1 1, .inl (cI, 256, .inl (u.2 9)))])) (va_A [(q, .inr (1, [.null, .null, .int 0]))] sz)) 2 337 (va_A [(q, .inr (1, [.null, .null, .int 0]))] sz) := by
  refine Met.ofW (cc := cc_me_init) (maxL := 1) (ret := none) (by decide) rfl ?_
  intro p e s m args below meth c s₁ B hml hv
  obtain ⟨hav, hsz, hP, hK, hD0, hN⟩ := hv
  have hx := B.exec
  have hb := B.bytes
  have hr := B.returns
  have hts := atoms_spec (ws := ww_me_init) B.pre
  have hown : s.vm.findClass "SpotContours$Mesh" = some m.cls := findClass_of_methodNamed B.named
  have hin : meth.name = "<init>" := (name_of_methodNamed B.named B.method).1
  subst hsz
  have hD := hD0.self (sz := s.heap.size)
  generalize hAe : va_A [(q, .inr (1, [.null, .null, .int 0]))] s.heap.size = A at hD ⊢
  have hA : ∀ q : Nat, s.heap.size ≤ q → A q := fun q h => by rw [← hAe]; exact Or.inr h
  have hS : va_S A s.heap s.heap [] := va_S.rf
  have he9 := lg_entry_eq m [.ref q] 1
  rw [← hav] at he9
  rw [he9]
  have hl := lv_entry [.ref q] (n := 1) (Nat.le_of_ble_eq_true rfl)
  generalize (lg_sl [.ref q] ++ List.replicate (1 - (lg_sl [.ref q]).length) Slot.unset).toArray = ls at hl ⊢
  have hl : lv_has ls 1 [(0, .ref q)] := hl
  have hin__me : ∀ w ∈ u_ws R_me T_me 3, w ∈ ww_me_init := fun w h => zz_in (hin0_me w h)
  refine lv_aload_n hx hb d_me_init_0 rfl (lv_at hl 0 rfl) ?_
  refine W.objInit hx hb hown (hts _ (zz_in wk_18)) (hts _ (zz_in wk_1)) (hts _ (zz_in wk_2)) rfl (by rw [hml]; exact hl.1) rfl d_me_init_1 (Nat.le_of_ble_eq_true rfl) (Nat.le_of_ble_eq_true rfl) ?_
  refine W.eq (g2 := F0 m 4 ls []) rfl ?_
  refine lv_aload_n hx hb d_me_init_4 rfl (lv_at hl 0 rfl) ?_
  refine lv_bipush (v := 81) hx hb d_me_init_5 (by decide) ?_
  refine zz_newt (atype := .int) (ty := .int) (a0 := (81, .inl (fun _ => 0))) hx hb (hts _ (zz_in wk_3)) rfl hK hP hD hS hA 0 rfl (fun _ h => h) (fun _ => rfl) (by decide) (by decide) (by decide) (Nat.le_of_ble_eq_true rfl) (Nat.le_of_ble_eq_true rfl) d_me_init_7 (fun q1 H hP hD hS => ?_)
  have hP : va_P (dC, dI) zzCl [(q, .inr (1, [.null, .null, .int 0])), (q1, .inl (cI, 81, .inl (fun _ => 0)))] H := hP
  have hD : va_D A [(q, .inr (1, [.null, .null, .int 0])), (q1, .inl (cI, 81, .inl (fun _ => 0)))] := hD
  refine va_putF (D := (dC, dI)) (ci := 1) (v := .ref q1) (ty := .array .int) (C := R_me) (T := T_me) (N := 3) hx hb hts hin__me ty_me tok_me nmd_me hown hK hP hD hS 0 rfl rfl 0 (by decide) (hts _ (zz_in wk_19)) (fun _ h9 => h9) rfl hin rfl (by decide +kernel) rfl rfl (Nat.le_of_ble_eq_true rfl) d_me_init_9 (fun H locs hP hD hS => ?_)
  have hP : va_P (dC, dI) zzCl [(q, .inr (1, [.ref q1, .null, .int 0])), (q1, .inl (cI, 81, .inl (fun _ => 0)))] H := hP
  have hD : va_D A [(q, .inr (1, [.ref q1, .null, .int 0])), (q1, .inl (cI, 81, .inl (fun _ => 0)))] := hD
  refine lv_aload_n hx hb d_me_init_12 rfl (lv_at hl 0 rfl) ?_
  refine lv_sipush (v := 256) hx hb d_me_init_13 (by decide) ?_
  refine zz_newt (atype := .int) (ty := .int) (a0 := (256, .inl (fun _ => 0))) hx hb (hts _ (zz_in wk_3)) rfl hK hP hD hS hA 0 rfl (fun _ h => h) (fun _ => rfl) (by decide) (by decide) (by decide) (Nat.le_of_ble_eq_true rfl) (Nat.le_of_ble_eq_true rfl) d_me_init_16 (fun q2 H hP hD hS => ?_)
  have hP : va_P (dC, dI) zzCl [(q, .inr (1, [.ref q1, .null, .int 0])), (q1, .inl (cI, 81, .inl (fun _ => 0))), (q2, .inl (cI, 256, .inl (fun _ => 0)))] H := hP
  have hD : va_D A [(q, .inr (1, [.ref q1, .null, .int 0])), (q1, .inl (cI, 81, .inl (fun _ => 0))), (q2, .inl (cI, 256, .inl (fun _ => 0)))] := hD
  refine va_putF (D := (dC, dI)) (ci := 1) (v := .ref q2) (ty := .array .int) (C := R_me) (T := T_me) (N := 3) hx hb hts hin__me ty_me tok_me nmd_me hown hK hP hD hS 0 rfl rfl 1 (by decide) (hts _ (zz_in wk_20)) (fun _ h9 => h9) rfl hin rfl (by decide +kernel) rfl rfl (Nat.le_of_ble_eq_true rfl) d_me_init_18 (fun H locs hP hD hS => ?_)
  have hP : va_P (dC, dI) zzCl [(q, .inr (1, [.ref q1, .ref q2, .int 0])), (q1, .inl (cI, 81, .inl (fun _ => 0))), (q2, .inl (cI, 256, .inl (fun _ => 0)))] H := hP
  have hD : va_D A [(q, .inr (1, [.ref q1, .ref q2, .int 0])), (q1, .inl (cI, 81, .inl (fun _ => 0))), (q2, .inl (cI, 256, .inl (fun _ => 0)))] := hD
  refine lv_aload_n hx hb d_me_init_21 rfl (lv_at hl 0 rfl) ?_
  obtain ⟨a, ea⟩ : ∃ z : Nat → Nat, z = (fun k => match k with | 2 => q | 8 => q1 | _ => q2) := ⟨_, rfl⟩
  have hP : va_P (dC, dI) zzCl (wE a cI cZ kc_0) H := by rw [ea]; exact hP
  have hD : va_D A (wE a cI cZ kc_0) := by rw [ea]; exact hD
  have hq : Value.ref q = .ref (a 2) := congrArg Value.ref (congrFun ea 2).symm
  rw [hq]
  refine zz_cv (va_runV (As := []) (rest := []) ⟨hx, hb, hml, hown, hts⟩ (mE_me_clear l dC dI a cI cZ _ kc_0 (fun g => g 2 2 = 0 ∧ ∀ i, i < 256 → g 9 i = -1) (me_clear (fun g h1 h2 _ => ⟨h1, h2⟩))) (zz_cwV 0 hts (zz_good wk_21) rfl rfl rfl wk_22 wk_23 wk_24 wk_25 (by decide +kernel) ⟨Nat.le_of_ble_eq_true rfl, Nat.le_of_ble_eq_true rfl⟩) ⟨zz_blind, va_recv hK hP rfl (wE_0 a cI cZ kc_0), zz_pre hP hK hD hN⟩ rfl rfl hl.1 rfl (lv_room (Nat.le_of_ble_eq_true rfl)) d_me_init_22 ⟨Nat.le_of_ble_eq_true rfl, Nat.le_of_ble_eq_true rfl⟩) hD hS hA (fun g1 H locs hg hP hD hS => ?_)
  rw [ea] at hP hD
  refine W.widen (k := 2) (n := 337) (Nat.le_of_ble_eq_true rfl) (Nat.le_of_ble_eq_true rfl) ?_
  exact W.vret hx hb hr (fun t ht hW => ⟨⟨((fun k => [q1, q2].getD k 0), g1), rfl, hg, by rw [ht]; exact hP, va_K.moved hW.alike hK, hD⟩, hS.F ht⟩) hS.2.2 d_me_init_25
abbrev rm_mo_init : Room := { frames := 1, cells := 15, slots := 2052, locals := 12 }
set_option maxHeartbeats 4000000 in
set_option maxRecDepth 100000 in
theorem mc_mo_init (l : Launch) (dC : Nat → ClassId) (dI : Nat → Nat → Nat) (q : Nat) (cI cZ : ClassId) (sz : Nat) : Met l yy_mo_init ww_mo_init rm_mo_init (zz_Pre (dC, dI) (fun _ => [(q, .inr (5, [.int 0, .int 0, .null, .null, .null, .int 0, .null, .null, .null, .null, .null, .int 0, .null, .null, .null, .int 0, .null, .int 0, .null, .null, .null]))]) [(cI, .int), (cZ, .boolean)] [.ref q] kc_0 sz) (va_Qv (fun u : Nat → Nat => u 0 = q) (fun u t => va_P (dC, dI) zzCl (wM u cI cZ kc_0) t.heap ∧ va_K (dC, dI) zzCl [(cI, .int), (cZ, .boolean)] t ∧ va_D (va_A [(q, .inr (5, [.int 0, .int 0, .null, .null, .null, .int 0, .null, .null, .null, .null, .null, .int 0, .null, .null, .null, .int 0, .null, .int 0, .null, .null, .null]))] sz) (wM u cI cZ kc_0)) (va_A [(q, .inr (5, [.int 0, .int 0, .null, .null, .null, .int 0, .null, .null, .null, .null, .null, .int 0, .null, .null, .null, .int 0, .null, .int 0, .null, .null, .null]))] sz)) 15 2052 (va_A [(q, .inr (5, [.int 0, .int 0, .null, .null, .null, .int 0, .null, .null, .null, .null, .null, .int 0, .null, .null, .null, .int 0, .null, .int 0, .null, .null, .null]))] sz) := by
  refine Met.ofW (cc := cc_mo_init) (maxL := 1) (ret := none) (by decide) rfl ?_
  intro p e s m args below meth c s₁ B hml hv
  obtain ⟨hav, hsz, hP, hK, hD0, hN⟩ := hv
  have hx := B.exec
  have hb := B.bytes
  have hr := B.returns
  have hts := atoms_spec (ws := ww_mo_init) B.pre
  have hown : s.vm.findClass "SpotContoursModel" = some m.cls := findClass_of_methodNamed B.named
  have hin : meth.name = "<init>" := (name_of_methodNamed B.named B.method).1
  subst hsz
  have hD := hD0.self (sz := s.heap.size)
  generalize hAe : va_A [(q, .inr (5, [.int 0, .int 0, .null, .null, .null, .int 0, .null, .null, .null, .null, .null, .int 0, .null, .null, .null, .int 0, .null, .int 0, .null, .null, .null]))] s.heap.size = A at hD ⊢
  have hA : ∀ q : Nat, s.heap.size ≤ q → A q := fun q h => by rw [← hAe]; exact Or.inr h
  have hS : va_S A s.heap s.heap [] := va_S.rf
  have he9 := lg_entry_eq m [.ref q] 1
  rw [← hav] at he9
  rw [he9]
  have hl := lv_entry [.ref q] (n := 1) (Nat.le_of_ble_eq_true rfl)
  generalize (lg_sl [.ref q] ++ List.replicate (1 - (lg_sl [.ref q]).length) Slot.unset).toArray = ls at hl ⊢
  have hl : lv_has ls 1 [(0, .ref q)] := hl
  have hin__mo : ∀ w ∈ u_ws R_mo T_mo 21, w ∈ ww_mo_init := fun w h => zz_in (hin0_mo w h)
  refine lv_aload_n hx hb d_mo_init_0 rfl (lv_at hl 0 rfl) ?_
  refine W.objInit hx hb hown (hts _ (zz_in wk_26)) (hts _ (zz_in wk_1)) (hts _ (zz_in wk_2)) rfl (by rw [hml]; exact hl.1) rfl d_mo_init_1 (Nat.le_of_ble_eq_true rfl) (Nat.le_of_ble_eq_true rfl) ?_
  refine W.eq (g2 := F0 m 4 ls []) rfl ?_
  refine lv_aload_n hx hb d_mo_init_4 rfl (lv_at hl 0 rfl) ?_
  refine lv_bipush (v := 16) hx hb d_mo_init_5 (by decide) ?_
  refine zz_newt (atype := .int) (ty := .int) (a0 := (16, .inl (fun _ => 0))) hx hb (hts _ (zz_in wk_3)) rfl hK hP hD hS hA 0 rfl (fun _ h => h) (fun _ => rfl) (by decide) (by decide) (by decide) (Nat.le_of_ble_eq_true rfl) (Nat.le_of_ble_eq_true rfl) d_mo_init_7 (fun q1 H hP hD hS => ?_)
  have hP : va_P (dC, dI) zzCl [(q, .inr (5, [.int 0, .int 0, .null, .null, .null, .int 0, .null, .null, .null, .null, .null, .int 0, .null, .null, .null, .int 0, .null, .int 0, .null, .null, .null])), (q1, .inl (cI, 16, .inl (fun _ => 0)))] H := hP
  have hD : va_D A [(q, .inr (5, [.int 0, .int 0, .null, .null, .null, .int 0, .null, .null, .null, .null, .null, .int 0, .null, .null, .null, .int 0, .null, .int 0, .null, .null, .null])), (q1, .inl (cI, 16, .inl (fun _ => 0)))] := hD
  refine va_putF (D := (dC, dI)) (ci := 5) (v := .ref q1) (ty := .array .int) (C := R_mo) (T := T_mo) (N := 21) hx hb hts hin__mo ty_mo tok_mo nmd_mo hown hK hP hD hS 0 rfl rfl 2 (by decide) (hts _ (zz_in wk_27)) (fun _ h9 => h9) rfl hin rfl (by decide +kernel) rfl rfl (Nat.le_of_ble_eq_true rfl) d_mo_init_9 (fun H locs hP hD hS => ?_)
  have hP : va_P (dC, dI) zzCl [(q, .inr (5, [.int 0, .int 0, .ref q1, .null, .null, .int 0, .null, .null, .null, .null, .null, .int 0, .null, .null, .null, .int 0, .null, .int 0, .null, .null, .null])), (q1, .inl (cI, 16, .inl (fun _ => 0)))] H := hP
  have hD : va_D A [(q, .inr (5, [.int 0, .int 0, .ref q1, .null, .null, .int 0, .null, .null, .null, .null, .null, .int 0, .null, .null, .null, .int 0, .null, .int 0, .null, .null, .null])), (q1, .inl (cI, 16, .inl (fun _ => 0)))] := hD
  refine lv_aload_n hx hb d_mo_init_12 rfl (lv_at hl 0 rfl) ?_
  refine lv_bipush (v := 16) hx hb d_mo_init_13 (by decide) ?_
  refine zz_newt (atype := .int) (ty := .int) (a0 := (16, .inl (fun _ => 0))) hx hb (hts _ (zz_in wk_3)) rfl hK hP hD hS hA 0 rfl (fun _ h => h) (fun _ => rfl) (by decide) (by decide) (by decide) (Nat.le_of_ble_eq_true rfl) (Nat.le_of_ble_eq_true rfl) d_mo_init_15 (fun q2 H hP hD hS => ?_)
  have hP : va_P (dC, dI) zzCl [(q, .inr (5, [.int 0, .int 0, .ref q1, .null, .null, .int 0, .null, .null, .null, .null, .null, .int 0, .null, .null, .null, .int 0, .null, .int 0, .null, .null, .null])), (q1, .inl (cI, 16, .inl (fun _ => 0))), (q2, .inl (cI, 16, .inl (fun _ => 0)))] H := hP
  have hD : va_D A [(q, .inr (5, [.int 0, .int 0, .ref q1, .null, .null, .int 0, .null, .null, .null, .null, .null, .int 0, .null, .null, .null, .int 0, .null, .int 0, .null, .null, .null])), (q1, .inl (cI, 16, .inl (fun _ => 0))), (q2, .inl (cI, 16, .inl (fun _ => 0)))] := hD
  refine va_putF (D := (dC, dI)) (ci := 5) (v := .ref q2) (ty := .array .int) (C := R_mo) (T := T_mo) (N := 21) hx hb hts hin__mo ty_mo tok_mo nmd_mo hown hK hP hD hS 0 rfl rfl 3 (by decide) (hts _ (zz_in wk_28)) (fun _ h9 => h9) rfl hin rfl (by decide +kernel) rfl rfl (Nat.le_of_ble_eq_true rfl) d_mo_init_17 (fun H locs hP hD hS => ?_)
  have hP : va_P (dC, dI) zzCl [(q, .inr (5, [.int 0, .int 0, .ref q1, .ref q2, .null, .int 0, .null, .null, .null, .null, .null, .int 0, .null, .null, .null, .int 0, .null, .int 0, .null, .null, .null])), (q1, .inl (cI, 16, .inl (fun _ => 0))), (q2, .inl (cI, 16, .inl (fun _ => 0)))] H := hP
  have hD : va_D A [(q, .inr (5, [.int 0, .int 0, .ref q1, .ref q2, .null, .int 0, .null, .null, .null, .null, .null, .int 0, .null, .null, .null, .int 0, .null, .int 0, .null, .null, .null])), (q1, .inl (cI, 16, .inl (fun _ => 0))), (q2, .inl (cI, 16, .inl (fun _ => 0)))] := hD
  refine lv_aload_n hx hb d_mo_init_20 rfl (lv_at hl 0 rfl) ?_
  refine lv_bipush (v := 16) hx hb d_mo_init_21 (by decide) ?_
  refine zz_newt (atype := .int) (ty := .int) (a0 := (16, .inl (fun _ => 0))) hx hb (hts _ (zz_in wk_3)) rfl hK hP hD hS hA 0 rfl (fun _ h => h) (fun _ => rfl) (by decide) (by decide) (by decide) (Nat.le_of_ble_eq_true rfl) (Nat.le_of_ble_eq_true rfl) d_mo_init_23 (fun q3 H hP hD hS => ?_)
  have hP : va_P (dC, dI) zzCl [(q, .inr (5, [.int 0, .int 0, .ref q1, .ref q2, .null, .int 0, .null, .null, .null, .null, .null, .int 0, .null, .null, .null, .int 0, .null, .int 0, .null, .null, .null])), (q1, .inl (cI, 16, .inl (fun _ => 0))), (q2, .inl (cI, 16, .inl (fun _ => 0))), (q3, .inl (cI, 16, .inl (fun _ => 0)))] H := hP
  have hD : va_D A [(q, .inr (5, [.int 0, .int 0, .ref q1, .ref q2, .null, .int 0, .null, .null, .null, .null, .null, .int 0, .null, .null, .null, .int 0, .null, .int 0, .null, .null, .null])), (q1, .inl (cI, 16, .inl (fun _ => 0))), (q2, .inl (cI, 16, .inl (fun _ => 0))), (q3, .inl (cI, 16, .inl (fun _ => 0)))] := hD
  refine va_putF (D := (dC, dI)) (ci := 5) (v := .ref q3) (ty := .array .int) (C := R_mo) (T := T_mo) (N := 21) hx hb hts hin__mo ty_mo tok_mo nmd_mo hown hK hP hD hS 0 rfl rfl 4 (by decide) (hts _ (zz_in wk_29)) (fun _ h9 => h9) rfl hin rfl (by decide +kernel) rfl rfl (Nat.le_of_ble_eq_true rfl) d_mo_init_25 (fun H locs hP hD hS => ?_)
  have hP : va_P (dC, dI) zzCl [(q, .inr (5, [.int 0, .int 0, .ref q1, .ref q2, .ref q3, .int 0, .null, .null, .null, .null, .null, .int 0, .null, .null, .null, .int 0, .null, .int 0, .null, .null, .null])), (q1, .inl (cI, 16, .inl (fun _ => 0))), (q2, .inl (cI, 16, .inl (fun _ => 0))), (q3, .inl (cI, 16, .inl (fun _ => 0)))] H := hP
  have hD : va_D A [(q, .inr (5, [.int 0, .int 0, .ref q1, .ref q2, .ref q3, .int 0, .null, .null, .null, .null, .null, .int 0, .null, .null, .null, .int 0, .null, .int 0, .null, .null, .null])), (q1, .inl (cI, 16, .inl (fun _ => 0))), (q2, .inl (cI, 16, .inl (fun _ => 0))), (q3, .inl (cI, 16, .inl (fun _ => 0)))] := hD
  refine lv_aload_n hx hb d_mo_init_28 rfl (lv_at hl 0 rfl) ?_
  refine lv_sipush (v := 150) hx hb d_mo_init_29 (by decide) ?_
  refine zz_newt (atype := .int) (ty := .int) (a0 := (150, .inl (fun _ => 0))) hx hb (hts _ (zz_in wk_3)) rfl hK hP hD hS hA 0 rfl (fun _ h => h) (fun _ => rfl) (by decide) (by decide) (by decide) (Nat.le_of_ble_eq_true rfl) (Nat.le_of_ble_eq_true rfl) d_mo_init_32 (fun q4 H hP hD hS => ?_)
  have hP : va_P (dC, dI) zzCl [(q, .inr (5, [.int 0, .int 0, .ref q1, .ref q2, .ref q3, .int 0, .null, .null, .null, .null, .null, .int 0, .null, .null, .null, .int 0, .null, .int 0, .null, .null, .null])), (q1, .inl (cI, 16, .inl (fun _ => 0))), (q2, .inl (cI, 16, .inl (fun _ => 0))), (q3, .inl (cI, 16, .inl (fun _ => 0))), (q4, .inl (cI, 150, .inl (fun _ => 0)))] H := hP
  have hD : va_D A [(q, .inr (5, [.int 0, .int 0, .ref q1, .ref q2, .ref q3, .int 0, .null, .null, .null, .null, .null, .int 0, .null, .null, .null, .int 0, .null, .int 0, .null, .null, .null])), (q1, .inl (cI, 16, .inl (fun _ => 0))), (q2, .inl (cI, 16, .inl (fun _ => 0))), (q3, .inl (cI, 16, .inl (fun _ => 0))), (q4, .inl (cI, 150, .inl (fun _ => 0)))] := hD
  refine va_putF (D := (dC, dI)) (ci := 5) (v := .ref q4) (ty := .array .int) (C := R_mo) (T := T_mo) (N := 21) hx hb hts hin__mo ty_mo tok_mo nmd_mo hown hK hP hD hS 0 rfl rfl 6 (by decide) (hts _ (zz_in wk_30)) (fun _ h9 => h9) rfl hin rfl (by decide +kernel) rfl rfl (Nat.le_of_ble_eq_true rfl) d_mo_init_34 (fun H locs hP hD hS => ?_)
  have hP : va_P (dC, dI) zzCl [(q, .inr (5, [.int 0, .int 0, .ref q1, .ref q2, .ref q3, .int 0, .ref q4, .null, .null, .null, .null, .int 0, .null, .null, .null, .int 0, .null, .int 0, .null, .null, .null])), (q1, .inl (cI, 16, .inl (fun _ => 0))), (q2, .inl (cI, 16, .inl (fun _ => 0))), (q3, .inl (cI, 16, .inl (fun _ => 0))), (q4, .inl (cI, 150, .inl (fun _ => 0)))] H := hP
  have hD : va_D A [(q, .inr (5, [.int 0, .int 0, .ref q1, .ref q2, .ref q3, .int 0, .ref q4, .null, .null, .null, .null, .int 0, .null, .null, .null, .int 0, .null, .int 0, .null, .null, .null])), (q1, .inl (cI, 16, .inl (fun _ => 0))), (q2, .inl (cI, 16, .inl (fun _ => 0))), (q3, .inl (cI, 16, .inl (fun _ => 0))), (q4, .inl (cI, 150, .inl (fun _ => 0)))] := hD
  refine lv_aload_n hx hb d_mo_init_37 rfl (lv_at hl 0 rfl) ?_
  refine lv_sipush (v := 256) hx hb d_mo_init_38 (by decide) ?_
  refine zz_newt (atype := .boolean) (ty := .boolean) (a0 := (256, .inl (fun _ => 0))) hx hb (hts _ (zz_in wk_12)) rfl hK hP hD hS hA 1 rfl (fun _ h => h) (fun _ => rfl) (by decide) (by decide) (by decide) (Nat.le_of_ble_eq_true rfl) (Nat.le_of_ble_eq_true rfl) d_mo_init_41 (fun q5 H hP hD hS => ?_)
  have hP : va_P (dC, dI) zzCl [(q, .inr (5, [.int 0, .int 0, .ref q1, .ref q2, .ref q3, .int 0, .ref q4, .null, .null, .null, .null, .int 0, .null, .null, .null, .int 0, .null, .int 0, .null, .null, .null])), (q1, .inl (cI, 16, .inl (fun _ => 0))), (q2, .inl (cI, 16, .inl (fun _ => 0))), (q3, .inl (cI, 16, .inl (fun _ => 0))), (q4, .inl (cI, 150, .inl (fun _ => 0))), (q5, .inl (cZ, 256, .inl (fun _ => 0)))] H := hP
  have hD : va_D A [(q, .inr (5, [.int 0, .int 0, .ref q1, .ref q2, .ref q3, .int 0, .ref q4, .null, .null, .null, .null, .int 0, .null, .null, .null, .int 0, .null, .int 0, .null, .null, .null])), (q1, .inl (cI, 16, .inl (fun _ => 0))), (q2, .inl (cI, 16, .inl (fun _ => 0))), (q3, .inl (cI, 16, .inl (fun _ => 0))), (q4, .inl (cI, 150, .inl (fun _ => 0))), (q5, .inl (cZ, 256, .inl (fun _ => 0)))] := hD
  refine va_putF (D := (dC, dI)) (ci := 5) (v := .ref q5) (ty := .array .boolean) (C := R_mo) (T := T_mo) (N := 21) hx hb hts hin__mo ty_mo tok_mo nmd_mo hown hK hP hD hS 0 rfl rfl 7 (by decide) (hts _ (zz_in wk_31)) (fun _ h9 => h9) rfl hin rfl (by decide +kernel) rfl rfl (Nat.le_of_ble_eq_true rfl) d_mo_init_43 (fun H locs hP hD hS => ?_)
  have hP : va_P (dC, dI) zzCl [(q, .inr (5, [.int 0, .int 0, .ref q1, .ref q2, .ref q3, .int 0, .ref q4, .ref q5, .null, .null, .null, .int 0, .null, .null, .null, .int 0, .null, .int 0, .null, .null, .null])), (q1, .inl (cI, 16, .inl (fun _ => 0))), (q2, .inl (cI, 16, .inl (fun _ => 0))), (q3, .inl (cI, 16, .inl (fun _ => 0))), (q4, .inl (cI, 150, .inl (fun _ => 0))), (q5, .inl (cZ, 256, .inl (fun _ => 0)))] H := hP
  have hD : va_D A [(q, .inr (5, [.int 0, .int 0, .ref q1, .ref q2, .ref q3, .int 0, .ref q4, .ref q5, .null, .null, .null, .int 0, .null, .null, .null, .int 0, .null, .int 0, .null, .null, .null])), (q1, .inl (cI, 16, .inl (fun _ => 0))), (q2, .inl (cI, 16, .inl (fun _ => 0))), (q3, .inl (cI, 16, .inl (fun _ => 0))), (q4, .inl (cI, 150, .inl (fun _ => 0))), (q5, .inl (cZ, 256, .inl (fun _ => 0)))] := hD
  refine lv_aload_n hx hb d_mo_init_46 rfl (lv_at hl 0 rfl) ?_
  refine lv_sipush (v := 256) hx hb d_mo_init_47 (by decide) ?_
  refine zz_newt (atype := .int) (ty := .int) (a0 := (256, .inl (fun _ => 0))) hx hb (hts _ (zz_in wk_3)) rfl hK hP hD hS hA 0 rfl (fun _ h => h) (fun _ => rfl) (by decide) (by decide) (by decide) (Nat.le_of_ble_eq_true rfl) (Nat.le_of_ble_eq_true rfl) d_mo_init_50 (fun q6 H hP hD hS => ?_)
  have hP : va_P (dC, dI) zzCl [(q, .inr (5, [.int 0, .int 0, .ref q1, .ref q2, .ref q3, .int 0, .ref q4, .ref q5, .null, .null, .null, .int 0, .null, .null, .null, .int 0, .null, .int 0, .null, .null, .null])), (q1, .inl (cI, 16, .inl (fun _ => 0))), (q2, .inl (cI, 16, .inl (fun _ => 0))), (q3, .inl (cI, 16, .inl (fun _ => 0))), (q4, .inl (cI, 150, .inl (fun _ => 0))), (q5, .inl (cZ, 256, .inl (fun _ => 0))), (q6, .inl (cI, 256, .inl (fun _ => 0)))] H := hP
  have hD : va_D A [(q, .inr (5, [.int 0, .int 0, .ref q1, .ref q2, .ref q3, .int 0, .ref q4, .ref q5, .null, .null, .null, .int 0, .null, .null, .null, .int 0, .null, .int 0, .null, .null, .null])), (q1, .inl (cI, 16, .inl (fun _ => 0))), (q2, .inl (cI, 16, .inl (fun _ => 0))), (q3, .inl (cI, 16, .inl (fun _ => 0))), (q4, .inl (cI, 150, .inl (fun _ => 0))), (q5, .inl (cZ, 256, .inl (fun _ => 0))), (q6, .inl (cI, 256, .inl (fun _ => 0)))] := hD
  refine va_putF (D := (dC, dI)) (ci := 5) (v := .ref q6) (ty := .array .int) (C := R_mo) (T := T_mo) (N := 21) hx hb hts hin__mo ty_mo tok_mo nmd_mo hown hK hP hD hS 0 rfl rfl 8 (by decide) (hts _ (zz_in wk_32)) (fun _ h9 => h9) rfl hin rfl (by decide +kernel) rfl rfl (Nat.le_of_ble_eq_true rfl) d_mo_init_52 (fun H locs hP hD hS => ?_)
  have hP : va_P (dC, dI) zzCl [(q, .inr (5, [.int 0, .int 0, .ref q1, .ref q2, .ref q3, .int 0, .ref q4, .ref q5, .ref q6, .null, .null, .int 0, .null, .null, .null, .int 0, .null, .int 0, .null, .null, .null])), (q1, .inl (cI, 16, .inl (fun _ => 0))), (q2, .inl (cI, 16, .inl (fun _ => 0))), (q3, .inl (cI, 16, .inl (fun _ => 0))), (q4, .inl (cI, 150, .inl (fun _ => 0))), (q5, .inl (cZ, 256, .inl (fun _ => 0))), (q6, .inl (cI, 256, .inl (fun _ => 0)))] H := hP
  have hD : va_D A [(q, .inr (5, [.int 0, .int 0, .ref q1, .ref q2, .ref q3, .int 0, .ref q4, .ref q5, .ref q6, .null, .null, .int 0, .null, .null, .null, .int 0, .null, .int 0, .null, .null, .null])), (q1, .inl (cI, 16, .inl (fun _ => 0))), (q2, .inl (cI, 16, .inl (fun _ => 0))), (q3, .inl (cI, 16, .inl (fun _ => 0))), (q4, .inl (cI, 150, .inl (fun _ => 0))), (q5, .inl (cZ, 256, .inl (fun _ => 0))), (q6, .inl (cI, 256, .inl (fun _ => 0)))] := hD
  refine lv_aload_n hx hb d_mo_init_55 rfl (lv_at hl 0 rfl) ?_
  refine lv_sipush (v := 256) hx hb d_mo_init_56 (by decide) ?_
  refine zz_newt (atype := .int) (ty := .int) (a0 := (256, .inl (fun _ => 0))) hx hb (hts _ (zz_in wk_3)) rfl hK hP hD hS hA 0 rfl (fun _ h => h) (fun _ => rfl) (by decide) (by decide) (by decide) (Nat.le_of_ble_eq_true rfl) (Nat.le_of_ble_eq_true rfl) d_mo_init_59 (fun q7 H hP hD hS => ?_)
  have hP : va_P (dC, dI) zzCl [(q, .inr (5, [.int 0, .int 0, .ref q1, .ref q2, .ref q3, .int 0, .ref q4, .ref q5, .ref q6, .null, .null, .int 0, .null, .null, .null, .int 0, .null, .int 0, .null, .null, .null])), (q1, .inl (cI, 16, .inl (fun _ => 0))), (q2, .inl (cI, 16, .inl (fun _ => 0))), (q3, .inl (cI, 16, .inl (fun _ => 0))), (q4, .inl (cI, 150, .inl (fun _ => 0))), (q5, .inl (cZ, 256, .inl (fun _ => 0))), (q6, .inl (cI, 256, .inl (fun _ => 0))), (q7, .inl (cI, 256, .inl (fun _ => 0)))] H := hP
  have hD : va_D A [(q, .inr (5, [.int 0, .int 0, .ref q1, .ref q2, .ref q3, .int 0, .ref q4, .ref q5, .ref q6, .null, .null, .int 0, .null, .null, .null, .int 0, .null, .int 0, .null, .null, .null])), (q1, .inl (cI, 16, .inl (fun _ => 0))), (q2, .inl (cI, 16, .inl (fun _ => 0))), (q3, .inl (cI, 16, .inl (fun _ => 0))), (q4, .inl (cI, 150, .inl (fun _ => 0))), (q5, .inl (cZ, 256, .inl (fun _ => 0))), (q6, .inl (cI, 256, .inl (fun _ => 0))), (q7, .inl (cI, 256, .inl (fun _ => 0)))] := hD
  refine va_putF (D := (dC, dI)) (ci := 5) (v := .ref q7) (ty := .array .int) (C := R_mo) (T := T_mo) (N := 21) hx hb hts hin__mo ty_mo tok_mo nmd_mo hown hK hP hD hS 0 rfl rfl 9 (by decide) (hts _ (zz_in wk_33)) (fun _ h9 => h9) rfl hin rfl (by decide +kernel) rfl rfl (Nat.le_of_ble_eq_true rfl) d_mo_init_61 (fun H locs hP hD hS => ?_)
  have hP : va_P (dC, dI) zzCl [(q, .inr (5, [.int 0, .int 0, .ref q1, .ref q2, .ref q3, .int 0, .ref q4, .ref q5, .ref q6, .ref q7, .null, .int 0, .null, .null, .null, .int 0, .null, .int 0, .null, .null, .null])), (q1, .inl (cI, 16, .inl (fun _ => 0))), (q2, .inl (cI, 16, .inl (fun _ => 0))), (q3, .inl (cI, 16, .inl (fun _ => 0))), (q4, .inl (cI, 150, .inl (fun _ => 0))), (q5, .inl (cZ, 256, .inl (fun _ => 0))), (q6, .inl (cI, 256, .inl (fun _ => 0))), (q7, .inl (cI, 256, .inl (fun _ => 0)))] H := hP
  have hD : va_D A [(q, .inr (5, [.int 0, .int 0, .ref q1, .ref q2, .ref q3, .int 0, .ref q4, .ref q5, .ref q6, .ref q7, .null, .int 0, .null, .null, .null, .int 0, .null, .int 0, .null, .null, .null])), (q1, .inl (cI, 16, .inl (fun _ => 0))), (q2, .inl (cI, 16, .inl (fun _ => 0))), (q3, .inl (cI, 16, .inl (fun _ => 0))), (q4, .inl (cI, 150, .inl (fun _ => 0))), (q5, .inl (cZ, 256, .inl (fun _ => 0))), (q6, .inl (cI, 256, .inl (fun _ => 0))), (q7, .inl (cI, 256, .inl (fun _ => 0)))] := hD
  refine lv_aload_n hx hb d_mo_init_64 rfl (lv_at hl 0 rfl) ?_
  refine lv_sipush (v := 256) hx hb d_mo_init_65 (by decide) ?_
  refine zz_newt (atype := .boolean) (ty := .boolean) (a0 := (256, .inl (fun _ => 0))) hx hb (hts _ (zz_in wk_12)) rfl hK hP hD hS hA 1 rfl (fun _ h => h) (fun _ => rfl) (by decide) (by decide) (by decide) (Nat.le_of_ble_eq_true rfl) (Nat.le_of_ble_eq_true rfl) d_mo_init_68 (fun q8 H hP hD hS => ?_)
  have hP : va_P (dC, dI) zzCl [(q, .inr (5, [.int 0, .int 0, .ref q1, .ref q2, .ref q3, .int 0, .ref q4, .ref q5, .ref q6, .ref q7, .null, .int 0, .null, .null, .null, .int 0, .null, .int 0, .null, .null, .null])), (q1, .inl (cI, 16, .inl (fun _ => 0))), (q2, .inl (cI, 16, .inl (fun _ => 0))), (q3, .inl (cI, 16, .inl (fun _ => 0))), (q4, .inl (cI, 150, .inl (fun _ => 0))), (q5, .inl (cZ, 256, .inl (fun _ => 0))), (q6, .inl (cI, 256, .inl (fun _ => 0))), (q7, .inl (cI, 256, .inl (fun _ => 0))), (q8, .inl (cZ, 256, .inl (fun _ => 0)))] H := hP
  have hD : va_D A [(q, .inr (5, [.int 0, .int 0, .ref q1, .ref q2, .ref q3, .int 0, .ref q4, .ref q5, .ref q6, .ref q7, .null, .int 0, .null, .null, .null, .int 0, .null, .int 0, .null, .null, .null])), (q1, .inl (cI, 16, .inl (fun _ => 0))), (q2, .inl (cI, 16, .inl (fun _ => 0))), (q3, .inl (cI, 16, .inl (fun _ => 0))), (q4, .inl (cI, 150, .inl (fun _ => 0))), (q5, .inl (cZ, 256, .inl (fun _ => 0))), (q6, .inl (cI, 256, .inl (fun _ => 0))), (q7, .inl (cI, 256, .inl (fun _ => 0))), (q8, .inl (cZ, 256, .inl (fun _ => 0)))] := hD
  refine va_putF (D := (dC, dI)) (ci := 5) (v := .ref q8) (ty := .array .boolean) (C := R_mo) (T := T_mo) (N := 21) hx hb hts hin__mo ty_mo tok_mo nmd_mo hown hK hP hD hS 0 rfl rfl 10 (by decide) (hts _ (zz_in wk_34)) (fun _ h9 => h9) rfl hin rfl (by decide +kernel) rfl rfl (Nat.le_of_ble_eq_true rfl) d_mo_init_70 (fun H locs hP hD hS => ?_)
  have hP : va_P (dC, dI) zzCl [(q, .inr (5, [.int 0, .int 0, .ref q1, .ref q2, .ref q3, .int 0, .ref q4, .ref q5, .ref q6, .ref q7, .ref q8, .int 0, .null, .null, .null, .int 0, .null, .int 0, .null, .null, .null])), (q1, .inl (cI, 16, .inl (fun _ => 0))), (q2, .inl (cI, 16, .inl (fun _ => 0))), (q3, .inl (cI, 16, .inl (fun _ => 0))), (q4, .inl (cI, 150, .inl (fun _ => 0))), (q5, .inl (cZ, 256, .inl (fun _ => 0))), (q6, .inl (cI, 256, .inl (fun _ => 0))), (q7, .inl (cI, 256, .inl (fun _ => 0))), (q8, .inl (cZ, 256, .inl (fun _ => 0)))] H := hP
  have hD : va_D A [(q, .inr (5, [.int 0, .int 0, .ref q1, .ref q2, .ref q3, .int 0, .ref q4, .ref q5, .ref q6, .ref q7, .ref q8, .int 0, .null, .null, .null, .int 0, .null, .int 0, .null, .null, .null])), (q1, .inl (cI, 16, .inl (fun _ => 0))), (q2, .inl (cI, 16, .inl (fun _ => 0))), (q3, .inl (cI, 16, .inl (fun _ => 0))), (q4, .inl (cI, 150, .inl (fun _ => 0))), (q5, .inl (cZ, 256, .inl (fun _ => 0))), (q6, .inl (cI, 256, .inl (fun _ => 0))), (q7, .inl (cI, 256, .inl (fun _ => 0))), (q8, .inl (cZ, 256, .inl (fun _ => 0)))] := hD
  refine lv_aload_n hx hb d_mo_init_73 rfl (lv_at hl 0 rfl) ?_
  refine lv_sipush (v := 130) hx hb d_mo_init_74 (by decide) ?_
  refine zz_newt (atype := .int) (ty := .int) (a0 := (130, .inl (fun _ => 0))) hx hb (hts _ (zz_in wk_3)) rfl hK hP hD hS hA 0 rfl (fun _ h => h) (fun _ => rfl) (by decide) (by decide) (by decide) (Nat.le_of_ble_eq_true rfl) (Nat.le_of_ble_eq_true rfl) d_mo_init_77 (fun q9 H hP hD hS => ?_)
  have hP : va_P (dC, dI) zzCl [(q, .inr (5, [.int 0, .int 0, .ref q1, .ref q2, .ref q3, .int 0, .ref q4, .ref q5, .ref q6, .ref q7, .ref q8, .int 0, .null, .null, .null, .int 0, .null, .int 0, .null, .null, .null])), (q1, .inl (cI, 16, .inl (fun _ => 0))), (q2, .inl (cI, 16, .inl (fun _ => 0))), (q3, .inl (cI, 16, .inl (fun _ => 0))), (q4, .inl (cI, 150, .inl (fun _ => 0))), (q5, .inl (cZ, 256, .inl (fun _ => 0))), (q6, .inl (cI, 256, .inl (fun _ => 0))), (q7, .inl (cI, 256, .inl (fun _ => 0))), (q8, .inl (cZ, 256, .inl (fun _ => 0))), (q9, .inl (cI, 130, .inl (fun _ => 0)))] H := hP
  have hD : va_D A [(q, .inr (5, [.int 0, .int 0, .ref q1, .ref q2, .ref q3, .int 0, .ref q4, .ref q5, .ref q6, .ref q7, .ref q8, .int 0, .null, .null, .null, .int 0, .null, .int 0, .null, .null, .null])), (q1, .inl (cI, 16, .inl (fun _ => 0))), (q2, .inl (cI, 16, .inl (fun _ => 0))), (q3, .inl (cI, 16, .inl (fun _ => 0))), (q4, .inl (cI, 150, .inl (fun _ => 0))), (q5, .inl (cZ, 256, .inl (fun _ => 0))), (q6, .inl (cI, 256, .inl (fun _ => 0))), (q7, .inl (cI, 256, .inl (fun _ => 0))), (q8, .inl (cZ, 256, .inl (fun _ => 0))), (q9, .inl (cI, 130, .inl (fun _ => 0)))] := hD
  refine va_putF (D := (dC, dI)) (ci := 5) (v := .ref q9) (ty := .array .int) (C := R_mo) (T := T_mo) (N := 21) hx hb hts hin__mo ty_mo tok_mo nmd_mo hown hK hP hD hS 0 rfl rfl 12 (by decide) (hts _ (zz_in wk_35)) (fun _ h9 => h9) rfl hin rfl (by decide +kernel) rfl rfl (Nat.le_of_ble_eq_true rfl) d_mo_init_79 (fun H locs hP hD hS => ?_)
  have hP : va_P (dC, dI) zzCl [(q, .inr (5, [.int 0, .int 0, .ref q1, .ref q2, .ref q3, .int 0, .ref q4, .ref q5, .ref q6, .ref q7, .ref q8, .int 0, .ref q9, .null, .null, .int 0, .null, .int 0, .null, .null, .null])), (q1, .inl (cI, 16, .inl (fun _ => 0))), (q2, .inl (cI, 16, .inl (fun _ => 0))), (q3, .inl (cI, 16, .inl (fun _ => 0))), (q4, .inl (cI, 150, .inl (fun _ => 0))), (q5, .inl (cZ, 256, .inl (fun _ => 0))), (q6, .inl (cI, 256, .inl (fun _ => 0))), (q7, .inl (cI, 256, .inl (fun _ => 0))), (q8, .inl (cZ, 256, .inl (fun _ => 0))), (q9, .inl (cI, 130, .inl (fun _ => 0)))] H := hP
  have hD : va_D A [(q, .inr (5, [.int 0, .int 0, .ref q1, .ref q2, .ref q3, .int 0, .ref q4, .ref q5, .ref q6, .ref q7, .ref q8, .int 0, .ref q9, .null, .null, .int 0, .null, .int 0, .null, .null, .null])), (q1, .inl (cI, 16, .inl (fun _ => 0))), (q2, .inl (cI, 16, .inl (fun _ => 0))), (q3, .inl (cI, 16, .inl (fun _ => 0))), (q4, .inl (cI, 150, .inl (fun _ => 0))), (q5, .inl (cZ, 256, .inl (fun _ => 0))), (q6, .inl (cI, 256, .inl (fun _ => 0))), (q7, .inl (cI, 256, .inl (fun _ => 0))), (q8, .inl (cZ, 256, .inl (fun _ => 0))), (q9, .inl (cI, 130, .inl (fun _ => 0)))] := hD
  refine lv_aload_n hx hb d_mo_init_82 rfl (lv_at hl 0 rfl) ?_
  refine lv_sipush (v := 130) hx hb d_mo_init_83 (by decide) ?_
  refine zz_newt (atype := .int) (ty := .int) (a0 := (130, .inl (fun _ => 0))) hx hb (hts _ (zz_in wk_3)) rfl hK hP hD hS hA 0 rfl (fun _ h => h) (fun _ => rfl) (by decide) (by decide) (by decide) (Nat.le_of_ble_eq_true rfl) (Nat.le_of_ble_eq_true rfl) d_mo_init_86 (fun q10 H hP hD hS => ?_)
  have hP : va_P (dC, dI) zzCl [(q, .inr (5, [.int 0, .int 0, .ref q1, .ref q2, .ref q3, .int 0, .ref q4, .ref q5, .ref q6, .ref q7, .ref q8, .int 0, .ref q9, .null, .null, .int 0, .null, .int 0, .null, .null, .null])), (q1, .inl (cI, 16, .inl (fun _ => 0))), (q2, .inl (cI, 16, .inl (fun _ => 0))), (q3, .inl (cI, 16, .inl (fun _ => 0))), (q4, .inl (cI, 150, .inl (fun _ => 0))), (q5, .inl (cZ, 256, .inl (fun _ => 0))), (q6, .inl (cI, 256, .inl (fun _ => 0))), (q7, .inl (cI, 256, .inl (fun _ => 0))), (q8, .inl (cZ, 256, .inl (fun _ => 0))), (q9, .inl (cI, 130, .inl (fun _ => 0))), (q10, .inl (cI, 130, .inl (fun _ => 0)))] H := hP
  have hD : va_D A [(q, .inr (5, [.int 0, .int 0, .ref q1, .ref q2, .ref q3, .int 0, .ref q4, .ref q5, .ref q6, .ref q7, .ref q8, .int 0, .ref q9, .null, .null, .int 0, .null, .int 0, .null, .null, .null])), (q1, .inl (cI, 16, .inl (fun _ => 0))), (q2, .inl (cI, 16, .inl (fun _ => 0))), (q3, .inl (cI, 16, .inl (fun _ => 0))), (q4, .inl (cI, 150, .inl (fun _ => 0))), (q5, .inl (cZ, 256, .inl (fun _ => 0))), (q6, .inl (cI, 256, .inl (fun _ => 0))), (q7, .inl (cI, 256, .inl (fun _ => 0))), (q8, .inl (cZ, 256, .inl (fun _ => 0))), (q9, .inl (cI, 130, .inl (fun _ => 0))), (q10, .inl (cI, 130, .inl (fun _ => 0)))] := hD
  refine va_putF (D := (dC, dI)) (ci := 5) (v := .ref q10) (ty := .array .int) (C := R_mo) (T := T_mo) (N := 21) hx hb hts hin__mo ty_mo tok_mo nmd_mo hown hK hP hD hS 0 rfl rfl 13 (by decide) (hts _ (zz_in wk_36)) (fun _ h9 => h9) rfl hin rfl (by decide +kernel) rfl rfl (Nat.le_of_ble_eq_true rfl) d_mo_init_88 (fun H locs hP hD hS => ?_)
  have hP : va_P (dC, dI) zzCl [(q, .inr (5, [.int 0, .int 0, .ref q1, .ref q2, .ref q3, .int 0, .ref q4, .ref q5, .ref q6, .ref q7, .ref q8, .int 0, .ref q9, .ref q10, .null, .int 0, .null, .int 0, .null, .null, .null])), (q1, .inl (cI, 16, .inl (fun _ => 0))), (q2, .inl (cI, 16, .inl (fun _ => 0))), (q3, .inl (cI, 16, .inl (fun _ => 0))), (q4, .inl (cI, 150, .inl (fun _ => 0))), (q5, .inl (cZ, 256, .inl (fun _ => 0))), (q6, .inl (cI, 256, .inl (fun _ => 0))), (q7, .inl (cI, 256, .inl (fun _ => 0))), (q8, .inl (cZ, 256, .inl (fun _ => 0))), (q9, .inl (cI, 130, .inl (fun _ => 0))), (q10, .inl (cI, 130, .inl (fun _ => 0)))] H := hP
  have hD : va_D A [(q, .inr (5, [.int 0, .int 0, .ref q1, .ref q2, .ref q3, .int 0, .ref q4, .ref q5, .ref q6, .ref q7, .ref q8, .int 0, .ref q9, .ref q10, .null, .int 0, .null, .int 0, .null, .null, .null])), (q1, .inl (cI, 16, .inl (fun _ => 0))), (q2, .inl (cI, 16, .inl (fun _ => 0))), (q3, .inl (cI, 16, .inl (fun _ => 0))), (q4, .inl (cI, 150, .inl (fun _ => 0))), (q5, .inl (cZ, 256, .inl (fun _ => 0))), (q6, .inl (cI, 256, .inl (fun _ => 0))), (q7, .inl (cI, 256, .inl (fun _ => 0))), (q8, .inl (cZ, 256, .inl (fun _ => 0))), (q9, .inl (cI, 130, .inl (fun _ => 0))), (q10, .inl (cI, 130, .inl (fun _ => 0)))] := hD
  refine lv_aload_n hx hb d_mo_init_91 rfl (lv_at hl 0 rfl) ?_
  refine lv_sipush (v := 130) hx hb d_mo_init_92 (by decide) ?_
  refine zz_newt (atype := .boolean) (ty := .boolean) (a0 := (130, .inl (fun _ => 0))) hx hb (hts _ (zz_in wk_12)) rfl hK hP hD hS hA 1 rfl (fun _ h => h) (fun _ => rfl) (by decide) (by decide) (by decide) (Nat.le_of_ble_eq_true rfl) (Nat.le_of_ble_eq_true rfl) d_mo_init_95 (fun q11 H hP hD hS => ?_)
  have hP : va_P (dC, dI) zzCl [(q, .inr (5, [.int 0, .int 0, .ref q1, .ref q2, .ref q3, .int 0, .ref q4, .ref q5, .ref q6, .ref q7, .ref q8, .int 0, .ref q9, .ref q10, .null, .int 0, .null, .int 0, .null, .null, .null])), (q1, .inl (cI, 16, .inl (fun _ => 0))), (q2, .inl (cI, 16, .inl (fun _ => 0))), (q3, .inl (cI, 16, .inl (fun _ => 0))), (q4, .inl (cI, 150, .inl (fun _ => 0))), (q5, .inl (cZ, 256, .inl (fun _ => 0))), (q6, .inl (cI, 256, .inl (fun _ => 0))), (q7, .inl (cI, 256, .inl (fun _ => 0))), (q8, .inl (cZ, 256, .inl (fun _ => 0))), (q9, .inl (cI, 130, .inl (fun _ => 0))), (q10, .inl (cI, 130, .inl (fun _ => 0))), (q11, .inl (cZ, 130, .inl (fun _ => 0)))] H := hP
  have hD : va_D A [(q, .inr (5, [.int 0, .int 0, .ref q1, .ref q2, .ref q3, .int 0, .ref q4, .ref q5, .ref q6, .ref q7, .ref q8, .int 0, .ref q9, .ref q10, .null, .int 0, .null, .int 0, .null, .null, .null])), (q1, .inl (cI, 16, .inl (fun _ => 0))), (q2, .inl (cI, 16, .inl (fun _ => 0))), (q3, .inl (cI, 16, .inl (fun _ => 0))), (q4, .inl (cI, 150, .inl (fun _ => 0))), (q5, .inl (cZ, 256, .inl (fun _ => 0))), (q6, .inl (cI, 256, .inl (fun _ => 0))), (q7, .inl (cI, 256, .inl (fun _ => 0))), (q8, .inl (cZ, 256, .inl (fun _ => 0))), (q9, .inl (cI, 130, .inl (fun _ => 0))), (q10, .inl (cI, 130, .inl (fun _ => 0))), (q11, .inl (cZ, 130, .inl (fun _ => 0)))] := hD
  refine va_putF (D := (dC, dI)) (ci := 5) (v := .ref q11) (ty := .array .boolean) (C := R_mo) (T := T_mo) (N := 21) hx hb hts hin__mo ty_mo tok_mo nmd_mo hown hK hP hD hS 0 rfl rfl 14 (by decide) (hts _ (zz_in wk_37)) (fun _ h9 => h9) rfl hin rfl (by decide +kernel) rfl rfl (Nat.le_of_ble_eq_true rfl) d_mo_init_97 (fun H locs hP hD hS => ?_)
  have hP : va_P (dC, dI) zzCl [(q, .inr (5, [.int 0, .int 0, .ref q1, .ref q2, .ref q3, .int 0, .ref q4, .ref q5, .ref q6, .ref q7, .ref q8, .int 0, .ref q9, .ref q10, .ref q11, .int 0, .null, .int 0, .null, .null, .null])), (q1, .inl (cI, 16, .inl (fun _ => 0))), (q2, .inl (cI, 16, .inl (fun _ => 0))), (q3, .inl (cI, 16, .inl (fun _ => 0))), (q4, .inl (cI, 150, .inl (fun _ => 0))), (q5, .inl (cZ, 256, .inl (fun _ => 0))), (q6, .inl (cI, 256, .inl (fun _ => 0))), (q7, .inl (cI, 256, .inl (fun _ => 0))), (q8, .inl (cZ, 256, .inl (fun _ => 0))), (q9, .inl (cI, 130, .inl (fun _ => 0))), (q10, .inl (cI, 130, .inl (fun _ => 0))), (q11, .inl (cZ, 130, .inl (fun _ => 0)))] H := hP
  have hD : va_D A [(q, .inr (5, [.int 0, .int 0, .ref q1, .ref q2, .ref q3, .int 0, .ref q4, .ref q5, .ref q6, .ref q7, .ref q8, .int 0, .ref q9, .ref q10, .ref q11, .int 0, .null, .int 0, .null, .null, .null])), (q1, .inl (cI, 16, .inl (fun _ => 0))), (q2, .inl (cI, 16, .inl (fun _ => 0))), (q3, .inl (cI, 16, .inl (fun _ => 0))), (q4, .inl (cI, 150, .inl (fun _ => 0))), (q5, .inl (cZ, 256, .inl (fun _ => 0))), (q6, .inl (cI, 256, .inl (fun _ => 0))), (q7, .inl (cI, 256, .inl (fun _ => 0))), (q8, .inl (cZ, 256, .inl (fun _ => 0))), (q9, .inl (cI, 130, .inl (fun _ => 0))), (q10, .inl (cI, 130, .inl (fun _ => 0))), (q11, .inl (cZ, 130, .inl (fun _ => 0)))] := hD
  refine lv_aload_n hx hb d_mo_init_100 rfl (lv_at hl 0 rfl) ?_
  refine lv_sipush (v := 260) hx hb d_mo_init_101 (by decide) ?_
  refine zz_newt (atype := .int) (ty := .int) (a0 := (260, .inl (fun _ => 0))) hx hb (hts _ (zz_in wk_3)) rfl hK hP hD hS hA 0 rfl (fun _ h => h) (fun _ => rfl) (by decide) (by decide) (by decide) (Nat.le_of_ble_eq_true rfl) (Nat.le_of_ble_eq_true rfl) d_mo_init_104 (fun q12 H hP hD hS => ?_)
  have hP : va_P (dC, dI) zzCl [(q, .inr (5, [.int 0, .int 0, .ref q1, .ref q2, .ref q3, .int 0, .ref q4, .ref q5, .ref q6, .ref q7, .ref q8, .int 0, .ref q9, .ref q10, .ref q11, .int 0, .null, .int 0, .null, .null, .null])), (q1, .inl (cI, 16, .inl (fun _ => 0))), (q2, .inl (cI, 16, .inl (fun _ => 0))), (q3, .inl (cI, 16, .inl (fun _ => 0))), (q4, .inl (cI, 150, .inl (fun _ => 0))), (q5, .inl (cZ, 256, .inl (fun _ => 0))), (q6, .inl (cI, 256, .inl (fun _ => 0))), (q7, .inl (cI, 256, .inl (fun _ => 0))), (q8, .inl (cZ, 256, .inl (fun _ => 0))), (q9, .inl (cI, 130, .inl (fun _ => 0))), (q10, .inl (cI, 130, .inl (fun _ => 0))), (q11, .inl (cZ, 130, .inl (fun _ => 0))), (q12, .inl (cI, 260, .inl (fun _ => 0)))] H := hP
  have hD : va_D A [(q, .inr (5, [.int 0, .int 0, .ref q1, .ref q2, .ref q3, .int 0, .ref q4, .ref q5, .ref q6, .ref q7, .ref q8, .int 0, .ref q9, .ref q10, .ref q11, .int 0, .null, .int 0, .null, .null, .null])), (q1, .inl (cI, 16, .inl (fun _ => 0))), (q2, .inl (cI, 16, .inl (fun _ => 0))), (q3, .inl (cI, 16, .inl (fun _ => 0))), (q4, .inl (cI, 150, .inl (fun _ => 0))), (q5, .inl (cZ, 256, .inl (fun _ => 0))), (q6, .inl (cI, 256, .inl (fun _ => 0))), (q7, .inl (cI, 256, .inl (fun _ => 0))), (q8, .inl (cZ, 256, .inl (fun _ => 0))), (q9, .inl (cI, 130, .inl (fun _ => 0))), (q10, .inl (cI, 130, .inl (fun _ => 0))), (q11, .inl (cZ, 130, .inl (fun _ => 0))), (q12, .inl (cI, 260, .inl (fun _ => 0)))] := hD
  refine va_putF (D := (dC, dI)) (ci := 5) (v := .ref q12) (ty := .array .int) (C := R_mo) (T := T_mo) (N := 21) hx hb hts hin__mo ty_mo tok_mo nmd_mo hown hK hP hD hS 0 rfl rfl 16 (by decide) (hts _ (zz_in wk_38)) (fun _ h9 => h9) rfl hin rfl (by decide +kernel) rfl rfl (Nat.le_of_ble_eq_true rfl) d_mo_init_106 (fun H locs hP hD hS => ?_)
  have hP : va_P (dC, dI) zzCl [(q, .inr (5, [.int 0, .int 0, .ref q1, .ref q2, .ref q3, .int 0, .ref q4, .ref q5, .ref q6, .ref q7, .ref q8, .int 0, .ref q9, .ref q10, .ref q11, .int 0, .ref q12, .int 0, .null, .null, .null])), (q1, .inl (cI, 16, .inl (fun _ => 0))), (q2, .inl (cI, 16, .inl (fun _ => 0))), (q3, .inl (cI, 16, .inl (fun _ => 0))), (q4, .inl (cI, 150, .inl (fun _ => 0))), (q5, .inl (cZ, 256, .inl (fun _ => 0))), (q6, .inl (cI, 256, .inl (fun _ => 0))), (q7, .inl (cI, 256, .inl (fun _ => 0))), (q8, .inl (cZ, 256, .inl (fun _ => 0))), (q9, .inl (cI, 130, .inl (fun _ => 0))), (q10, .inl (cI, 130, .inl (fun _ => 0))), (q11, .inl (cZ, 130, .inl (fun _ => 0))), (q12, .inl (cI, 260, .inl (fun _ => 0)))] H := hP
  have hD : va_D A [(q, .inr (5, [.int 0, .int 0, .ref q1, .ref q2, .ref q3, .int 0, .ref q4, .ref q5, .ref q6, .ref q7, .ref q8, .int 0, .ref q9, .ref q10, .ref q11, .int 0, .ref q12, .int 0, .null, .null, .null])), (q1, .inl (cI, 16, .inl (fun _ => 0))), (q2, .inl (cI, 16, .inl (fun _ => 0))), (q3, .inl (cI, 16, .inl (fun _ => 0))), (q4, .inl (cI, 150, .inl (fun _ => 0))), (q5, .inl (cZ, 256, .inl (fun _ => 0))), (q6, .inl (cI, 256, .inl (fun _ => 0))), (q7, .inl (cI, 256, .inl (fun _ => 0))), (q8, .inl (cZ, 256, .inl (fun _ => 0))), (q9, .inl (cI, 130, .inl (fun _ => 0))), (q10, .inl (cI, 130, .inl (fun _ => 0))), (q11, .inl (cZ, 130, .inl (fun _ => 0))), (q12, .inl (cI, 260, .inl (fun _ => 0)))] := hD
  refine lv_aload_n hx hb d_mo_init_109 rfl (lv_at hl 0 rfl) ?_
  refine lv_bipush (v := 60) hx hb d_mo_init_110 (by decide) ?_
  refine zz_newt (atype := .int) (ty := .int) (a0 := (60, .inl (fun _ => 0))) hx hb (hts _ (zz_in wk_3)) rfl hK hP hD hS hA 0 rfl (fun _ h => h) (fun _ => rfl) (by decide) (by decide) (by decide) (Nat.le_of_ble_eq_true rfl) (Nat.le_of_ble_eq_true rfl) d_mo_init_112 (fun q13 H hP hD hS => ?_)
  have hP : va_P (dC, dI) zzCl [(q, .inr (5, [.int 0, .int 0, .ref q1, .ref q2, .ref q3, .int 0, .ref q4, .ref q5, .ref q6, .ref q7, .ref q8, .int 0, .ref q9, .ref q10, .ref q11, .int 0, .ref q12, .int 0, .null, .null, .null])), (q1, .inl (cI, 16, .inl (fun _ => 0))), (q2, .inl (cI, 16, .inl (fun _ => 0))), (q3, .inl (cI, 16, .inl (fun _ => 0))), (q4, .inl (cI, 150, .inl (fun _ => 0))), (q5, .inl (cZ, 256, .inl (fun _ => 0))), (q6, .inl (cI, 256, .inl (fun _ => 0))), (q7, .inl (cI, 256, .inl (fun _ => 0))), (q8, .inl (cZ, 256, .inl (fun _ => 0))), (q9, .inl (cI, 130, .inl (fun _ => 0))), (q10, .inl (cI, 130, .inl (fun _ => 0))), (q11, .inl (cZ, 130, .inl (fun _ => 0))), (q12, .inl (cI, 260, .inl (fun _ => 0))), (q13, .inl (cI, 60, .inl (fun _ => 0)))] H := hP
  have hD : va_D A [(q, .inr (5, [.int 0, .int 0, .ref q1, .ref q2, .ref q3, .int 0, .ref q4, .ref q5, .ref q6, .ref q7, .ref q8, .int 0, .ref q9, .ref q10, .ref q11, .int 0, .ref q12, .int 0, .null, .null, .null])), (q1, .inl (cI, 16, .inl (fun _ => 0))), (q2, .inl (cI, 16, .inl (fun _ => 0))), (q3, .inl (cI, 16, .inl (fun _ => 0))), (q4, .inl (cI, 150, .inl (fun _ => 0))), (q5, .inl (cZ, 256, .inl (fun _ => 0))), (q6, .inl (cI, 256, .inl (fun _ => 0))), (q7, .inl (cI, 256, .inl (fun _ => 0))), (q8, .inl (cZ, 256, .inl (fun _ => 0))), (q9, .inl (cI, 130, .inl (fun _ => 0))), (q10, .inl (cI, 130, .inl (fun _ => 0))), (q11, .inl (cZ, 130, .inl (fun _ => 0))), (q12, .inl (cI, 260, .inl (fun _ => 0))), (q13, .inl (cI, 60, .inl (fun _ => 0)))] := hD
  refine va_putF (D := (dC, dI)) (ci := 5) (v := .ref q13) (ty := .array .int) (C := R_mo) (T := T_mo) (N := 21) hx hb hts hin__mo ty_mo tok_mo nmd_mo hown hK hP hD hS 0 rfl rfl 18 (by decide) (hts _ (zz_in wk_39)) (fun _ h9 => h9) rfl hin rfl (by decide +kernel) rfl rfl (Nat.le_of_ble_eq_true rfl) d_mo_init_114 (fun H locs hP hD hS => ?_)
  have hP : va_P (dC, dI) zzCl [(q, .inr (5, [.int 0, .int 0, .ref q1, .ref q2, .ref q3, .int 0, .ref q4, .ref q5, .ref q6, .ref q7, .ref q8, .int 0, .ref q9, .ref q10, .ref q11, .int 0, .ref q12, .int 0, .ref q13, .null, .null])), (q1, .inl (cI, 16, .inl (fun _ => 0))), (q2, .inl (cI, 16, .inl (fun _ => 0))), (q3, .inl (cI, 16, .inl (fun _ => 0))), (q4, .inl (cI, 150, .inl (fun _ => 0))), (q5, .inl (cZ, 256, .inl (fun _ => 0))), (q6, .inl (cI, 256, .inl (fun _ => 0))), (q7, .inl (cI, 256, .inl (fun _ => 0))), (q8, .inl (cZ, 256, .inl (fun _ => 0))), (q9, .inl (cI, 130, .inl (fun _ => 0))), (q10, .inl (cI, 130, .inl (fun _ => 0))), (q11, .inl (cZ, 130, .inl (fun _ => 0))), (q12, .inl (cI, 260, .inl (fun _ => 0))), (q13, .inl (cI, 60, .inl (fun _ => 0)))] H := hP
  have hD : va_D A [(q, .inr (5, [.int 0, .int 0, .ref q1, .ref q2, .ref q3, .int 0, .ref q4, .ref q5, .ref q6, .ref q7, .ref q8, .int 0, .ref q9, .ref q10, .ref q11, .int 0, .ref q12, .int 0, .ref q13, .null, .null])), (q1, .inl (cI, 16, .inl (fun _ => 0))), (q2, .inl (cI, 16, .inl (fun _ => 0))), (q3, .inl (cI, 16, .inl (fun _ => 0))), (q4, .inl (cI, 150, .inl (fun _ => 0))), (q5, .inl (cZ, 256, .inl (fun _ => 0))), (q6, .inl (cI, 256, .inl (fun _ => 0))), (q7, .inl (cI, 256, .inl (fun _ => 0))), (q8, .inl (cZ, 256, .inl (fun _ => 0))), (q9, .inl (cI, 130, .inl (fun _ => 0))), (q10, .inl (cI, 130, .inl (fun _ => 0))), (q11, .inl (cZ, 130, .inl (fun _ => 0))), (q12, .inl (cI, 260, .inl (fun _ => 0))), (q13, .inl (cI, 60, .inl (fun _ => 0)))] := hD
  refine lv_aload_n hx hb d_mo_init_117 rfl (lv_at hl 0 rfl) ?_
  refine lv_bipush (v := 60) hx hb d_mo_init_118 (by decide) ?_
  refine zz_newt (atype := .int) (ty := .int) (a0 := (60, .inl (fun _ => 0))) hx hb (hts _ (zz_in wk_3)) rfl hK hP hD hS hA 0 rfl (fun _ h => h) (fun _ => rfl) (by decide) (by decide) (by decide) (Nat.le_of_ble_eq_true rfl) (Nat.le_of_ble_eq_true rfl) d_mo_init_120 (fun q14 H hP hD hS => ?_)
  have hP : va_P (dC, dI) zzCl [(q, .inr (5, [.int 0, .int 0, .ref q1, .ref q2, .ref q3, .int 0, .ref q4, .ref q5, .ref q6, .ref q7, .ref q8, .int 0, .ref q9, .ref q10, .ref q11, .int 0, .ref q12, .int 0, .ref q13, .null, .null])), (q1, .inl (cI, 16, .inl (fun _ => 0))), (q2, .inl (cI, 16, .inl (fun _ => 0))), (q3, .inl (cI, 16, .inl (fun _ => 0))), (q4, .inl (cI, 150, .inl (fun _ => 0))), (q5, .inl (cZ, 256, .inl (fun _ => 0))), (q6, .inl (cI, 256, .inl (fun _ => 0))), (q7, .inl (cI, 256, .inl (fun _ => 0))), (q8, .inl (cZ, 256, .inl (fun _ => 0))), (q9, .inl (cI, 130, .inl (fun _ => 0))), (q10, .inl (cI, 130, .inl (fun _ => 0))), (q11, .inl (cZ, 130, .inl (fun _ => 0))), (q12, .inl (cI, 260, .inl (fun _ => 0))), (q13, .inl (cI, 60, .inl (fun _ => 0))), (q14, .inl (cI, 60, .inl (fun _ => 0)))] H := hP
  have hD : va_D A [(q, .inr (5, [.int 0, .int 0, .ref q1, .ref q2, .ref q3, .int 0, .ref q4, .ref q5, .ref q6, .ref q7, .ref q8, .int 0, .ref q9, .ref q10, .ref q11, .int 0, .ref q12, .int 0, .ref q13, .null, .null])), (q1, .inl (cI, 16, .inl (fun _ => 0))), (q2, .inl (cI, 16, .inl (fun _ => 0))), (q3, .inl (cI, 16, .inl (fun _ => 0))), (q4, .inl (cI, 150, .inl (fun _ => 0))), (q5, .inl (cZ, 256, .inl (fun _ => 0))), (q6, .inl (cI, 256, .inl (fun _ => 0))), (q7, .inl (cI, 256, .inl (fun _ => 0))), (q8, .inl (cZ, 256, .inl (fun _ => 0))), (q9, .inl (cI, 130, .inl (fun _ => 0))), (q10, .inl (cI, 130, .inl (fun _ => 0))), (q11, .inl (cZ, 130, .inl (fun _ => 0))), (q12, .inl (cI, 260, .inl (fun _ => 0))), (q13, .inl (cI, 60, .inl (fun _ => 0))), (q14, .inl (cI, 60, .inl (fun _ => 0)))] := hD
  refine va_putF (D := (dC, dI)) (ci := 5) (v := .ref q14) (ty := .array .int) (C := R_mo) (T := T_mo) (N := 21) hx hb hts hin__mo ty_mo tok_mo nmd_mo hown hK hP hD hS 0 rfl rfl 19 (by decide) (hts _ (zz_in wk_40)) (fun _ h9 => h9) rfl hin rfl (by decide +kernel) rfl rfl (Nat.le_of_ble_eq_true rfl) d_mo_init_122 (fun H locs hP hD hS => ?_)
  have hP : va_P (dC, dI) zzCl [(q, .inr (5, [.int 0, .int 0, .ref q1, .ref q2, .ref q3, .int 0, .ref q4, .ref q5, .ref q6, .ref q7, .ref q8, .int 0, .ref q9, .ref q10, .ref q11, .int 0, .ref q12, .int 0, .ref q13, .ref q14, .null])), (q1, .inl (cI, 16, .inl (fun _ => 0))), (q2, .inl (cI, 16, .inl (fun _ => 0))), (q3, .inl (cI, 16, .inl (fun _ => 0))), (q4, .inl (cI, 150, .inl (fun _ => 0))), (q5, .inl (cZ, 256, .inl (fun _ => 0))), (q6, .inl (cI, 256, .inl (fun _ => 0))), (q7, .inl (cI, 256, .inl (fun _ => 0))), (q8, .inl (cZ, 256, .inl (fun _ => 0))), (q9, .inl (cI, 130, .inl (fun _ => 0))), (q10, .inl (cI, 130, .inl (fun _ => 0))), (q11, .inl (cZ, 130, .inl (fun _ => 0))), (q12, .inl (cI, 260, .inl (fun _ => 0))), (q13, .inl (cI, 60, .inl (fun _ => 0))), (q14, .inl (cI, 60, .inl (fun _ => 0)))] H := hP
  have hD : va_D A [(q, .inr (5, [.int 0, .int 0, .ref q1, .ref q2, .ref q3, .int 0, .ref q4, .ref q5, .ref q6, .ref q7, .ref q8, .int 0, .ref q9, .ref q10, .ref q11, .int 0, .ref q12, .int 0, .ref q13, .ref q14, .null])), (q1, .inl (cI, 16, .inl (fun _ => 0))), (q2, .inl (cI, 16, .inl (fun _ => 0))), (q3, .inl (cI, 16, .inl (fun _ => 0))), (q4, .inl (cI, 150, .inl (fun _ => 0))), (q5, .inl (cZ, 256, .inl (fun _ => 0))), (q6, .inl (cI, 256, .inl (fun _ => 0))), (q7, .inl (cI, 256, .inl (fun _ => 0))), (q8, .inl (cZ, 256, .inl (fun _ => 0))), (q9, .inl (cI, 130, .inl (fun _ => 0))), (q10, .inl (cI, 130, .inl (fun _ => 0))), (q11, .inl (cZ, 130, .inl (fun _ => 0))), (q12, .inl (cI, 260, .inl (fun _ => 0))), (q13, .inl (cI, 60, .inl (fun _ => 0))), (q14, .inl (cI, 60, .inl (fun _ => 0)))] := hD
  refine lv_aload_n hx hb d_mo_init_125 rfl (lv_at hl 0 rfl) ?_
  refine lv_bipush (v := 60) hx hb d_mo_init_126 (by decide) ?_
  refine zz_newt (atype := .int) (ty := .int) (a0 := (60, .inl (fun _ => 0))) hx hb (hts _ (zz_in wk_3)) rfl hK hP hD hS hA 0 rfl (fun _ h => h) (fun _ => rfl) (by decide) (by decide) (by decide) (Nat.le_of_ble_eq_true rfl) (Nat.le_of_ble_eq_true rfl) d_mo_init_128 (fun q15 H hP hD hS => ?_)
  have hP : va_P (dC, dI) zzCl [(q, .inr (5, [.int 0, .int 0, .ref q1, .ref q2, .ref q3, .int 0, .ref q4, .ref q5, .ref q6, .ref q7, .ref q8, .int 0, .ref q9, .ref q10, .ref q11, .int 0, .ref q12, .int 0, .ref q13, .ref q14, .null])), (q1, .inl (cI, 16, .inl (fun _ => 0))), (q2, .inl (cI, 16, .inl (fun _ => 0))), (q3, .inl (cI, 16, .inl (fun _ => 0))), (q4, .inl (cI, 150, .inl (fun _ => 0))), (q5, .inl (cZ, 256, .inl (fun _ => 0))), (q6, .inl (cI, 256, .inl (fun _ => 0))), (q7, .inl (cI, 256, .inl (fun _ => 0))), (q8, .inl (cZ, 256, .inl (fun _ => 0))), (q9, .inl (cI, 130, .inl (fun _ => 0))), (q10, .inl (cI, 130, .inl (fun _ => 0))), (q11, .inl (cZ, 130, .inl (fun _ => 0))), (q12, .inl (cI, 260, .inl (fun _ => 0))), (q13, .inl (cI, 60, .inl (fun _ => 0))), (q14, .inl (cI, 60, .inl (fun _ => 0))), (q15, .inl (cI, 60, .inl (fun _ => 0)))] H := hP
  have hD : va_D A [(q, .inr (5, [.int 0, .int 0, .ref q1, .ref q2, .ref q3, .int 0, .ref q4, .ref q5, .ref q6, .ref q7, .ref q8, .int 0, .ref q9, .ref q10, .ref q11, .int 0, .ref q12, .int 0, .ref q13, .ref q14, .null])), (q1, .inl (cI, 16, .inl (fun _ => 0))), (q2, .inl (cI, 16, .inl (fun _ => 0))), (q3, .inl (cI, 16, .inl (fun _ => 0))), (q4, .inl (cI, 150, .inl (fun _ => 0))), (q5, .inl (cZ, 256, .inl (fun _ => 0))), (q6, .inl (cI, 256, .inl (fun _ => 0))), (q7, .inl (cI, 256, .inl (fun _ => 0))), (q8, .inl (cZ, 256, .inl (fun _ => 0))), (q9, .inl (cI, 130, .inl (fun _ => 0))), (q10, .inl (cI, 130, .inl (fun _ => 0))), (q11, .inl (cZ, 130, .inl (fun _ => 0))), (q12, .inl (cI, 260, .inl (fun _ => 0))), (q13, .inl (cI, 60, .inl (fun _ => 0))), (q14, .inl (cI, 60, .inl (fun _ => 0))), (q15, .inl (cI, 60, .inl (fun _ => 0)))] := hD
  refine va_putF (D := (dC, dI)) (ci := 5) (v := .ref q15) (ty := .array .int) (C := R_mo) (T := T_mo) (N := 21) hx hb hts hin__mo ty_mo tok_mo nmd_mo hown hK hP hD hS 0 rfl rfl 20 (by decide) (hts _ (zz_in wk_41)) (fun _ h9 => h9) rfl hin rfl (by decide +kernel) rfl rfl (Nat.le_of_ble_eq_true rfl) d_mo_init_130 (fun H locs hP hD hS => ?_)
  have hP : va_P (dC, dI) zzCl [(q, .inr (5, [.int 0, .int 0, .ref q1, .ref q2, .ref q3, .int 0, .ref q4, .ref q5, .ref q6, .ref q7, .ref q8, .int 0, .ref q9, .ref q10, .ref q11, .int 0, .ref q12, .int 0, .ref q13, .ref q14, .ref q15])), (q1, .inl (cI, 16, .inl (fun _ => 0))), (q2, .inl (cI, 16, .inl (fun _ => 0))), (q3, .inl (cI, 16, .inl (fun _ => 0))), (q4, .inl (cI, 150, .inl (fun _ => 0))), (q5, .inl (cZ, 256, .inl (fun _ => 0))), (q6, .inl (cI, 256, .inl (fun _ => 0))), (q7, .inl (cI, 256, .inl (fun _ => 0))), (q8, .inl (cZ, 256, .inl (fun _ => 0))), (q9, .inl (cI, 130, .inl (fun _ => 0))), (q10, .inl (cI, 130, .inl (fun _ => 0))), (q11, .inl (cZ, 130, .inl (fun _ => 0))), (q12, .inl (cI, 260, .inl (fun _ => 0))), (q13, .inl (cI, 60, .inl (fun _ => 0))), (q14, .inl (cI, 60, .inl (fun _ => 0))), (q15, .inl (cI, 60, .inl (fun _ => 0)))] H := hP
  have hD : va_D A [(q, .inr (5, [.int 0, .int 0, .ref q1, .ref q2, .ref q3, .int 0, .ref q4, .ref q5, .ref q6, .ref q7, .ref q8, .int 0, .ref q9, .ref q10, .ref q11, .int 0, .ref q12, .int 0, .ref q13, .ref q14, .ref q15])), (q1, .inl (cI, 16, .inl (fun _ => 0))), (q2, .inl (cI, 16, .inl (fun _ => 0))), (q3, .inl (cI, 16, .inl (fun _ => 0))), (q4, .inl (cI, 150, .inl (fun _ => 0))), (q5, .inl (cZ, 256, .inl (fun _ => 0))), (q6, .inl (cI, 256, .inl (fun _ => 0))), (q7, .inl (cI, 256, .inl (fun _ => 0))), (q8, .inl (cZ, 256, .inl (fun _ => 0))), (q9, .inl (cI, 130, .inl (fun _ => 0))), (q10, .inl (cI, 130, .inl (fun _ => 0))), (q11, .inl (cZ, 130, .inl (fun _ => 0))), (q12, .inl (cI, 260, .inl (fun _ => 0))), (q13, .inl (cI, 60, .inl (fun _ => 0))), (q14, .inl (cI, 60, .inl (fun _ => 0))), (q15, .inl (cI, 60, .inl (fun _ => 0)))] := hD
  refine W.widen (k := 15) (n := 2052) (Nat.le_of_ble_eq_true rfl) (Nat.le_of_ble_eq_true rfl) ?_
  exact W.vret hx hb hr (fun t ht hW => ⟨⟨(fun k => [q, q1, q2, q3, q4, q5, q6, q7, q8, q9, q10, q11, q12, q13, q14, q15].getD k 0), rfl, rfl, by rw [ht]; exact hP, va_K.moved hW.alike hK, hD⟩, hS.F ht⟩) hS.2.2 d_mo_init_133
def zz_N4 (U : State) : Prop := va_Nw (.methodLinkNest "SpotContours" 11 yy_sp_init "SpotContours") U ∧ va_Nw (.methodLinkNest "SpotContours" 25 yy_li_init "SpotContours") U ∧ va_Nw (.methodLinkNest "SpotContours" 32 yy_ta_init "SpotContours") U
theorem zz_N4.warm {s U : State} (hW : s.WarmedH U.vm) (h : zz_N4 s) : zz_N4 U := ⟨h.1.warmM hW, h.2.1.warmM hW, h.2.2.warmM hW⟩
theorem zz_N4.same {u U : State} (hv : u.vm = U.vm) (h : zz_N4 u) : zz_N4 U := ⟨h.1.same rfl hv, h.2.1.same rfl hv, h.2.2.same rfl hv⟩
def lz_init (g : St) : Prop := g 1 3 = 0 ∧ g 2 2 = 0 ∧ (∀ i, i < 256 → g 9 i = -1) ∧ g 12 0 = 0 ∧ g 4 3 = 0
abbrev rm_sc_init : Room := { frames := 2, cells := 17, slots := 1095, locals := 41 }
abbrev kc_Pre (D : va_G) (q : Nat) (cI cZ : ClassId) (sz : Nat) : Array Value → State → Prop := va_Pc [.ref q] (fun U => U.heap.size = sz ∧ va_P D zzCl [(q, .inr (4, [.null, .null, .null, .null]))] U.heap ∧ va_K D zzCl [(cI, .int), (cZ, .boolean)] U ∧ va_D (fun _ => True) [(q, .inr (4, [.null, .null, .null, .null]))] ∧ zz_N U ∧ zz_N4 U)
set_option maxHeartbeats 4000000 in
set_option maxRecDepth 100000 in
theorem mc_sc_init (l : Launch) (dC : Nat → ClassId) (dI : Nat → Nat → Nat) (q : Nat) (cI cZ : ClassId) (sz : Nat) : Met l yy_sc_init ww_sc_init rm_sc_init (kc_Pre (dC, dI) q cI cZ sz) (va_Qv (fun u : (Nat → Nat) × St => u.1 0 = q ∧ lz_init u.2) (fun u t => va_P (dC, dI) zzCl (wC u.1 cI cZ u.2) t.heap ∧ va_K (dC, dI) zzCl [(cI, .int), (cZ, .boolean)] t ∧ va_D (va_A [(q, .inr (4, [.null, .null, .null, .null]))] sz) (wC u.1 cI cZ u.2)) (va_A [(q, .inr (4, [.null, .null, .null, .null]))] sz)) 17 1095 (va_A [(q, .inr (4, [.null, .null, .null, .null]))] sz) := by
  refine Met.ofW (cc := cc_sc_init) (maxL := 1) (ret := none) (by decide) rfl ?_
  intro p e s m args below meth c s₁ B hml hv
  obtain ⟨hav, hsz, hP, hK, hD0, hN, hN4⟩ := hv
  have hx := B.exec
  have hb := B.bytes
  have hr := B.returns
  have hts := atoms_spec (ws := ww_sc_init) B.pre
  have hown : s.vm.findClass "SpotContours" = some m.cls := findClass_of_methodNamed B.named
  have hin : meth.name = "<init>" := (name_of_methodNamed B.named B.method).1
  subst hsz
  have hD := hD0.self (sz := s.heap.size)
  generalize hAe : va_A [(q, .inr (4, [.null, .null, .null, .null]))] s.heap.size = A at hD ⊢
  have hA : ∀ q : Nat, s.heap.size ≤ q → A q := fun q h => by rw [← hAe]; exact Or.inr h
  have hS : va_S A s.heap s.heap [] := va_S.rf
  have he9 := lg_entry_eq m [.ref q] 1
  rw [← hav] at he9
  rw [he9]
  have hl := lv_entry [.ref q] (n := 1) (Nat.le_of_ble_eq_true rfl)
  generalize (lg_sl [.ref q] ++ List.replicate (1 - (lg_sl [.ref q]).length) Slot.unset).toArray = ls at hl ⊢
  have hl : lv_has ls 1 [(0, .ref q)] := hl
  have hin__sc : ∀ w ∈ u_ws R_sc T_sc 4, w ∈ ww_sc_init := fun w h => zz_in (hin0_sc w h)
  refine lv_aload_n hx hb d_sc_init_0 rfl (lv_at hl 0 rfl) ?_
  refine W.objInit hx hb hown (hts _ (zz_in wk_42)) (hts _ (zz_in wk_1)) (hts _ (zz_in wk_2)) rfl (by rw [hml]; exact hl.1) rfl d_sc_init_1 (Nat.le_of_ble_eq_true rfl) (Nat.le_of_ble_eq_true rfl) ?_
  refine W.eq (g2 := F0 m 4 ls []) rfl ?_
  have hin_n0 : ∀ w ∈ u_ws R_sp T_sp 4, w ∈ ww_sc_init := fun w h => zz_in (hin0_sp w h)
  refine lv_aload_n hx hb d_sc_init_4 rfl (lv_at hl 0 rfl) ?_
  refine va_new (ci := 2) (fs := [.null, .null, .null, .int 0]) (C := R_sp) (T := T_sp) (N := 4) hx hb hts hin_n0 ty_sp tok_sp hown (hts _ (zz_in wk_43)) (hts _ (zz_in wk_44)) (hts _ (zz_in wk_45)) hK hP hD hS hA rfl (fun j hj => by rcases (show j = 0 ∨ j = 1 ∨ j = 2 ∨ j = 3 by omega) with rfl | rfl | rfl | rfl <;> rfl) (Nat.le_of_ble_eq_true rfl) (Nat.le_of_ble_eq_true rfl) d_sc_init_5 (fun p0 H hP hD hS => ?_)
  have hP : va_P (dC, dI) zzCl ([(q, .inr (4, [.null, .null, .null, .null]))] ++ [(p0, .inr (2, [.null, .null, .null, .int 0]))]) H := hP
  have hD : va_D A ([(q, .inr (4, [.null, .null, .null, .null]))] ++ [(p0, .inr (2, [.null, .null, .null, .int 0]))]) := hD
  refine lv_dup hx hb d_sc_init_8 rfl ?_
  have hPc := lz_r hP
  have hDc := lz_dr hD
  have hFc := zz_free (w := fun _ : St => [(p0, .inr (2, [.null, .null, .null, .int 0]))]) (g := kc_0) hDc hS hA
  refine va_callv (va_runIN (As := []) (rest := [.ref p0, .ref q]) ⟨hx, hb, hml, hown, hts⟩ (mc_sp_init l dC dI p0 cI cZ _) ⟨va_cnB 0 hts (zz_good wk_46) rfl rfl rfl hN4.1 (hts _ (zz_in wk_45)) (by decide +kernel) ⟨Nat.le_of_ble_eq_true rfl, Nat.le_of_ble_eq_true rfl⟩, rfl, hts _ (zz_in wk_47)⟩ ⟨zz_blind, zz_pre (w := fun _ : St => [(p0, .inr (2, [.null, .null, .null, .int 0]))]) (g := kc_0) hPc hK hDc hN⟩ rfl rfl hl.1 rfl (lv_room (Nat.le_of_ble_eq_true rfl)) d_sc_init_9 ⟨Nat.le_of_ble_eq_true rfl, Nat.le_of_ble_eq_true rfl⟩) hS (fun q _ h => hFc q h) hFc (fun u0 t H1 locs1 ht hvm hu0 hB hz1 hk1 hS1 => ?_)
  obtain ⟨hP1, hK1, hD1⟩ := hB
  rw [ht] at hP1
  obtain ⟨hP, hD⟩ := lz_joinR hP hD hk1 hFc hP1 hD1
  have hS := hS1
  generalize H1 = H at hP hS ⊢
  have hP : va_P (dC, dI) zzCl [(q, .inr (4, [.null, .null, .null, .null])), (p0, .inr (2, [.ref (u0 0), .ref (u0 1), .ref (u0 2), .int 0])), (u0 0, .inl (cI, 16, .inl (fun _ => 0))), (u0 1, .inl (cI, 16, .inl (fun _ => 0))), (u0 2, .inl (cI, 16, .inl (fun _ => 0)))] H := hP
  have hD : va_D A [(q, .inr (4, [.null, .null, .null, .null])), (p0, .inr (2, [.ref (u0 0), .ref (u0 1), .ref (u0 2), .int 0])), (u0 0, .inl (cI, 16, .inl (fun _ => 0))), (u0 1, .inl (cI, 16, .inl (fun _ => 0))), (u0 2, .inl (cI, 16, .inl (fun _ => 0)))] := hD
  refine va_putF (D := (dC, dI)) (ci := 4) (v := .ref p0) (ty := .object "SpotContours$Spots") (C := R_sc) (T := T_sc) (N := 4) hx hb hts hin__sc ty_sc tok_sc nmd_sc hown hK hP hD hS 0 rfl rfl 0 (by decide) (hts _ (zz_in wk_48)) (fun _ h9 => h9) rfl hin rfl (by decide +kernel) rfl rfl (Nat.le_of_ble_eq_true rfl) d_sc_init_12 (fun H locs hP hD hS => ?_)
  have hP : va_P (dC, dI) zzCl [(q, .inr (4, [.ref p0, .null, .null, .null])), (p0, .inr (2, [.ref (u0 0), .ref (u0 1), .ref (u0 2), .int 0])), (u0 0, .inl (cI, 16, .inl (fun _ => 0))), (u0 1, .inl (cI, 16, .inl (fun _ => 0))), (u0 2, .inl (cI, 16, .inl (fun _ => 0)))] H := hP
  have hD : va_D A [(q, .inr (4, [.ref p0, .null, .null, .null])), (p0, .inr (2, [.ref (u0 0), .ref (u0 1), .ref (u0 2), .int 0])), (u0 0, .inl (cI, 16, .inl (fun _ => 0))), (u0 1, .inl (cI, 16, .inl (fun _ => 0))), (u0 2, .inl (cI, 16, .inl (fun _ => 0)))] := hD
  have hin_n1 : ∀ w ∈ u_ws R_me T_me 3, w ∈ ww_sc_init := fun w h => zz_in (hin0_me w h)
  refine lv_aload_n hx hb d_sc_init_15 rfl (lv_at hl 0 rfl) ?_
  refine va_new (ci := 1) (fs := [.null, .null, .int 0]) (C := R_me) (T := T_me) (N := 3) hx hb hts hin_n1 ty_me tok_me hown (hts _ (zz_in wk_49)) (hts _ (zz_in wk_50)) (hts _ (zz_in wk_25)) hK hP hD hS hA rfl (fun j hj => by rcases (show j = 0 ∨ j = 1 ∨ j = 2 by omega) with rfl | rfl | rfl <;> rfl) (Nat.le_of_ble_eq_true rfl) (Nat.le_of_ble_eq_true rfl) d_sc_init_16 (fun p1 H hP hD hS => ?_)
  have hP : va_P (dC, dI) zzCl ([(q, .inr (4, [.ref p0, .null, .null, .null])), (p0, .inr (2, [.ref (u0 0), .ref (u0 1), .ref (u0 2), .int 0])), (u0 0, .inl (cI, 16, .inl (fun _ => 0))), (u0 1, .inl (cI, 16, .inl (fun _ => 0))), (u0 2, .inl (cI, 16, .inl (fun _ => 0)))] ++ [(p1, .inr (1, [.null, .null, .int 0]))]) H := hP
  have hD : va_D A ([(q, .inr (4, [.ref p0, .null, .null, .null])), (p0, .inr (2, [.ref (u0 0), .ref (u0 1), .ref (u0 2), .int 0])), (u0 0, .inl (cI, 16, .inl (fun _ => 0))), (u0 1, .inl (cI, 16, .inl (fun _ => 0))), (u0 2, .inl (cI, 16, .inl (fun _ => 0)))] ++ [(p1, .inr (1, [.null, .null, .int 0]))]) := hD
  refine lv_dup hx hb d_sc_init_19 rfl ?_
  have hPc := lz_r hP
  have hDc := lz_dr hD
  have hFc := zz_free (w := fun _ : St => [(p1, .inr (1, [.null, .null, .int 0]))]) (g := kc_0) hDc hS hA
  refine va_callv (va_runI (As := []) (rest := [.ref p1, .ref q]) ⟨hx, hb, hml, hown, hts⟩ (mc_me_init l dC dI p1 cI cZ _) (cwI 0 hts (zz_good wk_51) rfl rfl rfl (hts _ (zz_in wk_25)) (hts _ (zz_in wk_53)) (hts _ (zz_in wk_52)) rfl (by decide +kernel) ⟨Nat.le_of_ble_eq_true rfl, Nat.le_of_ble_eq_true rfl⟩) ⟨zz_blind, zz_pre (w := fun _ : St => [(p1, .inr (1, [.null, .null, .int 0]))]) (g := kc_0) hPc hK hDc hN⟩ rfl rfl hl.1 rfl (lv_room (Nat.le_of_ble_eq_true rfl)) d_sc_init_20 ⟨Nat.le_of_ble_eq_true rfl, Nat.le_of_ble_eq_true rfl⟩) hS (fun q _ h => hFc q h) hFc (fun u1 t H1 locs1 ht hvm hu1 hB hz1 hk1 hS1 => ?_)
  obtain ⟨hP1, hK1, hD1⟩ := hB
  rw [ht] at hP1
  obtain ⟨hP, hD⟩ := lz_joinR hP hD hk1 hFc hP1 hD1
  have hS := hS1
  generalize H1 = H at hP hS ⊢
  have hP : va_P (dC, dI) zzCl [(q, .inr (4, [.ref p0, .null, .null, .null])), (p0, .inr (2, [.ref (u0 0), .ref (u0 1), .ref (u0 2), .int 0])), (u0 0, .inl (cI, 16, .inl (fun _ => 0))), (u0 1, .inl (cI, 16, .inl (fun _ => 0))), (u0 2, .inl (cI, 16, .inl (fun _ => 0))), (p1, .inr (1, [.ref (u1.1 0), .ref (u1.1 1), .int (u1.2 2 2)])), (u1.1 0, .inl (cI, 81, .inl (u1.2 8))), (u1.1 1, .inl (cI, 256, .inl (u1.2 9)))] H := hP
  have hD : va_D A [(q, .inr (4, [.ref p0, .null, .null, .null])), (p0, .inr (2, [.ref (u0 0), .ref (u0 1), .ref (u0 2), .int 0])), (u0 0, .inl (cI, 16, .inl (fun _ => 0))), (u0 1, .inl (cI, 16, .inl (fun _ => 0))), (u0 2, .inl (cI, 16, .inl (fun _ => 0))), (p1, .inr (1, [.ref (u1.1 0), .ref (u1.1 1), .int (u1.2 2 2)])), (u1.1 0, .inl (cI, 81, .inl (u1.2 8))), (u1.1 1, .inl (cI, 256, .inl (u1.2 9)))] := hD
  refine va_putF (D := (dC, dI)) (ci := 4) (v := .ref p1) (ty := .object "SpotContours$Mesh") (C := R_sc) (T := T_sc) (N := 4) hx hb hts hin__sc ty_sc tok_sc nmd_sc hown hK hP hD hS 0 rfl rfl 1 (by decide) (hts _ (zz_in wk_54)) (fun _ h9 => h9) rfl hin rfl (by decide +kernel) rfl rfl (Nat.le_of_ble_eq_true rfl) d_sc_init_23 (fun H locs hP hD hS => ?_)
  have hP : va_P (dC, dI) zzCl [(q, .inr (4, [.ref p0, .ref p1, .null, .null])), (p0, .inr (2, [.ref (u0 0), .ref (u0 1), .ref (u0 2), .int 0])), (u0 0, .inl (cI, 16, .inl (fun _ => 0))), (u0 1, .inl (cI, 16, .inl (fun _ => 0))), (u0 2, .inl (cI, 16, .inl (fun _ => 0))), (p1, .inr (1, [.ref (u1.1 0), .ref (u1.1 1), .int (u1.2 2 2)])), (u1.1 0, .inl (cI, 81, .inl (u1.2 8))), (u1.1 1, .inl (cI, 256, .inl (u1.2 9)))] H := hP
  have hD : va_D A [(q, .inr (4, [.ref p0, .ref p1, .null, .null])), (p0, .inr (2, [.ref (u0 0), .ref (u0 1), .ref (u0 2), .int 0])), (u0 0, .inl (cI, 16, .inl (fun _ => 0))), (u0 1, .inl (cI, 16, .inl (fun _ => 0))), (u0 2, .inl (cI, 16, .inl (fun _ => 0))), (p1, .inr (1, [.ref (u1.1 0), .ref (u1.1 1), .int (u1.2 2 2)])), (u1.1 0, .inl (cI, 81, .inl (u1.2 8))), (u1.1 1, .inl (cI, 256, .inl (u1.2 9)))] := hD
  have hin_n2 : ∀ w ∈ u_ws R_li T_li 6, w ∈ ww_sc_init := fun w h => zz_in (hin0_li w h)
  refine lv_aload_n hx hb d_sc_init_26 rfl (lv_at hl 0 rfl) ?_
  refine va_new (ci := 0) (fs := [.null, .null, .null, .null, .null, .int 0]) (C := R_li) (T := T_li) (N := 6) hx hb hts hin_n2 ty_li tok_li hown (hts _ (zz_in wk_55)) (hts _ (zz_in wk_56)) (hts _ (zz_in wk_57)) hK hP hD hS hA rfl (fun j hj => by rcases (show j = 0 ∨ j = 1 ∨ j = 2 ∨ j = 3 ∨ j = 4 ∨ j = 5 by omega) with rfl | rfl | rfl | rfl | rfl | rfl <;> rfl) (Nat.le_of_ble_eq_true rfl) (Nat.le_of_ble_eq_true rfl) d_sc_init_27 (fun p2 H hP hD hS => ?_)
  have hP : va_P (dC, dI) zzCl ([(q, .inr (4, [.ref p0, .ref p1, .null, .null])), (p0, .inr (2, [.ref (u0 0), .ref (u0 1), .ref (u0 2), .int 0])), (u0 0, .inl (cI, 16, .inl (fun _ => 0))), (u0 1, .inl (cI, 16, .inl (fun _ => 0))), (u0 2, .inl (cI, 16, .inl (fun _ => 0))), (p1, .inr (1, [.ref (u1.1 0), .ref (u1.1 1), .int (u1.2 2 2)])), (u1.1 0, .inl (cI, 81, .inl (u1.2 8))), (u1.1 1, .inl (cI, 256, .inl (u1.2 9)))] ++ [(p2, .inr (0, [.null, .null, .null, .null, .null, .int 0]))]) H := hP
  have hD : va_D A ([(q, .inr (4, [.ref p0, .ref p1, .null, .null])), (p0, .inr (2, [.ref (u0 0), .ref (u0 1), .ref (u0 2), .int 0])), (u0 0, .inl (cI, 16, .inl (fun _ => 0))), (u0 1, .inl (cI, 16, .inl (fun _ => 0))), (u0 2, .inl (cI, 16, .inl (fun _ => 0))), (p1, .inr (1, [.ref (u1.1 0), .ref (u1.1 1), .int (u1.2 2 2)])), (u1.1 0, .inl (cI, 81, .inl (u1.2 8))), (u1.1 1, .inl (cI, 256, .inl (u1.2 9)))] ++ [(p2, .inr (0, [.null, .null, .null, .null, .null, .int 0]))]) := hD
  refine lv_dup hx hb d_sc_init_30 rfl ?_
  have hPc := lz_r hP
  have hDc := lz_dr hD
  have hFc := zz_free (w := fun _ : St => [(p2, .inr (0, [.null, .null, .null, .null, .null, .int 0]))]) (g := kc_0) hDc hS hA
  refine va_callv (va_runIN (As := []) (rest := [.ref p2, .ref q]) ⟨hx, hb, hml, hown, hts⟩ (mc_li_init l dC dI p2 cI cZ _) ⟨va_cnB 0 hts (zz_good wk_58) rfl rfl rfl hN4.2.1 (hts _ (zz_in wk_57)) (by decide +kernel) ⟨Nat.le_of_ble_eq_true rfl, Nat.le_of_ble_eq_true rfl⟩, rfl, hts _ (zz_in wk_59)⟩ ⟨zz_blind, zz_pre (w := fun _ : St => [(p2, .inr (0, [.null, .null, .null, .null, .null, .int 0]))]) (g := kc_0) hPc hK hDc hN⟩ rfl rfl hl.1 rfl (lv_room (Nat.le_of_ble_eq_true rfl)) d_sc_init_31 ⟨Nat.le_of_ble_eq_true rfl, Nat.le_of_ble_eq_true rfl⟩) hS (fun q _ h => hFc q h) hFc (fun u2 t H1 locs1 ht hvm hu2 hB hz1 hk1 hS1 => ?_)
  obtain ⟨hP1, hK1, hD1⟩ := hB
  rw [ht] at hP1
  obtain ⟨hP, hD⟩ := lz_joinR hP hD hk1 hFc hP1 hD1
  have hS := hS1
  generalize H1 = H at hP hS ⊢
  have hP : va_P (dC, dI) zzCl [(q, .inr (4, [.ref p0, .ref p1, .null, .null])), (p0, .inr (2, [.ref (u0 0), .ref (u0 1), .ref (u0 2), .int 0])), (u0 0, .inl (cI, 16, .inl (fun _ => 0))), (u0 1, .inl (cI, 16, .inl (fun _ => 0))), (u0 2, .inl (cI, 16, .inl (fun _ => 0))), (p1, .inr (1, [.ref (u1.1 0), .ref (u1.1 1), .int (u1.2 2 2)])), (u1.1 0, .inl (cI, 81, .inl (u1.2 8))), (u1.1 1, .inl (cI, 256, .inl (u1.2 9))), (p2, .inr (0, [.ref (u2 0), .ref (u2 1), .ref (u2 2), .ref (u2 3), .ref (u2 4), .int 0])), (u2 0, .inl (cZ, 16, .inl (fun _ => 0))), (u2 1, .inl (cI, 120, .inl (fun _ => 0))), (u2 2, .inl (cI, 121, .inl (fun _ => 0))), (u2 3, .inl (cZ, 120, .inl (fun _ => 0))), (u2 4, .inl (cZ, 256, .inl (fun _ => 0)))] H := hP
  have hD : va_D A [(q, .inr (4, [.ref p0, .ref p1, .null, .null])), (p0, .inr (2, [.ref (u0 0), .ref (u0 1), .ref (u0 2), .int 0])), (u0 0, .inl (cI, 16, .inl (fun _ => 0))), (u0 1, .inl (cI, 16, .inl (fun _ => 0))), (u0 2, .inl (cI, 16, .inl (fun _ => 0))), (p1, .inr (1, [.ref (u1.1 0), .ref (u1.1 1), .int (u1.2 2 2)])), (u1.1 0, .inl (cI, 81, .inl (u1.2 8))), (u1.1 1, .inl (cI, 256, .inl (u1.2 9))), (p2, .inr (0, [.ref (u2 0), .ref (u2 1), .ref (u2 2), .ref (u2 3), .ref (u2 4), .int 0])), (u2 0, .inl (cZ, 16, .inl (fun _ => 0))), (u2 1, .inl (cI, 120, .inl (fun _ => 0))), (u2 2, .inl (cI, 121, .inl (fun _ => 0))), (u2 3, .inl (cZ, 120, .inl (fun _ => 0))), (u2 4, .inl (cZ, 256, .inl (fun _ => 0)))] := hD
  refine va_putF (D := (dC, dI)) (ci := 4) (v := .ref p2) (ty := .object "SpotContours$Lines") (C := R_sc) (T := T_sc) (N := 4) hx hb hts hin__sc ty_sc tok_sc nmd_sc hown hK hP hD hS 0 rfl rfl 2 (by decide) (hts _ (zz_in wk_60)) (fun _ h9 => h9) rfl hin rfl (by decide +kernel) rfl rfl (Nat.le_of_ble_eq_true rfl) d_sc_init_34 (fun H locs hP hD hS => ?_)
  have hP : va_P (dC, dI) zzCl [(q, .inr (4, [.ref p0, .ref p1, .ref p2, .null])), (p0, .inr (2, [.ref (u0 0), .ref (u0 1), .ref (u0 2), .int 0])), (u0 0, .inl (cI, 16, .inl (fun _ => 0))), (u0 1, .inl (cI, 16, .inl (fun _ => 0))), (u0 2, .inl (cI, 16, .inl (fun _ => 0))), (p1, .inr (1, [.ref (u1.1 0), .ref (u1.1 1), .int (u1.2 2 2)])), (u1.1 0, .inl (cI, 81, .inl (u1.2 8))), (u1.1 1, .inl (cI, 256, .inl (u1.2 9))), (p2, .inr (0, [.ref (u2 0), .ref (u2 1), .ref (u2 2), .ref (u2 3), .ref (u2 4), .int 0])), (u2 0, .inl (cZ, 16, .inl (fun _ => 0))), (u2 1, .inl (cI, 120, .inl (fun _ => 0))), (u2 2, .inl (cI, 121, .inl (fun _ => 0))), (u2 3, .inl (cZ, 120, .inl (fun _ => 0))), (u2 4, .inl (cZ, 256, .inl (fun _ => 0)))] H := hP
  have hD : va_D A [(q, .inr (4, [.ref p0, .ref p1, .ref p2, .null])), (p0, .inr (2, [.ref (u0 0), .ref (u0 1), .ref (u0 2), .int 0])), (u0 0, .inl (cI, 16, .inl (fun _ => 0))), (u0 1, .inl (cI, 16, .inl (fun _ => 0))), (u0 2, .inl (cI, 16, .inl (fun _ => 0))), (p1, .inr (1, [.ref (u1.1 0), .ref (u1.1 1), .int (u1.2 2 2)])), (u1.1 0, .inl (cI, 81, .inl (u1.2 8))), (u1.1 1, .inl (cI, 256, .inl (u1.2 9))), (p2, .inr (0, [.ref (u2 0), .ref (u2 1), .ref (u2 2), .ref (u2 3), .ref (u2 4), .int 0])), (u2 0, .inl (cZ, 16, .inl (fun _ => 0))), (u2 1, .inl (cI, 120, .inl (fun _ => 0))), (u2 2, .inl (cI, 121, .inl (fun _ => 0))), (u2 3, .inl (cZ, 120, .inl (fun _ => 0))), (u2 4, .inl (cZ, 256, .inl (fun _ => 0)))] := hD
  have hin_n3 : ∀ w ∈ u_ws R_ta T_ta 4, w ∈ ww_sc_init := fun w h => zz_in (hin0_ta w h)
  refine lv_aload_n hx hb d_sc_init_37 rfl (lv_at hl 0 rfl) ?_
  refine va_new (ci := 3) (fs := [.null, .null, .null, .int 0]) (C := R_ta) (T := T_ta) (N := 4) hx hb hts hin_n3 ty_ta tok_ta hown (hts _ (zz_in wk_61)) (hts _ (zz_in wk_62)) (hts _ (zz_in wk_63)) hK hP hD hS hA rfl (fun j hj => by rcases (show j = 0 ∨ j = 1 ∨ j = 2 ∨ j = 3 by omega) with rfl | rfl | rfl | rfl <;> rfl) (Nat.le_of_ble_eq_true rfl) (Nat.le_of_ble_eq_true rfl) d_sc_init_38 (fun p3 H hP hD hS => ?_)
  have hP : va_P (dC, dI) zzCl ([(q, .inr (4, [.ref p0, .ref p1, .ref p2, .null])), (p0, .inr (2, [.ref (u0 0), .ref (u0 1), .ref (u0 2), .int 0])), (u0 0, .inl (cI, 16, .inl (fun _ => 0))), (u0 1, .inl (cI, 16, .inl (fun _ => 0))), (u0 2, .inl (cI, 16, .inl (fun _ => 0))), (p1, .inr (1, [.ref (u1.1 0), .ref (u1.1 1), .int (u1.2 2 2)])), (u1.1 0, .inl (cI, 81, .inl (u1.2 8))), (u1.1 1, .inl (cI, 256, .inl (u1.2 9))), (p2, .inr (0, [.ref (u2 0), .ref (u2 1), .ref (u2 2), .ref (u2 3), .ref (u2 4), .int 0])), (u2 0, .inl (cZ, 16, .inl (fun _ => 0))), (u2 1, .inl (cI, 120, .inl (fun _ => 0))), (u2 2, .inl (cI, 121, .inl (fun _ => 0))), (u2 3, .inl (cZ, 120, .inl (fun _ => 0))), (u2 4, .inl (cZ, 256, .inl (fun _ => 0)))] ++ [(p3, .inr (3, [.null, .null, .null, .int 0]))]) H := hP
  have hD : va_D A ([(q, .inr (4, [.ref p0, .ref p1, .ref p2, .null])), (p0, .inr (2, [.ref (u0 0), .ref (u0 1), .ref (u0 2), .int 0])), (u0 0, .inl (cI, 16, .inl (fun _ => 0))), (u0 1, .inl (cI, 16, .inl (fun _ => 0))), (u0 2, .inl (cI, 16, .inl (fun _ => 0))), (p1, .inr (1, [.ref (u1.1 0), .ref (u1.1 1), .int (u1.2 2 2)])), (u1.1 0, .inl (cI, 81, .inl (u1.2 8))), (u1.1 1, .inl (cI, 256, .inl (u1.2 9))), (p2, .inr (0, [.ref (u2 0), .ref (u2 1), .ref (u2 2), .ref (u2 3), .ref (u2 4), .int 0])), (u2 0, .inl (cZ, 16, .inl (fun _ => 0))), (u2 1, .inl (cI, 120, .inl (fun _ => 0))), (u2 2, .inl (cI, 121, .inl (fun _ => 0))), (u2 3, .inl (cZ, 120, .inl (fun _ => 0))), (u2 4, .inl (cZ, 256, .inl (fun _ => 0)))] ++ [(p3, .inr (3, [.null, .null, .null, .int 0]))]) := hD
  refine lv_dup hx hb d_sc_init_41 rfl ?_
  have hPc := lz_r hP
  have hDc := lz_dr hD
  have hFc := zz_free (w := fun _ : St => [(p3, .inr (3, [.null, .null, .null, .int 0]))]) (g := kc_0) hDc hS hA
  refine va_callv (va_runIN (As := []) (rest := [.ref p3, .ref q]) ⟨hx, hb, hml, hown, hts⟩ (mc_ta_init l dC dI p3 cI cZ _) ⟨va_cnB 0 hts (zz_good wk_64) rfl rfl rfl hN4.2.2 (hts _ (zz_in wk_63)) (by decide +kernel) ⟨Nat.le_of_ble_eq_true rfl, Nat.le_of_ble_eq_true rfl⟩, rfl, hts _ (zz_in wk_65)⟩ ⟨zz_blind, zz_pre (w := fun _ : St => [(p3, .inr (3, [.null, .null, .null, .int 0]))]) (g := kc_0) hPc hK hDc hN⟩ rfl rfl hl.1 rfl (lv_room (Nat.le_of_ble_eq_true rfl)) d_sc_init_42 ⟨Nat.le_of_ble_eq_true rfl, Nat.le_of_ble_eq_true rfl⟩) hS (fun q _ h => hFc q h) hFc (fun u3 t H1 locs1 ht hvm hu3 hB hz1 hk1 hS1 => ?_)
  obtain ⟨hP1, hK1, hD1⟩ := hB
  rw [ht] at hP1
  obtain ⟨hP, hD⟩ := lz_joinR hP hD hk1 hFc hP1 hD1
  have hS := hS1
  generalize H1 = H at hP hS ⊢
  have hP : va_P (dC, dI) zzCl [(q, .inr (4, [.ref p0, .ref p1, .ref p2, .null])), (p0, .inr (2, [.ref (u0 0), .ref (u0 1), .ref (u0 2), .int 0])), (u0 0, .inl (cI, 16, .inl (fun _ => 0))), (u0 1, .inl (cI, 16, .inl (fun _ => 0))), (u0 2, .inl (cI, 16, .inl (fun _ => 0))), (p1, .inr (1, [.ref (u1.1 0), .ref (u1.1 1), .int (u1.2 2 2)])), (u1.1 0, .inl (cI, 81, .inl (u1.2 8))), (u1.1 1, .inl (cI, 256, .inl (u1.2 9))), (p2, .inr (0, [.ref (u2 0), .ref (u2 1), .ref (u2 2), .ref (u2 3), .ref (u2 4), .int 0])), (u2 0, .inl (cZ, 16, .inl (fun _ => 0))), (u2 1, .inl (cI, 120, .inl (fun _ => 0))), (u2 2, .inl (cI, 121, .inl (fun _ => 0))), (u2 3, .inl (cZ, 120, .inl (fun _ => 0))), (u2 4, .inl (cZ, 256, .inl (fun _ => 0))), (p3, .inr (3, [.ref (u3 0), .ref (u3 1), .ref (u3 2), .int 0])), (u3 0, .inl (cI, 20, .inl (fun _ => 0))), (u3 1, .inl (cI, 20, .inl (fun _ => 0))), (u3 2, .inl (cI, 20, .inl (fun _ => 0)))] H := hP
  have hD : va_D A [(q, .inr (4, [.ref p0, .ref p1, .ref p2, .null])), (p0, .inr (2, [.ref (u0 0), .ref (u0 1), .ref (u0 2), .int 0])), (u0 0, .inl (cI, 16, .inl (fun _ => 0))), (u0 1, .inl (cI, 16, .inl (fun _ => 0))), (u0 2, .inl (cI, 16, .inl (fun _ => 0))), (p1, .inr (1, [.ref (u1.1 0), .ref (u1.1 1), .int (u1.2 2 2)])), (u1.1 0, .inl (cI, 81, .inl (u1.2 8))), (u1.1 1, .inl (cI, 256, .inl (u1.2 9))), (p2, .inr (0, [.ref (u2 0), .ref (u2 1), .ref (u2 2), .ref (u2 3), .ref (u2 4), .int 0])), (u2 0, .inl (cZ, 16, .inl (fun _ => 0))), (u2 1, .inl (cI, 120, .inl (fun _ => 0))), (u2 2, .inl (cI, 121, .inl (fun _ => 0))), (u2 3, .inl (cZ, 120, .inl (fun _ => 0))), (u2 4, .inl (cZ, 256, .inl (fun _ => 0))), (p3, .inr (3, [.ref (u3 0), .ref (u3 1), .ref (u3 2), .int 0])), (u3 0, .inl (cI, 20, .inl (fun _ => 0))), (u3 1, .inl (cI, 20, .inl (fun _ => 0))), (u3 2, .inl (cI, 20, .inl (fun _ => 0)))] := hD
  refine va_putF (D := (dC, dI)) (ci := 4) (v := .ref p3) (ty := .object "SpotContours$Tags") (C := R_sc) (T := T_sc) (N := 4) hx hb hts hin__sc ty_sc tok_sc nmd_sc hown hK hP hD hS 0 rfl rfl 3 (by decide) (hts _ (zz_in wk_66)) (fun _ h9 => h9) rfl hin rfl (by decide +kernel) rfl rfl (Nat.le_of_ble_eq_true rfl) d_sc_init_45 (fun H locs hP hD hS => ?_)
  have hP : va_P (dC, dI) zzCl [(q, .inr (4, [.ref p0, .ref p1, .ref p2, .ref p3])), (p0, .inr (2, [.ref (u0 0), .ref (u0 1), .ref (u0 2), .int 0])), (u0 0, .inl (cI, 16, .inl (fun _ => 0))), (u0 1, .inl (cI, 16, .inl (fun _ => 0))), (u0 2, .inl (cI, 16, .inl (fun _ => 0))), (p1, .inr (1, [.ref (u1.1 0), .ref (u1.1 1), .int (u1.2 2 2)])), (u1.1 0, .inl (cI, 81, .inl (u1.2 8))), (u1.1 1, .inl (cI, 256, .inl (u1.2 9))), (p2, .inr (0, [.ref (u2 0), .ref (u2 1), .ref (u2 2), .ref (u2 3), .ref (u2 4), .int 0])), (u2 0, .inl (cZ, 16, .inl (fun _ => 0))), (u2 1, .inl (cI, 120, .inl (fun _ => 0))), (u2 2, .inl (cI, 121, .inl (fun _ => 0))), (u2 3, .inl (cZ, 120, .inl (fun _ => 0))), (u2 4, .inl (cZ, 256, .inl (fun _ => 0))), (p3, .inr (3, [.ref (u3 0), .ref (u3 1), .ref (u3 2), .int 0])), (u3 0, .inl (cI, 20, .inl (fun _ => 0))), (u3 1, .inl (cI, 20, .inl (fun _ => 0))), (u3 2, .inl (cI, 20, .inl (fun _ => 0)))] H := hP
  have hD : va_D A [(q, .inr (4, [.ref p0, .ref p1, .ref p2, .ref p3])), (p0, .inr (2, [.ref (u0 0), .ref (u0 1), .ref (u0 2), .int 0])), (u0 0, .inl (cI, 16, .inl (fun _ => 0))), (u0 1, .inl (cI, 16, .inl (fun _ => 0))), (u0 2, .inl (cI, 16, .inl (fun _ => 0))), (p1, .inr (1, [.ref (u1.1 0), .ref (u1.1 1), .int (u1.2 2 2)])), (u1.1 0, .inl (cI, 81, .inl (u1.2 8))), (u1.1 1, .inl (cI, 256, .inl (u1.2 9))), (p2, .inr (0, [.ref (u2 0), .ref (u2 1), .ref (u2 2), .ref (u2 3), .ref (u2 4), .int 0])), (u2 0, .inl (cZ, 16, .inl (fun _ => 0))), (u2 1, .inl (cI, 120, .inl (fun _ => 0))), (u2 2, .inl (cI, 121, .inl (fun _ => 0))), (u2 3, .inl (cZ, 120, .inl (fun _ => 0))), (u2 4, .inl (cZ, 256, .inl (fun _ => 0))), (p3, .inr (3, [.ref (u3 0), .ref (u3 1), .ref (u3 2), .int 0])), (u3 0, .inl (cI, 20, .inl (fun _ => 0))), (u3 1, .inl (cI, 20, .inl (fun _ => 0))), (u3 2, .inl (cI, 20, .inl (fun _ => 0)))] := hD
  obtain ⟨a, ea⟩ : ∃ z : Nat → Nat, z = (fun k => [q, p0, p1, p2, p3, u0 0, u0 1, u0 2, u1.1 0, u1.1 1, u2 0, u2 1, u2 2, u2 3, u2 4, u3 0, u3 1, u3 2].getD k 0) := ⟨_, rfl⟩
  obtain ⟨g, eg⟩ : ∃ z : St, z = (fun k => match k with | 2 => u1.2 2 | 8 => u1.2 8 | 9 => u1.2 9 | _ => fun _ => 0) := ⟨_, rfl⟩
  have hP9 : va_P (dC, dI) zzCl (wC a cI cZ g) H := hP.sub [0, 1, 5, 8, 14, 2, 3, 4, 6, 7, 9, 10, 11, 12, 13, 15, 16, 17] (by rw [ea, eg]; rfl)
  have hD9 : va_D A (wC a cI cZ g) := hD.sub [0, 1, 5, 8, 14, 2, 3, 4, 6, 7, 9, 10, 11, 12, 13, 15, 16, 17] (by decide) (by rw [ea, eg]; rfl)
  refine W.widen (k := 17) (n := 1095) (Nat.le_of_ble_eq_true rfl) (Nat.le_of_ble_eq_true rfl) ?_
  exact W.vret hx hb hr (fun t ht hW => ⟨⟨(a, g), rfl, ⟨by rw [ea]; rfl, by rw [eg]; exact ⟨rfl, hu1.1, hu1.2, rfl, rfl⟩⟩, by rw [ht]; exact hP9, va_K.moved hW.alike hK, hD9⟩, hS.F ht⟩) hS.2.2 d_sc_init_48
