/-! The law's loop, and the claim. -/
abbrev lz_z : Nat → Int := fun _ => 0
theorem lz_tl : tl lz_z lz_z 0 4096 = [] := by
  refine List.eq_nil_iff_forall_not_mem.mpr (fun x hx => ?_)
  obtain ⟨-, -, -, h3, -⟩ := tl_mem.mp hx
  omega
theorem lz_ok : ge_ok lz_z lz_z 0 := ⟨by omega, fun v h => absurd h (by omega), fun u v h => absurd h (by omega)⟩
theorem lz_iC {g : St} (h : lz_init g) : iC g 0 lz_z lz_z lz_z (0, lz_z, lz_z, lz_z) := by
  obtain ⟨h1, h2, h3, h4, h5⟩ := h
  refine ⟨⟨lz_ok, fun v h => absurd h (by omega), h1, fun v h => absurd h (by omega)⟩, ?_, h4, by omega, h5, fun v h => absurd h (by simp)⟩
  rw [lz_tl]
  exact ⟨h2, fun t h => absurd h (by simp), fun p q r ⟨_, x, hx, _⟩ => absurd hx (by simp), fun p q hp hq _ => h3 _ (by omega)⟩
theorem lz_iM : iM kc_0 0 lz_z lz_z lz_z (0, lz_z, lz_z, lz_z) := by
  refine ⟨⟨lz_ok, fun v h => absurd h (by omega), rfl, fun v h => absurd h (by omega)⟩, ?_, rfl, fun v h => absurd h (by simp)⟩
  rw [lz_tl]
  exact ⟨rfl, fun t h => absurd h (by simp)⟩
theorem lz_arr {s : State} {args : Array Value} {ty : FieldType} (hra : ∀ c, s.vm.findClass ("[" ++ ty.toString) = some c → va_RA s c ty) (h : (Cond.arrayClass ty).before args s = true) : ∃ c : ClassId, ArrOfT s c ty ∧ va_RA s c ty := by
  obtain ⟨cA, kA, comp, h1, h2, h3⟩ := Cond.arrayClass_spec h
  exact ⟨cA, fun n z => ⟨fun k h => (by cases h), kA, h2, comp, h3⟩, hra cA h1⟩
theorem lz_known {s : State} {args : Array Value} (hts : ∀ w ∈ lz_c :: zz_B, w.before args s = true) : ∃ (dC : Nat → ClassId) (dI : Nat → Nat → Nat) (cI cZ cJ : ClassId), va_K (dC, dI) zzCl (lz_ty cI cZ cJ) s := by
  obtain ⟨c0, i0, h0⟩ := u_known (C := R_li) (T := T_li) (N := 6) (n := 6) hts (fun w h => zz_in (hin0_li w h)) (hts _ (zz_in (zz_mem (List.mem_append_right _ (List.mem_of_getElem? (i := 64) (by decide +kernel))) (by decide +kernel))))
  obtain ⟨c1, i1, h1⟩ := u_known (C := R_me) (T := T_me) (N := 3) (n := 3) hts (fun w h => zz_in (hin0_me w h)) (hts _ (zz_in (zz_mem (List.mem_append_right _ (List.mem_of_getElem? (i := 44) (by decide +kernel))) (by decide +kernel))))
  obtain ⟨c2, i2, h2⟩ := u_known (C := R_sp) (T := T_sp) (N := 4) (n := 4) hts (fun w h => zz_in (hin0_sp w h)) (hts _ (zz_in (zz_mem (List.mem_append_right _ (List.mem_of_getElem? (i := 24) (by decide +kernel))) (by decide +kernel))))
  obtain ⟨c3, i3, h3⟩ := u_known (C := R_ta) (T := T_ta) (N := 4) (n := 4) hts (fun w h => zz_in (hin0_ta w h)) (hts _ (zz_in (zz_mem (List.mem_append_right _ (List.mem_of_getElem? (i := 90) (by decide +kernel))) (by decide +kernel))))
  obtain ⟨c4, i4, h4⟩ := u_known (C := R_sc) (T := T_sc) (N := 4) (n := 4) hts (fun w h => zz_in (hin0_sc w h)) (hts _ (zz_in (zz_mem (List.mem_append_right _ (List.mem_of_getElem? (i := 16) (by decide +kernel))) (by decide +kernel))))
  obtain ⟨c5, i5, h5⟩ := u_known (C := R_mo) (T := T_mo) (N := 21) (n := 21) hts (fun w h => zz_in (hin0_mo w h)) (hts _ (zz_in (zz_mem (List.mem_append_right _ (List.mem_of_getElem? (i := 575) (by decide +kernel))) (by decide +kernel))))
  obtain ⟨cI, aI⟩ := lz_arr (ty := .int) (fun _ h => h) (hts _ (zz_in (zz_mem (List.mem_append_right _ (List.mem_of_getElem? (i := 42) (by decide +kernel))) (by decide +kernel))))
  obtain ⟨cZ, aZ⟩ := lz_arr (ty := .boolean) (fun _ h => h) (hts _ (zz_in (zz_mem (List.mem_append_right _ (List.mem_of_getElem? (i := 88) (by decide +kernel))) (by decide +kernel))))
  obtain ⟨cJ, aJ⟩ := lz_arr (ty := .long) (fun _ h => h) (hts _ (zz_in (zz_mem (List.mem_append_right _ (List.mem_of_getElem? (i := 802) (by decide +kernel))) (by decide +kernel))))
  refine ⟨fun k => match k with | 0 => c0 | 1 => c1 | 2 => c2 | 3 => c3 | 4 => c4 | _ => c5, fun k => match k with | 0 => i0 | 1 => i1 | 2 => i2 | 3 => i3 | 4 => i4 | _ => i5, cI, cZ, cJ, fun k q hq => ?_, fun k q hq => ?_⟩
  · match k, hq with
    | 0, hq => cases hq; exact h0
    | 1, hq => cases hq; exact h1
    | 2, hq => cases hq; exact h2
    | 3, hq => cases hq; exact h3
    | 4, hq => cases hq; exact h4
    | 5, hq => cases hq; exact h5
    | k + 6, hq => simp at hq
  · match k, hq with
    | 0, hq => cases hq; exact aI
    | 1, hq => cases hq; exact aZ
    | 2, hq => cases hq; exact aJ
    | k + 3, hq => simp at hq
section
variable {s : State} {args : Array Value}
theorem lz_N (h : ∀ w ∈ lw_tbl, w.before args s = true) : zz_N s := ⟨⟨va_Nw.of rfl (h _ (List.mem_append_right _ (List.mem_of_getElem? (i := 424) (by decide +kernel)))), va_Nw.of rfl (h _ (List.mem_append_right _ (List.mem_of_getElem? (i := 427) (by decide +kernel)))), va_Nw.of rfl (h _ (List.mem_append_right _ (List.mem_of_getElem? (i := 513) (by decide +kernel)))), va_Nw.of rfl (h _ (List.mem_append_right _ (List.mem_of_getElem? (i := 514) (by decide +kernel))))⟩, fun k => by
  match k with
  | 0 => exact va_Nw.of rfl (h _ (List.mem_append_right _ (List.mem_of_getElem? (i := 166) (by decide +kernel))))
  | 1 => exact va_Nw.of rfl (h _ (List.mem_append_right _ (List.mem_of_getElem? (i := 234) (by decide +kernel))))
  | 2 => exact va_Nw.of rfl (h _ (List.mem_append_right _ (List.mem_of_getElem? (i := 306) (by decide +kernel))))
  | k + 3 => exact (show va_Nw (.castable "java/util/NoSuchElementException" "java/util/NoSuchElementException") s from va_Nw.of rfl (h _ (List.mem_append_right _ (List.mem_of_getElem? (i := 377) (by decide +kernel))))), va_Nw.of rfl (h _ (List.mem_append_right _ (List.mem_of_getElem? (i := 167) (by decide +kernel)))), va_Nw.of rfl (h _ (List.mem_append_right _ (List.mem_of_getElem? (i := 169) (by decide +kernel)))), va_Nw.of rfl (h _ (List.mem_append_right _ (List.mem_of_getElem? (i := 171) (by decide +kernel))))⟩
theorem lz_N4 (h : ∀ w ∈ lw_tbl, w.before args s = true) : zz_N4 s := ⟨va_Nw.of rfl (h _ (List.mem_append_right _ (List.mem_of_getElem? (i := 25) (by decide +kernel)))), va_Nw.of rfl (h _ (List.mem_append_right _ (List.mem_of_getElem? (i := 65) (by decide +kernel)))), va_Nw.of rfl (h _ (List.mem_append_right _ (List.mem_of_getElem? (i := 91) (by decide +kernel))))⟩
theorem lz_N3 (h : (Jvm.Cond.and given_1 narrow_1).before args s = true) : zz_N3 s := by
  have hs := flat_of_before _ h
  exact ⟨va_Nc.of (hs (.not (.castable (zz_xn 1) (zz_xn 0))) (by decide +kernel)), va_Nc.of (hs (.not (.castable (zz_xn 0) (zz_xn 2))) (by decide +kernel)), va_Nc.of (hs (.not (.castable (zz_xn 2) (zz_xn 0))) (by decide +kernel))⟩
theorem lz_U (h : ∀ w ∈ lw_tbl, w.before args s = true) (hg : (Jvm.Cond.and given_1 narrow_1).before args s = true) : zz_U (lz_A s) s s.heap := by
  have hs := flat_of_before _ hg
  exact ⟨vx_Zqof (h _ (List.mem_append_right _ (List.mem_of_getElem? (i := 191) (by decide +kernel)))) (h _ (List.mem_append_right _ (List.mem_of_getElem? (i := 7) (by decide +kernel)))) (hs (.isRef (.static "java/lang/Throwable" "UNASSIGNED_STACK" "[Ljava/lang/StackTraceElement;")) (by decide +kernel)) (fun a h => Nat.not_le.mpr h), vx_Zqof (h _ (List.mem_append_right _ (List.mem_of_getElem? (i := 193) (by decide +kernel)))) (h _ (List.mem_append_right _ (List.mem_of_getElem? (i := 7) (by decide +kernel)))) (hs (.isRef (.static "java/lang/Throwable" "SUPPRESSED_SENTINEL" "Ljava/util/List;")) (by decide +kernel)) (fun a h => Nat.not_le.mpr h)⟩
end
section
variable {p : Program} {l : Launch} {e : Env} {s : State} {m : MethodId} {below : List Frame} {meth : Method} {c : Code} {b0 L : Nat} {xs : Nat → Int32} {dC : Nat → ClassId} {dI : Nat → Nat → Nat} {a b : Nat → Nat} {o : Nat} {cI cZ cJ : ClassId} {Q : State → Prop}
theorem lz_gt {i L : Nat} (hL : L ≤ 2048) (hi : i ≤ L + 3) : ¬ (Int32.ofNat L - 4 < nI i) → i + 4 ≤ L := by
  intro h
  rw [show Int32.ofNat L = iI (L : Int) from (iI_nI L).symm, show (4 : Int32) = iI 4 from rfl, iI_sub, ← iI_nI i, iI_lt (by omega) (by omega) (by omega) (by omega)] at h
  omega
set_option maxHeartbeats 4000000 in
set_option maxRecDepth 100000 in
theorem lz_loop (hx9 : lz_X p l s m c b0 L xs dC dI cI cZ cJ) (hL : L ≤ 2048) (hQ : ∀ (H : Heap) (locs : List Loc) (ls : Array Slot) (cells slots : Nat), va_S (lz_A s) s.heap H locs → cells ≤ 601024 → slots ≤ 7293034 → W p l e room_1 s m #[Value.ref b0] below meth c H locs cells slots Q (F0 m 913 ls [])) :
    ∀ (n i : Nat) (g h : St) (f : Nat → Int64) (H : Heap) (locs : List Loc) (ls : Array Slot) (cells slots : Nat), L + 4 ≤ n + i → i ≤ L + 3 → lz_Y s dC dI a b o cI cZ cJ b0 i g h f H locs ls → cells + (2056 - i) ≤ 601024 → slots + 6 * (2056 - i) ≤ 7293034 → W p l e room_1 s m #[Value.ref b0] below meth c H locs cells slots Q (F0 m 23 ls []) := by
  intro n
  induction n with
  | zero => intro i g h f H locs ls cells slots h1 h2; omega
  | succ n ih =>
    intro i g h f H locs ls cells slots h1 h2 hY hce hsl
    obtain ⟨hx, hb, hml, hown, hts, hX, hbl, hK, hN, hN3, hU, hlt⟩ := id hx9
    obtain ⟨hR, hP, hD, hS, hl⟩ := id hY
    have hbA : ¬ lz_A s b0 := Nat.not_le.mpr hbl
    refine lv_iload hx hb d_law_23 (lv_at hl 4 rfl) ?_
    refine lv_aload_n hx hb d_law_25 rfl (lv_at hl 0 rfl) ?_
    refine va_slen hx hb hX hbl hbA hS d_law_26 ?_
    refine lv_iconst (v := 4) hx hb d_law_27 (by decide) ?_
    refine lv_isub hx hb d_law_28 ?_
    refine lv_icmp_gt (tgt := 913) hx hb d_law_29 (by decide) (fun hc => hQ H locs ls cells slots hS (by omega) (by omega)) (fun hc => ?_)
    have hi := lz_gt hL h2 hc
    refine lv_aload_n hx hb d_law_32 rfl (lv_at hl 0 rfl) ?_
    refine lv_iload hx hb d_law_33 (lv_at hl 4 rfl) ?_
    refine va_sld hx hb hX hbl hbA hS (vp_in_nI (by omega) (by omega)) d_law_35 ?_
    refine lv_bipush (v := 15) hx hb d_law_36 (by decide) ?_
    refine lv_iand hx hb d_law_38 ?_
    obtain ⟨j, hj, ej⟩ := pk_andE (xs (nI i).toNatClampNeg) (m := 15) 4 (by decide)
    rw [ej]
    have K : ∀ g h f H locs ls, lz_Y s dC dI a b o cI cZ cJ b0 i g h f H locs ls → W p l e room_1 s m #[Value.ref b0] below meth c H locs (cells + 2) (slots + 12) Q (F0 m 907 ls []) := by
      intro g h f H locs ls hY
      obtain ⟨hR, hP, hD, hS, hl⟩ := hY
      refine lv_iinc (k := 4) (v := nI (i + 4)) (lv' := [(4, .int (nI (i + 4))), (0, .ref b0), (1, .ref (a 0)), (2, .ref (b 0)), (3, .ref o)]) hx hb d_law_907 hl rfl (by rw [show Int32.ofInt 4 = nI 4 from rfl, nI_add]) (by decide) rfl (fun ls hl => ?_)
      refine lv_goto (tgt := 23) hx hb d_law_910 (by decide) ?_
      exact ih (i + 4) g h f H locs ls (cells + 2) (slots + 12) (by omega) (by omega) ⟨hR, hP, hD, hS, lv_sub hl [1, 2, 3, 4, 0] rfl⟩ (by omega) (by omega)
    have hce2 : cells + 2 ≤ 601024 := by omega
    have hsl2 : slots + 12 ≤ 7293034 := by omega
    rcases (show j = 0 ∨ j = 1 ∨ j = 2 ∨ j = 3 ∨ j = 4 ∨ j = 5 ∨ j = 6 ∨ j = 7 ∨ j = 8 ∨ j = 9 ∨ j = 10 ∨ j = 11 ∨ j = 12 ∨ j = 13 ∨ j = 14 ∨ j = 15 by omega) with rfl | rfl | rfl | rfl | rfl | rfl | rfl | rfl | rfl | rfl | rfl | rfl | rfl | rfl | rfl | rfl
    · exact lv_tableIn (off := 69) (tgt := 108) hx hb d_law_39 (by decide) (by decide) (by decide) (by decide) (cs_spot hx9 hi hL hY hce2 hsl2 K)
    · exact lv_tableIn (off := 149) (tgt := 188) hx hb d_law_39 (by decide) (by decide) (by decide) (by decide) (cs_raise hx9 hi hL hY hce2 hsl2 K)
    · exact lv_tableIn (off := 217) (tgt := 256) hx hb d_law_39 (by decide) (by decide) (by decide) (by decide) (cs_triangles hx9 hi hL hY hce2 hsl2 K)
    · exact lv_tableIn (off := 230) (tgt := 269) hx hb d_law_39 (by decide) (by decide) (by decide) (by decide) (cs_corner hx9 hi hL hY hce2 hsl2 K)
    · exact lv_tableIn (off := 298) (tgt := 337) hx hb d_law_39 (by decide) (by decide) (by decide) (by decide) (cs_edge hx9 hi hL hY hce2 hsl2 K)
    · exact lv_tableIn (off := 366) (tgt := 405) hx hb d_law_39 (by decide) (by decide) (by decide) (by decide) (cs_at hx9 hi hL hY hce2 hsl2 K)
    · exact lv_tableIn (off := 434) (tgt := 473) hx hb d_law_39 (by decide) (by decide) (by decide) (by decide) (cs_contours hx9 hi hL hY hce2 hsl2 K)
    · exact lv_tableIn (off := 490) (tgt := 529) hx hb d_law_39 (by decide) (by decide) (by decide) (by decide) (cs_contour hx9 hi hL hY hce2 hsl2 K)
    · exact lv_tableIn (off := 558) (tgt := 597) hx hb d_law_39 (by decide) (by decide) (by decide) (by decide) (cs_crossing hx9 hi hL hY hce2 hsl2 K)
    · exact lv_tableIn (off := 638) (tgt := 677) hx hb d_law_39 (by decide) (by decide) (by decide) (by decide) (cs_place hx9 hi hL hY hce2 hsl2 K)
    · exact lv_tableIn (off := 718) (tgt := 757) hx hb d_law_39 (by decide) (by decide) (by decide) (by decide) (cs_label hx9 hi hL hY hce2 hsl2 K)
    · exact lv_tableIn (off := 774) (tgt := 813) hx hb d_law_39 (by decide) (by decide) (by decide) (by decide) (cs_labels hx9 hi hL hY hce2 hsl2 K)
    · exact lv_tableIn (off := 787) (tgt := 826) hx hb d_law_39 (by decide) (by decide) (by decide) (by decide) (cs_labelOf hx9 hi hL hY hce2 hsl2 K)
    · exact lv_tableIn (off := 855) (tgt := 894) hx hb d_law_39 (by decide) (by decide) (by decide) (by decide) (cs_wipe hx9 hi hL hY hce2 hsl2 K)
    · exact lv_tableOut (tgt := 907) hx hb d_law_39 (by decide) (by decide) (W.widen (k := cells + 2) (n := slots + 12) (by omega) (by omega) (K g h f H locs ls hY))
    · exact lv_tableOut (tgt := 907) hx hb d_law_39 (by decide) (by decide) (W.widen (k := cells + 2) (n := slots + 12) (by omega) (by omega) (K g h f H locs ls hY))
end
