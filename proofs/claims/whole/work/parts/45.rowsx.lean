/-! Rows of this claim's own for methods that may throw. (Draft.) -/
abbrev zz_U (A : Nat → Prop) (U : State) (H : Heap) : Prop := vx_Zq "java/lang/Throwable" "UNASSIGNED_STACK" "[Ljava/lang/StackTraceElement;" A U H ∧ vx_Zq "java/lang/Throwable" "SUPPRESSED_SENTINEL" "Ljava/util/List;" A U H
theorem zz_U.moved {A : Nat → Prop} {u U : State} {H : Heap} (hvm : u.vm.Alike U.vm) (h : zz_U A u H) : zz_U A U H := ⟨h.1.moved hvm, h.2.moved hvm⟩
theorem zz_U.kept {A : Nat → Prop} {U : State} {H H1 : Heap} (h : zz_U A U H) (hq : ∀ a : Nat, a < H.size → ¬ A a → H1[a]? = H[a]?) : zz_U A U H1 := ⟨h.1.kept hq, h.2.kept hq⟩
theorem zz_U.narrow {A B : Nat → Prop} {U : State} {H : Heap} (h : zz_U A U H) (hAB : ∀ q, B q → A q) : zz_U B U H := ⟨h.1.narrow hAB, h.2.narrow hAB⟩
abbrev zz_PreX (D : va_G) (w : St → va_W) (tys : List (ClassId × FieldType)) (av : List Value) (g : St) (sz : Nat) : Array Value → State → Prop :=
  va_Pc av (fun U => U.heap.size = sz ∧ va_P D zzCl (w g) U.heap ∧ va_K D zzCl tys U ∧ va_D (fun _ => True) (w g) ∧ zz_N U ∧ zz_U (va_A (w g) sz) U U.heap)
abbrev zz_X (D : va_G) (w : St → va_W) (tys : List (ClassId × FieldType)) (A : Nat → Prop) (px : Nat → St → Prop) : String → State → State → Prop :=
  vx_X (fun u : Nat × St => px u.1 u.2) (fun E u t => E = zz_xn u.1 ∧ zz_W D w tys A u.2 t) A
abbrev zz_Qix (n : Nat) (below : List Frame) (D : va_G) (w : St → va_W) (tys : List (ClassId × FieldType)) (A : Nat → Prop) (post : Int32 → St → Prop) (px : Nat → St → Prop) (args : Array Value) (s : State) : State → Prop := vx_MQ below (va_Qi post (zz_W D w tys A) A) (zz_X D w tys A px) args s n (6 * n) A
abbrev zz_Qvx (n : Nat) (below : List Frame) (D : va_G) (w : St → va_W) (tys : List (ClassId × FieldType)) (A : Nat → Prop) (post : St → Prop) (px : Nat → St → Prop) (args : Array Value) (s : State) : State → Prop := vx_MQ below (va_Qv post (zz_W D w tys A) A) (zz_X D w tys A px) args s n (6 * n) A
theorem zz_blindX {D : va_G} {w : St → va_W} {tys : List (ClassId × FieldType)} {av : List Value} {g : St} {sz : Nat} : FrameBlind (zz_PreX D w tys av g sz) := fun a U g9 mk q => by
  obtain ⟨q0, q1, qP, qK, qD, qN, qU⟩ := q
  exact ⟨q0, q1, qP, va_K.moved (u := U) (U := U.calling g9 mk a) (Vm.Alike.refl U.vm) qK, qD, zz_N.same (u := U) rfl qN, zz_U.moved (u := U) (U := U.calling g9 mk a) (Vm.Alike.refl U.vm) qU⟩
theorem zz_preX {D : va_G} {w : St → va_W} {tys : List (ClassId × FieldType)} {av : List Value} {g : St} {s : State} {H : Heap} {A : Nat → Prop} {locs : List Loc} (hP : va_P D zzCl (w g) H) (hK : va_K D zzCl tys s) (hD : va_D A (w g)) (hN : zz_N s) (hS : va_S A s.heap H locs) (hA : ∀ q, s.heap.size ≤ q → A q) (hU : zz_U A s s.heap) :
    ∀ U : State, U.heap = H → s.WarmedH U.vm → zz_PreX D w tys av g H.size av.toArray U := fun U hU9 hW =>
  ⟨rfl, by rw [hU9], by rw [hU9]; exact hP, va_K.moved hW.alike hK, hD.weaken (fun _ _ _ _ => trivial), zz_N.warm hW hN, by rw [hU9]; exact ((hU.kept hS.2.1).narrow (zz_free hD hS hA)).moved hW.alike⟩
section
variable {p : Program} {l : Launch} {e : Env} {R : Room} {s : State} {m : MethodId} {args : Array Value} {below : List Frame} {meth : Method} {c : Code} {H : Heap} {locs : List Loc} {cells slots mc ms : Nat} {Q : State → Prop}
variable {pc : Nat} {ls : Array Slot} {rest st0 : List Value} {av : Array Value} {A : Nat → Prop} {D : va_G} {w : St → va_W} {tys : List (ClassId × FieldType)} {g : St} {px : Nat → St → Prop} {Qc : Array Value → State → Outcome → State → Prop} {n : Nat}
theorem zz_cix {post : Int32 → St → Prop} (hr : vx_Run p l e R s m args below meth c H locs cells slots mc ms (F0 m pc ls st0) rest (va_Qi post (zz_W D w tys (va_A (w g) H.size)) (va_A (w g) H.size) av) (zz_X D w tys (va_A (w g) H.size) px) (va_A (w g) H.size))
    (hD : va_D A (w g)) (hS : va_S A s.heap H locs) (hA : ∀ q, s.heap.size ≤ q → A q) (hout : ∀ x ∈ c.exceptionTable.toList, False) (hlocks : meth.locks = false) (hc : cells + mc ≤ n) (hs : slots + ms ≤ 6 * n)
    (k : ∀ (r : Int32) (g1 : St) (H1 : Heap) (locs1 : List Loc), post r g1 → va_P D zzCl (w g1) H1 → va_D A (w g1) → va_S A s.heap H1 locs1 → W p l e R s m args below meth c H1 locs1 (cells + mc) (slots + ms) (vx_MQ below Qc (zz_X D w tys A px) args s n (6 * n) A) (F0 m (pc + 3) ls (.int r :: rest))) :
    W p l e R s m args below meth c H locs cells slots (vx_MQ below Qc (zz_X D w tys A px) args s n (6 * n) A) (F0 m pc ls st0) := by
  have hF := zz_free hD hS hA
  refine vx_calli hr hS (fun q _ h => hF q h) hF (fun q _ h => hF q h) (fun E ce q9 u t H1 locs1 ht hvm hp hB hz1 hk1 hS1 hce hcv hcl => ?_) (fun r u t H1 locs1 ht hvm hp hB hz1 hk1 hS1 => ?_)
  · obtain ⟨hE, hP1, hK1, hD1⟩ := hB
    rw [ht] at hP1
    exact vx_out (fun x h => (hout x h).elim) hlocks hce hcv hcl (fun t9 ht9 hv9 => ⟨u, hp, ⟨hE, by rw [ht9]; exact hP1, va_K.moved (Vm.Alike.trans hvm.symm hv9) hK1, hD1.weaken (fun _ q _ h => hF q.1 h)⟩, hS1.F ht9⟩) hS1.2.2 hc hs
  · obtain ⟨hP1, hK1, hD1⟩ := hB
    rw [ht] at hP1
    exact k r u H1 locs1 hp hP1 (hD1.weaken (fun _ q _ h => hF q.1 h)) hS1
theorem zz_cvx {post : St → Prop} (hr : vx_Run p l e R s m args below meth c H locs cells slots mc ms (F0 m pc ls st0) rest (va_Qv post (zz_W D w tys (va_A (w g) H.size)) (va_A (w g) H.size) av) (zz_X D w tys (va_A (w g) H.size) px) (va_A (w g) H.size))
    (hD : va_D A (w g)) (hS : va_S A s.heap H locs) (hA : ∀ q, s.heap.size ≤ q → A q) (hout : ∀ x ∈ c.exceptionTable.toList, False) (hlocks : meth.locks = false) (hc : cells + mc ≤ n) (hs : slots + ms ≤ 6 * n)
    (k : ∀ (g1 : St) (H1 : Heap) (locs1 : List Loc), post g1 → va_P D zzCl (w g1) H1 → va_D A (w g1) → va_S A s.heap H1 locs1 → W p l e R s m args below meth c H1 locs1 (cells + mc) (slots + ms) (vx_MQ below Qc (zz_X D w tys A px) args s n (6 * n) A) (F0 m (pc + 3) ls rest)) :
    W p l e R s m args below meth c H locs cells slots (vx_MQ below Qc (zz_X D w tys A px) args s n (6 * n) A) (F0 m pc ls st0) := by
  have hF := zz_free hD hS hA
  refine vx_callv hr hS (fun q _ h => hF q h) hF (fun q _ h => hF q h) (fun E ce q9 u t H1 locs1 ht hvm hp hB hz1 hk1 hS1 hce hcv hcl => ?_) (fun u t H1 locs1 ht hvm hp hB hz1 hk1 hS1 => ?_)
  · obtain ⟨hE, hP1, hK1, hD1⟩ := hB
    rw [ht] at hP1
    exact vx_out (fun x h => (hout x h).elim) hlocks hce hcv hcl (fun t9 ht9 hv9 => ⟨u, hp, ⟨hE, by rw [ht9]; exact hP1, va_K.moved (Vm.Alike.trans hvm.symm hv9) hK1, hD1.weaken (fun _ q _ h => hF q.1 h)⟩, hS1.F ht9⟩) hS1.2.2 hc hs
  · obtain ⟨hP1, hK1, hD1⟩ := hB
    rw [ht] at hP1
    exact k u H1 locs1 hp hP1 (hD1.weaken (fun _ q _ h => hF q.1 h)) hS1
abbrev zz_nm : List String := ["java/lang/RuntimeException", "java/lang/Exception"]
abbrev zz_bad (k : Nat) : List Cond := [.castable (zz_xn k) (zz_xn k), .declares ⟨"java/lang/RuntimeException", "<init>", "()V"⟩, .declares ⟨"java/lang/Exception", "<init>", "()V"⟩, .declares ⟨"java/lang/Throwable", "<init>", "()V"⟩]
theorem zz_thr {cc : ByteArray} {cw : Cond} {ik ic : Nat} (k : Nat) (hx : p.tables.exec = Jvm.exec) (hb : c.code = cc) (hlt : l.stackTraces = false) (hown : s.vm.findClass "SpotContours" = some m.cls) (hts : ∀ w ∈ cw :: zz_B, w.before args s = true) (hN : zz_N s) (hU : zz_U A s s.heap)
    (hP : va_P D zzCl (w g) H) (hK : va_K D zzCl tys s) (hD : va_D A (w g)) (hS : va_S A s.heap H locs)
    (f1 : Bundle.fit (zz_xn k) = true) (hk : Cond.classLink "SpotContours" ik (zz_xn k) ∈ zz_B) (hi : Cond.initialized (zz_xn k) ∈ zz_B)
    (h1 : ∀ w ∈ (vx_at0 "SpotContours" ic (zz_xn k) zz_nm).filter goodWord, w ∈ zz_B) (h2 : ∀ w ∈ (vx_at0 "SpotContours" ic (zz_xn k) zz_nm).filter (fun w => !goodWord w), w ∈ zz_bad k)
    (h3 : ∀ w ∈ Cond.classLink "SpotContours" ik (zz_xn k) :: Cond.initialized (zz_xn k) :: vx_at0 "SpotContours" ic (zz_xn k) zz_nm, vx_ot w = true)
    (hsize : ls.size = c.maxLocals) (d0 : decode cc pc = .ok (.new ik, 3)) (d3 : decode cc (pc + 3) = .ok (.dup, 1)) (d4 : decode cc (pc + 4) = .ok (.invokespecial ic, 3)) (d7 : decode cc (pc + 7) = .ok (.athrow, 1))
    (hout : ∀ x ∈ c.exceptionTable.toList, False) (hf : 5 < R.frames) (hl : (rest.map fun v => v.category).sum + 81 ≤ R.locals) (hRc : cells + 1 ≤ R.cells) (hRs : slots + 6 ≤ R.slots) (hlocks : meth.locks = false) (hc : cells + 1 ≤ n) (hs : slots + 6 ≤ 6 * n) (h : px k g) :
    W p l e R s m args below meth c H locs cells slots (vx_MQ below Qc (zz_X D w tys A px) args s n (6 * n) A) (F0 m pc ls rest) :=
  vx_throw0 (own := "SpotContours") (cls := zz_xn k) (names := zz_nm) hx hb hlt hown f1 (by decide +kernel) (hts _ (zz_in hk)) (hts _ (zz_in hi))
    (vx_hat (L := vx_at0 "SpotContours" ic (zz_xn k) zz_nm) (B := zz_bad k) (fun w hw => hts w (zz_in (h1 w hw))) h2 (vx_c (va_Nw.use rfl (hN.2.1 k)) (vx_c (va_Nw.use rfl hN.2.2.1) (vx_c (va_Nw.use rfl hN.2.2.2.1) (vx_c (va_Nw.use rfl hN.2.2.2.2) vx_n))))) h3 hU.1 hU.2 hS hsize d0 d3 d4 d7
    (fun x h => (hout x h).elim) hf hl hRc hRs hlocks (fun t ha hsz hk => ⟨(k, g), h, ⟨rfl, hP.kept (fun k q hq => hk q.1 (hP k q hq).lt), va_K.moved ha hK, hD⟩, Nat.le_trans hS.1 hsz, fun q h1 h2 => (hk q (Nat.lt_of_lt_of_le h1 hS.1)).trans (hS.2.1 q h1 h2)⟩) hS.2.2 hc hs
end
