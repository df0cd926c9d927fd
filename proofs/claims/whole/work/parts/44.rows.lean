/-! What every contract of this claim is made of. -/
/-- the nest host's private methods, as the inner classes link them; and what a throw needs of the tables beside the good words -/
def zz_N1 (U : State) : Prop := va_Nw (.methodLinkNest "SpotContours$Lines" 36 yy_sc_highOf "SpotContours") U ∧ va_Nw (.methodLinkNest "SpotContours$Lines" 47 yy_sc_lowOf "SpotContours") U ∧ va_Nw (.methodLinkNest "SpotContours$Spots" 49 yy_sc_highOf "SpotContours") U ∧ va_Nw (.methodLinkNest "SpotContours$Spots" 53 yy_sc_lowOf "SpotContours") U
def zz_xn (k : Nat) : String := match k with
  | 0 => "java/lang/IllegalArgumentException"
  | 1 => "java/lang/IllegalStateException"
  | 2 => "java/lang/IndexOutOfBoundsException"
  | _ => "java/util/NoSuchElementException"
def zz_N2 (U : State) : Prop := (∀ k, va_Nw (.castable (zz_xn k) (zz_xn k)) U) ∧ va_Nw (.declares ⟨"java/lang/RuntimeException", "<init>", "()V"⟩) U ∧ va_Nw (.declares ⟨"java/lang/Exception", "<init>", "()V"⟩) U ∧ va_Nw (.declares ⟨"java/lang/Throwable", "<init>", "()V"⟩) U
def zz_N (U : State) : Prop := zz_N1 U ∧ zz_N2 U
theorem zz_N.warm {s U : State} (hW : s.WarmedH U.vm) (h : zz_N s) : zz_N U := ⟨⟨h.1.1.warmM hW, h.1.2.1.warmM hW, h.1.2.2.1.warmM hW, h.1.2.2.2.warmM hW⟩, fun k => (h.2.1 k).warmC hW, h.2.2.1.warmD hW, h.2.2.2.1.warmD hW, h.2.2.2.2.warmD hW⟩
theorem zz_N.same {u U : State} (hv : u.vm = U.vm) (h : zz_N u) : zz_N U := ⟨⟨h.1.1.same rfl hv, h.1.2.1.same rfl hv, h.1.2.2.1.same rfl hv, h.1.2.2.2.same rfl hv⟩, fun k => (h.2.1 k).same rfl hv, h.2.2.1.same rfl hv, h.2.2.2.1.same rfl hv, h.2.2.2.2.same rfl hv⟩
abbrev zz_Pre (D : va_G) (w : St → va_W) (tys : List (ClassId × FieldType)) (av : List Value) (g : St) (sz : Nat) : Array Value → State → Prop :=
  va_Pc av (fun U => U.heap.size = sz ∧ va_P D zzCl (w g) U.heap ∧ va_K D zzCl tys U ∧ va_D (fun _ => True) (w g) ∧ zz_N U)
abbrev zz_W (D : va_G) (w : St → va_W) (tys : List (ClassId × FieldType)) (A : Nat → Prop) : St → State → Prop := fun g t => va_P D zzCl (w g) t.heap ∧ va_K D zzCl tys t ∧ va_D A (w g)
abbrev zz_Qi (below : List Frame) (D : va_G) (w : St → va_W) (tys : List (ClassId × FieldType)) (A : Nat → Prop) (post : Int32 → St → Prop) (args : Array Value) (s : State) : State → Prop := MQ below (va_Qi post (zz_W D w tys A) A) args s 0 0 A
abbrev zz_Ql (below : List Frame) (D : va_G) (w : St → va_W) (tys : List (ClassId × FieldType)) (A : Nat → Prop) (post : Int64 → St → Prop) (args : Array Value) (s : State) : State → Prop := MQ below (va_Ql post (zz_W D w tys A) A) args s 0 0 A
abbrev zz_Qv (below : List Frame) (D : va_G) (w : St → va_W) (tys : List (ClassId × FieldType)) (A : Nat → Prop) (post : St → Prop) (args : Array Value) (s : State) : State → Prop := MQ below (va_Qv post (zz_W D w tys A) A) args s 0 0 A
theorem zz_blind {D : va_G} {w : St → va_W} {tys : List (ClassId × FieldType)} {av : List Value} {g : St} {sz : Nat} : FrameBlind (zz_Pre D w tys av g sz) := fun a U g9 mk q => by
  obtain ⟨q0, q1, qP, qK, qD, qN⟩ := q
  exact ⟨q0, q1, qP, va_K.moved (u := U) (U := U.calling g9 mk a) (Vm.Alike.refl U.vm) qK, qD, zz_N.same (u := U) rfl qN⟩
theorem zz_pre {D : va_G} {w : St → va_W} {tys : List (ClassId × FieldType)} {av : List Value} {g : St} {s : State} {H : Heap} {A : Nat → Prop} (hP : va_P D zzCl (w g) H) (hK : va_K D zzCl tys s) (hD : va_D A (w g)) (hN : zz_N s) :
    ∀ U : State, U.heap = H → s.WarmedH U.vm → zz_Pre D w tys av g H.size av.toArray U := fun U hU hW =>
  ⟨rfl, by rw [hU], by rw [hU]; exact hP, va_K.moved hW.alike hK, hD.weaken (fun _ _ _ _ => trivial), zz_N.warm hW hN⟩
section
variable {p : Program} {l : Launch} {e : Env} {R : Room} {s : State} {m : MethodId} {args : Array Value} {below : List Frame} {meth : Method} {c : Code} {H : Heap} {locs : List Loc} {cells slots mc ms : Nat} {Q : State → Prop}
variable {pc : Nat} {ls : Array Slot} {rest st0 : List Value} {av : Array Value} {A : Nat → Prop} {D : va_G} {w : St → va_W} {tys : List (ClassId × FieldType)} {g : St}
theorem zz_free (hD : va_D A (w g)) (hS : va_S A s.heap H locs) (hA : ∀ q, s.heap.size ≤ q → A q) : ∀ q, va_A (w g) H.size q → A q := by
  intro q h
  rcases h with ⟨k, e, h⟩ | h
  · exact hD.2 k (q, e) h
  · exact hA q (Nat.le_trans hS.1 h)
theorem zz_ci {post : Int32 → St → Prop} (hr : va_Run p l e R s m args below meth c H locs cells slots mc ms (F0 m pc ls st0) rest (va_Qi post (zz_W D w tys (va_A (w g) H.size)) (va_A (w g) H.size) av) (va_A (w g) H.size))
    (hD : va_D A (w g)) (hS : va_S A s.heap H locs) (hA : ∀ q, s.heap.size ≤ q → A q)
    (k : ∀ (r : Int32) (g1 : St) (H1 : Heap) (locs1 : List Loc), post r g1 → va_P D zzCl (w g1) H1 → va_D A (w g1) → va_S A s.heap H1 locs1 → W p l e R s m args below meth c H1 locs1 (cells + mc) (slots + ms) Q (F0 m (pc + 3) ls (.int r :: rest))) :
    W p l e R s m args below meth c H locs cells slots Q (F0 m pc ls st0) := by
  have hF := zz_free hD hS hA
  refine va_calli hr hS (fun q _ h => hF q h) hF (fun r u t H1 locs1 ht hvm hp hB hz1 hk1 hS1 => ?_)
  obtain ⟨hP1, hK1, hD1⟩ := hB
  rw [ht] at hP1
  exact k r u H1 locs1 hp hP1 (hD1.weaken (fun _ q _ h => hF q.1 h)) hS1
theorem zz_cl {post : Int64 → St → Prop} (hr : va_Run p l e R s m args below meth c H locs cells slots mc ms (F0 m pc ls st0) rest (va_Ql post (zz_W D w tys (va_A (w g) H.size)) (va_A (w g) H.size) av) (va_A (w g) H.size))
    (hD : va_D A (w g)) (hS : va_S A s.heap H locs) (hA : ∀ q, s.heap.size ≤ q → A q)
    (k : ∀ (r : Int64) (g1 : St) (H1 : Heap) (locs1 : List Loc), post r g1 → va_P D zzCl (w g1) H1 → va_D A (w g1) → va_S A s.heap H1 locs1 → W p l e R s m args below meth c H1 locs1 (cells + mc) (slots + ms) Q (F0 m (pc + 3) ls (.long r :: rest))) :
    W p l e R s m args below meth c H locs cells slots Q (F0 m pc ls st0) := by
  have hF := zz_free hD hS hA
  refine va_calll hr hS (fun q _ h => hF q h) hF (fun r u t H1 locs1 ht hvm hp hB hz1 hk1 hS1 => ?_)
  obtain ⟨hP1, hK1, hD1⟩ := hB
  rw [ht] at hP1
  exact k r u H1 locs1 hp hP1 (hD1.weaken (fun _ q _ h => hF q.1 h)) hS1
theorem zz_cv {post : St → Prop} (hr : va_Run p l e R s m args below meth c H locs cells slots mc ms (F0 m pc ls st0) rest (va_Qv post (zz_W D w tys (va_A (w g) H.size)) (va_A (w g) H.size) av) (va_A (w g) H.size))
    (hD : va_D A (w g)) (hS : va_S A s.heap H locs) (hA : ∀ q, s.heap.size ≤ q → A q)
    (k : ∀ (g1 : St) (H1 : Heap) (locs1 : List Loc), post g1 → va_P D zzCl (w g1) H1 → va_D A (w g1) → va_S A s.heap H1 locs1 → W p l e R s m args below meth c H1 locs1 (cells + mc) (slots + ms) Q (F0 m (pc + 3) ls rest)) :
    W p l e R s m args below meth c H locs cells slots Q (F0 m pc ls st0) := by
  have hF := zz_free hD hS hA
  refine va_callv hr hS (fun q _ h => hF q h) hF (fun u t H1 locs1 ht hvm hp hB hz1 hk1 hS1 => ?_)
  obtain ⟨hP1, hK1, hD1⟩ := hB
  rw [ht] at hP1
  exact k u H1 locs1 hp hP1 (hD1.weaken (fun _ q _ h => hF q.1 h)) hS1
end
