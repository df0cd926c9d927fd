/-! Rows for the law: worlds side by side; its wrappers' starts and ends. -/
section
variable {D : va_G} {cl : List vw_C} {w1 w2 r w1' : va_W} {H H1 : Heap} {A : Nat → Prop}
theorem lz_l (h : va_P D cl (w1 ++ w2) H) : va_P D cl w1 H := fun k q hk => h k q (by rw [List.getElem?_append_left (List.getElem?_eq_some_iff.mp hk).1]; exact hk)
theorem lz_r (h : va_P D cl (w1 ++ w2) H) : va_P D cl w2 H := fun k q hk => h (w1.length + k) q (by rw [List.getElem?_append_right (by omega), Nat.add_sub_cancel_left]; exact hk)
theorem lz_dl (h : va_D A (w1 ++ w2)) : va_D A w1 := by
  have up : ∀ {k : Nat} {q : Nat × va_E}, w1[k]? = some q → (w1 ++ w2)[k]? = some q := fun {k q} hk => by rw [List.getElem?_append_left (List.getElem?_eq_some_iff.mp hk).1]; exact hk
  exact ⟨fun i j p q hi hj e => h.1 i j p q (up hi) (up hj) e, fun k q hk => h.2 k q (up hk)⟩
theorem lz_dr (h : va_D A (w1 ++ w2)) : va_D A w2 := by
  have up : ∀ {k : Nat} {q : Nat × va_E}, w2[k]? = some q → (w1 ++ w2)[w1.length + k]? = some q := fun {k q} hk => by rw [List.getElem?_append_right (by omega), Nat.add_sub_cancel_left]; exact hk
  exact ⟨fun i j p q hi hj e => by have := h.1 _ _ p q (up hi) (up hj) e; omega, fun k q hk => h.2 _ q (up hk)⟩
theorem lz_ap (h : va_D A (w1 ++ w2)) {i j : Nat} {p q : Nat × va_E} (hi : w1[i]? = some p) (hj : w2[j]? = some q) : p.1 ≠ q.1 := fun e => by
  have hi' : (w1 ++ w2)[i]? = some p := by rw [List.getElem?_append_left (List.getElem?_eq_some_iff.mp hi).1]; exact hi
  have hj' : (w1 ++ w2)[w1.length + j]? = some q := by rw [List.getElem?_append_right (by omega), Nat.add_sub_cancel_left]; exact hj
  have := h.1 _ _ p q hi' hj' e
  have := (List.getElem?_eq_some_iff.mp hi).1
  omega
/-- the callee's cells lie first -/
theorem lz_join (hP : va_P D cl (w1 ++ r) H) (hD : va_D A (w1 ++ r)) (hk : ∀ q : Nat, q < H.size → ¬ va_A w1 H.size q → H1[q]? = H[q]?) (hF : ∀ q, va_A w1 H.size q → A q) (hP1 : va_P D cl w1' H1) (hD1 : va_D (va_A w1 H.size) w1') : va_P D cl (w1' ++ r) H1 ∧ va_D A (w1' ++ r) := by
  have out : ∀ (k : Nat) (q : Nat × va_E), r[k]? = some q → q.1 < H.size ∧ ¬ va_A w1 H.size q.1 := fun k q hk => by
    have hl := (lz_r hP k q hk).lt
    refine ⟨hl, fun h => ?_⟩
    rcases h with ⟨k2, e, h⟩ | h
    · exact lz_ap hD h hk rfl
    · omega
  refine ⟨va_P.app hP1 ((lz_r hP).kept (fun k q hq => hk q.1 (out k q hq).1 (out k q hq).2)), va_D.app (hD1.weaken (fun _ q _ h => hF q.1 h)) (lz_dr hD) (fun i j p q hi hj e => ?_)⟩
  have := hD1.2 i p hi
  rw [e] at this
  exact (out j q hj).2 this
/-- .. or last -/
theorem lz_joinR (hP : va_P D cl (r ++ w1) H) (hD : va_D A (r ++ w1)) (hk : ∀ q : Nat, q < H.size → ¬ va_A w1 H.size q → H1[q]? = H[q]?) (hF : ∀ q, va_A w1 H.size q → A q) (hP1 : va_P D cl w1' H1) (hD1 : va_D (va_A w1 H.size) w1') : va_P D cl (r ++ w1') H1 ∧ va_D A (r ++ w1') := by
  have out : ∀ (k : Nat) (q : Nat × va_E), r[k]? = some q → q.1 < H.size ∧ ¬ va_A w1 H.size q.1 := fun k q hk => by
    have hl := (lz_l hP k q hk).lt
    refine ⟨hl, fun h => ?_⟩
    rcases h with ⟨k2, e, h⟩ | h
    · exact lz_ap hD hk h rfl
    · omega
  refine ⟨va_P.app ((lz_l hP).kept (fun k q hq => hk q.1 (out k q hq).1 (out k q hq).2)) hP1, va_D.app (lz_dl hD) (hD1.weaken (fun _ q _ h => hF q.1 h)) (fun i j p q hi hj e => ?_)⟩
  have := hD1.2 j q hj
  rw [← e] at this
  exact (out i p hi).2 this
end
abbrev lz_ty (cI cZ cJ : ClassId) : List (ClassId × FieldType) := [(cI, .int), (cZ, .boolean), (cJ, .long)]
/-- the class's cells and the law's place for an answer -/
def lz_w (a : Nat → Nat) (o : Nat) (cI cZ cJ : ClassId) (u : St × (Nat → Int64)) : va_W := wC a cI cZ u.1 ++ [(o, .inl (cJ, 1, .inr (.inl u.2)))]
/-- the exceptions of the law's tables are of different kinds -/
def zz_N3 (U : State) : Prop := va_Nc (zz_xn 1) (zz_xn 0) U ∧ va_Nc (zz_xn 0) (zz_xn 2) U ∧ va_Nc (zz_xn 2) (zz_xn 0) U
theorem zz_N3.moved {u U : State} (hvm : u.vm.Alike U.vm) (h : zz_N3 u) : zz_N3 U := ⟨h.1.moved hvm, h.2.1.moved hvm, h.2.2.moved hvm⟩
abbrev lz_Pre (D : va_G) (a : Nat → Nat) (o : Nat) (cI cZ cJ : ClassId) (av : List Value) (u : St × (Nat → Int64)) (sz : Nat) : Array Value → State → Prop :=
  va_Pc av (fun U => U.heap.size = sz ∧ va_P D zzCl (lz_w a o cI cZ cJ u) U.heap ∧ va_K D zzCl (lz_ty cI cZ cJ) U ∧ va_D (fun _ => True) (lz_w a o cI cZ cJ u) ∧ zz_N U ∧ zz_N3 U ∧ zz_U (va_A (lz_w a o cI cZ cJ u) sz) U U.heap)
abbrev lz_W (D : va_G) (a : Nat → Nat) (o : Nat) (cI cZ cJ : ClassId) (A : Nat → Prop) : St × (Nat → Int64) → State → Prop := fun u t => va_P D zzCl (lz_w a o cI cZ cJ u) t.heap ∧ va_K D zzCl (lz_ty cI cZ cJ) t ∧ va_D A (lz_w a o cI cZ cJ u)
theorem lz_blind {D : va_G} {a : Nat → Nat} {o : Nat} {cI cZ cJ : ClassId} {av : List Value} {u : St × (Nat → Int64)} {sz : Nat} : FrameBlind (lz_Pre D a o cI cZ cJ av u sz) := fun ar U g9 mk q => by
  obtain ⟨q0, q1, qP, qK, qD, qN, qN3, qU⟩ := q
  exact ⟨q0, q1, qP, va_K.moved (u := U) (U := U.calling g9 mk ar) (Vm.Alike.refl U.vm) qK, qD, zz_N.same (u := U) rfl qN, zz_N3.moved (u := U) (U := U.calling g9 mk ar) (Vm.Alike.refl U.vm) qN3, zz_U.moved (u := U) (U := U.calling g9 mk ar) (Vm.Alike.refl U.vm) qU⟩
theorem lz_free {w : va_W} {s : State} {H : Heap} {A : Nat → Prop} {locs : List Loc} (hD : va_D A w) (hS : va_S A s.heap H locs) (hA : ∀ q, s.heap.size ≤ q → A q) : ∀ q, va_A w H.size q → A q := by
  intro q h
  rcases h with ⟨k, e, h⟩ | h
  · exact hD.2 k (q, e) h
  · exact hA q (Nat.le_trans hS.1 h)
theorem lz_pre {D : va_G} {a : Nat → Nat} {o : Nat} {cI cZ cJ : ClassId} {av : List Value} {u : St × (Nat → Int64)} {s : State} {H : Heap} {A : Nat → Prop} {locs : List Loc} (hP : va_P D zzCl (lz_w a o cI cZ cJ u) H) (hK : va_K D zzCl (lz_ty cI cZ cJ) s) (hD : va_D A (lz_w a o cI cZ cJ u)) (hN : zz_N s) (hN3 : zz_N3 s) (hS : va_S A s.heap H locs) (hA : ∀ q, s.heap.size ≤ q → A q) (hU : zz_U A s s.heap) :
    ∀ U : State, U.heap = H → s.WarmedH U.vm → lz_Pre D a o cI cZ cJ av u H.size av.toArray U := fun U hU9 hW =>
  ⟨rfl, by rw [hU9], by rw [hU9]; exact hP, va_K.moved hW.alike hK, hD.weaken (fun _ _ _ _ => trivial), zz_N.warm hW hN, zz_N3.moved hW.alike hN3, by rw [hU9]; exact ((hU.kept hS.2.1).narrow (lz_free hD hS hA)).moved hW.alike⟩
