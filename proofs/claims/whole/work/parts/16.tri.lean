/-! The triangles, found one by one: class and reference hold the same list. -/
section
variable {g : St} {n : Nat} {X Y Z : Nat → Int}
theorem me_isTri {a b c : Nat} {post : Int32 → St → Prop} (hS : sC g n X Y Z) (hab : a < b) (hbc : b < c) (hc : c < n) (h0 : ¬ ge_tri X Y n a b c → post 0 g) (h1 : ge_tri X Y n a b c → post 1 g) : wp_me_isTriangle (nI a) (nI b) (nI c) g post := by
  have ha : a < n := by omega
  have hb : b < n := by omega
  have n16 := hS.1.1
  have le : ∀ {u v : Nat}, u ≤ 16 → v ≤ 16 → (nI u ≤ nI v ↔ u ≤ v) := fun hu hv => nI_leI (by omega) (by omega)
  have eq : ∀ {u v : Nat}, u ≤ 16 → v ≤ 16 → (nI u = nI v ↔ u = v) := fun hu hv => nI_eq (by omega) (by omega)
  have bt := ge_tb hS.1 ha hb hc
  have z : iI (ge_t X Y a b c) = 0 ↔ ge_t X Y a b c = 0 := by rw [← iI_0]; exact iI_eq bt.1 bt.2 (by omega) (by omega)
  unfold wp_me_isTriangle
  refine sp_turn hS ha hb hc ⟨fun q => ?_, fun q => ?_⟩
  · have ht : ge_t X Y a b c ≠ 0 := fun e => q (z.mpr e)
    have loop : ∀ m i, i + m = n → (∀ d, d < i → d ≠ a → d ≠ b → d ≠ c → ¬ ge_In X Y a b c d) → lp_me_isTriangle_L15 (m + 1) (nI a) (nI b) (nI c) (nI i) g (fun g7 => (post 1 g7)) post := by
      intro m
      induction m with
      | zero =>
        intro i hi hd
        unfold lp_me_isTriangle_L15 wp_sp_size
        rw [hS.2.2.1]
        refine ⟨fun _ => h1 ⟨hab, hbc, hc, ht, fun d hd' => hd d (by omega)⟩, fun q => absurd ((le (by omega) (by omega)).mpr (by omega)) q⟩
      | succ m ih =>
        intro i hi hd
        have skip : (i = a ∨ i = b ∨ i = c ∨ ¬ ge_In X Y a b c i) → lp_me_isTriangle_L15 (m + 1) (nI a) (nI b) (nI c) (nI i + 1) g (fun g7 => (post 1 g7)) post := fun u => by
          rw [nI_1]
          refine ih (i + 1) (by omega) (fun d hd' d1 d2 d3 => ?_)
          rcases Nat.lt_or_ge d i with l | l
          · exact hd d l d1 d2 d3
          · have : d = i := by omega
            subst this
            rcases u with u | u | u | u
            · exact absurd u d1
            · exact absurd u d2
            · exact absurd u d3
            · exact u
        unfold lp_me_isTriangle_L15 wp_sp_size
        rw [hS.2.2.1]
        refine ⟨fun q => absurd ((le (by omega) (by omega)).mp q) (by omega), fun _ => ⟨fun e => skip (Or.inl ((eq (by omega) (by omega)).mp e)), fun e1 => ⟨fun e => skip (Or.inr (Or.inl ((eq (by omega) (by omega)).mp e))), fun e2 => ⟨fun e => skip (Or.inr (Or.inr (Or.inl ((eq (by omega) (by omega)).mp e)))), fun e3 => ?_⟩⟩⟩⟩
        have d1 : i ≠ a := fun e => e1 (by rw [e])
        have d2 : i ≠ b := fun e => e2 (by rw [e])
        have d3 : i ≠ c := fun e => e3 (by rw [e])
        refine sp_in hS ha hb hc (by omega) (fun u => ⟨fun _ => skip (Or.inr (Or.inr (Or.inr u))), fun k => absurd rfl k⟩) (fun u => ⟨fun k => absurd k (by decide), fun _ => h0 (fun t => t.2.2.2.2 i (by omega) d1 d2 d3 u)⟩)
    exact ⟨n + 1, loop n 0 (by omega) (fun d hd => absurd hd (by omega))⟩
  · exact h0 (fun t => t.2.2.2.1 (z.mp q))
theorem mo_isTri {a b c : Nat} {post : Int32 → St → Prop} (hS : sM g n X Y Z) (hab : a < b) (hbc : b < c) (hc : c < n) (h0 : ¬ ge_tri X Y n a b c → post 0 g) (h1 : ge_tri X Y n a b c → post 1 g) : wp_mo_isTriangle (nI a) (nI b) (nI c) g post := by
  have ha : a < n := by omega
  have hb : b < n := by omega
  have n16 := hS.1.1
  have le : ∀ {u v : Nat}, u ≤ 16 → v ≤ 16 → (nI u ≤ nI v ↔ u ≤ v) := fun hu hv => nI_leI (by omega) (by omega)
  have eq : ∀ {u v : Nat}, u ≤ 16 → v ≤ 16 → (nI u = nI v ↔ u = v) := fun hu hv => nI_eq (by omega) (by omega)
  have bt := ge_tb hS.1 ha hb hc
  have z : iI (ge_t X Y a b c) = 0 ↔ ge_t X Y a b c = 0 := by rw [← iI_0]; exact iI_eq bt.1 bt.2 (by omega) (by omega)
  unfold wp_mo_isTriangle
  refine mo_turn hS ha hb hc ⟨fun q => ?_, fun q => ?_⟩
  · have ht : ge_t X Y a b c ≠ 0 := fun e => q (z.mpr e)
    have bad : ∀ m i, (∃ d, d < n ∧ d ≠ a ∧ d ≠ b ∧ d ≠ c ∧ ge_In X Y a b c d) → i ≤ n → lp_mo_isTriangle_L18 (m + 1) (nI a) (nI b) (nI c) 0 (nI i) g (fun w6 g5 => (narrow .boolean (.int w6) = .int w6 ∧ post w6 g5)) post := by
      intro m i ⟨d, u1, u2, u3, u4, u5⟩ hi
      have hp : post 0 g := h0 (fun t => t.2.2.2.2 d u1 u2 u3 u4 u5)
      unfold lp_mo_isTriangle_L18
      exact ⟨fun _ => ⟨nb_0, hp⟩, fun _ => ⟨fun _ => ⟨nb_0, hp⟩, fun k => absurd rfl k⟩⟩
    have loop : ∀ m i, i + m = n → (∀ d, d < i → d ≠ a → d ≠ b → d ≠ c → ¬ ge_In X Y a b c d) → lp_mo_isTriangle_L18 (m + 1) (nI a) (nI b) (nI c) 1 (nI i) g (fun w6 g5 => (narrow .boolean (.int w6) = .int w6 ∧ post w6 g5)) post := by
      intro m
      induction m with
      | zero =>
        intro i hi hd
        unfold lp_mo_isTriangle_L18
        rw [hS.2.2.1]
        refine ⟨fun _ => ⟨nb_1, h1 ⟨hab, hbc, hc, ht, fun d hd' => hd d (by omega)⟩⟩, fun q => absurd ((le (by omega) (by omega)).mpr (by omega)) q⟩
      | succ m ih =>
        intro i hi hd
        have skip : (i = a ∨ i = b ∨ i = c ∨ ¬ ge_In X Y a b c i) → lp_mo_isTriangle_L18 (m + 1) (nI a) (nI b) (nI c) 1 (nI i + 1) g (fun w6 g5 => (narrow .boolean (.int w6) = .int w6 ∧ post w6 g5)) post := fun u => by
          rw [nI_1]
          refine ih (i + 1) (by omega) (fun d hd' d1 d2 d3 => ?_)
          rcases Nat.lt_or_ge d i with l | l
          · exact hd d l d1 d2 d3
          · have : d = i := by omega
            subst this
            rcases u with u | u | u | u
            · exact absurd u d1
            · exact absurd u d2
            · exact absurd u d3
            · exact u
        unfold lp_mo_isTriangle_L18
        rw [hS.2.2.1]
        refine ⟨fun q => absurd ((le (by omega) (by omega)).mp q) (by omega), fun _ => ⟨fun k => absurd k (by decide), fun _ => ⟨fun e => skip (Or.inl ((eq (by omega) (by omega)).mp e)), fun e1 => ⟨fun e => skip (Or.inr (Or.inl ((eq (by omega) (by omega)).mp e))), fun e2 => ⟨fun e => skip (Or.inr (Or.inr (Or.inl ((eq (by omega) (by omega)).mp e)))), fun e3 => ?_⟩⟩⟩⟩⟩
        have d1 : i ≠ a := fun e => e1 (by rw [e])
        have d2 : i ≠ b := fun e => e2 (by rw [e])
        have d3 : i ≠ c := fun e => e3 (by rw [e])
        refine mo_in hS hab hbc hc (by omega) d1 d2 d3 ht (fun u => ⟨fun k => absurd rfl k, fun _ => skip (Or.inr (Or.inr (Or.inr u)))⟩) (fun u => ⟨fun _ => ?_, fun k => absurd k (by decide)⟩)
        rw [nI_1]
        exact bad m (i + 1) ⟨i, by omega, d1, d2, d3, u⟩ (by omega)
    exact ⟨n + 1, loop n 0 (by omega) (fun d hd => absurd hd (by omega))⟩
  · exact h0 (fun t => t.2.2.2.1 (z.mp q))
end
/-! the list -/
noncomputable def tl (X Y : Nat → Int) (n k : Nat) : List Nat := (List.range k).filter (fun x => @decide (ge_tri X Y n (x / 256) (x / 16 % 16) (x % 16)) (Classical.propDecidable _))
theorem tl_mem {X Y : Nat → Int} {n k x : Nat} : x ∈ tl X Y n k ↔ x < k ∧ ge_tri X Y n (x / 256) (x / 16 % 16) (x % 16) := by
  unfold tl
  rw [List.mem_filter, List.mem_range, @decide_eq_true_iff _ (Classical.propDecidable _)]
theorem tl_s1 {X Y : Nat → Int} {n k : Nat} (h : ge_tri X Y n (k / 256) (k / 16 % 16) (k % 16)) : tl X Y n (k + 1) = tl X Y n k ++ [k] := by
  unfold tl
  rw [List.range_succ, List.filter_append]
  congr 1
  exact List.filter_cons_of_pos (by rw [@decide_eq_true_iff _ (Classical.propDecidable _)]; exact h)
theorem tl_s0 {X Y : Nat → Int} {n k : Nat} (h : ¬ ge_tri X Y n (k / 256) (k / 16 % 16) (k % 16)) : tl X Y n (k + 1) = tl X Y n k := by
  unfold tl
  rw [List.range_succ, List.filter_append]
  have : List.filter (fun x => @decide (ge_tri X Y n (x / 256) (x / 16 % 16) (x % 16)) (Classical.propDecidable _)) [k] = [] :=
    List.filter_cons_of_neg (by rw [@decide_eq_true_iff _ (Classical.propDecidable _)]; exact h)
  rw [this, List.append_nil]
theorem tl_sk {X Y : Nat → Int} {n k : Nat} : ∀ d, (∀ x, k ≤ x → x < k + d → ¬ ge_tri X Y n (x / 256) (x / 16 % 16) (x % 16)) → tl X Y n (k + d) = tl X Y n k := by
  intro d
  induction d with
  | zero => intro _; rfl
  | succ d ih =>
    intro h
    show tl X Y n ((k + d) + 1) = _
    rw [tl_s0 (h (k + d) (by omega) (by omega))]
    exact ih (fun x h1 h2 => h x h1 (by omega))
theorem tl_skip {X Y : Nat → Int} {n k k' : Nat} (hk : k ≤ k') (h : ∀ x, k ≤ x → x < k' → ¬ ge_tri X Y n (x / 256) (x / 16 % 16) (x % 16)) : tl X Y n k' = tl X Y n k := by
  obtain ⟨d, rfl⟩ : ∃ d, k' = k + d := ⟨k' - k, by omega⟩
  exact tl_sk d h
theorem tl_lt {X Y : Nat → Int} {n k : Nat} : (tl X Y n k).Pairwise (· < ·) := List.Pairwise.filter _ List.pairwise_lt_range
theorem tl_get {X Y : Nat → Int} {n k t : Nat} (h : t < (tl X Y n k).length) : (tl X Y n k).getD t 0 < k ∧ ge_tri X Y n ((tl X Y n k).getD t 0 / 256) ((tl X Y n k).getD t 0 / 16 % 16) ((tl X Y n k).getD t 0 % 16) := by
  rw [← tl_mem, ← List.getElem_eq_getD (h := h)]
  exact List.getElem_mem h
theorem tl_inc {X Y : Nat → Int} {n k s t : Nat} (hst : s < t) (h : t < (tl X Y n k).length) : (tl X Y n k).getD s 0 < (tl X Y n k).getD t 0 := by
  have := List.pairwise_iff_getElem.mp (tl_lt (X := X) (Y := Y) (n := n) (k := k)) s t (by omega) h hst
  rw [List.getElem_eq_getD (h := h) (fallback := 0), List.getElem_eq_getD (fallback := 0)] at this
  exact this
theorem tl_27 {X Y : Nat → Int} {n k : Nat} (h : ge_ok X Y n) : (tl X Y n k).length ≤ 27 := by
  refine ge_27 h _ (fun t => (tl X Y n k).getD t 0 / 256) (fun t => (tl X Y n k).getD t 0 / 16 % 16) (fun t => (tl X Y n k).getD t 0 % 16) (fun t ht => (tl_get ht).2) (fun i j hij hj e => ?_)
  have := tl_inc hij hj
  try dsimp only at e
  omega
theorem tl_app {L : List Nat} {k t : Nat} (h : t < L.length) : (L ++ [k]).getD t 0 = L.getD t 0 := by
  simp only [List.getD_eq_getElem?_getD]
  rw [List.getElem?_append_left h]
theorem tl_end {L : List Nat} {k : Nat} : (L ++ [k]).getD L.length 0 = k := by
  simp only [List.getD_eq_getElem?_getD]
  rw [List.getElem?_append_right (Nat.le_refl _), Nat.sub_self]; rfl
