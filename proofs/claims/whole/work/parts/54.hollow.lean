/-! Reads of the contours, and the spot with the least x, on both sides. -/
section
variable {g : St} {n : Nat} {X Y Z : Nat → Int} {l : Int} {s : Ct}
theorem li_len {k : Nat} {post : Int32 → St → Prop} (ho : ge_ok X Y n) (hs : ct_ok X Y Z n l s) (hl : lC s g) (hk : k < s.1) (h : post (nI (s.2.1 (k + 1) - s.2.1 k)) g) : wp_li_length (nI k) g post := by
  obtain ⟨c1, c2⟩ := ct_120 ho hs
  have le := ct_le hs (show k ≤ k + 1 by omega) (show k + 1 ≤ s.1 by omega)
  unfold wp_li_length
  try dsimp only
  rw [nI_1, ix_nI (by omega), ix_nI (by omega), hl.2.1 (k + 1) (by omega), hl.2.1 k (by omega), pk_sub le]
  exact ⟨vp_in_nI (by omega) (by omega), vp_in_nI (by omega) (by omega), h⟩
theorem li_pair {k j : Nat} {post : Int32 → St → Prop} (ho : ge_ok X Y n) (hs : ct_ok X Y Z n l s) (hl : lC s g) (hk : k < s.1) (hj : s.2.1 k + j < s.2.1 (k + 1)) (h : post (nI (s.2.2.1 (s.2.1 k + j))) g) : wp_li_pair (nI k) (nI j) g post := by
  obtain ⟨c1, c2⟩ := ct_120 ho hs
  have le := ct_le hs (show k + 1 ≤ s.1 by omega) (Nat.le_refl _)
  unfold wp_li_pair
  try dsimp only
  rw [ix_nI (by omega), hl.2.1 k (by omega), nI_add, ix_nI (by omega), hl.2.2.1 _ (by omega)]
  exact ⟨vp_in_nI (by omega) (by omega), vp_in_nI (by omega) (by omega), h⟩
theorem li_more {a b : Nat} {post : Int32 → St → Prop} (hS : sC g n X Y Z) (ha : a < n) (hb : b < n) (h1 : X a ≤ X b → post (nI a) g) (h2 : X b < X a → post (nI b) g) : wp_li_moreLeft (nI a) (nI b) g post := by
  obtain ⟨a1, -, -⟩ := hS.2.2.2 a ha
  obtain ⟨b1, -, -⟩ := hS.2.2.2 b hb
  have qa := hS.1.2.1 a ha
  have qb := hS.1.2.1 b hb
  unfold wp_li_moreLeft wp_sp_x
  try dsimp only
  rw [hS.ix ha, hS.ix hb, a1, b1, iI_le (by omega) (by omega) (by omega) (by omega)]
  exact ⟨hS.v16 hb, hS.v16 ha, fun k => h1 k, fun k => h2 (by omega)⟩
/-- the class asks a spot with the least x -/
theorem li_hollow {k : Nat} {post : Int32 → St → Prop} (hS : sC g n X Y Z) (hs : ct_ok X Y Z n l s) (hl : lC s g) (hH : hC Z n l g) (hk : k < s.1)
    (h : ∀ v, spk s k v → (∀ u, spk s k u → X v ≤ X u) → (hi Z l v → post 1 g) ∧ (¬ hi Z l v → post 0 g)) : wp_li_isHollow (nI k) g post := by
  have ho := hS.1
  have n16 := ho.1
  obtain ⟨c1, c2⟩ := ct_120 ho hs
  obtain ⟨m, a1, a2, a3, -⟩ := hs.2.1 k hk
  have le := ct_le hs (show k + 1 ≤ s.1 by omega) (Nat.le_refl _)
  have at_ : ∀ i, s.2.1 k ≤ i → i < s.2.1 (k + 1) → cS X Y Z n l (s.2.2.1 i) := fun i _ h2 => hs.2.2.2.1 i (by omega)
  have spn : ∀ v, spk s k v → v < n := fun v ⟨i, i1, i2, i3⟩ => by
    obtain ⟨-, b2, b3, -⟩ := cS_lt ho (at_ i i1 i2)
    rcases i3 with e | e <;> omega
  have loop : ∀ d j v, j + d = m + 1 → spk s k v → (∀ j' u, j' < j → (u = s.2.2.1 (s.2.1 k + j') / 16 ∨ u = s.2.2.1 (s.2.1 k + j') % 16) → X v ≤ X u) →
      lp_li_isHollow_L13 (d + 1) (nI k) (nI v) (nI j) g (fun w20 g19 => (vp_in w20 16 ∧ (narrow .boolean (.int (g19 10 (ix w20))) = .int (g19 10 (ix w20)) ∧ post (g19 10 (ix w20)) g19))) post := by
    intro d
    induction d with
    | zero =>
      intro j v hj hv hm
      unfold lp_li_isHollow_L13
      refine li_len ho hs hl hk ?_
      try dsimp only
      rw [a2, Nat.add_sub_cancel_left]
      refine ⟨fun _ => ?_, fun q => absurd ((nI_leI (by omega) (by omega)).mpr (by omega)) q⟩
      have vn := spn v hv
      have hh := h v hv (fun u ⟨i, i1, i2, i3⟩ => hm (i - s.2.1 k) u (by omega) (by rw [show s.2.1 k + (i - s.2.1 k) = i by omega]; exact i3))
      rw [ix_nI (by omega)]
      by_cases q : hi Z l v
      · rw [(hH v vn).1 q]; exact ⟨hS.v16 vn, nb_1, hh.1 q⟩
      · rw [(hH v vn).2 q]; exact ⟨hS.v16 vn, nb_0, hh.2 q⟩
    | succ d ih =>
      intro j v hj hv hm
      have hjl : s.2.1 k + j < s.2.1 (k + 1) := by omega
      have zs := at_ (s.2.1 k + j) (by omega) hjl
      obtain ⟨b1, b2, b3, b4⟩ := cS_lt ho zs
      have vn := spn v hv
      unfold lp_li_isHollow_L13
      refine li_len ho hs hl hk ?_
      try dsimp only
      rw [a2, Nat.add_sub_cancel_left]
      refine ⟨fun q => absurd ((nI_leI (by omega) (by omega)).mp q) (by omega), fun _ => ?_⟩
      refine li_pair ho hs hl hk hjl ?_
      generalize hz : s.2.2.1 (s.2.1 k + j) = z at *
      unfold wp_sc_highOf
      try dsimp only
      rw [pk_16d (by omega)]
      have s1 : spk s k (z / 16) := ⟨s.2.1 k + j, by omega, hjl, Or.inl (by rw [hz])⟩
      have s2 : spk s k (z % 16) := ⟨s.2.1 k + j, by omega, hjl, Or.inr (by rw [hz])⟩
      have next : ∀ v1, spk s k v1 → X v1 ≤ X v → X v1 ≤ X (z / 16) → X v1 ≤ X (z % 16) → lp_li_isHollow_L13 (d + 1) (nI k) (nI v1) (nI j + 1) g (fun w20 g19 => (vp_in w20 16 ∧ (narrow .boolean (.int (g19 10 (ix w20))) = .int (g19 10 (ix w20)) ∧ post (g19 10 (ix w20)) g19))) post := fun v1 w1 w2 w3 w4 => by
        rw [nI_1]
        refine ih (j + 1) v1 (by omega) w1 (fun j' u hj' hu => ?_)
        by_cases e : j' = j
        · rw [e, hz] at hu
          rcases hu with e | e
          · rw [e]; exact w3
          · rw [e]; exact w4
        · have := hm j' u (by omega) hu; omega
      have low : ∀ v1, spk s k v1 → X v1 ≤ X v → X v1 ≤ X (z / 16) → wp_li_pair (nI k) (nI j) g (fun r14 g13 => (wp_sc_lowOf r14 g13 (fun r16 g15 => (wp_li_moreLeft (nI v1) r16 g15 (fun r18 g17 => (lp_li_isHollow_L13 (d + 1) (nI k) r18 (nI j + 1) g17 (fun w20 g19 => (vp_in w20 16 ∧ (narrow .boolean (.int (g19 10 (ix w20))) = .int (g19 10 (ix w20)) ∧ post (g19 10 (ix w20)) g19))) post)))))) := fun v1 w1 w2 w3 => by
        refine li_pair ho hs hl hk hjl ?_
        rw [hz]
        unfold wp_sc_lowOf
        try dsimp only
        rw [pk_16r (by omega)]
        exact li_more hS (spn v1 w1) b3 (fun q => next v1 w1 w2 w3 q) (fun q => next (z % 16) s2 (by omega) (by omega) (Int.le_refl _))
      exact li_more hS vn b2 (fun q => low v hv (Int.le_refl _) q) (fun q => low (z / 16) s1 (by omega) (Int.le_refl _))
  unfold wp_li_isHollow
  refine li_pair (j := 0) ho hs hl hk (by omega) ?_
  have zs := at_ (s.2.1 k + 0) (by omega) (by omega)
  obtain ⟨b1, b2, b3, b4⟩ := cS_lt ho zs
  unfold wp_sc_highOf
  try dsimp only
  rw [pk_16d (by omega)]
  exact ⟨(m + 1) + 1, loop (m + 1) 0 _ (by omega) ⟨s.2.1 k + 0, by omega, by omega, Or.inl rfl⟩ (fun j' u hj' => absurd hj' (by omega))⟩
/-- so does the reference -/
theorem mo_hollow {k : Nat} {post : Int32 → St → Prop} (hS : sM g n X Y Z) (hlv : 0 ≤ l ∧ l ≤ 998) (hs : ct_ok X Y Z n l s) (hl : lM s g) (hk : k < s.1)
    (h : ∀ v, spk s k v → (∀ u, spk s k u → X v ≤ X u) → (hi Z l v → post 1 g) ∧ (¬ hi Z l v → post 0 g)) : wp_mo_isHollow (iI l) (nI k) g post := by
  have ho := hS.1
  have n16 := ho.1
  obtain ⟨c1, c2⟩ := ct_120 ho hs
  obtain ⟨m, a1, a2, a3, -⟩ := hs.2.1 k hk
  have le := ct_le hs (show k + 1 ≤ s.1 by omega) (Nat.le_refl _)
  obtain ⟨l1, l2, l3, l4, l5⟩ := hl
  obtain ⟨r1, r2, -⟩ := l3 k hk
  have at_ : ∀ i, s.2.1 k ≤ i → i < s.2.1 (k + 1) → cS X Y Z n l (s.2.2.1 i) := fun i _ h2 => hs.2.2.2.1 i (by omega)
  have spn : ∀ v, spk s k v → v < n := fun v ⟨i, i1, i2, i3⟩ => by
    obtain ⟨-, b2, b3, -⟩ := cS_lt ho (at_ i i1 i2)
    rcases i3 with e | e <;> omega
  -- the edge's spots are those of the crossing
  have ed : ∀ i, s.2.1 k ≤ i → i < s.2.1 (k + 1) → spk s k (ce (s.2.2.1 i) / 16) ∧ spk s k (ce (s.2.2.1 i) % 16) ∧ ∀ u, (u = s.2.2.1 i / 16 ∨ u = s.2.2.1 i % 16) → (u = ce (s.2.2.1 i) / 16 ∨ u = ce (s.2.2.1 i) % 16) := fun i i1 i2 => by
    obtain ⟨b1, b2, b3, b4⟩ := cS_lt ho (at_ i i1 i2)
    have e : (ce (s.2.2.1 i) / 16 = s.2.2.1 i / 16 ∧ ce (s.2.2.1 i) % 16 = s.2.2.1 i % 16) ∨ (ce (s.2.2.1 i) / 16 = s.2.2.1 i % 16 ∧ ce (s.2.2.1 i) % 16 = s.2.2.1 i / 16) := by
      unfold ce; split <;> omega
    rcases e with ⟨e1, e2⟩ | ⟨e1, e2⟩
    · rw [e1, e2]; exact ⟨⟨i, i1, i2, Or.inl rfl⟩, ⟨i, i1, i2, Or.inr rfl⟩, fun u q => q⟩
    · rw [e1, e2]; exact ⟨⟨i, i1, i2, Or.inr rfl⟩, ⟨i, i1, i2, Or.inl rfl⟩, fun u q => q.symm⟩
  have K : ∀ v, spk s k v → (∀ u, spk s k u → X v ≤ X u) → wp_mo_isHigh (nI v) (iI l) g (fun r15 g14 => (narrow .boolean (.int r15) = .int r15 ∧ post r15 g14)) := fun v hv hm =>
    mo_high hS (spn v hv) hlv (fun q => ⟨nb_1, (h v hv hm).1 q⟩) (fun q => ⟨nb_0, (h v hv hm).2 q⟩)
  have loop : ∀ d j v, j + d = m + 1 → spk s k v → (∀ j' u, j' < j → (u = s.2.2.1 (s.2.1 k + j') / 16 ∨ u = s.2.2.1 (s.2.1 k + j') % 16) → X v ≤ X u) →
      lp_mo_isHollow_L23 (d + 1) (iI l) (nI k) (nI v) (nI (s.2.1 k + j)) g (fun w12 w13 g11 => (wp_mo_isHigh w13 w12 g11 (fun r15 g14 => (narrow .boolean (.int r15) = .int r15 ∧ post r15 g14)))) post := by
    intro d
    induction d with
    | zero =>
      intro j v hj hv hm
      unfold lp_mo_isHollow_L23
      try dsimp only
      rw [ix_nI (by omega), r1, r2, nI_add, a2, Nat.add_sub_cancel_left]
      refine ⟨vp_in_nI (by omega) (by omega), vp_in_nI (by omega) (by omega), fun _ => K v hv (fun u ⟨i, i1, i2, i3⟩ => hm (i - s.2.1 k) u (by omega) (by rw [show s.2.1 k + (i - s.2.1 k) = i by omega]; exact i3)), fun q => absurd ((nI_leI (by omega) (by omega)).mpr (by omega)) q⟩
    | succ d ih =>
      intro j v hj hv hm
      have hjl : s.2.1 k + j < s.2.1 (k + 1) := by omega
      have zs := at_ (s.2.1 k + j) (by omega) hjl
      obtain ⟨w1, w2, w3⟩ := ed (s.2.1 k + j) (by omega) hjl
      have z256 := ce_256 ho zs
      have rowj := l4 (s.2.1 k + j) (by omega)
      generalize hz : ce (s.2.2.1 (s.2.1 k + j)) = z at *
      have vn := spn v hv
      have hn := spn _ w1
      have ln := spn _ w2
      obtain ⟨x1, -, -⟩ := hS.2.2.2 _ hn
      obtain ⟨x2, -, -⟩ := hS.2.2.2 _ ln
      obtain ⟨x3, -, -⟩ := hS.2.2.2 _ vn
      have q1 := ho.2.1 _ hn
      have q2 := ho.2.1 _ ln
      have q3 := ho.2.1 _ vn
      have vj := vp_in_nI (n := s.2.1 k + j) (N := 260) (by omega) (by omega)
      have next : ∀ v1, spk s k v1 → X v1 ≤ X v → X v1 ≤ X (z / 16) → X v1 ≤ X (z % 16) → lp_mo_isHollow_L23 (d + 1) (iI l) (nI k) (nI v1) (nI (s.2.1 k + j) + 1) g (fun w12 w13 g11 => (wp_mo_isHigh w13 w12 g11 (fun r15 g14 => (narrow .boolean (.int r15) = .int r15 ∧ post r15 g14)))) post := fun v1 y1 y2 y3 y4 => by
        rw [nI_1, Nat.add_assoc]
        refine ih (j + 1) v1 (by omega) y1 (fun j' u hj' hu => ?_)
        by_cases e : j' = j
        · rw [e] at hu
          rcases w3 u hu with e | e
          · rw [e]; exact y3
          · rw [e]; exact y4
        · have := hm j' u (by omega) hu; omega
      have J : ∀ v1, spk s k v1 → X v1 ≤ X v → X v1 ≤ X (z / 16) → jn_mo_isHollow_J79 (iI l) (nI k) (nI (s.2.1 k + j)) (nI v1) g (fun w2 w3 w4 w5 g1 => (lp_mo_isHollow_L23 (d + 1) w2 w3 w4 w5 g1 (fun w12 w13 g11 => (wp_mo_isHigh w13 w12 g11 (fun r15 g14 => (narrow .boolean (.int r15) = .int r15 ∧ post r15 g14)))) post)) post := fun v1 y1 y2 y3 => by
        have v1n := spn v1 y1
        obtain ⟨x4, -, -⟩ := hS.2.2.2 _ v1n
        have q4 := ho.2.1 _ v1n
        unfold jn_mo_isHollow_J79
        try dsimp only
        rw [ix_nI (by omega), rowj, pk_16r (by omega), hS.ix ln, hS.ix v1n, x2, x4, iI_le (by omega) (by omega) (by omega) (by omega)]
        exact ⟨vj, hS.v16 ln, hS.v16 v1n, fun q => next v1 y1 y2 y3 q, fun q => ⟨vj, next (z % 16) w2 (by omega) (by omega) (Int.le_refl _)⟩⟩
      unfold lp_mo_isHollow_L23
      try dsimp only
      rw [ix_nI (show k < 2147483648 by omega), r1, r2, nI_add, a2, Nat.add_sub_cancel_left, ix_nI (show s.2.1 k + j < 2147483648 by omega), rowj, pk_16d (by omega), hS.ix hn, hS.ix vn, x1, x3, iI_le (by omega) (by omega) (by omega) (by omega)]
      refine ⟨vp_in_nI (by omega) (by omega), vp_in_nI (by omega) (by omega), fun q => absurd ((nI_leI (by omega) (by omega)).mp q) (by omega), fun _ => ⟨vj, hS.v16 hn, hS.v16 vn, fun q => J v hv (Int.le_refl _) q, fun q => ⟨vj, J (z / 16) w1 (by omega) (Int.le_refl _)⟩⟩⟩
  unfold wp_mo_isHollow
  try dsimp only
  have zs := at_ (s.2.1 k) (by omega) (by omega)
  obtain ⟨w1, w2, w3⟩ := ed (s.2.1 k) (by omega) (by omega)
  have z256 := ce_256 ho zs
  rw [ix_nI (show k < 2147483648 by omega), r1, ix_nI (show s.2.1 k < 2147483648 by omega), l4 _ (by omega), pk_16d (by omega)]
  refine ⟨vp_in_nI (by omega) (by omega), vp_in_nI (by omega) (by omega), vp_in_nI (by omega) (by omega), (m + 1) + 1, ?_⟩
  have := loop (m + 1) 0 _ (by omega) w1 (fun j' u hj' => absurd hj' (by omega))
  exact this
end
