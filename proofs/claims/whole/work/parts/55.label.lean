/-! Labels of a level, on both sides. -/
/-- labels: how many, their levels, places -/
abbrev Lt : Type := Nat × (Nat → Int) × (Nat → Int) × (Nat → Int)
section
variable (X Y Z : Nat → Int) (n : Nat) (l : Int) (s : Ct)
def lpx (i : Nat) : Int := pl X Z l (s.2.2.1 i / 16) (s.2.2.1 i % 16)
/-- a label at crossing i clashes -/
def lbad (t : Lt) (i : Nat) : Prop := cov n X Y (lpx X Z l s i) (lpx Y Z l s i) ∨ cla t.1 t.2.2.1 t.2.2.2 (lpx X Z l s i) (lpx Y Z l s i)
/-- the first free crossing of contour k -/
def ffr (t : Lt) (k i : Nat) : Prop := s.2.1 k ≤ i ∧ i < s.2.1 (k + 1) ∧ ¬ lbad X Y Z n l s t i ∧ ∀ i', s.2.1 k ≤ i' → i' < i → lbad X Y Z n l s t i'
def lb_add (t : Lt) (i : Nat) : Lt := (t.1 + 1, fun j => if j = t.1 then l else t.2.1 j, fun j => if j = t.1 then lpx X Z l s i else t.2.2.1 j, fun j => if j = t.1 then lpx Y Z l s i else t.2.2.2 j)
noncomputable def lab (t0 : Lt) : Nat → Lt
  | 0 => t0
  | k + 1 => @dite _ (∃ i, ffr X Y Z n l s (lab t0 k) k i) (Classical.propDecidable _) (fun h => lb_add X Y Z l s (lab t0 k) (Classical.choose h)) (fun _ => lab t0 k)
end
section
variable {g : St} {X Y Z : Nat → Int} {n : Nat} {l : Int} {s : Ct} {t0 : Lt}
theorem ffr_u {t : Lt} {k i i' : Nat} (h : ffr X Y Z n l s t k i) (h' : ffr X Y Z n l s t k i') : i = i' := by
  rcases Nat.lt_trichotomy i i' with q | q | q
  · exact absurd (h'.2.2.2 i h.1 q) h.2.2.1
  · exact q
  · exact absurd (h.2.2.2 i' h'.1 q) h'.2.2.1
theorem lab_1 {k i : Nat} (h : ffr X Y Z n l s (lab X Y Z n l s t0 k) k i) : lab X Y Z n l s t0 (k + 1) = lb_add X Y Z l s (lab X Y Z n l s t0 k) i := by
  have e : ∃ i, ffr X Y Z n l s (lab X Y Z n l s t0 k) k i := ⟨i, h⟩
  have : lab X Y Z n l s t0 (k + 1) = lb_add X Y Z l s (lab X Y Z n l s t0 k) (Classical.choose e) := @dif_pos _ (Classical.propDecidable _) e _ _ _
  rw [this, ffr_u (Classical.choose_spec e) h]
theorem lab_0 {k : Nat} (h : ¬ ∃ i, ffr X Y Z n l s (lab X Y Z n l s t0 k) k i) : lab X Y Z n l s t0 (k + 1) = lab X Y Z n l s t0 k := @dif_neg _ (Classical.propDecidable _) h _ _ _
theorem lab_c {k : Nat} : lab X Y Z n l s t0 (k + 1) = lab X Y Z n l s t0 k ∨ ∃ i, ffr X Y Z n l s (lab X Y Z n l s t0 k) k i ∧ lab X Y Z n l s t0 (k + 1) = lb_add X Y Z l s (lab X Y Z n l s t0 k) i := by
  by_cases e : ∃ i, ffr X Y Z n l s (lab X Y Z n l s t0 k) k i
  · obtain ⟨i, hi⟩ := e
    exact Or.inr ⟨i, hi, lab_1 hi⟩
  · exact Or.inl (lab_0 e)
theorem lab_le : ∀ d k, (lab X Y Z n l s t0 k).1 ≤ (lab X Y Z n l s t0 (k + d)).1 := by
  intro d
  induction d with
  | zero => intro k; exact Nat.le_refl _
  | succ d ih =>
    intro k
    have := ih k
    rw [show k + (d + 1) = (k + d) + 1 by omega]
    rcases lab_c (X := X) (Y := Y) (Z := Z) (n := n) (l := l) (s := s) (t0 := t0) (k := k + d) with e | ⟨i, -, e⟩
    · rw [e]; exact this
    · rw [e]; exact Nat.le_succ_of_le this
theorem lab_up : ∀ k, (lab X Y Z n l s t0 k).1 ≤ t0.1 + k := by
  intro k
  induction k with
  | zero => exact Nat.le_refl _
  | succ k ih =>
    rcases lab_c (X := X) (Y := Y) (Z := Z) (n := n) (l := l) (s := s) (t0 := t0) (k := k) with e | ⟨i, -, e⟩
    · rw [e]; omega
    · rw [e]
      show (lab X Y Z n l s t0 k).1 + 1 ≤ _
      omega
/-- what was there stays -/
theorem lab_pre : ∀ k j, j < t0.1 → (lab X Y Z n l s t0 k).2.1 j = t0.2.1 j ∧ (lab X Y Z n l s t0 k).2.2.1 j = t0.2.2.1 j ∧ (lab X Y Z n l s t0 k).2.2.2 j = t0.2.2.2 j := by
  intro k
  induction k with
  | zero => intro j _; exact ⟨rfl, rfl, rfl⟩
  | succ k ih =>
    intro j hj
    have le := lab_le (X := X) (Y := Y) (Z := Z) (n := n) (l := l) (s := s) (t0 := t0) k 0
    rw [Nat.zero_add] at le
    have le : t0.1 ≤ (lab X Y Z n l s t0 k).1 := le
    rcases lab_c (X := X) (Y := Y) (Z := Z) (n := n) (l := l) (s := s) (t0 := t0) (k := k) with e | ⟨i, -, e⟩
    · rw [e]; exact ih j hj
    · rw [e]
      have ne : j ≠ (lab X Y Z n l s t0 k).1 := by omega
      refine ⟨(if_neg ne).trans (ih j hj).1, (if_neg ne).trans (ih j hj).2.1, (if_neg ne).trans (ih j hj).2.2⟩
theorem lpx_b (ho : ge_ok X Y n) (hs : ct_ok X Y Z n l s) {i : Nat} (hi : i < s.2.1 s.1) : (0 ≤ lpx X Z l s i ∧ lpx X Z l s i ≤ 63) ∧ 0 ≤ lpx Y Z l s i ∧ lpx Y Z l s i ≤ 63 := by
  have c := hs.2.2.2.1 i hi
  obtain ⟨-, b2, b3, -⟩ := cS_lt ho c
  have q1 := ho.2.1 _ b2
  have q2 := ho.2.1 _ b3
  have h1 : l < Z (s.2.2.1 i / 16) := c.1.1
  have h2 : Z (s.2.2.1 i % 16) ≤ l := Int.not_lt.mp c.1.2
  exact ⟨pl_b ⟨q1.1, q1.2.1⟩ ⟨q2.1, q2.2.1⟩ h2 h1, pl_b ⟨q1.2.2.1, q1.2.2.2⟩ ⟨q2.2.2.1, q2.2.2.2⟩ h2 h1⟩
abbrev tCt (g : St) (t : Lt) : Prop := tC g t.1 t.2.1 t.2.2.1 t.2.2.2
abbrev tMt (g : St) (t : Lt) : Prop := tM g t.1 t.2.1 t.2.2.1 t.2.2.2
/-- the class looks for the first free crossing -/
theorem sc_first {t : Lt} {k : Nat} {post : Int32 → St → Prop} (hS : sC g n X Y Z) (hlv : 0 ≤ l ∧ l ≤ 998) (hs : ct_ok X Y Z n l s) (hl : lC s g) (hT : tCt g t) (hk : k < s.1)
    (h0 : (¬ ∃ i, ffr X Y Z n l s t k i) → post (-1) g) (h1 : ∀ i, ffr X Y Z n l s t k i → post (nI (s.2.2.1 i)) g) : wp_sc_firstFreePair (iI l) (nI k) g post := by
  have ho := hS.1
  obtain ⟨c1, c2⟩ := ct_120 ho hs
  have le := ct_le hs (show k ≤ k + 1 by omega) (show k + 1 ≤ s.1 by omega)
  have le2 := ct_le hs (show k + 1 ≤ s.1 by omega) (Nat.le_refl _)
  unfold wp_sc_firstFreePair
  have loop : ∀ d j, j + d = s.2.1 (k + 1) - s.2.1 k → (∀ i', s.2.1 k ≤ i' → i' < s.2.1 k + j → lbad X Y Z n l s t i') → lp_sc_firstFreePair_L2 (d + 1) (iI l) (nI k) (nI j) g (fun g13 => (post (-1) g13)) post := by
    intro d
    induction d with
    | zero =>
      intro j hj hb
      unfold lp_sc_firstFreePair_L2
      refine li_len ho hs hl hk ⟨fun _ => h0 (fun ⟨i, i1, i2, i3, _⟩ => i3 (hb i i1 (by omega))), fun q => absurd ((nI_leI (by omega) (by omega)).mpr (by omega)) q⟩
    | succ d ih =>
      intro j hj hb
      have hjl : s.2.1 k + j < s.2.1 (k + 1) := by omega
      have zs := hs.2.2.2.1 (s.2.1 k + j) (by omega)
      have pb := lpx_b ho hs (show s.2.1 k + j < s.2.1 s.1 by omega)
      have next : lbad X Y Z n l s t (s.2.1 k + j) → lp_sc_firstFreePair_L2 (d + 1) (iI l) (nI k) (nI j + 1) g (fun g13 => (post (-1) g13)) post := fun q => by
        rw [nI_1]
        refine ih (j + 1) (by omega) (fun i' a b => ?_)
        by_cases e : i' = s.2.1 k + j
        · rw [e]; exact q
        · exact hb i' a (by omega)
      unfold lp_sc_firstFreePair_L2
      refine li_len ho hs hl hk ⟨fun q => absurd ((nI_leI (by omega) (by omega)).mp q) (by omega), fun _ => ?_⟩
      refine li_pair ho hs hl hk hjl (sp_crossX hS hlv zs (sp_crossY hS hlv zs ?_))
      refine ta_covers hS pb.1 pb.2 (fun u => ⟨fun q => absurd rfl q, fun _ => ?_⟩) (fun u => ⟨fun _ => next (Or.inl u), fun q => absurd q (by decide)⟩)
      exact ta_clash hT pb.1 pb.2 (fun w => ⟨fun q => absurd rfl q, fun _ => h1 _ ⟨by omega, hjl, fun z => z.elim u w, fun i' a b => hb i' a b⟩⟩) (fun w => ⟨fun _ => next (Or.inr w), fun q => absurd q (by decide)⟩)
  exact ⟨(s.2.1 (k + 1) - s.2.1 k) + 1, loop (s.2.1 (k + 1) - s.2.1 k) 0 (by omega) (fun i' a b => absurd b (by omega))⟩
theorem ta_add_ok {t : Lt} {i : Nat} {post : St → Prop} (hT : tCt g t) (hq : t.1 < 20) (hp : (0 ≤ lpx X Z l s i ∧ lpx X Z l s i ≤ 63) ∧ 0 ≤ lpx Y Z l s i ∧ lpx Y Z l s i ≤ 63)
    (h : ∀ g', tCt g' (lb_add X Y Z l s t i) → fr [4, 15, 16, 17] g g' → post g') : wp_ta_add (iI l) (iI (lpx X Z l s i)) (iI (lpx Y Z l s i)) g post := by
  obtain ⟨-, q1, q2⟩ := hT
  unfold wp_ta_add
  try dsimp only
  rw [q1, ix_nI (by omega)]
  refine ⟨vp_in_nI (by omega) (by omega), fun g1 e1 => ?_⟩
  have c1 : g1 4 3 = nI t.1 := by rw [e1, gp_n (by decide)]; exact q1
  rw [c1, ix_nI (by omega)]
  refine ⟨vp_in_nI (by omega) (by omega), fun g2 e2 => ?_⟩
  have c2 : g2 4 3 = nI t.1 := by rw [e2, gp_n (by decide)]; exact c1
  rw [c2, ix_nI (by omega)]
  refine ⟨vp_in_nI (by omega) (by omega), fun g3 e3 g4 e4 => ?_⟩
  have c3 : g3 4 3 = nI t.1 := by rw [e3, gp_n (by decide)]; exact c2
  rw [c3, nI_1] at e4
  refine h g4 ⟨by show t.1 + 1 ≤ 20; omega, by rw [e4]; exact gp_s, fun j hj => ?_⟩ ?_
  · have hj : j < t.1 + 1 := hj
    have w15 : g4 15 = g1 15 := by rw [e4, gp_n (by decide), e3, gp_n (by decide), e2, gp_n (by decide)]
    have w16 : g4 16 = g2 16 := by rw [e4, gp_n (by decide), e3, gp_n (by decide)]
    have w17 : g4 17 = g3 17 := by rw [e4, gp_n (by decide)]
    rw [w15, w16, w17]
    by_cases e : j = t.1
    · have v1 : (lb_add X Y Z l s t i).2.1 j = l := if_pos e
      have v2 : (lb_add X Y Z l s t i).2.2.1 j = lpx X Z l s i := if_pos e
      have v3 : (lb_add X Y Z l s t i).2.2.2 j = lpx Y Z l s i := if_pos e
      rw [v1, v2, v3, e, e1, e2, e3]
      exact ⟨⟨hp.1.1, hp.1.2, hp.2.1, hp.2.2⟩, gp_s, gp_s, gp_s⟩
    · have v1 : (lb_add X Y Z l s t i).2.1 j = t.2.1 j := if_neg e
      have v2 : (lb_add X Y Z l s t i).2.2.1 j = t.2.2.1 j := if_neg e
      have v3 : (lb_add X Y Z l s t i).2.2.2 j = t.2.2.2 j := if_neg e
      rw [v1, v2, v3, e1, gp_o e, e2, gp_o e, e3, gp_o e, e1, gp_n (by decide), e2, gp_n (by decide), e1, gp_n (by decide)]
      exact q2 j (by omega)
  · rw [e4, e3, e2, e1]
    exact (((fr.rf.gp (by decide)).gp (by decide)).gp (by decide)).gp (by decide)
/-- the class labels the level: all contours, from k on -/
theorem sc_labels {post : Int32 → St → Prop} {px : Nat → St → Prop} (hS : sC g n X Y Z) (hlv : 0 ≤ l ∧ l ≤ 998) (hs : ct_ok X Y Z n l s) (hl : lC s g) (hT : tCt g t0)
    (h0 : (lab X Y Z n l s t0 s.1).1 ≤ 20 → ∀ g', tCt g' (lab X Y Z n l s t0 s.1) → fr [4, 15, 16, 17] g g' → post (nI (lab X Y Z n l s t0 s.1).1 - nI t0.1) g')
    (h1 : ¬ (lab X Y Z n l s t0 s.1).1 ≤ 20 → ∀ g', tCt g' t0 → fr [4, 15, 16, 17] g g' → px 1 g') :
    ∃ k15, lp_sc_label_L15 k15 (iI l) (nI t0.1) 0 g (fun w17 g16 => (wp_ta_size g16 (fun r19 g18 => (post (r19 - w17) g18)))) post px := by
  have ho := hS.1
  obtain ⟨c1, c2⟩ := ct_120 ho hs
  have q20 := hT.1
  have loop : ∀ d k (g2 : St), k + d = s.1 → tCt g2 (lab X Y Z n l s t0 k) → fr [4, 15, 16, 17] g g2 → lp_sc_label_L15 (d + 1) (iI l) (nI t0.1) (nI k) g2 (fun w17 g16 => (wp_ta_size g16 (fun r19 g18 => (post (r19 - w17) g18)))) post px := by
    intro d
    induction d with
    | zero =>
      intro k g2 hk hT2 f2
      have ek : k = s.1 := by omega
      subst ek
      have l2 : g2 3 5 = nI s.1 := by rw [f2 3 (by decide)]; exact hl.1
      unfold lp_sc_label_L15 wp_li_size wp_ta_size
      try dsimp only
      rw [l2, hT2.2.1]
      exact ⟨fun _ => h0 hT2.1 g2 hT2 f2, fun q => absurd ((nI_leI (by omega) (by omega)).mpr (Nat.le_refl _)) q⟩
    | succ d ih =>
      intro k g2 hk hT2 f2
      have S2 : sC g2 n X Y Z := hS.fr f2 (by decide) (by decide) (by decide) (by decide)
      have l2 : lC s g2 := by
        obtain ⟨a1, a2, a3, a4, a5⟩ := hl
        refine ⟨?_, ?_, ?_, ?_, ?_⟩
        · rw [f2 3 (by decide)]; exact a1
        · rw [f2 12 (by decide)]; exact a2
        · rw [f2 11 (by decide)]; exact a3
        · rw [f2 13 (by decide)]; exact a4
        · rw [f2 14 (by decide)]; exact a5
      unfold lp_sc_label_L15 wp_li_size
      try dsimp only
      rw [l2.1, nI_1]
      refine ⟨fun q => absurd ((nI_leI (by omega) (by omega)).mp q) (by omega), fun _ => ?_⟩
      refine sc_first S2 hlv hs l2 hT2 (show k < s.1 by omega) (fun no => ⟨fun q => absurd rfl q, fun _ => ?_⟩) (fun i hi => ⟨fun _ => ?_, fun q => ?_⟩)
      · refine ih (k + 1) g2 (by omega) ?_ f2
        rw [lab_0 no]; exact hT2
      · have le2 := ct_le hs (show k + 1 ≤ s.1 by omega) (Nat.le_refl _)
        have il : i < s.2.1 s.1 := by have := hi.2.1; omega
        have zs := hs.2.2.2.1 i il
        have up := lab_1 hi
        have mono := lab_le (X := X) (Y := Y) (Z := Z) (n := n) (l := l) (s := s) (t0 := t0) (s.1 - (k + 1)) (k + 1)
        rw [show k + 1 + (s.1 - (k + 1)) = s.1 by omega, up] at mono
        have mono : (lab X Y Z n l s t0 k).1 + 1 ≤ (lab X Y Z n l s t0 s.1).1 := mono
        unfold wp_ta_isFull
        try dsimp only
        rw [hT2.2.1]
        have z : nI (lab X Y Z n l s t0 k).1 < 20 ↔ (lab X Y Z n l s t0 k).1 < 20 := by
          have := hT2.1
          rw [show (20 : Int32) = nI 20 from rfl, nI_ltI (by omega) (by omega)]
        refine ⟨fun q => ⟨fun _ => ?_, fun w => absurd rfl w⟩, fun q => ⟨fun w => absurd w (by decide), fun _ => ?_⟩⟩
        · refine sp_crossX S2 hlv zs (sp_crossY S2 hlv zs (ta_add_ok hT2 (z.mp q) (lpx_b ho hs il) (fun g3 t3 f3 => ?_)))
          refine ih (k + 1) g3 (by omega) ?_ (f2.tr f3)
          rw [up]; exact t3
        · have nq : ¬ (lab X Y Z n l s t0 k).1 < 20 := fun w => q (z.mpr w)
          unfold wp_ta_cutTo
          intro g3 e3
          refine h1 (by omega) g3 ⟨q20, by rw [e3]; exact gp_s, fun j hj => ?_⟩ (by rw [e3]; exact f2.gp (by decide))
          have pr := lab_pre (X := X) (Y := Y) (Z := Z) (n := n) (l := l) (s := s) (t0 := t0) k j hj
          have le := lab_le (X := X) (Y := Y) (Z := Z) (n := n) (l := l) (s := s) (t0 := t0) k 0
          rw [Nat.zero_add] at le
          have le : t0.1 ≤ (lab X Y Z n l s t0 k).1 := le
          have := hT2.2.2 j (by omega)
          rw [pr.1, pr.2.1, pr.2.2] at this
          rw [e3, gp_n (by decide), gp_n (by decide), gp_n (by decide)]
          exact this
      · have le2 := ct_le hs (show k + 1 ≤ s.1 by omega) (Nat.le_refl _)
        have il : i < s.2.1 s.1 := by have := hi.2.1; omega
        have := (cS_lt ho (hs.2.2.2.1 i il)).1
        have := (on_m1 (o := some (s.2.2.1 i)) (fun w hw => by cases hw; omega)).mp q
        cases this
  exact ⟨s.1 + 1, loop s.1 0 g (by omega) hT fr.rf⟩
end
