/-! Which rings are hollows: both sides ask a spot with the least x. -/
/-- a spot of contour k -/
def spk (s : Ct) (k v : Nat) : Prop := ∃ i, s.2.1 k ≤ i ∧ i < s.2.1 (k + 1) ∧ (v = s.2.2.1 i / 16 ∨ v = s.2.2.1 i % 16)
section
variable {g : St} {n : Nat} {X Y Z : Nat → Int} {l : Int}
theorem ct_beg (ho : ge_ok X Y n) : ∀ e k, k < (ct X Y Z n l e).1 → ∃ x, cr_beg (cB X Y Z n l) x ((ct X Y Z n l e).2.2.1 ((ct X Y Z n l e).2.1 k)) := by
  intro e
  induction e with
  | zero => intro k hk; exact absurd hk (Nat.not_lt_zero _)
  | succ e ih =>
    intro k hk
    by_cases q : e / 16 < e % 16 ∧ cS X Y Z n l (hc Z l e) ∧ ¬ ct_T (ct X Y Z n l e) (hc Z l e)
    · rw [ct_s1 q] at hk ⊢
      have ok := ct_all (X := X) (Y := Y) (Z := Z) (n := n) (l := l) ho e
      generalize ct X Y Z n l e = s at *
      obtain ⟨c, O, F, G⟩ := s
      have hk : k < c + 1 := hk
      by_cases ek : k = c
      · subst ek
        refine ⟨hc Z l e, ?_⟩
        have e1 : (ct_add X Y Z n l (k, O, F, G) (hc Z l e)).2.1 k = O k := if_neg (by show ¬ k = k + 1; omega)
        have e2 : (ct_add X Y Z n l (k, O, F, G) (hc Z l e)).2.2.1 (O k) = (cr_w (cN X Y Z n l) (O k - O k) (bg X Y Z n l (hc Z l e))).getD 0 := if_neg (show ¬ (O k < O k) by omega)
        rw [e1, e2, Nat.sub_self]
        exact bg_ok ho q.2.1
      · have kc : k < c := by omega
        have e1 : (ct_add X Y Z n l (c, O, F, G) (hc Z l e)).2.1 k = O k := if_neg (by show ¬ k = c + 1; omega)
        have lt : O k < O c := by
          have := ct_mono ok (c - k) k (by show k + (c - k) ≤ c; omega)
          rw [show k + (c - k) = c by omega] at this
          have this : O k + (c - k) ≤ O c := this
          omega
        have e2 : (ct_add X Y Z n l (c, O, F, G) (hc Z l e)).2.2.1 (O k) = F (O k) := if_pos lt
        rw [e1, e2]
        exact ih k kc
    · rw [ct_s0 q] at hk ⊢
      exact ih k hk
/-- in a ring the spots with the least x are all high or all low -/
theorem ring_hi (ho : ge_ok X Y n) {s : Ct} (hs : ct_ok X Y Z n l s) {k : Nat} (hk : k < s.1) (hr : s.2.2.2 k) (hb : ∃ x, cr_beg (cB X Y Z n l) x (s.2.2.1 (s.2.1 k))) {v v' : Nat} (hv : spk s k v) (hv' : spk s k v') (lv : ∀ u, spk s k u → X v ≤ X u) (lv' : ∀ u, spk s k u → X v' ≤ X u) : hi Z l v → hi Z l v' := by
  intro q
  refine Classical.byContradiction fun q' => ?_
  have n16 := ho.1
  obtain ⟨m, a1, a2, a3, a4⟩ := hs.2.1 k hk
  obtain ⟨x, a5⟩ := hb
  have le1 : s.2.1 (k + 1) ≤ s.2.1 s.1 := ct_le hs (by omega) (Nat.le_refl _)
  have hS : ∀ i, s.2.1 k ≤ i → i < s.2.1 (k + 1) → cS X Y Z n l (s.2.2.1 i) := fun i _ h2 => hs.2.2.2.1 i (by omega)
  have at0 : cr_w (cN X Y Z n l) m (s.2.2.1 (s.2.1 k)) = some (s.2.2.1 (s.2.1 k + m)) := a3 m (Nat.le_refl _)
  have en := cr_ends (c_inv ho) a5 a1 at0
  have nb := a4.mp hr
  have en : cN X Y Z n l (s.2.2.1 (s.2.1 k + m)) = some (s.2.2.1 (s.2.1 k)) ∧ cB X Y Z n l (s.2.2.1 (s.2.1 k)) = some (s.2.2.1 (s.2.1 k + m)) := by
    rcases en with ⟨-, e⟩ | e
    · exact absurd e nb
    · exact e
  generalize hO : s.2.1 k = o at *
  generalize hF : s.2.2.1 = F at *
  have step : ∀ j, j < m → cN X Y Z n l (F (o + j)) = some (F (o + (j + 1))) := fun j hj => by
    have := a3 (j + 1) (by omega)
    rw [cr_w_s (a3 j (by omega))] at this
    exact this
  -- its crossings
  let C : Nat → Nat → Prop := fun h w => h < 16 ∧ w < 16 ∧ ∃ j, j ≤ m ∧ F (o + j) = 16 * h + w
  have Cs : ∀ {h w}, C h w → cS X Y Z n l (16 * h + w) ∧ (16 * h + w) / 16 = h ∧ (16 * h + w) % 16 = w := fun {h w} ⟨c1, c2, j, c3, c4⟩ => ⟨by rw [← c4]; exact hS _ (by omega) (by omega), by omega, by omega⟩
  have inC : ∀ {z}, cS X Y Z n l z → ((∃ j, j ≤ m ∧ F (o + j) = z) ↔ C (z / 16) (z % 16)) := fun {z} hz => by
    obtain ⟨z1, z2, z3, z4⟩ := cS_lt ho hz
    have e : 16 * (z / 16) + z % 16 = z := by omega
    constructor
    · rintro ⟨j, j1, j2⟩; exact ⟨by omega, by omega, j, j1, by rw [e]; exact j2⟩
    · rintro ⟨-, -, j, j1, j2⟩; exact ⟨j, j1, by rw [e] at j2; exact j2⟩
  -- closed both ways
  have cl : ∀ {z w}, cN X Y Z n l z = some w → ((∃ j, j ≤ m ∧ F (o + j) = z) ↔ ∃ j, j ≤ m ∧ F (o + j) = w) := fun {z w} e => by
    constructor
    · rintro ⟨j, j1, rfl⟩
      rcases Nat.lt_or_ge j m with q | q
      · rw [step j q] at e
        exact ⟨j + 1, by omega, Option.some.inj e⟩
      · have : j = m := by omega
        subst this
        rw [en.1] at e
        exact ⟨0, by omega, Option.some.inj e⟩
    · rintro ⟨j, j1, rfl⟩
      rcases Nat.eq_zero_or_pos j with q | q
      · subst q
        have := cNB ho e
        rw [Nat.add_zero, en.2] at this
        exact ⟨m, Nat.le_refl _, Option.some.inj this⟩
      · obtain ⟨j', rfl⟩ : ∃ j', j = j' + 1 := ⟨j - 1, by omega⟩
        have := cr_injN (c_inv ho) _ _ _ (step j' (by omega)) e
        exact ⟨j', by omega, this⟩
  have oth_of : ∀ {a b c}, ge_T X Y n a b c → hi Z l a → ¬ hi Z l b → ((∃ j, j ≤ m ∧ F (o + j) = 16 * a + b) ↔ ∃ j, j ≤ m ∧ F (o + j) = oth Z l a b c) := fun {a b c} t qa qb => by
    have ta := t.1; have tb := t.2.1
    have d1 : (16 * a + b) / 16 = a := by omega
    have d2 : (16 * a + b) % 16 = b := by omega
    rcases Int.lt_or_lt_of_ne t.2.2.2.1 with u | u
    · have : cB X Y Z n l (16 * a + b) = some (oth Z l a b c) := by
        rw [cB_eq (by rw [d1, d2]; exact ⟨qa, qb⟩), d1, d2, rr_some.mpr ⟨t, u⟩]; rfl
      exact (cl (cBN ho this)).symm
    · have w : ge_t X Y b a c < 0 := by
        have x1 := ge_t_rot X Y b a c
        have x2 := ge_t_sw X Y a b c
        omega
      have : cN X Y Z n l (16 * a + b) = some (oth Z l a b c) := by
        rw [cN_eq (by rw [d1, d2]; exact ⟨qa, qb⟩), d1, d2, rr_some.mpr ⟨T_wh t, w⟩]; rfl
      exact cl this
  have r1 : ∀ h w, C h w → h < n ∧ w < n ∧ hi Z l h ∧ ¬ hi Z l w := fun h w c => by
    obtain ⟨c1, c2, c3⟩ := Cs c
    obtain ⟨z1, z2, z3, z4⟩ := cS_lt ho c1
    have := c1.1
    rw [c2, c3] at this
    rw [c2] at z2
    rw [c3] at z3
    exact ⟨z2, z3, this⟩
  have r2 : ∀ a b c, ge_T X Y n a b c → hi Z l a → ¬ hi Z l b → ((hi Z l c → (C a b ↔ C c b)) ∧ (¬ hi Z l c → (C a b ↔ C a c))) := fun a b c t qa qb => by
    have ta := t.1; have tb := t.2.1; have tc := t.2.2.1
    have e := oth_of t qa qb
    refine ⟨fun qc => ?_, fun qc => ?_⟩
    · rw [oth_h qc] at e
      exact ⟨fun c => ⟨by omega, by omega, e.mp c.2.2⟩, fun c => ⟨by omega, by omega, e.mpr c.2.2⟩⟩
    · rw [oth_l qc] at e
      exact ⟨fun c => ⟨by omega, by omega, e.mp c.2.2⟩, fun c => ⟨by omega, by omega, e.mpr c.2.2⟩⟩
  have r3 : ∀ h w, C h w → (∃ r, ge_R X Y n w h r) ∧ ∃ l, ge_R X Y n h w l := fun h w c => by
    obtain ⟨c1, c2, c3⟩ := Cs c
    obtain ⟨-, -, j, j1, j2⟩ := c
    constructor
    · have : ∃ y, cN X Y Z n l (16 * h + w) = some y := by
        rw [← j2]
        rcases Nat.lt_or_ge j m with q | q
        · exact ⟨_, step j q⟩
        · rw [show j = m by omega]; exact ⟨_, en.1⟩
      obtain ⟨y, hy⟩ := this
      obtain ⟨-, r, r1, -⟩ := cN_p hy
      rw [c2, c3] at r1
      exact ⟨r, rr_some.mp r1⟩
    · have : ∃ y, cB X Y Z n l (16 * h + w) = some y := by
        rw [← j2]
        rcases Nat.eq_zero_or_pos j with q | q
        · rw [q, Nat.add_zero]; exact ⟨_, en.2⟩
        · obtain ⟨j', rfl⟩ : ∃ j', j = j' + 1 := ⟨j - 1, by omega⟩
          exact ⟨_, cNB ho (step j' (by omega))⟩
      obtain ⟨y, hy⟩ := this
      obtain ⟨-, r, r1, -⟩ := cB_p hy
      rw [c2, c3] at r1
      exact ⟨r, rr_some.mp r1⟩
  have r4 : ∀ P : Nat → Nat → Prop, (∀ a b c, ge_T X Y n a b c → hi Z l a → ¬ hi Z l b → C a b → (hi Z l c → (P a b ↔ P c b)) ∧ (¬ hi Z l c → (P a b ↔ P a c))) → ∀ h w h' w', C h w → C h' w' → (P h w ↔ P h' w') := fun P hP => by
    have one : ∀ j, j < m → (P (F (o + j) / 16) (F (o + j) % 16) ↔ P (F (o + (j + 1)) / 16) (F (o + (j + 1)) % 16)) := fun j hj => by
      have st := step j hj
      have zs := hS (o + j) (by omega) (by omega)
      obtain ⟨qz, r, r1, r2⟩ := cN_p st
      obtain ⟨t, u⟩ := rr_some.mp r1
      obtain ⟨b1, b2, b3, b4⟩ := cS_lt ho zs
      have b5 := t.2.2.1
      have cc : C (F (o + j) / 16) (F (o + j) % 16) := (inC zs).mp ⟨j, by omega, rfl⟩
      have pp := hP _ _ r (T_wh t) qz.1 qz.2 cc
      by_cases qr : hi Z l r
      · rw [oth_h qr] at r2
        rw [r2, show (16 * r + F (o + j) % 16) / 16 = r by omega, show (16 * r + F (o + j) % 16) % 16 = F (o + j) % 16 by omega]
        exact pp.1 qr
      · rw [oth_l qr] at r2
        rw [r2, show (16 * (F (o + j) / 16) + r) / 16 = F (o + j) / 16 by omega, show (16 * (F (o + j) / 16) + r) % 16 = r by omega]
        exact pp.2 qr
    have all : ∀ j, j ≤ m → (P (F o / 16) (F o % 16) ↔ P (F (o + j) / 16) (F (o + j) % 16)) := by
      intro j
      induction j with
      | zero => intro _; exact Iff.rfl
      | succ j ih => intro hj; exact (ih (by omega)).trans (one j (by omega))
    have eq : ∀ h w, C h w → (P (F o / 16) (F o % 16) ↔ P h w) := fun h w ⟨c1, c2, j, c3, c4⟩ => by
      have := all j c3
      rw [c4, show (16 * h + w) / 16 = h by omega, show (16 * h + w) % 16 = w by omega] at this
      exact this
    intro h w h' w' c c'
    exact (eq h w c).symm.trans (eq h' w' c')
  -- the two spots
  obtain ⟨i, i1, i2, i3⟩ := hv
  obtain ⟨i', i4, i5, i6⟩ := hv'
  rw [hF] at i3 i6
  rw [hO] at i1 i4
  have s1 := hS i i1 i2
  have s2 := hS i' i4 i5
  have cv : C v (F i % 16) := by
    have e : v = F i / 16 := by
      rcases i3 with e | e
      · exact e
      · rw [e] at q; exact absurd q s1.1.2
    have := (inC s1).mp ⟨i - o, by omega, by rw [show o + (i - o) = i by omega]⟩
    rw [← e] at this; exact this
  have cv' : C (F i' / 16) v' := by
    have e : v' = F i' % 16 := by
      rcases i6 with e | e
      · rw [e] at q'; exact absurd s2.1.1 q'
      · exact e
    have := (inC s2).mp ⟨i' - o, by omega, by rw [show o + (i' - o) = i' by omega]⟩
    rw [← e] at this; exact this
  have sp : ∀ a b, C a b → spk s k a ∧ spk s k b := fun a b ⟨c1, c2, j, c3, c4⟩ => by
    unfold spk
    rw [hO, hF]
    exact ⟨⟨o + j, by omega, by omega, Or.inl (by rw [c4]; omega)⟩, ⟨o + j, by omega, by omega, Or.inr (by rw [c4]; omega)⟩⟩
  have e1 := lv v' (sp _ _ cv').2
  have e2 := lv' v (sp _ _ cv).1
  exact ge_ring ho r1 r2 r3 r4 cv cv' (fun a b c => ⟨lv a (sp a b c).1, lv b (sp a b c).2⟩) (by omega)
end
