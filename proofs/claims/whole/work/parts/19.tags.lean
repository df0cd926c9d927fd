/-! Labels and what they clash with. -/
def ab (d : Int) : Int := if 0 ≤ d then d else -d
theorem iI_ab {d : Int} (h1 : -2147483647 ≤ d) (h2 : d < 2147483648) : (if 0 ≤ iI d then iI d else 0 - iI d) = iI (ab d) := by
  unfold ab
  by_cases h : 0 ≤ d
  · rw [if_pos h, if_pos (by rw [← iI_0, iI_le (by omega) (by omega) (by omega) h2]; exact h)]
  · rw [if_neg h, if_neg (by rw [← iI_0, iI_le (by omega) (by omega) (by omega) h2]; exact h), ← iI_0, iI_sub, Int.zero_sub]
theorem ab_b {d : Int} (h1 : -2147483647 ≤ d) (h2 : d < 2147483648) : 0 ≤ ab d ∧ ab d < 2147483648 := by
  unfold ab; split <;> omega
theorem iI_lt_n (k : Nat) {d : Int} (hk : k < 2147483648) (h1 : -2147483648 ≤ d) (h2 : d < 2147483648) : nI k < iI d ↔ (k : Int) < d := by
  rw [← iI_nI, iI_lt (by omega) (by omega) h1 h2]
def cov (n : Nat) (X Y : Nat → Int) (x y : Int) : Prop := ∃ s, s < n ∧ ab (X s - x) ≤ 3 ∧ ab (Y s - y) ≤ 1
def cla (q : Nat) (A B : Nat → Int) (x y : Int) : Prop := ∃ i, i < q ∧ ab (A i - x) ≤ 6 ∧ ab (B i - y) ≤ 2
/-- the labels of the class, and of the reference -/
def tC (g : St) (q : Nat) (V A B : Nat → Int) : Prop := q ≤ 20 ∧ g 4 3 = nI q ∧ ∀ i, i < q → (0 ≤ A i ∧ A i ≤ 63 ∧ 0 ≤ B i ∧ B i ≤ 63) ∧ g 15 i = iI (V i) ∧ g 16 i = iI (A i) ∧ g 17 i = iI (B i)
def tM (g : St) (q : Nat) (V A B : Nat → Int) : Prop := g 0 17 = nI q ∧ ∀ i, i < q → (0 ≤ A i ∧ A i ≤ 63 ∧ 0 ≤ B i ∧ B i ≤ 63) ∧ g 13 i = iI (V i) ∧ g 14 i = iI (A i) ∧ g 15 i = iI (B i)
section
variable {g : St} {n q : Nat} {X Y Z V A B : Nat → Int} {x y : Int}
theorem ta_covers {post : Int32 → St → Prop} (hS : sC g n X Y Z) (hx : 0 ≤ x ∧ x ≤ 63) (hy : 0 ≤ y ∧ y ≤ 63) (h0 : ¬ cov n X Y x y → post 0 g) (h1 : cov n X Y x y → post 1 g) : wp_ta_coversSpot (iI x) (iI y) g post := by
  have n16 := hS.1.1
  unfold wp_ta_coversSpot
  try dsimp only
  have loop : ∀ m i, i + m = n → (∀ s, s < i → ¬ (ab (X s - x) ≤ 3 ∧ ab (Y s - y) ≤ 1)) → lp_ta_coversSpot_L2 (m + 1) (iI x) (iI y) (nI i) g (fun g7 => (post 0 g7)) post := by
    intro m
    induction m with
    | zero =>
      intro i hi hd
      unfold lp_ta_coversSpot_L2 wp_sp_size
      try dsimp only
      rw [hS.2.2.1]
      refine ⟨fun _ => h0 (fun ⟨s, s1, s2⟩ => hd s (by omega) s2), fun k => absurd ((nI_leI (by omega) (by omega)).mpr (by omega)) k⟩
    | succ m ih =>
      intro i hi hd
      have hin : i < n := by omega
      obtain ⟨e1, e2, -⟩ := hS.2.2.2 i hin
      obtain ⟨b1, b2, b3, b4⟩ := hS.1.2.1 i hin
      have a1 := ab_b (d := X i - x) (by omega) (by omega)
      have a2 := ab_b (d := Y i - y) (by omega) (by omega)
      have next : ¬ (ab (X i - x) ≤ 3 ∧ ab (Y i - y) ≤ 1) → lp_ta_coversSpot_L2 (m + 1) (iI x) (iI y) (nI i + 1) g (fun g7 => (post 0 g7)) post := fun k => by
        rw [nI_1]
        refine ih (i + 1) (by omega) (fun s hs => ?_)
        by_cases e : s = i
        · rw [e]; exact k
        · exact hd s (by omega)
      unfold lp_ta_coversSpot_L2 wp_sp_size wp_sp_x wp_sp_y
      try dsimp only
      rw [hS.2.2.1, hS.ix hin, e1, e2, iI_sub, iI_sub, iI_ab (by omega) (by omega), iI_ab (by omega) (by omega), show (3 : Int32) = nI 3 from rfl]
      refine ⟨fun k => absurd ((nI_leI (by omega) (by omega)).mp k) (by omega), fun _ => ⟨hS.v16 hin, fun k => next ?_, fun k => ⟨hS.v16 hin, fun k2 => next ?_, fun k2 => ?_⟩⟩⟩
      · rw [iI_lt_n 3 (by omega) (by omega) (by omega)] at k; omega
      · rw [show (1 : Int32) = nI 1 from rfl, iI_lt_n 1 (by omega) (by omega) (by omega)] at k2; omega
      · rw [iI_lt_n 3 (by omega) (by omega) (by omega)] at k
        rw [show (1 : Int32) = nI 1 from rfl, iI_lt_n 1 (by omega) (by omega) (by omega)] at k2
        exact h1 ⟨i, hin, by omega, by omega⟩
  exact ⟨n + 1, loop n 0 (by omega) (fun s hs => absurd hs (by omega))⟩
theorem ta_clash {post : Int32 → St → Prop} (hT : tC g q V A B) (hx : 0 ≤ x ∧ x ≤ 63) (hy : 0 ≤ y ∧ y ≤ 63) (h0 : ¬ cla q A B x y → post 0 g) (h1 : cla q A B x y → post 1 g) : wp_ta_clashesAt (iI x) (iI y) g post := by
  have q20 := hT.1
  unfold wp_ta_clashesAt
  try dsimp only
  have loop : ∀ m i, i + m = q → (∀ s, s < i → ¬ (ab (A s - x) ≤ 6 ∧ ab (B s - y) ≤ 2)) → lp_ta_clashesAt_L2 (m + 1) (iI x) (iI y) (nI i) g (fun g1 => (post 0 g1)) post := by
    intro m
    induction m with
    | zero =>
      intro i hi hd
      unfold lp_ta_clashesAt_L2
      try dsimp only
      rw [hT.2.1]
      refine ⟨fun _ => h0 (fun ⟨s, s1, s2⟩ => hd s (by omega) s2), fun k => absurd ((nI_leI (by omega) (by omega)).mpr (by omega)) k⟩
    | succ m ih =>
      intro i hi hd
      have hin : i < q := by omega
      obtain ⟨⟨b1, b2, b3, b4⟩, -, e1, e2⟩ := hT.2.2 i hin
      have a1 := ab_b (d := A i - x) (by omega) (by omega)
      have a2 := ab_b (d := B i - y) (by omega) (by omega)
      have next : ¬ (ab (A i - x) ≤ 6 ∧ ab (B i - y) ≤ 2) → lp_ta_clashesAt_L2 (m + 1) (iI x) (iI y) (nI i + 1) g (fun g1 => (post 0 g1)) post := fun k => by
        rw [nI_1]
        refine ih (i + 1) (by omega) (fun s hs => ?_)
        by_cases e : s = i
        · rw [e]; exact k
        · exact hd s (by omega)
      unfold lp_ta_clashesAt_L2
      try dsimp only
      rw [hT.2.1, ix_nI (by omega), e1, e2, iI_sub, iI_sub, iI_ab (by omega) (by omega), iI_ab (by omega) (by omega), show (6 : Int32) = nI 6 from rfl, show (2 : Int32) = nI 2 from rfl]
      refine ⟨fun k => absurd ((nI_leI (by omega) (by omega)).mp k) (by omega), fun _ => ⟨vp_in_nI (by omega) (by omega), fun k => next ?_, fun k => ⟨vp_in_nI (by omega) (by omega), fun k2 => next ?_, fun k2 => ?_⟩⟩⟩
      · rw [iI_lt_n 6 (by omega) (by omega) (by omega)] at k; omega
      · rw [iI_lt_n 2 (by omega) (by omega) (by omega)] at k2; omega
      · rw [iI_lt_n 6 (by omega) (by omega) (by omega)] at k
        rw [iI_lt_n 2 (by omega) (by omega) (by omega)] at k2
        exact h1 ⟨i, hin, by omega, by omega⟩
  exact ⟨q + 1, loop q 0 (by omega) (fun s hs => absurd hs (by omega))⟩
/-- isNear of the reference -/
theorem mo_near {a b : Int} {k : Nat} {post : Int32 → St → Prop} (ha : -1000 ≤ a ∧ a ≤ 1000) (hb : -1000 ≤ b ∧ b ≤ 1000) (hk : k < 100) (h0 : ¬ ab (a - b) ≤ k → post 0 g) (h1 : ab (a - b) ≤ k → post 1 g) : wp_mo_isNear (iI a) (iI b) (nI k) g post := by
  unfold wp_mo_isNear
  try dsimp only
  rw [iI_sub, iI_sub]
  have z1 := iI_lt_n k (d := a - b) (by omega) (by omega) (by omega)
  have z2 := iI_lt_n k (d := b - a) (by omega) (by omega) (by omega)
  have e : ab (a - b) ≤ k ↔ a - b ≤ k ∧ b - a ≤ k := by unfold ab; split <;> omega
  refine ⟨fun u => h0 (fun w => ?_), fun u => ⟨fun u2 => h0 (fun w => ?_), fun u2 => h1 ?_⟩⟩
  · have := z1.mp u; have := e.mp w; omega
  · have := z2.mp u2; have := e.mp w; omega
  · rw [e]
    constructor
    · exact Int.not_lt.mp (fun w => u (z1.mpr w))
    · exact Int.not_lt.mp (fun w => u2 (z2.mpr w))
theorem mo_clash {post : Int32 → St → Prop} (hS : sM g n X Y Z) (hT : tM g q V A B) (hq : q ≤ 60) (hx : 0 ≤ x ∧ x ≤ 63) (hy : 0 ≤ y ∧ y ≤ 63) (h0 : ¬ (cov n X Y x y ∨ cla q A B x y) → post 0 g) (h1 : (cov n X Y x y ∨ cla q A B x y) → post 1 g) : wp_mo_clashes (iI x) (iI y) g post := by
  have n16 := hS.1.1
  unfold wp_mo_clashes
  try dsimp only
  -- the second loop, from b
  have L65 : ∀ m i, i + m = q → ∀ b : Int32, ((b = 0 ∧ ¬ (cov n X Y x y ∨ ∃ s, s < i ∧ ab (A s - x) ≤ 6 ∧ ab (B s - y) ≤ 2)) ∨ (b = 1 ∧ (cov n X Y x y ∨ ∃ s, s < i ∧ ab (A s - x) ≤ 6 ∧ ab (B s - y) ≤ 2))) →
      lp_mo_clashes_L65 (m + 1) (iI x) (iI y) b (nI i) g (fun w14 g13 => (narrow .boolean (.int w14) = .int w14 ∧ post w14 g13)) post := by
    intro m
    induction m with
    | zero =>
      intro i hi b hb
      unfold lp_mo_clashes_L65
      try dsimp only
      rw [hT.1]
      have : i = q := by omega
      subst this
      refine ⟨fun _ => ?_, fun k => absurd ((nI_leI (by omega) (by omega)).mpr (Nat.le_refl _)) k⟩
      rcases hb with ⟨rfl, hb⟩ | ⟨rfl, hb⟩
      · exact ⟨nb_0, h0 hb⟩
      · exact ⟨nb_1, h1 hb⟩
    | succ m ih =>
      intro i hi b hb
      have hin : i < q := by omega
      obtain ⟨⟨b1, b2, b3, b4⟩, -, e1, e2⟩ := hT.2 i hin
      unfold lp_mo_clashes_L65
      try dsimp only
      rw [hT.1, ix_nI (by omega), nI_1]
      refine ⟨fun k => absurd ((nI_leI (by omega) (by omega)).mp k) (by omega), fun _ => ⟨fun k => ?_, fun k => ⟨vp_in_nI (by omega) (by omega), ?_⟩⟩⟩
      · refine ih (i + 1) (by omega) 1 (Or.inr ⟨rfl, ?_⟩)
        rcases hb with ⟨rfl, -⟩ | ⟨-, hb⟩
        · exact absurd rfl k
        · rcases hb with hb | ⟨s, s1, s2⟩
          · exact Or.inl hb
          · exact Or.inr ⟨s, by omega, s2⟩
      · have hb : ¬ (cov n X Y x y ∨ ∃ s, s < i ∧ ab (A s - x) ≤ 6 ∧ ab (B s - y) ≤ 2) := by
          rcases hb with ⟨-, hb⟩ | ⟨hb, -⟩
          · exact hb
          · rw [hb] at k; exact absurd k (by decide)
        have no : ¬ (ab (A i - x) ≤ 6 ∧ ab (B i - y) ≤ 2) → lp_mo_clashes_L65 (m + 1) (iI x) (iI y) 0 (nI (i + 1)) g (fun w14 g13 => (narrow .boolean (.int w14) = .int w14 ∧ post w14 g13)) post := fun u => by
          refine ih (i + 1) (by omega) 0 (Or.inl ⟨rfl, fun w => ?_⟩)
          rcases w with w | ⟨s, s1, s2⟩
          · exact hb (Or.inl w)
          · by_cases e : s = i
            · rw [e] at s2; exact u s2
            · exact hb (Or.inr ⟨s, by omega, s2⟩)
        rw [e1]
        refine mo_near (k := 6) (by omega) (by omega) (by omega) (fun u => ⟨fun _ => no (fun w => u w.1), fun k => absurd rfl k⟩) (fun u => ⟨fun k => absurd k (by decide), fun _ => ⟨vp_in_nI (by omega) (by omega), ?_⟩⟩)
        rw [e2]
        exact mo_near (k := 2) (by omega) (by omega) (by omega) (fun u2 => ⟨fun _ => no (fun w => u2 w.2), fun k => absurd rfl k⟩) (fun u2 => ⟨fun k => absurd k (by decide), fun _ => ih (i + 1) (by omega) 1 (Or.inr ⟨rfl, Or.inr ⟨i, by omega, u, u2⟩⟩)⟩)
  have L5 : ∀ m i, i + m = n → ∀ b : Int32, ((b = 0 ∧ ¬ ∃ s, s < i ∧ ab (X s - x) ≤ 3 ∧ ab (Y s - y) ≤ 1) ∨ (b = 1 ∧ ∃ s, s < i ∧ ab (X s - x) ≤ 3 ∧ ab (Y s - y) ≤ 1)) →
      lp_mo_clashes_L5 (m + 1) (iI x) (iI y) b (nI i) g (fun w6 w7 w8 g5 => (∃ k65, lp_mo_clashes_L65 k65 w6 w7 w8 0 g5 (fun w14 g13 => (narrow .boolean (.int w14) = .int w14 ∧ post w14 g13)) post)) post := by
    intro m
    induction m with
    | zero =>
      intro i hi b hb
      unfold lp_mo_clashes_L5
      try dsimp only
      rw [hS.2.2.1]
      have : i = n := by omega
      subst this
      refine ⟨fun _ => ⟨q + 1, L65 q 0 (by omega) b ?_⟩, fun k => absurd ((nI_leI (by omega) (by omega)).mpr (Nat.le_refl _)) k⟩
      rcases hb with ⟨hb, hc⟩ | ⟨hb, hc⟩
      · exact Or.inl ⟨hb, fun w => by rcases w with w | ⟨s, s1, -⟩; exact hc w; omega⟩
      · exact Or.inr ⟨hb, Or.inl hc⟩
    | succ m ih =>
      intro i hi b hb
      have hin : i < n := by omega
      obtain ⟨e1, e2, -⟩ := hS.2.2.2 i hin
      obtain ⟨b1, b2, b3, b4⟩ := hS.1.2.1 i hin
      unfold lp_mo_clashes_L5
      try dsimp only
      rw [hS.2.2.1, hS.ix hin, nI_1]
      refine ⟨fun k => absurd ((nI_leI (by omega) (by omega)).mp k) (by omega), fun _ => ⟨fun k => ?_, fun k => ⟨hS.v16 hin, ?_⟩⟩⟩
      · refine ih (i + 1) (by omega) 1 (Or.inr ⟨rfl, ?_⟩)
        rcases hb with ⟨rfl, -⟩ | ⟨-, ⟨s, s1, s2⟩⟩
        · exact absurd rfl k
        · exact ⟨s, by omega, s2⟩
      · have hb : ¬ ∃ s, s < i ∧ ab (X s - x) ≤ 3 ∧ ab (Y s - y) ≤ 1 := by
          rcases hb with ⟨-, hb⟩ | ⟨hb, -⟩
          · exact hb
          · rw [hb] at k; exact absurd k (by decide)
        have no : ¬ (ab (X i - x) ≤ 3 ∧ ab (Y i - y) ≤ 1) → lp_mo_clashes_L5 (m + 1) (iI x) (iI y) 0 (nI (i + 1)) g (fun w6 w7 w8 g5 => (∃ k65, lp_mo_clashes_L65 k65 w6 w7 w8 0 g5 (fun w14 g13 => (narrow .boolean (.int w14) = .int w14 ∧ post w14 g13)) post)) post := fun u => by
          refine ih (i + 1) (by omega) 0 (Or.inl ⟨rfl, fun ⟨s, s1, s2⟩ => ?_⟩)
          by_cases e : s = i
          · rw [e] at s2; exact u s2
          · exact hb ⟨s, by omega, s2⟩
        rw [e1]
        refine mo_near (k := 3) (by omega) (by omega) (by omega) (fun u => ⟨fun _ => no (fun w => u w.1), fun k => absurd rfl k⟩) (fun u => ⟨fun k => absurd k (by decide), fun _ => ⟨hS.v16 hin, ?_⟩⟩)
        rw [e2]
        exact mo_near (k := 1) (by omega) (by omega) (by omega) (fun u2 => ⟨fun _ => no (fun w => u2 w.2), fun k => absurd rfl k⟩) (fun u2 => ⟨fun k => absurd k (by decide), fun _ => ih (i + 1) (by omega) 1 (Or.inr ⟨rfl, ⟨i, by omega, u, u2⟩⟩)⟩)
  exact ⟨n + 1, L5 n 0 (by omega) 0 (Or.inl ⟨rfl, fun ⟨s, s1, _⟩ => by omega⟩)⟩
end
