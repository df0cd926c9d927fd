/-! Walks along a partial one-to-one map of codes (crossings that go on to one another): nothing here speaks of the machine. F x = none: it ends there. -/
/-- i steps -/
def cr_w (F : Nat → Option Nat) : Nat → Nat → Option Nat
  | 0, x => some x
  | i + 1, x => (cr_w F i x).bind F
theorem cr_w_s {F : Nat → Option Nat} {i x y : Nat} (h : cr_w F i x = some y) : cr_w F (i + 1) x = F y := by
  show (cr_w F i x).bind F = F y
  rw [h]; rfl
theorem cr_w_p {F : Nat → Option Nat} {i x z : Nat} (h : cr_w F (i + 1) x = some z) : ∃ y, cr_w F i x = some y ∧ F y = some z := by
  have h : (cr_w F i x).bind F = some z := h
  cases e : cr_w F i x with
  | none => rw [e] at h; cases h
  | some y => rw [e] at h; exact ⟨y, rfl, h⟩
theorem cr_w_le {F : Nat → Option Nat} {x z : Nat} : ∀ (d i : Nat), cr_w F (i + d) x = some z → ∃ y, cr_w F i x = some y := by
  intro d
  induction d generalizing z with
  | zero => intro i h; exact ⟨z, h⟩
  | succ d ih => intro i h; obtain ⟨y, h1, -⟩ := cr_w_p (i := i + d) h; exact ih i h1
/-- one to one: from two places the same end, the same way long: the same place -/
theorem cr_w_inj {F : Nat → Option Nat} (inj : ∀ a b c, F a = some c → F b = some c → a = b) : ∀ (i : Nat) {x y z : Nat}, cr_w F i x = some z → cr_w F i y = some z → x = y := by
  intro i
  induction i with
  | zero => intro x y z h1 h2; cases h1; cases h2; rfl
  | succ i ih =>
    intro x y z h1 h2
    obtain ⟨a, a1, a2⟩ := cr_w_p h1
    obtain ⟨b, b1, b2⟩ := cr_w_p h2
    have := inj a b z a2 b2
    subst this
    exact ih a1 b1
theorem cr_w_add {F : Nat → Option Nat} : ∀ (j i : Nat) {x y z : Nat}, cr_w F i x = some y → cr_w F j y = some z → cr_w F (i + j) x = some z := by
  intro j
  induction j with
  | zero => intro i x y z h1 h2; cases h2; exact h1
  | succ j ih =>
    intro i x y z h1 h2
    obtain ⟨a, a1, a2⟩ := cr_w_p h2
    have h3 := ih i h1 a1
    show cr_w F ((i + j) + 1) x = some z
    rw [cr_w_s h3]; exact a2
theorem cr_w_mid {F : Nat → Option Nat} {i d x y z : Nat} (h1 : cr_w F i x = some y) (h2 : cr_w F (i + d) x = some z) : cr_w F d y = some z := by
  induction d generalizing z with
  | zero => rw [Nat.add_zero, h1] at h2; cases h2; rfl
  | succ d ih =>
    obtain ⟨a, a1, a2⟩ := cr_w_p (i := i + d) h2
    rw [cr_w_s (ih a1)]; exact a2
/-- as long as it has not come back, it is at a new place -/
theorem cr_new {F : Nat → Option Nat} (inj : ∀ a b c, F a = some c → F b = some c → a = b) {x k : Nat} (hb : ∀ j, 0 < j → j ≤ k → cr_w F j x ≠ some x) {i j y : Nat} (hij : i < j) (hj : j ≤ k) (h1 : cr_w F i x = some y) (h2 : cr_w F j x = some y) : False := by
  obtain ⟨d, rfl⟩ : ∃ d, j = d + i := ⟨j - i, by omega⟩
  obtain ⟨a, a1⟩ := cr_w_le i d h2
  have a2 : cr_w F i a = some y := cr_w_mid a1 h2
  have := cr_w_inj inj i a2 h1
  subst this
  exact hb d (by omega) (by omega) a1
/-- the walk from x: k steps, each at a new place, and then the end, or x again -/
def cr_is (F : Nat → Option Nat) (x k : Nat) : Prop := (∃ y, cr_w F k x = some y ∧ (F y = none ∨ F y = some x)) ∧ ∀ j, 0 < j → j ≤ k → cr_w F j x ≠ some x
theorem cr_is_u {F : Nat → Option Nat} {x k k' : Nat} (h : cr_is F x k) (h' : cr_is F x k') : k = k' := by
  have go : ∀ {a b : Nat}, cr_is F x a → cr_is F x b → ¬ a < b := by
    intro a b ha hb hab
    obtain ⟨⟨y, y1, y2⟩, -⟩ := ha
    obtain ⟨⟨z, z1, -⟩, zb⟩ := hb
    obtain ⟨d, rfl⟩ : ∃ d, b = (a + 1) + d := ⟨b - (a + 1), by omega⟩
    obtain ⟨u, u1⟩ := cr_w_le d (a + 1) z1
    rw [cr_w_s y1] at u1
    rcases y2 with q | q
    · rw [q] at u1; cases u1
    · exact zb (a + 1) (by omega) (by omega) (by rw [cr_w_s y1]; exact q)
  rcases Nat.lt_trichotomy k k' with l | l | l
  · exact absurd l (go h h')
  · exact l
  · exact absurd l (go h' h)
theorem cr_php : ∀ (N k : Nat) (f : Nat → Nat), (∀ i, i < k → f i < N) → (∀ i j, i < j → j < k → f i ≠ f j) → k ≤ N := by
  intro N
  induction N with
  | zero => intro k f h _; rcases Nat.eq_zero_or_pos k with h0 | h0; omega; exact absurd (h 0 h0) (by omega)
  | succ N ih =>
    intro k f h inj
    rcases Nat.eq_zero_or_pos k with h0 | h0
    · omega
    obtain ⟨k', rfl⟩ : ∃ k', k = k' + 1 := ⟨k - 1, by omega⟩
    have := ih k' (fun i => if f i = N then f k' else f i) (fun i hi => by
      try dsimp only
      have a := h i (by omega)
      have b := h k' (by omega)
      have c := inj i k' hi (by omega)
      split <;> omega) (fun i j hi hj => by
      try dsimp only
      have a := inj i j hi (by omega)
      have b := inj i k' (by omega) (by omega)
      have c := inj j k' hj (by omega)
      split <;> split <;> omega)
    omega
/-- there is such a walk, of fewer than M steps, where all its places have numbers below M -/
theorem cr_ex {F : Nat → Option Nat} (inj : ∀ a b c, F a = some c → F b = some c → a = b) {S : Nat → Prop} (hF : ∀ a b, F a = some b → S b) {ix : Nat → Nat} {M : Nat} (hi : ∀ a, S a → ix a < M) (hj : ∀ a b, S a → S b → ix a = ix b → a = b) {x : Nat} (hx : S x) :
    ∃ k, k < M ∧ cr_is F x k := by
  refine Classical.byContradiction fun hno => ?_
  have hno : ∀ k, k < M → ¬ cr_is F x k := fun k hk h => hno ⟨k, hk, h⟩
  have all : ∀ k, k ≤ M → (∃ y, cr_w F k x = some y) ∧ ∀ j, 0 < j → j ≤ k → cr_w F j x ≠ some x := by
    intro k
    induction k with
    | zero => intro _; exact ⟨⟨x, rfl⟩, fun j h1 h2 => by omega⟩
    | succ k ih =>
      intro hk
      obtain ⟨⟨y, y1⟩, y2⟩ := ih (by omega)
      have n := hno k (by omega)
      have e := cr_w_s y1
      cases q : F y with
      | none => exact absurd ⟨⟨y, y1, Or.inl q⟩, y2⟩ n
      | some z =>
        have nz : z ≠ x := fun h => n ⟨⟨y, y1, Or.inr (by rw [q, h])⟩, y2⟩
        refine ⟨⟨z, by rw [e]; exact q⟩, fun j h1 h2 => ?_⟩
        rcases Nat.lt_or_ge j (k + 1) with l | l
        · exact y2 j h1 (by omega)
        · have : j = k + 1 := by omega
          subst this
          rw [e, q]
          exact fun h => nz (Option.some.inj h)
  obtain ⟨-, hb⟩ := all M (Nat.le_refl _)
  have dd : ∀ k, k ≤ M → ∃ y, cr_w F k x = some y := fun k hk => (all k hk).1
  have pl : ∀ k, ∃ y, k ≤ M → cr_w F k x = some y := fun k => by
    by_cases l : k ≤ M
    · obtain ⟨y, hy⟩ := dd k l; exact ⟨y, fun _ => hy⟩
    · exact ⟨0, fun l' => absurd l' l⟩
  have P : ∀ k, k ≤ M → cr_w F k x = some (Classical.choose (pl k)) := fun k => Classical.choose_spec (pl k)
  have inS : ∀ k, k ≤ M → S (Classical.choose (pl k)) := fun k hk => by
    have h := P k hk
    rcases Nat.eq_zero_or_pos k with h0 | h0
    · subst h0
      have : x = Classical.choose (pl 0) := Option.some.inj h
      rw [← this]; exact hx
    · obtain ⟨k', rfl⟩ : ∃ k', k = k' + 1 := ⟨k - 1, by omega⟩
      obtain ⟨y, -, y2⟩ := cr_w_p h
      exact hF _ _ y2
  have := cr_php M (M + 1) (fun k => ix (Classical.choose (pl k))) (fun k hk => hi _ (inS k (by omega))) (fun i j hij hjk e => by
    have e2 := hj _ _ (inS i (by omega)) (inS j (by omega)) e
    have a := P i (by omega)
    have b := P j (by omega)
    rw [e2] at a
    exact cr_new inj hb hij (by omega) a b)
  omega
/-! there and back: N and B undo one another -/
theorem cr_back {N B : Nat → Option Nat} (inv : ∀ x y, N x = some y ↔ B y = some x) : ∀ (i : Nat) {x y : Nat}, cr_w N i x = some y → cr_w B i y = some x := by
  intro i
  induction i with
  | zero => intro x y h; cases h; rfl
  | succ i ih =>
    intro x y h
    obtain ⟨z, z1, z2⟩ := cr_w_p h
    have h1 : cr_w B 1 y = some z := by show (some y).bind B = some z; exact (inv z y).mp z2
    have := cr_w_add i 1 h1 (ih z1)
    rw [Nat.add_comm] at this
    exact this
theorem cr_injN {N B : Nat → Option Nat} (inv : ∀ x y, N x = some y ↔ B y = some x) : ∀ a b c, N a = some c → N b = some c → a = b := fun a b c h1 h2 => by
  have e1 := (inv a c).mp h1
  have e2 := (inv b c).mp h2
  rw [e1] at e2
  exact Option.some.inj e2
theorem cr_injB {N B : Nat → Option Nat} (inv : ∀ x y, N x = some y ↔ B y = some x) : ∀ a b c, B a = some c → B b = some c → a = b := fun a b c h1 h2 => by
  have e1 := (inv c a).mpr h1
  have e2 := (inv c b).mpr h2
  rw [e1] at e2
  exact Option.some.inj e2
/-- where a contour through x begins: back to the border, or x itself -/
def cr_beg (B : Nat → Option Nat) (x f : Nat) : Prop := ∃ k, cr_is B x k ∧ ((∃ y, cr_w B k x = some y ∧ B y = none ∧ f = y) ∨ (∃ y, cr_w B k x = some y ∧ B y = some x ∧ f = x))
theorem cr_beg_u {B : Nat → Option Nat} {x f f' : Nat} (h : cr_beg B x f) (h' : cr_beg B x f') : f = f' := by
  obtain ⟨k, k1, k2⟩ := h
  obtain ⟨k', k3, k4⟩ := h'
  have := cr_is_u k1 k3
  subst this
  rcases k2 with ⟨y, y1, y2, rfl⟩ | ⟨y, y1, y2, rfl⟩ <;> rcases k4 with ⟨z, z1, z2, rfl⟩ | ⟨z, z1, z2, rfl⟩
  · rw [y1] at z1; exact Option.some.inj z1
  · rw [y1] at z1; cases z1; rw [y2] at z2; cases z2
  · rw [y1] at z1; cases z1; rw [y2] at z2; cases z2
  · rfl
theorem cr_beg_ex {B : Nat → Option Nat} {x k : Nat} (h : cr_is B x k) : ∃ f, cr_beg B x f := by
  obtain ⟨y, y1, y2⟩ := h.1
  rcases y2 with q | q
  · exact ⟨y, k, h, Or.inl ⟨y, y1, q, rfl⟩⟩
  · exact ⟨x, k, h, Or.inr ⟨y, y1, q, rfl⟩⟩
/-- the walk on from the beginning ends at the border just if it began there -/
theorem cr_ends {N B : Nat → Option Nat} (inv : ∀ x y, N x = some y ↔ B y = some x) {x f m y : Nat} (hb : cr_beg B x f) (hm : cr_is N f m) (hy : cr_w N m f = some y) : (N y = none ∧ B f = none) ∨ (N y = some f ∧ B f = some y) := by
  obtain ⟨⟨y', y1, y2⟩, nb⟩ := hm
  rw [y1] at hy
  cases hy
  rcases y2 with q | q
  · refine Or.inl ⟨q, ?_⟩
    obtain ⟨k, k1, k2⟩ := hb
    rcases k2 with ⟨z, z1, z2, rfl⟩ | ⟨z, z1, z2, rfl⟩
    · exact z2
    · exfalso
      have r : cr_w B (k + 1) f = some f := by rw [cr_w_s z1]; exact z2
      have inv' : ∀ a b, B a = some b ↔ N b = some a := fun a b => (inv b a).symm
      have r2 : cr_w N (k + 1) f = some f := cr_back inv' (k + 1) r
      rcases Nat.lt_or_ge m (k + 1) with l | l
      · obtain ⟨d, e⟩ : ∃ d, k + 1 = (m + 1) + d := ⟨k - m, by omega⟩
        rw [e] at r2
        obtain ⟨u, u1⟩ := cr_w_le d (m + 1) r2
        rw [cr_w_s y1, q] at u1
        cases u1
      · exact nb (k + 1) (by omega) l r2
  · exact Or.inr ⟨q, (inv y f).mp q⟩
/-- a set that is closed under both -/
def cr_cl (N : Nat → Option Nat) (T : Nat → Prop) : Prop := ∀ x y, N x = some y → (T x ↔ T y)
theorem cr_cl_w {N : Nat → Option Nat} {T : Nat → Prop} (h : cr_cl N T) : ∀ (i : Nat) {x y : Nat}, cr_w N i x = some y → (T x ↔ T y) := by
  intro i
  induction i with
  | zero => intro x y e; cases e; exact Iff.rfl
  | succ i ih =>
    intro x y e
    obtain ⟨z, z1, z2⟩ := cr_w_p e
    exact (ih z1).trans (h z y z2)
/-- nothing of the contour of x is in T, if x isn't -/
theorem cr_beg_out {N B : Nat → Option Nat} (inv : ∀ x y, N x = some y ↔ B y = some x) {T : Nat → Prop} (h : cr_cl N T) {x f : Nat} (hx : ¬ T x) (hb : cr_beg B x f) : ¬ T f := by
  obtain ⟨k, -, k2⟩ := hb
  have inv' : ∀ a b, B a = some b ↔ N b = some a := fun a b => (inv b a).symm
  have go : ∀ {y}, cr_w B k x = some y → ¬ T y := fun {y} e => by
    have e2 : cr_w N k y = some x := cr_back inv' k e
    exact fun t => hx ((cr_cl_w h k e2).mp t)
  rcases k2 with ⟨z, z1, z2, rfl⟩ | ⟨z, z1, z2, rfl⟩
  · exact go z1
  · exact hx
/-- with the contour the set is closed again -/
theorem cr_cl_add {N B : Nat → Option Nat} (inv : ∀ x y, N x = some y ↔ B y = some x) {T : Nat → Prop} (h : cr_cl N T) {x f m : Nat} (hb : cr_beg B x f) (hm : cr_is N f m) : cr_cl N (fun z => T z ∨ ∃ j, j ≤ m ∧ cr_w N j f = some z) := by
  obtain ⟨⟨ye, ye1, -⟩, -⟩ := id hm
  have en := cr_ends inv hb hm ye1
  intro a b e
  constructor
  · rintro (t | ⟨j, j1, j2⟩)
    · exact Or.inl ((h a b e).mp t)
    · rcases Nat.lt_or_ge j m with l | l
      · exact Or.inr ⟨j + 1, by omega, by rw [cr_w_s j2]; exact e⟩
      · have : j = m := by omega
        subst this
        rw [ye1] at j2
        cases j2
        rcases en with ⟨q, -⟩ | ⟨q, -⟩
        · rw [q] at e; cases e
        · rw [q] at e; cases e; exact Or.inr ⟨0, by omega, rfl⟩
  · rintro (t | ⟨j, j1, j2⟩)
    · exact Or.inl ((h a b e).mpr t)
    · rcases Nat.eq_zero_or_pos j with j0 | j0
      · subst j0
        cases j2
        have eb := (inv a f).mp e
        rcases en with ⟨-, q⟩ | ⟨-, q⟩
        · rw [q] at eb; cases eb
        · rw [q] at eb; cases eb; exact Or.inr ⟨m, Nat.le_refl _, ye1⟩
      · obtain ⟨j', rfl⟩ : ∃ j', j = j' + 1 := ⟨j - 1, by omega⟩
        obtain ⟨z, z1, z2⟩ := cr_w_p j2
        have := cr_injN inv z a b z2 e
        subst this
        exact Or.inr ⟨j', by omega, z1⟩
