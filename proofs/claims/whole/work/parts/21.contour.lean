/-! The contours of a level as a list that both sides build: crossings by 16 times the high spot, + the low one. Pure. -/
def hi (Z : Nat → Int) (l : Int) (v : Nat) : Prop := l < Z v
noncomputable def rr (X Y : Nat → Int) (n p q : Nat) : Option Nat := @dite _ (∃ r, ge_R X Y n p q r) (Classical.propDecidable _) (fun h => some (Classical.choose h)) (fun _ => none)
theorem rr_some {X Y : Nat → Int} {n p q r : Nat} : rr X Y n p q = some r ↔ ge_R X Y n p q r := by
  unfold rr
  constructor
  · intro h
    by_cases e : ∃ r, ge_R X Y n p q r
    · rw [@dif_pos _ (Classical.propDecidable _) e] at h
      cases h
      exact Classical.choose_spec e
    · rw [@dif_neg _ (Classical.propDecidable _) e] at h; cases h
  · intro h
    have e : ∃ r, ge_R X Y n p q r := ⟨r, h⟩
    rw [@dif_pos _ (Classical.propDecidable _) e]
    exact congrArg some (ge_R_u (Classical.choose_spec e) h)
theorem rr_none {X Y : Nat → Int} {n p q : Nat} : rr X Y n p q = none ↔ ∀ r, ¬ ge_R X Y n p q r := by
  constructor
  · intro h r q
    rw [rr_some.mpr q] at h; cases h
  · intro h
    cases e : rr X Y n p q with
    | none => rfl
    | some r => exact absurd (rr_some.mp e) (h r)
theorem rr_lt {X Y : Nat → Int} {n p q r : Nat} (h : rr X Y n p q = some r) : p < n ∧ q < n ∧ r < n := ⟨(rr_some.mp h).1.1, (rr_some.mp h).1.2.1, (rr_some.mp h).1.2.2.1⟩
theorem rr_rot {X Y : Nat → Int} {n p q r : Nat} (h : rr X Y n p q = some r) : rr X Y n q r = some p := rr_some.mpr (ge_R_rot (rr_some.mp h))
/-- the other crossing in the triangle of h, w and the third one -/
noncomputable def oth (Z : Nat → Int) (l : Int) (h w r : Nat) : Nat := @ite _ (hi Z l r) (Classical.propDecidable _) (16 * r + w) (16 * h + r)
theorem oth_h {Z : Nat → Int} {l : Int} {h w r : Nat} (q : hi Z l r) : oth Z l h w r = 16 * r + w := @if_pos _ (Classical.propDecidable _) q _ _ _
theorem oth_l {Z : Nat → Int} {l : Int} {h w r : Nat} (q : ¬ hi Z l r) : oth Z l h w r = 16 * h + r := @if_neg _ (Classical.propDecidable _) q _ _ _
section
variable (X Y Z : Nat → Int) (n : Nat) (l : Int)
/-- a crossing goes on, and comes -/
noncomputable def cN (x : Nat) : Option Nat := @ite _ (hi Z l (x / 16) ∧ ¬ hi Z l (x % 16)) (Classical.propDecidable _) ((rr X Y n (x % 16) (x / 16)).map (oth Z l (x / 16) (x % 16))) none
noncomputable def cB (x : Nat) : Option Nat := @ite _ (hi Z l (x / 16) ∧ ¬ hi Z l (x % 16)) (Classical.propDecidable _) ((rr X Y n (x / 16) (x % 16)).map (oth Z l (x / 16) (x % 16))) none
def cS (x : Nat) : Prop := (hi Z l (x / 16) ∧ ¬ hi Z l (x % 16)) ∧ ((∃ r, rr X Y n (x / 16) (x % 16) = some r) ∨ ∃ r, rr X Y n (x % 16) (x / 16) = some r)
end
section
variable {X Y Z : Nat → Int} {n : Nat} {l : Int}
theorem cN_eq {x : Nat} (h : hi Z l (x / 16) ∧ ¬ hi Z l (x % 16)) : cN X Y Z n l x = (rr X Y n (x % 16) (x / 16)).map (oth Z l (x / 16) (x % 16)) := @if_pos _ (Classical.propDecidable _) h _ _ _
theorem cB_eq {x : Nat} (h : hi Z l (x / 16) ∧ ¬ hi Z l (x % 16)) : cB X Y Z n l x = (rr X Y n (x / 16) (x % 16)).map (oth Z l (x / 16) (x % 16)) := @if_pos _ (Classical.propDecidable _) h _ _ _
theorem cN_p {x y : Nat} (h : cN X Y Z n l x = some y) : (hi Z l (x / 16) ∧ ¬ hi Z l (x % 16)) ∧ ∃ r, rr X Y n (x % 16) (x / 16) = some r ∧ y = oth Z l (x / 16) (x % 16) r := by
  by_cases q : hi Z l (x / 16) ∧ ¬ hi Z l (x % 16)
  · rw [cN_eq q] at h
    obtain ⟨r, h1, h2⟩ := Option.map_eq_some_iff.mp h
    exact ⟨q, r, h1, h2.symm⟩
  · have : cN X Y Z n l x = none := @if_neg _ (Classical.propDecidable _) q _ _ _
    rw [this] at h; cases h
theorem cB_p {x y : Nat} (h : cB X Y Z n l x = some y) : (hi Z l (x / 16) ∧ ¬ hi Z l (x % 16)) ∧ ∃ r, rr X Y n (x / 16) (x % 16) = some r ∧ y = oth Z l (x / 16) (x % 16) r := by
  by_cases q : hi Z l (x / 16) ∧ ¬ hi Z l (x % 16)
  · rw [cB_eq q] at h
    obtain ⟨r, h1, h2⟩ := Option.map_eq_some_iff.mp h
    exact ⟨q, r, h1, h2.symm⟩
  · have : cB X Y Z n l x = none := @if_neg _ (Classical.propDecidable _) q _ _ _
    rw [this] at h; cases h
theorem cNB (ho : ge_ok X Y n) {x y : Nat} (h : cN X Y Z n l x = some y) : cB X Y Z n l y = some x := by
  have n16 := ho.1
  obtain ⟨⟨q1, q2⟩, r, r1, rfl⟩ := cN_p h
  obtain ⟨b1, b2, b3⟩ := rr_lt r1
  have e : 16 * (x / 16) + x % 16 = x := by omega
  by_cases k : hi Z l r
  · rw [oth_h k]
    have d1 : (16 * r + x % 16) / 16 = r := by omega
    have d2 : (16 * r + x % 16) % 16 = x % 16 := by omega
    rw [cB_eq (by rw [d1, d2]; exact ⟨k, q2⟩), d1, d2, rr_rot (rr_rot r1), Option.map_some, oth_h q1, e]
  · rw [oth_l k]
    have d1 : (16 * (x / 16) + r) / 16 = x / 16 := by omega
    have d2 : (16 * (x / 16) + r) % 16 = r := by omega
    rw [cB_eq (by rw [d1, d2]; exact ⟨q1, k⟩), d1, d2, rr_rot r1, Option.map_some, oth_l q2, e]
theorem cBN (ho : ge_ok X Y n) {x y : Nat} (h : cB X Y Z n l x = some y) : cN X Y Z n l y = some x := by
  have n16 := ho.1
  obtain ⟨⟨q1, q2⟩, r, r1, rfl⟩ := cB_p h
  obtain ⟨b1, b2, b3⟩ := rr_lt r1
  have e : 16 * (x / 16) + x % 16 = x := by omega
  by_cases k : hi Z l r
  · rw [oth_h k]
    have d1 : (16 * r + x % 16) / 16 = r := by omega
    have d2 : (16 * r + x % 16) % 16 = x % 16 := by omega
    rw [cN_eq (by rw [d1, d2]; exact ⟨k, q2⟩), d1, d2, rr_rot r1, Option.map_some, oth_h q1, e]
  · rw [oth_l k]
    have d1 : (16 * (x / 16) + r) / 16 = x / 16 := by omega
    have d2 : (16 * (x / 16) + r) % 16 = r := by omega
    rw [cN_eq (by rw [d1, d2]; exact ⟨q1, k⟩), d1, d2, rr_rot (rr_rot r1), Option.map_some, oth_l q2, e]
theorem c_inv (ho : ge_ok X Y n) : ∀ x y, cN X Y Z n l x = some y ↔ cB X Y Z n l y = some x := fun _ _ => ⟨cNB ho, cBN ho⟩
theorem cN_S (ho : ge_ok X Y n) {x y : Nat} (h : cN X Y Z n l x = some y) : cS X Y Z n l y := by
  obtain ⟨q, r, r1, -⟩ := cB_p (cNB ho h)
  exact ⟨q, Or.inl ⟨r, r1⟩⟩
theorem cB_S (ho : ge_ok X Y n) {x y : Nat} (h : cB X Y Z n l x = some y) : cS X Y Z n l y := by
  obtain ⟨q, r, r1, -⟩ := cN_p (cBN ho h)
  exact ⟨q, Or.inr ⟨r, r1⟩⟩
theorem cS_lt (ho : ge_ok X Y n) {x : Nat} (h : cS X Y Z n l x) : x < 256 ∧ x / 16 < n ∧ x % 16 < n ∧ x / 16 ≠ x % 16 := by
  have n16 := ho.1
  have ne : x / 16 ≠ x % 16 := fun e => h.1.2 (by rw [← e]; exact h.1.1)
  rcases h.2 with ⟨r, r1⟩ | ⟨r, r1⟩
  · obtain ⟨b1, b2, b3⟩ := rr_lt r1; omega
  · obtain ⟨b1, b2, b3⟩ := rr_lt r1; omega
/-- numbers of the pairs u < v -/
def px_i (u v : Nat) : Nat := v * (v - 1) / 2 + u
def px_t : List Nat := (List.range 16).flatMap (fun v => (List.range v).map (fun u => 16 * u + v))
theorem px_ok : ∀ v, v < 16 → ∀ u, u < v → px_i u v < 120 ∧ px_t[px_i u v]? = some (16 * u + v) := by decide +kernel
/-- the edge of a crossing: the lesser spot first -/
def ce (x : Nat) : Nat := if x / 16 < x % 16 then 16 * (x / 16) + x % 16 else 16 * (x % 16) + x / 16
def cx (x : Nat) : Nat := if x / 16 < x % 16 then px_i (x / 16) (x % 16) else px_i (x % 16) (x / 16)
theorem cx_lt (ho : ge_ok X Y n) {x : Nat} (h : cS X Y Z n l x) : cx x < 120 := by
  obtain ⟨b1, b2, b3, b4⟩ := cS_lt ho h
  have n16 := ho.1
  unfold cx
  split
  · exact (px_ok _ (by omega) _ (by omega)).1
  · exact (px_ok _ (by omega) _ (by omega)).1
theorem cx_ce (ho : ge_ok X Y n) {x : Nat} (h : cS X Y Z n l x) : px_t[cx x]? = some (ce x) := by
  obtain ⟨b1, b2, b3, b4⟩ := cS_lt ho h
  have n16 := ho.1
  unfold cx ce
  split
  · exact (px_ok _ (by omega) _ (by omega)).2
  · exact (px_ok _ (by omega) _ (by omega)).2
theorem ce_inj (ho : ge_ok X Y n) {x y : Nat} (h : cS X Y Z n l x) (h' : cS X Y Z n l y) (e : ce x = ce y) : x = y := by
  obtain ⟨b1, b2, b3, b4⟩ := cS_lt ho h
  obtain ⟨d1, d2, d3, d4⟩ := cS_lt ho h'
  have n16 := ho.1
  unfold ce at e
  by_cases p : x / 16 < x % 16 <;> by_cases q : y / 16 < y % 16 <;> simp only [p, q, if_true, if_false] at e
  · omega
  · exfalso
    have e1 : x / 16 = y % 16 := by omega
    exact h'.1.2 (by rw [← e1]; exact h.1.1)
  · exfalso
    have e1 : x / 16 = y % 16 := by omega
    exact h'.1.2 (by rw [← e1]; exact h.1.1)
  · omega
theorem cx_inj (ho : ge_ok X Y n) {x y : Nat} (h : cS X Y Z n l x) (h' : cS X Y Z n l y) (e : cx x = cx y) : x = y := by
  have a := cx_ce ho h
  rw [e, cx_ce ho h'] at a
  exact ce_inj ho h h' (Option.some.inj a).symm
theorem cN_is (ho : ge_ok X Y n) {x : Nat} (h : cS X Y Z n l x) : ∃ k, k < 120 ∧ cr_is (cN X Y Z n l) x k :=
  cr_ex (cr_injN (c_inv ho)) (fun _ _ q => cN_S ho q) (ix := cx) (fun _ q => cx_lt ho q) (fun _ _ q q' => cx_inj ho q q') h
theorem cB_is (ho : ge_ok X Y n) {x : Nat} (h : cS X Y Z n l x) : ∃ k, k < 120 ∧ cr_is (cB X Y Z n l) x k :=
  cr_ex (cr_injB (c_inv ho)) (fun _ _ q => cB_S ho q) (ix := cx) (fun _ q => cx_lt ho q) (fun _ _ q q' => cx_inj ho q q') h
end
/-! the contour of a crossing -/
section
variable (X Y Z : Nat → Int) (n : Nat) (l : Int)
noncomputable def bg (x : Nat) : Nat := Classical.epsilon (fun f => cr_beg (cB X Y Z n l) x f)
noncomputable def ln (x : Nat) : Nat := Classical.epsilon (fun m => cr_is (cN X Y Z n l) (bg X Y Z n l x) m)
/-- a list of contours: how many, where each begins, the crossings, which are rings -/
abbrev Ct : Type := Nat × (Nat → Nat) × (Nat → Nat) × (Nat → Prop)
noncomputable def ct_add (s : Ct) (x : Nat) : Ct := (s.1 + 1, fun k => if k = s.1 + 1 then s.2.1 s.1 + (ln X Y Z n l x + 1) else s.2.1 k,
  fun i => if i < s.2.1 s.1 then s.2.2.1 i else (cr_w (cN X Y Z n l) (i - s.2.1 s.1) (bg X Y Z n l x)).getD 0, fun k => if k = s.1 then cB X Y Z n l (bg X Y Z n l x) ≠ none else s.2.2.2 k)
def ct_T (s : Ct) (x : Nat) : Prop := ∃ i, i < s.2.1 s.1 ∧ s.2.2.1 i = x
/-- the crossing of an edge, as the class has it -/
noncomputable def hc (e : Nat) : Nat := @ite _ (hi Z l (e / 16)) (Classical.propDecidable _) e (16 * (e % 16) + e / 16)
noncomputable def ct : Nat → Ct
  | 0 => (0, fun _ => 0, fun _ => 0, fun _ => False)
  | e + 1 => @ite _ (e / 16 < e % 16 ∧ cS X Y Z n l (hc Z l e) ∧ ¬ ct_T (ct e) (hc Z l e)) (Classical.propDecidable _) (ct_add X Y Z n l (ct e) (hc Z l e)) (ct e)
end
section
variable {X Y Z : Nat → Int} {n : Nat} {l : Int}
theorem bg_ok (ho : ge_ok X Y n) {x : Nat} (h : cS X Y Z n l x) : cr_beg (cB X Y Z n l) x (bg X Y Z n l x) := by
  obtain ⟨k, -, hk⟩ := cB_is ho h
  exact Classical.epsilon_spec (cr_beg_ex hk)
theorem cr_w_S {F : Nat → Option Nat} {S : Nat → Prop} (hF : ∀ a b, F a = some b → S b) : ∀ (i : Nat) {x y : Nat}, S x → cr_w F i x = some y → S y := by
  intro i
  induction i with
  | zero => intro x y h e; cases e; exact h
  | succ i ih => intro x y h e; obtain ⟨z, z1, z2⟩ := cr_w_p e; exact hF _ _ z2
theorem bg_S (ho : ge_ok X Y n) {x : Nat} (h : cS X Y Z n l x) : cS X Y Z n l (bg X Y Z n l x) := by
  obtain ⟨k, -, k2⟩ := bg_ok ho h
  rcases k2 with ⟨y, y1, -, e⟩ | ⟨y, y1, -, e⟩
  · rw [e]; exact cr_w_S (fun _ _ q => cB_S ho q) k h y1
  · rw [e]; exact h
theorem ln_ok (ho : ge_ok X Y n) {x : Nat} (h : cS X Y Z n l x) : cr_is (cN X Y Z n l) (bg X Y Z n l x) (ln X Y Z n l x) := by
  obtain ⟨k, -, hk⟩ := cN_is ho (bg_S ho h)
  exact Classical.epsilon_spec (p := fun m => cr_is (cN X Y Z n l) (bg X Y Z n l x) m) ⟨k, hk⟩
/-- what holds of the list as it grows -/
def ct_ok (X Y Z : Nat → Int) (n : Nat) (l : Int) (s : Ct) : Prop := s.2.1 0 = 0 ∧
  (∀ k, k < s.1 → ∃ m, cr_is (cN X Y Z n l) (s.2.2.1 (s.2.1 k)) m ∧ s.2.1 (k + 1) = s.2.1 k + (m + 1) ∧ (∀ j, j ≤ m → cr_w (cN X Y Z n l) j (s.2.2.1 (s.2.1 k)) = some (s.2.2.1 (s.2.1 k + j))) ∧ (s.2.2.2 k ↔ cB X Y Z n l (s.2.2.1 (s.2.1 k)) ≠ none)) ∧
  (∀ i j, i < j → j < s.2.1 s.1 → s.2.2.1 i ≠ s.2.2.1 j) ∧ (∀ i, i < s.2.1 s.1 → cS X Y Z n l (s.2.2.1 i)) ∧ cr_cl (cN X Y Z n l) (ct_T s)
theorem ct_mono {s : Ct} (h : ct_ok X Y Z n l s) : ∀ (d k : Nat), k + d ≤ s.1 → s.2.1 k + d ≤ s.2.1 (k + d) := by
  intro d
  induction d with
  | zero => intro k _; exact Nat.le_refl _
  | succ d ih =>
    intro k hk
    have a := ih k (by omega)
    obtain ⟨m, -, e, -⟩ := h.2.1 (k + d) (by omega)
    rw [show k + (d + 1) = (k + d) + 1 by omega, e]
    omega
theorem ct_le {s : Ct} (h : ct_ok X Y Z n l s) {k k' : Nat} (hk : k ≤ k') (hk' : k' ≤ s.1) : s.2.1 k ≤ s.2.1 k' := by
  have := ct_mono h (k' - k) k (by omega)
  rw [show k + (k' - k) = k' by omega] at this
  omega
theorem ct_120 (ho : ge_ok X Y n) {s : Ct} (h : ct_ok X Y Z n l s) : s.2.1 s.1 ≤ 120 ∧ s.1 ≤ s.2.1 s.1 := by
  constructor
  · exact cr_php 120 _ (fun i => cx (s.2.2.1 i)) (fun i hi => cx_lt ho (h.2.2.2.1 i hi)) (fun i j hij hj e => h.2.2.1 i j hij hj (cx_inj ho (h.2.2.2.1 i (by omega)) (h.2.2.2.1 j hj) e))
  · have := ct_mono h s.1 0 (by omega)
    rw [Nat.zero_add] at this
    omega
theorem ct_add_ok (ho : ge_ok X Y n) {s : Ct} {x : Nat} (h : ct_ok X Y Z n l s) (hx : cS X Y Z n l x) (nt : ¬ ct_T s x) : ct_ok X Y Z n l (ct_add X Y Z n l s x) ∧ ∀ z, ct_T (ct_add X Y Z n l s x) z ↔ (ct_T s z ∨ ∃ j, j ≤ ln X Y Z n l x ∧ cr_w (cN X Y Z n l) j (bg X Y Z n l x) = some z) := by
  obtain ⟨c, O, F, G⟩ := s
  obtain ⟨h1, h2, h3, h4, h5⟩ := id h
  have hb := bg_ok ho hx
  have hl := ln_ok ho hx
  have hm := fun k (hk : k ≤ c) => ct_le h hk (Nat.le_refl c)
  try dsimp only at h1 h2 h3 h4 h5 hm
  have out : ¬ ct_T (c, O, F, G) (bg X Y Z n l x) := cr_beg_out (c_inv ho) h5 nt hb
  -- the walk, place by place
  have wk : ∀ j, j ≤ ln X Y Z n l x → ∃ y, cr_w (cN X Y Z n l) j (bg X Y Z n l x) = some y := fun j hj => by
    obtain ⟨⟨y, y1, -⟩, -⟩ := hl
    have : ln X Y Z n l x = j + (ln X Y Z n l x - j) := by omega
    rw [this] at y1
    exact cr_w_le _ _ y1
  generalize hm9 : ln X Y Z n l x = m at *
  generalize hf9 : bg X Y Z n l x = f at *
  have eO : ∀ k, k ≤ c → (ct_add X Y Z n l (c, O, F, G) x).2.1 k = O k := fun k hk => if_neg (by omega)
  have eO1 : (ct_add X Y Z n l (c, O, F, G) x).2.1 (c + 1) = O c + (m + 1) := by rw [← hm9]; exact if_pos rfl
  have eF : ∀ i, i < O c → (ct_add X Y Z n l (c, O, F, G) x).2.2.1 i = F i := fun i hi => if_pos hi
  have eF1 : ∀ j y, cr_w (cN X Y Z n l) j f = some y → (ct_add X Y Z n l (c, O, F, G) x).2.2.1 (O c + j) = y := fun j y e => by
    have : (ct_add X Y Z n l (c, O, F, G) x).2.2.1 (O c + j) = (cr_w (cN X Y Z n l) ((O c + j) - O c) (bg X Y Z n l x)).getD 0 := if_neg (show ¬ (O c + j < O c) by omega)
    rw [this, hf9, Nat.add_sub_cancel_left, e]; rfl
  have e1 : (ct_add X Y Z n l (c, O, F, G) x).1 = c + 1 := rfl
  have eT : ∀ z, ct_T (ct_add X Y Z n l (c, O, F, G) x) z ↔ (ct_T (c, O, F, G) z ∨ ∃ j, j ≤ m ∧ cr_w (cN X Y Z n l) j f = some z) := fun z => by
    unfold ct_T
    rw [e1, eO1]
    constructor
    · rintro ⟨i, i1, i2⟩
      rcases Nat.lt_or_ge i (O c) with q | q
      · rw [eF i q] at i2; exact Or.inl ⟨i, q, i2⟩
      · obtain ⟨j, rfl⟩ : ∃ j, i = O c + j := ⟨i - O c, by omega⟩
        obtain ⟨y, hy⟩ := wk j (by omega)
        rw [eF1 j y hy] at i2
        exact Or.inr ⟨j, by omega, by rw [hy, i2]⟩
    · rintro (⟨i, i1, i2⟩ | ⟨j, j1, j2⟩)
      · exact ⟨i, by dsimp only at i1; omega, by rw [eF i i1]; exact i2⟩
      · exact ⟨O c + j, by omega, eF1 j z j2⟩
  have outw : ∀ j y, cr_w (cN X Y Z n l) j f = some y → ¬ ct_T (c, O, F, G) y := fun j y e q => out ((cr_cl_w h5 j e).mpr q)
  refine ⟨⟨?_, fun k hk => ?_, fun i j hij hj => ?_, fun i hi => ?_, ?_⟩, eT⟩
  · rw [eO 0 (by omega)]; exact h1
  · rw [e1] at hk
    by_cases e : k = c
    · subst e
      refine ⟨m, ?_⟩
      have e0 : (ct_add X Y Z n l (k, O, F, G) x).2.2.1 (O k) = f := by have := eF1 0 f rfl; rw [Nat.add_zero] at this; exact this
      rw [eO k (Nat.le_refl _), eO1, e0]
      refine ⟨hl, rfl, fun j hj => ?_, ?_⟩
      · obtain ⟨y, hy⟩ := wk j hj
        rw [eF1 j y hy]; exact hy
      · have : (ct_add X Y Z n l (k, O, F, G) x).2.2.2 k = (cB X Y Z n l (bg X Y Z n l x) ≠ none) := if_pos rfl
        rw [this, hf9]
    · have hk' : k < c := by omega
      obtain ⟨m', a1, a2, a3, a4⟩ := h2 k hk'
      have b1 := hm (k + 1) (by omega)
      refine ⟨m', ?_⟩
      rw [eO k (by omega), eO (k + 1) (by omega), eF (O k) (by omega)]
      refine ⟨a1, a2, fun j hj => ?_, ?_⟩
      · rw [eF (O k + j) (by omega)]; exact a3 j hj
      · have : (ct_add X Y Z n l (c, O, F, G) x).2.2.2 k = G k := if_neg e
        rw [this]; exact a4
  · rw [e1, eO1] at hj
    rcases Nat.lt_or_ge j (O c) with q | q
    · rw [eF i (by omega), eF j q]; exact h3 i j hij q
    · obtain ⟨j', rfl⟩ : ∃ j', j = O c + j' := ⟨j - O c, by omega⟩
      obtain ⟨y, hy⟩ := wk j' (by omega)
      rw [eF1 j' y hy]
      rcases Nat.lt_or_ge i (O c) with q' | q'
      · rw [eF i q']
        intro e
        exact outw j' y hy ⟨i, q', e⟩
      · obtain ⟨i', rfl⟩ : ∃ i', i = O c + i' := ⟨i - O c, by omega⟩
        obtain ⟨y', hy'⟩ := wk i' (by omega)
        rw [eF1 i' y' hy']
        intro e
        subst e
        exact cr_new (cr_injN (c_inv ho)) hl.2 (show i' < j' by omega) (by omega) hy' hy
  · rw [e1, eO1] at hi
    rcases Nat.lt_or_ge i (O c) with q | q
    · rw [eF i q]; exact h4 i q
    · obtain ⟨j, rfl⟩ : ∃ j, i = O c + j := ⟨i - O c, by omega⟩
      obtain ⟨y, hy⟩ := wk j (by omega)
      rw [eF1 j y hy]
      exact cr_w_S (fun _ _ q => cN_S ho q) j (by rw [← hf9]; exact bg_S ho hx) hy
  · have := cr_cl_add (c_inv ho) h5 hb hl
    intro a b e
    rw [eT a, eT b]
    exact this a b e
theorem ct_all (ho : ge_ok X Y n) : ∀ e, ct_ok X Y Z n l (ct X Y Z n l e) := by
  intro e
  induction e with
  | zero => exact ⟨rfl, fun k hk => absurd hk (Nat.not_lt_zero _), fun i j _ hj => absurd hj (Nat.not_lt_zero _), fun i hi => absurd hi (Nat.not_lt_zero _), fun x y _ => ⟨fun ⟨i, i1, _⟩ => absurd i1 (Nat.not_lt_zero _), fun ⟨i, i1, _⟩ => absurd i1 (Nat.not_lt_zero _)⟩⟩
  | succ e ih =>
    by_cases q : e / 16 < e % 16 ∧ cS X Y Z n l (hc Z l e) ∧ ¬ ct_T (ct X Y Z n l e) (hc Z l e)
    · have : ct X Y Z n l (e + 1) = ct_add X Y Z n l (ct X Y Z n l e) (hc Z l e) := @if_pos _ (Classical.propDecidable _) q _ _ _
      rw [this]
      exact (ct_add_ok ho ih q.2.1 q.2.2).1
    · have : ct X Y Z n l (e + 1) = ct X Y Z n l e := @if_neg _ (Classical.propDecidable _) q _ _ _
      rw [this]; exact ih
theorem ct_s1 {e : Nat} (q : e / 16 < e % 16 ∧ cS X Y Z n l (hc Z l e) ∧ ¬ ct_T (ct X Y Z n l e) (hc Z l e)) : ct X Y Z n l (e + 1) = ct_add X Y Z n l (ct X Y Z n l e) (hc Z l e) := @if_pos _ (Classical.propDecidable _) q _ _ _
theorem ct_s0 {e : Nat} (q : ¬ (e / 16 < e % 16 ∧ cS X Y Z n l (hc Z l e) ∧ ¬ ct_T (ct X Y Z n l e) (hc Z l e))) : ct X Y Z n l (e + 1) = ct X Y Z n l e := @if_neg _ (Classical.propDecidable _) q _ _ _
theorem ct_sk {e : Nat} : ∀ d, (∀ x, e ≤ x → x < e + d → ¬ (x / 16 < x % 16 ∧ cS X Y Z n l (hc Z l x))) → ct X Y Z n l (e + d) = ct X Y Z n l e := by
  intro d
  induction d with
  | zero => intro _; rfl
  | succ d ih =>
    intro h
    show ct X Y Z n l ((e + d) + 1) = _
    rw [ct_s0 (fun q => h (e + d) (by omega) (by omega) ⟨q.1, q.2.1⟩)]
    exact ih (fun x h1 h2 => h x h1 (by omega))
theorem ct_skip {e e' : Nat} (he : e ≤ e') (h : ∀ x, e ≤ x → x < e' → ¬ (x / 16 < x % 16 ∧ cS X Y Z n l (hc Z l x))) : ct X Y Z n l e' = ct X Y Z n l e := by
  obtain ⟨d, rfl⟩ : ∃ d, e' = e + d := ⟨e' - e, by omega⟩
  exact ct_sk d h
end
