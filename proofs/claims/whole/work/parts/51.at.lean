/-! The height at a place, on both sides. -/
def sgn (t : Int) : Int := if 0 < t then 1 else -1
theorem sgn_t {t : Int} (h : t ≠ 0) : 0 < sgn t * t := by
  unfold sgn; split
  · omega
  · omega
theorem ge_p_sum (X Y : Nat → Int) (a b c : Nat) (x y : Int) : ge_p X Y b c x y + ge_p X Y c a x y + ge_p X Y a b x y = ge_t X Y a b c := by
  unfold ge_p ge_t; grind
theorem ge_p_x (X Y : Nat → Int) (a b c : Nat) (x y : Int) : ge_p X Y b c x y * X a + ge_p X Y c a x y * X b + ge_p X Y a b x y * X c = ge_t X Y a b c * x := by
  unfold ge_p ge_t; grind
theorem ge_p_y (X Y : Nat → Int) (a b c : Nat) (x y : Int) : ge_p X Y b c x y * Y a + ge_p X Y c a x y * Y b + ge_p X Y a b x y * Y c = ge_t X Y a b c * y := by
  unfold ge_p ge_t; grind
/-- the place is in the triangle -/
def inT (X Y : Nat → Int) (a b c : Nat) (x y : Int) : Prop := 0 ≤ sgn (ge_t X Y a b c) * ge_p X Y b c x y ∧ 0 ≤ sgn (ge_t X Y a b c) * ge_p X Y c a x y ∧ 0 ≤ sgn (ge_t X Y a b c) * ge_p X Y a b x y
def htT (X Y Z : Nat → Int) (a b c : Nat) (x y : Int) : Int := (sgn (ge_t X Y a b c) * ge_p X Y b c x y * Z a + sgn (ge_t X Y a b c) * ge_p X Y c a x y * Z b + sgn (ge_t X Y a b c) * ge_p X Y a b x y * Z c) / (sgn (ge_t X Y a b c) * ge_p X Y b c x y + sgn (ge_t X Y a b c) * ge_p X Y c a x y + sgn (ge_t X Y a b c) * ge_p X Y a b x y)
/-- numbers between 0 and m, by weights -/
theorem wt_b {u v w p q r m : Int} (hu : 0 ≤ u) (hv : 0 ≤ v) (hw : 0 ≤ w) (hp : 0 ≤ p ∧ p ≤ m) (hq : 0 ≤ q ∧ q ≤ m) (hr : 0 ≤ r ∧ r ≤ m) : 0 ≤ u * p + v * q + w * r ∧ u * p + v * q + w * r ≤ m * (u + v + w) := by
  have a1 := Int.mul_nonneg hu hp.1
  have a2 := Int.mul_nonneg hv hq.1
  have a3 := Int.mul_nonneg hw hr.1
  have b1 := Int.mul_nonneg hu (show 0 ≤ m - p by omega)
  have b2 := Int.mul_nonneg hv (show 0 ≤ m - q by omega)
  have b3 := Int.mul_nonneg hw (show 0 ≤ m - r by omega)
  rw [Int.mul_sub] at b1 b2 b3
  rw [Int.mul_add, Int.mul_add, Int.mul_comm m u, Int.mul_comm m v, Int.mul_comm m w]
  omega
section
variable {X Y Z : Nat → Int} {a b c : Nat} {x y : Int}
theorem inT_all (ht : ge_t X Y a b c ≠ 0) : 0 < sgn (ge_t X Y a b c) * ge_p X Y b c x y + sgn (ge_t X Y a b c) * ge_p X Y c a x y + sgn (ge_t X Y a b c) * ge_p X Y a b x y ∧ sgn (ge_t X Y a b c) * ge_p X Y b c x y + sgn (ge_t X Y a b c) * ge_p X Y c a x y + sgn (ge_t X Y a b c) * ge_p X Y a b x y = sgn (ge_t X Y a b c) * ge_t X Y a b c := by
  have e := ge_p_sum X Y a b c x y
  have s := sgn_t ht
  have e2 : sgn (ge_t X Y a b c) * ge_p X Y b c x y + sgn (ge_t X Y a b c) * ge_p X Y c a x y + sgn (ge_t X Y a b c) * ge_p X Y a b x y = sgn (ge_t X Y a b c) * ge_t X Y a b c := by
    rw [← Int.mul_add, ← Int.mul_add, e]
  exact ⟨by omega, e2⟩
theorem inT_map (ht : ge_t X Y a b c ≠ 0) (ha : 0 ≤ X a ∧ X a ≤ 63 ∧ 0 ≤ Y a ∧ Y a ≤ 63) (hb : 0 ≤ X b ∧ X b ≤ 63 ∧ 0 ≤ Y b ∧ Y b ≤ 63) (hc : 0 ≤ X c ∧ X c ≤ 63 ∧ 0 ≤ Y c ∧ Y c ≤ 63) (h : inT X Y a b c x y) : (0 ≤ x ∧ x ≤ 63) ∧ 0 ≤ y ∧ y ≤ 63 := by
  obtain ⟨h1, h2, h3⟩ := h
  obtain ⟨s1, s2⟩ := inT_all (x := x) (y := y) ht
  have ex := ge_p_x X Y a b c x y
  have ey := ge_p_y X Y a b c x y
  generalize hs : sgn (ge_t X Y a b c) = s at *
  generalize hpa : ge_p X Y b c x y = pa at *
  generalize hpb : ge_p X Y c a x y = pb at *
  generalize hpc : ge_p X Y a b x y = pc at *
  have wx := wt_b h1 h2 h3 (p := X a) (q := X b) (r := X c) (m := 63) ⟨by omega, by omega⟩ ⟨by omega, by omega⟩ ⟨by omega, by omega⟩
  have wy := wt_b h1 h2 h3 (p := Y a) (q := Y b) (r := Y c) (m := 63) ⟨by omega, by omega⟩ ⟨by omega, by omega⟩ ⟨by omega, by omega⟩
  have gx : s * pa * X a + s * pb * X b + s * pc * X c = (s * ge_t X Y a b c) * x := by
    rw [Int.mul_assoc, Int.mul_assoc, Int.mul_assoc, Int.mul_assoc, ← Int.mul_add, ← Int.mul_add, ex]
  have gy : s * pa * Y a + s * pb * Y b + s * pc * Y c = (s * ge_t X Y a b c) * y := by
    rw [Int.mul_assoc, Int.mul_assoc, Int.mul_assoc, Int.mul_assoc, ← Int.mul_add, ← Int.mul_add, ey]
  rw [gx, s2] at wx
  rw [gy, s2] at wy
  rw [s2] at s1
  generalize s * ge_t X Y a b c = T at *
  have lo : ∀ {z : Int}, 0 ≤ T * z → 0 ≤ z := fun {z} q => Classical.byContradiction fun w => by
    have := Int.mul_neg_of_pos_of_neg s1 (show z < 0 by omega)
    omega
  have up : ∀ {z : Int}, T * z ≤ 63 * T → z ≤ 63 := fun {z} q => Classical.byContradiction fun w => by
    have := Int.mul_pos s1 (show 0 < z - 63 by omega)
    rw [Int.mul_sub, Int.mul_comm T 63] at this
    omega
  exact ⟨⟨lo wx.1, up wx.2⟩, lo wy.1, up wy.2⟩
theorem htT_b (ht : ge_t X Y a b c ≠ 0) (ha : 0 ≤ Z a ∧ Z a ≤ 999) (hb : 0 ≤ Z b ∧ Z b ≤ 999) (hc : 0 ≤ Z c ∧ Z c ≤ 999) (h : inT X Y a b c x y) : 0 ≤ htT X Y Z a b c x y ∧ htT X Y Z a b c x y ≤ 999 := by
  obtain ⟨h1, h2, h3⟩ := h
  obtain ⟨s1, -⟩ := inT_all (x := x) (y := y) ht
  have w := wt_b h1 h2 h3 ha hb hc
  unfold htT
  exact ⟨Int.ediv_nonneg w.1 (by omega), Int.ediv_le_of_le_mul s1 w.2⟩
end
section
variable {g : St} {n : Nat} {X Y Z : Nat → Int} {x y : Int}
theorem me_corner {L : List Nat} {t j : Nat} {xj : Int32} {post : Int32 → St → Prop} (hm : mC X Y L g) (hL : L.length ≤ 27) (ht : t < L.length) (hj : j < 3) (hx : xj = nI j) (h : post (nI (if j = 0 then L.getD t 0 / 256 else if j = 1 then L.getD t 0 / 16 % 16 else L.getD t 0 % 16)) g) : wp_me_cornerOf (nI t) xj g post := by
  obtain ⟨-, m2, -⟩ := hm
  obtain ⟨q1, q2, q3⟩ := m2 t ht
  unfold wp_me_cornerOf
  try dsimp only
  rw [hx, pk3 (by omega), ix_nI (by omega)]
  refine ⟨vp_in_nI (by omega) (by omega), ?_⟩
  have : j = 0 ∨ j = 1 ∨ j = 2 := by omega
  rcases this with rfl | rfl | rfl
  · rw [Nat.add_zero, q1]; exact h
  · rw [q2]; exact h
  · rw [q3]; exact h
/-- products of small numbers -/
theorem sm_b {u z : Int} (h1 : 0 ≤ u) (h2 : u ≤ 7938) (h3 : 0 ≤ z) (h4 : z ≤ 999) : 0 ≤ u * z ∧ u * z ≤ 7930062 := by
  have a := Int.mul_nonneg h1 h3
  have b := Int.mul_nonneg h1 (show 0 ≤ 999 - z by omega)
  rw [Int.mul_sub] at b
  omega
theorem ge_p_b (ho : ge_ok X Y n) {a b : Nat} (ha : a < n) (hb : b < n) (hx : 0 ≤ x ∧ x ≤ 63) (hy : 0 ≤ y ∧ y ≤ 63) : -7938 ≤ ge_p X Y a b x y ∧ ge_p X Y a b x y ≤ 7938 := by
  obtain ⟨a1, a2, a3, a4⟩ := ho.2.1 a ha
  obtain ⟨b1, b2, b3, b4⟩ := ho.2.1 b hb
  have p := ge_mb (x := X b - X a) (y := y - Y a) (by omega) (by omega) (by omega) (by omega)
  have q := ge_mb (x := Y b - Y a) (y := x - X a) (by omega) (by omega) (by omega) (by omega)
  unfold ge_p
  omega
theorem sg_b {s p M : Int} (hs : s = 1 ∨ s = -1) (h1 : -M ≤ p) (h2 : p ≤ M) : -M ≤ s * p ∧ s * p ≤ M := by
  rcases hs with rfl | rfl
  · rw [Int.one_mul]; omega
  · rw [Int.neg_mul, Int.one_mul]; omega
theorem sgn_or (t : Int) : sgn t = 1 ∨ sgn t = -1 := by unfold sgn; split <;> simp
theorem me_heightIn {L : List Nat} {t : Nat} {post : Int32 → St → Prop} (hS : sC g n X Y Z) (hm : mC X Y L g) (hL : L.length ≤ 27) (ht : t < L.length) (hT : ge_tri X Y n (L.getD t 0 / 256) (L.getD t 0 / 16 % 16) (L.getD t 0 % 16)) (hx : 0 ≤ x ∧ x ≤ 63) (hy : 0 ≤ y ∧ y ≤ 63)
    (h0 : ¬ inT X Y (L.getD t 0 / 256) (L.getD t 0 / 16 % 16) (L.getD t 0 % 16) x y → post (-1) g)
    (h1 : inT X Y (L.getD t 0 / 256) (L.getD t 0 / 16 % 16) (L.getD t 0 % 16) x y → post (iI (htT X Y Z (L.getD t 0 / 256) (L.getD t 0 / 16 % 16) (L.getD t 0 % 16) x y)) g) : wp_me_heightIn (nI t) (iI x) (iI y) g post := by
  have c0 := fun {P : Int32 → St → Prop} => me_corner (t := t) (j := 0) (xj := 0) (post := P) hm hL ht (by omega) rfl
  have c1 := fun {P : Int32 → St → Prop} => me_corner (t := t) (j := 1) (xj := 1) (post := P) hm hL ht (by omega) rfl
  have c2 := fun {P : Int32 → St → Prop} => me_corner (t := t) (j := 2) (xj := 2) (post := P) hm hL ht (by omega) rfl
  simp only [if_true, Nat.one_ne_zero, if_false, show (2 : Nat) ≠ 0 by decide, show (2 : Nat) ≠ 1 by decide] at c0 c1 c2
  generalize L.getD t 0 / 256 = a at *
  generalize L.getD t 0 / 16 % 16 = b at *
  generalize L.getD t 0 % 16 = c at *
  have hc := hT.2.2.1
  have hb : b < n := by have := hT.2.1; omega
  have ha : a < n := by have := hT.1; omega
  have ho := hS.1
  have t0 := hT.2.2.2.1
  have bt := ge_tb ho ha hb hc
  have p1 := ge_p_b ho hb hc hx hy
  have p2 := ge_p_b ho hc ha hx hy
  have p3 := ge_p_b ho ha hb hx hy
  obtain ⟨-, -, e3⟩ := hS.2.2.2 a ha
  obtain ⟨-, -, f3⟩ := hS.2.2.2 b hb
  obtain ⟨-, -, g3⟩ := hS.2.2.2 c hc
  have za := hS.2.1 a ha
  have zb := hS.2.1 b hb
  have zc := hS.2.1 c hc
  have J : ∀ s : Int, s = sgn (ge_t X Y a b c) → jn_me_heightIn_J42 (iI x) (iI y) (nI a) (nI b) (nI c) (iI s) g post := by
    intro s hs
    have so := sgn_or (ge_t X Y a b c)
    rw [← hs] at so
    have q1 := sg_b so p1.1 p1.2
    have q2 := sg_b so p2.1 p2.2
    have q3 := sg_b so p3.1 p3.2
    have al := inT_all (x := x) (y := y) t0
    have at2 := sgn_t t0
    have tb := sg_b (sgn_or (ge_t X Y a b c)) (ge_t_b ho ha hb hc).1 (ge_t_b ho ha hb hc).2
    unfold inT at h0 h1
    unfold htT at h1
    rw [← hs] at h0 h1 al at2 tb
    generalize hu : s * ge_p X Y b c x y = u at *
    generalize hv : s * ge_p X Y c a x y = v at *
    generalize hw : s * ge_p X Y a b x y = w at *
    unfold jn_me_heightIn_J42
    refine sp_turnTo hS hb hc (sp_turnTo hS hc ha (sp_turnTo hS ha hb ?_))
    try dsimp only
    rw [iI_mul, iI_mul, iI_mul, hu, hv, hw, iI_add, iI_add]
    have l : ∀ {k : Int}, -7938 ≤ k → k ≤ 7938 → (iI k < 0 ↔ k < 0) := fun {k} k1 k2 => by rw [← iI_0, iI_lt (by omega) (by omega) (by omega) (by omega)]
    rw [l q1.1 q1.2, l q2.1 q2.2, l q3.1 q3.2]
    refine ⟨fun k => h0 (fun z => by omega), fun k1 => ⟨fun k => h0 (fun z => by omega), fun k2 => ⟨fun k => h0 (fun z => by omega), fun k3 => ⟨fun _ => ?_, fun k => ?_⟩⟩⟩⟩
    · have s1 := sm_b (u := u) (z := Z a) (by omega) (by omega) za.1 za.2
      have s2 := sm_b (u := v) (z := Z b) (by omega) (by omega) zb.1 zb.2
      have s3 := sm_b (u := w) (z := Z c) (by omega) (by omega) zc.1 zc.2
      unfold wp_sp_height
      try dsimp only
      rw [hS.ix ha, hS.ix hb, hS.ix hc, e3, f3, g3, iI_mul, iI_mul, iI_mul, iI_add, iI_add]
      exact ⟨hS.v16 ha, hS.v16 hb, hS.v16 hc, sp_fdiv (by omega) (by omega) (by omega) (by omega) (h1 ⟨by omega, by omega, by omega⟩)⟩
    · rw [← iI_0, iI_eq (by omega) (by omega) (by omega) (by omega)] at k; omega
  unfold wp_me_heightIn
  refine c0 (c1 (c2 (sp_turn hS ha hb hc ⟨fun k => ?_, fun k => ?_⟩)))
  · rw [← iI_0, iI_le bt.1 bt.2 (by omega) (by omega)] at k
    have j := J (-1) (by unfold sgn; rw [if_neg (by omega)])
    rw [iI_m1] at j
    exact j
  · rw [← iI_0, iI_le bt.1 bt.2 (by omega) (by omega)] at k
    have j := J 1 (by unfold sgn; rw [if_pos (by omega)])
    rw [iI_1] at j
    exact j
/-- triangle t of the list holds the place -/
def inL (X Y : Nat → Int) (L : List Nat) (t : Nat) (x y : Int) : Prop := inT X Y (L.getD t 0 / 256) (L.getD t 0 / 16 % 16) (L.getD t 0 % 16) x y
def htL (X Y Z : Nat → Int) (L : List Nat) (t : Nat) (x y : Int) : Int := htT X Y Z (L.getD t 0 / 256) (L.getD t 0 / 16 % 16) (L.getD t 0 % 16) x y
theorem me_heightAt {post : Int32 → St → Prop} (hS : sC g n X Y Z) (hm : mC X Y (tl X Y n 4096) g) (hx : 0 ≤ x ∧ x ≤ 63) (hy : 0 ≤ y ∧ y ≤ 63)
    (h0 : (∀ t, t < (tl X Y n 4096).length → ¬ inL X Y (tl X Y n 4096) t x y) → post (-1) g)
    (h1 : ∀ t, t < (tl X Y n 4096).length → inL X Y (tl X Y n 4096) t x y → (∀ s, s < t → ¬ inL X Y (tl X Y n 4096) s x y) → post (iI (htL X Y Z (tl X Y n 4096) t x y)) g) : wp_me_heightAt (iI x) (iI y) g post := by
  have L27 := tl_27 (k := 4096) hS.1
  unfold wp_me_heightAt
  have loop : ∀ m i, i + m = (tl X Y n 4096).length → (∀ s, s < i → ¬ inL X Y (tl X Y n 4096) s x y) → lp_me_heightAt_L3 (m + 1) (iI x) (iI y) (nI i) g (fun g3 => (post (-1) g3)) post := by
    intro m
    induction m with
    | zero =>
      intro i hi hd
      unfold lp_me_heightAt_L3
      rw [hm.1]
      exact ⟨fun _ => h0 (fun t ht => hd t (by omega)), fun k => absurd ((nI_leI (by omega) (by omega)).mpr (by omega)) k⟩
    | succ m ih =>
      intro i hi hd
      have hil : i < (tl X Y n 4096).length := by omega
      unfold lp_me_heightAt_L3
      rw [hm.1]
      refine ⟨fun k => absurd ((nI_leI (by omega) (by omega)).mp k) (by omega), fun _ => ?_⟩
      have T := (tl_get hil).2
      refine me_heightIn hS hm L27 hil T hx hy (fun k => ⟨fun _ => ?_, fun q => absurd rfl q⟩) (fun k => ⟨fun q => ?_, fun _ => h1 i hil k hd⟩)
      · rw [nI_1]
        refine ih (i + 1) (by omega) (fun s hs => ?_)
        by_cases e : s = i
        · rw [e]; exact k
        · exact hd s (by omega)
      · have hc := T.2.2.1
        have hb := T.2.1
        have ha := T.1
        have bb := htT_b (Z := Z) T.2.2.2.1 (hS.2.1 _ (by omega)) (hS.2.1 _ (by omega)) (hS.2.1 _ hc) k
        rw [← iI_m1, iI_eq (by omega) (by omega) (by omega) (by omega)] at q
        omega
  exact ⟨(tl X Y n 4096).length + 1, loop (tl X Y n 4096).length 0 (by omega) (fun s hs => absurd hs (by omega))⟩
end
