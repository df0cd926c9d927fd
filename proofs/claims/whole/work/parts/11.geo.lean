/-! Geometry of promise 4, whole numbers alone: the empty circle rule, read as the sign of ONE determinant over a lift whose ties are broken by weights; two triangles to the right of one directed edge are one; at most 27 triangles. Nothing here speaks of the machine. -/
section
variable (X Y : Nat → Int)
/-- the turn of three spots -/
def ge_t (X Y : Nat → Int) (a b c : Nat) : Int := (X b - X a) * (Y c - Y a) - (Y b - Y a) * (X c - X a)
/-- the square of a distance -/
def ge_q (X Y : Nat → Int) (a b : Nat) : Int := (X a - X b) * (X a - X b) + (Y a - Y b) * (Y a - Y b)
/-- the circle's determinant -/
def ge_i (X Y : Nat → Int) (a b c d : Nat) : Int := ge_q X Y a d * ge_t X Y d b c - ge_q X Y b d * ge_t X Y d a c + ge_q X Y c d * ge_t X Y d a b
/-- the determinant of four lifted places -/
def ge_D (X Y : Nat → Int) (L : Nat → Int) (a b c d : Nat) : Int := L a * ge_t X Y b c d - L b * ge_t X Y a c d + L c * ge_t X Y a b d - L d * ge_t X Y a b c
def ge_K : Int := 40000 ^ 18
def ge_w (v : Nat) : Int := 40000 ^ (17 - v)
/-- the lift, with the weights that break ties -/
def ge_L (X Y : Nat → Int) (v : Nat) : Int := ge_K * (X v * X v + Y v * Y v) + ge_w v
def ge_E (X Y : Nat → Int) (a b c d : Nat) : Int := ge_D X Y (ge_L X Y) a b c d
def ge_dep (X Y : Nat → Int) (a b c d : Nat) : Int := if 0 < ge_t X Y a b c then ge_i X Y a b c d else -ge_i X Y a b c d
/-- d is in the circle through a < b < c -/
def ge_In (X Y : Nat → Int) (a b c d : Nat) : Prop := 0 < ge_dep X Y a b c d ∨ (ge_dep X Y a b c d = 0 ∧ a < d ∧ ((0 < ge_t X Y a d b) ↔ (0 < ge_t X Y a d c)))
/-- d is out of the circle through a, b, c, whatever their order -/
def ge_out (X Y : Nat → Int) (a b c d : Nat) : Prop := (0 < ge_t X Y a b c → ge_E X Y a b c d < 0) ∧ (ge_t X Y a b c < 0 → 0 < ge_E X Y a b c d)
/-- n spots, as the document has them -/
def ge_ok (X Y : Nat → Int) (n : Nat) : Prop := n ≤ 16 ∧ (∀ v, v < n → 0 ≤ X v ∧ X v ≤ 63 ∧ 0 ≤ Y v ∧ Y v ≤ 63) ∧ ∀ u v, u < n → v < n → X u = X v → Y u = Y v → u = v
def ge_tri (X Y : Nat → Int) (n a b c : Nat) : Prop := a < b ∧ b < c ∧ c < n ∧ ge_t X Y a b c ≠ 0 ∧ ∀ d, d < n → d ≠ a → d ≠ b → d ≠ c → ¬ ge_In X Y a b c d
/-- the same, whatever the order -/
def ge_T (X Y : Nat → Int) (n a b c : Nat) : Prop := a < n ∧ b < n ∧ c < n ∧ ge_t X Y a b c ≠ 0 ∧ ∀ d, d < n → d ≠ a → d ≠ b → d ≠ c → ge_out X Y a b c d
end
theorem ge_t_rot (X Y : Nat → Int) (a b c : Nat) : ge_t X Y b c a = ge_t X Y a b c := by unfold ge_t; grind
theorem ge_t_sw (X Y : Nat → Int) (a b c : Nat) : ge_t X Y a c b = -ge_t X Y a b c := by unfold ge_t; grind
theorem ge_t_sum (X Y : Nat → Int) (a b c d : Nat) : ge_t X Y b c d - ge_t X Y a c d + ge_t X Y a b d - ge_t X Y a b c = 0 := by unfold ge_t; grind
theorem ge_D_rot (X Y L : Nat → Int) (a b c d : Nat) : ge_D X Y L b c a d = ge_D X Y L a b c d := by
  unfold ge_D ge_t; grind
theorem ge_D_sw (X Y L : Nat → Int) (a b c d : Nat) : ge_D X Y L a c b d = -ge_D X Y L a b c d := by unfold ge_D ge_t; grind
theorem ge_D_sw3 (X Y L : Nat → Int) (a b c d : Nat) : ge_D X Y L a b d c = -ge_D X Y L a b c d := by unfold ge_D ge_t; grind
theorem ge_iz (X Y : Nat → Int) (a b c d z : Nat) : ge_i X Y a b c d = ge_t X Y b c d * ge_q X Y a z - ge_t X Y a c d * ge_q X Y b z + ge_t X Y a b d * ge_q X Y c z - ge_t X Y a b c * ge_q X Y d z := by
  unfold ge_i ge_q ge_t; grind
theorem ge_E_split (X Y : Nat → Int) (a b c d : Nat) : ge_E X Y a b c d = ge_K * ge_i X Y a b c d + ge_D X Y ge_w a b c d := by
  unfold ge_E ge_D ge_L ge_i ge_q ge_t; grind
/-! signs -/
theorem ge_neg3 {p q r s1 s2 s3 : Int} (h1 : 0 < s1) (h2 : 0 < s2) (h3 : 0 < s3) (hp : p ≤ 0) (hq : q ≤ 0) (hr : r ≤ 0) (e : p * s1 + q * s2 + r * s3 = 0) : p = 0 ∧ q = 0 ∧ r = 0 := by
  have a1 : 0 ≤ (-p) * s1 := Int.mul_nonneg (by omega) (by omega)
  have a2 : 0 ≤ (-q) * s2 := Int.mul_nonneg (by omega) (by omega)
  have a3 : 0 ≤ (-r) * s3 := Int.mul_nonneg (by omega) (by omega)
  rw [Int.neg_mul] at a1 a2 a3
  have b1 : p * s1 = 0 := by omega
  have b2 : q * s2 = 0 := by omega
  have b3 : r * s3 = 0 := by omega
  refine ⟨?_, ?_, ?_⟩
  · rcases Int.mul_eq_zero.mp b1 with h | h <;> omega
  · rcases Int.mul_eq_zero.mp b2 with h | h <;> omega
  · rcases Int.mul_eq_zero.mp b3 with h | h <;> omega
theorem ge_pos3 {p q r s1 s2 s3 : Int} (h1 : 0 < s1) (h2 : 0 < s2) (h3 : 0 < s3) (hp : 0 ≤ p) (hq : 0 ≤ q) (hr : 0 ≤ r) (e : p * s1 + q * s2 + r * s3 = 0) : p = 0 ∧ q = 0 ∧ r = 0 := by
  have h := ge_neg3 (p := -p) (q := -q) (r := -r) h1 h2 h3 (by omega) (by omega) (by omega) (by rw [Int.neg_mul, Int.neg_mul, Int.neg_mul]; omega)
  omega
/-- four different places on one circle: two of the four numbers are more than 0 and two less -/
theorem ge_22 {α β γ δ sab sac sad sbc sbd scd : Int} (hab : 0 < sab) (hac : 0 < sac) (had : 0 < sad) (hbc : 0 < sbc) (hbd : 0 < sbd) (hcd : 0 < scd) (hs : α + β + γ + δ = 0)
    (za : β * sab + γ * sac + δ * sad = 0) (zb : α * sab + γ * sbc + δ * sbd = 0) (zc : α * sac + β * sbc + δ * scd = 0) (zd : α * sad + β * sbd + γ * scd = 0) (hd : δ ≠ 0) :
    α ≠ 0 ∧ β ≠ 0 ∧ γ ≠ 0 ∧ ((0 < α ↔ 0 < δ) ↔ (0 < β ↔ 0 < γ)) := by
  have nA : ¬ (β ≤ 0 ∧ γ ≤ 0 ∧ δ ≤ 0) := fun ⟨x, y, z⟩ => hd (ge_neg3 hab hac had x y z za).2.2
  have pA : ¬ (0 ≤ β ∧ 0 ≤ γ ∧ 0 ≤ δ) := fun ⟨x, y, z⟩ => hd (ge_pos3 hab hac had x y z za).2.2
  have nB : ¬ (α ≤ 0 ∧ γ ≤ 0 ∧ δ ≤ 0) := fun ⟨x, y, z⟩ => hd (ge_neg3 hab hbc hbd x y z zb).2.2
  have pB : ¬ (0 ≤ α ∧ 0 ≤ γ ∧ 0 ≤ δ) := fun ⟨x, y, z⟩ => hd (ge_pos3 hab hbc hbd x y z zb).2.2
  have nC : ¬ (α ≤ 0 ∧ β ≤ 0 ∧ δ ≤ 0) := fun ⟨x, y, z⟩ => hd (ge_neg3 hac hbc hcd x y z zc).2.2
  have pC : ¬ (0 ≤ α ∧ 0 ≤ β ∧ 0 ≤ δ) := fun ⟨x, y, z⟩ => hd (ge_pos3 hac hbc hcd x y z zc).2.2
  have nD : ¬ (α ≤ 0 ∧ β ≤ 0 ∧ γ ≤ 0) := fun ⟨x, y, z⟩ => by
    have := ge_neg3 had hbd hcd x y z zd
    omega
  have pD : ¬ (0 ≤ α ∧ 0 ≤ β ∧ 0 ≤ γ) := fun ⟨x, y, z⟩ => by
    have := ge_pos3 had hbd hcd x y z zd
    omega
  clear za zb zc zd
  refine ⟨by omega, by omega, by omega, ?_⟩
  by_cases a1 : 0 < α <;> by_cases a2 : 0 < β <;> by_cases a3 : 0 < γ <;> by_cases a4 : 0 < δ <;> simp only [a1, a2, a3, a4, iff_self, true_iff, iff_true, false_iff, iff_false, not_true, not_false_iff] <;> omega
/-! sizes -/
theorem ge_mb {x y : Int} (h1 : -63 ≤ x) (h2 : x ≤ 63) (h3 : -63 ≤ y) (h4 : y ≤ 63) : -3969 ≤ x * y ∧ x * y ≤ 3969 := by
  have a := Int.mul_nonneg (a := 63 - x) (b := 63 + y) (by omega) (by omega)
  have b := Int.mul_nonneg (a := 63 + x) (b := 63 - y) (by omega) (by omega)
  have c := Int.mul_nonneg (a := 63 - x) (b := 63 - y) (by omega) (by omega)
  have d := Int.mul_nonneg (a := 63 + x) (b := 63 + y) (by omega) (by omega)
  simp only [Int.sub_mul, Int.mul_sub, Int.add_mul, Int.mul_add] at a b c d
  omega
theorem ge_t_b {X Y : Nat → Int} {n : Nat} (h : ge_ok X Y n) {a b c : Nat} (ha : a < n) (hb : b < n) (hc : c < n) : -7938 ≤ ge_t X Y a b c ∧ ge_t X Y a b c ≤ 7938 := by
  obtain ⟨a1, a2, a3, a4⟩ := h.2.1 a ha
  obtain ⟨b1, b2, b3, b4⟩ := h.2.1 b hb
  obtain ⟨c1, c2, c3, c4⟩ := h.2.1 c hc
  have p := ge_mb (x := X b - X a) (y := Y c - Y a) (by omega) (by omega) (by omega) (by omega)
  have q := ge_mb (x := Y b - Y a) (y := X c - X a) (by omega) (by omega) (by omega) (by omega)
  unfold ge_t
  omega
theorem ge_sqpos {x y : Int} (h : ¬ (x = 0 ∧ y = 0)) : 0 < x * x + y * y := by
  have a : 0 ≤ x * x := by rcases Int.le_total 0 x with h | h; exact Int.mul_nonneg h h; exact Int.mul_nonneg_of_nonpos_of_nonpos h h
  have b : 0 ≤ y * y := by rcases Int.le_total 0 y with h | h; exact Int.mul_nonneg h h; exact Int.mul_nonneg_of_nonpos_of_nonpos h h
  by_cases hx : x * x = 0
  · by_cases hy : y * y = 0
    · refine absurd ⟨?_, ?_⟩ h
      · rcases Int.mul_eq_zero.mp hx with h | h <;> exact h
      · rcases Int.mul_eq_zero.mp hy with h | h <;> exact h
    · omega
  · omega
theorem ge_q_pos {X Y : Nat → Int} {n : Nat} (h : ge_ok X Y n) {a b : Nat} (ha : a < n) (hb : b < n) (hab : a ≠ b) : 0 < ge_q X Y a b := by
  unfold ge_q
  exact ge_sqpos (fun ⟨h1, h2⟩ => hab (h.2.2 a b ha hb (by omega) (by omega)))
theorem ge_q_sym (X Y : Nat → Int) (a b : Nat) : ge_q X Y a b = ge_q X Y b a := by unfold ge_q; grind
theorem ge_q_self (X Y : Nat → Int) (a : Nat) : ge_q X Y a a = 0 := by unfold ge_q; grind
theorem ge_w_lt : ∀ v, v < 17 → ∀ u, u < 17 → v < u → 40000 * ge_w u ≤ ge_w v := by decide +kernel
theorem ge_w_pos : ∀ v, v < 17 → 0 < ge_w v := by decide +kernel
theorem ge_w_K : ∀ v, v < 17 → 40000 * ge_w v ≤ ge_K := by decide +kernel
/-- a bounded factor -/
theorem ge_wt {w t : Int} (hw : 0 < w) (h1 : -7938 ≤ t) (h2 : t ≤ 7938) : -(7938 * w) ≤ w * t ∧ w * t ≤ 7938 * w := by
  have a := Int.mul_nonneg (a := w) (b := t + 7938) (by omega) (by omega)
  have b := Int.mul_nonneg (a := w) (b := 7938 - t) (by omega) (by omega)
  simp only [Int.mul_sub, Int.mul_add] at a b
  omega
theorem ge_big {w t : Int} (hw : 0 < w) (h : 1 ≤ t) : w ≤ w * t := by
  have a := Int.mul_nonneg (a := w) (b := t - 1) (by omega) (by omega)
  simp only [Int.mul_sub] at a
  omega
theorem ge_small {w t : Int} (hw : 0 < w) (h : t ≤ -1) : w * t ≤ -w := by
  have a := Int.mul_nonneg (a := w) (b := -1 - t) (by omega) (by omega)
  simp only [Int.mul_sub] at a
  omega
/-- on the circle: the four turns -/
theorem ge_circ {X Y : Nat → Int} {n : Nat} (h : ge_ok X Y n) {a b c d : Nat} (ha : a < n) (hb : b < n) (hc : c < n) (hd : d < n) (hab : a ≠ b) (hac : a ≠ c) (had : a ≠ d) (hbc : b ≠ c) (hbd : b ≠ d) (hcd : c ≠ d)
    (ht : ge_t X Y a b c ≠ 0) (hi : ge_i X Y a b c d = 0) :
    ge_t X Y b c d ≠ 0 ∧ ge_t X Y a c d ≠ 0 ∧ ge_t X Y a b d ≠ 0 ∧ ((0 < ge_t X Y b c d ↔ ge_t X Y a b c < 0) ↔ (ge_t X Y a c d < 0 ↔ 0 < ge_t X Y a b d)) := by
  have e := ge_t_sum X Y a b c d
  have za := ge_iz X Y a b c d a
  have zb := ge_iz X Y a b c d b
  have zc := ge_iz X Y a b c d c
  have zd := ge_iz X Y a b c d d
  rw [hi, ge_q_self, Int.mul_zero] at za zb zc zd
  rw [ge_q_sym X Y b a, ge_q_sym X Y c a, ge_q_sym X Y d a] at za
  rw [ge_q_sym X Y c b, ge_q_sym X Y d b] at zb
  rw [ge_q_sym X Y d c] at zc
  have r := ge_22 (α := ge_t X Y b c d) (β := -ge_t X Y a c d) (γ := ge_t X Y a b d) (δ := -ge_t X Y a b c) (ge_q_pos h ha hb hab) (ge_q_pos h ha hc hac) (ge_q_pos h ha hd had) (ge_q_pos h hb hc hbc) (ge_q_pos h hb hd hbd) (ge_q_pos h hc hd hcd)
    (by omega) (by rw [Int.neg_mul, Int.neg_mul]; omega) (by rw [Int.neg_mul]; omega) (by rw [Int.neg_mul, Int.neg_mul]; omega) (by rw [Int.neg_mul]; omega) (by omega)
  obtain ⟨r1, r2, r3, r4⟩ := r
  refine ⟨r1, by omega, r3, ?_⟩
  have e1 : (0 < -ge_t X Y a b c) ↔ ge_t X Y a b c < 0 := by omega
  have e2 : (0 < -ge_t X Y a c d) ↔ ge_t X Y a c d < 0 := by omega
  rw [e1, e2] at r4
  exact r4
theorem ge_sg {x y : Int} (hx : x ≠ 0) (hy : y ≠ 0) : (x < 0 ↔ 0 < y) ↔ ¬ (y < 0 ↔ x < 0) := by
  rcases Int.lt_or_lt_of_ne hx with p | p <;> rcases Int.lt_or_lt_of_ne hy with q | q
  · exact ⟨fun h => absurd (h.mp p) (by omega), fun h => absurd ⟨fun _ => p, fun _ => q⟩ h⟩
  · exact ⟨fun _ h => absurd (h.mpr p) (by omega), fun _ => ⟨fun _ => q, fun _ => p⟩⟩
  · exact ⟨fun _ h => absurd (h.mp q) (by omega), fun _ => ⟨fun w => absurd w (by omega), fun w => absurd w (by omega)⟩⟩
  · exact ⟨fun h => absurd (h.mpr q) (by omega), fun h => absurd ⟨fun w => absurd w (by omega), fun w => absurd w (by omega)⟩ h⟩
/-- the rule of the document is the sign of the one determinant -/
theorem ge_inE {X Y : Nat → Int} {n : Nat} (h : ge_ok X Y n) {a b c d : Nat} (hab : a < b) (hbc : b < c) (hc : c < n) (hd : d < n) (had : d ≠ a) (hbd : d ≠ b) (hcd : d ≠ c) (ht : ge_t X Y a b c ≠ 0) :
    (¬ ge_In X Y a b c d) ↔ ge_out X Y a b c d := by
  have hn := h.1
  have ha : a < n := by omega
  have hb : b < n := by omega
  have k1 := ge_t_b h hb hc hd
  have k2 := ge_t_b h ha hc hd
  have k3 := ge_t_b h ha hb hd
  have k4 := ge_t_b h ha hb hc
  have wa := ge_w_pos a (by omega)
  have wb := ge_w_pos b (by omega)
  have wc := ge_w_pos c (by omega)
  have wd := ge_w_pos d (by omega)
  have m1 := ge_wt wa k1.1 k1.2
  have m2 := ge_wt wb k2.1 k2.2
  have m3 := ge_wt wc k3.1 k3.2
  have m4 := ge_wt wd k4.1 k4.2
  have Ka := ge_w_K a (by omega)
  have Kb := ge_w_K b (by omega)
  have Kc := ge_w_K c (by omega)
  have Kd := ge_w_K d (by omega)
  have ab := ge_w_lt a (by omega) b (by omega) hab
  have ac := ge_w_lt a (by omega) c (by omega) (by omega)
  have hE := ge_E_split X Y a b c d
  have hD : ge_D X Y ge_w a b c d = ge_w a * ge_t X Y b c d - ge_w b * ge_t X Y a c d + ge_w c * ge_t X Y a b d - ge_w d * ge_t X Y a b c := rfl
  rw [hD] at hE
  have Kp : 0 < ge_K := by decide +kernel
  have e1 : (0 < ge_t X Y a d b) ↔ ge_t X Y a b d < 0 := by rw [ge_t_sw X Y a b d]; omega
  have e2 : (0 < ge_t X Y a d c) ↔ ge_t X Y a c d < 0 := by rw [ge_t_sw X Y a c d]; omega
  generalize hi : ge_i X Y a b c d = i at hE
  have dep : ge_dep X Y a b c d = if 0 < ge_t X Y a b c then i else -i := by unfold ge_dep; rw [hi]
  unfold ge_In
  rw [dep, e1, e2]
  rcases Int.lt_or_lt_of_ne ht with t | t
  · rw [if_neg (by omega)]
    have out : ge_out X Y a b c d ↔ 0 < ge_E X Y a b c d := ⟨fun h => h.2 t, fun h => ⟨fun q => absurd q (by omega), fun _ => h⟩⟩
    rw [out]
    rcases Int.lt_trichotomy i 0 with i1 | i1 | i1
    · have q := ge_small Kp (show i ≤ -1 by omega)
      have E0 : ge_E X Y a b c d < 0 := by omega
      exact ⟨fun w => absurd (Or.inl (by omega)) w, fun w => absurd w (by omega)⟩
    · subst i1
      obtain ⟨n1, n2, n3, n4⟩ := ge_circ h ha hb hc hd (by omega) (by omega) (by omega) (by omega) (by omega) (by omega) ht hi
      rw [Int.mul_zero] at hE
      rcases Nat.lt_or_ge d a with l | l
      · have da := ge_w_lt d (by omega) a (by omega) l
        have q := ge_small wd (show ge_t X Y a b c ≤ -1 by omega)
        have E0 : 0 < ge_E X Y a b c d := by omega
        exact ⟨fun _ => E0, fun _ w => by rcases w with w | w; omega; exact absurd w.2.1 (by omega)⟩
      · have ad := ge_w_lt a (by omega) d (by omega) (by omega)
        have sg := ge_sg n2 n3
        rcases Int.lt_or_lt_of_ne n1 with u | u
        · have q := ge_small wa (show ge_t X Y b c d ≤ -1 by omega)
          have E0 : ge_E X Y a b c d < 0 := by omega
          have ne : ¬ (ge_t X Y a c d < 0 ↔ 0 < ge_t X Y a b d) := fun w => absurd ((n4.mpr w).mpr t) (by omega)
          have same := Classical.not_not.mp (fun w => ne (sg.mpr w))
          exact ⟨fun w => absurd (Or.inr ⟨by omega, by omega, same⟩) w, fun w => absurd w (by omega)⟩
        · have q := ge_big wa (show 1 ≤ ge_t X Y b c d by omega)
          have E0 : 0 < ge_E X Y a b c d := by omega
          have eq := n4.mp ⟨fun _ => t, fun _ => u⟩
          exact ⟨fun _ => E0, fun _ w => by rcases w with w | w; omega; exact sg.mp eq w.2.2⟩
    · have q := ge_big Kp (show 1 ≤ i by omega)
      have E0 : 0 < ge_E X Y a b c d := by omega
      exact ⟨fun _ => E0, fun _ w => by rcases w with w | w; omega; exact absurd w.1 (by omega)⟩
  · rw [if_pos t]
    have out : ge_out X Y a b c d ↔ ge_E X Y a b c d < 0 := ⟨fun h => h.1 t, fun h => ⟨fun _ => h, fun q => absurd q (by omega)⟩⟩
    rw [out]
    rcases Int.lt_trichotomy i 0 with i1 | i1 | i1
    · have q := ge_small Kp (show i ≤ -1 by omega)
      have E0 : ge_E X Y a b c d < 0 := by omega
      exact ⟨fun _ => E0, fun _ w => by rcases w with w | w; omega; exact absurd w.1 (by omega)⟩
    · subst i1
      obtain ⟨n1, n2, n3, n4⟩ := ge_circ h ha hb hc hd (by omega) (by omega) (by omega) (by omega) (by omega) (by omega) ht hi
      rw [Int.mul_zero] at hE
      rcases Nat.lt_or_ge d a with l | l
      · have da := ge_w_lt d (by omega) a (by omega) l
        have q := ge_big wd (show 1 ≤ ge_t X Y a b c by omega)
        have E0 : ge_E X Y a b c d < 0 := by omega
        exact ⟨fun _ => E0, fun _ w => by rcases w with w | w; omega; exact absurd w.2.1 (by omega)⟩
      · have ad := ge_w_lt a (by omega) d (by omega) (by omega)
        have sg := ge_sg n2 n3
        rcases Int.lt_or_lt_of_ne n1 with u | u
        · have q := ge_small wa (show ge_t X Y b c d ≤ -1 by omega)
          have E0 : ge_E X Y a b c d < 0 := by omega
          have eq := n4.mp ⟨fun w => absurd w (by omega), fun w => absurd w (by omega)⟩
          exact ⟨fun _ => E0, fun _ w => by rcases w with w | w; omega; exact sg.mp eq w.2.2⟩
        · have q := ge_big wa (show 1 ≤ ge_t X Y b c d by omega)
          have E0 : 0 < ge_E X Y a b c d := by omega
          have ne : ¬ (ge_t X Y a c d < 0 ↔ 0 < ge_t X Y a b d) := fun w => absurd ((n4.mpr w).mp u) (by omega)
          have same := Classical.not_not.mp (fun w => ne (sg.mpr w))
          exact ⟨fun w => absurd (Or.inr ⟨by omega, by omega, same⟩) w, fun w => absurd w (by omega)⟩
    · have q := ge_big Kp (show 1 ≤ i by omega)
      have E0 : 0 < ge_E X Y a b c d := by omega
      exact ⟨fun w => absurd (Or.inl (by omega)) w, fun w => absurd w (by omega)⟩
/-! triangles in any order -/
theorem ge_out_rot {X Y : Nat → Int} {a b c d : Nat} : ge_out X Y b c a d ↔ ge_out X Y a b c d := by
  unfold ge_out ge_E; rw [ge_t_rot, ge_D_rot]
theorem ge_out_sw {X Y : Nat → Int} {a b c d : Nat} : ge_out X Y a c b d ↔ ge_out X Y a b c d := by
  unfold ge_out ge_E; rw [ge_t_sw, ge_D_sw]; omega
theorem ge_T_rot {X Y : Nat → Int} {n a b c : Nat} (h : ge_T X Y n a b c) : ge_T X Y n b c a := by
  obtain ⟨h1, h2, h3, h4, h5⟩ := h
  exact ⟨h2, h3, h1, by rw [ge_t_rot]; exact h4, fun d e1 e2 e3 e4 => ge_out_rot.mpr (h5 d e1 e4 e2 e3)⟩
theorem ge_T_sw {X Y : Nat → Int} {n a b c : Nat} (h : ge_T X Y n a b c) : ge_T X Y n a c b := by
  obtain ⟨h1, h2, h3, h4, h5⟩ := h
  exact ⟨h1, h3, h2, by rw [ge_t_sw]; omega, fun d e1 e2 e3 e4 => ge_out_sw.mpr (h5 d e1 e2 e4 e3)⟩
theorem ge_T_of {X Y : Nat → Int} {n : Nat} (h : ge_ok X Y n) {a b c : Nat} (t : ge_tri X Y n a b c) : ge_T X Y n a b c := by
  obtain ⟨h1, h2, h3, h4, h5⟩ := t
  exact ⟨by omega, by omega, h3, h4, fun d e1 e2 e3 e4 => (ge_inE h h1 h2 h3 e1 e2 e3 e4 h4).mp (h5 d e1 e2 e3 e4)⟩
theorem ge_tri_of {X Y : Nat → Int} {n : Nat} (h : ge_ok X Y n) {a b c : Nat} (t : ge_T X Y n a b c) (h1 : a < b) (h2 : b < c) : ge_tri X Y n a b c := by
  obtain ⟨-, -, h3, h4, h5⟩ := t
  exact ⟨h1, h2, h3, h4, fun d e1 e2 e3 e4 => (ge_inE h h1 h2 h3 e1 e2 e3 e4 h4).mpr (h5 d e1 e2 e3 e4)⟩
theorem ge_t_ne {X Y : Nat → Int} {a b c : Nat} (h : ge_t X Y a b c ≠ 0) : a ≠ b ∧ a ≠ c ∧ b ≠ c := by
  refine ⟨?_, ?_, ?_⟩ <;> (intro e; subst e; apply h; unfold ge_t; grind)
/-- one triangle at most to the right of who goes from a to b -/
theorem ge_right {X Y : Nat → Int} {n a b c d : Nat} (h1 : ge_T X Y n a b c) (h2 : ge_T X Y n a b d) (t1 : ge_t X Y a b c < 0) (t2 : ge_t X Y a b d < 0) : c = d := by
  refine Classical.byContradiction fun hne => ?_
  have n1 := ge_t_ne h1.2.2.2.1
  have n2 := ge_t_ne h2.2.2.2.1
  have p := (h1.2.2.2.2 d h2.2.2.1 (Ne.symm n2.2.1) (Ne.symm n2.2.2) (Ne.symm hne)).2 t1
  have q := (h2.2.2.2.2 c h1.2.2.1 (Ne.symm n1.2.1) (Ne.symm n1.2.2) hne).2 t2
  unfold ge_E at p q
  rw [ge_D_sw3] at q
  omega
/-! the sweep: a place by kx x + ky y; a triangle is told by its middle spot and its side -/
def ge_k (kx ky : Int) (X Y : Nat → Int) (v : Nat) : Int := kx * X v + ky * Y v
theorem ge_D_0 (X Y L : Nat → Int) (a b c : Nat) : ge_D X Y L a b c a = 0 ∧ ge_D X Y L a b c b = 0 ∧ ge_D X Y L a b c c = 0 := by
  refine ⟨?_, ?_, ?_⟩ <;> (unfold ge_D ge_t; grind)
/-- the one identity -/
theorem ge_plk (px py qx qy rx ry sx sy lp lq lr ls kx ky : Int) :
    (kx * qx + ky * qy) * (-lr * (sx * py - sy * px) + ls * (rx * py - ry * px) - lp * (rx * sy - ry * sx)) - (kx * px + ky * py) * (-lr * (sx * qy - sy * qx) + ls * (rx * qy - ry * qx) - lq * (rx * sy - ry * sx))
    = -(kx * sx + ky * sy) * (-lp * (qx * ry - qy * rx) + lq * (px * ry - py * rx) - lr * (px * qy - py * qx)) + (kx * rx + ky * ry) * (-lp * (qx * sy - qy * sx) + lq * (px * sy - py * sx) - ls * (px * qy - py * qx)) := by grind
theorem ge_D_rel (X Y L : Nat → Int) (m p q v : Nat) : ge_D X Y L m p q v = -(L p - L m) * ((X q - X m) * (Y v - Y m) - (Y q - Y m) * (X v - X m)) + (L q - L m) * ((X p - X m) * (Y v - Y m) - (Y p - Y m) * (X v - X m)) - (L v - L m) * ((X p - X m) * (Y q - Y m) - (Y p - Y m) * (X q - X m)) := by
  unfold ge_D ge_t; grind
theorem ge_over_id (kx ky : Int) (X Y L : Nat → Int) (m p q r s : Nat) :
    (ge_k kx ky X Y q - ge_k kx ky X Y m) * ge_D X Y L m r s p - (ge_k kx ky X Y p - ge_k kx ky X Y m) * ge_D X Y L m r s q
    = -(ge_k kx ky X Y s - ge_k kx ky X Y m) * ge_D X Y L m p q r + (ge_k kx ky X Y r - ge_k kx ky X Y m) * ge_D X Y L m p q s := by
  rw [ge_D_rel X Y L m r s p, ge_D_rel X Y L m r s q, ge_D_rel X Y L m p q r, ge_D_rel X Y L m p q s]
  have h := ge_plk (X p - X m) (Y p - Y m) (X q - X m) (Y q - Y m) (X r - X m) (Y r - Y m) (X s - X m) (Y s - Y m) (L p - L m) (L q - L m) (L r - L m) (L s - L m) kx ky
  have e : ∀ v, ge_k kx ky X Y v - ge_k kx ky X Y m = kx * (X v - X m) + ky * (Y v - Y m) := fun v => by unfold ge_k; grind
  rw [e p, e q, e r, e s]
  exact h
theorem ge_T_ge {X Y : Nat → Int} {n m p q v : Nat} (h : ge_T X Y n m p q) (t : ge_t X Y m p q < 0) (hv : v < n) : 0 ≤ ge_D X Y (ge_L X Y) m p q v ∧ (ge_D X Y (ge_L X Y) m p q v = 0 → v = m ∨ v = p ∨ v = q) := by
  have z := ge_D_0 X Y (ge_L X Y) m p q
  by_cases h1 : v = m
  · subst h1; exact ⟨by omega, fun _ => Or.inl rfl⟩
  by_cases h2 : v = p
  · subst h2; exact ⟨by omega, fun _ => Or.inr (Or.inl rfl)⟩
  by_cases h3 : v = q
  · subst h3; exact ⟨by omega, fun _ => Or.inr (Or.inr rfl)⟩
  have o := (h.2.2.2.2 v hv h1 h2 h3).2 t
  unfold ge_E at o
  exact ⟨by omega, fun e => by omega⟩
/-- two triangles above one middle spot are one (above, as kx, ky have it) -/
theorem ge_above {X Y : Nat → Int} {n m p q r s : Nat} (kx ky : Int) (h1 : ge_T X Y n m p q) (h2 : ge_T X Y n m r s) (t1 : ge_t X Y m p q < 0) (t2 : ge_t X Y m r s < 0)
    (p1 : ge_k kx ky X Y p < ge_k kx ky X Y m) (q1 : ge_k kx ky X Y m < ge_k kx ky X Y q) (r1 : ge_k kx ky X Y r < ge_k kx ky X Y m) (s1 : ge_k kx ky X Y m < ge_k kx ky X Y s) : p = r ∧ q = s := by
  have e := ge_over_id kx ky X Y (ge_L X Y) m p q r s
  have ap := ge_T_ge h2 t2 h1.2.1
  have aq := ge_T_ge h2 t2 h1.2.2.1
  have ar := ge_T_ge h1 t1 h2.2.1
  have as := ge_T_ge h1 t1 h2.2.2.1
  generalize hp9 : ge_k kx ky X Y p = kp at *
  generalize hq9 : ge_k kx ky X Y q = kq at *
  generalize hr9 : ge_k kx ky X Y r = kr at *
  generalize hs9 : ge_k kx ky X Y s = ks at *
  generalize hm9 : ge_k kx ky X Y m = km at *
  have b1 := Int.mul_nonneg (a := kq - km) (by omega) ap.1
  have b2 := Int.mul_nonneg (a := km - kp) (by omega) aq.1
  have b3 := Int.mul_nonneg (a := ks - km) (by omega) ar.1
  have b4 := Int.mul_nonneg (a := km - kr) (by omega) as.1
  have f2 : (kp - km) * ge_D X Y (ge_L X Y) m r s q = -((km - kp) * ge_D X Y (ge_L X Y) m r s q) := by rw [← Int.neg_mul, Int.neg_sub]
  have f3 : -(ks - km) * ge_D X Y (ge_L X Y) m p q r = -((ks - km) * ge_D X Y (ge_L X Y) m p q r) := Int.neg_mul _ _
  have f4 : (kr - km) * ge_D X Y (ge_L X Y) m p q s = -((km - kr) * ge_D X Y (ge_L X Y) m p q s) := by rw [← Int.neg_mul, Int.neg_sub]
  rw [f2, f3, f4] at e
  have z1 : (kq - km) * ge_D X Y (ge_L X Y) m r s p = 0 := by omega
  have z2 : (km - kp) * ge_D X Y (ge_L X Y) m r s q = 0 := by omega
  have c1 : ge_D X Y (ge_L X Y) m r s p = 0 := by rcases Int.mul_eq_zero.mp z1 with h | h <;> omega
  have c2 : ge_D X Y (ge_L X Y) m r s q = 0 := by rcases Int.mul_eq_zero.mp z2 with h | h <;> omega
  have d1 := ap.2 c1
  have d2 := aq.2 c2
  constructor
  · rcases d1 with d | d | d
    · subst d; omega
    · exact d
    · subst d; omega
  · rcases d2 with d | d | d
    · subst d; omega
    · subst d; omega
    · exact d
/-! a code for each triangle -/
abbrev ge_y (X Y : Nat → Int) (v : Nat) : Int := ge_k 64 1 X Y v
theorem ge_y_inj {X Y : Nat → Int} {n : Nat} (h : ge_ok X Y n) {u v : Nat} (hu : u < n) (hv : v < n) (e : ge_y X Y u = ge_y X Y v) : u = v := by
  obtain ⟨a1, a2, a3, a4⟩ := h.2.1 u hu
  obtain ⟨b1, b2, b3, b4⟩ := h.2.1 v hv
  unfold ge_y ge_k at e
  exact h.2.2 u v hu hv (by omega) (by omega)
/-- m, p, q are a, b, c in some order -/
def ge_pm (a b c m p q : Nat) : Prop := (m = a ∧ p = b ∧ q = c) ∨ (m = a ∧ p = c ∧ q = b) ∨ (m = b ∧ p = a ∧ q = c) ∨ (m = b ∧ p = c ∧ q = a) ∨ (m = c ∧ p = a ∧ q = b) ∨ (m = c ∧ p = b ∧ q = a)
theorem ge_pm_T {X Y : Nat → Int} {n a b c m p q : Nat} (h : ge_T X Y n a b c) (e : ge_pm a b c m p q) : ge_T X Y n m p q := by
  rcases e with ⟨rfl, rfl, rfl⟩ | ⟨rfl, rfl, rfl⟩ | ⟨rfl, rfl, rfl⟩ | ⟨rfl, rfl, rfl⟩ | ⟨rfl, rfl, rfl⟩ | ⟨rfl, rfl, rfl⟩
  · exact h
  · exact ge_T_sw h
  · exact ge_T_sw (ge_T_rot h)
  · exact ge_T_rot h
  · exact ge_T_rot (ge_T_rot h)
  · exact ge_T_sw (ge_T_rot (ge_T_rot h))
theorem ge_pm_eq {a b c a' b' c' m p q : Nat} (h1 : a < b) (h2 : b < c) (h3 : a' < b') (h4 : b' < c') (e : ge_pm a b c m p q) (e' : ge_pm a' b' c' m p q) : a = a' ∧ b = b' ∧ c = c' := by
  unfold ge_pm at e e'
  omega
def ge_cod (X Y : Nat → Int) (a b c z : Nat) : Prop := ∃ m p q, ge_pm a b c m p q ∧ ge_y X Y p < ge_y X Y m ∧ ge_y X Y m < ge_y X Y q ∧ ((z = 2 * m ∧ ge_t X Y m p q < 0) ∨ (z = 2 * m + 1 ∧ 0 < ge_t X Y m p q))
theorem ge_cod_ex {X Y : Nat → Int} {n a b c : Nat} (h : ge_ok X Y n) (t : ge_tri X Y n a b c) : ∃ z, ge_cod X Y a b c z := by
  obtain ⟨h1, h2, h3, h4, h5⟩ := t
  have ab : ge_y X Y a ≠ ge_y X Y b := fun e => by have := ge_y_inj h (by omega) (by omega) e; omega
  have ac : ge_y X Y a ≠ ge_y X Y c := fun e => by have := ge_y_inj h (by omega) (by omega) e; omega
  have bc : ge_y X Y b ≠ ge_y X Y c := fun e => by have := ge_y_inj h (by omega) (by omega) e; omega
  have key : ∃ m p q, ge_pm a b c m p q ∧ ge_y X Y p < ge_y X Y m ∧ ge_y X Y m < ge_y X Y q := by
    by_cases x : ge_y X Y a < ge_y X Y b
    · by_cases y : ge_y X Y b < ge_y X Y c
      · exact ⟨b, a, c, Or.inr (Or.inr (Or.inl ⟨rfl, rfl, rfl⟩)), by omega, by omega⟩
      · by_cases w : ge_y X Y a < ge_y X Y c
        · exact ⟨c, a, b, Or.inr (Or.inr (Or.inr (Or.inr (Or.inl ⟨rfl, rfl, rfl⟩)))), by omega, by omega⟩
        · exact ⟨a, c, b, Or.inr (Or.inl ⟨rfl, rfl, rfl⟩), by omega, by omega⟩
    · by_cases y : ge_y X Y a < ge_y X Y c
      · exact ⟨a, b, c, Or.inl ⟨rfl, rfl, rfl⟩, by omega, by omega⟩
      · by_cases w : ge_y X Y b < ge_y X Y c
        · exact ⟨c, b, a, Or.inr (Or.inr (Or.inr (Or.inr (Or.inr ⟨rfl, rfl, rfl⟩)))), by omega, by omega⟩
        · exact ⟨b, c, a, Or.inr (Or.inr (Or.inr (Or.inl ⟨rfl, rfl, rfl⟩))), by omega, by omega⟩
  obtain ⟨m, p, q, e, y1, y2⟩ := key
  have t0 : ge_t X Y m p q ≠ 0 := (ge_pm_T (ge_T_of h ⟨h1, h2, h3, h4, h5⟩) e).2.2.2.1
  rcases Int.lt_or_lt_of_ne t0 with k | k
  · exact ⟨2 * m, m, p, q, e, y1, y2, Or.inl ⟨rfl, k⟩⟩
  · exact ⟨2 * m + 1, m, p, q, e, y1, y2, Or.inr ⟨rfl, k⟩⟩
theorem ge_cod_inj {X Y : Nat → Int} {n a b c a' b' c' z : Nat} (h : ge_ok X Y n) (t : ge_tri X Y n a b c) (t' : ge_tri X Y n a' b' c') (e : ge_cod X Y a b c z) (e' : ge_cod X Y a' b' c' z) : a = a' ∧ b = b' ∧ c = c' := by
  obtain ⟨m, p, q, i, y1, y2, k⟩ := e
  obtain ⟨m', r, s, i', y3, y4, k'⟩ := e'
  have T1 := ge_pm_T (ge_T_of h t) i
  have T2 := ge_pm_T (ge_T_of h t') i'
  have hm : m = m' := by omega
  subst hm
  have pq : p = r ∧ q = s := by
    rcases k with ⟨k1, k2⟩ | ⟨k1, k2⟩
    · rcases k' with ⟨k3, k4⟩ | ⟨k3, k4⟩
      · exact ge_above 64 1 T1 T2 k2 k4 y1 y2 y3 y4
      · omega
    · rcases k' with ⟨k3, k4⟩ | ⟨k3, k4⟩
      · omega
      · have f : ∀ v, ge_k (-64) (-1) X Y v = -ge_y X Y v := fun v => by unfold ge_y ge_k; omega
        have g := ge_above (-64) (-1) (ge_T_sw T1) (ge_T_sw T2) (by rw [ge_t_sw]; omega) (by rw [ge_t_sw]; omega) (by rw [f, f]; omega) (by rw [f, f]; omega) (by rw [f, f]; omega) (by rw [f, f]; omega)
        exact ⟨g.2, g.1⟩
  obtain ⟨rfl, rfl⟩ := pq
  exact ge_pm_eq t.1 t.2.1 t'.1 t'.2.1 i i'
/-! counting -/
theorem ge_php : ∀ (N k : Nat) (f : Nat → Nat), (∀ i, i < k → f i < N) → (∀ i j, i < j → j < k → f i ≠ f j) → k ≤ N := by
  intro N
  induction N with
  | zero => intro k f h _; rcases Nat.eq_zero_or_pos k with h0 | h0; omega; exact absurd (h 0 h0) (by omega)
  | succ N ih =>
    intro k f h inj
    rcases Nat.eq_zero_or_pos k with h0 | h0
    · omega
    obtain ⟨k', rfl⟩ : ∃ k', k = k' + 1 := ⟨k - 1, by omega⟩
    have := ih k' (fun i => if f i = N then f k' else f i) (fun i hi => by
      try dsimp only
      have a := h i (by omega)
      have b := h k' (by omega)
      have c := inj i k' hi (by omega)
      split <;> omega) (fun i j hi hj => by
      try dsimp only
      have a := inj i j hi (by omega)
      have b := inj i k' (by omega) (by omega)
      have c := inj j k' hj (by omega)
      split <;> split <;> omega)
    omega
theorem ge_min (P : Nat → Prop) (h : Nat → Int) : ∀ n, (∃ v, v < n ∧ P v) → ∃ z, z < n ∧ P z ∧ ∀ v, v < n → P v → h z ≤ h v := by
  intro n
  induction n with
  | zero => rintro ⟨v, hv, -⟩; omega
  | succ n ih =>
    intro e
    by_cases e' : ∃ v, v < n ∧ P v
    · obtain ⟨z, z1, z2, z3⟩ := ih e'
      by_cases c : P n ∧ h n < h z
      · refine ⟨n, by omega, c.1, fun v hv pv => ?_⟩
        rcases Nat.lt_or_ge v n with l | l
        · have := z3 v l pv; omega
        · have : v = n := by omega
          subst this; omega
      · refine ⟨z, by omega, z2, fun v hv pv => ?_⟩
        rcases Nat.lt_or_ge v n with l | l
        · exact z3 v l pv
        · have : v = n := by omega
          subst this
          rcases Int.lt_or_le (h v) (h z) with q | q
          · exact absurd ⟨pv, q⟩ c
          · exact q
    · obtain ⟨v, hv, pv⟩ := e
      have : v = n := by
        rcases Nat.lt_or_ge v n with l | l
        · exact absurd ⟨v, l, pv⟩ e'
        · omega
      subst this
      refine ⟨v, by omega, pv, fun u hu pu => ?_⟩
      rcases Nat.lt_or_ge u v with l | l
      · exact absurd ⟨u, l, pu⟩ e'
      · have : u = v := by omega
        subst this; omega
theorem ge_hull_id (X Y : Nat → Int) (f g z p q : Nat) : (ge_y X Y g - ge_y X Y f) * ge_t X Y z p q = -((ge_t X Y f g p - ge_t X Y f g z) * (ge_y X Y q - ge_y X Y z)) + (ge_t X Y f g q - ge_t X Y f g z) * (ge_y X Y p - ge_y X Y z) := by
  unfold ge_y ge_k ge_t; grind
/-- a code that no triangle has, of a spot that is neither the first nor the last -/
theorem ge_hull {X Y : Nat → Int} {n f g : Nat} (h : ge_ok X Y n) (hn : 3 ≤ n) (hf : f < n) (hg : g < n) (hfg : ge_y X Y f < ge_y X Y g) :
    ∃ w z, z < n ∧ z ≠ f ∧ z ≠ g ∧ (w = 2 * z ∨ w = 2 * z + 1) ∧ ∀ a b c, ge_tri X Y n a b c → ¬ ge_cod X Y a b c w := by
  have t0 : ge_t X Y f g f = 0 ∧ ge_t X Y f g g = 0 := by constructor <;> (unfold ge_t; grind)
  by_cases A : ∃ v, v < n ∧ (v ≠ f ∧ v ≠ g) ∧ ge_t X Y f g v ≤ 0
  · obtain ⟨v0, v1, v2, v3⟩ := A
    obtain ⟨z, z1, z2, z3⟩ := ge_min (fun v => v ≠ f ∧ v ≠ g) (fun v => ge_t X Y f g v) n ⟨v0, v1, v2⟩
    try dsimp only at z2 z3
    have z4 := z3 v0 v1 v2
    have all : ∀ v, v < n → ge_t X Y f g z ≤ ge_t X Y f g v := fun v hv => by
      by_cases e1 : v = f
      · subst e1; omega
      by_cases e2 : v = g
      · subst e2; omega
      exact z3 v hv ⟨e1, e2⟩
    refine ⟨2 * z + 1, z, z1, z2.1, z2.2, Or.inr rfl, fun a b c t k => ?_⟩
    obtain ⟨m, p, q, i, y1, y2, k⟩ := k
    have T1 := ge_pm_T (ge_T_of h t) i
    have k9 : m = z ∧ 0 < ge_t X Y m p q := by omega
    clear k
    obtain ⟨ez, k⟩ := k9
    subst ez
    have id := ge_hull_id X Y f g m p q
    have u1 := Int.mul_nonneg (a := ge_t X Y f g p - ge_t X Y f g m) (b := ge_y X Y q - ge_y X Y m) (by have := all p T1.2.1; omega) (by omega)
    have u2 := Int.mul_nonneg (a := ge_t X Y f g q - ge_t X Y f g m) (b := ge_y X Y m - ge_y X Y p) (by have := all q T1.2.2.1; omega) (by omega)
    have u3 := Int.mul_pos (a := ge_y X Y g - ge_y X Y f) (b := ge_t X Y m p q) (by omega) k
    have u4 : (ge_t X Y f g q - ge_t X Y f g m) * (ge_y X Y p - ge_y X Y m) = -((ge_t X Y f g q - ge_t X Y f g m) * (ge_y X Y m - ge_y X Y p)) := by rw [← Int.mul_neg, Int.neg_sub]
    rw [u4] at id
    omega
  · have B : ∀ v, v < n → v ≠ f → v ≠ g → 0 < ge_t X Y f g v := fun v hv e1 e2 => by
      rcases Int.lt_or_le 0 (ge_t X Y f g v) with q | q
      · exact q
      · exact absurd ⟨v, hv, ⟨e1, e2⟩, q⟩ A
    have ex : ∃ v, v < n ∧ (v ≠ f ∧ v ≠ g) := by
      by_cases e0 : 0 ≠ f ∧ 0 ≠ g
      · exact ⟨0, by omega, e0⟩
      by_cases e1 : 1 ≠ f ∧ 1 ≠ g
      · exact ⟨1, by omega, e1⟩
      exact ⟨2, by omega, by omega, by omega⟩
    obtain ⟨z, z1, z2, z3⟩ := ge_min (fun v => v ≠ f ∧ v ≠ g) (fun v => -ge_t X Y f g v) n ex
    try dsimp only at z2 z3
    have z5 := B z z1 z2.1 z2.2
    have all : ∀ v, v < n → ge_t X Y f g v ≤ ge_t X Y f g z := fun v hv => by
      by_cases e1 : v = f
      · subst e1; omega
      by_cases e2 : v = g
      · subst e2; omega
      have := z3 v hv ⟨e1, e2⟩
      omega
    refine ⟨2 * z, z, z1, z2.1, z2.2, Or.inl rfl, fun a b c t k => ?_⟩
    obtain ⟨m, p, q, i, y1, y2, k⟩ := k
    have T1 := ge_pm_T (ge_T_of h t) i
    have k9 : m = z ∧ ge_t X Y m p q < 0 := by omega
    clear k
    obtain ⟨ez, k⟩ := k9
    subst ez
    have id := ge_hull_id X Y f g m p q
    have u1 := Int.mul_nonneg (a := ge_t X Y f g m - ge_t X Y f g p) (b := ge_y X Y q - ge_y X Y m) (by have := all p T1.2.1; omega) (by omega)
    have u2 := Int.mul_nonneg (a := ge_t X Y f g m - ge_t X Y f g q) (b := ge_y X Y m - ge_y X Y p) (by have := all q T1.2.2.1; omega) (by omega)
    have u3 := Int.mul_pos (a := ge_y X Y g - ge_y X Y f) (b := -ge_t X Y m p q) (by omega) (by omega)
    rw [Int.mul_neg] at u3
    have u4 : (ge_t X Y f g q - ge_t X Y f g m) * (ge_y X Y p - ge_y X Y m) = (ge_t X Y f g m - ge_t X Y f g q) * (ge_y X Y m - ge_y X Y p) := by rw [← Int.neg_sub (ge_t X Y f g m), ← Int.neg_sub (ge_y X Y m), Int.neg_mul_neg]
    have u5 : -((ge_t X Y f g p - ge_t X Y f g m) * (ge_y X Y q - ge_y X Y m)) = (ge_t X Y f g m - ge_t X Y f g p) * (ge_y X Y q - ge_y X Y m) := by rw [← Int.neg_mul, Int.neg_sub]
    rw [u4, u5] at id
    omega
def ge_h (f g w k : Nat) : Nat := match k with
  | 0 => 2 * f
  | 1 => 2 * f + 1
  | 2 => 2 * g
  | 3 => 2 * g + 1
  | _ => w
theorem ge_h_or (f g w k : Nat) : ge_h f g w k = 2 * f ∨ ge_h f g w k = 2 * f + 1 ∨ ge_h f g w k = 2 * g ∨ ge_h f g w k = 2 * g + 1 ∨ ge_h f g w k = w := by
  unfold ge_h; split <;> simp
theorem ge_h_ne {f g w : Nat} (h1 : f ≠ g) (h2 : w ≠ 2 * f) (h3 : w ≠ 2 * f + 1) (h4 : w ≠ 2 * g) (h5 : w ≠ 2 * g + 1) {i j : Nat} (hij : i < j) (hj : j < 5) : ge_h f g w i ≠ ge_h f g w j := by
  have v0 : ge_h f g w 0 = 2 * f := rfl
  have v1 : ge_h f g w 1 = 2 * f + 1 := rfl
  have v2 : ge_h f g w 2 = 2 * g := rfl
  have v3 : ge_h f g w 3 = 2 * g + 1 := rfl
  have v4 : ge_h f g w 4 = w := rfl
  have a : i = 0 ∨ i = 1 ∨ i = 2 ∨ i = 3 := by omega
  have b : j = 1 ∨ j = 2 ∨ j = 3 ∨ j = 4 := by omega
  rcases a with rfl | rfl | rfl | rfl <;> rcases b with rfl | rfl | rfl | rfl <;> omega
/-- AT MOST 27 TRIANGLES -/
theorem ge_27 {X Y : Nat → Int} {n : Nat} (h : ge_ok X Y n) (cnt : Nat) (A B C : Nat → Nat) (ht : ∀ t, t < cnt → ge_tri X Y n (A t) (B t) (C t))
    (hd : ∀ i j, i < j → j < cnt → ¬ (A i = A j ∧ B i = B j ∧ C i = C j)) : cnt ≤ 27 := by
  rcases Nat.eq_zero_or_pos cnt with h0 | h0
  · omega
  have q0 := ht 0 h0
  have n3 : 3 ≤ n := by have a := q0.1; have b := q0.2.1; have c := q0.2.2.1; omega
  obtain ⟨f, f1, -, f3⟩ := ge_min (fun _ => True) (fun v => ge_y X Y v) n ⟨0, by omega, trivial⟩
  obtain ⟨g, g1, -, g3⟩ := ge_min (fun _ => True) (fun v => -ge_y X Y v) n ⟨0, by omega, trivial⟩
  try dsimp only at f3 g3
  have fg : ge_y X Y f < ge_y X Y g := by
    have a := f3 0 (by omega) trivial
    have b := g3 0 (by omega) trivial
    have c := f3 1 (by omega) trivial
    have d := g3 1 (by omega) trivial
    have e : ge_y X Y 0 ≠ ge_y X Y 1 := fun e => by have := ge_y_inj h (by omega) (by omega) e; omega
    omega
  have nfg : f ≠ g := fun e => by subst e; omega
  obtain ⟨w, z, w1, w2, w3, w4, w5⟩ := ge_hull h n3 f1 g1 fg
  have cf : ∀ t, ∃ u, t < cnt → ge_cod X Y (A t) (B t) (C t) u := fun t => by
    by_cases l : t < cnt
    · obtain ⟨u, hu⟩ := ge_cod_ex h (ht t l); exact ⟨u, fun _ => hu⟩
    · exact ⟨0, fun l' => absurd l' l⟩
  have F : ∀ t, t < cnt → ge_cod X Y (A t) (B t) (C t) (Classical.choose (cf t)) := fun t => Classical.choose_spec (cf t)
  have mid : ∀ t, t < cnt → Classical.choose (cf t) < 2 * n ∧ Classical.choose (cf t) ≠ 2 * f ∧ Classical.choose (cf t) ≠ 2 * f + 1 ∧ Classical.choose (cf t) ≠ 2 * g ∧ Classical.choose (cf t) ≠ 2 * g + 1 ∧ Classical.choose (cf t) ≠ w := fun t l => by
    have k := F t l
    have kw := w5 _ _ _ (ht t l)
    have nw : Classical.choose (cf t) ≠ w := fun e => by rw [e] at k; exact kw k
    obtain ⟨m, p, q, i, y1, y2, k⟩ := k
    have T1 := ge_pm_T (ge_T_of h (ht t l)) i
    have a := f3 p T1.2.1 trivial
    have b := g3 q T1.2.2.1 trivial
    have mf : m ≠ f := fun e => by subst e; omega
    have mg : m ≠ g := fun e => by subst e; omega
    have mn := T1.1
    omega
  have r := ge_php (2 * n) (cnt + 5) (fun t => if t < cnt then Classical.choose (cf t) else ge_h f g w (t - cnt))
    (fun i hi => by
      try dsimp only
      by_cases l : i < cnt
      · rw [if_pos l]; exact (mid i l).1
      · rw [if_neg l]
        have := ge_h_or f g w (i - cnt)
        omega)
    (fun i j hi hj => by
      try dsimp only
      by_cases lj : j < cnt
      · have li : i < cnt := by omega
        rw [if_pos lj, if_pos li]
        intro e
        have k1 := F i li
        have k2 := F j lj
        rw [e] at k1
        exact hd i j hi lj (ge_cod_inj h (ht i li) (ht j lj) k1 k2)
      · rw [if_neg lj]
        by_cases li : i < cnt
        · rw [if_pos li]
          have := mid i li
          have := ge_h_or f g w (j - cnt)
          omega
        · rw [if_neg li]
          exact ge_h_ne nfg (by omega) (by omega) (by omega) (by omega) (by omega) (by omega))
  have := h.1
  omega
