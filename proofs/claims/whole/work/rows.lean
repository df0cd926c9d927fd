section
/-! Numbers of the machine by whole numbers: iI z, jI z. Sums and products keep (they wrap alike); compares need sizes. -/
def iI (z : Int) : Int32 := Int32.ofInt z
def jI (z : Int) : Int64 := Int64.ofInt z
/-- the state of a side: cell by cell, place by place -/
abbrev St : Type := Nat → Nat → Int32
def gp (g : St) (k j : Nat) (v : Int32) : St := va_up g k (upd (g k) j v)
abbrev ix (i : Int32) : Nat := i.toNatClampNeg
theorem iI_nI (n : Nat) : iI (n : Int) = nI n := Int32.ofInt_eq_ofNat
theorem jI_lN (n : Nat) : jI (n : Int) = lN n := Int64.ofInt_eq_ofNat
theorem iI_add (a b : Int) : iI a + iI b = iI (a + b) := (Int32.ofInt_add a b).symm
theorem iI_sub (a b : Int) : iI a - iI b = iI (a - b) := (Int32.ofInt_sub a b).symm
theorem iI_mul (a b : Int) : iI a * iI b = iI (a * b) := (Int32.ofInt_mul a b).symm
theorem jI_add (a b : Int) : jI a + jI b = jI (a + b) := (Int64.ofInt_add a b).symm
theorem jI_sub (a b : Int) : jI a - jI b = jI (a - b) := (Int64.ofInt_sub a b).symm
theorem jI_mul (a b : Int) : jI a * jI b = jI (a * b) := (Int64.ofInt_mul a b).symm
theorem jI_neg (a : Int) : -jI a = jI (-a) := (Int64.ofInt_neg a).symm
theorem iI_toInt {a : Int} (h1 : -2147483648 ≤ a) (h2 : a < 2147483648) : (iI a).toInt = a := Int32.toInt_ofInt_of_le (by omega) (by omega)
theorem jI_toInt {a : Int} (h1 : -9223372036854775808 ≤ a) (h2 : a < 9223372036854775808) : (jI a).toInt = a := Int64.toInt_ofInt_of_le (by omega) (by omega)
theorem iI_lt {a b : Int} (h1 : -2147483648 ≤ a) (h2 : a < 2147483648) (h3 : -2147483648 ≤ b) (h4 : b < 2147483648) : iI a < iI b ↔ a < b := by
  rw [Int32.lt_iff_toInt_lt, iI_toInt h1 h2, iI_toInt h3 h4]
theorem iI_le {a b : Int} (h1 : -2147483648 ≤ a) (h2 : a < 2147483648) (h3 : -2147483648 ≤ b) (h4 : b < 2147483648) : iI a ≤ iI b ↔ a ≤ b := by
  rw [Int32.le_iff_toInt_le, iI_toInt h1 h2, iI_toInt h3 h4]
theorem iI_eq {a b : Int} (h1 : -2147483648 ≤ a) (h2 : a < 2147483648) (h3 : -2147483648 ≤ b) (h4 : b < 2147483648) : iI a = iI b ↔ a = b := by
  rw [← Int32.toInt_inj, iI_toInt h1 h2, iI_toInt h3 h4]
theorem jI_lt {a b : Int} (h1 : -9223372036854775808 ≤ a) (h2 : a < 9223372036854775808) (h3 : -9223372036854775808 ≤ b) (h4 : b < 9223372036854775808) : jI a < jI b ↔ a < b := by
  rw [Int64.lt_iff_toInt_lt, jI_toInt h1 h2, jI_toInt h3 h4]
theorem jI_le {a b : Int} (h1 : -9223372036854775808 ≤ a) (h2 : a < 9223372036854775808) (h3 : -9223372036854775808 ≤ b) (h4 : b < 9223372036854775808) : jI a ≤ jI b ↔ a ≤ b := by
  rw [Int64.le_iff_toInt_le, jI_toInt h1 h2, jI_toInt h3 h4]
theorem jI_eq {a b : Int} (h1 : -9223372036854775808 ≤ a) (h2 : a < 9223372036854775808) (h3 : -9223372036854775808 ≤ b) (h4 : b < 9223372036854775808) : jI a = jI b ↔ a = b := by
  rw [← Int64.toInt_inj, jI_toInt h1 h2, jI_toInt h3 h4]
theorem iI_long {a : Int} (h1 : -2147483648 ≤ a) (h2 : a < 2147483648) : (iI a).toInt64 = jI a := by
  rw [← Int64.toInt_inj, Int32.toInt_toInt64, iI_toInt h1 h2, jI_toInt (by omega) (by omega)]
theorem jI_int (a : Int) : (jI a).toInt32 = iI a := Int64.toInt32_ofInt
theorem iI_in {a : Int} {n : Nat} (h1 : 0 ≤ a) (h2 : a < n) (hn : n < 2147483648) : vp_in (iI a) n := by
  rw [vp_in_iff, iI_toInt (by omega) (by omega)]
  exact ⟨h1, h2⟩
theorem iI_ix {a : Int} (h1 : 0 ≤ a) (h2 : a < 2147483648) : ix (iI a) = a.toNat := by
  obtain ⟨n, rfl⟩ := Int.eq_ofNat_of_zero_le h1
  rw [iI_nI]
  exact nI_clamp (by omega)
/-- any int is one -/
theorem iI_any (x : Int32) : ∃ a : Int, -2147483648 ≤ a ∧ a < 2147483648 ∧ x = iI a := ⟨x.toInt, Int32.le_toInt x, Int32.toInt_lt x, (Int32.ofInt_toInt x).symm⟩
/-- the sign of a compare of longs -/
theorem jI_cmp {a b : Int} (h1 : -9223372036854775808 ≤ a) (h2 : a < 9223372036854775808) (h3 : -9223372036854775808 ≤ b) (h4 : b < 9223372036854775808) : lg_cmp (jI a) (jI b) = if b < a then 1 else if a = b then 0 else (-1) := by
  unfold lg_cmp
  by_cases h : b < a
  · rw [if_pos ((jI_lt h3 h4 h1 h2).mpr h), if_pos h]
  · rw [if_neg (fun q => h ((jI_lt h3 h4 h1 h2).mp q)), if_neg h]
    by_cases h5 : a = b
    · rw [if_pos (congrArg jI h5), if_pos h5]
    · rw [if_neg (fun q => h5 ((jI_eq h1 h2 h3 h4).mp q)), if_neg h5]
theorem iI_div {a b : Int} (h1 : 0 ≤ a) (h2 : a < 2147483648) (h3 : 0 < b) (h4 : b < 2147483648) : iI a / iI b = iI (a / b) := by
  obtain ⟨m, rfl⟩ := Int.eq_ofNat_of_zero_le h1
  obtain ⟨d, rfl⟩ := Int.eq_ofNat_of_zero_le (Int.le_of_lt h3)
  rw [iI_nI, iI_nI, pk_div (by omega) (by omega) (by omega), ← iI_nI]
  rfl
end
section
/-! Geometry of promise 4, whole numbers alone: the empty circle rule, read as the sign of ONE determinant over a lift whose ties are broken by weights; two triangles to the right of one directed edge are one; at most 27 triangles. Nothing here speaks of the machine. -/
section
variable (X Y : Nat → Int)
/-- the turn of three spots -/
def ge_t (X Y : Nat → Int) (a b c : Nat) : Int := (X b - X a) * (Y c - Y a) - (Y b - Y a) * (X c - X a)
/-- the square of a distance -/
def ge_q (X Y : Nat → Int) (a b : Nat) : Int := (X a - X b) * (X a - X b) + (Y a - Y b) * (Y a - Y b)
/-- the circle's determinant -/
def ge_i (X Y : Nat → Int) (a b c d : Nat) : Int := ge_q X Y a d * ge_t X Y d b c - ge_q X Y b d * ge_t X Y d a c + ge_q X Y c d * ge_t X Y d a b
/-- the determinant of four lifted places -/
def ge_D (X Y : Nat → Int) (L : Nat → Int) (a b c d : Nat) : Int := L a * ge_t X Y b c d - L b * ge_t X Y a c d + L c * ge_t X Y a b d - L d * ge_t X Y a b c
def ge_K : Int := 40000 ^ 18
def ge_w (v : Nat) : Int := 40000 ^ (17 - v)
/-- the lift, with the weights that break ties -/
def ge_L (X Y : Nat → Int) (v : Nat) : Int := ge_K * (X v * X v + Y v * Y v) + ge_w v
def ge_E (X Y : Nat → Int) (a b c d : Nat) : Int := ge_D X Y (ge_L X Y) a b c d
def ge_dep (X Y : Nat → Int) (a b c d : Nat) : Int := if 0 < ge_t X Y a b c then ge_i X Y a b c d else -ge_i X Y a b c d
/-- d is in the circle through a < b < c -/
def ge_In (X Y : Nat → Int) (a b c d : Nat) : Prop := 0 < ge_dep X Y a b c d ∨ (ge_dep X Y a b c d = 0 ∧ a < d ∧ ((0 < ge_t X Y a d b) ↔ (0 < ge_t X Y a d c)))
/-- d is out of the circle through a, b, c, whatever their order -/
def ge_out (X Y : Nat → Int) (a b c d : Nat) : Prop := (0 < ge_t X Y a b c → ge_E X Y a b c d < 0) ∧ (ge_t X Y a b c < 0 → 0 < ge_E X Y a b c d)
/-- n spots, as the document has them -/
def ge_ok (X Y : Nat → Int) (n : Nat) : Prop := n ≤ 16 ∧ (∀ v, v < n → 0 ≤ X v ∧ X v ≤ 63 ∧ 0 ≤ Y v ∧ Y v ≤ 63) ∧ ∀ u v, u < n → v < n → X u = X v → Y u = Y v → u = v
def ge_tri (X Y : Nat → Int) (n a b c : Nat) : Prop := a < b ∧ b < c ∧ c < n ∧ ge_t X Y a b c ≠ 0 ∧ ∀ d, d < n → d ≠ a → d ≠ b → d ≠ c → ¬ ge_In X Y a b c d
/-- the same, whatever the order -/
def ge_T (X Y : Nat → Int) (n a b c : Nat) : Prop := a < n ∧ b < n ∧ c < n ∧ ge_t X Y a b c ≠ 0 ∧ ∀ d, d < n → d ≠ a → d ≠ b → d ≠ c → ge_out X Y a b c d
end
theorem ge_t_rot (X Y : Nat → Int) (a b c : Nat) : ge_t X Y b c a = ge_t X Y a b c := by unfold ge_t; grind
theorem ge_t_sw (X Y : Nat → Int) (a b c : Nat) : ge_t X Y a c b = -ge_t X Y a b c := by unfold ge_t; grind
theorem ge_t_sum (X Y : Nat → Int) (a b c d : Nat) : ge_t X Y b c d - ge_t X Y a c d + ge_t X Y a b d - ge_t X Y a b c = 0 := by unfold ge_t; grind
theorem ge_D_rot (X Y L : Nat → Int) (a b c d : Nat) : ge_D X Y L b c a d = ge_D X Y L a b c d := by
  unfold ge_D ge_t; grind
theorem ge_D_sw (X Y L : Nat → Int) (a b c d : Nat) : ge_D X Y L a c b d = -ge_D X Y L a b c d := by unfold ge_D ge_t; grind
theorem ge_D_sw3 (X Y L : Nat → Int) (a b c d : Nat) : ge_D X Y L a b d c = -ge_D X Y L a b c d := by unfold ge_D ge_t; grind
theorem ge_iz (X Y : Nat → Int) (a b c d z : Nat) : ge_i X Y a b c d = ge_t X Y b c d * ge_q X Y a z - ge_t X Y a c d * ge_q X Y b z + ge_t X Y a b d * ge_q X Y c z - ge_t X Y a b c * ge_q X Y d z := by
  unfold ge_i ge_q ge_t; grind
theorem ge_E_split (X Y : Nat → Int) (a b c d : Nat) : ge_E X Y a b c d = ge_K * ge_i X Y a b c d + ge_D X Y ge_w a b c d := by
  unfold ge_E ge_D ge_L ge_i ge_q ge_t; grind
/-! signs -/
theorem ge_neg3 {p q r s1 s2 s3 : Int} (h1 : 0 < s1) (h2 : 0 < s2) (h3 : 0 < s3) (hp : p ≤ 0) (hq : q ≤ 0) (hr : r ≤ 0) (e : p * s1 + q * s2 + r * s3 = 0) : p = 0 ∧ q = 0 ∧ r = 0 := by
  have a1 : 0 ≤ (-p) * s1 := Int.mul_nonneg (by omega) (by omega)
  have a2 : 0 ≤ (-q) * s2 := Int.mul_nonneg (by omega) (by omega)
  have a3 : 0 ≤ (-r) * s3 := Int.mul_nonneg (by omega) (by omega)
  rw [Int.neg_mul] at a1 a2 a3
  have b1 : p * s1 = 0 := by omega
  have b2 : q * s2 = 0 := by omega
  have b3 : r * s3 = 0 := by omega
  refine ⟨?_, ?_, ?_⟩
  · rcases Int.mul_eq_zero.mp b1 with h | h <;> omega
  · rcases Int.mul_eq_zero.mp b2 with h | h <;> omega
  · rcases Int.mul_eq_zero.mp b3 with h | h <;> omega
theorem ge_pos3 {p q r s1 s2 s3 : Int} (h1 : 0 < s1) (h2 : 0 < s2) (h3 : 0 < s3) (hp : 0 ≤ p) (hq : 0 ≤ q) (hr : 0 ≤ r) (e : p * s1 + q * s2 + r * s3 = 0) : p = 0 ∧ q = 0 ∧ r = 0 := by
  have h := ge_neg3 (p := -p) (q := -q) (r := -r) h1 h2 h3 (by omega) (by omega) (by omega) (by rw [Int.neg_mul, Int.neg_mul, Int.neg_mul]; omega)
  omega
/-- four different places on one circle: two of the four numbers are more than 0 and two less -/
theorem ge_22 {α β γ δ sab sac sad sbc sbd scd : Int} (hab : 0 < sab) (hac : 0 < sac) (had : 0 < sad) (hbc : 0 < sbc) (hbd : 0 < sbd) (hcd : 0 < scd) (hs : α + β + γ + δ = 0)
    (za : β * sab + γ * sac + δ * sad = 0) (zb : α * sab + γ * sbc + δ * sbd = 0) (zc : α * sac + β * sbc + δ * scd = 0) (zd : α * sad + β * sbd + γ * scd = 0) (hd : δ ≠ 0) :
    α ≠ 0 ∧ β ≠ 0 ∧ γ ≠ 0 ∧ ((0 < α ↔ 0 < δ) ↔ (0 < β ↔ 0 < γ)) := by
  have nA : ¬ (β ≤ 0 ∧ γ ≤ 0 ∧ δ ≤ 0) := fun ⟨x, y, z⟩ => hd (ge_neg3 hab hac had x y z za).2.2
  have pA : ¬ (0 ≤ β ∧ 0 ≤ γ ∧ 0 ≤ δ) := fun ⟨x, y, z⟩ => hd (ge_pos3 hab hac had x y z za).2.2
  have nB : ¬ (α ≤ 0 ∧ γ ≤ 0 ∧ δ ≤ 0) := fun ⟨x, y, z⟩ => hd (ge_neg3 hab hbc hbd x y z zb).2.2
  have pB : ¬ (0 ≤ α ∧ 0 ≤ γ ∧ 0 ≤ δ) := fun ⟨x, y, z⟩ => hd (ge_pos3 hab hbc hbd x y z zb).2.2
  have nC : ¬ (α ≤ 0 ∧ β ≤ 0 ∧ δ ≤ 0) := fun ⟨x, y, z⟩ => hd (ge_neg3 hac hbc hcd x y z zc).2.2
  have pC : ¬ (0 ≤ α ∧ 0 ≤ β ∧ 0 ≤ δ) := fun ⟨x, y, z⟩ => hd (ge_pos3 hac hbc hcd x y z zc).2.2
  have nD : ¬ (α ≤ 0 ∧ β ≤ 0 ∧ γ ≤ 0) := fun ⟨x, y, z⟩ => by
    have := ge_neg3 had hbd hcd x y z zd
    omega
  have pD : ¬ (0 ≤ α ∧ 0 ≤ β ∧ 0 ≤ γ) := fun ⟨x, y, z⟩ => by
    have := ge_pos3 had hbd hcd x y z zd
    omega
  clear za zb zc zd
  refine ⟨by omega, by omega, by omega, ?_⟩
  by_cases a1 : 0 < α <;> by_cases a2 : 0 < β <;> by_cases a3 : 0 < γ <;> by_cases a4 : 0 < δ <;> simp only [a1, a2, a3, a4, iff_self, true_iff, iff_true, false_iff, iff_false, not_true, not_false_iff] <;> omega
/-! sizes -/
theorem ge_mb {x y : Int} (h1 : -63 ≤ x) (h2 : x ≤ 63) (h3 : -63 ≤ y) (h4 : y ≤ 63) : -3969 ≤ x * y ∧ x * y ≤ 3969 := by
  have a := Int.mul_nonneg (a := 63 - x) (b := 63 + y) (by omega) (by omega)
  have b := Int.mul_nonneg (a := 63 + x) (b := 63 - y) (by omega) (by omega)
  have c := Int.mul_nonneg (a := 63 - x) (b := 63 - y) (by omega) (by omega)
  have d := Int.mul_nonneg (a := 63 + x) (b := 63 + y) (by omega) (by omega)
  simp only [Int.sub_mul, Int.mul_sub, Int.add_mul, Int.mul_add] at a b c d
  omega
theorem ge_t_b {X Y : Nat → Int} {n : Nat} (h : ge_ok X Y n) {a b c : Nat} (ha : a < n) (hb : b < n) (hc : c < n) : -7938 ≤ ge_t X Y a b c ∧ ge_t X Y a b c ≤ 7938 := by
  obtain ⟨a1, a2, a3, a4⟩ := h.2.1 a ha
  obtain ⟨b1, b2, b3, b4⟩ := h.2.1 b hb
  obtain ⟨c1, c2, c3, c4⟩ := h.2.1 c hc
  have p := ge_mb (x := X b - X a) (y := Y c - Y a) (by omega) (by omega) (by omega) (by omega)
  have q := ge_mb (x := Y b - Y a) (y := X c - X a) (by omega) (by omega) (by omega) (by omega)
  unfold ge_t
  omega
theorem ge_sqpos {x y : Int} (h : ¬ (x = 0 ∧ y = 0)) : 0 < x * x + y * y := by
  have a : 0 ≤ x * x := by rcases Int.le_total 0 x with h | h; exact Int.mul_nonneg h h; exact Int.mul_nonneg_of_nonpos_of_nonpos h h
  have b : 0 ≤ y * y := by rcases Int.le_total 0 y with h | h; exact Int.mul_nonneg h h; exact Int.mul_nonneg_of_nonpos_of_nonpos h h
  by_cases hx : x * x = 0
  · by_cases hy : y * y = 0
    · refine absurd ⟨?_, ?_⟩ h
      · rcases Int.mul_eq_zero.mp hx with h | h <;> exact h
      · rcases Int.mul_eq_zero.mp hy with h | h <;> exact h
    · omega
  · omega
theorem ge_q_pos {X Y : Nat → Int} {n : Nat} (h : ge_ok X Y n) {a b : Nat} (ha : a < n) (hb : b < n) (hab : a ≠ b) : 0 < ge_q X Y a b := by
  unfold ge_q
  exact ge_sqpos (fun ⟨h1, h2⟩ => hab (h.2.2 a b ha hb (by omega) (by omega)))
theorem ge_q_sym (X Y : Nat → Int) (a b : Nat) : ge_q X Y a b = ge_q X Y b a := by unfold ge_q; grind
theorem ge_q_self (X Y : Nat → Int) (a : Nat) : ge_q X Y a a = 0 := by unfold ge_q; grind
theorem ge_w_lt : ∀ v, v < 17 → ∀ u, u < 17 → v < u → 40000 * ge_w u ≤ ge_w v := by decide +kernel
theorem ge_w_pos : ∀ v, v < 17 → 0 < ge_w v := by decide +kernel
theorem ge_w_K : ∀ v, v < 17 → 40000 * ge_w v ≤ ge_K := by decide +kernel
/-- a bounded factor -/
theorem ge_wt {w t : Int} (hw : 0 < w) (h1 : -7938 ≤ t) (h2 : t ≤ 7938) : -(7938 * w) ≤ w * t ∧ w * t ≤ 7938 * w := by
  have a := Int.mul_nonneg (a := w) (b := t + 7938) (by omega) (by omega)
  have b := Int.mul_nonneg (a := w) (b := 7938 - t) (by omega) (by omega)
  simp only [Int.mul_sub, Int.mul_add] at a b
  omega
theorem ge_big {w t : Int} (hw : 0 < w) (h : 1 ≤ t) : w ≤ w * t := by
  have a := Int.mul_nonneg (a := w) (b := t - 1) (by omega) (by omega)
  simp only [Int.mul_sub] at a
  omega
theorem ge_small {w t : Int} (hw : 0 < w) (h : t ≤ -1) : w * t ≤ -w := by
  have a := Int.mul_nonneg (a := w) (b := -1 - t) (by omega) (by omega)
  simp only [Int.mul_sub] at a
  omega
/-- on the circle: the four turns -/
theorem ge_circ {X Y : Nat → Int} {n : Nat} (h : ge_ok X Y n) {a b c d : Nat} (ha : a < n) (hb : b < n) (hc : c < n) (hd : d < n) (hab : a ≠ b) (hac : a ≠ c) (had : a ≠ d) (hbc : b ≠ c) (hbd : b ≠ d) (hcd : c ≠ d)
    (ht : ge_t X Y a b c ≠ 0) (hi : ge_i X Y a b c d = 0) :
    ge_t X Y b c d ≠ 0 ∧ ge_t X Y a c d ≠ 0 ∧ ge_t X Y a b d ≠ 0 ∧ ((0 < ge_t X Y b c d ↔ ge_t X Y a b c < 0) ↔ (ge_t X Y a c d < 0 ↔ 0 < ge_t X Y a b d)) := by
  have e := ge_t_sum X Y a b c d
  have za := ge_iz X Y a b c d a
  have zb := ge_iz X Y a b c d b
  have zc := ge_iz X Y a b c d c
  have zd := ge_iz X Y a b c d d
  rw [hi, ge_q_self, Int.mul_zero] at za zb zc zd
  rw [ge_q_sym X Y b a, ge_q_sym X Y c a, ge_q_sym X Y d a] at za
  rw [ge_q_sym X Y c b, ge_q_sym X Y d b] at zb
  rw [ge_q_sym X Y d c] at zc
  have r := ge_22 (α := ge_t X Y b c d) (β := -ge_t X Y a c d) (γ := ge_t X Y a b d) (δ := -ge_t X Y a b c) (ge_q_pos h ha hb hab) (ge_q_pos h ha hc hac) (ge_q_pos h ha hd had) (ge_q_pos h hb hc hbc) (ge_q_pos h hb hd hbd) (ge_q_pos h hc hd hcd)
    (by omega) (by rw [Int.neg_mul, Int.neg_mul]; omega) (by rw [Int.neg_mul]; omega) (by rw [Int.neg_mul, Int.neg_mul]; omega) (by rw [Int.neg_mul]; omega) (by omega)
  obtain ⟨r1, r2, r3, r4⟩ := r
  refine ⟨r1, by omega, r3, ?_⟩
  have e1 : (0 < -ge_t X Y a b c) ↔ ge_t X Y a b c < 0 := by omega
  have e2 : (0 < -ge_t X Y a c d) ↔ ge_t X Y a c d < 0 := by omega
  rw [e1, e2] at r4
  exact r4
theorem ge_sg {x y : Int} (hx : x ≠ 0) (hy : y ≠ 0) : (x < 0 ↔ 0 < y) ↔ ¬ (y < 0 ↔ x < 0) := by
  rcases Int.lt_or_lt_of_ne hx with p | p <;> rcases Int.lt_or_lt_of_ne hy with q | q
  · exact ⟨fun h => absurd (h.mp p) (by omega), fun h => absurd ⟨fun _ => p, fun _ => q⟩ h⟩
  · exact ⟨fun _ h => absurd (h.mpr p) (by omega), fun _ => ⟨fun _ => q, fun _ => p⟩⟩
  · exact ⟨fun _ h => absurd (h.mp q) (by omega), fun _ => ⟨fun w => absurd w (by omega), fun w => absurd w (by omega)⟩⟩
  · exact ⟨fun h => absurd (h.mpr q) (by omega), fun h => absurd ⟨fun w => absurd w (by omega), fun w => absurd w (by omega)⟩ h⟩
/-- the rule of the document is the sign of the one determinant -/
theorem ge_inE {X Y : Nat → Int} {n : Nat} (h : ge_ok X Y n) {a b c d : Nat} (hab : a < b) (hbc : b < c) (hc : c < n) (hd : d < n) (had : d ≠ a) (hbd : d ≠ b) (hcd : d ≠ c) (ht : ge_t X Y a b c ≠ 0) :
    (¬ ge_In X Y a b c d) ↔ ge_out X Y a b c d := by
  have hn := h.1
  have ha : a < n := by omega
  have hb : b < n := by omega
  have k1 := ge_t_b h hb hc hd
  have k2 := ge_t_b h ha hc hd
  have k3 := ge_t_b h ha hb hd
  have k4 := ge_t_b h ha hb hc
  have wa := ge_w_pos a (by omega)
  have wb := ge_w_pos b (by omega)
  have wc := ge_w_pos c (by omega)
  have wd := ge_w_pos d (by omega)
  have m1 := ge_wt wa k1.1 k1.2
  have m2 := ge_wt wb k2.1 k2.2
  have m3 := ge_wt wc k3.1 k3.2
  have m4 := ge_wt wd k4.1 k4.2
  have Ka := ge_w_K a (by omega)
  have Kb := ge_w_K b (by omega)
  have Kc := ge_w_K c (by omega)
  have Kd := ge_w_K d (by omega)
  have ab := ge_w_lt a (by omega) b (by omega) hab
  have ac := ge_w_lt a (by omega) c (by omega) (by omega)
  have hE := ge_E_split X Y a b c d
  have hD : ge_D X Y ge_w a b c d = ge_w a * ge_t X Y b c d - ge_w b * ge_t X Y a c d + ge_w c * ge_t X Y a b d - ge_w d * ge_t X Y a b c := rfl
  rw [hD] at hE
  have Kp : 0 < ge_K := by decide +kernel
  have e1 : (0 < ge_t X Y a d b) ↔ ge_t X Y a b d < 0 := by rw [ge_t_sw X Y a b d]; omega
  have e2 : (0 < ge_t X Y a d c) ↔ ge_t X Y a c d < 0 := by rw [ge_t_sw X Y a c d]; omega
  generalize hi : ge_i X Y a b c d = i at hE
  have dep : ge_dep X Y a b c d = if 0 < ge_t X Y a b c then i else -i := by unfold ge_dep; rw [hi]
  unfold ge_In
  rw [dep, e1, e2]
  rcases Int.lt_or_lt_of_ne ht with t | t
  · rw [if_neg (by omega)]
    have out : ge_out X Y a b c d ↔ 0 < ge_E X Y a b c d := ⟨fun h => h.2 t, fun h => ⟨fun q => absurd q (by omega), fun _ => h⟩⟩
    rw [out]
    rcases Int.lt_trichotomy i 0 with i1 | i1 | i1
    · have q := ge_small Kp (show i ≤ -1 by omega)
      have E0 : ge_E X Y a b c d < 0 := by omega
      exact ⟨fun w => absurd (Or.inl (by omega)) w, fun w => absurd w (by omega)⟩
    · subst i1
      obtain ⟨n1, n2, n3, n4⟩ := ge_circ h ha hb hc hd (by omega) (by omega) (by omega) (by omega) (by omega) (by omega) ht hi
      rw [Int.mul_zero] at hE
      rcases Nat.lt_or_ge d a with l | l
      · have da := ge_w_lt d (by omega) a (by omega) l
        have q := ge_small wd (show ge_t X Y a b c ≤ -1 by omega)
        have E0 : 0 < ge_E X Y a b c d := by omega
        exact ⟨fun _ => E0, fun _ w => by rcases w with w | w; omega; exact absurd w.2.1 (by omega)⟩
      · have ad := ge_w_lt a (by omega) d (by omega) (by omega)
        have sg := ge_sg n2 n3
        rcases Int.lt_or_lt_of_ne n1 with u | u
        · have q := ge_small wa (show ge_t X Y b c d ≤ -1 by omega)
          have E0 : ge_E X Y a b c d < 0 := by omega
          have ne : ¬ (ge_t X Y a c d < 0 ↔ 0 < ge_t X Y a b d) := fun w => absurd ((n4.mpr w).mpr t) (by omega)
          have same := Classical.not_not.mp (fun w => ne (sg.mpr w))
          exact ⟨fun w => absurd (Or.inr ⟨by omega, by omega, same⟩) w, fun w => absurd w (by omega)⟩
        · have q := ge_big wa (show 1 ≤ ge_t X Y b c d by omega)
          have E0 : 0 < ge_E X Y a b c d := by omega
          have eq := n4.mp ⟨fun _ => t, fun _ => u⟩
          exact ⟨fun _ => E0, fun _ w => by rcases w with w | w; omega; exact sg.mp eq w.2.2⟩
    · have q := ge_big Kp (show 1 ≤ i by omega)
      have E0 : 0 < ge_E X Y a b c d := by omega
      exact ⟨fun _ => E0, fun _ w => by rcases w with w | w; omega; exact absurd w.1 (by omega)⟩
  · rw [if_pos t]
    have out : ge_out X Y a b c d ↔ ge_E X Y a b c d < 0 := ⟨fun h => h.1 t, fun h => ⟨fun _ => h, fun q => absurd q (by omega)⟩⟩
    rw [out]
    rcases Int.lt_trichotomy i 0 with i1 | i1 | i1
    · have q := ge_small Kp (show i ≤ -1 by omega)
      have E0 : ge_E X Y a b c d < 0 := by omega
      exact ⟨fun _ => E0, fun _ w => by rcases w with w | w; omega; exact absurd w.1 (by omega)⟩
    · subst i1
      obtain ⟨n1, n2, n3, n4⟩ := ge_circ h ha hb hc hd (by omega) (by omega) (by omega) (by omega) (by omega) (by omega) ht hi
      rw [Int.mul_zero] at hE
      rcases Nat.lt_or_ge d a with l | l
      · have da := ge_w_lt d (by omega) a (by omega) l
        have q := ge_big wd (show 1 ≤ ge_t X Y a b c by omega)
        have E0 : ge_E X Y a b c d < 0 := by omega
        exact ⟨fun _ => E0, fun _ w => by rcases w with w | w; omega; exact absurd w.2.1 (by omega)⟩
      · have ad := ge_w_lt a (by omega) d (by omega) (by omega)
        have sg := ge_sg n2 n3
        rcases Int.lt_or_lt_of_ne n1 with u | u
        · have q := ge_small wa (show ge_t X Y b c d ≤ -1 by omega)
          have E0 : ge_E X Y a b c d < 0 := by omega
          have eq := n4.mp ⟨fun w => absurd w (by omega), fun w => absurd w (by omega)⟩
          exact ⟨fun _ => E0, fun _ w => by rcases w with w | w; omega; exact sg.mp eq w.2.2⟩
        · have q := ge_big wa (show 1 ≤ ge_t X Y b c d by omega)
          have E0 : 0 < ge_E X Y a b c d := by omega
          have ne : ¬ (ge_t X Y a c d < 0 ↔ 0 < ge_t X Y a b d) := fun w => absurd ((n4.mpr w).mp u) (by omega)
          have same := Classical.not_not.mp (fun w => ne (sg.mpr w))
          exact ⟨fun w => absurd (Or.inr ⟨by omega, by omega, same⟩) w, fun w => absurd w (by omega)⟩
    · have q := ge_big Kp (show 1 ≤ i by omega)
      have E0 : 0 < ge_E X Y a b c d := by omega
      exact ⟨fun w => absurd (Or.inl (by omega)) w, fun w => absurd w (by omega)⟩
/-! triangles in any order -/
theorem ge_out_rot {X Y : Nat → Int} {a b c d : Nat} : ge_out X Y b c a d ↔ ge_out X Y a b c d := by
  unfold ge_out ge_E; rw [ge_t_rot, ge_D_rot]
theorem ge_out_sw {X Y : Nat → Int} {a b c d : Nat} : ge_out X Y a c b d ↔ ge_out X Y a b c d := by
  unfold ge_out ge_E; rw [ge_t_sw, ge_D_sw]; omega
theorem ge_T_rot {X Y : Nat → Int} {n a b c : Nat} (h : ge_T X Y n a b c) : ge_T X Y n b c a := by
  obtain ⟨h1, h2, h3, h4, h5⟩ := h
  exact ⟨h2, h3, h1, by rw [ge_t_rot]; exact h4, fun d e1 e2 e3 e4 => ge_out_rot.mpr (h5 d e1 e4 e2 e3)⟩
theorem ge_T_sw {X Y : Nat → Int} {n a b c : Nat} (h : ge_T X Y n a b c) : ge_T X Y n a c b := by
  obtain ⟨h1, h2, h3, h4, h5⟩ := h
  exact ⟨h1, h3, h2, by rw [ge_t_sw]; omega, fun d e1 e2 e3 e4 => ge_out_sw.mpr (h5 d e1 e2 e4 e3)⟩
theorem ge_T_of {X Y : Nat → Int} {n : Nat} (h : ge_ok X Y n) {a b c : Nat} (t : ge_tri X Y n a b c) : ge_T X Y n a b c := by
  obtain ⟨h1, h2, h3, h4, h5⟩ := t
  exact ⟨by omega, by omega, h3, h4, fun d e1 e2 e3 e4 => (ge_inE h h1 h2 h3 e1 e2 e3 e4 h4).mp (h5 d e1 e2 e3 e4)⟩
theorem ge_tri_of {X Y : Nat → Int} {n : Nat} (h : ge_ok X Y n) {a b c : Nat} (t : ge_T X Y n a b c) (h1 : a < b) (h2 : b < c) : ge_tri X Y n a b c := by
  obtain ⟨-, -, h3, h4, h5⟩ := t
  exact ⟨h1, h2, h3, h4, fun d e1 e2 e3 e4 => (ge_inE h h1 h2 h3 e1 e2 e3 e4 h4).mpr (h5 d e1 e2 e3 e4)⟩
theorem ge_t_ne {X Y : Nat → Int} {a b c : Nat} (h : ge_t X Y a b c ≠ 0) : a ≠ b ∧ a ≠ c ∧ b ≠ c := by
  refine ⟨?_, ?_, ?_⟩ <;> (intro e; subst e; apply h; unfold ge_t; grind)
/-- one triangle at most to the right of who goes from a to b -/
theorem ge_right {X Y : Nat → Int} {n a b c d : Nat} (h1 : ge_T X Y n a b c) (h2 : ge_T X Y n a b d) (t1 : ge_t X Y a b c < 0) (t2 : ge_t X Y a b d < 0) : c = d := by
  refine Classical.byContradiction fun hne => ?_
  have n1 := ge_t_ne h1.2.2.2.1
  have n2 := ge_t_ne h2.2.2.2.1
  have p := (h1.2.2.2.2 d h2.2.2.1 (Ne.symm n2.2.1) (Ne.symm n2.2.2) (Ne.symm hne)).2 t1
  have q := (h2.2.2.2.2 c h1.2.2.1 (Ne.symm n1.2.1) (Ne.symm n1.2.2) hne).2 t2
  unfold ge_E at p q
  rw [ge_D_sw3] at q
  omega
/-! the sweep: a place by kx x + ky y; a triangle is told by its middle spot and its side -/
def ge_k (kx ky : Int) (X Y : Nat → Int) (v : Nat) : Int := kx * X v + ky * Y v
theorem ge_D_0 (X Y L : Nat → Int) (a b c : Nat) : ge_D X Y L a b c a = 0 ∧ ge_D X Y L a b c b = 0 ∧ ge_D X Y L a b c c = 0 := by
  refine ⟨?_, ?_, ?_⟩ <;> (unfold ge_D ge_t; grind)
/-- the one identity -/
theorem ge_plk (px py qx qy rx ry sx sy lp lq lr ls kx ky : Int) :
    (kx * qx + ky * qy) * (-lr * (sx * py - sy * px) + ls * (rx * py - ry * px) - lp * (rx * sy - ry * sx)) - (kx * px + ky * py) * (-lr * (sx * qy - sy * qx) + ls * (rx * qy - ry * qx) - lq * (rx * sy - ry * sx))
    = -(kx * sx + ky * sy) * (-lp * (qx * ry - qy * rx) + lq * (px * ry - py * rx) - lr * (px * qy - py * qx)) + (kx * rx + ky * ry) * (-lp * (qx * sy - qy * sx) + lq * (px * sy - py * sx) - ls * (px * qy - py * qx)) := by grind
theorem ge_D_rel (X Y L : Nat → Int) (m p q v : Nat) : ge_D X Y L m p q v = -(L p - L m) * ((X q - X m) * (Y v - Y m) - (Y q - Y m) * (X v - X m)) + (L q - L m) * ((X p - X m) * (Y v - Y m) - (Y p - Y m) * (X v - X m)) - (L v - L m) * ((X p - X m) * (Y q - Y m) - (Y p - Y m) * (X q - X m)) := by
  unfold ge_D ge_t; grind
theorem ge_over_id (kx ky : Int) (X Y L : Nat → Int) (m p q r s : Nat) :
    (ge_k kx ky X Y q - ge_k kx ky X Y m) * ge_D X Y L m r s p - (ge_k kx ky X Y p - ge_k kx ky X Y m) * ge_D X Y L m r s q
    = -(ge_k kx ky X Y s - ge_k kx ky X Y m) * ge_D X Y L m p q r + (ge_k kx ky X Y r - ge_k kx ky X Y m) * ge_D X Y L m p q s := by
  rw [ge_D_rel X Y L m r s p, ge_D_rel X Y L m r s q, ge_D_rel X Y L m p q r, ge_D_rel X Y L m p q s]
  have h := ge_plk (X p - X m) (Y p - Y m) (X q - X m) (Y q - Y m) (X r - X m) (Y r - Y m) (X s - X m) (Y s - Y m) (L p - L m) (L q - L m) (L r - L m) (L s - L m) kx ky
  have e : ∀ v, ge_k kx ky X Y v - ge_k kx ky X Y m = kx * (X v - X m) + ky * (Y v - Y m) := fun v => by unfold ge_k; grind
  rw [e p, e q, e r, e s]
  exact h
theorem ge_T_ge {X Y : Nat → Int} {n m p q v : Nat} (h : ge_T X Y n m p q) (t : ge_t X Y m p q < 0) (hv : v < n) : 0 ≤ ge_D X Y (ge_L X Y) m p q v ∧ (ge_D X Y (ge_L X Y) m p q v = 0 → v = m ∨ v = p ∨ v = q) := by
  have z := ge_D_0 X Y (ge_L X Y) m p q
  by_cases h1 : v = m
  · subst h1; exact ⟨by omega, fun _ => Or.inl rfl⟩
  by_cases h2 : v = p
  · subst h2; exact ⟨by omega, fun _ => Or.inr (Or.inl rfl)⟩
  by_cases h3 : v = q
  · subst h3; exact ⟨by omega, fun _ => Or.inr (Or.inr rfl)⟩
  have o := (h.2.2.2.2 v hv h1 h2 h3).2 t
  unfold ge_E at o
  exact ⟨by omega, fun e => by omega⟩
/-- two triangles above one middle spot are one (above, as kx, ky have it) -/
theorem ge_above {X Y : Nat → Int} {n m p q r s : Nat} (kx ky : Int) (h1 : ge_T X Y n m p q) (h2 : ge_T X Y n m r s) (t1 : ge_t X Y m p q < 0) (t2 : ge_t X Y m r s < 0)
    (p1 : ge_k kx ky X Y p < ge_k kx ky X Y m) (q1 : ge_k kx ky X Y m < ge_k kx ky X Y q) (r1 : ge_k kx ky X Y r < ge_k kx ky X Y m) (s1 : ge_k kx ky X Y m < ge_k kx ky X Y s) : p = r ∧ q = s := by
  have e := ge_over_id kx ky X Y (ge_L X Y) m p q r s
  have ap := ge_T_ge h2 t2 h1.2.1
  have aq := ge_T_ge h2 t2 h1.2.2.1
  have ar := ge_T_ge h1 t1 h2.2.1
  have as := ge_T_ge h1 t1 h2.2.2.1
  generalize hp9 : ge_k kx ky X Y p = kp at *
  generalize hq9 : ge_k kx ky X Y q = kq at *
  generalize hr9 : ge_k kx ky X Y r = kr at *
  generalize hs9 : ge_k kx ky X Y s = ks at *
  generalize hm9 : ge_k kx ky X Y m = km at *
  have b1 := Int.mul_nonneg (a := kq - km) (by omega) ap.1
  have b2 := Int.mul_nonneg (a := km - kp) (by omega) aq.1
  have b3 := Int.mul_nonneg (a := ks - km) (by omega) ar.1
  have b4 := Int.mul_nonneg (a := km - kr) (by omega) as.1
  have f2 : (kp - km) * ge_D X Y (ge_L X Y) m r s q = -((km - kp) * ge_D X Y (ge_L X Y) m r s q) := by rw [← Int.neg_mul, Int.neg_sub]
  have f3 : -(ks - km) * ge_D X Y (ge_L X Y) m p q r = -((ks - km) * ge_D X Y (ge_L X Y) m p q r) := Int.neg_mul _ _
  have f4 : (kr - km) * ge_D X Y (ge_L X Y) m p q s = -((km - kr) * ge_D X Y (ge_L X Y) m p q s) := by rw [← Int.neg_mul, Int.neg_sub]
  rw [f2, f3, f4] at e
  have z1 : (kq - km) * ge_D X Y (ge_L X Y) m r s p = 0 := by omega
  have z2 : (km - kp) * ge_D X Y (ge_L X Y) m r s q = 0 := by omega
  have c1 : ge_D X Y (ge_L X Y) m r s p = 0 := by rcases Int.mul_eq_zero.mp z1 with h | h <;> omega
  have c2 : ge_D X Y (ge_L X Y) m r s q = 0 := by rcases Int.mul_eq_zero.mp z2 with h | h <;> omega
  have d1 := ap.2 c1
  have d2 := aq.2 c2
  constructor
  · rcases d1 with d | d | d
    · subst d; omega
    · exact d
    · subst d; omega
  · rcases d2 with d | d | d
    · subst d; omega
    · subst d; omega
    · exact d
/-! a code for each triangle -/
abbrev ge_y (X Y : Nat → Int) (v : Nat) : Int := ge_k 64 1 X Y v
theorem ge_y_inj {X Y : Nat → Int} {n : Nat} (h : ge_ok X Y n) {u v : Nat} (hu : u < n) (hv : v < n) (e : ge_y X Y u = ge_y X Y v) : u = v := by
  obtain ⟨a1, a2, a3, a4⟩ := h.2.1 u hu
  obtain ⟨b1, b2, b3, b4⟩ := h.2.1 v hv
  unfold ge_y ge_k at e
  exact h.2.2 u v hu hv (by omega) (by omega)
/-- m, p, q are a, b, c in some order -/
def ge_pm (a b c m p q : Nat) : Prop := (m = a ∧ p = b ∧ q = c) ∨ (m = a ∧ p = c ∧ q = b) ∨ (m = b ∧ p = a ∧ q = c) ∨ (m = b ∧ p = c ∧ q = a) ∨ (m = c ∧ p = a ∧ q = b) ∨ (m = c ∧ p = b ∧ q = a)
theorem ge_pm_T {X Y : Nat → Int} {n a b c m p q : Nat} (h : ge_T X Y n a b c) (e : ge_pm a b c m p q) : ge_T X Y n m p q := by
  rcases e with ⟨rfl, rfl, rfl⟩ | ⟨rfl, rfl, rfl⟩ | ⟨rfl, rfl, rfl⟩ | ⟨rfl, rfl, rfl⟩ | ⟨rfl, rfl, rfl⟩ | ⟨rfl, rfl, rfl⟩
  · exact h
  · exact ge_T_sw h
  · exact ge_T_sw (ge_T_rot h)
  · exact ge_T_rot h
  · exact ge_T_rot (ge_T_rot h)
  · exact ge_T_sw (ge_T_rot (ge_T_rot h))
theorem ge_pm_eq {a b c a' b' c' m p q : Nat} (h1 : a < b) (h2 : b < c) (h3 : a' < b') (h4 : b' < c') (e : ge_pm a b c m p q) (e' : ge_pm a' b' c' m p q) : a = a' ∧ b = b' ∧ c = c' := by
  unfold ge_pm at e e'
  omega
def ge_cod (X Y : Nat → Int) (a b c z : Nat) : Prop := ∃ m p q, ge_pm a b c m p q ∧ ge_y X Y p < ge_y X Y m ∧ ge_y X Y m < ge_y X Y q ∧ ((z = 2 * m ∧ ge_t X Y m p q < 0) ∨ (z = 2 * m + 1 ∧ 0 < ge_t X Y m p q))
theorem ge_cod_ex {X Y : Nat → Int} {n a b c : Nat} (h : ge_ok X Y n) (t : ge_tri X Y n a b c) : ∃ z, ge_cod X Y a b c z := by
  obtain ⟨h1, h2, h3, h4, h5⟩ := t
  have ab : ge_y X Y a ≠ ge_y X Y b := fun e => by have := ge_y_inj h (by omega) (by omega) e; omega
  have ac : ge_y X Y a ≠ ge_y X Y c := fun e => by have := ge_y_inj h (by omega) (by omega) e; omega
  have bc : ge_y X Y b ≠ ge_y X Y c := fun e => by have := ge_y_inj h (by omega) (by omega) e; omega
  have key : ∃ m p q, ge_pm a b c m p q ∧ ge_y X Y p < ge_y X Y m ∧ ge_y X Y m < ge_y X Y q := by
    by_cases x : ge_y X Y a < ge_y X Y b
    · by_cases y : ge_y X Y b < ge_y X Y c
      · exact ⟨b, a, c, Or.inr (Or.inr (Or.inl ⟨rfl, rfl, rfl⟩)), by omega, by omega⟩
      · by_cases w : ge_y X Y a < ge_y X Y c
        · exact ⟨c, a, b, Or.inr (Or.inr (Or.inr (Or.inr (Or.inl ⟨rfl, rfl, rfl⟩)))), by omega, by omega⟩
        · exact ⟨a, c, b, Or.inr (Or.inl ⟨rfl, rfl, rfl⟩), by omega, by omega⟩
    · by_cases y : ge_y X Y a < ge_y X Y c
      · exact ⟨a, b, c, Or.inl ⟨rfl, rfl, rfl⟩, by omega, by omega⟩
      · by_cases w : ge_y X Y b < ge_y X Y c
        · exact ⟨c, b, a, Or.inr (Or.inr (Or.inr (Or.inr (Or.inr ⟨rfl, rfl, rfl⟩)))), by omega, by omega⟩
        · exact ⟨b, c, a, Or.inr (Or.inr (Or.inr (Or.inl ⟨rfl, rfl, rfl⟩))), by omega, by omega⟩
  obtain ⟨m, p, q, e, y1, y2⟩ := key
  have t0 : ge_t X Y m p q ≠ 0 := (ge_pm_T (ge_T_of h ⟨h1, h2, h3, h4, h5⟩) e).2.2.2.1
  rcases Int.lt_or_lt_of_ne t0 with k | k
  · exact ⟨2 * m, m, p, q, e, y1, y2, Or.inl ⟨rfl, k⟩⟩
  · exact ⟨2 * m + 1, m, p, q, e, y1, y2, Or.inr ⟨rfl, k⟩⟩
theorem ge_cod_inj {X Y : Nat → Int} {n a b c a' b' c' z : Nat} (h : ge_ok X Y n) (t : ge_tri X Y n a b c) (t' : ge_tri X Y n a' b' c') (e : ge_cod X Y a b c z) (e' : ge_cod X Y a' b' c' z) : a = a' ∧ b = b' ∧ c = c' := by
  obtain ⟨m, p, q, i, y1, y2, k⟩ := e
  obtain ⟨m', r, s, i', y3, y4, k'⟩ := e'
  have T1 := ge_pm_T (ge_T_of h t) i
  have T2 := ge_pm_T (ge_T_of h t') i'
  have hm : m = m' := by omega
  subst hm
  have pq : p = r ∧ q = s := by
    rcases k with ⟨k1, k2⟩ | ⟨k1, k2⟩
    · rcases k' with ⟨k3, k4⟩ | ⟨k3, k4⟩
      · exact ge_above 64 1 T1 T2 k2 k4 y1 y2 y3 y4
      · omega
    · rcases k' with ⟨k3, k4⟩ | ⟨k3, k4⟩
      · omega
      · have f : ∀ v, ge_k (-64) (-1) X Y v = -ge_y X Y v := fun v => by unfold ge_y ge_k; omega
        have g := ge_above (-64) (-1) (ge_T_sw T1) (ge_T_sw T2) (by rw [ge_t_sw]; omega) (by rw [ge_t_sw]; omega) (by rw [f, f]; omega) (by rw [f, f]; omega) (by rw [f, f]; omega) (by rw [f, f]; omega)
        exact ⟨g.2, g.1⟩
  obtain ⟨rfl, rfl⟩ := pq
  exact ge_pm_eq t.1 t.2.1 t'.1 t'.2.1 i i'
/-! counting -/
theorem ge_php : ∀ (N k : Nat) (f : Nat → Nat), (∀ i, i < k → f i < N) → (∀ i j, i < j → j < k → f i ≠ f j) → k ≤ N := by
  intro N
  induction N with
  | zero => intro k f h _; rcases Nat.eq_zero_or_pos k with h0 | h0; omega; exact absurd (h 0 h0) (by omega)
  | succ N ih =>
    intro k f h inj
    rcases Nat.eq_zero_or_pos k with h0 | h0
    · omega
    obtain ⟨k', rfl⟩ : ∃ k', k = k' + 1 := ⟨k - 1, by omega⟩
    have := ih k' (fun i => if f i = N then f k' else f i) (fun i hi => by
      try dsimp only
      have a := h i (by omega)
      have b := h k' (by omega)
      have c := inj i k' hi (by omega)
      split <;> omega) (fun i j hi hj => by
      try dsimp only
      have a := inj i j hi (by omega)
      have b := inj i k' (by omega) (by omega)
      have c := inj j k' hj (by omega)
      split <;> split <;> omega)
    omega
theorem ge_min (P : Nat → Prop) (h : Nat → Int) : ∀ n, (∃ v, v < n ∧ P v) → ∃ z, z < n ∧ P z ∧ ∀ v, v < n → P v → h z ≤ h v := by
  intro n
  induction n with
  | zero => rintro ⟨v, hv, -⟩; omega
  | succ n ih =>
    intro e
    by_cases e' : ∃ v, v < n ∧ P v
    · obtain ⟨z, z1, z2, z3⟩ := ih e'
      by_cases c : P n ∧ h n < h z
      · refine ⟨n, by omega, c.1, fun v hv pv => ?_⟩
        rcases Nat.lt_or_ge v n with l | l
        · have := z3 v l pv; omega
        · have : v = n := by omega
          subst this; omega
      · refine ⟨z, by omega, z2, fun v hv pv => ?_⟩
        rcases Nat.lt_or_ge v n with l | l
        · exact z3 v l pv
        · have : v = n := by omega
          subst this
          rcases Int.lt_or_le (h v) (h z) with q | q
          · exact absurd ⟨pv, q⟩ c
          · exact q
    · obtain ⟨v, hv, pv⟩ := e
      have : v = n := by
        rcases Nat.lt_or_ge v n with l | l
        · exact absurd ⟨v, l, pv⟩ e'
        · omega
      subst this
      refine ⟨v, by omega, pv, fun u hu pu => ?_⟩
      rcases Nat.lt_or_ge u v with l | l
      · exact absurd ⟨u, l, pu⟩ e'
      · have : u = v := by omega
        subst this; omega
theorem ge_hull_id (X Y : Nat → Int) (f g z p q : Nat) : (ge_y X Y g - ge_y X Y f) * ge_t X Y z p q = -((ge_t X Y f g p - ge_t X Y f g z) * (ge_y X Y q - ge_y X Y z)) + (ge_t X Y f g q - ge_t X Y f g z) * (ge_y X Y p - ge_y X Y z) := by
  unfold ge_y ge_k ge_t; grind
/-- a code that no triangle has, of a spot that is neither the first nor the last -/
theorem ge_hull {X Y : Nat → Int} {n f g : Nat} (h : ge_ok X Y n) (hn : 3 ≤ n) (hf : f < n) (hg : g < n) (hfg : ge_y X Y f < ge_y X Y g) :
    ∃ w z, z < n ∧ z ≠ f ∧ z ≠ g ∧ (w = 2 * z ∨ w = 2 * z + 1) ∧ ∀ a b c, ge_tri X Y n a b c → ¬ ge_cod X Y a b c w := by
  have t0 : ge_t X Y f g f = 0 ∧ ge_t X Y f g g = 0 := by constructor <;> (unfold ge_t; grind)
  by_cases A : ∃ v, v < n ∧ (v ≠ f ∧ v ≠ g) ∧ ge_t X Y f g v ≤ 0
  · obtain ⟨v0, v1, v2, v3⟩ := A
    obtain ⟨z, z1, z2, z3⟩ := ge_min (fun v => v ≠ f ∧ v ≠ g) (fun v => ge_t X Y f g v) n ⟨v0, v1, v2⟩
    try dsimp only at z2 z3
    have z4 := z3 v0 v1 v2
    have all : ∀ v, v < n → ge_t X Y f g z ≤ ge_t X Y f g v := fun v hv => by
      by_cases e1 : v = f
      · subst e1; omega
      by_cases e2 : v = g
      · subst e2; omega
      exact z3 v hv ⟨e1, e2⟩
    refine ⟨2 * z + 1, z, z1, z2.1, z2.2, Or.inr rfl, fun a b c t k => ?_⟩
    obtain ⟨m, p, q, i, y1, y2, k⟩ := k
    have T1 := ge_pm_T (ge_T_of h t) i
    have k9 : m = z ∧ 0 < ge_t X Y m p q := by omega
    clear k
    obtain ⟨ez, k⟩ := k9
    subst ez
    have id := ge_hull_id X Y f g m p q
    have u1 := Int.mul_nonneg (a := ge_t X Y f g p - ge_t X Y f g m) (b := ge_y X Y q - ge_y X Y m) (by have := all p T1.2.1; omega) (by omega)
    have u2 := Int.mul_nonneg (a := ge_t X Y f g q - ge_t X Y f g m) (b := ge_y X Y m - ge_y X Y p) (by have := all q T1.2.2.1; omega) (by omega)
    have u3 := Int.mul_pos (a := ge_y X Y g - ge_y X Y f) (b := ge_t X Y m p q) (by omega) k
    have u4 : (ge_t X Y f g q - ge_t X Y f g m) * (ge_y X Y p - ge_y X Y m) = -((ge_t X Y f g q - ge_t X Y f g m) * (ge_y X Y m - ge_y X Y p)) := by rw [← Int.mul_neg, Int.neg_sub]
    rw [u4] at id
    omega
  · have B : ∀ v, v < n → v ≠ f → v ≠ g → 0 < ge_t X Y f g v := fun v hv e1 e2 => by
      rcases Int.lt_or_le 0 (ge_t X Y f g v) with q | q
      · exact q
      · exact absurd ⟨v, hv, ⟨e1, e2⟩, q⟩ A
    have ex : ∃ v, v < n ∧ (v ≠ f ∧ v ≠ g) := by
      by_cases e0 : 0 ≠ f ∧ 0 ≠ g
      · exact ⟨0, by omega, e0⟩
      by_cases e1 : 1 ≠ f ∧ 1 ≠ g
      · exact ⟨1, by omega, e1⟩
      exact ⟨2, by omega, by omega, by omega⟩
    obtain ⟨z, z1, z2, z3⟩ := ge_min (fun v => v ≠ f ∧ v ≠ g) (fun v => -ge_t X Y f g v) n ex
    try dsimp only at z2 z3
    have z5 := B z z1 z2.1 z2.2
    have all : ∀ v, v < n → ge_t X Y f g v ≤ ge_t X Y f g z := fun v hv => by
      by_cases e1 : v = f
      · subst e1; omega
      by_cases e2 : v = g
      · subst e2; omega
      have := z3 v hv ⟨e1, e2⟩
      omega
    refine ⟨2 * z, z, z1, z2.1, z2.2, Or.inl rfl, fun a b c t k => ?_⟩
    obtain ⟨m, p, q, i, y1, y2, k⟩ := k
    have T1 := ge_pm_T (ge_T_of h t) i
    have k9 : m = z ∧ ge_t X Y m p q < 0 := by omega
    clear k
    obtain ⟨ez, k⟩ := k9
    subst ez
    have id := ge_hull_id X Y f g m p q
    have u1 := Int.mul_nonneg (a := ge_t X Y f g m - ge_t X Y f g p) (b := ge_y X Y q - ge_y X Y m) (by have := all p T1.2.1; omega) (by omega)
    have u2 := Int.mul_nonneg (a := ge_t X Y f g m - ge_t X Y f g q) (b := ge_y X Y m - ge_y X Y p) (by have := all q T1.2.2.1; omega) (by omega)
    have u3 := Int.mul_pos (a := ge_y X Y g - ge_y X Y f) (b := -ge_t X Y m p q) (by omega) (by omega)
    rw [Int.mul_neg] at u3
    have u4 : (ge_t X Y f g q - ge_t X Y f g m) * (ge_y X Y p - ge_y X Y m) = (ge_t X Y f g m - ge_t X Y f g q) * (ge_y X Y m - ge_y X Y p) := by rw [← Int.neg_sub (ge_t X Y f g m), ← Int.neg_sub (ge_y X Y m), Int.neg_mul_neg]
    have u5 : -((ge_t X Y f g p - ge_t X Y f g m) * (ge_y X Y q - ge_y X Y m)) = (ge_t X Y f g m - ge_t X Y f g p) * (ge_y X Y q - ge_y X Y m) := by rw [← Int.neg_mul, Int.neg_sub]
    rw [u4, u5] at id
    omega
def ge_h (f g w k : Nat) : Nat := match k with
  | 0 => 2 * f
  | 1 => 2 * f + 1
  | 2 => 2 * g
  | 3 => 2 * g + 1
  | _ => w
theorem ge_h_or (f g w k : Nat) : ge_h f g w k = 2 * f ∨ ge_h f g w k = 2 * f + 1 ∨ ge_h f g w k = 2 * g ∨ ge_h f g w k = 2 * g + 1 ∨ ge_h f g w k = w := by
  unfold ge_h; split <;> simp
theorem ge_h_ne {f g w : Nat} (h1 : f ≠ g) (h2 : w ≠ 2 * f) (h3 : w ≠ 2 * f + 1) (h4 : w ≠ 2 * g) (h5 : w ≠ 2 * g + 1) {i j : Nat} (hij : i < j) (hj : j < 5) : ge_h f g w i ≠ ge_h f g w j := by
  have v0 : ge_h f g w 0 = 2 * f := rfl
  have v1 : ge_h f g w 1 = 2 * f + 1 := rfl
  have v2 : ge_h f g w 2 = 2 * g := rfl
  have v3 : ge_h f g w 3 = 2 * g + 1 := rfl
  have v4 : ge_h f g w 4 = w := rfl
  have a : i = 0 ∨ i = 1 ∨ i = 2 ∨ i = 3 := by omega
  have b : j = 1 ∨ j = 2 ∨ j = 3 ∨ j = 4 := by omega
  rcases a with rfl | rfl | rfl | rfl <;> rcases b with rfl | rfl | rfl | rfl <;> omega
/-- AT MOST 27 TRIANGLES -/
theorem ge_27 {X Y : Nat → Int} {n : Nat} (h : ge_ok X Y n) (cnt : Nat) (A B C : Nat → Nat) (ht : ∀ t, t < cnt → ge_tri X Y n (A t) (B t) (C t))
    (hd : ∀ i j, i < j → j < cnt → ¬ (A i = A j ∧ B i = B j ∧ C i = C j)) : cnt ≤ 27 := by
  rcases Nat.eq_zero_or_pos cnt with h0 | h0
  · omega
  have q0 := ht 0 h0
  have n3 : 3 ≤ n := by have a := q0.1; have b := q0.2.1; have c := q0.2.2.1; omega
  obtain ⟨f, f1, -, f3⟩ := ge_min (fun _ => True) (fun v => ge_y X Y v) n ⟨0, by omega, trivial⟩
  obtain ⟨g, g1, -, g3⟩ := ge_min (fun _ => True) (fun v => -ge_y X Y v) n ⟨0, by omega, trivial⟩
  try dsimp only at f3 g3
  have fg : ge_y X Y f < ge_y X Y g := by
    have a := f3 0 (by omega) trivial
    have b := g3 0 (by omega) trivial
    have c := f3 1 (by omega) trivial
    have d := g3 1 (by omega) trivial
    have e : ge_y X Y 0 ≠ ge_y X Y 1 := fun e => by have := ge_y_inj h (by omega) (by omega) e; omega
    omega
  have nfg : f ≠ g := fun e => by subst e; omega
  obtain ⟨w, z, w1, w2, w3, w4, w5⟩ := ge_hull h n3 f1 g1 fg
  have cf : ∀ t, ∃ u, t < cnt → ge_cod X Y (A t) (B t) (C t) u := fun t => by
    by_cases l : t < cnt
    · obtain ⟨u, hu⟩ := ge_cod_ex h (ht t l); exact ⟨u, fun _ => hu⟩
    · exact ⟨0, fun l' => absurd l' l⟩
  have F : ∀ t, t < cnt → ge_cod X Y (A t) (B t) (C t) (Classical.choose (cf t)) := fun t => Classical.choose_spec (cf t)
  have mid : ∀ t, t < cnt → Classical.choose (cf t) < 2 * n ∧ Classical.choose (cf t) ≠ 2 * f ∧ Classical.choose (cf t) ≠ 2 * f + 1 ∧ Classical.choose (cf t) ≠ 2 * g ∧ Classical.choose (cf t) ≠ 2 * g + 1 ∧ Classical.choose (cf t) ≠ w := fun t l => by
    have k := F t l
    have kw := w5 _ _ _ (ht t l)
    have nw : Classical.choose (cf t) ≠ w := fun e => by rw [e] at k; exact kw k
    obtain ⟨m, p, q, i, y1, y2, k⟩ := k
    have T1 := ge_pm_T (ge_T_of h (ht t l)) i
    have a := f3 p T1.2.1 trivial
    have b := g3 q T1.2.2.1 trivial
    have mf : m ≠ f := fun e => by subst e; omega
    have mg : m ≠ g := fun e => by subst e; omega
    have mn := T1.1
    omega
  have r := ge_php (2 * n) (cnt + 5) (fun t => if t < cnt then Classical.choose (cf t) else ge_h f g w (t - cnt))
    (fun i hi => by
      try dsimp only
      by_cases l : i < cnt
      · rw [if_pos l]; exact (mid i l).1
      · rw [if_neg l]
        have := ge_h_or f g w (i - cnt)
        omega)
    (fun i j hi hj => by
      try dsimp only
      by_cases lj : j < cnt
      · have li : i < cnt := by omega
        rw [if_pos lj, if_pos li]
        intro e
        have k1 := F i li
        have k2 := F j lj
        rw [e] at k1
        exact hd i j hi lj (ge_cod_inj h (ht i li) (ht j lj) k1 k2)
      · rw [if_neg lj]
        by_cases li : i < cnt
        · rw [if_pos li]
          have := mid i li
          have := ge_h_or f g w (j - cnt)
          omega
        · rw [if_neg li]
          exact ge_h_ne nfg (by omega) (by omega) (by omega) (by omega) (by omega) (by omega))
  have := h.1
  omega
end
section
/-! Triangles cover and do not overlap, as far as it is needed: round a spot, to one side of it, they follow one another; so sums round triangles that vanish come from a height of the spots. From that: the spots of a ring with the least x are all high or all low. Whole numbers alone. -/
/-- no four spots, three of which are not in a line, have determinant 0 -/
theorem ge_E_ne3 {X Y : Nat → Int} {n : Nat} (h : ge_ok X Y n) {a b c d : Nat} (hab : a < b) (hbc : b < c) (hc : c < n) (hd : d < n) (had : d ≠ a) (hbd : d ≠ b) (hcd : d ≠ c) (ht : ge_t X Y a b c ≠ 0) : ge_E X Y a b c d ≠ 0 := by
  have hn := h.1
  have ha : a < n := by omega
  have hb : b < n := by omega
  have k1 := ge_t_b h hb hc hd
  have k2 := ge_t_b h ha hc hd
  have k3 := ge_t_b h ha hb hd
  have k4 := ge_t_b h ha hb hc
  have wa := ge_w_pos a (by omega)
  have wb := ge_w_pos b (by omega)
  have wc := ge_w_pos c (by omega)
  have wd := ge_w_pos d (by omega)
  have m1 := ge_wt wa k1.1 k1.2
  have m2 := ge_wt wb k2.1 k2.2
  have m3 := ge_wt wc k3.1 k3.2
  have m4 := ge_wt wd k4.1 k4.2
  have Ka := ge_w_K a (by omega)
  have Kb := ge_w_K b (by omega)
  have Kc := ge_w_K c (by omega)
  have Kd := ge_w_K d (by omega)
  have ab := ge_w_lt a (by omega) b (by omega) hab
  have ac := ge_w_lt a (by omega) c (by omega) (by omega)
  have hE := ge_E_split X Y a b c d
  have hD : ge_D X Y ge_w a b c d = ge_w a * ge_t X Y b c d - ge_w b * ge_t X Y a c d + ge_w c * ge_t X Y a b d - ge_w d * ge_t X Y a b c := rfl
  rw [hD] at hE
  have Kp : 0 < ge_K := by decide +kernel
  generalize hi : ge_i X Y a b c d = i at hE ⊢
  rcases Int.lt_trichotomy i 0 with i1 | i1 | i1
  · have q := ge_small Kp (show i ≤ -1 by omega)
    omega
  · subst i1
    obtain ⟨n1, n2, n3, n4⟩ := ge_circ h ha hb hc hd (by omega) (by omega) (by omega) (by omega) (by omega) (by omega) ht hi
    rw [Int.mul_zero] at hE
    rcases Nat.lt_or_ge d a with l | l
    · have da := ge_w_lt d (by omega) a (by omega) l
      have db := ge_w_lt d (by omega) b (by omega) (by omega)
      have dc := ge_w_lt d (by omega) c (by omega) (by omega)
      rcases Int.lt_or_lt_of_ne ht with t | t
      · have q := ge_small wd (show ge_t X Y a b c ≤ -1 by omega)
        omega
      · have q := ge_big wd (show 1 ≤ ge_t X Y a b c by omega)
        omega
    · have ad := ge_w_lt a (by omega) d (by omega) (by omega)
      rcases Int.lt_or_lt_of_ne n1 with u | u
      · have q := ge_small wa (show ge_t X Y b c d ≤ -1 by omega)
        omega
      · have q := ge_big wa (show 1 ≤ ge_t X Y b c d by omega)
        omega
  · have q := ge_big Kp (show 1 ≤ i by omega)
    omega
theorem ge_E_rot (X Y : Nat → Int) (a b c d : Nat) : ge_E X Y b c a d = ge_E X Y a b c d := ge_D_rot X Y _ a b c d
theorem ge_E_sw (X Y : Nat → Int) (a b c d : Nat) : ge_E X Y a c b d = -ge_E X Y a b c d := ge_D_sw X Y _ a b c d
theorem ge_E_sw3 (X Y : Nat → Int) (a b c d : Nat) : ge_E X Y a b d c = -ge_E X Y a b c d := ge_D_sw3 X Y _ a b c d
theorem ge_E_ne {X Y : Nat → Int} {n : Nat} (h : ge_ok X Y n) {a b c d : Nat} (ha : a < n) (hb : b < n) (hc : c < n) (hd : d < n) (had : d ≠ a) (hbd : d ≠ b) (hcd : d ≠ c) (ht : ge_t X Y a b c ≠ 0) : ge_E X Y a b c d ≠ 0 := by
  obtain ⟨ab, ac, bc⟩ := ge_t_ne ht
  have r1 := ge_t_rot X Y a b c
  have r2 := ge_t_rot X Y b c a
  have s1 := ge_t_sw X Y a b c
  have s2 := ge_t_sw X Y b c a
  have s3 := ge_t_sw X Y c a b
  have R1 := ge_E_rot X Y a b c d
  have R2 := ge_E_rot X Y b c a d
  have S1 := ge_E_sw X Y a b c d
  have S2 := ge_E_sw X Y b c a d
  have S3 := ge_E_sw X Y c a b d
  rcases Nat.lt_or_gt_of_ne ab with l1 | l1 <;> rcases Nat.lt_or_gt_of_ne ac with l2 | l2 <;> rcases Nat.lt_or_gt_of_ne bc with l3 | l3
  · exact ge_E_ne3 h l1 l3 hc hd had hbd hcd ht
  · have := ge_E_ne3 h l2 l3 hb hd had hcd hbd (by omega); omega
  · omega
  · have := ge_E_ne3 h l2 l1 hb hd hcd had hbd (by omega); omega
  · have := ge_E_ne3 h l1 l2 hc hd hbd had hcd (by omega); omega
  · omega
  · have := ge_E_ne3 h l3 l2 ha hd hbd hcd had (by omega); omega
  · have := ge_E_ne3 h l3 l1 ha hd hcd hbd had (by omega); omega
/-! identities -/
theorem ge_id1 (X Y L : Nat → Int) (v u d k e : Nat) : ge_t X Y v u d * ge_D X Y L v u k e = ge_t X Y v u e * ge_D X Y L v u k d + ge_t X Y v u k * ge_D X Y L v u d e := by
  unfold ge_D ge_t; grind
theorem ge_id2 (X Y L : Nat → Int) (v u w p z : Nat) : -(ge_t X Y v p z) * ge_D X Y L v u w p = ge_t X Y v p w * ge_D X Y L v p z u + ge_t X Y v u p * ge_D X Y L v p z w := by
  unfold ge_D ge_t; grind
theorem ge_id3 (X Y L : Nat → Int) (v u p c z : Nat) : ge_t X Y v u c * ge_D X Y L v p z u + ge_t X Y v u z * ge_D X Y L v u c p = ge_t X Y v u p * ge_D X Y L v u c z := by
  unfold ge_D ge_t; grind
theorem ge_id4 (X Y : Nat → Int) (v u p z : Nat) : (ge_y X Y u - ge_y X Y v) * ge_t X Y v p z - (ge_y X Y p - ge_y X Y v) * ge_t X Y v u z + (ge_y X Y z - ge_y X Y v) * ge_t X Y v u p = 0 := by
  unfold ge_y ge_k ge_t; grind
/-! the signs of products -/
theorem ge_pp {a b : Int} (h1 : a < 0) (h2 : b < 0) : 0 < a * b := Int.mul_pos_of_neg_of_neg h1 h2
theorem ge_np {a b : Int} (h1 : a < 0) (h2 : 0 < b) : a * b < 0 := Int.mul_neg_of_neg_of_pos h1 h2
theorem ge_pn {a b : Int} (h1 : 0 < a) (h2 : b < 0) : a * b < 0 := Int.mul_neg_of_pos_of_neg h1 h2
theorem ge_ln {a b : Int} (h1 : a < 0) (h : 0 < a * b) : b < 0 := by
  rcases Int.lt_trichotomy b 0 with q | q | q
  · exact q
  · rw [q, Int.mul_zero] at h; omega
  · have := ge_np h1 q; omega
theorem ge_lp {a b : Int} (h1 : a < 0) (h : a * b < 0) : 0 < b := by
  rcases Int.lt_trichotomy b 0 with q | q | q
  · have := ge_pp h1 q; omega
  · rw [q, Int.mul_zero] at h; omega
  · exact q
theorem ge_rp {a b : Int} (h1 : 0 < a) (h : 0 < a * b) : 0 < b := by
  rcases Int.lt_trichotomy b 0 with q | q | q
  · have := ge_pn h1 q; omega
  · rw [q, Int.mul_zero] at h; omega
  · exact q
section
variable {X Y : Nat → Int} {n : Nat}
/-- a triangle to the right of who goes from p to q -/
def ge_R (X Y : Nat → Int) (n p q r : Nat) : Prop := ge_T X Y n p q r ∧ ge_t X Y p q r < 0
theorem ge_R_rot {p q r : Nat} (h : ge_R X Y n p q r) : ge_R X Y n q r p := ⟨ge_T_rot h.1, by rw [ge_t_rot]; exact h.2⟩
theorem ge_R_u {p q r r' : Nat} (h : ge_R X Y n p q r) (h' : ge_R X Y n p q r') : r = r' := ge_right h.1 h'.1 h.2 h'.2
/-- an edge of the mesh -/
def ge_e (X Y : Nat → Int) (n u v : Nat) : Prop := ∃ c, ge_T X Y n u v c
theorem ge_e_sym {u v : Nat} (h : ge_e X Y n u v) : ge_e X Y n v u := by
  obtain ⟨c, h⟩ := h
  exact ⟨c, ge_T_rot (ge_T_sw (ge_T_rot h)) |> ge_T_sw |> ge_T_rot |> ge_T_sw⟩
theorem ge_T_out {a b c d : Nat} (h : ge_T X Y n a b c) (hd : d < n) (h1 : d ≠ a) (h2 : d ≠ b) (h3 : d ≠ c) : (0 < ge_t X Y a b c → ge_E X Y a b c d < 0) ∧ (ge_t X Y a b c < 0 → 0 < ge_E X Y a b c d) := h.2.2.2.2 d hd h1 h2 h3
/-- the spot to the right of v, u that all others there are out of -/
theorem ge_best (ho : ge_ok X Y n) {v u : Nat} (hv : v < n) (hu : u < n) : ∀ k, k ≤ n → (∃ s, s < k ∧ ge_t X Y v u s < 0) → ∃ d, d < k ∧ ge_t X Y v u d < 0 ∧ ∀ e, e < k → ge_t X Y v u e < 0 → e ≠ d → 0 < ge_E X Y v u d e := by
  intro k
  induction k with
  | zero => rintro - ⟨s, hs, -⟩; omega
  | succ k ih =>
    intro hk hex
    by_cases ex : ∃ s, s < k ∧ ge_t X Y v u s < 0
    · obtain ⟨d, d1, d2, d3⟩ := ih (by omega) ex
      by_cases tk : ge_t X Y v u k < 0
      · have ne := ge_E_ne ho hv hu (show d < n by omega) (show k < n by omega) (by have := ge_t_ne (Int.ne_of_lt tk); omega) (by have := ge_t_ne (Int.ne_of_lt tk); omega) (by omega) (Int.ne_of_lt d2)
        rcases Int.lt_or_lt_of_ne ne with q | q
        · have q' : 0 < ge_E X Y v u k d := by rw [ge_E_sw3]; omega
          refine ⟨k, by omega, tk, fun e he te ne => ?_⟩
          by_cases ed : e = d
          · rw [ed]; exact q'
          · have i := ge_id1 X Y (ge_L X Y) v u d k e
            have p1 := d3 e (by omega) te ed
            have p2 := ge_np te q'
            have p3 := ge_np tk p1
            exact ge_lp d2 (by unfold ge_E at p2 p3 ⊢; omega)
        · refine ⟨d, by omega, d2, fun e he te ne => ?_⟩
          by_cases ek : e = k
          · rw [ek]; exact q
          · exact d3 e (by omega) te ne
      · exact ⟨d, by omega, d2, fun e he te ne => d3 e (by by_cases e = k; (rename_i q; rw [q] at te; exact absurd te tk); omega) te ne⟩
    · obtain ⟨s, s1, s2⟩ := hex
      have : s = k := by
        rcases Nat.lt_or_ge s k with l | l
        · exact absurd ⟨s, l, s2⟩ ex
        · omega
      subst this
      exact ⟨s, by omega, s2, fun e he te ne => absurd ⟨e, by omega, te⟩ ex⟩
/-- where an edge has a spot to its right, it has a triangle there -/
theorem ge_ex (ho : ge_ok X Y n) {v u s : Nat} (he : ge_e X Y n v u) (hs : s < n) (ts : ge_t X Y v u s < 0) : ∃ d, ge_R X Y n v u d := by
  obtain ⟨c, hc⟩ := he
  rcases Int.lt_or_lt_of_ne hc.2.2.2.1 with tc | tc
  · exact ⟨c, hc, tc⟩
  · obtain ⟨d, d1, d2, d3⟩ := ge_best ho hc.1 hc.2.1 n (Nat.le_refl _) ⟨s, hs, ts⟩
    have dn := ge_t_ne (Int.ne_of_lt d2)
    have dc : d ≠ c := fun e => by rw [e] at d2; omega
    refine ⟨d, ⟨hc.1, hc.2.1, d1, Int.ne_of_lt d2, fun e he e1 e2 e3 => ⟨fun q => absurd q (by omega), fun _ => ?_⟩⟩, d2⟩
    rcases Int.lt_or_le (ge_t X Y v u e) 0 with te | te
    · exact d3 e he te e3
    · have o := (ge_T_out hc d1 (Ne.symm dn.2.1) (Ne.symm dn.2.2) dc).1 tc
      have o' : 0 < ge_E X Y v u d c := by rw [ge_E_sw3]; omega
      by_cases ec : e = c
      · rw [ec]; exact o'
      · have p := (ge_T_out hc he e1 e2 ec).1 tc
        have i := ge_id1 X Y (ge_L X Y) v u c d e
        have p1 : 0 ≤ ge_t X Y v u e * ge_E X Y v u d c := Int.mul_nonneg te (by omega)
        have p2 := ge_pp d2 p
        exact ge_rp tc (by unfold ge_E at p1 p2 ⊢; omega)
/-- no edge from v runs into a triangle at v -/
theorem ge_in_no {v u w p : Nat} (h : ge_R X Y n v u w) (hp : ge_e X Y n v p) (t1 : ge_t X Y v u p < 0) (t2 : ge_t X Y v p w < 0) : False := by
  obtain ⟨z, hz⟩ := hp
  have n1 := ge_t_ne (Int.ne_of_lt t1)
  have n2 := ge_t_ne (Int.ne_of_lt t2)
  have o := (ge_T_out h.1 hz.2.1 (Ne.symm n1.2.1) (Ne.symm n1.2.2) n2.2.2).2 h.2
  have i := ge_id2 X Y (ge_L X Y) v u w p z
  have zz := ge_D_0 X Y (ge_L X Y) v p z
  have n3 := ge_t_ne hz.2.2.2.1
  have hu : 0 ≤ -(ge_t X Y v p z) * ge_D X Y (ge_L X Y) v p z u → True := fun _ => trivial
  rcases Int.lt_or_lt_of_ne hz.2.2.2.1 with t | t
  · have a1 : 0 ≤ ge_D X Y (ge_L X Y) v p z u := by
      by_cases e : u = z
      · rw [e]; omega
      · have := (ge_T_out hz h.1.2.1 (Ne.symm n1.1) n1.2.2 e).2 t; unfold ge_E at this; omega
    have a2 : 0 ≤ ge_D X Y (ge_L X Y) v p z w := by
      by_cases e : w = z
      · rw [e]; omega
      · have := (ge_T_out hz h.1.2.2.1 (Ne.symm n2.2.1) (Ne.symm n2.2.2) e).2 t; unfold ge_E at this; omega
    have b1 : ge_t X Y v p w * ge_D X Y (ge_L X Y) v p z u ≤ 0 := Int.mul_nonpos_of_nonpos_of_nonneg (by omega) a1
    have b2 : ge_t X Y v u p * ge_D X Y (ge_L X Y) v p z w ≤ 0 := Int.mul_nonpos_of_nonpos_of_nonneg (by omega) a2
    have b3 : 0 < -(ge_t X Y v p z) * ge_D X Y (ge_L X Y) v u w p := Int.mul_pos (by omega) o
    omega
  · have a1 : ge_D X Y (ge_L X Y) v p z u ≤ 0 := by
      by_cases e : u = z
      · rw [e]; omega
      · have := (ge_T_out hz h.1.2.1 (Ne.symm n1.1) n1.2.2 e).1 t; unfold ge_E at this; omega
    have a2 : ge_D X Y (ge_L X Y) v p z w ≤ 0 := by
      by_cases e : w = z
      · rw [e]; omega
      · have := (ge_T_out hz h.1.2.2.1 (Ne.symm n2.2.1) (Ne.symm n2.2.2) e).1 t; unfold ge_E at this; omega
    have b1 : 0 ≤ ge_t X Y v p w * ge_D X Y (ge_L X Y) v p z u := Int.mul_nonneg_of_nonpos_of_nonpos (by omega) a1
    have b2 : 0 ≤ ge_t X Y v u p * ge_D X Y (ge_L X Y) v p z w := Int.mul_nonneg_of_nonpos_of_nonpos (by omega) a2
    have b3 : -(ge_t X Y v p z) * ge_D X Y (ge_L X Y) v u w p < 0 := ge_np (by omega) o
    omega
/-- two edges from v one way are one -/
theorem ge_one {v u p : Nat} (hu : ge_e X Y n v u) (hp : ge_e X Y n v p) (ku : ge_y X Y u < ge_y X Y v) (kp : ge_y X Y p < ge_y X Y v) (t0 : ge_t X Y v u p = 0) : u = p := by
  refine Classical.byContradiction fun ne => ?_
  obtain ⟨c, hc⟩ := hu
  obtain ⟨z, hz⟩ := hp
  have i3 := ge_id3 X Y (ge_L X Y) v u p c z
  have i4 := ge_id4 X Y v u p z
  rw [t0, Int.zero_mul] at i3
  rw [t0, Int.mul_zero] at i4
  have nc := ge_t_ne hc.2.2.2.1
  have nz := ge_t_ne hz.2.2.2.1
  have pc : p ≠ c := fun e => hc.2.2.2.1 (by rw [← e]; exact t0)
  have t0' : ge_t X Y v p u = 0 := by rw [ge_t_sw]; omega
  have uz : u ≠ z := fun e => hz.2.2.2.1 (by rw [← e]; exact t0')
  have o1 := ge_T_out hc hz.2.1 (Ne.symm nz.1) (Ne.symm ne) pc
  have o2 := ge_T_out hz hc.2.1 (Ne.symm nc.1) ne uz
  unfold ge_E at o1 o2
  have a1 : ge_y X Y u - ge_y X Y v < 0 := by omega
  have a2 : ge_y X Y p - ge_y X Y v < 0 := by omega
  rcases Int.lt_or_lt_of_ne hz.2.2.2.1 with t | t
  · have z1 : ge_t X Y v u z < 0 := ge_ln a2 (by have := ge_pp a1 t; omega)
    have q2 := o2.2 t
    rcases Int.lt_or_lt_of_ne hc.2.2.2.1 with tc | tc
    · have q1 := o1.2 tc
      have b1 := ge_np tc q2
      have b2 := ge_np z1 q1
      omega
    · have q1 := o1.1 tc
      have b1 := Int.mul_pos tc q2
      have b2 := ge_pp z1 q1
      omega
  · have z1 : 0 < ge_t X Y v u z := ge_lp a2 (by have := ge_np a1 t; omega)
    have q2 := o2.1 t
    rcases Int.lt_or_lt_of_ne hc.2.2.2.1 with tc | tc
    · have q1 := o1.2 tc
      have b1 := ge_pp tc q2
      have b2 := Int.mul_pos z1 q1
      omega
    · have q1 := o1.1 tc
      have b1 := ge_pn tc q2
      have b2 := ge_pn z1 q1
      omega
end
/-! how many -/
noncomputable def ge_c (P : Nat → Prop) : Nat → Nat
  | 0 => 0
  | k + 1 => ge_c P k + @ite _ (P k) (Classical.propDecidable _) 1 0
theorem ge_c_le {P Q : Nat → Prop} (h : ∀ s, P s → Q s) : ∀ k, ge_c P k ≤ ge_c Q k := by
  intro k
  induction k with
  | zero => exact Nat.le_refl _
  | succ k ih =>
    show ge_c P k + _ ≤ ge_c Q k + _
    by_cases p : P k
    · rw [@if_pos _ (Classical.propDecidable _) p, @if_pos _ (Classical.propDecidable _) (h k p)]; omega
    · rw [@if_neg _ (Classical.propDecidable _) p]; omega
theorem ge_c_lt {P Q : Nat → Prop} (h : ∀ s, P s → Q s) {x : Nat} (hq : Q x) (hp : ¬ P x) : ∀ k, x < k → ge_c P k < ge_c Q k := by
  intro k
  induction k with
  | zero => intro l; omega
  | succ k ih =>
    intro l
    show ge_c P k + _ < ge_c Q k + _
    by_cases e : x = k
    · subst e
      rw [@if_neg _ (Classical.propDecidable _) hp, @if_pos _ (Classical.propDecidable _) hq]
      have := ge_c_le h x
      omega
    · have := ih (by omega)
      by_cases p : P k
      · rw [@if_pos _ (Classical.propDecidable _) p, @if_pos _ (Classical.propDecidable _) (h k p)]; omega
      · rw [@if_neg _ (Classical.propDecidable _) p]; omega
section
variable {X Y : Nat → Int} {n : Nat}
/-- what is the same over a triangle at v, of two spots ahead of v, is the same for all spots ahead of v that have an edge with v -/
theorem ge_fanR (ho : ge_ok X Y n) {v : Nat} {f : Nat → Int} (hf : ∀ a b, ge_T X Y n v a b → ge_y X Y a < ge_y X Y v → ge_y X Y b < ge_y X Y v → f a = f b) :
    ∀ (m : Nat) (u p : Nat), ge_c (fun s => ge_t X Y v u s < 0 ∧ ge_t X Y v s p < 0) n < m → ge_e X Y n v u → ge_e X Y n v p → ge_y X Y u < ge_y X Y v → ge_y X Y p < ge_y X Y v → ge_t X Y v u p < 0 → f u = f p := by
  intro m
  induction m with
  | zero => intro u p h; omega
  | succ m ih =>
    intro u p hm hu hp ku kp t
    obtain ⟨cp, hcp⟩ := hp
    obtain ⟨d, hd⟩ := ge_ex ho hu hcp.2.1 t
    have hp : ge_e X Y n v p := ⟨cp, hcp⟩
    have i4 := ge_id4 X Y v u p d
    have sd : ge_t X Y v d p = -ge_t X Y v p d := ge_t_sw X Y v p d
    have a1 : ge_y X Y u - ge_y X Y v < 0 := by omega
    have a2 : ge_y X Y p - ge_y X Y v < 0 := by omega
    have hv : ge_e X Y n v d := ⟨u, ge_T_sw hd.1⟩
    have no : ¬ ge_t X Y v p d < 0 := fun q => ge_in_no hd hp t q
    have kd : ge_y X Y d < ge_y X Y v := by
      have b1 : (ge_y X Y u - ge_y X Y v) * ge_t X Y v p d ≤ 0 := Int.mul_nonpos_of_nonpos_of_nonneg (by omega) (by omega)
      have b2 := ge_pp a2 hd.2
      have b3 : 0 < ge_t X Y v u p * (ge_y X Y d - ge_y X Y v) := by rw [Int.mul_comm]; omega
      have := ge_ln t b3
      omega
    have e1 := hf u d hd.1 ku kd
    by_cases z : ge_t X Y v p d = 0
    · have := ge_one hv hp kd kp (by omega)
      rw [e1, this]
    · have t2 : ge_t X Y v d p < 0 := by omega
      rw [e1]
      refine ih d p ?_ hv hp kd kp t2
      have sub : ∀ s, (ge_t X Y v d s < 0 ∧ ge_t X Y v s p < 0) → (ge_t X Y v u s < 0 ∧ ge_t X Y v s p < 0) := fun s ⟨s1, s2⟩ => by
        refine ⟨?_, s2⟩
        have j1 := ge_id4 X Y v d p s
        have ss : ge_t X Y v s p = -ge_t X Y v p s := ge_t_sw X Y v p s
        have a3 : ge_y X Y d - ge_y X Y v < 0 := by omega
        have c1 := ge_np a3 (show 0 < ge_t X Y v p s by omega)
        have c2 := ge_pp a2 s1
        have c3 : 0 < ge_t X Y v d p * (ge_y X Y s - ge_y X Y v) := by rw [Int.mul_comm]; omega
        have ks := ge_ln t2 c3
        have j2 := ge_id4 X Y v u d s
        have c4 := ge_pp a1 s1
        have c5 := ge_pp ks hd.2
        exact ge_ln a3 (by omega)
      have dd : ge_t X Y v d d = 0 := by unfold ge_t; grind
      have lt := ge_c_lt (P := fun s => ge_t X Y v d s < 0 ∧ ge_t X Y v s p < 0) (Q := fun s => ge_t X Y v u s < 0 ∧ ge_t X Y v s p < 0) sub (x := d) ⟨hd.2, t2⟩ (fun q => absurd q.1 (by omega)) n hd.1.2.2.1
      omega
theorem ge_fan (ho : ge_ok X Y n) {v : Nat} {f : Nat → Int} (hf : ∀ a b, ge_T X Y n v a b → ge_y X Y a < ge_y X Y v → ge_y X Y b < ge_y X Y v → f a = f b)
    {u p : Nat} (hu : ge_e X Y n v u) (hp : ge_e X Y n v p) (ku : ge_y X Y u < ge_y X Y v) (kp : ge_y X Y p < ge_y X Y v) : f u = f p := by
  rcases Int.lt_trichotomy (ge_t X Y v u p) 0 with t | t | t
  · exact ge_fanR ho hf _ u p (Nat.lt_succ_self _) hu hp ku kp t
  · rw [ge_one hu hp ku kp t]
  · exact (ge_fanR ho hf _ p u (Nat.lt_succ_self _) hp hu kp ku (by rw [ge_t_sw]; omega)).symm
/-- sums that vanish round each triangle come from a height of the spots; it is 0 up to a bound, where the sums are -/
theorem ge_pot (ho : ge_ok X Y n) {φ : Nat → Nat → Int} {B : Int} (anti : ∀ u v, φ u v = -φ v u) (coc : ∀ a b c, ge_T X Y n a b c → φ a b + φ b c + φ c a = 0) (h0 : ∀ u v, ge_e X Y n u v → ge_y X Y u ≤ B → ge_y X Y v ≤ B → φ u v = 0) :
    ∀ d : Nat, ∃ c : Nat → Int, (∀ s, s < n → ge_y X Y s ≤ B → c s = 0) ∧ ∀ u v, ge_e X Y n u v → ge_y X Y u ≤ B + d → ge_y X Y v ≤ B + d → c v - c u = φ u v := by
  intro d
  induction d with
  | zero => exact ⟨fun _ => 0, fun _ _ _ => rfl, fun u v he h1 h2 => by rw [h0 u v he (by omega) (by omega)]; rfl⟩
  | succ d ih =>
    obtain ⟨c, c1, c2⟩ := ih
    by_cases ex : ∃ v, v < n ∧ ge_y X Y v = B + (d + 1 : Nat)
    · obtain ⟨v, hv, kv⟩ := ex
      have edge_n : ∀ {a b : Nat}, ge_e X Y n a b → a < n ∧ b < n ∧ a ≠ b := fun {a b} ⟨z, hz⟩ => ⟨hz.1, hz.2.1, (ge_t_ne hz.2.2.2.1).1⟩
      have low : ∀ {a : Nat}, a < n → a ≠ v → ge_y X Y a ≤ B + (d + 1 : Nat) → ge_y X Y a ≤ B + d := fun {a} ha ne k => by
        have : ge_y X Y a ≠ ge_y X Y v := fun e => ne (ge_y_inj ho ha hv e)
        omega
      by_cases nb : ∃ u, ge_e X Y n v u ∧ ge_y X Y u < ge_y X Y v
      · obtain ⟨u0, e0, k0⟩ := nb
        have key : ∀ u, ge_e X Y n v u → ge_y X Y u < ge_y X Y v → c u + φ u v = c u0 + φ u0 v := fun u eu ku => by
          refine ge_fan ho (f := fun s => c s + φ s v) (fun a b t ka kb => ?_) eu e0 ku k0
          have w := coc v a b t
          have w2 := c2 a b ⟨v, ge_T_rot t⟩ (by omega) (by omega)
          have w3 := anti v a
          try dsimp only
          omega
        refine ⟨fun s => if s = v then c u0 + φ u0 v else c s, fun s hs k => ?_, fun a b he ka kb => ?_⟩
        · dsimp only
          have : s ≠ v := fun e => by rw [e] at k; omega
          rw [if_neg this]; exact c1 s hs k
        · dsimp only
          obtain ⟨ha, hb, hab⟩ := edge_n he
          by_cases ea : a = v
          · have eb : b ≠ v := fun q => hab (by rw [ea, q])
            rw [if_pos ea, if_neg eb]
            rw [ea] at he
            have w := key b he (by have := low hb eb kb; omega)
            have w2 := anti a b
            rw [ea] at w2 ⊢
            omega
          · rw [if_neg ea]
            by_cases eb : b = v
            · rw [if_pos eb]
              rw [eb] at he ⊢
              have w := key a (ge_e_sym he) (by have := low ha ea ka; omega)
              omega
            · rw [if_neg eb]
              exact c2 a b he (low ha ea ka) (low hb eb kb)
      · refine ⟨fun s => if s = v then 0 else c s, fun s hs k => ?_, fun a b he ka kb => ?_⟩
        · dsimp only
          split
          · rfl
          · exact c1 s hs k
        · dsimp only
          obtain ⟨ha, hb, hab⟩ := edge_n he
          have ea : a ≠ v := fun ea => by
            have eb : b ≠ v := fun q => hab (by rw [ea, q])
            rw [ea] at he
            exact nb ⟨b, he, by have := low hb eb kb; omega⟩
          have eb : b ≠ v := fun eb => by
            rw [eb] at he
            exact nb ⟨a, ge_e_sym he, by have := low ha ea ka; omega⟩
          rw [if_neg ea, if_neg eb]
          exact c2 a b he (low ha ea ka) (low hb eb kb)
    · refine ⟨c, c1, fun a b he ka kb => ?_⟩
      obtain ⟨z, hz⟩ := id he
      have low : ∀ {a : Nat}, a < n → ge_y X Y a ≤ B + (d + 1 : Nat) → ge_y X Y a ≤ B + d := fun {a} ha k => by
        have : ge_y X Y a ≠ B + (d + 1 : Nat) := fun e => ex ⟨a, ha, e⟩
        omega
      exact c2 a b he (low hz.1 ka) (low hz.2.1 kb)
/-- THE SPOTS OF A RING WITH THE LEAST x ARE ALL HIGH OR ALL LOW. C: its crossings, of a high and a low spot; a triangle has both of its crossings there or none; each has a triangle on either side; Q: a property that goes along -/
theorem ge_ring (ho : ge_ok X Y n) {Hi : Nat → Prop} {C : Nat → Nat → Prop} (r1 : ∀ h w, C h w → h < n ∧ w < n ∧ Hi h ∧ ¬ Hi w)
    (r2 : ∀ a b c, ge_T X Y n a b c → Hi a → ¬ Hi b → ((Hi c → (C a b ↔ C c b)) ∧ (¬ Hi c → (C a b ↔ C a c))))
    (r3 : ∀ h w, C h w → (∃ r, ge_R X Y n w h r) ∧ ∃ l, ge_R X Y n h w l)
    (r4 : ∀ P : Nat → Nat → Prop, (∀ a b c, ge_T X Y n a b c → Hi a → ¬ Hi b → C a b → (Hi c → (P a b ↔ P c b)) ∧ (¬ Hi c → (P a b ↔ P a c))) → ∀ h w h' w', C h w → C h' w' → (P h w ↔ P h' w'))
    {h w h' w' : Nat} (c1 : C h w) (c2 : C h' w') (least : ∀ a b, C a b → X h ≤ X a ∧ X h ≤ X b) (same : X w' = X h) : False := by
  -- the signed crossings
  let φ : Nat → Nat → Int := fun u v => @ite _ (C v u) (Classical.propDecidable _) 1 (@ite _ (C u v) (Classical.propDecidable _) (-1) 0)
  have φ1 : ∀ {u v}, C v u → φ u v = 1 := fun {u v} q => @if_pos _ (Classical.propDecidable _) q _ _ _
  have asym : ∀ {u v}, C u v → ¬ C v u := fun {u v} q q' => (r1 _ _ q').2.2.2 (r1 _ _ q).2.2.1
  have φ2 : ∀ {u v}, C u v → φ u v = -1 := fun {u v} q => (@if_neg _ (Classical.propDecidable _) (asym q) _ _ _).trans (@if_pos _ (Classical.propDecidable _) q _ _ _)
  have φ0 : ∀ {u v}, ¬ C u v → ¬ C v u → φ u v = 0 := fun {u v} q q' => (@if_neg _ (Classical.propDecidable _) q' _ _ _).trans (@if_neg _ (Classical.propDecidable _) q _ _ _)
  have anti : ∀ u v, φ u v = -φ v u := fun u v => by
    by_cases q : C u v
    · rw [φ2 q, φ1 q]
    · by_cases q' : C v u
      · rw [φ1 q', φ2 q']; rfl
      · rw [φ0 q q', φ0 q' q]; rfl
  have nH : ∀ {u v}, Hi u → Hi v → φ u v = 0 := fun {u v} q q' => φ0 (fun z => (r1 _ _ z).2.2.2 q') (fun z => (r1 _ _ z).2.2.2 q)
  have nL : ∀ {u v}, ¬ Hi u → ¬ Hi v → φ u v = 0 := fun {u v} q q' => φ0 (fun z => q (r1 _ _ z).2.2.1) (fun z => q' (r1 _ _ z).2.2.1)
  have hw : ∀ {u v}, Hi u → ¬ Hi v → φ v u = @ite _ (C u v) (Classical.propDecidable _) 1 0 := fun {u v} q q' => by
    by_cases z : C u v
    · rw [φ1 z, @if_pos _ (Classical.propDecidable _) z]
    · rw [φ0 (fun z' => q' (r1 _ _ z').2.2.1) z, @if_neg _ (Classical.propDecidable _) z]
  have coc1 : ∀ a b c, ge_T X Y n a b c → Hi a → ¬ Hi b → φ a b + φ b c + φ c a = 0 := fun a b c t ha hb => by
    have q := r2 a b c t ha hb
    by_cases hc : Hi c
    · rw [anti a b, hw ha hb, hw hc hb, nH hc ha]
      have e := q.1 hc
      by_cases z : C a b
      · rw [@if_pos _ (Classical.propDecidable _) z, @if_pos _ (Classical.propDecidable _) (e.mp z)]; rfl
      · rw [@if_neg _ (Classical.propDecidable _) z, @if_neg _ (Classical.propDecidable _) (fun y => z (e.mpr y))]; rfl
    · rw [anti a b, hw ha hb, nL hb hc, hw ha hc]
      have e := q.2 hc
      by_cases z : C a b
      · rw [@if_pos _ (Classical.propDecidable _) z, @if_pos _ (Classical.propDecidable _) (e.mp z)]; rfl
      · rw [@if_neg _ (Classical.propDecidable _) z, @if_neg _ (Classical.propDecidable _) (fun y => z (e.mpr y))]; rfl
  have coc : ∀ a b c, ge_T X Y n a b c → φ a b + φ b c + φ c a = 0 := fun a b c t => by
    by_cases ha : Hi a <;> by_cases hb : Hi b <;> by_cases hc : Hi c
    · rw [nH ha hb, nH hb hc, nH hc ha]; rfl
    · have := coc1 b c a (ge_T_rot t) hb hc; omega
    · exact coc1 a b c t ha hb
    · exact coc1 a b c t ha hb
    · have := coc1 c a b (ge_T_rot (ge_T_rot t)) hc ha; omega
    · have := coc1 b c a (ge_T_rot t) hb hc; omega
    · have := coc1 c a b (ge_T_rot (ge_T_rot t)) hc ha; omega
    · rw [nL ha hb, nL hb hc, nL hc ha]; rfl
  -- no crossing of the ring up to the least x
  have third : ∀ {a b c}, ge_T X Y n a b c → C a b → X h ≤ X c := fun {a b c} t q => by
    obtain ⟨-, -, qa, qb⟩ := r1 _ _ q
    by_cases hc : Hi c
    · exact (least _ _ (((r2 a b c t qa qb).1 hc).mp q)).1
    · exact (least _ _ (((r2 a b c t qa qb).2 hc).mp q)).2
  have no : ∀ a b, C a b → ¬ (X a ≤ X h ∧ X b ≤ X h) := fun a b q ⟨qa, qb⟩ => by
    have l := least a b q
    obtain ⟨⟨r, hr⟩, ⟨s, hs⟩⟩ := r3 a b q
    have t1 := third (ge_T_sw (ge_T_rot hr.1)) q
    have t2 := third hs.1 q
    have u1 := hr.2
    have u2 := hs.2
    unfold ge_t at u1 u2
    rw [show X a - X b = 0 by omega, Int.zero_mul] at u1
    rw [show X b - X a = 0 by omega, Int.zero_mul] at u2
    have v1 : 0 < (Y a - Y b) * (X r - X b) := by omega
    have v2 : 0 < (Y b - Y a) * (X s - X a) := by omega
    rcases Int.lt_or_le (Y a - Y b) 0 with y | y
    · have := ge_ln y v1; omega
    · have y' : Y b - Y a ≤ 0 := by omega
      rcases Int.lt_or_le (Y b - Y a) 0 with y2 | y2
      · have := ge_ln y2 v2; omega
      · rw [show Y b - Y a = 0 by omega, Int.zero_mul] at v2; omega
  have xb : ∀ {s}, s < n → (ge_y X Y s ≤ 64 * X h + 63 ↔ X s ≤ X h) := fun {s} hs => by
    obtain ⟨a1, a2, a3, a4⟩ := ho.2.1 s hs
    unfold ge_y ge_k
    omega
  have h0 : ∀ u v, ge_e X Y n u v → ge_y X Y u ≤ 64 * X h + 63 → ge_y X Y v ≤ 64 * X h + 63 → φ u v = 0 := fun u v he k1 k2 => by
    obtain ⟨z, hz⟩ := he
    have x1 := (xb hz.1).mp k1
    have x2 := (xb hz.2.1).mp k2
    exact φ0 (fun q => no _ _ q ⟨x1, x2⟩) (fun q => no _ _ q ⟨x2, x1⟩)
  obtain ⟨p, p1, p2⟩ := ge_pot ho anti coc h0 8192
  obtain ⟨hh, -, -, -⟩ := r1 _ _ c1
  obtain ⟨-, hw', -, -⟩ := r1 _ _ c2
  obtain ⟨b1, b2, -, -⟩ := ho.2.1 h hh
  have all : ∀ u v, ge_e X Y n u v → p v - p u = φ u v := fun u v he => by
    obtain ⟨z, hz⟩ := id he
    have e1 := ho.2.1 u hz.1
    have e2 := ho.2.1 v hz.2.1
    refine p2 u v he ?_ ?_ <;> (unfold ge_y ge_k; omega)
  have q1 := p1 h hh ((xb hh).mpr (Int.le_refl _))
  have q2 := p1 w' hw' ((xb hw').mpr (by omega))
  have ed : ∀ {a b}, C a b → ge_e X Y n a b := fun {a b} q => by
    obtain ⟨-, l, hl⟩ := r3 a b q
    exact ⟨l, hl.1⟩
  -- the height of the high side
  have P := r4 (fun a _ => p a = p h) (fun a b c t ha hb q => ⟨fun hc => ?_, fun hc => Iff.rfl⟩) h w h' w' c1 c2
  · have s1 := P.mp rfl
    have s2 := all w' h' (ge_e_sym (ed c2))
    rw [φ1 c2] at s2
    have s1 : p h' = p h := s1
    omega
  · have e := all a c ⟨b, ge_T_sw t⟩
    rw [nH ha hc] at e
    have e : p c = p a := by omega
    show p a = p h ↔ p c = p h
    rw [e]
end
end
section
/-! Walks along a partial one-to-one map of codes (crossings that go on to one another): nothing here speaks of the machine. F x = none: it ends there. -/
/-- i steps -/
def cr_w (F : Nat → Option Nat) : Nat → Nat → Option Nat
  | 0, x => some x
  | i + 1, x => (cr_w F i x).bind F
theorem cr_w_s {F : Nat → Option Nat} {i x y : Nat} (h : cr_w F i x = some y) : cr_w F (i + 1) x = F y := by
  show (cr_w F i x).bind F = F y
  rw [h]; rfl
theorem cr_w_p {F : Nat → Option Nat} {i x z : Nat} (h : cr_w F (i + 1) x = some z) : ∃ y, cr_w F i x = some y ∧ F y = some z := by
  have h : (cr_w F i x).bind F = some z := h
  cases e : cr_w F i x with
  | none => rw [e] at h; cases h
  | some y => rw [e] at h; exact ⟨y, rfl, h⟩
theorem cr_w_le {F : Nat → Option Nat} {x z : Nat} : ∀ (d i : Nat), cr_w F (i + d) x = some z → ∃ y, cr_w F i x = some y := by
  intro d
  induction d generalizing z with
  | zero => intro i h; exact ⟨z, h⟩
  | succ d ih => intro i h; obtain ⟨y, h1, -⟩ := cr_w_p (i := i + d) h; exact ih i h1
/-- one to one: from two places the same end, the same way long: the same place -/
theorem cr_w_inj {F : Nat → Option Nat} (inj : ∀ a b c, F a = some c → F b = some c → a = b) : ∀ (i : Nat) {x y z : Nat}, cr_w F i x = some z → cr_w F i y = some z → x = y := by
  intro i
  induction i with
  | zero => intro x y z h1 h2; cases h1; cases h2; rfl
  | succ i ih =>
    intro x y z h1 h2
    obtain ⟨a, a1, a2⟩ := cr_w_p h1
    obtain ⟨b, b1, b2⟩ := cr_w_p h2
    have := inj a b z a2 b2
    subst this
    exact ih a1 b1
theorem cr_w_add {F : Nat → Option Nat} : ∀ (j i : Nat) {x y z : Nat}, cr_w F i x = some y → cr_w F j y = some z → cr_w F (i + j) x = some z := by
  intro j
  induction j with
  | zero => intro i x y z h1 h2; cases h2; exact h1
  | succ j ih =>
    intro i x y z h1 h2
    obtain ⟨a, a1, a2⟩ := cr_w_p h2
    have h3 := ih i h1 a1
    show cr_w F ((i + j) + 1) x = some z
    rw [cr_w_s h3]; exact a2
theorem cr_w_mid {F : Nat → Option Nat} {i d x y z : Nat} (h1 : cr_w F i x = some y) (h2 : cr_w F (i + d) x = some z) : cr_w F d y = some z := by
  induction d generalizing z with
  | zero => rw [Nat.add_zero, h1] at h2; cases h2; rfl
  | succ d ih =>
    obtain ⟨a, a1, a2⟩ := cr_w_p (i := i + d) h2
    rw [cr_w_s (ih a1)]; exact a2
/-- as long as it has not come back, it is at a new place -/
theorem cr_new {F : Nat → Option Nat} (inj : ∀ a b c, F a = some c → F b = some c → a = b) {x k : Nat} (hb : ∀ j, 0 < j → j ≤ k → cr_w F j x ≠ some x) {i j y : Nat} (hij : i < j) (hj : j ≤ k) (h1 : cr_w F i x = some y) (h2 : cr_w F j x = some y) : False := by
  obtain ⟨d, rfl⟩ : ∃ d, j = d + i := ⟨j - i, by omega⟩
  obtain ⟨a, a1⟩ := cr_w_le i d h2
  have a2 : cr_w F i a = some y := cr_w_mid a1 h2
  have := cr_w_inj inj i a2 h1
  subst this
  exact hb d (by omega) (by omega) a1
/-- the walk from x: k steps, each at a new place, and then the end, or x again -/
def cr_is (F : Nat → Option Nat) (x k : Nat) : Prop := (∃ y, cr_w F k x = some y ∧ (F y = none ∨ F y = some x)) ∧ ∀ j, 0 < j → j ≤ k → cr_w F j x ≠ some x
theorem cr_is_u {F : Nat → Option Nat} {x k k' : Nat} (h : cr_is F x k) (h' : cr_is F x k') : k = k' := by
  have go : ∀ {a b : Nat}, cr_is F x a → cr_is F x b → ¬ a < b := by
    intro a b ha hb hab
    obtain ⟨⟨y, y1, y2⟩, -⟩ := ha
    obtain ⟨⟨z, z1, -⟩, zb⟩ := hb
    obtain ⟨d, rfl⟩ : ∃ d, b = (a + 1) + d := ⟨b - (a + 1), by omega⟩
    obtain ⟨u, u1⟩ := cr_w_le d (a + 1) z1
    rw [cr_w_s y1] at u1
    rcases y2 with q | q
    · rw [q] at u1; cases u1
    · exact zb (a + 1) (by omega) (by omega) (by rw [cr_w_s y1]; exact q)
  rcases Nat.lt_trichotomy k k' with l | l | l
  · exact absurd l (go h h')
  · exact l
  · exact absurd l (go h' h)
theorem cr_php : ∀ (N k : Nat) (f : Nat → Nat), (∀ i, i < k → f i < N) → (∀ i j, i < j → j < k → f i ≠ f j) → k ≤ N := by
  intro N
  induction N with
  | zero => intro k f h _; rcases Nat.eq_zero_or_pos k with h0 | h0; omega; exact absurd (h 0 h0) (by omega)
  | succ N ih =>
    intro k f h inj
    rcases Nat.eq_zero_or_pos k with h0 | h0
    · omega
    obtain ⟨k', rfl⟩ : ∃ k', k = k' + 1 := ⟨k - 1, by omega⟩
    have := ih k' (fun i => if f i = N then f k' else f i) (fun i hi => by
      try dsimp only
      have a := h i (by omega)
      have b := h k' (by omega)
      have c := inj i k' hi (by omega)
      split <;> omega) (fun i j hi hj => by
      try dsimp only
      have a := inj i j hi (by omega)
      have b := inj i k' (by omega) (by omega)
      have c := inj j k' hj (by omega)
      split <;> split <;> omega)
    omega
/-- there is such a walk, of fewer than M steps, where all its places have numbers below M -/
theorem cr_ex {F : Nat → Option Nat} (inj : ∀ a b c, F a = some c → F b = some c → a = b) {S : Nat → Prop} (hF : ∀ a b, F a = some b → S b) {ix : Nat → Nat} {M : Nat} (hi : ∀ a, S a → ix a < M) (hj : ∀ a b, S a → S b → ix a = ix b → a = b) {x : Nat} (hx : S x) :
    ∃ k, k < M ∧ cr_is F x k := by
  refine Classical.byContradiction fun hno => ?_
  have hno : ∀ k, k < M → ¬ cr_is F x k := fun k hk h => hno ⟨k, hk, h⟩
  have all : ∀ k, k ≤ M → (∃ y, cr_w F k x = some y) ∧ ∀ j, 0 < j → j ≤ k → cr_w F j x ≠ some x := by
    intro k
    induction k with
    | zero => intro _; exact ⟨⟨x, rfl⟩, fun j h1 h2 => by omega⟩
    | succ k ih =>
      intro hk
      obtain ⟨⟨y, y1⟩, y2⟩ := ih (by omega)
      have n := hno k (by omega)
      have e := cr_w_s y1
      cases q : F y with
      | none => exact absurd ⟨⟨y, y1, Or.inl q⟩, y2⟩ n
      | some z =>
        have nz : z ≠ x := fun h => n ⟨⟨y, y1, Or.inr (by rw [q, h])⟩, y2⟩
        refine ⟨⟨z, by rw [e]; exact q⟩, fun j h1 h2 => ?_⟩
        rcases Nat.lt_or_ge j (k + 1) with l | l
        · exact y2 j h1 (by omega)
        · have : j = k + 1 := by omega
          subst this
          rw [e, q]
          exact fun h => nz (Option.some.inj h)
  obtain ⟨-, hb⟩ := all M (Nat.le_refl _)
  have dd : ∀ k, k ≤ M → ∃ y, cr_w F k x = some y := fun k hk => (all k hk).1
  have pl : ∀ k, ∃ y, k ≤ M → cr_w F k x = some y := fun k => by
    by_cases l : k ≤ M
    · obtain ⟨y, hy⟩ := dd k l; exact ⟨y, fun _ => hy⟩
    · exact ⟨0, fun l' => absurd l' l⟩
  have P : ∀ k, k ≤ M → cr_w F k x = some (Classical.choose (pl k)) := fun k => Classical.choose_spec (pl k)
  have inS : ∀ k, k ≤ M → S (Classical.choose (pl k)) := fun k hk => by
    have h := P k hk
    rcases Nat.eq_zero_or_pos k with h0 | h0
    · subst h0
      have : x = Classical.choose (pl 0) := Option.some.inj h
      rw [← this]; exact hx
    · obtain ⟨k', rfl⟩ : ∃ k', k = k' + 1 := ⟨k - 1, by omega⟩
      obtain ⟨y, -, y2⟩ := cr_w_p h
      exact hF _ _ y2
  have := cr_php M (M + 1) (fun k => ix (Classical.choose (pl k))) (fun k hk => hi _ (inS k (by omega))) (fun i j hij hjk e => by
    have e2 := hj _ _ (inS i (by omega)) (inS j (by omega)) e
    have a := P i (by omega)
    have b := P j (by omega)
    rw [e2] at a
    exact cr_new inj hb hij (by omega) a b)
  omega
/-! there and back: N and B undo one another -/
theorem cr_back {N B : Nat → Option Nat} (inv : ∀ x y, N x = some y ↔ B y = some x) : ∀ (i : Nat) {x y : Nat}, cr_w N i x = some y → cr_w B i y = some x := by
  intro i
  induction i with
  | zero => intro x y h; cases h; rfl
  | succ i ih =>
    intro x y h
    obtain ⟨z, z1, z2⟩ := cr_w_p h
    have h1 : cr_w B 1 y = some z := by show (some y).bind B = some z; exact (inv z y).mp z2
    have := cr_w_add i 1 h1 (ih z1)
    rw [Nat.add_comm] at this
    exact this
theorem cr_injN {N B : Nat → Option Nat} (inv : ∀ x y, N x = some y ↔ B y = some x) : ∀ a b c, N a = some c → N b = some c → a = b := fun a b c h1 h2 => by
  have e1 := (inv a c).mp h1
  have e2 := (inv b c).mp h2
  rw [e1] at e2
  exact Option.some.inj e2
theorem cr_injB {N B : Nat → Option Nat} (inv : ∀ x y, N x = some y ↔ B y = some x) : ∀ a b c, B a = some c → B b = some c → a = b := fun a b c h1 h2 => by
  have e1 := (inv c a).mpr h1
  have e2 := (inv c b).mpr h2
  rw [e1] at e2
  exact Option.some.inj e2
/-- where a contour through x begins: back to the border, or x itself -/
def cr_beg (B : Nat → Option Nat) (x f : Nat) : Prop := ∃ k, cr_is B x k ∧ ((∃ y, cr_w B k x = some y ∧ B y = none ∧ f = y) ∨ (∃ y, cr_w B k x = some y ∧ B y = some x ∧ f = x))
theorem cr_beg_u {B : Nat → Option Nat} {x f f' : Nat} (h : cr_beg B x f) (h' : cr_beg B x f') : f = f' := by
  obtain ⟨k, k1, k2⟩ := h
  obtain ⟨k', k3, k4⟩ := h'
  have := cr_is_u k1 k3
  subst this
  rcases k2 with ⟨y, y1, y2, rfl⟩ | ⟨y, y1, y2, rfl⟩ <;> rcases k4 with ⟨z, z1, z2, rfl⟩ | ⟨z, z1, z2, rfl⟩
  · rw [y1] at z1; exact Option.some.inj z1
  · rw [y1] at z1; cases z1; rw [y2] at z2; cases z2
  · rw [y1] at z1; cases z1; rw [y2] at z2; cases z2
  · rfl
theorem cr_beg_ex {B : Nat → Option Nat} {x k : Nat} (h : cr_is B x k) : ∃ f, cr_beg B x f := by
  obtain ⟨y, y1, y2⟩ := h.1
  rcases y2 with q | q
  · exact ⟨y, k, h, Or.inl ⟨y, y1, q, rfl⟩⟩
  · exact ⟨x, k, h, Or.inr ⟨y, y1, q, rfl⟩⟩
/-- the walk on from the beginning ends at the border just if it began there -/
theorem cr_ends {N B : Nat → Option Nat} (inv : ∀ x y, N x = some y ↔ B y = some x) {x f m y : Nat} (hb : cr_beg B x f) (hm : cr_is N f m) (hy : cr_w N m f = some y) : (N y = none ∧ B f = none) ∨ (N y = some f ∧ B f = some y) := by
  obtain ⟨⟨y', y1, y2⟩, nb⟩ := hm
  rw [y1] at hy
  cases hy
  rcases y2 with q | q
  · refine Or.inl ⟨q, ?_⟩
    obtain ⟨k, k1, k2⟩ := hb
    rcases k2 with ⟨z, z1, z2, rfl⟩ | ⟨z, z1, z2, rfl⟩
    · exact z2
    · exfalso
      have r : cr_w B (k + 1) f = some f := by rw [cr_w_s z1]; exact z2
      have inv' : ∀ a b, B a = some b ↔ N b = some a := fun a b => (inv b a).symm
      have r2 : cr_w N (k + 1) f = some f := cr_back inv' (k + 1) r
      rcases Nat.lt_or_ge m (k + 1) with l | l
      · obtain ⟨d, e⟩ : ∃ d, k + 1 = (m + 1) + d := ⟨k - m, by omega⟩
        rw [e] at r2
        obtain ⟨u, u1⟩ := cr_w_le d (m + 1) r2
        rw [cr_w_s y1, q] at u1
        cases u1
      · exact nb (k + 1) (by omega) l r2
  · exact Or.inr ⟨q, (inv y f).mp q⟩
/-- a set that is closed under both -/
def cr_cl (N : Nat → Option Nat) (T : Nat → Prop) : Prop := ∀ x y, N x = some y → (T x ↔ T y)
theorem cr_cl_w {N : Nat → Option Nat} {T : Nat → Prop} (h : cr_cl N T) : ∀ (i : Nat) {x y : Nat}, cr_w N i x = some y → (T x ↔ T y) := by
  intro i
  induction i with
  | zero => intro x y e; cases e; exact Iff.rfl
  | succ i ih =>
    intro x y e
    obtain ⟨z, z1, z2⟩ := cr_w_p e
    exact (ih z1).trans (h z y z2)
/-- nothing of the contour of x is in T, if x isn't -/
theorem cr_beg_out {N B : Nat → Option Nat} (inv : ∀ x y, N x = some y ↔ B y = some x) {T : Nat → Prop} (h : cr_cl N T) {x f : Nat} (hx : ¬ T x) (hb : cr_beg B x f) : ¬ T f := by
  obtain ⟨k, -, k2⟩ := hb
  have inv' : ∀ a b, B a = some b ↔ N b = some a := fun a b => (inv b a).symm
  have go : ∀ {y}, cr_w B k x = some y → ¬ T y := fun {y} e => by
    have e2 : cr_w N k y = some x := cr_back inv' k e
    exact fun t => hx ((cr_cl_w h k e2).mp t)
  rcases k2 with ⟨z, z1, z2, rfl⟩ | ⟨z, z1, z2, rfl⟩
  · exact go z1
  · exact hx
/-- with the contour the set is closed again -/
theorem cr_cl_add {N B : Nat → Option Nat} (inv : ∀ x y, N x = some y ↔ B y = some x) {T : Nat → Prop} (h : cr_cl N T) {x f m : Nat} (hb : cr_beg B x f) (hm : cr_is N f m) : cr_cl N (fun z => T z ∨ ∃ j, j ≤ m ∧ cr_w N j f = some z) := by
  obtain ⟨⟨ye, ye1, -⟩, -⟩ := id hm
  have en := cr_ends inv hb hm ye1
  intro a b e
  constructor
  · rintro (t | ⟨j, j1, j2⟩)
    · exact Or.inl ((h a b e).mp t)
    · rcases Nat.lt_or_ge j m with l | l
      · exact Or.inr ⟨j + 1, by omega, by rw [cr_w_s j2]; exact e⟩
      · have : j = m := by omega
        subst this
        rw [ye1] at j2
        cases j2
        rcases en with ⟨q, -⟩ | ⟨q, -⟩
        · rw [q] at e; cases e
        · rw [q] at e; cases e; exact Or.inr ⟨0, by omega, rfl⟩
  · rintro (t | ⟨j, j1, j2⟩)
    · exact Or.inl ((h a b e).mpr t)
    · rcases Nat.eq_zero_or_pos j with j0 | j0
      · subst j0
        cases j2
        have eb := (inv a f).mp e
        rcases en with ⟨-, q⟩ | ⟨-, q⟩
        · rw [q] at eb; cases eb
        · rw [q] at eb; cases eb; exact Or.inr ⟨m, Nat.le_refl _, ye1⟩
      · obtain ⟨j', rfl⟩ : ∃ j', j = j' + 1 := ⟨j - 1, by omega⟩
        obtain ⟨z, z1, z2⟩ := cr_w_p j2
        have := cr_injN inv z a b z2 e
        subst this
        exact Or.inr ⟨j', by omega, z1⟩
end
section
/-! What each method needs of the state, and what it answers, read off its bytecode by a program: printed. -/
def wp_li_size (g : St) (post : Int32 → St → Prop) : Prop :=
  (post (g 3 5) g)
def wp_li_isLine (x1 : Int32) (g : St) (post : Int32 → St → Prop) : Prop :=
  ((x1 < 0 → (post 0 g)) ∧ (¬ (x1 < 0) → (((g 3 5) ≤ x1 → (post 0 g)) ∧ (¬ ((g 3 5) ≤ x1) → (post 1 g)))))
def wp_li_length (x1 : Int32) (g : St) (post : Int32 → St → Prop) : Prop :=
  (vp_in (x1 + 1) 121 ∧ (vp_in x1 121 ∧ (post ((g 12 (ix (x1 + 1))) - (g 12 (ix x1))) g)))
def wp_li_isRing (x1 : Int32) (g : St) (post : Int32 → St → Prop) : Prop :=
  (vp_in x1 120 ∧ (narrow .boolean (.int (g 13 (ix x1))) = .int (g 13 (ix x1)) ∧ post (g 13 (ix x1)) g))
def wp_li_pair (x1 : Int32) (x2 : Int32) (g : St) (post : Int32 → St → Prop) : Prop :=
  (vp_in x1 121 ∧ (vp_in ((g 12 (ix x1)) + x2) 120 ∧ (post (g 11 (ix ((g 12 (ix x1)) + x2))) g)))
def wp_sc_highOf (x0 : Int32) (g : St) (post : Int32 → St → Prop) : Prop :=
  (post (x0 / 16) g)
def wp_sp_x (x1 : Int32) (g : St) (post : Int32 → St → Prop) : Prop :=
  (vp_in x1 16 ∧ (post (g 5 (ix x1)) g))
def wp_li_moreLeft (x1 : Int32) (x2 : Int32) (g : St) (post : Int32 → St → Prop) : Prop :=
  (wp_sp_x x2 g (fun r2 g1 => (wp_sp_x x1 g1 (fun r4 g3 => ((r4 ≤ r2 → (post x1 g3)) ∧ (¬ (r4 ≤ r2) → (post x2 g3)))))))
def wp_sc_lowOf (x0 : Int32) (g : St) (post : Int32 → St → Prop) : Prop :=
  (post (x0 - x0 / 16 * 16) g)
def lp_li_isHollow_L13 : Nat → Int32 → Int32 → Int32 → St → (Int32 → St → Prop) → (Int32 → St → Prop) → Prop
  | 0, _, _, _, _, _, _ => False
  | n + 1, v2, v3, v4, g, K61, post => (wp_li_length v2 g (fun r6 g5 => ((r6 ≤ v4 → (K61 v3 g5)) ∧ (¬ (r6 ≤ v4) → (wp_li_pair v2 v4 g5 (fun r8 g7 => (wp_sc_highOf r8 g7 (fun r10 g9 => (wp_li_moreLeft v3 r10 g9 (fun r12 g11 => (wp_li_pair v2 v4 g11 (fun r14 g13 => (wp_sc_lowOf r14 g13 (fun r16 g15 => (wp_li_moreLeft r12 r16 g15 (fun r18 g17 => (lp_li_isHollow_L13 n v2 r18 (v4 + 1) g17 K61 post)))))))))))))))))
def wp_li_isHollow (x2 : Int32) (g : St) (post : Int32 → St → Prop) : Prop :=
  (wp_li_pair x2 0 g (fun r2 g1 => (wp_sc_highOf r2 g1 (fun r4 g3 => (∃ k13, lp_li_isHollow_L13 k13 x2 r4 0 g3 (fun w20 g19 => (vp_in w20 16 ∧ (narrow .boolean (.int (g19 10 (ix w20))) = .int (g19 10 (ix w20)) ∧ post (g19 10 (ix w20)) g19))) post)))))
def lp_li_clear_L7 : Nat → Int32 → St → (St → Prop) → (St → Prop) → Prop
  | 0, _, _, _, _ => False
  | n + 1, v1, g, K27, post => ((256 ≤ v1 → (K27 g)) ∧ (¬ (256 ≤ v1) → (vp_in v1 256 ∧ ∀ g2 : St, g2 = gp g 14 (ix v1) (vp_nar .boolean 0) → (lp_li_clear_L7 n (v1 + 1) g2 K27 post))))
def wp_li_clear (g : St) (post : St → Prop) : Prop :=
  (∀ g1 : St, g1 = gp g 3 5 0 → (∃ k7, lp_li_clear_L7 k7 0 g1 (fun g3 => (post g3)) post))
def wp_sp_size (g : St) (post : Int32 → St → Prop) : Prop :=
  (post (g 1 3) g)
def wp_sp_height (x1 : Int32) (g : St) (post : Int32 → St → Prop) : Prop :=
  (vp_in x1 16 ∧ (post (g 7 (ix x1)) g))
def wp_me_thirdRightOf (x1 : Int32) (x2 : Int32) (g : St) (post : Int32 → St → Prop) : Prop :=
  (vp_in ((16 * x1) + x2) 256 ∧ (post (g 9 (ix ((16 * x1) + x2))) g))
def jn_me_sharing_J22 (v1 : Int32) (v2 : Int32) (s0 : Int32) (g : St) (post : Int32 → St → Prop) : Prop :=
  (wp_me_thirdRightOf v2 v1 g (fun r4 g3 => ((¬ (r4 = (-1)) → (post (s0 + 1) g3)) ∧ (r4 = (-1) → (post (s0 + 0) g3)))))
def wp_me_sharing (x1 : Int32) (x2 : Int32) (g : St) (post : Int32 → St → Prop) : Prop :=
  ((¬ (x1 = x2) → (wp_me_thirdRightOf x1 x2 g (fun r2 g1 => ((¬ (r2 = (-1)) → (jn_me_sharing_J22 x1 x2 1 g1 post)) ∧ (r2 = (-1) → (jn_me_sharing_J22 x1 x2 0 g1 post)))))) ∧ (x1 = x2 → (post 0 g)))
def wp_li_otherPair (x1 : Int32) (x2 : Int32) (x3 : Int32) (g : St) (post : Int32 → St → Prop) : Prop :=
  ((¬ (x3 = (-1)) → (vp_in x3 16 ∧ (((g 10 (ix x3)) = 0 → (post ((16 * x1) + x3) g)) ∧ (¬ ((g 10 (ix x3)) = 0) → (post ((16 * x3) + x2) g))))) ∧ (x3 = (-1) → (post (-1) g)))
def wp_li_before (x2 : Int32) (g : St) (post : Int32 → St → Prop) : Prop :=
  (wp_sc_highOf x2 g (fun r2 g1 => (wp_sc_lowOf x2 g1 (fun r4 g3 => (wp_me_thirdRightOf r2 r4 g3 (fun r6 g5 => (wp_li_otherPair r2 r4 r6 g5 (fun r8 g7 => (post r8 g7)))))))))
def lp_li_beginning_L5 : Nat → Int32 → Int32 → Int32 → St → (Int32 → St → Prop) → (Int32 → St → Prop) → Prop
  | 0, _, _, _, _, _, _ => False
  | n + 1, v2, v3, v4, g, K45, post => ((120 ≤ v4 → (K45 v2 g)) ∧ (¬ (120 ≤ v4) → (wp_li_before v3 g (fun r2 g1 => ((¬ (r2 = (-1)) → ((¬ (r2 = v2) → (lp_li_beginning_L5 n v2 r2 (v4 + 1) g1 K45 post)) ∧ (r2 = v2 → (post v2 g1)))) ∧ (r2 = (-1) → (post v3 g1)))))))
def wp_li_beginning (x2 : Int32) (g : St) (post : Int32 → St → Prop) : Prop :=
  (∃ k5, lp_li_beginning_L5 k5 x2 x2 0 g (fun w4 g3 => (post w4 g3)) post)
def wp_li_behind (x2 : Int32) (g : St) (post : Int32 → St → Prop) : Prop :=
  (wp_sc_highOf x2 g (fun r2 g1 => (wp_sc_lowOf x2 g1 (fun r4 g3 => (wp_me_thirdRightOf r4 r2 g3 (fun r6 g5 => (wp_li_otherPair r2 r4 r6 g5 (fun r8 g7 => (post r8 g7)))))))))
def lp_li_traceFrom_L65 : Nat → Int32 → Int32 → Int32 → St → (Int32 → St → Prop) → (St → Prop) → Prop
  | 0, _, _, _, _, _, _ => False
  | n + 1, v3, v4, v5, g, K120, post => ((120 ≤ v5 → (K120 v4 g)) ∧ (¬ (120 ≤ v5) → ((v3 = (-1) → (K120 v4 g)) ∧ (¬ (v3 = (-1)) → (vp_in v3 256 ∧ ((¬ ((g 14 (ix v3)) = 0) → (K120 v4 g)) ∧ ((g 14 (ix v3)) = 0 → (vp_in v5 120 ∧ ∀ g6 : St, g6 = gp g 11 (ix v5) v3 → (vp_in v3 256 ∧ ∀ g7 : St, g7 = gp g6 14 (ix v3) (vp_nar .boolean 1) → (wp_li_behind v3 g7 (fun r9 g8 => (lp_li_traceFrom_L65 n r9 (v5 + 1) (v5 + 1) g8 K120 post))))))))))))
def jn_li_traceFrom_J120 (v4 : Int32) (g : St) (post : St → Prop) : Prop :=
  (∀ g12 : St, g12 = gp g 3 5 ((g 3 5) + 1) → (vp_in (g12 3 5) 121 ∧ ∀ g13 : St, g13 = gp g12 12 (ix (g12 3 5)) v4 → (post g13)))
def jn_li_traceFrom_J49 (v3 : Int32) (s1 : Int32) (s2 : Int32) (g : St) (post : St → Prop) : Prop :=
  (vp_in s1 120 ∧ ∀ g5 : St, g5 = gp g 13 (ix s1) (vp_nar .boolean s2) → (vp_in (g5 3 5) 121 ∧ (∃ k65, lp_li_traceFrom_L65 k65 v3 (g5 12 (ix (g5 3 5))) (g5 12 (ix (g5 3 5))) g5 (fun w11 g10 => (jn_li_traceFrom_J120 w11 g10 post)) post)))
def wp_li_traceFrom (x2 : Int32) (g : St) (post : St → Prop) : Prop :=
  (vp_in x2 256 ∧ ((¬ ((g 14 (ix x2)) = 0) → (post g)) ∧ ((g 14 (ix x2)) = 0 → (((g 3 5) < 120 → (wp_li_beginning x2 g (fun r2 g1 => (wp_li_before r2 g1 (fun r4 g3 => ((r4 = (-1) → (jn_li_traceFrom_J49 r2 (g1 3 5) 0 g3 post)) ∧ (¬ (r4 = (-1)) → (jn_li_traceFrom_J49 r2 (g1 3 5) 1 g3 post)))))))) ∧ (¬ ((g 3 5) < 120) → (post g))))))
def lp_li_trace_L7 : Nat → Int32 → Int32 → St → (St → Prop) → (St → Prop) → Prop
  | 0, _, _, _, _, _ => False
  | n + 1, v3, v4, g, K44, post => (wp_sp_size g (fun r3 g2 => ((r3 ≤ v4 → (K44 g2)) ∧ (¬ (r3 ≤ v4) → (wp_sp_height v4 g2 (fun r5 g4 => ((r5 ≤ v3 → (vp_in v4 16 ∧ ∀ g6 : St, g6 = gp g4 10 (ix v4) (vp_nar .boolean 0) → (lp_li_trace_L7 n v3 (v4 + 1) g6 K44 post))) ∧ (¬ (r5 ≤ v3) → (vp_in v4 16 ∧ ∀ g7 : St, g7 = gp g4 10 (ix v4) (vp_nar .boolean 1) → (lp_li_trace_L7 n v3 (v4 + 1) g7 K44 post))))))))))
def lp_li_trace_L62 : Nat → Int32 → Int32 → St → (Int32 → St → Prop) → (St → Prop) → Prop
  | 0, _, _, _, _, _ => False
  | n + 1, v4, v5, g, K139, post => (wp_sp_size g (fun r12 g11 => ((r12 ≤ v5 → (K139 v4 g11)) ∧ (¬ (r12 ≤ v5) → (vp_in v4 16 ∧ (vp_in v5 16 ∧ (((g11 10 (ix v4)) = (g11 10 (ix v5)) → (lp_li_trace_L62 n v4 (v5 + 1) g11 K139 post)) ∧ (¬ ((g11 10 (ix v4)) = (g11 10 (ix v5))) → (wp_me_sharing v4 v5 g11 (fun r14 g13 => ((r14 ≤ 0 → (lp_li_trace_L62 n v4 (v5 + 1) g13 K139 post)) ∧ (¬ (r14 ≤ 0) → (vp_in v4 16 ∧ (((g13 10 (ix v4)) = 0 → (wp_li_traceFrom ((16 * v5) + v4) g13 (fun g15 => (lp_li_trace_L62 n v4 (v5 + 1) g15 K139 post)))) ∧ (¬ ((g13 10 (ix v4)) = 0) → (wp_li_traceFrom ((16 * v4) + v5) g13 (fun g16 => (lp_li_trace_L62 n v4 (v5 + 1) g16 K139 post))))))))))))))))))
def lp_li_trace_L47 : Nat → Int32 → St → (St → Prop) → (St → Prop) → Prop
  | 0, _, _, _, _ => False
  | n + 1, v4, g, K145, post => (wp_sp_size g (fun r10 g9 => ((r10 ≤ v4 → (K145 g9)) ∧ (¬ (r10 ≤ v4) → (∃ k62, lp_li_trace_L62 k62 v4 (v4 + 1) g9 (fun w18 g17 => (lp_li_trace_L47 n (w18 + 1) g17 K145 post)) post)))))
def wp_li_trace (x3 : Int32) (g : St) (post : St → Prop) : Prop :=
  (wp_li_clear g (fun g1 => (∃ k7, lp_li_trace_L7 k7 x3 0 g1 (fun g8 => (∃ k47, lp_li_trace_L47 k47 0 g8 (fun g19 => (post g19)) post)) post)))
def wp_me_size (g : St) (post : Int32 → St → Prop) : Prop :=
  (post (g 2 2) g)
def wp_me_cornerOf (x1 : Int32) (x2 : Int32) (g : St) (post : Int32 → St → Prop) : Prop :=
  (vp_in ((3 * x1) + x2) 81 ∧ (post (g 8 (ix ((3 * x1) + x2))) g))
def lp_me_clear_L7 : Nat → Int32 → St → (St → Prop) → (St → Prop) → Prop
  | 0, _, _, _, _ => False
  | n + 1, v1, g, K27, post => ((256 ≤ v1 → (K27 g)) ∧ (¬ (256 ≤ v1) → (vp_in v1 256 ∧ ∀ g2 : St, g2 = gp g 9 (ix v1) (-1) → (lp_me_clear_L7 n (v1 + 1) g2 K27 post))))
def wp_me_clear (g : St) (post : St → Prop) : Prop :=
  (∀ g1 : St, g1 = gp g 2 2 0 → (∃ k7, lp_me_clear_L7 k7 0 g1 (fun g3 => (post g3)) post))
def wp_sp_turnTo (x1 : Int32) (x2 : Int32) (x3 : Int32) (x4 : Int32) (g : St) (post : Int32 → St → Prop) : Prop :=
  (vp_in x2 16 ∧ (vp_in x1 16 ∧ (vp_in x1 16 ∧ (vp_in x2 16 ∧ (vp_in x1 16 ∧ (vp_in x1 16 ∧ (post ((((g 5 (ix x2)) - (g 5 (ix x1))) * (x4 - (g 6 (ix x1)))) - (((g 6 (ix x2)) - (g 6 (ix x1))) * (x3 - (g 5 (ix x1))))) g)))))))
def wp_sp_turn (x1 : Int32) (x2 : Int32) (x3 : Int32) (g : St) (post : Int32 → St → Prop) : Prop :=
  (vp_in x3 16 ∧ (vp_in x3 16 ∧ (wp_sp_turnTo x1 x2 (g 5 (ix x3)) (g 6 (ix x3)) g (fun r2 g1 => (post r2 g1)))))
def wp_sp_squareFrom (x1 : Int32) (x2 : Int32) (g : St) (post : Int64 → St → Prop) : Prop :=
  (vp_in x2 16 ∧ (vp_in x1 16 ∧ (vp_in x2 16 ∧ (vp_in x1 16 ∧ (post ((((g 5 (ix x2)) - (g 5 (ix x1))).toInt64 * ((g 5 (ix x2)) - (g 5 (ix x1))).toInt64) + (((g 6 (ix x2)) - (g 6 (ix x1))).toInt64 * ((g 6 (ix x2)) - (g 6 (ix x1))).toInt64)) g)))))
def wp_sp_depthInCircle (x1 : Int32) (x2 : Int32) (x3 : Int32) (x4 : Int32) (g : St) (post : Int64 → St → Prop) : Prop :=
  (wp_sp_squareFrom x4 x1 g (fun r2 g1 => (wp_sp_turn x4 x2 x3 g1 (fun r4 g3 => (wp_sp_squareFrom x4 x2 g3 (fun r6 g5 => (wp_sp_turn x4 x1 x3 g5 (fun r8 g7 => (wp_sp_squareFrom x4 x3 g7 (fun r10 g9 => (wp_sp_turn x4 x1 x2 g9 (fun r12 g11 => (wp_sp_turn x1 x2 x3 g11 (fun r14 g13 => ((r14 ≤ 0 → (post (-(((r2 * r4.toInt64) - (r6 * r8.toInt64)) + (r10 * r12.toInt64))) g13)) ∧ (¬ (r14 ≤ 0) → (post (((r2 * r4.toInt64) - (r6 * r8.toInt64)) + (r10 * r12.toInt64)) g13)))))))))))))))))
def jn_sp_areOpposite_J15 (v1 : Int32) (v2 : Int32) (v4 : Int32) (s0 : Int32) (g : St) (post : Int32 → St → Prop) : Prop :=
  (wp_sp_turn v1 v2 v4 g (fun r4 g3 => ((r4 ≤ 0 → ((s0 = 0 → (post 0 g3)) ∧ (¬ (s0 = 0) → (post 1 g3)))) ∧ (¬ (r4 ≤ 0) → ((s0 = 1 → (post 0 g3)) ∧ (¬ (s0 = 1) → (post 1 g3)))))))
def wp_sp_areOpposite (x1 : Int32) (x2 : Int32) (x3 : Int32) (x4 : Int32) (g : St) (post : Int32 → St → Prop) : Prop :=
  (wp_sp_turn x1 x2 x3 g (fun r2 g1 => ((r2 ≤ 0 → (jn_sp_areOpposite_J15 x1 x2 x4 0 g1 post)) ∧ (¬ (r2 ≤ 0) → (jn_sp_areOpposite_J15 x1 x2 x4 1 g1 post)))))
def wp_sp_isInCircle (x1 : Int32) (x2 : Int32) (x3 : Int32) (x4 : Int32) (g : St) (post : Int32 → St → Prop) : Prop :=
  (wp_sp_depthInCircle x1 x2 x3 x4 g (fun r2 g1 => (((lg_cmp r2 0) = 0 → ((x4 ≤ x1 → (post 0 g1)) ∧ (¬ (x4 ≤ x1) → (wp_sp_areOpposite x1 x4 x2 x3 g1 (fun r4 g3 => ((¬ (r4 = 0) → (post 0 g3)) ∧ (r4 = 0 → (post 1 g3)))))))) ∧ (¬ ((lg_cmp r2 0) = 0) → (((lg_cmp r2 0) ≤ 0 → (post 0 g1)) ∧ (¬ ((lg_cmp r2 0) ≤ 0) → (post 1 g1)))))))
def lp_me_isTriangle_L15 : Nat → Int32 → Int32 → Int32 → Int32 → St → (St → Prop) → (Int32 → St → Prop) → Prop
  | 0, _, _, _, _, _, _, _ => False
  | n + 1, v1, v2, v3, v4, g, K62, post => (wp_sp_size g (fun r4 g3 => ((r4 ≤ v4 → (K62 g3)) ∧ (¬ (r4 ≤ v4) → ((v4 = v1 → (lp_me_isTriangle_L15 n v1 v2 v3 (v4 + 1) g3 K62 post)) ∧ (¬ (v4 = v1) → ((v4 = v2 → (lp_me_isTriangle_L15 n v1 v2 v3 (v4 + 1) g3 K62 post)) ∧ (¬ (v4 = v2) → ((v4 = v3 → (lp_me_isTriangle_L15 n v1 v2 v3 (v4 + 1) g3 K62 post)) ∧ (¬ (v4 = v3) → (wp_sp_isInCircle v1 v2 v3 v4 g3 (fun r6 g5 => ((r6 = 0 → (lp_me_isTriangle_L15 n v1 v2 v3 (v4 + 1) g5 K62 post)) ∧ (¬ (r6 = 0) → (post 0 g5)))))))))))))))
def wp_me_isTriangle (x1 : Int32) (x2 : Int32) (x3 : Int32) (g : St) (post : Int32 → St → Prop) : Prop :=
  (wp_sp_turn x1 x2 x3 g (fun r2 g1 => ((¬ (r2 = 0) → (∃ k15, lp_me_isTriangle_L15 k15 x1 x2 x3 0 g1 (fun g7 => (post 1 g7)) post)) ∧ (r2 = 0 → (post 0 g1)))))
def wp_me_addSides (x1 : Int32) (x2 : Int32) (x3 : Int32) (g : St) (post : St → Prop) : Prop :=
  (vp_in ((16 * x1) + x2) 256 ∧ ∀ g1 : St, g1 = gp g 9 (ix ((16 * x1) + x2)) x3 → (vp_in ((16 * x2) + x3) 256 ∧ ∀ g2 : St, g2 = gp g1 9 (ix ((16 * x2) + x3)) x1 → (vp_in ((16 * x3) + x1) 256 ∧ ∀ g3 : St, g3 = gp g2 9 (ix ((16 * x3) + x1)) x2 → (post g3))))
def wp_me_add (x1 : Int32) (x2 : Int32) (x3 : Int32) (x4 : Int32) (g : St) (post : St → Prop) : Prop :=
  (vp_in (3 * (g 2 2)) 81 ∧ ∀ g1 : St, g1 = gp g 8 (ix (3 * (g 2 2))) x1 → (vp_in ((3 * (g 2 2)) + 1) 81 ∧ ∀ g2 : St, g2 = gp g1 8 (ix ((3 * (g 2 2)) + 1)) x2 → (vp_in ((3 * (g 2 2)) + 2) 81 ∧ ∀ g3 : St, g3 = gp g2 8 (ix ((3 * (g 2 2)) + 2)) x3 → (∀ g4 : St, g4 = gp g3 2 2 ((g3 2 2) + 1) → ((x4 = 0 → (wp_me_addSides x1 x3 x2 g4 (fun g5 => (post g5)))) ∧ (¬ (x4 = 0) → (wp_me_addSides x1 x2 x3 g4 (fun g6 => (post g6)))))))))
def lp_me_rebuild_L31 : Nat → Int32 → Int32 → Int32 → St → (Int32 → Int32 → St → Prop) → (St → Prop) → Prop
  | 0, _, _, _, _, _, _ => False
  | n + 1, v2, v3, v4, g, K90, post => (wp_sp_size g (fun r7 g6 => ((r7 ≤ v4 → (K90 v2 v3 g6)) ∧ (¬ (r7 ≤ v4) → ((27 ≤ (g6 2 2) → (lp_me_rebuild_L31 n v2 v3 (v4 + 1) g6 K90 post)) ∧ (¬ (27 ≤ (g6 2 2)) → (wp_me_isTriangle v2 v3 v4 g6 (fun r9 g8 => ((r9 = 0 → (lp_me_rebuild_L31 n v2 v3 (v4 + 1) g8 K90 post)) ∧ (¬ (r9 = 0) → (wp_sp_turn v2 v3 v4 g8 (fun r11 g10 => ((0 ≤ r11 → (wp_me_add v2 v3 v4 0 g10 (fun g12 => (lp_me_rebuild_L31 n v2 v3 (v4 + 1) g12 K90 post)))) ∧ (¬ (0 ≤ r11) → (wp_me_add v2 v3 v4 1 g10 (fun g13 => (lp_me_rebuild_L31 n v2 v3 (v4 + 1) g13 K90 post)))))))))))))))))
def lp_me_rebuild_L18 : Nat → Int32 → Int32 → St → (Int32 → St → Prop) → (St → Prop) → Prop
  | 0, _, _, _, _, _ => False
  | n + 1, v2, v3, g, K96, post => (wp_sp_size g (fun r5 g4 => ((r5 ≤ v3 → (K96 v2 g4)) ∧ (¬ (r5 ≤ v3) → (∃ k31, lp_me_rebuild_L31 k31 v2 v3 (v3 + 1) g4 (fun w15 w16 g14 => (lp_me_rebuild_L18 n w15 (w16 + 1) g14 K96 post)) post)))))
def lp_me_rebuild_L6 : Nat → Int32 → St → (St → Prop) → (St → Prop) → Prop
  | 0, _, _, _, _ => False
  | n + 1, v2, g, K102, post => (wp_sp_size g (fun r3 g2 => ((r3 ≤ v2 → (K102 g2)) ∧ (¬ (r3 ≤ v2) → (∃ k18, lp_me_rebuild_L18 k18 v2 (v2 + 1) g2 (fun w18 g17 => (lp_me_rebuild_L6 n (w18 + 1) g17 K102 post)) post)))))
def wp_me_rebuild (g : St) (post : St → Prop) : Prop :=
  (wp_me_clear g (fun g1 => (∃ k6, lp_me_rebuild_L6 k6 0 g1 (fun g19 => (post g19)) post)))
def wp_floorDiv (x0 : Int32) (x1 : Int32) (g : St) (post : Int32 → St → Prop) : Prop :=
  (¬ x1 = 0 ∧ ((0 ≤ (x0 ^^^ x1) → (post (x0 / x1) g)) ∧ (¬ (0 ≤ (x0 ^^^ x1)) → ((((x0 / x1) * x1) = x0 → (post (x0 / x1) g)) ∧ (¬ (((x0 / x1) * x1) = x0) → (post ((x0 / x1) - 1) g))))))
def jn_me_heightIn_J42 (v3 : Int32) (v4 : Int32) (v5 : Int32) (v6 : Int32) (v7 : Int32) (s0 : Int32) (g : St) (post : Int32 → St → Prop) : Prop :=
  (wp_sp_turnTo v6 v7 v3 v4 g (fun r10 g9 => (wp_sp_turnTo v7 v5 v3 v4 g9 (fun r12 g11 => (wp_sp_turnTo v5 v6 v3 v4 g11 (fun r14 g13 => (((s0 * r10) < 0 → (post (-1) g13)) ∧ (¬ ((s0 * r10) < 0) → (((s0 * r12) < 0 → (post (-1) g13)) ∧ (¬ ((s0 * r12) < 0) → (((s0 * r14) < 0 → (post (-1) g13)) ∧ (¬ ((s0 * r14) < 0) → ((¬ ((((s0 * r10) + (s0 * r12)) + (s0 * r14)) = 0) → (wp_sp_height v5 g13 (fun r16 g15 => (wp_sp_height v6 g15 (fun r18 g17 => (wp_sp_height v7 g17 (fun r20 g19 => (wp_floorDiv ((((s0 * r10) * r16) + ((s0 * r12) * r18)) + ((s0 * r14) * r20)) (((s0 * r10) + (s0 * r12)) + (s0 * r14)) g19 (fun r22 g21 => (post r22 g21)))))))))) ∧ ((((s0 * r10) + (s0 * r12)) + (s0 * r14)) = 0 → (post (-1) g13)))))))))))))))
def wp_me_heightIn (x2 : Int32) (x3 : Int32) (x4 : Int32) (g : St) (post : Int32 → St → Prop) : Prop :=
  (wp_me_cornerOf x2 0 g (fun r2 g1 => (wp_me_cornerOf x2 1 g1 (fun r4 g3 => (wp_me_cornerOf x2 2 g3 (fun r6 g5 => (wp_sp_turn r2 r4 r6 g5 (fun r8 g7 => ((r8 ≤ 0 → (jn_me_heightIn_J42 x3 x4 r2 r4 r6 (-1) g7 post)) ∧ (¬ (r8 ≤ 0) → (jn_me_heightIn_J42 x3 x4 r2 r4 r6 1 g7 post)))))))))))
def lp_me_heightAt_L3 : Nat → Int32 → Int32 → Int32 → St → (St → Prop) → (Int32 → St → Prop) → Prop
  | 0, _, _, _, _, _, _ => False
  | n + 1, v2, v3, v4, g, K38, post => (((g 2 2) ≤ v4 → (K38 g)) ∧ (¬ ((g 2 2) ≤ v4) → (wp_me_heightIn v4 v2 v3 g (fun r2 g1 => ((r2 = (-1) → (lp_me_heightAt_L3 n v2 v3 (v4 + 1) g1 K38 post)) ∧ (¬ (r2 = (-1)) → (post r2 g1)))))))
def wp_me_heightAt (x2 : Int32) (x3 : Int32) (g : St) (post : Int32 → St → Prop) : Prop :=
  (∃ k3, lp_me_heightAt_L3 k3 x2 x3 0 g (fun g3 => (post (-1) g3)) post)
def wp_sp_isNumber (x1 : Int32) (g : St) (post : Int32 → St → Prop) : Prop :=
  ((x1 < 0 → (post 0 g)) ∧ (¬ (x1 < 0) → (((g 1 3) ≤ x1 → (post 0 g)) ∧ (¬ ((g 1 3) ≤ x1) → (post 1 g)))))
def wp_sp_y (x1 : Int32) (g : St) (post : Int32 → St → Prop) : Prop :=
  (vp_in x1 16 ∧ (post (g 6 (ix x1)) g))
def wp_sp_setHeight (x1 : Int32) (x2 : Int32) (g : St) (post : St → Prop) : Prop :=
  (vp_in x1 16 ∧ ∀ g1 : St, g1 = gp g 7 (ix x1) x2 → (post g1))
def lp_sp_isTaken_L2 : Nat → Int32 → Int32 → Int32 → St → (St → Prop) → (Int32 → St → Prop) → Prop
  | 0, _, _, _, _, _, _ => False
  | n + 1, v1, v2, v3, g, K38, post => (((g 1 3) ≤ v3 → (K38 g)) ∧ (¬ ((g 1 3) ≤ v3) → (vp_in v3 16 ∧ ((¬ ((g 5 (ix v3)) = v1) → (lp_sp_isTaken_L2 n v1 v2 (v3 + 1) g K38 post)) ∧ ((g 5 (ix v3)) = v1 → (vp_in v3 16 ∧ ((¬ ((g 6 (ix v3)) = v2) → (lp_sp_isTaken_L2 n v1 v2 (v3 + 1) g K38 post)) ∧ ((g 6 (ix v3)) = v2 → (post 1 g)))))))))
def wp_sp_isTaken (x1 : Int32) (x2 : Int32) (g : St) (post : Int32 → St → Prop) : Prop :=
  (∃ k2, lp_sp_isTaken_L2 k2 x1 x2 0 g (fun g1 => (post 0 g1)) post)
def wp_sp_add (x1 : Int32) (x2 : Int32) (x3 : Int32) (g : St) (post : Int32 → St → Prop) : Prop :=
  (vp_in (g 1 3) 16 ∧ ∀ g1 : St, g1 = gp g 5 (ix (g 1 3)) x1 → (vp_in (g1 1 3) 16 ∧ ∀ g2 : St, g2 = gp g1 6 (ix (g1 1 3)) x2 → (vp_in (g2 1 3) 16 ∧ ∀ g3 : St, g3 = gp g2 7 (ix (g2 1 3)) x3 → (∀ g4 : St, g4 = gp g3 1 3 ((g3 1 3) + 1) → (post ((g4 1 3) - 1) g4)))))
def wp_sp_crossingOf_5 (x2 : Int32) (x3 : Int32) (g : St) (post : Int32 → St → Prop) : Prop :=
  (wp_sc_highOf x2 g (fun r2 g1 => (wp_sc_lowOf x2 g1 (fun r4 g3 => (vp_in r2 16 ∧ (vp_in r4 16 ∧ ((0 < ((g3 7 (ix r2)) - (g3 7 (ix r4))) → (vp_in r2 16 ∧ (vp_in r4 16 ∧ (vp_in r4 16 ∧ (vp_in r4 16 ∧ (wp_floorDiv (((g3 5 (ix r2)) - (g3 5 (ix r4))) * (((2 * x3) + 1) - (2 * (g3 7 (ix r4))))) (2 * ((g3 7 (ix r2)) - (g3 7 (ix r4)))) g3 (fun r6 g5 => (post ((g3 5 (ix r4)) + r6) g5)))))))) ∧ (¬ (0 < ((g3 7 (ix r2)) - (g3 7 (ix r4)))) → (vp_in r4 16 ∧ (post (g3 5 (ix r4)) g3))))))))))
def wp_sp_crossingOf_6 (x2 : Int32) (x3 : Int32) (g : St) (post : Int32 → St → Prop) : Prop :=
  (wp_sc_highOf x2 g (fun r2 g1 => (wp_sc_lowOf x2 g1 (fun r4 g3 => (vp_in r2 16 ∧ (vp_in r4 16 ∧ ((0 < ((g3 7 (ix r2)) - (g3 7 (ix r4))) → (vp_in r2 16 ∧ (vp_in r4 16 ∧ (vp_in r4 16 ∧ (vp_in r4 16 ∧ (wp_floorDiv (((g3 6 (ix r2)) - (g3 6 (ix r4))) * (((2 * x3) + 1) - (2 * (g3 7 (ix r4))))) (2 * ((g3 7 (ix r2)) - (g3 7 (ix r4)))) g3 (fun r6 g5 => (post ((g3 6 (ix r4)) + r6) g5)))))))) ∧ (¬ (0 < ((g3 7 (ix r2)) - (g3 7 (ix r4)))) → (vp_in r4 16 ∧ (post (g3 6 (ix r4)) g3))))))))))
def wp_sp_crossingX (x1 : Int32) (x2 : Int32) (g : St) (post : Int32 → St → Prop) : Prop :=
  (wp_sp_crossingOf_5 x1 x2 g (fun r2 g1 => (post r2 g1)))
def wp_sp_crossingY (x1 : Int32) (x2 : Int32) (g : St) (post : Int32 → St → Prop) : Prop :=
  (wp_sp_crossingOf_6 x1 x2 g (fun r2 g1 => (post r2 g1)))
def wp_ta_size (g : St) (post : Int32 → St → Prop) : Prop :=
  (post (g 4 3) g)
def wp_ta_isFull (g : St) (post : Int32 → St → Prop) : Prop :=
  (((g 4 3) < 20 → (post 0 g)) ∧ (¬ ((g 4 3) < 20) → (post 1 g)))
def wp_ta_level (x1 : Int32) (g : St) (post : Int32 → St → Prop) : Prop :=
  (vp_in x1 20 ∧ (post (g 15 (ix x1)) g))
def wp_ta_x (x1 : Int32) (g : St) (post : Int32 → St → Prop) : Prop :=
  (vp_in x1 20 ∧ (post (g 16 (ix x1)) g))
def wp_ta_y (x1 : Int32) (g : St) (post : Int32 → St → Prop) : Prop :=
  (vp_in x1 20 ∧ (post (g 17 (ix x1)) g))
def wp_ta_add (x1 : Int32) (x2 : Int32) (x3 : Int32) (g : St) (post : St → Prop) : Prop :=
  (vp_in (g 4 3) 20 ∧ ∀ g1 : St, g1 = gp g 15 (ix (g 4 3)) x1 → (vp_in (g1 4 3) 20 ∧ ∀ g2 : St, g2 = gp g1 16 (ix (g1 4 3)) x2 → (vp_in (g2 4 3) 20 ∧ ∀ g3 : St, g3 = gp g2 17 (ix (g2 4 3)) x3 → (∀ g4 : St, g4 = gp g3 4 3 ((g3 4 3) + 1) → (post g4)))))
def wp_ta_cutTo (x1 : Int32) (g : St) (post : St → Prop) : Prop :=
  (∀ g1 : St, g1 = gp g 4 3 x1 → (post g1))
def lp_ta_coversSpot_L2 : Nat → Int32 → Int32 → Int32 → St → (St → Prop) → (Int32 → St → Prop) → Prop
  | 0, _, _, _, _, _, _ => False
  | n + 1, v1, v2, v3, g, K46, post => (wp_sp_size g (fun r2 g1 => ((r2 ≤ v3 → (K46 g1)) ∧ (¬ (r2 ≤ v3) → (wp_sp_x v3 g1 (fun r4 g3 => ((3 < (if 0 ≤ (r4 - v1) then (r4 - v1) else 0 - (r4 - v1)) → (lp_ta_coversSpot_L2 n v1 v2 (v3 + 1) g3 K46 post)) ∧ (¬ (3 < (if 0 ≤ (r4 - v1) then (r4 - v1) else 0 - (r4 - v1))) → (wp_sp_y v3 g3 (fun r6 g5 => ((1 < (if 0 ≤ (r6 - v2) then (r6 - v2) else 0 - (r6 - v2)) → (lp_ta_coversSpot_L2 n v1 v2 (v3 + 1) g5 K46 post)) ∧ (¬ (1 < (if 0 ≤ (r6 - v2) then (r6 - v2) else 0 - (r6 - v2))) → (post 1 g5)))))))))))))
def wp_ta_coversSpot (x1 : Int32) (x2 : Int32) (g : St) (post : Int32 → St → Prop) : Prop :=
  (∃ k2, lp_ta_coversSpot_L2 k2 x1 x2 0 g (fun g7 => (post 0 g7)) post)
def lp_ta_clashesAt_L2 : Nat → Int32 → Int32 → Int32 → St → (St → Prop) → (Int32 → St → Prop) → Prop
  | 0, _, _, _, _, _, _ => False
  | n + 1, v1, v2, v3, g, K49, post => (((g 4 3) ≤ v3 → (K49 g)) ∧ (¬ ((g 4 3) ≤ v3) → (vp_in v3 20 ∧ ((6 < (if 0 ≤ ((g 16 (ix v3)) - v1) then ((g 16 (ix v3)) - v1) else 0 - ((g 16 (ix v3)) - v1)) → (lp_ta_clashesAt_L2 n v1 v2 (v3 + 1) g K49 post)) ∧ (¬ (6 < (if 0 ≤ ((g 16 (ix v3)) - v1) then ((g 16 (ix v3)) - v1) else 0 - ((g 16 (ix v3)) - v1))) → (vp_in v3 20 ∧ ((2 < (if 0 ≤ ((g 17 (ix v3)) - v2) then ((g 17 (ix v3)) - v2) else 0 - ((g 17 (ix v3)) - v2)) → (lp_ta_clashesAt_L2 n v1 v2 (v3 + 1) g K49 post)) ∧ (¬ (2 < (if 0 ≤ ((g 17 (ix v3)) - v2) then ((g 17 (ix v3)) - v2) else 0 - ((g 17 (ix v3)) - v2))) → (post 1 g)))))))))
def wp_ta_clashesAt (x1 : Int32) (x2 : Int32) (g : St) (post : Int32 → St → Prop) : Prop :=
  (∃ k2, lp_ta_clashesAt_L2 k2 x1 x2 0 g (fun g1 => (post 0 g1)) post)
def wp_sc_isOnMap (x0 : Int32) (x1 : Int32) (g : St) (post : Int32 → St → Prop) : Prop :=
  ((x0 < 0 → (post 0 g)) ∧ (¬ (x0 < 0) → ((64 ≤ x0 → (post 0 g)) ∧ (¬ (64 ≤ x0) → ((x1 < 0 → (post 0 g)) ∧ (¬ (x1 < 0) → ((64 ≤ x1 → (post 0 g)) ∧ (¬ (64 ≤ x1) → (post 1 g)))))))))
def wp_sc_isHeight (x0 : Int32) (g : St) (post : Int32 → St → Prop) : Prop :=
  ((x0 < 0 → (post 0 g)) ∧ (¬ (x0 < 0) → ((999 < x0 → (post 0 g)) ∧ (¬ (999 < x0) → (post 1 g)))))
def wp_sc_spot (x1 : Int32) (x2 : Int32) (x3 : Int32) (g : St) (post : Int32 → St → Prop) (px : Nat → St → Prop) : Prop :=
  (wp_sc_isOnMap x1 x2 g (fun r2 g1 => ((r2 = 0 → (px 0 g1)) ∧ (¬ (r2 = 0) → (wp_sc_isHeight x3 g1 (fun r4 g3 => ((r4 = 0 → (px 0 g3)) ∧ (¬ (r4 = 0) → (wp_sp_isTaken x1 x2 g3 (fun r6 g5 => ((r6 = 0 → (wp_sp_size g5 (fun r8 g7 => ((r8 < 16 → (wp_sp_add x1 x2 x3 g7 (fun r10 g9 => (wp_me_rebuild g9 (fun g11 => (wp_ta_cutTo 0 g11 (fun g12 => (post r10 g12)))))))) ∧ (¬ (r8 < 16) → (px 1 g7)))))) ∧ (¬ (r6 = 0) → (px 0 g5)))))))))))))
def wp_sc_raise (x1 : Int32) (x2 : Int32) (g : St) (post : Int32 → St → Prop) (px : Nat → St → Prop) : Prop :=
  (wp_sp_isNumber x1 g (fun r2 g1 => ((¬ (r2 = 0) → (wp_sc_isHeight x2 g1 (fun r4 g3 => ((¬ (r4 = 0) → (wp_sp_height x1 g3 (fun r6 g5 => (wp_sp_setHeight x1 x2 g5 (fun g7 => (wp_ta_cutTo 0 g7 (fun g8 => (post r6 g8)))))))) ∧ (r4 = 0 → (px 0 g3)))))) ∧ (r2 = 0 → (px 2 g1)))))
def wp_sc_triangles (g : St) (post : Int32 → St → Prop) : Prop :=
  (wp_me_size g (fun r2 g1 => (post r2 g1)))
def wp_sc_corner (x1 : Int32) (x2 : Int32) (g : St) (post : Int32 → St → Prop) (px : Nat → St → Prop) : Prop :=
  ((x1 < 0 → (px 2 g)) ∧ (¬ (x1 < 0) → (wp_me_size g (fun r2 g1 => ((r2 ≤ x1 → (px 2 g1)) ∧ (¬ (r2 ≤ x1) → ((x2 < 0 → (px 2 g1)) ∧ (¬ (x2 < 0) → ((x2 < 3 → (wp_me_cornerOf x1 x2 g1 (fun r4 g3 => (post r4 g3)))) ∧ (¬ (x2 < 3) → (px 2 g1)))))))))))
def wp_sc_edge (x1 : Int32) (x2 : Int32) (g : St) (post : Int32 → St → Prop) (px : Nat → St → Prop) : Prop :=
  (wp_sp_isNumber x1 g (fun r2 g1 => ((r2 = 0 → (px 2 g1)) ∧ (¬ (r2 = 0) → (wp_sp_isNumber x2 g1 (fun r4 g3 => ((¬ (r4 = 0) → (wp_me_sharing x1 x2 g3 (fun r6 g5 => (post r6 g5)))) ∧ (r4 = 0 → (px 2 g3)))))))))
def jn_sc_at_J25 (s0 : Int32) (g : St) (post : Int32 → St → Prop) (px : Nat → St → Prop) : Prop :=
  ((¬ (s0 = (-1)) → (post s0 g)) ∧ (s0 = (-1) → (px 3 g)))
def wp_sc_at (x1 : Int32) (x2 : Int32) (g : St) (post : Int32 → St → Prop) (px : Nat → St → Prop) : Prop :=
  (wp_sc_isOnMap x1 x2 g (fun r2 g1 => ((r2 = 0 → (jn_sc_at_J25 (-1) g1 post px)) ∧ (¬ (r2 = 0) → (wp_me_heightAt x1 x2 g1 (fun r4 g3 => (jn_sc_at_J25 r4 g3 post px)))))))
def wp_sc_traceLevel (x1 : Int32) (g : St) (post : St → Prop) (px : Nat → St → Prop) : Prop :=
  ((x1 < 0 → (px 0 g)) ∧ (¬ (x1 < 0) → ((x1 ≤ 998 → (wp_li_trace x1 g (fun g1 => (post g1)))) ∧ (¬ (x1 ≤ 998) → (px 0 g)))))
def wp_sc_contours (x1 : Int32) (g : St) (post : Int32 → St → Prop) (px : Nat → St → Prop) : Prop :=
  (wp_sc_traceLevel x1 g (fun g1 => (wp_li_size g1 (fun r3 g2 => (post r3 g2)))) px)
def wp_sc_contour (x1 : Int32) (x2 : Int32) (g : St) (post : Int32 → St → Prop) (px : Nat → St → Prop) : Prop :=
  (wp_sc_traceLevel x1 g (fun g1 => (wp_li_isLine x2 g1 (fun r3 g2 => ((¬ (r3 = 0) → (wp_li_length x2 g2 (fun r5 g4 => (wp_li_isRing x2 g4 (fun r7 g6 => ((¬ (r7 = 0) → (wp_li_isHollow x2 g6 (fun r9 g8 => ((r9 = 0 → (post (r5 + 1000) g8)) ∧ (¬ (r9 = 0) → (post (r5 + 2000) g8)))))) ∧ (r7 = 0 → (post r5 g6)))))))) ∧ (r3 = 0 → (px 2 g2)))))) px)
def wp_sc_pairAt (x1 : Int32) (x2 : Int32) (g : St) (post : Int32 → St → Prop) (px : Nat → St → Prop) : Prop :=
  (wp_li_isLine x1 g (fun r2 g1 => ((r2 = 0 → (px 2 g1)) ∧ (¬ (r2 = 0) → ((x2 < 0 → (px 2 g1)) ∧ (¬ (x2 < 0) → (wp_li_length x1 g1 (fun r4 g3 => ((x2 < r4 → (wp_li_pair x1 x2 g3 (fun r6 g5 => (post r6 g5)))) ∧ (¬ (x2 < r4) → (px 2 g3)))))))))))
def wp_sc_crossing (x1 : Int32) (x2 : Int32) (x3 : Int32) (g : St) (post : Int32 → St → Prop) (px : Nat → St → Prop) : Prop :=
  (wp_sc_traceLevel x1 g (fun g1 => (wp_sc_pairAt x2 x3 g1 (fun r3 g2 => (wp_sc_highOf r3 g2 (fun r5 g4 => (wp_sc_lowOf r3 g4 (fun r7 g6 => (post ((16 * (if r7 < r5 then r7 else r5)) + (if r5 < r7 then r7 else r5)) g6)))))) px)) px)
def wp_sc_place (x1 : Int32) (x2 : Int32) (x3 : Int32) (g : St) (post : Int32 → St → Prop) (px : Nat → St → Prop) : Prop :=
  (wp_sc_traceLevel x1 g (fun g1 => (wp_sc_pairAt x2 x3 g1 (fun r3 g2 => (wp_sp_crossingX r3 x1 g2 (fun r5 g4 => (wp_sp_crossingY r3 x1 g4 (fun r7 g6 => (post ((64 * r5) + r7) g6)))))) px)) px)
def lp_sc_firstFreePair_L2 : Nat → Int32 → Int32 → Int32 → St → (St → Prop) → (Int32 → St → Prop) → Prop
  | 0, _, _, _, _, _, _ => False
  | n + 1, v1, v2, v3, g, K86, post => (wp_li_length v2 g (fun r2 g1 => ((r2 ≤ v3 → (K86 g1)) ∧ (¬ (r2 ≤ v3) → (wp_li_pair v2 v3 g1 (fun r4 g3 => (wp_sp_crossingX r4 v1 g3 (fun r6 g5 => (wp_sp_crossingY r4 v1 g5 (fun r8 g7 => (wp_ta_coversSpot r6 r8 g7 (fun r10 g9 => ((¬ (r10 = 0) → (lp_sc_firstFreePair_L2 n v1 v2 (v3 + 1) g9 K86 post)) ∧ (r10 = 0 → (wp_ta_clashesAt r6 r8 g9 (fun r12 g11 => ((¬ (r12 = 0) → (lp_sc_firstFreePair_L2 n v1 v2 (v3 + 1) g11 K86 post)) ∧ (r12 = 0 → (post r4 g11)))))))))))))))))))
def wp_sc_firstFreePair (x1 : Int32) (x2 : Int32) (g : St) (post : Int32 → St → Prop) : Prop :=
  (∃ k2, lp_sc_firstFreePair_L2 k2 x1 x2 0 g (fun g13 => (post (-1) g13)) post)
def lp_sc_label_L15 : Nat → Int32 → Int32 → Int32 → St → (Int32 → St → Prop) → (Int32 → St → Prop) → (Nat → St → Prop) → Prop
  | 0, _, _, _, _, _, _, _ => False
  | n + 1, v1, v2, v3, g, K103, post, px => (wp_li_size g (fun r5 g4 => ((r5 ≤ v3 → (K103 v2 g4)) ∧ (¬ (r5 ≤ v3) → (wp_sc_firstFreePair v1 v3 g4 (fun r7 g6 => ((¬ (r7 = (-1)) → (wp_ta_isFull g6 (fun r9 g8 => ((r9 = 0 → (wp_sp_crossingX r7 v1 g8 (fun r11 g10 => (wp_sp_crossingY r7 v1 g10 (fun r13 g12 => (wp_ta_add v1 r11 r13 g12 (fun g14 => (lp_sc_label_L15 n v1 v2 (v3 + 1) g14 K103 post px)))))))) ∧ (¬ (r9 = 0) → (wp_ta_cutTo v2 g8 (fun g15 => (px 1 g15)))))))) ∧ (r7 = (-1) → (lp_sc_label_L15 n v1 v2 (v3 + 1) g6 K103 post px)))))))))
def wp_sc_label (x1 : Int32) (g : St) (post : Int32 → St → Prop) (px : Nat → St → Prop) : Prop :=
  (wp_sc_traceLevel x1 g (fun g1 => (wp_ta_size g1 (fun r3 g2 => (∃ k15, lp_sc_label_L15 k15 x1 r3 0 g2 (fun w17 g16 => (wp_ta_size g16 (fun r19 g18 => (post (r19 - w17) g18)))) post px)))) px)
def wp_sc_labels (g : St) (post : Int32 → St → Prop) : Prop :=
  (wp_ta_size g (fun r2 g1 => (post r2 g1)))
def wp_sc_labelOf (x1 : Int32) (x2 : Int32) (g : St) (post : Int32 → St → Prop) (px : Nat → St → Prop) : Prop :=
  ((x1 < 0 → (px 2 g)) ∧ (¬ (x1 < 0) → (wp_ta_size g (fun r2 g1 => ((x1 < r2 → ((x2 = 0 → (wp_ta_level x1 g1 (fun r4 g3 => (post r4 g3)))) ∧ (x2 = 1 → (wp_ta_x x1 g1 (fun r6 g5 => (post r6 g5)))) ∧ (x2 = 2 → (wp_ta_y x1 g1 (fun r8 g7 => (post r8 g7)))) ∧ (¬ x2 = 0 → ¬ x2 = 1 → ¬ x2 = 2 → (px 0 g1)))) ∧ (¬ (x1 < r2) → (px 2 g1)))))))
def wp_sc_wipe (g : St) (post : Int32 → St → Prop) : Prop :=
  (wp_ta_size g (fun r2 g1 => (wp_ta_cutTo 0 g1 (fun g3 => (post r2 g3)))))
def wp_mo_thrown (g : St) (post : Int32 → St → Prop) : Prop :=
  (post (g 0 0) g)
def wp_mo_isSpot (x1 : Int32) (g : St) (post : Int32 → St → Prop) : Prop :=
  ((x1 < 0 → (post 0 g)) ∧ (¬ (x1 < 0) → (((g 0 1) ≤ x1 → (post 0 g)) ∧ (¬ ((g 0 1) ≤ x1) → (post 1 g)))))
def wp_mo_turn (x1 : Int32) (x2 : Int32) (x3 : Int32) (g : St) (post : Int32 → St → Prop) : Prop :=
  (vp_in x2 16 ∧ (vp_in x1 16 ∧ (vp_in x3 16 ∧ (vp_in x1 16 ∧ (vp_in x2 16 ∧ (vp_in x1 16 ∧ (vp_in x3 16 ∧ (vp_in x1 16 ∧ (post ((((g 1 (ix x2)) - (g 1 (ix x1))) * ((g 2 (ix x3)) - (g 2 (ix x1)))) - (((g 2 (ix x2)) - (g 2 (ix x1))) * ((g 1 (ix x3)) - (g 1 (ix x1))))) g)))))))))
def wp_mo_square (x1 : Int32) (x2 : Int32) (g : St) (post : Int64 → St → Prop) : Prop :=
  (vp_in x1 16 ∧ (vp_in x2 16 ∧ (vp_in x1 16 ∧ (vp_in x2 16 ∧ (vp_in x1 16 ∧ (vp_in x2 16 ∧ (vp_in x1 16 ∧ (vp_in x2 16 ∧ (post ((((g 1 (ix x1)) - (g 1 (ix x2))).toInt64 * ((g 1 (ix x1)) - (g 1 (ix x2))).toInt64) + (((g 2 (ix x1)) - (g 2 (ix x2))).toInt64 * ((g 2 (ix x1)) - (g 2 (ix x2))).toInt64)) g)))))))))
def wp_mo_inside (x1 : Int32) (x2 : Int32) (x3 : Int32) (x4 : Int32) (g : St) (post : Int64 → St → Prop) : Prop :=
  (wp_mo_square x1 x4 g (fun r2 g1 => (wp_mo_turn x4 x2 x3 g1 (fun r4 g3 => (wp_mo_square x2 x4 g3 (fun r6 g5 => (wp_mo_turn x4 x3 x1 g5 (fun r8 g7 => (wp_mo_square x3 x4 g7 (fun r10 g9 => (wp_mo_turn x4 x1 x2 g9 (fun r12 g11 => (wp_mo_turn x1 x2 x3 g11 (fun r14 g13 => ((r14 ≤ 0 → (post (-(((r2 * r4.toInt64) + (r6 * r8.toInt64)) + (r10 * r12.toInt64))) g13)) ∧ (¬ (r14 ≤ 0) → (post (((r2 * r4.toInt64) + (r6 * r8.toInt64)) + (r10 * r12.toInt64)) g13)))))))))))))))))
def jn_mo_parts_J15 (v1 : Int32) (v2 : Int32) (v4 : Int32) (s0 : Int32) (g : St) (post : Int32 → St → Prop) : Prop :=
  (wp_mo_turn v1 v2 v4 g (fun r4 g3 => ((r4 ≤ 0 → ((s0 = 0 → (post 0 g3)) ∧ (¬ (s0 = 0) → (post 1 g3)))) ∧ (¬ (r4 ≤ 0) → ((s0 = 1 → (post 0 g3)) ∧ (¬ (s0 = 1) → (post 1 g3)))))))
def wp_mo_parts (x1 : Int32) (x2 : Int32) (x3 : Int32) (x4 : Int32) (g : St) (post : Int32 → St → Prop) : Prop :=
  (wp_mo_turn x1 x2 x3 g (fun r2 g1 => ((r2 ≤ 0 → (jn_mo_parts_J15 x1 x2 x4 0 g1 post)) ∧ (¬ (r2 ≤ 0) → (jn_mo_parts_J15 x1 x2 x4 1 g1 post)))))
def jn_mo_isIn_J106 (v4 : Int32) (v7 : Int32) (s0 : Int32) (g : St) (post : Int32 → St → Prop) : Prop :=
  ((s0 = v4 → (post 0 g)) ∧ (¬ (s0 = v4) → ((s0 = v7 → (post 0 g)) ∧ (¬ (s0 = v7) → (post 1 g)))))
def jn_mo_isIn_J90 (v4 : Int32) (v7 : Int32) (s0 : Int32) (g : St) (post : Int32 → St → Prop) : Prop :=
  ((s0 ≤ v4 → (jn_mo_isIn_J106 v4 v7 s0 g post)) ∧ (¬ (s0 ≤ v4) → (jn_mo_isIn_J106 v4 v7 v4 g post)))
def jn_mo_isIn_J76 (v3 : Int32) (v4 : Int32) (v7 : Int32) (s0 : Int32) (g : St) (post : Int32 → St → Prop) : Prop :=
  ((s0 ≤ v3 → (jn_mo_isIn_J90 v4 v7 s0 g post)) ∧ (¬ (s0 ≤ v3) → (jn_mo_isIn_J90 v4 v7 v3 g post)))
def jn_mo_isIn_J64 (v1 : Int32) (v2 : Int32) (v3 : Int32) (v4 : Int32) (s0 : Int32) (g : St) (post : Int32 → St → Prop) : Prop :=
  ((v2 ≤ v1 → (jn_mo_isIn_J76 v3 v4 s0 v2 g post)) ∧ (¬ (v2 ≤ v1) → (jn_mo_isIn_J76 v3 v4 s0 v1 g post)))
def wp_mo_isIn (x1 : Int32) (x2 : Int32) (x3 : Int32) (x4 : Int32) (g : St) (post : Int32 → St → Prop) : Prop :=
  (wp_mo_inside x1 x2 x3 x4 g (fun r2 g1 => (((lg_cmp r2 0) = 0 → (wp_mo_parts x4 x1 x2 x3 g1 (fun r4 g3 => ((r4 = 0 → (wp_mo_parts x4 x2 x1 x3 g3 (fun r6 g5 => ((r6 = 0 → (jn_mo_isIn_J64 x1 x2 x3 x4 x3 g5 post)) ∧ (¬ (r6 = 0) → (jn_mo_isIn_J64 x1 x2 x3 x4 x2 g5 post)))))) ∧ (¬ (r4 = 0) → (jn_mo_isIn_J64 x1 x2 x3 x4 x1 g3 post)))))) ∧ (¬ ((lg_cmp r2 0) = 0) → (((lg_cmp r2 0) ≤ 0 → (post 0 g1)) ∧ (¬ ((lg_cmp r2 0) ≤ 0) → (post 1 g1)))))))
def lp_mo_isTriangle_L18 : Nat → Int32 → Int32 → Int32 → Int32 → Int32 → St → (Int32 → St → Prop) → (Int32 → St → Prop) → Prop
  | 0, _, _, _, _, _, _, _, _ => False
  | n + 1, v1, v2, v3, v4, v5, g, K75, post => (((g 0 1) ≤ v5 → (K75 v4 g)) ∧ (¬ ((g 0 1) ≤ v5) → ((v4 = 0 → (K75 v4 g)) ∧ (¬ (v4 = 0) → ((v5 = v1 → (lp_mo_isTriangle_L18 n v1 v2 v3 1 (v5 + 1) g K75 post)) ∧ (¬ (v5 = v1) → ((v5 = v2 → (lp_mo_isTriangle_L18 n v1 v2 v3 1 (v5 + 1) g K75 post)) ∧ (¬ (v5 = v2) → ((v5 = v3 → (lp_mo_isTriangle_L18 n v1 v2 v3 1 (v5 + 1) g K75 post)) ∧ (¬ (v5 = v3) → (wp_mo_isIn v1 v2 v3 v5 g (fun r4 g3 => ((¬ (r4 = 0) → (lp_mo_isTriangle_L18 n v1 v2 v3 0 (v5 + 1) g3 K75 post)) ∧ (r4 = 0 → (lp_mo_isTriangle_L18 n v1 v2 v3 1 (v5 + 1) g3 K75 post)))))))))))))))
def wp_mo_isTriangle (x1 : Int32) (x2 : Int32) (x3 : Int32) (g : St) (post : Int32 → St → Prop) : Prop :=
  (wp_mo_turn x1 x2 x3 g (fun r2 g1 => ((¬ (r2 = 0) → (∃ k18, lp_mo_isTriangle_L18 k18 x1 x2 x3 1 0 g1 (fun w6 g5 => (narrow .boolean (.int w6) = .int w6 ∧ post w6 g5)) post)) ∧ (r2 = 0 → (post 0 g1)))))
def lp_mo_findTriangles_L31 : Nat → Int32 → Int32 → Int32 → St → (Int32 → Int32 → St → Prop) → (St → Prop) → Prop
  | 0, _, _, _, _, _, _ => False
  | n + 1, v1, v2, v3, g, K105, post => (((g 0 1) ≤ v3 → (K105 v1 v2 g)) ∧ (¬ ((g 0 1) ≤ v3) → (wp_mo_isTriangle v1 v2 v3 g (fun r3 g2 => ((r3 = 0 → (lp_mo_findTriangles_L31 n v1 v2 (v3 + 1) g2 K105 post)) ∧ (¬ (r3 = 0) → (vp_in (3 * (g2 0 5)) 150 ∧ ∀ g4 : St, g4 = gp g2 4 (ix (3 * (g2 0 5))) v1 → (vp_in ((3 * (g4 0 5)) + 1) 150 ∧ ∀ g5 : St, g5 = gp g4 4 (ix ((3 * (g4 0 5)) + 1)) v2 → (vp_in ((3 * (g5 0 5)) + 2) 150 ∧ ∀ g6 : St, g6 = gp g5 4 (ix ((3 * (g5 0 5)) + 2)) v3 → (∀ g7 : St, g7 = gp g6 0 5 ((g6 0 5) + 1) → (lp_mo_findTriangles_L31 n v1 v2 (v3 + 1) g7 K105 post)))))))))))
def lp_mo_findTriangles_L19 : Nat → Int32 → Int32 → St → (Int32 → St → Prop) → (St → Prop) → Prop
  | 0, _, _, _, _, _ => False
  | n + 1, v1, v2, g, K111, post => (((g 0 1) ≤ v2 → (K111 v1 g)) ∧ (¬ ((g 0 1) ≤ v2) → (∃ k31, lp_mo_findTriangles_L31 k31 v1 v2 (v2 + 1) g (fun w9 w10 g8 => (lp_mo_findTriangles_L19 n w9 (w10 + 1) g8 K111 post)) post)))
def lp_mo_findTriangles_L7 : Nat → Int32 → St → (St → Prop) → (St → Prop) → Prop
  | 0, _, _, _, _ => False
  | n + 1, v1, g, K117, post => (((g 0 1) ≤ v1 → (K117 g)) ∧ (¬ ((g 0 1) ≤ v1) → (∃ k19, lp_mo_findTriangles_L19 k19 v1 (v1 + 1) g (fun w12 g11 => (lp_mo_findTriangles_L7 n (w12 + 1) g11 K117 post)) post)))
def wp_mo_findTriangles (g : St) (post : St → Prop) : Prop :=
  (∀ g1 : St, g1 = gp g 0 5 0 → (∃ k7, lp_mo_findTriangles_L7 k7 0 g1 (fun g13 => (post g13)) post))
def lp_mo_spot_L41 : Nat → Int32 → Int32 → Int32 → Int32 → Int32 → St → (Int32 → Int32 → Int32 → Int32 → St → Prop) → (Int32 → St → Prop) → Prop
  | 0, _, _, _, _, _, _, _, _ => False
  | n + 1, v1, v2, v3, v4, v5, g, K90, post => (((g 0 1) ≤ v5 → (K90 v1 v2 v3 v4 g)) ∧ (¬ ((g 0 1) ≤ v5) → ((¬ (v4 = 0) → (lp_mo_spot_L41 n v1 v2 v3 1 (v5 + 1) g K90 post)) ∧ (v4 = 0 → (vp_in v5 16 ∧ ((¬ ((g 1 (ix v5)) = v1) → (lp_mo_spot_L41 n v1 v2 v3 0 (v5 + 1) g K90 post)) ∧ ((g 1 (ix v5)) = v1 → (vp_in v5 16 ∧ ((¬ ((g 2 (ix v5)) = v2) → (lp_mo_spot_L41 n v1 v2 v3 0 (v5 + 1) g K90 post)) ∧ ((g 2 (ix v5)) = v2 → (lp_mo_spot_L41 n v1 v2 v3 1 (v5 + 1) g K90 post)))))))))))
def jn_mo_spot_J114 (v1 : Int32) (v2 : Int32) (v3 : Int32) (s1 : Int32) (g : St) (post : Int32 → St → Prop) : Prop :=
  (∀ g6 : St, g6 = gp g 0 0 s1 → (((g6 0 0) = 0 → (vp_in (g6 0 1) 16 ∧ ∀ g7 : St, g7 = gp g6 1 (ix (g6 0 1)) v1 → (vp_in (g7 0 1) 16 ∧ ∀ g8 : St, g8 = gp g7 2 (ix (g7 0 1)) v2 → (vp_in (g8 0 1) 16 ∧ ∀ g9 : St, g9 = gp g8 3 (ix (g8 0 1)) v3 → (∀ g10 : St, g10 = gp g9 0 1 ((g9 0 1) + 1) → (∀ g11 : St, g11 = gp g10 0 17 0 → (wp_mo_findTriangles g11 (fun g12 => (post ((g12 0 1) - 1) g12))))))))) ∧ (¬ ((g6 0 0) = 0) → (post 0 g6))))
def jn_mo_spot_J36 (v1 : Int32) (v2 : Int32) (v3 : Int32) (s0 : Int32) (g : St) (post : Int32 → St → Prop) : Prop :=
  (∃ k41, lp_mo_spot_L41 k41 v1 v2 v3 s0 0 g (fun w2 w3 w4 w5 g1 => ((w5 = 0 → ((¬ ((g1 0 1) = 16) → (jn_mo_spot_J114 w2 w3 w4 0 g1 post)) ∧ ((g1 0 1) = 16 → (jn_mo_spot_J114 w2 w3 w4 2 g1 post)))) ∧ (¬ (w5 = 0) → (jn_mo_spot_J114 w2 w3 w4 1 g1 post)))) post)
def jn_mo_spot_J31 (v1 : Int32) (v2 : Int32) (v3 : Int32) (g : St) (post : Int32 → St → Prop) : Prop :=
  (jn_mo_spot_J36 v1 v2 v3 1 g post)
def wp_mo_spot (x1 : Int32) (x2 : Int32) (x3 : Int32) (g : St) (post : Int32 → St → Prop) : Prop :=
  ((x1 < 0 → (jn_mo_spot_J31 x1 x2 x3 g post)) ∧ (¬ (x1 < 0) → ((63 < x1 → (jn_mo_spot_J31 x1 x2 x3 g post)) ∧ (¬ (63 < x1) → ((x2 < 0 → (jn_mo_spot_J31 x1 x2 x3 g post)) ∧ (¬ (x2 < 0) → ((63 < x2 → (jn_mo_spot_J31 x1 x2 x3 g post)) ∧ (¬ (63 < x2) → ((x3 < 0 → (jn_mo_spot_J31 x1 x2 x3 g post)) ∧ (¬ (x3 < 0) → ((x3 ≤ 999 → (jn_mo_spot_J36 x1 x2 x3 0 g post)) ∧ (¬ (x3 ≤ 999) → (jn_mo_spot_J31 x1 x2 x3 g post)))))))))))))
def jn_mo_raise_J29 (v1 : Int32) (v2 : Int32) (s1 : Int32) (g : St) (post : Int32 → St → Prop) : Prop :=
  (∀ g3 : St, g3 = gp g 0 0 s1 → (((g3 0 0) = 0 → (vp_in v1 16 ∧ (vp_in v1 16 ∧ ∀ g4 : St, g4 = gp g3 3 (ix v1) v2 → (∀ g5 : St, g5 = gp g4 0 17 0 → (post (g3 3 (ix v1)) g5))))) ∧ (¬ ((g3 0 0) = 0) → (post 0 g3))))
def jn_mo_raise_J24 (v1 : Int32) (v2 : Int32) (g : St) (post : Int32 → St → Prop) : Prop :=
  (jn_mo_raise_J29 v1 v2 2 g post)
def wp_mo_raise (x1 : Int32) (x2 : Int32) (g : St) (post : Int32 → St → Prop) : Prop :=
  (wp_mo_isSpot x1 g (fun r2 g1 => ((¬ (r2 = 0) → ((x2 < 0 → (jn_mo_raise_J24 x1 x2 g1 post)) ∧ (¬ (x2 < 0) → ((x2 ≤ 999 → (jn_mo_raise_J29 x1 x2 0 g1 post)) ∧ (¬ (x2 ≤ 999) → (jn_mo_raise_J24 x1 x2 g1 post)))))) ∧ (r2 = 0 → (jn_mo_raise_J29 x1 x2 1 g1 post)))))
def wp_mo_triangles (g : St) (post : Int32 → St → Prop) : Prop :=
  (∀ g1 : St, g1 = gp g 0 0 0 → (post (g1 0 5) g1))
def jn_mo_corner_J27 (v1 : Int32) (v2 : Int32) (s1 : Int32) (g : St) (post : Int32 → St → Prop) : Prop :=
  (∀ g1 : St, g1 = gp g 0 0 s1 → ((¬ ((g1 0 0) = 0) → (post 0 g1)) ∧ ((g1 0 0) = 0 → (vp_in ((3 * v1) + v2) 150 ∧ (post (g1 4 (ix ((3 * v1) + v2))) g1)))))
def jn_mo_corner_J22 (v1 : Int32) (v2 : Int32) (g : St) (post : Int32 → St → Prop) : Prop :=
  (jn_mo_corner_J27 v1 v2 1 g post)
def wp_mo_corner (x1 : Int32) (x2 : Int32) (g : St) (post : Int32 → St → Prop) : Prop :=
  ((x1 < 0 → (jn_mo_corner_J22 x1 x2 g post)) ∧ (¬ (x1 < 0) → (((g 0 5) ≤ x1 → (jn_mo_corner_J22 x1 x2 g post)) ∧ (¬ ((g 0 5) ≤ x1) → ((x2 < 0 → (jn_mo_corner_J22 x1 x2 g post)) ∧ (¬ (x2 < 0) → ((x2 ≤ 2 → (jn_mo_corner_J27 x1 x2 0 g post)) ∧ (¬ (x2 ≤ 2) → (jn_mo_corner_J22 x1 x2 g post)))))))))
def wp_mo_has (x1 : Int32) (x2 : Int32) (g : St) (post : Int32 → St → Prop) : Prop :=
  (vp_in (3 * x1) 150 ∧ (((g 4 (ix (3 * x1))) = x2 → (post 1 g)) ∧ (¬ ((g 4 (ix (3 * x1))) = x2) → (vp_in ((3 * x1) + 1) 150 ∧ (((g 4 (ix ((3 * x1) + 1))) = x2 → (post 1 g)) ∧ (¬ ((g 4 (ix ((3 * x1) + 1))) = x2) → (vp_in ((3 * x1) + 2) 150 ∧ ((¬ ((g 4 (ix ((3 * x1) + 2))) = x2) → (post 0 g)) ∧ ((g 4 (ix ((3 * x1) + 2))) = x2 → (post 1 g))))))))))
def lp_mo_edge_L30 : Nat → Int32 → Int32 → Int32 → Int32 → St → (Int32 → St → Prop) → (Int32 → St → Prop) → Prop
  | 0, _, _, _, _, _, _, _ => False
  | n + 1, v1, v2, v3, v4, g, K85, post => (((g 0 5) ≤ v4 → (K85 v3 g)) ∧ (¬ ((g 0 5) ≤ v4) → ((¬ ((g 0 0) = 0) → (K85 v3 g)) ∧ ((g 0 0) = 0 → ((v1 = v2 → (K85 v3 g)) ∧ (¬ (v1 = v2) → (wp_mo_has v4 v1 g (fun r5 g4 => ((r5 = 0 → (lp_mo_edge_L30 n v1 v2 (v3 + 0) (v4 + 1) g4 K85 post)) ∧ (¬ (r5 = 0) → (wp_mo_has v4 v2 g4 (fun r7 g6 => ((r7 = 0 → (lp_mo_edge_L30 n v1 v2 (v3 + 0) (v4 + 1) g6 K85 post)) ∧ (¬ (r7 = 0) → (lp_mo_edge_L30 n v1 v2 (v3 + 1) (v4 + 1) g6 K85 post)))))))))))))))
def jn_mo_edge_J22 (v1 : Int32) (v2 : Int32) (s1 : Int32) (g : St) (post : Int32 → St → Prop) : Prop :=
  (∀ g3 : St, g3 = gp g 0 0 s1 → (∃ k30, lp_mo_edge_L30 k30 v1 v2 0 0 g3 (fun w9 g8 => (post w9 g8)) post))
def jn_mo_edge_J21 (v1 : Int32) (v2 : Int32) (g : St) (post : Int32 → St → Prop) : Prop :=
  (jn_mo_edge_J22 v1 v2 1 g post)
def wp_mo_edge (x1 : Int32) (x2 : Int32) (g : St) (post : Int32 → St → Prop) : Prop :=
  (wp_mo_isSpot x1 g (fun r2 g1 => ((r2 = 0 → (jn_mo_edge_J21 x1 x2 g1 post)) ∧ (¬ (r2 = 0) → (wp_mo_isSpot x2 g1 (fun r11 g10 => ((r11 = 0 → (jn_mo_edge_J21 x1 x2 g10 post)) ∧ (¬ (r11 = 0) → (jn_mo_edge_J22 x1 x2 0 g10 post)))))))))
def wp_mo_toPlace (x1 : Int32) (x2 : Int32) (x3 : Int32) (x4 : Int32) (g : St) (post : Int64 → St → Prop) : Prop :=
  (vp_in x2 16 ∧ (vp_in x1 16 ∧ (vp_in x1 16 ∧ (vp_in x2 16 ∧ (vp_in x1 16 ∧ (vp_in x1 16 ∧ (post ((((g 1 (ix x2)) - (g 1 (ix x1))).toInt64 * (x4.toInt64 - (g 2 (ix x1)).toInt64)) - (((g 2 (ix x2)) - (g 2 (ix x1))).toInt64 * (x3.toInt64 - (g 1 (ix x1)).toInt64))) g)))))))
def wp_mo_floor (x0 : Int64) (x2 : Int64) (g : St) (post : Int64 → St → Prop) : Prop :=
  (¬ x2 = 0 ∧ (((lg_cmp ((x0 / x2) * x2) x0) ≤ 0 → (post (x0 / x2) g)) ∧ (¬ ((lg_cmp ((x0 / x2) * x2) x0) ≤ 0) → (post ((x0 / x2) - 1) g))))
def jn_mo_at_J82 (v1 : Int32) (v2 : Int32) (v3 : Int32) (v4 : Int32) (v5 : Int32) (v6 : Int32) (v7 : Int32) (s0 : Int32) (g : St) (K10 : Int32 → Int32 → Int32 → Int32 → St → Prop) (post : Int32 → St → Prop) : Prop :=
  (wp_mo_toPlace v6 v7 v1 v2 g (fun r5 g4 => (wp_mo_toPlace v7 v5 v1 v2 g4 (fun r7 g6 => (wp_mo_toPlace v5 v6 v1 v2 g6 (fun r9 g8 => (((lg_cmp (s0.toInt64 * r5) 0) < 0 → (K10 v1 v2 v3 (v4 + 1) g8)) ∧ (¬ ((lg_cmp (s0.toInt64 * r5) 0) < 0) → (((lg_cmp (s0.toInt64 * r7) 0) < 0 → (K10 v1 v2 v3 (v4 + 1) g8)) ∧ (¬ ((lg_cmp (s0.toInt64 * r7) 0) < 0) → (((lg_cmp (s0.toInt64 * r9) 0) < 0 → (K10 v1 v2 v3 (v4 + 1) g8)) ∧ (¬ ((lg_cmp (s0.toInt64 * r9) 0) < 0) → (vp_in v5 16 ∧ (vp_in v6 16 ∧ (vp_in v7 16 ∧ (wp_mo_floor ((((s0.toInt64 * r5) * (g8 3 (ix v5)).toInt64) + ((s0.toInt64 * r7) * (g8 3 (ix v6)).toInt64)) + ((s0.toInt64 * r9) * (g8 3 (ix v7)).toInt64)) (((s0.toInt64 * r5) + (s0.toInt64 * r7)) + (s0.toInt64 * r9)) g8 (fun r11 g10 => (∀ g12 : St, g12 = gp g10 0 0 0 → (K10 v1 v2 r11.toInt32 (v4 + 1) g12)))))))))))))))))))
def lp_mo_at_L10 : Nat → Int32 → Int32 → Int32 → Int32 → St → (Int32 → St → Prop) → (Int32 → St → Prop) → Prop
  | 0, _, _, _, _, _, _, _ => False
  | n + 1, v1, v2, v3, v4, g, K212, post => (((g 0 5) ≤ v4 → (K212 v3 g)) ∧ (¬ ((g 0 5) ≤ v4) → ((¬ ((g 0 0) = 1) → (K212 v3 g)) ∧ ((g 0 0) = 1 → (vp_in (3 * v4) 150 ∧ (vp_in ((3 * v4) + 1) 150 ∧ (vp_in ((3 * v4) + 2) 150 ∧ (wp_mo_turn (g 4 (ix (3 * v4))) (g 4 (ix ((3 * v4) + 1))) (g 4 (ix ((3 * v4) + 2))) g (fun r3 g2 => ((r3 ≤ 0 → (jn_mo_at_J82 v1 v2 v3 v4 (g 4 (ix (3 * v4))) (g 4 (ix ((3 * v4) + 1))) (g 4 (ix ((3 * v4) + 2))) (-1) g2 (fun w14 w15 w16 w17 g13 => (lp_mo_at_L10 n w14 w15 w16 w17 g13 K212 post)) post)) ∧ (¬ (r3 ≤ 0) → (jn_mo_at_J82 v1 v2 v3 v4 (g 4 (ix (3 * v4))) (g 4 (ix ((3 * v4) + 1))) (g 4 (ix ((3 * v4) + 2))) 1 g2 (fun w19 w20 w21 w22 g18 => (lp_mo_at_L10 n w19 w20 w21 w22 g18 K212 post)) post))))))))))))
def wp_mo_at (x1 : Int32) (x2 : Int32) (g : St) (post : Int32 → St → Prop) : Prop :=
  (∀ g1 : St, g1 = gp g 0 0 1 → (∃ k10, lp_mo_at_L10 k10 x1 x2 0 0 g1 (fun w24 g23 => (post w24 g23)) post))
def wp_mo_isHigh (x1 : Int32) (x2 : Int32) (g : St) (post : Int32 → St → Prop) : Prop :=
  (vp_in x1 16 ∧ (((g 3 (ix x1)) ≤ x2 → (post 0 g)) ∧ (¬ ((g 3 (ix x1)) ≤ x2) → (post 1 g))))
def wp_mo_edgeOf (x0 : Int32) (x1 : Int32) (g : St) (post : Int32 → St → Prop) : Prop :=
  ((x1 ≤ x0 → (post ((16 * x1) + x0) g)) ∧ (¬ (x1 ≤ x0) → (post ((16 * x0) + x1) g)))
def jn_mo_join_J34 (v1 : Int32) (v2 : Int32) (s0 : Int32) (g : St) (post : St → Prop) : Prop :=
  (wp_mo_edgeOf v1 v2 g (fun r8 g7 => (vp_in r8 256 ∧ ∀ g9 : St, g9 = gp g7 6 (ix r8) s0 → (wp_mo_edgeOf v1 v2 g9 (fun r11 g10 => (vp_in s0 256 ∧ ∀ g12 : St, g12 = gp g10 7 (ix s0) r11 → (post g12)))))))
def wp_mo_join (x1 : Int32) (x2 : Int32) (x3 : Int32) (x4 : Int32) (g : St) (post : St → Prop) : Prop :=
  (wp_mo_turn x2 x1 x3 g (fun r2 g1 => ((r2 < 0 → (wp_mo_isHigh x3 x4 g1 (fun r4 g3 => ((r4 = 0 → (wp_mo_edgeOf x1 x3 g3 (fun r6 g5 => (jn_mo_join_J34 x1 x2 r6 g5 post)))) ∧ (¬ (r4 = 0) → (wp_mo_edgeOf x3 x2 g3 (fun r14 g13 => (jn_mo_join_J34 x1 x2 r14 g13 post)))))))) ∧ (¬ (r2 < 0) → (post g1)))))
def wp_mo_pair (x1 : Int32) (x2 : Int32) (x3 : Int32) (x4 : Int32) (g : St) (post : St → Prop) : Prop :=
  (wp_mo_isHigh x1 x4 g (fun r2 g1 => (wp_mo_isHigh x2 x4 g1 (fun r4 g3 => ((¬ (r2 = r4) → (wp_mo_edgeOf x1 x2 g3 (fun r6 g5 => (vp_in r6 256 ∧ ∀ g7 : St, g7 = gp g5 5 (ix r6) (vp_nar .boolean 1) → (wp_mo_isHigh x1 x4 g7 (fun r9 g8 => ((r9 = 0 → (wp_mo_join x2 x1 x3 x4 g8 (fun g10 => (post g10)))) ∧ (¬ (r9 = 0) → (wp_mo_join x1 x2 x3 x4 g8 (fun g11 => (post g11))))))))))) ∧ (r2 = r4 → (post g3)))))))
def lp_mo_gather_L4 : Nat → Int32 → Int32 → Int32 → St → (Int32 → Int32 → St → Prop) → (St → Prop) → Prop
  | 0, _, _, _, _, _, _ => False
  | n + 1, v1, v2, v3, g, K38, post => (vp_in v2 256 ∧ (((g 7 (ix v2)) < 0 → (K38 v2 v3 g)) ∧ (¬ ((g 7 (ix v2)) < 0) → ((¬ (v3 = 0) → (K38 v2 v3 g)) ∧ (v3 = 0 → (vp_in v2 256 ∧ ((¬ ((g 7 (ix v2)) = v1) → (lp_mo_gather_L4 n v1 (g 7 (ix v2)) 0 g K38 post)) ∧ ((g 7 (ix v2)) = v1 → (lp_mo_gather_L4 n v1 (g 7 (ix v2)) 1 g K38 post)))))))))
def lp_mo_gather_L67 : Nat → Int32 → Int32 → Int32 → St → (St → Prop) → (St → Prop) → Prop
  | 0, _, _, _, _, _, _ => False
  | n + 1, v2, v4, v5, g, K131, post => ((v5 = 0 → (K131 g)) ∧ (¬ (v5 = 0) → (vp_in (g 0 15) 260 ∧ ∀ g6 : St, g6 = gp g 12 (ix (g 0 15)) v4 → (∀ g7 : St, g7 = gp g6 0 15 ((g6 0 15) + 1) → (vp_in v4 256 ∧ ∀ g8 : St, g8 = gp g7 8 (ix v4) (vp_nar .boolean 1) → (vp_in v4 256 ∧ (((g8 6 (ix v4)) < 0 → (lp_mo_gather_L67 n v2 (g8 6 (ix v4)) 0 g8 K131 post)) ∧ (¬ ((g8 6 (ix v4)) < 0) → (((g8 6 (ix v4)) = v2 → (lp_mo_gather_L67 n v2 (g8 6 (ix v4)) 0 g8 K131 post)) ∧ (¬ ((g8 6 (ix v4)) = v2) → (lp_mo_gather_L67 n v2 (g8 6 (ix v4)) 1 g8 K131 post)))))))))))
def jn_mo_gather_J38 (v2 : Int32) (v3 : Int32) (g : St) (post : St → Prop) : Prop :=
  (vp_in (g 0 11) 130 ∧ ∀ g4 : St, g4 = gp g 9 (ix (g 0 11)) (g 0 15) → (vp_in (g4 0 11) 130 ∧ ∀ g5 : St, g5 = gp g4 11 (ix (g4 0 11)) (vp_nar .boolean v3) → (∃ k67, lp_mo_gather_L67 k67 v2 v2 1 g5 (fun g9 => (vp_in (g9 0 11) 130 ∧ (vp_in (g9 0 11) 130 ∧ ∀ g10 : St, g10 = gp g9 10 (ix (g9 0 11)) ((g9 0 15) - (g9 9 (ix (g9 0 11)))) → (∀ g11 : St, g11 = gp g10 0 11 ((g10 0 11) + 1) → (post g11))))) post)))
def wp_mo_gather (x1 : Int32) (g : St) (post : St → Prop) : Prop :=
  (∃ k4, lp_mo_gather_L4 k4 x1 x1 0 g (fun w2 w3 g1 => (jn_mo_gather_J38 w2 w3 g1 post)) post)
def lp_mo_findContours_L2 : Nat → Int32 → Int32 → St → (Int32 → St → Prop) → (St → Prop) → Prop
  | 0, _, _, _, _, _ => False
  | n + 1, v1, v2, g, K43, post => ((256 ≤ v2 → (K43 v1 g)) ∧ (¬ (256 ≤ v2) → (vp_in v2 256 ∧ ∀ g1 : St, g1 = gp g 5 (ix v2) (vp_nar .boolean 0) → (vp_in v2 256 ∧ ∀ g2 : St, g2 = gp g1 8 (ix v2) (vp_nar .boolean 0) → (vp_in v2 256 ∧ ∀ g3 : St, g3 = gp g2 6 (ix v2) (-1) → (vp_in v2 256 ∧ ∀ g4 : St, g4 = gp g3 7 (ix v2) (-1) → (lp_mo_findContours_L2 n v1 (v2 + 1) g4 K43 post)))))))
def lp_mo_findContours_L45 : Nat → Int32 → Int32 → St → (St → Prop) → (St → Prop) → Prop
  | 0, _, _, _, _, _ => False
  | n + 1, v1, v2, g, K122, post => (((g 0 5) ≤ v2 → (K122 g)) ∧ (¬ ((g 0 5) ≤ v2) → (vp_in (3 * v2) 150 ∧ (vp_in ((3 * v2) + 1) 150 ∧ (vp_in ((3 * v2) + 2) 150 ∧ (wp_mo_pair (g 4 (ix (3 * v2))) (g 4 (ix ((3 * v2) + 1))) (g 4 (ix ((3 * v2) + 2))) v1 g (fun g7 => (wp_mo_pair (g 4 (ix (3 * v2))) (g 4 (ix ((3 * v2) + 2))) (g 4 (ix ((3 * v2) + 1))) v1 g7 (fun g8 => (wp_mo_pair (g 4 (ix ((3 * v2) + 1))) (g 4 (ix ((3 * v2) + 2))) (g 4 (ix (3 * v2))) v1 g8 (fun g9 => (lp_mo_findContours_L45 n v1 (v2 + 1) g9 K122 post))))))))))))
def lp_mo_findContours_L134 : Nat → Int32 → St → (St → Prop) → (St → Prop) → Prop
  | 0, _, _, _, _ => False
  | n + 1, v2, g, K170, post => ((256 ≤ v2 → (K170 g)) ∧ (¬ (256 ≤ v2) → (vp_in v2 256 ∧ (((g 5 (ix v2)) = 0 → (lp_mo_findContours_L134 n (v2 + 1) g K170 post)) ∧ (¬ ((g 5 (ix v2)) = 0) → (vp_in v2 256 ∧ ((¬ ((g 8 (ix v2)) = 0) → (lp_mo_findContours_L134 n (v2 + 1) g K170 post)) ∧ ((g 8 (ix v2)) = 0 → (wp_mo_gather v2 g (fun g13 => (lp_mo_findContours_L134 n (v2 + 1) g13 K170 post)))))))))))
def wp_mo_findContours (x1 : Int32) (g : St) (post : St → Prop) : Prop :=
  (∃ k2, lp_mo_findContours_L2 k2 x1 0 g (fun w6 g5 => (∃ k45, lp_mo_findContours_L45 k45 w6 0 g5 (fun g10 => (∀ g11 : St, g11 = gp g10 0 11 0 → (∀ g12 : St, g12 = gp g11 0 15 0 → (∃ k134, lp_mo_findContours_L134 k134 0 g12 (fun g14 => (post g14)) post)))) post)) post)
def wp_mo_isLevel (x0 : Int32) (g : St) (post : Int32 → St → Prop) : Prop :=
  ((x0 < 0 → (post 0 g)) ∧ (¬ (x0 < 0) → ((998 < x0 → (post 0 g)) ∧ (¬ (998 < x0) → (post 1 g)))))
def jn_mo_contours_J13 (v1 : Int32) (s1 : Int32) (g : St) (post : Int32 → St → Prop) : Prop :=
  (∀ g3 : St, g3 = gp g 0 0 s1 → (((g3 0 0) = 0 → (wp_mo_findContours v1 g3 (fun g4 => (post (g4 0 11) g4)))) ∧ (¬ ((g3 0 0) = 0) → (post 0 g3))))
def wp_mo_contours (x1 : Int32) (g : St) (post : Int32 → St → Prop) : Prop :=
  (wp_mo_isLevel x1 g (fun r2 g1 => ((r2 = 0 → (jn_mo_contours_J13 x1 1 g1 post)) ∧ (¬ (r2 = 0) → (jn_mo_contours_J13 x1 0 g1 post)))))
def wp_mo_asked (x1 : Int32) (x2 : Int32) (g : St) (post : Int32 → St → Prop) : Prop :=
  (wp_mo_isLevel x1 g (fun r2 g1 => ((¬ (r2 = 0) → (wp_mo_findContours x1 g1 (fun g3 => ((x2 < 0 → (post 2 g3)) ∧ (¬ (x2 < 0) → ((x2 < (g3 0 11) → (post 0 g3)) ∧ (¬ (x2 < (g3 0 11)) → (post 2 g3)))))))) ∧ (r2 = 0 → (post 1 g1)))))
def jn_mo_isHollow_J79 (v1 : Int32) (v2 : Int32) (v4 : Int32) (s0 : Int32) (g : St) (K23 : Int32 → Int32 → Int32 → Int32 → St → Prop) (post : Int32 → St → Prop) : Prop :=
  (vp_in v4 260 ∧ (vp_in ((g 12 (ix v4)) - (g 12 (ix v4)) / 16 * 16) 16 ∧ (vp_in s0 16 ∧ (((g 1 (ix s0)) ≤ (g 1 (ix ((g 12 (ix v4)) - (g 12 (ix v4)) / 16 * 16))) → (K23 v1 v2 s0 (v4 + 1) g)) ∧ (¬ ((g 1 (ix s0)) ≤ (g 1 (ix ((g 12 (ix v4)) - (g 12 (ix v4)) / 16 * 16)))) → (vp_in v4 260 ∧ (K23 v1 v2 ((g 12 (ix v4)) - (g 12 (ix v4)) / 16 * 16) (v4 + 1) g)))))))
def lp_mo_isHollow_L23 : Nat → Int32 → Int32 → Int32 → Int32 → St → (Int32 → Int32 → St → Prop) → (Int32 → St → Prop) → Prop
  | 0, _, _, _, _, _, _, _ => False
  | n + 1, v1, v2, v3, v4, g, K125, post => (vp_in v2 130 ∧ (vp_in v2 130 ∧ ((((g 9 (ix v2)) + (g 10 (ix v2))) ≤ v4 → (K125 v1 v3 g)) ∧ (¬ (((g 9 (ix v2)) + (g 10 (ix v2))) ≤ v4) → (vp_in v4 260 ∧ (vp_in ((g 12 (ix v4)) / 16) 16 ∧ (vp_in v3 16 ∧ (((g 1 (ix v3)) ≤ (g 1 (ix ((g 12 (ix v4)) / 16))) → (jn_mo_isHollow_J79 v1 v2 v4 v3 g (fun w2 w3 w4 w5 g1 => (lp_mo_isHollow_L23 n w2 w3 w4 w5 g1 K125 post)) post)) ∧ (¬ ((g 1 (ix v3)) ≤ (g 1 (ix ((g 12 (ix v4)) / 16)))) → (vp_in v4 260 ∧ (jn_mo_isHollow_J79 v1 v2 v4 ((g 12 (ix v4)) / 16) g (fun w7 w8 w9 w10 g6 => (lp_mo_isHollow_L23 n w7 w8 w9 w10 g6 K125 post)) post)))))))))))
def wp_mo_isHollow (x1 : Int32) (x2 : Int32) (g : St) (post : Int32 → St → Prop) : Prop :=
  (vp_in x2 130 ∧ (vp_in (g 9 (ix x2)) 260 ∧ (vp_in x2 130 ∧ (∃ k23, lp_mo_isHollow_L23 k23 x1 x2 ((g 12 (ix (g 9 (ix x2)))) / 16) (g 9 (ix x2)) g (fun w12 w13 g11 => (wp_mo_isHigh w13 w12 g11 (fun r15 g14 => (narrow .boolean (.int r15) = .int r15 ∧ post r15 g14)))) post))))
def wp_mo_contour (x1 : Int32) (x2 : Int32) (g : St) (post : Int32 → St → Prop) : Prop :=
  (wp_mo_asked x1 x2 g (fun r2 g1 => (∀ g3 : St, g3 = gp g1 0 0 r2 → (((g3 0 0) = 0 → (vp_in x2 130 ∧ (vp_in x2 130 ∧ ((¬ ((g3 11 (ix x2)) = 0) → (wp_mo_isHollow x1 x2 g3 (fun r5 g4 => ((r5 = 0 → (post ((g3 10 (ix x2)) + 1000) g4)) ∧ (¬ (r5 = 0) → (post ((g3 10 (ix x2)) + 2000) g4)))))) ∧ ((g3 11 (ix x2)) = 0 → (post ((g3 10 (ix x2)) + 0) g3)))))) ∧ (¬ ((g3 0 0) = 0) → (post 0 g3))))))
def wp_mo_askedFor (x1 : Int32) (x2 : Int32) (x3 : Int32) (g : St) (post : Int32 → St → Prop) : Prop :=
  (wp_mo_asked x1 x2 g (fun r2 g1 => ((¬ (r2 = 0) → (post r2 g1)) ∧ (r2 = 0 → ((x3 < 0 → (post 2 g1)) ∧ (¬ (x3 < 0) → (vp_in x2 130 ∧ ((x3 < (g1 10 (ix x2)) → (post r2 g1)) ∧ (¬ (x3 < (g1 10 (ix x2))) → (post 2 g1))))))))))
def wp_mo_crossing (x1 : Int32) (x2 : Int32) (x3 : Int32) (g : St) (post : Int32 → St → Prop) : Prop :=
  (wp_mo_askedFor x1 x2 x3 g (fun r2 g1 => (∀ g3 : St, g3 = gp g1 0 0 r2 → ((¬ ((g3 0 0) = 0) → (post 0 g3)) ∧ ((g3 0 0) = 0 → (vp_in x2 130 ∧ (vp_in ((g3 9 (ix x2)) + x3) 260 ∧ (post (g3 12 (ix ((g3 9 (ix x2)) + x3))) g3))))))))
def jn_mo_placeOf_J23 (v1 : Int32) (v2 : Int32) (s0 : Int32) (g : St) (post : Int32 → St → Prop) : Prop :=
  (vp_in (((v2 / 16) + (v2 - v2 / 16 * 16)) - s0) 16 ∧ (vp_in s0 16 ∧ (vp_in (((v2 / 16) + (v2 - v2 / 16 * 16)) - s0) 16 ∧ (vp_in (((v2 / 16) + (v2 - v2 / 16 * 16)) - s0) 16 ∧ (vp_in s0 16 ∧ (vp_in (((v2 / 16) + (v2 - v2 / 16 * 16)) - s0) 16 ∧ (wp_mo_floor (((g 1 (ix s0)) - (g 1 (ix (((v2 / 16) + (v2 - v2 / 16 * 16)) - s0)))).toInt64 * (((2 * v1) + 1) - (2 * (g 3 (ix (((v2 / 16) + (v2 - v2 / 16 * 16)) - s0))))).toInt64) (2 * ((g 3 (ix s0)) - (g 3 (ix (((v2 / 16) + (v2 - v2 / 16 * 16)) - s0))))).toInt64 g (fun r4 g3 => (vp_in (((v2 / 16) + (v2 - v2 / 16 * 16)) - s0) 16 ∧ (vp_in s0 16 ∧ (vp_in (((v2 / 16) + (v2 - v2 / 16 * 16)) - s0) 16 ∧ (wp_mo_floor (((g3 2 (ix s0)) - (g3 2 (ix (((v2 / 16) + (v2 - v2 / 16 * 16)) - s0)))).toInt64 * (((2 * v1) + 1) - (2 * (g 3 (ix (((v2 / 16) + (v2 - v2 / 16 * 16)) - s0))))).toInt64) (2 * ((g 3 (ix s0)) - (g 3 (ix (((v2 / 16) + (v2 - v2 / 16 * 16)) - s0))))).toInt64 g3 (fun r6 g5 => (post ((64 * ((g 1 (ix (((v2 / 16) + (v2 - v2 / 16 * 16)) - s0))).toInt64 + r4)) + ((g3 2 (ix (((v2 / 16) + (v2 - v2 / 16 * 16)) - s0))).toInt64 + r6)).toInt32 g5))))))))))))))
def wp_mo_placeOf (x1 : Int32) (x2 : Int32) (g : St) (post : Int32 → St → Prop) : Prop :=
  (wp_mo_isHigh (x2 / 16) x1 g (fun r2 g1 => ((r2 = 0 → (jn_mo_placeOf_J23 x1 x2 (x2 - x2 / 16 * 16) g1 post)) ∧ (¬ (r2 = 0) → (jn_mo_placeOf_J23 x1 x2 (x2 / 16) g1 post)))))
def wp_mo_place (x1 : Int32) (x2 : Int32) (x3 : Int32) (g : St) (post : Int32 → St → Prop) : Prop :=
  (wp_mo_askedFor x1 x2 x3 g (fun r2 g1 => (∀ g3 : St, g3 = gp g1 0 0 r2 → ((¬ ((g3 0 0) = 0) → (post 0 g3)) ∧ ((g3 0 0) = 0 → (vp_in x2 130 ∧ (vp_in ((g3 9 (ix x2)) + x3) 260 ∧ (wp_mo_placeOf x1 (g3 12 (ix ((g3 9 (ix x2)) + x3))) g3 (fun r5 g4 => (post r5 g4))))))))))
def wp_mo_isNear (x1 : Int32) (x2 : Int32) (x3 : Int32) (g : St) (post : Int32 → St → Prop) : Prop :=
  ((x3 < (x1 - x2) → (post 0 g)) ∧ (¬ (x3 < (x1 - x2)) → ((x3 < (x2 - x1) → (post 0 g)) ∧ (¬ (x3 < (x2 - x1)) → (post 1 g)))))
def lp_mo_clashes_L5 : Nat → Int32 → Int32 → Int32 → Int32 → St → (Int32 → Int32 → Int32 → St → Prop) → (Int32 → St → Prop) → Prop
  | 0, _, _, _, _, _, _, _ => False
  | n + 1, v1, v2, v3, v4, g, K62, post => (((g 0 1) ≤ v4 → (K62 v1 v2 v3 g)) ∧ (¬ ((g 0 1) ≤ v4) → ((¬ (v3 = 0) → (lp_mo_clashes_L5 n v1 v2 1 (v4 + 1) g K62 post)) ∧ (v3 = 0 → (vp_in v4 16 ∧ (wp_mo_isNear (g 1 (ix v4)) v1 3 g (fun r2 g1 => ((r2 = 0 → (lp_mo_clashes_L5 n v1 v2 0 (v4 + 1) g1 K62 post)) ∧ (¬ (r2 = 0) → (vp_in v4 16 ∧ (wp_mo_isNear (g1 2 (ix v4)) v2 1 g1 (fun r4 g3 => ((r4 = 0 → (lp_mo_clashes_L5 n v1 v2 0 (v4 + 1) g3 K62 post)) ∧ (¬ (r4 = 0) → (lp_mo_clashes_L5 n v1 v2 1 (v4 + 1) g3 K62 post)))))))))))))))
def lp_mo_clashes_L65 : Nat → Int32 → Int32 → Int32 → Int32 → St → (Int32 → St → Prop) → (Int32 → St → Prop) → Prop
  | 0, _, _, _, _, _, _, _ => False
  | n + 1, v1, v2, v3, v4, g, K123, post => (((g 0 17) ≤ v4 → (K123 v3 g)) ∧ (¬ ((g 0 17) ≤ v4) → ((¬ (v3 = 0) → (lp_mo_clashes_L65 n v1 v2 1 (v4 + 1) g K123 post)) ∧ (v3 = 0 → (vp_in v4 60 ∧ (wp_mo_isNear (g 14 (ix v4)) v1 6 g (fun r10 g9 => ((r10 = 0 → (lp_mo_clashes_L65 n v1 v2 0 (v4 + 1) g9 K123 post)) ∧ (¬ (r10 = 0) → (vp_in v4 60 ∧ (wp_mo_isNear (g9 15 (ix v4)) v2 2 g9 (fun r12 g11 => ((r12 = 0 → (lp_mo_clashes_L65 n v1 v2 0 (v4 + 1) g11 K123 post)) ∧ (¬ (r12 = 0) → (lp_mo_clashes_L65 n v1 v2 1 (v4 + 1) g11 K123 post)))))))))))))))
def wp_mo_clashes (x1 : Int32) (x2 : Int32) (g : St) (post : Int32 → St → Prop) : Prop :=
  (∃ k5, lp_mo_clashes_L5 k5 x1 x2 0 0 g (fun w6 w7 w8 g5 => (∃ k65, lp_mo_clashes_L65 k65 w6 w7 w8 0 g5 (fun w14 g13 => (narrow .boolean (.int w14) = .int w14 ∧ post w14 g13)) post)) post)
def lp_mo_labelContour_L5 : Nat → Int32 → Int32 → Int32 → Int32 → St → (St → Prop) → (St → Prop) → Prop
  | 0, _, _, _, _, _, _, _ => False
  | n + 1, v1, v2, v3, v4, g, K114, post => (vp_in v2 130 ∧ (((g 10 (ix v2)) ≤ v4 → (K114 g)) ∧ (¬ ((g 10 (ix v2)) ≤ v4) → ((¬ (v3 = 0) → (K114 g)) ∧ (v3 = 0 → (vp_in v2 130 ∧ (vp_in ((g 9 (ix v2)) + v4) 260 ∧ (wp_mo_placeOf v1 (g 12 (ix ((g 9 (ix v2)) + v4))) g (fun r2 g1 => (wp_mo_clashes (r2 / 64) (r2 - r2 / 64 * 64) g1 (fun r4 g3 => ((¬ (r4 = 0) → (lp_mo_labelContour_L5 n v1 v2 v3 (v4 + 1) g3 K114 post)) ∧ (r4 = 0 → (vp_in (g3 0 17) 60 ∧ ∀ g5 : St, g5 = gp g3 13 (ix (g3 0 17)) v1 → (vp_in (g5 0 17) 60 ∧ ∀ g6 : St, g6 = gp g5 14 (ix (g5 0 17)) (r2 / 64) → (vp_in (g6 0 17) 60 ∧ ∀ g7 : St, g7 = gp g6 15 (ix (g6 0 17)) (r2 - r2 / 64 * 64) → (∀ g8 : St, g8 = gp g7 0 17 ((g7 0 17) + 1) → (lp_mo_labelContour_L5 n v1 v2 1 (v4 + 1) g8 K114 post))))))))))))))))))
def wp_mo_labelContour (x1 : Int32) (x2 : Int32) (g : St) (post : St → Prop) : Prop :=
  (∃ k5, lp_mo_labelContour_L5 k5 x1 x2 0 0 g (fun g9 => (post g9)) post)
def lp_mo_label_L37 : Nat → Int32 → Int32 → Int32 → St → (Int32 → St → Prop) → (Int32 → St → Prop) → Prop
  | 0, _, _, _, _, _, _ => False
  | n + 1, v1, v2, v3, g, K57, post => (((g 0 11) ≤ v3 → (K57 v2 g)) ∧ (¬ ((g 0 11) ≤ v3) → (wp_mo_labelContour v1 v3 g (fun g5 => (lp_mo_label_L37 n v1 v2 (v3 + 1) g5 K57 post)))))
def jn_mo_label_J79 (v2 : Int32) (v3 : Int32) (s1 : Int32) (g : St) (post : Int32 → St → Prop) : Prop :=
  (∀ g8 : St, g8 = gp g 0 0 s1 → ((¬ ((g8 0 0) = 0) → (∀ g9 : St, g9 = gp g8 0 17 v2 → ((¬ ((g9 0 0) = 0) → (post 0 g9)) ∧ ((g9 0 0) = 0 → (post v3 g9))))) ∧ ((g8 0 0) = 0 → (∀ g10 : St, g10 = gp g8 0 17 (g8 0 17) → ((¬ ((g10 0 0) = 0) → (post 0 g10)) ∧ ((g10 0 0) = 0 → (post v3 g10)))))))
def jn_mo_label_J13 (v1 : Int32) (s1 : Int32) (g : St) (post : Int32 → St → Prop) : Prop :=
  (∀ g3 : St, g3 = gp g 0 0 s1 → (((g3 0 0) = 0 → (wp_mo_findContours v1 g3 (fun g4 => (∃ k37, lp_mo_label_L37 k37 v1 (g4 0 17) 0 g4 (fun w7 g6 => (((g6 0 17) ≤ 20 → (jn_mo_label_J79 w7 ((g6 0 17) - w7) 0 g6 post)) ∧ (¬ ((g6 0 17) ≤ 20) → (jn_mo_label_J79 w7 ((g6 0 17) - w7) 2 g6 post)))) post)))) ∧ (¬ ((g3 0 0) = 0) → (post 0 g3))))
def wp_mo_label (x1 : Int32) (g : St) (post : Int32 → St → Prop) : Prop :=
  (wp_mo_isLevel x1 g (fun r2 g1 => ((r2 = 0 → (jn_mo_label_J13 x1 1 g1 post)) ∧ (¬ (r2 = 0) → (jn_mo_label_J13 x1 0 g1 post)))))
def wp_mo_labels (g : St) (post : Int32 → St → Prop) : Prop :=
  (∀ g1 : St, g1 = gp g 0 0 0 → (post (g1 0 17) g1))
def jn_mo_labelOf_J31 (v1 : Int32) (v2 : Int32) (s1 : Int32) (g : St) (post : Int32 → St → Prop) : Prop :=
  (∀ g1 : St, g1 = gp g 0 0 s1 → (((g1 0 0) = 0 → ((¬ (v2 = 0) → ((¬ (v2 = 1) → (vp_in v1 60 ∧ (post (g1 15 (ix v1)) g1))) ∧ (v2 = 1 → (vp_in v1 60 ∧ (post (g1 14 (ix v1)) g1))))) ∧ (v2 = 0 → (vp_in v1 60 ∧ (post (g1 13 (ix v1)) g1))))) ∧ (¬ ((g1 0 0) = 0) → (post 0 g1))))
def jn_mo_labelOf_J13 (v1 : Int32) (v2 : Int32) (g : St) (post : Int32 → St → Prop) : Prop :=
  (jn_mo_labelOf_J31 v1 v2 1 g post)
def jn_mo_labelOf_J26 (v1 : Int32) (v2 : Int32) (g : St) (post : Int32 → St → Prop) : Prop :=
  (jn_mo_labelOf_J31 v1 v2 2 g post)
def wp_mo_labelOf (x1 : Int32) (x2 : Int32) (g : St) (post : Int32 → St → Prop) : Prop :=
  ((x1 < 0 → (jn_mo_labelOf_J13 x1 x2 g post)) ∧ (¬ (x1 < 0) → ((x1 < (g 0 17) → ((x2 < 0 → (jn_mo_labelOf_J26 x1 x2 g post)) ∧ (¬ (x2 < 0) → ((x2 ≤ 2 → (jn_mo_labelOf_J31 x1 x2 0 g post)) ∧ (¬ (x2 ≤ 2) → (jn_mo_labelOf_J26 x1 x2 g post)))))) ∧ (¬ (x1 < (g 0 17)) → (jn_mo_labelOf_J13 x1 x2 g post)))))
def wp_mo_wipe (g : St) (post : Int32 → St → Prop) : Prop :=
  (∀ g1 : St, g1 = gp g 0 0 0 → (∀ g2 : St, g2 = gp g1 0 17 0 → (post (g1 0 17) g2)))
end
section
/-! What the methods of Spots, and the reference's sisters, answer: in whole numbers. -/
theorem ix_nI {a : Nat} (h : a < 2147483648) : ix (nI a) = a := nI_clamp (by omega)
theorem nb_0 : narrow .boolean (.int 0) = .int 0 := by decide
theorem nb_1 : narrow .boolean (.int 1) = .int 1 := by decide
theorem vn_0 : vp_nar .boolean 0 = 0 := by decide
theorem vn_1 : vp_nar .boolean 1 = 1 := by decide
theorem iI_0 : iI 0 = 0 := rfl
theorem iI_1 : iI 1 = 1 := rfl
theorem iI_m1 : iI (-1) = -1 := rfl
theorem jI_0 : jI 0 = 0 := rfl
theorem jI_1 : jI 1 = 1 := rfl
/-- the spots of the class -/
def sC (g : St) (n : Nat) (X Y Z : Nat → Int) : Prop := ge_ok X Y n ∧ (∀ v, v < n → 0 ≤ Z v ∧ Z v ≤ 999) ∧ g 1 3 = nI n ∧ ∀ v, v < n → g 5 v = iI (X v) ∧ g 6 v = iI (Y v) ∧ g 7 v = iI (Z v)
/-- the spots of the reference -/
def sM (g : St) (n : Nat) (X Y Z : Nat → Int) : Prop := ge_ok X Y n ∧ (∀ v, v < n → 0 ≤ Z v ∧ Z v ≤ 999) ∧ g 0 1 = nI n ∧ ∀ v, v < n → g 1 v = iI (X v) ∧ g 2 v = iI (Y v) ∧ g 3 v = iI (Z v)
section
variable {g : St} {n : Nat} {X Y Z : Nat → Int}
theorem sC.v16 (h : sC g n X Y Z) {a : Nat} (ha : a < n) : vp_in (nI a) 16 := vp_in_nI (by have := h.1.1; omega) (by omega)
theorem sC.ix (h : sC g n X Y Z) {a : Nat} (ha : a < n) : ix (nI a) = a := ix_nI (by have := h.1.1; omega)
theorem sM.v16 (h : sM g n X Y Z) {a : Nat} (ha : a < n) : vp_in (nI a) 16 := vp_in_nI (by have := h.1.1; omega) (by omega)
theorem sM.ix (h : sM g n X Y Z) {a : Nat} (ha : a < n) : ix (nI a) = a := ix_nI (by have := h.1.1; omega)
/-- twice the area to a place -/
def ge_p (X Y : Nat → Int) (a b : Nat) (x y : Int) : Int := (X b - X a) * (y - Y a) - (Y b - Y a) * (x - X a)
theorem ge_p_t (X Y : Nat → Int) (a b c : Nat) : ge_p X Y a b (X c) (Y c) = ge_t X Y a b c := rfl
theorem sp_turnTo {a b : Nat} {x y : Int} {post : Int32 → St → Prop} (hS : sC g n X Y Z) (ha : a < n) (hb : b < n) (h : post (iI (ge_p X Y a b x y)) g) : wp_sp_turnTo (nI a) (nI b) (iI x) (iI y) g post := by
  obtain ⟨a1, a2, -⟩ := hS.2.2.2 a ha
  obtain ⟨b1, b2, -⟩ := hS.2.2.2 b hb
  have va := hS.v16 ha
  have vb := hS.v16 hb
  unfold wp_sp_turnTo
  simp only [hS.ix ha, hS.ix hb, a1, a2, b1, b2, iI_sub, iI_mul]
  exact ⟨vb, va, va, vb, va, va, h⟩
theorem sp_turn {a b c : Nat} {post : Int32 → St → Prop} (hS : sC g n X Y Z) (ha : a < n) (hb : b < n) (hc : c < n) (h : post (iI (ge_t X Y a b c)) g) : wp_sp_turn (nI a) (nI b) (nI c) g post := by
  obtain ⟨c1, c2, -⟩ := hS.2.2.2 c hc
  unfold wp_sp_turn
  simp only [hS.ix hc, c1, c2]
  exact ⟨hS.v16 hc, hS.v16 hc, sp_turnTo hS ha hb h⟩
theorem ge_tb {X Y : Nat → Int} {n : Nat} (h : ge_ok X Y n) {a b c : Nat} (ha : a < n) (hb : b < n) (hc : c < n) : -2147483648 ≤ ge_t X Y a b c ∧ ge_t X Y a b c < 2147483648 := by
  have := ge_t_b h ha hb hc
  omega
theorem mo_turn {a b c : Nat} {post : Int32 → St → Prop} (hS : sM g n X Y Z) (ha : a < n) (hb : b < n) (hc : c < n) (h : post (iI (ge_t X Y a b c)) g) : wp_mo_turn (nI a) (nI b) (nI c) g post := by
  obtain ⟨a1, a2, -⟩ := hS.2.2.2 a ha
  obtain ⟨b1, b2, -⟩ := hS.2.2.2 b hb
  obtain ⟨c1, c2, -⟩ := hS.2.2.2 c hc
  have va := hS.v16 ha
  have vb := hS.v16 hb
  have vc := hS.v16 hc
  unfold wp_mo_turn
  simp only [hS.ix ha, hS.ix hb, hS.ix hc, a1, a2, b1, b2, c1, c2, iI_sub, iI_mul]
  exact ⟨vb, va, vc, va, vb, va, vc, va, h⟩
/-- a difference of two places of the map as a long -/
theorem iI_dl {x y : Int} (h1 : 0 ≤ x) (h2 : x ≤ 63) (h3 : 0 ≤ y) (h4 : y ≤ 63) : (iI (x - y)).toInt64 = jI (x - y) := iI_long (by omega) (by omega)
theorem sp_square {d s : Nat} {post : Int64 → St → Prop} (hS : sC g n X Y Z) (hd : d < n) (hs : s < n) (h : post (jI (ge_q X Y s d)) g) : wp_sp_squareFrom (nI d) (nI s) g post := by
  obtain ⟨a1, a2, -⟩ := hS.2.2.2 d hd
  obtain ⟨b1, b2, -⟩ := hS.2.2.2 s hs
  obtain ⟨d1, d2, d3, d4⟩ := hS.1.2.1 d hd
  obtain ⟨s1, s2, s3, s4⟩ := hS.1.2.1 s hs
  unfold wp_sp_squareFrom
  simp only [hS.ix hd, hS.ix hs, a1, a2, b1, b2, iI_sub]
  rw [iI_dl s1 s2 d1 d2, iI_dl s3 s4 d3 d4]
  simp only [jI_mul, jI_add]
  exact ⟨hS.v16 hs, hS.v16 hd, hS.v16 hs, hS.v16 hd, h⟩
theorem mo_square {a b : Nat} {post : Int64 → St → Prop} (hS : sM g n X Y Z) (ha : a < n) (hb : b < n) (h : post (jI (ge_q X Y a b)) g) : wp_mo_square (nI a) (nI b) g post := by
  obtain ⟨a1, a2, -⟩ := hS.2.2.2 a ha
  obtain ⟨b1, b2, -⟩ := hS.2.2.2 b hb
  obtain ⟨d1, d2, d3, d4⟩ := hS.1.2.1 a ha
  obtain ⟨s1, s2, s3, s4⟩ := hS.1.2.1 b hb
  have va := hS.v16 ha
  have vb := hS.v16 hb
  unfold wp_mo_square
  simp only [hS.ix ha, hS.ix hb, a1, a2, b1, b2, iI_sub]
  rw [iI_dl d1 d2 s1 s2, iI_dl d3 d4 s3 s4]
  simp only [jI_mul, jI_add]
  exact ⟨va, vb, va, vb, va, vb, va, vb, h⟩
theorem ge_qb {X Y : Nat → Int} {n : Nat} (h : ge_ok X Y n) {a b : Nat} (ha : a < n) (hb : b < n) : 0 ≤ ge_q X Y a b ∧ ge_q X Y a b ≤ 7938 := by
  obtain ⟨a1, a2, a3, a4⟩ := h.2.1 a ha
  obtain ⟨b1, b2, b3, b4⟩ := h.2.1 b hb
  have p := ge_mb (x := X a - X b) (y := X a - X b) (by omega) (by omega) (by omega) (by omega)
  have q := ge_mb (x := Y a - Y b) (y := Y a - Y b) (by omega) (by omega) (by omega) (by omega)
  have r : 0 ≤ (X a - X b) * (X a - X b) := by rcases Int.le_total 0 (X a - X b) with h | h; exact Int.mul_nonneg h h; exact Int.mul_nonneg_of_nonpos_of_nonpos h h
  have s : 0 ≤ (Y a - Y b) * (Y a - Y b) := by rcases Int.le_total 0 (Y a - Y b) with h | h; exact Int.mul_nonneg h h; exact Int.mul_nonneg_of_nonpos_of_nonpos h h
  unfold ge_q
  omega
theorem ge_qt {q t : Int} (h1 : 0 ≤ q) (h2 : q ≤ 7938) (h3 : -7938 ≤ t) (h4 : t ≤ 7938) : -63011844 ≤ q * t ∧ q * t ≤ 63011844 := by
  have a := Int.mul_nonneg (a := q) (b := 7938 - t) (by omega) (by omega)
  have b := Int.mul_nonneg (a := q) (b := 7938 + t) (by omega) (by omega)
  simp only [Int.mul_sub, Int.mul_add] at a b
  omega
theorem ge_ib {X Y : Nat → Int} {n : Nat} (h : ge_ok X Y n) {a b c d : Nat} (ha : a < n) (hb : b < n) (hc : c < n) (hd : d < n) : -189035532 ≤ ge_i X Y a b c d ∧ ge_i X Y a b c d ≤ 189035532 := by
  have q1 := ge_qb h ha hd
  have q2 := ge_qb h hb hd
  have q3 := ge_qb h hc hd
  have t1 := ge_t_b h hd hb hc
  have t2 := ge_t_b h hd ha hc
  have t3 := ge_t_b h hd ha hb
  have p1 := ge_qt q1.1 q1.2 t1.1 t1.2
  have p2 := ge_qt q2.1 q2.2 t2.1 t2.2
  have p3 := ge_qt q3.1 q3.2 t3.1 t3.2
  unfold ge_i
  omega
theorem sp_depth {a b c d : Nat} {post : Int64 → St → Prop} (hS : sC g n X Y Z) (ha : a < n) (hb : b < n) (hc : c < n) (hd : d < n) (h : post (jI (ge_dep X Y a b c d)) g) : wp_sp_depthInCircle (nI a) (nI b) (nI c) (nI d) g post := by
  have b1 := ge_tb hS.1 hd hb hc
  have b2 := ge_tb hS.1 hd ha hc
  have b3 := ge_tb hS.1 hd ha hb
  have b4 := ge_tb hS.1 ha hb hc
  unfold wp_sp_depthInCircle
  refine sp_square hS hd ha (sp_turn hS hd hb hc (sp_square hS hd hb (sp_turn hS hd ha hc (sp_square hS hd hc (sp_turn hS hd ha hb (sp_turn hS ha hb hc ?_))))))
  rw [iI_long b1.1 b1.2, iI_long b2.1 b2.2, iI_long b3.1 b3.2]
  simp only [jI_mul, jI_sub, jI_add, jI_neg]
  have e : ge_q X Y a d * ge_t X Y d b c - ge_q X Y b d * ge_t X Y d a c + ge_q X Y c d * ge_t X Y d a b = ge_i X Y a b c d := rfl
  rw [e]
  have z : (iI (ge_t X Y a b c) ≤ 0) ↔ ¬ 0 < ge_t X Y a b c := by
    rw [← iI_0, iI_le b4.1 b4.2 (by omega) (by omega)]; omega
  unfold ge_dep at h
  constructor
  · intro k; rw [if_neg (z.mp k)] at h; exact h
  · intro k; rw [if_pos (Classical.not_not.mp (fun q => k (z.mpr q)))] at h; exact h
theorem mo_inside {a b c d : Nat} {post : Int64 → St → Prop} (hS : sM g n X Y Z) (ha : a < n) (hb : b < n) (hc : c < n) (hd : d < n) (h : post (jI (ge_dep X Y a b c d)) g) : wp_mo_inside (nI a) (nI b) (nI c) (nI d) g post := by
  have b1 := ge_tb hS.1 hd hb hc
  have b2 := ge_tb hS.1 hd hc ha
  have b3 := ge_tb hS.1 hd ha hb
  have b4 := ge_tb hS.1 ha hb hc
  unfold wp_mo_inside
  refine mo_square hS ha hd (mo_turn hS hd hb hc (mo_square hS hb hd (mo_turn hS hd hc ha (mo_square hS hc hd (mo_turn hS hd ha hb (mo_turn hS ha hb hc ?_))))))
  rw [iI_long b1.1 b1.2, iI_long b2.1 b2.2, iI_long b3.1 b3.2]
  simp only [jI_mul, jI_add, jI_neg]
  have e : ge_q X Y a d * ge_t X Y d b c + ge_q X Y b d * ge_t X Y d c a + ge_q X Y c d * ge_t X Y d a b = ge_i X Y a b c d := by
    unfold ge_i; rw [ge_t_sw X Y d a c]; grind
  rw [e]
  have z : (iI (ge_t X Y a b c) ≤ 0) ↔ ¬ 0 < ge_t X Y a b c := by
    rw [← iI_0, iI_le b4.1 b4.2 (by omega) (by omega)]; omega
  unfold ge_dep at h
  constructor
  · intro k; rw [if_neg (z.mp k)] at h; exact h
  · intro k; rw [if_pos (Classical.not_not.mp (fun q => k (z.mpr q)))] at h; exact h
theorem ge_depb {X Y : Nat → Int} {n : Nat} (h : ge_ok X Y n) {a b c d : Nat} (ha : a < n) (hb : b < n) (hc : c < n) (hd : d < n) : -9223372036854775808 ≤ ge_dep X Y a b c d ∧ ge_dep X Y a b c d < 9223372036854775808 := by
  have := ge_ib h ha hb hc hd
  unfold ge_dep
  split <;> omega
/-- the sign of three -/
theorem jI_cmp0 {z : Int} (h1 : -9223372036854775808 ≤ z) (h2 : z < 9223372036854775808) : lg_cmp (jI z) 0 = if 0 < z then 1 else if z = 0 then 0 else (-1) := by
  rw [← jI_0]; exact jI_cmp h1 h2 (by omega) (by omega)
theorem sp_opposite {a d b c : Nat} {post : Int32 → St → Prop} (hS : sC g n X Y Z) (ha : a < n) (hd : d < n) (hb : b < n) (hc : c < n)
    (h0 : ((0 < ge_t X Y a d b) ↔ (0 < ge_t X Y a d c)) → post 0 g) (h1 : ¬ ((0 < ge_t X Y a d b) ↔ (0 < ge_t X Y a d c)) → post 1 g) : wp_sp_areOpposite (nI a) (nI d) (nI b) (nI c) g post := by
  have b1 := ge_tb hS.1 ha hd hb
  have b2 := ge_tb hS.1 ha hd hc
  have z1 : (iI (ge_t X Y a d b) ≤ 0) ↔ ¬ 0 < ge_t X Y a d b := by rw [← iI_0, iI_le b1.1 b1.2 (by omega) (by omega)]; omega
  have z2 : (iI (ge_t X Y a d c) ≤ 0) ↔ ¬ 0 < ge_t X Y a d c := by rw [← iI_0, iI_le b2.1 b2.2 (by omega) (by omega)]; omega
  unfold wp_sp_areOpposite
  refine sp_turn hS ha hd hb ⟨fun k => ?_, fun k => ?_⟩ <;> (unfold jn_sp_areOpposite_J15; refine sp_turn hS ha hd hc ⟨fun k2 => ⟨fun q => ?_, fun q => ?_⟩, fun k2 => ⟨fun q => ?_, fun q => ?_⟩⟩)
  · exact h0 ⟨fun u => absurd u (z1.mp k), fun u => absurd u (z2.mp k2)⟩
  · exact absurd rfl q
  · exact absurd q (by decide)
  · exact h1 (fun u => z1.mp k (u.mpr (Classical.not_not.mp (fun q => k2 (z2.mpr q)))))
  · exact absurd q (by decide)
  · exact h1 (fun u => z2.mp k2 (u.mp (Classical.not_not.mp (fun q => k (z1.mpr q)))))
  · exact h0 ⟨fun _ => Classical.not_not.mp (fun q => k2 (z2.mpr q)), fun _ => Classical.not_not.mp (fun q => k (z1.mpr q))⟩
  · exact absurd rfl q
theorem mo_parts {d a b c : Nat} {post : Int32 → St → Prop} (hS : sM g n X Y Z) (hd : d < n) (ha : a < n) (hb : b < n) (hc : c < n)
    (h0 : ((0 < ge_t X Y d a b) ↔ (0 < ge_t X Y d a c)) → post 0 g) (h1 : ¬ ((0 < ge_t X Y d a b) ↔ (0 < ge_t X Y d a c)) → post 1 g) : wp_mo_parts (nI d) (nI a) (nI b) (nI c) g post := by
  have b1 := ge_tb hS.1 hd ha hb
  have b2 := ge_tb hS.1 hd ha hc
  have z1 : (iI (ge_t X Y d a b) ≤ 0) ↔ ¬ 0 < ge_t X Y d a b := by rw [← iI_0, iI_le b1.1 b1.2 (by omega) (by omega)]; omega
  have z2 : (iI (ge_t X Y d a c) ≤ 0) ↔ ¬ 0 < ge_t X Y d a c := by rw [← iI_0, iI_le b2.1 b2.2 (by omega) (by omega)]; omega
  unfold wp_mo_parts
  refine mo_turn hS hd ha hb ⟨fun k => ?_, fun k => ?_⟩ <;> (unfold jn_mo_parts_J15; refine mo_turn hS hd ha hc ⟨fun k2 => ⟨fun q => ?_, fun q => ?_⟩, fun k2 => ⟨fun q => ?_, fun q => ?_⟩⟩)
  · exact h0 ⟨fun u => absurd u (z1.mp k), fun u => absurd u (z2.mp k2)⟩
  · exact absurd rfl q
  · exact absurd q (by decide)
  · exact h1 (fun u => z1.mp k (u.mpr (Classical.not_not.mp (fun q => k2 (z2.mpr q)))))
  · exact absurd q (by decide)
  · exact h1 (fun u => z2.mp k2 (u.mp (Classical.not_not.mp (fun q => k (z1.mpr q)))))
  · exact h0 ⟨fun _ => Classical.not_not.mp (fun q => k2 (z2.mpr q)), fun _ => Classical.not_not.mp (fun q => k (z1.mpr q))⟩
  · exact absurd rfl q
/-- d is in the circle through a < b < c: the class -/
theorem sp_in {a b c d : Nat} {post : Int32 → St → Prop} (hS : sC g n X Y Z) (ha : a < n) (hb : b < n) (hc : c < n) (hd : d < n) (h0 : ¬ ge_In X Y a b c d → post 0 g) (h1 : ge_In X Y a b c d → post 1 g) : wp_sp_isInCircle (nI a) (nI b) (nI c) (nI d) g post := by
  have b1 := ge_depb hS.1 ha hb hc hd
  have n16 := hS.1.1
  unfold wp_sp_isInCircle
  refine sp_depth hS ha hb hc hd ?_
  rw [jI_cmp0 b1.1 b1.2]
  unfold ge_In at h0 h1
  by_cases p : 0 < ge_dep X Y a b c d
  · rw [if_pos p]
    exact ⟨fun q => absurd q (by decide), fun _ => ⟨fun q => absurd q (by decide), fun _ => h1 (Or.inl p)⟩⟩
  · rw [if_neg p]
    by_cases z : ge_dep X Y a b c d = 0
    · rw [if_pos z]
      refine ⟨fun _ => ⟨fun q => ?_, fun q => ?_⟩, fun q => absurd rfl q⟩
      · have : d ≤ a := (nI_leI (by omega) (by omega)).mp q
        exact h0 (fun u => by rcases u with u | u; exact p u; omega)
      · have da : ¬ d ≤ a := fun u => q ((nI_leI (by omega) (by omega)).mpr u)
        refine sp_opposite hS ha hd hb hc (fun u => ?_) (fun u => ?_)
        · exact ⟨fun q => absurd rfl q, fun _ => h1 (Or.inr ⟨z, by omega, u⟩)⟩
        · exact ⟨fun _ => h0 (fun w => by rcases w with w | w; exact p w; exact u w.2.2), fun q => absurd q (by decide)⟩
    · rw [if_neg z]
      exact ⟨fun q => absurd q (by decide), fun _ => ⟨fun _ => h0 (fun u => by rcases u with u | u; exact p u; exact z u.1), fun q => absurd (by decide) q⟩⟩
/-- .. and the reference -/
theorem mo_in {a b c d : Nat} {post : Int32 → St → Prop} (hS : sM g n X Y Z) (hab : a < b) (hbc : b < c) (hc : c < n) (hd : d < n) (nda : d ≠ a) (ndb : d ≠ b) (ndc : d ≠ c) (ht : ge_t X Y a b c ≠ 0) (h0 : ¬ ge_In X Y a b c d → post 0 g) (h1 : ge_In X Y a b c d → post 1 g) : wp_mo_isIn (nI a) (nI b) (nI c) (nI d) g post := by
  have ha : a < n := by omega
  have hb : b < n := by omega
  have b1 := ge_depb hS.1 ha hb hc hd
  have n16 := hS.1.1
  have le : ∀ {u v : Nat}, u < n → v < n → (nI u ≤ nI v ↔ u ≤ v) := fun hu hv => nI_leI (by omega) (by omega)
  have eq : ∀ {u v : Nat}, u < n → v < n → (nI u = nI v ↔ u = v) := fun hu hv => nI_eq (by omega) (by omega)
  unfold wp_mo_isIn
  refine mo_inside hS ha hb hc hd ?_
  rw [jI_cmp0 b1.1 b1.2]
  by_cases p : 0 < ge_dep X Y a b c d
  · rw [if_pos p]
    exact ⟨fun q => absurd q (by decide), fun _ => ⟨fun q => absurd q (by decide), fun _ => h1 (Or.inl p)⟩⟩
  · rw [if_neg p]
    by_cases z : ge_dep X Y a b c d = 0
    · rw [if_pos z]
      have zi : ge_i X Y a b c d = 0 := by
        unfold ge_dep at z
        split at z
        · exact z
        · omega
      obtain ⟨c1, c2, c3, -⟩ := ge_circ hS.1 ha hb hc hd (by omega) (by omega) (by omega) (by omega) (by omega) (by omega) ht zi
      have f1 : ge_t X Y d a b = ge_t X Y a b d := (ge_t_rot X Y d a b).symm
      have f2 : ge_t X Y d a c = ge_t X Y a c d := (ge_t_rot X Y d a c).symm
      have f3 : ge_t X Y a d b = -ge_t X Y a b d := ge_t_sw X Y a b d
      have f4 : ge_t X Y a d c = -ge_t X Y a c d := ge_t_sw X Y a c d
      have same : ((0 < ge_t X Y d a b) ↔ (0 < ge_t X Y d a c)) ↔ ((0 < ge_t X Y a d b) ↔ (0 < ge_t X Y a d c)) := by
        rw [f1, f2, f3, f4]
        by_cases x : 0 < ge_t X Y a b d <;> by_cases y : 0 < ge_t X Y a c d
        · exact ⟨fun _ => ⟨fun u => by omega, fun u => by omega⟩, fun _ => ⟨fun _ => y, fun _ => x⟩⟩
        · exact ⟨fun u => absurd (u.mp x) y, fun u => by have : 0 < -ge_t X Y a b d := u.mpr (by omega); omega⟩
        · exact ⟨fun u => absurd (u.mpr y) x, fun u => by have : 0 < -ge_t X Y a c d := u.mp (by omega); omega⟩
        · exact ⟨fun _ => ⟨fun _ => by omega, fun _ => by omega⟩, fun _ => ⟨fun u => absurd u x, fun u => absurd u y⟩⟩
      -- behind the opposite one o
      have tail : ∀ o : Nat, o < n → (a < d → (o = a ↔ ¬ ((0 < ge_t X Y a d b) ↔ (0 < ge_t X Y a d c)))) → jn_mo_isIn_J64 (nI a) (nI b) (nI c) (nI d) (nI o) g post := by
        intro o ho io
        unfold jn_mo_isIn_J64
        refine ⟨fun q => absurd ((le hb ha).mp q) (by omega), fun _ => ?_⟩
        unfold jn_mo_isIn_J76
        refine ⟨fun _ => ?_, fun q => absurd ((le ha hc).mpr (by omega)) q⟩
        unfold jn_mo_isIn_J90
        refine ⟨fun q => ?_, fun q => ?_⟩
        · have ad : a < d := by have := (le ha hd).mp q; omega
          unfold jn_mo_isIn_J106
          refine ⟨fun k => absurd ((eq ha hd).mp k) (by omega), fun _ => ⟨fun k => ?_, fun k => ?_⟩⟩
          · have e := (eq ha ho).mp k
            exact h0 (fun u => by rcases u with u | u; exact p u; exact (io ad).mp e.symm u.2.2)
          · have e : ¬ o = a := fun e => k (by rw [e])
            exact h1 (Or.inr ⟨z, ad, Classical.not_not.mp (fun u => e ((io ad).mpr u))⟩)
        · have da : ¬ a ≤ d := fun u => q ((le ha hd).mpr u)
          unfold jn_mo_isIn_J106
          refine ⟨fun _ => h0 (fun u => by rcases u with u | u; exact p u; omega), fun k => absurd rfl k⟩
      refine ⟨fun _ => ?_, fun q => absurd rfl q⟩
      refine mo_parts hS hd ha hb hc (fun u => ?_) (fun u => ?_)
      · refine ⟨fun _ => ?_, fun q => absurd rfl q⟩
        refine mo_parts hS hd hb ha hc (fun v => ?_) (fun v => ?_)
        · exact ⟨fun _ => tail c hc (fun _ => ⟨fun e => by omega, fun e => absurd (same.mp u) e⟩), fun q => absurd rfl q⟩
        · exact ⟨fun q => absurd q (by decide), fun _ => tail b hb (fun _ => ⟨fun e => by omega, fun e => absurd (same.mp u) e⟩)⟩
      · exact ⟨fun q => absurd q (by decide), fun _ => tail a ha (fun _ => ⟨fun _ e => u (same.mpr e), fun _ => rfl⟩)⟩
    · rw [if_neg z]
      exact ⟨fun q => absurd q (by decide), fun _ => ⟨fun _ => h0 (fun u => by rcases u with u | u; exact p u; exact z u.1), fun q => absurd (by decide) q⟩⟩
end
end
section
/-! The triangles, found one by one: class and reference hold the same list. -/
section
variable {g : St} {n : Nat} {X Y Z : Nat → Int}
theorem me_isTri {a b c : Nat} {post : Int32 → St → Prop} (hS : sC g n X Y Z) (hab : a < b) (hbc : b < c) (hc : c < n) (h0 : ¬ ge_tri X Y n a b c → post 0 g) (h1 : ge_tri X Y n a b c → post 1 g) : wp_me_isTriangle (nI a) (nI b) (nI c) g post := by
  have ha : a < n := by omega
  have hb : b < n := by omega
  have n16 := hS.1.1
  have le : ∀ {u v : Nat}, u ≤ 16 → v ≤ 16 → (nI u ≤ nI v ↔ u ≤ v) := fun hu hv => nI_leI (by omega) (by omega)
  have eq : ∀ {u v : Nat}, u ≤ 16 → v ≤ 16 → (nI u = nI v ↔ u = v) := fun hu hv => nI_eq (by omega) (by omega)
  have bt := ge_tb hS.1 ha hb hc
  have z : iI (ge_t X Y a b c) = 0 ↔ ge_t X Y a b c = 0 := by rw [← iI_0]; exact iI_eq bt.1 bt.2 (by omega) (by omega)
  unfold wp_me_isTriangle
  refine sp_turn hS ha hb hc ⟨fun q => ?_, fun q => ?_⟩
  · have ht : ge_t X Y a b c ≠ 0 := fun e => q (z.mpr e)
    have loop : ∀ m i, i + m = n → (∀ d, d < i → d ≠ a → d ≠ b → d ≠ c → ¬ ge_In X Y a b c d) → lp_me_isTriangle_L15 (m + 1) (nI a) (nI b) (nI c) (nI i) g (fun g7 => (post 1 g7)) post := by
      intro m
      induction m with
      | zero =>
        intro i hi hd
        unfold lp_me_isTriangle_L15 wp_sp_size
        rw [hS.2.2.1]
        refine ⟨fun _ => h1 ⟨hab, hbc, hc, ht, fun d hd' => hd d (by omega)⟩, fun q => absurd ((le (by omega) (by omega)).mpr (by omega)) q⟩
      | succ m ih =>
        intro i hi hd
        have skip : (i = a ∨ i = b ∨ i = c ∨ ¬ ge_In X Y a b c i) → lp_me_isTriangle_L15 (m + 1) (nI a) (nI b) (nI c) (nI i + 1) g (fun g7 => (post 1 g7)) post := fun u => by
          rw [nI_1]
          refine ih (i + 1) (by omega) (fun d hd' d1 d2 d3 => ?_)
          rcases Nat.lt_or_ge d i with l | l
          · exact hd d l d1 d2 d3
          · have : d = i := by omega
            subst this
            rcases u with u | u | u | u
            · exact absurd u d1
            · exact absurd u d2
            · exact absurd u d3
            · exact u
        unfold lp_me_isTriangle_L15 wp_sp_size
        rw [hS.2.2.1]
        refine ⟨fun q => absurd ((le (by omega) (by omega)).mp q) (by omega), fun _ => ⟨fun e => skip (Or.inl ((eq (by omega) (by omega)).mp e)), fun e1 => ⟨fun e => skip (Or.inr (Or.inl ((eq (by omega) (by omega)).mp e))), fun e2 => ⟨fun e => skip (Or.inr (Or.inr (Or.inl ((eq (by omega) (by omega)).mp e)))), fun e3 => ?_⟩⟩⟩⟩
        have d1 : i ≠ a := fun e => e1 (by rw [e])
        have d2 : i ≠ b := fun e => e2 (by rw [e])
        have d3 : i ≠ c := fun e => e3 (by rw [e])
        refine sp_in hS ha hb hc (by omega) (fun u => ⟨fun _ => skip (Or.inr (Or.inr (Or.inr u))), fun k => absurd rfl k⟩) (fun u => ⟨fun k => absurd k (by decide), fun _ => h0 (fun t => t.2.2.2.2 i (by omega) d1 d2 d3 u)⟩)
    exact ⟨n + 1, loop n 0 (by omega) (fun d hd => absurd hd (by omega))⟩
  · exact h0 (fun t => t.2.2.2.1 (z.mp q))
theorem mo_isTri {a b c : Nat} {post : Int32 → St → Prop} (hS : sM g n X Y Z) (hab : a < b) (hbc : b < c) (hc : c < n) (h0 : ¬ ge_tri X Y n a b c → post 0 g) (h1 : ge_tri X Y n a b c → post 1 g) : wp_mo_isTriangle (nI a) (nI b) (nI c) g post := by
  have ha : a < n := by omega
  have hb : b < n := by omega
  have n16 := hS.1.1
  have le : ∀ {u v : Nat}, u ≤ 16 → v ≤ 16 → (nI u ≤ nI v ↔ u ≤ v) := fun hu hv => nI_leI (by omega) (by omega)
  have eq : ∀ {u v : Nat}, u ≤ 16 → v ≤ 16 → (nI u = nI v ↔ u = v) := fun hu hv => nI_eq (by omega) (by omega)
  have bt := ge_tb hS.1 ha hb hc
  have z : iI (ge_t X Y a b c) = 0 ↔ ge_t X Y a b c = 0 := by rw [← iI_0]; exact iI_eq bt.1 bt.2 (by omega) (by omega)
  unfold wp_mo_isTriangle
  refine mo_turn hS ha hb hc ⟨fun q => ?_, fun q => ?_⟩
  · have ht : ge_t X Y a b c ≠ 0 := fun e => q (z.mpr e)
    have bad : ∀ m i, (∃ d, d < n ∧ d ≠ a ∧ d ≠ b ∧ d ≠ c ∧ ge_In X Y a b c d) → i ≤ n → lp_mo_isTriangle_L18 (m + 1) (nI a) (nI b) (nI c) 0 (nI i) g (fun w6 g5 => (narrow .boolean (.int w6) = .int w6 ∧ post w6 g5)) post := by
      intro m i ⟨d, u1, u2, u3, u4, u5⟩ hi
      have hp : post 0 g := h0 (fun t => t.2.2.2.2 d u1 u2 u3 u4 u5)
      unfold lp_mo_isTriangle_L18
      exact ⟨fun _ => ⟨nb_0, hp⟩, fun _ => ⟨fun _ => ⟨nb_0, hp⟩, fun k => absurd rfl k⟩⟩
    have loop : ∀ m i, i + m = n → (∀ d, d < i → d ≠ a → d ≠ b → d ≠ c → ¬ ge_In X Y a b c d) → lp_mo_isTriangle_L18 (m + 1) (nI a) (nI b) (nI c) 1 (nI i) g (fun w6 g5 => (narrow .boolean (.int w6) = .int w6 ∧ post w6 g5)) post := by
      intro m
      induction m with
      | zero =>
        intro i hi hd
        unfold lp_mo_isTriangle_L18
        rw [hS.2.2.1]
        refine ⟨fun _ => ⟨nb_1, h1 ⟨hab, hbc, hc, ht, fun d hd' => hd d (by omega)⟩⟩, fun q => absurd ((le (by omega) (by omega)).mpr (by omega)) q⟩
      | succ m ih =>
        intro i hi hd
        have skip : (i = a ∨ i = b ∨ i = c ∨ ¬ ge_In X Y a b c i) → lp_mo_isTriangle_L18 (m + 1) (nI a) (nI b) (nI c) 1 (nI i + 1) g (fun w6 g5 => (narrow .boolean (.int w6) = .int w6 ∧ post w6 g5)) post := fun u => by
          rw [nI_1]
          refine ih (i + 1) (by omega) (fun d hd' d1 d2 d3 => ?_)
          rcases Nat.lt_or_ge d i with l | l
          · exact hd d l d1 d2 d3
          · have : d = i := by omega
            subst this
            rcases u with u | u | u | u
            · exact absurd u d1
            · exact absurd u d2
            · exact absurd u d3
            · exact u
        unfold lp_mo_isTriangle_L18
        rw [hS.2.2.1]
        refine ⟨fun q => absurd ((le (by omega) (by omega)).mp q) (by omega), fun _ => ⟨fun k => absurd k (by decide), fun _ => ⟨fun e => skip (Or.inl ((eq (by omega) (by omega)).mp e)), fun e1 => ⟨fun e => skip (Or.inr (Or.inl ((eq (by omega) (by omega)).mp e))), fun e2 => ⟨fun e => skip (Or.inr (Or.inr (Or.inl ((eq (by omega) (by omega)).mp e)))), fun e3 => ?_⟩⟩⟩⟩⟩
        have d1 : i ≠ a := fun e => e1 (by rw [e])
        have d2 : i ≠ b := fun e => e2 (by rw [e])
        have d3 : i ≠ c := fun e => e3 (by rw [e])
        refine mo_in hS hab hbc hc (by omega) d1 d2 d3 ht (fun u => ⟨fun k => absurd rfl k, fun _ => skip (Or.inr (Or.inr (Or.inr u)))⟩) (fun u => ⟨fun _ => ?_, fun k => absurd k (by decide)⟩)
        rw [nI_1]
        exact bad m (i + 1) ⟨i, by omega, d1, d2, d3, u⟩ (by omega)
    exact ⟨n + 1, loop n 0 (by omega) (fun d hd => absurd hd (by omega))⟩
  · exact h0 (fun t => t.2.2.2.1 (z.mp q))
end
/-! the list -/
noncomputable def tl (X Y : Nat → Int) (n k : Nat) : List Nat := (List.range k).filter (fun x => @decide (ge_tri X Y n (x / 256) (x / 16 % 16) (x % 16)) (Classical.propDecidable _))
theorem tl_mem {X Y : Nat → Int} {n k x : Nat} : x ∈ tl X Y n k ↔ x < k ∧ ge_tri X Y n (x / 256) (x / 16 % 16) (x % 16) := by
  unfold tl
  rw [List.mem_filter, List.mem_range, @decide_eq_true_iff _ (Classical.propDecidable _)]
theorem tl_s1 {X Y : Nat → Int} {n k : Nat} (h : ge_tri X Y n (k / 256) (k / 16 % 16) (k % 16)) : tl X Y n (k + 1) = tl X Y n k ++ [k] := by
  unfold tl
  rw [List.range_succ, List.filter_append]
  congr 1
  exact List.filter_cons_of_pos (by rw [@decide_eq_true_iff _ (Classical.propDecidable _)]; exact h)
theorem tl_s0 {X Y : Nat → Int} {n k : Nat} (h : ¬ ge_tri X Y n (k / 256) (k / 16 % 16) (k % 16)) : tl X Y n (k + 1) = tl X Y n k := by
  unfold tl
  rw [List.range_succ, List.filter_append]
  have : List.filter (fun x => @decide (ge_tri X Y n (x / 256) (x / 16 % 16) (x % 16)) (Classical.propDecidable _)) [k] = [] :=
    List.filter_cons_of_neg (by rw [@decide_eq_true_iff _ (Classical.propDecidable _)]; exact h)
  rw [this, List.append_nil]
theorem tl_sk {X Y : Nat → Int} {n k : Nat} : ∀ d, (∀ x, k ≤ x → x < k + d → ¬ ge_tri X Y n (x / 256) (x / 16 % 16) (x % 16)) → tl X Y n (k + d) = tl X Y n k := by
  intro d
  induction d with
  | zero => intro _; rfl
  | succ d ih =>
    intro h
    show tl X Y n ((k + d) + 1) = _
    rw [tl_s0 (h (k + d) (by omega) (by omega))]
    exact ih (fun x h1 h2 => h x h1 (by omega))
theorem tl_skip {X Y : Nat → Int} {n k k' : Nat} (hk : k ≤ k') (h : ∀ x, k ≤ x → x < k' → ¬ ge_tri X Y n (x / 256) (x / 16 % 16) (x % 16)) : tl X Y n k' = tl X Y n k := by
  obtain ⟨d, rfl⟩ : ∃ d, k' = k + d := ⟨k' - k, by omega⟩
  exact tl_sk d h
theorem tl_lt {X Y : Nat → Int} {n k : Nat} : (tl X Y n k).Pairwise (· < ·) := List.Pairwise.filter _ List.pairwise_lt_range
theorem tl_get {X Y : Nat → Int} {n k t : Nat} (h : t < (tl X Y n k).length) : (tl X Y n k).getD t 0 < k ∧ ge_tri X Y n ((tl X Y n k).getD t 0 / 256) ((tl X Y n k).getD t 0 / 16 % 16) ((tl X Y n k).getD t 0 % 16) := by
  rw [← tl_mem, ← List.getElem_eq_getD (h := h)]
  exact List.getElem_mem h
theorem tl_inc {X Y : Nat → Int} {n k s t : Nat} (hst : s < t) (h : t < (tl X Y n k).length) : (tl X Y n k).getD s 0 < (tl X Y n k).getD t 0 := by
  have := List.pairwise_iff_getElem.mp (tl_lt (X := X) (Y := Y) (n := n) (k := k)) s t (by omega) h hst
  rw [List.getElem_eq_getD (h := h) (fallback := 0), List.getElem_eq_getD (fallback := 0)] at this
  exact this
theorem tl_27 {X Y : Nat → Int} {n k : Nat} (h : ge_ok X Y n) : (tl X Y n k).length ≤ 27 := by
  refine ge_27 h _ (fun t => (tl X Y n k).getD t 0 / 256) (fun t => (tl X Y n k).getD t 0 / 16 % 16) (fun t => (tl X Y n k).getD t 0 % 16) (fun t ht => (tl_get ht).2) (fun i j hij hj e => ?_)
  have := tl_inc hij hj
  try dsimp only at e
  omega
theorem tl_app {L : List Nat} {k t : Nat} (h : t < L.length) : (L ++ [k]).getD t 0 = L.getD t 0 := by
  simp only [List.getD_eq_getElem?_getD]
  rw [List.getElem?_append_left h]
theorem tl_end {L : List Nat} {k : Nat} : (L ++ [k]).getD L.length 0 = k := by
  simp only [List.getD_eq_getElem?_getD]
  rw [List.getElem?_append_right (Nat.le_refl _), Nat.sub_self]; rfl
end
section
/-! The mesh of the class and the corners of the reference, rebuilt. -/
theorem gp_n {g : St} {k j : Nat} {v : Int32} {k' : Nat} (h : k' ≠ k) : gp g k j v k' = g k' := by
  unfold gp va_up; rw [if_neg h]
theorem gp_s {g : St} {k j : Nat} {v : Int32} : gp g k j v k j = v := by
  unfold gp va_up; rw [if_pos rfl]; exact pk_us
theorem gp_o {g : St} {k j j' : Nat} {v : Int32} (h : j' ≠ j) : gp g k j v k j' = g k j' := by
  unfold gp va_up; rw [if_pos rfl]; exact pk_un h
/-- nothing but the cells of S has changed -/
def fr (S : List Nat) (g g' : St) : Prop := ∀ k, k ∉ S → g' k = g k
theorem fr.rf {S : List Nat} {g : St} : fr S g g := fun _ _ => rfl
theorem fr.gp {S : List Nat} {g g' : St} {k j : Nat} {v : Int32} (h : fr S g g') (hk : k ∈ S) : fr S g (gp g' k j v) := fun k' h' => by
  rw [gp_n (fun e => h' (by rw [e]; exact hk))]; exact h k' h'
theorem fr.tr {S : List Nat} {g g' g'' : St} (h : fr S g g') (h2 : fr S g' g'') : fr S g g'' := fun k hk => (h2 k hk).trans (h k hk)
theorem fr.mono {S S' : List Nat} {g g' : St} (h : fr S g g') (hs : ∀ k, k ∈ S → k ∈ S') : fr S' g g' := fun k hk => h k (fun q => hk (hs k q))
theorem sC.fr {S : List Nat} {g g' : St} {n : Nat} {X Y Z : Nat → Int} (h : sC g n X Y Z) (f : fr S g g') (h1 : 1 ∉ S) (h5 : 5 ∉ S) (h6 : 6 ∉ S) (h7 : 7 ∉ S) : sC g' n X Y Z := by
  refine ⟨h.1, h.2.1, ?_, fun v hv => ?_⟩
  · rw [f 1 h1]; exact h.2.2.1
  · rw [f 5 h5, f 6 h6, f 7 h7]; exact h.2.2.2 v hv
theorem sM.fr {g g' : St} {n : Nat} {X Y Z : Nat → Int} (h : sM g n X Y Z) (h0 : g' 0 1 = g 0 1) (h1 : g' 1 = g 1) (h2 : g' 2 = g 2) (h3 : g' 3 = g 3) : sM g' n X Y Z := by
  refine ⟨h.1, h.2.1, ?_, fun v hv => ?_⟩
  · rw [h0]; exact h.2.2.1
  · rw [h1, h2, h3]; exact h.2.2.2 v hv
/-- a triangle of the list, going right from p to q -/
def rt (X Y : Nat → Int) (L : List Nat) (p q r : Nat) : Prop := ge_t X Y p q r < 0 ∧ ∃ x, x ∈ L ∧ ge_pm (x / 256) (x / 16 % 16) (x % 16) p q r
def mC (X Y : Nat → Int) (L : List Nat) (g : St) : Prop := g 2 2 = nI L.length ∧ (∀ t, t < L.length → g 8 (3 * t) = nI (L.getD t 0 / 256) ∧ g 8 (3 * t + 1) = nI (L.getD t 0 / 16 % 16) ∧ g 8 (3 * t + 2) = nI (L.getD t 0 % 16)) ∧
  (∀ p q r, rt X Y L p q r → g 9 (16 * p + q) = nI r) ∧ ∀ p q, p < 16 → q < 16 → (∀ r, ¬ rt X Y L p q r) → g 9 (16 * p + q) = -1
def mM (L : List Nat) (g : St) : Prop := g 0 5 = nI L.length ∧ ∀ t, t < L.length → g 4 (3 * t) = nI (L.getD t 0 / 256) ∧ g 4 (3 * t + 1) = nI (L.getD t 0 / 16 % 16) ∧ g 4 (3 * t + 2) = nI (L.getD t 0 % 16)
theorem pk3 {L : Nat} (h : L < 1000) (j : Nat) : 3 * nI L + nI j = nI (3 * L + j) := by
  rw [show (3 : Int32) = nI 3 from rfl, pk_mul, nI_add]
theorem pk3' (L : Nat) : 3 * nI L = nI (3 * L) := by
  rw [show (3 : Int32) = nI 3 from rfl, pk_mul]
theorem pk16 (a b : Nat) : 16 * nI a + nI b = nI (16 * a + b) := by
  rw [show (16 : Int32) = nI 16 from rfl, pk_mul, nI_add]
section
variable {g : St} {n : Nat} {X Y Z : Nat → Int}
theorem me_clear {post : St → Prop} (h : ∀ g', g' 2 2 = 0 → (∀ i, i < 256 → g' 9 i = -1) → fr [2, 9] g g' → post g') : wp_me_clear g post := by
  unfold wp_me_clear
  intro g1 e1
  have loop : ∀ m i (g2 : St), i + m = 256 → g2 2 2 = 0 → (∀ j, j < i → g2 9 j = -1) → fr [2, 9] g g2 → lp_me_clear_L7 (m + 1) (nI i) g2 (fun g3 => (post g3)) post := by
    intro m
    induction m with
    | zero =>
      intro i g2 hi h1 h2 h3
      unfold lp_me_clear_L7
      refine ⟨fun _ => h g2 h1 (fun j hj => h2 j (by omega)) h3, fun q => absurd ?_ q⟩
      rw [show (256 : Int32) = nI 256 from rfl, nI_leI (by omega) (by omega)]; omega
    | succ m ih =>
      intro i g2 hi h1 h2 h3
      unfold lp_me_clear_L7
      refine ⟨fun q => ?_, fun _ => ⟨vp_in_nI (by omega) (by omega), fun g4 e4 => ?_⟩⟩
      · rw [show (256 : Int32) = nI 256 from rfl, nI_leI (by omega) (by omega)] at q; omega
      · rw [ix_nI (by omega)] at e4
        rw [nI_1, e4]
        refine ih (i + 1) _ (by omega) (by rw [gp_n (by decide)]; exact h1) (fun j hj => ?_) (h3.gp (by decide))
        by_cases e : j = i
        · rw [e]; exact gp_s
        · rw [gp_o e]; exact h2 j (by omega)
  refine ⟨257, loop 256 0 g1 (by omega) (by rw [e1]; exact gp_s) (fun j hj => absurd hj (by omega)) (by rw [e1]; exact fr.rf.gp (by decide))⟩
/-- three sides get their third spots -/
theorem me_sides {a b c : Nat} {post : St → Prop} (ha : a < 16) (hb : b < 16) (hc : c < 16)
    (h : ∀ g', g' 9 (16 * c + a) = nI b → (16 * c + a ≠ 16 * b + c → g' 9 (16 * b + c) = nI a) → (16 * c + a ≠ 16 * a + b → 16 * b + c ≠ 16 * a + b → g' 9 (16 * a + b) = nI c) → (∀ j, j ≠ 16 * a + b → j ≠ 16 * b + c → j ≠ 16 * c + a → g' 9 j = g 9 j) → fr [9] g g' → post g') : wp_me_addSides (nI a) (nI b) (nI c) g post := by
  unfold wp_me_addSides
  rw [pk16, pk16, pk16, ix_nI (by omega), ix_nI (by omega), ix_nI (by omega)]
  refine ⟨vp_in_nI (by omega) (by omega), fun g1 e1 => ⟨vp_in_nI (by omega) (by omega), fun g2 e2 => ⟨vp_in_nI (by omega) (by omega), fun g3 e3 => ?_⟩⟩⟩
  refine h g3 ?_ (fun q => ?_) (fun q q2 => ?_) (fun j j1 j2 j3 => ?_) ?_
  · rw [e3]; exact gp_s
  · rw [e3, gp_o (Ne.symm q), e2]; exact gp_s
  · rw [e3, gp_o (Ne.symm q), e2, gp_o (Ne.symm q2), e1]; exact gp_s
  · rw [e3, gp_o j3, e2, gp_o j2, e1, gp_o j1]
  · rw [e3, e2, e1]; exact ((fr.rf.gp (by decide)).gp (by decide)).gp (by decide)
theorem rt_app {L : List Nat} {k p q r : Nat} : rt X Y (L ++ [k]) p q r ↔ rt X Y L p q r ∨ (ge_t X Y p q r < 0 ∧ ge_pm (k / 256) (k / 16 % 16) (k % 16) p q r) := by
  unfold rt
  constructor
  · rintro ⟨h1, x, h2, h3⟩
    rcases List.mem_append.mp h2 with h | h
    · exact Or.inl ⟨h1, x, h, h3⟩
    · rw [List.mem_singleton.mp h] at h3; exact Or.inr ⟨h1, h3⟩
  · rintro (⟨h1, x, h2, h3⟩ | ⟨h1, h3⟩)
    · exact ⟨h1, x, List.mem_append_left _ h2, h3⟩
    · exact ⟨h1, k, List.mem_append_right _ (List.mem_singleton.mpr rfl), h3⟩
/-- in the order in which the sides are set -/
theorem rt_new {a b c p q r : Nat} (h : ge_t X Y a b c < 0) (k : ge_t X Y p q r < 0) (e : ge_pm a b c p q r) : (p = a ∧ q = b ∧ r = c) ∨ (p = b ∧ q = c ∧ r = a) ∨ (p = c ∧ q = a ∧ r = b) := by
  have r1 := ge_t_rot X Y a b c
  have r2 := ge_t_rot X Y b c a
  have s1 := ge_t_sw X Y a b c
  have s2 := ge_t_sw X Y b c a
  have s3 := ge_t_sw X Y c a b
  rcases e with ⟨rfl, rfl, rfl⟩ | ⟨rfl, rfl, rfl⟩ | ⟨rfl, rfl, rfl⟩ | ⟨rfl, rfl, rfl⟩ | ⟨rfl, rfl, rfl⟩ | ⟨rfl, rfl, rfl⟩
  · exact Or.inl ⟨rfl, rfl, rfl⟩
  · omega
  · omega
  · exact Or.inr (Or.inl ⟨rfl, rfl, rfl⟩)
  · exact Or.inr (Or.inr ⟨rfl, rfl, rfl⟩)
  · omega
theorem ge_pm_sw {a b c p q r : Nat} : ge_pm a c b p q r ↔ ge_pm a b c p q r := by
  unfold ge_pm
  constructor <;> (rintro (h | h | h | h | h | h) <;> simp only [h, and_self, true_or, or_true])
/-- the sides of a new triangle that goes right from a by b to c -/
theorem mC_sides {L : List Nat} {k a b c : Nat} {g1 g' : St} (hk : ∀ p q r, ge_pm (k / 256) (k / 16 % 16) (k % 16) p q r ↔ ge_pm a b c p q r) (ht : ge_t X Y a b c < 0) (h16 : a < 16 ∧ b < 16 ∧ c < 16) (hne : a ≠ b ∧ a ≠ c ∧ b ≠ c)
    (huniq : ∀ p q r, rt X Y (L ++ [k]) p q r → ∀ r', rt X Y (L ++ [k]) p q r' → r = r')
    (h3 : ∀ p q r, rt X Y L p q r → g1 9 (16 * p + q) = nI r) (h4 : ∀ p q, p < 16 → q < 16 → (∀ r, ¬ rt X Y L p q r) → g1 9 (16 * p + q) = -1)
    (hl16 : ∀ p q r, rt X Y (L ++ [k]) p q r → p < 16 ∧ q < 16)
    (s1 : g' 9 (16 * c + a) = nI b) (s2 : g' 9 (16 * b + c) = nI a) (s3 : g' 9 (16 * a + b) = nI c) (s4 : ∀ j, j ≠ 16 * a + b → j ≠ 16 * b + c → j ≠ 16 * c + a → g' 9 j = g1 9 j) :
    (∀ p q r, rt X Y (L ++ [k]) p q r → g' 9 (16 * p + q) = nI r) ∧ ∀ p q, p < 16 → q < 16 → (∀ r, ¬ rt X Y (L ++ [k]) p q r) → g' 9 (16 * p + q) = -1 := by
  have n1 : rt X Y (L ++ [k]) a b c := rt_app.mpr (Or.inr ⟨ht, (hk _ _ _).mpr (Or.inl ⟨rfl, rfl, rfl⟩)⟩)
  have n2 : rt X Y (L ++ [k]) b c a := rt_app.mpr (Or.inr ⟨by rw [ge_t_rot]; exact ht, (hk _ _ _).mpr (Or.inr (Or.inr (Or.inr (Or.inl ⟨rfl, rfl, rfl⟩))))⟩)
  have n3 : rt X Y (L ++ [k]) c a b := rt_app.mpr (Or.inr ⟨by rw [ge_t_rot, ge_t_rot]; exact ht, (hk _ _ _).mpr (Or.inr (Or.inr (Or.inr (Or.inr (Or.inl ⟨rfl, rfl, rfl⟩)))))⟩)
  obtain ⟨a16, b16, c16⟩ := h16
  constructor
  · intro p q r hr
    obtain ⟨p16, q16⟩ := hl16 p q r hr
    by_cases e1 : p = a ∧ q = b
    · obtain ⟨rfl, rfl⟩ := e1
      rw [s3, huniq _ _ _ hr _ n1]
    by_cases e2 : p = b ∧ q = c
    · obtain ⟨rfl, rfl⟩ := e2
      rw [s2, huniq _ _ _ hr _ n2]
    by_cases e3 : p = c ∧ q = a
    · obtain ⟨rfl, rfl⟩ := e3
      rw [s1, huniq _ _ _ hr _ n3]
    rw [s4 _ (by omega) (by omega) (by omega)]
    rcases rt_app.mp hr with h | ⟨h, h'⟩
    · exact h3 p q r h
    · rcases rt_new ht h ((hk _ _ _).mp h') with e | e | e
      · exact absurd ⟨e.1, e.2.1⟩ e1
      · exact absurd ⟨e.1, e.2.1⟩ e2
      · exact absurd ⟨e.1, e.2.1⟩ e3
  · intro p q p16 q16 hr
    rw [s4 _ (fun e => hr c (by rw [show p = a by omega, show q = b by omega]; exact n1)) (fun e => hr a (by rw [show p = b by omega, show q = c by omega]; exact n2)) (fun e => hr b (by rw [show p = c by omega, show q = a by omega]; exact n3))]
    exact h4 p q p16 q16 (fun r h => hr r (rt_app.mpr (Or.inl h)))
theorem me_add {L : List Nat} {a b c k : Nat} {x4 : Int32} {post : St → Prop} (hk : k / 256 = a ∧ k / 16 % 16 = b ∧ k % 16 = c) (ha : a < 16) (hL : L.length < 27) (hm : mC X Y L g) (hne : a ≠ b ∧ a ≠ c ∧ b ≠ c) (hx : (x4 = 0 ∧ 0 < ge_t X Y a b c) ∨ (x4 = 1 ∧ ge_t X Y a b c < 0))
    (huniq : ∀ p q r, rt X Y (L ++ [k]) p q r → ∀ r', rt X Y (L ++ [k]) p q r' → r = r') (hl16 : ∀ p q r, rt X Y (L ++ [k]) p q r → p < 16 ∧ q < 16)
    (h : ∀ g', mC X Y (L ++ [k]) g' → fr [2, 8, 9] g g' → post g') : wp_me_add (nI a) (nI b) (nI c) x4 g post := by
  obtain ⟨m1, m2, m3, m4⟩ := hm
  obtain ⟨k1, k2, k3⟩ := hk
  have b16 : b < 16 := by omega
  have c16 : c < 16 := by omega
  unfold wp_me_add
  rw [m1, pk3', show (1 : Int32) = nI 1 from rfl, show (2 : Int32) = nI 2 from rfl, nI_add, nI_add, ix_nI (by omega), ix_nI (by omega), ix_nI (by omega)]
  refine ⟨vp_in_nI (by omega) (by omega), fun g1 e1 => ⟨vp_in_nI (by omega) (by omega), fun g2 e2 => ⟨vp_in_nI (by omega) (by omega), fun g3 e3 => fun g4 e4 => ?_⟩⟩⟩
  have f4 : fr [2, 8, 9] g g4 := by rw [e4, e3, e2, e1]; exact (((fr.rf.gp (by decide)).gp (by decide)).gp (by decide)).gp (by decide)
  have c1 : g4 2 2 = nI (L ++ [k]).length := by
    rw [e4, gp_s, e3, gp_n (by decide), e2, gp_n (by decide), e1, gp_n (by decide), m1, nI_add, List.length_append]; rfl
  have c9 : g4 9 = g 9 := by rw [e4, gp_n (by decide), e3, gp_n (by decide), e2, gp_n (by decide), e1, gp_n (by decide)]
  have c8 : ∀ t, t < (L ++ [k]).length → g4 8 (3 * t) = nI ((L ++ [k]).getD t 0 / 256) ∧ g4 8 (3 * t + 1) = nI ((L ++ [k]).getD t 0 / 16 % 16) ∧ g4 8 (3 * t + 2) = nI ((L ++ [k]).getD t 0 % 16) := by
    intro t ht
    rw [List.length_append, List.length_singleton] at ht
    have e48 : g4 8 = g3 8 := by rw [e4, gp_n (by decide)]
    rw [e48, e3]
    by_cases e : t = L.length
    · subst e
      rw [tl_end, k1, k2, k3]
      refine ⟨?_, ?_, ?_⟩
      · rw [gp_o (by omega), e2, gp_o (by omega), e1]; exact gp_s
      · rw [gp_o (by omega), e2]; exact gp_s
      · exact gp_s
    · have l : t < L.length := by omega
      rw [tl_app l]
      obtain ⟨q1, q2, q3⟩ := m2 t l
      refine ⟨?_, ?_, ?_⟩
      · rw [gp_o (by omega), e2, gp_o (by omega), e1, gp_o (by omega)]; exact q1
      · rw [gp_o (by omega), e2, gp_o (by omega), e1, gp_o (by omega)]; exact q2
      · rw [gp_o (by omega), e2, gp_o (by omega), e1, gp_o (by omega)]; exact q3
  have fin : ∀ g', (∀ k', k' ≠ 9 → g' k' = g4 k') → ((∀ p q r, rt X Y (L ++ [k]) p q r → g' 9 (16 * p + q) = nI r) ∧ ∀ p q, p < 16 → q < 16 → (∀ r, ¬ rt X Y (L ++ [k]) p q r) → g' 9 (16 * p + q) = -1) → post g' := by
    intro g' f s
    refine h g' ⟨?_, ?_, s.1, s.2⟩ (fun k' hk' => ?_)
    · rw [f 2 (by decide)]; exact c1
    · rw [f 8 (by decide)]; exact c8
    · rw [f k' (fun e => hk' (by rw [e]; decide))]; exact f4 k' hk'
  obtain ⟨ab, ac, bc⟩ := hne
  rcases hx with ⟨x0, ht⟩ | ⟨x1, ht⟩
  · refine ⟨fun _ => ?_, fun q => absurd x0 q⟩
    refine me_sides ha c16 b16 (fun g' s1 s2 s3 s4 f => fin g' (fun k' hk' => f k' (fun q => hk' (List.mem_singleton.mp q))) ?_)
    refine mC_sides (L := L) (k := k) (a := a) (b := c) (c := b) (g1 := g4) (fun p q r => by rw [k1, k2, k3]; exact ge_pm_sw.symm) (by rw [ge_t_sw]; omega) ⟨ha, c16, b16⟩ ⟨ac, ab, Ne.symm bc⟩ huniq (by rw [c9]; exact m3) (by rw [c9]; exact m4) hl16 s1 (s2 (by omega)) (s3 (by omega) (by omega)) s4
  · refine ⟨fun q => absurd q (by rw [x1]; decide), fun _ => ?_⟩
    refine me_sides ha b16 c16 (fun g' s1 s2 s3 s4 f => fin g' (fun k' hk' => f k' (fun q => hk' (List.mem_singleton.mp q))) ?_)
    refine mC_sides (L := L) (k := k) (a := a) (b := b) (c := c) (g1 := g4) (fun p q r => by rw [k1, k2, k3]) ht ⟨ha, b16, c16⟩ ⟨ab, ac, bc⟩ huniq (by rw [c9]; exact m3) (by rw [c9]; exact m4) hl16 s1 (s2 (by omega)) (s3 (by omega) (by omega)) s4
theorem rt_T {k p q r : Nat} (ho : ge_ok X Y n) (h : rt X Y (tl X Y n k) p q r) : ge_T X Y n p q r := by
  obtain ⟨-, x, h1, h2⟩ := h
  exact ge_pm_T (ge_T_of ho (tl_mem.mp h1).2) h2
theorem rt_u {k p q r r' : Nat} (ho : ge_ok X Y n) (h : rt X Y (tl X Y n k) p q r) (h' : rt X Y (tl X Y n k) p q r') : r = r' := ge_right (rt_T ho h) (rt_T ho h') h.1 h'.1
/-- THE MESH REBUILT -/
theorem me_rebuild {post : St → Prop} (hS : sC g n X Y Z) (h : ∀ g', mC X Y (tl X Y n 4096) g' → fr [2, 8, 9] g g' → post g') : wp_me_rebuild g post := by
  have n16 := hS.1.1
  have le : ∀ {u v : Nat}, u ≤ 16 → v ≤ 16 → (nI u ≤ nI v ↔ u ≤ v) := fun hu hv => nI_leI (by omega) (by omega)
  have inS : ∀ g', fr [2, 8, 9] g g' → sC g' n X Y Z := fun g' f => hS.fr f (by decide) (by decide) (by decide) (by decide)
  unfold wp_me_rebuild
  refine me_clear (fun g1 c1 c2 f1 => ?_)
  have f1 : fr [2, 8, 9] g g1 := f1.mono (by decide)
  have m0 : mC X Y (tl X Y n 0) g1 := by
    refine ⟨c1, fun t ht => absurd ht (by unfold tl; simp), fun p q r hr => ?_, fun p q hp hq _ => c2 _ (by omega)⟩
    obtain ⟨-, x, hx, -⟩ := hr
    exact absurd (tl_mem.mp hx).1 (by omega)
  -- the innermost loop
  have L31 : ∀ (a b : Nat) (K : Int32 → Int32 → St → Prop), a < b → b < n → (∀ g', mC X Y (tl X Y n (256 * a + 16 * b + n)) g' → fr [2, 8, 9] g g' → K (nI a) (nI b) g') →
      ∀ m c (g2 : St), c + m = n → b < c → mC X Y (tl X Y n (256 * a + 16 * b + c)) g2 → fr [2, 8, 9] g g2 → lp_me_rebuild_L31 (m + 1) (nI a) (nI b) (nI c) g2 K post := by
    intro a b K hab hb hK m
    induction m with
    | zero =>
      intro c g2 hc hbc hm f2
      have S2 := inS g2 f2
      unfold lp_me_rebuild_L31 wp_sp_size
      rw [S2.2.2.1]
      have : c = n := by omega
      subst this
      exact ⟨fun _ => hK g2 hm f2, fun q => absurd ((le (by omega) (by omega)).mpr (Nat.le_refl _)) q⟩
    | succ m ih =>
      intro c g2 hc hbc hm f2
      have S2 := inS g2 f2
      have hcn : c < n := by omega
      have k1 : (256 * a + 16 * b + c) / 256 = a := by omega
      have k2 : (256 * a + 16 * b + c) / 16 % 16 = b := by omega
      have k3 : (256 * a + 16 * b + c) % 16 = c := by omega
      have no : ¬ ge_tri X Y n a b c → ∀ g3, mC X Y (tl X Y n (256 * a + 16 * b + c)) g3 → fr [2, 8, 9] g g3 → lp_me_rebuild_L31 (m + 1) (nI a) (nI b) (nI c + 1) g3 K post := fun t g3 m3 f3 => by
        rw [nI_1]
        refine ih (c + 1) g3 (by omega) (by omega) ?_ f3
        rw [← Nat.add_assoc, tl_s0 (by rw [k1, k2, k3]; exact t)]
        exact m3
      unfold lp_me_rebuild_L31 wp_sp_size
      rw [S2.2.2.1]
      try dsimp only
      rw [hm.1]
      refine ⟨fun q => absurd ((le (by omega) (by omega)).mp q) (by omega), fun _ => ⟨fun q => ?_, fun q => ?_⟩⟩
      · refine no (fun t => ?_) g2 hm f2
        have l := tl_27 (k := 256 * a + 16 * b + c + 1) hS.1
        rw [tl_s1 (by rw [k1, k2, k3]; exact t), List.length_append, List.length_singleton] at l
        have l2 := tl_27 (k := 256 * a + 16 * b + c) hS.1
        rw [show (27 : Int32) = nI 27 from rfl, nI_leI (by omega) (by omega)] at q
        omega
      · have l2 := tl_27 (k := 256 * a + 16 * b + c) hS.1
        have l3 : (tl X Y n (256 * a + 16 * b + c)).length < 27 := by
          rw [show (27 : Int32) = nI 27 from rfl, nI_leI (by omega) (by omega)] at q
          omega
        refine me_isTri S2 hab hbc hcn (fun t => ⟨fun _ => no t g2 hm f2, fun q => absurd rfl q⟩) (fun t => ⟨fun q => absurd q (by decide), fun _ => ?_⟩)
        have bt := ge_tb hS.1 (show a < n by omega) hb hcn
        have ap := tl_s1 (X := X) (Y := Y) (n := n) (k := 256 * a + 16 * b + c) (by rw [k1, k2, k3]; exact t)
        have go : ∀ x4 : Int32, ((x4 = 0 ∧ 0 < ge_t X Y a b c) ∨ (x4 = 1 ∧ ge_t X Y a b c < 0)) → wp_me_add (nI a) (nI b) (nI c) x4 g2 (fun g12 => (lp_me_rebuild_L31 (m + 1) (nI a) (nI b) (nI c + 1) g12 K post)) := fun x4 hx => by
          refine me_add (L := tl X Y n (256 * a + 16 * b + c)) (k := 256 * a + 16 * b + c) ⟨k1, k2, k3⟩ (by omega) l3 hm ⟨by omega, by omega, by omega⟩ hx (fun p q r h1 r' h2 => ?_) (fun p q r h1 => ?_) (fun g3 m3 f3 => ?_)
          · rw [← ap] at h1 h2; exact rt_u hS.1 h1 h2
          · rw [← ap] at h1
            have T := rt_T hS.1 h1
            exact ⟨by have := T.1; omega, by have := T.2.1; omega⟩
          · rw [nI_1]
            rw [← ap] at m3
            exact ih (c + 1) g3 (by omega) (by omega) m3 (f2.tr f3)
        refine sp_turn S2 (by omega) hb hcn ⟨fun q => go 0 (Or.inl ⟨rfl, ?_⟩), fun q => go 1 (Or.inr ⟨rfl, ?_⟩)⟩
        · rw [← iI_0, iI_le (by omega) (by omega) bt.1 bt.2] at q
          have := t.2.2.2.1
          omega
        · rw [← iI_0, iI_le (by omega) (by omega) bt.1 bt.2] at q
          omega
  have L18 : ∀ (a : Nat) (K : Int32 → St → Prop), a < n → (∀ g', mC X Y (tl X Y n (256 * a + 16 * n)) g' → fr [2, 8, 9] g g' → K (nI a) g') →
      ∀ m b (g2 : St), b + m = n → a < b → mC X Y (tl X Y n (256 * a + 16 * b)) g2 → fr [2, 8, 9] g g2 → lp_me_rebuild_L18 (m + 1) (nI a) (nI b) g2 K post := by
    intro a K ha hK m
    induction m with
    | zero =>
      intro b g2 hb hab hm f2
      have S2 := inS g2 f2
      unfold lp_me_rebuild_L18 wp_sp_size
      rw [S2.2.2.1]
      have : b = n := by omega
      subst this
      exact ⟨fun _ => hK g2 hm f2, fun q => absurd ((le (by omega) (by omega)).mpr (Nat.le_refl _)) q⟩
    | succ m ih =>
      intro b g2 hb hab hm f2
      have S2 := inS g2 f2
      unfold lp_me_rebuild_L18 wp_sp_size
      rw [S2.2.2.1]
      refine ⟨fun q => absurd ((le (by omega) (by omega)).mp q) (by omega), fun _ => ⟨(n - (b + 1)) + 1, ?_⟩⟩
      rw [nI_1]
      refine L31 a b _ hab (by omega) (fun g3 m3 f3 => ?_) (n - (b + 1)) (b + 1) g2 (by omega) (by omega) ?_ f2
      · rw [nI_1]
        refine ih (b + 1) g3 (by omega) (by omega) ?_ f3
        rw [tl_skip (k := 256 * a + 16 * b + n) (k' := 256 * a + 16 * (b + 1)) (by omega) (fun x x1 x2 t => by have := t.2.2.1; omega)]
        exact m3
      · rw [tl_skip (k := 256 * a + 16 * b) (k' := 256 * a + 16 * b + (b + 1)) (by omega) (fun x x1 x2 t => by have := t.2.1; omega)]
        exact hm
  have L6 : ∀ m a (g2 : St), a + m = n → mC X Y (tl X Y n (256 * a)) g2 → fr [2, 8, 9] g g2 → lp_me_rebuild_L6 (m + 1) (nI a) g2 (fun g19 => (post g19)) post := by
    intro m
    induction m with
    | zero =>
      intro a g2 ha hm f2
      have S2 := inS g2 f2
      unfold lp_me_rebuild_L6 wp_sp_size
      rw [S2.2.2.1]
      have : a = n := by omega
      subst this
      refine ⟨fun _ => h g2 ?_ f2, fun q => absurd ((le (by omega) (by omega)).mpr (Nat.le_refl _)) q⟩
      rw [tl_skip (k := 256 * a) (k' := 4096) (by omega) (fun x x1 x2 t => by have t1 := t.1; have t2 := t.2.1; have t3 := t.2.2.1; omega)]
      exact hm
    | succ m ih =>
      intro a g2 ha hm f2
      have S2 := inS g2 f2
      unfold lp_me_rebuild_L6 wp_sp_size
      rw [S2.2.2.1]
      refine ⟨fun q => absurd ((le (by omega) (by omega)).mp q) (by omega), fun _ => ⟨(n - (a + 1)) + 1, ?_⟩⟩
      rw [nI_1]
      refine L18 a _ (by omega) (fun g3 m3 f3 => ?_) (n - (a + 1)) (a + 1) g2 (by omega) (by omega) ?_ f2
      · rw [nI_1]
        refine ih (a + 1) g3 (by omega) ?_ f3
        rw [tl_skip (k := 256 * a + 16 * n) (k' := 256 * (a + 1)) (by omega) (fun x x1 x2 t => by have t2 := t.2.1; have t3 := t.2.2.1; have u : x / 16 / 16 = a := (by omega); omega)]
        exact m3
      · rw [tl_skip (k := 256 * a) (k' := 256 * a + 16 * (a + 1)) (by omega) (fun x x1 x2 t => by have := t.1; omega)]
        exact hm
  exact ⟨n + 1, L6 n 0 g1 (by omega) m0 f1⟩
end
end
section
/-! The reference finds its triangles. -/
/-- the cells of S and the places T of the object's own fields have changed, nothing else -/
def fm (S T : List Nat) (g g' : St) : Prop := (∀ k, k ≠ 0 → k ∉ S → g' k = g k) ∧ ∀ j, j ∉ T → g' 0 j = g 0 j
theorem fm.rf {S T : List Nat} {g : St} : fm S T g g := ⟨fun _ _ _ => rfl, fun _ _ => rfl⟩
theorem fm.pt {S T : List Nat} {g g' : St} {k j : Nat} {v : Int32} (h : fm S T g g') (hk : k ∈ S) (h0 : k ≠ 0) : fm S T g (gp g' k j v) := ⟨fun k' h1 h' => by
  rw [gp_n (fun e => h' (by rw [e]; exact hk))]; exact h.1 k' h1 h', fun j' hj => by rw [gp_n (Ne.symm h0)]; exact h.2 j' hj⟩
theorem fm.g0 {S T : List Nat} {g g' : St} {j : Nat} {v : Int32} (h : fm S T g g') (hj : j ∈ T) : fm S T g (gp g' 0 j v) := ⟨fun k' h1 h' => by
  rw [gp_n h1]; exact h.1 k' h1 h', fun j' hj' => by rw [gp_o (fun e => hj' (by rw [e]; exact hj))]; exact h.2 j' hj'⟩
theorem fm.tr {S T : List Nat} {g g' g'' : St} (h : fm S T g g') (h2 : fm S T g' g'') : fm S T g g'' := ⟨fun k h1 hk => (h2.1 k h1 hk).trans (h.1 k h1 hk), fun j hj => (h2.2 j hj).trans (h.2 j hj)⟩
theorem fm.mono {S S' T T' : List Nat} {g g' : St} (h : fm S T g g') (hs : ∀ k, k ∈ S → k ∈ S') (ht : ∀ k, k ∈ T → k ∈ T') : fm S' T' g g' := ⟨fun k h1 hk => h.1 k h1 (fun q => hk (hs k q)), fun j hj => h.2 j (fun q => hj (ht j q))⟩
theorem sM.fm {S T : List Nat} {g g' : St} {n : Nat} {X Y Z : Nat → Int} (h : sM g n X Y Z) (f : fm S T g g') (h1 : 1 ∉ T) (h5 : 1 ∉ S) (h6 : 2 ∉ S) (h7 : 3 ∉ S) : sM g' n X Y Z := h.fr (f.2 1 h1) (f.1 1 (by decide) h5) (f.1 2 (by decide) h6) (f.1 3 (by decide) h7)
section
variable {g : St} {n : Nat} {X Y Z : Nat → Int}
theorem mM_add {L : List Nat} {a b c k : Nat} {g1 g2 g3 g4 : St} (hk : k / 256 = a ∧ k / 16 % 16 = b ∧ k % 16 = c) (hm : mM L g) (e1 : g1 = gp g 4 (3 * L.length) (nI a)) (e2 : g2 = gp g1 4 (3 * L.length + 1) (nI b)) (e3 : g3 = gp g2 4 (3 * L.length + 2) (nI c)) (e4 : g4 = gp g3 0 5 (nI L.length + 1)) : mM (L ++ [k]) g4 := by
  obtain ⟨m1, m2⟩ := hm
  obtain ⟨k1, k2, k3⟩ := hk
  constructor
  · rw [e4, gp_s, nI_1, List.length_append]; rfl
  · intro t ht
    rw [List.length_append, List.length_singleton] at ht
    have e48 : g4 4 = g3 4 := by rw [e4, gp_n (by decide)]
    rw [e48, e3]
    by_cases e : t = L.length
    · subst e
      rw [tl_end, k1, k2, k3]
      refine ⟨?_, ?_, ?_⟩
      · rw [gp_o (by omega), e2, gp_o (by omega), e1]; exact gp_s
      · rw [gp_o (by omega), e2]; exact gp_s
      · exact gp_s
    · have l : t < L.length := by omega
      rw [tl_app l]
      obtain ⟨q1, q2, q3⟩ := m2 t l
      refine ⟨?_, ?_, ?_⟩
      · rw [gp_o (by omega), e2, gp_o (by omega), e1, gp_o (by omega)]; exact q1
      · rw [gp_o (by omega), e2, gp_o (by omega), e1, gp_o (by omega)]; exact q2
      · rw [gp_o (by omega), e2, gp_o (by omega), e1, gp_o (by omega)]; exact q3
theorem mo_find {post : St → Prop} (hS : sM g n X Y Z) (h : ∀ g', mM (tl X Y n 4096) g' → fm [4] [5] g g' → post g') : wp_mo_findTriangles g post := by
  have n16 := hS.1.1
  have le : ∀ {u v : Nat}, u ≤ 16 → v ≤ 16 → (nI u ≤ nI v ↔ u ≤ v) := fun hu hv => nI_leI (by omega) (by omega)
  have inS : ∀ g', fm [4] [5] g g' → sM g' n X Y Z := fun g' f => hS.fm f (by decide) (by decide) (by decide) (by decide)
  unfold wp_mo_findTriangles
  intro g1 e1
  have f1 : fm [4] [5] g g1 := by rw [e1]; exact fm.rf.g0 (by decide)
  have m0 : mM (tl X Y n 0) g1 := ⟨by rw [e1]; exact gp_s, fun t ht => absurd ht (by unfold tl; simp)⟩
  have L31 : ∀ (a b : Nat) (K : Int32 → Int32 → St → Prop), a < b → b < n → (∀ g', mM (tl X Y n (256 * a + 16 * b + n)) g' → fm [4] [5] g g' → K (nI a) (nI b) g') →
      ∀ m c (g2 : St), c + m = n → b < c → mM (tl X Y n (256 * a + 16 * b + c)) g2 → fm [4] [5] g g2 → lp_mo_findTriangles_L31 (m + 1) (nI a) (nI b) (nI c) g2 K post := by
    intro a b K hab hb hK m
    induction m with
    | zero =>
      intro c g2 hc hbc hm f2
      have S2 := inS g2 f2
      unfold lp_mo_findTriangles_L31
      rw [S2.2.2.1]
      have : c = n := by omega
      subst this
      exact ⟨fun _ => hK g2 hm f2, fun q => absurd ((le (by omega) (by omega)).mpr (Nat.le_refl _)) q⟩
    | succ m ih =>
      intro c g2 hc hbc hm f2
      have S2 := inS g2 f2
      have hcn : c < n := by omega
      have k1 : (256 * a + 16 * b + c) / 256 = a := by omega
      have k2 : (256 * a + 16 * b + c) / 16 % 16 = b := by omega
      have k3 : (256 * a + 16 * b + c) % 16 = c := by omega
      unfold lp_mo_findTriangles_L31
      rw [S2.2.2.1]
      refine ⟨fun q => absurd ((le (by omega) (by omega)).mp q) (by omega), fun _ => ?_⟩
      refine mo_isTri S2 hab hbc hcn (fun t => ⟨fun _ => ?_, fun q => absurd rfl q⟩) (fun t => ⟨fun q => absurd q (by decide), fun _ => ?_⟩)
      · rw [nI_1]
        refine ih (c + 1) g2 (by omega) (by omega) ?_ f2
        rw [← Nat.add_assoc, tl_s0 (by rw [k1, k2, k3]; exact t)]
        exact hm
      · have ap := tl_s1 (X := X) (Y := Y) (n := n) (k := 256 * a + 16 * b + c) (by rw [k1, k2, k3]; exact t)
        have l3 := tl_27 (k := 256 * a + 16 * b + c) hS.1
        rw [hm.1, pk3', ix_nI (by omega)]
        refine ⟨vp_in_nI (by omega) (by omega), fun g4 e4 => ?_⟩
        have c4 : g4 0 5 = nI (tl X Y n (256 * a + 16 * b + c)).length := by rw [e4, gp_n (by decide)]; exact hm.1
        rw [c4, pk3', show (1 : Int32) = nI 1 from rfl, nI_add, ix_nI (by omega)]
        refine ⟨vp_in_nI (by omega) (by omega), fun g5 e5 => ?_⟩
        have c5 : g5 0 5 = nI (tl X Y n (256 * a + 16 * b + c)).length := by rw [e5, gp_n (by decide)]; exact c4
        rw [c5, pk3', show (2 : Int32) = nI 2 from rfl, nI_add, ix_nI (by omega)]
        refine ⟨vp_in_nI (by omega) (by omega), fun g6 e6 => fun g7 e7 => ?_⟩
        have c6 : g6 0 5 = nI (tl X Y n (256 * a + 16 * b + c)).length := by rw [e6, gp_n (by decide)]; exact c5
        rw [c6] at e7
        rw [nI_add]
        refine ih (c + 1) g7 (by omega) (by omega) ?_ ?_
        · rw [← Nat.add_assoc, ap]
          exact mM_add ⟨k1, k2, k3⟩ hm e4 e5 e6 e7
        · rw [e7, e6, e5, e4]
          exact (((f2.pt (by decide) (by decide)).pt (by decide) (by decide)).pt (by decide) (by decide)).g0 (by decide)
  have L19 : ∀ (a : Nat) (K : Int32 → St → Prop), a < n → (∀ g', mM (tl X Y n (256 * a + 16 * n)) g' → fm [4] [5] g g' → K (nI a) g') →
      ∀ m b (g2 : St), b + m = n → a < b → mM (tl X Y n (256 * a + 16 * b)) g2 → fm [4] [5] g g2 → lp_mo_findTriangles_L19 (m + 1) (nI a) (nI b) g2 K post := by
    intro a K ha hK m
    induction m with
    | zero =>
      intro b g2 hb hab hm f2
      have S2 := inS g2 f2
      unfold lp_mo_findTriangles_L19
      rw [S2.2.2.1]
      have : b = n := by omega
      subst this
      exact ⟨fun _ => hK g2 hm f2, fun q => absurd ((le (by omega) (by omega)).mpr (Nat.le_refl _)) q⟩
    | succ m ih =>
      intro b g2 hb hab hm f2
      have S2 := inS g2 f2
      unfold lp_mo_findTriangles_L19
      rw [S2.2.2.1]
      refine ⟨fun q => absurd ((le (by omega) (by omega)).mp q) (by omega), fun _ => ⟨(n - (b + 1)) + 1, ?_⟩⟩
      rw [nI_1]
      refine L31 a b _ hab (by omega) (fun g3 m3 f3 => ?_) (n - (b + 1)) (b + 1) g2 (by omega) (by omega) ?_ f2
      · rw [nI_1]
        refine ih (b + 1) g3 (by omega) (by omega) ?_ f3
        rw [tl_skip (k := 256 * a + 16 * b + n) (k' := 256 * a + 16 * (b + 1)) (by omega) (fun x x1 x2 t => by have := t.2.2.1; omega)]
        exact m3
      · rw [tl_skip (k := 256 * a + 16 * b) (k' := 256 * a + 16 * b + (b + 1)) (by omega) (fun x x1 x2 t => by have := t.2.1; omega)]
        exact hm
  have L7 : ∀ m a (g2 : St), a + m = n → mM (tl X Y n (256 * a)) g2 → fm [4] [5] g g2 → lp_mo_findTriangles_L7 (m + 1) (nI a) g2 (fun g13 => (post g13)) post := by
    intro m
    induction m with
    | zero =>
      intro a g2 ha hm f2
      have S2 := inS g2 f2
      unfold lp_mo_findTriangles_L7
      rw [S2.2.2.1]
      have : a = n := by omega
      subst this
      refine ⟨fun _ => h g2 ?_ f2, fun q => absurd ((le (by omega) (by omega)).mpr (Nat.le_refl _)) q⟩
      rw [tl_skip (k := 256 * a) (k' := 4096) (by omega) (fun x x1 x2 t => by have t1 := t.1; have t2 := t.2.1; have t3 := t.2.2.1; omega)]
      exact hm
    | succ m ih =>
      intro a g2 ha hm f2
      have S2 := inS g2 f2
      unfold lp_mo_findTriangles_L7
      rw [S2.2.2.1]
      refine ⟨fun q => absurd ((le (by omega) (by omega)).mp q) (by omega), fun _ => ⟨(n - (a + 1)) + 1, ?_⟩⟩
      rw [nI_1]
      refine L19 a _ (by omega) (fun g3 m3 f3 => ?_) (n - (a + 1)) (a + 1) g2 (by omega) (by omega) ?_ f2
      · rw [nI_1]
        refine ih (a + 1) g3 (by omega) ?_ f3
        rw [tl_skip (k := 256 * a + 16 * n) (k' := 256 * (a + 1)) (by omega) (fun x x1 x2 t => by have t2 := t.2.1; have t3 := t.2.2.1; have u : x / 16 / 16 = a := (by omega); omega)]
        exact m3
      · rw [tl_skip (k := 256 * a) (k' := 256 * a + 16 * (a + 1)) (by omega) (fun x x1 x2 t => by have := t.1; omega)]
        exact hm
  exact ⟨n + 1, L7 n 0 g1 (by omega) m0 f1⟩
end
end
section
/-! Labels and what they clash with. -/
def ab (d : Int) : Int := if 0 ≤ d then d else -d
theorem iI_ab {d : Int} (h1 : -2147483647 ≤ d) (h2 : d < 2147483648) : (if 0 ≤ iI d then iI d else 0 - iI d) = iI (ab d) := by
  unfold ab
  by_cases h : 0 ≤ d
  · rw [if_pos h, if_pos (by rw [← iI_0, iI_le (by omega) (by omega) (by omega) h2]; exact h)]
  · rw [if_neg h, if_neg (by rw [← iI_0, iI_le (by omega) (by omega) (by omega) h2]; exact h), ← iI_0, iI_sub, Int.zero_sub]
theorem ab_b {d : Int} (h1 : -2147483647 ≤ d) (h2 : d < 2147483648) : 0 ≤ ab d ∧ ab d < 2147483648 := by
  unfold ab; split <;> omega
theorem iI_lt_n (k : Nat) {d : Int} (hk : k < 2147483648) (h1 : -2147483648 ≤ d) (h2 : d < 2147483648) : nI k < iI d ↔ (k : Int) < d := by
  rw [← iI_nI, iI_lt (by omega) (by omega) h1 h2]
def cov (n : Nat) (X Y : Nat → Int) (x y : Int) : Prop := ∃ s, s < n ∧ ab (X s - x) ≤ 3 ∧ ab (Y s - y) ≤ 1
def cla (q : Nat) (A B : Nat → Int) (x y : Int) : Prop := ∃ i, i < q ∧ ab (A i - x) ≤ 6 ∧ ab (B i - y) ≤ 2
/-- the labels of the class, and of the reference -/
def tC (g : St) (q : Nat) (V A B : Nat → Int) : Prop := q ≤ 20 ∧ g 4 3 = nI q ∧ ∀ i, i < q → (0 ≤ A i ∧ A i ≤ 63 ∧ 0 ≤ B i ∧ B i ≤ 63) ∧ g 15 i = iI (V i) ∧ g 16 i = iI (A i) ∧ g 17 i = iI (B i)
def tM (g : St) (q : Nat) (V A B : Nat → Int) : Prop := g 0 17 = nI q ∧ ∀ i, i < q → (0 ≤ A i ∧ A i ≤ 63 ∧ 0 ≤ B i ∧ B i ≤ 63) ∧ g 13 i = iI (V i) ∧ g 14 i = iI (A i) ∧ g 15 i = iI (B i)
section
variable {g : St} {n q : Nat} {X Y Z V A B : Nat → Int} {x y : Int}
theorem ta_covers {post : Int32 → St → Prop} (hS : sC g n X Y Z) (hx : 0 ≤ x ∧ x ≤ 63) (hy : 0 ≤ y ∧ y ≤ 63) (h0 : ¬ cov n X Y x y → post 0 g) (h1 : cov n X Y x y → post 1 g) : wp_ta_coversSpot (iI x) (iI y) g post := by
  have n16 := hS.1.1
  unfold wp_ta_coversSpot
  try dsimp only
  have loop : ∀ m i, i + m = n → (∀ s, s < i → ¬ (ab (X s - x) ≤ 3 ∧ ab (Y s - y) ≤ 1)) → lp_ta_coversSpot_L2 (m + 1) (iI x) (iI y) (nI i) g (fun g7 => (post 0 g7)) post := by
    intro m
    induction m with
    | zero =>
      intro i hi hd
      unfold lp_ta_coversSpot_L2 wp_sp_size
      try dsimp only
      rw [hS.2.2.1]
      refine ⟨fun _ => h0 (fun ⟨s, s1, s2⟩ => hd s (by omega) s2), fun k => absurd ((nI_leI (by omega) (by omega)).mpr (by omega)) k⟩
    | succ m ih =>
      intro i hi hd
      have hin : i < n := by omega
      obtain ⟨e1, e2, -⟩ := hS.2.2.2 i hin
      obtain ⟨b1, b2, b3, b4⟩ := hS.1.2.1 i hin
      have a1 := ab_b (d := X i - x) (by omega) (by omega)
      have a2 := ab_b (d := Y i - y) (by omega) (by omega)
      have next : ¬ (ab (X i - x) ≤ 3 ∧ ab (Y i - y) ≤ 1) → lp_ta_coversSpot_L2 (m + 1) (iI x) (iI y) (nI i + 1) g (fun g7 => (post 0 g7)) post := fun k => by
        rw [nI_1]
        refine ih (i + 1) (by omega) (fun s hs => ?_)
        by_cases e : s = i
        · rw [e]; exact k
        · exact hd s (by omega)
      unfold lp_ta_coversSpot_L2 wp_sp_size wp_sp_x wp_sp_y
      try dsimp only
      rw [hS.2.2.1, hS.ix hin, e1, e2, iI_sub, iI_sub, iI_ab (by omega) (by omega), iI_ab (by omega) (by omega), show (3 : Int32) = nI 3 from rfl]
      refine ⟨fun k => absurd ((nI_leI (by omega) (by omega)).mp k) (by omega), fun _ => ⟨hS.v16 hin, fun k => next ?_, fun k => ⟨hS.v16 hin, fun k2 => next ?_, fun k2 => ?_⟩⟩⟩
      · rw [iI_lt_n 3 (by omega) (by omega) (by omega)] at k; omega
      · rw [show (1 : Int32) = nI 1 from rfl, iI_lt_n 1 (by omega) (by omega) (by omega)] at k2; omega
      · rw [iI_lt_n 3 (by omega) (by omega) (by omega)] at k
        rw [show (1 : Int32) = nI 1 from rfl, iI_lt_n 1 (by omega) (by omega) (by omega)] at k2
        exact h1 ⟨i, hin, by omega, by omega⟩
  exact ⟨n + 1, loop n 0 (by omega) (fun s hs => absurd hs (by omega))⟩
theorem ta_clash {post : Int32 → St → Prop} (hT : tC g q V A B) (hx : 0 ≤ x ∧ x ≤ 63) (hy : 0 ≤ y ∧ y ≤ 63) (h0 : ¬ cla q A B x y → post 0 g) (h1 : cla q A B x y → post 1 g) : wp_ta_clashesAt (iI x) (iI y) g post := by
  have q20 := hT.1
  unfold wp_ta_clashesAt
  try dsimp only
  have loop : ∀ m i, i + m = q → (∀ s, s < i → ¬ (ab (A s - x) ≤ 6 ∧ ab (B s - y) ≤ 2)) → lp_ta_clashesAt_L2 (m + 1) (iI x) (iI y) (nI i) g (fun g1 => (post 0 g1)) post := by
    intro m
    induction m with
    | zero =>
      intro i hi hd
      unfold lp_ta_clashesAt_L2
      try dsimp only
      rw [hT.2.1]
      refine ⟨fun _ => h0 (fun ⟨s, s1, s2⟩ => hd s (by omega) s2), fun k => absurd ((nI_leI (by omega) (by omega)).mpr (by omega)) k⟩
    | succ m ih =>
      intro i hi hd
      have hin : i < q := by omega
      obtain ⟨⟨b1, b2, b3, b4⟩, -, e1, e2⟩ := hT.2.2 i hin
      have a1 := ab_b (d := A i - x) (by omega) (by omega)
      have a2 := ab_b (d := B i - y) (by omega) (by omega)
      have next : ¬ (ab (A i - x) ≤ 6 ∧ ab (B i - y) ≤ 2) → lp_ta_clashesAt_L2 (m + 1) (iI x) (iI y) (nI i + 1) g (fun g1 => (post 0 g1)) post := fun k => by
        rw [nI_1]
        refine ih (i + 1) (by omega) (fun s hs => ?_)
        by_cases e : s = i
        · rw [e]; exact k
        · exact hd s (by omega)
      unfold lp_ta_clashesAt_L2
      try dsimp only
      rw [hT.2.1, ix_nI (by omega), e1, e2, iI_sub, iI_sub, iI_ab (by omega) (by omega), iI_ab (by omega) (by omega), show (6 : Int32) = nI 6 from rfl, show (2 : Int32) = nI 2 from rfl]
      refine ⟨fun k => absurd ((nI_leI (by omega) (by omega)).mp k) (by omega), fun _ => ⟨vp_in_nI (by omega) (by omega), fun k => next ?_, fun k => ⟨vp_in_nI (by omega) (by omega), fun k2 => next ?_, fun k2 => ?_⟩⟩⟩
      · rw [iI_lt_n 6 (by omega) (by omega) (by omega)] at k; omega
      · rw [iI_lt_n 2 (by omega) (by omega) (by omega)] at k2; omega
      · rw [iI_lt_n 6 (by omega) (by omega) (by omega)] at k
        rw [iI_lt_n 2 (by omega) (by omega) (by omega)] at k2
        exact h1 ⟨i, hin, by omega, by omega⟩
  exact ⟨q + 1, loop q 0 (by omega) (fun s hs => absurd hs (by omega))⟩
/-- isNear of the reference -/
theorem mo_near {a b : Int} {k : Nat} {post : Int32 → St → Prop} (ha : -1000 ≤ a ∧ a ≤ 1000) (hb : -1000 ≤ b ∧ b ≤ 1000) (hk : k < 100) (h0 : ¬ ab (a - b) ≤ k → post 0 g) (h1 : ab (a - b) ≤ k → post 1 g) : wp_mo_isNear (iI a) (iI b) (nI k) g post := by
  unfold wp_mo_isNear
  try dsimp only
  rw [iI_sub, iI_sub]
  have z1 := iI_lt_n k (d := a - b) (by omega) (by omega) (by omega)
  have z2 := iI_lt_n k (d := b - a) (by omega) (by omega) (by omega)
  have e : ab (a - b) ≤ k ↔ a - b ≤ k ∧ b - a ≤ k := by unfold ab; split <;> omega
  refine ⟨fun u => h0 (fun w => ?_), fun u => ⟨fun u2 => h0 (fun w => ?_), fun u2 => h1 ?_⟩⟩
  · have := z1.mp u; have := e.mp w; omega
  · have := z2.mp u2; have := e.mp w; omega
  · rw [e]
    constructor
    · exact Int.not_lt.mp (fun w => u (z1.mpr w))
    · exact Int.not_lt.mp (fun w => u2 (z2.mpr w))
theorem mo_clash {post : Int32 → St → Prop} (hS : sM g n X Y Z) (hT : tM g q V A B) (hq : q ≤ 60) (hx : 0 ≤ x ∧ x ≤ 63) (hy : 0 ≤ y ∧ y ≤ 63) (h0 : ¬ (cov n X Y x y ∨ cla q A B x y) → post 0 g) (h1 : (cov n X Y x y ∨ cla q A B x y) → post 1 g) : wp_mo_clashes (iI x) (iI y) g post := by
  have n16 := hS.1.1
  unfold wp_mo_clashes
  try dsimp only
  -- the second loop, from b
  have L65 : ∀ m i, i + m = q → ∀ b : Int32, ((b = 0 ∧ ¬ (cov n X Y x y ∨ ∃ s, s < i ∧ ab (A s - x) ≤ 6 ∧ ab (B s - y) ≤ 2)) ∨ (b = 1 ∧ (cov n X Y x y ∨ ∃ s, s < i ∧ ab (A s - x) ≤ 6 ∧ ab (B s - y) ≤ 2))) →
      lp_mo_clashes_L65 (m + 1) (iI x) (iI y) b (nI i) g (fun w14 g13 => (narrow .boolean (.int w14) = .int w14 ∧ post w14 g13)) post := by
    intro m
    induction m with
    | zero =>
      intro i hi b hb
      unfold lp_mo_clashes_L65
      try dsimp only
      rw [hT.1]
      have : i = q := by omega
      subst this
      refine ⟨fun _ => ?_, fun k => absurd ((nI_leI (by omega) (by omega)).mpr (Nat.le_refl _)) k⟩
      rcases hb with ⟨rfl, hb⟩ | ⟨rfl, hb⟩
      · exact ⟨nb_0, h0 hb⟩
      · exact ⟨nb_1, h1 hb⟩
    | succ m ih =>
      intro i hi b hb
      have hin : i < q := by omega
      obtain ⟨⟨b1, b2, b3, b4⟩, -, e1, e2⟩ := hT.2 i hin
      unfold lp_mo_clashes_L65
      try dsimp only
      rw [hT.1, ix_nI (by omega), nI_1]
      refine ⟨fun k => absurd ((nI_leI (by omega) (by omega)).mp k) (by omega), fun _ => ⟨fun k => ?_, fun k => ⟨vp_in_nI (by omega) (by omega), ?_⟩⟩⟩
      · refine ih (i + 1) (by omega) 1 (Or.inr ⟨rfl, ?_⟩)
        rcases hb with ⟨rfl, -⟩ | ⟨-, hb⟩
        · exact absurd rfl k
        · rcases hb with hb | ⟨s, s1, s2⟩
          · exact Or.inl hb
          · exact Or.inr ⟨s, by omega, s2⟩
      · have hb : ¬ (cov n X Y x y ∨ ∃ s, s < i ∧ ab (A s - x) ≤ 6 ∧ ab (B s - y) ≤ 2) := by
          rcases hb with ⟨-, hb⟩ | ⟨hb, -⟩
          · exact hb
          · rw [hb] at k; exact absurd k (by decide)
        have no : ¬ (ab (A i - x) ≤ 6 ∧ ab (B i - y) ≤ 2) → lp_mo_clashes_L65 (m + 1) (iI x) (iI y) 0 (nI (i + 1)) g (fun w14 g13 => (narrow .boolean (.int w14) = .int w14 ∧ post w14 g13)) post := fun u => by
          refine ih (i + 1) (by omega) 0 (Or.inl ⟨rfl, fun w => ?_⟩)
          rcases w with w | ⟨s, s1, s2⟩
          · exact hb (Or.inl w)
          · by_cases e : s = i
            · rw [e] at s2; exact u s2
            · exact hb (Or.inr ⟨s, by omega, s2⟩)
        rw [e1]
        refine mo_near (k := 6) (by omega) (by omega) (by omega) (fun u => ⟨fun _ => no (fun w => u w.1), fun k => absurd rfl k⟩) (fun u => ⟨fun k => absurd k (by decide), fun _ => ⟨vp_in_nI (by omega) (by omega), ?_⟩⟩)
        rw [e2]
        exact mo_near (k := 2) (by omega) (by omega) (by omega) (fun u2 => ⟨fun _ => no (fun w => u2 w.2), fun k => absurd rfl k⟩) (fun u2 => ⟨fun k => absurd k (by decide), fun _ => ih (i + 1) (by omega) 1 (Or.inr ⟨rfl, Or.inr ⟨i, by omega, u, u2⟩⟩)⟩)
  have L5 : ∀ m i, i + m = n → ∀ b : Int32, ((b = 0 ∧ ¬ ∃ s, s < i ∧ ab (X s - x) ≤ 3 ∧ ab (Y s - y) ≤ 1) ∨ (b = 1 ∧ ∃ s, s < i ∧ ab (X s - x) ≤ 3 ∧ ab (Y s - y) ≤ 1)) →
      lp_mo_clashes_L5 (m + 1) (iI x) (iI y) b (nI i) g (fun w6 w7 w8 g5 => (∃ k65, lp_mo_clashes_L65 k65 w6 w7 w8 0 g5 (fun w14 g13 => (narrow .boolean (.int w14) = .int w14 ∧ post w14 g13)) post)) post := by
    intro m
    induction m with
    | zero =>
      intro i hi b hb
      unfold lp_mo_clashes_L5
      try dsimp only
      rw [hS.2.2.1]
      have : i = n := by omega
      subst this
      refine ⟨fun _ => ⟨q + 1, L65 q 0 (by omega) b ?_⟩, fun k => absurd ((nI_leI (by omega) (by omega)).mpr (Nat.le_refl _)) k⟩
      rcases hb with ⟨hb, hc⟩ | ⟨hb, hc⟩
      · exact Or.inl ⟨hb, fun w => by rcases w with w | ⟨s, s1, -⟩; exact hc w; omega⟩
      · exact Or.inr ⟨hb, Or.inl hc⟩
    | succ m ih =>
      intro i hi b hb
      have hin : i < n := by omega
      obtain ⟨e1, e2, -⟩ := hS.2.2.2 i hin
      obtain ⟨b1, b2, b3, b4⟩ := hS.1.2.1 i hin
      unfold lp_mo_clashes_L5
      try dsimp only
      rw [hS.2.2.1, hS.ix hin, nI_1]
      refine ⟨fun k => absurd ((nI_leI (by omega) (by omega)).mp k) (by omega), fun _ => ⟨fun k => ?_, fun k => ⟨hS.v16 hin, ?_⟩⟩⟩
      · refine ih (i + 1) (by omega) 1 (Or.inr ⟨rfl, ?_⟩)
        rcases hb with ⟨rfl, -⟩ | ⟨-, ⟨s, s1, s2⟩⟩
        · exact absurd rfl k
        · exact ⟨s, by omega, s2⟩
      · have hb : ¬ ∃ s, s < i ∧ ab (X s - x) ≤ 3 ∧ ab (Y s - y) ≤ 1 := by
          rcases hb with ⟨-, hb⟩ | ⟨hb, -⟩
          · exact hb
          · rw [hb] at k; exact absurd k (by decide)
        have no : ¬ (ab (X i - x) ≤ 3 ∧ ab (Y i - y) ≤ 1) → lp_mo_clashes_L5 (m + 1) (iI x) (iI y) 0 (nI (i + 1)) g (fun w6 w7 w8 g5 => (∃ k65, lp_mo_clashes_L65 k65 w6 w7 w8 0 g5 (fun w14 g13 => (narrow .boolean (.int w14) = .int w14 ∧ post w14 g13)) post)) post := fun u => by
          refine ih (i + 1) (by omega) 0 (Or.inl ⟨rfl, fun ⟨s, s1, s2⟩ => ?_⟩)
          by_cases e : s = i
          · rw [e] at s2; exact u s2
          · exact hb ⟨s, by omega, s2⟩
        rw [e1]
        refine mo_near (k := 3) (by omega) (by omega) (by omega) (fun u => ⟨fun _ => no (fun w => u w.1), fun k => absurd rfl k⟩) (fun u => ⟨fun k => absurd k (by decide), fun _ => ⟨hS.v16 hin, ?_⟩⟩)
        rw [e2]
        exact mo_near (k := 1) (by omega) (by omega) (by omega) (fun u2 => ⟨fun _ => no (fun w => u2 w.2), fun k => absurd rfl k⟩) (fun u2 => ⟨fun k => absurd k (by decide), fun _ => ih (i + 1) (by omega) 1 (Or.inr ⟨rfl, ⟨i, by omega, u, u2⟩⟩)⟩)
  exact ⟨n + 1, L5 n 0 (by omega) 0 (Or.inl ⟨rfl, fun ⟨s, s1, _⟩ => by omega⟩)⟩
end
end
section
/-! Rounded quotients, and the places of crossings. -/
theorem td_up {a b : Int} (hb : 0 < b) : a.tdiv b = if a.tdiv b * b > a then a / b + 1 else a / b := by
  have h1 := Int.mul_ediv_add_emod a b
  have h2 := Int.emod_nonneg a (Int.ne_of_gt hb)
  have h3 := Int.emod_lt_of_pos a hb
  rcases Int.le_total 0 a with h | h
  · rw [Int.tdiv_eq_ediv_of_nonneg h]
    have : ¬ (a / b * b > a) := by rw [Int.mul_comm]; omega
    rw [if_neg this]
  · obtain ⟨m, rfl⟩ : ∃ m, a = -m := ⟨-a, by omega⟩
    have hm : 0 ≤ m := by omega
    rw [Int.neg_tdiv, Int.tdiv_eq_ediv_of_nonneg hm]
    have g1 := Int.mul_ediv_add_emod m b
    have g2 := Int.emod_nonneg m (Int.ne_of_gt hb)
    have g3 := Int.emod_lt_of_pos m hb
    -- q = m / b, r = m % b
    generalize hq : m / b = q at g1 ⊢
    generalize hr : m % b = r at g1 g2 g3
    have e : -q * b = -(b * q) := by rw [Int.neg_mul, Int.mul_comm]
    by_cases z : r = 0
    · have f : (-m) / b = -q := by
        rw [show -m = b * (-q) by rw [Int.mul_neg]; omega]
        exact Int.mul_ediv_cancel_left _ (Int.ne_of_gt hb)
      rw [f, if_neg (by rw [e]; omega)]
    · have f : (-m) / b = -q - 1 := by
        rw [show -m = (b - r) + b * (-q - 1) by rw [Int.mul_sub, Int.mul_neg]; omega, Int.add_mul_ediv_left _ _ (Int.ne_of_gt hb), Int.ediv_eq_zero_of_lt (by omega) (by omega)]
        omega
      rw [f, if_pos (by rw [e]; omega)]
      omega
theorem td_b {a b : Int} (hb : 0 < b) {M : Int} (h1 : -M ≤ a) (h2 : a ≤ M) : -M ≤ a.tdiv b ∧ a.tdiv b ≤ M := by
  have h : a.tdiv b = if a.tdiv b * b > a then a / b + 1 else a / b := td_up hb
  rcases Int.le_total 0 a with k | k
  · have q1 : 0 ≤ a.tdiv b := Int.tdiv_nonneg k (by omega)
    have q2 : a.tdiv b ≤ a := by rw [Int.tdiv_eq_ediv_of_nonneg k]; exact Int.ediv_le_self b k
    omega
  · obtain ⟨m, rfl⟩ : ∃ m, a = -m := ⟨-a, by omega⟩
    rw [Int.neg_tdiv]
    have q1 : 0 ≤ m.tdiv b := Int.tdiv_nonneg (by omega) (by omega)
    have q2 : m.tdiv b ≤ m := by rw [Int.tdiv_eq_ediv_of_nonneg (by omega)]; exact Int.ediv_le_self b (by omega)
    omega
theorem iI_tdiv {a b : Int} (h1 : -1000000000 ≤ a) (h2 : a ≤ 1000000000) (h3 : 0 < b) (h4 : b ≤ 1000000000) : iI a / iI b = iI (a.tdiv b) := by
  rw [← Int32.toInt_inj, Int32.toInt_div, iI_toInt (by omega) (by omega), iI_toInt (by omega) (by omega)]
  have := td_b h3 h1 h2
  rw [iI_toInt (by omega) (by omega)]
  exact Int.bmod_eq_of_le (by omega) (by omega)
theorem jI_tdiv {a b : Int} (h1 : -4000000000000000000 ≤ a) (h2 : a ≤ 4000000000000000000) (h3 : 0 < b) (h4 : b ≤ 4000000000000000000) : jI a / jI b = jI (a.tdiv b) := by
  rw [← Int64.toInt_inj, Int64.toInt_div, jI_toInt (by omega) (by omega), jI_toInt (by omega) (by omega)]
  have := td_b h3 h1 h2
  rw [jI_toInt (by omega) (by omega)]
  exact Int.bmod_eq_of_le (by omega) (by omega)
theorem mo_floor {g : St} {a b : Int} {post : Int64 → St → Prop} (h1 : -4000000000000000000 ≤ a) (h2 : a ≤ 4000000000000000000) (h3 : 0 < b) (h4 : b ≤ 4000000000000000000) (h : post (jI (a / b)) g) : wp_mo_floor (jI a) (jI b) g post := by
  have q := td_b h3 h1 h2
  have u := td_up (a := a) h3
  have r1 := Int.mul_ediv_add_emod a b
  have r2 := Int.emod_nonneg a (Int.ne_of_gt h3)
  have r3 := Int.emod_lt_of_pos a h3
  have pb : -9000000000000000000 ≤ a.tdiv b * b ∧ a.tdiv b * b ≤ 9000000000000000000 := by
    rw [u]
    split
    · rw [Int.add_mul, Int.one_mul, Int.mul_comm]; omega
    · rw [Int.mul_comm]; omega
  unfold wp_mo_floor
  try dsimp only
  rw [jI_tdiv h1 h2 h3 h4, jI_mul, jI_cmp (by omega) (by omega) (by omega) (by omega), ← jI_1, jI_sub]
  refine ⟨fun e => ?_, ?_⟩
  · rw [← jI_0, jI_eq (by omega) (by omega) (by omega) (by omega)] at e; omega
  · by_cases k : a < a.tdiv b * b
    · rw [if_pos k]
      rw [if_pos k] at u
      exact ⟨fun w => absurd w (by decide), fun _ => by rw [u]; rw [show a / b + 1 - 1 = a / b by omega]; exact h⟩
    · rw [if_neg k]
      rw [if_neg k] at u
      rw [u]
      exact ⟨fun _ => h, fun w => absurd (by split <;> decide) w⟩
/-- a coordinate of the place of a crossing of h and w at level l -/
def pl (X Z : Nat → Int) (l : Int) (h w : Nat) : Int := X w + ((X h - X w) * (2 * l + 1 - 2 * Z w)) / (2 * (Z h - Z w))
theorem pl_b {X Z : Nat → Int} {l : Int} {h w : Nat} (xh : 0 ≤ X h ∧ X h ≤ 63) (xw : 0 ≤ X w ∧ X w ≤ 63) (z1 : Z w ≤ l) (z2 : l < Z h) : 0 ≤ pl X Z l h w ∧ pl X Z l h w ≤ 63 := by
  unfold pl
  generalize hD : 2 * (Z h - Z w) = D
  generalize hp : 2 * l + 1 - 2 * Z w = p
  have p1 : 0 < p := by omega
  have p2 : p < D := by omega
  have D0 : 0 < D := by omega
  generalize hd : X h - X w = d
  rcases Int.le_total 0 d with k | k
  · have a1 : 0 ≤ d * p := Int.mul_nonneg k (by omega)
    have a2 : d * p ≤ d * D := Int.mul_le_mul_of_nonneg_left (by omega) k
    have b1 : 0 ≤ d * p / D := Int.ediv_nonneg a1 (by omega)
    have b2 : d * p / D ≤ d := Int.ediv_le_of_le_mul D0 a2
    omega
  · have a1 : d * p ≤ 0 := Int.mul_nonpos_of_nonpos_of_nonneg k (by omega)
    have a2 : d * D ≤ d * p := Int.mul_le_mul_of_nonpos_left k (by omega)
    have b1 : d ≤ d * p / D := Int.le_ediv_of_mul_le D0 a2
    have b2 : d * p / D ≤ 0 := Int.ediv_le_of_le_mul D0 (by omega)
    omega
end
section
/-! The contours of a level as a list that both sides build: crossings by 16 times the high spot, + the low one. Pure. -/
def hi (Z : Nat → Int) (l : Int) (v : Nat) : Prop := l < Z v
noncomputable def rr (X Y : Nat → Int) (n p q : Nat) : Option Nat := @dite _ (∃ r, ge_R X Y n p q r) (Classical.propDecidable _) (fun h => some (Classical.choose h)) (fun _ => none)
theorem rr_some {X Y : Nat → Int} {n p q r : Nat} : rr X Y n p q = some r ↔ ge_R X Y n p q r := by
  unfold rr
  constructor
  · intro h
    by_cases e : ∃ r, ge_R X Y n p q r
    · rw [@dif_pos _ (Classical.propDecidable _) e] at h
      cases h
      exact Classical.choose_spec e
    · rw [@dif_neg _ (Classical.propDecidable _) e] at h; cases h
  · intro h
    have e : ∃ r, ge_R X Y n p q r := ⟨r, h⟩
    rw [@dif_pos _ (Classical.propDecidable _) e]
    exact congrArg some (ge_R_u (Classical.choose_spec e) h)
theorem rr_none {X Y : Nat → Int} {n p q : Nat} : rr X Y n p q = none ↔ ∀ r, ¬ ge_R X Y n p q r := by
  constructor
  · intro h r q
    rw [rr_some.mpr q] at h; cases h
  · intro h
    cases e : rr X Y n p q with
    | none => rfl
    | some r => exact absurd (rr_some.mp e) (h r)
theorem rr_lt {X Y : Nat → Int} {n p q r : Nat} (h : rr X Y n p q = some r) : p < n ∧ q < n ∧ r < n := ⟨(rr_some.mp h).1.1, (rr_some.mp h).1.2.1, (rr_some.mp h).1.2.2.1⟩
theorem rr_rot {X Y : Nat → Int} {n p q r : Nat} (h : rr X Y n p q = some r) : rr X Y n q r = some p := rr_some.mpr (ge_R_rot (rr_some.mp h))
/-- the other crossing in the triangle of h, w and the third one -/
noncomputable def oth (Z : Nat → Int) (l : Int) (h w r : Nat) : Nat := @ite _ (hi Z l r) (Classical.propDecidable _) (16 * r + w) (16 * h + r)
theorem oth_h {Z : Nat → Int} {l : Int} {h w r : Nat} (q : hi Z l r) : oth Z l h w r = 16 * r + w := @if_pos _ (Classical.propDecidable _) q _ _ _
theorem oth_l {Z : Nat → Int} {l : Int} {h w r : Nat} (q : ¬ hi Z l r) : oth Z l h w r = 16 * h + r := @if_neg _ (Classical.propDecidable _) q _ _ _
section
variable (X Y Z : Nat → Int) (n : Nat) (l : Int)
/-- a crossing goes on, and comes -/
noncomputable def cN (x : Nat) : Option Nat := @ite _ (hi Z l (x / 16) ∧ ¬ hi Z l (x % 16)) (Classical.propDecidable _) ((rr X Y n (x % 16) (x / 16)).map (oth Z l (x / 16) (x % 16))) none
noncomputable def cB (x : Nat) : Option Nat := @ite _ (hi Z l (x / 16) ∧ ¬ hi Z l (x % 16)) (Classical.propDecidable _) ((rr X Y n (x / 16) (x % 16)).map (oth Z l (x / 16) (x % 16))) none
def cS (x : Nat) : Prop := (hi Z l (x / 16) ∧ ¬ hi Z l (x % 16)) ∧ ((∃ r, rr X Y n (x / 16) (x % 16) = some r) ∨ ∃ r, rr X Y n (x % 16) (x / 16) = some r)
end
section
variable {X Y Z : Nat → Int} {n : Nat} {l : Int}
theorem cN_eq {x : Nat} (h : hi Z l (x / 16) ∧ ¬ hi Z l (x % 16)) : cN X Y Z n l x = (rr X Y n (x % 16) (x / 16)).map (oth Z l (x / 16) (x % 16)) := @if_pos _ (Classical.propDecidable _) h _ _ _
theorem cB_eq {x : Nat} (h : hi Z l (x / 16) ∧ ¬ hi Z l (x % 16)) : cB X Y Z n l x = (rr X Y n (x / 16) (x % 16)).map (oth Z l (x / 16) (x % 16)) := @if_pos _ (Classical.propDecidable _) h _ _ _
theorem cN_p {x y : Nat} (h : cN X Y Z n l x = some y) : (hi Z l (x / 16) ∧ ¬ hi Z l (x % 16)) ∧ ∃ r, rr X Y n (x % 16) (x / 16) = some r ∧ y = oth Z l (x / 16) (x % 16) r := by
  by_cases q : hi Z l (x / 16) ∧ ¬ hi Z l (x % 16)
  · rw [cN_eq q] at h
    obtain ⟨r, h1, h2⟩ := Option.map_eq_some_iff.mp h
    exact ⟨q, r, h1, h2.symm⟩
  · have : cN X Y Z n l x = none := @if_neg _ (Classical.propDecidable _) q _ _ _
    rw [this] at h; cases h
theorem cB_p {x y : Nat} (h : cB X Y Z n l x = some y) : (hi Z l (x / 16) ∧ ¬ hi Z l (x % 16)) ∧ ∃ r, rr X Y n (x / 16) (x % 16) = some r ∧ y = oth Z l (x / 16) (x % 16) r := by
  by_cases q : hi Z l (x / 16) ∧ ¬ hi Z l (x % 16)
  · rw [cB_eq q] at h
    obtain ⟨r, h1, h2⟩ := Option.map_eq_some_iff.mp h
    exact ⟨q, r, h1, h2.symm⟩
  · have : cB X Y Z n l x = none := @if_neg _ (Classical.propDecidable _) q _ _ _
    rw [this] at h; cases h
theorem cNB (ho : ge_ok X Y n) {x y : Nat} (h : cN X Y Z n l x = some y) : cB X Y Z n l y = some x := by
  have n16 := ho.1
  obtain ⟨⟨q1, q2⟩, r, r1, rfl⟩ := cN_p h
  obtain ⟨b1, b2, b3⟩ := rr_lt r1
  have e : 16 * (x / 16) + x % 16 = x := by omega
  by_cases k : hi Z l r
  · rw [oth_h k]
    have d1 : (16 * r + x % 16) / 16 = r := by omega
    have d2 : (16 * r + x % 16) % 16 = x % 16 := by omega
    rw [cB_eq (by rw [d1, d2]; exact ⟨k, q2⟩), d1, d2, rr_rot (rr_rot r1), Option.map_some, oth_h q1, e]
  · rw [oth_l k]
    have d1 : (16 * (x / 16) + r) / 16 = x / 16 := by omega
    have d2 : (16 * (x / 16) + r) % 16 = r := by omega
    rw [cB_eq (by rw [d1, d2]; exact ⟨q1, k⟩), d1, d2, rr_rot r1, Option.map_some, oth_l q2, e]
theorem cBN (ho : ge_ok X Y n) {x y : Nat} (h : cB X Y Z n l x = some y) : cN X Y Z n l y = some x := by
  have n16 := ho.1
  obtain ⟨⟨q1, q2⟩, r, r1, rfl⟩ := cB_p h
  obtain ⟨b1, b2, b3⟩ := rr_lt r1
  have e : 16 * (x / 16) + x % 16 = x := by omega
  by_cases k : hi Z l r
  · rw [oth_h k]
    have d1 : (16 * r + x % 16) / 16 = r := by omega
    have d2 : (16 * r + x % 16) % 16 = x % 16 := by omega
    rw [cN_eq (by rw [d1, d2]; exact ⟨k, q2⟩), d1, d2, rr_rot r1, Option.map_some, oth_h q1, e]
  · rw [oth_l k]
    have d1 : (16 * (x / 16) + r) / 16 = x / 16 := by omega
    have d2 : (16 * (x / 16) + r) % 16 = r := by omega
    rw [cN_eq (by rw [d1, d2]; exact ⟨q1, k⟩), d1, d2, rr_rot (rr_rot r1), Option.map_some, oth_l q2, e]
theorem c_inv (ho : ge_ok X Y n) : ∀ x y, cN X Y Z n l x = some y ↔ cB X Y Z n l y = some x := fun _ _ => ⟨cNB ho, cBN ho⟩
theorem cN_S (ho : ge_ok X Y n) {x y : Nat} (h : cN X Y Z n l x = some y) : cS X Y Z n l y := by
  obtain ⟨q, r, r1, -⟩ := cB_p (cNB ho h)
  exact ⟨q, Or.inl ⟨r, r1⟩⟩
theorem cB_S (ho : ge_ok X Y n) {x y : Nat} (h : cB X Y Z n l x = some y) : cS X Y Z n l y := by
  obtain ⟨q, r, r1, -⟩ := cN_p (cBN ho h)
  exact ⟨q, Or.inr ⟨r, r1⟩⟩
theorem cS_lt (ho : ge_ok X Y n) {x : Nat} (h : cS X Y Z n l x) : x < 256 ∧ x / 16 < n ∧ x % 16 < n ∧ x / 16 ≠ x % 16 := by
  have n16 := ho.1
  have ne : x / 16 ≠ x % 16 := fun e => h.1.2 (by rw [← e]; exact h.1.1)
  rcases h.2 with ⟨r, r1⟩ | ⟨r, r1⟩
  · obtain ⟨b1, b2, b3⟩ := rr_lt r1; omega
  · obtain ⟨b1, b2, b3⟩ := rr_lt r1; omega
/-- numbers of the pairs u < v -/
def px_i (u v : Nat) : Nat := v * (v - 1) / 2 + u
def px_t : List Nat := (List.range 16).flatMap (fun v => (List.range v).map (fun u => 16 * u + v))
theorem px_ok : ∀ v, v < 16 → ∀ u, u < v → px_i u v < 120 ∧ px_t[px_i u v]? = some (16 * u + v) := by decide +kernel
/-- the edge of a crossing: the lesser spot first -/
def ce (x : Nat) : Nat := if x / 16 < x % 16 then 16 * (x / 16) + x % 16 else 16 * (x % 16) + x / 16
def cx (x : Nat) : Nat := if x / 16 < x % 16 then px_i (x / 16) (x % 16) else px_i (x % 16) (x / 16)
theorem cx_lt (ho : ge_ok X Y n) {x : Nat} (h : cS X Y Z n l x) : cx x < 120 := by
  obtain ⟨b1, b2, b3, b4⟩ := cS_lt ho h
  have n16 := ho.1
  unfold cx
  split
  · exact (px_ok _ (by omega) _ (by omega)).1
  · exact (px_ok _ (by omega) _ (by omega)).1
theorem cx_ce (ho : ge_ok X Y n) {x : Nat} (h : cS X Y Z n l x) : px_t[cx x]? = some (ce x) := by
  obtain ⟨b1, b2, b3, b4⟩ := cS_lt ho h
  have n16 := ho.1
  unfold cx ce
  split
  · exact (px_ok _ (by omega) _ (by omega)).2
  · exact (px_ok _ (by omega) _ (by omega)).2
theorem ce_inj (ho : ge_ok X Y n) {x y : Nat} (h : cS X Y Z n l x) (h' : cS X Y Z n l y) (e : ce x = ce y) : x = y := by
  obtain ⟨b1, b2, b3, b4⟩ := cS_lt ho h
  obtain ⟨d1, d2, d3, d4⟩ := cS_lt ho h'
  have n16 := ho.1
  unfold ce at e
  by_cases p : x / 16 < x % 16 <;> by_cases q : y / 16 < y % 16 <;> simp only [p, q, if_true, if_false] at e
  · omega
  · exfalso
    have e1 : x / 16 = y % 16 := by omega
    exact h'.1.2 (by rw [← e1]; exact h.1.1)
  · exfalso
    have e1 : x / 16 = y % 16 := by omega
    exact h'.1.2 (by rw [← e1]; exact h.1.1)
  · omega
theorem cx_inj (ho : ge_ok X Y n) {x y : Nat} (h : cS X Y Z n l x) (h' : cS X Y Z n l y) (e : cx x = cx y) : x = y := by
  have a := cx_ce ho h
  rw [e, cx_ce ho h'] at a
  exact ce_inj ho h h' (Option.some.inj a).symm
theorem cN_is (ho : ge_ok X Y n) {x : Nat} (h : cS X Y Z n l x) : ∃ k, k < 120 ∧ cr_is (cN X Y Z n l) x k :=
  cr_ex (cr_injN (c_inv ho)) (fun _ _ q => cN_S ho q) (ix := cx) (fun _ q => cx_lt ho q) (fun _ _ q q' => cx_inj ho q q') h
theorem cB_is (ho : ge_ok X Y n) {x : Nat} (h : cS X Y Z n l x) : ∃ k, k < 120 ∧ cr_is (cB X Y Z n l) x k :=
  cr_ex (cr_injB (c_inv ho)) (fun _ _ q => cB_S ho q) (ix := cx) (fun _ q => cx_lt ho q) (fun _ _ q q' => cx_inj ho q q') h
end
/-! the contour of a crossing -/
section
variable (X Y Z : Nat → Int) (n : Nat) (l : Int)
noncomputable def bg (x : Nat) : Nat := Classical.epsilon (fun f => cr_beg (cB X Y Z n l) x f)
noncomputable def ln (x : Nat) : Nat := Classical.epsilon (fun m => cr_is (cN X Y Z n l) (bg X Y Z n l x) m)
/-- a list of contours: how many, where each begins, the crossings, which are rings -/
abbrev Ct : Type := Nat × (Nat → Nat) × (Nat → Nat) × (Nat → Prop)
noncomputable def ct_add (s : Ct) (x : Nat) : Ct := (s.1 + 1, fun k => if k = s.1 + 1 then s.2.1 s.1 + (ln X Y Z n l x + 1) else s.2.1 k,
  fun i => if i < s.2.1 s.1 then s.2.2.1 i else (cr_w (cN X Y Z n l) (i - s.2.1 s.1) (bg X Y Z n l x)).getD 0, fun k => if k = s.1 then cB X Y Z n l (bg X Y Z n l x) ≠ none else s.2.2.2 k)
def ct_T (s : Ct) (x : Nat) : Prop := ∃ i, i < s.2.1 s.1 ∧ s.2.2.1 i = x
/-- the crossing of an edge, as the class has it -/
noncomputable def hc (e : Nat) : Nat := @ite _ (hi Z l (e / 16)) (Classical.propDecidable _) e (16 * (e % 16) + e / 16)
noncomputable def ct : Nat → Ct
  | 0 => (0, fun _ => 0, fun _ => 0, fun _ => False)
  | e + 1 => @ite _ (e / 16 < e % 16 ∧ cS X Y Z n l (hc Z l e) ∧ ¬ ct_T (ct e) (hc Z l e)) (Classical.propDecidable _) (ct_add X Y Z n l (ct e) (hc Z l e)) (ct e)
end
section
variable {X Y Z : Nat → Int} {n : Nat} {l : Int}
theorem bg_ok (ho : ge_ok X Y n) {x : Nat} (h : cS X Y Z n l x) : cr_beg (cB X Y Z n l) x (bg X Y Z n l x) := by
  obtain ⟨k, -, hk⟩ := cB_is ho h
  exact Classical.epsilon_spec (cr_beg_ex hk)
theorem cr_w_S {F : Nat → Option Nat} {S : Nat → Prop} (hF : ∀ a b, F a = some b → S b) : ∀ (i : Nat) {x y : Nat}, S x → cr_w F i x = some y → S y := by
  intro i
  induction i with
  | zero => intro x y h e; cases e; exact h
  | succ i ih => intro x y h e; obtain ⟨z, z1, z2⟩ := cr_w_p e; exact hF _ _ z2
theorem bg_S (ho : ge_ok X Y n) {x : Nat} (h : cS X Y Z n l x) : cS X Y Z n l (bg X Y Z n l x) := by
  obtain ⟨k, -, k2⟩ := bg_ok ho h
  rcases k2 with ⟨y, y1, -, e⟩ | ⟨y, y1, -, e⟩
  · rw [e]; exact cr_w_S (fun _ _ q => cB_S ho q) k h y1
  · rw [e]; exact h
theorem ln_ok (ho : ge_ok X Y n) {x : Nat} (h : cS X Y Z n l x) : cr_is (cN X Y Z n l) (bg X Y Z n l x) (ln X Y Z n l x) := by
  obtain ⟨k, -, hk⟩ := cN_is ho (bg_S ho h)
  exact Classical.epsilon_spec (p := fun m => cr_is (cN X Y Z n l) (bg X Y Z n l x) m) ⟨k, hk⟩
/-- what holds of the list as it grows -/
def ct_ok (X Y Z : Nat → Int) (n : Nat) (l : Int) (s : Ct) : Prop := s.2.1 0 = 0 ∧
  (∀ k, k < s.1 → ∃ m, cr_is (cN X Y Z n l) (s.2.2.1 (s.2.1 k)) m ∧ s.2.1 (k + 1) = s.2.1 k + (m + 1) ∧ (∀ j, j ≤ m → cr_w (cN X Y Z n l) j (s.2.2.1 (s.2.1 k)) = some (s.2.2.1 (s.2.1 k + j))) ∧ (s.2.2.2 k ↔ cB X Y Z n l (s.2.2.1 (s.2.1 k)) ≠ none)) ∧
  (∀ i j, i < j → j < s.2.1 s.1 → s.2.2.1 i ≠ s.2.2.1 j) ∧ (∀ i, i < s.2.1 s.1 → cS X Y Z n l (s.2.2.1 i)) ∧ cr_cl (cN X Y Z n l) (ct_T s)
theorem ct_mono {s : Ct} (h : ct_ok X Y Z n l s) : ∀ (d k : Nat), k + d ≤ s.1 → s.2.1 k + d ≤ s.2.1 (k + d) := by
  intro d
  induction d with
  | zero => intro k _; exact Nat.le_refl _
  | succ d ih =>
    intro k hk
    have a := ih k (by omega)
    obtain ⟨m, -, e, -⟩ := h.2.1 (k + d) (by omega)
    rw [show k + (d + 1) = (k + d) + 1 by omega, e]
    omega
theorem ct_le {s : Ct} (h : ct_ok X Y Z n l s) {k k' : Nat} (hk : k ≤ k') (hk' : k' ≤ s.1) : s.2.1 k ≤ s.2.1 k' := by
  have := ct_mono h (k' - k) k (by omega)
  rw [show k + (k' - k) = k' by omega] at this
  omega
theorem ct_120 (ho : ge_ok X Y n) {s : Ct} (h : ct_ok X Y Z n l s) : s.2.1 s.1 ≤ 120 ∧ s.1 ≤ s.2.1 s.1 := by
  constructor
  · exact cr_php 120 _ (fun i => cx (s.2.2.1 i)) (fun i hi => cx_lt ho (h.2.2.2.1 i hi)) (fun i j hij hj e => h.2.2.1 i j hij hj (cx_inj ho (h.2.2.2.1 i (by omega)) (h.2.2.2.1 j hj) e))
  · have := ct_mono h s.1 0 (by omega)
    rw [Nat.zero_add] at this
    omega
theorem ct_add_ok (ho : ge_ok X Y n) {s : Ct} {x : Nat} (h : ct_ok X Y Z n l s) (hx : cS X Y Z n l x) (nt : ¬ ct_T s x) : ct_ok X Y Z n l (ct_add X Y Z n l s x) ∧ ∀ z, ct_T (ct_add X Y Z n l s x) z ↔ (ct_T s z ∨ ∃ j, j ≤ ln X Y Z n l x ∧ cr_w (cN X Y Z n l) j (bg X Y Z n l x) = some z) := by
  obtain ⟨c, O, F, G⟩ := s
  obtain ⟨h1, h2, h3, h4, h5⟩ := id h
  have hb := bg_ok ho hx
  have hl := ln_ok ho hx
  have hm := fun k (hk : k ≤ c) => ct_le h hk (Nat.le_refl c)
  try dsimp only at h1 h2 h3 h4 h5 hm
  have out : ¬ ct_T (c, O, F, G) (bg X Y Z n l x) := cr_beg_out (c_inv ho) h5 nt hb
  -- the walk, place by place
  have wk : ∀ j, j ≤ ln X Y Z n l x → ∃ y, cr_w (cN X Y Z n l) j (bg X Y Z n l x) = some y := fun j hj => by
    obtain ⟨⟨y, y1, -⟩, -⟩ := hl
    have : ln X Y Z n l x = j + (ln X Y Z n l x - j) := by omega
    rw [this] at y1
    exact cr_w_le _ _ y1
  generalize hm9 : ln X Y Z n l x = m at *
  generalize hf9 : bg X Y Z n l x = f at *
  have eO : ∀ k, k ≤ c → (ct_add X Y Z n l (c, O, F, G) x).2.1 k = O k := fun k hk => if_neg (by omega)
  have eO1 : (ct_add X Y Z n l (c, O, F, G) x).2.1 (c + 1) = O c + (m + 1) := by rw [← hm9]; exact if_pos rfl
  have eF : ∀ i, i < O c → (ct_add X Y Z n l (c, O, F, G) x).2.2.1 i = F i := fun i hi => if_pos hi
  have eF1 : ∀ j y, cr_w (cN X Y Z n l) j f = some y → (ct_add X Y Z n l (c, O, F, G) x).2.2.1 (O c + j) = y := fun j y e => by
    have : (ct_add X Y Z n l (c, O, F, G) x).2.2.1 (O c + j) = (cr_w (cN X Y Z n l) ((O c + j) - O c) (bg X Y Z n l x)).getD 0 := if_neg (show ¬ (O c + j < O c) by omega)
    rw [this, hf9, Nat.add_sub_cancel_left, e]; rfl
  have e1 : (ct_add X Y Z n l (c, O, F, G) x).1 = c + 1 := rfl
  have eT : ∀ z, ct_T (ct_add X Y Z n l (c, O, F, G) x) z ↔ (ct_T (c, O, F, G) z ∨ ∃ j, j ≤ m ∧ cr_w (cN X Y Z n l) j f = some z) := fun z => by
    unfold ct_T
    rw [e1, eO1]
    constructor
    · rintro ⟨i, i1, i2⟩
      rcases Nat.lt_or_ge i (O c) with q | q
      · rw [eF i q] at i2; exact Or.inl ⟨i, q, i2⟩
      · obtain ⟨j, rfl⟩ : ∃ j, i = O c + j := ⟨i - O c, by omega⟩
        obtain ⟨y, hy⟩ := wk j (by omega)
        rw [eF1 j y hy] at i2
        exact Or.inr ⟨j, by omega, by rw [hy, i2]⟩
    · rintro (⟨i, i1, i2⟩ | ⟨j, j1, j2⟩)
      · exact ⟨i, by dsimp only at i1; omega, by rw [eF i i1]; exact i2⟩
      · exact ⟨O c + j, by omega, eF1 j z j2⟩
  have outw : ∀ j y, cr_w (cN X Y Z n l) j f = some y → ¬ ct_T (c, O, F, G) y := fun j y e q => out ((cr_cl_w h5 j e).mpr q)
  refine ⟨⟨?_, fun k hk => ?_, fun i j hij hj => ?_, fun i hi => ?_, ?_⟩, eT⟩
  · rw [eO 0 (by omega)]; exact h1
  · rw [e1] at hk
    by_cases e : k = c
    · subst e
      refine ⟨m, ?_⟩
      have e0 : (ct_add X Y Z n l (k, O, F, G) x).2.2.1 (O k) = f := by have := eF1 0 f rfl; rw [Nat.add_zero] at this; exact this
      rw [eO k (Nat.le_refl _), eO1, e0]
      refine ⟨hl, rfl, fun j hj => ?_, ?_⟩
      · obtain ⟨y, hy⟩ := wk j hj
        rw [eF1 j y hy]; exact hy
      · have : (ct_add X Y Z n l (k, O, F, G) x).2.2.2 k = (cB X Y Z n l (bg X Y Z n l x) ≠ none) := if_pos rfl
        rw [this, hf9]
    · have hk' : k < c := by omega
      obtain ⟨m', a1, a2, a3, a4⟩ := h2 k hk'
      have b1 := hm (k + 1) (by omega)
      refine ⟨m', ?_⟩
      rw [eO k (by omega), eO (k + 1) (by omega), eF (O k) (by omega)]
      refine ⟨a1, a2, fun j hj => ?_, ?_⟩
      · rw [eF (O k + j) (by omega)]; exact a3 j hj
      · have : (ct_add X Y Z n l (c, O, F, G) x).2.2.2 k = G k := if_neg e
        rw [this]; exact a4
  · rw [e1, eO1] at hj
    rcases Nat.lt_or_ge j (O c) with q | q
    · rw [eF i (by omega), eF j q]; exact h3 i j hij q
    · obtain ⟨j', rfl⟩ : ∃ j', j = O c + j' := ⟨j - O c, by omega⟩
      obtain ⟨y, hy⟩ := wk j' (by omega)
      rw [eF1 j' y hy]
      rcases Nat.lt_or_ge i (O c) with q' | q'
      · rw [eF i q']
        intro e
        exact outw j' y hy ⟨i, q', e⟩
      · obtain ⟨i', rfl⟩ : ∃ i', i = O c + i' := ⟨i - O c, by omega⟩
        obtain ⟨y', hy'⟩ := wk i' (by omega)
        rw [eF1 i' y' hy']
        intro e
        subst e
        exact cr_new (cr_injN (c_inv ho)) hl.2 (show i' < j' by omega) (by omega) hy' hy
  · rw [e1, eO1] at hi
    rcases Nat.lt_or_ge i (O c) with q | q
    · rw [eF i q]; exact h4 i q
    · obtain ⟨j, rfl⟩ : ∃ j, i = O c + j := ⟨i - O c, by omega⟩
      obtain ⟨y, hy⟩ := wk j (by omega)
      rw [eF1 j y hy]
      exact cr_w_S (fun _ _ q => cN_S ho q) j (by rw [← hf9]; exact bg_S ho hx) hy
  · have := cr_cl_add (c_inv ho) h5 hb hl
    intro a b e
    rw [eT a, eT b]
    exact this a b e
theorem ct_all (ho : ge_ok X Y n) : ∀ e, ct_ok X Y Z n l (ct X Y Z n l e) := by
  intro e
  induction e with
  | zero => exact ⟨rfl, fun k hk => absurd hk (Nat.not_lt_zero _), fun i j _ hj => absurd hj (Nat.not_lt_zero _), fun i hi => absurd hi (Nat.not_lt_zero _), fun x y _ => ⟨fun ⟨i, i1, _⟩ => absurd i1 (Nat.not_lt_zero _), fun ⟨i, i1, _⟩ => absurd i1 (Nat.not_lt_zero _)⟩⟩
  | succ e ih =>
    by_cases q : e / 16 < e % 16 ∧ cS X Y Z n l (hc Z l e) ∧ ¬ ct_T (ct X Y Z n l e) (hc Z l e)
    · have : ct X Y Z n l (e + 1) = ct_add X Y Z n l (ct X Y Z n l e) (hc Z l e) := @if_pos _ (Classical.propDecidable _) q _ _ _
      rw [this]
      exact (ct_add_ok ho ih q.2.1 q.2.2).1
    · have : ct X Y Z n l (e + 1) = ct X Y Z n l e := @if_neg _ (Classical.propDecidable _) q _ _ _
      rw [this]; exact ih
theorem ct_s1 {e : Nat} (q : e / 16 < e % 16 ∧ cS X Y Z n l (hc Z l e) ∧ ¬ ct_T (ct X Y Z n l e) (hc Z l e)) : ct X Y Z n l (e + 1) = ct_add X Y Z n l (ct X Y Z n l e) (hc Z l e) := @if_pos _ (Classical.propDecidable _) q _ _ _
theorem ct_s0 {e : Nat} (q : ¬ (e / 16 < e % 16 ∧ cS X Y Z n l (hc Z l e) ∧ ¬ ct_T (ct X Y Z n l e) (hc Z l e))) : ct X Y Z n l (e + 1) = ct X Y Z n l e := @if_neg _ (Classical.propDecidable _) q _ _ _
theorem ct_sk {e : Nat} : ∀ d, (∀ x, e ≤ x → x < e + d → ¬ (x / 16 < x % 16 ∧ cS X Y Z n l (hc Z l x))) → ct X Y Z n l (e + d) = ct X Y Z n l e := by
  intro d
  induction d with
  | zero => intro _; rfl
  | succ d ih =>
    intro h
    show ct X Y Z n l ((e + d) + 1) = _
    rw [ct_s0 (fun q => h (e + d) (by omega) (by omega) ⟨q.1, q.2.1⟩)]
    exact ih (fun x h1 h2 => h x h1 (by omega))
theorem ct_skip {e e' : Nat} (he : e ≤ e') (h : ∀ x, e ≤ x → x < e' → ¬ (x / 16 < x % 16 ∧ cS X Y Z n l (hc Z l x))) : ct X Y Z n l e' = ct X Y Z n l e := by
  obtain ⟨d, rfl⟩ : ∃ d, e' = e + d := ⟨e' - e, by omega⟩
  exact ct_sk d h
end
end
section
/-! The class traces a level. -/
def on (o : Option Nat) : Int32 := match o with
  | none => -1
  | some y => nI y
theorem on_m1 {o : Option Nat} (h : ∀ y, o = some y → y < 1000) : on o = -1 ↔ o = none := by
  cases o with
  | none => exact ⟨fun _ => rfl, fun _ => rfl⟩
  | some y =>
    refine ⟨fun e => ?_, fun e => by cases e⟩
    have hy := h y rfl
    have e : nI y = -1 := e
    have : (nI y).toInt = (-1 : Int32).toInt := by rw [e]
    rw [nI_toInt (by omega)] at this
    have h2 : (-1 : Int32).toInt = -1 := by decide
    rw [h2] at this
    omega
theorem srt {p q r : Nat} (h1 : p ≠ q) (h2 : p ≠ r) (h3 : q ≠ r) : ∃ a b c, a < b ∧ b < c ∧ ge_pm a b c p q r ∧ ge_pm p q r a b c := by
  unfold ge_pm
  rcases Nat.lt_or_gt_of_ne h1 with l1 | l1 <;> rcases Nat.lt_or_gt_of_ne h2 with l2 | l2 <;> rcases Nat.lt_or_gt_of_ne h3 with l3 | l3
  · exact ⟨p, q, r, l1, l3, by simp, by simp⟩
  · exact ⟨p, r, q, l2, l3, by simp, by simp⟩
  · omega
  · exact ⟨r, p, q, l2, l1, by simp, by simp⟩
  · exact ⟨q, p, r, l1, l2, by simp, by simp⟩
  · omega
  · exact ⟨q, r, p, l3, l2, by simp, by simp⟩
  · exact ⟨r, q, p, l3, l1, by simp, by simp⟩
theorem rt_R {X Y : Nat → Int} {n : Nat} (ho : ge_ok X Y n) {p q r : Nat} : rt X Y (tl X Y n 4096) p q r ↔ ge_R X Y n p q r := by
  constructor
  · intro h; exact ⟨rt_T ho h, h.1⟩
  · rintro ⟨t, s⟩
    have n16 := ho.1
    obtain ⟨e1, e2, e3⟩ := ge_t_ne t.2.2.2.1
    obtain ⟨a, b, c, h1, h2, h3, h4⟩ := srt e1 e2 e3
    have T := ge_pm_T t h4
    have tr := ge_tri_of ho T h1 h2
    have := tr.2.2.1
    have k1 : (256 * a + 16 * b + c) / 256 = a := by omega
    have k2 : (256 * a + 16 * b + c) / 16 % 16 = b := by omega
    have k3 : (256 * a + 16 * b + c) % 16 = c := by omega
    exact ⟨s, 256 * a + 16 * b + c, tl_mem.mpr ⟨by omega, by rw [k1, k2, k3]; exact tr⟩, by rw [k1, k2, k3]; exact h3⟩
theorem mC_rr {X Y : Nat → Int} {n : Nat} {g : St} (ho : ge_ok X Y n) (h : mC X Y (tl X Y n 4096) g) {p q : Nat} (hp : p < 16) (hq : q < 16) : g 9 (16 * p + q) = on (rr X Y n p q) := by
  cases e : rr X Y n p q with
  | none => exact h.2.2.2 p q hp hq (fun r k => rr_none.mp e r ((rt_R ho).mp k))
  | some r => exact h.2.2.1 p q r ((rt_R ho).mpr (rr_some.mp e))
/-- high and low, as the class holds them -/
def hC (Z : Nat → Int) (n : Nat) (l : Int) (g : St) : Prop := ∀ s, s < n → (hi Z l s → g 10 s = 1) ∧ (¬ hi Z l s → g 10 s = 0)
def lC (s : Ct) (g : St) : Prop := g 3 5 = nI s.1 ∧ (∀ k, k ≤ s.1 → g 12 k = nI (s.2.1 k)) ∧ (∀ i, i < s.2.1 s.1 → g 11 i = nI (s.2.2.1 i)) ∧ (∀ k, k < s.1 → (s.2.2.2 k → g 13 k = 1) ∧ (¬ s.2.2.2 k → g 13 k = 0)) ∧
  ∀ x, x < 256 → (ct_T s x → g 14 x = 1) ∧ (¬ ct_T s x → g 14 x = 0)
theorem pk_16d {x : Nat} (h : x < 1000) : nI x / 16 = nI (x / 16) := by
  rw [show (16 : Int32) = nI 16 from rfl, pk_div (by omega) (by omega) (by omega)]
theorem pk_16r {x : Nat} (h : x < 1000) : nI x - nI x / 16 * 16 = nI (x % 16) := by
  rw [show (16 : Int32) = nI 16 from rfl, pk_rem (by omega) (by omega) (by omega)]
section
variable {g : St} {n : Nat} {X Y Z : Nat → Int} {l : Int}
theorem li_other {h w : Nat} {o : Option Nat} {post : Int32 → St → Prop} (ho : ge_ok X Y n) (hH : hC Z n l g) (hh : h < 16) (hw : w < 16) (hr : ∀ r, o = some r → r < n) (hp : post (on (o.map (oth Z l h w))) g) : wp_li_otherPair (nI h) (nI w) (on o) g post := by
  have n16 := ho.1
  unfold wp_li_otherPair
  try dsimp only
  have z := on_m1 (o := o) (fun y hy => by have := hr y hy; omega)
  cases o with
  | none => exact ⟨fun k => absurd rfl k, fun _ => hp⟩
  | some r =>
    have rn := hr r rfl
    refine ⟨fun _ => ⟨vp_in_nI (by omega) (by omega), ?_⟩, fun k => by have := z.mp k; cases this⟩
    show ((g 10 (ix (nI r))) = 0 → _) ∧ (¬ ((g 10 (ix (nI r))) = 0) → _)
    rw [ix_nI (by omega)]
    by_cases q : hi Z l r
    · have e := (hH r rn).1 q
      rw [e]
      refine ⟨fun k => absurd k (by decide), fun _ => ?_⟩
      show post (16 * nI r + nI w) g
      rw [pk16, ← oth_h q]; exact hp
    · have e := (hH r rn).2 q
      rw [e]
      refine ⟨fun _ => ?_, fun k => absurd rfl k⟩
      show post (16 * nI h + nI r) g
      rw [pk16, ← oth_l q]; exact hp
theorem li_behind {x : Nat} {post : Int32 → St → Prop} (ho : ge_ok X Y n) (hM : mC X Y (tl X Y n 4096) g) (hH : hC Z n l g) (hx : cS X Y Z n l x) (hp : post (on (cN X Y Z n l x)) g) : wp_li_behind (nI x) g post := by
  obtain ⟨x1, x2, x3, -⟩ := cS_lt ho hx
  have n16 := ho.1
  unfold wp_li_behind wp_sc_highOf wp_sc_lowOf wp_me_thirdRightOf
  try dsimp only
  rw [pk_16r (by omega), pk_16d (by omega), pk16, ix_nI (by omega), mC_rr ho hM (by omega) (by omega)]
  refine ⟨vp_in_nI (by omega) (by omega), ?_⟩
  rw [cN_eq hx.1] at hp
  exact li_other ho hH (by omega) (by omega) (fun r hr => (rr_lt hr).2.2) hp
theorem li_before {x : Nat} {post : Int32 → St → Prop} (ho : ge_ok X Y n) (hM : mC X Y (tl X Y n 4096) g) (hH : hC Z n l g) (hx : cS X Y Z n l x) (hp : post (on (cB X Y Z n l x)) g) : wp_li_before (nI x) g post := by
  obtain ⟨x1, x2, x3, -⟩ := cS_lt ho hx
  have n16 := ho.1
  unfold wp_li_before wp_sc_highOf wp_sc_lowOf wp_me_thirdRightOf
  try dsimp only
  rw [pk_16r (by omega), pk_16d (by omega), pk16, ix_nI (by omega), mC_rr ho hM (by omega) (by omega)]
  refine ⟨vp_in_nI (by omega) (by omega), ?_⟩
  rw [cB_eq hx.1] at hp
  exact li_other ho hH (by omega) (by omega) (fun r hr => (rr_lt hr).2.2) hp
theorem li_begin {x : Nat} {post : Int32 → St → Prop} (ho : ge_ok X Y n) (hM : mC X Y (tl X Y n 4096) g) (hH : hC Z n l g) (hx : cS X Y Z n l x) (hp : post (nI (bg X Y Z n l x)) g) : wp_li_beginning (nI x) g post := by
  obtain ⟨k, k120, hk⟩ := cB_is ho hx
  have hb := bg_ok ho hx
  have x1 := (cS_lt ho hx).1
  unfold wp_li_beginning
  try dsimp only
  have loop : ∀ m i y, i + m = k → cr_w (cB X Y Z n l) i x = some y → lp_li_beginning_L5 (m + 1) (nI x) (nI y) (nI i) g (fun w4 g3 => (post w4 g3)) post := by
    intro m
    induction m with
    | zero =>
      intro i y hi hy
      have : i = k := by omega
      subst this
      have ys : cS X Y Z n l y := cr_w_S (fun _ _ q => cB_S ho q) i hx hy
      have y1 := (cS_lt ho ys).1
      unfold lp_li_beginning_L5
      try dsimp only
      refine ⟨fun q => ?_, fun _ => ?_⟩
      · rw [show (120 : Int32) = nI 120 from rfl, nI_leI (by omega) (by omega)] at q; omega
      · refine li_before ho hM hH ys ?_
        obtain ⟨⟨y', e1, e2⟩, -⟩ := id hk
        rw [hy] at e1
        cases e1
        rcases e2 with e2 | e2
        · rw [e2]
          have : bg X Y Z n l x = y := cr_beg_u hb ⟨i, hk, Or.inl ⟨y, hy, e2, rfl⟩⟩
          rw [this] at hp
          exact ⟨fun q => absurd rfl q, fun _ => hp⟩
        · rw [e2]
          have : bg X Y Z n l x = x := cr_beg_u hb ⟨i, hk, Or.inr ⟨y, hy, e2, rfl⟩⟩
          rw [this] at hp
          refine ⟨fun _ => ⟨fun q => absurd rfl q, fun _ => hp⟩, fun q => ?_⟩
          have := (on_m1 (o := some x) (fun z hz => by cases hz; omega)).mp q
          cases this
    | succ m ih =>
      intro i y hi hy
      have ys : cS X Y Z n l y := cr_w_S (fun _ _ q => cB_S ho q) i hx hy
      have y1 := (cS_lt ho ys).1
      unfold lp_li_beginning_L5
      try dsimp only
      refine ⟨fun q => ?_, fun _ => ?_⟩
      · rw [show (120 : Int32) = nI 120 from rfl, nI_leI (by omega) (by omega)] at q; omega
      · refine li_before ho hM hH ys ?_
        obtain ⟨⟨ye, e1, -⟩, nb⟩ := id hk
        rw [show k = (i + 1) + m by omega] at e1
        obtain ⟨z, hz⟩ := cr_w_le _ _ e1
        have hz' : cB X Y Z n l y = some z := by rw [cr_w_s hy] at hz; exact hz
        have zs := cB_S ho hz'
        have z1 := (cS_lt ho zs).1
        rw [hz']
        refine ⟨fun _ => ⟨fun _ => ?_, fun q => ?_⟩, fun q => ?_⟩
        · rw [nI_1]; exact ih (i + 1) z (by omega) hz
        · have : z = x := (nI_eq (by omega) (by omega)).mp q
          rw [this] at hz
          exact absurd hz (nb (i + 1) (by omega) (by omega))
        · have := (on_m1 (o := some z) (fun w hw => by cases hw; omega)).mp q
          cases this
  exact ⟨k + 1, loop k 0 x (by omega) rfl⟩
/-- one contour more, or none if it is there already -/
theorem li_from {s : Ct} {x : Nat} {post : St → Prop} (ho : ge_ok X Y n) (hM : mC X Y (tl X Y n 4096) g) (hH : hC Z n l g) (hs : ct_ok X Y Z n l s) (hl : lC s g) (hx : cS X Y Z n l x)
    (h1 : ct_T s x → post g) (h2 : ¬ ct_T s x → ∀ g', lC (ct_add X Y Z n l s x) g' → fr [3, 11, 12, 13, 14] g g' → post g') : wp_li_traceFrom (nI x) g post := by
  have x1 := (cS_lt ho hx).1
  obtain ⟨c1, c2⟩ := ct_120 ho hs
  obtain ⟨q1, q2, q3, q4, q5⟩ := id hl
  unfold wp_li_traceFrom
  try dsimp only
  rw [ix_nI (by omega)]
  refine ⟨vp_in_nI (by omega) (by omega), fun k => ?_, fun k => ?_⟩
  · exact h1 (Classical.byContradiction fun nt => k ((q5 x x1).2 nt))
  · have nt : ¬ ct_T s x := fun t => by rw [(q5 x x1).1 t] at k; exact absurd k (by decide)
    obtain ⟨aok, aT⟩ := ct_add_ok ho hs hx nt
    obtain ⟨a1, a2⟩ := ct_120 ho aok
    obtain ⟨c, O, F, G⟩ := s
    have e1 : (ct_add X Y Z n l (c, O, F, G) x).1 = c + 1 := rfl
    have eO1 : (ct_add X Y Z n l (c, O, F, G) x).2.1 (c + 1) = O c + (ln X Y Z n l x + 1) := if_pos rfl
    rw [e1, eO1] at a1 a2
    try dsimp only at q1 q2 q3 q4 q5 c1 c2
    have hb := bg_ok ho hx
    have hm := ln_ok ho hx
    have fS := bg_S ho hx
    have f1 := (cS_lt ho fS).1
    have out : ¬ ct_T (c, O, F, G) (bg X Y Z n l x) := cr_beg_out (c_inv ho) hs.2.2.2.2 nt hb
    generalize hm9 : ln X Y Z n l x = m at *
    generalize hf9 : bg X Y Z n l x = f at *
    have outw : ∀ j y, cr_w (cN X Y Z n l) j f = some y → ¬ ct_T (c, O, F, G) y := fun j y e q => out ((cr_cl_w hs.2.2.2.2 j e).mpr q)
    rw [q1]
    have c120 : nI c < 120 := by rw [show (120 : Int32) = nI 120 from rfl, nI_ltI (by omega) (by omega)]; omega
    refine ⟨fun _ => ?_, fun k => absurd c120 k⟩
    refine li_begin ho hM hH hx ?_
    rw [hf9]
    refine li_before ho hM hH fS ?_
    -- behind the ring's flag
    have J : ∀ b : Int32, ((b = 1 ∧ cB X Y Z n l f ≠ none) ∨ (b = 0 ∧ cB X Y Z n l f = none)) → jn_li_traceFrom_J49 (nI f) (nI c) b g post := by
      intro b hbb
      unfold jn_li_traceFrom_J49
      try dsimp only
      rw [ix_nI (by omega)]
      refine ⟨vp_in_nI (by omega) (by omega), fun g5 e5 => ?_⟩
      have vb : vp_nar .boolean b = b := by rcases hbb with ⟨rfl, -⟩ | ⟨rfl, -⟩; exact vn_1; exact vn_0
      rw [vb] at e5
      have g5c : g5 3 5 = nI c := by rw [e5, gp_n (by decide)]; exact q1
      have g5O : g5 12 c = nI (O c) := by rw [e5, gp_n (by decide)]; exact q2 c (Nat.le_refl _)
      rw [g5c, ix_nI (by omega), g5O]
      refine ⟨vp_in_nI (by omega) (by omega), ?_⟩
      -- the end
      have fin : ∀ g10 : St, (∀ k, k ≠ 11 → k ≠ 14 → g10 k = g5 k) → (∀ i, i < O c → g10 11 i = g 11 i) → (∀ j y, j ≤ m → cr_w (cN X Y Z n l) j f = some y → g10 11 (O c + j) = nI y) →
          (∀ z, z < 256 → (∃ j, j ≤ m ∧ cr_w (cN X Y Z n l) j f = some z) → g10 14 z = 1) → (∀ z, z < 256 → (¬ ∃ j, j ≤ m ∧ cr_w (cN X Y Z n l) j f = some z) → g10 14 z = g 14 z) → jn_li_traceFrom_J120 (nI (O c + (m + 1))) g10 post := by
        intro g10 k1 k2 k3 k4 k5
        unfold jn_li_traceFrom_J120
        try dsimp only
        intro g12 e12
        have e123 : g12 3 5 = nI (c + 1) := by rw [e12, gp_s, k1 3 (by decide) (by decide), g5c, nI_1]
        rw [e123, ix_nI (by omega)]
        refine ⟨vp_in_nI (by omega) (by omega), fun g13 e13 => ?_⟩
        refine h2 nt g13 ⟨?_, fun k hk => ?_, fun i hi => ?_, fun k hk => ?_, fun z hz => ?_⟩ (fun k hk => ?_)
        · rw [e13, gp_n (by decide), e123]; rfl
        · rw [e1] at hk
          by_cases e : k = c + 1
          · rw [e, eO1, e13]; exact gp_s
          · have : (ct_add X Y Z n l (c, O, F, G) x).2.1 k = O k := if_neg e
            rw [this, e13, gp_o e, e12, gp_n (by decide), k1 12 (by decide) (by decide), e5, gp_n (by decide)]
            exact q2 k (by omega)
        · rw [e1, eO1] at hi
          rw [e13, gp_n (by decide), e12, gp_n (by decide)]
          rcases Nat.lt_or_ge i (O c) with q | q
          · have : (ct_add X Y Z n l (c, O, F, G) x).2.2.1 i = F i := if_pos q
            rw [this, k2 i q]; exact q3 i q
          · obtain ⟨j, rfl⟩ : ∃ j, i = O c + j := ⟨i - O c, by omega⟩
            have : (ct_add X Y Z n l (c, O, F, G) x).2.2.1 (O c + j) = (cr_w (cN X Y Z n l) ((O c + j) - O c) (bg X Y Z n l x)).getD 0 := if_neg (show ¬ (O c + j < O c) by omega)
            obtain ⟨⟨ye, y1, -⟩, -⟩ := id hm
            rw [show m = j + (m - j) by omega] at y1
            obtain ⟨y, hy⟩ := cr_w_le _ _ y1
            rw [this, hf9, Nat.add_sub_cancel_left, hy, k3 j y (by omega) hy]; rfl
        · rw [e1] at hk
          rw [e13, gp_n (by decide), e12, gp_n (by decide), k1 13 (by decide) (by decide), e5]
          by_cases e : k = c
          · have : (ct_add X Y Z n l (c, O, F, G) x).2.2.2 k = (cB X Y Z n l (bg X Y Z n l x) ≠ none) := if_pos e
            rw [this, hf9, e, gp_s]
            rcases hbb with ⟨rfl, w⟩ | ⟨rfl, w⟩
            · exact ⟨fun _ => rfl, fun u => absurd w u⟩
            · exact ⟨fun u => absurd w u, fun _ => rfl⟩
          · have : (ct_add X Y Z n l (c, O, F, G) x).2.2.2 k = G k := if_neg e
            rw [this, gp_o e]
            exact q4 k (by omega)
        · rw [aT z, e13, gp_n (by decide), e12, gp_n (by decide)]
          constructor
          · rintro (t | t)
            · by_cases w : ∃ j, j ≤ m ∧ cr_w (cN X Y Z n l) j f = some z
              · exact k4 z hz w
              · rw [k5 z hz w]; exact (q5 z hz).1 t
            · exact k4 z hz t
          · intro w
            rw [k5 z hz (fun u => w (Or.inr u))]
            exact (q5 z hz).2 (fun u => w (Or.inl u))
        · simp only [List.mem_cons, List.not_mem_nil, or_false, not_or] at hk
          rw [e13, gp_n hk.2.2.1, e12, gp_n hk.1, k1 k hk.2.1 hk.2.2.2.2, e5, gp_n hk.2.2.2.1]
      have loop : ∀ d j (g6 : St), j + d = m + 1 → (∀ k, k ≠ 11 → k ≠ 14 → g6 k = g5 k) → (∀ i, i < O c → g6 11 i = g 11 i) → (∀ j' y, j' < j → cr_w (cN X Y Z n l) j' f = some y → g6 11 (O c + j') = nI y) →
          (∀ z, z < 256 → (∃ j', j' < j ∧ cr_w (cN X Y Z n l) j' f = some z) → g6 14 z = 1) → (∀ z, z < 256 → (¬ ∃ j', j' < j ∧ cr_w (cN X Y Z n l) j' f = some z) → g6 14 z = g 14 z) →
          lp_li_traceFrom_L65 (d + 1) (on (cr_w (cN X Y Z n l) j f)) (nI (O c + j)) (nI (O c + j)) g6 (fun w11 g10 => (jn_li_traceFrom_J120 w11 g10 post)) post := by
        intro d
        induction d with
        | zero =>
          intro j g6 hj k1 k2 k3 k4 k5
          have ej : j = m + 1 := by omega
          subst ej
          have done : jn_li_traceFrom_J120 (nI (O c + (m + 1))) g6 post := fin g6 k1 k2 (fun j' y h9 => k3 j' y (by omega)) (fun z hz ⟨j', a, b⟩ => k4 z hz ⟨j', by omega, b⟩) (fun z hz w => k5 z hz (fun ⟨j', a, b⟩ => w ⟨j', by omega, b⟩))
          unfold lp_li_traceFrom_L65
          try dsimp only
          refine ⟨fun _ => done, fun _ => ⟨fun _ => done, fun u => ?_⟩⟩
          obtain ⟨⟨ye, y1, y2⟩, -⟩ := id hm
          rw [cr_w_s y1] at u ⊢
          rcases y2 with y2 | y2
          · rw [y2] at u; exact absurd rfl u
          · rw [y2]
            refine ⟨vp_in_nI (by omega) (by omega), fun _ => done, fun w => ?_⟩
            have w : g6 14 (ix (nI f)) = 0 := w
            rw [ix_nI (by omega), k4 f f1 ⟨0, by omega, rfl⟩] at w
            exact absurd w (by decide)
        | succ d ih =>
          intro j g6 hj k1 k2 k3 k4 k5
          obtain ⟨⟨ye, y1, -⟩, nb⟩ := id hm
          rw [show m = j + (m - j) by omega] at y1
          obtain ⟨y, hy⟩ := cr_w_le _ _ y1
          have ys : cS X Y Z n l y := cr_w_S (fun _ _ q => cN_S ho q) j fS hy
          have y256 := (cS_lt ho ys).1
          rw [hy]
          have free : g6 14 y = 0 := by
            rw [k5 y y256 (fun ⟨j', a, b⟩ => cr_new (cr_injN (c_inv ho)) nb a (by omega) b hy)]
            exact (q5 y y256).2 (outw j y hy)
          unfold lp_li_traceFrom_L65
          try dsimp only
          refine ⟨fun u => ?_, fun _ => ⟨fun u => ?_, fun _ => ?_⟩⟩
          · rw [show (120 : Int32) = nI 120 from rfl, nI_leI (by omega) (by omega)] at u; omega
          · have := (on_m1 (o := some y) (fun w hw => by cases hw; omega)).mp u
            cases this
          · show vp_in (nI y) 256 ∧ _
            refine ⟨vp_in_nI (by omega) (by omega), fun u => ?_, fun _ => ?_⟩
            · exact absurd (show g6 14 (ix (nI y)) = 0 by rw [ix_nI (by omega)]; exact free) u
            · rw [ix_nI (by omega)]
              refine ⟨vp_in_nI (by omega) (by omega), fun g7 e7 => ⟨vp_in_nI (by omega) (by omega), fun g8 e8 => ?_⟩⟩
              have e8 : g8 = gp g7 14 (ix (nI y)) (vp_nar .boolean 1) := e8
              rw [ix_nI (by omega), vn_1] at e8
              have e7 : g7 = gp g6 11 (O c + j) (nI y) := e7
              have u8 : ∀ k, k ≠ 11 → k ≠ 14 → g8 k = g5 k := fun k a b => by rw [e8, gp_n b, e7, gp_n a]; exact k1 k a b
              have M8 : mC X Y (tl X Y n 4096) g8 := by
                obtain ⟨m1, m2, m3, m4⟩ := hM
                have w : ∀ k, k ≠ 11 → k ≠ 14 → k ≠ 13 → g8 k = g k := fun k a b c => by rw [u8 k a b, e5, gp_n c]
                refine ⟨?_, ?_, ?_, ?_⟩
                · rw [w 2 (by decide) (by decide) (by decide)]; exact m1
                · rw [w 8 (by decide) (by decide) (by decide)]; exact m2
                · rw [w 9 (by decide) (by decide) (by decide)]; exact m3
                · rw [w 9 (by decide) (by decide) (by decide)]; exact m4
              have H8 : hC Z n l g8 := fun s hs => by rw [u8 10 (by decide) (by decide), e5, gp_n (by decide)]; exact hH s hs
              refine li_behind ho M8 H8 ys ?_
              have nx : cN X Y Z n l y = cr_w (cN X Y Z n l) (j + 1) f := (cr_w_s hy).symm
              rw [nI_1, nx, show O c + j + 1 = O c + (j + 1) by omega]
              refine ih (j + 1) g8 (by omega) u8 (fun i hi => ?_) (fun j' y' a b => ?_) (fun z hz ⟨j', a, b⟩ => ?_) (fun z hz w => ?_)
              · rw [e8, gp_n (by decide), e7, gp_o (by omega)]; exact k2 i hi
              · rw [e8, gp_n (by decide), e7]
                by_cases e : j' = j
                · rw [e] at b ⊢
                  rw [hy] at b
                  cases b
                  exact gp_s
                · rw [gp_o (by omega)]; exact k3 j' y' (by omega) b
              · rw [e8]
                by_cases e : z = y
                · rw [e]; exact gp_s
                · rw [gp_o e, e7, gp_n (by decide)]
                  refine k4 z hz ⟨j', ?_, b⟩
                  have : j' ≠ j := fun q => e (by rw [q, hy] at b; cases b; rfl)
                  omega
              · have e : z ≠ y := fun q => w ⟨j, by omega, by rw [q]; exact hy⟩
                rw [e8, gp_o e, e7, gp_n (by decide)]
                exact k5 z hz (fun ⟨j', a, b⟩ => w ⟨j', by omega, b⟩)
      refine ⟨(m + 1) + 1, ?_⟩
      have := loop (m + 1) 0 g5 (by omega) (fun _ _ _ => rfl) (fun i _ => by rw [e5, gp_n (by decide)]) (fun j' y a _ => absurd a (by omega)) (fun z _ ⟨j', a, _⟩ => absurd a (by omega)) (fun z _ _ => by rw [e5, gp_n (by decide)])
      exact this
    have z := on_m1 (o := cB X Y Z n l f) (fun y hy => by have := (cS_lt ho (cB_S ho hy)).1; omega)
    rw [q1]
    refine ⟨fun u => J 0 (Or.inr ⟨rfl, z.mp u⟩), fun u => J 1 (Or.inl ⟨rfl, fun e => u (z.mpr e)⟩)⟩
end
end
section
/-! A whole level traced by the class. -/
section
variable {g : St} {n : Nat} {X Y Z : Nat → Int} {l : Int}
theorem li_clear {post : St → Prop} (h : ∀ g', g' 3 5 = 0 → (∀ i, i < 256 → g' 14 i = 0) → fr [3, 14] g g' → post g') : wp_li_clear g post := by
  unfold wp_li_clear
  try dsimp only
  intro g1 e1
  have loop : ∀ m i (g2 : St), i + m = 256 → g2 3 5 = 0 → (∀ j, j < i → g2 14 j = 0) → fr [3, 14] g g2 → lp_li_clear_L7 (m + 1) (nI i) g2 (fun g3 => (post g3)) post := by
    intro m
    induction m with
    | zero =>
      intro i g2 hi h1 h2 h3
      unfold lp_li_clear_L7
      try dsimp only
      refine ⟨fun _ => h g2 h1 (fun j hj => h2 j (by omega)) h3, fun q => absurd ?_ q⟩
      rw [show (256 : Int32) = nI 256 from rfl, nI_leI (by omega) (by omega)]; omega
    | succ m ih =>
      intro i g2 hi h1 h2 h3
      unfold lp_li_clear_L7
      try dsimp only
      refine ⟨fun q => ?_, fun _ => ⟨vp_in_nI (by omega) (by omega), fun g4 e4 => ?_⟩⟩
      · rw [show (256 : Int32) = nI 256 from rfl, nI_leI (by omega) (by omega)] at q; omega
      · rw [ix_nI (by omega), vn_0] at e4
        rw [nI_1, e4]
        refine ih (i + 1) _ (by omega) (by rw [gp_n (by decide)]; exact h1) (fun j hj => ?_) (h3.gp (by decide))
        by_cases e : j = i
        · rw [e]; exact gp_s
        · rw [gp_o e]; exact h2 j (by omega)
  refine ⟨257, loop 256 0 g1 (by omega) (by rw [e1]; exact gp_s) (fun j hj => absurd hj (by omega)) (by rw [e1]; exact fr.rf.gp (by decide))⟩
theorem me_share {u v : Nat} {post : Int32 → St → Prop} (ho : ge_ok X Y n) (hM : mC X Y (tl X Y n 4096) g) (hu : u < 16) (hv : v < 16) (ne : u ≠ v)
    (h : post (nI ((if rr X Y n u v = none then 0 else 1) + (if rr X Y n v u = none then 0 else 1))) g) : wp_me_sharing (nI u) (nI v) g post := by
  have n16 := ho.1
  have z1 := on_m1 (o := rr X Y n u v) (fun y hy => by have := (rr_lt hy).2.2; omega)
  have z2 := on_m1 (o := rr X Y n v u) (fun y hy => by have := (rr_lt hy).2.2; omega)
  unfold wp_me_sharing
  try dsimp only
  refine ⟨fun _ => ?_, fun e => absurd ((nI_eq (by omega) (by omega)).mp e) ne⟩
  unfold wp_me_thirdRightOf
  try dsimp only
  rw [pk16, ix_nI (by omega), mC_rr ho hM hu hv]
  refine ⟨vp_in_nI (by omega) (by omega), fun k => ?_, fun k => ?_⟩ <;> (unfold jn_me_sharing_J22 wp_me_thirdRightOf; rw [pk16, ix_nI (by omega), mC_rr ho hM hv hu]; refine ⟨vp_in_nI (by omega) (by omega), fun k2 => ?_, fun k2 => ?_⟩)
  · rw [if_neg (fun e => k (z1.mpr e)), if_neg (fun e => k2 (z2.mpr e))] at h; exact h
  · rw [if_neg (fun e => k (z1.mpr e)), if_pos (z2.mp k2)] at h; exact h
  · rw [if_pos (z1.mp k), if_neg (fun e => k2 (z2.mpr e))] at h; exact h
  · rw [if_pos (z1.mp k), if_pos (z2.mp k2)] at h; exact h
theorem hc_h {e : Nat} (q : hi Z l (e / 16)) : hc Z l e = e := @if_pos _ (Classical.propDecidable _) q _ _ _
theorem hc_l {e : Nat} (q : ¬ hi Z l (e / 16)) : hc Z l e = 16 * (e % 16) + e / 16 := @if_neg _ (Classical.propDecidable _) q _ _ _
/-- THE LEVEL TRACED -/
theorem li_trace {lv : Int} {post : St → Prop} (hS : sC g n X Y Z) (hM : mC X Y (tl X Y n 4096) g) (h12 : g 12 0 = 0) (hl0 : 0 ≤ lv) (hl1 : lv ≤ 998)
    (h : ∀ g', lC (ct X Y Z n lv 256) g' → hC Z n lv g' → fr [3, 10, 11, 12, 13, 14] g g' → post g') : wp_li_trace (iI lv) g post := by
  have ho := hS.1
  have n16 := ho.1
  have inS : ∀ g', fr [3, 10, 11, 12, 13, 14] g g' → sC g' n X Y Z := fun g' f => hS.fr f (by decide) (by decide) (by decide) (by decide)
  have inM : ∀ g', fr [3, 10, 11, 12, 13, 14] g g' → mC X Y (tl X Y n 4096) g' := fun g' f => by
    obtain ⟨m1, m2, m3, m4⟩ := hM
    refine ⟨?_, ?_, ?_, ?_⟩
    · rw [f 2 (by decide)]; exact m1
    · rw [f 8 (by decide)]; exact m2
    · rw [f 9 (by decide)]; exact m3
    · rw [f 9 (by decide)]; exact m4
  unfold wp_li_trace
  try dsimp only
  refine li_clear (fun g1 c1 c2 f1 => ?_)
  -- the loop over u and v
  have L62 : ∀ (u : Nat) (K : Int32 → St → Prop), u < n → (∀ g', lC (ct X Y Z n lv (16 * u + n)) g' → hC Z n lv g' → fr [3, 10, 11, 12, 13, 14] g g' → K (nI u) g') →
      ∀ m v (g2 : St), v + m = n → u < v → lC (ct X Y Z n lv (16 * u + v)) g2 → hC Z n lv g2 → fr [3, 10, 11, 12, 13, 14] g g2 → lp_li_trace_L62 (m + 1) (nI u) (nI v) g2 K post := by
    intro u K hu hK m
    induction m with
    | zero =>
      intro v g2 hv huv hl hh f2
      have S2 := inS g2 f2
      unfold lp_li_trace_L62 wp_sp_size
      try dsimp only
      rw [S2.2.2.1]
      have : v = n := by omega
      subst this
      exact ⟨fun _ => hK g2 hl hh f2, fun q => absurd ((nI_leI (by omega) (by omega)).mpr (Nat.le_refl _)) q⟩
    | succ m ih =>
      intro v g2 hv huv hl hh f2
      have S2 := inS g2 f2
      have M2 := inM g2 f2
      have hvn : v < n := by omega
      have d1 : (16 * u + v) / 16 = u := by omega
      have d2 : (16 * u + v) % 16 = v := by omega
      have go : ∀ g3, ct X Y Z n lv (16 * u + v + 1) = ct X Y Z n lv (16 * u + v + 1) → lC (ct X Y Z n lv (16 * u + v + 1)) g3 → hC Z n lv g3 → fr [3, 10, 11, 12, 13, 14] g g3 → lp_li_trace_L62 (m + 1) (nI u) (nI v + 1) g3 K post := fun g3 _ a b c => by
        rw [nI_1]
        refine ih (v + 1) g3 (by omega) (by omega) ?_ b c
        rw [← Nat.add_assoc]; exact a
      unfold lp_li_trace_L62 wp_sp_size
      try dsimp only
      rw [S2.2.2.1, ix_nI (by omega), ix_nI (by omega)]
      refine ⟨fun q => absurd ((nI_leI (by omega) (by omega)).mp q) (by omega), fun _ => ⟨S2.v16 hu, S2.v16 hvn, fun e => ?_, fun e => ?_⟩⟩
      · -- both high or both low
        have no : ¬ cS X Y Z n lv (hc Z lv (16 * u + v)) := fun c => by
          by_cases q : hi Z lv u
          · have q' : hi Z lv v := Classical.byContradiction fun w => by rw [(hh u hu).1 q, (hh v hvn).2 w] at e; exact absurd e (by decide)
            rw [hc_h (by rw [d1]; exact q)] at c
            exact c.1.2 (by rw [d2]; exact q')
          · have q' : ¬ hi Z lv v := fun w => by rw [(hh u hu).2 q, (hh v hvn).1 w] at e; exact absurd e (by decide)
            rw [hc_l (by rw [d1]; exact q), d1, d2] at c
            exact q' (by have := c.1.1; rw [show (16 * v + u) / 16 = v by omega] at this; exact this)
        refine go g2 rfl ?_ hh f2
        rw [ct_s0 (fun q => no q.2.1)]; exact hl
      · refine me_share ho M2 (by omega) (by omega) (by omega) ?_
        by_cases sh : rr X Y n u v = none ∧ rr X Y n v u = none
        · rw [if_pos sh.1, if_pos sh.2]
          refine ⟨fun _ => ?_, fun q => absurd (by decide) q⟩
          have no : ¬ cS X Y Z n lv (hc Z lv (16 * u + v)) := fun c => by
            by_cases q : hi Z lv u
            · rw [hc_h (by rw [d1]; exact q)] at c
              have := c.2
              rw [d1, d2, sh.1, sh.2] at this
              rcases this with ⟨r, w⟩ | ⟨r, w⟩ <;> cases w
            · rw [hc_l (by rw [d1]; exact q), d1, d2] at c
              have := c.2
              rw [show (16 * v + u) / 16 = v by omega, show (16 * v + u) % 16 = u by omega, sh.1, sh.2] at this
              rcases this with ⟨r, w⟩ | ⟨r, w⟩ <;> cases w
          refine go g2 rfl ?_ hh f2
          rw [ct_s0 (fun q => no q.2.1)]; exact hl
        · have pos : ¬ (nI ((if rr X Y n u v = none then 0 else 1) + (if rr X Y n v u = none then 0 else 1)) ≤ (0 : Int32)) := by
            by_cases a : rr X Y n u v = none <;> by_cases b : rr X Y n v u = none
            · exact absurd ⟨a, b⟩ sh
            · rw [if_pos a, if_neg b]; decide
            · rw [if_neg a, if_pos b]; decide
            · rw [if_neg a, if_neg b]; decide
          have ex : (∃ r, rr X Y n u v = some r) ∨ ∃ r, rr X Y n v u = some r := by
            cases a : rr X Y n u v with
            | some r => exact Or.inl ⟨r, rfl⟩
            | none =>
              cases b : rr X Y n v u with
              | some r => exact Or.inr ⟨r, rfl⟩
              | none => exact absurd ⟨a, b⟩ sh
          refine ⟨fun q => absurd q pos, fun _ => ⟨S2.v16 hu, fun q => ?_, fun q => ?_⟩⟩
          · have nu : ¬ hi Z lv u := fun w => by rw [(hh u hu).1 w] at q; exact absurd q (by decide)
            have hv' : hi Z lv v := Classical.byContradiction fun w => e (by rw [(hh u hu).2 nu, (hh v hvn).2 w])
            have ec : hc Z lv (16 * u + v) = 16 * v + u := by rw [hc_l (by rw [d1]; exact nu), d1, d2]
            have cs : cS X Y Z n lv (16 * v + u) := by
              refine ⟨?_, ?_⟩
              · rw [show (16 * v + u) / 16 = v by omega, show (16 * v + u) % 16 = u by omega]; exact ⟨hv', nu⟩
              · rw [show (16 * v + u) / 16 = v by omega, show (16 * v + u) % 16 = u by omega]; exact ex.symm
            rw [pk16]
            refine li_from ho M2 hh (ct_all ho _) hl cs (fun t => go g2 rfl ?_ hh f2) (fun nt g3 l3 f3 => go g3 rfl ?_ ?_ (f2.tr (f3.mono (by decide))))
            · rw [ct_s0 (fun q => q.2.2 (by rw [ec]; exact t))]; exact hl
            · rw [ct_s1 ⟨by omega, by rw [ec]; exact cs, by rw [ec]; exact nt⟩, ec]; exact l3
            · intro s hs; rw [f3 10 (by decide)]; exact hh s hs
          · have hu' : hi Z lv u := Classical.byContradiction fun w => q ((hh u hu).2 w)
            have nv : ¬ hi Z lv v := fun w => e (by rw [(hh u hu).1 hu', (hh v hvn).1 w])
            have ec : hc Z lv (16 * u + v) = 16 * u + v := hc_h (by rw [d1]; exact hu')
            have cs : cS X Y Z n lv (16 * u + v) := by
              refine ⟨?_, ?_⟩
              · rw [d1, d2]; exact ⟨hu', nv⟩
              · rw [d1, d2]; exact ex
            rw [pk16]
            refine li_from ho M2 hh (ct_all ho _) hl cs (fun t => go g2 rfl ?_ hh f2) (fun nt g3 l3 f3 => go g3 rfl ?_ ?_ (f2.tr (f3.mono (by decide))))
            · rw [ct_s0 (fun q => q.2.2 (by rw [ec]; exact t))]; exact hl
            · rw [ct_s1 ⟨by omega, by rw [ec]; exact cs, by rw [ec]; exact nt⟩, ec]; exact l3
            · intro s hs; rw [f3 10 (by decide)]; exact hh s hs
  have hcn : ∀ x, cS X Y Z n lv (hc Z lv x) → x / 16 < x % 16 → x / 16 < n ∧ x % 16 < n := fun x c xl => by
    obtain ⟨b1, b2, b3, b4⟩ := cS_lt ho c
    by_cases q : hi Z lv (x / 16)
    · rw [hc_h q] at b2 b3; omega
    · rw [hc_l q] at b2 b3
      have e1 : (16 * (x % 16) + x / 16) / 16 = x % 16 ∨ 16 ≤ x / 16 := by omega
      rcases e1 with e1 | e1
      · rw [hc_l q] at b1; omega
      · omega
  have L47 : ∀ m u (g2 : St), u + m = n → lC (ct X Y Z n lv (16 * u)) g2 → hC Z n lv g2 → fr [3, 10, 11, 12, 13, 14] g g2 → lp_li_trace_L47 (m + 1) (nI u) g2 (fun g19 => (post g19)) post := by
    intro m
    induction m with
    | zero =>
      intro u g2 hu hl hh f2
      have S2 := inS g2 f2
      unfold lp_li_trace_L47 wp_sp_size
      try dsimp only
      rw [S2.2.2.1]
      have : u = n := by omega
      subst this
      refine ⟨fun _ => h g2 ?_ hh f2, fun q => absurd ((nI_leI (by omega) (by omega)).mpr (Nat.le_refl _)) q⟩
      rw [ct_skip (e := 16 * u) (e' := 256) (by omega) (fun x x1 x2 t => by have := hcn x t.2 t.1; omega)]
      exact hl
    | succ m ih =>
      intro u g2 hu hl hh f2
      have S2 := inS g2 f2
      unfold lp_li_trace_L47 wp_sp_size
      try dsimp only
      rw [S2.2.2.1]
      refine ⟨fun q => absurd ((nI_leI (by omega) (by omega)).mp q) (by omega), fun _ => ⟨(n - (u + 1)) + 1, ?_⟩⟩
      rw [nI_1]
      refine L62 u _ (by omega) (fun g3 l3 h3 f3 => ?_) (n - (u + 1)) (u + 1) g2 (by omega) (by omega) ?_ hh f2
      · rw [nI_1]
        refine ih (u + 1) g3 (by omega) ?_ h3 f3
        rw [ct_skip (e := 16 * u + n) (e' := 16 * (u + 1)) (by omega) (fun x x1 x2 t => by have := hcn x t.2 t.1; omega)]
        exact l3
      · rw [ct_skip (e := 16 * u) (e' := 16 * u + (u + 1)) (by omega) (fun x x1 x2 t => by have := t.1; omega)]
        exact hl
  -- high and low
  have L7 : ∀ m i (g2 : St), i + m = n → g2 3 5 = 0 → (∀ j, j < 256 → g2 14 j = 0) → (∀ s, s < i → (hi Z lv s → g2 10 s = 1) ∧ (¬ hi Z lv s → g2 10 s = 0)) → fr [3, 10, 14] g g2 →
      lp_li_trace_L7 (m + 1) (iI lv) (nI i) g2 (fun g8 => (∃ k47, lp_li_trace_L47 k47 0 g8 (fun g19 => (post g19)) post)) post := by
    intro m
    induction m with
    | zero =>
      intro i g2 hi' a1 a2 a3 f2
      have F2 : fr [3, 10, 11, 12, 13, 14] g g2 := f2.mono (by decide)
      have S2 := inS g2 F2
      have ei : i = n := by omega
      subst ei
      unfold lp_li_trace_L7 wp_sp_size
      try dsimp only
      rw [S2.2.2.1]
      refine ⟨fun _ => ⟨i + 1, L47 i 0 g2 (by omega) ?_ a3 F2⟩, fun q => absurd ((nI_leI (by omega) (by omega)).mpr (Nat.le_refl _)) q⟩
      refine ⟨a1, fun k hk => ?_, fun j hj => absurd hj (Nat.not_lt_zero _), fun k hk => absurd hk (Nat.not_lt_zero _), fun x hx => ⟨fun ⟨j, j1, _⟩ => absurd j1 (Nat.not_lt_zero _), fun _ => a2 x hx⟩⟩
      have hk : k ≤ 0 := hk
      rw [show k = 0 by omega, f2 12 (by decide)]; exact h12
    | succ m ih =>
      intro i g2 hi' a1 a2 a3 f2
      have F2 : fr [3, 10, 11, 12, 13, 14] g g2 := f2.mono (by decide)
      have S2 := inS g2 F2
      have hin : i < n := by omega
      obtain ⟨-, -, e3⟩ := S2.2.2.2 i hin
      have zb := S2.2.1 i hin
      have put : ∀ b : Int32, ((b = 1 ∧ hi Z lv i) ∨ (b = 0 ∧ ¬ hi Z lv i)) → ∀ g6 : St, g6 = gp g2 10 i b → lp_li_trace_L7 (m + 1) (iI lv) (nI i + 1) g6 (fun g8 => (∃ k47, lp_li_trace_L47 k47 0 g8 (fun g19 => (post g19)) post)) post := fun b hb g6 e6 => by
        rw [nI_1, e6]
        refine ih (i + 1) _ (by omega) (by rw [gp_n (by decide)]; exact a1) (by rw [gp_n (by decide)]; exact a2) (fun s hs => ?_) (f2.gp (by decide))
        by_cases e : s = i
        · rw [e, gp_s]
          rcases hb with ⟨rfl, w⟩ | ⟨rfl, w⟩
          · exact ⟨fun _ => rfl, fun u => absurd w u⟩
          · exact ⟨fun u => absurd u w, fun _ => rfl⟩
        · rw [gp_o e]; exact a3 s (by omega)
      unfold lp_li_trace_L7 wp_sp_size wp_sp_height
      try dsimp only
      rw [S2.2.2.1, ix_nI (by omega), e3]
      have z : (iI (Z i) ≤ iI lv) ↔ ¬ hi Z lv i := by
        rw [iI_le (by omega) (by omega) (by omega) (by omega)]
        unfold hi
        omega
      refine ⟨fun q => absurd ((nI_leI (by omega) (by omega)).mp q) (by omega), fun _ => ⟨S2.v16 hin, fun q => ⟨S2.v16 hin, fun g6 e6 => put 0 (Or.inr ⟨rfl, z.mp q⟩) g6 (by rw [e6, vn_0])⟩, fun q => ⟨S2.v16 hin, fun g6 e6 => put 1 (Or.inl ⟨rfl, Classical.byContradiction fun w => q (z.mpr w)⟩) g6 (by rw [e6, vn_1])⟩⟩⟩
  exact ⟨n + 1, L7 n 0 g1 (by omega) c1 c2 (fun s hs => absurd hs (by omega)) (f1.mono (by decide))⟩
end
end
section
/-! The reference joins the crossings of a level. -/
theorem ce_16 {h w : Nat} (hh : h < 16) (hw : w < 16) : ce (16 * h + w) = if h < w then 16 * h + w else 16 * w + h := by
  unfold ce
  rw [show (16 * h + w) / 16 = h by omega, show (16 * h + w) % 16 = w by omega]
/-- processed: a high spot, a low one, the third of a triangle -/
def jP (Z : Nat → Int) (l : Int) (L : List Nat) (h w r : Nat) : Prop := hi Z l h ∧ ¬ hi Z l w ∧ ∃ x, x ∈ L ∧ ge_pm (x / 256) (x / 16 % 16) (x % 16) h w r
def jM (X Y Z : Nat → Int) (l : Int) (P : Nat → Nat → Nat → Prop) (g : St) : Prop :=
  ((∀ h w r, P h w r → g 5 (ce (16 * h + w)) = 1) ∧ ∀ e, e < 256 → (∀ h w r, P h w r → ce (16 * h + w) ≠ e) → g 5 e = 0) ∧
  ((∀ h w r, P h w r → ge_t X Y w h r < 0 → g 6 (ce (16 * h + w)) = nI (ce (oth Z l h w r))) ∧ ∀ e, e < 256 → (∀ h w r, P h w r → ge_t X Y w h r < 0 → ce (16 * h + w) ≠ e) → g 6 e = -1) ∧
  ((∀ h w r, P h w r → ge_t X Y w h r < 0 → g 7 (ce (oth Z l h w r)) = nI (ce (16 * h + w))) ∧ ∀ e, e < 256 → (∀ h w r, P h w r → ge_t X Y w h r < 0 → ce (oth Z l h w r) ≠ e) → g 7 e = -1)
/-- what may be processed -/
def jOk (X Y Z : Nat → Int) (n : Nat) (l : Int) (P : Nat → Nat → Nat → Prop) : Prop := ∀ h w r, P h w r → hi Z l h ∧ ¬ hi Z l w ∧ ge_T X Y n h w r
section
variable {g : St} {n : Nat} {X Y Z : Nat → Int} {l : Int}
theorem mo_edge {a b : Nat} {post : Int32 → St → Prop} (ha : a < 16) (hb : b < 16) (ne : a ≠ b) (h : post (nI (ce (16 * a + b))) g) : wp_mo_edgeOf (nI a) (nI b) g post := by
  unfold wp_mo_edgeOf
  try dsimp only
  rw [ce_16 ha hb] at h
  refine ⟨fun q => ?_, fun q => ?_⟩
  · have : b ≤ a := (nI_leI (by omega) (by omega)).mp q
    rw [if_neg (by omega)] at h
    rw [pk16]; exact h
  · have : ¬ b ≤ a := fun w => q ((nI_leI (by omega) (by omega)).mpr w)
    rw [if_pos (by omega)] at h
    rw [pk16]; exact h
theorem mo_high {s : Nat} {post : Int32 → St → Prop} (hS : sM g n X Y Z) (hs : s < n) (hl : 0 ≤ l ∧ l ≤ 998) (h1 : hi Z l s → post 1 g) (h0 : ¬ hi Z l s → post 0 g) : wp_mo_isHigh (nI s) (iI l) g post := by
  obtain ⟨-, -, e⟩ := hS.2.2.2 s hs
  have zb := hS.2.1 s hs
  unfold wp_mo_isHigh
  try dsimp only
  rw [hS.ix hs, e, iI_le (by omega) (by omega) (by omega) (by omega)]
  unfold hi at h1 h0
  exact ⟨hS.v16 hs, fun q => h0 (by omega), fun q => h1 (by omega)⟩
theorem ce_lt {h w : Nat} (hh : h < 16) (hw : w < 16) : ce (16 * h + w) < 256 := by
  rw [ce_16 hh hw]; split <;> omega
theorem ce_sym {h w : Nat} (hh : h < 16) (hw : w < 16) (ne : h ≠ w) : ce (16 * h + w) = ce (16 * w + h) := by
  rw [ce_16 hh hw, ce_16 hw hh]
  by_cases q : h < w
  · rw [if_pos q, if_neg (by omega)]
  · rw [if_neg q, if_pos (by omega)]
theorem ce_hw {h w h' w' : Nat} (a : h < 16) (b : w < 16) (c : h' < 16) (d : w' < 16) (q1 : hi Z l h) (q2 : ¬ hi Z l w) (q3 : hi Z l h') (q4 : ¬ hi Z l w') (e : ce (16 * h + w) = ce (16 * h' + w')) : h = h' ∧ w = w' := by
  rw [ce_16 a b, ce_16 c d] at e
  have n1 : h ≠ w' := fun q => q4 (by rw [← q]; exact q1)
  have n2 : h' ≠ w := fun q => q2 (by rw [← q]; exact q3)
  split at e <;> split at e <;> omega
/-- the other crossing in the triangle -/
theorem oth_c {h w r : Nat} (ho : ge_ok X Y n) (q1 : hi Z l h) (q2 : ¬ hi Z l w) (t : ge_T X Y n h w r) : oth Z l h w r / 16 < 16 ∧ oth Z l h w r % 16 < 16 ∧ hi Z l (oth Z l h w r / 16) ∧ ¬ hi Z l (oth Z l h w r % 16) ∧ oth Z l h w r = 16 * (oth Z l h w r / 16) + oth Z l h w r % 16 := by
  have n16 := ho.1
  obtain ⟨t1, t2, t3, -⟩ := t
  by_cases q : hi Z l r
  · rw [oth_h q]
    have d1 : (16 * r + w) / 16 = r := by omega
    have d2 : (16 * r + w) % 16 = w := by omega
    rw [d1, d2]; exact ⟨by omega, by omega, q, q2, rfl⟩
  · rw [oth_l q]
    have d1 : (16 * h + r) / 16 = h := by omega
    have d2 : (16 * h + r) % 16 = r := by omega
    rw [d1, d2]; exact ⟨by omega, by omega, q1, q, rfl⟩
theorem T_wh {h w r : Nat} (t : ge_T X Y n h w r) : ge_T X Y n w h r := ge_T_sw (ge_T_rot t)
/-- the next crossing determines the one ahead of it -/
theorem oth_inj (ho : ge_ok X Y n) {h w r h' w' r' : Nat} (q1 : hi Z l h) (q2 : ¬ hi Z l w) (t : ge_T X Y n h w r) (s : ge_t X Y w h r < 0) (q1' : hi Z l h') (q2' : ¬ hi Z l w') (t' : ge_T X Y n h' w' r') (s' : ge_t X Y w' h' r' < 0) (e : oth Z l h w r = oth Z l h' w' r') : h = h' ∧ w = w' := by
  have n16 := ho.1
  have a := t.1; have b := t.2.1; have a' := t'.1; have b' := t'.2.1
  have c1 : cN X Y Z n l (16 * h + w) = some (oth Z l h w r) := by
    rw [cN_eq (by rw [show (16 * h + w) / 16 = h by omega, show (16 * h + w) % 16 = w by omega]; exact ⟨q1, q2⟩), show (16 * h + w) / 16 = h by omega, show (16 * h + w) % 16 = w by omega, rr_some.mpr ⟨T_wh t, s⟩]; rfl
  have c2 : cN X Y Z n l (16 * h' + w') = some (oth Z l h' w' r') := by
    rw [cN_eq (by rw [show (16 * h' + w') / 16 = h' by omega, show (16 * h' + w') % 16 = w' by omega]; exact ⟨q1', q2'⟩), show (16 * h' + w') / 16 = h' by omega, show (16 * h' + w') % 16 = w' by omega, rr_some.mpr ⟨T_wh t', s'⟩]; rfl
  rw [← e] at c2
  have := cr_injN (c_inv ho) _ _ _ c1 c2
  omega
/-- one more crossing of a triangle is processed -/
theorem jM_add {P : Nat → Nat → Nat → Prop} {h w r : Nat} {g' : St} (ho : ge_ok X Y n) (ok : jOk X Y Z n l P) (hm : jM X Y Z l P g) (q1 : hi Z l h) (q2 : ¬ hi Z l w) (t : ge_T X Y n h w r)
    (e5 : ∀ e, g' 5 e = if e = ce (16 * h + w) then 1 else g 5 e)
    (e6 : ∀ e, g' 6 e = if e = ce (16 * h + w) ∧ ge_t X Y w h r < 0 then nI (ce (oth Z l h w r)) else g 6 e)
    (e7 : ∀ e, g' 7 e = if e = ce (oth Z l h w r) ∧ ge_t X Y w h r < 0 then nI (ce (16 * h + w)) else g 7 e) :
    jM X Y Z l (fun a b c => P a b c ∨ (a = h ∧ b = w ∧ c = r)) g' := by
  have n16 := ho.1
  obtain ⟨⟨m1, m2⟩, ⟨m3, m4⟩, m5, m6⟩ := hm
  have th : h < 16 := by have := t.1; omega
  have tw : w < 16 := by have := t.2.1; omega
  refine ⟨⟨fun a b c k => ?_, fun e he k => ?_⟩, ⟨fun a b c k s => ?_, fun e he k => ?_⟩, fun a b c k s => ?_, fun e he k => ?_⟩
  · rw [e5]
    by_cases q : ce (16 * a + b) = ce (16 * h + w)
    · rw [if_pos q]
    · rw [if_neg q]
      rcases k with k | ⟨rfl, rfl, rfl⟩
      · exact m1 a b c k
      · exact absurd rfl q
  · rw [e5, if_neg (fun q => k h w r (Or.inr ⟨rfl, rfl, rfl⟩) q.symm)]
    exact m2 e he (fun a b c k' => k a b c (Or.inl k'))
  · rw [e6]
    by_cases q : ce (16 * a + b) = ce (16 * h + w) ∧ ge_t X Y w h r < 0
    · rw [if_pos q]
      rcases k with k | ⟨rfl, rfl, rfl⟩
      · obtain ⟨o1, o2, o3⟩ := ok a b c k
        obtain ⟨rfl, rfl⟩ := ce_hw (by have := o3.1; omega) (by have := o3.2.1; omega) th tw o1 o2 q1 q2 q.1
        rw [ge_right (T_wh o3) (T_wh t) s q.2]
      · rfl
    · rw [if_neg q]
      rcases k with k | ⟨rfl, rfl, rfl⟩
      · exact m3 a b c k s
      · exact absurd ⟨rfl, s⟩ q
  · rw [e6, if_neg (fun q => k h w r (Or.inr ⟨rfl, rfl, rfl⟩) q.2 q.1.symm)]
    exact m4 e he (fun a b c k' => k a b c (Or.inl k'))
  · rw [e7]
    by_cases q : ce (oth Z l a b c) = ce (oth Z l h w r) ∧ ge_t X Y w h r < 0
    · rw [if_pos q]
      rcases k with k | ⟨rfl, rfl, rfl⟩
      · obtain ⟨o1, o2, o3⟩ := ok a b c k
        obtain ⟨x1, x2, x3, x4, x5⟩ := oth_c ho o1 o2 o3
        obtain ⟨y1, y2, y3, y4, y5⟩ := oth_c ho q1 q2 t
        have e := q.1
        rw [x5, y5] at e
        obtain ⟨z1, z2⟩ := ce_hw x1 x2 y1 y2 x3 x4 y3 y4 e
        obtain ⟨rfl, rfl⟩ := oth_inj ho o1 o2 o3 s q1 q2 t q.2 (by rw [x5, y5, z1, z2])
        rfl
      · rfl
    · rw [if_neg q]
      rcases k with k | ⟨rfl, rfl, rfl⟩
      · exact m5 a b c k s
      · exact absurd ⟨rfl, s⟩ q
  · rw [e7, if_neg (fun q => k h w r (Or.inr ⟨rfl, rfl, rfl⟩) q.2 q.1.symm)]
    exact m6 e he (fun a b c k' => k a b c (Or.inl k'))
theorem mo_join {h w r : Nat} {post : St → Prop} (hS : sM g n X Y Z) (hl : 0 ≤ l ∧ l ≤ 998) (q1 : hi Z l h) (q2 : ¬ hi Z l w) (t : ge_T X Y n h w r)
    (hp : ∀ g', (∀ e, g' 6 e = if e = ce (16 * h + w) ∧ ge_t X Y w h r < 0 then nI (ce (oth Z l h w r)) else g 6 e) → (∀ e, g' 7 e = if e = ce (oth Z l h w r) ∧ ge_t X Y w h r < 0 then nI (ce (16 * h + w)) else g 7 e) → fm [6, 7] [] g g' → post g') : wp_mo_join (nI h) (nI w) (nI r) (iI l) g post := by
  have ho := hS.1
  have n16 := ho.1
  have th := t.1; have tw := t.2.1; have tr := t.2.2.1
  obtain ⟨n1, n2, n3⟩ := ge_t_ne t.2.2.2.1
  have bt := ge_tb ho tw th tr
  unfold wp_mo_join
  try dsimp only
  refine mo_turn hS tw th tr ?_
  have z : iI (ge_t X Y w h r) < 0 ↔ ge_t X Y w h r < 0 := by rw [← iI_0, iI_lt bt.1 bt.2 (by omega) (by omega)]
  have noch : ¬ ge_t X Y w h r < 0 → post g := fun k => hp g (fun e => by rw [if_neg (fun q => k q.2)]) (fun e => by rw [if_neg (fun q => k q.2)]) fm.rf
  have doit : ge_t X Y w h r < 0 → ∀ e, e = ce (oth Z l h w r) → jn_mo_join_J34 (nI h) (nI w) (nI e) g post := fun k e he => by
    have e256 : e < 256 := by
      obtain ⟨y1, y2, y3, y4, y5⟩ := oth_c ho q1 q2 t
      rw [he, y5]; exact ce_lt y1 y2
    unfold jn_mo_join_J34
    try dsimp only
    refine mo_edge (by omega) (by omega) n1 ?_
    have cl := ce_lt (h := h) (w := w) (by omega) (by omega)
    rw [ix_nI (by omega)]
    refine ⟨vp_in_nI (by omega) (by omega), fun g9 e9 => mo_edge (by omega) (by omega) n1 ?_⟩
    rw [ix_nI (by omega)]
    refine ⟨vp_in_nI (by omega) (by omega), fun g12 e12 => hp g12 (fun e' => ?_) (fun e' => ?_) ?_⟩
    · rw [e12, gp_n (by decide), e9]
      by_cases q : e' = ce (16 * h + w)
      · rw [if_pos ⟨q, k⟩, q, gp_s, he]
      · rw [if_neg (fun w => q w.1), gp_o q]
    · rw [e12]
      by_cases q : e' = ce (oth Z l h w r)
      · rw [if_pos ⟨q, k⟩, q, he, gp_s]
      · rw [if_neg (fun w => q w.1), gp_o (by rw [he]; exact q), e9, gp_n (by decide)]
    · rw [e12, e9]; exact (fm.rf.pt (by decide) (by decide)).pt (by decide) (by decide)
  have body : ge_t X Y w h r < 0 → wp_mo_isHigh (nI r) (iI l) g (fun r4 g3 => ((r4 = 0 → (wp_mo_edgeOf (nI h) (nI r) g3 (fun r6 g5 => (jn_mo_join_J34 (nI h) (nI w) r6 g5 post)))) ∧ (¬ (r4 = 0) → (wp_mo_edgeOf (nI r) (nI w) g3 (fun r14 g13 => (jn_mo_join_J34 (nI h) (nI w) r14 g13 post)))))) := fun k => by
    refine mo_high hS tr hl (fun q => ⟨fun w => absurd w (by decide), fun _ => mo_edge (by omega) (by omega) (Ne.symm n3) ?_⟩) (fun q => ⟨fun _ => mo_edge (by omega) (by omega) n2 ?_, fun w => absurd rfl w⟩)
    · exact doit k _ (by rw [oth_h q])
    · exact doit k _ (by rw [oth_l q])
  exact ⟨fun k => body (z.mp k), fun k => noch (fun q => k (z.mpr q))⟩
theorem mo_pair {P : Nat → Nat → Nat → Prop} {a b c : Nat} {post : St → Prop} (hS : sM g n X Y Z) (hl : 0 ≤ l ∧ l ≤ 998) (t : ge_T X Y n a b c) (ok : jOk X Y Z n l P) (hm : jM X Y Z l P g)
    (hp : ∀ g' P', jOk X Y Z n l P' → jM X Y Z l P' g' → (∀ h w r, P' h w r ↔ (P h w r ∨ (hi Z l h ∧ ¬ hi Z l w ∧ ((h = a ∧ w = b ∧ r = c) ∨ (h = b ∧ w = a ∧ r = c))))) → fm [5, 6, 7] [] g g' → post g') : wp_mo_pair (nI a) (nI b) (nI c) (iI l) g post := by
  have ho := hS.1
  have n16 := ho.1
  have ta := t.1; have tb := t.2.1
  obtain ⟨n1, n2, n3⟩ := ge_t_ne t.2.2.2.1
  have cl := ce_lt (h := a) (w := b) (by omega) (by omega)
  have same : (¬ (hi Z l a ∧ ¬ hi Z l b)) → (¬ (hi Z l b ∧ ¬ hi Z l a)) → post g := fun k1 k2 => hp g P ok hm (fun h w r => ⟨Or.inl, fun q => by
    rcases q with q | ⟨q1, q2, ⟨rfl, rfl, rfl⟩ | ⟨rfl, rfl, rfl⟩⟩
    · exact q
    · exact absurd ⟨q1, q2⟩ k1
    · exact absurd ⟨q1, q2⟩ k2⟩) fm.rf
  -- a high and b low, or the other way
  have go : ∀ h w, hi Z l h → ¬ hi Z l w → ge_T X Y n h w c → ce (16 * h + w) = ce (16 * a + b) → ((h = a ∧ w = b) ∨ (h = b ∧ w = a)) → ∀ g1 : St, g1 = gp g 5 (ce (16 * a + b)) 1 → wp_mo_join (nI h) (nI w) (nI c) (iI l) g1 (fun g' => post g') := fun h w q1 q2 th ec hw g1 e1 => by
    have S1 : sM g1 n X Y Z := hS.fr (by rw [e1, gp_n (by decide)]) (by rw [e1, gp_n (by decide)]) (by rw [e1, gp_n (by decide)]) (by rw [e1, gp_n (by decide)])
    refine mo_join S1 hl q1 q2 th (fun g' a6 a7 f => ?_)
    refine hp g' _ (fun h' w' r' k => ?_) (jM_add ho ok hm q1 q2 th (fun e => ?_) (fun e => ?_) (fun e => ?_)) (fun h' w' r' => ?_) ?_
    · rcases k with k | ⟨rfl, rfl, rfl⟩
      · exact ok _ _ _ k
      · exact ⟨q1, q2, th⟩
    · rw [f.1 5 (by decide) (by decide), e1, ec]
      by_cases q : e = ce (16 * a + b)
      · rw [if_pos q, q, gp_s]
      · rw [if_neg q, gp_o q]
    · rw [a6, e1, gp_n (by decide)]
    · rw [a7, e1, gp_n (by decide)]
    · constructor
      · rintro (k | ⟨rfl, rfl, rfl⟩)
        · exact Or.inl k
        · refine Or.inr ⟨q1, q2, ?_⟩
          rcases hw with ⟨x, y⟩ | ⟨x, y⟩
          · exact Or.inl ⟨x, y, rfl⟩
          · exact Or.inr ⟨x, y, rfl⟩
      · rintro (k | ⟨k1, k2, k⟩)
        · exact Or.inl k
        · refine Or.inr ?_
          rcases hw with ⟨rfl, rfl⟩ | ⟨rfl, rfl⟩ <;> rcases k with ⟨rfl, rfl, rfl⟩ | ⟨rfl, rfl, rfl⟩
          · exact ⟨rfl, rfl, rfl⟩
          · exact absurd q1 k2
          · exact absurd q1 k2
          · exact ⟨rfl, rfl, rfl⟩
    · have f5 : fm [5, 6, 7] [] g g1 := by rw [e1]; exact fm.rf.pt (by decide) (by decide)
      exact f5.tr (f.mono (by decide) (by decide))
  unfold wp_mo_pair
  try dsimp only
  have ed : ∀ g1 : St, g1 = gp g 5 (ix (nI (ce (16 * a + b)))) (vp_nar .boolean 1) → g1 = gp g 5 (ce (16 * a + b)) 1 := fun g1 e => by rw [e, ix_nI (by omega), vn_1]
  refine mo_high hS ta hl (fun qa => mo_high hS tb hl (fun qb => ?_) (fun qb => ?_)) (fun qa => mo_high hS tb hl (fun qb => ?_) (fun qb => ?_))
  · exact ⟨fun k => absurd rfl k, fun _ => same (fun q => q.2 qb) (fun q => q.2 qa)⟩
  · refine ⟨fun _ => mo_edge (by omega) (by omega) n1 ⟨vp_in_nI (by omega) (by omega), fun g1 e1 => ?_⟩, fun k => absurd k (by decide)⟩
    have e1 := ed g1 e1
    have S1 : sM g1 n X Y Z := hS.fr (by rw [e1, gp_n (by decide)]) (by rw [e1, gp_n (by decide)]) (by rw [e1, gp_n (by decide)]) (by rw [e1, gp_n (by decide)])
    exact mo_high S1 ta hl (fun _ => ⟨fun k => absurd k (by decide), fun _ => go a b qa qb t rfl (Or.inl ⟨rfl, rfl⟩) g1 e1⟩) (fun k => absurd qa k)
  · refine ⟨fun _ => mo_edge (by omega) (by omega) n1 ⟨vp_in_nI (by omega) (by omega), fun g1 e1 => ?_⟩, fun k => absurd k (by decide)⟩
    have e1 := ed g1 e1
    have S1 : sM g1 n X Y Z := hS.fr (by rw [e1, gp_n (by decide)]) (by rw [e1, gp_n (by decide)]) (by rw [e1, gp_n (by decide)]) (by rw [e1, gp_n (by decide)])
    exact mo_high S1 ta hl (fun k => absurd k qa) (fun _ => ⟨fun _ => go b a qb qa (T_wh t) (ce_sym (by omega) (by omega) (Ne.symm n1)) (Or.inr ⟨rfl, rfl⟩) g1 e1, fun k => absurd rfl k⟩)
  · exact ⟨fun k => absurd rfl k, fun _ => same (fun q => qa q.1) (fun q => qb q.1)⟩
end
end
section
/-! The reference gathers a contour. -/
def fM (X Y Z : Nat → Int) (n : Nat) (l : Int) (g : St) : Prop := ∀ x, cS X Y Z n l x → g 6 (ce x) = on ((cN X Y Z n l x).map ce) ∧ g 7 (ce x) = on ((cB X Y Z n l x).map ce)
def lM (s : Ct) (g : St) : Prop := g 0 11 = nI s.1 ∧ g 0 15 = nI (s.2.1 s.1) ∧ (∀ k, k < s.1 → g 9 k = nI (s.2.1 k) ∧ g 10 k = nI (s.2.1 (k + 1) - s.2.1 k) ∧ (s.2.2.2 k → g 11 k = 1) ∧ (¬ s.2.2.2 k → g 11 k = 0)) ∧
  (∀ i, i < s.2.1 s.1 → g 12 i = nI (ce (s.2.2.1 i))) ∧ ∀ e, e < 256 → ((∃ x, ct_T s x ∧ ce x = e) → g 8 e = 1) ∧ ((¬ ∃ x, ct_T s x ∧ ce x = e) → g 8 e = 0)
section
variable {g : St} {n : Nat} {X Y Z : Nat → Int} {l : Int}
theorem ce_256 (ho : ge_ok X Y n) {x : Nat} (h : cS X Y Z n l x) : ce x < 256 := by
  obtain ⟨x1, x2, x3, -⟩ := cS_lt ho h
  have n16 := ho.1
  unfold ce; split <;> omega
theorem onc_neg (ho : ge_ok X Y n) {o : Option Nat} (h : ∀ y, o = some y → cS X Y Z n l y) : on (o.map ce) < 0 ↔ o = none := by
  cases o with
  | none => exact ⟨fun _ => rfl, fun _ => by decide⟩
  | some y =>
    have := ce_256 ho (h y rfl)
    exact ⟨fun q => absurd q (nI_pos (by omega)), fun q => by cases q⟩
theorem mo_gather {s : Ct} {x : Nat} {post : St → Prop} (ho : ge_ok X Y n) (hf : fM X Y Z n l g) (hs : ct_ok X Y Z n l s) (hl : lM s g) (hx : cS X Y Z n l x) (nt : ¬ ct_T s x)
    (h2 : ∀ g', lM (ct_add X Y Z n l s x) g' → fm [8, 9, 10, 11, 12] [11, 15] g g' → post g') : wp_mo_gather (nI (ce x)) g post := by
  have x1 := ce_256 ho hx
  obtain ⟨c1, c2⟩ := ct_120 ho hs
  obtain ⟨q1, q2, q3, q4, q5⟩ := id hl
  obtain ⟨aok, aT⟩ := ct_add_ok ho hs hx nt
  obtain ⟨a1, a2⟩ := ct_120 ho aok
  obtain ⟨c, O, F, G⟩ := s
  have e1 : (ct_add X Y Z n l (c, O, F, G) x).1 = c + 1 := rfl
  have eO1 : (ct_add X Y Z n l (c, O, F, G) x).2.1 (c + 1) = O c + (ln X Y Z n l x + 1) := if_pos rfl
  rw [e1, eO1] at a1 a2
  try dsimp only at q1 q2 q3 q4 q5 c1 c2
  have hb := bg_ok ho hx
  have hm := ln_ok ho hx
  have fS := bg_S ho hx
  have f1 := ce_256 ho fS
  obtain ⟨k, k120, hk⟩ := cB_is ho hx
  have eqc : ∀ {y z : Nat}, cS X Y Z n l y → cS X Y Z n l z → (nI (ce y) = nI (ce z) ↔ y = z) := fun {y z} hy hz => by
    have := ce_256 ho hy
    have := ce_256 ho hz
    rw [nI_eq (by omega) (by omega)]
    exact ⟨fun e => ce_inj ho hy hz e, fun e => by rw [e]⟩
  -- the second half
  have J : ∀ b : Int32, ((b = 1 ∧ cB X Y Z n l (bg X Y Z n l x) ≠ none) ∨ (b = 0 ∧ cB X Y Z n l (bg X Y Z n l x) = none)) → jn_mo_gather_J38 (nI (ce (bg X Y Z n l x))) b g post := by
    intro b hbb
    generalize hm9 : ln X Y Z n l x = m at *
    generalize hf9 : bg X Y Z n l x = f at *
    unfold jn_mo_gather_J38
    try dsimp only
    rw [q1, q2, ix_nI (by omega)]
    refine ⟨vp_in_nI (by omega) (by omega), fun g4 e4 => ?_⟩
    have g4c : g4 0 11 = nI c := by rw [e4, gp_n (by decide)]; exact q1
    rw [g4c, ix_nI (by omega)]
    refine ⟨vp_in_nI (by omega) (by omega), fun g5 e5 => ?_⟩
    have vb : vp_nar .boolean b = b := by rcases hbb with ⟨rfl, -⟩ | ⟨rfl, -⟩; exact vn_1; exact vn_0
    rw [vb] at e5
    have f5 : ∀ k, k ≠ 9 → k ≠ 11 → g5 k = g k := fun k a b => by rw [e5, gp_n b, e4, gp_n a]
    have fin : ∀ g9 : St, (∀ k, k ≠ 0 → k ≠ 8 → k ≠ 12 → g9 k = g5 k) → (∀ j, j ≠ 15 → g9 0 j = g 0 j) → g9 0 15 = nI (O c + (m + 1)) → (∀ i, i < O c → g9 12 i = g 12 i) → (∀ j y, j ≤ m → cr_w (cN X Y Z n l) j f = some y → g9 12 (O c + j) = nI (ce y)) →
        (∀ z, z < 256 → (∃ j y, j ≤ m ∧ cr_w (cN X Y Z n l) j f = some y ∧ ce y = z) → g9 8 z = 1) → (∀ z, z < 256 → (¬ ∃ j y, j ≤ m ∧ cr_w (cN X Y Z n l) j f = some y ∧ ce y = z) → g9 8 z = g 8 z) →
        (vp_in (g9 0 11) 130 ∧ (vp_in (g9 0 11) 130 ∧ ∀ g10 : St, g10 = gp g9 10 (ix (g9 0 11)) ((g9 0 15) - (g9 9 (ix (g9 0 11)))) → (∀ g11 : St, g11 = gp g10 0 11 ((g10 0 11) + 1) → (post g11)))) := by
      intro g9 k1 k2 k3 k4 k5 k6 k7
      have c9 : g9 0 11 = nI c := by rw [k2 11 (by decide)]; exact q1
      have b9 : g9 9 c = nI (O c) := by rw [k1 9 (by decide) (by decide) (by decide), e5, gp_n (by decide), e4]; exact gp_s
      rw [c9, ix_nI (by omega), k3, b9, pk_sub (by omega), Nat.add_sub_cancel_left]
      refine ⟨vp_in_nI (by omega) (by omega), vp_in_nI (by omega) (by omega), fun g10 e10 g11 e11 => ?_⟩
      have c10 : g10 0 11 = nI c := by rw [e10, gp_n (by decide)]; exact c9
      rw [c10, nI_1] at e11
      refine h2 g11 ⟨?_, ?_, fun k hk => ?_, fun i hi => ?_, fun z hz => ?_⟩ ⟨fun k k0 hk => ?_, fun j hj => ?_⟩
      · rw [e11]; exact gp_s
      · rw [e1, eO1, e11, gp_o (by decide), e10, gp_n (by decide)]; exact k3
      · rw [e1] at hk
        have w9 : g11 9 = g9 9 := by rw [e11, gp_n (by decide), e10, gp_n (by decide)]
        have w10 : g11 10 = g10 10 := by rw [e11, gp_n (by decide)]
        have w11 : g11 11 = g9 11 := by rw [e11, gp_n (by decide), e10, gp_n (by decide)]
        rw [w9, w10, w11, k1 11 (by decide) (by decide) (by decide)]
        by_cases e : k = c
        · subst e
          have oc : (ct_add X Y Z n l (k, O, F, G) x).2.1 k = O k := if_neg (by omega)
          have gc : (ct_add X Y Z n l (k, O, F, G) x).2.2.2 k = (cB X Y Z n l (bg X Y Z n l x) ≠ none) := if_pos rfl
          rw [oc, eO1, gc, hf9, Nat.add_sub_cancel_left]
          refine ⟨b9, by rw [e10]; exact gp_s, ?_⟩
          rw [e5, gp_s]
          rcases hbb with ⟨rfl, w⟩ | ⟨rfl, w⟩
          · exact ⟨fun _ => rfl, fun u => absurd w u⟩
          · exact ⟨fun u => absurd w u, fun _ => rfl⟩
        · have oc : (ct_add X Y Z n l (c, O, F, G) x).2.1 k = O k := if_neg (by omega)
          have oc1 : (ct_add X Y Z n l (c, O, F, G) x).2.1 (k + 1) = O (k + 1) := if_neg (by omega)
          have gc : (ct_add X Y Z n l (c, O, F, G) x).2.2.2 k = G k := if_neg e
          rw [oc, oc1, gc]
          obtain ⟨r1, r2, r3⟩ := q3 k (by omega)
          refine ⟨?_, ?_, ?_⟩
          · rw [k1 9 (by decide) (by decide) (by decide), e5, gp_n (by decide), e4, gp_o e]; exact r1
          · rw [e10, gp_o e, k1 10 (by decide) (by decide) (by decide), f5 10 (by decide) (by decide)]; exact r2
          · rw [e5, gp_o e, e4, gp_n (by decide)]; exact r3
      · rw [e1, eO1] at hi
        have w12 : g11 12 = g9 12 := by rw [e11, gp_n (by decide), e10, gp_n (by decide)]
        rw [w12]
        rcases Nat.lt_or_ge i (O c) with q | q
        · have : (ct_add X Y Z n l (c, O, F, G) x).2.2.1 i = F i := if_pos q
          rw [this, k4 i q]; exact q4 i q
        · obtain ⟨j, rfl⟩ : ∃ j, i = O c + j := ⟨i - O c, by omega⟩
          have : (ct_add X Y Z n l (c, O, F, G) x).2.2.1 (O c + j) = (cr_w (cN X Y Z n l) ((O c + j) - O c) (bg X Y Z n l x)).getD 0 := if_neg (show ¬ (O c + j < O c) by omega)
          obtain ⟨⟨ye, y1, -⟩, -⟩ := id hm
          rw [show m = j + (m - j) by omega] at y1
          obtain ⟨y, hy⟩ := cr_w_le _ _ y1
          rw [this, hf9, Nat.add_sub_cancel_left, hy, k5 j y (by omega) hy]; rfl
      · have w8 : g11 8 = g9 8 := by rw [e11, gp_n (by decide), e10, gp_n (by decide)]
        rw [w8]
        constructor
        · rintro ⟨y, t, ey⟩
          rcases (aT y).mp t with t | ⟨j, j1, j2⟩
          · by_cases w : ∃ j y, j ≤ m ∧ cr_w (cN X Y Z n l) j f = some y ∧ ce y = z
            · exact k6 z hz w
            · rw [k7 z hz w]; exact (q5 z hz).1 ⟨y, t, ey⟩
          · exact k6 z hz ⟨j, y, j1, j2, ey⟩
        · intro w
          rw [k7 z hz (fun ⟨j, y, j1, j2, ey⟩ => w ⟨y, (aT y).mpr (Or.inr ⟨j, j1, j2⟩), ey⟩)]
          exact (q5 z hz).2 (fun ⟨y, t, ey⟩ => w ⟨y, (aT y).mpr (Or.inl t), ey⟩)
      · simp only [List.mem_cons, List.not_mem_nil, or_false, not_or] at hk
        rw [e11, gp_n k0, e10, gp_n hk.2.2.1, k1 k k0 hk.1 hk.2.2.2.2, f5 k hk.2.1 hk.2.2.2.1]
      · simp only [List.mem_cons, List.not_mem_nil, or_false, not_or] at hj
        rw [e11, gp_o hj.1, e10, gp_n (by decide), k2 j hj.2]
    have loop : ∀ d j y (g6 : St), j + d = m → cr_w (cN X Y Z n l) j f = some y → (∀ k, k ≠ 0 → k ≠ 8 → k ≠ 12 → g6 k = g5 k) → (∀ j, j ≠ 15 → g6 0 j = g 0 j) → g6 0 15 = nI (O c + j) → (∀ i, i < O c → g6 12 i = g 12 i) → (∀ j' y, j' < j → cr_w (cN X Y Z n l) j' f = some y → g6 12 (O c + j') = nI (ce y)) →
        (∀ z, z < 256 → (∃ j' y, j' < j ∧ cr_w (cN X Y Z n l) j' f = some y ∧ ce y = z) → g6 8 z = 1) → (∀ z, z < 256 → (¬ ∃ j' y, j' < j ∧ cr_w (cN X Y Z n l) j' f = some y ∧ ce y = z) → g6 8 z = g 8 z) →
        lp_mo_gather_L67 (d + 2) (nI (ce f)) (nI (ce y)) 1 g6 (fun g9 => (vp_in (g9 0 11) 130 ∧ (vp_in (g9 0 11) 130 ∧ ∀ g10 : St, g10 = gp g9 10 (ix (g9 0 11)) ((g9 0 15) - (g9 9 (ix (g9 0 11)))) → (∀ g11 : St, g11 = gp g10 0 11 ((g10 0 11) + 1) → (post g11))))) post := by
      intro d
      induction d with
      | zero =>
        intro j y g6 hj hy k1 k2 k3 k4 k5 k6 k7
        have ej : j = m := by omega
        subst ej
        have ys : cS X Y Z n l y := cr_w_S (fun _ _ q => cN_S ho q) j fS hy
        have y256 := ce_256 ho ys
        show lp_mo_gather_L67 (1 + 1) _ _ _ _ _ _
        unfold lp_mo_gather_L67
        try dsimp only
        rw [k3, ix_nI (by omega), ix_nI (by omega)]
        refine ⟨fun u => absurd u (by decide), fun _ => ⟨vp_in_nI (by omega) (by omega), fun g7 e7 g8 e8 => ⟨vp_in_nI (by omega) (by omega), fun g9 e9 => ⟨vp_in_nI (by omega) (by omega), ?_⟩⟩⟩⟩
        have c7 : g7 0 15 = nI (O c + j) := by rw [e7, gp_n (by decide)]; exact k3
        rw [c7, nI_1] at e8
        rw [vn_1] at e9
        have n6 : g9 6 (ce y) = on ((cN X Y Z n l y).map ce) := by
          rw [e9, gp_n (by decide), e8, gp_n (by decide), e7, gp_n (by decide), k1 6 (by decide) (by decide) (by decide), f5 6 (by decide) (by decide)]
          exact (hf y ys).1
        have ng := onc_neg (X := X) (Y := Y) (Z := Z) (n := n) (l := l) ho (o := cN X Y Z n l y) (fun z hz => cN_S ho hz)
        have done : ∀ v4, lp_mo_gather_L67 1 (nI (ce f)) v4 0 g9 (fun g9 => (vp_in (g9 0 11) 130 ∧ (vp_in (g9 0 11) 130 ∧ ∀ g10 : St, g10 = gp g9 10 (ix (g9 0 11)) ((g9 0 15) - (g9 9 (ix (g9 0 11)))) → (∀ g11 : St, g11 = gp g10 0 11 ((g10 0 11) + 1) → (post g11))))) post := fun v4 => by
          show lp_mo_gather_L67 (0 + 1) _ _ _ _ _ _
          unfold lp_mo_gather_L67
          try dsimp only
          refine ⟨fun _ => fin g9 (fun k k0 a b => ?_) (fun i hi => ?_) ?_ (fun i hi => ?_) (fun j' y' a b => ?_) (fun z hz ⟨j', y', a, b, e⟩ => ?_) (fun z hz w => ?_), fun u => absurd rfl u⟩
          · rw [e9, gp_n a, e8, gp_n k0, e7, gp_n b]; exact k1 k k0 a b
          · rw [e9, gp_n (by decide), e8, gp_o hi, e7, gp_n (by decide)]; exact k2 i hi
          · rw [e9, gp_n (by decide), e8]; exact gp_s
          · rw [e9, gp_n (by decide), e8, gp_n (by decide), e7, gp_o (by omega)]; exact k4 i hi
          · rw [e9, gp_n (by decide), e8, gp_n (by decide), e7]
            by_cases e : j' = j
            · rw [e] at b ⊢
              rw [hy] at b
              cases b
              exact gp_s
            · rw [gp_o (by omega)]; exact k5 j' y' (by omega) b
          · rw [e9]
            by_cases q : z = ce y
            · rw [q]; exact gp_s
            · rw [gp_o q, e8, gp_n (by decide), e7, gp_n (by decide)]
              refine k6 z hz ⟨j', y', ?_, b, e⟩
              have : j' ≠ j := fun q' => q (by rw [q', hy] at b; cases b; exact e.symm)
              omega
          · have q : z ≠ ce y := fun q => w ⟨j, y, by omega, hy, q.symm⟩
            rw [e9, gp_o q, e8, gp_n (by decide), e7, gp_n (by decide)]
            exact k7 z hz (fun ⟨j', y', a, b, e⟩ => w ⟨j', y', by omega, b, e⟩)
        rw [n6]
        refine ⟨fun _ => done _, fun u => ⟨fun _ => done _, fun w => ?_⟩⟩
        obtain ⟨⟨ye, y1, y2⟩, -⟩ := id hm
        rw [hy] at y1
        cases y1
        rcases y2 with y2 | y2
        · exact absurd (ng.mpr y2) u
        · rw [y2] at w; exact absurd rfl w
      | succ d ih =>
        intro j y g6 hj hy k1 k2 k3 k4 k5 k6 k7
        have ys : cS X Y Z n l y := cr_w_S (fun _ _ q => cN_S ho q) j fS hy
        have y256 := ce_256 ho ys
        obtain ⟨⟨ye, y1, -⟩, nb⟩ := id hm
        rw [show m = (j + 1) + d by omega] at y1
        obtain ⟨z, hz⟩ := cr_w_le _ _ y1
        have nz : cN X Y Z n l y = some z := by rw [cr_w_s hy] at hz; exact hz
        have zs := cN_S ho nz
        have z256 := ce_256 ho zs
        have zf : z ≠ f := fun e => nb (j + 1) (by omega) (by omega) (by rw [hz, e])
        show lp_mo_gather_L67 ((d + 2) + 1) _ _ _ _ _ _
        unfold lp_mo_gather_L67
        try dsimp only
        rw [k3, ix_nI (by omega), ix_nI (by omega)]
        refine ⟨fun u => absurd u (by decide), fun _ => ⟨vp_in_nI (by omega) (by omega), fun g7 e7 g8 e8 => ⟨vp_in_nI (by omega) (by omega), fun g9 e9 => ⟨vp_in_nI (by omega) (by omega), ?_⟩⟩⟩⟩
        have c7 : g7 0 15 = nI (O c + j) := by rw [e7, gp_n (by decide)]; exact k3
        rw [c7, nI_1] at e8
        rw [vn_1] at e9
        have n6 : g9 6 (ce y) = nI (ce z) := by
          rw [e9, gp_n (by decide), e8, gp_n (by decide), e7, gp_n (by decide), k1 6 (by decide) (by decide) (by decide), f5 6 (by decide) (by decide), (hf y ys).1, nz]; rfl
        rw [n6]
        refine ⟨fun u => absurd u (nI_pos (by omega)), fun _ => ⟨fun u => absurd ((eqc zs fS).mp u) zf, fun _ => ?_⟩⟩
        refine ih (j + 1) z g9 (by omega) hz (fun k k0 a b => ?_) (fun i hi => ?_) ?_ (fun i hi => ?_) (fun j' y' a b => ?_) (fun z' hz' ⟨j', y', a, b, e⟩ => ?_) (fun z' hz' w => ?_)
        · rw [e9, gp_n a, e8, gp_n k0, e7, gp_n b]; exact k1 k k0 a b
        · rw [e9, gp_n (by decide), e8, gp_o hi, e7, gp_n (by decide)]; exact k2 i hi
        · rw [e9, gp_n (by decide), e8]; exact gp_s
        · rw [e9, gp_n (by decide), e8, gp_n (by decide), e7, gp_o (by omega)]; exact k4 i hi
        · rw [e9, gp_n (by decide), e8, gp_n (by decide), e7]
          by_cases e : j' = j
          · rw [e] at b ⊢
            rw [hy] at b
            cases b
            exact gp_s
          · rw [gp_o (by omega)]; exact k5 j' y' (by omega) b
        · rw [e9]
          by_cases q : z' = ce y
          · rw [q]; exact gp_s
          · rw [gp_o q, e8, gp_n (by decide), e7, gp_n (by decide)]
            refine k6 z' hz' ⟨j', y', ?_, b, e⟩
            have : j' ≠ j := fun q' => q (by rw [q', hy] at b; cases b; exact e.symm)
            omega
        · have q : z' ≠ ce y := fun q => w ⟨j, y, by omega, hy, q.symm⟩
          rw [e9, gp_o q, e8, gp_n (by decide), e7, gp_n (by decide)]
          exact k7 z' hz' (fun ⟨j', y', a, b, e⟩ => w ⟨j', y', by omega, b, e⟩)
    refine ⟨m + 2, loop m 0 f g5 (by omega) rfl (fun _ _ _ _ => rfl) (fun j hj => ?_) ?_ (fun i hi => ?_) (fun j' y a _ => absurd a (by omega)) (fun z _ ⟨j', y, a, _⟩ => absurd a (by omega)) (fun z _ _ => ?_)⟩
    · rw [f5 0 (by decide) (by decide)]
    · rw [f5 0 (by decide) (by decide)]; exact q2
    · rw [f5 12 (by decide) (by decide)]
    · rw [f5 8 (by decide) (by decide)]
  -- back to the beginning
  unfold wp_mo_gather
  try dsimp only
  have back : ∀ d i y, i + d = k → cr_w (cB X Y Z n l) i x = some y → lp_mo_gather_L4 (d + 2) (nI (ce x)) (nI (ce y)) 0 g (fun w2 w3 g1 => (jn_mo_gather_J38 w2 w3 g1 post)) post := by
    intro d
    induction d with
    | zero =>
      intro i y hi hy
      have ei : i = k := by omega
      subst ei
      have ys : cS X Y Z n l y := cr_w_S (fun _ _ q => cB_S ho q) i hx hy
      have y256 := ce_256 ho ys
      have ng := onc_neg (X := X) (Y := Y) (Z := Z) (n := n) (l := l) ho (o := cB X Y Z n l y) (fun z hz => cB_S ho hz)
      show lp_mo_gather_L4 (1 + 1) _ _ _ _ _ _
      unfold lp_mo_gather_L4
      try dsimp only
      rw [ix_nI (by omega), (hf y ys).2]
      obtain ⟨⟨y', e1, e2⟩, -⟩ := id hk
      rw [hy] at e1
      cases e1
      rcases e2 with e2 | e2
      · have eb : bg X Y Z n l x = y := cr_beg_u hb ⟨i, hk, Or.inl ⟨y, hy, e2, rfl⟩⟩
        have j0 := J 0 (Or.inr ⟨rfl, by rw [eb]; exact e2⟩)
        rw [eb] at j0
        refine ⟨vp_in_nI (by omega) (by omega), fun _ => j0, fun u => absurd (ng.mpr e2) u⟩
      · have eb : bg X Y Z n l x = x := cr_beg_u hb ⟨i, hk, Or.inr ⟨y, hy, e2, rfl⟩⟩
        have nb : cB X Y Z n l x ≠ none := by
          rcases Nat.eq_zero_or_pos i with i0 | i0
          · subst i0
            cases hy
            rw [e2]; exact fun q => by cases q
          · intro q
            rw [show i = 1 + (i - 1) by omega] at hy
            obtain ⟨z, hz⟩ := cr_w_le _ _ hy
            have : cr_w (cB X Y Z n l) (0 + 1) x = cB X Y Z n l x := cr_w_s rfl
            rw [show (1 : Nat) = 0 + 1 from rfl, this, q] at hz
            cases hz
        have j1 := J 1 (Or.inl ⟨rfl, by rw [eb]; exact nb⟩)
        rw [eb] at j1
        rw [e2]
        show vp_in (nI (ce y)) 256 ∧ _
        refine ⟨vp_in_nI (by omega) (by omega), fun u => absurd u (nI_pos (n := ce x) (by omega)), fun _ => ⟨fun u => absurd rfl u, fun _ => ⟨vp_in_nI (by omega) (by omega), fun u => absurd rfl u, fun _ => ?_⟩⟩⟩
        show lp_mo_gather_L4 (0 + 1) (nI (ce x)) (nI (ce x)) 1 g _ _
        unfold lp_mo_gather_L4
        try dsimp only
        exact ⟨vp_in_nI (by omega) (by omega), fun _ => j1, fun _ => ⟨fun _ => j1, fun u => absurd u (by decide)⟩⟩
    | succ d ih =>
      intro i y hi hy
      have ys : cS X Y Z n l y := cr_w_S (fun _ _ q => cB_S ho q) i hx hy
      have y256 := ce_256 ho ys
      obtain ⟨⟨ye, y1, -⟩, nb⟩ := id hk
      rw [show k = (i + 1) + d by omega] at y1
      obtain ⟨z, hz⟩ := cr_w_le _ _ y1
      have nz : cB X Y Z n l y = some z := by rw [cr_w_s hy] at hz; exact hz
      have zs := cB_S ho nz
      have z256 := ce_256 ho zs
      have zx : z ≠ x := fun e => nb (i + 1) (by omega) (by omega) (by rw [hz, e])
      show lp_mo_gather_L4 ((d + 2) + 1) _ _ _ _ _ _
      unfold lp_mo_gather_L4
      try dsimp only
      rw [ix_nI (by omega), (hf y ys).2, nz]
      show vp_in (nI (ce y)) 256 ∧ _
      refine ⟨vp_in_nI (by omega) (by omega), fun u => absurd u (nI_pos (n := ce z) (by omega)), fun _ => ⟨fun u => absurd rfl u, fun _ => ⟨vp_in_nI (by omega) (by omega), fun _ => ih (i + 1) z (by omega) hz, fun u => ?_⟩⟩⟩
      exact absurd ((eqc zs hx).mp u) zx
  exact ⟨k + 2, back k 0 x (by omega) rfl⟩
end
end
section
/-! The reference finds the contours of a level. -/
section
variable {g : St} {n : Nat} {X Y Z : Nat → Int} {l : Int}
theorem jP_app {L : List Nat} {k h w r : Nat} : jP Z l (L ++ [k]) h w r ↔ jP Z l L h w r ∨ (hi Z l h ∧ ¬ hi Z l w ∧ ge_pm (k / 256) (k / 16 % 16) (k % 16) h w r) := by
  unfold jP
  constructor
  · rintro ⟨h1, h2, x, h3, h4⟩
    rcases List.mem_append.mp h3 with q | q
    · exact Or.inl ⟨h1, h2, x, q, h4⟩
    · rw [List.mem_singleton.mp q] at h4; exact Or.inr ⟨h1, h2, h4⟩
  · rintro (⟨h1, h2, x, h3, h4⟩ | ⟨h1, h2, h4⟩)
    · exact ⟨h1, h2, x, List.mem_append_left _ h3, h4⟩
    · exact ⟨h1, h2, k, List.mem_append_right _ (List.mem_singleton.mpr rfl), h4⟩
theorem jM_ext {P Q : Nat → Nat → Nat → Prop} (h : ∀ a b c, P a b c ↔ Q a b c) (hm : jM X Y Z l P g) : jM X Y Z l Q g := by
  have : P = Q := by funext a b c; exact propext (h a b c)
  rw [← this]; exact hm
/-- all triangles processed: what the tables hold -/
theorem jM_all (ho : ge_ok X Y n) (hm : jM X Y Z l (jP Z l (tl X Y n 4096)) g) : fM X Y Z n l g ∧ ∀ e, e < 256 → ((∃ x, cS X Y Z n l x ∧ ce x = e) → g 5 e = 1) ∧ ((¬ ∃ x, cS X Y Z n l x ∧ ce x = e) → g 5 e = 0) := by
  have n16 := ho.1
  obtain ⟨⟨m1, m2⟩, ⟨m3, m4⟩, m5, m6⟩ := hm
  have T_of : ∀ {h w r}, jP Z l (tl X Y n 4096) h w r → ge_T X Y n h w r := fun {h w r} ⟨_, _, x, q1, q2⟩ => ge_pm_T (ge_T_of ho (tl_mem.mp q1).2) q2
  have P_of : ∀ {h w r}, hi Z l h → ¬ hi Z l w → ge_T X Y n h w r → jP Z l (tl X Y n 4096) h w r := fun {h w r} q1 q2 t => by
    obtain ⟨e1, e2, e3⟩ := ge_t_ne t.2.2.2.1
    obtain ⟨a, b, c, h1, h2, h3, h4⟩ := srt e1 e2 e3
    have tr := ge_tri_of ho (ge_pm_T t h4) h1 h2
    have := tr.2.2.1
    have k1 : (256 * a + 16 * b + c) / 256 = a := by omega
    have k2 : (256 * a + 16 * b + c) / 16 % 16 = b := by omega
    have k3 : (256 * a + 16 * b + c) % 16 = c := by omega
    exact ⟨q1, q2, 256 * a + 16 * b + c, tl_mem.mpr ⟨by omega, by rw [k1, k2, k3]; exact tr⟩, by rw [k1, k2, k3]; exact h3⟩
  have S_of : ∀ {h w r}, jP Z l (tl X Y n 4096) h w r → cS X Y Z n l (16 * h + w) := fun {h w r} p => by
    have t := T_of p
    have d1 : (16 * h + w) / 16 = h := by have := t.2.1; omega
    have d2 : (16 * h + w) % 16 = w := by have := t.2.1; omega
    refine ⟨by rw [d1, d2]; exact ⟨p.1, p.2.1⟩, ?_⟩
    rw [d1, d2]
    rcases Int.lt_or_lt_of_ne t.2.2.2.1 with q | q
    · exact Or.inl ⟨r, rr_some.mpr ⟨t, q⟩⟩
    · refine Or.inr ⟨r, rr_some.mpr ⟨T_wh t, ?_⟩⟩
      have a := ge_t_rot X Y w h r
      have b := ge_t_sw X Y h w r
      omega
  refine ⟨fun x hx => ?_, fun e he => ⟨?_, fun k => ?_⟩⟩
  · obtain ⟨x1, x2, x3, x4⟩ := cS_lt ho hx
    have ex : 16 * (x / 16) + x % 16 = x := by omega
    have c256 : ce x < 256 := by rw [← ex]; exact ce_lt (by omega) (by omega)
    constructor
    · cases q : cN X Y Z n l x with
      | none =>
        refine m4 (ce x) c256 (fun h w r p s e => ?_)
        have t := T_of p
        obtain ⟨z1, z2⟩ := ce_hw (h := h) (w := w) (h' := x / 16) (w' := x % 16) (by have := t.1; omega) (by have := t.2.1; omega) (by omega) (by omega) p.1 p.2.1 hx.1.1 hx.1.2 (by rw [ex]; exact e)
        rw [cN_eq hx.1, ← z1, ← z2, rr_some.mpr ⟨T_wh t, s⟩] at q
        cases q
      | some y =>
        obtain ⟨-, r, r1, r2⟩ := cN_p q
        have R := rr_some.mp r1
        have := m3 (x / 16) (x % 16) r (P_of hx.1.1 hx.1.2 (T_wh R.1)) R.2
        rw [ex, ← r2] at this
        exact this
    · cases q : cB X Y Z n l x with
      | none =>
        refine m6 (ce x) c256 (fun h w r p s e => ?_)
        have t := T_of p
        have th : h < 16 := by have := t.1; omega
        have tw : w < 16 := by have := t.2.1; omega
        obtain ⟨y1, y2, y3, y4, y5⟩ := oth_c ho p.1 p.2.1 t
        have e' : ce (16 * (oth Z l h w r / 16) + oth Z l h w r % 16) = ce (16 * (x / 16) + x % 16) := by rw [← y5, ex]; exact e
        obtain ⟨z1, z2⟩ := ce_hw y1 y2 (by omega) (by omega) y3 y4 hx.1.1 hx.1.2 e'
        have eo : oth Z l h w r = x := by omega
        have d1 : (16 * h + w) / 16 = h := by omega
        have d2 : (16 * h + w) % 16 = w := by omega
        have cn : cN X Y Z n l (16 * h + w) = some (oth Z l h w r) := by
          rw [cN_eq (by rw [d1, d2]; exact ⟨p.1, p.2.1⟩), d1, d2, rr_some.mpr ⟨T_wh t, s⟩]; rfl
        rw [eo] at cn
        rw [cNB ho cn] at q
        cases q
      | some y =>
        have cn := cBN ho q
        obtain ⟨yh, r, r1, r2⟩ := cN_p cn
        have ys := cB_S ho q
        obtain ⟨b1, b2, b3, b4⟩ := cS_lt ho ys
        have R := rr_some.mp r1
        have := m5 (y / 16) (y % 16) r (P_of yh.1 yh.2 (T_wh R.1)) R.2
        rw [← r2, show 16 * (y / 16) + y % 16 = y by omega] at this
        exact this
  · rintro ⟨x, hx, rfl⟩
    obtain ⟨x1, x2, x3, x4⟩ := cS_lt ho hx
    have ex : 16 * (x / 16) + x % 16 = x := by omega
    rcases hx.2 with ⟨r, r1⟩ | ⟨r, r1⟩
    · have := m1 (x / 16) (x % 16) r (P_of hx.1.1 hx.1.2 (rr_some.mp r1).1)
      rw [ex] at this; exact this
    · have := m1 (x / 16) (x % 16) r (P_of hx.1.1 hx.1.2 (T_wh (rr_some.mp r1).1))
      rw [ex] at this; exact this
  · exact m2 e he (fun h w r p q => k ⟨16 * h + w, S_of p, q⟩)
theorem ce_hc (ho : ge_ok X Y n) {e : Nat} (he : e < 256) (h : e / 16 < e % 16) : ce (hc Z l e) = e := by
  by_cases q : hi Z l (e / 16)
  · have : hc Z l e = e := @if_pos _ (Classical.propDecidable _) q _ _ _
    rw [this]; unfold ce; rw [if_pos h]; omega
  · have : hc Z l e = 16 * (e % 16) + e / 16 := @if_neg _ (Classical.propDecidable _) q _ _ _
    rw [this, ce_16 (by omega) (by omega), if_neg (by omega)]; omega
theorem hc_ce (ho : ge_ok X Y n) {x : Nat} (h : cS X Y Z n l x) : hc Z l (ce x) = x ∧ ce x / 16 < ce x % 16 := by
  obtain ⟨x1, x2, x3, x4⟩ := cS_lt ho h
  have n16 := ho.1
  unfold ce
  by_cases q : x / 16 < x % 16
  · rw [if_pos q]
    have d1 : (16 * (x / 16) + x % 16) / 16 = x / 16 := by omega
    refine ⟨?_, by omega⟩
    have : hc Z l (16 * (x / 16) + x % 16) = 16 * (x / 16) + x % 16 := @if_pos _ (Classical.propDecidable _) (by rw [d1]; exact h.1.1) _ _ _
    rw [this]; omega
  · rw [if_neg q]
    have d1 : (16 * (x % 16) + x / 16) / 16 = x % 16 := by omega
    have d2 : (16 * (x % 16) + x / 16) % 16 = x / 16 := by omega
    refine ⟨?_, by omega⟩
    have : hc Z l (16 * (x % 16) + x / 16) = 16 * ((16 * (x % 16) + x / 16) % 16) + (16 * (x % 16) + x / 16) / 16 := @if_neg _ (Classical.propDecidable _) (by rw [d1]; exact h.1.2) _ _ _
    rw [this]; omega
/-- THE CONTOURS FOUND -/
theorem mo_contours {post : St → Prop} (hS : sM g n X Y Z) (hM : mM (tl X Y n 4096) g) (hl : 0 ≤ l ∧ l ≤ 998)
    (h : ∀ g', lM (ct X Y Z n l 256) g' → fm [5, 6, 7, 8, 9, 10, 11, 12] [11, 15] g g' → post g') : wp_mo_findContours (iI l) g post := by
  have ho := hS.1
  have n16 := ho.1
  have L27 := tl_27 (k := 4096) ho
  have inS : ∀ g', fm [5, 6, 7, 8, 9, 10, 11, 12] [11, 15] g g' → sM g' n X Y Z := fun g' f => hS.fm f (by decide) (by decide) (by decide) (by decide)
  have inM : ∀ g', fm [5, 6, 7, 8, 9, 10, 11, 12] [11, 15] g g' → mM (tl X Y n 4096) g' := fun g' f => by
    obtain ⟨m1, m2⟩ := hM
    refine ⟨by rw [f.2 5 (by decide)]; exact m1, ?_⟩
    rw [f.1 4 (by decide) (by decide)]; exact m2
  unfold wp_mo_findContours
  try dsimp only
  -- the third loop
  have L134 : ∀ m e (g2 : St), e + m = 256 → lM (ct X Y Z n l e) g2 → fM X Y Z n l g2 → (∀ e, e < 256 → ((∃ x, cS X Y Z n l x ∧ ce x = e) → g2 5 e = 1) ∧ ((¬ ∃ x, cS X Y Z n l x ∧ ce x = e) → g2 5 e = 0)) → fm [5, 6, 7, 8, 9, 10, 11, 12] [11, 15] g g2 →
      lp_mo_findContours_L134 (m + 1) (nI e) g2 (fun g14 => (post g14)) post := by
    intro m
    induction m with
    | zero =>
      intro e g2 he hl2 hf his f2
      have : e = 256 := by omega
      subst this
      unfold lp_mo_findContours_L134
      try dsimp only
      exact ⟨fun _ => h g2 hl2 f2, fun q => absurd (by decide) q⟩
    | succ m ih =>
      intro e g2 he hl2 hf his f2
      have e256 : e < 256 := by omega
      have go : ∀ g3, lM (ct X Y Z n l (e + 1)) g3 → (∀ k, k ≠ 0 → k ≠ 8 → k ≠ 9 → k ≠ 10 → k ≠ 11 → k ≠ 12 → g3 k = g2 k) → fm [5, 6, 7, 8, 9, 10, 11, 12] [11, 15] g g3 → lp_mo_findContours_L134 (m + 1) (nI e + 1) g3 (fun g14 => (post g14)) post := fun g3 a b c => by
        rw [nI_1]
        refine ih (e + 1) g3 (by omega) a (fun x hx => ?_) (fun e' he' => ?_) c
        · rw [b 6 (by decide) (by decide) (by decide) (by decide) (by decide) (by decide), b 7 (by decide) (by decide) (by decide) (by decide) (by decide) (by decide)]; exact hf x hx
        · rw [b 5 (by decide) (by decide) (by decide) (by decide) (by decide) (by decide)]; exact his e' he'
      unfold lp_mo_findContours_L134
      try dsimp only
      rw [ix_nI (by omega)]
      refine ⟨fun q => ?_, fun _ => ⟨vp_in_nI (by omega) (by omega), fun q => ?_, fun q => ⟨vp_in_nI (by omega) (by omega), fun q2 => ?_, fun q2 => ?_⟩⟩⟩
      · rw [show (256 : Int32) = nI 256 from rfl, nI_leI (by omega) (by omega)] at q; omega
      · have no : ¬ ∃ x, cS X Y Z n l x ∧ ce x = e := fun w => by rw [(his e e256).1 w] at q; exact absurd q (by decide)
        refine go g2 ?_ (fun _ _ _ _ _ _ _ => rfl) f2
        rw [ct_s0 (fun w => no ⟨_, w.2.1, ce_hc ho e256 w.1⟩)]; exact hl2
      · obtain ⟨x, hx, ex⟩ : ∃ x, cS X Y Z n l x ∧ ce x = e := Classical.byContradiction fun w => q ((his e e256).2 w)
        have t : ∃ x, ct_T (ct X Y Z n l e) x ∧ ce x = e := Classical.byContradiction fun w => q2 ((hl2.2.2.2.2 e e256).2 w)
        refine go g2 ?_ (fun _ _ _ _ _ _ _ => rfl) f2
        rw [ct_s0 (fun w => ?_)]
        · exact hl2
        · obtain ⟨y, y1, y2⟩ := t
          have ys : cS X Y Z n l y := by obtain ⟨i, i1, i2⟩ := y1; rw [← i2]; exact (ct_all ho e).2.2.2.1 i i1
          have := (hc_ce ho ys).1
          rw [y2] at this
          rw [this] at w
          exact w.2.2 y1
      · obtain ⟨x, hx, ex⟩ : ∃ x, cS X Y Z n l x ∧ ce x = e := Classical.byContradiction fun w => q ((his e e256).2 w)
        have nt : ¬ ct_T (ct X Y Z n l e) x := fun t => by rw [(hl2.2.2.2.2 e e256).1 ⟨x, t, ex⟩] at q2; exact absurd q2 (by decide)
        obtain ⟨hx1, hx2⟩ := hc_ce ho hx
        rw [ex] at hx1 hx2
        rw [← ex]
        refine mo_gather ho hf (ct_all ho e) hl2 hx nt (fun g3 l3 f3 => ?_)
        rw [ex]
        refine go g3 ?_ (fun k k0 a b c d e => f3.1 k k0 (by simp only [List.mem_cons, List.not_mem_nil, or_false, not_or]; exact ⟨a, b, c, d, e⟩)) (f2.tr (f3.mono (by decide) (by decide)))
        rw [ct_s1 ⟨hx2, by rw [hx1]; exact hx, by rw [hx1]; exact nt⟩, hx1]; exact l3
  -- the second loop
  have L45 : ∀ m t (g2 : St), t + m = (tl X Y n 4096).length → jM X Y Z l (jP Z l ((tl X Y n 4096).take t)) g2 → (∀ e, e < 256 → g2 8 e = 0) → fm [5, 6, 7, 8, 9, 10, 11, 12] [11, 15] g g2 →
      lp_mo_findContours_L45 (m + 1) (iI l) (nI t) g2 (fun g10 => (∀ g11 : St, g11 = gp g10 0 11 0 → (∀ g12 : St, g12 = gp g11 0 15 0 → (∃ k134, lp_mo_findContours_L134 k134 0 g12 (fun g14 => (post g14)) post)))) post := by
    intro m
    induction m with
    | zero =>
      intro t g2 ht hj h8 f2
      have M2 := inM g2 f2
      have et : t = (tl X Y n 4096).length := by omega
      unfold lp_mo_findContours_L45
      try dsimp only
      rw [M2.1]
      refine ⟨fun _ g11 e11 g12 e12 => ⟨257, ?_⟩, fun q => absurd ((nI_leI (by omega) (by omega)).mpr (by omega)) q⟩
      rw [et, List.take_length] at hj
      obtain ⟨a1, a2⟩ := jM_all ho hj
      have k12 : ∀ k, k ≠ 0 → g12 k = g2 k := fun k k0 => by rw [e12, gp_n k0, e11, gp_n k0]
      refine L134 256 0 g12 (by omega) ⟨?_, ?_, fun k hk => absurd hk (Nat.not_lt_zero _), fun i hi => absurd hi (Nat.not_lt_zero _), fun e he => ⟨fun ⟨x, ⟨i, i1, _⟩, _⟩ => absurd i1 (Nat.not_lt_zero _), fun _ => ?_⟩⟩ (fun x hx => ?_) (fun e he => ?_) ?_
      · rw [e12, gp_o (by decide), e11]; exact gp_s
      · rw [e12]; exact gp_s
      · rw [k12 8 (by decide)]; exact h8 e he
      · rw [k12 6 (by decide), k12 7 (by decide)]; exact a1 x hx
      · rw [k12 5 (by decide)]; exact a2 e he
      · rw [e12, e11]; exact (f2.g0 (by decide)).g0 (by decide)
    | succ m ih =>
      intro t g2 ht hj h8 f2
      have M2 := inM g2 f2
      have tl' : t < (tl X Y n 4096).length := by omega
      obtain ⟨b1, b2, b3⟩ := M2.2 t tl'
      obtain ⟨xk, xt⟩ := tl_get tl'
      generalize hx : (tl X Y n 4096).getD t 0 = x at *
      have T := ge_T_of ho xt
      have tk : (tl X Y n 4096).take (t + 1) = (tl X Y n 4096).take t ++ [x] := by
        rw [List.take_succ, ← hx, List.getD_eq_getElem?_getD]
        rw [List.getElem?_eq_getElem tl']; rfl
      unfold lp_mo_findContours_L45
      try dsimp only
      rw [M2.1, pk3', show (1 : Int32) = nI 1 from rfl, show (2 : Int32) = nI 2 from rfl, nI_add, nI_add, nI_add, ix_nI (by omega), ix_nI (by omega), ix_nI (by omega), b1, b2, b3]
      refine ⟨fun q => absurd ((nI_leI (by omega) (by omega)).mp q) (by omega), fun _ => ⟨vp_in_nI (by omega) (by omega), vp_in_nI (by omega) (by omega), vp_in_nI (by omega) (by omega), ?_⟩⟩
      have ok0 : jOk X Y Z n l (jP Z l ((tl X Y n 4096).take t)) := fun h w r p => by
        obtain ⟨p1, p2, y, p3, p4⟩ := p
        exact ⟨p1, p2, ge_pm_T (ge_T_of ho (tl_mem.mp (List.mem_of_mem_take p3)).2) p4⟩
      have S2 := inS g2 f2
      refine mo_pair S2 hl T ok0 hj (fun g3 P3 ok3 j3 i3 f3 => ?_)
      have F3 := f2.tr (f3.mono (S' := [5, 6, 7, 8, 9, 10, 11, 12]) (T' := [11, 15]) (by decide) (by decide))
      refine mo_pair (inS g3 F3) hl (ge_T_sw T) ok3 j3 (fun g4 P4 ok4 j4 i4 f4 => ?_)
      have F4 := F3.tr (f4.mono (S' := [5, 6, 7, 8, 9, 10, 11, 12]) (T' := [11, 15]) (by decide) (by decide))
      refine mo_pair (inS g4 F4) hl (ge_T_rot T) ok4 j4 (fun g5 P5 ok5 j5 i5 f5 => ?_)
      have F5 := F4.tr (f5.mono (S' := [5, 6, 7, 8, 9, 10, 11, 12]) (T' := [11, 15]) (by decide) (by decide))
      refine ih (t + 1) g5 (by omega) (jM_ext (fun h w r => ?_) j5) (fun e he => ?_) F5
      · rw [tk, jP_app, i5, i4, i3]
        unfold ge_pm
        constructor
        · rintro (((p | ⟨q1, q2, p | p⟩) | ⟨q1, q2, p | p⟩) | ⟨q1, q2, p | p⟩)
          · exact Or.inl p
          · exact Or.inr ⟨q1, q2, Or.inl p⟩
          · exact Or.inr ⟨q1, q2, Or.inr (Or.inr (Or.inl p))⟩
          · exact Or.inr ⟨q1, q2, Or.inr (Or.inl p)⟩
          · exact Or.inr ⟨q1, q2, Or.inr (Or.inr (Or.inr (Or.inr (Or.inl p))))⟩
          · exact Or.inr ⟨q1, q2, Or.inr (Or.inr (Or.inr (Or.inl p)))⟩
          · exact Or.inr ⟨q1, q2, Or.inr (Or.inr (Or.inr (Or.inr (Or.inr p))))⟩
        · rintro (p | ⟨q1, q2, p | p | p | p | p | p⟩)
          · exact Or.inl (Or.inl (Or.inl p))
          · exact Or.inl (Or.inl (Or.inr ⟨q1, q2, Or.inl p⟩))
          · exact Or.inl (Or.inr ⟨q1, q2, Or.inl p⟩)
          · exact Or.inl (Or.inl (Or.inr ⟨q1, q2, Or.inr p⟩))
          · exact Or.inr ⟨q1, q2, Or.inl p⟩
          · exact Or.inl (Or.inr ⟨q1, q2, Or.inr p⟩)
          · exact Or.inr ⟨q1, q2, Or.inr p⟩
      · rw [f5.1 8 (by decide) (by decide), f4.1 8 (by decide) (by decide), f3.1 8 (by decide) (by decide)]; exact h8 e he
  -- the first loop
  have L2 : ∀ m e (g2 : St), e + m = 256 → (∀ j, j < e → g2 5 j = 0 ∧ g2 8 j = 0 ∧ g2 6 j = -1 ∧ g2 7 j = -1) → fm [5, 6, 7, 8, 9, 10, 11, 12] [11, 15] g g2 →
      lp_mo_findContours_L2 (m + 1) (iI l) (nI e) g2 (fun w6 g5 => (∃ k45, lp_mo_findContours_L45 k45 w6 0 g5 (fun g10 => (∀ g11 : St, g11 = gp g10 0 11 0 → (∀ g12 : St, g12 = gp g11 0 15 0 → (∃ k134, lp_mo_findContours_L134 k134 0 g12 (fun g14 => (post g14)) post)))) post)) post := by
    intro m
    induction m with
    | zero =>
      intro e g2 he ha f2
      have : e = 256 := by omega
      subst this
      unfold lp_mo_findContours_L2
      try dsimp only
      refine ⟨fun _ => ⟨(tl X Y n 4096).length + 1, L45 _ 0 g2 (by omega) ?_ (fun j hj => (ha j hj).2.1) f2⟩, fun q => absurd (by decide) q⟩
      have em : ∀ h w r, ¬ jP Z l ((tl X Y n 4096).take 0) h w r := fun h w r ⟨_, _, x, q, _⟩ => by rw [List.take_zero] at q; exact absurd q List.not_mem_nil
      exact ⟨⟨fun h w r p => absurd p (em h w r), fun j hj _ => (ha j hj).1⟩, ⟨fun h w r p => absurd p (em h w r), fun j hj _ => (ha j hj).2.2.1⟩, fun h w r p => absurd p (em h w r), fun j hj _ => (ha j hj).2.2.2⟩
    | succ m ih =>
      intro e g2 he ha f2
      unfold lp_mo_findContours_L2
      try dsimp only
      rw [ix_nI (by omega), vn_0]
      have v := vp_in_nI (n := e) (N := 256) (by omega) (by omega)
      refine ⟨fun q => ?_, fun _ => ⟨v, fun g3 e3 => ⟨v, fun g4 e4 => ⟨v, fun g5 e5 => ⟨v, fun g6 e6 => ?_⟩⟩⟩⟩⟩
      · rw [show (256 : Int32) = nI 256 from rfl, nI_leI (by omega) (by omega)] at q; omega
      · rw [nI_1]
        refine ih (e + 1) g6 (by omega) (fun j hj => ?_) ?_
        · have w5 : g6 5 = g3 5 := by rw [e6, gp_n (by decide), e5, gp_n (by decide), e4, gp_n (by decide)]
          have w8 : g6 8 = g4 8 := by rw [e6, gp_n (by decide), e5, gp_n (by decide)]
          have w6 : g6 6 = g5 6 := by rw [e6, gp_n (by decide)]
          rw [w5, w8, w6, e6, e5, e3, e4]
          by_cases q : j = e
          · rw [q]; exact ⟨gp_s, gp_s, gp_s, gp_s⟩
          · rw [gp_o q, gp_o q, gp_o q, gp_o q, e3, gp_n (by decide), gp_n (by decide), gp_n (by decide), gp_n (by decide), gp_n (by decide), gp_n (by decide)]
            exact ha j (by omega)
        · rw [e6, e5, e4, e3]
          exact (((f2.pt (by decide) (by decide)).pt (by decide) (by decide)).pt (by decide) (by decide)).pt (by decide) (by decide)
  exact ⟨257, L2 256 0 g (by omega) (fun j hj => absurd hj (by omega)) fm.rf⟩
end
end
section
/-! Began as PART A of the skeleton; then the words of all methods in one list. -/
-- ===== PART A: goes FIRST, ahead of the names: the tables' words, and 'selects' of the private methods out of them =====
/-- a private method of a class that the tables say can be made, by its rows of tables_1 -/
def lw_okq (q : MethodName × Nat) : Prop := (q.1.cls ≠ "java/lang/invoke/MethodHandle" ∧ q.1.cls ≠ "java/lang/invoke/VarHandle") ∧ Cond.instantiable q.1.cls q.2 ∈ tables_1 ∧ Cond.privateMethod q.1 ∈ tables_1 ∧ Cond.instanceMethod q.1 ∈ tables_1
theorem lw_p0 : lw_okq (⟨"SpotContours$Mesh", "clear", "()V"⟩, 3) := ⟨⟨by decide +kernel, by decide +kernel⟩, List.mem_of_getElem? (i := 44) (by decide +kernel), List.mem_of_getElem? (i := 50) (by decide +kernel), List.mem_of_getElem? (i := 51) (by decide +kernel)⟩
theorem lw_p1 : lw_okq (⟨"java/lang/Throwable", "fillInStackTrace", "(I)Ljava/lang/Throwable;"⟩, 6) := ⟨⟨by decide +kernel, by decide +kernel⟩, List.mem_of_getElem? (i := 204) (by decide +kernel), List.mem_of_getElem? (i := 202) (by decide +kernel), List.mem_of_getElem? (i := 203) (by decide +kernel)⟩
theorem lw_p2 : lw_okq (⟨"SpotContours$Spots", "depthInCircle", "(IIII)J"⟩, 4) := ⟨⟨by decide +kernel, by decide +kernel⟩, List.mem_of_getElem? (i := 24) (by decide +kernel), List.mem_of_getElem? (i := 272) (by decide +kernel), List.mem_of_getElem? (i := 273) (by decide +kernel)⟩
theorem lw_p3 : lw_okq (⟨"SpotContours$Spots", "squareFrom", "(II)J"⟩, 4) := ⟨⟨by decide +kernel, by decide +kernel⟩, List.mem_of_getElem? (i := 24) (by decide +kernel), List.mem_of_getElem? (i := 276) (by decide +kernel), List.mem_of_getElem? (i := 277) (by decide +kernel)⟩
theorem lw_p4 : lw_okq (⟨"SpotContours$Spots", "areOpposite", "(IIII)Z"⟩, 4) := ⟨⟨by decide +kernel, by decide +kernel⟩, List.mem_of_getElem? (i := 24) (by decide +kernel), List.mem_of_getElem? (i := 281) (by decide +kernel), List.mem_of_getElem? (i := 282) (by decide +kernel)⟩
theorem lw_p5 : lw_okq (⟨"SpotContours$Mesh", "add", "(IIIZ)V"⟩, 3) := ⟨⟨by decide +kernel, by decide +kernel⟩, List.mem_of_getElem? (i := 44) (by decide +kernel), List.mem_of_getElem? (i := 285) (by decide +kernel), List.mem_of_getElem? (i := 286) (by decide +kernel)⟩
theorem lw_p6 : lw_okq (⟨"SpotContours$Mesh", "addSides", "(III)V"⟩, 3) := ⟨⟨by decide +kernel, by decide +kernel⟩, List.mem_of_getElem? (i := 44) (by decide +kernel), List.mem_of_getElem? (i := 289) (by decide +kernel), List.mem_of_getElem? (i := 290) (by decide +kernel)⟩
theorem lw_p7 : lw_okq (⟨"SpotContours$Mesh", "heightIn", "(LSpotContours$Spots;III)I"⟩, 3) := ⟨⟨by decide +kernel, by decide +kernel⟩, List.mem_of_getElem? (i := 44) (by decide +kernel), List.mem_of_getElem? (i := 366) (by decide +kernel), List.mem_of_getElem? (i := 367) (by decide +kernel)⟩
theorem lw_p8 : lw_okq (⟨"SpotContours", "traceLevel", "(I)V"⟩, 4) := ⟨⟨by decide +kernel, by decide +kernel⟩, List.mem_of_getElem? (i := 16) (by decide +kernel), List.mem_of_getElem? (i := 398) (by decide +kernel), List.mem_of_getElem? (i := 399) (by decide +kernel)⟩
theorem lw_p9 : lw_okq (⟨"SpotContours$Lines", "clear", "()V"⟩, 6) := ⟨⟨by decide +kernel, by decide +kernel⟩, List.mem_of_getElem? (i := 64) (by decide +kernel), List.mem_of_getElem? (i := 406) (by decide +kernel), List.mem_of_getElem? (i := 407) (by decide +kernel)⟩
theorem lw_p10 : lw_okq (⟨"SpotContours$Lines", "traceFrom", "(LSpotContours$Mesh;I)V"⟩, 6) := ⟨⟨by decide +kernel, by decide +kernel⟩, List.mem_of_getElem? (i := 64) (by decide +kernel), List.mem_of_getElem? (i := 413) (by decide +kernel), List.mem_of_getElem? (i := 414) (by decide +kernel)⟩
theorem lw_p11 : lw_okq (⟨"SpotContours$Lines", "beginning", "(LSpotContours$Mesh;I)I"⟩, 6) := ⟨⟨by decide +kernel, by decide +kernel⟩, List.mem_of_getElem? (i := 64) (by decide +kernel), List.mem_of_getElem? (i := 417) (by decide +kernel), List.mem_of_getElem? (i := 418) (by decide +kernel)⟩
theorem lw_p12 : lw_okq (⟨"SpotContours$Lines", "before", "(LSpotContours$Mesh;I)I"⟩, 6) := ⟨⟨by decide +kernel, by decide +kernel⟩, List.mem_of_getElem? (i := 64) (by decide +kernel), List.mem_of_getElem? (i := 421) (by decide +kernel), List.mem_of_getElem? (i := 422) (by decide +kernel)⟩
theorem lw_p13 : lw_okq (⟨"SpotContours$Lines", "otherPair", "(III)I"⟩, 6) := ⟨⟨by decide +kernel, by decide +kernel⟩, List.mem_of_getElem? (i := 64) (by decide +kernel), List.mem_of_getElem? (i := 432) (by decide +kernel), List.mem_of_getElem? (i := 433) (by decide +kernel)⟩
theorem lw_p14 : lw_okq (⟨"SpotContours$Lines", "behind", "(LSpotContours$Mesh;I)I"⟩, 6) := ⟨⟨by decide +kernel, by decide +kernel⟩, List.mem_of_getElem? (i := 64) (by decide +kernel), List.mem_of_getElem? (i := 436) (by decide +kernel), List.mem_of_getElem? (i := 437) (by decide +kernel)⟩
theorem lw_p15 : lw_okq (⟨"SpotContours", "pairAt", "(II)I"⟩, 4) := ⟨⟨by decide +kernel, by decide +kernel⟩, List.mem_of_getElem? (i := 16) (by decide +kernel), List.mem_of_getElem? (i := 486) (by decide +kernel), List.mem_of_getElem? (i := 487) (by decide +kernel)⟩
def lw_privs_1 : List (MethodName × Nat) := [(⟨"SpotContours$Mesh", "clear", "()V"⟩, 3), (⟨"java/lang/Throwable", "fillInStackTrace", "(I)Ljava/lang/Throwable;"⟩, 6), (⟨"SpotContours$Spots", "depthInCircle", "(IIII)J"⟩, 4), (⟨"SpotContours$Spots", "squareFrom", "(II)J"⟩, 4), (⟨"SpotContours$Spots", "areOpposite", "(IIII)Z"⟩, 4), (⟨"SpotContours$Mesh", "add", "(IIIZ)V"⟩, 3), (⟨"SpotContours$Mesh", "addSides", "(III)V"⟩, 3), (⟨"SpotContours$Mesh", "heightIn", "(LSpotContours$Spots;III)I"⟩, 3), (⟨"SpotContours", "traceLevel", "(I)V"⟩, 4), (⟨"SpotContours$Lines", "clear", "()V"⟩, 6), (⟨"SpotContours$Lines", "traceFrom", "(LSpotContours$Mesh;I)V"⟩, 6), (⟨"SpotContours$Lines", "beginning", "(LSpotContours$Mesh;I)I"⟩, 6), (⟨"SpotContours$Lines", "before", "(LSpotContours$Mesh;I)I"⟩, 6), (⟨"SpotContours$Lines", "otherPair", "(III)I"⟩, 6), (⟨"SpotContours$Lines", "behind", "(LSpotContours$Mesh;I)I"⟩, 6), (⟨"SpotContours", "pairAt", "(II)I"⟩, 4)]
theorem lw_r1 : ∀ q ∈ lw_privs_1, lw_okq q := List.forall_mem_cons.mpr ⟨lw_p0, List.forall_mem_cons.mpr ⟨lw_p1, List.forall_mem_cons.mpr ⟨lw_p2, List.forall_mem_cons.mpr ⟨lw_p3, List.forall_mem_cons.mpr ⟨lw_p4, List.forall_mem_cons.mpr ⟨lw_p5, List.forall_mem_cons.mpr ⟨lw_p6, List.forall_mem_cons.mpr ⟨lw_p7, List.forall_mem_cons.mpr ⟨lw_p8, List.forall_mem_cons.mpr ⟨lw_p9, List.forall_mem_cons.mpr ⟨lw_p10, List.forall_mem_cons.mpr ⟨lw_p11, List.forall_mem_cons.mpr ⟨lw_p12, List.forall_mem_cons.mpr ⟨lw_p13, List.forall_mem_cons.mpr ⟨lw_p14, List.forall_mem_cons.mpr ⟨lw_p15, fun _ h => absurd h List.not_mem_nil⟩⟩⟩⟩⟩⟩⟩⟩⟩⟩⟩⟩⟩⟩⟩⟩
theorem lw_p16 : lw_okq (⟨"SpotContours$Spots", "crossingOf", "([III)I"⟩, 4) := ⟨⟨by decide +kernel, by decide +kernel⟩, List.mem_of_getElem? (i := 24) (by decide +kernel), List.mem_of_getElem? (i := 510) (by decide +kernel), List.mem_of_getElem? (i := 511) (by decide +kernel)⟩
theorem lw_p17 : lw_okq (⟨"SpotContours", "firstFreePair", "(II)I"⟩, 4) := ⟨⟨by decide +kernel, by decide +kernel⟩, List.mem_of_getElem? (i := 16) (by decide +kernel), List.mem_of_getElem? (i := 528) (by decide +kernel), List.mem_of_getElem? (i := 529) (by decide +kernel)⟩
theorem lw_p18 : lw_okq (⟨"SpotContoursModel", "findTriangles", "()V"⟩, 21) := ⟨⟨by decide +kernel, by decide +kernel⟩, List.mem_of_getElem? (i := 575) (by decide +kernel), List.mem_of_getElem? (i := 653) (by decide +kernel), List.mem_of_getElem? (i := 654) (by decide +kernel)⟩
theorem lw_p19 : lw_okq (⟨"SpotContoursModel", "isTriangle", "(III)Z"⟩, 21) := ⟨⟨by decide +kernel, by decide +kernel⟩, List.mem_of_getElem? (i := 575) (by decide +kernel), List.mem_of_getElem? (i := 657) (by decide +kernel), List.mem_of_getElem? (i := 658) (by decide +kernel)⟩
theorem lw_p20 : lw_okq (⟨"SpotContoursModel", "turn", "(III)I"⟩, 21) := ⟨⟨by decide +kernel, by decide +kernel⟩, List.mem_of_getElem? (i := 575) (by decide +kernel), List.mem_of_getElem? (i := 661) (by decide +kernel), List.mem_of_getElem? (i := 662) (by decide +kernel)⟩
theorem lw_p21 : lw_okq (⟨"SpotContoursModel", "isIn", "(IIII)Z"⟩, 21) := ⟨⟨by decide +kernel, by decide +kernel⟩, List.mem_of_getElem? (i := 575) (by decide +kernel), List.mem_of_getElem? (i := 665) (by decide +kernel), List.mem_of_getElem? (i := 666) (by decide +kernel)⟩
theorem lw_p22 : lw_okq (⟨"SpotContoursModel", "inside", "(IIII)J"⟩, 21) := ⟨⟨by decide +kernel, by decide +kernel⟩, List.mem_of_getElem? (i := 575) (by decide +kernel), List.mem_of_getElem? (i := 669) (by decide +kernel), List.mem_of_getElem? (i := 670) (by decide +kernel)⟩
theorem lw_p23 : lw_okq (⟨"SpotContoursModel", "square", "(II)J"⟩, 21) := ⟨⟨by decide +kernel, by decide +kernel⟩, List.mem_of_getElem? (i := 575) (by decide +kernel), List.mem_of_getElem? (i := 673) (by decide +kernel), List.mem_of_getElem? (i := 674) (by decide +kernel)⟩
theorem lw_p24 : lw_okq (⟨"SpotContoursModel", "parts", "(IIII)Z"⟩, 21) := ⟨⟨by decide +kernel, by decide +kernel⟩, List.mem_of_getElem? (i := 575) (by decide +kernel), List.mem_of_getElem? (i := 677) (by decide +kernel), List.mem_of_getElem? (i := 678) (by decide +kernel)⟩
theorem lw_p25 : lw_okq (⟨"SpotContoursModel", "isSpot", "(I)Z"⟩, 21) := ⟨⟨by decide +kernel, by decide +kernel⟩, List.mem_of_getElem? (i := 575) (by decide +kernel), List.mem_of_getElem? (i := 685) (by decide +kernel), List.mem_of_getElem? (i := 686) (by decide +kernel)⟩
theorem lw_p26 : lw_okq (⟨"SpotContoursModel", "has", "(II)Z"⟩, 21) := ⟨⟨by decide +kernel, by decide +kernel⟩, List.mem_of_getElem? (i := 575) (by decide +kernel), List.mem_of_getElem? (i := 701) (by decide +kernel), List.mem_of_getElem? (i := 702) (by decide +kernel)⟩
theorem lw_p27 : lw_okq (⟨"SpotContoursModel", "toPlace", "(IIII)J"⟩, 21) := ⟨⟨by decide +kernel, by decide +kernel⟩, List.mem_of_getElem? (i := 575) (by decide +kernel), List.mem_of_getElem? (i := 709) (by decide +kernel), List.mem_of_getElem? (i := 710) (by decide +kernel)⟩
theorem lw_p28 : lw_okq (⟨"SpotContoursModel", "findContours", "(I)V"⟩, 21) := ⟨⟨by decide +kernel, by decide +kernel⟩, List.mem_of_getElem? (i := 575) (by decide +kernel), List.mem_of_getElem? (i := 723) (by decide +kernel), List.mem_of_getElem? (i := 724) (by decide +kernel)⟩
theorem lw_p29 : lw_okq (⟨"SpotContoursModel", "pair", "(IIII)V"⟩, 21) := ⟨⟨by decide +kernel, by decide +kernel⟩, List.mem_of_getElem? (i := 575) (by decide +kernel), List.mem_of_getElem? (i := 727) (by decide +kernel), List.mem_of_getElem? (i := 728) (by decide +kernel)⟩
theorem lw_p30 : lw_okq (⟨"SpotContoursModel", "isHigh", "(II)Z"⟩, 21) := ⟨⟨by decide +kernel, by decide +kernel⟩, List.mem_of_getElem? (i := 575) (by decide +kernel), List.mem_of_getElem? (i := 731) (by decide +kernel), List.mem_of_getElem? (i := 732) (by decide +kernel)⟩
theorem lw_p31 : lw_okq (⟨"SpotContoursModel", "join", "(IIII)V"⟩, 21) := ⟨⟨by decide +kernel, by decide +kernel⟩, List.mem_of_getElem? (i := 575) (by decide +kernel), List.mem_of_getElem? (i := 738) (by decide +kernel), List.mem_of_getElem? (i := 739) (by decide +kernel)⟩
def lw_privs_2 : List (MethodName × Nat) := [(⟨"SpotContours$Spots", "crossingOf", "([III)I"⟩, 4), (⟨"SpotContours", "firstFreePair", "(II)I"⟩, 4), (⟨"SpotContoursModel", "findTriangles", "()V"⟩, 21), (⟨"SpotContoursModel", "isTriangle", "(III)Z"⟩, 21), (⟨"SpotContoursModel", "turn", "(III)I"⟩, 21), (⟨"SpotContoursModel", "isIn", "(IIII)Z"⟩, 21), (⟨"SpotContoursModel", "inside", "(IIII)J"⟩, 21), (⟨"SpotContoursModel", "square", "(II)J"⟩, 21), (⟨"SpotContoursModel", "parts", "(IIII)Z"⟩, 21), (⟨"SpotContoursModel", "isSpot", "(I)Z"⟩, 21), (⟨"SpotContoursModel", "has", "(II)Z"⟩, 21), (⟨"SpotContoursModel", "toPlace", "(IIII)J"⟩, 21), (⟨"SpotContoursModel", "findContours", "(I)V"⟩, 21), (⟨"SpotContoursModel", "pair", "(IIII)V"⟩, 21), (⟨"SpotContoursModel", "isHigh", "(II)Z"⟩, 21), (⟨"SpotContoursModel", "join", "(IIII)V"⟩, 21)]
theorem lw_r2 : ∀ q ∈ lw_privs_2, lw_okq q := List.forall_mem_cons.mpr ⟨lw_p16, List.forall_mem_cons.mpr ⟨lw_p17, List.forall_mem_cons.mpr ⟨lw_p18, List.forall_mem_cons.mpr ⟨lw_p19, List.forall_mem_cons.mpr ⟨lw_p20, List.forall_mem_cons.mpr ⟨lw_p21, List.forall_mem_cons.mpr ⟨lw_p22, List.forall_mem_cons.mpr ⟨lw_p23, List.forall_mem_cons.mpr ⟨lw_p24, List.forall_mem_cons.mpr ⟨lw_p25, List.forall_mem_cons.mpr ⟨lw_p26, List.forall_mem_cons.mpr ⟨lw_p27, List.forall_mem_cons.mpr ⟨lw_p28, List.forall_mem_cons.mpr ⟨lw_p29, List.forall_mem_cons.mpr ⟨lw_p30, List.forall_mem_cons.mpr ⟨lw_p31, fun _ h => absurd h List.not_mem_nil⟩⟩⟩⟩⟩⟩⟩⟩⟩⟩⟩⟩⟩⟩⟩⟩
theorem lw_p32 : lw_okq (⟨"SpotContoursModel", "gather", "(I)V"⟩, 21) := ⟨⟨by decide +kernel, by decide +kernel⟩, List.mem_of_getElem? (i := 575) (by decide +kernel), List.mem_of_getElem? (i := 742) (by decide +kernel), List.mem_of_getElem? (i := 743) (by decide +kernel)⟩
theorem lw_p33 : lw_okq (⟨"SpotContoursModel", "asked", "(II)I"⟩, 21) := ⟨⟨by decide +kernel, by decide +kernel⟩, List.mem_of_getElem? (i := 575) (by decide +kernel), List.mem_of_getElem? (i := 750) (by decide +kernel), List.mem_of_getElem? (i := 751) (by decide +kernel)⟩
theorem lw_p34 : lw_okq (⟨"SpotContoursModel", "isHollow", "(II)Z"⟩, 21) := ⟨⟨by decide +kernel, by decide +kernel⟩, List.mem_of_getElem? (i := 575) (by decide +kernel), List.mem_of_getElem? (i := 754) (by decide +kernel), List.mem_of_getElem? (i := 755) (by decide +kernel)⟩
theorem lw_p35 : lw_okq (⟨"SpotContoursModel", "askedFor", "(III)I"⟩, 21) := ⟨⟨by decide +kernel, by decide +kernel⟩, List.mem_of_getElem? (i := 575) (by decide +kernel), List.mem_of_getElem? (i := 762) (by decide +kernel), List.mem_of_getElem? (i := 763) (by decide +kernel)⟩
theorem lw_p36 : lw_okq (⟨"SpotContoursModel", "placeOf", "(II)I"⟩, 21) := ⟨⟨by decide +kernel, by decide +kernel⟩, List.mem_of_getElem? (i := 575) (by decide +kernel), List.mem_of_getElem? (i := 770) (by decide +kernel), List.mem_of_getElem? (i := 771) (by decide +kernel)⟩
theorem lw_p37 : lw_okq (⟨"SpotContoursModel", "labelContour", "(II)V"⟩, 21) := ⟨⟨by decide +kernel, by decide +kernel⟩, List.mem_of_getElem? (i := 575) (by decide +kernel), List.mem_of_getElem? (i := 779) (by decide +kernel), List.mem_of_getElem? (i := 780) (by decide +kernel)⟩
theorem lw_p38 : lw_okq (⟨"SpotContoursModel", "clashes", "(II)Z"⟩, 21) := ⟨⟨by decide +kernel, by decide +kernel⟩, List.mem_of_getElem? (i := 575) (by decide +kernel), List.mem_of_getElem? (i := 783) (by decide +kernel), List.mem_of_getElem? (i := 784) (by decide +kernel)⟩
theorem lw_p39 : lw_okq (⟨"SpotContoursModel", "isNear", "(III)Z"⟩, 21) := ⟨⟨by decide +kernel, by decide +kernel⟩, List.mem_of_getElem? (i := 575) (by decide +kernel), List.mem_of_getElem? (i := 787) (by decide +kernel), List.mem_of_getElem? (i := 788) (by decide +kernel)⟩
def lw_privs_3 : List (MethodName × Nat) := [(⟨"SpotContoursModel", "gather", "(I)V"⟩, 21), (⟨"SpotContoursModel", "asked", "(II)I"⟩, 21), (⟨"SpotContoursModel", "isHollow", "(II)Z"⟩, 21), (⟨"SpotContoursModel", "askedFor", "(III)I"⟩, 21), (⟨"SpotContoursModel", "placeOf", "(II)I"⟩, 21), (⟨"SpotContoursModel", "labelContour", "(II)V"⟩, 21), (⟨"SpotContoursModel", "clashes", "(II)Z"⟩, 21), (⟨"SpotContoursModel", "isNear", "(III)Z"⟩, 21)]
theorem lw_r3 : ∀ q ∈ lw_privs_3, lw_okq q := List.forall_mem_cons.mpr ⟨lw_p32, List.forall_mem_cons.mpr ⟨lw_p33, List.forall_mem_cons.mpr ⟨lw_p34, List.forall_mem_cons.mpr ⟨lw_p35, List.forall_mem_cons.mpr ⟨lw_p36, List.forall_mem_cons.mpr ⟨lw_p37, List.forall_mem_cons.mpr ⟨lw_p38, List.forall_mem_cons.mpr ⟨lw_p39, fun _ h => absurd h List.not_mem_nil⟩⟩⟩⟩⟩⟩⟩⟩
def lw_privs : List (MethodName × Nat) := lw_privs_1 ++ (lw_privs_2 ++ (lw_privs_3))
def lw_tbl : List Cond := k2_sels lw_privs ++ tables_1
theorem lw_privs_ok : ∀ q ∈ lw_privs, lw_okq q := by
  show ∀ q ∈ lw_privs_1 ++ (lw_privs_2 ++ (lw_privs_3)), lw_okq q
  exact List.forall_mem_append.mpr ⟨lw_r1, List.forall_mem_append.mpr ⟨lw_r2, lw_r3⟩⟩
/-- the words that every method needs, once for all -/
def zz_B : List Cond := lw_tbl.filter goodWord
theorem zz_mem {w : Cond} (h : w ∈ lw_tbl) (hg : goodWord w = true) : w ∈ zz_B := List.mem_filter.mpr ⟨h, hg⟩
theorem zz_in {w c : Cond} (h : w ∈ zz_B) : w ∈ c :: zz_B := List.mem_cons_of_mem _ h
theorem zz_good {c c' : Cond} (h : c' ∈ zz_B) : GoodIn (c :: zz_B) (c' :: zz_B) := by
  intro w hw
  rcases List.mem_cons.mp hw with rfl | hw
  · exact ⟨zz_in h, good_of_word (List.mem_filter.mp h).2⟩
  · exact ⟨zz_in hw, good_of_word (List.mem_filter.mp hw).2⟩
section
variable {R : Room} {s : State} {args : Array Value} {own C : String} {index maxL mc ms : Nat} {y : MethodName} {bytes : ByteArray} {ret : Option FieldType} {ws ws' : List Cond} {rm : Room} {c : Cond}
theorem zz_cwV (n : Nat) (ht : ∀ w ∈ c :: zz_B, w.before args s = true) (hG : GoodIn (c :: zz_B) ws) (hw : ws = Cond.code y bytes maxL ret :: ws') (hrc : rm.cells = mc) (hrs : rm.slots = ms)
    (hl : Cond.methodLink own index y ∈ zz_B) (hi : Cond.instanceMethod y ∈ zz_B) (hs : Cond.selects C y y ∈ zz_B) (hini : Cond.initialized y.cls ∈ zz_B)
    (hd : y.cls ≠ "java/lang/invoke/MethodHandle" ∧ y.cls ≠ "java/lang/invoke/VarHandle" ∧ (parseMethodDescriptor y.desc).map (fun d => d.parameters.length) = some n) (hR : rm.frames + 1 ≤ R.frames ∧ 8 + (maxL + 11) + rm.locals ≤ R.locals) :
    CallW R s args own C index y bytes maxL ret ws rm mc ms n :=
  ⟨callB_of n ht hG hw hrc hrs (ht _ (zz_in hini)) (ht _ (zz_in hl)) hd hR, ht _ (zz_in hi), ht _ (zz_in hs)⟩
theorem zz_cwS (n : Nat) (ht : ∀ w ∈ c :: zz_B, w.before args s = true) (hG : GoodIn (c :: zz_B) ws) (hw : ws = Cond.code y bytes maxL ret :: ws') (hrc : rm.cells = mc) (hrs : rm.slots = ms)
    (hl : Cond.methodLink own index y ∈ zz_B) (hs : Cond.static y ∈ zz_B) (hini : Cond.initialized y.cls ∈ zz_B)
    (hd : y.cls ≠ "java/lang/invoke/MethodHandle" ∧ y.cls ≠ "java/lang/invoke/VarHandle" ∧ (parseMethodDescriptor y.desc).map (fun d => d.parameters.length) = some n) (hR : rm.frames + 1 ≤ R.frames ∧ 8 + (maxL + 11) + rm.locals ≤ R.locals) :
    CallB R s args own index y bytes maxL ret ws rm mc ms n ∧ (Cond.static y).before args s = true :=
  ⟨callB_of n ht hG hw hrc hrs (ht _ (zz_in hini)) (ht _ (zz_in hl)) hd hR, ht _ (zz_in hs)⟩
theorem zz_cwSN {host : String} (n : Nat) (ht : ∀ w ∈ c :: zz_B, w.before args s = true) (hG : GoodIn (c :: zz_B) ws) (hw : ws = Cond.code y bytes maxL ret :: ws') (hrc : rm.cells = mc) (hrs : rm.slots = ms)
    (hl : va_Nw (.methodLinkNest own index y host) s) (hs : Cond.static y ∈ zz_B) (hini : Cond.initialized y.cls ∈ zz_B)
    (hd : y.cls ≠ "java/lang/invoke/MethodHandle" ∧ y.cls ≠ "java/lang/invoke/VarHandle" ∧ (parseMethodDescriptor y.desc).map (fun d => d.parameters.length) = some n) (hR : rm.frames + 1 ≤ R.frames ∧ 8 + (maxL + 11) + rm.locals ≤ R.locals) :
    va_CN R s args own index y host bytes maxL ret ws rm mc ms n ∧ (Cond.static y).before args s = true ∧ True :=
  ⟨va_cnB n ht hG hw hrc hrs hl (ht _ (zz_in hini)) hd hR, ht _ (zz_in hs), trivial⟩
end
end
section
/-! Began as the rows that TURN prints for throwing methods. -/
/-! ===== BEGIN exceptions that leave a method, and their catching by the caller (launches without stack traces) ===== -/
section VXA
/-! The laws vx_back, vx_callV, vx_callS, vx_callSW, vx_throw0, vx_throwS follow proofs of the library, with one case more: JvmDerived/Free/Laws.lean (Back.of_free), Shelf42/LK1.lean (callV, callS), Shelf/KitTraced.lean (throwNew0V, throwNewS). -/
/-- where a method has thrown q: the class by its name, the cell, what was written, the world -/
def vx_T (XC : String → State → State → Prop) (st : State) (q : Addr) (t : State) (mc ms : Nat) (free : Addr → Prop) : Prop :=
  ∃ (E : String) (ce : Cell) (L : List Loc), XC E st t ∧ t.heap[q]? = some ce ∧ ce.vm = .none ∧ st.vm.findClass E = some ce.cls ∧ st.WarmedH t.vm ∧ st.sameButNew ({ t with vm := st.vm } : State) L mc ms ∧ ∀ z ∈ L, free z.base
def vx_Q (Qc : Array Value → State → Outcome → State → Prop) (XC : String → State → State → Prop) (mc ms : Nat) (free : Addr → Prop) : Array Value → State → Outcome → State → Prop := fun a st o t =>
  (Qc a st o t ∧ ∃ L, FrameEnd st o t L mc ms ∧ ∀ q ∈ L, free q.base) ∨ ∃ q, o = .threw q ∧ vx_T XC st q t mc ms free
/-- a callee that returns or throws -/
def vx_Met (l : Launch) (y : MethodName) (ws : List Cond) (rm : Room) (Pc : Array Value → State → Prop) (Qc : Array Value → State → Outcome → State → Prop) (XC : String → State → State → Prop) (mc ms : Nat) (free : Addr → Prop) : Prop :=
  MetFree l y (headSpec ws rm) Pc (fun _ _ _ _ _ => True) (vx_Q Qc XC mc ms free)
def vx_Post (XC : String → State → State → Prop) (mc ms : Nat) (free : Addr → Prop) : Pt → Array Value → Addr → Pt → Prop := fun A a q B =>
  ∃ (g : JFrame) (mk : MethodId) (t : State) (L : List Loc) (E : String) (ce : Cell), B.U.heap = t.heap ∧ B.U.vm = t.vm ∧ XC E (A.U.calling g mk a) t ∧ t.heap[q]? = some ce ∧ ce.vm = .none ∧ A.U.vm.findClass E = some ce.cls ∧ B.locs = A.locs ++ L ∧ (∀ z ∈ L, free z.base) ∧ B.cells = A.cells + mc ∧ B.slots = A.slots + ms
def vx_Back (l : Launch) (R : Room) (p : Program) (e : Env) (below : List Frame) (s : State) (sargs : Array Value) (y : MethodName) (len W9 : Nat)
    (Pre : Pt → Array Value → Prop) (Post : Pt → Array Value → Option Value → Pt → Prop) (PostX : Pt → Array Value → Addr → Pt → Prop) : Prop :=
  ∀ (m : MethodId) (meth : Method) (c : Code) (A : Pt) (g : JFrame) (ig : Instr) (mk : MethodId) (a : Array Value),
    Stand p l e R s m sargs below meth c A.U A.locs A.cells A.slots → g.method = m → g.locals.size = c.maxLocals → decode c.code g.pc = .ok (ig, len) →
    2 * g.monitorRoom + (g.stack.map fun v => v.category).sum ≤ W9 → A.U.methodNamed? y = some mk → Pre A a →
    (∃ (v : Option Value) (B : Pt), Stand p l e R s m sargs below meth c B.U B.locs B.cells B.slots ∧ Post A a v B ∧
      Steps p.tables e below (doInvoke e (A.U.setTop g) [] mk a).1 (B.U.setTop { g with pc := g.pc + len, stack := v.toList ++ g.stack })) ∨
    (∃ (q : Addr) (B : Pt), Stand p l e R s m sargs below meth c B.U B.locs B.cells B.slots ∧ PostX A a q B ∧
      Steps p.tables e below (doInvoke e (A.U.setTop g) [] mk a).1 ((B.U.setTop g).pushFrame (.throwing q)))
section Payer
variable {l : Launch} {R : Room} {p : Program} {e : Env} {below : List Frame} {s : State} {sargs : Array Value} {y : MethodName} {len W9 : Nat}
theorem vx_back {ws : List Cond} {rm : Room} {Pc : Array Value → State → Prop} {Qc : Array Value → State → Outcome → State → Prop} {XC : String → State → State → Prop} {mc ms : Nat} {free : Addr → Prop} {bytes : ByteArray} {maxL : Nat} {ret : Option FieldType}
    (hM : vx_Met l y ws rm Pc Qc XC mc ms free) (hblind : FrameBlind Pc) (hrc : rm.cells = mc) (hrs : rm.slots = ms)
    (hframes : rm.frames + 1 ≤ R.frames) (hlocals : W9 + (maxL + 11) + rm.locals ≤ R.locals)
    (hws : ∀ w ∈ ws, ∀ a' U, s.WarmedH U.vm → w.before a' U = true) (hcode : Cond.code y bytes maxL ret ∈ ws) (hinit : ∀ a' U, s.WarmedH U.vm → (Cond.initialized y.cls).before a' U = true) :
    vx_Back l R p e below s sargs y len W9 (PreOf R mc ms Pc) (PostOf Qc mc ms free) (vx_Post XC mc ms free) := by
  intro m meth c A g ig mk a X hg hsize hdg hW hn hp
  have h1 : (headSpec ws rm).pre.before a A.U = true := atoms_intro fun w hw => hws w hw _ _ X.warmed
  have h2 : (Cond.code y bytes maxL ret).before a A.U = true := hws _ hcode _ _ X.warmed
  have h3 : (Cond.initialized y.cls).before a A.U = true := hinit _ _ X.warmed
  have h4 : A.cells + (headSpec ws rm).room.cells ≤ R.cells := by rw [show (headSpec ws rm).room.cells = mc from hrc]; exact hp.1
  have h5 : A.slots + (headSpec ws rm).room.slots ≤ R.slots := by rw [show (headSpec ws rm).room.slots = ms from hrs]; exact hp.2.1
  have hPc : Pc a (A.U.calling g mk a) := hblind _ _ _ _ hp.2.2
  obtain ⟨U, Ls, c0, s0⟩ := A
  dsimp only [Pt.U, Pt.locs, Pt.cells, Pt.slots] at h1 h2 h3 h4 h5 X hn hPc ⊢
  obtain ⟨methY, cY, hmY, hcY, -, hlY, -, -, -, -⟩ := Cond.code_spec hn h2
  obtain ⟨kY, hkY, -⟩ := className_of_methodNamed hn
  have hinitY : kY.init = .initialized := Cond.initialized_spec (findClass_of_methodNamed hn) hkY h3
  have h : At U g.method c below := by rw [hg]; exact X.here
  have hlocals9 : W9 + (maxL + 11) + (headSpec ws rm).room.locals ≤ R.locals := hlocals
  have happ : (headSpec ws rm).appliesLoose y e.platform (U.calling g mk a) = true :=
    Spec.appliesLoose_calling (g := g) h hdg hn hkY hinitY
      (X.room_calling (g := g) (R' := (headSpec ws rm).room) hsize hmY hcY hframes (by rw [hlY]; omega) h4 h5) h1
  obtain ⟨mid, hmid⟩ := h.above
  have hfr : (U.setTop g).frames = (.java g :: mid) ++ below := by rw [State.frames_setTop' g h.top, hmid]; rfl
  obtain ⟨o, s₂, hsteps, -, hend, hq⟩ := Steps.callFree hM p X.admits X.cas X.clock (acts := []) hfr happ hPc trivial
  have hq' : vx_Q Qc XC mc ms free a (U.calling g mk a) o s₂ := hq
  rw [State.frames_setTop' g h.top] at hend
  obtain ⟨g₀, hg0⟩ := Option.isSome_iff_exists.mp h.top
  obtain ⟨r, hr⟩ := State.topJava?_eq_some.mp hg0
  have hr' : (({ U with heap := s₂.heap, slotsUsed := s₂.slotsUsed } : State).setVm s₂.vm).frames = .java g₀ :: r := hr
  rcases hq' with ⟨hqc, L, hfe, hL⟩ | ⟨q, rfl, E, ce, L, hx, hce, hcv, hcl, hW₂, hsm, hL⟩
  · obtain ⟨⟨v, rfl⟩, hW₂, e2, q2, q3, q4, q5, q6⟩ := id hfe
    have e3 : s₂ = ({ (U.calling g mk a).setFrames s₂.frames with heap := s₂.heap, slotsUsed := s₂.slotsUsed } : State).setVm s₂.vm := by
      have : s₂ = ({ s₂ with vm := (U.calling g mk a).vm } : State).setVm s₂.vm := rfl
      rw [e2] at this
      exact this
    obtain ⟨c₂, i₂, len₂, hc₂, hd₂, hf₂⟩ := hend
    have hW' : U.WarmedH s₂.vm := hW₂
    have hcc : c₂ = c := by
      have h1 : s₂.code? g.method = U.code? g.method := by
        rw [State.code?_eq, State.code?_eq, hW'.alike.method?]
      exact Option.some.inj (hc₂.symm.trans (h1.trans h.code))
    subst hcc
    have hlen : len₂ = len := by rw [hdg] at hd₂; cases hd₂; rfl
    subst hlen
    have hs₂ : s₂ = (({ U with heap := s₂.heap, slotsUsed := s₂.slotsUsed } : State).setVm s₂.vm).setTop { g with pc := g.pc + len₂, stack := v.toList ++ g.stack } := by
      refine e3.trans ?_
      rw [hf₂, State.calling_eq h.top, State.setFrames_setFrames, State.setTop_of_frames _ hr', hr]
      rfl
    have hsame : U.sameButNew ({ U with heap := s₂.heap, slotsUsed := s₂.slotsUsed } : State) L mc ms := by
      refine ⟨?_, q2, q3, q4, q5, q6⟩
      obtain ⟨t, ht, -⟩ := State.frames_cons hr
      show ({ U with heap := s₂.heap, slotsUsed := s₂.slotsUsed } : State) = { U.setFrames U.frames with heap := s₂.heap, slotsUsed := s₂.slotsUsed }
      rw [State.setFrames_self ht]
    subst hg
    refine Or.inl ⟨v, ⟨(({ U with heap := s₂.heap, slotsUsed := s₂.slotsUsed } : State).setVm s₂.vm), Ls ++ L, c0 + mc, s0 + ms⟩,
      ⟨X.admits, X.cas, X.clock, X.frames, X.room, X.hears, X.method, X.code, (X.here.setHeapUsed s₂.heap s₂.slotsUsed).setVm hW'.alike, X.tail, State.WarmedH.trans X.warmed hW', X.limits, X.bytes, X.same.trans (hsame.setVm s.vm)⟩,
      ⟨g, mk, s₂, L, rfl, rfl, hqc, rfl, hL, rfl, rfl⟩, ?_⟩
    show Steps p.tables e below _ ((({ U with heap := s₂.heap, slotsUsed := s₂.slotsUsed } : State).setVm s₂.vm).setTop { g with pc := g.pc + len₂, stack := v.toList ++ g.stack })
    rw [← hs₂]
    exact hsteps
  · obtain ⟨e2, q2, q3, q4, q5, q6⟩ := id hsm
    have e3 : s₂ = ({ (U.calling g mk a).setFrames s₂.frames with heap := s₂.heap, slotsUsed := s₂.slotsUsed } : State).setVm s₂.vm := by
      have : s₂ = ({ s₂ with vm := (U.calling g mk a).vm } : State).setVm s₂.vm := rfl
      rw [e2] at this
      exact this
    have hf₂ : s₂.frames = .throwing q :: .java g :: U.frames.tail := hend
    have hW' : U.WarmedH s₂.vm := hW₂
    have hs₂ : s₂ = ((({ U with heap := s₂.heap, slotsUsed := s₂.slotsUsed } : State).setVm s₂.vm).setTop g).pushFrame (.throwing q) := by
      refine e3.trans ?_
      rw [hf₂, State.calling_eq h.top, State.setFrames_setFrames, State.pushFrame, State.frames_setTop _ hr', State.setTop_of_frames _ hr', State.setFrames_setFrames, hr]
      rfl
    have hsame : U.sameButNew ({ U with heap := s₂.heap, slotsUsed := s₂.slotsUsed } : State) L mc ms := by
      refine ⟨?_, q2, q3, q4, q5, q6⟩
      obtain ⟨t, ht, -⟩ := State.frames_cons hr
      show ({ U with heap := s₂.heap, slotsUsed := s₂.slotsUsed } : State) = { U.setFrames U.frames with heap := s₂.heap, slotsUsed := s₂.slotsUsed }
      rw [State.setFrames_self ht]
    subst hg
    refine Or.inr ⟨q, ⟨(({ U with heap := s₂.heap, slotsUsed := s₂.slotsUsed } : State).setVm s₂.vm), Ls ++ L, c0 + mc, s0 + ms⟩,
      ⟨X.admits, X.cas, X.clock, X.frames, X.room, X.hears, X.method, X.code, (X.here.setHeapUsed s₂.heap s₂.slotsUsed).setVm hW'.alike, X.tail, State.WarmedH.trans X.warmed hW', X.limits, X.bytes, X.same.trans (hsame.setVm s.vm)⟩,
      ⟨g, mk, s₂, L, E, ce, rfl, rfl, hx, hce, hcv, hcl, rfl, hL, rfl, rfl⟩, ?_⟩
    show Steps p.tables e below _ (((({ U with heap := s₂.heap, slotsUsed := s₂.slotsUsed } : State).setVm s₂.vm).setTop g).pushFrame (.throwing q))
    rw [← hs₂]
    exact hsteps
end Payer
section Calls
variable {p : Program} {l : Launch} {e : Env} {R : Room} {s : State} {m : MethodId} {args : Array Value} {below : List Frame} {meth : Method} {c : Code} {T : State} {locs : List Loc} {cells slots : Nat}
theorem vx_callV (X : Stand p l e R s m args below meth c T locs cells slots) (hexec : p.tables.exec = Jvm.exec) {own C : String} {index : Nat} {y : MethodName} {bytes : ByteArray} {maxL : Nat} {ret : Option FieldType}
    (hown : s.vm.findClass own = some m.cls) (hlink : (Cond.methodLink own index y).before args s = true) (hinst : (Cond.instanceMethod y).before args s = true) (hsel : (Cond.selects C y y).before args s = true)
    (hcode : (Cond.code y bytes maxL ret).before args s = true) (hy : y.cls ≠ "java/lang/invoke/MethodHandle" ∧ y.cls ≠ "java/lang/invoke/VarHandle")
    {W9 : Nat} {Pre : Pt → Array Value → Prop} {Post : Pt → Array Value → Option Value → Pt → Prop} {PostX : Pt → Array Value → Addr → Pt → Prop} (hK : vx_Back l R p e below s args y 3 W9 Pre Post PostX)
    {b : Addr} {cellB : Cell} (hcell : T.heap[b]? = some cellB) (hobj : cellB.vm.isStatics = false) (hcls : s.vm.findClass C = some cellB.cls)
    {g : JFrame} (hg : g.method = m) (hsize : g.locals.size = c.maxLocals) {argsL rest : List Value} (hlen : ∀ sig, parseMethodDescriptor y.desc = some sig → argsL.length = sig.parameters.length)
    (hstack : g.stack = argsL.reverse ++ .ref b :: rest) (hW : 2 * g.monitorRoom + (rest.map fun v => v.category).sum ≤ W9) (hdg : decode c.code g.pc = .ok (.invokevirtual index, 3))
    (hpre : ∀ vm₁, s.WarmedH vm₁ → Pre ⟨T.setVm vm₁, locs, cells, slots⟩ (Value.ref b :: argsL).toArray) :
    (∃ (v : Option Value) (vm₁ : Vm) (B : Pt), s.WarmedH vm₁ ∧ Stand p l e R s m args below meth c B.U B.locs B.cells B.slots ∧ Post ⟨T.setVm vm₁, locs, cells, slots⟩ (Value.ref b :: argsL).toArray v B ∧
      ∀ target, Steps p.tables e below (B.U.setTop { g with pc := g.pc + 3, stack := v.toList ++ rest }) target → Steps p.tables e below (T.setTop g) target) ∨
    (∃ (q : Addr) (vm₁ : Vm) (B : Pt), s.WarmedH vm₁ ∧ Stand p l e R s m args below meth c B.U B.locs B.cells B.slots ∧ PostX ⟨T.setVm vm₁, locs, cells, slots⟩ (Value.ref b :: argsL).toArray q B ∧
      Steps p.tables e below (T.setTop g) ((B.U.setTop { g with stack := rest }).pushFrame (.throwing q))) := by
  obtain ⟨mk, methM, hnamed, hmethM, hstM, habM⟩ := Cond.instanceMethod_spec hinst
  obtain ⟨methM', cM, hmethM', -, -, -, -, -, -, hsigM⟩ := Cond.code_spec hnamed hcode
  cases hmethM.symm.trans hmethM'
  obtain ⟨c2, r2, m2, q1, q2, q3, q4, kP, hkP, hkPi⟩ := Cond.selects_spec hsel
  cases hcls.symm.trans q1
  cases (State.methodFound?_of_named hnamed hy).symm.trans q2
  cases hnamed.symm.trans q3
  have hselP : selectMethod e.platform s.vm cellB.cls mk = .method mk := by rw [Launch.admits_selectMethod X.admits]; exact q4
  obtain ⟨vm₁, X₁, hstep₁⟩ := X.invokevirtual hexec hown hlink hnamed hmethM hstM hkP hkPi hy (a := b) (cell := cellB) hcell
    (fun z h => by rw [h] at hobj; cases hobj) hselP hmethM habM hkP hkPi (g := g) hg (argsL := argsL) (rest := rest) (hlen _ hsigM) hstack hdg
  rcases hK m meth c ⟨T.setVm vm₁, locs, cells, slots⟩ { g with stack := rest } (.invokevirtual index) mk (Value.ref b :: argsL).toArray X₁ hg hsize hdg hW (X₁.named hnamed) (hpre vm₁ X₁.warmed) with ⟨v, B, X', hpost, hsteps⟩ | ⟨q, B, X', hpost, hsteps⟩
  · exact Or.inl ⟨v, vm₁, B, X₁.warmed, X', hpost, fun target h => hstep₁ _ fun acts => by rw [doInvoke_state]; exact hsteps.trans h⟩
  · exact Or.inr ⟨q, vm₁, B, X₁.warmed, X', hpost, hstep₁ _ fun acts => by rw [doInvoke_state]; exact hsteps⟩
theorem vx_callS (X : Stand p l e R s m args below meth c T locs cells slots) (hexec : p.tables.exec = Jvm.exec) {own : String} {index : Nat} {y : MethodName} {bytes : ByteArray} {maxL : Nat} {ret : Option FieldType}
    (hown : s.vm.findClass own = some m.cls) (hlink : (Cond.methodLink own index y).before args s = true) (hstat : (Cond.static y).before args s = true) (hinit : (Cond.initialized y.cls).before args s = true)
    (hcode : (Cond.code y bytes maxL ret).before args s = true) (hy : y.cls ≠ "java/lang/invoke/MethodHandle" ∧ y.cls ≠ "java/lang/invoke/VarHandle")
    {W9 : Nat} {Pre : Pt → Array Value → Prop} {Post : Pt → Array Value → Option Value → Pt → Prop} {PostX : Pt → Array Value → Addr → Pt → Prop} (hK : vx_Back l R p e below s args y 3 W9 Pre Post PostX)
    {g : JFrame} (hg : g.method = m) (hsize : g.locals.size = c.maxLocals) {argsL rest : List Value} (hlen : ∀ sig, parseMethodDescriptor y.desc = some sig → argsL.length = sig.parameters.length)
    (hstack : g.stack = argsL.reverse ++ rest) (hW : 2 * g.monitorRoom + (rest.map fun v => v.category).sum ≤ W9) (hdg : decode c.code g.pc = .ok (.invokestatic index, 3))
    (hpre : ∀ vm₁, s.WarmedH vm₁ → Pre ⟨T.setVm vm₁, locs, cells, slots⟩ argsL.toArray) :
    (∃ (v : Option Value) (vm₁ : Vm) (B : Pt), s.WarmedH vm₁ ∧ Stand p l e R s m args below meth c B.U B.locs B.cells B.slots ∧ Post ⟨T.setVm vm₁, locs, cells, slots⟩ argsL.toArray v B ∧
      ∀ target, Steps p.tables e below (B.U.setTop { g with pc := g.pc + 3, stack := v.toList ++ rest }) target → Steps p.tables e below (T.setTop g) target) ∨
    (∃ (q : Addr) (vm₁ : Vm) (B : Pt), s.WarmedH vm₁ ∧ Stand p l e R s m args below meth c B.U B.locs B.cells B.slots ∧ PostX ⟨T.setVm vm₁, locs, cells, slots⟩ argsL.toArray q B ∧
      Steps p.tables e below (T.setTop g) ((B.U.setTop { g with stack := rest }).pushFrame (.throwing q))) := by
  obtain ⟨mk, hnamed⟩ := Cond.code_named hcode
  obtain ⟨methM, cM, hmethM, -, -, -, -, -, -, hsigM⟩ := Cond.code_spec hnamed hcode
  have hstatic : methM.isStatic = true := Cond.static_spec hnamed hmethM hstat
  obtain ⟨kP, hkP, -⟩ := className_of_methodNamed hnamed
  have hinitP : kP.init = .initialized := Cond.initialized_spec (findClass_of_methodNamed hnamed) hkP hinit
  obtain ⟨vm₁, X₁, hstep₁⟩ := X.invokestatic hexec hown hlink hnamed hmethM hstatic hkP hinitP hy (g := g) hg (argsL := argsL) (rest := rest) (hlen _ hsigM) hstack hdg
  rcases hK m meth c ⟨T.setVm vm₁, locs, cells, slots⟩ { g with stack := rest } (.invokestatic index) mk argsL.toArray X₁ hg hsize hdg hW (X₁.named hnamed) (hpre vm₁ X₁.warmed) with ⟨v, B, X', hpost, hsteps⟩ | ⟨q, B, X', hpost, hsteps⟩
  · exact Or.inl ⟨v, vm₁, B, X₁.warmed, X', hpost, fun target h => hstep₁ _ fun acts => by rw [doInvoke_state]; exact hsteps.trans h⟩
  · exact Or.inr ⟨q, vm₁, B, X₁.warmed, X', hpost, hstep₁ _ fun acts => by rw [doInvoke_state]; exact hsteps⟩
end Calls
theorem vx_cls {s : State} {T : State} {vm₁ : Vm} {E : String} {k : ClassId} (hW : s.WarmedH vm₁) (h : (T.setVm vm₁).vm.findClass E = some k) : s.vm.findClass E = some k := by
  have h1 : vm₁.findClass E = some k := h
  rw [hW.alike.findClass] at h1
  exact h1
/-- the method's frame g, with q thrown over it -/
def vx_W (p : Program) (l : Launch) (e : Env) (R : Room) (s : State) (m : MethodId) (args : Array Value) (below : List Frame) (meth : Method) (c : Code) (H : Heap) (locs : List Loc) (cells slots : Nat) (Q : State → Prop) (g : JFrame) (q : Addr) : Prop :=
  ∀ T : State, T.heap = H → Stand p l e R s m args below meth c T locs cells slots → ∃ t, Steps p.tables e below ((T.setTop g).pushFrame (.throwing q)) t ∧ Q t
def vx_Run (p : Program) (l : Launch) (e : Env) (R : Room) (s : State) (m : MethodId) (args : Array Value) (below : List Frame) (meth : Method) (c : Code) (H : Heap) (locs : List Loc) (cells slots mc ms : Nat) (g : JFrame) (rest : List Value) (Qa : State → Outcome → State → Prop) (XC : String → State → State → Prop) (free : Addr → Prop) : Prop :=
  ∀ T : State, T.heap = H → Stand p l e R s m args below meth c T locs cells slots →
    (∃ (v : Option Value) (st₀ t T' : State) (L : List Loc), st₀.heap = H ∧ Stand p l e R s m args below meth c T' (locs ++ L) (cells + mc) (slots + ms) ∧ (∀ q ∈ L, free q.base) ∧ T'.heap = t.heap ∧ T'.vm = t.vm ∧ Qa st₀ (.returned v) t ∧
      Goes p e below T g T' { g with pc := g.pc + 3, stack := v.toList ++ rest }) ∨
    (∃ (q : Addr) (st₀ t T' : State) (L : List Loc) (E : String) (ce : Cell), st₀.heap = H ∧ Stand p l e R s m args below meth c T' (locs ++ L) (cells + mc) (slots + ms) ∧ (∀ z ∈ L, free z.base) ∧ T'.heap = t.heap ∧ T'.vm = t.vm ∧ XC E st₀ t ∧ t.heap[q]? = some ce ∧ ce.vm = .none ∧ s.vm.findClass E = some ce.cls ∧
      Steps p.tables e below (T.setTop g) ((T'.setTop { g with stack := rest }).pushFrame (.throwing q)))
def vx_X {S : Type} (px : S → Prop) (B : String → S → State → Prop) (A : Nat → Prop) : String → State → State → Prop := fun E st t => ∃ u : S, px u ∧ B E u t ∧ va_F A st t
section Runs
variable {p : Program} {l : Launch} {e : Env} {R : Room} {s : State} {m : MethodId} {args : Array Value} {below : List Frame} {meth : Method} {c : Code} {H : Heap} {locs : List Loc} {cells slots : Nat}
variable {y : MethodName} {bytes cc : ByteArray} {maxL nL mc ms n index : Nat} {ret : Option FieldType} {ws : List Cond} {rm : Room} {Pc : Array Value → State → Prop} {Qc : Array Value → State → Outcome → State → Prop} {XC : String → State → State → Prop} {free : Addr → Prop} {Ts : List Cond} {own C : String} {b : Addr} {As rest : List Value} {g : JFrame}
theorem vx_callBack (cb : CallB R s args own index y bytes maxL ret ws rm mc ms n) (hM : vx_Met l y ws rm Pc Qc XC mc ms free) (hbl : FrameBlind Pc) : vx_Back l R p e below s args y 3 8 (PreOf R mc ms Pc) (PostOf Qc mc ms free) (vx_Post XC mc ms free) := by
  obtain ⟨hrc, hrs, hfr, hlo, hws, hcw, -, hini, -⟩ := cb
  exact vx_back (bytes := bytes) (maxL := maxL) (ret := ret) hM hbl hrc hrs hfr hlo hws hcw (fun a' U hW => word_at hW (Or.inl (by first | rfl | simp [Cond.onTables, Cond.keeps, Cond.steady])) hini)
theorem vx_runV (S : CallFix p m c cc nL s args Ts own) (hM : vx_Met l y ws rm Pc Qc XC mc ms free) (cw : CallW R s args own C index y bytes maxL ret ws rm mc ms n) (hp : PreV s H C b Pc As)
    (hg : g.method = m) (hn : As.length = n) (hsize : g.locals.size = nL) (hstack : g.stack = As.reverse ++ .ref b :: rest) (hW : 2 * g.monitorRoom + (rest.map fun v => v.category).sum ≤ 8) (hdg : decode cc g.pc = .ok (.invokevirtual index, 3)) (hf : cells + mc ≤ R.cells ∧ slots + ms ≤ R.slots) :
    vx_Run p l e R s m args below meth c H locs cells slots mc ms g rest (Qc (Value.ref b :: As).toArray) XC free := by
  have hK : vx_Back l R p e below s args y 3 8 (PreOf R mc ms Pc) (PostOf Qc mc ms free) (vx_Post XC mc ms free) := vx_callBack cw.1 hM hp.1
  obtain ⟨⟨-, -, -, -, -, -, hcode, -, hy, hlen, hl⟩, hin, hse⟩ := cw
  obtain ⟨hx, hb, hml, ho, -⟩ := S
  obtain ⟨-, ⟨cellB, hcB, hoB, hclB⟩, hPc⟩ := hp
  intro T hT X
  rcases vx_callV X hx (C := C) (bytes := bytes) (maxL := maxL) (ret := ret) ho hl hin hse hcode hy hK (by rw [hT]; exact hcB) hoB hclB hg (hsize.trans hml.symm) (argsL := As) (rest := rest) (fun sig h => hn.trans (hlen sig h)) hstack hW (by rw [hb]; exact hdg)
    (fun vm₁ hW₁ => ⟨hf.1, hf.2, hPc (T.setVm vm₁) hT hW₁⟩) with ⟨v, vm₁, ⟨U', l2, c2, s2⟩, hW₁, X', ⟨g', mk, t, L, e1, e2, hq, h1, hL, h2, h3⟩, st⟩ | ⟨q, vm₁, ⟨U', l2, c2, s2⟩, hW₁, X', ⟨g', mk, t, L, E, ce, e1, e2, hq, hce, hcv, hcl, h1, hL, h2, h3⟩, st⟩
  · dsimp only [Pt.U, Pt.locs, Pt.cells, Pt.slots] at X' e1 e2 h1 h2 h3 st
    subst h1; subst h2; subst h3
    exact Or.inl ⟨v, (T.setVm vm₁).calling g' mk (Value.ref b :: As).toArray, t, U', L, hT, X', hL, e1, e2, hq, st⟩
  · dsimp only [Pt.U, Pt.locs, Pt.cells, Pt.slots] at X' e1 e2 h1 h2 h3 st hcl
    subst h1; subst h2; subst h3
    exact Or.inr ⟨q, (T.setVm vm₁).calling g' mk (Value.ref b :: As).toArray, t, U', L, E, ce, hT, X', hL, e1, e2, hq, hce, hcv, vx_cls hW₁ hcl, st⟩
theorem vx_runS (S : CallFix p m c cc nL s args Ts own) (hM : vx_Met l y ws rm Pc Qc XC mc ms free) (cw : CallB R s args own index y bytes maxL ret ws rm mc ms n ∧ (Cond.static y).before args s = true) (hp : PreS s H Pc As)
    (hg : g.method = m) (hn : As.length = n) (hsize : g.locals.size = nL) (hstack : g.stack = As.reverse ++ rest) (hW : 2 * g.monitorRoom + (rest.map fun v => v.category).sum ≤ 8) (hdg : decode cc g.pc = .ok (.invokestatic index, 3)) (hf : cells + mc ≤ R.cells ∧ slots + ms ≤ R.slots) :
    vx_Run p l e R s m args below meth c H locs cells slots mc ms g rest (Qc As.toArray) XC free := by
  have hK : vx_Back l R p e below s args y 3 8 (PreOf R mc ms Pc) (PostOf Qc mc ms free) (vx_Post XC mc ms free) := vx_callBack cw.1 hM hp.1
  obtain ⟨⟨-, -, -, -, -, -, hcode, hini, hy, hlen, hl⟩, hstt⟩ := cw
  obtain ⟨hx, hb, hml, ho, -⟩ := S
  intro T hT X
  rcases vx_callS X hx (bytes := bytes) (maxL := maxL) (ret := ret) ho hl hstt hini hcode hy hK hg (hsize.trans hml.symm) (argsL := As) (rest := rest) (fun sig h => hn.trans (hlen sig h)) hstack hW (by rw [hb]; exact hdg)
    (fun vm₁ hW₁ => ⟨hf.1, hf.2, hp.2 (T.setVm vm₁) hT hW₁⟩) with ⟨v, vm₁, ⟨U', l2, c2, s2⟩, hW₁, X', ⟨g', mk, t, L, e1, e2, hq, h1, hL, h2, h3⟩, st⟩ | ⟨q, vm₁, ⟨U', l2, c2, s2⟩, hW₁, X', ⟨g', mk, t, L, E, ce, e1, e2, hq, hce, hcv, hcl, h1, hL, h2, h3⟩, st⟩
  · dsimp only [Pt.U, Pt.locs, Pt.cells, Pt.slots] at X' e1 e2 h1 h2 h3 st
    subst h1; subst h2; subst h3
    exact Or.inl ⟨v, (T.setVm vm₁).calling g' mk As.toArray, t, U', L, hT, X', hL, e1, e2, hq, st⟩
  · dsimp only [Pt.U, Pt.locs, Pt.cells, Pt.slots] at X' e1 e2 h1 h2 h3 st hcl
    subst h1; subst h2; subst h3
    exact Or.inr ⟨q, (T.setVm vm₁).calling g' mk As.toArray, t, U', L, E, ce, hT, X', hL, e1, e2, hq, hce, hcv, vx_cls hW₁ hcl, st⟩
end Runs
section Rows
variable {p : Program} {l : Launch} {e : Env} {R : Room} {s : State} {m : MethodId} {args : Array Value} {below : List Frame} {meth : Method} {c : Code} {H : Heap} {locs : List Loc} {cells slots : Nat} {Q : State → Prop}
variable {mc ms : Nat} {free : Addr → Prop} {A0 A1 : Nat → Prop} {H0 : Heap} {a : Array Value} {pc : Nat} {ls : Array Slot} {st0 rest : List Value}
theorem vx_keep {st₀ t T' : State} {L : List Loc} (h0 : st₀.heap = H) (e1 : T'.heap = t.heap) (hS : va_S A0 H0 H locs) (hA : ∀ q, q < H.size → A1 q → A0 q) (hf : ∀ q, free q → A0 q) (hL : ∀ q ∈ L, free q.base) (hF : va_F A1 st₀ t) :
    H.size ≤ T'.heap.size ∧ (∀ q : Nat, q < H.size → ¬ A1 q → T'.heap[q]? = H[q]?) ∧ va_S A0 H0 T'.heap (locs ++ L) := by
  obtain ⟨hz, hk⟩ := hF
  rw [h0] at hz hk
  exact ⟨by rw [e1]; exact hz, fun q h1 h2 => by rw [e1]; exact hk q h1 h2,
    ⟨Nat.le_trans hS.1 (by rw [e1]; exact hz), fun q h1 h2 => by rw [e1, hk q (Nat.lt_of_lt_of_le h1 hS.1) (fun z => h2 (hA q (Nat.lt_of_lt_of_le h1 hS.1) z))]; exact hS.2.1 q h1 h2, fun q hq => by
      rcases List.mem_append.mp hq with h | h
      · exact hS.2.2 q h
      · exact hf _ (hL q h)⟩⟩
theorem vx_calli {S SX : Type} {post : Int32 → S → Prop} {px : SX → Prop} {B : S → State → Prop} {BX : String → SX → State → Prop} {AX : Nat → Prop} (hr : vx_Run p l e R s m args below meth c H locs cells slots mc ms (F0 m pc ls st0) rest (va_Qi post B A1 a) (vx_X px BX AX) free) (hS : va_S A0 H0 H locs) (hA : ∀ q, q < H.size → A1 q → A0 q) (hf : ∀ q, free q → A0 q) (hAX : ∀ q, q < H.size → AX q → A0 q)
    (kx : ∀ (E : String) (ce : Cell) (q9 : Addr) (u : SX) (t : State) (H1 : Heap) (locs1 : List Loc), t.heap = H1 → s.vm.Alike t.vm → px u → BX E u t → H.size ≤ H1.size → (∀ q : Nat, q < H.size → ¬ AX q → H1[q]? = H[q]?) → va_S A0 H0 H1 locs1 → H1[q9]? = some ce → ce.vm = .none → s.vm.findClass E = some ce.cls → vx_W p l e R s m args below meth c H1 locs1 (cells + mc) (slots + ms) Q (F0 m pc ls rest) q9)
    (kk : ∀ (r : Int32) (u : S) (t : State) (H1 : Heap) (locs1 : List Loc), t.heap = H1 → s.vm.Alike t.vm → post r u → B u t → H.size ≤ H1.size → (∀ q : Nat, q < H.size → ¬ A1 q → H1[q]? = H[q]?) → va_S A0 H0 H1 locs1 → W p l e R s m args below meth c H1 locs1 (cells + mc) (slots + ms) Q (F0 m (pc + 3) ls (.int r :: rest))) : W p l e R s m args below meth c H locs cells slots Q (F0 m pc ls st0) := by
  intro T hT X
  rcases hr T hT X with ⟨v, st₀, t, T', L, h0, X', hL, e1, e2, ⟨⟨r, u, hv, hp, hb⟩, hF⟩, st⟩ | ⟨q, st₀, t, T', L, E, ce, h0, X', hL, e1, e2, ⟨u, hp, hb, hF⟩, hce, hcv, hcl, st⟩
  · cases hv
    obtain ⟨k1, k2, k3⟩ := vx_keep h0 e1 hS hA hf hL hF
    obtain ⟨t2, a1, b1⟩ := kk r u t T'.heap (locs ++ L) e1.symm (by rw [← e2]; exact X'.warmed.alike) hp hb k1 k2 k3 T' rfl X'
    exact ⟨t2, st t2 a1, b1⟩
  · obtain ⟨k1, k2, k3⟩ := vx_keep h0 e1 hS hAX hf hL hF
    obtain ⟨t2, a1, b1⟩ := kx E ce q u t T'.heap (locs ++ L) e1.symm (by rw [← e2]; exact X'.warmed.alike) hp hb k1 k2 k3 (by rw [e1]; exact hce) hcv hcl T' rfl X'
    exact ⟨t2, st.trans a1, b1⟩
theorem vx_calll {S SX : Type} {post : Int64 → S → Prop} {px : SX → Prop} {B : S → State → Prop} {BX : String → SX → State → Prop} {AX : Nat → Prop} (hr : vx_Run p l e R s m args below meth c H locs cells slots mc ms (F0 m pc ls st0) rest (va_Ql post B A1 a) (vx_X px BX AX) free) (hS : va_S A0 H0 H locs) (hA : ∀ q, q < H.size → A1 q → A0 q) (hf : ∀ q, free q → A0 q) (hAX : ∀ q, q < H.size → AX q → A0 q)
    (kx : ∀ (E : String) (ce : Cell) (q9 : Addr) (u : SX) (t : State) (H1 : Heap) (locs1 : List Loc), t.heap = H1 → s.vm.Alike t.vm → px u → BX E u t → H.size ≤ H1.size → (∀ q : Nat, q < H.size → ¬ AX q → H1[q]? = H[q]?) → va_S A0 H0 H1 locs1 → H1[q9]? = some ce → ce.vm = .none → s.vm.findClass E = some ce.cls → vx_W p l e R s m args below meth c H1 locs1 (cells + mc) (slots + ms) Q (F0 m pc ls rest) q9)
    (kk : ∀ (r : Int64) (u : S) (t : State) (H1 : Heap) (locs1 : List Loc), t.heap = H1 → s.vm.Alike t.vm → post r u → B u t → H.size ≤ H1.size → (∀ q : Nat, q < H.size → ¬ A1 q → H1[q]? = H[q]?) → va_S A0 H0 H1 locs1 → W p l e R s m args below meth c H1 locs1 (cells + mc) (slots + ms) Q (F0 m (pc + 3) ls (.long r :: rest))) : W p l e R s m args below meth c H locs cells slots Q (F0 m pc ls st0) := by
  intro T hT X
  rcases hr T hT X with ⟨v, st₀, t, T', L, h0, X', hL, e1, e2, ⟨⟨r, u, hv, hp, hb⟩, hF⟩, st⟩ | ⟨q, st₀, t, T', L, E, ce, h0, X', hL, e1, e2, ⟨u, hp, hb, hF⟩, hce, hcv, hcl, st⟩
  · cases hv
    obtain ⟨k1, k2, k3⟩ := vx_keep h0 e1 hS hA hf hL hF
    obtain ⟨t2, a1, b1⟩ := kk r u t T'.heap (locs ++ L) e1.symm (by rw [← e2]; exact X'.warmed.alike) hp hb k1 k2 k3 T' rfl X'
    exact ⟨t2, st t2 a1, b1⟩
  · obtain ⟨k1, k2, k3⟩ := vx_keep h0 e1 hS hAX hf hL hF
    obtain ⟨t2, a1, b1⟩ := kx E ce q u t T'.heap (locs ++ L) e1.symm (by rw [← e2]; exact X'.warmed.alike) hp hb k1 k2 k3 (by rw [e1]; exact hce) hcv hcl T' rfl X'
    exact ⟨t2, st.trans a1, b1⟩
theorem vx_callv {S SX : Type} {post : S → Prop} {px : SX → Prop} {B : S → State → Prop} {BX : String → SX → State → Prop} {AX : Nat → Prop} (hr : vx_Run p l e R s m args below meth c H locs cells slots mc ms (F0 m pc ls st0) rest (va_Qv post B A1 a) (vx_X px BX AX) free) (hS : va_S A0 H0 H locs) (hA : ∀ q, q < H.size → A1 q → A0 q) (hf : ∀ q, free q → A0 q) (hAX : ∀ q, q < H.size → AX q → A0 q)
    (kx : ∀ (E : String) (ce : Cell) (q9 : Addr) (u : SX) (t : State) (H1 : Heap) (locs1 : List Loc), t.heap = H1 → s.vm.Alike t.vm → px u → BX E u t → H.size ≤ H1.size → (∀ q : Nat, q < H.size → ¬ AX q → H1[q]? = H[q]?) → va_S A0 H0 H1 locs1 → H1[q9]? = some ce → ce.vm = .none → s.vm.findClass E = some ce.cls → vx_W p l e R s m args below meth c H1 locs1 (cells + mc) (slots + ms) Q (F0 m pc ls rest) q9)
    (kk : ∀ (u : S) (t : State) (H1 : Heap) (locs1 : List Loc), t.heap = H1 → s.vm.Alike t.vm → post u → B u t → H.size ≤ H1.size → (∀ q : Nat, q < H.size → ¬ A1 q → H1[q]? = H[q]?) → va_S A0 H0 H1 locs1 → W p l e R s m args below meth c H1 locs1 (cells + mc) (slots + ms) Q (F0 m (pc + 3) ls (rest))) : W p l e R s m args below meth c H locs cells slots Q (F0 m pc ls st0) := by
  intro T hT X
  rcases hr T hT X with ⟨v, st₀, t, T', L, h0, X', hL, e1, e2, ⟨⟨u, hv, hp, hb⟩, hF⟩, st⟩ | ⟨q, st₀, t, T', L, E, ce, h0, X', hL, e1, e2, ⟨u, hp, hb, hF⟩, hce, hcv, hcl, st⟩
  · cases hv
    obtain ⟨k1, k2, k3⟩ := vx_keep h0 e1 hS hA hf hL hF
    obtain ⟨t2, a1, b1⟩ := kk u t T'.heap (locs ++ L) e1.symm (by rw [← e2]; exact X'.warmed.alike) hp hb k1 k2 k3 T' rfl X'
    exact ⟨t2, st t2 a1, b1⟩
  · obtain ⟨k1, k2, k3⟩ := vx_keep h0 e1 hS hAX hf hL hF
    obtain ⟨t2, a1, b1⟩ := kx E ce q u t T'.heap (locs ++ L) e1.symm (by rw [← e2]; exact X'.warmed.alike) hp hb k1 k2 k3 (by rw [e1]; exact hce) hcv hcl T' rfl X'
    exact ⟨t2, st.trans a1, b1⟩
/-- caught by the row x of this method's table; the rows ahead don't take it -/
theorem vx_catch {own name : String} {E : String} {ce : Cell} {q : Addr} (hown : s.vm.findClass own = some m.cls) (pre : List ExceptionTableEntry) (x : ExceptionTableEntry) (suf : List ExceptionTableEntry) (hsplit : c.exceptionTable.toList = pre ++ x :: suf)
    (hpass : ∀ z ∈ pre, covers z pc = false ∨ (z.catchType ≠ 0 ∧ ∃ nm : String, (Cond.classLink own z.catchType nm).before args s = true ∧ va_Nc E nm s)) (hx : covers x pc = true) (h0 : x.catchType ≠ 0)
    (hlink : (Cond.classLink own x.catchType name).before args s = true) (hcast : (Cond.castable E name).before args s = true) (hcell : H[q]? = some ce) (hv : ce.vm = .none) (hcl : s.vm.findClass E = some ce.cls)
    (kk : W p l e R s m args below meth c H locs cells slots Q (F0 m x.handlerPc ls [.ref q])) : vx_W p l e R s m args below meth c H locs cells slots Q (F0 m pc ls rest) q := by
  intro T hT X
  have hpl : e.platform.magicAccessors = ({} : Platform).magicAccessors := by rw [X.admits.platform]
  obtain ⟨c3, c4, hc3, hc4, hasg⟩ := Cond.castable_spec hcast
  cases Option.some.inj (hc3.symm.trans hcl)
  obtain ⟨c5, hc5, hcl5⟩ := Cond.classLink_spec hown hlink e.platform hpl
  cases Option.some.inj (hc4.symm.trans hc5)
  obtain ⟨vm', X', st⟩ := X.thenCaughtThrough q (g := F0 m pc ls rest) rfl (Steps.refl _) (by rw [hT]; exact hcell) (by rw [hv]; rfl) (by obtain ⟨k9, h9, -⟩ := Vm.findClass_spec hcl; exact ⟨k9, h9⟩) pre x suf hsplit
    (fun z hz => by
      rcases hpass z hz with h | ⟨hz0, nm, hl1, hn1⟩
      · exact Or.inl h
      · obtain ⟨c6, hc6, hcl6⟩ := Cond.classLink_spec hown hl1 e.platform hpl
        obtain ⟨a8, b8, h1, h2, h3⟩ := hn1
        cases Option.some.inj (h1.symm.trans hcl)
        cases Option.some.inj (h2.symm.trans hc6)
        exact Or.inr ⟨hz0, _, hcl6, h3⟩) hx (Or.inr ⟨h0, c4, hcl5, hasg⟩)
  obtain ⟨t, a1, b1⟩ := kk (T.setVm vm') hT X'
  exact ⟨t, st.trans a1, b1⟩
end Rows
section Ends
variable {p : Program} {l : Launch} {e : Env} {R : Room} {s : State} {m : MethodId} {args : Array Value} {below : List Frame} {meth : Method} {c : Code} {H : Heap} {locs : List Loc} {cells slots : Nat} {Q : State → Prop}
variable {mc ms : Nat} {free : Addr → Prop} {A0 A1 : Nat → Prop} {H0 : Heap} {a : Array Value} {ls : Array Slot} {st0 rest : List Value}
variable {Qc : Array Value → State → Outcome → State → Prop} {XC : String → State → State → Prop}
/-- what a body that may throw owes at its end -/
def vx_MQ (below : List Frame) (Qc : Array Value → State → Outcome → State → Prop) (XC : String → State → State → Prop) (a : Array Value) (s : State) (mc ms : Nat) (free : Addr → Prop) : State → Prop := fun t =>
  ∃ o, t.status = .running ∧ Ended t below o ∧ vx_Q Qc XC mc ms free a s o t
theorem vx_ret {g : JFrame} {mc ms : Nat} (k : W p l e R s m args below meth c H locs cells slots (MQ below Qc args s mc ms free) g) : W p l e R s m args below meth c H locs cells slots (vx_MQ below Qc XC args s mc ms free) g := by
  intro T hT X
  obtain ⟨t, a1, o, b1, b2, b3, b4⟩ := k T hT X
  exact ⟨t, a1, o, b1, b2, Or.inl ⟨b3, b4⟩⟩
/-- not caught here: it goes on to the caller -/
theorem vx_widen {g : JFrame} {q : Addr} {k n : Nat} (h1 : cells ≤ k) (h2 : slots ≤ n) (kk : vx_W p l e R s m args below meth c H locs k n Q g q) : vx_W p l e R s m args below meth c H locs cells slots Q g q := fun T hT X => kk T hT (stand_widen X h1 h2)
theorem vx_out {pc : Nat} {E : String} {ce : Cell} {q : Addr} {mc ms : Nat} (hout : ∀ x ∈ c.exceptionTable.toList, covers x pc = false) (hlocks : meth.locks = false) (hcell : H[q]? = some ce) (hv : ce.vm = .none) (hcl : s.vm.findClass E = some ce.cls)
    (hx : ∀ t : State, t.heap = H → s.vm.Alike t.vm → XC E s t) (hf : ∀ z ∈ locs, free z.base) (hc : cells ≤ mc) (hs : slots ≤ ms) :
    vx_W p l e R s m args below meth c H locs cells slots (vx_MQ below Qc XC args s mc ms free) (F0 m pc ls rest) q := by
  intro T hT X
  obtain ⟨st1, hrun, hend, hW, hsm⟩ := X.leaveThrown q (g := F0 m pc ls rest) rfl rfl rfl hout hlocks
  have hcell9 : (T.setFrames (.throwing q :: below)).heap[q]? = some ce := by
    show T.heap[q]? = some ce
    rw [hT]; exact hcell
  exact ⟨_, st1, .threw q, hrun, hend, Or.inr ⟨q, rfl, E, ce, locs, hx _ hT hW.alike, hcell9, hv, hcl, hW, hsm.mono hc hs, hf⟩⟩
theorem vx_frame {U : State} {k n : Nat} (h : s.sameButNew ({ U with vm := s.vm } : State) locs k n) : s.heap.size ≤ U.heap.size ∧ ∀ q : Nat, q < s.heap.size → (∀ z ∈ locs, z.base ≠ q) → U.heap[q]? = s.heap[q]? := by
  obtain ⟨-, h2, -, -, -, h6⟩ := h
  refine ⟨h2, fun q hq hz => ?_⟩
  obtain ⟨c9, e1, e2, e3, e4⟩ := h6 q _ (Array.getElem?_eq_getElem hq)
  have hs : c9.slots = (s.heap[q]).slots := Array.ext_getElem? fun i => e4 i fun hm => hz _ hm rfl
  have h9 : c9 = s.heap[q] := by
    rw [hs] at e2
    exact e2
  have e5 : U.heap[q]? = some c9 := e1
  rw [e5, h9, Array.getElem?_eq_getElem hq]
/-- the words of a throw but the four that speak of the heap -/
def vx_no (w : Cond) : Bool := decide (w ≠ .isRef (.static Bundle.tN "UNASSIGNED_STACK" Bundle.steD)) && decide (w ≠ .isRef (.static Bundle.tN "SUPPRESSED_SENTINEL" Bundle.listD)) && decide (w ≠ .laysStatic Bundle.tN "UNASSIGNED_STACK" Bundle.steD) && decide (w ≠ .laysStatic Bundle.tN "SUPPRESSED_SENTINEL" Bundle.listD)
def vx_at0 (own : String) (ic : Nat) (X : String) (names : List String) : List Cond := (Bundle.ownAtoms0 own ic X names).filter vx_no
/-- a word that the tables alone decide, or a good one -/
def vx_ot (w : Cond) : Bool := w.onTables || goodWord w
theorem vx_ot_at {args a' : Array Value} {s U : State} {w : Cond} (hW : s.WarmedH U.vm) (hvm : s.vm = U.vm) (hg : vx_ot w = true) (h : w.before args s = true) : w.before a' U = true := by
  simp only [vx_ot, Bool.or_eq_true] at hg
  rcases hg with hg | hg
  · exact va_tabs hg hvm h
  · exact word_at hW (good_of_word hg) h
/-- a list's words: the good ones out of the method's own list, the others by premises of their own -/
theorem vx_hat {args : Array Value} {s : State} {L B : List Cond} (h1 : ∀ w ∈ L.filter goodWord, w.before args s = true) (h2 : ∀ w ∈ L.filter (fun w => !goodWord w), w ∈ B) (h3 : ∀ w ∈ B, w.before args s = true) : ∀ w ∈ L, w.before args s = true := by
  intro w hw
  by_cases g : goodWord w = true
  · exact h1 w (List.mem_filter.mpr ⟨hw, g⟩)
  · refine h3 w (h2 w (List.mem_filter.mpr ⟨hw, ?_⟩))
    show (!goodWord w) = true
    cases hgw : goodWord w
    · rfl
    · exact absurd hgw g
theorem vx_c {args : Array Value} {s : State} {w : Cond} {B : List Cond} (h : w.before args s = true) (t : ∀ w ∈ B, w.before args s = true) : ∀ w' ∈ w :: B, w'.before args s = true := fun w' h' => (List.mem_cons.mp h').elim (fun e => by rw [e]; exact h) (t w')
theorem vx_n {args : Array Value} {s : State} : ∀ w ∈ ([] : List Cond), w.before args s = true := fun _ h => nomatch h
theorem vx_own {args : Array Value} {s : State} {L : List Cond} (h1 : ∀ w ∈ L.filter vx_no, w.before args s = true)
    (hU : (Cond.isRef (.static Bundle.tN "UNASSIGNED_STACK" Bundle.steD)).before args s = true) (hN : (Cond.isRef (.static Bundle.tN "SUPPRESSED_SENTINEL" Bundle.listD)).before args s = true)
    (lU : (Cond.laysStatic Bundle.tN "UNASSIGNED_STACK" Bundle.steD).before args s = true) (lN : (Cond.laysStatic Bundle.tN "SUPPRESSED_SENTINEL" Bundle.listD).before args s = true) : ∀ w ∈ L, w.before args s = true := by
  intro w hw
  by_cases e1 : w = .isRef (.static Bundle.tN "UNASSIGNED_STACK" Bundle.steD)
  · rw [e1]; exact hU
  · by_cases e2 : w = .isRef (.static Bundle.tN "SUPPRESSED_SENTINEL" Bundle.listD)
    · rw [e2]; exact hN
    · by_cases e3 : w = .laysStatic Bundle.tN "UNASSIGNED_STACK" Bundle.steD
      · rw [e3]; exact lU
      · by_cases e4 : w = .laysStatic Bundle.tN "SUPPRESSED_SENTINEL" Bundle.listD
        · rw [e4]; exact lN
        · exact h1 w (List.mem_filter.mpr ⟨hw, by unfold vx_no; rw [decide_eq_true e1, decide_eq_true e2, decide_eq_true e3, decide_eq_true e4]; rfl⟩)
/-- where a static field lies, its class's statics cell in H -/
def vx_L (C n d : String) (A : Nat → Prop) (U : State) (H : Heap) : Prop := ∃ (c : ClassId) (k : Class) (i : Nat) (f : Field) (a : Nat) (cell : Cell), U.vm.findClass C = some c ∧ U.fieldFound? C n d = some (c, k, i, f) ∧ f.isStatic = true ∧ k.statics = some a ∧ H[a]? = some cell ∧ cell.vm.isStatics = true ∧ cell.cls = c ∧ f.slot < cell.slots.size ∧ k.staticTypes[f.slot]? = some f.type ∧ ¬ A a
theorem vx_L.moved {C n d : String} {A : Nat → Prop} {u U : State} {H : Heap} (hvm : u.vm.Alike U.vm) (h : vx_L C n d A u H) : vx_L C n d A U H := by
  obtain ⟨c, k, i, f, a, cell, h1, h2, h3, h4, h5, h6, h7, h8, h9, h10⟩ := h
  obtain ⟨k', hi', he⟩ := State.fieldFound?_setVm hvm h2
  exact ⟨c, k', i, f, a, cell, by rw [hvm.findClass]; exact h1, hi', h3, by rw [he]; exact h4, h5, h6, h7, h8, by rw [he]; exact h9, h10⟩
theorem vx_L.kept {C n d : String} {A : Nat → Prop} {U : State} {H H1 : Heap} (h : vx_L C n d A U H) (hq : ∀ a : Nat, a < H.size → ¬ A a → H1[a]? = H[a]?) : vx_L C n d A U H1 := by
  obtain ⟨c, k, i, f, a, cell, h1, h2, h3, h4, h5, h6, h7, h8, h9, h10⟩ := h
  exact ⟨c, k, i, f, a, cell, h1, h2, h3, h4, by rw [hq a (Array.getElem?_eq_some_iff.mp h5).1 h10]; exact h5, h6, h7, h8, h9, h10⟩
theorem vx_L.narrow {C n d : String} {A B : Nat → Prop} {U : State} {H : Heap} (h : vx_L C n d A U H) (hAB : ∀ q, B q → A q) : vx_L C n d B U H := by
  obtain ⟨c, k, i, f, a, cell, h1, h2, h3, h4, h5, h6, h7, h8, h9, h10⟩ := h
  exact ⟨c, k, i, f, a, cell, h1, h2, h3, h4, h5, h6, h7, h8, h9, fun z => h10 (hAB _ z)⟩
theorem vx_L.word {C n d : String} {A : Nat → Prop} {s : State} {args : Array Value} (h : vx_L C n d A s s.heap) : (Cond.laysStatic C n d).before args s = true := by
  obtain ⟨c, k, i, f, a, cell, h1, h2, h3, h4, h5, h6, h7, h8, h9, -⟩ := h
  show (Cond.laysStatic C n d).holds args s none s [] = true
  exact Cond.laysStatic_of h1 h2 h3 h4 h5 h6 h7 h8 h9
/-- .. and what it holds: null or some reference -/
def vx_Zq (C n d : String) (A : Nat → Prop) (U : State) (H : Heap) : Prop := va_Zq C n d A U H ∧ vx_L C n d A U H
theorem vx_Zq.moved {C n d : String} {A : Nat → Prop} {u U : State} {H : Heap} (hvm : u.vm.Alike U.vm) (h : vx_Zq C n d A u H) : vx_Zq C n d A U H := ⟨va_Zq.moved hvm h.1, vx_L.moved hvm h.2⟩
theorem vx_Zq.kept {C n d : String} {A : Nat → Prop} {U : State} {H H1 : Heap} (h : vx_Zq C n d A U H) (hq : ∀ a : Nat, a < H.size → ¬ A a → H1[a]? = H[a]?) : vx_Zq C n d A U H1 := ⟨va_Zq.kept h.1 hq, vx_L.kept h.2 hq⟩
theorem vx_Zq.narrow {C n d : String} {A B : Nat → Prop} {U : State} {H : Heap} (h : vx_Zq C n d A U H) (hAB : ∀ q, B q → A q) : vx_Zq C n d B U H := ⟨va_Zq.narrow h.1 hAB, vx_L.narrow h.2 hAB⟩
theorem vx_Zqof {args : Array Value} {s : State} {C n d : String} {A : Nat → Prop} (hl : (Cond.laysStatic C n d).before args s = true) (hini : (Cond.initialized C).before args s = true) (h : (Cond.isRef (.static C n d)).before args s = true) (hA : ∀ a : Nat, a < s.heap.size → ¬ A a) : vx_Zq C n d A s s.heap := by
  refine ⟨va_Zqof hl hini h hA, ?_⟩
  obtain ⟨c, k, i, f, a, cell, h1, h2, h3, h4, h5, h6, h7, h8, h9⟩ := Cond.laysStatic_spec hl
  exact ⟨c, k, i, f, a, cell, h1, h2, h3, h4, h5, h6, h7, h8, h9, hA a (Array.getElem?_eq_some_iff.mp h5).1⟩
theorem vx_isRef {C n d : String} {v : Value} {A : Nat → Prop} {s : State} {args : Array Value} (h : va_Z C n d v A s s.heap) (hv : v.isRef = true) : (Cond.isRef (.static C n d)).before args s = true := by
  obtain ⟨cf, kf, fi, f, a, cell, h1, h2, h3, h4, h5, h6, h7, -⟩ := h
  have he : (Term.static C n d).eval args s none [] s = some v := by
    simp [Term.eval, State.fieldNamed?, h1, h2, h4, h5, h6, h7]
  simp only [Cond.before, Cond.holds, Cond.value, he]
  cases v <;> simp_all [Value.isRef]
theorem vx_isRefq {C n d : String} {A : Nat → Prop} {s : State} {args : Array Value} (h : va_Zq C n d A s s.heap) : (Cond.isRef (.static C n d)).before args s = true := by
  rcases h with h | ⟨t, h⟩
  · exact vx_isRef h rfl
  · exact vx_isRef h rfl
/-- the same frame, seen from here: as if the method were called anew in this heap -/
theorem vx_rebase {T : State} (X : Stand p l e R s m args below meth c T locs cells slots) {R' : Room} (hf : R'.frames ≤ R.frames) (hl : R'.locals ≤ R.locals) (hc : cells + R'.cells ≤ R.cells) (hs : slots + R'.slots ≤ R.slots) :
    Stand p l e R' ((T.setVm s.vm).setFrames (.invoking m args :: below)) m args below meth c T [] 0 0 := by
  have htop : (T.setVm s.vm).topJava?.isSome := X.here.top
  have hF : ((T.setVm s.vm).setFrames (.invoking m args :: below)).frames = .invoking m args :: below := State.frames_setFrames _ (State.cur_lt_of_top htop)
  obtain ⟨g₀, hg0⟩ := Option.isSome_iff_exists.mp htop
  obtain ⟨r, hr⟩ := State.topJava?_eq_some.mp hg0
  have hl9 : e.platform.stackLimits (T.setVm s.vm).me = e.platform.stackLimits s.me := X.limits
  have hb9 : (T.setVm s.vm).me.stackBytes = s.me.stackBytes := X.bytes
  refine ⟨X.admits, X.cas, X.clock, hF, ?_, X.hears, X.method, X.code, X.here, X.tail, X.warmed, ?_, ?_, ?_⟩
  · have h := X.room
    have hU : ((T.setVm s.vm).setFrames (.invoking m args :: below)).localsInUse = s.localsInUse := by
      rw [State.localsInUse_invoking hF (meth := meth) (c := c) X.method X.code, State.localsInUse_invoking X.frames X.method X.code]
    simp only [State.hasRoom, Bool.and_eq_true, decide_eq_true_eq] at h ⊢
    obtain ⟨⟨⟨⟨h1, h2, h3, h4, h5, h6⟩, h7⟩, h8⟩, h9⟩ := h
    rw [X.frames, List.length_cons] at h2 h3
    have q1 := X.heapSize
    have q2 := X.used
    simp only [hF, hU, List.length_cons, State.stackLimits_setFrames, State.stackBytes_setFrames, hl9, hb9]
    refine ⟨⟨⟨⟨by omega, by omega, by omega, by omega, by omega, h6⟩, ?_⟩, ?_⟩, X.book⟩
    · show T.heap.size + R'.cells ≤ e.platform.maxCells
      omega
    · show T.slotsUsed + R'.slots ≤ e.platform.maxSlots
      omega
  · rw [State.stackLimits_setFrames]; rfl
  · rw [State.stackBytes_setFrames]; rfl
  · refine ⟨?_, Nat.le_refl _, Nat.le_refl _, ?_, ?_, fun a c9 h9 => ⟨c9, h9, rfl, rfl, fun _ _ => rfl⟩⟩
    · obtain ⟨t, ht, -⟩ := State.frames_cons hr
      show T.setVm s.vm = { ((T.setVm s.vm).setFrames (.invoking m args :: below)).setFrames (T.setVm s.vm).frames with heap := T.heap, slotsUsed := T.slotsUsed }
      rw [State.setFrames_setFrames, State.setFrames_self ht]
      rfl
    · show T.slotsUsed = T.slotsUsed + ((T.heap.toList.drop T.heap.size).map (·.slots.size)).sum
      rw [List.drop_eq_nil_of_le (Nat.le_of_eq Array.length_toList)]
      rfl
    · show ((T.heap.toList.drop T.heap.size).map (·.slots.size)).sum ≤ 0
      rw [List.drop_eq_nil_of_le (Nat.le_of_eq Array.length_toList)]
      exact Nat.le_refl _
/-- 'throw new E()': new; dup; invokespecial; athrow -/
theorem vx_throw0 {cc : ByteArray} {pc : Nat} (hexec : p.tables.exec = Jvm.exec) (hb : c.code = cc) (hl : l.stackTraces = false) {own cls : String} {names : List String} {ik ic mc ms : Nat} {A : Nat → Prop}
    (hown : s.vm.findClass own = some m.cls) (hcls : Bundle.fit cls = true) (hnames : ∀ n ∈ names, Bundle.fit n = true)
    (hk : (Cond.classLink own ik cls).before args s = true) (hini : (Cond.initialized cls).before args s = true) (hat : ∀ w ∈ vx_at0 own ic cls names, w.before args s = true)
    (hgood : ∀ w ∈ Cond.classLink own ik cls :: Cond.initialized cls :: vx_at0 own ic cls names, vx_ot w = true)
    (hU : vx_Zq Bundle.tN "UNASSIGNED_STACK" Bundle.steD A s s.heap) (hN : vx_Zq Bundle.tN "SUPPRESSED_SENTINEL" Bundle.listD A s s.heap) (hS : va_S A s.heap H locs) (hsize : ls.size = c.maxLocals)
    (d0 : decode cc pc = .ok (.new ik, 3)) (d3 : decode cc (pc + 3) = .ok (.dup, 1)) (d4 : decode cc (pc + 4) = .ok (.invokespecial ic, 3)) (d7 : decode cc (pc + 7) = .ok (.athrow, 1))
    (hout : ∀ x ∈ c.exceptionTable.toList, covers x (pc + 7) = false)
    (hRframes : names.length + 3 < R.frames) (hRlocals : (rest.map fun v => v.category).sum + (13 * (names.length + 1) + 42) ≤ R.locals) (hRcells : cells + 1 ≤ R.cells) (hRslots : slots + 6 ≤ R.slots) (hlocks : meth.locks = false)
    (hx : ∀ t : State, s.vm.Alike t.vm → H.size ≤ t.heap.size → (∀ q : Nat, q < H.size → t.heap[q]? = H[q]?) → XC cls s t)
    (hf : ∀ z ∈ locs, free z.base) (hc : cells + 1 ≤ mc) (hs : slots + 6 ≤ ms) :
    W p l e R s m args below meth c H locs cells slots (vx_MQ below Qc XC args s mc ms free) (F0 m pc ls rest) := by
  intro T hT X
  have htr : e.platform.stackTraces = false := (show e.platform.stackTraces = l.stackTraces by rw [X.admits.platform]).trans hl
  have Y := vx_rebase X (R' := { frames := R.frames, locals := R.locals, cells := 1, slots := 6 }) (Nat.le_refl _) (Nat.le_refl _) hRcells hRslots
  obtain ⟨s', hA⟩ : ∃ z, z = (T.setVm s.vm).setFrames (.invoking m args :: below) := ⟨_, rfl⟩
  rw [← hA] at Y
  have hvm : s'.vm = s.vm := by rw [hA]; rfl
  have hhp : s'.heap = H := by rw [hA]; exact hT
  have hW0 : s.WarmedH s'.vm := by rw [hvm]; exact State.WarmedH.refl s
  have hat' : ∀ w ∈ vx_at0 own ic cls names, w.before args s' = true := fun w hw => vx_ot_at hW0 hvm.symm (hgood w (List.mem_cons_of_mem _ (List.mem_cons_of_mem _ hw))) (hat w hw)
  have hk' : (Cond.classLink own ik cls).before args s' = true := vx_ot_at hW0 hvm.symm (hgood _ List.mem_cons_self) hk
  have hini' : (Cond.initialized cls).before args s' = true := vx_ot_at hW0 hvm.symm (hgood _ (List.mem_cons_of_mem _ List.mem_cons_self)) hini
  have hU' : vx_Zq Bundle.tN "UNASSIGNED_STACK" Bundle.steD A s' s'.heap := by rw [hhp]; exact vx_Zq.moved hW0.alike (hU.kept hS.2.1)
  have hN' : vx_Zq Bundle.tN "SUPPRESSED_SENTINEL" Bundle.listD A s' s'.heap := by rw [hhp]; exact vx_Zq.moved hW0.alike (hN.kept hS.2.1)
  have h : ∀ w ∈ Bundle.ownAtoms0 own ic cls names, w.before args s' = true := vx_own hat' (vx_isRefq hU'.1) (vx_isRefq hN'.1) hU'.2.word hN'.2.word
  have hown' : s'.vm.findClass own = some m.cls := by rw [hvm]; exact hown
  have hins : (Cond.instantiable cls 6).before args s' = true := h _ (by simp [Bundle.ownAtoms0])
  obtain ⟨vm₁, cX, kX, hfX, hkX, -, -, X₁, st1⟩ := Y.newCold hexec (own := own) (C := cls) (index := ik) (n := 6) hown' hk' hins hini'
    (g := F0 m pc ls rest) rfl (by rw [hb]; exact d0) (Nat.le_refl _) (Nat.le_refl _)
  generalize hT1 : (T.setVm vm₁).pushCell { cls := cX, slots := kX.instanceTypes.map defaultValue, vm := .none } = T1 at X₁ st1
  have hcat : (Value.ref T.heap.size).category = 1 := rfl
  have hcellA : T1.heap[T.heap.size]? = some (freshCell cX kX) := by rw [← hT1]; exact State.heap_pushCell_size _ _
  have d3' : decode c.code (pc + 3) = .ok (.dup, 1) := by rw [hb]; exact d3
  obtain ⟨U, hsteps, hrun, hend, hW, hsame, ce, hce, hO⟩ := X₁.ctorThrow0 hexec htr (own := own) (cls := cls) (names := names) (ic := ic) hown' hcls hnames h (fun x hx => nomatch hx) hfX hkX hcellA (by rw [hhp, hT]; exact Nat.le_refl _)
    (g := { method := m, pc := pc + 4, locals := ls, stack := .ref T.heap.size :: .ref T.heap.size :: rest, locked := none }) rfl hsize rfl rfl (rest := rest) rfl
    (by rw [hb]; exact d4) (by rw [hb]; exact d7) hout hRframes (by simp only [List.map_cons, List.sum_cons, hcat]; omega) hlocks
  obtain ⟨f1, f2⟩ := vx_frame hsame
  rw [hhp] at f1 f2
  have hWs : s.WarmedH U.vm := State.WarmedH.trans hW0 hW
  have hcl : s.vm.findClass cls = some ce.cls := by
    have h9 := hO.cls
    rw [hvm] at h9
    exact h9
  have hall : s.sameButNew ({ U with vm := s.vm } : State) locs mc ms := by
    subst hA
    obtain ⟨e1, e2⟩ := hsame
    rw [State.setFrames_setFrames] at e1
    have h2 : (T.setVm s.vm).sameButNew ({ U with vm := s.vm } : State) [] (0 + 1) (0 + 6) := ⟨e1, e2⟩
    have h3 := X.same.trans h2
    rw [List.append_nil] at h3
    exact h3.mono hc hs
  refine ⟨U, ?_, .threw T.heap.size, hrun, hend, Or.inr ⟨T.heap.size, rfl, cls, ce, locs, hx U hWs.alike f1 (fun q hq => f2 q hq (fun z hz => nomatch hz)), hce, hO.vm, hcl, hWs, hall, hf⟩⟩
  refine st1 _ ?_
  show Steps p.tables e below (T1.setTop { method := m, pc := pc + 3, locals := ls, stack := .ref T.heap.size :: rest, locked := none }) _
  jvm_step X₁.here [X₁.here.top, hexec, d3', Value.category]
  exact hsteps
end Ends
section Bodies
variable {l : Launch}
theorem vx_ofW {y : MethodName} {ws ws' : List Cond} {rm : Room} {Pc : Array Value → State → Prop} {Qc : Array Value → State → Outcome → State → Prop} {XC : String → State → State → Prop} {mc ms : Nat} {free : Addr → Prop} {cc : ByteArray} {maxL : Nat} {ret : Option FieldType}
    (hy : plainName y.cls = true) (hw : ws = Cond.code y cc maxL ret :: ws')
    (body : ∀ p e s m args below meth c s₁, BodyLoose p l y (headSpec ws rm) cc maxL ret e s m args below meth c s₁ → c.maxLocals = maxL → (∀ x ∈ c.exceptionTable.toList, False) → Pc args s →
      W p l e (headSpec ws rm).room s m args below meth c s.heap [] 0 0 (vx_MQ below Qc XC args s mc ms free) (entryFrame m args maxL)) : vx_Met l y ws rm Pc Qc XC mc ms free := by
  refine MetFree.of_bodyS (code := cc) (maxLocals := maxL) (ret := ret) hy ?_ ?_
  · intro args s m h hn
    obtain ⟨meth, c, h1, h2, h3, h4, h5, h6, -, -⟩ := Cond.code_spec hn (atoms_spec (ws := ws) h _ (by rw [hw]; exact List.mem_cons_self))
    exact ⟨meth, c, h1, h2, h3, h4, h5, h6⟩
  · intro p e s m args below meth c s₁ B hml hP _
    have hh0 : s₁.heap = s.heap := by rw [B.state]; rfl
    have ht : ∀ x ∈ c.exceptionTable.toList, False := by
      obtain ⟨meth9, c9, h1, h2, -, -, -, -, h7, -⟩ := Cond.code_spec B.named (atoms_spec (ws := ws) B.pre _ (by rw [hw]; exact List.mem_cons_self))
      cases Option.some.inj (h1.symm.trans B.method)
      cases Option.some.inj (h2.symm.trans (Stand.of_body B).code)
      intro x hx
      rw [Array.isEmpty_iff.mp h7] at hx
      cases hx
    obtain ⟨t, a1, o, b1, b2, b3⟩ := body p e s m args below meth c s₁ B hml ht hP s₁ hh0 (Stand.of_body B)
    exact ⟨t, o, a1, b1, b2, b3⟩
/-- the table of a body with handlers -/
theorem vx_table {p : Program} {x y : MethodName} {S : Spec} {cc bytes : ByteArray} {maxL maxL' : Nat} {ret ret' : Option FieldType} {e : Env} {s s₁ : State} {m : MethodId} {args : Array Value} {below : List Frame} {meth : Method} {c : Code} {hh : List (Nat × Nat × Nat × Nat)}
    (B : BodyLoose p l y S cc maxL ret e s m args below meth c s₁) (h : (Cond.codeWith y bytes maxL' ret' hh).before args s = true) : c.exceptionTable.toList = tableOf hh := by
  obtain ⟨m9, meth9, c9, hn9, h1, h2, -, -, h6, -⟩ := Cond.codeWith_spec h
  cases Option.some.inj (hn9.symm.trans B.named)
  cases Option.some.inj (h1.symm.trans B.method)
  cases Option.some.inj (h2.symm.trans (Stand.of_body B).code)
  rw [← h6, table_eq]
end Bodies
end VXA
/-! ===== END ===== -/
/-! ===== BEGIN a static call of a method with an exception table ===== -/
section VXS
variable {p : Program} {l : Launch} {e : Env} {R : Room} {s : State} {m : MethodId} {args : Array Value} {below : List Frame} {meth : Method} {c : Code} {T : State} {H : Heap} {locs : List Loc} {cells slots : Nat}
abbrev vx_CSW (R : Room) (s : State) (args : Array Value) (own : String) (index : Nat) (y : MethodName) (bytes : ByteArray) (maxL : Nat) (ret : Option FieldType) (hh : List (Nat × Nat × Nat × Nat)) (ws : List Cond) (rm : Room) (mc ms n : Nat) : Prop :=
  (rm.cells = mc ∧ rm.slots = ms ∧ rm.frames + 1 ≤ R.frames ∧ 8 + (maxL + 11) + rm.locals ≤ R.locals ∧ (∀ w ∈ ws, ∀ (a' : Array Value) (U : State), s.WarmedH U.vm → w.before a' U = true) ∧ Cond.codeWith y bytes maxL ret hh ∈ ws) ∧
  (Cond.codeWith y bytes maxL ret hh).before args s = true ∧ (Cond.initialized y.cls).before args s = true ∧ (y.cls ≠ "java/lang/invoke/MethodHandle" ∧ y.cls ≠ "java/lang/invoke/VarHandle") ∧
  (∀ sig, parseMethodDescriptor y.desc = some sig → n = sig.parameters.length) ∧ (Cond.methodLink own index y).before args s = true ∧ (Cond.static y).before args s = true
theorem vx_cwSW {own : String} {index maxL mc ms : Nat} {y : MethodName} {bytes : ByteArray} {ret : Option FieldType} {hh : List (Nat × Nat × Nat × Nat)} {Ts ws ws' : List Cond} {rm : Room} (n : Nat) (ht : ∀ w ∈ Ts, w.before args s = true) (hT : GoodIn Ts (va_wsS own index y ws)) (hw : ws = Cond.codeWith y bytes maxL ret hh :: ws') (hrc : rm.cells = mc) (hrs : rm.slots = ms)
    (hd : y.cls ≠ "java/lang/invoke/MethodHandle" ∧ y.cls ≠ "java/lang/invoke/VarHandle" ∧ (parseMethodDescriptor y.desc).map (fun d => d.parameters.length) = some n) (hR : rm.frames + 1 ≤ R.frames ∧ 8 + (maxL + 11) + rm.locals ≤ R.locals) :
    vx_CSW R s args own index y bytes maxL ret hh ws rm mc ms n := by
  have ok : ∀ w ∈ va_wsS own index y ws, w.before args s = true := fun w h => ht w (hT w h).1
  have hG : GoodIn Ts ws := fun w h => hT w (by unfold va_wsS; exact List.mem_append_right _ h)
  have hc : Cond.codeWith y bytes maxL ret hh ∈ ws := by rw [hw]; exact List.mem_cons_self
  refine ⟨⟨hrc, hrs, hR.1, hR.2, pay_in ht hG, hc⟩, ht _ (hG _ hc).1, ok _ (by simp [va_wsS]), ⟨hd.1, hd.2.1⟩, fun sig h => ?_, ok _ (by simp [va_wsS]), ok _ (by simp [va_wsS])⟩
  have h2 := hd.2.2
  rw [h] at h2
  exact (Option.some.inj h2).symm
theorem vx_callSW (X : Stand p l e R s m args below meth c T locs cells slots) (hexec : p.tables.exec = Jvm.exec) {own : String} {index : Nat} {y : MethodName} {bytes : ByteArray} {maxL : Nat} {ret : Option FieldType} {hh : List (Nat × Nat × Nat × Nat)}
    (hown : s.vm.findClass own = some m.cls) (hlink : (Cond.methodLink own index y).before args s = true) (hstat : (Cond.static y).before args s = true) (hinit : (Cond.initialized y.cls).before args s = true)
    (hcode : (Cond.codeWith y bytes maxL ret hh).before args s = true) (hy : y.cls ≠ "java/lang/invoke/MethodHandle" ∧ y.cls ≠ "java/lang/invoke/VarHandle")
    {W9 : Nat} {Pre : Pt → Array Value → Prop} {Post : Pt → Array Value → Option Value → Pt → Prop} (hK : Back l R p e below s args y 3 W9 Pre Post)
    {g : JFrame} (hg : g.method = m) (hsize : g.locals.size = c.maxLocals) {argsL rest : List Value} (hlen : ∀ sig, parseMethodDescriptor y.desc = some sig → argsL.length = sig.parameters.length)
    (hstack : g.stack = argsL.reverse ++ rest) (hW : 2 * g.monitorRoom + (rest.map fun v => v.category).sum ≤ W9) (hdg : decode c.code g.pc = .ok (.invokestatic index, 3))
    (hpre : ∀ vm₁, s.WarmedH vm₁ → Pre ⟨T.setVm vm₁, locs, cells, slots⟩ argsL.toArray) :
    ∃ (v : Option Value) (vm₁ : Vm) (B : Pt), s.WarmedH vm₁ ∧ Stand p l e R s m args below meth c B.U B.locs B.cells B.slots ∧ Post ⟨T.setVm vm₁, locs, cells, slots⟩ argsL.toArray v B ∧
      ∀ target, Steps p.tables e below (B.U.setTop { g with pc := g.pc + 3, stack := v.toList ++ rest }) target → Steps p.tables e below (T.setTop g) target := by
  obtain ⟨mk, methM, cM, hnamed, hmethM, -, -, -, -, -, -, hsigM⟩ := Cond.codeWith_spec hcode
  have hstatic : methM.isStatic = true := Cond.static_spec hnamed hmethM hstat
  obtain ⟨kP, hkP, -⟩ := className_of_methodNamed hnamed
  have hinitP : kP.init = .initialized := Cond.initialized_spec (findClass_of_methodNamed hnamed) hkP hinit
  obtain ⟨vm₁, X₁, hstep₁⟩ := X.invokestatic hexec hown hlink hnamed hmethM hstatic hkP hinitP hy (g := g) hg (argsL := argsL) (rest := rest) (hlen _ hsigM) hstack hdg
  obtain ⟨v, B, X', hpost, hsteps⟩ := hK m meth c ⟨T.setVm vm₁, locs, cells, slots⟩ { g with stack := rest } (.invokestatic index) mk argsL.toArray X₁ hg hsize hdg hW (X₁.named hnamed) (hpre vm₁ X₁.warmed)
  exact ⟨v, vm₁, B, X₁.warmed, X', hpost, fun target h => hstep₁ _ fun acts => by rw [doInvoke_state]; exact hsteps.trans h⟩
theorem vx_runSW {y : MethodName} {bytes cc : ByteArray} {maxL nL mc ms n index : Nat} {ret : Option FieldType} {hh : List (Nat × Nat × Nat × Nat)} {ws : List Cond} {rm : Room} {Pc : Array Value → State → Prop} {Qc : Array Value → State → Outcome → State → Prop} {free : Addr → Prop} {Ts : List Cond} {own : String} {As rest : List Value} {g : JFrame}
    (S : CallFix p m c cc nL s args Ts own) (hM : Met l y ws rm Pc Qc mc ms free) (cw : vx_CSW R s args own index y bytes maxL ret hh ws rm mc ms n) (hp : PreS s H Pc As)
    (hg : g.method = m) (hn : As.length = n) (hsize : g.locals.size = nL) (hstack : g.stack = As.reverse ++ rest) (hW : 2 * g.monitorRoom + (rest.map fun v => v.category).sum ≤ 8) (hdg : decode cc g.pc = .ok (.invokestatic index, 3)) (hf : cells + mc ≤ R.cells ∧ slots + ms ≤ R.slots) :
    va_Run p l e R s m args below meth c H locs cells slots mc ms g rest (Qc As.toArray) (free) := by
  obtain ⟨⟨hrc, hrs, hfr, hlo, hws, hcw⟩, hcode, hini, hy, hlen, hl, hstt⟩ := cw
  have hK : Back l R p e below s args y 3 8 (PreOf R mc ms Pc) (PostOf Qc mc ms free) := va_backW (hh := hh) (bytes := bytes) (maxL := maxL) (ret := ret) hM hp.1 hrc hrs hfr hlo hws hcw (fun a' U hW => word_at hW (Or.inl (by first | rfl | simp [Cond.onTables, Cond.keeps, Cond.steady])) hini)
  obtain ⟨hx, hb, hml, ho, -⟩ := S
  intro T hT X
  obtain ⟨v, vm₁, ⟨U', l2, c2, s2⟩, hW₁, X', ⟨g', mk, t, L, e1, e2, hq, h1, hL, h2, h3⟩, st⟩ := vx_callSW X hx (hh := hh) (bytes := bytes) (maxL := maxL) (ret := ret) ho hl hstt hini hcode hy hK hg (hsize.trans hml.symm) (argsL := As) (rest := rest) (fun sig h => hn.trans (hlen sig h)) hstack hW (by rw [hb]; exact hdg)
    (fun vm₁ hW₁ => ⟨hf.1, hf.2, hp.2 (T.setVm vm₁) hT hW₁⟩)
  dsimp only [Pt.U, Pt.locs, Pt.cells, Pt.slots] at X' e1 e2 h1 h2 h3 st
  subst h1; subst h2; subst h3
  exact ⟨v, (T.setVm vm₁).calling g' mk As.toArray, t, U', L, hT, X', hL, e1, e2, hq, st⟩
/-- a thing of a world lies in the heap -/
theorem vx_lt {D : va_G} {cl : List vw_C} {ws : va_W} {H1 : Heap} (h : va_P D cl ws H1) {k : Nat} {q : Nat × va_E} (hk : ws[k]? = some q) : q.1 < H1.size := (h k q hk).lt
end VXS
/-! ===== END ===== -/
end
section
/-! Names and decode rows, printed. -/
abbrev cc_sc_spot : ByteArray := prog_1_method_2_code
def yy_sc_spot : MethodName := ⟨"SpotContours", "spot", "(III)I"⟩
def ww_sc_spot : List Cond := .code yy_sc_spot cc_sc_spot 5 (some .int) :: zz_B
theorem d_sc_spot_0 : decode cc_sc_spot 0 = .ok (.iload_n 1, 1) := by decide +kernel
theorem d_sc_spot_1 : decode cc_sc_spot 1 = .ok (.iload_n 2, 1) := by decide +kernel
theorem d_sc_spot_2 : decode cc_sc_spot 2 = .ok (.invokestatic 37, 3) := by decide +kernel
theorem d_sc_spot_5 : decode cc_sc_spot 5 = .ok (.ifCond .eq 22, 3) := by decide +kernel
theorem d_sc_spot_8 : decode cc_sc_spot 8 = .ok (.iload_n 3, 1) := by decide +kernel
theorem d_sc_spot_9 : decode cc_sc_spot 9 = .ok (.invokestatic 41, 3) := by decide +kernel
theorem d_sc_spot_12 : decode cc_sc_spot 12 = .ok (.ifCond .eq 15, 3) := by decide +kernel
theorem d_sc_spot_15 : decode cc_sc_spot 15 = .ok (.aload_n 0, 1) := by decide +kernel
theorem d_sc_spot_16 : decode cc_sc_spot 16 = .ok (.getfield 12, 3) := by decide +kernel
theorem d_sc_spot_19 : decode cc_sc_spot 19 = .ok (.iload_n 1, 1) := by decide +kernel
theorem d_sc_spot_20 : decode cc_sc_spot 20 = .ok (.iload_n 2, 1) := by decide +kernel
theorem d_sc_spot_21 : decode cc_sc_spot 21 = .ok (.invokevirtual 45, 3) := by decide +kernel
theorem d_sc_spot_24 : decode cc_sc_spot 24 = .ok (.ifCond .eq 11, 3) := by decide +kernel
theorem d_sc_spot_27 : decode cc_sc_spot 27 = .ok (.new 48, 3) := by decide +kernel
theorem d_sc_spot_30 : decode cc_sc_spot 30 = .ok (.dup, 1) := by decide +kernel
theorem d_sc_spot_31 : decode cc_sc_spot 31 = .ok (.invokespecial 50, 3) := by decide +kernel
theorem d_sc_spot_34 : decode cc_sc_spot 34 = .ok (.athrow, 1) := by decide +kernel
theorem d_sc_spot_35 : decode cc_sc_spot 35 = .ok (.aload_n 0, 1) := by decide +kernel
theorem d_sc_spot_36 : decode cc_sc_spot 36 = .ok (.getfield 12, 3) := by decide +kernel
theorem d_sc_spot_39 : decode cc_sc_spot 39 = .ok (.invokevirtual 51, 3) := by decide +kernel
theorem d_sc_spot_42 : decode cc_sc_spot 42 = .ok (.bipush 16, 2) := by decide +kernel
theorem d_sc_spot_44 : decode cc_sc_spot 44 = .ok (.if_icmp .lt 11, 3) := by decide +kernel
theorem d_sc_spot_47 : decode cc_sc_spot 47 = .ok (.new 55, 3) := by decide +kernel
theorem d_sc_spot_50 : decode cc_sc_spot 50 = .ok (.dup, 1) := by decide +kernel
theorem d_sc_spot_51 : decode cc_sc_spot 51 = .ok (.invokespecial 57, 3) := by decide +kernel
theorem d_sc_spot_54 : decode cc_sc_spot 54 = .ok (.athrow, 1) := by decide +kernel
theorem d_sc_spot_55 : decode cc_sc_spot 55 = .ok (.aload_n 0, 1) := by decide +kernel
theorem d_sc_spot_56 : decode cc_sc_spot 56 = .ok (.getfield 12, 3) := by decide +kernel
theorem d_sc_spot_59 : decode cc_sc_spot 59 = .ok (.iload_n 1, 1) := by decide +kernel
theorem d_sc_spot_60 : decode cc_sc_spot 60 = .ok (.iload_n 2, 1) := by decide +kernel
theorem d_sc_spot_61 : decode cc_sc_spot 61 = .ok (.iload_n 3, 1) := by decide +kernel
theorem d_sc_spot_62 : decode cc_sc_spot 62 = .ok (.invokevirtual 58, 3) := by decide +kernel
theorem d_sc_spot_65 : decode cc_sc_spot 65 = .ok (.istore 4, 2) := by decide +kernel
theorem d_sc_spot_67 : decode cc_sc_spot 67 = .ok (.aload_n 0, 1) := by decide +kernel
theorem d_sc_spot_68 : decode cc_sc_spot 68 = .ok (.getfield 19, 3) := by decide +kernel
theorem d_sc_spot_71 : decode cc_sc_spot 71 = .ok (.aload_n 0, 1) := by decide +kernel
theorem d_sc_spot_72 : decode cc_sc_spot 72 = .ok (.getfield 12, 3) := by decide +kernel
theorem d_sc_spot_75 : decode cc_sc_spot 75 = .ok (.invokevirtual 62, 3) := by decide +kernel
theorem d_sc_spot_78 : decode cc_sc_spot 78 = .ok (.aload_n 0, 1) := by decide +kernel
theorem d_sc_spot_79 : decode cc_sc_spot 79 = .ok (.getfield 33, 3) := by decide +kernel
theorem d_sc_spot_82 : decode cc_sc_spot 82 = .ok (.iconst 0, 1) := by decide +kernel
theorem d_sc_spot_83 : decode cc_sc_spot 83 = .ok (.invokevirtual 66, 3) := by decide +kernel
theorem d_sc_spot_86 : decode cc_sc_spot 86 = .ok (.iload 4, 2) := by decide +kernel
theorem d_sc_spot_88 : decode cc_sc_spot 88 = .ok (.ireturn, 1) := by decide +kernel
abbrev cc_sc_raise : ByteArray := prog_1_method_3_code
def yy_sc_raise : MethodName := ⟨"SpotContours", "raise", "(II)I"⟩
def ww_sc_raise : List Cond := .code yy_sc_raise cc_sc_raise 4 (some .int) :: zz_B
theorem d_sc_raise_0 : decode cc_sc_raise 0 = .ok (.aload_n 0, 1) := by decide +kernel
theorem d_sc_raise_1 : decode cc_sc_raise 1 = .ok (.getfield 12, 3) := by decide +kernel
theorem d_sc_raise_4 : decode cc_sc_raise 4 = .ok (.iload_n 1, 1) := by decide +kernel
theorem d_sc_raise_5 : decode cc_sc_raise 5 = .ok (.invokevirtual 70, 3) := by decide +kernel
theorem d_sc_raise_8 : decode cc_sc_raise 8 = .ok (.ifCond .ne 11, 3) := by decide +kernel
theorem d_sc_raise_11 : decode cc_sc_raise 11 = .ok (.new 73, 3) := by decide +kernel
theorem d_sc_raise_14 : decode cc_sc_raise 14 = .ok (.dup, 1) := by decide +kernel
theorem d_sc_raise_15 : decode cc_sc_raise 15 = .ok (.invokespecial 75, 3) := by decide +kernel
theorem d_sc_raise_18 : decode cc_sc_raise 18 = .ok (.athrow, 1) := by decide +kernel
theorem d_sc_raise_19 : decode cc_sc_raise 19 = .ok (.iload_n 2, 1) := by decide +kernel
theorem d_sc_raise_20 : decode cc_sc_raise 20 = .ok (.invokestatic 41, 3) := by decide +kernel
theorem d_sc_raise_23 : decode cc_sc_raise 23 = .ok (.ifCond .ne 11, 3) := by decide +kernel
theorem d_sc_raise_26 : decode cc_sc_raise 26 = .ok (.new 48, 3) := by decide +kernel
theorem d_sc_raise_29 : decode cc_sc_raise 29 = .ok (.dup, 1) := by decide +kernel
theorem d_sc_raise_30 : decode cc_sc_raise 30 = .ok (.invokespecial 50, 3) := by decide +kernel
theorem d_sc_raise_33 : decode cc_sc_raise 33 = .ok (.athrow, 1) := by decide +kernel
theorem d_sc_raise_34 : decode cc_sc_raise 34 = .ok (.aload_n 0, 1) := by decide +kernel
theorem d_sc_raise_35 : decode cc_sc_raise 35 = .ok (.getfield 12, 3) := by decide +kernel
theorem d_sc_raise_38 : decode cc_sc_raise 38 = .ok (.iload_n 1, 1) := by decide +kernel
theorem d_sc_raise_39 : decode cc_sc_raise 39 = .ok (.invokevirtual 76, 3) := by decide +kernel
theorem d_sc_raise_42 : decode cc_sc_raise 42 = .ok (.istore_n 3, 1) := by decide +kernel
theorem d_sc_raise_43 : decode cc_sc_raise 43 = .ok (.aload_n 0, 1) := by decide +kernel
theorem d_sc_raise_44 : decode cc_sc_raise 44 = .ok (.getfield 12, 3) := by decide +kernel
theorem d_sc_raise_47 : decode cc_sc_raise 47 = .ok (.iload_n 1, 1) := by decide +kernel
theorem d_sc_raise_48 : decode cc_sc_raise 48 = .ok (.iload_n 2, 1) := by decide +kernel
theorem d_sc_raise_49 : decode cc_sc_raise 49 = .ok (.invokevirtual 80, 3) := by decide +kernel
theorem d_sc_raise_52 : decode cc_sc_raise 52 = .ok (.aload_n 0, 1) := by decide +kernel
theorem d_sc_raise_53 : decode cc_sc_raise 53 = .ok (.getfield 33, 3) := by decide +kernel
theorem d_sc_raise_56 : decode cc_sc_raise 56 = .ok (.iconst 0, 1) := by decide +kernel
theorem d_sc_raise_57 : decode cc_sc_raise 57 = .ok (.invokevirtual 66, 3) := by decide +kernel
theorem d_sc_raise_60 : decode cc_sc_raise 60 = .ok (.iload_n 3, 1) := by decide +kernel
theorem d_sc_raise_61 : decode cc_sc_raise 61 = .ok (.ireturn, 1) := by decide +kernel
abbrev cc_sc_triangles : ByteArray := prog_1_method_4_code
def yy_sc_triangles : MethodName := ⟨"SpotContours", "triangles", "()I"⟩
def ww_sc_triangles : List Cond := .code yy_sc_triangles cc_sc_triangles 1 (some .int) :: zz_B
theorem d_sc_triangles_0 : decode cc_sc_triangles 0 = .ok (.aload_n 0, 1) := by decide +kernel
theorem d_sc_triangles_1 : decode cc_sc_triangles 1 = .ok (.getfield 19, 3) := by decide +kernel
theorem d_sc_triangles_4 : decode cc_sc_triangles 4 = .ok (.invokevirtual 84, 3) := by decide +kernel
theorem d_sc_triangles_7 : decode cc_sc_triangles 7 = .ok (.ireturn, 1) := by decide +kernel
abbrev cc_sc_corner : ByteArray := prog_1_method_5_code
def yy_sc_corner : MethodName := ⟨"SpotContours", "corner", "(II)I"⟩
def ww_sc_corner : List Cond := .code yy_sc_corner cc_sc_corner 3 (some .int) :: zz_B
theorem d_sc_corner_0 : decode cc_sc_corner 0 = .ok (.iload_n 1, 1) := by decide +kernel
theorem d_sc_corner_1 : decode cc_sc_corner 1 = .ok (.ifCond .lt 23, 3) := by decide +kernel
theorem d_sc_corner_4 : decode cc_sc_corner 4 = .ok (.iload_n 1, 1) := by decide +kernel
theorem d_sc_corner_5 : decode cc_sc_corner 5 = .ok (.aload_n 0, 1) := by decide +kernel
theorem d_sc_corner_6 : decode cc_sc_corner 6 = .ok (.getfield 19, 3) := by decide +kernel
theorem d_sc_corner_9 : decode cc_sc_corner 9 = .ok (.invokevirtual 84, 3) := by decide +kernel
theorem d_sc_corner_12 : decode cc_sc_corner 12 = .ok (.if_icmp .ge 12, 3) := by decide +kernel
theorem d_sc_corner_15 : decode cc_sc_corner 15 = .ok (.iload_n 2, 1) := by decide +kernel
theorem d_sc_corner_16 : decode cc_sc_corner 16 = .ok (.ifCond .lt 8, 3) := by decide +kernel
theorem d_sc_corner_19 : decode cc_sc_corner 19 = .ok (.iload_n 2, 1) := by decide +kernel
theorem d_sc_corner_20 : decode cc_sc_corner 20 = .ok (.iconst 3, 1) := by decide +kernel
theorem d_sc_corner_21 : decode cc_sc_corner 21 = .ok (.if_icmp .lt 11, 3) := by decide +kernel
theorem d_sc_corner_24 : decode cc_sc_corner 24 = .ok (.new 73, 3) := by decide +kernel
theorem d_sc_corner_27 : decode cc_sc_corner 27 = .ok (.dup, 1) := by decide +kernel
theorem d_sc_corner_28 : decode cc_sc_corner 28 = .ok (.invokespecial 75, 3) := by decide +kernel
theorem d_sc_corner_31 : decode cc_sc_corner 31 = .ok (.athrow, 1) := by decide +kernel
theorem d_sc_corner_32 : decode cc_sc_corner 32 = .ok (.aload_n 0, 1) := by decide +kernel
theorem d_sc_corner_33 : decode cc_sc_corner 33 = .ok (.getfield 19, 3) := by decide +kernel
theorem d_sc_corner_36 : decode cc_sc_corner 36 = .ok (.iload_n 1, 1) := by decide +kernel
theorem d_sc_corner_37 : decode cc_sc_corner 37 = .ok (.iload_n 2, 1) := by decide +kernel
theorem d_sc_corner_38 : decode cc_sc_corner 38 = .ok (.invokevirtual 85, 3) := by decide +kernel
theorem d_sc_corner_41 : decode cc_sc_corner 41 = .ok (.ireturn, 1) := by decide +kernel
abbrev cc_sc_edge : ByteArray := prog_1_method_6_code
def yy_sc_edge : MethodName := ⟨"SpotContours", "edge", "(II)I"⟩
def ww_sc_edge : List Cond := .code yy_sc_edge cc_sc_edge 3 (some .int) :: zz_B
theorem d_sc_edge_0 : decode cc_sc_edge 0 = .ok (.aload_n 0, 1) := by decide +kernel
theorem d_sc_edge_1 : decode cc_sc_edge 1 = .ok (.getfield 12, 3) := by decide +kernel
theorem d_sc_edge_4 : decode cc_sc_edge 4 = .ok (.iload_n 1, 1) := by decide +kernel
theorem d_sc_edge_5 : decode cc_sc_edge 5 = .ok (.invokevirtual 70, 3) := by decide +kernel
theorem d_sc_edge_8 : decode cc_sc_edge 8 = .ok (.ifCond .eq 14, 3) := by decide +kernel
theorem d_sc_edge_11 : decode cc_sc_edge 11 = .ok (.aload_n 0, 1) := by decide +kernel
theorem d_sc_edge_12 : decode cc_sc_edge 12 = .ok (.getfield 12, 3) := by decide +kernel
theorem d_sc_edge_15 : decode cc_sc_edge 15 = .ok (.iload_n 2, 1) := by decide +kernel
theorem d_sc_edge_16 : decode cc_sc_edge 16 = .ok (.invokevirtual 70, 3) := by decide +kernel
theorem d_sc_edge_19 : decode cc_sc_edge 19 = .ok (.ifCond .ne 11, 3) := by decide +kernel
theorem d_sc_edge_22 : decode cc_sc_edge 22 = .ok (.new 73, 3) := by decide +kernel
theorem d_sc_edge_25 : decode cc_sc_edge 25 = .ok (.dup, 1) := by decide +kernel
theorem d_sc_edge_26 : decode cc_sc_edge 26 = .ok (.invokespecial 75, 3) := by decide +kernel
theorem d_sc_edge_29 : decode cc_sc_edge 29 = .ok (.athrow, 1) := by decide +kernel
theorem d_sc_edge_30 : decode cc_sc_edge 30 = .ok (.aload_n 0, 1) := by decide +kernel
theorem d_sc_edge_31 : decode cc_sc_edge 31 = .ok (.getfield 19, 3) := by decide +kernel
theorem d_sc_edge_34 : decode cc_sc_edge 34 = .ok (.iload_n 1, 1) := by decide +kernel
theorem d_sc_edge_35 : decode cc_sc_edge 35 = .ok (.iload_n 2, 1) := by decide +kernel
theorem d_sc_edge_36 : decode cc_sc_edge 36 = .ok (.invokevirtual 89, 3) := by decide +kernel
theorem d_sc_edge_39 : decode cc_sc_edge 39 = .ok (.ireturn, 1) := by decide +kernel
abbrev cc_sc_at : ByteArray := prog_1_method_7_code
def yy_sc_at : MethodName := ⟨"SpotContours", "at", "(II)I"⟩
def ww_sc_at : List Cond := .code yy_sc_at cc_sc_at 4 (some .int) :: zz_B
theorem d_sc_at_0 : decode cc_sc_at 0 = .ok (.iload_n 1, 1) := by decide +kernel
theorem d_sc_at_1 : decode cc_sc_at 1 = .ok (.iload_n 2, 1) := by decide +kernel
theorem d_sc_at_2 : decode cc_sc_at 2 = .ok (.invokestatic 37, 3) := by decide +kernel
theorem d_sc_at_5 : decode cc_sc_at 5 = .ok (.ifCond .eq 19, 3) := by decide +kernel
theorem d_sc_at_8 : decode cc_sc_at 8 = .ok (.aload_n 0, 1) := by decide +kernel
theorem d_sc_at_9 : decode cc_sc_at 9 = .ok (.getfield 19, 3) := by decide +kernel
theorem d_sc_at_12 : decode cc_sc_at 12 = .ok (.aload_n 0, 1) := by decide +kernel
theorem d_sc_at_13 : decode cc_sc_at 13 = .ok (.getfield 12, 3) := by decide +kernel
theorem d_sc_at_16 : decode cc_sc_at 16 = .ok (.iload_n 1, 1) := by decide +kernel
theorem d_sc_at_17 : decode cc_sc_at 17 = .ok (.iload_n 2, 1) := by decide +kernel
theorem d_sc_at_18 : decode cc_sc_at 18 = .ok (.invokevirtual 92, 3) := by decide +kernel
theorem d_sc_at_21 : decode cc_sc_at 21 = .ok (.goto 4, 3) := by decide +kernel
theorem d_sc_at_24 : decode cc_sc_at 24 = .ok (.iconst (-1), 1) := by decide +kernel
theorem d_sc_at_25 : decode cc_sc_at 25 = .ok (.istore_n 3, 1) := by decide +kernel
theorem d_sc_at_26 : decode cc_sc_at 26 = .ok (.iload_n 3, 1) := by decide +kernel
theorem d_sc_at_27 : decode cc_sc_at 27 = .ok (.iconst (-1), 1) := by decide +kernel
theorem d_sc_at_28 : decode cc_sc_at 28 = .ok (.if_icmp .ne 11, 3) := by decide +kernel
theorem d_sc_at_31 : decode cc_sc_at 31 = .ok (.new 96, 3) := by decide +kernel
theorem d_sc_at_34 : decode cc_sc_at 34 = .ok (.dup, 1) := by decide +kernel
theorem d_sc_at_35 : decode cc_sc_at 35 = .ok (.invokespecial 98, 3) := by decide +kernel
theorem d_sc_at_38 : decode cc_sc_at 38 = .ok (.athrow, 1) := by decide +kernel
theorem d_sc_at_39 : decode cc_sc_at 39 = .ok (.iload_n 3, 1) := by decide +kernel
theorem d_sc_at_40 : decode cc_sc_at 40 = .ok (.ireturn, 1) := by decide +kernel
abbrev cc_sc_contours : ByteArray := prog_1_method_8_code
def yy_sc_contours : MethodName := ⟨"SpotContours", "contours", "(I)I"⟩
def ww_sc_contours : List Cond := .code yy_sc_contours cc_sc_contours 2 (some .int) :: zz_B
theorem d_sc_contours_0 : decode cc_sc_contours 0 = .ok (.aload_n 0, 1) := by decide +kernel
theorem d_sc_contours_1 : decode cc_sc_contours 1 = .ok (.iload_n 1, 1) := by decide +kernel
theorem d_sc_contours_2 : decode cc_sc_contours 2 = .ok (.invokevirtual 99, 3) := by decide +kernel
theorem d_sc_contours_5 : decode cc_sc_contours 5 = .ok (.aload_n 0, 1) := by decide +kernel
theorem d_sc_contours_6 : decode cc_sc_contours 6 = .ok (.getfield 26, 3) := by decide +kernel
theorem d_sc_contours_9 : decode cc_sc_contours 9 = .ok (.invokevirtual 102, 3) := by decide +kernel
theorem d_sc_contours_12 : decode cc_sc_contours 12 = .ok (.ireturn, 1) := by decide +kernel
abbrev cc_sc_contour : ByteArray := prog_1_method_9_code
def yy_sc_contour : MethodName := ⟨"SpotContours", "contour", "(II)I"⟩
def ww_sc_contour : List Cond := .code yy_sc_contour cc_sc_contour 4 (some .int) :: zz_B
theorem d_sc_contour_0 : decode cc_sc_contour 0 = .ok (.aload_n 0, 1) := by decide +kernel
theorem d_sc_contour_1 : decode cc_sc_contour 1 = .ok (.iload_n 1, 1) := by decide +kernel
theorem d_sc_contour_2 : decode cc_sc_contour 2 = .ok (.invokevirtual 99, 3) := by decide +kernel
theorem d_sc_contour_5 : decode cc_sc_contour 5 = .ok (.aload_n 0, 1) := by decide +kernel
theorem d_sc_contour_6 : decode cc_sc_contour 6 = .ok (.getfield 26, 3) := by decide +kernel
theorem d_sc_contour_9 : decode cc_sc_contour 9 = .ok (.iload_n 2, 1) := by decide +kernel
theorem d_sc_contour_10 : decode cc_sc_contour 10 = .ok (.invokevirtual 103, 3) := by decide +kernel
theorem d_sc_contour_13 : decode cc_sc_contour 13 = .ok (.ifCond .ne 11, 3) := by decide +kernel
theorem d_sc_contour_16 : decode cc_sc_contour 16 = .ok (.new 73, 3) := by decide +kernel
theorem d_sc_contour_19 : decode cc_sc_contour 19 = .ok (.dup, 1) := by decide +kernel
theorem d_sc_contour_20 : decode cc_sc_contour 20 = .ok (.invokespecial 75, 3) := by decide +kernel
theorem d_sc_contour_23 : decode cc_sc_contour 23 = .ok (.athrow, 1) := by decide +kernel
theorem d_sc_contour_24 : decode cc_sc_contour 24 = .ok (.aload_n 0, 1) := by decide +kernel
theorem d_sc_contour_25 : decode cc_sc_contour 25 = .ok (.getfield 26, 3) := by decide +kernel
theorem d_sc_contour_28 : decode cc_sc_contour 28 = .ok (.iload_n 2, 1) := by decide +kernel
theorem d_sc_contour_29 : decode cc_sc_contour 29 = .ok (.invokevirtual 106, 3) := by decide +kernel
theorem d_sc_contour_32 : decode cc_sc_contour 32 = .ok (.istore_n 3, 1) := by decide +kernel
theorem d_sc_contour_33 : decode cc_sc_contour 33 = .ok (.aload_n 0, 1) := by decide +kernel
theorem d_sc_contour_34 : decode cc_sc_contour 34 = .ok (.getfield 26, 3) := by decide +kernel
theorem d_sc_contour_37 : decode cc_sc_contour 37 = .ok (.iload_n 2, 1) := by decide +kernel
theorem d_sc_contour_38 : decode cc_sc_contour 38 = .ok (.invokevirtual 109, 3) := by decide +kernel
theorem d_sc_contour_41 : decode cc_sc_contour 41 = .ok (.ifCond .ne 5, 3) := by decide +kernel
theorem d_sc_contour_44 : decode cc_sc_contour 44 = .ok (.iload_n 3, 1) := by decide +kernel
theorem d_sc_contour_45 : decode cc_sc_contour 45 = .ok (.ireturn, 1) := by decide +kernel
theorem d_sc_contour_46 : decode cc_sc_contour 46 = .ok (.aload_n 0, 1) := by decide +kernel
theorem d_sc_contour_47 : decode cc_sc_contour 47 = .ok (.getfield 26, 3) := by decide +kernel
theorem d_sc_contour_50 : decode cc_sc_contour 50 = .ok (.aload_n 0, 1) := by decide +kernel
theorem d_sc_contour_51 : decode cc_sc_contour 51 = .ok (.getfield 12, 3) := by decide +kernel
theorem d_sc_contour_54 : decode cc_sc_contour 54 = .ok (.iload_n 2, 1) := by decide +kernel
theorem d_sc_contour_55 : decode cc_sc_contour 55 = .ok (.invokevirtual 112, 3) := by decide +kernel
theorem d_sc_contour_58 : decode cc_sc_contour 58 = .ok (.ifCond .eq 11, 3) := by decide +kernel
theorem d_sc_contour_61 : decode cc_sc_contour 61 = .ok (.iload_n 3, 1) := by decide +kernel
theorem d_sc_contour_62 : decode cc_sc_contour 62 = .ok (.sipush 2000, 3) := by decide +kernel
theorem d_sc_contour_65 : decode cc_sc_contour 65 = .ok (.iadd, 1) := by decide +kernel
theorem d_sc_contour_66 : decode cc_sc_contour 66 = .ok (.goto 8, 3) := by decide +kernel
theorem d_sc_contour_69 : decode cc_sc_contour 69 = .ok (.iload_n 3, 1) := by decide +kernel
theorem d_sc_contour_70 : decode cc_sc_contour 70 = .ok (.sipush 1000, 3) := by decide +kernel
theorem d_sc_contour_73 : decode cc_sc_contour 73 = .ok (.iadd, 1) := by decide +kernel
theorem d_sc_contour_74 : decode cc_sc_contour 74 = .ok (.ireturn, 1) := by decide +kernel
abbrev cc_sc_crossing : ByteArray := prog_1_method_10_code
def yy_sc_crossing : MethodName := ⟨"SpotContours", "crossing", "(III)I"⟩
def ww_sc_crossing : List Cond := .code yy_sc_crossing cc_sc_crossing 7 (some .int) :: zz_B
theorem d_sc_crossing_0 : decode cc_sc_crossing 0 = .ok (.aload_n 0, 1) := by decide +kernel
theorem d_sc_crossing_1 : decode cc_sc_crossing 1 = .ok (.iload_n 1, 1) := by decide +kernel
theorem d_sc_crossing_2 : decode cc_sc_crossing 2 = .ok (.invokevirtual 99, 3) := by decide +kernel
theorem d_sc_crossing_5 : decode cc_sc_crossing 5 = .ok (.aload_n 0, 1) := by decide +kernel
theorem d_sc_crossing_6 : decode cc_sc_crossing 6 = .ok (.iload_n 2, 1) := by decide +kernel
theorem d_sc_crossing_7 : decode cc_sc_crossing 7 = .ok (.iload_n 3, 1) := by decide +kernel
theorem d_sc_crossing_8 : decode cc_sc_crossing 8 = .ok (.invokevirtual 116, 3) := by decide +kernel
theorem d_sc_crossing_11 : decode cc_sc_crossing 11 = .ok (.istore 4, 2) := by decide +kernel
theorem d_sc_crossing_13 : decode cc_sc_crossing 13 = .ok (.iload 4, 2) := by decide +kernel
theorem d_sc_crossing_15 : decode cc_sc_crossing 15 = .ok (.invokestatic 119, 3) := by decide +kernel
theorem d_sc_crossing_18 : decode cc_sc_crossing 18 = .ok (.istore 5, 2) := by decide +kernel
theorem d_sc_crossing_20 : decode cc_sc_crossing 20 = .ok (.iload 4, 2) := by decide +kernel
theorem d_sc_crossing_22 : decode cc_sc_crossing 22 = .ok (.invokestatic 122, 3) := by decide +kernel
theorem d_sc_crossing_25 : decode cc_sc_crossing 25 = .ok (.istore 6, 2) := by decide +kernel
theorem d_sc_crossing_27 : decode cc_sc_crossing 27 = .ok (.bipush 16, 2) := by decide +kernel
theorem d_sc_crossing_29 : decode cc_sc_crossing 29 = .ok (.iload 5, 2) := by decide +kernel
theorem d_sc_crossing_31 : decode cc_sc_crossing 31 = .ok (.iload 6, 2) := by decide +kernel
theorem d_sc_crossing_33 : decode cc_sc_crossing 33 = .ok (.invokestatic 125, 3) := by decide +kernel
theorem d_sc_crossing_36 : decode cc_sc_crossing 36 = .ok (.imul, 1) := by decide +kernel
theorem d_sc_crossing_37 : decode cc_sc_crossing 37 = .ok (.iload 5, 2) := by decide +kernel
theorem d_sc_crossing_39 : decode cc_sc_crossing 39 = .ok (.iload 6, 2) := by decide +kernel
theorem d_sc_crossing_41 : decode cc_sc_crossing 41 = .ok (.invokestatic 130, 3) := by decide +kernel
theorem d_sc_crossing_44 : decode cc_sc_crossing 44 = .ok (.iadd, 1) := by decide +kernel
theorem d_sc_crossing_45 : decode cc_sc_crossing 45 = .ok (.ireturn, 1) := by decide +kernel
abbrev cc_sc_place : ByteArray := prog_1_method_11_code
def yy_sc_place : MethodName := ⟨"SpotContours", "place", "(III)I"⟩
def ww_sc_place : List Cond := .code yy_sc_place cc_sc_place 5 (some .int) :: zz_B
theorem d_sc_place_0 : decode cc_sc_place 0 = .ok (.aload_n 0, 1) := by decide +kernel
theorem d_sc_place_1 : decode cc_sc_place 1 = .ok (.iload_n 1, 1) := by decide +kernel
theorem d_sc_place_2 : decode cc_sc_place 2 = .ok (.invokevirtual 99, 3) := by decide +kernel
theorem d_sc_place_5 : decode cc_sc_place 5 = .ok (.aload_n 0, 1) := by decide +kernel
theorem d_sc_place_6 : decode cc_sc_place 6 = .ok (.iload_n 2, 1) := by decide +kernel
theorem d_sc_place_7 : decode cc_sc_place 7 = .ok (.iload_n 3, 1) := by decide +kernel
theorem d_sc_place_8 : decode cc_sc_place 8 = .ok (.invokevirtual 116, 3) := by decide +kernel
theorem d_sc_place_11 : decode cc_sc_place 11 = .ok (.istore 4, 2) := by decide +kernel
theorem d_sc_place_13 : decode cc_sc_place 13 = .ok (.bipush 64, 2) := by decide +kernel
theorem d_sc_place_15 : decode cc_sc_place 15 = .ok (.aload_n 0, 1) := by decide +kernel
theorem d_sc_place_16 : decode cc_sc_place 16 = .ok (.getfield 12, 3) := by decide +kernel
theorem d_sc_place_19 : decode cc_sc_place 19 = .ok (.iload 4, 2) := by decide +kernel
theorem d_sc_place_21 : decode cc_sc_place 21 = .ok (.iload_n 1, 1) := by decide +kernel
theorem d_sc_place_22 : decode cc_sc_place 22 = .ok (.invokevirtual 133, 3) := by decide +kernel
theorem d_sc_place_25 : decode cc_sc_place 25 = .ok (.imul, 1) := by decide +kernel
theorem d_sc_place_26 : decode cc_sc_place 26 = .ok (.aload_n 0, 1) := by decide +kernel
theorem d_sc_place_27 : decode cc_sc_place 27 = .ok (.getfield 12, 3) := by decide +kernel
theorem d_sc_place_30 : decode cc_sc_place 30 = .ok (.iload 4, 2) := by decide +kernel
theorem d_sc_place_32 : decode cc_sc_place 32 = .ok (.iload_n 1, 1) := by decide +kernel
theorem d_sc_place_33 : decode cc_sc_place 33 = .ok (.invokevirtual 136, 3) := by decide +kernel
theorem d_sc_place_36 : decode cc_sc_place 36 = .ok (.iadd, 1) := by decide +kernel
theorem d_sc_place_37 : decode cc_sc_place 37 = .ok (.ireturn, 1) := by decide +kernel
abbrev cc_sc_label : ByteArray := prog_1_method_12_code
def yy_sc_label : MethodName := ⟨"SpotContours", "label", "(I)I"⟩
def ww_sc_label : List Cond := .code yy_sc_label cc_sc_label 5 (some .int) :: zz_B
theorem d_sc_label_0 : decode cc_sc_label 0 = .ok (.aload_n 0, 1) := by decide +kernel
theorem d_sc_label_1 : decode cc_sc_label 1 = .ok (.iload_n 1, 1) := by decide +kernel
theorem d_sc_label_2 : decode cc_sc_label 2 = .ok (.invokevirtual 99, 3) := by decide +kernel
theorem d_sc_label_5 : decode cc_sc_label 5 = .ok (.aload_n 0, 1) := by decide +kernel
theorem d_sc_label_6 : decode cc_sc_label 6 = .ok (.getfield 33, 3) := by decide +kernel
theorem d_sc_label_9 : decode cc_sc_label 9 = .ok (.invokevirtual 139, 3) := by decide +kernel
theorem d_sc_label_12 : decode cc_sc_label 12 = .ok (.istore_n 2, 1) := by decide +kernel
theorem d_sc_label_13 : decode cc_sc_label 13 = .ok (.iconst 0, 1) := by decide +kernel
theorem d_sc_label_14 : decode cc_sc_label 14 = .ok (.istore_n 3, 1) := by decide +kernel
theorem d_sc_label_15 : decode cc_sc_label 15 = .ok (.iload_n 3, 1) := by decide +kernel
theorem d_sc_label_16 : decode cc_sc_label 16 = .ok (.aload_n 0, 1) := by decide +kernel
theorem d_sc_label_17 : decode cc_sc_label 17 = .ok (.getfield 26, 3) := by decide +kernel
theorem d_sc_label_20 : decode cc_sc_label 20 = .ok (.invokevirtual 102, 3) := by decide +kernel
theorem d_sc_label_23 : decode cc_sc_label 23 = .ok (.if_icmp .ge 80, 3) := by decide +kernel
theorem d_sc_label_26 : decode cc_sc_label 26 = .ok (.aload_n 0, 1) := by decide +kernel
theorem d_sc_label_27 : decode cc_sc_label 27 = .ok (.iload_n 1, 1) := by decide +kernel
theorem d_sc_label_28 : decode cc_sc_label 28 = .ok (.iload_n 3, 1) := by decide +kernel
theorem d_sc_label_29 : decode cc_sc_label 29 = .ok (.invokevirtual 140, 3) := by decide +kernel
theorem d_sc_label_32 : decode cc_sc_label 32 = .ok (.istore 4, 2) := by decide +kernel
theorem d_sc_label_34 : decode cc_sc_label 34 = .ok (.iload 4, 2) := by decide +kernel
theorem d_sc_label_36 : decode cc_sc_label 36 = .ok (.iconst (-1), 1) := by decide +kernel
theorem d_sc_label_37 : decode cc_sc_label 37 = .ok (.if_icmp .ne 6, 3) := by decide +kernel
theorem d_sc_label_40 : decode cc_sc_label 40 = .ok (.goto 57, 3) := by decide +kernel
theorem d_sc_label_43 : decode cc_sc_label 43 = .ok (.aload_n 0, 1) := by decide +kernel
theorem d_sc_label_44 : decode cc_sc_label 44 = .ok (.getfield 33, 3) := by decide +kernel
theorem d_sc_label_47 : decode cc_sc_label 47 = .ok (.invokevirtual 143, 3) := by decide +kernel
theorem d_sc_label_50 : decode cc_sc_label 50 = .ok (.ifCond .eq 19, 3) := by decide +kernel
theorem d_sc_label_53 : decode cc_sc_label 53 = .ok (.aload_n 0, 1) := by decide +kernel
theorem d_sc_label_54 : decode cc_sc_label 54 = .ok (.getfield 33, 3) := by decide +kernel
theorem d_sc_label_57 : decode cc_sc_label 57 = .ok (.iload_n 2, 1) := by decide +kernel
theorem d_sc_label_58 : decode cc_sc_label 58 = .ok (.invokevirtual 66, 3) := by decide +kernel
theorem d_sc_label_61 : decode cc_sc_label 61 = .ok (.new 55, 3) := by decide +kernel
theorem d_sc_label_64 : decode cc_sc_label 64 = .ok (.dup, 1) := by decide +kernel
theorem d_sc_label_65 : decode cc_sc_label 65 = .ok (.invokespecial 57, 3) := by decide +kernel
theorem d_sc_label_68 : decode cc_sc_label 68 = .ok (.athrow, 1) := by decide +kernel
theorem d_sc_label_69 : decode cc_sc_label 69 = .ok (.aload_n 0, 1) := by decide +kernel
theorem d_sc_label_70 : decode cc_sc_label 70 = .ok (.getfield 33, 3) := by decide +kernel
theorem d_sc_label_73 : decode cc_sc_label 73 = .ok (.iload_n 1, 1) := by decide +kernel
theorem d_sc_label_74 : decode cc_sc_label 74 = .ok (.aload_n 0, 1) := by decide +kernel
theorem d_sc_label_75 : decode cc_sc_label 75 = .ok (.getfield 12, 3) := by decide +kernel
theorem d_sc_label_78 : decode cc_sc_label 78 = .ok (.iload 4, 2) := by decide +kernel
theorem d_sc_label_80 : decode cc_sc_label 80 = .ok (.iload_n 1, 1) := by decide +kernel
theorem d_sc_label_81 : decode cc_sc_label 81 = .ok (.invokevirtual 133, 3) := by decide +kernel
theorem d_sc_label_84 : decode cc_sc_label 84 = .ok (.aload_n 0, 1) := by decide +kernel
theorem d_sc_label_85 : decode cc_sc_label 85 = .ok (.getfield 12, 3) := by decide +kernel
theorem d_sc_label_88 : decode cc_sc_label 88 = .ok (.iload 4, 2) := by decide +kernel
theorem d_sc_label_90 : decode cc_sc_label 90 = .ok (.iload_n 1, 1) := by decide +kernel
theorem d_sc_label_91 : decode cc_sc_label 91 = .ok (.invokevirtual 136, 3) := by decide +kernel
theorem d_sc_label_94 : decode cc_sc_label 94 = .ok (.invokevirtual 147, 3) := by decide +kernel
theorem d_sc_label_97 : decode cc_sc_label 97 = .ok (.iinc 3 1, 3) := by decide +kernel
theorem d_sc_label_100 : decode cc_sc_label 100 = .ok (.goto (-85), 3) := by decide +kernel
theorem d_sc_label_103 : decode cc_sc_label 103 = .ok (.aload_n 0, 1) := by decide +kernel
theorem d_sc_label_104 : decode cc_sc_label 104 = .ok (.getfield 33, 3) := by decide +kernel
theorem d_sc_label_107 : decode cc_sc_label 107 = .ok (.invokevirtual 139, 3) := by decide +kernel
theorem d_sc_label_110 : decode cc_sc_label 110 = .ok (.iload_n 2, 1) := by decide +kernel
theorem d_sc_label_111 : decode cc_sc_label 111 = .ok (.isub, 1) := by decide +kernel
theorem d_sc_label_112 : decode cc_sc_label 112 = .ok (.ireturn, 1) := by decide +kernel
abbrev cc_sc_labels : ByteArray := prog_1_method_13_code
def yy_sc_labels : MethodName := ⟨"SpotContours", "labels", "()I"⟩
def ww_sc_labels : List Cond := .code yy_sc_labels cc_sc_labels 1 (some .int) :: zz_B
theorem d_sc_labels_0 : decode cc_sc_labels 0 = .ok (.aload_n 0, 1) := by decide +kernel
theorem d_sc_labels_1 : decode cc_sc_labels 1 = .ok (.getfield 33, 3) := by decide +kernel
theorem d_sc_labels_4 : decode cc_sc_labels 4 = .ok (.invokevirtual 139, 3) := by decide +kernel
theorem d_sc_labels_7 : decode cc_sc_labels 7 = .ok (.ireturn, 1) := by decide +kernel
abbrev cc_sc_labelOf : ByteArray := prog_1_method_14_code
def yy_sc_labelOf : MethodName := ⟨"SpotContours", "labelOf", "(II)I"⟩
def ww_sc_labelOf : List Cond := .code yy_sc_labelOf cc_sc_labelOf 3 (some .int) :: zz_B
theorem d_sc_labelOf_0 : decode cc_sc_labelOf 0 = .ok (.iload_n 1, 1) := by decide +kernel
theorem d_sc_labelOf_1 : decode cc_sc_labelOf 1 = .ok (.ifCond .lt 14, 3) := by decide +kernel
theorem d_sc_labelOf_4 : decode cc_sc_labelOf 4 = .ok (.iload_n 1, 1) := by decide +kernel
theorem d_sc_labelOf_5 : decode cc_sc_labelOf 5 = .ok (.aload_n 0, 1) := by decide +kernel
theorem d_sc_labelOf_6 : decode cc_sc_labelOf 6 = .ok (.getfield 33, 3) := by decide +kernel
theorem d_sc_labelOf_9 : decode cc_sc_labelOf 9 = .ok (.invokevirtual 139, 3) := by decide +kernel
theorem d_sc_labelOf_12 : decode cc_sc_labelOf 12 = .ok (.if_icmp .lt 11, 3) := by decide +kernel
theorem d_sc_labelOf_15 : decode cc_sc_labelOf 15 = .ok (.new 73, 3) := by decide +kernel
theorem d_sc_labelOf_18 : decode cc_sc_labelOf 18 = .ok (.dup, 1) := by decide +kernel
theorem d_sc_labelOf_19 : decode cc_sc_labelOf 19 = .ok (.invokespecial 75, 3) := by decide +kernel
theorem d_sc_labelOf_22 : decode cc_sc_labelOf 22 = .ok (.athrow, 1) := by decide +kernel
theorem d_sc_labelOf_23 : decode cc_sc_labelOf 23 = .ok (.iload_n 2, 1) := by decide +kernel
theorem d_sc_labelOf_24 : decode cc_sc_labelOf 24 = .ok (.tableswitch 55 0 2 #[28, 37, 46], 28) := by decide +kernel
theorem d_sc_labelOf_52 : decode cc_sc_labelOf 52 = .ok (.aload_n 0, 1) := by decide +kernel
theorem d_sc_labelOf_53 : decode cc_sc_labelOf 53 = .ok (.getfield 33, 3) := by decide +kernel
theorem d_sc_labelOf_56 : decode cc_sc_labelOf 56 = .ok (.iload_n 1, 1) := by decide +kernel
theorem d_sc_labelOf_57 : decode cc_sc_labelOf 57 = .ok (.invokevirtual 150, 3) := by decide +kernel
theorem d_sc_labelOf_60 : decode cc_sc_labelOf 60 = .ok (.ireturn, 1) := by decide +kernel
theorem d_sc_labelOf_61 : decode cc_sc_labelOf 61 = .ok (.aload_n 0, 1) := by decide +kernel
theorem d_sc_labelOf_62 : decode cc_sc_labelOf 62 = .ok (.getfield 33, 3) := by decide +kernel
theorem d_sc_labelOf_65 : decode cc_sc_labelOf 65 = .ok (.iload_n 1, 1) := by decide +kernel
theorem d_sc_labelOf_66 : decode cc_sc_labelOf 66 = .ok (.invokevirtual 153, 3) := by decide +kernel
theorem d_sc_labelOf_69 : decode cc_sc_labelOf 69 = .ok (.ireturn, 1) := by decide +kernel
theorem d_sc_labelOf_70 : decode cc_sc_labelOf 70 = .ok (.aload_n 0, 1) := by decide +kernel
theorem d_sc_labelOf_71 : decode cc_sc_labelOf 71 = .ok (.getfield 33, 3) := by decide +kernel
theorem d_sc_labelOf_74 : decode cc_sc_labelOf 74 = .ok (.iload_n 1, 1) := by decide +kernel
theorem d_sc_labelOf_75 : decode cc_sc_labelOf 75 = .ok (.invokevirtual 156, 3) := by decide +kernel
theorem d_sc_labelOf_78 : decode cc_sc_labelOf 78 = .ok (.ireturn, 1) := by decide +kernel
theorem d_sc_labelOf_79 : decode cc_sc_labelOf 79 = .ok (.new 48, 3) := by decide +kernel
theorem d_sc_labelOf_82 : decode cc_sc_labelOf 82 = .ok (.dup, 1) := by decide +kernel
theorem d_sc_labelOf_83 : decode cc_sc_labelOf 83 = .ok (.invokespecial 50, 3) := by decide +kernel
theorem d_sc_labelOf_86 : decode cc_sc_labelOf 86 = .ok (.athrow, 1) := by decide +kernel
abbrev cc_sc_wipe : ByteArray := prog_1_method_15_code
def yy_sc_wipe : MethodName := ⟨"SpotContours", "wipe", "()I"⟩
def ww_sc_wipe : List Cond := .code yy_sc_wipe cc_sc_wipe 2 (some .int) :: zz_B
theorem d_sc_wipe_0 : decode cc_sc_wipe 0 = .ok (.aload_n 0, 1) := by decide +kernel
theorem d_sc_wipe_1 : decode cc_sc_wipe 1 = .ok (.getfield 33, 3) := by decide +kernel
theorem d_sc_wipe_4 : decode cc_sc_wipe 4 = .ok (.invokevirtual 139, 3) := by decide +kernel
theorem d_sc_wipe_7 : decode cc_sc_wipe 7 = .ok (.istore_n 1, 1) := by decide +kernel
theorem d_sc_wipe_8 : decode cc_sc_wipe 8 = .ok (.aload_n 0, 1) := by decide +kernel
theorem d_sc_wipe_9 : decode cc_sc_wipe 9 = .ok (.getfield 33, 3) := by decide +kernel
theorem d_sc_wipe_12 : decode cc_sc_wipe 12 = .ok (.iconst 0, 1) := by decide +kernel
theorem d_sc_wipe_13 : decode cc_sc_wipe 13 = .ok (.invokevirtual 66, 3) := by decide +kernel
theorem d_sc_wipe_16 : decode cc_sc_wipe 16 = .ok (.iload_n 1, 1) := by decide +kernel
theorem d_sc_wipe_17 : decode cc_sc_wipe 17 = .ok (.ireturn, 1) := by decide +kernel
abbrev cc_sc_isOnMap : ByteArray := prog_1_method_16_code
def yy_sc_isOnMap : MethodName := ⟨"SpotContours", "isOnMap", "(II)Z"⟩
def ww_sc_isOnMap : List Cond := .code yy_sc_isOnMap cc_sc_isOnMap 2 (some .boolean) :: zz_B
theorem d_sc_isOnMap_0 : decode cc_sc_isOnMap 0 = .ok (.iload_n 0, 1) := by decide +kernel
theorem d_sc_isOnMap_1 : decode cc_sc_isOnMap 1 = .ok (.ifCond .lt 23, 3) := by decide +kernel
theorem d_sc_isOnMap_4 : decode cc_sc_isOnMap 4 = .ok (.iload_n 0, 1) := by decide +kernel
theorem d_sc_isOnMap_5 : decode cc_sc_isOnMap 5 = .ok (.bipush 64, 2) := by decide +kernel
theorem d_sc_isOnMap_7 : decode cc_sc_isOnMap 7 = .ok (.if_icmp .ge 17, 3) := by decide +kernel
theorem d_sc_isOnMap_10 : decode cc_sc_isOnMap 10 = .ok (.iload_n 1, 1) := by decide +kernel
theorem d_sc_isOnMap_11 : decode cc_sc_isOnMap 11 = .ok (.ifCond .lt 13, 3) := by decide +kernel
theorem d_sc_isOnMap_14 : decode cc_sc_isOnMap 14 = .ok (.iload_n 1, 1) := by decide +kernel
theorem d_sc_isOnMap_15 : decode cc_sc_isOnMap 15 = .ok (.bipush 64, 2) := by decide +kernel
theorem d_sc_isOnMap_17 : decode cc_sc_isOnMap 17 = .ok (.if_icmp .ge 7, 3) := by decide +kernel
theorem d_sc_isOnMap_20 : decode cc_sc_isOnMap 20 = .ok (.iconst 1, 1) := by decide +kernel
theorem d_sc_isOnMap_21 : decode cc_sc_isOnMap 21 = .ok (.goto 4, 3) := by decide +kernel
theorem d_sc_isOnMap_24 : decode cc_sc_isOnMap 24 = .ok (.iconst 0, 1) := by decide +kernel
theorem d_sc_isOnMap_25 : decode cc_sc_isOnMap 25 = .ok (.ireturn, 1) := by decide +kernel
abbrev cc_sc_isHeight : ByteArray := prog_1_method_17_code
def yy_sc_isHeight : MethodName := ⟨"SpotContours", "isHeight", "(I)Z"⟩
def ww_sc_isHeight : List Cond := .code yy_sc_isHeight cc_sc_isHeight 1 (some .boolean) :: zz_B
theorem d_sc_isHeight_0 : decode cc_sc_isHeight 0 = .ok (.iload_n 0, 1) := by decide +kernel
theorem d_sc_isHeight_1 : decode cc_sc_isHeight 1 = .ok (.ifCond .lt 14, 3) := by decide +kernel
theorem d_sc_isHeight_4 : decode cc_sc_isHeight 4 = .ok (.iload_n 0, 1) := by decide +kernel
theorem d_sc_isHeight_5 : decode cc_sc_isHeight 5 = .ok (.sipush 999, 3) := by decide +kernel
theorem d_sc_isHeight_8 : decode cc_sc_isHeight 8 = .ok (.if_icmp .gt 7, 3) := by decide +kernel
theorem d_sc_isHeight_11 : decode cc_sc_isHeight 11 = .ok (.iconst 1, 1) := by decide +kernel
theorem d_sc_isHeight_12 : decode cc_sc_isHeight 12 = .ok (.goto 4, 3) := by decide +kernel
theorem d_sc_isHeight_15 : decode cc_sc_isHeight 15 = .ok (.iconst 0, 1) := by decide +kernel
theorem d_sc_isHeight_16 : decode cc_sc_isHeight 16 = .ok (.ireturn, 1) := by decide +kernel
abbrev cc_sc_traceLevel : ByteArray := prog_1_method_18_code
def yy_sc_traceLevel : MethodName := ⟨"SpotContours", "traceLevel", "(I)V"⟩
def ww_sc_traceLevel : List Cond := .code yy_sc_traceLevel cc_sc_traceLevel 2 none :: zz_B
theorem d_sc_traceLevel_0 : decode cc_sc_traceLevel 0 = .ok (.iload_n 1, 1) := by decide +kernel
theorem d_sc_traceLevel_1 : decode cc_sc_traceLevel 1 = .ok (.ifCond .lt 10, 3) := by decide +kernel
theorem d_sc_traceLevel_4 : decode cc_sc_traceLevel 4 = .ok (.iload_n 1, 1) := by decide +kernel
theorem d_sc_traceLevel_5 : decode cc_sc_traceLevel 5 = .ok (.sipush 998, 3) := by decide +kernel
theorem d_sc_traceLevel_8 : decode cc_sc_traceLevel 8 = .ok (.if_icmp .le 11, 3) := by decide +kernel
theorem d_sc_traceLevel_11 : decode cc_sc_traceLevel 11 = .ok (.new 48, 3) := by decide +kernel
theorem d_sc_traceLevel_14 : decode cc_sc_traceLevel 14 = .ok (.dup, 1) := by decide +kernel
theorem d_sc_traceLevel_15 : decode cc_sc_traceLevel 15 = .ok (.invokespecial 50, 3) := by decide +kernel
theorem d_sc_traceLevel_18 : decode cc_sc_traceLevel 18 = .ok (.athrow, 1) := by decide +kernel
theorem d_sc_traceLevel_19 : decode cc_sc_traceLevel 19 = .ok (.aload_n 0, 1) := by decide +kernel
theorem d_sc_traceLevel_20 : decode cc_sc_traceLevel 20 = .ok (.getfield 26, 3) := by decide +kernel
theorem d_sc_traceLevel_23 : decode cc_sc_traceLevel 23 = .ok (.aload_n 0, 1) := by decide +kernel
theorem d_sc_traceLevel_24 : decode cc_sc_traceLevel 24 = .ok (.getfield 12, 3) := by decide +kernel
theorem d_sc_traceLevel_27 : decode cc_sc_traceLevel 27 = .ok (.aload_n 0, 1) := by decide +kernel
theorem d_sc_traceLevel_28 : decode cc_sc_traceLevel 28 = .ok (.getfield 19, 3) := by decide +kernel
theorem d_sc_traceLevel_31 : decode cc_sc_traceLevel 31 = .ok (.iload_n 1, 1) := by decide +kernel
theorem d_sc_traceLevel_32 : decode cc_sc_traceLevel 32 = .ok (.invokevirtual 159, 3) := by decide +kernel
theorem d_sc_traceLevel_35 : decode cc_sc_traceLevel 35 = .ok (.return_, 1) := by decide +kernel
abbrev cc_sc_highOf : ByteArray := prog_1_method_19_code
def yy_sc_highOf : MethodName := ⟨"SpotContours", "highOf", "(I)I"⟩
def ww_sc_highOf : List Cond := .code yy_sc_highOf cc_sc_highOf 1 (some .int) :: zz_B
theorem d_sc_highOf_0 : decode cc_sc_highOf 0 = .ok (.iload_n 0, 1) := by decide +kernel
theorem d_sc_highOf_1 : decode cc_sc_highOf 1 = .ok (.bipush 16, 2) := by decide +kernel
theorem d_sc_highOf_3 : decode cc_sc_highOf 3 = .ok (.idiv, 1) := by decide +kernel
theorem d_sc_highOf_4 : decode cc_sc_highOf 4 = .ok (.ireturn, 1) := by decide +kernel
abbrev cc_sc_lowOf : ByteArray := prog_1_method_20_code
def yy_sc_lowOf : MethodName := ⟨"SpotContours", "lowOf", "(I)I"⟩
def ww_sc_lowOf : List Cond := .code yy_sc_lowOf cc_sc_lowOf 1 (some .int) :: zz_B
theorem d_sc_lowOf_0 : decode cc_sc_lowOf 0 = .ok (.iload_n 0, 1) := by decide +kernel
theorem d_sc_lowOf_1 : decode cc_sc_lowOf 1 = .ok (.bipush 16, 2) := by decide +kernel
theorem d_sc_lowOf_3 : decode cc_sc_lowOf 3 = .ok (.irem, 1) := by decide +kernel
theorem d_sc_lowOf_4 : decode cc_sc_lowOf 4 = .ok (.ireturn, 1) := by decide +kernel
abbrev cc_sc_pairAt : ByteArray := prog_1_method_21_code
def yy_sc_pairAt : MethodName := ⟨"SpotContours", "pairAt", "(II)I"⟩
def ww_sc_pairAt : List Cond := .code yy_sc_pairAt cc_sc_pairAt 3 (some .int) :: zz_B
theorem d_sc_pairAt_0 : decode cc_sc_pairAt 0 = .ok (.aload_n 0, 1) := by decide +kernel
theorem d_sc_pairAt_1 : decode cc_sc_pairAt 1 = .ok (.getfield 26, 3) := by decide +kernel
theorem d_sc_pairAt_4 : decode cc_sc_pairAt 4 = .ok (.iload_n 1, 1) := by decide +kernel
theorem d_sc_pairAt_5 : decode cc_sc_pairAt 5 = .ok (.invokevirtual 103, 3) := by decide +kernel
theorem d_sc_pairAt_8 : decode cc_sc_pairAt 8 = .ok (.ifCond .eq 19, 3) := by decide +kernel
theorem d_sc_pairAt_11 : decode cc_sc_pairAt 11 = .ok (.iload_n 2, 1) := by decide +kernel
theorem d_sc_pairAt_12 : decode cc_sc_pairAt 12 = .ok (.ifCond .lt 15, 3) := by decide +kernel
theorem d_sc_pairAt_15 : decode cc_sc_pairAt 15 = .ok (.iload_n 2, 1) := by decide +kernel
theorem d_sc_pairAt_16 : decode cc_sc_pairAt 16 = .ok (.aload_n 0, 1) := by decide +kernel
theorem d_sc_pairAt_17 : decode cc_sc_pairAt 17 = .ok (.getfield 26, 3) := by decide +kernel
theorem d_sc_pairAt_20 : decode cc_sc_pairAt 20 = .ok (.iload_n 1, 1) := by decide +kernel
theorem d_sc_pairAt_21 : decode cc_sc_pairAt 21 = .ok (.invokevirtual 106, 3) := by decide +kernel
theorem d_sc_pairAt_24 : decode cc_sc_pairAt 24 = .ok (.if_icmp .lt 11, 3) := by decide +kernel
theorem d_sc_pairAt_27 : decode cc_sc_pairAt 27 = .ok (.new 73, 3) := by decide +kernel
theorem d_sc_pairAt_30 : decode cc_sc_pairAt 30 = .ok (.dup, 1) := by decide +kernel
theorem d_sc_pairAt_31 : decode cc_sc_pairAt 31 = .ok (.invokespecial 75, 3) := by decide +kernel
theorem d_sc_pairAt_34 : decode cc_sc_pairAt 34 = .ok (.athrow, 1) := by decide +kernel
theorem d_sc_pairAt_35 : decode cc_sc_pairAt 35 = .ok (.aload_n 0, 1) := by decide +kernel
theorem d_sc_pairAt_36 : decode cc_sc_pairAt 36 = .ok (.getfield 26, 3) := by decide +kernel
theorem d_sc_pairAt_39 : decode cc_sc_pairAt 39 = .ok (.iload_n 1, 1) := by decide +kernel
theorem d_sc_pairAt_40 : decode cc_sc_pairAt 40 = .ok (.iload_n 2, 1) := by decide +kernel
theorem d_sc_pairAt_41 : decode cc_sc_pairAt 41 = .ok (.invokevirtual 163, 3) := by decide +kernel
theorem d_sc_pairAt_44 : decode cc_sc_pairAt 44 = .ok (.ireturn, 1) := by decide +kernel
abbrev cc_sc_firstFreePair : ByteArray := prog_1_method_22_code
def yy_sc_firstFreePair : MethodName := ⟨"SpotContours", "firstFreePair", "(II)I"⟩
def ww_sc_firstFreePair : List Cond := .code yy_sc_firstFreePair cc_sc_firstFreePair 7 (some .int) :: zz_B
theorem d_sc_firstFreePair_0 : decode cc_sc_firstFreePair 0 = .ok (.iconst 0, 1) := by decide +kernel
theorem d_sc_firstFreePair_1 : decode cc_sc_firstFreePair 1 = .ok (.istore_n 3, 1) := by decide +kernel
theorem d_sc_firstFreePair_2 : decode cc_sc_firstFreePair 2 = .ok (.iload_n 3, 1) := by decide +kernel
theorem d_sc_firstFreePair_3 : decode cc_sc_firstFreePair 3 = .ok (.aload_n 0, 1) := by decide +kernel
theorem d_sc_firstFreePair_4 : decode cc_sc_firstFreePair 4 = .ok (.getfield 26, 3) := by decide +kernel
theorem d_sc_firstFreePair_7 : decode cc_sc_firstFreePair 7 = .ok (.iload_n 2, 1) := by decide +kernel
theorem d_sc_firstFreePair_8 : decode cc_sc_firstFreePair 8 = .ok (.invokevirtual 106, 3) := by decide +kernel
theorem d_sc_firstFreePair_11 : decode cc_sc_firstFreePair 11 = .ok (.if_icmp .ge 75, 3) := by decide +kernel
theorem d_sc_firstFreePair_14 : decode cc_sc_firstFreePair 14 = .ok (.aload_n 0, 1) := by decide +kernel
theorem d_sc_firstFreePair_15 : decode cc_sc_firstFreePair 15 = .ok (.getfield 26, 3) := by decide +kernel
theorem d_sc_firstFreePair_18 : decode cc_sc_firstFreePair 18 = .ok (.iload_n 2, 1) := by decide +kernel
theorem d_sc_firstFreePair_19 : decode cc_sc_firstFreePair 19 = .ok (.iload_n 3, 1) := by decide +kernel
theorem d_sc_firstFreePair_20 : decode cc_sc_firstFreePair 20 = .ok (.invokevirtual 163, 3) := by decide +kernel
theorem d_sc_firstFreePair_23 : decode cc_sc_firstFreePair 23 = .ok (.istore 4, 2) := by decide +kernel
theorem d_sc_firstFreePair_25 : decode cc_sc_firstFreePair 25 = .ok (.aload_n 0, 1) := by decide +kernel
theorem d_sc_firstFreePair_26 : decode cc_sc_firstFreePair 26 = .ok (.getfield 12, 3) := by decide +kernel
theorem d_sc_firstFreePair_29 : decode cc_sc_firstFreePair 29 = .ok (.iload 4, 2) := by decide +kernel
theorem d_sc_firstFreePair_31 : decode cc_sc_firstFreePair 31 = .ok (.iload_n 1, 1) := by decide +kernel
theorem d_sc_firstFreePair_32 : decode cc_sc_firstFreePair 32 = .ok (.invokevirtual 133, 3) := by decide +kernel
theorem d_sc_firstFreePair_35 : decode cc_sc_firstFreePair 35 = .ok (.istore 5, 2) := by decide +kernel
theorem d_sc_firstFreePair_37 : decode cc_sc_firstFreePair 37 = .ok (.aload_n 0, 1) := by decide +kernel
theorem d_sc_firstFreePair_38 : decode cc_sc_firstFreePair 38 = .ok (.getfield 12, 3) := by decide +kernel
theorem d_sc_firstFreePair_41 : decode cc_sc_firstFreePair 41 = .ok (.iload 4, 2) := by decide +kernel
theorem d_sc_firstFreePair_43 : decode cc_sc_firstFreePair 43 = .ok (.iload_n 1, 1) := by decide +kernel
theorem d_sc_firstFreePair_44 : decode cc_sc_firstFreePair 44 = .ok (.invokevirtual 136, 3) := by decide +kernel
theorem d_sc_firstFreePair_47 : decode cc_sc_firstFreePair 47 = .ok (.istore 6, 2) := by decide +kernel
theorem d_sc_firstFreePair_49 : decode cc_sc_firstFreePair 49 = .ok (.aload_n 0, 1) := by decide +kernel
theorem d_sc_firstFreePair_50 : decode cc_sc_firstFreePair 50 = .ok (.getfield 12, 3) := by decide +kernel
theorem d_sc_firstFreePair_53 : decode cc_sc_firstFreePair 53 = .ok (.iload 5, 2) := by decide +kernel
theorem d_sc_firstFreePair_55 : decode cc_sc_firstFreePair 55 = .ok (.iload 6, 2) := by decide +kernel
theorem d_sc_firstFreePair_57 : decode cc_sc_firstFreePair 57 = .ok (.invokestatic 166, 3) := by decide +kernel
theorem d_sc_firstFreePair_60 : decode cc_sc_firstFreePair 60 = .ok (.ifCond .ne 20, 3) := by decide +kernel
theorem d_sc_firstFreePair_63 : decode cc_sc_firstFreePair 63 = .ok (.aload_n 0, 1) := by decide +kernel
theorem d_sc_firstFreePair_64 : decode cc_sc_firstFreePair 64 = .ok (.getfield 33, 3) := by decide +kernel
theorem d_sc_firstFreePair_67 : decode cc_sc_firstFreePair 67 = .ok (.iload 5, 2) := by decide +kernel
theorem d_sc_firstFreePair_69 : decode cc_sc_firstFreePair 69 = .ok (.iload 6, 2) := by decide +kernel
theorem d_sc_firstFreePair_71 : decode cc_sc_firstFreePair 71 = .ok (.invokevirtual 170, 3) := by decide +kernel
theorem d_sc_firstFreePair_74 : decode cc_sc_firstFreePair 74 = .ok (.ifCond .ne 6, 3) := by decide +kernel
theorem d_sc_firstFreePair_77 : decode cc_sc_firstFreePair 77 = .ok (.iload 4, 2) := by decide +kernel
theorem d_sc_firstFreePair_79 : decode cc_sc_firstFreePair 79 = .ok (.ireturn, 1) := by decide +kernel
theorem d_sc_firstFreePair_80 : decode cc_sc_firstFreePair 80 = .ok (.iinc 3 1, 3) := by decide +kernel
theorem d_sc_firstFreePair_83 : decode cc_sc_firstFreePair 83 = .ok (.goto (-81), 3) := by decide +kernel
theorem d_sc_firstFreePair_86 : decode cc_sc_firstFreePair 86 = .ok (.iconst (-1), 1) := by decide +kernel
theorem d_sc_firstFreePair_87 : decode cc_sc_firstFreePair 87 = .ok (.ireturn, 1) := by decide +kernel
end
section
/-! Names and decode rows, printed. -/
abbrev cc_floorDiv : ByteArray := prog_12_method_47_code
def yy_floorDiv : MethodName := ⟨"java/lang/Math", "floorDiv", "(II)I"⟩
def ww_floorDiv : List Cond := .code yy_floorDiv cc_floorDiv 3 (some .int) :: zz_B
theorem d_floorDiv_0 : decode cc_floorDiv 0 = .ok (.iload_n 0, 1) := by decide +kernel
theorem d_floorDiv_1 : decode cc_floorDiv 1 = .ok (.iload_n 1, 1) := by decide +kernel
theorem d_floorDiv_2 : decode cc_floorDiv 2 = .ok (.idiv, 1) := by decide +kernel
theorem d_floorDiv_3 : decode cc_floorDiv 3 = .ok (.istore_n 2, 1) := by decide +kernel
theorem d_floorDiv_4 : decode cc_floorDiv 4 = .ok (.iload_n 0, 1) := by decide +kernel
theorem d_floorDiv_5 : decode cc_floorDiv 5 = .ok (.iload_n 1, 1) := by decide +kernel
theorem d_floorDiv_6 : decode cc_floorDiv 6 = .ok (.ixor, 1) := by decide +kernel
theorem d_floorDiv_7 : decode cc_floorDiv 7 = .ok (.ifCond .ge 14, 3) := by decide +kernel
theorem d_floorDiv_10 : decode cc_floorDiv 10 = .ok (.iload_n 2, 1) := by decide +kernel
theorem d_floorDiv_11 : decode cc_floorDiv 11 = .ok (.iload_n 1, 1) := by decide +kernel
theorem d_floorDiv_12 : decode cc_floorDiv 12 = .ok (.imul, 1) := by decide +kernel
theorem d_floorDiv_13 : decode cc_floorDiv 13 = .ok (.iload_n 0, 1) := by decide +kernel
theorem d_floorDiv_14 : decode cc_floorDiv 14 = .ok (.if_icmp .eq 7, 3) := by decide +kernel
theorem d_floorDiv_17 : decode cc_floorDiv 17 = .ok (.iload_n 2, 1) := by decide +kernel
theorem d_floorDiv_18 : decode cc_floorDiv 18 = .ok (.iconst 1, 1) := by decide +kernel
theorem d_floorDiv_19 : decode cc_floorDiv 19 = .ok (.isub, 1) := by decide +kernel
theorem d_floorDiv_20 : decode cc_floorDiv 20 = .ok (.ireturn, 1) := by decide +kernel
theorem d_floorDiv_21 : decode cc_floorDiv 21 = .ok (.iload_n 2, 1) := by decide +kernel
theorem d_floorDiv_22 : decode cc_floorDiv 22 = .ok (.ireturn, 1) := by decide +kernel
end
section
/-! Names and decode rows, printed. -/
abbrev cc_sp_size : ByteArray := prog_4_method_2_code
def yy_sp_size : MethodName := ⟨"SpotContours$Spots", "size", "()I"⟩
def ww_sp_size : List Cond := .code yy_sp_size cc_sp_size 1 (some .int) :: zz_B
theorem d_sp_size_0 : decode cc_sp_size 0 = .ok (.aload_n 0, 1) := by decide +kernel
theorem d_sp_size_1 : decode cc_sp_size 1 = .ok (.getfield 21, 3) := by decide +kernel
theorem d_sp_size_4 : decode cc_sp_size 4 = .ok (.ireturn, 1) := by decide +kernel
abbrev cc_sp_isNumber : ByteArray := prog_4_method_3_code
def yy_sp_isNumber : MethodName := ⟨"SpotContours$Spots", "isNumber", "(I)Z"⟩
def ww_sp_isNumber : List Cond := .code yy_sp_isNumber cc_sp_isNumber 2 (some .boolean) :: zz_B
theorem d_sp_isNumber_0 : decode cc_sp_isNumber 0 = .ok (.iload_n 1, 1) := by decide +kernel
theorem d_sp_isNumber_1 : decode cc_sp_isNumber 1 = .ok (.ifCond .lt 15, 3) := by decide +kernel
theorem d_sp_isNumber_4 : decode cc_sp_isNumber 4 = .ok (.iload_n 1, 1) := by decide +kernel
theorem d_sp_isNumber_5 : decode cc_sp_isNumber 5 = .ok (.aload_n 0, 1) := by decide +kernel
theorem d_sp_isNumber_6 : decode cc_sp_isNumber 6 = .ok (.getfield 21, 3) := by decide +kernel
theorem d_sp_isNumber_9 : decode cc_sp_isNumber 9 = .ok (.if_icmp .ge 7, 3) := by decide +kernel
theorem d_sp_isNumber_12 : decode cc_sp_isNumber 12 = .ok (.iconst 1, 1) := by decide +kernel
theorem d_sp_isNumber_13 : decode cc_sp_isNumber 13 = .ok (.goto 4, 3) := by decide +kernel
theorem d_sp_isNumber_16 : decode cc_sp_isNumber 16 = .ok (.iconst 0, 1) := by decide +kernel
theorem d_sp_isNumber_17 : decode cc_sp_isNumber 17 = .ok (.ireturn, 1) := by decide +kernel
abbrev cc_sp_x : ByteArray := prog_4_method_4_code
def yy_sp_x : MethodName := ⟨"SpotContours$Spots", "x", "(I)I"⟩
def ww_sp_x : List Cond := .code yy_sp_x cc_sp_x 2 (some .int) :: zz_B
theorem d_sp_x_0 : decode cc_sp_x 0 = .ok (.aload_n 0, 1) := by decide +kernel
theorem d_sp_x_1 : decode cc_sp_x 1 = .ok (.getfield 9, 3) := by decide +kernel
theorem d_sp_x_4 : decode cc_sp_x 4 = .ok (.iload_n 1, 1) := by decide +kernel
theorem d_sp_x_5 : decode cc_sp_x 5 = .ok (.iaload, 1) := by decide +kernel
theorem d_sp_x_6 : decode cc_sp_x 6 = .ok (.ireturn, 1) := by decide +kernel
abbrev cc_sp_y : ByteArray := prog_4_method_5_code
def yy_sp_y : MethodName := ⟨"SpotContours$Spots", "y", "(I)I"⟩
def ww_sp_y : List Cond := .code yy_sp_y cc_sp_y 2 (some .int) :: zz_B
theorem d_sp_y_0 : decode cc_sp_y 0 = .ok (.aload_n 0, 1) := by decide +kernel
theorem d_sp_y_1 : decode cc_sp_y 1 = .ok (.getfield 15, 3) := by decide +kernel
theorem d_sp_y_4 : decode cc_sp_y 4 = .ok (.iload_n 1, 1) := by decide +kernel
theorem d_sp_y_5 : decode cc_sp_y 5 = .ok (.iaload, 1) := by decide +kernel
theorem d_sp_y_6 : decode cc_sp_y 6 = .ok (.ireturn, 1) := by decide +kernel
abbrev cc_sp_height : ByteArray := prog_4_method_6_code
def yy_sp_height : MethodName := ⟨"SpotContours$Spots", "height", "(I)I"⟩
def ww_sp_height : List Cond := .code yy_sp_height cc_sp_height 2 (some .int) :: zz_B
theorem d_sp_height_0 : decode cc_sp_height 0 = .ok (.aload_n 0, 1) := by decide +kernel
theorem d_sp_height_1 : decode cc_sp_height 1 = .ok (.getfield 18, 3) := by decide +kernel
theorem d_sp_height_4 : decode cc_sp_height 4 = .ok (.iload_n 1, 1) := by decide +kernel
theorem d_sp_height_5 : decode cc_sp_height 5 = .ok (.iaload, 1) := by decide +kernel
theorem d_sp_height_6 : decode cc_sp_height 6 = .ok (.ireturn, 1) := by decide +kernel
abbrev cc_sp_setHeight : ByteArray := prog_4_method_7_code
def yy_sp_setHeight : MethodName := ⟨"SpotContours$Spots", "setHeight", "(II)V"⟩
def ww_sp_setHeight : List Cond := .code yy_sp_setHeight cc_sp_setHeight 3 none :: zz_B
theorem d_sp_setHeight_0 : decode cc_sp_setHeight 0 = .ok (.aload_n 0, 1) := by decide +kernel
theorem d_sp_setHeight_1 : decode cc_sp_setHeight 1 = .ok (.getfield 18, 3) := by decide +kernel
theorem d_sp_setHeight_4 : decode cc_sp_setHeight 4 = .ok (.iload_n 1, 1) := by decide +kernel
theorem d_sp_setHeight_5 : decode cc_sp_setHeight 5 = .ok (.iload_n 2, 1) := by decide +kernel
theorem d_sp_setHeight_6 : decode cc_sp_setHeight 6 = .ok (.iastore, 1) := by decide +kernel
theorem d_sp_setHeight_7 : decode cc_sp_setHeight 7 = .ok (.return_, 1) := by decide +kernel
abbrev cc_sp_isTaken : ByteArray := prog_4_method_8_code
def yy_sp_isTaken : MethodName := ⟨"SpotContours$Spots", "isTaken", "(II)Z"⟩
def ww_sp_isTaken : List Cond := .code yy_sp_isTaken cc_sp_isTaken 4 (some .boolean) :: zz_B
theorem d_sp_isTaken_0 : decode cc_sp_isTaken 0 = .ok (.iconst 0, 1) := by decide +kernel
theorem d_sp_isTaken_1 : decode cc_sp_isTaken 1 = .ok (.istore_n 3, 1) := by decide +kernel
theorem d_sp_isTaken_2 : decode cc_sp_isTaken 2 = .ok (.iload_n 3, 1) := by decide +kernel
theorem d_sp_isTaken_3 : decode cc_sp_isTaken 3 = .ok (.aload_n 0, 1) := by decide +kernel
theorem d_sp_isTaken_4 : decode cc_sp_isTaken 4 = .ok (.getfield 21, 3) := by decide +kernel
theorem d_sp_isTaken_7 : decode cc_sp_isTaken 7 = .ok (.if_icmp .ge 31, 3) := by decide +kernel
theorem d_sp_isTaken_10 : decode cc_sp_isTaken 10 = .ok (.aload_n 0, 1) := by decide +kernel
theorem d_sp_isTaken_11 : decode cc_sp_isTaken 11 = .ok (.getfield 9, 3) := by decide +kernel
theorem d_sp_isTaken_14 : decode cc_sp_isTaken 14 = .ok (.iload_n 3, 1) := by decide +kernel
theorem d_sp_isTaken_15 : decode cc_sp_isTaken 15 = .ok (.iaload, 1) := by decide +kernel
theorem d_sp_isTaken_16 : decode cc_sp_isTaken 16 = .ok (.iload_n 1, 1) := by decide +kernel
theorem d_sp_isTaken_17 : decode cc_sp_isTaken 17 = .ok (.if_icmp .ne 15, 3) := by decide +kernel
theorem d_sp_isTaken_20 : decode cc_sp_isTaken 20 = .ok (.aload_n 0, 1) := by decide +kernel
theorem d_sp_isTaken_21 : decode cc_sp_isTaken 21 = .ok (.getfield 15, 3) := by decide +kernel
theorem d_sp_isTaken_24 : decode cc_sp_isTaken 24 = .ok (.iload_n 3, 1) := by decide +kernel
theorem d_sp_isTaken_25 : decode cc_sp_isTaken 25 = .ok (.iaload, 1) := by decide +kernel
theorem d_sp_isTaken_26 : decode cc_sp_isTaken 26 = .ok (.iload_n 2, 1) := by decide +kernel
theorem d_sp_isTaken_27 : decode cc_sp_isTaken 27 = .ok (.if_icmp .ne 5, 3) := by decide +kernel
theorem d_sp_isTaken_30 : decode cc_sp_isTaken 30 = .ok (.iconst 1, 1) := by decide +kernel
theorem d_sp_isTaken_31 : decode cc_sp_isTaken 31 = .ok (.ireturn, 1) := by decide +kernel
theorem d_sp_isTaken_32 : decode cc_sp_isTaken 32 = .ok (.iinc 3 1, 3) := by decide +kernel
theorem d_sp_isTaken_35 : decode cc_sp_isTaken 35 = .ok (.goto (-33), 3) := by decide +kernel
theorem d_sp_isTaken_38 : decode cc_sp_isTaken 38 = .ok (.iconst 0, 1) := by decide +kernel
theorem d_sp_isTaken_39 : decode cc_sp_isTaken 39 = .ok (.ireturn, 1) := by decide +kernel
abbrev cc_sp_add : ByteArray := prog_4_method_9_code
def yy_sp_add : MethodName := ⟨"SpotContours$Spots", "add", "(III)I"⟩
def ww_sp_add : List Cond := .code yy_sp_add cc_sp_add 4 (some .int) :: zz_B
theorem d_sp_add_0 : decode cc_sp_add 0 = .ok (.aload_n 0, 1) := by decide +kernel
theorem d_sp_add_1 : decode cc_sp_add 1 = .ok (.getfield 9, 3) := by decide +kernel
theorem d_sp_add_4 : decode cc_sp_add 4 = .ok (.aload_n 0, 1) := by decide +kernel
theorem d_sp_add_5 : decode cc_sp_add 5 = .ok (.getfield 21, 3) := by decide +kernel
theorem d_sp_add_8 : decode cc_sp_add 8 = .ok (.iload_n 1, 1) := by decide +kernel
theorem d_sp_add_9 : decode cc_sp_add 9 = .ok (.iastore, 1) := by decide +kernel
theorem d_sp_add_10 : decode cc_sp_add 10 = .ok (.aload_n 0, 1) := by decide +kernel
theorem d_sp_add_11 : decode cc_sp_add 11 = .ok (.getfield 15, 3) := by decide +kernel
theorem d_sp_add_14 : decode cc_sp_add 14 = .ok (.aload_n 0, 1) := by decide +kernel
theorem d_sp_add_15 : decode cc_sp_add 15 = .ok (.getfield 21, 3) := by decide +kernel
theorem d_sp_add_18 : decode cc_sp_add 18 = .ok (.iload_n 2, 1) := by decide +kernel
theorem d_sp_add_19 : decode cc_sp_add 19 = .ok (.iastore, 1) := by decide +kernel
theorem d_sp_add_20 : decode cc_sp_add 20 = .ok (.aload_n 0, 1) := by decide +kernel
theorem d_sp_add_21 : decode cc_sp_add 21 = .ok (.getfield 18, 3) := by decide +kernel
theorem d_sp_add_24 : decode cc_sp_add 24 = .ok (.aload_n 0, 1) := by decide +kernel
theorem d_sp_add_25 : decode cc_sp_add 25 = .ok (.getfield 21, 3) := by decide +kernel
theorem d_sp_add_28 : decode cc_sp_add 28 = .ok (.iload_n 3, 1) := by decide +kernel
theorem d_sp_add_29 : decode cc_sp_add 29 = .ok (.iastore, 1) := by decide +kernel
theorem d_sp_add_30 : decode cc_sp_add 30 = .ok (.aload_n 0, 1) := by decide +kernel
theorem d_sp_add_31 : decode cc_sp_add 31 = .ok (.dup, 1) := by decide +kernel
theorem d_sp_add_32 : decode cc_sp_add 32 = .ok (.getfield 21, 3) := by decide +kernel
theorem d_sp_add_35 : decode cc_sp_add 35 = .ok (.iconst 1, 1) := by decide +kernel
theorem d_sp_add_36 : decode cc_sp_add 36 = .ok (.iadd, 1) := by decide +kernel
theorem d_sp_add_37 : decode cc_sp_add 37 = .ok (.putfield 21, 3) := by decide +kernel
theorem d_sp_add_40 : decode cc_sp_add 40 = .ok (.aload_n 0, 1) := by decide +kernel
theorem d_sp_add_41 : decode cc_sp_add 41 = .ok (.getfield 21, 3) := by decide +kernel
theorem d_sp_add_44 : decode cc_sp_add 44 = .ok (.iconst 1, 1) := by decide +kernel
theorem d_sp_add_45 : decode cc_sp_add 45 = .ok (.isub, 1) := by decide +kernel
theorem d_sp_add_46 : decode cc_sp_add 46 = .ok (.ireturn, 1) := by decide +kernel
abbrev cc_sp_turn : ByteArray := prog_4_method_10_code
def yy_sp_turn : MethodName := ⟨"SpotContours$Spots", "turn", "(III)I"⟩
def ww_sp_turn : List Cond := .code yy_sp_turn cc_sp_turn 4 (some .int) :: zz_B
theorem d_sp_turn_0 : decode cc_sp_turn 0 = .ok (.aload_n 0, 1) := by decide +kernel
theorem d_sp_turn_1 : decode cc_sp_turn 1 = .ok (.iload_n 1, 1) := by decide +kernel
theorem d_sp_turn_2 : decode cc_sp_turn 2 = .ok (.iload_n 2, 1) := by decide +kernel
theorem d_sp_turn_3 : decode cc_sp_turn 3 = .ok (.aload_n 0, 1) := by decide +kernel
theorem d_sp_turn_4 : decode cc_sp_turn 4 = .ok (.getfield 9, 3) := by decide +kernel
theorem d_sp_turn_7 : decode cc_sp_turn 7 = .ok (.iload_n 3, 1) := by decide +kernel
theorem d_sp_turn_8 : decode cc_sp_turn 8 = .ok (.iaload, 1) := by decide +kernel
theorem d_sp_turn_9 : decode cc_sp_turn 9 = .ok (.aload_n 0, 1) := by decide +kernel
theorem d_sp_turn_10 : decode cc_sp_turn 10 = .ok (.getfield 15, 3) := by decide +kernel
theorem d_sp_turn_13 : decode cc_sp_turn 13 = .ok (.iload_n 3, 1) := by decide +kernel
theorem d_sp_turn_14 : decode cc_sp_turn 14 = .ok (.iaload, 1) := by decide +kernel
theorem d_sp_turn_15 : decode cc_sp_turn 15 = .ok (.invokevirtual 25, 3) := by decide +kernel
theorem d_sp_turn_18 : decode cc_sp_turn 18 = .ok (.ireturn, 1) := by decide +kernel
abbrev cc_sp_turnTo : ByteArray := prog_4_method_11_code
def yy_sp_turnTo : MethodName := ⟨"SpotContours$Spots", "turnTo", "(IIII)I"⟩
def ww_sp_turnTo : List Cond := .code yy_sp_turnTo cc_sp_turnTo 5 (some .int) :: zz_B
theorem d_sp_turnTo_0 : decode cc_sp_turnTo 0 = .ok (.aload_n 0, 1) := by decide +kernel
theorem d_sp_turnTo_1 : decode cc_sp_turnTo 1 = .ok (.getfield 9, 3) := by decide +kernel
theorem d_sp_turnTo_4 : decode cc_sp_turnTo 4 = .ok (.iload_n 2, 1) := by decide +kernel
theorem d_sp_turnTo_5 : decode cc_sp_turnTo 5 = .ok (.iaload, 1) := by decide +kernel
theorem d_sp_turnTo_6 : decode cc_sp_turnTo 6 = .ok (.aload_n 0, 1) := by decide +kernel
theorem d_sp_turnTo_7 : decode cc_sp_turnTo 7 = .ok (.getfield 9, 3) := by decide +kernel
theorem d_sp_turnTo_10 : decode cc_sp_turnTo 10 = .ok (.iload_n 1, 1) := by decide +kernel
theorem d_sp_turnTo_11 : decode cc_sp_turnTo 11 = .ok (.iaload, 1) := by decide +kernel
theorem d_sp_turnTo_12 : decode cc_sp_turnTo 12 = .ok (.isub, 1) := by decide +kernel
theorem d_sp_turnTo_13 : decode cc_sp_turnTo 13 = .ok (.iload 4, 2) := by decide +kernel
theorem d_sp_turnTo_15 : decode cc_sp_turnTo 15 = .ok (.aload_n 0, 1) := by decide +kernel
theorem d_sp_turnTo_16 : decode cc_sp_turnTo 16 = .ok (.getfield 15, 3) := by decide +kernel
theorem d_sp_turnTo_19 : decode cc_sp_turnTo 19 = .ok (.iload_n 1, 1) := by decide +kernel
theorem d_sp_turnTo_20 : decode cc_sp_turnTo 20 = .ok (.iaload, 1) := by decide +kernel
theorem d_sp_turnTo_21 : decode cc_sp_turnTo 21 = .ok (.isub, 1) := by decide +kernel
theorem d_sp_turnTo_22 : decode cc_sp_turnTo 22 = .ok (.imul, 1) := by decide +kernel
theorem d_sp_turnTo_23 : decode cc_sp_turnTo 23 = .ok (.aload_n 0, 1) := by decide +kernel
theorem d_sp_turnTo_24 : decode cc_sp_turnTo 24 = .ok (.getfield 15, 3) := by decide +kernel
theorem d_sp_turnTo_27 : decode cc_sp_turnTo 27 = .ok (.iload_n 2, 1) := by decide +kernel
theorem d_sp_turnTo_28 : decode cc_sp_turnTo 28 = .ok (.iaload, 1) := by decide +kernel
theorem d_sp_turnTo_29 : decode cc_sp_turnTo 29 = .ok (.aload_n 0, 1) := by decide +kernel
theorem d_sp_turnTo_30 : decode cc_sp_turnTo 30 = .ok (.getfield 15, 3) := by decide +kernel
theorem d_sp_turnTo_33 : decode cc_sp_turnTo 33 = .ok (.iload_n 1, 1) := by decide +kernel
theorem d_sp_turnTo_34 : decode cc_sp_turnTo 34 = .ok (.iaload, 1) := by decide +kernel
theorem d_sp_turnTo_35 : decode cc_sp_turnTo 35 = .ok (.isub, 1) := by decide +kernel
theorem d_sp_turnTo_36 : decode cc_sp_turnTo 36 = .ok (.iload_n 3, 1) := by decide +kernel
theorem d_sp_turnTo_37 : decode cc_sp_turnTo 37 = .ok (.aload_n 0, 1) := by decide +kernel
theorem d_sp_turnTo_38 : decode cc_sp_turnTo 38 = .ok (.getfield 9, 3) := by decide +kernel
theorem d_sp_turnTo_41 : decode cc_sp_turnTo 41 = .ok (.iload_n 1, 1) := by decide +kernel
theorem d_sp_turnTo_42 : decode cc_sp_turnTo 42 = .ok (.iaload, 1) := by decide +kernel
theorem d_sp_turnTo_43 : decode cc_sp_turnTo 43 = .ok (.isub, 1) := by decide +kernel
theorem d_sp_turnTo_44 : decode cc_sp_turnTo 44 = .ok (.imul, 1) := by decide +kernel
theorem d_sp_turnTo_45 : decode cc_sp_turnTo 45 = .ok (.isub, 1) := by decide +kernel
theorem d_sp_turnTo_46 : decode cc_sp_turnTo 46 = .ok (.ireturn, 1) := by decide +kernel
abbrev cc_sp_isInCircle : ByteArray := prog_4_method_12_code
def yy_sp_isInCircle : MethodName := ⟨"SpotContours$Spots", "isInCircle", "(IIII)Z"⟩
def ww_sp_isInCircle : List Cond := .code yy_sp_isInCircle cc_sp_isInCircle 7 (some .boolean) :: zz_B
theorem d_sp_isInCircle_0 : decode cc_sp_isInCircle 0 = .ok (.aload_n 0, 1) := by decide +kernel
theorem d_sp_isInCircle_1 : decode cc_sp_isInCircle 1 = .ok (.iload_n 1, 1) := by decide +kernel
theorem d_sp_isInCircle_2 : decode cc_sp_isInCircle 2 = .ok (.iload_n 2, 1) := by decide +kernel
theorem d_sp_isInCircle_3 : decode cc_sp_isInCircle 3 = .ok (.iload_n 3, 1) := by decide +kernel
theorem d_sp_isInCircle_4 : decode cc_sp_isInCircle 4 = .ok (.iload 4, 2) := by decide +kernel
theorem d_sp_isInCircle_6 : decode cc_sp_isInCircle 6 = .ok (.invokevirtual 29, 3) := by decide +kernel
theorem d_sp_isInCircle_9 : decode cc_sp_isInCircle 9 = .ok (.lstore 5, 2) := by decide +kernel
theorem d_sp_isInCircle_11 : decode cc_sp_isInCircle 11 = .ok (.lload 5, 2) := by decide +kernel
theorem d_sp_isInCircle_13 : decode cc_sp_isInCircle 13 = .ok (.lconst 0, 1) := by decide +kernel
theorem d_sp_isInCircle_14 : decode cc_sp_isInCircle 14 = .ok (.lcmp, 1) := by decide +kernel
theorem d_sp_isInCircle_15 : decode cc_sp_isInCircle 15 = .ok (.ifCond .eq 16, 3) := by decide +kernel
theorem d_sp_isInCircle_18 : decode cc_sp_isInCircle 18 = .ok (.lload 5, 2) := by decide +kernel
theorem d_sp_isInCircle_20 : decode cc_sp_isInCircle 20 = .ok (.lconst 0, 1) := by decide +kernel
theorem d_sp_isInCircle_21 : decode cc_sp_isInCircle 21 = .ok (.lcmp, 1) := by decide +kernel
theorem d_sp_isInCircle_22 : decode cc_sp_isInCircle 22 = .ok (.ifCond .le 7, 3) := by decide +kernel
theorem d_sp_isInCircle_25 : decode cc_sp_isInCircle 25 = .ok (.iconst 1, 1) := by decide +kernel
theorem d_sp_isInCircle_26 : decode cc_sp_isInCircle 26 = .ok (.goto 4, 3) := by decide +kernel
theorem d_sp_isInCircle_29 : decode cc_sp_isInCircle 29 = .ok (.iconst 0, 1) := by decide +kernel
theorem d_sp_isInCircle_30 : decode cc_sp_isInCircle 30 = .ok (.ireturn, 1) := by decide +kernel
theorem d_sp_isInCircle_31 : decode cc_sp_isInCircle 31 = .ok (.iload_n 1, 1) := by decide +kernel
theorem d_sp_isInCircle_32 : decode cc_sp_isInCircle 32 = .ok (.iload 4, 2) := by decide +kernel
theorem d_sp_isInCircle_34 : decode cc_sp_isInCircle 34 = .ok (.if_icmp .ge 19, 3) := by decide +kernel
theorem d_sp_isInCircle_37 : decode cc_sp_isInCircle 37 = .ok (.aload_n 0, 1) := by decide +kernel
theorem d_sp_isInCircle_38 : decode cc_sp_isInCircle 38 = .ok (.iload_n 1, 1) := by decide +kernel
theorem d_sp_isInCircle_39 : decode cc_sp_isInCircle 39 = .ok (.iload 4, 2) := by decide +kernel
theorem d_sp_isInCircle_41 : decode cc_sp_isInCircle 41 = .ok (.iload_n 2, 1) := by decide +kernel
theorem d_sp_isInCircle_42 : decode cc_sp_isInCircle 42 = .ok (.iload_n 3, 1) := by decide +kernel
theorem d_sp_isInCircle_43 : decode cc_sp_isInCircle 43 = .ok (.invokevirtual 33, 3) := by decide +kernel
theorem d_sp_isInCircle_46 : decode cc_sp_isInCircle 46 = .ok (.ifCond .ne 7, 3) := by decide +kernel
theorem d_sp_isInCircle_49 : decode cc_sp_isInCircle 49 = .ok (.iconst 1, 1) := by decide +kernel
theorem d_sp_isInCircle_50 : decode cc_sp_isInCircle 50 = .ok (.goto 4, 3) := by decide +kernel
theorem d_sp_isInCircle_53 : decode cc_sp_isInCircle 53 = .ok (.iconst 0, 1) := by decide +kernel
theorem d_sp_isInCircle_54 : decode cc_sp_isInCircle 54 = .ok (.ireturn, 1) := by decide +kernel
abbrev cc_sp_depthInCircle : ByteArray := prog_4_method_13_code
def yy_sp_depthInCircle : MethodName := ⟨"SpotContours$Spots", "depthInCircle", "(IIII)J"⟩
def ww_sp_depthInCircle : List Cond := .code yy_sp_depthInCircle cc_sp_depthInCircle 7 (some .long) :: zz_B
theorem d_sp_depthInCircle_0 : decode cc_sp_depthInCircle 0 = .ok (.aload_n 0, 1) := by decide +kernel
theorem d_sp_depthInCircle_1 : decode cc_sp_depthInCircle 1 = .ok (.iload 4, 2) := by decide +kernel
theorem d_sp_depthInCircle_3 : decode cc_sp_depthInCircle 3 = .ok (.iload_n 1, 1) := by decide +kernel
theorem d_sp_depthInCircle_4 : decode cc_sp_depthInCircle 4 = .ok (.invokevirtual 37, 3) := by decide +kernel
theorem d_sp_depthInCircle_7 : decode cc_sp_depthInCircle 7 = .ok (.aload_n 0, 1) := by decide +kernel
theorem d_sp_depthInCircle_8 : decode cc_sp_depthInCircle 8 = .ok (.iload 4, 2) := by decide +kernel
theorem d_sp_depthInCircle_10 : decode cc_sp_depthInCircle 10 = .ok (.iload_n 2, 1) := by decide +kernel
theorem d_sp_depthInCircle_11 : decode cc_sp_depthInCircle 11 = .ok (.iload_n 3, 1) := by decide +kernel
theorem d_sp_depthInCircle_12 : decode cc_sp_depthInCircle 12 = .ok (.invokevirtual 41, 3) := by decide +kernel
theorem d_sp_depthInCircle_15 : decode cc_sp_depthInCircle 15 = .ok (.i2l, 1) := by decide +kernel
theorem d_sp_depthInCircle_16 : decode cc_sp_depthInCircle 16 = .ok (.lmul, 1) := by decide +kernel
theorem d_sp_depthInCircle_17 : decode cc_sp_depthInCircle 17 = .ok (.aload_n 0, 1) := by decide +kernel
theorem d_sp_depthInCircle_18 : decode cc_sp_depthInCircle 18 = .ok (.iload 4, 2) := by decide +kernel
theorem d_sp_depthInCircle_20 : decode cc_sp_depthInCircle 20 = .ok (.iload_n 2, 1) := by decide +kernel
theorem d_sp_depthInCircle_21 : decode cc_sp_depthInCircle 21 = .ok (.invokevirtual 37, 3) := by decide +kernel
theorem d_sp_depthInCircle_24 : decode cc_sp_depthInCircle 24 = .ok (.aload_n 0, 1) := by decide +kernel
theorem d_sp_depthInCircle_25 : decode cc_sp_depthInCircle 25 = .ok (.iload 4, 2) := by decide +kernel
theorem d_sp_depthInCircle_27 : decode cc_sp_depthInCircle 27 = .ok (.iload_n 1, 1) := by decide +kernel
theorem d_sp_depthInCircle_28 : decode cc_sp_depthInCircle 28 = .ok (.iload_n 3, 1) := by decide +kernel
theorem d_sp_depthInCircle_29 : decode cc_sp_depthInCircle 29 = .ok (.invokevirtual 41, 3) := by decide +kernel
theorem d_sp_depthInCircle_32 : decode cc_sp_depthInCircle 32 = .ok (.i2l, 1) := by decide +kernel
theorem d_sp_depthInCircle_33 : decode cc_sp_depthInCircle 33 = .ok (.lmul, 1) := by decide +kernel
theorem d_sp_depthInCircle_34 : decode cc_sp_depthInCircle 34 = .ok (.lsub, 1) := by decide +kernel
theorem d_sp_depthInCircle_35 : decode cc_sp_depthInCircle 35 = .ok (.aload_n 0, 1) := by decide +kernel
theorem d_sp_depthInCircle_36 : decode cc_sp_depthInCircle 36 = .ok (.iload 4, 2) := by decide +kernel
theorem d_sp_depthInCircle_38 : decode cc_sp_depthInCircle 38 = .ok (.iload_n 3, 1) := by decide +kernel
theorem d_sp_depthInCircle_39 : decode cc_sp_depthInCircle 39 = .ok (.invokevirtual 37, 3) := by decide +kernel
theorem d_sp_depthInCircle_42 : decode cc_sp_depthInCircle 42 = .ok (.aload_n 0, 1) := by decide +kernel
theorem d_sp_depthInCircle_43 : decode cc_sp_depthInCircle 43 = .ok (.iload 4, 2) := by decide +kernel
theorem d_sp_depthInCircle_45 : decode cc_sp_depthInCircle 45 = .ok (.iload_n 1, 1) := by decide +kernel
theorem d_sp_depthInCircle_46 : decode cc_sp_depthInCircle 46 = .ok (.iload_n 2, 1) := by decide +kernel
theorem d_sp_depthInCircle_47 : decode cc_sp_depthInCircle 47 = .ok (.invokevirtual 41, 3) := by decide +kernel
theorem d_sp_depthInCircle_50 : decode cc_sp_depthInCircle 50 = .ok (.i2l, 1) := by decide +kernel
theorem d_sp_depthInCircle_51 : decode cc_sp_depthInCircle 51 = .ok (.lmul, 1) := by decide +kernel
theorem d_sp_depthInCircle_52 : decode cc_sp_depthInCircle 52 = .ok (.ladd, 1) := by decide +kernel
theorem d_sp_depthInCircle_53 : decode cc_sp_depthInCircle 53 = .ok (.lstore 5, 2) := by decide +kernel
theorem d_sp_depthInCircle_55 : decode cc_sp_depthInCircle 55 = .ok (.aload_n 0, 1) := by decide +kernel
theorem d_sp_depthInCircle_56 : decode cc_sp_depthInCircle 56 = .ok (.iload_n 1, 1) := by decide +kernel
theorem d_sp_depthInCircle_57 : decode cc_sp_depthInCircle 57 = .ok (.iload_n 2, 1) := by decide +kernel
theorem d_sp_depthInCircle_58 : decode cc_sp_depthInCircle 58 = .ok (.iload_n 3, 1) := by decide +kernel
theorem d_sp_depthInCircle_59 : decode cc_sp_depthInCircle 59 = .ok (.invokevirtual 41, 3) := by decide +kernel
theorem d_sp_depthInCircle_62 : decode cc_sp_depthInCircle 62 = .ok (.ifCond .le 8, 3) := by decide +kernel
theorem d_sp_depthInCircle_65 : decode cc_sp_depthInCircle 65 = .ok (.lload 5, 2) := by decide +kernel
theorem d_sp_depthInCircle_67 : decode cc_sp_depthInCircle 67 = .ok (.goto 6, 3) := by decide +kernel
theorem d_sp_depthInCircle_70 : decode cc_sp_depthInCircle 70 = .ok (.lload 5, 2) := by decide +kernel
theorem d_sp_depthInCircle_72 : decode cc_sp_depthInCircle 72 = .ok (.lneg, 1) := by decide +kernel
theorem d_sp_depthInCircle_73 : decode cc_sp_depthInCircle 73 = .ok (.lreturn, 1) := by decide +kernel
abbrev cc_sp_squareFrom : ByteArray := prog_4_method_14_code
def yy_sp_squareFrom : MethodName := ⟨"SpotContours$Spots", "squareFrom", "(II)J"⟩
def ww_sp_squareFrom : List Cond := .code yy_sp_squareFrom cc_sp_squareFrom 7 (some .long) :: zz_B
theorem d_sp_squareFrom_0 : decode cc_sp_squareFrom 0 = .ok (.aload_n 0, 1) := by decide +kernel
theorem d_sp_squareFrom_1 : decode cc_sp_squareFrom 1 = .ok (.getfield 9, 3) := by decide +kernel
theorem d_sp_squareFrom_4 : decode cc_sp_squareFrom 4 = .ok (.iload_n 2, 1) := by decide +kernel
theorem d_sp_squareFrom_5 : decode cc_sp_squareFrom 5 = .ok (.iaload, 1) := by decide +kernel
theorem d_sp_squareFrom_6 : decode cc_sp_squareFrom 6 = .ok (.aload_n 0, 1) := by decide +kernel
theorem d_sp_squareFrom_7 : decode cc_sp_squareFrom 7 = .ok (.getfield 9, 3) := by decide +kernel
theorem d_sp_squareFrom_10 : decode cc_sp_squareFrom 10 = .ok (.iload_n 1, 1) := by decide +kernel
theorem d_sp_squareFrom_11 : decode cc_sp_squareFrom 11 = .ok (.iaload, 1) := by decide +kernel
theorem d_sp_squareFrom_12 : decode cc_sp_squareFrom 12 = .ok (.isub, 1) := by decide +kernel
theorem d_sp_squareFrom_13 : decode cc_sp_squareFrom 13 = .ok (.i2l, 1) := by decide +kernel
theorem d_sp_squareFrom_14 : decode cc_sp_squareFrom 14 = .ok (.lstore_n 3, 1) := by decide +kernel
theorem d_sp_squareFrom_15 : decode cc_sp_squareFrom 15 = .ok (.aload_n 0, 1) := by decide +kernel
theorem d_sp_squareFrom_16 : decode cc_sp_squareFrom 16 = .ok (.getfield 15, 3) := by decide +kernel
theorem d_sp_squareFrom_19 : decode cc_sp_squareFrom 19 = .ok (.iload_n 2, 1) := by decide +kernel
theorem d_sp_squareFrom_20 : decode cc_sp_squareFrom 20 = .ok (.iaload, 1) := by decide +kernel
theorem d_sp_squareFrom_21 : decode cc_sp_squareFrom 21 = .ok (.aload_n 0, 1) := by decide +kernel
theorem d_sp_squareFrom_22 : decode cc_sp_squareFrom 22 = .ok (.getfield 15, 3) := by decide +kernel
theorem d_sp_squareFrom_25 : decode cc_sp_squareFrom 25 = .ok (.iload_n 1, 1) := by decide +kernel
theorem d_sp_squareFrom_26 : decode cc_sp_squareFrom 26 = .ok (.iaload, 1) := by decide +kernel
theorem d_sp_squareFrom_27 : decode cc_sp_squareFrom 27 = .ok (.isub, 1) := by decide +kernel
theorem d_sp_squareFrom_28 : decode cc_sp_squareFrom 28 = .ok (.i2l, 1) := by decide +kernel
theorem d_sp_squareFrom_29 : decode cc_sp_squareFrom 29 = .ok (.lstore 5, 2) := by decide +kernel
theorem d_sp_squareFrom_31 : decode cc_sp_squareFrom 31 = .ok (.lload_n 3, 1) := by decide +kernel
theorem d_sp_squareFrom_32 : decode cc_sp_squareFrom 32 = .ok (.lload_n 3, 1) := by decide +kernel
theorem d_sp_squareFrom_33 : decode cc_sp_squareFrom 33 = .ok (.lmul, 1) := by decide +kernel
theorem d_sp_squareFrom_34 : decode cc_sp_squareFrom 34 = .ok (.lload 5, 2) := by decide +kernel
theorem d_sp_squareFrom_36 : decode cc_sp_squareFrom 36 = .ok (.lload 5, 2) := by decide +kernel
theorem d_sp_squareFrom_38 : decode cc_sp_squareFrom 38 = .ok (.lmul, 1) := by decide +kernel
theorem d_sp_squareFrom_39 : decode cc_sp_squareFrom 39 = .ok (.ladd, 1) := by decide +kernel
theorem d_sp_squareFrom_40 : decode cc_sp_squareFrom 40 = .ok (.lreturn, 1) := by decide +kernel
abbrev cc_sp_areOpposite : ByteArray := prog_4_method_15_code
def yy_sp_areOpposite : MethodName := ⟨"SpotContours$Spots", "areOpposite", "(IIII)Z"⟩
def ww_sp_areOpposite : List Cond := .code yy_sp_areOpposite cc_sp_areOpposite 5 (some .boolean) :: zz_B
theorem d_sp_areOpposite_0 : decode cc_sp_areOpposite 0 = .ok (.aload_n 0, 1) := by decide +kernel
theorem d_sp_areOpposite_1 : decode cc_sp_areOpposite 1 = .ok (.iload_n 1, 1) := by decide +kernel
theorem d_sp_areOpposite_2 : decode cc_sp_areOpposite 2 = .ok (.iload_n 2, 1) := by decide +kernel
theorem d_sp_areOpposite_3 : decode cc_sp_areOpposite 3 = .ok (.iload_n 3, 1) := by decide +kernel
theorem d_sp_areOpposite_4 : decode cc_sp_areOpposite 4 = .ok (.invokevirtual 41, 3) := by decide +kernel
theorem d_sp_areOpposite_7 : decode cc_sp_areOpposite 7 = .ok (.ifCond .le 7, 3) := by decide +kernel
theorem d_sp_areOpposite_10 : decode cc_sp_areOpposite 10 = .ok (.iconst 1, 1) := by decide +kernel
theorem d_sp_areOpposite_11 : decode cc_sp_areOpposite 11 = .ok (.goto 4, 3) := by decide +kernel
theorem d_sp_areOpposite_14 : decode cc_sp_areOpposite 14 = .ok (.iconst 0, 1) := by decide +kernel
theorem d_sp_areOpposite_15 : decode cc_sp_areOpposite 15 = .ok (.aload_n 0, 1) := by decide +kernel
theorem d_sp_areOpposite_16 : decode cc_sp_areOpposite 16 = .ok (.iload_n 1, 1) := by decide +kernel
theorem d_sp_areOpposite_17 : decode cc_sp_areOpposite 17 = .ok (.iload_n 2, 1) := by decide +kernel
theorem d_sp_areOpposite_18 : decode cc_sp_areOpposite 18 = .ok (.iload 4, 2) := by decide +kernel
theorem d_sp_areOpposite_20 : decode cc_sp_areOpposite 20 = .ok (.invokevirtual 41, 3) := by decide +kernel
theorem d_sp_areOpposite_23 : decode cc_sp_areOpposite 23 = .ok (.ifCond .le 7, 3) := by decide +kernel
theorem d_sp_areOpposite_26 : decode cc_sp_areOpposite 26 = .ok (.iconst 1, 1) := by decide +kernel
theorem d_sp_areOpposite_27 : decode cc_sp_areOpposite 27 = .ok (.goto 4, 3) := by decide +kernel
theorem d_sp_areOpposite_30 : decode cc_sp_areOpposite 30 = .ok (.iconst 0, 1) := by decide +kernel
theorem d_sp_areOpposite_31 : decode cc_sp_areOpposite 31 = .ok (.if_icmp .eq 7, 3) := by decide +kernel
theorem d_sp_areOpposite_34 : decode cc_sp_areOpposite 34 = .ok (.iconst 1, 1) := by decide +kernel
theorem d_sp_areOpposite_35 : decode cc_sp_areOpposite 35 = .ok (.goto 4, 3) := by decide +kernel
theorem d_sp_areOpposite_38 : decode cc_sp_areOpposite 38 = .ok (.iconst 0, 1) := by decide +kernel
theorem d_sp_areOpposite_39 : decode cc_sp_areOpposite 39 = .ok (.ireturn, 1) := by decide +kernel
abbrev cc_sp_crossingX : ByteArray := prog_4_method_16_code
def yy_sp_crossingX : MethodName := ⟨"SpotContours$Spots", "crossingX", "(II)I"⟩
def ww_sp_crossingX : List Cond := .code yy_sp_crossingX cc_sp_crossingX 3 (some .int) :: zz_B
theorem d_sp_crossingX_0 : decode cc_sp_crossingX 0 = .ok (.aload_n 0, 1) := by decide +kernel
theorem d_sp_crossingX_1 : decode cc_sp_crossingX 1 = .ok (.aload_n 0, 1) := by decide +kernel
theorem d_sp_crossingX_2 : decode cc_sp_crossingX 2 = .ok (.getfield 9, 3) := by decide +kernel
theorem d_sp_crossingX_5 : decode cc_sp_crossingX 5 = .ok (.iload_n 1, 1) := by decide +kernel
theorem d_sp_crossingX_6 : decode cc_sp_crossingX 6 = .ok (.iload_n 2, 1) := by decide +kernel
theorem d_sp_crossingX_7 : decode cc_sp_crossingX 7 = .ok (.invokevirtual 45, 3) := by decide +kernel
theorem d_sp_crossingX_10 : decode cc_sp_crossingX 10 = .ok (.ireturn, 1) := by decide +kernel
abbrev cc_sp_crossingY : ByteArray := prog_4_method_17_code
def yy_sp_crossingY : MethodName := ⟨"SpotContours$Spots", "crossingY", "(II)I"⟩
def ww_sp_crossingY : List Cond := .code yy_sp_crossingY cc_sp_crossingY 3 (some .int) :: zz_B
theorem d_sp_crossingY_0 : decode cc_sp_crossingY 0 = .ok (.aload_n 0, 1) := by decide +kernel
theorem d_sp_crossingY_1 : decode cc_sp_crossingY 1 = .ok (.aload_n 0, 1) := by decide +kernel
theorem d_sp_crossingY_2 : decode cc_sp_crossingY 2 = .ok (.getfield 15, 3) := by decide +kernel
theorem d_sp_crossingY_5 : decode cc_sp_crossingY 5 = .ok (.iload_n 1, 1) := by decide +kernel
theorem d_sp_crossingY_6 : decode cc_sp_crossingY 6 = .ok (.iload_n 2, 1) := by decide +kernel
theorem d_sp_crossingY_7 : decode cc_sp_crossingY 7 = .ok (.invokevirtual 45, 3) := by decide +kernel
theorem d_sp_crossingY_10 : decode cc_sp_crossingY 10 = .ok (.ireturn, 1) := by decide +kernel
abbrev cc_sp_crossingOf : ByteArray := prog_4_method_18_code
def yy_sp_crossingOf : MethodName := ⟨"SpotContours$Spots", "crossingOf", "([III)I"⟩
def ww_sp_crossingOf : List Cond := .code yy_sp_crossingOf cc_sp_crossingOf 8 (some .int) :: zz_B
theorem d_sp_crossingOf_0 : decode cc_sp_crossingOf 0 = .ok (.iload_n 2, 1) := by decide +kernel
theorem d_sp_crossingOf_1 : decode cc_sp_crossingOf 1 = .ok (.invokestatic 49, 3) := by decide +kernel
theorem d_sp_crossingOf_4 : decode cc_sp_crossingOf 4 = .ok (.istore 4, 2) := by decide +kernel
theorem d_sp_crossingOf_6 : decode cc_sp_crossingOf 6 = .ok (.iload_n 2, 1) := by decide +kernel
theorem d_sp_crossingOf_7 : decode cc_sp_crossingOf 7 = .ok (.invokestatic 53, 3) := by decide +kernel
theorem d_sp_crossingOf_10 : decode cc_sp_crossingOf 10 = .ok (.istore 5, 2) := by decide +kernel
theorem d_sp_crossingOf_12 : decode cc_sp_crossingOf 12 = .ok (.aload_n 0, 1) := by decide +kernel
theorem d_sp_crossingOf_13 : decode cc_sp_crossingOf 13 = .ok (.getfield 18, 3) := by decide +kernel
theorem d_sp_crossingOf_16 : decode cc_sp_crossingOf 16 = .ok (.iload 4, 2) := by decide +kernel
theorem d_sp_crossingOf_18 : decode cc_sp_crossingOf 18 = .ok (.iaload, 1) := by decide +kernel
theorem d_sp_crossingOf_19 : decode cc_sp_crossingOf 19 = .ok (.aload_n 0, 1) := by decide +kernel
theorem d_sp_crossingOf_20 : decode cc_sp_crossingOf 20 = .ok (.getfield 18, 3) := by decide +kernel
theorem d_sp_crossingOf_23 : decode cc_sp_crossingOf 23 = .ok (.iload 5, 2) := by decide +kernel
theorem d_sp_crossingOf_25 : decode cc_sp_crossingOf 25 = .ok (.iaload, 1) := by decide +kernel
theorem d_sp_crossingOf_26 : decode cc_sp_crossingOf 26 = .ok (.isub, 1) := by decide +kernel
theorem d_sp_crossingOf_27 : decode cc_sp_crossingOf 27 = .ok (.istore 6, 2) := by decide +kernel
theorem d_sp_crossingOf_29 : decode cc_sp_crossingOf 29 = .ok (.iload 6, 2) := by decide +kernel
theorem d_sp_crossingOf_31 : decode cc_sp_crossingOf 31 = .ok (.ifCond .gt 8, 3) := by decide +kernel
theorem d_sp_crossingOf_34 : decode cc_sp_crossingOf 34 = .ok (.aload_n 1, 1) := by decide +kernel
theorem d_sp_crossingOf_35 : decode cc_sp_crossingOf 35 = .ok (.iload 5, 2) := by decide +kernel
theorem d_sp_crossingOf_37 : decode cc_sp_crossingOf 37 = .ok (.iaload, 1) := by decide +kernel
theorem d_sp_crossingOf_38 : decode cc_sp_crossingOf 38 = .ok (.ireturn, 1) := by decide +kernel
theorem d_sp_crossingOf_39 : decode cc_sp_crossingOf 39 = .ok (.aload_n 1, 1) := by decide +kernel
theorem d_sp_crossingOf_40 : decode cc_sp_crossingOf 40 = .ok (.iload 4, 2) := by decide +kernel
theorem d_sp_crossingOf_42 : decode cc_sp_crossingOf 42 = .ok (.iaload, 1) := by decide +kernel
theorem d_sp_crossingOf_43 : decode cc_sp_crossingOf 43 = .ok (.aload_n 1, 1) := by decide +kernel
theorem d_sp_crossingOf_44 : decode cc_sp_crossingOf 44 = .ok (.iload 5, 2) := by decide +kernel
theorem d_sp_crossingOf_46 : decode cc_sp_crossingOf 46 = .ok (.iaload, 1) := by decide +kernel
theorem d_sp_crossingOf_47 : decode cc_sp_crossingOf 47 = .ok (.isub, 1) := by decide +kernel
theorem d_sp_crossingOf_48 : decode cc_sp_crossingOf 48 = .ok (.iconst 2, 1) := by decide +kernel
theorem d_sp_crossingOf_49 : decode cc_sp_crossingOf 49 = .ok (.iload_n 3, 1) := by decide +kernel
theorem d_sp_crossingOf_50 : decode cc_sp_crossingOf 50 = .ok (.imul, 1) := by decide +kernel
theorem d_sp_crossingOf_51 : decode cc_sp_crossingOf 51 = .ok (.iconst 1, 1) := by decide +kernel
theorem d_sp_crossingOf_52 : decode cc_sp_crossingOf 52 = .ok (.iadd, 1) := by decide +kernel
theorem d_sp_crossingOf_53 : decode cc_sp_crossingOf 53 = .ok (.iconst 2, 1) := by decide +kernel
theorem d_sp_crossingOf_54 : decode cc_sp_crossingOf 54 = .ok (.aload_n 0, 1) := by decide +kernel
theorem d_sp_crossingOf_55 : decode cc_sp_crossingOf 55 = .ok (.getfield 18, 3) := by decide +kernel
theorem d_sp_crossingOf_58 : decode cc_sp_crossingOf 58 = .ok (.iload 5, 2) := by decide +kernel
theorem d_sp_crossingOf_60 : decode cc_sp_crossingOf 60 = .ok (.iaload, 1) := by decide +kernel
theorem d_sp_crossingOf_61 : decode cc_sp_crossingOf 61 = .ok (.imul, 1) := by decide +kernel
theorem d_sp_crossingOf_62 : decode cc_sp_crossingOf 62 = .ok (.isub, 1) := by decide +kernel
theorem d_sp_crossingOf_63 : decode cc_sp_crossingOf 63 = .ok (.imul, 1) := by decide +kernel
theorem d_sp_crossingOf_64 : decode cc_sp_crossingOf 64 = .ok (.istore 7, 2) := by decide +kernel
theorem d_sp_crossingOf_66 : decode cc_sp_crossingOf 66 = .ok (.aload_n 1, 1) := by decide +kernel
theorem d_sp_crossingOf_67 : decode cc_sp_crossingOf 67 = .ok (.iload 5, 2) := by decide +kernel
theorem d_sp_crossingOf_69 : decode cc_sp_crossingOf 69 = .ok (.iaload, 1) := by decide +kernel
theorem d_sp_crossingOf_70 : decode cc_sp_crossingOf 70 = .ok (.iload 7, 2) := by decide +kernel
theorem d_sp_crossingOf_72 : decode cc_sp_crossingOf 72 = .ok (.iconst 2, 1) := by decide +kernel
theorem d_sp_crossingOf_73 : decode cc_sp_crossingOf 73 = .ok (.iload 6, 2) := by decide +kernel
theorem d_sp_crossingOf_75 : decode cc_sp_crossingOf 75 = .ok (.imul, 1) := by decide +kernel
theorem d_sp_crossingOf_76 : decode cc_sp_crossingOf 76 = .ok (.invokestatic 56, 3) := by decide +kernel
theorem d_sp_crossingOf_79 : decode cc_sp_crossingOf 79 = .ok (.iadd, 1) := by decide +kernel
theorem d_sp_crossingOf_80 : decode cc_sp_crossingOf 80 = .ok (.ireturn, 1) := by decide +kernel
end
section
/-! Names and decode rows, printed. -/
abbrev cc_me_size : ByteArray := prog_3_method_2_code
def yy_me_size : MethodName := ⟨"SpotContours$Mesh", "size", "()I"⟩
def ww_me_size : List Cond := .code yy_me_size cc_me_size 1 (some .int) :: zz_B
theorem d_me_size_0 : decode cc_me_size 0 = .ok (.aload_n 0, 1) := by decide +kernel
theorem d_me_size_1 : decode cc_me_size 1 = .ok (.getfield 21, 3) := by decide +kernel
theorem d_me_size_4 : decode cc_me_size 4 = .ok (.ireturn, 1) := by decide +kernel
abbrev cc_me_cornerOf : ByteArray := prog_3_method_3_code
def yy_me_cornerOf : MethodName := ⟨"SpotContours$Mesh", "cornerOf", "(II)I"⟩
def ww_me_cornerOf : List Cond := .code yy_me_cornerOf cc_me_cornerOf 3 (some .int) :: zz_B
theorem d_me_cornerOf_0 : decode cc_me_cornerOf 0 = .ok (.aload_n 0, 1) := by decide +kernel
theorem d_me_cornerOf_1 : decode cc_me_cornerOf 1 = .ok (.getfield 11, 3) := by decide +kernel
theorem d_me_cornerOf_4 : decode cc_me_cornerOf 4 = .ok (.iconst 3, 1) := by decide +kernel
theorem d_me_cornerOf_5 : decode cc_me_cornerOf 5 = .ok (.iload_n 1, 1) := by decide +kernel
theorem d_me_cornerOf_6 : decode cc_me_cornerOf 6 = .ok (.imul, 1) := by decide +kernel
theorem d_me_cornerOf_7 : decode cc_me_cornerOf 7 = .ok (.iload_n 2, 1) := by decide +kernel
theorem d_me_cornerOf_8 : decode cc_me_cornerOf 8 = .ok (.iadd, 1) := by decide +kernel
theorem d_me_cornerOf_9 : decode cc_me_cornerOf 9 = .ok (.iaload, 1) := by decide +kernel
theorem d_me_cornerOf_10 : decode cc_me_cornerOf 10 = .ok (.ireturn, 1) := by decide +kernel
abbrev cc_me_thirdRightOf : ByteArray := prog_3_method_4_code
def yy_me_thirdRightOf : MethodName := ⟨"SpotContours$Mesh", "thirdRightOf", "(II)I"⟩
def ww_me_thirdRightOf : List Cond := .code yy_me_thirdRightOf cc_me_thirdRightOf 3 (some .int) :: zz_B
theorem d_me_thirdRightOf_0 : decode cc_me_thirdRightOf 0 = .ok (.aload_n 0, 1) := by decide +kernel
theorem d_me_thirdRightOf_1 : decode cc_me_thirdRightOf 1 = .ok (.getfield 15, 3) := by decide +kernel
theorem d_me_thirdRightOf_4 : decode cc_me_thirdRightOf 4 = .ok (.bipush 16, 2) := by decide +kernel
theorem d_me_thirdRightOf_6 : decode cc_me_thirdRightOf 6 = .ok (.iload_n 1, 1) := by decide +kernel
theorem d_me_thirdRightOf_7 : decode cc_me_thirdRightOf 7 = .ok (.imul, 1) := by decide +kernel
theorem d_me_thirdRightOf_8 : decode cc_me_thirdRightOf 8 = .ok (.iload_n 2, 1) := by decide +kernel
theorem d_me_thirdRightOf_9 : decode cc_me_thirdRightOf 9 = .ok (.iadd, 1) := by decide +kernel
theorem d_me_thirdRightOf_10 : decode cc_me_thirdRightOf 10 = .ok (.iaload, 1) := by decide +kernel
theorem d_me_thirdRightOf_11 : decode cc_me_thirdRightOf 11 = .ok (.ireturn, 1) := by decide +kernel
abbrev cc_me_sharing : ByteArray := prog_3_method_5_code
def yy_me_sharing : MethodName := ⟨"SpotContours$Mesh", "sharing", "(II)I"⟩
def ww_me_sharing : List Cond := .code yy_me_sharing cc_me_sharing 5 (some .int) :: zz_B
theorem d_me_sharing_0 : decode cc_me_sharing 0 = .ok (.iload_n 1, 1) := by decide +kernel
theorem d_me_sharing_1 : decode cc_me_sharing 1 = .ok (.iload_n 2, 1) := by decide +kernel
theorem d_me_sharing_2 : decode cc_me_sharing 2 = .ok (.if_icmp .ne 5, 3) := by decide +kernel
theorem d_me_sharing_5 : decode cc_me_sharing 5 = .ok (.iconst 0, 1) := by decide +kernel
theorem d_me_sharing_6 : decode cc_me_sharing 6 = .ok (.ireturn, 1) := by decide +kernel
theorem d_me_sharing_7 : decode cc_me_sharing 7 = .ok (.aload_n 0, 1) := by decide +kernel
theorem d_me_sharing_8 : decode cc_me_sharing 8 = .ok (.iload_n 1, 1) := by decide +kernel
theorem d_me_sharing_9 : decode cc_me_sharing 9 = .ok (.iload_n 2, 1) := by decide +kernel
theorem d_me_sharing_10 : decode cc_me_sharing 10 = .ok (.invokevirtual 25, 3) := by decide +kernel
theorem d_me_sharing_13 : decode cc_me_sharing 13 = .ok (.iconst (-1), 1) := by decide +kernel
theorem d_me_sharing_14 : decode cc_me_sharing 14 = .ok (.if_icmp .ne 7, 3) := by decide +kernel
theorem d_me_sharing_17 : decode cc_me_sharing 17 = .ok (.iconst 0, 1) := by decide +kernel
theorem d_me_sharing_18 : decode cc_me_sharing 18 = .ok (.goto 4, 3) := by decide +kernel
theorem d_me_sharing_21 : decode cc_me_sharing 21 = .ok (.iconst 1, 1) := by decide +kernel
theorem d_me_sharing_22 : decode cc_me_sharing 22 = .ok (.istore_n 3, 1) := by decide +kernel
theorem d_me_sharing_23 : decode cc_me_sharing 23 = .ok (.aload_n 0, 1) := by decide +kernel
theorem d_me_sharing_24 : decode cc_me_sharing 24 = .ok (.iload_n 2, 1) := by decide +kernel
theorem d_me_sharing_25 : decode cc_me_sharing 25 = .ok (.iload_n 1, 1) := by decide +kernel
theorem d_me_sharing_26 : decode cc_me_sharing 26 = .ok (.invokevirtual 25, 3) := by decide +kernel
theorem d_me_sharing_29 : decode cc_me_sharing 29 = .ok (.iconst (-1), 1) := by decide +kernel
theorem d_me_sharing_30 : decode cc_me_sharing 30 = .ok (.if_icmp .ne 7, 3) := by decide +kernel
theorem d_me_sharing_33 : decode cc_me_sharing 33 = .ok (.iconst 0, 1) := by decide +kernel
theorem d_me_sharing_34 : decode cc_me_sharing 34 = .ok (.goto 4, 3) := by decide +kernel
theorem d_me_sharing_37 : decode cc_me_sharing 37 = .ok (.iconst 1, 1) := by decide +kernel
theorem d_me_sharing_38 : decode cc_me_sharing 38 = .ok (.istore 4, 2) := by decide +kernel
theorem d_me_sharing_40 : decode cc_me_sharing 40 = .ok (.iload_n 3, 1) := by decide +kernel
theorem d_me_sharing_41 : decode cc_me_sharing 41 = .ok (.iload 4, 2) := by decide +kernel
theorem d_me_sharing_43 : decode cc_me_sharing 43 = .ok (.iadd, 1) := by decide +kernel
theorem d_me_sharing_44 : decode cc_me_sharing 44 = .ok (.ireturn, 1) := by decide +kernel
abbrev cc_me_rebuild : ByteArray := prog_3_method_6_code
def yy_me_rebuild : MethodName := ⟨"SpotContours$Mesh", "rebuild", "(LSpotContours$Spots;)V"⟩
def ww_me_rebuild : List Cond := .code yy_me_rebuild cc_me_rebuild 5 none :: zz_B
theorem d_me_rebuild_0 : decode cc_me_rebuild 0 = .ok (.aload_n 0, 1) := by decide +kernel
theorem d_me_rebuild_1 : decode cc_me_rebuild 1 = .ok (.invokevirtual 18, 3) := by decide +kernel
theorem d_me_rebuild_4 : decode cc_me_rebuild 4 = .ok (.iconst 0, 1) := by decide +kernel
theorem d_me_rebuild_5 : decode cc_me_rebuild 5 = .ok (.istore_n 2, 1) := by decide +kernel
theorem d_me_rebuild_6 : decode cc_me_rebuild 6 = .ok (.iload_n 2, 1) := by decide +kernel
theorem d_me_rebuild_7 : decode cc_me_rebuild 7 = .ok (.aload_n 1, 1) := by decide +kernel
theorem d_me_rebuild_8 : decode cc_me_rebuild 8 = .ok (.invokevirtual 29, 3) := by decide +kernel
theorem d_me_rebuild_11 : decode cc_me_rebuild 11 = .ok (.if_icmp .ge 91, 3) := by decide +kernel
theorem d_me_rebuild_14 : decode cc_me_rebuild 14 = .ok (.iload_n 2, 1) := by decide +kernel
theorem d_me_rebuild_15 : decode cc_me_rebuild 15 = .ok (.iconst 1, 1) := by decide +kernel
theorem d_me_rebuild_16 : decode cc_me_rebuild 16 = .ok (.iadd, 1) := by decide +kernel
theorem d_me_rebuild_17 : decode cc_me_rebuild 17 = .ok (.istore_n 3, 1) := by decide +kernel
theorem d_me_rebuild_18 : decode cc_me_rebuild 18 = .ok (.iload_n 3, 1) := by decide +kernel
theorem d_me_rebuild_19 : decode cc_me_rebuild 19 = .ok (.aload_n 1, 1) := by decide +kernel
theorem d_me_rebuild_20 : decode cc_me_rebuild 20 = .ok (.invokevirtual 29, 3) := by decide +kernel
theorem d_me_rebuild_23 : decode cc_me_rebuild 23 = .ok (.if_icmp .ge 73, 3) := by decide +kernel
theorem d_me_rebuild_26 : decode cc_me_rebuild 26 = .ok (.iload_n 3, 1) := by decide +kernel
theorem d_me_rebuild_27 : decode cc_me_rebuild 27 = .ok (.iconst 1, 1) := by decide +kernel
theorem d_me_rebuild_28 : decode cc_me_rebuild 28 = .ok (.iadd, 1) := by decide +kernel
theorem d_me_rebuild_29 : decode cc_me_rebuild 29 = .ok (.istore 4, 2) := by decide +kernel
theorem d_me_rebuild_31 : decode cc_me_rebuild 31 = .ok (.iload 4, 2) := by decide +kernel
theorem d_me_rebuild_33 : decode cc_me_rebuild 33 = .ok (.aload_n 1, 1) := by decide +kernel
theorem d_me_rebuild_34 : decode cc_me_rebuild 34 = .ok (.invokevirtual 29, 3) := by decide +kernel
theorem d_me_rebuild_37 : decode cc_me_rebuild 37 = .ok (.if_icmp .ge 53, 3) := by decide +kernel
theorem d_me_rebuild_40 : decode cc_me_rebuild 40 = .ok (.aload_n 0, 1) := by decide +kernel
theorem d_me_rebuild_41 : decode cc_me_rebuild 41 = .ok (.getfield 21, 3) := by decide +kernel
theorem d_me_rebuild_44 : decode cc_me_rebuild 44 = .ok (.bipush 27, 2) := by decide +kernel
theorem d_me_rebuild_46 : decode cc_me_rebuild 46 = .ok (.if_icmp .ge 38, 3) := by decide +kernel
theorem d_me_rebuild_49 : decode cc_me_rebuild 49 = .ok (.aload_n 1, 1) := by decide +kernel
theorem d_me_rebuild_50 : decode cc_me_rebuild 50 = .ok (.iload_n 2, 1) := by decide +kernel
theorem d_me_rebuild_51 : decode cc_me_rebuild 51 = .ok (.iload_n 3, 1) := by decide +kernel
theorem d_me_rebuild_52 : decode cc_me_rebuild 52 = .ok (.iload 4, 2) := by decide +kernel
theorem d_me_rebuild_54 : decode cc_me_rebuild 54 = .ok (.invokestatic 35, 3) := by decide +kernel
theorem d_me_rebuild_57 : decode cc_me_rebuild 57 = .ok (.ifCond .eq 27, 3) := by decide +kernel
theorem d_me_rebuild_60 : decode cc_me_rebuild 60 = .ok (.aload_n 0, 1) := by decide +kernel
theorem d_me_rebuild_61 : decode cc_me_rebuild 61 = .ok (.iload_n 2, 1) := by decide +kernel
theorem d_me_rebuild_62 : decode cc_me_rebuild 62 = .ok (.iload_n 3, 1) := by decide +kernel
theorem d_me_rebuild_63 : decode cc_me_rebuild 63 = .ok (.iload 4, 2) := by decide +kernel
theorem d_me_rebuild_65 : decode cc_me_rebuild 65 = .ok (.aload_n 1, 1) := by decide +kernel
theorem d_me_rebuild_66 : decode cc_me_rebuild 66 = .ok (.iload_n 2, 1) := by decide +kernel
theorem d_me_rebuild_67 : decode cc_me_rebuild 67 = .ok (.iload_n 3, 1) := by decide +kernel
theorem d_me_rebuild_68 : decode cc_me_rebuild 68 = .ok (.iload 4, 2) := by decide +kernel
theorem d_me_rebuild_70 : decode cc_me_rebuild 70 = .ok (.invokevirtual 39, 3) := by decide +kernel
theorem d_me_rebuild_73 : decode cc_me_rebuild 73 = .ok (.ifCond .ge 7, 3) := by decide +kernel
theorem d_me_rebuild_76 : decode cc_me_rebuild 76 = .ok (.iconst 1, 1) := by decide +kernel
theorem d_me_rebuild_77 : decode cc_me_rebuild 77 = .ok (.goto 4, 3) := by decide +kernel
theorem d_me_rebuild_80 : decode cc_me_rebuild 80 = .ok (.iconst 0, 1) := by decide +kernel
theorem d_me_rebuild_81 : decode cc_me_rebuild 81 = .ok (.invokevirtual 43, 3) := by decide +kernel
theorem d_me_rebuild_84 : decode cc_me_rebuild 84 = .ok (.iinc 4 1, 3) := by decide +kernel
theorem d_me_rebuild_87 : decode cc_me_rebuild 87 = .ok (.goto (-56), 3) := by decide +kernel
theorem d_me_rebuild_90 : decode cc_me_rebuild 90 = .ok (.iinc 3 1, 3) := by decide +kernel
theorem d_me_rebuild_93 : decode cc_me_rebuild 93 = .ok (.goto (-75), 3) := by decide +kernel
theorem d_me_rebuild_96 : decode cc_me_rebuild 96 = .ok (.iinc 2 1, 3) := by decide +kernel
theorem d_me_rebuild_99 : decode cc_me_rebuild 99 = .ok (.goto (-93), 3) := by decide +kernel
theorem d_me_rebuild_102 : decode cc_me_rebuild 102 = .ok (.return_, 1) := by decide +kernel
abbrev cc_me_clear : ByteArray := prog_3_method_7_code
def yy_me_clear : MethodName := ⟨"SpotContours$Mesh", "clear", "()V"⟩
def ww_me_clear : List Cond := .code yy_me_clear cc_me_clear 2 none :: zz_B
theorem d_me_clear_0 : decode cc_me_clear 0 = .ok (.aload_n 0, 1) := by decide +kernel
theorem d_me_clear_1 : decode cc_me_clear 1 = .ok (.iconst 0, 1) := by decide +kernel
theorem d_me_clear_2 : decode cc_me_clear 2 = .ok (.putfield 21, 3) := by decide +kernel
theorem d_me_clear_5 : decode cc_me_clear 5 = .ok (.iconst 0, 1) := by decide +kernel
theorem d_me_clear_6 : decode cc_me_clear 6 = .ok (.istore_n 1, 1) := by decide +kernel
theorem d_me_clear_7 : decode cc_me_clear 7 = .ok (.iload_n 1, 1) := by decide +kernel
theorem d_me_clear_8 : decode cc_me_clear 8 = .ok (.sipush 256, 3) := by decide +kernel
theorem d_me_clear_11 : decode cc_me_clear 11 = .ok (.if_icmp .ge 16, 3) := by decide +kernel
theorem d_me_clear_14 : decode cc_me_clear 14 = .ok (.aload_n 0, 1) := by decide +kernel
theorem d_me_clear_15 : decode cc_me_clear 15 = .ok (.getfield 15, 3) := by decide +kernel
theorem d_me_clear_18 : decode cc_me_clear 18 = .ok (.iload_n 1, 1) := by decide +kernel
theorem d_me_clear_19 : decode cc_me_clear 19 = .ok (.iconst (-1), 1) := by decide +kernel
theorem d_me_clear_20 : decode cc_me_clear 20 = .ok (.iastore, 1) := by decide +kernel
theorem d_me_clear_21 : decode cc_me_clear 21 = .ok (.iinc 1 1, 3) := by decide +kernel
theorem d_me_clear_24 : decode cc_me_clear 24 = .ok (.goto (-17), 3) := by decide +kernel
theorem d_me_clear_27 : decode cc_me_clear 27 = .ok (.return_, 1) := by decide +kernel
abbrev cc_me_isTriangle : ByteArray := prog_3_method_8_code
def yy_me_isTriangle : MethodName := ⟨"SpotContours$Mesh", "isTriangle", "(LSpotContours$Spots;III)Z"⟩
def ww_me_isTriangle : List Cond := .code yy_me_isTriangle cc_me_isTriangle 5 (some .boolean) :: zz_B
theorem d_me_isTriangle_0 : decode cc_me_isTriangle 0 = .ok (.aload_n 0, 1) := by decide +kernel
theorem d_me_isTriangle_1 : decode cc_me_isTriangle 1 = .ok (.iload_n 1, 1) := by decide +kernel
theorem d_me_isTriangle_2 : decode cc_me_isTriangle 2 = .ok (.iload_n 2, 1) := by decide +kernel
theorem d_me_isTriangle_3 : decode cc_me_isTriangle 3 = .ok (.iload_n 3, 1) := by decide +kernel
theorem d_me_isTriangle_4 : decode cc_me_isTriangle 4 = .ok (.invokevirtual 39, 3) := by decide +kernel
theorem d_me_isTriangle_7 : decode cc_me_isTriangle 7 = .ok (.ifCond .ne 5, 3) := by decide +kernel
theorem d_me_isTriangle_10 : decode cc_me_isTriangle 10 = .ok (.iconst 0, 1) := by decide +kernel
theorem d_me_isTriangle_11 : decode cc_me_isTriangle 11 = .ok (.ireturn, 1) := by decide +kernel
theorem d_me_isTriangle_12 : decode cc_me_isTriangle 12 = .ok (.iconst 0, 1) := by decide +kernel
theorem d_me_isTriangle_13 : decode cc_me_isTriangle 13 = .ok (.istore 4, 2) := by decide +kernel
theorem d_me_isTriangle_15 : decode cc_me_isTriangle 15 = .ok (.iload 4, 2) := by decide +kernel
theorem d_me_isTriangle_17 : decode cc_me_isTriangle 17 = .ok (.aload_n 0, 1) := by decide +kernel
theorem d_me_isTriangle_18 : decode cc_me_isTriangle 18 = .ok (.invokevirtual 29, 3) := by decide +kernel
theorem d_me_isTriangle_21 : decode cc_me_isTriangle 21 = .ok (.if_icmp .ge 41, 3) := by decide +kernel
theorem d_me_isTriangle_24 : decode cc_me_isTriangle 24 = .ok (.iload 4, 2) := by decide +kernel
theorem d_me_isTriangle_26 : decode cc_me_isTriangle 26 = .ok (.iload_n 1, 1) := by decide +kernel
theorem d_me_isTriangle_27 : decode cc_me_isTriangle 27 = .ok (.if_icmp .eq 29, 3) := by decide +kernel
theorem d_me_isTriangle_30 : decode cc_me_isTriangle 30 = .ok (.iload 4, 2) := by decide +kernel
theorem d_me_isTriangle_32 : decode cc_me_isTriangle 32 = .ok (.iload_n 2, 1) := by decide +kernel
theorem d_me_isTriangle_33 : decode cc_me_isTriangle 33 = .ok (.if_icmp .eq 23, 3) := by decide +kernel
theorem d_me_isTriangle_36 : decode cc_me_isTriangle 36 = .ok (.iload 4, 2) := by decide +kernel
theorem d_me_isTriangle_38 : decode cc_me_isTriangle 38 = .ok (.iload_n 3, 1) := by decide +kernel
theorem d_me_isTriangle_39 : decode cc_me_isTriangle 39 = .ok (.if_icmp .eq 17, 3) := by decide +kernel
theorem d_me_isTriangle_42 : decode cc_me_isTriangle 42 = .ok (.aload_n 0, 1) := by decide +kernel
theorem d_me_isTriangle_43 : decode cc_me_isTriangle 43 = .ok (.iload_n 1, 1) := by decide +kernel
theorem d_me_isTriangle_44 : decode cc_me_isTriangle 44 = .ok (.iload_n 2, 1) := by decide +kernel
theorem d_me_isTriangle_45 : decode cc_me_isTriangle 45 = .ok (.iload_n 3, 1) := by decide +kernel
theorem d_me_isTriangle_46 : decode cc_me_isTriangle 46 = .ok (.iload 4, 2) := by decide +kernel
theorem d_me_isTriangle_48 : decode cc_me_isTriangle 48 = .ok (.invokevirtual 47, 3) := by decide +kernel
theorem d_me_isTriangle_51 : decode cc_me_isTriangle 51 = .ok (.ifCond .eq 5, 3) := by decide +kernel
theorem d_me_isTriangle_54 : decode cc_me_isTriangle 54 = .ok (.iconst 0, 1) := by decide +kernel
theorem d_me_isTriangle_55 : decode cc_me_isTriangle 55 = .ok (.ireturn, 1) := by decide +kernel
theorem d_me_isTriangle_56 : decode cc_me_isTriangle 56 = .ok (.iinc 4 1, 3) := by decide +kernel
theorem d_me_isTriangle_59 : decode cc_me_isTriangle 59 = .ok (.goto (-44), 3) := by decide +kernel
theorem d_me_isTriangle_62 : decode cc_me_isTriangle 62 = .ok (.iconst 1, 1) := by decide +kernel
theorem d_me_isTriangle_63 : decode cc_me_isTriangle 63 = .ok (.ireturn, 1) := by decide +kernel
abbrev cc_me_add : ByteArray := prog_3_method_9_code
def yy_me_add : MethodName := ⟨"SpotContours$Mesh", "add", "(IIIZ)V"⟩
def ww_me_add : List Cond := .code yy_me_add cc_me_add 6 none :: zz_B
theorem d_me_add_0 : decode cc_me_add 0 = .ok (.iconst 3, 1) := by decide +kernel
theorem d_me_add_1 : decode cc_me_add 1 = .ok (.aload_n 0, 1) := by decide +kernel
theorem d_me_add_2 : decode cc_me_add 2 = .ok (.getfield 21, 3) := by decide +kernel
theorem d_me_add_5 : decode cc_me_add 5 = .ok (.imul, 1) := by decide +kernel
theorem d_me_add_6 : decode cc_me_add 6 = .ok (.istore 5, 2) := by decide +kernel
theorem d_me_add_8 : decode cc_me_add 8 = .ok (.aload_n 0, 1) := by decide +kernel
theorem d_me_add_9 : decode cc_me_add 9 = .ok (.getfield 11, 3) := by decide +kernel
theorem d_me_add_12 : decode cc_me_add 12 = .ok (.iload 5, 2) := by decide +kernel
theorem d_me_add_14 : decode cc_me_add 14 = .ok (.iload_n 1, 1) := by decide +kernel
theorem d_me_add_15 : decode cc_me_add 15 = .ok (.iastore, 1) := by decide +kernel
theorem d_me_add_16 : decode cc_me_add 16 = .ok (.aload_n 0, 1) := by decide +kernel
theorem d_me_add_17 : decode cc_me_add 17 = .ok (.getfield 11, 3) := by decide +kernel
theorem d_me_add_20 : decode cc_me_add 20 = .ok (.iload 5, 2) := by decide +kernel
theorem d_me_add_22 : decode cc_me_add 22 = .ok (.iconst 1, 1) := by decide +kernel
theorem d_me_add_23 : decode cc_me_add 23 = .ok (.iadd, 1) := by decide +kernel
theorem d_me_add_24 : decode cc_me_add 24 = .ok (.iload_n 2, 1) := by decide +kernel
theorem d_me_add_25 : decode cc_me_add 25 = .ok (.iastore, 1) := by decide +kernel
theorem d_me_add_26 : decode cc_me_add 26 = .ok (.aload_n 0, 1) := by decide +kernel
theorem d_me_add_27 : decode cc_me_add 27 = .ok (.getfield 11, 3) := by decide +kernel
theorem d_me_add_30 : decode cc_me_add 30 = .ok (.iload 5, 2) := by decide +kernel
theorem d_me_add_32 : decode cc_me_add 32 = .ok (.iconst 2, 1) := by decide +kernel
theorem d_me_add_33 : decode cc_me_add 33 = .ok (.iadd, 1) := by decide +kernel
theorem d_me_add_34 : decode cc_me_add 34 = .ok (.iload_n 3, 1) := by decide +kernel
theorem d_me_add_35 : decode cc_me_add 35 = .ok (.iastore, 1) := by decide +kernel
theorem d_me_add_36 : decode cc_me_add 36 = .ok (.aload_n 0, 1) := by decide +kernel
theorem d_me_add_37 : decode cc_me_add 37 = .ok (.dup, 1) := by decide +kernel
theorem d_me_add_38 : decode cc_me_add 38 = .ok (.getfield 21, 3) := by decide +kernel
theorem d_me_add_41 : decode cc_me_add 41 = .ok (.iconst 1, 1) := by decide +kernel
theorem d_me_add_42 : decode cc_me_add 42 = .ok (.iadd, 1) := by decide +kernel
theorem d_me_add_43 : decode cc_me_add 43 = .ok (.putfield 21, 3) := by decide +kernel
theorem d_me_add_46 : decode cc_me_add 46 = .ok (.iload 4, 2) := by decide +kernel
theorem d_me_add_48 : decode cc_me_add 48 = .ok (.ifCond .eq 13, 3) := by decide +kernel
theorem d_me_add_51 : decode cc_me_add 51 = .ok (.aload_n 0, 1) := by decide +kernel
theorem d_me_add_52 : decode cc_me_add 52 = .ok (.iload_n 1, 1) := by decide +kernel
theorem d_me_add_53 : decode cc_me_add 53 = .ok (.iload_n 2, 1) := by decide +kernel
theorem d_me_add_54 : decode cc_me_add 54 = .ok (.iload_n 3, 1) := by decide +kernel
theorem d_me_add_55 : decode cc_me_add 55 = .ok (.invokevirtual 51, 3) := by decide +kernel
theorem d_me_add_58 : decode cc_me_add 58 = .ok (.goto 10, 3) := by decide +kernel
theorem d_me_add_61 : decode cc_me_add 61 = .ok (.aload_n 0, 1) := by decide +kernel
theorem d_me_add_62 : decode cc_me_add 62 = .ok (.iload_n 1, 1) := by decide +kernel
theorem d_me_add_63 : decode cc_me_add 63 = .ok (.iload_n 3, 1) := by decide +kernel
theorem d_me_add_64 : decode cc_me_add 64 = .ok (.iload_n 2, 1) := by decide +kernel
theorem d_me_add_65 : decode cc_me_add 65 = .ok (.invokevirtual 51, 3) := by decide +kernel
theorem d_me_add_68 : decode cc_me_add 68 = .ok (.return_, 1) := by decide +kernel
abbrev cc_me_addSides : ByteArray := prog_3_method_10_code
def yy_me_addSides : MethodName := ⟨"SpotContours$Mesh", "addSides", "(III)V"⟩
def ww_me_addSides : List Cond := .code yy_me_addSides cc_me_addSides 4 none :: zz_B
theorem d_me_addSides_0 : decode cc_me_addSides 0 = .ok (.aload_n 0, 1) := by decide +kernel
theorem d_me_addSides_1 : decode cc_me_addSides 1 = .ok (.getfield 15, 3) := by decide +kernel
theorem d_me_addSides_4 : decode cc_me_addSides 4 = .ok (.bipush 16, 2) := by decide +kernel
theorem d_me_addSides_6 : decode cc_me_addSides 6 = .ok (.iload_n 1, 1) := by decide +kernel
theorem d_me_addSides_7 : decode cc_me_addSides 7 = .ok (.imul, 1) := by decide +kernel
theorem d_me_addSides_8 : decode cc_me_addSides 8 = .ok (.iload_n 2, 1) := by decide +kernel
theorem d_me_addSides_9 : decode cc_me_addSides 9 = .ok (.iadd, 1) := by decide +kernel
theorem d_me_addSides_10 : decode cc_me_addSides 10 = .ok (.iload_n 3, 1) := by decide +kernel
theorem d_me_addSides_11 : decode cc_me_addSides 11 = .ok (.iastore, 1) := by decide +kernel
theorem d_me_addSides_12 : decode cc_me_addSides 12 = .ok (.aload_n 0, 1) := by decide +kernel
theorem d_me_addSides_13 : decode cc_me_addSides 13 = .ok (.getfield 15, 3) := by decide +kernel
theorem d_me_addSides_16 : decode cc_me_addSides 16 = .ok (.bipush 16, 2) := by decide +kernel
theorem d_me_addSides_18 : decode cc_me_addSides 18 = .ok (.iload_n 2, 1) := by decide +kernel
theorem d_me_addSides_19 : decode cc_me_addSides 19 = .ok (.imul, 1) := by decide +kernel
theorem d_me_addSides_20 : decode cc_me_addSides 20 = .ok (.iload_n 3, 1) := by decide +kernel
theorem d_me_addSides_21 : decode cc_me_addSides 21 = .ok (.iadd, 1) := by decide +kernel
theorem d_me_addSides_22 : decode cc_me_addSides 22 = .ok (.iload_n 1, 1) := by decide +kernel
theorem d_me_addSides_23 : decode cc_me_addSides 23 = .ok (.iastore, 1) := by decide +kernel
theorem d_me_addSides_24 : decode cc_me_addSides 24 = .ok (.aload_n 0, 1) := by decide +kernel
theorem d_me_addSides_25 : decode cc_me_addSides 25 = .ok (.getfield 15, 3) := by decide +kernel
theorem d_me_addSides_28 : decode cc_me_addSides 28 = .ok (.bipush 16, 2) := by decide +kernel
theorem d_me_addSides_30 : decode cc_me_addSides 30 = .ok (.iload_n 3, 1) := by decide +kernel
theorem d_me_addSides_31 : decode cc_me_addSides 31 = .ok (.imul, 1) := by decide +kernel
theorem d_me_addSides_32 : decode cc_me_addSides 32 = .ok (.iload_n 1, 1) := by decide +kernel
theorem d_me_addSides_33 : decode cc_me_addSides 33 = .ok (.iadd, 1) := by decide +kernel
theorem d_me_addSides_34 : decode cc_me_addSides 34 = .ok (.iload_n 2, 1) := by decide +kernel
theorem d_me_addSides_35 : decode cc_me_addSides 35 = .ok (.iastore, 1) := by decide +kernel
theorem d_me_addSides_36 : decode cc_me_addSides 36 = .ok (.return_, 1) := by decide +kernel
abbrev cc_me_heightAt : ByteArray := prog_3_method_11_code
def yy_me_heightAt : MethodName := ⟨"SpotContours$Mesh", "heightAt", "(LSpotContours$Spots;II)I"⟩
def ww_me_heightAt : List Cond := .code yy_me_heightAt cc_me_heightAt 6 (some .int) :: zz_B
theorem d_me_heightAt_0 : decode cc_me_heightAt 0 = .ok (.iconst 0, 1) := by decide +kernel
theorem d_me_heightAt_1 : decode cc_me_heightAt 1 = .ok (.istore 4, 2) := by decide +kernel
theorem d_me_heightAt_3 : decode cc_me_heightAt 3 = .ok (.iload 4, 2) := by decide +kernel
theorem d_me_heightAt_5 : decode cc_me_heightAt 5 = .ok (.aload_n 0, 1) := by decide +kernel
theorem d_me_heightAt_6 : decode cc_me_heightAt 6 = .ok (.getfield 21, 3) := by decide +kernel
theorem d_me_heightAt_9 : decode cc_me_heightAt 9 = .ok (.if_icmp .ge 29, 3) := by decide +kernel
theorem d_me_heightAt_12 : decode cc_me_heightAt 12 = .ok (.aload_n 0, 1) := by decide +kernel
theorem d_me_heightAt_13 : decode cc_me_heightAt 13 = .ok (.aload_n 1, 1) := by decide +kernel
theorem d_me_heightAt_14 : decode cc_me_heightAt 14 = .ok (.iload 4, 2) := by decide +kernel
theorem d_me_heightAt_16 : decode cc_me_heightAt 16 = .ok (.iload_n 2, 1) := by decide +kernel
theorem d_me_heightAt_17 : decode cc_me_heightAt 17 = .ok (.iload_n 3, 1) := by decide +kernel
theorem d_me_heightAt_18 : decode cc_me_heightAt 18 = .ok (.invokevirtual 55, 3) := by decide +kernel
theorem d_me_heightAt_21 : decode cc_me_heightAt 21 = .ok (.istore 5, 2) := by decide +kernel
theorem d_me_heightAt_23 : decode cc_me_heightAt 23 = .ok (.iload 5, 2) := by decide +kernel
theorem d_me_heightAt_25 : decode cc_me_heightAt 25 = .ok (.iconst (-1), 1) := by decide +kernel
theorem d_me_heightAt_26 : decode cc_me_heightAt 26 = .ok (.if_icmp .eq 6, 3) := by decide +kernel
theorem d_me_heightAt_29 : decode cc_me_heightAt 29 = .ok (.iload 5, 2) := by decide +kernel
theorem d_me_heightAt_31 : decode cc_me_heightAt 31 = .ok (.ireturn, 1) := by decide +kernel
theorem d_me_heightAt_32 : decode cc_me_heightAt 32 = .ok (.iinc 4 1, 3) := by decide +kernel
theorem d_me_heightAt_35 : decode cc_me_heightAt 35 = .ok (.goto (-32), 3) := by decide +kernel
theorem d_me_heightAt_38 : decode cc_me_heightAt 38 = .ok (.iconst (-1), 1) := by decide +kernel
theorem d_me_heightAt_39 : decode cc_me_heightAt 39 = .ok (.ireturn, 1) := by decide +kernel
abbrev cc_me_heightIn : ByteArray := prog_3_method_12_code
def yy_me_heightIn : MethodName := ⟨"SpotContours$Mesh", "heightIn", "(LSpotContours$Spots;III)I"⟩
def ww_me_heightIn : List Cond := .code yy_me_heightIn cc_me_heightIn 13 (some .int) :: zz_B
theorem d_me_heightIn_0 : decode cc_me_heightIn 0 = .ok (.aload_n 0, 1) := by decide +kernel
theorem d_me_heightIn_1 : decode cc_me_heightIn 1 = .ok (.iload_n 2, 1) := by decide +kernel
theorem d_me_heightIn_2 : decode cc_me_heightIn 2 = .ok (.iconst 0, 1) := by decide +kernel
theorem d_me_heightIn_3 : decode cc_me_heightIn 3 = .ok (.invokevirtual 59, 3) := by decide +kernel
theorem d_me_heightIn_6 : decode cc_me_heightIn 6 = .ok (.istore 5, 2) := by decide +kernel
theorem d_me_heightIn_8 : decode cc_me_heightIn 8 = .ok (.aload_n 0, 1) := by decide +kernel
theorem d_me_heightIn_9 : decode cc_me_heightIn 9 = .ok (.iload_n 2, 1) := by decide +kernel
theorem d_me_heightIn_10 : decode cc_me_heightIn 10 = .ok (.iconst 1, 1) := by decide +kernel
theorem d_me_heightIn_11 : decode cc_me_heightIn 11 = .ok (.invokevirtual 59, 3) := by decide +kernel
theorem d_me_heightIn_14 : decode cc_me_heightIn 14 = .ok (.istore 6, 2) := by decide +kernel
theorem d_me_heightIn_16 : decode cc_me_heightIn 16 = .ok (.aload_n 0, 1) := by decide +kernel
theorem d_me_heightIn_17 : decode cc_me_heightIn 17 = .ok (.iload_n 2, 1) := by decide +kernel
theorem d_me_heightIn_18 : decode cc_me_heightIn 18 = .ok (.iconst 2, 1) := by decide +kernel
theorem d_me_heightIn_19 : decode cc_me_heightIn 19 = .ok (.invokevirtual 59, 3) := by decide +kernel
theorem d_me_heightIn_22 : decode cc_me_heightIn 22 = .ok (.istore 7, 2) := by decide +kernel
theorem d_me_heightIn_24 : decode cc_me_heightIn 24 = .ok (.aload_n 1, 1) := by decide +kernel
theorem d_me_heightIn_25 : decode cc_me_heightIn 25 = .ok (.iload 5, 2) := by decide +kernel
theorem d_me_heightIn_27 : decode cc_me_heightIn 27 = .ok (.iload 6, 2) := by decide +kernel
theorem d_me_heightIn_29 : decode cc_me_heightIn 29 = .ok (.iload 7, 2) := by decide +kernel
theorem d_me_heightIn_31 : decode cc_me_heightIn 31 = .ok (.invokevirtual 39, 3) := by decide +kernel
theorem d_me_heightIn_34 : decode cc_me_heightIn 34 = .ok (.ifCond .le 7, 3) := by decide +kernel
theorem d_me_heightIn_37 : decode cc_me_heightIn 37 = .ok (.iconst 1, 1) := by decide +kernel
theorem d_me_heightIn_38 : decode cc_me_heightIn 38 = .ok (.goto 4, 3) := by decide +kernel
theorem d_me_heightIn_41 : decode cc_me_heightIn 41 = .ok (.iconst (-1), 1) := by decide +kernel
theorem d_me_heightIn_42 : decode cc_me_heightIn 42 = .ok (.istore 8, 2) := by decide +kernel
theorem d_me_heightIn_44 : decode cc_me_heightIn 44 = .ok (.iload 8, 2) := by decide +kernel
theorem d_me_heightIn_46 : decode cc_me_heightIn 46 = .ok (.aload_n 1, 1) := by decide +kernel
theorem d_me_heightIn_47 : decode cc_me_heightIn 47 = .ok (.iload 6, 2) := by decide +kernel
theorem d_me_heightIn_49 : decode cc_me_heightIn 49 = .ok (.iload 7, 2) := by decide +kernel
theorem d_me_heightIn_51 : decode cc_me_heightIn 51 = .ok (.iload_n 3, 1) := by decide +kernel
theorem d_me_heightIn_52 : decode cc_me_heightIn 52 = .ok (.iload 4, 2) := by decide +kernel
theorem d_me_heightIn_54 : decode cc_me_heightIn 54 = .ok (.invokevirtual 62, 3) := by decide +kernel
theorem d_me_heightIn_57 : decode cc_me_heightIn 57 = .ok (.imul, 1) := by decide +kernel
theorem d_me_heightIn_58 : decode cc_me_heightIn 58 = .ok (.istore 9, 2) := by decide +kernel
theorem d_me_heightIn_60 : decode cc_me_heightIn 60 = .ok (.iload 8, 2) := by decide +kernel
theorem d_me_heightIn_62 : decode cc_me_heightIn 62 = .ok (.aload_n 1, 1) := by decide +kernel
theorem d_me_heightIn_63 : decode cc_me_heightIn 63 = .ok (.iload 7, 2) := by decide +kernel
theorem d_me_heightIn_65 : decode cc_me_heightIn 65 = .ok (.iload 5, 2) := by decide +kernel
theorem d_me_heightIn_67 : decode cc_me_heightIn 67 = .ok (.iload_n 3, 1) := by decide +kernel
theorem d_me_heightIn_68 : decode cc_me_heightIn 68 = .ok (.iload 4, 2) := by decide +kernel
theorem d_me_heightIn_70 : decode cc_me_heightIn 70 = .ok (.invokevirtual 62, 3) := by decide +kernel
theorem d_me_heightIn_73 : decode cc_me_heightIn 73 = .ok (.imul, 1) := by decide +kernel
theorem d_me_heightIn_74 : decode cc_me_heightIn 74 = .ok (.istore 10, 2) := by decide +kernel
theorem d_me_heightIn_76 : decode cc_me_heightIn 76 = .ok (.iload 8, 2) := by decide +kernel
theorem d_me_heightIn_78 : decode cc_me_heightIn 78 = .ok (.aload_n 1, 1) := by decide +kernel
theorem d_me_heightIn_79 : decode cc_me_heightIn 79 = .ok (.iload 5, 2) := by decide +kernel
theorem d_me_heightIn_81 : decode cc_me_heightIn 81 = .ok (.iload 6, 2) := by decide +kernel
theorem d_me_heightIn_83 : decode cc_me_heightIn 83 = .ok (.iload_n 3, 1) := by decide +kernel
theorem d_me_heightIn_84 : decode cc_me_heightIn 84 = .ok (.iload 4, 2) := by decide +kernel
theorem d_me_heightIn_86 : decode cc_me_heightIn 86 = .ok (.invokevirtual 62, 3) := by decide +kernel
theorem d_me_heightIn_89 : decode cc_me_heightIn 89 = .ok (.imul, 1) := by decide +kernel
theorem d_me_heightIn_90 : decode cc_me_heightIn 90 = .ok (.istore 11, 2) := by decide +kernel
theorem d_me_heightIn_92 : decode cc_me_heightIn 92 = .ok (.iload 9, 2) := by decide +kernel
theorem d_me_heightIn_94 : decode cc_me_heightIn 94 = .ok (.iload 10, 2) := by decide +kernel
theorem d_me_heightIn_96 : decode cc_me_heightIn 96 = .ok (.iadd, 1) := by decide +kernel
theorem d_me_heightIn_97 : decode cc_me_heightIn 97 = .ok (.iload 11, 2) := by decide +kernel
theorem d_me_heightIn_99 : decode cc_me_heightIn 99 = .ok (.iadd, 1) := by decide +kernel
theorem d_me_heightIn_100 : decode cc_me_heightIn 100 = .ok (.istore 12, 2) := by decide +kernel
theorem d_me_heightIn_102 : decode cc_me_heightIn 102 = .ok (.iload 9, 2) := by decide +kernel
theorem d_me_heightIn_104 : decode cc_me_heightIn 104 = .ok (.ifCond .lt 18, 3) := by decide +kernel
theorem d_me_heightIn_107 : decode cc_me_heightIn 107 = .ok (.iload 10, 2) := by decide +kernel
theorem d_me_heightIn_109 : decode cc_me_heightIn 109 = .ok (.ifCond .lt 13, 3) := by decide +kernel
theorem d_me_heightIn_112 : decode cc_me_heightIn 112 = .ok (.iload 11, 2) := by decide +kernel
theorem d_me_heightIn_114 : decode cc_me_heightIn 114 = .ok (.ifCond .lt 8, 3) := by decide +kernel
theorem d_me_heightIn_117 : decode cc_me_heightIn 117 = .ok (.iload 12, 2) := by decide +kernel
theorem d_me_heightIn_119 : decode cc_me_heightIn 119 = .ok (.ifCond .ne 5, 3) := by decide +kernel
theorem d_me_heightIn_122 : decode cc_me_heightIn 122 = .ok (.iconst (-1), 1) := by decide +kernel
theorem d_me_heightIn_123 : decode cc_me_heightIn 123 = .ok (.ireturn, 1) := by decide +kernel
theorem d_me_heightIn_124 : decode cc_me_heightIn 124 = .ok (.iload 9, 2) := by decide +kernel
theorem d_me_heightIn_126 : decode cc_me_heightIn 126 = .ok (.aload_n 1, 1) := by decide +kernel
theorem d_me_heightIn_127 : decode cc_me_heightIn 127 = .ok (.iload 5, 2) := by decide +kernel
theorem d_me_heightIn_129 : decode cc_me_heightIn 129 = .ok (.invokevirtual 66, 3) := by decide +kernel
theorem d_me_heightIn_132 : decode cc_me_heightIn 132 = .ok (.imul, 1) := by decide +kernel
theorem d_me_heightIn_133 : decode cc_me_heightIn 133 = .ok (.iload 10, 2) := by decide +kernel
theorem d_me_heightIn_135 : decode cc_me_heightIn 135 = .ok (.aload_n 1, 1) := by decide +kernel
theorem d_me_heightIn_136 : decode cc_me_heightIn 136 = .ok (.iload 6, 2) := by decide +kernel
theorem d_me_heightIn_138 : decode cc_me_heightIn 138 = .ok (.invokevirtual 66, 3) := by decide +kernel
theorem d_me_heightIn_141 : decode cc_me_heightIn 141 = .ok (.imul, 1) := by decide +kernel
theorem d_me_heightIn_142 : decode cc_me_heightIn 142 = .ok (.iadd, 1) := by decide +kernel
theorem d_me_heightIn_143 : decode cc_me_heightIn 143 = .ok (.iload 11, 2) := by decide +kernel
theorem d_me_heightIn_145 : decode cc_me_heightIn 145 = .ok (.aload_n 1, 1) := by decide +kernel
theorem d_me_heightIn_146 : decode cc_me_heightIn 146 = .ok (.iload 7, 2) := by decide +kernel
theorem d_me_heightIn_148 : decode cc_me_heightIn 148 = .ok (.invokevirtual 66, 3) := by decide +kernel
theorem d_me_heightIn_151 : decode cc_me_heightIn 151 = .ok (.imul, 1) := by decide +kernel
theorem d_me_heightIn_152 : decode cc_me_heightIn 152 = .ok (.iadd, 1) := by decide +kernel
theorem d_me_heightIn_153 : decode cc_me_heightIn 153 = .ok (.iload 12, 2) := by decide +kernel
theorem d_me_heightIn_155 : decode cc_me_heightIn 155 = .ok (.invokestatic 70, 3) := by decide +kernel
theorem d_me_heightIn_158 : decode cc_me_heightIn 158 = .ok (.ireturn, 1) := by decide +kernel
end
section
/-! Names and decode rows, printed. -/
abbrev cc_li_size : ByteArray := prog_2_method_2_code
def yy_li_size : MethodName := ⟨"SpotContours$Lines", "size", "()I"⟩
def ww_li_size : List Cond := .code yy_li_size cc_li_size 1 (some .int) :: zz_B
theorem d_li_size_0 : decode cc_li_size 0 = .ok (.aload_n 0, 1) := by decide +kernel
theorem d_li_size_1 : decode cc_li_size 1 = .ok (.getfield 28, 3) := by decide +kernel
theorem d_li_size_4 : decode cc_li_size 4 = .ok (.ireturn, 1) := by decide +kernel
abbrev cc_li_isLine : ByteArray := prog_2_method_3_code
def yy_li_isLine : MethodName := ⟨"SpotContours$Lines", "isLine", "(I)Z"⟩
def ww_li_isLine : List Cond := .code yy_li_isLine cc_li_isLine 2 (some .boolean) :: zz_B
theorem d_li_isLine_0 : decode cc_li_isLine 0 = .ok (.iload_n 1, 1) := by decide +kernel
theorem d_li_isLine_1 : decode cc_li_isLine 1 = .ok (.ifCond .lt 15, 3) := by decide +kernel
theorem d_li_isLine_4 : decode cc_li_isLine 4 = .ok (.iload_n 1, 1) := by decide +kernel
theorem d_li_isLine_5 : decode cc_li_isLine 5 = .ok (.aload_n 0, 1) := by decide +kernel
theorem d_li_isLine_6 : decode cc_li_isLine 6 = .ok (.getfield 28, 3) := by decide +kernel
theorem d_li_isLine_9 : decode cc_li_isLine 9 = .ok (.if_icmp .ge 7, 3) := by decide +kernel
theorem d_li_isLine_12 : decode cc_li_isLine 12 = .ok (.iconst 1, 1) := by decide +kernel
theorem d_li_isLine_13 : decode cc_li_isLine 13 = .ok (.goto 4, 3) := by decide +kernel
theorem d_li_isLine_16 : decode cc_li_isLine 16 = .ok (.iconst 0, 1) := by decide +kernel
theorem d_li_isLine_17 : decode cc_li_isLine 17 = .ok (.ireturn, 1) := by decide +kernel
abbrev cc_li_length : ByteArray := prog_2_method_4_code
def yy_li_length : MethodName := ⟨"SpotContours$Lines", "length", "(I)I"⟩
def ww_li_length : List Cond := .code yy_li_length cc_li_length 2 (some .int) :: zz_B
theorem d_li_length_0 : decode cc_li_length 0 = .ok (.aload_n 0, 1) := by decide +kernel
theorem d_li_length_1 : decode cc_li_length 1 = .ok (.getfield 19, 3) := by decide +kernel
theorem d_li_length_4 : decode cc_li_length 4 = .ok (.iload_n 1, 1) := by decide +kernel
theorem d_li_length_5 : decode cc_li_length 5 = .ok (.iconst 1, 1) := by decide +kernel
theorem d_li_length_6 : decode cc_li_length 6 = .ok (.iadd, 1) := by decide +kernel
theorem d_li_length_7 : decode cc_li_length 7 = .ok (.iaload, 1) := by decide +kernel
theorem d_li_length_8 : decode cc_li_length 8 = .ok (.aload_n 0, 1) := by decide +kernel
theorem d_li_length_9 : decode cc_li_length 9 = .ok (.getfield 19, 3) := by decide +kernel
theorem d_li_length_12 : decode cc_li_length 12 = .ok (.iload_n 1, 1) := by decide +kernel
theorem d_li_length_13 : decode cc_li_length 13 = .ok (.iaload, 1) := by decide +kernel
theorem d_li_length_14 : decode cc_li_length 14 = .ok (.isub, 1) := by decide +kernel
theorem d_li_length_15 : decode cc_li_length 15 = .ok (.ireturn, 1) := by decide +kernel
abbrev cc_li_isRing : ByteArray := prog_2_method_5_code
def yy_li_isRing : MethodName := ⟨"SpotContours$Lines", "isRing", "(I)Z"⟩
def ww_li_isRing : List Cond := .code yy_li_isRing cc_li_isRing 2 (some .boolean) :: zz_B
theorem d_li_isRing_0 : decode cc_li_isRing 0 = .ok (.aload_n 0, 1) := by decide +kernel
theorem d_li_isRing_1 : decode cc_li_isRing 1 = .ok (.getfield 22, 3) := by decide +kernel
theorem d_li_isRing_4 : decode cc_li_isRing 4 = .ok (.iload_n 1, 1) := by decide +kernel
theorem d_li_isRing_5 : decode cc_li_isRing 5 = .ok (.baload, 1) := by decide +kernel
theorem d_li_isRing_6 : decode cc_li_isRing 6 = .ok (.ireturn, 1) := by decide +kernel
abbrev cc_li_pair : ByteArray := prog_2_method_6_code
def yy_li_pair : MethodName := ⟨"SpotContours$Lines", "pair", "(II)I"⟩
def ww_li_pair : List Cond := .code yy_li_pair cc_li_pair 3 (some .int) :: zz_B
theorem d_li_pair_0 : decode cc_li_pair 0 = .ok (.aload_n 0, 1) := by decide +kernel
theorem d_li_pair_1 : decode cc_li_pair 1 = .ok (.getfield 15, 3) := by decide +kernel
theorem d_li_pair_4 : decode cc_li_pair 4 = .ok (.aload_n 0, 1) := by decide +kernel
theorem d_li_pair_5 : decode cc_li_pair 5 = .ok (.getfield 19, 3) := by decide +kernel
theorem d_li_pair_8 : decode cc_li_pair 8 = .ok (.iload_n 1, 1) := by decide +kernel
theorem d_li_pair_9 : decode cc_li_pair 9 = .ok (.iaload, 1) := by decide +kernel
theorem d_li_pair_10 : decode cc_li_pair 10 = .ok (.iload_n 2, 1) := by decide +kernel
theorem d_li_pair_11 : decode cc_li_pair 11 = .ok (.iadd, 1) := by decide +kernel
theorem d_li_pair_12 : decode cc_li_pair 12 = .ok (.iaload, 1) := by decide +kernel
theorem d_li_pair_13 : decode cc_li_pair 13 = .ok (.ireturn, 1) := by decide +kernel
abbrev cc_li_isHollow : ByteArray := prog_2_method_7_code
def yy_li_isHollow : MethodName := ⟨"SpotContours$Lines", "isHollow", "(LSpotContours$Spots;I)Z"⟩
def ww_li_isHollow : List Cond := .code yy_li_isHollow cc_li_isHollow 5 (some .boolean) :: zz_B
theorem d_li_isHollow_0 : decode cc_li_isHollow 0 = .ok (.aload_n 0, 1) := by decide +kernel
theorem d_li_isHollow_1 : decode cc_li_isHollow 1 = .ok (.iload_n 2, 1) := by decide +kernel
theorem d_li_isHollow_2 : decode cc_li_isHollow 2 = .ok (.iconst 0, 1) := by decide +kernel
theorem d_li_isHollow_3 : decode cc_li_isHollow 3 = .ok (.invokevirtual 32, 3) := by decide +kernel
theorem d_li_isHollow_6 : decode cc_li_isHollow 6 = .ok (.invokestatic 36, 3) := by decide +kernel
theorem d_li_isHollow_9 : decode cc_li_isHollow 9 = .ok (.istore_n 3, 1) := by decide +kernel
theorem d_li_isHollow_10 : decode cc_li_isHollow 10 = .ok (.iconst 0, 1) := by decide +kernel
theorem d_li_isHollow_11 : decode cc_li_isHollow 11 = .ok (.istore 4, 2) := by decide +kernel
theorem d_li_isHollow_13 : decode cc_li_isHollow 13 = .ok (.iload 4, 2) := by decide +kernel
theorem d_li_isHollow_15 : decode cc_li_isHollow 15 = .ok (.aload_n 0, 1) := by decide +kernel
theorem d_li_isHollow_16 : decode cc_li_isHollow 16 = .ok (.iload_n 2, 1) := by decide +kernel
theorem d_li_isHollow_17 : decode cc_li_isHollow 17 = .ok (.invokevirtual 40, 3) := by decide +kernel
theorem d_li_isHollow_20 : decode cc_li_isHollow 20 = .ok (.if_icmp .ge 41, 3) := by decide +kernel
theorem d_li_isHollow_23 : decode cc_li_isHollow 23 = .ok (.aload_n 1, 1) := by decide +kernel
theorem d_li_isHollow_24 : decode cc_li_isHollow 24 = .ok (.iload_n 3, 1) := by decide +kernel
theorem d_li_isHollow_25 : decode cc_li_isHollow 25 = .ok (.aload_n 0, 1) := by decide +kernel
theorem d_li_isHollow_26 : decode cc_li_isHollow 26 = .ok (.iload_n 2, 1) := by decide +kernel
theorem d_li_isHollow_27 : decode cc_li_isHollow 27 = .ok (.iload 4, 2) := by decide +kernel
theorem d_li_isHollow_29 : decode cc_li_isHollow 29 = .ok (.invokevirtual 32, 3) := by decide +kernel
theorem d_li_isHollow_32 : decode cc_li_isHollow 32 = .ok (.invokestatic 36, 3) := by decide +kernel
theorem d_li_isHollow_35 : decode cc_li_isHollow 35 = .ok (.invokestatic 43, 3) := by decide +kernel
theorem d_li_isHollow_38 : decode cc_li_isHollow 38 = .ok (.istore_n 3, 1) := by decide +kernel
theorem d_li_isHollow_39 : decode cc_li_isHollow 39 = .ok (.aload_n 1, 1) := by decide +kernel
theorem d_li_isHollow_40 : decode cc_li_isHollow 40 = .ok (.iload_n 3, 1) := by decide +kernel
theorem d_li_isHollow_41 : decode cc_li_isHollow 41 = .ok (.aload_n 0, 1) := by decide +kernel
theorem d_li_isHollow_42 : decode cc_li_isHollow 42 = .ok (.iload_n 2, 1) := by decide +kernel
theorem d_li_isHollow_43 : decode cc_li_isHollow 43 = .ok (.iload 4, 2) := by decide +kernel
theorem d_li_isHollow_45 : decode cc_li_isHollow 45 = .ok (.invokevirtual 32, 3) := by decide +kernel
theorem d_li_isHollow_48 : decode cc_li_isHollow 48 = .ok (.invokestatic 47, 3) := by decide +kernel
theorem d_li_isHollow_51 : decode cc_li_isHollow 51 = .ok (.invokestatic 43, 3) := by decide +kernel
theorem d_li_isHollow_54 : decode cc_li_isHollow 54 = .ok (.istore_n 3, 1) := by decide +kernel
theorem d_li_isHollow_55 : decode cc_li_isHollow 55 = .ok (.iinc 4 1, 3) := by decide +kernel
theorem d_li_isHollow_58 : decode cc_li_isHollow 58 = .ok (.goto (-45), 3) := by decide +kernel
theorem d_li_isHollow_61 : decode cc_li_isHollow 61 = .ok (.aload_n 0, 1) := by decide +kernel
theorem d_li_isHollow_62 : decode cc_li_isHollow 62 = .ok (.getfield 9, 3) := by decide +kernel
theorem d_li_isHollow_65 : decode cc_li_isHollow 65 = .ok (.iload_n 3, 1) := by decide +kernel
theorem d_li_isHollow_66 : decode cc_li_isHollow 66 = .ok (.baload, 1) := by decide +kernel
theorem d_li_isHollow_67 : decode cc_li_isHollow 67 = .ok (.ireturn, 1) := by decide +kernel
abbrev cc_li_moreLeft : ByteArray := prog_2_method_8_code
def yy_li_moreLeft : MethodName := ⟨"SpotContours$Lines", "moreLeft", "(LSpotContours$Spots;II)I"⟩
def ww_li_moreLeft : List Cond := .code yy_li_moreLeft cc_li_moreLeft 3 (some .int) :: zz_B
theorem d_li_moreLeft_0 : decode cc_li_moreLeft 0 = .ok (.aload_n 0, 1) := by decide +kernel
theorem d_li_moreLeft_1 : decode cc_li_moreLeft 1 = .ok (.iload_n 2, 1) := by decide +kernel
theorem d_li_moreLeft_2 : decode cc_li_moreLeft 2 = .ok (.invokevirtual 50, 3) := by decide +kernel
theorem d_li_moreLeft_5 : decode cc_li_moreLeft 5 = .ok (.aload_n 0, 1) := by decide +kernel
theorem d_li_moreLeft_6 : decode cc_li_moreLeft 6 = .ok (.iload_n 1, 1) := by decide +kernel
theorem d_li_moreLeft_7 : decode cc_li_moreLeft 7 = .ok (.invokevirtual 50, 3) := by decide +kernel
theorem d_li_moreLeft_10 : decode cc_li_moreLeft 10 = .ok (.if_icmp .ge 7, 3) := by decide +kernel
theorem d_li_moreLeft_13 : decode cc_li_moreLeft 13 = .ok (.iload_n 2, 1) := by decide +kernel
theorem d_li_moreLeft_14 : decode cc_li_moreLeft 14 = .ok (.goto 4, 3) := by decide +kernel
theorem d_li_moreLeft_17 : decode cc_li_moreLeft 17 = .ok (.iload_n 1, 1) := by decide +kernel
theorem d_li_moreLeft_18 : decode cc_li_moreLeft 18 = .ok (.ireturn, 1) := by decide +kernel
abbrev cc_li_trace : ByteArray := prog_2_method_9_code
def yy_li_trace : MethodName := ⟨"SpotContours$Lines", "trace", "(LSpotContours$Spots;LSpotContours$Mesh;I)V"⟩
def ww_li_trace : List Cond := .code yy_li_trace cc_li_trace 6 none :: zz_B
theorem d_li_trace_0 : decode cc_li_trace 0 = .ok (.aload_n 0, 1) := by decide +kernel
theorem d_li_trace_1 : decode cc_li_trace 1 = .ok (.invokevirtual 55, 3) := by decide +kernel
theorem d_li_trace_4 : decode cc_li_trace 4 = .ok (.iconst 0, 1) := by decide +kernel
theorem d_li_trace_5 : decode cc_li_trace 5 = .ok (.istore 4, 2) := by decide +kernel
theorem d_li_trace_7 : decode cc_li_trace 7 = .ok (.iload 4, 2) := by decide +kernel
theorem d_li_trace_9 : decode cc_li_trace 9 = .ok (.aload_n 1, 1) := by decide +kernel
theorem d_li_trace_10 : decode cc_li_trace 10 = .ok (.invokevirtual 58, 3) := by decide +kernel
theorem d_li_trace_13 : decode cc_li_trace 13 = .ok (.if_icmp .ge 31, 3) := by decide +kernel
theorem d_li_trace_16 : decode cc_li_trace 16 = .ok (.aload_n 0, 1) := by decide +kernel
theorem d_li_trace_17 : decode cc_li_trace 17 = .ok (.getfield 9, 3) := by decide +kernel
theorem d_li_trace_20 : decode cc_li_trace 20 = .ok (.iload 4, 2) := by decide +kernel
theorem d_li_trace_22 : decode cc_li_trace 22 = .ok (.aload_n 1, 1) := by decide +kernel
theorem d_li_trace_23 : decode cc_li_trace 23 = .ok (.iload 4, 2) := by decide +kernel
theorem d_li_trace_25 : decode cc_li_trace 25 = .ok (.invokevirtual 62, 3) := by decide +kernel
theorem d_li_trace_28 : decode cc_li_trace 28 = .ok (.iload_n 3, 1) := by decide +kernel
theorem d_li_trace_29 : decode cc_li_trace 29 = .ok (.if_icmp .le 7, 3) := by decide +kernel
theorem d_li_trace_32 : decode cc_li_trace 32 = .ok (.iconst 1, 1) := by decide +kernel
theorem d_li_trace_33 : decode cc_li_trace 33 = .ok (.goto 4, 3) := by decide +kernel
theorem d_li_trace_36 : decode cc_li_trace 36 = .ok (.iconst 0, 1) := by decide +kernel
theorem d_li_trace_37 : decode cc_li_trace 37 = .ok (.bastore, 1) := by decide +kernel
theorem d_li_trace_38 : decode cc_li_trace 38 = .ok (.iinc 4 1, 3) := by decide +kernel
theorem d_li_trace_41 : decode cc_li_trace 41 = .ok (.goto (-34), 3) := by decide +kernel
theorem d_li_trace_44 : decode cc_li_trace 44 = .ok (.iconst 0, 1) := by decide +kernel
theorem d_li_trace_45 : decode cc_li_trace 45 = .ok (.istore 4, 2) := by decide +kernel
theorem d_li_trace_47 : decode cc_li_trace 47 = .ok (.iload 4, 2) := by decide +kernel
theorem d_li_trace_49 : decode cc_li_trace 49 = .ok (.aload_n 1, 1) := by decide +kernel
theorem d_li_trace_50 : decode cc_li_trace 50 = .ok (.invokevirtual 58, 3) := by decide +kernel
theorem d_li_trace_53 : decode cc_li_trace 53 = .ok (.if_icmp .ge 92, 3) := by decide +kernel
theorem d_li_trace_56 : decode cc_li_trace 56 = .ok (.iload 4, 2) := by decide +kernel
theorem d_li_trace_58 : decode cc_li_trace 58 = .ok (.iconst 1, 1) := by decide +kernel
theorem d_li_trace_59 : decode cc_li_trace 59 = .ok (.iadd, 1) := by decide +kernel
theorem d_li_trace_60 : decode cc_li_trace 60 = .ok (.istore 5, 2) := by decide +kernel
theorem d_li_trace_62 : decode cc_li_trace 62 = .ok (.iload 5, 2) := by decide +kernel
theorem d_li_trace_64 : decode cc_li_trace 64 = .ok (.aload_n 1, 1) := by decide +kernel
theorem d_li_trace_65 : decode cc_li_trace 65 = .ok (.invokevirtual 58, 3) := by decide +kernel
theorem d_li_trace_68 : decode cc_li_trace 68 = .ok (.if_icmp .ge 71, 3) := by decide +kernel
theorem d_li_trace_71 : decode cc_li_trace 71 = .ok (.aload_n 0, 1) := by decide +kernel
theorem d_li_trace_72 : decode cc_li_trace 72 = .ok (.getfield 9, 3) := by decide +kernel
theorem d_li_trace_75 : decode cc_li_trace 75 = .ok (.iload 4, 2) := by decide +kernel
theorem d_li_trace_77 : decode cc_li_trace 77 = .ok (.baload, 1) := by decide +kernel
theorem d_li_trace_78 : decode cc_li_trace 78 = .ok (.aload_n 0, 1) := by decide +kernel
theorem d_li_trace_79 : decode cc_li_trace 79 = .ok (.getfield 9, 3) := by decide +kernel
theorem d_li_trace_82 : decode cc_li_trace 82 = .ok (.iload 5, 2) := by decide +kernel
theorem d_li_trace_84 : decode cc_li_trace 84 = .ok (.baload, 1) := by decide +kernel
theorem d_li_trace_85 : decode cc_li_trace 85 = .ok (.if_icmp .eq 48, 3) := by decide +kernel
theorem d_li_trace_88 : decode cc_li_trace 88 = .ok (.aload_n 2, 1) := by decide +kernel
theorem d_li_trace_89 : decode cc_li_trace 89 = .ok (.iload 4, 2) := by decide +kernel
theorem d_li_trace_91 : decode cc_li_trace 91 = .ok (.iload 5, 2) := by decide +kernel
theorem d_li_trace_93 : decode cc_li_trace 93 = .ok (.invokevirtual 65, 3) := by decide +kernel
theorem d_li_trace_96 : decode cc_li_trace 96 = .ok (.ifCond .le 37, 3) := by decide +kernel
theorem d_li_trace_99 : decode cc_li_trace 99 = .ok (.aload_n 0, 1) := by decide +kernel
theorem d_li_trace_100 : decode cc_li_trace 100 = .ok (.aload_n 2, 1) := by decide +kernel
theorem d_li_trace_101 : decode cc_li_trace 101 = .ok (.aload_n 0, 1) := by decide +kernel
theorem d_li_trace_102 : decode cc_li_trace 102 = .ok (.getfield 9, 3) := by decide +kernel
theorem d_li_trace_105 : decode cc_li_trace 105 = .ok (.iload 4, 2) := by decide +kernel
theorem d_li_trace_107 : decode cc_li_trace 107 = .ok (.baload, 1) := by decide +kernel
theorem d_li_trace_108 : decode cc_li_trace 108 = .ok (.ifCond .eq 14, 3) := by decide +kernel
theorem d_li_trace_111 : decode cc_li_trace 111 = .ok (.bipush 16, 2) := by decide +kernel
theorem d_li_trace_113 : decode cc_li_trace 113 = .ok (.iload 4, 2) := by decide +kernel
theorem d_li_trace_115 : decode cc_li_trace 115 = .ok (.imul, 1) := by decide +kernel
theorem d_li_trace_116 : decode cc_li_trace 116 = .ok (.iload 5, 2) := by decide +kernel
theorem d_li_trace_118 : decode cc_li_trace 118 = .ok (.iadd, 1) := by decide +kernel
theorem d_li_trace_119 : decode cc_li_trace 119 = .ok (.goto 11, 3) := by decide +kernel
theorem d_li_trace_122 : decode cc_li_trace 122 = .ok (.bipush 16, 2) := by decide +kernel
theorem d_li_trace_124 : decode cc_li_trace 124 = .ok (.iload 5, 2) := by decide +kernel
theorem d_li_trace_126 : decode cc_li_trace 126 = .ok (.imul, 1) := by decide +kernel
theorem d_li_trace_127 : decode cc_li_trace 127 = .ok (.iload 4, 2) := by decide +kernel
theorem d_li_trace_129 : decode cc_li_trace 129 = .ok (.iadd, 1) := by decide +kernel
theorem d_li_trace_130 : decode cc_li_trace 130 = .ok (.invokevirtual 70, 3) := by decide +kernel
theorem d_li_trace_133 : decode cc_li_trace 133 = .ok (.iinc 5 1, 3) := by decide +kernel
theorem d_li_trace_136 : decode cc_li_trace 136 = .ok (.goto (-74), 3) := by decide +kernel
theorem d_li_trace_139 : decode cc_li_trace 139 = .ok (.iinc 4 1, 3) := by decide +kernel
theorem d_li_trace_142 : decode cc_li_trace 142 = .ok (.goto (-95), 3) := by decide +kernel
theorem d_li_trace_145 : decode cc_li_trace 145 = .ok (.return_, 1) := by decide +kernel
abbrev cc_li_clear : ByteArray := prog_2_method_10_code
def yy_li_clear : MethodName := ⟨"SpotContours$Lines", "clear", "()V"⟩
def ww_li_clear : List Cond := .code yy_li_clear cc_li_clear 2 none :: zz_B
theorem d_li_clear_0 : decode cc_li_clear 0 = .ok (.aload_n 0, 1) := by decide +kernel
theorem d_li_clear_1 : decode cc_li_clear 1 = .ok (.iconst 0, 1) := by decide +kernel
theorem d_li_clear_2 : decode cc_li_clear 2 = .ok (.putfield 28, 3) := by decide +kernel
theorem d_li_clear_5 : decode cc_li_clear 5 = .ok (.iconst 0, 1) := by decide +kernel
theorem d_li_clear_6 : decode cc_li_clear 6 = .ok (.istore_n 1, 1) := by decide +kernel
theorem d_li_clear_7 : decode cc_li_clear 7 = .ok (.iload_n 1, 1) := by decide +kernel
theorem d_li_clear_8 : decode cc_li_clear 8 = .ok (.sipush 256, 3) := by decide +kernel
theorem d_li_clear_11 : decode cc_li_clear 11 = .ok (.if_icmp .ge 16, 3) := by decide +kernel
theorem d_li_clear_14 : decode cc_li_clear 14 = .ok (.aload_n 0, 1) := by decide +kernel
theorem d_li_clear_15 : decode cc_li_clear 15 = .ok (.getfield 25, 3) := by decide +kernel
theorem d_li_clear_18 : decode cc_li_clear 18 = .ok (.iload_n 1, 1) := by decide +kernel
theorem d_li_clear_19 : decode cc_li_clear 19 = .ok (.iconst 0, 1) := by decide +kernel
theorem d_li_clear_20 : decode cc_li_clear 20 = .ok (.bastore, 1) := by decide +kernel
theorem d_li_clear_21 : decode cc_li_clear 21 = .ok (.iinc 1 1, 3) := by decide +kernel
theorem d_li_clear_24 : decode cc_li_clear 24 = .ok (.goto (-17), 3) := by decide +kernel
theorem d_li_clear_27 : decode cc_li_clear 27 = .ok (.return_, 1) := by decide +kernel
abbrev cc_li_traceFrom : ByteArray := prog_2_method_11_code
def yy_li_traceFrom : MethodName := ⟨"SpotContours$Lines", "traceFrom", "(LSpotContours$Mesh;I)V"⟩
def ww_li_traceFrom : List Cond := .code yy_li_traceFrom cc_li_traceFrom 6 none :: zz_B
theorem d_li_traceFrom_0 : decode cc_li_traceFrom 0 = .ok (.aload_n 0, 1) := by decide +kernel
theorem d_li_traceFrom_1 : decode cc_li_traceFrom 1 = .ok (.getfield 25, 3) := by decide +kernel
theorem d_li_traceFrom_4 : decode cc_li_traceFrom 4 = .ok (.iload_n 2, 1) := by decide +kernel
theorem d_li_traceFrom_5 : decode cc_li_traceFrom 5 = .ok (.baload, 1) := by decide +kernel
theorem d_li_traceFrom_6 : decode cc_li_traceFrom 6 = .ok (.ifCond .ne 12, 3) := by decide +kernel
theorem d_li_traceFrom_9 : decode cc_li_traceFrom 9 = .ok (.aload_n 0, 1) := by decide +kernel
theorem d_li_traceFrom_10 : decode cc_li_traceFrom 10 = .ok (.getfield 28, 3) := by decide +kernel
theorem d_li_traceFrom_13 : decode cc_li_traceFrom 13 = .ok (.bipush 120, 2) := by decide +kernel
theorem d_li_traceFrom_15 : decode cc_li_traceFrom 15 = .ok (.if_icmp .lt 4, 3) := by decide +kernel
theorem d_li_traceFrom_18 : decode cc_li_traceFrom 18 = .ok (.return_, 1) := by decide +kernel
theorem d_li_traceFrom_19 : decode cc_li_traceFrom 19 = .ok (.aload_n 0, 1) := by decide +kernel
theorem d_li_traceFrom_20 : decode cc_li_traceFrom 20 = .ok (.aload_n 1, 1) := by decide +kernel
theorem d_li_traceFrom_21 : decode cc_li_traceFrom 21 = .ok (.iload_n 2, 1) := by decide +kernel
theorem d_li_traceFrom_22 : decode cc_li_traceFrom 22 = .ok (.invokevirtual 74, 3) := by decide +kernel
theorem d_li_traceFrom_25 : decode cc_li_traceFrom 25 = .ok (.istore_n 3, 1) := by decide +kernel
theorem d_li_traceFrom_26 : decode cc_li_traceFrom 26 = .ok (.aload_n 0, 1) := by decide +kernel
theorem d_li_traceFrom_27 : decode cc_li_traceFrom 27 = .ok (.getfield 22, 3) := by decide +kernel
theorem d_li_traceFrom_30 : decode cc_li_traceFrom 30 = .ok (.aload_n 0, 1) := by decide +kernel
theorem d_li_traceFrom_31 : decode cc_li_traceFrom 31 = .ok (.getfield 28, 3) := by decide +kernel
theorem d_li_traceFrom_34 : decode cc_li_traceFrom 34 = .ok (.aload_n 0, 1) := by decide +kernel
theorem d_li_traceFrom_35 : decode cc_li_traceFrom 35 = .ok (.aload_n 1, 1) := by decide +kernel
theorem d_li_traceFrom_36 : decode cc_li_traceFrom 36 = .ok (.iload_n 3, 1) := by decide +kernel
theorem d_li_traceFrom_37 : decode cc_li_traceFrom 37 = .ok (.invokevirtual 78, 3) := by decide +kernel
theorem d_li_traceFrom_40 : decode cc_li_traceFrom 40 = .ok (.iconst (-1), 1) := by decide +kernel
theorem d_li_traceFrom_41 : decode cc_li_traceFrom 41 = .ok (.if_icmp .eq 7, 3) := by decide +kernel
theorem d_li_traceFrom_44 : decode cc_li_traceFrom 44 = .ok (.iconst 1, 1) := by decide +kernel
theorem d_li_traceFrom_45 : decode cc_li_traceFrom 45 = .ok (.goto 4, 3) := by decide +kernel
theorem d_li_traceFrom_48 : decode cc_li_traceFrom 48 = .ok (.iconst 0, 1) := by decide +kernel
theorem d_li_traceFrom_49 : decode cc_li_traceFrom 49 = .ok (.bastore, 1) := by decide +kernel
theorem d_li_traceFrom_50 : decode cc_li_traceFrom 50 = .ok (.aload_n 0, 1) := by decide +kernel
theorem d_li_traceFrom_51 : decode cc_li_traceFrom 51 = .ok (.getfield 19, 3) := by decide +kernel
theorem d_li_traceFrom_54 : decode cc_li_traceFrom 54 = .ok (.aload_n 0, 1) := by decide +kernel
theorem d_li_traceFrom_55 : decode cc_li_traceFrom 55 = .ok (.getfield 28, 3) := by decide +kernel
theorem d_li_traceFrom_58 : decode cc_li_traceFrom 58 = .ok (.iaload, 1) := by decide +kernel
theorem d_li_traceFrom_59 : decode cc_li_traceFrom 59 = .ok (.istore 4, 2) := by decide +kernel
theorem d_li_traceFrom_61 : decode cc_li_traceFrom 61 = .ok (.iload 4, 2) := by decide +kernel
theorem d_li_traceFrom_63 : decode cc_li_traceFrom 63 = .ok (.istore 5, 2) := by decide +kernel
theorem d_li_traceFrom_65 : decode cc_li_traceFrom 65 = .ok (.iload 5, 2) := by decide +kernel
theorem d_li_traceFrom_67 : decode cc_li_traceFrom 67 = .ok (.bipush 120, 2) := by decide +kernel
theorem d_li_traceFrom_69 : decode cc_li_traceFrom 69 = .ok (.if_icmp .ge 51, 3) := by decide +kernel
theorem d_li_traceFrom_72 : decode cc_li_traceFrom 72 = .ok (.iload_n 3, 1) := by decide +kernel
theorem d_li_traceFrom_73 : decode cc_li_traceFrom 73 = .ok (.iconst (-1), 1) := by decide +kernel
theorem d_li_traceFrom_74 : decode cc_li_traceFrom 74 = .ok (.if_icmp .eq 46, 3) := by decide +kernel
theorem d_li_traceFrom_77 : decode cc_li_traceFrom 77 = .ok (.aload_n 0, 1) := by decide +kernel
theorem d_li_traceFrom_78 : decode cc_li_traceFrom 78 = .ok (.getfield 25, 3) := by decide +kernel
theorem d_li_traceFrom_81 : decode cc_li_traceFrom 81 = .ok (.iload_n 3, 1) := by decide +kernel
theorem d_li_traceFrom_82 : decode cc_li_traceFrom 82 = .ok (.baload, 1) := by decide +kernel
theorem d_li_traceFrom_83 : decode cc_li_traceFrom 83 = .ok (.ifCond .ne 37, 3) := by decide +kernel
theorem d_li_traceFrom_86 : decode cc_li_traceFrom 86 = .ok (.aload_n 0, 1) := by decide +kernel
theorem d_li_traceFrom_87 : decode cc_li_traceFrom 87 = .ok (.getfield 15, 3) := by decide +kernel
theorem d_li_traceFrom_90 : decode cc_li_traceFrom 90 = .ok (.iload 5, 2) := by decide +kernel
theorem d_li_traceFrom_92 : decode cc_li_traceFrom 92 = .ok (.iload_n 3, 1) := by decide +kernel
theorem d_li_traceFrom_93 : decode cc_li_traceFrom 93 = .ok (.iastore, 1) := by decide +kernel
theorem d_li_traceFrom_94 : decode cc_li_traceFrom 94 = .ok (.aload_n 0, 1) := by decide +kernel
theorem d_li_traceFrom_95 : decode cc_li_traceFrom 95 = .ok (.getfield 25, 3) := by decide +kernel
theorem d_li_traceFrom_98 : decode cc_li_traceFrom 98 = .ok (.iload_n 3, 1) := by decide +kernel
theorem d_li_traceFrom_99 : decode cc_li_traceFrom 99 = .ok (.iconst 1, 1) := by decide +kernel
theorem d_li_traceFrom_100 : decode cc_li_traceFrom 100 = .ok (.bastore, 1) := by decide +kernel
theorem d_li_traceFrom_101 : decode cc_li_traceFrom 101 = .ok (.aload_n 0, 1) := by decide +kernel
theorem d_li_traceFrom_102 : decode cc_li_traceFrom 102 = .ok (.aload_n 1, 1) := by decide +kernel
theorem d_li_traceFrom_103 : decode cc_li_traceFrom 103 = .ok (.iload_n 3, 1) := by decide +kernel
theorem d_li_traceFrom_104 : decode cc_li_traceFrom 104 = .ok (.invokevirtual 81, 3) := by decide +kernel
theorem d_li_traceFrom_107 : decode cc_li_traceFrom 107 = .ok (.istore_n 3, 1) := by decide +kernel
theorem d_li_traceFrom_108 : decode cc_li_traceFrom 108 = .ok (.iload 5, 2) := by decide +kernel
theorem d_li_traceFrom_110 : decode cc_li_traceFrom 110 = .ok (.iconst 1, 1) := by decide +kernel
theorem d_li_traceFrom_111 : decode cc_li_traceFrom 111 = .ok (.iadd, 1) := by decide +kernel
theorem d_li_traceFrom_112 : decode cc_li_traceFrom 112 = .ok (.istore 4, 2) := by decide +kernel
theorem d_li_traceFrom_114 : decode cc_li_traceFrom 114 = .ok (.iinc 5 1, 3) := by decide +kernel
theorem d_li_traceFrom_117 : decode cc_li_traceFrom 117 = .ok (.goto (-52), 3) := by decide +kernel
theorem d_li_traceFrom_120 : decode cc_li_traceFrom 120 = .ok (.aload_n 0, 1) := by decide +kernel
theorem d_li_traceFrom_121 : decode cc_li_traceFrom 121 = .ok (.dup, 1) := by decide +kernel
theorem d_li_traceFrom_122 : decode cc_li_traceFrom 122 = .ok (.getfield 28, 3) := by decide +kernel
theorem d_li_traceFrom_125 : decode cc_li_traceFrom 125 = .ok (.iconst 1, 1) := by decide +kernel
theorem d_li_traceFrom_126 : decode cc_li_traceFrom 126 = .ok (.iadd, 1) := by decide +kernel
theorem d_li_traceFrom_127 : decode cc_li_traceFrom 127 = .ok (.putfield 28, 3) := by decide +kernel
theorem d_li_traceFrom_130 : decode cc_li_traceFrom 130 = .ok (.aload_n 0, 1) := by decide +kernel
theorem d_li_traceFrom_131 : decode cc_li_traceFrom 131 = .ok (.getfield 19, 3) := by decide +kernel
theorem d_li_traceFrom_134 : decode cc_li_traceFrom 134 = .ok (.aload_n 0, 1) := by decide +kernel
theorem d_li_traceFrom_135 : decode cc_li_traceFrom 135 = .ok (.getfield 28, 3) := by decide +kernel
theorem d_li_traceFrom_138 : decode cc_li_traceFrom 138 = .ok (.iload 4, 2) := by decide +kernel
theorem d_li_traceFrom_140 : decode cc_li_traceFrom 140 = .ok (.iastore, 1) := by decide +kernel
theorem d_li_traceFrom_141 : decode cc_li_traceFrom 141 = .ok (.return_, 1) := by decide +kernel
abbrev cc_li_beginning : ByteArray := prog_2_method_12_code
def yy_li_beginning : MethodName := ⟨"SpotContours$Lines", "beginning", "(LSpotContours$Mesh;I)I"⟩
def ww_li_beginning : List Cond := .code yy_li_beginning cc_li_beginning 6 (some .int) :: zz_B
theorem d_li_beginning_0 : decode cc_li_beginning 0 = .ok (.iload_n 2, 1) := by decide +kernel
theorem d_li_beginning_1 : decode cc_li_beginning 1 = .ok (.istore_n 3, 1) := by decide +kernel
theorem d_li_beginning_2 : decode cc_li_beginning 2 = .ok (.iconst 0, 1) := by decide +kernel
theorem d_li_beginning_3 : decode cc_li_beginning 3 = .ok (.istore 4, 2) := by decide +kernel
theorem d_li_beginning_5 : decode cc_li_beginning 5 = .ok (.iload 4, 2) := by decide +kernel
theorem d_li_beginning_7 : decode cc_li_beginning 7 = .ok (.bipush 120, 2) := by decide +kernel
theorem d_li_beginning_9 : decode cc_li_beginning 9 = .ok (.if_icmp .ge 36, 3) := by decide +kernel
theorem d_li_beginning_12 : decode cc_li_beginning 12 = .ok (.aload_n 0, 1) := by decide +kernel
theorem d_li_beginning_13 : decode cc_li_beginning 13 = .ok (.aload_n 1, 1) := by decide +kernel
theorem d_li_beginning_14 : decode cc_li_beginning 14 = .ok (.iload_n 3, 1) := by decide +kernel
theorem d_li_beginning_15 : decode cc_li_beginning 15 = .ok (.invokevirtual 78, 3) := by decide +kernel
theorem d_li_beginning_18 : decode cc_li_beginning 18 = .ok (.istore 5, 2) := by decide +kernel
theorem d_li_beginning_20 : decode cc_li_beginning 20 = .ok (.iload 5, 2) := by decide +kernel
theorem d_li_beginning_22 : decode cc_li_beginning 22 = .ok (.iconst (-1), 1) := by decide +kernel
theorem d_li_beginning_23 : decode cc_li_beginning 23 = .ok (.if_icmp .ne 5, 3) := by decide +kernel
theorem d_li_beginning_26 : decode cc_li_beginning 26 = .ok (.iload_n 3, 1) := by decide +kernel
theorem d_li_beginning_27 : decode cc_li_beginning 27 = .ok (.ireturn, 1) := by decide +kernel
theorem d_li_beginning_28 : decode cc_li_beginning 28 = .ok (.iload 5, 2) := by decide +kernel
theorem d_li_beginning_30 : decode cc_li_beginning 30 = .ok (.iload_n 2, 1) := by decide +kernel
theorem d_li_beginning_31 : decode cc_li_beginning 31 = .ok (.if_icmp .ne 5, 3) := by decide +kernel
theorem d_li_beginning_34 : decode cc_li_beginning 34 = .ok (.iload_n 2, 1) := by decide +kernel
theorem d_li_beginning_35 : decode cc_li_beginning 35 = .ok (.ireturn, 1) := by decide +kernel
theorem d_li_beginning_36 : decode cc_li_beginning 36 = .ok (.iload 5, 2) := by decide +kernel
theorem d_li_beginning_38 : decode cc_li_beginning 38 = .ok (.istore_n 3, 1) := by decide +kernel
theorem d_li_beginning_39 : decode cc_li_beginning 39 = .ok (.iinc 4 1, 3) := by decide +kernel
theorem d_li_beginning_42 : decode cc_li_beginning 42 = .ok (.goto (-37), 3) := by decide +kernel
theorem d_li_beginning_45 : decode cc_li_beginning 45 = .ok (.iload_n 2, 1) := by decide +kernel
theorem d_li_beginning_46 : decode cc_li_beginning 46 = .ok (.ireturn, 1) := by decide +kernel
abbrev cc_li_behind : ByteArray := prog_2_method_13_code
def yy_li_behind : MethodName := ⟨"SpotContours$Lines", "behind", "(LSpotContours$Mesh;I)I"⟩
def ww_li_behind : List Cond := .code yy_li_behind cc_li_behind 5 (some .int) :: zz_B
theorem d_li_behind_0 : decode cc_li_behind 0 = .ok (.iload_n 2, 1) := by decide +kernel
theorem d_li_behind_1 : decode cc_li_behind 1 = .ok (.invokestatic 36, 3) := by decide +kernel
theorem d_li_behind_4 : decode cc_li_behind 4 = .ok (.istore_n 3, 1) := by decide +kernel
theorem d_li_behind_5 : decode cc_li_behind 5 = .ok (.iload_n 2, 1) := by decide +kernel
theorem d_li_behind_6 : decode cc_li_behind 6 = .ok (.invokestatic 47, 3) := by decide +kernel
theorem d_li_behind_9 : decode cc_li_behind 9 = .ok (.istore 4, 2) := by decide +kernel
theorem d_li_behind_11 : decode cc_li_behind 11 = .ok (.aload_n 0, 1) := by decide +kernel
theorem d_li_behind_12 : decode cc_li_behind 12 = .ok (.iload_n 3, 1) := by decide +kernel
theorem d_li_behind_13 : decode cc_li_behind 13 = .ok (.iload 4, 2) := by decide +kernel
theorem d_li_behind_15 : decode cc_li_behind 15 = .ok (.aload_n 1, 1) := by decide +kernel
theorem d_li_behind_16 : decode cc_li_behind 16 = .ok (.iload 4, 2) := by decide +kernel
theorem d_li_behind_18 : decode cc_li_behind 18 = .ok (.iload_n 3, 1) := by decide +kernel
theorem d_li_behind_19 : decode cc_li_behind 19 = .ok (.invokevirtual 84, 3) := by decide +kernel
theorem d_li_behind_22 : decode cc_li_behind 22 = .ok (.invokevirtual 87, 3) := by decide +kernel
theorem d_li_behind_25 : decode cc_li_behind 25 = .ok (.ireturn, 1) := by decide +kernel
abbrev cc_li_before : ByteArray := prog_2_method_14_code
def yy_li_before : MethodName := ⟨"SpotContours$Lines", "before", "(LSpotContours$Mesh;I)I"⟩
def ww_li_before : List Cond := .code yy_li_before cc_li_before 5 (some .int) :: zz_B
theorem d_li_before_0 : decode cc_li_before 0 = .ok (.iload_n 2, 1) := by decide +kernel
theorem d_li_before_1 : decode cc_li_before 1 = .ok (.invokestatic 36, 3) := by decide +kernel
theorem d_li_before_4 : decode cc_li_before 4 = .ok (.istore_n 3, 1) := by decide +kernel
theorem d_li_before_5 : decode cc_li_before 5 = .ok (.iload_n 2, 1) := by decide +kernel
theorem d_li_before_6 : decode cc_li_before 6 = .ok (.invokestatic 47, 3) := by decide +kernel
theorem d_li_before_9 : decode cc_li_before 9 = .ok (.istore 4, 2) := by decide +kernel
theorem d_li_before_11 : decode cc_li_before 11 = .ok (.aload_n 0, 1) := by decide +kernel
theorem d_li_before_12 : decode cc_li_before 12 = .ok (.iload_n 3, 1) := by decide +kernel
theorem d_li_before_13 : decode cc_li_before 13 = .ok (.iload 4, 2) := by decide +kernel
theorem d_li_before_15 : decode cc_li_before 15 = .ok (.aload_n 1, 1) := by decide +kernel
theorem d_li_before_16 : decode cc_li_before 16 = .ok (.iload_n 3, 1) := by decide +kernel
theorem d_li_before_17 : decode cc_li_before 17 = .ok (.iload 4, 2) := by decide +kernel
theorem d_li_before_19 : decode cc_li_before 19 = .ok (.invokevirtual 84, 3) := by decide +kernel
theorem d_li_before_22 : decode cc_li_before 22 = .ok (.invokevirtual 87, 3) := by decide +kernel
theorem d_li_before_25 : decode cc_li_before 25 = .ok (.ireturn, 1) := by decide +kernel
abbrev cc_li_otherPair : ByteArray := prog_2_method_15_code
def yy_li_otherPair : MethodName := ⟨"SpotContours$Lines", "otherPair", "(III)I"⟩
def ww_li_otherPair : List Cond := .code yy_li_otherPair cc_li_otherPair 4 (some .int) :: zz_B
theorem d_li_otherPair_0 : decode cc_li_otherPair 0 = .ok (.iload_n 3, 1) := by decide +kernel
theorem d_li_otherPair_1 : decode cc_li_otherPair 1 = .ok (.iconst (-1), 1) := by decide +kernel
theorem d_li_otherPair_2 : decode cc_li_otherPair 2 = .ok (.if_icmp .ne 5, 3) := by decide +kernel
theorem d_li_otherPair_5 : decode cc_li_otherPair 5 = .ok (.iconst (-1), 1) := by decide +kernel
theorem d_li_otherPair_6 : decode cc_li_otherPair 6 = .ok (.ireturn, 1) := by decide +kernel
theorem d_li_otherPair_7 : decode cc_li_otherPair 7 = .ok (.aload_n 0, 1) := by decide +kernel
theorem d_li_otherPair_8 : decode cc_li_otherPair 8 = .ok (.getfield 9, 3) := by decide +kernel
theorem d_li_otherPair_11 : decode cc_li_otherPair 11 = .ok (.iload_n 3, 1) := by decide +kernel
theorem d_li_otherPair_12 : decode cc_li_otherPair 12 = .ok (.baload, 1) := by decide +kernel
theorem d_li_otherPair_13 : decode cc_li_otherPair 13 = .ok (.ifCond .eq 12, 3) := by decide +kernel
theorem d_li_otherPair_16 : decode cc_li_otherPair 16 = .ok (.bipush 16, 2) := by decide +kernel
theorem d_li_otherPair_18 : decode cc_li_otherPair 18 = .ok (.iload_n 3, 1) := by decide +kernel
theorem d_li_otherPair_19 : decode cc_li_otherPair 19 = .ok (.imul, 1) := by decide +kernel
theorem d_li_otherPair_20 : decode cc_li_otherPair 20 = .ok (.iload_n 2, 1) := by decide +kernel
theorem d_li_otherPair_21 : decode cc_li_otherPair 21 = .ok (.iadd, 1) := by decide +kernel
theorem d_li_otherPair_22 : decode cc_li_otherPair 22 = .ok (.goto 9, 3) := by decide +kernel
theorem d_li_otherPair_25 : decode cc_li_otherPair 25 = .ok (.bipush 16, 2) := by decide +kernel
theorem d_li_otherPair_27 : decode cc_li_otherPair 27 = .ok (.iload_n 1, 1) := by decide +kernel
theorem d_li_otherPair_28 : decode cc_li_otherPair 28 = .ok (.imul, 1) := by decide +kernel
theorem d_li_otherPair_29 : decode cc_li_otherPair 29 = .ok (.iload_n 3, 1) := by decide +kernel
theorem d_li_otherPair_30 : decode cc_li_otherPair 30 = .ok (.iadd, 1) := by decide +kernel
theorem d_li_otherPair_31 : decode cc_li_otherPair 31 = .ok (.ireturn, 1) := by decide +kernel
end
section
/-! Names and decode rows, printed. -/
abbrev cc_ta_size : ByteArray := prog_5_method_2_code
def yy_ta_size : MethodName := ⟨"SpotContours$Tags", "size", "()I"⟩
def ww_ta_size : List Cond := .code yy_ta_size cc_ta_size 1 (some .int) :: zz_B
theorem d_ta_size_0 : decode cc_ta_size 0 = .ok (.aload_n 0, 1) := by decide +kernel
theorem d_ta_size_1 : decode cc_ta_size 1 = .ok (.getfield 19, 3) := by decide +kernel
theorem d_ta_size_4 : decode cc_ta_size 4 = .ok (.ireturn, 1) := by decide +kernel
abbrev cc_ta_isFull : ByteArray := prog_5_method_3_code
def yy_ta_isFull : MethodName := ⟨"SpotContours$Tags", "isFull", "()Z"⟩
def ww_ta_isFull : List Cond := .code yy_ta_isFull cc_ta_isFull 1 (some .boolean) :: zz_B
theorem d_ta_isFull_0 : decode cc_ta_isFull 0 = .ok (.aload_n 0, 1) := by decide +kernel
theorem d_ta_isFull_1 : decode cc_ta_isFull 1 = .ok (.getfield 19, 3) := by decide +kernel
theorem d_ta_isFull_4 : decode cc_ta_isFull 4 = .ok (.bipush 20, 2) := by decide +kernel
theorem d_ta_isFull_6 : decode cc_ta_isFull 6 = .ok (.if_icmp .lt 7, 3) := by decide +kernel
theorem d_ta_isFull_9 : decode cc_ta_isFull 9 = .ok (.iconst 1, 1) := by decide +kernel
theorem d_ta_isFull_10 : decode cc_ta_isFull 10 = .ok (.goto 4, 3) := by decide +kernel
theorem d_ta_isFull_13 : decode cc_ta_isFull 13 = .ok (.iconst 0, 1) := by decide +kernel
theorem d_ta_isFull_14 : decode cc_ta_isFull 14 = .ok (.ireturn, 1) := by decide +kernel
abbrev cc_ta_level : ByteArray := prog_5_method_4_code
def yy_ta_level : MethodName := ⟨"SpotContours$Tags", "level", "(I)I"⟩
def ww_ta_level : List Cond := .code yy_ta_level cc_ta_level 2 (some .int) :: zz_B
theorem d_ta_level_0 : decode cc_ta_level 0 = .ok (.aload_n 0, 1) := by decide +kernel
theorem d_ta_level_1 : decode cc_ta_level 1 = .ok (.getfield 9, 3) := by decide +kernel
theorem d_ta_level_4 : decode cc_ta_level 4 = .ok (.iload_n 1, 1) := by decide +kernel
theorem d_ta_level_5 : decode cc_ta_level 5 = .ok (.iaload, 1) := by decide +kernel
theorem d_ta_level_6 : decode cc_ta_level 6 = .ok (.ireturn, 1) := by decide +kernel
abbrev cc_ta_x : ByteArray := prog_5_method_5_code
def yy_ta_x : MethodName := ⟨"SpotContours$Tags", "x", "(I)I"⟩
def ww_ta_x : List Cond := .code yy_ta_x cc_ta_x 2 (some .int) :: zz_B
theorem d_ta_x_0 : decode cc_ta_x 0 = .ok (.aload_n 0, 1) := by decide +kernel
theorem d_ta_x_1 : decode cc_ta_x 1 = .ok (.getfield 13, 3) := by decide +kernel
theorem d_ta_x_4 : decode cc_ta_x 4 = .ok (.iload_n 1, 1) := by decide +kernel
theorem d_ta_x_5 : decode cc_ta_x 5 = .ok (.iaload, 1) := by decide +kernel
theorem d_ta_x_6 : decode cc_ta_x 6 = .ok (.ireturn, 1) := by decide +kernel
abbrev cc_ta_y : ByteArray := prog_5_method_6_code
def yy_ta_y : MethodName := ⟨"SpotContours$Tags", "y", "(I)I"⟩
def ww_ta_y : List Cond := .code yy_ta_y cc_ta_y 2 (some .int) :: zz_B
theorem d_ta_y_0 : decode cc_ta_y 0 = .ok (.aload_n 0, 1) := by decide +kernel
theorem d_ta_y_1 : decode cc_ta_y 1 = .ok (.getfield 16, 3) := by decide +kernel
theorem d_ta_y_4 : decode cc_ta_y 4 = .ok (.iload_n 1, 1) := by decide +kernel
theorem d_ta_y_5 : decode cc_ta_y 5 = .ok (.iaload, 1) := by decide +kernel
theorem d_ta_y_6 : decode cc_ta_y 6 = .ok (.ireturn, 1) := by decide +kernel
abbrev cc_ta_add : ByteArray := prog_5_method_7_code
def yy_ta_add : MethodName := ⟨"SpotContours$Tags", "add", "(III)V"⟩
def ww_ta_add : List Cond := .code yy_ta_add cc_ta_add 4 none :: zz_B
theorem d_ta_add_0 : decode cc_ta_add 0 = .ok (.aload_n 0, 1) := by decide +kernel
theorem d_ta_add_1 : decode cc_ta_add 1 = .ok (.getfield 9, 3) := by decide +kernel
theorem d_ta_add_4 : decode cc_ta_add 4 = .ok (.aload_n 0, 1) := by decide +kernel
theorem d_ta_add_5 : decode cc_ta_add 5 = .ok (.getfield 19, 3) := by decide +kernel
theorem d_ta_add_8 : decode cc_ta_add 8 = .ok (.iload_n 1, 1) := by decide +kernel
theorem d_ta_add_9 : decode cc_ta_add 9 = .ok (.iastore, 1) := by decide +kernel
theorem d_ta_add_10 : decode cc_ta_add 10 = .ok (.aload_n 0, 1) := by decide +kernel
theorem d_ta_add_11 : decode cc_ta_add 11 = .ok (.getfield 13, 3) := by decide +kernel
theorem d_ta_add_14 : decode cc_ta_add 14 = .ok (.aload_n 0, 1) := by decide +kernel
theorem d_ta_add_15 : decode cc_ta_add 15 = .ok (.getfield 19, 3) := by decide +kernel
theorem d_ta_add_18 : decode cc_ta_add 18 = .ok (.iload_n 2, 1) := by decide +kernel
theorem d_ta_add_19 : decode cc_ta_add 19 = .ok (.iastore, 1) := by decide +kernel
theorem d_ta_add_20 : decode cc_ta_add 20 = .ok (.aload_n 0, 1) := by decide +kernel
theorem d_ta_add_21 : decode cc_ta_add 21 = .ok (.getfield 16, 3) := by decide +kernel
theorem d_ta_add_24 : decode cc_ta_add 24 = .ok (.aload_n 0, 1) := by decide +kernel
theorem d_ta_add_25 : decode cc_ta_add 25 = .ok (.getfield 19, 3) := by decide +kernel
theorem d_ta_add_28 : decode cc_ta_add 28 = .ok (.iload_n 3, 1) := by decide +kernel
theorem d_ta_add_29 : decode cc_ta_add 29 = .ok (.iastore, 1) := by decide +kernel
theorem d_ta_add_30 : decode cc_ta_add 30 = .ok (.aload_n 0, 1) := by decide +kernel
theorem d_ta_add_31 : decode cc_ta_add 31 = .ok (.dup, 1) := by decide +kernel
theorem d_ta_add_32 : decode cc_ta_add 32 = .ok (.getfield 19, 3) := by decide +kernel
theorem d_ta_add_35 : decode cc_ta_add 35 = .ok (.iconst 1, 1) := by decide +kernel
theorem d_ta_add_36 : decode cc_ta_add 36 = .ok (.iadd, 1) := by decide +kernel
theorem d_ta_add_37 : decode cc_ta_add 37 = .ok (.putfield 19, 3) := by decide +kernel
theorem d_ta_add_40 : decode cc_ta_add 40 = .ok (.return_, 1) := by decide +kernel
abbrev cc_ta_cutTo : ByteArray := prog_5_method_8_code
def yy_ta_cutTo : MethodName := ⟨"SpotContours$Tags", "cutTo", "(I)V"⟩
def ww_ta_cutTo : List Cond := .code yy_ta_cutTo cc_ta_cutTo 2 none :: zz_B
theorem d_ta_cutTo_0 : decode cc_ta_cutTo 0 = .ok (.aload_n 0, 1) := by decide +kernel
theorem d_ta_cutTo_1 : decode cc_ta_cutTo 1 = .ok (.iload_n 1, 1) := by decide +kernel
theorem d_ta_cutTo_2 : decode cc_ta_cutTo 2 = .ok (.putfield 19, 3) := by decide +kernel
theorem d_ta_cutTo_5 : decode cc_ta_cutTo 5 = .ok (.return_, 1) := by decide +kernel
abbrev cc_ta_coversSpot : ByteArray := prog_5_method_9_code
def yy_ta_coversSpot : MethodName := ⟨"SpotContours$Tags", "coversSpot", "(LSpotContours$Spots;II)Z"⟩
def ww_ta_coversSpot : List Cond := .code yy_ta_coversSpot cc_ta_coversSpot 4 (some .boolean) :: zz_B
theorem d_ta_coversSpot_0 : decode cc_ta_coversSpot 0 = .ok (.iconst 0, 1) := by decide +kernel
theorem d_ta_coversSpot_1 : decode cc_ta_coversSpot 1 = .ok (.istore_n 3, 1) := by decide +kernel
theorem d_ta_coversSpot_2 : decode cc_ta_coversSpot 2 = .ok (.iload_n 3, 1) := by decide +kernel
theorem d_ta_coversSpot_3 : decode cc_ta_coversSpot 3 = .ok (.aload_n 0, 1) := by decide +kernel
theorem d_ta_coversSpot_4 : decode cc_ta_coversSpot 4 = .ok (.invokevirtual 23, 3) := by decide +kernel
theorem d_ta_coversSpot_7 : decode cc_ta_coversSpot 7 = .ok (.if_icmp .ge 39, 3) := by decide +kernel
theorem d_ta_coversSpot_10 : decode cc_ta_coversSpot 10 = .ok (.aload_n 0, 1) := by decide +kernel
theorem d_ta_coversSpot_11 : decode cc_ta_coversSpot 11 = .ok (.iload_n 3, 1) := by decide +kernel
theorem d_ta_coversSpot_12 : decode cc_ta_coversSpot 12 = .ok (.invokevirtual 29, 3) := by decide +kernel
theorem d_ta_coversSpot_15 : decode cc_ta_coversSpot 15 = .ok (.iload_n 1, 1) := by decide +kernel
theorem d_ta_coversSpot_16 : decode cc_ta_coversSpot 16 = .ok (.isub, 1) := by decide +kernel
theorem d_ta_coversSpot_17 : decode cc_ta_coversSpot 17 = .ok (.invokestatic 33, 3) := by decide +kernel
theorem d_ta_coversSpot_20 : decode cc_ta_coversSpot 20 = .ok (.iconst 3, 1) := by decide +kernel
theorem d_ta_coversSpot_21 : decode cc_ta_coversSpot 21 = .ok (.if_icmp .gt 19, 3) := by decide +kernel
theorem d_ta_coversSpot_24 : decode cc_ta_coversSpot 24 = .ok (.aload_n 0, 1) := by decide +kernel
theorem d_ta_coversSpot_25 : decode cc_ta_coversSpot 25 = .ok (.iload_n 3, 1) := by decide +kernel
theorem d_ta_coversSpot_26 : decode cc_ta_coversSpot 26 = .ok (.invokevirtual 38, 3) := by decide +kernel
theorem d_ta_coversSpot_29 : decode cc_ta_coversSpot 29 = .ok (.iload_n 2, 1) := by decide +kernel
theorem d_ta_coversSpot_30 : decode cc_ta_coversSpot 30 = .ok (.isub, 1) := by decide +kernel
theorem d_ta_coversSpot_31 : decode cc_ta_coversSpot 31 = .ok (.invokestatic 33, 3) := by decide +kernel
theorem d_ta_coversSpot_34 : decode cc_ta_coversSpot 34 = .ok (.iconst 1, 1) := by decide +kernel
theorem d_ta_coversSpot_35 : decode cc_ta_coversSpot 35 = .ok (.if_icmp .gt 5, 3) := by decide +kernel
theorem d_ta_coversSpot_38 : decode cc_ta_coversSpot 38 = .ok (.iconst 1, 1) := by decide +kernel
theorem d_ta_coversSpot_39 : decode cc_ta_coversSpot 39 = .ok (.ireturn, 1) := by decide +kernel
theorem d_ta_coversSpot_40 : decode cc_ta_coversSpot 40 = .ok (.iinc 3 1, 3) := by decide +kernel
theorem d_ta_coversSpot_43 : decode cc_ta_coversSpot 43 = .ok (.goto (-41), 3) := by decide +kernel
theorem d_ta_coversSpot_46 : decode cc_ta_coversSpot 46 = .ok (.iconst 0, 1) := by decide +kernel
theorem d_ta_coversSpot_47 : decode cc_ta_coversSpot 47 = .ok (.ireturn, 1) := by decide +kernel
abbrev cc_ta_clashesAt : ByteArray := prog_5_method_10_code
def yy_ta_clashesAt : MethodName := ⟨"SpotContours$Tags", "clashesAt", "(II)Z"⟩
def ww_ta_clashesAt : List Cond := .code yy_ta_clashesAt cc_ta_clashesAt 4 (some .boolean) :: zz_B
theorem d_ta_clashesAt_0 : decode cc_ta_clashesAt 0 = .ok (.iconst 0, 1) := by decide +kernel
theorem d_ta_clashesAt_1 : decode cc_ta_clashesAt 1 = .ok (.istore_n 3, 1) := by decide +kernel
theorem d_ta_clashesAt_2 : decode cc_ta_clashesAt 2 = .ok (.iload_n 3, 1) := by decide +kernel
theorem d_ta_clashesAt_3 : decode cc_ta_clashesAt 3 = .ok (.aload_n 0, 1) := by decide +kernel
theorem d_ta_clashesAt_4 : decode cc_ta_clashesAt 4 = .ok (.getfield 19, 3) := by decide +kernel
theorem d_ta_clashesAt_7 : decode cc_ta_clashesAt 7 = .ok (.if_icmp .ge 42, 3) := by decide +kernel
theorem d_ta_clashesAt_10 : decode cc_ta_clashesAt 10 = .ok (.aload_n 0, 1) := by decide +kernel
theorem d_ta_clashesAt_11 : decode cc_ta_clashesAt 11 = .ok (.getfield 13, 3) := by decide +kernel
theorem d_ta_clashesAt_14 : decode cc_ta_clashesAt 14 = .ok (.iload_n 3, 1) := by decide +kernel
theorem d_ta_clashesAt_15 : decode cc_ta_clashesAt 15 = .ok (.iaload, 1) := by decide +kernel
theorem d_ta_clashesAt_16 : decode cc_ta_clashesAt 16 = .ok (.iload_n 1, 1) := by decide +kernel
theorem d_ta_clashesAt_17 : decode cc_ta_clashesAt 17 = .ok (.isub, 1) := by decide +kernel
theorem d_ta_clashesAt_18 : decode cc_ta_clashesAt 18 = .ok (.invokestatic 33, 3) := by decide +kernel
theorem d_ta_clashesAt_21 : decode cc_ta_clashesAt 21 = .ok (.bipush 6, 2) := by decide +kernel
theorem d_ta_clashesAt_23 : decode cc_ta_clashesAt 23 = .ok (.if_icmp .gt 20, 3) := by decide +kernel
theorem d_ta_clashesAt_26 : decode cc_ta_clashesAt 26 = .ok (.aload_n 0, 1) := by decide +kernel
theorem d_ta_clashesAt_27 : decode cc_ta_clashesAt 27 = .ok (.getfield 16, 3) := by decide +kernel
theorem d_ta_clashesAt_30 : decode cc_ta_clashesAt 30 = .ok (.iload_n 3, 1) := by decide +kernel
theorem d_ta_clashesAt_31 : decode cc_ta_clashesAt 31 = .ok (.iaload, 1) := by decide +kernel
theorem d_ta_clashesAt_32 : decode cc_ta_clashesAt 32 = .ok (.iload_n 2, 1) := by decide +kernel
theorem d_ta_clashesAt_33 : decode cc_ta_clashesAt 33 = .ok (.isub, 1) := by decide +kernel
theorem d_ta_clashesAt_34 : decode cc_ta_clashesAt 34 = .ok (.invokestatic 33, 3) := by decide +kernel
theorem d_ta_clashesAt_37 : decode cc_ta_clashesAt 37 = .ok (.iconst 2, 1) := by decide +kernel
theorem d_ta_clashesAt_38 : decode cc_ta_clashesAt 38 = .ok (.if_icmp .gt 5, 3) := by decide +kernel
theorem d_ta_clashesAt_41 : decode cc_ta_clashesAt 41 = .ok (.iconst 1, 1) := by decide +kernel
theorem d_ta_clashesAt_42 : decode cc_ta_clashesAt 42 = .ok (.ireturn, 1) := by decide +kernel
theorem d_ta_clashesAt_43 : decode cc_ta_clashesAt 43 = .ok (.iinc 3 1, 3) := by decide +kernel
theorem d_ta_clashesAt_46 : decode cc_ta_clashesAt 46 = .ok (.goto (-44), 3) := by decide +kernel
theorem d_ta_clashesAt_49 : decode cc_ta_clashesAt 49 = .ok (.iconst 0, 1) := by decide +kernel
theorem d_ta_clashesAt_50 : decode cc_ta_clashesAt 50 = .ok (.ireturn, 1) := by decide +kernel
end
section
/-! Names and decode rows, printed. -/
abbrev cc_mo_thrown : ByteArray := prog_7_method_2_code
def yy_mo_thrown : MethodName := ⟨"SpotContoursModel", "thrown", "()I"⟩
def ww_mo_thrown : List Cond := .code yy_mo_thrown cc_mo_thrown 1 (some .int) :: zz_B
theorem d_mo_thrown_0 : decode cc_mo_thrown 0 = .ok (.aload_n 0, 1) := by decide +kernel
theorem d_mo_thrown_1 : decode cc_mo_thrown 1 = .ok (.getfield 56, 3) := by decide +kernel
theorem d_mo_thrown_4 : decode cc_mo_thrown 4 = .ok (.ireturn, 1) := by decide +kernel
abbrev cc_mo_isSpot : ByteArray := prog_7_method_3_code
def yy_mo_isSpot : MethodName := ⟨"SpotContoursModel", "isSpot", "(I)Z"⟩
def ww_mo_isSpot : List Cond := .code yy_mo_isSpot cc_mo_isSpot 2 (some .boolean) :: zz_B
theorem d_mo_isSpot_0 : decode cc_mo_isSpot 0 = .ok (.iload_n 1, 1) := by decide +kernel
theorem d_mo_isSpot_1 : decode cc_mo_isSpot 1 = .ok (.ifCond .lt 15, 3) := by decide +kernel
theorem d_mo_isSpot_4 : decode cc_mo_isSpot 4 = .ok (.iload_n 1, 1) := by decide +kernel
theorem d_mo_isSpot_5 : decode cc_mo_isSpot 5 = .ok (.aload_n 0, 1) := by decide +kernel
theorem d_mo_isSpot_6 : decode cc_mo_isSpot 6 = .ok (.getfield 60, 3) := by decide +kernel
theorem d_mo_isSpot_9 : decode cc_mo_isSpot 9 = .ok (.if_icmp .ge 7, 3) := by decide +kernel
theorem d_mo_isSpot_12 : decode cc_mo_isSpot 12 = .ok (.iconst 1, 1) := by decide +kernel
theorem d_mo_isSpot_13 : decode cc_mo_isSpot 13 = .ok (.goto 4, 3) := by decide +kernel
theorem d_mo_isSpot_16 : decode cc_mo_isSpot 16 = .ok (.iconst 0, 1) := by decide +kernel
theorem d_mo_isSpot_17 : decode cc_mo_isSpot 17 = .ok (.ireturn, 1) := by decide +kernel
abbrev cc_mo_spot : ByteArray := prog_7_method_4_code
def yy_mo_spot : MethodName := ⟨"SpotContoursModel", "spot", "(III)I"⟩
def ww_mo_spot : List Cond := .code yy_mo_spot cc_mo_spot 6 (some .int) :: zz_B
theorem d_mo_spot_0 : decode cc_mo_spot 0 = .ok (.iload_n 1, 1) := by decide +kernel
theorem d_mo_spot_1 : decode cc_mo_spot 1 = .ok (.ifCond .lt 30, 3) := by decide +kernel
theorem d_mo_spot_4 : decode cc_mo_spot 4 = .ok (.iload_n 1, 1) := by decide +kernel
theorem d_mo_spot_5 : decode cc_mo_spot 5 = .ok (.bipush 63, 2) := by decide +kernel
theorem d_mo_spot_7 : decode cc_mo_spot 7 = .ok (.if_icmp .gt 24, 3) := by decide +kernel
theorem d_mo_spot_10 : decode cc_mo_spot 10 = .ok (.iload_n 2, 1) := by decide +kernel
theorem d_mo_spot_11 : decode cc_mo_spot 11 = .ok (.ifCond .lt 20, 3) := by decide +kernel
theorem d_mo_spot_14 : decode cc_mo_spot 14 = .ok (.iload_n 2, 1) := by decide +kernel
theorem d_mo_spot_15 : decode cc_mo_spot 15 = .ok (.bipush 63, 2) := by decide +kernel
theorem d_mo_spot_17 : decode cc_mo_spot 17 = .ok (.if_icmp .gt 14, 3) := by decide +kernel
theorem d_mo_spot_20 : decode cc_mo_spot 20 = .ok (.iload_n 3, 1) := by decide +kernel
theorem d_mo_spot_21 : decode cc_mo_spot 21 = .ok (.ifCond .lt 10, 3) := by decide +kernel
theorem d_mo_spot_24 : decode cc_mo_spot 24 = .ok (.iload_n 3, 1) := by decide +kernel
theorem d_mo_spot_25 : decode cc_mo_spot 25 = .ok (.sipush 999, 3) := by decide +kernel
theorem d_mo_spot_28 : decode cc_mo_spot 28 = .ok (.if_icmp .le 7, 3) := by decide +kernel
theorem d_mo_spot_31 : decode cc_mo_spot 31 = .ok (.iconst 1, 1) := by decide +kernel
theorem d_mo_spot_32 : decode cc_mo_spot 32 = .ok (.goto 4, 3) := by decide +kernel
theorem d_mo_spot_35 : decode cc_mo_spot 35 = .ok (.iconst 0, 1) := by decide +kernel
theorem d_mo_spot_36 : decode cc_mo_spot 36 = .ok (.istore 4, 2) := by decide +kernel
theorem d_mo_spot_38 : decode cc_mo_spot 38 = .ok (.iconst 0, 1) := by decide +kernel
theorem d_mo_spot_39 : decode cc_mo_spot 39 = .ok (.istore 5, 2) := by decide +kernel
theorem d_mo_spot_41 : decode cc_mo_spot 41 = .ok (.iload 5, 2) := by decide +kernel
theorem d_mo_spot_43 : decode cc_mo_spot 43 = .ok (.aload_n 0, 1) := by decide +kernel
theorem d_mo_spot_44 : decode cc_mo_spot 44 = .ok (.getfield 60, 3) := by decide +kernel
theorem d_mo_spot_47 : decode cc_mo_spot 47 = .ok (.if_icmp .ge 43, 3) := by decide +kernel
theorem d_mo_spot_50 : decode cc_mo_spot 50 = .ok (.iload 4, 2) := by decide +kernel
theorem d_mo_spot_52 : decode cc_mo_spot 52 = .ok (.ifCond .ne 25, 3) := by decide +kernel
theorem d_mo_spot_55 : decode cc_mo_spot 55 = .ok (.aload_n 0, 1) := by decide +kernel
theorem d_mo_spot_56 : decode cc_mo_spot 56 = .ok (.getfield 7, 3) := by decide +kernel
theorem d_mo_spot_59 : decode cc_mo_spot 59 = .ok (.iload 5, 2) := by decide +kernel
theorem d_mo_spot_61 : decode cc_mo_spot 61 = .ok (.iaload, 1) := by decide +kernel
theorem d_mo_spot_62 : decode cc_mo_spot 62 = .ok (.iload_n 1, 1) := by decide +kernel
theorem d_mo_spot_63 : decode cc_mo_spot 63 = .ok (.if_icmp .ne 18, 3) := by decide +kernel
theorem d_mo_spot_66 : decode cc_mo_spot 66 = .ok (.aload_n 0, 1) := by decide +kernel
theorem d_mo_spot_67 : decode cc_mo_spot 67 = .ok (.getfield 13, 3) := by decide +kernel
theorem d_mo_spot_70 : decode cc_mo_spot 70 = .ok (.iload 5, 2) := by decide +kernel
theorem d_mo_spot_72 : decode cc_mo_spot 72 = .ok (.iaload, 1) := by decide +kernel
theorem d_mo_spot_73 : decode cc_mo_spot 73 = .ok (.iload_n 2, 1) := by decide +kernel
theorem d_mo_spot_74 : decode cc_mo_spot 74 = .ok (.if_icmp .ne 7, 3) := by decide +kernel
theorem d_mo_spot_77 : decode cc_mo_spot 77 = .ok (.iconst 1, 1) := by decide +kernel
theorem d_mo_spot_78 : decode cc_mo_spot 78 = .ok (.goto 4, 3) := by decide +kernel
theorem d_mo_spot_81 : decode cc_mo_spot 81 = .ok (.iconst 0, 1) := by decide +kernel
theorem d_mo_spot_82 : decode cc_mo_spot 82 = .ok (.istore 4, 2) := by decide +kernel
theorem d_mo_spot_84 : decode cc_mo_spot 84 = .ok (.iinc 5 1, 3) := by decide +kernel
theorem d_mo_spot_87 : decode cc_mo_spot 87 = .ok (.goto (-46), 3) := by decide +kernel
theorem d_mo_spot_90 : decode cc_mo_spot 90 = .ok (.aload_n 0, 1) := by decide +kernel
theorem d_mo_spot_91 : decode cc_mo_spot 91 = .ok (.iload 4, 2) := by decide +kernel
theorem d_mo_spot_93 : decode cc_mo_spot 93 = .ok (.ifCond .eq 7, 3) := by decide +kernel
theorem d_mo_spot_96 : decode cc_mo_spot 96 = .ok (.iconst 1, 1) := by decide +kernel
theorem d_mo_spot_97 : decode cc_mo_spot 97 = .ok (.goto 17, 3) := by decide +kernel
theorem d_mo_spot_100 : decode cc_mo_spot 100 = .ok (.aload_n 0, 1) := by decide +kernel
theorem d_mo_spot_101 : decode cc_mo_spot 101 = .ok (.getfield 60, 3) := by decide +kernel
theorem d_mo_spot_104 : decode cc_mo_spot 104 = .ok (.bipush 16, 2) := by decide +kernel
theorem d_mo_spot_106 : decode cc_mo_spot 106 = .ok (.if_icmp .ne 7, 3) := by decide +kernel
theorem d_mo_spot_109 : decode cc_mo_spot 109 = .ok (.iconst 2, 1) := by decide +kernel
theorem d_mo_spot_110 : decode cc_mo_spot 110 = .ok (.goto 4, 3) := by decide +kernel
theorem d_mo_spot_113 : decode cc_mo_spot 113 = .ok (.iconst 0, 1) := by decide +kernel
theorem d_mo_spot_114 : decode cc_mo_spot 114 = .ok (.putfield 56, 3) := by decide +kernel
theorem d_mo_spot_117 : decode cc_mo_spot 117 = .ok (.aload_n 0, 1) := by decide +kernel
theorem d_mo_spot_118 : decode cc_mo_spot 118 = .ok (.getfield 56, 3) := by decide +kernel
theorem d_mo_spot_121 : decode cc_mo_spot 121 = .ok (.ifCond .eq 5, 3) := by decide +kernel
theorem d_mo_spot_124 : decode cc_mo_spot 124 = .ok (.iconst 0, 1) := by decide +kernel
theorem d_mo_spot_125 : decode cc_mo_spot 125 = .ok (.ireturn, 1) := by decide +kernel
theorem d_mo_spot_126 : decode cc_mo_spot 126 = .ok (.aload_n 0, 1) := by decide +kernel
theorem d_mo_spot_127 : decode cc_mo_spot 127 = .ok (.getfield 7, 3) := by decide +kernel
theorem d_mo_spot_130 : decode cc_mo_spot 130 = .ok (.aload_n 0, 1) := by decide +kernel
theorem d_mo_spot_131 : decode cc_mo_spot 131 = .ok (.getfield 60, 3) := by decide +kernel
theorem d_mo_spot_134 : decode cc_mo_spot 134 = .ok (.iload_n 1, 1) := by decide +kernel
theorem d_mo_spot_135 : decode cc_mo_spot 135 = .ok (.iastore, 1) := by decide +kernel
theorem d_mo_spot_136 : decode cc_mo_spot 136 = .ok (.aload_n 0, 1) := by decide +kernel
theorem d_mo_spot_137 : decode cc_mo_spot 137 = .ok (.getfield 13, 3) := by decide +kernel
theorem d_mo_spot_140 : decode cc_mo_spot 140 = .ok (.aload_n 0, 1) := by decide +kernel
theorem d_mo_spot_141 : decode cc_mo_spot 141 = .ok (.getfield 60, 3) := by decide +kernel
theorem d_mo_spot_144 : decode cc_mo_spot 144 = .ok (.iload_n 2, 1) := by decide +kernel
theorem d_mo_spot_145 : decode cc_mo_spot 145 = .ok (.iastore, 1) := by decide +kernel
theorem d_mo_spot_146 : decode cc_mo_spot 146 = .ok (.aload_n 0, 1) := by decide +kernel
theorem d_mo_spot_147 : decode cc_mo_spot 147 = .ok (.getfield 16, 3) := by decide +kernel
theorem d_mo_spot_150 : decode cc_mo_spot 150 = .ok (.aload_n 0, 1) := by decide +kernel
theorem d_mo_spot_151 : decode cc_mo_spot 151 = .ok (.getfield 60, 3) := by decide +kernel
theorem d_mo_spot_154 : decode cc_mo_spot 154 = .ok (.iload_n 3, 1) := by decide +kernel
theorem d_mo_spot_155 : decode cc_mo_spot 155 = .ok (.iastore, 1) := by decide +kernel
theorem d_mo_spot_156 : decode cc_mo_spot 156 = .ok (.aload_n 0, 1) := by decide +kernel
theorem d_mo_spot_157 : decode cc_mo_spot 157 = .ok (.dup, 1) := by decide +kernel
theorem d_mo_spot_158 : decode cc_mo_spot 158 = .ok (.getfield 60, 3) := by decide +kernel
theorem d_mo_spot_161 : decode cc_mo_spot 161 = .ok (.iconst 1, 1) := by decide +kernel
theorem d_mo_spot_162 : decode cc_mo_spot 162 = .ok (.iadd, 1) := by decide +kernel
theorem d_mo_spot_163 : decode cc_mo_spot 163 = .ok (.putfield 60, 3) := by decide +kernel
theorem d_mo_spot_166 : decode cc_mo_spot 166 = .ok (.aload_n 0, 1) := by decide +kernel
theorem d_mo_spot_167 : decode cc_mo_spot 167 = .ok (.iconst 0, 1) := by decide +kernel
theorem d_mo_spot_168 : decode cc_mo_spot 168 = .ok (.putfield 63, 3) := by decide +kernel
theorem d_mo_spot_171 : decode cc_mo_spot 171 = .ok (.aload_n 0, 1) := by decide +kernel
theorem d_mo_spot_172 : decode cc_mo_spot 172 = .ok (.invokevirtual 66, 3) := by decide +kernel
theorem d_mo_spot_175 : decode cc_mo_spot 175 = .ok (.aload_n 0, 1) := by decide +kernel
theorem d_mo_spot_176 : decode cc_mo_spot 176 = .ok (.getfield 60, 3) := by decide +kernel
theorem d_mo_spot_179 : decode cc_mo_spot 179 = .ok (.iconst 1, 1) := by decide +kernel
theorem d_mo_spot_180 : decode cc_mo_spot 180 = .ok (.isub, 1) := by decide +kernel
theorem d_mo_spot_181 : decode cc_mo_spot 181 = .ok (.ireturn, 1) := by decide +kernel
abbrev cc_mo_raise : ByteArray := prog_7_method_5_code
def yy_mo_raise : MethodName := ⟨"SpotContoursModel", "raise", "(II)I"⟩
def ww_mo_raise : List Cond := .code yy_mo_raise cc_mo_raise 4 (some .int) :: zz_B
theorem d_mo_raise_0 : decode cc_mo_raise 0 = .ok (.aload_n 0, 1) := by decide +kernel
theorem d_mo_raise_1 : decode cc_mo_raise 1 = .ok (.aload_n 0, 1) := by decide +kernel
theorem d_mo_raise_2 : decode cc_mo_raise 2 = .ok (.iload_n 1, 1) := by decide +kernel
theorem d_mo_raise_3 : decode cc_mo_raise 3 = .ok (.invokevirtual 69, 3) := by decide +kernel
theorem d_mo_raise_6 : decode cc_mo_raise 6 = .ok (.ifCond .ne 7, 3) := by decide +kernel
theorem d_mo_raise_9 : decode cc_mo_raise 9 = .ok (.iconst 1, 1) := by decide +kernel
theorem d_mo_raise_10 : decode cc_mo_raise 10 = .ok (.goto 19, 3) := by decide +kernel
theorem d_mo_raise_13 : decode cc_mo_raise 13 = .ok (.iload_n 2, 1) := by decide +kernel
theorem d_mo_raise_14 : decode cc_mo_raise 14 = .ok (.ifCond .lt 10, 3) := by decide +kernel
theorem d_mo_raise_17 : decode cc_mo_raise 17 = .ok (.iload_n 2, 1) := by decide +kernel
theorem d_mo_raise_18 : decode cc_mo_raise 18 = .ok (.sipush 999, 3) := by decide +kernel
theorem d_mo_raise_21 : decode cc_mo_raise 21 = .ok (.if_icmp .le 7, 3) := by decide +kernel
theorem d_mo_raise_24 : decode cc_mo_raise 24 = .ok (.iconst 2, 1) := by decide +kernel
theorem d_mo_raise_25 : decode cc_mo_raise 25 = .ok (.goto 4, 3) := by decide +kernel
theorem d_mo_raise_28 : decode cc_mo_raise 28 = .ok (.iconst 0, 1) := by decide +kernel
theorem d_mo_raise_29 : decode cc_mo_raise 29 = .ok (.putfield 56, 3) := by decide +kernel
theorem d_mo_raise_32 : decode cc_mo_raise 32 = .ok (.aload_n 0, 1) := by decide +kernel
theorem d_mo_raise_33 : decode cc_mo_raise 33 = .ok (.getfield 56, 3) := by decide +kernel
theorem d_mo_raise_36 : decode cc_mo_raise 36 = .ok (.ifCond .eq 5, 3) := by decide +kernel
theorem d_mo_raise_39 : decode cc_mo_raise 39 = .ok (.iconst 0, 1) := by decide +kernel
theorem d_mo_raise_40 : decode cc_mo_raise 40 = .ok (.ireturn, 1) := by decide +kernel
theorem d_mo_raise_41 : decode cc_mo_raise 41 = .ok (.aload_n 0, 1) := by decide +kernel
theorem d_mo_raise_42 : decode cc_mo_raise 42 = .ok (.getfield 16, 3) := by decide +kernel
theorem d_mo_raise_45 : decode cc_mo_raise 45 = .ok (.iload_n 1, 1) := by decide +kernel
theorem d_mo_raise_46 : decode cc_mo_raise 46 = .ok (.iaload, 1) := by decide +kernel
theorem d_mo_raise_47 : decode cc_mo_raise 47 = .ok (.istore_n 3, 1) := by decide +kernel
theorem d_mo_raise_48 : decode cc_mo_raise 48 = .ok (.aload_n 0, 1) := by decide +kernel
theorem d_mo_raise_49 : decode cc_mo_raise 49 = .ok (.getfield 16, 3) := by decide +kernel
theorem d_mo_raise_52 : decode cc_mo_raise 52 = .ok (.iload_n 1, 1) := by decide +kernel
theorem d_mo_raise_53 : decode cc_mo_raise 53 = .ok (.iload_n 2, 1) := by decide +kernel
theorem d_mo_raise_54 : decode cc_mo_raise 54 = .ok (.iastore, 1) := by decide +kernel
theorem d_mo_raise_55 : decode cc_mo_raise 55 = .ok (.aload_n 0, 1) := by decide +kernel
theorem d_mo_raise_56 : decode cc_mo_raise 56 = .ok (.iconst 0, 1) := by decide +kernel
theorem d_mo_raise_57 : decode cc_mo_raise 57 = .ok (.putfield 63, 3) := by decide +kernel
theorem d_mo_raise_60 : decode cc_mo_raise 60 = .ok (.iload_n 3, 1) := by decide +kernel
theorem d_mo_raise_61 : decode cc_mo_raise 61 = .ok (.ireturn, 1) := by decide +kernel
abbrev cc_mo_turn : ByteArray := prog_7_method_6_code
def yy_mo_turn : MethodName := ⟨"SpotContoursModel", "turn", "(III)I"⟩
def ww_mo_turn : List Cond := .code yy_mo_turn cc_mo_turn 4 (some .int) :: zz_B
theorem d_mo_turn_0 : decode cc_mo_turn 0 = .ok (.aload_n 0, 1) := by decide +kernel
theorem d_mo_turn_1 : decode cc_mo_turn 1 = .ok (.getfield 7, 3) := by decide +kernel
theorem d_mo_turn_4 : decode cc_mo_turn 4 = .ok (.iload_n 2, 1) := by decide +kernel
theorem d_mo_turn_5 : decode cc_mo_turn 5 = .ok (.iaload, 1) := by decide +kernel
theorem d_mo_turn_6 : decode cc_mo_turn 6 = .ok (.aload_n 0, 1) := by decide +kernel
theorem d_mo_turn_7 : decode cc_mo_turn 7 = .ok (.getfield 7, 3) := by decide +kernel
theorem d_mo_turn_10 : decode cc_mo_turn 10 = .ok (.iload_n 1, 1) := by decide +kernel
theorem d_mo_turn_11 : decode cc_mo_turn 11 = .ok (.iaload, 1) := by decide +kernel
theorem d_mo_turn_12 : decode cc_mo_turn 12 = .ok (.isub, 1) := by decide +kernel
theorem d_mo_turn_13 : decode cc_mo_turn 13 = .ok (.aload_n 0, 1) := by decide +kernel
theorem d_mo_turn_14 : decode cc_mo_turn 14 = .ok (.getfield 13, 3) := by decide +kernel
theorem d_mo_turn_17 : decode cc_mo_turn 17 = .ok (.iload_n 3, 1) := by decide +kernel
theorem d_mo_turn_18 : decode cc_mo_turn 18 = .ok (.iaload, 1) := by decide +kernel
theorem d_mo_turn_19 : decode cc_mo_turn 19 = .ok (.aload_n 0, 1) := by decide +kernel
theorem d_mo_turn_20 : decode cc_mo_turn 20 = .ok (.getfield 13, 3) := by decide +kernel
theorem d_mo_turn_23 : decode cc_mo_turn 23 = .ok (.iload_n 1, 1) := by decide +kernel
theorem d_mo_turn_24 : decode cc_mo_turn 24 = .ok (.iaload, 1) := by decide +kernel
theorem d_mo_turn_25 : decode cc_mo_turn 25 = .ok (.isub, 1) := by decide +kernel
theorem d_mo_turn_26 : decode cc_mo_turn 26 = .ok (.imul, 1) := by decide +kernel
theorem d_mo_turn_27 : decode cc_mo_turn 27 = .ok (.aload_n 0, 1) := by decide +kernel
theorem d_mo_turn_28 : decode cc_mo_turn 28 = .ok (.getfield 13, 3) := by decide +kernel
theorem d_mo_turn_31 : decode cc_mo_turn 31 = .ok (.iload_n 2, 1) := by decide +kernel
theorem d_mo_turn_32 : decode cc_mo_turn 32 = .ok (.iaload, 1) := by decide +kernel
theorem d_mo_turn_33 : decode cc_mo_turn 33 = .ok (.aload_n 0, 1) := by decide +kernel
theorem d_mo_turn_34 : decode cc_mo_turn 34 = .ok (.getfield 13, 3) := by decide +kernel
theorem d_mo_turn_37 : decode cc_mo_turn 37 = .ok (.iload_n 1, 1) := by decide +kernel
theorem d_mo_turn_38 : decode cc_mo_turn 38 = .ok (.iaload, 1) := by decide +kernel
theorem d_mo_turn_39 : decode cc_mo_turn 39 = .ok (.isub, 1) := by decide +kernel
theorem d_mo_turn_40 : decode cc_mo_turn 40 = .ok (.aload_n 0, 1) := by decide +kernel
theorem d_mo_turn_41 : decode cc_mo_turn 41 = .ok (.getfield 7, 3) := by decide +kernel
theorem d_mo_turn_44 : decode cc_mo_turn 44 = .ok (.iload_n 3, 1) := by decide +kernel
theorem d_mo_turn_45 : decode cc_mo_turn 45 = .ok (.iaload, 1) := by decide +kernel
theorem d_mo_turn_46 : decode cc_mo_turn 46 = .ok (.aload_n 0, 1) := by decide +kernel
theorem d_mo_turn_47 : decode cc_mo_turn 47 = .ok (.getfield 7, 3) := by decide +kernel
theorem d_mo_turn_50 : decode cc_mo_turn 50 = .ok (.iload_n 1, 1) := by decide +kernel
theorem d_mo_turn_51 : decode cc_mo_turn 51 = .ok (.iaload, 1) := by decide +kernel
theorem d_mo_turn_52 : decode cc_mo_turn 52 = .ok (.isub, 1) := by decide +kernel
theorem d_mo_turn_53 : decode cc_mo_turn 53 = .ok (.imul, 1) := by decide +kernel
theorem d_mo_turn_54 : decode cc_mo_turn 54 = .ok (.isub, 1) := by decide +kernel
theorem d_mo_turn_55 : decode cc_mo_turn 55 = .ok (.ireturn, 1) := by decide +kernel
abbrev cc_mo_square : ByteArray := prog_7_method_7_code
def yy_mo_square : MethodName := ⟨"SpotContoursModel", "square", "(II)J"⟩
def ww_mo_square : List Cond := .code yy_mo_square cc_mo_square 3 (some .long) :: zz_B
theorem d_mo_square_0 : decode cc_mo_square 0 = .ok (.aload_n 0, 1) := by decide +kernel
theorem d_mo_square_1 : decode cc_mo_square 1 = .ok (.getfield 7, 3) := by decide +kernel
theorem d_mo_square_4 : decode cc_mo_square 4 = .ok (.iload_n 1, 1) := by decide +kernel
theorem d_mo_square_5 : decode cc_mo_square 5 = .ok (.iaload, 1) := by decide +kernel
theorem d_mo_square_6 : decode cc_mo_square 6 = .ok (.aload_n 0, 1) := by decide +kernel
theorem d_mo_square_7 : decode cc_mo_square 7 = .ok (.getfield 7, 3) := by decide +kernel
theorem d_mo_square_10 : decode cc_mo_square 10 = .ok (.iload_n 2, 1) := by decide +kernel
theorem d_mo_square_11 : decode cc_mo_square 11 = .ok (.iaload, 1) := by decide +kernel
theorem d_mo_square_12 : decode cc_mo_square 12 = .ok (.isub, 1) := by decide +kernel
theorem d_mo_square_13 : decode cc_mo_square 13 = .ok (.i2l, 1) := by decide +kernel
theorem d_mo_square_14 : decode cc_mo_square 14 = .ok (.aload_n 0, 1) := by decide +kernel
theorem d_mo_square_15 : decode cc_mo_square 15 = .ok (.getfield 7, 3) := by decide +kernel
theorem d_mo_square_18 : decode cc_mo_square 18 = .ok (.iload_n 1, 1) := by decide +kernel
theorem d_mo_square_19 : decode cc_mo_square 19 = .ok (.iaload, 1) := by decide +kernel
theorem d_mo_square_20 : decode cc_mo_square 20 = .ok (.aload_n 0, 1) := by decide +kernel
theorem d_mo_square_21 : decode cc_mo_square 21 = .ok (.getfield 7, 3) := by decide +kernel
theorem d_mo_square_24 : decode cc_mo_square 24 = .ok (.iload_n 2, 1) := by decide +kernel
theorem d_mo_square_25 : decode cc_mo_square 25 = .ok (.iaload, 1) := by decide +kernel
theorem d_mo_square_26 : decode cc_mo_square 26 = .ok (.isub, 1) := by decide +kernel
theorem d_mo_square_27 : decode cc_mo_square 27 = .ok (.i2l, 1) := by decide +kernel
theorem d_mo_square_28 : decode cc_mo_square 28 = .ok (.lmul, 1) := by decide +kernel
theorem d_mo_square_29 : decode cc_mo_square 29 = .ok (.aload_n 0, 1) := by decide +kernel
theorem d_mo_square_30 : decode cc_mo_square 30 = .ok (.getfield 13, 3) := by decide +kernel
theorem d_mo_square_33 : decode cc_mo_square 33 = .ok (.iload_n 1, 1) := by decide +kernel
theorem d_mo_square_34 : decode cc_mo_square 34 = .ok (.iaload, 1) := by decide +kernel
theorem d_mo_square_35 : decode cc_mo_square 35 = .ok (.aload_n 0, 1) := by decide +kernel
theorem d_mo_square_36 : decode cc_mo_square 36 = .ok (.getfield 13, 3) := by decide +kernel
theorem d_mo_square_39 : decode cc_mo_square 39 = .ok (.iload_n 2, 1) := by decide +kernel
theorem d_mo_square_40 : decode cc_mo_square 40 = .ok (.iaload, 1) := by decide +kernel
theorem d_mo_square_41 : decode cc_mo_square 41 = .ok (.isub, 1) := by decide +kernel
theorem d_mo_square_42 : decode cc_mo_square 42 = .ok (.i2l, 1) := by decide +kernel
theorem d_mo_square_43 : decode cc_mo_square 43 = .ok (.aload_n 0, 1) := by decide +kernel
theorem d_mo_square_44 : decode cc_mo_square 44 = .ok (.getfield 13, 3) := by decide +kernel
theorem d_mo_square_47 : decode cc_mo_square 47 = .ok (.iload_n 1, 1) := by decide +kernel
theorem d_mo_square_48 : decode cc_mo_square 48 = .ok (.iaload, 1) := by decide +kernel
theorem d_mo_square_49 : decode cc_mo_square 49 = .ok (.aload_n 0, 1) := by decide +kernel
theorem d_mo_square_50 : decode cc_mo_square 50 = .ok (.getfield 13, 3) := by decide +kernel
theorem d_mo_square_53 : decode cc_mo_square 53 = .ok (.iload_n 2, 1) := by decide +kernel
theorem d_mo_square_54 : decode cc_mo_square 54 = .ok (.iaload, 1) := by decide +kernel
theorem d_mo_square_55 : decode cc_mo_square 55 = .ok (.isub, 1) := by decide +kernel
theorem d_mo_square_56 : decode cc_mo_square 56 = .ok (.i2l, 1) := by decide +kernel
theorem d_mo_square_57 : decode cc_mo_square 57 = .ok (.lmul, 1) := by decide +kernel
theorem d_mo_square_58 : decode cc_mo_square 58 = .ok (.ladd, 1) := by decide +kernel
theorem d_mo_square_59 : decode cc_mo_square 59 = .ok (.lreturn, 1) := by decide +kernel
abbrev cc_mo_inside : ByteArray := prog_7_method_8_code
def yy_mo_inside : MethodName := ⟨"SpotContoursModel", "inside", "(IIII)J"⟩
def ww_mo_inside : List Cond := .code yy_mo_inside cc_mo_inside 7 (some .long) :: zz_B
theorem d_mo_inside_0 : decode cc_mo_inside 0 = .ok (.aload_n 0, 1) := by decide +kernel
theorem d_mo_inside_1 : decode cc_mo_inside 1 = .ok (.iload_n 1, 1) := by decide +kernel
theorem d_mo_inside_2 : decode cc_mo_inside 2 = .ok (.iload 4, 2) := by decide +kernel
theorem d_mo_inside_4 : decode cc_mo_inside 4 = .ok (.invokevirtual 73, 3) := by decide +kernel
theorem d_mo_inside_7 : decode cc_mo_inside 7 = .ok (.aload_n 0, 1) := by decide +kernel
theorem d_mo_inside_8 : decode cc_mo_inside 8 = .ok (.iload 4, 2) := by decide +kernel
theorem d_mo_inside_10 : decode cc_mo_inside 10 = .ok (.iload_n 2, 1) := by decide +kernel
theorem d_mo_inside_11 : decode cc_mo_inside 11 = .ok (.iload_n 3, 1) := by decide +kernel
theorem d_mo_inside_12 : decode cc_mo_inside 12 = .ok (.invokevirtual 77, 3) := by decide +kernel
theorem d_mo_inside_15 : decode cc_mo_inside 15 = .ok (.i2l, 1) := by decide +kernel
theorem d_mo_inside_16 : decode cc_mo_inside 16 = .ok (.lmul, 1) := by decide +kernel
theorem d_mo_inside_17 : decode cc_mo_inside 17 = .ok (.aload_n 0, 1) := by decide +kernel
theorem d_mo_inside_18 : decode cc_mo_inside 18 = .ok (.iload_n 2, 1) := by decide +kernel
theorem d_mo_inside_19 : decode cc_mo_inside 19 = .ok (.iload 4, 2) := by decide +kernel
theorem d_mo_inside_21 : decode cc_mo_inside 21 = .ok (.invokevirtual 73, 3) := by decide +kernel
theorem d_mo_inside_24 : decode cc_mo_inside 24 = .ok (.aload_n 0, 1) := by decide +kernel
theorem d_mo_inside_25 : decode cc_mo_inside 25 = .ok (.iload 4, 2) := by decide +kernel
theorem d_mo_inside_27 : decode cc_mo_inside 27 = .ok (.iload_n 3, 1) := by decide +kernel
theorem d_mo_inside_28 : decode cc_mo_inside 28 = .ok (.iload_n 1, 1) := by decide +kernel
theorem d_mo_inside_29 : decode cc_mo_inside 29 = .ok (.invokevirtual 77, 3) := by decide +kernel
theorem d_mo_inside_32 : decode cc_mo_inside 32 = .ok (.i2l, 1) := by decide +kernel
theorem d_mo_inside_33 : decode cc_mo_inside 33 = .ok (.lmul, 1) := by decide +kernel
theorem d_mo_inside_34 : decode cc_mo_inside 34 = .ok (.ladd, 1) := by decide +kernel
theorem d_mo_inside_35 : decode cc_mo_inside 35 = .ok (.aload_n 0, 1) := by decide +kernel
theorem d_mo_inside_36 : decode cc_mo_inside 36 = .ok (.iload_n 3, 1) := by decide +kernel
theorem d_mo_inside_37 : decode cc_mo_inside 37 = .ok (.iload 4, 2) := by decide +kernel
theorem d_mo_inside_39 : decode cc_mo_inside 39 = .ok (.invokevirtual 73, 3) := by decide +kernel
theorem d_mo_inside_42 : decode cc_mo_inside 42 = .ok (.aload_n 0, 1) := by decide +kernel
theorem d_mo_inside_43 : decode cc_mo_inside 43 = .ok (.iload 4, 2) := by decide +kernel
theorem d_mo_inside_45 : decode cc_mo_inside 45 = .ok (.iload_n 1, 1) := by decide +kernel
theorem d_mo_inside_46 : decode cc_mo_inside 46 = .ok (.iload_n 2, 1) := by decide +kernel
theorem d_mo_inside_47 : decode cc_mo_inside 47 = .ok (.invokevirtual 77, 3) := by decide +kernel
theorem d_mo_inside_50 : decode cc_mo_inside 50 = .ok (.i2l, 1) := by decide +kernel
theorem d_mo_inside_51 : decode cc_mo_inside 51 = .ok (.lmul, 1) := by decide +kernel
theorem d_mo_inside_52 : decode cc_mo_inside 52 = .ok (.ladd, 1) := by decide +kernel
theorem d_mo_inside_53 : decode cc_mo_inside 53 = .ok (.lstore 5, 2) := by decide +kernel
theorem d_mo_inside_55 : decode cc_mo_inside 55 = .ok (.aload_n 0, 1) := by decide +kernel
theorem d_mo_inside_56 : decode cc_mo_inside 56 = .ok (.iload_n 1, 1) := by decide +kernel
theorem d_mo_inside_57 : decode cc_mo_inside 57 = .ok (.iload_n 2, 1) := by decide +kernel
theorem d_mo_inside_58 : decode cc_mo_inside 58 = .ok (.iload_n 3, 1) := by decide +kernel
theorem d_mo_inside_59 : decode cc_mo_inside 59 = .ok (.invokevirtual 77, 3) := by decide +kernel
theorem d_mo_inside_62 : decode cc_mo_inside 62 = .ok (.ifCond .le 8, 3) := by decide +kernel
theorem d_mo_inside_65 : decode cc_mo_inside 65 = .ok (.lload 5, 2) := by decide +kernel
theorem d_mo_inside_67 : decode cc_mo_inside 67 = .ok (.goto 6, 3) := by decide +kernel
theorem d_mo_inside_70 : decode cc_mo_inside 70 = .ok (.lload 5, 2) := by decide +kernel
theorem d_mo_inside_72 : decode cc_mo_inside 72 = .ok (.lneg, 1) := by decide +kernel
theorem d_mo_inside_73 : decode cc_mo_inside 73 = .ok (.lreturn, 1) := by decide +kernel
abbrev cc_mo_parts : ByteArray := prog_7_method_9_code
def yy_mo_parts : MethodName := ⟨"SpotContoursModel", "parts", "(IIII)Z"⟩
def ww_mo_parts : List Cond := .code yy_mo_parts cc_mo_parts 5 (some .boolean) :: zz_B
theorem d_mo_parts_0 : decode cc_mo_parts 0 = .ok (.aload_n 0, 1) := by decide +kernel
theorem d_mo_parts_1 : decode cc_mo_parts 1 = .ok (.iload_n 1, 1) := by decide +kernel
theorem d_mo_parts_2 : decode cc_mo_parts 2 = .ok (.iload_n 2, 1) := by decide +kernel
theorem d_mo_parts_3 : decode cc_mo_parts 3 = .ok (.iload_n 3, 1) := by decide +kernel
theorem d_mo_parts_4 : decode cc_mo_parts 4 = .ok (.invokevirtual 77, 3) := by decide +kernel
theorem d_mo_parts_7 : decode cc_mo_parts 7 = .ok (.ifCond .le 7, 3) := by decide +kernel
theorem d_mo_parts_10 : decode cc_mo_parts 10 = .ok (.iconst 1, 1) := by decide +kernel
theorem d_mo_parts_11 : decode cc_mo_parts 11 = .ok (.goto 4, 3) := by decide +kernel
theorem d_mo_parts_14 : decode cc_mo_parts 14 = .ok (.iconst 0, 1) := by decide +kernel
theorem d_mo_parts_15 : decode cc_mo_parts 15 = .ok (.aload_n 0, 1) := by decide +kernel
theorem d_mo_parts_16 : decode cc_mo_parts 16 = .ok (.iload_n 1, 1) := by decide +kernel
theorem d_mo_parts_17 : decode cc_mo_parts 17 = .ok (.iload_n 2, 1) := by decide +kernel
theorem d_mo_parts_18 : decode cc_mo_parts 18 = .ok (.iload 4, 2) := by decide +kernel
theorem d_mo_parts_20 : decode cc_mo_parts 20 = .ok (.invokevirtual 77, 3) := by decide +kernel
theorem d_mo_parts_23 : decode cc_mo_parts 23 = .ok (.ifCond .le 7, 3) := by decide +kernel
theorem d_mo_parts_26 : decode cc_mo_parts 26 = .ok (.iconst 1, 1) := by decide +kernel
theorem d_mo_parts_27 : decode cc_mo_parts 27 = .ok (.goto 4, 3) := by decide +kernel
theorem d_mo_parts_30 : decode cc_mo_parts 30 = .ok (.iconst 0, 1) := by decide +kernel
theorem d_mo_parts_31 : decode cc_mo_parts 31 = .ok (.if_icmp .eq 7, 3) := by decide +kernel
theorem d_mo_parts_34 : decode cc_mo_parts 34 = .ok (.iconst 1, 1) := by decide +kernel
theorem d_mo_parts_35 : decode cc_mo_parts 35 = .ok (.goto 4, 3) := by decide +kernel
theorem d_mo_parts_38 : decode cc_mo_parts 38 = .ok (.iconst 0, 1) := by decide +kernel
theorem d_mo_parts_39 : decode cc_mo_parts 39 = .ok (.ireturn, 1) := by decide +kernel
abbrev cc_mo_isIn : ByteArray := prog_7_method_10_code
def yy_mo_isIn : MethodName := ⟨"SpotContoursModel", "isIn", "(IIII)Z"⟩
def ww_mo_isIn : List Cond := .code yy_mo_isIn cc_mo_isIn 9 (some .boolean) :: zz_B
theorem d_mo_isIn_0 : decode cc_mo_isIn 0 = .ok (.aload_n 0, 1) := by decide +kernel
theorem d_mo_isIn_1 : decode cc_mo_isIn 1 = .ok (.iload_n 1, 1) := by decide +kernel
theorem d_mo_isIn_2 : decode cc_mo_isIn 2 = .ok (.iload_n 2, 1) := by decide +kernel
theorem d_mo_isIn_3 : decode cc_mo_isIn 3 = .ok (.iload_n 3, 1) := by decide +kernel
theorem d_mo_isIn_4 : decode cc_mo_isIn 4 = .ok (.iload 4, 2) := by decide +kernel
theorem d_mo_isIn_6 : decode cc_mo_isIn 6 = .ok (.invokevirtual 81, 3) := by decide +kernel
theorem d_mo_isIn_9 : decode cc_mo_isIn 9 = .ok (.lstore 5, 2) := by decide +kernel
theorem d_mo_isIn_11 : decode cc_mo_isIn 11 = .ok (.lload 5, 2) := by decide +kernel
theorem d_mo_isIn_13 : decode cc_mo_isIn 13 = .ok (.lconst 0, 1) := by decide +kernel
theorem d_mo_isIn_14 : decode cc_mo_isIn 14 = .ok (.lcmp, 1) := by decide +kernel
theorem d_mo_isIn_15 : decode cc_mo_isIn 15 = .ok (.ifCond .eq 16, 3) := by decide +kernel
theorem d_mo_isIn_18 : decode cc_mo_isIn 18 = .ok (.lload 5, 2) := by decide +kernel
theorem d_mo_isIn_20 : decode cc_mo_isIn 20 = .ok (.lconst 0, 1) := by decide +kernel
theorem d_mo_isIn_21 : decode cc_mo_isIn 21 = .ok (.lcmp, 1) := by decide +kernel
theorem d_mo_isIn_22 : decode cc_mo_isIn 22 = .ok (.ifCond .le 7, 3) := by decide +kernel
theorem d_mo_isIn_25 : decode cc_mo_isIn 25 = .ok (.iconst 1, 1) := by decide +kernel
theorem d_mo_isIn_26 : decode cc_mo_isIn 26 = .ok (.goto 4, 3) := by decide +kernel
theorem d_mo_isIn_29 : decode cc_mo_isIn 29 = .ok (.iconst 0, 1) := by decide +kernel
theorem d_mo_isIn_30 : decode cc_mo_isIn 30 = .ok (.ireturn, 1) := by decide +kernel
theorem d_mo_isIn_31 : decode cc_mo_isIn 31 = .ok (.aload_n 0, 1) := by decide +kernel
theorem d_mo_isIn_32 : decode cc_mo_isIn 32 = .ok (.iload 4, 2) := by decide +kernel
theorem d_mo_isIn_34 : decode cc_mo_isIn 34 = .ok (.iload_n 1, 1) := by decide +kernel
theorem d_mo_isIn_35 : decode cc_mo_isIn 35 = .ok (.iload_n 2, 1) := by decide +kernel
theorem d_mo_isIn_36 : decode cc_mo_isIn 36 = .ok (.iload_n 3, 1) := by decide +kernel
theorem d_mo_isIn_37 : decode cc_mo_isIn 37 = .ok (.invokevirtual 85, 3) := by decide +kernel
theorem d_mo_isIn_40 : decode cc_mo_isIn 40 = .ok (.ifCond .eq 7, 3) := by decide +kernel
theorem d_mo_isIn_43 : decode cc_mo_isIn 43 = .ok (.iload_n 1, 1) := by decide +kernel
theorem d_mo_isIn_44 : decode cc_mo_isIn 44 = .ok (.goto 20, 3) := by decide +kernel
theorem d_mo_isIn_47 : decode cc_mo_isIn 47 = .ok (.aload_n 0, 1) := by decide +kernel
theorem d_mo_isIn_48 : decode cc_mo_isIn 48 = .ok (.iload 4, 2) := by decide +kernel
theorem d_mo_isIn_50 : decode cc_mo_isIn 50 = .ok (.iload_n 2, 1) := by decide +kernel
theorem d_mo_isIn_51 : decode cc_mo_isIn 51 = .ok (.iload_n 1, 1) := by decide +kernel
theorem d_mo_isIn_52 : decode cc_mo_isIn 52 = .ok (.iload_n 3, 1) := by decide +kernel
theorem d_mo_isIn_53 : decode cc_mo_isIn 53 = .ok (.invokevirtual 85, 3) := by decide +kernel
theorem d_mo_isIn_56 : decode cc_mo_isIn 56 = .ok (.ifCond .eq 7, 3) := by decide +kernel
theorem d_mo_isIn_59 : decode cc_mo_isIn 59 = .ok (.iload_n 2, 1) := by decide +kernel
theorem d_mo_isIn_60 : decode cc_mo_isIn 60 = .ok (.goto 4, 3) := by decide +kernel
theorem d_mo_isIn_63 : decode cc_mo_isIn 63 = .ok (.iload_n 3, 1) := by decide +kernel
theorem d_mo_isIn_64 : decode cc_mo_isIn 64 = .ok (.istore 7, 2) := by decide +kernel
theorem d_mo_isIn_66 : decode cc_mo_isIn 66 = .ok (.iload_n 1, 1) := by decide +kernel
theorem d_mo_isIn_67 : decode cc_mo_isIn 67 = .ok (.iload_n 2, 1) := by decide +kernel
theorem d_mo_isIn_68 : decode cc_mo_isIn 68 = .ok (.if_icmp .ge 7, 3) := by decide +kernel
theorem d_mo_isIn_71 : decode cc_mo_isIn 71 = .ok (.iload_n 1, 1) := by decide +kernel
theorem d_mo_isIn_72 : decode cc_mo_isIn 72 = .ok (.goto 4, 3) := by decide +kernel
theorem d_mo_isIn_75 : decode cc_mo_isIn 75 = .ok (.iload_n 2, 1) := by decide +kernel
theorem d_mo_isIn_76 : decode cc_mo_isIn 76 = .ok (.istore 8, 2) := by decide +kernel
theorem d_mo_isIn_78 : decode cc_mo_isIn 78 = .ok (.iload_n 3, 1) := by decide +kernel
theorem d_mo_isIn_79 : decode cc_mo_isIn 79 = .ok (.iload 8, 2) := by decide +kernel
theorem d_mo_isIn_81 : decode cc_mo_isIn 81 = .ok (.if_icmp .ge 7, 3) := by decide +kernel
theorem d_mo_isIn_84 : decode cc_mo_isIn 84 = .ok (.iload_n 3, 1) := by decide +kernel
theorem d_mo_isIn_85 : decode cc_mo_isIn 85 = .ok (.goto 5, 3) := by decide +kernel
theorem d_mo_isIn_88 : decode cc_mo_isIn 88 = .ok (.iload 8, 2) := by decide +kernel
theorem d_mo_isIn_90 : decode cc_mo_isIn 90 = .ok (.istore 8, 2) := by decide +kernel
theorem d_mo_isIn_92 : decode cc_mo_isIn 92 = .ok (.iload 4, 2) := by decide +kernel
theorem d_mo_isIn_94 : decode cc_mo_isIn 94 = .ok (.iload 8, 2) := by decide +kernel
theorem d_mo_isIn_96 : decode cc_mo_isIn 96 = .ok (.if_icmp .ge 8, 3) := by decide +kernel
theorem d_mo_isIn_99 : decode cc_mo_isIn 99 = .ok (.iload 4, 2) := by decide +kernel
theorem d_mo_isIn_101 : decode cc_mo_isIn 101 = .ok (.goto 5, 3) := by decide +kernel
theorem d_mo_isIn_104 : decode cc_mo_isIn 104 = .ok (.iload 8, 2) := by decide +kernel
theorem d_mo_isIn_106 : decode cc_mo_isIn 106 = .ok (.istore 8, 2) := by decide +kernel
theorem d_mo_isIn_108 : decode cc_mo_isIn 108 = .ok (.iload 8, 2) := by decide +kernel
theorem d_mo_isIn_110 : decode cc_mo_isIn 110 = .ok (.iload 4, 2) := by decide +kernel
theorem d_mo_isIn_112 : decode cc_mo_isIn 112 = .ok (.if_icmp .eq 14, 3) := by decide +kernel
theorem d_mo_isIn_115 : decode cc_mo_isIn 115 = .ok (.iload 8, 2) := by decide +kernel
theorem d_mo_isIn_117 : decode cc_mo_isIn 117 = .ok (.iload 7, 2) := by decide +kernel
theorem d_mo_isIn_119 : decode cc_mo_isIn 119 = .ok (.if_icmp .eq 7, 3) := by decide +kernel
theorem d_mo_isIn_122 : decode cc_mo_isIn 122 = .ok (.iconst 1, 1) := by decide +kernel
theorem d_mo_isIn_123 : decode cc_mo_isIn 123 = .ok (.goto 4, 3) := by decide +kernel
theorem d_mo_isIn_126 : decode cc_mo_isIn 126 = .ok (.iconst 0, 1) := by decide +kernel
theorem d_mo_isIn_127 : decode cc_mo_isIn 127 = .ok (.ireturn, 1) := by decide +kernel
abbrev cc_mo_isTriangle : ByteArray := prog_7_method_11_code
def yy_mo_isTriangle : MethodName := ⟨"SpotContoursModel", "isTriangle", "(III)Z"⟩
def ww_mo_isTriangle : List Cond := .code yy_mo_isTriangle cc_mo_isTriangle 6 (some .boolean) :: zz_B
theorem d_mo_isTriangle_0 : decode cc_mo_isTriangle 0 = .ok (.aload_n 0, 1) := by decide +kernel
theorem d_mo_isTriangle_1 : decode cc_mo_isTriangle 1 = .ok (.iload_n 1, 1) := by decide +kernel
theorem d_mo_isTriangle_2 : decode cc_mo_isTriangle 2 = .ok (.iload_n 2, 1) := by decide +kernel
theorem d_mo_isTriangle_3 : decode cc_mo_isTriangle 3 = .ok (.iload_n 3, 1) := by decide +kernel
theorem d_mo_isTriangle_4 : decode cc_mo_isTriangle 4 = .ok (.invokevirtual 77, 3) := by decide +kernel
theorem d_mo_isTriangle_7 : decode cc_mo_isTriangle 7 = .ok (.ifCond .ne 5, 3) := by decide +kernel
theorem d_mo_isTriangle_10 : decode cc_mo_isTriangle 10 = .ok (.iconst 0, 1) := by decide +kernel
theorem d_mo_isTriangle_11 : decode cc_mo_isTriangle 11 = .ok (.ireturn, 1) := by decide +kernel
theorem d_mo_isTriangle_12 : decode cc_mo_isTriangle 12 = .ok (.iconst 1, 1) := by decide +kernel
theorem d_mo_isTriangle_13 : decode cc_mo_isTriangle 13 = .ok (.istore 4, 2) := by decide +kernel
theorem d_mo_isTriangle_15 : decode cc_mo_isTriangle 15 = .ok (.iconst 0, 1) := by decide +kernel
theorem d_mo_isTriangle_16 : decode cc_mo_isTriangle 16 = .ok (.istore 5, 2) := by decide +kernel
theorem d_mo_isTriangle_18 : decode cc_mo_isTriangle 18 = .ok (.iload 5, 2) := by decide +kernel
theorem d_mo_isTriangle_20 : decode cc_mo_isTriangle 20 = .ok (.aload_n 0, 1) := by decide +kernel
theorem d_mo_isTriangle_21 : decode cc_mo_isTriangle 21 = .ok (.getfield 60, 3) := by decide +kernel
theorem d_mo_isTriangle_24 : decode cc_mo_isTriangle 24 = .ok (.if_icmp .ge 51, 3) := by decide +kernel
theorem d_mo_isTriangle_27 : decode cc_mo_isTriangle 27 = .ok (.iload 4, 2) := by decide +kernel
theorem d_mo_isTriangle_29 : decode cc_mo_isTriangle 29 = .ok (.ifCond .eq 46, 3) := by decide +kernel
theorem d_mo_isTriangle_32 : decode cc_mo_isTriangle 32 = .ok (.iload 5, 2) := by decide +kernel
theorem d_mo_isTriangle_34 : decode cc_mo_isTriangle 34 = .ok (.iload_n 1, 1) := by decide +kernel
theorem d_mo_isTriangle_35 : decode cc_mo_isTriangle 35 = .ok (.if_icmp .eq 27, 3) := by decide +kernel
theorem d_mo_isTriangle_38 : decode cc_mo_isTriangle 38 = .ok (.iload 5, 2) := by decide +kernel
theorem d_mo_isTriangle_40 : decode cc_mo_isTriangle 40 = .ok (.iload_n 2, 1) := by decide +kernel
theorem d_mo_isTriangle_41 : decode cc_mo_isTriangle 41 = .ok (.if_icmp .eq 21, 3) := by decide +kernel
theorem d_mo_isTriangle_44 : decode cc_mo_isTriangle 44 = .ok (.iload 5, 2) := by decide +kernel
theorem d_mo_isTriangle_46 : decode cc_mo_isTriangle 46 = .ok (.iload_n 3, 1) := by decide +kernel
theorem d_mo_isTriangle_47 : decode cc_mo_isTriangle 47 = .ok (.if_icmp .eq 15, 3) := by decide +kernel
theorem d_mo_isTriangle_50 : decode cc_mo_isTriangle 50 = .ok (.aload_n 0, 1) := by decide +kernel
theorem d_mo_isTriangle_51 : decode cc_mo_isTriangle 51 = .ok (.iload_n 1, 1) := by decide +kernel
theorem d_mo_isTriangle_52 : decode cc_mo_isTriangle 52 = .ok (.iload_n 2, 1) := by decide +kernel
theorem d_mo_isTriangle_53 : decode cc_mo_isTriangle 53 = .ok (.iload_n 3, 1) := by decide +kernel
theorem d_mo_isTriangle_54 : decode cc_mo_isTriangle 54 = .ok (.iload 5, 2) := by decide +kernel
theorem d_mo_isTriangle_56 : decode cc_mo_isTriangle 56 = .ok (.invokevirtual 89, 3) := by decide +kernel
theorem d_mo_isTriangle_59 : decode cc_mo_isTriangle 59 = .ok (.ifCond .ne 7, 3) := by decide +kernel
theorem d_mo_isTriangle_62 : decode cc_mo_isTriangle 62 = .ok (.iconst 1, 1) := by decide +kernel
theorem d_mo_isTriangle_63 : decode cc_mo_isTriangle 63 = .ok (.goto 4, 3) := by decide +kernel
theorem d_mo_isTriangle_66 : decode cc_mo_isTriangle 66 = .ok (.iconst 0, 1) := by decide +kernel
theorem d_mo_isTriangle_67 : decode cc_mo_isTriangle 67 = .ok (.istore 4, 2) := by decide +kernel
theorem d_mo_isTriangle_69 : decode cc_mo_isTriangle 69 = .ok (.iinc 5 1, 3) := by decide +kernel
theorem d_mo_isTriangle_72 : decode cc_mo_isTriangle 72 = .ok (.goto (-54), 3) := by decide +kernel
theorem d_mo_isTriangle_75 : decode cc_mo_isTriangle 75 = .ok (.iload 4, 2) := by decide +kernel
theorem d_mo_isTriangle_77 : decode cc_mo_isTriangle 77 = .ok (.ireturn, 1) := by decide +kernel
abbrev cc_mo_findTriangles : ByteArray := prog_7_method_12_code
def yy_mo_findTriangles : MethodName := ⟨"SpotContoursModel", "findTriangles", "()V"⟩
def ww_mo_findTriangles : List Cond := .code yy_mo_findTriangles cc_mo_findTriangles 4 none :: zz_B
theorem d_mo_findTriangles_0 : decode cc_mo_findTriangles 0 = .ok (.aload_n 0, 1) := by decide +kernel
theorem d_mo_findTriangles_1 : decode cc_mo_findTriangles 1 = .ok (.iconst 0, 1) := by decide +kernel
theorem d_mo_findTriangles_2 : decode cc_mo_findTriangles 2 = .ok (.putfield 92, 3) := by decide +kernel
theorem d_mo_findTriangles_5 : decode cc_mo_findTriangles 5 = .ok (.iconst 0, 1) := by decide +kernel
theorem d_mo_findTriangles_6 : decode cc_mo_findTriangles 6 = .ok (.istore_n 1, 1) := by decide +kernel
theorem d_mo_findTriangles_7 : decode cc_mo_findTriangles 7 = .ok (.iload_n 1, 1) := by decide +kernel
theorem d_mo_findTriangles_8 : decode cc_mo_findTriangles 8 = .ok (.aload_n 0, 1) := by decide +kernel
theorem d_mo_findTriangles_9 : decode cc_mo_findTriangles 9 = .ok (.getfield 60, 3) := by decide +kernel
theorem d_mo_findTriangles_12 : decode cc_mo_findTriangles 12 = .ok (.if_icmp .ge 105, 3) := by decide +kernel
theorem d_mo_findTriangles_15 : decode cc_mo_findTriangles 15 = .ok (.iload_n 1, 1) := by decide +kernel
theorem d_mo_findTriangles_16 : decode cc_mo_findTriangles 16 = .ok (.iconst 1, 1) := by decide +kernel
theorem d_mo_findTriangles_17 : decode cc_mo_findTriangles 17 = .ok (.iadd, 1) := by decide +kernel
theorem d_mo_findTriangles_18 : decode cc_mo_findTriangles 18 = .ok (.istore_n 2, 1) := by decide +kernel
theorem d_mo_findTriangles_19 : decode cc_mo_findTriangles 19 = .ok (.iload_n 2, 1) := by decide +kernel
theorem d_mo_findTriangles_20 : decode cc_mo_findTriangles 20 = .ok (.aload_n 0, 1) := by decide +kernel
theorem d_mo_findTriangles_21 : decode cc_mo_findTriangles 21 = .ok (.getfield 60, 3) := by decide +kernel
theorem d_mo_findTriangles_24 : decode cc_mo_findTriangles 24 = .ok (.if_icmp .ge 87, 3) := by decide +kernel
theorem d_mo_findTriangles_27 : decode cc_mo_findTriangles 27 = .ok (.iload_n 2, 1) := by decide +kernel
theorem d_mo_findTriangles_28 : decode cc_mo_findTriangles 28 = .ok (.iconst 1, 1) := by decide +kernel
theorem d_mo_findTriangles_29 : decode cc_mo_findTriangles 29 = .ok (.iadd, 1) := by decide +kernel
theorem d_mo_findTriangles_30 : decode cc_mo_findTriangles 30 = .ok (.istore_n 3, 1) := by decide +kernel
theorem d_mo_findTriangles_31 : decode cc_mo_findTriangles 31 = .ok (.iload_n 3, 1) := by decide +kernel
theorem d_mo_findTriangles_32 : decode cc_mo_findTriangles 32 = .ok (.aload_n 0, 1) := by decide +kernel
theorem d_mo_findTriangles_33 : decode cc_mo_findTriangles 33 = .ok (.getfield 60, 3) := by decide +kernel
theorem d_mo_findTriangles_36 : decode cc_mo_findTriangles 36 = .ok (.if_icmp .ge 69, 3) := by decide +kernel
theorem d_mo_findTriangles_39 : decode cc_mo_findTriangles 39 = .ok (.aload_n 0, 1) := by decide +kernel
theorem d_mo_findTriangles_40 : decode cc_mo_findTriangles 40 = .ok (.iload_n 1, 1) := by decide +kernel
theorem d_mo_findTriangles_41 : decode cc_mo_findTriangles 41 = .ok (.iload_n 2, 1) := by decide +kernel
theorem d_mo_findTriangles_42 : decode cc_mo_findTriangles 42 = .ok (.iload_n 3, 1) := by decide +kernel
theorem d_mo_findTriangles_43 : decode cc_mo_findTriangles 43 = .ok (.invokevirtual 95, 3) := by decide +kernel
theorem d_mo_findTriangles_46 : decode cc_mo_findTriangles 46 = .ok (.ifCond .eq 53, 3) := by decide +kernel
theorem d_mo_findTriangles_49 : decode cc_mo_findTriangles 49 = .ok (.aload_n 0, 1) := by decide +kernel
theorem d_mo_findTriangles_50 : decode cc_mo_findTriangles 50 = .ok (.getfield 19, 3) := by decide +kernel
theorem d_mo_findTriangles_53 : decode cc_mo_findTriangles 53 = .ok (.iconst 3, 1) := by decide +kernel
theorem d_mo_findTriangles_54 : decode cc_mo_findTriangles 54 = .ok (.aload_n 0, 1) := by decide +kernel
theorem d_mo_findTriangles_55 : decode cc_mo_findTriangles 55 = .ok (.getfield 92, 3) := by decide +kernel
theorem d_mo_findTriangles_58 : decode cc_mo_findTriangles 58 = .ok (.imul, 1) := by decide +kernel
theorem d_mo_findTriangles_59 : decode cc_mo_findTriangles 59 = .ok (.iload_n 1, 1) := by decide +kernel
theorem d_mo_findTriangles_60 : decode cc_mo_findTriangles 60 = .ok (.iastore, 1) := by decide +kernel
theorem d_mo_findTriangles_61 : decode cc_mo_findTriangles 61 = .ok (.aload_n 0, 1) := by decide +kernel
theorem d_mo_findTriangles_62 : decode cc_mo_findTriangles 62 = .ok (.getfield 19, 3) := by decide +kernel
theorem d_mo_findTriangles_65 : decode cc_mo_findTriangles 65 = .ok (.iconst 3, 1) := by decide +kernel
theorem d_mo_findTriangles_66 : decode cc_mo_findTriangles 66 = .ok (.aload_n 0, 1) := by decide +kernel
theorem d_mo_findTriangles_67 : decode cc_mo_findTriangles 67 = .ok (.getfield 92, 3) := by decide +kernel
theorem d_mo_findTriangles_70 : decode cc_mo_findTriangles 70 = .ok (.imul, 1) := by decide +kernel
theorem d_mo_findTriangles_71 : decode cc_mo_findTriangles 71 = .ok (.iconst 1, 1) := by decide +kernel
theorem d_mo_findTriangles_72 : decode cc_mo_findTriangles 72 = .ok (.iadd, 1) := by decide +kernel
theorem d_mo_findTriangles_73 : decode cc_mo_findTriangles 73 = .ok (.iload_n 2, 1) := by decide +kernel
theorem d_mo_findTriangles_74 : decode cc_mo_findTriangles 74 = .ok (.iastore, 1) := by decide +kernel
theorem d_mo_findTriangles_75 : decode cc_mo_findTriangles 75 = .ok (.aload_n 0, 1) := by decide +kernel
theorem d_mo_findTriangles_76 : decode cc_mo_findTriangles 76 = .ok (.getfield 19, 3) := by decide +kernel
theorem d_mo_findTriangles_79 : decode cc_mo_findTriangles 79 = .ok (.iconst 3, 1) := by decide +kernel
theorem d_mo_findTriangles_80 : decode cc_mo_findTriangles 80 = .ok (.aload_n 0, 1) := by decide +kernel
theorem d_mo_findTriangles_81 : decode cc_mo_findTriangles 81 = .ok (.getfield 92, 3) := by decide +kernel
theorem d_mo_findTriangles_84 : decode cc_mo_findTriangles 84 = .ok (.imul, 1) := by decide +kernel
theorem d_mo_findTriangles_85 : decode cc_mo_findTriangles 85 = .ok (.iconst 2, 1) := by decide +kernel
theorem d_mo_findTriangles_86 : decode cc_mo_findTriangles 86 = .ok (.iadd, 1) := by decide +kernel
theorem d_mo_findTriangles_87 : decode cc_mo_findTriangles 87 = .ok (.iload_n 3, 1) := by decide +kernel
theorem d_mo_findTriangles_88 : decode cc_mo_findTriangles 88 = .ok (.iastore, 1) := by decide +kernel
theorem d_mo_findTriangles_89 : decode cc_mo_findTriangles 89 = .ok (.aload_n 0, 1) := by decide +kernel
theorem d_mo_findTriangles_90 : decode cc_mo_findTriangles 90 = .ok (.dup, 1) := by decide +kernel
theorem d_mo_findTriangles_91 : decode cc_mo_findTriangles 91 = .ok (.getfield 92, 3) := by decide +kernel
theorem d_mo_findTriangles_94 : decode cc_mo_findTriangles 94 = .ok (.iconst 1, 1) := by decide +kernel
theorem d_mo_findTriangles_95 : decode cc_mo_findTriangles 95 = .ok (.iadd, 1) := by decide +kernel
theorem d_mo_findTriangles_96 : decode cc_mo_findTriangles 96 = .ok (.putfield 92, 3) := by decide +kernel
theorem d_mo_findTriangles_99 : decode cc_mo_findTriangles 99 = .ok (.iinc 3 1, 3) := by decide +kernel
theorem d_mo_findTriangles_102 : decode cc_mo_findTriangles 102 = .ok (.goto (-71), 3) := by decide +kernel
theorem d_mo_findTriangles_105 : decode cc_mo_findTriangles 105 = .ok (.iinc 2 1, 3) := by decide +kernel
theorem d_mo_findTriangles_108 : decode cc_mo_findTriangles 108 = .ok (.goto (-89), 3) := by decide +kernel
theorem d_mo_findTriangles_111 : decode cc_mo_findTriangles 111 = .ok (.iinc 1 1, 3) := by decide +kernel
theorem d_mo_findTriangles_114 : decode cc_mo_findTriangles 114 = .ok (.goto (-107), 3) := by decide +kernel
theorem d_mo_findTriangles_117 : decode cc_mo_findTriangles 117 = .ok (.return_, 1) := by decide +kernel
end
section
/-! Names and decode rows, printed. -/
abbrev cc_mo_triangles : ByteArray := prog_7_method_13_code
def yy_mo_triangles : MethodName := ⟨"SpotContoursModel", "triangles", "()I"⟩
def ww_mo_triangles : List Cond := .code yy_mo_triangles cc_mo_triangles 1 (some .int) :: zz_B
theorem d_mo_triangles_0 : decode cc_mo_triangles 0 = .ok (.aload_n 0, 1) := by decide +kernel
theorem d_mo_triangles_1 : decode cc_mo_triangles 1 = .ok (.iconst 0, 1) := by decide +kernel
theorem d_mo_triangles_2 : decode cc_mo_triangles 2 = .ok (.putfield 56, 3) := by decide +kernel
theorem d_mo_triangles_5 : decode cc_mo_triangles 5 = .ok (.aload_n 0, 1) := by decide +kernel
theorem d_mo_triangles_6 : decode cc_mo_triangles 6 = .ok (.getfield 92, 3) := by decide +kernel
theorem d_mo_triangles_9 : decode cc_mo_triangles 9 = .ok (.ireturn, 1) := by decide +kernel
abbrev cc_mo_corner : ByteArray := prog_7_method_14_code
def yy_mo_corner : MethodName := ⟨"SpotContoursModel", "corner", "(II)I"⟩
def ww_mo_corner : List Cond := .code yy_mo_corner cc_mo_corner 3 (some .int) :: zz_B
theorem d_mo_corner_0 : decode cc_mo_corner 0 = .ok (.aload_n 0, 1) := by decide +kernel
theorem d_mo_corner_1 : decode cc_mo_corner 1 = .ok (.iload_n 1, 1) := by decide +kernel
theorem d_mo_corner_2 : decode cc_mo_corner 2 = .ok (.ifCond .lt 20, 3) := by decide +kernel
theorem d_mo_corner_5 : decode cc_mo_corner 5 = .ok (.iload_n 1, 1) := by decide +kernel
theorem d_mo_corner_6 : decode cc_mo_corner 6 = .ok (.aload_n 0, 1) := by decide +kernel
theorem d_mo_corner_7 : decode cc_mo_corner 7 = .ok (.getfield 92, 3) := by decide +kernel
theorem d_mo_corner_10 : decode cc_mo_corner 10 = .ok (.if_icmp .ge 12, 3) := by decide +kernel
theorem d_mo_corner_13 : decode cc_mo_corner 13 = .ok (.iload_n 2, 1) := by decide +kernel
theorem d_mo_corner_14 : decode cc_mo_corner 14 = .ok (.ifCond .lt 8, 3) := by decide +kernel
theorem d_mo_corner_17 : decode cc_mo_corner 17 = .ok (.iload_n 2, 1) := by decide +kernel
theorem d_mo_corner_18 : decode cc_mo_corner 18 = .ok (.iconst 2, 1) := by decide +kernel
theorem d_mo_corner_19 : decode cc_mo_corner 19 = .ok (.if_icmp .le 7, 3) := by decide +kernel
theorem d_mo_corner_22 : decode cc_mo_corner 22 = .ok (.iconst 1, 1) := by decide +kernel
theorem d_mo_corner_23 : decode cc_mo_corner 23 = .ok (.goto 4, 3) := by decide +kernel
theorem d_mo_corner_26 : decode cc_mo_corner 26 = .ok (.iconst 0, 1) := by decide +kernel
theorem d_mo_corner_27 : decode cc_mo_corner 27 = .ok (.putfield 56, 3) := by decide +kernel
theorem d_mo_corner_30 : decode cc_mo_corner 30 = .ok (.aload_n 0, 1) := by decide +kernel
theorem d_mo_corner_31 : decode cc_mo_corner 31 = .ok (.getfield 56, 3) := by decide +kernel
theorem d_mo_corner_34 : decode cc_mo_corner 34 = .ok (.ifCond .ne 16, 3) := by decide +kernel
theorem d_mo_corner_37 : decode cc_mo_corner 37 = .ok (.aload_n 0, 1) := by decide +kernel
theorem d_mo_corner_38 : decode cc_mo_corner 38 = .ok (.getfield 19, 3) := by decide +kernel
theorem d_mo_corner_41 : decode cc_mo_corner 41 = .ok (.iconst 3, 1) := by decide +kernel
theorem d_mo_corner_42 : decode cc_mo_corner 42 = .ok (.iload_n 1, 1) := by decide +kernel
theorem d_mo_corner_43 : decode cc_mo_corner 43 = .ok (.imul, 1) := by decide +kernel
theorem d_mo_corner_44 : decode cc_mo_corner 44 = .ok (.iload_n 2, 1) := by decide +kernel
theorem d_mo_corner_45 : decode cc_mo_corner 45 = .ok (.iadd, 1) := by decide +kernel
theorem d_mo_corner_46 : decode cc_mo_corner 46 = .ok (.iaload, 1) := by decide +kernel
theorem d_mo_corner_47 : decode cc_mo_corner 47 = .ok (.goto 4, 3) := by decide +kernel
theorem d_mo_corner_50 : decode cc_mo_corner 50 = .ok (.iconst 0, 1) := by decide +kernel
theorem d_mo_corner_51 : decode cc_mo_corner 51 = .ok (.ireturn, 1) := by decide +kernel
abbrev cc_mo_has : ByteArray := prog_7_method_15_code
def yy_mo_has : MethodName := ⟨"SpotContoursModel", "has", "(II)Z"⟩
def ww_mo_has : List Cond := .code yy_mo_has cc_mo_has 3 (some .boolean) :: zz_B
theorem d_mo_has_0 : decode cc_mo_has 0 = .ok (.aload_n 0, 1) := by decide +kernel
theorem d_mo_has_1 : decode cc_mo_has 1 = .ok (.getfield 19, 3) := by decide +kernel
theorem d_mo_has_4 : decode cc_mo_has 4 = .ok (.iconst 3, 1) := by decide +kernel
theorem d_mo_has_5 : decode cc_mo_has 5 = .ok (.iload_n 1, 1) := by decide +kernel
theorem d_mo_has_6 : decode cc_mo_has 6 = .ok (.imul, 1) := by decide +kernel
theorem d_mo_has_7 : decode cc_mo_has 7 = .ok (.iaload, 1) := by decide +kernel
theorem d_mo_has_8 : decode cc_mo_has 8 = .ok (.iload_n 2, 1) := by decide +kernel
theorem d_mo_has_9 : decode cc_mo_has 9 = .ok (.if_icmp .eq 31, 3) := by decide +kernel
theorem d_mo_has_12 : decode cc_mo_has 12 = .ok (.aload_n 0, 1) := by decide +kernel
theorem d_mo_has_13 : decode cc_mo_has 13 = .ok (.getfield 19, 3) := by decide +kernel
theorem d_mo_has_16 : decode cc_mo_has 16 = .ok (.iconst 3, 1) := by decide +kernel
theorem d_mo_has_17 : decode cc_mo_has 17 = .ok (.iload_n 1, 1) := by decide +kernel
theorem d_mo_has_18 : decode cc_mo_has 18 = .ok (.imul, 1) := by decide +kernel
theorem d_mo_has_19 : decode cc_mo_has 19 = .ok (.iconst 1, 1) := by decide +kernel
theorem d_mo_has_20 : decode cc_mo_has 20 = .ok (.iadd, 1) := by decide +kernel
theorem d_mo_has_21 : decode cc_mo_has 21 = .ok (.iaload, 1) := by decide +kernel
theorem d_mo_has_22 : decode cc_mo_has 22 = .ok (.iload_n 2, 1) := by decide +kernel
theorem d_mo_has_23 : decode cc_mo_has 23 = .ok (.if_icmp .eq 17, 3) := by decide +kernel
theorem d_mo_has_26 : decode cc_mo_has 26 = .ok (.aload_n 0, 1) := by decide +kernel
theorem d_mo_has_27 : decode cc_mo_has 27 = .ok (.getfield 19, 3) := by decide +kernel
theorem d_mo_has_30 : decode cc_mo_has 30 = .ok (.iconst 3, 1) := by decide +kernel
theorem d_mo_has_31 : decode cc_mo_has 31 = .ok (.iload_n 1, 1) := by decide +kernel
theorem d_mo_has_32 : decode cc_mo_has 32 = .ok (.imul, 1) := by decide +kernel
theorem d_mo_has_33 : decode cc_mo_has 33 = .ok (.iconst 2, 1) := by decide +kernel
theorem d_mo_has_34 : decode cc_mo_has 34 = .ok (.iadd, 1) := by decide +kernel
theorem d_mo_has_35 : decode cc_mo_has 35 = .ok (.iaload, 1) := by decide +kernel
theorem d_mo_has_36 : decode cc_mo_has 36 = .ok (.iload_n 2, 1) := by decide +kernel
theorem d_mo_has_37 : decode cc_mo_has 37 = .ok (.if_icmp .ne 7, 3) := by decide +kernel
theorem d_mo_has_40 : decode cc_mo_has 40 = .ok (.iconst 1, 1) := by decide +kernel
theorem d_mo_has_41 : decode cc_mo_has 41 = .ok (.goto 4, 3) := by decide +kernel
theorem d_mo_has_44 : decode cc_mo_has 44 = .ok (.iconst 0, 1) := by decide +kernel
theorem d_mo_has_45 : decode cc_mo_has 45 = .ok (.ireturn, 1) := by decide +kernel
abbrev cc_mo_edge : ByteArray := prog_7_method_16_code
def yy_mo_edge : MethodName := ⟨"SpotContoursModel", "edge", "(II)I"⟩
def ww_mo_edge : List Cond := .code yy_mo_edge cc_mo_edge 5 (some .int) :: zz_B
theorem d_mo_edge_0 : decode cc_mo_edge 0 = .ok (.aload_n 0, 1) := by decide +kernel
theorem d_mo_edge_1 : decode cc_mo_edge 1 = .ok (.aload_n 0, 1) := by decide +kernel
theorem d_mo_edge_2 : decode cc_mo_edge 2 = .ok (.iload_n 1, 1) := by decide +kernel
theorem d_mo_edge_3 : decode cc_mo_edge 3 = .ok (.invokevirtual 69, 3) := by decide +kernel
theorem d_mo_edge_6 : decode cc_mo_edge 6 = .ok (.ifCond .eq 15, 3) := by decide +kernel
theorem d_mo_edge_9 : decode cc_mo_edge 9 = .ok (.aload_n 0, 1) := by decide +kernel
theorem d_mo_edge_10 : decode cc_mo_edge 10 = .ok (.iload_n 2, 1) := by decide +kernel
theorem d_mo_edge_11 : decode cc_mo_edge 11 = .ok (.invokevirtual 69, 3) := by decide +kernel
theorem d_mo_edge_14 : decode cc_mo_edge 14 = .ok (.ifCond .eq 7, 3) := by decide +kernel
theorem d_mo_edge_17 : decode cc_mo_edge 17 = .ok (.iconst 0, 1) := by decide +kernel
theorem d_mo_edge_18 : decode cc_mo_edge 18 = .ok (.goto 4, 3) := by decide +kernel
theorem d_mo_edge_21 : decode cc_mo_edge 21 = .ok (.iconst 1, 1) := by decide +kernel
theorem d_mo_edge_22 : decode cc_mo_edge 22 = .ok (.putfield 56, 3) := by decide +kernel
theorem d_mo_edge_25 : decode cc_mo_edge 25 = .ok (.iconst 0, 1) := by decide +kernel
theorem d_mo_edge_26 : decode cc_mo_edge 26 = .ok (.istore_n 3, 1) := by decide +kernel
theorem d_mo_edge_27 : decode cc_mo_edge 27 = .ok (.iconst 0, 1) := by decide +kernel
theorem d_mo_edge_28 : decode cc_mo_edge 28 = .ok (.istore 4, 2) := by decide +kernel
theorem d_mo_edge_30 : decode cc_mo_edge 30 = .ok (.iload 4, 2) := by decide +kernel
theorem d_mo_edge_32 : decode cc_mo_edge 32 = .ok (.aload_n 0, 1) := by decide +kernel
theorem d_mo_edge_33 : decode cc_mo_edge 33 = .ok (.getfield 92, 3) := by decide +kernel
theorem d_mo_edge_36 : decode cc_mo_edge 36 = .ok (.if_icmp .ge 49, 3) := by decide +kernel
theorem d_mo_edge_39 : decode cc_mo_edge 39 = .ok (.aload_n 0, 1) := by decide +kernel
theorem d_mo_edge_40 : decode cc_mo_edge 40 = .ok (.getfield 56, 3) := by decide +kernel
theorem d_mo_edge_43 : decode cc_mo_edge 43 = .ok (.ifCond .ne 42, 3) := by decide +kernel
theorem d_mo_edge_46 : decode cc_mo_edge 46 = .ok (.iload_n 1, 1) := by decide +kernel
theorem d_mo_edge_47 : decode cc_mo_edge 47 = .ok (.iload_n 2, 1) := by decide +kernel
theorem d_mo_edge_48 : decode cc_mo_edge 48 = .ok (.if_icmp .eq 37, 3) := by decide +kernel
theorem d_mo_edge_51 : decode cc_mo_edge 51 = .ok (.iload_n 3, 1) := by decide +kernel
theorem d_mo_edge_52 : decode cc_mo_edge 52 = .ok (.aload_n 0, 1) := by decide +kernel
theorem d_mo_edge_53 : decode cc_mo_edge 53 = .ok (.iload 4, 2) := by decide +kernel
theorem d_mo_edge_55 : decode cc_mo_edge 55 = .ok (.iload_n 1, 1) := by decide +kernel
theorem d_mo_edge_56 : decode cc_mo_edge 56 = .ok (.invokevirtual 99, 3) := by decide +kernel
theorem d_mo_edge_59 : decode cc_mo_edge 59 = .ok (.ifCond .eq 17, 3) := by decide +kernel
theorem d_mo_edge_62 : decode cc_mo_edge 62 = .ok (.aload_n 0, 1) := by decide +kernel
theorem d_mo_edge_63 : decode cc_mo_edge 63 = .ok (.iload 4, 2) := by decide +kernel
theorem d_mo_edge_65 : decode cc_mo_edge 65 = .ok (.iload_n 2, 1) := by decide +kernel
theorem d_mo_edge_66 : decode cc_mo_edge 66 = .ok (.invokevirtual 99, 3) := by decide +kernel
theorem d_mo_edge_69 : decode cc_mo_edge 69 = .ok (.ifCond .eq 7, 3) := by decide +kernel
theorem d_mo_edge_72 : decode cc_mo_edge 72 = .ok (.iconst 1, 1) := by decide +kernel
theorem d_mo_edge_73 : decode cc_mo_edge 73 = .ok (.goto 4, 3) := by decide +kernel
theorem d_mo_edge_76 : decode cc_mo_edge 76 = .ok (.iconst 0, 1) := by decide +kernel
theorem d_mo_edge_77 : decode cc_mo_edge 77 = .ok (.iadd, 1) := by decide +kernel
theorem d_mo_edge_78 : decode cc_mo_edge 78 = .ok (.istore_n 3, 1) := by decide +kernel
theorem d_mo_edge_79 : decode cc_mo_edge 79 = .ok (.iinc 4 1, 3) := by decide +kernel
theorem d_mo_edge_82 : decode cc_mo_edge 82 = .ok (.goto (-52), 3) := by decide +kernel
theorem d_mo_edge_85 : decode cc_mo_edge 85 = .ok (.iload_n 3, 1) := by decide +kernel
theorem d_mo_edge_86 : decode cc_mo_edge 86 = .ok (.ireturn, 1) := by decide +kernel
abbrev cc_mo_toPlace : ByteArray := prog_7_method_17_code
def yy_mo_toPlace : MethodName := ⟨"SpotContoursModel", "toPlace", "(IIII)J"⟩
def ww_mo_toPlace : List Cond := .code yy_mo_toPlace cc_mo_toPlace 5 (some .long) :: zz_B
theorem d_mo_toPlace_0 : decode cc_mo_toPlace 0 = .ok (.aload_n 0, 1) := by decide +kernel
theorem d_mo_toPlace_1 : decode cc_mo_toPlace 1 = .ok (.getfield 7, 3) := by decide +kernel
theorem d_mo_toPlace_4 : decode cc_mo_toPlace 4 = .ok (.iload_n 2, 1) := by decide +kernel
theorem d_mo_toPlace_5 : decode cc_mo_toPlace 5 = .ok (.iaload, 1) := by decide +kernel
theorem d_mo_toPlace_6 : decode cc_mo_toPlace 6 = .ok (.aload_n 0, 1) := by decide +kernel
theorem d_mo_toPlace_7 : decode cc_mo_toPlace 7 = .ok (.getfield 7, 3) := by decide +kernel
theorem d_mo_toPlace_10 : decode cc_mo_toPlace 10 = .ok (.iload_n 1, 1) := by decide +kernel
theorem d_mo_toPlace_11 : decode cc_mo_toPlace 11 = .ok (.iaload, 1) := by decide +kernel
theorem d_mo_toPlace_12 : decode cc_mo_toPlace 12 = .ok (.isub, 1) := by decide +kernel
theorem d_mo_toPlace_13 : decode cc_mo_toPlace 13 = .ok (.i2l, 1) := by decide +kernel
theorem d_mo_toPlace_14 : decode cc_mo_toPlace 14 = .ok (.iload 4, 2) := by decide +kernel
theorem d_mo_toPlace_16 : decode cc_mo_toPlace 16 = .ok (.i2l, 1) := by decide +kernel
theorem d_mo_toPlace_17 : decode cc_mo_toPlace 17 = .ok (.aload_n 0, 1) := by decide +kernel
theorem d_mo_toPlace_18 : decode cc_mo_toPlace 18 = .ok (.getfield 13, 3) := by decide +kernel
theorem d_mo_toPlace_21 : decode cc_mo_toPlace 21 = .ok (.iload_n 1, 1) := by decide +kernel
theorem d_mo_toPlace_22 : decode cc_mo_toPlace 22 = .ok (.iaload, 1) := by decide +kernel
theorem d_mo_toPlace_23 : decode cc_mo_toPlace 23 = .ok (.i2l, 1) := by decide +kernel
theorem d_mo_toPlace_24 : decode cc_mo_toPlace 24 = .ok (.lsub, 1) := by decide +kernel
theorem d_mo_toPlace_25 : decode cc_mo_toPlace 25 = .ok (.lmul, 1) := by decide +kernel
theorem d_mo_toPlace_26 : decode cc_mo_toPlace 26 = .ok (.aload_n 0, 1) := by decide +kernel
theorem d_mo_toPlace_27 : decode cc_mo_toPlace 27 = .ok (.getfield 13, 3) := by decide +kernel
theorem d_mo_toPlace_30 : decode cc_mo_toPlace 30 = .ok (.iload_n 2, 1) := by decide +kernel
theorem d_mo_toPlace_31 : decode cc_mo_toPlace 31 = .ok (.iaload, 1) := by decide +kernel
theorem d_mo_toPlace_32 : decode cc_mo_toPlace 32 = .ok (.aload_n 0, 1) := by decide +kernel
theorem d_mo_toPlace_33 : decode cc_mo_toPlace 33 = .ok (.getfield 13, 3) := by decide +kernel
theorem d_mo_toPlace_36 : decode cc_mo_toPlace 36 = .ok (.iload_n 1, 1) := by decide +kernel
theorem d_mo_toPlace_37 : decode cc_mo_toPlace 37 = .ok (.iaload, 1) := by decide +kernel
theorem d_mo_toPlace_38 : decode cc_mo_toPlace 38 = .ok (.isub, 1) := by decide +kernel
theorem d_mo_toPlace_39 : decode cc_mo_toPlace 39 = .ok (.i2l, 1) := by decide +kernel
theorem d_mo_toPlace_40 : decode cc_mo_toPlace 40 = .ok (.iload_n 3, 1) := by decide +kernel
theorem d_mo_toPlace_41 : decode cc_mo_toPlace 41 = .ok (.i2l, 1) := by decide +kernel
theorem d_mo_toPlace_42 : decode cc_mo_toPlace 42 = .ok (.aload_n 0, 1) := by decide +kernel
theorem d_mo_toPlace_43 : decode cc_mo_toPlace 43 = .ok (.getfield 7, 3) := by decide +kernel
theorem d_mo_toPlace_46 : decode cc_mo_toPlace 46 = .ok (.iload_n 1, 1) := by decide +kernel
theorem d_mo_toPlace_47 : decode cc_mo_toPlace 47 = .ok (.iaload, 1) := by decide +kernel
theorem d_mo_toPlace_48 : decode cc_mo_toPlace 48 = .ok (.i2l, 1) := by decide +kernel
theorem d_mo_toPlace_49 : decode cc_mo_toPlace 49 = .ok (.lsub, 1) := by decide +kernel
theorem d_mo_toPlace_50 : decode cc_mo_toPlace 50 = .ok (.lmul, 1) := by decide +kernel
theorem d_mo_toPlace_51 : decode cc_mo_toPlace 51 = .ok (.lsub, 1) := by decide +kernel
theorem d_mo_toPlace_52 : decode cc_mo_toPlace 52 = .ok (.lreturn, 1) := by decide +kernel
abbrev cc_mo_floor : ByteArray := prog_7_method_18_code
def yy_mo_floor : MethodName := ⟨"SpotContoursModel", "floor", "(JJ)J"⟩
def ww_mo_floor : List Cond := .code yy_mo_floor cc_mo_floor 6 (some .long) :: zz_B
theorem d_mo_floor_0 : decode cc_mo_floor 0 = .ok (.lload_n 0, 1) := by decide +kernel
theorem d_mo_floor_1 : decode cc_mo_floor 1 = .ok (.lload_n 2, 1) := by decide +kernel
theorem d_mo_floor_2 : decode cc_mo_floor 2 = .ok (.ldiv, 1) := by decide +kernel
theorem d_mo_floor_3 : decode cc_mo_floor 3 = .ok (.lstore 4, 2) := by decide +kernel
theorem d_mo_floor_5 : decode cc_mo_floor 5 = .ok (.lload 4, 2) := by decide +kernel
theorem d_mo_floor_7 : decode cc_mo_floor 7 = .ok (.lload_n 2, 1) := by decide +kernel
theorem d_mo_floor_8 : decode cc_mo_floor 8 = .ok (.lmul, 1) := by decide +kernel
theorem d_mo_floor_9 : decode cc_mo_floor 9 = .ok (.lload_n 0, 1) := by decide +kernel
theorem d_mo_floor_10 : decode cc_mo_floor 10 = .ok (.lcmp, 1) := by decide +kernel
theorem d_mo_floor_11 : decode cc_mo_floor 11 = .ok (.ifCond .le 10, 3) := by decide +kernel
theorem d_mo_floor_14 : decode cc_mo_floor 14 = .ok (.lload 4, 2) := by decide +kernel
theorem d_mo_floor_16 : decode cc_mo_floor 16 = .ok (.lconst 1, 1) := by decide +kernel
theorem d_mo_floor_17 : decode cc_mo_floor 17 = .ok (.lsub, 1) := by decide +kernel
theorem d_mo_floor_18 : decode cc_mo_floor 18 = .ok (.goto 5, 3) := by decide +kernel
theorem d_mo_floor_21 : decode cc_mo_floor 21 = .ok (.lload 4, 2) := by decide +kernel
theorem d_mo_floor_23 : decode cc_mo_floor 23 = .ok (.lreturn, 1) := by decide +kernel
abbrev cc_mo_at : ByteArray := prog_7_method_19_code
def yy_mo_at : MethodName := ⟨"SpotContoursModel", "at", "(II)I"⟩
def ww_mo_at : List Cond := .code yy_mo_at cc_mo_at 15 (some .int) :: zz_B
theorem d_mo_at_0 : decode cc_mo_at 0 = .ok (.aload_n 0, 1) := by decide +kernel
theorem d_mo_at_1 : decode cc_mo_at 1 = .ok (.iconst 1, 1) := by decide +kernel
theorem d_mo_at_2 : decode cc_mo_at 2 = .ok (.putfield 56, 3) := by decide +kernel
theorem d_mo_at_5 : decode cc_mo_at 5 = .ok (.iconst 0, 1) := by decide +kernel
theorem d_mo_at_6 : decode cc_mo_at 6 = .ok (.istore_n 3, 1) := by decide +kernel
theorem d_mo_at_7 : decode cc_mo_at 7 = .ok (.iconst 0, 1) := by decide +kernel
theorem d_mo_at_8 : decode cc_mo_at 8 = .ok (.istore 4, 2) := by decide +kernel
theorem d_mo_at_10 : decode cc_mo_at 10 = .ok (.iload 4, 2) := by decide +kernel
theorem d_mo_at_12 : decode cc_mo_at 12 = .ok (.aload_n 0, 1) := by decide +kernel
theorem d_mo_at_13 : decode cc_mo_at 13 = .ok (.getfield 92, 3) := by decide +kernel
theorem d_mo_at_16 : decode cc_mo_at 16 = .ok (.if_icmp .ge 196, 3) := by decide +kernel
theorem d_mo_at_19 : decode cc_mo_at 19 = .ok (.aload_n 0, 1) := by decide +kernel
theorem d_mo_at_20 : decode cc_mo_at 20 = .ok (.getfield 56, 3) := by decide +kernel
theorem d_mo_at_23 : decode cc_mo_at 23 = .ok (.iconst 1, 1) := by decide +kernel
theorem d_mo_at_24 : decode cc_mo_at 24 = .ok (.if_icmp .ne 188, 3) := by decide +kernel
theorem d_mo_at_27 : decode cc_mo_at 27 = .ok (.aload_n 0, 1) := by decide +kernel
theorem d_mo_at_28 : decode cc_mo_at 28 = .ok (.getfield 19, 3) := by decide +kernel
theorem d_mo_at_31 : decode cc_mo_at 31 = .ok (.iconst 3, 1) := by decide +kernel
theorem d_mo_at_32 : decode cc_mo_at 32 = .ok (.iload 4, 2) := by decide +kernel
theorem d_mo_at_34 : decode cc_mo_at 34 = .ok (.imul, 1) := by decide +kernel
theorem d_mo_at_35 : decode cc_mo_at 35 = .ok (.iaload, 1) := by decide +kernel
theorem d_mo_at_36 : decode cc_mo_at 36 = .ok (.istore 5, 2) := by decide +kernel
theorem d_mo_at_38 : decode cc_mo_at 38 = .ok (.aload_n 0, 1) := by decide +kernel
theorem d_mo_at_39 : decode cc_mo_at 39 = .ok (.getfield 19, 3) := by decide +kernel
theorem d_mo_at_42 : decode cc_mo_at 42 = .ok (.iconst 3, 1) := by decide +kernel
theorem d_mo_at_43 : decode cc_mo_at 43 = .ok (.iload 4, 2) := by decide +kernel
theorem d_mo_at_45 : decode cc_mo_at 45 = .ok (.imul, 1) := by decide +kernel
theorem d_mo_at_46 : decode cc_mo_at 46 = .ok (.iconst 1, 1) := by decide +kernel
theorem d_mo_at_47 : decode cc_mo_at 47 = .ok (.iadd, 1) := by decide +kernel
theorem d_mo_at_48 : decode cc_mo_at 48 = .ok (.iaload, 1) := by decide +kernel
theorem d_mo_at_49 : decode cc_mo_at 49 = .ok (.istore 6, 2) := by decide +kernel
theorem d_mo_at_51 : decode cc_mo_at 51 = .ok (.aload_n 0, 1) := by decide +kernel
theorem d_mo_at_52 : decode cc_mo_at 52 = .ok (.getfield 19, 3) := by decide +kernel
theorem d_mo_at_55 : decode cc_mo_at 55 = .ok (.iconst 3, 1) := by decide +kernel
theorem d_mo_at_56 : decode cc_mo_at 56 = .ok (.iload 4, 2) := by decide +kernel
theorem d_mo_at_58 : decode cc_mo_at 58 = .ok (.imul, 1) := by decide +kernel
theorem d_mo_at_59 : decode cc_mo_at 59 = .ok (.iconst 2, 1) := by decide +kernel
theorem d_mo_at_60 : decode cc_mo_at 60 = .ok (.iadd, 1) := by decide +kernel
theorem d_mo_at_61 : decode cc_mo_at 61 = .ok (.iaload, 1) := by decide +kernel
theorem d_mo_at_62 : decode cc_mo_at 62 = .ok (.istore 7, 2) := by decide +kernel
theorem d_mo_at_64 : decode cc_mo_at 64 = .ok (.aload_n 0, 1) := by decide +kernel
theorem d_mo_at_65 : decode cc_mo_at 65 = .ok (.iload 5, 2) := by decide +kernel
theorem d_mo_at_67 : decode cc_mo_at 67 = .ok (.iload 6, 2) := by decide +kernel
theorem d_mo_at_69 : decode cc_mo_at 69 = .ok (.iload 7, 2) := by decide +kernel
theorem d_mo_at_71 : decode cc_mo_at 71 = .ok (.invokevirtual 77, 3) := by decide +kernel
theorem d_mo_at_74 : decode cc_mo_at 74 = .ok (.ifCond .le 7, 3) := by decide +kernel
theorem d_mo_at_77 : decode cc_mo_at 77 = .ok (.iconst 1, 1) := by decide +kernel
theorem d_mo_at_78 : decode cc_mo_at 78 = .ok (.goto 4, 3) := by decide +kernel
theorem d_mo_at_81 : decode cc_mo_at 81 = .ok (.iconst (-1), 1) := by decide +kernel
theorem d_mo_at_82 : decode cc_mo_at 82 = .ok (.istore 8, 2) := by decide +kernel
theorem d_mo_at_84 : decode cc_mo_at 84 = .ok (.iload 8, 2) := by decide +kernel
theorem d_mo_at_86 : decode cc_mo_at 86 = .ok (.i2l, 1) := by decide +kernel
theorem d_mo_at_87 : decode cc_mo_at 87 = .ok (.aload_n 0, 1) := by decide +kernel
theorem d_mo_at_88 : decode cc_mo_at 88 = .ok (.iload 6, 2) := by decide +kernel
theorem d_mo_at_90 : decode cc_mo_at 90 = .ok (.iload 7, 2) := by decide +kernel
theorem d_mo_at_92 : decode cc_mo_at 92 = .ok (.iload_n 1, 1) := by decide +kernel
theorem d_mo_at_93 : decode cc_mo_at 93 = .ok (.iload_n 2, 1) := by decide +kernel
theorem d_mo_at_94 : decode cc_mo_at 94 = .ok (.invokevirtual 103, 3) := by decide +kernel
theorem d_mo_at_97 : decode cc_mo_at 97 = .ok (.lmul, 1) := by decide +kernel
theorem d_mo_at_98 : decode cc_mo_at 98 = .ok (.lstore 9, 2) := by decide +kernel
theorem d_mo_at_100 : decode cc_mo_at 100 = .ok (.iload 8, 2) := by decide +kernel
theorem d_mo_at_102 : decode cc_mo_at 102 = .ok (.i2l, 1) := by decide +kernel
theorem d_mo_at_103 : decode cc_mo_at 103 = .ok (.aload_n 0, 1) := by decide +kernel
theorem d_mo_at_104 : decode cc_mo_at 104 = .ok (.iload 7, 2) := by decide +kernel
theorem d_mo_at_106 : decode cc_mo_at 106 = .ok (.iload 5, 2) := by decide +kernel
theorem d_mo_at_108 : decode cc_mo_at 108 = .ok (.iload_n 1, 1) := by decide +kernel
theorem d_mo_at_109 : decode cc_mo_at 109 = .ok (.iload_n 2, 1) := by decide +kernel
theorem d_mo_at_110 : decode cc_mo_at 110 = .ok (.invokevirtual 103, 3) := by decide +kernel
theorem d_mo_at_113 : decode cc_mo_at 113 = .ok (.lmul, 1) := by decide +kernel
theorem d_mo_at_114 : decode cc_mo_at 114 = .ok (.lstore 11, 2) := by decide +kernel
theorem d_mo_at_116 : decode cc_mo_at 116 = .ok (.iload 8, 2) := by decide +kernel
theorem d_mo_at_118 : decode cc_mo_at 118 = .ok (.i2l, 1) := by decide +kernel
theorem d_mo_at_119 : decode cc_mo_at 119 = .ok (.aload_n 0, 1) := by decide +kernel
theorem d_mo_at_120 : decode cc_mo_at 120 = .ok (.iload 5, 2) := by decide +kernel
theorem d_mo_at_122 : decode cc_mo_at 122 = .ok (.iload 6, 2) := by decide +kernel
theorem d_mo_at_124 : decode cc_mo_at 124 = .ok (.iload_n 1, 1) := by decide +kernel
theorem d_mo_at_125 : decode cc_mo_at 125 = .ok (.iload_n 2, 1) := by decide +kernel
theorem d_mo_at_126 : decode cc_mo_at 126 = .ok (.invokevirtual 103, 3) := by decide +kernel
theorem d_mo_at_129 : decode cc_mo_at 129 = .ok (.lmul, 1) := by decide +kernel
theorem d_mo_at_130 : decode cc_mo_at 130 = .ok (.lstore 13, 2) := by decide +kernel
theorem d_mo_at_132 : decode cc_mo_at 132 = .ok (.lload 9, 2) := by decide +kernel
theorem d_mo_at_134 : decode cc_mo_at 134 = .ok (.lconst 0, 1) := by decide +kernel
theorem d_mo_at_135 : decode cc_mo_at 135 = .ok (.lcmp, 1) := by decide +kernel
theorem d_mo_at_136 : decode cc_mo_at 136 = .ok (.ifCond .lt 70, 3) := by decide +kernel
theorem d_mo_at_139 : decode cc_mo_at 139 = .ok (.lload 11, 2) := by decide +kernel
theorem d_mo_at_141 : decode cc_mo_at 141 = .ok (.lconst 0, 1) := by decide +kernel
theorem d_mo_at_142 : decode cc_mo_at 142 = .ok (.lcmp, 1) := by decide +kernel
theorem d_mo_at_143 : decode cc_mo_at 143 = .ok (.ifCond .lt 63, 3) := by decide +kernel
theorem d_mo_at_146 : decode cc_mo_at 146 = .ok (.lload 13, 2) := by decide +kernel
theorem d_mo_at_148 : decode cc_mo_at 148 = .ok (.lconst 0, 1) := by decide +kernel
theorem d_mo_at_149 : decode cc_mo_at 149 = .ok (.lcmp, 1) := by decide +kernel
theorem d_mo_at_150 : decode cc_mo_at 150 = .ok (.ifCond .lt 56, 3) := by decide +kernel
theorem d_mo_at_153 : decode cc_mo_at 153 = .ok (.lload 9, 2) := by decide +kernel
theorem d_mo_at_155 : decode cc_mo_at 155 = .ok (.aload_n 0, 1) := by decide +kernel
theorem d_mo_at_156 : decode cc_mo_at 156 = .ok (.getfield 16, 3) := by decide +kernel
theorem d_mo_at_159 : decode cc_mo_at 159 = .ok (.iload 5, 2) := by decide +kernel
theorem d_mo_at_161 : decode cc_mo_at 161 = .ok (.iaload, 1) := by decide +kernel
theorem d_mo_at_162 : decode cc_mo_at 162 = .ok (.i2l, 1) := by decide +kernel
theorem d_mo_at_163 : decode cc_mo_at 163 = .ok (.lmul, 1) := by decide +kernel
theorem d_mo_at_164 : decode cc_mo_at 164 = .ok (.lload 11, 2) := by decide +kernel
theorem d_mo_at_166 : decode cc_mo_at 166 = .ok (.aload_n 0, 1) := by decide +kernel
theorem d_mo_at_167 : decode cc_mo_at 167 = .ok (.getfield 16, 3) := by decide +kernel
theorem d_mo_at_170 : decode cc_mo_at 170 = .ok (.iload 6, 2) := by decide +kernel
theorem d_mo_at_172 : decode cc_mo_at 172 = .ok (.iaload, 1) := by decide +kernel
theorem d_mo_at_173 : decode cc_mo_at 173 = .ok (.i2l, 1) := by decide +kernel
theorem d_mo_at_174 : decode cc_mo_at 174 = .ok (.lmul, 1) := by decide +kernel
theorem d_mo_at_175 : decode cc_mo_at 175 = .ok (.ladd, 1) := by decide +kernel
theorem d_mo_at_176 : decode cc_mo_at 176 = .ok (.lload 13, 2) := by decide +kernel
theorem d_mo_at_178 : decode cc_mo_at 178 = .ok (.aload_n 0, 1) := by decide +kernel
theorem d_mo_at_179 : decode cc_mo_at 179 = .ok (.getfield 16, 3) := by decide +kernel
theorem d_mo_at_182 : decode cc_mo_at 182 = .ok (.iload 7, 2) := by decide +kernel
theorem d_mo_at_184 : decode cc_mo_at 184 = .ok (.iaload, 1) := by decide +kernel
theorem d_mo_at_185 : decode cc_mo_at 185 = .ok (.i2l, 1) := by decide +kernel
theorem d_mo_at_186 : decode cc_mo_at 186 = .ok (.lmul, 1) := by decide +kernel
theorem d_mo_at_187 : decode cc_mo_at 187 = .ok (.ladd, 1) := by decide +kernel
theorem d_mo_at_188 : decode cc_mo_at 188 = .ok (.lload 9, 2) := by decide +kernel
theorem d_mo_at_190 : decode cc_mo_at 190 = .ok (.lload 11, 2) := by decide +kernel
theorem d_mo_at_192 : decode cc_mo_at 192 = .ok (.ladd, 1) := by decide +kernel
theorem d_mo_at_193 : decode cc_mo_at 193 = .ok (.lload 13, 2) := by decide +kernel
theorem d_mo_at_195 : decode cc_mo_at 195 = .ok (.ladd, 1) := by decide +kernel
theorem d_mo_at_196 : decode cc_mo_at 196 = .ok (.invokestatic 106, 3) := by decide +kernel
theorem d_mo_at_199 : decode cc_mo_at 199 = .ok (.l2i, 1) := by decide +kernel
theorem d_mo_at_200 : decode cc_mo_at 200 = .ok (.istore_n 3, 1) := by decide +kernel
theorem d_mo_at_201 : decode cc_mo_at 201 = .ok (.aload_n 0, 1) := by decide +kernel
theorem d_mo_at_202 : decode cc_mo_at 202 = .ok (.iconst 0, 1) := by decide +kernel
theorem d_mo_at_203 : decode cc_mo_at 203 = .ok (.putfield 56, 3) := by decide +kernel
theorem d_mo_at_206 : decode cc_mo_at 206 = .ok (.iinc 4 1, 3) := by decide +kernel
theorem d_mo_at_209 : decode cc_mo_at 209 = .ok (.goto (-199), 3) := by decide +kernel
theorem d_mo_at_212 : decode cc_mo_at 212 = .ok (.iload_n 3, 1) := by decide +kernel
theorem d_mo_at_213 : decode cc_mo_at 213 = .ok (.ireturn, 1) := by decide +kernel
abbrev cc_mo_isHigh : ByteArray := prog_7_method_20_code
def yy_mo_isHigh : MethodName := ⟨"SpotContoursModel", "isHigh", "(II)Z"⟩
def ww_mo_isHigh : List Cond := .code yy_mo_isHigh cc_mo_isHigh 3 (some .boolean) :: zz_B
theorem d_mo_isHigh_0 : decode cc_mo_isHigh 0 = .ok (.aload_n 0, 1) := by decide +kernel
theorem d_mo_isHigh_1 : decode cc_mo_isHigh 1 = .ok (.getfield 16, 3) := by decide +kernel
theorem d_mo_isHigh_4 : decode cc_mo_isHigh 4 = .ok (.iload_n 1, 1) := by decide +kernel
theorem d_mo_isHigh_5 : decode cc_mo_isHigh 5 = .ok (.iaload, 1) := by decide +kernel
theorem d_mo_isHigh_6 : decode cc_mo_isHigh 6 = .ok (.iload_n 2, 1) := by decide +kernel
theorem d_mo_isHigh_7 : decode cc_mo_isHigh 7 = .ok (.if_icmp .le 7, 3) := by decide +kernel
theorem d_mo_isHigh_10 : decode cc_mo_isHigh 10 = .ok (.iconst 1, 1) := by decide +kernel
theorem d_mo_isHigh_11 : decode cc_mo_isHigh 11 = .ok (.goto 4, 3) := by decide +kernel
theorem d_mo_isHigh_14 : decode cc_mo_isHigh 14 = .ok (.iconst 0, 1) := by decide +kernel
theorem d_mo_isHigh_15 : decode cc_mo_isHigh 15 = .ok (.ireturn, 1) := by decide +kernel
abbrev cc_mo_edgeOf : ByteArray := prog_7_method_21_code
def yy_mo_edgeOf : MethodName := ⟨"SpotContoursModel", "edgeOf", "(II)I"⟩
def ww_mo_edgeOf : List Cond := .code yy_mo_edgeOf cc_mo_edgeOf 2 (some .int) :: zz_B
theorem d_mo_edgeOf_0 : decode cc_mo_edgeOf 0 = .ok (.iload_n 0, 1) := by decide +kernel
theorem d_mo_edgeOf_1 : decode cc_mo_edgeOf 1 = .ok (.iload_n 1, 1) := by decide +kernel
theorem d_mo_edgeOf_2 : decode cc_mo_edgeOf 2 = .ok (.if_icmp .ge 12, 3) := by decide +kernel
theorem d_mo_edgeOf_5 : decode cc_mo_edgeOf 5 = .ok (.bipush 16, 2) := by decide +kernel
theorem d_mo_edgeOf_7 : decode cc_mo_edgeOf 7 = .ok (.iload_n 0, 1) := by decide +kernel
theorem d_mo_edgeOf_8 : decode cc_mo_edgeOf 8 = .ok (.imul, 1) := by decide +kernel
theorem d_mo_edgeOf_9 : decode cc_mo_edgeOf 9 = .ok (.iload_n 1, 1) := by decide +kernel
theorem d_mo_edgeOf_10 : decode cc_mo_edgeOf 10 = .ok (.iadd, 1) := by decide +kernel
theorem d_mo_edgeOf_11 : decode cc_mo_edgeOf 11 = .ok (.goto 9, 3) := by decide +kernel
theorem d_mo_edgeOf_14 : decode cc_mo_edgeOf 14 = .ok (.bipush 16, 2) := by decide +kernel
theorem d_mo_edgeOf_16 : decode cc_mo_edgeOf 16 = .ok (.iload_n 1, 1) := by decide +kernel
theorem d_mo_edgeOf_17 : decode cc_mo_edgeOf 17 = .ok (.imul, 1) := by decide +kernel
theorem d_mo_edgeOf_18 : decode cc_mo_edgeOf 18 = .ok (.iload_n 0, 1) := by decide +kernel
theorem d_mo_edgeOf_19 : decode cc_mo_edgeOf 19 = .ok (.iadd, 1) := by decide +kernel
theorem d_mo_edgeOf_20 : decode cc_mo_edgeOf 20 = .ok (.ireturn, 1) := by decide +kernel
abbrev cc_mo_join : ByteArray := prog_7_method_22_code
def yy_mo_join : MethodName := ⟨"SpotContoursModel", "join", "(IIII)V"⟩
def ww_mo_join : List Cond := .code yy_mo_join cc_mo_join 6 none :: zz_B
theorem d_mo_join_0 : decode cc_mo_join 0 = .ok (.aload_n 0, 1) := by decide +kernel
theorem d_mo_join_1 : decode cc_mo_join 1 = .ok (.iload_n 2, 1) := by decide +kernel
theorem d_mo_join_2 : decode cc_mo_join 2 = .ok (.iload_n 1, 1) := by decide +kernel
theorem d_mo_join_3 : decode cc_mo_join 3 = .ok (.iload_n 3, 1) := by decide +kernel
theorem d_mo_join_4 : decode cc_mo_join 4 = .ok (.invokevirtual 77, 3) := by decide +kernel
theorem d_mo_join_7 : decode cc_mo_join 7 = .ok (.ifCond .lt 4, 3) := by decide +kernel
theorem d_mo_join_10 : decode cc_mo_join 10 = .ok (.return_, 1) := by decide +kernel
theorem d_mo_join_11 : decode cc_mo_join 11 = .ok (.aload_n 0, 1) := by decide +kernel
theorem d_mo_join_12 : decode cc_mo_join 12 = .ok (.iload_n 3, 1) := by decide +kernel
theorem d_mo_join_13 : decode cc_mo_join 13 = .ok (.iload 4, 2) := by decide +kernel
theorem d_mo_join_15 : decode cc_mo_join 15 = .ok (.invokevirtual 110, 3) := by decide +kernel
theorem d_mo_join_18 : decode cc_mo_join 18 = .ok (.ifCond .eq 11, 3) := by decide +kernel
theorem d_mo_join_21 : decode cc_mo_join 21 = .ok (.iload_n 3, 1) := by decide +kernel
theorem d_mo_join_22 : decode cc_mo_join 22 = .ok (.iload_n 2, 1) := by decide +kernel
theorem d_mo_join_23 : decode cc_mo_join 23 = .ok (.invokestatic 113, 3) := by decide +kernel
theorem d_mo_join_26 : decode cc_mo_join 26 = .ok (.goto 8, 3) := by decide +kernel
theorem d_mo_join_29 : decode cc_mo_join 29 = .ok (.iload_n 1, 1) := by decide +kernel
theorem d_mo_join_30 : decode cc_mo_join 30 = .ok (.iload_n 3, 1) := by decide +kernel
theorem d_mo_join_31 : decode cc_mo_join 31 = .ok (.invokestatic 113, 3) := by decide +kernel
theorem d_mo_join_34 : decode cc_mo_join 34 = .ok (.istore 5, 2) := by decide +kernel
theorem d_mo_join_36 : decode cc_mo_join 36 = .ok (.aload_n 0, 1) := by decide +kernel
theorem d_mo_join_37 : decode cc_mo_join 37 = .ok (.getfield 26, 3) := by decide +kernel
theorem d_mo_join_40 : decode cc_mo_join 40 = .ok (.iload_n 1, 1) := by decide +kernel
theorem d_mo_join_41 : decode cc_mo_join 41 = .ok (.iload_n 2, 1) := by decide +kernel
theorem d_mo_join_42 : decode cc_mo_join 42 = .ok (.invokestatic 113, 3) := by decide +kernel
theorem d_mo_join_45 : decode cc_mo_join 45 = .ok (.iload 5, 2) := by decide +kernel
theorem d_mo_join_47 : decode cc_mo_join 47 = .ok (.iastore, 1) := by decide +kernel
theorem d_mo_join_48 : decode cc_mo_join 48 = .ok (.aload_n 0, 1) := by decide +kernel
theorem d_mo_join_49 : decode cc_mo_join 49 = .ok (.getfield 29, 3) := by decide +kernel
theorem d_mo_join_52 : decode cc_mo_join 52 = .ok (.iload 5, 2) := by decide +kernel
theorem d_mo_join_54 : decode cc_mo_join 54 = .ok (.iload_n 1, 1) := by decide +kernel
theorem d_mo_join_55 : decode cc_mo_join 55 = .ok (.iload_n 2, 1) := by decide +kernel
theorem d_mo_join_56 : decode cc_mo_join 56 = .ok (.invokestatic 113, 3) := by decide +kernel
theorem d_mo_join_59 : decode cc_mo_join 59 = .ok (.iastore, 1) := by decide +kernel
theorem d_mo_join_60 : decode cc_mo_join 60 = .ok (.return_, 1) := by decide +kernel
abbrev cc_mo_pair : ByteArray := prog_7_method_23_code
def yy_mo_pair : MethodName := ⟨"SpotContoursModel", "pair", "(IIII)V"⟩
def ww_mo_pair : List Cond := .code yy_mo_pair cc_mo_pair 5 none :: zz_B
theorem d_mo_pair_0 : decode cc_mo_pair 0 = .ok (.aload_n 0, 1) := by decide +kernel
theorem d_mo_pair_1 : decode cc_mo_pair 1 = .ok (.iload_n 1, 1) := by decide +kernel
theorem d_mo_pair_2 : decode cc_mo_pair 2 = .ok (.iload 4, 2) := by decide +kernel
theorem d_mo_pair_4 : decode cc_mo_pair 4 = .ok (.invokevirtual 110, 3) := by decide +kernel
theorem d_mo_pair_7 : decode cc_mo_pair 7 = .ok (.aload_n 0, 1) := by decide +kernel
theorem d_mo_pair_8 : decode cc_mo_pair 8 = .ok (.iload_n 2, 1) := by decide +kernel
theorem d_mo_pair_9 : decode cc_mo_pair 9 = .ok (.iload 4, 2) := by decide +kernel
theorem d_mo_pair_11 : decode cc_mo_pair 11 = .ok (.invokevirtual 110, 3) := by decide +kernel
theorem d_mo_pair_14 : decode cc_mo_pair 14 = .ok (.if_icmp .ne 4, 3) := by decide +kernel
theorem d_mo_pair_17 : decode cc_mo_pair 17 = .ok (.return_, 1) := by decide +kernel
theorem d_mo_pair_18 : decode cc_mo_pair 18 = .ok (.aload_n 0, 1) := by decide +kernel
theorem d_mo_pair_19 : decode cc_mo_pair 19 = .ok (.getfield 22, 3) := by decide +kernel
theorem d_mo_pair_22 : decode cc_mo_pair 22 = .ok (.iload_n 1, 1) := by decide +kernel
theorem d_mo_pair_23 : decode cc_mo_pair 23 = .ok (.iload_n 2, 1) := by decide +kernel
theorem d_mo_pair_24 : decode cc_mo_pair 24 = .ok (.invokestatic 113, 3) := by decide +kernel
theorem d_mo_pair_27 : decode cc_mo_pair 27 = .ok (.iconst 1, 1) := by decide +kernel
theorem d_mo_pair_28 : decode cc_mo_pair 28 = .ok (.bastore, 1) := by decide +kernel
theorem d_mo_pair_29 : decode cc_mo_pair 29 = .ok (.aload_n 0, 1) := by decide +kernel
theorem d_mo_pair_30 : decode cc_mo_pair 30 = .ok (.iload_n 1, 1) := by decide +kernel
theorem d_mo_pair_31 : decode cc_mo_pair 31 = .ok (.iload 4, 2) := by decide +kernel
theorem d_mo_pair_33 : decode cc_mo_pair 33 = .ok (.invokevirtual 110, 3) := by decide +kernel
theorem d_mo_pair_36 : decode cc_mo_pair 36 = .ok (.ifCond .eq 15, 3) := by decide +kernel
theorem d_mo_pair_39 : decode cc_mo_pair 39 = .ok (.aload_n 0, 1) := by decide +kernel
theorem d_mo_pair_40 : decode cc_mo_pair 40 = .ok (.iload_n 1, 1) := by decide +kernel
theorem d_mo_pair_41 : decode cc_mo_pair 41 = .ok (.iload_n 2, 1) := by decide +kernel
theorem d_mo_pair_42 : decode cc_mo_pair 42 = .ok (.iload_n 3, 1) := by decide +kernel
theorem d_mo_pair_43 : decode cc_mo_pair 43 = .ok (.iload 4, 2) := by decide +kernel
theorem d_mo_pair_45 : decode cc_mo_pair 45 = .ok (.invokevirtual 117, 3) := by decide +kernel
theorem d_mo_pair_48 : decode cc_mo_pair 48 = .ok (.goto 12, 3) := by decide +kernel
theorem d_mo_pair_51 : decode cc_mo_pair 51 = .ok (.aload_n 0, 1) := by decide +kernel
theorem d_mo_pair_52 : decode cc_mo_pair 52 = .ok (.iload_n 2, 1) := by decide +kernel
theorem d_mo_pair_53 : decode cc_mo_pair 53 = .ok (.iload_n 1, 1) := by decide +kernel
theorem d_mo_pair_54 : decode cc_mo_pair 54 = .ok (.iload_n 3, 1) := by decide +kernel
theorem d_mo_pair_55 : decode cc_mo_pair 55 = .ok (.iload 4, 2) := by decide +kernel
theorem d_mo_pair_57 : decode cc_mo_pair 57 = .ok (.invokevirtual 117, 3) := by decide +kernel
theorem d_mo_pair_60 : decode cc_mo_pair 60 = .ok (.return_, 1) := by decide +kernel
abbrev cc_mo_gather : ByteArray := prog_7_method_24_code
def yy_mo_gather : MethodName := ⟨"SpotContoursModel", "gather", "(I)V"⟩
def ww_mo_gather : List Cond := .code yy_mo_gather cc_mo_gather 6 none :: zz_B
theorem d_mo_gather_0 : decode cc_mo_gather 0 = .ok (.iload_n 1, 1) := by decide +kernel
theorem d_mo_gather_1 : decode cc_mo_gather 1 = .ok (.istore_n 2, 1) := by decide +kernel
theorem d_mo_gather_2 : decode cc_mo_gather 2 = .ok (.iconst 0, 1) := by decide +kernel
theorem d_mo_gather_3 : decode cc_mo_gather 3 = .ok (.istore_n 3, 1) := by decide +kernel
theorem d_mo_gather_4 : decode cc_mo_gather 4 = .ok (.aload_n 0, 1) := by decide +kernel
theorem d_mo_gather_5 : decode cc_mo_gather 5 = .ok (.getfield 29, 3) := by decide +kernel
theorem d_mo_gather_8 : decode cc_mo_gather 8 = .ok (.iload_n 2, 1) := by decide +kernel
theorem d_mo_gather_9 : decode cc_mo_gather 9 = .ok (.iaload, 1) := by decide +kernel
theorem d_mo_gather_10 : decode cc_mo_gather 10 = .ok (.ifCond .lt 28, 3) := by decide +kernel
theorem d_mo_gather_13 : decode cc_mo_gather 13 = .ok (.iload_n 3, 1) := by decide +kernel
theorem d_mo_gather_14 : decode cc_mo_gather 14 = .ok (.ifCond .ne 24, 3) := by decide +kernel
theorem d_mo_gather_17 : decode cc_mo_gather 17 = .ok (.aload_n 0, 1) := by decide +kernel
theorem d_mo_gather_18 : decode cc_mo_gather 18 = .ok (.getfield 29, 3) := by decide +kernel
theorem d_mo_gather_21 : decode cc_mo_gather 21 = .ok (.iload_n 2, 1) := by decide +kernel
theorem d_mo_gather_22 : decode cc_mo_gather 22 = .ok (.iaload, 1) := by decide +kernel
theorem d_mo_gather_23 : decode cc_mo_gather 23 = .ok (.istore_n 2, 1) := by decide +kernel
theorem d_mo_gather_24 : decode cc_mo_gather 24 = .ok (.iload_n 2, 1) := by decide +kernel
theorem d_mo_gather_25 : decode cc_mo_gather 25 = .ok (.iload_n 1, 1) := by decide +kernel
theorem d_mo_gather_26 : decode cc_mo_gather 26 = .ok (.if_icmp .ne 7, 3) := by decide +kernel
theorem d_mo_gather_29 : decode cc_mo_gather 29 = .ok (.iconst 1, 1) := by decide +kernel
theorem d_mo_gather_30 : decode cc_mo_gather 30 = .ok (.goto 4, 3) := by decide +kernel
theorem d_mo_gather_33 : decode cc_mo_gather 33 = .ok (.iconst 0, 1) := by decide +kernel
theorem d_mo_gather_34 : decode cc_mo_gather 34 = .ok (.istore_n 3, 1) := by decide +kernel
theorem d_mo_gather_35 : decode cc_mo_gather 35 = .ok (.goto (-31), 3) := by decide +kernel
theorem d_mo_gather_38 : decode cc_mo_gather 38 = .ok (.aload_n 0, 1) := by decide +kernel
theorem d_mo_gather_39 : decode cc_mo_gather 39 = .ok (.getfield 35, 3) := by decide +kernel
theorem d_mo_gather_42 : decode cc_mo_gather 42 = .ok (.aload_n 0, 1) := by decide +kernel
theorem d_mo_gather_43 : decode cc_mo_gather 43 = .ok (.getfield 121, 3) := by decide +kernel
theorem d_mo_gather_46 : decode cc_mo_gather 46 = .ok (.aload_n 0, 1) := by decide +kernel
theorem d_mo_gather_47 : decode cc_mo_gather 47 = .ok (.getfield 124, 3) := by decide +kernel
theorem d_mo_gather_50 : decode cc_mo_gather 50 = .ok (.iastore, 1) := by decide +kernel
theorem d_mo_gather_51 : decode cc_mo_gather 51 = .ok (.aload_n 0, 1) := by decide +kernel
theorem d_mo_gather_52 : decode cc_mo_gather 52 = .ok (.getfield 41, 3) := by decide +kernel
theorem d_mo_gather_55 : decode cc_mo_gather 55 = .ok (.aload_n 0, 1) := by decide +kernel
theorem d_mo_gather_56 : decode cc_mo_gather 56 = .ok (.getfield 121, 3) := by decide +kernel
theorem d_mo_gather_59 : decode cc_mo_gather 59 = .ok (.iload_n 3, 1) := by decide +kernel
theorem d_mo_gather_60 : decode cc_mo_gather 60 = .ok (.bastore, 1) := by decide +kernel
theorem d_mo_gather_61 : decode cc_mo_gather 61 = .ok (.iload_n 2, 1) := by decide +kernel
theorem d_mo_gather_62 : decode cc_mo_gather 62 = .ok (.istore 4, 2) := by decide +kernel
theorem d_mo_gather_64 : decode cc_mo_gather 64 = .ok (.iconst 1, 1) := by decide +kernel
theorem d_mo_gather_65 : decode cc_mo_gather 65 = .ok (.istore 5, 2) := by decide +kernel
theorem d_mo_gather_67 : decode cc_mo_gather 67 = .ok (.iload 5, 2) := by decide +kernel
theorem d_mo_gather_69 : decode cc_mo_gather 69 = .ok (.ifCond .eq 62, 3) := by decide +kernel
theorem d_mo_gather_72 : decode cc_mo_gather 72 = .ok (.aload_n 0, 1) := by decide +kernel
theorem d_mo_gather_73 : decode cc_mo_gather 73 = .ok (.getfield 44, 3) := by decide +kernel
theorem d_mo_gather_76 : decode cc_mo_gather 76 = .ok (.aload_n 0, 1) := by decide +kernel
theorem d_mo_gather_77 : decode cc_mo_gather 77 = .ok (.getfield 124, 3) := by decide +kernel
theorem d_mo_gather_80 : decode cc_mo_gather 80 = .ok (.iload 4, 2) := by decide +kernel
theorem d_mo_gather_82 : decode cc_mo_gather 82 = .ok (.iastore, 1) := by decide +kernel
theorem d_mo_gather_83 : decode cc_mo_gather 83 = .ok (.aload_n 0, 1) := by decide +kernel
theorem d_mo_gather_84 : decode cc_mo_gather 84 = .ok (.dup, 1) := by decide +kernel
theorem d_mo_gather_85 : decode cc_mo_gather 85 = .ok (.getfield 124, 3) := by decide +kernel
theorem d_mo_gather_88 : decode cc_mo_gather 88 = .ok (.iconst 1, 1) := by decide +kernel
theorem d_mo_gather_89 : decode cc_mo_gather 89 = .ok (.iadd, 1) := by decide +kernel
theorem d_mo_gather_90 : decode cc_mo_gather 90 = .ok (.putfield 124, 3) := by decide +kernel
theorem d_mo_gather_93 : decode cc_mo_gather 93 = .ok (.aload_n 0, 1) := by decide +kernel
theorem d_mo_gather_94 : decode cc_mo_gather 94 = .ok (.getfield 32, 3) := by decide +kernel
theorem d_mo_gather_97 : decode cc_mo_gather 97 = .ok (.iload 4, 2) := by decide +kernel
theorem d_mo_gather_99 : decode cc_mo_gather 99 = .ok (.iconst 1, 1) := by decide +kernel
theorem d_mo_gather_100 : decode cc_mo_gather 100 = .ok (.bastore, 1) := by decide +kernel
theorem d_mo_gather_101 : decode cc_mo_gather 101 = .ok (.aload_n 0, 1) := by decide +kernel
theorem d_mo_gather_102 : decode cc_mo_gather 102 = .ok (.getfield 26, 3) := by decide +kernel
theorem d_mo_gather_105 : decode cc_mo_gather 105 = .ok (.iload 4, 2) := by decide +kernel
theorem d_mo_gather_107 : decode cc_mo_gather 107 = .ok (.iaload, 1) := by decide +kernel
theorem d_mo_gather_108 : decode cc_mo_gather 108 = .ok (.istore 4, 2) := by decide +kernel
theorem d_mo_gather_110 : decode cc_mo_gather 110 = .ok (.iload 4, 2) := by decide +kernel
theorem d_mo_gather_112 : decode cc_mo_gather 112 = .ok (.ifCond .lt 13, 3) := by decide +kernel
theorem d_mo_gather_115 : decode cc_mo_gather 115 = .ok (.iload 4, 2) := by decide +kernel
theorem d_mo_gather_117 : decode cc_mo_gather 117 = .ok (.iload_n 2, 1) := by decide +kernel
theorem d_mo_gather_118 : decode cc_mo_gather 118 = .ok (.if_icmp .eq 7, 3) := by decide +kernel
theorem d_mo_gather_121 : decode cc_mo_gather 121 = .ok (.iconst 1, 1) := by decide +kernel
theorem d_mo_gather_122 : decode cc_mo_gather 122 = .ok (.goto 4, 3) := by decide +kernel
theorem d_mo_gather_125 : decode cc_mo_gather 125 = .ok (.iconst 0, 1) := by decide +kernel
theorem d_mo_gather_126 : decode cc_mo_gather 126 = .ok (.istore 5, 2) := by decide +kernel
theorem d_mo_gather_128 : decode cc_mo_gather 128 = .ok (.goto (-61), 3) := by decide +kernel
theorem d_mo_gather_131 : decode cc_mo_gather 131 = .ok (.aload_n 0, 1) := by decide +kernel
theorem d_mo_gather_132 : decode cc_mo_gather 132 = .ok (.getfield 38, 3) := by decide +kernel
theorem d_mo_gather_135 : decode cc_mo_gather 135 = .ok (.aload_n 0, 1) := by decide +kernel
theorem d_mo_gather_136 : decode cc_mo_gather 136 = .ok (.getfield 121, 3) := by decide +kernel
theorem d_mo_gather_139 : decode cc_mo_gather 139 = .ok (.aload_n 0, 1) := by decide +kernel
theorem d_mo_gather_140 : decode cc_mo_gather 140 = .ok (.getfield 124, 3) := by decide +kernel
theorem d_mo_gather_143 : decode cc_mo_gather 143 = .ok (.aload_n 0, 1) := by decide +kernel
theorem d_mo_gather_144 : decode cc_mo_gather 144 = .ok (.getfield 35, 3) := by decide +kernel
theorem d_mo_gather_147 : decode cc_mo_gather 147 = .ok (.aload_n 0, 1) := by decide +kernel
theorem d_mo_gather_148 : decode cc_mo_gather 148 = .ok (.getfield 121, 3) := by decide +kernel
theorem d_mo_gather_151 : decode cc_mo_gather 151 = .ok (.iaload, 1) := by decide +kernel
theorem d_mo_gather_152 : decode cc_mo_gather 152 = .ok (.isub, 1) := by decide +kernel
theorem d_mo_gather_153 : decode cc_mo_gather 153 = .ok (.iastore, 1) := by decide +kernel
theorem d_mo_gather_154 : decode cc_mo_gather 154 = .ok (.aload_n 0, 1) := by decide +kernel
theorem d_mo_gather_155 : decode cc_mo_gather 155 = .ok (.dup, 1) := by decide +kernel
theorem d_mo_gather_156 : decode cc_mo_gather 156 = .ok (.getfield 121, 3) := by decide +kernel
theorem d_mo_gather_159 : decode cc_mo_gather 159 = .ok (.iconst 1, 1) := by decide +kernel
theorem d_mo_gather_160 : decode cc_mo_gather 160 = .ok (.iadd, 1) := by decide +kernel
theorem d_mo_gather_161 : decode cc_mo_gather 161 = .ok (.putfield 121, 3) := by decide +kernel
theorem d_mo_gather_164 : decode cc_mo_gather 164 = .ok (.return_, 1) := by decide +kernel
end
section
/-! Names and decode rows, printed. -/
abbrev cc_mo_findContours : ByteArray := prog_7_method_25_code
def yy_mo_findContours : MethodName := ⟨"SpotContoursModel", "findContours", "(I)V"⟩
def ww_mo_findContours : List Cond := .code yy_mo_findContours cc_mo_findContours 6 none :: zz_B
theorem d_mo_findContours_0 : decode cc_mo_findContours 0 = .ok (.iconst 0, 1) := by decide +kernel
theorem d_mo_findContours_1 : decode cc_mo_findContours 1 = .ok (.istore_n 2, 1) := by decide +kernel
theorem d_mo_findContours_2 : decode cc_mo_findContours 2 = .ok (.iload_n 2, 1) := by decide +kernel
theorem d_mo_findContours_3 : decode cc_mo_findContours 3 = .ok (.sipush 256, 3) := by decide +kernel
theorem d_mo_findContours_6 : decode cc_mo_findContours 6 = .ok (.if_icmp .ge 37, 3) := by decide +kernel
theorem d_mo_findContours_9 : decode cc_mo_findContours 9 = .ok (.aload_n 0, 1) := by decide +kernel
theorem d_mo_findContours_10 : decode cc_mo_findContours 10 = .ok (.getfield 22, 3) := by decide +kernel
theorem d_mo_findContours_13 : decode cc_mo_findContours 13 = .ok (.iload_n 2, 1) := by decide +kernel
theorem d_mo_findContours_14 : decode cc_mo_findContours 14 = .ok (.iconst 0, 1) := by decide +kernel
theorem d_mo_findContours_15 : decode cc_mo_findContours 15 = .ok (.bastore, 1) := by decide +kernel
theorem d_mo_findContours_16 : decode cc_mo_findContours 16 = .ok (.aload_n 0, 1) := by decide +kernel
theorem d_mo_findContours_17 : decode cc_mo_findContours 17 = .ok (.getfield 32, 3) := by decide +kernel
theorem d_mo_findContours_20 : decode cc_mo_findContours 20 = .ok (.iload_n 2, 1) := by decide +kernel
theorem d_mo_findContours_21 : decode cc_mo_findContours 21 = .ok (.iconst 0, 1) := by decide +kernel
theorem d_mo_findContours_22 : decode cc_mo_findContours 22 = .ok (.bastore, 1) := by decide +kernel
theorem d_mo_findContours_23 : decode cc_mo_findContours 23 = .ok (.aload_n 0, 1) := by decide +kernel
theorem d_mo_findContours_24 : decode cc_mo_findContours 24 = .ok (.getfield 26, 3) := by decide +kernel
theorem d_mo_findContours_27 : decode cc_mo_findContours 27 = .ok (.iload_n 2, 1) := by decide +kernel
theorem d_mo_findContours_28 : decode cc_mo_findContours 28 = .ok (.iconst (-1), 1) := by decide +kernel
theorem d_mo_findContours_29 : decode cc_mo_findContours 29 = .ok (.iastore, 1) := by decide +kernel
theorem d_mo_findContours_30 : decode cc_mo_findContours 30 = .ok (.aload_n 0, 1) := by decide +kernel
theorem d_mo_findContours_31 : decode cc_mo_findContours 31 = .ok (.getfield 29, 3) := by decide +kernel
theorem d_mo_findContours_34 : decode cc_mo_findContours 34 = .ok (.iload_n 2, 1) := by decide +kernel
theorem d_mo_findContours_35 : decode cc_mo_findContours 35 = .ok (.iconst (-1), 1) := by decide +kernel
theorem d_mo_findContours_36 : decode cc_mo_findContours 36 = .ok (.iastore, 1) := by decide +kernel
theorem d_mo_findContours_37 : decode cc_mo_findContours 37 = .ok (.iinc 2 1, 3) := by decide +kernel
theorem d_mo_findContours_40 : decode cc_mo_findContours 40 = .ok (.goto (-38), 3) := by decide +kernel
theorem d_mo_findContours_43 : decode cc_mo_findContours 43 = .ok (.iconst 0, 1) := by decide +kernel
theorem d_mo_findContours_44 : decode cc_mo_findContours 44 = .ok (.istore_n 2, 1) := by decide +kernel
theorem d_mo_findContours_45 : decode cc_mo_findContours 45 = .ok (.iload_n 2, 1) := by decide +kernel
theorem d_mo_findContours_46 : decode cc_mo_findContours 46 = .ok (.aload_n 0, 1) := by decide +kernel
theorem d_mo_findContours_47 : decode cc_mo_findContours 47 = .ok (.getfield 92, 3) := by decide +kernel
theorem d_mo_findContours_50 : decode cc_mo_findContours 50 = .ok (.if_icmp .ge 72, 3) := by decide +kernel
theorem d_mo_findContours_53 : decode cc_mo_findContours 53 = .ok (.aload_n 0, 1) := by decide +kernel
theorem d_mo_findContours_54 : decode cc_mo_findContours 54 = .ok (.getfield 19, 3) := by decide +kernel
theorem d_mo_findContours_57 : decode cc_mo_findContours 57 = .ok (.iconst 3, 1) := by decide +kernel
theorem d_mo_findContours_58 : decode cc_mo_findContours 58 = .ok (.iload_n 2, 1) := by decide +kernel
theorem d_mo_findContours_59 : decode cc_mo_findContours 59 = .ok (.imul, 1) := by decide +kernel
theorem d_mo_findContours_60 : decode cc_mo_findContours 60 = .ok (.iaload, 1) := by decide +kernel
theorem d_mo_findContours_61 : decode cc_mo_findContours 61 = .ok (.istore_n 3, 1) := by decide +kernel
theorem d_mo_findContours_62 : decode cc_mo_findContours 62 = .ok (.aload_n 0, 1) := by decide +kernel
theorem d_mo_findContours_63 : decode cc_mo_findContours 63 = .ok (.getfield 19, 3) := by decide +kernel
theorem d_mo_findContours_66 : decode cc_mo_findContours 66 = .ok (.iconst 3, 1) := by decide +kernel
theorem d_mo_findContours_67 : decode cc_mo_findContours 67 = .ok (.iload_n 2, 1) := by decide +kernel
theorem d_mo_findContours_68 : decode cc_mo_findContours 68 = .ok (.imul, 1) := by decide +kernel
theorem d_mo_findContours_69 : decode cc_mo_findContours 69 = .ok (.iconst 1, 1) := by decide +kernel
theorem d_mo_findContours_70 : decode cc_mo_findContours 70 = .ok (.iadd, 1) := by decide +kernel
theorem d_mo_findContours_71 : decode cc_mo_findContours 71 = .ok (.iaload, 1) := by decide +kernel
theorem d_mo_findContours_72 : decode cc_mo_findContours 72 = .ok (.istore 4, 2) := by decide +kernel
theorem d_mo_findContours_74 : decode cc_mo_findContours 74 = .ok (.aload_n 0, 1) := by decide +kernel
theorem d_mo_findContours_75 : decode cc_mo_findContours 75 = .ok (.getfield 19, 3) := by decide +kernel
theorem d_mo_findContours_78 : decode cc_mo_findContours 78 = .ok (.iconst 3, 1) := by decide +kernel
theorem d_mo_findContours_79 : decode cc_mo_findContours 79 = .ok (.iload_n 2, 1) := by decide +kernel
theorem d_mo_findContours_80 : decode cc_mo_findContours 80 = .ok (.imul, 1) := by decide +kernel
theorem d_mo_findContours_81 : decode cc_mo_findContours 81 = .ok (.iconst 2, 1) := by decide +kernel
theorem d_mo_findContours_82 : decode cc_mo_findContours 82 = .ok (.iadd, 1) := by decide +kernel
theorem d_mo_findContours_83 : decode cc_mo_findContours 83 = .ok (.iaload, 1) := by decide +kernel
theorem d_mo_findContours_84 : decode cc_mo_findContours 84 = .ok (.istore 5, 2) := by decide +kernel
theorem d_mo_findContours_86 : decode cc_mo_findContours 86 = .ok (.aload_n 0, 1) := by decide +kernel
theorem d_mo_findContours_87 : decode cc_mo_findContours 87 = .ok (.iload_n 3, 1) := by decide +kernel
theorem d_mo_findContours_88 : decode cc_mo_findContours 88 = .ok (.iload 4, 2) := by decide +kernel
theorem d_mo_findContours_90 : decode cc_mo_findContours 90 = .ok (.iload 5, 2) := by decide +kernel
theorem d_mo_findContours_92 : decode cc_mo_findContours 92 = .ok (.iload_n 1, 1) := by decide +kernel
theorem d_mo_findContours_93 : decode cc_mo_findContours 93 = .ok (.invokevirtual 127, 3) := by decide +kernel
theorem d_mo_findContours_96 : decode cc_mo_findContours 96 = .ok (.aload_n 0, 1) := by decide +kernel
theorem d_mo_findContours_97 : decode cc_mo_findContours 97 = .ok (.iload_n 3, 1) := by decide +kernel
theorem d_mo_findContours_98 : decode cc_mo_findContours 98 = .ok (.iload 5, 2) := by decide +kernel
theorem d_mo_findContours_100 : decode cc_mo_findContours 100 = .ok (.iload 4, 2) := by decide +kernel
theorem d_mo_findContours_102 : decode cc_mo_findContours 102 = .ok (.iload_n 1, 1) := by decide +kernel
theorem d_mo_findContours_103 : decode cc_mo_findContours 103 = .ok (.invokevirtual 127, 3) := by decide +kernel
theorem d_mo_findContours_106 : decode cc_mo_findContours 106 = .ok (.aload_n 0, 1) := by decide +kernel
theorem d_mo_findContours_107 : decode cc_mo_findContours 107 = .ok (.iload 4, 2) := by decide +kernel
theorem d_mo_findContours_109 : decode cc_mo_findContours 109 = .ok (.iload 5, 2) := by decide +kernel
theorem d_mo_findContours_111 : decode cc_mo_findContours 111 = .ok (.iload_n 3, 1) := by decide +kernel
theorem d_mo_findContours_112 : decode cc_mo_findContours 112 = .ok (.iload_n 1, 1) := by decide +kernel
theorem d_mo_findContours_113 : decode cc_mo_findContours 113 = .ok (.invokevirtual 127, 3) := by decide +kernel
theorem d_mo_findContours_116 : decode cc_mo_findContours 116 = .ok (.iinc 2 1, 3) := by decide +kernel
theorem d_mo_findContours_119 : decode cc_mo_findContours 119 = .ok (.goto (-74), 3) := by decide +kernel
theorem d_mo_findContours_122 : decode cc_mo_findContours 122 = .ok (.aload_n 0, 1) := by decide +kernel
theorem d_mo_findContours_123 : decode cc_mo_findContours 123 = .ok (.iconst 0, 1) := by decide +kernel
theorem d_mo_findContours_124 : decode cc_mo_findContours 124 = .ok (.putfield 121, 3) := by decide +kernel
theorem d_mo_findContours_127 : decode cc_mo_findContours 127 = .ok (.aload_n 0, 1) := by decide +kernel
theorem d_mo_findContours_128 : decode cc_mo_findContours 128 = .ok (.iconst 0, 1) := by decide +kernel
theorem d_mo_findContours_129 : decode cc_mo_findContours 129 = .ok (.putfield 124, 3) := by decide +kernel
theorem d_mo_findContours_132 : decode cc_mo_findContours 132 = .ok (.iconst 0, 1) := by decide +kernel
theorem d_mo_findContours_133 : decode cc_mo_findContours 133 = .ok (.istore_n 2, 1) := by decide +kernel
theorem d_mo_findContours_134 : decode cc_mo_findContours 134 = .ok (.iload_n 2, 1) := by decide +kernel
theorem d_mo_findContours_135 : decode cc_mo_findContours 135 = .ok (.sipush 256, 3) := by decide +kernel
theorem d_mo_findContours_138 : decode cc_mo_findContours 138 = .ok (.if_icmp .ge 32, 3) := by decide +kernel
theorem d_mo_findContours_141 : decode cc_mo_findContours 141 = .ok (.aload_n 0, 1) := by decide +kernel
theorem d_mo_findContours_142 : decode cc_mo_findContours 142 = .ok (.getfield 22, 3) := by decide +kernel
theorem d_mo_findContours_145 : decode cc_mo_findContours 145 = .ok (.iload_n 2, 1) := by decide +kernel
theorem d_mo_findContours_146 : decode cc_mo_findContours 146 = .ok (.baload, 1) := by decide +kernel
theorem d_mo_findContours_147 : decode cc_mo_findContours 147 = .ok (.ifCond .eq 17, 3) := by decide +kernel
theorem d_mo_findContours_150 : decode cc_mo_findContours 150 = .ok (.aload_n 0, 1) := by decide +kernel
theorem d_mo_findContours_151 : decode cc_mo_findContours 151 = .ok (.getfield 32, 3) := by decide +kernel
theorem d_mo_findContours_154 : decode cc_mo_findContours 154 = .ok (.iload_n 2, 1) := by decide +kernel
theorem d_mo_findContours_155 : decode cc_mo_findContours 155 = .ok (.baload, 1) := by decide +kernel
theorem d_mo_findContours_156 : decode cc_mo_findContours 156 = .ok (.ifCond .ne 8, 3) := by decide +kernel
theorem d_mo_findContours_159 : decode cc_mo_findContours 159 = .ok (.aload_n 0, 1) := by decide +kernel
theorem d_mo_findContours_160 : decode cc_mo_findContours 160 = .ok (.iload_n 2, 1) := by decide +kernel
theorem d_mo_findContours_161 : decode cc_mo_findContours 161 = .ok (.invokevirtual 130, 3) := by decide +kernel
theorem d_mo_findContours_164 : decode cc_mo_findContours 164 = .ok (.iinc 2 1, 3) := by decide +kernel
theorem d_mo_findContours_167 : decode cc_mo_findContours 167 = .ok (.goto (-33), 3) := by decide +kernel
theorem d_mo_findContours_170 : decode cc_mo_findContours 170 = .ok (.return_, 1) := by decide +kernel
abbrev cc_mo_isLevel : ByteArray := prog_7_method_26_code
def yy_mo_isLevel : MethodName := ⟨"SpotContoursModel", "isLevel", "(I)Z"⟩
def ww_mo_isLevel : List Cond := .code yy_mo_isLevel cc_mo_isLevel 1 (some .boolean) :: zz_B
theorem d_mo_isLevel_0 : decode cc_mo_isLevel 0 = .ok (.iload_n 0, 1) := by decide +kernel
theorem d_mo_isLevel_1 : decode cc_mo_isLevel 1 = .ok (.ifCond .lt 14, 3) := by decide +kernel
theorem d_mo_isLevel_4 : decode cc_mo_isLevel 4 = .ok (.iload_n 0, 1) := by decide +kernel
theorem d_mo_isLevel_5 : decode cc_mo_isLevel 5 = .ok (.sipush 998, 3) := by decide +kernel
theorem d_mo_isLevel_8 : decode cc_mo_isLevel 8 = .ok (.if_icmp .gt 7, 3) := by decide +kernel
theorem d_mo_isLevel_11 : decode cc_mo_isLevel 11 = .ok (.iconst 1, 1) := by decide +kernel
theorem d_mo_isLevel_12 : decode cc_mo_isLevel 12 = .ok (.goto 4, 3) := by decide +kernel
theorem d_mo_isLevel_15 : decode cc_mo_isLevel 15 = .ok (.iconst 0, 1) := by decide +kernel
theorem d_mo_isLevel_16 : decode cc_mo_isLevel 16 = .ok (.ireturn, 1) := by decide +kernel
abbrev cc_mo_contours : ByteArray := prog_7_method_27_code
def yy_mo_contours : MethodName := ⟨"SpotContoursModel", "contours", "(I)I"⟩
def ww_mo_contours : List Cond := .code yy_mo_contours cc_mo_contours 2 (some .int) :: zz_B
theorem d_mo_contours_0 : decode cc_mo_contours 0 = .ok (.aload_n 0, 1) := by decide +kernel
theorem d_mo_contours_1 : decode cc_mo_contours 1 = .ok (.iload_n 1, 1) := by decide +kernel
theorem d_mo_contours_2 : decode cc_mo_contours 2 = .ok (.invokestatic 134, 3) := by decide +kernel
theorem d_mo_contours_5 : decode cc_mo_contours 5 = .ok (.ifCond .eq 7, 3) := by decide +kernel
theorem d_mo_contours_8 : decode cc_mo_contours 8 = .ok (.iconst 0, 1) := by decide +kernel
theorem d_mo_contours_9 : decode cc_mo_contours 9 = .ok (.goto 4, 3) := by decide +kernel
theorem d_mo_contours_12 : decode cc_mo_contours 12 = .ok (.iconst 1, 1) := by decide +kernel
theorem d_mo_contours_13 : decode cc_mo_contours 13 = .ok (.putfield 56, 3) := by decide +kernel
theorem d_mo_contours_16 : decode cc_mo_contours 16 = .ok (.aload_n 0, 1) := by decide +kernel
theorem d_mo_contours_17 : decode cc_mo_contours 17 = .ok (.getfield 56, 3) := by decide +kernel
theorem d_mo_contours_20 : decode cc_mo_contours 20 = .ok (.ifCond .eq 5, 3) := by decide +kernel
theorem d_mo_contours_23 : decode cc_mo_contours 23 = .ok (.iconst 0, 1) := by decide +kernel
theorem d_mo_contours_24 : decode cc_mo_contours 24 = .ok (.ireturn, 1) := by decide +kernel
theorem d_mo_contours_25 : decode cc_mo_contours 25 = .ok (.aload_n 0, 1) := by decide +kernel
theorem d_mo_contours_26 : decode cc_mo_contours 26 = .ok (.iload_n 1, 1) := by decide +kernel
theorem d_mo_contours_27 : decode cc_mo_contours 27 = .ok (.invokevirtual 137, 3) := by decide +kernel
theorem d_mo_contours_30 : decode cc_mo_contours 30 = .ok (.aload_n 0, 1) := by decide +kernel
theorem d_mo_contours_31 : decode cc_mo_contours 31 = .ok (.getfield 121, 3) := by decide +kernel
theorem d_mo_contours_34 : decode cc_mo_contours 34 = .ok (.ireturn, 1) := by decide +kernel
abbrev cc_mo_asked : ByteArray := prog_7_method_28_code
def yy_mo_asked : MethodName := ⟨"SpotContoursModel", "asked", "(II)I"⟩
def ww_mo_asked : List Cond := .code yy_mo_asked cc_mo_asked 3 (some .int) :: zz_B
theorem d_mo_asked_0 : decode cc_mo_asked 0 = .ok (.iload_n 1, 1) := by decide +kernel
theorem d_mo_asked_1 : decode cc_mo_asked 1 = .ok (.invokestatic 134, 3) := by decide +kernel
theorem d_mo_asked_4 : decode cc_mo_asked 4 = .ok (.ifCond .ne 5, 3) := by decide +kernel
theorem d_mo_asked_7 : decode cc_mo_asked 7 = .ok (.iconst 1, 1) := by decide +kernel
theorem d_mo_asked_8 : decode cc_mo_asked 8 = .ok (.ireturn, 1) := by decide +kernel
theorem d_mo_asked_9 : decode cc_mo_asked 9 = .ok (.aload_n 0, 1) := by decide +kernel
theorem d_mo_asked_10 : decode cc_mo_asked 10 = .ok (.iload_n 1, 1) := by decide +kernel
theorem d_mo_asked_11 : decode cc_mo_asked 11 = .ok (.invokevirtual 137, 3) := by decide +kernel
theorem d_mo_asked_14 : decode cc_mo_asked 14 = .ok (.iload_n 2, 1) := by decide +kernel
theorem d_mo_asked_15 : decode cc_mo_asked 15 = .ok (.ifCond .lt 11, 3) := by decide +kernel
theorem d_mo_asked_18 : decode cc_mo_asked 18 = .ok (.iload_n 2, 1) := by decide +kernel
theorem d_mo_asked_19 : decode cc_mo_asked 19 = .ok (.aload_n 0, 1) := by decide +kernel
theorem d_mo_asked_20 : decode cc_mo_asked 20 = .ok (.getfield 121, 3) := by decide +kernel
theorem d_mo_asked_23 : decode cc_mo_asked 23 = .ok (.if_icmp .lt 7, 3) := by decide +kernel
theorem d_mo_asked_26 : decode cc_mo_asked 26 = .ok (.iconst 2, 1) := by decide +kernel
theorem d_mo_asked_27 : decode cc_mo_asked 27 = .ok (.goto 4, 3) := by decide +kernel
theorem d_mo_asked_30 : decode cc_mo_asked 30 = .ok (.iconst 0, 1) := by decide +kernel
theorem d_mo_asked_31 : decode cc_mo_asked 31 = .ok (.ireturn, 1) := by decide +kernel
abbrev cc_mo_isHollow : ByteArray := prog_7_method_29_code
def yy_mo_isHollow : MethodName := ⟨"SpotContoursModel", "isHollow", "(II)Z"⟩
def ww_mo_isHollow : List Cond := .code yy_mo_isHollow cc_mo_isHollow 5 (some .boolean) :: zz_B
theorem d_mo_isHollow_0 : decode cc_mo_isHollow 0 = .ok (.aload_n 0, 1) := by decide +kernel
theorem d_mo_isHollow_1 : decode cc_mo_isHollow 1 = .ok (.getfield 44, 3) := by decide +kernel
theorem d_mo_isHollow_4 : decode cc_mo_isHollow 4 = .ok (.aload_n 0, 1) := by decide +kernel
theorem d_mo_isHollow_5 : decode cc_mo_isHollow 5 = .ok (.getfield 35, 3) := by decide +kernel
theorem d_mo_isHollow_8 : decode cc_mo_isHollow 8 = .ok (.iload_n 2, 1) := by decide +kernel
theorem d_mo_isHollow_9 : decode cc_mo_isHollow 9 = .ok (.iaload, 1) := by decide +kernel
theorem d_mo_isHollow_10 : decode cc_mo_isHollow 10 = .ok (.iaload, 1) := by decide +kernel
theorem d_mo_isHollow_11 : decode cc_mo_isHollow 11 = .ok (.bipush 16, 2) := by decide +kernel
theorem d_mo_isHollow_13 : decode cc_mo_isHollow 13 = .ok (.idiv, 1) := by decide +kernel
theorem d_mo_isHollow_14 : decode cc_mo_isHollow 14 = .ok (.istore_n 3, 1) := by decide +kernel
theorem d_mo_isHollow_15 : decode cc_mo_isHollow 15 = .ok (.aload_n 0, 1) := by decide +kernel
theorem d_mo_isHollow_16 : decode cc_mo_isHollow 16 = .ok (.getfield 35, 3) := by decide +kernel
theorem d_mo_isHollow_19 : decode cc_mo_isHollow 19 = .ok (.iload_n 2, 1) := by decide +kernel
theorem d_mo_isHollow_20 : decode cc_mo_isHollow 20 = .ok (.iaload, 1) := by decide +kernel
theorem d_mo_isHollow_21 : decode cc_mo_isHollow 21 = .ok (.istore 4, 2) := by decide +kernel
theorem d_mo_isHollow_23 : decode cc_mo_isHollow 23 = .ok (.iload 4, 2) := by decide +kernel
theorem d_mo_isHollow_25 : decode cc_mo_isHollow 25 = .ok (.aload_n 0, 1) := by decide +kernel
theorem d_mo_isHollow_26 : decode cc_mo_isHollow 26 = .ok (.getfield 35, 3) := by decide +kernel
theorem d_mo_isHollow_29 : decode cc_mo_isHollow 29 = .ok (.iload_n 2, 1) := by decide +kernel
theorem d_mo_isHollow_30 : decode cc_mo_isHollow 30 = .ok (.iaload, 1) := by decide +kernel
theorem d_mo_isHollow_31 : decode cc_mo_isHollow 31 = .ok (.aload_n 0, 1) := by decide +kernel
theorem d_mo_isHollow_32 : decode cc_mo_isHollow 32 = .ok (.getfield 38, 3) := by decide +kernel
theorem d_mo_isHollow_35 : decode cc_mo_isHollow 35 = .ok (.iload_n 2, 1) := by decide +kernel
theorem d_mo_isHollow_36 : decode cc_mo_isHollow 36 = .ok (.iaload, 1) := by decide +kernel
theorem d_mo_isHollow_37 : decode cc_mo_isHollow 37 = .ok (.iadd, 1) := by decide +kernel
theorem d_mo_isHollow_38 : decode cc_mo_isHollow 38 = .ok (.if_icmp .ge 87, 3) := by decide +kernel
theorem d_mo_isHollow_41 : decode cc_mo_isHollow 41 = .ok (.aload_n 0, 1) := by decide +kernel
theorem d_mo_isHollow_42 : decode cc_mo_isHollow 42 = .ok (.getfield 7, 3) := by decide +kernel
theorem d_mo_isHollow_45 : decode cc_mo_isHollow 45 = .ok (.aload_n 0, 1) := by decide +kernel
theorem d_mo_isHollow_46 : decode cc_mo_isHollow 46 = .ok (.getfield 44, 3) := by decide +kernel
theorem d_mo_isHollow_49 : decode cc_mo_isHollow 49 = .ok (.iload 4, 2) := by decide +kernel
theorem d_mo_isHollow_51 : decode cc_mo_isHollow 51 = .ok (.iaload, 1) := by decide +kernel
theorem d_mo_isHollow_52 : decode cc_mo_isHollow 52 = .ok (.bipush 16, 2) := by decide +kernel
theorem d_mo_isHollow_54 : decode cc_mo_isHollow 54 = .ok (.idiv, 1) := by decide +kernel
theorem d_mo_isHollow_55 : decode cc_mo_isHollow 55 = .ok (.iaload, 1) := by decide +kernel
theorem d_mo_isHollow_56 : decode cc_mo_isHollow 56 = .ok (.aload_n 0, 1) := by decide +kernel
theorem d_mo_isHollow_57 : decode cc_mo_isHollow 57 = .ok (.getfield 7, 3) := by decide +kernel
theorem d_mo_isHollow_60 : decode cc_mo_isHollow 60 = .ok (.iload_n 3, 1) := by decide +kernel
theorem d_mo_isHollow_61 : decode cc_mo_isHollow 61 = .ok (.iaload, 1) := by decide +kernel
theorem d_mo_isHollow_62 : decode cc_mo_isHollow 62 = .ok (.if_icmp .ge 16, 3) := by decide +kernel
theorem d_mo_isHollow_65 : decode cc_mo_isHollow 65 = .ok (.aload_n 0, 1) := by decide +kernel
theorem d_mo_isHollow_66 : decode cc_mo_isHollow 66 = .ok (.getfield 44, 3) := by decide +kernel
theorem d_mo_isHollow_69 : decode cc_mo_isHollow 69 = .ok (.iload 4, 2) := by decide +kernel
theorem d_mo_isHollow_71 : decode cc_mo_isHollow 71 = .ok (.iaload, 1) := by decide +kernel
theorem d_mo_isHollow_72 : decode cc_mo_isHollow 72 = .ok (.bipush 16, 2) := by decide +kernel
theorem d_mo_isHollow_74 : decode cc_mo_isHollow 74 = .ok (.idiv, 1) := by decide +kernel
theorem d_mo_isHollow_75 : decode cc_mo_isHollow 75 = .ok (.goto 4, 3) := by decide +kernel
theorem d_mo_isHollow_78 : decode cc_mo_isHollow 78 = .ok (.iload_n 3, 1) := by decide +kernel
theorem d_mo_isHollow_79 : decode cc_mo_isHollow 79 = .ok (.istore_n 3, 1) := by decide +kernel
theorem d_mo_isHollow_80 : decode cc_mo_isHollow 80 = .ok (.aload_n 0, 1) := by decide +kernel
theorem d_mo_isHollow_81 : decode cc_mo_isHollow 81 = .ok (.getfield 7, 3) := by decide +kernel
theorem d_mo_isHollow_84 : decode cc_mo_isHollow 84 = .ok (.aload_n 0, 1) := by decide +kernel
theorem d_mo_isHollow_85 : decode cc_mo_isHollow 85 = .ok (.getfield 44, 3) := by decide +kernel
theorem d_mo_isHollow_88 : decode cc_mo_isHollow 88 = .ok (.iload 4, 2) := by decide +kernel
theorem d_mo_isHollow_90 : decode cc_mo_isHollow 90 = .ok (.iaload, 1) := by decide +kernel
theorem d_mo_isHollow_91 : decode cc_mo_isHollow 91 = .ok (.bipush 16, 2) := by decide +kernel
theorem d_mo_isHollow_93 : decode cc_mo_isHollow 93 = .ok (.irem, 1) := by decide +kernel
theorem d_mo_isHollow_94 : decode cc_mo_isHollow 94 = .ok (.iaload, 1) := by decide +kernel
theorem d_mo_isHollow_95 : decode cc_mo_isHollow 95 = .ok (.aload_n 0, 1) := by decide +kernel
theorem d_mo_isHollow_96 : decode cc_mo_isHollow 96 = .ok (.getfield 7, 3) := by decide +kernel
theorem d_mo_isHollow_99 : decode cc_mo_isHollow 99 = .ok (.iload_n 3, 1) := by decide +kernel
theorem d_mo_isHollow_100 : decode cc_mo_isHollow 100 = .ok (.iaload, 1) := by decide +kernel
theorem d_mo_isHollow_101 : decode cc_mo_isHollow 101 = .ok (.if_icmp .ge 16, 3) := by decide +kernel
theorem d_mo_isHollow_104 : decode cc_mo_isHollow 104 = .ok (.aload_n 0, 1) := by decide +kernel
theorem d_mo_isHollow_105 : decode cc_mo_isHollow 105 = .ok (.getfield 44, 3) := by decide +kernel
theorem d_mo_isHollow_108 : decode cc_mo_isHollow 108 = .ok (.iload 4, 2) := by decide +kernel
theorem d_mo_isHollow_110 : decode cc_mo_isHollow 110 = .ok (.iaload, 1) := by decide +kernel
theorem d_mo_isHollow_111 : decode cc_mo_isHollow 111 = .ok (.bipush 16, 2) := by decide +kernel
theorem d_mo_isHollow_113 : decode cc_mo_isHollow 113 = .ok (.irem, 1) := by decide +kernel
theorem d_mo_isHollow_114 : decode cc_mo_isHollow 114 = .ok (.goto 4, 3) := by decide +kernel
theorem d_mo_isHollow_117 : decode cc_mo_isHollow 117 = .ok (.iload_n 3, 1) := by decide +kernel
theorem d_mo_isHollow_118 : decode cc_mo_isHollow 118 = .ok (.istore_n 3, 1) := by decide +kernel
theorem d_mo_isHollow_119 : decode cc_mo_isHollow 119 = .ok (.iinc 4 1, 3) := by decide +kernel
theorem d_mo_isHollow_122 : decode cc_mo_isHollow 122 = .ok (.goto (-99), 3) := by decide +kernel
theorem d_mo_isHollow_125 : decode cc_mo_isHollow 125 = .ok (.aload_n 0, 1) := by decide +kernel
theorem d_mo_isHollow_126 : decode cc_mo_isHollow 126 = .ok (.iload_n 3, 1) := by decide +kernel
theorem d_mo_isHollow_127 : decode cc_mo_isHollow 127 = .ok (.iload_n 1, 1) := by decide +kernel
theorem d_mo_isHollow_128 : decode cc_mo_isHollow 128 = .ok (.invokevirtual 110, 3) := by decide +kernel
theorem d_mo_isHollow_131 : decode cc_mo_isHollow 131 = .ok (.ireturn, 1) := by decide +kernel
abbrev cc_mo_contour : ByteArray := prog_7_method_30_code
def yy_mo_contour : MethodName := ⟨"SpotContoursModel", "contour", "(II)I"⟩
def ww_mo_contour : List Cond := .code yy_mo_contour cc_mo_contour 3 (some .int) :: zz_B
theorem d_mo_contour_0 : decode cc_mo_contour 0 = .ok (.aload_n 0, 1) := by decide +kernel
theorem d_mo_contour_1 : decode cc_mo_contour 1 = .ok (.aload_n 0, 1) := by decide +kernel
theorem d_mo_contour_2 : decode cc_mo_contour 2 = .ok (.iload_n 1, 1) := by decide +kernel
theorem d_mo_contour_3 : decode cc_mo_contour 3 = .ok (.iload_n 2, 1) := by decide +kernel
theorem d_mo_contour_4 : decode cc_mo_contour 4 = .ok (.invokevirtual 140, 3) := by decide +kernel
theorem d_mo_contour_7 : decode cc_mo_contour 7 = .ok (.putfield 56, 3) := by decide +kernel
theorem d_mo_contour_10 : decode cc_mo_contour 10 = .ok (.aload_n 0, 1) := by decide +kernel
theorem d_mo_contour_11 : decode cc_mo_contour 11 = .ok (.getfield 56, 3) := by decide +kernel
theorem d_mo_contour_14 : decode cc_mo_contour 14 = .ok (.ifCond .eq 5, 3) := by decide +kernel
theorem d_mo_contour_17 : decode cc_mo_contour 17 = .ok (.iconst 0, 1) := by decide +kernel
theorem d_mo_contour_18 : decode cc_mo_contour 18 = .ok (.ireturn, 1) := by decide +kernel
theorem d_mo_contour_19 : decode cc_mo_contour 19 = .ok (.aload_n 0, 1) := by decide +kernel
theorem d_mo_contour_20 : decode cc_mo_contour 20 = .ok (.getfield 38, 3) := by decide +kernel
theorem d_mo_contour_23 : decode cc_mo_contour 23 = .ok (.iload_n 2, 1) := by decide +kernel
theorem d_mo_contour_24 : decode cc_mo_contour 24 = .ok (.iaload, 1) := by decide +kernel
theorem d_mo_contour_25 : decode cc_mo_contour 25 = .ok (.aload_n 0, 1) := by decide +kernel
theorem d_mo_contour_26 : decode cc_mo_contour 26 = .ok (.getfield 41, 3) := by decide +kernel
theorem d_mo_contour_29 : decode cc_mo_contour 29 = .ok (.iload_n 2, 1) := by decide +kernel
theorem d_mo_contour_30 : decode cc_mo_contour 30 = .ok (.baload, 1) := by decide +kernel
theorem d_mo_contour_31 : decode cc_mo_contour 31 = .ok (.ifCond .ne 7, 3) := by decide +kernel
theorem d_mo_contour_34 : decode cc_mo_contour 34 = .ok (.iconst 0, 1) := by decide +kernel
theorem d_mo_contour_35 : decode cc_mo_contour 35 = .ok (.goto 21, 3) := by decide +kernel
theorem d_mo_contour_38 : decode cc_mo_contour 38 = .ok (.aload_n 0, 1) := by decide +kernel
theorem d_mo_contour_39 : decode cc_mo_contour 39 = .ok (.iload_n 1, 1) := by decide +kernel
theorem d_mo_contour_40 : decode cc_mo_contour 40 = .ok (.iload_n 2, 1) := by decide +kernel
theorem d_mo_contour_41 : decode cc_mo_contour 41 = .ok (.invokevirtual 143, 3) := by decide +kernel
theorem d_mo_contour_44 : decode cc_mo_contour 44 = .ok (.ifCond .eq 9, 3) := by decide +kernel
theorem d_mo_contour_47 : decode cc_mo_contour 47 = .ok (.sipush 2000, 3) := by decide +kernel
theorem d_mo_contour_50 : decode cc_mo_contour 50 = .ok (.goto 6, 3) := by decide +kernel
theorem d_mo_contour_53 : decode cc_mo_contour 53 = .ok (.sipush 1000, 3) := by decide +kernel
theorem d_mo_contour_56 : decode cc_mo_contour 56 = .ok (.iadd, 1) := by decide +kernel
theorem d_mo_contour_57 : decode cc_mo_contour 57 = .ok (.ireturn, 1) := by decide +kernel
abbrev cc_mo_askedFor : ByteArray := prog_7_method_31_code
def yy_mo_askedFor : MethodName := ⟨"SpotContoursModel", "askedFor", "(III)I"⟩
def ww_mo_askedFor : List Cond := .code yy_mo_askedFor cc_mo_askedFor 5 (some .int) :: zz_B
theorem d_mo_askedFor_0 : decode cc_mo_askedFor 0 = .ok (.aload_n 0, 1) := by decide +kernel
theorem d_mo_askedFor_1 : decode cc_mo_askedFor 1 = .ok (.iload_n 1, 1) := by decide +kernel
theorem d_mo_askedFor_2 : decode cc_mo_askedFor 2 = .ok (.iload_n 2, 1) := by decide +kernel
theorem d_mo_askedFor_3 : decode cc_mo_askedFor 3 = .ok (.invokevirtual 140, 3) := by decide +kernel
theorem d_mo_askedFor_6 : decode cc_mo_askedFor 6 = .ok (.istore 4, 2) := by decide +kernel
theorem d_mo_askedFor_8 : decode cc_mo_askedFor 8 = .ok (.iload 4, 2) := by decide +kernel
theorem d_mo_askedFor_10 : decode cc_mo_askedFor 10 = .ok (.ifCond .ne 21, 3) := by decide +kernel
theorem d_mo_askedFor_13 : decode cc_mo_askedFor 13 = .ok (.iload_n 3, 1) := by decide +kernel
theorem d_mo_askedFor_14 : decode cc_mo_askedFor 14 = .ok (.ifCond .lt 13, 3) := by decide +kernel
theorem d_mo_askedFor_17 : decode cc_mo_askedFor 17 = .ok (.iload_n 3, 1) := by decide +kernel
theorem d_mo_askedFor_18 : decode cc_mo_askedFor 18 = .ok (.aload_n 0, 1) := by decide +kernel
theorem d_mo_askedFor_19 : decode cc_mo_askedFor 19 = .ok (.getfield 38, 3) := by decide +kernel
theorem d_mo_askedFor_22 : decode cc_mo_askedFor 22 = .ok (.iload_n 2, 1) := by decide +kernel
theorem d_mo_askedFor_23 : decode cc_mo_askedFor 23 = .ok (.iaload, 1) := by decide +kernel
theorem d_mo_askedFor_24 : decode cc_mo_askedFor 24 = .ok (.if_icmp .lt 7, 3) := by decide +kernel
theorem d_mo_askedFor_27 : decode cc_mo_askedFor 27 = .ok (.iconst 2, 1) := by decide +kernel
theorem d_mo_askedFor_28 : decode cc_mo_askedFor 28 = .ok (.goto 5, 3) := by decide +kernel
theorem d_mo_askedFor_31 : decode cc_mo_askedFor 31 = .ok (.iload 4, 2) := by decide +kernel
theorem d_mo_askedFor_33 : decode cc_mo_askedFor 33 = .ok (.ireturn, 1) := by decide +kernel
abbrev cc_mo_crossing : ByteArray := prog_7_method_32_code
def yy_mo_crossing : MethodName := ⟨"SpotContoursModel", "crossing", "(III)I"⟩
def ww_mo_crossing : List Cond := .code yy_mo_crossing cc_mo_crossing 4 (some .int) :: zz_B
theorem d_mo_crossing_0 : decode cc_mo_crossing 0 = .ok (.aload_n 0, 1) := by decide +kernel
theorem d_mo_crossing_1 : decode cc_mo_crossing 1 = .ok (.aload_n 0, 1) := by decide +kernel
theorem d_mo_crossing_2 : decode cc_mo_crossing 2 = .ok (.iload_n 1, 1) := by decide +kernel
theorem d_mo_crossing_3 : decode cc_mo_crossing 3 = .ok (.iload_n 2, 1) := by decide +kernel
theorem d_mo_crossing_4 : decode cc_mo_crossing 4 = .ok (.iload_n 3, 1) := by decide +kernel
theorem d_mo_crossing_5 : decode cc_mo_crossing 5 = .ok (.invokevirtual 146, 3) := by decide +kernel
theorem d_mo_crossing_8 : decode cc_mo_crossing 8 = .ok (.putfield 56, 3) := by decide +kernel
theorem d_mo_crossing_11 : decode cc_mo_crossing 11 = .ok (.aload_n 0, 1) := by decide +kernel
theorem d_mo_crossing_12 : decode cc_mo_crossing 12 = .ok (.getfield 56, 3) := by decide +kernel
theorem d_mo_crossing_15 : decode cc_mo_crossing 15 = .ok (.ifCond .ne 19, 3) := by decide +kernel
theorem d_mo_crossing_18 : decode cc_mo_crossing 18 = .ok (.aload_n 0, 1) := by decide +kernel
theorem d_mo_crossing_19 : decode cc_mo_crossing 19 = .ok (.getfield 44, 3) := by decide +kernel
theorem d_mo_crossing_22 : decode cc_mo_crossing 22 = .ok (.aload_n 0, 1) := by decide +kernel
theorem d_mo_crossing_23 : decode cc_mo_crossing 23 = .ok (.getfield 35, 3) := by decide +kernel
theorem d_mo_crossing_26 : decode cc_mo_crossing 26 = .ok (.iload_n 2, 1) := by decide +kernel
theorem d_mo_crossing_27 : decode cc_mo_crossing 27 = .ok (.iaload, 1) := by decide +kernel
theorem d_mo_crossing_28 : decode cc_mo_crossing 28 = .ok (.iload_n 3, 1) := by decide +kernel
theorem d_mo_crossing_29 : decode cc_mo_crossing 29 = .ok (.iadd, 1) := by decide +kernel
theorem d_mo_crossing_30 : decode cc_mo_crossing 30 = .ok (.iaload, 1) := by decide +kernel
theorem d_mo_crossing_31 : decode cc_mo_crossing 31 = .ok (.goto 4, 3) := by decide +kernel
theorem d_mo_crossing_34 : decode cc_mo_crossing 34 = .ok (.iconst 0, 1) := by decide +kernel
theorem d_mo_crossing_35 : decode cc_mo_crossing 35 = .ok (.ireturn, 1) := by decide +kernel
abbrev cc_mo_placeOf : ByteArray := prog_7_method_33_code
def yy_mo_placeOf : MethodName := ⟨"SpotContoursModel", "placeOf", "(II)I"⟩
def ww_mo_placeOf : List Cond := .code yy_mo_placeOf cc_mo_placeOf 13 (some .int) :: zz_B
theorem d_mo_placeOf_0 : decode cc_mo_placeOf 0 = .ok (.aload_n 0, 1) := by decide +kernel
theorem d_mo_placeOf_1 : decode cc_mo_placeOf 1 = .ok (.iload_n 2, 1) := by decide +kernel
theorem d_mo_placeOf_2 : decode cc_mo_placeOf 2 = .ok (.bipush 16, 2) := by decide +kernel
theorem d_mo_placeOf_4 : decode cc_mo_placeOf 4 = .ok (.idiv, 1) := by decide +kernel
theorem d_mo_placeOf_5 : decode cc_mo_placeOf 5 = .ok (.iload_n 1, 1) := by decide +kernel
theorem d_mo_placeOf_6 : decode cc_mo_placeOf 6 = .ok (.invokevirtual 110, 3) := by decide +kernel
theorem d_mo_placeOf_9 : decode cc_mo_placeOf 9 = .ok (.ifCond .eq 10, 3) := by decide +kernel
theorem d_mo_placeOf_12 : decode cc_mo_placeOf 12 = .ok (.iload_n 2, 1) := by decide +kernel
theorem d_mo_placeOf_13 : decode cc_mo_placeOf 13 = .ok (.bipush 16, 2) := by decide +kernel
theorem d_mo_placeOf_15 : decode cc_mo_placeOf 15 = .ok (.idiv, 1) := by decide +kernel
theorem d_mo_placeOf_16 : decode cc_mo_placeOf 16 = .ok (.goto 7, 3) := by decide +kernel
theorem d_mo_placeOf_19 : decode cc_mo_placeOf 19 = .ok (.iload_n 2, 1) := by decide +kernel
theorem d_mo_placeOf_20 : decode cc_mo_placeOf 20 = .ok (.bipush 16, 2) := by decide +kernel
theorem d_mo_placeOf_22 : decode cc_mo_placeOf 22 = .ok (.irem, 1) := by decide +kernel
theorem d_mo_placeOf_23 : decode cc_mo_placeOf 23 = .ok (.istore_n 3, 1) := by decide +kernel
theorem d_mo_placeOf_24 : decode cc_mo_placeOf 24 = .ok (.iload_n 2, 1) := by decide +kernel
theorem d_mo_placeOf_25 : decode cc_mo_placeOf 25 = .ok (.bipush 16, 2) := by decide +kernel
theorem d_mo_placeOf_27 : decode cc_mo_placeOf 27 = .ok (.idiv, 1) := by decide +kernel
theorem d_mo_placeOf_28 : decode cc_mo_placeOf 28 = .ok (.iload_n 2, 1) := by decide +kernel
theorem d_mo_placeOf_29 : decode cc_mo_placeOf 29 = .ok (.bipush 16, 2) := by decide +kernel
theorem d_mo_placeOf_31 : decode cc_mo_placeOf 31 = .ok (.irem, 1) := by decide +kernel
theorem d_mo_placeOf_32 : decode cc_mo_placeOf 32 = .ok (.iadd, 1) := by decide +kernel
theorem d_mo_placeOf_33 : decode cc_mo_placeOf 33 = .ok (.iload_n 3, 1) := by decide +kernel
theorem d_mo_placeOf_34 : decode cc_mo_placeOf 34 = .ok (.isub, 1) := by decide +kernel
theorem d_mo_placeOf_35 : decode cc_mo_placeOf 35 = .ok (.istore 4, 2) := by decide +kernel
theorem d_mo_placeOf_37 : decode cc_mo_placeOf 37 = .ok (.iconst 2, 1) := by decide +kernel
theorem d_mo_placeOf_38 : decode cc_mo_placeOf 38 = .ok (.iload_n 1, 1) := by decide +kernel
theorem d_mo_placeOf_39 : decode cc_mo_placeOf 39 = .ok (.imul, 1) := by decide +kernel
theorem d_mo_placeOf_40 : decode cc_mo_placeOf 40 = .ok (.iconst 1, 1) := by decide +kernel
theorem d_mo_placeOf_41 : decode cc_mo_placeOf 41 = .ok (.iadd, 1) := by decide +kernel
theorem d_mo_placeOf_42 : decode cc_mo_placeOf 42 = .ok (.iconst 2, 1) := by decide +kernel
theorem d_mo_placeOf_43 : decode cc_mo_placeOf 43 = .ok (.aload_n 0, 1) := by decide +kernel
theorem d_mo_placeOf_44 : decode cc_mo_placeOf 44 = .ok (.getfield 16, 3) := by decide +kernel
theorem d_mo_placeOf_47 : decode cc_mo_placeOf 47 = .ok (.iload 4, 2) := by decide +kernel
theorem d_mo_placeOf_49 : decode cc_mo_placeOf 49 = .ok (.iaload, 1) := by decide +kernel
theorem d_mo_placeOf_50 : decode cc_mo_placeOf 50 = .ok (.imul, 1) := by decide +kernel
theorem d_mo_placeOf_51 : decode cc_mo_placeOf 51 = .ok (.isub, 1) := by decide +kernel
theorem d_mo_placeOf_52 : decode cc_mo_placeOf 52 = .ok (.i2l, 1) := by decide +kernel
theorem d_mo_placeOf_53 : decode cc_mo_placeOf 53 = .ok (.lstore 5, 2) := by decide +kernel
theorem d_mo_placeOf_55 : decode cc_mo_placeOf 55 = .ok (.iconst 2, 1) := by decide +kernel
theorem d_mo_placeOf_56 : decode cc_mo_placeOf 56 = .ok (.aload_n 0, 1) := by decide +kernel
theorem d_mo_placeOf_57 : decode cc_mo_placeOf 57 = .ok (.getfield 16, 3) := by decide +kernel
theorem d_mo_placeOf_60 : decode cc_mo_placeOf 60 = .ok (.iload_n 3, 1) := by decide +kernel
theorem d_mo_placeOf_61 : decode cc_mo_placeOf 61 = .ok (.iaload, 1) := by decide +kernel
theorem d_mo_placeOf_62 : decode cc_mo_placeOf 62 = .ok (.aload_n 0, 1) := by decide +kernel
theorem d_mo_placeOf_63 : decode cc_mo_placeOf 63 = .ok (.getfield 16, 3) := by decide +kernel
theorem d_mo_placeOf_66 : decode cc_mo_placeOf 66 = .ok (.iload 4, 2) := by decide +kernel
theorem d_mo_placeOf_68 : decode cc_mo_placeOf 68 = .ok (.iaload, 1) := by decide +kernel
theorem d_mo_placeOf_69 : decode cc_mo_placeOf 69 = .ok (.isub, 1) := by decide +kernel
theorem d_mo_placeOf_70 : decode cc_mo_placeOf 70 = .ok (.imul, 1) := by decide +kernel
theorem d_mo_placeOf_71 : decode cc_mo_placeOf 71 = .ok (.i2l, 1) := by decide +kernel
theorem d_mo_placeOf_72 : decode cc_mo_placeOf 72 = .ok (.lstore 7, 2) := by decide +kernel
theorem d_mo_placeOf_74 : decode cc_mo_placeOf 74 = .ok (.aload_n 0, 1) := by decide +kernel
theorem d_mo_placeOf_75 : decode cc_mo_placeOf 75 = .ok (.getfield 7, 3) := by decide +kernel
theorem d_mo_placeOf_78 : decode cc_mo_placeOf 78 = .ok (.iload 4, 2) := by decide +kernel
theorem d_mo_placeOf_80 : decode cc_mo_placeOf 80 = .ok (.iaload, 1) := by decide +kernel
theorem d_mo_placeOf_81 : decode cc_mo_placeOf 81 = .ok (.i2l, 1) := by decide +kernel
theorem d_mo_placeOf_82 : decode cc_mo_placeOf 82 = .ok (.aload_n 0, 1) := by decide +kernel
theorem d_mo_placeOf_83 : decode cc_mo_placeOf 83 = .ok (.getfield 7, 3) := by decide +kernel
theorem d_mo_placeOf_86 : decode cc_mo_placeOf 86 = .ok (.iload_n 3, 1) := by decide +kernel
theorem d_mo_placeOf_87 : decode cc_mo_placeOf 87 = .ok (.iaload, 1) := by decide +kernel
theorem d_mo_placeOf_88 : decode cc_mo_placeOf 88 = .ok (.aload_n 0, 1) := by decide +kernel
theorem d_mo_placeOf_89 : decode cc_mo_placeOf 89 = .ok (.getfield 7, 3) := by decide +kernel
theorem d_mo_placeOf_92 : decode cc_mo_placeOf 92 = .ok (.iload 4, 2) := by decide +kernel
theorem d_mo_placeOf_94 : decode cc_mo_placeOf 94 = .ok (.iaload, 1) := by decide +kernel
theorem d_mo_placeOf_95 : decode cc_mo_placeOf 95 = .ok (.isub, 1) := by decide +kernel
theorem d_mo_placeOf_96 : decode cc_mo_placeOf 96 = .ok (.i2l, 1) := by decide +kernel
theorem d_mo_placeOf_97 : decode cc_mo_placeOf 97 = .ok (.lload 5, 2) := by decide +kernel
theorem d_mo_placeOf_99 : decode cc_mo_placeOf 99 = .ok (.lmul, 1) := by decide +kernel
theorem d_mo_placeOf_100 : decode cc_mo_placeOf 100 = .ok (.lload 7, 2) := by decide +kernel
theorem d_mo_placeOf_102 : decode cc_mo_placeOf 102 = .ok (.invokestatic 106, 3) := by decide +kernel
theorem d_mo_placeOf_105 : decode cc_mo_placeOf 105 = .ok (.ladd, 1) := by decide +kernel
theorem d_mo_placeOf_106 : decode cc_mo_placeOf 106 = .ok (.lstore 9, 2) := by decide +kernel
theorem d_mo_placeOf_108 : decode cc_mo_placeOf 108 = .ok (.aload_n 0, 1) := by decide +kernel
theorem d_mo_placeOf_109 : decode cc_mo_placeOf 109 = .ok (.getfield 13, 3) := by decide +kernel
theorem d_mo_placeOf_112 : decode cc_mo_placeOf 112 = .ok (.iload 4, 2) := by decide +kernel
theorem d_mo_placeOf_114 : decode cc_mo_placeOf 114 = .ok (.iaload, 1) := by decide +kernel
theorem d_mo_placeOf_115 : decode cc_mo_placeOf 115 = .ok (.i2l, 1) := by decide +kernel
theorem d_mo_placeOf_116 : decode cc_mo_placeOf 116 = .ok (.aload_n 0, 1) := by decide +kernel
theorem d_mo_placeOf_117 : decode cc_mo_placeOf 117 = .ok (.getfield 13, 3) := by decide +kernel
theorem d_mo_placeOf_120 : decode cc_mo_placeOf 120 = .ok (.iload_n 3, 1) := by decide +kernel
theorem d_mo_placeOf_121 : decode cc_mo_placeOf 121 = .ok (.iaload, 1) := by decide +kernel
theorem d_mo_placeOf_122 : decode cc_mo_placeOf 122 = .ok (.aload_n 0, 1) := by decide +kernel
theorem d_mo_placeOf_123 : decode cc_mo_placeOf 123 = .ok (.getfield 13, 3) := by decide +kernel
theorem d_mo_placeOf_126 : decode cc_mo_placeOf 126 = .ok (.iload 4, 2) := by decide +kernel
theorem d_mo_placeOf_128 : decode cc_mo_placeOf 128 = .ok (.iaload, 1) := by decide +kernel
theorem d_mo_placeOf_129 : decode cc_mo_placeOf 129 = .ok (.isub, 1) := by decide +kernel
theorem d_mo_placeOf_130 : decode cc_mo_placeOf 130 = .ok (.i2l, 1) := by decide +kernel
theorem d_mo_placeOf_131 : decode cc_mo_placeOf 131 = .ok (.lload 5, 2) := by decide +kernel
theorem d_mo_placeOf_133 : decode cc_mo_placeOf 133 = .ok (.lmul, 1) := by decide +kernel
theorem d_mo_placeOf_134 : decode cc_mo_placeOf 134 = .ok (.lload 7, 2) := by decide +kernel
theorem d_mo_placeOf_136 : decode cc_mo_placeOf 136 = .ok (.invokestatic 106, 3) := by decide +kernel
theorem d_mo_placeOf_139 : decode cc_mo_placeOf 139 = .ok (.ladd, 1) := by decide +kernel
theorem d_mo_placeOf_140 : decode cc_mo_placeOf 140 = .ok (.lstore 11, 2) := by decide +kernel
theorem d_mo_placeOf_142 : decode cc_mo_placeOf 142 = .ok (.ldc2_w 149, 3) := by decide +kernel
theorem d_mo_placeOf_145 : decode cc_mo_placeOf 145 = .ok (.lload 9, 2) := by decide +kernel
theorem d_mo_placeOf_147 : decode cc_mo_placeOf 147 = .ok (.lmul, 1) := by decide +kernel
theorem d_mo_placeOf_148 : decode cc_mo_placeOf 148 = .ok (.lload 11, 2) := by decide +kernel
theorem d_mo_placeOf_150 : decode cc_mo_placeOf 150 = .ok (.ladd, 1) := by decide +kernel
theorem d_mo_placeOf_151 : decode cc_mo_placeOf 151 = .ok (.l2i, 1) := by decide +kernel
theorem d_mo_placeOf_152 : decode cc_mo_placeOf 152 = .ok (.ireturn, 1) := by decide +kernel
abbrev cc_mo_place : ByteArray := prog_7_method_34_code
def yy_mo_place : MethodName := ⟨"SpotContoursModel", "place", "(III)I"⟩
def ww_mo_place : List Cond := .code yy_mo_place cc_mo_place 4 (some .int) :: zz_B
theorem d_mo_place_0 : decode cc_mo_place 0 = .ok (.aload_n 0, 1) := by decide +kernel
theorem d_mo_place_1 : decode cc_mo_place 1 = .ok (.aload_n 0, 1) := by decide +kernel
theorem d_mo_place_2 : decode cc_mo_place 2 = .ok (.iload_n 1, 1) := by decide +kernel
theorem d_mo_place_3 : decode cc_mo_place 3 = .ok (.iload_n 2, 1) := by decide +kernel
theorem d_mo_place_4 : decode cc_mo_place 4 = .ok (.iload_n 3, 1) := by decide +kernel
theorem d_mo_place_5 : decode cc_mo_place 5 = .ok (.invokevirtual 146, 3) := by decide +kernel
theorem d_mo_place_8 : decode cc_mo_place 8 = .ok (.putfield 56, 3) := by decide +kernel
theorem d_mo_place_11 : decode cc_mo_place 11 = .ok (.aload_n 0, 1) := by decide +kernel
theorem d_mo_place_12 : decode cc_mo_place 12 = .ok (.getfield 56, 3) := by decide +kernel
theorem d_mo_place_15 : decode cc_mo_place 15 = .ok (.ifCond .ne 24, 3) := by decide +kernel
theorem d_mo_place_18 : decode cc_mo_place 18 = .ok (.aload_n 0, 1) := by decide +kernel
theorem d_mo_place_19 : decode cc_mo_place 19 = .ok (.iload_n 1, 1) := by decide +kernel
theorem d_mo_place_20 : decode cc_mo_place 20 = .ok (.aload_n 0, 1) := by decide +kernel
theorem d_mo_place_21 : decode cc_mo_place 21 = .ok (.getfield 44, 3) := by decide +kernel
theorem d_mo_place_24 : decode cc_mo_place 24 = .ok (.aload_n 0, 1) := by decide +kernel
theorem d_mo_place_25 : decode cc_mo_place 25 = .ok (.getfield 35, 3) := by decide +kernel
theorem d_mo_place_28 : decode cc_mo_place 28 = .ok (.iload_n 2, 1) := by decide +kernel
theorem d_mo_place_29 : decode cc_mo_place 29 = .ok (.iaload, 1) := by decide +kernel
theorem d_mo_place_30 : decode cc_mo_place 30 = .ok (.iload_n 3, 1) := by decide +kernel
theorem d_mo_place_31 : decode cc_mo_place 31 = .ok (.iadd, 1) := by decide +kernel
theorem d_mo_place_32 : decode cc_mo_place 32 = .ok (.iaload, 1) := by decide +kernel
theorem d_mo_place_33 : decode cc_mo_place 33 = .ok (.invokevirtual 151, 3) := by decide +kernel
theorem d_mo_place_36 : decode cc_mo_place 36 = .ok (.goto 4, 3) := by decide +kernel
theorem d_mo_place_39 : decode cc_mo_place 39 = .ok (.iconst 0, 1) := by decide +kernel
theorem d_mo_place_40 : decode cc_mo_place 40 = .ok (.ireturn, 1) := by decide +kernel
abbrev cc_mo_isNear : ByteArray := prog_7_method_35_code
def yy_mo_isNear : MethodName := ⟨"SpotContoursModel", "isNear", "(III)Z"⟩
def ww_mo_isNear : List Cond := .code yy_mo_isNear cc_mo_isNear 4 (some .boolean) :: zz_B
theorem d_mo_isNear_0 : decode cc_mo_isNear 0 = .ok (.iload_n 1, 1) := by decide +kernel
theorem d_mo_isNear_1 : decode cc_mo_isNear 1 = .ok (.iload_n 2, 1) := by decide +kernel
theorem d_mo_isNear_2 : decode cc_mo_isNear 2 = .ok (.isub, 1) := by decide +kernel
theorem d_mo_isNear_3 : decode cc_mo_isNear 3 = .ok (.iload_n 3, 1) := by decide +kernel
theorem d_mo_isNear_4 : decode cc_mo_isNear 4 = .ok (.if_icmp .gt 14, 3) := by decide +kernel
theorem d_mo_isNear_7 : decode cc_mo_isNear 7 = .ok (.iload_n 2, 1) := by decide +kernel
theorem d_mo_isNear_8 : decode cc_mo_isNear 8 = .ok (.iload_n 1, 1) := by decide +kernel
theorem d_mo_isNear_9 : decode cc_mo_isNear 9 = .ok (.isub, 1) := by decide +kernel
theorem d_mo_isNear_10 : decode cc_mo_isNear 10 = .ok (.iload_n 3, 1) := by decide +kernel
theorem d_mo_isNear_11 : decode cc_mo_isNear 11 = .ok (.if_icmp .gt 7, 3) := by decide +kernel
theorem d_mo_isNear_14 : decode cc_mo_isNear 14 = .ok (.iconst 1, 1) := by decide +kernel
theorem d_mo_isNear_15 : decode cc_mo_isNear 15 = .ok (.goto 4, 3) := by decide +kernel
theorem d_mo_isNear_18 : decode cc_mo_isNear 18 = .ok (.iconst 0, 1) := by decide +kernel
theorem d_mo_isNear_19 : decode cc_mo_isNear 19 = .ok (.ireturn, 1) := by decide +kernel
abbrev cc_mo_clashes : ByteArray := prog_7_method_36_code
def yy_mo_clashes : MethodName := ⟨"SpotContoursModel", "clashes", "(II)Z"⟩
def ww_mo_clashes : List Cond := .code yy_mo_clashes cc_mo_clashes 5 (some .boolean) :: zz_B
theorem d_mo_clashes_0 : decode cc_mo_clashes 0 = .ok (.iconst 0, 1) := by decide +kernel
theorem d_mo_clashes_1 : decode cc_mo_clashes 1 = .ok (.istore_n 3, 1) := by decide +kernel
theorem d_mo_clashes_2 : decode cc_mo_clashes 2 = .ok (.iconst 0, 1) := by decide +kernel
theorem d_mo_clashes_3 : decode cc_mo_clashes 3 = .ok (.istore 4, 2) := by decide +kernel
theorem d_mo_clashes_5 : decode cc_mo_clashes 5 = .ok (.iload 4, 2) := by decide +kernel
theorem d_mo_clashes_7 : decode cc_mo_clashes 7 = .ok (.aload_n 0, 1) := by decide +kernel
theorem d_mo_clashes_8 : decode cc_mo_clashes 8 = .ok (.getfield 60, 3) := by decide +kernel
theorem d_mo_clashes_11 : decode cc_mo_clashes 11 = .ok (.if_icmp .ge 51, 3) := by decide +kernel
theorem d_mo_clashes_14 : decode cc_mo_clashes 14 = .ok (.iload_n 3, 1) := by decide +kernel
theorem d_mo_clashes_15 : decode cc_mo_clashes 15 = .ok (.ifCond .ne 35, 3) := by decide +kernel
theorem d_mo_clashes_18 : decode cc_mo_clashes 18 = .ok (.aload_n 0, 1) := by decide +kernel
theorem d_mo_clashes_19 : decode cc_mo_clashes 19 = .ok (.aload_n 0, 1) := by decide +kernel
theorem d_mo_clashes_20 : decode cc_mo_clashes 20 = .ok (.getfield 7, 3) := by decide +kernel
theorem d_mo_clashes_23 : decode cc_mo_clashes 23 = .ok (.iload 4, 2) := by decide +kernel
theorem d_mo_clashes_25 : decode cc_mo_clashes 25 = .ok (.iaload, 1) := by decide +kernel
theorem d_mo_clashes_26 : decode cc_mo_clashes 26 = .ok (.iload_n 1, 1) := by decide +kernel
theorem d_mo_clashes_27 : decode cc_mo_clashes 27 = .ok (.iconst 3, 1) := by decide +kernel
theorem d_mo_clashes_28 : decode cc_mo_clashes 28 = .ok (.invokevirtual 154, 3) := by decide +kernel
theorem d_mo_clashes_31 : decode cc_mo_clashes 31 = .ok (.ifCond .eq 23, 3) := by decide +kernel
theorem d_mo_clashes_34 : decode cc_mo_clashes 34 = .ok (.aload_n 0, 1) := by decide +kernel
theorem d_mo_clashes_35 : decode cc_mo_clashes 35 = .ok (.aload_n 0, 1) := by decide +kernel
theorem d_mo_clashes_36 : decode cc_mo_clashes 36 = .ok (.getfield 13, 3) := by decide +kernel
theorem d_mo_clashes_39 : decode cc_mo_clashes 39 = .ok (.iload 4, 2) := by decide +kernel
theorem d_mo_clashes_41 : decode cc_mo_clashes 41 = .ok (.iaload, 1) := by decide +kernel
theorem d_mo_clashes_42 : decode cc_mo_clashes 42 = .ok (.iload_n 2, 1) := by decide +kernel
theorem d_mo_clashes_43 : decode cc_mo_clashes 43 = .ok (.iconst 1, 1) := by decide +kernel
theorem d_mo_clashes_44 : decode cc_mo_clashes 44 = .ok (.invokevirtual 154, 3) := by decide +kernel
theorem d_mo_clashes_47 : decode cc_mo_clashes 47 = .ok (.ifCond .eq 7, 3) := by decide +kernel
theorem d_mo_clashes_50 : decode cc_mo_clashes 50 = .ok (.iconst 1, 1) := by decide +kernel
theorem d_mo_clashes_51 : decode cc_mo_clashes 51 = .ok (.goto 4, 3) := by decide +kernel
theorem d_mo_clashes_54 : decode cc_mo_clashes 54 = .ok (.iconst 0, 1) := by decide +kernel
theorem d_mo_clashes_55 : decode cc_mo_clashes 55 = .ok (.istore_n 3, 1) := by decide +kernel
theorem d_mo_clashes_56 : decode cc_mo_clashes 56 = .ok (.iinc 4 1, 3) := by decide +kernel
theorem d_mo_clashes_59 : decode cc_mo_clashes 59 = .ok (.goto (-54), 3) := by decide +kernel
theorem d_mo_clashes_62 : decode cc_mo_clashes 62 = .ok (.iconst 0, 1) := by decide +kernel
theorem d_mo_clashes_63 : decode cc_mo_clashes 63 = .ok (.istore 4, 2) := by decide +kernel
theorem d_mo_clashes_65 : decode cc_mo_clashes 65 = .ok (.iload 4, 2) := by decide +kernel
theorem d_mo_clashes_67 : decode cc_mo_clashes 67 = .ok (.aload_n 0, 1) := by decide +kernel
theorem d_mo_clashes_68 : decode cc_mo_clashes 68 = .ok (.getfield 63, 3) := by decide +kernel
theorem d_mo_clashes_71 : decode cc_mo_clashes 71 = .ok (.if_icmp .ge 52, 3) := by decide +kernel
theorem d_mo_clashes_74 : decode cc_mo_clashes 74 = .ok (.iload_n 3, 1) := by decide +kernel
theorem d_mo_clashes_75 : decode cc_mo_clashes 75 = .ok (.ifCond .ne 36, 3) := by decide +kernel
theorem d_mo_clashes_78 : decode cc_mo_clashes 78 = .ok (.aload_n 0, 1) := by decide +kernel
theorem d_mo_clashes_79 : decode cc_mo_clashes 79 = .ok (.aload_n 0, 1) := by decide +kernel
theorem d_mo_clashes_80 : decode cc_mo_clashes 80 = .ok (.getfield 50, 3) := by decide +kernel
theorem d_mo_clashes_83 : decode cc_mo_clashes 83 = .ok (.iload 4, 2) := by decide +kernel
theorem d_mo_clashes_85 : decode cc_mo_clashes 85 = .ok (.iaload, 1) := by decide +kernel
theorem d_mo_clashes_86 : decode cc_mo_clashes 86 = .ok (.iload_n 1, 1) := by decide +kernel
theorem d_mo_clashes_87 : decode cc_mo_clashes 87 = .ok (.bipush 6, 2) := by decide +kernel
theorem d_mo_clashes_89 : decode cc_mo_clashes 89 = .ok (.invokevirtual 154, 3) := by decide +kernel
theorem d_mo_clashes_92 : decode cc_mo_clashes 92 = .ok (.ifCond .eq 23, 3) := by decide +kernel
theorem d_mo_clashes_95 : decode cc_mo_clashes 95 = .ok (.aload_n 0, 1) := by decide +kernel
theorem d_mo_clashes_96 : decode cc_mo_clashes 96 = .ok (.aload_n 0, 1) := by decide +kernel
theorem d_mo_clashes_97 : decode cc_mo_clashes 97 = .ok (.getfield 53, 3) := by decide +kernel
theorem d_mo_clashes_100 : decode cc_mo_clashes 100 = .ok (.iload 4, 2) := by decide +kernel
theorem d_mo_clashes_102 : decode cc_mo_clashes 102 = .ok (.iaload, 1) := by decide +kernel
theorem d_mo_clashes_103 : decode cc_mo_clashes 103 = .ok (.iload_n 2, 1) := by decide +kernel
theorem d_mo_clashes_104 : decode cc_mo_clashes 104 = .ok (.iconst 2, 1) := by decide +kernel
theorem d_mo_clashes_105 : decode cc_mo_clashes 105 = .ok (.invokevirtual 154, 3) := by decide +kernel
theorem d_mo_clashes_108 : decode cc_mo_clashes 108 = .ok (.ifCond .eq 7, 3) := by decide +kernel
theorem d_mo_clashes_111 : decode cc_mo_clashes 111 = .ok (.iconst 1, 1) := by decide +kernel
theorem d_mo_clashes_112 : decode cc_mo_clashes 112 = .ok (.goto 4, 3) := by decide +kernel
theorem d_mo_clashes_115 : decode cc_mo_clashes 115 = .ok (.iconst 0, 1) := by decide +kernel
theorem d_mo_clashes_116 : decode cc_mo_clashes 116 = .ok (.istore_n 3, 1) := by decide +kernel
theorem d_mo_clashes_117 : decode cc_mo_clashes 117 = .ok (.iinc 4 1, 3) := by decide +kernel
theorem d_mo_clashes_120 : decode cc_mo_clashes 120 = .ok (.goto (-55), 3) := by decide +kernel
theorem d_mo_clashes_123 : decode cc_mo_clashes 123 = .ok (.iload_n 3, 1) := by decide +kernel
theorem d_mo_clashes_124 : decode cc_mo_clashes 124 = .ok (.ireturn, 1) := by decide +kernel
end
section
/-! Names and decode rows, printed. -/
abbrev cc_mo_labelContour : ByteArray := prog_7_method_37_code
def yy_mo_labelContour : MethodName := ⟨"SpotContoursModel", "labelContour", "(II)V"⟩
def ww_mo_labelContour : List Cond := .code yy_mo_labelContour cc_mo_labelContour 6 none :: zz_B
theorem d_mo_labelContour_0 : decode cc_mo_labelContour 0 = .ok (.iconst 0, 1) := by decide +kernel
theorem d_mo_labelContour_1 : decode cc_mo_labelContour 1 = .ok (.istore_n 3, 1) := by decide +kernel
theorem d_mo_labelContour_2 : decode cc_mo_labelContour 2 = .ok (.iconst 0, 1) := by decide +kernel
theorem d_mo_labelContour_3 : decode cc_mo_labelContour 3 = .ok (.istore 4, 2) := by decide +kernel
theorem d_mo_labelContour_5 : decode cc_mo_labelContour 5 = .ok (.iload 4, 2) := by decide +kernel
theorem d_mo_labelContour_7 : decode cc_mo_labelContour 7 = .ok (.aload_n 0, 1) := by decide +kernel
theorem d_mo_labelContour_8 : decode cc_mo_labelContour 8 = .ok (.getfield 38, 3) := by decide +kernel
theorem d_mo_labelContour_11 : decode cc_mo_labelContour 11 = .ok (.iload_n 2, 1) := by decide +kernel
theorem d_mo_labelContour_12 : decode cc_mo_labelContour 12 = .ok (.iaload, 1) := by decide +kernel
theorem d_mo_labelContour_13 : decode cc_mo_labelContour 13 = .ok (.if_icmp .ge 101, 3) := by decide +kernel
theorem d_mo_labelContour_16 : decode cc_mo_labelContour 16 = .ok (.iload_n 3, 1) := by decide +kernel
theorem d_mo_labelContour_17 : decode cc_mo_labelContour 17 = .ok (.ifCond .ne 97, 3) := by decide +kernel
theorem d_mo_labelContour_20 : decode cc_mo_labelContour 20 = .ok (.aload_n 0, 1) := by decide +kernel
theorem d_mo_labelContour_21 : decode cc_mo_labelContour 21 = .ok (.iload_n 1, 1) := by decide +kernel
theorem d_mo_labelContour_22 : decode cc_mo_labelContour 22 = .ok (.aload_n 0, 1) := by decide +kernel
theorem d_mo_labelContour_23 : decode cc_mo_labelContour 23 = .ok (.getfield 44, 3) := by decide +kernel
theorem d_mo_labelContour_26 : decode cc_mo_labelContour 26 = .ok (.aload_n 0, 1) := by decide +kernel
theorem d_mo_labelContour_27 : decode cc_mo_labelContour 27 = .ok (.getfield 35, 3) := by decide +kernel
theorem d_mo_labelContour_30 : decode cc_mo_labelContour 30 = .ok (.iload_n 2, 1) := by decide +kernel
theorem d_mo_labelContour_31 : decode cc_mo_labelContour 31 = .ok (.iaload, 1) := by decide +kernel
theorem d_mo_labelContour_32 : decode cc_mo_labelContour 32 = .ok (.iload 4, 2) := by decide +kernel
theorem d_mo_labelContour_34 : decode cc_mo_labelContour 34 = .ok (.iadd, 1) := by decide +kernel
theorem d_mo_labelContour_35 : decode cc_mo_labelContour 35 = .ok (.iaload, 1) := by decide +kernel
theorem d_mo_labelContour_36 : decode cc_mo_labelContour 36 = .ok (.invokevirtual 151, 3) := by decide +kernel
theorem d_mo_labelContour_39 : decode cc_mo_labelContour 39 = .ok (.istore 5, 2) := by decide +kernel
theorem d_mo_labelContour_41 : decode cc_mo_labelContour 41 = .ok (.aload_n 0, 1) := by decide +kernel
theorem d_mo_labelContour_42 : decode cc_mo_labelContour 42 = .ok (.iload 5, 2) := by decide +kernel
theorem d_mo_labelContour_44 : decode cc_mo_labelContour 44 = .ok (.bipush 64, 2) := by decide +kernel
theorem d_mo_labelContour_46 : decode cc_mo_labelContour 46 = .ok (.idiv, 1) := by decide +kernel
theorem d_mo_labelContour_47 : decode cc_mo_labelContour 47 = .ok (.iload 5, 2) := by decide +kernel
theorem d_mo_labelContour_49 : decode cc_mo_labelContour 49 = .ok (.bipush 64, 2) := by decide +kernel
theorem d_mo_labelContour_51 : decode cc_mo_labelContour 51 = .ok (.irem, 1) := by decide +kernel
theorem d_mo_labelContour_52 : decode cc_mo_labelContour 52 = .ok (.invokevirtual 157, 3) := by decide +kernel
theorem d_mo_labelContour_55 : decode cc_mo_labelContour 55 = .ok (.ifCond .ne 53, 3) := by decide +kernel
theorem d_mo_labelContour_58 : decode cc_mo_labelContour 58 = .ok (.aload_n 0, 1) := by decide +kernel
theorem d_mo_labelContour_59 : decode cc_mo_labelContour 59 = .ok (.getfield 47, 3) := by decide +kernel
theorem d_mo_labelContour_62 : decode cc_mo_labelContour 62 = .ok (.aload_n 0, 1) := by decide +kernel
theorem d_mo_labelContour_63 : decode cc_mo_labelContour 63 = .ok (.getfield 63, 3) := by decide +kernel
theorem d_mo_labelContour_66 : decode cc_mo_labelContour 66 = .ok (.iload_n 1, 1) := by decide +kernel
theorem d_mo_labelContour_67 : decode cc_mo_labelContour 67 = .ok (.iastore, 1) := by decide +kernel
theorem d_mo_labelContour_68 : decode cc_mo_labelContour 68 = .ok (.aload_n 0, 1) := by decide +kernel
theorem d_mo_labelContour_69 : decode cc_mo_labelContour 69 = .ok (.getfield 50, 3) := by decide +kernel
theorem d_mo_labelContour_72 : decode cc_mo_labelContour 72 = .ok (.aload_n 0, 1) := by decide +kernel
theorem d_mo_labelContour_73 : decode cc_mo_labelContour 73 = .ok (.getfield 63, 3) := by decide +kernel
theorem d_mo_labelContour_76 : decode cc_mo_labelContour 76 = .ok (.iload 5, 2) := by decide +kernel
theorem d_mo_labelContour_78 : decode cc_mo_labelContour 78 = .ok (.bipush 64, 2) := by decide +kernel
theorem d_mo_labelContour_80 : decode cc_mo_labelContour 80 = .ok (.idiv, 1) := by decide +kernel
theorem d_mo_labelContour_81 : decode cc_mo_labelContour 81 = .ok (.iastore, 1) := by decide +kernel
theorem d_mo_labelContour_82 : decode cc_mo_labelContour 82 = .ok (.aload_n 0, 1) := by decide +kernel
theorem d_mo_labelContour_83 : decode cc_mo_labelContour 83 = .ok (.getfield 53, 3) := by decide +kernel
theorem d_mo_labelContour_86 : decode cc_mo_labelContour 86 = .ok (.aload_n 0, 1) := by decide +kernel
theorem d_mo_labelContour_87 : decode cc_mo_labelContour 87 = .ok (.getfield 63, 3) := by decide +kernel
theorem d_mo_labelContour_90 : decode cc_mo_labelContour 90 = .ok (.iload 5, 2) := by decide +kernel
theorem d_mo_labelContour_92 : decode cc_mo_labelContour 92 = .ok (.bipush 64, 2) := by decide +kernel
theorem d_mo_labelContour_94 : decode cc_mo_labelContour 94 = .ok (.irem, 1) := by decide +kernel
theorem d_mo_labelContour_95 : decode cc_mo_labelContour 95 = .ok (.iastore, 1) := by decide +kernel
theorem d_mo_labelContour_96 : decode cc_mo_labelContour 96 = .ok (.aload_n 0, 1) := by decide +kernel
theorem d_mo_labelContour_97 : decode cc_mo_labelContour 97 = .ok (.dup, 1) := by decide +kernel
theorem d_mo_labelContour_98 : decode cc_mo_labelContour 98 = .ok (.getfield 63, 3) := by decide +kernel
theorem d_mo_labelContour_101 : decode cc_mo_labelContour 101 = .ok (.iconst 1, 1) := by decide +kernel
theorem d_mo_labelContour_102 : decode cc_mo_labelContour 102 = .ok (.iadd, 1) := by decide +kernel
theorem d_mo_labelContour_103 : decode cc_mo_labelContour 103 = .ok (.putfield 63, 3) := by decide +kernel
theorem d_mo_labelContour_106 : decode cc_mo_labelContour 106 = .ok (.iconst 1, 1) := by decide +kernel
theorem d_mo_labelContour_107 : decode cc_mo_labelContour 107 = .ok (.istore_n 3, 1) := by decide +kernel
theorem d_mo_labelContour_108 : decode cc_mo_labelContour 108 = .ok (.iinc 4 1, 3) := by decide +kernel
theorem d_mo_labelContour_111 : decode cc_mo_labelContour 111 = .ok (.goto (-106), 3) := by decide +kernel
theorem d_mo_labelContour_114 : decode cc_mo_labelContour 114 = .ok (.return_, 1) := by decide +kernel
abbrev cc_mo_label : ByteArray := prog_7_method_38_code
def yy_mo_label : MethodName := ⟨"SpotContoursModel", "label", "(I)I"⟩
def ww_mo_label : List Cond := .code yy_mo_label cc_mo_label 4 (some .int) :: zz_B
theorem d_mo_label_0 : decode cc_mo_label 0 = .ok (.aload_n 0, 1) := by decide +kernel
theorem d_mo_label_1 : decode cc_mo_label 1 = .ok (.iload_n 1, 1) := by decide +kernel
theorem d_mo_label_2 : decode cc_mo_label 2 = .ok (.invokestatic 134, 3) := by decide +kernel
theorem d_mo_label_5 : decode cc_mo_label 5 = .ok (.ifCond .eq 7, 3) := by decide +kernel
theorem d_mo_label_8 : decode cc_mo_label 8 = .ok (.iconst 0, 1) := by decide +kernel
theorem d_mo_label_9 : decode cc_mo_label 9 = .ok (.goto 4, 3) := by decide +kernel
theorem d_mo_label_12 : decode cc_mo_label 12 = .ok (.iconst 1, 1) := by decide +kernel
theorem d_mo_label_13 : decode cc_mo_label 13 = .ok (.putfield 56, 3) := by decide +kernel
theorem d_mo_label_16 : decode cc_mo_label 16 = .ok (.aload_n 0, 1) := by decide +kernel
theorem d_mo_label_17 : decode cc_mo_label 17 = .ok (.getfield 56, 3) := by decide +kernel
theorem d_mo_label_20 : decode cc_mo_label 20 = .ok (.ifCond .eq 5, 3) := by decide +kernel
theorem d_mo_label_23 : decode cc_mo_label 23 = .ok (.iconst 0, 1) := by decide +kernel
theorem d_mo_label_24 : decode cc_mo_label 24 = .ok (.ireturn, 1) := by decide +kernel
theorem d_mo_label_25 : decode cc_mo_label 25 = .ok (.aload_n 0, 1) := by decide +kernel
theorem d_mo_label_26 : decode cc_mo_label 26 = .ok (.iload_n 1, 1) := by decide +kernel
theorem d_mo_label_27 : decode cc_mo_label 27 = .ok (.invokevirtual 137, 3) := by decide +kernel
theorem d_mo_label_30 : decode cc_mo_label 30 = .ok (.aload_n 0, 1) := by decide +kernel
theorem d_mo_label_31 : decode cc_mo_label 31 = .ok (.getfield 63, 3) := by decide +kernel
theorem d_mo_label_34 : decode cc_mo_label 34 = .ok (.istore_n 2, 1) := by decide +kernel
theorem d_mo_label_35 : decode cc_mo_label 35 = .ok (.iconst 0, 1) := by decide +kernel
theorem d_mo_label_36 : decode cc_mo_label 36 = .ok (.istore_n 3, 1) := by decide +kernel
theorem d_mo_label_37 : decode cc_mo_label 37 = .ok (.iload_n 3, 1) := by decide +kernel
theorem d_mo_label_38 : decode cc_mo_label 38 = .ok (.aload_n 0, 1) := by decide +kernel
theorem d_mo_label_39 : decode cc_mo_label 39 = .ok (.getfield 121, 3) := by decide +kernel
theorem d_mo_label_42 : decode cc_mo_label 42 = .ok (.if_icmp .ge 15, 3) := by decide +kernel
theorem d_mo_label_45 : decode cc_mo_label 45 = .ok (.aload_n 0, 1) := by decide +kernel
theorem d_mo_label_46 : decode cc_mo_label 46 = .ok (.iload_n 1, 1) := by decide +kernel
theorem d_mo_label_47 : decode cc_mo_label 47 = .ok (.iload_n 3, 1) := by decide +kernel
theorem d_mo_label_48 : decode cc_mo_label 48 = .ok (.invokevirtual 160, 3) := by decide +kernel
theorem d_mo_label_51 : decode cc_mo_label 51 = .ok (.iinc 3 1, 3) := by decide +kernel
theorem d_mo_label_54 : decode cc_mo_label 54 = .ok (.goto (-17), 3) := by decide +kernel
theorem d_mo_label_57 : decode cc_mo_label 57 = .ok (.aload_n 0, 1) := by decide +kernel
theorem d_mo_label_58 : decode cc_mo_label 58 = .ok (.getfield 63, 3) := by decide +kernel
theorem d_mo_label_61 : decode cc_mo_label 61 = .ok (.iload_n 2, 1) := by decide +kernel
theorem d_mo_label_62 : decode cc_mo_label 62 = .ok (.isub, 1) := by decide +kernel
theorem d_mo_label_63 : decode cc_mo_label 63 = .ok (.istore_n 3, 1) := by decide +kernel
theorem d_mo_label_64 : decode cc_mo_label 64 = .ok (.aload_n 0, 1) := by decide +kernel
theorem d_mo_label_65 : decode cc_mo_label 65 = .ok (.aload_n 0, 1) := by decide +kernel
theorem d_mo_label_66 : decode cc_mo_label 66 = .ok (.getfield 63, 3) := by decide +kernel
theorem d_mo_label_69 : decode cc_mo_label 69 = .ok (.bipush 20, 2) := by decide +kernel
theorem d_mo_label_71 : decode cc_mo_label 71 = .ok (.if_icmp .le 7, 3) := by decide +kernel
theorem d_mo_label_74 : decode cc_mo_label 74 = .ok (.iconst 2, 1) := by decide +kernel
theorem d_mo_label_75 : decode cc_mo_label 75 = .ok (.goto 4, 3) := by decide +kernel
theorem d_mo_label_78 : decode cc_mo_label 78 = .ok (.iconst 0, 1) := by decide +kernel
theorem d_mo_label_79 : decode cc_mo_label 79 = .ok (.putfield 56, 3) := by decide +kernel
theorem d_mo_label_82 : decode cc_mo_label 82 = .ok (.aload_n 0, 1) := by decide +kernel
theorem d_mo_label_83 : decode cc_mo_label 83 = .ok (.aload_n 0, 1) := by decide +kernel
theorem d_mo_label_84 : decode cc_mo_label 84 = .ok (.getfield 56, 3) := by decide +kernel
theorem d_mo_label_87 : decode cc_mo_label 87 = .ok (.ifCond .ne 10, 3) := by decide +kernel
theorem d_mo_label_90 : decode cc_mo_label 90 = .ok (.aload_n 0, 1) := by decide +kernel
theorem d_mo_label_91 : decode cc_mo_label 91 = .ok (.getfield 63, 3) := by decide +kernel
theorem d_mo_label_94 : decode cc_mo_label 94 = .ok (.goto 4, 3) := by decide +kernel
theorem d_mo_label_97 : decode cc_mo_label 97 = .ok (.iload_n 2, 1) := by decide +kernel
theorem d_mo_label_98 : decode cc_mo_label 98 = .ok (.putfield 63, 3) := by decide +kernel
theorem d_mo_label_101 : decode cc_mo_label 101 = .ok (.aload_n 0, 1) := by decide +kernel
theorem d_mo_label_102 : decode cc_mo_label 102 = .ok (.getfield 56, 3) := by decide +kernel
theorem d_mo_label_105 : decode cc_mo_label 105 = .ok (.ifCond .ne 7, 3) := by decide +kernel
theorem d_mo_label_108 : decode cc_mo_label 108 = .ok (.iload_n 3, 1) := by decide +kernel
theorem d_mo_label_109 : decode cc_mo_label 109 = .ok (.goto 4, 3) := by decide +kernel
theorem d_mo_label_112 : decode cc_mo_label 112 = .ok (.iconst 0, 1) := by decide +kernel
theorem d_mo_label_113 : decode cc_mo_label 113 = .ok (.ireturn, 1) := by decide +kernel
abbrev cc_mo_labels : ByteArray := prog_7_method_39_code
def yy_mo_labels : MethodName := ⟨"SpotContoursModel", "labels", "()I"⟩
def ww_mo_labels : List Cond := .code yy_mo_labels cc_mo_labels 1 (some .int) :: zz_B
theorem d_mo_labels_0 : decode cc_mo_labels 0 = .ok (.aload_n 0, 1) := by decide +kernel
theorem d_mo_labels_1 : decode cc_mo_labels 1 = .ok (.iconst 0, 1) := by decide +kernel
theorem d_mo_labels_2 : decode cc_mo_labels 2 = .ok (.putfield 56, 3) := by decide +kernel
theorem d_mo_labels_5 : decode cc_mo_labels 5 = .ok (.aload_n 0, 1) := by decide +kernel
theorem d_mo_labels_6 : decode cc_mo_labels 6 = .ok (.getfield 63, 3) := by decide +kernel
theorem d_mo_labels_9 : decode cc_mo_labels 9 = .ok (.ireturn, 1) := by decide +kernel
abbrev cc_mo_labelOf : ByteArray := prog_7_method_40_code
def yy_mo_labelOf : MethodName := ⟨"SpotContoursModel", "labelOf", "(II)I"⟩
def ww_mo_labelOf : List Cond := .code yy_mo_labelOf cc_mo_labelOf 3 (some .int) :: zz_B
theorem d_mo_labelOf_0 : decode cc_mo_labelOf 0 = .ok (.aload_n 0, 1) := by decide +kernel
theorem d_mo_labelOf_1 : decode cc_mo_labelOf 1 = .ok (.iload_n 1, 1) := by decide +kernel
theorem d_mo_labelOf_2 : decode cc_mo_labelOf 2 = .ok (.ifCond .lt 11, 3) := by decide +kernel
theorem d_mo_labelOf_5 : decode cc_mo_labelOf 5 = .ok (.iload_n 1, 1) := by decide +kernel
theorem d_mo_labelOf_6 : decode cc_mo_labelOf 6 = .ok (.aload_n 0, 1) := by decide +kernel
theorem d_mo_labelOf_7 : decode cc_mo_labelOf 7 = .ok (.getfield 63, 3) := by decide +kernel
theorem d_mo_labelOf_10 : decode cc_mo_labelOf 10 = .ok (.if_icmp .lt 7, 3) := by decide +kernel
theorem d_mo_labelOf_13 : decode cc_mo_labelOf 13 = .ok (.iconst 1, 1) := by decide +kernel
theorem d_mo_labelOf_14 : decode cc_mo_labelOf 14 = .ok (.goto 17, 3) := by decide +kernel
theorem d_mo_labelOf_17 : decode cc_mo_labelOf 17 = .ok (.iload_n 2, 1) := by decide +kernel
theorem d_mo_labelOf_18 : decode cc_mo_labelOf 18 = .ok (.ifCond .lt 8, 3) := by decide +kernel
theorem d_mo_labelOf_21 : decode cc_mo_labelOf 21 = .ok (.iload_n 2, 1) := by decide +kernel
theorem d_mo_labelOf_22 : decode cc_mo_labelOf 22 = .ok (.iconst 2, 1) := by decide +kernel
theorem d_mo_labelOf_23 : decode cc_mo_labelOf 23 = .ok (.if_icmp .le 7, 3) := by decide +kernel
theorem d_mo_labelOf_26 : decode cc_mo_labelOf 26 = .ok (.iconst 2, 1) := by decide +kernel
theorem d_mo_labelOf_27 : decode cc_mo_labelOf 27 = .ok (.goto 4, 3) := by decide +kernel
theorem d_mo_labelOf_30 : decode cc_mo_labelOf 30 = .ok (.iconst 0, 1) := by decide +kernel
theorem d_mo_labelOf_31 : decode cc_mo_labelOf 31 = .ok (.putfield 56, 3) := by decide +kernel
theorem d_mo_labelOf_34 : decode cc_mo_labelOf 34 = .ok (.aload_n 0, 1) := by decide +kernel
theorem d_mo_labelOf_35 : decode cc_mo_labelOf 35 = .ok (.getfield 56, 3) := by decide +kernel
theorem d_mo_labelOf_38 : decode cc_mo_labelOf 38 = .ok (.ifCond .eq 7, 3) := by decide +kernel
theorem d_mo_labelOf_41 : decode cc_mo_labelOf 41 = .ok (.iconst 0, 1) := by decide +kernel
theorem d_mo_labelOf_42 : decode cc_mo_labelOf 42 = .ok (.goto 36, 3) := by decide +kernel
theorem d_mo_labelOf_45 : decode cc_mo_labelOf 45 = .ok (.iload_n 2, 1) := by decide +kernel
theorem d_mo_labelOf_46 : decode cc_mo_labelOf 46 = .ok (.ifCond .ne 12, 3) := by decide +kernel
theorem d_mo_labelOf_49 : decode cc_mo_labelOf 49 = .ok (.aload_n 0, 1) := by decide +kernel
theorem d_mo_labelOf_50 : decode cc_mo_labelOf 50 = .ok (.getfield 47, 3) := by decide +kernel
theorem d_mo_labelOf_53 : decode cc_mo_labelOf 53 = .ok (.iload_n 1, 1) := by decide +kernel
theorem d_mo_labelOf_54 : decode cc_mo_labelOf 54 = .ok (.iaload, 1) := by decide +kernel
theorem d_mo_labelOf_55 : decode cc_mo_labelOf 55 = .ok (.goto 23, 3) := by decide +kernel
theorem d_mo_labelOf_58 : decode cc_mo_labelOf 58 = .ok (.iload_n 2, 1) := by decide +kernel
theorem d_mo_labelOf_59 : decode cc_mo_labelOf 59 = .ok (.iconst 1, 1) := by decide +kernel
theorem d_mo_labelOf_60 : decode cc_mo_labelOf 60 = .ok (.if_icmp .ne 12, 3) := by decide +kernel
theorem d_mo_labelOf_63 : decode cc_mo_labelOf 63 = .ok (.aload_n 0, 1) := by decide +kernel
theorem d_mo_labelOf_64 : decode cc_mo_labelOf 64 = .ok (.getfield 50, 3) := by decide +kernel
theorem d_mo_labelOf_67 : decode cc_mo_labelOf 67 = .ok (.iload_n 1, 1) := by decide +kernel
theorem d_mo_labelOf_68 : decode cc_mo_labelOf 68 = .ok (.iaload, 1) := by decide +kernel
theorem d_mo_labelOf_69 : decode cc_mo_labelOf 69 = .ok (.goto 9, 3) := by decide +kernel
theorem d_mo_labelOf_72 : decode cc_mo_labelOf 72 = .ok (.aload_n 0, 1) := by decide +kernel
theorem d_mo_labelOf_73 : decode cc_mo_labelOf 73 = .ok (.getfield 53, 3) := by decide +kernel
theorem d_mo_labelOf_76 : decode cc_mo_labelOf 76 = .ok (.iload_n 1, 1) := by decide +kernel
theorem d_mo_labelOf_77 : decode cc_mo_labelOf 77 = .ok (.iaload, 1) := by decide +kernel
theorem d_mo_labelOf_78 : decode cc_mo_labelOf 78 = .ok (.ireturn, 1) := by decide +kernel
abbrev cc_mo_wipe : ByteArray := prog_7_method_41_code
def yy_mo_wipe : MethodName := ⟨"SpotContoursModel", "wipe", "()I"⟩
def ww_mo_wipe : List Cond := .code yy_mo_wipe cc_mo_wipe 2 (some .int) :: zz_B
theorem d_mo_wipe_0 : decode cc_mo_wipe 0 = .ok (.aload_n 0, 1) := by decide +kernel
theorem d_mo_wipe_1 : decode cc_mo_wipe 1 = .ok (.iconst 0, 1) := by decide +kernel
theorem d_mo_wipe_2 : decode cc_mo_wipe 2 = .ok (.putfield 56, 3) := by decide +kernel
theorem d_mo_wipe_5 : decode cc_mo_wipe 5 = .ok (.aload_n 0, 1) := by decide +kernel
theorem d_mo_wipe_6 : decode cc_mo_wipe 6 = .ok (.getfield 63, 3) := by decide +kernel
theorem d_mo_wipe_9 : decode cc_mo_wipe 9 = .ok (.istore_n 1, 1) := by decide +kernel
theorem d_mo_wipe_10 : decode cc_mo_wipe 10 = .ok (.aload_n 0, 1) := by decide +kernel
theorem d_mo_wipe_11 : decode cc_mo_wipe 11 = .ok (.iconst 0, 1) := by decide +kernel
theorem d_mo_wipe_12 : decode cc_mo_wipe 12 = .ok (.putfield 63, 3) := by decide +kernel
theorem d_mo_wipe_15 : decode cc_mo_wipe 15 = .ok (.iload_n 1, 1) := by decide +kernel
theorem d_mo_wipe_16 : decode cc_mo_wipe 16 = .ok (.ireturn, 1) := by decide +kernel
end
section
/-! Words and classes, printed. -/
theorem wm_0 : Cond.code ⟨"SpotContours$Spots", "x", "(I)I"⟩ prog_4_method_4_code 2 (some .int) ∈ zz_B := zz_mem (List.mem_append_right _ (List.mem_of_getElem? (i := 477) (by decide +kernel))) (by decide +kernel)
theorem wm_1 : Cond.initialized "SpotContours$Spots" ∈ zz_B := zz_mem (List.mem_append_right _ (List.mem_of_getElem? (i := 2) (by decide +kernel))) (by decide +kernel)
theorem wm_2 : Cond.methodLink "SpotContours$Lines" 50 ⟨"SpotContours$Spots", "x", "(I)I"⟩ ∈ zz_B := zz_mem (List.mem_append_right _ (List.mem_of_getElem? (i := 474) (by decide +kernel))) (by decide +kernel)
theorem wm_3 : Cond.instanceMethod ⟨"SpotContours$Spots", "x", "(I)I"⟩ ∈ zz_B := zz_mem (List.mem_append_right _ (List.mem_of_getElem? (i := 475) (by decide +kernel))) (by decide +kernel)
theorem wm_4 : Cond.selects "SpotContours$Spots" ⟨"SpotContours$Spots", "x", "(I)I"⟩ ⟨"SpotContours$Spots", "x", "(I)I"⟩ ∈ zz_B := zz_mem (List.mem_append_right _ (List.mem_of_getElem? (i := 476) (by decide +kernel))) (by decide +kernel)
theorem wm_5 : Cond.code ⟨"SpotContours$Lines", "moreLeft", "(LSpotContours$Spots;II)I"⟩ prog_2_method_8_code 3 (some .int) ∈ zz_B := zz_mem (List.mem_append_right _ (List.mem_of_getElem? (i := 473) (by decide +kernel))) (by decide +kernel)
theorem wm_6 : Cond.initialized "SpotContours$Lines" ∈ zz_B := zz_mem (List.mem_append_right _ (List.mem_of_getElem? (i := 4) (by decide +kernel))) (by decide +kernel)
theorem wm_7 : Cond.methodLink "SpotContours$Lines" 43 ⟨"SpotContours$Lines", "moreLeft", "(LSpotContours$Spots;II)I"⟩ ∈ zz_B := zz_mem (List.mem_append_right _ (List.mem_of_getElem? (i := 471) (by decide +kernel))) (by decide +kernel)
theorem wm_8 : Cond.static ⟨"SpotContours$Lines", "moreLeft", "(LSpotContours$Spots;II)I"⟩ ∈ zz_B := zz_mem (List.mem_append_right _ (List.mem_of_getElem? (i := 472) (by decide +kernel))) (by decide +kernel)
theorem wm_9 : Cond.code ⟨"SpotContours", "lowOf", "(I)I"⟩ prog_1_method_20_code 1 (some .int) ∈ zz_B := zz_mem (List.mem_append_right _ (List.mem_of_getElem? (i := 429) (by decide +kernel))) (by decide +kernel)
theorem wm_10 : Cond.initialized "SpotContours" ∈ zz_B := zz_mem (List.mem_append_right _ (List.mem_of_getElem? (i := 1) (by decide +kernel))) (by decide +kernel)
theorem wm_11 : Cond.static ⟨"SpotContours", "lowOf", "(I)I"⟩ ∈ zz_B := zz_mem (List.mem_append_right _ (List.mem_of_getElem? (i := 428) (by decide +kernel))) (by decide +kernel)
theorem wm_12 : Cond.code ⟨"SpotContours$Lines", "pair", "(II)I"⟩ prog_2_method_6_code 3 (some .int) ∈ zz_B := zz_mem (List.mem_append_right _ (List.mem_of_getElem? (i := 469) (by decide +kernel))) (by decide +kernel)
theorem wm_13 : Cond.methodLink "SpotContours$Lines" 32 ⟨"SpotContours$Lines", "pair", "(II)I"⟩ ∈ zz_B := zz_mem (List.mem_append_right _ (List.mem_of_getElem? (i := 466) (by decide +kernel))) (by decide +kernel)
theorem wm_14 : Cond.instanceMethod ⟨"SpotContours$Lines", "pair", "(II)I"⟩ ∈ zz_B := zz_mem (List.mem_append_right _ (List.mem_of_getElem? (i := 467) (by decide +kernel))) (by decide +kernel)
theorem wm_15 : Cond.selects "SpotContours$Lines" ⟨"SpotContours$Lines", "pair", "(II)I"⟩ ⟨"SpotContours$Lines", "pair", "(II)I"⟩ ∈ zz_B := zz_mem (List.mem_append_right _ (List.mem_of_getElem? (i := 468) (by decide +kernel))) (by decide +kernel)
theorem wm_16 : Cond.code ⟨"SpotContours", "highOf", "(I)I"⟩ prog_1_method_19_code 1 (some .int) ∈ zz_B := zz_mem (List.mem_append_right _ (List.mem_of_getElem? (i := 426) (by decide +kernel))) (by decide +kernel)
theorem wm_17 : Cond.static ⟨"SpotContours", "highOf", "(I)I"⟩ ∈ zz_B := zz_mem (List.mem_append_right _ (List.mem_of_getElem? (i := 425) (by decide +kernel))) (by decide +kernel)
theorem wm_18 : Cond.code ⟨"SpotContours$Lines", "length", "(I)I"⟩ prog_2_method_4_code 2 (some .int) ∈ zz_B := zz_mem (List.mem_append_right _ (List.mem_of_getElem? (i := 457) (by decide +kernel))) (by decide +kernel)
theorem wm_19 : Cond.methodLink "SpotContours$Lines" 40 ⟨"SpotContours$Lines", "length", "(I)I"⟩ ∈ zz_B := zz_mem (List.mem_append_right _ (List.mem_of_getElem? (i := 470) (by decide +kernel))) (by decide +kernel)
theorem wm_20 : Cond.instanceMethod ⟨"SpotContours$Lines", "length", "(I)I"⟩ ∈ zz_B := zz_mem (List.mem_append_right _ (List.mem_of_getElem? (i := 455) (by decide +kernel))) (by decide +kernel)
theorem wm_21 : Cond.selects "SpotContours$Lines" ⟨"SpotContours$Lines", "length", "(I)I"⟩ ⟨"SpotContours$Lines", "length", "(I)I"⟩ ∈ zz_B := zz_mem (List.mem_append_right _ (List.mem_of_getElem? (i := 456) (by decide +kernel))) (by decide +kernel)
theorem wm_22 : Cond.code ⟨"SpotContours$Mesh", "thirdRightOf", "(II)I"⟩ prog_3_method_4_code 3 (some .int) ∈ zz_B := zz_mem (List.mem_append_right _ (List.mem_of_getElem? (i := 352) (by decide +kernel))) (by decide +kernel)
theorem wm_23 : Cond.initialized "SpotContours$Mesh" ∈ zz_B := zz_mem (List.mem_append_right _ (List.mem_of_getElem? (i := 3) (by decide +kernel))) (by decide +kernel)
theorem wm_24 : Cond.methodLink "SpotContours$Mesh" 25 ⟨"SpotContours$Mesh", "thirdRightOf", "(II)I"⟩ ∈ zz_B := zz_mem (List.mem_append_right _ (List.mem_of_getElem? (i := 349) (by decide +kernel))) (by decide +kernel)
theorem wm_25 : Cond.instanceMethod ⟨"SpotContours$Mesh", "thirdRightOf", "(II)I"⟩ ∈ zz_B := zz_mem (List.mem_append_right _ (List.mem_of_getElem? (i := 350) (by decide +kernel))) (by decide +kernel)
theorem wm_26 : Cond.selects "SpotContours$Mesh" ⟨"SpotContours$Mesh", "thirdRightOf", "(II)I"⟩ ⟨"SpotContours$Mesh", "thirdRightOf", "(II)I"⟩ ∈ zz_B := zz_mem (List.mem_append_right _ (List.mem_of_getElem? (i := 351) (by decide +kernel))) (by decide +kernel)
theorem wm_27 : Cond.code ⟨"SpotContours$Lines", "otherPair", "(III)I"⟩ prog_2_method_15_code 4 (some .int) ∈ zz_B := zz_mem (List.mem_append_right _ (List.mem_of_getElem? (i := 434) (by decide +kernel))) (by decide +kernel)
theorem wm_28 : Cond.methodLink "SpotContours$Lines" 87 ⟨"SpotContours$Lines", "otherPair", "(III)I"⟩ ∈ zz_B := zz_mem (List.mem_append_right _ (List.mem_of_getElem? (i := 431) (by decide +kernel))) (by decide +kernel)
theorem wm_29 : Cond.instanceMethod ⟨"SpotContours$Lines", "otherPair", "(III)I"⟩ ∈ zz_B := zz_mem (List.mem_append_right _ (List.mem_of_getElem? (i := 433) (by decide +kernel))) (by decide +kernel)
theorem wm_30 : Cond.selects "SpotContours$Lines" ⟨"SpotContours$Lines", "otherPair", "(III)I"⟩ ⟨"SpotContours$Lines", "otherPair", "(III)I"⟩ ∈ zz_B := zz_mem (List.mem_append_left _ (by decide +kernel)) (by decide +kernel)
theorem wm_31 : Cond.methodLink "SpotContours$Lines" 84 ⟨"SpotContours$Mesh", "thirdRightOf", "(II)I"⟩ ∈ zz_B := zz_mem (List.mem_append_right _ (List.mem_of_getElem? (i := 430) (by decide +kernel))) (by decide +kernel)
theorem wm_32 : Cond.code ⟨"SpotContours$Lines", "before", "(LSpotContours$Mesh;I)I"⟩ prog_2_method_14_code 5 (some .int) ∈ zz_B := zz_mem (List.mem_append_right _ (List.mem_of_getElem? (i := 423) (by decide +kernel))) (by decide +kernel)
theorem wm_33 : Cond.methodLink "SpotContours$Lines" 78 ⟨"SpotContours$Lines", "before", "(LSpotContours$Mesh;I)I"⟩ ∈ zz_B := zz_mem (List.mem_append_right _ (List.mem_of_getElem? (i := 420) (by decide +kernel))) (by decide +kernel)
theorem wm_34 : Cond.instanceMethod ⟨"SpotContours$Lines", "before", "(LSpotContours$Mesh;I)I"⟩ ∈ zz_B := zz_mem (List.mem_append_right _ (List.mem_of_getElem? (i := 422) (by decide +kernel))) (by decide +kernel)
theorem wm_35 : Cond.selects "SpotContours$Lines" ⟨"SpotContours$Lines", "before", "(LSpotContours$Mesh;I)I"⟩ ⟨"SpotContours$Lines", "before", "(LSpotContours$Mesh;I)I"⟩ ∈ zz_B := zz_mem (List.mem_append_left _ (by decide +kernel)) (by decide +kernel)
theorem wm_36 : Cond.code ⟨"SpotContours$Lines", "behind", "(LSpotContours$Mesh;I)I"⟩ prog_2_method_13_code 5 (some .int) ∈ zz_B := zz_mem (List.mem_append_right _ (List.mem_of_getElem? (i := 438) (by decide +kernel))) (by decide +kernel)
theorem wm_37 : Cond.methodLink "SpotContours$Lines" 81 ⟨"SpotContours$Lines", "behind", "(LSpotContours$Mesh;I)I"⟩ ∈ zz_B := zz_mem (List.mem_append_right _ (List.mem_of_getElem? (i := 435) (by decide +kernel))) (by decide +kernel)
theorem wm_38 : Cond.instanceMethod ⟨"SpotContours$Lines", "behind", "(LSpotContours$Mesh;I)I"⟩ ∈ zz_B := zz_mem (List.mem_append_right _ (List.mem_of_getElem? (i := 437) (by decide +kernel))) (by decide +kernel)
theorem wm_39 : Cond.selects "SpotContours$Lines" ⟨"SpotContours$Lines", "behind", "(LSpotContours$Mesh;I)I"⟩ ⟨"SpotContours$Lines", "behind", "(LSpotContours$Mesh;I)I"⟩ ∈ zz_B := zz_mem (List.mem_append_left _ (by decide +kernel)) (by decide +kernel)
theorem wm_40 : Cond.code ⟨"SpotContours$Lines", "beginning", "(LSpotContours$Mesh;I)I"⟩ prog_2_method_12_code 6 (some .int) ∈ zz_B := zz_mem (List.mem_append_right _ (List.mem_of_getElem? (i := 419) (by decide +kernel))) (by decide +kernel)
theorem wm_41 : Cond.methodLink "SpotContours$Lines" 74 ⟨"SpotContours$Lines", "beginning", "(LSpotContours$Mesh;I)I"⟩ ∈ zz_B := zz_mem (List.mem_append_right _ (List.mem_of_getElem? (i := 416) (by decide +kernel))) (by decide +kernel)
theorem wm_42 : Cond.instanceMethod ⟨"SpotContours$Lines", "beginning", "(LSpotContours$Mesh;I)I"⟩ ∈ zz_B := zz_mem (List.mem_append_right _ (List.mem_of_getElem? (i := 418) (by decide +kernel))) (by decide +kernel)
theorem wm_43 : Cond.selects "SpotContours$Lines" ⟨"SpotContours$Lines", "beginning", "(LSpotContours$Mesh;I)I"⟩ ⟨"SpotContours$Lines", "beginning", "(LSpotContours$Mesh;I)I"⟩ ∈ zz_B := zz_mem (List.mem_append_left _ (by decide +kernel)) (by decide +kernel)
theorem wm_44 : Cond.code ⟨"SpotContours$Spots", "height", "(I)I"⟩ prog_4_method_6_code 2 (some .int) ∈ zz_B := zz_mem (List.mem_append_right _ (List.mem_of_getElem? (i := 322) (by decide +kernel))) (by decide +kernel)
theorem wm_45 : Cond.methodLink "SpotContours$Lines" 62 ⟨"SpotContours$Spots", "height", "(I)I"⟩ ∈ zz_B := zz_mem (List.mem_append_right _ (List.mem_of_getElem? (i := 410) (by decide +kernel))) (by decide +kernel)
theorem wm_46 : Cond.instanceMethod ⟨"SpotContours$Spots", "height", "(I)I"⟩ ∈ zz_B := zz_mem (List.mem_append_right _ (List.mem_of_getElem? (i := 320) (by decide +kernel))) (by decide +kernel)
theorem wm_47 : Cond.selects "SpotContours$Spots" ⟨"SpotContours$Spots", "height", "(I)I"⟩ ⟨"SpotContours$Spots", "height", "(I)I"⟩ ∈ zz_B := zz_mem (List.mem_append_right _ (List.mem_of_getElem? (i := 321) (by decide +kernel))) (by decide +kernel)
theorem wm_48 : Cond.code ⟨"SpotContours$Spots", "size", "()I"⟩ prog_4_method_2_code 1 (some .int) ∈ zz_B := zz_mem (List.mem_append_right _ (List.mem_of_getElem? (i := 231) (by decide +kernel))) (by decide +kernel)
theorem wm_49 : Cond.methodLink "SpotContours$Lines" 58 ⟨"SpotContours$Spots", "size", "()I"⟩ ∈ zz_B := zz_mem (List.mem_append_right _ (List.mem_of_getElem? (i := 409) (by decide +kernel))) (by decide +kernel)
theorem wm_50 : Cond.instanceMethod ⟨"SpotContours$Spots", "size", "()I"⟩ ∈ zz_B := zz_mem (List.mem_append_right _ (List.mem_of_getElem? (i := 229) (by decide +kernel))) (by decide +kernel)
theorem wm_51 : Cond.selects "SpotContours$Spots" ⟨"SpotContours$Spots", "size", "()I"⟩ ⟨"SpotContours$Spots", "size", "()I"⟩ ∈ zz_B := zz_mem (List.mem_append_right _ (List.mem_of_getElem? (i := 230) (by decide +kernel))) (by decide +kernel)
theorem wm_52 : Cond.code ⟨"SpotContours$Lines", "traceFrom", "(LSpotContours$Mesh;I)V"⟩ prog_2_method_11_code 6 none ∈ zz_B := zz_mem (List.mem_append_right _ (List.mem_of_getElem? (i := 415) (by decide +kernel))) (by decide +kernel)
theorem wm_53 : Cond.methodLink "SpotContours$Lines" 70 ⟨"SpotContours$Lines", "traceFrom", "(LSpotContours$Mesh;I)V"⟩ ∈ zz_B := zz_mem (List.mem_append_right _ (List.mem_of_getElem? (i := 412) (by decide +kernel))) (by decide +kernel)
theorem wm_54 : Cond.instanceMethod ⟨"SpotContours$Lines", "traceFrom", "(LSpotContours$Mesh;I)V"⟩ ∈ zz_B := zz_mem (List.mem_append_right _ (List.mem_of_getElem? (i := 414) (by decide +kernel))) (by decide +kernel)
theorem wm_55 : Cond.selects "SpotContours$Lines" ⟨"SpotContours$Lines", "traceFrom", "(LSpotContours$Mesh;I)V"⟩ ⟨"SpotContours$Lines", "traceFrom", "(LSpotContours$Mesh;I)V"⟩ ∈ zz_B := zz_mem (List.mem_append_left _ (by decide +kernel)) (by decide +kernel)
theorem wm_56 : Cond.code ⟨"SpotContours$Mesh", "sharing", "(II)I"⟩ prog_3_method_5_code 5 (some .int) ∈ zz_B := zz_mem (List.mem_append_right _ (List.mem_of_getElem? (i := 348) (by decide +kernel))) (by decide +kernel)
theorem wm_57 : Cond.methodLink "SpotContours$Lines" 65 ⟨"SpotContours$Mesh", "sharing", "(II)I"⟩ ∈ zz_B := zz_mem (List.mem_append_right _ (List.mem_of_getElem? (i := 411) (by decide +kernel))) (by decide +kernel)
theorem wm_58 : Cond.instanceMethod ⟨"SpotContours$Mesh", "sharing", "(II)I"⟩ ∈ zz_B := zz_mem (List.mem_append_right _ (List.mem_of_getElem? (i := 346) (by decide +kernel))) (by decide +kernel)
theorem wm_59 : Cond.selects "SpotContours$Mesh" ⟨"SpotContours$Mesh", "sharing", "(II)I"⟩ ⟨"SpotContours$Mesh", "sharing", "(II)I"⟩ ∈ zz_B := zz_mem (List.mem_append_right _ (List.mem_of_getElem? (i := 347) (by decide +kernel))) (by decide +kernel)
theorem wm_60 : Cond.code ⟨"SpotContours$Lines", "clear", "()V"⟩ prog_2_method_10_code 2 none ∈ zz_B := zz_mem (List.mem_append_right _ (List.mem_of_getElem? (i := 408) (by decide +kernel))) (by decide +kernel)
theorem wm_61 : Cond.methodLink "SpotContours$Lines" 55 ⟨"SpotContours$Lines", "clear", "()V"⟩ ∈ zz_B := zz_mem (List.mem_append_right _ (List.mem_of_getElem? (i := 405) (by decide +kernel))) (by decide +kernel)
theorem wm_62 : Cond.instanceMethod ⟨"SpotContours$Lines", "clear", "()V"⟩ ∈ zz_B := zz_mem (List.mem_append_right _ (List.mem_of_getElem? (i := 407) (by decide +kernel))) (by decide +kernel)
theorem wm_63 : Cond.selects "SpotContours$Lines" ⟨"SpotContours$Lines", "clear", "()V"⟩ ⟨"SpotContours$Lines", "clear", "()V"⟩ ∈ zz_B := zz_mem (List.mem_append_left _ (by decide +kernel)) (by decide +kernel)
theorem wm_64 : Cond.code ⟨"SpotContours$Spots", "turnTo", "(IIII)I"⟩ prog_4_method_11_code 5 (some .int) ∈ zz_B := zz_mem (List.mem_append_right _ (List.mem_of_getElem? (i := 266) (by decide +kernel))) (by decide +kernel)
theorem wm_65 : Cond.methodLink "SpotContours$Spots" 25 ⟨"SpotContours$Spots", "turnTo", "(IIII)I"⟩ ∈ zz_B := zz_mem (List.mem_append_right _ (List.mem_of_getElem? (i := 263) (by decide +kernel))) (by decide +kernel)
theorem wm_66 : Cond.instanceMethod ⟨"SpotContours$Spots", "turnTo", "(IIII)I"⟩ ∈ zz_B := zz_mem (List.mem_append_right _ (List.mem_of_getElem? (i := 264) (by decide +kernel))) (by decide +kernel)
theorem wm_67 : Cond.selects "SpotContours$Spots" ⟨"SpotContours$Spots", "turnTo", "(IIII)I"⟩ ⟨"SpotContours$Spots", "turnTo", "(IIII)I"⟩ ∈ zz_B := zz_mem (List.mem_append_right _ (List.mem_of_getElem? (i := 265) (by decide +kernel))) (by decide +kernel)
theorem wm_68 : Cond.code ⟨"SpotContours$Spots", "turn", "(III)I"⟩ prog_4_method_10_code 4 (some .int) ∈ zz_B := zz_mem (List.mem_append_right _ (List.mem_of_getElem? (i := 262) (by decide +kernel))) (by decide +kernel)
theorem wm_69 : Cond.methodLink "SpotContours$Spots" 41 ⟨"SpotContours$Spots", "turn", "(III)I"⟩ ∈ zz_B := zz_mem (List.mem_append_right _ (List.mem_of_getElem? (i := 279) (by decide +kernel))) (by decide +kernel)
theorem wm_70 : Cond.instanceMethod ⟨"SpotContours$Spots", "turn", "(III)I"⟩ ∈ zz_B := zz_mem (List.mem_append_right _ (List.mem_of_getElem? (i := 260) (by decide +kernel))) (by decide +kernel)
theorem wm_71 : Cond.selects "SpotContours$Spots" ⟨"SpotContours$Spots", "turn", "(III)I"⟩ ⟨"SpotContours$Spots", "turn", "(III)I"⟩ ∈ zz_B := zz_mem (List.mem_append_right _ (List.mem_of_getElem? (i := 261) (by decide +kernel))) (by decide +kernel)
theorem wm_72 : Cond.code ⟨"SpotContours$Spots", "squareFrom", "(II)J"⟩ prog_4_method_14_code 7 (some .long) ∈ zz_B := zz_mem (List.mem_append_right _ (List.mem_of_getElem? (i := 278) (by decide +kernel))) (by decide +kernel)
theorem wm_73 : Cond.methodLink "SpotContours$Spots" 37 ⟨"SpotContours$Spots", "squareFrom", "(II)J"⟩ ∈ zz_B := zz_mem (List.mem_append_right _ (List.mem_of_getElem? (i := 275) (by decide +kernel))) (by decide +kernel)
theorem wm_74 : Cond.instanceMethod ⟨"SpotContours$Spots", "squareFrom", "(II)J"⟩ ∈ zz_B := zz_mem (List.mem_append_right _ (List.mem_of_getElem? (i := 277) (by decide +kernel))) (by decide +kernel)
theorem wm_75 : Cond.selects "SpotContours$Spots" ⟨"SpotContours$Spots", "squareFrom", "(II)J"⟩ ⟨"SpotContours$Spots", "squareFrom", "(II)J"⟩ ∈ zz_B := zz_mem (List.mem_append_left _ (by decide +kernel)) (by decide +kernel)
theorem wm_76 : Cond.code ⟨"SpotContours$Spots", "areOpposite", "(IIII)Z"⟩ prog_4_method_15_code 5 (some .boolean) ∈ zz_B := zz_mem (List.mem_append_right _ (List.mem_of_getElem? (i := 283) (by decide +kernel))) (by decide +kernel)
theorem wm_77 : Cond.methodLink "SpotContours$Spots" 33 ⟨"SpotContours$Spots", "areOpposite", "(IIII)Z"⟩ ∈ zz_B := zz_mem (List.mem_append_right _ (List.mem_of_getElem? (i := 280) (by decide +kernel))) (by decide +kernel)
theorem wm_78 : Cond.instanceMethod ⟨"SpotContours$Spots", "areOpposite", "(IIII)Z"⟩ ∈ zz_B := zz_mem (List.mem_append_right _ (List.mem_of_getElem? (i := 282) (by decide +kernel))) (by decide +kernel)
theorem wm_79 : Cond.selects "SpotContours$Spots" ⟨"SpotContours$Spots", "areOpposite", "(IIII)Z"⟩ ⟨"SpotContours$Spots", "areOpposite", "(IIII)Z"⟩ ∈ zz_B := zz_mem (List.mem_append_left _ (by decide +kernel)) (by decide +kernel)
theorem wm_80 : Cond.code ⟨"SpotContours$Spots", "depthInCircle", "(IIII)J"⟩ prog_4_method_13_code 7 (some .long) ∈ zz_B := zz_mem (List.mem_append_right _ (List.mem_of_getElem? (i := 274) (by decide +kernel))) (by decide +kernel)
theorem wm_81 : Cond.methodLink "SpotContours$Spots" 29 ⟨"SpotContours$Spots", "depthInCircle", "(IIII)J"⟩ ∈ zz_B := zz_mem (List.mem_append_right _ (List.mem_of_getElem? (i := 271) (by decide +kernel))) (by decide +kernel)
theorem wm_82 : Cond.instanceMethod ⟨"SpotContours$Spots", "depthInCircle", "(IIII)J"⟩ ∈ zz_B := zz_mem (List.mem_append_right _ (List.mem_of_getElem? (i := 273) (by decide +kernel))) (by decide +kernel)
theorem wm_83 : Cond.selects "SpotContours$Spots" ⟨"SpotContours$Spots", "depthInCircle", "(IIII)J"⟩ ⟨"SpotContours$Spots", "depthInCircle", "(IIII)J"⟩ ∈ zz_B := zz_mem (List.mem_append_left _ (by decide +kernel)) (by decide +kernel)
theorem wm_84 : Cond.code ⟨"SpotContours$Spots", "isInCircle", "(IIII)Z"⟩ prog_4_method_12_code 7 (some .boolean) ∈ zz_B := zz_mem (List.mem_append_right _ (List.mem_of_getElem? (i := 270) (by decide +kernel))) (by decide +kernel)
theorem wm_85 : Cond.methodLink "SpotContours$Mesh" 47 ⟨"SpotContours$Spots", "isInCircle", "(IIII)Z"⟩ ∈ zz_B := zz_mem (List.mem_append_right _ (List.mem_of_getElem? (i := 267) (by decide +kernel))) (by decide +kernel)
theorem wm_86 : Cond.instanceMethod ⟨"SpotContours$Spots", "isInCircle", "(IIII)Z"⟩ ∈ zz_B := zz_mem (List.mem_append_right _ (List.mem_of_getElem? (i := 268) (by decide +kernel))) (by decide +kernel)
theorem wm_87 : Cond.selects "SpotContours$Spots" ⟨"SpotContours$Spots", "isInCircle", "(IIII)Z"⟩ ⟨"SpotContours$Spots", "isInCircle", "(IIII)Z"⟩ ∈ zz_B := zz_mem (List.mem_append_right _ (List.mem_of_getElem? (i := 269) (by decide +kernel))) (by decide +kernel)
theorem wm_88 : Cond.methodLink "SpotContours$Mesh" 29 ⟨"SpotContours$Spots", "size", "()I"⟩ ∈ zz_B := zz_mem (List.mem_append_right _ (List.mem_of_getElem? (i := 255) (by decide +kernel))) (by decide +kernel)
theorem wm_89 : Cond.methodLink "SpotContours$Mesh" 39 ⟨"SpotContours$Spots", "turn", "(III)I"⟩ ∈ zz_B := zz_mem (List.mem_append_right _ (List.mem_of_getElem? (i := 259) (by decide +kernel))) (by decide +kernel)
theorem wm_90 : Cond.code ⟨"SpotContours$Mesh", "addSides", "(III)V"⟩ prog_3_method_10_code 4 none ∈ zz_B := zz_mem (List.mem_append_right _ (List.mem_of_getElem? (i := 291) (by decide +kernel))) (by decide +kernel)
theorem wm_91 : Cond.methodLink "SpotContours$Mesh" 51 ⟨"SpotContours$Mesh", "addSides", "(III)V"⟩ ∈ zz_B := zz_mem (List.mem_append_right _ (List.mem_of_getElem? (i := 288) (by decide +kernel))) (by decide +kernel)
theorem wm_92 : Cond.instanceMethod ⟨"SpotContours$Mesh", "addSides", "(III)V"⟩ ∈ zz_B := zz_mem (List.mem_append_right _ (List.mem_of_getElem? (i := 290) (by decide +kernel))) (by decide +kernel)
theorem wm_93 : Cond.selects "SpotContours$Mesh" ⟨"SpotContours$Mesh", "addSides", "(III)V"⟩ ⟨"SpotContours$Mesh", "addSides", "(III)V"⟩ ∈ zz_B := zz_mem (List.mem_append_left _ (by decide +kernel)) (by decide +kernel)
theorem wm_94 : Cond.code ⟨"SpotContours$Mesh", "add", "(IIIZ)V"⟩ prog_3_method_9_code 6 none ∈ zz_B := zz_mem (List.mem_append_right _ (List.mem_of_getElem? (i := 287) (by decide +kernel))) (by decide +kernel)
theorem wm_95 : Cond.methodLink "SpotContours$Mesh" 43 ⟨"SpotContours$Mesh", "add", "(IIIZ)V"⟩ ∈ zz_B := zz_mem (List.mem_append_right _ (List.mem_of_getElem? (i := 284) (by decide +kernel))) (by decide +kernel)
theorem wm_96 : Cond.instanceMethod ⟨"SpotContours$Mesh", "add", "(IIIZ)V"⟩ ∈ zz_B := zz_mem (List.mem_append_right _ (List.mem_of_getElem? (i := 286) (by decide +kernel))) (by decide +kernel)
theorem wm_97 : Cond.selects "SpotContours$Mesh" ⟨"SpotContours$Mesh", "add", "(IIIZ)V"⟩ ⟨"SpotContours$Mesh", "add", "(IIIZ)V"⟩ ∈ zz_B := zz_mem (List.mem_append_left _ (by decide +kernel)) (by decide +kernel)
theorem wm_98 : Cond.code ⟨"SpotContours$Mesh", "isTriangle", "(LSpotContours$Spots;III)Z"⟩ prog_3_method_8_code 5 (some .boolean) ∈ zz_B := zz_mem (List.mem_append_right _ (List.mem_of_getElem? (i := 258) (by decide +kernel))) (by decide +kernel)
theorem wm_99 : Cond.methodLink "SpotContours$Mesh" 35 ⟨"SpotContours$Mesh", "isTriangle", "(LSpotContours$Spots;III)Z"⟩ ∈ zz_B := zz_mem (List.mem_append_right _ (List.mem_of_getElem? (i := 256) (by decide +kernel))) (by decide +kernel)
theorem wm_100 : Cond.static ⟨"SpotContours$Mesh", "isTriangle", "(LSpotContours$Spots;III)Z"⟩ ∈ zz_B := zz_mem (List.mem_append_right _ (List.mem_of_getElem? (i := 257) (by decide +kernel))) (by decide +kernel)
theorem wm_101 : Cond.code ⟨"SpotContours$Mesh", "clear", "()V"⟩ prog_3_method_7_code 2 none ∈ zz_B := zz_mem (List.mem_append_right _ (List.mem_of_getElem? (i := 52) (by decide +kernel))) (by decide +kernel)
theorem wm_102 : Cond.methodLink "SpotContours$Mesh" 18 ⟨"SpotContours$Mesh", "clear", "()V"⟩ ∈ zz_B := zz_mem (List.mem_append_right _ (List.mem_of_getElem? (i := 49) (by decide +kernel))) (by decide +kernel)
theorem wm_103 : Cond.instanceMethod ⟨"SpotContours$Mesh", "clear", "()V"⟩ ∈ zz_B := zz_mem (List.mem_append_right _ (List.mem_of_getElem? (i := 51) (by decide +kernel))) (by decide +kernel)
theorem wm_104 : Cond.selects "SpotContours$Mesh" ⟨"SpotContours$Mesh", "clear", "()V"⟩ ⟨"SpotContours$Mesh", "clear", "()V"⟩ ∈ zz_B := zz_mem (List.mem_append_left _ (by decide +kernel)) (by decide +kernel)
theorem wm_105 : Cond.code ⟨"java/lang/Math", "floorDiv", "(II)I"⟩ prog_12_method_47_code 3 (some .int) ∈ zz_B := zz_mem (List.mem_append_right _ (List.mem_of_getElem? (i := 374) (by decide +kernel))) (by decide +kernel)
theorem wm_106 : Cond.initialized "java/lang/Math" ∈ zz_B := zz_mem (List.mem_append_right _ (List.mem_of_getElem? (i := 13) (by decide +kernel))) (by decide +kernel)
theorem wm_107 : Cond.methodLink "SpotContours$Mesh" 70 ⟨"java/lang/Math", "floorDiv", "(II)I"⟩ ∈ zz_B := zz_mem (List.mem_append_right _ (List.mem_of_getElem? (i := 372) (by decide +kernel))) (by decide +kernel)
theorem wm_108 : Cond.static ⟨"java/lang/Math", "floorDiv", "(II)I"⟩ ∈ zz_B := zz_mem (List.mem_append_right _ (List.mem_of_getElem? (i := 373) (by decide +kernel))) (by decide +kernel)
theorem wm_109 : Cond.methodLink "SpotContours$Mesh" 66 ⟨"SpotContours$Spots", "height", "(I)I"⟩ ∈ zz_B := zz_mem (List.mem_append_right _ (List.mem_of_getElem? (i := 371) (by decide +kernel))) (by decide +kernel)
theorem wm_110 : Cond.methodLink "SpotContours$Mesh" 62 ⟨"SpotContours$Spots", "turnTo", "(IIII)I"⟩ ∈ zz_B := zz_mem (List.mem_append_right _ (List.mem_of_getElem? (i := 370) (by decide +kernel))) (by decide +kernel)
theorem wm_111 : Cond.code ⟨"SpotContours$Mesh", "cornerOf", "(II)I"⟩ prog_3_method_3_code 3 (some .int) ∈ zz_B := zz_mem (List.mem_append_right _ (List.mem_of_getElem? (i := 337) (by decide +kernel))) (by decide +kernel)
theorem wm_112 : Cond.methodLink "SpotContours$Mesh" 59 ⟨"SpotContours$Mesh", "cornerOf", "(II)I"⟩ ∈ zz_B := zz_mem (List.mem_append_right _ (List.mem_of_getElem? (i := 369) (by decide +kernel))) (by decide +kernel)
theorem wm_113 : Cond.instanceMethod ⟨"SpotContours$Mesh", "cornerOf", "(II)I"⟩ ∈ zz_B := zz_mem (List.mem_append_right _ (List.mem_of_getElem? (i := 335) (by decide +kernel))) (by decide +kernel)
theorem wm_114 : Cond.selects "SpotContours$Mesh" ⟨"SpotContours$Mesh", "cornerOf", "(II)I"⟩ ⟨"SpotContours$Mesh", "cornerOf", "(II)I"⟩ ∈ zz_B := zz_mem (List.mem_append_right _ (List.mem_of_getElem? (i := 336) (by decide +kernel))) (by decide +kernel)
theorem wm_115 : Cond.code ⟨"SpotContours$Mesh", "heightIn", "(LSpotContours$Spots;III)I"⟩ prog_3_method_12_code 13 (some .int) ∈ zz_B := zz_mem (List.mem_append_right _ (List.mem_of_getElem? (i := 368) (by decide +kernel))) (by decide +kernel)
theorem wm_116 : Cond.methodLink "SpotContours$Mesh" 55 ⟨"SpotContours$Mesh", "heightIn", "(LSpotContours$Spots;III)I"⟩ ∈ zz_B := zz_mem (List.mem_append_right _ (List.mem_of_getElem? (i := 365) (by decide +kernel))) (by decide +kernel)
theorem wm_117 : Cond.instanceMethod ⟨"SpotContours$Mesh", "heightIn", "(LSpotContours$Spots;III)I"⟩ ∈ zz_B := zz_mem (List.mem_append_right _ (List.mem_of_getElem? (i := 367) (by decide +kernel))) (by decide +kernel)
theorem wm_118 : Cond.selects "SpotContours$Mesh" ⟨"SpotContours$Mesh", "heightIn", "(LSpotContours$Spots;III)I"⟩ ⟨"SpotContours$Mesh", "heightIn", "(LSpotContours$Spots;III)I"⟩ ∈ zz_B := zz_mem (List.mem_append_left _ (by decide +kernel)) (by decide +kernel)
theorem wm_119 : Cond.methodLink "SpotContours$Spots" 56 ⟨"java/lang/Math", "floorDiv", "(II)I"⟩ ∈ zz_B := zz_mem (List.mem_append_right _ (List.mem_of_getElem? (i := 515) (by decide +kernel))) (by decide +kernel)
theorem wm_120 : Cond.code ⟨"SpotContours$Spots", "crossingOf", "([III)I"⟩ prog_4_method_18_code 8 (some .int) ∈ zz_B := zz_mem (List.mem_append_right _ (List.mem_of_getElem? (i := 512) (by decide +kernel))) (by decide +kernel)
theorem wm_121 : Cond.methodLink "SpotContours$Spots" 45 ⟨"SpotContours$Spots", "crossingOf", "([III)I"⟩ ∈ zz_B := zz_mem (List.mem_append_right _ (List.mem_of_getElem? (i := 509) (by decide +kernel))) (by decide +kernel)
theorem wm_122 : Cond.instanceMethod ⟨"SpotContours$Spots", "crossingOf", "([III)I"⟩ ∈ zz_B := zz_mem (List.mem_append_right _ (List.mem_of_getElem? (i := 511) (by decide +kernel))) (by decide +kernel)
theorem wm_123 : Cond.selects "SpotContours$Spots" ⟨"SpotContours$Spots", "crossingOf", "([III)I"⟩ ⟨"SpotContours$Spots", "crossingOf", "([III)I"⟩ ∈ zz_B := zz_mem (List.mem_append_left _ (by decide +kernel)) (by decide +kernel)
theorem wm_124 : Cond.methodLink "SpotContours$Tags" 33 ⟨"java/lang/Math", "abs", "(I)I"⟩ ∈ zz_B := zz_mem (List.mem_append_right _ (List.mem_of_getElem? (i := 536) (by decide +kernel))) (by decide +kernel)
theorem wm_125 : Cond.static ⟨"java/lang/Math", "abs", "(I)I"⟩ ∈ zz_B := zz_mem (List.mem_append_right _ (List.mem_of_getElem? (i := 537) (by decide +kernel))) (by decide +kernel)
theorem wm_126 : Cond.code ⟨"java/lang/Math", "abs", "(I)I"⟩ prog_12_method_59_code 1 (some .int) ∈ zz_B := zz_mem (List.mem_append_right _ (List.mem_of_getElem? (i := 538) (by decide +kernel))) (by decide +kernel)
theorem wm_127 : Cond.code ⟨"SpotContours$Spots", "y", "(I)I"⟩ prog_4_method_5_code 2 (some .int) ∈ zz_B := zz_mem (List.mem_append_right _ (List.mem_of_getElem? (i := 542) (by decide +kernel))) (by decide +kernel)
theorem wm_128 : Cond.methodLink "SpotContours$Tags" 38 ⟨"SpotContours$Spots", "y", "(I)I"⟩ ∈ zz_B := zz_mem (List.mem_append_right _ (List.mem_of_getElem? (i := 539) (by decide +kernel))) (by decide +kernel)
theorem wm_129 : Cond.instanceMethod ⟨"SpotContours$Spots", "y", "(I)I"⟩ ∈ zz_B := zz_mem (List.mem_append_right _ (List.mem_of_getElem? (i := 540) (by decide +kernel))) (by decide +kernel)
theorem wm_130 : Cond.selects "SpotContours$Spots" ⟨"SpotContours$Spots", "y", "(I)I"⟩ ⟨"SpotContours$Spots", "y", "(I)I"⟩ ∈ zz_B := zz_mem (List.mem_append_right _ (List.mem_of_getElem? (i := 541) (by decide +kernel))) (by decide +kernel)
theorem wm_131 : Cond.methodLink "SpotContours$Tags" 29 ⟨"SpotContours$Spots", "x", "(I)I"⟩ ∈ zz_B := zz_mem (List.mem_append_right _ (List.mem_of_getElem? (i := 535) (by decide +kernel))) (by decide +kernel)
theorem wm_132 : Cond.methodLink "SpotContours$Tags" 23 ⟨"SpotContours$Spots", "size", "()I"⟩ ∈ zz_B := zz_mem (List.mem_append_right _ (List.mem_of_getElem? (i := 534) (by decide +kernel))) (by decide +kernel)
theorem wm_133 : Cond.code ⟨"SpotContours$Tags", "cutTo", "(I)V"⟩ prog_5_method_8_code 2 none ∈ zz_B := zz_mem (List.mem_append_right _ (List.mem_of_getElem? (i := 144) (by decide +kernel))) (by decide +kernel)
theorem wm_134 : Cond.initialized "SpotContours$Tags" ∈ zz_B := zz_mem (List.mem_append_right _ (List.mem_of_getElem? (i := 5) (by decide +kernel))) (by decide +kernel)
theorem wm_135 : Cond.methodLink "SpotContours" 66 ⟨"SpotContours$Tags", "cutTo", "(I)V"⟩ ∈ zz_B := zz_mem (List.mem_append_right _ (List.mem_of_getElem? (i := 141) (by decide +kernel))) (by decide +kernel)
theorem wm_136 : Cond.instanceMethod ⟨"SpotContours$Tags", "cutTo", "(I)V"⟩ ∈ zz_B := zz_mem (List.mem_append_right _ (List.mem_of_getElem? (i := 142) (by decide +kernel))) (by decide +kernel)
theorem wm_137 : Cond.selects "SpotContours$Tags" ⟨"SpotContours$Tags", "cutTo", "(I)V"⟩ ⟨"SpotContours$Tags", "cutTo", "(I)V"⟩ ∈ zz_B := zz_mem (List.mem_append_right _ (List.mem_of_getElem? (i := 143) (by decide +kernel))) (by decide +kernel)
theorem wm_138 : Cond.code ⟨"SpotContours$Mesh", "rebuild", "(LSpotContours$Spots;)V"⟩ prog_3_method_6_code 5 none ∈ zz_B := zz_mem (List.mem_append_right _ (List.mem_of_getElem? (i := 254) (by decide +kernel))) (by decide +kernel)
theorem wm_139 : Cond.methodLink "SpotContours" 62 ⟨"SpotContours$Mesh", "rebuild", "(LSpotContours$Spots;)V"⟩ ∈ zz_B := zz_mem (List.mem_append_right _ (List.mem_of_getElem? (i := 251) (by decide +kernel))) (by decide +kernel)
theorem wm_140 : Cond.instanceMethod ⟨"SpotContours$Mesh", "rebuild", "(LSpotContours$Spots;)V"⟩ ∈ zz_B := zz_mem (List.mem_append_right _ (List.mem_of_getElem? (i := 252) (by decide +kernel))) (by decide +kernel)
theorem wm_141 : Cond.selects "SpotContours$Mesh" ⟨"SpotContours$Mesh", "rebuild", "(LSpotContours$Spots;)V"⟩ ⟨"SpotContours$Mesh", "rebuild", "(LSpotContours$Spots;)V"⟩ ∈ zz_B := zz_mem (List.mem_append_right _ (List.mem_of_getElem? (i := 253) (by decide +kernel))) (by decide +kernel)
theorem wm_142 : Cond.code ⟨"SpotContours$Spots", "add", "(III)I"⟩ prog_4_method_9_code 4 (some .int) ∈ zz_B := zz_mem (List.mem_append_right _ (List.mem_of_getElem? (i := 250) (by decide +kernel))) (by decide +kernel)
theorem wm_143 : Cond.methodLink "SpotContours" 58 ⟨"SpotContours$Spots", "add", "(III)I"⟩ ∈ zz_B := zz_mem (List.mem_append_right _ (List.mem_of_getElem? (i := 247) (by decide +kernel))) (by decide +kernel)
theorem wm_144 : Cond.instanceMethod ⟨"SpotContours$Spots", "add", "(III)I"⟩ ∈ zz_B := zz_mem (List.mem_append_right _ (List.mem_of_getElem? (i := 248) (by decide +kernel))) (by decide +kernel)
theorem wm_145 : Cond.selects "SpotContours$Spots" ⟨"SpotContours$Spots", "add", "(III)I"⟩ ⟨"SpotContours$Spots", "add", "(III)I"⟩ ∈ zz_B := zz_mem (List.mem_append_right _ (List.mem_of_getElem? (i := 249) (by decide +kernel))) (by decide +kernel)
theorem wm_146 : Cond.methodLink "SpotContours" 51 ⟨"SpotContours$Spots", "size", "()I"⟩ ∈ zz_B := zz_mem (List.mem_append_right _ (List.mem_of_getElem? (i := 228) (by decide +kernel))) (by decide +kernel)
theorem wm_147 : Cond.code ⟨"SpotContours$Spots", "isTaken", "(II)Z"⟩ prog_4_method_8_code 4 (some .boolean) ∈ zz_B := zz_mem (List.mem_append_right _ (List.mem_of_getElem? (i := 163) (by decide +kernel))) (by decide +kernel)
theorem wm_148 : Cond.methodLink "SpotContours" 45 ⟨"SpotContours$Spots", "isTaken", "(II)Z"⟩ ∈ zz_B := zz_mem (List.mem_append_right _ (List.mem_of_getElem? (i := 160) (by decide +kernel))) (by decide +kernel)
theorem wm_149 : Cond.instanceMethod ⟨"SpotContours$Spots", "isTaken", "(II)Z"⟩ ∈ zz_B := zz_mem (List.mem_append_right _ (List.mem_of_getElem? (i := 161) (by decide +kernel))) (by decide +kernel)
theorem wm_150 : Cond.selects "SpotContours$Spots" ⟨"SpotContours$Spots", "isTaken", "(II)Z"⟩ ⟨"SpotContours$Spots", "isTaken", "(II)Z"⟩ ∈ zz_B := zz_mem (List.mem_append_right _ (List.mem_of_getElem? (i := 162) (by decide +kernel))) (by decide +kernel)
theorem wm_151 : Cond.code ⟨"SpotContours", "isHeight", "(I)Z"⟩ prog_1_method_17_code 1 (some .boolean) ∈ zz_B := zz_mem (List.mem_append_right _ (List.mem_of_getElem? (i := 159) (by decide +kernel))) (by decide +kernel)
theorem wm_152 : Cond.methodLink "SpotContours" 41 ⟨"SpotContours", "isHeight", "(I)Z"⟩ ∈ zz_B := zz_mem (List.mem_append_right _ (List.mem_of_getElem? (i := 157) (by decide +kernel))) (by decide +kernel)
theorem wm_153 : Cond.static ⟨"SpotContours", "isHeight", "(I)Z"⟩ ∈ zz_B := zz_mem (List.mem_append_right _ (List.mem_of_getElem? (i := 158) (by decide +kernel))) (by decide +kernel)
theorem wm_154 : Cond.code ⟨"SpotContours", "isOnMap", "(II)Z"⟩ prog_1_method_16_code 2 (some .boolean) ∈ zz_B := zz_mem (List.mem_append_right _ (List.mem_of_getElem? (i := 156) (by decide +kernel))) (by decide +kernel)
theorem wm_155 : Cond.methodLink "SpotContours" 37 ⟨"SpotContours", "isOnMap", "(II)Z"⟩ ∈ zz_B := zz_mem (List.mem_append_right _ (List.mem_of_getElem? (i := 154) (by decide +kernel))) (by decide +kernel)
theorem wm_156 : Cond.static ⟨"SpotContours", "isOnMap", "(II)Z"⟩ ∈ zz_B := zz_mem (List.mem_append_right _ (List.mem_of_getElem? (i := 155) (by decide +kernel))) (by decide +kernel)
theorem wm_157 : Cond.code ⟨"SpotContours$Spots", "setHeight", "(II)V"⟩ prog_4_method_7_code 3 none ∈ zz_B := zz_mem (List.mem_append_right _ (List.mem_of_getElem? (i := 326) (by decide +kernel))) (by decide +kernel)
theorem wm_158 : Cond.methodLink "SpotContours" 80 ⟨"SpotContours$Spots", "setHeight", "(II)V"⟩ ∈ zz_B := zz_mem (List.mem_append_right _ (List.mem_of_getElem? (i := 323) (by decide +kernel))) (by decide +kernel)
theorem wm_159 : Cond.instanceMethod ⟨"SpotContours$Spots", "setHeight", "(II)V"⟩ ∈ zz_B := zz_mem (List.mem_append_right _ (List.mem_of_getElem? (i := 324) (by decide +kernel))) (by decide +kernel)
theorem wm_160 : Cond.selects "SpotContours$Spots" ⟨"SpotContours$Spots", "setHeight", "(II)V"⟩ ⟨"SpotContours$Spots", "setHeight", "(II)V"⟩ ∈ zz_B := zz_mem (List.mem_append_right _ (List.mem_of_getElem? (i := 325) (by decide +kernel))) (by decide +kernel)
theorem wm_161 : Cond.methodLink "SpotContours" 76 ⟨"SpotContours$Spots", "height", "(I)I"⟩ ∈ zz_B := zz_mem (List.mem_append_right _ (List.mem_of_getElem? (i := 319) (by decide +kernel))) (by decide +kernel)
theorem wm_162 : Cond.code ⟨"SpotContours$Spots", "isNumber", "(I)Z"⟩ prog_4_method_3_code 2 (some .boolean) ∈ zz_B := zz_mem (List.mem_append_right _ (List.mem_of_getElem? (i := 303) (by decide +kernel))) (by decide +kernel)
theorem wm_163 : Cond.methodLink "SpotContours" 70 ⟨"SpotContours$Spots", "isNumber", "(I)Z"⟩ ∈ zz_B := zz_mem (List.mem_append_right _ (List.mem_of_getElem? (i := 300) (by decide +kernel))) (by decide +kernel)
theorem wm_164 : Cond.instanceMethod ⟨"SpotContours$Spots", "isNumber", "(I)Z"⟩ ∈ zz_B := zz_mem (List.mem_append_right _ (List.mem_of_getElem? (i := 301) (by decide +kernel))) (by decide +kernel)
theorem wm_165 : Cond.selects "SpotContours$Spots" ⟨"SpotContours$Spots", "isNumber", "(I)Z"⟩ ⟨"SpotContours$Spots", "isNumber", "(I)Z"⟩ ∈ zz_B := zz_mem (List.mem_append_right _ (List.mem_of_getElem? (i := 302) (by decide +kernel))) (by decide +kernel)
theorem wm_166 : Cond.code ⟨"SpotContours$Mesh", "size", "()I"⟩ prog_3_method_2_code 1 (some .int) ∈ zz_B := zz_mem (List.mem_append_right _ (List.mem_of_getElem? (i := 128) (by decide +kernel))) (by decide +kernel)
theorem wm_167 : Cond.methodLink "SpotContours" 84 ⟨"SpotContours$Mesh", "size", "()I"⟩ ∈ zz_B := zz_mem (List.mem_append_right _ (List.mem_of_getElem? (i := 125) (by decide +kernel))) (by decide +kernel)
theorem wm_168 : Cond.instanceMethod ⟨"SpotContours$Mesh", "size", "()I"⟩ ∈ zz_B := zz_mem (List.mem_append_right _ (List.mem_of_getElem? (i := 126) (by decide +kernel))) (by decide +kernel)
theorem wm_169 : Cond.selects "SpotContours$Mesh" ⟨"SpotContours$Mesh", "size", "()I"⟩ ⟨"SpotContours$Mesh", "size", "()I"⟩ ∈ zz_B := zz_mem (List.mem_append_right _ (List.mem_of_getElem? (i := 127) (by decide +kernel))) (by decide +kernel)
theorem wm_170 : Cond.methodLink "SpotContours" 85 ⟨"SpotContours$Mesh", "cornerOf", "(II)I"⟩ ∈ zz_B := zz_mem (List.mem_append_right _ (List.mem_of_getElem? (i := 334) (by decide +kernel))) (by decide +kernel)
theorem wm_171 : Cond.methodLink "SpotContours" 89 ⟨"SpotContours$Mesh", "sharing", "(II)I"⟩ ∈ zz_B := zz_mem (List.mem_append_right _ (List.mem_of_getElem? (i := 345) (by decide +kernel))) (by decide +kernel)
theorem wm_172 : Cond.code ⟨"SpotContours$Mesh", "heightAt", "(LSpotContours$Spots;II)I"⟩ prog_3_method_11_code 6 (some .int) ∈ zz_B := zz_mem (List.mem_append_right _ (List.mem_of_getElem? (i := 364) (by decide +kernel))) (by decide +kernel)
theorem wm_173 : Cond.methodLink "SpotContours" 92 ⟨"SpotContours$Mesh", "heightAt", "(LSpotContours$Spots;II)I"⟩ ∈ zz_B := zz_mem (List.mem_append_right _ (List.mem_of_getElem? (i := 361) (by decide +kernel))) (by decide +kernel)
theorem wm_174 : Cond.instanceMethod ⟨"SpotContours$Mesh", "heightAt", "(LSpotContours$Spots;II)I"⟩ ∈ zz_B := zz_mem (List.mem_append_right _ (List.mem_of_getElem? (i := 362) (by decide +kernel))) (by decide +kernel)
theorem wm_175 : Cond.selects "SpotContours$Mesh" ⟨"SpotContours$Mesh", "heightAt", "(LSpotContours$Spots;II)I"⟩ ⟨"SpotContours$Mesh", "heightAt", "(LSpotContours$Spots;II)I"⟩ ∈ zz_B := zz_mem (List.mem_append_right _ (List.mem_of_getElem? (i := 363) (by decide +kernel))) (by decide +kernel)
theorem wm_176 : Cond.code ⟨"SpotContours$Lines", "trace", "(LSpotContours$Spots;LSpotContours$Mesh;I)V"⟩ prog_2_method_9_code 6 none ∈ zz_B := zz_mem (List.mem_append_right _ (List.mem_of_getElem? (i := 404) (by decide +kernel))) (by decide +kernel)
theorem wm_177 : Cond.methodLink "SpotContours" 159 ⟨"SpotContours$Lines", "trace", "(LSpotContours$Spots;LSpotContours$Mesh;I)V"⟩ ∈ zz_B := zz_mem (List.mem_append_right _ (List.mem_of_getElem? (i := 401) (by decide +kernel))) (by decide +kernel)
theorem wm_178 : Cond.instanceMethod ⟨"SpotContours$Lines", "trace", "(LSpotContours$Spots;LSpotContours$Mesh;I)V"⟩ ∈ zz_B := zz_mem (List.mem_append_right _ (List.mem_of_getElem? (i := 402) (by decide +kernel))) (by decide +kernel)
theorem wm_179 : Cond.selects "SpotContours$Lines" ⟨"SpotContours$Lines", "trace", "(LSpotContours$Spots;LSpotContours$Mesh;I)V"⟩ ⟨"SpotContours$Lines", "trace", "(LSpotContours$Spots;LSpotContours$Mesh;I)V"⟩ ∈ zz_B := zz_mem (List.mem_append_right _ (List.mem_of_getElem? (i := 403) (by decide +kernel))) (by decide +kernel)
theorem wm_180 : Cond.code ⟨"SpotContours$Lines", "size", "()I"⟩ prog_2_method_2_code 1 (some .int) ∈ zz_B := zz_mem (List.mem_append_right _ (List.mem_of_getElem? (i := 442) (by decide +kernel))) (by decide +kernel)
theorem wm_181 : Cond.methodLink "SpotContours" 102 ⟨"SpotContours$Lines", "size", "()I"⟩ ∈ zz_B := zz_mem (List.mem_append_right _ (List.mem_of_getElem? (i := 439) (by decide +kernel))) (by decide +kernel)
theorem wm_182 : Cond.instanceMethod ⟨"SpotContours$Lines", "size", "()I"⟩ ∈ zz_B := zz_mem (List.mem_append_right _ (List.mem_of_getElem? (i := 440) (by decide +kernel))) (by decide +kernel)
theorem wm_183 : Cond.selects "SpotContours$Lines" ⟨"SpotContours$Lines", "size", "()I"⟩ ⟨"SpotContours$Lines", "size", "()I"⟩ ∈ zz_B := zz_mem (List.mem_append_right _ (List.mem_of_getElem? (i := 441) (by decide +kernel))) (by decide +kernel)
theorem wm_184 : Cond.code ⟨"SpotContours", "traceLevel", "(I)V"⟩ prog_1_method_18_code 2 none ∈ zz_B := zz_mem (List.mem_append_right _ (List.mem_of_getElem? (i := 400) (by decide +kernel))) (by decide +kernel)
theorem wm_185 : Cond.methodLink "SpotContours" 99 ⟨"SpotContours", "traceLevel", "(I)V"⟩ ∈ zz_B := zz_mem (List.mem_append_right _ (List.mem_of_getElem? (i := 397) (by decide +kernel))) (by decide +kernel)
theorem wm_186 : Cond.instanceMethod ⟨"SpotContours", "traceLevel", "(I)V"⟩ ∈ zz_B := zz_mem (List.mem_append_right _ (List.mem_of_getElem? (i := 399) (by decide +kernel))) (by decide +kernel)
theorem wm_187 : Cond.selects "SpotContours" ⟨"SpotContours", "traceLevel", "(I)V"⟩ ⟨"SpotContours", "traceLevel", "(I)V"⟩ ∈ zz_B := zz_mem (List.mem_append_left _ (by decide +kernel)) (by decide +kernel)
theorem wm_188 : Cond.code ⟨"SpotContours$Lines", "isHollow", "(LSpotContours$Spots;I)Z"⟩ prog_2_method_7_code 5 (some .boolean) ∈ zz_B := zz_mem (List.mem_append_right _ (List.mem_of_getElem? (i := 465) (by decide +kernel))) (by decide +kernel)
theorem wm_189 : Cond.methodLink "SpotContours" 112 ⟨"SpotContours$Lines", "isHollow", "(LSpotContours$Spots;I)Z"⟩ ∈ zz_B := zz_mem (List.mem_append_right _ (List.mem_of_getElem? (i := 462) (by decide +kernel))) (by decide +kernel)
theorem wm_190 : Cond.instanceMethod ⟨"SpotContours$Lines", "isHollow", "(LSpotContours$Spots;I)Z"⟩ ∈ zz_B := zz_mem (List.mem_append_right _ (List.mem_of_getElem? (i := 463) (by decide +kernel))) (by decide +kernel)
theorem wm_191 : Cond.selects "SpotContours$Lines" ⟨"SpotContours$Lines", "isHollow", "(LSpotContours$Spots;I)Z"⟩ ⟨"SpotContours$Lines", "isHollow", "(LSpotContours$Spots;I)Z"⟩ ∈ zz_B := zz_mem (List.mem_append_right _ (List.mem_of_getElem? (i := 464) (by decide +kernel))) (by decide +kernel)
theorem wm_192 : Cond.code ⟨"SpotContours$Lines", "isRing", "(I)Z"⟩ prog_2_method_5_code 2 (some .boolean) ∈ zz_B := zz_mem (List.mem_append_right _ (List.mem_of_getElem? (i := 461) (by decide +kernel))) (by decide +kernel)
theorem wm_193 : Cond.methodLink "SpotContours" 109 ⟨"SpotContours$Lines", "isRing", "(I)Z"⟩ ∈ zz_B := zz_mem (List.mem_append_right _ (List.mem_of_getElem? (i := 458) (by decide +kernel))) (by decide +kernel)
theorem wm_194 : Cond.instanceMethod ⟨"SpotContours$Lines", "isRing", "(I)Z"⟩ ∈ zz_B := zz_mem (List.mem_append_right _ (List.mem_of_getElem? (i := 459) (by decide +kernel))) (by decide +kernel)
theorem wm_195 : Cond.selects "SpotContours$Lines" ⟨"SpotContours$Lines", "isRing", "(I)Z"⟩ ⟨"SpotContours$Lines", "isRing", "(I)Z"⟩ ∈ zz_B := zz_mem (List.mem_append_right _ (List.mem_of_getElem? (i := 460) (by decide +kernel))) (by decide +kernel)
theorem wm_196 : Cond.methodLink "SpotContours" 106 ⟨"SpotContours$Lines", "length", "(I)I"⟩ ∈ zz_B := zz_mem (List.mem_append_right _ (List.mem_of_getElem? (i := 454) (by decide +kernel))) (by decide +kernel)
theorem wm_197 : Cond.code ⟨"SpotContours$Lines", "isLine", "(I)Z"⟩ prog_2_method_3_code 2 (some .boolean) ∈ zz_B := zz_mem (List.mem_append_right _ (List.mem_of_getElem? (i := 453) (by decide +kernel))) (by decide +kernel)
theorem wm_198 : Cond.methodLink "SpotContours" 103 ⟨"SpotContours$Lines", "isLine", "(I)Z"⟩ ∈ zz_B := zz_mem (List.mem_append_right _ (List.mem_of_getElem? (i := 450) (by decide +kernel))) (by decide +kernel)
theorem wm_199 : Cond.instanceMethod ⟨"SpotContours$Lines", "isLine", "(I)Z"⟩ ∈ zz_B := zz_mem (List.mem_append_right _ (List.mem_of_getElem? (i := 451) (by decide +kernel))) (by decide +kernel)
theorem wm_200 : Cond.selects "SpotContours$Lines" ⟨"SpotContours$Lines", "isLine", "(I)Z"⟩ ⟨"SpotContours$Lines", "isLine", "(I)Z"⟩ ∈ zz_B := zz_mem (List.mem_append_right _ (List.mem_of_getElem? (i := 452) (by decide +kernel))) (by decide +kernel)
theorem wm_201 : Cond.methodLink "SpotContours" 163 ⟨"SpotContours$Lines", "pair", "(II)I"⟩ ∈ zz_B := zz_mem (List.mem_append_right _ (List.mem_of_getElem? (i := 489) (by decide +kernel))) (by decide +kernel)
theorem wm_202 : Cond.methodLink "SpotContours" 125 ⟨"java/lang/Math", "min", "(II)I"⟩ ∈ zz_B := zz_mem (List.mem_append_right _ (List.mem_of_getElem? (i := 492) (by decide +kernel))) (by decide +kernel)
theorem wm_203 : Cond.static ⟨"java/lang/Math", "min", "(II)I"⟩ ∈ zz_B := zz_mem (List.mem_append_right _ (List.mem_of_getElem? (i := 493) (by decide +kernel))) (by decide +kernel)
theorem wm_204 : Cond.code ⟨"java/lang/Math", "min", "(II)I"⟩ prog_12_method_69_code 2 (some .int) ∈ zz_B := zz_mem (List.mem_append_right _ (List.mem_of_getElem? (i := 494) (by decide +kernel))) (by decide +kernel)
theorem wm_205 : Cond.methodLink "SpotContours" 130 ⟨"java/lang/Math", "max", "(II)I"⟩ ∈ zz_B := zz_mem (List.mem_append_right _ (List.mem_of_getElem? (i := 495) (by decide +kernel))) (by decide +kernel)
theorem wm_206 : Cond.static ⟨"java/lang/Math", "max", "(II)I"⟩ ∈ zz_B := zz_mem (List.mem_append_right _ (List.mem_of_getElem? (i := 496) (by decide +kernel))) (by decide +kernel)
theorem wm_207 : Cond.code ⟨"java/lang/Math", "max", "(II)I"⟩ prog_12_method_65_code 2 (some .int) ∈ zz_B := zz_mem (List.mem_append_right _ (List.mem_of_getElem? (i := 497) (by decide +kernel))) (by decide +kernel)
theorem wm_208 : Cond.methodLink "SpotContours" 122 ⟨"SpotContours", "lowOf", "(I)I"⟩ ∈ zz_B := zz_mem (List.mem_append_right _ (List.mem_of_getElem? (i := 491) (by decide +kernel))) (by decide +kernel)
theorem wm_209 : Cond.methodLink "SpotContours" 119 ⟨"SpotContours", "highOf", "(I)I"⟩ ∈ zz_B := zz_mem (List.mem_append_right _ (List.mem_of_getElem? (i := 490) (by decide +kernel))) (by decide +kernel)
theorem wm_210 : Cond.code ⟨"SpotContours", "pairAt", "(II)I"⟩ prog_1_method_21_code 3 (some .int) ∈ zz_B := zz_mem (List.mem_append_right _ (List.mem_of_getElem? (i := 488) (by decide +kernel))) (by decide +kernel)
theorem wm_211 : Cond.methodLink "SpotContours" 116 ⟨"SpotContours", "pairAt", "(II)I"⟩ ∈ zz_B := zz_mem (List.mem_append_right _ (List.mem_of_getElem? (i := 485) (by decide +kernel))) (by decide +kernel)
theorem wm_212 : Cond.instanceMethod ⟨"SpotContours", "pairAt", "(II)I"⟩ ∈ zz_B := zz_mem (List.mem_append_right _ (List.mem_of_getElem? (i := 487) (by decide +kernel))) (by decide +kernel)
theorem wm_213 : Cond.selects "SpotContours" ⟨"SpotContours", "pairAt", "(II)I"⟩ ⟨"SpotContours", "pairAt", "(II)I"⟩ ∈ zz_B := zz_mem (List.mem_append_left _ (by decide +kernel)) (by decide +kernel)
theorem wm_214 : Cond.code ⟨"SpotContours$Spots", "crossingY", "(II)I"⟩ prog_4_method_17_code 3 (some .int) ∈ zz_B := zz_mem (List.mem_append_right _ (List.mem_of_getElem? (i := 519) (by decide +kernel))) (by decide +kernel)
theorem wm_215 : Cond.methodLink "SpotContours" 136 ⟨"SpotContours$Spots", "crossingY", "(II)I"⟩ ∈ zz_B := zz_mem (List.mem_append_right _ (List.mem_of_getElem? (i := 516) (by decide +kernel))) (by decide +kernel)
theorem wm_216 : Cond.instanceMethod ⟨"SpotContours$Spots", "crossingY", "(II)I"⟩ ∈ zz_B := zz_mem (List.mem_append_right _ (List.mem_of_getElem? (i := 517) (by decide +kernel))) (by decide +kernel)
theorem wm_217 : Cond.selects "SpotContours$Spots" ⟨"SpotContours$Spots", "crossingY", "(II)I"⟩ ⟨"SpotContours$Spots", "crossingY", "(II)I"⟩ ∈ zz_B := zz_mem (List.mem_append_right _ (List.mem_of_getElem? (i := 518) (by decide +kernel))) (by decide +kernel)
theorem wm_218 : Cond.code ⟨"SpotContours$Spots", "crossingX", "(II)I"⟩ prog_4_method_16_code 3 (some .int) ∈ zz_B := zz_mem (List.mem_append_right _ (List.mem_of_getElem? (i := 508) (by decide +kernel))) (by decide +kernel)
theorem wm_219 : Cond.methodLink "SpotContours" 133 ⟨"SpotContours$Spots", "crossingX", "(II)I"⟩ ∈ zz_B := zz_mem (List.mem_append_right _ (List.mem_of_getElem? (i := 505) (by decide +kernel))) (by decide +kernel)
theorem wm_220 : Cond.instanceMethod ⟨"SpotContours$Spots", "crossingX", "(II)I"⟩ ∈ zz_B := zz_mem (List.mem_append_right _ (List.mem_of_getElem? (i := 506) (by decide +kernel))) (by decide +kernel)
theorem wm_221 : Cond.selects "SpotContours$Spots" ⟨"SpotContours$Spots", "crossingX", "(II)I"⟩ ⟨"SpotContours$Spots", "crossingX", "(II)I"⟩ ∈ zz_B := zz_mem (List.mem_append_right _ (List.mem_of_getElem? (i := 507) (by decide +kernel))) (by decide +kernel)
theorem wm_222 : Cond.code ⟨"SpotContours$Tags", "clashesAt", "(II)Z"⟩ prog_5_method_10_code 4 (some .boolean) ∈ zz_B := zz_mem (List.mem_append_right _ (List.mem_of_getElem? (i := 546) (by decide +kernel))) (by decide +kernel)
theorem wm_223 : Cond.methodLink "SpotContours" 170 ⟨"SpotContours$Tags", "clashesAt", "(II)Z"⟩ ∈ zz_B := zz_mem (List.mem_append_right _ (List.mem_of_getElem? (i := 543) (by decide +kernel))) (by decide +kernel)
theorem wm_224 : Cond.instanceMethod ⟨"SpotContours$Tags", "clashesAt", "(II)Z"⟩ ∈ zz_B := zz_mem (List.mem_append_right _ (List.mem_of_getElem? (i := 544) (by decide +kernel))) (by decide +kernel)
theorem wm_225 : Cond.selects "SpotContours$Tags" ⟨"SpotContours$Tags", "clashesAt", "(II)Z"⟩ ⟨"SpotContours$Tags", "clashesAt", "(II)Z"⟩ ∈ zz_B := zz_mem (List.mem_append_right _ (List.mem_of_getElem? (i := 545) (by decide +kernel))) (by decide +kernel)
theorem wm_226 : Cond.code ⟨"SpotContours$Tags", "coversSpot", "(LSpotContours$Spots;II)Z"⟩ prog_5_method_9_code 4 (some .boolean) ∈ zz_B := zz_mem (List.mem_append_right _ (List.mem_of_getElem? (i := 533) (by decide +kernel))) (by decide +kernel)
theorem wm_227 : Cond.methodLink "SpotContours" 166 ⟨"SpotContours$Tags", "coversSpot", "(LSpotContours$Spots;II)Z"⟩ ∈ zz_B := zz_mem (List.mem_append_right _ (List.mem_of_getElem? (i := 531) (by decide +kernel))) (by decide +kernel)
theorem wm_228 : Cond.static ⟨"SpotContours$Tags", "coversSpot", "(LSpotContours$Spots;II)Z"⟩ ∈ zz_B := zz_mem (List.mem_append_right _ (List.mem_of_getElem? (i := 532) (by decide +kernel))) (by decide +kernel)
theorem wm_229 : Cond.code ⟨"SpotContours$Tags", "add", "(III)V"⟩ prog_5_method_7_code 4 none ∈ zz_B := zz_mem (List.mem_append_right _ (List.mem_of_getElem? (i := 554) (by decide +kernel))) (by decide +kernel)
theorem wm_230 : Cond.methodLink "SpotContours" 147 ⟨"SpotContours$Tags", "add", "(III)V"⟩ ∈ zz_B := zz_mem (List.mem_append_right _ (List.mem_of_getElem? (i := 551) (by decide +kernel))) (by decide +kernel)
theorem wm_231 : Cond.instanceMethod ⟨"SpotContours$Tags", "add", "(III)V"⟩ ∈ zz_B := zz_mem (List.mem_append_right _ (List.mem_of_getElem? (i := 552) (by decide +kernel))) (by decide +kernel)
theorem wm_232 : Cond.selects "SpotContours$Tags" ⟨"SpotContours$Tags", "add", "(III)V"⟩ ⟨"SpotContours$Tags", "add", "(III)V"⟩ ∈ zz_B := zz_mem (List.mem_append_right _ (List.mem_of_getElem? (i := 553) (by decide +kernel))) (by decide +kernel)
theorem wm_233 : Cond.code ⟨"SpotContours$Tags", "isFull", "()Z"⟩ prog_5_method_3_code 1 (some .boolean) ∈ zz_B := zz_mem (List.mem_append_right _ (List.mem_of_getElem? (i := 550) (by decide +kernel))) (by decide +kernel)
theorem wm_234 : Cond.methodLink "SpotContours" 143 ⟨"SpotContours$Tags", "isFull", "()Z"⟩ ∈ zz_B := zz_mem (List.mem_append_right _ (List.mem_of_getElem? (i := 547) (by decide +kernel))) (by decide +kernel)
theorem wm_235 : Cond.instanceMethod ⟨"SpotContours$Tags", "isFull", "()Z"⟩ ∈ zz_B := zz_mem (List.mem_append_right _ (List.mem_of_getElem? (i := 548) (by decide +kernel))) (by decide +kernel)
theorem wm_236 : Cond.selects "SpotContours$Tags" ⟨"SpotContours$Tags", "isFull", "()Z"⟩ ⟨"SpotContours$Tags", "isFull", "()Z"⟩ ∈ zz_B := zz_mem (List.mem_append_right _ (List.mem_of_getElem? (i := 549) (by decide +kernel))) (by decide +kernel)
theorem wm_237 : Cond.code ⟨"SpotContours", "firstFreePair", "(II)I"⟩ prog_1_method_22_code 7 (some .int) ∈ zz_B := zz_mem (List.mem_append_right _ (List.mem_of_getElem? (i := 530) (by decide +kernel))) (by decide +kernel)
theorem wm_238 : Cond.methodLink "SpotContours" 140 ⟨"SpotContours", "firstFreePair", "(II)I"⟩ ∈ zz_B := zz_mem (List.mem_append_right _ (List.mem_of_getElem? (i := 527) (by decide +kernel))) (by decide +kernel)
theorem wm_239 : Cond.instanceMethod ⟨"SpotContours", "firstFreePair", "(II)I"⟩ ∈ zz_B := zz_mem (List.mem_append_right _ (List.mem_of_getElem? (i := 529) (by decide +kernel))) (by decide +kernel)
theorem wm_240 : Cond.selects "SpotContours" ⟨"SpotContours", "firstFreePair", "(II)I"⟩ ⟨"SpotContours", "firstFreePair", "(II)I"⟩ ∈ zz_B := zz_mem (List.mem_append_left _ (by decide +kernel)) (by decide +kernel)
theorem wm_241 : Cond.code ⟨"SpotContours$Tags", "size", "()I"⟩ prog_5_method_2_code 1 (some .int) ∈ zz_B := zz_mem (List.mem_append_right _ (List.mem_of_getElem? (i := 136) (by decide +kernel))) (by decide +kernel)
theorem wm_242 : Cond.methodLink "SpotContours" 139 ⟨"SpotContours$Tags", "size", "()I"⟩ ∈ zz_B := zz_mem (List.mem_append_right _ (List.mem_of_getElem? (i := 133) (by decide +kernel))) (by decide +kernel)
theorem wm_243 : Cond.instanceMethod ⟨"SpotContours$Tags", "size", "()I"⟩ ∈ zz_B := zz_mem (List.mem_append_right _ (List.mem_of_getElem? (i := 134) (by decide +kernel))) (by decide +kernel)
theorem wm_244 : Cond.selects "SpotContours$Tags" ⟨"SpotContours$Tags", "size", "()I"⟩ ⟨"SpotContours$Tags", "size", "()I"⟩ ∈ zz_B := zz_mem (List.mem_append_right _ (List.mem_of_getElem? (i := 135) (by decide +kernel))) (by decide +kernel)
theorem wm_245 : Cond.code ⟨"SpotContours$Tags", "level", "(I)I"⟩ prog_5_method_4_code 2 (some .int) ∈ zz_B := zz_mem (List.mem_append_right _ (List.mem_of_getElem? (i := 565) (by decide +kernel))) (by decide +kernel)
theorem wm_246 : Cond.methodLink "SpotContours" 150 ⟨"SpotContours$Tags", "level", "(I)I"⟩ ∈ zz_B := zz_mem (List.mem_append_right _ (List.mem_of_getElem? (i := 562) (by decide +kernel))) (by decide +kernel)
theorem wm_247 : Cond.instanceMethod ⟨"SpotContours$Tags", "level", "(I)I"⟩ ∈ zz_B := zz_mem (List.mem_append_right _ (List.mem_of_getElem? (i := 563) (by decide +kernel))) (by decide +kernel)
theorem wm_248 : Cond.selects "SpotContours$Tags" ⟨"SpotContours$Tags", "level", "(I)I"⟩ ⟨"SpotContours$Tags", "level", "(I)I"⟩ ∈ zz_B := zz_mem (List.mem_append_right _ (List.mem_of_getElem? (i := 564) (by decide +kernel))) (by decide +kernel)
theorem wm_249 : Cond.code ⟨"SpotContours$Tags", "x", "(I)I"⟩ prog_5_method_5_code 2 (some .int) ∈ zz_B := zz_mem (List.mem_append_right _ (List.mem_of_getElem? (i := 569) (by decide +kernel))) (by decide +kernel)
theorem wm_250 : Cond.methodLink "SpotContours" 153 ⟨"SpotContours$Tags", "x", "(I)I"⟩ ∈ zz_B := zz_mem (List.mem_append_right _ (List.mem_of_getElem? (i := 566) (by decide +kernel))) (by decide +kernel)
theorem wm_251 : Cond.instanceMethod ⟨"SpotContours$Tags", "x", "(I)I"⟩ ∈ zz_B := zz_mem (List.mem_append_right _ (List.mem_of_getElem? (i := 567) (by decide +kernel))) (by decide +kernel)
theorem wm_252 : Cond.selects "SpotContours$Tags" ⟨"SpotContours$Tags", "x", "(I)I"⟩ ⟨"SpotContours$Tags", "x", "(I)I"⟩ ∈ zz_B := zz_mem (List.mem_append_right _ (List.mem_of_getElem? (i := 568) (by decide +kernel))) (by decide +kernel)
theorem wm_253 : Cond.code ⟨"SpotContours$Tags", "y", "(I)I"⟩ prog_5_method_6_code 2 (some .int) ∈ zz_B := zz_mem (List.mem_append_right _ (List.mem_of_getElem? (i := 573) (by decide +kernel))) (by decide +kernel)
theorem wm_254 : Cond.methodLink "SpotContours" 156 ⟨"SpotContours$Tags", "y", "(I)I"⟩ ∈ zz_B := zz_mem (List.mem_append_right _ (List.mem_of_getElem? (i := 570) (by decide +kernel))) (by decide +kernel)
theorem wm_255 : Cond.instanceMethod ⟨"SpotContours$Tags", "y", "(I)I"⟩ ∈ zz_B := zz_mem (List.mem_append_right _ (List.mem_of_getElem? (i := 571) (by decide +kernel))) (by decide +kernel)
theorem wm_256 : Cond.selects "SpotContours$Tags" ⟨"SpotContours$Tags", "y", "(I)I"⟩ ⟨"SpotContours$Tags", "y", "(I)I"⟩ ∈ zz_B := zz_mem (List.mem_append_right _ (List.mem_of_getElem? (i := 572) (by decide +kernel))) (by decide +kernel)
theorem wm_257 : Cond.code ⟨"SpotContoursModel", "turn", "(III)I"⟩ prog_7_method_6_code 4 (some .int) ∈ zz_B := zz_mem (List.mem_append_right _ (List.mem_of_getElem? (i := 663) (by decide +kernel))) (by decide +kernel)
theorem wm_258 : Cond.initialized "SpotContoursModel" ∈ zz_B := zz_mem (List.mem_append_right _ (List.mem_of_getElem? (i := 6) (by decide +kernel))) (by decide +kernel)
theorem wm_259 : Cond.methodLink "SpotContoursModel" 77 ⟨"SpotContoursModel", "turn", "(III)I"⟩ ∈ zz_B := zz_mem (List.mem_append_right _ (List.mem_of_getElem? (i := 660) (by decide +kernel))) (by decide +kernel)
theorem wm_260 : Cond.instanceMethod ⟨"SpotContoursModel", "turn", "(III)I"⟩ ∈ zz_B := zz_mem (List.mem_append_right _ (List.mem_of_getElem? (i := 662) (by decide +kernel))) (by decide +kernel)
theorem wm_261 : Cond.selects "SpotContoursModel" ⟨"SpotContoursModel", "turn", "(III)I"⟩ ⟨"SpotContoursModel", "turn", "(III)I"⟩ ∈ zz_B := zz_mem (List.mem_append_left _ (by decide +kernel)) (by decide +kernel)
theorem wm_262 : Cond.code ⟨"SpotContoursModel", "square", "(II)J"⟩ prog_7_method_7_code 3 (some .long) ∈ zz_B := zz_mem (List.mem_append_right _ (List.mem_of_getElem? (i := 675) (by decide +kernel))) (by decide +kernel)
theorem wm_263 : Cond.methodLink "SpotContoursModel" 73 ⟨"SpotContoursModel", "square", "(II)J"⟩ ∈ zz_B := zz_mem (List.mem_append_right _ (List.mem_of_getElem? (i := 672) (by decide +kernel))) (by decide +kernel)
theorem wm_264 : Cond.instanceMethod ⟨"SpotContoursModel", "square", "(II)J"⟩ ∈ zz_B := zz_mem (List.mem_append_right _ (List.mem_of_getElem? (i := 674) (by decide +kernel))) (by decide +kernel)
theorem wm_265 : Cond.selects "SpotContoursModel" ⟨"SpotContoursModel", "square", "(II)J"⟩ ⟨"SpotContoursModel", "square", "(II)J"⟩ ∈ zz_B := zz_mem (List.mem_append_left _ (by decide +kernel)) (by decide +kernel)
theorem wm_266 : Cond.code ⟨"SpotContoursModel", "parts", "(IIII)Z"⟩ prog_7_method_9_code 5 (some .boolean) ∈ zz_B := zz_mem (List.mem_append_right _ (List.mem_of_getElem? (i := 679) (by decide +kernel))) (by decide +kernel)
theorem wm_267 : Cond.methodLink "SpotContoursModel" 85 ⟨"SpotContoursModel", "parts", "(IIII)Z"⟩ ∈ zz_B := zz_mem (List.mem_append_right _ (List.mem_of_getElem? (i := 676) (by decide +kernel))) (by decide +kernel)
theorem wm_268 : Cond.instanceMethod ⟨"SpotContoursModel", "parts", "(IIII)Z"⟩ ∈ zz_B := zz_mem (List.mem_append_right _ (List.mem_of_getElem? (i := 678) (by decide +kernel))) (by decide +kernel)
theorem wm_269 : Cond.selects "SpotContoursModel" ⟨"SpotContoursModel", "parts", "(IIII)Z"⟩ ⟨"SpotContoursModel", "parts", "(IIII)Z"⟩ ∈ zz_B := zz_mem (List.mem_append_left _ (by decide +kernel)) (by decide +kernel)
theorem wm_270 : Cond.code ⟨"SpotContoursModel", "inside", "(IIII)J"⟩ prog_7_method_8_code 7 (some .long) ∈ zz_B := zz_mem (List.mem_append_right _ (List.mem_of_getElem? (i := 671) (by decide +kernel))) (by decide +kernel)
theorem wm_271 : Cond.methodLink "SpotContoursModel" 81 ⟨"SpotContoursModel", "inside", "(IIII)J"⟩ ∈ zz_B := zz_mem (List.mem_append_right _ (List.mem_of_getElem? (i := 668) (by decide +kernel))) (by decide +kernel)
theorem wm_272 : Cond.instanceMethod ⟨"SpotContoursModel", "inside", "(IIII)J"⟩ ∈ zz_B := zz_mem (List.mem_append_right _ (List.mem_of_getElem? (i := 670) (by decide +kernel))) (by decide +kernel)
theorem wm_273 : Cond.selects "SpotContoursModel" ⟨"SpotContoursModel", "inside", "(IIII)J"⟩ ⟨"SpotContoursModel", "inside", "(IIII)J"⟩ ∈ zz_B := zz_mem (List.mem_append_left _ (by decide +kernel)) (by decide +kernel)
theorem wm_274 : Cond.code ⟨"SpotContoursModel", "isIn", "(IIII)Z"⟩ prog_7_method_10_code 9 (some .boolean) ∈ zz_B := zz_mem (List.mem_append_right _ (List.mem_of_getElem? (i := 667) (by decide +kernel))) (by decide +kernel)
theorem wm_275 : Cond.methodLink "SpotContoursModel" 89 ⟨"SpotContoursModel", "isIn", "(IIII)Z"⟩ ∈ zz_B := zz_mem (List.mem_append_right _ (List.mem_of_getElem? (i := 664) (by decide +kernel))) (by decide +kernel)
theorem wm_276 : Cond.instanceMethod ⟨"SpotContoursModel", "isIn", "(IIII)Z"⟩ ∈ zz_B := zz_mem (List.mem_append_right _ (List.mem_of_getElem? (i := 666) (by decide +kernel))) (by decide +kernel)
theorem wm_277 : Cond.selects "SpotContoursModel" ⟨"SpotContoursModel", "isIn", "(IIII)Z"⟩ ⟨"SpotContoursModel", "isIn", "(IIII)Z"⟩ ∈ zz_B := zz_mem (List.mem_append_left _ (by decide +kernel)) (by decide +kernel)
theorem wm_278 : Cond.code ⟨"SpotContoursModel", "isTriangle", "(III)Z"⟩ prog_7_method_11_code 6 (some .boolean) ∈ zz_B := zz_mem (List.mem_append_right _ (List.mem_of_getElem? (i := 659) (by decide +kernel))) (by decide +kernel)
theorem wm_279 : Cond.methodLink "SpotContoursModel" 95 ⟨"SpotContoursModel", "isTriangle", "(III)Z"⟩ ∈ zz_B := zz_mem (List.mem_append_right _ (List.mem_of_getElem? (i := 656) (by decide +kernel))) (by decide +kernel)
theorem wm_280 : Cond.instanceMethod ⟨"SpotContoursModel", "isTriangle", "(III)Z"⟩ ∈ zz_B := zz_mem (List.mem_append_right _ (List.mem_of_getElem? (i := 658) (by decide +kernel))) (by decide +kernel)
theorem wm_281 : Cond.selects "SpotContoursModel" ⟨"SpotContoursModel", "isTriangle", "(III)Z"⟩ ⟨"SpotContoursModel", "isTriangle", "(III)Z"⟩ ∈ zz_B := zz_mem (List.mem_append_left _ (by decide +kernel)) (by decide +kernel)
theorem wm_282 : Cond.code ⟨"SpotContoursModel", "findTriangles", "()V"⟩ prog_7_method_12_code 4 none ∈ zz_B := zz_mem (List.mem_append_right _ (List.mem_of_getElem? (i := 655) (by decide +kernel))) (by decide +kernel)
theorem wm_283 : Cond.methodLink "SpotContoursModel" 66 ⟨"SpotContoursModel", "findTriangles", "()V"⟩ ∈ zz_B := zz_mem (List.mem_append_right _ (List.mem_of_getElem? (i := 652) (by decide +kernel))) (by decide +kernel)
theorem wm_284 : Cond.instanceMethod ⟨"SpotContoursModel", "findTriangles", "()V"⟩ ∈ zz_B := zz_mem (List.mem_append_right _ (List.mem_of_getElem? (i := 654) (by decide +kernel))) (by decide +kernel)
theorem wm_285 : Cond.selects "SpotContoursModel" ⟨"SpotContoursModel", "findTriangles", "()V"⟩ ⟨"SpotContoursModel", "findTriangles", "()V"⟩ ∈ zz_B := zz_mem (List.mem_append_left _ (by decide +kernel)) (by decide +kernel)
theorem wm_286 : Cond.code ⟨"SpotContoursModel", "isSpot", "(I)Z"⟩ prog_7_method_3_code 2 (some .boolean) ∈ zz_B := zz_mem (List.mem_append_right _ (List.mem_of_getElem? (i := 687) (by decide +kernel))) (by decide +kernel)
theorem wm_287 : Cond.methodLink "SpotContoursModel" 69 ⟨"SpotContoursModel", "isSpot", "(I)Z"⟩ ∈ zz_B := zz_mem (List.mem_append_right _ (List.mem_of_getElem? (i := 684) (by decide +kernel))) (by decide +kernel)
theorem wm_288 : Cond.instanceMethod ⟨"SpotContoursModel", "isSpot", "(I)Z"⟩ ∈ zz_B := zz_mem (List.mem_append_right _ (List.mem_of_getElem? (i := 686) (by decide +kernel))) (by decide +kernel)
theorem wm_289 : Cond.selects "SpotContoursModel" ⟨"SpotContoursModel", "isSpot", "(I)Z"⟩ ⟨"SpotContoursModel", "isSpot", "(I)Z"⟩ ∈ zz_B := zz_mem (List.mem_append_left _ (by decide +kernel)) (by decide +kernel)
theorem wm_290 : Cond.code ⟨"SpotContoursModel", "has", "(II)Z"⟩ prog_7_method_15_code 3 (some .boolean) ∈ zz_B := zz_mem (List.mem_append_right _ (List.mem_of_getElem? (i := 703) (by decide +kernel))) (by decide +kernel)
theorem wm_291 : Cond.methodLink "SpotContoursModel" 99 ⟨"SpotContoursModel", "has", "(II)Z"⟩ ∈ zz_B := zz_mem (List.mem_append_right _ (List.mem_of_getElem? (i := 700) (by decide +kernel))) (by decide +kernel)
theorem wm_292 : Cond.instanceMethod ⟨"SpotContoursModel", "has", "(II)Z"⟩ ∈ zz_B := zz_mem (List.mem_append_right _ (List.mem_of_getElem? (i := 702) (by decide +kernel))) (by decide +kernel)
theorem wm_293 : Cond.selects "SpotContoursModel" ⟨"SpotContoursModel", "has", "(II)Z"⟩ ⟨"SpotContoursModel", "has", "(II)Z"⟩ ∈ zz_B := zz_mem (List.mem_append_left _ (by decide +kernel)) (by decide +kernel)
theorem wm_294 : Cond.code ⟨"SpotContoursModel", "floor", "(JJ)J"⟩ prog_7_method_18_code 6 (some .long) ∈ zz_B := zz_mem (List.mem_append_right _ (List.mem_of_getElem? (i := 714) (by decide +kernel))) (by decide +kernel)
theorem wm_295 : Cond.methodLink "SpotContoursModel" 106 ⟨"SpotContoursModel", "floor", "(JJ)J"⟩ ∈ zz_B := zz_mem (List.mem_append_right _ (List.mem_of_getElem? (i := 712) (by decide +kernel))) (by decide +kernel)
theorem wm_296 : Cond.static ⟨"SpotContoursModel", "floor", "(JJ)J"⟩ ∈ zz_B := zz_mem (List.mem_append_right _ (List.mem_of_getElem? (i := 713) (by decide +kernel))) (by decide +kernel)
theorem wm_297 : Cond.code ⟨"SpotContoursModel", "toPlace", "(IIII)J"⟩ prog_7_method_17_code 5 (some .long) ∈ zz_B := zz_mem (List.mem_append_right _ (List.mem_of_getElem? (i := 711) (by decide +kernel))) (by decide +kernel)
theorem wm_298 : Cond.methodLink "SpotContoursModel" 103 ⟨"SpotContoursModel", "toPlace", "(IIII)J"⟩ ∈ zz_B := zz_mem (List.mem_append_right _ (List.mem_of_getElem? (i := 708) (by decide +kernel))) (by decide +kernel)
theorem wm_299 : Cond.instanceMethod ⟨"SpotContoursModel", "toPlace", "(IIII)J"⟩ ∈ zz_B := zz_mem (List.mem_append_right _ (List.mem_of_getElem? (i := 710) (by decide +kernel))) (by decide +kernel)
theorem wm_300 : Cond.selects "SpotContoursModel" ⟨"SpotContoursModel", "toPlace", "(IIII)J"⟩ ⟨"SpotContoursModel", "toPlace", "(IIII)J"⟩ ∈ zz_B := zz_mem (List.mem_append_left _ (by decide +kernel)) (by decide +kernel)
theorem wm_301 : Cond.code ⟨"SpotContoursModel", "edgeOf", "(II)I"⟩ prog_7_method_21_code 2 (some .int) ∈ zz_B := zz_mem (List.mem_append_right _ (List.mem_of_getElem? (i := 736) (by decide +kernel))) (by decide +kernel)
theorem wm_302 : Cond.methodLink "SpotContoursModel" 113 ⟨"SpotContoursModel", "edgeOf", "(II)I"⟩ ∈ zz_B := zz_mem (List.mem_append_right _ (List.mem_of_getElem? (i := 734) (by decide +kernel))) (by decide +kernel)
theorem wm_303 : Cond.static ⟨"SpotContoursModel", "edgeOf", "(II)I"⟩ ∈ zz_B := zz_mem (List.mem_append_right _ (List.mem_of_getElem? (i := 735) (by decide +kernel))) (by decide +kernel)
theorem wm_304 : Cond.code ⟨"SpotContoursModel", "isHigh", "(II)Z"⟩ prog_7_method_20_code 3 (some .boolean) ∈ zz_B := zz_mem (List.mem_append_right _ (List.mem_of_getElem? (i := 733) (by decide +kernel))) (by decide +kernel)
theorem wm_305 : Cond.methodLink "SpotContoursModel" 110 ⟨"SpotContoursModel", "isHigh", "(II)Z"⟩ ∈ zz_B := zz_mem (List.mem_append_right _ (List.mem_of_getElem? (i := 730) (by decide +kernel))) (by decide +kernel)
theorem wm_306 : Cond.instanceMethod ⟨"SpotContoursModel", "isHigh", "(II)Z"⟩ ∈ zz_B := zz_mem (List.mem_append_right _ (List.mem_of_getElem? (i := 732) (by decide +kernel))) (by decide +kernel)
theorem wm_307 : Cond.selects "SpotContoursModel" ⟨"SpotContoursModel", "isHigh", "(II)Z"⟩ ⟨"SpotContoursModel", "isHigh", "(II)Z"⟩ ∈ zz_B := zz_mem (List.mem_append_left _ (by decide +kernel)) (by decide +kernel)
theorem wm_308 : Cond.code ⟨"SpotContoursModel", "join", "(IIII)V"⟩ prog_7_method_22_code 6 none ∈ zz_B := zz_mem (List.mem_append_right _ (List.mem_of_getElem? (i := 740) (by decide +kernel))) (by decide +kernel)
theorem wm_309 : Cond.methodLink "SpotContoursModel" 117 ⟨"SpotContoursModel", "join", "(IIII)V"⟩ ∈ zz_B := zz_mem (List.mem_append_right _ (List.mem_of_getElem? (i := 737) (by decide +kernel))) (by decide +kernel)
theorem wm_310 : Cond.instanceMethod ⟨"SpotContoursModel", "join", "(IIII)V"⟩ ∈ zz_B := zz_mem (List.mem_append_right _ (List.mem_of_getElem? (i := 739) (by decide +kernel))) (by decide +kernel)
theorem wm_311 : Cond.selects "SpotContoursModel" ⟨"SpotContoursModel", "join", "(IIII)V"⟩ ⟨"SpotContoursModel", "join", "(IIII)V"⟩ ∈ zz_B := zz_mem (List.mem_append_left _ (by decide +kernel)) (by decide +kernel)
theorem wm_312 : Cond.code ⟨"SpotContoursModel", "pair", "(IIII)V"⟩ prog_7_method_23_code 5 none ∈ zz_B := zz_mem (List.mem_append_right _ (List.mem_of_getElem? (i := 729) (by decide +kernel))) (by decide +kernel)
theorem wm_313 : Cond.methodLink "SpotContoursModel" 127 ⟨"SpotContoursModel", "pair", "(IIII)V"⟩ ∈ zz_B := zz_mem (List.mem_append_right _ (List.mem_of_getElem? (i := 726) (by decide +kernel))) (by decide +kernel)
theorem wm_314 : Cond.instanceMethod ⟨"SpotContoursModel", "pair", "(IIII)V"⟩ ∈ zz_B := zz_mem (List.mem_append_right _ (List.mem_of_getElem? (i := 728) (by decide +kernel))) (by decide +kernel)
theorem wm_315 : Cond.selects "SpotContoursModel" ⟨"SpotContoursModel", "pair", "(IIII)V"⟩ ⟨"SpotContoursModel", "pair", "(IIII)V"⟩ ∈ zz_B := zz_mem (List.mem_append_left _ (by decide +kernel)) (by decide +kernel)
theorem wm_316 : Cond.code ⟨"SpotContoursModel", "gather", "(I)V"⟩ prog_7_method_24_code 6 none ∈ zz_B := zz_mem (List.mem_append_right _ (List.mem_of_getElem? (i := 744) (by decide +kernel))) (by decide +kernel)
theorem wm_317 : Cond.methodLink "SpotContoursModel" 130 ⟨"SpotContoursModel", "gather", "(I)V"⟩ ∈ zz_B := zz_mem (List.mem_append_right _ (List.mem_of_getElem? (i := 741) (by decide +kernel))) (by decide +kernel)
theorem wm_318 : Cond.instanceMethod ⟨"SpotContoursModel", "gather", "(I)V"⟩ ∈ zz_B := zz_mem (List.mem_append_right _ (List.mem_of_getElem? (i := 743) (by decide +kernel))) (by decide +kernel)
theorem wm_319 : Cond.selects "SpotContoursModel" ⟨"SpotContoursModel", "gather", "(I)V"⟩ ⟨"SpotContoursModel", "gather", "(I)V"⟩ ∈ zz_B := zz_mem (List.mem_append_left _ (by decide +kernel)) (by decide +kernel)
theorem wm_320 : Cond.code ⟨"SpotContoursModel", "findContours", "(I)V"⟩ prog_7_method_25_code 6 none ∈ zz_B := zz_mem (List.mem_append_right _ (List.mem_of_getElem? (i := 725) (by decide +kernel))) (by decide +kernel)
theorem wm_321 : Cond.methodLink "SpotContoursModel" 137 ⟨"SpotContoursModel", "findContours", "(I)V"⟩ ∈ zz_B := zz_mem (List.mem_append_right _ (List.mem_of_getElem? (i := 722) (by decide +kernel))) (by decide +kernel)
theorem wm_322 : Cond.instanceMethod ⟨"SpotContoursModel", "findContours", "(I)V"⟩ ∈ zz_B := zz_mem (List.mem_append_right _ (List.mem_of_getElem? (i := 724) (by decide +kernel))) (by decide +kernel)
theorem wm_323 : Cond.selects "SpotContoursModel" ⟨"SpotContoursModel", "findContours", "(I)V"⟩ ⟨"SpotContoursModel", "findContours", "(I)V"⟩ ∈ zz_B := zz_mem (List.mem_append_left _ (by decide +kernel)) (by decide +kernel)
theorem wm_324 : Cond.code ⟨"SpotContoursModel", "isLevel", "(I)Z"⟩ prog_7_method_26_code 1 (some .boolean) ∈ zz_B := zz_mem (List.mem_append_right _ (List.mem_of_getElem? (i := 721) (by decide +kernel))) (by decide +kernel)
theorem wm_325 : Cond.methodLink "SpotContoursModel" 134 ⟨"SpotContoursModel", "isLevel", "(I)Z"⟩ ∈ zz_B := zz_mem (List.mem_append_right _ (List.mem_of_getElem? (i := 719) (by decide +kernel))) (by decide +kernel)
theorem wm_326 : Cond.static ⟨"SpotContoursModel", "isLevel", "(I)Z"⟩ ∈ zz_B := zz_mem (List.mem_append_right _ (List.mem_of_getElem? (i := 720) (by decide +kernel))) (by decide +kernel)
theorem wm_327 : Cond.code ⟨"SpotContoursModel", "isHollow", "(II)Z"⟩ prog_7_method_29_code 5 (some .boolean) ∈ zz_B := zz_mem (List.mem_append_right _ (List.mem_of_getElem? (i := 756) (by decide +kernel))) (by decide +kernel)
theorem wm_328 : Cond.methodLink "SpotContoursModel" 143 ⟨"SpotContoursModel", "isHollow", "(II)Z"⟩ ∈ zz_B := zz_mem (List.mem_append_right _ (List.mem_of_getElem? (i := 753) (by decide +kernel))) (by decide +kernel)
theorem wm_329 : Cond.instanceMethod ⟨"SpotContoursModel", "isHollow", "(II)Z"⟩ ∈ zz_B := zz_mem (List.mem_append_right _ (List.mem_of_getElem? (i := 755) (by decide +kernel))) (by decide +kernel)
theorem wm_330 : Cond.selects "SpotContoursModel" ⟨"SpotContoursModel", "isHollow", "(II)Z"⟩ ⟨"SpotContoursModel", "isHollow", "(II)Z"⟩ ∈ zz_B := zz_mem (List.mem_append_left _ (by decide +kernel)) (by decide +kernel)
theorem wm_331 : Cond.code ⟨"SpotContoursModel", "asked", "(II)I"⟩ prog_7_method_28_code 3 (some .int) ∈ zz_B := zz_mem (List.mem_append_right _ (List.mem_of_getElem? (i := 752) (by decide +kernel))) (by decide +kernel)
theorem wm_332 : Cond.methodLink "SpotContoursModel" 140 ⟨"SpotContoursModel", "asked", "(II)I"⟩ ∈ zz_B := zz_mem (List.mem_append_right _ (List.mem_of_getElem? (i := 749) (by decide +kernel))) (by decide +kernel)
theorem wm_333 : Cond.instanceMethod ⟨"SpotContoursModel", "asked", "(II)I"⟩ ∈ zz_B := zz_mem (List.mem_append_right _ (List.mem_of_getElem? (i := 751) (by decide +kernel))) (by decide +kernel)
theorem wm_334 : Cond.selects "SpotContoursModel" ⟨"SpotContoursModel", "asked", "(II)I"⟩ ⟨"SpotContoursModel", "asked", "(II)I"⟩ ∈ zz_B := zz_mem (List.mem_append_left _ (by decide +kernel)) (by decide +kernel)
theorem wm_335 : Cond.code ⟨"SpotContoursModel", "askedFor", "(III)I"⟩ prog_7_method_31_code 5 (some .int) ∈ zz_B := zz_mem (List.mem_append_right _ (List.mem_of_getElem? (i := 764) (by decide +kernel))) (by decide +kernel)
theorem wm_336 : Cond.methodLink "SpotContoursModel" 146 ⟨"SpotContoursModel", "askedFor", "(III)I"⟩ ∈ zz_B := zz_mem (List.mem_append_right _ (List.mem_of_getElem? (i := 761) (by decide +kernel))) (by decide +kernel)
theorem wm_337 : Cond.instanceMethod ⟨"SpotContoursModel", "askedFor", "(III)I"⟩ ∈ zz_B := zz_mem (List.mem_append_right _ (List.mem_of_getElem? (i := 763) (by decide +kernel))) (by decide +kernel)
theorem wm_338 : Cond.selects "SpotContoursModel" ⟨"SpotContoursModel", "askedFor", "(III)I"⟩ ⟨"SpotContoursModel", "askedFor", "(III)I"⟩ ∈ zz_B := zz_mem (List.mem_append_left _ (by decide +kernel)) (by decide +kernel)
theorem wm_339 : Cond.constantLong "SpotContoursModel" 149 (64 : Int64) ∈ zz_B := zz_mem (List.mem_append_right _ (List.mem_of_getElem? (i := 773) (by decide +kernel))) (by decide +kernel)
theorem wm_340 : Cond.code ⟨"SpotContoursModel", "placeOf", "(II)I"⟩ prog_7_method_33_code 13 (some .int) ∈ zz_B := zz_mem (List.mem_append_right _ (List.mem_of_getElem? (i := 772) (by decide +kernel))) (by decide +kernel)
theorem wm_341 : Cond.methodLink "SpotContoursModel" 151 ⟨"SpotContoursModel", "placeOf", "(II)I"⟩ ∈ zz_B := zz_mem (List.mem_append_right _ (List.mem_of_getElem? (i := 769) (by decide +kernel))) (by decide +kernel)
theorem wm_342 : Cond.instanceMethod ⟨"SpotContoursModel", "placeOf", "(II)I"⟩ ∈ zz_B := zz_mem (List.mem_append_right _ (List.mem_of_getElem? (i := 771) (by decide +kernel))) (by decide +kernel)
theorem wm_343 : Cond.selects "SpotContoursModel" ⟨"SpotContoursModel", "placeOf", "(II)I"⟩ ⟨"SpotContoursModel", "placeOf", "(II)I"⟩ ∈ zz_B := zz_mem (List.mem_append_left _ (by decide +kernel)) (by decide +kernel)
theorem wm_344 : Cond.code ⟨"SpotContoursModel", "isNear", "(III)Z"⟩ prog_7_method_35_code 4 (some .boolean) ∈ zz_B := zz_mem (List.mem_append_right _ (List.mem_of_getElem? (i := 789) (by decide +kernel))) (by decide +kernel)
theorem wm_345 : Cond.methodLink "SpotContoursModel" 154 ⟨"SpotContoursModel", "isNear", "(III)Z"⟩ ∈ zz_B := zz_mem (List.mem_append_right _ (List.mem_of_getElem? (i := 786) (by decide +kernel))) (by decide +kernel)
theorem wm_346 : Cond.instanceMethod ⟨"SpotContoursModel", "isNear", "(III)Z"⟩ ∈ zz_B := zz_mem (List.mem_append_right _ (List.mem_of_getElem? (i := 788) (by decide +kernel))) (by decide +kernel)
theorem wm_347 : Cond.selects "SpotContoursModel" ⟨"SpotContoursModel", "isNear", "(III)Z"⟩ ⟨"SpotContoursModel", "isNear", "(III)Z"⟩ ∈ zz_B := zz_mem (List.mem_append_left _ (by decide +kernel)) (by decide +kernel)
theorem wm_348 : Cond.code ⟨"SpotContoursModel", "clashes", "(II)Z"⟩ prog_7_method_36_code 5 (some .boolean) ∈ zz_B := zz_mem (List.mem_append_right _ (List.mem_of_getElem? (i := 785) (by decide +kernel))) (by decide +kernel)
theorem wm_349 : Cond.methodLink "SpotContoursModel" 157 ⟨"SpotContoursModel", "clashes", "(II)Z"⟩ ∈ zz_B := zz_mem (List.mem_append_right _ (List.mem_of_getElem? (i := 782) (by decide +kernel))) (by decide +kernel)
theorem wm_350 : Cond.instanceMethod ⟨"SpotContoursModel", "clashes", "(II)Z"⟩ ∈ zz_B := zz_mem (List.mem_append_right _ (List.mem_of_getElem? (i := 784) (by decide +kernel))) (by decide +kernel)
theorem wm_351 : Cond.selects "SpotContoursModel" ⟨"SpotContoursModel", "clashes", "(II)Z"⟩ ⟨"SpotContoursModel", "clashes", "(II)Z"⟩ ∈ zz_B := zz_mem (List.mem_append_left _ (by decide +kernel)) (by decide +kernel)
theorem wm_352 : Cond.code ⟨"SpotContoursModel", "labelContour", "(II)V"⟩ prog_7_method_37_code 6 none ∈ zz_B := zz_mem (List.mem_append_right _ (List.mem_of_getElem? (i := 781) (by decide +kernel))) (by decide +kernel)
theorem wm_353 : Cond.methodLink "SpotContoursModel" 160 ⟨"SpotContoursModel", "labelContour", "(II)V"⟩ ∈ zz_B := zz_mem (List.mem_append_right _ (List.mem_of_getElem? (i := 778) (by decide +kernel))) (by decide +kernel)
theorem wm_354 : Cond.instanceMethod ⟨"SpotContoursModel", "labelContour", "(II)V"⟩ ∈ zz_B := zz_mem (List.mem_append_right _ (List.mem_of_getElem? (i := 780) (by decide +kernel))) (by decide +kernel)
theorem wm_355 : Cond.selects "SpotContoursModel" ⟨"SpotContoursModel", "labelContour", "(II)V"⟩ ⟨"SpotContoursModel", "labelContour", "(II)V"⟩ ∈ zz_B := zz_mem (List.mem_append_left _ (by decide +kernel)) (by decide +kernel)
theorem wm_356 : Cond.fieldLink "SpotContours$Lines" 28 "SpotContours$Lines" "count" "I" ∈ zz_B := zz_mem (List.mem_append_right _ (List.mem_of_getElem? (i := 74) (by decide +kernel))) (by decide +kernel)
theorem wm_357 : Cond.fieldLink "SpotContours$Lines" 19 "SpotContours$Lines" "starts" "[I" ∈ zz_B := zz_mem (List.mem_append_right _ (List.mem_of_getElem? (i := 71) (by decide +kernel))) (by decide +kernel)
theorem wm_358 : Cond.fieldLink "SpotContours$Lines" 22 "SpotContours$Lines" "rings" "[Z" ∈ zz_B := zz_mem (List.mem_append_right _ (List.mem_of_getElem? (i := 72) (by decide +kernel))) (by decide +kernel)
theorem wm_359 : Cond.fieldLink "SpotContours$Lines" 15 "SpotContours$Lines" "pairs" "[I" ∈ zz_B := zz_mem (List.mem_append_right _ (List.mem_of_getElem? (i := 70) (by decide +kernel))) (by decide +kernel)
theorem wm_360 : Cond.fieldLink "SpotContours$Spots" 9 "SpotContours$Spots" "xs" "[I" ∈ zz_B := zz_mem (List.mem_append_right _ (List.mem_of_getElem? (i := 29) (by decide +kernel))) (by decide +kernel)
theorem wm_361 : Cond.fieldLink "SpotContours$Lines" 9 "SpotContours$Lines" "isHigh" "[Z" ∈ zz_B := zz_mem (List.mem_append_right _ (List.mem_of_getElem? (i := 69) (by decide +kernel))) (by decide +kernel)
theorem wm_362 : Cond.fieldLink "SpotContours$Lines" 25 "SpotContours$Lines" "isTraced" "[Z" ∈ zz_B := zz_mem (List.mem_append_right _ (List.mem_of_getElem? (i := 73) (by decide +kernel))) (by decide +kernel)
theorem wm_363 : Cond.fieldLink "SpotContours$Spots" 21 "SpotContours$Spots" "count" "I" ∈ zz_B := zz_mem (List.mem_append_right _ (List.mem_of_getElem? (i := 32) (by decide +kernel))) (by decide +kernel)
theorem wm_364 : Cond.fieldLink "SpotContours$Spots" 18 "SpotContours$Spots" "heights" "[I" ∈ zz_B := zz_mem (List.mem_append_right _ (List.mem_of_getElem? (i := 31) (by decide +kernel))) (by decide +kernel)
theorem wm_365 : Cond.fieldLink "SpotContours$Mesh" 15 "SpotContours$Mesh" "rightOf" "[I" ∈ zz_B := zz_mem (List.mem_append_right _ (List.mem_of_getElem? (i := 54) (by decide +kernel))) (by decide +kernel)
theorem wm_366 : Cond.fieldLink "SpotContours$Mesh" 21 "SpotContours$Mesh" "count" "I" ∈ zz_B := zz_mem (List.mem_append_right _ (List.mem_of_getElem? (i := 55) (by decide +kernel))) (by decide +kernel)
theorem wm_367 : Cond.fieldLink "SpotContours$Mesh" 11 "SpotContours$Mesh" "corners" "[I" ∈ zz_B := zz_mem (List.mem_append_right _ (List.mem_of_getElem? (i := 53) (by decide +kernel))) (by decide +kernel)
theorem wm_368 : Cond.fieldLink "SpotContours$Spots" 15 "SpotContours$Spots" "ys" "[I" ∈ zz_B := zz_mem (List.mem_append_right _ (List.mem_of_getElem? (i := 30) (by decide +kernel))) (by decide +kernel)
theorem wm_369 : Cond.fieldLink "SpotContours$Tags" 19 "SpotContours$Tags" "count" "I" ∈ zz_B := zz_mem (List.mem_append_right _ (List.mem_of_getElem? (i := 98) (by decide +kernel))) (by decide +kernel)
theorem wm_370 : Cond.fieldLink "SpotContours$Tags" 9 "SpotContours$Tags" "levels" "[I" ∈ zz_B := zz_mem (List.mem_append_right _ (List.mem_of_getElem? (i := 95) (by decide +kernel))) (by decide +kernel)
theorem wm_371 : Cond.fieldLink "SpotContours$Tags" 13 "SpotContours$Tags" "xs" "[I" ∈ zz_B := zz_mem (List.mem_append_right _ (List.mem_of_getElem? (i := 96) (by decide +kernel))) (by decide +kernel)
theorem wm_372 : Cond.fieldLink "SpotContours$Tags" 16 "SpotContours$Tags" "ys" "[I" ∈ zz_B := zz_mem (List.mem_append_right _ (List.mem_of_getElem? (i := 97) (by decide +kernel))) (by decide +kernel)
theorem wm_373 : Cond.fieldLink "SpotContours" 12 "SpotContours" "spots" "LSpotContours$Spots;" ∈ zz_B := zz_mem (List.mem_append_right _ (List.mem_of_getElem? (i := 108) (by decide +kernel))) (by decide +kernel)
theorem wm_374 : Cond.fieldLink "SpotContours" 19 "SpotContours" "mesh" "LSpotContours$Mesh;" ∈ zz_B := zz_mem (List.mem_append_right _ (List.mem_of_getElem? (i := 109) (by decide +kernel))) (by decide +kernel)
theorem wm_375 : Cond.fieldLink "SpotContours" 33 "SpotContours" "tags" "LSpotContours$Tags;" ∈ zz_B := zz_mem (List.mem_append_right _ (List.mem_of_getElem? (i := 111) (by decide +kernel))) (by decide +kernel)
theorem wm_376 : Cond.fieldLink "SpotContours" 26 "SpotContours" "lines" "LSpotContours$Lines;" ∈ zz_B := zz_mem (List.mem_append_right _ (List.mem_of_getElem? (i := 110) (by decide +kernel))) (by decide +kernel)
theorem wm_377 : Cond.fieldLink "SpotContoursModel" 56 "SpotContoursModel" "thrown" "I" ∈ zz_B := zz_mem (List.mem_append_right _ (List.mem_of_getElem? (i := 580) (by decide +kernel))) (by decide +kernel)
theorem wm_378 : Cond.fieldLink "SpotContoursModel" 60 "SpotContoursModel" "spots" "I" ∈ zz_B := zz_mem (List.mem_append_right _ (List.mem_of_getElem? (i := 581) (by decide +kernel))) (by decide +kernel)
theorem wm_379 : Cond.fieldLink "SpotContoursModel" 7 "SpotContoursModel" "xs" "[I" ∈ zz_B := zz_mem (List.mem_append_right _ (List.mem_of_getElem? (i := 582) (by decide +kernel))) (by decide +kernel)
theorem wm_380 : Cond.fieldLink "SpotContoursModel" 13 "SpotContoursModel" "ys" "[I" ∈ zz_B := zz_mem (List.mem_append_right _ (List.mem_of_getElem? (i := 583) (by decide +kernel))) (by decide +kernel)
theorem wm_381 : Cond.fieldLink "SpotContoursModel" 19 "SpotContoursModel" "corners" "[I" ∈ zz_B := zz_mem (List.mem_append_right _ (List.mem_of_getElem? (i := 586) (by decide +kernel))) (by decide +kernel)
theorem wm_382 : Cond.fieldLink "SpotContoursModel" 92 "SpotContoursModel" "count" "I" ∈ zz_B := zz_mem (List.mem_append_right _ (List.mem_of_getElem? (i := 585) (by decide +kernel))) (by decide +kernel)
theorem wm_383 : Cond.fieldLink "SpotContoursModel" 16 "SpotContoursModel" "zs" "[I" ∈ zz_B := zz_mem (List.mem_append_right _ (List.mem_of_getElem? (i := 584) (by decide +kernel))) (by decide +kernel)
theorem wm_384 : Cond.fieldLink "SpotContoursModel" 63 "SpotContoursModel" "labels" "I" ∈ zz_B := zz_mem (List.mem_append_right _ (List.mem_of_getElem? (i := 597) (by decide +kernel))) (by decide +kernel)
theorem wm_385 : Cond.fieldLink "SpotContoursModel" 26 "SpotContoursModel" "nexts" "[I" ∈ zz_B := zz_mem (List.mem_append_right _ (List.mem_of_getElem? (i := 588) (by decide +kernel))) (by decide +kernel)
theorem wm_386 : Cond.fieldLink "SpotContoursModel" 29 "SpotContoursModel" "befores" "[I" ∈ zz_B := zz_mem (List.mem_append_right _ (List.mem_of_getElem? (i := 589) (by decide +kernel))) (by decide +kernel)
theorem wm_387 : Cond.fieldLink "SpotContoursModel" 22 "SpotContoursModel" "is" "[Z" ∈ zz_B := zz_mem (List.mem_append_right _ (List.mem_of_getElem? (i := 587) (by decide +kernel))) (by decide +kernel)
theorem wm_388 : Cond.fieldLink "SpotContoursModel" 32 "SpotContoursModel" "gathered" "[Z" ∈ zz_B := zz_mem (List.mem_append_right _ (List.mem_of_getElem? (i := 590) (by decide +kernel))) (by decide +kernel)
theorem wm_389 : Cond.fieldLink "SpotContoursModel" 35 "SpotContoursModel" "begins" "[I" ∈ zz_B := zz_mem (List.mem_append_right _ (List.mem_of_getElem? (i := 592) (by decide +kernel))) (by decide +kernel)
theorem wm_390 : Cond.fieldLink "SpotContoursModel" 38 "SpotContoursModel" "sizes" "[I" ∈ zz_B := zz_mem (List.mem_append_right _ (List.mem_of_getElem? (i := 593) (by decide +kernel))) (by decide +kernel)
theorem wm_391 : Cond.fieldLink "SpotContoursModel" 41 "SpotContoursModel" "rings" "[Z" ∈ zz_B := zz_mem (List.mem_append_right _ (List.mem_of_getElem? (i := 594) (by decide +kernel))) (by decide +kernel)
theorem wm_392 : Cond.fieldLink "SpotContoursModel" 44 "SpotContoursModel" "row" "[I" ∈ zz_B := zz_mem (List.mem_append_right _ (List.mem_of_getElem? (i := 596) (by decide +kernel))) (by decide +kernel)
theorem wm_393 : Cond.fieldLink "SpotContoursModel" 121 "SpotContoursModel" "contours" "I" ∈ zz_B := zz_mem (List.mem_append_right _ (List.mem_of_getElem? (i := 591) (by decide +kernel))) (by decide +kernel)
theorem wm_394 : Cond.fieldLink "SpotContoursModel" 124 "SpotContoursModel" "filled" "I" ∈ zz_B := zz_mem (List.mem_append_right _ (List.mem_of_getElem? (i := 595) (by decide +kernel))) (by decide +kernel)
theorem wm_395 : Cond.fieldLink "SpotContoursModel" 50 "SpotContoursModel" "labelX" "[I" ∈ zz_B := zz_mem (List.mem_append_right _ (List.mem_of_getElem? (i := 599) (by decide +kernel))) (by decide +kernel)
theorem wm_396 : Cond.fieldLink "SpotContoursModel" 53 "SpotContoursModel" "labelY" "[I" ∈ zz_B := zz_mem (List.mem_append_right _ (List.mem_of_getElem? (i := 600) (by decide +kernel))) (by decide +kernel)
theorem wm_397 : Cond.fieldLink "SpotContoursModel" 47 "SpotContoursModel" "labelLevel" "[I" ∈ zz_B := zz_mem (List.mem_append_right _ (List.mem_of_getElem? (i := 598) (by decide +kernel))) (by decide +kernel)
theorem wm_398 : Cond.classLink "SpotContours" 48 "java/lang/IllegalArgumentException" ∈ zz_B := zz_mem (List.mem_append_right _ (List.mem_of_getElem? (i := 164) (by decide +kernel))) (by decide +kernel)
theorem wm_399 : Cond.initialized "java/lang/IllegalArgumentException" ∈ zz_B := zz_mem (List.mem_append_right _ (List.mem_of_getElem? (i := 10) (by decide +kernel))) (by decide +kernel)
theorem wm_400 : Cond.classLink "SpotContours" 55 "java/lang/IllegalStateException" ∈ zz_B := zz_mem (List.mem_append_right _ (List.mem_of_getElem? (i := 232) (by decide +kernel))) (by decide +kernel)
theorem wm_401 : Cond.initialized "java/lang/IllegalStateException" ∈ zz_B := zz_mem (List.mem_append_right _ (List.mem_of_getElem? (i := 11) (by decide +kernel))) (by decide +kernel)
theorem wm_402 : Cond.classLink "SpotContours" 73 "java/lang/IndexOutOfBoundsException" ∈ zz_B := zz_mem (List.mem_append_right _ (List.mem_of_getElem? (i := 304) (by decide +kernel))) (by decide +kernel)
theorem wm_403 : Cond.initialized "java/lang/IndexOutOfBoundsException" ∈ zz_B := zz_mem (List.mem_append_right _ (List.mem_of_getElem? (i := 12) (by decide +kernel))) (by decide +kernel)
theorem wm_404 : Cond.classLink "SpotContours" 96 "java/util/NoSuchElementException" ∈ zz_B := zz_mem (List.mem_append_right _ (List.mem_of_getElem? (i := 375) (by decide +kernel))) (by decide +kernel)
theorem wm_405 : Cond.initialized "java/util/NoSuchElementException" ∈ zz_B := zz_mem (List.mem_append_right _ (List.mem_of_getElem? (i := 14) (by decide +kernel))) (by decide +kernel)
def R_li : String := "SpotContours$Lines"
def T_li : u_T := fun k => match k with
  | 0 => ("SpotContours$Lines", "isHigh", "[Z", true)
  | 1 => ("SpotContours$Lines", "pairs", "[I", true)
  | 2 => ("SpotContours$Lines", "starts", "[I", true)
  | 3 => ("SpotContours$Lines", "rings", "[Z", true)
  | 4 => ("SpotContours$Lines", "isTraced", "[Z", true)
  | _ => ("SpotContours$Lines", "count", "I", false)
def ty_li : Nat → FieldType := fun k => match k with
  | 0 => .array .boolean
  | 1 => .array .int
  | 2 => .array .int
  | 3 => .array .boolean
  | 4 => .array .boolean
  | _ => .int
theorem nmd_li : ∀ a, a < 6 → ∀ b, b < 6 → a ≠ b → (T_li a).2.1 ≠ (T_li b).2.1 := by decide +kernel
theorem tok_li : ∀ k, k < 6 → parseFieldDescriptor (T_li k).2.2.1 = some (ty_li k) := by decide +kernel
theorem hin0_li : ∀ w ∈ u_ws R_li T_li 6, w ∈ zz_B := by decide +kernel
def R_me : String := "SpotContours$Mesh"
def T_me : u_T := fun k => match k with
  | 0 => ("SpotContours$Mesh", "corners", "[I", true)
  | 1 => ("SpotContours$Mesh", "rightOf", "[I", true)
  | _ => ("SpotContours$Mesh", "count", "I", false)
def ty_me : Nat → FieldType := fun k => match k with
  | 0 => .array .int
  | 1 => .array .int
  | _ => .int
theorem nmd_me : ∀ a, a < 3 → ∀ b, b < 3 → a ≠ b → (T_me a).2.1 ≠ (T_me b).2.1 := by decide +kernel
theorem tok_me : ∀ k, k < 3 → parseFieldDescriptor (T_me k).2.2.1 = some (ty_me k) := by decide +kernel
theorem hin0_me : ∀ w ∈ u_ws R_me T_me 3, w ∈ zz_B := by decide +kernel
def R_sp : String := "SpotContours$Spots"
def T_sp : u_T := fun k => match k with
  | 0 => ("SpotContours$Spots", "xs", "[I", true)
  | 1 => ("SpotContours$Spots", "ys", "[I", true)
  | 2 => ("SpotContours$Spots", "heights", "[I", true)
  | _ => ("SpotContours$Spots", "count", "I", false)
def ty_sp : Nat → FieldType := fun k => match k with
  | 0 => .array .int
  | 1 => .array .int
  | 2 => .array .int
  | _ => .int
theorem nmd_sp : ∀ a, a < 4 → ∀ b, b < 4 → a ≠ b → (T_sp a).2.1 ≠ (T_sp b).2.1 := by decide +kernel
theorem tok_sp : ∀ k, k < 4 → parseFieldDescriptor (T_sp k).2.2.1 = some (ty_sp k) := by decide +kernel
theorem hin0_sp : ∀ w ∈ u_ws R_sp T_sp 4, w ∈ zz_B := by decide +kernel
def R_ta : String := "SpotContours$Tags"
def T_ta : u_T := fun k => match k with
  | 0 => ("SpotContours$Tags", "levels", "[I", true)
  | 1 => ("SpotContours$Tags", "xs", "[I", true)
  | 2 => ("SpotContours$Tags", "ys", "[I", true)
  | _ => ("SpotContours$Tags", "count", "I", false)
def ty_ta : Nat → FieldType := fun k => match k with
  | 0 => .array .int
  | 1 => .array .int
  | 2 => .array .int
  | _ => .int
theorem nmd_ta : ∀ a, a < 4 → ∀ b, b < 4 → a ≠ b → (T_ta a).2.1 ≠ (T_ta b).2.1 := by decide +kernel
theorem tok_ta : ∀ k, k < 4 → parseFieldDescriptor (T_ta k).2.2.1 = some (ty_ta k) := by decide +kernel
theorem hin0_ta : ∀ w ∈ u_ws R_ta T_ta 4, w ∈ zz_B := by decide +kernel
def R_sc : String := "SpotContours"
def T_sc : u_T := fun k => match k with
  | 0 => ("SpotContours", "spots", "LSpotContours$Spots;", true)
  | 1 => ("SpotContours", "mesh", "LSpotContours$Mesh;", true)
  | 2 => ("SpotContours", "lines", "LSpotContours$Lines;", true)
  | _ => ("SpotContours", "tags", "LSpotContours$Tags;", true)
def ty_sc : Nat → FieldType := fun k => match k with
  | 0 => .object "SpotContours$Spots"
  | 1 => .object "SpotContours$Mesh"
  | 2 => .object "SpotContours$Lines"
  | _ => .object "SpotContours$Tags"
theorem nmd_sc : ∀ a, a < 4 → ∀ b, b < 4 → a ≠ b → (T_sc a).2.1 ≠ (T_sc b).2.1 := by decide +kernel
theorem tok_sc : ∀ k, k < 4 → parseFieldDescriptor (T_sc k).2.2.1 = some (ty_sc k) := by decide +kernel
theorem hin0_sc : ∀ w ∈ u_ws R_sc T_sc 4, w ∈ zz_B := by decide +kernel
def R_mo : String := "SpotContoursModel"
def T_mo : u_T := fun k => match k with
  | 0 => ("SpotContoursModel", "thrown", "I", false)
  | 1 => ("SpotContoursModel", "spots", "I", false)
  | 2 => ("SpotContoursModel", "xs", "[I", true)
  | 3 => ("SpotContoursModel", "ys", "[I", true)
  | 4 => ("SpotContoursModel", "zs", "[I", true)
  | 5 => ("SpotContoursModel", "count", "I", false)
  | 6 => ("SpotContoursModel", "corners", "[I", true)
  | 7 => ("SpotContoursModel", "is", "[Z", true)
  | 8 => ("SpotContoursModel", "nexts", "[I", true)
  | 9 => ("SpotContoursModel", "befores", "[I", true)
  | 10 => ("SpotContoursModel", "gathered", "[Z", true)
  | 11 => ("SpotContoursModel", "contours", "I", false)
  | 12 => ("SpotContoursModel", "begins", "[I", true)
  | 13 => ("SpotContoursModel", "sizes", "[I", true)
  | 14 => ("SpotContoursModel", "rings", "[Z", true)
  | 15 => ("SpotContoursModel", "filled", "I", false)
  | 16 => ("SpotContoursModel", "row", "[I", true)
  | 17 => ("SpotContoursModel", "labels", "I", false)
  | 18 => ("SpotContoursModel", "labelLevel", "[I", true)
  | 19 => ("SpotContoursModel", "labelX", "[I", true)
  | _ => ("SpotContoursModel", "labelY", "[I", true)
def ty_mo : Nat → FieldType := fun k => match k with
  | 0 => .int
  | 1 => .int
  | 2 => .array .int
  | 3 => .array .int
  | 4 => .array .int
  | 5 => .int
  | 6 => .array .int
  | 7 => .array .boolean
  | 8 => .array .int
  | 9 => .array .int
  | 10 => .array .boolean
  | 11 => .int
  | 12 => .array .int
  | 13 => .array .int
  | 14 => .array .boolean
  | 15 => .int
  | 16 => .array .int
  | 17 => .int
  | 18 => .array .int
  | 19 => .array .int
  | _ => .array .int
theorem nmd_mo : ∀ a, a < 21 → ∀ b, b < 21 → a ≠ b → (T_mo a).2.1 ≠ (T_mo b).2.1 := by decide +kernel
theorem tok_mo : ∀ k, k < 21 → parseFieldDescriptor (T_mo k).2.2.1 = some (ty_mo k) := by decide +kernel
theorem hin0_mo : ∀ w ∈ u_ws R_mo T_mo 21, w ∈ zz_B := by decide +kernel
abbrev zzCl : List vw_C := [(R_li, T_li, 6), (R_me, T_me, 3), (R_sp, T_sp, 4), (R_ta, T_ta, 4), (R_sc, T_sc, 4), (R_mo, T_mo, 21)]
end
section
/-! What every contract of this claim is made of. -/
/-- the nest host's private methods, as the inner classes link them; and what a throw needs of the tables beside the good words -/
def zz_N1 (U : State) : Prop := va_Nw (.methodLinkNest "SpotContours$Lines" 36 yy_sc_highOf "SpotContours") U ∧ va_Nw (.methodLinkNest "SpotContours$Lines" 47 yy_sc_lowOf "SpotContours") U ∧ va_Nw (.methodLinkNest "SpotContours$Spots" 49 yy_sc_highOf "SpotContours") U ∧ va_Nw (.methodLinkNest "SpotContours$Spots" 53 yy_sc_lowOf "SpotContours") U
def zz_xn (k : Nat) : String := match k with
  | 0 => "java/lang/IllegalArgumentException"
  | 1 => "java/lang/IllegalStateException"
  | 2 => "java/lang/IndexOutOfBoundsException"
  | _ => "java/util/NoSuchElementException"
def zz_N2 (U : State) : Prop := (∀ k, va_Nw (.castable (zz_xn k) (zz_xn k)) U) ∧ va_Nw (.declares ⟨"java/lang/RuntimeException", "<init>", "()V"⟩) U ∧ va_Nw (.declares ⟨"java/lang/Exception", "<init>", "()V"⟩) U ∧ va_Nw (.declares ⟨"java/lang/Throwable", "<init>", "()V"⟩) U
def zz_N (U : State) : Prop := zz_N1 U ∧ zz_N2 U
theorem zz_N.warm {s U : State} (hW : s.WarmedH U.vm) (h : zz_N s) : zz_N U := ⟨⟨h.1.1.warmM hW, h.1.2.1.warmM hW, h.1.2.2.1.warmM hW, h.1.2.2.2.warmM hW⟩, fun k => (h.2.1 k).warmC hW, h.2.2.1.warmD hW, h.2.2.2.1.warmD hW, h.2.2.2.2.warmD hW⟩
theorem zz_N.same {u U : State} (hv : u.vm = U.vm) (h : zz_N u) : zz_N U := ⟨⟨h.1.1.same rfl hv, h.1.2.1.same rfl hv, h.1.2.2.1.same rfl hv, h.1.2.2.2.same rfl hv⟩, fun k => (h.2.1 k).same rfl hv, h.2.2.1.same rfl hv, h.2.2.2.1.same rfl hv, h.2.2.2.2.same rfl hv⟩
abbrev zz_Pre (D : va_G) (w : St → va_W) (tys : List (ClassId × FieldType)) (av : List Value) (g : St) (sz : Nat) : Array Value → State → Prop :=
  va_Pc av (fun U => U.heap.size = sz ∧ va_P D zzCl (w g) U.heap ∧ va_K D zzCl tys U ∧ va_D (fun _ => True) (w g) ∧ zz_N U)
abbrev zz_W (D : va_G) (w : St → va_W) (tys : List (ClassId × FieldType)) (A : Nat → Prop) : St → State → Prop := fun g t => va_P D zzCl (w g) t.heap ∧ va_K D zzCl tys t ∧ va_D A (w g)
abbrev zz_Qi (below : List Frame) (D : va_G) (w : St → va_W) (tys : List (ClassId × FieldType)) (A : Nat → Prop) (post : Int32 → St → Prop) (args : Array Value) (s : State) : State → Prop := MQ below (va_Qi post (zz_W D w tys A) A) args s 0 0 A
abbrev zz_Ql (below : List Frame) (D : va_G) (w : St → va_W) (tys : List (ClassId × FieldType)) (A : Nat → Prop) (post : Int64 → St → Prop) (args : Array Value) (s : State) : State → Prop := MQ below (va_Ql post (zz_W D w tys A) A) args s 0 0 A
abbrev zz_Qv (below : List Frame) (D : va_G) (w : St → va_W) (tys : List (ClassId × FieldType)) (A : Nat → Prop) (post : St → Prop) (args : Array Value) (s : State) : State → Prop := MQ below (va_Qv post (zz_W D w tys A) A) args s 0 0 A
theorem zz_blind {D : va_G} {w : St → va_W} {tys : List (ClassId × FieldType)} {av : List Value} {g : St} {sz : Nat} : FrameBlind (zz_Pre D w tys av g sz) := fun a U g9 mk q => by
  obtain ⟨q0, q1, qP, qK, qD, qN⟩ := q
  exact ⟨q0, q1, qP, va_K.moved (u := U) (U := U.calling g9 mk a) (Vm.Alike.refl U.vm) qK, qD, zz_N.same (u := U) rfl qN⟩
theorem zz_pre {D : va_G} {w : St → va_W} {tys : List (ClassId × FieldType)} {av : List Value} {g : St} {s : State} {H : Heap} {A : Nat → Prop} (hP : va_P D zzCl (w g) H) (hK : va_K D zzCl tys s) (hD : va_D A (w g)) (hN : zz_N s) :
    ∀ U : State, U.heap = H → s.WarmedH U.vm → zz_Pre D w tys av g H.size av.toArray U := fun U hU hW =>
  ⟨rfl, by rw [hU], by rw [hU]; exact hP, va_K.moved hW.alike hK, hD.weaken (fun _ _ _ _ => trivial), zz_N.warm hW hN⟩
section
variable {p : Program} {l : Launch} {e : Env} {R : Room} {s : State} {m : MethodId} {args : Array Value} {below : List Frame} {meth : Method} {c : Code} {H : Heap} {locs : List Loc} {cells slots mc ms : Nat} {Q : State → Prop}
variable {pc : Nat} {ls : Array Slot} {rest st0 : List Value} {av : Array Value} {A : Nat → Prop} {D : va_G} {w : St → va_W} {tys : List (ClassId × FieldType)} {g : St}
theorem zz_free (hD : va_D A (w g)) (hS : va_S A s.heap H locs) (hA : ∀ q, s.heap.size ≤ q → A q) : ∀ q, va_A (w g) H.size q → A q := by
  intro q h
  rcases h with ⟨k, e, h⟩ | h
  · exact hD.2 k (q, e) h
  · exact hA q (Nat.le_trans hS.1 h)
theorem zz_ci {post : Int32 → St → Prop} (hr : va_Run p l e R s m args below meth c H locs cells slots mc ms (F0 m pc ls st0) rest (va_Qi post (zz_W D w tys (va_A (w g) H.size)) (va_A (w g) H.size) av) (va_A (w g) H.size))
    (hD : va_D A (w g)) (hS : va_S A s.heap H locs) (hA : ∀ q, s.heap.size ≤ q → A q)
    (k : ∀ (r : Int32) (g1 : St) (H1 : Heap) (locs1 : List Loc), post r g1 → va_P D zzCl (w g1) H1 → va_D A (w g1) → va_S A s.heap H1 locs1 → W p l e R s m args below meth c H1 locs1 (cells + mc) (slots + ms) Q (F0 m (pc + 3) ls (.int r :: rest))) :
    W p l e R s m args below meth c H locs cells slots Q (F0 m pc ls st0) := by
  have hF := zz_free hD hS hA
  refine va_calli hr hS (fun q _ h => hF q h) hF (fun r u t H1 locs1 ht hvm hp hB hz1 hk1 hS1 => ?_)
  obtain ⟨hP1, hK1, hD1⟩ := hB
  rw [ht] at hP1
  exact k r u H1 locs1 hp hP1 (hD1.weaken (fun _ q _ h => hF q.1 h)) hS1
theorem zz_cl {post : Int64 → St → Prop} (hr : va_Run p l e R s m args below meth c H locs cells slots mc ms (F0 m pc ls st0) rest (va_Ql post (zz_W D w tys (va_A (w g) H.size)) (va_A (w g) H.size) av) (va_A (w g) H.size))
    (hD : va_D A (w g)) (hS : va_S A s.heap H locs) (hA : ∀ q, s.heap.size ≤ q → A q)
    (k : ∀ (r : Int64) (g1 : St) (H1 : Heap) (locs1 : List Loc), post r g1 → va_P D zzCl (w g1) H1 → va_D A (w g1) → va_S A s.heap H1 locs1 → W p l e R s m args below meth c H1 locs1 (cells + mc) (slots + ms) Q (F0 m (pc + 3) ls (.long r :: rest))) :
    W p l e R s m args below meth c H locs cells slots Q (F0 m pc ls st0) := by
  have hF := zz_free hD hS hA
  refine va_calll hr hS (fun q _ h => hF q h) hF (fun r u t H1 locs1 ht hvm hp hB hz1 hk1 hS1 => ?_)
  obtain ⟨hP1, hK1, hD1⟩ := hB
  rw [ht] at hP1
  exact k r u H1 locs1 hp hP1 (hD1.weaken (fun _ q _ h => hF q.1 h)) hS1
theorem zz_cv {post : St → Prop} (hr : va_Run p l e R s m args below meth c H locs cells slots mc ms (F0 m pc ls st0) rest (va_Qv post (zz_W D w tys (va_A (w g) H.size)) (va_A (w g) H.size) av) (va_A (w g) H.size))
    (hD : va_D A (w g)) (hS : va_S A s.heap H locs) (hA : ∀ q, s.heap.size ≤ q → A q)
    (k : ∀ (g1 : St) (H1 : Heap) (locs1 : List Loc), post g1 → va_P D zzCl (w g1) H1 → va_D A (w g1) → va_S A s.heap H1 locs1 → W p l e R s m args below meth c H1 locs1 (cells + mc) (slots + ms) Q (F0 m (pc + 3) ls rest)) :
    W p l e R s m args below meth c H locs cells slots Q (F0 m pc ls st0) := by
  have hF := zz_free hD hS hA
  refine va_callv hr hS (fun q _ h => hF q h) hF (fun u t H1 locs1 ht hvm hp hB hz1 hk1 hS1 => ?_)
  obtain ⟨hP1, hK1, hD1⟩ := hB
  rw [ht] at hP1
  exact k u H1 locs1 hp hP1 (hD1.weaken (fun _ q _ h => hF q.1 h)) hS1
end
end
section
/-! Rows of this claim's own for methods that may throw. (Draft.) -/
abbrev zz_U (A : Nat → Prop) (U : State) (H : Heap) : Prop := vx_Zq "java/lang/Throwable" "UNASSIGNED_STACK" "[Ljava/lang/StackTraceElement;" A U H ∧ vx_Zq "java/lang/Throwable" "SUPPRESSED_SENTINEL" "Ljava/util/List;" A U H
theorem zz_U.moved {A : Nat → Prop} {u U : State} {H : Heap} (hvm : u.vm.Alike U.vm) (h : zz_U A u H) : zz_U A U H := ⟨h.1.moved hvm, h.2.moved hvm⟩
theorem zz_U.kept {A : Nat → Prop} {U : State} {H H1 : Heap} (h : zz_U A U H) (hq : ∀ a : Nat, a < H.size → ¬ A a → H1[a]? = H[a]?) : zz_U A U H1 := ⟨h.1.kept hq, h.2.kept hq⟩
theorem zz_U.narrow {A B : Nat → Prop} {U : State} {H : Heap} (h : zz_U A U H) (hAB : ∀ q, B q → A q) : zz_U B U H := ⟨h.1.narrow hAB, h.2.narrow hAB⟩
abbrev zz_PreX (D : va_G) (w : St → va_W) (tys : List (ClassId × FieldType)) (av : List Value) (g : St) (sz : Nat) : Array Value → State → Prop :=
  va_Pc av (fun U => U.heap.size = sz ∧ va_P D zzCl (w g) U.heap ∧ va_K D zzCl tys U ∧ va_D (fun _ => True) (w g) ∧ zz_N U ∧ zz_U (va_A (w g) sz) U U.heap)
abbrev zz_X (D : va_G) (w : St → va_W) (tys : List (ClassId × FieldType)) (A : Nat → Prop) (px : Nat → St → Prop) : String → State → State → Prop :=
  vx_X (fun u : Nat × St => px u.1 u.2) (fun E u t => E = zz_xn u.1 ∧ zz_W D w tys A u.2 t) A
abbrev zz_Qix (n : Nat) (below : List Frame) (D : va_G) (w : St → va_W) (tys : List (ClassId × FieldType)) (A : Nat → Prop) (post : Int32 → St → Prop) (px : Nat → St → Prop) (args : Array Value) (s : State) : State → Prop := vx_MQ below (va_Qi post (zz_W D w tys A) A) (zz_X D w tys A px) args s n (6 * n) A
abbrev zz_Qvx (n : Nat) (below : List Frame) (D : va_G) (w : St → va_W) (tys : List (ClassId × FieldType)) (A : Nat → Prop) (post : St → Prop) (px : Nat → St → Prop) (args : Array Value) (s : State) : State → Prop := vx_MQ below (va_Qv post (zz_W D w tys A) A) (zz_X D w tys A px) args s n (6 * n) A
theorem zz_blindX {D : va_G} {w : St → va_W} {tys : List (ClassId × FieldType)} {av : List Value} {g : St} {sz : Nat} : FrameBlind (zz_PreX D w tys av g sz) := fun a U g9 mk q => by
  obtain ⟨q0, q1, qP, qK, qD, qN, qU⟩ := q
  exact ⟨q0, q1, qP, va_K.moved (u := U) (U := U.calling g9 mk a) (Vm.Alike.refl U.vm) qK, qD, zz_N.same (u := U) rfl qN, zz_U.moved (u := U) (U := U.calling g9 mk a) (Vm.Alike.refl U.vm) qU⟩
theorem zz_preX {D : va_G} {w : St → va_W} {tys : List (ClassId × FieldType)} {av : List Value} {g : St} {s : State} {H : Heap} {A : Nat → Prop} {locs : List Loc} (hP : va_P D zzCl (w g) H) (hK : va_K D zzCl tys s) (hD : va_D A (w g)) (hN : zz_N s) (hS : va_S A s.heap H locs) (hA : ∀ q, s.heap.size ≤ q → A q) (hU : zz_U A s s.heap) :
    ∀ U : State, U.heap = H → s.WarmedH U.vm → zz_PreX D w tys av g H.size av.toArray U := fun U hU9 hW =>
  ⟨rfl, by rw [hU9], by rw [hU9]; exact hP, va_K.moved hW.alike hK, hD.weaken (fun _ _ _ _ => trivial), zz_N.warm hW hN, by rw [hU9]; exact ((hU.kept hS.2.1).narrow (zz_free hD hS hA)).moved hW.alike⟩
section
variable {p : Program} {l : Launch} {e : Env} {R : Room} {s : State} {m : MethodId} {args : Array Value} {below : List Frame} {meth : Method} {c : Code} {H : Heap} {locs : List Loc} {cells slots mc ms : Nat} {Q : State → Prop}
variable {pc : Nat} {ls : Array Slot} {rest st0 : List Value} {av : Array Value} {A : Nat → Prop} {D : va_G} {w : St → va_W} {tys : List (ClassId × FieldType)} {g : St} {px : Nat → St → Prop} {Qc : Array Value → State → Outcome → State → Prop} {n : Nat}
theorem zz_cix {post : Int32 → St → Prop} (hr : vx_Run p l e R s m args below meth c H locs cells slots mc ms (F0 m pc ls st0) rest (va_Qi post (zz_W D w tys (va_A (w g) H.size)) (va_A (w g) H.size) av) (zz_X D w tys (va_A (w g) H.size) px) (va_A (w g) H.size))
    (hD : va_D A (w g)) (hS : va_S A s.heap H locs) (hA : ∀ q, s.heap.size ≤ q → A q) (hout : ∀ x ∈ c.exceptionTable.toList, False) (hlocks : meth.locks = false) (hc : cells + mc ≤ n) (hs : slots + ms ≤ 6 * n)
    (k : ∀ (r : Int32) (g1 : St) (H1 : Heap) (locs1 : List Loc), post r g1 → va_P D zzCl (w g1) H1 → va_D A (w g1) → va_S A s.heap H1 locs1 → W p l e R s m args below meth c H1 locs1 (cells + mc) (slots + ms) (vx_MQ below Qc (zz_X D w tys A px) args s n (6 * n) A) (F0 m (pc + 3) ls (.int r :: rest))) :
    W p l e R s m args below meth c H locs cells slots (vx_MQ below Qc (zz_X D w tys A px) args s n (6 * n) A) (F0 m pc ls st0) := by
  have hF := zz_free hD hS hA
  refine vx_calli hr hS (fun q _ h => hF q h) hF (fun q _ h => hF q h) (fun E ce q9 u t H1 locs1 ht hvm hp hB hz1 hk1 hS1 hce hcv hcl => ?_) (fun r u t H1 locs1 ht hvm hp hB hz1 hk1 hS1 => ?_)
  · obtain ⟨hE, hP1, hK1, hD1⟩ := hB
    rw [ht] at hP1
    exact vx_out (fun x h => (hout x h).elim) hlocks hce hcv hcl (fun t9 ht9 hv9 => ⟨u, hp, ⟨hE, by rw [ht9]; exact hP1, va_K.moved (Vm.Alike.trans hvm.symm hv9) hK1, hD1.weaken (fun _ q _ h => hF q.1 h)⟩, hS1.F ht9⟩) hS1.2.2 hc hs
  · obtain ⟨hP1, hK1, hD1⟩ := hB
    rw [ht] at hP1
    exact k r u H1 locs1 hp hP1 (hD1.weaken (fun _ q _ h => hF q.1 h)) hS1
theorem zz_cvx {post : St → Prop} (hr : vx_Run p l e R s m args below meth c H locs cells slots mc ms (F0 m pc ls st0) rest (va_Qv post (zz_W D w tys (va_A (w g) H.size)) (va_A (w g) H.size) av) (zz_X D w tys (va_A (w g) H.size) px) (va_A (w g) H.size))
    (hD : va_D A (w g)) (hS : va_S A s.heap H locs) (hA : ∀ q, s.heap.size ≤ q → A q) (hout : ∀ x ∈ c.exceptionTable.toList, False) (hlocks : meth.locks = false) (hc : cells + mc ≤ n) (hs : slots + ms ≤ 6 * n)
    (k : ∀ (g1 : St) (H1 : Heap) (locs1 : List Loc), post g1 → va_P D zzCl (w g1) H1 → va_D A (w g1) → va_S A s.heap H1 locs1 → W p l e R s m args below meth c H1 locs1 (cells + mc) (slots + ms) (vx_MQ below Qc (zz_X D w tys A px) args s n (6 * n) A) (F0 m (pc + 3) ls rest)) :
    W p l e R s m args below meth c H locs cells slots (vx_MQ below Qc (zz_X D w tys A px) args s n (6 * n) A) (F0 m pc ls st0) := by
  have hF := zz_free hD hS hA
  refine vx_callv hr hS (fun q _ h => hF q h) hF (fun q _ h => hF q h) (fun E ce q9 u t H1 locs1 ht hvm hp hB hz1 hk1 hS1 hce hcv hcl => ?_) (fun u t H1 locs1 ht hvm hp hB hz1 hk1 hS1 => ?_)
  · obtain ⟨hE, hP1, hK1, hD1⟩ := hB
    rw [ht] at hP1
    exact vx_out (fun x h => (hout x h).elim) hlocks hce hcv hcl (fun t9 ht9 hv9 => ⟨u, hp, ⟨hE, by rw [ht9]; exact hP1, va_K.moved (Vm.Alike.trans hvm.symm hv9) hK1, hD1.weaken (fun _ q _ h => hF q.1 h)⟩, hS1.F ht9⟩) hS1.2.2 hc hs
  · obtain ⟨hP1, hK1, hD1⟩ := hB
    rw [ht] at hP1
    exact k u H1 locs1 hp hP1 (hD1.weaken (fun _ q _ h => hF q.1 h)) hS1
abbrev zz_nm : List String := ["java/lang/RuntimeException", "java/lang/Exception"]
abbrev zz_bad (k : Nat) : List Cond := [.castable (zz_xn k) (zz_xn k), .declares ⟨"java/lang/RuntimeException", "<init>", "()V"⟩, .declares ⟨"java/lang/Exception", "<init>", "()V"⟩, .declares ⟨"java/lang/Throwable", "<init>", "()V"⟩]
theorem zz_thr {cc : ByteArray} {cw : Cond} {ik ic : Nat} (k : Nat) (hx : p.tables.exec = Jvm.exec) (hb : c.code = cc) (hlt : l.stackTraces = false) (hown : s.vm.findClass "SpotContours" = some m.cls) (hts : ∀ w ∈ cw :: zz_B, w.before args s = true) (hN : zz_N s) (hU : zz_U A s s.heap)
    (hP : va_P D zzCl (w g) H) (hK : va_K D zzCl tys s) (hD : va_D A (w g)) (hS : va_S A s.heap H locs)
    (f1 : Bundle.fit (zz_xn k) = true) (hk : Cond.classLink "SpotContours" ik (zz_xn k) ∈ zz_B) (hi : Cond.initialized (zz_xn k) ∈ zz_B)
    (h1 : ∀ w ∈ (vx_at0 "SpotContours" ic (zz_xn k) zz_nm).filter goodWord, w ∈ zz_B) (h2 : ∀ w ∈ (vx_at0 "SpotContours" ic (zz_xn k) zz_nm).filter (fun w => !goodWord w), w ∈ zz_bad k)
    (h3 : ∀ w ∈ Cond.classLink "SpotContours" ik (zz_xn k) :: Cond.initialized (zz_xn k) :: vx_at0 "SpotContours" ic (zz_xn k) zz_nm, vx_ot w = true)
    (hsize : ls.size = c.maxLocals) (d0 : decode cc pc = .ok (.new ik, 3)) (d3 : decode cc (pc + 3) = .ok (.dup, 1)) (d4 : decode cc (pc + 4) = .ok (.invokespecial ic, 3)) (d7 : decode cc (pc + 7) = .ok (.athrow, 1))
    (hout : ∀ x ∈ c.exceptionTable.toList, False) (hf : 5 < R.frames) (hl : (rest.map fun v => v.category).sum + 81 ≤ R.locals) (hRc : cells + 1 ≤ R.cells) (hRs : slots + 6 ≤ R.slots) (hlocks : meth.locks = false) (hc : cells + 1 ≤ n) (hs : slots + 6 ≤ 6 * n) (h : px k g) :
    W p l e R s m args below meth c H locs cells slots (vx_MQ below Qc (zz_X D w tys A px) args s n (6 * n) A) (F0 m pc ls rest) :=
  vx_throw0 (own := "SpotContours") (cls := zz_xn k) (names := zz_nm) hx hb hlt hown f1 (by decide +kernel) (hts _ (zz_in hk)) (hts _ (zz_in hi))
    (vx_hat (L := vx_at0 "SpotContours" ic (zz_xn k) zz_nm) (B := zz_bad k) (fun w hw => hts w (zz_in (h1 w hw))) h2 (vx_c (va_Nw.use rfl (hN.2.1 k)) (vx_c (va_Nw.use rfl hN.2.2.1) (vx_c (va_Nw.use rfl hN.2.2.2.1) (vx_c (va_Nw.use rfl hN.2.2.2.2) vx_n))))) h3 hU.1 hU.2 hS hsize d0 d3 d4 d7
    (fun x h => (hout x h).elim) hf hl hRc hRs hlocks (fun t ha hsz hk => ⟨(k, g), h, ⟨rfl, hP.kept (fun k q hq => hk q.1 (hP k q hq).lt), va_K.moved ha hK, hD⟩, Nat.le_trans hS.1 hsz, fun q h1 h2 => (hk q (Nat.lt_of_lt_of_le h1 hS.1)).trans (hS.2.1 q h1 h2)⟩) hS.2.2 hc hs
end
end
section
/-! The cells of the two sides, printed. -/
def wC (a : Nat → Nat) (cI cZ : ClassId) (g : St) : va_W := [(a 0, .inr (4, [.ref (a 1), .ref (a 2), .ref (a 3), .ref (a 4)])), (a 1, .inr (2, [.ref (a 5), .ref (a 6), .ref (a 7), .int (g 1 3)])), (a 2, .inr (1, [.ref (a 8), .ref (a 9), .int (g 2 2)])), (a 3, .inr (0, [.ref (a 10), .ref (a 11), .ref (a 12), .ref (a 13), .ref (a 14), .int (g 3 5)])), (a 4, .inr (3, [.ref (a 15), .ref (a 16), .ref (a 17), .int (g 4 3)])), (a 5, .inl (cI, 16, .inl (g 5))), (a 6, .inl (cI, 16, .inl (g 6))), (a 7, .inl (cI, 16, .inl (g 7))), (a 8, .inl (cI, 81, .inl (g 8))), (a 9, .inl (cI, 256, .inl (g 9))), (a 10, .inl (cZ, 16, .inl (g 10))), (a 11, .inl (cI, 120, .inl (g 11))), (a 12, .inl (cI, 121, .inl (g 12))), (a 13, .inl (cZ, 120, .inl (g 13))), (a 14, .inl (cZ, 256, .inl (g 14))), (a 15, .inl (cI, 20, .inl (g 15))), (a 16, .inl (cI, 20, .inl (g 16))), (a 17, .inl (cI, 20, .inl (g 17)))]
theorem wC_0 (a : Nat → Nat) (cI cZ : ClassId) (g : St) : (wC a cI cZ g)[0]? = some (a 0, .inr (4, [.ref (a 1), .ref (a 2), .ref (a 3), .ref (a 4)])) := rfl
theorem wC_1 (a : Nat → Nat) (cI cZ : ClassId) (g : St) : (wC a cI cZ g)[1]? = some (a 1, .inr (2, [.ref (a 5), .ref (a 6), .ref (a 7), .int (g 1 3)])) := rfl
theorem wC_2 (a : Nat → Nat) (cI cZ : ClassId) (g : St) : (wC a cI cZ g)[2]? = some (a 2, .inr (1, [.ref (a 8), .ref (a 9), .int (g 2 2)])) := rfl
theorem wC_3 (a : Nat → Nat) (cI cZ : ClassId) (g : St) : (wC a cI cZ g)[3]? = some (a 3, .inr (0, [.ref (a 10), .ref (a 11), .ref (a 12), .ref (a 13), .ref (a 14), .int (g 3 5)])) := rfl
theorem wC_4 (a : Nat → Nat) (cI cZ : ClassId) (g : St) : (wC a cI cZ g)[4]? = some (a 4, .inr (3, [.ref (a 15), .ref (a 16), .ref (a 17), .int (g 4 3)])) := rfl
theorem wC_5 (a : Nat → Nat) (cI cZ : ClassId) (g : St) : (wC a cI cZ g)[5]? = some (a 5, .inl (cI, 16, .inl (g 5))) := rfl
theorem wC_6 (a : Nat → Nat) (cI cZ : ClassId) (g : St) : (wC a cI cZ g)[6]? = some (a 6, .inl (cI, 16, .inl (g 6))) := rfl
theorem wC_7 (a : Nat → Nat) (cI cZ : ClassId) (g : St) : (wC a cI cZ g)[7]? = some (a 7, .inl (cI, 16, .inl (g 7))) := rfl
theorem wC_8 (a : Nat → Nat) (cI cZ : ClassId) (g : St) : (wC a cI cZ g)[8]? = some (a 8, .inl (cI, 81, .inl (g 8))) := rfl
theorem wC_9 (a : Nat → Nat) (cI cZ : ClassId) (g : St) : (wC a cI cZ g)[9]? = some (a 9, .inl (cI, 256, .inl (g 9))) := rfl
theorem wC_10 (a : Nat → Nat) (cI cZ : ClassId) (g : St) : (wC a cI cZ g)[10]? = some (a 10, .inl (cZ, 16, .inl (g 10))) := rfl
theorem wC_11 (a : Nat → Nat) (cI cZ : ClassId) (g : St) : (wC a cI cZ g)[11]? = some (a 11, .inl (cI, 120, .inl (g 11))) := rfl
theorem wC_12 (a : Nat → Nat) (cI cZ : ClassId) (g : St) : (wC a cI cZ g)[12]? = some (a 12, .inl (cI, 121, .inl (g 12))) := rfl
theorem wC_13 (a : Nat → Nat) (cI cZ : ClassId) (g : St) : (wC a cI cZ g)[13]? = some (a 13, .inl (cZ, 120, .inl (g 13))) := rfl
theorem wC_14 (a : Nat → Nat) (cI cZ : ClassId) (g : St) : (wC a cI cZ g)[14]? = some (a 14, .inl (cZ, 256, .inl (g 14))) := rfl
theorem wC_15 (a : Nat → Nat) (cI cZ : ClassId) (g : St) : (wC a cI cZ g)[15]? = some (a 15, .inl (cI, 20, .inl (g 15))) := rfl
theorem wC_16 (a : Nat → Nat) (cI cZ : ClassId) (g : St) : (wC a cI cZ g)[16]? = some (a 16, .inl (cI, 20, .inl (g 16))) := rfl
theorem wC_17 (a : Nat → Nat) (cI cZ : ClassId) (g : St) : (wC a cI cZ g)[17]? = some (a 17, .inl (cI, 20, .inl (g 17))) := rfl
def wM (a : Nat → Nat) (cI cZ : ClassId) (g : St) : va_W := [(a 0, .inr (5, [.int (g 0 0), .int (g 0 1), .ref (a 1), .ref (a 2), .ref (a 3), .int (g 0 5), .ref (a 4), .ref (a 5), .ref (a 6), .ref (a 7), .ref (a 8), .int (g 0 11), .ref (a 9), .ref (a 10), .ref (a 11), .int (g 0 15), .ref (a 12), .int (g 0 17), .ref (a 13), .ref (a 14), .ref (a 15)])), (a 1, .inl (cI, 16, .inl (g 1))), (a 2, .inl (cI, 16, .inl (g 2))), (a 3, .inl (cI, 16, .inl (g 3))), (a 4, .inl (cI, 150, .inl (g 4))), (a 5, .inl (cZ, 256, .inl (g 5))), (a 6, .inl (cI, 256, .inl (g 6))), (a 7, .inl (cI, 256, .inl (g 7))), (a 8, .inl (cZ, 256, .inl (g 8))), (a 9, .inl (cI, 130, .inl (g 9))), (a 10, .inl (cI, 130, .inl (g 10))), (a 11, .inl (cZ, 130, .inl (g 11))), (a 12, .inl (cI, 260, .inl (g 12))), (a 13, .inl (cI, 60, .inl (g 13))), (a 14, .inl (cI, 60, .inl (g 14))), (a 15, .inl (cI, 60, .inl (g 15)))]
theorem wM_0 (a : Nat → Nat) (cI cZ : ClassId) (g : St) : (wM a cI cZ g)[0]? = some (a 0, .inr (5, [.int (g 0 0), .int (g 0 1), .ref (a 1), .ref (a 2), .ref (a 3), .int (g 0 5), .ref (a 4), .ref (a 5), .ref (a 6), .ref (a 7), .ref (a 8), .int (g 0 11), .ref (a 9), .ref (a 10), .ref (a 11), .int (g 0 15), .ref (a 12), .int (g 0 17), .ref (a 13), .ref (a 14), .ref (a 15)])) := rfl
theorem wM_1 (a : Nat → Nat) (cI cZ : ClassId) (g : St) : (wM a cI cZ g)[1]? = some (a 1, .inl (cI, 16, .inl (g 1))) := rfl
theorem wM_2 (a : Nat → Nat) (cI cZ : ClassId) (g : St) : (wM a cI cZ g)[2]? = some (a 2, .inl (cI, 16, .inl (g 2))) := rfl
theorem wM_3 (a : Nat → Nat) (cI cZ : ClassId) (g : St) : (wM a cI cZ g)[3]? = some (a 3, .inl (cI, 16, .inl (g 3))) := rfl
theorem wM_4 (a : Nat → Nat) (cI cZ : ClassId) (g : St) : (wM a cI cZ g)[4]? = some (a 4, .inl (cI, 150, .inl (g 4))) := rfl
theorem wM_5 (a : Nat → Nat) (cI cZ : ClassId) (g : St) : (wM a cI cZ g)[5]? = some (a 5, .inl (cZ, 256, .inl (g 5))) := rfl
theorem wM_6 (a : Nat → Nat) (cI cZ : ClassId) (g : St) : (wM a cI cZ g)[6]? = some (a 6, .inl (cI, 256, .inl (g 6))) := rfl
theorem wM_7 (a : Nat → Nat) (cI cZ : ClassId) (g : St) : (wM a cI cZ g)[7]? = some (a 7, .inl (cI, 256, .inl (g 7))) := rfl
theorem wM_8 (a : Nat → Nat) (cI cZ : ClassId) (g : St) : (wM a cI cZ g)[8]? = some (a 8, .inl (cZ, 256, .inl (g 8))) := rfl
theorem wM_9 (a : Nat → Nat) (cI cZ : ClassId) (g : St) : (wM a cI cZ g)[9]? = some (a 9, .inl (cI, 130, .inl (g 9))) := rfl
theorem wM_10 (a : Nat → Nat) (cI cZ : ClassId) (g : St) : (wM a cI cZ g)[10]? = some (a 10, .inl (cI, 130, .inl (g 10))) := rfl
theorem wM_11 (a : Nat → Nat) (cI cZ : ClassId) (g : St) : (wM a cI cZ g)[11]? = some (a 11, .inl (cZ, 130, .inl (g 11))) := rfl
theorem wM_12 (a : Nat → Nat) (cI cZ : ClassId) (g : St) : (wM a cI cZ g)[12]? = some (a 12, .inl (cI, 260, .inl (g 12))) := rfl
theorem wM_13 (a : Nat → Nat) (cI cZ : ClassId) (g : St) : (wM a cI cZ g)[13]? = some (a 13, .inl (cI, 60, .inl (g 13))) := rfl
theorem wM_14 (a : Nat → Nat) (cI cZ : ClassId) (g : St) : (wM a cI cZ g)[14]? = some (a 14, .inl (cI, 60, .inl (g 14))) := rfl
theorem wM_15 (a : Nat → Nat) (cI cZ : ClassId) (g : St) : (wM a cI cZ g)[15]? = some (a 15, .inl (cI, 60, .inl (g 15))) := rfl
end
