section
/-! Numbers of the machine by whole numbers: iI z, jI z. Sums and products keep (they wrap alike); compares need sizes. -/
def iI (z : Int) : Int32 := Int32.ofInt z
def jI (z : Int) : Int64 := Int64.ofInt z
/-- the state of a side: cell by cell, place by place -/
abbrev St : Type := Nat → Nat → Int32
def gp (g : St) (k j : Nat) (v : Int32) : St := va_up g k (upd (g k) j v)
abbrev ix (i : Int32) : Nat := i.toNatClampNeg
theorem iI_nI (n : Nat) : iI (n : Int) = nI n := Int32.ofInt_eq_ofNat
theorem jI_lN (n : Nat) : jI (n : Int) = lN n := Int64.ofInt_eq_ofNat
theorem iI_add (a b : Int) : iI a + iI b = iI (a + b) := (Int32.ofInt_add a b).symm
theorem iI_sub (a b : Int) : iI a - iI b = iI (a - b) := (Int32.ofInt_sub a b).symm
theorem iI_mul (a b : Int) : iI a * iI b = iI (a * b) := (Int32.ofInt_mul a b).symm
theorem jI_add (a b : Int) : jI a + jI b = jI (a + b) := (Int64.ofInt_add a b).symm
theorem jI_sub (a b : Int) : jI a - jI b = jI (a - b) := (Int64.ofInt_sub a b).symm
theorem jI_mul (a b : Int) : jI a * jI b = jI (a * b) := (Int64.ofInt_mul a b).symm
theorem jI_neg (a : Int) : -jI a = jI (-a) := (Int64.ofInt_neg a).symm
theorem iI_toInt {a : Int} (h1 : -2147483648 ≤ a) (h2 : a < 2147483648) : (iI a).toInt = a := Int32.toInt_ofInt_of_le (by omega) (by omega)
theorem jI_toInt {a : Int} (h1 : -9223372036854775808 ≤ a) (h2 : a < 9223372036854775808) : (jI a).toInt = a := Int64.toInt_ofInt_of_le (by omega) (by omega)
theorem iI_lt {a b : Int} (h1 : -2147483648 ≤ a) (h2 : a < 2147483648) (h3 : -2147483648 ≤ b) (h4 : b < 2147483648) : iI a < iI b ↔ a < b := by
  rw [Int32.lt_iff_toInt_lt, iI_toInt h1 h2, iI_toInt h3 h4]
theorem iI_le {a b : Int} (h1 : -2147483648 ≤ a) (h2 : a < 2147483648) (h3 : -2147483648 ≤ b) (h4 : b < 2147483648) : iI a ≤ iI b ↔ a ≤ b := by
  rw [Int32.le_iff_toInt_le, iI_toInt h1 h2, iI_toInt h3 h4]
theorem iI_eq {a b : Int} (h1 : -2147483648 ≤ a) (h2 : a < 2147483648) (h3 : -2147483648 ≤ b) (h4 : b < 2147483648) : iI a = iI b ↔ a = b := by
  rw [← Int32.toInt_inj, iI_toInt h1 h2, iI_toInt h3 h4]
theorem jI_lt {a b : Int} (h1 : -9223372036854775808 ≤ a) (h2 : a < 9223372036854775808) (h3 : -9223372036854775808 ≤ b) (h4 : b < 9223372036854775808) : jI a < jI b ↔ a < b := by
  rw [Int64.lt_iff_toInt_lt, jI_toInt h1 h2, jI_toInt h3 h4]
theorem jI_le {a b : Int} (h1 : -9223372036854775808 ≤ a) (h2 : a < 9223372036854775808) (h3 : -9223372036854775808 ≤ b) (h4 : b < 9223372036854775808) : jI a ≤ jI b ↔ a ≤ b := by
  rw [Int64.le_iff_toInt_le, jI_toInt h1 h2, jI_toInt h3 h4]
theorem jI_eq {a b : Int} (h1 : -9223372036854775808 ≤ a) (h2 : a < 9223372036854775808) (h3 : -9223372036854775808 ≤ b) (h4 : b < 9223372036854775808) : jI a = jI b ↔ a = b := by
  rw [← Int64.toInt_inj, jI_toInt h1 h2, jI_toInt h3 h4]
theorem iI_long {a : Int} (h1 : -2147483648 ≤ a) (h2 : a < 2147483648) : (iI a).toInt64 = jI a := by
  rw [← Int64.toInt_inj, Int32.toInt_toInt64, iI_toInt h1 h2, jI_toInt (by omega) (by omega)]
theorem jI_int (a : Int) : (jI a).toInt32 = iI a := Int64.toInt32_ofInt
theorem iI_in {a : Int} {n : Nat} (h1 : 0 ≤ a) (h2 : a < n) (hn : n < 2147483648) : vp_in (iI a) n := by
  rw [vp_in_iff, iI_toInt (by omega) (by omega)]
  exact ⟨h1, h2⟩
theorem iI_ix {a : Int} (h1 : 0 ≤ a) (h2 : a < 2147483648) : ix (iI a) = a.toNat := by
  obtain ⟨n, rfl⟩ := Int.eq_ofNat_of_zero_le h1
  rw [iI_nI]
  exact nI_clamp (by omega)
/-- any int is one -/
theorem iI_any (x : Int32) : ∃ a : Int, -2147483648 ≤ a ∧ a < 2147483648 ∧ x = iI a := ⟨x.toInt, Int32.le_toInt x, Int32.toInt_lt x, (Int32.ofInt_toInt x).symm⟩
/-- the sign of a compare of longs -/
theorem jI_cmp {a b : Int} (h1 : -9223372036854775808 ≤ a) (h2 : a < 9223372036854775808) (h3 : -9223372036854775808 ≤ b) (h4 : b < 9223372036854775808) : lg_cmp (jI a) (jI b) = if b < a then 1 else if a = b then 0 else (-1) := by
  unfold lg_cmp
  by_cases h : b < a
  · rw [if_pos ((jI_lt h3 h4 h1 h2).mpr h), if_pos h]
  · rw [if_neg (fun q => h ((jI_lt h3 h4 h1 h2).mp q)), if_neg h]
    by_cases h5 : a = b
    · rw [if_pos (congrArg jI h5), if_pos h5]
    · rw [if_neg (fun q => h5 ((jI_eq h1 h2 h3 h4).mp q)), if_neg h5]
theorem iI_div {a b : Int} (h1 : 0 ≤ a) (h2 : a < 2147483648) (h3 : 0 < b) (h4 : b < 2147483648) : iI a / iI b = iI (a / b) := by
  obtain ⟨m, rfl⟩ := Int.eq_ofNat_of_zero_le h1
  obtain ⟨d, rfl⟩ := Int.eq_ofNat_of_zero_le (Int.le_of_lt h3)
  rw [iI_nI, iI_nI, pk_div (by omega) (by omega) (by omega), ← iI_nI]
  rfl
end
section
/-! Geometry of promise 4, whole numbers alone: the empty circle rule, read as the sign of ONE determinant over a lift whose ties are broken by weights; two triangles to the right of one directed edge are one; at most 27 triangles. Nothing here speaks of the machine. -/
section
variable (X Y : Nat → Int)
/-- the turn of three spots -/
def ge_t (X Y : Nat → Int) (a b c : Nat) : Int := (X b - X a) * (Y c - Y a) - (Y b - Y a) * (X c - X a)
/-- the square of a distance -/
def ge_q (X Y : Nat → Int) (a b : Nat) : Int := (X a - X b) * (X a - X b) + (Y a - Y b) * (Y a - Y b)
/-- the circle's determinant -/
def ge_i (X Y : Nat → Int) (a b c d : Nat) : Int := ge_q X Y a d * ge_t X Y d b c - ge_q X Y b d * ge_t X Y d a c + ge_q X Y c d * ge_t X Y d a b
/-- the determinant of four lifted places -/
def ge_D (X Y : Nat → Int) (L : Nat → Int) (a b c d : Nat) : Int := L a * ge_t X Y b c d - L b * ge_t X Y a c d + L c * ge_t X Y a b d - L d * ge_t X Y a b c
def ge_K : Int := 40000 ^ 18
def ge_w (v : Nat) : Int := 40000 ^ (17 - v)
/-- the lift, with the weights that break ties -/
def ge_L (X Y : Nat → Int) (v : Nat) : Int := ge_K * (X v * X v + Y v * Y v) + ge_w v
def ge_E (X Y : Nat → Int) (a b c d : Nat) : Int := ge_D X Y (ge_L X Y) a b c d
def ge_dep (X Y : Nat → Int) (a b c d : Nat) : Int := if 0 < ge_t X Y a b c then ge_i X Y a b c d else -ge_i X Y a b c d
/-- d is in the circle through a < b < c -/
def ge_In (X Y : Nat → Int) (a b c d : Nat) : Prop := 0 < ge_dep X Y a b c d ∨ (ge_dep X Y a b c d = 0 ∧ a < d ∧ ((0 < ge_t X Y a d b) ↔ (0 < ge_t X Y a d c)))
/-- d is out of the circle through a, b, c, whatever their order -/
def ge_out (X Y : Nat → Int) (a b c d : Nat) : Prop := (0 < ge_t X Y a b c → ge_E X Y a b c d < 0) ∧ (ge_t X Y a b c < 0 → 0 < ge_E X Y a b c d)
/-- n spots, as the document has them -/
def ge_ok (X Y : Nat → Int) (n : Nat) : Prop := n ≤ 16 ∧ (∀ v, v < n → 0 ≤ X v ∧ X v ≤ 63 ∧ 0 ≤ Y v ∧ Y v ≤ 63) ∧ ∀ u v, u < n → v < n → X u = X v → Y u = Y v → u = v
def ge_tri (X Y : Nat → Int) (n a b c : Nat) : Prop := a < b ∧ b < c ∧ c < n ∧ ge_t X Y a b c ≠ 0 ∧ ∀ d, d < n → d ≠ a → d ≠ b → d ≠ c → ¬ ge_In X Y a b c d
/-- the same, whatever the order -/
def ge_T (X Y : Nat → Int) (n a b c : Nat) : Prop := a < n ∧ b < n ∧ c < n ∧ ge_t X Y a b c ≠ 0 ∧ ∀ d, d < n → d ≠ a → d ≠ b → d ≠ c → ge_out X Y a b c d
end
theorem ge_t_rot (X Y : Nat → Int) (a b c : Nat) : ge_t X Y b c a = ge_t X Y a b c := by unfold ge_t; grind
theorem ge_t_sw (X Y : Nat → Int) (a b c : Nat) : ge_t X Y a c b = -ge_t X Y a b c := by unfold ge_t; grind
theorem ge_t_sum (X Y : Nat → Int) (a b c d : Nat) : ge_t X Y b c d - ge_t X Y a c d + ge_t X Y a b d - ge_t X Y a b c = 0 := by unfold ge_t; grind
theorem ge_D_rot (X Y L : Nat → Int) (a b c d : Nat) : ge_D X Y L b c a d = ge_D X Y L a b c d := by
  unfold ge_D ge_t; grind
theorem ge_D_sw (X Y L : Nat → Int) (a b c d : Nat) : ge_D X Y L a c b d = -ge_D X Y L a b c d := by unfold ge_D ge_t; grind
theorem ge_D_sw3 (X Y L : Nat → Int) (a b c d : Nat) : ge_D X Y L a b d c = -ge_D X Y L a b c d := by unfold ge_D ge_t; grind
theorem ge_iz (X Y : Nat → Int) (a b c d z : Nat) : ge_i X Y a b c d = ge_t X Y b c d * ge_q X Y a z - ge_t X Y a c d * ge_q X Y b z + ge_t X Y a b d * ge_q X Y c z - ge_t X Y a b c * ge_q X Y d z := by
  unfold ge_i ge_q ge_t; grind
theorem ge_E_split (X Y : Nat → Int) (a b c d : Nat) : ge_E X Y a b c d = ge_K * ge_i X Y a b c d + ge_D X Y ge_w a b c d := by
  unfold ge_E ge_D ge_L ge_i ge_q ge_t; grind
/-! signs -/
theorem ge_neg3 {p q r s1 s2 s3 : Int} (h1 : 0 < s1) (h2 : 0 < s2) (h3 : 0 < s3) (hp : p ≤ 0) (hq : q ≤ 0) (hr : r ≤ 0) (e : p * s1 + q * s2 + r * s3 = 0) : p = 0 ∧ q = 0 ∧ r = 0 := by
  have a1 : 0 ≤ (-p) * s1 := Int.mul_nonneg (by omega) (by omega)
  have a2 : 0 ≤ (-q) * s2 := Int.mul_nonneg (by omega) (by omega)
  have a3 : 0 ≤ (-r) * s3 := Int.mul_nonneg (by omega) (by omega)
  rw [Int.neg_mul] at a1 a2 a3
  have b1 : p * s1 = 0 := by omega
  have b2 : q * s2 = 0 := by omega
  have b3 : r * s3 = 0 := by omega
  refine ⟨?_, ?_, ?_⟩
  · rcases Int.mul_eq_zero.mp b1 with h | h <;> omega
  · rcases Int.mul_eq_zero.mp b2 with h | h <;> omega
  · rcases Int.mul_eq_zero.mp b3 with h | h <;> omega
theorem ge_pos3 {p q r s1 s2 s3 : Int} (h1 : 0 < s1) (h2 : 0 < s2) (h3 : 0 < s3) (hp : 0 ≤ p) (hq : 0 ≤ q) (hr : 0 ≤ r) (e : p * s1 + q * s2 + r * s3 = 0) : p = 0 ∧ q = 0 ∧ r = 0 := by
  have h := ge_neg3 (p := -p) (q := -q) (r := -r) h1 h2 h3 (by omega) (by omega) (by omega) (by rw [Int.neg_mul, Int.neg_mul, Int.neg_mul]; omega)
  omega
/-- four different places on one circle: two of the four numbers are more than 0 and two less -/
theorem ge_22 {α β γ δ sab sac sad sbc sbd scd : Int} (hab : 0 < sab) (hac : 0 < sac) (had : 0 < sad) (hbc : 0 < sbc) (hbd : 0 < sbd) (hcd : 0 < scd) (hs : α + β + γ + δ = 0)
    (za : β * sab + γ * sac + δ * sad = 0) (zb : α * sab + γ * sbc + δ * sbd = 0) (zc : α * sac + β * sbc + δ * scd = 0) (zd : α * sad + β * sbd + γ * scd = 0) (hd : δ ≠ 0) :
    α ≠ 0 ∧ β ≠ 0 ∧ γ ≠ 0 ∧ ((0 < α ↔ 0 < δ) ↔ (0 < β ↔ 0 < γ)) := by
  have nA : ¬ (β ≤ 0 ∧ γ ≤ 0 ∧ δ ≤ 0) := fun ⟨x, y, z⟩ => hd (ge_neg3 hab hac had x y z za).2.2
  have pA : ¬ (0 ≤ β ∧ 0 ≤ γ ∧ 0 ≤ δ) := fun ⟨x, y, z⟩ => hd (ge_pos3 hab hac had x y z za).2.2
  have nB : ¬ (α ≤ 0 ∧ γ ≤ 0 ∧ δ ≤ 0) := fun ⟨x, y, z⟩ => hd (ge_neg3 hab hbc hbd x y z zb).2.2
  have pB : ¬ (0 ≤ α ∧ 0 ≤ γ ∧ 0 ≤ δ) := fun ⟨x, y, z⟩ => hd (ge_pos3 hab hbc hbd x y z zb).2.2
  have nC : ¬ (α ≤ 0 ∧ β ≤ 0 ∧ δ ≤ 0) := fun ⟨x, y, z⟩ => hd (ge_neg3 hac hbc hcd x y z zc).2.2
  have pC : ¬ (0 ≤ α ∧ 0 ≤ β ∧ 0 ≤ δ) := fun ⟨x, y, z⟩ => hd (ge_pos3 hac hbc hcd x y z zc).2.2
  have nD : ¬ (α ≤ 0 ∧ β ≤ 0 ∧ γ ≤ 0) := fun ⟨x, y, z⟩ => by
    have := ge_neg3 had hbd hcd x y z zd
    omega
  have pD : ¬ (0 ≤ α ∧ 0 ≤ β ∧ 0 ≤ γ) := fun ⟨x, y, z⟩ => by
    have := ge_pos3 had hbd hcd x y z zd
    omega
  clear za zb zc zd
  refine ⟨by omega, by omega, by omega, ?_⟩
  by_cases a1 : 0 < α <;> by_cases a2 : 0 < β <;> by_cases a3 : 0 < γ <;> by_cases a4 : 0 < δ <;> simp only [a1, a2, a3, a4, iff_self, true_iff, iff_true, false_iff, iff_false, not_true, not_false_iff] <;> omega
/-! sizes -/
theorem ge_mb {x y : Int} (h1 : -63 ≤ x) (h2 : x ≤ 63) (h3 : -63 ≤ y) (h4 : y ≤ 63) : -3969 ≤ x * y ∧ x * y ≤ 3969 := by
  have a := Int.mul_nonneg (a := 63 - x) (b := 63 + y) (by omega) (by omega)
  have b := Int.mul_nonneg (a := 63 + x) (b := 63 - y) (by omega) (by omega)
  have c := Int.mul_nonneg (a := 63 - x) (b := 63 - y) (by omega) (by omega)
  have d := Int.mul_nonneg (a := 63 + x) (b := 63 + y) (by omega) (by omega)
  simp only [Int.sub_mul, Int.mul_sub, Int.add_mul, Int.mul_add] at a b c d
  omega
theorem ge_t_b {X Y : Nat → Int} {n : Nat} (h : ge_ok X Y n) {a b c : Nat} (ha : a < n) (hb : b < n) (hc : c < n) : -7938 ≤ ge_t X Y a b c ∧ ge_t X Y a b c ≤ 7938 := by
  obtain ⟨a1, a2, a3, a4⟩ := h.2.1 a ha
  obtain ⟨b1, b2, b3, b4⟩ := h.2.1 b hb
  obtain ⟨c1, c2, c3, c4⟩ := h.2.1 c hc
  have p := ge_mb (x := X b - X a) (y := Y c - Y a) (by omega) (by omega) (by omega) (by omega)
  have q := ge_mb (x := Y b - Y a) (y := X c - X a) (by omega) (by omega) (by omega) (by omega)
  unfold ge_t
  omega
theorem ge_sqpos {x y : Int} (h : ¬ (x = 0 ∧ y = 0)) : 0 < x * x + y * y := by
  have a : 0 ≤ x * x := by rcases Int.le_total 0 x with h | h; exact Int.mul_nonneg h h; exact Int.mul_nonneg_of_nonpos_of_nonpos h h
  have b : 0 ≤ y * y := by rcases Int.le_total 0 y with h | h; exact Int.mul_nonneg h h; exact Int.mul_nonneg_of_nonpos_of_nonpos h h
  by_cases hx : x * x = 0
  · by_cases hy : y * y = 0
    · refine absurd ⟨?_, ?_⟩ h
      · rcases Int.mul_eq_zero.mp hx with h | h <;> exact h
      · rcases Int.mul_eq_zero.mp hy with h | h <;> exact h
    · omega
  · omega
theorem ge_q_pos {X Y : Nat → Int} {n : Nat} (h : ge_ok X Y n) {a b : Nat} (ha : a < n) (hb : b < n) (hab : a ≠ b) : 0 < ge_q X Y a b := by
  unfold ge_q
  exact ge_sqpos (fun ⟨h1, h2⟩ => hab (h.2.2 a b ha hb (by omega) (by omega)))
theorem ge_q_sym (X Y : Nat → Int) (a b : Nat) : ge_q X Y a b = ge_q X Y b a := by unfold ge_q; grind
theorem ge_q_self (X Y : Nat → Int) (a : Nat) : ge_q X Y a a = 0 := by unfold ge_q; grind
theorem ge_w_lt : ∀ v, v < 17 → ∀ u, u < 17 → v < u → 40000 * ge_w u ≤ ge_w v := by decide +kernel
theorem ge_w_pos : ∀ v, v < 17 → 0 < ge_w v := by decide +kernel
theorem ge_w_K : ∀ v, v < 17 → 40000 * ge_w v ≤ ge_K := by decide +kernel
/-- a bounded factor -/
theorem ge_wt {w t : Int} (hw : 0 < w) (h1 : -7938 ≤ t) (h2 : t ≤ 7938) : -(7938 * w) ≤ w * t ∧ w * t ≤ 7938 * w := by
  have a := Int.mul_nonneg (a := w) (b := t + 7938) (by omega) (by omega)
  have b := Int.mul_nonneg (a := w) (b := 7938 - t) (by omega) (by omega)
  simp only [Int.mul_sub, Int.mul_add] at a b
  omega
theorem ge_big {w t : Int} (hw : 0 < w) (h : 1 ≤ t) : w ≤ w * t := by
  have a := Int.mul_nonneg (a := w) (b := t - 1) (by omega) (by omega)
  simp only [Int.mul_sub] at a
  omega
theorem ge_small {w t : Int} (hw : 0 < w) (h : t ≤ -1) : w * t ≤ -w := by
  have a := Int.mul_nonneg (a := w) (b := -1 - t) (by omega) (by omega)
  simp only [Int.mul_sub] at a
  omega
/-- on the circle: the four turns -/
theorem ge_circ {X Y : Nat → Int} {n : Nat} (h : ge_ok X Y n) {a b c d : Nat} (ha : a < n) (hb : b < n) (hc : c < n) (hd : d < n) (hab : a ≠ b) (hac : a ≠ c) (had : a ≠ d) (hbc : b ≠ c) (hbd : b ≠ d) (hcd : c ≠ d)
    (ht : ge_t X Y a b c ≠ 0) (hi : ge_i X Y a b c d = 0) :
    ge_t X Y b c d ≠ 0 ∧ ge_t X Y a c d ≠ 0 ∧ ge_t X Y a b d ≠ 0 ∧ ((0 < ge_t X Y b c d ↔ ge_t X Y a b c < 0) ↔ (ge_t X Y a c d < 0 ↔ 0 < ge_t X Y a b d)) := by
  have e := ge_t_sum X Y a b c d
  have za := ge_iz X Y a b c d a
  have zb := ge_iz X Y a b c d b
  have zc := ge_iz X Y a b c d c
  have zd := ge_iz X Y a b c d d
  rw [hi, ge_q_self, Int.mul_zero] at za zb zc zd
  rw [ge_q_sym X Y b a, ge_q_sym X Y c a, ge_q_sym X Y d a] at za
  rw [ge_q_sym X Y c b, ge_q_sym X Y d b] at zb
  rw [ge_q_sym X Y d c] at zc
  have r := ge_22 (α := ge_t X Y b c d) (β := -ge_t X Y a c d) (γ := ge_t X Y a b d) (δ := -ge_t X Y a b c) (ge_q_pos h ha hb hab) (ge_q_pos h ha hc hac) (ge_q_pos h ha hd had) (ge_q_pos h hb hc hbc) (ge_q_pos h hb hd hbd) (ge_q_pos h hc hd hcd)
    (by omega) (by rw [Int.neg_mul, Int.neg_mul]; omega) (by rw [Int.neg_mul]; omega) (by rw [Int.neg_mul, Int.neg_mul]; omega) (by rw [Int.neg_mul]; omega) (by omega)
  obtain ⟨r1, r2, r3, r4⟩ := r
  refine ⟨r1, by omega, r3, ?_⟩
  have e1 : (0 < -ge_t X Y a b c) ↔ ge_t X Y a b c < 0 := by omega
  have e2 : (0 < -ge_t X Y a c d) ↔ ge_t X Y a c d < 0 := by omega
  rw [e1, e2] at r4
  exact r4
theorem ge_sg {x y : Int} (hx : x ≠ 0) (hy : y ≠ 0) : (x < 0 ↔ 0 < y) ↔ ¬ (y < 0 ↔ x < 0) := by
  rcases Int.lt_or_lt_of_ne hx with p | p <;> rcases Int.lt_or_lt_of_ne hy with q | q
  · exact ⟨fun h => absurd (h.mp p) (by omega), fun h => absurd ⟨fun _ => p, fun _ => q⟩ h⟩
  · exact ⟨fun _ h => absurd (h.mpr p) (by omega), fun _ => ⟨fun _ => q, fun _ => p⟩⟩
  · exact ⟨fun _ h => absurd (h.mp q) (by omega), fun _ => ⟨fun w => absurd w (by omega), fun w => absurd w (by omega)⟩⟩
  · exact ⟨fun h => absurd (h.mpr q) (by omega), fun h => absurd ⟨fun w => absurd w (by omega), fun w => absurd w (by omega)⟩ h⟩
/-- the rule of the document is the sign of the one determinant -/
theorem ge_inE {X Y : Nat → Int} {n : Nat} (h : ge_ok X Y n) {a b c d : Nat} (hab : a < b) (hbc : b < c) (hc : c < n) (hd : d < n) (had : d ≠ a) (hbd : d ≠ b) (hcd : d ≠ c) (ht : ge_t X Y a b c ≠ 0) :
    (¬ ge_In X Y a b c d) ↔ ge_out X Y a b c d := by
  have hn := h.1
  have ha : a < n := by omega
  have hb : b < n := by omega
  have k1 := ge_t_b h hb hc hd
  have k2 := ge_t_b h ha hc hd
  have k3 := ge_t_b h ha hb hd
  have k4 := ge_t_b h ha hb hc
  have wa := ge_w_pos a (by omega)
  have wb := ge_w_pos b (by omega)
  have wc := ge_w_pos c (by omega)
  have wd := ge_w_pos d (by omega)
  have m1 := ge_wt wa k1.1 k1.2
  have m2 := ge_wt wb k2.1 k2.2
  have m3 := ge_wt wc k3.1 k3.2
  have m4 := ge_wt wd k4.1 k4.2
  have Ka := ge_w_K a (by omega)
  have Kb := ge_w_K b (by omega)
  have Kc := ge_w_K c (by omega)
  have Kd := ge_w_K d (by omega)
  have ab := ge_w_lt a (by omega) b (by omega) hab
  have ac := ge_w_lt a (by omega) c (by omega) (by omega)
  have hE := ge_E_split X Y a b c d
  have hD : ge_D X Y ge_w a b c d = ge_w a * ge_t X Y b c d - ge_w b * ge_t X Y a c d + ge_w c * ge_t X Y a b d - ge_w d * ge_t X Y a b c := rfl
  rw [hD] at hE
  have Kp : 0 < ge_K := by decide +kernel
  have e1 : (0 < ge_t X Y a d b) ↔ ge_t X Y a b d < 0 := by rw [ge_t_sw X Y a b d]; omega
  have e2 : (0 < ge_t X Y a d c) ↔ ge_t X Y a c d < 0 := by rw [ge_t_sw X Y a c d]; omega
  generalize hi : ge_i X Y a b c d = i at hE
  have dep : ge_dep X Y a b c d = if 0 < ge_t X Y a b c then i else -i := by unfold ge_dep; rw [hi]
  unfold ge_In
  rw [dep, e1, e2]
  rcases Int.lt_or_lt_of_ne ht with t | t
  · rw [if_neg (by omega)]
    have out : ge_out X Y a b c d ↔ 0 < ge_E X Y a b c d := ⟨fun h => h.2 t, fun h => ⟨fun q => absurd q (by omega), fun _ => h⟩⟩
    rw [out]
    rcases Int.lt_trichotomy i 0 with i1 | i1 | i1
    · have q := ge_small Kp (show i ≤ -1 by omega)
      have E0 : ge_E X Y a b c d < 0 := by omega
      exact ⟨fun w => absurd (Or.inl (by omega)) w, fun w => absurd w (by omega)⟩
    · subst i1
      obtain ⟨n1, n2, n3, n4⟩ := ge_circ h ha hb hc hd (by omega) (by omega) (by omega) (by omega) (by omega) (by omega) ht hi
      rw [Int.mul_zero] at hE
      rcases Nat.lt_or_ge d a with l | l
      · have da := ge_w_lt d (by omega) a (by omega) l
        have q := ge_small wd (show ge_t X Y a b c ≤ -1 by omega)
        have E0 : 0 < ge_E X Y a b c d := by omega
        exact ⟨fun _ => E0, fun _ w => by rcases w with w | w; omega; exact absurd w.2.1 (by omega)⟩
      · have ad := ge_w_lt a (by omega) d (by omega) (by omega)
        have sg := ge_sg n2 n3
        rcases Int.lt_or_lt_of_ne n1 with u | u
        · have q := ge_small wa (show ge_t X Y b c d ≤ -1 by omega)
          have E0 : ge_E X Y a b c d < 0 := by omega
          have ne : ¬ (ge_t X Y a c d < 0 ↔ 0 < ge_t X Y a b d) := fun w => absurd ((n4.mpr w).mpr t) (by omega)
          have same := Classical.not_not.mp (fun w => ne (sg.mpr w))
          exact ⟨fun w => absurd (Or.inr ⟨by omega, by omega, same⟩) w, fun w => absurd w (by omega)⟩
        · have q := ge_big wa (show 1 ≤ ge_t X Y b c d by omega)
          have E0 : 0 < ge_E X Y a b c d := by omega
          have eq := n4.mp ⟨fun _ => t, fun _ => u⟩
          exact ⟨fun _ => E0, fun _ w => by rcases w with w | w; omega; exact sg.mp eq w.2.2⟩
    · have q := ge_big Kp (show 1 ≤ i by omega)
      have E0 : 0 < ge_E X Y a b c d := by omega
      exact ⟨fun _ => E0, fun _ w => by rcases w with w | w; omega; exact absurd w.1 (by omega)⟩
  · rw [if_pos t]
    have out : ge_out X Y a b c d ↔ ge_E X Y a b c d < 0 := ⟨fun h => h.1 t, fun h => ⟨fun _ => h, fun q => absurd q (by omega)⟩⟩
    rw [out]
    rcases Int.lt_trichotomy i 0 with i1 | i1 | i1
    · have q := ge_small Kp (show i ≤ -1 by omega)
      have E0 : ge_E X Y a b c d < 0 := by omega
      exact ⟨fun _ => E0, fun _ w => by rcases w with w | w; omega; exact absurd w.1 (by omega)⟩
    · subst i1
      obtain ⟨n1, n2, n3, n4⟩ := ge_circ h ha hb hc hd (by omega) (by omega) (by omega) (by omega) (by omega) (by omega) ht hi
      rw [Int.mul_zero] at hE
      rcases Nat.lt_or_ge d a with l | l
      · have da := ge_w_lt d (by omega) a (by omega) l
        have q := ge_big wd (show 1 ≤ ge_t X Y a b c by omega)
        have E0 : ge_E X Y a b c d < 0 := by omega
        exact ⟨fun _ => E0, fun _ w => by rcases w with w | w; omega; exact absurd w.2.1 (by omega)⟩
      · have ad := ge_w_lt a (by omega) d (by omega) (by omega)
        have sg := ge_sg n2 n3
        rcases Int.lt_or_lt_of_ne n1 with u | u
        · have q := ge_small wa (show ge_t X Y b c d ≤ -1 by omega)
          have E0 : ge_E X Y a b c d < 0 := by omega
          have eq := n4.mp ⟨fun w => absurd w (by omega), fun w => absurd w (by omega)⟩
          exact ⟨fun _ => E0, fun _ w => by rcases w with w | w; omega; exact sg.mp eq w.2.2⟩
        · have q := ge_big wa (show 1 ≤ ge_t X Y b c d by omega)
          have E0 : 0 < ge_E X Y a b c d := by omega
          have ne : ¬ (ge_t X Y a c d < 0 ↔ 0 < ge_t X Y a b d) := fun w => absurd ((n4.mpr w).mp u) (by omega)
          have same := Classical.not_not.mp (fun w => ne (sg.mpr w))
          exact ⟨fun w => absurd (Or.inr ⟨by omega, by omega, same⟩) w, fun w => absurd w (by omega)⟩
    · have q := ge_big Kp (show 1 ≤ i by omega)
      have E0 : 0 < ge_E X Y a b c d := by omega
      exact ⟨fun w => absurd (Or.inl (by omega)) w, fun w => absurd w (by omega)⟩
/-! triangles in any order -/
theorem ge_out_rot {X Y : Nat → Int} {a b c d : Nat} : ge_out X Y b c a d ↔ ge_out X Y a b c d := by
  unfold ge_out ge_E; rw [ge_t_rot, ge_D_rot]
theorem ge_out_sw {X Y : Nat → Int} {a b c d : Nat} : ge_out X Y a c b d ↔ ge_out X Y a b c d := by
  unfold ge_out ge_E; rw [ge_t_sw, ge_D_sw]; omega
theorem ge_T_rot {X Y : Nat → Int} {n a b c : Nat} (h : ge_T X Y n a b c) : ge_T X Y n b c a := by
  obtain ⟨h1, h2, h3, h4, h5⟩ := h
  exact ⟨h2, h3, h1, by rw [ge_t_rot]; exact h4, fun d e1 e2 e3 e4 => ge_out_rot.mpr (h5 d e1 e4 e2 e3)⟩
theorem ge_T_sw {X Y : Nat → Int} {n a b c : Nat} (h : ge_T X Y n a b c) : ge_T X Y n a c b := by
  obtain ⟨h1, h2, h3, h4, h5⟩ := h
  exact ⟨h1, h3, h2, by rw [ge_t_sw]; omega, fun d e1 e2 e3 e4 => ge_out_sw.mpr (h5 d e1 e2 e4 e3)⟩
theorem ge_T_of {X Y : Nat → Int} {n : Nat} (h : ge_ok X Y n) {a b c : Nat} (t : ge_tri X Y n a b c) : ge_T X Y n a b c := by
  obtain ⟨h1, h2, h3, h4, h5⟩ := t
  exact ⟨by omega, by omega, h3, h4, fun d e1 e2 e3 e4 => (ge_inE h h1 h2 h3 e1 e2 e3 e4 h4).mp (h5 d e1 e2 e3 e4)⟩
theorem ge_tri_of {X Y : Nat → Int} {n : Nat} (h : ge_ok X Y n) {a b c : Nat} (t : ge_T X Y n a b c) (h1 : a < b) (h2 : b < c) : ge_tri X Y n a b c := by
  obtain ⟨-, -, h3, h4, h5⟩ := t
  exact ⟨h1, h2, h3, h4, fun d e1 e2 e3 e4 => (ge_inE h h1 h2 h3 e1 e2 e3 e4 h4).mpr (h5 d e1 e2 e3 e4)⟩
theorem ge_t_ne {X Y : Nat → Int} {a b c : Nat} (h : ge_t X Y a b c ≠ 0) : a ≠ b ∧ a ≠ c ∧ b ≠ c := by
  refine ⟨?_, ?_, ?_⟩ <;> (intro e; subst e; apply h; unfold ge_t; grind)
/-- one triangle at most to the right of who goes from a to b -/
theorem ge_right {X Y : Nat → Int} {n a b c d : Nat} (h1 : ge_T X Y n a b c) (h2 : ge_T X Y n a b d) (t1 : ge_t X Y a b c < 0) (t2 : ge_t X Y a b d < 0) : c = d := by
  refine Classical.byContradiction fun hne => ?_
  have n1 := ge_t_ne h1.2.2.2.1
  have n2 := ge_t_ne h2.2.2.2.1
  have p := (h1.2.2.2.2 d h2.2.2.1 (Ne.symm n2.2.1) (Ne.symm n2.2.2) (Ne.symm hne)).2 t1
  have q := (h2.2.2.2.2 c h1.2.2.1 (Ne.symm n1.2.1) (Ne.symm n1.2.2) hne).2 t2
  unfold ge_E at p q
  rw [ge_D_sw3] at q
  omega
/-! the sweep: a place by kx x + ky y; a triangle is told by its middle spot and its side -/
def ge_k (kx ky : Int) (X Y : Nat → Int) (v : Nat) : Int := kx * X v + ky * Y v
theorem ge_D_0 (X Y L : Nat → Int) (a b c : Nat) : ge_D X Y L a b c a = 0 ∧ ge_D X Y L a b c b = 0 ∧ ge_D X Y L a b c c = 0 := by
  refine ⟨?_, ?_, ?_⟩ <;> (unfold ge_D ge_t; grind)
/-- the one identity -/
theorem ge_plk (px py qx qy rx ry sx sy lp lq lr ls kx ky : Int) :
    (kx * qx + ky * qy) * (-lr * (sx * py - sy * px) + ls * (rx * py - ry * px) - lp * (rx * sy - ry * sx)) - (kx * px + ky * py) * (-lr * (sx * qy - sy * qx) + ls * (rx * qy - ry * qx) - lq * (rx * sy - ry * sx))
    = -(kx * sx + ky * sy) * (-lp * (qx * ry - qy * rx) + lq * (px * ry - py * rx) - lr * (px * qy - py * qx)) + (kx * rx + ky * ry) * (-lp * (qx * sy - qy * sx) + lq * (px * sy - py * sx) - ls * (px * qy - py * qx)) := by grind
theorem ge_D_rel (X Y L : Nat → Int) (m p q v : Nat) : ge_D X Y L m p q v = -(L p - L m) * ((X q - X m) * (Y v - Y m) - (Y q - Y m) * (X v - X m)) + (L q - L m) * ((X p - X m) * (Y v - Y m) - (Y p - Y m) * (X v - X m)) - (L v - L m) * ((X p - X m) * (Y q - Y m) - (Y p - Y m) * (X q - X m)) := by
  unfold ge_D ge_t; grind
theorem ge_over_id (kx ky : Int) (X Y L : Nat → Int) (m p q r s : Nat) :
    (ge_k kx ky X Y q - ge_k kx ky X Y m) * ge_D X Y L m r s p - (ge_k kx ky X Y p - ge_k kx ky X Y m) * ge_D X Y L m r s q
    = -(ge_k kx ky X Y s - ge_k kx ky X Y m) * ge_D X Y L m p q r + (ge_k kx ky X Y r - ge_k kx ky X Y m) * ge_D X Y L m p q s := by
  rw [ge_D_rel X Y L m r s p, ge_D_rel X Y L m r s q, ge_D_rel X Y L m p q r, ge_D_rel X Y L m p q s]
  have h := ge_plk (X p - X m) (Y p - Y m) (X q - X m) (Y q - Y m) (X r - X m) (Y r - Y m) (X s - X m) (Y s - Y m) (L p - L m) (L q - L m) (L r - L m) (L s - L m) kx ky
  have e : ∀ v, ge_k kx ky X Y v - ge_k kx ky X Y m = kx * (X v - X m) + ky * (Y v - Y m) := fun v => by unfold ge_k; grind
  rw [e p, e q, e r, e s]
  exact h
theorem ge_T_ge {X Y : Nat → Int} {n m p q v : Nat} (h : ge_T X Y n m p q) (t : ge_t X Y m p q < 0) (hv : v < n) : 0 ≤ ge_D X Y (ge_L X Y) m p q v ∧ (ge_D X Y (ge_L X Y) m p q v = 0 → v = m ∨ v = p ∨ v = q) := by
  have z := ge_D_0 X Y (ge_L X Y) m p q
  by_cases h1 : v = m
  · subst h1; exact ⟨by omega, fun _ => Or.inl rfl⟩
  by_cases h2 : v = p
  · subst h2; exact ⟨by omega, fun _ => Or.inr (Or.inl rfl)⟩
  by_cases h3 : v = q
  · subst h3; exact ⟨by omega, fun _ => Or.inr (Or.inr rfl)⟩
  have o := (h.2.2.2.2 v hv h1 h2 h3).2 t
  unfold ge_E at o
  exact ⟨by omega, fun e => by omega⟩
/-- two triangles above one middle spot are one (above, as kx, ky have it) -/
theorem ge_above {X Y : Nat → Int} {n m p q r s : Nat} (kx ky : Int) (h1 : ge_T X Y n m p q) (h2 : ge_T X Y n m r s) (t1 : ge_t X Y m p q < 0) (t2 : ge_t X Y m r s < 0)
    (p1 : ge_k kx ky X Y p < ge_k kx ky X Y m) (q1 : ge_k kx ky X Y m < ge_k kx ky X Y q) (r1 : ge_k kx ky X Y r < ge_k kx ky X Y m) (s1 : ge_k kx ky X Y m < ge_k kx ky X Y s) : p = r ∧ q = s := by
  have e := ge_over_id kx ky X Y (ge_L X Y) m p q r s
  have ap := ge_T_ge h2 t2 h1.2.1
  have aq := ge_T_ge h2 t2 h1.2.2.1
  have ar := ge_T_ge h1 t1 h2.2.1
  have as := ge_T_ge h1 t1 h2.2.2.1
  generalize hp9 : ge_k kx ky X Y p = kp at *
  generalize hq9 : ge_k kx ky X Y q = kq at *
  generalize hr9 : ge_k kx ky X Y r = kr at *
  generalize hs9 : ge_k kx ky X Y s = ks at *
  generalize hm9 : ge_k kx ky X Y m = km at *
  have b1 := Int.mul_nonneg (a := kq - km) (by omega) ap.1
  have b2 := Int.mul_nonneg (a := km - kp) (by omega) aq.1
  have b3 := Int.mul_nonneg (a := ks - km) (by omega) ar.1
  have b4 := Int.mul_nonneg (a := km - kr) (by omega) as.1
  have f2 : (kp - km) * ge_D X Y (ge_L X Y) m r s q = -((km - kp) * ge_D X Y (ge_L X Y) m r s q) := by rw [← Int.neg_mul, Int.neg_sub]
  have f3 : -(ks - km) * ge_D X Y (ge_L X Y) m p q r = -((ks - km) * ge_D X Y (ge_L X Y) m p q r) := Int.neg_mul _ _
  have f4 : (kr - km) * ge_D X Y (ge_L X Y) m p q s = -((km - kr) * ge_D X Y (ge_L X Y) m p q s) := by rw [← Int.neg_mul, Int.neg_sub]
  rw [f2, f3, f4] at e
  have z1 : (kq - km) * ge_D X Y (ge_L X Y) m r s p = 0 := by omega
  have z2 : (km - kp) * ge_D X Y (ge_L X Y) m r s q = 0 := by omega
  have c1 : ge_D X Y (ge_L X Y) m r s p = 0 := by rcases Int.mul_eq_zero.mp z1 with h | h <;> omega
  have c2 : ge_D X Y (ge_L X Y) m r s q = 0 := by rcases Int.mul_eq_zero.mp z2 with h | h <;> omega
  have d1 := ap.2 c1
  have d2 := aq.2 c2
  constructor
  · rcases d1 with d | d | d
    · subst d; omega
    · exact d
    · subst d; omega
  · rcases d2 with d | d | d
    · subst d; omega
    · subst d; omega
    · exact d
/-! a code for each triangle -/
abbrev ge_y (X Y : Nat → Int) (v : Nat) : Int := ge_k 64 1 X Y v
theorem ge_y_inj {X Y : Nat → Int} {n : Nat} (h : ge_ok X Y n) {u v : Nat} (hu : u < n) (hv : v < n) (e : ge_y X Y u = ge_y X Y v) : u = v := by
  obtain ⟨a1, a2, a3, a4⟩ := h.2.1 u hu
  obtain ⟨b1, b2, b3, b4⟩ := h.2.1 v hv
  unfold ge_y ge_k at e
  exact h.2.2 u v hu hv (by omega) (by omega)
/-- m, p, q are a, b, c in some order -/
def ge_pm (a b c m p q : Nat) : Prop := (m = a ∧ p = b ∧ q = c) ∨ (m = a ∧ p = c ∧ q = b) ∨ (m = b ∧ p = a ∧ q = c) ∨ (m = b ∧ p = c ∧ q = a) ∨ (m = c ∧ p = a ∧ q = b) ∨ (m = c ∧ p = b ∧ q = a)
theorem ge_pm_T {X Y : Nat → Int} {n a b c m p q : Nat} (h : ge_T X Y n a b c) (e : ge_pm a b c m p q) : ge_T X Y n m p q := by
  rcases e with ⟨rfl, rfl, rfl⟩ | ⟨rfl, rfl, rfl⟩ | ⟨rfl, rfl, rfl⟩ | ⟨rfl, rfl, rfl⟩ | ⟨rfl, rfl, rfl⟩ | ⟨rfl, rfl, rfl⟩
  · exact h
  · exact ge_T_sw h
  · exact ge_T_sw (ge_T_rot h)
  · exact ge_T_rot h
  · exact ge_T_rot (ge_T_rot h)
  · exact ge_T_sw (ge_T_rot (ge_T_rot h))
theorem ge_pm_eq {a b c a' b' c' m p q : Nat} (h1 : a < b) (h2 : b < c) (h3 : a' < b') (h4 : b' < c') (e : ge_pm a b c m p q) (e' : ge_pm a' b' c' m p q) : a = a' ∧ b = b' ∧ c = c' := by
  unfold ge_pm at e e'
  omega
def ge_cod (X Y : Nat → Int) (a b c z : Nat) : Prop := ∃ m p q, ge_pm a b c m p q ∧ ge_y X Y p < ge_y X Y m ∧ ge_y X Y m < ge_y X Y q ∧ ((z = 2 * m ∧ ge_t X Y m p q < 0) ∨ (z = 2 * m + 1 ∧ 0 < ge_t X Y m p q))
theorem ge_cod_ex {X Y : Nat → Int} {n a b c : Nat} (h : ge_ok X Y n) (t : ge_tri X Y n a b c) : ∃ z, ge_cod X Y a b c z := by
  obtain ⟨h1, h2, h3, h4, h5⟩ := t
  have ab : ge_y X Y a ≠ ge_y X Y b := fun e => by have := ge_y_inj h (by omega) (by omega) e; omega
  have ac : ge_y X Y a ≠ ge_y X Y c := fun e => by have := ge_y_inj h (by omega) (by omega) e; omega
  have bc : ge_y X Y b ≠ ge_y X Y c := fun e => by have := ge_y_inj h (by omega) (by omega) e; omega
  have key : ∃ m p q, ge_pm a b c m p q ∧ ge_y X Y p < ge_y X Y m ∧ ge_y X Y m < ge_y X Y q := by
    by_cases x : ge_y X Y a < ge_y X Y b
    · by_cases y : ge_y X Y b < ge_y X Y c
      · exact ⟨b, a, c, Or.inr (Or.inr (Or.inl ⟨rfl, rfl, rfl⟩)), by omega, by omega⟩
      · by_cases w : ge_y X Y a < ge_y X Y c
        · exact ⟨c, a, b, Or.inr (Or.inr (Or.inr (Or.inr (Or.inl ⟨rfl, rfl, rfl⟩)))), by omega, by omega⟩
        · exact ⟨a, c, b, Or.inr (Or.inl ⟨rfl, rfl, rfl⟩), by omega, by omega⟩
    · by_cases y : ge_y X Y a < ge_y X Y c
      · exact ⟨a, b, c, Or.inl ⟨rfl, rfl, rfl⟩, by omega, by omega⟩
      · by_cases w : ge_y X Y b < ge_y X Y c
        · exact ⟨c, b, a, Or.inr (Or.inr (Or.inr (Or.inr (Or.inr ⟨rfl, rfl, rfl⟩)))), by omega, by omega⟩
        · exact ⟨b, c, a, Or.inr (Or.inr (Or.inr (Or.inl ⟨rfl, rfl, rfl⟩))), by omega, by omega⟩
  obtain ⟨m, p, q, e, y1, y2⟩ := key
  have t0 : ge_t X Y m p q ≠ 0 := (ge_pm_T (ge_T_of h ⟨h1, h2, h3, h4, h5⟩) e).2.2.2.1
  rcases Int.lt_or_lt_of_ne t0 with k | k
  · exact ⟨2 * m, m, p, q, e, y1, y2, Or.inl ⟨rfl, k⟩⟩
  · exact ⟨2 * m + 1, m, p, q, e, y1, y2, Or.inr ⟨rfl, k⟩⟩
theorem ge_cod_inj {X Y : Nat → Int} {n a b c a' b' c' z : Nat} (h : ge_ok X Y n) (t : ge_tri X Y n a b c) (t' : ge_tri X Y n a' b' c') (e : ge_cod X Y a b c z) (e' : ge_cod X Y a' b' c' z) : a = a' ∧ b = b' ∧ c = c' := by
  obtain ⟨m, p, q, i, y1, y2, k⟩ := e
  obtain ⟨m', r, s, i', y3, y4, k'⟩ := e'
  have T1 := ge_pm_T (ge_T_of h t) i
  have T2 := ge_pm_T (ge_T_of h t') i'
  have hm : m = m' := by omega
  subst hm
  have pq : p = r ∧ q = s := by
    rcases k with ⟨k1, k2⟩ | ⟨k1, k2⟩
    · rcases k' with ⟨k3, k4⟩ | ⟨k3, k4⟩
      · exact ge_above 64 1 T1 T2 k2 k4 y1 y2 y3 y4
      · omega
    · rcases k' with ⟨k3, k4⟩ | ⟨k3, k4⟩
      · omega
      · have f : ∀ v, ge_k (-64) (-1) X Y v = -ge_y X Y v := fun v => by unfold ge_y ge_k; omega
        have g := ge_above (-64) (-1) (ge_T_sw T1) (ge_T_sw T2) (by rw [ge_t_sw]; omega) (by rw [ge_t_sw]; omega) (by rw [f, f]; omega) (by rw [f, f]; omega) (by rw [f, f]; omega) (by rw [f, f]; omega)
        exact ⟨g.2, g.1⟩
  obtain ⟨rfl, rfl⟩ := pq
  exact ge_pm_eq t.1 t.2.1 t'.1 t'.2.1 i i'
/-! counting -/
theorem ge_php : ∀ (N k : Nat) (f : Nat → Nat), (∀ i, i < k → f i < N) → (∀ i j, i < j → j < k → f i ≠ f j) → k ≤ N := by
  intro N
  induction N with
  | zero => intro k f h _; rcases Nat.eq_zero_or_pos k with h0 | h0; omega; exact absurd (h 0 h0) (by omega)
  | succ N ih =>
    intro k f h inj
    rcases Nat.eq_zero_or_pos k with h0 | h0
    · omega
    obtain ⟨k', rfl⟩ : ∃ k', k = k' + 1 := ⟨k - 1, by omega⟩
    have := ih k' (fun i => if f i = N then f k' else f i) (fun i hi => by
      try dsimp only
      have a := h i (by omega)
      have b := h k' (by omega)
      have c := inj i k' hi (by omega)
      split <;> omega) (fun i j hi hj => by
      try dsimp only
      have a := inj i j hi (by omega)
      have b := inj i k' (by omega) (by omega)
      have c := inj j k' hj (by omega)
      split <;> split <;> omega)
    omega
theorem ge_min (P : Nat → Prop) (h : Nat → Int) : ∀ n, (∃ v, v < n ∧ P v) → ∃ z, z < n ∧ P z ∧ ∀ v, v < n → P v → h z ≤ h v := by
  intro n
  induction n with
  | zero => rintro ⟨v, hv, -⟩; omega
  | succ n ih =>
    intro e
    by_cases e' : ∃ v, v < n ∧ P v
    · obtain ⟨z, z1, z2, z3⟩ := ih e'
      by_cases c : P n ∧ h n < h z
      · refine ⟨n, by omega, c.1, fun v hv pv => ?_⟩
        rcases Nat.lt_or_ge v n with l | l
        · have := z3 v l pv; omega
        · have : v = n := by omega
          subst this; omega
      · refine ⟨z, by omega, z2, fun v hv pv => ?_⟩
        rcases Nat.lt_or_ge v n with l | l
        · exact z3 v l pv
        · have : v = n := by omega
          subst this
          rcases Int.lt_or_le (h v) (h z) with q | q
          · exact absurd ⟨pv, q⟩ c
          · exact q
    · obtain ⟨v, hv, pv⟩ := e
      have : v = n := by
        rcases Nat.lt_or_ge v n with l | l
        · exact absurd ⟨v, l, pv⟩ e'
        · omega
      subst this
      refine ⟨v, by omega, pv, fun u hu pu => ?_⟩
      rcases Nat.lt_or_ge u v with l | l
      · exact absurd ⟨u, l, pu⟩ e'
      · have : u = v := by omega
        subst this; omega
theorem ge_hull_id (X Y : Nat → Int) (f g z p q : Nat) : (ge_y X Y g - ge_y X Y f) * ge_t X Y z p q = -((ge_t X Y f g p - ge_t X Y f g z) * (ge_y X Y q - ge_y X Y z)) + (ge_t X Y f g q - ge_t X Y f g z) * (ge_y X Y p - ge_y X Y z) := by
  unfold ge_y ge_k ge_t; grind
/-- a code that no triangle has, of a spot that is neither the first nor the last -/
theorem ge_hull {X Y : Nat → Int} {n f g : Nat} (h : ge_ok X Y n) (hn : 3 ≤ n) (hf : f < n) (hg : g < n) (hfg : ge_y X Y f < ge_y X Y g) :
    ∃ w z, z < n ∧ z ≠ f ∧ z ≠ g ∧ (w = 2 * z ∨ w = 2 * z + 1) ∧ ∀ a b c, ge_tri X Y n a b c → ¬ ge_cod X Y a b c w := by
  have t0 : ge_t X Y f g f = 0 ∧ ge_t X Y f g g = 0 := by constructor <;> (unfold ge_t; grind)
  by_cases A : ∃ v, v < n ∧ (v ≠ f ∧ v ≠ g) ∧ ge_t X Y f g v ≤ 0
  · obtain ⟨v0, v1, v2, v3⟩ := A
    obtain ⟨z, z1, z2, z3⟩ := ge_min (fun v => v ≠ f ∧ v ≠ g) (fun v => ge_t X Y f g v) n ⟨v0, v1, v2⟩
    try dsimp only at z2 z3
    have z4 := z3 v0 v1 v2
    have all : ∀ v, v < n → ge_t X Y f g z ≤ ge_t X Y f g v := fun v hv => by
      by_cases e1 : v = f
      · subst e1; omega
      by_cases e2 : v = g
      · subst e2; omega
      exact z3 v hv ⟨e1, e2⟩
    refine ⟨2 * z + 1, z, z1, z2.1, z2.2, Or.inr rfl, fun a b c t k => ?_⟩
    obtain ⟨m, p, q, i, y1, y2, k⟩ := k
    have T1 := ge_pm_T (ge_T_of h t) i
    have k9 : m = z ∧ 0 < ge_t X Y m p q := by omega
    clear k
    obtain ⟨ez, k⟩ := k9
    subst ez
    have id := ge_hull_id X Y f g m p q
    have u1 := Int.mul_nonneg (a := ge_t X Y f g p - ge_t X Y f g m) (b := ge_y X Y q - ge_y X Y m) (by have := all p T1.2.1; omega) (by omega)
    have u2 := Int.mul_nonneg (a := ge_t X Y f g q - ge_t X Y f g m) (b := ge_y X Y m - ge_y X Y p) (by have := all q T1.2.2.1; omega) (by omega)
    have u3 := Int.mul_pos (a := ge_y X Y g - ge_y X Y f) (b := ge_t X Y m p q) (by omega) k
    have u4 : (ge_t X Y f g q - ge_t X Y f g m) * (ge_y X Y p - ge_y X Y m) = -((ge_t X Y f g q - ge_t X Y f g m) * (ge_y X Y m - ge_y X Y p)) := by rw [← Int.mul_neg, Int.neg_sub]
    rw [u4] at id
    omega
  · have B : ∀ v, v < n → v ≠ f → v ≠ g → 0 < ge_t X Y f g v := fun v hv e1 e2 => by
      rcases Int.lt_or_le 0 (ge_t X Y f g v) with q | q
      · exact q
      · exact absurd ⟨v, hv, ⟨e1, e2⟩, q⟩ A
    have ex : ∃ v, v < n ∧ (v ≠ f ∧ v ≠ g) := by
      by_cases e0 : 0 ≠ f ∧ 0 ≠ g
      · exact ⟨0, by omega, e0⟩
      by_cases e1 : 1 ≠ f ∧ 1 ≠ g
      · exact ⟨1, by omega, e1⟩
      exact ⟨2, by omega, by omega, by omega⟩
    obtain ⟨z, z1, z2, z3⟩ := ge_min (fun v => v ≠ f ∧ v ≠ g) (fun v => -ge_t X Y f g v) n ex
    try dsimp only at z2 z3
    have z5 := B z z1 z2.1 z2.2
    have all : ∀ v, v < n → ge_t X Y f g v ≤ ge_t X Y f g z := fun v hv => by
      by_cases e1 : v = f
      · subst e1; omega
      by_cases e2 : v = g
      · subst e2; omega
      have := z3 v hv ⟨e1, e2⟩
      omega
    refine ⟨2 * z, z, z1, z2.1, z2.2, Or.inl rfl, fun a b c t k => ?_⟩
    obtain ⟨m, p, q, i, y1, y2, k⟩ := k
    have T1 := ge_pm_T (ge_T_of h t) i
    have k9 : m = z ∧ ge_t X Y m p q < 0 := by omega
    clear k
    obtain ⟨ez, k⟩ := k9
    subst ez
    have id := ge_hull_id X Y f g m p q
    have u1 := Int.mul_nonneg (a := ge_t X Y f g m - ge_t X Y f g p) (b := ge_y X Y q - ge_y X Y m) (by have := all p T1.2.1; omega) (by omega)
    have u2 := Int.mul_nonneg (a := ge_t X Y f g m - ge_t X Y f g q) (b := ge_y X Y m - ge_y X Y p) (by have := all q T1.2.2.1; omega) (by omega)
    have u3 := Int.mul_pos (a := ge_y X Y g - ge_y X Y f) (b := -ge_t X Y m p q) (by omega) (by omega)
    rw [Int.mul_neg] at u3
    have u4 : (ge_t X Y f g q - ge_t X Y f g m) * (ge_y X Y p - ge_y X Y m) = (ge_t X Y f g m - ge_t X Y f g q) * (ge_y X Y m - ge_y X Y p) := by rw [← Int.neg_sub (ge_t X Y f g m), ← Int.neg_sub (ge_y X Y m), Int.neg_mul_neg]
    have u5 : -((ge_t X Y f g p - ge_t X Y f g m) * (ge_y X Y q - ge_y X Y m)) = (ge_t X Y f g m - ge_t X Y f g p) * (ge_y X Y q - ge_y X Y m) := by rw [← Int.neg_mul, Int.neg_sub]
    rw [u4, u5] at id
    omega
def ge_h (f g w k : Nat) : Nat := match k with
  | 0 => 2 * f
  | 1 => 2 * f + 1
  | 2 => 2 * g
  | 3 => 2 * g + 1
  | _ => w
theorem ge_h_or (f g w k : Nat) : ge_h f g w k = 2 * f ∨ ge_h f g w k = 2 * f + 1 ∨ ge_h f g w k = 2 * g ∨ ge_h f g w k = 2 * g + 1 ∨ ge_h f g w k = w := by
  unfold ge_h; split <;> simp
theorem ge_h_ne {f g w : Nat} (h1 : f ≠ g) (h2 : w ≠ 2 * f) (h3 : w ≠ 2 * f + 1) (h4 : w ≠ 2 * g) (h5 : w ≠ 2 * g + 1) {i j : Nat} (hij : i < j) (hj : j < 5) : ge_h f g w i ≠ ge_h f g w j := by
  have v0 : ge_h f g w 0 = 2 * f := rfl
  have v1 : ge_h f g w 1 = 2 * f + 1 := rfl
  have v2 : ge_h f g w 2 = 2 * g := rfl
  have v3 : ge_h f g w 3 = 2 * g + 1 := rfl
  have v4 : ge_h f g w 4 = w := rfl
  have a : i = 0 ∨ i = 1 ∨ i = 2 ∨ i = 3 := by omega
  have b : j = 1 ∨ j = 2 ∨ j = 3 ∨ j = 4 := by omega
  rcases a with rfl | rfl | rfl | rfl <;> rcases b with rfl | rfl | rfl | rfl <;> omega
/-- AT MOST 27 TRIANGLES -/
theorem ge_27 {X Y : Nat → Int} {n : Nat} (h : ge_ok X Y n) (cnt : Nat) (A B C : Nat → Nat) (ht : ∀ t, t < cnt → ge_tri X Y n (A t) (B t) (C t))
    (hd : ∀ i j, i < j → j < cnt → ¬ (A i = A j ∧ B i = B j ∧ C i = C j)) : cnt ≤ 27 := by
  rcases Nat.eq_zero_or_pos cnt with h0 | h0
  · omega
  have q0 := ht 0 h0
  have n3 : 3 ≤ n := by have a := q0.1; have b := q0.2.1; have c := q0.2.2.1; omega
  obtain ⟨f, f1, -, f3⟩ := ge_min (fun _ => True) (fun v => ge_y X Y v) n ⟨0, by omega, trivial⟩
  obtain ⟨g, g1, -, g3⟩ := ge_min (fun _ => True) (fun v => -ge_y X Y v) n ⟨0, by omega, trivial⟩
  try dsimp only at f3 g3
  have fg : ge_y X Y f < ge_y X Y g := by
    have a := f3 0 (by omega) trivial
    have b := g3 0 (by omega) trivial
    have c := f3 1 (by omega) trivial
    have d := g3 1 (by omega) trivial
    have e : ge_y X Y 0 ≠ ge_y X Y 1 := fun e => by have := ge_y_inj h (by omega) (by omega) e; omega
    omega
  have nfg : f ≠ g := fun e => by subst e; omega
  obtain ⟨w, z, w1, w2, w3, w4, w5⟩ := ge_hull h n3 f1 g1 fg
  have cf : ∀ t, ∃ u, t < cnt → ge_cod X Y (A t) (B t) (C t) u := fun t => by
    by_cases l : t < cnt
    · obtain ⟨u, hu⟩ := ge_cod_ex h (ht t l); exact ⟨u, fun _ => hu⟩
    · exact ⟨0, fun l' => absurd l' l⟩
  have F : ∀ t, t < cnt → ge_cod X Y (A t) (B t) (C t) (Classical.choose (cf t)) := fun t => Classical.choose_spec (cf t)
  have mid : ∀ t, t < cnt → Classical.choose (cf t) < 2 * n ∧ Classical.choose (cf t) ≠ 2 * f ∧ Classical.choose (cf t) ≠ 2 * f + 1 ∧ Classical.choose (cf t) ≠ 2 * g ∧ Classical.choose (cf t) ≠ 2 * g + 1 ∧ Classical.choose (cf t) ≠ w := fun t l => by
    have k := F t l
    have kw := w5 _ _ _ (ht t l)
    have nw : Classical.choose (cf t) ≠ w := fun e => by rw [e] at k; exact kw k
    obtain ⟨m, p, q, i, y1, y2, k⟩ := k
    have T1 := ge_pm_T (ge_T_of h (ht t l)) i
    have a := f3 p T1.2.1 trivial
    have b := g3 q T1.2.2.1 trivial
    have mf : m ≠ f := fun e => by subst e; omega
    have mg : m ≠ g := fun e => by subst e; omega
    have mn := T1.1
    omega
  have r := ge_php (2 * n) (cnt + 5) (fun t => if t < cnt then Classical.choose (cf t) else ge_h f g w (t - cnt))
    (fun i hi => by
      try dsimp only
      by_cases l : i < cnt
      · rw [if_pos l]; exact (mid i l).1
      · rw [if_neg l]
        have := ge_h_or f g w (i - cnt)
        omega)
    (fun i j hi hj => by
      try dsimp only
      by_cases lj : j < cnt
      · have li : i < cnt := by omega
        rw [if_pos lj, if_pos li]
        intro e
        have k1 := F i li
        have k2 := F j lj
        rw [e] at k1
        exact hd i j hi lj (ge_cod_inj h (ht i li) (ht j lj) k1 k2)
      · rw [if_neg lj]
        by_cases li : i < cnt
        · rw [if_pos li]
          have := mid i li
          have := ge_h_or f g w (j - cnt)
          omega
        · rw [if_neg li]
          exact ge_h_ne nfg (by omega) (by omega) (by omega) (by omega) (by omega) (by omega))
  have := h.1
  omega
end
section
/-! Triangles cover and do not overlap, as far as it is needed: round a spot, to one side of it, they follow one another; so sums round triangles that vanish come from a height of the spots. From that: the spots of a ring with the least x are all high or all low. Whole numbers alone. -/
/-- no four spots, three of which are not in a line, have determinant 0 -/
theorem ge_E_ne3 {X Y : Nat → Int} {n : Nat} (h : ge_ok X Y n) {a b c d : Nat} (hab : a < b) (hbc : b < c) (hc : c < n) (hd : d < n) (had : d ≠ a) (hbd : d ≠ b) (hcd : d ≠ c) (ht : ge_t X Y a b c ≠ 0) : ge_E X Y a b c d ≠ 0 := by
  have hn := h.1
  have ha : a < n := by omega
  have hb : b < n := by omega
  have k1 := ge_t_b h hb hc hd
  have k2 := ge_t_b h ha hc hd
  have k3 := ge_t_b h ha hb hd
  have k4 := ge_t_b h ha hb hc
  have wa := ge_w_pos a (by omega)
  have wb := ge_w_pos b (by omega)
  have wc := ge_w_pos c (by omega)
  have wd := ge_w_pos d (by omega)
  have m1 := ge_wt wa k1.1 k1.2
  have m2 := ge_wt wb k2.1 k2.2
  have m3 := ge_wt wc k3.1 k3.2
  have m4 := ge_wt wd k4.1 k4.2
  have Ka := ge_w_K a (by omega)
  have Kb := ge_w_K b (by omega)
  have Kc := ge_w_K c (by omega)
  have Kd := ge_w_K d (by omega)
  have ab := ge_w_lt a (by omega) b (by omega) hab
  have ac := ge_w_lt a (by omega) c (by omega) (by omega)
  have hE := ge_E_split X Y a b c d
  have hD : ge_D X Y ge_w a b c d = ge_w a * ge_t X Y b c d - ge_w b * ge_t X Y a c d + ge_w c * ge_t X Y a b d - ge_w d * ge_t X Y a b c := rfl
  rw [hD] at hE
  have Kp : 0 < ge_K := by decide +kernel
  generalize hi : ge_i X Y a b c d = i at hE ⊢
  rcases Int.lt_trichotomy i 0 with i1 | i1 | i1
  · have q := ge_small Kp (show i ≤ -1 by omega)
    omega
  · subst i1
    obtain ⟨n1, n2, n3, n4⟩ := ge_circ h ha hb hc hd (by omega) (by omega) (by omega) (by omega) (by omega) (by omega) ht hi
    rw [Int.mul_zero] at hE
    rcases Nat.lt_or_ge d a with l | l
    · have da := ge_w_lt d (by omega) a (by omega) l
      have db := ge_w_lt d (by omega) b (by omega) (by omega)
      have dc := ge_w_lt d (by omega) c (by omega) (by omega)
      rcases Int.lt_or_lt_of_ne ht with t | t
      · have q := ge_small wd (show ge_t X Y a b c ≤ -1 by omega)
        omega
      · have q := ge_big wd (show 1 ≤ ge_t X Y a b c by omega)
        omega
    · have ad := ge_w_lt a (by omega) d (by omega) (by omega)
      rcases Int.lt_or_lt_of_ne n1 with u | u
      · have q := ge_small wa (show ge_t X Y b c d ≤ -1 by omega)
        omega
      · have q := ge_big wa (show 1 ≤ ge_t X Y b c d by omega)
        omega
  · have q := ge_big Kp (show 1 ≤ i by omega)
    omega
theorem ge_E_rot (X Y : Nat → Int) (a b c d : Nat) : ge_E X Y b c a d = ge_E X Y a b c d := ge_D_rot X Y _ a b c d
theorem ge_E_sw (X Y : Nat → Int) (a b c d : Nat) : ge_E X Y a c b d = -ge_E X Y a b c d := ge_D_sw X Y _ a b c d
theorem ge_E_sw3 (X Y : Nat → Int) (a b c d : Nat) : ge_E X Y a b d c = -ge_E X Y a b c d := ge_D_sw3 X Y _ a b c d
theorem ge_E_ne {X Y : Nat → Int} {n : Nat} (h : ge_ok X Y n) {a b c d : Nat} (ha : a < n) (hb : b < n) (hc : c < n) (hd : d < n) (had : d ≠ a) (hbd : d ≠ b) (hcd : d ≠ c) (ht : ge_t X Y a b c ≠ 0) : ge_E X Y a b c d ≠ 0 := by
  obtain ⟨ab, ac, bc⟩ := ge_t_ne ht
  have r1 := ge_t_rot X Y a b c
  have r2 := ge_t_rot X Y b c a
  have s1 := ge_t_sw X Y a b c
  have s2 := ge_t_sw X Y b c a
  have s3 := ge_t_sw X Y c a b
  have R1 := ge_E_rot X Y a b c d
  have R2 := ge_E_rot X Y b c a d
  have S1 := ge_E_sw X Y a b c d
  have S2 := ge_E_sw X Y b c a d
  have S3 := ge_E_sw X Y c a b d
  rcases Nat.lt_or_gt_of_ne ab with l1 | l1 <;> rcases Nat.lt_or_gt_of_ne ac with l2 | l2 <;> rcases Nat.lt_or_gt_of_ne bc with l3 | l3
  · exact ge_E_ne3 h l1 l3 hc hd had hbd hcd ht
  · have := ge_E_ne3 h l2 l3 hb hd had hcd hbd (by omega); omega
  · omega
  · have := ge_E_ne3 h l2 l1 hb hd hcd had hbd (by omega); omega
  · have := ge_E_ne3 h l1 l2 hc hd hbd had hcd (by omega); omega
  · omega
  · have := ge_E_ne3 h l3 l2 ha hd hbd hcd had (by omega); omega
  · have := ge_E_ne3 h l3 l1 ha hd hcd hbd had (by omega); omega
/-! identities -/
theorem ge_id1 (X Y L : Nat → Int) (v u d k e : Nat) : ge_t X Y v u d * ge_D X Y L v u k e = ge_t X Y v u e * ge_D X Y L v u k d + ge_t X Y v u k * ge_D X Y L v u d e := by
  unfold ge_D ge_t; grind
theorem ge_id2 (X Y L : Nat → Int) (v u w p z : Nat) : -(ge_t X Y v p z) * ge_D X Y L v u w p = ge_t X Y v p w * ge_D X Y L v p z u + ge_t X Y v u p * ge_D X Y L v p z w := by
  unfold ge_D ge_t; grind
theorem ge_id3 (X Y L : Nat → Int) (v u p c z : Nat) : ge_t X Y v u c * ge_D X Y L v p z u + ge_t X Y v u z * ge_D X Y L v u c p = ge_t X Y v u p * ge_D X Y L v u c z := by
  unfold ge_D ge_t; grind
theorem ge_id4 (X Y : Nat → Int) (v u p z : Nat) : (ge_y X Y u - ge_y X Y v) * ge_t X Y v p z - (ge_y X Y p - ge_y X Y v) * ge_t X Y v u z + (ge_y X Y z - ge_y X Y v) * ge_t X Y v u p = 0 := by
  unfold ge_y ge_k ge_t; grind
/-! the signs of products -/
theorem ge_pp {a b : Int} (h1 : a < 0) (h2 : b < 0) : 0 < a * b := Int.mul_pos_of_neg_of_neg h1 h2
theorem ge_np {a b : Int} (h1 : a < 0) (h2 : 0 < b) : a * b < 0 := Int.mul_neg_of_neg_of_pos h1 h2
theorem ge_pn {a b : Int} (h1 : 0 < a) (h2 : b < 0) : a * b < 0 := Int.mul_neg_of_pos_of_neg h1 h2
theorem ge_ln {a b : Int} (h1 : a < 0) (h : 0 < a * b) : b < 0 := by
  rcases Int.lt_trichotomy b 0 with q | q | q
  · exact q
  · rw [q, Int.mul_zero] at h; omega
  · have := ge_np h1 q; omega
theorem ge_lp {a b : Int} (h1 : a < 0) (h : a * b < 0) : 0 < b := by
  rcases Int.lt_trichotomy b 0 with q | q | q
  · have := ge_pp h1 q; omega
  · rw [q, Int.mul_zero] at h; omega
  · exact q
theorem ge_rp {a b : Int} (h1 : 0 < a) (h : 0 < a * b) : 0 < b := by
  rcases Int.lt_trichotomy b 0 with q | q | q
  · have := ge_pn h1 q; omega
  · rw [q, Int.mul_zero] at h; omega
  · exact q
section
variable {X Y : Nat → Int} {n : Nat}
/-- a triangle to the right of who goes from p to q -/
def ge_R (X Y : Nat → Int) (n p q r : Nat) : Prop := ge_T X Y n p q r ∧ ge_t X Y p q r < 0
theorem ge_R_rot {p q r : Nat} (h : ge_R X Y n p q r) : ge_R X Y n q r p := ⟨ge_T_rot h.1, by rw [ge_t_rot]; exact h.2⟩
theorem ge_R_u {p q r r' : Nat} (h : ge_R X Y n p q r) (h' : ge_R X Y n p q r') : r = r' := ge_right h.1 h'.1 h.2 h'.2
/-- an edge of the mesh -/
def ge_e (X Y : Nat → Int) (n u v : Nat) : Prop := ∃ c, ge_T X Y n u v c
theorem ge_e_sym {u v : Nat} (h : ge_e X Y n u v) : ge_e X Y n v u := by
  obtain ⟨c, h⟩ := h
  exact ⟨c, ge_T_rot (ge_T_sw (ge_T_rot h)) |> ge_T_sw |> ge_T_rot |> ge_T_sw⟩
theorem ge_T_out {a b c d : Nat} (h : ge_T X Y n a b c) (hd : d < n) (h1 : d ≠ a) (h2 : d ≠ b) (h3 : d ≠ c) : (0 < ge_t X Y a b c → ge_E X Y a b c d < 0) ∧ (ge_t X Y a b c < 0 → 0 < ge_E X Y a b c d) := h.2.2.2.2 d hd h1 h2 h3
/-- the spot to the right of v, u that all others there are out of -/
theorem ge_best (ho : ge_ok X Y n) {v u : Nat} (hv : v < n) (hu : u < n) : ∀ k, k ≤ n → (∃ s, s < k ∧ ge_t X Y v u s < 0) → ∃ d, d < k ∧ ge_t X Y v u d < 0 ∧ ∀ e, e < k → ge_t X Y v u e < 0 → e ≠ d → 0 < ge_E X Y v u d e := by
  intro k
  induction k with
  | zero => rintro - ⟨s, hs, -⟩; omega
  | succ k ih =>
    intro hk hex
    by_cases ex : ∃ s, s < k ∧ ge_t X Y v u s < 0
    · obtain ⟨d, d1, d2, d3⟩ := ih (by omega) ex
      by_cases tk : ge_t X Y v u k < 0
      · have ne := ge_E_ne ho hv hu (show d < n by omega) (show k < n by omega) (by have := ge_t_ne (Int.ne_of_lt tk); omega) (by have := ge_t_ne (Int.ne_of_lt tk); omega) (by omega) (Int.ne_of_lt d2)
        rcases Int.lt_or_lt_of_ne ne with q | q
        · have q' : 0 < ge_E X Y v u k d := by rw [ge_E_sw3]; omega
          refine ⟨k, by omega, tk, fun e he te ne => ?_⟩
          by_cases ed : e = d
          · rw [ed]; exact q'
          · have i := ge_id1 X Y (ge_L X Y) v u d k e
            have p1 := d3 e (by omega) te ed
            have p2 := ge_np te q'
            have p3 := ge_np tk p1
            exact ge_lp d2 (by unfold ge_E at p2 p3 ⊢; omega)
        · refine ⟨d, by omega, d2, fun e he te ne => ?_⟩
          by_cases ek : e = k
          · rw [ek]; exact q
          · exact d3 e (by omega) te ne
      · exact ⟨d, by omega, d2, fun e he te ne => d3 e (by by_cases e = k; (rename_i q; rw [q] at te; exact absurd te tk); omega) te ne⟩
    · obtain ⟨s, s1, s2⟩ := hex
      have : s = k := by
        rcases Nat.lt_or_ge s k with l | l
        · exact absurd ⟨s, l, s2⟩ ex
        · omega
      subst this
      exact ⟨s, by omega, s2, fun e he te ne => absurd ⟨e, by omega, te⟩ ex⟩
/-- where an edge has a spot to its right, it has a triangle there -/
theorem ge_ex (ho : ge_ok X Y n) {v u s : Nat} (he : ge_e X Y n v u) (hs : s < n) (ts : ge_t X Y v u s < 0) : ∃ d, ge_R X Y n v u d := by
  obtain ⟨c, hc⟩ := he
  rcases Int.lt_or_lt_of_ne hc.2.2.2.1 with tc | tc
  · exact ⟨c, hc, tc⟩
  · obtain ⟨d, d1, d2, d3⟩ := ge_best ho hc.1 hc.2.1 n (Nat.le_refl _) ⟨s, hs, ts⟩
    have dn := ge_t_ne (Int.ne_of_lt d2)
    have dc : d ≠ c := fun e => by rw [e] at d2; omega
    refine ⟨d, ⟨hc.1, hc.2.1, d1, Int.ne_of_lt d2, fun e he e1 e2 e3 => ⟨fun q => absurd q (by omega), fun _ => ?_⟩⟩, d2⟩
    rcases Int.lt_or_le (ge_t X Y v u e) 0 with te | te
    · exact d3 e he te e3
    · have o := (ge_T_out hc d1 (Ne.symm dn.2.1) (Ne.symm dn.2.2) dc).1 tc
      have o' : 0 < ge_E X Y v u d c := by rw [ge_E_sw3]; omega
      by_cases ec : e = c
      · rw [ec]; exact o'
      · have p := (ge_T_out hc he e1 e2 ec).1 tc
        have i := ge_id1 X Y (ge_L X Y) v u c d e
        have p1 : 0 ≤ ge_t X Y v u e * ge_E X Y v u d c := Int.mul_nonneg te (by omega)
        have p2 := ge_pp d2 p
        exact ge_rp tc (by unfold ge_E at p1 p2 ⊢; omega)
/-- no edge from v runs into a triangle at v -/
theorem ge_in_no {v u w p : Nat} (h : ge_R X Y n v u w) (hp : ge_e X Y n v p) (t1 : ge_t X Y v u p < 0) (t2 : ge_t X Y v p w < 0) : False := by
  obtain ⟨z, hz⟩ := hp
  have n1 := ge_t_ne (Int.ne_of_lt t1)
  have n2 := ge_t_ne (Int.ne_of_lt t2)
  have o := (ge_T_out h.1 hz.2.1 (Ne.symm n1.2.1) (Ne.symm n1.2.2) n2.2.2).2 h.2
  have i := ge_id2 X Y (ge_L X Y) v u w p z
  have zz := ge_D_0 X Y (ge_L X Y) v p z
  have n3 := ge_t_ne hz.2.2.2.1
  have hu : 0 ≤ -(ge_t X Y v p z) * ge_D X Y (ge_L X Y) v p z u → True := fun _ => trivial
  rcases Int.lt_or_lt_of_ne hz.2.2.2.1 with t | t
  · have a1 : 0 ≤ ge_D X Y (ge_L X Y) v p z u := by
      by_cases e : u = z
      · rw [e]; omega
      · have := (ge_T_out hz h.1.2.1 (Ne.symm n1.1) n1.2.2 e).2 t; unfold ge_E at this; omega
    have a2 : 0 ≤ ge_D X Y (ge_L X Y) v p z w := by
      by_cases e : w = z
      · rw [e]; omega
      · have := (ge_T_out hz h.1.2.2.1 (Ne.symm n2.2.1) (Ne.symm n2.2.2) e).2 t; unfold ge_E at this; omega
    have b1 : ge_t X Y v p w * ge_D X Y (ge_L X Y) v p z u ≤ 0 := Int.mul_nonpos_of_nonpos_of_nonneg (by omega) a1
    have b2 : ge_t X Y v u p * ge_D X Y (ge_L X Y) v p z w ≤ 0 := Int.mul_nonpos_of_nonpos_of_nonneg (by omega) a2
    have b3 : 0 < -(ge_t X Y v p z) * ge_D X Y (ge_L X Y) v u w p := Int.mul_pos (by omega) o
    omega
  · have a1 : ge_D X Y (ge_L X Y) v p z u ≤ 0 := by
      by_cases e : u = z
      · rw [e]; omega
      · have := (ge_T_out hz h.1.2.1 (Ne.symm n1.1) n1.2.2 e).1 t; unfold ge_E at this; omega
    have a2 : ge_D X Y (ge_L X Y) v p z w ≤ 0 := by
      by_cases e : w = z
      · rw [e]; omega
      · have := (ge_T_out hz h.1.2.2.1 (Ne.symm n2.2.1) (Ne.symm n2.2.2) e).1 t; unfold ge_E at this; omega
    have b1 : 0 ≤ ge_t X Y v p w * ge_D X Y (ge_L X Y) v p z u := Int.mul_nonneg_of_nonpos_of_nonpos (by omega) a1
    have b2 : 0 ≤ ge_t X Y v u p * ge_D X Y (ge_L X Y) v p z w := Int.mul_nonneg_of_nonpos_of_nonpos (by omega) a2
    have b3 : -(ge_t X Y v p z) * ge_D X Y (ge_L X Y) v u w p < 0 := ge_np (by omega) o
    omega
/-- two edges from v one way are one -/
theorem ge_one {v u p : Nat} (hu : ge_e X Y n v u) (hp : ge_e X Y n v p) (ku : ge_y X Y u < ge_y X Y v) (kp : ge_y X Y p < ge_y X Y v) (t0 : ge_t X Y v u p = 0) : u = p := by
  refine Classical.byContradiction fun ne => ?_
  obtain ⟨c, hc⟩ := hu
  obtain ⟨z, hz⟩ := hp
  have i3 := ge_id3 X Y (ge_L X Y) v u p c z
  have i4 := ge_id4 X Y v u p z
  rw [t0, Int.zero_mul] at i3
  rw [t0, Int.mul_zero] at i4
  have nc := ge_t_ne hc.2.2.2.1
  have nz := ge_t_ne hz.2.2.2.1
  have pc : p ≠ c := fun e => hc.2.2.2.1 (by rw [← e]; exact t0)
  have t0' : ge_t X Y v p u = 0 := by rw [ge_t_sw]; omega
  have uz : u ≠ z := fun e => hz.2.2.2.1 (by rw [← e]; exact t0')
  have o1 := ge_T_out hc hz.2.1 (Ne.symm nz.1) (Ne.symm ne) pc
  have o2 := ge_T_out hz hc.2.1 (Ne.symm nc.1) ne uz
  unfold ge_E at o1 o2
  have a1 : ge_y X Y u - ge_y X Y v < 0 := by omega
  have a2 : ge_y X Y p - ge_y X Y v < 0 := by omega
  rcases Int.lt_or_lt_of_ne hz.2.2.2.1 with t | t
  · have z1 : ge_t X Y v u z < 0 := ge_ln a2 (by have := ge_pp a1 t; omega)
    have q2 := o2.2 t
    rcases Int.lt_or_lt_of_ne hc.2.2.2.1 with tc | tc
    · have q1 := o1.2 tc
      have b1 := ge_np tc q2
      have b2 := ge_np z1 q1
      omega
    · have q1 := o1.1 tc
      have b1 := Int.mul_pos tc q2
      have b2 := ge_pp z1 q1
      omega
  · have z1 : 0 < ge_t X Y v u z := ge_lp a2 (by have := ge_np a1 t; omega)
    have q2 := o2.1 t
    rcases Int.lt_or_lt_of_ne hc.2.2.2.1 with tc | tc
    · have q1 := o1.2 tc
      have b1 := ge_pp tc q2
      have b2 := Int.mul_pos z1 q1
      omega
    · have q1 := o1.1 tc
      have b1 := ge_pn tc q2
      have b2 := ge_pn z1 q1
      omega
end
/-! how many -/
noncomputable def ge_c (P : Nat → Prop) : Nat → Nat
  | 0 => 0
  | k + 1 => ge_c P k + @ite _ (P k) (Classical.propDecidable _) 1 0
theorem ge_c_le {P Q : Nat → Prop} (h : ∀ s, P s → Q s) : ∀ k, ge_c P k ≤ ge_c Q k := by
  intro k
  induction k with
  | zero => exact Nat.le_refl _
  | succ k ih =>
    show ge_c P k + _ ≤ ge_c Q k + _
    by_cases p : P k
    · rw [@if_pos _ (Classical.propDecidable _) p, @if_pos _ (Classical.propDecidable _) (h k p)]; omega
    · rw [@if_neg _ (Classical.propDecidable _) p]; omega
theorem ge_c_lt {P Q : Nat → Prop} (h : ∀ s, P s → Q s) {x : Nat} (hq : Q x) (hp : ¬ P x) : ∀ k, x < k → ge_c P k < ge_c Q k := by
  intro k
  induction k with
  | zero => intro l; omega
  | succ k ih =>
    intro l
    show ge_c P k + _ < ge_c Q k + _
    by_cases e : x = k
    · subst e
      rw [@if_neg _ (Classical.propDecidable _) hp, @if_pos _ (Classical.propDecidable _) hq]
      have := ge_c_le h x
      omega
    · have := ih (by omega)
      by_cases p : P k
      · rw [@if_pos _ (Classical.propDecidable _) p, @if_pos _ (Classical.propDecidable _) (h k p)]; omega
      · rw [@if_neg _ (Classical.propDecidable _) p]; omega
section
variable {X Y : Nat → Int} {n : Nat}
/-- what is the same over a triangle at v, of two spots ahead of v, is the same for all spots ahead of v that have an edge with v -/
theorem ge_fanR (ho : ge_ok X Y n) {v : Nat} {f : Nat → Int} (hf : ∀ a b, ge_T X Y n v a b → ge_y X Y a < ge_y X Y v → ge_y X Y b < ge_y X Y v → f a = f b) :
    ∀ (m : Nat) (u p : Nat), ge_c (fun s => ge_t X Y v u s < 0 ∧ ge_t X Y v s p < 0) n < m → ge_e X Y n v u → ge_e X Y n v p → ge_y X Y u < ge_y X Y v → ge_y X Y p < ge_y X Y v → ge_t X Y v u p < 0 → f u = f p := by
  intro m
  induction m with
  | zero => intro u p h; omega
  | succ m ih =>
    intro u p hm hu hp ku kp t
    obtain ⟨cp, hcp⟩ := hp
    obtain ⟨d, hd⟩ := ge_ex ho hu hcp.2.1 t
    have hp : ge_e X Y n v p := ⟨cp, hcp⟩
    have i4 := ge_id4 X Y v u p d
    have sd : ge_t X Y v d p = -ge_t X Y v p d := ge_t_sw X Y v p d
    have a1 : ge_y X Y u - ge_y X Y v < 0 := by omega
    have a2 : ge_y X Y p - ge_y X Y v < 0 := by omega
    have hv : ge_e X Y n v d := ⟨u, ge_T_sw hd.1⟩
    have no : ¬ ge_t X Y v p d < 0 := fun q => ge_in_no hd hp t q
    have kd : ge_y X Y d < ge_y X Y v := by
      have b1 : (ge_y X Y u - ge_y X Y v) * ge_t X Y v p d ≤ 0 := Int.mul_nonpos_of_nonpos_of_nonneg (by omega) (by omega)
      have b2 := ge_pp a2 hd.2
      have b3 : 0 < ge_t X Y v u p * (ge_y X Y d - ge_y X Y v) := by rw [Int.mul_comm]; omega
      have := ge_ln t b3
      omega
    have e1 := hf u d hd.1 ku kd
    by_cases z : ge_t X Y v p d = 0
    · have := ge_one hv hp kd kp (by omega)
      rw [e1, this]
    · have t2 : ge_t X Y v d p < 0 := by omega
      rw [e1]
      refine ih d p ?_ hv hp kd kp t2
      have sub : ∀ s, (ge_t X Y v d s < 0 ∧ ge_t X Y v s p < 0) → (ge_t X Y v u s < 0 ∧ ge_t X Y v s p < 0) := fun s ⟨s1, s2⟩ => by
        refine ⟨?_, s2⟩
        have j1 := ge_id4 X Y v d p s
        have ss : ge_t X Y v s p = -ge_t X Y v p s := ge_t_sw X Y v p s
        have a3 : ge_y X Y d - ge_y X Y v < 0 := by omega
        have c1 := ge_np a3 (show 0 < ge_t X Y v p s by omega)
        have c2 := ge_pp a2 s1
        have c3 : 0 < ge_t X Y v d p * (ge_y X Y s - ge_y X Y v) := by rw [Int.mul_comm]; omega
        have ks := ge_ln t2 c3
        have j2 := ge_id4 X Y v u d s
        have c4 := ge_pp a1 s1
        have c5 := ge_pp ks hd.2
        exact ge_ln a3 (by omega)
      have dd : ge_t X Y v d d = 0 := by unfold ge_t; grind
      have lt := ge_c_lt (P := fun s => ge_t X Y v d s < 0 ∧ ge_t X Y v s p < 0) (Q := fun s => ge_t X Y v u s < 0 ∧ ge_t X Y v s p < 0) sub (x := d) ⟨hd.2, t2⟩ (fun q => absurd q.1 (by omega)) n hd.1.2.2.1
      omega
theorem ge_fan (ho : ge_ok X Y n) {v : Nat} {f : Nat → Int} (hf : ∀ a b, ge_T X Y n v a b → ge_y X Y a < ge_y X Y v → ge_y X Y b < ge_y X Y v → f a = f b)
    {u p : Nat} (hu : ge_e X Y n v u) (hp : ge_e X Y n v p) (ku : ge_y X Y u < ge_y X Y v) (kp : ge_y X Y p < ge_y X Y v) : f u = f p := by
  rcases Int.lt_trichotomy (ge_t X Y v u p) 0 with t | t | t
  · exact ge_fanR ho hf _ u p (Nat.lt_succ_self _) hu hp ku kp t
  · rw [ge_one hu hp ku kp t]
  · exact (ge_fanR ho hf _ p u (Nat.lt_succ_self _) hp hu kp ku (by rw [ge_t_sw]; omega)).symm
/-- sums that vanish round each triangle come from a height of the spots; it is 0 up to a bound, where the sums are -/
theorem ge_pot (ho : ge_ok X Y n) {φ : Nat → Nat → Int} {B : Int} (anti : ∀ u v, φ u v = -φ v u) (coc : ∀ a b c, ge_T X Y n a b c → φ a b + φ b c + φ c a = 0) (h0 : ∀ u v, ge_e X Y n u v → ge_y X Y u ≤ B → ge_y X Y v ≤ B → φ u v = 0) :
    ∀ d : Nat, ∃ c : Nat → Int, (∀ s, s < n → ge_y X Y s ≤ B → c s = 0) ∧ ∀ u v, ge_e X Y n u v → ge_y X Y u ≤ B + d → ge_y X Y v ≤ B + d → c v - c u = φ u v := by
  intro d
  induction d with
  | zero => exact ⟨fun _ => 0, fun _ _ _ => rfl, fun u v he h1 h2 => by rw [h0 u v he (by omega) (by omega)]; rfl⟩
  | succ d ih =>
    obtain ⟨c, c1, c2⟩ := ih
    by_cases ex : ∃ v, v < n ∧ ge_y X Y v = B + (d + 1 : Nat)
    · obtain ⟨v, hv, kv⟩ := ex
      have edge_n : ∀ {a b : Nat}, ge_e X Y n a b → a < n ∧ b < n ∧ a ≠ b := fun {a b} ⟨z, hz⟩ => ⟨hz.1, hz.2.1, (ge_t_ne hz.2.2.2.1).1⟩
      have low : ∀ {a : Nat}, a < n → a ≠ v → ge_y X Y a ≤ B + (d + 1 : Nat) → ge_y X Y a ≤ B + d := fun {a} ha ne k => by
        have : ge_y X Y a ≠ ge_y X Y v := fun e => ne (ge_y_inj ho ha hv e)
        omega
      by_cases nb : ∃ u, ge_e X Y n v u ∧ ge_y X Y u < ge_y X Y v
      · obtain ⟨u0, e0, k0⟩ := nb
        have key : ∀ u, ge_e X Y n v u → ge_y X Y u < ge_y X Y v → c u + φ u v = c u0 + φ u0 v := fun u eu ku => by
          refine ge_fan ho (f := fun s => c s + φ s v) (fun a b t ka kb => ?_) eu e0 ku k0
          have w := coc v a b t
          have w2 := c2 a b ⟨v, ge_T_rot t⟩ (by omega) (by omega)
          have w3 := anti v a
          try dsimp only
          omega
        refine ⟨fun s => if s = v then c u0 + φ u0 v else c s, fun s hs k => ?_, fun a b he ka kb => ?_⟩
        · dsimp only
          have : s ≠ v := fun e => by rw [e] at k; omega
          rw [if_neg this]; exact c1 s hs k
        · dsimp only
          obtain ⟨ha, hb, hab⟩ := edge_n he
          by_cases ea : a = v
          · have eb : b ≠ v := fun q => hab (by rw [ea, q])
            rw [if_pos ea, if_neg eb]
            rw [ea] at he
            have w := key b he (by have := low hb eb kb; omega)
            have w2 := anti a b
            rw [ea] at w2 ⊢
            omega
          · rw [if_neg ea]
            by_cases eb : b = v
            · rw [if_pos eb]
              rw [eb] at he ⊢
              have w := key a (ge_e_sym he) (by have := low ha ea ka; omega)
              omega
            · rw [if_neg eb]
              exact c2 a b he (low ha ea ka) (low hb eb kb)
      · refine ⟨fun s => if s = v then 0 else c s, fun s hs k => ?_, fun a b he ka kb => ?_⟩
        · dsimp only
          split
          · rfl
          · exact c1 s hs k
        · dsimp only
          obtain ⟨ha, hb, hab⟩ := edge_n he
          have ea : a ≠ v := fun ea => by
            have eb : b ≠ v := fun q => hab (by rw [ea, q])
            rw [ea] at he
            exact nb ⟨b, he, by have := low hb eb kb; omega⟩
          have eb : b ≠ v := fun eb => by
            rw [eb] at he
            exact nb ⟨a, ge_e_sym he, by have := low ha ea ka; omega⟩
          rw [if_neg ea, if_neg eb]
          exact c2 a b he (low ha ea ka) (low hb eb kb)
    · refine ⟨c, c1, fun a b he ka kb => ?_⟩
      obtain ⟨z, hz⟩ := id he
      have low : ∀ {a : Nat}, a < n → ge_y X Y a ≤ B + (d + 1 : Nat) → ge_y X Y a ≤ B + d := fun {a} ha k => by
        have : ge_y X Y a ≠ B + (d + 1 : Nat) := fun e => ex ⟨a, ha, e⟩
        omega
      exact c2 a b he (low hz.1 ka) (low hz.2.1 kb)
/-- THE SPOTS OF A RING WITH THE LEAST x ARE ALL HIGH OR ALL LOW. C: its crossings, of a high and a low spot; a triangle has both of its crossings there or none; each has a triangle on either side; Q: a property that goes along -/
theorem ge_ring (ho : ge_ok X Y n) {Hi : Nat → Prop} {C : Nat → Nat → Prop} (r1 : ∀ h w, C h w → h < n ∧ w < n ∧ Hi h ∧ ¬ Hi w)
    (r2 : ∀ a b c, ge_T X Y n a b c → Hi a → ¬ Hi b → ((Hi c → (C a b ↔ C c b)) ∧ (¬ Hi c → (C a b ↔ C a c))))
    (r3 : ∀ h w, C h w → (∃ r, ge_R X Y n w h r) ∧ ∃ l, ge_R X Y n h w l)
    (r4 : ∀ P : Nat → Nat → Prop, (∀ a b c, ge_T X Y n a b c → Hi a → ¬ Hi b → C a b → (Hi c → (P a b ↔ P c b)) ∧ (¬ Hi c → (P a b ↔ P a c))) → ∀ h w h' w', C h w → C h' w' → (P h w ↔ P h' w'))
    {h w h' w' : Nat} (c1 : C h w) (c2 : C h' w') (least : ∀ a b, C a b → X h ≤ X a ∧ X h ≤ X b) (same : X w' = X h) : False := by
  -- the signed crossings
  let φ : Nat → Nat → Int := fun u v => @ite _ (C v u) (Classical.propDecidable _) 1 (@ite _ (C u v) (Classical.propDecidable _) (-1) 0)
  have φ1 : ∀ {u v}, C v u → φ u v = 1 := fun {u v} q => @if_pos _ (Classical.propDecidable _) q _ _ _
  have asym : ∀ {u v}, C u v → ¬ C v u := fun {u v} q q' => (r1 _ _ q').2.2.2 (r1 _ _ q).2.2.1
  have φ2 : ∀ {u v}, C u v → φ u v = -1 := fun {u v} q => (@if_neg _ (Classical.propDecidable _) (asym q) _ _ _).trans (@if_pos _ (Classical.propDecidable _) q _ _ _)
  have φ0 : ∀ {u v}, ¬ C u v → ¬ C v u → φ u v = 0 := fun {u v} q q' => (@if_neg _ (Classical.propDecidable _) q' _ _ _).trans (@if_neg _ (Classical.propDecidable _) q _ _ _)
  have anti : ∀ u v, φ u v = -φ v u := fun u v => by
    by_cases q : C u v
    · rw [φ2 q, φ1 q]
    · by_cases q' : C v u
      · rw [φ1 q', φ2 q']; rfl
      · rw [φ0 q q', φ0 q' q]; rfl
  have nH : ∀ {u v}, Hi u → Hi v → φ u v = 0 := fun {u v} q q' => φ0 (fun z => (r1 _ _ z).2.2.2 q') (fun z => (r1 _ _ z).2.2.2 q)
  have nL : ∀ {u v}, ¬ Hi u → ¬ Hi v → φ u v = 0 := fun {u v} q q' => φ0 (fun z => q (r1 _ _ z).2.2.1) (fun z => q' (r1 _ _ z).2.2.1)
  have hw : ∀ {u v}, Hi u → ¬ Hi v → φ v u = @ite _ (C u v) (Classical.propDecidable _) 1 0 := fun {u v} q q' => by
    by_cases z : C u v
    · rw [φ1 z, @if_pos _ (Classical.propDecidable _) z]
    · rw [φ0 (fun z' => q' (r1 _ _ z').2.2.1) z, @if_neg _ (Classical.propDecidable _) z]
  have coc1 : ∀ a b c, ge_T X Y n a b c → Hi a → ¬ Hi b → φ a b + φ b c + φ c a = 0 := fun a b c t ha hb => by
    have q := r2 a b c t ha hb
    by_cases hc : Hi c
    · rw [anti a b, hw ha hb, hw hc hb, nH hc ha]
      have e := q.1 hc
      by_cases z : C a b
      · rw [@if_pos _ (Classical.propDecidable _) z, @if_pos _ (Classical.propDecidable _) (e.mp z)]; rfl
      · rw [@if_neg _ (Classical.propDecidable _) z, @if_neg _ (Classical.propDecidable _) (fun y => z (e.mpr y))]; rfl
    · rw [anti a b, hw ha hb, nL hb hc, hw ha hc]
      have e := q.2 hc
      by_cases z : C a b
      · rw [@if_pos _ (Classical.propDecidable _) z, @if_pos _ (Classical.propDecidable _) (e.mp z)]; rfl
      · rw [@if_neg _ (Classical.propDecidable _) z, @if_neg _ (Classical.propDecidable _) (fun y => z (e.mpr y))]; rfl
  have coc : ∀ a b c, ge_T X Y n a b c → φ a b + φ b c + φ c a = 0 := fun a b c t => by
    by_cases ha : Hi a <;> by_cases hb : Hi b <;> by_cases hc : Hi c
    · rw [nH ha hb, nH hb hc, nH hc ha]; rfl
    · have := coc1 b c a (ge_T_rot t) hb hc; omega
    · exact coc1 a b c t ha hb
    · exact coc1 a b c t ha hb
    · have := coc1 c a b (ge_T_rot (ge_T_rot t)) hc ha; omega
    · have := coc1 b c a (ge_T_rot t) hb hc; omega
    · have := coc1 c a b (ge_T_rot (ge_T_rot t)) hc ha; omega
    · rw [nL ha hb, nL hb hc, nL hc ha]; rfl
  -- no crossing of the ring up to the least x
  have third : ∀ {a b c}, ge_T X Y n a b c → C a b → X h ≤ X c := fun {a b c} t q => by
    obtain ⟨-, -, qa, qb⟩ := r1 _ _ q
    by_cases hc : Hi c
    · exact (least _ _ (((r2 a b c t qa qb).1 hc).mp q)).1
    · exact (least _ _ (((r2 a b c t qa qb).2 hc).mp q)).2
  have no : ∀ a b, C a b → ¬ (X a ≤ X h ∧ X b ≤ X h) := fun a b q ⟨qa, qb⟩ => by
    have l := least a b q
    obtain ⟨⟨r, hr⟩, ⟨s, hs⟩⟩ := r3 a b q
    have t1 := third (ge_T_sw (ge_T_rot hr.1)) q
    have t2 := third hs.1 q
    have u1 := hr.2
    have u2 := hs.2
    unfold ge_t at u1 u2
    rw [show X a - X b = 0 by omega, Int.zero_mul] at u1
    rw [show X b - X a = 0 by omega, Int.zero_mul] at u2
    have v1 : 0 < (Y a - Y b) * (X r - X b) := by omega
    have v2 : 0 < (Y b - Y a) * (X s - X a) := by omega
    rcases Int.lt_or_le (Y a - Y b) 0 with y | y
    · have := ge_ln y v1; omega
    · have y' : Y b - Y a ≤ 0 := by omega
      rcases Int.lt_or_le (Y b - Y a) 0 with y2 | y2
      · have := ge_ln y2 v2; omega
      · rw [show Y b - Y a = 0 by omega, Int.zero_mul] at v2; omega
  have xb : ∀ {s}, s < n → (ge_y X Y s ≤ 64 * X h + 63 ↔ X s ≤ X h) := fun {s} hs => by
    obtain ⟨a1, a2, a3, a4⟩ := ho.2.1 s hs
    unfold ge_y ge_k
    omega
  have h0 : ∀ u v, ge_e X Y n u v → ge_y X Y u ≤ 64 * X h + 63 → ge_y X Y v ≤ 64 * X h + 63 → φ u v = 0 := fun u v he k1 k2 => by
    obtain ⟨z, hz⟩ := he
    have x1 := (xb hz.1).mp k1
    have x2 := (xb hz.2.1).mp k2
    exact φ0 (fun q => no _ _ q ⟨x1, x2⟩) (fun q => no _ _ q ⟨x2, x1⟩)
  obtain ⟨p, p1, p2⟩ := ge_pot ho anti coc h0 8192
  obtain ⟨hh, -, -, -⟩ := r1 _ _ c1
  obtain ⟨-, hw', -, -⟩ := r1 _ _ c2
  obtain ⟨b1, b2, -, -⟩ := ho.2.1 h hh
  have all : ∀ u v, ge_e X Y n u v → p v - p u = φ u v := fun u v he => by
    obtain ⟨z, hz⟩ := id he
    have e1 := ho.2.1 u hz.1
    have e2 := ho.2.1 v hz.2.1
    refine p2 u v he ?_ ?_ <;> (unfold ge_y ge_k; omega)
  have q1 := p1 h hh ((xb hh).mpr (Int.le_refl _))
  have q2 := p1 w' hw' ((xb hw').mpr (by omega))
  have ed : ∀ {a b}, C a b → ge_e X Y n a b := fun {a b} q => by
    obtain ⟨-, l, hl⟩ := r3 a b q
    exact ⟨l, hl.1⟩
  -- the height of the high side
  have P := r4 (fun a _ => p a = p h) (fun a b c t ha hb q => ⟨fun hc => ?_, fun hc => Iff.rfl⟩) h w h' w' c1 c2
  · have s1 := P.mp rfl
    have s2 := all w' h' (ge_e_sym (ed c2))
    rw [φ1 c2] at s2
    have s1 : p h' = p h := s1
    omega
  · have e := all a c ⟨b, ge_T_sw t⟩
    rw [nH ha hc] at e
    have e : p c = p a := by omega
    show p a = p h ↔ p c = p h
    rw [e]
end
end
section
/-! Walks along a partial one-to-one map of codes (crossings that go on to one another): nothing here speaks of the machine. F x = none: it ends there. -/
/-- i steps -/
def cr_w (F : Nat → Option Nat) : Nat → Nat → Option Nat
  | 0, x => some x
  | i + 1, x => (cr_w F i x).bind F
theorem cr_w_s {F : Nat → Option Nat} {i x y : Nat} (h : cr_w F i x = some y) : cr_w F (i + 1) x = F y := by
  show (cr_w F i x).bind F = F y
  rw [h]; rfl
theorem cr_w_p {F : Nat → Option Nat} {i x z : Nat} (h : cr_w F (i + 1) x = some z) : ∃ y, cr_w F i x = some y ∧ F y = some z := by
  have h : (cr_w F i x).bind F = some z := h
  cases e : cr_w F i x with
  | none => rw [e] at h; cases h
  | some y => rw [e] at h; exact ⟨y, rfl, h⟩
theorem cr_w_le {F : Nat → Option Nat} {x z : Nat} : ∀ (d i : Nat), cr_w F (i + d) x = some z → ∃ y, cr_w F i x = some y := by
  intro d
  induction d generalizing z with
  | zero => intro i h; exact ⟨z, h⟩
  | succ d ih => intro i h; obtain ⟨y, h1, -⟩ := cr_w_p (i := i + d) h; exact ih i h1
/-- one to one: from two places the same end, the same way long: the same place -/
theorem cr_w_inj {F : Nat → Option Nat} (inj : ∀ a b c, F a = some c → F b = some c → a = b) : ∀ (i : Nat) {x y z : Nat}, cr_w F i x = some z → cr_w F i y = some z → x = y := by
  intro i
  induction i with
  | zero => intro x y z h1 h2; cases h1; cases h2; rfl
  | succ i ih =>
    intro x y z h1 h2
    obtain ⟨a, a1, a2⟩ := cr_w_p h1
    obtain ⟨b, b1, b2⟩ := cr_w_p h2
    have := inj a b z a2 b2
    subst this
    exact ih a1 b1
theorem cr_w_add {F : Nat → Option Nat} : ∀ (j i : Nat) {x y z : Nat}, cr_w F i x = some y → cr_w F j y = some z → cr_w F (i + j) x = some z := by
  intro j
  induction j with
  | zero => intro i x y z h1 h2; cases h2; exact h1
  | succ j ih =>
    intro i x y z h1 h2
    obtain ⟨a, a1, a2⟩ := cr_w_p h2
    have h3 := ih i h1 a1
    show cr_w F ((i + j) + 1) x = some z
    rw [cr_w_s h3]; exact a2
theorem cr_w_mid {F : Nat → Option Nat} {i d x y z : Nat} (h1 : cr_w F i x = some y) (h2 : cr_w F (i + d) x = some z) : cr_w F d y = some z := by
  induction d generalizing z with
  | zero => rw [Nat.add_zero, h1] at h2; cases h2; rfl
  | succ d ih =>
    obtain ⟨a, a1, a2⟩ := cr_w_p (i := i + d) h2
    rw [cr_w_s (ih a1)]; exact a2
/-- as long as it has not come back, it is at a new place -/
theorem cr_new {F : Nat → Option Nat} (inj : ∀ a b c, F a = some c → F b = some c → a = b) {x k : Nat} (hb : ∀ j, 0 < j → j ≤ k → cr_w F j x ≠ some x) {i j y : Nat} (hij : i < j) (hj : j ≤ k) (h1 : cr_w F i x = some y) (h2 : cr_w F j x = some y) : False := by
  obtain ⟨d, rfl⟩ : ∃ d, j = d + i := ⟨j - i, by omega⟩
  obtain ⟨a, a1⟩ := cr_w_le i d h2
  have a2 : cr_w F i a = some y := cr_w_mid a1 h2
  have := cr_w_inj inj i a2 h1
  subst this
  exact hb d (by omega) (by omega) a1
/-- the walk from x: k steps, each at a new place, and then the end, or x again -/
def cr_is (F : Nat → Option Nat) (x k : Nat) : Prop := (∃ y, cr_w F k x = some y ∧ (F y = none ∨ F y = some x)) ∧ ∀ j, 0 < j → j ≤ k → cr_w F j x ≠ some x
theorem cr_is_u {F : Nat → Option Nat} {x k k' : Nat} (h : cr_is F x k) (h' : cr_is F x k') : k = k' := by
  have go : ∀ {a b : Nat}, cr_is F x a → cr_is F x b → ¬ a < b := by
    intro a b ha hb hab
    obtain ⟨⟨y, y1, y2⟩, -⟩ := ha
    obtain ⟨⟨z, z1, -⟩, zb⟩ := hb
    obtain ⟨d, rfl⟩ : ∃ d, b = (a + 1) + d := ⟨b - (a + 1), by omega⟩
    obtain ⟨u, u1⟩ := cr_w_le d (a + 1) z1
    rw [cr_w_s y1] at u1
    rcases y2 with q | q
    · rw [q] at u1; cases u1
    · exact zb (a + 1) (by omega) (by omega) (by rw [cr_w_s y1]; exact q)
  rcases Nat.lt_trichotomy k k' with l | l | l
  · exact absurd l (go h h')
  · exact l
  · exact absurd l (go h' h)
theorem cr_php : ∀ (N k : Nat) (f : Nat → Nat), (∀ i, i < k → f i < N) → (∀ i j, i < j → j < k → f i ≠ f j) → k ≤ N := by
  intro N
  induction N with
  | zero => intro k f h _; rcases Nat.eq_zero_or_pos k with h0 | h0; omega; exact absurd (h 0 h0) (by omega)
  | succ N ih =>
    intro k f h inj
    rcases Nat.eq_zero_or_pos k with h0 | h0
    · omega
    obtain ⟨k', rfl⟩ : ∃ k', k = k' + 1 := ⟨k - 1, by omega⟩
    have := ih k' (fun i => if f i = N then f k' else f i) (fun i hi => by
      try dsimp only
      have a := h i (by omega)
      have b := h k' (by omega)
      have c := inj i k' hi (by omega)
      split <;> omega) (fun i j hi hj => by
      try dsimp only
      have a := inj i j hi (by omega)
      have b := inj i k' (by omega) (by omega)
      have c := inj j k' hj (by omega)
      split <;> split <;> omega)
    omega
/-- there is such a walk, of fewer than M steps, where all its places have numbers below M -/
theorem cr_ex {F : Nat → Option Nat} (inj : ∀ a b c, F a = some c → F b = some c → a = b) {S : Nat → Prop} (hF : ∀ a b, F a = some b → S b) {ix : Nat → Nat} {M : Nat} (hi : ∀ a, S a → ix a < M) (hj : ∀ a b, S a → S b → ix a = ix b → a = b) {x : Nat} (hx : S x) :
    ∃ k, k < M ∧ cr_is F x k := by
  refine Classical.byContradiction fun hno => ?_
  have hno : ∀ k, k < M → ¬ cr_is F x k := fun k hk h => hno ⟨k, hk, h⟩
  have all : ∀ k, k ≤ M → (∃ y, cr_w F k x = some y) ∧ ∀ j, 0 < j → j ≤ k → cr_w F j x ≠ some x := by
    intro k
    induction k with
    | zero => intro _; exact ⟨⟨x, rfl⟩, fun j h1 h2 => by omega⟩
    | succ k ih =>
      intro hk
      obtain ⟨⟨y, y1⟩, y2⟩ := ih (by omega)
      have n := hno k (by omega)
      have e := cr_w_s y1
      cases q : F y with
      | none => exact absurd ⟨⟨y, y1, Or.inl q⟩, y2⟩ n
      | some z =>
        have nz : z ≠ x := fun h => n ⟨⟨y, y1, Or.inr (by rw [q, h])⟩, y2⟩
        refine ⟨⟨z, by rw [e]; exact q⟩, fun j h1 h2 => ?_⟩
        rcases Nat.lt_or_ge j (k + 1) with l | l
        · exact y2 j h1 (by omega)
        · have : j = k + 1 := by omega
          subst this
          rw [e, q]
          exact fun h => nz (Option.some.inj h)
  obtain ⟨-, hb⟩ := all M (Nat.le_refl _)
  have dd : ∀ k, k ≤ M → ∃ y, cr_w F k x = some y := fun k hk => (all k hk).1
  have pl : ∀ k, ∃ y, k ≤ M → cr_w F k x = some y := fun k => by
    by_cases l : k ≤ M
    · obtain ⟨y, hy⟩ := dd k l; exact ⟨y, fun _ => hy⟩
    · exact ⟨0, fun l' => absurd l' l⟩
  have P : ∀ k, k ≤ M → cr_w F k x = some (Classical.choose (pl k)) := fun k => Classical.choose_spec (pl k)
  have inS : ∀ k, k ≤ M → S (Classical.choose (pl k)) := fun k hk => by
    have h := P k hk
    rcases Nat.eq_zero_or_pos k with h0 | h0
    · subst h0
      have : x = Classical.choose (pl 0) := Option.some.inj h
      rw [← this]; exact hx
    · obtain ⟨k', rfl⟩ : ∃ k', k = k' + 1 := ⟨k - 1, by omega⟩
      obtain ⟨y, -, y2⟩ := cr_w_p h
      exact hF _ _ y2
  have := cr_php M (M + 1) (fun k => ix (Classical.choose (pl k))) (fun k hk => hi _ (inS k (by omega))) (fun i j hij hjk e => by
    have e2 := hj _ _ (inS i (by omega)) (inS j (by omega)) e
    have a := P i (by omega)
    have b := P j (by omega)
    rw [e2] at a
    exact cr_new inj hb hij (by omega) a b)
  omega
/-! there and back: N and B undo one another -/
theorem cr_back {N B : Nat → Option Nat} (inv : ∀ x y, N x = some y ↔ B y = some x) : ∀ (i : Nat) {x y : Nat}, cr_w N i x = some y → cr_w B i y = some x := by
  intro i
  induction i with
  | zero => intro x y h; cases h; rfl
  | succ i ih =>
    intro x y h
    obtain ⟨z, z1, z2⟩ := cr_w_p h
    have h1 : cr_w B 1 y = some z := by show (some y).bind B = some z; exact (inv z y).mp z2
    have := cr_w_add i 1 h1 (ih z1)
    rw [Nat.add_comm] at this
    exact this
theorem cr_injN {N B : Nat → Option Nat} (inv : ∀ x y, N x = some y ↔ B y = some x) : ∀ a b c, N a = some c → N b = some c → a = b := fun a b c h1 h2 => by
  have e1 := (inv a c).mp h1
  have e2 := (inv b c).mp h2
  rw [e1] at e2
  exact Option.some.inj e2
theorem cr_injB {N B : Nat → Option Nat} (inv : ∀ x y, N x = some y ↔ B y = some x) : ∀ a b c, B a = some c → B b = some c → a = b := fun a b c h1 h2 => by
  have e1 := (inv c a).mpr h1
  have e2 := (inv c b).mpr h2
  rw [e1] at e2
  exact Option.some.inj e2
/-- where a contour through x begins: back to the border, or x itself -/
def cr_beg (B : Nat → Option Nat) (x f : Nat) : Prop := ∃ k, cr_is B x k ∧ ((∃ y, cr_w B k x = some y ∧ B y = none ∧ f = y) ∨ (∃ y, cr_w B k x = some y ∧ B y = some x ∧ f = x))
theorem cr_beg_u {B : Nat → Option Nat} {x f f' : Nat} (h : cr_beg B x f) (h' : cr_beg B x f') : f = f' := by
  obtain ⟨k, k1, k2⟩ := h
  obtain ⟨k', k3, k4⟩ := h'
  have := cr_is_u k1 k3
  subst this
  rcases k2 with ⟨y, y1, y2, rfl⟩ | ⟨y, y1, y2, rfl⟩ <;> rcases k4 with ⟨z, z1, z2, rfl⟩ | ⟨z, z1, z2, rfl⟩
  · rw [y1] at z1; exact Option.some.inj z1
  · rw [y1] at z1; cases z1; rw [y2] at z2; cases z2
  · rw [y1] at z1; cases z1; rw [y2] at z2; cases z2
  · rfl
theorem cr_beg_ex {B : Nat → Option Nat} {x k : Nat} (h : cr_is B x k) : ∃ f, cr_beg B x f := by
  obtain ⟨y, y1, y2⟩ := h.1
  rcases y2 with q | q
  · exact ⟨y, k, h, Or.inl ⟨y, y1, q, rfl⟩⟩
  · exact ⟨x, k, h, Or.inr ⟨y, y1, q, rfl⟩⟩
/-- the walk on from the beginning ends at the border just if it began there -/
theorem cr_ends {N B : Nat → Option Nat} (inv : ∀ x y, N x = some y ↔ B y = some x) {x f m y : Nat} (hb : cr_beg B x f) (hm : cr_is N f m) (hy : cr_w N m f = some y) : (N y = none ∧ B f = none) ∨ (N y = some f ∧ B f = some y) := by
  obtain ⟨⟨y', y1, y2⟩, nb⟩ := hm
  rw [y1] at hy
  cases hy
  rcases y2 with q | q
  · refine Or.inl ⟨q, ?_⟩
    obtain ⟨k, k1, k2⟩ := hb
    rcases k2 with ⟨z, z1, z2, rfl⟩ | ⟨z, z1, z2, rfl⟩
    · exact z2
    · exfalso
      have r : cr_w B (k + 1) f = some f := by rw [cr_w_s z1]; exact z2
      have inv' : ∀ a b, B a = some b ↔ N b = some a := fun a b => (inv b a).symm
      have r2 : cr_w N (k + 1) f = some f := cr_back inv' (k + 1) r
      rcases Nat.lt_or_ge m (k + 1) with l | l
      · obtain ⟨d, e⟩ : ∃ d, k + 1 = (m + 1) + d := ⟨k - m, by omega⟩
        rw [e] at r2
        obtain ⟨u, u1⟩ := cr_w_le d (m + 1) r2
        rw [cr_w_s y1, q] at u1
        cases u1
      · exact nb (k + 1) (by omega) l r2
  · exact Or.inr ⟨q, (inv y f).mp q⟩
/-- a set that is closed under both -/
def cr_cl (N : Nat → Option Nat) (T : Nat → Prop) : Prop := ∀ x y, N x = some y → (T x ↔ T y)
theorem cr_cl_w {N : Nat → Option Nat} {T : Nat → Prop} (h : cr_cl N T) : ∀ (i : Nat) {x y : Nat}, cr_w N i x = some y → (T x ↔ T y) := by
  intro i
  induction i with
  | zero => intro x y e; cases e; exact Iff.rfl
  | succ i ih =>
    intro x y e
    obtain ⟨z, z1, z2⟩ := cr_w_p e
    exact (ih z1).trans (h z y z2)
/-- nothing of the contour of x is in T, if x isn't -/
theorem cr_beg_out {N B : Nat → Option Nat} (inv : ∀ x y, N x = some y ↔ B y = some x) {T : Nat → Prop} (h : cr_cl N T) {x f : Nat} (hx : ¬ T x) (hb : cr_beg B x f) : ¬ T f := by
  obtain ⟨k, -, k2⟩ := hb
  have inv' : ∀ a b, B a = some b ↔ N b = some a := fun a b => (inv b a).symm
  have go : ∀ {y}, cr_w B k x = some y → ¬ T y := fun {y} e => by
    have e2 : cr_w N k y = some x := cr_back inv' k e
    exact fun t => hx ((cr_cl_w h k e2).mp t)
  rcases k2 with ⟨z, z1, z2, rfl⟩ | ⟨z, z1, z2, rfl⟩
  · exact go z1
  · exact hx
/-- with the contour the set is closed again -/
theorem cr_cl_add {N B : Nat → Option Nat} (inv : ∀ x y, N x = some y ↔ B y = some x) {T : Nat → Prop} (h : cr_cl N T) {x f m : Nat} (hb : cr_beg B x f) (hm : cr_is N f m) : cr_cl N (fun z => T z ∨ ∃ j, j ≤ m ∧ cr_w N j f = some z) := by
  obtain ⟨⟨ye, ye1, -⟩, -⟩ := id hm
  have en := cr_ends inv hb hm ye1
  intro a b e
  constructor
  · rintro (t | ⟨j, j1, j2⟩)
    · exact Or.inl ((h a b e).mp t)
    · rcases Nat.lt_or_ge j m with l | l
      · exact Or.inr ⟨j + 1, by omega, by rw [cr_w_s j2]; exact e⟩
      · have : j = m := by omega
        subst this
        rw [ye1] at j2
        cases j2
        rcases en with ⟨q, -⟩ | ⟨q, -⟩
        · rw [q] at e; cases e
        · rw [q] at e; cases e; exact Or.inr ⟨0, by omega, rfl⟩
  · rintro (t | ⟨j, j1, j2⟩)
    · exact Or.inl ((h a b e).mpr t)
    · rcases Nat.eq_zero_or_pos j with j0 | j0
      · subst j0
        cases j2
        have eb := (inv a f).mp e
        rcases en with ⟨-, q⟩ | ⟨-, q⟩
        · rw [q] at eb; cases eb
        · rw [q] at eb; cases eb; exact Or.inr ⟨m, Nat.le_refl _, ye1⟩
      · obtain ⟨j', rfl⟩ : ∃ j', j = j' + 1 := ⟨j - 1, by omega⟩
        obtain ⟨z, z1, z2⟩ := cr_w_p j2
        have := cr_injN inv z a b z2 e
        subst this
        exact Or.inr ⟨j', by omega, z1⟩
end
section
/-! What each method needs of the state, and what it answers, read off its bytecode by a program: printed. -/
def wp_li_size (g : St) (post : Int32 → St → Prop) : Prop :=
  (post (g 3 5) g)
def wp_li_isLine (x1 : Int32) (g : St) (post : Int32 → St → Prop) : Prop :=
  ((x1 < 0 → (post 0 g)) ∧ (¬ (x1 < 0) → (((g 3 5) ≤ x1 → (post 0 g)) ∧ (¬ ((g 3 5) ≤ x1) → (post 1 g)))))
def wp_li_length (x1 : Int32) (g : St) (post : Int32 → St → Prop) : Prop :=
  (vp_in (x1 + 1) 121 ∧ (vp_in x1 121 ∧ (post ((g 12 (ix (x1 + 1))) - (g 12 (ix x1))) g)))
def wp_li_isRing (x1 : Int32) (g : St) (post : Int32 → St → Prop) : Prop :=
  (vp_in x1 120 ∧ (narrow .boolean (.int (g 13 (ix x1))) = .int (g 13 (ix x1)) ∧ post (g 13 (ix x1)) g))
def wp_li_pair (x1 : Int32) (x2 : Int32) (g : St) (post : Int32 → St → Prop) : Prop :=
  (vp_in x1 121 ∧ (vp_in ((g 12 (ix x1)) + x2) 120 ∧ (post (g 11 (ix ((g 12 (ix x1)) + x2))) g)))
def wp_sc_highOf (x0 : Int32) (g : St) (post : Int32 → St → Prop) : Prop :=
  (post (x0 / 16) g)
def wp_sp_x (x1 : Int32) (g : St) (post : Int32 → St → Prop) : Prop :=
  (vp_in x1 16 ∧ (post (g 5 (ix x1)) g))
def wp_li_moreLeft (x1 : Int32) (x2 : Int32) (g : St) (post : Int32 → St → Prop) : Prop :=
  (wp_sp_x x2 g (fun r2 g1 => (wp_sp_x x1 g1 (fun r4 g3 => ((r4 ≤ r2 → (post x1 g3)) ∧ (¬ (r4 ≤ r2) → (post x2 g3)))))))
def wp_sc_lowOf (x0 : Int32) (g : St) (post : Int32 → St → Prop) : Prop :=
  (post (x0 - x0 / 16 * 16) g)
def lp_li_isHollow_L13 : Nat → Int32 → Int32 → Int32 → St → (Int32 → St → Prop) → (Int32 → St → Prop) → Prop
  | 0, _, _, _, _, _, _ => False
  | n + 1, v2, v3, v4, g, K61, post => (wp_li_length v2 g (fun r6 g5 => ((r6 ≤ v4 → (K61 v3 g5)) ∧ (¬ (r6 ≤ v4) → (wp_li_pair v2 v4 g5 (fun r8 g7 => (wp_sc_highOf r8 g7 (fun r10 g9 => (wp_li_moreLeft v3 r10 g9 (fun r12 g11 => (wp_li_pair v2 v4 g11 (fun r14 g13 => (wp_sc_lowOf r14 g13 (fun r16 g15 => (wp_li_moreLeft r12 r16 g15 (fun r18 g17 => (lp_li_isHollow_L13 n v2 r18 (v4 + 1) g17 K61 post)))))))))))))))))
def wp_li_isHollow (x2 : Int32) (g : St) (post : Int32 → St → Prop) : Prop :=
  (wp_li_pair x2 0 g (fun r2 g1 => (wp_sc_highOf r2 g1 (fun r4 g3 => (∃ k13, lp_li_isHollow_L13 k13 x2 r4 0 g3 (fun w20 g19 => (vp_in w20 16 ∧ (narrow .boolean (.int (g19 10 (ix w20))) = .int (g19 10 (ix w20)) ∧ post (g19 10 (ix w20)) g19))) post)))))
def lp_li_clear_L7 : Nat → Int32 → St → (St → Prop) → (St → Prop) → Prop
  | 0, _, _, _, _ => False
  | n + 1, v1, g, K27, post => ((256 ≤ v1 → (K27 g)) ∧ (¬ (256 ≤ v1) → (vp_in v1 256 ∧ ∀ g2 : St, g2 = gp g 14 (ix v1) (vp_nar .boolean 0) → (lp_li_clear_L7 n (v1 + 1) g2 K27 post))))
def wp_li_clear (g : St) (post : St → Prop) : Prop :=
  (∀ g1 : St, g1 = gp g 3 5 0 → (∃ k7, lp_li_clear_L7 k7 0 g1 (fun g3 => (post g3)) post))
def wp_sp_size (g : St) (post : Int32 → St → Prop) : Prop :=
  (post (g 1 3) g)
def wp_sp_height (x1 : Int32) (g : St) (post : Int32 → St → Prop) : Prop :=
  (vp_in x1 16 ∧ (post (g 7 (ix x1)) g))
def wp_me_thirdRightOf (x1 : Int32) (x2 : Int32) (g : St) (post : Int32 → St → Prop) : Prop :=
  (vp_in ((16 * x1) + x2) 256 ∧ (post (g 9 (ix ((16 * x1) + x2))) g))
def jn_me_sharing_J22 (v1 : Int32) (v2 : Int32) (s0 : Int32) (g : St) (post : Int32 → St → Prop) : Prop :=
  (wp_me_thirdRightOf v2 v1 g (fun r4 g3 => ((¬ (r4 = (-1)) → (post (s0 + 1) g3)) ∧ (r4 = (-1) → (post (s0 + 0) g3)))))
def wp_me_sharing (x1 : Int32) (x2 : Int32) (g : St) (post : Int32 → St → Prop) : Prop :=
  ((¬ (x1 = x2) → (wp_me_thirdRightOf x1 x2 g (fun r2 g1 => ((¬ (r2 = (-1)) → (jn_me_sharing_J22 x1 x2 1 g1 post)) ∧ (r2 = (-1) → (jn_me_sharing_J22 x1 x2 0 g1 post)))))) ∧ (x1 = x2 → (post 0 g)))
def wp_li_otherPair (x1 : Int32) (x2 : Int32) (x3 : Int32) (g : St) (post : Int32 → St → Prop) : Prop :=
  ((¬ (x3 = (-1)) → (vp_in x3 16 ∧ (((g 10 (ix x3)) = 0 → (post ((16 * x1) + x3) g)) ∧ (¬ ((g 10 (ix x3)) = 0) → (post ((16 * x3) + x2) g))))) ∧ (x3 = (-1) → (post (-1) g)))
def wp_li_before (x2 : Int32) (g : St) (post : Int32 → St → Prop) : Prop :=
  (wp_sc_highOf x2 g (fun r2 g1 => (wp_sc_lowOf x2 g1 (fun r4 g3 => (wp_me_thirdRightOf r2 r4 g3 (fun r6 g5 => (wp_li_otherPair r2 r4 r6 g5 (fun r8 g7 => (post r8 g7)))))))))
def lp_li_beginning_L5 : Nat → Int32 → Int32 → Int32 → St → (Int32 → St → Prop) → (Int32 → St → Prop) → Prop
  | 0, _, _, _, _, _, _ => False
  | n + 1, v2, v3, v4, g, K45, post => ((120 ≤ v4 → (K45 v2 g)) ∧ (¬ (120 ≤ v4) → (wp_li_before v3 g (fun r2 g1 => ((¬ (r2 = (-1)) → ((¬ (r2 = v2) → (lp_li_beginning_L5 n v2 r2 (v4 + 1) g1 K45 post)) ∧ (r2 = v2 → (post v2 g1)))) ∧ (r2 = (-1) → (post v3 g1)))))))
def wp_li_beginning (x2 : Int32) (g : St) (post : Int32 → St → Prop) : Prop :=
  (∃ k5, lp_li_beginning_L5 k5 x2 x2 0 g (fun w4 g3 => (post w4 g3)) post)
def wp_li_behind (x2 : Int32) (g : St) (post : Int32 → St → Prop) : Prop :=
  (wp_sc_highOf x2 g (fun r2 g1 => (wp_sc_lowOf x2 g1 (fun r4 g3 => (wp_me_thirdRightOf r4 r2 g3 (fun r6 g5 => (wp_li_otherPair r2 r4 r6 g5 (fun r8 g7 => (post r8 g7)))))))))
def lp_li_traceFrom_L65 : Nat → Int32 → Int32 → Int32 → St → (Int32 → St → Prop) → (St → Prop) → Prop
  | 0, _, _, _, _, _, _ => False
  | n + 1, v3, v4, v5, g, K120, post => ((120 ≤ v5 → (K120 v4 g)) ∧ (¬ (120 ≤ v5) → ((v3 = (-1) → (K120 v4 g)) ∧ (¬ (v3 = (-1)) → (vp_in v3 256 ∧ ((¬ ((g 14 (ix v3)) = 0) → (K120 v4 g)) ∧ ((g 14 (ix v3)) = 0 → (vp_in v5 120 ∧ ∀ g6 : St, g6 = gp g 11 (ix v5) v3 → (vp_in v3 256 ∧ ∀ g7 : St, g7 = gp g6 14 (ix v3) (vp_nar .boolean 1) → (wp_li_behind v3 g7 (fun r9 g8 => (lp_li_traceFrom_L65 n r9 (v5 + 1) (v5 + 1) g8 K120 post))))))))))))
def jn_li_traceFrom_J120 (v4 : Int32) (g : St) (post : St → Prop) : Prop :=
  (∀ g12 : St, g12 = gp g 3 5 ((g 3 5) + 1) → (vp_in (g12 3 5) 121 ∧ ∀ g13 : St, g13 = gp g12 12 (ix (g12 3 5)) v4 → (post g13)))
def jn_li_traceFrom_J49 (v3 : Int32) (s1 : Int32) (s2 : Int32) (g : St) (post : St → Prop) : Prop :=
  (vp_in s1 120 ∧ ∀ g5 : St, g5 = gp g 13 (ix s1) (vp_nar .boolean s2) → (vp_in (g5 3 5) 121 ∧ (∃ k65, lp_li_traceFrom_L65 k65 v3 (g5 12 (ix (g5 3 5))) (g5 12 (ix (g5 3 5))) g5 (fun w11 g10 => (jn_li_traceFrom_J120 w11 g10 post)) post)))
def wp_li_traceFrom (x2 : Int32) (g : St) (post : St → Prop) : Prop :=
  (vp_in x2 256 ∧ ((¬ ((g 14 (ix x2)) = 0) → (post g)) ∧ ((g 14 (ix x2)) = 0 → (((g 3 5) < 120 → (wp_li_beginning x2 g (fun r2 g1 => (wp_li_before r2 g1 (fun r4 g3 => ((r4 = (-1) → (jn_li_traceFrom_J49 r2 (g1 3 5) 0 g3 post)) ∧ (¬ (r4 = (-1)) → (jn_li_traceFrom_J49 r2 (g1 3 5) 1 g3 post)))))))) ∧ (¬ ((g 3 5) < 120) → (post g))))))
def lp_li_trace_L7 : Nat → Int32 → Int32 → St → (St → Prop) → (St → Prop) → Prop
  | 0, _, _, _, _, _ => False
  | n + 1, v3, v4, g, K44, post => (wp_sp_size g (fun r3 g2 => ((r3 ≤ v4 → (K44 g2)) ∧ (¬ (r3 ≤ v4) → (wp_sp_height v4 g2 (fun r5 g4 => ((r5 ≤ v3 → (vp_in v4 16 ∧ ∀ g6 : St, g6 = gp g4 10 (ix v4) (vp_nar .boolean 0) → (lp_li_trace_L7 n v3 (v4 + 1) g6 K44 post))) ∧ (¬ (r5 ≤ v3) → (vp_in v4 16 ∧ ∀ g7 : St, g7 = gp g4 10 (ix v4) (vp_nar .boolean 1) → (lp_li_trace_L7 n v3 (v4 + 1) g7 K44 post))))))))))
def lp_li_trace_L62 : Nat → Int32 → Int32 → St → (Int32 → St → Prop) → (St → Prop) → Prop
  | 0, _, _, _, _, _ => False
  | n + 1, v4, v5, g, K139, post => (wp_sp_size g (fun r12 g11 => ((r12 ≤ v5 → (K139 v4 g11)) ∧ (¬ (r12 ≤ v5) → (vp_in v4 16 ∧ (vp_in v5 16 ∧ (((g11 10 (ix v4)) = (g11 10 (ix v5)) → (lp_li_trace_L62 n v4 (v5 + 1) g11 K139 post)) ∧ (¬ ((g11 10 (ix v4)) = (g11 10 (ix v5))) → (wp_me_sharing v4 v5 g11 (fun r14 g13 => ((r14 ≤ 0 → (lp_li_trace_L62 n v4 (v5 + 1) g13 K139 post)) ∧ (¬ (r14 ≤ 0) → (vp_in v4 16 ∧ (((g13 10 (ix v4)) = 0 → (wp_li_traceFrom ((16 * v5) + v4) g13 (fun g15 => (lp_li_trace_L62 n v4 (v5 + 1) g15 K139 post)))) ∧ (¬ ((g13 10 (ix v4)) = 0) → (wp_li_traceFrom ((16 * v4) + v5) g13 (fun g16 => (lp_li_trace_L62 n v4 (v5 + 1) g16 K139 post))))))))))))))))))
def lp_li_trace_L47 : Nat → Int32 → St → (St → Prop) → (St → Prop) → Prop
  | 0, _, _, _, _ => False
  | n + 1, v4, g, K145, post => (wp_sp_size g (fun r10 g9 => ((r10 ≤ v4 → (K145 g9)) ∧ (¬ (r10 ≤ v4) → (∃ k62, lp_li_trace_L62 k62 v4 (v4 + 1) g9 (fun w18 g17 => (lp_li_trace_L47 n (w18 + 1) g17 K145 post)) post)))))
def wp_li_trace (x3 : Int32) (g : St) (post : St → Prop) : Prop :=
  (wp_li_clear g (fun g1 => (∃ k7, lp_li_trace_L7 k7 x3 0 g1 (fun g8 => (∃ k47, lp_li_trace_L47 k47 0 g8 (fun g19 => (post g19)) post)) post)))
def wp_me_size (g : St) (post : Int32 → St → Prop) : Prop :=
  (post (g 2 2) g)
def wp_me_cornerOf (x1 : Int32) (x2 : Int32) (g : St) (post : Int32 → St → Prop) : Prop :=
  (vp_in ((3 * x1) + x2) 81 ∧ (post (g 8 (ix ((3 * x1) + x2))) g))
def lp_me_clear_L7 : Nat → Int32 → St → (St → Prop) → (St → Prop) → Prop
  | 0, _, _, _, _ => False
  | n + 1, v1, g, K27, post => ((256 ≤ v1 → (K27 g)) ∧ (¬ (256 ≤ v1) → (vp_in v1 256 ∧ ∀ g2 : St, g2 = gp g 9 (ix v1) (-1) → (lp_me_clear_L7 n (v1 + 1) g2 K27 post))))
def wp_me_clear (g : St) (post : St → Prop) : Prop :=
  (∀ g1 : St, g1 = gp g 2 2 0 → (∃ k7, lp_me_clear_L7 k7 0 g1 (fun g3 => (post g3)) post))
def wp_sp_turnTo (x1 : Int32) (x2 : Int32) (x3 : Int32) (x4 : Int32) (g : St) (post : Int32 → St → Prop) : Prop :=
  (vp_in x2 16 ∧ (vp_in x1 16 ∧ (vp_in x1 16 ∧ (vp_in x2 16 ∧ (vp_in x1 16 ∧ (vp_in x1 16 ∧ (post ((((g 5 (ix x2)) - (g 5 (ix x1))) * (x4 - (g 6 (ix x1)))) - (((g 6 (ix x2)) - (g 6 (ix x1))) * (x3 - (g 5 (ix x1))))) g)))))))
def wp_sp_turn (x1 : Int32) (x2 : Int32) (x3 : Int32) (g : St) (post : Int32 → St → Prop) : Prop :=
  (vp_in x3 16 ∧ (vp_in x3 16 ∧ (wp_sp_turnTo x1 x2 (g 5 (ix x3)) (g 6 (ix x3)) g (fun r2 g1 => (post r2 g1)))))
def wp_sp_squareFrom (x1 : Int32) (x2 : Int32) (g : St) (post : Int64 → St → Prop) : Prop :=
  (vp_in x2 16 ∧ (vp_in x1 16 ∧ (vp_in x2 16 ∧ (vp_in x1 16 ∧ (post ((((g 5 (ix x2)) - (g 5 (ix x1))).toInt64 * ((g 5 (ix x2)) - (g 5 (ix x1))).toInt64) + (((g 6 (ix x2)) - (g 6 (ix x1))).toInt64 * ((g 6 (ix x2)) - (g 6 (ix x1))).toInt64)) g)))))
def wp_sp_depthInCircle (x1 : Int32) (x2 : Int32) (x3 : Int32) (x4 : Int32) (g : St) (post : Int64 → St → Prop) : Prop :=
  (wp_sp_squareFrom x4 x1 g (fun r2 g1 => (wp_sp_turn x4 x2 x3 g1 (fun r4 g3 => (wp_sp_squareFrom x4 x2 g3 (fun r6 g5 => (wp_sp_turn x4 x1 x3 g5 (fun r8 g7 => (wp_sp_squareFrom x4 x3 g7 (fun r10 g9 => (wp_sp_turn x4 x1 x2 g9 (fun r12 g11 => (wp_sp_turn x1 x2 x3 g11 (fun r14 g13 => ((r14 ≤ 0 → (post (-(((r2 * r4.toInt64) - (r6 * r8.toInt64)) + (r10 * r12.toInt64))) g13)) ∧ (¬ (r14 ≤ 0) → (post (((r2 * r4.toInt64) - (r6 * r8.toInt64)) + (r10 * r12.toInt64)) g13)))))))))))))))))
def jn_sp_areOpposite_J15 (v1 : Int32) (v2 : Int32) (v4 : Int32) (s0 : Int32) (g : St) (post : Int32 → St → Prop) : Prop :=
  (wp_sp_turn v1 v2 v4 g (fun r4 g3 => ((r4 ≤ 0 → ((s0 = 0 → (post 0 g3)) ∧ (¬ (s0 = 0) → (post 1 g3)))) ∧ (¬ (r4 ≤ 0) → ((s0 = 1 → (post 0 g3)) ∧ (¬ (s0 = 1) → (post 1 g3)))))))
def wp_sp_areOpposite (x1 : Int32) (x2 : Int32) (x3 : Int32) (x4 : Int32) (g : St) (post : Int32 → St → Prop) : Prop :=
  (wp_sp_turn x1 x2 x3 g (fun r2 g1 => ((r2 ≤ 0 → (jn_sp_areOpposite_J15 x1 x2 x4 0 g1 post)) ∧ (¬ (r2 ≤ 0) → (jn_sp_areOpposite_J15 x1 x2 x4 1 g1 post)))))
def wp_sp_isInCircle (x1 : Int32) (x2 : Int32) (x3 : Int32) (x4 : Int32) (g : St) (post : Int32 → St → Prop) : Prop :=
  (wp_sp_depthInCircle x1 x2 x3 x4 g (fun r2 g1 => (((lg_cmp r2 0) = 0 → ((x4 ≤ x1 → (post 0 g1)) ∧ (¬ (x4 ≤ x1) → (wp_sp_areOpposite x1 x4 x2 x3 g1 (fun r4 g3 => ((¬ (r4 = 0) → (post 0 g3)) ∧ (r4 = 0 → (post 1 g3)))))))) ∧ (¬ ((lg_cmp r2 0) = 0) → (((lg_cmp r2 0) ≤ 0 → (post 0 g1)) ∧ (¬ ((lg_cmp r2 0) ≤ 0) → (post 1 g1)))))))
def lp_me_isTriangle_L15 : Nat → Int32 → Int32 → Int32 → Int32 → St → (St → Prop) → (Int32 → St → Prop) → Prop
  | 0, _, _, _, _, _, _, _ => False
  | n + 1, v1, v2, v3, v4, g, K62, post => (wp_sp_size g (fun r4 g3 => ((r4 ≤ v4 → (K62 g3)) ∧ (¬ (r4 ≤ v4) → ((v4 = v1 → (lp_me_isTriangle_L15 n v1 v2 v3 (v4 + 1) g3 K62 post)) ∧ (¬ (v4 = v1) → ((v4 = v2 → (lp_me_isTriangle_L15 n v1 v2 v3 (v4 + 1) g3 K62 post)) ∧ (¬ (v4 = v2) → ((v4 = v3 → (lp_me_isTriangle_L15 n v1 v2 v3 (v4 + 1) g3 K62 post)) ∧ (¬ (v4 = v3) → (wp_sp_isInCircle v1 v2 v3 v4 g3 (fun r6 g5 => ((r6 = 0 → (lp_me_isTriangle_L15 n v1 v2 v3 (v4 + 1) g5 K62 post)) ∧ (¬ (r6 = 0) → (post 0 g5)))))))))))))))
def wp_me_isTriangle (x1 : Int32) (x2 : Int32) (x3 : Int32) (g : St) (post : Int32 → St → Prop) : Prop :=
  (wp_sp_turn x1 x2 x3 g (fun r2 g1 => ((¬ (r2 = 0) → (∃ k15, lp_me_isTriangle_L15 k15 x1 x2 x3 0 g1 (fun g7 => (post 1 g7)) post)) ∧ (r2 = 0 → (post 0 g1)))))
def wp_me_addSides (x1 : Int32) (x2 : Int32) (x3 : Int32) (g : St) (post : St → Prop) : Prop :=
  (vp_in ((16 * x1) + x2) 256 ∧ ∀ g1 : St, g1 = gp g 9 (ix ((16 * x1) + x2)) x3 → (vp_in ((16 * x2) + x3) 256 ∧ ∀ g2 : St, g2 = gp g1 9 (ix ((16 * x2) + x3)) x1 → (vp_in ((16 * x3) + x1) 256 ∧ ∀ g3 : St, g3 = gp g2 9 (ix ((16 * x3) + x1)) x2 → (post g3))))
def wp_me_add (x1 : Int32) (x2 : Int32) (x3 : Int32) (x4 : Int32) (g : St) (post : St → Prop) : Prop :=
  (vp_in (3 * (g 2 2)) 81 ∧ ∀ g1 : St, g1 = gp g 8 (ix (3 * (g 2 2))) x1 → (vp_in ((3 * (g 2 2)) + 1) 81 ∧ ∀ g2 : St, g2 = gp g1 8 (ix ((3 * (g 2 2)) + 1)) x2 → (vp_in ((3 * (g 2 2)) + 2) 81 ∧ ∀ g3 : St, g3 = gp g2 8 (ix ((3 * (g 2 2)) + 2)) x3 → (∀ g4 : St, g4 = gp g3 2 2 ((g3 2 2) + 1) → ((x4 = 0 → (wp_me_addSides x1 x3 x2 g4 (fun g5 => (post g5)))) ∧ (¬ (x4 = 0) → (wp_me_addSides x1 x2 x3 g4 (fun g6 => (post g6)))))))))
def lp_me_rebuild_L31 : Nat → Int32 → Int32 → Int32 → St → (Int32 → Int32 → St → Prop) → (St → Prop) → Prop
  | 0, _, _, _, _, _, _ => False
  | n + 1, v2, v3, v4, g, K90, post => (wp_sp_size g (fun r7 g6 => ((r7 ≤ v4 → (K90 v2 v3 g6)) ∧ (¬ (r7 ≤ v4) → ((27 ≤ (g6 2 2) → (lp_me_rebuild_L31 n v2 v3 (v4 + 1) g6 K90 post)) ∧ (¬ (27 ≤ (g6 2 2)) → (wp_me_isTriangle v2 v3 v4 g6 (fun r9 g8 => ((r9 = 0 → (lp_me_rebuild_L31 n v2 v3 (v4 + 1) g8 K90 post)) ∧ (¬ (r9 = 0) → (wp_sp_turn v2 v3 v4 g8 (fun r11 g10 => ((0 ≤ r11 → (wp_me_add v2 v3 v4 0 g10 (fun g12 => (lp_me_rebuild_L31 n v2 v3 (v4 + 1) g12 K90 post)))) ∧ (¬ (0 ≤ r11) → (wp_me_add v2 v3 v4 1 g10 (fun g13 => (lp_me_rebuild_L31 n v2 v3 (v4 + 1) g13 K90 post)))))))))))))))))
def lp_me_rebuild_L18 : Nat → Int32 → Int32 → St → (Int32 → St → Prop) → (St → Prop) → Prop
  | 0, _, _, _, _, _ => False
  | n + 1, v2, v3, g, K96, post => (wp_sp_size g (fun r5 g4 => ((r5 ≤ v3 → (K96 v2 g4)) ∧ (¬ (r5 ≤ v3) → (∃ k31, lp_me_rebuild_L31 k31 v2 v3 (v3 + 1) g4 (fun w15 w16 g14 => (lp_me_rebuild_L18 n w15 (w16 + 1) g14 K96 post)) post)))))
def lp_me_rebuild_L6 : Nat → Int32 → St → (St → Prop) → (St → Prop) → Prop
  | 0, _, _, _, _ => False
  | n + 1, v2, g, K102, post => (wp_sp_size g (fun r3 g2 => ((r3 ≤ v2 → (K102 g2)) ∧ (¬ (r3 ≤ v2) → (∃ k18, lp_me_rebuild_L18 k18 v2 (v2 + 1) g2 (fun w18 g17 => (lp_me_rebuild_L6 n (w18 + 1) g17 K102 post)) post)))))
def wp_me_rebuild (g : St) (post : St → Prop) : Prop :=
  (wp_me_clear g (fun g1 => (∃ k6, lp_me_rebuild_L6 k6 0 g1 (fun g19 => (post g19)) post)))
def wp_floorDiv (x0 : Int32) (x1 : Int32) (g : St) (post : Int32 → St → Prop) : Prop :=
  (¬ x1 = 0 ∧ ((0 ≤ (x0 ^^^ x1) → (post (x0 / x1) g)) ∧ (¬ (0 ≤ (x0 ^^^ x1)) → ((((x0 / x1) * x1) = x0 → (post (x0 / x1) g)) ∧ (¬ (((x0 / x1) * x1) = x0) → (post ((x0 / x1) + (-1)) g))))))
def jn_me_heightIn_J42 (v3 : Int32) (v4 : Int32) (v5 : Int32) (v6 : Int32) (v7 : Int32) (s0 : Int32) (g : St) (post : Int32 → St → Prop) : Prop :=
  (wp_sp_turnTo v6 v7 v3 v4 g (fun r10 g9 => (wp_sp_turnTo v7 v5 v3 v4 g9 (fun r12 g11 => (wp_sp_turnTo v5 v6 v3 v4 g11 (fun r14 g13 => (((s0 * r10) < 0 → (post (-1) g13)) ∧ (¬ ((s0 * r10) < 0) → (((s0 * r12) < 0 → (post (-1) g13)) ∧ (¬ ((s0 * r12) < 0) → (((s0 * r14) < 0 → (post (-1) g13)) ∧ (¬ ((s0 * r14) < 0) → ((¬ ((((s0 * r10) + (s0 * r12)) + (s0 * r14)) = 0) → (wp_sp_height v5 g13 (fun r16 g15 => (wp_sp_height v6 g15 (fun r18 g17 => (wp_sp_height v7 g17 (fun r20 g19 => (wp_floorDiv ((((s0 * r10) * r16) + ((s0 * r12) * r18)) + ((s0 * r14) * r20)) (((s0 * r10) + (s0 * r12)) + (s0 * r14)) g19 (fun r22 g21 => (post r22 g21)))))))))) ∧ ((((s0 * r10) + (s0 * r12)) + (s0 * r14)) = 0 → (post (-1) g13)))))))))))))))
def wp_me_heightIn (x2 : Int32) (x3 : Int32) (x4 : Int32) (g : St) (post : Int32 → St → Prop) : Prop :=
  (wp_me_cornerOf x2 0 g (fun r2 g1 => (wp_me_cornerOf x2 1 g1 (fun r4 g3 => (wp_me_cornerOf x2 2 g3 (fun r6 g5 => (wp_sp_turn r2 r4 r6 g5 (fun r8 g7 => ((r8 ≤ 0 → (jn_me_heightIn_J42 x3 x4 r2 r4 r6 (-1) g7 post)) ∧ (¬ (r8 ≤ 0) → (jn_me_heightIn_J42 x3 x4 r2 r4 r6 1 g7 post)))))))))))
def lp_me_heightAt_L3 : Nat → Int32 → Int32 → Int32 → St → (St → Prop) → (Int32 → St → Prop) → Prop
  | 0, _, _, _, _, _, _ => False
  | n + 1, v2, v3, v4, g, K38, post => (((g 2 2) ≤ v4 → (K38 g)) ∧ (¬ ((g 2 2) ≤ v4) → (wp_me_heightIn v4 v2 v3 g (fun r2 g1 => ((r2 = (-1) → (lp_me_heightAt_L3 n v2 v3 (v4 + 1) g1 K38 post)) ∧ (¬ (r2 = (-1)) → (post r2 g1)))))))
def wp_me_heightAt (x2 : Int32) (x3 : Int32) (g : St) (post : Int32 → St → Prop) : Prop :=
  (∃ k3, lp_me_heightAt_L3 k3 x2 x3 0 g (fun g3 => (post (-1) g3)) post)
def wp_sp_isNumber (x1 : Int32) (g : St) (post : Int32 → St → Prop) : Prop :=
  ((x1 < 0 → (post 0 g)) ∧ (¬ (x1 < 0) → (((g 1 3) ≤ x1 → (post 0 g)) ∧ (¬ ((g 1 3) ≤ x1) → (post 1 g)))))
def wp_sp_y (x1 : Int32) (g : St) (post : Int32 → St → Prop) : Prop :=
  (vp_in x1 16 ∧ (post (g 6 (ix x1)) g))
def wp_sp_setHeight (x1 : Int32) (x2 : Int32) (g : St) (post : St → Prop) : Prop :=
  (vp_in x1 16 ∧ ∀ g1 : St, g1 = gp g 7 (ix x1) x2 → (post g1))
def lp_sp_isTaken_L2 : Nat → Int32 → Int32 → Int32 → St → (St → Prop) → (Int32 → St → Prop) → Prop
  | 0, _, _, _, _, _, _ => False
  | n + 1, v1, v2, v3, g, K38, post => (((g 1 3) ≤ v3 → (K38 g)) ∧ (¬ ((g 1 3) ≤ v3) → (vp_in v3 16 ∧ ((¬ ((g 5 (ix v3)) = v1) → (lp_sp_isTaken_L2 n v1 v2 (v3 + 1) g K38 post)) ∧ ((g 5 (ix v3)) = v1 → (vp_in v3 16 ∧ ((¬ ((g 6 (ix v3)) = v2) → (lp_sp_isTaken_L2 n v1 v2 (v3 + 1) g K38 post)) ∧ ((g 6 (ix v3)) = v2 → (post 1 g)))))))))
def wp_sp_isTaken (x1 : Int32) (x2 : Int32) (g : St) (post : Int32 → St → Prop) : Prop :=
  (∃ k2, lp_sp_isTaken_L2 k2 x1 x2 0 g (fun g1 => (post 0 g1)) post)
def wp_sp_add (x1 : Int32) (x2 : Int32) (x3 : Int32) (g : St) (post : Int32 → St → Prop) : Prop :=
  (vp_in (g 1 3) 16 ∧ ∀ g1 : St, g1 = gp g 5 (ix (g 1 3)) x1 → (vp_in (g1 1 3) 16 ∧ ∀ g2 : St, g2 = gp g1 6 (ix (g1 1 3)) x2 → (vp_in (g2 1 3) 16 ∧ ∀ g3 : St, g3 = gp g2 7 (ix (g2 1 3)) x3 → (∀ g4 : St, g4 = gp g3 1 3 ((g3 1 3) + 1) → (post ((g4 1 3) - 1) g4)))))
def wp_sp_crossingOf_5 (x2 : Int32) (x3 : Int32) (g : St) (post : Int32 → St → Prop) : Prop :=
  (wp_sc_highOf x2 g (fun r2 g1 => (wp_sc_lowOf x2 g1 (fun r4 g3 => (vp_in r2 16 ∧ (vp_in r4 16 ∧ ((0 < ((g3 7 (ix r2)) - (g3 7 (ix r4))) → (vp_in r2 16 ∧ (vp_in r4 16 ∧ (vp_in r4 16 ∧ (vp_in r4 16 ∧ (wp_floorDiv (((g3 5 (ix r2)) - (g3 5 (ix r4))) * (((2 * x3) + 1) - (2 * (g3 7 (ix r4))))) (2 * ((g3 7 (ix r2)) - (g3 7 (ix r4)))) g3 (fun r6 g5 => (post ((g3 5 (ix r4)) + r6) g5)))))))) ∧ (¬ (0 < ((g3 7 (ix r2)) - (g3 7 (ix r4)))) → (vp_in r4 16 ∧ (post (g3 5 (ix r4)) g3))))))))))
def wp_sp_crossingOf_6 (x2 : Int32) (x3 : Int32) (g : St) (post : Int32 → St → Prop) : Prop :=
  (wp_sc_highOf x2 g (fun r2 g1 => (wp_sc_lowOf x2 g1 (fun r4 g3 => (vp_in r2 16 ∧ (vp_in r4 16 ∧ ((0 < ((g3 7 (ix r2)) - (g3 7 (ix r4))) → (vp_in r2 16 ∧ (vp_in r4 16 ∧ (vp_in r4 16 ∧ (vp_in r4 16 ∧ (wp_floorDiv (((g3 6 (ix r2)) - (g3 6 (ix r4))) * (((2 * x3) + 1) - (2 * (g3 7 (ix r4))))) (2 * ((g3 7 (ix r2)) - (g3 7 (ix r4)))) g3 (fun r6 g5 => (post ((g3 6 (ix r4)) + r6) g5)))))))) ∧ (¬ (0 < ((g3 7 (ix r2)) - (g3 7 (ix r4)))) → (vp_in r4 16 ∧ (post (g3 6 (ix r4)) g3))))))))))
def wp_sp_crossingX (x1 : Int32) (x2 : Int32) (g : St) (post : Int32 → St → Prop) : Prop :=
  (wp_sp_crossingOf_5 x1 x2 g (fun r2 g1 => (post r2 g1)))
def wp_sp_crossingY (x1 : Int32) (x2 : Int32) (g : St) (post : Int32 → St → Prop) : Prop :=
  (wp_sp_crossingOf_6 x1 x2 g (fun r2 g1 => (post r2 g1)))
def wp_ta_size (g : St) (post : Int32 → St → Prop) : Prop :=
  (post (g 4 3) g)
def wp_ta_isFull (g : St) (post : Int32 → St → Prop) : Prop :=
  (((g 4 3) < 20 → (post 0 g)) ∧ (¬ ((g 4 3) < 20) → (post 1 g)))
def wp_ta_level (x1 : Int32) (g : St) (post : Int32 → St → Prop) : Prop :=
  (vp_in x1 20 ∧ (post (g 15 (ix x1)) g))
def wp_ta_x (x1 : Int32) (g : St) (post : Int32 → St → Prop) : Prop :=
  (vp_in x1 20 ∧ (post (g 16 (ix x1)) g))
def wp_ta_y (x1 : Int32) (g : St) (post : Int32 → St → Prop) : Prop :=
  (vp_in x1 20 ∧ (post (g 17 (ix x1)) g))
def wp_ta_add (x1 : Int32) (x2 : Int32) (x3 : Int32) (g : St) (post : St → Prop) : Prop :=
  (vp_in (g 4 3) 20 ∧ ∀ g1 : St, g1 = gp g 15 (ix (g 4 3)) x1 → (vp_in (g1 4 3) 20 ∧ ∀ g2 : St, g2 = gp g1 16 (ix (g1 4 3)) x2 → (vp_in (g2 4 3) 20 ∧ ∀ g3 : St, g3 = gp g2 17 (ix (g2 4 3)) x3 → (∀ g4 : St, g4 = gp g3 4 3 ((g3 4 3) + 1) → (post g4)))))
def wp_ta_cutTo (x1 : Int32) (g : St) (post : St → Prop) : Prop :=
  (∀ g1 : St, g1 = gp g 4 3 x1 → (post g1))
def lp_ta_coversSpot_L2 : Nat → Int32 → Int32 → Int32 → St → (St → Prop) → (Int32 → St → Prop) → Prop
  | 0, _, _, _, _, _, _ => False
  | n + 1, v1, v2, v3, g, K46, post => (wp_sp_size g (fun r2 g1 => ((r2 ≤ v3 → (K46 g1)) ∧ (¬ (r2 ≤ v3) → (wp_sp_x v3 g1 (fun r4 g3 => ((3 < (if 0 ≤ (r4 - v1) then (r4 - v1) else 0 - (r4 - v1)) → (lp_ta_coversSpot_L2 n v1 v2 (v3 + 1) g3 K46 post)) ∧ (¬ (3 < (if 0 ≤ (r4 - v1) then (r4 - v1) else 0 - (r4 - v1))) → (wp_sp_y v3 g3 (fun r6 g5 => ((1 < (if 0 ≤ (r6 - v2) then (r6 - v2) else 0 - (r6 - v2)) → (lp_ta_coversSpot_L2 n v1 v2 (v3 + 1) g5 K46 post)) ∧ (¬ (1 < (if 0 ≤ (r6 - v2) then (r6 - v2) else 0 - (r6 - v2))) → (post 1 g5)))))))))))))
def wp_ta_coversSpot (x1 : Int32) (x2 : Int32) (g : St) (post : Int32 → St → Prop) : Prop :=
  (∃ k2, lp_ta_coversSpot_L2 k2 x1 x2 0 g (fun g7 => (post 0 g7)) post)
def lp_ta_clashesAt_L2 : Nat → Int32 → Int32 → Int32 → St → (St → Prop) → (Int32 → St → Prop) → Prop
  | 0, _, _, _, _, _, _ => False
  | n + 1, v1, v2, v3, g, K49, post => (((g 4 3) ≤ v3 → (K49 g)) ∧ (¬ ((g 4 3) ≤ v3) → (vp_in v3 20 ∧ ((6 < (if 0 ≤ ((g 16 (ix v3)) - v1) then ((g 16 (ix v3)) - v1) else 0 - ((g 16 (ix v3)) - v1)) → (lp_ta_clashesAt_L2 n v1 v2 (v3 + 1) g K49 post)) ∧ (¬ (6 < (if 0 ≤ ((g 16 (ix v3)) - v1) then ((g 16 (ix v3)) - v1) else 0 - ((g 16 (ix v3)) - v1))) → (vp_in v3 20 ∧ ((2 < (if 0 ≤ ((g 17 (ix v3)) - v2) then ((g 17 (ix v3)) - v2) else 0 - ((g 17 (ix v3)) - v2)) → (lp_ta_clashesAt_L2 n v1 v2 (v3 + 1) g K49 post)) ∧ (¬ (2 < (if 0 ≤ ((g 17 (ix v3)) - v2) then ((g 17 (ix v3)) - v2) else 0 - ((g 17 (ix v3)) - v2))) → (post 1 g)))))))))
def wp_ta_clashesAt (x1 : Int32) (x2 : Int32) (g : St) (post : Int32 → St → Prop) : Prop :=
  (∃ k2, lp_ta_clashesAt_L2 k2 x1 x2 0 g (fun g1 => (post 0 g1)) post)
def wp_sc_isOnMap (x0 : Int32) (x1 : Int32) (g : St) (post : Int32 → St → Prop) : Prop :=
  ((x0 < 0 → (post 0 g)) ∧ (¬ (x0 < 0) → ((64 ≤ x0 → (post 0 g)) ∧ (¬ (64 ≤ x0) → ((x1 < 0 → (post 0 g)) ∧ (¬ (x1 < 0) → ((64 ≤ x1 → (post 0 g)) ∧ (¬ (64 ≤ x1) → (post 1 g)))))))))
def wp_sc_isHeight (x0 : Int32) (g : St) (post : Int32 → St → Prop) : Prop :=
  ((x0 < 0 → (post 0 g)) ∧ (¬ (x0 < 0) → ((999 < x0 → (post 0 g)) ∧ (¬ (999 < x0) → (post 1 g)))))
def wp_sc_spot (x1 : Int32) (x2 : Int32) (x3 : Int32) (g : St) (post : Int32 → St → Prop) (px : Nat → St → Prop) : Prop :=
  (wp_sc_isOnMap x1 x2 g (fun r2 g1 => ((r2 = 0 → (px 0 g1)) ∧ (¬ (r2 = 0) → (wp_sc_isHeight x3 g1 (fun r4 g3 => ((r4 = 0 → (px 0 g3)) ∧ (¬ (r4 = 0) → (wp_sp_isTaken x1 x2 g3 (fun r6 g5 => ((r6 = 0 → (wp_sp_size g5 (fun r8 g7 => ((r8 < 16 → (wp_sp_add x1 x2 x3 g7 (fun r10 g9 => (wp_me_rebuild g9 (fun g11 => (wp_ta_cutTo 0 g11 (fun g12 => (post r10 g12)))))))) ∧ (¬ (r8 < 16) → (px 1 g7)))))) ∧ (¬ (r6 = 0) → (px 0 g5)))))))))))))
def wp_sc_raise (x1 : Int32) (x2 : Int32) (g : St) (post : Int32 → St → Prop) (px : Nat → St → Prop) : Prop :=
  (wp_sp_isNumber x1 g (fun r2 g1 => ((¬ (r2 = 0) → (wp_sc_isHeight x2 g1 (fun r4 g3 => ((¬ (r4 = 0) → (wp_sp_height x1 g3 (fun r6 g5 => (wp_sp_setHeight x1 x2 g5 (fun g7 => (wp_ta_cutTo 0 g7 (fun g8 => (post r6 g8)))))))) ∧ (r4 = 0 → (px 0 g3)))))) ∧ (r2 = 0 → (px 2 g1)))))
def wp_sc_triangles (g : St) (post : Int32 → St → Prop) : Prop :=
  (wp_me_size g (fun r2 g1 => (post r2 g1)))
def wp_sc_corner (x1 : Int32) (x2 : Int32) (g : St) (post : Int32 → St → Prop) (px : Nat → St → Prop) : Prop :=
  ((x1 < 0 → (px 2 g)) ∧ (¬ (x1 < 0) → (wp_me_size g (fun r2 g1 => ((r2 ≤ x1 → (px 2 g1)) ∧ (¬ (r2 ≤ x1) → ((x2 < 0 → (px 2 g1)) ∧ (¬ (x2 < 0) → ((x2 < 3 → (wp_me_cornerOf x1 x2 g1 (fun r4 g3 => (post r4 g3)))) ∧ (¬ (x2 < 3) → (px 2 g1)))))))))))
def wp_sc_edge (x1 : Int32) (x2 : Int32) (g : St) (post : Int32 → St → Prop) (px : Nat → St → Prop) : Prop :=
  (wp_sp_isNumber x1 g (fun r2 g1 => ((r2 = 0 → (px 2 g1)) ∧ (¬ (r2 = 0) → (wp_sp_isNumber x2 g1 (fun r4 g3 => ((¬ (r4 = 0) → (wp_me_sharing x1 x2 g3 (fun r6 g5 => (post r6 g5)))) ∧ (r4 = 0 → (px 2 g3)))))))))
def jn_sc_at_J25 (s0 : Int32) (g : St) (post : Int32 → St → Prop) (px : Nat → St → Prop) : Prop :=
  ((¬ (s0 = (-1)) → (post s0 g)) ∧ (s0 = (-1) → (px 3 g)))
def wp_sc_at (x1 : Int32) (x2 : Int32) (g : St) (post : Int32 → St → Prop) (px : Nat → St → Prop) : Prop :=
  (wp_sc_isOnMap x1 x2 g (fun r2 g1 => ((r2 = 0 → (jn_sc_at_J25 (-1) g1 post px)) ∧ (¬ (r2 = 0) → (wp_me_heightAt x1 x2 g1 (fun r4 g3 => (jn_sc_at_J25 r4 g3 post px)))))))
def wp_sc_traceLevel (x1 : Int32) (g : St) (post : St → Prop) (px : Nat → St → Prop) : Prop :=
  ((x1 < 0 → (px 0 g)) ∧ (¬ (x1 < 0) → ((x1 ≤ 998 → (wp_li_trace x1 g (fun g1 => (post g1)))) ∧ (¬ (x1 ≤ 998) → (px 0 g)))))
def wp_sc_contours (x1 : Int32) (g : St) (post : Int32 → St → Prop) (px : Nat → St → Prop) : Prop :=
  (wp_sc_traceLevel x1 g (fun g1 => (wp_li_size g1 (fun r3 g2 => (post r3 g2)))) px)
def wp_sc_contour (x1 : Int32) (x2 : Int32) (g : St) (post : Int32 → St → Prop) (px : Nat → St → Prop) : Prop :=
  (wp_sc_traceLevel x1 g (fun g1 => (wp_li_isLine x2 g1 (fun r3 g2 => ((¬ (r3 = 0) → (wp_li_length x2 g2 (fun r5 g4 => (wp_li_isRing x2 g4 (fun r7 g6 => ((¬ (r7 = 0) → (wp_li_isHollow x2 g6 (fun r9 g8 => ((r9 = 0 → (post (r5 + 1000) g8)) ∧ (¬ (r9 = 0) → (post (r5 + 2000) g8)))))) ∧ (r7 = 0 → (post r5 g6)))))))) ∧ (r3 = 0 → (px 2 g2)))))) px)
def wp_sc_pairAt (x1 : Int32) (x2 : Int32) (g : St) (post : Int32 → St → Prop) (px : Nat → St → Prop) : Prop :=
  (wp_li_isLine x1 g (fun r2 g1 => ((r2 = 0 → (px 2 g1)) ∧ (¬ (r2 = 0) → ((x2 < 0 → (px 2 g1)) ∧ (¬ (x2 < 0) → (wp_li_length x1 g1 (fun r4 g3 => ((x2 < r4 → (wp_li_pair x1 x2 g3 (fun r6 g5 => (post r6 g5)))) ∧ (¬ (x2 < r4) → (px 2 g3)))))))))))
def wp_sc_crossing (x1 : Int32) (x2 : Int32) (x3 : Int32) (g : St) (post : Int32 → St → Prop) (px : Nat → St → Prop) : Prop :=
  (wp_sc_traceLevel x1 g (fun g1 => (wp_sc_pairAt x2 x3 g1 (fun r3 g2 => (wp_sc_highOf r3 g2 (fun r5 g4 => (wp_sc_lowOf r3 g4 (fun r7 g6 => (post ((16 * (if r7 < r5 then r7 else r5)) + (if r5 < r7 then r7 else r5)) g6)))))) px)) px)
def wp_sc_place (x1 : Int32) (x2 : Int32) (x3 : Int32) (g : St) (post : Int32 → St → Prop) (px : Nat → St → Prop) : Prop :=
  (wp_sc_traceLevel x1 g (fun g1 => (wp_sc_pairAt x2 x3 g1 (fun r3 g2 => (wp_sp_crossingX r3 x1 g2 (fun r5 g4 => (wp_sp_crossingY r3 x1 g4 (fun r7 g6 => (post ((64 * r5) + r7) g6)))))) px)) px)
def lp_sc_firstFreePair_L2 : Nat → Int32 → Int32 → Int32 → St → (St → Prop) → (Int32 → St → Prop) → Prop
  | 0, _, _, _, _, _, _ => False
  | n + 1, v1, v2, v3, g, K86, post => (wp_li_length v2 g (fun r2 g1 => ((r2 ≤ v3 → (K86 g1)) ∧ (¬ (r2 ≤ v3) → (wp_li_pair v2 v3 g1 (fun r4 g3 => (wp_sp_crossingX r4 v1 g3 (fun r6 g5 => (wp_sp_crossingY r4 v1 g5 (fun r8 g7 => (wp_ta_coversSpot r6 r8 g7 (fun r10 g9 => ((¬ (r10 = 0) → (lp_sc_firstFreePair_L2 n v1 v2 (v3 + 1) g9 K86 post)) ∧ (r10 = 0 → (wp_ta_clashesAt r6 r8 g9 (fun r12 g11 => ((¬ (r12 = 0) → (lp_sc_firstFreePair_L2 n v1 v2 (v3 + 1) g11 K86 post)) ∧ (r12 = 0 → (post r4 g11)))))))))))))))))))
def wp_sc_firstFreePair (x1 : Int32) (x2 : Int32) (g : St) (post : Int32 → St → Prop) : Prop :=
  (∃ k2, lp_sc_firstFreePair_L2 k2 x1 x2 0 g (fun g13 => (post (-1) g13)) post)
def lp_sc_label_L15 : Nat → Int32 → Int32 → Int32 → St → (Int32 → St → Prop) → (Int32 → St → Prop) → (Nat → St → Prop) → Prop
  | 0, _, _, _, _, _, _, _ => False
  | n + 1, v1, v2, v3, g, K103, post, px => (wp_li_size g (fun r5 g4 => ((r5 ≤ v3 → (K103 v2 g4)) ∧ (¬ (r5 ≤ v3) → (wp_sc_firstFreePair v1 v3 g4 (fun r7 g6 => ((¬ (r7 = (-1)) → (wp_ta_isFull g6 (fun r9 g8 => ((r9 = 0 → (wp_sp_crossingX r7 v1 g8 (fun r11 g10 => (wp_sp_crossingY r7 v1 g10 (fun r13 g12 => (wp_ta_add v1 r11 r13 g12 (fun g14 => (lp_sc_label_L15 n v1 v2 (v3 + 1) g14 K103 post px)))))))) ∧ (¬ (r9 = 0) → (wp_ta_cutTo v2 g8 (fun g15 => (px 1 g15)))))))) ∧ (r7 = (-1) → (lp_sc_label_L15 n v1 v2 (v3 + 1) g6 K103 post px)))))))))
def wp_sc_label (x1 : Int32) (g : St) (post : Int32 → St → Prop) (px : Nat → St → Prop) : Prop :=
  (wp_sc_traceLevel x1 g (fun g1 => (wp_ta_size g1 (fun r3 g2 => (∃ k15, lp_sc_label_L15 k15 x1 r3 0 g2 (fun w17 g16 => (wp_ta_size g16 (fun r19 g18 => (post (r19 - w17) g18)))) post px)))) px)
def wp_sc_labels (g : St) (post : Int32 → St → Prop) : Prop :=
  (wp_ta_size g (fun r2 g1 => (post r2 g1)))
def wp_sc_labelOf (x1 : Int32) (x2 : Int32) (g : St) (post : Int32 → St → Prop) (px : Nat → St → Prop) : Prop :=
  ((x1 < 0 → (px 2 g)) ∧ (¬ (x1 < 0) → (wp_ta_size g (fun r2 g1 => ((x1 < r2 → ((x2 = 0 → (wp_ta_level x1 g1 (fun r4 g3 => (post r4 g3)))) ∧ (x2 = 1 → (wp_ta_x x1 g1 (fun r6 g5 => (post r6 g5)))) ∧ (x2 = 2 → (wp_ta_y x1 g1 (fun r8 g7 => (post r8 g7)))) ∧ (¬ x2 = 0 → ¬ x2 = 1 → ¬ x2 = 2 → (px 0 g1)))) ∧ (¬ (x1 < r2) → (px 2 g1)))))))
def wp_sc_wipe (g : St) (post : Int32 → St → Prop) : Prop :=
  (wp_ta_size g (fun r2 g1 => (wp_ta_cutTo 0 g1 (fun g3 => (post r2 g3)))))
def wp_mo_thrown (g : St) (post : Int32 → St → Prop) : Prop :=
  (post (g 0 0) g)
def wp_mo_isSpot (x1 : Int32) (g : St) (post : Int32 → St → Prop) : Prop :=
  ((x1 < 0 → (post 0 g)) ∧ (¬ (x1 < 0) → (((g 0 1) ≤ x1 → (post 0 g)) ∧ (¬ ((g 0 1) ≤ x1) → (post 1 g)))))
def wp_mo_turn (x1 : Int32) (x2 : Int32) (x3 : Int32) (g : St) (post : Int32 → St → Prop) : Prop :=
  (vp_in x2 16 ∧ (vp_in x1 16 ∧ (vp_in x3 16 ∧ (vp_in x1 16 ∧ (vp_in x2 16 ∧ (vp_in x1 16 ∧ (vp_in x3 16 ∧ (vp_in x1 16 ∧ (post ((((g 1 (ix x2)) - (g 1 (ix x1))) * ((g 2 (ix x3)) - (g 2 (ix x1)))) - (((g 2 (ix x2)) - (g 2 (ix x1))) * ((g 1 (ix x3)) - (g 1 (ix x1))))) g)))))))))
def wp_mo_square (x1 : Int32) (x2 : Int32) (g : St) (post : Int64 → St → Prop) : Prop :=
  (vp_in x1 16 ∧ (vp_in x2 16 ∧ (vp_in x1 16 ∧ (vp_in x2 16 ∧ (vp_in x1 16 ∧ (vp_in x2 16 ∧ (vp_in x1 16 ∧ (vp_in x2 16 ∧ (post ((((g 1 (ix x1)) - (g 1 (ix x2))).toInt64 * ((g 1 (ix x1)) - (g 1 (ix x2))).toInt64) + (((g 2 (ix x1)) - (g 2 (ix x2))).toInt64 * ((g 2 (ix x1)) - (g 2 (ix x2))).toInt64)) g)))))))))
def wp_mo_inside (x1 : Int32) (x2 : Int32) (x3 : Int32) (x4 : Int32) (g : St) (post : Int64 → St → Prop) : Prop :=
  (wp_mo_square x1 x4 g (fun r2 g1 => (wp_mo_turn x4 x2 x3 g1 (fun r4 g3 => (wp_mo_square x2 x4 g3 (fun r6 g5 => (wp_mo_turn x4 x3 x1 g5 (fun r8 g7 => (wp_mo_square x3 x4 g7 (fun r10 g9 => (wp_mo_turn x4 x1 x2 g9 (fun r12 g11 => (wp_mo_turn x1 x2 x3 g11 (fun r14 g13 => ((r14 ≤ 0 → (post (-(((r2 * r4.toInt64) + (r6 * r8.toInt64)) + (r10 * r12.toInt64))) g13)) ∧ (¬ (r14 ≤ 0) → (post (((r2 * r4.toInt64) + (r6 * r8.toInt64)) + (r10 * r12.toInt64)) g13)))))))))))))))))
def jn_mo_parts_J15 (v1 : Int32) (v2 : Int32) (v4 : Int32) (s0 : Int32) (g : St) (post : Int32 → St → Prop) : Prop :=
  (wp_mo_turn v1 v2 v4 g (fun r4 g3 => ((r4 ≤ 0 → ((s0 = 0 → (post 0 g3)) ∧ (¬ (s0 = 0) → (post 1 g3)))) ∧ (¬ (r4 ≤ 0) → ((s0 = 1 → (post 0 g3)) ∧ (¬ (s0 = 1) → (post 1 g3)))))))
def wp_mo_parts (x1 : Int32) (x2 : Int32) (x3 : Int32) (x4 : Int32) (g : St) (post : Int32 → St → Prop) : Prop :=
  (wp_mo_turn x1 x2 x3 g (fun r2 g1 => ((r2 ≤ 0 → (jn_mo_parts_J15 x1 x2 x4 0 g1 post)) ∧ (¬ (r2 ≤ 0) → (jn_mo_parts_J15 x1 x2 x4 1 g1 post)))))
def jn_mo_isIn_J106 (v4 : Int32) (v7 : Int32) (s0 : Int32) (g : St) (post : Int32 → St → Prop) : Prop :=
  ((s0 = v4 → (post 0 g)) ∧ (¬ (s0 = v4) → ((s0 = v7 → (post 0 g)) ∧ (¬ (s0 = v7) → (post 1 g)))))
def jn_mo_isIn_J90 (v4 : Int32) (v7 : Int32) (s0 : Int32) (g : St) (post : Int32 → St → Prop) : Prop :=
  ((s0 ≤ v4 → (jn_mo_isIn_J106 v4 v7 s0 g post)) ∧ (¬ (s0 ≤ v4) → (jn_mo_isIn_J106 v4 v7 v4 g post)))
def jn_mo_isIn_J76 (v3 : Int32) (v4 : Int32) (v7 : Int32) (s0 : Int32) (g : St) (post : Int32 → St → Prop) : Prop :=
  ((s0 ≤ v3 → (jn_mo_isIn_J90 v4 v7 s0 g post)) ∧ (¬ (s0 ≤ v3) → (jn_mo_isIn_J90 v4 v7 v3 g post)))
def jn_mo_isIn_J64 (v1 : Int32) (v2 : Int32) (v3 : Int32) (v4 : Int32) (s0 : Int32) (g : St) (post : Int32 → St → Prop) : Prop :=
  ((v2 ≤ v1 → (jn_mo_isIn_J76 v3 v4 s0 v2 g post)) ∧ (¬ (v2 ≤ v1) → (jn_mo_isIn_J76 v3 v4 s0 v1 g post)))
def wp_mo_isIn (x1 : Int32) (x2 : Int32) (x3 : Int32) (x4 : Int32) (g : St) (post : Int32 → St → Prop) : Prop :=
  (wp_mo_inside x1 x2 x3 x4 g (fun r2 g1 => (((lg_cmp r2 0) = 0 → (wp_mo_parts x4 x1 x2 x3 g1 (fun r4 g3 => ((r4 = 0 → (wp_mo_parts x4 x2 x1 x3 g3 (fun r6 g5 => ((r6 = 0 → (jn_mo_isIn_J64 x1 x2 x3 x4 x3 g5 post)) ∧ (¬ (r6 = 0) → (jn_mo_isIn_J64 x1 x2 x3 x4 x2 g5 post)))))) ∧ (¬ (r4 = 0) → (jn_mo_isIn_J64 x1 x2 x3 x4 x1 g3 post)))))) ∧ (¬ ((lg_cmp r2 0) = 0) → (((lg_cmp r2 0) ≤ 0 → (post 0 g1)) ∧ (¬ ((lg_cmp r2 0) ≤ 0) → (post 1 g1)))))))
def lp_mo_isTriangle_L18 : Nat → Int32 → Int32 → Int32 → Int32 → Int32 → St → (Int32 → St → Prop) → (Int32 → St → Prop) → Prop
  | 0, _, _, _, _, _, _, _, _ => False
  | n + 1, v1, v2, v3, v4, v5, g, K75, post => (((g 0 1) ≤ v5 → (K75 v4 g)) ∧ (¬ ((g 0 1) ≤ v5) → ((v4 = 0 → (K75 v4 g)) ∧ (¬ (v4 = 0) → ((v5 = v1 → (lp_mo_isTriangle_L18 n v1 v2 v3 1 (v5 + 1) g K75 post)) ∧ (¬ (v5 = v1) → ((v5 = v2 → (lp_mo_isTriangle_L18 n v1 v2 v3 1 (v5 + 1) g K75 post)) ∧ (¬ (v5 = v2) → ((v5 = v3 → (lp_mo_isTriangle_L18 n v1 v2 v3 1 (v5 + 1) g K75 post)) ∧ (¬ (v5 = v3) → (wp_mo_isIn v1 v2 v3 v5 g (fun r4 g3 => ((¬ (r4 = 0) → (lp_mo_isTriangle_L18 n v1 v2 v3 0 (v5 + 1) g3 K75 post)) ∧ (r4 = 0 → (lp_mo_isTriangle_L18 n v1 v2 v3 1 (v5 + 1) g3 K75 post)))))))))))))))
def wp_mo_isTriangle (x1 : Int32) (x2 : Int32) (x3 : Int32) (g : St) (post : Int32 → St → Prop) : Prop :=
  (wp_mo_turn x1 x2 x3 g (fun r2 g1 => ((¬ (r2 = 0) → (∃ k18, lp_mo_isTriangle_L18 k18 x1 x2 x3 1 0 g1 (fun w6 g5 => (narrow .boolean (.int w6) = .int w6 ∧ post w6 g5)) post)) ∧ (r2 = 0 → (post 0 g1)))))
def lp_mo_findTriangles_L31 : Nat → Int32 → Int32 → Int32 → St → (Int32 → Int32 → St → Prop) → (St → Prop) → Prop
  | 0, _, _, _, _, _, _ => False
  | n + 1, v1, v2, v3, g, K105, post => (((g 0 1) ≤ v3 → (K105 v1 v2 g)) ∧ (¬ ((g 0 1) ≤ v3) → (wp_mo_isTriangle v1 v2 v3 g (fun r3 g2 => ((r3 = 0 → (lp_mo_findTriangles_L31 n v1 v2 (v3 + 1) g2 K105 post)) ∧ (¬ (r3 = 0) → (vp_in (3 * (g2 0 5)) 150 ∧ ∀ g4 : St, g4 = gp g2 4 (ix (3 * (g2 0 5))) v1 → (vp_in ((3 * (g4 0 5)) + 1) 150 ∧ ∀ g5 : St, g5 = gp g4 4 (ix ((3 * (g4 0 5)) + 1)) v2 → (vp_in ((3 * (g5 0 5)) + 2) 150 ∧ ∀ g6 : St, g6 = gp g5 4 (ix ((3 * (g5 0 5)) + 2)) v3 → (∀ g7 : St, g7 = gp g6 0 5 ((g6 0 5) + 1) → (lp_mo_findTriangles_L31 n v1 v2 (v3 + 1) g7 K105 post)))))))))))
def lp_mo_findTriangles_L19 : Nat → Int32 → Int32 → St → (Int32 → St → Prop) → (St → Prop) → Prop
  | 0, _, _, _, _, _ => False
  | n + 1, v1, v2, g, K111, post => (((g 0 1) ≤ v2 → (K111 v1 g)) ∧ (¬ ((g 0 1) ≤ v2) → (∃ k31, lp_mo_findTriangles_L31 k31 v1 v2 (v2 + 1) g (fun w9 w10 g8 => (lp_mo_findTriangles_L19 n w9 (w10 + 1) g8 K111 post)) post)))
def lp_mo_findTriangles_L7 : Nat → Int32 → St → (St → Prop) → (St → Prop) → Prop
  | 0, _, _, _, _ => False
  | n + 1, v1, g, K117, post => (((g 0 1) ≤ v1 → (K117 g)) ∧ (¬ ((g 0 1) ≤ v1) → (∃ k19, lp_mo_findTriangles_L19 k19 v1 (v1 + 1) g (fun w12 g11 => (lp_mo_findTriangles_L7 n (w12 + 1) g11 K117 post)) post)))
def wp_mo_findTriangles (g : St) (post : St → Prop) : Prop :=
  (∀ g1 : St, g1 = gp g 0 5 0 → (∃ k7, lp_mo_findTriangles_L7 k7 0 g1 (fun g13 => (post g13)) post))
def lp_mo_spot_L41 : Nat → Int32 → Int32 → Int32 → Int32 → Int32 → St → (Int32 → Int32 → Int32 → Int32 → St → Prop) → (Int32 → St → Prop) → Prop
  | 0, _, _, _, _, _, _, _, _ => False
  | n + 1, v1, v2, v3, v4, v5, g, K90, post => (((g 0 1) ≤ v5 → (K90 v1 v2 v3 v4 g)) ∧ (¬ ((g 0 1) ≤ v5) → ((¬ (v4 = 0) → (lp_mo_spot_L41 n v1 v2 v3 1 (v5 + 1) g K90 post)) ∧ (v4 = 0 → (vp_in v5 16 ∧ ((¬ ((g 1 (ix v5)) = v1) → (lp_mo_spot_L41 n v1 v2 v3 0 (v5 + 1) g K90 post)) ∧ ((g 1 (ix v5)) = v1 → (vp_in v5 16 ∧ ((¬ ((g 2 (ix v5)) = v2) → (lp_mo_spot_L41 n v1 v2 v3 0 (v5 + 1) g K90 post)) ∧ ((g 2 (ix v5)) = v2 → (lp_mo_spot_L41 n v1 v2 v3 1 (v5 + 1) g K90 post)))))))))))
def jn_mo_spot_J114 (v1 : Int32) (v2 : Int32) (v3 : Int32) (s1 : Int32) (g : St) (post : Int32 → St → Prop) : Prop :=
  (∀ g6 : St, g6 = gp g 0 0 s1 → (((g6 0 0) = 0 → (vp_in (g6 0 1) 16 ∧ ∀ g7 : St, g7 = gp g6 1 (ix (g6 0 1)) v1 → (vp_in (g7 0 1) 16 ∧ ∀ g8 : St, g8 = gp g7 2 (ix (g7 0 1)) v2 → (vp_in (g8 0 1) 16 ∧ ∀ g9 : St, g9 = gp g8 3 (ix (g8 0 1)) v3 → (∀ g10 : St, g10 = gp g9 0 1 ((g9 0 1) + 1) → (∀ g11 : St, g11 = gp g10 0 17 0 → (wp_mo_findTriangles g11 (fun g12 => (post ((g12 0 1) - 1) g12))))))))) ∧ (¬ ((g6 0 0) = 0) → (post 0 g6))))
def jn_mo_spot_J36 (v1 : Int32) (v2 : Int32) (v3 : Int32) (s0 : Int32) (g : St) (post : Int32 → St → Prop) : Prop :=
  (∃ k41, lp_mo_spot_L41 k41 v1 v2 v3 s0 0 g (fun w2 w3 w4 w5 g1 => ((w5 = 0 → ((¬ ((g1 0 1) = 16) → (jn_mo_spot_J114 w2 w3 w4 0 g1 post)) ∧ ((g1 0 1) = 16 → (jn_mo_spot_J114 w2 w3 w4 2 g1 post)))) ∧ (¬ (w5 = 0) → (jn_mo_spot_J114 w2 w3 w4 1 g1 post)))) post)
def jn_mo_spot_J31 (v1 : Int32) (v2 : Int32) (v3 : Int32) (g : St) (post : Int32 → St → Prop) : Prop :=
  (jn_mo_spot_J36 v1 v2 v3 1 g post)
def wp_mo_spot (x1 : Int32) (x2 : Int32) (x3 : Int32) (g : St) (post : Int32 → St → Prop) : Prop :=
  ((x1 < 0 → (jn_mo_spot_J31 x1 x2 x3 g post)) ∧ (¬ (x1 < 0) → ((63 < x1 → (jn_mo_spot_J31 x1 x2 x3 g post)) ∧ (¬ (63 < x1) → ((x2 < 0 → (jn_mo_spot_J31 x1 x2 x3 g post)) ∧ (¬ (x2 < 0) → ((63 < x2 → (jn_mo_spot_J31 x1 x2 x3 g post)) ∧ (¬ (63 < x2) → ((x3 < 0 → (jn_mo_spot_J31 x1 x2 x3 g post)) ∧ (¬ (x3 < 0) → ((x3 ≤ 999 → (jn_mo_spot_J36 x1 x2 x3 0 g post)) ∧ (¬ (x3 ≤ 999) → (jn_mo_spot_J31 x1 x2 x3 g post)))))))))))))
def jn_mo_raise_J29 (v1 : Int32) (v2 : Int32) (s1 : Int32) (g : St) (post : Int32 → St → Prop) : Prop :=
  (∀ g3 : St, g3 = gp g 0 0 s1 → (((g3 0 0) = 0 → (vp_in v1 16 ∧ (vp_in v1 16 ∧ ∀ g4 : St, g4 = gp g3 3 (ix v1) v2 → (∀ g5 : St, g5 = gp g4 0 17 0 → (post (g3 3 (ix v1)) g5))))) ∧ (¬ ((g3 0 0) = 0) → (post 0 g3))))
def jn_mo_raise_J24 (v1 : Int32) (v2 : Int32) (g : St) (post : Int32 → St → Prop) : Prop :=
  (jn_mo_raise_J29 v1 v2 2 g post)
def wp_mo_raise (x1 : Int32) (x2 : Int32) (g : St) (post : Int32 → St → Prop) : Prop :=
  (wp_mo_isSpot x1 g (fun r2 g1 => ((¬ (r2 = 0) → ((x2 < 0 → (jn_mo_raise_J24 x1 x2 g1 post)) ∧ (¬ (x2 < 0) → ((x2 ≤ 999 → (jn_mo_raise_J29 x1 x2 0 g1 post)) ∧ (¬ (x2 ≤ 999) → (jn_mo_raise_J24 x1 x2 g1 post)))))) ∧ (r2 = 0 → (jn_mo_raise_J29 x1 x2 1 g1 post)))))
def wp_mo_triangles (g : St) (post : Int32 → St → Prop) : Prop :=
  (∀ g1 : St, g1 = gp g 0 0 0 → (post (g1 0 5) g1))
def jn_mo_corner_J27 (v1 : Int32) (v2 : Int32) (s1 : Int32) (g : St) (post : Int32 → St → Prop) : Prop :=
  (∀ g1 : St, g1 = gp g 0 0 s1 → ((¬ ((g1 0 0) = 0) → (post 0 g1)) ∧ ((g1 0 0) = 0 → (vp_in ((3 * v1) + v2) 150 ∧ (post (g1 4 (ix ((3 * v1) + v2))) g1)))))
def jn_mo_corner_J22 (v1 : Int32) (v2 : Int32) (g : St) (post : Int32 → St → Prop) : Prop :=
  (jn_mo_corner_J27 v1 v2 1 g post)
def wp_mo_corner (x1 : Int32) (x2 : Int32) (g : St) (post : Int32 → St → Prop) : Prop :=
  ((x1 < 0 → (jn_mo_corner_J22 x1 x2 g post)) ∧ (¬ (x1 < 0) → (((g 0 5) ≤ x1 → (jn_mo_corner_J22 x1 x2 g post)) ∧ (¬ ((g 0 5) ≤ x1) → ((x2 < 0 → (jn_mo_corner_J22 x1 x2 g post)) ∧ (¬ (x2 < 0) → ((x2 ≤ 2 → (jn_mo_corner_J27 x1 x2 0 g post)) ∧ (¬ (x2 ≤ 2) → (jn_mo_corner_J22 x1 x2 g post)))))))))
def wp_mo_has (x1 : Int32) (x2 : Int32) (g : St) (post : Int32 → St → Prop) : Prop :=
  (vp_in (3 * x1) 150 ∧ (((g 4 (ix (3 * x1))) = x2 → (post 1 g)) ∧ (¬ ((g 4 (ix (3 * x1))) = x2) → (vp_in ((3 * x1) + 1) 150 ∧ (((g 4 (ix ((3 * x1) + 1))) = x2 → (post 1 g)) ∧ (¬ ((g 4 (ix ((3 * x1) + 1))) = x2) → (vp_in ((3 * x1) + 2) 150 ∧ ((¬ ((g 4 (ix ((3 * x1) + 2))) = x2) → (post 0 g)) ∧ ((g 4 (ix ((3 * x1) + 2))) = x2 → (post 1 g))))))))))
def lp_mo_edge_L30 : Nat → Int32 → Int32 → Int32 → Int32 → St → (Int32 → St → Prop) → (Int32 → St → Prop) → Prop
  | 0, _, _, _, _, _, _, _ => False
  | n + 1, v1, v2, v3, v4, g, K85, post => (((g 0 5) ≤ v4 → (K85 v3 g)) ∧ (¬ ((g 0 5) ≤ v4) → ((¬ ((g 0 0) = 0) → (K85 v3 g)) ∧ ((g 0 0) = 0 → ((v1 = v2 → (K85 v3 g)) ∧ (¬ (v1 = v2) → (wp_mo_has v4 v1 g (fun r5 g4 => ((r5 = 0 → (lp_mo_edge_L30 n v1 v2 (v3 + 0) (v4 + 1) g4 K85 post)) ∧ (¬ (r5 = 0) → (wp_mo_has v4 v2 g4 (fun r7 g6 => ((r7 = 0 → (lp_mo_edge_L30 n v1 v2 (v3 + 0) (v4 + 1) g6 K85 post)) ∧ (¬ (r7 = 0) → (lp_mo_edge_L30 n v1 v2 (v3 + 1) (v4 + 1) g6 K85 post)))))))))))))))
def jn_mo_edge_J22 (v1 : Int32) (v2 : Int32) (s1 : Int32) (g : St) (post : Int32 → St → Prop) : Prop :=
  (∀ g3 : St, g3 = gp g 0 0 s1 → (∃ k30, lp_mo_edge_L30 k30 v1 v2 0 0 g3 (fun w9 g8 => (post w9 g8)) post))
def jn_mo_edge_J21 (v1 : Int32) (v2 : Int32) (g : St) (post : Int32 → St → Prop) : Prop :=
  (jn_mo_edge_J22 v1 v2 1 g post)
def wp_mo_edge (x1 : Int32) (x2 : Int32) (g : St) (post : Int32 → St → Prop) : Prop :=
  (wp_mo_isSpot x1 g (fun r2 g1 => ((r2 = 0 → (jn_mo_edge_J21 x1 x2 g1 post)) ∧ (¬ (r2 = 0) → (wp_mo_isSpot x2 g1 (fun r11 g10 => ((r11 = 0 → (jn_mo_edge_J21 x1 x2 g10 post)) ∧ (¬ (r11 = 0) → (jn_mo_edge_J22 x1 x2 0 g10 post)))))))))
def wp_mo_toPlace (x1 : Int32) (x2 : Int32) (x3 : Int32) (x4 : Int32) (g : St) (post : Int64 → St → Prop) : Prop :=
  (vp_in x2 16 ∧ (vp_in x1 16 ∧ (vp_in x1 16 ∧ (vp_in x2 16 ∧ (vp_in x1 16 ∧ (vp_in x1 16 ∧ (post ((((g 1 (ix x2)) - (g 1 (ix x1))).toInt64 * (x4.toInt64 - (g 2 (ix x1)).toInt64)) - (((g 2 (ix x2)) - (g 2 (ix x1))).toInt64 * (x3.toInt64 - (g 1 (ix x1)).toInt64))) g)))))))
def wp_mo_floor (x0 : Int64) (x2 : Int64) (g : St) (post : Int64 → St → Prop) : Prop :=
  (¬ x2 = 0 ∧ (((lg_cmp ((x0 / x2) * x2) x0) ≤ 0 → (post (x0 / x2) g)) ∧ (¬ ((lg_cmp ((x0 / x2) * x2) x0) ≤ 0) → (post ((x0 / x2) - 1) g))))
def jn_mo_at_J82 (v1 : Int32) (v2 : Int32) (v3 : Int32) (v4 : Int32) (v5 : Int32) (v6 : Int32) (v7 : Int32) (s0 : Int32) (g : St) (K10 : Int32 → Int32 → Int32 → Int32 → St → Prop) (post : Int32 → St → Prop) : Prop :=
  (wp_mo_toPlace v6 v7 v1 v2 g (fun r5 g4 => (wp_mo_toPlace v7 v5 v1 v2 g4 (fun r7 g6 => (wp_mo_toPlace v5 v6 v1 v2 g6 (fun r9 g8 => (((lg_cmp (s0.toInt64 * r5) 0) < 0 → (K10 v1 v2 v3 (v4 + 1) g8)) ∧ (¬ ((lg_cmp (s0.toInt64 * r5) 0) < 0) → (((lg_cmp (s0.toInt64 * r7) 0) < 0 → (K10 v1 v2 v3 (v4 + 1) g8)) ∧ (¬ ((lg_cmp (s0.toInt64 * r7) 0) < 0) → (((lg_cmp (s0.toInt64 * r9) 0) < 0 → (K10 v1 v2 v3 (v4 + 1) g8)) ∧ (¬ ((lg_cmp (s0.toInt64 * r9) 0) < 0) → (vp_in v5 16 ∧ (vp_in v6 16 ∧ (vp_in v7 16 ∧ (wp_mo_floor ((((s0.toInt64 * r5) * (g8 3 (ix v5)).toInt64) + ((s0.toInt64 * r7) * (g8 3 (ix v6)).toInt64)) + ((s0.toInt64 * r9) * (g8 3 (ix v7)).toInt64)) (((s0.toInt64 * r5) + (s0.toInt64 * r7)) + (s0.toInt64 * r9)) g8 (fun r11 g10 => (∀ g12 : St, g12 = gp g10 0 0 0 → (K10 v1 v2 r11.toInt32 (v4 + 1) g12)))))))))))))))))))
def lp_mo_at_L10 : Nat → Int32 → Int32 → Int32 → Int32 → St → (Int32 → St → Prop) → (Int32 → St → Prop) → Prop
  | 0, _, _, _, _, _, _, _ => False
  | n + 1, v1, v2, v3, v4, g, K212, post => (((g 0 5) ≤ v4 → (K212 v3 g)) ∧ (¬ ((g 0 5) ≤ v4) → ((¬ ((g 0 0) = 1) → (K212 v3 g)) ∧ ((g 0 0) = 1 → (vp_in (3 * v4) 150 ∧ (vp_in ((3 * v4) + 1) 150 ∧ (vp_in ((3 * v4) + 2) 150 ∧ (wp_mo_turn (g 4 (ix (3 * v4))) (g 4 (ix ((3 * v4) + 1))) (g 4 (ix ((3 * v4) + 2))) g (fun r3 g2 => ((r3 ≤ 0 → (jn_mo_at_J82 v1 v2 v3 v4 (g 4 (ix (3 * v4))) (g 4 (ix ((3 * v4) + 1))) (g 4 (ix ((3 * v4) + 2))) (-1) g2 (fun w14 w15 w16 w17 g13 => (lp_mo_at_L10 n w14 w15 w16 w17 g13 K212 post)) post)) ∧ (¬ (r3 ≤ 0) → (jn_mo_at_J82 v1 v2 v3 v4 (g 4 (ix (3 * v4))) (g 4 (ix ((3 * v4) + 1))) (g 4 (ix ((3 * v4) + 2))) 1 g2 (fun w19 w20 w21 w22 g18 => (lp_mo_at_L10 n w19 w20 w21 w22 g18 K212 post)) post))))))))))))
def wp_mo_at (x1 : Int32) (x2 : Int32) (g : St) (post : Int32 → St → Prop) : Prop :=
  (∀ g1 : St, g1 = gp g 0 0 1 → (∃ k10, lp_mo_at_L10 k10 x1 x2 0 0 g1 (fun w24 g23 => (post w24 g23)) post))
def wp_mo_isHigh (x1 : Int32) (x2 : Int32) (g : St) (post : Int32 → St → Prop) : Prop :=
  (vp_in x1 16 ∧ (((g 3 (ix x1)) ≤ x2 → (post 0 g)) ∧ (¬ ((g 3 (ix x1)) ≤ x2) → (post 1 g))))
def wp_mo_edgeOf (x0 : Int32) (x1 : Int32) (g : St) (post : Int32 → St → Prop) : Prop :=
  ((x1 ≤ x0 → (post ((16 * x1) + x0) g)) ∧ (¬ (x1 ≤ x0) → (post ((16 * x0) + x1) g)))
def jn_mo_join_J34 (v1 : Int32) (v2 : Int32) (s0 : Int32) (g : St) (post : St → Prop) : Prop :=
  (wp_mo_edgeOf v1 v2 g (fun r8 g7 => (vp_in r8 256 ∧ ∀ g9 : St, g9 = gp g7 6 (ix r8) s0 → (wp_mo_edgeOf v1 v2 g9 (fun r11 g10 => (vp_in s0 256 ∧ ∀ g12 : St, g12 = gp g10 7 (ix s0) r11 → (post g12)))))))
def wp_mo_join (x1 : Int32) (x2 : Int32) (x3 : Int32) (x4 : Int32) (g : St) (post : St → Prop) : Prop :=
  (wp_mo_turn x2 x1 x3 g (fun r2 g1 => ((r2 < 0 → (wp_mo_isHigh x3 x4 g1 (fun r4 g3 => ((r4 = 0 → (wp_mo_edgeOf x1 x3 g3 (fun r6 g5 => (jn_mo_join_J34 x1 x2 r6 g5 post)))) ∧ (¬ (r4 = 0) → (wp_mo_edgeOf x3 x2 g3 (fun r14 g13 => (jn_mo_join_J34 x1 x2 r14 g13 post)))))))) ∧ (¬ (r2 < 0) → (post g1)))))
def wp_mo_pair (x1 : Int32) (x2 : Int32) (x3 : Int32) (x4 : Int32) (g : St) (post : St → Prop) : Prop :=
  (wp_mo_isHigh x1 x4 g (fun r2 g1 => (wp_mo_isHigh x2 x4 g1 (fun r4 g3 => ((¬ (r2 = r4) → (wp_mo_edgeOf x1 x2 g3 (fun r6 g5 => (vp_in r6 256 ∧ ∀ g7 : St, g7 = gp g5 5 (ix r6) (vp_nar .boolean 1) → (wp_mo_isHigh x1 x4 g7 (fun r9 g8 => ((r9 = 0 → (wp_mo_join x2 x1 x3 x4 g8 (fun g10 => (post g10)))) ∧ (¬ (r9 = 0) → (wp_mo_join x1 x2 x3 x4 g8 (fun g11 => (post g11))))))))))) ∧ (r2 = r4 → (post g3)))))))
def lp_mo_gather_L4 : Nat → Int32 → Int32 → Int32 → St → (Int32 → Int32 → St → Prop) → (St → Prop) → Prop
  | 0, _, _, _, _, _, _ => False
  | n + 1, v1, v2, v3, g, K38, post => (vp_in v2 256 ∧ (((g 7 (ix v2)) < 0 → (K38 v2 v3 g)) ∧ (¬ ((g 7 (ix v2)) < 0) → ((¬ (v3 = 0) → (K38 v2 v3 g)) ∧ (v3 = 0 → (vp_in v2 256 ∧ ((¬ ((g 7 (ix v2)) = v1) → (lp_mo_gather_L4 n v1 (g 7 (ix v2)) 0 g K38 post)) ∧ ((g 7 (ix v2)) = v1 → (lp_mo_gather_L4 n v1 (g 7 (ix v2)) 1 g K38 post)))))))))
def lp_mo_gather_L67 : Nat → Int32 → Int32 → Int32 → St → (St → Prop) → (St → Prop) → Prop
  | 0, _, _, _, _, _, _ => False
  | n + 1, v2, v4, v5, g, K131, post => ((v5 = 0 → (K131 g)) ∧ (¬ (v5 = 0) → (vp_in (g 0 15) 260 ∧ ∀ g6 : St, g6 = gp g 12 (ix (g 0 15)) v4 → (∀ g7 : St, g7 = gp g6 0 15 ((g6 0 15) + 1) → (vp_in v4 256 ∧ ∀ g8 : St, g8 = gp g7 8 (ix v4) (vp_nar .boolean 1) → (vp_in v4 256 ∧ (((g8 6 (ix v4)) < 0 → (lp_mo_gather_L67 n v2 (g8 6 (ix v4)) 0 g8 K131 post)) ∧ (¬ ((g8 6 (ix v4)) < 0) → (((g8 6 (ix v4)) = v2 → (lp_mo_gather_L67 n v2 (g8 6 (ix v4)) 0 g8 K131 post)) ∧ (¬ ((g8 6 (ix v4)) = v2) → (lp_mo_gather_L67 n v2 (g8 6 (ix v4)) 1 g8 K131 post)))))))))))
def jn_mo_gather_J38 (v2 : Int32) (v3 : Int32) (g : St) (post : St → Prop) : Prop :=
  (vp_in (g 0 11) 130 ∧ ∀ g4 : St, g4 = gp g 9 (ix (g 0 11)) (g 0 15) → (vp_in (g4 0 11) 130 ∧ ∀ g5 : St, g5 = gp g4 11 (ix (g4 0 11)) (vp_nar .boolean v3) → (∃ k67, lp_mo_gather_L67 k67 v2 v2 1 g5 (fun g9 => (vp_in (g9 0 11) 130 ∧ (vp_in (g9 0 11) 130 ∧ ∀ g10 : St, g10 = gp g9 10 (ix (g9 0 11)) ((g9 0 15) - (g9 9 (ix (g9 0 11)))) → (∀ g11 : St, g11 = gp g10 0 11 ((g10 0 11) + 1) → (post g11))))) post)))
def wp_mo_gather (x1 : Int32) (g : St) (post : St → Prop) : Prop :=
  (∃ k4, lp_mo_gather_L4 k4 x1 x1 0 g (fun w2 w3 g1 => (jn_mo_gather_J38 w2 w3 g1 post)) post)
def lp_mo_findContours_L2 : Nat → Int32 → Int32 → St → (Int32 → St → Prop) → (St → Prop) → Prop
  | 0, _, _, _, _, _ => False
  | n + 1, v1, v2, g, K43, post => ((256 ≤ v2 → (K43 v1 g)) ∧ (¬ (256 ≤ v2) → (vp_in v2 256 ∧ ∀ g1 : St, g1 = gp g 5 (ix v2) (vp_nar .boolean 0) → (vp_in v2 256 ∧ ∀ g2 : St, g2 = gp g1 8 (ix v2) (vp_nar .boolean 0) → (vp_in v2 256 ∧ ∀ g3 : St, g3 = gp g2 6 (ix v2) (-1) → (vp_in v2 256 ∧ ∀ g4 : St, g4 = gp g3 7 (ix v2) (-1) → (lp_mo_findContours_L2 n v1 (v2 + 1) g4 K43 post)))))))
def lp_mo_findContours_L45 : Nat → Int32 → Int32 → St → (St → Prop) → (St → Prop) → Prop
  | 0, _, _, _, _, _ => False
  | n + 1, v1, v2, g, K122, post => (((g 0 5) ≤ v2 → (K122 g)) ∧ (¬ ((g 0 5) ≤ v2) → (vp_in (3 * v2) 150 ∧ (vp_in ((3 * v2) + 1) 150 ∧ (vp_in ((3 * v2) + 2) 150 ∧ (wp_mo_pair (g 4 (ix (3 * v2))) (g 4 (ix ((3 * v2) + 1))) (g 4 (ix ((3 * v2) + 2))) v1 g (fun g7 => (wp_mo_pair (g 4 (ix (3 * v2))) (g 4 (ix ((3 * v2) + 2))) (g 4 (ix ((3 * v2) + 1))) v1 g7 (fun g8 => (wp_mo_pair (g 4 (ix ((3 * v2) + 1))) (g 4 (ix ((3 * v2) + 2))) (g 4 (ix (3 * v2))) v1 g8 (fun g9 => (lp_mo_findContours_L45 n v1 (v2 + 1) g9 K122 post))))))))))))
def lp_mo_findContours_L134 : Nat → Int32 → St → (St → Prop) → (St → Prop) → Prop
  | 0, _, _, _, _ => False
  | n + 1, v2, g, K170, post => ((256 ≤ v2 → (K170 g)) ∧ (¬ (256 ≤ v2) → (vp_in v2 256 ∧ (((g 5 (ix v2)) = 0 → (lp_mo_findContours_L134 n (v2 + 1) g K170 post)) ∧ (¬ ((g 5 (ix v2)) = 0) → (vp_in v2 256 ∧ ((¬ ((g 8 (ix v2)) = 0) → (lp_mo_findContours_L134 n (v2 + 1) g K170 post)) ∧ ((g 8 (ix v2)) = 0 → (wp_mo_gather v2 g (fun g13 => (lp_mo_findContours_L134 n (v2 + 1) g13 K170 post)))))))))))
def wp_mo_findContours (x1 : Int32) (g : St) (post : St → Prop) : Prop :=
  (∃ k2, lp_mo_findContours_L2 k2 x1 0 g (fun w6 g5 => (∃ k45, lp_mo_findContours_L45 k45 w6 0 g5 (fun g10 => (∀ g11 : St, g11 = gp g10 0 11 0 → (∀ g12 : St, g12 = gp g11 0 15 0 → (∃ k134, lp_mo_findContours_L134 k134 0 g12 (fun g14 => (post g14)) post)))) post)) post)
def wp_mo_isLevel (x0 : Int32) (g : St) (post : Int32 → St → Prop) : Prop :=
  ((x0 < 0 → (post 0 g)) ∧ (¬ (x0 < 0) → ((998 < x0 → (post 0 g)) ∧ (¬ (998 < x0) → (post 1 g)))))
def jn_mo_contours_J13 (v1 : Int32) (s1 : Int32) (g : St) (post : Int32 → St → Prop) : Prop :=
  (∀ g3 : St, g3 = gp g 0 0 s1 → (((g3 0 0) = 0 → (wp_mo_findContours v1 g3 (fun g4 => (post (g4 0 11) g4)))) ∧ (¬ ((g3 0 0) = 0) → (post 0 g3))))
def wp_mo_contours (x1 : Int32) (g : St) (post : Int32 → St → Prop) : Prop :=
  (wp_mo_isLevel x1 g (fun r2 g1 => ((r2 = 0 → (jn_mo_contours_J13 x1 1 g1 post)) ∧ (¬ (r2 = 0) → (jn_mo_contours_J13 x1 0 g1 post)))))
def wp_mo_asked (x1 : Int32) (x2 : Int32) (g : St) (post : Int32 → St → Prop) : Prop :=
  (wp_mo_isLevel x1 g (fun r2 g1 => ((¬ (r2 = 0) → (wp_mo_findContours x1 g1 (fun g3 => ((x2 < 0 → (post 2 g3)) ∧ (¬ (x2 < 0) → ((x2 < (g3 0 11) → (post 0 g3)) ∧ (¬ (x2 < (g3 0 11)) → (post 2 g3)))))))) ∧ (r2 = 0 → (post 1 g1)))))
def jn_mo_isHollow_J79 (v1 : Int32) (v2 : Int32) (v4 : Int32) (s0 : Int32) (g : St) (K23 : Int32 → Int32 → Int32 → Int32 → St → Prop) (post : Int32 → St → Prop) : Prop :=
  (vp_in v4 260 ∧ (vp_in ((g 12 (ix v4)) - (g 12 (ix v4)) / 16 * 16) 16 ∧ (vp_in s0 16 ∧ (((g 1 (ix s0)) ≤ (g 1 (ix ((g 12 (ix v4)) - (g 12 (ix v4)) / 16 * 16))) → (K23 v1 v2 s0 (v4 + 1) g)) ∧ (¬ ((g 1 (ix s0)) ≤ (g 1 (ix ((g 12 (ix v4)) - (g 12 (ix v4)) / 16 * 16)))) → (vp_in v4 260 ∧ (K23 v1 v2 ((g 12 (ix v4)) - (g 12 (ix v4)) / 16 * 16) (v4 + 1) g)))))))
def lp_mo_isHollow_L23 : Nat → Int32 → Int32 → Int32 → Int32 → St → (Int32 → Int32 → St → Prop) → (Int32 → St → Prop) → Prop
  | 0, _, _, _, _, _, _, _ => False
  | n + 1, v1, v2, v3, v4, g, K125, post => (vp_in v2 130 ∧ (vp_in v2 130 ∧ ((((g 9 (ix v2)) + (g 10 (ix v2))) ≤ v4 → (K125 v1 v3 g)) ∧ (¬ (((g 9 (ix v2)) + (g 10 (ix v2))) ≤ v4) → (vp_in v4 260 ∧ (vp_in ((g 12 (ix v4)) / 16) 16 ∧ (vp_in v3 16 ∧ (((g 1 (ix v3)) ≤ (g 1 (ix ((g 12 (ix v4)) / 16))) → (jn_mo_isHollow_J79 v1 v2 v4 v3 g (fun w2 w3 w4 w5 g1 => (lp_mo_isHollow_L23 n w2 w3 w4 w5 g1 K125 post)) post)) ∧ (¬ ((g 1 (ix v3)) ≤ (g 1 (ix ((g 12 (ix v4)) / 16)))) → (vp_in v4 260 ∧ (jn_mo_isHollow_J79 v1 v2 v4 ((g 12 (ix v4)) / 16) g (fun w7 w8 w9 w10 g6 => (lp_mo_isHollow_L23 n w7 w8 w9 w10 g6 K125 post)) post)))))))))))
def wp_mo_isHollow (x1 : Int32) (x2 : Int32) (g : St) (post : Int32 → St → Prop) : Prop :=
  (vp_in x2 130 ∧ (vp_in (g 9 (ix x2)) 260 ∧ (vp_in x2 130 ∧ (∃ k23, lp_mo_isHollow_L23 k23 x1 x2 ((g 12 (ix (g 9 (ix x2)))) / 16) (g 9 (ix x2)) g (fun w12 w13 g11 => (wp_mo_isHigh w13 w12 g11 (fun r15 g14 => (narrow .boolean (.int r15) = .int r15 ∧ post r15 g14)))) post))))
def wp_mo_contour (x1 : Int32) (x2 : Int32) (g : St) (post : Int32 → St → Prop) : Prop :=
  (wp_mo_asked x1 x2 g (fun r2 g1 => (∀ g3 : St, g3 = gp g1 0 0 r2 → (((g3 0 0) = 0 → (vp_in x2 130 ∧ (vp_in x2 130 ∧ ((¬ ((g3 11 (ix x2)) = 0) → (wp_mo_isHollow x1 x2 g3 (fun r5 g4 => ((r5 = 0 → (post ((g3 10 (ix x2)) + 1000) g4)) ∧ (¬ (r5 = 0) → (post ((g3 10 (ix x2)) + 2000) g4)))))) ∧ ((g3 11 (ix x2)) = 0 → (post ((g3 10 (ix x2)) + 0) g3)))))) ∧ (¬ ((g3 0 0) = 0) → (post 0 g3))))))
def wp_mo_askedFor (x1 : Int32) (x2 : Int32) (x3 : Int32) (g : St) (post : Int32 → St → Prop) : Prop :=
  (wp_mo_asked x1 x2 g (fun r2 g1 => ((¬ (r2 = 0) → (post r2 g1)) ∧ (r2 = 0 → ((x3 < 0 → (post 2 g1)) ∧ (¬ (x3 < 0) → (vp_in x2 130 ∧ ((x3 < (g1 10 (ix x2)) → (post r2 g1)) ∧ (¬ (x3 < (g1 10 (ix x2))) → (post 2 g1))))))))))
def wp_mo_crossing (x1 : Int32) (x2 : Int32) (x3 : Int32) (g : St) (post : Int32 → St → Prop) : Prop :=
  (wp_mo_askedFor x1 x2 x3 g (fun r2 g1 => (∀ g3 : St, g3 = gp g1 0 0 r2 → ((¬ ((g3 0 0) = 0) → (post 0 g3)) ∧ ((g3 0 0) = 0 → (vp_in x2 130 ∧ (vp_in ((g3 9 (ix x2)) + x3) 260 ∧ (post (g3 12 (ix ((g3 9 (ix x2)) + x3))) g3))))))))
def jn_mo_placeOf_J23 (v1 : Int32) (v2 : Int32) (s0 : Int32) (g : St) (post : Int32 → St → Prop) : Prop :=
  (vp_in (((v2 / 16) + (v2 - v2 / 16 * 16)) - s0) 16 ∧ (vp_in s0 16 ∧ (vp_in (((v2 / 16) + (v2 - v2 / 16 * 16)) - s0) 16 ∧ (vp_in (((v2 / 16) + (v2 - v2 / 16 * 16)) - s0) 16 ∧ (vp_in s0 16 ∧ (vp_in (((v2 / 16) + (v2 - v2 / 16 * 16)) - s0) 16 ∧ (wp_mo_floor (((g 1 (ix s0)) - (g 1 (ix (((v2 / 16) + (v2 - v2 / 16 * 16)) - s0)))).toInt64 * (((2 * v1) + 1) - (2 * (g 3 (ix (((v2 / 16) + (v2 - v2 / 16 * 16)) - s0))))).toInt64) (2 * ((g 3 (ix s0)) - (g 3 (ix (((v2 / 16) + (v2 - v2 / 16 * 16)) - s0))))).toInt64 g (fun r4 g3 => (vp_in (((v2 / 16) + (v2 - v2 / 16 * 16)) - s0) 16 ∧ (vp_in s0 16 ∧ (vp_in (((v2 / 16) + (v2 - v2 / 16 * 16)) - s0) 16 ∧ (wp_mo_floor (((g3 2 (ix s0)) - (g3 2 (ix (((v2 / 16) + (v2 - v2 / 16 * 16)) - s0)))).toInt64 * (((2 * v1) + 1) - (2 * (g 3 (ix (((v2 / 16) + (v2 - v2 / 16 * 16)) - s0))))).toInt64) (2 * ((g 3 (ix s0)) - (g 3 (ix (((v2 / 16) + (v2 - v2 / 16 * 16)) - s0))))).toInt64 g3 (fun r6 g5 => (post ((64 * ((g 1 (ix (((v2 / 16) + (v2 - v2 / 16 * 16)) - s0))).toInt64 + r4)) + ((g3 2 (ix (((v2 / 16) + (v2 - v2 / 16 * 16)) - s0))).toInt64 + r6)).toInt32 g5))))))))))))))
def wp_mo_placeOf (x1 : Int32) (x2 : Int32) (g : St) (post : Int32 → St → Prop) : Prop :=
  (wp_mo_isHigh (x2 / 16) x1 g (fun r2 g1 => ((r2 = 0 → (jn_mo_placeOf_J23 x1 x2 (x2 - x2 / 16 * 16) g1 post)) ∧ (¬ (r2 = 0) → (jn_mo_placeOf_J23 x1 x2 (x2 / 16) g1 post)))))
def wp_mo_place (x1 : Int32) (x2 : Int32) (x3 : Int32) (g : St) (post : Int32 → St → Prop) : Prop :=
  (wp_mo_askedFor x1 x2 x3 g (fun r2 g1 => (∀ g3 : St, g3 = gp g1 0 0 r2 → ((¬ ((g3 0 0) = 0) → (post 0 g3)) ∧ ((g3 0 0) = 0 → (vp_in x2 130 ∧ (vp_in ((g3 9 (ix x2)) + x3) 260 ∧ (wp_mo_placeOf x1 (g3 12 (ix ((g3 9 (ix x2)) + x3))) g3 (fun r5 g4 => (post r5 g4))))))))))
def wp_mo_isNear (x1 : Int32) (x2 : Int32) (x3 : Int32) (g : St) (post : Int32 → St → Prop) : Prop :=
  ((x3 < (x1 - x2) → (post 0 g)) ∧ (¬ (x3 < (x1 - x2)) → ((x3 < (x2 - x1) → (post 0 g)) ∧ (¬ (x3 < (x2 - x1)) → (post 1 g)))))
def lp_mo_clashes_L5 : Nat → Int32 → Int32 → Int32 → Int32 → St → (Int32 → Int32 → Int32 → St → Prop) → (Int32 → St → Prop) → Prop
  | 0, _, _, _, _, _, _, _ => False
  | n + 1, v1, v2, v3, v4, g, K62, post => (((g 0 1) ≤ v4 → (K62 v1 v2 v3 g)) ∧ (¬ ((g 0 1) ≤ v4) → ((¬ (v3 = 0) → (lp_mo_clashes_L5 n v1 v2 1 (v4 + 1) g K62 post)) ∧ (v3 = 0 → (vp_in v4 16 ∧ (wp_mo_isNear (g 1 (ix v4)) v1 3 g (fun r2 g1 => ((r2 = 0 → (lp_mo_clashes_L5 n v1 v2 0 (v4 + 1) g1 K62 post)) ∧ (¬ (r2 = 0) → (vp_in v4 16 ∧ (wp_mo_isNear (g1 2 (ix v4)) v2 1 g1 (fun r4 g3 => ((r4 = 0 → (lp_mo_clashes_L5 n v1 v2 0 (v4 + 1) g3 K62 post)) ∧ (¬ (r4 = 0) → (lp_mo_clashes_L5 n v1 v2 1 (v4 + 1) g3 K62 post)))))))))))))))
def lp_mo_clashes_L65 : Nat → Int32 → Int32 → Int32 → Int32 → St → (Int32 → St → Prop) → (Int32 → St → Prop) → Prop
  | 0, _, _, _, _, _, _, _ => False
  | n + 1, v1, v2, v3, v4, g, K123, post => (((g 0 17) ≤ v4 → (K123 v3 g)) ∧ (¬ ((g 0 17) ≤ v4) → ((¬ (v3 = 0) → (lp_mo_clashes_L65 n v1 v2 1 (v4 + 1) g K123 post)) ∧ (v3 = 0 → (vp_in v4 60 ∧ (wp_mo_isNear (g 14 (ix v4)) v1 6 g (fun r10 g9 => ((r10 = 0 → (lp_mo_clashes_L65 n v1 v2 0 (v4 + 1) g9 K123 post)) ∧ (¬ (r10 = 0) → (vp_in v4 60 ∧ (wp_mo_isNear (g9 15 (ix v4)) v2 2 g9 (fun r12 g11 => ((r12 = 0 → (lp_mo_clashes_L65 n v1 v2 0 (v4 + 1) g11 K123 post)) ∧ (¬ (r12 = 0) → (lp_mo_clashes_L65 n v1 v2 1 (v4 + 1) g11 K123 post)))))))))))))))
def wp_mo_clashes (x1 : Int32) (x2 : Int32) (g : St) (post : Int32 → St → Prop) : Prop :=
  (∃ k5, lp_mo_clashes_L5 k5 x1 x2 0 0 g (fun w6 w7 w8 g5 => (∃ k65, lp_mo_clashes_L65 k65 w6 w7 w8 0 g5 (fun w14 g13 => (narrow .boolean (.int w14) = .int w14 ∧ post w14 g13)) post)) post)
def lp_mo_labelContour_L5 : Nat → Int32 → Int32 → Int32 → Int32 → St → (St → Prop) → (St → Prop) → Prop
  | 0, _, _, _, _, _, _, _ => False
  | n + 1, v1, v2, v3, v4, g, K114, post => (vp_in v2 130 ∧ (((g 10 (ix v2)) ≤ v4 → (K114 g)) ∧ (¬ ((g 10 (ix v2)) ≤ v4) → ((¬ (v3 = 0) → (K114 g)) ∧ (v3 = 0 → (vp_in v2 130 ∧ (vp_in ((g 9 (ix v2)) + v4) 260 ∧ (wp_mo_placeOf v1 (g 12 (ix ((g 9 (ix v2)) + v4))) g (fun r2 g1 => (wp_mo_clashes (r2 / 64) (r2 - r2 / 64 * 64) g1 (fun r4 g3 => ((¬ (r4 = 0) → (lp_mo_labelContour_L5 n v1 v2 v3 (v4 + 1) g3 K114 post)) ∧ (r4 = 0 → (vp_in (g3 0 17) 60 ∧ ∀ g5 : St, g5 = gp g3 13 (ix (g3 0 17)) v1 → (vp_in (g5 0 17) 60 ∧ ∀ g6 : St, g6 = gp g5 14 (ix (g5 0 17)) (r2 / 64) → (vp_in (g6 0 17) 60 ∧ ∀ g7 : St, g7 = gp g6 15 (ix (g6 0 17)) (r2 - r2 / 64 * 64) → (∀ g8 : St, g8 = gp g7 0 17 ((g7 0 17) + 1) → (lp_mo_labelContour_L5 n v1 v2 1 (v4 + 1) g8 K114 post))))))))))))))))))
def wp_mo_labelContour (x1 : Int32) (x2 : Int32) (g : St) (post : St → Prop) : Prop :=
  (∃ k5, lp_mo_labelContour_L5 k5 x1 x2 0 0 g (fun g9 => (post g9)) post)
def lp_mo_label_L37 : Nat → Int32 → Int32 → Int32 → St → (Int32 → St → Prop) → (Int32 → St → Prop) → Prop
  | 0, _, _, _, _, _, _ => False
  | n + 1, v1, v2, v3, g, K57, post => (((g 0 11) ≤ v3 → (K57 v2 g)) ∧ (¬ ((g 0 11) ≤ v3) → (wp_mo_labelContour v1 v3 g (fun g5 => (lp_mo_label_L37 n v1 v2 (v3 + 1) g5 K57 post)))))
def jn_mo_label_J79 (v2 : Int32) (v3 : Int32) (s1 : Int32) (g : St) (post : Int32 → St → Prop) : Prop :=
  (∀ g8 : St, g8 = gp g 0 0 s1 → ((¬ ((g8 0 0) = 0) → (∀ g9 : St, g9 = gp g8 0 17 v2 → ((¬ ((g9 0 0) = 0) → (post 0 g9)) ∧ ((g9 0 0) = 0 → (post v3 g9))))) ∧ ((g8 0 0) = 0 → (∀ g10 : St, g10 = gp g8 0 17 (g8 0 17) → ((¬ ((g10 0 0) = 0) → (post 0 g10)) ∧ ((g10 0 0) = 0 → (post v3 g10)))))))
def jn_mo_label_J13 (v1 : Int32) (s1 : Int32) (g : St) (post : Int32 → St → Prop) : Prop :=
  (∀ g3 : St, g3 = gp g 0 0 s1 → (((g3 0 0) = 0 → (wp_mo_findContours v1 g3 (fun g4 => (∃ k37, lp_mo_label_L37 k37 v1 (g4 0 17) 0 g4 (fun w7 g6 => (((g6 0 17) ≤ 20 → (jn_mo_label_J79 w7 ((g6 0 17) - w7) 0 g6 post)) ∧ (¬ ((g6 0 17) ≤ 20) → (jn_mo_label_J79 w7 ((g6 0 17) - w7) 2 g6 post)))) post)))) ∧ (¬ ((g3 0 0) = 0) → (post 0 g3))))
def wp_mo_label (x1 : Int32) (g : St) (post : Int32 → St → Prop) : Prop :=
  (wp_mo_isLevel x1 g (fun r2 g1 => ((r2 = 0 → (jn_mo_label_J13 x1 1 g1 post)) ∧ (¬ (r2 = 0) → (jn_mo_label_J13 x1 0 g1 post)))))
def wp_mo_labels (g : St) (post : Int32 → St → Prop) : Prop :=
  (∀ g1 : St, g1 = gp g 0 0 0 → (post (g1 0 17) g1))
def jn_mo_labelOf_J31 (v1 : Int32) (v2 : Int32) (s1 : Int32) (g : St) (post : Int32 → St → Prop) : Prop :=
  (∀ g1 : St, g1 = gp g 0 0 s1 → (((g1 0 0) = 0 → ((¬ (v2 = 0) → ((¬ (v2 = 1) → (vp_in v1 60 ∧ (post (g1 15 (ix v1)) g1))) ∧ (v2 = 1 → (vp_in v1 60 ∧ (post (g1 14 (ix v1)) g1))))) ∧ (v2 = 0 → (vp_in v1 60 ∧ (post (g1 13 (ix v1)) g1))))) ∧ (¬ ((g1 0 0) = 0) → (post 0 g1))))
def jn_mo_labelOf_J13 (v1 : Int32) (v2 : Int32) (g : St) (post : Int32 → St → Prop) : Prop :=
  (jn_mo_labelOf_J31 v1 v2 1 g post)
def jn_mo_labelOf_J26 (v1 : Int32) (v2 : Int32) (g : St) (post : Int32 → St → Prop) : Prop :=
  (jn_mo_labelOf_J31 v1 v2 2 g post)
def wp_mo_labelOf (x1 : Int32) (x2 : Int32) (g : St) (post : Int32 → St → Prop) : Prop :=
  ((x1 < 0 → (jn_mo_labelOf_J13 x1 x2 g post)) ∧ (¬ (x1 < 0) → ((x1 < (g 0 17) → ((x2 < 0 → (jn_mo_labelOf_J26 x1 x2 g post)) ∧ (¬ (x2 < 0) → ((x2 ≤ 2 → (jn_mo_labelOf_J31 x1 x2 0 g post)) ∧ (¬ (x2 ≤ 2) → (jn_mo_labelOf_J26 x1 x2 g post)))))) ∧ (¬ (x1 < (g 0 17)) → (jn_mo_labelOf_J13 x1 x2 g post)))))
def wp_mo_wipe (g : St) (post : Int32 → St → Prop) : Prop :=
  (∀ g1 : St, g1 = gp g 0 0 0 → (∀ g2 : St, g2 = gp g1 0 17 0 → (post (g1 0 17) g2)))
end
section
/-! What the methods of Spots, and the reference's sisters, answer: in whole numbers. -/
theorem ix_nI {a : Nat} (h : a < 2147483648) : ix (nI a) = a := nI_clamp (by omega)
theorem nb_0 : narrow .boolean (.int 0) = .int 0 := by decide
theorem nb_1 : narrow .boolean (.int 1) = .int 1 := by decide
theorem vn_0 : vp_nar .boolean 0 = 0 := by decide
theorem vn_1 : vp_nar .boolean 1 = 1 := by decide
theorem iI_0 : iI 0 = 0 := rfl
theorem iI_1 : iI 1 = 1 := rfl
theorem iI_m1 : iI (-1) = -1 := rfl
theorem jI_0 : jI 0 = 0 := rfl
theorem jI_1 : jI 1 = 1 := rfl
/-- the spots of the class -/
def sC (g : St) (n : Nat) (X Y Z : Nat → Int) : Prop := ge_ok X Y n ∧ (∀ v, v < n → 0 ≤ Z v ∧ Z v ≤ 999) ∧ g 1 3 = nI n ∧ ∀ v, v < n → g 5 v = iI (X v) ∧ g 6 v = iI (Y v) ∧ g 7 v = iI (Z v)
/-- the spots of the reference -/
def sM (g : St) (n : Nat) (X Y Z : Nat → Int) : Prop := ge_ok X Y n ∧ (∀ v, v < n → 0 ≤ Z v ∧ Z v ≤ 999) ∧ g 0 1 = nI n ∧ ∀ v, v < n → g 1 v = iI (X v) ∧ g 2 v = iI (Y v) ∧ g 3 v = iI (Z v)
section
variable {g : St} {n : Nat} {X Y Z : Nat → Int}
theorem sC.v16 (h : sC g n X Y Z) {a : Nat} (ha : a < n) : vp_in (nI a) 16 := vp_in_nI (by have := h.1.1; omega) (by omega)
theorem sC.ix (h : sC g n X Y Z) {a : Nat} (ha : a < n) : ix (nI a) = a := ix_nI (by have := h.1.1; omega)
theorem sM.v16 (h : sM g n X Y Z) {a : Nat} (ha : a < n) : vp_in (nI a) 16 := vp_in_nI (by have := h.1.1; omega) (by omega)
theorem sM.ix (h : sM g n X Y Z) {a : Nat} (ha : a < n) : ix (nI a) = a := ix_nI (by have := h.1.1; omega)
/-- twice the area to a place -/
def ge_p (X Y : Nat → Int) (a b : Nat) (x y : Int) : Int := (X b - X a) * (y - Y a) - (Y b - Y a) * (x - X a)
theorem ge_p_t (X Y : Nat → Int) (a b c : Nat) : ge_p X Y a b (X c) (Y c) = ge_t X Y a b c := rfl
theorem sp_turnTo {a b : Nat} {x y : Int} {post : Int32 → St → Prop} (hS : sC g n X Y Z) (ha : a < n) (hb : b < n) (h : post (iI (ge_p X Y a b x y)) g) : wp_sp_turnTo (nI a) (nI b) (iI x) (iI y) g post := by
  obtain ⟨a1, a2, -⟩ := hS.2.2.2 a ha
  obtain ⟨b1, b2, -⟩ := hS.2.2.2 b hb
  have va := hS.v16 ha
  have vb := hS.v16 hb
  unfold wp_sp_turnTo
  simp only [hS.ix ha, hS.ix hb, a1, a2, b1, b2, iI_sub, iI_mul]
  exact ⟨vb, va, va, vb, va, va, h⟩
theorem sp_turn {a b c : Nat} {post : Int32 → St → Prop} (hS : sC g n X Y Z) (ha : a < n) (hb : b < n) (hc : c < n) (h : post (iI (ge_t X Y a b c)) g) : wp_sp_turn (nI a) (nI b) (nI c) g post := by
  obtain ⟨c1, c2, -⟩ := hS.2.2.2 c hc
  unfold wp_sp_turn
  simp only [hS.ix hc, c1, c2]
  exact ⟨hS.v16 hc, hS.v16 hc, sp_turnTo hS ha hb h⟩
theorem ge_tb {X Y : Nat → Int} {n : Nat} (h : ge_ok X Y n) {a b c : Nat} (ha : a < n) (hb : b < n) (hc : c < n) : -2147483648 ≤ ge_t X Y a b c ∧ ge_t X Y a b c < 2147483648 := by
  have := ge_t_b h ha hb hc
  omega
theorem mo_turn {a b c : Nat} {post : Int32 → St → Prop} (hS : sM g n X Y Z) (ha : a < n) (hb : b < n) (hc : c < n) (h : post (iI (ge_t X Y a b c)) g) : wp_mo_turn (nI a) (nI b) (nI c) g post := by
  obtain ⟨a1, a2, -⟩ := hS.2.2.2 a ha
  obtain ⟨b1, b2, -⟩ := hS.2.2.2 b hb
  obtain ⟨c1, c2, -⟩ := hS.2.2.2 c hc
  have va := hS.v16 ha
  have vb := hS.v16 hb
  have vc := hS.v16 hc
  unfold wp_mo_turn
  simp only [hS.ix ha, hS.ix hb, hS.ix hc, a1, a2, b1, b2, c1, c2, iI_sub, iI_mul]
  exact ⟨vb, va, vc, va, vb, va, vc, va, h⟩
/-- a difference of two places of the map as a long -/
theorem iI_dl {x y : Int} (h1 : 0 ≤ x) (h2 : x ≤ 63) (h3 : 0 ≤ y) (h4 : y ≤ 63) : (iI (x - y)).toInt64 = jI (x - y) := iI_long (by omega) (by omega)
theorem sp_square {d s : Nat} {post : Int64 → St → Prop} (hS : sC g n X Y Z) (hd : d < n) (hs : s < n) (h : post (jI (ge_q X Y s d)) g) : wp_sp_squareFrom (nI d) (nI s) g post := by
  obtain ⟨a1, a2, -⟩ := hS.2.2.2 d hd
  obtain ⟨b1, b2, -⟩ := hS.2.2.2 s hs
  obtain ⟨d1, d2, d3, d4⟩ := hS.1.2.1 d hd
  obtain ⟨s1, s2, s3, s4⟩ := hS.1.2.1 s hs
  unfold wp_sp_squareFrom
  simp only [hS.ix hd, hS.ix hs, a1, a2, b1, b2, iI_sub]
  rw [iI_dl s1 s2 d1 d2, iI_dl s3 s4 d3 d4]
  simp only [jI_mul, jI_add]
  exact ⟨hS.v16 hs, hS.v16 hd, hS.v16 hs, hS.v16 hd, h⟩
theorem mo_square {a b : Nat} {post : Int64 → St → Prop} (hS : sM g n X Y Z) (ha : a < n) (hb : b < n) (h : post (jI (ge_q X Y a b)) g) : wp_mo_square (nI a) (nI b) g post := by
  obtain ⟨a1, a2, -⟩ := hS.2.2.2 a ha
  obtain ⟨b1, b2, -⟩ := hS.2.2.2 b hb
  obtain ⟨d1, d2, d3, d4⟩ := hS.1.2.1 a ha
  obtain ⟨s1, s2, s3, s4⟩ := hS.1.2.1 b hb
  have va := hS.v16 ha
  have vb := hS.v16 hb
  unfold wp_mo_square
  simp only [hS.ix ha, hS.ix hb, a1, a2, b1, b2, iI_sub]
  rw [iI_dl d1 d2 s1 s2, iI_dl d3 d4 s3 s4]
  simp only [jI_mul, jI_add]
  exact ⟨va, vb, va, vb, va, vb, va, vb, h⟩
theorem ge_qb {X Y : Nat → Int} {n : Nat} (h : ge_ok X Y n) {a b : Nat} (ha : a < n) (hb : b < n) : 0 ≤ ge_q X Y a b ∧ ge_q X Y a b ≤ 7938 := by
  obtain ⟨a1, a2, a3, a4⟩ := h.2.1 a ha
  obtain ⟨b1, b2, b3, b4⟩ := h.2.1 b hb
  have p := ge_mb (x := X a - X b) (y := X a - X b) (by omega) (by omega) (by omega) (by omega)
  have q := ge_mb (x := Y a - Y b) (y := Y a - Y b) (by omega) (by omega) (by omega) (by omega)
  have r : 0 ≤ (X a - X b) * (X a - X b) := by rcases Int.le_total 0 (X a - X b) with h | h; exact Int.mul_nonneg h h; exact Int.mul_nonneg_of_nonpos_of_nonpos h h
  have s : 0 ≤ (Y a - Y b) * (Y a - Y b) := by rcases Int.le_total 0 (Y a - Y b) with h | h; exact Int.mul_nonneg h h; exact Int.mul_nonneg_of_nonpos_of_nonpos h h
  unfold ge_q
  omega
theorem ge_qt {q t : Int} (h1 : 0 ≤ q) (h2 : q ≤ 7938) (h3 : -7938 ≤ t) (h4 : t ≤ 7938) : -63011844 ≤ q * t ∧ q * t ≤ 63011844 := by
  have a := Int.mul_nonneg (a := q) (b := 7938 - t) (by omega) (by omega)
  have b := Int.mul_nonneg (a := q) (b := 7938 + t) (by omega) (by omega)
  simp only [Int.mul_sub, Int.mul_add] at a b
  omega
theorem ge_ib {X Y : Nat → Int} {n : Nat} (h : ge_ok X Y n) {a b c d : Nat} (ha : a < n) (hb : b < n) (hc : c < n) (hd : d < n) : -189035532 ≤ ge_i X Y a b c d ∧ ge_i X Y a b c d ≤ 189035532 := by
  have q1 := ge_qb h ha hd
  have q2 := ge_qb h hb hd
  have q3 := ge_qb h hc hd
  have t1 := ge_t_b h hd hb hc
  have t2 := ge_t_b h hd ha hc
  have t3 := ge_t_b h hd ha hb
  have p1 := ge_qt q1.1 q1.2 t1.1 t1.2
  have p2 := ge_qt q2.1 q2.2 t2.1 t2.2
  have p3 := ge_qt q3.1 q3.2 t3.1 t3.2
  unfold ge_i
  omega
theorem sp_depth {a b c d : Nat} {post : Int64 → St → Prop} (hS : sC g n X Y Z) (ha : a < n) (hb : b < n) (hc : c < n) (hd : d < n) (h : post (jI (ge_dep X Y a b c d)) g) : wp_sp_depthInCircle (nI a) (nI b) (nI c) (nI d) g post := by
  have b1 := ge_tb hS.1 hd hb hc
  have b2 := ge_tb hS.1 hd ha hc
  have b3 := ge_tb hS.1 hd ha hb
  have b4 := ge_tb hS.1 ha hb hc
  unfold wp_sp_depthInCircle
  refine sp_square hS hd ha (sp_turn hS hd hb hc (sp_square hS hd hb (sp_turn hS hd ha hc (sp_square hS hd hc (sp_turn hS hd ha hb (sp_turn hS ha hb hc ?_))))))
  rw [iI_long b1.1 b1.2, iI_long b2.1 b2.2, iI_long b3.1 b3.2]
  simp only [jI_mul, jI_sub, jI_add, jI_neg]
  have e : ge_q X Y a d * ge_t X Y d b c - ge_q X Y b d * ge_t X Y d a c + ge_q X Y c d * ge_t X Y d a b = ge_i X Y a b c d := rfl
  rw [e]
  have z : (iI (ge_t X Y a b c) ≤ 0) ↔ ¬ 0 < ge_t X Y a b c := by
    rw [← iI_0, iI_le b4.1 b4.2 (by omega) (by omega)]; omega
  unfold ge_dep at h
  constructor
  · intro k; rw [if_neg (z.mp k)] at h; exact h
  · intro k; rw [if_pos (Classical.not_not.mp (fun q => k (z.mpr q)))] at h; exact h
theorem mo_inside {a b c d : Nat} {post : Int64 → St → Prop} (hS : sM g n X Y Z) (ha : a < n) (hb : b < n) (hc : c < n) (hd : d < n) (h : post (jI (ge_dep X Y a b c d)) g) : wp_mo_inside (nI a) (nI b) (nI c) (nI d) g post := by
  have b1 := ge_tb hS.1 hd hb hc
  have b2 := ge_tb hS.1 hd hc ha
  have b3 := ge_tb hS.1 hd ha hb
  have b4 := ge_tb hS.1 ha hb hc
  unfold wp_mo_inside
  refine mo_square hS ha hd (mo_turn hS hd hb hc (mo_square hS hb hd (mo_turn hS hd hc ha (mo_square hS hc hd (mo_turn hS hd ha hb (mo_turn hS ha hb hc ?_))))))
  rw [iI_long b1.1 b1.2, iI_long b2.1 b2.2, iI_long b3.1 b3.2]
  simp only [jI_mul, jI_add, jI_neg]
  have e : ge_q X Y a d * ge_t X Y d b c + ge_q X Y b d * ge_t X Y d c a + ge_q X Y c d * ge_t X Y d a b = ge_i X Y a b c d := by
    unfold ge_i; rw [ge_t_sw X Y d a c]; grind
  rw [e]
  have z : (iI (ge_t X Y a b c) ≤ 0) ↔ ¬ 0 < ge_t X Y a b c := by
    rw [← iI_0, iI_le b4.1 b4.2 (by omega) (by omega)]; omega
  unfold ge_dep at h
  constructor
  · intro k; rw [if_neg (z.mp k)] at h; exact h
  · intro k; rw [if_pos (Classical.not_not.mp (fun q => k (z.mpr q)))] at h; exact h
theorem ge_depb {X Y : Nat → Int} {n : Nat} (h : ge_ok X Y n) {a b c d : Nat} (ha : a < n) (hb : b < n) (hc : c < n) (hd : d < n) : -9223372036854775808 ≤ ge_dep X Y a b c d ∧ ge_dep X Y a b c d < 9223372036854775808 := by
  have := ge_ib h ha hb hc hd
  unfold ge_dep
  split <;> omega
/-- the sign of three -/
theorem jI_cmp0 {z : Int} (h1 : -9223372036854775808 ≤ z) (h2 : z < 9223372036854775808) : lg_cmp (jI z) 0 = if 0 < z then 1 else if z = 0 then 0 else (-1) := by
  rw [← jI_0]; exact jI_cmp h1 h2 (by omega) (by omega)
theorem sp_opposite {a d b c : Nat} {post : Int32 → St → Prop} (hS : sC g n X Y Z) (ha : a < n) (hd : d < n) (hb : b < n) (hc : c < n)
    (h0 : ((0 < ge_t X Y a d b) ↔ (0 < ge_t X Y a d c)) → post 0 g) (h1 : ¬ ((0 < ge_t X Y a d b) ↔ (0 < ge_t X Y a d c)) → post 1 g) : wp_sp_areOpposite (nI a) (nI d) (nI b) (nI c) g post := by
  have b1 := ge_tb hS.1 ha hd hb
  have b2 := ge_tb hS.1 ha hd hc
  have z1 : (iI (ge_t X Y a d b) ≤ 0) ↔ ¬ 0 < ge_t X Y a d b := by rw [← iI_0, iI_le b1.1 b1.2 (by omega) (by omega)]; omega
  have z2 : (iI (ge_t X Y a d c) ≤ 0) ↔ ¬ 0 < ge_t X Y a d c := by rw [← iI_0, iI_le b2.1 b2.2 (by omega) (by omega)]; omega
  unfold wp_sp_areOpposite
  refine sp_turn hS ha hd hb ⟨fun k => ?_, fun k => ?_⟩ <;> (unfold jn_sp_areOpposite_J15; refine sp_turn hS ha hd hc ⟨fun k2 => ⟨fun q => ?_, fun q => ?_⟩, fun k2 => ⟨fun q => ?_, fun q => ?_⟩⟩)
  · exact h0 ⟨fun u => absurd u (z1.mp k), fun u => absurd u (z2.mp k2)⟩
  · exact absurd rfl q
  · exact absurd q (by decide)
  · exact h1 (fun u => z1.mp k (u.mpr (Classical.not_not.mp (fun q => k2 (z2.mpr q)))))
  · exact absurd q (by decide)
  · exact h1 (fun u => z2.mp k2 (u.mp (Classical.not_not.mp (fun q => k (z1.mpr q)))))
  · exact h0 ⟨fun _ => Classical.not_not.mp (fun q => k2 (z2.mpr q)), fun _ => Classical.not_not.mp (fun q => k (z1.mpr q))⟩
  · exact absurd rfl q
theorem mo_parts {d a b c : Nat} {post : Int32 → St → Prop} (hS : sM g n X Y Z) (hd : d < n) (ha : a < n) (hb : b < n) (hc : c < n)
    (h0 : ((0 < ge_t X Y d a b) ↔ (0 < ge_t X Y d a c)) → post 0 g) (h1 : ¬ ((0 < ge_t X Y d a b) ↔ (0 < ge_t X Y d a c)) → post 1 g) : wp_mo_parts (nI d) (nI a) (nI b) (nI c) g post := by
  have b1 := ge_tb hS.1 hd ha hb
  have b2 := ge_tb hS.1 hd ha hc
  have z1 : (iI (ge_t X Y d a b) ≤ 0) ↔ ¬ 0 < ge_t X Y d a b := by rw [← iI_0, iI_le b1.1 b1.2 (by omega) (by omega)]; omega
  have z2 : (iI (ge_t X Y d a c) ≤ 0) ↔ ¬ 0 < ge_t X Y d a c := by rw [← iI_0, iI_le b2.1 b2.2 (by omega) (by omega)]; omega
  unfold wp_mo_parts
  refine mo_turn hS hd ha hb ⟨fun k => ?_, fun k => ?_⟩ <;> (unfold jn_mo_parts_J15; refine mo_turn hS hd ha hc ⟨fun k2 => ⟨fun q => ?_, fun q => ?_⟩, fun k2 => ⟨fun q => ?_, fun q => ?_⟩⟩)
  · exact h0 ⟨fun u => absurd u (z1.mp k), fun u => absurd u (z2.mp k2)⟩
  · exact absurd rfl q
  · exact absurd q (by decide)
  · exact h1 (fun u => z1.mp k (u.mpr (Classical.not_not.mp (fun q => k2 (z2.mpr q)))))
  · exact absurd q (by decide)
  · exact h1 (fun u => z2.mp k2 (u.mp (Classical.not_not.mp (fun q => k (z1.mpr q)))))
  · exact h0 ⟨fun _ => Classical.not_not.mp (fun q => k2 (z2.mpr q)), fun _ => Classical.not_not.mp (fun q => k (z1.mpr q))⟩
  · exact absurd rfl q
/-- d is in the circle through a < b < c: the class -/
theorem sp_in {a b c d : Nat} {post : Int32 → St → Prop} (hS : sC g n X Y Z) (ha : a < n) (hb : b < n) (hc : c < n) (hd : d < n) (h0 : ¬ ge_In X Y a b c d → post 0 g) (h1 : ge_In X Y a b c d → post 1 g) : wp_sp_isInCircle (nI a) (nI b) (nI c) (nI d) g post := by
  have b1 := ge_depb hS.1 ha hb hc hd
  have n16 := hS.1.1
  unfold wp_sp_isInCircle
  refine sp_depth hS ha hb hc hd ?_
  rw [jI_cmp0 b1.1 b1.2]
  unfold ge_In at h0 h1
  by_cases p : 0 < ge_dep X Y a b c d
  · rw [if_pos p]
    exact ⟨fun q => absurd q (by decide), fun _ => ⟨fun q => absurd q (by decide), fun _ => h1 (Or.inl p)⟩⟩
  · rw [if_neg p]
    by_cases z : ge_dep X Y a b c d = 0
    · rw [if_pos z]
      refine ⟨fun _ => ⟨fun q => ?_, fun q => ?_⟩, fun q => absurd rfl q⟩
      · have : d ≤ a := (nI_leI (by omega) (by omega)).mp q
        exact h0 (fun u => by rcases u with u | u; exact p u; omega)
      · have da : ¬ d ≤ a := fun u => q ((nI_leI (by omega) (by omega)).mpr u)
        refine sp_opposite hS ha hd hb hc (fun u => ?_) (fun u => ?_)
        · exact ⟨fun q => absurd rfl q, fun _ => h1 (Or.inr ⟨z, by omega, u⟩)⟩
        · exact ⟨fun _ => h0 (fun w => by rcases w with w | w; exact p w; exact u w.2.2), fun q => absurd q (by decide)⟩
    · rw [if_neg z]
      exact ⟨fun q => absurd q (by decide), fun _ => ⟨fun _ => h0 (fun u => by rcases u with u | u; exact p u; exact z u.1), fun q => absurd (by decide) q⟩⟩
/-- .. and the reference -/
theorem mo_in {a b c d : Nat} {post : Int32 → St → Prop} (hS : sM g n X Y Z) (hab : a < b) (hbc : b < c) (hc : c < n) (hd : d < n) (nda : d ≠ a) (ndb : d ≠ b) (ndc : d ≠ c) (ht : ge_t X Y a b c ≠ 0) (h0 : ¬ ge_In X Y a b c d → post 0 g) (h1 : ge_In X Y a b c d → post 1 g) : wp_mo_isIn (nI a) (nI b) (nI c) (nI d) g post := by
  have ha : a < n := by omega
  have hb : b < n := by omega
  have b1 := ge_depb hS.1 ha hb hc hd
  have n16 := hS.1.1
  have le : ∀ {u v : Nat}, u < n → v < n → (nI u ≤ nI v ↔ u ≤ v) := fun hu hv => nI_leI (by omega) (by omega)
  have eq : ∀ {u v : Nat}, u < n → v < n → (nI u = nI v ↔ u = v) := fun hu hv => nI_eq (by omega) (by omega)
  unfold wp_mo_isIn
  refine mo_inside hS ha hb hc hd ?_
  rw [jI_cmp0 b1.1 b1.2]
  by_cases p : 0 < ge_dep X Y a b c d
  · rw [if_pos p]
    exact ⟨fun q => absurd q (by decide), fun _ => ⟨fun q => absurd q (by decide), fun _ => h1 (Or.inl p)⟩⟩
  · rw [if_neg p]
    by_cases z : ge_dep X Y a b c d = 0
    · rw [if_pos z]
      have zi : ge_i X Y a b c d = 0 := by
        unfold ge_dep at z
        split at z
        · exact z
        · omega
      obtain ⟨c1, c2, c3, -⟩ := ge_circ hS.1 ha hb hc hd (by omega) (by omega) (by omega) (by omega) (by omega) (by omega) ht zi
      have f1 : ge_t X Y d a b = ge_t X Y a b d := (ge_t_rot X Y d a b).symm
      have f2 : ge_t X Y d a c = ge_t X Y a c d := (ge_t_rot X Y d a c).symm
      have f3 : ge_t X Y a d b = -ge_t X Y a b d := ge_t_sw X Y a b d
      have f4 : ge_t X Y a d c = -ge_t X Y a c d := ge_t_sw X Y a c d
      have same : ((0 < ge_t X Y d a b) ↔ (0 < ge_t X Y d a c)) ↔ ((0 < ge_t X Y a d b) ↔ (0 < ge_t X Y a d c)) := by
        rw [f1, f2, f3, f4]
        by_cases x : 0 < ge_t X Y a b d <;> by_cases y : 0 < ge_t X Y a c d
        · exact ⟨fun _ => ⟨fun u => by omega, fun u => by omega⟩, fun _ => ⟨fun _ => y, fun _ => x⟩⟩
        · exact ⟨fun u => absurd (u.mp x) y, fun u => by have : 0 < -ge_t X Y a b d := u.mpr (by omega); omega⟩
        · exact ⟨fun u => absurd (u.mpr y) x, fun u => by have : 0 < -ge_t X Y a c d := u.mp (by omega); omega⟩
        · exact ⟨fun _ => ⟨fun _ => by omega, fun _ => by omega⟩, fun _ => ⟨fun u => absurd u x, fun u => absurd u y⟩⟩
      -- behind the opposite one o
      have tail : ∀ o : Nat, o < n → (a < d → (o = a ↔ ¬ ((0 < ge_t X Y a d b) ↔ (0 < ge_t X Y a d c)))) → jn_mo_isIn_J64 (nI a) (nI b) (nI c) (nI d) (nI o) g post := by
        intro o ho io
        unfold jn_mo_isIn_J64
        refine ⟨fun q => absurd ((le hb ha).mp q) (by omega), fun _ => ?_⟩
        unfold jn_mo_isIn_J76
        refine ⟨fun _ => ?_, fun q => absurd ((le ha hc).mpr (by omega)) q⟩
        unfold jn_mo_isIn_J90
        refine ⟨fun q => ?_, fun q => ?_⟩
        · have ad : a < d := by have := (le ha hd).mp q; omega
          unfold jn_mo_isIn_J106
          refine ⟨fun k => absurd ((eq ha hd).mp k) (by omega), fun _ => ⟨fun k => ?_, fun k => ?_⟩⟩
          · have e := (eq ha ho).mp k
            exact h0 (fun u => by rcases u with u | u; exact p u; exact (io ad).mp e.symm u.2.2)
          · have e : ¬ o = a := fun e => k (by rw [e])
            exact h1 (Or.inr ⟨z, ad, Classical.not_not.mp (fun u => e ((io ad).mpr u))⟩)
        · have da : ¬ a ≤ d := fun u => q ((le ha hd).mpr u)
          unfold jn_mo_isIn_J106
          refine ⟨fun _ => h0 (fun u => by rcases u with u | u; exact p u; omega), fun k => absurd rfl k⟩
      refine ⟨fun _ => ?_, fun q => absurd rfl q⟩
      refine mo_parts hS hd ha hb hc (fun u => ?_) (fun u => ?_)
      · refine ⟨fun _ => ?_, fun q => absurd rfl q⟩
        refine mo_parts hS hd hb ha hc (fun v => ?_) (fun v => ?_)
        · exact ⟨fun _ => tail c hc (fun _ => ⟨fun e => by omega, fun e => absurd (same.mp u) e⟩), fun q => absurd rfl q⟩
        · exact ⟨fun q => absurd q (by decide), fun _ => tail b hb (fun _ => ⟨fun e => by omega, fun e => absurd (same.mp u) e⟩)⟩
      · exact ⟨fun q => absurd q (by decide), fun _ => tail a ha (fun _ => ⟨fun _ e => u (same.mpr e), fun _ => rfl⟩)⟩
    · rw [if_neg z]
      exact ⟨fun q => absurd q (by decide), fun _ => ⟨fun _ => h0 (fun u => by rcases u with u | u; exact p u; exact z u.1), fun q => absurd (by decide) q⟩⟩
end
end
section
/-! The triangles, found one by one: class and reference hold the same list. -/
section
variable {g : St} {n : Nat} {X Y Z : Nat → Int}
theorem me_isTri {a b c : Nat} {post : Int32 → St → Prop} (hS : sC g n X Y Z) (hab : a < b) (hbc : b < c) (hc : c < n) (h0 : ¬ ge_tri X Y n a b c → post 0 g) (h1 : ge_tri X Y n a b c → post 1 g) : wp_me_isTriangle (nI a) (nI b) (nI c) g post := by
  have ha : a < n := by omega
  have hb : b < n := by omega
  have n16 := hS.1.1
  have le : ∀ {u v : Nat}, u ≤ 16 → v ≤ 16 → (nI u ≤ nI v ↔ u ≤ v) := fun hu hv => nI_leI (by omega) (by omega)
  have eq : ∀ {u v : Nat}, u ≤ 16 → v ≤ 16 → (nI u = nI v ↔ u = v) := fun hu hv => nI_eq (by omega) (by omega)
  have bt := ge_tb hS.1 ha hb hc
  have z : iI (ge_t X Y a b c) = 0 ↔ ge_t X Y a b c = 0 := by rw [← iI_0]; exact iI_eq bt.1 bt.2 (by omega) (by omega)
  unfold wp_me_isTriangle
  refine sp_turn hS ha hb hc ⟨fun q => ?_, fun q => ?_⟩
  · have ht : ge_t X Y a b c ≠ 0 := fun e => q (z.mpr e)
    have loop : ∀ m i, i + m = n → (∀ d, d < i → d ≠ a → d ≠ b → d ≠ c → ¬ ge_In X Y a b c d) → lp_me_isTriangle_L15 (m + 1) (nI a) (nI b) (nI c) (nI i) g (fun g7 => (post 1 g7)) post := by
      intro m
      induction m with
      | zero =>
        intro i hi hd
        unfold lp_me_isTriangle_L15 wp_sp_size
        rw [hS.2.2.1]
        refine ⟨fun _ => h1 ⟨hab, hbc, hc, ht, fun d hd' => hd d (by omega)⟩, fun q => absurd ((le (by omega) (by omega)).mpr (by omega)) q⟩
      | succ m ih =>
        intro i hi hd
        have skip : (i = a ∨ i = b ∨ i = c ∨ ¬ ge_In X Y a b c i) → lp_me_isTriangle_L15 (m + 1) (nI a) (nI b) (nI c) (nI i + 1) g (fun g7 => (post 1 g7)) post := fun u => by
          rw [nI_1]
          refine ih (i + 1) (by omega) (fun d hd' d1 d2 d3 => ?_)
          rcases Nat.lt_or_ge d i with l | l
          · exact hd d l d1 d2 d3
          · have : d = i := by omega
            subst this
            rcases u with u | u | u | u
            · exact absurd u d1
            · exact absurd u d2
            · exact absurd u d3
            · exact u
        unfold lp_me_isTriangle_L15 wp_sp_size
        rw [hS.2.2.1]
        refine ⟨fun q => absurd ((le (by omega) (by omega)).mp q) (by omega), fun _ => ⟨fun e => skip (Or.inl ((eq (by omega) (by omega)).mp e)), fun e1 => ⟨fun e => skip (Or.inr (Or.inl ((eq (by omega) (by omega)).mp e))), fun e2 => ⟨fun e => skip (Or.inr (Or.inr (Or.inl ((eq (by omega) (by omega)).mp e)))), fun e3 => ?_⟩⟩⟩⟩
        have d1 : i ≠ a := fun e => e1 (by rw [e])
        have d2 : i ≠ b := fun e => e2 (by rw [e])
        have d3 : i ≠ c := fun e => e3 (by rw [e])
        refine sp_in hS ha hb hc (by omega) (fun u => ⟨fun _ => skip (Or.inr (Or.inr (Or.inr u))), fun k => absurd rfl k⟩) (fun u => ⟨fun k => absurd k (by decide), fun _ => h0 (fun t => t.2.2.2.2 i (by omega) d1 d2 d3 u)⟩)
    exact ⟨n + 1, loop n 0 (by omega) (fun d hd => absurd hd (by omega))⟩
  · exact h0 (fun t => t.2.2.2.1 (z.mp q))
theorem mo_isTri {a b c : Nat} {post : Int32 → St → Prop} (hS : sM g n X Y Z) (hab : a < b) (hbc : b < c) (hc : c < n) (h0 : ¬ ge_tri X Y n a b c → post 0 g) (h1 : ge_tri X Y n a b c → post 1 g) : wp_mo_isTriangle (nI a) (nI b) (nI c) g post := by
  have ha : a < n := by omega
  have hb : b < n := by omega
  have n16 := hS.1.1
  have le : ∀ {u v : Nat}, u ≤ 16 → v ≤ 16 → (nI u ≤ nI v ↔ u ≤ v) := fun hu hv => nI_leI (by omega) (by omega)
  have eq : ∀ {u v : Nat}, u ≤ 16 → v ≤ 16 → (nI u = nI v ↔ u = v) := fun hu hv => nI_eq (by omega) (by omega)
  have bt := ge_tb hS.1 ha hb hc
  have z : iI (ge_t X Y a b c) = 0 ↔ ge_t X Y a b c = 0 := by rw [← iI_0]; exact iI_eq bt.1 bt.2 (by omega) (by omega)
  unfold wp_mo_isTriangle
  refine mo_turn hS ha hb hc ⟨fun q => ?_, fun q => ?_⟩
  · have ht : ge_t X Y a b c ≠ 0 := fun e => q (z.mpr e)
    have bad : ∀ m i, (∃ d, d < n ∧ d ≠ a ∧ d ≠ b ∧ d ≠ c ∧ ge_In X Y a b c d) → i ≤ n → lp_mo_isTriangle_L18 (m + 1) (nI a) (nI b) (nI c) 0 (nI i) g (fun w6 g5 => (narrow .boolean (.int w6) = .int w6 ∧ post w6 g5)) post := by
      intro m i ⟨d, u1, u2, u3, u4, u5⟩ hi
      have hp : post 0 g := h0 (fun t => t.2.2.2.2 d u1 u2 u3 u4 u5)
      unfold lp_mo_isTriangle_L18
      exact ⟨fun _ => ⟨nb_0, hp⟩, fun _ => ⟨fun _ => ⟨nb_0, hp⟩, fun k => absurd rfl k⟩⟩
    have loop : ∀ m i, i + m = n → (∀ d, d < i → d ≠ a → d ≠ b → d ≠ c → ¬ ge_In X Y a b c d) → lp_mo_isTriangle_L18 (m + 1) (nI a) (nI b) (nI c) 1 (nI i) g (fun w6 g5 => (narrow .boolean (.int w6) = .int w6 ∧ post w6 g5)) post := by
      intro m
      induction m with
      | zero =>
        intro i hi hd
        unfold lp_mo_isTriangle_L18
        rw [hS.2.2.1]
        refine ⟨fun _ => ⟨nb_1, h1 ⟨hab, hbc, hc, ht, fun d hd' => hd d (by omega)⟩⟩, fun q => absurd ((le (by omega) (by omega)).mpr (by omega)) q⟩
      | succ m ih =>
        intro i hi hd
        have skip : (i = a ∨ i = b ∨ i = c ∨ ¬ ge_In X Y a b c i) → lp_mo_isTriangle_L18 (m + 1) (nI a) (nI b) (nI c) 1 (nI i + 1) g (fun w6 g5 => (narrow .boolean (.int w6) = .int w6 ∧ post w6 g5)) post := fun u => by
          rw [nI_1]
          refine ih (i + 1) (by omega) (fun d hd' d1 d2 d3 => ?_)
          rcases Nat.lt_or_ge d i with l | l
          · exact hd d l d1 d2 d3
          · have : d = i := by omega
            subst this
            rcases u with u | u | u | u
            · exact absurd u d1
            · exact absurd u d2
            · exact absurd u d3
            · exact u
        unfold lp_mo_isTriangle_L18
        rw [hS.2.2.1]
        refine ⟨fun q => absurd ((le (by omega) (by omega)).mp q) (by omega), fun _ => ⟨fun k => absurd k (by decide), fun _ => ⟨fun e => skip (Or.inl ((eq (by omega) (by omega)).mp e)), fun e1 => ⟨fun e => skip (Or.inr (Or.inl ((eq (by omega) (by omega)).mp e))), fun e2 => ⟨fun e => skip (Or.inr (Or.inr (Or.inl ((eq (by omega) (by omega)).mp e)))), fun e3 => ?_⟩⟩⟩⟩⟩
        have d1 : i ≠ a := fun e => e1 (by rw [e])
        have d2 : i ≠ b := fun e => e2 (by rw [e])
        have d3 : i ≠ c := fun e => e3 (by rw [e])
        refine mo_in hS hab hbc hc (by omega) d1 d2 d3 ht (fun u => ⟨fun k => absurd rfl k, fun _ => skip (Or.inr (Or.inr (Or.inr u)))⟩) (fun u => ⟨fun _ => ?_, fun k => absurd k (by decide)⟩)
        rw [nI_1]
        exact bad m (i + 1) ⟨i, by omega, d1, d2, d3, u⟩ (by omega)
    exact ⟨n + 1, loop n 0 (by omega) (fun d hd => absurd hd (by omega))⟩
  · exact h0 (fun t => t.2.2.2.1 (z.mp q))
end
/-! the list -/
noncomputable def tl (X Y : Nat → Int) (n k : Nat) : List Nat := (List.range k).filter (fun x => @decide (ge_tri X Y n (x / 256) (x / 16 % 16) (x % 16)) (Classical.propDecidable _))
theorem tl_mem {X Y : Nat → Int} {n k x : Nat} : x ∈ tl X Y n k ↔ x < k ∧ ge_tri X Y n (x / 256) (x / 16 % 16) (x % 16) := by
  unfold tl
  rw [List.mem_filter, List.mem_range, @decide_eq_true_iff _ (Classical.propDecidable _)]
theorem tl_s1 {X Y : Nat → Int} {n k : Nat} (h : ge_tri X Y n (k / 256) (k / 16 % 16) (k % 16)) : tl X Y n (k + 1) = tl X Y n k ++ [k] := by
  unfold tl
  rw [List.range_succ, List.filter_append]
  congr 1
  exact List.filter_cons_of_pos (by rw [@decide_eq_true_iff _ (Classical.propDecidable _)]; exact h)
theorem tl_s0 {X Y : Nat → Int} {n k : Nat} (h : ¬ ge_tri X Y n (k / 256) (k / 16 % 16) (k % 16)) : tl X Y n (k + 1) = tl X Y n k := by
  unfold tl
  rw [List.range_succ, List.filter_append]
  have : List.filter (fun x => @decide (ge_tri X Y n (x / 256) (x / 16 % 16) (x % 16)) (Classical.propDecidable _)) [k] = [] :=
    List.filter_cons_of_neg (by rw [@decide_eq_true_iff _ (Classical.propDecidable _)]; exact h)
  rw [this, List.append_nil]
theorem tl_sk {X Y : Nat → Int} {n k : Nat} : ∀ d, (∀ x, k ≤ x → x < k + d → ¬ ge_tri X Y n (x / 256) (x / 16 % 16) (x % 16)) → tl X Y n (k + d) = tl X Y n k := by
  intro d
  induction d with
  | zero => intro _; rfl
  | succ d ih =>
    intro h
    show tl X Y n ((k + d) + 1) = _
    rw [tl_s0 (h (k + d) (by omega) (by omega))]
    exact ih (fun x h1 h2 => h x h1 (by omega))
theorem tl_skip {X Y : Nat → Int} {n k k' : Nat} (hk : k ≤ k') (h : ∀ x, k ≤ x → x < k' → ¬ ge_tri X Y n (x / 256) (x / 16 % 16) (x % 16)) : tl X Y n k' = tl X Y n k := by
  obtain ⟨d, rfl⟩ : ∃ d, k' = k + d := ⟨k' - k, by omega⟩
  exact tl_sk d h
theorem tl_lt {X Y : Nat → Int} {n k : Nat} : (tl X Y n k).Pairwise (· < ·) := List.Pairwise.filter _ List.pairwise_lt_range
theorem tl_get {X Y : Nat → Int} {n k t : Nat} (h : t < (tl X Y n k).length) : (tl X Y n k).getD t 0 < k ∧ ge_tri X Y n ((tl X Y n k).getD t 0 / 256) ((tl X Y n k).getD t 0 / 16 % 16) ((tl X Y n k).getD t 0 % 16) := by
  rw [← tl_mem, ← List.getElem_eq_getD (h := h)]
  exact List.getElem_mem h
theorem tl_inc {X Y : Nat → Int} {n k s t : Nat} (hst : s < t) (h : t < (tl X Y n k).length) : (tl X Y n k).getD s 0 < (tl X Y n k).getD t 0 := by
  have := List.pairwise_iff_getElem.mp (tl_lt (X := X) (Y := Y) (n := n) (k := k)) s t (by omega) h hst
  rw [List.getElem_eq_getD (h := h) (fallback := 0), List.getElem_eq_getD (fallback := 0)] at this
  exact this
theorem tl_27 {X Y : Nat → Int} {n k : Nat} (h : ge_ok X Y n) : (tl X Y n k).length ≤ 27 := by
  refine ge_27 h _ (fun t => (tl X Y n k).getD t 0 / 256) (fun t => (tl X Y n k).getD t 0 / 16 % 16) (fun t => (tl X Y n k).getD t 0 % 16) (fun t ht => (tl_get ht).2) (fun i j hij hj e => ?_)
  have := tl_inc hij hj
  try dsimp only at e
  omega
theorem tl_app {L : List Nat} {k t : Nat} (h : t < L.length) : (L ++ [k]).getD t 0 = L.getD t 0 := by
  simp only [List.getD_eq_getElem?_getD]
  rw [List.getElem?_append_left h]
theorem tl_end {L : List Nat} {k : Nat} : (L ++ [k]).getD L.length 0 = k := by
  simp only [List.getD_eq_getElem?_getD]
  rw [List.getElem?_append_right (Nat.le_refl _), Nat.sub_self]; rfl
end
section
/-! The mesh of the class and the corners of the reference, rebuilt. -/
theorem gp_n {g : St} {k j : Nat} {v : Int32} {k' : Nat} (h : k' ≠ k) : gp g k j v k' = g k' := by
  unfold gp va_up; rw [if_neg h]
theorem gp_s {g : St} {k j : Nat} {v : Int32} : gp g k j v k j = v := by
  unfold gp va_up; rw [if_pos rfl]; exact pk_us
theorem gp_o {g : St} {k j j' : Nat} {v : Int32} (h : j' ≠ j) : gp g k j v k j' = g k j' := by
  unfold gp va_up; rw [if_pos rfl]; exact pk_un h
/-- nothing but the cells of S has changed -/
def fr (S : List Nat) (g g' : St) : Prop := ∀ k, k ∉ S → g' k = g k
theorem fr.rf {S : List Nat} {g : St} : fr S g g := fun _ _ => rfl
theorem fr.gp {S : List Nat} {g g' : St} {k j : Nat} {v : Int32} (h : fr S g g') (hk : k ∈ S) : fr S g (gp g' k j v) := fun k' h' => by
  rw [gp_n (fun e => h' (by rw [e]; exact hk))]; exact h k' h'
theorem fr.tr {S : List Nat} {g g' g'' : St} (h : fr S g g') (h2 : fr S g' g'') : fr S g g'' := fun k hk => (h2 k hk).trans (h k hk)
theorem fr.mono {S S' : List Nat} {g g' : St} (h : fr S g g') (hs : ∀ k, k ∈ S → k ∈ S') : fr S' g g' := fun k hk => h k (fun q => hk (hs k q))
theorem sC.fr {S : List Nat} {g g' : St} {n : Nat} {X Y Z : Nat → Int} (h : sC g n X Y Z) (f : fr S g g') (h1 : 1 ∉ S) (h5 : 5 ∉ S) (h6 : 6 ∉ S) (h7 : 7 ∉ S) : sC g' n X Y Z := by
  refine ⟨h.1, h.2.1, ?_, fun v hv => ?_⟩
  · rw [f 1 h1]; exact h.2.2.1
  · rw [f 5 h5, f 6 h6, f 7 h7]; exact h.2.2.2 v hv
theorem sM.fr {g g' : St} {n : Nat} {X Y Z : Nat → Int} (h : sM g n X Y Z) (h0 : g' 0 1 = g 0 1) (h1 : g' 1 = g 1) (h2 : g' 2 = g 2) (h3 : g' 3 = g 3) : sM g' n X Y Z := by
  refine ⟨h.1, h.2.1, ?_, fun v hv => ?_⟩
  · rw [h0]; exact h.2.2.1
  · rw [h1, h2, h3]; exact h.2.2.2 v hv
/-- a triangle of the list, going right from p to q -/
def rt (X Y : Nat → Int) (L : List Nat) (p q r : Nat) : Prop := ge_t X Y p q r < 0 ∧ ∃ x, x ∈ L ∧ ge_pm (x / 256) (x / 16 % 16) (x % 16) p q r
def mC (X Y : Nat → Int) (L : List Nat) (g : St) : Prop := g 2 2 = nI L.length ∧ (∀ t, t < L.length → g 8 (3 * t) = nI (L.getD t 0 / 256) ∧ g 8 (3 * t + 1) = nI (L.getD t 0 / 16 % 16) ∧ g 8 (3 * t + 2) = nI (L.getD t 0 % 16)) ∧
  (∀ p q r, rt X Y L p q r → g 9 (16 * p + q) = nI r) ∧ ∀ p q, p < 16 → q < 16 → (∀ r, ¬ rt X Y L p q r) → g 9 (16 * p + q) = -1
def mM (L : List Nat) (g : St) : Prop := g 0 5 = nI L.length ∧ ∀ t, t < L.length → g 4 (3 * t) = nI (L.getD t 0 / 256) ∧ g 4 (3 * t + 1) = nI (L.getD t 0 / 16 % 16) ∧ g 4 (3 * t + 2) = nI (L.getD t 0 % 16)
theorem pk3 {L : Nat} (h : L < 1000) (j : Nat) : 3 * nI L + nI j = nI (3 * L + j) := by
  rw [show (3 : Int32) = nI 3 from rfl, pk_mul, nI_add]
theorem pk3' (L : Nat) : 3 * nI L = nI (3 * L) := by
  rw [show (3 : Int32) = nI 3 from rfl, pk_mul]
theorem pk16 (a b : Nat) : 16 * nI a + nI b = nI (16 * a + b) := by
  rw [show (16 : Int32) = nI 16 from rfl, pk_mul, nI_add]
section
variable {g : St} {n : Nat} {X Y Z : Nat → Int}
theorem me_clear {post : St → Prop} (h : ∀ g', g' 2 2 = 0 → (∀ i, i < 256 → g' 9 i = -1) → fr [2, 9] g g' → post g') : wp_me_clear g post := by
  unfold wp_me_clear
  intro g1 e1
  have loop : ∀ m i (g2 : St), i + m = 256 → g2 2 2 = 0 → (∀ j, j < i → g2 9 j = -1) → fr [2, 9] g g2 → lp_me_clear_L7 (m + 1) (nI i) g2 (fun g3 => (post g3)) post := by
    intro m
    induction m with
    | zero =>
      intro i g2 hi h1 h2 h3
      unfold lp_me_clear_L7
      refine ⟨fun _ => h g2 h1 (fun j hj => h2 j (by omega)) h3, fun q => absurd ?_ q⟩
      rw [show (256 : Int32) = nI 256 from rfl, nI_leI (by omega) (by omega)]; omega
    | succ m ih =>
      intro i g2 hi h1 h2 h3
      unfold lp_me_clear_L7
      refine ⟨fun q => ?_, fun _ => ⟨vp_in_nI (by omega) (by omega), fun g4 e4 => ?_⟩⟩
      · rw [show (256 : Int32) = nI 256 from rfl, nI_leI (by omega) (by omega)] at q; omega
      · rw [ix_nI (by omega)] at e4
        rw [nI_1, e4]
        refine ih (i + 1) _ (by omega) (by rw [gp_n (by decide)]; exact h1) (fun j hj => ?_) (h3.gp (by decide))
        by_cases e : j = i
        · rw [e]; exact gp_s
        · rw [gp_o e]; exact h2 j (by omega)
  refine ⟨257, loop 256 0 g1 (by omega) (by rw [e1]; exact gp_s) (fun j hj => absurd hj (by omega)) (by rw [e1]; exact fr.rf.gp (by decide))⟩
/-- three sides get their third spots -/
theorem me_sides {a b c : Nat} {post : St → Prop} (ha : a < 16) (hb : b < 16) (hc : c < 16)
    (h : ∀ g', g' 9 (16 * c + a) = nI b → (16 * c + a ≠ 16 * b + c → g' 9 (16 * b + c) = nI a) → (16 * c + a ≠ 16 * a + b → 16 * b + c ≠ 16 * a + b → g' 9 (16 * a + b) = nI c) → (∀ j, j ≠ 16 * a + b → j ≠ 16 * b + c → j ≠ 16 * c + a → g' 9 j = g 9 j) → fr [9] g g' → post g') : wp_me_addSides (nI a) (nI b) (nI c) g post := by
  unfold wp_me_addSides
  rw [pk16, pk16, pk16, ix_nI (by omega), ix_nI (by omega), ix_nI (by omega)]
  refine ⟨vp_in_nI (by omega) (by omega), fun g1 e1 => ⟨vp_in_nI (by omega) (by omega), fun g2 e2 => ⟨vp_in_nI (by omega) (by omega), fun g3 e3 => ?_⟩⟩⟩
  refine h g3 ?_ (fun q => ?_) (fun q q2 => ?_) (fun j j1 j2 j3 => ?_) ?_
  · rw [e3]; exact gp_s
  · rw [e3, gp_o (Ne.symm q), e2]; exact gp_s
  · rw [e3, gp_o (Ne.symm q), e2, gp_o (Ne.symm q2), e1]; exact gp_s
  · rw [e3, gp_o j3, e2, gp_o j2, e1, gp_o j1]
  · rw [e3, e2, e1]; exact ((fr.rf.gp (by decide)).gp (by decide)).gp (by decide)
theorem rt_app {L : List Nat} {k p q r : Nat} : rt X Y (L ++ [k]) p q r ↔ rt X Y L p q r ∨ (ge_t X Y p q r < 0 ∧ ge_pm (k / 256) (k / 16 % 16) (k % 16) p q r) := by
  unfold rt
  constructor
  · rintro ⟨h1, x, h2, h3⟩
    rcases List.mem_append.mp h2 with h | h
    · exact Or.inl ⟨h1, x, h, h3⟩
    · rw [List.mem_singleton.mp h] at h3; exact Or.inr ⟨h1, h3⟩
  · rintro (⟨h1, x, h2, h3⟩ | ⟨h1, h3⟩)
    · exact ⟨h1, x, List.mem_append_left _ h2, h3⟩
    · exact ⟨h1, k, List.mem_append_right _ (List.mem_singleton.mpr rfl), h3⟩
/-- in the order in which the sides are set -/
theorem rt_new {a b c p q r : Nat} (h : ge_t X Y a b c < 0) (k : ge_t X Y p q r < 0) (e : ge_pm a b c p q r) : (p = a ∧ q = b ∧ r = c) ∨ (p = b ∧ q = c ∧ r = a) ∨ (p = c ∧ q = a ∧ r = b) := by
  have r1 := ge_t_rot X Y a b c
  have r2 := ge_t_rot X Y b c a
  have s1 := ge_t_sw X Y a b c
  have s2 := ge_t_sw X Y b c a
  have s3 := ge_t_sw X Y c a b
  rcases e with ⟨rfl, rfl, rfl⟩ | ⟨rfl, rfl, rfl⟩ | ⟨rfl, rfl, rfl⟩ | ⟨rfl, rfl, rfl⟩ | ⟨rfl, rfl, rfl⟩ | ⟨rfl, rfl, rfl⟩
  · exact Or.inl ⟨rfl, rfl, rfl⟩
  · omega
  · omega
  · exact Or.inr (Or.inl ⟨rfl, rfl, rfl⟩)
  · exact Or.inr (Or.inr ⟨rfl, rfl, rfl⟩)
  · omega
theorem ge_pm_sw {a b c p q r : Nat} : ge_pm a c b p q r ↔ ge_pm a b c p q r := by
  unfold ge_pm
  constructor <;> (rintro (h | h | h | h | h | h) <;> simp only [h, and_self, true_or, or_true])
/-- the sides of a new triangle that goes right from a by b to c -/
theorem mC_sides {L : List Nat} {k a b c : Nat} {g1 g' : St} (hk : ∀ p q r, ge_pm (k / 256) (k / 16 % 16) (k % 16) p q r ↔ ge_pm a b c p q r) (ht : ge_t X Y a b c < 0) (h16 : a < 16 ∧ b < 16 ∧ c < 16) (hne : a ≠ b ∧ a ≠ c ∧ b ≠ c)
    (huniq : ∀ p q r, rt X Y (L ++ [k]) p q r → ∀ r', rt X Y (L ++ [k]) p q r' → r = r')
    (h3 : ∀ p q r, rt X Y L p q r → g1 9 (16 * p + q) = nI r) (h4 : ∀ p q, p < 16 → q < 16 → (∀ r, ¬ rt X Y L p q r) → g1 9 (16 * p + q) = -1)
    (hl16 : ∀ p q r, rt X Y (L ++ [k]) p q r → p < 16 ∧ q < 16)
    (s1 : g' 9 (16 * c + a) = nI b) (s2 : g' 9 (16 * b + c) = nI a) (s3 : g' 9 (16 * a + b) = nI c) (s4 : ∀ j, j ≠ 16 * a + b → j ≠ 16 * b + c → j ≠ 16 * c + a → g' 9 j = g1 9 j) :
    (∀ p q r, rt X Y (L ++ [k]) p q r → g' 9 (16 * p + q) = nI r) ∧ ∀ p q, p < 16 → q < 16 → (∀ r, ¬ rt X Y (L ++ [k]) p q r) → g' 9 (16 * p + q) = -1 := by
  have n1 : rt X Y (L ++ [k]) a b c := rt_app.mpr (Or.inr ⟨ht, (hk _ _ _).mpr (Or.inl ⟨rfl, rfl, rfl⟩)⟩)
  have n2 : rt X Y (L ++ [k]) b c a := rt_app.mpr (Or.inr ⟨by rw [ge_t_rot]; exact ht, (hk _ _ _).mpr (Or.inr (Or.inr (Or.inr (Or.inl ⟨rfl, rfl, rfl⟩))))⟩)
  have n3 : rt X Y (L ++ [k]) c a b := rt_app.mpr (Or.inr ⟨by rw [ge_t_rot, ge_t_rot]; exact ht, (hk _ _ _).mpr (Or.inr (Or.inr (Or.inr (Or.inr (Or.inl ⟨rfl, rfl, rfl⟩)))))⟩)
  obtain ⟨a16, b16, c16⟩ := h16
  constructor
  · intro p q r hr
    obtain ⟨p16, q16⟩ := hl16 p q r hr
    by_cases e1 : p = a ∧ q = b
    · obtain ⟨rfl, rfl⟩ := e1
      rw [s3, huniq _ _ _ hr _ n1]
    by_cases e2 : p = b ∧ q = c
    · obtain ⟨rfl, rfl⟩ := e2
      rw [s2, huniq _ _ _ hr _ n2]
    by_cases e3 : p = c ∧ q = a
    · obtain ⟨rfl, rfl⟩ := e3
      rw [s1, huniq _ _ _ hr _ n3]
    rw [s4 _ (by omega) (by omega) (by omega)]
    rcases rt_app.mp hr with h | ⟨h, h'⟩
    · exact h3 p q r h
    · rcases rt_new ht h ((hk _ _ _).mp h') with e | e | e
      · exact absurd ⟨e.1, e.2.1⟩ e1
      · exact absurd ⟨e.1, e.2.1⟩ e2
      · exact absurd ⟨e.1, e.2.1⟩ e3
  · intro p q p16 q16 hr
    rw [s4 _ (fun e => hr c (by rw [show p = a by omega, show q = b by omega]; exact n1)) (fun e => hr a (by rw [show p = b by omega, show q = c by omega]; exact n2)) (fun e => hr b (by rw [show p = c by omega, show q = a by omega]; exact n3))]
    exact h4 p q p16 q16 (fun r h => hr r (rt_app.mpr (Or.inl h)))
theorem me_add {L : List Nat} {a b c k : Nat} {x4 : Int32} {post : St → Prop} (hk : k / 256 = a ∧ k / 16 % 16 = b ∧ k % 16 = c) (ha : a < 16) (hL : L.length < 27) (hm : mC X Y L g) (hne : a ≠ b ∧ a ≠ c ∧ b ≠ c) (hx : (x4 = 0 ∧ 0 < ge_t X Y a b c) ∨ (x4 = 1 ∧ ge_t X Y a b c < 0))
    (huniq : ∀ p q r, rt X Y (L ++ [k]) p q r → ∀ r', rt X Y (L ++ [k]) p q r' → r = r') (hl16 : ∀ p q r, rt X Y (L ++ [k]) p q r → p < 16 ∧ q < 16)
    (h : ∀ g', mC X Y (L ++ [k]) g' → fr [2, 8, 9] g g' → post g') : wp_me_add (nI a) (nI b) (nI c) x4 g post := by
  obtain ⟨m1, m2, m3, m4⟩ := hm
  obtain ⟨k1, k2, k3⟩ := hk
  have b16 : b < 16 := by omega
  have c16 : c < 16 := by omega
  unfold wp_me_add
  rw [m1, pk3', show (1 : Int32) = nI 1 from rfl, show (2 : Int32) = nI 2 from rfl, nI_add, nI_add, ix_nI (by omega), ix_nI (by omega), ix_nI (by omega)]
  refine ⟨vp_in_nI (by omega) (by omega), fun g1 e1 => ⟨vp_in_nI (by omega) (by omega), fun g2 e2 => ⟨vp_in_nI (by omega) (by omega), fun g3 e3 => fun g4 e4 => ?_⟩⟩⟩
  have f4 : fr [2, 8, 9] g g4 := by rw [e4, e3, e2, e1]; exact (((fr.rf.gp (by decide)).gp (by decide)).gp (by decide)).gp (by decide)
  have c1 : g4 2 2 = nI (L ++ [k]).length := by
    rw [e4, gp_s, e3, gp_n (by decide), e2, gp_n (by decide), e1, gp_n (by decide), m1, nI_add, List.length_append]; rfl
  have c9 : g4 9 = g 9 := by rw [e4, gp_n (by decide), e3, gp_n (by decide), e2, gp_n (by decide), e1, gp_n (by decide)]
  have c8 : ∀ t, t < (L ++ [k]).length → g4 8 (3 * t) = nI ((L ++ [k]).getD t 0 / 256) ∧ g4 8 (3 * t + 1) = nI ((L ++ [k]).getD t 0 / 16 % 16) ∧ g4 8 (3 * t + 2) = nI ((L ++ [k]).getD t 0 % 16) := by
    intro t ht
    rw [List.length_append, List.length_singleton] at ht
    have e48 : g4 8 = g3 8 := by rw [e4, gp_n (by decide)]
    rw [e48, e3]
    by_cases e : t = L.length
    · subst e
      rw [tl_end, k1, k2, k3]
      refine ⟨?_, ?_, ?_⟩
      · rw [gp_o (by omega), e2, gp_o (by omega), e1]; exact gp_s
      · rw [gp_o (by omega), e2]; exact gp_s
      · exact gp_s
    · have l : t < L.length := by omega
      rw [tl_app l]
      obtain ⟨q1, q2, q3⟩ := m2 t l
      refine ⟨?_, ?_, ?_⟩
      · rw [gp_o (by omega), e2, gp_o (by omega), e1, gp_o (by omega)]; exact q1
      · rw [gp_o (by omega), e2, gp_o (by omega), e1, gp_o (by omega)]; exact q2
      · rw [gp_o (by omega), e2, gp_o (by omega), e1, gp_o (by omega)]; exact q3
  have fin : ∀ g', (∀ k', k' ≠ 9 → g' k' = g4 k') → ((∀ p q r, rt X Y (L ++ [k]) p q r → g' 9 (16 * p + q) = nI r) ∧ ∀ p q, p < 16 → q < 16 → (∀ r, ¬ rt X Y (L ++ [k]) p q r) → g' 9 (16 * p + q) = -1) → post g' := by
    intro g' f s
    refine h g' ⟨?_, ?_, s.1, s.2⟩ (fun k' hk' => ?_)
    · rw [f 2 (by decide)]; exact c1
    · rw [f 8 (by decide)]; exact c8
    · rw [f k' (fun e => hk' (by rw [e]; decide))]; exact f4 k' hk'
  obtain ⟨ab, ac, bc⟩ := hne
  rcases hx with ⟨x0, ht⟩ | ⟨x1, ht⟩
  · refine ⟨fun _ => ?_, fun q => absurd x0 q⟩
    refine me_sides ha c16 b16 (fun g' s1 s2 s3 s4 f => fin g' (fun k' hk' => f k' (fun q => hk' (List.mem_singleton.mp q))) ?_)
    refine mC_sides (L := L) (k := k) (a := a) (b := c) (c := b) (g1 := g4) (fun p q r => by rw [k1, k2, k3]; exact ge_pm_sw.symm) (by rw [ge_t_sw]; omega) ⟨ha, c16, b16⟩ ⟨ac, ab, Ne.symm bc⟩ huniq (by rw [c9]; exact m3) (by rw [c9]; exact m4) hl16 s1 (s2 (by omega)) (s3 (by omega) (by omega)) s4
  · refine ⟨fun q => absurd q (by rw [x1]; decide), fun _ => ?_⟩
    refine me_sides ha b16 c16 (fun g' s1 s2 s3 s4 f => fin g' (fun k' hk' => f k' (fun q => hk' (List.mem_singleton.mp q))) ?_)
    refine mC_sides (L := L) (k := k) (a := a) (b := b) (c := c) (g1 := g4) (fun p q r => by rw [k1, k2, k3]) ht ⟨ha, b16, c16⟩ ⟨ab, ac, bc⟩ huniq (by rw [c9]; exact m3) (by rw [c9]; exact m4) hl16 s1 (s2 (by omega)) (s3 (by omega) (by omega)) s4
theorem rt_T {k p q r : Nat} (ho : ge_ok X Y n) (h : rt X Y (tl X Y n k) p q r) : ge_T X Y n p q r := by
  obtain ⟨-, x, h1, h2⟩ := h
  exact ge_pm_T (ge_T_of ho (tl_mem.mp h1).2) h2
theorem rt_u {k p q r r' : Nat} (ho : ge_ok X Y n) (h : rt X Y (tl X Y n k) p q r) (h' : rt X Y (tl X Y n k) p q r') : r = r' := ge_right (rt_T ho h) (rt_T ho h') h.1 h'.1
/-- THE MESH REBUILT -/
theorem me_rebuild {post : St → Prop} (hS : sC g n X Y Z) (h : ∀ g', mC X Y (tl X Y n 4096) g' → fr [2, 8, 9] g g' → post g') : wp_me_rebuild g post := by
  have n16 := hS.1.1
  have le : ∀ {u v : Nat}, u ≤ 16 → v ≤ 16 → (nI u ≤ nI v ↔ u ≤ v) := fun hu hv => nI_leI (by omega) (by omega)
  have inS : ∀ g', fr [2, 8, 9] g g' → sC g' n X Y Z := fun g' f => hS.fr f (by decide) (by decide) (by decide) (by decide)
  unfold wp_me_rebuild
  refine me_clear (fun g1 c1 c2 f1 => ?_)
  have f1 : fr [2, 8, 9] g g1 := f1.mono (by decide)
  have m0 : mC X Y (tl X Y n 0) g1 := by
    refine ⟨c1, fun t ht => absurd ht (by unfold tl; simp), fun p q r hr => ?_, fun p q hp hq _ => c2 _ (by omega)⟩
    obtain ⟨-, x, hx, -⟩ := hr
    exact absurd (tl_mem.mp hx).1 (by omega)
  -- the innermost loop
  have L31 : ∀ (a b : Nat) (K : Int32 → Int32 → St → Prop), a < b → b < n → (∀ g', mC X Y (tl X Y n (256 * a + 16 * b + n)) g' → fr [2, 8, 9] g g' → K (nI a) (nI b) g') →
      ∀ m c (g2 : St), c + m = n → b < c → mC X Y (tl X Y n (256 * a + 16 * b + c)) g2 → fr [2, 8, 9] g g2 → lp_me_rebuild_L31 (m + 1) (nI a) (nI b) (nI c) g2 K post := by
    intro a b K hab hb hK m
    induction m with
    | zero =>
      intro c g2 hc hbc hm f2
      have S2 := inS g2 f2
      unfold lp_me_rebuild_L31 wp_sp_size
      rw [S2.2.2.1]
      have : c = n := by omega
      subst this
      exact ⟨fun _ => hK g2 hm f2, fun q => absurd ((le (by omega) (by omega)).mpr (Nat.le_refl _)) q⟩
    | succ m ih =>
      intro c g2 hc hbc hm f2
      have S2 := inS g2 f2
      have hcn : c < n := by omega
      have k1 : (256 * a + 16 * b + c) / 256 = a := by omega
      have k2 : (256 * a + 16 * b + c) / 16 % 16 = b := by omega
      have k3 : (256 * a + 16 * b + c) % 16 = c := by omega
      have no : ¬ ge_tri X Y n a b c → ∀ g3, mC X Y (tl X Y n (256 * a + 16 * b + c)) g3 → fr [2, 8, 9] g g3 → lp_me_rebuild_L31 (m + 1) (nI a) (nI b) (nI c + 1) g3 K post := fun t g3 m3 f3 => by
        rw [nI_1]
        refine ih (c + 1) g3 (by omega) (by omega) ?_ f3
        rw [← Nat.add_assoc, tl_s0 (by rw [k1, k2, k3]; exact t)]
        exact m3
      unfold lp_me_rebuild_L31 wp_sp_size
      rw [S2.2.2.1]
      try dsimp only
      rw [hm.1]
      refine ⟨fun q => absurd ((le (by omega) (by omega)).mp q) (by omega), fun _ => ⟨fun q => ?_, fun q => ?_⟩⟩
      · refine no (fun t => ?_) g2 hm f2
        have l := tl_27 (k := 256 * a + 16 * b + c + 1) hS.1
        rw [tl_s1 (by rw [k1, k2, k3]; exact t), List.length_append, List.length_singleton] at l
        have l2 := tl_27 (k := 256 * a + 16 * b + c) hS.1
        rw [show (27 : Int32) = nI 27 from rfl, nI_leI (by omega) (by omega)] at q
        omega
      · have l2 := tl_27 (k := 256 * a + 16 * b + c) hS.1
        have l3 : (tl X Y n (256 * a + 16 * b + c)).length < 27 := by
          rw [show (27 : Int32) = nI 27 from rfl, nI_leI (by omega) (by omega)] at q
          omega
        refine me_isTri S2 hab hbc hcn (fun t => ⟨fun _ => no t g2 hm f2, fun q => absurd rfl q⟩) (fun t => ⟨fun q => absurd q (by decide), fun _ => ?_⟩)
        have bt := ge_tb hS.1 (show a < n by omega) hb hcn
        have ap := tl_s1 (X := X) (Y := Y) (n := n) (k := 256 * a + 16 * b + c) (by rw [k1, k2, k3]; exact t)
        have go : ∀ x4 : Int32, ((x4 = 0 ∧ 0 < ge_t X Y a b c) ∨ (x4 = 1 ∧ ge_t X Y a b c < 0)) → wp_me_add (nI a) (nI b) (nI c) x4 g2 (fun g12 => (lp_me_rebuild_L31 (m + 1) (nI a) (nI b) (nI c + 1) g12 K post)) := fun x4 hx => by
          refine me_add (L := tl X Y n (256 * a + 16 * b + c)) (k := 256 * a + 16 * b + c) ⟨k1, k2, k3⟩ (by omega) l3 hm ⟨by omega, by omega, by omega⟩ hx (fun p q r h1 r' h2 => ?_) (fun p q r h1 => ?_) (fun g3 m3 f3 => ?_)
          · rw [← ap] at h1 h2; exact rt_u hS.1 h1 h2
          · rw [← ap] at h1
            have T := rt_T hS.1 h1
            exact ⟨by have := T.1; omega, by have := T.2.1; omega⟩
          · rw [nI_1]
            rw [← ap] at m3
            exact ih (c + 1) g3 (by omega) (by omega) m3 (f2.tr f3)
        refine sp_turn S2 (by omega) hb hcn ⟨fun q => go 0 (Or.inl ⟨rfl, ?_⟩), fun q => go 1 (Or.inr ⟨rfl, ?_⟩)⟩
        · rw [← iI_0, iI_le (by omega) (by omega) bt.1 bt.2] at q
          have := t.2.2.2.1
          omega
        · rw [← iI_0, iI_le (by omega) (by omega) bt.1 bt.2] at q
          omega
  have L18 : ∀ (a : Nat) (K : Int32 → St → Prop), a < n → (∀ g', mC X Y (tl X Y n (256 * a + 16 * n)) g' → fr [2, 8, 9] g g' → K (nI a) g') →
      ∀ m b (g2 : St), b + m = n → a < b → mC X Y (tl X Y n (256 * a + 16 * b)) g2 → fr [2, 8, 9] g g2 → lp_me_rebuild_L18 (m + 1) (nI a) (nI b) g2 K post := by
    intro a K ha hK m
    induction m with
    | zero =>
      intro b g2 hb hab hm f2
      have S2 := inS g2 f2
      unfold lp_me_rebuild_L18 wp_sp_size
      rw [S2.2.2.1]
      have : b = n := by omega
      subst this
      exact ⟨fun _ => hK g2 hm f2, fun q => absurd ((le (by omega) (by omega)).mpr (Nat.le_refl _)) q⟩
    | succ m ih =>
      intro b g2 hb hab hm f2
      have S2 := inS g2 f2
      unfold lp_me_rebuild_L18 wp_sp_size
      rw [S2.2.2.1]
      refine ⟨fun q => absurd ((le (by omega) (by omega)).mp q) (by omega), fun _ => ⟨(n - (b + 1)) + 1, ?_⟩⟩
      rw [nI_1]
      refine L31 a b _ hab (by omega) (fun g3 m3 f3 => ?_) (n - (b + 1)) (b + 1) g2 (by omega) (by omega) ?_ f2
      · rw [nI_1]
        refine ih (b + 1) g3 (by omega) (by omega) ?_ f3
        rw [tl_skip (k := 256 * a + 16 * b + n) (k' := 256 * a + 16 * (b + 1)) (by omega) (fun x x1 x2 t => by have := t.2.2.1; omega)]
        exact m3
      · rw [tl_skip (k := 256 * a + 16 * b) (k' := 256 * a + 16 * b + (b + 1)) (by omega) (fun x x1 x2 t => by have := t.2.1; omega)]
        exact hm
  have L6 : ∀ m a (g2 : St), a + m = n → mC X Y (tl X Y n (256 * a)) g2 → fr [2, 8, 9] g g2 → lp_me_rebuild_L6 (m + 1) (nI a) g2 (fun g19 => (post g19)) post := by
    intro m
    induction m with
    | zero =>
      intro a g2 ha hm f2
      have S2 := inS g2 f2
      unfold lp_me_rebuild_L6 wp_sp_size
      rw [S2.2.2.1]
      have : a = n := by omega
      subst this
      refine ⟨fun _ => h g2 ?_ f2, fun q => absurd ((le (by omega) (by omega)).mpr (Nat.le_refl _)) q⟩
      rw [tl_skip (k := 256 * a) (k' := 4096) (by omega) (fun x x1 x2 t => by have t1 := t.1; have t2 := t.2.1; have t3 := t.2.2.1; omega)]
      exact hm
    | succ m ih =>
      intro a g2 ha hm f2
      have S2 := inS g2 f2
      unfold lp_me_rebuild_L6 wp_sp_size
      rw [S2.2.2.1]
      refine ⟨fun q => absurd ((le (by omega) (by omega)).mp q) (by omega), fun _ => ⟨(n - (a + 1)) + 1, ?_⟩⟩
      rw [nI_1]
      refine L18 a _ (by omega) (fun g3 m3 f3 => ?_) (n - (a + 1)) (a + 1) g2 (by omega) (by omega) ?_ f2
      · rw [nI_1]
        refine ih (a + 1) g3 (by omega) ?_ f3
        rw [tl_skip (k := 256 * a + 16 * n) (k' := 256 * (a + 1)) (by omega) (fun x x1 x2 t => by have t2 := t.2.1; have t3 := t.2.2.1; have u : x / 16 / 16 = a := (by omega); omega)]
        exact m3
      · rw [tl_skip (k := 256 * a) (k' := 256 * a + 16 * (a + 1)) (by omega) (fun x x1 x2 t => by have := t.1; omega)]
        exact hm
  exact ⟨n + 1, L6 n 0 g1 (by omega) m0 f1⟩
end
end
section
/-! The reference finds its triangles. -/
/-- the cells of S and the places T of the object's own fields have changed, nothing else -/
def fm (S T : List Nat) (g g' : St) : Prop := (∀ k, k ≠ 0 → k ∉ S → g' k = g k) ∧ ∀ j, j ∉ T → g' 0 j = g 0 j
theorem fm.rf {S T : List Nat} {g : St} : fm S T g g := ⟨fun _ _ _ => rfl, fun _ _ => rfl⟩
theorem fm.pt {S T : List Nat} {g g' : St} {k j : Nat} {v : Int32} (h : fm S T g g') (hk : k ∈ S) (h0 : k ≠ 0) : fm S T g (gp g' k j v) := ⟨fun k' h1 h' => by
  rw [gp_n (fun e => h' (by rw [e]; exact hk))]; exact h.1 k' h1 h', fun j' hj => by rw [gp_n (Ne.symm h0)]; exact h.2 j' hj⟩
theorem fm.g0 {S T : List Nat} {g g' : St} {j : Nat} {v : Int32} (h : fm S T g g') (hj : j ∈ T) : fm S T g (gp g' 0 j v) := ⟨fun k' h1 h' => by
  rw [gp_n h1]; exact h.1 k' h1 h', fun j' hj' => by rw [gp_o (fun e => hj' (by rw [e]; exact hj))]; exact h.2 j' hj'⟩
theorem fm.tr {S T : List Nat} {g g' g'' : St} (h : fm S T g g') (h2 : fm S T g' g'') : fm S T g g'' := ⟨fun k h1 hk => (h2.1 k h1 hk).trans (h.1 k h1 hk), fun j hj => (h2.2 j hj).trans (h.2 j hj)⟩
theorem fm.mono {S S' T T' : List Nat} {g g' : St} (h : fm S T g g') (hs : ∀ k, k ∈ S → k ∈ S') (ht : ∀ k, k ∈ T → k ∈ T') : fm S' T' g g' := ⟨fun k h1 hk => h.1 k h1 (fun q => hk (hs k q)), fun j hj => h.2 j (fun q => hj (ht j q))⟩
theorem sM.fm {S T : List Nat} {g g' : St} {n : Nat} {X Y Z : Nat → Int} (h : sM g n X Y Z) (f : fm S T g g') (h1 : 1 ∉ T) (h5 : 1 ∉ S) (h6 : 2 ∉ S) (h7 : 3 ∉ S) : sM g' n X Y Z := h.fr (f.2 1 h1) (f.1 1 (by decide) h5) (f.1 2 (by decide) h6) (f.1 3 (by decide) h7)
section
variable {g : St} {n : Nat} {X Y Z : Nat → Int}
theorem mM_add {L : List Nat} {a b c k : Nat} {g1 g2 g3 g4 : St} (hk : k / 256 = a ∧ k / 16 % 16 = b ∧ k % 16 = c) (hm : mM L g) (e1 : g1 = gp g 4 (3 * L.length) (nI a)) (e2 : g2 = gp g1 4 (3 * L.length + 1) (nI b)) (e3 : g3 = gp g2 4 (3 * L.length + 2) (nI c)) (e4 : g4 = gp g3 0 5 (nI L.length + 1)) : mM (L ++ [k]) g4 := by
  obtain ⟨m1, m2⟩ := hm
  obtain ⟨k1, k2, k3⟩ := hk
  constructor
  · rw [e4, gp_s, nI_1, List.length_append]; rfl
  · intro t ht
    rw [List.length_append, List.length_singleton] at ht
    have e48 : g4 4 = g3 4 := by rw [e4, gp_n (by decide)]
    rw [e48, e3]
    by_cases e : t = L.length
    · subst e
      rw [tl_end, k1, k2, k3]
      refine ⟨?_, ?_, ?_⟩
      · rw [gp_o (by omega), e2, gp_o (by omega), e1]; exact gp_s
      · rw [gp_o (by omega), e2]; exact gp_s
      · exact gp_s
    · have l : t < L.length := by omega
      rw [tl_app l]
      obtain ⟨q1, q2, q3⟩ := m2 t l
      refine ⟨?_, ?_, ?_⟩
      · rw [gp_o (by omega), e2, gp_o (by omega), e1, gp_o (by omega)]; exact q1
      · rw [gp_o (by omega), e2, gp_o (by omega), e1, gp_o (by omega)]; exact q2
      · rw [gp_o (by omega), e2, gp_o (by omega), e1, gp_o (by omega)]; exact q3
theorem mo_find {post : St → Prop} (hS : sM g n X Y Z) (h : ∀ g', mM (tl X Y n 4096) g' → fm [4] [5] g g' → post g') : wp_mo_findTriangles g post := by
  have n16 := hS.1.1
  have le : ∀ {u v : Nat}, u ≤ 16 → v ≤ 16 → (nI u ≤ nI v ↔ u ≤ v) := fun hu hv => nI_leI (by omega) (by omega)
  have inS : ∀ g', fm [4] [5] g g' → sM g' n X Y Z := fun g' f => hS.fm f (by decide) (by decide) (by decide) (by decide)
  unfold wp_mo_findTriangles
  intro g1 e1
  have f1 : fm [4] [5] g g1 := by rw [e1]; exact fm.rf.g0 (by decide)
  have m0 : mM (tl X Y n 0) g1 := ⟨by rw [e1]; exact gp_s, fun t ht => absurd ht (by unfold tl; simp)⟩
  have L31 : ∀ (a b : Nat) (K : Int32 → Int32 → St → Prop), a < b → b < n → (∀ g', mM (tl X Y n (256 * a + 16 * b + n)) g' → fm [4] [5] g g' → K (nI a) (nI b) g') →
      ∀ m c (g2 : St), c + m = n → b < c → mM (tl X Y n (256 * a + 16 * b + c)) g2 → fm [4] [5] g g2 → lp_mo_findTriangles_L31 (m + 1) (nI a) (nI b) (nI c) g2 K post := by
    intro a b K hab hb hK m
    induction m with
    | zero =>
      intro c g2 hc hbc hm f2
      have S2 := inS g2 f2
      unfold lp_mo_findTriangles_L31
      rw [S2.2.2.1]
      have : c = n := by omega
      subst this
      exact ⟨fun _ => hK g2 hm f2, fun q => absurd ((le (by omega) (by omega)).mpr (Nat.le_refl _)) q⟩
    | succ m ih =>
      intro c g2 hc hbc hm f2
      have S2 := inS g2 f2
      have hcn : c < n := by omega
      have k1 : (256 * a + 16 * b + c) / 256 = a := by omega
      have k2 : (256 * a + 16 * b + c) / 16 % 16 = b := by omega
      have k3 : (256 * a + 16 * b + c) % 16 = c := by omega
      unfold lp_mo_findTriangles_L31
      rw [S2.2.2.1]
      refine ⟨fun q => absurd ((le (by omega) (by omega)).mp q) (by omega), fun _ => ?_⟩
      refine mo_isTri S2 hab hbc hcn (fun t => ⟨fun _ => ?_, fun q => absurd rfl q⟩) (fun t => ⟨fun q => absurd q (by decide), fun _ => ?_⟩)
      · rw [nI_1]
        refine ih (c + 1) g2 (by omega) (by omega) ?_ f2
        rw [← Nat.add_assoc, tl_s0 (by rw [k1, k2, k3]; exact t)]
        exact hm
      · have ap := tl_s1 (X := X) (Y := Y) (n := n) (k := 256 * a + 16 * b + c) (by rw [k1, k2, k3]; exact t)
        have l3 := tl_27 (k := 256 * a + 16 * b + c) hS.1
        rw [hm.1, pk3', ix_nI (by omega)]
        refine ⟨vp_in_nI (by omega) (by omega), fun g4 e4 => ?_⟩
        have c4 : g4 0 5 = nI (tl X Y n (256 * a + 16 * b + c)).length := by rw [e4, gp_n (by decide)]; exact hm.1
        rw [c4, pk3', show (1 : Int32) = nI 1 from rfl, nI_add, ix_nI (by omega)]
        refine ⟨vp_in_nI (by omega) (by omega), fun g5 e5 => ?_⟩
        have c5 : g5 0 5 = nI (tl X Y n (256 * a + 16 * b + c)).length := by rw [e5, gp_n (by decide)]; exact c4
        rw [c5, pk3', show (2 : Int32) = nI 2 from rfl, nI_add, ix_nI (by omega)]
        refine ⟨vp_in_nI (by omega) (by omega), fun g6 e6 => fun g7 e7 => ?_⟩
        have c6 : g6 0 5 = nI (tl X Y n (256 * a + 16 * b + c)).length := by rw [e6, gp_n (by decide)]; exact c5
        rw [c6] at e7
        rw [nI_add]
        refine ih (c + 1) g7 (by omega) (by omega) ?_ ?_
        · rw [← Nat.add_assoc, ap]
          exact mM_add ⟨k1, k2, k3⟩ hm e4 e5 e6 e7
        · rw [e7, e6, e5, e4]
          exact (((f2.pt (by decide) (by decide)).pt (by decide) (by decide)).pt (by decide) (by decide)).g0 (by decide)
  have L19 : ∀ (a : Nat) (K : Int32 → St → Prop), a < n → (∀ g', mM (tl X Y n (256 * a + 16 * n)) g' → fm [4] [5] g g' → K (nI a) g') →
      ∀ m b (g2 : St), b + m = n → a < b → mM (tl X Y n (256 * a + 16 * b)) g2 → fm [4] [5] g g2 → lp_mo_findTriangles_L19 (m + 1) (nI a) (nI b) g2 K post := by
    intro a K ha hK m
    induction m with
    | zero =>
      intro b g2 hb hab hm f2
      have S2 := inS g2 f2
      unfold lp_mo_findTriangles_L19
      rw [S2.2.2.1]
      have : b = n := by omega
      subst this
      exact ⟨fun _ => hK g2 hm f2, fun q => absurd ((le (by omega) (by omega)).mpr (Nat.le_refl _)) q⟩
    | succ m ih =>
      intro b g2 hb hab hm f2
      have S2 := inS g2 f2
      unfold lp_mo_findTriangles_L19
      rw [S2.2.2.1]
      refine ⟨fun q => absurd ((le (by omega) (by omega)).mp q) (by omega), fun _ => ⟨(n - (b + 1)) + 1, ?_⟩⟩
      rw [nI_1]
      refine L31 a b _ hab (by omega) (fun g3 m3 f3 => ?_) (n - (b + 1)) (b + 1) g2 (by omega) (by omega) ?_ f2
      · rw [nI_1]
        refine ih (b + 1) g3 (by omega) (by omega) ?_ f3
        rw [tl_skip (k := 256 * a + 16 * b + n) (k' := 256 * a + 16 * (b + 1)) (by omega) (fun x x1 x2 t => by have := t.2.2.1; omega)]
        exact m3
      · rw [tl_skip (k := 256 * a + 16 * b) (k' := 256 * a + 16 * b + (b + 1)) (by omega) (fun x x1 x2 t => by have := t.2.1; omega)]
        exact hm
  have L7 : ∀ m a (g2 : St), a + m = n → mM (tl X Y n (256 * a)) g2 → fm [4] [5] g g2 → lp_mo_findTriangles_L7 (m + 1) (nI a) g2 (fun g13 => (post g13)) post := by
    intro m
    induction m with
    | zero =>
      intro a g2 ha hm f2
      have S2 := inS g2 f2
      unfold lp_mo_findTriangles_L7
      rw [S2.2.2.1]
      have : a = n := by omega
      subst this
      refine ⟨fun _ => h g2 ?_ f2, fun q => absurd ((le (by omega) (by omega)).mpr (Nat.le_refl _)) q⟩
      rw [tl_skip (k := 256 * a) (k' := 4096) (by omega) (fun x x1 x2 t => by have t1 := t.1; have t2 := t.2.1; have t3 := t.2.2.1; omega)]
      exact hm
    | succ m ih =>
      intro a g2 ha hm f2
      have S2 := inS g2 f2
      unfold lp_mo_findTriangles_L7
      rw [S2.2.2.1]
      refine ⟨fun q => absurd ((le (by omega) (by omega)).mp q) (by omega), fun _ => ⟨(n - (a + 1)) + 1, ?_⟩⟩
      rw [nI_1]
      refine L19 a _ (by omega) (fun g3 m3 f3 => ?_) (n - (a + 1)) (a + 1) g2 (by omega) (by omega) ?_ f2
      · rw [nI_1]
        refine ih (a + 1) g3 (by omega) ?_ f3
        rw [tl_skip (k := 256 * a + 16 * n) (k' := 256 * (a + 1)) (by omega) (fun x x1 x2 t => by have t2 := t.2.1; have t3 := t.2.2.1; have u : x / 16 / 16 = a := (by omega); omega)]
        exact m3
      · rw [tl_skip (k := 256 * a) (k' := 256 * a + 16 * (a + 1)) (by omega) (fun x x1 x2 t => by have := t.1; omega)]
        exact hm
  exact ⟨n + 1, L7 n 0 g1 (by omega) m0 f1⟩
end
end
section
/-! Labels and what they clash with. -/
def ab (d : Int) : Int := if 0 ≤ d then d else -d
theorem iI_ab {d : Int} (h1 : -2147483647 ≤ d) (h2 : d < 2147483648) : (if 0 ≤ iI d then iI d else 0 - iI d) = iI (ab d) := by
  unfold ab
  by_cases h : 0 ≤ d
  · rw [if_pos h, if_pos (by rw [← iI_0, iI_le (by omega) (by omega) (by omega) h2]; exact h)]
  · rw [if_neg h, if_neg (by rw [← iI_0, iI_le (by omega) (by omega) (by omega) h2]; exact h), ← iI_0, iI_sub, Int.zero_sub]
theorem ab_b {d : Int} (h1 : -2147483647 ≤ d) (h2 : d < 2147483648) : 0 ≤ ab d ∧ ab d < 2147483648 := by
  unfold ab; split <;> omega
theorem iI_lt_n (k : Nat) {d : Int} (hk : k < 2147483648) (h1 : -2147483648 ≤ d) (h2 : d < 2147483648) : nI k < iI d ↔ (k : Int) < d := by
  rw [← iI_nI, iI_lt (by omega) (by omega) h1 h2]
def cov (n : Nat) (X Y : Nat → Int) (x y : Int) : Prop := ∃ s, s < n ∧ ab (X s - x) ≤ 3 ∧ ab (Y s - y) ≤ 1
def cla (q : Nat) (A B : Nat → Int) (x y : Int) : Prop := ∃ i, i < q ∧ ab (A i - x) ≤ 6 ∧ ab (B i - y) ≤ 2
/-- the labels of the class, and of the reference -/
def tC (g : St) (q : Nat) (V A B : Nat → Int) : Prop := q ≤ 20 ∧ g 4 3 = nI q ∧ ∀ i, i < q → (0 ≤ A i ∧ A i ≤ 63 ∧ 0 ≤ B i ∧ B i ≤ 63) ∧ g 15 i = iI (V i) ∧ g 16 i = iI (A i) ∧ g 17 i = iI (B i)
def tM (g : St) (q : Nat) (V A B : Nat → Int) : Prop := g 0 17 = nI q ∧ ∀ i, i < q → (0 ≤ A i ∧ A i ≤ 63 ∧ 0 ≤ B i ∧ B i ≤ 63) ∧ g 13 i = iI (V i) ∧ g 14 i = iI (A i) ∧ g 15 i = iI (B i)
section
variable {g : St} {n q : Nat} {X Y Z V A B : Nat → Int} {x y : Int}
theorem ta_covers {post : Int32 → St → Prop} (hS : sC g n X Y Z) (hx : 0 ≤ x ∧ x ≤ 63) (hy : 0 ≤ y ∧ y ≤ 63) (h0 : ¬ cov n X Y x y → post 0 g) (h1 : cov n X Y x y → post 1 g) : wp_ta_coversSpot (iI x) (iI y) g post := by
  have n16 := hS.1.1
  unfold wp_ta_coversSpot
  try dsimp only
  have loop : ∀ m i, i + m = n → (∀ s, s < i → ¬ (ab (X s - x) ≤ 3 ∧ ab (Y s - y) ≤ 1)) → lp_ta_coversSpot_L2 (m + 1) (iI x) (iI y) (nI i) g (fun g7 => (post 0 g7)) post := by
    intro m
    induction m with
    | zero =>
      intro i hi hd
      unfold lp_ta_coversSpot_L2 wp_sp_size
      try dsimp only
      rw [hS.2.2.1]
      refine ⟨fun _ => h0 (fun ⟨s, s1, s2⟩ => hd s (by omega) s2), fun k => absurd ((nI_leI (by omega) (by omega)).mpr (by omega)) k⟩
    | succ m ih =>
      intro i hi hd
      have hin : i < n := by omega
      obtain ⟨e1, e2, -⟩ := hS.2.2.2 i hin
      obtain ⟨b1, b2, b3, b4⟩ := hS.1.2.1 i hin
      have a1 := ab_b (d := X i - x) (by omega) (by omega)
      have a2 := ab_b (d := Y i - y) (by omega) (by omega)
      have next : ¬ (ab (X i - x) ≤ 3 ∧ ab (Y i - y) ≤ 1) → lp_ta_coversSpot_L2 (m + 1) (iI x) (iI y) (nI i + 1) g (fun g7 => (post 0 g7)) post := fun k => by
        rw [nI_1]
        refine ih (i + 1) (by omega) (fun s hs => ?_)
        by_cases e : s = i
        · rw [e]; exact k
        · exact hd s (by omega)
      unfold lp_ta_coversSpot_L2 wp_sp_size wp_sp_x wp_sp_y
      try dsimp only
      rw [hS.2.2.1, hS.ix hin, e1, e2, iI_sub, iI_sub, iI_ab (by omega) (by omega), iI_ab (by omega) (by omega), show (3 : Int32) = nI 3 from rfl]
      refine ⟨fun k => absurd ((nI_leI (by omega) (by omega)).mp k) (by omega), fun _ => ⟨hS.v16 hin, fun k => next ?_, fun k => ⟨hS.v16 hin, fun k2 => next ?_, fun k2 => ?_⟩⟩⟩
      · rw [iI_lt_n 3 (by omega) (by omega) (by omega)] at k; omega
      · rw [show (1 : Int32) = nI 1 from rfl, iI_lt_n 1 (by omega) (by omega) (by omega)] at k2; omega
      · rw [iI_lt_n 3 (by omega) (by omega) (by omega)] at k
        rw [show (1 : Int32) = nI 1 from rfl, iI_lt_n 1 (by omega) (by omega) (by omega)] at k2
        exact h1 ⟨i, hin, by omega, by omega⟩
  exact ⟨n + 1, loop n 0 (by omega) (fun s hs => absurd hs (by omega))⟩
theorem ta_clash {post : Int32 → St → Prop} (hT : tC g q V A B) (hx : 0 ≤ x ∧ x ≤ 63) (hy : 0 ≤ y ∧ y ≤ 63) (h0 : ¬ cla q A B x y → post 0 g) (h1 : cla q A B x y → post 1 g) : wp_ta_clashesAt (iI x) (iI y) g post := by
  have q20 := hT.1
  unfold wp_ta_clashesAt
  try dsimp only
  have loop : ∀ m i, i + m = q → (∀ s, s < i → ¬ (ab (A s - x) ≤ 6 ∧ ab (B s - y) ≤ 2)) → lp_ta_clashesAt_L2 (m + 1) (iI x) (iI y) (nI i) g (fun g1 => (post 0 g1)) post := by
    intro m
    induction m with
    | zero =>
      intro i hi hd
      unfold lp_ta_clashesAt_L2
      try dsimp only
      rw [hT.2.1]
      refine ⟨fun _ => h0 (fun ⟨s, s1, s2⟩ => hd s (by omega) s2), fun k => absurd ((nI_leI (by omega) (by omega)).mpr (by omega)) k⟩
    | succ m ih =>
      intro i hi hd
      have hin : i < q := by omega
      obtain ⟨⟨b1, b2, b3, b4⟩, -, e1, e2⟩ := hT.2.2 i hin
      have a1 := ab_b (d := A i - x) (by omega) (by omega)
      have a2 := ab_b (d := B i - y) (by omega) (by omega)
      have next : ¬ (ab (A i - x) ≤ 6 ∧ ab (B i - y) ≤ 2) → lp_ta_clashesAt_L2 (m + 1) (iI x) (iI y) (nI i + 1) g (fun g1 => (post 0 g1)) post := fun k => by
        rw [nI_1]
        refine ih (i + 1) (by omega) (fun s hs => ?_)
        by_cases e : s = i
        · rw [e]; exact k
        · exact hd s (by omega)
      unfold lp_ta_clashesAt_L2
      try dsimp only
      rw [hT.2.1, ix_nI (by omega), e1, e2, iI_sub, iI_sub, iI_ab (by omega) (by omega), iI_ab (by omega) (by omega), show (6 : Int32) = nI 6 from rfl, show (2 : Int32) = nI 2 from rfl]
      refine ⟨fun k => absurd ((nI_leI (by omega) (by omega)).mp k) (by omega), fun _ => ⟨vp_in_nI (by omega) (by omega), fun k => next ?_, fun k => ⟨vp_in_nI (by omega) (by omega), fun k2 => next ?_, fun k2 => ?_⟩⟩⟩
      · rw [iI_lt_n 6 (by omega) (by omega) (by omega)] at k; omega
      · rw [iI_lt_n 2 (by omega) (by omega) (by omega)] at k2; omega
      · rw [iI_lt_n 6 (by omega) (by omega) (by omega)] at k
        rw [iI_lt_n 2 (by omega) (by omega) (by omega)] at k2
        exact h1 ⟨i, hin, by omega, by omega⟩
  exact ⟨q + 1, loop q 0 (by omega) (fun s hs => absurd hs (by omega))⟩
/-- isNear of the reference -/
theorem mo_near {a b : Int} {k : Nat} {post : Int32 → St → Prop} (ha : -1000 ≤ a ∧ a ≤ 1000) (hb : -1000 ≤ b ∧ b ≤ 1000) (hk : k < 100) (h0 : ¬ ab (a - b) ≤ k → post 0 g) (h1 : ab (a - b) ≤ k → post 1 g) : wp_mo_isNear (iI a) (iI b) (nI k) g post := by
  unfold wp_mo_isNear
  try dsimp only
  rw [iI_sub, iI_sub]
  have z1 := iI_lt_n k (d := a - b) (by omega) (by omega) (by omega)
  have z2 := iI_lt_n k (d := b - a) (by omega) (by omega) (by omega)
  have e : ab (a - b) ≤ k ↔ a - b ≤ k ∧ b - a ≤ k := by unfold ab; split <;> omega
  refine ⟨fun u => h0 (fun w => ?_), fun u => ⟨fun u2 => h0 (fun w => ?_), fun u2 => h1 ?_⟩⟩
  · have := z1.mp u; have := e.mp w; omega
  · have := z2.mp u2; have := e.mp w; omega
  · rw [e]
    constructor
    · exact Int.not_lt.mp (fun w => u (z1.mpr w))
    · exact Int.not_lt.mp (fun w => u2 (z2.mpr w))
theorem mo_clash {post : Int32 → St → Prop} (hS : sM g n X Y Z) (hT : tM g q V A B) (hq : q ≤ 60) (hx : 0 ≤ x ∧ x ≤ 63) (hy : 0 ≤ y ∧ y ≤ 63) (h0 : ¬ (cov n X Y x y ∨ cla q A B x y) → post 0 g) (h1 : (cov n X Y x y ∨ cla q A B x y) → post 1 g) : wp_mo_clashes (iI x) (iI y) g post := by
  have n16 := hS.1.1
  unfold wp_mo_clashes
  try dsimp only
  -- the second loop, from b
  have L65 : ∀ m i, i + m = q → ∀ b : Int32, ((b = 0 ∧ ¬ (cov n X Y x y ∨ ∃ s, s < i ∧ ab (A s - x) ≤ 6 ∧ ab (B s - y) ≤ 2)) ∨ (b = 1 ∧ (cov n X Y x y ∨ ∃ s, s < i ∧ ab (A s - x) ≤ 6 ∧ ab (B s - y) ≤ 2))) →
      lp_mo_clashes_L65 (m + 1) (iI x) (iI y) b (nI i) g (fun w14 g13 => (narrow .boolean (.int w14) = .int w14 ∧ post w14 g13)) post := by
    intro m
    induction m with
    | zero =>
      intro i hi b hb
      unfold lp_mo_clashes_L65
      try dsimp only
      rw [hT.1]
      have : i = q := by omega
      subst this
      refine ⟨fun _ => ?_, fun k => absurd ((nI_leI (by omega) (by omega)).mpr (Nat.le_refl _)) k⟩
      rcases hb with ⟨rfl, hb⟩ | ⟨rfl, hb⟩
      · exact ⟨nb_0, h0 hb⟩
      · exact ⟨nb_1, h1 hb⟩
    | succ m ih =>
      intro i hi b hb
      have hin : i < q := by omega
      obtain ⟨⟨b1, b2, b3, b4⟩, -, e1, e2⟩ := hT.2 i hin
      unfold lp_mo_clashes_L65
      try dsimp only
      rw [hT.1, ix_nI (by omega), nI_1]
      refine ⟨fun k => absurd ((nI_leI (by omega) (by omega)).mp k) (by omega), fun _ => ⟨fun k => ?_, fun k => ⟨vp_in_nI (by omega) (by omega), ?_⟩⟩⟩
      · refine ih (i + 1) (by omega) 1 (Or.inr ⟨rfl, ?_⟩)
        rcases hb with ⟨rfl, -⟩ | ⟨-, hb⟩
        · exact absurd rfl k
        · rcases hb with hb | ⟨s, s1, s2⟩
          · exact Or.inl hb
          · exact Or.inr ⟨s, by omega, s2⟩
      · have hb : ¬ (cov n X Y x y ∨ ∃ s, s < i ∧ ab (A s - x) ≤ 6 ∧ ab (B s - y) ≤ 2) := by
          rcases hb with ⟨-, hb⟩ | ⟨hb, -⟩
          · exact hb
          · rw [hb] at k; exact absurd k (by decide)
        have no : ¬ (ab (A i - x) ≤ 6 ∧ ab (B i - y) ≤ 2) → lp_mo_clashes_L65 (m + 1) (iI x) (iI y) 0 (nI (i + 1)) g (fun w14 g13 => (narrow .boolean (.int w14) = .int w14 ∧ post w14 g13)) post := fun u => by
          refine ih (i + 1) (by omega) 0 (Or.inl ⟨rfl, fun w => ?_⟩)
          rcases w with w | ⟨s, s1, s2⟩
          · exact hb (Or.inl w)
          · by_cases e : s = i
            · rw [e] at s2; exact u s2
            · exact hb (Or.inr ⟨s, by omega, s2⟩)
        rw [e1]
        refine mo_near (k := 6) (by omega) (by omega) (by omega) (fun u => ⟨fun _ => no (fun w => u w.1), fun k => absurd rfl k⟩) (fun u => ⟨fun k => absurd k (by decide), fun _ => ⟨vp_in_nI (by omega) (by omega), ?_⟩⟩)
        rw [e2]
        exact mo_near (k := 2) (by omega) (by omega) (by omega) (fun u2 => ⟨fun _ => no (fun w => u2 w.2), fun k => absurd rfl k⟩) (fun u2 => ⟨fun k => absurd k (by decide), fun _ => ih (i + 1) (by omega) 1 (Or.inr ⟨rfl, Or.inr ⟨i, by omega, u, u2⟩⟩)⟩)
  have L5 : ∀ m i, i + m = n → ∀ b : Int32, ((b = 0 ∧ ¬ ∃ s, s < i ∧ ab (X s - x) ≤ 3 ∧ ab (Y s - y) ≤ 1) ∨ (b = 1 ∧ ∃ s, s < i ∧ ab (X s - x) ≤ 3 ∧ ab (Y s - y) ≤ 1)) →
      lp_mo_clashes_L5 (m + 1) (iI x) (iI y) b (nI i) g (fun w6 w7 w8 g5 => (∃ k65, lp_mo_clashes_L65 k65 w6 w7 w8 0 g5 (fun w14 g13 => (narrow .boolean (.int w14) = .int w14 ∧ post w14 g13)) post)) post := by
    intro m
    induction m with
    | zero =>
      intro i hi b hb
      unfold lp_mo_clashes_L5
      try dsimp only
      rw [hS.2.2.1]
      have : i = n := by omega
      subst this
      refine ⟨fun _ => ⟨q + 1, L65 q 0 (by omega) b ?_⟩, fun k => absurd ((nI_leI (by omega) (by omega)).mpr (Nat.le_refl _)) k⟩
      rcases hb with ⟨hb, hc⟩ | ⟨hb, hc⟩
      · exact Or.inl ⟨hb, fun w => by rcases w with w | ⟨s, s1, -⟩; exact hc w; omega⟩
      · exact Or.inr ⟨hb, Or.inl hc⟩
    | succ m ih =>
      intro i hi b hb
      have hin : i < n := by omega
      obtain ⟨e1, e2, -⟩ := hS.2.2.2 i hin
      obtain ⟨b1, b2, b3, b4⟩ := hS.1.2.1 i hin
      unfold lp_mo_clashes_L5
      try dsimp only
      rw [hS.2.2.1, hS.ix hin, nI_1]
      refine ⟨fun k => absurd ((nI_leI (by omega) (by omega)).mp k) (by omega), fun _ => ⟨fun k => ?_, fun k => ⟨hS.v16 hin, ?_⟩⟩⟩
      · refine ih (i + 1) (by omega) 1 (Or.inr ⟨rfl, ?_⟩)
        rcases hb with ⟨rfl, -⟩ | ⟨-, ⟨s, s1, s2⟩⟩
        · exact absurd rfl k
        · exact ⟨s, by omega, s2⟩
      · have hb : ¬ ∃ s, s < i ∧ ab (X s - x) ≤ 3 ∧ ab (Y s - y) ≤ 1 := by
          rcases hb with ⟨-, hb⟩ | ⟨hb, -⟩
          · exact hb
          · rw [hb] at k; exact absurd k (by decide)
        have no : ¬ (ab (X i - x) ≤ 3 ∧ ab (Y i - y) ≤ 1) → lp_mo_clashes_L5 (m + 1) (iI x) (iI y) 0 (nI (i + 1)) g (fun w6 w7 w8 g5 => (∃ k65, lp_mo_clashes_L65 k65 w6 w7 w8 0 g5 (fun w14 g13 => (narrow .boolean (.int w14) = .int w14 ∧ post w14 g13)) post)) post := fun u => by
          refine ih (i + 1) (by omega) 0 (Or.inl ⟨rfl, fun ⟨s, s1, s2⟩ => ?_⟩)
          by_cases e : s = i
          · rw [e] at s2; exact u s2
          · exact hb ⟨s, by omega, s2⟩
        rw [e1]
        refine mo_near (k := 3) (by omega) (by omega) (by omega) (fun u => ⟨fun _ => no (fun w => u w.1), fun k => absurd rfl k⟩) (fun u => ⟨fun k => absurd k (by decide), fun _ => ⟨hS.v16 hin, ?_⟩⟩)
        rw [e2]
        exact mo_near (k := 1) (by omega) (by omega) (by omega) (fun u2 => ⟨fun _ => no (fun w => u2 w.2), fun k => absurd rfl k⟩) (fun u2 => ⟨fun k => absurd k (by decide), fun _ => ih (i + 1) (by omega) 1 (Or.inr ⟨rfl, ⟨i, by omega, u, u2⟩⟩)⟩)
  exact ⟨n + 1, L5 n 0 (by omega) 0 (Or.inl ⟨rfl, fun ⟨s, s1, _⟩ => by omega⟩)⟩
end
end
section
/-! Rounded quotients, and the places of crossings. -/
theorem td_up {a b : Int} (hb : 0 < b) : a.tdiv b = if a.tdiv b * b > a then a / b + 1 else a / b := by
  have h1 := Int.mul_ediv_add_emod a b
  have h2 := Int.emod_nonneg a (Int.ne_of_gt hb)
  have h3 := Int.emod_lt_of_pos a hb
  rcases Int.le_total 0 a with h | h
  · rw [Int.tdiv_eq_ediv_of_nonneg h]
    have : ¬ (a / b * b > a) := by rw [Int.mul_comm]; omega
    rw [if_neg this]
  · obtain ⟨m, rfl⟩ : ∃ m, a = -m := ⟨-a, by omega⟩
    have hm : 0 ≤ m := by omega
    rw [Int.neg_tdiv, Int.tdiv_eq_ediv_of_nonneg hm]
    have g1 := Int.mul_ediv_add_emod m b
    have g2 := Int.emod_nonneg m (Int.ne_of_gt hb)
    have g3 := Int.emod_lt_of_pos m hb
    -- q = m / b, r = m % b
    generalize hq : m / b = q at g1 ⊢
    generalize hr : m % b = r at g1 g2 g3
    have e : -q * b = -(b * q) := by rw [Int.neg_mul, Int.mul_comm]
    by_cases z : r = 0
    · have f : (-m) / b = -q := by
        rw [show -m = b * (-q) by rw [Int.mul_neg]; omega]
        exact Int.mul_ediv_cancel_left _ (Int.ne_of_gt hb)
      rw [f, if_neg (by rw [e]; omega)]
    · have f : (-m) / b = -q - 1 := by
        rw [show -m = (b - r) + b * (-q - 1) by rw [Int.mul_sub, Int.mul_neg]; omega, Int.add_mul_ediv_left _ _ (Int.ne_of_gt hb), Int.ediv_eq_zero_of_lt (by omega) (by omega)]
        omega
      rw [f, if_pos (by rw [e]; omega)]
      omega
theorem td_b {a b : Int} (hb : 0 < b) {M : Int} (h1 : -M ≤ a) (h2 : a ≤ M) : -M ≤ a.tdiv b ∧ a.tdiv b ≤ M := by
  have h : a.tdiv b = if a.tdiv b * b > a then a / b + 1 else a / b := td_up hb
  rcases Int.le_total 0 a with k | k
  · have q1 : 0 ≤ a.tdiv b := Int.tdiv_nonneg k (by omega)
    have q2 : a.tdiv b ≤ a := by rw [Int.tdiv_eq_ediv_of_nonneg k]; exact Int.ediv_le_self b k
    omega
  · obtain ⟨m, rfl⟩ : ∃ m, a = -m := ⟨-a, by omega⟩
    rw [Int.neg_tdiv]
    have q1 : 0 ≤ m.tdiv b := Int.tdiv_nonneg (by omega) (by omega)
    have q2 : m.tdiv b ≤ m := by rw [Int.tdiv_eq_ediv_of_nonneg (by omega)]; exact Int.ediv_le_self b (by omega)
    omega
theorem iI_tdiv {a b : Int} (h1 : -1000000000 ≤ a) (h2 : a ≤ 1000000000) (h3 : 0 < b) (h4 : b ≤ 1000000000) : iI a / iI b = iI (a.tdiv b) := by
  rw [← Int32.toInt_inj, Int32.toInt_div, iI_toInt (by omega) (by omega), iI_toInt (by omega) (by omega)]
  have := td_b h3 h1 h2
  rw [iI_toInt (by omega) (by omega)]
  exact Int.bmod_eq_of_le (by omega) (by omega)
theorem jI_tdiv {a b : Int} (h1 : -4000000000000000000 ≤ a) (h2 : a ≤ 4000000000000000000) (h3 : 0 < b) (h4 : b ≤ 4000000000000000000) : jI a / jI b = jI (a.tdiv b) := by
  rw [← Int64.toInt_inj, Int64.toInt_div, jI_toInt (by omega) (by omega), jI_toInt (by omega) (by omega)]
  have := td_b h3 h1 h2
  rw [jI_toInt (by omega) (by omega)]
  exact Int.bmod_eq_of_le (by omega) (by omega)
theorem mo_floor {g : St} {a b : Int} {post : Int64 → St → Prop} (h1 : -4000000000000000000 ≤ a) (h2 : a ≤ 4000000000000000000) (h3 : 0 < b) (h4 : b ≤ 4000000000000000000) (h : post (jI (a / b)) g) : wp_mo_floor (jI a) (jI b) g post := by
  have q := td_b h3 h1 h2
  have u := td_up (a := a) h3
  have r1 := Int.mul_ediv_add_emod a b
  have r2 := Int.emod_nonneg a (Int.ne_of_gt h3)
  have r3 := Int.emod_lt_of_pos a h3
  have pb : -9000000000000000000 ≤ a.tdiv b * b ∧ a.tdiv b * b ≤ 9000000000000000000 := by
    rw [u]
    split
    · rw [Int.add_mul, Int.one_mul, Int.mul_comm]; omega
    · rw [Int.mul_comm]; omega
  unfold wp_mo_floor
  try dsimp only
  rw [jI_tdiv h1 h2 h3 h4, jI_mul, jI_cmp (by omega) (by omega) (by omega) (by omega), ← jI_1, jI_sub]
  refine ⟨fun e => ?_, ?_⟩
  · rw [← jI_0, jI_eq (by omega) (by omega) (by omega) (by omega)] at e; omega
  · by_cases k : a < a.tdiv b * b
    · rw [if_pos k]
      rw [if_pos k] at u
      exact ⟨fun w => absurd w (by decide), fun _ => by rw [u]; rw [show a / b + 1 - 1 = a / b by omega]; exact h⟩
    · rw [if_neg k]
      rw [if_neg k] at u
      rw [u]
      exact ⟨fun _ => h, fun w => absurd (by split <;> decide) w⟩
/-- a coordinate of the place of a crossing of h and w at level l -/
def pl (X Z : Nat → Int) (l : Int) (h w : Nat) : Int := X w + ((X h - X w) * (2 * l + 1 - 2 * Z w)) / (2 * (Z h - Z w))
theorem pl_b {X Z : Nat → Int} {l : Int} {h w : Nat} (xh : 0 ≤ X h ∧ X h ≤ 63) (xw : 0 ≤ X w ∧ X w ≤ 63) (z1 : Z w ≤ l) (z2 : l < Z h) : 0 ≤ pl X Z l h w ∧ pl X Z l h w ≤ 63 := by
  unfold pl
  generalize hD : 2 * (Z h - Z w) = D
  generalize hp : 2 * l + 1 - 2 * Z w = p
  have p1 : 0 < p := by omega
  have p2 : p < D := by omega
  have D0 : 0 < D := by omega
  generalize hd : X h - X w = d
  rcases Int.le_total 0 d with k | k
  · have a1 : 0 ≤ d * p := Int.mul_nonneg k (by omega)
    have a2 : d * p ≤ d * D := Int.mul_le_mul_of_nonneg_left (by omega) k
    have b1 : 0 ≤ d * p / D := Int.ediv_nonneg a1 (by omega)
    have b2 : d * p / D ≤ d := Int.ediv_le_of_le_mul D0 a2
    omega
  · have a1 : d * p ≤ 0 := Int.mul_nonpos_of_nonpos_of_nonneg k (by omega)
    have a2 : d * D ≤ d * p := Int.mul_le_mul_of_nonpos_left k (by omega)
    have b1 : d ≤ d * p / D := Int.le_ediv_of_mul_le D0 a2
    have b2 : d * p / D ≤ 0 := Int.ediv_le_of_le_mul D0 (by omega)
    omega
end
section
/-! The contours of a level as a list that both sides build: crossings by 16 times the high spot, + the low one. Pure. -/
def hi (Z : Nat → Int) (l : Int) (v : Nat) : Prop := l < Z v
noncomputable def rr (X Y : Nat → Int) (n p q : Nat) : Option Nat := @dite _ (∃ r, ge_R X Y n p q r) (Classical.propDecidable _) (fun h => some (Classical.choose h)) (fun _ => none)
theorem rr_some {X Y : Nat → Int} {n p q r : Nat} : rr X Y n p q = some r ↔ ge_R X Y n p q r := by
  unfold rr
  constructor
  · intro h
    by_cases e : ∃ r, ge_R X Y n p q r
    · rw [@dif_pos _ (Classical.propDecidable _) e] at h
      cases h
      exact Classical.choose_spec e
    · rw [@dif_neg _ (Classical.propDecidable _) e] at h; cases h
  · intro h
    have e : ∃ r, ge_R X Y n p q r := ⟨r, h⟩
    rw [@dif_pos _ (Classical.propDecidable _) e]
    exact congrArg some (ge_R_u (Classical.choose_spec e) h)
theorem rr_none {X Y : Nat → Int} {n p q : Nat} : rr X Y n p q = none ↔ ∀ r, ¬ ge_R X Y n p q r := by
  constructor
  · intro h r q
    rw [rr_some.mpr q] at h; cases h
  · intro h
    cases e : rr X Y n p q with
    | none => rfl
    | some r => exact absurd (rr_some.mp e) (h r)
theorem rr_lt {X Y : Nat → Int} {n p q r : Nat} (h : rr X Y n p q = some r) : p < n ∧ q < n ∧ r < n := ⟨(rr_some.mp h).1.1, (rr_some.mp h).1.2.1, (rr_some.mp h).1.2.2.1⟩
theorem rr_rot {X Y : Nat → Int} {n p q r : Nat} (h : rr X Y n p q = some r) : rr X Y n q r = some p := rr_some.mpr (ge_R_rot (rr_some.mp h))
/-- the other crossing in the triangle of h, w and the third one -/
noncomputable def oth (Z : Nat → Int) (l : Int) (h w r : Nat) : Nat := @ite _ (hi Z l r) (Classical.propDecidable _) (16 * r + w) (16 * h + r)
theorem oth_h {Z : Nat → Int} {l : Int} {h w r : Nat} (q : hi Z l r) : oth Z l h w r = 16 * r + w := @if_pos _ (Classical.propDecidable _) q _ _ _
theorem oth_l {Z : Nat → Int} {l : Int} {h w r : Nat} (q : ¬ hi Z l r) : oth Z l h w r = 16 * h + r := @if_neg _ (Classical.propDecidable _) q _ _ _
section
variable (X Y Z : Nat → Int) (n : Nat) (l : Int)
/-- a crossing goes on, and comes -/
noncomputable def cN (x : Nat) : Option Nat := @ite _ (hi Z l (x / 16) ∧ ¬ hi Z l (x % 16)) (Classical.propDecidable _) ((rr X Y n (x % 16) (x / 16)).map (oth Z l (x / 16) (x % 16))) none
noncomputable def cB (x : Nat) : Option Nat := @ite _ (hi Z l (x / 16) ∧ ¬ hi Z l (x % 16)) (Classical.propDecidable _) ((rr X Y n (x / 16) (x % 16)).map (oth Z l (x / 16) (x % 16))) none
def cS (x : Nat) : Prop := (hi Z l (x / 16) ∧ ¬ hi Z l (x % 16)) ∧ ((∃ r, rr X Y n (x / 16) (x % 16) = some r) ∨ ∃ r, rr X Y n (x % 16) (x / 16) = some r)
end
section
variable {X Y Z : Nat → Int} {n : Nat} {l : Int}
theorem cN_eq {x : Nat} (h : hi Z l (x / 16) ∧ ¬ hi Z l (x % 16)) : cN X Y Z n l x = (rr X Y n (x % 16) (x / 16)).map (oth Z l (x / 16) (x % 16)) := @if_pos _ (Classical.propDecidable _) h _ _ _
theorem cB_eq {x : Nat} (h : hi Z l (x / 16) ∧ ¬ hi Z l (x % 16)) : cB X Y Z n l x = (rr X Y n (x / 16) (x % 16)).map (oth Z l (x / 16) (x % 16)) := @if_pos _ (Classical.propDecidable _) h _ _ _
theorem cN_p {x y : Nat} (h : cN X Y Z n l x = some y) : (hi Z l (x / 16) ∧ ¬ hi Z l (x % 16)) ∧ ∃ r, rr X Y n (x % 16) (x / 16) = some r ∧ y = oth Z l (x / 16) (x % 16) r := by
  by_cases q : hi Z l (x / 16) ∧ ¬ hi Z l (x % 16)
  · rw [cN_eq q] at h
    obtain ⟨r, h1, h2⟩ := Option.map_eq_some_iff.mp h
    exact ⟨q, r, h1, h2.symm⟩
  · have : cN X Y Z n l x = none := @if_neg _ (Classical.propDecidable _) q _ _ _
    rw [this] at h; cases h
theorem cB_p {x y : Nat} (h : cB X Y Z n l x = some y) : (hi Z l (x / 16) ∧ ¬ hi Z l (x % 16)) ∧ ∃ r, rr X Y n (x / 16) (x % 16) = some r ∧ y = oth Z l (x / 16) (x % 16) r := by
  by_cases q : hi Z l (x / 16) ∧ ¬ hi Z l (x % 16)
  · rw [cB_eq q] at h
    obtain ⟨r, h1, h2⟩ := Option.map_eq_some_iff.mp h
    exact ⟨q, r, h1, h2.symm⟩
  · have : cB X Y Z n l x = none := @if_neg _ (Classical.propDecidable _) q _ _ _
    rw [this] at h; cases h
theorem cNB (ho : ge_ok X Y n) {x y : Nat} (h : cN X Y Z n l x = some y) : cB X Y Z n l y = some x := by
  have n16 := ho.1
  obtain ⟨⟨q1, q2⟩, r, r1, rfl⟩ := cN_p h
  obtain ⟨b1, b2, b3⟩ := rr_lt r1
  have e : 16 * (x / 16) + x % 16 = x := by omega
  by_cases k : hi Z l r
  · rw [oth_h k]
    have d1 : (16 * r + x % 16) / 16 = r := by omega
    have d2 : (16 * r + x % 16) % 16 = x % 16 := by omega
    rw [cB_eq (by rw [d1, d2]; exact ⟨k, q2⟩), d1, d2, rr_rot (rr_rot r1), Option.map_some, oth_h q1, e]
  · rw [oth_l k]
    have d1 : (16 * (x / 16) + r) / 16 = x / 16 := by omega
    have d2 : (16 * (x / 16) + r) % 16 = r := by omega
    rw [cB_eq (by rw [d1, d2]; exact ⟨q1, k⟩), d1, d2, rr_rot r1, Option.map_some, oth_l q2, e]
theorem cBN (ho : ge_ok X Y n) {x y : Nat} (h : cB X Y Z n l x = some y) : cN X Y Z n l y = some x := by
  have n16 := ho.1
  obtain ⟨⟨q1, q2⟩, r, r1, rfl⟩ := cB_p h
  obtain ⟨b1, b2, b3⟩ := rr_lt r1
  have e : 16 * (x / 16) + x % 16 = x := by omega
  by_cases k : hi Z l r
  · rw [oth_h k]
    have d1 : (16 * r + x % 16) / 16 = r := by omega
    have d2 : (16 * r + x % 16) % 16 = x % 16 := by omega
    rw [cN_eq (by rw [d1, d2]; exact ⟨k, q2⟩), d1, d2, rr_rot r1, Option.map_some, oth_h q1, e]
  · rw [oth_l k]
    have d1 : (16 * (x / 16) + r) / 16 = x / 16 := by omega
    have d2 : (16 * (x / 16) + r) % 16 = r := by omega
    rw [cN_eq (by rw [d1, d2]; exact ⟨q1, k⟩), d1, d2, rr_rot (rr_rot r1), Option.map_some, oth_l q2, e]
theorem c_inv (ho : ge_ok X Y n) : ∀ x y, cN X Y Z n l x = some y ↔ cB X Y Z n l y = some x := fun _ _ => ⟨cNB ho, cBN ho⟩
theorem cN_S (ho : ge_ok X Y n) {x y : Nat} (h : cN X Y Z n l x = some y) : cS X Y Z n l y := by
  obtain ⟨q, r, r1, -⟩ := cB_p (cNB ho h)
  exact ⟨q, Or.inl ⟨r, r1⟩⟩
theorem cB_S (ho : ge_ok X Y n) {x y : Nat} (h : cB X Y Z n l x = some y) : cS X Y Z n l y := by
  obtain ⟨q, r, r1, -⟩ := cN_p (cBN ho h)
  exact ⟨q, Or.inr ⟨r, r1⟩⟩
theorem cS_lt (ho : ge_ok X Y n) {x : Nat} (h : cS X Y Z n l x) : x < 256 ∧ x / 16 < n ∧ x % 16 < n ∧ x / 16 ≠ x % 16 := by
  have n16 := ho.1
  have ne : x / 16 ≠ x % 16 := fun e => h.1.2 (by rw [← e]; exact h.1.1)
  rcases h.2 with ⟨r, r1⟩ | ⟨r, r1⟩
  · obtain ⟨b1, b2, b3⟩ := rr_lt r1; omega
  · obtain ⟨b1, b2, b3⟩ := rr_lt r1; omega
/-- numbers of the pairs u < v -/
def px_i (u v : Nat) : Nat := v * (v - 1) / 2 + u
def px_t : List Nat := (List.range 16).flatMap (fun v => (List.range v).map (fun u => 16 * u + v))
theorem px_ok : ∀ v, v < 16 → ∀ u, u < v → px_i u v < 120 ∧ px_t[px_i u v]? = some (16 * u + v) := by decide +kernel
/-- the edge of a crossing: the lesser spot first -/
def ce (x : Nat) : Nat := if x / 16 < x % 16 then 16 * (x / 16) + x % 16 else 16 * (x % 16) + x / 16
def cx (x : Nat) : Nat := if x / 16 < x % 16 then px_i (x / 16) (x % 16) else px_i (x % 16) (x / 16)
theorem cx_lt (ho : ge_ok X Y n) {x : Nat} (h : cS X Y Z n l x) : cx x < 120 := by
  obtain ⟨b1, b2, b3, b4⟩ := cS_lt ho h
  have n16 := ho.1
  unfold cx
  split
  · exact (px_ok _ (by omega) _ (by omega)).1
  · exact (px_ok _ (by omega) _ (by omega)).1
theorem cx_ce (ho : ge_ok X Y n) {x : Nat} (h : cS X Y Z n l x) : px_t[cx x]? = some (ce x) := by
  obtain ⟨b1, b2, b3, b4⟩ := cS_lt ho h
  have n16 := ho.1
  unfold cx ce
  split
  · exact (px_ok _ (by omega) _ (by omega)).2
  · exact (px_ok _ (by omega) _ (by omega)).2
theorem ce_inj (ho : ge_ok X Y n) {x y : Nat} (h : cS X Y Z n l x) (h' : cS X Y Z n l y) (e : ce x = ce y) : x = y := by
  obtain ⟨b1, b2, b3, b4⟩ := cS_lt ho h
  obtain ⟨d1, d2, d3, d4⟩ := cS_lt ho h'
  have n16 := ho.1
  unfold ce at e
  by_cases p : x / 16 < x % 16 <;> by_cases q : y / 16 < y % 16 <;> simp only [p, q, if_true, if_false] at e
  · omega
  · exfalso
    have e1 : x / 16 = y % 16 := by omega
    exact h'.1.2 (by rw [← e1]; exact h.1.1)
  · exfalso
    have e1 : x / 16 = y % 16 := by omega
    exact h'.1.2 (by rw [← e1]; exact h.1.1)
  · omega
theorem cx_inj (ho : ge_ok X Y n) {x y : Nat} (h : cS X Y Z n l x) (h' : cS X Y Z n l y) (e : cx x = cx y) : x = y := by
  have a := cx_ce ho h
  rw [e, cx_ce ho h'] at a
  exact ce_inj ho h h' (Option.some.inj a).symm
theorem cN_is (ho : ge_ok X Y n) {x : Nat} (h : cS X Y Z n l x) : ∃ k, k < 120 ∧ cr_is (cN X Y Z n l) x k :=
  cr_ex (cr_injN (c_inv ho)) (fun _ _ q => cN_S ho q) (ix := cx) (fun _ q => cx_lt ho q) (fun _ _ q q' => cx_inj ho q q') h
theorem cB_is (ho : ge_ok X Y n) {x : Nat} (h : cS X Y Z n l x) : ∃ k, k < 120 ∧ cr_is (cB X Y Z n l) x k :=
  cr_ex (cr_injB (c_inv ho)) (fun _ _ q => cB_S ho q) (ix := cx) (fun _ q => cx_lt ho q) (fun _ _ q q' => cx_inj ho q q') h
end
/-! the contour of a crossing -/
section
variable (X Y Z : Nat → Int) (n : Nat) (l : Int)
noncomputable def bg (x : Nat) : Nat := Classical.epsilon (fun f => cr_beg (cB X Y Z n l) x f)
noncomputable def ln (x : Nat) : Nat := Classical.epsilon (fun m => cr_is (cN X Y Z n l) (bg X Y Z n l x) m)
/-- a list of contours: how many, where each begins, the crossings, which are rings -/
abbrev Ct : Type := Nat × (Nat → Nat) × (Nat → Nat) × (Nat → Prop)
noncomputable def ct_add (s : Ct) (x : Nat) : Ct := (s.1 + 1, fun k => if k = s.1 + 1 then s.2.1 s.1 + (ln X Y Z n l x + 1) else s.2.1 k,
  fun i => if i < s.2.1 s.1 then s.2.2.1 i else (cr_w (cN X Y Z n l) (i - s.2.1 s.1) (bg X Y Z n l x)).getD 0, fun k => if k = s.1 then cB X Y Z n l (bg X Y Z n l x) ≠ none else s.2.2.2 k)
def ct_T (s : Ct) (x : Nat) : Prop := ∃ i, i < s.2.1 s.1 ∧ s.2.2.1 i = x
/-- the crossing of an edge, as the class has it -/
noncomputable def hc (e : Nat) : Nat := @ite _ (hi Z l (e / 16)) (Classical.propDecidable _) e (16 * (e % 16) + e / 16)
noncomputable def ct : Nat → Ct
  | 0 => (0, fun _ => 0, fun _ => 0, fun _ => False)
  | e + 1 => @ite _ (e / 16 < e % 16 ∧ cS X Y Z n l (hc Z l e) ∧ ¬ ct_T (ct e) (hc Z l e)) (Classical.propDecidable _) (ct_add X Y Z n l (ct e) (hc Z l e)) (ct e)
end
section
variable {X Y Z : Nat → Int} {n : Nat} {l : Int}
theorem bg_ok (ho : ge_ok X Y n) {x : Nat} (h : cS X Y Z n l x) : cr_beg (cB X Y Z n l) x (bg X Y Z n l x) := by
  obtain ⟨k, -, hk⟩ := cB_is ho h
  exact Classical.epsilon_spec (cr_beg_ex hk)
theorem cr_w_S {F : Nat → Option Nat} {S : Nat → Prop} (hF : ∀ a b, F a = some b → S b) : ∀ (i : Nat) {x y : Nat}, S x → cr_w F i x = some y → S y := by
  intro i
  induction i with
  | zero => intro x y h e; cases e; exact h
  | succ i ih => intro x y h e; obtain ⟨z, z1, z2⟩ := cr_w_p e; exact hF _ _ z2
theorem bg_S (ho : ge_ok X Y n) {x : Nat} (h : cS X Y Z n l x) : cS X Y Z n l (bg X Y Z n l x) := by
  obtain ⟨k, -, k2⟩ := bg_ok ho h
  rcases k2 with ⟨y, y1, -, e⟩ | ⟨y, y1, -, e⟩
  · rw [e]; exact cr_w_S (fun _ _ q => cB_S ho q) k h y1
  · rw [e]; exact h
theorem ln_ok (ho : ge_ok X Y n) {x : Nat} (h : cS X Y Z n l x) : cr_is (cN X Y Z n l) (bg X Y Z n l x) (ln X Y Z n l x) := by
  obtain ⟨k, -, hk⟩ := cN_is ho (bg_S ho h)
  exact Classical.epsilon_spec (p := fun m => cr_is (cN X Y Z n l) (bg X Y Z n l x) m) ⟨k, hk⟩
/-- what holds of the list as it grows -/
def ct_ok (X Y Z : Nat → Int) (n : Nat) (l : Int) (s : Ct) : Prop := s.2.1 0 = 0 ∧
  (∀ k, k < s.1 → ∃ m, cr_is (cN X Y Z n l) (s.2.2.1 (s.2.1 k)) m ∧ s.2.1 (k + 1) = s.2.1 k + (m + 1) ∧ (∀ j, j ≤ m → cr_w (cN X Y Z n l) j (s.2.2.1 (s.2.1 k)) = some (s.2.2.1 (s.2.1 k + j))) ∧ (s.2.2.2 k ↔ cB X Y Z n l (s.2.2.1 (s.2.1 k)) ≠ none)) ∧
  (∀ i j, i < j → j < s.2.1 s.1 → s.2.2.1 i ≠ s.2.2.1 j) ∧ (∀ i, i < s.2.1 s.1 → cS X Y Z n l (s.2.2.1 i)) ∧ cr_cl (cN X Y Z n l) (ct_T s)
theorem ct_mono {s : Ct} (h : ct_ok X Y Z n l s) : ∀ (d k : Nat), k + d ≤ s.1 → s.2.1 k + d ≤ s.2.1 (k + d) := by
  intro d
  induction d with
  | zero => intro k _; exact Nat.le_refl _
  | succ d ih =>
    intro k hk
    have a := ih k (by omega)
    obtain ⟨m, -, e, -⟩ := h.2.1 (k + d) (by omega)
    rw [show k + (d + 1) = (k + d) + 1 by omega, e]
    omega
theorem ct_le {s : Ct} (h : ct_ok X Y Z n l s) {k k' : Nat} (hk : k ≤ k') (hk' : k' ≤ s.1) : s.2.1 k ≤ s.2.1 k' := by
  have := ct_mono h (k' - k) k (by omega)
  rw [show k + (k' - k) = k' by omega] at this
  omega
theorem ct_120 (ho : ge_ok X Y n) {s : Ct} (h : ct_ok X Y Z n l s) : s.2.1 s.1 ≤ 120 ∧ s.1 ≤ s.2.1 s.1 := by
  constructor
  · exact cr_php 120 _ (fun i => cx (s.2.2.1 i)) (fun i hi => cx_lt ho (h.2.2.2.1 i hi)) (fun i j hij hj e => h.2.2.1 i j hij hj (cx_inj ho (h.2.2.2.1 i (by omega)) (h.2.2.2.1 j hj) e))
  · have := ct_mono h s.1 0 (by omega)
    rw [Nat.zero_add] at this
    omega
theorem ct_add_ok (ho : ge_ok X Y n) {s : Ct} {x : Nat} (h : ct_ok X Y Z n l s) (hx : cS X Y Z n l x) (nt : ¬ ct_T s x) : ct_ok X Y Z n l (ct_add X Y Z n l s x) ∧ ∀ z, ct_T (ct_add X Y Z n l s x) z ↔ (ct_T s z ∨ ∃ j, j ≤ ln X Y Z n l x ∧ cr_w (cN X Y Z n l) j (bg X Y Z n l x) = some z) := by
  obtain ⟨c, O, F, G⟩ := s
  obtain ⟨h1, h2, h3, h4, h5⟩ := id h
  have hb := bg_ok ho hx
  have hl := ln_ok ho hx
  have hm := fun k (hk : k ≤ c) => ct_le h hk (Nat.le_refl c)
  try dsimp only at h1 h2 h3 h4 h5 hm
  have out : ¬ ct_T (c, O, F, G) (bg X Y Z n l x) := cr_beg_out (c_inv ho) h5 nt hb
  -- the walk, place by place
  have wk : ∀ j, j ≤ ln X Y Z n l x → ∃ y, cr_w (cN X Y Z n l) j (bg X Y Z n l x) = some y := fun j hj => by
    obtain ⟨⟨y, y1, -⟩, -⟩ := hl
    have : ln X Y Z n l x = j + (ln X Y Z n l x - j) := by omega
    rw [this] at y1
    exact cr_w_le _ _ y1
  generalize hm9 : ln X Y Z n l x = m at *
  generalize hf9 : bg X Y Z n l x = f at *
  have eO : ∀ k, k ≤ c → (ct_add X Y Z n l (c, O, F, G) x).2.1 k = O k := fun k hk => if_neg (by omega)
  have eO1 : (ct_add X Y Z n l (c, O, F, G) x).2.1 (c + 1) = O c + (m + 1) := by rw [← hm9]; exact if_pos rfl
  have eF : ∀ i, i < O c → (ct_add X Y Z n l (c, O, F, G) x).2.2.1 i = F i := fun i hi => if_pos hi
  have eF1 : ∀ j y, cr_w (cN X Y Z n l) j f = some y → (ct_add X Y Z n l (c, O, F, G) x).2.2.1 (O c + j) = y := fun j y e => by
    have : (ct_add X Y Z n l (c, O, F, G) x).2.2.1 (O c + j) = (cr_w (cN X Y Z n l) ((O c + j) - O c) (bg X Y Z n l x)).getD 0 := if_neg (show ¬ (O c + j < O c) by omega)
    rw [this, hf9, Nat.add_sub_cancel_left, e]; rfl
  have e1 : (ct_add X Y Z n l (c, O, F, G) x).1 = c + 1 := rfl
  have eT : ∀ z, ct_T (ct_add X Y Z n l (c, O, F, G) x) z ↔ (ct_T (c, O, F, G) z ∨ ∃ j, j ≤ m ∧ cr_w (cN X Y Z n l) j f = some z) := fun z => by
    unfold ct_T
    rw [e1, eO1]
    constructor
    · rintro ⟨i, i1, i2⟩
      rcases Nat.lt_or_ge i (O c) with q | q
      · rw [eF i q] at i2; exact Or.inl ⟨i, q, i2⟩
      · obtain ⟨j, rfl⟩ : ∃ j, i = O c + j := ⟨i - O c, by omega⟩
        obtain ⟨y, hy⟩ := wk j (by omega)
        rw [eF1 j y hy] at i2
        exact Or.inr ⟨j, by omega, by rw [hy, i2]⟩
    · rintro (⟨i, i1, i2⟩ | ⟨j, j1, j2⟩)
      · exact ⟨i, by dsimp only at i1; omega, by rw [eF i i1]; exact i2⟩
      · exact ⟨O c + j, by omega, eF1 j z j2⟩
  have outw : ∀ j y, cr_w (cN X Y Z n l) j f = some y → ¬ ct_T (c, O, F, G) y := fun j y e q => out ((cr_cl_w h5 j e).mpr q)
  refine ⟨⟨?_, fun k hk => ?_, fun i j hij hj => ?_, fun i hi => ?_, ?_⟩, eT⟩
  · rw [eO 0 (by omega)]; exact h1
  · rw [e1] at hk
    by_cases e : k = c
    · subst e
      refine ⟨m, ?_⟩
      have e0 : (ct_add X Y Z n l (k, O, F, G) x).2.2.1 (O k) = f := by have := eF1 0 f rfl; rw [Nat.add_zero] at this; exact this
      rw [eO k (Nat.le_refl _), eO1, e0]
      refine ⟨hl, rfl, fun j hj => ?_, ?_⟩
      · obtain ⟨y, hy⟩ := wk j hj
        rw [eF1 j y hy]; exact hy
      · have : (ct_add X Y Z n l (k, O, F, G) x).2.2.2 k = (cB X Y Z n l (bg X Y Z n l x) ≠ none) := if_pos rfl
        rw [this, hf9]
    · have hk' : k < c := by omega
      obtain ⟨m', a1, a2, a3, a4⟩ := h2 k hk'
      have b1 := hm (k + 1) (by omega)
      refine ⟨m', ?_⟩
      rw [eO k (by omega), eO (k + 1) (by omega), eF (O k) (by omega)]
      refine ⟨a1, a2, fun j hj => ?_, ?_⟩
      · rw [eF (O k + j) (by omega)]; exact a3 j hj
      · have : (ct_add X Y Z n l (c, O, F, G) x).2.2.2 k = G k := if_neg e
        rw [this]; exact a4
  · rw [e1, eO1] at hj
    rcases Nat.lt_or_ge j (O c) with q | q
    · rw [eF i (by omega), eF j q]; exact h3 i j hij q
    · obtain ⟨j', rfl⟩ : ∃ j', j = O c + j' := ⟨j - O c, by omega⟩
      obtain ⟨y, hy⟩ := wk j' (by omega)
      rw [eF1 j' y hy]
      rcases Nat.lt_or_ge i (O c) with q' | q'
      · rw [eF i q']
        intro e
        exact outw j' y hy ⟨i, q', e⟩
      · obtain ⟨i', rfl⟩ : ∃ i', i = O c + i' := ⟨i - O c, by omega⟩
        obtain ⟨y', hy'⟩ := wk i' (by omega)
        rw [eF1 i' y' hy']
        intro e
        subst e
        exact cr_new (cr_injN (c_inv ho)) hl.2 (show i' < j' by omega) (by omega) hy' hy
  · rw [e1, eO1] at hi
    rcases Nat.lt_or_ge i (O c) with q | q
    · rw [eF i q]; exact h4 i q
    · obtain ⟨j, rfl⟩ : ∃ j, i = O c + j := ⟨i - O c, by omega⟩
      obtain ⟨y, hy⟩ := wk j (by omega)
      rw [eF1 j y hy]
      exact cr_w_S (fun _ _ q => cN_S ho q) j (by rw [← hf9]; exact bg_S ho hx) hy
  · have := cr_cl_add (c_inv ho) h5 hb hl
    intro a b e
    rw [eT a, eT b]
    exact this a b e
theorem ct_all (ho : ge_ok X Y n) : ∀ e, ct_ok X Y Z n l (ct X Y Z n l e) := by
  intro e
  induction e with
  | zero => exact ⟨rfl, fun k hk => absurd hk (Nat.not_lt_zero _), fun i j _ hj => absurd hj (Nat.not_lt_zero _), fun i hi => absurd hi (Nat.not_lt_zero _), fun x y _ => ⟨fun ⟨i, i1, _⟩ => absurd i1 (Nat.not_lt_zero _), fun ⟨i, i1, _⟩ => absurd i1 (Nat.not_lt_zero _)⟩⟩
  | succ e ih =>
    by_cases q : e / 16 < e % 16 ∧ cS X Y Z n l (hc Z l e) ∧ ¬ ct_T (ct X Y Z n l e) (hc Z l e)
    · have : ct X Y Z n l (e + 1) = ct_add X Y Z n l (ct X Y Z n l e) (hc Z l e) := @if_pos _ (Classical.propDecidable _) q _ _ _
      rw [this]
      exact (ct_add_ok ho ih q.2.1 q.2.2).1
    · have : ct X Y Z n l (e + 1) = ct X Y Z n l e := @if_neg _ (Classical.propDecidable _) q _ _ _
      rw [this]; exact ih
theorem ct_s1 {e : Nat} (q : e / 16 < e % 16 ∧ cS X Y Z n l (hc Z l e) ∧ ¬ ct_T (ct X Y Z n l e) (hc Z l e)) : ct X Y Z n l (e + 1) = ct_add X Y Z n l (ct X Y Z n l e) (hc Z l e) := @if_pos _ (Classical.propDecidable _) q _ _ _
theorem ct_s0 {e : Nat} (q : ¬ (e / 16 < e % 16 ∧ cS X Y Z n l (hc Z l e) ∧ ¬ ct_T (ct X Y Z n l e) (hc Z l e))) : ct X Y Z n l (e + 1) = ct X Y Z n l e := @if_neg _ (Classical.propDecidable _) q _ _ _
theorem ct_sk {e : Nat} : ∀ d, (∀ x, e ≤ x → x < e + d → ¬ (x / 16 < x % 16 ∧ cS X Y Z n l (hc Z l x))) → ct X Y Z n l (e + d) = ct X Y Z n l e := by
  intro d
  induction d with
  | zero => intro _; rfl
  | succ d ih =>
    intro h
    show ct X Y Z n l ((e + d) + 1) = _
    rw [ct_s0 (fun q => h (e + d) (by omega) (by omega) ⟨q.1, q.2.1⟩)]
    exact ih (fun x h1 h2 => h x h1 (by omega))
theorem ct_skip {e e' : Nat} (he : e ≤ e') (h : ∀ x, e ≤ x → x < e' → ¬ (x / 16 < x % 16 ∧ cS X Y Z n l (hc Z l x))) : ct X Y Z n l e' = ct X Y Z n l e := by
  obtain ⟨d, rfl⟩ : ∃ d, e' = e + d := ⟨e' - e, by omega⟩
  exact ct_sk d h
end
end
section
/-! The class traces a level. -/
def on (o : Option Nat) : Int32 := match o with
  | none => -1
  | some y => nI y
theorem on_m1 {o : Option Nat} (h : ∀ y, o = some y → y < 1000) : on o = -1 ↔ o = none := by
  cases o with
  | none => exact ⟨fun _ => rfl, fun _ => rfl⟩
  | some y =>
    refine ⟨fun e => ?_, fun e => by cases e⟩
    have hy := h y rfl
    have e : nI y = -1 := e
    have : (nI y).toInt = (-1 : Int32).toInt := by rw [e]
    rw [nI_toInt (by omega)] at this
    have h2 : (-1 : Int32).toInt = -1 := by decide
    rw [h2] at this
    omega
theorem srt {p q r : Nat} (h1 : p ≠ q) (h2 : p ≠ r) (h3 : q ≠ r) : ∃ a b c, a < b ∧ b < c ∧ ge_pm a b c p q r ∧ ge_pm p q r a b c := by
  unfold ge_pm
  rcases Nat.lt_or_gt_of_ne h1 with l1 | l1 <;> rcases Nat.lt_or_gt_of_ne h2 with l2 | l2 <;> rcases Nat.lt_or_gt_of_ne h3 with l3 | l3
  · exact ⟨p, q, r, l1, l3, by simp, by simp⟩
  · exact ⟨p, r, q, l2, l3, by simp, by simp⟩
  · omega
  · exact ⟨r, p, q, l2, l1, by simp, by simp⟩
  · exact ⟨q, p, r, l1, l2, by simp, by simp⟩
  · omega
  · exact ⟨q, r, p, l3, l2, by simp, by simp⟩
  · exact ⟨r, q, p, l3, l1, by simp, by simp⟩
theorem rt_R {X Y : Nat → Int} {n : Nat} (ho : ge_ok X Y n) {p q r : Nat} : rt X Y (tl X Y n 4096) p q r ↔ ge_R X Y n p q r := by
  constructor
  · intro h; exact ⟨rt_T ho h, h.1⟩
  · rintro ⟨t, s⟩
    have n16 := ho.1
    obtain ⟨e1, e2, e3⟩ := ge_t_ne t.2.2.2.1
    obtain ⟨a, b, c, h1, h2, h3, h4⟩ := srt e1 e2 e3
    have T := ge_pm_T t h4
    have tr := ge_tri_of ho T h1 h2
    have := tr.2.2.1
    have k1 : (256 * a + 16 * b + c) / 256 = a := by omega
    have k2 : (256 * a + 16 * b + c) / 16 % 16 = b := by omega
    have k3 : (256 * a + 16 * b + c) % 16 = c := by omega
    exact ⟨s, 256 * a + 16 * b + c, tl_mem.mpr ⟨by omega, by rw [k1, k2, k3]; exact tr⟩, by rw [k1, k2, k3]; exact h3⟩
theorem mC_rr {X Y : Nat → Int} {n : Nat} {g : St} (ho : ge_ok X Y n) (h : mC X Y (tl X Y n 4096) g) {p q : Nat} (hp : p < 16) (hq : q < 16) : g 9 (16 * p + q) = on (rr X Y n p q) := by
  cases e : rr X Y n p q with
  | none => exact h.2.2.2 p q hp hq (fun r k => rr_none.mp e r ((rt_R ho).mp k))
  | some r => exact h.2.2.1 p q r ((rt_R ho).mpr (rr_some.mp e))
/-- high and low, as the class holds them -/
def hC (Z : Nat → Int) (n : Nat) (l : Int) (g : St) : Prop := ∀ s, s < n → (hi Z l s → g 10 s = 1) ∧ (¬ hi Z l s → g 10 s = 0)
def lC (s : Ct) (g : St) : Prop := g 3 5 = nI s.1 ∧ (∀ k, k ≤ s.1 → g 12 k = nI (s.2.1 k)) ∧ (∀ i, i < s.2.1 s.1 → g 11 i = nI (s.2.2.1 i)) ∧ (∀ k, k < s.1 → (s.2.2.2 k → g 13 k = 1) ∧ (¬ s.2.2.2 k → g 13 k = 0)) ∧
  ∀ x, x < 256 → (ct_T s x → g 14 x = 1) ∧ (¬ ct_T s x → g 14 x = 0)
theorem pk_16d {x : Nat} (h : x < 1000) : nI x / 16 = nI (x / 16) := by
  rw [show (16 : Int32) = nI 16 from rfl, pk_div (by omega) (by omega) (by omega)]
theorem pk_16r {x : Nat} (h : x < 1000) : nI x - nI x / 16 * 16 = nI (x % 16) := by
  rw [show (16 : Int32) = nI 16 from rfl, pk_rem (by omega) (by omega) (by omega)]
section
variable {g : St} {n : Nat} {X Y Z : Nat → Int} {l : Int}
theorem li_other {h w : Nat} {o : Option Nat} {post : Int32 → St → Prop} (ho : ge_ok X Y n) (hH : hC Z n l g) (hh : h < 16) (hw : w < 16) (hr : ∀ r, o = some r → r < n) (hp : post (on (o.map (oth Z l h w))) g) : wp_li_otherPair (nI h) (nI w) (on o) g post := by
  have n16 := ho.1
  unfold wp_li_otherPair
  try dsimp only
  have z := on_m1 (o := o) (fun y hy => by have := hr y hy; omega)
  cases o with
  | none => exact ⟨fun k => absurd rfl k, fun _ => hp⟩
  | some r =>
    have rn := hr r rfl
    refine ⟨fun _ => ⟨vp_in_nI (by omega) (by omega), ?_⟩, fun k => by have := z.mp k; cases this⟩
    show ((g 10 (ix (nI r))) = 0 → _) ∧ (¬ ((g 10 (ix (nI r))) = 0) → _)
    rw [ix_nI (by omega)]
    by_cases q : hi Z l r
    · have e := (hH r rn).1 q
      rw [e]
      refine ⟨fun k => absurd k (by decide), fun _ => ?_⟩
      show post (16 * nI r + nI w) g
      rw [pk16, ← oth_h q]; exact hp
    · have e := (hH r rn).2 q
      rw [e]
      refine ⟨fun _ => ?_, fun k => absurd rfl k⟩
      show post (16 * nI h + nI r) g
      rw [pk16, ← oth_l q]; exact hp
theorem li_behind {x : Nat} {post : Int32 → St → Prop} (ho : ge_ok X Y n) (hM : mC X Y (tl X Y n 4096) g) (hH : hC Z n l g) (hx : cS X Y Z n l x) (hp : post (on (cN X Y Z n l x)) g) : wp_li_behind (nI x) g post := by
  obtain ⟨x1, x2, x3, -⟩ := cS_lt ho hx
  have n16 := ho.1
  unfold wp_li_behind wp_sc_highOf wp_sc_lowOf wp_me_thirdRightOf
  try dsimp only
  rw [pk_16r (by omega), pk_16d (by omega), pk16, ix_nI (by omega), mC_rr ho hM (by omega) (by omega)]
  refine ⟨vp_in_nI (by omega) (by omega), ?_⟩
  rw [cN_eq hx.1] at hp
  exact li_other ho hH (by omega) (by omega) (fun r hr => (rr_lt hr).2.2) hp
theorem li_before {x : Nat} {post : Int32 → St → Prop} (ho : ge_ok X Y n) (hM : mC X Y (tl X Y n 4096) g) (hH : hC Z n l g) (hx : cS X Y Z n l x) (hp : post (on (cB X Y Z n l x)) g) : wp_li_before (nI x) g post := by
  obtain ⟨x1, x2, x3, -⟩ := cS_lt ho hx
  have n16 := ho.1
  unfold wp_li_before wp_sc_highOf wp_sc_lowOf wp_me_thirdRightOf
  try dsimp only
  rw [pk_16r (by omega), pk_16d (by omega), pk16, ix_nI (by omega), mC_rr ho hM (by omega) (by omega)]
  refine ⟨vp_in_nI (by omega) (by omega), ?_⟩
  rw [cB_eq hx.1] at hp
  exact li_other ho hH (by omega) (by omega) (fun r hr => (rr_lt hr).2.2) hp
theorem li_begin {x : Nat} {post : Int32 → St → Prop} (ho : ge_ok X Y n) (hM : mC X Y (tl X Y n 4096) g) (hH : hC Z n l g) (hx : cS X Y Z n l x) (hp : post (nI (bg X Y Z n l x)) g) : wp_li_beginning (nI x) g post := by
  obtain ⟨k, k120, hk⟩ := cB_is ho hx
  have hb := bg_ok ho hx
  have x1 := (cS_lt ho hx).1
  unfold wp_li_beginning
  try dsimp only
  have loop : ∀ m i y, i + m = k → cr_w (cB X Y Z n l) i x = some y → lp_li_beginning_L5 (m + 1) (nI x) (nI y) (nI i) g (fun w4 g3 => (post w4 g3)) post := by
    intro m
    induction m with
    | zero =>
      intro i y hi hy
      have : i = k := by omega
      subst this
      have ys : cS X Y Z n l y := cr_w_S (fun _ _ q => cB_S ho q) i hx hy
      have y1 := (cS_lt ho ys).1
      unfold lp_li_beginning_L5
      try dsimp only
      refine ⟨fun q => ?_, fun _ => ?_⟩
      · rw [show (120 : Int32) = nI 120 from rfl, nI_leI (by omega) (by omega)] at q; omega
      · refine li_before ho hM hH ys ?_
        obtain ⟨⟨y', e1, e2⟩, -⟩ := id hk
        rw [hy] at e1
        cases e1
        rcases e2 with e2 | e2
        · rw [e2]
          have : bg X Y Z n l x = y := cr_beg_u hb ⟨i, hk, Or.inl ⟨y, hy, e2, rfl⟩⟩
          rw [this] at hp
          exact ⟨fun q => absurd rfl q, fun _ => hp⟩
        · rw [e2]
          have : bg X Y Z n l x = x := cr_beg_u hb ⟨i, hk, Or.inr ⟨y, hy, e2, rfl⟩⟩
          rw [this] at hp
          refine ⟨fun _ => ⟨fun q => absurd rfl q, fun _ => hp⟩, fun q => ?_⟩
          have := (on_m1 (o := some x) (fun z hz => by cases hz; omega)).mp q
          cases this
    | succ m ih =>
      intro i y hi hy
      have ys : cS X Y Z n l y := cr_w_S (fun _ _ q => cB_S ho q) i hx hy
      have y1 := (cS_lt ho ys).1
      unfold lp_li_beginning_L5
      try dsimp only
      refine ⟨fun q => ?_, fun _ => ?_⟩
      · rw [show (120 : Int32) = nI 120 from rfl, nI_leI (by omega) (by omega)] at q; omega
      · refine li_before ho hM hH ys ?_
        obtain ⟨⟨ye, e1, -⟩, nb⟩ := id hk
        rw [show k = (i + 1) + m by omega] at e1
        obtain ⟨z, hz⟩ := cr_w_le _ _ e1
        have hz' : cB X Y Z n l y = some z := by rw [cr_w_s hy] at hz; exact hz
        have zs := cB_S ho hz'
        have z1 := (cS_lt ho zs).1
        rw [hz']
        refine ⟨fun _ => ⟨fun _ => ?_, fun q => ?_⟩, fun q => ?_⟩
        · rw [nI_1]; exact ih (i + 1) z (by omega) hz
        · have : z = x := (nI_eq (by omega) (by omega)).mp q
          rw [this] at hz
          exact absurd hz (nb (i + 1) (by omega) (by omega))
        · have := (on_m1 (o := some z) (fun w hw => by cases hw; omega)).mp q
          cases this
  exact ⟨k + 1, loop k 0 x (by omega) rfl⟩
/-- one contour more, or none if it is there already -/
theorem li_from {s : Ct} {x : Nat} {post : St → Prop} (ho : ge_ok X Y n) (hM : mC X Y (tl X Y n 4096) g) (hH : hC Z n l g) (hs : ct_ok X Y Z n l s) (hl : lC s g) (hx : cS X Y Z n l x)
    (h1 : ct_T s x → post g) (h2 : ¬ ct_T s x → ∀ g', lC (ct_add X Y Z n l s x) g' → fr [3, 11, 12, 13, 14] g g' → post g') : wp_li_traceFrom (nI x) g post := by
  have x1 := (cS_lt ho hx).1
  obtain ⟨c1, c2⟩ := ct_120 ho hs
  obtain ⟨q1, q2, q3, q4, q5⟩ := id hl
  unfold wp_li_traceFrom
  try dsimp only
  rw [ix_nI (by omega)]
  refine ⟨vp_in_nI (by omega) (by omega), fun k => ?_, fun k => ?_⟩
  · exact h1 (Classical.byContradiction fun nt => k ((q5 x x1).2 nt))
  · have nt : ¬ ct_T s x := fun t => by rw [(q5 x x1).1 t] at k; exact absurd k (by decide)
    obtain ⟨aok, aT⟩ := ct_add_ok ho hs hx nt
    obtain ⟨a1, a2⟩ := ct_120 ho aok
    obtain ⟨c, O, F, G⟩ := s
    have e1 : (ct_add X Y Z n l (c, O, F, G) x).1 = c + 1 := rfl
    have eO1 : (ct_add X Y Z n l (c, O, F, G) x).2.1 (c + 1) = O c + (ln X Y Z n l x + 1) := if_pos rfl
    rw [e1, eO1] at a1 a2
    try dsimp only at q1 q2 q3 q4 q5 c1 c2
    have hb := bg_ok ho hx
    have hm := ln_ok ho hx
    have fS := bg_S ho hx
    have f1 := (cS_lt ho fS).1
    have out : ¬ ct_T (c, O, F, G) (bg X Y Z n l x) := cr_beg_out (c_inv ho) hs.2.2.2.2 nt hb
    generalize hm9 : ln X Y Z n l x = m at *
    generalize hf9 : bg X Y Z n l x = f at *
    have outw : ∀ j y, cr_w (cN X Y Z n l) j f = some y → ¬ ct_T (c, O, F, G) y := fun j y e q => out ((cr_cl_w hs.2.2.2.2 j e).mpr q)
    rw [q1]
    have c120 : nI c < 120 := by rw [show (120 : Int32) = nI 120 from rfl, nI_ltI (by omega) (by omega)]; omega
    refine ⟨fun _ => ?_, fun k => absurd c120 k⟩
    refine li_begin ho hM hH hx ?_
    rw [hf9]
    refine li_before ho hM hH fS ?_
    -- behind the ring's flag
    have J : ∀ b : Int32, ((b = 1 ∧ cB X Y Z n l f ≠ none) ∨ (b = 0 ∧ cB X Y Z n l f = none)) → jn_li_traceFrom_J49 (nI f) (nI c) b g post := by
      intro b hbb
      unfold jn_li_traceFrom_J49
      try dsimp only
      rw [ix_nI (by omega)]
      refine ⟨vp_in_nI (by omega) (by omega), fun g5 e5 => ?_⟩
      have vb : vp_nar .boolean b = b := by rcases hbb with ⟨rfl, -⟩ | ⟨rfl, -⟩; exact vn_1; exact vn_0
      rw [vb] at e5
      have g5c : g5 3 5 = nI c := by rw [e5, gp_n (by decide)]; exact q1
      have g5O : g5 12 c = nI (O c) := by rw [e5, gp_n (by decide)]; exact q2 c (Nat.le_refl _)
      rw [g5c, ix_nI (by omega), g5O]
      refine ⟨vp_in_nI (by omega) (by omega), ?_⟩
      -- the end
      have fin : ∀ g10 : St, (∀ k, k ≠ 11 → k ≠ 14 → g10 k = g5 k) → (∀ i, i < O c → g10 11 i = g 11 i) → (∀ j y, j ≤ m → cr_w (cN X Y Z n l) j f = some y → g10 11 (O c + j) = nI y) →
          (∀ z, z < 256 → (∃ j, j ≤ m ∧ cr_w (cN X Y Z n l) j f = some z) → g10 14 z = 1) → (∀ z, z < 256 → (¬ ∃ j, j ≤ m ∧ cr_w (cN X Y Z n l) j f = some z) → g10 14 z = g 14 z) → jn_li_traceFrom_J120 (nI (O c + (m + 1))) g10 post := by
        intro g10 k1 k2 k3 k4 k5
        unfold jn_li_traceFrom_J120
        try dsimp only
        intro g12 e12
        have e123 : g12 3 5 = nI (c + 1) := by rw [e12, gp_s, k1 3 (by decide) (by decide), g5c, nI_1]
        rw [e123, ix_nI (by omega)]
        refine ⟨vp_in_nI (by omega) (by omega), fun g13 e13 => ?_⟩
        refine h2 nt g13 ⟨?_, fun k hk => ?_, fun i hi => ?_, fun k hk => ?_, fun z hz => ?_⟩ (fun k hk => ?_)
        · rw [e13, gp_n (by decide), e123]; rfl
        · rw [e1] at hk
          by_cases e : k = c + 1
          · rw [e, eO1, e13]; exact gp_s
          · have : (ct_add X Y Z n l (c, O, F, G) x).2.1 k = O k := if_neg e
            rw [this, e13, gp_o e, e12, gp_n (by decide), k1 12 (by decide) (by decide), e5, gp_n (by decide)]
            exact q2 k (by omega)
        · rw [e1, eO1] at hi
          rw [e13, gp_n (by decide), e12, gp_n (by decide)]
          rcases Nat.lt_or_ge i (O c) with q | q
          · have : (ct_add X Y Z n l (c, O, F, G) x).2.2.1 i = F i := if_pos q
            rw [this, k2 i q]; exact q3 i q
          · obtain ⟨j, rfl⟩ : ∃ j, i = O c + j := ⟨i - O c, by omega⟩
            have : (ct_add X Y Z n l (c, O, F, G) x).2.2.1 (O c + j) = (cr_w (cN X Y Z n l) ((O c + j) - O c) (bg X Y Z n l x)).getD 0 := if_neg (show ¬ (O c + j < O c) by omega)
            obtain ⟨⟨ye, y1, -⟩, -⟩ := id hm
            rw [show m = j + (m - j) by omega] at y1
            obtain ⟨y, hy⟩ := cr_w_le _ _ y1
            rw [this, hf9, Nat.add_sub_cancel_left, hy, k3 j y (by omega) hy]; rfl
        · rw [e1] at hk
          rw [e13, gp_n (by decide), e12, gp_n (by decide), k1 13 (by decide) (by decide), e5]
          by_cases e : k = c
          · have : (ct_add X Y Z n l (c, O, F, G) x).2.2.2 k = (cB X Y Z n l (bg X Y Z n l x) ≠ none) := if_pos e
            rw [this, hf9, e, gp_s]
            rcases hbb with ⟨rfl, w⟩ | ⟨rfl, w⟩
            · exact ⟨fun _ => rfl, fun u => absurd w u⟩
            · exact ⟨fun u => absurd w u, fun _ => rfl⟩
          · have : (ct_add X Y Z n l (c, O, F, G) x).2.2.2 k = G k := if_neg e
            rw [this, gp_o e]
            exact q4 k (by omega)
        · rw [aT z, e13, gp_n (by decide), e12, gp_n (by decide)]
          constructor
          · rintro (t | t)
            · by_cases w : ∃ j, j ≤ m ∧ cr_w (cN X Y Z n l) j f = some z
              · exact k4 z hz w
              · rw [k5 z hz w]; exact (q5 z hz).1 t
            · exact k4 z hz t
          · intro w
            rw [k5 z hz (fun u => w (Or.inr u))]
            exact (q5 z hz).2 (fun u => w (Or.inl u))
        · simp only [List.mem_cons, List.not_mem_nil, or_false, not_or] at hk
          rw [e13, gp_n hk.2.2.1, e12, gp_n hk.1, k1 k hk.2.1 hk.2.2.2.2, e5, gp_n hk.2.2.2.1]
      have loop : ∀ d j (g6 : St), j + d = m + 1 → (∀ k, k ≠ 11 → k ≠ 14 → g6 k = g5 k) → (∀ i, i < O c → g6 11 i = g 11 i) → (∀ j' y, j' < j → cr_w (cN X Y Z n l) j' f = some y → g6 11 (O c + j') = nI y) →
          (∀ z, z < 256 → (∃ j', j' < j ∧ cr_w (cN X Y Z n l) j' f = some z) → g6 14 z = 1) → (∀ z, z < 256 → (¬ ∃ j', j' < j ∧ cr_w (cN X Y Z n l) j' f = some z) → g6 14 z = g 14 z) →
          lp_li_traceFrom_L65 (d + 1) (on (cr_w (cN X Y Z n l) j f)) (nI (O c + j)) (nI (O c + j)) g6 (fun w11 g10 => (jn_li_traceFrom_J120 w11 g10 post)) post := by
        intro d
        induction d with
        | zero =>
          intro j g6 hj k1 k2 k3 k4 k5
          have ej : j = m + 1 := by omega
          subst ej
          have done : jn_li_traceFrom_J120 (nI (O c + (m + 1))) g6 post := fin g6 k1 k2 (fun j' y h9 => k3 j' y (by omega)) (fun z hz ⟨j', a, b⟩ => k4 z hz ⟨j', by omega, b⟩) (fun z hz w => k5 z hz (fun ⟨j', a, b⟩ => w ⟨j', by omega, b⟩))
          unfold lp_li_traceFrom_L65
          try dsimp only
          refine ⟨fun _ => done, fun _ => ⟨fun _ => done, fun u => ?_⟩⟩
          obtain ⟨⟨ye, y1, y2⟩, -⟩ := id hm
          rw [cr_w_s y1] at u ⊢
          rcases y2 with y2 | y2
          · rw [y2] at u; exact absurd rfl u
          · rw [y2]
            refine ⟨vp_in_nI (by omega) (by omega), fun _ => done, fun w => ?_⟩
            have w : g6 14 (ix (nI f)) = 0 := w
            rw [ix_nI (by omega), k4 f f1 ⟨0, by omega, rfl⟩] at w
            exact absurd w (by decide)
        | succ d ih =>
          intro j g6 hj k1 k2 k3 k4 k5
          obtain ⟨⟨ye, y1, -⟩, nb⟩ := id hm
          rw [show m = j + (m - j) by omega] at y1
          obtain ⟨y, hy⟩ := cr_w_le _ _ y1
          have ys : cS X Y Z n l y := cr_w_S (fun _ _ q => cN_S ho q) j fS hy
          have y256 := (cS_lt ho ys).1
          rw [hy]
          have free : g6 14 y = 0 := by
            rw [k5 y y256 (fun ⟨j', a, b⟩ => cr_new (cr_injN (c_inv ho)) nb a (by omega) b hy)]
            exact (q5 y y256).2 (outw j y hy)
          unfold lp_li_traceFrom_L65
          try dsimp only
          refine ⟨fun u => ?_, fun _ => ⟨fun u => ?_, fun _ => ?_⟩⟩
          · rw [show (120 : Int32) = nI 120 from rfl, nI_leI (by omega) (by omega)] at u; omega
          · have := (on_m1 (o := some y) (fun w hw => by cases hw; omega)).mp u
            cases this
          · show vp_in (nI y) 256 ∧ _
            refine ⟨vp_in_nI (by omega) (by omega), fun u => ?_, fun _ => ?_⟩
            · exact absurd (show g6 14 (ix (nI y)) = 0 by rw [ix_nI (by omega)]; exact free) u
            · rw [ix_nI (by omega)]
              refine ⟨vp_in_nI (by omega) (by omega), fun g7 e7 => ⟨vp_in_nI (by omega) (by omega), fun g8 e8 => ?_⟩⟩
              have e8 : g8 = gp g7 14 (ix (nI y)) (vp_nar .boolean 1) := e8
              rw [ix_nI (by omega), vn_1] at e8
              have e7 : g7 = gp g6 11 (O c + j) (nI y) := e7
              have u8 : ∀ k, k ≠ 11 → k ≠ 14 → g8 k = g5 k := fun k a b => by rw [e8, gp_n b, e7, gp_n a]; exact k1 k a b
              have M8 : mC X Y (tl X Y n 4096) g8 := by
                obtain ⟨m1, m2, m3, m4⟩ := hM
                have w : ∀ k, k ≠ 11 → k ≠ 14 → k ≠ 13 → g8 k = g k := fun k a b c => by rw [u8 k a b, e5, gp_n c]
                refine ⟨?_, ?_, ?_, ?_⟩
                · rw [w 2 (by decide) (by decide) (by decide)]; exact m1
                · rw [w 8 (by decide) (by decide) (by decide)]; exact m2
                · rw [w 9 (by decide) (by decide) (by decide)]; exact m3
                · rw [w 9 (by decide) (by decide) (by decide)]; exact m4
              have H8 : hC Z n l g8 := fun s hs => by rw [u8 10 (by decide) (by decide), e5, gp_n (by decide)]; exact hH s hs
              refine li_behind ho M8 H8 ys ?_
              have nx : cN X Y Z n l y = cr_w (cN X Y Z n l) (j + 1) f := (cr_w_s hy).symm
              rw [nI_1, nx, show O c + j + 1 = O c + (j + 1) by omega]
              refine ih (j + 1) g8 (by omega) u8 (fun i hi => ?_) (fun j' y' a b => ?_) (fun z hz ⟨j', a, b⟩ => ?_) (fun z hz w => ?_)
              · rw [e8, gp_n (by decide), e7, gp_o (by omega)]; exact k2 i hi
              · rw [e8, gp_n (by decide), e7]
                by_cases e : j' = j
                · rw [e] at b ⊢
                  rw [hy] at b
                  cases b
                  exact gp_s
                · rw [gp_o (by omega)]; exact k3 j' y' (by omega) b
              · rw [e8]
                by_cases e : z = y
                · rw [e]; exact gp_s
                · rw [gp_o e, e7, gp_n (by decide)]
                  refine k4 z hz ⟨j', ?_, b⟩
                  have : j' ≠ j := fun q => e (by rw [q, hy] at b; cases b; rfl)
                  omega
              · have e : z ≠ y := fun q => w ⟨j, by omega, by rw [q]; exact hy⟩
                rw [e8, gp_o e, e7, gp_n (by decide)]
                exact k5 z hz (fun ⟨j', a, b⟩ => w ⟨j', by omega, b⟩)
      refine ⟨(m + 1) + 1, ?_⟩
      have := loop (m + 1) 0 g5 (by omega) (fun _ _ _ => rfl) (fun i _ => by rw [e5, gp_n (by decide)]) (fun j' y a _ => absurd a (by omega)) (fun z _ ⟨j', a, _⟩ => absurd a (by omega)) (fun z _ _ => by rw [e5, gp_n (by decide)])
      exact this
    have z := on_m1 (o := cB X Y Z n l f) (fun y hy => by have := (cS_lt ho (cB_S ho hy)).1; omega)
    rw [q1]
    refine ⟨fun u => J 0 (Or.inr ⟨rfl, z.mp u⟩), fun u => J 1 (Or.inl ⟨rfl, fun e => u (z.mpr e)⟩)⟩
end
end
section
/-! A whole level traced by the class. -/
section
variable {g : St} {n : Nat} {X Y Z : Nat → Int} {l : Int}
theorem li_clear {post : St → Prop} (h : ∀ g', g' 3 5 = 0 → (∀ i, i < 256 → g' 14 i = 0) → fr [3, 14] g g' → post g') : wp_li_clear g post := by
  unfold wp_li_clear
  try dsimp only
  intro g1 e1
  have loop : ∀ m i (g2 : St), i + m = 256 → g2 3 5 = 0 → (∀ j, j < i → g2 14 j = 0) → fr [3, 14] g g2 → lp_li_clear_L7 (m + 1) (nI i) g2 (fun g3 => (post g3)) post := by
    intro m
    induction m with
    | zero =>
      intro i g2 hi h1 h2 h3
      unfold lp_li_clear_L7
      try dsimp only
      refine ⟨fun _ => h g2 h1 (fun j hj => h2 j (by omega)) h3, fun q => absurd ?_ q⟩
      rw [show (256 : Int32) = nI 256 from rfl, nI_leI (by omega) (by omega)]; omega
    | succ m ih =>
      intro i g2 hi h1 h2 h3
      unfold lp_li_clear_L7
      try dsimp only
      refine ⟨fun q => ?_, fun _ => ⟨vp_in_nI (by omega) (by omega), fun g4 e4 => ?_⟩⟩
      · rw [show (256 : Int32) = nI 256 from rfl, nI_leI (by omega) (by omega)] at q; omega
      · rw [ix_nI (by omega), vn_0] at e4
        rw [nI_1, e4]
        refine ih (i + 1) _ (by omega) (by rw [gp_n (by decide)]; exact h1) (fun j hj => ?_) (h3.gp (by decide))
        by_cases e : j = i
        · rw [e]; exact gp_s
        · rw [gp_o e]; exact h2 j (by omega)
  refine ⟨257, loop 256 0 g1 (by omega) (by rw [e1]; exact gp_s) (fun j hj => absurd hj (by omega)) (by rw [e1]; exact fr.rf.gp (by decide))⟩
theorem me_share {u v : Nat} {post : Int32 → St → Prop} (ho : ge_ok X Y n) (hM : mC X Y (tl X Y n 4096) g) (hu : u < 16) (hv : v < 16) (ne : u ≠ v)
    (h : post (nI ((if rr X Y n u v = none then 0 else 1) + (if rr X Y n v u = none then 0 else 1))) g) : wp_me_sharing (nI u) (nI v) g post := by
  have n16 := ho.1
  have z1 := on_m1 (o := rr X Y n u v) (fun y hy => by have := (rr_lt hy).2.2; omega)
  have z2 := on_m1 (o := rr X Y n v u) (fun y hy => by have := (rr_lt hy).2.2; omega)
  unfold wp_me_sharing
  try dsimp only
  refine ⟨fun _ => ?_, fun e => absurd ((nI_eq (by omega) (by omega)).mp e) ne⟩
  unfold wp_me_thirdRightOf
  try dsimp only
  rw [pk16, ix_nI (by omega), mC_rr ho hM hu hv]
  refine ⟨vp_in_nI (by omega) (by omega), fun k => ?_, fun k => ?_⟩ <;> (unfold jn_me_sharing_J22 wp_me_thirdRightOf; rw [pk16, ix_nI (by omega), mC_rr ho hM hv hu]; refine ⟨vp_in_nI (by omega) (by omega), fun k2 => ?_, fun k2 => ?_⟩)
  · rw [if_neg (fun e => k (z1.mpr e)), if_neg (fun e => k2 (z2.mpr e))] at h; exact h
  · rw [if_neg (fun e => k (z1.mpr e)), if_pos (z2.mp k2)] at h; exact h
  · rw [if_pos (z1.mp k), if_neg (fun e => k2 (z2.mpr e))] at h; exact h
  · rw [if_pos (z1.mp k), if_pos (z2.mp k2)] at h; exact h
theorem hc_h {e : Nat} (q : hi Z l (e / 16)) : hc Z l e = e := @if_pos _ (Classical.propDecidable _) q _ _ _
theorem hc_l {e : Nat} (q : ¬ hi Z l (e / 16)) : hc Z l e = 16 * (e % 16) + e / 16 := @if_neg _ (Classical.propDecidable _) q _ _ _
/-- THE LEVEL TRACED -/
theorem li_trace {lv : Int} {post : St → Prop} (hS : sC g n X Y Z) (hM : mC X Y (tl X Y n 4096) g) (h12 : g 12 0 = 0) (hl0 : 0 ≤ lv) (hl1 : lv ≤ 998)
    (h : ∀ g', lC (ct X Y Z n lv 256) g' → hC Z n lv g' → fr [3, 10, 11, 12, 13, 14] g g' → post g') : wp_li_trace (iI lv) g post := by
  have ho := hS.1
  have n16 := ho.1
  have inS : ∀ g', fr [3, 10, 11, 12, 13, 14] g g' → sC g' n X Y Z := fun g' f => hS.fr f (by decide) (by decide) (by decide) (by decide)
  have inM : ∀ g', fr [3, 10, 11, 12, 13, 14] g g' → mC X Y (tl X Y n 4096) g' := fun g' f => by
    obtain ⟨m1, m2, m3, m4⟩ := hM
    refine ⟨?_, ?_, ?_, ?_⟩
    · rw [f 2 (by decide)]; exact m1
    · rw [f 8 (by decide)]; exact m2
    · rw [f 9 (by decide)]; exact m3
    · rw [f 9 (by decide)]; exact m4
  unfold wp_li_trace
  try dsimp only
  refine li_clear (fun g1 c1 c2 f1 => ?_)
  -- the loop over u and v
  have L62 : ∀ (u : Nat) (K : Int32 → St → Prop), u < n → (∀ g', lC (ct X Y Z n lv (16 * u + n)) g' → hC Z n lv g' → fr [3, 10, 11, 12, 13, 14] g g' → K (nI u) g') →
      ∀ m v (g2 : St), v + m = n → u < v → lC (ct X Y Z n lv (16 * u + v)) g2 → hC Z n lv g2 → fr [3, 10, 11, 12, 13, 14] g g2 → lp_li_trace_L62 (m + 1) (nI u) (nI v) g2 K post := by
    intro u K hu hK m
    induction m with
    | zero =>
      intro v g2 hv huv hl hh f2
      have S2 := inS g2 f2
      unfold lp_li_trace_L62 wp_sp_size
      try dsimp only
      rw [S2.2.2.1]
      have : v = n := by omega
      subst this
      exact ⟨fun _ => hK g2 hl hh f2, fun q => absurd ((nI_leI (by omega) (by omega)).mpr (Nat.le_refl _)) q⟩
    | succ m ih =>
      intro v g2 hv huv hl hh f2
      have S2 := inS g2 f2
      have M2 := inM g2 f2
      have hvn : v < n := by omega
      have d1 : (16 * u + v) / 16 = u := by omega
      have d2 : (16 * u + v) % 16 = v := by omega
      have go : ∀ g3, ct X Y Z n lv (16 * u + v + 1) = ct X Y Z n lv (16 * u + v + 1) → lC (ct X Y Z n lv (16 * u + v + 1)) g3 → hC Z n lv g3 → fr [3, 10, 11, 12, 13, 14] g g3 → lp_li_trace_L62 (m + 1) (nI u) (nI v + 1) g3 K post := fun g3 _ a b c => by
        rw [nI_1]
        refine ih (v + 1) g3 (by omega) (by omega) ?_ b c
        rw [← Nat.add_assoc]; exact a
      unfold lp_li_trace_L62 wp_sp_size
      try dsimp only
      rw [S2.2.2.1, ix_nI (by omega), ix_nI (by omega)]
      refine ⟨fun q => absurd ((nI_leI (by omega) (by omega)).mp q) (by omega), fun _ => ⟨S2.v16 hu, S2.v16 hvn, fun e => ?_, fun e => ?_⟩⟩
      · -- both high or both low
        have no : ¬ cS X Y Z n lv (hc Z lv (16 * u + v)) := fun c => by
          by_cases q : hi Z lv u
          · have q' : hi Z lv v := Classical.byContradiction fun w => by rw [(hh u hu).1 q, (hh v hvn).2 w] at e; exact absurd e (by decide)
            rw [hc_h (by rw [d1]; exact q)] at c
            exact c.1.2 (by rw [d2]; exact q')
          · have q' : ¬ hi Z lv v := fun w => by rw [(hh u hu).2 q, (hh v hvn).1 w] at e; exact absurd e (by decide)
            rw [hc_l (by rw [d1]; exact q), d1, d2] at c
            exact q' (by have := c.1.1; rw [show (16 * v + u) / 16 = v by omega] at this; exact this)
        refine go g2 rfl ?_ hh f2
        rw [ct_s0 (fun q => no q.2.1)]; exact hl
      · refine me_share ho M2 (by omega) (by omega) (by omega) ?_
        by_cases sh : rr X Y n u v = none ∧ rr X Y n v u = none
        · rw [if_pos sh.1, if_pos sh.2]
          refine ⟨fun _ => ?_, fun q => absurd (by decide) q⟩
          have no : ¬ cS X Y Z n lv (hc Z lv (16 * u + v)) := fun c => by
            by_cases q : hi Z lv u
            · rw [hc_h (by rw [d1]; exact q)] at c
              have := c.2
              rw [d1, d2, sh.1, sh.2] at this
              rcases this with ⟨r, w⟩ | ⟨r, w⟩ <;> cases w
            · rw [hc_l (by rw [d1]; exact q), d1, d2] at c
              have := c.2
              rw [show (16 * v + u) / 16 = v by omega, show (16 * v + u) % 16 = u by omega, sh.1, sh.2] at this
              rcases this with ⟨r, w⟩ | ⟨r, w⟩ <;> cases w
          refine go g2 rfl ?_ hh f2
          rw [ct_s0 (fun q => no q.2.1)]; exact hl
        · have pos : ¬ (nI ((if rr X Y n u v = none then 0 else 1) + (if rr X Y n v u = none then 0 else 1)) ≤ (0 : Int32)) := by
            by_cases a : rr X Y n u v = none <;> by_cases b : rr X Y n v u = none
            · exact absurd ⟨a, b⟩ sh
            · rw [if_pos a, if_neg b]; decide
            · rw [if_neg a, if_pos b]; decide
            · rw [if_neg a, if_neg b]; decide
          have ex : (∃ r, rr X Y n u v = some r) ∨ ∃ r, rr X Y n v u = some r := by
            cases a : rr X Y n u v with
            | some r => exact Or.inl ⟨r, rfl⟩
            | none =>
              cases b : rr X Y n v u with
              | some r => exact Or.inr ⟨r, rfl⟩
              | none => exact absurd ⟨a, b⟩ sh
          refine ⟨fun q => absurd q pos, fun _ => ⟨S2.v16 hu, fun q => ?_, fun q => ?_⟩⟩
          · have nu : ¬ hi Z lv u := fun w => by rw [(hh u hu).1 w] at q; exact absurd q (by decide)
            have hv' : hi Z lv v := Classical.byContradiction fun w => e (by rw [(hh u hu).2 nu, (hh v hvn).2 w])
            have ec : hc Z lv (16 * u + v) = 16 * v + u := by rw [hc_l (by rw [d1]; exact nu), d1, d2]
            have cs : cS X Y Z n lv (16 * v + u) := by
              refine ⟨?_, ?_⟩
              · rw [show (16 * v + u) / 16 = v by omega, show (16 * v + u) % 16 = u by omega]; exact ⟨hv', nu⟩
              · rw [show (16 * v + u) / 16 = v by omega, show (16 * v + u) % 16 = u by omega]; exact ex.symm
            rw [pk16]
            refine li_from ho M2 hh (ct_all ho _) hl cs (fun t => go g2 rfl ?_ hh f2) (fun nt g3 l3 f3 => go g3 rfl ?_ ?_ (f2.tr (f3.mono (by decide))))
            · rw [ct_s0 (fun q => q.2.2 (by rw [ec]; exact t))]; exact hl
            · rw [ct_s1 ⟨by omega, by rw [ec]; exact cs, by rw [ec]; exact nt⟩, ec]; exact l3
            · intro s hs; rw [f3 10 (by decide)]; exact hh s hs
          · have hu' : hi Z lv u := Classical.byContradiction fun w => q ((hh u hu).2 w)
            have nv : ¬ hi Z lv v := fun w => e (by rw [(hh u hu).1 hu', (hh v hvn).1 w])
            have ec : hc Z lv (16 * u + v) = 16 * u + v := hc_h (by rw [d1]; exact hu')
            have cs : cS X Y Z n lv (16 * u + v) := by
              refine ⟨?_, ?_⟩
              · rw [d1, d2]; exact ⟨hu', nv⟩
              · rw [d1, d2]; exact ex
            rw [pk16]
            refine li_from ho M2 hh (ct_all ho _) hl cs (fun t => go g2 rfl ?_ hh f2) (fun nt g3 l3 f3 => go g3 rfl ?_ ?_ (f2.tr (f3.mono (by decide))))
            · rw [ct_s0 (fun q => q.2.2 (by rw [ec]; exact t))]; exact hl
            · rw [ct_s1 ⟨by omega, by rw [ec]; exact cs, by rw [ec]; exact nt⟩, ec]; exact l3
            · intro s hs; rw [f3 10 (by decide)]; exact hh s hs
  have hcn : ∀ x, cS X Y Z n lv (hc Z lv x) → x / 16 < x % 16 → x / 16 < n ∧ x % 16 < n := fun x c xl => by
    obtain ⟨b1, b2, b3, b4⟩ := cS_lt ho c
    by_cases q : hi Z lv (x / 16)
    · rw [hc_h q] at b2 b3; omega
    · rw [hc_l q] at b2 b3
      have e1 : (16 * (x % 16) + x / 16) / 16 = x % 16 ∨ 16 ≤ x / 16 := by omega
      rcases e1 with e1 | e1
      · rw [hc_l q] at b1; omega
      · omega
  have L47 : ∀ m u (g2 : St), u + m = n → lC (ct X Y Z n lv (16 * u)) g2 → hC Z n lv g2 → fr [3, 10, 11, 12, 13, 14] g g2 → lp_li_trace_L47 (m + 1) (nI u) g2 (fun g19 => (post g19)) post := by
    intro m
    induction m with
    | zero =>
      intro u g2 hu hl hh f2
      have S2 := inS g2 f2
      unfold lp_li_trace_L47 wp_sp_size
      try dsimp only
      rw [S2.2.2.1]
      have : u = n := by omega
      subst this
      refine ⟨fun _ => h g2 ?_ hh f2, fun q => absurd ((nI_leI (by omega) (by omega)).mpr (Nat.le_refl _)) q⟩
      rw [ct_skip (e := 16 * u) (e' := 256) (by omega) (fun x x1 x2 t => by have := hcn x t.2 t.1; omega)]
      exact hl
    | succ m ih =>
      intro u g2 hu hl hh f2
      have S2 := inS g2 f2
      unfold lp_li_trace_L47 wp_sp_size
      try dsimp only
      rw [S2.2.2.1]
      refine ⟨fun q => absurd ((nI_leI (by omega) (by omega)).mp q) (by omega), fun _ => ⟨(n - (u + 1)) + 1, ?_⟩⟩
      rw [nI_1]
      refine L62 u _ (by omega) (fun g3 l3 h3 f3 => ?_) (n - (u + 1)) (u + 1) g2 (by omega) (by omega) ?_ hh f2
      · rw [nI_1]
        refine ih (u + 1) g3 (by omega) ?_ h3 f3
        rw [ct_skip (e := 16 * u + n) (e' := 16 * (u + 1)) (by omega) (fun x x1 x2 t => by have := hcn x t.2 t.1; omega)]
        exact l3
      · rw [ct_skip (e := 16 * u) (e' := 16 * u + (u + 1)) (by omega) (fun x x1 x2 t => by have := t.1; omega)]
        exact hl
  -- high and low
  have L7 : ∀ m i (g2 : St), i + m = n → g2 3 5 = 0 → (∀ j, j < 256 → g2 14 j = 0) → (∀ s, s < i → (hi Z lv s → g2 10 s = 1) ∧ (¬ hi Z lv s → g2 10 s = 0)) → fr [3, 10, 14] g g2 →
      lp_li_trace_L7 (m + 1) (iI lv) (nI i) g2 (fun g8 => (∃ k47, lp_li_trace_L47 k47 0 g8 (fun g19 => (post g19)) post)) post := by
    intro m
    induction m with
    | zero =>
      intro i g2 hi' a1 a2 a3 f2
      have F2 : fr [3, 10, 11, 12, 13, 14] g g2 := f2.mono (by decide)
      have S2 := inS g2 F2
      have ei : i = n := by omega
      subst ei
      unfold lp_li_trace_L7 wp_sp_size
      try dsimp only
      rw [S2.2.2.1]
      refine ⟨fun _ => ⟨i + 1, L47 i 0 g2 (by omega) ?_ a3 F2⟩, fun q => absurd ((nI_leI (by omega) (by omega)).mpr (Nat.le_refl _)) q⟩
      refine ⟨a1, fun k hk => ?_, fun j hj => absurd hj (Nat.not_lt_zero _), fun k hk => absurd hk (Nat.not_lt_zero _), fun x hx => ⟨fun ⟨j, j1, _⟩ => absurd j1 (Nat.not_lt_zero _), fun _ => a2 x hx⟩⟩
      have hk : k ≤ 0 := hk
      rw [show k = 0 by omega, f2 12 (by decide)]; exact h12
    | succ m ih =>
      intro i g2 hi' a1 a2 a3 f2
      have F2 : fr [3, 10, 11, 12, 13, 14] g g2 := f2.mono (by decide)
      have S2 := inS g2 F2
      have hin : i < n := by omega
      obtain ⟨-, -, e3⟩ := S2.2.2.2 i hin
      have zb := S2.2.1 i hin
      have put : ∀ b : Int32, ((b = 1 ∧ hi Z lv i) ∨ (b = 0 ∧ ¬ hi Z lv i)) → ∀ g6 : St, g6 = gp g2 10 i b → lp_li_trace_L7 (m + 1) (iI lv) (nI i + 1) g6 (fun g8 => (∃ k47, lp_li_trace_L47 k47 0 g8 (fun g19 => (post g19)) post)) post := fun b hb g6 e6 => by
        rw [nI_1, e6]
        refine ih (i + 1) _ (by omega) (by rw [gp_n (by decide)]; exact a1) (by rw [gp_n (by decide)]; exact a2) (fun s hs => ?_) (f2.gp (by decide))
        by_cases e : s = i
        · rw [e, gp_s]
          rcases hb with ⟨rfl, w⟩ | ⟨rfl, w⟩
          · exact ⟨fun _ => rfl, fun u => absurd w u⟩
          · exact ⟨fun u => absurd u w, fun _ => rfl⟩
        · rw [gp_o e]; exact a3 s (by omega)
      unfold lp_li_trace_L7 wp_sp_size wp_sp_height
      try dsimp only
      rw [S2.2.2.1, ix_nI (by omega), e3]
      have z : (iI (Z i) ≤ iI lv) ↔ ¬ hi Z lv i := by
        rw [iI_le (by omega) (by omega) (by omega) (by omega)]
        unfold hi
        omega
      refine ⟨fun q => absurd ((nI_leI (by omega) (by omega)).mp q) (by omega), fun _ => ⟨S2.v16 hin, fun q => ⟨S2.v16 hin, fun g6 e6 => put 0 (Or.inr ⟨rfl, z.mp q⟩) g6 (by rw [e6, vn_0])⟩, fun q => ⟨S2.v16 hin, fun g6 e6 => put 1 (Or.inl ⟨rfl, Classical.byContradiction fun w => q (z.mpr w)⟩) g6 (by rw [e6, vn_1])⟩⟩⟩
  exact ⟨n + 1, L7 n 0 g1 (by omega) c1 c2 (fun s hs => absurd hs (by omega)) (f1.mono (by decide))⟩
end
end
section
/-! The reference joins the crossings of a level. -/
theorem ce_16 {h w : Nat} (hh : h < 16) (hw : w < 16) : ce (16 * h + w) = if h < w then 16 * h + w else 16 * w + h := by
  unfold ce
  rw [show (16 * h + w) / 16 = h by omega, show (16 * h + w) % 16 = w by omega]
/-- processed: a high spot, a low one, the third of a triangle -/
def jP (Z : Nat → Int) (l : Int) (L : List Nat) (h w r : Nat) : Prop := hi Z l h ∧ ¬ hi Z l w ∧ ∃ x, x ∈ L ∧ ge_pm (x / 256) (x / 16 % 16) (x % 16) h w r
def jM (X Y Z : Nat → Int) (l : Int) (P : Nat → Nat → Nat → Prop) (g : St) : Prop :=
  ((∀ h w r, P h w r → g 5 (ce (16 * h + w)) = 1) ∧ ∀ e, e < 256 → (∀ h w r, P h w r → ce (16 * h + w) ≠ e) → g 5 e = 0) ∧
  ((∀ h w r, P h w r → ge_t X Y w h r < 0 → g 6 (ce (16 * h + w)) = nI (ce (oth Z l h w r))) ∧ ∀ e, e < 256 → (∀ h w r, P h w r → ge_t X Y w h r < 0 → ce (16 * h + w) ≠ e) → g 6 e = -1) ∧
  ((∀ h w r, P h w r → ge_t X Y w h r < 0 → g 7 (ce (oth Z l h w r)) = nI (ce (16 * h + w))) ∧ ∀ e, e < 256 → (∀ h w r, P h w r → ge_t X Y w h r < 0 → ce (oth Z l h w r) ≠ e) → g 7 e = -1)
/-- what may be processed -/
def jOk (X Y Z : Nat → Int) (n : Nat) (l : Int) (P : Nat → Nat → Nat → Prop) : Prop := ∀ h w r, P h w r → hi Z l h ∧ ¬ hi Z l w ∧ ge_T X Y n h w r
section
variable {g : St} {n : Nat} {X Y Z : Nat → Int} {l : Int}
theorem mo_edge {a b : Nat} {post : Int32 → St → Prop} (ha : a < 16) (hb : b < 16) (ne : a ≠ b) (h : post (nI (ce (16 * a + b))) g) : wp_mo_edgeOf (nI a) (nI b) g post := by
  unfold wp_mo_edgeOf
  try dsimp only
  rw [ce_16 ha hb] at h
  refine ⟨fun q => ?_, fun q => ?_⟩
  · have : b ≤ a := (nI_leI (by omega) (by omega)).mp q
    rw [if_neg (by omega)] at h
    rw [pk16]; exact h
  · have : ¬ b ≤ a := fun w => q ((nI_leI (by omega) (by omega)).mpr w)
    rw [if_pos (by omega)] at h
    rw [pk16]; exact h
theorem mo_high {s : Nat} {post : Int32 → St → Prop} (hS : sM g n X Y Z) (hs : s < n) (hl : 0 ≤ l ∧ l ≤ 998) (h1 : hi Z l s → post 1 g) (h0 : ¬ hi Z l s → post 0 g) : wp_mo_isHigh (nI s) (iI l) g post := by
  obtain ⟨-, -, e⟩ := hS.2.2.2 s hs
  have zb := hS.2.1 s hs
  unfold wp_mo_isHigh
  try dsimp only
  rw [hS.ix hs, e, iI_le (by omega) (by omega) (by omega) (by omega)]
  unfold hi at h1 h0
  exact ⟨hS.v16 hs, fun q => h0 (by omega), fun q => h1 (by omega)⟩
theorem ce_lt {h w : Nat} (hh : h < 16) (hw : w < 16) : ce (16 * h + w) < 256 := by
  rw [ce_16 hh hw]; split <;> omega
theorem ce_sym {h w : Nat} (hh : h < 16) (hw : w < 16) (ne : h ≠ w) : ce (16 * h + w) = ce (16 * w + h) := by
  rw [ce_16 hh hw, ce_16 hw hh]
  by_cases q : h < w
  · rw [if_pos q, if_neg (by omega)]
  · rw [if_neg q, if_pos (by omega)]
theorem ce_hw {h w h' w' : Nat} (a : h < 16) (b : w < 16) (c : h' < 16) (d : w' < 16) (q1 : hi Z l h) (q2 : ¬ hi Z l w) (q3 : hi Z l h') (q4 : ¬ hi Z l w') (e : ce (16 * h + w) = ce (16 * h' + w')) : h = h' ∧ w = w' := by
  rw [ce_16 a b, ce_16 c d] at e
  have n1 : h ≠ w' := fun q => q4 (by rw [← q]; exact q1)
  have n2 : h' ≠ w := fun q => q2 (by rw [← q]; exact q3)
  split at e <;> split at e <;> omega
/-- the other crossing in the triangle -/
theorem oth_c {h w r : Nat} (ho : ge_ok X Y n) (q1 : hi Z l h) (q2 : ¬ hi Z l w) (t : ge_T X Y n h w r) : oth Z l h w r / 16 < 16 ∧ oth Z l h w r % 16 < 16 ∧ hi Z l (oth Z l h w r / 16) ∧ ¬ hi Z l (oth Z l h w r % 16) ∧ oth Z l h w r = 16 * (oth Z l h w r / 16) + oth Z l h w r % 16 := by
  have n16 := ho.1
  obtain ⟨t1, t2, t3, -⟩ := t
  by_cases q : hi Z l r
  · rw [oth_h q]
    have d1 : (16 * r + w) / 16 = r := by omega
    have d2 : (16 * r + w) % 16 = w := by omega
    rw [d1, d2]; exact ⟨by omega, by omega, q, q2, rfl⟩
  · rw [oth_l q]
    have d1 : (16 * h + r) / 16 = h := by omega
    have d2 : (16 * h + r) % 16 = r := by omega
    rw [d1, d2]; exact ⟨by omega, by omega, q1, q, rfl⟩
theorem T_wh {h w r : Nat} (t : ge_T X Y n h w r) : ge_T X Y n w h r := ge_T_sw (ge_T_rot t)
/-- the next crossing determines the one ahead of it -/
theorem oth_inj (ho : ge_ok X Y n) {h w r h' w' r' : Nat} (q1 : hi Z l h) (q2 : ¬ hi Z l w) (t : ge_T X Y n h w r) (s : ge_t X Y w h r < 0) (q1' : hi Z l h') (q2' : ¬ hi Z l w') (t' : ge_T X Y n h' w' r') (s' : ge_t X Y w' h' r' < 0) (e : oth Z l h w r = oth Z l h' w' r') : h = h' ∧ w = w' := by
  have n16 := ho.1
  have a := t.1; have b := t.2.1; have a' := t'.1; have b' := t'.2.1
  have c1 : cN X Y Z n l (16 * h + w) = some (oth Z l h w r) := by
    rw [cN_eq (by rw [show (16 * h + w) / 16 = h by omega, show (16 * h + w) % 16 = w by omega]; exact ⟨q1, q2⟩), show (16 * h + w) / 16 = h by omega, show (16 * h + w) % 16 = w by omega, rr_some.mpr ⟨T_wh t, s⟩]; rfl
  have c2 : cN X Y Z n l (16 * h' + w') = some (oth Z l h' w' r') := by
    rw [cN_eq (by rw [show (16 * h' + w') / 16 = h' by omega, show (16 * h' + w') % 16 = w' by omega]; exact ⟨q1', q2'⟩), show (16 * h' + w') / 16 = h' by omega, show (16 * h' + w') % 16 = w' by omega, rr_some.mpr ⟨T_wh t', s'⟩]; rfl
  rw [← e] at c2
  have := cr_injN (c_inv ho) _ _ _ c1 c2
  omega
/-- one more crossing of a triangle is processed -/
theorem jM_add {P : Nat → Nat → Nat → Prop} {h w r : Nat} {g' : St} (ho : ge_ok X Y n) (ok : jOk X Y Z n l P) (hm : jM X Y Z l P g) (q1 : hi Z l h) (q2 : ¬ hi Z l w) (t : ge_T X Y n h w r)
    (e5 : ∀ e, g' 5 e = if e = ce (16 * h + w) then 1 else g 5 e)
    (e6 : ∀ e, g' 6 e = if e = ce (16 * h + w) ∧ ge_t X Y w h r < 0 then nI (ce (oth Z l h w r)) else g 6 e)
    (e7 : ∀ e, g' 7 e = if e = ce (oth Z l h w r) ∧ ge_t X Y w h r < 0 then nI (ce (16 * h + w)) else g 7 e) :
    jM X Y Z l (fun a b c => P a b c ∨ (a = h ∧ b = w ∧ c = r)) g' := by
  have n16 := ho.1
  obtain ⟨⟨m1, m2⟩, ⟨m3, m4⟩, m5, m6⟩ := hm
  have th : h < 16 := by have := t.1; omega
  have tw : w < 16 := by have := t.2.1; omega
  refine ⟨⟨fun a b c k => ?_, fun e he k => ?_⟩, ⟨fun a b c k s => ?_, fun e he k => ?_⟩, fun a b c k s => ?_, fun e he k => ?_⟩
  · rw [e5]
    by_cases q : ce (16 * a + b) = ce (16 * h + w)
    · rw [if_pos q]
    · rw [if_neg q]
      rcases k with k | ⟨rfl, rfl, rfl⟩
      · exact m1 a b c k
      · exact absurd rfl q
  · rw [e5, if_neg (fun q => k h w r (Or.inr ⟨rfl, rfl, rfl⟩) q.symm)]
    exact m2 e he (fun a b c k' => k a b c (Or.inl k'))
  · rw [e6]
    by_cases q : ce (16 * a + b) = ce (16 * h + w) ∧ ge_t X Y w h r < 0
    · rw [if_pos q]
      rcases k with k | ⟨rfl, rfl, rfl⟩
      · obtain ⟨o1, o2, o3⟩ := ok a b c k
        obtain ⟨rfl, rfl⟩ := ce_hw (by have := o3.1; omega) (by have := o3.2.1; omega) th tw o1 o2 q1 q2 q.1
        rw [ge_right (T_wh o3) (T_wh t) s q.2]
      · rfl
    · rw [if_neg q]
      rcases k with k | ⟨rfl, rfl, rfl⟩
      · exact m3 a b c k s
      · exact absurd ⟨rfl, s⟩ q
  · rw [e6, if_neg (fun q => k h w r (Or.inr ⟨rfl, rfl, rfl⟩) q.2 q.1.symm)]
    exact m4 e he (fun a b c k' => k a b c (Or.inl k'))
  · rw [e7]
    by_cases q : ce (oth Z l a b c) = ce (oth Z l h w r) ∧ ge_t X Y w h r < 0
    · rw [if_pos q]
      rcases k with k | ⟨rfl, rfl, rfl⟩
      · obtain ⟨o1, o2, o3⟩ := ok a b c k
        obtain ⟨x1, x2, x3, x4, x5⟩ := oth_c ho o1 o2 o3
        obtain ⟨y1, y2, y3, y4, y5⟩ := oth_c ho q1 q2 t
        have e := q.1
        rw [x5, y5] at e
        obtain ⟨z1, z2⟩ := ce_hw x1 x2 y1 y2 x3 x4 y3 y4 e
        obtain ⟨rfl, rfl⟩ := oth_inj ho o1 o2 o3 s q1 q2 t q.2 (by rw [x5, y5, z1, z2])
        rfl
      · rfl
    · rw [if_neg q]
      rcases k with k | ⟨rfl, rfl, rfl⟩
      · exact m5 a b c k s
      · exact absurd ⟨rfl, s⟩ q
  · rw [e7, if_neg (fun q => k h w r (Or.inr ⟨rfl, rfl, rfl⟩) q.2 q.1.symm)]
    exact m6 e he (fun a b c k' => k a b c (Or.inl k'))
theorem mo_join {h w r : Nat} {post : St → Prop} (hS : sM g n X Y Z) (hl : 0 ≤ l ∧ l ≤ 998) (q1 : hi Z l h) (q2 : ¬ hi Z l w) (t : ge_T X Y n h w r)
    (hp : ∀ g', (∀ e, g' 6 e = if e = ce (16 * h + w) ∧ ge_t X Y w h r < 0 then nI (ce (oth Z l h w r)) else g 6 e) → (∀ e, g' 7 e = if e = ce (oth Z l h w r) ∧ ge_t X Y w h r < 0 then nI (ce (16 * h + w)) else g 7 e) → fm [6, 7] [] g g' → post g') : wp_mo_join (nI h) (nI w) (nI r) (iI l) g post := by
  have ho := hS.1
  have n16 := ho.1
  have th := t.1; have tw := t.2.1; have tr := t.2.2.1
  obtain ⟨n1, n2, n3⟩ := ge_t_ne t.2.2.2.1
  have bt := ge_tb ho tw th tr
  unfold wp_mo_join
  try dsimp only
  refine mo_turn hS tw th tr ?_
  have z : iI (ge_t X Y w h r) < 0 ↔ ge_t X Y w h r < 0 := by rw [← iI_0, iI_lt bt.1 bt.2 (by omega) (by omega)]
  have noch : ¬ ge_t X Y w h r < 0 → post g := fun k => hp g (fun e => by rw [if_neg (fun q => k q.2)]) (fun e => by rw [if_neg (fun q => k q.2)]) fm.rf
  have doit : ge_t X Y w h r < 0 → ∀ e, e = ce (oth Z l h w r) → jn_mo_join_J34 (nI h) (nI w) (nI e) g post := fun k e he => by
    have e256 : e < 256 := by
      obtain ⟨y1, y2, y3, y4, y5⟩ := oth_c ho q1 q2 t
      rw [he, y5]; exact ce_lt y1 y2
    unfold jn_mo_join_J34
    try dsimp only
    refine mo_edge (by omega) (by omega) n1 ?_
    have cl := ce_lt (h := h) (w := w) (by omega) (by omega)
    rw [ix_nI (by omega)]
    refine ⟨vp_in_nI (by omega) (by omega), fun g9 e9 => mo_edge (by omega) (by omega) n1 ?_⟩
    rw [ix_nI (by omega)]
    refine ⟨vp_in_nI (by omega) (by omega), fun g12 e12 => hp g12 (fun e' => ?_) (fun e' => ?_) ?_⟩
    · rw [e12, gp_n (by decide), e9]
      by_cases q : e' = ce (16 * h + w)
      · rw [if_pos ⟨q, k⟩, q, gp_s, he]
      · rw [if_neg (fun w => q w.1), gp_o q]
    · rw [e12]
      by_cases q : e' = ce (oth Z l h w r)
      · rw [if_pos ⟨q, k⟩, q, he, gp_s]
      · rw [if_neg (fun w => q w.1), gp_o (by rw [he]; exact q), e9, gp_n (by decide)]
    · rw [e12, e9]; exact (fm.rf.pt (by decide) (by decide)).pt (by decide) (by decide)
  have body : ge_t X Y w h r < 0 → wp_mo_isHigh (nI r) (iI l) g (fun r4 g3 => ((r4 = 0 → (wp_mo_edgeOf (nI h) (nI r) g3 (fun r6 g5 => (jn_mo_join_J34 (nI h) (nI w) r6 g5 post)))) ∧ (¬ (r4 = 0) → (wp_mo_edgeOf (nI r) (nI w) g3 (fun r14 g13 => (jn_mo_join_J34 (nI h) (nI w) r14 g13 post)))))) := fun k => by
    refine mo_high hS tr hl (fun q => ⟨fun w => absurd w (by decide), fun _ => mo_edge (by omega) (by omega) (Ne.symm n3) ?_⟩) (fun q => ⟨fun _ => mo_edge (by omega) (by omega) n2 ?_, fun w => absurd rfl w⟩)
    · exact doit k _ (by rw [oth_h q])
    · exact doit k _ (by rw [oth_l q])
  exact ⟨fun k => body (z.mp k), fun k => noch (fun q => k (z.mpr q))⟩
theorem mo_pair {P : Nat → Nat → Nat → Prop} {a b c : Nat} {post : St → Prop} (hS : sM g n X Y Z) (hl : 0 ≤ l ∧ l ≤ 998) (t : ge_T X Y n a b c) (ok : jOk X Y Z n l P) (hm : jM X Y Z l P g)
    (hp : ∀ g' P', jOk X Y Z n l P' → jM X Y Z l P' g' → (∀ h w r, P' h w r ↔ (P h w r ∨ (hi Z l h ∧ ¬ hi Z l w ∧ ((h = a ∧ w = b ∧ r = c) ∨ (h = b ∧ w = a ∧ r = c))))) → fm [5, 6, 7] [] g g' → post g') : wp_mo_pair (nI a) (nI b) (nI c) (iI l) g post := by
  have ho := hS.1
  have n16 := ho.1
  have ta := t.1; have tb := t.2.1
  obtain ⟨n1, n2, n3⟩ := ge_t_ne t.2.2.2.1
  have cl := ce_lt (h := a) (w := b) (by omega) (by omega)
  have same : (¬ (hi Z l a ∧ ¬ hi Z l b)) → (¬ (hi Z l b ∧ ¬ hi Z l a)) → post g := fun k1 k2 => hp g P ok hm (fun h w r => ⟨Or.inl, fun q => by
    rcases q with q | ⟨q1, q2, ⟨rfl, rfl, rfl⟩ | ⟨rfl, rfl, rfl⟩⟩
    · exact q
    · exact absurd ⟨q1, q2⟩ k1
    · exact absurd ⟨q1, q2⟩ k2⟩) fm.rf
  -- a high and b low, or the other way
  have go : ∀ h w, hi Z l h → ¬ hi Z l w → ge_T X Y n h w c → ce (16 * h + w) = ce (16 * a + b) → ((h = a ∧ w = b) ∨ (h = b ∧ w = a)) → ∀ g1 : St, g1 = gp g 5 (ce (16 * a + b)) 1 → wp_mo_join (nI h) (nI w) (nI c) (iI l) g1 (fun g' => post g') := fun h w q1 q2 th ec hw g1 e1 => by
    have S1 : sM g1 n X Y Z := hS.fr (by rw [e1, gp_n (by decide)]) (by rw [e1, gp_n (by decide)]) (by rw [e1, gp_n (by decide)]) (by rw [e1, gp_n (by decide)])
    refine mo_join S1 hl q1 q2 th (fun g' a6 a7 f => ?_)
    refine hp g' _ (fun h' w' r' k => ?_) (jM_add ho ok hm q1 q2 th (fun e => ?_) (fun e => ?_) (fun e => ?_)) (fun h' w' r' => ?_) ?_
    · rcases k with k | ⟨rfl, rfl, rfl⟩
      · exact ok _ _ _ k
      · exact ⟨q1, q2, th⟩
    · rw [f.1 5 (by decide) (by decide), e1, ec]
      by_cases q : e = ce (16 * a + b)
      · rw [if_pos q, q, gp_s]
      · rw [if_neg q, gp_o q]
    · rw [a6, e1, gp_n (by decide)]
    · rw [a7, e1, gp_n (by decide)]
    · constructor
      · rintro (k | ⟨rfl, rfl, rfl⟩)
        · exact Or.inl k
        · refine Or.inr ⟨q1, q2, ?_⟩
          rcases hw with ⟨x, y⟩ | ⟨x, y⟩
          · exact Or.inl ⟨x, y, rfl⟩
          · exact Or.inr ⟨x, y, rfl⟩
      · rintro (k | ⟨k1, k2, k⟩)
        · exact Or.inl k
        · refine Or.inr ?_
          rcases hw with ⟨rfl, rfl⟩ | ⟨rfl, rfl⟩ <;> rcases k with ⟨rfl, rfl, rfl⟩ | ⟨rfl, rfl, rfl⟩
          · exact ⟨rfl, rfl, rfl⟩
          · exact absurd q1 k2
          · exact absurd q1 k2
          · exact ⟨rfl, rfl, rfl⟩
    · have f5 : fm [5, 6, 7] [] g g1 := by rw [e1]; exact fm.rf.pt (by decide) (by decide)
      exact f5.tr (f.mono (by decide) (by decide))
  unfold wp_mo_pair
  try dsimp only
  have ed : ∀ g1 : St, g1 = gp g 5 (ix (nI (ce (16 * a + b)))) (vp_nar .boolean 1) → g1 = gp g 5 (ce (16 * a + b)) 1 := fun g1 e => by rw [e, ix_nI (by omega), vn_1]
  refine mo_high hS ta hl (fun qa => mo_high hS tb hl (fun qb => ?_) (fun qb => ?_)) (fun qa => mo_high hS tb hl (fun qb => ?_) (fun qb => ?_))
  · exact ⟨fun k => absurd rfl k, fun _ => same (fun q => q.2 qb) (fun q => q.2 qa)⟩
  · refine ⟨fun _ => mo_edge (by omega) (by omega) n1 ⟨vp_in_nI (by omega) (by omega), fun g1 e1 => ?_⟩, fun k => absurd k (by decide)⟩
    have e1 := ed g1 e1
    have S1 : sM g1 n X Y Z := hS.fr (by rw [e1, gp_n (by decide)]) (by rw [e1, gp_n (by decide)]) (by rw [e1, gp_n (by decide)]) (by rw [e1, gp_n (by decide)])
    exact mo_high S1 ta hl (fun _ => ⟨fun k => absurd k (by decide), fun _ => go a b qa qb t rfl (Or.inl ⟨rfl, rfl⟩) g1 e1⟩) (fun k => absurd qa k)
  · refine ⟨fun _ => mo_edge (by omega) (by omega) n1 ⟨vp_in_nI (by omega) (by omega), fun g1 e1 => ?_⟩, fun k => absurd k (by decide)⟩
    have e1 := ed g1 e1
    have S1 : sM g1 n X Y Z := hS.fr (by rw [e1, gp_n (by decide)]) (by rw [e1, gp_n (by decide)]) (by rw [e1, gp_n (by decide)]) (by rw [e1, gp_n (by decide)])
    exact mo_high S1 ta hl (fun k => absurd k qa) (fun _ => ⟨fun _ => go b a qb qa (T_wh t) (ce_sym (by omega) (by omega) (Ne.symm n1)) (Or.inr ⟨rfl, rfl⟩) g1 e1, fun k => absurd rfl k⟩)
  · exact ⟨fun k => absurd rfl k, fun _ => same (fun q => qa q.1) (fun q => qb q.1)⟩
end
end
section
/-! The reference gathers a contour. -/
def fM (X Y Z : Nat → Int) (n : Nat) (l : Int) (g : St) : Prop := ∀ x, cS X Y Z n l x → g 6 (ce x) = on ((cN X Y Z n l x).map ce) ∧ g 7 (ce x) = on ((cB X Y Z n l x).map ce)
def lM (s : Ct) (g : St) : Prop := g 0 11 = nI s.1 ∧ g 0 15 = nI (s.2.1 s.1) ∧ (∀ k, k < s.1 → g 9 k = nI (s.2.1 k) ∧ g 10 k = nI (s.2.1 (k + 1) - s.2.1 k) ∧ (s.2.2.2 k → g 11 k = 1) ∧ (¬ s.2.2.2 k → g 11 k = 0)) ∧
  (∀ i, i < s.2.1 s.1 → g 12 i = nI (ce (s.2.2.1 i))) ∧ ∀ e, e < 256 → ((∃ x, ct_T s x ∧ ce x = e) → g 8 e = 1) ∧ ((¬ ∃ x, ct_T s x ∧ ce x = e) → g 8 e = 0)
section
variable {g : St} {n : Nat} {X Y Z : Nat → Int} {l : Int}
theorem ce_256 (ho : ge_ok X Y n) {x : Nat} (h : cS X Y Z n l x) : ce x < 256 := by
  obtain ⟨x1, x2, x3, -⟩ := cS_lt ho h
  have n16 := ho.1
  unfold ce; split <;> omega
theorem onc_neg (ho : ge_ok X Y n) {o : Option Nat} (h : ∀ y, o = some y → cS X Y Z n l y) : on (o.map ce) < 0 ↔ o = none := by
  cases o with
  | none => exact ⟨fun _ => rfl, fun _ => by decide⟩
  | some y =>
    have := ce_256 ho (h y rfl)
    exact ⟨fun q => absurd q (nI_pos (by omega)), fun q => by cases q⟩
theorem mo_gather {s : Ct} {x : Nat} {post : St → Prop} (ho : ge_ok X Y n) (hf : fM X Y Z n l g) (hs : ct_ok X Y Z n l s) (hl : lM s g) (hx : cS X Y Z n l x) (nt : ¬ ct_T s x)
    (h2 : ∀ g', lM (ct_add X Y Z n l s x) g' → fm [8, 9, 10, 11, 12] [11, 15] g g' → post g') : wp_mo_gather (nI (ce x)) g post := by
  have x1 := ce_256 ho hx
  obtain ⟨c1, c2⟩ := ct_120 ho hs
  obtain ⟨q1, q2, q3, q4, q5⟩ := id hl
  obtain ⟨aok, aT⟩ := ct_add_ok ho hs hx nt
  obtain ⟨a1, a2⟩ := ct_120 ho aok
  obtain ⟨c, O, F, G⟩ := s
  have e1 : (ct_add X Y Z n l (c, O, F, G) x).1 = c + 1 := rfl
  have eO1 : (ct_add X Y Z n l (c, O, F, G) x).2.1 (c + 1) = O c + (ln X Y Z n l x + 1) := if_pos rfl
  rw [e1, eO1] at a1 a2
  try dsimp only at q1 q2 q3 q4 q5 c1 c2
  have hb := bg_ok ho hx
  have hm := ln_ok ho hx
  have fS := bg_S ho hx
  have f1 := ce_256 ho fS
  obtain ⟨k, k120, hk⟩ := cB_is ho hx
  have eqc : ∀ {y z : Nat}, cS X Y Z n l y → cS X Y Z n l z → (nI (ce y) = nI (ce z) ↔ y = z) := fun {y z} hy hz => by
    have := ce_256 ho hy
    have := ce_256 ho hz
    rw [nI_eq (by omega) (by omega)]
    exact ⟨fun e => ce_inj ho hy hz e, fun e => by rw [e]⟩
  -- the second half
  have J : ∀ b : Int32, ((b = 1 ∧ cB X Y Z n l (bg X Y Z n l x) ≠ none) ∨ (b = 0 ∧ cB X Y Z n l (bg X Y Z n l x) = none)) → jn_mo_gather_J38 (nI (ce (bg X Y Z n l x))) b g post := by
    intro b hbb
    generalize hm9 : ln X Y Z n l x = m at *
    generalize hf9 : bg X Y Z n l x = f at *
    unfold jn_mo_gather_J38
    try dsimp only
    rw [q1, q2, ix_nI (by omega)]
    refine ⟨vp_in_nI (by omega) (by omega), fun g4 e4 => ?_⟩
    have g4c : g4 0 11 = nI c := by rw [e4, gp_n (by decide)]; exact q1
    rw [g4c, ix_nI (by omega)]
    refine ⟨vp_in_nI (by omega) (by omega), fun g5 e5 => ?_⟩
    have vb : vp_nar .boolean b = b := by rcases hbb with ⟨rfl, -⟩ | ⟨rfl, -⟩; exact vn_1; exact vn_0
    rw [vb] at e5
    have f5 : ∀ k, k ≠ 9 → k ≠ 11 → g5 k = g k := fun k a b => by rw [e5, gp_n b, e4, gp_n a]
    have fin : ∀ g9 : St, (∀ k, k ≠ 0 → k ≠ 8 → k ≠ 12 → g9 k = g5 k) → (∀ j, j ≠ 15 → g9 0 j = g 0 j) → g9 0 15 = nI (O c + (m + 1)) → (∀ i, i < O c → g9 12 i = g 12 i) → (∀ j y, j ≤ m → cr_w (cN X Y Z n l) j f = some y → g9 12 (O c + j) = nI (ce y)) →
        (∀ z, z < 256 → (∃ j y, j ≤ m ∧ cr_w (cN X Y Z n l) j f = some y ∧ ce y = z) → g9 8 z = 1) → (∀ z, z < 256 → (¬ ∃ j y, j ≤ m ∧ cr_w (cN X Y Z n l) j f = some y ∧ ce y = z) → g9 8 z = g 8 z) →
        (vp_in (g9 0 11) 130 ∧ (vp_in (g9 0 11) 130 ∧ ∀ g10 : St, g10 = gp g9 10 (ix (g9 0 11)) ((g9 0 15) - (g9 9 (ix (g9 0 11)))) → (∀ g11 : St, g11 = gp g10 0 11 ((g10 0 11) + 1) → (post g11)))) := by
      intro g9 k1 k2 k3 k4 k5 k6 k7
      have c9 : g9 0 11 = nI c := by rw [k2 11 (by decide)]; exact q1
      have b9 : g9 9 c = nI (O c) := by rw [k1 9 (by decide) (by decide) (by decide), e5, gp_n (by decide), e4]; exact gp_s
      rw [c9, ix_nI (by omega), k3, b9, pk_sub (by omega), Nat.add_sub_cancel_left]
      refine ⟨vp_in_nI (by omega) (by omega), vp_in_nI (by omega) (by omega), fun g10 e10 g11 e11 => ?_⟩
      have c10 : g10 0 11 = nI c := by rw [e10, gp_n (by decide)]; exact c9
      rw [c10, nI_1] at e11
      refine h2 g11 ⟨?_, ?_, fun k hk => ?_, fun i hi => ?_, fun z hz => ?_⟩ ⟨fun k k0 hk => ?_, fun j hj => ?_⟩
      · rw [e11]; exact gp_s
      · rw [e1, eO1, e11, gp_o (by decide), e10, gp_n (by decide)]; exact k3
      · rw [e1] at hk
        have w9 : g11 9 = g9 9 := by rw [e11, gp_n (by decide), e10, gp_n (by decide)]
        have w10 : g11 10 = g10 10 := by rw [e11, gp_n (by decide)]
        have w11 : g11 11 = g9 11 := by rw [e11, gp_n (by decide), e10, gp_n (by decide)]
        rw [w9, w10, w11, k1 11 (by decide) (by decide) (by decide)]
        by_cases e : k = c
        · subst e
          have oc : (ct_add X Y Z n l (k, O, F, G) x).2.1 k = O k := if_neg (by omega)
          have gc : (ct_add X Y Z n l (k, O, F, G) x).2.2.2 k = (cB X Y Z n l (bg X Y Z n l x) ≠ none) := if_pos rfl
          rw [oc, eO1, gc, hf9, Nat.add_sub_cancel_left]
          refine ⟨b9, by rw [e10]; exact gp_s, ?_⟩
          rw [e5, gp_s]
          rcases hbb with ⟨rfl, w⟩ | ⟨rfl, w⟩
          · exact ⟨fun _ => rfl, fun u => absurd w u⟩
          · exact ⟨fun u => absurd w u, fun _ => rfl⟩
        · have oc : (ct_add X Y Z n l (c, O, F, G) x).2.1 k = O k := if_neg (by omega)
          have oc1 : (ct_add X Y Z n l (c, O, F, G) x).2.1 (k + 1) = O (k + 1) := if_neg (by omega)
          have gc : (ct_add X Y Z n l (c, O, F, G) x).2.2.2 k = G k := if_neg e
          rw [oc, oc1, gc]
          obtain ⟨r1, r2, r3⟩ := q3 k (by omega)
          refine ⟨?_, ?_, ?_⟩
          · rw [k1 9 (by decide) (by decide) (by decide), e5, gp_n (by decide), e4, gp_o e]; exact r1
          · rw [e10, gp_o e, k1 10 (by decide) (by decide) (by decide), f5 10 (by decide) (by decide)]; exact r2
          · rw [e5, gp_o e, e4, gp_n (by decide)]; exact r3
      · rw [e1, eO1] at hi
        have w12 : g11 12 = g9 12 := by rw [e11, gp_n (by decide), e10, gp_n (by decide)]
        rw [w12]
        rcases Nat.lt_or_ge i (O c) with q | q
        · have : (ct_add X Y Z n l (c, O, F, G) x).2.2.1 i = F i := if_pos q
          rw [this, k4 i q]; exact q4 i q
        · obtain ⟨j, rfl⟩ : ∃ j, i = O c + j := ⟨i - O c, by omega⟩
          have : (ct_add X Y Z n l (c, O, F, G) x).2.2.1 (O c + j) = (cr_w (cN X Y Z n l) ((O c + j) - O c) (bg X Y Z n l x)).getD 0 := if_neg (show ¬ (O c + j < O c) by omega)
          obtain ⟨⟨ye, y1, -⟩, -⟩ := id hm
          rw [show m = j + (m - j) by omega] at y1
          obtain ⟨y, hy⟩ := cr_w_le _ _ y1
          rw [this, hf9, Nat.add_sub_cancel_left, hy, k5 j y (by omega) hy]; rfl
      · have w8 : g11 8 = g9 8 := by rw [e11, gp_n (by decide), e10, gp_n (by decide)]
        rw [w8]
        constructor
        · rintro ⟨y, t, ey⟩
          rcases (aT y).mp t with t | ⟨j, j1, j2⟩
          · by_cases w : ∃ j y, j ≤ m ∧ cr_w (cN X Y Z n l) j f = some y ∧ ce y = z
            · exact k6 z hz w
            · rw [k7 z hz w]; exact (q5 z hz).1 ⟨y, t, ey⟩
          · exact k6 z hz ⟨j, y, j1, j2, ey⟩
        · intro w
          rw [k7 z hz (fun ⟨j, y, j1, j2, ey⟩ => w ⟨y, (aT y).mpr (Or.inr ⟨j, j1, j2⟩), ey⟩)]
          exact (q5 z hz).2 (fun ⟨y, t, ey⟩ => w ⟨y, (aT y).mpr (Or.inl t), ey⟩)
      · simp only [List.mem_cons, List.not_mem_nil, or_false, not_or] at hk
        rw [e11, gp_n k0, e10, gp_n hk.2.2.1, k1 k k0 hk.1 hk.2.2.2.2, f5 k hk.2.1 hk.2.2.2.1]
      · simp only [List.mem_cons, List.not_mem_nil, or_false, not_or] at hj
        rw [e11, gp_o hj.1, e10, gp_n (by decide), k2 j hj.2]
    have loop : ∀ d j y (g6 : St), j + d = m → cr_w (cN X Y Z n l) j f = some y → (∀ k, k ≠ 0 → k ≠ 8 → k ≠ 12 → g6 k = g5 k) → (∀ j, j ≠ 15 → g6 0 j = g 0 j) → g6 0 15 = nI (O c + j) → (∀ i, i < O c → g6 12 i = g 12 i) → (∀ j' y, j' < j → cr_w (cN X Y Z n l) j' f = some y → g6 12 (O c + j') = nI (ce y)) →
        (∀ z, z < 256 → (∃ j' y, j' < j ∧ cr_w (cN X Y Z n l) j' f = some y ∧ ce y = z) → g6 8 z = 1) → (∀ z, z < 256 → (¬ ∃ j' y, j' < j ∧ cr_w (cN X Y Z n l) j' f = some y ∧ ce y = z) → g6 8 z = g 8 z) →
        lp_mo_gather_L67 (d + 2) (nI (ce f)) (nI (ce y)) 1 g6 (fun g9 => (vp_in (g9 0 11) 130 ∧ (vp_in (g9 0 11) 130 ∧ ∀ g10 : St, g10 = gp g9 10 (ix (g9 0 11)) ((g9 0 15) - (g9 9 (ix (g9 0 11)))) → (∀ g11 : St, g11 = gp g10 0 11 ((g10 0 11) + 1) → (post g11))))) post := by
      intro d
      induction d with
      | zero =>
        intro j y g6 hj hy k1 k2 k3 k4 k5 k6 k7
        have ej : j = m := by omega
        subst ej
        have ys : cS X Y Z n l y := cr_w_S (fun _ _ q => cN_S ho q) j fS hy
        have y256 := ce_256 ho ys
        show lp_mo_gather_L67 (1 + 1) _ _ _ _ _ _
        unfold lp_mo_gather_L67
        try dsimp only
        rw [k3, ix_nI (by omega), ix_nI (by omega)]
        refine ⟨fun u => absurd u (by decide), fun _ => ⟨vp_in_nI (by omega) (by omega), fun g7 e7 g8 e8 => ⟨vp_in_nI (by omega) (by omega), fun g9 e9 => ⟨vp_in_nI (by omega) (by omega), ?_⟩⟩⟩⟩
        have c7 : g7 0 15 = nI (O c + j) := by rw [e7, gp_n (by decide)]; exact k3
        rw [c7, nI_1] at e8
        rw [vn_1] at e9
        have n6 : g9 6 (ce y) = on ((cN X Y Z n l y).map ce) := by
          rw [e9, gp_n (by decide), e8, gp_n (by decide), e7, gp_n (by decide), k1 6 (by decide) (by decide) (by decide), f5 6 (by decide) (by decide)]
          exact (hf y ys).1
        have ng := onc_neg (X := X) (Y := Y) (Z := Z) (n := n) (l := l) ho (o := cN X Y Z n l y) (fun z hz => cN_S ho hz)
        have done : ∀ v4, lp_mo_gather_L67 1 (nI (ce f)) v4 0 g9 (fun g9 => (vp_in (g9 0 11) 130 ∧ (vp_in (g9 0 11) 130 ∧ ∀ g10 : St, g10 = gp g9 10 (ix (g9 0 11)) ((g9 0 15) - (g9 9 (ix (g9 0 11)))) → (∀ g11 : St, g11 = gp g10 0 11 ((g10 0 11) + 1) → (post g11))))) post := fun v4 => by
          show lp_mo_gather_L67 (0 + 1) _ _ _ _ _ _
          unfold lp_mo_gather_L67
          try dsimp only
          refine ⟨fun _ => fin g9 (fun k k0 a b => ?_) (fun i hi => ?_) ?_ (fun i hi => ?_) (fun j' y' a b => ?_) (fun z hz ⟨j', y', a, b, e⟩ => ?_) (fun z hz w => ?_), fun u => absurd rfl u⟩
          · rw [e9, gp_n a, e8, gp_n k0, e7, gp_n b]; exact k1 k k0 a b
          · rw [e9, gp_n (by decide), e8, gp_o hi, e7, gp_n (by decide)]; exact k2 i hi
          · rw [e9, gp_n (by decide), e8]; exact gp_s
          · rw [e9, gp_n (by decide), e8, gp_n (by decide), e7, gp_o (by omega)]; exact k4 i hi
          · rw [e9, gp_n (by decide), e8, gp_n (by decide), e7]
            by_cases e : j' = j
            · rw [e] at b ⊢
              rw [hy] at b
              cases b
              exact gp_s
            · rw [gp_o (by omega)]; exact k5 j' y' (by omega) b
          · rw [e9]
            by_cases q : z = ce y
            · rw [q]; exact gp_s
            · rw [gp_o q, e8, gp_n (by decide), e7, gp_n (by decide)]
              refine k6 z hz ⟨j', y', ?_, b, e⟩
              have : j' ≠ j := fun q' => q (by rw [q', hy] at b; cases b; exact e.symm)
              omega
          · have q : z ≠ ce y := fun q => w ⟨j, y, by omega, hy, q.symm⟩
            rw [e9, gp_o q, e8, gp_n (by decide), e7, gp_n (by decide)]
            exact k7 z hz (fun ⟨j', y', a, b, e⟩ => w ⟨j', y', by omega, b, e⟩)
        rw [n6]
        refine ⟨fun _ => done _, fun u => ⟨fun _ => done _, fun w => ?_⟩⟩
        obtain ⟨⟨ye, y1, y2⟩, -⟩ := id hm
        rw [hy] at y1
        cases y1
        rcases y2 with y2 | y2
        · exact absurd (ng.mpr y2) u
        · rw [y2] at w; exact absurd rfl w
      | succ d ih =>
        intro j y g6 hj hy k1 k2 k3 k4 k5 k6 k7
        have ys : cS X Y Z n l y := cr_w_S (fun _ _ q => cN_S ho q) j fS hy
        have y256 := ce_256 ho ys
        obtain ⟨⟨ye, y1, -⟩, nb⟩ := id hm
        rw [show m = (j + 1) + d by omega] at y1
        obtain ⟨z, hz⟩ := cr_w_le _ _ y1
        have nz : cN X Y Z n l y = some z := by rw [cr_w_s hy] at hz; exact hz
        have zs := cN_S ho nz
        have z256 := ce_256 ho zs
        have zf : z ≠ f := fun e => nb (j + 1) (by omega) (by omega) (by rw [hz, e])
        show lp_mo_gather_L67 ((d + 2) + 1) _ _ _ _ _ _
        unfold lp_mo_gather_L67
        try dsimp only
        rw [k3, ix_nI (by omega), ix_nI (by omega)]
        refine ⟨fun u => absurd u (by decide), fun _ => ⟨vp_in_nI (by omega) (by omega), fun g7 e7 g8 e8 => ⟨vp_in_nI (by omega) (by omega), fun g9 e9 => ⟨vp_in_nI (by omega) (by omega), ?_⟩⟩⟩⟩
        have c7 : g7 0 15 = nI (O c + j) := by rw [e7, gp_n (by decide)]; exact k3
        rw [c7, nI_1] at e8
        rw [vn_1] at e9
        have n6 : g9 6 (ce y) = nI (ce z) := by
          rw [e9, gp_n (by decide), e8, gp_n (by decide), e7, gp_n (by decide), k1 6 (by decide) (by decide) (by decide), f5 6 (by decide) (by decide), (hf y ys).1, nz]; rfl
        rw [n6]
        refine ⟨fun u => absurd u (nI_pos (by omega)), fun _ => ⟨fun u => absurd ((eqc zs fS).mp u) zf, fun _ => ?_⟩⟩
        refine ih (j + 1) z g9 (by omega) hz (fun k k0 a b => ?_) (fun i hi => ?_) ?_ (fun i hi => ?_) (fun j' y' a b => ?_) (fun z' hz' ⟨j', y', a, b, e⟩ => ?_) (fun z' hz' w => ?_)
        · rw [e9, gp_n a, e8, gp_n k0, e7, gp_n b]; exact k1 k k0 a b
        · rw [e9, gp_n (by decide), e8, gp_o hi, e7, gp_n (by decide)]; exact k2 i hi
        · rw [e9, gp_n (by decide), e8]; exact gp_s
        · rw [e9, gp_n (by decide), e8, gp_n (by decide), e7, gp_o (by omega)]; exact k4 i hi
        · rw [e9, gp_n (by decide), e8, gp_n (by decide), e7]
          by_cases e : j' = j
          · rw [e] at b ⊢
            rw [hy] at b
            cases b
            exact gp_s
          · rw [gp_o (by omega)]; exact k5 j' y' (by omega) b
        · rw [e9]
          by_cases q : z' = ce y
          · rw [q]; exact gp_s
          · rw [gp_o q, e8, gp_n (by decide), e7, gp_n (by decide)]
            refine k6 z' hz' ⟨j', y', ?_, b, e⟩
            have : j' ≠ j := fun q' => q (by rw [q', hy] at b; cases b; exact e.symm)
            omega
        · have q : z' ≠ ce y := fun q => w ⟨j, y, by omega, hy, q.symm⟩
          rw [e9, gp_o q, e8, gp_n (by decide), e7, gp_n (by decide)]
          exact k7 z' hz' (fun ⟨j', y', a, b, e⟩ => w ⟨j', y', by omega, b, e⟩)
    refine ⟨m + 2, loop m 0 f g5 (by omega) rfl (fun _ _ _ _ => rfl) (fun j hj => ?_) ?_ (fun i hi => ?_) (fun j' y a _ => absurd a (by omega)) (fun z _ ⟨j', y, a, _⟩ => absurd a (by omega)) (fun z _ _ => ?_)⟩
    · rw [f5 0 (by decide) (by decide)]
    · rw [f5 0 (by decide) (by decide)]; exact q2
    · rw [f5 12 (by decide) (by decide)]
    · rw [f5 8 (by decide) (by decide)]
  -- back to the beginning
  unfold wp_mo_gather
  try dsimp only
  have back : ∀ d i y, i + d = k → cr_w (cB X Y Z n l) i x = some y → lp_mo_gather_L4 (d + 2) (nI (ce x)) (nI (ce y)) 0 g (fun w2 w3 g1 => (jn_mo_gather_J38 w2 w3 g1 post)) post := by
    intro d
    induction d with
    | zero =>
      intro i y hi hy
      have ei : i = k := by omega
      subst ei
      have ys : cS X Y Z n l y := cr_w_S (fun _ _ q => cB_S ho q) i hx hy
      have y256 := ce_256 ho ys
      have ng := onc_neg (X := X) (Y := Y) (Z := Z) (n := n) (l := l) ho (o := cB X Y Z n l y) (fun z hz => cB_S ho hz)
      show lp_mo_gather_L4 (1 + 1) _ _ _ _ _ _
      unfold lp_mo_gather_L4
      try dsimp only
      rw [ix_nI (by omega), (hf y ys).2]
      obtain ⟨⟨y', e1, e2⟩, -⟩ := id hk
      rw [hy] at e1
      cases e1
      rcases e2 with e2 | e2
      · have eb : bg X Y Z n l x = y := cr_beg_u hb ⟨i, hk, Or.inl ⟨y, hy, e2, rfl⟩⟩
        have j0 := J 0 (Or.inr ⟨rfl, by rw [eb]; exact e2⟩)
        rw [eb] at j0
        refine ⟨vp_in_nI (by omega) (by omega), fun _ => j0, fun u => absurd (ng.mpr e2) u⟩
      · have eb : bg X Y Z n l x = x := cr_beg_u hb ⟨i, hk, Or.inr ⟨y, hy, e2, rfl⟩⟩
        have nb : cB X Y Z n l x ≠ none := by
          rcases Nat.eq_zero_or_pos i with i0 | i0
          · subst i0
            cases hy
            rw [e2]; exact fun q => by cases q
          · intro q
            rw [show i = 1 + (i - 1) by omega] at hy
            obtain ⟨z, hz⟩ := cr_w_le _ _ hy
            have : cr_w (cB X Y Z n l) (0 + 1) x = cB X Y Z n l x := cr_w_s rfl
            rw [show (1 : Nat) = 0 + 1 from rfl, this, q] at hz
            cases hz
        have j1 := J 1 (Or.inl ⟨rfl, by rw [eb]; exact nb⟩)
        rw [eb] at j1
        rw [e2]
        show vp_in (nI (ce y)) 256 ∧ _
        refine ⟨vp_in_nI (by omega) (by omega), fun u => absurd u (nI_pos (n := ce x) (by omega)), fun _ => ⟨fun u => absurd rfl u, fun _ => ⟨vp_in_nI (by omega) (by omega), fun u => absurd rfl u, fun _ => ?_⟩⟩⟩
        show lp_mo_gather_L4 (0 + 1) (nI (ce x)) (nI (ce x)) 1 g _ _
        unfold lp_mo_gather_L4
        try dsimp only
        exact ⟨vp_in_nI (by omega) (by omega), fun _ => j1, fun _ => ⟨fun _ => j1, fun u => absurd u (by decide)⟩⟩
    | succ d ih =>
      intro i y hi hy
      have ys : cS X Y Z n l y := cr_w_S (fun _ _ q => cB_S ho q) i hx hy
      have y256 := ce_256 ho ys
      obtain ⟨⟨ye, y1, -⟩, nb⟩ := id hk
      rw [show k = (i + 1) + d by omega] at y1
      obtain ⟨z, hz⟩ := cr_w_le _ _ y1
      have nz : cB X Y Z n l y = some z := by rw [cr_w_s hy] at hz; exact hz
      have zs := cB_S ho nz
      have z256 := ce_256 ho zs
      have zx : z ≠ x := fun e => nb (i + 1) (by omega) (by omega) (by rw [hz, e])
      show lp_mo_gather_L4 ((d + 2) + 1) _ _ _ _ _ _
      unfold lp_mo_gather_L4
      try dsimp only
      rw [ix_nI (by omega), (hf y ys).2, nz]
      show vp_in (nI (ce y)) 256 ∧ _
      refine ⟨vp_in_nI (by omega) (by omega), fun u => absurd u (nI_pos (n := ce z) (by omega)), fun _ => ⟨fun u => absurd rfl u, fun _ => ⟨vp_in_nI (by omega) (by omega), fun _ => ih (i + 1) z (by omega) hz, fun u => ?_⟩⟩⟩
      exact absurd ((eqc zs hx).mp u) zx
  exact ⟨k + 2, back k 0 x (by omega) rfl⟩
end
end
section
/-! The reference finds the contours of a level. -/
section
variable {g : St} {n : Nat} {X Y Z : Nat → Int} {l : Int}
theorem jP_app {L : List Nat} {k h w r : Nat} : jP Z l (L ++ [k]) h w r ↔ jP Z l L h w r ∨ (hi Z l h ∧ ¬ hi Z l w ∧ ge_pm (k / 256) (k / 16 % 16) (k % 16) h w r) := by
  unfold jP
  constructor
  · rintro ⟨h1, h2, x, h3, h4⟩
    rcases List.mem_append.mp h3 with q | q
    · exact Or.inl ⟨h1, h2, x, q, h4⟩
    · rw [List.mem_singleton.mp q] at h4; exact Or.inr ⟨h1, h2, h4⟩
  · rintro (⟨h1, h2, x, h3, h4⟩ | ⟨h1, h2, h4⟩)
    · exact ⟨h1, h2, x, List.mem_append_left _ h3, h4⟩
    · exact ⟨h1, h2, k, List.mem_append_right _ (List.mem_singleton.mpr rfl), h4⟩
theorem jM_ext {P Q : Nat → Nat → Nat → Prop} (h : ∀ a b c, P a b c ↔ Q a b c) (hm : jM X Y Z l P g) : jM X Y Z l Q g := by
  have : P = Q := by funext a b c; exact propext (h a b c)
  rw [← this]; exact hm
/-- all triangles processed: what the tables hold -/
theorem jM_all (ho : ge_ok X Y n) (hm : jM X Y Z l (jP Z l (tl X Y n 4096)) g) : fM X Y Z n l g ∧ ∀ e, e < 256 → ((∃ x, cS X Y Z n l x ∧ ce x = e) → g 5 e = 1) ∧ ((¬ ∃ x, cS X Y Z n l x ∧ ce x = e) → g 5 e = 0) := by
  have n16 := ho.1
  obtain ⟨⟨m1, m2⟩, ⟨m3, m4⟩, m5, m6⟩ := hm
  have T_of : ∀ {h w r}, jP Z l (tl X Y n 4096) h w r → ge_T X Y n h w r := fun {h w r} ⟨_, _, x, q1, q2⟩ => ge_pm_T (ge_T_of ho (tl_mem.mp q1).2) q2
  have P_of : ∀ {h w r}, hi Z l h → ¬ hi Z l w → ge_T X Y n h w r → jP Z l (tl X Y n 4096) h w r := fun {h w r} q1 q2 t => by
    obtain ⟨e1, e2, e3⟩ := ge_t_ne t.2.2.2.1
    obtain ⟨a, b, c, h1, h2, h3, h4⟩ := srt e1 e2 e3
    have tr := ge_tri_of ho (ge_pm_T t h4) h1 h2
    have := tr.2.2.1
    have k1 : (256 * a + 16 * b + c) / 256 = a := by omega
    have k2 : (256 * a + 16 * b + c) / 16 % 16 = b := by omega
    have k3 : (256 * a + 16 * b + c) % 16 = c := by omega
    exact ⟨q1, q2, 256 * a + 16 * b + c, tl_mem.mpr ⟨by omega, by rw [k1, k2, k3]; exact tr⟩, by rw [k1, k2, k3]; exact h3⟩
  have S_of : ∀ {h w r}, jP Z l (tl X Y n 4096) h w r → cS X Y Z n l (16 * h + w) := fun {h w r} p => by
    have t := T_of p
    have d1 : (16 * h + w) / 16 = h := by have := t.2.1; omega
    have d2 : (16 * h + w) % 16 = w := by have := t.2.1; omega
    refine ⟨by rw [d1, d2]; exact ⟨p.1, p.2.1⟩, ?_⟩
    rw [d1, d2]
    rcases Int.lt_or_lt_of_ne t.2.2.2.1 with q | q
    · exact Or.inl ⟨r, rr_some.mpr ⟨t, q⟩⟩
    · refine Or.inr ⟨r, rr_some.mpr ⟨T_wh t, ?_⟩⟩
      have a := ge_t_rot X Y w h r
      have b := ge_t_sw X Y h w r
      omega
  refine ⟨fun x hx => ?_, fun e he => ⟨?_, fun k => ?_⟩⟩
  · obtain ⟨x1, x2, x3, x4⟩ := cS_lt ho hx
    have ex : 16 * (x / 16) + x % 16 = x := by omega
    have c256 : ce x < 256 := by rw [← ex]; exact ce_lt (by omega) (by omega)
    constructor
    · cases q : cN X Y Z n l x with
      | none =>
        refine m4 (ce x) c256 (fun h w r p s e => ?_)
        have t := T_of p
        obtain ⟨z1, z2⟩ := ce_hw (h := h) (w := w) (h' := x / 16) (w' := x % 16) (by have := t.1; omega) (by have := t.2.1; omega) (by omega) (by omega) p.1 p.2.1 hx.1.1 hx.1.2 (by rw [ex]; exact e)
        rw [cN_eq hx.1, ← z1, ← z2, rr_some.mpr ⟨T_wh t, s⟩] at q
        cases q
      | some y =>
        obtain ⟨-, r, r1, r2⟩ := cN_p q
        have R := rr_some.mp r1
        have := m3 (x / 16) (x % 16) r (P_of hx.1.1 hx.1.2 (T_wh R.1)) R.2
        rw [ex, ← r2] at this
        exact this
    · cases q : cB X Y Z n l x with
      | none =>
        refine m6 (ce x) c256 (fun h w r p s e => ?_)
        have t := T_of p
        have th : h < 16 := by have := t.1; omega
        have tw : w < 16 := by have := t.2.1; omega
        obtain ⟨y1, y2, y3, y4, y5⟩ := oth_c ho p.1 p.2.1 t
        have e' : ce (16 * (oth Z l h w r / 16) + oth Z l h w r % 16) = ce (16 * (x / 16) + x % 16) := by rw [← y5, ex]; exact e
        obtain ⟨z1, z2⟩ := ce_hw y1 y2 (by omega) (by omega) y3 y4 hx.1.1 hx.1.2 e'
        have eo : oth Z l h w r = x := by omega
        have d1 : (16 * h + w) / 16 = h := by omega
        have d2 : (16 * h + w) % 16 = w := by omega
        have cn : cN X Y Z n l (16 * h + w) = some (oth Z l h w r) := by
          rw [cN_eq (by rw [d1, d2]; exact ⟨p.1, p.2.1⟩), d1, d2, rr_some.mpr ⟨T_wh t, s⟩]; rfl
        rw [eo] at cn
        rw [cNB ho cn] at q
        cases q
      | some y =>
        have cn := cBN ho q
        obtain ⟨yh, r, r1, r2⟩ := cN_p cn
        have ys := cB_S ho q
        obtain ⟨b1, b2, b3, b4⟩ := cS_lt ho ys
        have R := rr_some.mp r1
        have := m5 (y / 16) (y % 16) r (P_of yh.1 yh.2 (T_wh R.1)) R.2
        rw [← r2, show 16 * (y / 16) + y % 16 = y by omega] at this
        exact this
  · rintro ⟨x, hx, rfl⟩
    obtain ⟨x1, x2, x3, x4⟩ := cS_lt ho hx
    have ex : 16 * (x / 16) + x % 16 = x := by omega
    rcases hx.2 with ⟨r, r1⟩ | ⟨r, r1⟩
    · have := m1 (x / 16) (x % 16) r (P_of hx.1.1 hx.1.2 (rr_some.mp r1).1)
      rw [ex] at this; exact this
    · have := m1 (x / 16) (x % 16) r (P_of hx.1.1 hx.1.2 (T_wh (rr_some.mp r1).1))
      rw [ex] at this; exact this
  · exact m2 e he (fun h w r p q => k ⟨16 * h + w, S_of p, q⟩)
theorem ce_hc (ho : ge_ok X Y n) {e : Nat} (he : e < 256) (h : e / 16 < e % 16) : ce (hc Z l e) = e := by
  by_cases q : hi Z l (e / 16)
  · have : hc Z l e = e := @if_pos _ (Classical.propDecidable _) q _ _ _
    rw [this]; unfold ce; rw [if_pos h]; omega
  · have : hc Z l e = 16 * (e % 16) + e / 16 := @if_neg _ (Classical.propDecidable _) q _ _ _
    rw [this, ce_16 (by omega) (by omega), if_neg (by omega)]; omega
theorem hc_ce (ho : ge_ok X Y n) {x : Nat} (h : cS X Y Z n l x) : hc Z l (ce x) = x ∧ ce x / 16 < ce x % 16 := by
  obtain ⟨x1, x2, x3, x4⟩ := cS_lt ho h
  have n16 := ho.1
  unfold ce
  by_cases q : x / 16 < x % 16
  · rw [if_pos q]
    have d1 : (16 * (x / 16) + x % 16) / 16 = x / 16 := by omega
    refine ⟨?_, by omega⟩
    have : hc Z l (16 * (x / 16) + x % 16) = 16 * (x / 16) + x % 16 := @if_pos _ (Classical.propDecidable _) (by rw [d1]; exact h.1.1) _ _ _
    rw [this]; omega
  · rw [if_neg q]
    have d1 : (16 * (x % 16) + x / 16) / 16 = x % 16 := by omega
    have d2 : (16 * (x % 16) + x / 16) % 16 = x / 16 := by omega
    refine ⟨?_, by omega⟩
    have : hc Z l (16 * (x % 16) + x / 16) = 16 * ((16 * (x % 16) + x / 16) % 16) + (16 * (x % 16) + x / 16) / 16 := @if_neg _ (Classical.propDecidable _) (by rw [d1]; exact h.1.2) _ _ _
    rw [this]; omega
/-- THE CONTOURS FOUND -/
theorem mo_contours {post : St → Prop} (hS : sM g n X Y Z) (hM : mM (tl X Y n 4096) g) (hl : 0 ≤ l ∧ l ≤ 998)
    (h : ∀ g', lM (ct X Y Z n l 256) g' → fm [5, 6, 7, 8, 9, 10, 11, 12] [11, 15] g g' → post g') : wp_mo_findContours (iI l) g post := by
  have ho := hS.1
  have n16 := ho.1
  have L27 := tl_27 (k := 4096) ho
  have inS : ∀ g', fm [5, 6, 7, 8, 9, 10, 11, 12] [11, 15] g g' → sM g' n X Y Z := fun g' f => hS.fm f (by decide) (by decide) (by decide) (by decide)
  have inM : ∀ g', fm [5, 6, 7, 8, 9, 10, 11, 12] [11, 15] g g' → mM (tl X Y n 4096) g' := fun g' f => by
    obtain ⟨m1, m2⟩ := hM
    refine ⟨by rw [f.2 5 (by decide)]; exact m1, ?_⟩
    rw [f.1 4 (by decide) (by decide)]; exact m2
  unfold wp_mo_findContours
  try dsimp only
  -- the third loop
  have L134 : ∀ m e (g2 : St), e + m = 256 → lM (ct X Y Z n l e) g2 → fM X Y Z n l g2 → (∀ e, e < 256 → ((∃ x, cS X Y Z n l x ∧ ce x = e) → g2 5 e = 1) ∧ ((¬ ∃ x, cS X Y Z n l x ∧ ce x = e) → g2 5 e = 0)) → fm [5, 6, 7, 8, 9, 10, 11, 12] [11, 15] g g2 →
      lp_mo_findContours_L134 (m + 1) (nI e) g2 (fun g14 => (post g14)) post := by
    intro m
    induction m with
    | zero =>
      intro e g2 he hl2 hf his f2
      have : e = 256 := by omega
      subst this
      unfold lp_mo_findContours_L134
      try dsimp only
      exact ⟨fun _ => h g2 hl2 f2, fun q => absurd (by decide) q⟩
    | succ m ih =>
      intro e g2 he hl2 hf his f2
      have e256 : e < 256 := by omega
      have go : ∀ g3, lM (ct X Y Z n l (e + 1)) g3 → (∀ k, k ≠ 0 → k ≠ 8 → k ≠ 9 → k ≠ 10 → k ≠ 11 → k ≠ 12 → g3 k = g2 k) → fm [5, 6, 7, 8, 9, 10, 11, 12] [11, 15] g g3 → lp_mo_findContours_L134 (m + 1) (nI e + 1) g3 (fun g14 => (post g14)) post := fun g3 a b c => by
        rw [nI_1]
        refine ih (e + 1) g3 (by omega) a (fun x hx => ?_) (fun e' he' => ?_) c
        · rw [b 6 (by decide) (by decide) (by decide) (by decide) (by decide) (by decide), b 7 (by decide) (by decide) (by decide) (by decide) (by decide) (by decide)]; exact hf x hx
        · rw [b 5 (by decide) (by decide) (by decide) (by decide) (by decide) (by decide)]; exact his e' he'
      unfold lp_mo_findContours_L134
      try dsimp only
      rw [ix_nI (by omega)]
      refine ⟨fun q => ?_, fun _ => ⟨vp_in_nI (by omega) (by omega), fun q => ?_, fun q => ⟨vp_in_nI (by omega) (by omega), fun q2 => ?_, fun q2 => ?_⟩⟩⟩
      · rw [show (256 : Int32) = nI 256 from rfl, nI_leI (by omega) (by omega)] at q; omega
      · have no : ¬ ∃ x, cS X Y Z n l x ∧ ce x = e := fun w => by rw [(his e e256).1 w] at q; exact absurd q (by decide)
        refine go g2 ?_ (fun _ _ _ _ _ _ _ => rfl) f2
        rw [ct_s0 (fun w => no ⟨_, w.2.1, ce_hc ho e256 w.1⟩)]; exact hl2
      · obtain ⟨x, hx, ex⟩ : ∃ x, cS X Y Z n l x ∧ ce x = e := Classical.byContradiction fun w => q ((his e e256).2 w)
        have t : ∃ x, ct_T (ct X Y Z n l e) x ∧ ce x = e := Classical.byContradiction fun w => q2 ((hl2.2.2.2.2 e e256).2 w)
        refine go g2 ?_ (fun _ _ _ _ _ _ _ => rfl) f2
        rw [ct_s0 (fun w => ?_)]
        · exact hl2
        · obtain ⟨y, y1, y2⟩ := t
          have ys : cS X Y Z n l y := by obtain ⟨i, i1, i2⟩ := y1; rw [← i2]; exact (ct_all ho e).2.2.2.1 i i1
          have := (hc_ce ho ys).1
          rw [y2] at this
          rw [this] at w
          exact w.2.2 y1
      · obtain ⟨x, hx, ex⟩ : ∃ x, cS X Y Z n l x ∧ ce x = e := Classical.byContradiction fun w => q ((his e e256).2 w)
        have nt : ¬ ct_T (ct X Y Z n l e) x := fun t => by rw [(hl2.2.2.2.2 e e256).1 ⟨x, t, ex⟩] at q2; exact absurd q2 (by decide)
        obtain ⟨hx1, hx2⟩ := hc_ce ho hx
        rw [ex] at hx1 hx2
        rw [← ex]
        refine mo_gather ho hf (ct_all ho e) hl2 hx nt (fun g3 l3 f3 => ?_)
        rw [ex]
        refine go g3 ?_ (fun k k0 a b c d e => f3.1 k k0 (by simp only [List.mem_cons, List.not_mem_nil, or_false, not_or]; exact ⟨a, b, c, d, e⟩)) (f2.tr (f3.mono (by decide) (by decide)))
        rw [ct_s1 ⟨hx2, by rw [hx1]; exact hx, by rw [hx1]; exact nt⟩, hx1]; exact l3
  -- the second loop
  have L45 : ∀ m t (g2 : St), t + m = (tl X Y n 4096).length → jM X Y Z l (jP Z l ((tl X Y n 4096).take t)) g2 → (∀ e, e < 256 → g2 8 e = 0) → fm [5, 6, 7, 8, 9, 10, 11, 12] [11, 15] g g2 →
      lp_mo_findContours_L45 (m + 1) (iI l) (nI t) g2 (fun g10 => (∀ g11 : St, g11 = gp g10 0 11 0 → (∀ g12 : St, g12 = gp g11 0 15 0 → (∃ k134, lp_mo_findContours_L134 k134 0 g12 (fun g14 => (post g14)) post)))) post := by
    intro m
    induction m with
    | zero =>
      intro t g2 ht hj h8 f2
      have M2 := inM g2 f2
      have et : t = (tl X Y n 4096).length := by omega
      unfold lp_mo_findContours_L45
      try dsimp only
      rw [M2.1]
      refine ⟨fun _ g11 e11 g12 e12 => ⟨257, ?_⟩, fun q => absurd ((nI_leI (by omega) (by omega)).mpr (by omega)) q⟩
      rw [et, List.take_length] at hj
      obtain ⟨a1, a2⟩ := jM_all ho hj
      have k12 : ∀ k, k ≠ 0 → g12 k = g2 k := fun k k0 => by rw [e12, gp_n k0, e11, gp_n k0]
      refine L134 256 0 g12 (by omega) ⟨?_, ?_, fun k hk => absurd hk (Nat.not_lt_zero _), fun i hi => absurd hi (Nat.not_lt_zero _), fun e he => ⟨fun ⟨x, ⟨i, i1, _⟩, _⟩ => absurd i1 (Nat.not_lt_zero _), fun _ => ?_⟩⟩ (fun x hx => ?_) (fun e he => ?_) ?_
      · rw [e12, gp_o (by decide), e11]; exact gp_s
      · rw [e12]; exact gp_s
      · rw [k12 8 (by decide)]; exact h8 e he
      · rw [k12 6 (by decide), k12 7 (by decide)]; exact a1 x hx
      · rw [k12 5 (by decide)]; exact a2 e he
      · rw [e12, e11]; exact (f2.g0 (by decide)).g0 (by decide)
    | succ m ih =>
      intro t g2 ht hj h8 f2
      have M2 := inM g2 f2
      have tl' : t < (tl X Y n 4096).length := by omega
      obtain ⟨b1, b2, b3⟩ := M2.2 t tl'
      obtain ⟨xk, xt⟩ := tl_get tl'
      generalize hx : (tl X Y n 4096).getD t 0 = x at *
      have T := ge_T_of ho xt
      have tk : (tl X Y n 4096).take (t + 1) = (tl X Y n 4096).take t ++ [x] := by
        rw [List.take_succ, ← hx, List.getD_eq_getElem?_getD]
        rw [List.getElem?_eq_getElem tl']; rfl
      unfold lp_mo_findContours_L45
      try dsimp only
      rw [M2.1, pk3', show (1 : Int32) = nI 1 from rfl, show (2 : Int32) = nI 2 from rfl, nI_add, nI_add, nI_add, ix_nI (by omega), ix_nI (by omega), ix_nI (by omega), b1, b2, b3]
      refine ⟨fun q => absurd ((nI_leI (by omega) (by omega)).mp q) (by omega), fun _ => ⟨vp_in_nI (by omega) (by omega), vp_in_nI (by omega) (by omega), vp_in_nI (by omega) (by omega), ?_⟩⟩
      have ok0 : jOk X Y Z n l (jP Z l ((tl X Y n 4096).take t)) := fun h w r p => by
        obtain ⟨p1, p2, y, p3, p4⟩ := p
        exact ⟨p1, p2, ge_pm_T (ge_T_of ho (tl_mem.mp (List.mem_of_mem_take p3)).2) p4⟩
      have S2 := inS g2 f2
      refine mo_pair S2 hl T ok0 hj (fun g3 P3 ok3 j3 i3 f3 => ?_)
      have F3 := f2.tr (f3.mono (S' := [5, 6, 7, 8, 9, 10, 11, 12]) (T' := [11, 15]) (by decide) (by decide))
      refine mo_pair (inS g3 F3) hl (ge_T_sw T) ok3 j3 (fun g4 P4 ok4 j4 i4 f4 => ?_)
      have F4 := F3.tr (f4.mono (S' := [5, 6, 7, 8, 9, 10, 11, 12]) (T' := [11, 15]) (by decide) (by decide))
      refine mo_pair (inS g4 F4) hl (ge_T_rot T) ok4 j4 (fun g5 P5 ok5 j5 i5 f5 => ?_)
      have F5 := F4.tr (f5.mono (S' := [5, 6, 7, 8, 9, 10, 11, 12]) (T' := [11, 15]) (by decide) (by decide))
      refine ih (t + 1) g5 (by omega) (jM_ext (fun h w r => ?_) j5) (fun e he => ?_) F5
      · rw [tk, jP_app, i5, i4, i3]
        unfold ge_pm
        constructor
        · rintro (((p | ⟨q1, q2, p | p⟩) | ⟨q1, q2, p | p⟩) | ⟨q1, q2, p | p⟩)
          · exact Or.inl p
          · exact Or.inr ⟨q1, q2, Or.inl p⟩
          · exact Or.inr ⟨q1, q2, Or.inr (Or.inr (Or.inl p))⟩
          · exact Or.inr ⟨q1, q2, Or.inr (Or.inl p)⟩
          · exact Or.inr ⟨q1, q2, Or.inr (Or.inr (Or.inr (Or.inr (Or.inl p))))⟩
          · exact Or.inr ⟨q1, q2, Or.inr (Or.inr (Or.inr (Or.inl p)))⟩
          · exact Or.inr ⟨q1, q2, Or.inr (Or.inr (Or.inr (Or.inr (Or.inr p))))⟩
        · rintro (p | ⟨q1, q2, p | p | p | p | p | p⟩)
          · exact Or.inl (Or.inl (Or.inl p))
          · exact Or.inl (Or.inl (Or.inr ⟨q1, q2, Or.inl p⟩))
          · exact Or.inl (Or.inr ⟨q1, q2, Or.inl p⟩)
          · exact Or.inl (Or.inl (Or.inr ⟨q1, q2, Or.inr p⟩))
          · exact Or.inr ⟨q1, q2, Or.inl p⟩
          · exact Or.inl (Or.inr ⟨q1, q2, Or.inr p⟩)
          · exact Or.inr ⟨q1, q2, Or.inr p⟩
      · rw [f5.1 8 (by decide) (by decide), f4.1 8 (by decide) (by decide), f3.1 8 (by decide) (by decide)]; exact h8 e he
  -- the first loop
  have L2 : ∀ m e (g2 : St), e + m = 256 → (∀ j, j < e → g2 5 j = 0 ∧ g2 8 j = 0 ∧ g2 6 j = -1 ∧ g2 7 j = -1) → fm [5, 6, 7, 8, 9, 10, 11, 12] [11, 15] g g2 →
      lp_mo_findContours_L2 (m + 1) (iI l) (nI e) g2 (fun w6 g5 => (∃ k45, lp_mo_findContours_L45 k45 w6 0 g5 (fun g10 => (∀ g11 : St, g11 = gp g10 0 11 0 → (∀ g12 : St, g12 = gp g11 0 15 0 → (∃ k134, lp_mo_findContours_L134 k134 0 g12 (fun g14 => (post g14)) post)))) post)) post := by
    intro m
    induction m with
    | zero =>
      intro e g2 he ha f2
      have : e = 256 := by omega
      subst this
      unfold lp_mo_findContours_L2
      try dsimp only
      refine ⟨fun _ => ⟨(tl X Y n 4096).length + 1, L45 _ 0 g2 (by omega) ?_ (fun j hj => (ha j hj).2.1) f2⟩, fun q => absurd (by decide) q⟩
      have em : ∀ h w r, ¬ jP Z l ((tl X Y n 4096).take 0) h w r := fun h w r ⟨_, _, x, q, _⟩ => by rw [List.take_zero] at q; exact absurd q List.not_mem_nil
      exact ⟨⟨fun h w r p => absurd p (em h w r), fun j hj _ => (ha j hj).1⟩, ⟨fun h w r p => absurd p (em h w r), fun j hj _ => (ha j hj).2.2.1⟩, fun h w r p => absurd p (em h w r), fun j hj _ => (ha j hj).2.2.2⟩
    | succ m ih =>
      intro e g2 he ha f2
      unfold lp_mo_findContours_L2
      try dsimp only
      rw [ix_nI (by omega), vn_0]
      have v := vp_in_nI (n := e) (N := 256) (by omega) (by omega)
      refine ⟨fun q => ?_, fun _ => ⟨v, fun g3 e3 => ⟨v, fun g4 e4 => ⟨v, fun g5 e5 => ⟨v, fun g6 e6 => ?_⟩⟩⟩⟩⟩
      · rw [show (256 : Int32) = nI 256 from rfl, nI_leI (by omega) (by omega)] at q; omega
      · rw [nI_1]
        refine ih (e + 1) g6 (by omega) (fun j hj => ?_) ?_
        · have w5 : g6 5 = g3 5 := by rw [e6, gp_n (by decide), e5, gp_n (by decide), e4, gp_n (by decide)]
          have w8 : g6 8 = g4 8 := by rw [e6, gp_n (by decide), e5, gp_n (by decide)]
          have w6 : g6 6 = g5 6 := by rw [e6, gp_n (by decide)]
          rw [w5, w8, w6, e6, e5, e3, e4]
          by_cases q : j = e
          · rw [q]; exact ⟨gp_s, gp_s, gp_s, gp_s⟩
          · rw [gp_o q, gp_o q, gp_o q, gp_o q, e3, gp_n (by decide), gp_n (by decide), gp_n (by decide), gp_n (by decide), gp_n (by decide), gp_n (by decide)]
            exact ha j (by omega)
        · rw [e6, e5, e4, e3]
          exact (((f2.pt (by decide) (by decide)).pt (by decide) (by decide)).pt (by decide) (by decide)).pt (by decide) (by decide)
  exact ⟨257, L2 256 0 g (by omega) (fun j hj => absurd hj (by omega)) fm.rf⟩
end
end
