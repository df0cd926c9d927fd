section
/-! Numbers of the machine by whole numbers: iI z, jI z. Sums and products keep (they wrap alike); compares need sizes. -/
def iI (z : Int) : Int32 := Int32.ofInt z
def jI (z : Int) : Int64 := Int64.ofInt z
/-- the state of a side: cell by cell, place by place -/
abbrev St : Type := Nat → Nat → Int32
def gp (g : St) (k j : Nat) (v : Int32) : St := va_up g k (upd (g k) j v)
abbrev ix (i : Int32) : Nat := i.toNatClampNeg
theorem iI_nI (n : Nat) : iI (n : Int) = nI n := Int32.ofInt_eq_ofNat
theorem jI_lN (n : Nat) : jI (n : Int) = lN n := Int64.ofInt_eq_ofNat
theorem iI_add (a b : Int) : iI a + iI b = iI (a + b) := (Int32.ofInt_add a b).symm
theorem iI_sub (a b : Int) : iI a - iI b = iI (a - b) := (Int32.ofInt_sub a b).symm
theorem iI_mul (a b : Int) : iI a * iI b = iI (a * b) := (Int32.ofInt_mul a b).symm
theorem jI_add (a b : Int) : jI a + jI b = jI (a + b) := (Int64.ofInt_add a b).symm
theorem jI_sub (a b : Int) : jI a - jI b = jI (a - b) := (Int64.ofInt_sub a b).symm
theorem jI_mul (a b : Int) : jI a * jI b = jI (a * b) := (Int64.ofInt_mul a b).symm
theorem jI_neg (a : Int) : -jI a = jI (-a) := (Int64.ofInt_neg a).symm
theorem iI_toInt {a : Int} (h1 : -2147483648 ≤ a) (h2 : a < 2147483648) : (iI a).toInt = a := Int32.toInt_ofInt_of_le (by omega) (by omega)
theorem jI_toInt {a : Int} (h1 : -9223372036854775808 ≤ a) (h2 : a < 9223372036854775808) : (jI a).toInt = a := Int64.toInt_ofInt_of_le (by omega) (by omega)
theorem iI_lt {a b : Int} (h1 : -2147483648 ≤ a) (h2 : a < 2147483648) (h3 : -2147483648 ≤ b) (h4 : b < 2147483648) : iI a < iI b ↔ a < b := by
  rw [Int32.lt_iff_toInt_lt, iI_toInt h1 h2, iI_toInt h3 h4]
theorem iI_le {a b : Int} (h1 : -2147483648 ≤ a) (h2 : a < 2147483648) (h3 : -2147483648 ≤ b) (h4 : b < 2147483648) : iI a ≤ iI b ↔ a ≤ b := by
  rw [Int32.le_iff_toInt_le, iI_toInt h1 h2, iI_toInt h3 h4]
theorem iI_eq {a b : Int} (h1 : -2147483648 ≤ a) (h2 : a < 2147483648) (h3 : -2147483648 ≤ b) (h4 : b < 2147483648) : iI a = iI b ↔ a = b := by
  rw [← Int32.toInt_inj, iI_toInt h1 h2, iI_toInt h3 h4]
theorem jI_lt {a b : Int} (h1 : -9223372036854775808 ≤ a) (h2 : a < 9223372036854775808) (h3 : -9223372036854775808 ≤ b) (h4 : b < 9223372036854775808) : jI a < jI b ↔ a < b := by
  rw [Int64.lt_iff_toInt_lt, jI_toInt h1 h2, jI_toInt h3 h4]
theorem jI_le {a b : Int} (h1 : -9223372036854775808 ≤ a) (h2 : a < 9223372036854775808) (h3 : -9223372036854775808 ≤ b) (h4 : b < 9223372036854775808) : jI a ≤ jI b ↔ a ≤ b := by
  rw [Int64.le_iff_toInt_le, jI_toInt h1 h2, jI_toInt h3 h4]
theorem jI_eq {a b : Int} (h1 : -9223372036854775808 ≤ a) (h2 : a < 9223372036854775808) (h3 : -9223372036854775808 ≤ b) (h4 : b < 9223372036854775808) : jI a = jI b ↔ a = b := by
  rw [← Int64.toInt_inj, jI_toInt h1 h2, jI_toInt h3 h4]
theorem iI_long {a : Int} (h1 : -2147483648 ≤ a) (h2 : a < 2147483648) : (iI a).toInt64 = jI a := by
  rw [← Int64.toInt_inj, Int32.toInt_toInt64, iI_toInt h1 h2, jI_toInt (by omega) (by omega)]
theorem jI_int (a : Int) : (jI a).toInt32 = iI a := Int64.toInt32_ofInt
theorem iI_in {a : Int} {n : Nat} (h1 : 0 ≤ a) (h2 : a < n) (hn : n < 2147483648) : vp_in (iI a) n := by
  rw [vp_in_iff, iI_toInt (by omega) (by omega)]
  exact ⟨h1, h2⟩
theorem iI_ix {a : Int} (h1 : 0 ≤ a) (h2 : a < 2147483648) : ix (iI a) = a.toNat := by
  obtain ⟨n, rfl⟩ := Int.eq_ofNat_of_zero_le h1
  rw [iI_nI]
  exact nI_clamp (by omega)
/-- any int is one -/
theorem iI_any (x : Int32) : ∃ a : Int, -2147483648 ≤ a ∧ a < 2147483648 ∧ x = iI a := ⟨x.toInt, Int32.le_toInt x, Int32.toInt_lt x, (Int32.ofInt_toInt x).symm⟩
/-- the sign of a compare of longs -/
theorem jI_cmp {a b : Int} (h1 : -9223372036854775808 ≤ a) (h2 : a < 9223372036854775808) (h3 : -9223372036854775808 ≤ b) (h4 : b < 9223372036854775808) : lg_cmp (jI a) (jI b) = if b < a then 1 else if a = b then 0 else (-1) := by
  unfold lg_cmp
  by_cases h : b < a
  · rw [if_pos ((jI_lt h3 h4 h1 h2).mpr h), if_pos h]
  · rw [if_neg (fun q => h ((jI_lt h3 h4 h1 h2).mp q)), if_neg h]
    by_cases h5 : a = b
    · rw [if_pos (congrArg jI h5), if_pos h5]
    · rw [if_neg (fun q => h5 ((jI_eq h1 h2 h3 h4).mp q)), if_neg h5]
theorem iI_div {a b : Int} (h1 : 0 ≤ a) (h2 : a < 2147483648) (h3 : 0 < b) (h4 : b < 2147483648) : iI a / iI b = iI (a / b) := by
  obtain ⟨m, rfl⟩ := Int.eq_ofNat_of_zero_le h1
  obtain ⟨d, rfl⟩ := Int.eq_ofNat_of_zero_le (Int.le_of_lt h3)
  rw [iI_nI, iI_nI, pk_div (by omega) (by omega) (by omega), ← iI_nI]
  rfl
end
section
/-! Geometry of promise 4, whole numbers alone: the empty circle rule, read as the sign of ONE determinant over a lift whose ties are broken by weights; two triangles to the right of one directed edge are one; at most 27 triangles. Nothing here speaks of the machine. -/
section
variable (X Y : Nat → Int)
/-- the turn of three spots -/
def ge_t (X Y : Nat → Int) (a b c : Nat) : Int := (X b - X a) * (Y c - Y a) - (Y b - Y a) * (X c - X a)
/-- the square of a distance -/
def ge_q (X Y : Nat → Int) (a b : Nat) : Int := (X a - X b) * (X a - X b) + (Y a - Y b) * (Y a - Y b)
/-- the circle's determinant -/
def ge_i (X Y : Nat → Int) (a b c d : Nat) : Int := ge_q X Y a d * ge_t X Y d b c - ge_q X Y b d * ge_t X Y d a c + ge_q X Y c d * ge_t X Y d a b
/-- the determinant of four lifted places -/
def ge_D (X Y : Nat → Int) (L : Nat → Int) (a b c d : Nat) : Int := L a * ge_t X Y b c d - L b * ge_t X Y a c d + L c * ge_t X Y a b d - L d * ge_t X Y a b c
def ge_K : Int := 40000 ^ 18
def ge_w (v : Nat) : Int := 40000 ^ (17 - v)
/-- the lift, with the weights that break ties -/
def ge_L (X Y : Nat → Int) (v : Nat) : Int := ge_K * (X v * X v + Y v * Y v) + ge_w v
def ge_E (X Y : Nat → Int) (a b c d : Nat) : Int := ge_D X Y (ge_L X Y) a b c d
def ge_dep (X Y : Nat → Int) (a b c d : Nat) : Int := if 0 < ge_t X Y a b c then ge_i X Y a b c d else -ge_i X Y a b c d
/-- d is in the circle through a < b < c -/
def ge_In (X Y : Nat → Int) (a b c d : Nat) : Prop := 0 < ge_dep X Y a b c d ∨ (ge_dep X Y a b c d = 0 ∧ a < d ∧ ((0 < ge_t X Y a d b) ↔ (0 < ge_t X Y a d c)))
/-- d is out of the circle through a, b, c, whatever their order -/
def ge_out (X Y : Nat → Int) (a b c d : Nat) : Prop := (0 < ge_t X Y a b c → ge_E X Y a b c d < 0) ∧ (ge_t X Y a b c < 0 → 0 < ge_E X Y a b c d)
/-- n spots, as the document has them -/
def ge_ok (X Y : Nat → Int) (n : Nat) : Prop := n ≤ 16 ∧ (∀ v, v < n → 0 ≤ X v ∧ X v ≤ 63 ∧ 0 ≤ Y v ∧ Y v ≤ 63) ∧ ∀ u v, u < n → v < n → X u = X v → Y u = Y v → u = v
def ge_tri (X Y : Nat → Int) (n a b c : Nat) : Prop := a < b ∧ b < c ∧ c < n ∧ ge_t X Y a b c ≠ 0 ∧ ∀ d, d < n → d ≠ a → d ≠ b → d ≠ c → ¬ ge_In X Y a b c d
/-- the same, whatever the order -/
def ge_T (X Y : Nat → Int) (n a b c : Nat) : Prop := a < n ∧ b < n ∧ c < n ∧ ge_t X Y a b c ≠ 0 ∧ ∀ d, d < n → d ≠ a → d ≠ b → d ≠ c → ge_out X Y a b c d
end
theorem ge_t_rot (X Y : Nat → Int) (a b c : Nat) : ge_t X Y b c a = ge_t X Y a b c := by unfold ge_t; grind
theorem ge_t_sw (X Y : Nat → Int) (a b c : Nat) : ge_t X Y a c b = -ge_t X Y a b c := by unfold ge_t; grind
theorem ge_t_sum (X Y : Nat → Int) (a b c d : Nat) : ge_t X Y b c d - ge_t X Y a c d + ge_t X Y a b d - ge_t X Y a b c = 0 := by unfold ge_t; grind
theorem ge_D_rot (X Y L : Nat → Int) (a b c d : Nat) : ge_D X Y L b c a d = ge_D X Y L a b c d := by
  unfold ge_D ge_t; grind
theorem ge_D_sw (X Y L : Nat → Int) (a b c d : Nat) : ge_D X Y L a c b d = -ge_D X Y L a b c d := by unfold ge_D ge_t; grind
theorem ge_D_sw3 (X Y L : Nat → Int) (a b c d : Nat) : ge_D X Y L a b d c = -ge_D X Y L a b c d := by unfold ge_D ge_t; grind
theorem ge_iz (X Y : Nat → Int) (a b c d z : Nat) : ge_i X Y a b c d = ge_t X Y b c d * ge_q X Y a z - ge_t X Y a c d * ge_q X Y b z + ge_t X Y a b d * ge_q X Y c z - ge_t X Y a b c * ge_q X Y d z := by
  unfold ge_i ge_q ge_t; grind
theorem ge_E_split (X Y : Nat → Int) (a b c d : Nat) : ge_E X Y a b c d = ge_K * ge_i X Y a b c d + ge_D X Y ge_w a b c d := by
  unfold ge_E ge_D ge_L ge_i ge_q ge_t; grind
/-! signs -/
theorem ge_neg3 {p q r s1 s2 s3 : Int} (h1 : 0 < s1) (h2 : 0 < s2) (h3 : 0 < s3) (hp : p ≤ 0) (hq : q ≤ 0) (hr : r ≤ 0) (e : p * s1 + q * s2 + r * s3 = 0) : p = 0 ∧ q = 0 ∧ r = 0 := by
  have a1 : 0 ≤ (-p) * s1 := Int.mul_nonneg (by omega) (by omega)
  have a2 : 0 ≤ (-q) * s2 := Int.mul_nonneg (by omega) (by omega)
  have a3 : 0 ≤ (-r) * s3 := Int.mul_nonneg (by omega) (by omega)
  rw [Int.neg_mul] at a1 a2 a3
  have b1 : p * s1 = 0 := by omega
  have b2 : q * s2 = 0 := by omega
  have b3 : r * s3 = 0 := by omega
  refine ⟨?_, ?_, ?_⟩
  · rcases Int.mul_eq_zero.mp b1 with h | h <;> omega
  · rcases Int.mul_eq_zero.mp b2 with h | h <;> omega
  · rcases Int.mul_eq_zero.mp b3 with h | h <;> omega
theorem ge_pos3 {p q r s1 s2 s3 : Int} (h1 : 0 < s1) (h2 : 0 < s2) (h3 : 0 < s3) (hp : 0 ≤ p) (hq : 0 ≤ q) (hr : 0 ≤ r) (e : p * s1 + q * s2 + r * s3 = 0) : p = 0 ∧ q = 0 ∧ r = 0 := by
  have h := ge_neg3 (p := -p) (q := -q) (r := -r) h1 h2 h3 (by omega) (by omega) (by omega) (by rw [Int.neg_mul, Int.neg_mul, Int.neg_mul]; omega)
  omega
/-- four different places on one circle: two of the four numbers are more than 0 and two less -/
theorem ge_22 {α β γ δ sab sac sad sbc sbd scd : Int} (hab : 0 < sab) (hac : 0 < sac) (had : 0 < sad) (hbc : 0 < sbc) (hbd : 0 < sbd) (hcd : 0 < scd) (hs : α + β + γ + δ = 0)
    (za : β * sab + γ * sac + δ * sad = 0) (zb : α * sab + γ * sbc + δ * sbd = 0) (zc : α * sac + β * sbc + δ * scd = 0) (zd : α * sad + β * sbd + γ * scd = 0) (hd : δ ≠ 0) :
    α ≠ 0 ∧ β ≠ 0 ∧ γ ≠ 0 ∧ ((0 < α ↔ 0 < δ) ↔ (0 < β ↔ 0 < γ)) := by
  have nA : ¬ (β ≤ 0 ∧ γ ≤ 0 ∧ δ ≤ 0) := fun ⟨x, y, z⟩ => hd (ge_neg3 hab hac had x y z za).2.2
  have pA : ¬ (0 ≤ β ∧ 0 ≤ γ ∧ 0 ≤ δ) := fun ⟨x, y, z⟩ => hd (ge_pos3 hab hac had x y z za).2.2
  have nB : ¬ (α ≤ 0 ∧ γ ≤ 0 ∧ δ ≤ 0) := fun ⟨x, y, z⟩ => hd (ge_neg3 hab hbc hbd x y z zb).2.2
  have pB : ¬ (0 ≤ α ∧ 0 ≤ γ ∧ 0 ≤ δ) := fun ⟨x, y, z⟩ => hd (ge_pos3 hab hbc hbd x y z zb).2.2
  have nC : ¬ (α ≤ 0 ∧ β ≤ 0 ∧ δ ≤ 0) := fun ⟨x, y, z⟩ => hd (ge_neg3 hac hbc hcd x y z zc).2.2
  have pC : ¬ (0 ≤ α ∧ 0 ≤ β ∧ 0 ≤ δ) := fun ⟨x, y, z⟩ => hd (ge_pos3 hac hbc hcd x y z zc).2.2
  have nD : ¬ (α ≤ 0 ∧ β ≤ 0 ∧ γ ≤ 0) := fun ⟨x, y, z⟩ => by
    have := ge_neg3 had hbd hcd x y z zd
    omega
  have pD : ¬ (0 ≤ α ∧ 0 ≤ β ∧ 0 ≤ γ) := fun ⟨x, y, z⟩ => by
    have := ge_pos3 had hbd hcd x y z zd
    omega
  clear za zb zc zd
  refine ⟨by omega, by omega, by omega, ?_⟩
  by_cases a1 : 0 < α <;> by_cases a2 : 0 < β <;> by_cases a3 : 0 < γ <;> by_cases a4 : 0 < δ <;> simp only [a1, a2, a3, a4, iff_self, true_iff, iff_true, false_iff, iff_false, not_true, not_false_iff] <;> omega
/-! sizes -/
theorem ge_mb {x y : Int} (h1 : -63 ≤ x) (h2 : x ≤ 63) (h3 : -63 ≤ y) (h4 : y ≤ 63) : -3969 ≤ x * y ∧ x * y ≤ 3969 := by
  have a := Int.mul_nonneg (a := 63 - x) (b := 63 + y) (by omega) (by omega)
  have b := Int.mul_nonneg (a := 63 + x) (b := 63 - y) (by omega) (by omega)
  have c := Int.mul_nonneg (a := 63 - x) (b := 63 - y) (by omega) (by omega)
  have d := Int.mul_nonneg (a := 63 + x) (b := 63 + y) (by omega) (by omega)
  simp only [Int.sub_mul, Int.mul_sub, Int.add_mul, Int.mul_add] at a b c d
  omega
theorem ge_t_b {X Y : Nat → Int} {n : Nat} (h : ge_ok X Y n) {a b c : Nat} (ha : a < n) (hb : b < n) (hc : c < n) : -7938 ≤ ge_t X Y a b c ∧ ge_t X Y a b c ≤ 7938 := by
  obtain ⟨a1, a2, a3, a4⟩ := h.2.1 a ha
  obtain ⟨b1, b2, b3, b4⟩ := h.2.1 b hb
  obtain ⟨c1, c2, c3, c4⟩ := h.2.1 c hc
  have p := ge_mb (x := X b - X a) (y := Y c - Y a) (by omega) (by omega) (by omega) (by omega)
  have q := ge_mb (x := Y b - Y a) (y := X c - X a) (by omega) (by omega) (by omega) (by omega)
  unfold ge_t
  omega
theorem ge_sqpos {x y : Int} (h : ¬ (x = 0 ∧ y = 0)) : 0 < x * x + y * y := by
  have a : 0 ≤ x * x := by rcases Int.le_total 0 x with h | h; exact Int.mul_nonneg h h; exact Int.mul_nonneg_of_nonpos_of_nonpos h h
  have b : 0 ≤ y * y := by rcases Int.le_total 0 y with h | h; exact Int.mul_nonneg h h; exact Int.mul_nonneg_of_nonpos_of_nonpos h h
  by_cases hx : x * x = 0
  · by_cases hy : y * y = 0
    · refine absurd ⟨?_, ?_⟩ h
      · rcases Int.mul_eq_zero.mp hx with h | h <;> exact h
      · rcases Int.mul_eq_zero.mp hy with h | h <;> exact h
    · omega
  · omega
theorem ge_q_pos {X Y : Nat → Int} {n : Nat} (h : ge_ok X Y n) {a b : Nat} (ha : a < n) (hb : b < n) (hab : a ≠ b) : 0 < ge_q X Y a b := by
  unfold ge_q
  exact ge_sqpos (fun ⟨h1, h2⟩ => hab (h.2.2 a b ha hb (by omega) (by omega)))
theorem ge_q_sym (X Y : Nat → Int) (a b : Nat) : ge_q X Y a b = ge_q X Y b a := by unfold ge_q; grind
theorem ge_q_self (X Y : Nat → Int) (a : Nat) : ge_q X Y a a = 0 := by unfold ge_q; grind
theorem ge_w_lt : ∀ v, v < 17 → ∀ u, u < 17 → v < u → 40000 * ge_w u ≤ ge_w v := by decide +kernel
theorem ge_w_pos : ∀ v, v < 17 → 0 < ge_w v := by decide +kernel
theorem ge_w_K : ∀ v, v < 17 → 40000 * ge_w v ≤ ge_K := by decide +kernel
/-- a bounded factor -/
theorem ge_wt {w t : Int} (hw : 0 < w) (h1 : -7938 ≤ t) (h2 : t ≤ 7938) : -(7938 * w) ≤ w * t ∧ w * t ≤ 7938 * w := by
  have a := Int.mul_nonneg (a := w) (b := t + 7938) (by omega) (by omega)
  have b := Int.mul_nonneg (a := w) (b := 7938 - t) (by omega) (by omega)
  simp only [Int.mul_sub, Int.mul_add] at a b
  omega
theorem ge_big {w t : Int} (hw : 0 < w) (h : 1 ≤ t) : w ≤ w * t := by
  have a := Int.mul_nonneg (a := w) (b := t - 1) (by omega) (by omega)
  simp only [Int.mul_sub] at a
  omega
theorem ge_small {w t : Int} (hw : 0 < w) (h : t ≤ -1) : w * t ≤ -w := by
  have a := Int.mul_nonneg (a := w) (b := -1 - t) (by omega) (by omega)
  simp only [Int.mul_sub] at a
  omega
/-- on the circle: the four turns -/
theorem ge_circ {X Y : Nat → Int} {n : Nat} (h : ge_ok X Y n) {a b c d : Nat} (ha : a < n) (hb : b < n) (hc : c < n) (hd : d < n) (hab : a ≠ b) (hac : a ≠ c) (had : a ≠ d) (hbc : b ≠ c) (hbd : b ≠ d) (hcd : c ≠ d)
    (ht : ge_t X Y a b c ≠ 0) (hi : ge_i X Y a b c d = 0) :
    ge_t X Y b c d ≠ 0 ∧ ge_t X Y a c d ≠ 0 ∧ ge_t X Y a b d ≠ 0 ∧ ((0 < ge_t X Y b c d ↔ ge_t X Y a b c < 0) ↔ (ge_t X Y a c d < 0 ↔ 0 < ge_t X Y a b d)) := by
  have e := ge_t_sum X Y a b c d
  have za := ge_iz X Y a b c d a
  have zb := ge_iz X Y a b c d b
  have zc := ge_iz X Y a b c d c
  have zd := ge_iz X Y a b c d d
  rw [hi, ge_q_self, Int.mul_zero] at za zb zc zd
  rw [ge_q_sym X Y b a, ge_q_sym X Y c a, ge_q_sym X Y d a] at za
  rw [ge_q_sym X Y c b, ge_q_sym X Y d b] at zb
  rw [ge_q_sym X Y d c] at zc
  have r := ge_22 (α := ge_t X Y b c d) (β := -ge_t X Y a c d) (γ := ge_t X Y a b d) (δ := -ge_t X Y a b c) (ge_q_pos h ha hb hab) (ge_q_pos h ha hc hac) (ge_q_pos h ha hd had) (ge_q_pos h hb hc hbc) (ge_q_pos h hb hd hbd) (ge_q_pos h hc hd hcd)
    (by omega) (by rw [Int.neg_mul, Int.neg_mul]; omega) (by rw [Int.neg_mul]; omega) (by rw [Int.neg_mul, Int.neg_mul]; omega) (by rw [Int.neg_mul]; omega) (by omega)
  obtain ⟨r1, r2, r3, r4⟩ := r
  refine ⟨r1, by omega, r3, ?_⟩
  have e1 : (0 < -ge_t X Y a b c) ↔ ge_t X Y a b c < 0 := by omega
  have e2 : (0 < -ge_t X Y a c d) ↔ ge_t X Y a c d < 0 := by omega
  rw [e1, e2] at r4
  exact r4
theorem ge_sg {x y : Int} (hx : x ≠ 0) (hy : y ≠ 0) : (x < 0 ↔ 0 < y) ↔ ¬ (y < 0 ↔ x < 0) := by
  rcases Int.lt_or_lt_of_ne hx with p | p <;> rcases Int.lt_or_lt_of_ne hy with q | q
  · exact ⟨fun h => absurd (h.mp p) (by omega), fun h => absurd ⟨fun _ => p, fun _ => q⟩ h⟩
  · exact ⟨fun _ h => absurd (h.mpr p) (by omega), fun _ => ⟨fun _ => q, fun _ => p⟩⟩
  · exact ⟨fun _ h => absurd (h.mp q) (by omega), fun _ => ⟨fun w => absurd w (by omega), fun w => absurd w (by omega)⟩⟩
  · exact ⟨fun h => absurd (h.mpr q) (by omega), fun h => absurd ⟨fun w => absurd w (by omega), fun w => absurd w (by omega)⟩ h⟩
/-- the rule of the document is the sign of the one determinant -/
theorem ge_inE {X Y : Nat → Int} {n : Nat} (h : ge_ok X Y n) {a b c d : Nat} (hab : a < b) (hbc : b < c) (hc : c < n) (hd : d < n) (had : d ≠ a) (hbd : d ≠ b) (hcd : d ≠ c) (ht : ge_t X Y a b c ≠ 0) :
    (¬ ge_In X Y a b c d) ↔ ge_out X Y a b c d := by
  have hn := h.1
  have ha : a < n := by omega
  have hb : b < n := by omega
  have k1 := ge_t_b h hb hc hd
  have k2 := ge_t_b h ha hc hd
  have k3 := ge_t_b h ha hb hd
  have k4 := ge_t_b h ha hb hc
  have wa := ge_w_pos a (by omega)
  have wb := ge_w_pos b (by omega)
  have wc := ge_w_pos c (by omega)
  have wd := ge_w_pos d (by omega)
  have m1 := ge_wt wa k1.1 k1.2
  have m2 := ge_wt wb k2.1 k2.2
  have m3 := ge_wt wc k3.1 k3.2
  have m4 := ge_wt wd k4.1 k4.2
  have Ka := ge_w_K a (by omega)
  have Kb := ge_w_K b (by omega)
  have Kc := ge_w_K c (by omega)
  have Kd := ge_w_K d (by omega)
  have ab := ge_w_lt a (by omega) b (by omega) hab
  have ac := ge_w_lt a (by omega) c (by omega) (by omega)
  have hE := ge_E_split X Y a b c d
  have hD : ge_D X Y ge_w a b c d = ge_w a * ge_t X Y b c d - ge_w b * ge_t X Y a c d + ge_w c * ge_t X Y a b d - ge_w d * ge_t X Y a b c := rfl
  rw [hD] at hE
  have Kp : 0 < ge_K := by decide +kernel
  have e1 : (0 < ge_t X Y a d b) ↔ ge_t X Y a b d < 0 := by rw [ge_t_sw X Y a b d]; omega
  have e2 : (0 < ge_t X Y a d c) ↔ ge_t X Y a c d < 0 := by rw [ge_t_sw X Y a c d]; omega
  generalize hi : ge_i X Y a b c d = i at hE
  have dep : ge_dep X Y a b c d = if 0 < ge_t X Y a b c then i else -i := by unfold ge_dep; rw [hi]
  unfold ge_In
  rw [dep, e1, e2]
  rcases Int.lt_or_lt_of_ne ht with t | t
  · rw [if_neg (by omega)]
    have out : ge_out X Y a b c d ↔ 0 < ge_E X Y a b c d := ⟨fun h => h.2 t, fun h => ⟨fun q => absurd q (by omega), fun _ => h⟩⟩
    rw [out]
    rcases Int.lt_trichotomy i 0 with i1 | i1 | i1
    · have q := ge_small Kp (show i ≤ -1 by omega)
      have E0 : ge_E X Y a b c d < 0 := by omega
      exact ⟨fun w => absurd (Or.inl (by omega)) w, fun w => absurd w (by omega)⟩
    · subst i1
      obtain ⟨n1, n2, n3, n4⟩ := ge_circ h ha hb hc hd (by omega) (by omega) (by omega) (by omega) (by omega) (by omega) ht hi
      rw [Int.mul_zero] at hE
      rcases Nat.lt_or_ge d a with l | l
      · have da := ge_w_lt d (by omega) a (by omega) l
        have q := ge_small wd (show ge_t X Y a b c ≤ -1 by omega)
        have E0 : 0 < ge_E X Y a b c d := by omega
        exact ⟨fun _ => E0, fun _ w => by rcases w with w | w; omega; exact absurd w.2.1 (by omega)⟩
      · have ad := ge_w_lt a (by omega) d (by omega) (by omega)
        have sg := ge_sg n2 n3
        rcases Int.lt_or_lt_of_ne n1 with u | u
        · have q := ge_small wa (show ge_t X Y b c d ≤ -1 by omega)
          have E0 : ge_E X Y a b c d < 0 := by omega
          have ne : ¬ (ge_t X Y a c d < 0 ↔ 0 < ge_t X Y a b d) := fun w => absurd ((n4.mpr w).mpr t) (by omega)
          have same := Classical.not_not.mp (fun w => ne (sg.mpr w))
          exact ⟨fun w => absurd (Or.inr ⟨by omega, by omega, same⟩) w, fun w => absurd w (by omega)⟩
        · have q := ge_big wa (show 1 ≤ ge_t X Y b c d by omega)
          have E0 : 0 < ge_E X Y a b c d := by omega
          have eq := n4.mp ⟨fun _ => t, fun _ => u⟩
          exact ⟨fun _ => E0, fun _ w => by rcases w with w | w; omega; exact sg.mp eq w.2.2⟩
    · have q := ge_big Kp (show 1 ≤ i by omega)
      have E0 : 0 < ge_E X Y a b c d := by omega
      exact ⟨fun _ => E0, fun _ w => by rcases w with w | w; omega; exact absurd w.1 (by omega)⟩
  · rw [if_pos t]
    have out : ge_out X Y a b c d ↔ ge_E X Y a b c d < 0 := ⟨fun h => h.1 t, fun h => ⟨fun _ => h, fun q => absurd q (by omega)⟩⟩
    rw [out]
    rcases Int.lt_trichotomy i 0 with i1 | i1 | i1
    · have q := ge_small Kp (show i ≤ -1 by omega)
      have E0 : ge_E X Y a b c d < 0 := by omega
      exact ⟨fun _ => E0, fun _ w => by rcases w with w | w; omega; exact absurd w.1 (by omega)⟩
    · subst i1
      obtain ⟨n1, n2, n3, n4⟩ := ge_circ h ha hb hc hd (by omega) (by omega) (by omega) (by omega) (by omega) (by omega) ht hi
      rw [Int.mul_zero] at hE
      rcases Nat.lt_or_ge d a with l | l
      · have da := ge_w_lt d (by omega) a (by omega) l
        have q := ge_big wd (show 1 ≤ ge_t X Y a b c by omega)
        have E0 : ge_E X Y a b c d < 0 := by omega
        exact ⟨fun _ => E0, fun _ w => by rcases w with w | w; omega; exact absurd w.2.1 (by omega)⟩
      · have ad := ge_w_lt a (by omega) d (by omega) (by omega)
        have sg := ge_sg n2 n3
        rcases Int.lt_or_lt_of_ne n1 with u | u
        · have q := ge_small wa (show ge_t X Y b c d ≤ -1 by omega)
          have E0 : ge_E X Y a b c d < 0 := by omega
          have eq := n4.mp ⟨fun w => absurd w (by omega), fun w => absurd w (by omega)⟩
          exact ⟨fun _ => E0, fun _ w => by rcases w with w | w; omega; exact sg.mp eq w.2.2⟩
        · have q := ge_big wa (show 1 ≤ ge_t X Y b c d by omega)
          have E0 : 0 < ge_E X Y a b c d := by omega
          have ne : ¬ (ge_t X Y a c d < 0 ↔ 0 < ge_t X Y a b d) := fun w => absurd ((n4.mpr w).mp u) (by omega)
          have same := Classical.not_not.mp (fun w => ne (sg.mpr w))
          exact ⟨fun w => absurd (Or.inr ⟨by omega, by omega, same⟩) w, fun w => absurd w (by omega)⟩
    · have q := ge_big Kp (show 1 ≤ i by omega)
      have E0 : 0 < ge_E X Y a b c d := by omega
      exact ⟨fun w => absurd (Or.inl (by omega)) w, fun w => absurd w (by omega)⟩
/-! triangles in any order -/
theorem ge_out_rot {X Y : Nat → Int} {a b c d : Nat} : ge_out X Y b c a d ↔ ge_out X Y a b c d := by
  unfold ge_out ge_E; rw [ge_t_rot, ge_D_rot]
theorem ge_out_sw {X Y : Nat → Int} {a b c d : Nat} : ge_out X Y a c b d ↔ ge_out X Y a b c d := by
  unfold ge_out ge_E; rw [ge_t_sw, ge_D_sw]; omega
theorem ge_T_rot {X Y : Nat → Int} {n a b c : Nat} (h : ge_T X Y n a b c) : ge_T X Y n b c a := by
  obtain ⟨h1, h2, h3, h4, h5⟩ := h
  exact ⟨h2, h3, h1, by rw [ge_t_rot]; exact h4, fun d e1 e2 e3 e4 => ge_out_rot.mpr (h5 d e1 e4 e2 e3)⟩
theorem ge_T_sw {X Y : Nat → Int} {n a b c : Nat} (h : ge_T X Y n a b c) : ge_T X Y n a c b := by
  obtain ⟨h1, h2, h3, h4, h5⟩ := h
  exact ⟨h1, h3, h2, by rw [ge_t_sw]; omega, fun d e1 e2 e3 e4 => ge_out_sw.mpr (h5 d e1 e2 e4 e3)⟩
theorem ge_T_of {X Y : Nat → Int} {n : Nat} (h : ge_ok X Y n) {a b c : Nat} (t : ge_tri X Y n a b c) : ge_T X Y n a b c := by
  obtain ⟨h1, h2, h3, h4, h5⟩ := t
  exact ⟨by omega, by omega, h3, h4, fun d e1 e2 e3 e4 => (ge_inE h h1 h2 h3 e1 e2 e3 e4 h4).mp (h5 d e1 e2 e3 e4)⟩
theorem ge_tri_of {X Y : Nat → Int} {n : Nat} (h : ge_ok X Y n) {a b c : Nat} (t : ge_T X Y n a b c) (h1 : a < b) (h2 : b < c) : ge_tri X Y n a b c := by
  obtain ⟨-, -, h3, h4, h5⟩ := t
  exact ⟨h1, h2, h3, h4, fun d e1 e2 e3 e4 => (ge_inE h h1 h2 h3 e1 e2 e3 e4 h4).mpr (h5 d e1 e2 e3 e4)⟩
theorem ge_t_ne {X Y : Nat → Int} {a b c : Nat} (h : ge_t X Y a b c ≠ 0) : a ≠ b ∧ a ≠ c ∧ b ≠ c := by
  refine ⟨?_, ?_, ?_⟩ <;> (intro e; subst e; apply h; unfold ge_t; grind)
/-- one triangle at most to the right of who goes from a to b -/
theorem ge_right {X Y : Nat → Int} {n a b c d : Nat} (h1 : ge_T X Y n a b c) (h2 : ge_T X Y n a b d) (t1 : ge_t X Y a b c < 0) (t2 : ge_t X Y a b d < 0) : c = d := by
  refine Classical.byContradiction fun hne => ?_
  have n1 := ge_t_ne h1.2.2.2.1
  have n2 := ge_t_ne h2.2.2.2.1
  have p := (h1.2.2.2.2 d h2.2.2.1 (Ne.symm n2.2.1) (Ne.symm n2.2.2) (Ne.symm hne)).2 t1
  have q := (h2.2.2.2.2 c h1.2.2.1 (Ne.symm n1.2.1) (Ne.symm n1.2.2) hne).2 t2
  unfold ge_E at p q
  rw [ge_D_sw3] at q
  omega
/-! the sweep: a place by kx x + ky y; a triangle is told by its middle spot and its side -/
def ge_k (kx ky : Int) (X Y : Nat → Int) (v : Nat) : Int := kx * X v + ky * Y v
theorem ge_D_0 (X Y L : Nat → Int) (a b c : Nat) : ge_D X Y L a b c a = 0 ∧ ge_D X Y L a b c b = 0 ∧ ge_D X Y L a b c c = 0 := by
  refine ⟨?_, ?_, ?_⟩ <;> (unfold ge_D ge_t; grind)
/-- the one identity -/
theorem ge_plk (px py qx qy rx ry sx sy lp lq lr ls kx ky : Int) :
    (kx * qx + ky * qy) * (-lr * (sx * py - sy * px) + ls * (rx * py - ry * px) - lp * (rx * sy - ry * sx)) - (kx * px + ky * py) * (-lr * (sx * qy - sy * qx) + ls * (rx * qy - ry * qx) - lq * (rx * sy - ry * sx))
    = -(kx * sx + ky * sy) * (-lp * (qx * ry - qy * rx) + lq * (px * ry - py * rx) - lr * (px * qy - py * qx)) + (kx * rx + ky * ry) * (-lp * (qx * sy - qy * sx) + lq * (px * sy - py * sx) - ls * (px * qy - py * qx)) := by grind
theorem ge_D_rel (X Y L : Nat → Int) (m p q v : Nat) : ge_D X Y L m p q v = -(L p - L m) * ((X q - X m) * (Y v - Y m) - (Y q - Y m) * (X v - X m)) + (L q - L m) * ((X p - X m) * (Y v - Y m) - (Y p - Y m) * (X v - X m)) - (L v - L m) * ((X p - X m) * (Y q - Y m) - (Y p - Y m) * (X q - X m)) := by
  unfold ge_D ge_t; grind
theorem ge_over_id (kx ky : Int) (X Y L : Nat → Int) (m p q r s : Nat) :
    (ge_k kx ky X Y q - ge_k kx ky X Y m) * ge_D X Y L m r s p - (ge_k kx ky X Y p - ge_k kx ky X Y m) * ge_D X Y L m r s q
    = -(ge_k kx ky X Y s - ge_k kx ky X Y m) * ge_D X Y L m p q r + (ge_k kx ky X Y r - ge_k kx ky X Y m) * ge_D X Y L m p q s := by
  rw [ge_D_rel X Y L m r s p, ge_D_rel X Y L m r s q, ge_D_rel X Y L m p q r, ge_D_rel X Y L m p q s]
  have h := ge_plk (X p - X m) (Y p - Y m) (X q - X m) (Y q - Y m) (X r - X m) (Y r - Y m) (X s - X m) (Y s - Y m) (L p - L m) (L q - L m) (L r - L m) (L s - L m) kx ky
  have e : ∀ v, ge_k kx ky X Y v - ge_k kx ky X Y m = kx * (X v - X m) + ky * (Y v - Y m) := fun v => by unfold ge_k; grind
  rw [e p, e q, e r, e s]
  exact h
theorem ge_T_ge {X Y : Nat → Int} {n m p q v : Nat} (h : ge_T X Y n m p q) (t : ge_t X Y m p q < 0) (hv : v < n) : 0 ≤ ge_D X Y (ge_L X Y) m p q v ∧ (ge_D X Y (ge_L X Y) m p q v = 0 → v = m ∨ v = p ∨ v = q) := by
  have z := ge_D_0 X Y (ge_L X Y) m p q
  by_cases h1 : v = m
  · subst h1; exact ⟨by omega, fun _ => Or.inl rfl⟩
  by_cases h2 : v = p
  · subst h2; exact ⟨by omega, fun _ => Or.inr (Or.inl rfl)⟩
  by_cases h3 : v = q
  · subst h3; exact ⟨by omega, fun _ => Or.inr (Or.inr rfl)⟩
  have o := (h.2.2.2.2 v hv h1 h2 h3).2 t
  unfold ge_E at o
  exact ⟨by omega, fun e => by omega⟩
/-- two triangles above one middle spot are one (above, as kx, ky have it) -/
theorem ge_above {X Y : Nat → Int} {n m p q r s : Nat} (kx ky : Int) (h1 : ge_T X Y n m p q) (h2 : ge_T X Y n m r s) (t1 : ge_t X Y m p q < 0) (t2 : ge_t X Y m r s < 0)
    (p1 : ge_k kx ky X Y p < ge_k kx ky X Y m) (q1 : ge_k kx ky X Y m < ge_k kx ky X Y q) (r1 : ge_k kx ky X Y r < ge_k kx ky X Y m) (s1 : ge_k kx ky X Y m < ge_k kx ky X Y s) : p = r ∧ q = s := by
  have e := ge_over_id kx ky X Y (ge_L X Y) m p q r s
  have ap := ge_T_ge h2 t2 h1.2.1
  have aq := ge_T_ge h2 t2 h1.2.2.1
  have ar := ge_T_ge h1 t1 h2.2.1
  have as := ge_T_ge h1 t1 h2.2.2.1
  generalize hp9 : ge_k kx ky X Y p = kp at *
  generalize hq9 : ge_k kx ky X Y q = kq at *
  generalize hr9 : ge_k kx ky X Y r = kr at *
  generalize hs9 : ge_k kx ky X Y s = ks at *
  generalize hm9 : ge_k kx ky X Y m = km at *
  have b1 := Int.mul_nonneg (a := kq - km) (by omega) ap.1
  have b2 := Int.mul_nonneg (a := km - kp) (by omega) aq.1
  have b3 := Int.mul_nonneg (a := ks - km) (by omega) ar.1
  have b4 := Int.mul_nonneg (a := km - kr) (by omega) as.1
  have f2 : (kp - km) * ge_D X Y (ge_L X Y) m r s q = -((km - kp) * ge_D X Y (ge_L X Y) m r s q) := by rw [← Int.neg_mul, Int.neg_sub]
  have f3 : -(ks - km) * ge_D X Y (ge_L X Y) m p q r = -((ks - km) * ge_D X Y (ge_L X Y) m p q r) := Int.neg_mul _ _
  have f4 : (kr - km) * ge_D X Y (ge_L X Y) m p q s = -((km - kr) * ge_D X Y (ge_L X Y) m p q s) := by rw [← Int.neg_mul, Int.neg_sub]
  rw [f2, f3, f4] at e
  have z1 : (kq - km) * ge_D X Y (ge_L X Y) m r s p = 0 := by omega
  have z2 : (km - kp) * ge_D X Y (ge_L X Y) m r s q = 0 := by omega
  have c1 : ge_D X Y (ge_L X Y) m r s p = 0 := by rcases Int.mul_eq_zero.mp z1 with h | h <;> omega
  have c2 : ge_D X Y (ge_L X Y) m r s q = 0 := by rcases Int.mul_eq_zero.mp z2 with h | h <;> omega
  have d1 := ap.2 c1
  have d2 := aq.2 c2
  constructor
  · rcases d1 with d | d | d
    · subst d; omega
    · exact d
    · subst d; omega
  · rcases d2 with d | d | d
    · subst d; omega
    · subst d; omega
    · exact d
/-! a code for each triangle -/
abbrev ge_y (X Y : Nat → Int) (v : Nat) : Int := ge_k 64 1 X Y v
theorem ge_y_inj {X Y : Nat → Int} {n : Nat} (h : ge_ok X Y n) {u v : Nat} (hu : u < n) (hv : v < n) (e : ge_y X Y u = ge_y X Y v) : u = v := by
  obtain ⟨a1, a2, a3, a4⟩ := h.2.1 u hu
  obtain ⟨b1, b2, b3, b4⟩ := h.2.1 v hv
  unfold ge_y ge_k at e
  exact h.2.2 u v hu hv (by omega) (by omega)
/-- m, p, q are a, b, c in some order -/
def ge_pm (a b c m p q : Nat) : Prop := (m = a ∧ p = b ∧ q = c) ∨ (m = a ∧ p = c ∧ q = b) ∨ (m = b ∧ p = a ∧ q = c) ∨ (m = b ∧ p = c ∧ q = a) ∨ (m = c ∧ p = a ∧ q = b) ∨ (m = c ∧ p = b ∧ q = a)
theorem ge_pm_T {X Y : Nat → Int} {n a b c m p q : Nat} (h : ge_T X Y n a b c) (e : ge_pm a b c m p q) : ge_T X Y n m p q := by
  rcases e with ⟨rfl, rfl, rfl⟩ | ⟨rfl, rfl, rfl⟩ | ⟨rfl, rfl, rfl⟩ | ⟨rfl, rfl, rfl⟩ | ⟨rfl, rfl, rfl⟩ | ⟨rfl, rfl, rfl⟩
  · exact h
  · exact ge_T_sw h
  · exact ge_T_sw (ge_T_rot h)
  · exact ge_T_rot h
  · exact ge_T_rot (ge_T_rot h)
  · exact ge_T_sw (ge_T_rot (ge_T_rot h))
theorem ge_pm_eq {a b c a' b' c' m p q : Nat} (h1 : a < b) (h2 : b < c) (h3 : a' < b') (h4 : b' < c') (e : ge_pm a b c m p q) (e' : ge_pm a' b' c' m p q) : a = a' ∧ b = b' ∧ c = c' := by
  unfold ge_pm at e e'
  omega
def ge_cod (X Y : Nat → Int) (a b c z : Nat) : Prop := ∃ m p q, ge_pm a b c m p q ∧ ge_y X Y p < ge_y X Y m ∧ ge_y X Y m < ge_y X Y q ∧ ((z = 2 * m ∧ ge_t X Y m p q < 0) ∨ (z = 2 * m + 1 ∧ 0 < ge_t X Y m p q))
theorem ge_cod_ex {X Y : Nat → Int} {n a b c : Nat} (h : ge_ok X Y n) (t : ge_tri X Y n a b c) : ∃ z, ge_cod X Y a b c z := by
  obtain ⟨h1, h2, h3, h4, h5⟩ := t
  have ab : ge_y X Y a ≠ ge_y X Y b := fun e => by have := ge_y_inj h (by omega) (by omega) e; omega
  have ac : ge_y X Y a ≠ ge_y X Y c := fun e => by have := ge_y_inj h (by omega) (by omega) e; omega
  have bc : ge_y X Y b ≠ ge_y X Y c := fun e => by have := ge_y_inj h (by omega) (by omega) e; omega
  have key : ∃ m p q, ge_pm a b c m p q ∧ ge_y X Y p < ge_y X Y m ∧ ge_y X Y m < ge_y X Y q := by
    by_cases x : ge_y X Y a < ge_y X Y b
    · by_cases y : ge_y X Y b < ge_y X Y c
      · exact ⟨b, a, c, Or.inr (Or.inr (Or.inl ⟨rfl, rfl, rfl⟩)), by omega, by omega⟩
      · by_cases w : ge_y X Y a < ge_y X Y c
        · exact ⟨c, a, b, Or.inr (Or.inr (Or.inr (Or.inr (Or.inl ⟨rfl, rfl, rfl⟩)))), by omega, by omega⟩
        · exact ⟨a, c, b, Or.inr (Or.inl ⟨rfl, rfl, rfl⟩), by omega, by omega⟩
    · by_cases y : ge_y X Y a < ge_y X Y c
      · exact ⟨a, b, c, Or.inl ⟨rfl, rfl, rfl⟩, by omega, by omega⟩
      · by_cases w : ge_y X Y b < ge_y X Y c
        · exact ⟨c, b, a, Or.inr (Or.inr (Or.inr (Or.inr (Or.inr ⟨rfl, rfl, rfl⟩)))), by omega, by omega⟩
        · exact ⟨b, c, a, Or.inr (Or.inr (Or.inr (Or.inl ⟨rfl, rfl, rfl⟩))), by omega, by omega⟩
  obtain ⟨m, p, q, e, y1, y2⟩ := key
  have t0 : ge_t X Y m p q ≠ 0 := (ge_pm_T (ge_T_of h ⟨h1, h2, h3, h4, h5⟩) e).2.2.2.1
  rcases Int.lt_or_lt_of_ne t0 with k | k
  · exact ⟨2 * m, m, p, q, e, y1, y2, Or.inl ⟨rfl, k⟩⟩
  · exact ⟨2 * m + 1, m, p, q, e, y1, y2, Or.inr ⟨rfl, k⟩⟩
theorem ge_cod_inj {X Y : Nat → Int} {n a b c a' b' c' z : Nat} (h : ge_ok X Y n) (t : ge_tri X Y n a b c) (t' : ge_tri X Y n a' b' c') (e : ge_cod X Y a b c z) (e' : ge_cod X Y a' b' c' z) : a = a' ∧ b = b' ∧ c = c' := by
  obtain ⟨m, p, q, i, y1, y2, k⟩ := e
  obtain ⟨m', r, s, i', y3, y4, k'⟩ := e'
  have T1 := ge_pm_T (ge_T_of h t) i
  have T2 := ge_pm_T (ge_T_of h t') i'
  have hm : m = m' := by omega
  subst hm
  have pq : p = r ∧ q = s := by
    rcases k with ⟨k1, k2⟩ | ⟨k1, k2⟩
    · rcases k' with ⟨k3, k4⟩ | ⟨k3, k4⟩
      · exact ge_above 64 1 T1 T2 k2 k4 y1 y2 y3 y4
      · omega
    · rcases k' with ⟨k3, k4⟩ | ⟨k3, k4⟩
      · omega
      · have f : ∀ v, ge_k (-64) (-1) X Y v = -ge_y X Y v := fun v => by unfold ge_y ge_k; omega
        have g := ge_above (-64) (-1) (ge_T_sw T1) (ge_T_sw T2) (by rw [ge_t_sw]; omega) (by rw [ge_t_sw]; omega) (by rw [f, f]; omega) (by rw [f, f]; omega) (by rw [f, f]; omega) (by rw [f, f]; omega)
        exact ⟨g.2, g.1⟩
  obtain ⟨rfl, rfl⟩ := pq
  exact ge_pm_eq t.1 t.2.1 t'.1 t'.2.1 i i'
/-! counting -/
theorem ge_php : ∀ (N k : Nat) (f : Nat → Nat), (∀ i, i < k → f i < N) → (∀ i j, i < j → j < k → f i ≠ f j) → k ≤ N := by
  intro N
  induction N with
  | zero => intro k f h _; rcases Nat.eq_zero_or_pos k with h0 | h0; omega; exact absurd (h 0 h0) (by omega)
  | succ N ih =>
    intro k f h inj
    rcases Nat.eq_zero_or_pos k with h0 | h0
    · omega
    obtain ⟨k', rfl⟩ : ∃ k', k = k' + 1 := ⟨k - 1, by omega⟩
    have := ih k' (fun i => if f i = N then f k' else f i) (fun i hi => by
      try dsimp only
      have a := h i (by omega)
      have b := h k' (by omega)
      have c := inj i k' hi (by omega)
      split <;> omega) (fun i j hi hj => by
      try dsimp only
      have a := inj i j hi (by omega)
      have b := inj i k' (by omega) (by omega)
      have c := inj j k' hj (by omega)
      split <;> split <;> omega)
    omega
theorem ge_min (P : Nat → Prop) (h : Nat → Int) : ∀ n, (∃ v, v < n ∧ P v) → ∃ z, z < n ∧ P z ∧ ∀ v, v < n → P v → h z ≤ h v := by
  intro n
  induction n with
  | zero => rintro ⟨v, hv, -⟩; omega
  | succ n ih =>
    intro e
    by_cases e' : ∃ v, v < n ∧ P v
    · obtain ⟨z, z1, z2, z3⟩ := ih e'
      by_cases c : P n ∧ h n < h z
      · refine ⟨n, by omega, c.1, fun v hv pv => ?_⟩
        rcases Nat.lt_or_ge v n with l | l
        · have := z3 v l pv; omega
        · have : v = n := by omega
          subst this; omega
      · refine ⟨z, by omega, z2, fun v hv pv => ?_⟩
        rcases Nat.lt_or_ge v n with l | l
        · exact z3 v l pv
        · have : v = n := by omega
          subst this
          rcases Int.lt_or_le (h v) (h z) with q | q
          · exact absurd ⟨pv, q⟩ c
          · exact q
    · obtain ⟨v, hv, pv⟩ := e
      have : v = n := by
        rcases Nat.lt_or_ge v n with l | l
        · exact absurd ⟨v, l, pv⟩ e'
        · omega
      subst this
      refine ⟨v, by omega, pv, fun u hu pu => ?_⟩
      rcases Nat.lt_or_ge u v with l | l
      · exact absurd ⟨u, l, pu⟩ e'
      · have : u = v := by omega
        subst this; omega
theorem ge_hull_id (X Y : Nat → Int) (f g z p q : Nat) : (ge_y X Y g - ge_y X Y f) * ge_t X Y z p q = -((ge_t X Y f g p - ge_t X Y f g z) * (ge_y X Y q - ge_y X Y z)) + (ge_t X Y f g q - ge_t X Y f g z) * (ge_y X Y p - ge_y X Y z) := by
  unfold ge_y ge_k ge_t; grind
/-- a code that no triangle has, of a spot that is neither the first nor the last -/
theorem ge_hull {X Y : Nat → Int} {n f g : Nat} (h : ge_ok X Y n) (hn : 3 ≤ n) (hf : f < n) (hg : g < n) (hfg : ge_y X Y f < ge_y X Y g) :
    ∃ w z, z < n ∧ z ≠ f ∧ z ≠ g ∧ (w = 2 * z ∨ w = 2 * z + 1) ∧ ∀ a b c, ge_tri X Y n a b c → ¬ ge_cod X Y a b c w := by
  have t0 : ge_t X Y f g f = 0 ∧ ge_t X Y f g g = 0 := by constructor <;> (unfold ge_t; grind)
  by_cases A : ∃ v, v < n ∧ (v ≠ f ∧ v ≠ g) ∧ ge_t X Y f g v ≤ 0
  · obtain ⟨v0, v1, v2, v3⟩ := A
    obtain ⟨z, z1, z2, z3⟩ := ge_min (fun v => v ≠ f ∧ v ≠ g) (fun v => ge_t X Y f g v) n ⟨v0, v1, v2⟩
    try dsimp only at z2 z3
    have z4 := z3 v0 v1 v2
    have all : ∀ v, v < n → ge_t X Y f g z ≤ ge_t X Y f g v := fun v hv => by
      by_cases e1 : v = f
      · subst e1; omega
      by_cases e2 : v = g
      · subst e2; omega
      exact z3 v hv ⟨e1, e2⟩
    refine ⟨2 * z + 1, z, z1, z2.1, z2.2, Or.inr rfl, fun a b c t k => ?_⟩
    obtain ⟨m, p, q, i, y1, y2, k⟩ := k
    have T1 := ge_pm_T (ge_T_of h t) i
    have k9 : m = z ∧ 0 < ge_t X Y m p q := by omega
    clear k
    obtain ⟨ez, k⟩ := k9
    subst ez
    have id := ge_hull_id X Y f g m p q
    have u1 := Int.mul_nonneg (a := ge_t X Y f g p - ge_t X Y f g m) (b := ge_y X Y q - ge_y X Y m) (by have := all p T1.2.1; omega) (by omega)
    have u2 := Int.mul_nonneg (a := ge_t X Y f g q - ge_t X Y f g m) (b := ge_y X Y m - ge_y X Y p) (by have := all q T1.2.2.1; omega) (by omega)
    have u3 := Int.mul_pos (a := ge_y X Y g - ge_y X Y f) (b := ge_t X Y m p q) (by omega) k
    have u4 : (ge_t X Y f g q - ge_t X Y f g m) * (ge_y X Y p - ge_y X Y m) = -((ge_t X Y f g q - ge_t X Y f g m) * (ge_y X Y m - ge_y X Y p)) := by rw [← Int.mul_neg, Int.neg_sub]
    rw [u4] at id
    omega
  · have B : ∀ v, v < n → v ≠ f → v ≠ g → 0 < ge_t X Y f g v := fun v hv e1 e2 => by
      rcases Int.lt_or_le 0 (ge_t X Y f g v) with q | q
      · exact q
      · exact absurd ⟨v, hv, ⟨e1, e2⟩, q⟩ A
    have ex : ∃ v, v < n ∧ (v ≠ f ∧ v ≠ g) := by
      by_cases e0 : 0 ≠ f ∧ 0 ≠ g
      · exact ⟨0, by omega, e0⟩
      by_cases e1 : 1 ≠ f ∧ 1 ≠ g
      · exact ⟨1, by omega, e1⟩
      exact ⟨2, by omega, by omega, by omega⟩
    obtain ⟨z, z1, z2, z3⟩ := ge_min (fun v => v ≠ f ∧ v ≠ g) (fun v => -ge_t X Y f g v) n ex
    try dsimp only at z2 z3
    have z5 := B z z1 z2.1 z2.2
    have all : ∀ v, v < n → ge_t X Y f g v ≤ ge_t X Y f g z := fun v hv => by
      by_cases e1 : v = f
      · subst e1; omega
      by_cases e2 : v = g
      · subst e2; omega
      have := z3 v hv ⟨e1, e2⟩
      omega
    refine ⟨2 * z, z, z1, z2.1, z2.2, Or.inl rfl, fun a b c t k => ?_⟩
    obtain ⟨m, p, q, i, y1, y2, k⟩ := k
    have T1 := ge_pm_T (ge_T_of h t) i
    have k9 : m = z ∧ ge_t X Y m p q < 0 := by omega
    clear k
    obtain ⟨ez, k⟩ := k9
    subst ez
    have id := ge_hull_id X Y f g m p q
    have u1 := Int.mul_nonneg (a := ge_t X Y f g m - ge_t X Y f g p) (b := ge_y X Y q - ge_y X Y m) (by have := all p T1.2.1; omega) (by omega)
    have u2 := Int.mul_nonneg (a := ge_t X Y f g m - ge_t X Y f g q) (b := ge_y X Y m - ge_y X Y p) (by have := all q T1.2.2.1; omega) (by omega)
    have u3 := Int.mul_pos (a := ge_y X Y g - ge_y X Y f) (b := -ge_t X Y m p q) (by omega) (by omega)
    rw [Int.mul_neg] at u3
    have u4 : (ge_t X Y f g q - ge_t X Y f g m) * (ge_y X Y p - ge_y X Y m) = (ge_t X Y f g m - ge_t X Y f g q) * (ge_y X Y m - ge_y X Y p) := by rw [← Int.neg_sub (ge_t X Y f g m), ← Int.neg_sub (ge_y X Y m), Int.neg_mul_neg]
    have u5 : -((ge_t X Y f g p - ge_t X Y f g m) * (ge_y X Y q - ge_y X Y m)) = (ge_t X Y f g m - ge_t X Y f g p) * (ge_y X Y q - ge_y X Y m) := by rw [← Int.neg_mul, Int.neg_sub]
    rw [u4, u5] at id
    omega
def ge_h (f g w k : Nat) : Nat := match k with
  | 0 => 2 * f
  | 1 => 2 * f + 1
  | 2 => 2 * g
  | 3 => 2 * g + 1
  | _ => w
theorem ge_h_or (f g w k : Nat) : ge_h f g w k = 2 * f ∨ ge_h f g w k = 2 * f + 1 ∨ ge_h f g w k = 2 * g ∨ ge_h f g w k = 2 * g + 1 ∨ ge_h f g w k = w := by
  unfold ge_h; split <;> simp
theorem ge_h_ne {f g w : Nat} (h1 : f ≠ g) (h2 : w ≠ 2 * f) (h3 : w ≠ 2 * f + 1) (h4 : w ≠ 2 * g) (h5 : w ≠ 2 * g + 1) {i j : Nat} (hij : i < j) (hj : j < 5) : ge_h f g w i ≠ ge_h f g w j := by
  have v0 : ge_h f g w 0 = 2 * f := rfl
  have v1 : ge_h f g w 1 = 2 * f + 1 := rfl
  have v2 : ge_h f g w 2 = 2 * g := rfl
  have v3 : ge_h f g w 3 = 2 * g + 1 := rfl
  have v4 : ge_h f g w 4 = w := rfl
  have a : i = 0 ∨ i = 1 ∨ i = 2 ∨ i = 3 := by omega
  have b : j = 1 ∨ j = 2 ∨ j = 3 ∨ j = 4 := by omega
  rcases a with rfl | rfl | rfl | rfl <;> rcases b with rfl | rfl | rfl | rfl <;> omega
/-- AT MOST 27 TRIANGLES -/
theorem ge_27 {X Y : Nat → Int} {n : Nat} (h : ge_ok X Y n) (cnt : Nat) (A B C : Nat → Nat) (ht : ∀ t, t < cnt → ge_tri X Y n (A t) (B t) (C t))
    (hd : ∀ i j, i < j → j < cnt → ¬ (A i = A j ∧ B i = B j ∧ C i = C j)) : cnt ≤ 27 := by
  rcases Nat.eq_zero_or_pos cnt with h0 | h0
  · omega
  have q0 := ht 0 h0
  have n3 : 3 ≤ n := by have a := q0.1; have b := q0.2.1; have c := q0.2.2.1; omega
  obtain ⟨f, f1, -, f3⟩ := ge_min (fun _ => True) (fun v => ge_y X Y v) n ⟨0, by omega, trivial⟩
  obtain ⟨g, g1, -, g3⟩ := ge_min (fun _ => True) (fun v => -ge_y X Y v) n ⟨0, by omega, trivial⟩
  try dsimp only at f3 g3
  have fg : ge_y X Y f < ge_y X Y g := by
    have a := f3 0 (by omega) trivial
    have b := g3 0 (by omega) trivial
    have c := f3 1 (by omega) trivial
    have d := g3 1 (by omega) trivial
    have e : ge_y X Y 0 ≠ ge_y X Y 1 := fun e => by have := ge_y_inj h (by omega) (by omega) e; omega
    omega
  have nfg : f ≠ g := fun e => by subst e; omega
  obtain ⟨w, z, w1, w2, w3, w4, w5⟩ := ge_hull h n3 f1 g1 fg
  have cf : ∀ t, ∃ u, t < cnt → ge_cod X Y (A t) (B t) (C t) u := fun t => by
    by_cases l : t < cnt
    · obtain ⟨u, hu⟩ := ge_cod_ex h (ht t l); exact ⟨u, fun _ => hu⟩
    · exact ⟨0, fun l' => absurd l' l⟩
  have F : ∀ t, t < cnt → ge_cod X Y (A t) (B t) (C t) (Classical.choose (cf t)) := fun t => Classical.choose_spec (cf t)
  have mid : ∀ t, t < cnt → Classical.choose (cf t) < 2 * n ∧ Classical.choose (cf t) ≠ 2 * f ∧ Classical.choose (cf t) ≠ 2 * f + 1 ∧ Classical.choose (cf t) ≠ 2 * g ∧ Classical.choose (cf t) ≠ 2 * g + 1 ∧ Classical.choose (cf t) ≠ w := fun t l => by
    have k := F t l
    have kw := w5 _ _ _ (ht t l)
    have nw : Classical.choose (cf t) ≠ w := fun e => by rw [e] at k; exact kw k
    obtain ⟨m, p, q, i, y1, y2, k⟩ := k
    have T1 := ge_pm_T (ge_T_of h (ht t l)) i
    have a := f3 p T1.2.1 trivial
    have b := g3 q T1.2.2.1 trivial
    have mf : m ≠ f := fun e => by subst e; omega
    have mg : m ≠ g := fun e => by subst e; omega
    have mn := T1.1
    omega
  have r := ge_php (2 * n) (cnt + 5) (fun t => if t < cnt then Classical.choose (cf t) else ge_h f g w (t - cnt))
    (fun i hi => by
      try dsimp only
      by_cases l : i < cnt
      · rw [if_pos l]; exact (mid i l).1
      · rw [if_neg l]
        have := ge_h_or f g w (i - cnt)
        omega)
    (fun i j hi hj => by
      try dsimp only
      by_cases lj : j < cnt
      · have li : i < cnt := by omega
        rw [if_pos lj, if_pos li]
        intro e
        have k1 := F i li
        have k2 := F j lj
        rw [e] at k1
        exact hd i j hi lj (ge_cod_inj h (ht i li) (ht j lj) k1 k2)
      · rw [if_neg lj]
        by_cases li : i < cnt
        · rw [if_pos li]
          have := mid i li
          have := ge_h_or f g w (j - cnt)
          omega
        · rw [if_neg li]
          exact ge_h_ne nfg (by omega) (by omega) (by omega) (by omega) (by omega) (by omega))
  have := h.1
  omega
end
section
/-! Triangles cover and do not overlap, as far as it is needed: round a spot, to one side of it, they follow one another; so sums round triangles that vanish come from a height of the spots. From that: the spots of a ring with the least x are all high or all low. Whole numbers alone. -/
/-- no four spots, three of which are not in a line, have determinant 0 -/
theorem ge_E_ne3 {X Y : Nat → Int} {n : Nat} (h : ge_ok X Y n) {a b c d : Nat} (hab : a < b) (hbc : b < c) (hc : c < n) (hd : d < n) (had : d ≠ a) (hbd : d ≠ b) (hcd : d ≠ c) (ht : ge_t X Y a b c ≠ 0) : ge_E X Y a b c d ≠ 0 := by
  have hn := h.1
  have ha : a < n := by omega
  have hb : b < n := by omega
  have k1 := ge_t_b h hb hc hd
  have k2 := ge_t_b h ha hc hd
  have k3 := ge_t_b h ha hb hd
  have k4 := ge_t_b h ha hb hc
  have wa := ge_w_pos a (by omega)
  have wb := ge_w_pos b (by omega)
  have wc := ge_w_pos c (by omega)
  have wd := ge_w_pos d (by omega)
  have m1 := ge_wt wa k1.1 k1.2
  have m2 := ge_wt wb k2.1 k2.2
  have m3 := ge_wt wc k3.1 k3.2
  have m4 := ge_wt wd k4.1 k4.2
  have Ka := ge_w_K a (by omega)
  have Kb := ge_w_K b (by omega)
  have Kc := ge_w_K c (by omega)
  have Kd := ge_w_K d (by omega)
  have ab := ge_w_lt a (by omega) b (by omega) hab
  have ac := ge_w_lt a (by omega) c (by omega) (by omega)
  have hE := ge_E_split X Y a b c d
  have hD : ge_D X Y ge_w a b c d = ge_w a * ge_t X Y b c d - ge_w b * ge_t X Y a c d + ge_w c * ge_t X Y a b d - ge_w d * ge_t X Y a b c := rfl
  rw [hD] at hE
  have Kp : 0 < ge_K := by decide +kernel
  generalize hi : ge_i X Y a b c d = i at hE ⊢
  rcases Int.lt_trichotomy i 0 with i1 | i1 | i1
  · have q := ge_small Kp (show i ≤ -1 by omega)
    omega
  · subst i1
    obtain ⟨n1, n2, n3, n4⟩ := ge_circ h ha hb hc hd (by omega) (by omega) (by omega) (by omega) (by omega) (by omega) ht hi
    rw [Int.mul_zero] at hE
    rcases Nat.lt_or_ge d a with l | l
    · have da := ge_w_lt d (by omega) a (by omega) l
      have db := ge_w_lt d (by omega) b (by omega) (by omega)
      have dc := ge_w_lt d (by omega) c (by omega) (by omega)
      rcases Int.lt_or_lt_of_ne ht with t | t
      · have q := ge_small wd (show ge_t X Y a b c ≤ -1 by omega)
        omega
      · have q := ge_big wd (show 1 ≤ ge_t X Y a b c by omega)
        omega
    · have ad := ge_w_lt a (by omega) d (by omega) (by omega)
      rcases Int.lt_or_lt_of_ne n1 with u | u
      · have q := ge_small wa (show ge_t X Y b c d ≤ -1 by omega)
        omega
      · have q := ge_big wa (show 1 ≤ ge_t X Y b c d by omega)
        omega
  · have q := ge_big Kp (show 1 ≤ i by omega)
    omega
theorem ge_E_rot (X Y : Nat → Int) (a b c d : Nat) : ge_E X Y b c a d = ge_E X Y a b c d := ge_D_rot X Y _ a b c d
theorem ge_E_sw (X Y : Nat → Int) (a b c d : Nat) : ge_E X Y a c b d = -ge_E X Y a b c d := ge_D_sw X Y _ a b c d
theorem ge_E_sw3 (X Y : Nat → Int) (a b c d : Nat) : ge_E X Y a b d c = -ge_E X Y a b c d := ge_D_sw3 X Y _ a b c d
theorem ge_E_ne {X Y : Nat → Int} {n : Nat} (h : ge_ok X Y n) {a b c d : Nat} (ha : a < n) (hb : b < n) (hc : c < n) (hd : d < n) (had : d ≠ a) (hbd : d ≠ b) (hcd : d ≠ c) (ht : ge_t X Y a b c ≠ 0) : ge_E X Y a b c d ≠ 0 := by
  obtain ⟨ab, ac, bc⟩ := ge_t_ne ht
  have r1 := ge_t_rot X Y a b c
  have r2 := ge_t_rot X Y b c a
  have s1 := ge_t_sw X Y a b c
  have s2 := ge_t_sw X Y b c a
  have s3 := ge_t_sw X Y c a b
  have R1 := ge_E_rot X Y a b c d
  have R2 := ge_E_rot X Y b c a d
  have S1 := ge_E_sw X Y a b c d
  have S2 := ge_E_sw X Y b c a d
  have S3 := ge_E_sw X Y c a b d
  rcases Nat.lt_or_gt_of_ne ab with l1 | l1 <;> rcases Nat.lt_or_gt_of_ne ac with l2 | l2 <;> rcases Nat.lt_or_gt_of_ne bc with l3 | l3
  · exact ge_E_ne3 h l1 l3 hc hd had hbd hcd ht
  · have := ge_E_ne3 h l2 l3 hb hd had hcd hbd (by omega); omega
  · omega
  · have := ge_E_ne3 h l2 l1 hb hd hcd had hbd (by omega); omega
  · have := ge_E_ne3 h l1 l2 hc hd hbd had hcd (by omega); omega
  · omega
  · have := ge_E_ne3 h l3 l2 ha hd hbd hcd had (by omega); omega
  · have := ge_E_ne3 h l3 l1 ha hd hcd hbd had (by omega); omega
/-! identities -/
theorem ge_id1 (X Y L : Nat → Int) (v u d k e : Nat) : ge_t X Y v u d * ge_D X Y L v u k e = ge_t X Y v u e * ge_D X Y L v u k d + ge_t X Y v u k * ge_D X Y L v u d e := by
  unfold ge_D ge_t; grind
theorem ge_id2 (X Y L : Nat → Int) (v u w p z : Nat) : -(ge_t X Y v p z) * ge_D X Y L v u w p = ge_t X Y v p w * ge_D X Y L v p z u + ge_t X Y v u p * ge_D X Y L v p z w := by
  unfold ge_D ge_t; grind
theorem ge_id3 (X Y L : Nat → Int) (v u p c z : Nat) : ge_t X Y v u c * ge_D X Y L v p z u + ge_t X Y v u z * ge_D X Y L v u c p = ge_t X Y v u p * ge_D X Y L v u c z := by
  unfold ge_D ge_t; grind
theorem ge_id4 (X Y : Nat → Int) (v u p z : Nat) : (ge_y X Y u - ge_y X Y v) * ge_t X Y v p z - (ge_y X Y p - ge_y X Y v) * ge_t X Y v u z + (ge_y X Y z - ge_y X Y v) * ge_t X Y v u p = 0 := by
  unfold ge_y ge_k ge_t; grind
/-! the signs of products -/
theorem ge_pp {a b : Int} (h1 : a < 0) (h2 : b < 0) : 0 < a * b := Int.mul_pos_of_neg_of_neg h1 h2
theorem ge_np {a b : Int} (h1 : a < 0) (h2 : 0 < b) : a * b < 0 := Int.mul_neg_of_neg_of_pos h1 h2
theorem ge_pn {a b : Int} (h1 : 0 < a) (h2 : b < 0) : a * b < 0 := Int.mul_neg_of_pos_of_neg h1 h2
theorem ge_ln {a b : Int} (h1 : a < 0) (h : 0 < a * b) : b < 0 := by
  rcases Int.lt_trichotomy b 0 with q | q | q
  · exact q
  · rw [q, Int.mul_zero] at h; omega
  · have := ge_np h1 q; omega
theorem ge_lp {a b : Int} (h1 : a < 0) (h : a * b < 0) : 0 < b := by
  rcases Int.lt_trichotomy b 0 with q | q | q
  · have := ge_pp h1 q; omega
  · rw [q, Int.mul_zero] at h; omega
  · exact q
theorem ge_rp {a b : Int} (h1 : 0 < a) (h : 0 < a * b) : 0 < b := by
  rcases Int.lt_trichotomy b 0 with q | q | q
  · have := ge_pn h1 q; omega
  · rw [q, Int.mul_zero] at h; omega
  · exact q
section
variable {X Y : Nat → Int} {n : Nat}
/-- a triangle to the right of who goes from p to q -/
def ge_R (X Y : Nat → Int) (n p q r : Nat) : Prop := ge_T X Y n p q r ∧ ge_t X Y p q r < 0
theorem ge_R_rot {p q r : Nat} (h : ge_R X Y n p q r) : ge_R X Y n q r p := ⟨ge_T_rot h.1, by rw [ge_t_rot]; exact h.2⟩
theorem ge_R_u {p q r r' : Nat} (h : ge_R X Y n p q r) (h' : ge_R X Y n p q r') : r = r' := ge_right h.1 h'.1 h.2 h'.2
/-- an edge of the mesh -/
def ge_e (X Y : Nat → Int) (n u v : Nat) : Prop := ∃ c, ge_T X Y n u v c
theorem ge_e_sym {u v : Nat} (h : ge_e X Y n u v) : ge_e X Y n v u := by
  obtain ⟨c, h⟩ := h
  exact ⟨c, ge_T_rot (ge_T_sw (ge_T_rot h)) |> ge_T_sw |> ge_T_rot |> ge_T_sw⟩
theorem ge_T_out {a b c d : Nat} (h : ge_T X Y n a b c) (hd : d < n) (h1 : d ≠ a) (h2 : d ≠ b) (h3 : d ≠ c) : (0 < ge_t X Y a b c → ge_E X Y a b c d < 0) ∧ (ge_t X Y a b c < 0 → 0 < ge_E X Y a b c d) := h.2.2.2.2 d hd h1 h2 h3
/-- the spot to the right of v, u that all others there are out of -/
theorem ge_best (ho : ge_ok X Y n) {v u : Nat} (hv : v < n) (hu : u < n) : ∀ k, k ≤ n → (∃ s, s < k ∧ ge_t X Y v u s < 0) → ∃ d, d < k ∧ ge_t X Y v u d < 0 ∧ ∀ e, e < k → ge_t X Y v u e < 0 → e ≠ d → 0 < ge_E X Y v u d e := by
  intro k
  induction k with
  | zero => rintro - ⟨s, hs, -⟩; omega
  | succ k ih =>
    intro hk hex
    by_cases ex : ∃ s, s < k ∧ ge_t X Y v u s < 0
    · obtain ⟨d, d1, d2, d3⟩ := ih (by omega) ex
      by_cases tk : ge_t X Y v u k < 0
      · have ne := ge_E_ne ho hv hu (show d < n by omega) (show k < n by omega) (by have := ge_t_ne (Int.ne_of_lt tk); omega) (by have := ge_t_ne (Int.ne_of_lt tk); omega) (by omega) (Int.ne_of_lt d2)
        rcases Int.lt_or_lt_of_ne ne with q | q
        · have q' : 0 < ge_E X Y v u k d := by rw [ge_E_sw3]; omega
          refine ⟨k, by omega, tk, fun e he te ne => ?_⟩
          by_cases ed : e = d
          · rw [ed]; exact q'
          · have i := ge_id1 X Y (ge_L X Y) v u d k e
            have p1 := d3 e (by omega) te ed
            have p2 := ge_np te q'
            have p3 := ge_np tk p1
            exact ge_lp d2 (by unfold ge_E at p2 p3 ⊢; omega)
        · refine ⟨d, by omega, d2, fun e he te ne => ?_⟩
          by_cases ek : e = k
          · rw [ek]; exact q
          · exact d3 e (by omega) te ne
      · exact ⟨d, by omega, d2, fun e he te ne => d3 e (by by_cases e = k; (rename_i q; rw [q] at te; exact absurd te tk); omega) te ne⟩
    · obtain ⟨s, s1, s2⟩ := hex
      have : s = k := by
        rcases Nat.lt_or_ge s k with l | l
        · exact absurd ⟨s, l, s2⟩ ex
        · omega
      subst this
      exact ⟨s, by omega, s2, fun e he te ne => absurd ⟨e, by omega, te⟩ ex⟩
/-- where an edge has a spot to its right, it has a triangle there -/
theorem ge_ex (ho : ge_ok X Y n) {v u s : Nat} (he : ge_e X Y n v u) (hs : s < n) (ts : ge_t X Y v u s < 0) : ∃ d, ge_R X Y n v u d := by
  obtain ⟨c, hc⟩ := he
  rcases Int.lt_or_lt_of_ne hc.2.2.2.1 with tc | tc
  · exact ⟨c, hc, tc⟩
  · obtain ⟨d, d1, d2, d3⟩ := ge_best ho hc.1 hc.2.1 n (Nat.le_refl _) ⟨s, hs, ts⟩
    have dn := ge_t_ne (Int.ne_of_lt d2)
    have dc : d ≠ c := fun e => by rw [e] at d2; omega
    refine ⟨d, ⟨hc.1, hc.2.1, d1, Int.ne_of_lt d2, fun e he e1 e2 e3 => ⟨fun q => absurd q (by omega), fun _ => ?_⟩⟩, d2⟩
    rcases Int.lt_or_le (ge_t X Y v u e) 0 with te | te
    · exact d3 e he te e3
    · have o := (ge_T_out hc d1 (Ne.symm dn.2.1) (Ne.symm dn.2.2) dc).1 tc
      have o' : 0 < ge_E X Y v u d c := by rw [ge_E_sw3]; omega
      by_cases ec : e = c
      · rw [ec]; exact o'
      · have p := (ge_T_out hc he e1 e2 ec).1 tc
        have i := ge_id1 X Y (ge_L X Y) v u c d e
        have p1 : 0 ≤ ge_t X Y v u e * ge_E X Y v u d c := Int.mul_nonneg te (by omega)
        have p2 := ge_pp d2 p
        exact ge_rp tc (by unfold ge_E at p1 p2 ⊢; omega)
/-- no edge from v runs into a triangle at v -/
theorem ge_in_no {v u w p : Nat} (h : ge_R X Y n v u w) (hp : ge_e X Y n v p) (t1 : ge_t X Y v u p < 0) (t2 : ge_t X Y v p w < 0) : False := by
  obtain ⟨z, hz⟩ := hp
  have n1 := ge_t_ne (Int.ne_of_lt t1)
  have n2 := ge_t_ne (Int.ne_of_lt t2)
  have o := (ge_T_out h.1 hz.2.1 (Ne.symm n1.2.1) (Ne.symm n1.2.2) n2.2.2).2 h.2
  have i := ge_id2 X Y (ge_L X Y) v u w p z
  have zz := ge_D_0 X Y (ge_L X Y) v p z
  have n3 := ge_t_ne hz.2.2.2.1
  have hu : 0 ≤ -(ge_t X Y v p z) * ge_D X Y (ge_L X Y) v p z u → True := fun _ => trivial
  rcases Int.lt_or_lt_of_ne hz.2.2.2.1 with t | t
  · have a1 : 0 ≤ ge_D X Y (ge_L X Y) v p z u := by
      by_cases e : u = z
      · rw [e]; omega
      · have := (ge_T_out hz h.1.2.1 (Ne.symm n1.1) n1.2.2 e).2 t; unfold ge_E at this; omega
    have a2 : 0 ≤ ge_D X Y (ge_L X Y) v p z w := by
      by_cases e : w = z
      · rw [e]; omega
      · have := (ge_T_out hz h.1.2.2.1 (Ne.symm n2.2.1) (Ne.symm n2.2.2) e).2 t; unfold ge_E at this; omega
    have b1 : ge_t X Y v p w * ge_D X Y (ge_L X Y) v p z u ≤ 0 := Int.mul_nonpos_of_nonpos_of_nonneg (by omega) a1
    have b2 : ge_t X Y v u p * ge_D X Y (ge_L X Y) v p z w ≤ 0 := Int.mul_nonpos_of_nonpos_of_nonneg (by omega) a2
    have b3 : 0 < -(ge_t X Y v p z) * ge_D X Y (ge_L X Y) v u w p := Int.mul_pos (by omega) o
    omega
  · have a1 : ge_D X Y (ge_L X Y) v p z u ≤ 0 := by
      by_cases e : u = z
      · rw [e]; omega
      · have := (ge_T_out hz h.1.2.1 (Ne.symm n1.1) n1.2.2 e).1 t; unfold ge_E at this; omega
    have a2 : ge_D X Y (ge_L X Y) v p z w ≤ 0 := by
      by_cases e : w = z
      · rw [e]; omega
      · have := (ge_T_out hz h.1.2.2.1 (Ne.symm n2.2.1) (Ne.symm n2.2.2) e).1 t; unfold ge_E at this; omega
    have b1 : 0 ≤ ge_t X Y v p w * ge_D X Y (ge_L X Y) v p z u := Int.mul_nonneg_of_nonpos_of_nonpos (by omega) a1
    have b2 : 0 ≤ ge_t X Y v u p * ge_D X Y (ge_L X Y) v p z w := Int.mul_nonneg_of_nonpos_of_nonpos (by omega) a2
    have b3 : -(ge_t X Y v p z) * ge_D X Y (ge_L X Y) v u w p < 0 := ge_np (by omega) o
    omega
/-- two edges from v one way are one -/
theorem ge_one {v u p : Nat} (hu : ge_e X Y n v u) (hp : ge_e X Y n v p) (ku : ge_y X Y u < ge_y X Y v) (kp : ge_y X Y p < ge_y X Y v) (t0 : ge_t X Y v u p = 0) : u = p := by
  refine Classical.byContradiction fun ne => ?_
  obtain ⟨c, hc⟩ := hu
  obtain ⟨z, hz⟩ := hp
  have i3 := ge_id3 X Y (ge_L X Y) v u p c z
  have i4 := ge_id4 X Y v u p z
  rw [t0, Int.zero_mul] at i3
  rw [t0, Int.mul_zero] at i4
  have nc := ge_t_ne hc.2.2.2.1
  have nz := ge_t_ne hz.2.2.2.1
  have pc : p ≠ c := fun e => hc.2.2.2.1 (by rw [← e]; exact t0)
  have t0' : ge_t X Y v p u = 0 := by rw [ge_t_sw]; omega
  have uz : u ≠ z := fun e => hz.2.2.2.1 (by rw [← e]; exact t0')
  have o1 := ge_T_out hc hz.2.1 (Ne.symm nz.1) (Ne.symm ne) pc
  have o2 := ge_T_out hz hc.2.1 (Ne.symm nc.1) ne uz
  unfold ge_E at o1 o2
  have a1 : ge_y X Y u - ge_y X Y v < 0 := by omega
  have a2 : ge_y X Y p - ge_y X Y v < 0 := by omega
  rcases Int.lt_or_lt_of_ne hz.2.2.2.1 with t | t
  · have z1 : ge_t X Y v u z < 0 := ge_ln a2 (by have := ge_pp a1 t; omega)
    have q2 := o2.2 t
    rcases Int.lt_or_lt_of_ne hc.2.2.2.1 with tc | tc
    · have q1 := o1.2 tc
      have b1 := ge_np tc q2
      have b2 := ge_np z1 q1
      omega
    · have q1 := o1.1 tc
      have b1 := Int.mul_pos tc q2
      have b2 := ge_pp z1 q1
      omega
  · have z1 : 0 < ge_t X Y v u z := ge_lp a2 (by have := ge_np a1 t; omega)
    have q2 := o2.1 t
    rcases Int.lt_or_lt_of_ne hc.2.2.2.1 with tc | tc
    · have q1 := o1.2 tc
      have b1 := ge_pp tc q2
      have b2 := Int.mul_pos z1 q1
      omega
    · have q1 := o1.1 tc
      have b1 := ge_pn tc q2
      have b2 := ge_pn z1 q1
      omega
end
/-! how many -/
noncomputable def ge_c (P : Nat → Prop) : Nat → Nat
  | 0 => 0
  | k + 1 => ge_c P k + @ite _ (P k) (Classical.propDecidable _) 1 0
theorem ge_c_le {P Q : Nat → Prop} (h : ∀ s, P s → Q s) : ∀ k, ge_c P k ≤ ge_c Q k := by
  intro k
  induction k with
  | zero => exact Nat.le_refl _
  | succ k ih =>
    show ge_c P k + _ ≤ ge_c Q k + _
    by_cases p : P k
    · rw [@if_pos _ (Classical.propDecidable _) p, @if_pos _ (Classical.propDecidable _) (h k p)]; omega
    · rw [@if_neg _ (Classical.propDecidable _) p]; omega
theorem ge_c_lt {P Q : Nat → Prop} (h : ∀ s, P s → Q s) {x : Nat} (hq : Q x) (hp : ¬ P x) : ∀ k, x < k → ge_c P k < ge_c Q k := by
  intro k
  induction k with
  | zero => intro l; omega
  | succ k ih =>
    intro l
    show ge_c P k + _ < ge_c Q k + _
    by_cases e : x = k
    · subst e
      rw [@if_neg _ (Classical.propDecidable _) hp, @if_pos _ (Classical.propDecidable _) hq]
      have := ge_c_le h x
      omega
    · have := ih (by omega)
      by_cases p : P k
      · rw [@if_pos _ (Classical.propDecidable _) p, @if_pos _ (Classical.propDecidable _) (h k p)]; omega
      · rw [@if_neg _ (Classical.propDecidable _) p]; omega
section
variable {X Y : Nat → Int} {n : Nat}
/-- what is the same over a triangle at v, of two spots ahead of v, is the same for all spots ahead of v that have an edge with v -/
theorem ge_fanR (ho : ge_ok X Y n) {v : Nat} {f : Nat → Int} (hf : ∀ a b, ge_T X Y n v a b → ge_y X Y a < ge_y X Y v → ge_y X Y b < ge_y X Y v → f a = f b) :
    ∀ (m : Nat) (u p : Nat), ge_c (fun s => ge_t X Y v u s < 0 ∧ ge_t X Y v s p < 0) n < m → ge_e X Y n v u → ge_e X Y n v p → ge_y X Y u < ge_y X Y v → ge_y X Y p < ge_y X Y v → ge_t X Y v u p < 0 → f u = f p := by
  intro m
  induction m with
  | zero => intro u p h; omega
  | succ m ih =>
    intro u p hm hu hp ku kp t
    obtain ⟨cp, hcp⟩ := hp
    obtain ⟨d, hd⟩ := ge_ex ho hu hcp.2.1 t
    have hp : ge_e X Y n v p := ⟨cp, hcp⟩
    have i4 := ge_id4 X Y v u p d
    have sd : ge_t X Y v d p = -ge_t X Y v p d := ge_t_sw X Y v p d
    have a1 : ge_y X Y u - ge_y X Y v < 0 := by omega
    have a2 : ge_y X Y p - ge_y X Y v < 0 := by omega
    have hv : ge_e X Y n v d := ⟨u, ge_T_sw hd.1⟩
    have no : ¬ ge_t X Y v p d < 0 := fun q => ge_in_no hd hp t q
    have kd : ge_y X Y d < ge_y X Y v := by
      have b1 : (ge_y X Y u - ge_y X Y v) * ge_t X Y v p d ≤ 0 := Int.mul_nonpos_of_nonpos_of_nonneg (by omega) (by omega)
      have b2 := ge_pp a2 hd.2
      have b3 : 0 < ge_t X Y v u p * (ge_y X Y d - ge_y X Y v) := by rw [Int.mul_comm]; omega
      have := ge_ln t b3
      omega
    have e1 := hf u d hd.1 ku kd
    by_cases z : ge_t X Y v p d = 0
    · have := ge_one hv hp kd kp (by omega)
      rw [e1, this]
    · have t2 : ge_t X Y v d p < 0 := by omega
      rw [e1]
      refine ih d p ?_ hv hp kd kp t2
      have sub : ∀ s, (ge_t X Y v d s < 0 ∧ ge_t X Y v s p < 0) → (ge_t X Y v u s < 0 ∧ ge_t X Y v s p < 0) := fun s ⟨s1, s2⟩ => by
        refine ⟨?_, s2⟩
        have j1 := ge_id4 X Y v d p s
        have ss : ge_t X Y v s p = -ge_t X Y v p s := ge_t_sw X Y v p s
        have a3 : ge_y X Y d - ge_y X Y v < 0 := by omega
        have c1 := ge_np a3 (show 0 < ge_t X Y v p s by omega)
        have c2 := ge_pp a2 s1
        have c3 : 0 < ge_t X Y v d p * (ge_y X Y s - ge_y X Y v) := by rw [Int.mul_comm]; omega
        have ks := ge_ln t2 c3
        have j2 := ge_id4 X Y v u d s
        have c4 := ge_pp a1 s1
        have c5 := ge_pp ks hd.2
        exact ge_ln a3 (by omega)
      have dd : ge_t X Y v d d = 0 := by unfold ge_t; grind
      have lt := ge_c_lt (P := fun s => ge_t X Y v d s < 0 ∧ ge_t X Y v s p < 0) (Q := fun s => ge_t X Y v u s < 0 ∧ ge_t X Y v s p < 0) sub (x := d) ⟨hd.2, t2⟩ (fun q => absurd q.1 (by omega)) n hd.1.2.2.1
      omega
theorem ge_fan (ho : ge_ok X Y n) {v : Nat} {f : Nat → Int} (hf : ∀ a b, ge_T X Y n v a b → ge_y X Y a < ge_y X Y v → ge_y X Y b < ge_y X Y v → f a = f b)
    {u p : Nat} (hu : ge_e X Y n v u) (hp : ge_e X Y n v p) (ku : ge_y X Y u < ge_y X Y v) (kp : ge_y X Y p < ge_y X Y v) : f u = f p := by
  rcases Int.lt_trichotomy (ge_t X Y v u p) 0 with t | t | t
  · exact ge_fanR ho hf _ u p (Nat.lt_succ_self _) hu hp ku kp t
  · rw [ge_one hu hp ku kp t]
  · exact (ge_fanR ho hf _ p u (Nat.lt_succ_self _) hp hu kp ku (by rw [ge_t_sw]; omega)).symm
/-- sums that vanish round each triangle come from a height of the spots; it is 0 up to a bound, where the sums are -/
theorem ge_pot (ho : ge_ok X Y n) {φ : Nat → Nat → Int} {B : Int} (anti : ∀ u v, φ u v = -φ v u) (coc : ∀ a b c, ge_T X Y n a b c → φ a b + φ b c + φ c a = 0) (h0 : ∀ u v, ge_e X Y n u v → ge_y X Y u ≤ B → ge_y X Y v ≤ B → φ u v = 0) :
    ∀ d : Nat, ∃ c : Nat → Int, (∀ s, s < n → ge_y X Y s ≤ B → c s = 0) ∧ ∀ u v, ge_e X Y n u v → ge_y X Y u ≤ B + d → ge_y X Y v ≤ B + d → c v - c u = φ u v := by
  intro d
  induction d with
  | zero => exact ⟨fun _ => 0, fun _ _ _ => rfl, fun u v he h1 h2 => by rw [h0 u v he (by omega) (by omega)]; rfl⟩
  | succ d ih =>
    obtain ⟨c, c1, c2⟩ := ih
    by_cases ex : ∃ v, v < n ∧ ge_y X Y v = B + (d + 1 : Nat)
    · obtain ⟨v, hv, kv⟩ := ex
      have edge_n : ∀ {a b : Nat}, ge_e X Y n a b → a < n ∧ b < n ∧ a ≠ b := fun {a b} ⟨z, hz⟩ => ⟨hz.1, hz.2.1, (ge_t_ne hz.2.2.2.1).1⟩
      have low : ∀ {a : Nat}, a < n → a ≠ v → ge_y X Y a ≤ B + (d + 1 : Nat) → ge_y X Y a ≤ B + d := fun {a} ha ne k => by
        have : ge_y X Y a ≠ ge_y X Y v := fun e => ne (ge_y_inj ho ha hv e)
        omega
      by_cases nb : ∃ u, ge_e X Y n v u ∧ ge_y X Y u < ge_y X Y v
      · obtain ⟨u0, e0, k0⟩ := nb
        have key : ∀ u, ge_e X Y n v u → ge_y X Y u < ge_y X Y v → c u + φ u v = c u0 + φ u0 v := fun u eu ku => by
          refine ge_fan ho (f := fun s => c s + φ s v) (fun a b t ka kb => ?_) eu e0 ku k0
          have w := coc v a b t
          have w2 := c2 a b ⟨v, ge_T_rot t⟩ (by omega) (by omega)
          have w3 := anti v a
          try dsimp only
          omega
        refine ⟨fun s => if s = v then c u0 + φ u0 v else c s, fun s hs k => ?_, fun a b he ka kb => ?_⟩
        · dsimp only
          have : s ≠ v := fun e => by rw [e] at k; omega
          rw [if_neg this]; exact c1 s hs k
        · dsimp only
          obtain ⟨ha, hb, hab⟩ := edge_n he
          by_cases ea : a = v
          · have eb : b ≠ v := fun q => hab (by rw [ea, q])
            rw [if_pos ea, if_neg eb]
            rw [ea] at he
            have w := key b he (by have := low hb eb kb; omega)
            have w2 := anti a b
            rw [ea] at w2 ⊢
            omega
          · rw [if_neg ea]
            by_cases eb : b = v
            · rw [if_pos eb]
              rw [eb] at he ⊢
              have w := key a (ge_e_sym he) (by have := low ha ea ka; omega)
              omega
            · rw [if_neg eb]
              exact c2 a b he (low ha ea ka) (low hb eb kb)
      · refine ⟨fun s => if s = v then 0 else c s, fun s hs k => ?_, fun a b he ka kb => ?_⟩
        · dsimp only
          split
          · rfl
          · exact c1 s hs k
        · dsimp only
          obtain ⟨ha, hb, hab⟩ := edge_n he
          have ea : a ≠ v := fun ea => by
            have eb : b ≠ v := fun q => hab (by rw [ea, q])
            rw [ea] at he
            exact nb ⟨b, he, by have := low hb eb kb; omega⟩
          have eb : b ≠ v := fun eb => by
            rw [eb] at he
            exact nb ⟨a, ge_e_sym he, by have := low ha ea ka; omega⟩
          rw [if_neg ea, if_neg eb]
          exact c2 a b he (low ha ea ka) (low hb eb kb)
    · refine ⟨c, c1, fun a b he ka kb => ?_⟩
      obtain ⟨z, hz⟩ := id he
      have low : ∀ {a : Nat}, a < n → ge_y X Y a ≤ B + (d + 1 : Nat) → ge_y X Y a ≤ B + d := fun {a} ha k => by
        have : ge_y X Y a ≠ B + (d + 1 : Nat) := fun e => ex ⟨a, ha, e⟩
        omega
      exact c2 a b he (low hz.1 ka) (low hz.2.1 kb)
/-- THE SPOTS OF A RING WITH THE LEAST x ARE ALL HIGH OR ALL LOW. C: its crossings, of a high and a low spot; a triangle has both of its crossings there or none; each has a triangle on either side; Q: a property that goes along -/
theorem ge_ring (ho : ge_ok X Y n) {Hi : Nat → Prop} {C : Nat → Nat → Prop} (r1 : ∀ h w, C h w → h < n ∧ w < n ∧ Hi h ∧ ¬ Hi w)
    (r2 : ∀ a b c, ge_T X Y n a b c → Hi a → ¬ Hi b → ((Hi c → (C a b ↔ C c b)) ∧ (¬ Hi c → (C a b ↔ C a c))))
    (r3 : ∀ h w, C h w → (∃ r, ge_R X Y n w h r) ∧ ∃ l, ge_R X Y n h w l)
    (r4 : ∀ P : Nat → Nat → Prop, (∀ a b c, ge_T X Y n a b c → Hi a → ¬ Hi b → C a b → (Hi c → (P a b ↔ P c b)) ∧ (¬ Hi c → (P a b ↔ P a c))) → ∀ h w h' w', C h w → C h' w' → (P h w ↔ P h' w'))
    {h w h' w' : Nat} (c1 : C h w) (c2 : C h' w') (least : ∀ a b, C a b → X h ≤ X a ∧ X h ≤ X b) (same : X w' = X h) : False := by
  -- the signed crossings
  let φ : Nat → Nat → Int := fun u v => @ite _ (C v u) (Classical.propDecidable _) 1 (@ite _ (C u v) (Classical.propDecidable _) (-1) 0)
  have φ1 : ∀ {u v}, C v u → φ u v = 1 := fun {u v} q => @if_pos _ (Classical.propDecidable _) q _ _ _
  have asym : ∀ {u v}, C u v → ¬ C v u := fun {u v} q q' => (r1 _ _ q').2.2.2 (r1 _ _ q).2.2.1
  have φ2 : ∀ {u v}, C u v → φ u v = -1 := fun {u v} q => (@if_neg _ (Classical.propDecidable _) (asym q) _ _ _).trans (@if_pos _ (Classical.propDecidable _) q _ _ _)
  have φ0 : ∀ {u v}, ¬ C u v → ¬ C v u → φ u v = 0 := fun {u v} q q' => (@if_neg _ (Classical.propDecidable _) q' _ _ _).trans (@if_neg _ (Classical.propDecidable _) q _ _ _)
  have anti : ∀ u v, φ u v = -φ v u := fun u v => by
    by_cases q : C u v
    · rw [φ2 q, φ1 q]
    · by_cases q' : C v u
      · rw [φ1 q', φ2 q']; rfl
      · rw [φ0 q q', φ0 q' q]; rfl
  have nH : ∀ {u v}, Hi u → Hi v → φ u v = 0 := fun {u v} q q' => φ0 (fun z => (r1 _ _ z).2.2.2 q') (fun z => (r1 _ _ z).2.2.2 q)
  have nL : ∀ {u v}, ¬ Hi u → ¬ Hi v → φ u v = 0 := fun {u v} q q' => φ0 (fun z => q (r1 _ _ z).2.2.1) (fun z => q' (r1 _ _ z).2.2.1)
  have hw : ∀ {u v}, Hi u → ¬ Hi v → φ v u = @ite _ (C u v) (Classical.propDecidable _) 1 0 := fun {u v} q q' => by
    by_cases z : C u v
    · rw [φ1 z, @if_pos _ (Classical.propDecidable _) z]
    · rw [φ0 (fun z' => q' (r1 _ _ z').2.2.1) z, @if_neg _ (Classical.propDecidable _) z]
  have coc1 : ∀ a b c, ge_T X Y n a b c → Hi a → ¬ Hi b → φ a b + φ b c + φ c a = 0 := fun a b c t ha hb => by
    have q := r2 a b c t ha hb
    by_cases hc : Hi c
    · rw [anti a b, hw ha hb, hw hc hb, nH hc ha]
      have e := q.1 hc
      by_cases z : C a b
      · rw [@if_pos _ (Classical.propDecidable _) z, @if_pos _ (Classical.propDecidable _) (e.mp z)]; rfl
      · rw [@if_neg _ (Classical.propDecidable _) z, @if_neg _ (Classical.propDecidable _) (fun y => z (e.mpr y))]; rfl
    · rw [anti a b, hw ha hb, nL hb hc, hw ha hc]
      have e := q.2 hc
      by_cases z : C a b
      · rw [@if_pos _ (Classical.propDecidable _) z, @if_pos _ (Classical.propDecidable _) (e.mp z)]; rfl
      · rw [@if_neg _ (Classical.propDecidable _) z, @if_neg _ (Classical.propDecidable _) (fun y => z (e.mpr y))]; rfl
  have coc : ∀ a b c, ge_T X Y n a b c → φ a b + φ b c + φ c a = 0 := fun a b c t => by
    by_cases ha : Hi a <;> by_cases hb : Hi b <;> by_cases hc : Hi c
    · rw [nH ha hb, nH hb hc, nH hc ha]; rfl
    · have := coc1 b c a (ge_T_rot t) hb hc; omega
    · exact coc1 a b c t ha hb
    · exact coc1 a b c t ha hb
    · have := coc1 c a b (ge_T_rot (ge_T_rot t)) hc ha; omega
    · have := coc1 b c a (ge_T_rot t) hb hc; omega
    · have := coc1 c a b (ge_T_rot (ge_T_rot t)) hc ha; omega
    · rw [nL ha hb, nL hb hc, nL hc ha]; rfl
  -- no crossing of the ring up to the least x
  have third : ∀ {a b c}, ge_T X Y n a b c → C a b → X h ≤ X c := fun {a b c} t q => by
    obtain ⟨-, -, qa, qb⟩ := r1 _ _ q
    by_cases hc : Hi c
    · exact (least _ _ (((r2 a b c t qa qb).1 hc).mp q)).1
    · exact (least _ _ (((r2 a b c t qa qb).2 hc).mp q)).2
  have no : ∀ a b, C a b → ¬ (X a ≤ X h ∧ X b ≤ X h) := fun a b q ⟨qa, qb⟩ => by
    have l := least a b q
    obtain ⟨⟨r, hr⟩, ⟨s, hs⟩⟩ := r3 a b q
    have t1 := third (ge_T_sw (ge_T_rot hr.1)) q
    have t2 := third hs.1 q
    have u1 := hr.2
    have u2 := hs.2
    unfold ge_t at u1 u2
    rw [show X a - X b = 0 by omega, Int.zero_mul] at u1
    rw [show X b - X a = 0 by omega, Int.zero_mul] at u2
    have v1 : 0 < (Y a - Y b) * (X r - X b) := by omega
    have v2 : 0 < (Y b - Y a) * (X s - X a) := by omega
    rcases Int.lt_or_le (Y a - Y b) 0 with y | y
    · have := ge_ln y v1; omega
    · have y' : Y b - Y a ≤ 0 := by omega
      rcases Int.lt_or_le (Y b - Y a) 0 with y2 | y2
      · have := ge_ln y2 v2; omega
      · rw [show Y b - Y a = 0 by omega, Int.zero_mul] at v2; omega
  have xb : ∀ {s}, s < n → (ge_y X Y s ≤ 64 * X h + 63 ↔ X s ≤ X h) := fun {s} hs => by
    obtain ⟨a1, a2, a3, a4⟩ := ho.2.1 s hs
    unfold ge_y ge_k
    omega
  have h0 : ∀ u v, ge_e X Y n u v → ge_y X Y u ≤ 64 * X h + 63 → ge_y X Y v ≤ 64 * X h + 63 → φ u v = 0 := fun u v he k1 k2 => by
    obtain ⟨z, hz⟩ := he
    have x1 := (xb hz.1).mp k1
    have x2 := (xb hz.2.1).mp k2
    exact φ0 (fun q => no _ _ q ⟨x1, x2⟩) (fun q => no _ _ q ⟨x2, x1⟩)
  obtain ⟨p, p1, p2⟩ := ge_pot ho anti coc h0 8192
  obtain ⟨hh, -, -, -⟩ := r1 _ _ c1
  obtain ⟨-, hw', -, -⟩ := r1 _ _ c2
  obtain ⟨b1, b2, -, -⟩ := ho.2.1 h hh
  have all : ∀ u v, ge_e X Y n u v → p v - p u = φ u v := fun u v he => by
    obtain ⟨z, hz⟩ := id he
    have e1 := ho.2.1 u hz.1
    have e2 := ho.2.1 v hz.2.1
    refine p2 u v he ?_ ?_ <;> (unfold ge_y ge_k; omega)
  have q1 := p1 h hh ((xb hh).mpr (Int.le_refl _))
  have q2 := p1 w' hw' ((xb hw').mpr (by omega))
  have ed : ∀ {a b}, C a b → ge_e X Y n a b := fun {a b} q => by
    obtain ⟨-, l, hl⟩ := r3 a b q
    exact ⟨l, hl.1⟩
  -- the height of the high side
  have P := r4 (fun a _ => p a = p h) (fun a b c t ha hb q => ⟨fun hc => ?_, fun hc => Iff.rfl⟩) h w h' w' c1 c2
  · have s1 := P.mp rfl
    have s2 := all w' h' (ge_e_sym (ed c2))
    rw [φ1 c2] at s2
    have s1 : p h' = p h := s1
    omega
  · have e := all a c ⟨b, ge_T_sw t⟩
    rw [nH ha hc] at e
    have e : p c = p a := by omega
    show p a = p h ↔ p c = p h
    rw [e]
end
end
section
/-! Walks along a partial one-to-one map of codes (crossings that go on to one another): nothing here speaks of the machine. F x = none: it ends there. -/
/-- i steps -/
def cr_w (F : Nat → Option Nat) : Nat → Nat → Option Nat
  | 0, x => some x
  | i + 1, x => (cr_w F i x).bind F
theorem cr_w_s {F : Nat → Option Nat} {i x y : Nat} (h : cr_w F i x = some y) : cr_w F (i + 1) x = F y := by
  show (cr_w F i x).bind F = F y
  rw [h]; rfl
theorem cr_w_p {F : Nat → Option Nat} {i x z : Nat} (h : cr_w F (i + 1) x = some z) : ∃ y, cr_w F i x = some y ∧ F y = some z := by
  have h : (cr_w F i x).bind F = some z := h
  cases e : cr_w F i x with
  | none => rw [e] at h; cases h
  | some y => rw [e] at h; exact ⟨y, rfl, h⟩
theorem cr_w_le {F : Nat → Option Nat} {x z : Nat} : ∀ (d i : Nat), cr_w F (i + d) x = some z → ∃ y, cr_w F i x = some y := by
  intro d
  induction d generalizing z with
  | zero => intro i h; exact ⟨z, h⟩
  | succ d ih => intro i h; obtain ⟨y, h1, -⟩ := cr_w_p (i := i + d) h; exact ih i h1
/-- one to one: from two places the same end, the same way long: the same place -/
theorem cr_w_inj {F : Nat → Option Nat} (inj : ∀ a b c, F a = some c → F b = some c → a = b) : ∀ (i : Nat) {x y z : Nat}, cr_w F i x = some z → cr_w F i y = some z → x = y := by
  intro i
  induction i with
  | zero => intro x y z h1 h2; cases h1; cases h2; rfl
  | succ i ih =>
    intro x y z h1 h2
    obtain ⟨a, a1, a2⟩ := cr_w_p h1
    obtain ⟨b, b1, b2⟩ := cr_w_p h2
    have := inj a b z a2 b2
    subst this
    exact ih a1 b1
theorem cr_w_add {F : Nat → Option Nat} : ∀ (j i : Nat) {x y z : Nat}, cr_w F i x = some y → cr_w F j y = some z → cr_w F (i + j) x = some z := by
  intro j
  induction j with
  | zero => intro i x y z h1 h2; cases h2; exact h1
  | succ j ih =>
    intro i x y z h1 h2
    obtain ⟨a, a1, a2⟩ := cr_w_p h2
    have h3 := ih i h1 a1
    show cr_w F ((i + j) + 1) x = some z
    rw [cr_w_s h3]; exact a2
theorem cr_w_mid {F : Nat → Option Nat} {i d x y z : Nat} (h1 : cr_w F i x = some y) (h2 : cr_w F (i + d) x = some z) : cr_w F d y = some z := by
  induction d generalizing z with
  | zero => rw [Nat.add_zero, h1] at h2; cases h2; rfl
  | succ d ih =>
    obtain ⟨a, a1, a2⟩ := cr_w_p (i := i + d) h2
    rw [cr_w_s (ih a1)]; exact a2
/-- as long as it has not come back, it is at a new place -/
theorem cr_new {F : Nat → Option Nat} (inj : ∀ a b c, F a = some c → F b = some c → a = b) {x k : Nat} (hb : ∀ j, 0 < j → j ≤ k → cr_w F j x ≠ some x) {i j y : Nat} (hij : i < j) (hj : j ≤ k) (h1 : cr_w F i x = some y) (h2 : cr_w F j x = some y) : False := by
  obtain ⟨d, rfl⟩ : ∃ d, j = d + i := ⟨j - i, by omega⟩
  obtain ⟨a, a1⟩ := cr_w_le i d h2
  have a2 : cr_w F i a = some y := cr_w_mid a1 h2
  have := cr_w_inj inj i a2 h1
  subst this
  exact hb d (by omega) (by omega) a1
/-- the walk from x: k steps, each at a new place, and then the end, or x again -/
def cr_is (F : Nat → Option Nat) (x k : Nat) : Prop := (∃ y, cr_w F k x = some y ∧ (F y = none ∨ F y = some x)) ∧ ∀ j, 0 < j → j ≤ k → cr_w F j x ≠ some x
theorem cr_is_u {F : Nat → Option Nat} {x k k' : Nat} (h : cr_is F x k) (h' : cr_is F x k') : k = k' := by
  have go : ∀ {a b : Nat}, cr_is F x a → cr_is F x b → ¬ a < b := by
    intro a b ha hb hab
    obtain ⟨⟨y, y1, y2⟩, -⟩ := ha
    obtain ⟨⟨z, z1, -⟩, zb⟩ := hb
    obtain ⟨d, rfl⟩ : ∃ d, b = (a + 1) + d := ⟨b - (a + 1), by omega⟩
    obtain ⟨u, u1⟩ := cr_w_le d (a + 1) z1
    rw [cr_w_s y1] at u1
    rcases y2 with q | q
    · rw [q] at u1; cases u1
    · exact zb (a + 1) (by omega) (by omega) (by rw [cr_w_s y1]; exact q)
  rcases Nat.lt_trichotomy k k' with l | l | l
  · exact absurd l (go h h')
  · exact l
  · exact absurd l (go h' h)
theorem cr_php : ∀ (N k : Nat) (f : Nat → Nat), (∀ i, i < k → f i < N) → (∀ i j, i < j → j < k → f i ≠ f j) → k ≤ N := by
  intro N
  induction N with
  | zero => intro k f h _; rcases Nat.eq_zero_or_pos k with h0 | h0; omega; exact absurd (h 0 h0) (by omega)
  | succ N ih =>
    intro k f h inj
    rcases Nat.eq_zero_or_pos k with h0 | h0
    · omega
    obtain ⟨k', rfl⟩ : ∃ k', k = k' + 1 := ⟨k - 1, by omega⟩
    have := ih k' (fun i => if f i = N then f k' else f i) (fun i hi => by
      try dsimp only
      have a := h i (by omega)
      have b := h k' (by omega)
      have c := inj i k' hi (by omega)
      split <;> omega) (fun i j hi hj => by
      try dsimp only
      have a := inj i j hi (by omega)
      have b := inj i k' (by omega) (by omega)
      have c := inj j k' hj (by omega)
      split <;> split <;> omega)
    omega
/-- there is such a walk, of fewer than M steps, where all its places have numbers below M -/
theorem cr_ex {F : Nat → Option Nat} (inj : ∀ a b c, F a = some c → F b = some c → a = b) {S : Nat → Prop} (hF : ∀ a b, F a = some b → S b) {ix : Nat → Nat} {M : Nat} (hi : ∀ a, S a → ix a < M) (hj : ∀ a b, S a → S b → ix a = ix b → a = b) {x : Nat} (hx : S x) :
    ∃ k, k < M ∧ cr_is F x k := by
  refine Classical.byContradiction fun hno => ?_
  have hno : ∀ k, k < M → ¬ cr_is F x k := fun k hk h => hno ⟨k, hk, h⟩
  have all : ∀ k, k ≤ M → (∃ y, cr_w F k x = some y) ∧ ∀ j, 0 < j → j ≤ k → cr_w F j x ≠ some x := by
    intro k
    induction k with
    | zero => intro _; exact ⟨⟨x, rfl⟩, fun j h1 h2 => by omega⟩
    | succ k ih =>
      intro hk
      obtain ⟨⟨y, y1⟩, y2⟩ := ih (by omega)
      have n := hno k (by omega)
      have e := cr_w_s y1
      cases q : F y with
      | none => exact absurd ⟨⟨y, y1, Or.inl q⟩, y2⟩ n
      | some z =>
        have nz : z ≠ x := fun h => n ⟨⟨y, y1, Or.inr (by rw [q, h])⟩, y2⟩
        refine ⟨⟨z, by rw [e]; exact q⟩, fun j h1 h2 => ?_⟩
        rcases Nat.lt_or_ge j (k + 1) with l | l
        · exact y2 j h1 (by omega)
        · have : j = k + 1 := by omega
          subst this
          rw [e, q]
          exact fun h => nz (Option.some.inj h)
  obtain ⟨-, hb⟩ := all M (Nat.le_refl _)
  have dd : ∀ k, k ≤ M → ∃ y, cr_w F k x = some y := fun k hk => (all k hk).1
  have pl : ∀ k, ∃ y, k ≤ M → cr_w F k x = some y := fun k => by
    by_cases l : k ≤ M
    · obtain ⟨y, hy⟩ := dd k l; exact ⟨y, fun _ => hy⟩
    · exact ⟨0, fun l' => absurd l' l⟩
  have P : ∀ k, k ≤ M → cr_w F k x = some (Classical.choose (pl k)) := fun k => Classical.choose_spec (pl k)
  have inS : ∀ k, k ≤ M → S (Classical.choose (pl k)) := fun k hk => by
    have h := P k hk
    rcases Nat.eq_zero_or_pos k with h0 | h0
    · subst h0
      have : x = Classical.choose (pl 0) := Option.some.inj h
      rw [← this]; exact hx
    · obtain ⟨k', rfl⟩ : ∃ k', k = k' + 1 := ⟨k - 1, by omega⟩
      obtain ⟨y, -, y2⟩ := cr_w_p h
      exact hF _ _ y2
  have := cr_php M (M + 1) (fun k => ix (Classical.choose (pl k))) (fun k hk => hi _ (inS k (by omega))) (fun i j hij hjk e => by
    have e2 := hj _ _ (inS i (by omega)) (inS j (by omega)) e
    have a := P i (by omega)
    have b := P j (by omega)
    rw [e2] at a
    exact cr_new inj hb hij (by omega) a b)
  omega
/-! there and back: N and B undo one another -/
theorem cr_back {N B : Nat → Option Nat} (inv : ∀ x y, N x = some y ↔ B y = some x) : ∀ (i : Nat) {x y : Nat}, cr_w N i x = some y → cr_w B i y = some x := by
  intro i
  induction i with
  | zero => intro x y h; cases h; rfl
  | succ i ih =>
    intro x y h
    obtain ⟨z, z1, z2⟩ := cr_w_p h
    have h1 : cr_w B 1 y = some z := by show (some y).bind B = some z; exact (inv z y).mp z2
    have := cr_w_add i 1 h1 (ih z1)
    rw [Nat.add_comm] at this
    exact this
theorem cr_injN {N B : Nat → Option Nat} (inv : ∀ x y, N x = some y ↔ B y = some x) : ∀ a b c, N a = some c → N b = some c → a = b := fun a b c h1 h2 => by
  have e1 := (inv a c).mp h1
  have e2 := (inv b c).mp h2
  rw [e1] at e2
  exact Option.some.inj e2
theorem cr_injB {N B : Nat → Option Nat} (inv : ∀ x y, N x = some y ↔ B y = some x) : ∀ a b c, B a = some c → B b = some c → a = b := fun a b c h1 h2 => by
  have e1 := (inv c a).mpr h1
  have e2 := (inv c b).mpr h2
  rw [e1] at e2
  exact Option.some.inj e2
/-- where a contour through x begins: back to the border, or x itself -/
def cr_beg (B : Nat → Option Nat) (x f : Nat) : Prop := ∃ k, cr_is B x k ∧ ((∃ y, cr_w B k x = some y ∧ B y = none ∧ f = y) ∨ (∃ y, cr_w B k x = some y ∧ B y = some x ∧ f = x))
theorem cr_beg_u {B : Nat → Option Nat} {x f f' : Nat} (h : cr_beg B x f) (h' : cr_beg B x f') : f = f' := by
  obtain ⟨k, k1, k2⟩ := h
  obtain ⟨k', k3, k4⟩ := h'
  have := cr_is_u k1 k3
  subst this
  rcases k2 with ⟨y, y1, y2, rfl⟩ | ⟨y, y1, y2, rfl⟩ <;> rcases k4 with ⟨z, z1, z2, rfl⟩ | ⟨z, z1, z2, rfl⟩
  · rw [y1] at z1; exact Option.some.inj z1
  · rw [y1] at z1; cases z1; rw [y2] at z2; cases z2
  · rw [y1] at z1; cases z1; rw [y2] at z2; cases z2
  · rfl
theorem cr_beg_ex {B : Nat → Option Nat} {x k : Nat} (h : cr_is B x k) : ∃ f, cr_beg B x f := by
  obtain ⟨y, y1, y2⟩ := h.1
  rcases y2 with q | q
  · exact ⟨y, k, h, Or.inl ⟨y, y1, q, rfl⟩⟩
  · exact ⟨x, k, h, Or.inr ⟨y, y1, q, rfl⟩⟩
/-- the walk on from the beginning ends at the border just if it began there -/
theorem cr_ends {N B : Nat → Option Nat} (inv : ∀ x y, N x = some y ↔ B y = some x) {x f m y : Nat} (hb : cr_beg B x f) (hm : cr_is N f m) (hy : cr_w N m f = some y) : (N y = none ∧ B f = none) ∨ (N y = some f ∧ B f = some y) := by
  obtain ⟨⟨y', y1, y2⟩, nb⟩ := hm
  rw [y1] at hy
  cases hy
  rcases y2 with q | q
  · refine Or.inl ⟨q, ?_⟩
    obtain ⟨k, k1, k2⟩ := hb
    rcases k2 with ⟨z, z1, z2, rfl⟩ | ⟨z, z1, z2, rfl⟩
    · exact z2
    · exfalso
      have r : cr_w B (k + 1) f = some f := by rw [cr_w_s z1]; exact z2
      have inv' : ∀ a b, B a = some b ↔ N b = some a := fun a b => (inv b a).symm
      have r2 : cr_w N (k + 1) f = some f := cr_back inv' (k + 1) r
      rcases Nat.lt_or_ge m (k + 1) with l | l
      · obtain ⟨d, e⟩ : ∃ d, k + 1 = (m + 1) + d := ⟨k - m, by omega⟩
        rw [e] at r2
        obtain ⟨u, u1⟩ := cr_w_le d (m + 1) r2
        rw [cr_w_s y1, q] at u1
        cases u1
      · exact nb (k + 1) (by omega) l r2
  · exact Or.inr ⟨q, (inv y' f).mp q⟩
/-- a set that is closed under both -/
def cr_cl (N : Nat → Option Nat) (T : Nat → Prop) : Prop := ∀ x y, N x = some y → (T x ↔ T y)
theorem cr_cl_w {N : Nat → Option Nat} {T : Nat → Prop} (h : cr_cl N T) : ∀ (i : Nat) {x y : Nat}, cr_w N i x = some y → (T x ↔ T y) := by
  intro i
  induction i with
  | zero => intro x y e; cases e; exact Iff.rfl
  | succ i ih =>
    intro x y e
    obtain ⟨z, z1, z2⟩ := cr_w_p e
    exact (ih z1).trans (h z y z2)
/-- nothing of the contour of x is in T, if x isn't -/
theorem cr_beg_out {N B : Nat → Option Nat} (inv : ∀ x y, N x = some y ↔ B y = some x) {T : Nat → Prop} (h : cr_cl N T) {x f : Nat} (hx : ¬ T x) (hb : cr_beg B x f) : ¬ T f := by
  obtain ⟨k, -, k2⟩ := hb
  have inv' : ∀ a b, B a = some b ↔ N b = some a := fun a b => (inv b a).symm
  have go : ∀ {y}, cr_w B k x = some y → ¬ T y := fun {y} e => by
    have e2 : cr_w N k y = some x := cr_back inv' k e
    exact fun t => hx ((cr_cl_w h k e2).mp t)
  rcases k2 with ⟨z, z1, z2, rfl⟩ | ⟨z, z1, z2, rfl⟩
  · exact go z1
  · exact hx
/-- with the contour the set is closed again -/
theorem cr_cl_add {N B : Nat → Option Nat} (inv : ∀ x y, N x = some y ↔ B y = some x) {T : Nat → Prop} (h : cr_cl N T) {x f m : Nat} (hb : cr_beg B x f) (hm : cr_is N f m) : cr_cl N (fun z => T z ∨ ∃ j, j ≤ m ∧ cr_w N j f = some z) := by
  obtain ⟨⟨ye, ye1, -⟩, -⟩ := id hm
  have en := cr_ends inv hb hm ye1
  intro a b e
  constructor
  · rintro (t | ⟨j, j1, j2⟩)
    · exact Or.inl ((h a b e).mp t)
    · rcases Nat.lt_or_ge j m with l | l
      · exact Or.inr ⟨j + 1, by omega, by rw [cr_w_s j2]; exact e⟩
      · have : j = m := by omega
        subst this
        rw [ye1] at j2
        cases j2
        rcases en with ⟨q, -⟩ | ⟨q, -⟩
        · rw [q] at e; cases e
        · rw [q] at e; cases e; exact Or.inr ⟨0, by omega, rfl⟩
  · rintro (t | ⟨j, j1, j2⟩)
    · exact Or.inl ((h a b e).mpr t)
    · rcases Nat.eq_zero_or_pos j with j0 | j0
      · subst j0
        cases j2
        have eb := (inv a f).mp e
        rcases en with ⟨-, q⟩ | ⟨-, q⟩
        · rw [q] at eb; cases eb
        · rw [q] at eb; cases eb; exact Or.inr ⟨m, Nat.le_refl _, ye1⟩
      · obtain ⟨j', rfl⟩ : ∃ j', j = j' + 1 := ⟨j - 1, by omega⟩
        obtain ⟨z, z1, z2⟩ := cr_w_p j2
        have := cr_injN inv z a b z2 e
        subst this
        exact Or.inr ⟨j', by omega, z1⟩
end
section
/-! What each method needs of the state, and what it answers, read off its bytecode by a program: printed. -/
def wp_li_size (g : St) (post : Int32 → St → Prop) : Prop :=
  (post (g 3 5) g)
def wp_li_isLine (x1 : Int32) (g : St) (post : Int32 → St → Prop) : Prop :=
  ((x1 < 0 → (post 0 g)) ∧ (¬ (x1 < 0) → (((g 3 5) ≤ x1 → (post 0 g)) ∧ (¬ ((g 3 5) ≤ x1) → (post 1 g)))))
def wp_li_length (x1 : Int32) (g : St) (post : Int32 → St → Prop) : Prop :=
  (vp_in (x1 + 1) 121 ∧ (vp_in x1 121 ∧ (post ((g 12 (ix (x1 + 1))) - (g 12 (ix x1))) g)))
def wp_li_isRing (x1 : Int32) (g : St) (post : Int32 → St → Prop) : Prop :=
  (vp_in x1 120 ∧ (narrow .boolean (.int (g 13 (ix x1))) = .int (g 13 (ix x1)) ∧ post (g 13 (ix x1)) g))
def wp_li_pair (x1 : Int32) (x2 : Int32) (g : St) (post : Int32 → St → Prop) : Prop :=
  (vp_in x1 121 ∧ (vp_in ((g 12 (ix x1)) + x2) 120 ∧ (post (g 11 (ix ((g 12 (ix x1)) + x2))) g)))
def wp_sc_highOf (x0 : Int32) (g : St) (post : Int32 → St → Prop) : Prop :=
  (post (x0 / 16) g)
def wp_sp_x (x1 : Int32) (g : St) (post : Int32 → St → Prop) : Prop :=
  (vp_in x1 16 ∧ (post (g 5 (ix x1)) g))
def wp_li_moreLeft (x1 : Int32) (x2 : Int32) (g : St) (post : Int32 → St → Prop) : Prop :=
  (wp_sp_x x2 g (fun r2 g1 => (wp_sp_x x1 g1 (fun r4 g3 => ((r4 ≤ r2 → (post x1 g3)) ∧ (¬ (r4 ≤ r2) → (post x2 g3)))))))
def wp_sc_lowOf (x0 : Int32) (g : St) (post : Int32 → St → Prop) : Prop :=
  (post (x0 - x0 / 16 * 16) g)
def lp_li_isHollow_L13 : Nat → Int32 → Int32 → Int32 → St → (Int32 → St → Prop) → (Int32 → St → Prop) → Prop
  | 0, _, _, _, _, _, _ => False
  | n + 1, v2, v3, v4, g, K61, post => (wp_li_length v2 g (fun r6 g5 => ((r6 ≤ v4 → (K61 v3 g5)) ∧ (¬ (r6 ≤ v4) → (wp_li_pair v2 v4 g5 (fun r8 g7 => (wp_sc_highOf r8 g7 (fun r10 g9 => (wp_li_moreLeft v3 r10 g9 (fun r12 g11 => (wp_li_pair v2 v4 g11 (fun r14 g13 => (wp_sc_lowOf r14 g13 (fun r16 g15 => (wp_li_moreLeft r12 r16 g15 (fun r18 g17 => (lp_li_isHollow_L13 n v2 r18 (v4 + 1) g17 K61 post)))))))))))))))))
def wp_li_isHollow (x2 : Int32) (g : St) (post : Int32 → St → Prop) : Prop :=
  (wp_li_pair x2 0 g (fun r2 g1 => (wp_sc_highOf r2 g1 (fun r4 g3 => (∃ k13, lp_li_isHollow_L13 k13 x2 r4 0 g3 (fun w20 g19 => (vp_in w20 16 ∧ (narrow .boolean (.int (g19 10 (ix w20))) = .int (g19 10 (ix w20)) ∧ post (g19 10 (ix w20)) g19))) post)))))
def lp_li_clear_L7 : Nat → Int32 → St → (St → Prop) → (St → Prop) → Prop
  | 0, _, _, _, _ => False
  | n + 1, v1, g, K27, post => ((256 ≤ v1 → (K27 g)) ∧ (¬ (256 ≤ v1) → (vp_in v1 256 ∧ ∀ g2 : St, g2 = gp g 14 (ix v1) (vp_nar .boolean 0) → (lp_li_clear_L7 n (v1 + 1) g2 K27 post))))
def wp_li_clear (g : St) (post : St → Prop) : Prop :=
  (∀ g1 : St, g1 = gp g 3 5 0 → (∃ k7, lp_li_clear_L7 k7 0 g1 (fun g3 => (post g3)) post))
def wp_sp_size (g : St) (post : Int32 → St → Prop) : Prop :=
  (post (g 1 3) g)
def wp_sp_height (x1 : Int32) (g : St) (post : Int32 → St → Prop) : Prop :=
  (vp_in x1 16 ∧ (post (g 7 (ix x1)) g))
def wp_me_thirdRightOf (x1 : Int32) (x2 : Int32) (g : St) (post : Int32 → St → Prop) : Prop :=
  (vp_in ((16 * x1) + x2) 256 ∧ (post (g 9 (ix ((16 * x1) + x2))) g))
def jn_me_sharing_J22 (v1 : Int32) (v2 : Int32) (s0 : Int32) (g : St) (post : Int32 → St → Prop) : Prop :=
  (wp_me_thirdRightOf v2 v1 g (fun r4 g3 => ((¬ (r4 = (-1)) → (post (s0 + 1) g3)) ∧ (r4 = (-1) → (post (s0 + 0) g3)))))
def wp_me_sharing (x1 : Int32) (x2 : Int32) (g : St) (post : Int32 → St → Prop) : Prop :=
  ((¬ (x1 = x2) → (wp_me_thirdRightOf x1 x2 g (fun r2 g1 => ((¬ (r2 = (-1)) → (jn_me_sharing_J22 x1 x2 1 g1 post)) ∧ (r2 = (-1) → (jn_me_sharing_J22 x1 x2 0 g1 post)))))) ∧ (x1 = x2 → (post 0 g)))
def wp_li_otherPair (x1 : Int32) (x2 : Int32) (x3 : Int32) (g : St) (post : Int32 → St → Prop) : Prop :=
  ((¬ (x3 = (-1)) → (vp_in x3 16 ∧ (((g 10 (ix x3)) = 0 → (post ((16 * x1) + x3) g)) ∧ (¬ ((g 10 (ix x3)) = 0) → (post ((16 * x3) + x2) g))))) ∧ (x3 = (-1) → (post (-1) g)))
def wp_li_before (x2 : Int32) (g : St) (post : Int32 → St → Prop) : Prop :=
  (wp_sc_highOf x2 g (fun r2 g1 => (wp_sc_lowOf x2 g1 (fun r4 g3 => (wp_me_thirdRightOf r2 r4 g3 (fun r6 g5 => (wp_li_otherPair r2 r4 r6 g5 (fun r8 g7 => (post r8 g7)))))))))
def lp_li_beginning_L5 : Nat → Int32 → Int32 → Int32 → St → (Int32 → St → Prop) → (Int32 → St → Prop) → Prop
  | 0, _, _, _, _, _, _ => False
  | n + 1, v2, v3, v4, g, K45, post => ((120 ≤ v4 → (K45 v2 g)) ∧ (¬ (120 ≤ v4) → (wp_li_before v3 g (fun r2 g1 => ((¬ (r2 = (-1)) → ((¬ (r2 = v2) → (lp_li_beginning_L5 n v2 r2 (v4 + 1) g1 K45 post)) ∧ (r2 = v2 → (post v2 g1)))) ∧ (r2 = (-1) → (post v3 g1)))))))
def wp_li_beginning (x2 : Int32) (g : St) (post : Int32 → St → Prop) : Prop :=
  (∃ k5, lp_li_beginning_L5 k5 x2 x2 0 g (fun w4 g3 => (post w4 g3)) post)
def wp_li_behind (x2 : Int32) (g : St) (post : Int32 → St → Prop) : Prop :=
  (wp_sc_highOf x2 g (fun r2 g1 => (wp_sc_lowOf x2 g1 (fun r4 g3 => (wp_me_thirdRightOf r4 r2 g3 (fun r6 g5 => (wp_li_otherPair r2 r4 r6 g5 (fun r8 g7 => (post r8 g7)))))))))
def lp_li_traceFrom_L65 : Nat → Int32 → Int32 → Int32 → St → (Int32 → St → Prop) → (St → Prop) → Prop
  | 0, _, _, _, _, _, _ => False
  | n + 1, v3, v4, v5, g, K120, post => ((120 ≤ v5 → (K120 v4 g)) ∧ (¬ (120 ≤ v5) → ((v3 = (-1) → (K120 v4 g)) ∧ (¬ (v3 = (-1)) → (vp_in v3 256 ∧ ((¬ ((g 14 (ix v3)) = 0) → (K120 v4 g)) ∧ ((g 14 (ix v3)) = 0 → (vp_in v5 120 ∧ ∀ g6 : St, g6 = gp g 11 (ix v5) v3 → (vp_in v3 256 ∧ ∀ g7 : St, g7 = gp g6 14 (ix v3) (vp_nar .boolean 1) → (wp_li_behind v3 g7 (fun r9 g8 => (lp_li_traceFrom_L65 n r9 (v5 + 1) (v5 + 1) g8 K120 post))))))))))))
def jn_li_traceFrom_J120 (v4 : Int32) (g : St) (post : St → Prop) : Prop :=
  (∀ g12 : St, g12 = gp g 3 5 ((g 3 5) + 1) → (vp_in (g12 3 5) 121 ∧ ∀ g13 : St, g13 = gp g12 12 (ix (g12 3 5)) v4 → (post g13)))
def jn_li_traceFrom_J49 (v3 : Int32) (s1 : Int32) (s2 : Int32) (g : St) (post : St → Prop) : Prop :=
  (vp_in s1 120 ∧ ∀ g5 : St, g5 = gp g 13 (ix s1) (vp_nar .boolean s2) → (vp_in (g5 3 5) 121 ∧ (∃ k65, lp_li_traceFrom_L65 k65 v3 (g5 12 (ix (g5 3 5))) (g5 12 (ix (g5 3 5))) g5 (fun w11 g10 => (jn_li_traceFrom_J120 w11 g10 post)) post)))
def wp_li_traceFrom (x2 : Int32) (g : St) (post : St → Prop) : Prop :=
  (vp_in x2 256 ∧ ((¬ ((g 14 (ix x2)) = 0) → (post g)) ∧ ((g 14 (ix x2)) = 0 → (((g 3 5) < 120 → (wp_li_beginning x2 g (fun r2 g1 => (wp_li_before r2 g1 (fun r4 g3 => ((r4 = (-1) → (jn_li_traceFrom_J49 r2 (g1 3 5) 0 g3 post)) ∧ (¬ (r4 = (-1)) → (jn_li_traceFrom_J49 r2 (g1 3 5) 1 g3 post)))))))) ∧ (¬ ((g 3 5) < 120) → (post g))))))
def lp_li_trace_L7 : Nat → Int32 → Int32 → St → (St → Prop) → (St → Prop) → Prop
  | 0, _, _, _, _, _ => False
  | n + 1, v3, v4, g, K44, post => (wp_sp_size g (fun r3 g2 => ((r3 ≤ v4 → (K44 g2)) ∧ (¬ (r3 ≤ v4) → (wp_sp_height v4 g2 (fun r5 g4 => ((r5 ≤ v3 → (vp_in v4 16 ∧ ∀ g6 : St, g6 = gp g4 10 (ix v4) (vp_nar .boolean 0) → (lp_li_trace_L7 n v3 (v4 + 1) g6 K44 post))) ∧ (¬ (r5 ≤ v3) → (vp_in v4 16 ∧ ∀ g7 : St, g7 = gp g4 10 (ix v4) (vp_nar .boolean 1) → (lp_li_trace_L7 n v3 (v4 + 1) g7 K44 post))))))))))
def lp_li_trace_L62 : Nat → Int32 → Int32 → St → (Int32 → St → Prop) → (St → Prop) → Prop
  | 0, _, _, _, _, _ => False
  | n + 1, v4, v5, g, K139, post => (wp_sp_size g (fun r12 g11 => ((r12 ≤ v5 → (K139 v4 g11)) ∧ (¬ (r12 ≤ v5) → (vp_in v4 16 ∧ (vp_in v5 16 ∧ (((g11 10 (ix v4)) = (g11 10 (ix v5)) → (lp_li_trace_L62 n v4 (v5 + 1) g11 K139 post)) ∧ (¬ ((g11 10 (ix v4)) = (g11 10 (ix v5))) → (wp_me_sharing v4 v5 g11 (fun r14 g13 => ((r14 ≤ 0 → (lp_li_trace_L62 n v4 (v5 + 1) g13 K139 post)) ∧ (¬ (r14 ≤ 0) → (vp_in v4 16 ∧ (((g13 10 (ix v4)) = 0 → (wp_li_traceFrom ((16 * v5) + v4) g13 (fun g15 => (lp_li_trace_L62 n v4 (v5 + 1) g15 K139 post)))) ∧ (¬ ((g13 10 (ix v4)) = 0) → (wp_li_traceFrom ((16 * v4) + v5) g13 (fun g16 => (lp_li_trace_L62 n v4 (v5 + 1) g16 K139 post))))))))))))))))))
def lp_li_trace_L47 : Nat → Int32 → St → (St → Prop) → (St → Prop) → Prop
  | 0, _, _, _, _ => False
  | n + 1, v4, g, K145, post => (wp_sp_size g (fun r10 g9 => ((r10 ≤ v4 → (K145 g9)) ∧ (¬ (r10 ≤ v4) → (∃ k62, lp_li_trace_L62 k62 v4 (v4 + 1) g9 (fun w18 g17 => (lp_li_trace_L47 n (w18 + 1) g17 K145 post)) post)))))
def wp_li_trace (x3 : Int32) (g : St) (post : St → Prop) : Prop :=
  (wp_li_clear g (fun g1 => (∃ k7, lp_li_trace_L7 k7 x3 0 g1 (fun g8 => (∃ k47, lp_li_trace_L47 k47 0 g8 (fun g19 => (post g19)) post)) post)))
def wp_me_size (g : St) (post : Int32 → St → Prop) : Prop :=
  (post (g 2 2) g)
def wp_me_cornerOf (x1 : Int32) (x2 : Int32) (g : St) (post : Int32 → St → Prop) : Prop :=
  (vp_in ((3 * x1) + x2) 81 ∧ (post (g 8 (ix ((3 * x1) + x2))) g))
def lp_me_clear_L7 : Nat → Int32 → St → (St → Prop) → (St → Prop) → Prop
  | 0, _, _, _, _ => False
  | n + 1, v1, g, K27, post => ((256 ≤ v1 → (K27 g)) ∧ (¬ (256 ≤ v1) → (vp_in v1 256 ∧ ∀ g2 : St, g2 = gp g 9 (ix v1) (-1) → (lp_me_clear_L7 n (v1 + 1) g2 K27 post))))
def wp_me_clear (g : St) (post : St → Prop) : Prop :=
  (∀ g1 : St, g1 = gp g 2 2 0 → (∃ k7, lp_me_clear_L7 k7 0 g1 (fun g3 => (post g3)) post))
def wp_sp_turnTo (x1 : Int32) (x2 : Int32) (x3 : Int32) (x4 : Int32) (g : St) (post : Int32 → St → Prop) : Prop :=
  (vp_in x2 16 ∧ (vp_in x1 16 ∧ (vp_in x1 16 ∧ (vp_in x2 16 ∧ (vp_in x1 16 ∧ (vp_in x1 16 ∧ (post ((((g 5 (ix x2)) - (g 5 (ix x1))) * (x4 - (g 6 (ix x1)))) - (((g 6 (ix x2)) - (g 6 (ix x1))) * (x3 - (g 5 (ix x1))))) g)))))))
def wp_sp_turn (x1 : Int32) (x2 : Int32) (x3 : Int32) (g : St) (post : Int32 → St → Prop) : Prop :=
  (vp_in x3 16 ∧ (vp_in x3 16 ∧ (wp_sp_turnTo x1 x2 (g 5 (ix x3)) (g 6 (ix x3)) g (fun r2 g1 => (post r2 g1)))))
def wp_sp_squareFrom (x1 : Int32) (x2 : Int32) (g : St) (post : Int64 → St → Prop) : Prop :=
  (vp_in x2 16 ∧ (vp_in x1 16 ∧ (vp_in x2 16 ∧ (vp_in x1 16 ∧ (post ((((g 5 (ix x2)) - (g 5 (ix x1))).toInt64 * ((g 5 (ix x2)) - (g 5 (ix x1))).toInt64) + (((g 6 (ix x2)) - (g 6 (ix x1))).toInt64 * ((g 6 (ix x2)) - (g 6 (ix x1))).toInt64)) g)))))
def wp_sp_depthInCircle (x1 : Int32) (x2 : Int32) (x3 : Int32) (x4 : Int32) (g : St) (post : Int64 → St → Prop) : Prop :=
  (wp_sp_squareFrom x4 x1 g (fun r2 g1 => (wp_sp_turn x4 x2 x3 g1 (fun r4 g3 => (wp_sp_squareFrom x4 x2 g3 (fun r6 g5 => (wp_sp_turn x4 x1 x3 g5 (fun r8 g7 => (wp_sp_squareFrom x4 x3 g7 (fun r10 g9 => (wp_sp_turn x4 x1 x2 g9 (fun r12 g11 => (wp_sp_turn x1 x2 x3 g11 (fun r14 g13 => ((r14 ≤ 0 → (post (-(((r2 * r4.toInt64) - (r6 * r8.toInt64)) + (r10 * r12.toInt64))) g13)) ∧ (¬ (r14 ≤ 0) → (post (((r2 * r4.toInt64) - (r6 * r8.toInt64)) + (r10 * r12.toInt64)) g13)))))))))))))))))
def jn_sp_areOpposite_J15 (v1 : Int32) (v2 : Int32) (v4 : Int32) (s0 : Int32) (g : St) (post : Int32 → St → Prop) : Prop :=
  (wp_sp_turn v1 v2 v4 g (fun r4 g3 => ((r4 ≤ 0 → ((s0 = 0 → (post 0 g3)) ∧ (¬ (s0 = 0) → (post 1 g3)))) ∧ (¬ (r4 ≤ 0) → ((s0 = 1 → (post 0 g3)) ∧ (¬ (s0 = 1) → (post 1 g3)))))))
def wp_sp_areOpposite (x1 : Int32) (x2 : Int32) (x3 : Int32) (x4 : Int32) (g : St) (post : Int32 → St → Prop) : Prop :=
  (wp_sp_turn x1 x2 x3 g (fun r2 g1 => ((r2 ≤ 0 → (jn_sp_areOpposite_J15 x1 x2 x4 0 g1 post)) ∧ (¬ (r2 ≤ 0) → (jn_sp_areOpposite_J15 x1 x2 x4 1 g1 post)))))
def wp_sp_isInCircle (x1 : Int32) (x2 : Int32) (x3 : Int32) (x4 : Int32) (g : St) (post : Int32 → St → Prop) : Prop :=
  (wp_sp_depthInCircle x1 x2 x3 x4 g (fun r2 g1 => (((lg_cmp r2 0) = 0 → ((x4 ≤ x1 → (post 0 g1)) ∧ (¬ (x4 ≤ x1) → (wp_sp_areOpposite x1 x4 x2 x3 g1 (fun r4 g3 => ((¬ (r4 = 0) → (post 0 g3)) ∧ (r4 = 0 → (post 1 g3)))))))) ∧ (¬ ((lg_cmp r2 0) = 0) → (((lg_cmp r2 0) ≤ 0 → (post 0 g1)) ∧ (¬ ((lg_cmp r2 0) ≤ 0) → (post 1 g1)))))))
def lp_me_isTriangle_L15 : Nat → Int32 → Int32 → Int32 → Int32 → St → (St → Prop) → (Int32 → St → Prop) → Prop
  | 0, _, _, _, _, _, _, _ => False
  | n + 1, v1, v2, v3, v4, g, K62, post => (wp_sp_size g (fun r4 g3 => ((r4 ≤ v4 → (K62 g3)) ∧ (¬ (r4 ≤ v4) → ((v4 = v1 → (lp_me_isTriangle_L15 n v1 v2 v3 (v4 + 1) g3 K62 post)) ∧ (¬ (v4 = v1) → ((v4 = v2 → (lp_me_isTriangle_L15 n v1 v2 v3 (v4 + 1) g3 K62 post)) ∧ (¬ (v4 = v2) → ((v4 = v3 → (lp_me_isTriangle_L15 n v1 v2 v3 (v4 + 1) g3 K62 post)) ∧ (¬ (v4 = v3) → (wp_sp_isInCircle v1 v2 v3 v4 g3 (fun r6 g5 => ((r6 = 0 → (lp_me_isTriangle_L15 n v1 v2 v3 (v4 + 1) g5 K62 post)) ∧ (¬ (r6 = 0) → (post 0 g5)))))))))))))))
def wp_me_isTriangle (x1 : Int32) (x2 : Int32) (x3 : Int32) (g : St) (post : Int32 → St → Prop) : Prop :=
  (wp_sp_turn x1 x2 x3 g (fun r2 g1 => ((¬ (r2 = 0) → (∃ k15, lp_me_isTriangle_L15 k15 x1 x2 x3 0 g1 (fun g7 => (post 1 g7)) post)) ∧ (r2 = 0 → (post 0 g1)))))
def wp_me_addSides (x1 : Int32) (x2 : Int32) (x3 : Int32) (g : St) (post : St → Prop) : Prop :=
  (vp_in ((16 * x1) + x2) 256 ∧ ∀ g1 : St, g1 = gp g 9 (ix ((16 * x1) + x2)) x3 → (vp_in ((16 * x2) + x3) 256 ∧ ∀ g2 : St, g2 = gp g1 9 (ix ((16 * x2) + x3)) x1 → (vp_in ((16 * x3) + x1) 256 ∧ ∀ g3 : St, g3 = gp g2 9 (ix ((16 * x3) + x1)) x2 → (post g3))))
def wp_me_add (x1 : Int32) (x2 : Int32) (x3 : Int32) (x4 : Int32) (g : St) (post : St → Prop) : Prop :=
  (vp_in (3 * (g 2 2)) 81 ∧ ∀ g1 : St, g1 = gp g 8 (ix (3 * (g 2 2))) x1 → (vp_in ((3 * (g 2 2)) + 1) 81 ∧ ∀ g2 : St, g2 = gp g1 8 (ix ((3 * (g 2 2)) + 1)) x2 → (vp_in ((3 * (g 2 2)) + 2) 81 ∧ ∀ g3 : St, g3 = gp g2 8 (ix ((3 * (g 2 2)) + 2)) x3 → (∀ g4 : St, g4 = gp g3 2 2 ((g3 2 2) + 1) → ((x4 = 0 → (wp_me_addSides x1 x3 x2 g4 (fun g5 => (post g5)))) ∧ (¬ (x4 = 0) → (wp_me_addSides x1 x2 x3 g4 (fun g6 => (post g6)))))))))
def lp_me_rebuild_L31 : Nat → Int32 → Int32 → Int32 → St → (Int32 → Int32 → St → Prop) → (St → Prop) → Prop
  | 0, _, _, _, _, _, _ => False
  | n + 1, v2, v3, v4, g, K90, post => (wp_sp_size g (fun r7 g6 => ((r7 ≤ v4 → (K90 v2 v3 g6)) ∧ (¬ (r7 ≤ v4) → ((27 ≤ (g6 2 2) → (lp_me_rebuild_L31 n v2 v3 (v4 + 1) g6 K90 post)) ∧ (¬ (27 ≤ (g6 2 2)) → (wp_me_isTriangle v2 v3 v4 g6 (fun r9 g8 => ((r9 = 0 → (lp_me_rebuild_L31 n v2 v3 (v4 + 1) g8 K90 post)) ∧ (¬ (r9 = 0) → (wp_sp_turn v2 v3 v4 g8 (fun r11 g10 => ((0 ≤ r11 → (wp_me_add v2 v3 v4 0 g10 (fun g12 => (lp_me_rebuild_L31 n v2 v3 (v4 + 1) g12 K90 post)))) ∧ (¬ (0 ≤ r11) → (wp_me_add v2 v3 v4 1 g10 (fun g13 => (lp_me_rebuild_L31 n v2 v3 (v4 + 1) g13 K90 post)))))))))))))))))
def lp_me_rebuild_L18 : Nat → Int32 → Int32 → St → (Int32 → St → Prop) → (St → Prop) → Prop
  | 0, _, _, _, _, _ => False
  | n + 1, v2, v3, g, K96, post => (wp_sp_size g (fun r5 g4 => ((r5 ≤ v3 → (K96 v2 g4)) ∧ (¬ (r5 ≤ v3) → (∃ k31, lp_me_rebuild_L31 k31 v2 v3 (v3 + 1) g4 (fun w15 w16 g14 => (lp_me_rebuild_L18 n w15 (w16 + 1) g14 K96 post)) post)))))
def lp_me_rebuild_L6 : Nat → Int32 → St → (St → Prop) → (St → Prop) → Prop
  | 0, _, _, _, _ => False
  | n + 1, v2, g, K102, post => (wp_sp_size g (fun r3 g2 => ((r3 ≤ v2 → (K102 g2)) ∧ (¬ (r3 ≤ v2) → (∃ k18, lp_me_rebuild_L18 k18 v2 (v2 + 1) g2 (fun w18 g17 => (lp_me_rebuild_L6 n (w18 + 1) g17 K102 post)) post)))))
def wp_me_rebuild (g : St) (post : St → Prop) : Prop :=
  (wp_me_clear g (fun g1 => (∃ k6, lp_me_rebuild_L6 k6 0 g1 (fun g19 => (post g19)) post)))
def wp_floorDiv (x0 : Int32) (x1 : Int32) (g : St) (post : Int32 → St → Prop) : Prop :=
  (¬ x1 = 0 ∧ ((0 ≤ (x0 ^^^ x1) → (post (x0 / x1) g)) ∧ (¬ (0 ≤ (x0 ^^^ x1)) → ((((x0 / x1) * x1) = x0 → (post (x0 / x1) g)) ∧ (¬ (((x0 / x1) * x1) = x0) → (post ((x0 / x1) + (-1)) g))))))
def jn_me_heightIn_J42 (v3 : Int32) (v4 : Int32) (v5 : Int32) (v6 : Int32) (v7 : Int32) (s0 : Int32) (g : St) (post : Int32 → St → Prop) : Prop :=
  (wp_sp_turnTo v6 v7 v3 v4 g (fun r10 g9 => (wp_sp_turnTo v7 v5 v3 v4 g9 (fun r12 g11 => (wp_sp_turnTo v5 v6 v3 v4 g11 (fun r14 g13 => (((s0 * r10) < 0 → (post (-1) g13)) ∧ (¬ ((s0 * r10) < 0) → (((s0 * r12) < 0 → (post (-1) g13)) ∧ (¬ ((s0 * r12) < 0) → (((s0 * r14) < 0 → (post (-1) g13)) ∧ (¬ ((s0 * r14) < 0) → ((¬ ((((s0 * r10) + (s0 * r12)) + (s0 * r14)) = 0) → (wp_sp_height v5 g13 (fun r16 g15 => (wp_sp_height v6 g15 (fun r18 g17 => (wp_sp_height v7 g17 (fun r20 g19 => (wp_floorDiv ((((s0 * r10) * r16) + ((s0 * r12) * r18)) + ((s0 * r14) * r20)) (((s0 * r10) + (s0 * r12)) + (s0 * r14)) g19 (fun r22 g21 => (post r22 g21)))))))))) ∧ ((((s0 * r10) + (s0 * r12)) + (s0 * r14)) = 0 → (post (-1) g13)))))))))))))))
def wp_me_heightIn (x2 : Int32) (x3 : Int32) (x4 : Int32) (g : St) (post : Int32 → St → Prop) : Prop :=
  (wp_me_cornerOf x2 0 g (fun r2 g1 => (wp_me_cornerOf x2 1 g1 (fun r4 g3 => (wp_me_cornerOf x2 2 g3 (fun r6 g5 => (wp_sp_turn r2 r4 r6 g5 (fun r8 g7 => ((r8 ≤ 0 → (jn_me_heightIn_J42 x3 x4 r2 r4 r6 (-1) g7 post)) ∧ (¬ (r8 ≤ 0) → (jn_me_heightIn_J42 x3 x4 r2 r4 r6 1 g7 post)))))))))))
def lp_me_heightAt_L3 : Nat → Int32 → Int32 → Int32 → St → (St → Prop) → (Int32 → St → Prop) → Prop
  | 0, _, _, _, _, _, _ => False
  | n + 1, v2, v3, v4, g, K38, post => (((g 2 2) ≤ v4 → (K38 g)) ∧ (¬ ((g 2 2) ≤ v4) → (wp_me_heightIn v4 v2 v3 g (fun r2 g1 => ((r2 = (-1) → (lp_me_heightAt_L3 n v2 v3 (v4 + 1) g1 K38 post)) ∧ (¬ (r2 = (-1)) → (post r2 g1)))))))
def wp_me_heightAt (x2 : Int32) (x3 : Int32) (g : St) (post : Int32 → St → Prop) : Prop :=
  (∃ k3, lp_me_heightAt_L3 k3 x2 x3 0 g (fun g3 => (post (-1) g3)) post)
def wp_sp_isNumber (x1 : Int32) (g : St) (post : Int32 → St → Prop) : Prop :=
  ((x1 < 0 → (post 0 g)) ∧ (¬ (x1 < 0) → (((g 1 3) ≤ x1 → (post 0 g)) ∧ (¬ ((g 1 3) ≤ x1) → (post 1 g)))))
def wp_sp_y (x1 : Int32) (g : St) (post : Int32 → St → Prop) : Prop :=
  (vp_in x1 16 ∧ (post (g 6 (ix x1)) g))
def wp_sp_setHeight (x1 : Int32) (x2 : Int32) (g : St) (post : St → Prop) : Prop :=
  (vp_in x1 16 ∧ ∀ g1 : St, g1 = gp g 7 (ix x1) x2 → (post g1))
def lp_sp_isTaken_L2 : Nat → Int32 → Int32 → Int32 → St → (St → Prop) → (Int32 → St → Prop) → Prop
  | 0, _, _, _, _, _, _ => False
  | n + 1, v1, v2, v3, g, K38, post => (((g 1 3) ≤ v3 → (K38 g)) ∧ (¬ ((g 1 3) ≤ v3) → (vp_in v3 16 ∧ ((¬ ((g 5 (ix v3)) = v1) → (lp_sp_isTaken_L2 n v1 v2 (v3 + 1) g K38 post)) ∧ ((g 5 (ix v3)) = v1 → (vp_in v3 16 ∧ ((¬ ((g 6 (ix v3)) = v2) → (lp_sp_isTaken_L2 n v1 v2 (v3 + 1) g K38 post)) ∧ ((g 6 (ix v3)) = v2 → (post 1 g)))))))))
def wp_sp_isTaken (x1 : Int32) (x2 : Int32) (g : St) (post : Int32 → St → Prop) : Prop :=
  (∃ k2, lp_sp_isTaken_L2 k2 x1 x2 0 g (fun g1 => (post 0 g1)) post)
def wp_sp_add (x1 : Int32) (x2 : Int32) (x3 : Int32) (g : St) (post : Int32 → St → Prop) : Prop :=
  (vp_in (g 1 3) 16 ∧ ∀ g1 : St, g1 = gp g 5 (ix (g 1 3)) x1 → (vp_in (g1 1 3) 16 ∧ ∀ g2 : St, g2 = gp g1 6 (ix (g1 1 3)) x2 → (vp_in (g2 1 3) 16 ∧ ∀ g3 : St, g3 = gp g2 7 (ix (g2 1 3)) x3 → (∀ g4 : St, g4 = gp g3 1 3 ((g3 1 3) + 1) → (post ((g4 1 3) - 1) g4)))))
def wp_sp_crossingOf_5 (x2 : Int32) (x3 : Int32) (g : St) (post : Int32 → St → Prop) : Prop :=
  (wp_sc_highOf x2 g (fun r2 g1 => (wp_sc_lowOf x2 g1 (fun r4 g3 => (vp_in r2 16 ∧ (vp_in r4 16 ∧ ((0 < ((g3 7 (ix r2)) - (g3 7 (ix r4))) → (vp_in r2 16 ∧ (vp_in r4 16 ∧ (vp_in r4 16 ∧ (vp_in r4 16 ∧ (wp_floorDiv (((g3 5 (ix r2)) - (g3 5 (ix r4))) * (((2 * x3) + 1) - (2 * (g3 7 (ix r4))))) (2 * ((g3 7 (ix r2)) - (g3 7 (ix r4)))) g3 (fun r6 g5 => (post ((g3 5 (ix r4)) + r6) g5)))))))) ∧ (¬ (0 < ((g3 7 (ix r2)) - (g3 7 (ix r4)))) → (vp_in r4 16 ∧ (post (g3 5 (ix r4)) g3))))))))))
def wp_sp_crossingOf_6 (x2 : Int32) (x3 : Int32) (g : St) (post : Int32 → St → Prop) : Prop :=
  (wp_sc_highOf x2 g (fun r2 g1 => (wp_sc_lowOf x2 g1 (fun r4 g3 => (vp_in r2 16 ∧ (vp_in r4 16 ∧ ((0 < ((g3 7 (ix r2)) - (g3 7 (ix r4))) → (vp_in r2 16 ∧ (vp_in r4 16 ∧ (vp_in r4 16 ∧ (vp_in r4 16 ∧ (wp_floorDiv (((g3 6 (ix r2)) - (g3 6 (ix r4))) * (((2 * x3) + 1) - (2 * (g3 7 (ix r4))))) (2 * ((g3 7 (ix r2)) - (g3 7 (ix r4)))) g3 (fun r6 g5 => (post ((g3 6 (ix r4)) + r6) g5)))))))) ∧ (¬ (0 < ((g3 7 (ix r2)) - (g3 7 (ix r4)))) → (vp_in r4 16 ∧ (post (g3 6 (ix r4)) g3))))))))))
def wp_sp_crossingX (x1 : Int32) (x2 : Int32) (g : St) (post : Int32 → St → Prop) : Prop :=
  (wp_sp_crossingOf_5 x1 x2 g (fun r2 g1 => (post r2 g1)))
def wp_sp_crossingY (x1 : Int32) (x2 : Int32) (g : St) (post : Int32 → St → Prop) : Prop :=
  (wp_sp_crossingOf_6 x1 x2 g (fun r2 g1 => (post r2 g1)))
def wp_ta_size (g : St) (post : Int32 → St → Prop) : Prop :=
  (post (g 4 3) g)
def wp_ta_isFull (g : St) (post : Int32 → St → Prop) : Prop :=
  (((g 4 3) < 20 → (post 0 g)) ∧ (¬ ((g 4 3) < 20) → (post 1 g)))
def wp_ta_level (x1 : Int32) (g : St) (post : Int32 → St → Prop) : Prop :=
  (vp_in x1 20 ∧ (post (g 15 (ix x1)) g))
def wp_ta_x (x1 : Int32) (g : St) (post : Int32 → St → Prop) : Prop :=
  (vp_in x1 20 ∧ (post (g 16 (ix x1)) g))
def wp_ta_y (x1 : Int32) (g : St) (post : Int32 → St → Prop) : Prop :=
  (vp_in x1 20 ∧ (post (g 17 (ix x1)) g))
def wp_ta_add (x1 : Int32) (x2 : Int32) (x3 : Int32) (g : St) (post : St → Prop) : Prop :=
  (vp_in (g 4 3) 20 ∧ ∀ g1 : St, g1 = gp g 15 (ix (g 4 3)) x1 → (vp_in (g1 4 3) 20 ∧ ∀ g2 : St, g2 = gp g1 16 (ix (g1 4 3)) x2 → (vp_in (g2 4 3) 20 ∧ ∀ g3 : St, g3 = gp g2 17 (ix (g2 4 3)) x3 → (∀ g4 : St, g4 = gp g3 4 3 ((g3 4 3) + 1) → (post g4)))))
def wp_ta_cutTo (x1 : Int32) (g : St) (post : St → Prop) : Prop :=
  (∀ g1 : St, g1 = gp g 4 3 x1 → (post g1))
def lp_ta_coversSpot_L2 : Nat → Int32 → Int32 → Int32 → St → (St → Prop) → (Int32 → St → Prop) → Prop
  | 0, _, _, _, _, _, _ => False
  | n + 1, v1, v2, v3, g, K46, post => (wp_sp_size g (fun r2 g1 => ((r2 ≤ v3 → (K46 g1)) ∧ (¬ (r2 ≤ v3) → (wp_sp_x v3 g1 (fun r4 g3 => ((3 < (if 0 ≤ (r4 - v1) then (r4 - v1) else 0 - (r4 - v1)) → (lp_ta_coversSpot_L2 n v1 v2 (v3 + 1) g3 K46 post)) ∧ (¬ (3 < (if 0 ≤ (r4 - v1) then (r4 - v1) else 0 - (r4 - v1))) → (wp_sp_y v3 g3 (fun r6 g5 => ((1 < (if 0 ≤ (r6 - v2) then (r6 - v2) else 0 - (r6 - v2)) → (lp_ta_coversSpot_L2 n v1 v2 (v3 + 1) g5 K46 post)) ∧ (¬ (1 < (if 0 ≤ (r6 - v2) then (r6 - v2) else 0 - (r6 - v2))) → (post 1 g5)))))))))))))
def wp_ta_coversSpot (x1 : Int32) (x2 : Int32) (g : St) (post : Int32 → St → Prop) : Prop :=
  (∃ k2, lp_ta_coversSpot_L2 k2 x1 x2 0 g (fun g7 => (post 0 g7)) post)
def lp_ta_clashesAt_L2 : Nat → Int32 → Int32 → Int32 → St → (St → Prop) → (Int32 → St → Prop) → Prop
  | 0, _, _, _, _, _, _ => False
  | n + 1, v1, v2, v3, g, K49, post => (((g 4 3) ≤ v3 → (K49 g)) ∧ (¬ ((g 4 3) ≤ v3) → (vp_in v3 20 ∧ ((6 < (if 0 ≤ ((g 16 (ix v3)) - v1) then ((g 16 (ix v3)) - v1) else 0 - ((g 16 (ix v3)) - v1)) → (lp_ta_clashesAt_L2 n v1 v2 (v3 + 1) g K49 post)) ∧ (¬ (6 < (if 0 ≤ ((g 16 (ix v3)) - v1) then ((g 16 (ix v3)) - v1) else 0 - ((g 16 (ix v3)) - v1))) → (vp_in v3 20 ∧ ((2 < (if 0 ≤ ((g 17 (ix v3)) - v2) then ((g 17 (ix v3)) - v2) else 0 - ((g 17 (ix v3)) - v2)) → (lp_ta_clashesAt_L2 n v1 v2 (v3 + 1) g K49 post)) ∧ (¬ (2 < (if 0 ≤ ((g 17 (ix v3)) - v2) then ((g 17 (ix v3)) - v2) else 0 - ((g 17 (ix v3)) - v2))) → (post 1 g)))))))))
def wp_ta_clashesAt (x1 : Int32) (x2 : Int32) (g : St) (post : Int32 → St → Prop) : Prop :=
  (∃ k2, lp_ta_clashesAt_L2 k2 x1 x2 0 g (fun g1 => (post 0 g1)) post)
def wp_sc_isOnMap (x0 : Int32) (x1 : Int32) (g : St) (post : Int32 → St → Prop) : Prop :=
  ((x0 < 0 → (post 0 g)) ∧ (¬ (x0 < 0) → ((64 ≤ x0 → (post 0 g)) ∧ (¬ (64 ≤ x0) → ((x1 < 0 → (post 0 g)) ∧ (¬ (x1 < 0) → ((64 ≤ x1 → (post 0 g)) ∧ (¬ (64 ≤ x1) → (post 1 g)))))))))
def wp_sc_isHeight (x0 : Int32) (g : St) (post : Int32 → St → Prop) : Prop :=
  ((x0 < 0 → (post 0 g)) ∧ (¬ (x0 < 0) → ((999 < x0 → (post 0 g)) ∧ (¬ (999 < x0) → (post 1 g)))))
def wp_sc_spot (x1 : Int32) (x2 : Int32) (x3 : Int32) (g : St) (post : Int32 → St → Prop) (px : Nat → St → Prop) : Prop :=
  (wp_sc_isOnMap x1 x2 g (fun r2 g1 => ((r2 = 0 → (px 0 g1)) ∧ (¬ (r2 = 0) → (wp_sc_isHeight x3 g1 (fun r4 g3 => ((r4 = 0 → (px 0 g3)) ∧ (¬ (r4 = 0) → (wp_sp_isTaken x1 x2 g3 (fun r6 g5 => ((r6 = 0 → (wp_sp_size g5 (fun r8 g7 => ((r8 < 16 → (wp_sp_add x1 x2 x3 g7 (fun r10 g9 => (wp_me_rebuild g9 (fun g11 => (wp_ta_cutTo 0 g11 (fun g12 => (post r10 g12)))))))) ∧ (¬ (r8 < 16) → (px 1 g7)))))) ∧ (¬ (r6 = 0) → (px 0 g5)))))))))))))
def wp_sc_raise (x1 : Int32) (x2 : Int32) (g : St) (post : Int32 → St → Prop) (px : Nat → St → Prop) : Prop :=
  (wp_sp_isNumber x1 g (fun r2 g1 => ((¬ (r2 = 0) → (wp_sc_isHeight x2 g1 (fun r4 g3 => ((¬ (r4 = 0) → (wp_sp_height x1 g3 (fun r6 g5 => (wp_sp_setHeight x1 x2 g5 (fun g7 => (wp_ta_cutTo 0 g7 (fun g8 => (post r6 g8)))))))) ∧ (r4 = 0 → (px 0 g3)))))) ∧ (r2 = 0 → (px 2 g1)))))
def wp_sc_triangles (g : St) (post : Int32 → St → Prop) : Prop :=
  (wp_me_size g (fun r2 g1 => (post r2 g1)))
def wp_sc_corner (x1 : Int32) (x2 : Int32) (g : St) (post : Int32 → St → Prop) (px : Nat → St → Prop) : Prop :=
  ((x1 < 0 → (px 2 g)) ∧ (¬ (x1 < 0) → (wp_me_size g (fun r2 g1 => ((r2 ≤ x1 → (px 2 g1)) ∧ (¬ (r2 ≤ x1) → ((x2 < 0 → (px 2 g1)) ∧ (¬ (x2 < 0) → ((x2 < 3 → (wp_me_cornerOf x1 x2 g1 (fun r4 g3 => (post r4 g3)))) ∧ (¬ (x2 < 3) → (px 2 g1)))))))))))
def wp_sc_edge (x1 : Int32) (x2 : Int32) (g : St) (post : Int32 → St → Prop) (px : Nat → St → Prop) : Prop :=
  (wp_sp_isNumber x1 g (fun r2 g1 => ((r2 = 0 → (px 2 g1)) ∧ (¬ (r2 = 0) → (wp_sp_isNumber x2 g1 (fun r4 g3 => ((¬ (r4 = 0) → (wp_me_sharing x1 x2 g3 (fun r6 g5 => (post r6 g5)))) ∧ (r4 = 0 → (px 2 g3)))))))))
def jn_sc_at_J25 (s0 : Int32) (g : St) (post : Int32 → St → Prop) (px : Nat → St → Prop) : Prop :=
  ((¬ (s0 = (-1)) → (post s0 g)) ∧ (s0 = (-1) → (px 3 g)))
def wp_sc_at (x1 : Int32) (x2 : Int32) (g : St) (post : Int32 → St → Prop) (px : Nat → St → Prop) : Prop :=
  (wp_sc_isOnMap x1 x2 g (fun r2 g1 => ((r2 = 0 → (jn_sc_at_J25 (-1) g1 post px)) ∧ (¬ (r2 = 0) → (wp_me_heightAt x1 x2 g1 (fun r4 g3 => (jn_sc_at_J25 r4 g3 post px)))))))
def wp_sc_traceLevel (x1 : Int32) (g : St) (post : St → Prop) (px : Nat → St → Prop) : Prop :=
  ((x1 < 0 → (px 0 g)) ∧ (¬ (x1 < 0) → ((x1 ≤ 998 → (wp_li_trace x1 g (fun g1 => (post g1)))) ∧ (¬ (x1 ≤ 998) → (px 0 g)))))
def wp_sc_contours (x1 : Int32) (g : St) (post : Int32 → St → Prop) (px : Nat → St → Prop) : Prop :=
  (wp_sc_traceLevel x1 g (fun g1 => (wp_li_size g1 (fun r3 g2 => (post r3 g2)))) px)
def wp_sc_contour (x1 : Int32) (x2 : Int32) (g : St) (post : Int32 → St → Prop) (px : Nat → St → Prop) : Prop :=
  (wp_sc_traceLevel x1 g (fun g1 => (wp_li_isLine x2 g1 (fun r3 g2 => ((¬ (r3 = 0) → (wp_li_length x2 g2 (fun r5 g4 => (wp_li_isRing x2 g4 (fun r7 g6 => ((¬ (r7 = 0) → (wp_li_isHollow x2 g6 (fun r9 g8 => ((r9 = 0 → (post (r5 + 1000) g8)) ∧ (¬ (r9 = 0) → (post (r5 + 2000) g8)))))) ∧ (r7 = 0 → (post r5 g6)))))))) ∧ (r3 = 0 → (px 2 g2)))))) px)
def wp_sc_pairAt (x1 : Int32) (x2 : Int32) (g : St) (post : Int32 → St → Prop) (px : Nat → St → Prop) : Prop :=
  (wp_li_isLine x1 g (fun r2 g1 => ((r2 = 0 → (px 2 g1)) ∧ (¬ (r2 = 0) → ((x2 < 0 → (px 2 g1)) ∧ (¬ (x2 < 0) → (wp_li_length x1 g1 (fun r4 g3 => ((x2 < r4 → (wp_li_pair x1 x2 g3 (fun r6 g5 => (post r6 g5)))) ∧ (¬ (x2 < r4) → (px 2 g3)))))))))))
def wp_sc_crossing (x1 : Int32) (x2 : Int32) (x3 : Int32) (g : St) (post : Int32 → St → Prop) (px : Nat → St → Prop) : Prop :=
  (wp_sc_traceLevel x1 g (fun g1 => (wp_sc_pairAt x2 x3 g1 (fun r3 g2 => (wp_sc_highOf r3 g2 (fun r5 g4 => (wp_sc_lowOf r3 g4 (fun r7 g6 => (post ((16 * (if r7 < r5 then r7 else r5)) + (if r5 < r7 then r7 else r5)) g6)))))) px)) px)
def wp_sc_place (x1 : Int32) (x2 : Int32) (x3 : Int32) (g : St) (post : Int32 → St → Prop) (px : Nat → St → Prop) : Prop :=
  (wp_sc_traceLevel x1 g (fun g1 => (wp_sc_pairAt x2 x3 g1 (fun r3 g2 => (wp_sp_crossingX r3 x1 g2 (fun r5 g4 => (wp_sp_crossingY r3 x1 g4 (fun r7 g6 => (post ((64 * r5) + r7) g6)))))) px)) px)
def lp_sc_firstFreePair_L2 : Nat → Int32 → Int32 → Int32 → St → (St → Prop) → (Int32 → St → Prop) → Prop
  | 0, _, _, _, _, _, _ => False
  | n + 1, v1, v2, v3, g, K86, post => (wp_li_length v2 g (fun r2 g1 => ((r2 ≤ v3 → (K86 g1)) ∧ (¬ (r2 ≤ v3) → (wp_li_pair v2 v3 g1 (fun r4 g3 => (wp_sp_crossingX r4 v1 g3 (fun r6 g5 => (wp_sp_crossingY r4 v1 g5 (fun r8 g7 => (wp_ta_coversSpot r6 r8 g7 (fun r10 g9 => ((¬ (r10 = 0) → (lp_sc_firstFreePair_L2 n v1 v2 (v3 + 1) g9 K86 post)) ∧ (r10 = 0 → (wp_ta_clashesAt r6 r8 g9 (fun r12 g11 => ((¬ (r12 = 0) → (lp_sc_firstFreePair_L2 n v1 v2 (v3 + 1) g11 K86 post)) ∧ (r12 = 0 → (post r4 g11)))))))))))))))))))
def wp_sc_firstFreePair (x1 : Int32) (x2 : Int32) (g : St) (post : Int32 → St → Prop) : Prop :=
  (∃ k2, lp_sc_firstFreePair_L2 k2 x1 x2 0 g (fun g13 => (post (-1) g13)) post)
def lp_sc_label_L15 : Nat → Int32 → Int32 → Int32 → St → (Int32 → St → Prop) → (Int32 → St → Prop) → (Nat → St → Prop) → Prop
  | 0, _, _, _, _, _, _, _ => False
  | n + 1, v1, v2, v3, g, K103, post, px => (wp_li_size g (fun r5 g4 => ((r5 ≤ v3 → (K103 v2 g4)) ∧ (¬ (r5 ≤ v3) → (wp_sc_firstFreePair v1 v3 g4 (fun r7 g6 => ((¬ (r7 = (-1)) → (wp_ta_isFull g6 (fun r9 g8 => ((r9 = 0 → (wp_sp_crossingX r7 v1 g8 (fun r11 g10 => (wp_sp_crossingY r7 v1 g10 (fun r13 g12 => (wp_ta_add v1 r11 r13 g12 (fun g14 => (lp_sc_label_L15 n v1 v2 (v3 + 1) g14 K103 post px)))))))) ∧ (¬ (r9 = 0) → (wp_ta_cutTo v2 g8 (fun g15 => (px 1 g15)))))))) ∧ (r7 = (-1) → (lp_sc_label_L15 n v1 v2 (v3 + 1) g6 K103 post px)))))))))
def wp_sc_label (x1 : Int32) (g : St) (post : Int32 → St → Prop) (px : Nat → St → Prop) : Prop :=
  (wp_sc_traceLevel x1 g (fun g1 => (wp_ta_size g1 (fun r3 g2 => (∃ k15, lp_sc_label_L15 k15 x1 r3 0 g2 (fun w17 g16 => (wp_ta_size g16 (fun r19 g18 => (post (r19 - w17) g18)))) post px)))) px)
def wp_sc_labels (g : St) (post : Int32 → St → Prop) : Prop :=
  (wp_ta_size g (fun r2 g1 => (post r2 g1)))
def wp_sc_labelOf (x1 : Int32) (x2 : Int32) (g : St) (post : Int32 → St → Prop) (px : Nat → St → Prop) : Prop :=
  ((x1 < 0 → (px 2 g)) ∧ (¬ (x1 < 0) → (wp_ta_size g (fun r2 g1 => ((x1 < r2 → ((x2 = 0 → (wp_ta_level x1 g1 (fun r4 g3 => (post r4 g3)))) ∧ (x2 = 1 → (wp_ta_x x1 g1 (fun r6 g5 => (post r6 g5)))) ∧ (x2 = 2 → (wp_ta_y x1 g1 (fun r8 g7 => (post r8 g7)))) ∧ (¬ x2 = 0 → ¬ x2 = 1 → ¬ x2 = 2 → (px 0 g1)))) ∧ (¬ (x1 < r2) → (px 2 g1)))))))
def wp_sc_wipe (g : St) (post : Int32 → St → Prop) : Prop :=
  (wp_ta_size g (fun r2 g1 => (wp_ta_cutTo 0 g1 (fun g3 => (post r2 g3)))))
def wp_mo_thrown (g : St) (post : Int32 → St → Prop) : Prop :=
  (post (g 0 0) g)
def wp_mo_isSpot (x1 : Int32) (g : St) (post : Int32 → St → Prop) : Prop :=
  ((x1 < 0 → (post 0 g)) ∧ (¬ (x1 < 0) → (((g 0 1) ≤ x1 → (post 0 g)) ∧ (¬ ((g 0 1) ≤ x1) → (post 1 g)))))
def wp_mo_turn (x1 : Int32) (x2 : Int32) (x3 : Int32) (g : St) (post : Int32 → St → Prop) : Prop :=
  (vp_in x2 16 ∧ (vp_in x1 16 ∧ (vp_in x3 16 ∧ (vp_in x1 16 ∧ (vp_in x2 16 ∧ (vp_in x1 16 ∧ (vp_in x3 16 ∧ (vp_in x1 16 ∧ (post ((((g 1 (ix x2)) - (g 1 (ix x1))) * ((g 2 (ix x3)) - (g 2 (ix x1)))) - (((g 2 (ix x2)) - (g 2 (ix x1))) * ((g 1 (ix x3)) - (g 1 (ix x1))))) g)))))))))
def wp_mo_square (x1 : Int32) (x2 : Int32) (g : St) (post : Int64 → St → Prop) : Prop :=
  (vp_in x1 16 ∧ (vp_in x2 16 ∧ (vp_in x1 16 ∧ (vp_in x2 16 ∧ (vp_in x1 16 ∧ (vp_in x2 16 ∧ (vp_in x1 16 ∧ (vp_in x2 16 ∧ (post ((((g 1 (ix x1)) - (g 1 (ix x2))).toInt64 * ((g 1 (ix x1)) - (g 1 (ix x2))).toInt64) + (((g 2 (ix x1)) - (g 2 (ix x2))).toInt64 * ((g 2 (ix x1)) - (g 2 (ix x2))).toInt64)) g)))))))))
def wp_mo_inside (x1 : Int32) (x2 : Int32) (x3 : Int32) (x4 : Int32) (g : St) (post : Int64 → St → Prop) : Prop :=
  (wp_mo_square x1 x4 g (fun r2 g1 => (wp_mo_turn x4 x2 x3 g1 (fun r4 g3 => (wp_mo_square x2 x4 g3 (fun r6 g5 => (wp_mo_turn x4 x3 x1 g5 (fun r8 g7 => (wp_mo_square x3 x4 g7 (fun r10 g9 => (wp_mo_turn x4 x1 x2 g9 (fun r12 g11 => (wp_mo_turn x1 x2 x3 g11 (fun r14 g13 => ((r14 ≤ 0 → (post (-(((r2 * r4.toInt64) + (r6 * r8.toInt64)) + (r10 * r12.toInt64))) g13)) ∧ (¬ (r14 ≤ 0) → (post (((r2 * r4.toInt64) + (r6 * r8.toInt64)) + (r10 * r12.toInt64)) g13)))))))))))))))))
def jn_mo_parts_J15 (v1 : Int32) (v2 : Int32) (v4 : Int32) (s0 : Int32) (g : St) (post : Int32 → St → Prop) : Prop :=
  (wp_mo_turn v1 v2 v4 g (fun r4 g3 => ((r4 ≤ 0 → ((s0 = 0 → (post 0 g3)) ∧ (¬ (s0 = 0) → (post 1 g3)))) ∧ (¬ (r4 ≤ 0) → ((s0 = 1 → (post 0 g3)) ∧ (¬ (s0 = 1) → (post 1 g3)))))))
def wp_mo_parts (x1 : Int32) (x2 : Int32) (x3 : Int32) (x4 : Int32) (g : St) (post : Int32 → St → Prop) : Prop :=
  (wp_mo_turn x1 x2 x3 g (fun r2 g1 => ((r2 ≤ 0 → (jn_mo_parts_J15 x1 x2 x4 0 g1 post)) ∧ (¬ (r2 ≤ 0) → (jn_mo_parts_J15 x1 x2 x4 1 g1 post)))))
def jn_mo_isIn_J106 (v4 : Int32) (v7 : Int32) (s0 : Int32) (g : St) (post : Int32 → St → Prop) : Prop :=
  ((s0 = v4 → (post 0 g)) ∧ (¬ (s0 = v4) → ((s0 = v7 → (post 0 g)) ∧ (¬ (s0 = v7) → (post 1 g)))))
def jn_mo_isIn_J90 (v4 : Int32) (v7 : Int32) (s0 : Int32) (g : St) (post : Int32 → St → Prop) : Prop :=
  ((s0 ≤ v4 → (jn_mo_isIn_J106 v4 v7 s0 g post)) ∧ (¬ (s0 ≤ v4) → (jn_mo_isIn_J106 v4 v7 v4 g post)))
def jn_mo_isIn_J76 (v3 : Int32) (v4 : Int32) (v7 : Int32) (s0 : Int32) (g : St) (post : Int32 → St → Prop) : Prop :=
  ((s0 ≤ v3 → (jn_mo_isIn_J90 v4 v7 s0 g post)) ∧ (¬ (s0 ≤ v3) → (jn_mo_isIn_J90 v4 v7 v3 g post)))
def jn_mo_isIn_J64 (v1 : Int32) (v2 : Int32) (v3 : Int32) (v4 : Int32) (s0 : Int32) (g : St) (post : Int32 → St → Prop) : Prop :=
  ((v2 ≤ v1 → (jn_mo_isIn_J76 v3 v4 s0 v2 g post)) ∧ (¬ (v2 ≤ v1) → (jn_mo_isIn_J76 v3 v4 s0 v1 g post)))
def wp_mo_isIn (x1 : Int32) (x2 : Int32) (x3 : Int32) (x4 : Int32) (g : St) (post : Int32 → St → Prop) : Prop :=
  (wp_mo_inside x1 x2 x3 x4 g (fun r2 g1 => (((lg_cmp r2 0) = 0 → (wp_mo_parts x4 x1 x2 x3 g1 (fun r4 g3 => ((r4 = 0 → (wp_mo_parts x4 x2 x1 x3 g3 (fun r6 g5 => ((r6 = 0 → (jn_mo_isIn_J64 x1 x2 x3 x4 x3 g5 post)) ∧ (¬ (r6 = 0) → (jn_mo_isIn_J64 x1 x2 x3 x4 x2 g5 post)))))) ∧ (¬ (r4 = 0) → (jn_mo_isIn_J64 x1 x2 x3 x4 x1 g3 post)))))) ∧ (¬ ((lg_cmp r2 0) = 0) → (((lg_cmp r2 0) ≤ 0 → (post 0 g1)) ∧ (¬ ((lg_cmp r2 0) ≤ 0) → (post 1 g1)))))))
def lp_mo_isTriangle_L18 : Nat → Int32 → Int32 → Int32 → Int32 → Int32 → St → (Int32 → St → Prop) → (Int32 → St → Prop) → Prop
  | 0, _, _, _, _, _, _, _, _ => False
  | n + 1, v1, v2, v3, v4, v5, g, K75, post => (((g 0 1) ≤ v5 → (K75 v4 g)) ∧ (¬ ((g 0 1) ≤ v5) → ((v4 = 0 → (K75 v4 g)) ∧ (¬ (v4 = 0) → ((v5 = v1 → (lp_mo_isTriangle_L18 n v1 v2 v3 1 (v5 + 1) g K75 post)) ∧ (¬ (v5 = v1) → ((v5 = v2 → (lp_mo_isTriangle_L18 n v1 v2 v3 1 (v5 + 1) g K75 post)) ∧ (¬ (v5 = v2) → ((v5 = v3 → (lp_mo_isTriangle_L18 n v1 v2 v3 1 (v5 + 1) g K75 post)) ∧ (¬ (v5 = v3) → (wp_mo_isIn v1 v2 v3 v5 g (fun r4 g3 => ((¬ (r4 = 0) → (lp_mo_isTriangle_L18 n v1 v2 v3 0 (v5 + 1) g3 K75 post)) ∧ (r4 = 0 → (lp_mo_isTriangle_L18 n v1 v2 v3 1 (v5 + 1) g3 K75 post)))))))))))))))
def wp_mo_isTriangle (x1 : Int32) (x2 : Int32) (x3 : Int32) (g : St) (post : Int32 → St → Prop) : Prop :=
  (wp_mo_turn x1 x2 x3 g (fun r2 g1 => ((¬ (r2 = 0) → (∃ k18, lp_mo_isTriangle_L18 k18 x1 x2 x3 1 0 g1 (fun w6 g5 => (narrow .boolean (.int w6) = .int w6 ∧ post w6 g5)) post)) ∧ (r2 = 0 → (post 0 g1)))))
def lp_mo_findTriangles_L31 : Nat → Int32 → Int32 → Int32 → St → (Int32 → Int32 → St → Prop) → (St → Prop) → Prop
  | 0, _, _, _, _, _, _ => False
  | n + 1, v1, v2, v3, g, K105, post => (((g 0 1) ≤ v3 → (K105 v1 v2 g)) ∧ (¬ ((g 0 1) ≤ v3) → (wp_mo_isTriangle v1 v2 v3 g (fun r3 g2 => ((r3 = 0 → (lp_mo_findTriangles_L31 n v1 v2 (v3 + 1) g2 K105 post)) ∧ (¬ (r3 = 0) → (vp_in (3 * (g2 0 5)) 150 ∧ ∀ g4 : St, g4 = gp g2 4 (ix (3 * (g2 0 5))) v1 → (vp_in ((3 * (g4 0 5)) + 1) 150 ∧ ∀ g5 : St, g5 = gp g4 4 (ix ((3 * (g4 0 5)) + 1)) v2 → (vp_in ((3 * (g5 0 5)) + 2) 150 ∧ ∀ g6 : St, g6 = gp g5 4 (ix ((3 * (g5 0 5)) + 2)) v3 → (∀ g7 : St, g7 = gp g6 0 5 ((g6 0 5) + 1) → (lp_mo_findTriangles_L31 n v1 v2 (v3 + 1) g7 K105 post)))))))))))
def lp_mo_findTriangles_L19 : Nat → Int32 → Int32 → St → (Int32 → St → Prop) → (St → Prop) → Prop
  | 0, _, _, _, _, _ => False
  | n + 1, v1, v2, g, K111, post => (((g 0 1) ≤ v2 → (K111 v1 g)) ∧ (¬ ((g 0 1) ≤ v2) → (∃ k31, lp_mo_findTriangles_L31 k31 v1 v2 (v2 + 1) g (fun w9 w10 g8 => (lp_mo_findTriangles_L19 n w9 (w10 + 1) g8 K111 post)) post)))
def lp_mo_findTriangles_L7 : Nat → Int32 → St → (St → Prop) → (St → Prop) → Prop
  | 0, _, _, _, _ => False
  | n + 1, v1, g, K117, post => (((g 0 1) ≤ v1 → (K117 g)) ∧ (¬ ((g 0 1) ≤ v1) → (∃ k19, lp_mo_findTriangles_L19 k19 v1 (v1 + 1) g (fun w12 g11 => (lp_mo_findTriangles_L7 n (w12 + 1) g11 K117 post)) post)))
def wp_mo_findTriangles (g : St) (post : St → Prop) : Prop :=
  (∀ g1 : St, g1 = gp g 0 5 0 → (∃ k7, lp_mo_findTriangles_L7 k7 0 g1 (fun g13 => (post g13)) post))
def lp_mo_spot_L41 : Nat → Int32 → Int32 → Int32 → Int32 → Int32 → St → (Int32 → Int32 → Int32 → Int32 → St → Prop) → (Int32 → St → Prop) → Prop
  | 0, _, _, _, _, _, _, _, _ => False
  | n + 1, v1, v2, v3, v4, v5, g, K90, post => (((g 0 1) ≤ v5 → (K90 v1 v2 v3 v4 g)) ∧ (¬ ((g 0 1) ≤ v5) → ((¬ (v4 = 0) → (lp_mo_spot_L41 n v1 v2 v3 1 (v5 + 1) g K90 post)) ∧ (v4 = 0 → (vp_in v5 16 ∧ ((¬ ((g 1 (ix v5)) = v1) → (lp_mo_spot_L41 n v1 v2 v3 0 (v5 + 1) g K90 post)) ∧ ((g 1 (ix v5)) = v1 → (vp_in v5 16 ∧ ((¬ ((g 2 (ix v5)) = v2) → (lp_mo_spot_L41 n v1 v2 v3 0 (v5 + 1) g K90 post)) ∧ ((g 2 (ix v5)) = v2 → (lp_mo_spot_L41 n v1 v2 v3 1 (v5 + 1) g K90 post)))))))))))
def jn_mo_spot_J114 (v1 : Int32) (v2 : Int32) (v3 : Int32) (s1 : Int32) (g : St) (post : Int32 → St → Prop) : Prop :=
  (∀ g6 : St, g6 = gp g 0 0 s1 → (((g6 0 0) = 0 → (vp_in (g6 0 1) 16 ∧ ∀ g7 : St, g7 = gp g6 1 (ix (g6 0 1)) v1 → (vp_in (g7 0 1) 16 ∧ ∀ g8 : St, g8 = gp g7 2 (ix (g7 0 1)) v2 → (vp_in (g8 0 1) 16 ∧ ∀ g9 : St, g9 = gp g8 3 (ix (g8 0 1)) v3 → (∀ g10 : St, g10 = gp g9 0 1 ((g9 0 1) + 1) → (∀ g11 : St, g11 = gp g10 0 17 0 → (wp_mo_findTriangles g11 (fun g12 => (post ((g12 0 1) - 1) g12))))))))) ∧ (¬ ((g6 0 0) = 0) → (post 0 g6))))
def jn_mo_spot_J36 (v1 : Int32) (v2 : Int32) (v3 : Int32) (s0 : Int32) (g : St) (post : Int32 → St → Prop) : Prop :=
  (∃ k41, lp_mo_spot_L41 k41 v1 v2 v3 s0 0 g (fun w2 w3 w4 w5 g1 => ((w5 = 0 → ((¬ ((g1 0 1) = 16) → (jn_mo_spot_J114 w2 w3 w4 0 g1 post)) ∧ ((g1 0 1) = 16 → (jn_mo_spot_J114 w2 w3 w4 2 g1 post)))) ∧ (¬ (w5 = 0) → (jn_mo_spot_J114 w2 w3 w4 1 g1 post)))) post)
def jn_mo_spot_J31 (v1 : Int32) (v2 : Int32) (v3 : Int32) (g : St) (post : Int32 → St → Prop) : Prop :=
  (jn_mo_spot_J36 v1 v2 v3 1 g post)
def wp_mo_spot (x1 : Int32) (x2 : Int32) (x3 : Int32) (g : St) (post : Int32 → St → Prop) : Prop :=
  ((x1 < 0 → (jn_mo_spot_J31 x1 x2 x3 g post)) ∧ (¬ (x1 < 0) → ((63 < x1 → (jn_mo_spot_J31 x1 x2 x3 g post)) ∧ (¬ (63 < x1) → ((x2 < 0 → (jn_mo_spot_J31 x1 x2 x3 g post)) ∧ (¬ (x2 < 0) → ((63 < x2 → (jn_mo_spot_J31 x1 x2 x3 g post)) ∧ (¬ (63 < x2) → ((x3 < 0 → (jn_mo_spot_J31 x1 x2 x3 g post)) ∧ (¬ (x3 < 0) → ((x3 ≤ 999 → (jn_mo_spot_J36 x1 x2 x3 0 g post)) ∧ (¬ (x3 ≤ 999) → (jn_mo_spot_J31 x1 x2 x3 g post)))))))))))))
def jn_mo_raise_J29 (v1 : Int32) (v2 : Int32) (s1 : Int32) (g : St) (post : Int32 → St → Prop) : Prop :=
  (∀ g3 : St, g3 = gp g 0 0 s1 → (((g3 0 0) = 0 → (vp_in v1 16 ∧ (vp_in v1 16 ∧ ∀ g4 : St, g4 = gp g3 3 (ix v1) v2 → (∀ g5 : St, g5 = gp g4 0 17 0 → (post (g3 3 (ix v1)) g5))))) ∧ (¬ ((g3 0 0) = 0) → (post 0 g3))))
def jn_mo_raise_J24 (v1 : Int32) (v2 : Int32) (g : St) (post : Int32 → St → Prop) : Prop :=
  (jn_mo_raise_J29 v1 v2 2 g post)
def wp_mo_raise (x1 : Int32) (x2 : Int32) (g : St) (post : Int32 → St → Prop) : Prop :=
  (wp_mo_isSpot x1 g (fun r2 g1 => ((¬ (r2 = 0) → ((x2 < 0 → (jn_mo_raise_J24 x1 x2 g1 post)) ∧ (¬ (x2 < 0) → ((x2 ≤ 999 → (jn_mo_raise_J29 x1 x2 0 g1 post)) ∧ (¬ (x2 ≤ 999) → (jn_mo_raise_J24 x1 x2 g1 post)))))) ∧ (r2 = 0 → (jn_mo_raise_J29 x1 x2 1 g1 post)))))
def wp_mo_triangles (g : St) (post : Int32 → St → Prop) : Prop :=
  (∀ g1 : St, g1 = gp g 0 0 0 → (post (g1 0 5) g1))
def jn_mo_corner_J27 (v1 : Int32) (v2 : Int32) (s1 : Int32) (g : St) (post : Int32 → St → Prop) : Prop :=
  (∀ g1 : St, g1 = gp g 0 0 s1 → ((¬ ((g1 0 0) = 0) → (post 0 g1)) ∧ ((g1 0 0) = 0 → (vp_in ((3 * v1) + v2) 150 ∧ (post (g1 4 (ix ((3 * v1) + v2))) g1)))))
def jn_mo_corner_J22 (v1 : Int32) (v2 : Int32) (g : St) (post : Int32 → St → Prop) : Prop :=
  (jn_mo_corner_J27 v1 v2 1 g post)
def wp_mo_corner (x1 : Int32) (x2 : Int32) (g : St) (post : Int32 → St → Prop) : Prop :=
  ((x1 < 0 → (jn_mo_corner_J22 x1 x2 g post)) ∧ (¬ (x1 < 0) → (((g 0 5) ≤ x1 → (jn_mo_corner_J22 x1 x2 g post)) ∧ (¬ ((g 0 5) ≤ x1) → ((x2 < 0 → (jn_mo_corner_J22 x1 x2 g post)) ∧ (¬ (x2 < 0) → ((x2 ≤ 2 → (jn_mo_corner_J27 x1 x2 0 g post)) ∧ (¬ (x2 ≤ 2) → (jn_mo_corner_J22 x1 x2 g post)))))))))
def wp_mo_has (x1 : Int32) (x2 : Int32) (g : St) (post : Int32 → St → Prop) : Prop :=
  (vp_in (3 * x1) 150 ∧ (((g 4 (ix (3 * x1))) = x2 → (post 1 g)) ∧ (¬ ((g 4 (ix (3 * x1))) = x2) → (vp_in ((3 * x1) + 1) 150 ∧ (((g 4 (ix ((3 * x1) + 1))) = x2 → (post 1 g)) ∧ (¬ ((g 4 (ix ((3 * x1) + 1))) = x2) → (vp_in ((3 * x1) + 2) 150 ∧ ((¬ ((g 4 (ix ((3 * x1) + 2))) = x2) → (post 0 g)) ∧ ((g 4 (ix ((3 * x1) + 2))) = x2 → (post 1 g))))))))))
def lp_mo_edge_L30 : Nat → Int32 → Int32 → Int32 → Int32 → St → (Int32 → St → Prop) → (Int32 → St → Prop) → Prop
  | 0, _, _, _, _, _, _, _ => False
  | n + 1, v1, v2, v3, v4, g, K85, post => (((g 0 5) ≤ v4 → (K85 v3 g)) ∧ (¬ ((g 0 5) ≤ v4) → ((¬ ((g 0 0) = 0) → (K85 v3 g)) ∧ ((g 0 0) = 0 → ((v1 = v2 → (K85 v3 g)) ∧ (¬ (v1 = v2) → (wp_mo_has v4 v1 g (fun r5 g4 => ((r5 = 0 → (lp_mo_edge_L30 n v1 v2 (v3 + 0) (v4 + 1) g4 K85 post)) ∧ (¬ (r5 = 0) → (wp_mo_has v4 v2 g4 (fun r7 g6 => ((r7 = 0 → (lp_mo_edge_L30 n v1 v2 (v3 + 0) (v4 + 1) g6 K85 post)) ∧ (¬ (r7 = 0) → (lp_mo_edge_L30 n v1 v2 (v3 + 1) (v4 + 1) g6 K85 post)))))))))))))))
def jn_mo_edge_J22 (v1 : Int32) (v2 : Int32) (s1 : Int32) (g : St) (post : Int32 → St → Prop) : Prop :=
  (∀ g3 : St, g3 = gp g 0 0 s1 → (∃ k30, lp_mo_edge_L30 k30 v1 v2 0 0 g3 (fun w9 g8 => (post w9 g8)) post))
def jn_mo_edge_J21 (v1 : Int32) (v2 : Int32) (g : St) (post : Int32 → St → Prop) : Prop :=
  (jn_mo_edge_J22 v1 v2 1 g post)
def wp_mo_edge (x1 : Int32) (x2 : Int32) (g : St) (post : Int32 → St → Prop) : Prop :=
  (wp_mo_isSpot x1 g (fun r2 g1 => ((r2 = 0 → (jn_mo_edge_J21 x1 x2 g1 post)) ∧ (¬ (r2 = 0) → (wp_mo_isSpot x2 g1 (fun r11 g10 => ((r11 = 0 → (jn_mo_edge_J21 x1 x2 g10 post)) ∧ (¬ (r11 = 0) → (jn_mo_edge_J22 x1 x2 0 g10 post)))))))))
def wp_mo_toPlace (x1 : Int32) (x2 : Int32) (x3 : Int32) (x4 : Int32) (g : St) (post : Int64 → St → Prop) : Prop :=
  (vp_in x2 16 ∧ (vp_in x1 16 ∧ (vp_in x1 16 ∧ (vp_in x2 16 ∧ (vp_in x1 16 ∧ (vp_in x1 16 ∧ (post ((((g 1 (ix x2)) - (g 1 (ix x1))).toInt64 * (x4.toInt64 - (g 2 (ix x1)).toInt64)) - (((g 2 (ix x2)) - (g 2 (ix x1))).toInt64 * (x3.toInt64 - (g 1 (ix x1)).toInt64))) g)))))))
def wp_mo_floor (x0 : Int64) (x2 : Int64) (g : St) (post : Int64 → St → Prop) : Prop :=
  (¬ x2 = 0 ∧ (((lg_cmp ((x0 / x2) * x2) x0) ≤ 0 → (post (x0 / x2) g)) ∧ (¬ ((lg_cmp ((x0 / x2) * x2) x0) ≤ 0) → (post ((x0 / x2) - 1) g))))
def jn_mo_at_J82 (v1 : Int32) (v2 : Int32) (v3 : Int32) (v4 : Int32) (v5 : Int32) (v6 : Int32) (v7 : Int32) (s0 : Int32) (g : St) (K10 : Int32 → Int32 → Int32 → Int32 → St → Prop) (post : Int32 → St → Prop) : Prop :=
  (wp_mo_toPlace v6 v7 v1 v2 g (fun r5 g4 => (wp_mo_toPlace v7 v5 v1 v2 g4 (fun r7 g6 => (wp_mo_toPlace v5 v6 v1 v2 g6 (fun r9 g8 => (((lg_cmp (s0.toInt64 * r5) 0) < 0 → (K10 v1 v2 v3 (v4 + 1) g8)) ∧ (¬ ((lg_cmp (s0.toInt64 * r5) 0) < 0) → (((lg_cmp (s0.toInt64 * r7) 0) < 0 → (K10 v1 v2 v3 (v4 + 1) g8)) ∧ (¬ ((lg_cmp (s0.toInt64 * r7) 0) < 0) → (((lg_cmp (s0.toInt64 * r9) 0) < 0 → (K10 v1 v2 v3 (v4 + 1) g8)) ∧ (¬ ((lg_cmp (s0.toInt64 * r9) 0) < 0) → (vp_in v5 16 ∧ (vp_in v6 16 ∧ (vp_in v7 16 ∧ (wp_mo_floor ((((s0.toInt64 * r5) * (g8 3 (ix v5)).toInt64) + ((s0.toInt64 * r7) * (g8 3 (ix v6)).toInt64)) + ((s0.toInt64 * r9) * (g8 3 (ix v7)).toInt64)) (((s0.toInt64 * r5) + (s0.toInt64 * r7)) + (s0.toInt64 * r9)) g8 (fun r11 g10 => (∀ g12 : St, g12 = gp g10 0 0 0 → (K10 v1 v2 r11.toInt32 (v4 + 1) g12)))))))))))))))))))
def lp_mo_at_L10 : Nat → Int32 → Int32 → Int32 → Int32 → St → (Int32 → St → Prop) → (Int32 → St → Prop) → Prop
  | 0, _, _, _, _, _, _, _ => False
  | n + 1, v1, v2, v3, v4, g, K212, post => (((g 0 5) ≤ v4 → (K212 v3 g)) ∧ (¬ ((g 0 5) ≤ v4) → ((¬ ((g 0 0) = 1) → (K212 v3 g)) ∧ ((g 0 0) = 1 → (vp_in (3 * v4) 150 ∧ (vp_in ((3 * v4) + 1) 150 ∧ (vp_in ((3 * v4) + 2) 150 ∧ (wp_mo_turn (g 4 (ix (3 * v4))) (g 4 (ix ((3 * v4) + 1))) (g 4 (ix ((3 * v4) + 2))) g (fun r3 g2 => ((r3 ≤ 0 → (jn_mo_at_J82 v1 v2 v3 v4 (g 4 (ix (3 * v4))) (g 4 (ix ((3 * v4) + 1))) (g 4 (ix ((3 * v4) + 2))) (-1) g2 (fun w14 w15 w16 w17 g13 => (lp_mo_at_L10 n w14 w15 w16 w17 g13 K212 post)) post)) ∧ (¬ (r3 ≤ 0) → (jn_mo_at_J82 v1 v2 v3 v4 (g 4 (ix (3 * v4))) (g 4 (ix ((3 * v4) + 1))) (g 4 (ix ((3 * v4) + 2))) 1 g2 (fun w19 w20 w21 w22 g18 => (lp_mo_at_L10 n w19 w20 w21 w22 g18 K212 post)) post))))))))))))
def wp_mo_at (x1 : Int32) (x2 : Int32) (g : St) (post : Int32 → St → Prop) : Prop :=
  (∀ g1 : St, g1 = gp g 0 0 1 → (∃ k10, lp_mo_at_L10 k10 x1 x2 0 0 g1 (fun w24 g23 => (post w24 g23)) post))
def wp_mo_isHigh (x1 : Int32) (x2 : Int32) (g : St) (post : Int32 → St → Prop) : Prop :=
  (vp_in x1 16 ∧ (((g 3 (ix x1)) ≤ x2 → (post 0 g)) ∧ (¬ ((g 3 (ix x1)) ≤ x2) → (post 1 g))))
def wp_mo_edgeOf (x0 : Int32) (x1 : Int32) (g : St) (post : Int32 → St → Prop) : Prop :=
  ((x1 ≤ x0 → (post ((16 * x1) + x0) g)) ∧ (¬ (x1 ≤ x0) → (post ((16 * x0) + x1) g)))
def jn_mo_join_J34 (v1 : Int32) (v2 : Int32) (s0 : Int32) (g : St) (post : St → Prop) : Prop :=
  (wp_mo_edgeOf v1 v2 g (fun r8 g7 => (vp_in r8 256 ∧ ∀ g9 : St, g9 = gp g7 6 (ix r8) s0 → (wp_mo_edgeOf v1 v2 g9 (fun r11 g10 => (vp_in s0 256 ∧ ∀ g12 : St, g12 = gp g10 7 (ix s0) r11 → (post g12)))))))
def wp_mo_join (x1 : Int32) (x2 : Int32) (x3 : Int32) (x4 : Int32) (g : St) (post : St → Prop) : Prop :=
  (wp_mo_turn x2 x1 x3 g (fun r2 g1 => ((r2 < 0 → (wp_mo_isHigh x3 x4 g1 (fun r4 g3 => ((r4 = 0 → (wp_mo_edgeOf x1 x3 g3 (fun r6 g5 => (jn_mo_join_J34 x1 x2 r6 g5 post)))) ∧ (¬ (r4 = 0) → (wp_mo_edgeOf x3 x2 g3 (fun r14 g13 => (jn_mo_join_J34 x1 x2 r14 g13 post)))))))) ∧ (¬ (r2 < 0) → (post g1)))))
def wp_mo_pair (x1 : Int32) (x2 : Int32) (x3 : Int32) (x4 : Int32) (g : St) (post : St → Prop) : Prop :=
  (wp_mo_isHigh x1 x4 g (fun r2 g1 => (wp_mo_isHigh x2 x4 g1 (fun r4 g3 => ((¬ (r2 = r4) → (wp_mo_edgeOf x1 x2 g3 (fun r6 g5 => (vp_in r6 256 ∧ ∀ g7 : St, g7 = gp g5 5 (ix r6) (vp_nar .boolean 1) → (wp_mo_isHigh x1 x4 g7 (fun r9 g8 => ((r9 = 0 → (wp_mo_join x2 x1 x3 x4 g8 (fun g10 => (post g10)))) ∧ (¬ (r9 = 0) → (wp_mo_join x1 x2 x3 x4 g8 (fun g11 => (post g11))))))))))) ∧ (r2 = r4 → (post g3)))))))
def lp_mo_gather_L4 : Nat → Int32 → Int32 → Int32 → St → (Int32 → Int32 → St → Prop) → (St → Prop) → Prop
  | 0, _, _, _, _, _, _ => False
  | n + 1, v1, v2, v3, g, K38, post => (vp_in v2 256 ∧ (((g 7 (ix v2)) < 0 → (K38 v2 v3 g)) ∧ (¬ ((g 7 (ix v2)) < 0) → ((¬ (v3 = 0) → (K38 v2 v3 g)) ∧ (v3 = 0 → (vp_in v2 256 ∧ ((¬ ((g 7 (ix v2)) = v1) → (lp_mo_gather_L4 n v1 (g 7 (ix v2)) 0 g K38 post)) ∧ ((g 7 (ix v2)) = v1 → (lp_mo_gather_L4 n v1 (g 7 (ix v2)) 1 g K38 post)))))))))
def lp_mo_gather_L67 : Nat → Int32 → Int32 → Int32 → St → (St → Prop) → (St → Prop) → Prop
  | 0, _, _, _, _, _, _ => False
  | n + 1, v2, v4, v5, g, K131, post => ((v5 = 0 → (K131 g)) ∧ (¬ (v5 = 0) → (vp_in (g 0 15) 260 ∧ ∀ g6 : St, g6 = gp g 12 (ix (g 0 15)) v4 → (∀ g7 : St, g7 = gp g6 0 15 ((g6 0 15) + 1) → (vp_in v4 256 ∧ ∀ g8 : St, g8 = gp g7 8 (ix v4) (vp_nar .boolean 1) → (vp_in v4 256 ∧ (((g8 6 (ix v4)) < 0 → (lp_mo_gather_L67 n v2 (g8 6 (ix v4)) 0 g8 K131 post)) ∧ (¬ ((g8 6 (ix v4)) < 0) → (((g8 6 (ix v4)) = v2 → (lp_mo_gather_L67 n v2 (g8 6 (ix v4)) 0 g8 K131 post)) ∧ (¬ ((g8 6 (ix v4)) = v2) → (lp_mo_gather_L67 n v2 (g8 6 (ix v4)) 1 g8 K131 post)))))))))))
def jn_mo_gather_J38 (v2 : Int32) (v3 : Int32) (g : St) (post : St → Prop) : Prop :=
  (vp_in (g 0 11) 130 ∧ ∀ g4 : St, g4 = gp g 9 (ix (g 0 11)) (g 0 15) → (vp_in (g4 0 11) 130 ∧ ∀ g5 : St, g5 = gp g4 11 (ix (g4 0 11)) (vp_nar .boolean v3) → (∃ k67, lp_mo_gather_L67 k67 v2 v2 1 g5 (fun g9 => (vp_in (g9 0 11) 130 ∧ (vp_in (g9 0 11) 130 ∧ ∀ g10 : St, g10 = gp g9 10 (ix (g9 0 11)) ((g9 0 15) - (g9 9 (ix (g9 0 11)))) → (∀ g11 : St, g11 = gp g10 0 11 ((g10 0 11) + 1) → (post g11))))) post)))
def wp_mo_gather (x1 : Int32) (g : St) (post : St → Prop) : Prop :=
  (∃ k4, lp_mo_gather_L4 k4 x1 x1 0 g (fun w2 w3 g1 => (jn_mo_gather_J38 w2 w3 g1 post)) post)
def lp_mo_findContours_L2 : Nat → Int32 → Int32 → St → (Int32 → St → Prop) → (St → Prop) → Prop
  | 0, _, _, _, _, _ => False
  | n + 1, v1, v2, g, K43, post => ((256 ≤ v2 → (K43 v1 g)) ∧ (¬ (256 ≤ v2) → (vp_in v2 256 ∧ ∀ g1 : St, g1 = gp g 5 (ix v2) (vp_nar .boolean 0) → (vp_in v2 256 ∧ ∀ g2 : St, g2 = gp g1 8 (ix v2) (vp_nar .boolean 0) → (vp_in v2 256 ∧ ∀ g3 : St, g3 = gp g2 6 (ix v2) (-1) → (vp_in v2 256 ∧ ∀ g4 : St, g4 = gp g3 7 (ix v2) (-1) → (lp_mo_findContours_L2 n v1 (v2 + 1) g4 K43 post)))))))
def lp_mo_findContours_L45 : Nat → Int32 → Int32 → St → (St → Prop) → (St → Prop) → Prop
  | 0, _, _, _, _, _ => False
  | n + 1, v1, v2, g, K122, post => (((g 0 5) ≤ v2 → (K122 g)) ∧ (¬ ((g 0 5) ≤ v2) → (vp_in (3 * v2) 150 ∧ (vp_in ((3 * v2) + 1) 150 ∧ (vp_in ((3 * v2) + 2) 150 ∧ (wp_mo_pair (g 4 (ix (3 * v2))) (g 4 (ix ((3 * v2) + 1))) (g 4 (ix ((3 * v2) + 2))) v1 g (fun g7 => (wp_mo_pair (g 4 (ix (3 * v2))) (g 4 (ix ((3 * v2) + 2))) (g 4 (ix ((3 * v2) + 1))) v1 g7 (fun g8 => (wp_mo_pair (g 4 (ix ((3 * v2) + 1))) (g 4 (ix ((3 * v2) + 2))) (g 4 (ix (3 * v2))) v1 g8 (fun g9 => (lp_mo_findContours_L45 n v1 (v2 + 1) g9 K122 post))))))))))))
def lp_mo_findContours_L134 : Nat → Int32 → St → (St → Prop) → (St → Prop) → Prop
  | 0, _, _, _, _ => False
  | n + 1, v2, g, K170, post => ((256 ≤ v2 → (K170 g)) ∧ (¬ (256 ≤ v2) → (vp_in v2 256 ∧ (((g 5 (ix v2)) = 0 → (lp_mo_findContours_L134 n (v2 + 1) g K170 post)) ∧ (¬ ((g 5 (ix v2)) = 0) → (vp_in v2 256 ∧ ((¬ ((g 8 (ix v2)) = 0) → (lp_mo_findContours_L134 n (v2 + 1) g K170 post)) ∧ ((g 8 (ix v2)) = 0 → (wp_mo_gather v2 g (fun g13 => (lp_mo_findContours_L134 n (v2 + 1) g13 K170 post)))))))))))
def wp_mo_findContours (x1 : Int32) (g : St) (post : St → Prop) : Prop :=
  (∃ k2, lp_mo_findContours_L2 k2 x1 0 g (fun w6 g5 => (∃ k45, lp_mo_findContours_L45 k45 w6 0 g5 (fun g10 => (∀ g11 : St, g11 = gp g10 0 11 0 → (∀ g12 : St, g12 = gp g11 0 15 0 → (∃ k134, lp_mo_findContours_L134 k134 0 g12 (fun g14 => (post g14)) post)))) post)) post)
def wp_mo_isLevel (x0 : Int32) (g : St) (post : Int32 → St → Prop) : Prop :=
  ((x0 < 0 → (post 0 g)) ∧ (¬ (x0 < 0) → ((998 < x0 → (post 0 g)) ∧ (¬ (998 < x0) → (post 1 g)))))
def jn_mo_contours_J13 (v1 : Int32) (s1 : Int32) (g : St) (post : Int32 → St → Prop) : Prop :=
  (∀ g3 : St, g3 = gp g 0 0 s1 → (((g3 0 0) = 0 → (wp_mo_findContours v1 g3 (fun g4 => (post (g4 0 11) g4)))) ∧ (¬ ((g3 0 0) = 0) → (post 0 g3))))
def wp_mo_contours (x1 : Int32) (g : St) (post : Int32 → St → Prop) : Prop :=
  (wp_mo_isLevel x1 g (fun r2 g1 => ((r2 = 0 → (jn_mo_contours_J13 x1 1 g1 post)) ∧ (¬ (r2 = 0) → (jn_mo_contours_J13 x1 0 g1 post)))))
def wp_mo_asked (x1 : Int32) (x2 : Int32) (g : St) (post : Int32 → St → Prop) : Prop :=
  (wp_mo_isLevel x1 g (fun r2 g1 => ((¬ (r2 = 0) → (wp_mo_findContours x1 g1 (fun g3 => ((x2 < 0 → (post 2 g3)) ∧ (¬ (x2 < 0) → ((x2 < (g3 0 11) → (post 0 g3)) ∧ (¬ (x2 < (g3 0 11)) → (post 2 g3)))))))) ∧ (r2 = 0 → (post 1 g1)))))
def jn_mo_isHollow_J79 (v1 : Int32) (v2 : Int32) (v4 : Int32) (s0 : Int32) (g : St) (K23 : Int32 → Int32 → Int32 → Int32 → St → Prop) (post : Int32 → St → Prop) : Prop :=
  (vp_in v4 260 ∧ (vp_in ((g 12 (ix v4)) - (g 12 (ix v4)) / 16 * 16) 16 ∧ (vp_in s0 16 ∧ (((g 1 (ix s0)) ≤ (g 1 (ix ((g 12 (ix v4)) - (g 12 (ix v4)) / 16 * 16))) → (K23 v1 v2 s0 (v4 + 1) g)) ∧ (¬ ((g 1 (ix s0)) ≤ (g 1 (ix ((g 12 (ix v4)) - (g 12 (ix v4)) / 16 * 16)))) → (vp_in v4 260 ∧ (K23 v1 v2 ((g 12 (ix v4)) - (g 12 (ix v4)) / 16 * 16) (v4 + 1) g)))))))
def lp_mo_isHollow_L23 : Nat → Int32 → Int32 → Int32 → Int32 → St → (Int32 → Int32 → St → Prop) → (Int32 → St → Prop) → Prop
  | 0, _, _, _, _, _, _, _ => False
  | n + 1, v1, v2, v3, v4, g, K125, post => (vp_in v2 130 ∧ (vp_in v2 130 ∧ ((((g 9 (ix v2)) + (g 10 (ix v2))) ≤ v4 → (K125 v1 v3 g)) ∧ (¬ (((g 9 (ix v2)) + (g 10 (ix v2))) ≤ v4) → (vp_in v4 260 ∧ (vp_in ((g 12 (ix v4)) / 16) 16 ∧ (vp_in v3 16 ∧ (((g 1 (ix v3)) ≤ (g 1 (ix ((g 12 (ix v4)) / 16))) → (jn_mo_isHollow_J79 v1 v2 v4 v3 g (fun w2 w3 w4 w5 g1 => (lp_mo_isHollow_L23 n w2 w3 w4 w5 g1 K125 post)) post)) ∧ (¬ ((g 1 (ix v3)) ≤ (g 1 (ix ((g 12 (ix v4)) / 16)))) → (vp_in v4 260 ∧ (jn_mo_isHollow_J79 v1 v2 v4 ((g 12 (ix v4)) / 16) g (fun w7 w8 w9 w10 g6 => (lp_mo_isHollow_L23 n w7 w8 w9 w10 g6 K125 post)) post)))))))))))
def wp_mo_isHollow (x1 : Int32) (x2 : Int32) (g : St) (post : Int32 → St → Prop) : Prop :=
  (vp_in x2 130 ∧ (vp_in (g 9 (ix x2)) 260 ∧ (vp_in x2 130 ∧ (∃ k23, lp_mo_isHollow_L23 k23 x1 x2 ((g 12 (ix (g 9 (ix x2)))) / 16) (g 9 (ix x2)) g (fun w12 w13 g11 => (wp_mo_isHigh w13 w12 g11 (fun r15 g14 => (narrow .boolean (.int r15) = .int r15 ∧ post r15 g14)))) post))))
def wp_mo_contour (x1 : Int32) (x2 : Int32) (g : St) (post : Int32 → St → Prop) : Prop :=
  (wp_mo_asked x1 x2 g (fun r2 g1 => (∀ g3 : St, g3 = gp g1 0 0 r2 → (((g3 0 0) = 0 → (vp_in x2 130 ∧ (vp_in x2 130 ∧ ((¬ ((g3 11 (ix x2)) = 0) → (wp_mo_isHollow x1 x2 g3 (fun r5 g4 => ((r5 = 0 → (post ((g3 10 (ix x2)) + 1000) g4)) ∧ (¬ (r5 = 0) → (post ((g3 10 (ix x2)) + 2000) g4)))))) ∧ ((g3 11 (ix x2)) = 0 → (post ((g3 10 (ix x2)) + 0) g3)))))) ∧ (¬ ((g3 0 0) = 0) → (post 0 g3))))))
def wp_mo_askedFor (x1 : Int32) (x2 : Int32) (x3 : Int32) (g : St) (post : Int32 → St → Prop) : Prop :=
  (wp_mo_asked x1 x2 g (fun r2 g1 => ((¬ (r2 = 0) → (post r2 g1)) ∧ (r2 = 0 → ((x3 < 0 → (post 2 g1)) ∧ (¬ (x3 < 0) → (vp_in x2 130 ∧ ((x3 < (g1 10 (ix x2)) → (post r2 g1)) ∧ (¬ (x3 < (g1 10 (ix x2))) → (post 2 g1))))))))))
def wp_mo_crossing (x1 : Int32) (x2 : Int32) (x3 : Int32) (g : St) (post : Int32 → St → Prop) : Prop :=
  (wp_mo_askedFor x1 x2 x3 g (fun r2 g1 => (∀ g3 : St, g3 = gp g1 0 0 r2 → ((¬ ((g3 0 0) = 0) → (post 0 g3)) ∧ ((g3 0 0) = 0 → (vp_in x2 130 ∧ (vp_in ((g3 9 (ix x2)) + x3) 260 ∧ (post (g3 12 (ix ((g3 9 (ix x2)) + x3))) g3))))))))
def jn_mo_placeOf_J23 (v1 : Int32) (v2 : Int32) (s0 : Int32) (g : St) (post : Int32 → St → Prop) : Prop :=
  (vp_in (((v2 / 16) + (v2 - v2 / 16 * 16)) - s0) 16 ∧ (vp_in s0 16 ∧ (vp_in (((v2 / 16) + (v2 - v2 / 16 * 16)) - s0) 16 ∧ (vp_in (((v2 / 16) + (v2 - v2 / 16 * 16)) - s0) 16 ∧ (vp_in s0 16 ∧ (vp_in (((v2 / 16) + (v2 - v2 / 16 * 16)) - s0) 16 ∧ (wp_mo_floor (((g 1 (ix s0)) - (g 1 (ix (((v2 / 16) + (v2 - v2 / 16 * 16)) - s0)))).toInt64 * (((2 * v1) + 1) - (2 * (g 3 (ix (((v2 / 16) + (v2 - v2 / 16 * 16)) - s0))))).toInt64) (2 * ((g 3 (ix s0)) - (g 3 (ix (((v2 / 16) + (v2 - v2 / 16 * 16)) - s0))))).toInt64 g (fun r4 g3 => (vp_in (((v2 / 16) + (v2 - v2 / 16 * 16)) - s0) 16 ∧ (vp_in s0 16 ∧ (vp_in (((v2 / 16) + (v2 - v2 / 16 * 16)) - s0) 16 ∧ (wp_mo_floor (((g3 2 (ix s0)) - (g3 2 (ix (((v2 / 16) + (v2 - v2 / 16 * 16)) - s0)))).toInt64 * (((2 * v1) + 1) - (2 * (g 3 (ix (((v2 / 16) + (v2 - v2 / 16 * 16)) - s0))))).toInt64) (2 * ((g 3 (ix s0)) - (g 3 (ix (((v2 / 16) + (v2 - v2 / 16 * 16)) - s0))))).toInt64 g3 (fun r6 g5 => (post ((64 * ((g 1 (ix (((v2 / 16) + (v2 - v2 / 16 * 16)) - s0))).toInt64 + r4)) + ((g3 2 (ix (((v2 / 16) + (v2 - v2 / 16 * 16)) - s0))).toInt64 + r6)).toInt32 g5))))))))))))))
def wp_mo_placeOf (x1 : Int32) (x2 : Int32) (g : St) (post : Int32 → St → Prop) : Prop :=
  (wp_mo_isHigh (x2 / 16) x1 g (fun r2 g1 => ((r2 = 0 → (jn_mo_placeOf_J23 x1 x2 (x2 - x2 / 16 * 16) g1 post)) ∧ (¬ (r2 = 0) → (jn_mo_placeOf_J23 x1 x2 (x2 / 16) g1 post)))))
def wp_mo_place (x1 : Int32) (x2 : Int32) (x3 : Int32) (g : St) (post : Int32 → St → Prop) : Prop :=
  (wp_mo_askedFor x1 x2 x3 g (fun r2 g1 => (∀ g3 : St, g3 = gp g1 0 0 r2 → ((¬ ((g3 0 0) = 0) → (post 0 g3)) ∧ ((g3 0 0) = 0 → (vp_in x2 130 ∧ (vp_in ((g3 9 (ix x2)) + x3) 260 ∧ (wp_mo_placeOf x1 (g3 12 (ix ((g3 9 (ix x2)) + x3))) g3 (fun r5 g4 => (post r5 g4))))))))))
def wp_mo_isNear (x1 : Int32) (x2 : Int32) (x3 : Int32) (g : St) (post : Int32 → St → Prop) : Prop :=
  ((x3 < (x1 - x2) → (post 0 g)) ∧ (¬ (x3 < (x1 - x2)) → ((x3 < (x2 - x1) → (post 0 g)) ∧ (¬ (x3 < (x2 - x1)) → (post 1 g)))))
def lp_mo_clashes_L5 : Nat → Int32 → Int32 → Int32 → Int32 → St → (Int32 → Int32 → Int32 → St → Prop) → (Int32 → St → Prop) → Prop
  | 0, _, _, _, _, _, _, _ => False
  | n + 1, v1, v2, v3, v4, g, K62, post => (((g 0 1) ≤ v4 → (K62 v1 v2 v3 g)) ∧ (¬ ((g 0 1) ≤ v4) → ((¬ (v3 = 0) → (lp_mo_clashes_L5 n v1 v2 1 (v4 + 1) g K62 post)) ∧ (v3 = 0 → (vp_in v4 16 ∧ (wp_mo_isNear (g 1 (ix v4)) v1 3 g (fun r2 g1 => ((r2 = 0 → (lp_mo_clashes_L5 n v1 v2 0 (v4 + 1) g1 K62 post)) ∧ (¬ (r2 = 0) → (vp_in v4 16 ∧ (wp_mo_isNear (g1 2 (ix v4)) v2 1 g1 (fun r4 g3 => ((r4 = 0 → (lp_mo_clashes_L5 n v1 v2 0 (v4 + 1) g3 K62 post)) ∧ (¬ (r4 = 0) → (lp_mo_clashes_L5 n v1 v2 1 (v4 + 1) g3 K62 post)))))))))))))))
def lp_mo_clashes_L65 : Nat → Int32 → Int32 → Int32 → Int32 → St → (Int32 → St → Prop) → (Int32 → St → Prop) → Prop
  | 0, _, _, _, _, _, _, _ => False
  | n + 1, v1, v2, v3, v4, g, K123, post => (((g 0 17) ≤ v4 → (K123 v3 g)) ∧ (¬ ((g 0 17) ≤ v4) → ((¬ (v3 = 0) → (lp_mo_clashes_L65 n v1 v2 1 (v4 + 1) g K123 post)) ∧ (v3 = 0 → (vp_in v4 60 ∧ (wp_mo_isNear (g 14 (ix v4)) v1 6 g (fun r10 g9 => ((r10 = 0 → (lp_mo_clashes_L65 n v1 v2 0 (v4 + 1) g9 K123 post)) ∧ (¬ (r10 = 0) → (vp_in v4 60 ∧ (wp_mo_isNear (g9 15 (ix v4)) v2 2 g9 (fun r12 g11 => ((r12 = 0 → (lp_mo_clashes_L65 n v1 v2 0 (v4 + 1) g11 K123 post)) ∧ (¬ (r12 = 0) → (lp_mo_clashes_L65 n v1 v2 1 (v4 + 1) g11 K123 post)))))))))))))))
def wp_mo_clashes (x1 : Int32) (x2 : Int32) (g : St) (post : Int32 → St → Prop) : Prop :=
  (∃ k5, lp_mo_clashes_L5 k5 x1 x2 0 0 g (fun w6 w7 w8 g5 => (∃ k65, lp_mo_clashes_L65 k65 w6 w7 w8 0 g5 (fun w14 g13 => (narrow .boolean (.int w14) = .int w14 ∧ post w14 g13)) post)) post)
def lp_mo_labelContour_L5 : Nat → Int32 → Int32 → Int32 → Int32 → St → (St → Prop) → (St → Prop) → Prop
  | 0, _, _, _, _, _, _, _ => False
  | n + 1, v1, v2, v3, v4, g, K114, post => (vp_in v2 130 ∧ (((g 10 (ix v2)) ≤ v4 → (K114 g)) ∧ (¬ ((g 10 (ix v2)) ≤ v4) → ((¬ (v3 = 0) → (K114 g)) ∧ (v3 = 0 → (vp_in v2 130 ∧ (vp_in ((g 9 (ix v2)) + v4) 260 ∧ (wp_mo_placeOf v1 (g 12 (ix ((g 9 (ix v2)) + v4))) g (fun r2 g1 => (wp_mo_clashes (r2 / 64) (r2 - r2 / 64 * 64) g1 (fun r4 g3 => ((¬ (r4 = 0) → (lp_mo_labelContour_L5 n v1 v2 v3 (v4 + 1) g3 K114 post)) ∧ (r4 = 0 → (vp_in (g3 0 17) 60 ∧ ∀ g5 : St, g5 = gp g3 13 (ix (g3 0 17)) v1 → (vp_in (g5 0 17) 60 ∧ ∀ g6 : St, g6 = gp g5 14 (ix (g5 0 17)) (r2 / 64) → (vp_in (g6 0 17) 60 ∧ ∀ g7 : St, g7 = gp g6 15 (ix (g6 0 17)) (r2 - r2 / 64 * 64) → (∀ g8 : St, g8 = gp g7 0 17 ((g7 0 17) + 1) → (lp_mo_labelContour_L5 n v1 v2 1 (v4 + 1) g8 K114 post))))))))))))))))))
def wp_mo_labelContour (x1 : Int32) (x2 : Int32) (g : St) (post : St → Prop) : Prop :=
  (∃ k5, lp_mo_labelContour_L5 k5 x1 x2 0 0 g (fun g9 => (post g9)) post)
def lp_mo_label_L37 : Nat → Int32 → Int32 → Int32 → St → (Int32 → St → Prop) → (Int32 → St → Prop) → Prop
  | 0, _, _, _, _, _, _ => False
  | n + 1, v1, v2, v3, g, K57, post => (((g 0 11) ≤ v3 → (K57 v2 g)) ∧ (¬ ((g 0 11) ≤ v3) → (wp_mo_labelContour v1 v3 g (fun g5 => (lp_mo_label_L37 n v1 v2 (v3 + 1) g5 K57 post)))))
def jn_mo_label_J79 (v2 : Int32) (v3 : Int32) (s1 : Int32) (g : St) (post : Int32 → St → Prop) : Prop :=
  (∀ g8 : St, g8 = gp g 0 0 s1 → ((¬ ((g8 0 0) = 0) → (∀ g9 : St, g9 = gp g8 0 17 v2 → ((¬ ((g9 0 0) = 0) → (post 0 g9)) ∧ ((g9 0 0) = 0 → (post v3 g9))))) ∧ ((g8 0 0) = 0 → (∀ g10 : St, g10 = gp g8 0 17 (g8 0 17) → ((¬ ((g10 0 0) = 0) → (post 0 g10)) ∧ ((g10 0 0) = 0 → (post v3 g10)))))))
def jn_mo_label_J13 (v1 : Int32) (s1 : Int32) (g : St) (post : Int32 → St → Prop) : Prop :=
  (∀ g3 : St, g3 = gp g 0 0 s1 → (((g3 0 0) = 0 → (wp_mo_findContours v1 g3 (fun g4 => (∃ k37, lp_mo_label_L37 k37 v1 (g4 0 17) 0 g4 (fun w7 g6 => (((g6 0 17) ≤ 20 → (jn_mo_label_J79 w7 ((g6 0 17) - w7) 0 g6 post)) ∧ (¬ ((g6 0 17) ≤ 20) → (jn_mo_label_J79 w7 ((g6 0 17) - w7) 2 g6 post)))) post)))) ∧ (¬ ((g3 0 0) = 0) → (post 0 g3))))
def wp_mo_label (x1 : Int32) (g : St) (post : Int32 → St → Prop) : Prop :=
  (wp_mo_isLevel x1 g (fun r2 g1 => ((r2 = 0 → (jn_mo_label_J13 x1 1 g1 post)) ∧ (¬ (r2 = 0) → (jn_mo_label_J13 x1 0 g1 post)))))
def wp_mo_labels (g : St) (post : Int32 → St → Prop) : Prop :=
  (∀ g1 : St, g1 = gp g 0 0 0 → (post (g1 0 17) g1))
def jn_mo_labelOf_J31 (v1 : Int32) (v2 : Int32) (s1 : Int32) (g : St) (post : Int32 → St → Prop) : Prop :=
  (∀ g1 : St, g1 = gp g 0 0 s1 → (((g1 0 0) = 0 → ((¬ (v2 = 0) → ((¬ (v2 = 1) → (vp_in v1 60 ∧ (post (g1 15 (ix v1)) g1))) ∧ (v2 = 1 → (vp_in v1 60 ∧ (post (g1 14 (ix v1)) g1))))) ∧ (v2 = 0 → (vp_in v1 60 ∧ (post (g1 13 (ix v1)) g1))))) ∧ (¬ ((g1 0 0) = 0) → (post 0 g1))))
def jn_mo_labelOf_J13 (v1 : Int32) (v2 : Int32) (g : St) (post : Int32 → St → Prop) : Prop :=
  (jn_mo_labelOf_J31 v1 v2 1 g post)
def jn_mo_labelOf_J26 (v1 : Int32) (v2 : Int32) (g : St) (post : Int32 → St → Prop) : Prop :=
  (jn_mo_labelOf_J31 v1 v2 2 g post)
def wp_mo_labelOf (x1 : Int32) (x2 : Int32) (g : St) (post : Int32 → St → Prop) : Prop :=
  ((x1 < 0 → (jn_mo_labelOf_J13 x1 x2 g post)) ∧ (¬ (x1 < 0) → ((x1 < (g 0 17) → ((x2 < 0 → (jn_mo_labelOf_J26 x1 x2 g post)) ∧ (¬ (x2 < 0) → ((x2 ≤ 2 → (jn_mo_labelOf_J31 x1 x2 0 g post)) ∧ (¬ (x2 ≤ 2) → (jn_mo_labelOf_J26 x1 x2 g post)))))) ∧ (¬ (x1 < (g 0 17)) → (jn_mo_labelOf_J13 x1 x2 g post)))))
def wp_mo_wipe (g : St) (post : Int32 → St → Prop) : Prop :=
  (∀ g1 : St, g1 = gp g 0 0 0 → (∀ g2 : St, g2 = gp g1 0 17 0 → (post (g1 0 17) g2)))
end
section
/-! What the methods of Spots, and the reference's sisters, answer: in whole numbers. -/
theorem ix_nI {a : Nat} (h : a < 2147483648) : ix (nI a) = a := nI_clamp (by omega)
theorem nb_0 : narrow .boolean (.int 0) = .int 0 := by decide
theorem nb_1 : narrow .boolean (.int 1) = .int 1 := by decide
theorem vn_0 : vp_nar .boolean 0 = 0 := by decide
theorem vn_1 : vp_nar .boolean 1 = 1 := by decide
theorem iI_0 : iI 0 = 0 := rfl
theorem iI_1 : iI 1 = 1 := rfl
theorem iI_m1 : iI (-1) = -1 := rfl
theorem jI_0 : jI 0 = 0 := rfl
theorem jI_1 : jI 1 = 1 := rfl
/-- the spots of the class -/
def sC (g : St) (n : Nat) (X Y Z : Nat → Int) : Prop := ge_ok X Y n ∧ (∀ v, v < n → 0 ≤ Z v ∧ Z v ≤ 999) ∧ g 1 3 = nI n ∧ ∀ v, v < n → g 5 v = iI (X v) ∧ g 6 v = iI (Y v) ∧ g 7 v = iI (Z v)
/-- the spots of the reference -/
def sM (g : St) (n : Nat) (X Y Z : Nat → Int) : Prop := ge_ok X Y n ∧ (∀ v, v < n → 0 ≤ Z v ∧ Z v ≤ 999) ∧ g 0 1 = nI n ∧ ∀ v, v < n → g 1 v = iI (X v) ∧ g 2 v = iI (Y v) ∧ g 3 v = iI (Z v)
section
variable {g : St} {n : Nat} {X Y Z : Nat → Int}
theorem sC.v16 (h : sC g n X Y Z) {a : Nat} (ha : a < n) : vp_in (nI a) 16 := vp_in_nI (by have := h.1.1; omega) (by omega)
theorem sC.ix (h : sC g n X Y Z) {a : Nat} (ha : a < n) : ix (nI a) = a := ix_nI (by have := h.1.1; omega)
theorem sM.v16 (h : sM g n X Y Z) {a : Nat} (ha : a < n) : vp_in (nI a) 16 := vp_in_nI (by have := h.1.1; omega) (by omega)
theorem sM.ix (h : sM g n X Y Z) {a : Nat} (ha : a < n) : ix (nI a) = a := ix_nI (by have := h.1.1; omega)
/-- twice the area to a place -/
def ge_p (X Y : Nat → Int) (a b : Nat) (x y : Int) : Int := (X b - X a) * (y - Y a) - (Y b - Y a) * (x - X a)
theorem ge_p_t (X Y : Nat → Int) (a b c : Nat) : ge_p X Y a b (X c) (Y c) = ge_t X Y a b c := rfl
theorem sp_turnTo {a b : Nat} {x y : Int} {post : Int32 → St → Prop} (hS : sC g n X Y Z) (ha : a < n) (hb : b < n) (h : post (iI (ge_p X Y a b x y)) g) : wp_sp_turnTo (nI a) (nI b) (iI x) (iI y) g post := by
  obtain ⟨a1, a2, -⟩ := hS.2.2.2 a ha
  obtain ⟨b1, b2, -⟩ := hS.2.2.2 b hb
  have va := hS.v16 ha
  have vb := hS.v16 hb
  unfold wp_sp_turnTo
  simp only [hS.ix ha, hS.ix hb, a1, a2, b1, b2, iI_sub, iI_mul]
  exact ⟨vb, va, va, vb, va, va, h⟩
theorem sp_turn {a b c : Nat} {post : Int32 → St → Prop} (hS : sC g n X Y Z) (ha : a < n) (hb : b < n) (hc : c < n) (h : post (iI (ge_t X Y a b c)) g) : wp_sp_turn (nI a) (nI b) (nI c) g post := by
  obtain ⟨c1, c2, -⟩ := hS.2.2.2 c hc
  unfold wp_sp_turn
  simp only [hS.ix hc, c1, c2]
  exact ⟨hS.v16 hc, hS.v16 hc, sp_turnTo hS ha hb h⟩
theorem ge_tb {X Y : Nat → Int} {n : Nat} (h : ge_ok X Y n) {a b c : Nat} (ha : a < n) (hb : b < n) (hc : c < n) : -2147483648 ≤ ge_t X Y a b c ∧ ge_t X Y a b c < 2147483648 := by
  have := ge_t_b h ha hb hc
  omega
theorem mo_turn {a b c : Nat} {post : Int32 → St → Prop} (hS : sM g n X Y Z) (ha : a < n) (hb : b < n) (hc : c < n) (h : post (iI (ge_t X Y a b c)) g) : wp_mo_turn (nI a) (nI b) (nI c) g post := by
  obtain ⟨a1, a2, -⟩ := hS.2.2.2 a ha
  obtain ⟨b1, b2, -⟩ := hS.2.2.2 b hb
  obtain ⟨c1, c2, -⟩ := hS.2.2.2 c hc
  have va := hS.v16 ha
  have vb := hS.v16 hb
  have vc := hS.v16 hc
  unfold wp_mo_turn
  simp only [hS.ix ha, hS.ix hb, hS.ix hc, a1, a2, b1, b2, c1, c2, iI_sub, iI_mul]
  exact ⟨vb, va, vc, va, vb, va, vc, va, h⟩
/-- a difference of two places of the map as a long -/
theorem iI_dl {x y : Int} (h1 : 0 ≤ x) (h2 : x ≤ 63) (h3 : 0 ≤ y) (h4 : y ≤ 63) : (iI (x - y)).toInt64 = jI (x - y) := iI_long (by omega) (by omega)
theorem sp_square {d s : Nat} {post : Int64 → St → Prop} (hS : sC g n X Y Z) (hd : d < n) (hs : s < n) (h : post (jI (ge_q X Y s d)) g) : wp_sp_squareFrom (nI d) (nI s) g post := by
  obtain ⟨a1, a2, -⟩ := hS.2.2.2 d hd
  obtain ⟨b1, b2, -⟩ := hS.2.2.2 s hs
  obtain ⟨d1, d2, d3, d4⟩ := hS.1.2.1 d hd
  obtain ⟨s1, s2, s3, s4⟩ := hS.1.2.1 s hs
  unfold wp_sp_squareFrom
  simp only [hS.ix hd, hS.ix hs, a1, a2, b1, b2, iI_sub]
  rw [iI_dl s1 s2 d1 d2, iI_dl s3 s4 d3 d4]
  simp only [jI_mul, jI_add]
  exact ⟨hS.v16 hs, hS.v16 hd, hS.v16 hs, hS.v16 hd, h⟩
theorem mo_square {a b : Nat} {post : Int64 → St → Prop} (hS : sM g n X Y Z) (ha : a < n) (hb : b < n) (h : post (jI (ge_q X Y a b)) g) : wp_mo_square (nI a) (nI b) g post := by
  obtain ⟨a1, a2, -⟩ := hS.2.2.2 a ha
  obtain ⟨b1, b2, -⟩ := hS.2.2.2 b hb
  obtain ⟨d1, d2, d3, d4⟩ := hS.1.2.1 a ha
  obtain ⟨s1, s2, s3, s4⟩ := hS.1.2.1 b hb
  have va := hS.v16 ha
  have vb := hS.v16 hb
  unfold wp_mo_square
  simp only [hS.ix ha, hS.ix hb, a1, a2, b1, b2, iI_sub]
  rw [iI_dl d1 d2 s1 s2, iI_dl d3 d4 s3 s4]
  simp only [jI_mul, jI_add]
  exact ⟨va, vb, va, vb, va, vb, va, vb, h⟩
theorem ge_qb {X Y : Nat → Int} {n : Nat} (h : ge_ok X Y n) {a b : Nat} (ha : a < n) (hb : b < n) : 0 ≤ ge_q X Y a b ∧ ge_q X Y a b ≤ 7938 := by
  obtain ⟨a1, a2, a3, a4⟩ := h.2.1 a ha
  obtain ⟨b1, b2, b3, b4⟩ := h.2.1 b hb
  have p := ge_mb (x := X a - X b) (y := X a - X b) (by omega) (by omega) (by omega) (by omega)
  have q := ge_mb (x := Y a - Y b) (y := Y a - Y b) (by omega) (by omega) (by omega) (by omega)
  have r : 0 ≤ (X a - X b) * (X a - X b) := by rcases Int.le_total 0 (X a - X b) with h | h; exact Int.mul_nonneg h h; exact Int.mul_nonneg_of_nonpos_of_nonpos h h
  have s : 0 ≤ (Y a - Y b) * (Y a - Y b) := by rcases Int.le_total 0 (Y a - Y b) with h | h; exact Int.mul_nonneg h h; exact Int.mul_nonneg_of_nonpos_of_nonpos h h
  unfold ge_q
  omega
theorem ge_qt {q t : Int} (h1 : 0 ≤ q) (h2 : q ≤ 7938) (h3 : -7938 ≤ t) (h4 : t ≤ 7938) : -63011844 ≤ q * t ∧ q * t ≤ 63011844 := by
  have a := Int.mul_nonneg (a := q) (b := 7938 - t) (by omega) (by omega)
  have b := Int.mul_nonneg (a := q) (b := 7938 + t) (by omega) (by omega)
  simp only [Int.mul_sub, Int.mul_add] at a b
  omega
theorem ge_ib {X Y : Nat → Int} {n : Nat} (h : ge_ok X Y n) {a b c d : Nat} (ha : a < n) (hb : b < n) (hc : c < n) (hd : d < n) : -189035532 ≤ ge_i X Y a b c d ∧ ge_i X Y a b c d ≤ 189035532 := by
  have q1 := ge_qb h ha hd
  have q2 := ge_qb h hb hd
  have q3 := ge_qb h hc hd
  have t1 := ge_t_b h hd hb hc
  have t2 := ge_t_b h hd ha hc
  have t3 := ge_t_b h hd ha hb
  have p1 := ge_qt q1.1 q1.2 t1.1 t1.2
  have p2 := ge_qt q2.1 q2.2 t2.1 t2.2
  have p3 := ge_qt q3.1 q3.2 t3.1 t3.2
  unfold ge_i
  omega
theorem sp_depth {a b c d : Nat} {post : Int64 → St → Prop} (hS : sC g n X Y Z) (ha : a < n) (hb : b < n) (hc : c < n) (hd : d < n) (h : post (jI (ge_dep X Y a b c d)) g) : wp_sp_depthInCircle (nI a) (nI b) (nI c) (nI d) g post := by
  have b1 := ge_tb hS.1 hd hb hc
  have b2 := ge_tb hS.1 hd ha hc
  have b3 := ge_tb hS.1 hd ha hb
  have b4 := ge_tb hS.1 ha hb hc
  unfold wp_sp_depthInCircle
  refine sp_square hS hd ha (sp_turn hS hd hb hc (sp_square hS hd hb (sp_turn hS hd ha hc (sp_square hS hd hc (sp_turn hS hd ha hb (sp_turn hS ha hb hc ?_))))))
  rw [iI_long b1.1 b1.2, iI_long b2.1 b2.2, iI_long b3.1 b3.2]
  simp only [jI_mul, jI_sub, jI_add, jI_neg]
  have e : ge_q X Y a d * ge_t X Y d b c - ge_q X Y b d * ge_t X Y d a c + ge_q X Y c d * ge_t X Y d a b = ge_i X Y a b c d := rfl
  rw [e]
  have z : (iI (ge_t X Y a b c) ≤ 0) ↔ ¬ 0 < ge_t X Y a b c := by
    rw [← iI_0, iI_le b4.1 b4.2 (by omega) (by omega)]; omega
  unfold ge_dep at h
  constructor
  · intro k; rw [if_neg (z.mp k)] at h; exact h
  · intro k; rw [if_pos (Classical.not_not.mp (fun q => k (z.mpr q)))] at h; exact h
theorem mo_inside {a b c d : Nat} {post : Int64 → St → Prop} (hS : sM g n X Y Z) (ha : a < n) (hb : b < n) (hc : c < n) (hd : d < n) (h : post (jI (ge_dep X Y a b c d)) g) : wp_mo_inside (nI a) (nI b) (nI c) (nI d) g post := by
  have b1 := ge_tb hS.1 hd hb hc
  have b2 := ge_tb hS.1 hd hc ha
  have b3 := ge_tb hS.1 hd ha hb
  have b4 := ge_tb hS.1 ha hb hc
  unfold wp_mo_inside
  refine mo_square hS ha hd (mo_turn hS hd hb hc (mo_square hS hb hd (mo_turn hS hd hc ha (mo_square hS hc hd (mo_turn hS hd ha hb (mo_turn hS ha hb hc ?_))))))
  rw [iI_long b1.1 b1.2, iI_long b2.1 b2.2, iI_long b3.1 b3.2]
  simp only [jI_mul, jI_add, jI_neg]
  have e : ge_q X Y a d * ge_t X Y d b c + ge_q X Y b d * ge_t X Y d c a + ge_q X Y c d * ge_t X Y d a b = ge_i X Y a b c d := by
    unfold ge_i; rw [ge_t_sw X Y d a c]; grind
  rw [e]
  have z : (iI (ge_t X Y a b c) ≤ 0) ↔ ¬ 0 < ge_t X Y a b c := by
    rw [← iI_0, iI_le b4.1 b4.2 (by omega) (by omega)]; omega
  unfold ge_dep at h
  constructor
  · intro k; rw [if_neg (z.mp k)] at h; exact h
  · intro k; rw [if_pos (Classical.not_not.mp (fun q => k (z.mpr q)))] at h; exact h
theorem ge_depb {X Y : Nat → Int} {n : Nat} (h : ge_ok X Y n) {a b c d : Nat} (ha : a < n) (hb : b < n) (hc : c < n) (hd : d < n) : -9223372036854775808 ≤ ge_dep X Y a b c d ∧ ge_dep X Y a b c d < 9223372036854775808 := by
  have := ge_ib h ha hb hc hd
  unfold ge_dep
  split <;> omega
/-- the sign of three -/
theorem jI_cmp0 {z : Int} (h1 : -9223372036854775808 ≤ z) (h2 : z < 9223372036854775808) : lg_cmp (jI z) 0 = if 0 < z then 1 else if z = 0 then 0 else (-1) := by
  rw [← jI_0]; exact jI_cmp h1 h2 (by omega) (by omega)
theorem sp_opposite {a d b c : Nat} {post : Int32 → St → Prop} (hS : sC g n X Y Z) (ha : a < n) (hd : d < n) (hb : b < n) (hc : c < n)
    (h0 : ((0 < ge_t X Y a d b) ↔ (0 < ge_t X Y a d c)) → post 0 g) (h1 : ¬ ((0 < ge_t X Y a d b) ↔ (0 < ge_t X Y a d c)) → post 1 g) : wp_sp_areOpposite (nI a) (nI d) (nI b) (nI c) g post := by
  have b1 := ge_tb hS.1 ha hd hb
  have b2 := ge_tb hS.1 ha hd hc
  have z1 : (iI (ge_t X Y a d b) ≤ 0) ↔ ¬ 0 < ge_t X Y a d b := by rw [← iI_0, iI_le b1.1 b1.2 (by omega) (by omega)]; omega
  have z2 : (iI (ge_t X Y a d c) ≤ 0) ↔ ¬ 0 < ge_t X Y a d c := by rw [← iI_0, iI_le b2.1 b2.2 (by omega) (by omega)]; omega
  unfold wp_sp_areOpposite
  refine sp_turn hS ha hd hb ⟨fun k => ?_, fun k => ?_⟩ <;> (unfold jn_sp_areOpposite_J15; refine sp_turn hS ha hd hc ⟨fun k2 => ⟨fun q => ?_, fun q => ?_⟩, fun k2 => ⟨fun q => ?_, fun q => ?_⟩⟩)
  · exact h0 ⟨fun u => absurd u (z1.mp k), fun u => absurd u (z2.mp k2)⟩
  · exact absurd rfl q
  · exact absurd q (by decide)
  · exact h1 (fun u => z1.mp k (u.mpr (Classical.not_not.mp (fun q => k2 (z2.mpr q)))))
  · exact absurd q (by decide)
  · exact h1 (fun u => z2.mp k2 (u.mp (Classical.not_not.mp (fun q => k (z1.mpr q)))))
  · exact h0 ⟨fun _ => Classical.not_not.mp (fun q => k2 (z2.mpr q)), fun _ => Classical.not_not.mp (fun q => k (z1.mpr q))⟩
  · exact absurd rfl q
theorem mo_parts {d a b c : Nat} {post : Int32 → St → Prop} (hS : sM g n X Y Z) (hd : d < n) (ha : a < n) (hb : b < n) (hc : c < n)
    (h0 : ((0 < ge_t X Y d a b) ↔ (0 < ge_t X Y d a c)) → post 0 g) (h1 : ¬ ((0 < ge_t X Y d a b) ↔ (0 < ge_t X Y d a c)) → post 1 g) : wp_mo_parts (nI d) (nI a) (nI b) (nI c) g post := by
  have b1 := ge_tb hS.1 hd ha hb
  have b2 := ge_tb hS.1 hd ha hc
  have z1 : (iI (ge_t X Y d a b) ≤ 0) ↔ ¬ 0 < ge_t X Y d a b := by rw [← iI_0, iI_le b1.1 b1.2 (by omega) (by omega)]; omega
  have z2 : (iI (ge_t X Y d a c) ≤ 0) ↔ ¬ 0 < ge_t X Y d a c := by rw [← iI_0, iI_le b2.1 b2.2 (by omega) (by omega)]; omega
  unfold wp_mo_parts
  refine mo_turn hS hd ha hb ⟨fun k => ?_, fun k => ?_⟩ <;> (unfold jn_mo_parts_J15; refine mo_turn hS hd ha hc ⟨fun k2 => ⟨fun q => ?_, fun q => ?_⟩, fun k2 => ⟨fun q => ?_, fun q => ?_⟩⟩)
  · exact h0 ⟨fun u => absurd u (z1.mp k), fun u => absurd u (z2.mp k2)⟩
  · exact absurd rfl q
  · exact absurd q (by decide)
  · exact h1 (fun u => z1.mp k (u.mpr (Classical.not_not.mp (fun q => k2 (z2.mpr q)))))
  · exact absurd q (by decide)
  · exact h1 (fun u => z2.mp k2 (u.mp (Classical.not_not.mp (fun q => k (z1.mpr q)))))
  · exact h0 ⟨fun _ => Classical.not_not.mp (fun q => k2 (z2.mpr q)), fun _ => Classical.not_not.mp (fun q => k (z1.mpr q))⟩
  · exact absurd rfl q
/-- d is in the circle through a < b < c: the class -/
theorem sp_in {a b c d : Nat} {post : Int32 → St → Prop} (hS : sC g n X Y Z) (ha : a < n) (hb : b < n) (hc : c < n) (hd : d < n) (h0 : ¬ ge_In X Y a b c d → post 0 g) (h1 : ge_In X Y a b c d → post 1 g) : wp_sp_isInCircle (nI a) (nI b) (nI c) (nI d) g post := by
  have b1 := ge_depb hS.1 ha hb hc hd
  have n16 := hS.1.1
  unfold wp_sp_isInCircle
  refine sp_depth hS ha hb hc hd ?_
  rw [jI_cmp0 b1.1 b1.2]
  unfold ge_In at h0 h1
  by_cases p : 0 < ge_dep X Y a b c d
  · rw [if_pos p]
    exact ⟨fun q => absurd q (by decide), fun _ => ⟨fun q => absurd q (by decide), fun _ => h1 (Or.inl p)⟩⟩
  · rw [if_neg p]
    by_cases z : ge_dep X Y a b c d = 0
    · rw [if_pos z]
      refine ⟨fun _ => ⟨fun q => ?_, fun q => ?_⟩, fun q => absurd rfl q⟩
      · have : d ≤ a := (nI_leI (by omega) (by omega)).mp q
        exact h0 (fun u => by rcases u with u | u; exact p u; omega)
      · have da : ¬ d ≤ a := fun u => q ((nI_leI (by omega) (by omega)).mpr u)
        refine sp_opposite hS ha hd hb hc (fun u => ?_) (fun u => ?_)
        · exact ⟨fun q => absurd rfl q, fun _ => h1 (Or.inr ⟨z, by omega, u⟩)⟩
        · exact ⟨fun _ => h0 (fun w => by rcases w with w | w; exact p w; exact u w.2.2), fun q => absurd q (by decide)⟩
    · rw [if_neg z]
      exact ⟨fun q => absurd q (by decide), fun _ => ⟨fun _ => h0 (fun u => by rcases u with u | u; exact p u; exact z u.1), fun q => absurd (by decide) q⟩⟩
/-- .. and the reference -/
theorem mo_in {a b c d : Nat} {post : Int32 → St → Prop} (hS : sM g n X Y Z) (hab : a < b) (hbc : b < c) (hc : c < n) (hd : d < n) (nda : d ≠ a) (ndb : d ≠ b) (ndc : d ≠ c) (ht : ge_t X Y a b c ≠ 0) (h0 : ¬ ge_In X Y a b c d → post 0 g) (h1 : ge_In X Y a b c d → post 1 g) : wp_mo_isIn (nI a) (nI b) (nI c) (nI d) g post := by
  have ha : a < n := by omega
  have hb : b < n := by omega
  have b1 := ge_depb hS.1 ha hb hc hd
  have n16 := hS.1.1
  have le : ∀ {u v : Nat}, u < n → v < n → (nI u ≤ nI v ↔ u ≤ v) := fun hu hv => nI_leI (by omega) (by omega)
  have eq : ∀ {u v : Nat}, u < n → v < n → (nI u = nI v ↔ u = v) := fun hu hv => nI_eq (by omega) (by omega)
  unfold wp_mo_isIn
  refine mo_inside hS ha hb hc hd ?_
  rw [jI_cmp0 b1.1 b1.2]
  by_cases p : 0 < ge_dep X Y a b c d
  · rw [if_pos p]
    exact ⟨fun q => absurd q (by decide), fun _ => ⟨fun q => absurd q (by decide), fun _ => h1 (Or.inl p)⟩⟩
  · rw [if_neg p]
    by_cases z : ge_dep X Y a b c d = 0
    · rw [if_pos z]
      have zi : ge_i X Y a b c d = 0 := by
        unfold ge_dep at z
        split at z
        · exact z
        · omega
      obtain ⟨c1, c2, c3, -⟩ := ge_circ hS.1 ha hb hc hd (by omega) (by omega) (by omega) (by omega) (by omega) (by omega) ht zi
      have f1 : ge_t X Y d a b = ge_t X Y a b d := (ge_t_rot X Y d a b).symm
      have f2 : ge_t X Y d a c = ge_t X Y a c d := (ge_t_rot X Y d a c).symm
      have f3 : ge_t X Y a d b = -ge_t X Y a b d := ge_t_sw X Y a b d
      have f4 : ge_t X Y a d c = -ge_t X Y a c d := ge_t_sw X Y a c d
      have same : ((0 < ge_t X Y d a b) ↔ (0 < ge_t X Y d a c)) ↔ ((0 < ge_t X Y a d b) ↔ (0 < ge_t X Y a d c)) := by
        rw [f1, f2, f3, f4]
        by_cases x : 0 < ge_t X Y a b d <;> by_cases y : 0 < ge_t X Y a c d
        · exact ⟨fun _ => ⟨fun u => by omega, fun u => by omega⟩, fun _ => ⟨fun _ => y, fun _ => x⟩⟩
        · exact ⟨fun u => absurd (u.mp x) y, fun u => by have : 0 < -ge_t X Y a b d := u.mpr (by omega); omega⟩
        · exact ⟨fun u => absurd (u.mpr y) x, fun u => by have : 0 < -ge_t X Y a c d := u.mp (by omega); omega⟩
        · exact ⟨fun _ => ⟨fun _ => by omega, fun _ => by omega⟩, fun _ => ⟨fun u => absurd u x, fun u => absurd u y⟩⟩
      -- behind the opposite one o
      have tail : ∀ o : Nat, o < n → (a < d → (o = a ↔ ¬ ((0 < ge_t X Y a d b) ↔ (0 < ge_t X Y a d c)))) → jn_mo_isIn_J64 (nI a) (nI b) (nI c) (nI d) (nI o) g post := by
        intro o ho io
        unfold jn_mo_isIn_J64
        refine ⟨fun q => absurd ((le hb ha).mp q) (by omega), fun _ => ?_⟩
        unfold jn_mo_isIn_J76
        refine ⟨fun _ => ?_, fun q => absurd ((le ha hc).mpr (by omega)) q⟩
        unfold jn_mo_isIn_J90
        refine ⟨fun q => ?_, fun q => ?_⟩
        · have ad : a < d := by have := (le ha hd).mp q; omega
          unfold jn_mo_isIn_J106
          refine ⟨fun k => absurd ((eq ha hd).mp k) (by omega), fun _ => ⟨fun k => ?_, fun k => ?_⟩⟩
          · have e := (eq ha ho).mp k
            exact h0 (fun u => by rcases u with u | u; exact p u; exact (io ad).mp e.symm u.2.2)
          · have e : ¬ o = a := fun e => k (by rw [e])
            exact h1 (Or.inr ⟨z, ad, Classical.not_not.mp (fun u => e ((io ad).mpr u))⟩)
        · have da : ¬ a ≤ d := fun u => q ((le ha hd).mpr u)
          unfold jn_mo_isIn_J106
          refine ⟨fun _ => h0 (fun u => by rcases u with u | u; exact p u; omega), fun k => absurd rfl k⟩
      refine ⟨fun _ => ?_, fun q => absurd rfl q⟩
      refine mo_parts hS hd ha hb hc (fun u => ?_) (fun u => ?_)
      · refine ⟨fun _ => ?_, fun q => absurd rfl q⟩
        refine mo_parts hS hd hb ha hc (fun v => ?_) (fun v => ?_)
        · exact ⟨fun _ => tail c hc (fun _ => ⟨fun e => by omega, fun e => absurd (same.mp u) e⟩), fun q => absurd rfl q⟩
        · exact ⟨fun q => absurd q (by decide), fun _ => tail b hb (fun _ => ⟨fun e => by omega, fun e => absurd (same.mp u) e⟩)⟩
      · exact ⟨fun q => absurd q (by decide), fun _ => tail a ha (fun _ => ⟨fun _ e => u (same.mpr e), fun _ => rfl⟩)⟩
    · rw [if_neg z]
      exact ⟨fun q => absurd q (by decide), fun _ => ⟨fun _ => h0 (fun u => by rcases u with u | u; exact p u; exact z u.1), fun q => absurd (by decide) q⟩⟩
end
end
section
/-! The triangles, found one by one: class and reference hold the same list. -/
section
variable {g : St} {n : Nat} {X Y Z : Nat → Int}
theorem me_isTri {a b c : Nat} {post : Int32 → St → Prop} (hS : sC g n X Y Z) (hab : a < b) (hbc : b < c) (hc : c < n) (h0 : ¬ ge_tri X Y n a b c → post 0 g) (h1 : ge_tri X Y n a b c → post 1 g) : wp_me_isTriangle (nI a) (nI b) (nI c) g post := by
  have ha : a < n := by omega
  have hb : b < n := by omega
  have n16 := hS.1.1
  have le : ∀ {u v : Nat}, u ≤ 16 → v ≤ 16 → (nI u ≤ nI v ↔ u ≤ v) := fun hu hv => nI_leI (by omega) (by omega)
  have eq : ∀ {u v : Nat}, u ≤ 16 → v ≤ 16 → (nI u = nI v ↔ u = v) := fun hu hv => nI_eq (by omega) (by omega)
  have bt := ge_tb hS.1 ha hb hc
  have z : iI (ge_t X Y a b c) = 0 ↔ ge_t X Y a b c = 0 := by rw [← iI_0]; exact iI_eq bt.1 bt.2 (by omega) (by omega)
  unfold wp_me_isTriangle
  refine sp_turn hS ha hb hc ⟨fun q => ?_, fun q => ?_⟩
  · have ht : ge_t X Y a b c ≠ 0 := fun e => q (z.mpr e)
    have loop : ∀ m i, i + m = n → (∀ d, d < i → d ≠ a → d ≠ b → d ≠ c → ¬ ge_In X Y a b c d) → lp_me_isTriangle_L15 (m + 1) (nI a) (nI b) (nI c) (nI i) g (fun g7 => (post 1 g7)) post := by
      intro m
      induction m with
      | zero =>
        intro i hi hd
        unfold lp_me_isTriangle_L15 wp_sp_size
        rw [hS.2.2.1]
        refine ⟨fun _ => h1 ⟨hab, hbc, hc, ht, fun d hd' => hd d (by omega)⟩, fun q => absurd ((le (by omega) (by omega)).mpr (by omega)) q⟩
      | succ m ih =>
        intro i hi hd
        have skip : (i = a ∨ i = b ∨ i = c ∨ ¬ ge_In X Y a b c i) → lp_me_isTriangle_L15 (m + 1) (nI a) (nI b) (nI c) (nI i + 1) g (fun g7 => (post 1 g7)) post := fun u => by
          rw [nI_1]
          refine ih (i + 1) (by omega) (fun d hd' d1 d2 d3 => ?_)
          rcases Nat.lt_or_ge d i with l | l
          · exact hd d l d1 d2 d3
          · have : d = i := by omega
            subst this
            rcases u with u | u | u | u
            · exact absurd u d1
            · exact absurd u d2
            · exact absurd u d3
            · exact u
        unfold lp_me_isTriangle_L15 wp_sp_size
        rw [hS.2.2.1]
        refine ⟨fun q => absurd ((le (by omega) (by omega)).mp q) (by omega), fun _ => ⟨fun e => skip (Or.inl ((eq (by omega) (by omega)).mp e)), fun e1 => ⟨fun e => skip (Or.inr (Or.inl ((eq (by omega) (by omega)).mp e))), fun e2 => ⟨fun e => skip (Or.inr (Or.inr (Or.inl ((eq (by omega) (by omega)).mp e)))), fun e3 => ?_⟩⟩⟩⟩
        have d1 : i ≠ a := fun e => e1 (by rw [e])
        have d2 : i ≠ b := fun e => e2 (by rw [e])
        have d3 : i ≠ c := fun e => e3 (by rw [e])
        refine sp_in hS ha hb hc (by omega) (fun u => ⟨fun _ => skip (Or.inr (Or.inr (Or.inr u))), fun k => absurd rfl k⟩) (fun u => ⟨fun k => absurd k (by decide), fun _ => h0 (fun t => t.2.2.2.2 i (by omega) d1 d2 d3 u)⟩)
    exact ⟨n + 1, loop n 0 (by omega) (fun d hd => absurd hd (by omega))⟩
  · exact h0 (fun t => t.2.2.2.1 (z.mp q))
theorem mo_isTri {a b c : Nat} {post : Int32 → St → Prop} (hS : sM g n X Y Z) (hab : a < b) (hbc : b < c) (hc : c < n) (h0 : ¬ ge_tri X Y n a b c → post 0 g) (h1 : ge_tri X Y n a b c → post 1 g) : wp_mo_isTriangle (nI a) (nI b) (nI c) g post := by
  have ha : a < n := by omega
  have hb : b < n := by omega
  have n16 := hS.1.1
  have le : ∀ {u v : Nat}, u ≤ 16 → v ≤ 16 → (nI u ≤ nI v ↔ u ≤ v) := fun hu hv => nI_leI (by omega) (by omega)
  have eq : ∀ {u v : Nat}, u ≤ 16 → v ≤ 16 → (nI u = nI v ↔ u = v) := fun hu hv => nI_eq (by omega) (by omega)
  have bt := ge_tb hS.1 ha hb hc
  have z : iI (ge_t X Y a b c) = 0 ↔ ge_t X Y a b c = 0 := by rw [← iI_0]; exact iI_eq bt.1 bt.2 (by omega) (by omega)
  unfold wp_mo_isTriangle
  refine mo_turn hS ha hb hc ⟨fun q => ?_, fun q => ?_⟩
  · have ht : ge_t X Y a b c ≠ 0 := fun e => q (z.mpr e)
    have bad : ∀ m i, (∃ d, d < n ∧ d ≠ a ∧ d ≠ b ∧ d ≠ c ∧ ge_In X Y a b c d) → i ≤ n → lp_mo_isTriangle_L18 (m + 1) (nI a) (nI b) (nI c) 0 (nI i) g (fun w6 g5 => (narrow .boolean (.int w6) = .int w6 ∧ post w6 g5)) post := by
      intro m i ⟨d, u1, u2, u3, u4, u5⟩ hi
      have hp : post 0 g := h0 (fun t => t.2.2.2.2 d u1 u2 u3 u4 u5)
      unfold lp_mo_isTriangle_L18
      exact ⟨fun _ => ⟨nb_0, hp⟩, fun _ => ⟨fun _ => ⟨nb_0, hp⟩, fun k => absurd rfl k⟩⟩
    have loop : ∀ m i, i + m = n → (∀ d, d < i → d ≠ a → d ≠ b → d ≠ c → ¬ ge_In X Y a b c d) → lp_mo_isTriangle_L18 (m + 1) (nI a) (nI b) (nI c) 1 (nI i) g (fun w6 g5 => (narrow .boolean (.int w6) = .int w6 ∧ post w6 g5)) post := by
      intro m
      induction m with
      | zero =>
        intro i hi hd
        unfold lp_mo_isTriangle_L18
        rw [hS.2.2.1]
        refine ⟨fun _ => ⟨nb_1, h1 ⟨hab, hbc, hc, ht, fun d hd' => hd d (by omega)⟩⟩, fun q => absurd ((le (by omega) (by omega)).mpr (by omega)) q⟩
      | succ m ih =>
        intro i hi hd
        have skip : (i = a ∨ i = b ∨ i = c ∨ ¬ ge_In X Y a b c i) → lp_mo_isTriangle_L18 (m + 1) (nI a) (nI b) (nI c) 1 (nI i + 1) g (fun w6 g5 => (narrow .boolean (.int w6) = .int w6 ∧ post w6 g5)) post := fun u => by
          rw [nI_1]
          refine ih (i + 1) (by omega) (fun d hd' d1 d2 d3 => ?_)
          rcases Nat.lt_or_ge d i with l | l
          · exact hd d l d1 d2 d3
          · have : d = i := by omega
            subst this
            rcases u with u | u | u | u
            · exact absurd u d1
            · exact absurd u d2
            · exact absurd u d3
            · exact u
        unfold lp_mo_isTriangle_L18
        rw [hS.2.2.1]
        refine ⟨fun q => absurd ((le (by omega) (by omega)).mp q) (by omega), fun _ => ⟨fun k => absurd k (by decide), fun _ => ⟨fun e => skip (Or.inl ((eq (by omega) (by omega)).mp e)), fun e1 => ⟨fun e => skip (Or.inr (Or.inl ((eq (by omega) (by omega)).mp e))), fun e2 => ⟨fun e => skip (Or.inr (Or.inr (Or.inl ((eq (by omega) (by omega)).mp e)))), fun e3 => ?_⟩⟩⟩⟩⟩
        have d1 : i ≠ a := fun e => e1 (by rw [e])
        have d2 : i ≠ b := fun e => e2 (by rw [e])
        have d3 : i ≠ c := fun e => e3 (by rw [e])
        refine mo_in hS hab hbc hc (by omega) d1 d2 d3 ht (fun u => ⟨fun k => absurd rfl k, fun _ => skip (Or.inr (Or.inr (Or.inr u)))⟩) (fun u => ⟨fun _ => ?_, fun k => absurd k (by decide)⟩)
        rw [nI_1]
        exact bad m (i + 1) ⟨i, by omega, d1, d2, d3, u⟩ (by omega)
    exact ⟨n + 1, loop n 0 (by omega) (fun d hd => absurd hd (by omega))⟩
  · exact h0 (fun t => t.2.2.2.1 (z.mp q))
end
/-! the list -/
noncomputable def tl (X Y : Nat → Int) (n k : Nat) : List Nat := (List.range k).filter (fun x => @decide (ge_tri X Y n (x / 256) (x / 16 % 16) (x % 16)) (Classical.propDecidable _))
theorem tl_mem {X Y : Nat → Int} {n k x : Nat} : x ∈ tl X Y n k ↔ x < k ∧ ge_tri X Y n (x / 256) (x / 16 % 16) (x % 16) := by
  unfold tl
  rw [List.mem_filter, List.mem_range, @decide_eq_true_iff _ (Classical.propDecidable _)]
theorem tl_s1 {X Y : Nat → Int} {n k : Nat} (h : ge_tri X Y n (k / 256) (k / 16 % 16) (k % 16)) : tl X Y n (k + 1) = tl X Y n k ++ [k] := by
  unfold tl
  rw [List.range_succ, List.filter_append]
  congr 1
  exact List.filter_cons_of_pos (by rw [@decide_eq_true_iff _ (Classical.propDecidable _)]; exact h)
theorem tl_s0 {X Y : Nat → Int} {n k : Nat} (h : ¬ ge_tri X Y n (k / 256) (k / 16 % 16) (k % 16)) : tl X Y n (k + 1) = tl X Y n k := by
  unfold tl
  rw [List.range_succ, List.filter_append]
  have : List.filter (fun x => @decide (ge_tri X Y n (x / 256) (x / 16 % 16) (x % 16)) (Classical.propDecidable _)) [k] = [] :=
    List.filter_cons_of_neg (by rw [@decide_eq_true_iff _ (Classical.propDecidable _)]; exact h)
  rw [this, List.append_nil]
theorem tl_sk {X Y : Nat → Int} {n k : Nat} : ∀ d, (∀ x, k ≤ x → x < k + d → ¬ ge_tri X Y n (x / 256) (x / 16 % 16) (x % 16)) → tl X Y n (k + d) = tl X Y n k := by
  intro d
  induction d with
  | zero => intro _; rfl
  | succ d ih =>
    intro h
    show tl X Y n ((k + d) + 1) = _
    rw [tl_s0 (h (k + d) (by omega) (by omega))]
    exact ih (fun x h1 h2 => h x h1 (by omega))
theorem tl_skip {X Y : Nat → Int} {n k k' : Nat} (hk : k ≤ k') (h : ∀ x, k ≤ x → x < k' → ¬ ge_tri X Y n (x / 256) (x / 16 % 16) (x % 16)) : tl X Y n k' = tl X Y n k := by
  obtain ⟨d, rfl⟩ : ∃ d, k' = k + d := ⟨k' - k, by omega⟩
  exact tl_sk d h
theorem tl_lt {X Y : Nat → Int} {n k : Nat} : (tl X Y n k).Pairwise (· < ·) := List.Pairwise.filter _ List.pairwise_lt_range
theorem tl_get {X Y : Nat → Int} {n k t : Nat} (h : t < (tl X Y n k).length) : (tl X Y n k).getD t 0 < k ∧ ge_tri X Y n ((tl X Y n k).getD t 0 / 256) ((tl X Y n k).getD t 0 / 16 % 16) ((tl X Y n k).getD t 0 % 16) := by
  rw [← tl_mem, ← List.getElem_eq_getD (h := h)]
  exact List.getElem_mem h
theorem tl_inc {X Y : Nat → Int} {n k s t : Nat} (hst : s < t) (h : t < (tl X Y n k).length) : (tl X Y n k).getD s 0 < (tl X Y n k).getD t 0 := by
  have := List.pairwise_iff_getElem.mp (tl_lt (X := X) (Y := Y) (n := n) (k := k)) s t (by omega) h hst
  rw [List.getElem_eq_getD (h := h) (fallback := 0), List.getElem_eq_getD (fallback := 0)] at this
  exact this
theorem tl_27 {X Y : Nat → Int} {n k : Nat} (h : ge_ok X Y n) : (tl X Y n k).length ≤ 27 := by
  refine ge_27 h _ (fun t => (tl X Y n k).getD t 0 / 256) (fun t => (tl X Y n k).getD t 0 / 16 % 16) (fun t => (tl X Y n k).getD t 0 % 16) (fun t ht => (tl_get ht).2) (fun i j hij hj e => ?_)
  have := tl_inc hij hj
  try dsimp only at e
  omega
theorem tl_app {L : List Nat} {k t : Nat} (h : t < L.length) : (L ++ [k]).getD t 0 = L.getD t 0 := by
  simp only [List.getD_eq_getElem?_getD]
  rw [List.getElem?_append_left h]
theorem tl_end {L : List Nat} {k : Nat} : (L ++ [k]).getD L.length 0 = k := by
  simp only [List.getD_eq_getElem?_getD]
  rw [List.getElem?_append_right (Nat.le_refl _), Nat.sub_self]; rfl
end
section
/-! The mesh of the class and the corners of the reference, rebuilt. -/
theorem gp_n {g : St} {k j : Nat} {v : Int32} {k' : Nat} (h : k' ≠ k) : gp g k j v k' = g k' := by
  unfold gp va_up; rw [if_neg h]
theorem gp_s {g : St} {k j : Nat} {v : Int32} : gp g k j v k j = v := by
  unfold gp va_up; rw [if_pos rfl]; exact pk_us
theorem gp_o {g : St} {k j j' : Nat} {v : Int32} (h : j' ≠ j) : gp g k j v k j' = g k j' := by
  unfold gp va_up; rw [if_pos rfl]; exact pk_un h
/-- nothing but the cells of S has changed -/
def fr (S : List Nat) (g g' : St) : Prop := ∀ k, k ∉ S → g' k = g k
theorem fr.rf {S : List Nat} {g : St} : fr S g g := fun _ _ => rfl
theorem fr.gp {S : List Nat} {g g' : St} {k j : Nat} {v : Int32} (h : fr S g g') (hk : k ∈ S) : fr S g (gp g' k j v) := fun k' h' => by
  rw [gp_n (fun e => h' (by rw [e]; exact hk))]; exact h k' h'
theorem fr.tr {S : List Nat} {g g' g'' : St} (h : fr S g g') (h2 : fr S g' g'') : fr S g g'' := fun k hk => (h2 k hk).trans (h k hk)
theorem fr.mono {S S' : List Nat} {g g' : St} (h : fr S g g') (hs : ∀ k, k ∈ S → k ∈ S') : fr S' g g' := fun k hk => h k (fun q => hk (hs k q))
theorem sC.fr {S : List Nat} {g g' : St} {n : Nat} {X Y Z : Nat → Int} (h : sC g n X Y Z) (f : fr S g g') (h1 : 1 ∉ S) (h5 : 5 ∉ S) (h6 : 6 ∉ S) (h7 : 7 ∉ S) : sC g' n X Y Z := by
  refine ⟨h.1, h.2.1, ?_, fun v hv => ?_⟩
  · rw [f 1 h1]; exact h.2.2.1
  · rw [f 5 h5, f 6 h6, f 7 h7]; exact h.2.2.2 v hv
theorem sM.fr {g g' : St} {n : Nat} {X Y Z : Nat → Int} (h : sM g n X Y Z) (h0 : g' 0 1 = g 0 1) (h1 : g' 1 = g 1) (h2 : g' 2 = g 2) (h3 : g' 3 = g 3) : sM g' n X Y Z := by
  refine ⟨h.1, h.2.1, ?_, fun v hv => ?_⟩
  · rw [h0]; exact h.2.2.1
  · rw [h1, h2, h3]; exact h.2.2.2 v hv
/-- a triangle of the list, going right from p to q -/
def rt (X Y : Nat → Int) (L : List Nat) (p q r : Nat) : Prop := ge_t X Y p q r < 0 ∧ ∃ x, x ∈ L ∧ ge_pm (x / 256) (x / 16 % 16) (x % 16) p q r
def mC (X Y : Nat → Int) (L : List Nat) (g : St) : Prop := g 2 2 = nI L.length ∧ (∀ t, t < L.length → g 8 (3 * t) = nI (L.getD t 0 / 256) ∧ g 8 (3 * t + 1) = nI (L.getD t 0 / 16 % 16) ∧ g 8 (3 * t + 2) = nI (L.getD t 0 % 16)) ∧
  (∀ p q r, rt X Y L p q r → g 9 (16 * p + q) = nI r) ∧ ∀ p q, p < 16 → q < 16 → (∀ r, ¬ rt X Y L p q r) → g 9 (16 * p + q) = -1
def mM (L : List Nat) (g : St) : Prop := g 0 5 = nI L.length ∧ ∀ t, t < L.length → g 4 (3 * t) = nI (L.getD t 0 / 256) ∧ g 4 (3 * t + 1) = nI (L.getD t 0 / 16 % 16) ∧ g 4 (3 * t + 2) = nI (L.getD t 0 % 16)
theorem pk3 {L : Nat} (h : L < 1000) (j : Nat) : 3 * nI L + nI j = nI (3 * L + j) := by
  rw [show (3 : Int32) = nI 3 from rfl, pk_mul, nI_add]
theorem pk3' (L : Nat) : 3 * nI L = nI (3 * L) := by
  rw [show (3 : Int32) = nI 3 from rfl, pk_mul]
theorem pk16 (a b : Nat) : 16 * nI a + nI b = nI (16 * a + b) := by
  rw [show (16 : Int32) = nI 16 from rfl, pk_mul, nI_add]
section
variable {g : St} {n : Nat} {X Y Z : Nat → Int}
theorem me_clear {post : St → Prop} (h : ∀ g', g' 2 2 = 0 → (∀ i, i < 256 → g' 9 i = -1) → fr [2, 9] g g' → post g') : wp_me_clear g post := by
  unfold wp_me_clear
  intro g1 e1
  have loop : ∀ m i (g2 : St), i + m = 256 → g2 2 2 = 0 → (∀ j, j < i → g2 9 j = -1) → fr [2, 9] g g2 → lp_me_clear_L7 (m + 1) (nI i) g2 (fun g3 => (post g3)) post := by
    intro m
    induction m with
    | zero =>
      intro i g2 hi h1 h2 h3
      unfold lp_me_clear_L7
      refine ⟨fun _ => h g2 h1 (fun j hj => h2 j (by omega)) h3, fun q => absurd ?_ q⟩
      rw [show (256 : Int32) = nI 256 from rfl, nI_leI (by omega) (by omega)]; omega
    | succ m ih =>
      intro i g2 hi h1 h2 h3
      unfold lp_me_clear_L7
      refine ⟨fun q => ?_, fun _ => ⟨vp_in_nI (by omega) (by omega), fun g4 e4 => ?_⟩⟩
      · rw [show (256 : Int32) = nI 256 from rfl, nI_leI (by omega) (by omega)] at q; omega
      · rw [ix_nI (by omega)] at e4
        rw [nI_1, e4]
        refine ih (i + 1) _ (by omega) (by rw [gp_n (by decide)]; exact h1) (fun j hj => ?_) (h3.gp (by decide))
        by_cases e : j = i
        · rw [e]; exact gp_s
        · rw [gp_o e]; exact h2 j (by omega)
  refine ⟨257, loop 256 0 g1 (by omega) (by rw [e1]; exact gp_s) (fun j hj => absurd hj (by omega)) (by rw [e1]; exact fr.rf.gp (by decide))⟩
/-- three sides get their third spots -/
theorem me_sides {a b c : Nat} {post : St → Prop} (ha : a < 16) (hb : b < 16) (hc : c < 16)
    (h : ∀ g', g' 9 (16 * c + a) = nI b → (16 * c + a ≠ 16 * b + c → g' 9 (16 * b + c) = nI a) → (16 * c + a ≠ 16 * a + b → 16 * b + c ≠ 16 * a + b → g' 9 (16 * a + b) = nI c) → (∀ j, j ≠ 16 * a + b → j ≠ 16 * b + c → j ≠ 16 * c + a → g' 9 j = g 9 j) → fr [9] g g' → post g') : wp_me_addSides (nI a) (nI b) (nI c) g post := by
  unfold wp_me_addSides
  rw [pk16, pk16, pk16, ix_nI (by omega), ix_nI (by omega), ix_nI (by omega)]
  refine ⟨vp_in_nI (by omega) (by omega), fun g1 e1 => ⟨vp_in_nI (by omega) (by omega), fun g2 e2 => ⟨vp_in_nI (by omega) (by omega), fun g3 e3 => ?_⟩⟩⟩
  refine h g3 ?_ (fun q => ?_) (fun q q2 => ?_) (fun j j1 j2 j3 => ?_) ?_
  · rw [e3]; exact gp_s
  · rw [e3, gp_o (Ne.symm q), e2]; exact gp_s
  · rw [e3, gp_o (Ne.symm q), e2, gp_o (Ne.symm q2), e1]; exact gp_s
  · rw [e3, gp_o j3, e2, gp_o j2, e1, gp_o j1]
  · rw [e3, e2, e1]; exact ((fr.rf.gp (by decide)).gp (by decide)).gp (by decide)
theorem rt_app {L : List Nat} {k p q r : Nat} : rt X Y (L ++ [k]) p q r ↔ rt X Y L p q r ∨ (ge_t X Y p q r < 0 ∧ ge_pm (k / 256) (k / 16 % 16) (k % 16) p q r) := by
  unfold rt
  constructor
  · rintro ⟨h1, x, h2, h3⟩
    rcases List.mem_append.mp h2 with h | h
    · exact Or.inl ⟨h1, x, h, h3⟩
    · rw [List.mem_singleton.mp h] at h3; exact Or.inr ⟨h1, h3⟩
  · rintro (⟨h1, x, h2, h3⟩ | ⟨h1, h3⟩)
    · exact ⟨h1, x, List.mem_append_left _ h2, h3⟩
    · exact ⟨h1, k, List.mem_append_right _ (List.mem_singleton.mpr rfl), h3⟩
/-- in the order in which the sides are set -/
theorem rt_new {a b c p q r : Nat} (h : ge_t X Y a b c < 0) (k : ge_t X Y p q r < 0) (e : ge_pm a b c p q r) : (p = a ∧ q = b ∧ r = c) ∨ (p = b ∧ q = c ∧ r = a) ∨ (p = c ∧ q = a ∧ r = b) := by
  have r1 := ge_t_rot X Y a b c
  have r2 := ge_t_rot X Y b c a
  have s1 := ge_t_sw X Y a b c
  have s2 := ge_t_sw X Y b c a
  have s3 := ge_t_sw X Y c a b
  rcases e with ⟨rfl, rfl, rfl⟩ | ⟨rfl, rfl, rfl⟩ | ⟨rfl, rfl, rfl⟩ | ⟨rfl, rfl, rfl⟩ | ⟨rfl, rfl, rfl⟩ | ⟨rfl, rfl, rfl⟩
  · exact Or.inl ⟨rfl, rfl, rfl⟩
  · omega
  · omega
  · exact Or.inr (Or.inl ⟨rfl, rfl, rfl⟩)
  · exact Or.inr (Or.inr ⟨rfl, rfl, rfl⟩)
  · omega
theorem ge_pm_sw {a b c p q r : Nat} : ge_pm a c b p q r ↔ ge_pm a b c p q r := by
  unfold ge_pm
  constructor <;> (rintro (h | h | h | h | h | h) <;> simp only [h, and_self, true_or, or_true])
/-- the sides of a new triangle that goes right from a by b to c -/
theorem mC_sides {L : List Nat} {k a b c : Nat} {g1 g' : St} (hk : ∀ p q r, ge_pm (k / 256) (k / 16 % 16) (k % 16) p q r ↔ ge_pm a b c p q r) (ht : ge_t X Y a b c < 0) (h16 : a < 16 ∧ b < 16 ∧ c < 16) (hne : a ≠ b ∧ a ≠ c ∧ b ≠ c)
    (huniq : ∀ p q r, rt X Y (L ++ [k]) p q r → ∀ r', rt X Y (L ++ [k]) p q r' → r = r')
    (h3 : ∀ p q r, rt X Y L p q r → g1 9 (16 * p + q) = nI r) (h4 : ∀ p q, p < 16 → q < 16 → (∀ r, ¬ rt X Y L p q r) → g1 9 (16 * p + q) = -1)
    (hl16 : ∀ p q r, rt X Y (L ++ [k]) p q r → p < 16 ∧ q < 16)
    (s1 : g' 9 (16 * c + a) = nI b) (s2 : g' 9 (16 * b + c) = nI a) (s3 : g' 9 (16 * a + b) = nI c) (s4 : ∀ j, j ≠ 16 * a + b → j ≠ 16 * b + c → j ≠ 16 * c + a → g' 9 j = g1 9 j) :
    (∀ p q r, rt X Y (L ++ [k]) p q r → g' 9 (16 * p + q) = nI r) ∧ ∀ p q, p < 16 → q < 16 → (∀ r, ¬ rt X Y (L ++ [k]) p q r) → g' 9 (16 * p + q) = -1 := by
  have n1 : rt X Y (L ++ [k]) a b c := rt_app.mpr (Or.inr ⟨ht, (hk _ _ _).mpr (Or.inl ⟨rfl, rfl, rfl⟩)⟩)
  have n2 : rt X Y (L ++ [k]) b c a := rt_app.mpr (Or.inr ⟨by rw [ge_t_rot]; exact ht, (hk _ _ _).mpr (Or.inr (Or.inr (Or.inr (Or.inl ⟨rfl, rfl, rfl⟩))))⟩)
  have n3 : rt X Y (L ++ [k]) c a b := rt_app.mpr (Or.inr ⟨by rw [ge_t_rot, ge_t_rot]; exact ht, (hk _ _ _).mpr (Or.inr (Or.inr (Or.inr (Or.inr (Or.inl ⟨rfl, rfl, rfl⟩)))))⟩)
  obtain ⟨a16, b16, c16⟩ := h16
  constructor
  · intro p q r hr
    obtain ⟨p16, q16⟩ := hl16 p q r hr
    by_cases e1 : p = a ∧ q = b
    · obtain ⟨rfl, rfl⟩ := e1
      rw [s3, huniq _ _ _ hr _ n1]
    by_cases e2 : p = b ∧ q = c
    · obtain ⟨rfl, rfl⟩ := e2
      rw [s2, huniq _ _ _ hr _ n2]
    by_cases e3 : p = c ∧ q = a
    · obtain ⟨rfl, rfl⟩ := e3
      rw [s1, huniq _ _ _ hr _ n3]
    rw [s4 _ (by omega) (by omega) (by omega)]
    rcases rt_app.mp hr with h | ⟨h, h'⟩
    · exact h3 p q r h
    · rcases rt_new ht h ((hk _ _ _).mp h') with e | e | e
      · exact absurd ⟨e.1, e.2.1⟩ e1
      · exact absurd ⟨e.1, e.2.1⟩ e2
      · exact absurd ⟨e.1, e.2.1⟩ e3
  · intro p q p16 q16 hr
    rw [s4 _ (fun e => hr c (by rw [show p = a by omega, show q = b by omega]; exact n1)) (fun e => hr a (by rw [show p = b by omega, show q = c by omega]; exact n2)) (fun e => hr b (by rw [show p = c by omega, show q = a by omega]; exact n3))]
    exact h4 p q p16 q16 (fun r h => hr r (rt_app.mpr (Or.inl h)))
theorem me_add {L : List Nat} {a b c k : Nat} {x4 : Int32} {post : St → Prop} (hk : k / 256 = a ∧ k / 16 % 16 = b ∧ k % 16 = c) (ha : a < 16) (hL : L.length < 27) (hm : mC X Y L g) (hne : a ≠ b ∧ a ≠ c ∧ b ≠ c) (hx : (x4 = 0 ∧ 0 < ge_t X Y a b c) ∨ (x4 = 1 ∧ ge_t X Y a b c < 0))
    (huniq : ∀ p q r, rt X Y (L ++ [k]) p q r → ∀ r', rt X Y (L ++ [k]) p q r' → r = r') (hl16 : ∀ p q r, rt X Y (L ++ [k]) p q r → p < 16 ∧ q < 16)
    (h : ∀ g', mC X Y (L ++ [k]) g' → fr [2, 8, 9] g g' → post g') : wp_me_add (nI a) (nI b) (nI c) x4 g post := by
  obtain ⟨m1, m2, m3, m4⟩ := hm
  obtain ⟨k1, k2, k3⟩ := hk
  have b16 : b < 16 := by omega
  have c16 : c < 16 := by omega
  unfold wp_me_add
  rw [m1, pk3', show (1 : Int32) = nI 1 from rfl, show (2 : Int32) = nI 2 from rfl, nI_add, nI_add, ix_nI (by omega), ix_nI (by omega), ix_nI (by omega)]
  refine ⟨vp_in_nI (by omega) (by omega), fun g1 e1 => ⟨vp_in_nI (by omega) (by omega), fun g2 e2 => ⟨vp_in_nI (by omega) (by omega), fun g3 e3 => fun g4 e4 => ?_⟩⟩⟩
  have f4 : fr [2, 8, 9] g g4 := by rw [e4, e3, e2, e1]; exact (((fr.rf.gp (by decide)).gp (by decide)).gp (by decide)).gp (by decide)
  have c1 : g4 2 2 = nI (L ++ [k]).length := by
    rw [e4, gp_s, e3, gp_n (by decide), e2, gp_n (by decide), e1, gp_n (by decide), m1, nI_add, List.length_append]; rfl
  have c9 : g4 9 = g 9 := by rw [e4, gp_n (by decide), e3, gp_n (by decide), e2, gp_n (by decide), e1, gp_n (by decide)]
  have c8 : ∀ t, t < (L ++ [k]).length → g4 8 (3 * t) = nI ((L ++ [k]).getD t 0 / 256) ∧ g4 8 (3 * t + 1) = nI ((L ++ [k]).getD t 0 / 16 % 16) ∧ g4 8 (3 * t + 2) = nI ((L ++ [k]).getD t 0 % 16) := by
    intro t ht
    rw [List.length_append, List.length_singleton] at ht
    have e48 : g4 8 = g3 8 := by rw [e4, gp_n (by decide)]
    rw [e48, e3]
    by_cases e : t = L.length
    · subst e
      rw [tl_end, k1, k2, k3]
      refine ⟨?_, ?_, ?_⟩
      · rw [gp_o (by omega), e2, gp_o (by omega), e1]; exact gp_s
      · rw [gp_o (by omega), e2]; exact gp_s
      · exact gp_s
    · have l : t < L.length := by omega
      rw [tl_app l]
      obtain ⟨q1, q2, q3⟩ := m2 t l
      refine ⟨?_, ?_, ?_⟩
      · rw [gp_o (by omega), e2, gp_o (by omega), e1, gp_o (by omega)]; exact q1
      · rw [gp_o (by omega), e2, gp_o (by omega), e1, gp_o (by omega)]; exact q2
      · rw [gp_o (by omega), e2, gp_o (by omega), e1, gp_o (by omega)]; exact q3
  have fin : ∀ g', (∀ k', k' ≠ 9 → g' k' = g4 k') → ((∀ p q r, rt X Y (L ++ [k]) p q r → g' 9 (16 * p + q) = nI r) ∧ ∀ p q, p < 16 → q < 16 → (∀ r, ¬ rt X Y (L ++ [k]) p q r) → g' 9 (16 * p + q) = -1) → post g' := by
    intro g' f s
    refine h g' ⟨?_, ?_, s.1, s.2⟩ (fun k' hk' => ?_)
    · rw [f 2 (by decide)]; exact c1
    · rw [f 8 (by decide)]; exact c8
    · rw [f k' (fun e => hk' (by rw [e]; decide))]; exact f4 k' hk'
  obtain ⟨ab, ac, bc⟩ := hne
  rcases hx with ⟨x0, ht⟩ | ⟨x1, ht⟩
  · refine ⟨fun _ => ?_, fun q => absurd x0 q⟩
    refine me_sides ha c16 b16 (fun g' s1 s2 s3 s4 f => fin g' (fun k' hk' => f k' (fun q => hk' (List.mem_singleton.mp q))) ?_)
    refine mC_sides (L := L) (k := k) (a := a) (b := c) (c := b) (g1 := g4) (fun p q r => by rw [k1, k2, k3]; exact ge_pm_sw.symm) (by rw [ge_t_sw]; omega) ⟨ha, c16, b16⟩ ⟨ac, ab, Ne.symm bc⟩ huniq (by rw [c9]; exact m3) (by rw [c9]; exact m4) hl16 s1 (s2 (by omega)) (s3 (by omega) (by omega)) s4
  · refine ⟨fun q => absurd q (by rw [x1]; decide), fun _ => ?_⟩
    refine me_sides ha b16 c16 (fun g' s1 s2 s3 s4 f => fin g' (fun k' hk' => f k' (fun q => hk' (List.mem_singleton.mp q))) ?_)
    refine mC_sides (L := L) (k := k) (a := a) (b := b) (c := c) (g1 := g4) (fun p q r => by rw [k1, k2, k3]) ht ⟨ha, b16, c16⟩ ⟨ab, ac, bc⟩ huniq (by rw [c9]; exact m3) (by rw [c9]; exact m4) hl16 s1 (s2 (by omega)) (s3 (by omega) (by omega)) s4
theorem rt_T {k p q r : Nat} (ho : ge_ok X Y n) (h : rt X Y (tl X Y n k) p q r) : ge_T X Y n p q r := by
  obtain ⟨-, x, h1, h2⟩ := h
  exact ge_pm_T (ge_T_of ho (tl_mem.mp h1).2) h2
theorem rt_u {k p q r r' : Nat} (ho : ge_ok X Y n) (h : rt X Y (tl X Y n k) p q r) (h' : rt X Y (tl X Y n k) p q r') : r = r' := ge_right (rt_T ho h) (rt_T ho h') h.1 h'.1
/-- THE MESH REBUILT -/
theorem me_rebuild {post : St → Prop} (hS : sC g n X Y Z) (h : ∀ g', mC X Y (tl X Y n 4096) g' → fr [2, 8, 9] g g' → post g') : wp_me_rebuild g post := by
  have n16 := hS.1.1
  have le : ∀ {u v : Nat}, u ≤ 16 → v ≤ 16 → (nI u ≤ nI v ↔ u ≤ v) := fun hu hv => nI_leI (by omega) (by omega)
  have inS : ∀ g', fr [2, 8, 9] g g' → sC g' n X Y Z := fun g' f => hS.fr f (by decide) (by decide) (by decide) (by decide)
  unfold wp_me_rebuild
  refine me_clear (fun g1 c1 c2 f1 => ?_)
  have f1 : fr [2, 8, 9] g g1 := f1.mono (by decide)
  have m0 : mC X Y (tl X Y n 0) g1 := by
    refine ⟨c1, fun t ht => absurd ht (by unfold tl; simp), fun p q r hr => ?_, fun p q hp hq _ => c2 _ (by omega)⟩
    obtain ⟨-, x, hx, -⟩ := hr
    exact absurd (tl_mem.mp hx).1 (by omega)
  -- the innermost loop
  have L31 : ∀ (a b : Nat) (K : Int32 → Int32 → St → Prop), a < b → b < n → (∀ g', mC X Y (tl X Y n (256 * a + 16 * b + n)) g' → fr [2, 8, 9] g g' → K (nI a) (nI b) g') →
      ∀ m c (g2 : St), c + m = n → b < c → mC X Y (tl X Y n (256 * a + 16 * b + c)) g2 → fr [2, 8, 9] g g2 → lp_me_rebuild_L31 (m + 1) (nI a) (nI b) (nI c) g2 K post := by
    intro a b K hab hb hK m
    induction m with
    | zero =>
      intro c g2 hc hbc hm f2
      have S2 := inS g2 f2
      unfold lp_me_rebuild_L31 wp_sp_size
      rw [S2.2.2.1]
      have : c = n := by omega
      subst this
      exact ⟨fun _ => hK g2 hm f2, fun q => absurd ((le (by omega) (by omega)).mpr (Nat.le_refl _)) q⟩
    | succ m ih =>
      intro c g2 hc hbc hm f2
      have S2 := inS g2 f2
      have hcn : c < n := by omega
      have k1 : (256 * a + 16 * b + c) / 256 = a := by omega
      have k2 : (256 * a + 16 * b + c) / 16 % 16 = b := by omega
      have k3 : (256 * a + 16 * b + c) % 16 = c := by omega
      have no : ¬ ge_tri X Y n a b c → ∀ g3, mC X Y (tl X Y n (256 * a + 16 * b + c)) g3 → fr [2, 8, 9] g g3 → lp_me_rebuild_L31 (m + 1) (nI a) (nI b) (nI c + 1) g3 K post := fun t g3 m3 f3 => by
        rw [nI_1]
        refine ih (c + 1) g3 (by omega) (by omega) ?_ f3
        rw [← Nat.add_assoc, tl_s0 (by rw [k1, k2, k3]; exact t)]
        exact m3
      unfold lp_me_rebuild_L31 wp_sp_size
      rw [S2.2.2.1, hm.1]
      refine ⟨fun q => absurd ((le (by omega) (by omega)).mp q) (by omega), fun _ => ⟨fun q => ?_, fun q => ?_⟩⟩
      · refine no (fun t => ?_) g2 hm f2
        have l := tl_27 (k := 256 * a + 16 * b + c + 1) hS.1
        rw [tl_s1 (by rw [k1, k2, k3]; exact t), List.length_append, List.length_singleton] at l
        have l2 := tl_27 (k := 256 * a + 16 * b + c) hS.1
        rw [show (27 : Int32) = nI 27 from rfl, nI_leI (by omega) (by omega)] at q
        omega
      · have l2 := tl_27 (k := 256 * a + 16 * b + c) hS.1
        have l3 : (tl X Y n (256 * a + 16 * b + c)).length < 27 := by
          rw [show (27 : Int32) = nI 27 from rfl, nI_leI (by omega) (by omega)] at q
          omega
        refine me_isTri S2 hab hbc hcn (fun t => ⟨fun _ => no t g2 hm f2, fun q => absurd rfl q⟩) (fun t => ⟨fun q => absurd q (by decide), fun _ => ?_⟩)
        have bt := ge_tb hS.1 (show a < n by omega) hb hcn
        have ap := tl_s1 (X := X) (Y := Y) (n := n) (k := 256 * a + 16 * b + c) (by rw [k1, k2, k3]; exact t)
        have go : ∀ x4 : Int32, ((x4 = 0 ∧ 0 < ge_t X Y a b c) ∨ (x4 = 1 ∧ ge_t X Y a b c < 0)) → wp_me_add (nI a) (nI b) (nI c) x4 g2 (fun g12 => (lp_me_rebuild_L31 (m + 1) (nI a) (nI b) (nI c + 1) g12 K post)) := fun x4 hx => by
          refine me_add (L := tl X Y n (256 * a + 16 * b + c)) (k := 256 * a + 16 * b + c) ⟨k1, k2, k3⟩ (by omega) l3 hm ⟨by omega, by omega, by omega⟩ hx (fun p q r h1 r' h2 => ?_) (fun p q r h1 => ?_) (fun g3 m3 f3 => ?_)
          · rw [← ap] at h1 h2; exact rt_u hS.1 h1 h2
          · rw [← ap] at h1
            have T := rt_T hS.1 h1
            exact ⟨by have := T.1; omega, by have := T.2.1; omega⟩
          · rw [nI_1]
            rw [← ap] at m3
            exact ih (c + 1) g3 (by omega) (by omega) m3 (f2.tr f3)
        refine sp_turn S2 (by omega) hb hcn ⟨fun q => go 0 (Or.inl ⟨rfl, ?_⟩), fun q => go 1 (Or.inr ⟨rfl, ?_⟩)⟩
        · rw [← iI_0, iI_le (by omega) (by omega) bt.1 bt.2] at q
          have := t.2.2.2.1
          omega
        · rw [← iI_0, iI_le (by omega) (by omega) bt.1 bt.2] at q
          omega
  have L18 : ∀ (a : Nat) (K : Int32 → St → Prop), a < n → (∀ g', mC X Y (tl X Y n (256 * a + 16 * n)) g' → fr [2, 8, 9] g g' → K (nI a) g') →
      ∀ m b (g2 : St), b + m = n → a < b → mC X Y (tl X Y n (256 * a + 16 * b)) g2 → fr [2, 8, 9] g g2 → lp_me_rebuild_L18 (m + 1) (nI a) (nI b) g2 K post := by
    intro a K ha hK m
    induction m with
    | zero =>
      intro b g2 hb hab hm f2
      have S2 := inS g2 f2
      unfold lp_me_rebuild_L18 wp_sp_size
      rw [S2.2.2.1]
      have : b = n := by omega
      subst this
      exact ⟨fun _ => hK g2 hm f2, fun q => absurd ((le (by omega) (by omega)).mpr (Nat.le_refl _)) q⟩
    | succ m ih =>
      intro b g2 hb hab hm f2
      have S2 := inS g2 f2
      unfold lp_me_rebuild_L18 wp_sp_size
      rw [S2.2.2.1]
      refine ⟨fun q => absurd ((le (by omega) (by omega)).mp q) (by omega), fun _ => ⟨(n - (b + 1)) + 1, ?_⟩⟩
      rw [nI_1]
      refine L31 a b _ hab (by omega) (fun g3 m3 f3 => ?_) (n - (b + 1)) (b + 1) g2 (by omega) (by omega) ?_ f2
      · rw [nI_1]
        refine ih (b + 1) g3 (by omega) (by omega) ?_ f3
        rw [tl_skip (k := 256 * a + 16 * b + n) (k' := 256 * a + 16 * (b + 1)) (by omega) (fun x x1 x2 t => by have := t.2.2.1; omega)]
        exact m3
      · rw [tl_skip (k := 256 * a + 16 * b) (k' := 256 * a + 16 * b + (b + 1)) (by omega) (fun x x1 x2 t => by have := t.2.1; omega)]
        exact hm
  have L6 : ∀ m a (g2 : St), a + m = n → mC X Y (tl X Y n (256 * a)) g2 → fr [2, 8, 9] g g2 → lp_me_rebuild_L6 (m + 1) (nI a) g2 (fun g19 => (post g19)) post := by
    intro m
    induction m with
    | zero =>
      intro a g2 ha hm f2
      have S2 := inS g2 f2
      unfold lp_me_rebuild_L6 wp_sp_size
      rw [S2.2.2.1]
      have : a = n := by omega
      subst this
      refine ⟨fun _ => h g2 ?_ f2, fun q => absurd ((le (by omega) (by omega)).mpr (Nat.le_refl _)) q⟩
      rw [tl_skip (k := 256 * a) (k' := 4096) (by omega) (fun x x1 x2 t => by have t1 := t.1; have t2 := t.2.1; have t3 := t.2.2.1; omega)]
      exact hm
    | succ m ih =>
      intro a g2 ha hm f2
      have S2 := inS g2 f2
      unfold lp_me_rebuild_L6 wp_sp_size
      rw [S2.2.2.1]
      refine ⟨fun q => absurd ((le (by omega) (by omega)).mp q) (by omega), fun _ => ⟨(n - (a + 1)) + 1, ?_⟩⟩
      rw [nI_1]
      refine L18 a _ (by omega) (fun g3 m3 f3 => ?_) (n - (a + 1)) (a + 1) g2 (by omega) (by omega) ?_ f2
      · rw [nI_1]
        refine ih (a + 1) g3 (by omega) ?_ f3
        rw [tl_skip (k := 256 * a + 16 * n) (k' := 256 * (a + 1)) (by omega) (fun x x1 x2 t => by have t2 := t.2.1; have t3 := t.2.2.1; omega)]
        exact m3
      · rw [tl_skip (k := 256 * a) (k' := 256 * a + 16 * (a + 1)) (by omega) (fun x x1 x2 t => by have := t.1; omega)]
        exact hm
  exact ⟨n + 1, L6 n 0 g1 (by omega) m0 f1⟩
end
end
section
/-! The reference finds its triangles. -/
/-- the cells of S and the places T of the object's own fields have changed, nothing else -/
def fm (S T : List Nat) (g g' : St) : Prop := (∀ k, k ≠ 0 → k ∉ S → g' k = g k) ∧ ∀ j, j ∉ T → g' 0 j = g 0 j
theorem fm.rf {S T : List Nat} {g : St} : fm S T g g := ⟨fun _ _ _ => rfl, fun _ _ => rfl⟩
theorem fm.gp {S T : List Nat} {g g' : St} {k j : Nat} {v : Int32} (h : fm S T g g') (hk : k ∈ S) (h0 : k ≠ 0) : fm S T g (gp g' k j v) := ⟨fun k' h1 h' => by
  rw [gp_n (fun e => h' (by rw [e]; exact hk))]; exact h.1 k' h1 h', fun j' hj => by rw [gp_n (Ne.symm h0)]; exact h.2 j' hj⟩
theorem fm.g0 {S T : List Nat} {g g' : St} {j : Nat} {v : Int32} (h : fm S T g g') (hj : j ∈ T) : fm S T g (gp g' 0 j v) := ⟨fun k' h1 h' => by
  rw [gp_n h1]; exact h.1 k' h1 h', fun j' hj' => by rw [gp_o (fun e => hj' (by rw [e]; exact hj))]; exact h.2 j' hj'⟩
theorem fm.tr {S T : List Nat} {g g' g'' : St} (h : fm S T g g') (h2 : fm S T g' g'') : fm S T g g'' := ⟨fun k h1 hk => (h2.1 k h1 hk).trans (h.1 k h1 hk), fun j hj => (h2.2 j hj).trans (h.2 j hj)⟩
theorem fm.mono {S S' T T' : List Nat} {g g' : St} (h : fm S T g g') (hs : ∀ k, k ∈ S → k ∈ S') (ht : ∀ k, k ∈ T → k ∈ T') : fm S' T' g g' := ⟨fun k h1 hk => h.1 k h1 (fun q => hk (hs k q)), fun j hj => h.2 j (fun q => hj (ht j q))⟩
theorem sM.fm {S T : List Nat} {g g' : St} {n : Nat} {X Y Z : Nat → Int} (h : sM g n X Y Z) (f : fm S T g g') (h1 : 1 ∉ T) (h5 : 1 ∉ S) (h6 : 2 ∉ S) (h7 : 3 ∉ S) : sM g' n X Y Z := h.fr (f.2 1 h1) (f.1 1 (by decide) h5) (f.1 2 (by decide) h6) (f.1 3 (by decide) h7)
section
variable {g : St} {n : Nat} {X Y Z : Nat → Int}
theorem mM_add {L : List Nat} {a b c k : Nat} {g1 g2 g3 g4 : St} (hk : k / 256 = a ∧ k / 16 % 16 = b ∧ k % 16 = c) (hm : mM L g) (e1 : g1 = gp g 4 (3 * L.length) (nI a)) (e2 : g2 = gp g1 4 (3 * L.length + 1) (nI b)) (e3 : g3 = gp g2 4 (3 * L.length + 2) (nI c)) (e4 : g4 = gp g3 0 5 (nI L.length + 1)) : mM (L ++ [k]) g4 := by
  obtain ⟨m1, m2⟩ := hm
  obtain ⟨k1, k2, k3⟩ := hk
  constructor
  · rw [e4, gp_s, nI_1, List.length_append]; rfl
  · intro t ht
    rw [List.length_append, List.length_singleton] at ht
    have e48 : g4 4 = g3 4 := by rw [e4, gp_n (by decide)]
    rw [e48, e3]
    by_cases e : t = L.length
    · subst e
      rw [tl_end, k1, k2, k3]
      refine ⟨?_, ?_, ?_⟩
      · rw [gp_o (by omega), e2, gp_o (by omega), e1]; exact gp_s
      · rw [gp_o (by omega), e2]; exact gp_s
      · exact gp_s
    · have l : t < L.length := by omega
      rw [tl_app l]
      obtain ⟨q1, q2, q3⟩ := m2 t l
      refine ⟨?_, ?_, ?_⟩
      · rw [gp_o (by omega), e2, gp_o (by omega), e1, gp_o (by omega)]; exact q1
      · rw [gp_o (by omega), e2, gp_o (by omega), e1, gp_o (by omega)]; exact q2
      · rw [gp_o (by omega), e2, gp_o (by omega), e1, gp_o (by omega)]; exact q3
theorem mo_find {post : St → Prop} (hS : sM g n X Y Z) (h : ∀ g', mM (tl X Y n 4096) g' → fm [4] [5] g g' → post g') : wp_mo_findTriangles g post := by
  have n16 := hS.1.1
  have le : ∀ {u v : Nat}, u ≤ 16 → v ≤ 16 → (nI u ≤ nI v ↔ u ≤ v) := fun hu hv => nI_leI (by omega) (by omega)
  have inS : ∀ g', fm [4] [5] g g' → sM g' n X Y Z := fun g' f => hS.fm f (by decide) (by decide) (by decide) (by decide)
  unfold wp_mo_findTriangles
  intro g1 e1
  have f1 : fm [4] [5] g g1 := by rw [e1]; exact fm.rf.g0 (by decide)
  have m0 : mM (tl X Y n 0) g1 := ⟨by rw [e1]; exact gp_s, fun t ht => absurd ht (by unfold tl; simp)⟩
  have L31 : ∀ (a b : Nat) (K : Int32 → Int32 → St → Prop), a < b → b < n → (∀ g', mM (tl X Y n (256 * a + 16 * b + n)) g' → fm [4] [5] g g' → K (nI a) (nI b) g') →
      ∀ m c (g2 : St), c + m = n → b < c → mM (tl X Y n (256 * a + 16 * b + c)) g2 → fm [4] [5] g g2 → lp_mo_findTriangles_L31 (m + 1) (nI a) (nI b) (nI c) g2 K post := by
    intro a b K hab hb hK m
    induction m with
    | zero =>
      intro c g2 hc hbc hm f2
      have S2 := inS g2 f2
      unfold lp_mo_findTriangles_L31
      rw [S2.2.2.1]
      have : c = n := by omega
      subst this
      exact ⟨fun _ => hK g2 hm f2, fun q => absurd ((le (by omega) (by omega)).mpr (Nat.le_refl _)) q⟩
    | succ m ih =>
      intro c g2 hc hbc hm f2
      have S2 := inS g2 f2
      have hcn : c < n := by omega
      have k1 : (256 * a + 16 * b + c) / 256 = a := by omega
      have k2 : (256 * a + 16 * b + c) / 16 % 16 = b := by omega
      have k3 : (256 * a + 16 * b + c) % 16 = c := by omega
      unfold lp_mo_findTriangles_L31
      rw [S2.2.2.1]
      refine ⟨fun q => absurd ((le (by omega) (by omega)).mp q) (by omega), fun _ => ?_⟩
      refine mo_isTri S2 hab hbc hcn (fun t => ⟨fun _ => ?_, fun q => absurd rfl q⟩) (fun t => ⟨fun q => absurd q (by decide), fun _ => ?_⟩)
      · rw [nI_1]
        refine ih (c + 1) g2 (by omega) (by omega) ?_ f2
        rw [← Nat.add_assoc, tl_s0 (by rw [k1, k2, k3]; exact t)]
        exact hm
      · have ap := tl_s1 (X := X) (Y := Y) (n := n) (k := 256 * a + 16 * b + c) (by rw [k1, k2, k3]; exact t)
        have l3 := tl_27 (k := 256 * a + 16 * b + c) hS.1
        rw [hm.1, pk3', ix_nI (by omega)]
        refine ⟨vp_in_nI (by omega) (by omega), fun g4 e4 => ?_⟩
        have c4 : g4 0 5 = nI (tl X Y n (256 * a + 16 * b + c)).length := by rw [e4, gp_n (by decide)]; exact hm.1
        rw [c4, pk3', show (1 : Int32) = nI 1 from rfl, nI_add, ix_nI (by omega)]
        refine ⟨vp_in_nI (by omega) (by omega), fun g5 e5 => ?_⟩
        have c5 : g5 0 5 = nI (tl X Y n (256 * a + 16 * b + c)).length := by rw [e5, gp_n (by decide)]; exact c4
        rw [c5, pk3', show (2 : Int32) = nI 2 from rfl, nI_add, ix_nI (by omega)]
        refine ⟨vp_in_nI (by omega) (by omega), fun g6 e6 => fun g7 e7 => ?_⟩
        have c6 : g6 0 5 = nI (tl X Y n (256 * a + 16 * b + c)).length := by rw [e6, gp_n (by decide)]; exact c5
        rw [c6] at e7
        rw [nI_add]
        refine ih (c + 1) g7 (by omega) (by omega) ?_ ?_
        · rw [← Nat.add_assoc, ap]
          exact mM_add ⟨k1, k2, k3⟩ hm e4 e5 e6 e7
        · rw [e7, e6, e5, e4]
          exact (((f2.gp (by decide) (by decide)).gp (by decide) (by decide)).gp (by decide) (by decide)).g0 (by decide)
  have L19 : ∀ (a : Nat) (K : Int32 → St → Prop), a < n → (∀ g', mM (tl X Y n (256 * a + 16 * n)) g' → fm [4] [5] g g' → K (nI a) g') →
      ∀ m b (g2 : St), b + m = n → a < b → mM (tl X Y n (256 * a + 16 * b)) g2 → fm [4] [5] g g2 → lp_mo_findTriangles_L19 (m + 1) (nI a) (nI b) g2 K post := by
    intro a K ha hK m
    induction m with
    | zero =>
      intro b g2 hb hab hm f2
      have S2 := inS g2 f2
      unfold lp_mo_findTriangles_L19
      rw [S2.2.2.1]
      have : b = n := by omega
      subst this
      exact ⟨fun _ => hK g2 hm f2, fun q => absurd ((le (by omega) (by omega)).mpr (Nat.le_refl _)) q⟩
    | succ m ih =>
      intro b g2 hb hab hm f2
      have S2 := inS g2 f2
      unfold lp_mo_findTriangles_L19
      rw [S2.2.2.1]
      refine ⟨fun q => absurd ((le (by omega) (by omega)).mp q) (by omega), fun _ => ⟨(n - (b + 1)) + 1, ?_⟩⟩
      rw [nI_1]
      refine L31 a b _ hab (by omega) (fun g3 m3 f3 => ?_) (n - (b + 1)) (b + 1) g2 (by omega) (by omega) ?_ f2
      · rw [nI_1]
        refine ih (b + 1) g3 (by omega) (by omega) ?_ f3
        rw [tl_skip (k := 256 * a + 16 * b + n) (k' := 256 * a + 16 * (b + 1)) (by omega) (fun x x1 x2 t => by have := t.2.2.1; omega)]
        exact m3
      · rw [tl_skip (k := 256 * a + 16 * b) (k' := 256 * a + 16 * b + (b + 1)) (by omega) (fun x x1 x2 t => by have := t.2.1; omega)]
        exact hm
  have L7 : ∀ m a (g2 : St), a + m = n → mM (tl X Y n (256 * a)) g2 → fm [4] [5] g g2 → lp_mo_findTriangles_L7 (m + 1) (nI a) g2 (fun g13 => (post g13)) post := by
    intro m
    induction m with
    | zero =>
      intro a g2 ha hm f2
      have S2 := inS g2 f2
      unfold lp_mo_findTriangles_L7
      rw [S2.2.2.1]
      have : a = n := by omega
      subst this
      refine ⟨fun _ => h g2 ?_ f2, fun q => absurd ((le (by omega) (by omega)).mpr (Nat.le_refl _)) q⟩
      rw [tl_skip (k := 256 * a) (k' := 4096) (by omega) (fun x x1 x2 t => by have t1 := t.1; have t2 := t.2.1; have t3 := t.2.2.1; omega)]
      exact hm
    | succ m ih =>
      intro a g2 ha hm f2
      have S2 := inS g2 f2
      unfold lp_mo_findTriangles_L7
      rw [S2.2.2.1]
      refine ⟨fun q => absurd ((le (by omega) (by omega)).mp q) (by omega), fun _ => ⟨(n - (a + 1)) + 1, ?_⟩⟩
      rw [nI_1]
      refine L19 a _ (by omega) (fun g3 m3 f3 => ?_) (n - (a + 1)) (a + 1) g2 (by omega) (by omega) ?_ f2
      · rw [nI_1]
        refine ih (a + 1) g3 (by omega) ?_ f3
        rw [tl_skip (k := 256 * a + 16 * n) (k' := 256 * (a + 1)) (by omega) (fun x x1 x2 t => by have t2 := t.2.1; have t3 := t.2.2.1; omega)]
        exact m3
      · rw [tl_skip (k := 256 * a) (k' := 256 * a + 16 * (a + 1)) (by omega) (fun x x1 x2 t => by have := t.1; omega)]
        exact hm
  exact ⟨n + 1, L7 n 0 g1 (by omega) m0 f1⟩
end
end
