/-! Numbers of the machine by whole numbers: iI z, jI z. Sums and products keep (they wrap alike); compares need sizes. -/
def iI (z : Int) : Int32 := Int32.ofInt z
def jI (z : Int) : Int64 := Int64.ofInt z
/-- the state of a side: cell by cell, place by place -/
abbrev St : Type := Nat → Nat → Int32
def gp (g : St) (k j : Nat) (v : Int32) : St := va_up g k (upd (g k) j v)
abbrev ix (i : Int32) : Nat := i.toNatClampNeg
theorem iI_nI (n : Nat) : iI (n : Int) = nI n := Int32.ofInt_eq_ofNat
theorem jI_lN (n : Nat) : jI (n : Int) = lN n := Int64.ofInt_eq_ofNat
theorem iI_add (a b : Int) : iI a + iI b = iI (a + b) := (Int32.ofInt_add a b).symm
theorem iI_sub (a b : Int) : iI a - iI b = iI (a - b) := (Int32.ofInt_sub a b).symm
theorem iI_mul (a b : Int) : iI a * iI b = iI (a * b) := (Int32.ofInt_mul a b).symm
theorem jI_add (a b : Int) : jI a + jI b = jI (a + b) := (Int64.ofInt_add a b).symm
theorem jI_sub (a b : Int) : jI a - jI b = jI (a - b) := (Int64.ofInt_sub a b).symm
theorem jI_mul (a b : Int) : jI a * jI b = jI (a * b) := (Int64.ofInt_mul a b).symm
theorem jI_neg (a : Int) : -jI a = jI (-a) := (Int64.ofInt_neg a).symm
theorem iI_toInt {a : Int} (h1 : -2147483648 ≤ a) (h2 : a < 2147483648) : (iI a).toInt = a := Int32.toInt_ofInt_of_le (by omega) (by omega)
theorem jI_toInt {a : Int} (h1 : -9223372036854775808 ≤ a) (h2 : a < 9223372036854775808) : (jI a).toInt = a := Int64.toInt_ofInt_of_le (by omega) (by omega)
theorem iI_lt {a b : Int} (h1 : -2147483648 ≤ a) (h2 : a < 2147483648) (h3 : -2147483648 ≤ b) (h4 : b < 2147483648) : iI a < iI b ↔ a < b := by
  rw [Int32.lt_iff_toInt_lt, iI_toInt h1 h2, iI_toInt h3 h4]
theorem iI_le {a b : Int} (h1 : -2147483648 ≤ a) (h2 : a < 2147483648) (h3 : -2147483648 ≤ b) (h4 : b < 2147483648) : iI a ≤ iI b ↔ a ≤ b := by
  rw [Int32.le_iff_toInt_le, iI_toInt h1 h2, iI_toInt h3 h4]
theorem iI_eq {a b : Int} (h1 : -2147483648 ≤ a) (h2 : a < 2147483648) (h3 : -2147483648 ≤ b) (h4 : b < 2147483648) : iI a = iI b ↔ a = b := by
  rw [← Int32.toInt_inj, iI_toInt h1 h2, iI_toInt h3 h4]
theorem jI_lt {a b : Int} (h1 : -9223372036854775808 ≤ a) (h2 : a < 9223372036854775808) (h3 : -9223372036854775808 ≤ b) (h4 : b < 9223372036854775808) : jI a < jI b ↔ a < b := by
  rw [Int64.lt_iff_toInt_lt, jI_toInt h1 h2, jI_toInt h3 h4]
theorem jI_le {a b : Int} (h1 : -9223372036854775808 ≤ a) (h2 : a < 9223372036854775808) (h3 : -9223372036854775808 ≤ b) (h4 : b < 9223372036854775808) : jI a ≤ jI b ↔ a ≤ b := by
  rw [Int64.le_iff_toInt_le, jI_toInt h1 h2, jI_toInt h3 h4]
theorem jI_eq {a b : Int} (h1 : -9223372036854775808 ≤ a) (h2 : a < 9223372036854775808) (h3 : -9223372036854775808 ≤ b) (h4 : b < 9223372036854775808) : jI a = jI b ↔ a = b := by
  rw [← Int64.toInt_inj, jI_toInt h1 h2, jI_toInt h3 h4]
theorem iI_long {a : Int} (h1 : -2147483648 ≤ a) (h2 : a < 2147483648) : (iI a).toInt64 = jI a := by
  rw [← Int64.toInt_inj, Int32.toInt_toInt64, iI_toInt h1 h2, jI_toInt (by omega) (by omega)]
theorem jI_int (a : Int) : (jI a).toInt32 = iI a := Int64.toInt32_ofInt
theorem iI_in {a : Int} {n : Nat} (h1 : 0 ≤ a) (h2 : a < n) (hn : n < 2147483648) : vp_in (iI a) n := by
  rw [vp_in_iff, iI_toInt (by omega) (by omega)]
  exact ⟨h1, h2⟩
theorem iI_ix {a : Int} (h1 : 0 ≤ a) (h2 : a < 2147483648) : ix (iI a) = a.toNat := by
  obtain ⟨n, rfl⟩ := Int.eq_ofNat_of_zero_le h1
  rw [iI_nI]
  exact nI_clamp (by omega)
/-- any int is one -/
theorem iI_any (x : Int32) : ∃ a : Int, -2147483648 ≤ a ∧ a < 2147483648 ∧ x = iI a := ⟨x.toInt, Int32.le_toInt x, Int32.toInt_lt x, (Int32.ofInt_toInt x).symm⟩
/-- the sign of a compare of longs -/
theorem jI_cmp {a b : Int} (h1 : -9223372036854775808 ≤ a) (h2 : a < 9223372036854775808) (h3 : -9223372036854775808 ≤ b) (h4 : b < 9223372036854775808) : lg_cmp (jI a) (jI b) = if b < a then 1 else if a = b then 0 else (-1) := by
  unfold lg_cmp
  by_cases h : b < a
  · rw [if_pos ((jI_lt h3 h4 h1 h2).mpr h), if_pos h]
  · rw [if_neg (fun q => h ((jI_lt h3 h4 h1 h2).mp q)), if_neg h]
    by_cases h5 : a = b
    · rw [if_pos (congrArg jI h5), if_pos h5]
    · rw [if_neg (fun q => h5 ((jI_eq h1 h2 h3 h4).mp q)), if_neg h5]
theorem iI_div {a b : Int} (h1 : 0 ≤ a) (h2 : a < 2147483648) (h3 : 0 < b) (h4 : b < 2147483648) : iI a / iI b = iI (a / b) := by
  obtain ⟨m, rfl⟩ := Int.eq_ofNat_of_zero_le h1
  obtain ⟨d, rfl⟩ := Int.eq_ofNat_of_zero_le (Int.le_of_lt h3)
  rw [iI_nI, iI_nI, pk_div (by omega) (by omega) (by omega), ← iI_nI]
  rfl
