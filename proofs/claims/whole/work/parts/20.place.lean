/-! Rounded quotients, and the places of crossings. -/
theorem td_up {a b : Int} (hb : 0 < b) : a.tdiv b = if a.tdiv b * b > a then a / b + 1 else a / b := by
  have h1 := Int.mul_ediv_add_emod a b
  have h2 := Int.emod_nonneg a (Int.ne_of_gt hb)
  have h3 := Int.emod_lt_of_pos a hb
  rcases Int.le_total 0 a with h | h
  · rw [Int.tdiv_eq_ediv_of_nonneg h]
    have : ¬ (a / b * b > a) := by rw [Int.mul_comm]; omega
    rw [if_neg this]
  · obtain ⟨m, rfl⟩ : ∃ m, a = -m := ⟨-a, by omega⟩
    have hm : 0 ≤ m := by omega
    rw [Int.neg_tdiv, Int.tdiv_eq_ediv_of_nonneg hm]
    have g1 := Int.mul_ediv_add_emod m b
    have g2 := Int.emod_nonneg m (Int.ne_of_gt hb)
    have g3 := Int.emod_lt_of_pos m hb
    -- q = m / b, r = m % b
    generalize hq : m / b = q at g1 ⊢
    generalize hr : m % b = r at g1 g2 g3
    have e : -q * b = -(b * q) := by rw [Int.neg_mul, Int.mul_comm]
    by_cases z : r = 0
    · have f : (-m) / b = -q := by
        rw [show -m = b * (-q) by rw [Int.mul_neg]; omega]
        exact Int.mul_ediv_cancel_left _ (Int.ne_of_gt hb)
      rw [f, if_neg (by rw [e]; omega)]
    · have f : (-m) / b = -q - 1 := by
        rw [show -m = (b - r) + b * (-q - 1) by rw [Int.mul_sub, Int.mul_neg]; omega, Int.add_mul_ediv_left _ _ (Int.ne_of_gt hb), Int.ediv_eq_zero_of_lt (by omega) (by omega)]
        omega
      rw [f, if_pos (by rw [e]; omega)]
      omega
theorem td_b {a b : Int} (hb : 0 < b) {M : Int} (h1 : -M ≤ a) (h2 : a ≤ M) : -M ≤ a.tdiv b ∧ a.tdiv b ≤ M := by
  have h : a.tdiv b = if a.tdiv b * b > a then a / b + 1 else a / b := td_up hb
  rcases Int.le_total 0 a with k | k
  · have q1 : 0 ≤ a.tdiv b := Int.tdiv_nonneg k (by omega)
    have q2 : a.tdiv b ≤ a := by rw [Int.tdiv_eq_ediv_of_nonneg k]; exact Int.ediv_le_self b k
    omega
  · obtain ⟨m, rfl⟩ : ∃ m, a = -m := ⟨-a, by omega⟩
    rw [Int.neg_tdiv]
    have q1 : 0 ≤ m.tdiv b := Int.tdiv_nonneg (by omega) (by omega)
    have q2 : m.tdiv b ≤ m := by rw [Int.tdiv_eq_ediv_of_nonneg (by omega)]; exact Int.ediv_le_self b (by omega)
    omega
theorem iI_tdiv {a b : Int} (h1 : -1000000000 ≤ a) (h2 : a ≤ 1000000000) (h3 : 0 < b) (h4 : b ≤ 1000000000) : iI a / iI b = iI (a.tdiv b) := by
  rw [← Int32.toInt_inj, Int32.toInt_div, iI_toInt (by omega) (by omega), iI_toInt (by omega) (by omega)]
  have := td_b h3 h1 h2
  rw [iI_toInt (by omega) (by omega)]
  exact Int.bmod_eq_of_le (by omega) (by omega)
theorem jI_tdiv {a b : Int} (h1 : -4000000000000000000 ≤ a) (h2 : a ≤ 4000000000000000000) (h3 : 0 < b) (h4 : b ≤ 4000000000000000000) : jI a / jI b = jI (a.tdiv b) := by
  rw [← Int64.toInt_inj, Int64.toInt_div, jI_toInt (by omega) (by omega), jI_toInt (by omega) (by omega)]
  have := td_b h3 h1 h2
  rw [jI_toInt (by omega) (by omega)]
  exact Int.bmod_eq_of_le (by omega) (by omega)
theorem mo_floor {g : St} {a b : Int} {post : Int64 → St → Prop} (h1 : -4000000000000000000 ≤ a) (h2 : a ≤ 4000000000000000000) (h3 : 0 < b) (h4 : b ≤ 4000000000000000000) (h : post (jI (a / b)) g) : wp_mo_floor (jI a) (jI b) g post := by
  have q := td_b h3 h1 h2
  have u := td_up (a := a) h3
  have r1 := Int.mul_ediv_add_emod a b
  have r2 := Int.emod_nonneg a (Int.ne_of_gt h3)
  have r3 := Int.emod_lt_of_pos a h3
  have pb : -9000000000000000000 ≤ a.tdiv b * b ∧ a.tdiv b * b ≤ 9000000000000000000 := by
    rw [u]
    split
    · rw [Int.add_mul, Int.one_mul, Int.mul_comm]; omega
    · rw [Int.mul_comm]; omega
  unfold wp_mo_floor
  try dsimp only
  rw [jI_tdiv h1 h2 h3 h4, jI_mul, jI_cmp (by omega) (by omega) (by omega) (by omega), ← jI_1, jI_sub]
  refine ⟨fun e => ?_, ?_⟩
  · rw [← jI_0, jI_eq (by omega) (by omega) (by omega) (by omega)] at e; omega
  · by_cases k : a < a.tdiv b * b
    · rw [if_pos k]
      rw [if_pos k] at u
      exact ⟨fun w => absurd w (by decide), fun _ => by rw [u]; rw [show a / b + 1 - 1 = a / b by omega]; exact h⟩
    · rw [if_neg k]
      rw [if_neg k] at u
      rw [u]
      exact ⟨fun _ => h, fun w => absurd (by split <;> decide) w⟩
/-- a coordinate of the place of a crossing of h and w at level l -/
def pl (X Z : Nat → Int) (l : Int) (h w : Nat) : Int := X w + ((X h - X w) * (2 * l + 1 - 2 * Z w)) / (2 * (Z h - Z w))
theorem pl_b {X Z : Nat → Int} {l : Int} {h w : Nat} (xh : 0 ≤ X h ∧ X h ≤ 63) (xw : 0 ≤ X w ∧ X w ≤ 63) (z1 : Z w ≤ l) (z2 : l < Z h) : 0 ≤ pl X Z l h w ∧ pl X Z l h w ≤ 63 := by
  unfold pl
  generalize hD : 2 * (Z h - Z w) = D
  generalize hp : 2 * l + 1 - 2 * Z w = p
  have p1 : 0 < p := by omega
  have p2 : p < D := by omega
  have D0 : 0 < D := by omega
  generalize hd : X h - X w = d
  rcases Int.le_total 0 d with k | k
  · have a1 : 0 ≤ d * p := Int.mul_nonneg k (by omega)
    have a2 : d * p ≤ d * D := Int.mul_le_mul_of_nonneg_left (by omega) k
    have b1 : 0 ≤ d * p / D := Int.ediv_nonneg a1 (by omega)
    have b2 : d * p / D ≤ d := Int.ediv_le_of_le_mul D0 a2
    omega
  · have a1 : d * p ≤ 0 := Int.mul_nonpos_of_nonpos_of_nonneg k (by omega)
    have a2 : d * D ≤ d * p := Int.mul_le_mul_of_nonpos_left k (by omega)
    have b1 : d ≤ d * p / D := Int.le_ediv_of_mul_le D0 a2
    have b2 : d * p / D ≤ 0 := Int.ediv_le_of_le_mul D0 (by omega)
    omega
