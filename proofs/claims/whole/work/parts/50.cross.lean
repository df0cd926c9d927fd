/-! The places of crossings on both sides, and the height at a place. -/
theorem xor_neg (x y : Int32) : x ^^^ y < 0 ↔ ¬ (x < 0 ↔ y < 0) := by
  have m : ∀ z : Int32, z < 0 ↔ z.toBitVec.msb = true := fun z => by
    rw [Int32.lt_iff_toInt_lt]
    have : (0 : Int32).toInt = 0 := by decide
    rw [this]
    show z.toBitVec.toInt < 0 ↔ _
    rw [BitVec.msb_eq_toInt]
    simp
  rw [m, m, m]
  have : (x ^^^ y).toBitVec = x.toBitVec ^^^ y.toBitVec := rfl
  rw [this, BitVec.msb_xor]
  cases x.toBitVec.msb <;> cases y.toBitVec.msb <;> simp
theorem sp_fdiv {g : St} {a b : Int} {post : Int32 → St → Prop} (h1 : -1000000000 ≤ a) (h2 : a ≤ 1000000000) (h3 : 0 < b) (h4 : b ≤ 1000000000) (h : post (iI (a / b)) g) : wp_floorDiv (iI a) (iI b) g post := by
  have q := td_b h3 h1 h2
  have u := td_up (a := a) h3
  have r1 := Int.mul_ediv_add_emod a b
  have r2 := Int.emod_nonneg a (Int.ne_of_gt h3)
  have r3 := Int.emod_lt_of_pos a h3
  have pb : -2000000000 ≤ a.tdiv b * b ∧ a.tdiv b * b ≤ 2000000000 := by
    rw [u]
    split
    · rw [Int.add_mul, Int.one_mul, Int.mul_comm]; omega
    · rw [Int.mul_comm]; omega
  have z1 : iI a < 0 ↔ a < 0 := by rw [← iI_0, iI_lt (by omega) (by omega) (by omega) (by omega)]
  have z2 : ¬ iI b < 0 := by rw [← iI_0, iI_lt (by omega) (by omega) (by omega) (by omega)]; omega
  have x := xor_neg (iI a) (iI b)
  have ge : ∀ w : Int32, 0 ≤ w ↔ ¬ w < 0 := fun w => by rw [Int32.not_lt]
  unfold wp_floorDiv
  rw [iI_tdiv h1 h2 h3 h4, iI_mul, iI_eq (by omega) (by omega) (by omega) (by omega), ge]
  refine ⟨fun e => ?_, fun k => ?_, fun k => ⟨fun e => ?_, fun e => ?_⟩⟩
  · rw [← iI_0, iI_eq (by omega) (by omega) (by omega) (by omega)] at e; omega
  · have : 0 ≤ a := Int.not_lt.mp (fun w => k (x.mpr (fun e => z2 (e.mp (z1.mpr w)))))
    rw [Int.tdiv_eq_ediv_of_nonneg this]; exact h
  · rw [if_neg (by omega)] at u
    rw [u]; exact h
  · have na : a < 0 := Classical.byContradiction fun w => k (fun q => x.mp q ⟨fun y => absurd (z1.mp y) w, fun y => absurd y z2⟩)
    by_cases k2 : a.tdiv b * b > a
    · rw [if_pos k2] at u
      rw [u, ← iI_1, iI_sub, show a / b + 1 - 1 = a / b by omega]; exact h
    · exfalso
      rw [if_neg k2] at u
      -- a quotient of a number below 0, rounded to 0, is no less
      obtain ⟨m, rfl⟩ : ∃ m, a = -m := ⟨-a, by omega⟩
      rw [Int.neg_tdiv, Int.tdiv_eq_ediv_of_nonneg (by omega)] at k2 e
      have g1 := Int.mul_ediv_add_emod m b
      have g2 := Int.emod_nonneg m (Int.ne_of_gt h3)
      have e2 : -(m / b) * b = -(b * (m / b)) := by rw [Int.neg_mul, Int.mul_comm]
      rw [e2] at k2 e
      omega
section
variable {g : St} {n : Nat} {X Y Z : Nat → Int} {l : Int}
theorem pl_part {X Z : Nat → Int} {h w : Nat} (xh : 0 ≤ X h ∧ X h ≤ 63) (xw : 0 ≤ X w ∧ X w ≤ 63) (zw : 0 ≤ Z w ∧ Z w ≤ 999) (hl : 0 ≤ l ∧ l ≤ 998) : -200000 ≤ (X h - X w) * (2 * l + 1 - 2 * Z w) ∧ (X h - X w) * (2 * l + 1 - 2 * Z w) ≤ 200000 := by
  have a1 : -63 ≤ X h - X w := by omega
  have a2 : X h - X w ≤ 63 := by omega
  have b1 : -2000 ≤ 2 * l + 1 - 2 * Z w := by omega
  have b2 : 2 * l + 1 - 2 * Z w ≤ 2000 := by omega
  generalize X h - X w = d at *
  generalize 2 * l + 1 - 2 * Z w = p at *
  have c1 := Int.mul_nonneg (a := 63 - d) (b := 2000 + p) (by omega) (by omega)
  have c2 := Int.mul_nonneg (a := 63 + d) (b := 2000 - p) (by omega) (by omega)
  have c3 := Int.mul_nonneg (a := 63 - d) (b := 2000 - p) (by omega) (by omega)
  have c4 := Int.mul_nonneg (a := 63 + d) (b := 2000 + p) (by omega) (by omega)
  simp only [Int.sub_mul, Int.mul_sub, Int.add_mul, Int.mul_add] at c1 c2 c3 c4
  omega
theorem sp_crossX {x : Nat} {post : Int32 → St → Prop} (hS : sC g n X Y Z) (hl : 0 ≤ l ∧ l ≤ 998) (hx : cS X Y Z n l x) (h : post (iI (pl X Z l (x / 16) (x % 16))) g) : wp_sp_crossingX (nI x) (iI l) g post := by
  obtain ⟨x1, x2, x3, -⟩ := cS_lt hS.1 hx
  have n16 := hS.1.1
  obtain ⟨a1, a2, a3⟩ := hS.2.2.2 _ x2
  obtain ⟨b1, b2, b3⟩ := hS.2.2.2 _ x3
  have q1 := hS.1.2.1 _ x2
  have q2 := hS.1.2.1 _ x3
  have z1 := hS.2.1 _ x2
  have z2 := hS.2.1 _ x3
  have hh : l < Z (x / 16) := hx.1.1
  have hw : Z (x % 16) ≤ l := Int.not_lt.mp hx.1.2
  have pb := pl_part (X := X) (Z := Z) (h := x / 16) (w := x % 16) ⟨q1.1, q1.2.1⟩ ⟨q2.1, q2.2.1⟩ z2 hl
  unfold wp_sp_crossingX wp_sp_crossingOf_5 wp_sc_highOf wp_sc_lowOf
  try dsimp only
  rw [pk_16r (by omega), pk_16d (by omega), hS.ix x2, hS.ix x3, a1, b1, a3, b3, show (2 : Int32) = iI 2 from rfl, ← iI_1, iI_sub, iI_sub, iI_mul, iI_mul, iI_mul, iI_add, iI_sub, iI_mul]
  have v1 := hS.v16 x2
  have v2 := hS.v16 x3
  refine ⟨v1, v2, fun _ => ⟨v1, v2, v2, v2, sp_fdiv (by omega) (by omega) (by omega) (by omega) ?_⟩, fun k => absurd ?_ k⟩
  · rw [iI_add]; exact h
  · rw [← iI_0, iI_lt (by omega) (by omega) (by omega) (by omega)]; omega
theorem sp_crossY {x : Nat} {post : Int32 → St → Prop} (hS : sC g n X Y Z) (hl : 0 ≤ l ∧ l ≤ 998) (hx : cS X Y Z n l x) (h : post (iI (pl Y Z l (x / 16) (x % 16))) g) : wp_sp_crossingY (nI x) (iI l) g post := by
  obtain ⟨x1, x2, x3, -⟩ := cS_lt hS.1 hx
  have n16 := hS.1.1
  obtain ⟨a1, a2, a3⟩ := hS.2.2.2 _ x2
  obtain ⟨b1, b2, b3⟩ := hS.2.2.2 _ x3
  have q1 := hS.1.2.1 _ x2
  have q2 := hS.1.2.1 _ x3
  have z1 := hS.2.1 _ x2
  have z2 := hS.2.1 _ x3
  have hh : l < Z (x / 16) := hx.1.1
  have hw : Z (x % 16) ≤ l := Int.not_lt.mp hx.1.2
  have pb := pl_part (X := Y) (Z := Z) (h := x / 16) (w := x % 16) ⟨q1.2.2.1, q1.2.2.2⟩ ⟨q2.2.2.1, q2.2.2.2⟩ z2 hl
  unfold wp_sp_crossingY wp_sp_crossingOf_6 wp_sc_highOf wp_sc_lowOf
  try dsimp only
  rw [pk_16r (by omega), pk_16d (by omega), hS.ix x2, hS.ix x3, a2, b2, a3, b3, show (2 : Int32) = iI 2 from rfl, ← iI_1, iI_sub, iI_sub, iI_mul, iI_mul, iI_mul, iI_add, iI_sub, iI_mul]
  have v1 := hS.v16 x2
  have v2 := hS.v16 x3
  refine ⟨v1, v2, fun _ => ⟨v1, v2, v2, v2, sp_fdiv (by omega) (by omega) (by omega) (by omega) ?_⟩, fun k => absurd ?_ k⟩
  · rw [iI_add]; exact h
  · rw [← iI_0, iI_lt (by omega) (by omega) (by omega) (by omega)]; omega
theorem mo_place {x : Nat} {post : Int32 → St → Prop} (hS : sM g n X Y Z) (hl : 0 ≤ l ∧ l ≤ 998) (hx : cS X Y Z n l x) (h : post (iI (64 * pl X Z l (x / 16) (x % 16) + pl Y Z l (x / 16) (x % 16))) g) : wp_mo_placeOf (iI l) (nI (ce x)) g post := by
  obtain ⟨x1, x2, x3, x4⟩ := cS_lt hS.1 hx
  have n16 := hS.1.1
  have c256 := ce_256 hS.1 hx
  obtain ⟨a1, a2, a3⟩ := hS.2.2.2 _ x2
  obtain ⟨b1, b2, b3⟩ := hS.2.2.2 _ x3
  have q1 := hS.1.2.1 _ x2
  have q2 := hS.1.2.1 _ x3
  have z1 := hS.2.1 _ x2
  have z2 := hS.2.1 _ x3
  have hh : l < Z (x / 16) := hx.1.1
  have hw : Z (x % 16) ≤ l := Int.not_lt.mp hx.1.2
  have pbX := pl_part (X := X) (Z := Z) (h := x / 16) (w := x % 16) ⟨q1.1, q1.2.1⟩ ⟨q2.1, q2.2.1⟩ z2 hl
  have pbY := pl_part (X := Y) (Z := Z) (h := x / 16) (w := x % 16) ⟨q1.2.2.1, q1.2.2.2⟩ ⟨q2.2.2.1, q2.2.2.2⟩ z2 hl
  have v1 := hS.v16 x2
  have v2 := hS.v16 x3
  -- the two spots of the edge
  have sum : ce x / 16 + ce x % 16 = x / 16 + x % 16 ∧ (ce x / 16 = x / 16 ∨ ce x / 16 = x % 16) ∧ (ce x / 16 = x / 16 ↔ ¬ ce x % 16 = x / 16) := by
    unfold ce; split <;> omega
  have J : jn_mo_placeOf_J23 (iI l) (nI (ce x)) (nI (x / 16)) g post := by
    unfold jn_mo_placeOf_J23
    try dsimp only
    rw [pk_16r (by omega), pk_16d (by omega), nI_add, sum.1, pk_sub (by omega), show x / 16 + x % 16 - x / 16 = x % 16 by omega, hS.ix x2, hS.ix x3, a1, b1, a3, b3, show (2 : Int32) = iI 2 from rfl, ← iI_1, iI_sub, iI_sub, iI_mul, iI_mul, iI_mul, iI_add, iI_sub]
    rw [iI_long (by omega) (by omega), iI_long (by omega) (by omega), iI_long (by omega) (by omega), jI_mul]
    refine ⟨v2, v1, v2, v2, v1, v2, mo_floor (by omega) (by omega) (by omega) (by omega) ⟨v2, v1, v2, ?_⟩⟩
    rw [a2, b2, iI_sub, iI_long (by omega) (by omega), jI_mul]
    refine mo_floor (by omega) (by omega) (by omega) (by omega) ?_
    rw [iI_long (by omega) (by omega), iI_long (by omega) (by omega), jI_add, jI_add, show (64 : Int64) = jI 64 from rfl, jI_mul, jI_add, jI_int]
    exact h
  unfold wp_mo_placeOf
  try dsimp only
  rw [pk_16r (by omega), pk_16d (by omega)]
  have hc1 : ce x / 16 < n := by rcases sum.2.1 with e | e <;> rw [e] <;> assumption
  refine mo_high hS hc1 hl (fun q => ⟨fun k => absurd k (by decide), fun _ => ?_⟩) (fun q => ⟨fun _ => ?_, fun k => absurd rfl k⟩)
  · have : ce x / 16 = x / 16 := by
      rcases sum.2.1 with e | e
      · exact e
      · rw [e] at q; exact absurd q hx.1.2
    rw [this]; exact J
  · have e1 : ce x / 16 = x % 16 := by
      rcases sum.2.1 with e | e
      · rw [e] at q; exact absurd hx.1.1 q
      · exact e
    have : ce x % 16 = x / 16 := by have := sum.1; omega
    rw [this]; exact J
/-- x and y out of the place again -/
theorem pl_back {a b : Int} (ha : 0 ≤ a ∧ a ≤ 63) (hb : 0 ≤ b ∧ b ≤ 63) : iI (64 * a + b) / 64 = iI a ∧ iI (64 * a + b) - iI (64 * a + b) / 64 * 64 = iI b := by
  have e : (64 : Int32) = iI 64 := rfl
  have d : iI (64 * a + b) / 64 = iI a := by
    rw [e, iI_div (by omega) (by omega) (by omega) (by omega)]
    congr 1
    omega
  rw [d]
  refine ⟨rfl, ?_⟩
  rw [e, iI_mul, iI_sub]
  congr 1
  omega
end
