/-! What the methods of Spots, and the reference's sisters, answer: in whole numbers. -/
theorem ix_nI {a : Nat} (h : a < 2147483648) : ix (nI a) = a := nI_clamp (by omega)
theorem nb_0 : narrow .boolean (.int 0) = .int 0 := by decide
theorem nb_1 : narrow .boolean (.int 1) = .int 1 := by decide
theorem vn_0 : vp_nar .boolean 0 = 0 := by decide
theorem vn_1 : vp_nar .boolean 1 = 1 := by decide
theorem iI_0 : iI 0 = 0 := rfl
theorem iI_1 : iI 1 = 1 := rfl
theorem iI_m1 : iI (-1) = -1 := rfl
theorem jI_0 : jI 0 = 0 := rfl
theorem jI_1 : jI 1 = 1 := rfl
/-- the spots of the class -/
def sC (g : St) (n : Nat) (X Y Z : Nat → Int) : Prop := ge_ok X Y n ∧ (∀ v, v < n → 0 ≤ Z v ∧ Z v ≤ 999) ∧ g 1 3 = nI n ∧ ∀ v, v < n → g 5 v = iI (X v) ∧ g 6 v = iI (Y v) ∧ g 7 v = iI (Z v)
/-- the spots of the reference -/
def sM (g : St) (n : Nat) (X Y Z : Nat → Int) : Prop := ge_ok X Y n ∧ (∀ v, v < n → 0 ≤ Z v ∧ Z v ≤ 999) ∧ g 0 1 = nI n ∧ ∀ v, v < n → g 1 v = iI (X v) ∧ g 2 v = iI (Y v) ∧ g 3 v = iI (Z v)
section
variable {g : St} {n : Nat} {X Y Z : Nat → Int}
theorem sC.v16 (h : sC g n X Y Z) {a : Nat} (ha : a < n) : vp_in (nI a) 16 := vp_in_nI (by have := h.1.1; omega) (by omega)
theorem sC.ix (h : sC g n X Y Z) {a : Nat} (ha : a < n) : ix (nI a) = a := ix_nI (by have := h.1.1; omega)
theorem sM.v16 (h : sM g n X Y Z) {a : Nat} (ha : a < n) : vp_in (nI a) 16 := vp_in_nI (by have := h.1.1; omega) (by omega)
theorem sM.ix (h : sM g n X Y Z) {a : Nat} (ha : a < n) : ix (nI a) = a := ix_nI (by have := h.1.1; omega)
/-- twice the area to a place -/
def ge_p (X Y : Nat → Int) (a b : Nat) (x y : Int) : Int := (X b - X a) * (y - Y a) - (Y b - Y a) * (x - X a)
theorem ge_p_t (X Y : Nat → Int) (a b c : Nat) : ge_p X Y a b (X c) (Y c) = ge_t X Y a b c := rfl
theorem sp_turnTo {a b : Nat} {x y : Int} {post : Int32 → St → Prop} (hS : sC g n X Y Z) (ha : a < n) (hb : b < n) (h : post (iI (ge_p X Y a b x y)) g) : wp_sp_turnTo (nI a) (nI b) (iI x) (iI y) g post := by
  obtain ⟨a1, a2, -⟩ := hS.2.2.2 a ha
  obtain ⟨b1, b2, -⟩ := hS.2.2.2 b hb
  have va := hS.v16 ha
  have vb := hS.v16 hb
  unfold wp_sp_turnTo
  simp only [hS.ix ha, hS.ix hb, a1, a2, b1, b2, iI_sub, iI_mul]
  exact ⟨vb, va, va, vb, va, va, h⟩
theorem sp_turn {a b c : Nat} {post : Int32 → St → Prop} (hS : sC g n X Y Z) (ha : a < n) (hb : b < n) (hc : c < n) (h : post (iI (ge_t X Y a b c)) g) : wp_sp_turn (nI a) (nI b) (nI c) g post := by
  obtain ⟨c1, c2, -⟩ := hS.2.2.2 c hc
  unfold wp_sp_turn
  simp only [hS.ix hc, c1, c2]
  exact ⟨hS.v16 hc, hS.v16 hc, sp_turnTo hS ha hb h⟩
theorem ge_tb {X Y : Nat → Int} {n : Nat} (h : ge_ok X Y n) {a b c : Nat} (ha : a < n) (hb : b < n) (hc : c < n) : -2147483648 ≤ ge_t X Y a b c ∧ ge_t X Y a b c < 2147483648 := by
  have := ge_t_b h ha hb hc
  omega
theorem mo_turn {a b c : Nat} {post : Int32 → St → Prop} (hS : sM g n X Y Z) (ha : a < n) (hb : b < n) (hc : c < n) (h : post (iI (ge_t X Y a b c)) g) : wp_mo_turn (nI a) (nI b) (nI c) g post := by
  obtain ⟨a1, a2, -⟩ := hS.2.2.2 a ha
  obtain ⟨b1, b2, -⟩ := hS.2.2.2 b hb
  obtain ⟨c1, c2, -⟩ := hS.2.2.2 c hc
  have va := hS.v16 ha
  have vb := hS.v16 hb
  have vc := hS.v16 hc
  unfold wp_mo_turn
  simp only [hS.ix ha, hS.ix hb, hS.ix hc, a1, a2, b1, b2, c1, c2, iI_sub, iI_mul]
  exact ⟨vb, va, vc, va, vb, va, vc, va, h⟩
/-- a difference of two places of the map as a long -/
theorem iI_dl {x y : Int} (h1 : 0 ≤ x) (h2 : x ≤ 63) (h3 : 0 ≤ y) (h4 : y ≤ 63) : (iI (x - y)).toInt64 = jI (x - y) := iI_long (by omega) (by omega)
theorem sp_square {d s : Nat} {post : Int64 → St → Prop} (hS : sC g n X Y Z) (hd : d < n) (hs : s < n) (h : post (jI (ge_q X Y s d)) g) : wp_sp_squareFrom (nI d) (nI s) g post := by
  obtain ⟨a1, a2, -⟩ := hS.2.2.2 d hd
  obtain ⟨b1, b2, -⟩ := hS.2.2.2 s hs
  obtain ⟨d1, d2, d3, d4⟩ := hS.1.2.1 d hd
  obtain ⟨s1, s2, s3, s4⟩ := hS.1.2.1 s hs
  unfold wp_sp_squareFrom
  simp only [hS.ix hd, hS.ix hs, a1, a2, b1, b2, iI_sub]
  rw [iI_dl s1 s2 d1 d2, iI_dl s3 s4 d3 d4]
  simp only [jI_mul, jI_add]
  exact ⟨hS.v16 hs, hS.v16 hd, hS.v16 hs, hS.v16 hd, h⟩
theorem mo_square {a b : Nat} {post : Int64 → St → Prop} (hS : sM g n X Y Z) (ha : a < n) (hb : b < n) (h : post (jI (ge_q X Y a b)) g) : wp_mo_square (nI a) (nI b) g post := by
  obtain ⟨a1, a2, -⟩ := hS.2.2.2 a ha
  obtain ⟨b1, b2, -⟩ := hS.2.2.2 b hb
  obtain ⟨d1, d2, d3, d4⟩ := hS.1.2.1 a ha
  obtain ⟨s1, s2, s3, s4⟩ := hS.1.2.1 b hb
  have va := hS.v16 ha
  have vb := hS.v16 hb
  unfold wp_mo_square
  simp only [hS.ix ha, hS.ix hb, a1, a2, b1, b2, iI_sub]
  rw [iI_dl d1 d2 s1 s2, iI_dl d3 d4 s3 s4]
  simp only [jI_mul, jI_add]
  exact ⟨va, vb, va, vb, va, vb, va, vb, h⟩
theorem ge_qb {X Y : Nat → Int} {n : Nat} (h : ge_ok X Y n) {a b : Nat} (ha : a < n) (hb : b < n) : 0 ≤ ge_q X Y a b ∧ ge_q X Y a b ≤ 7938 := by
  obtain ⟨a1, a2, a3, a4⟩ := h.2.1 a ha
  obtain ⟨b1, b2, b3, b4⟩ := h.2.1 b hb
  have p := ge_mb (x := X a - X b) (y := X a - X b) (by omega) (by omega) (by omega) (by omega)
  have q := ge_mb (x := Y a - Y b) (y := Y a - Y b) (by omega) (by omega) (by omega) (by omega)
  have r : 0 ≤ (X a - X b) * (X a - X b) := by rcases Int.le_total 0 (X a - X b) with h | h; exact Int.mul_nonneg h h; exact Int.mul_nonneg_of_nonpos_of_nonpos h h
  have s : 0 ≤ (Y a - Y b) * (Y a - Y b) := by rcases Int.le_total 0 (Y a - Y b) with h | h; exact Int.mul_nonneg h h; exact Int.mul_nonneg_of_nonpos_of_nonpos h h
  unfold ge_q
  omega
theorem ge_qt {q t : Int} (h1 : 0 ≤ q) (h2 : q ≤ 7938) (h3 : -7938 ≤ t) (h4 : t ≤ 7938) : -63011844 ≤ q * t ∧ q * t ≤ 63011844 := by
  have a := Int.mul_nonneg (a := q) (b := 7938 - t) (by omega) (by omega)
  have b := Int.mul_nonneg (a := q) (b := 7938 + t) (by omega) (by omega)
  simp only [Int.mul_sub, Int.mul_add] at a b
  omega
theorem ge_ib {X Y : Nat → Int} {n : Nat} (h : ge_ok X Y n) {a b c d : Nat} (ha : a < n) (hb : b < n) (hc : c < n) (hd : d < n) : -189035532 ≤ ge_i X Y a b c d ∧ ge_i X Y a b c d ≤ 189035532 := by
  have q1 := ge_qb h ha hd
  have q2 := ge_qb h hb hd
  have q3 := ge_qb h hc hd
  have t1 := ge_t_b h hd hb hc
  have t2 := ge_t_b h hd ha hc
  have t3 := ge_t_b h hd ha hb
  have p1 := ge_qt q1.1 q1.2 t1.1 t1.2
  have p2 := ge_qt q2.1 q2.2 t2.1 t2.2
  have p3 := ge_qt q3.1 q3.2 t3.1 t3.2
  unfold ge_i
  omega
theorem sp_depth {a b c d : Nat} {post : Int64 → St → Prop} (hS : sC g n X Y Z) (ha : a < n) (hb : b < n) (hc : c < n) (hd : d < n) (h : post (jI (ge_dep X Y a b c d)) g) : wp_sp_depthInCircle (nI a) (nI b) (nI c) (nI d) g post := by
  have b1 := ge_tb hS.1 hd hb hc
  have b2 := ge_tb hS.1 hd ha hc
  have b3 := ge_tb hS.1 hd ha hb
  have b4 := ge_tb hS.1 ha hb hc
  unfold wp_sp_depthInCircle
  refine sp_square hS hd ha (sp_turn hS hd hb hc (sp_square hS hd hb (sp_turn hS hd ha hc (sp_square hS hd hc (sp_turn hS hd ha hb (sp_turn hS ha hb hc ?_))))))
  rw [iI_long b1.1 b1.2, iI_long b2.1 b2.2, iI_long b3.1 b3.2]
  simp only [jI_mul, jI_sub, jI_add, jI_neg]
  have e : ge_q X Y a d * ge_t X Y d b c - ge_q X Y b d * ge_t X Y d a c + ge_q X Y c d * ge_t X Y d a b = ge_i X Y a b c d := rfl
  rw [e]
  have z : (iI (ge_t X Y a b c) ≤ 0) ↔ ¬ 0 < ge_t X Y a b c := by
    rw [← iI_0, iI_le b4.1 b4.2 (by omega) (by omega)]; omega
  unfold ge_dep at h
  constructor
  · intro k; rw [if_neg (z.mp k)] at h; exact h
  · intro k; rw [if_pos (Classical.not_not.mp (fun q => k (z.mpr q)))] at h; exact h
theorem mo_inside {a b c d : Nat} {post : Int64 → St → Prop} (hS : sM g n X Y Z) (ha : a < n) (hb : b < n) (hc : c < n) (hd : d < n) (h : post (jI (ge_dep X Y a b c d)) g) : wp_mo_inside (nI a) (nI b) (nI c) (nI d) g post := by
  have b1 := ge_tb hS.1 hd hb hc
  have b2 := ge_tb hS.1 hd hc ha
  have b3 := ge_tb hS.1 hd ha hb
  have b4 := ge_tb hS.1 ha hb hc
  unfold wp_mo_inside
  refine mo_square hS ha hd (mo_turn hS hd hb hc (mo_square hS hb hd (mo_turn hS hd hc ha (mo_square hS hc hd (mo_turn hS hd ha hb (mo_turn hS ha hb hc ?_))))))
  rw [iI_long b1.1 b1.2, iI_long b2.1 b2.2, iI_long b3.1 b3.2]
  simp only [jI_mul, jI_add, jI_neg]
  have e : ge_q X Y a d * ge_t X Y d b c + ge_q X Y b d * ge_t X Y d c a + ge_q X Y c d * ge_t X Y d a b = ge_i X Y a b c d := by
    unfold ge_i; rw [ge_t_sw X Y d a c]; grind
  rw [e]
  have z : (iI (ge_t X Y a b c) ≤ 0) ↔ ¬ 0 < ge_t X Y a b c := by
    rw [← iI_0, iI_le b4.1 b4.2 (by omega) (by omega)]; omega
  unfold ge_dep at h
  constructor
  · intro k; rw [if_neg (z.mp k)] at h; exact h
  · intro k; rw [if_pos (Classical.not_not.mp (fun q => k (z.mpr q)))] at h; exact h
theorem ge_depb {X Y : Nat → Int} {n : Nat} (h : ge_ok X Y n) {a b c d : Nat} (ha : a < n) (hb : b < n) (hc : c < n) (hd : d < n) : -9223372036854775808 ≤ ge_dep X Y a b c d ∧ ge_dep X Y a b c d < 9223372036854775808 := by
  have := ge_ib h ha hb hc hd
  unfold ge_dep
  split <;> omega
/-- the sign of three -/
theorem jI_cmp0 {z : Int} (h1 : -9223372036854775808 ≤ z) (h2 : z < 9223372036854775808) : lg_cmp (jI z) 0 = if 0 < z then 1 else if z = 0 then 0 else (-1) := by
  rw [← jI_0]; exact jI_cmp h1 h2 (by omega) (by omega)
theorem sp_opposite {a d b c : Nat} {post : Int32 → St → Prop} (hS : sC g n X Y Z) (ha : a < n) (hd : d < n) (hb : b < n) (hc : c < n)
    (h0 : ((0 < ge_t X Y a d b) ↔ (0 < ge_t X Y a d c)) → post 0 g) (h1 : ¬ ((0 < ge_t X Y a d b) ↔ (0 < ge_t X Y a d c)) → post 1 g) : wp_sp_areOpposite (nI a) (nI d) (nI b) (nI c) g post := by
  have b1 := ge_tb hS.1 ha hd hb
  have b2 := ge_tb hS.1 ha hd hc
  have z1 : (iI (ge_t X Y a d b) ≤ 0) ↔ ¬ 0 < ge_t X Y a d b := by rw [← iI_0, iI_le b1.1 b1.2 (by omega) (by omega)]; omega
  have z2 : (iI (ge_t X Y a d c) ≤ 0) ↔ ¬ 0 < ge_t X Y a d c := by rw [← iI_0, iI_le b2.1 b2.2 (by omega) (by omega)]; omega
  unfold wp_sp_areOpposite
  refine sp_turn hS ha hd hb ⟨fun k => ?_, fun k => ?_⟩ <;> (unfold jn_sp_areOpposite_J15; refine sp_turn hS ha hd hc ⟨fun k2 => ⟨fun q => ?_, fun q => ?_⟩, fun k2 => ⟨fun q => ?_, fun q => ?_⟩⟩)
  · exact h0 ⟨fun u => absurd u (z1.mp k), fun u => absurd u (z2.mp k2)⟩
  · exact absurd rfl q
  · exact absurd q (by decide)
  · exact h1 (fun u => z1.mp k (u.mpr (Classical.not_not.mp (fun q => k2 (z2.mpr q)))))
  · exact absurd q (by decide)
  · exact h1 (fun u => z2.mp k2 (u.mp (Classical.not_not.mp (fun q => k (z1.mpr q)))))
  · exact h0 ⟨fun _ => Classical.not_not.mp (fun q => k2 (z2.mpr q)), fun _ => Classical.not_not.mp (fun q => k (z1.mpr q))⟩
  · exact absurd rfl q
theorem mo_parts {d a b c : Nat} {post : Int32 → St → Prop} (hS : sM g n X Y Z) (hd : d < n) (ha : a < n) (hb : b < n) (hc : c < n)
    (h0 : ((0 < ge_t X Y d a b) ↔ (0 < ge_t X Y d a c)) → post 0 g) (h1 : ¬ ((0 < ge_t X Y d a b) ↔ (0 < ge_t X Y d a c)) → post 1 g) : wp_mo_parts (nI d) (nI a) (nI b) (nI c) g post := by
  have b1 := ge_tb hS.1 hd ha hb
  have b2 := ge_tb hS.1 hd ha hc
  have z1 : (iI (ge_t X Y d a b) ≤ 0) ↔ ¬ 0 < ge_t X Y d a b := by rw [← iI_0, iI_le b1.1 b1.2 (by omega) (by omega)]; omega
  have z2 : (iI (ge_t X Y d a c) ≤ 0) ↔ ¬ 0 < ge_t X Y d a c := by rw [← iI_0, iI_le b2.1 b2.2 (by omega) (by omega)]; omega
  unfold wp_mo_parts
  refine mo_turn hS hd ha hb ⟨fun k => ?_, fun k => ?_⟩ <;> (unfold jn_mo_parts_J15; refine mo_turn hS hd ha hc ⟨fun k2 => ⟨fun q => ?_, fun q => ?_⟩, fun k2 => ⟨fun q => ?_, fun q => ?_⟩⟩)
  · exact h0 ⟨fun u => absurd u (z1.mp k), fun u => absurd u (z2.mp k2)⟩
  · exact absurd rfl q
  · exact absurd q (by decide)
  · exact h1 (fun u => z1.mp k (u.mpr (Classical.not_not.mp (fun q => k2 (z2.mpr q)))))
  · exact absurd q (by decide)
  · exact h1 (fun u => z2.mp k2 (u.mp (Classical.not_not.mp (fun q => k (z1.mpr q)))))
  · exact h0 ⟨fun _ => Classical.not_not.mp (fun q => k2 (z2.mpr q)), fun _ => Classical.not_not.mp (fun q => k (z1.mpr q))⟩
  · exact absurd rfl q
/-- d is in the circle through a < b < c: the class -/
theorem sp_in {a b c d : Nat} {post : Int32 → St → Prop} (hS : sC g n X Y Z) (ha : a < n) (hb : b < n) (hc : c < n) (hd : d < n) (h0 : ¬ ge_In X Y a b c d → post 0 g) (h1 : ge_In X Y a b c d → post 1 g) : wp_sp_isInCircle (nI a) (nI b) (nI c) (nI d) g post := by
  have b1 := ge_depb hS.1 ha hb hc hd
  have n16 := hS.1.1
  unfold wp_sp_isInCircle
  refine sp_depth hS ha hb hc hd ?_
  rw [jI_cmp0 b1.1 b1.2]
  unfold ge_In at h0 h1
  by_cases p : 0 < ge_dep X Y a b c d
  · rw [if_pos p]
    exact ⟨fun q => absurd q (by decide), fun _ => ⟨fun q => absurd q (by decide), fun _ => h1 (Or.inl p)⟩⟩
  · rw [if_neg p]
    by_cases z : ge_dep X Y a b c d = 0
    · rw [if_pos z]
      refine ⟨fun _ => ⟨fun q => ?_, fun q => ?_⟩, fun q => absurd rfl q⟩
      · have : d ≤ a := (nI_leI (by omega) (by omega)).mp q
        exact h0 (fun u => by rcases u with u | u; exact p u; omega)
      · have da : ¬ d ≤ a := fun u => q ((nI_leI (by omega) (by omega)).mpr u)
        refine sp_opposite hS ha hd hb hc (fun u => ?_) (fun u => ?_)
        · exact ⟨fun q => absurd rfl q, fun _ => h1 (Or.inr ⟨z, by omega, u⟩)⟩
        · exact ⟨fun _ => h0 (fun w => by rcases w with w | w; exact p w; exact u w.2.2), fun q => absurd q (by decide)⟩
    · rw [if_neg z]
      exact ⟨fun q => absurd q (by decide), fun _ => ⟨fun _ => h0 (fun u => by rcases u with u | u; exact p u; exact z u.1), fun q => absurd (by decide) q⟩⟩
/-- .. and the reference -/
theorem mo_in {a b c d : Nat} {post : Int32 → St → Prop} (hS : sM g n X Y Z) (hab : a < b) (hbc : b < c) (hc : c < n) (hd : d < n) (nda : d ≠ a) (ndb : d ≠ b) (ndc : d ≠ c) (ht : ge_t X Y a b c ≠ 0) (h0 : ¬ ge_In X Y a b c d → post 0 g) (h1 : ge_In X Y a b c d → post 1 g) : wp_mo_isIn (nI a) (nI b) (nI c) (nI d) g post := by
  have ha : a < n := by omega
  have hb : b < n := by omega
  have b1 := ge_depb hS.1 ha hb hc hd
  have n16 := hS.1.1
  have le : ∀ {u v : Nat}, u < n → v < n → (nI u ≤ nI v ↔ u ≤ v) := fun hu hv => nI_leI (by omega) (by omega)
  have eq : ∀ {u v : Nat}, u < n → v < n → (nI u = nI v ↔ u = v) := fun hu hv => nI_eq (by omega) (by omega)
  unfold wp_mo_isIn
  refine mo_inside hS ha hb hc hd ?_
  rw [jI_cmp0 b1.1 b1.2]
  by_cases p : 0 < ge_dep X Y a b c d
  · rw [if_pos p]
    exact ⟨fun q => absurd q (by decide), fun _ => ⟨fun q => absurd q (by decide), fun _ => h1 (Or.inl p)⟩⟩
  · rw [if_neg p]
    by_cases z : ge_dep X Y a b c d = 0
    · rw [if_pos z]
      have zi : ge_i X Y a b c d = 0 := by
        unfold ge_dep at z
        split at z
        · exact z
        · omega
      obtain ⟨c1, c2, c3, -⟩ := ge_circ hS.1 ha hb hc hd (by omega) (by omega) (by omega) (by omega) (by omega) (by omega) ht zi
      have f1 : ge_t X Y d a b = ge_t X Y a b d := (ge_t_rot X Y d a b).symm
      have f2 : ge_t X Y d a c = ge_t X Y a c d := (ge_t_rot X Y d a c).symm
      have f3 : ge_t X Y a d b = -ge_t X Y a b d := ge_t_sw X Y a b d
      have f4 : ge_t X Y a d c = -ge_t X Y a c d := ge_t_sw X Y a c d
      have same : ((0 < ge_t X Y d a b) ↔ (0 < ge_t X Y d a c)) ↔ ((0 < ge_t X Y a d b) ↔ (0 < ge_t X Y a d c)) := by
        rw [f1, f2, f3, f4]
        by_cases x : 0 < ge_t X Y a b d <;> by_cases y : 0 < ge_t X Y a c d
        · exact ⟨fun _ => ⟨fun u => by omega, fun u => by omega⟩, fun _ => ⟨fun _ => y, fun _ => x⟩⟩
        · exact ⟨fun u => absurd (u.mp x) y, fun u => by have : 0 < -ge_t X Y a b d := u.mpr (by omega); omega⟩
        · exact ⟨fun u => absurd (u.mpr y) x, fun u => by have : 0 < -ge_t X Y a c d := u.mp (by omega); omega⟩
        · exact ⟨fun _ => ⟨fun _ => by omega, fun _ => by omega⟩, fun _ => ⟨fun u => absurd u x, fun u => absurd u y⟩⟩
      -- behind the opposite one o
      have tail : ∀ o : Nat, o < n → (a < d → (o = a ↔ ¬ ((0 < ge_t X Y a d b) ↔ (0 < ge_t X Y a d c)))) → jn_mo_isIn_J64 (nI a) (nI b) (nI c) (nI d) (nI o) g post := by
        intro o ho io
        unfold jn_mo_isIn_J64
        refine ⟨fun q => absurd ((le hb ha).mp q) (by omega), fun _ => ?_⟩
        unfold jn_mo_isIn_J76
        refine ⟨fun _ => ?_, fun q => absurd ((le ha hc).mpr (by omega)) q⟩
        unfold jn_mo_isIn_J90
        refine ⟨fun q => ?_, fun q => ?_⟩
        · have ad : a < d := by have := (le ha hd).mp q; omega
          unfold jn_mo_isIn_J106
          refine ⟨fun k => absurd ((eq ha hd).mp k) (by omega), fun _ => ⟨fun k => ?_, fun k => ?_⟩⟩
          · have e := (eq ha ho).mp k
            exact h0 (fun u => by rcases u with u | u; exact p u; exact (io ad).mp e.symm u.2.2)
          · have e : ¬ o = a := fun e => k (by rw [e])
            exact h1 (Or.inr ⟨z, ad, Classical.not_not.mp (fun u => e ((io ad).mpr u))⟩)
        · have da : ¬ a ≤ d := fun u => q ((le ha hd).mpr u)
          unfold jn_mo_isIn_J106
          refine ⟨fun _ => h0 (fun u => by rcases u with u | u; exact p u; omega), fun k => absurd rfl k⟩
      refine ⟨fun _ => ?_, fun q => absurd rfl q⟩
      refine mo_parts hS hd ha hb hc (fun u => ?_) (fun u => ?_)
      · refine ⟨fun _ => ?_, fun q => absurd rfl q⟩
        refine mo_parts hS hd hb ha hc (fun v => ?_) (fun v => ?_)
        · exact ⟨fun _ => tail c hc (fun _ => ⟨fun e => by omega, fun e => absurd (same.mp u) e⟩), fun q => absurd rfl q⟩
        · exact ⟨fun q => absurd q (by decide), fun _ => tail b hb (fun _ => ⟨fun e => by omega, fun e => absurd (same.mp u) e⟩)⟩
      · exact ⟨fun q => absurd q (by decide), fun _ => tail a ha (fun _ => ⟨fun _ e => u (same.mpr e), fun _ => rfl⟩)⟩
    · rw [if_neg z]
      exact ⟨fun q => absurd q (by decide), fun _ => ⟨fun _ => h0 (fun u => by rcases u with u | u; exact p u; exact z u.1), fun q => absurd (by decide) q⟩⟩
end
