/-! Triangles cover and do not overlap, as far as it is needed: round a spot, to one side of it, they follow one another; so sums round triangles that vanish come from a height of the spots. From that: the spots of a ring with the least x are all high or all low. Whole numbers alone. -/
/-- no four spots, three of which are not in a line, have determinant 0 -/
theorem ge_E_ne3 {X Y : Nat → Int} {n : Nat} (h : ge_ok X Y n) {a b c d : Nat} (hab : a < b) (hbc : b < c) (hc : c < n) (hd : d < n) (had : d ≠ a) (hbd : d ≠ b) (hcd : d ≠ c) (ht : ge_t X Y a b c ≠ 0) : ge_E X Y a b c d ≠ 0 := by
  have hn := h.1
  have ha : a < n := by omega
  have hb : b < n := by omega
  have k1 := ge_t_b h hb hc hd
  have k2 := ge_t_b h ha hc hd
  have k3 := ge_t_b h ha hb hd
  have k4 := ge_t_b h ha hb hc
  have wa := ge_w_pos a (by omega)
  have wb := ge_w_pos b (by omega)
  have wc := ge_w_pos c (by omega)
  have wd := ge_w_pos d (by omega)
  have m1 := ge_wt wa k1.1 k1.2
  have m2 := ge_wt wb k2.1 k2.2
  have m3 := ge_wt wc k3.1 k3.2
  have m4 := ge_wt wd k4.1 k4.2
  have Ka := ge_w_K a (by omega)
  have Kb := ge_w_K b (by omega)
  have Kc := ge_w_K c (by omega)
  have Kd := ge_w_K d (by omega)
  have ab := ge_w_lt a (by omega) b (by omega) hab
  have ac := ge_w_lt a (by omega) c (by omega) (by omega)
  have hE := ge_E_split X Y a b c d
  have hD : ge_D X Y ge_w a b c d = ge_w a * ge_t X Y b c d - ge_w b * ge_t X Y a c d + ge_w c * ge_t X Y a b d - ge_w d * ge_t X Y a b c := rfl
  rw [hD] at hE
  have Kp : 0 < ge_K := by decide +kernel
  generalize hi : ge_i X Y a b c d = i at hE ⊢
  rcases Int.lt_trichotomy i 0 with i1 | i1 | i1
  · have q := ge_small Kp (show i ≤ -1 by omega)
    omega
  · subst i1
    obtain ⟨n1, n2, n3, n4⟩ := ge_circ h ha hb hc hd (by omega) (by omega) (by omega) (by omega) (by omega) (by omega) ht hi
    rw [Int.mul_zero] at hE
    rcases Nat.lt_or_ge d a with l | l
    · have da := ge_w_lt d (by omega) a (by omega) l
      have db := ge_w_lt d (by omega) b (by omega) (by omega)
      have dc := ge_w_lt d (by omega) c (by omega) (by omega)
      rcases Int.lt_or_lt_of_ne ht with t | t
      · have q := ge_small wd (show ge_t X Y a b c ≤ -1 by omega)
        omega
      · have q := ge_big wd (show 1 ≤ ge_t X Y a b c by omega)
        omega
    · have ad := ge_w_lt a (by omega) d (by omega) (by omega)
      rcases Int.lt_or_lt_of_ne n1 with u | u
      · have q := ge_small wa (show ge_t X Y b c d ≤ -1 by omega)
        omega
      · have q := ge_big wa (show 1 ≤ ge_t X Y b c d by omega)
        omega
  · have q := ge_big Kp (show 1 ≤ i by omega)
    omega
theorem ge_E_rot (X Y : Nat → Int) (a b c d : Nat) : ge_E X Y b c a d = ge_E X Y a b c d := ge_D_rot X Y _ a b c d
theorem ge_E_sw (X Y : Nat → Int) (a b c d : Nat) : ge_E X Y a c b d = -ge_E X Y a b c d := ge_D_sw X Y _ a b c d
theorem ge_E_sw3 (X Y : Nat → Int) (a b c d : Nat) : ge_E X Y a b d c = -ge_E X Y a b c d := ge_D_sw3 X Y _ a b c d
theorem ge_E_ne {X Y : Nat → Int} {n : Nat} (h : ge_ok X Y n) {a b c d : Nat} (ha : a < n) (hb : b < n) (hc : c < n) (hd : d < n) (had : d ≠ a) (hbd : d ≠ b) (hcd : d ≠ c) (ht : ge_t X Y a b c ≠ 0) : ge_E X Y a b c d ≠ 0 := by
  obtain ⟨ab, ac, bc⟩ := ge_t_ne ht
  have r1 := ge_t_rot X Y a b c
  have r2 := ge_t_rot X Y b c a
  have s1 := ge_t_sw X Y a b c
  have s2 := ge_t_sw X Y b c a
  have s3 := ge_t_sw X Y c a b
  have R1 := ge_E_rot X Y a b c d
  have R2 := ge_E_rot X Y b c a d
  have S1 := ge_E_sw X Y a b c d
  have S2 := ge_E_sw X Y b c a d
  have S3 := ge_E_sw X Y c a b d
  rcases Nat.lt_or_gt_of_ne ab with l1 | l1 <;> rcases Nat.lt_or_gt_of_ne ac with l2 | l2 <;> rcases Nat.lt_or_gt_of_ne bc with l3 | l3
  · exact ge_E_ne3 h l1 l3 hc hd had hbd hcd ht
  · have := ge_E_ne3 h l2 l3 hb hd had hcd hbd (by omega); omega
  · omega
  · have := ge_E_ne3 h l2 l1 hb hd hcd had hbd (by omega); omega
  · have := ge_E_ne3 h l1 l2 hc hd hbd had hcd (by omega); omega
  · omega
  · have := ge_E_ne3 h l3 l2 ha hd hbd hcd had (by omega); omega
  · have := ge_E_ne3 h l3 l1 ha hd hcd hbd had (by omega); omega
/-! identities -/
theorem ge_id1 (X Y L : Nat → Int) (v u d k e : Nat) : ge_t X Y v u d * ge_D X Y L v u k e = ge_t X Y v u e * ge_D X Y L v u k d + ge_t X Y v u k * ge_D X Y L v u d e := by
  unfold ge_D ge_t; grind
theorem ge_id2 (X Y L : Nat → Int) (v u w p z : Nat) : -(ge_t X Y v p z) * ge_D X Y L v u w p = ge_t X Y v p w * ge_D X Y L v p z u + ge_t X Y v u p * ge_D X Y L v p z w := by
  unfold ge_D ge_t; grind
theorem ge_id3 (X Y L : Nat → Int) (v u p c z : Nat) : ge_t X Y v u c * ge_D X Y L v p z u + ge_t X Y v u z * ge_D X Y L v u c p = ge_t X Y v u p * ge_D X Y L v u c z := by
  unfold ge_D ge_t; grind
theorem ge_id4 (X Y : Nat → Int) (v u p z : Nat) : (ge_y X Y u - ge_y X Y v) * ge_t X Y v p z - (ge_y X Y p - ge_y X Y v) * ge_t X Y v u z + (ge_y X Y z - ge_y X Y v) * ge_t X Y v u p = 0 := by
  unfold ge_y ge_k ge_t; grind
/-! the signs of products -/
theorem ge_pp {a b : Int} (h1 : a < 0) (h2 : b < 0) : 0 < a * b := Int.mul_pos_of_neg_of_neg h1 h2
theorem ge_np {a b : Int} (h1 : a < 0) (h2 : 0 < b) : a * b < 0 := Int.mul_neg_of_neg_of_pos h1 h2
theorem ge_pn {a b : Int} (h1 : 0 < a) (h2 : b < 0) : a * b < 0 := Int.mul_neg_of_pos_of_neg h1 h2
theorem ge_ln {a b : Int} (h1 : a < 0) (h : 0 < a * b) : b < 0 := by
  rcases Int.lt_trichotomy b 0 with q | q | q
  · exact q
  · rw [q, Int.mul_zero] at h; omega
  · have := ge_np h1 q; omega
theorem ge_lp {a b : Int} (h1 : a < 0) (h : a * b < 0) : 0 < b := by
  rcases Int.lt_trichotomy b 0 with q | q | q
  · have := ge_pp h1 q; omega
  · rw [q, Int.mul_zero] at h; omega
  · exact q
theorem ge_rp {a b : Int} (h1 : 0 < a) (h : 0 < a * b) : 0 < b := by
  rcases Int.lt_trichotomy b 0 with q | q | q
  · have := ge_pn h1 q; omega
  · rw [q, Int.mul_zero] at h; omega
  · exact q
section
variable {X Y : Nat → Int} {n : Nat}
/-- a triangle to the right of who goes from p to q -/
def ge_R (X Y : Nat → Int) (n p q r : Nat) : Prop := ge_T X Y n p q r ∧ ge_t X Y p q r < 0
theorem ge_R_rot {p q r : Nat} (h : ge_R X Y n p q r) : ge_R X Y n q r p := ⟨ge_T_rot h.1, by rw [ge_t_rot]; exact h.2⟩
theorem ge_R_u {p q r r' : Nat} (h : ge_R X Y n p q r) (h' : ge_R X Y n p q r') : r = r' := ge_right h.1 h'.1 h.2 h'.2
/-- an edge of the mesh -/
def ge_e (X Y : Nat → Int) (n u v : Nat) : Prop := ∃ c, ge_T X Y n u v c
theorem ge_e_sym {u v : Nat} (h : ge_e X Y n u v) : ge_e X Y n v u := by
  obtain ⟨c, h⟩ := h
  exact ⟨c, ge_T_rot (ge_T_sw (ge_T_rot h)) |> ge_T_sw |> ge_T_rot |> ge_T_sw⟩
theorem ge_T_out {a b c d : Nat} (h : ge_T X Y n a b c) (hd : d < n) (h1 : d ≠ a) (h2 : d ≠ b) (h3 : d ≠ c) : (0 < ge_t X Y a b c → ge_E X Y a b c d < 0) ∧ (ge_t X Y a b c < 0 → 0 < ge_E X Y a b c d) := h.2.2.2.2 d hd h1 h2 h3
/-- the spot to the right of v, u that all others there are out of -/
theorem ge_best (ho : ge_ok X Y n) {v u : Nat} (hv : v < n) (hu : u < n) : ∀ k, k ≤ n → (∃ s, s < k ∧ ge_t X Y v u s < 0) → ∃ d, d < k ∧ ge_t X Y v u d < 0 ∧ ∀ e, e < k → ge_t X Y v u e < 0 → e ≠ d → 0 < ge_E X Y v u d e := by
  intro k
  induction k with
  | zero => rintro - ⟨s, hs, -⟩; omega
  | succ k ih =>
    intro hk hex
    by_cases ex : ∃ s, s < k ∧ ge_t X Y v u s < 0
    · obtain ⟨d, d1, d2, d3⟩ := ih (by omega) ex
      by_cases tk : ge_t X Y v u k < 0
      · have ne := ge_E_ne ho hv hu (show d < n by omega) (show k < n by omega) (by have := ge_t_ne (Int.ne_of_lt tk); omega) (by have := ge_t_ne (Int.ne_of_lt tk); omega) (by omega) (Int.ne_of_lt d2)
        rcases Int.lt_or_lt_of_ne ne with q | q
        · have q' : 0 < ge_E X Y v u k d := by rw [ge_E_sw3]; omega
          refine ⟨k, by omega, tk, fun e he te ne => ?_⟩
          by_cases ed : e = d
          · rw [ed]; exact q'
          · have i := ge_id1 X Y (ge_L X Y) v u d k e
            have p1 := d3 e (by omega) te ed
            have p2 := ge_np te q'
            have p3 := ge_np tk p1
            exact ge_lp d2 (by unfold ge_E at p2 p3 ⊢; omega)
        · refine ⟨d, by omega, d2, fun e he te ne => ?_⟩
          by_cases ek : e = k
          · rw [ek]; exact q
          · exact d3 e (by omega) te ne
      · exact ⟨d, by omega, d2, fun e he te ne => d3 e (by by_cases e = k; (rename_i q; rw [q] at te; exact absurd te tk); omega) te ne⟩
    · obtain ⟨s, s1, s2⟩ := hex
      have : s = k := by
        rcases Nat.lt_or_ge s k with l | l
        · exact absurd ⟨s, l, s2⟩ ex
        · omega
      subst this
      exact ⟨s, by omega, s2, fun e he te ne => absurd ⟨e, by omega, te⟩ ex⟩
/-- where an edge has a spot to its right, it has a triangle there -/
theorem ge_ex (ho : ge_ok X Y n) {v u s : Nat} (he : ge_e X Y n v u) (hs : s < n) (ts : ge_t X Y v u s < 0) : ∃ d, ge_R X Y n v u d := by
  obtain ⟨c, hc⟩ := he
  rcases Int.lt_or_lt_of_ne hc.2.2.2.1 with tc | tc
  · exact ⟨c, hc, tc⟩
  · obtain ⟨d, d1, d2, d3⟩ := ge_best ho hc.1 hc.2.1 n (Nat.le_refl _) ⟨s, hs, ts⟩
    have dn := ge_t_ne (Int.ne_of_lt d2)
    have dc : d ≠ c := fun e => by rw [e] at d2; omega
    refine ⟨d, ⟨hc.1, hc.2.1, d1, Int.ne_of_lt d2, fun e he e1 e2 e3 => ⟨fun q => absurd q (by omega), fun _ => ?_⟩⟩, d2⟩
    rcases Int.lt_or_le (ge_t X Y v u e) 0 with te | te
    · exact d3 e he te e3
    · have o := (ge_T_out hc d1 (Ne.symm dn.2.1) (Ne.symm dn.2.2) dc).1 tc
      have o' : 0 < ge_E X Y v u d c := by rw [ge_E_sw3]; omega
      by_cases ec : e = c
      · rw [ec]; exact o'
      · have p := (ge_T_out hc he e1 e2 ec).1 tc
        have i := ge_id1 X Y (ge_L X Y) v u c d e
        have p1 : 0 ≤ ge_t X Y v u e * ge_E X Y v u d c := Int.mul_nonneg te (by omega)
        have p2 := ge_pp d2 p
        exact ge_rp tc (by unfold ge_E at p1 p2 ⊢; omega)
/-- no edge from v runs into a triangle at v -/
theorem ge_in_no {v u w p : Nat} (h : ge_R X Y n v u w) (hp : ge_e X Y n v p) (t1 : ge_t X Y v u p < 0) (t2 : ge_t X Y v p w < 0) : False := by
  obtain ⟨z, hz⟩ := hp
  have n1 := ge_t_ne (Int.ne_of_lt t1)
  have n2 := ge_t_ne (Int.ne_of_lt t2)
  have o := (ge_T_out h.1 hz.2.1 (Ne.symm n1.2.1) (Ne.symm n1.2.2) n2.2.2).2 h.2
  have i := ge_id2 X Y (ge_L X Y) v u w p z
  have zz := ge_D_0 X Y (ge_L X Y) v p z
  have n3 := ge_t_ne hz.2.2.2.1
  have hu : 0 ≤ -(ge_t X Y v p z) * ge_D X Y (ge_L X Y) v p z u → True := fun _ => trivial
  rcases Int.lt_or_lt_of_ne hz.2.2.2.1 with t | t
  · have a1 : 0 ≤ ge_D X Y (ge_L X Y) v p z u := by
      by_cases e : u = z
      · rw [e]; omega
      · have := (ge_T_out hz h.1.2.1 (Ne.symm n1.1) n1.2.2 e).2 t; unfold ge_E at this; omega
    have a2 : 0 ≤ ge_D X Y (ge_L X Y) v p z w := by
      by_cases e : w = z
      · rw [e]; omega
      · have := (ge_T_out hz h.1.2.2.1 (Ne.symm n2.2.1) (Ne.symm n2.2.2) e).2 t; unfold ge_E at this; omega
    have b1 : ge_t X Y v p w * ge_D X Y (ge_L X Y) v p z u ≤ 0 := Int.mul_nonpos_of_nonpos_of_nonneg (by omega) a1
    have b2 : ge_t X Y v u p * ge_D X Y (ge_L X Y) v p z w ≤ 0 := Int.mul_nonpos_of_nonpos_of_nonneg (by omega) a2
    have b3 : 0 < -(ge_t X Y v p z) * ge_D X Y (ge_L X Y) v u w p := Int.mul_pos (by omega) o
    omega
  · have a1 : ge_D X Y (ge_L X Y) v p z u ≤ 0 := by
      by_cases e : u = z
      · rw [e]; omega
      · have := (ge_T_out hz h.1.2.1 (Ne.symm n1.1) n1.2.2 e).1 t; unfold ge_E at this; omega
    have a2 : ge_D X Y (ge_L X Y) v p z w ≤ 0 := by
      by_cases e : w = z
      · rw [e]; omega
      · have := (ge_T_out hz h.1.2.2.1 (Ne.symm n2.2.1) (Ne.symm n2.2.2) e).1 t; unfold ge_E at this; omega
    have b1 : 0 ≤ ge_t X Y v p w * ge_D X Y (ge_L X Y) v p z u := Int.mul_nonneg_of_nonpos_of_nonpos (by omega) a1
    have b2 : 0 ≤ ge_t X Y v u p * ge_D X Y (ge_L X Y) v p z w := Int.mul_nonneg_of_nonpos_of_nonpos (by omega) a2
    have b3 : -(ge_t X Y v p z) * ge_D X Y (ge_L X Y) v u w p < 0 := ge_np (by omega) o
    omega
/-- two edges from v one way are one -/
theorem ge_one {v u p : Nat} (hu : ge_e X Y n v u) (hp : ge_e X Y n v p) (ku : ge_y X Y u < ge_y X Y v) (kp : ge_y X Y p < ge_y X Y v) (t0 : ge_t X Y v u p = 0) : u = p := by
  refine Classical.byContradiction fun ne => ?_
  obtain ⟨c, hc⟩ := hu
  obtain ⟨z, hz⟩ := hp
  have i3 := ge_id3 X Y (ge_L X Y) v u p c z
  have i4 := ge_id4 X Y v u p z
  rw [t0, Int.zero_mul] at i3
  rw [t0, Int.mul_zero] at i4
  have nc := ge_t_ne hc.2.2.2.1
  have nz := ge_t_ne hz.2.2.2.1
  have pc : p ≠ c := fun e => hc.2.2.2.1 (by rw [← e]; exact t0)
  have t0' : ge_t X Y v p u = 0 := by rw [ge_t_sw]; omega
  have uz : u ≠ z := fun e => hz.2.2.2.1 (by rw [← e]; exact t0')
  have o1 := ge_T_out hc hz.2.1 (Ne.symm nz.1) (Ne.symm ne) pc
  have o2 := ge_T_out hz hc.2.1 (Ne.symm nc.1) ne uz
  unfold ge_E at o1 o2
  have a1 : ge_y X Y u - ge_y X Y v < 0 := by omega
  have a2 : ge_y X Y p - ge_y X Y v < 0 := by omega
  rcases Int.lt_or_lt_of_ne hz.2.2.2.1 with t | t
  · have z1 : ge_t X Y v u z < 0 := ge_ln a2 (by have := ge_pp a1 t; omega)
    have q2 := o2.2 t
    rcases Int.lt_or_lt_of_ne hc.2.2.2.1 with tc | tc
    · have q1 := o1.2 tc
      have b1 := ge_np tc q2
      have b2 := ge_np z1 q1
      omega
    · have q1 := o1.1 tc
      have b1 := Int.mul_pos tc q2
      have b2 := ge_pp z1 q1
      omega
  · have z1 : 0 < ge_t X Y v u z := ge_lp a2 (by have := ge_np a1 t; omega)
    have q2 := o2.1 t
    rcases Int.lt_or_lt_of_ne hc.2.2.2.1 with tc | tc
    · have q1 := o1.2 tc
      have b1 := ge_pp tc q2
      have b2 := Int.mul_pos z1 q1
      omega
    · have q1 := o1.1 tc
      have b1 := ge_pn tc q2
      have b2 := ge_pn z1 q1
      omega
end
/-! how many -/
noncomputable def ge_c (P : Nat → Prop) : Nat → Nat
  | 0 => 0
  | k + 1 => ge_c P k + @ite _ (P k) (Classical.propDecidable _) 1 0
theorem ge_c_le {P Q : Nat → Prop} (h : ∀ s, P s → Q s) : ∀ k, ge_c P k ≤ ge_c Q k := by
  intro k
  induction k with
  | zero => exact Nat.le_refl _
  | succ k ih =>
    show ge_c P k + _ ≤ ge_c Q k + _
    by_cases p : P k
    · rw [@if_pos _ (Classical.propDecidable _) p, @if_pos _ (Classical.propDecidable _) (h k p)]; omega
    · rw [@if_neg _ (Classical.propDecidable _) p]; omega
theorem ge_c_lt {P Q : Nat → Prop} (h : ∀ s, P s → Q s) {x : Nat} (hq : Q x) (hp : ¬ P x) : ∀ k, x < k → ge_c P k < ge_c Q k := by
  intro k
  induction k with
  | zero => intro l; omega
  | succ k ih =>
    intro l
    show ge_c P k + _ < ge_c Q k + _
    by_cases e : x = k
    · subst e
      rw [@if_neg _ (Classical.propDecidable _) hp, @if_pos _ (Classical.propDecidable _) hq]
      have := ge_c_le h x
      omega
    · have := ih (by omega)
      by_cases p : P k
      · rw [@if_pos _ (Classical.propDecidable _) p, @if_pos _ (Classical.propDecidable _) (h k p)]; omega
      · rw [@if_neg _ (Classical.propDecidable _) p]; omega
section
variable {X Y : Nat → Int} {n : Nat}
/-- what is the same over a triangle at v, of two spots ahead of v, is the same for all spots ahead of v that have an edge with v -/
theorem ge_fanR (ho : ge_ok X Y n) {v : Nat} {f : Nat → Int} (hf : ∀ a b, ge_T X Y n v a b → ge_y X Y a < ge_y X Y v → ge_y X Y b < ge_y X Y v → f a = f b) :
    ∀ (m : Nat) (u p : Nat), ge_c (fun s => ge_t X Y v u s < 0 ∧ ge_t X Y v s p < 0) n < m → ge_e X Y n v u → ge_e X Y n v p → ge_y X Y u < ge_y X Y v → ge_y X Y p < ge_y X Y v → ge_t X Y v u p < 0 → f u = f p := by
  intro m
  induction m with
  | zero => intro u p h; omega
  | succ m ih =>
    intro u p hm hu hp ku kp t
    obtain ⟨cp, hcp⟩ := hp
    obtain ⟨d, hd⟩ := ge_ex ho hu hcp.2.1 t
    have hp : ge_e X Y n v p := ⟨cp, hcp⟩
    have i4 := ge_id4 X Y v u p d
    have sd : ge_t X Y v d p = -ge_t X Y v p d := ge_t_sw X Y v p d
    have a1 : ge_y X Y u - ge_y X Y v < 0 := by omega
    have a2 : ge_y X Y p - ge_y X Y v < 0 := by omega
    have hv : ge_e X Y n v d := ⟨u, ge_T_sw hd.1⟩
    have no : ¬ ge_t X Y v p d < 0 := fun q => ge_in_no hd hp t q
    have kd : ge_y X Y d < ge_y X Y v := by
      have b1 : (ge_y X Y u - ge_y X Y v) * ge_t X Y v p d ≤ 0 := Int.mul_nonpos_of_nonpos_of_nonneg (by omega) (by omega)
      have b2 := ge_pp a2 hd.2
      have b3 : 0 < ge_t X Y v u p * (ge_y X Y d - ge_y X Y v) := by rw [Int.mul_comm]; omega
      have := ge_ln t b3
      omega
    have e1 := hf u d hd.1 ku kd
    by_cases z : ge_t X Y v p d = 0
    · have := ge_one hv hp kd kp (by omega)
      rw [e1, this]
    · have t2 : ge_t X Y v d p < 0 := by omega
      rw [e1]
      refine ih d p ?_ hv hp kd kp t2
      have sub : ∀ s, (ge_t X Y v d s < 0 ∧ ge_t X Y v s p < 0) → (ge_t X Y v u s < 0 ∧ ge_t X Y v s p < 0) := fun s ⟨s1, s2⟩ => by
        refine ⟨?_, s2⟩
        have j1 := ge_id4 X Y v d p s
        have ss : ge_t X Y v s p = -ge_t X Y v p s := ge_t_sw X Y v p s
        have a3 : ge_y X Y d - ge_y X Y v < 0 := by omega
        have c1 := ge_np a3 (show 0 < ge_t X Y v p s by omega)
        have c2 := ge_pp a2 s1
        have c3 : 0 < ge_t X Y v d p * (ge_y X Y s - ge_y X Y v) := by rw [Int.mul_comm]; omega
        have ks := ge_ln t2 c3
        have j2 := ge_id4 X Y v u d s
        have c4 := ge_pp a1 s1
        have c5 := ge_pp ks hd.2
        exact ge_ln a3 (by omega)
      have dd : ge_t X Y v d d = 0 := by unfold ge_t; grind
      have lt := ge_c_lt (P := fun s => ge_t X Y v d s < 0 ∧ ge_t X Y v s p < 0) (Q := fun s => ge_t X Y v u s < 0 ∧ ge_t X Y v s p < 0) sub (x := d) ⟨hd.2, t2⟩ (fun q => absurd q.1 (by omega)) n hd.1.2.2.1
      omega
theorem ge_fan (ho : ge_ok X Y n) {v : Nat} {f : Nat → Int} (hf : ∀ a b, ge_T X Y n v a b → ge_y X Y a < ge_y X Y v → ge_y X Y b < ge_y X Y v → f a = f b)
    {u p : Nat} (hu : ge_e X Y n v u) (hp : ge_e X Y n v p) (ku : ge_y X Y u < ge_y X Y v) (kp : ge_y X Y p < ge_y X Y v) : f u = f p := by
  rcases Int.lt_trichotomy (ge_t X Y v u p) 0 with t | t | t
  · exact ge_fanR ho hf _ u p (Nat.lt_succ_self _) hu hp ku kp t
  · rw [ge_one hu hp ku kp t]
  · exact (ge_fanR ho hf _ p u (Nat.lt_succ_self _) hp hu kp ku (by rw [ge_t_sw]; omega)).symm
/-- sums that vanish round each triangle come from a height of the spots; it is 0 up to a bound, where the sums are -/
theorem ge_pot (ho : ge_ok X Y n) {φ : Nat → Nat → Int} {B : Int} (anti : ∀ u v, φ u v = -φ v u) (coc : ∀ a b c, ge_T X Y n a b c → φ a b + φ b c + φ c a = 0) (h0 : ∀ u v, ge_e X Y n u v → ge_y X Y u ≤ B → ge_y X Y v ≤ B → φ u v = 0) :
    ∀ d : Nat, ∃ c : Nat → Int, (∀ s, s < n → ge_y X Y s ≤ B → c s = 0) ∧ ∀ u v, ge_e X Y n u v → ge_y X Y u ≤ B + d → ge_y X Y v ≤ B + d → c v - c u = φ u v := by
  intro d
  induction d with
  | zero => exact ⟨fun _ => 0, fun _ _ _ => rfl, fun u v he h1 h2 => by rw [h0 u v he (by omega) (by omega)]; rfl⟩
  | succ d ih =>
    obtain ⟨c, c1, c2⟩ := ih
    by_cases ex : ∃ v, v < n ∧ ge_y X Y v = B + (d + 1 : Nat)
    · obtain ⟨v, hv, kv⟩ := ex
      have edge_n : ∀ {a b : Nat}, ge_e X Y n a b → a < n ∧ b < n ∧ a ≠ b := fun {a b} ⟨z, hz⟩ => ⟨hz.1, hz.2.1, (ge_t_ne hz.2.2.2.1).1⟩
      have low : ∀ {a : Nat}, a < n → a ≠ v → ge_y X Y a ≤ B + (d + 1 : Nat) → ge_y X Y a ≤ B + d := fun {a} ha ne k => by
        have : ge_y X Y a ≠ ge_y X Y v := fun e => ne (ge_y_inj ho ha hv e)
        omega
      by_cases nb : ∃ u, ge_e X Y n v u ∧ ge_y X Y u < ge_y X Y v
      · obtain ⟨u0, e0, k0⟩ := nb
        have key : ∀ u, ge_e X Y n v u → ge_y X Y u < ge_y X Y v → c u + φ u v = c u0 + φ u0 v := fun u eu ku => by
          refine ge_fan ho (f := fun s => c s + φ s v) (fun a b t ka kb => ?_) eu e0 ku k0
          have w := coc v a b t
          have w2 := c2 a b ⟨v, ge_T_rot t⟩ (by omega) (by omega)
          have w3 := anti v a
          try dsimp only
          omega
        refine ⟨fun s => if s = v then c u0 + φ u0 v else c s, fun s hs k => ?_, fun a b he ka kb => ?_⟩
        · dsimp only
          have : s ≠ v := fun e => by rw [e] at k; omega
          rw [if_neg this]; exact c1 s hs k
        · dsimp only
          obtain ⟨ha, hb, hab⟩ := edge_n he
          by_cases ea : a = v
          · have eb : b ≠ v := fun q => hab (by rw [ea, q])
            rw [if_pos ea, if_neg eb]
            rw [ea] at he
            have w := key b he (by have := low hb eb kb; omega)
            have w2 := anti a b
            rw [ea] at w2 ⊢
            omega
          · rw [if_neg ea]
            by_cases eb : b = v
            · rw [if_pos eb]
              rw [eb] at he ⊢
              have w := key a (ge_e_sym he) (by have := low ha ea ka; omega)
              omega
            · rw [if_neg eb]
              exact c2 a b he (low ha ea ka) (low hb eb kb)
      · refine ⟨fun s => if s = v then 0 else c s, fun s hs k => ?_, fun a b he ka kb => ?_⟩
        · dsimp only
          split
          · rfl
          · exact c1 s hs k
        · dsimp only
          obtain ⟨ha, hb, hab⟩ := edge_n he
          have ea : a ≠ v := fun ea => by
            have eb : b ≠ v := fun q => hab (by rw [ea, q])
            rw [ea] at he
            exact nb ⟨b, he, by have := low hb eb kb; omega⟩
          have eb : b ≠ v := fun eb => by
            rw [eb] at he
            exact nb ⟨a, ge_e_sym he, by have := low ha ea ka; omega⟩
          rw [if_neg ea, if_neg eb]
          exact c2 a b he (low ha ea ka) (low hb eb kb)
    · refine ⟨c, c1, fun a b he ka kb => ?_⟩
      obtain ⟨z, hz⟩ := id he
      have low : ∀ {a : Nat}, a < n → ge_y X Y a ≤ B + (d + 1 : Nat) → ge_y X Y a ≤ B + d := fun {a} ha k => by
        have : ge_y X Y a ≠ B + (d + 1 : Nat) := fun e => ex ⟨a, ha, e⟩
        omega
      exact c2 a b he (low hz.1 ka) (low hz.2.1 kb)
/-- THE SPOTS OF A RING WITH THE LEAST x ARE ALL HIGH OR ALL LOW. C: its crossings, of a high and a low spot; a triangle has both of its crossings there or none; each has a triangle on either side; Q: a property that goes along -/
theorem ge_ring (ho : ge_ok X Y n) {Hi : Nat → Prop} {C : Nat → Nat → Prop} (r1 : ∀ h w, C h w → h < n ∧ w < n ∧ Hi h ∧ ¬ Hi w)
    (r2 : ∀ a b c, ge_T X Y n a b c → Hi a → ¬ Hi b → ((Hi c → (C a b ↔ C c b)) ∧ (¬ Hi c → (C a b ↔ C a c))))
    (r3 : ∀ h w, C h w → (∃ r, ge_R X Y n w h r) ∧ ∃ l, ge_R X Y n h w l)
    (r4 : ∀ P : Nat → Nat → Prop, (∀ a b c, ge_T X Y n a b c → Hi a → ¬ Hi b → C a b → (Hi c → (P a b ↔ P c b)) ∧ (¬ Hi c → (P a b ↔ P a c))) → ∀ h w h' w', C h w → C h' w' → (P h w ↔ P h' w'))
    {h w h' w' : Nat} (c1 : C h w) (c2 : C h' w') (least : ∀ a b, C a b → X h ≤ X a ∧ X h ≤ X b) (same : X w' = X h) : False := by
  -- the signed crossings
  let φ : Nat → Nat → Int := fun u v => @ite _ (C v u) (Classical.propDecidable _) 1 (@ite _ (C u v) (Classical.propDecidable _) (-1) 0)
  have φ1 : ∀ {u v}, C v u → φ u v = 1 := fun {u v} q => @if_pos _ (Classical.propDecidable _) q _ _ _
  have asym : ∀ {u v}, C u v → ¬ C v u := fun {u v} q q' => (r1 _ _ q').2.2.2 (r1 _ _ q).2.2.1
  have φ2 : ∀ {u v}, C u v → φ u v = -1 := fun {u v} q => (@if_neg _ (Classical.propDecidable _) (asym q) _ _ _).trans (@if_pos _ (Classical.propDecidable _) q _ _ _)
  have φ0 : ∀ {u v}, ¬ C u v → ¬ C v u → φ u v = 0 := fun {u v} q q' => (@if_neg _ (Classical.propDecidable _) q' _ _ _).trans (@if_neg _ (Classical.propDecidable _) q _ _ _)
  have anti : ∀ u v, φ u v = -φ v u := fun u v => by
    by_cases q : C u v
    · rw [φ2 q, φ1 q]
    · by_cases q' : C v u
      · rw [φ1 q', φ2 q']; rfl
      · rw [φ0 q q', φ0 q' q]; rfl
  have nH : ∀ {u v}, Hi u → Hi v → φ u v = 0 := fun {u v} q q' => φ0 (fun z => (r1 _ _ z).2.2.2 q') (fun z => (r1 _ _ z).2.2.2 q)
  have nL : ∀ {u v}, ¬ Hi u → ¬ Hi v → φ u v = 0 := fun {u v} q q' => φ0 (fun z => q (r1 _ _ z).2.2.1) (fun z => q' (r1 _ _ z).2.2.1)
  have hw : ∀ {u v}, Hi u → ¬ Hi v → φ v u = @ite _ (C u v) (Classical.propDecidable _) 1 0 := fun {u v} q q' => by
    by_cases z : C u v
    · rw [φ1 z, @if_pos _ (Classical.propDecidable _) z]
    · rw [φ0 (fun z' => q' (r1 _ _ z').2.2.1) z, @if_neg _ (Classical.propDecidable _) z]
  have coc1 : ∀ a b c, ge_T X Y n a b c → Hi a → ¬ Hi b → φ a b + φ b c + φ c a = 0 := fun a b c t ha hb => by
    have q := r2 a b c t ha hb
    by_cases hc : Hi c
    · rw [anti a b, hw ha hb, hw hc hb, nH hc ha]
      have e := q.1 hc
      by_cases z : C a b
      · rw [@if_pos _ (Classical.propDecidable _) z, @if_pos _ (Classical.propDecidable _) (e.mp z)]; rfl
      · rw [@if_neg _ (Classical.propDecidable _) z, @if_neg _ (Classical.propDecidable _) (fun y => z (e.mpr y))]; rfl
    · rw [anti a b, hw ha hb, nL hb hc, hw ha hc]
      have e := q.2 hc
      by_cases z : C a b
      · rw [@if_pos _ (Classical.propDecidable _) z, @if_pos _ (Classical.propDecidable _) (e.mp z)]; rfl
      · rw [@if_neg _ (Classical.propDecidable _) z, @if_neg _ (Classical.propDecidable _) (fun y => z (e.mpr y))]; rfl
  have coc : ∀ a b c, ge_T X Y n a b c → φ a b + φ b c + φ c a = 0 := fun a b c t => by
    by_cases ha : Hi a <;> by_cases hb : Hi b <;> by_cases hc : Hi c
    · rw [nH ha hb, nH hb hc, nH hc ha]; rfl
    · have := coc1 b c a (ge_T_rot t) hb hc; omega
    · exact coc1 a b c t ha hb
    · exact coc1 a b c t ha hb
    · have := coc1 c a b (ge_T_rot (ge_T_rot t)) hc ha; omega
    · have := coc1 b c a (ge_T_rot t) hb hc; omega
    · have := coc1 c a b (ge_T_rot (ge_T_rot t)) hc ha; omega
    · rw [nL ha hb, nL hb hc, nL hc ha]; rfl
  -- no crossing of the ring up to the least x
  have third : ∀ {a b c}, ge_T X Y n a b c → C a b → X h ≤ X c := fun {a b c} t q => by
    obtain ⟨-, -, qa, qb⟩ := r1 _ _ q
    by_cases hc : Hi c
    · exact (least _ _ (((r2 a b c t qa qb).1 hc).mp q)).1
    · exact (least _ _ (((r2 a b c t qa qb).2 hc).mp q)).2
  have no : ∀ a b, C a b → ¬ (X a ≤ X h ∧ X b ≤ X h) := fun a b q ⟨qa, qb⟩ => by
    have l := least a b q
    obtain ⟨⟨r, hr⟩, ⟨s, hs⟩⟩ := r3 a b q
    have t1 := third (ge_T_sw (ge_T_rot hr.1)) q
    have t2 := third hs.1 q
    have u1 := hr.2
    have u2 := hs.2
    unfold ge_t at u1 u2
    rw [show X a - X b = 0 by omega, Int.zero_mul] at u1
    rw [show X b - X a = 0 by omega, Int.zero_mul] at u2
    have v1 : 0 < (Y a - Y b) * (X r - X b) := by omega
    have v2 : 0 < (Y b - Y a) * (X s - X a) := by omega
    rcases Int.lt_or_le (Y a - Y b) 0 with y | y
    · have := ge_ln y v1; omega
    · have y' : Y b - Y a ≤ 0 := by omega
      rcases Int.lt_or_le (Y b - Y a) 0 with y2 | y2
      · have := ge_ln y2 v2; omega
      · rw [show Y b - Y a = 0 by omega, Int.zero_mul] at v2; omega
  have xb : ∀ {s}, s < n → (ge_y X Y s ≤ 64 * X h + 63 ↔ X s ≤ X h) := fun {s} hs => by
    obtain ⟨a1, a2, a3, a4⟩ := ho.2.1 s hs
    unfold ge_y ge_k
    omega
  have h0 : ∀ u v, ge_e X Y n u v → ge_y X Y u ≤ 64 * X h + 63 → ge_y X Y v ≤ 64 * X h + 63 → φ u v = 0 := fun u v he k1 k2 => by
    obtain ⟨z, hz⟩ := he
    have x1 := (xb hz.1).mp k1
    have x2 := (xb hz.2.1).mp k2
    exact φ0 (fun q => no _ _ q ⟨x1, x2⟩) (fun q => no _ _ q ⟨x2, x1⟩)
  obtain ⟨p, p1, p2⟩ := ge_pot ho anti coc h0 8192
  obtain ⟨hh, -, -, -⟩ := r1 _ _ c1
  obtain ⟨-, hw', -, -⟩ := r1 _ _ c2
  obtain ⟨b1, b2, -, -⟩ := ho.2.1 h hh
  have all : ∀ u v, ge_e X Y n u v → p v - p u = φ u v := fun u v he => by
    obtain ⟨z, hz⟩ := id he
    have e1 := ho.2.1 u hz.1
    have e2 := ho.2.1 v hz.2.1
    refine p2 u v he ?_ ?_ <;> (unfold ge_y ge_k; omega)
  have q1 := p1 h hh ((xb hh).mpr (Int.le_refl _))
  have q2 := p1 w' hw' ((xb hw').mpr (by omega))
  have ed : ∀ {a b}, C a b → ge_e X Y n a b := fun {a b} q => by
    obtain ⟨-, l, hl⟩ := r3 a b q
    exact ⟨l, hl.1⟩
  -- the height of the high side
  have P := r4 (fun a _ => p a = p h) (fun a b c t ha hb q => ⟨fun hc => ?_, fun hc => Iff.rfl⟩) h w h' w' c1 c2
  · have s1 := P.mp rfl
    have s2 := all w' h' (ge_e_sym (ed c2))
    rw [φ1 c2] at s2
    have s1 : p h' = p h := s1
    omega
  · have e := all a c ⟨b, ge_T_sw t⟩
    rw [nH ha hc] at e
    have e : p c = p a := by omega
    show p a = p h ↔ p c = p h
    rw [e]
end
