/-! The reference's height at a place (any ints). -/
theorem pm_b {d z M : Int} (h1 : -63 ≤ d) (h2 : d ≤ 63) (h3 : -M ≤ z) (h4 : z ≤ M) : -(63 * M) ≤ d * z ∧ d * z ≤ 63 * M := by
  have c1 := Int.mul_nonneg (a := 63 - d) (b := M + z) (by omega) (by omega)
  have c2 := Int.mul_nonneg (a := 63 + d) (b := M - z) (by omega) (by omega)
  have c3 := Int.mul_nonneg (a := 63 - d) (b := M - z) (by omega) (by omega)
  have c4 := Int.mul_nonneg (a := 63 + d) (b := M + z) (by omega) (by omega)
  simp only [Int.sub_mul, Int.mul_sub, Int.add_mul, Int.mul_add] at c1 c2 c3 c4
  omega
section
variable {g : St} {n : Nat} {X Y Z : Nat → Int} {x y : Int}
theorem ge_p_big (ho : ge_ok X Y n) {a b : Nat} (ha : a < n) (hb : b < n) (hx : -2147483648 ≤ x ∧ x < 2147483648) (hy : -2147483648 ≤ y ∧ y < 2147483648) : -300000000000 ≤ ge_p X Y a b x y ∧ ge_p X Y a b x y ≤ 300000000000 := by
  obtain ⟨a1, a2, a3, a4⟩ := ho.2.1 a ha
  obtain ⟨b1, b2, b3, b4⟩ := ho.2.1 b hb
  have p := pm_b (d := X b - X a) (z := y - Y a) (M := 2147483711) (by omega) (by omega) (by omega) (by omega)
  have q := pm_b (d := Y b - Y a) (z := x - X a) (M := 2147483711) (by omega) (by omega) (by omega) (by omega)
  unfold ge_p
  omega
theorem mo_toPlace {a b : Nat} {post : Int64 → St → Prop} (hS : sM g n X Y Z) (ha : a < n) (hb : b < n) (hx : -2147483648 ≤ x ∧ x < 2147483648) (hy : -2147483648 ≤ y ∧ y < 2147483648) (h : post (jI (ge_p X Y a b x y)) g) : wp_mo_toPlace (nI a) (nI b) (iI x) (iI y) g post := by
  obtain ⟨a1, a2, -⟩ := hS.2.2.2 a ha
  obtain ⟨b1, b2, -⟩ := hS.2.2.2 b hb
  obtain ⟨d1, d2, d3, d4⟩ := hS.1.2.1 a ha
  obtain ⟨s1, s2, s3, s4⟩ := hS.1.2.1 b hb
  have va := hS.v16 ha
  have vb := hS.v16 hb
  unfold wp_mo_toPlace
  try dsimp only
  rw [hS.ix ha, hS.ix hb, a1, a2, b1, b2, iI_sub, iI_sub, iI_dl s1 s2 d1 d2, iI_dl s3 s4 d3 d4, iI_long hx.1 hx.2, iI_long hy.1 hy.2, iI_long (by omega) (by omega), iI_long (by omega) (by omega), jI_sub, jI_sub, jI_mul, jI_mul, jI_sub]
  exact ⟨vb, va, va, vb, va, va, h⟩
theorem mo_at {post : Int32 → St → Prop} (hS : sM g n X Y Z) (hm : mM (tl X Y n 4096) g) (hx : -2147483648 ≤ x ∧ x < 2147483648) (hy : -2147483648 ≤ y ∧ y < 2147483648)
    (h0 : (∀ t, t < (tl X Y n 4096).length → ¬ inL X Y (tl X Y n 4096) t x y) → ∀ r g', g' 0 0 = 1 → fm [] [0] g g' → post r g')
    (h1 : ∀ t, t < (tl X Y n 4096).length → inL X Y (tl X Y n 4096) t x y → (∀ s, s < t → ¬ inL X Y (tl X Y n 4096) s x y) → ∀ g', g' 0 0 = 0 → fm [] [0] g g' → post (iI (htL X Y Z (tl X Y n 4096) t x y)) g') : wp_mo_at (iI x) (iI y) g post := by
  have ho := hS.1
  have L27 := tl_27 (k := 4096) ho
  unfold wp_mo_at
  intro g1 e1
  have f1 : fm [] [0] g g1 := by rw [e1]; exact fm.rf.g0 (by decide)
  have z1 : g1 0 0 = 1 := by rw [e1]; exact gp_s
  have inS : ∀ g', fm [] [0] g g' → sM g' n X Y Z := fun g' f => hS.fm f (by decide) (by decide) (by decide) (by decide)
  have inM : ∀ g', fm [] [0] g g' → mM (tl X Y n 4096) g' := fun g' f => by
    obtain ⟨m1, m2⟩ := hm
    exact ⟨by rw [f.2 5 (by decide)]; exact m1, by rw [f.1 4 (by decide) (by decide)]; exact m2⟩
  have loop : ∀ m i (r : Int32), i + m = (tl X Y n 4096).length → (∀ s, s < i → ¬ inL X Y (tl X Y n 4096) s x y) → lp_mo_at_L10 (m + 1) (iI x) (iI y) r (nI i) g1 (fun w24 g23 => (post w24 g23)) post := by
    intro m
    induction m with
    | zero =>
      intro i r hi hd
      unfold lp_mo_at_L10
      rw [(inM g1 f1).1]
      exact ⟨fun _ => h0 (fun t ht => hd t (by omega)) r g1 z1 f1, fun k => absurd ((nI_leI (by omega) (by omega)).mpr (by omega)) k⟩
    | succ m ih =>
      intro i r hi hd
      have hil : i < (tl X Y n 4096).length := by omega
      have S1 := inS g1 f1
      obtain ⟨M1, M2⟩ := inM g1 f1
      obtain ⟨b1, b2, b3⟩ := M2 i hil
      have hT := (tl_get hil).2
      have hin : inL X Y (tl X Y n 4096) i x y = inT X Y ((tl X Y n 4096).getD i 0 / 256) ((tl X Y n 4096).getD i 0 / 16 % 16) ((tl X Y n 4096).getD i 0 % 16) x y := rfl
      have hht : htL X Y Z (tl X Y n 4096) i x y = htT X Y Z ((tl X Y n 4096).getD i 0 / 256) ((tl X Y n 4096).getD i 0 / 16 % 16) ((tl X Y n 4096).getD i 0 % 16) x y := rfl
      generalize (tl X Y n 4096).getD i 0 / 256 = a at *
      generalize (tl X Y n 4096).getD i 0 / 16 % 16 = b at *
      generalize (tl X Y n 4096).getD i 0 % 16 = c at *
      have hc := hT.2.2.1
      have hb : b < n := by have := hT.2.1; omega
      have ha : a < n := by have := hT.1; omega
      have t0 := hT.2.2.2.1
      have bt := ge_tb ho ha hb hc
      have p1 := ge_p_big ho hb hc hx hy
      have p2 := ge_p_big ho hc ha hx hy
      have p3 := ge_p_big ho ha hb hx hy
      have no : ¬ inT X Y a b c x y → ∀ r, lp_mo_at_L10 (m + 1) (iI x) (iI y) r (nI i + 1) g1 (fun w24 g23 => (post w24 g23)) post := fun k r => by
        rw [nI_1]
        refine ih (i + 1) r (by omega) (fun s hs => ?_)
        by_cases e : s = i
        · rw [e, hin]; exact k
        · exact hd s (by omega)
      have yes : inT X Y a b c x y → ∀ g2, g2 0 0 = 0 → fm [] [0] g g2 → lp_mo_at_L10 (m + 1) (iI x) (iI y) (iI (htT X Y Z a b c x y)) (nI i + 1) g2 (fun w24 g23 => (post w24 g23)) post := fun k g2 z2 f2 => by
        have := h1 i hil (by rw [hin]; exact k) hd g2 z2 f2
        rw [hht] at this
        unfold lp_mo_at_L10
        rw [z2]
        exact ⟨fun _ => this, fun _ => ⟨fun _ => this, fun q => absurd q (by decide)⟩⟩
      have J : ∀ s : Int, s = sgn (ge_t X Y a b c) → jn_mo_at_J82 (iI x) (iI y) r (nI i) (nI a) (nI b) (nI c) (iI s) g1 (fun w14 w15 w16 w17 g13 => (lp_mo_at_L10 (m + 1) w14 w15 w16 w17 g13 (fun w24 g23 => (post w24 g23)) post)) post := by
        intro s hs
        have so := sgn_or (ge_t X Y a b c)
        rw [← hs] at so
        have q1 := sg_b so p1.1 p1.2
        have q2 := sg_b so p2.1 p2.2
        have q3 := sg_b so p3.1 p3.2
        have al := inT_all (x := x) (y := y) t0
        have tb := sg_b (sgn_or (ge_t X Y a b c)) (ge_t_b ho ha hb hc).1 (ge_t_b ho ha hb hc).2
        obtain ⟨-, -, e3⟩ := S1.2.2.2 a ha
        obtain ⟨-, -, f3⟩ := S1.2.2.2 b hb
        obtain ⟨-, -, g3⟩ := S1.2.2.2 c hc
        have za := S1.2.1 a ha
        have zb := S1.2.1 b hb
        have zc := S1.2.1 c hc
        unfold inT at no yes
        unfold htT at yes
        rw [← hs] at no yes al tb
        generalize hu : s * ge_p X Y b c x y = u at *
        generalize hv : s * ge_p X Y c a x y = v at *
        generalize hw : s * ge_p X Y a b x y = w at *
        unfold jn_mo_at_J82
        refine mo_toPlace S1 hb hc hx hy (mo_toPlace S1 hc ha hx hy (mo_toPlace S1 ha hb hx hy ?_))
        try dsimp only
        have sl : (iI s).toInt64 = jI s := iI_long (by rcases so with q | q <;> omega) (by rcases so with q | q <;> omega)
        rw [sl, jI_mul, jI_mul, jI_mul, hu, hv, hw]
        have l : ∀ {k : Int}, -300000000000 ≤ k → k ≤ 300000000000 → (lg_cmp (jI k) 0 < 0 ↔ k < 0) := fun {k} k1 k2 => by
          rw [jI_cmp0 (by omega) (by omega)]
          by_cases a1 : 0 < k
          · rw [if_pos a1]; exact ⟨fun q => absurd q (by decide), fun q => absurd q (by omega)⟩
          · rw [if_neg a1]
            by_cases a2 : k = 0
            · rw [if_pos a2]; exact ⟨fun q => absurd q (by decide), fun q => absurd q (by omega)⟩
            · rw [if_neg a2]; exact ⟨fun _ => by omega, fun _ => by decide⟩
        rw [l q1.1 q1.2, l q2.1 q2.2, l q3.1 q3.2]
        refine ⟨fun k => no (fun z => by omega) r, fun k1 => ⟨fun k => no (fun z => by omega) r, fun k2 => ⟨fun k => no (fun z => by omega) r, fun k3 => ⟨S1.v16 ha, S1.v16 hb, S1.v16 hc, ?_⟩⟩⟩⟩
        have s1 := sm_b (u := u) (z := Z a) (by omega) (by omega) za.1 za.2
        have s2 := sm_b (u := v) (z := Z b) (by omega) (by omega) zb.1 zb.2
        have s3 := sm_b (u := w) (z := Z c) (by omega) (by omega) zc.1 zc.2
        rw [S1.ix ha, S1.ix hb, S1.ix hc, e3, f3, g3, iI_long (by omega) (by omega), iI_long (by omega) (by omega), iI_long (by omega) (by omega), jI_mul, jI_mul, jI_mul, jI_add, jI_add, jI_add, jI_add]
        refine mo_floor (by omega) (by omega) (by omega) (by omega) (fun g12 e12 => ?_)
        rw [jI_int]
        exact yes ⟨by omega, by omega, by omega⟩ g12 (by rw [e12]; exact gp_s) (by rw [e12]; exact f1.g0 (by decide))
      unfold lp_mo_at_L10
      rw [M1, z1]
      have k1 : (3 * nI i + 1 : Int32) = nI (3 * i + 1) := pk3 (by omega) 1
      have k2 : (3 * nI i + 2 : Int32) = nI (3 * i + 2) := pk3 (by omega) 2
      refine ⟨fun k => absurd ((nI_leI (by omega) (by omega)).mp k) (by omega), fun _ => ⟨fun k => absurd rfl k, fun _ => ?_⟩⟩
      rw [k1, k2, pk3', ix_nI (by omega), ix_nI (by omega), ix_nI (by omega), b1, b2, b3]
      refine ⟨vp_in_nI (by omega) (by omega), vp_in_nI (by omega) (by omega), vp_in_nI (by omega) (by omega), mo_turn S1 ha hb hc ⟨fun k => ?_, fun k => ?_⟩⟩
      · rw [← iI_0, iI_le bt.1 bt.2 (by omega) (by omega)] at k
        have j := J (-1) (by unfold sgn; rw [if_neg (by omega)])
        rw [iI_m1] at j
        exact j
      · rw [← iI_0, iI_le bt.1 bt.2 (by omega) (by omega)] at k
        have j := J 1 (by unfold sgn; rw [if_pos (by omega)])
        rw [iI_1] at j
        exact j
  exact ⟨(tl X Y n 4096).length + 1, loop (tl X Y n 4096).length 0 0 (by omega) (fun s hs => absurd hs (by omega))⟩
end
