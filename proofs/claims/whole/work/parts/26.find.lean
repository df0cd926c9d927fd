/-! The reference finds the contours of a level. -/
section
variable {g : St} {n : Nat} {X Y Z : Nat → Int} {l : Int}
theorem jP_app {L : List Nat} {k h w r : Nat} : jP Z l (L ++ [k]) h w r ↔ jP Z l L h w r ∨ (hi Z l h ∧ ¬ hi Z l w ∧ ge_pm (k / 256) (k / 16 % 16) (k % 16) h w r) := by
  unfold jP
  constructor
  · rintro ⟨h1, h2, x, h3, h4⟩
    rcases List.mem_append.mp h3 with q | q
    · exact Or.inl ⟨h1, h2, x, q, h4⟩
    · rw [List.mem_singleton.mp q] at h4; exact Or.inr ⟨h1, h2, h4⟩
  · rintro (⟨h1, h2, x, h3, h4⟩ | ⟨h1, h2, h4⟩)
    · exact ⟨h1, h2, x, List.mem_append_left _ h3, h4⟩
    · exact ⟨h1, h2, k, List.mem_append_right _ (List.mem_singleton.mpr rfl), h4⟩
theorem jM_ext {P Q : Nat → Nat → Nat → Prop} (h : ∀ a b c, P a b c ↔ Q a b c) (hm : jM X Y Z l P g) : jM X Y Z l Q g := by
  have : P = Q := by funext a b c; exact propext (h a b c)
  rw [← this]; exact hm
/-- all triangles processed: what the tables hold -/
theorem jM_all (ho : ge_ok X Y n) (hm : jM X Y Z l (jP Z l (tl X Y n 4096)) g) : fM X Y Z n l g ∧ ∀ e, e < 256 → ((∃ x, cS X Y Z n l x ∧ ce x = e) → g 5 e = 1) ∧ ((¬ ∃ x, cS X Y Z n l x ∧ ce x = e) → g 5 e = 0) := by
  have n16 := ho.1
  obtain ⟨⟨m1, m2⟩, ⟨m3, m4⟩, m5, m6⟩ := hm
  have T_of : ∀ {h w r}, jP Z l (tl X Y n 4096) h w r → ge_T X Y n h w r := fun {h w r} ⟨_, _, x, q1, q2⟩ => ge_pm_T (ge_T_of ho (tl_mem.mp q1).2) q2
  have P_of : ∀ {h w r}, hi Z l h → ¬ hi Z l w → ge_T X Y n h w r → jP Z l (tl X Y n 4096) h w r := fun {h w r} q1 q2 t => by
    obtain ⟨e1, e2, e3⟩ := ge_t_ne t.2.2.2.1
    obtain ⟨a, b, c, h1, h2, h3, h4⟩ := srt e1 e2 e3
    have tr := ge_tri_of ho (ge_pm_T t h4) h1 h2
    have := tr.2.2.1
    have k1 : (256 * a + 16 * b + c) / 256 = a := by omega
    have k2 : (256 * a + 16 * b + c) / 16 % 16 = b := by omega
    have k3 : (256 * a + 16 * b + c) % 16 = c := by omega
    exact ⟨q1, q2, 256 * a + 16 * b + c, tl_mem.mpr ⟨by omega, by rw [k1, k2, k3]; exact tr⟩, by rw [k1, k2, k3]; exact h3⟩
  have S_of : ∀ {h w r}, jP Z l (tl X Y n 4096) h w r → cS X Y Z n l (16 * h + w) := fun {h w r} p => by
    have t := T_of p
    have d1 : (16 * h + w) / 16 = h := by have := t.2.1; omega
    have d2 : (16 * h + w) % 16 = w := by have := t.2.1; omega
    refine ⟨by rw [d1, d2]; exact ⟨p.1, p.2.1⟩, ?_⟩
    rw [d1, d2]
    rcases Int.lt_or_lt_of_ne t.2.2.2.1 with q | q
    · exact Or.inl ⟨r, rr_some.mpr ⟨t, q⟩⟩
    · refine Or.inr ⟨r, rr_some.mpr ⟨T_wh t, ?_⟩⟩
      have a := ge_t_rot X Y w h r
      have b := ge_t_sw X Y h w r
      omega
  refine ⟨fun x hx => ?_, fun e he => ⟨?_, fun k => ?_⟩⟩
  · obtain ⟨x1, x2, x3, x4⟩ := cS_lt ho hx
    have ex : 16 * (x / 16) + x % 16 = x := by omega
    have c256 : ce x < 256 := by rw [← ex]; exact ce_lt (by omega) (by omega)
    constructor
    · cases q : cN X Y Z n l x with
      | none =>
        refine m4 (ce x) c256 (fun h w r p s e => ?_)
        have t := T_of p
        obtain ⟨z1, z2⟩ := ce_hw (h := h) (w := w) (h' := x / 16) (w' := x % 16) (by have := t.1; omega) (by have := t.2.1; omega) (by omega) (by omega) p.1 p.2.1 hx.1.1 hx.1.2 (by rw [ex]; exact e)
        rw [cN_eq hx.1, ← z1, ← z2, rr_some.mpr ⟨T_wh t, s⟩] at q
        cases q
      | some y =>
        obtain ⟨-, r, r1, r2⟩ := cN_p q
        have R := rr_some.mp r1
        have := m3 (x / 16) (x % 16) r (P_of hx.1.1 hx.1.2 (T_wh R.1)) R.2
        rw [ex, ← r2] at this
        exact this
    · cases q : cB X Y Z n l x with
      | none =>
        refine m6 (ce x) c256 (fun h w r p s e => ?_)
        have t := T_of p
        have th : h < 16 := by have := t.1; omega
        have tw : w < 16 := by have := t.2.1; omega
        obtain ⟨y1, y2, y3, y4, y5⟩ := oth_c ho p.1 p.2.1 t
        have e' : ce (16 * (oth Z l h w r / 16) + oth Z l h w r % 16) = ce (16 * (x / 16) + x % 16) := by rw [← y5, ex]; exact e
        obtain ⟨z1, z2⟩ := ce_hw y1 y2 (by omega) (by omega) y3 y4 hx.1.1 hx.1.2 e'
        have eo : oth Z l h w r = x := by omega
        have d1 : (16 * h + w) / 16 = h := by omega
        have d2 : (16 * h + w) % 16 = w := by omega
        have cn : cN X Y Z n l (16 * h + w) = some (oth Z l h w r) := by
          rw [cN_eq (by rw [d1, d2]; exact ⟨p.1, p.2.1⟩), d1, d2, rr_some.mpr ⟨T_wh t, s⟩]; rfl
        rw [eo] at cn
        rw [cNB ho cn] at q
        cases q
      | some y =>
        have cn := cBN ho q
        obtain ⟨yh, r, r1, r2⟩ := cN_p cn
        have ys := cB_S ho q
        obtain ⟨b1, b2, b3, b4⟩ := cS_lt ho ys
        have R := rr_some.mp r1
        have := m5 (y / 16) (y % 16) r (P_of yh.1 yh.2 (T_wh R.1)) R.2
        rw [← r2, show 16 * (y / 16) + y % 16 = y by omega] at this
        exact this
  · rintro ⟨x, hx, rfl⟩
    obtain ⟨x1, x2, x3, x4⟩ := cS_lt ho hx
    have ex : 16 * (x / 16) + x % 16 = x := by omega
    rcases hx.2 with ⟨r, r1⟩ | ⟨r, r1⟩
    · have := m1 (x / 16) (x % 16) r (P_of hx.1.1 hx.1.2 (rr_some.mp r1).1)
      rw [ex] at this; exact this
    · have := m1 (x / 16) (x % 16) r (P_of hx.1.1 hx.1.2 (T_wh (rr_some.mp r1).1))
      rw [ex] at this; exact this
  · exact m2 e he (fun h w r p q => k ⟨16 * h + w, S_of p, q⟩)
theorem ce_hc (ho : ge_ok X Y n) {e : Nat} (he : e < 256) (h : e / 16 < e % 16) : ce (hc Z l e) = e := by
  by_cases q : hi Z l (e / 16)
  · have : hc Z l e = e := @if_pos _ (Classical.propDecidable _) q _ _ _
    rw [this]; unfold ce; rw [if_pos h]; omega
  · have : hc Z l e = 16 * (e % 16) + e / 16 := @if_neg _ (Classical.propDecidable _) q _ _ _
    rw [this, ce_16 (by omega) (by omega), if_neg (by omega)]; omega
theorem hc_ce (ho : ge_ok X Y n) {x : Nat} (h : cS X Y Z n l x) : hc Z l (ce x) = x ∧ ce x / 16 < ce x % 16 := by
  obtain ⟨x1, x2, x3, x4⟩ := cS_lt ho h
  have n16 := ho.1
  unfold ce
  by_cases q : x / 16 < x % 16
  · rw [if_pos q]
    have d1 : (16 * (x / 16) + x % 16) / 16 = x / 16 := by omega
    refine ⟨?_, by omega⟩
    have : hc Z l (16 * (x / 16) + x % 16) = 16 * (x / 16) + x % 16 := @if_pos _ (Classical.propDecidable _) (by rw [d1]; exact h.1.1) _ _ _
    rw [this]; omega
  · rw [if_neg q]
    have d1 : (16 * (x % 16) + x / 16) / 16 = x % 16 := by omega
    have d2 : (16 * (x % 16) + x / 16) % 16 = x / 16 := by omega
    refine ⟨?_, by omega⟩
    have : hc Z l (16 * (x % 16) + x / 16) = 16 * ((16 * (x % 16) + x / 16) % 16) + (16 * (x % 16) + x / 16) / 16 := @if_neg _ (Classical.propDecidable _) (by rw [d1]; exact h.1.2) _ _ _
    rw [this]; omega
/-- THE CONTOURS FOUND -/
theorem mo_contours {post : St → Prop} (hS : sM g n X Y Z) (hM : mM (tl X Y n 4096) g) (hl : 0 ≤ l ∧ l ≤ 998)
    (h : ∀ g', lM (ct X Y Z n l 256) g' → fm [5, 6, 7, 8, 9, 10, 11, 12] [11, 15] g g' → post g') : wp_mo_findContours (iI l) g post := by
  have ho := hS.1
  have n16 := ho.1
  have L27 := tl_27 (k := 4096) ho
  have inS : ∀ g', fm [5, 6, 7, 8, 9, 10, 11, 12] [11, 15] g g' → sM g' n X Y Z := fun g' f => hS.fm f (by decide) (by decide) (by decide) (by decide)
  have inM : ∀ g', fm [5, 6, 7, 8, 9, 10, 11, 12] [11, 15] g g' → mM (tl X Y n 4096) g' := fun g' f => by
    obtain ⟨m1, m2⟩ := hM
    refine ⟨by rw [f.2 5 (by decide)]; exact m1, ?_⟩
    rw [f.1 4 (by decide) (by decide)]; exact m2
  unfold wp_mo_findContours
  try dsimp only
  -- the third loop
  have L134 : ∀ m e (g2 : St), e + m = 256 → lM (ct X Y Z n l e) g2 → fM X Y Z n l g2 → (∀ e, e < 256 → ((∃ x, cS X Y Z n l x ∧ ce x = e) → g2 5 e = 1) ∧ ((¬ ∃ x, cS X Y Z n l x ∧ ce x = e) → g2 5 e = 0)) → fm [5, 6, 7, 8, 9, 10, 11, 12] [11, 15] g g2 →
      lp_mo_findContours_L134 (m + 1) (nI e) g2 (fun g14 => (post g14)) post := by
    intro m
    induction m with
    | zero =>
      intro e g2 he hl2 hf his f2
      have : e = 256 := by omega
      subst this
      unfold lp_mo_findContours_L134
      try dsimp only
      exact ⟨fun _ => h g2 hl2 f2, fun q => absurd (by decide) q⟩
    | succ m ih =>
      intro e g2 he hl2 hf his f2
      have e256 : e < 256 := by omega
      have go : ∀ g3, lM (ct X Y Z n l (e + 1)) g3 → (∀ k, k ≠ 0 → k ≠ 8 → k ≠ 9 → k ≠ 10 → k ≠ 11 → k ≠ 12 → g3 k = g2 k) → fm [5, 6, 7, 8, 9, 10, 11, 12] [11, 15] g g3 → lp_mo_findContours_L134 (m + 1) (nI e + 1) g3 (fun g14 => (post g14)) post := fun g3 a b c => by
        rw [nI_1]
        refine ih (e + 1) g3 (by omega) a (fun x hx => ?_) (fun e' he' => ?_) c
        · rw [b 6 (by decide) (by decide) (by decide) (by decide) (by decide) (by decide), b 7 (by decide) (by decide) (by decide) (by decide) (by decide) (by decide)]; exact hf x hx
        · rw [b 5 (by decide) (by decide) (by decide) (by decide) (by decide) (by decide)]; exact his e' he'
      unfold lp_mo_findContours_L134
      try dsimp only
      rw [ix_nI (by omega)]
      refine ⟨fun q => ?_, fun _ => ⟨vp_in_nI (by omega) (by omega), fun q => ?_, fun q => ⟨vp_in_nI (by omega) (by omega), fun q2 => ?_, fun q2 => ?_⟩⟩⟩
      · rw [show (256 : Int32) = nI 256 from rfl, nI_leI (by omega) (by omega)] at q; omega
      · have no : ¬ ∃ x, cS X Y Z n l x ∧ ce x = e := fun w => by rw [(his e e256).1 w] at q; exact absurd q (by decide)
        refine go g2 ?_ (fun _ _ _ _ _ _ _ => rfl) f2
        rw [ct_s0 (fun w => no ⟨_, w.2.1, ce_hc ho e256 w.1⟩)]; exact hl2
      · obtain ⟨x, hx, ex⟩ : ∃ x, cS X Y Z n l x ∧ ce x = e := Classical.byContradiction fun w => q ((his e e256).2 w)
        have t : ∃ x, ct_T (ct X Y Z n l e) x ∧ ce x = e := Classical.byContradiction fun w => q2 ((hl2.2.2.2.2 e e256).2 w)
        refine go g2 ?_ (fun _ _ _ _ _ _ _ => rfl) f2
        rw [ct_s0 (fun w => ?_)]
        · exact hl2
        · obtain ⟨y, y1, y2⟩ := t
          have ys : cS X Y Z n l y := by obtain ⟨i, i1, i2⟩ := y1; rw [← i2]; exact (ct_all ho e).2.2.2.1 i i1
          have := (hc_ce ho ys).1
          rw [y2] at this
          rw [this] at w
          exact w.2.2 y1
      · obtain ⟨x, hx, ex⟩ : ∃ x, cS X Y Z n l x ∧ ce x = e := Classical.byContradiction fun w => q ((his e e256).2 w)
        have nt : ¬ ct_T (ct X Y Z n l e) x := fun t => by rw [(hl2.2.2.2.2 e e256).1 ⟨x, t, ex⟩] at q2; exact absurd q2 (by decide)
        obtain ⟨hx1, hx2⟩ := hc_ce ho hx
        rw [ex] at hx1 hx2
        rw [← ex]
        refine mo_gather ho hf (ct_all ho e) hl2 hx nt (fun g3 l3 f3 => ?_)
        rw [ex]
        refine go g3 ?_ (fun k k0 a b c d e => f3.1 k k0 (by simp only [List.mem_cons, List.not_mem_nil, or_false, not_or]; exact ⟨a, b, c, d, e⟩)) (f2.tr (f3.mono (by decide) (by decide)))
        rw [ct_s1 ⟨hx2, by rw [hx1]; exact hx, by rw [hx1]; exact nt⟩, hx1]; exact l3
  -- the second loop
  have L45 : ∀ m t (g2 : St), t + m = (tl X Y n 4096).length → jM X Y Z l (jP Z l ((tl X Y n 4096).take t)) g2 → (∀ e, e < 256 → g2 8 e = 0) → fm [5, 6, 7, 8, 9, 10, 11, 12] [11, 15] g g2 →
      lp_mo_findContours_L45 (m + 1) (iI l) (nI t) g2 (fun g10 => (∀ g11 : St, g11 = gp g10 0 11 0 → (∀ g12 : St, g12 = gp g11 0 15 0 → (∃ k134, lp_mo_findContours_L134 k134 0 g12 (fun g14 => (post g14)) post)))) post := by
    intro m
    induction m with
    | zero =>
      intro t g2 ht hj h8 f2
      have M2 := inM g2 f2
      have et : t = (tl X Y n 4096).length := by omega
      unfold lp_mo_findContours_L45
      try dsimp only
      rw [M2.1]
      refine ⟨fun _ g11 e11 g12 e12 => ⟨257, ?_⟩, fun q => absurd ((nI_leI (by omega) (by omega)).mpr (by omega)) q⟩
      rw [et, List.take_length] at hj
      obtain ⟨a1, a2⟩ := jM_all ho hj
      have k12 : ∀ k, k ≠ 0 → g12 k = g2 k := fun k k0 => by rw [e12, gp_n k0, e11, gp_n k0]
      refine L134 256 0 g12 (by omega) ⟨?_, ?_, fun k hk => absurd hk (Nat.not_lt_zero _), fun i hi => absurd hi (Nat.not_lt_zero _), fun e he => ⟨fun ⟨x, ⟨i, i1, _⟩, _⟩ => absurd i1 (Nat.not_lt_zero _), fun _ => ?_⟩⟩ (fun x hx => ?_) (fun e he => ?_) ?_
      · rw [e12, gp_o (by decide), e11]; exact gp_s
      · rw [e12]; exact gp_s
      · rw [k12 8 (by decide)]; exact h8 e he
      · rw [k12 6 (by decide), k12 7 (by decide)]; exact a1 x hx
      · rw [k12 5 (by decide)]; exact a2 e he
      · rw [e12, e11]; exact (f2.g0 (by decide)).g0 (by decide)
    | succ m ih =>
      intro t g2 ht hj h8 f2
      have M2 := inM g2 f2
      have tl' : t < (tl X Y n 4096).length := by omega
      obtain ⟨b1, b2, b3⟩ := M2.2 t tl'
      obtain ⟨xk, xt⟩ := tl_get tl'
      generalize hx : (tl X Y n 4096).getD t 0 = x at *
      have T := ge_T_of ho xt
      have tk : (tl X Y n 4096).take (t + 1) = (tl X Y n 4096).take t ++ [x] := by
        rw [List.take_succ, ← hx, List.getD_eq_getElem?_getD]
        rw [List.getElem?_eq_getElem tl']; rfl
      unfold lp_mo_findContours_L45
      try dsimp only
      rw [M2.1, pk3', show (1 : Int32) = nI 1 from rfl, show (2 : Int32) = nI 2 from rfl, nI_add, nI_add, nI_add, ix_nI (by omega), ix_nI (by omega), ix_nI (by omega), b1, b2, b3]
      refine ⟨fun q => absurd ((nI_leI (by omega) (by omega)).mp q) (by omega), fun _ => ⟨vp_in_nI (by omega) (by omega), vp_in_nI (by omega) (by omega), vp_in_nI (by omega) (by omega), ?_⟩⟩
      have ok0 : jOk X Y Z n l (jP Z l ((tl X Y n 4096).take t)) := fun h w r p => by
        obtain ⟨p1, p2, y, p3, p4⟩ := p
        exact ⟨p1, p2, ge_pm_T (ge_T_of ho (tl_mem.mp (List.mem_of_mem_take p3)).2) p4⟩
      have S2 := inS g2 f2
      refine mo_pair S2 hl T ok0 hj (fun g3 P3 ok3 j3 i3 f3 => ?_)
      have F3 := f2.tr (f3.mono (S' := [5, 6, 7, 8, 9, 10, 11, 12]) (T' := [11, 15]) (by decide) (by decide))
      refine mo_pair (inS g3 F3) hl (ge_T_sw T) ok3 j3 (fun g4 P4 ok4 j4 i4 f4 => ?_)
      have F4 := F3.tr (f4.mono (S' := [5, 6, 7, 8, 9, 10, 11, 12]) (T' := [11, 15]) (by decide) (by decide))
      refine mo_pair (inS g4 F4) hl (ge_T_rot T) ok4 j4 (fun g5 P5 ok5 j5 i5 f5 => ?_)
      have F5 := F4.tr (f5.mono (S' := [5, 6, 7, 8, 9, 10, 11, 12]) (T' := [11, 15]) (by decide) (by decide))
      refine ih (t + 1) g5 (by omega) (jM_ext (fun h w r => ?_) j5) (fun e he => ?_) F5
      · rw [tk, jP_app, i5, i4, i3]
        unfold ge_pm
        constructor
        · rintro (((p | ⟨q1, q2, p | p⟩) | ⟨q1, q2, p | p⟩) | ⟨q1, q2, p | p⟩)
          · exact Or.inl p
          · exact Or.inr ⟨q1, q2, Or.inl p⟩
          · exact Or.inr ⟨q1, q2, Or.inr (Or.inr (Or.inl p))⟩
          · exact Or.inr ⟨q1, q2, Or.inr (Or.inl p)⟩
          · exact Or.inr ⟨q1, q2, Or.inr (Or.inr (Or.inr (Or.inr (Or.inl p))))⟩
          · exact Or.inr ⟨q1, q2, Or.inr (Or.inr (Or.inr (Or.inl p)))⟩
          · exact Or.inr ⟨q1, q2, Or.inr (Or.inr (Or.inr (Or.inr (Or.inr p))))⟩
        · rintro (p | ⟨q1, q2, p | p | p | p | p | p⟩)
          · exact Or.inl (Or.inl (Or.inl p))
          · exact Or.inl (Or.inl (Or.inr ⟨q1, q2, Or.inl p⟩))
          · exact Or.inl (Or.inr ⟨q1, q2, Or.inl p⟩)
          · exact Or.inl (Or.inl (Or.inr ⟨q1, q2, Or.inr p⟩))
          · exact Or.inr ⟨q1, q2, Or.inl p⟩
          · exact Or.inl (Or.inr ⟨q1, q2, Or.inr p⟩)
          · exact Or.inr ⟨q1, q2, Or.inr p⟩
      · rw [f5.1 8 (by decide) (by decide), f4.1 8 (by decide) (by decide), f3.1 8 (by decide) (by decide)]; exact h8 e he
  -- the first loop
  have L2 : ∀ m e (g2 : St), e + m = 256 → (∀ j, j < e → g2 5 j = 0 ∧ g2 8 j = 0 ∧ g2 6 j = -1 ∧ g2 7 j = -1) → fm [5, 6, 7, 8, 9, 10, 11, 12] [11, 15] g g2 →
      lp_mo_findContours_L2 (m + 1) (iI l) (nI e) g2 (fun w6 g5 => (∃ k45, lp_mo_findContours_L45 k45 w6 0 g5 (fun g10 => (∀ g11 : St, g11 = gp g10 0 11 0 → (∀ g12 : St, g12 = gp g11 0 15 0 → (∃ k134, lp_mo_findContours_L134 k134 0 g12 (fun g14 => (post g14)) post)))) post)) post := by
    intro m
    induction m with
    | zero =>
      intro e g2 he ha f2
      have : e = 256 := by omega
      subst this
      unfold lp_mo_findContours_L2
      try dsimp only
      refine ⟨fun _ => ⟨(tl X Y n 4096).length + 1, L45 _ 0 g2 (by omega) ?_ (fun j hj => (ha j hj).2.1) f2⟩, fun q => absurd (by decide) q⟩
      have em : ∀ h w r, ¬ jP Z l ((tl X Y n 4096).take 0) h w r := fun h w r ⟨_, _, x, q, _⟩ => by rw [List.take_zero] at q; exact absurd q List.not_mem_nil
      exact ⟨⟨fun h w r p => absurd p (em h w r), fun j hj _ => (ha j hj).1⟩, ⟨fun h w r p => absurd p (em h w r), fun j hj _ => (ha j hj).2.2.1⟩, fun h w r p => absurd p (em h w r), fun j hj _ => (ha j hj).2.2.2⟩
    | succ m ih =>
      intro e g2 he ha f2
      unfold lp_mo_findContours_L2
      try dsimp only
      rw [ix_nI (by omega), vn_0]
      have v := vp_in_nI (n := e) (N := 256) (by omega) (by omega)
      refine ⟨fun q => ?_, fun _ => ⟨v, fun g3 e3 => ⟨v, fun g4 e4 => ⟨v, fun g5 e5 => ⟨v, fun g6 e6 => ?_⟩⟩⟩⟩⟩
      · rw [show (256 : Int32) = nI 256 from rfl, nI_leI (by omega) (by omega)] at q; omega
      · rw [nI_1]
        refine ih (e + 1) g6 (by omega) (fun j hj => ?_) ?_
        · have w5 : g6 5 = g3 5 := by rw [e6, gp_n (by decide), e5, gp_n (by decide), e4, gp_n (by decide)]
          have w8 : g6 8 = g4 8 := by rw [e6, gp_n (by decide), e5, gp_n (by decide)]
          have w6 : g6 6 = g5 6 := by rw [e6, gp_n (by decide)]
          rw [w5, w8, w6, e6, e5, e3, e4]
          by_cases q : j = e
          · rw [q]; exact ⟨gp_s, gp_s, gp_s, gp_s⟩
          · rw [gp_o q, gp_o q, gp_o q, gp_o q, e3, gp_n (by decide), gp_n (by decide), gp_n (by decide), gp_n (by decide), gp_n (by decide), gp_n (by decide)]
            exact ha j (by omega)
        · rw [e6, e5, e4, e3]
          exact (((f2.pt (by decide) (by decide)).pt (by decide) (by decide)).pt (by decide) (by decide)).pt (by decide) (by decide)
  exact ⟨257, L2 256 0 g (by omega) (fun j hj => absurd hj (by omega)) fm.rf⟩
end
