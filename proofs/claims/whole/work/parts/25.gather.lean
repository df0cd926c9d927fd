/-! The reference gathers a contour. -/
def fM (X Y Z : Nat → Int) (n : Nat) (l : Int) (g : St) : Prop := ∀ x, cS X Y Z n l x → g 6 (ce x) = on ((cN X Y Z n l x).map ce) ∧ g 7 (ce x) = on ((cB X Y Z n l x).map ce)
def lM (s : Ct) (g : St) : Prop := g 0 11 = nI s.1 ∧ g 0 15 = nI (s.2.1 s.1) ∧ (∀ k, k < s.1 → g 9 k = nI (s.2.1 k) ∧ g 10 k = nI (s.2.1 (k + 1) - s.2.1 k) ∧ (s.2.2.2 k → g 11 k = 1) ∧ (¬ s.2.2.2 k → g 11 k = 0)) ∧
  (∀ i, i < s.2.1 s.1 → g 12 i = nI (ce (s.2.2.1 i))) ∧ ∀ e, e < 256 → ((∃ x, ct_T s x ∧ ce x = e) → g 8 e = 1) ∧ ((¬ ∃ x, ct_T s x ∧ ce x = e) → g 8 e = 0)
section
variable {g : St} {n : Nat} {X Y Z : Nat → Int} {l : Int}
theorem ce_256 (ho : ge_ok X Y n) {x : Nat} (h : cS X Y Z n l x) : ce x < 256 := by
  obtain ⟨x1, x2, x3, -⟩ := cS_lt ho h
  have n16 := ho.1
  unfold ce; split <;> omega
theorem onc_neg (ho : ge_ok X Y n) {o : Option Nat} (h : ∀ y, o = some y → cS X Y Z n l y) : on (o.map ce) < 0 ↔ o = none := by
  cases o with
  | none => exact ⟨fun _ => rfl, fun _ => by decide⟩
  | some y =>
    have := ce_256 ho (h y rfl)
    exact ⟨fun q => absurd q (nI_pos (by omega)), fun q => by cases q⟩
theorem mo_gather {s : Ct} {x : Nat} {post : St → Prop} (ho : ge_ok X Y n) (hf : fM X Y Z n l g) (hs : ct_ok X Y Z n l s) (hl : lM s g) (hx : cS X Y Z n l x) (nt : ¬ ct_T s x)
    (h2 : ∀ g', lM (ct_add X Y Z n l s x) g' → fm [8, 9, 10, 11, 12] [11, 15] g g' → post g') : wp_mo_gather (nI (ce x)) g post := by
  have x1 := ce_256 ho hx
  obtain ⟨c1, c2⟩ := ct_120 ho hs
  obtain ⟨q1, q2, q3, q4, q5⟩ := id hl
  obtain ⟨aok, aT⟩ := ct_add_ok ho hs hx nt
  obtain ⟨a1, a2⟩ := ct_120 ho aok
  obtain ⟨c, O, F, G⟩ := s
  have e1 : (ct_add X Y Z n l (c, O, F, G) x).1 = c + 1 := rfl
  have eO1 : (ct_add X Y Z n l (c, O, F, G) x).2.1 (c + 1) = O c + (ln X Y Z n l x + 1) := if_pos rfl
  rw [e1, eO1] at a1 a2
  try dsimp only at q1 q2 q3 q4 q5 c1 c2
  have hb := bg_ok ho hx
  have hm := ln_ok ho hx
  have fS := bg_S ho hx
  have f1 := ce_256 ho fS
  obtain ⟨k, k120, hk⟩ := cB_is ho hx
  have eqc : ∀ {y z : Nat}, cS X Y Z n l y → cS X Y Z n l z → (nI (ce y) = nI (ce z) ↔ y = z) := fun {y z} hy hz => by
    have := ce_256 ho hy
    have := ce_256 ho hz
    rw [nI_eq (by omega) (by omega)]
    exact ⟨fun e => ce_inj ho hy hz e, fun e => by rw [e]⟩
  -- the second half
  have J : ∀ b : Int32, ((b = 1 ∧ cB X Y Z n l (bg X Y Z n l x) ≠ none) ∨ (b = 0 ∧ cB X Y Z n l (bg X Y Z n l x) = none)) → jn_mo_gather_J38 (nI (ce (bg X Y Z n l x))) b g post := by
    intro b hbb
    generalize hm9 : ln X Y Z n l x = m at *
    generalize hf9 : bg X Y Z n l x = f at *
    unfold jn_mo_gather_J38
    try dsimp only
    rw [q1, q2, ix_nI (by omega)]
    refine ⟨vp_in_nI (by omega) (by omega), fun g4 e4 => ?_⟩
    have g4c : g4 0 11 = nI c := by rw [e4, gp_n (by decide)]; exact q1
    rw [g4c, ix_nI (by omega)]
    refine ⟨vp_in_nI (by omega) (by omega), fun g5 e5 => ?_⟩
    have vb : vp_nar .boolean b = b := by rcases hbb with ⟨rfl, -⟩ | ⟨rfl, -⟩; exact vn_1; exact vn_0
    rw [vb] at e5
    have f5 : ∀ k, k ≠ 9 → k ≠ 11 → g5 k = g k := fun k a b => by rw [e5, gp_n b, e4, gp_n a]
    have fin : ∀ g9 : St, (∀ k, k ≠ 0 → k ≠ 8 → k ≠ 12 → g9 k = g5 k) → (∀ j, j ≠ 15 → g9 0 j = g 0 j) → g9 0 15 = nI (O c + (m + 1)) → (∀ i, i < O c → g9 12 i = g 12 i) → (∀ j y, j ≤ m → cr_w (cN X Y Z n l) j f = some y → g9 12 (O c + j) = nI (ce y)) →
        (∀ z, z < 256 → (∃ j y, j ≤ m ∧ cr_w (cN X Y Z n l) j f = some y ∧ ce y = z) → g9 8 z = 1) → (∀ z, z < 256 → (¬ ∃ j y, j ≤ m ∧ cr_w (cN X Y Z n l) j f = some y ∧ ce y = z) → g9 8 z = g 8 z) →
        (vp_in (g9 0 11) 130 ∧ (vp_in (g9 0 11) 130 ∧ ∀ g10 : St, g10 = gp g9 10 (ix (g9 0 11)) ((g9 0 15) - (g9 9 (ix (g9 0 11)))) → (∀ g11 : St, g11 = gp g10 0 11 ((g10 0 11) + 1) → (post g11)))) := by
      intro g9 k1 k2 k3 k4 k5 k6 k7
      have c9 : g9 0 11 = nI c := by rw [k2 11 (by decide)]; exact q1
      have b9 : g9 9 c = nI (O c) := by rw [k1 9 (by decide) (by decide) (by decide), e5, gp_n (by decide), e4]; exact gp_s
      rw [c9, ix_nI (by omega), k3, b9, pk_sub (by omega), Nat.add_sub_cancel_left]
      refine ⟨vp_in_nI (by omega) (by omega), vp_in_nI (by omega) (by omega), fun g10 e10 g11 e11 => ?_⟩
      have c10 : g10 0 11 = nI c := by rw [e10, gp_n (by decide)]; exact c9
      rw [c10, nI_1] at e11
      refine h2 g11 ⟨?_, ?_, fun k hk => ?_, fun i hi => ?_, fun z hz => ?_⟩ ⟨fun k k0 hk => ?_, fun j hj => ?_⟩
      · rw [e11]; exact gp_s
      · rw [e1, eO1, e11, gp_o (by decide), e10, gp_n (by decide)]; exact k3
      · rw [e1] at hk
        have w9 : g11 9 = g9 9 := by rw [e11, gp_n (by decide), e10, gp_n (by decide)]
        have w10 : g11 10 = g10 10 := by rw [e11, gp_n (by decide)]
        have w11 : g11 11 = g9 11 := by rw [e11, gp_n (by decide), e10, gp_n (by decide)]
        rw [w9, w10, w11, k1 11 (by decide) (by decide) (by decide)]
        by_cases e : k = c
        · subst e
          have oc : (ct_add X Y Z n l (k, O, F, G) x).2.1 k = O k := if_neg (by omega)
          have gc : (ct_add X Y Z n l (k, O, F, G) x).2.2.2 k = (cB X Y Z n l (bg X Y Z n l x) ≠ none) := if_pos rfl
          rw [oc, eO1, gc, hf9, Nat.add_sub_cancel_left]
          refine ⟨b9, by rw [e10]; exact gp_s, ?_⟩
          rw [e5, gp_s]
          rcases hbb with ⟨rfl, w⟩ | ⟨rfl, w⟩
          · exact ⟨fun _ => rfl, fun u => absurd w u⟩
          · exact ⟨fun u => absurd w u, fun _ => rfl⟩
        · have oc : (ct_add X Y Z n l (c, O, F, G) x).2.1 k = O k := if_neg (by omega)
          have oc1 : (ct_add X Y Z n l (c, O, F, G) x).2.1 (k + 1) = O (k + 1) := if_neg (by omega)
          have gc : (ct_add X Y Z n l (c, O, F, G) x).2.2.2 k = G k := if_neg e
          rw [oc, oc1, gc]
          obtain ⟨r1, r2, r3⟩ := q3 k (by omega)
          refine ⟨?_, ?_, ?_⟩
          · rw [k1 9 (by decide) (by decide) (by decide), e5, gp_n (by decide), e4, gp_o e]; exact r1
          · rw [e10, gp_o e, k1 10 (by decide) (by decide) (by decide), f5 10 (by decide) (by decide)]; exact r2
          · rw [e5, gp_o e, e4, gp_n (by decide)]; exact r3
      · rw [e1, eO1] at hi
        have w12 : g11 12 = g9 12 := by rw [e11, gp_n (by decide), e10, gp_n (by decide)]
        rw [w12]
        rcases Nat.lt_or_ge i (O c) with q | q
        · have : (ct_add X Y Z n l (c, O, F, G) x).2.2.1 i = F i := if_pos q
          rw [this, k4 i q]; exact q4 i q
        · obtain ⟨j, rfl⟩ : ∃ j, i = O c + j := ⟨i - O c, by omega⟩
          have : (ct_add X Y Z n l (c, O, F, G) x).2.2.1 (O c + j) = (cr_w (cN X Y Z n l) ((O c + j) - O c) (bg X Y Z n l x)).getD 0 := if_neg (show ¬ (O c + j < O c) by omega)
          obtain ⟨⟨ye, y1, -⟩, -⟩ := id hm
          rw [show m = j + (m - j) by omega] at y1
          obtain ⟨y, hy⟩ := cr_w_le _ _ y1
          rw [this, hf9, Nat.add_sub_cancel_left, hy, k5 j y (by omega) hy]; rfl
      · have w8 : g11 8 = g9 8 := by rw [e11, gp_n (by decide), e10, gp_n (by decide)]
        rw [w8]
        constructor
        · rintro ⟨y, t, ey⟩
          rcases (aT y).mp t with t | ⟨j, j1, j2⟩
          · by_cases w : ∃ j y, j ≤ m ∧ cr_w (cN X Y Z n l) j f = some y ∧ ce y = z
            · exact k6 z hz w
            · rw [k7 z hz w]; exact (q5 z hz).1 ⟨y, t, ey⟩
          · exact k6 z hz ⟨j, y, j1, j2, ey⟩
        · intro w
          rw [k7 z hz (fun ⟨j, y, j1, j2, ey⟩ => w ⟨y, (aT y).mpr (Or.inr ⟨j, j1, j2⟩), ey⟩)]
          exact (q5 z hz).2 (fun ⟨y, t, ey⟩ => w ⟨y, (aT y).mpr (Or.inl t), ey⟩)
      · simp only [List.mem_cons, List.not_mem_nil, or_false, not_or] at hk
        rw [e11, gp_n k0, e10, gp_n hk.2.2.1, k1 k k0 hk.1 hk.2.2.2.2, f5 k hk.2.1 hk.2.2.2.1]
      · simp only [List.mem_cons, List.not_mem_nil, or_false, not_or] at hj
        rw [e11, gp_o hj.1, e10, gp_n (by decide), k2 j hj.2]
    have loop : ∀ d j y (g6 : St), j + d = m → cr_w (cN X Y Z n l) j f = some y → (∀ k, k ≠ 0 → k ≠ 8 → k ≠ 12 → g6 k = g5 k) → (∀ j, j ≠ 15 → g6 0 j = g 0 j) → g6 0 15 = nI (O c + j) → (∀ i, i < O c → g6 12 i = g 12 i) → (∀ j' y, j' < j → cr_w (cN X Y Z n l) j' f = some y → g6 12 (O c + j') = nI (ce y)) →
        (∀ z, z < 256 → (∃ j' y, j' < j ∧ cr_w (cN X Y Z n l) j' f = some y ∧ ce y = z) → g6 8 z = 1) → (∀ z, z < 256 → (¬ ∃ j' y, j' < j ∧ cr_w (cN X Y Z n l) j' f = some y ∧ ce y = z) → g6 8 z = g 8 z) →
        lp_mo_gather_L67 (d + 2) (nI (ce f)) (nI (ce y)) 1 g6 (fun g9 => (vp_in (g9 0 11) 130 ∧ (vp_in (g9 0 11) 130 ∧ ∀ g10 : St, g10 = gp g9 10 (ix (g9 0 11)) ((g9 0 15) - (g9 9 (ix (g9 0 11)))) → (∀ g11 : St, g11 = gp g10 0 11 ((g10 0 11) + 1) → (post g11))))) post := by
      intro d
      induction d with
      | zero =>
        intro j y g6 hj hy k1 k2 k3 k4 k5 k6 k7
        have ej : j = m := by omega
        subst ej
        have ys : cS X Y Z n l y := cr_w_S (fun _ _ q => cN_S ho q) j fS hy
        have y256 := ce_256 ho ys
        show lp_mo_gather_L67 (1 + 1) _ _ _ _ _ _
        unfold lp_mo_gather_L67
        try dsimp only
        rw [k3, ix_nI (by omega), ix_nI (by omega)]
        refine ⟨fun u => absurd u (by decide), fun _ => ⟨vp_in_nI (by omega) (by omega), fun g7 e7 g8 e8 => ⟨vp_in_nI (by omega) (by omega), fun g9 e9 => ⟨vp_in_nI (by omega) (by omega), ?_⟩⟩⟩⟩
        have c7 : g7 0 15 = nI (O c + j) := by rw [e7, gp_n (by decide)]; exact k3
        rw [c7, nI_1] at e8
        rw [vn_1] at e9
        have n6 : g9 6 (ce y) = on ((cN X Y Z n l y).map ce) := by
          rw [e9, gp_n (by decide), e8, gp_n (by decide), e7, gp_n (by decide), k1 6 (by decide) (by decide) (by decide), f5 6 (by decide) (by decide)]
          exact (hf y ys).1
        have ng := onc_neg (X := X) (Y := Y) (Z := Z) (n := n) (l := l) ho (o := cN X Y Z n l y) (fun z hz => cN_S ho hz)
        have done : ∀ v4, lp_mo_gather_L67 1 (nI (ce f)) v4 0 g9 (fun g9 => (vp_in (g9 0 11) 130 ∧ (vp_in (g9 0 11) 130 ∧ ∀ g10 : St, g10 = gp g9 10 (ix (g9 0 11)) ((g9 0 15) - (g9 9 (ix (g9 0 11)))) → (∀ g11 : St, g11 = gp g10 0 11 ((g10 0 11) + 1) → (post g11))))) post := fun v4 => by
          show lp_mo_gather_L67 (0 + 1) _ _ _ _ _ _
          unfold lp_mo_gather_L67
          try dsimp only
          refine ⟨fun _ => fin g9 (fun k k0 a b => ?_) (fun i hi => ?_) ?_ (fun i hi => ?_) (fun j' y' a b => ?_) (fun z hz ⟨j', y', a, b, e⟩ => ?_) (fun z hz w => ?_), fun u => absurd rfl u⟩
          · rw [e9, gp_n a, e8, gp_n k0, e7, gp_n b]; exact k1 k k0 a b
          · rw [e9, gp_n (by decide), e8, gp_o hi, e7, gp_n (by decide)]; exact k2 i hi
          · rw [e9, gp_n (by decide), e8]; exact gp_s
          · rw [e9, gp_n (by decide), e8, gp_n (by decide), e7, gp_o (by omega)]; exact k4 i hi
          · rw [e9, gp_n (by decide), e8, gp_n (by decide), e7]
            by_cases e : j' = j
            · rw [e] at b ⊢
              rw [hy] at b
              cases b
              exact gp_s
            · rw [gp_o (by omega)]; exact k5 j' y' (by omega) b
          · rw [e9]
            by_cases q : z = ce y
            · rw [q]; exact gp_s
            · rw [gp_o q, e8, gp_n (by decide), e7, gp_n (by decide)]
              refine k6 z hz ⟨j', y', ?_, b, e⟩
              have : j' ≠ j := fun q' => q (by rw [q', hy] at b; cases b; exact e.symm)
              omega
          · have q : z ≠ ce y := fun q => w ⟨j, y, by omega, hy, q.symm⟩
            rw [e9, gp_o q, e8, gp_n (by decide), e7, gp_n (by decide)]
            exact k7 z hz (fun ⟨j', y', a, b, e⟩ => w ⟨j', y', by omega, b, e⟩)
        rw [n6]
        refine ⟨fun _ => done _, fun u => ⟨fun _ => done _, fun w => ?_⟩⟩
        obtain ⟨⟨ye, y1, y2⟩, -⟩ := id hm
        rw [hy] at y1
        cases y1
        rcases y2 with y2 | y2
        · exact absurd (ng.mpr y2) u
        · rw [y2] at w; exact absurd rfl w
      | succ d ih =>
        intro j y g6 hj hy k1 k2 k3 k4 k5 k6 k7
        have ys : cS X Y Z n l y := cr_w_S (fun _ _ q => cN_S ho q) j fS hy
        have y256 := ce_256 ho ys
        obtain ⟨⟨ye, y1, -⟩, nb⟩ := id hm
        rw [show m = (j + 1) + d by omega] at y1
        obtain ⟨z, hz⟩ := cr_w_le _ _ y1
        have nz : cN X Y Z n l y = some z := by rw [cr_w_s hy] at hz; exact hz
        have zs := cN_S ho nz
        have z256 := ce_256 ho zs
        have zf : z ≠ f := fun e => nb (j + 1) (by omega) (by omega) (by rw [hz, e])
        show lp_mo_gather_L67 ((d + 2) + 1) _ _ _ _ _ _
        unfold lp_mo_gather_L67
        try dsimp only
        rw [k3, ix_nI (by omega), ix_nI (by omega)]
        refine ⟨fun u => absurd u (by decide), fun _ => ⟨vp_in_nI (by omega) (by omega), fun g7 e7 g8 e8 => ⟨vp_in_nI (by omega) (by omega), fun g9 e9 => ⟨vp_in_nI (by omega) (by omega), ?_⟩⟩⟩⟩
        have c7 : g7 0 15 = nI (O c + j) := by rw [e7, gp_n (by decide)]; exact k3
        rw [c7, nI_1] at e8
        rw [vn_1] at e9
        have n6 : g9 6 (ce y) = nI (ce z) := by
          rw [e9, gp_n (by decide), e8, gp_n (by decide), e7, gp_n (by decide), k1 6 (by decide) (by decide) (by decide), f5 6 (by decide) (by decide), (hf y ys).1, nz]; rfl
        rw [n6]
        refine ⟨fun u => absurd u (nI_pos (by omega)), fun _ => ⟨fun u => absurd ((eqc zs fS).mp u) zf, fun _ => ?_⟩⟩
        refine ih (j + 1) z g9 (by omega) hz (fun k k0 a b => ?_) (fun i hi => ?_) ?_ (fun i hi => ?_) (fun j' y' a b => ?_) (fun z' hz' ⟨j', y', a, b, e⟩ => ?_) (fun z' hz' w => ?_)
        · rw [e9, gp_n a, e8, gp_n k0, e7, gp_n b]; exact k1 k k0 a b
        · rw [e9, gp_n (by decide), e8, gp_o hi, e7, gp_n (by decide)]; exact k2 i hi
        · rw [e9, gp_n (by decide), e8]; exact gp_s
        · rw [e9, gp_n (by decide), e8, gp_n (by decide), e7, gp_o (by omega)]; exact k4 i hi
        · rw [e9, gp_n (by decide), e8, gp_n (by decide), e7]
          by_cases e : j' = j
          · rw [e] at b ⊢
            rw [hy] at b
            cases b
            exact gp_s
          · rw [gp_o (by omega)]; exact k5 j' y' (by omega) b
        · rw [e9]
          by_cases q : z' = ce y
          · rw [q]; exact gp_s
          · rw [gp_o q, e8, gp_n (by decide), e7, gp_n (by decide)]
            refine k6 z' hz' ⟨j', y', ?_, b, e⟩
            have : j' ≠ j := fun q' => q (by rw [q', hy] at b; cases b; exact e.symm)
            omega
        · have q : z' ≠ ce y := fun q => w ⟨j, y, by omega, hy, q.symm⟩
          rw [e9, gp_o q, e8, gp_n (by decide), e7, gp_n (by decide)]
          exact k7 z' hz' (fun ⟨j', y', a, b, e⟩ => w ⟨j', y', by omega, b, e⟩)
    refine ⟨m + 2, loop m 0 f g5 (by omega) rfl (fun _ _ _ _ => rfl) (fun j hj => ?_) ?_ (fun i hi => ?_) (fun j' y a _ => absurd a (by omega)) (fun z _ ⟨j', y, a, _⟩ => absurd a (by omega)) (fun z _ _ => ?_)⟩
    · rw [f5 0 (by decide) (by decide)]
    · rw [f5 0 (by decide) (by decide)]; exact q2
    · rw [f5 12 (by decide) (by decide)]
    · rw [f5 8 (by decide) (by decide)]
  -- back to the beginning
  unfold wp_mo_gather
  try dsimp only
  have back : ∀ d i y, i + d = k → cr_w (cB X Y Z n l) i x = some y → lp_mo_gather_L4 (d + 2) (nI (ce x)) (nI (ce y)) 0 g (fun w2 w3 g1 => (jn_mo_gather_J38 w2 w3 g1 post)) post := by
    intro d
    induction d with
    | zero =>
      intro i y hi hy
      have ei : i = k := by omega
      subst ei
      have ys : cS X Y Z n l y := cr_w_S (fun _ _ q => cB_S ho q) i hx hy
      have y256 := ce_256 ho ys
      have ng := onc_neg (X := X) (Y := Y) (Z := Z) (n := n) (l := l) ho (o := cB X Y Z n l y) (fun z hz => cB_S ho hz)
      show lp_mo_gather_L4 (1 + 1) _ _ _ _ _ _
      unfold lp_mo_gather_L4
      try dsimp only
      rw [ix_nI (by omega), (hf y ys).2]
      obtain ⟨⟨y', e1, e2⟩, -⟩ := id hk
      rw [hy] at e1
      cases e1
      rcases e2 with e2 | e2
      · have eb : bg X Y Z n l x = y := cr_beg_u hb ⟨i, hk, Or.inl ⟨y, hy, e2, rfl⟩⟩
        have j0 := J 0 (Or.inr ⟨rfl, by rw [eb]; exact e2⟩)
        rw [eb] at j0
        refine ⟨vp_in_nI (by omega) (by omega), fun _ => j0, fun u => absurd (ng.mpr e2) u⟩
      · have eb : bg X Y Z n l x = x := cr_beg_u hb ⟨i, hk, Or.inr ⟨y, hy, e2, rfl⟩⟩
        have nb : cB X Y Z n l x ≠ none := by
          rcases Nat.eq_zero_or_pos i with i0 | i0
          · subst i0
            cases hy
            rw [e2]; exact fun q => by cases q
          · intro q
            rw [show i = 1 + (i - 1) by omega] at hy
            obtain ⟨z, hz⟩ := cr_w_le _ _ hy
            have : cr_w (cB X Y Z n l) (0 + 1) x = cB X Y Z n l x := cr_w_s rfl
            rw [show (1 : Nat) = 0 + 1 from rfl, this, q] at hz
            cases hz
        have j1 := J 1 (Or.inl ⟨rfl, by rw [eb]; exact nb⟩)
        rw [eb] at j1
        rw [e2]
        show vp_in (nI (ce y)) 256 ∧ _
        refine ⟨vp_in_nI (by omega) (by omega), fun u => absurd u (nI_pos (n := ce x) (by omega)), fun _ => ⟨fun u => absurd rfl u, fun _ => ⟨vp_in_nI (by omega) (by omega), fun u => absurd rfl u, fun _ => ?_⟩⟩⟩
        show lp_mo_gather_L4 (0 + 1) (nI (ce x)) (nI (ce x)) 1 g _ _
        unfold lp_mo_gather_L4
        try dsimp only
        exact ⟨vp_in_nI (by omega) (by omega), fun _ => j1, fun _ => ⟨fun _ => j1, fun u => absurd u (by decide)⟩⟩
    | succ d ih =>
      intro i y hi hy
      have ys : cS X Y Z n l y := cr_w_S (fun _ _ q => cB_S ho q) i hx hy
      have y256 := ce_256 ho ys
      obtain ⟨⟨ye, y1, -⟩, nb⟩ := id hk
      rw [show k = (i + 1) + d by omega] at y1
      obtain ⟨z, hz⟩ := cr_w_le _ _ y1
      have nz : cB X Y Z n l y = some z := by rw [cr_w_s hy] at hz; exact hz
      have zs := cB_S ho nz
      have z256 := ce_256 ho zs
      have zx : z ≠ x := fun e => nb (i + 1) (by omega) (by omega) (by rw [hz, e])
      show lp_mo_gather_L4 ((d + 2) + 1) _ _ _ _ _ _
      unfold lp_mo_gather_L4
      try dsimp only
      rw [ix_nI (by omega), (hf y ys).2, nz]
      show vp_in (nI (ce y)) 256 ∧ _
      refine ⟨vp_in_nI (by omega) (by omega), fun u => absurd u (nI_pos (n := ce z) (by omega)), fun _ => ⟨fun u => absurd rfl u, fun _ => ⟨vp_in_nI (by omega) (by omega), fun _ => ih (i + 1) z (by omega) hz, fun u => ?_⟩⟩⟩
      exact absurd ((eqc zs hx).mp u) zx
  exact ⟨k + 2, back k 0 x (by omega) rfl⟩
end
