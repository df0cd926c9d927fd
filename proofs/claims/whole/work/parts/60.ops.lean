/-! contours, contour, crossing, place, label on both sides. -/
section
variable {g h : St} {n : Nat} {X Y Z : Nat → Int} {t : Lt} {l : Int}
theorem tr_C {post : St → Prop} {px : Nat → St → Prop} (hl : inr l) (hI : iC g n X Y Z t) (h1 : 0 ≤ l ∧ l ≤ 998 → ∀ g', iC g' n X Y Z t → lC (ct X Y Z n l 256) g' → hC Z n l g' → post g') (h0 : ¬ (0 ≤ l ∧ l ≤ 998) → px 0 g) : wp_sc_traceLevel (iI l) g post px := by
  unfold wp_sc_traceLevel
  rw [c_lt0 hl, show (998 : Int32) = iI 998 from rfl, c_le 998 hl ⟨by omega, by omega⟩]
  refine ⟨fun k => h0 (by omega), fun k => ⟨fun k2 => ?_, fun k2 => h0 (by omega)⟩⟩
  refine li_trace hI.1 hI.2.1 hI.2.2.1 (by omega) k2 (fun g' a b f => h1 ⟨by omega, k2⟩ g' (hI.fr f (by decide) ?_) a b)
  have := a.2.1 0 (Nat.zero_le _)
  rw [(ct_all hI.1.1 256).1] at this
  exact this
theorem mo_level {post : Int32 → St → Prop} (hl : inr l) (h1 : 0 ≤ l ∧ l ≤ 998 → post 1 g) (h0 : ¬ (0 ≤ l ∧ l ≤ 998) → post 0 g) : wp_mo_isLevel (iI l) g post := by
  unfold wp_mo_isLevel
  rw [c_lt0 hl, show (998 : Int32) = iI 998 from rfl, c_gt 998 hl ⟨by omega, by omega⟩]
  exact ⟨fun k => h0 (by omega), fun k => ⟨fun k2 => h0 (by omega), fun k2 => h1 (by omega)⟩⟩
theorem tr_M {post : St → Prop} (hl : 0 ≤ l ∧ l ≤ 998) (hM : iM h n X Y Z t) (h1 : ∀ h', iM h' n X Y Z t → lM (ct X Y Z n l 256) h' → h' 0 0 = h 0 0 → post h') : wp_mo_findContours (iI l) h post :=
  mo_contours hM.1 hM.2.1 hl (fun h' a f => h1 h' (hM.fm f (by decide) (by decide)) a (f.2 0 (by decide)))
theorem lM.t0 {s : Ct} {v : Int32} (hl : lM s h) : lM s (gp h 0 0 v) := by
  obtain ⟨a1, a2, a3, a4, a5⟩ := hl
  refine ⟨?_, ?_, ?_, ?_, ?_⟩
  · rw [gp_o (by decide)]; exact a1
  · rw [gp_o (by decide)]; exact a2
  · rw [gp_n (by decide), gp_n (by decide), gp_n (by decide)]; exact a3
  · rw [gp_n (by decide)]; exact a4
  · rw [gp_n (by decide)]; exact a5
theorem op_contours (hl : inr l) (hC : iC g n X Y Z t) (hM : iM h n X Y Z t) :
    ∃ (c : Nat) (r : Int32), c ≤ 2 ∧ wp_sc_contours (iI l) g (pC c r n X Y Z t) (xC [(0, 1)] c n X Y Z t) ∧ wp_mo_contours (iI l) h (pM c r n X Y Z t) := by
  by_cases ok : 0 ≤ l ∧ l ≤ 998
  · refine ⟨0, nI (ct X Y Z n l 256).1, by omega, ?_, ?_⟩
    · unfold wp_sc_contours
      refine tr_C hl hC (fun _ g' i a b => ?_) (fun q => absurd ok q)
      unfold wp_li_size
      exact ⟨rfl, a.1, i⟩
    · unfold wp_mo_contours
      refine mo_level hl (fun _ => ⟨fun q => absurd q (by decide), fun _ => ?_⟩) (fun q => absurd ok q)
      unfold jn_mo_contours_J13
      intro g3 e3
      have z3 : g3 0 0 = 0 := by rw [e3]; exact gp_s
      rw [z3]
      exact ⟨fun _ => tr_M ok (by rw [e3]; exact hM.t0) (fun h' i a e => ⟨by rw [e]; exact z3, fun _ => a.1, i⟩), fun q => absurd rfl q⟩
  · refine ⟨1, 0, by omega, ?_, ?_⟩
    · unfold wp_sc_contours
      exact tr_C hl hC (fun q => absurd q ok) (fun _ => ⟨by decide, hC⟩)
    · unfold wp_mo_contours
      refine mo_level hl (fun q => absurd q ok) (fun _ => ⟨fun _ => ?_, fun q => absurd rfl q⟩)
      unfold jn_mo_contours_J13
      intro g3 e3
      have z3 : g3 0 0 = 1 := by rw [e3]; exact gp_s
      rw [z3]
      exact ⟨fun q => absurd q (by decide), fun _ => ⟨z3, fun q => absurd q (by decide), by rw [e3]; exact hM.t0⟩⟩
theorem mo_asks {k : Int} {post : Int32 → St → Prop} (hl : inr l) (hk : inr k) (hM : iM h n X Y Z t) (h0 : ¬ (0 ≤ l ∧ l ≤ 998) → post 1 h)
    (h1 : 0 ≤ l ∧ l ≤ 998 → ∀ h', iM h' n X Y Z t → lM (ct X Y Z n l 256) h' → (¬ (0 ≤ k ∧ k < (ct X Y Z n l 256).1) → post 2 h') ∧ (0 ≤ k ∧ k < (ct X Y Z n l 256).1 → post 0 h')) : wp_mo_asked (iI l) (iI k) h post := by
  have ho := hM.1.1
  obtain ⟨c1, c2⟩ := ct_120 ho (ct_all (Z := Z) (l := l) ho 256)
  unfold wp_mo_asked
  refine mo_level hl (fun ok => ⟨fun _ => tr_M ok hM (fun h' i a e => ?_), fun q => absurd q (by decide)⟩) (fun q => ⟨fun q => absurd rfl q, fun _ => h0 q⟩)
  rw [a.1, c_lt0 hk, iIn (ct X Y Z n l 256).1, c_lt _ hk ⟨by omega, by omega⟩]
  have := h1 ok h' i a
  exact ⟨fun q => this.1 (by omega), fun q => ⟨fun q2 => this.2 (by omega), fun q2 => this.1 (by omega)⟩⟩
theorem li_line {k : Int} {s : Ct} {post : Int32 → St → Prop} (hk : inr k) (hs : s.1 ≤ 120) (hl : lC s g) (h1 : 0 ≤ k ∧ k < s.1 → post 1 g) (h0 : ¬ (0 ≤ k ∧ k < s.1) → post 0 g) : wp_li_isLine (iI k) g post := by
  unfold wp_li_isLine
  rw [hl.1, c_lt0 hk, iIn s.1, c_ge _ hk ⟨by omega, by omega⟩]
  exact ⟨fun q => h0 (by omega), fun q => ⟨fun q2 => h0 (by omega), fun q2 => h1 (by omega)⟩⟩
theorem op_contour {k : Int} (hl : inr l) (hk : inr k) (hC : iC g n X Y Z t) (hM : iM h n X Y Z t) :
    ∃ (c : Nat) (r : Int32), c ≤ 2 ∧ wp_sc_contour (iI l) (iI k) g (pC c r n X Y Z t) (xC [(0, 1), (2, 2)] c n X Y Z t) ∧ wp_mo_contour (iI l) (iI k) h (pM c r n X Y Z t) := by
  have ho := hC.1.1
  have hs := ct_all (Z := Z) (l := l) ho 256
  have hbg := ct_beg (Z := Z) (l := l) ho 256
  obtain ⟨c1, c2⟩ := ct_120 ho hs
  generalize hsg : ct X Y Z n l 256 = s at *
  -- where the reference throws c
  have bad : ∀ {c : Nat} {h1 : St} {P : Int32 → St → Prop → Prop}, (c = 1 ∨ c = 2) → iM h1 n X Y Z t → ∀ g3 : St, g3 = gp h1 0 0 (nI c) → g3 0 0 = nI c ∧ ¬ g3 0 0 = 0 ∧ iM g3 n X Y Z t := fun {c h1 P} hc i g3 e3 => by
    have z3 : g3 0 0 = nI c := by rw [e3]; exact gp_s
    refine ⟨z3, fun q => ?_, by rw [e3]; exact i.t0⟩
    rw [z3] at q
    have q : nI c = nI 0 := q
    rw [nI_eq (by omega) (by omega)] at q; omega
  by_cases ok : 0 ≤ l ∧ l ≤ 998
  · by_cases ln : 0 ≤ k ∧ k < s.1
    · obtain ⟨m, rfl⟩ := nat_of ln.1
      have ms : m < s.1 := by omega
      have le := ct_le hs (show m + 1 ≤ s.1 by omega) (Nat.le_refl _)
      -- which it is
      have : ∃ r : Int32, (¬ s.2.2.2 m → r = nI (s.2.1 (m + 1) - s.2.1 m)) ∧ (s.2.2.2 m → ∀ v, spk s m v → (∀ u, spk s m u → X v ≤ X u) → (hi Z l v → r = nI (s.2.1 (m + 1) - s.2.1 m) + 2000) ∧ (¬ hi Z l v → r = nI (s.2.1 (m + 1) - s.2.1 m) + 1000)) := by
        by_cases rg : s.2.2.2 m
        · by_cases ho2 : ∃ v, spk s m v ∧ (∀ u, spk s m u → X v ≤ X u) ∧ hi Z l v
          · obtain ⟨v0, v1, v2, v3⟩ := ho2
            exact ⟨nI (s.2.1 (m + 1) - s.2.1 m) + 2000, fun q => absurd rg q, fun _ v hv hm => ⟨fun _ => rfl, fun q => absurd (ring_hi ho hs ms rg (hbg m ms) v1 hv v2 hm v3) q⟩⟩
          · exact ⟨nI (s.2.1 (m + 1) - s.2.1 m) + 1000, fun q => absurd rg q, fun _ v hv hm => ⟨fun q => absurd ⟨v, hv, hm, q⟩ ho2, fun _ => rfl⟩⟩
        · exact ⟨nI (s.2.1 (m + 1) - s.2.1 m), fun _ => rfl, fun q => absurd q rg⟩
      obtain ⟨r, r0, r1⟩ := this
      refine ⟨0, r, by omega, ?_, ?_⟩
      · unfold wp_sc_contour
        refine tr_C hl hC (fun _ g' i a b => ?_) (fun q => absurd ok q)
        rw [hsg] at a
        refine li_line hk (by omega) a (fun _ => ⟨fun _ => ?_, fun q => absurd q (by decide)⟩) (fun q => absurd ln q)
        rw [iI_nI]
        refine li_len ho hs a ms ?_
        unfold wp_li_isRing
        try dsimp only
        rw [ix_nI (by omega)]
        obtain ⟨ra, rb⟩ := a.2.2.2.1 m ms
        by_cases rg : s.2.2.2 m
        · rw [ra rg]
          refine ⟨vp_in_nI (by omega) (by omega), nb_1, fun _ => ?_, fun q => absurd q (by decide)⟩
          exact li_hollow i.1 hs a b ms (fun v hv hm => ⟨fun q => ⟨fun w => absurd w (by decide), fun _ => ⟨rfl, ((r1 rg v hv hm).1 q).symm, i⟩⟩, fun q => ⟨fun _ => ⟨rfl, ((r1 rg v hv hm).2 q).symm, i⟩, fun w => absurd rfl w⟩⟩)
        · rw [rb rg]
          exact ⟨vp_in_nI (by omega) (by omega), nb_0, fun q => absurd rfl q, fun _ => ⟨rfl, (r0 rg).symm, i⟩⟩
      · unfold wp_mo_contour
        refine mo_asks hl hk hM (fun q => absurd ok q) (fun _ h' i a => ⟨fun q => by rw [hsg] at q; exact absurd ln q, fun _ g3 e3 => ?_⟩)
        rw [hsg] at a
        have z3 : g3 0 0 = 0 := by rw [e3]; exact gp_s
        have a3 : lM s g3 := by rw [e3]; exact a.t0
        have i3 : iM g3 n X Y Z t := by rw [e3]; exact i.t0
        obtain ⟨-, w2, wa, wb⟩ := a3.2.2.1 m ms
        rw [z3, iI_nI, ix_nI (by omega), w2]
        refine ⟨fun _ => ⟨vp_in_nI (by omega) (by omega), vp_in_nI (by omega) (by omega), fun q => ?_, fun q => ?_⟩, fun q => absurd rfl q⟩
        · have rg : s.2.2.2 m := Classical.byContradiction fun w => q (wb w)
          exact mo_hollow i3.1 ok hs a3 ms (fun v hv hm => ⟨fun q => ⟨fun w => absurd w (by decide), fun _ => ⟨z3, fun _ => ((r1 rg v hv hm).1 q).symm, i3⟩⟩, fun q => ⟨fun _ => ⟨z3, fun _ => ((r1 rg v hv hm).2 q).symm, i3⟩, fun w => absurd rfl w⟩⟩)
        · have rg : ¬ s.2.2.2 m := fun w => by rw [wa w] at q; exact absurd q (by decide)
          refine ⟨z3, fun _ => ?_, i3⟩
          rw [r0 rg, Int32.add_zero]
    · refine ⟨2, 0, by omega, ?_, ?_⟩
      · unfold wp_sc_contour
        refine tr_C hl hC (fun _ g' i a b => ?_) (fun q => absurd ok q)
        rw [hsg] at a
        exact li_line hk (by omega) a (fun q => absurd q ln) (fun _ => ⟨fun q => absurd rfl q, fun _ => ⟨by decide, i⟩⟩)
      · unfold wp_mo_contour
        refine mo_asks hl hk hM (fun q => absurd ok q) (fun _ h' i a => ⟨fun _ g3 e3 => ?_, fun q => by rw [hsg] at q; exact absurd q ln⟩)
        obtain ⟨b1, b2, b3⟩ := bad (P := fun _ _ p => p) (c := 2) (Or.inr rfl) i g3 e3
        exact ⟨fun q => absurd q b2, fun _ => ⟨b1, fun q => absurd q (by decide), b3⟩⟩
  · refine ⟨1, 0, by omega, ?_, ?_⟩
    · unfold wp_sc_contour
      exact tr_C hl hC (fun q => absurd q ok) (fun _ => ⟨by decide, hC⟩)
    · unfold wp_mo_contour
      refine mo_asks hl hk hM (fun _ g3 e3 => ?_) (fun q => absurd q ok)
      obtain ⟨b1, b2, b3⟩ := bad (P := fun _ _ p => p) (c := 1) (Or.inl rfl) hM g3 e3
      exact ⟨fun q => absurd q b2, fun _ => ⟨b1, fun q => absurd q (by decide), b3⟩⟩
/-- a crossing asked for: level, contour, number -/
theorem sc_pairAt {k j : Int} {s : Ct} {post : Int32 → St → Prop} {px : Nat → St → Prop} (hk : inr k) (hj : inr j) (ho : ge_ok X Y n) (hs : ct_ok X Y Z n l s) (hl : lC s g)
    (h1 : ∀ m i : Nat, k = m → m < s.1 → j = i → s.2.1 m + i < s.2.1 (m + 1) → post (nI (s.2.2.1 (s.2.1 m + i))) g)
    (h0 : (¬ ∃ m i : Nat, k = m ∧ m < s.1 ∧ j = i ∧ s.2.1 m + i < s.2.1 (m + 1)) → px 2 g) : wp_sc_pairAt (iI k) (iI j) g post px := by
  obtain ⟨c1, c2⟩ := ct_120 ho hs
  unfold wp_sc_pairAt
  refine li_line hk (by omega) hl (fun q => ⟨fun w => absurd w (by decide), fun _ => ?_⟩) (fun q => ⟨fun _ => h0 (fun ⟨m, i, e1, e2, _⟩ => q (by omega)), fun w => absurd rfl w⟩)
  obtain ⟨m, rfl⟩ := nat_of q.1
  have ms : m < s.1 := by omega
  have le := ct_le hs (show m ≤ m + 1 by omega) (show m + 1 ≤ s.1 by omega)
  have le2 := ct_le hs (show m + 1 ≤ s.1 by omega) (Nat.le_refl _)
  rw [c_lt0 hj, iI_nI]
  refine ⟨fun w => h0 (fun ⟨m', i, e1, e2, e3, e4⟩ => by omega), fun w => li_len ho hs hl ms ?_⟩
  rw [iIn (s.2.1 (m + 1) - s.2.1 m), c_lt _ hj ⟨by omega, by omega⟩]
  refine ⟨fun w2 => ?_, fun w2 => h0 (fun ⟨m', i, e1, e2, e3, e4⟩ => ?_)⟩
  · obtain ⟨i, rfl⟩ := nat_of (show 0 ≤ j by omega)
    rw [iI_nI]
    have hi' : s.2.1 m + i < s.2.1 (m + 1) := by omega
    exact li_pair ho hs hl ms hi' (h1 m i rfl ms rfl hi')
  · have : m' = m := by omega
    subst this
    omega
theorem mo_asksFor {k j : Int} {post : Int32 → St → Prop} (hl : inr l) (hk : inr k) (hj : inr j) (hM : iM h n X Y Z t) (h0 : ¬ (0 ≤ l ∧ l ≤ 998) → post 1 h)
    (h1 : 0 ≤ l ∧ l ≤ 998 → ∀ h', iM h' n X Y Z t → lM (ct X Y Z n l 256) h' → ((¬ ∃ m i : Nat, k = m ∧ m < (ct X Y Z n l 256).1 ∧ j = i ∧ (ct X Y Z n l 256).2.1 m + i < (ct X Y Z n l 256).2.1 (m + 1)) → post 2 h') ∧
      (∀ m i : Nat, k = m → m < (ct X Y Z n l 256).1 → j = i → (ct X Y Z n l 256).2.1 m + i < (ct X Y Z n l 256).2.1 (m + 1) → post 0 h')) : wp_mo_askedFor (iI l) (iI k) (iI j) h post := by
  have ho := hM.1.1
  have hs := ct_all (Z := Z) (l := l) ho 256
  obtain ⟨c1, c2⟩ := ct_120 ho hs
  unfold wp_mo_askedFor
  refine mo_asks hl hk hM (fun q => ⟨fun _ => h0 q, fun w => absurd w (by decide)⟩) (fun ok h' i a => ?_)
  have H := h1 ok h' i a
  generalize ct X Y Z n l 256 = s at *
  refine ⟨fun q => ⟨fun _ => H.1 (fun ⟨m, i, e1, e2, _⟩ => q (by omega)), fun w => absurd w (by decide)⟩, fun q => ⟨fun w => absurd rfl w, fun _ => ?_⟩⟩
  obtain ⟨m, rfl⟩ := nat_of q.1
  have ms : m < s.1 := by omega
  have le := ct_le hs (show m ≤ m + 1 by omega) (show m + 1 ≤ s.1 by omega)
  have le2 := ct_le hs (show m + 1 ≤ s.1 by omega) (Nat.le_refl _)
  obtain ⟨-, w2, -⟩ := a.2.2.1 m ms
  rw [c_lt0 hj, iI_nI, ix_nI (by omega), w2, iIn (s.2.1 (m + 1) - s.2.1 m), c_lt _ hj ⟨by omega, by omega⟩]
  refine ⟨fun w => H.1 (fun ⟨m', i, e1, e2, e3, e4⟩ => by omega), fun w => ⟨vp_in_nI (by omega) (by omega), fun w3 => ?_, fun w3 => H.1 (fun ⟨m', i, e1, e2, e3, e4⟩ => ?_)⟩⟩
  · obtain ⟨i', rfl⟩ := nat_of (show 0 ≤ j by omega)
    exact H.2 m i' rfl ms rfl (by omega)
  · have : m' = m := by omega
    subst this
    omega
end
