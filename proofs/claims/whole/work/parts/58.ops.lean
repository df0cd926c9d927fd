/-! The calls, both sides at once. k: 0, or which of the law's exceptions; b: the answer. -/
/-- behind the class's call: it answers b, or throws one that the law's wrapper takes for k -/
abbrev pC (k : Nat) (b : Int32) (n : Nat) (X Y Z : Nat → Int) (t : Lt) : Int32 → St → Prop := fun r g1 => k = 0 ∧ r = b ∧ iC g1 n X Y Z t
abbrev xC (m : List (Nat × Nat)) (k : Nat) (n : Nat) (X Y Z : Nat → Int) (t : Lt) : Nat → St → Prop := fun e g1 => (e, k) ∈ m ∧ iC g1 n X Y Z t
/-- behind the reference's -/
abbrev pM (k : Nat) (b : Int32) (n : Nat) (X Y Z : Nat → Int) (t : Lt) : Int32 → St → Prop := fun r h1 => h1 0 0 = nI k ∧ (k = 0 → r = b) ∧ iM h1 n X Y Z t
section
variable {g h : St} {n : Nat} {X Y Z : Nat → Int} {t : Lt}
theorem t_cut {post : St → Prop} (hp : ∀ g', g' = gp g 4 3 0 → post g') : wp_ta_cutTo 0 g post := by
  unfold wp_ta_cutTo; exact hp
/-! wipe, labels, triangles -/
theorem op_triangles (hC : iC g n X Y Z t) (hM : iM h n X Y Z t) : ∃ b : Int32, wp_sc_triangles g (fun r g1 => r = b ∧ iC g1 n X Y Z t) ∧ wp_mo_triangles h (fun r h1 => r = b ∧ iM h1 n X Y Z t) := by
  refine ⟨nI (tl X Y n 4096).length, ?_, ?_⟩
  · unfold wp_sc_triangles wp_me_size
    exact ⟨hC.2.1.1, hC⟩
  · unfold wp_mo_triangles
    intro g1 e1
    refine ⟨?_, by rw [e1]; exact hM.t0⟩
    rw [e1, gp_o (by decide)]; exact hM.2.1.1
theorem op_labels (hC : iC g n X Y Z t) (hM : iM h n X Y Z t) : ∃ b : Int32, wp_sc_labels g (fun r g1 => r = b ∧ iC g1 n X Y Z t) ∧ wp_mo_labels h (fun r h1 => r = b ∧ iM h1 n X Y Z t) := by
  refine ⟨nI t.1, ?_, ?_⟩
  · unfold wp_sc_labels wp_ta_size
    exact ⟨hC.2.2.2.2.1, hC⟩
  · unfold wp_mo_labels
    intro g1 e1
    refine ⟨?_, by rw [e1]; exact hM.t0⟩
    rw [e1, gp_o (by decide)]; exact hM.2.2.1
theorem iC_cut {X' Y' Z' : Nat → Int} {n' : Nat} {g1 : St} (hS : sC g1 n' X' Y' Z') (hm : mC X' Y' (tl X' Y' n' 4096) g1) (h12 : g1 12 0 = 0) : iC (gp g1 4 3 0) n' X' Y' Z' (0, t.2) := by
  have f : fr [4] g1 (gp g1 4 3 0) := fr.rf.gp (by decide)
  refine ⟨hS.fr f (by decide) (by decide) (by decide) (by decide), hm.fr f (by decide) (by decide) (by decide), by rw [gp_n (by decide)]; exact h12, Nat.zero_le _, gp_s, fun i hi => absurd hi (Nat.not_lt_zero _)⟩
theorem iM_cut {X' Y' Z' : Nat → Int} {n' : Nat} {g1 : St} (hS : sM g1 n' X' Y' Z') (hm : mM (tl X' Y' n' 4096) g1) (h17 : g1 0 17 = 0) : iM g1 n' X' Y' Z' (0, t.2) := ⟨hS, hm, h17, fun i hi => absurd hi (Nat.not_lt_zero _)⟩
theorem op_wipe (hC : iC g n X Y Z t) (hM : iM h n X Y Z t) : ∃ b : Int32, wp_sc_wipe g (fun r g1 => r = b ∧ iC g1 n X Y Z (0, t.2)) ∧ wp_mo_wipe h (fun r h1 => r = b ∧ iM h1 n X Y Z (0, t.2)) := by
  refine ⟨nI t.1, ?_, ?_⟩
  · unfold wp_sc_wipe wp_ta_size
    refine t_cut (fun g' e => ⟨hC.2.2.2.2.1, ?_⟩)
    rw [e]; exact iC_cut hC.1 hC.2.1 hC.2.2.1
  · unfold wp_mo_wipe
    intro g1 e1 g2 e2
    refine ⟨?_, ?_⟩
    · rw [e1, gp_o (by decide)]; exact hM.2.2.1
    · have f : fm [] [0, 17] h g2 := by rw [e2, e1]; exact (fm.rf.g0 (by decide)).g0 (by decide)
      refine iM_cut (hM.1.fm f (by decide) (by decide) (by decide) (by decide)) ⟨?_, ?_⟩ (by rw [e2]; exact gp_s)
      · rw [f.2 5 (by decide)]; exact hM.2.1.1
      · rw [f.1 4 (by decide) (by decide)]; exact hM.2.1.2
/-! spot -/
theorem mo_addSpot {a b z : Int} {post : Int32 → St → Prop} (hM : iM h n X Y Z t) (hn : n < 16) (hab : (0 ≤ a ∧ a ≤ 63) ∧ 0 ≤ b ∧ b ≤ 63) (hz : 0 ≤ z ∧ z ≤ 999) (nt : ¬ ∃ v, v < n ∧ X v = a ∧ Y v = b)
    (hp : ∀ h1, h1 0 0 = 0 → iM h1 (n + 1) (sx X n a) (sx Y n b) (sx Z n z) (0, t.2) → post (nI n) h1) : jn_mo_spot_J114 (iI a) (iI b) (iI z) 0 h post := by
  have hS := hM.1
  unfold jn_mo_spot_J114
  intro g6 e6
  have z6 : g6 0 0 = 0 := by rw [e6]; exact gp_s
  have c6 : g6 0 1 = nI n := by rw [e6, gp_o (by decide)]; exact hS.2.2.1
  rw [z6, c6, ix_nI (by omega)]
  refine ⟨fun _ => ⟨vp_in_nI (by omega) (by omega), fun g7 e7 => ?_⟩, fun q => absurd rfl q⟩
  have c7 : g7 0 1 = nI n := by rw [e7, gp_n (by decide)]; exact c6
  rw [c7, ix_nI (by omega)]
  refine ⟨vp_in_nI (by omega) (by omega), fun g8 e8 => ?_⟩
  have c8 : g8 0 1 = nI n := by rw [e8, gp_n (by decide)]; exact c7
  rw [c8, ix_nI (by omega)]
  refine ⟨vp_in_nI (by omega) (by omega), fun g9 e9 g10 e10 g11 e11 => ?_⟩
  have c9 : g9 0 1 = nI n := by rw [e9, gp_n (by decide)]; exact c8
  rw [c9, nI_1] at e10
  have c11 : g11 0 1 = nI (n + 1) := by rw [e11, gp_o (by decide), e10]; exact gp_s
  have S11 : sM g11 (n + 1) (sx X n a) (sx Y n b) (sx Z n z) := by
    refine ⟨ok_add hS.1 hn hab nt, fun v hv => ?_, c11, fun v hv => ?_⟩
    · by_cases e : v = n
      · rw [e, sx_n]; exact hz
      · rw [sx_l (by omega)]; exact hS.2.1 v (by omega)
    · have w1 : g11 1 = g7 1 := by rw [e11, gp_n (by decide), e10, gp_n (by decide), e9, gp_n (by decide), e8, gp_n (by decide)]
      have w2 : g11 2 = g8 2 := by rw [e11, gp_n (by decide), e10, gp_n (by decide), e9, gp_n (by decide)]
      have w3 : g11 3 = g9 3 := by rw [e11, gp_n (by decide), e10, gp_n (by decide)]
      rw [w1, w2, w3]
      by_cases e : v = n
      · rw [e, sx_n, sx_n, sx_n, e7, e8, e9]; exact ⟨gp_s, gp_s, gp_s⟩
      · rw [sx_l (by omega), sx_l (by omega), sx_l (by omega), e7, gp_o e, e8, gp_o e, e9, gp_o e, e7, gp_n (by decide), e8, gp_n (by decide), e7, gp_n (by decide), e6, gp_n (by decide), gp_n (by decide), gp_n (by decide)]
        exact hS.2.2.2 v (by omega)
  refine mo_find S11 (fun g12 m12 f12 => ?_)
  have c12 : g12 0 1 = nI (n + 1) := by rw [f12.2 1 (by decide)]; exact c11
  rw [c12, nI_pred]
  refine hp g12 ?_ (iM_cut (S11.fm f12 (by decide) (by decide) (by decide) (by decide)) m12 ?_)
  · rw [f12.2 0 (by decide), e11, gp_o (by decide), e10, gp_o (by decide), e9, gp_n (by decide), e8, gp_n (by decide), e7, gp_n (by decide)]; exact z6
  · rw [f12.2 17 (by decide), e11]; exact gp_s
theorem mo_bad {a b z : Int} {post : Int32 → St → Prop} {k : Nat} (hk : k = 1 ∨ k = 2) (hM : iM h n X Y Z t) (hp : ∀ h1, h1 0 0 = nI k → iM h1 n X Y Z t → post 0 h1) : jn_mo_spot_J114 (iI a) (iI b) (iI z) (nI k) h post := by
  unfold jn_mo_spot_J114
  intro g6 e6
  have z6 : g6 0 0 = nI k := by rw [e6]; exact gp_s
  rw [z6]
  refine ⟨fun q => ?_, fun _ => hp g6 z6 (by rw [e6]; exact hM.t0)⟩
  have q : nI k = nI 0 := q
  rw [nI_eq (by omega) (by omega)] at q; omega
/-- the loop over the spots that are there, with what is known to be bad -/
theorem mo_spotL {a b z : Int} {post : Int32 → St → Prop} {s0 : Int32} (hM : iM h n X Y Z t) (ha : inr a) (hb : inr b) (hs : s0 = 0 ∨ s0 = 1)
    (h1 : (s0 = 1 ∨ ∃ v, v < n ∧ X v = a ∧ Y v = b) → jn_mo_spot_J114 (iI a) (iI b) (iI z) 1 h post)
    (h0 : (s0 = 0 ∧ ¬ ∃ v, v < n ∧ X v = a ∧ Y v = b) → ((¬ n = 16 → jn_mo_spot_J114 (iI a) (iI b) (iI z) 0 h post) ∧ (n = 16 → jn_mo_spot_J114 (iI a) (iI b) (iI z) 2 h post))) : jn_mo_spot_J36 (iI a) (iI b) (iI z) s0 h post := by
  have hS := hM.1
  have n16 := hS.1.1
  unfold jn_mo_spot_J36
  have fin : ∀ w : Int32, ((w = 0 ∧ s0 = 0 ∧ ¬ ∃ v, v < n ∧ X v = a ∧ Y v = b) ∨ (w = 1 ∧ (s0 = 1 ∨ ∃ v, v < n ∧ X v = a ∧ Y v = b))) → ((w = 0 → ((¬ ((h 0 1) = 16) → (jn_mo_spot_J114 (iI a) (iI b) (iI z) 0 h post)) ∧ ((h 0 1) = 16 → (jn_mo_spot_J114 (iI a) (iI b) (iI z) 2 h post)))) ∧ (¬ (w = 0) → (jn_mo_spot_J114 (iI a) (iI b) (iI z) 1 h post))) := fun w hw => by
    rcases hw with ⟨rfl, w2⟩ | ⟨rfl, w2⟩
    · have e : h 0 1 = 16 ↔ n = 16 := by rw [hS.2.2.1, show (16 : Int32) = nI 16 from rfl, nI_eq (by omega) (by omega)]
      rw [e]
      exact ⟨fun _ => h0 w2, fun q => absurd rfl q⟩
    · exact ⟨fun q => absurd q (by decide), fun _ => h1 w2⟩
  have loop : ∀ m i (w : Int32), i + m = n → ((w = 0 ∧ s0 = 0 ∧ ¬ ∃ v, v < i ∧ X v = a ∧ Y v = b) ∨ (w = 1 ∧ (s0 = 1 ∨ ∃ v, v < i ∧ X v = a ∧ Y v = b))) →
      lp_mo_spot_L41 (m + 1) (iI a) (iI b) (iI z) w (nI i) h (fun w2 w3 w4 w5 g1 => ((w5 = 0 → ((¬ ((g1 0 1) = 16) → (jn_mo_spot_J114 w2 w3 w4 0 g1 post)) ∧ ((g1 0 1) = 16 → (jn_mo_spot_J114 w2 w3 w4 2 g1 post)))) ∧ (¬ (w5 = 0) → (jn_mo_spot_J114 w2 w3 w4 1 g1 post)))) post := by
    intro m
    induction m with
    | zero =>
      intro i w hi hw
      have ei : i = n := by omega
      subst ei
      unfold lp_mo_spot_L41
      rw [hS.2.2.1]
      refine ⟨fun _ => ?_, fun k => absurd ((nI_leI (by omega) (by omega)).mpr (Nat.le_refl _)) k⟩
      exact fin w hw
    | succ m ih =>
      intro i w hi hw
      have hin : i < n := by omega
      obtain ⟨e1, e2, -⟩ := hS.2.2.2 i hin
      obtain ⟨b1, b2, b3, b4⟩ := hS.1.2.1 i hin
      have yes : (s0 = 1 ∨ ∃ v, v < i + 1 ∧ X v = a ∧ Y v = b) → lp_mo_spot_L41 (m + 1) (iI a) (iI b) (iI z) 1 (nI i + 1) h (fun w2 w3 w4 w5 g1 => ((w5 = 0 → ((¬ ((g1 0 1) = 16) → (jn_mo_spot_J114 w2 w3 w4 0 g1 post)) ∧ ((g1 0 1) = 16 → (jn_mo_spot_J114 w2 w3 w4 2 g1 post)))) ∧ (¬ (w5 = 0) → (jn_mo_spot_J114 w2 w3 w4 1 g1 post)))) post := fun q => by
        rw [nI_1]; exact ih (i + 1) 1 (by omega) (Or.inr ⟨rfl, q⟩)
      unfold lp_mo_spot_L41
      rw [hS.2.2.1, hS.ix hin, e1, e2, iI_eq (by omega) (by omega) ha.1 ha.2, iI_eq (by omega) (by omega) hb.1 hb.2]
      refine ⟨fun k => absurd ((nI_leI (by omega) (by omega)).mp k) (by omega), fun _ => ⟨fun k => yes ?_, fun k => ?_⟩⟩
      · rcases hw with ⟨w1, -⟩ | ⟨-, w2 | ⟨v, v1, v2⟩⟩
        · exact absurd w1 k
        · exact Or.inl w2
        · exact Or.inr ⟨v, by omega, v2⟩
      · have hw : s0 = 0 ∧ ¬ ∃ v, v < i ∧ X v = a ∧ Y v = b := by
          rcases hw with ⟨-, w2⟩ | ⟨w1, -⟩
          · exact w2
          · rw [w1] at k; exact absurd k (by decide)
        have no : ¬ (X i = a ∧ Y i = b) → lp_mo_spot_L41 (m + 1) (iI a) (iI b) (iI z) 0 (nI i + 1) h (fun w2 w3 w4 w5 g1 => ((w5 = 0 → ((¬ ((g1 0 1) = 16) → (jn_mo_spot_J114 w2 w3 w4 0 g1 post)) ∧ ((g1 0 1) = 16 → (jn_mo_spot_J114 w2 w3 w4 2 g1 post)))) ∧ (¬ (w5 = 0) → (jn_mo_spot_J114 w2 w3 w4 1 g1 post)))) post := fun q => by
          rw [nI_1]
          refine ih (i + 1) 0 (by omega) (Or.inl ⟨rfl, hw.1, fun ⟨v, v1, v2⟩ => ?_⟩)
          by_cases e : v = i
          · rw [e] at v2; exact q v2
          · exact hw.2 ⟨v, by omega, v2⟩
        exact ⟨hS.v16 hin, fun k2 => no (fun q => k2 q.1), fun k2 => ⟨hS.v16 hin, fun k3 => no (fun q => k3 q.2), fun k3 => yes (Or.inr ⟨i, by omega, k2, k3⟩)⟩⟩
  refine ⟨n + 1, loop n 0 s0 (by omega) ?_⟩
  rcases hs with e | e
  · exact Or.inl ⟨e, e, fun ⟨v, v1, _⟩ => absurd v1 (by omega)⟩
  · exact Or.inr ⟨e, Or.inl e⟩
theorem op_spot {a b z : Int} (ha : inr a) (hb : inr b) (hz : inr z) (hC : iC g n X Y Z t) (hM : iM h n X Y Z t) :
    ∃ (k : Nat) (r : Int32) (n' : Nat) (X' Y' Z' : Nat → Int) (t' : Lt), k ≤ 2 ∧ wp_sc_spot (iI a) (iI b) (iI z) g (pC k r n' X' Y' Z' t') (xC [(0, 1), (1, 2)] k n' X' Y' Z' t') ∧ wp_mo_spot (iI a) (iI b) (iI z) h (pM k r n' X' Y' Z' t') := by
  have hS := hC.1
  have n16 := hS.1.1
  -- the reference, up to what is bad
  have mo : ∀ {post : Int32 → St → Prop}, (((0 ≤ a ∧ a ≤ 63) ∧ 0 ≤ b ∧ b ≤ 63) ∧ 0 ≤ z ∧ z ≤ 999 → jn_mo_spot_J36 (iI a) (iI b) (iI z) 0 h post) → (¬ (((0 ≤ a ∧ a ≤ 63) ∧ 0 ≤ b ∧ b ≤ 63) ∧ 0 ≤ z ∧ z ≤ 999) → jn_mo_spot_J36 (iI a) (iI b) (iI z) 1 h post) → wp_mo_spot (iI a) (iI b) (iI z) h post := fun {post} q1 q0 => by
    unfold wp_mo_spot jn_mo_spot_J31
    rw [c_lt0 ha, c_lt0 hb, c_lt0 hz, show (63 : Int32) = iI 63 from rfl, show (999 : Int32) = iI 999 from rfl, c_gt 63 ha ⟨by omega, by omega⟩, c_gt 63 hb ⟨by omega, by omega⟩, c_le 999 hz ⟨by omega, by omega⟩]
    exact ⟨fun k => q0 (by omega), fun k1 => ⟨fun k => q0 (by omega), fun k2 => ⟨fun k => q0 (by omega), fun k3 => ⟨fun k => q0 (by omega), fun k4 => ⟨fun k => q0 (by omega), fun k5 => ⟨fun k => q1 (by omega), fun k => q0 (by omega)⟩⟩⟩⟩⟩⟩
  by_cases ok : ((0 ≤ a ∧ a ≤ 63) ∧ 0 ≤ b ∧ b ≤ 63) ∧ 0 ≤ z ∧ z ≤ 999
  · by_cases tk : ∃ v, v < n ∧ X v = a ∧ Y v = b
    · refine ⟨1, 0, n, X, Y, Z, t, by omega, ?_, mo (fun _ => mo_spotL hM ha hb (Or.inl rfl) (fun _ => mo_bad (k := 1) (Or.inl rfl) hM (fun h1 e i => ⟨e, fun q => absurd q (by decide), i⟩)) (fun q => absurd tk q.2)) (fun q => absurd ok q)⟩
      unfold wp_sc_spot
      refine sc_onMap ha hb (fun _ => ⟨fun q => absurd q (by decide), fun _ => sc_isHeight hz (fun _ => ⟨fun q => absurd q (by decide), fun _ => ?_⟩) (fun q => absurd ok.2 q)⟩) (fun q => absurd ok.1 q)
      exact sp_taken hS ha hb (fun _ => ⟨fun q => absurd q (by decide), fun _ => ⟨by decide, hC⟩⟩) (fun q => absurd tk q)
    · by_cases full : n = 16
      · refine ⟨2, 0, n, X, Y, Z, t, by omega, ?_, mo (fun _ => mo_spotL hM ha hb (Or.inl rfl) (fun q => absurd (q.resolve_left (by decide)) tk) (fun _ => ⟨fun q => absurd full q, fun _ => mo_bad (k := 2) (Or.inr rfl) hM (fun h1 e i => ⟨e, fun q => absurd q (by decide), i⟩)⟩)) (fun q => absurd ok q)⟩
        unfold wp_sc_spot
        refine sc_onMap ha hb (fun _ => ⟨fun q => absurd q (by decide), fun _ => sc_isHeight hz (fun _ => ⟨fun q => absurd q (by decide), fun _ => ?_⟩) (fun q => absurd ok.2 q)⟩) (fun q => absurd ok.1 q)
        refine sp_taken hS ha hb (fun q => absurd q tk) (fun _ => ⟨fun _ => ?_, fun q => absurd rfl q⟩)
        unfold wp_sp_size
        rw [hS.2.2.1, full]
        exact ⟨fun q => absurd q (by decide), fun _ => ⟨by decide, by rw [full] at hC; exact hC⟩⟩
      · have hn : n < 16 := by omega
        refine ⟨0, nI n, n + 1, sx X n a, sx Y n b, sx Z n z, (0, t.2), by omega, ?_, mo (fun _ => mo_spotL hM ha hb (Or.inl rfl) (fun q => absurd (q.resolve_left (by decide)) tk) (fun _ => ⟨fun _ => mo_addSpot hM hn ok.1 ok.2 tk (fun h1 e i => ⟨e, fun _ => rfl, i⟩), fun q => absurd q full⟩)) (fun q => absurd ok q)⟩
        unfold wp_sc_spot
        refine sc_onMap ha hb (fun _ => ⟨fun q => absurd q (by decide), fun _ => sc_isHeight hz (fun _ => ⟨fun q => absurd q (by decide), fun _ => ?_⟩) (fun q => absurd ok.2 q)⟩) (fun q => absurd ok.1 q)
        refine sp_taken hS ha hb (fun q => absurd q tk) (fun _ => ⟨fun _ => ?_, fun q => absurd rfl q⟩)
        unfold wp_sp_size
        try dsimp only
        rw [hS.2.2.1]
        refine ⟨fun _ => ?_, fun q => absurd ?_ q⟩
        · refine sp_add hS hn ok.1 ok.2 tk (fun g1 s1 f1 => me_rebuild s1 (fun g2 m2 f2 => t_cut (fun g3 e3 => ⟨rfl, rfl, ?_⟩)))
          rw [e3]
          refine iC_cut (s1.fr f2 (by decide) (by decide) (by decide) (by decide)) m2 ?_
          rw [f2 12 (by decide), f1 12 (by decide)]; exact hC.2.2.1
        · rw [show (16 : Int32) = nI 16 from rfl, nI_ltI (by omega) (by omega)]; exact hn
  · refine ⟨1, 0, n, X, Y, Z, t, by omega, ?_, mo (fun q => absurd q ok) (fun _ => mo_spotL hM ha hb (Or.inr rfl) (fun _ => mo_bad (k := 1) (Or.inl rfl) hM (fun h1 e i => ⟨e, fun q => absurd q (by decide), i⟩)) (fun q => absurd q.1 (by decide)))⟩
    unfold wp_sc_spot
    refine sc_onMap ha hb (fun q1 => ⟨fun q => absurd q (by decide), fun _ => sc_isHeight hz (fun q2 => absurd ⟨q1, q2⟩ ok) (fun _ => ⟨fun _ => ⟨by decide, hC⟩, fun q => absurd rfl q⟩)⟩) (fun _ => ⟨fun _ => ⟨by decide, hC⟩, fun q => absurd rfl q⟩)
end
