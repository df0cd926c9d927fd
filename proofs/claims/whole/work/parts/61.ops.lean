/-! crossing, place, label, edge on both sides. -/
section
variable {g h : St} {n : Nat} {X Y Z : Nat → Int} {t : Lt} {l : Int}
/-- the reference's mark c is set, and it is not 0 -/
theorem mark {h1 g3 : St} {c : Nat} (hc : c = 1 ∨ c = 2) (i : iM h1 n X Y Z t) (e3 : g3 = gp h1 0 0 (nI c)) : g3 0 0 = nI c ∧ ¬ g3 0 0 = 0 ∧ iM g3 n X Y Z t := by
  have z3 : g3 0 0 = nI c := by rw [e3]; exact gp_s
  refine ⟨z3, fun q => ?_, by rw [e3]; exact i.t0⟩
  rw [z3] at q
  have q : nI c = nI 0 := q
  rw [nI_eq (by omega) (by omega)] at q; omega
theorem mm_ce (ho : ge_ok X Y n) {x : Nat} (hx : cS X Y Z n l x) : 16 * (if nI (x % 16) < nI (x / 16) then nI (x % 16) else nI (x / 16)) + (if nI (x / 16) < nI (x % 16) then nI (x % 16) else nI (x / 16)) = nI (ce x) := by
  obtain ⟨b1, b2, b3, b4⟩ := cS_lt ho hx
  have n16 := ho.1
  have z1 : nI (x % 16) < nI (x / 16) ↔ x % 16 < x / 16 := nI_ltI (by omega) (by omega)
  have z2 : nI (x / 16) < nI (x % 16) ↔ x / 16 < x % 16 := nI_ltI (by omega) (by omega)
  unfold ce
  by_cases q : x / 16 < x % 16
  · rw [if_neg (fun w => by have := z1.mp w; omega), if_pos (z2.mpr q), if_pos q, pk16]
  · rw [if_pos (z1.mpr (by omega)), if_neg (fun w => q (z2.mp w)), if_neg q, pk16]
theorem ta_size_i {post : Int32 → St → Prop} {v : Int32} (e : g 4 3 = v) (hp : post v g) : wp_ta_size g post := by
  unfold wp_ta_size; rw [e]; exact hp
theorem op_crossing {k j : Int} (hl : inr l) (hk : inr k) (hj : inr j) (hC : iC g n X Y Z t) (hM : iM h n X Y Z t) :
    ∃ (c : Nat) (r : Int32), c ≤ 2 ∧ wp_sc_crossing (iI l) (iI k) (iI j) g (pC c r n X Y Z t) (xC [(0, 1), (2, 2)] c n X Y Z t) ∧ wp_mo_crossing (iI l) (iI k) (iI j) h (pM c r n X Y Z t) := by
  have ho := hC.1.1
  have hs := ct_all (Z := Z) (l := l) ho 256
  obtain ⟨c1, c2⟩ := ct_120 ho hs
  by_cases ok : 0 ≤ l ∧ l ≤ 998
  · by_cases ex : ∃ m i : Nat, k = m ∧ m < (ct X Y Z n l 256).1 ∧ j = i ∧ (ct X Y Z n l 256).2.1 m + i < (ct X Y Z n l 256).2.1 (m + 1)
    · obtain ⟨m, i, rfl, ms, rfl, mi⟩ := ex
      have le2 := ct_le hs (show m + 1 ≤ (ct X Y Z n l 256).1 by omega) (Nat.le_refl _)
      have zs := hs.2.2.2.1 ((ct X Y Z n l 256).2.1 m + i) (by omega)
      have x256 := (cS_lt ho zs).1
      refine ⟨0, nI (ce ((ct X Y Z n l 256).2.2.1 ((ct X Y Z n l 256).2.1 m + i))), by omega, ?_, ?_⟩
      · unfold wp_sc_crossing
        refine tr_C hl hC (fun _ g' ic a b => ?_) (fun q => absurd ok q)
        refine sc_pairAt hk hj ho hs a (fun m' i' e1 e2 e3 e4 => ?_) (fun q => absurd ⟨m, i, rfl, ms, rfl, mi⟩ q)
        have em : m' = m := by omega
        have ei : i' = i := by omega
        subst em; subst ei
        unfold wp_sc_highOf wp_sc_lowOf
        try dsimp only
        rw [pk_16r (by omega), pk_16d (by omega), mm_ce ho zs]
        exact ⟨rfl, rfl, ic⟩
      · unfold wp_mo_crossing
        refine mo_asksFor hl hk hj hM (fun q => absurd ok q) (fun _ h' ii a => ⟨fun q => absurd ⟨m, i, rfl, ms, rfl, mi⟩ q, fun m' i' e1 e2 e3 e4 g3 e => ?_⟩)
        have z3 : g3 0 0 = 0 := by rw [e]; exact gp_s
        have a3 : lM (ct X Y Z n l 256) g3 := by rw [e]; exact a.t0
        have i3 : iM g3 n X Y Z t := by rw [e]; exact ii.t0
        obtain ⟨w1, -, -⟩ := a3.2.2.1 m ms
        rw [z3, iI_nI, iI_nI, ix_nI (by omega), w1, nI_add, ix_nI (by omega), a3.2.2.2.1 _ (by omega)]
        exact ⟨fun q => absurd rfl q, fun _ => ⟨vp_in_nI (by omega) (by omega), vp_in_nI (by omega) (by omega), z3, fun _ => rfl, i3⟩⟩
    · refine ⟨2, 0, by omega, ?_, ?_⟩
      · unfold wp_sc_crossing
        exact tr_C hl hC (fun _ g' ic a b => sc_pairAt hk hj ho hs a (fun m' i' e1 e2 e3 e4 => absurd ⟨m', i', e1, e2, e3, e4⟩ ex) (fun _ => ⟨by decide, ic⟩)) (fun q => absurd ok q)
      · unfold wp_mo_crossing
        refine mo_asksFor hl hk hj hM (fun q => absurd ok q) (fun _ h' ii a => ⟨fun _ g3 e => ?_, fun m' i' e1 e2 e3 e4 => absurd ⟨m', i', e1, e2, e3, e4⟩ ex⟩)
        obtain ⟨b1, b2, b3⟩ := mark (c := 2) (Or.inr rfl) ii e
        exact ⟨fun _ => ⟨b1, fun q => absurd q (by decide), b3⟩, fun q => absurd q b2⟩
  · refine ⟨1, 0, by omega, ?_, ?_⟩
    · unfold wp_sc_crossing
      exact tr_C hl hC (fun q => absurd q ok) (fun _ => ⟨by decide, hC⟩)
    · unfold wp_mo_crossing
      refine mo_asksFor hl hk hj hM (fun _ g3 e => ?_) (fun q => absurd q ok)
      obtain ⟨b1, b2, b3⟩ := mark (c := 1) (Or.inl rfl) hM e
      exact ⟨fun _ => ⟨b1, fun q => absurd q (by decide), b3⟩, fun q => absurd q b2⟩
theorem op_place {k j : Int} (hl : inr l) (hk : inr k) (hj : inr j) (hC : iC g n X Y Z t) (hM : iM h n X Y Z t) :
    ∃ (c : Nat) (r : Int32), c ≤ 2 ∧ wp_sc_place (iI l) (iI k) (iI j) g (pC c r n X Y Z t) (xC [(0, 1), (2, 2)] c n X Y Z t) ∧ wp_mo_place (iI l) (iI k) (iI j) h (pM c r n X Y Z t) := by
  have ho := hC.1.1
  have hs := ct_all (Z := Z) (l := l) ho 256
  obtain ⟨c1, c2⟩ := ct_120 ho hs
  by_cases ok : 0 ≤ l ∧ l ≤ 998
  · by_cases ex : ∃ m i : Nat, k = m ∧ m < (ct X Y Z n l 256).1 ∧ j = i ∧ (ct X Y Z n l 256).2.1 m + i < (ct X Y Z n l 256).2.1 (m + 1)
    · obtain ⟨m, i, rfl, ms, rfl, mi⟩ := ex
      have le2 := ct_le hs (show m + 1 ≤ (ct X Y Z n l 256).1 by omega) (Nat.le_refl _)
      have zs := hs.2.2.2.1 ((ct X Y Z n l 256).2.1 m + i) (by omega)
      have x256 := (cS_lt ho zs).1
      generalize hx : (ct X Y Z n l 256).2.2.1 ((ct X Y Z n l 256).2.1 m + i) = x at *
      refine ⟨0, iI (64 * pl X Z l (x / 16) (x % 16) + pl Y Z l (x / 16) (x % 16)), by omega, ?_, ?_⟩
      · unfold wp_sc_place
        refine tr_C hl hC (fun _ g' ic a b => ?_) (fun q => absurd ok q)
        refine sc_pairAt hk hj ho hs a (fun m' i' e1 e2 e3 e4 => ?_) (fun q => absurd ⟨m, i, rfl, ms, rfl, mi⟩ q)
        have em : m' = m := by omega
        have ei : i' = i := by omega
        subst em; subst ei
        rw [hx]
        refine sp_crossX ic.1 ok zs (sp_crossY ic.1 ok zs ?_)
        rw [show (64 : Int32) = iI 64 from rfl, iI_mul, iI_add]
        exact ⟨rfl, rfl, ic⟩
      · unfold wp_mo_place
        refine mo_asksFor hl hk hj hM (fun q => absurd ok q) (fun _ h' ii a => ⟨fun q => absurd ⟨m, i, rfl, ms, rfl, mi⟩ q, fun m' i' e1 e2 e3 e4 g3 e => ?_⟩)
        have z3 : g3 0 0 = 0 := by rw [e]; exact gp_s
        have a3 : lM (ct X Y Z n l 256) g3 := by rw [e]; exact a.t0
        have i3 : iM g3 n X Y Z t := by rw [e]; exact ii.t0
        obtain ⟨w1, -, -⟩ := a3.2.2.1 m ms
        rw [z3, iI_nI, iI_nI, ix_nI (by omega), w1, nI_add, ix_nI (by omega), a3.2.2.2.1 _ (by omega), hx]
        exact ⟨fun q => absurd rfl q, fun _ => ⟨vp_in_nI (by omega) (by omega), vp_in_nI (by omega) (by omega), mo_place i3.1 ok zs ⟨z3, fun _ => rfl, i3⟩⟩⟩
    · refine ⟨2, 0, by omega, ?_, ?_⟩
      · unfold wp_sc_place
        exact tr_C hl hC (fun _ g' ic a b => sc_pairAt hk hj ho hs a (fun m' i' e1 e2 e3 e4 => absurd ⟨m', i', e1, e2, e3, e4⟩ ex) (fun _ => ⟨by decide, ic⟩)) (fun q => absurd ok q)
      · unfold wp_mo_place
        refine mo_asksFor hl hk hj hM (fun q => absurd ok q) (fun _ h' ii a => ⟨fun _ g3 e => ?_, fun m' i' e1 e2 e3 e4 => absurd ⟨m', i', e1, e2, e3, e4⟩ ex⟩)
        obtain ⟨b1, b2, b3⟩ := mark (c := 2) (Or.inr rfl) ii e
        exact ⟨fun _ => ⟨b1, fun q => absurd q (by decide), b3⟩, fun q => absurd q b2⟩
  · refine ⟨1, 0, by omega, ?_, ?_⟩
    · unfold wp_sc_place
      exact tr_C hl hC (fun q => absurd q ok) (fun _ => ⟨by decide, hC⟩)
    · unfold wp_mo_place
      refine mo_asksFor hl hk hj hM (fun _ g3 e => ?_) (fun q => absurd q ok)
      obtain ⟨b1, b2, b3⟩ := mark (c := 1) (Or.inl rfl) hM e
      exact ⟨fun _ => ⟨b1, fun q => absurd q (by decide), b3⟩, fun q => absurd q b2⟩
theorem op_label (hl : inr l) (hC : iC g n X Y Z t) (hM : iM h n X Y Z t) :
    ∃ (c : Nat) (r : Int32) (t' : Lt), c ≤ 2 ∧ wp_sc_label (iI l) g (pC c r n X Y Z t') (xC [(0, 1), (1, 2)] c n X Y Z t') ∧ wp_mo_label (iI l) h (pM c r n X Y Z t') := by
  have ho := hC.1.1
  have hs := ct_all (Z := Z) (l := l) ho 256
  have c27 := ct_27 ho hs (ct_beg (Z := Z) (l := l) ho 256)
  have q20 := hC.2.2.2.1
  have up := lab_up (X := X) (Y := Y) (Z := Z) (n := n) (l := l) (s := ct X Y Z n l 256) (t0 := t) (ct X Y Z n l 256).1
  by_cases ok : 0 ≤ l ∧ l ≤ 998
  · have keepC : ∀ {g1 g2 : St} {t2 : Lt}, iC g1 n X Y Z t → fr [4, 15, 16, 17] g1 g2 → tCt g2 t2 → iC g2 n X Y Z t2 := fun {g1 g2 t2} i f tt => ⟨i.1.fr f (by decide) (by decide) (by decide) (by decide), i.2.1.fr f (by decide) (by decide) (by decide), by rw [f 12 (by decide)]; exact i.2.2.1, tt⟩
    -- the reference, up to its end
    have mo : ∀ {post : Int32 → St → Prop}, (∀ h1, sM h1 n X Y Z → mM (tl X Y n 4096) h1 → tMt h1 (lab X Y Z n l (ct X Y Z n l 256) t (ct X Y Z n l 256).1) → ((h1 0 17 ≤ 20 → jn_mo_label_J79 (nI t.1) (h1 0 17 - nI t.1) 0 h1 post) ∧ (¬ h1 0 17 ≤ 20 → jn_mo_label_J79 (nI t.1) (h1 0 17 - nI t.1) 2 h1 post))) → wp_mo_label (iI l) h post := fun {post} fin => by
      unfold wp_mo_label
      refine mo_level hl (fun _ => ⟨fun q => absurd q (by decide), fun _ => ?_⟩) (fun q => absurd ok q)
      unfold jn_mo_label_J13
      intro g3 e3
      have z3 : g3 0 0 = 0 := by rw [e3]; exact gp_s
      rw [z3]
      refine ⟨fun _ => tr_M ok (by rw [e3]; exact hM.t0) (fun h' i a e => ?_), fun q => absurd rfl q⟩
      rw [i.2.2.1]
      refine mo_labels i.1 ok hs c27 a i.2.2 q20 (fun h1 tt f => ?_)
      exact fin h1 (i.1.fm f (by decide) (by decide) (by decide) (by decide)) ⟨by rw [f.2 5 (by decide)]; exact i.2.1.1, by rw [f.1 4 (by decide) (by decide)]; exact i.2.1.2⟩ tt
    have z20 : ∀ {h1 : St}, tMt h1 (lab X Y Z n l (ct X Y Z n l 256) t (ct X Y Z n l 256).1) → (h1 0 17 ≤ 20 ↔ (lab X Y Z n l (ct X Y Z n l 256) t (ct X Y Z n l 256).1).1 ≤ 20) := fun {h1} tt => by
      rw [tt.1, show (20 : Int32) = nI 20 from rfl, nI_leI (by omega) (by omega)]
    by_cases fits : (lab X Y Z n l (ct X Y Z n l 256) t (ct X Y Z n l 256).1).1 ≤ 20
    · refine ⟨0, nI (lab X Y Z n l (ct X Y Z n l 256) t (ct X Y Z n l 256).1).1 - nI t.1, lab X Y Z n l (ct X Y Z n l 256) t (ct X Y Z n l 256).1, by omega, ?_, mo (fun h1 s1 m1 tt => ⟨fun _ => ?_, fun q => absurd ((z20 tt).mpr fits) q⟩)⟩
      · unfold wp_sc_label
        refine tr_C hl hC (fun _ g' i a b => ?_) (fun q => absurd ok q)
        refine ta_size_i i.2.2.2.2.1 ?_
        exact sc_labels i.1 ok hs a i.2.2.2 (fun _ g2 tt f => ⟨rfl, rfl, keepC i f tt⟩) (fun q => absurd fits q)
      · unfold jn_mo_label_J79
        intro g8 e8
        have z8 : g8 0 0 = 0 := by rw [e8]; exact gp_s
        have c8 : g8 0 17 = h1 0 17 := by rw [e8, gp_o (by decide)]
        rw [z8, c8]
        refine ⟨fun q => absurd rfl q, fun _ g10 e10 => ?_⟩
        have z10 : g10 0 0 = 0 := by rw [e10, gp_o (by decide)]; exact z8
        rw [z10]
        refine ⟨fun q => absurd rfl q, fun _ => ⟨z10, fun _ => by rw [tt.1], ?_⟩⟩
        have f : fm [] [0, 17] h1 g10 := by rw [e10, e8]; exact (fm.rf.g0 (by decide)).g0 (by decide)
        refine ⟨s1.fm f (by decide) (by decide) (by decide) (by decide), ⟨by rw [f.2 5 (by decide)]; exact m1.1, by rw [f.1 4 (by decide) (by decide)]; exact m1.2⟩, ?_, ?_⟩
        · rw [e10, gp_s]; exact tt.1
        · rw [f.1 13 (by decide) (by decide), f.1 14 (by decide) (by decide), f.1 15 (by decide) (by decide)]; exact tt.2
    · refine ⟨2, 0, t, by omega, ?_, mo (fun h1 s1 m1 tt => ⟨fun q => absurd ((z20 tt).mp q) fits, fun _ => ?_⟩)⟩
      · unfold wp_sc_label
        refine tr_C hl hC (fun _ g' i a b => ?_) (fun q => absurd ok q)
        refine ta_size_i i.2.2.2.2.1 ?_
        exact sc_labels i.1 ok hs a i.2.2.2 (fun q => absurd q fits) (fun _ g2 tt f => ⟨by decide, keepC i f tt⟩)
      · unfold jn_mo_label_J79
        intro g8 e8
        have z8 : g8 0 0 = 2 := by rw [e8]; exact gp_s
        rw [z8]
        refine ⟨fun _ g9 e9 => ?_, fun q => absurd q (by decide)⟩
        have z9 : g9 0 0 = 2 := by rw [e9, gp_o (by decide)]; exact z8
        rw [z9]
        refine ⟨fun _ => ⟨z9, fun q => absurd q (by decide), ?_⟩, fun q => absurd q (by decide)⟩
        have f : fm [] [0, 17] h1 g9 := by rw [e9, e8]; exact (fm.rf.g0 (by decide)).g0 (by decide)
        refine ⟨s1.fm f (by decide) (by decide) (by decide) (by decide), ⟨by rw [f.2 5 (by decide)]; exact m1.1, by rw [f.1 4 (by decide) (by decide)]; exact m1.2⟩, ?_, fun j hj => ?_⟩
        · rw [e9]; exact gp_s
        · have pr := lab_pre (X := X) (Y := Y) (Z := Z) (n := n) (l := l) (s := ct X Y Z n l 256) (t0 := t) (ct X Y Z n l 256).1 j hj
          have le := lab_le (X := X) (Y := Y) (Z := Z) (n := n) (l := l) (s := ct X Y Z n l 256) (t0 := t) (ct X Y Z n l 256).1 0
          rw [Nat.zero_add] at le
          have le : t.1 ≤ (lab X Y Z n l (ct X Y Z n l 256) t (ct X Y Z n l 256).1).1 := le
          have := tt.2 j (by omega)
          rw [pr.1, pr.2.1, pr.2.2] at this
          rw [f.1 13 (by decide) (by decide), f.1 14 (by decide) (by decide), f.1 15 (by decide) (by decide)]
          exact this
  · refine ⟨1, 0, t, by omega, ?_, ?_⟩
    · unfold wp_sc_label
      exact tr_C hl hC (fun q => absurd q ok) (fun _ => ⟨by decide, hC⟩)
    · unfold wp_mo_label
      refine mo_level hl (fun q => absurd q ok) (fun _ => ⟨fun _ => ?_, fun q => absurd rfl q⟩)
      unfold jn_mo_label_J13
      intro g3 e3
      obtain ⟨b1, b2, b3⟩ := mark (c := 1) (Or.inl rfl) hM e3
      exact ⟨fun q => absurd q b2, fun _ => ⟨b1, fun q => absurd q (by decide), b3⟩⟩
end
