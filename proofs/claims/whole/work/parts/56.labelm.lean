/-! The reference labels a level; no more than 27 contours. -/
section
variable {g : St} {X Y Z : Nat → Int} {n : Nat} {l : Int} {s : Ct} {t0 : Lt}
theorem pm_tr {A B C a b c a' b' c' : Nat} (p : ge_pm A B C a b c) (p' : ge_pm A B C a' b' c') : ge_pm a b c a' b' c' := by
  unfold ge_pm at *
  rcases p with ⟨rfl, rfl, rfl⟩ | ⟨rfl, rfl, rfl⟩ | ⟨rfl, rfl, rfl⟩ | ⟨rfl, rfl, rfl⟩ | ⟨rfl, rfl, rfl⟩ | ⟨rfl, rfl, rfl⟩ <;> rcases p' with ⟨rfl, rfl, rfl⟩ | ⟨rfl, rfl, rfl⟩ | ⟨rfl, rfl, rfl⟩ | ⟨rfl, rfl, rfl⟩ | ⟨rfl, rfl, rfl⟩ | ⟨rfl, rfl, rfl⟩ <;> simp
theorem ct_27_one {f f' r r' A B C : Nat} (R : ge_R X Y n (f % 16) (f / 16) r) (R' : ge_R X Y n (f' % 16) (f' / 16) r') (p : ge_pm A B C (f % 16) (f / 16) r) (p' : ge_pm A B C (f' % 16) (f' / 16) r') (f1 : cS X Y Z n l f) (f2 : cS X Y Z n l f') : f = f' := by
  have pp : ge_pm (f % 16) (f / 16) r (f' % 16) (f' / 16) r' := pm_tr p p'
  rcases rt_new R.2 R'.2 pp with q | q | q
  · omega
  · exact absurd f1.1.1 (by rw [← q.1]; exact f2.1.2)
  · exact absurd f2.1.1 (by rw [q.2.1]; exact f1.1.2)
/-- each contour begins in a triangle of its own -/
theorem ct_27 (ho : ge_ok X Y n) (hs : ct_ok X Y Z n l s) (hb : ∀ k, k < s.1 → ∃ x, cr_beg (cB X Y Z n l) x (s.2.2.1 (s.2.1 k))) : s.1 ≤ 27 := by
  have L27 := tl_27 (k := 4096) ho
  have key : ∀ k, ∃ t, k < s.1 → (t < (tl X Y n 4096).length ∧ ∃ r, ge_R X Y n (s.2.2.1 (s.2.1 k) % 16) (s.2.2.1 (s.2.1 k) / 16) r ∧ ge_pm ((tl X Y n 4096).getD t 0 / 256) ((tl X Y n 4096).getD t 0 / 16 % 16) ((tl X Y n 4096).getD t 0 % 16) (s.2.2.1 (s.2.1 k) % 16) (s.2.2.1 (s.2.1 k) / 16) r) := fun k => by
    by_cases hk : k < s.1
    · obtain ⟨m, a1, a2, -⟩ := hs.2.1 k hk
      have le := ct_le hs (show k + 1 ≤ s.1 by omega) (Nat.le_refl _)
      have fS := hs.2.2.2.1 (s.2.1 k) (by omega)
      obtain ⟨x, j, j1, j2⟩ := hb k hk
      generalize s.2.2.1 (s.2.1 k) = f at *
      have nn : ∃ y, cN X Y Z n l f = some y := by
        rcases j2 with ⟨y, y1, y2, rfl⟩ | ⟨y, y1, y2, rfl⟩
        · rcases fS.2 with ⟨r, r1⟩ | ⟨r, r1⟩
          · rw [cB_eq fS.1, r1] at y2; cases y2
          · exact ⟨_, by rw [cN_eq fS.1, r1]; rfl⟩
        · exact ⟨y, cBN ho y2⟩
      obtain ⟨y, hy⟩ := nn
      obtain ⟨-, r, r1, -⟩ := cN_p hy
      have R := rr_some.mp r1
      obtain ⟨-, z, z1, z2⟩ := (rt_R ho).mpr R
      obtain ⟨t, t1, t2⟩ := List.getElem_of_mem z1
      have e : (tl X Y n 4096).getD t 0 = z := by rw [← t2, List.getElem_eq_getD (h := t1) (fallback := 0)]
      exact ⟨t, fun _ => ⟨t1, r, R, by rw [e]; exact z2⟩⟩
    · exact ⟨0, fun q => absurd q hk⟩
  refine cr_php 27 s.1 (fun k => Classical.choose (key k)) (fun k hk => ?_) (fun i j hij hj e => ?_)
  · have := (Classical.choose_spec (key k) hk).1
    show Classical.choose (key k) < 27
    omega
  · have hi' : i < s.1 := by omega
    obtain ⟨-, r, R, p⟩ := Classical.choose_spec (key i) hi'
    obtain ⟨-, r', R', p'⟩ := Classical.choose_spec (key j) hj
    have e : Classical.choose (key i) = Classical.choose (key j) := e
    rw [e] at p
    have le := ct_le hs (show i + 1 ≤ j by omega) (show j ≤ s.1 by omega)
    obtain ⟨mi, -, b2, -⟩ := hs.2.1 i hi'
    obtain ⟨mj, -, d2, -⟩ := hs.2.1 j hj
    have le2 := ct_le hs (show j + 1 ≤ s.1 by omega) (Nat.le_refl _)
    have f1 := hs.2.2.2.1 (s.2.1 i) (by omega)
    have f2 := hs.2.2.2.1 (s.2.1 j) (by omega)
    refine hs.2.2.1 (s.2.1 i) (s.2.1 j) (by omega) (by omega) ?_
    exact ct_27_one R R' p p' f1 f2
theorem mo_labelC {t : Lt} {k : Nat} {post : St → Prop} (hS : sM g n X Y Z) (hlv : 0 ≤ l ∧ l ≤ 998) (hs : ct_ok X Y Z n l s) (hl : lM s g) (hT : tMt g t) (hq : t.1 < 60) (hk : k < s.1)
    (h0 : (¬ ∃ i, ffr X Y Z n l s t k i) → post g) (h1 : ∀ i, ffr X Y Z n l s t k i → ∀ g', tMt g' (lb_add X Y Z l s t i) → fm [13, 14, 15] [17] g g' → post g') : wp_mo_labelContour (iI l) (nI k) g post := by
  have ho := hS.1
  obtain ⟨c1, c2⟩ := ct_120 ho hs
  have le := ct_le hs (show k ≤ k + 1 by omega) (show k + 1 ≤ s.1 by omega)
  have le2 := ct_le hs (show k + 1 ≤ s.1 by omega) (Nat.le_refl _)
  obtain ⟨r1, r2, -⟩ := hl.2.2.1 k hk
  have v130 := vp_in_nI (n := k) (N := 130) (by omega) (by omega)
  unfold wp_mo_labelContour
  -- once there is one, it ends
  have stop : ∀ d j (g2 : St), g2 10 k = g 10 k → post g2 → lp_mo_labelContour_L5 (d + 1) (iI l) (nI k) 1 (nI j) g2 (fun g9 => (post g9)) post := fun d j g2 e hp => by
    unfold lp_mo_labelContour_L5
    exact ⟨v130, fun _ => hp, fun _ => ⟨fun _ => hp, fun q => absurd q (by decide)⟩⟩
  have loop : ∀ d j, j + d = s.2.1 (k + 1) - s.2.1 k → (∀ i', s.2.1 k ≤ i' → i' < s.2.1 k + j → lbad X Y Z n l s t i') → lp_mo_labelContour_L5 (d + 1) (iI l) (nI k) 0 (nI j) g (fun g9 => (post g9)) post := by
    intro d
    induction d with
    | zero =>
      intro j hj hb
      unfold lp_mo_labelContour_L5
      try dsimp only
      rw [ix_nI (by omega), r2]
      exact ⟨v130, fun _ => h0 (fun ⟨i, i1, i2, i3, _⟩ => i3 (hb i i1 (by omega))), fun q => absurd ((nI_leI (by omega) (by omega)).mpr (by omega)) q⟩
    | succ d ih =>
      intro j hj hb
      have hjl : s.2.1 k + j < s.2.1 (k + 1) := by omega
      have zs := hs.2.2.2.1 (s.2.1 k + j) (by omega)
      have pb := lpx_b ho hs (show s.2.1 k + j < s.2.1 s.1 by omega)
      have row := hl.2.2.2.1 (s.2.1 k + j) (by omega)
      have bk := pl_back pb.1 pb.2
      unfold lp_mo_labelContour_L5
      try dsimp only
      rw [ix_nI (show k < 2147483648 by omega), r2, r1, nI_add, ix_nI (show s.2.1 k + j < 2147483648 by omega), row, nI_1]
      refine ⟨v130, fun q => absurd ((nI_leI (by omega) (by omega)).mp q) (by omega), fun _ => ⟨fun q => absurd rfl q, fun _ => ⟨v130, vp_in_nI (by omega) (by omega), mo_place hS hlv zs ?_⟩⟩⟩
      have e1 : iI (64 * pl X Z l (s.2.2.1 (s.2.1 k + j) / 16) (s.2.2.1 (s.2.1 k + j) % 16) + pl Y Z l (s.2.2.1 (s.2.1 k + j) / 16) (s.2.2.1 (s.2.1 k + j) % 16)) / 64 = iI (lpx X Z l s (s.2.1 k + j)) := bk.1
      have e2 := bk.2
      unfold lpx at e2
      rw [e1] at e2
      try dsimp only
      rw [e1, e2]
      refine mo_clash hS hT (by omega) pb.1 pb.2 (fun u => ⟨fun q => absurd rfl q, fun _ => ?_⟩) (fun u => ⟨fun _ => ?_, fun q => absurd q (by decide)⟩)
      · rw [hT.1, ix_nI (by omega)]
        refine ⟨vp_in_nI (by omega) (by omega), fun g5 e5 => ?_⟩
        have c5 : g5 0 17 = nI t.1 := by rw [e5, gp_n (by decide)]; exact hT.1
        rw [c5, ix_nI (by omega)]
        refine ⟨vp_in_nI (by omega) (by omega), fun g6 e6 => ?_⟩
        have c6 : g6 0 17 = nI t.1 := by rw [e6, gp_n (by decide)]; exact c5
        rw [c6, ix_nI (by omega)]
        refine ⟨vp_in_nI (by omega) (by omega), fun g7 e7 g8 e8 => ?_⟩
        have c7 : g7 0 17 = nI t.1 := by rw [e7, gp_n (by decide)]; exact c6
        rw [c7, nI_1] at e8
        refine stop d (j + 1) g8 (by rw [e8, gp_n (by decide), e7, gp_n (by decide), e6, gp_n (by decide), e5, gp_n (by decide)]) ?_
        refine h1 (s.2.1 k + j) ⟨by omega, hjl, fun z => u z, fun i' a b => hb i' a b⟩ g8 ⟨by rw [e8]; exact gp_s, fun i hi => ?_⟩ ?_
        · have hi : i < t.1 + 1 := hi
          have w13 : g8 13 = g5 13 := by rw [e8, gp_n (by decide), e7, gp_n (by decide), e6, gp_n (by decide)]
          have w14 : g8 14 = g6 14 := by rw [e8, gp_n (by decide), e7, gp_n (by decide)]
          have w15 : g8 15 = g7 15 := by rw [e8, gp_n (by decide)]
          rw [w13, w14, w15]
          by_cases e : i = t.1
          · have v1 : (lb_add X Y Z l s t (s.2.1 k + j)).2.1 i = l := if_pos e
            have v2 : (lb_add X Y Z l s t (s.2.1 k + j)).2.2.1 i = lpx X Z l s (s.2.1 k + j) := if_pos e
            have v3 : (lb_add X Y Z l s t (s.2.1 k + j)).2.2.2 i = lpx Y Z l s (s.2.1 k + j) := if_pos e
            rw [v1, v2, v3, e, e5, e6, e7]
            exact ⟨⟨pb.1.1, pb.1.2, pb.2.1, pb.2.2⟩, gp_s, gp_s, gp_s⟩
          · have v1 : (lb_add X Y Z l s t (s.2.1 k + j)).2.1 i = t.2.1 i := if_neg e
            have v2 : (lb_add X Y Z l s t (s.2.1 k + j)).2.2.1 i = t.2.2.1 i := if_neg e
            have v3 : (lb_add X Y Z l s t (s.2.1 k + j)).2.2.2 i = t.2.2.2 i := if_neg e
            rw [v1, v2, v3, e5, gp_o e, e6, gp_o e, e7, gp_o e, e5, gp_n (by decide), e6, gp_n (by decide), e5, gp_n (by decide)]
            exact hT.2 i (by omega)
        · rw [e8, e7, e6, e5]
          exact (((fm.rf.pt (by decide) (by decide)).pt (by decide) (by decide)).pt (by decide) (by decide)).g0 (by decide)
      · refine ih (j + 1) (by omega) (fun i' a b => ?_)
        by_cases e : i' = s.2.1 k + j
        · rw [e]; exact u
        · exact hb i' a (by omega)
  exact ⟨(s.2.1 (k + 1) - s.2.1 k) + 1, loop (s.2.1 (k + 1) - s.2.1 k) 0 (by omega) (fun i' a b => absurd b (by omega))⟩
/-- the reference labels all contours -/
theorem mo_labels {post : Int32 → St → Prop} {K : Int32 → St → Prop} (hS : sM g n X Y Z) (hlv : 0 ≤ l ∧ l ≤ 998) (hs : ct_ok X Y Z n l s) (hc : s.1 ≤ 27) (hl : lM s g) (hT : tMt g t0) (hq : t0.1 ≤ 20)
    (h0 : ∀ g', tMt g' (lab X Y Z n l s t0 s.1) → fm [13, 14, 15] [17] g g' → K (nI t0.1) g') :
    ∃ k37, lp_mo_label_L37 k37 (iI l) (nI t0.1) 0 g K post := by
  have ho := hS.1
  have loop : ∀ d k (g2 : St), k + d = s.1 → tMt g2 (lab X Y Z n l s t0 k) → fm [13, 14, 15] [17] g g2 → lp_mo_label_L37 (d + 1) (iI l) (nI t0.1) (nI k) g2 K post := by
    intro d
    induction d with
    | zero =>
      intro k g2 hk hT2 f2
      have ek : k = s.1 := by omega
      subst ek
      have l2 : g2 0 11 = nI s.1 := by rw [f2.2 11 (by decide)]; exact hl.1
      unfold lp_mo_label_L37
      rw [l2]
      exact ⟨fun _ => h0 g2 hT2 f2, fun q => absurd ((nI_leI (by omega) (by omega)).mpr (Nat.le_refl _)) q⟩
    | succ d ih =>
      intro k g2 hk hT2 f2
      have S2 : sM g2 n X Y Z := hS.fm f2 (by decide) (by decide) (by decide) (by decide)
      have l2 : lM s g2 := by
        obtain ⟨a1, a2, a3, a4, a5⟩ := hl
        refine ⟨?_, ?_, ?_, ?_, ?_⟩
        · rw [f2.2 11 (by decide)]; exact a1
        · rw [f2.2 15 (by decide)]; exact a2
        · rw [f2.1 9 (by decide) (by decide), f2.1 10 (by decide) (by decide), f2.1 11 (by decide) (by decide)]; exact a3
        · rw [f2.1 12 (by decide) (by decide)]; exact a4
        · rw [f2.1 8 (by decide) (by decide)]; exact a5
      have up := lab_up (X := X) (Y := Y) (Z := Z) (n := n) (l := l) (s := s) (t0 := t0) k
      unfold lp_mo_label_L37
      rw [l2.1, nI_1]
      refine ⟨fun q => absurd ((nI_leI (by omega) (by omega)).mp q) (by omega), fun _ => ?_⟩
      refine mo_labelC S2 hlv hs l2 hT2 (by omega) (show k < s.1 by omega) (fun no => ?_) (fun i hi g3 t3 f3 => ?_)
      · refine ih (k + 1) g2 (by omega) ?_ f2
        rw [lab_0 no]; exact hT2
      · refine ih (k + 1) g3 (by omega) ?_ (f2.tr f3)
        rw [lab_1 hi]; exact t3
  exact ⟨s.1 + 1, loop s.1 0 g (by omega) hT fm.rf⟩
end
