/-! edge on both sides: how many triangles have two spots. -/
noncomputable def cb (P : Prop) : Nat := @ite _ P (Classical.propDecidable _) 1 0
theorem cb_1 {P : Prop} (h : P) : cb P = 1 := @if_pos _ (Classical.propDecidable _) h _ _ _
theorem cb_0 {P : Prop} (h : ¬ P) : cb P = 0 := @if_neg _ (Classical.propDecidable _) h _ _ _
theorem cb_le (P : Prop) : cb P ≤ 1 := by
  by_cases h : P
  · rw [cb_1 h]; omega
  · rw [cb_0 h]; omega
/-- a triangle of the first t of the list to the right of p, q -/
def cR (X Y : Nat → Int) (L : List Nat) (t p q : Nat) : Prop := ∃ s r, s < t ∧ ge_t X Y p q r < 0 ∧ ge_pm (L.getD s 0 / 256) (L.getD s 0 / 16 % 16) (L.getD s 0 % 16) p q r
section
variable {g h : St} {n : Nat} {X Y Z : Nat → Int} {t : Lt}
theorem pm_has {A B C a b : Nat} (ne : a ≠ b) (ha : a = A ∨ a = B ∨ a = C) (hb : b = A ∨ b = B ∨ b = C) : ∃ c, ge_pm A B C a b c := by
  unfold ge_pm
  rcases ha with rfl | rfl | rfl <;> rcases hb with rfl | rfl | rfl
  · exact absurd rfl ne
  · exact ⟨C, by simp⟩
  · exact ⟨B, by simp⟩
  · exact ⟨C, by simp⟩
  · exact absurd rfl ne
  · exact ⟨A, by simp⟩
  · exact ⟨B, by simp⟩
  · exact ⟨A, by simp⟩
  · exact absurd rfl ne
theorem pm_in {A B C a b c : Nat} (h : ge_pm A B C a b c) : (a = A ∨ a = B ∨ a = C) ∧ (b = A ∨ b = B ∨ b = C) := by
  rcases h with ⟨rfl, rfl, rfl⟩ | ⟨rfl, rfl, rfl⟩ | ⟨rfl, rfl, rfl⟩ | ⟨rfl, rfl, rfl⟩ | ⟨rfl, rfl, rfl⟩ | ⟨rfl, rfl, rfl⟩ <;> simp
theorem pm_3 {A B C a b c c' : Nat} (n1 : A ≠ B) (n2 : A ≠ C) (n3 : B ≠ C) (h : ge_pm A B C a b c) (h' : ge_pm A B C a b c') : c = c' := by
  rcases h with ⟨rfl, rfl, rfl⟩ | ⟨rfl, rfl, rfl⟩ | ⟨rfl, rfl, rfl⟩ | ⟨rfl, rfl, rfl⟩ | ⟨rfl, rfl, rfl⟩ | ⟨rfl, rfl, rfl⟩ <;> (unfold ge_pm at h'; omega)
theorem pm_flip {A B C a b c : Nat} (h : ge_pm A B C a b c) : ge_pm A B C b a c := by
  unfold ge_pm at *
  rcases h with ⟨rfl, rfl, rfl⟩ | ⟨rfl, rfl, rfl⟩ | ⟨rfl, rfl, rfl⟩ | ⟨rfl, rfl, rfl⟩ | ⟨rfl, rfl, rfl⟩ | ⟨rfl, rfl, rfl⟩ <;> simp
theorem mo_has {L : List Nat} {s a : Nat} {post : Int32 → St → Prop} (hm : mM L g) (hL : L.length ≤ 27) (hs : s < L.length) (ha : a < 16) (h16 : L.getD s 0 / 256 < 16)
    (h1 : (a = L.getD s 0 / 256 ∨ a = L.getD s 0 / 16 % 16 ∨ a = L.getD s 0 % 16) → post 1 g) (h0 : ¬ (a = L.getD s 0 / 256 ∨ a = L.getD s 0 / 16 % 16 ∨ a = L.getD s 0 % 16) → post 0 g) : wp_mo_has (nI s) (nI a) g post := by
  obtain ⟨q1, q2, q3⟩ := hm.2 s hs
  have k1 : (3 * nI s + 1 : Int32) = nI (3 * s + 1) := pk3 (by omega) 1
  have k2 : (3 * nI s + 2 : Int32) = nI (3 * s + 2) := pk3 (by omega) 2
  unfold wp_mo_has
  rw [k1, k2, pk3', ix_nI (by omega), ix_nI (by omega), ix_nI (by omega), q1, q2, q3]
  have e : ∀ {u : Nat}, u < 16 → (nI u = nI a ↔ u = a) := fun {u} hu => nI_eq (by omega) (by omega)
  rw [e h16, e (by omega), e (by omega)]
  exact ⟨vp_in_nI (by omega) (by omega), fun w => h1 (by omega), fun w => ⟨vp_in_nI (by omega) (by omega), fun w2 => h1 (by omega), fun w2 => ⟨vp_in_nI (by omega) (by omega), fun w3 => h0 (by omega), fun w3 => h1 (by omega)⟩⟩⟩
theorem cR_s {L : List Nat} {s p q : Nat} : cR X Y L (s + 1) p q ↔ cR X Y L s p q ∨ ∃ r, ge_t X Y p q r < 0 ∧ ge_pm (L.getD s 0 / 256) (L.getD s 0 / 16 % 16) (L.getD s 0 % 16) p q r := by
  constructor
  · rintro ⟨u, r, u1, u2, u3⟩
    by_cases e : u = s
    · rw [e] at u3; exact Or.inr ⟨r, u2, u3⟩
    · exact Or.inl ⟨u, r, by omega, u2, u3⟩
  · rintro (⟨u, r, u1, u2, u3⟩ | ⟨r, u2, u3⟩)
    · exact ⟨u, r, by omega, u2, u3⟩
    · exact ⟨s, r, by omega, u2, u3⟩
/-- how the count grows -/
theorem cR_cnt (ho : ge_ok X Y n) {s a b : Nat} (hs : s < (tl X Y n 4096).length) (ne : a ≠ b) :
    cb (cR X Y (tl X Y n 4096) (s + 1) a b) + cb (cR X Y (tl X Y n 4096) (s + 1) b a) = cb (cR X Y (tl X Y n 4096) s a b) + cb (cR X Y (tl X Y n 4096) s b a) +
      cb ((a = (tl X Y n 4096).getD s 0 / 256 ∨ a = (tl X Y n 4096).getD s 0 / 16 % 16 ∨ a = (tl X Y n 4096).getD s 0 % 16) ∧ (b = (tl X Y n 4096).getD s 0 / 256 ∨ b = (tl X Y n 4096).getD s 0 / 16 % 16 ∨ b = (tl X Y n 4096).getD s 0 % 16)) := by
  have T := (tl_get hs).2
  have n1 : (tl X Y n 4096).getD s 0 / 256 ≠ (tl X Y n 4096).getD s 0 / 16 % 16 := by have := T.1; omega
  have n3 : (tl X Y n 4096).getD s 0 / 16 % 16 ≠ (tl X Y n 4096).getD s 0 % 16 := by have := T.2.1; omega
  have n2 : (tl X Y n 4096).getD s 0 / 256 ≠ (tl X Y n 4096).getD s 0 % 16 := by have := T.1; have := T.2.1; omega
  -- no elder triangle lies there
  have fresh : ∀ {p q r}, ge_t X Y p q r < 0 → ge_pm ((tl X Y n 4096).getD s 0 / 256) ((tl X Y n 4096).getD s 0 / 16 % 16) ((tl X Y n 4096).getD s 0 % 16) p q r → ¬ cR X Y (tl X Y n 4096) s p q := fun {p q r} u1 u2 ⟨u, r', v1, v2, v3⟩ => by
    have Tu := (tl_get (show u < (tl X Y n 4096).length by omega)).2
    have e := ge_right (ge_pm_T (ge_T_of ho T) u2) (ge_pm_T (ge_T_of ho Tu) v3) u1 v2
    rw [← e] at v3
    have w := ge_pm_eq T.1 T.2.1 Tu.1 Tu.2.1 u2 v3
    have := tl_inc v1 hs
    omega
  by_cases both : (a = (tl X Y n 4096).getD s 0 / 256 ∨ a = (tl X Y n 4096).getD s 0 / 16 % 16 ∨ a = (tl X Y n 4096).getD s 0 % 16) ∧ (b = (tl X Y n 4096).getD s 0 / 256 ∨ b = (tl X Y n 4096).getD s 0 / 16 % 16 ∨ b = (tl X Y n 4096).getD s 0 % 16)
  · obtain ⟨c, hc⟩ := pm_has ne both.1 both.2
    have tn := (ge_pm_T (ge_T_of ho T) hc).2.2.2.1
    have sw : ge_t X Y b a c = -ge_t X Y a b c := by
      have x1 := ge_t_rot X Y b a c
      have x2 := ge_t_sw X Y a b c
      omega
    rw [cb_1 both]
    rcases Int.lt_or_lt_of_ne tn with q | q
    · have f := fresh q hc
      have same : cR X Y (tl X Y n 4096) (s + 1) b a ↔ cR X Y (tl X Y n 4096) s b a := by
        rw [cR_s]
        refine ⟨fun z => z.elim id (fun ⟨r, r1, r2⟩ => ?_), Or.inl⟩
        rw [pm_3 n1 n2 n3 r2 (pm_flip hc)] at r1
        omega
      rw [cb_1 (cR_s.mpr (Or.inr ⟨c, q, hc⟩)), cb_0 f, show cb (cR X Y (tl X Y n 4096) (s + 1) b a) = cb (cR X Y (tl X Y n 4096) s b a) by rw [propext same]]
      omega
    · have q' : ge_t X Y b a c < 0 := by omega
      have f := fresh q' (pm_flip hc)
      have same : cR X Y (tl X Y n 4096) (s + 1) a b ↔ cR X Y (tl X Y n 4096) s a b := by
        rw [cR_s]
        refine ⟨fun z => z.elim id (fun ⟨r, r1, r2⟩ => ?_), Or.inl⟩
        rw [pm_3 n1 n2 n3 r2 hc] at r1
        omega
      rw [cb_1 (cR_s.mpr (Or.inr ⟨c, q', pm_flip hc⟩)), cb_0 f, show cb (cR X Y (tl X Y n 4096) (s + 1) a b) = cb (cR X Y (tl X Y n 4096) s a b) by rw [propext same]]
  · rw [cb_0 both]
    have s1 : cR X Y (tl X Y n 4096) (s + 1) a b ↔ cR X Y (tl X Y n 4096) s a b := by
      rw [cR_s]
      exact ⟨fun z => z.elim id (fun ⟨r, r1, r2⟩ => absurd (pm_in r2) both), Or.inl⟩
    have s2 : cR X Y (tl X Y n 4096) (s + 1) b a ↔ cR X Y (tl X Y n 4096) s b a := by
      rw [cR_s]
      exact ⟨fun z => z.elim id (fun ⟨r, r1, r2⟩ => absurd (pm_in (pm_flip r2)) both), Or.inl⟩
    rw [propext s1, propext s2, Nat.add_zero]
theorem cR_all (ho : ge_ok X Y n) {p q : Nat} : cR X Y (tl X Y n 4096) (tl X Y n 4096).length p q ↔ ¬ rr X Y n p q = none := by
  constructor
  · rintro ⟨u, r, u1, u2, u3⟩ e
    exact rr_none.mp e r ⟨ge_pm_T (ge_T_of ho (tl_get u1).2) u3, u2⟩
  · intro e
    cases q9 : rr X Y n p q with
    | none => exact absurd q9 e
    | some r =>
      obtain ⟨s1, x, s2, s3⟩ := (rt_R ho).mpr (rr_some.mp q9)
      obtain ⟨u, u1, u2⟩ := List.getElem_of_mem s2
      have ex : (tl X Y n 4096).getD u 0 = x := by rw [← u2, List.getElem_eq_getD (h := u1) (fallback := 0)]
      exact ⟨u, r, u1, s1, by rw [ex]; exact s3⟩
theorem op_edge {a b : Int} (ha : inr a) (hb : inr b) (hC : iC g n X Y Z t) (hM : iM h n X Y Z t) :
    ∃ (c : Nat) (r : Int32), c ≤ 2 ∧ wp_sc_edge (iI a) (iI b) g (pC c r n X Y Z t) (xC [(2, 1)] c n X Y Z t) ∧ wp_mo_edge (iI a) (iI b) h (pM c r n X Y Z t) := by
  have hS := hC.1
  have hS' := hM.1
  have ho := hS.1
  have n16 := ho.1
  have L27 := tl_27 (k := 4096) ho
  have bad : ∀ {r : Int32}, jn_mo_edge_J22 (iI a) (iI b) 1 h (pM 1 r n X Y Z t) := fun {r} => by
    unfold jn_mo_edge_J22
    intro g3 e3
    obtain ⟨b1, b2, b3⟩ := mark (c := 1) (Or.inl rfl) hM e3
    refine ⟨1, ?_⟩
    show lp_mo_edge_L30 (0 + 1) _ _ _ _ _ _ _
    unfold lp_mo_edge_L30
    have p : pM 1 r n X Y Z t 0 g3 := ⟨b1, fun q => absurd q (by decide), b3⟩
    exact ⟨fun _ => p, fun _ => ⟨fun _ => p, fun q => absurd q b2⟩⟩
  by_cases ok : (0 ≤ a ∧ a < n) ∧ 0 ≤ b ∧ b < n
  · obtain ⟨p, rfl⟩ := nat_of ok.1.1
    obtain ⟨q, rfl⟩ := nat_of ok.2.1
    have pn : p < n := by omega
    have qn : q < n := by omega
    by_cases same : p = q
    · subst same
      refine ⟨0, 0, by omega, ?_, ?_⟩
      · unfold wp_sc_edge
        refine sp_isNum hS ha (fun _ => ⟨fun w => absurd w (by decide), fun _ => sp_isNum hS hb (fun _ => ⟨fun _ => ?_, fun w => absurd w (by decide)⟩) (fun w => absurd ok.2 w)⟩) (fun w => absurd ok.1 w)
        unfold wp_me_sharing
        exact ⟨fun w => absurd rfl w, fun _ => ⟨rfl, rfl, hC⟩⟩
      · unfold wp_mo_edge
        refine mo_isNum hS' ha (fun _ => ⟨fun w => absurd w (by decide), fun _ => mo_isNum hS' hb (fun _ => ⟨fun w => absurd w (by decide), fun _ => ?_⟩) (fun w => absurd ok.2 w)⟩) (fun w => absurd ok.1 w)
        unfold jn_mo_edge_J22
        intro g3 e3
        have z3 : g3 0 0 = 0 := by rw [e3]; exact gp_s
        have pp : pM 0 0 n X Y Z t 0 g3 := ⟨z3, fun _ => rfl, by rw [e3]; exact hM.t0⟩
        refine ⟨1, ?_⟩
        show lp_mo_edge_L30 (0 + 1) _ _ _ _ _ _ _
        unfold lp_mo_edge_L30
        exact ⟨fun _ => pp, fun _ => ⟨fun w => absurd z3 w, fun _ => ⟨fun _ => pp, fun w => absurd rfl w⟩⟩⟩
    · have val : (if rr X Y n p q = none then 0 else 1) + (if rr X Y n q p = none then 0 else 1) = cb (cR X Y (tl X Y n 4096) (tl X Y n 4096).length p q) + cb (cR X Y (tl X Y n 4096) (tl X Y n 4096).length q p) := by
        have one : ∀ u v, (if rr X Y n u v = none then 0 else 1) = cb (cR X Y (tl X Y n 4096) (tl X Y n 4096).length u v) := fun u v => by
          by_cases e : rr X Y n u v = none
          · rw [if_pos e, cb_0 (fun w => (cR_all ho).mp w e)]
          · rw [if_neg e, cb_1 ((cR_all ho).mpr e)]
        rw [one, one]
      refine ⟨0, nI (cb (cR X Y (tl X Y n 4096) (tl X Y n 4096).length p q) + cb (cR X Y (tl X Y n 4096) (tl X Y n 4096).length q p)), by omega, ?_, ?_⟩
      · unfold wp_sc_edge
        refine sp_isNum hS ha (fun _ => ⟨fun w => absurd w (by decide), fun _ => sp_isNum hS hb (fun _ => ⟨fun _ => ?_, fun w => absurd w (by decide)⟩) (fun w => absurd ok.2 w)⟩) (fun w => absurd ok.1 w)
        rw [iI_nI, iI_nI]
        refine me_share ho hC.2.1 (by omega) (by omega) same ⟨rfl, ?_, hC⟩
        rw [val]
      · unfold wp_mo_edge
        refine mo_isNum hS' ha (fun _ => ⟨fun w => absurd w (by decide), fun _ => mo_isNum hS' hb (fun _ => ⟨fun w => absurd w (by decide), fun _ => ?_⟩) (fun w => absurd ok.2 w)⟩) (fun w => absurd ok.1 w)
        unfold jn_mo_edge_J22
        intro g3 e3
        have z3 : g3 0 0 = 0 := by rw [e3]; exact gp_s
        have i3 : iM g3 n X Y Z t := by rw [e3]; exact hM.t0
        rw [iI_nI, iI_nI]
        have loop : ∀ m s, s + m = (tl X Y n 4096).length → lp_mo_edge_L30 (m + 1) (nI p) (nI q) (nI (cb (cR X Y (tl X Y n 4096) s p q) + cb (cR X Y (tl X Y n 4096) s q p))) (nI s) g3 (fun w9 g8 => (pM 0 (nI (cb (cR X Y (tl X Y n 4096) (tl X Y n 4096).length p q) + cb (cR X Y (tl X Y n 4096) (tl X Y n 4096).length q p))) n X Y Z t w9 g8)) (pM 0 (nI (cb (cR X Y (tl X Y n 4096) (tl X Y n 4096).length p q) + cb (cR X Y (tl X Y n 4096) (tl X Y n 4096).length q p))) n X Y Z t) := by
          intro m
          induction m with
          | zero =>
            intro s hs
            have es : s = (tl X Y n 4096).length := by omega
            unfold lp_mo_edge_L30
            rw [i3.2.1.1, es]
            exact ⟨fun _ => ⟨z3, fun _ => rfl, i3⟩, fun w => absurd ((nI_leI (by omega) (by omega)).mpr (Nat.le_refl _)) w⟩
          | succ m ih =>
            intro s hs
            have sl : s < (tl X Y n 4096).length := by omega
            have T := (tl_get sl).2
            have A16 : (tl X Y n 4096).getD s 0 / 256 < 16 := by have := T.1; have := T.2.1; have := T.2.2.1; omega
            have cnt := cR_cnt ho sl same
            have nx := ih (s + 1) (by omega)
            unfold lp_mo_edge_L30
            rw [i3.2.1.1, z3, nI_eq (by omega) (by omega), nI_1]
            refine ⟨fun w => absurd ((nI_leI (by omega) (by omega)).mp w) (by omega), fun _ => ⟨fun w => absurd rfl w, fun _ => ⟨fun w => absurd w same, fun _ => ?_⟩⟩⟩
            refine mo_has i3.2.1 L27 sl (by omega) A16 (fun w1 => ⟨fun w => absurd w (by decide), fun _ => ?_⟩) (fun w1 => ⟨fun _ => ?_, fun w => absurd rfl w⟩)
            · refine mo_has i3.2.1 L27 sl (by omega) A16 (fun w2 => ⟨fun w => absurd w (by decide), fun _ => ?_⟩) (fun w2 => ⟨fun _ => ?_, fun w => absurd rfl w⟩)
              · rw [cb_1 (And.intro w1 w2)] at cnt
                rw [nI_1, ← cnt]; exact nx
              · rw [cb_0 (fun z : _ ∧ _ => w2 z.2)] at cnt
                have c9 := cnt.trans (Nat.add_zero _)
                rw [Int32.add_zero, ← c9]; exact nx
            · rw [cb_0 (fun z : _ ∧ _ => w1 z.1)] at cnt
              have c9 := cnt.trans (Nat.add_zero _)
              rw [Int32.add_zero, ← c9]; exact nx
        refine ⟨(tl X Y n 4096).length + 1, ?_⟩
        have l0 := loop (tl X Y n 4096).length 0 (by omega)
        have e0 : ∀ u v, ¬ cR X Y (tl X Y n 4096) 0 u v := fun u v ⟨s, _, s1, _⟩ => absurd s1 (Nat.not_lt_zero _)
        rw [cb_0 (e0 p q), cb_0 (e0 q p)] at l0
        exact l0
  · refine ⟨1, 0, by omega, ?_, ?_⟩
    · unfold wp_sc_edge
      exact sp_isNum hS ha (fun w1 => ⟨fun w => absurd w (by decide), fun _ => sp_isNum hS hb (fun w2 => absurd ⟨w1, w2⟩ ok) (fun _ => ⟨fun w => absurd rfl w, fun _ => ⟨by decide, hC⟩⟩)⟩) (fun _ => ⟨fun _ => ⟨by decide, hC⟩, fun w => absurd rfl w⟩)
    · unfold wp_mo_edge jn_mo_edge_J21
      exact mo_isNum hS' ha (fun w1 => ⟨fun w => absurd w (by decide), fun _ => mo_isNum hS' hb (fun w2 => absurd ⟨w1, w2⟩ ok) (fun _ => ⟨fun _ => bad, fun w => absurd rfl w⟩)⟩) (fun _ => ⟨fun _ => bad, fun w => absurd rfl w⟩)
end
