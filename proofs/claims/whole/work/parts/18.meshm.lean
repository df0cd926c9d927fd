/-! The reference finds its triangles. -/
/-- the cells of S and the places T of the object's own fields have changed, nothing else -/
def fm (S T : List Nat) (g g' : St) : Prop := (∀ k, k ≠ 0 → k ∉ S → g' k = g k) ∧ ∀ j, j ∉ T → g' 0 j = g 0 j
theorem fm.rf {S T : List Nat} {g : St} : fm S T g g := ⟨fun _ _ _ => rfl, fun _ _ => rfl⟩
theorem fm.pt {S T : List Nat} {g g' : St} {k j : Nat} {v : Int32} (h : fm S T g g') (hk : k ∈ S) (h0 : k ≠ 0) : fm S T g (gp g' k j v) := ⟨fun k' h1 h' => by
  rw [gp_n (fun e => h' (by rw [e]; exact hk))]; exact h.1 k' h1 h', fun j' hj => by rw [gp_n (Ne.symm h0)]; exact h.2 j' hj⟩
theorem fm.g0 {S T : List Nat} {g g' : St} {j : Nat} {v : Int32} (h : fm S T g g') (hj : j ∈ T) : fm S T g (gp g' 0 j v) := ⟨fun k' h1 h' => by
  rw [gp_n h1]; exact h.1 k' h1 h', fun j' hj' => by rw [gp_o (fun e => hj' (by rw [e]; exact hj))]; exact h.2 j' hj'⟩
theorem fm.tr {S T : List Nat} {g g' g'' : St} (h : fm S T g g') (h2 : fm S T g' g'') : fm S T g g'' := ⟨fun k h1 hk => (h2.1 k h1 hk).trans (h.1 k h1 hk), fun j hj => (h2.2 j hj).trans (h.2 j hj)⟩
theorem fm.mono {S S' T T' : List Nat} {g g' : St} (h : fm S T g g') (hs : ∀ k, k ∈ S → k ∈ S') (ht : ∀ k, k ∈ T → k ∈ T') : fm S' T' g g' := ⟨fun k h1 hk => h.1 k h1 (fun q => hk (hs k q)), fun j hj => h.2 j (fun q => hj (ht j q))⟩
theorem sM.fm {S T : List Nat} {g g' : St} {n : Nat} {X Y Z : Nat → Int} (h : sM g n X Y Z) (f : fm S T g g') (h1 : 1 ∉ T) (h5 : 1 ∉ S) (h6 : 2 ∉ S) (h7 : 3 ∉ S) : sM g' n X Y Z := h.fr (f.2 1 h1) (f.1 1 (by decide) h5) (f.1 2 (by decide) h6) (f.1 3 (by decide) h7)
section
variable {g : St} {n : Nat} {X Y Z : Nat → Int}
theorem mM_add {L : List Nat} {a b c k : Nat} {g1 g2 g3 g4 : St} (hk : k / 256 = a ∧ k / 16 % 16 = b ∧ k % 16 = c) (hm : mM L g) (e1 : g1 = gp g 4 (3 * L.length) (nI a)) (e2 : g2 = gp g1 4 (3 * L.length + 1) (nI b)) (e3 : g3 = gp g2 4 (3 * L.length + 2) (nI c)) (e4 : g4 = gp g3 0 5 (nI L.length + 1)) : mM (L ++ [k]) g4 := by
  obtain ⟨m1, m2⟩ := hm
  obtain ⟨k1, k2, k3⟩ := hk
  constructor
  · rw [e4, gp_s, nI_1, List.length_append]; rfl
  · intro t ht
    rw [List.length_append, List.length_singleton] at ht
    have e48 : g4 4 = g3 4 := by rw [e4, gp_n (by decide)]
    rw [e48, e3]
    by_cases e : t = L.length
    · subst e
      rw [tl_end, k1, k2, k3]
      refine ⟨?_, ?_, ?_⟩
      · rw [gp_o (by omega), e2, gp_o (by omega), e1]; exact gp_s
      · rw [gp_o (by omega), e2]; exact gp_s
      · exact gp_s
    · have l : t < L.length := by omega
      rw [tl_app l]
      obtain ⟨q1, q2, q3⟩ := m2 t l
      refine ⟨?_, ?_, ?_⟩
      · rw [gp_o (by omega), e2, gp_o (by omega), e1, gp_o (by omega)]; exact q1
      · rw [gp_o (by omega), e2, gp_o (by omega), e1, gp_o (by omega)]; exact q2
      · rw [gp_o (by omega), e2, gp_o (by omega), e1, gp_o (by omega)]; exact q3
theorem mo_find {post : St → Prop} (hS : sM g n X Y Z) (h : ∀ g', mM (tl X Y n 4096) g' → fm [4] [5] g g' → post g') : wp_mo_findTriangles g post := by
  have n16 := hS.1.1
  have le : ∀ {u v : Nat}, u ≤ 16 → v ≤ 16 → (nI u ≤ nI v ↔ u ≤ v) := fun hu hv => nI_leI (by omega) (by omega)
  have inS : ∀ g', fm [4] [5] g g' → sM g' n X Y Z := fun g' f => hS.fm f (by decide) (by decide) (by decide) (by decide)
  unfold wp_mo_findTriangles
  intro g1 e1
  have f1 : fm [4] [5] g g1 := by rw [e1]; exact fm.rf.g0 (by decide)
  have m0 : mM (tl X Y n 0) g1 := ⟨by rw [e1]; exact gp_s, fun t ht => absurd ht (by unfold tl; simp)⟩
  have L31 : ∀ (a b : Nat) (K : Int32 → Int32 → St → Prop), a < b → b < n → (∀ g', mM (tl X Y n (256 * a + 16 * b + n)) g' → fm [4] [5] g g' → K (nI a) (nI b) g') →
      ∀ m c (g2 : St), c + m = n → b < c → mM (tl X Y n (256 * a + 16 * b + c)) g2 → fm [4] [5] g g2 → lp_mo_findTriangles_L31 (m + 1) (nI a) (nI b) (nI c) g2 K post := by
    intro a b K hab hb hK m
    induction m with
    | zero =>
      intro c g2 hc hbc hm f2
      have S2 := inS g2 f2
      unfold lp_mo_findTriangles_L31
      rw [S2.2.2.1]
      have : c = n := by omega
      subst this
      exact ⟨fun _ => hK g2 hm f2, fun q => absurd ((le (by omega) (by omega)).mpr (Nat.le_refl _)) q⟩
    | succ m ih =>
      intro c g2 hc hbc hm f2
      have S2 := inS g2 f2
      have hcn : c < n := by omega
      have k1 : (256 * a + 16 * b + c) / 256 = a := by omega
      have k2 : (256 * a + 16 * b + c) / 16 % 16 = b := by omega
      have k3 : (256 * a + 16 * b + c) % 16 = c := by omega
      unfold lp_mo_findTriangles_L31
      rw [S2.2.2.1]
      refine ⟨fun q => absurd ((le (by omega) (by omega)).mp q) (by omega), fun _ => ?_⟩
      refine mo_isTri S2 hab hbc hcn (fun t => ⟨fun _ => ?_, fun q => absurd rfl q⟩) (fun t => ⟨fun q => absurd q (by decide), fun _ => ?_⟩)
      · rw [nI_1]
        refine ih (c + 1) g2 (by omega) (by omega) ?_ f2
        rw [← Nat.add_assoc, tl_s0 (by rw [k1, k2, k3]; exact t)]
        exact hm
      · have ap := tl_s1 (X := X) (Y := Y) (n := n) (k := 256 * a + 16 * b + c) (by rw [k1, k2, k3]; exact t)
        have l3 := tl_27 (k := 256 * a + 16 * b + c) hS.1
        rw [hm.1, pk3', ix_nI (by omega)]
        refine ⟨vp_in_nI (by omega) (by omega), fun g4 e4 => ?_⟩
        have c4 : g4 0 5 = nI (tl X Y n (256 * a + 16 * b + c)).length := by rw [e4, gp_n (by decide)]; exact hm.1
        rw [c4, pk3', show (1 : Int32) = nI 1 from rfl, nI_add, ix_nI (by omega)]
        refine ⟨vp_in_nI (by omega) (by omega), fun g5 e5 => ?_⟩
        have c5 : g5 0 5 = nI (tl X Y n (256 * a + 16 * b + c)).length := by rw [e5, gp_n (by decide)]; exact c4
        rw [c5, pk3', show (2 : Int32) = nI 2 from rfl, nI_add, ix_nI (by omega)]
        refine ⟨vp_in_nI (by omega) (by omega), fun g6 e6 => fun g7 e7 => ?_⟩
        have c6 : g6 0 5 = nI (tl X Y n (256 * a + 16 * b + c)).length := by rw [e6, gp_n (by decide)]; exact c5
        rw [c6] at e7
        rw [nI_add]
        refine ih (c + 1) g7 (by omega) (by omega) ?_ ?_
        · rw [← Nat.add_assoc, ap]
          exact mM_add ⟨k1, k2, k3⟩ hm e4 e5 e6 e7
        · rw [e7, e6, e5, e4]
          exact (((f2.pt (by decide) (by decide)).pt (by decide) (by decide)).pt (by decide) (by decide)).g0 (by decide)
  have L19 : ∀ (a : Nat) (K : Int32 → St → Prop), a < n → (∀ g', mM (tl X Y n (256 * a + 16 * n)) g' → fm [4] [5] g g' → K (nI a) g') →
      ∀ m b (g2 : St), b + m = n → a < b → mM (tl X Y n (256 * a + 16 * b)) g2 → fm [4] [5] g g2 → lp_mo_findTriangles_L19 (m + 1) (nI a) (nI b) g2 K post := by
    intro a K ha hK m
    induction m with
    | zero =>
      intro b g2 hb hab hm f2
      have S2 := inS g2 f2
      unfold lp_mo_findTriangles_L19
      rw [S2.2.2.1]
      have : b = n := by omega
      subst this
      exact ⟨fun _ => hK g2 hm f2, fun q => absurd ((le (by omega) (by omega)).mpr (Nat.le_refl _)) q⟩
    | succ m ih =>
      intro b g2 hb hab hm f2
      have S2 := inS g2 f2
      unfold lp_mo_findTriangles_L19
      rw [S2.2.2.1]
      refine ⟨fun q => absurd ((le (by omega) (by omega)).mp q) (by omega), fun _ => ⟨(n - (b + 1)) + 1, ?_⟩⟩
      rw [nI_1]
      refine L31 a b _ hab (by omega) (fun g3 m3 f3 => ?_) (n - (b + 1)) (b + 1) g2 (by omega) (by omega) ?_ f2
      · rw [nI_1]
        refine ih (b + 1) g3 (by omega) (by omega) ?_ f3
        rw [tl_skip (k := 256 * a + 16 * b + n) (k' := 256 * a + 16 * (b + 1)) (by omega) (fun x x1 x2 t => by have := t.2.2.1; omega)]
        exact m3
      · rw [tl_skip (k := 256 * a + 16 * b) (k' := 256 * a + 16 * b + (b + 1)) (by omega) (fun x x1 x2 t => by have := t.2.1; omega)]
        exact hm
  have L7 : ∀ m a (g2 : St), a + m = n → mM (tl X Y n (256 * a)) g2 → fm [4] [5] g g2 → lp_mo_findTriangles_L7 (m + 1) (nI a) g2 (fun g13 => (post g13)) post := by
    intro m
    induction m with
    | zero =>
      intro a g2 ha hm f2
      have S2 := inS g2 f2
      unfold lp_mo_findTriangles_L7
      rw [S2.2.2.1]
      have : a = n := by omega
      subst this
      refine ⟨fun _ => h g2 ?_ f2, fun q => absurd ((le (by omega) (by omega)).mpr (Nat.le_refl _)) q⟩
      rw [tl_skip (k := 256 * a) (k' := 4096) (by omega) (fun x x1 x2 t => by have t1 := t.1; have t2 := t.2.1; have t3 := t.2.2.1; omega)]
      exact hm
    | succ m ih =>
      intro a g2 ha hm f2
      have S2 := inS g2 f2
      unfold lp_mo_findTriangles_L7
      rw [S2.2.2.1]
      refine ⟨fun q => absurd ((le (by omega) (by omega)).mp q) (by omega), fun _ => ⟨(n - (a + 1)) + 1, ?_⟩⟩
      rw [nI_1]
      refine L19 a _ (by omega) (fun g3 m3 f3 => ?_) (n - (a + 1)) (a + 1) g2 (by omega) (by omega) ?_ f2
      · rw [nI_1]
        refine ih (a + 1) g3 (by omega) ?_ f3
        rw [tl_skip (k := 256 * a + 16 * n) (k' := 256 * (a + 1)) (by omega) (fun x x1 x2 t => by have t2 := t.2.1; have t3 := t.2.2.1; have u : x / 16 / 16 = a := (by omega); omega)]
        exact m3
      · rw [tl_skip (k := 256 * a) (k' := 256 * a + 16 * (a + 1)) (by omega) (fun x x1 x2 t => by have := t.1; omega)]
        exact hm
  exact ⟨n + 1, L7 n 0 g1 (by omega) m0 f1⟩
end
