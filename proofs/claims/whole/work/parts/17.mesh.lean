/-! The mesh of the class and the corners of the reference, rebuilt. -/
theorem gp_n {g : St} {k j : Nat} {v : Int32} {k' : Nat} (h : k' ≠ k) : gp g k j v k' = g k' := by
  unfold gp va_up; rw [if_neg h]
theorem gp_s {g : St} {k j : Nat} {v : Int32} : gp g k j v k j = v := by
  unfold gp va_up; rw [if_pos rfl]; exact pk_us
theorem gp_o {g : St} {k j j' : Nat} {v : Int32} (h : j' ≠ j) : gp g k j v k j' = g k j' := by
  unfold gp va_up; rw [if_pos rfl]; exact pk_un h
/-- nothing but the cells of S has changed -/
def fr (S : List Nat) (g g' : St) : Prop := ∀ k, k ∉ S → g' k = g k
theorem fr.rf {S : List Nat} {g : St} : fr S g g := fun _ _ => rfl
theorem fr.gp {S : List Nat} {g g' : St} {k j : Nat} {v : Int32} (h : fr S g g') (hk : k ∈ S) : fr S g (gp g' k j v) := fun k' h' => by
  rw [gp_n (fun e => h' (by rw [e]; exact hk))]; exact h k' h'
theorem fr.tr {S : List Nat} {g g' g'' : St} (h : fr S g g') (h2 : fr S g' g'') : fr S g g'' := fun k hk => (h2 k hk).trans (h k hk)
theorem fr.mono {S S' : List Nat} {g g' : St} (h : fr S g g') (hs : ∀ k, k ∈ S → k ∈ S') : fr S' g g' := fun k hk => h k (fun q => hk (hs k q))
theorem sC.fr {S : List Nat} {g g' : St} {n : Nat} {X Y Z : Nat → Int} (h : sC g n X Y Z) (f : fr S g g') (h1 : 1 ∉ S) (h5 : 5 ∉ S) (h6 : 6 ∉ S) (h7 : 7 ∉ S) : sC g' n X Y Z := by
  refine ⟨h.1, h.2.1, ?_, fun v hv => ?_⟩
  · rw [f 1 h1]; exact h.2.2.1
  · rw [f 5 h5, f 6 h6, f 7 h7]; exact h.2.2.2 v hv
theorem sM.fr {g g' : St} {n : Nat} {X Y Z : Nat → Int} (h : sM g n X Y Z) (h0 : g' 0 1 = g 0 1) (h1 : g' 1 = g 1) (h2 : g' 2 = g 2) (h3 : g' 3 = g 3) : sM g' n X Y Z := by
  refine ⟨h.1, h.2.1, ?_, fun v hv => ?_⟩
  · rw [h0]; exact h.2.2.1
  · rw [h1, h2, h3]; exact h.2.2.2 v hv
/-- a triangle of the list, going right from p to q -/
def rt (X Y : Nat → Int) (L : List Nat) (p q r : Nat) : Prop := ge_t X Y p q r < 0 ∧ ∃ x, x ∈ L ∧ ge_pm (x / 256) (x / 16 % 16) (x % 16) p q r
def mC (X Y : Nat → Int) (L : List Nat) (g : St) : Prop := g 2 2 = nI L.length ∧ (∀ t, t < L.length → g 8 (3 * t) = nI (L.getD t 0 / 256) ∧ g 8 (3 * t + 1) = nI (L.getD t 0 / 16 % 16) ∧ g 8 (3 * t + 2) = nI (L.getD t 0 % 16)) ∧
  (∀ p q r, rt X Y L p q r → g 9 (16 * p + q) = nI r) ∧ ∀ p q, p < 16 → q < 16 → (∀ r, ¬ rt X Y L p q r) → g 9 (16 * p + q) = -1
def mM (L : List Nat) (g : St) : Prop := g 0 5 = nI L.length ∧ ∀ t, t < L.length → g 4 (3 * t) = nI (L.getD t 0 / 256) ∧ g 4 (3 * t + 1) = nI (L.getD t 0 / 16 % 16) ∧ g 4 (3 * t + 2) = nI (L.getD t 0 % 16)
theorem pk3 {L : Nat} (h : L < 1000) (j : Nat) : 3 * nI L + nI j = nI (3 * L + j) := by
  rw [show (3 : Int32) = nI 3 from rfl, pk_mul, nI_add]
theorem pk3' (L : Nat) : 3 * nI L = nI (3 * L) := by
  rw [show (3 : Int32) = nI 3 from rfl, pk_mul]
theorem pk16 (a b : Nat) : 16 * nI a + nI b = nI (16 * a + b) := by
  rw [show (16 : Int32) = nI 16 from rfl, pk_mul, nI_add]
section
variable {g : St} {n : Nat} {X Y Z : Nat → Int}
theorem me_clear {post : St → Prop} (h : ∀ g', g' 2 2 = 0 → (∀ i, i < 256 → g' 9 i = -1) → fr [2, 9] g g' → post g') : wp_me_clear g post := by
  unfold wp_me_clear
  intro g1 e1
  have loop : ∀ m i (g2 : St), i + m = 256 → g2 2 2 = 0 → (∀ j, j < i → g2 9 j = -1) → fr [2, 9] g g2 → lp_me_clear_L7 (m + 1) (nI i) g2 (fun g3 => (post g3)) post := by
    intro m
    induction m with
    | zero =>
      intro i g2 hi h1 h2 h3
      unfold lp_me_clear_L7
      refine ⟨fun _ => h g2 h1 (fun j hj => h2 j (by omega)) h3, fun q => absurd ?_ q⟩
      rw [show (256 : Int32) = nI 256 from rfl, nI_leI (by omega) (by omega)]; omega
    | succ m ih =>
      intro i g2 hi h1 h2 h3
      unfold lp_me_clear_L7
      refine ⟨fun q => ?_, fun _ => ⟨vp_in_nI (by omega) (by omega), fun g4 e4 => ?_⟩⟩
      · rw [show (256 : Int32) = nI 256 from rfl, nI_leI (by omega) (by omega)] at q; omega
      · rw [ix_nI (by omega)] at e4
        rw [nI_1, e4]
        refine ih (i + 1) _ (by omega) (by rw [gp_n (by decide)]; exact h1) (fun j hj => ?_) (h3.gp (by decide))
        by_cases e : j = i
        · rw [e]; exact gp_s
        · rw [gp_o e]; exact h2 j (by omega)
  refine ⟨257, loop 256 0 g1 (by omega) (by rw [e1]; exact gp_s) (fun j hj => absurd hj (by omega)) (by rw [e1]; exact fr.rf.gp (by decide))⟩
/-- three sides get their third spots -/
theorem me_sides {a b c : Nat} {post : St → Prop} (ha : a < 16) (hb : b < 16) (hc : c < 16)
    (h : ∀ g', g' 9 (16 * c + a) = nI b → (16 * c + a ≠ 16 * b + c → g' 9 (16 * b + c) = nI a) → (16 * c + a ≠ 16 * a + b → 16 * b + c ≠ 16 * a + b → g' 9 (16 * a + b) = nI c) → (∀ j, j ≠ 16 * a + b → j ≠ 16 * b + c → j ≠ 16 * c + a → g' 9 j = g 9 j) → fr [9] g g' → post g') : wp_me_addSides (nI a) (nI b) (nI c) g post := by
  unfold wp_me_addSides
  rw [pk16, pk16, pk16, ix_nI (by omega), ix_nI (by omega), ix_nI (by omega)]
  refine ⟨vp_in_nI (by omega) (by omega), fun g1 e1 => ⟨vp_in_nI (by omega) (by omega), fun g2 e2 => ⟨vp_in_nI (by omega) (by omega), fun g3 e3 => ?_⟩⟩⟩
  refine h g3 ?_ (fun q => ?_) (fun q q2 => ?_) (fun j j1 j2 j3 => ?_) ?_
  · rw [e3]; exact gp_s
  · rw [e3, gp_o (Ne.symm q), e2]; exact gp_s
  · rw [e3, gp_o (Ne.symm q), e2, gp_o (Ne.symm q2), e1]; exact gp_s
  · rw [e3, gp_o j3, e2, gp_o j2, e1, gp_o j1]
  · rw [e3, e2, e1]; exact ((fr.rf.gp (by decide)).gp (by decide)).gp (by decide)
theorem rt_app {L : List Nat} {k p q r : Nat} : rt X Y (L ++ [k]) p q r ↔ rt X Y L p q r ∨ (ge_t X Y p q r < 0 ∧ ge_pm (k / 256) (k / 16 % 16) (k % 16) p q r) := by
  unfold rt
  constructor
  · rintro ⟨h1, x, h2, h3⟩
    rcases List.mem_append.mp h2 with h | h
    · exact Or.inl ⟨h1, x, h, h3⟩
    · rw [List.mem_singleton.mp h] at h3; exact Or.inr ⟨h1, h3⟩
  · rintro (⟨h1, x, h2, h3⟩ | ⟨h1, h3⟩)
    · exact ⟨h1, x, List.mem_append_left _ h2, h3⟩
    · exact ⟨h1, k, List.mem_append_right _ (List.mem_singleton.mpr rfl), h3⟩
/-- in the order in which the sides are set -/
theorem rt_new {a b c p q r : Nat} (h : ge_t X Y a b c < 0) (k : ge_t X Y p q r < 0) (e : ge_pm a b c p q r) : (p = a ∧ q = b ∧ r = c) ∨ (p = b ∧ q = c ∧ r = a) ∨ (p = c ∧ q = a ∧ r = b) := by
  have r1 := ge_t_rot X Y a b c
  have r2 := ge_t_rot X Y b c a
  have s1 := ge_t_sw X Y a b c
  have s2 := ge_t_sw X Y b c a
  have s3 := ge_t_sw X Y c a b
  rcases e with ⟨rfl, rfl, rfl⟩ | ⟨rfl, rfl, rfl⟩ | ⟨rfl, rfl, rfl⟩ | ⟨rfl, rfl, rfl⟩ | ⟨rfl, rfl, rfl⟩ | ⟨rfl, rfl, rfl⟩
  · exact Or.inl ⟨rfl, rfl, rfl⟩
  · omega
  · omega
  · exact Or.inr (Or.inl ⟨rfl, rfl, rfl⟩)
  · exact Or.inr (Or.inr ⟨rfl, rfl, rfl⟩)
  · omega
theorem ge_pm_sw {a b c p q r : Nat} : ge_pm a c b p q r ↔ ge_pm a b c p q r := by
  unfold ge_pm
  constructor <;> (rintro (h | h | h | h | h | h) <;> simp only [h, and_self, true_or, or_true])
/-- the sides of a new triangle that goes right from a by b to c -/
theorem mC_sides {L : List Nat} {k a b c : Nat} {g1 g' : St} (hk : ∀ p q r, ge_pm (k / 256) (k / 16 % 16) (k % 16) p q r ↔ ge_pm a b c p q r) (ht : ge_t X Y a b c < 0) (h16 : a < 16 ∧ b < 16 ∧ c < 16) (hne : a ≠ b ∧ a ≠ c ∧ b ≠ c)
    (huniq : ∀ p q r, rt X Y (L ++ [k]) p q r → ∀ r', rt X Y (L ++ [k]) p q r' → r = r')
    (h3 : ∀ p q r, rt X Y L p q r → g1 9 (16 * p + q) = nI r) (h4 : ∀ p q, p < 16 → q < 16 → (∀ r, ¬ rt X Y L p q r) → g1 9 (16 * p + q) = -1)
    (hl16 : ∀ p q r, rt X Y (L ++ [k]) p q r → p < 16 ∧ q < 16)
    (s1 : g' 9 (16 * c + a) = nI b) (s2 : g' 9 (16 * b + c) = nI a) (s3 : g' 9 (16 * a + b) = nI c) (s4 : ∀ j, j ≠ 16 * a + b → j ≠ 16 * b + c → j ≠ 16 * c + a → g' 9 j = g1 9 j) :
    (∀ p q r, rt X Y (L ++ [k]) p q r → g' 9 (16 * p + q) = nI r) ∧ ∀ p q, p < 16 → q < 16 → (∀ r, ¬ rt X Y (L ++ [k]) p q r) → g' 9 (16 * p + q) = -1 := by
  have n1 : rt X Y (L ++ [k]) a b c := rt_app.mpr (Or.inr ⟨ht, (hk _ _ _).mpr (Or.inl ⟨rfl, rfl, rfl⟩)⟩)
  have n2 : rt X Y (L ++ [k]) b c a := rt_app.mpr (Or.inr ⟨by rw [ge_t_rot]; exact ht, (hk _ _ _).mpr (Or.inr (Or.inr (Or.inr (Or.inl ⟨rfl, rfl, rfl⟩))))⟩)
  have n3 : rt X Y (L ++ [k]) c a b := rt_app.mpr (Or.inr ⟨by rw [ge_t_rot, ge_t_rot]; exact ht, (hk _ _ _).mpr (Or.inr (Or.inr (Or.inr (Or.inr (Or.inl ⟨rfl, rfl, rfl⟩)))))⟩)
  obtain ⟨a16, b16, c16⟩ := h16
  constructor
  · intro p q r hr
    obtain ⟨p16, q16⟩ := hl16 p q r hr
    by_cases e1 : p = a ∧ q = b
    · obtain ⟨rfl, rfl⟩ := e1
      rw [s3, huniq _ _ _ hr _ n1]
    by_cases e2 : p = b ∧ q = c
    · obtain ⟨rfl, rfl⟩ := e2
      rw [s2, huniq _ _ _ hr _ n2]
    by_cases e3 : p = c ∧ q = a
    · obtain ⟨rfl, rfl⟩ := e3
      rw [s1, huniq _ _ _ hr _ n3]
    rw [s4 _ (by omega) (by omega) (by omega)]
    rcases rt_app.mp hr with h | ⟨h, h'⟩
    · exact h3 p q r h
    · rcases rt_new ht h ((hk _ _ _).mp h') with e | e | e
      · exact absurd ⟨e.1, e.2.1⟩ e1
      · exact absurd ⟨e.1, e.2.1⟩ e2
      · exact absurd ⟨e.1, e.2.1⟩ e3
  · intro p q p16 q16 hr
    rw [s4 _ (fun e => hr c (by rw [show p = a by omega, show q = b by omega]; exact n1)) (fun e => hr a (by rw [show p = b by omega, show q = c by omega]; exact n2)) (fun e => hr b (by rw [show p = c by omega, show q = a by omega]; exact n3))]
    exact h4 p q p16 q16 (fun r h => hr r (rt_app.mpr (Or.inl h)))
theorem me_add {L : List Nat} {a b c k : Nat} {x4 : Int32} {post : St → Prop} (hk : k / 256 = a ∧ k / 16 % 16 = b ∧ k % 16 = c) (ha : a < 16) (hL : L.length < 27) (hm : mC X Y L g) (hne : a ≠ b ∧ a ≠ c ∧ b ≠ c) (hx : (x4 = 0 ∧ 0 < ge_t X Y a b c) ∨ (x4 = 1 ∧ ge_t X Y a b c < 0))
    (huniq : ∀ p q r, rt X Y (L ++ [k]) p q r → ∀ r', rt X Y (L ++ [k]) p q r' → r = r') (hl16 : ∀ p q r, rt X Y (L ++ [k]) p q r → p < 16 ∧ q < 16)
    (h : ∀ g', mC X Y (L ++ [k]) g' → fr [2, 8, 9] g g' → post g') : wp_me_add (nI a) (nI b) (nI c) x4 g post := by
  obtain ⟨m1, m2, m3, m4⟩ := hm
  obtain ⟨k1, k2, k3⟩ := hk
  have b16 : b < 16 := by omega
  have c16 : c < 16 := by omega
  unfold wp_me_add
  rw [m1, pk3', show (1 : Int32) = nI 1 from rfl, show (2 : Int32) = nI 2 from rfl, nI_add, nI_add, ix_nI (by omega), ix_nI (by omega), ix_nI (by omega)]
  refine ⟨vp_in_nI (by omega) (by omega), fun g1 e1 => ⟨vp_in_nI (by omega) (by omega), fun g2 e2 => ⟨vp_in_nI (by omega) (by omega), fun g3 e3 => fun g4 e4 => ?_⟩⟩⟩
  have f4 : fr [2, 8, 9] g g4 := by rw [e4, e3, e2, e1]; exact (((fr.rf.gp (by decide)).gp (by decide)).gp (by decide)).gp (by decide)
  have c1 : g4 2 2 = nI (L ++ [k]).length := by
    rw [e4, gp_s, e3, gp_n (by decide), e2, gp_n (by decide), e1, gp_n (by decide), m1, nI_add, List.length_append]; rfl
  have c9 : g4 9 = g 9 := by rw [e4, gp_n (by decide), e3, gp_n (by decide), e2, gp_n (by decide), e1, gp_n (by decide)]
  have c8 : ∀ t, t < (L ++ [k]).length → g4 8 (3 * t) = nI ((L ++ [k]).getD t 0 / 256) ∧ g4 8 (3 * t + 1) = nI ((L ++ [k]).getD t 0 / 16 % 16) ∧ g4 8 (3 * t + 2) = nI ((L ++ [k]).getD t 0 % 16) := by
    intro t ht
    rw [List.length_append, List.length_singleton] at ht
    have e48 : g4 8 = g3 8 := by rw [e4, gp_n (by decide)]
    rw [e48, e3]
    by_cases e : t = L.length
    · subst e
      rw [tl_end, k1, k2, k3]
      refine ⟨?_, ?_, ?_⟩
      · rw [gp_o (by omega), e2, gp_o (by omega), e1]; exact gp_s
      · rw [gp_o (by omega), e2]; exact gp_s
      · exact gp_s
    · have l : t < L.length := by omega
      rw [tl_app l]
      obtain ⟨q1, q2, q3⟩ := m2 t l
      refine ⟨?_, ?_, ?_⟩
      · rw [gp_o (by omega), e2, gp_o (by omega), e1, gp_o (by omega)]; exact q1
      · rw [gp_o (by omega), e2, gp_o (by omega), e1, gp_o (by omega)]; exact q2
      · rw [gp_o (by omega), e2, gp_o (by omega), e1, gp_o (by omega)]; exact q3
  have fin : ∀ g', (∀ k', k' ≠ 9 → g' k' = g4 k') → ((∀ p q r, rt X Y (L ++ [k]) p q r → g' 9 (16 * p + q) = nI r) ∧ ∀ p q, p < 16 → q < 16 → (∀ r, ¬ rt X Y (L ++ [k]) p q r) → g' 9 (16 * p + q) = -1) → post g' := by
    intro g' f s
    refine h g' ⟨?_, ?_, s.1, s.2⟩ (fun k' hk' => ?_)
    · rw [f 2 (by decide)]; exact c1
    · rw [f 8 (by decide)]; exact c8
    · rw [f k' (fun e => hk' (by rw [e]; decide))]; exact f4 k' hk'
  obtain ⟨ab, ac, bc⟩ := hne
  rcases hx with ⟨x0, ht⟩ | ⟨x1, ht⟩
  · refine ⟨fun _ => ?_, fun q => absurd x0 q⟩
    refine me_sides ha c16 b16 (fun g' s1 s2 s3 s4 f => fin g' (fun k' hk' => f k' (fun q => hk' (List.mem_singleton.mp q))) ?_)
    refine mC_sides (L := L) (k := k) (a := a) (b := c) (c := b) (g1 := g4) (fun p q r => by rw [k1, k2, k3]; exact ge_pm_sw.symm) (by rw [ge_t_sw]; omega) ⟨ha, c16, b16⟩ ⟨ac, ab, Ne.symm bc⟩ huniq (by rw [c9]; exact m3) (by rw [c9]; exact m4) hl16 s1 (s2 (by omega)) (s3 (by omega) (by omega)) s4
  · refine ⟨fun q => absurd q (by rw [x1]; decide), fun _ => ?_⟩
    refine me_sides ha b16 c16 (fun g' s1 s2 s3 s4 f => fin g' (fun k' hk' => f k' (fun q => hk' (List.mem_singleton.mp q))) ?_)
    refine mC_sides (L := L) (k := k) (a := a) (b := b) (c := c) (g1 := g4) (fun p q r => by rw [k1, k2, k3]) ht ⟨ha, b16, c16⟩ ⟨ab, ac, bc⟩ huniq (by rw [c9]; exact m3) (by rw [c9]; exact m4) hl16 s1 (s2 (by omega)) (s3 (by omega) (by omega)) s4
theorem rt_T {k p q r : Nat} (ho : ge_ok X Y n) (h : rt X Y (tl X Y n k) p q r) : ge_T X Y n p q r := by
  obtain ⟨-, x, h1, h2⟩ := h
  exact ge_pm_T (ge_T_of ho (tl_mem.mp h1).2) h2
theorem rt_u {k p q r r' : Nat} (ho : ge_ok X Y n) (h : rt X Y (tl X Y n k) p q r) (h' : rt X Y (tl X Y n k) p q r') : r = r' := ge_right (rt_T ho h) (rt_T ho h') h.1 h'.1
/-- THE MESH REBUILT -/
theorem me_rebuild {post : St → Prop} (hS : sC g n X Y Z) (h : ∀ g', mC X Y (tl X Y n 4096) g' → fr [2, 8, 9] g g' → post g') : wp_me_rebuild g post := by
  have n16 := hS.1.1
  have le : ∀ {u v : Nat}, u ≤ 16 → v ≤ 16 → (nI u ≤ nI v ↔ u ≤ v) := fun hu hv => nI_leI (by omega) (by omega)
  have inS : ∀ g', fr [2, 8, 9] g g' → sC g' n X Y Z := fun g' f => hS.fr f (by decide) (by decide) (by decide) (by decide)
  unfold wp_me_rebuild
  refine me_clear (fun g1 c1 c2 f1 => ?_)
  have f1 : fr [2, 8, 9] g g1 := f1.mono (by decide)
  have m0 : mC X Y (tl X Y n 0) g1 := by
    refine ⟨c1, fun t ht => absurd ht (by unfold tl; simp), fun p q r hr => ?_, fun p q hp hq _ => c2 _ (by omega)⟩
    obtain ⟨-, x, hx, -⟩ := hr
    exact absurd (tl_mem.mp hx).1 (by omega)
  -- the innermost loop
  have L31 : ∀ (a b : Nat) (K : Int32 → Int32 → St → Prop), a < b → b < n → (∀ g', mC X Y (tl X Y n (256 * a + 16 * b + n)) g' → fr [2, 8, 9] g g' → K (nI a) (nI b) g') →
      ∀ m c (g2 : St), c + m = n → b < c → mC X Y (tl X Y n (256 * a + 16 * b + c)) g2 → fr [2, 8, 9] g g2 → lp_me_rebuild_L31 (m + 1) (nI a) (nI b) (nI c) g2 K post := by
    intro a b K hab hb hK m
    induction m with
    | zero =>
      intro c g2 hc hbc hm f2
      have S2 := inS g2 f2
      unfold lp_me_rebuild_L31 wp_sp_size
      rw [S2.2.2.1]
      have : c = n := by omega
      subst this
      exact ⟨fun _ => hK g2 hm f2, fun q => absurd ((le (by omega) (by omega)).mpr (Nat.le_refl _)) q⟩
    | succ m ih =>
      intro c g2 hc hbc hm f2
      have S2 := inS g2 f2
      have hcn : c < n := by omega
      have k1 : (256 * a + 16 * b + c) / 256 = a := by omega
      have k2 : (256 * a + 16 * b + c) / 16 % 16 = b := by omega
      have k3 : (256 * a + 16 * b + c) % 16 = c := by omega
      have no : ¬ ge_tri X Y n a b c → ∀ g3, mC X Y (tl X Y n (256 * a + 16 * b + c)) g3 → fr [2, 8, 9] g g3 → lp_me_rebuild_L31 (m + 1) (nI a) (nI b) (nI c + 1) g3 K post := fun t g3 m3 f3 => by
        rw [nI_1]
        refine ih (c + 1) g3 (by omega) (by omega) ?_ f3
        rw [← Nat.add_assoc, tl_s0 (by rw [k1, k2, k3]; exact t)]
        exact m3
      unfold lp_me_rebuild_L31 wp_sp_size
      rw [S2.2.2.1]
      try dsimp only
      rw [hm.1]
      refine ⟨fun q => absurd ((le (by omega) (by omega)).mp q) (by omega), fun _ => ⟨fun q => ?_, fun q => ?_⟩⟩
      · refine no (fun t => ?_) g2 hm f2
        have l := tl_27 (k := 256 * a + 16 * b + c + 1) hS.1
        rw [tl_s1 (by rw [k1, k2, k3]; exact t), List.length_append, List.length_singleton] at l
        have l2 := tl_27 (k := 256 * a + 16 * b + c) hS.1
        rw [show (27 : Int32) = nI 27 from rfl, nI_leI (by omega) (by omega)] at q
        omega
      · have l2 := tl_27 (k := 256 * a + 16 * b + c) hS.1
        have l3 : (tl X Y n (256 * a + 16 * b + c)).length < 27 := by
          rw [show (27 : Int32) = nI 27 from rfl, nI_leI (by omega) (by omega)] at q
          omega
        refine me_isTri S2 hab hbc hcn (fun t => ⟨fun _ => no t g2 hm f2, fun q => absurd rfl q⟩) (fun t => ⟨fun q => absurd q (by decide), fun _ => ?_⟩)
        have bt := ge_tb hS.1 (show a < n by omega) hb hcn
        have ap := tl_s1 (X := X) (Y := Y) (n := n) (k := 256 * a + 16 * b + c) (by rw [k1, k2, k3]; exact t)
        have go : ∀ x4 : Int32, ((x4 = 0 ∧ 0 < ge_t X Y a b c) ∨ (x4 = 1 ∧ ge_t X Y a b c < 0)) → wp_me_add (nI a) (nI b) (nI c) x4 g2 (fun g12 => (lp_me_rebuild_L31 (m + 1) (nI a) (nI b) (nI c + 1) g12 K post)) := fun x4 hx => by
          refine me_add (L := tl X Y n (256 * a + 16 * b + c)) (k := 256 * a + 16 * b + c) ⟨k1, k2, k3⟩ (by omega) l3 hm ⟨by omega, by omega, by omega⟩ hx (fun p q r h1 r' h2 => ?_) (fun p q r h1 => ?_) (fun g3 m3 f3 => ?_)
          · rw [← ap] at h1 h2; exact rt_u hS.1 h1 h2
          · rw [← ap] at h1
            have T := rt_T hS.1 h1
            exact ⟨by have := T.1; omega, by have := T.2.1; omega⟩
          · rw [nI_1]
            rw [← ap] at m3
            exact ih (c + 1) g3 (by omega) (by omega) m3 (f2.tr f3)
        refine sp_turn S2 (by omega) hb hcn ⟨fun q => go 0 (Or.inl ⟨rfl, ?_⟩), fun q => go 1 (Or.inr ⟨rfl, ?_⟩)⟩
        · rw [← iI_0, iI_le (by omega) (by omega) bt.1 bt.2] at q
          have := t.2.2.2.1
          omega
        · rw [← iI_0, iI_le (by omega) (by omega) bt.1 bt.2] at q
          omega
  have L18 : ∀ (a : Nat) (K : Int32 → St → Prop), a < n → (∀ g', mC X Y (tl X Y n (256 * a + 16 * n)) g' → fr [2, 8, 9] g g' → K (nI a) g') →
      ∀ m b (g2 : St), b + m = n → a < b → mC X Y (tl X Y n (256 * a + 16 * b)) g2 → fr [2, 8, 9] g g2 → lp_me_rebuild_L18 (m + 1) (nI a) (nI b) g2 K post := by
    intro a K ha hK m
    induction m with
    | zero =>
      intro b g2 hb hab hm f2
      have S2 := inS g2 f2
      unfold lp_me_rebuild_L18 wp_sp_size
      rw [S2.2.2.1]
      have : b = n := by omega
      subst this
      exact ⟨fun _ => hK g2 hm f2, fun q => absurd ((le (by omega) (by omega)).mpr (Nat.le_refl _)) q⟩
    | succ m ih =>
      intro b g2 hb hab hm f2
      have S2 := inS g2 f2
      unfold lp_me_rebuild_L18 wp_sp_size
      rw [S2.2.2.1]
      refine ⟨fun q => absurd ((le (by omega) (by omega)).mp q) (by omega), fun _ => ⟨(n - (b + 1)) + 1, ?_⟩⟩
      rw [nI_1]
      refine L31 a b _ hab (by omega) (fun g3 m3 f3 => ?_) (n - (b + 1)) (b + 1) g2 (by omega) (by omega) ?_ f2
      · rw [nI_1]
        refine ih (b + 1) g3 (by omega) (by omega) ?_ f3
        rw [tl_skip (k := 256 * a + 16 * b + n) (k' := 256 * a + 16 * (b + 1)) (by omega) (fun x x1 x2 t => by have := t.2.2.1; omega)]
        exact m3
      · rw [tl_skip (k := 256 * a + 16 * b) (k' := 256 * a + 16 * b + (b + 1)) (by omega) (fun x x1 x2 t => by have := t.2.1; omega)]
        exact hm
  have L6 : ∀ m a (g2 : St), a + m = n → mC X Y (tl X Y n (256 * a)) g2 → fr [2, 8, 9] g g2 → lp_me_rebuild_L6 (m + 1) (nI a) g2 (fun g19 => (post g19)) post := by
    intro m
    induction m with
    | zero =>
      intro a g2 ha hm f2
      have S2 := inS g2 f2
      unfold lp_me_rebuild_L6 wp_sp_size
      rw [S2.2.2.1]
      have : a = n := by omega
      subst this
      refine ⟨fun _ => h g2 ?_ f2, fun q => absurd ((le (by omega) (by omega)).mpr (Nat.le_refl _)) q⟩
      rw [tl_skip (k := 256 * a) (k' := 4096) (by omega) (fun x x1 x2 t => by have t1 := t.1; have t2 := t.2.1; have t3 := t.2.2.1; omega)]
      exact hm
    | succ m ih =>
      intro a g2 ha hm f2
      have S2 := inS g2 f2
      unfold lp_me_rebuild_L6 wp_sp_size
      rw [S2.2.2.1]
      refine ⟨fun q => absurd ((le (by omega) (by omega)).mp q) (by omega), fun _ => ⟨(n - (a + 1)) + 1, ?_⟩⟩
      rw [nI_1]
      refine L18 a _ (by omega) (fun g3 m3 f3 => ?_) (n - (a + 1)) (a + 1) g2 (by omega) (by omega) ?_ f2
      · rw [nI_1]
        refine ih (a + 1) g3 (by omega) ?_ f3
        rw [tl_skip (k := 256 * a + 16 * n) (k' := 256 * (a + 1)) (by omega) (fun x x1 x2 t => by have t2 := t.2.1; have t3 := t.2.2.1; have u : x / 16 / 16 = a := (by omega); omega)]
        exact m3
      · rw [tl_skip (k := 256 * a) (k' := 256 * a + 16 * (a + 1)) (by omega) (fun x x1 x2 t => by have := t.1; omega)]
        exact hm
  exact ⟨n + 1, L6 n 0 g1 (by omega) m0 f1⟩
end
