/-! The calls, both sides at once: first what each call does to one state. -/
def iC (g : St) (n : Nat) (X Y Z : Nat → Int) (t : Lt) : Prop := sC g n X Y Z ∧ mC X Y (tl X Y n 4096) g ∧ g 12 0 = 0 ∧ tCt g t
def iM (g : St) (n : Nat) (X Y Z : Nat → Int) (t : Lt) : Prop := sM g n X Y Z ∧ mM (tl X Y n 4096) g ∧ tMt g t
abbrev inr (a : Int) : Prop := -2147483648 ≤ a ∧ a < 2147483648
section
variable {g h g' : St} {n : Nat} {X Y Z : Nat → Int} {t : Lt}
theorem mC.fr {L : List Nat} {S : List Nat} (hm : mC X Y L g) (f : fr S g g') (h2 : 2 ∉ S) (h8 : 8 ∉ S) (h9 : 9 ∉ S) : mC X Y L g' := by
  obtain ⟨m1, m2, m3, m4⟩ := hm
  refine ⟨?_, ?_, ?_, ?_⟩
  · rw [f 2 h2]; exact m1
  · rw [f 8 h8]; exact m2
  · rw [f 9 h9]; exact m3
  · rw [f 9 h9]; exact m4
theorem tC.fr {S : List Nat} {q : Nat} {V A B : Nat → Int} (hT : tC g q V A B) (f : fr S g g') (h4 : 4 ∉ S) (h15 : 15 ∉ S) (h16 : 16 ∉ S) (h17 : 17 ∉ S) : tC g' q V A B := by
  obtain ⟨a1, a2, a3⟩ := hT
  refine ⟨a1, ?_, ?_⟩
  · rw [f 4 h4]; exact a2
  · rw [f 15 h15, f 16 h16, f 17 h17]; exact a3
theorem iC.fr {S : List Nat} (hC : iC g n X Y Z t) (f : fr S g g') (hS : ∀ k, k ∈ S → k ∈ [3, 10, 11, 12, 13, 14]) (h0 : g' 12 0 = 0) : iC g' n X Y Z t := by
  exact ⟨hC.1.fr f (fun q => absurd (hS _ q) (by decide)) (fun q => absurd (hS _ q) (by decide)) (fun q => absurd (hS _ q) (by decide)) (fun q => absurd (hS _ q) (by decide)), hC.2.1.fr f (fun q => absurd (hS _ q) (by decide)) (fun q => absurd (hS _ q) (by decide)) (fun q => absurd (hS _ q) (by decide)), h0, hC.2.2.2.fr f (fun q => absurd (hS _ q) (by decide)) (fun q => absurd (hS _ q) (by decide)) (fun q => absurd (hS _ q) (by decide)) (fun q => absurd (hS _ q) (by decide))⟩
theorem iM.fm {S T : List Nat} (hM : iM g n X Y Z t) (f : fm S T g g') (hS : ∀ k, k ∈ S → k ∈ [5, 6, 7, 8, 9, 10, 11, 12]) (hT : ∀ k, k ∈ T → k ∈ [0, 11, 15]) : iM g' n X Y Z t := by
  obtain ⟨a1, ⟨b1, b2⟩, c1, c2⟩ := hM
  have nS : ∀ {k}, k ∉ [5, 6, 7, 8, 9, 10, 11, 12] → k ∉ S := fun {k} q q' => q (hS k q')
  have nT : ∀ {k}, k ∉ [0, 11, 15] → k ∉ T := fun {k} q q' => q (hT k q')
  refine ⟨a1.fm f (nT (by decide)) (nS (by decide)) (nS (by decide)) (nS (by decide)), ⟨?_, ?_⟩, ?_, ?_⟩
  · rw [f.2 5 (nT (by decide))]; exact b1
  · rw [f.1 4 (by decide) (nS (by decide))]; exact b2
  · rw [f.2 17 (nT (by decide))]; exact c1
  · rw [f.1 13 (by decide) (nS (by decide)), f.1 14 (by decide) (nS (by decide)), f.1 15 (by decide) (nS (by decide))]; exact c2
/-- the reference's own mark alone is set -/
theorem iM.t0 {v : Int32} (hM : iM g n X Y Z t) : iM (gp g 0 0 v) n X Y Z t := hM.fm (S := []) (T := [0]) (fm.rf.g0 (by decide)) (by decide) (by decide)
/-! compares of any int with a number -/
theorem c_lt {a : Int} (k : Int) (ha : inr a) (hk : inr k) : iI a < iI k ↔ a < k := iI_lt ha.1 ha.2 hk.1 hk.2
theorem c_le {a : Int} (k : Int) (ha : inr a) (hk : inr k) : iI a ≤ iI k ↔ a ≤ k := iI_le ha.1 ha.2 hk.1 hk.2
theorem c_ge {a : Int} (k : Int) (ha : inr a) (hk : inr k) : iI k ≤ iI a ↔ k ≤ a := iI_le hk.1 hk.2 ha.1 ha.2
theorem c_gt {a : Int} (k : Int) (ha : inr a) (hk : inr k) : iI k < iI a ↔ k < a := iI_lt hk.1 hk.2 ha.1 ha.2
theorem c_lt0 {a : Int} (ha : inr a) : iI a < 0 ↔ a < 0 := c_lt 0 ha ⟨by omega, by omega⟩
theorem iIn (k : Nat) : nI k = iI k := (iI_nI k).symm
theorem sc_onMap {a b : Int} {post : Int32 → St → Prop} (ha : inr a) (hb : inr b) (h1 : (0 ≤ a ∧ a ≤ 63) ∧ 0 ≤ b ∧ b ≤ 63 → post 1 g) (h0 : ¬ ((0 ≤ a ∧ a ≤ 63) ∧ 0 ≤ b ∧ b ≤ 63) → post 0 g) : wp_sc_isOnMap (iI a) (iI b) g post := by
  unfold wp_sc_isOnMap
  rw [c_lt0 ha, c_lt0 hb, show (64 : Int32) = iI 64 from rfl, c_ge 64 ha ⟨by omega, by omega⟩, c_ge 64 hb ⟨by omega, by omega⟩]
  exact ⟨fun k => h0 (by omega), fun k1 => ⟨fun k => h0 (by omega), fun k2 => ⟨fun k => h0 (by omega), fun k3 => ⟨fun k => h0 (by omega), fun k4 => h1 (by omega)⟩⟩⟩⟩
theorem sc_isHeight {z : Int} {post : Int32 → St → Prop} (hz : inr z) (h1 : 0 ≤ z ∧ z ≤ 999 → post 1 g) (h0 : ¬ (0 ≤ z ∧ z ≤ 999) → post 0 g) : wp_sc_isHeight (iI z) g post := by
  unfold wp_sc_isHeight
  rw [c_lt0 hz, show (999 : Int32) = iI 999 from rfl, c_gt 999 hz ⟨by omega, by omega⟩]
  exact ⟨fun k => h0 (by omega), fun k1 => ⟨fun k => h0 (by omega), fun k2 => h1 (by omega)⟩⟩
theorem sp_taken {a b : Int} {post : Int32 → St → Prop} (hS : sC g n X Y Z) (ha : inr a) (hb : inr b) (h1 : (∃ v, v < n ∧ X v = a ∧ Y v = b) → post 1 g) (h0 : (¬ ∃ v, v < n ∧ X v = a ∧ Y v = b) → post 0 g) : wp_sp_isTaken (iI a) (iI b) g post := by
  have n16 := hS.1.1
  unfold wp_sp_isTaken
  have loop : ∀ m i, i + m = n → (∀ v, v < i → ¬ (X v = a ∧ Y v = b)) → lp_sp_isTaken_L2 (m + 1) (iI a) (iI b) (nI i) g (fun g1 => (post 0 g1)) post := by
    intro m
    induction m with
    | zero =>
      intro i hi hd
      unfold lp_sp_isTaken_L2
      rw [hS.2.2.1]
      exact ⟨fun _ => h0 (fun ⟨v, v1, v2⟩ => hd v (by omega) v2), fun k => absurd ((nI_leI (by omega) (by omega)).mpr (by omega)) k⟩
    | succ m ih =>
      intro i hi hd
      have hin : i < n := by omega
      obtain ⟨e1, e2, -⟩ := hS.2.2.2 i hin
      obtain ⟨b1, b2, b3, b4⟩ := hS.1.2.1 i hin
      have next : ¬ (X i = a ∧ Y i = b) → lp_sp_isTaken_L2 (m + 1) (iI a) (iI b) (nI i + 1) g (fun g1 => (post 0 g1)) post := fun k => by
        rw [nI_1]
        refine ih (i + 1) (by omega) (fun v hv => ?_)
        by_cases e : v = i
        · rw [e]; exact k
        · exact hd v (by omega)
      unfold lp_sp_isTaken_L2
      rw [hS.2.2.1, hS.ix hin, e1, e2, iI_eq (by omega) (by omega) ha.1 ha.2, iI_eq (by omega) (by omega) hb.1 hb.2]
      exact ⟨fun k => absurd ((nI_leI (by omega) (by omega)).mp k) (by omega), fun _ => ⟨hS.v16 hin, fun k => next (fun q => k q.1), fun k => ⟨hS.v16 hin, fun k2 => next (fun q => k2 q.2), fun k2 => h1 ⟨i, hin, k, k2⟩⟩⟩⟩
  exact ⟨n + 1, loop n 0 (by omega) (fun v hv => absurd hv (by omega))⟩
/-- one spot more -/
def sx (F : Nat → Int) (n : Nat) (a : Int) : Nat → Int := fun v => if v = n then a else F v
theorem sx_n {F : Nat → Int} {n : Nat} {a : Int} : sx F n a n = a := if_pos rfl
theorem sx_l {F : Nat → Int} {n v : Nat} {a : Int} (h : v < n) : sx F n a v = F v := if_neg (by omega)
theorem ok_add {a b : Int} (ho : ge_ok X Y n) (hn : n < 16) (hab : (0 ≤ a ∧ a ≤ 63) ∧ 0 ≤ b ∧ b ≤ 63) (nt : ¬ ∃ v, v < n ∧ X v = a ∧ Y v = b) : ge_ok (sx X n a) (sx Y n b) (n + 1) := by
  refine ⟨by omega, fun v hv => ?_, fun u v hu hv e1 e2 => ?_⟩
  · by_cases e : v = n
    · rw [e, sx_n, sx_n]; exact ⟨hab.1.1, hab.1.2, hab.2.1, hab.2.2⟩
    · rw [sx_l (by omega), sx_l (by omega)]; exact ho.2.1 v (by omega)
  · by_cases eu : u = n <;> by_cases ev : v = n
    · omega
    · rw [eu, sx_n, sx_l (by omega)] at e1
      rw [eu, sx_n, sx_l (by omega)] at e2
      exact absurd ⟨v, by omega, e1.symm, e2.symm⟩ nt
    · rw [ev, sx_n, sx_l (by omega)] at e1
      rw [ev, sx_n, sx_l (by omega)] at e2
      exact absurd ⟨u, by omega, e1, e2⟩ nt
    · rw [sx_l (by omega), sx_l (by omega)] at e1
      rw [sx_l (by omega), sx_l (by omega)] at e2
      exact ho.2.2 u v (by omega) (by omega) e1 e2
theorem sp_add {a b z : Int} {post : Int32 → St → Prop} (hS : sC g n X Y Z) (hn : n < 16) (hab : (0 ≤ a ∧ a ≤ 63) ∧ 0 ≤ b ∧ b ≤ 63) (hz : 0 ≤ z ∧ z ≤ 999) (nt : ¬ ∃ v, v < n ∧ X v = a ∧ Y v = b)
    (h : ∀ g', sC g' (n + 1) (sx X n a) (sx Y n b) (sx Z n z) → fr [1, 5, 6, 7] g g' → post (nI n) g') : wp_sp_add (iI a) (iI b) (iI z) g post := by
  have n16 := hS.1.1
  unfold wp_sp_add
  rw [hS.2.2.1, ix_nI (by omega)]
  refine ⟨vp_in_nI (by omega) (by omega), fun g1 e1 => ?_⟩
  have c1 : g1 1 3 = nI n := by rw [e1, gp_n (by decide)]; exact hS.2.2.1
  rw [c1, ix_nI (by omega)]
  refine ⟨vp_in_nI (by omega) (by omega), fun g2 e2 => ?_⟩
  have c2 : g2 1 3 = nI n := by rw [e2, gp_n (by decide)]; exact c1
  rw [c2, ix_nI (by omega)]
  refine ⟨vp_in_nI (by omega) (by omega), fun g3 e3 g4 e4 => ?_⟩
  have c3 : g3 1 3 = nI n := by rw [e3, gp_n (by decide)]; exact c2
  rw [c3, nI_1] at e4
  have c4 : g4 1 3 = nI (n + 1) := by rw [e4]; exact gp_s
  rw [c4, nI_pred]
  refine h g4 ⟨ok_add hS.1 hn hab nt, fun v hv => ?_, c4, fun v hv => ?_⟩ ?_
  · by_cases e : v = n
    · rw [e, sx_n]; exact hz
    · rw [sx_l (by omega)]; exact hS.2.1 v (by omega)
  · have w5 : g4 5 = g1 5 := by rw [e4, gp_n (by decide), e3, gp_n (by decide), e2, gp_n (by decide)]
    have w6 : g4 6 = g2 6 := by rw [e4, gp_n (by decide), e3, gp_n (by decide)]
    have w7 : g4 7 = g3 7 := by rw [e4, gp_n (by decide)]
    rw [w5, w6, w7]
    by_cases e : v = n
    · rw [e, sx_n, sx_n, sx_n, e1, e2, e3]; exact ⟨gp_s, gp_s, gp_s⟩
    · rw [sx_l (by omega), sx_l (by omega), sx_l (by omega), e1, gp_o e, e2, gp_o e, e3, gp_o e, e1, gp_n (by decide), e2, gp_n (by decide), e1, gp_n (by decide)]
      exact hS.2.2.2 v (by omega)
  · rw [e4, e3, e2, e1]
    exact (((fr.rf.gp (by decide)).gp (by decide)).gp (by decide)).gp (by decide)
end
