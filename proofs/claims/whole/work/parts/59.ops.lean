/-! raise, corner, edge, at, labelOf on both sides. -/
section
variable {g h : St} {n : Nat} {X Y Z : Nat → Int} {t : Lt}
theorem sp_isNum {a : Int} {post : Int32 → St → Prop} (hS : sC g n X Y Z) (ha : inr a) (h1 : 0 ≤ a ∧ a < n → post 1 g) (h0 : ¬ (0 ≤ a ∧ a < n) → post 0 g) : wp_sp_isNumber (iI a) g post := by
  have n16 := hS.1.1
  unfold wp_sp_isNumber
  rw [c_lt0 ha, hS.2.2.1, iIn n, c_ge (n : Int) ha ⟨by omega, by omega⟩]
  exact ⟨fun k => h0 (by omega), fun k1 => ⟨fun k => h0 (by omega), fun k2 => h1 (by omega)⟩⟩
theorem mo_isNum {a : Int} {post : Int32 → St → Prop} (hS : sM g n X Y Z) (ha : inr a) (h1 : 0 ≤ a ∧ a < n → post 1 g) (h0 : ¬ (0 ≤ a ∧ a < n) → post 0 g) : wp_mo_isSpot (iI a) g post := by
  have n16 := hS.1.1
  unfold wp_mo_isSpot
  rw [c_lt0 ha, hS.2.2.1, iIn n, c_ge (n : Int) ha ⟨by omega, by omega⟩]
  exact ⟨fun k => h0 (by omega), fun k1 => ⟨fun k => h0 (by omega), fun k2 => h1 (by omega)⟩⟩
/-- a number from 0 on is a natural one -/
theorem nat_of {a : Int} (h : 0 ≤ a) : ∃ m : Nat, a = m := ⟨a.toNat, (Int.toNat_of_nonneg h).symm⟩
/-- one height changed -/
def zx (F : Nat → Int) (m : Nat) (a : Int) : Nat → Int := fun v => if v = m then a else F v
theorem op_raise {a z : Int} (ha : inr a) (hz : inr z) (hC : iC g n X Y Z t) (hM : iM h n X Y Z t) :
    ∃ (k : Nat) (r : Int32) (Z' : Nat → Int) (t' : Lt), k ≤ 2 ∧ wp_sc_raise (iI a) (iI z) g (pC k r n X Y Z' t') (xC [(2, 1), (0, 2)] k n X Y Z' t') ∧ wp_mo_raise (iI a) (iI z) h (pM k r n X Y Z' t') := by
  have hS := hC.1
  have hS' := hM.1
  have n16 := hS.1.1
  have bad : ∀ {post : Int32 → St → Prop} {k : Nat}, (k = 1 ∨ k = 2) → (∀ h1, h1 0 0 = nI k → iM h1 n X Y Z t → post 0 h1) → jn_mo_raise_J29 (iI a) (iI z) (nI k) h post := fun {post k} hk hp => by
    unfold jn_mo_raise_J29
    intro g3 e3
    have z3 : g3 0 0 = nI k := by rw [e3]; exact gp_s
    rw [z3]
    refine ⟨fun q => ?_, fun _ => hp g3 z3 (by rw [e3]; exact hM.t0)⟩
    have q : nI k = nI 0 := q
    rw [nI_eq (by omega) (by omega)] at q; omega
  by_cases num : 0 ≤ a ∧ a < n
  · by_cases ok : 0 ≤ z ∧ z ≤ 999
    · obtain ⟨m, rfl⟩ := nat_of num.1
      have mn : m < n := by omega
      refine ⟨0, iI (Z m), zx Z m z, (0, t.2), by omega, ?_, ?_⟩
      · unfold wp_sc_raise
        refine sp_isNum hS ha (fun _ => ⟨fun _ => sc_isHeight hz (fun _ => ⟨fun _ => ?_, fun q => absurd q (by decide)⟩) (fun q => absurd ok q), fun q => absurd q (by decide)⟩) (fun q => absurd num q)
        unfold wp_sp_height wp_sp_setHeight
        try dsimp only
        rw [iI_nI, hS.ix mn]
        refine ⟨hS.v16 mn, hS.v16 mn, fun g1 e1 => t_cut (fun g2 e2 => ⟨rfl, (hS.2.2.2 m mn).2.2, ?_⟩)⟩
        have f1 : fr [7] g g1 := by rw [e1]; exact fr.rf.gp (by decide)
        rw [e2]
        refine iC_cut ⟨hS.1, fun v hv => ?_, by rw [f1 1 (by decide)]; exact hS.2.2.1, fun v hv => ?_⟩ (hC.2.1.fr f1 (by decide) (by decide) (by decide)) (by rw [f1 12 (by decide)]; exact hC.2.2.1)
        · unfold zx; split
          · exact ok
          · exact hS.2.1 v hv
        · rw [f1 5 (by decide), f1 6 (by decide), e1]
          obtain ⟨q1, q2, q3⟩ := hS.2.2.2 v hv
          refine ⟨q1, q2, ?_⟩
          by_cases e : v = m
          · rw [e, gp_s]; unfold zx; rw [if_pos rfl]
          · rw [gp_o e]; unfold zx; rw [if_neg e]; exact q3
      · unfold wp_mo_raise
        refine mo_isNum hS' ha (fun _ => ⟨fun _ => ?_, fun q => absurd q (by decide)⟩) (fun q => absurd num q)
        rw [c_lt0 hz, show (999 : Int32) = iI 999 from rfl, c_le 999 hz ⟨by omega, by omega⟩]
        refine ⟨fun q => absurd q (by omega), fun _ => ⟨fun _ => ?_, fun q => absurd ok.2 q⟩⟩
        unfold jn_mo_raise_J29
        intro g3 e3
        have z3 : g3 0 0 = 0 := by rw [e3]; exact gp_s
        rw [z3, iI_nI, hS'.ix mn]
        refine ⟨fun _ => ⟨hS'.v16 mn, hS'.v16 mn, fun g4 e4 g5 e5 => ⟨?_, fun _ => ?_, ?_⟩⟩, fun q => absurd rfl q⟩
        · rw [e5, gp_o (by decide), e4, gp_n (by decide)]; exact z3
        · rw [e3, gp_n (by decide)]; exact (hS'.2.2.2 m mn).2.2
        · have f5 : fm [3] [0, 17] h g5 := by rw [e5, e4, e3]; exact ((fm.rf.g0 (by decide)).pt (by decide) (by decide)).g0 (by decide)
          refine iM_cut ⟨hS'.1, fun v hv => ?_, by rw [f5.2 1 (by decide)]; exact hS'.2.2.1, fun v hv => ?_⟩ ⟨by rw [f5.2 5 (by decide)]; exact hM.2.1.1, by rw [f5.1 4 (by decide) (by decide)]; exact hM.2.1.2⟩ (by rw [e5]; exact gp_s)
          · unfold zx; split
            · exact ok
            · exact hS'.2.1 v hv
          · have w3 : g5 3 = g4 3 := by rw [e5, gp_n (by decide)]
            rw [f5.1 1 (by decide) (by decide), f5.1 2 (by decide) (by decide), w3, e4]
            obtain ⟨q1, q2, q3⟩ := hS'.2.2.2 v hv
            refine ⟨q1, q2, ?_⟩
            by_cases e : v = m
            · rw [e, gp_s]; unfold zx; rw [if_pos rfl]
            · rw [gp_o e, e3, gp_n (by decide)]; unfold zx; rw [if_neg e]; exact q3
    · refine ⟨2, 0, Z, t, by omega, ?_, ?_⟩
      · unfold wp_sc_raise
        exact sp_isNum hS ha (fun _ => ⟨fun _ => sc_isHeight hz (fun q => absurd q ok) (fun _ => ⟨fun q => absurd rfl q, fun _ => ⟨by decide, hC⟩⟩), fun q => absurd q (by decide)⟩) (fun q => absurd num q)
      · unfold wp_mo_raise
        refine mo_isNum hS' ha (fun _ => ⟨fun _ => ?_, fun q => absurd q (by decide)⟩) (fun q => absurd num q)
        have b2 := bad (post := pM 2 0 n X Y Z t) (k := 2) (Or.inr rfl) (fun h1 e i => ⟨e, fun q => absurd q (by decide), i⟩)
        rw [c_lt0 hz, show (999 : Int32) = iI 999 from rfl, c_le 999 hz ⟨by omega, by omega⟩]
        unfold jn_mo_raise_J24
        exact ⟨fun _ => b2, fun _ => ⟨fun q => absurd q (by omega), fun _ => b2⟩⟩
  · refine ⟨1, 0, Z, t, by omega, ?_, ?_⟩
    · unfold wp_sc_raise
      exact sp_isNum hS ha (fun q => absurd q num) (fun _ => ⟨fun q => absurd rfl q, fun _ => ⟨by decide, hC⟩⟩)
    · unfold wp_mo_raise
      exact mo_isNum hS' ha (fun q => absurd q num) (fun _ => ⟨fun q => absurd rfl q, fun _ => bad (k := 1) (Or.inl rfl) (fun h1 e i => ⟨e, fun q => absurd q (by decide), i⟩)⟩)
theorem op_corner {i k : Int} (hi : inr i) (hk : inr k) (hC : iC g n X Y Z t) (hM : iM h n X Y Z t) :
    ∃ (c : Nat) (r : Int32), c ≤ 2 ∧ wp_sc_corner (iI i) (iI k) g (pC c r n X Y Z t) (xC [(2, 1)] c n X Y Z t) ∧ wp_mo_corner (iI i) (iI k) h (pM c r n X Y Z t) := by
  have L27 := tl_27 (k := 4096) hC.1.1
  have bad : ∀ {r : Int32}, jn_mo_corner_J27 (iI i) (iI k) 1 h (pM 1 r n X Y Z t) := fun {r} => by
    unfold jn_mo_corner_J27
    intro g1 e1
    have z1 : g1 0 0 = 1 := by rw [e1]; exact gp_s
    rw [z1]
    exact ⟨fun _ => ⟨z1, fun q => absurd q (by decide), by rw [e1]; exact hM.t0⟩, fun q => absurd q (by decide)⟩
  have le : inr ((tl X Y n 4096).length : Int) := ⟨by omega, by omega⟩
  by_cases ok : (0 ≤ i ∧ i < (tl X Y n 4096).length) ∧ 0 ≤ k ∧ k ≤ 2
  · obtain ⟨m, rfl⟩ := nat_of ok.1.1
    obtain ⟨j, rfl⟩ := nat_of ok.2.1
    have ml : m < (tl X Y n 4096).length := by omega
    have j3 : j < 3 := by omega
    refine ⟨0, nI (if j = 0 then (tl X Y n 4096).getD m 0 / 256 else if j = 1 then (tl X Y n 4096).getD m 0 / 16 % 16 else (tl X Y n 4096).getD m 0 % 16), by omega, ?_, ?_⟩
    · unfold wp_sc_corner wp_me_size
      try dsimp only
      rw [c_lt0 hi, c_lt0 hk, hC.2.1.1, iIn (tl X Y n 4096).length, c_ge _ hi le, show (3 : Int32) = iI 3 from rfl, c_lt 3 hk ⟨by omega, by omega⟩]
      refine ⟨fun q => absurd q (by omega), fun _ => ⟨fun q => absurd q (by omega), fun _ => ⟨fun q => absurd q (by omega), fun _ => ⟨fun _ => ?_, fun q => absurd ok.2.2 (by omega)⟩⟩⟩⟩
      rw [iI_nI, iI_nI]
      exact me_corner hC.2.1 L27 ml j3 rfl ⟨rfl, rfl, hC⟩
    · unfold wp_mo_corner jn_mo_corner_J22
      rw [c_lt0 hi, c_lt0 hk, hM.2.1.1, iIn (tl X Y n 4096).length, c_ge _ hi le, show (2 : Int32) = iI 2 from rfl, c_le 2 hk ⟨by omega, by omega⟩]
      refine ⟨fun q => absurd q (by omega), fun _ => ⟨fun q => absurd q (by omega), fun _ => ⟨fun q => absurd q (by omega), fun _ => ⟨fun _ => ?_, fun q => absurd ok.2.2 q⟩⟩⟩⟩
      unfold jn_mo_corner_J27
      intro g1 e1
      have z1 : g1 0 0 = 0 := by rw [e1]; exact gp_s
      rw [z1, iI_nI, iI_nI, pk3 (by omega), ix_nI (by omega)]
      refine ⟨fun q => absurd rfl q, fun _ => ⟨vp_in_nI (by omega) (by omega), z1, fun _ => ?_, by rw [e1]; exact hM.t0⟩⟩
      obtain ⟨q1, q2, q3⟩ := hM.2.1.2 m ml
      rw [e1, gp_n (by decide)]
      have : j = 0 ∨ j = 1 ∨ j = 2 := by omega
      rcases this with rfl | rfl | rfl
      · exact q1
      · exact q2
      · exact q3
  · refine ⟨1, 0, by omega, ?_, ?_⟩
    · have x : xC [(2, 1)] 1 n X Y Z t 2 g := ⟨by decide, hC⟩
      unfold wp_sc_corner wp_me_size
      try dsimp only
      rw [c_lt0 hi, c_lt0 hk, hC.2.1.1, iIn (tl X Y n 4096).length, c_ge _ hi le, show (3 : Int32) = iI 3 from rfl, c_lt 3 hk ⟨by omega, by omega⟩]
      exact ⟨fun _ => x, fun _ => ⟨fun _ => x, fun _ => ⟨fun _ => x, fun _ => ⟨fun _ => absurd ok (fun q => q (by omega)), fun _ => x⟩⟩⟩⟩
    · unfold wp_mo_corner jn_mo_corner_J22
      rw [c_lt0 hi, c_lt0 hk, hM.2.1.1, iIn (tl X Y n 4096).length, c_ge _ hi le, show (2 : Int32) = iI 2 from rfl, c_le 2 hk ⟨by omega, by omega⟩]
      exact ⟨fun _ => bad, fun _ => ⟨fun _ => bad, fun _ => ⟨fun _ => bad, fun _ => ⟨fun _ => absurd ok (fun q => q (by omega)), fun _ => bad⟩⟩⟩⟩
theorem op_at {x y : Int} (hx : inr x) (hy : inr y) (hC : iC g n X Y Z t) (hM : iM h n X Y Z t) :
    ∃ (c : Nat) (r : Int32), c ≤ 2 ∧ wp_sc_at (iI x) (iI y) g (pC c r n X Y Z t) (xC [(3, 1)] c n X Y Z t) ∧ wp_mo_at (iI x) (iI y) h (pM c r n X Y Z t) := by
  have hS := hC.1
  have ho := hS.1
  have fm0 : ∀ {h1 : St}, fm [] [0] h h1 → iM h1 n X Y Z t := fun {h1} f => hM.fm f (by decide) (by decide)
  have onm : ∀ s, s < (tl X Y n 4096).length → inL X Y (tl X Y n 4096) s x y → (0 ≤ x ∧ x ≤ 63) ∧ 0 ≤ y ∧ y ≤ 63 := fun s hs q => by
    have T := (tl_get hs).2
    have c1 := T.2.2.1
    have b1 := T.2.1
    have a1 := T.1
    exact inT_map T.2.2.2.1 (ho.2.1 _ (by omega)) (ho.2.1 _ (by omega)) (ho.2.1 _ c1) q
  have m1ne : ∀ {z : Int}, 0 ≤ z → z ≤ 999 → ¬ iI z = -1 := fun {z} a b q => by
    rw [← iI_m1, iI_eq (by omega) (by omega) (by omega) (by omega)] at q; omega
  by_cases ex : ∃ s, s < (tl X Y n 4096).length ∧ inL X Y (tl X Y n 4096) s x y
  · obtain ⟨s, ⟨s1, s2⟩, s3⟩ := pk_least (fun s => s < (tl X Y n 4096).length ∧ inL X Y (tl X Y n 4096) s x y) ex
    have first : ∀ u, u < s → ¬ inL X Y (tl X Y n 4096) u x y := fun u hu q => s3 u hu ⟨by omega, q⟩
    have om := onm s s1 s2
    have uq : ∀ u, u < (tl X Y n 4096).length → inL X Y (tl X Y n 4096) u x y → (∀ v, v < u → ¬ inL X Y (tl X Y n 4096) v x y) → u = s := fun u hu q qf => by
      rcases Nat.lt_trichotomy u s with w | w | w
      · exact absurd q (first u w)
      · exact w
      · exact absurd s2 (qf s w)
    have T := (tl_get s1).2
    have c1 := T.2.2.1
    have b1 := T.2.1
    have a1 := T.1
    have hb := htT_b (Z := Z) T.2.2.2.1 (hS.2.1 _ (by omega)) (hS.2.1 _ (by omega)) (hS.2.1 _ c1) s2
    refine ⟨0, iI (htL X Y Z (tl X Y n 4096) s x y), by omega, ?_, ?_⟩
    · unfold wp_sc_at
      refine sc_onMap hx hy (fun _ => ⟨fun q => absurd q (by decide), fun _ => ?_⟩) (fun q => absurd om q)
      refine me_heightAt hS hC.2.1 om.1 om.2 (fun q => absurd s2 (q s s1)) (fun u hu q qf => ?_)
      rw [uq u hu q qf]
      unfold jn_sc_at_J25
      exact ⟨fun _ => ⟨rfl, rfl, hC⟩, fun k => absurd k (m1ne hb.1 hb.2)⟩
    · exact mo_at hM.1 hM.2.1 hx hy (fun q => absurd s2 (q s s1)) (fun u hu q qf h1 e f => by rw [uq u hu q qf]; exact ⟨e, fun _ => rfl, fm0 f⟩)
  · have no : ∀ s, s < (tl X Y n 4096).length → ¬ inL X Y (tl X Y n 4096) s x y := fun s hs q => ex ⟨s, hs, q⟩
    refine ⟨1, 0, by omega, ?_, mo_at hM.1 hM.2.1 hx hy (fun _ r h1 e f => ⟨e, fun q => absurd q (by decide), fm0 f⟩) (fun u hu q => absurd q (no u hu))⟩
    have x0 : xC [(3, 1)] 1 n X Y Z t 3 g := ⟨by decide, hC⟩
    unfold wp_sc_at
    refine sc_onMap hx hy (fun om => ⟨fun q => absurd q (by decide), fun _ => me_heightAt hS hC.2.1 om.1 om.2 (fun _ => ?_) (fun u hu q => absurd q (no u hu))⟩) (fun _ => ⟨fun _ => ?_, fun q => absurd rfl q⟩)
    · unfold jn_sc_at_J25
      exact ⟨fun q => absurd rfl q, fun _ => x0⟩
    · unfold jn_sc_at_J25
      exact ⟨fun q => absurd rfl q, fun _ => x0⟩
theorem op_labelOf {i w : Int} (hi : inr i) (hw : inr w) (hC : iC g n X Y Z t) (hM : iM h n X Y Z t) :
    ∃ (c : Nat) (r : Int32), c ≤ 2 ∧ wp_sc_labelOf (iI i) (iI w) g (pC c r n X Y Z t) (xC [(2, 1), (0, 2)] c n X Y Z t) ∧ wp_mo_labelOf (iI i) (iI w) h (pM c r n X Y Z t) := by
  have q20 := hC.2.2.2.1
  have le : inr (t.1 : Int) := ⟨by omega, by omega⟩
  have bad : ∀ {k : Nat}, (k = 1 ∨ k = 2) → jn_mo_labelOf_J31 (iI i) (iI w) (nI k) h (pM k 0 n X Y Z t) := fun {k} hk => by
    unfold jn_mo_labelOf_J31
    intro g1 e1
    have z1 : g1 0 0 = nI k := by rw [e1]; exact gp_s
    rw [z1]
    refine ⟨fun q => ?_, fun _ => ⟨z1, fun q => absurd q (by omega), by rw [e1]; exact hM.t0⟩⟩
    have q : nI k = nI 0 := q
    rw [nI_eq (by omega) (by omega)] at q; omega
  have e0 : iI w = 0 ↔ w = 0 := iI_eq (b := 0) hw.1 hw.2 (by omega) (by omega)
  have e1 : iI w = 1 ↔ w = 1 := iI_eq (b := 1) hw.1 hw.2 (by omega) (by omega)
  have e2 : iI w = 2 ↔ w = 2 := iI_eq (b := 2) hw.1 hw.2 (by omega) (by omega)
  by_cases num : 0 ≤ i ∧ i < t.1
  · obtain ⟨m, rfl⟩ := nat_of num.1
    have mt : m < t.1 := by omega
    obtain ⟨-, a1, a2, a3⟩ := hC.2.2.2.2.2 m mt
    obtain ⟨-, b1, b2, b3⟩ := hM.2.2.2 m mt
    have v20 := vp_in_nI (n := m) (N := 20) (by omega) (by omega)
    have v60 := vp_in_nI (n := m) (N := 60) (by omega) (by omega)
    by_cases ok : 0 ≤ w ∧ w ≤ 2
    · refine ⟨0, iI (if w = 0 then t.2.1 m else if w = 1 then t.2.2.1 m else t.2.2.2 m), by omega, ?_, ?_⟩
      · unfold wp_sc_labelOf wp_ta_size wp_ta_level wp_ta_x wp_ta_y
        try dsimp only
        rw [c_lt0 hi, hC.2.2.2.2.1, iIn t.1, c_lt _ hi le, e0, e1, e2, iI_nI, ix_nI (by omega), a1, a2, a3]
        refine ⟨fun q => absurd q (by omega), fun _ => ⟨fun _ => ⟨fun q => ⟨v20, rfl, ?_, hC⟩, fun q => ⟨v20, rfl, ?_, hC⟩, fun q => ⟨v20, rfl, ?_, hC⟩, fun p0 p1 p2 => absurd ok (by omega)⟩, fun q => absurd num.2 q⟩⟩
        · rw [if_pos q]
        · rw [if_neg (by omega), if_pos q]
        · rw [if_neg (by omega), if_neg (by omega)]
      · unfold wp_mo_labelOf jn_mo_labelOf_J13 jn_mo_labelOf_J26
        rw [c_lt0 hi, c_lt0 hw, hM.2.2.1, iIn t.1, c_lt _ hi le, show (2 : Int32) = iI 2 from rfl, c_le 2 hw ⟨by omega, by omega⟩]
        refine ⟨fun q => absurd q (by omega), fun _ => ⟨fun _ => ⟨fun q => absurd q (by omega), fun _ => ⟨fun _ => ?_, fun q => absurd ok.2 q⟩⟩, fun q => absurd num.2 q⟩⟩
        unfold jn_mo_labelOf_J31
        intro g1 e9
        have z1 : g1 0 0 = 0 := by rw [e9]; exact gp_s
        have w13 : g1 13 = h 13 := by rw [e9, gp_n (by decide)]
        have w14 : g1 14 = h 14 := by rw [e9, gp_n (by decide)]
        have w15 : g1 15 = h 15 := by rw [e9, gp_n (by decide)]
        have iM1 : iM g1 n X Y Z t := by rw [e9]; exact hM.t0
        rw [z1, e0, e1, iI_nI, ix_nI (by omega), w13, w14, w15, b1, b2, b3]
        refine ⟨fun _ => ⟨fun p0 => ⟨fun p1 => ⟨v60, z1, fun _ => ?_, iM1⟩, fun p1 => ⟨v60, z1, fun _ => ?_, iM1⟩⟩, fun p0 => ⟨v60, z1, fun _ => ?_, iM1⟩⟩, fun q => absurd rfl q⟩
        · rw [if_neg p0, if_neg p1]
        · rw [if_neg p0, if_pos p1]
        · rw [if_pos p0]
    · refine ⟨2, 0, by omega, ?_, ?_⟩
      · unfold wp_sc_labelOf wp_ta_size
        try dsimp only
        rw [c_lt0 hi, hC.2.2.2.2.1, iIn t.1, c_lt _ hi le, e0, e1, e2]
        exact ⟨fun q => absurd q (by omega), fun _ => ⟨fun _ => ⟨fun q => absurd q (by omega), fun q => absurd q (by omega), fun q => absurd q (by omega), fun _ _ _ => ⟨by decide, hC⟩⟩, fun q => absurd num.2 q⟩⟩
      · unfold wp_mo_labelOf jn_mo_labelOf_J13 jn_mo_labelOf_J26
        rw [c_lt0 hi, c_lt0 hw, hM.2.2.1, iIn t.1, c_lt _ hi le, show (2 : Int32) = iI 2 from rfl, c_le 2 hw ⟨by omega, by omega⟩]
        have b2 := bad (k := 2) (Or.inr rfl)
        rw [iIn 2] at b2
        exact ⟨fun q => absurd q (by omega), fun _ => ⟨fun _ => ⟨fun _ => b2, fun _ => ⟨fun q => absurd q (by omega), fun _ => b2⟩⟩, fun q => absurd num.2 q⟩⟩
  · refine ⟨1, 0, by omega, ?_, ?_⟩
    · have x0 : xC [(2, 1), (0, 2)] 1 n X Y Z t 2 g := ⟨by decide, hC⟩
      unfold wp_sc_labelOf wp_ta_size
      try dsimp only
      rw [c_lt0 hi, hC.2.2.2.2.1, iIn t.1, c_lt _ hi le]
      exact ⟨fun _ => x0, fun _ => ⟨fun q => absurd ⟨by omega, q⟩ num, fun _ => x0⟩⟩
    · unfold wp_mo_labelOf jn_mo_labelOf_J13
      have b1 := bad (k := 1) (Or.inl rfl)
      rw [c_lt0 hi, hM.2.2.1, iIn t.1, c_lt _ hi le]
      exact ⟨fun _ => b1, fun _ => ⟨fun q => absurd ⟨by omega, q⟩ num, fun _ => b1⟩⟩
end
