/-! A whole level traced by the class. -/
section
variable {g : St} {n : Nat} {X Y Z : Nat → Int} {l : Int}
theorem li_clear {post : St → Prop} (h : ∀ g', g' 3 5 = 0 → (∀ i, i < 256 → g' 14 i = 0) → fr [3, 14] g g' → post g') : wp_li_clear g post := by
  unfold wp_li_clear
  try dsimp only
  intro g1 e1
  have loop : ∀ m i (g2 : St), i + m = 256 → g2 3 5 = 0 → (∀ j, j < i → g2 14 j = 0) → fr [3, 14] g g2 → lp_li_clear_L7 (m + 1) (nI i) g2 (fun g3 => (post g3)) post := by
    intro m
    induction m with
    | zero =>
      intro i g2 hi h1 h2 h3
      unfold lp_li_clear_L7
      try dsimp only
      refine ⟨fun _ => h g2 h1 (fun j hj => h2 j (by omega)) h3, fun q => absurd ?_ q⟩
      rw [show (256 : Int32) = nI 256 from rfl, nI_leI (by omega) (by omega)]; omega
    | succ m ih =>
      intro i g2 hi h1 h2 h3
      unfold lp_li_clear_L7
      try dsimp only
      refine ⟨fun q => ?_, fun _ => ⟨vp_in_nI (by omega) (by omega), fun g4 e4 => ?_⟩⟩
      · rw [show (256 : Int32) = nI 256 from rfl, nI_leI (by omega) (by omega)] at q; omega
      · rw [ix_nI (by omega), vn_0] at e4
        rw [nI_1, e4]
        refine ih (i + 1) _ (by omega) (by rw [gp_n (by decide)]; exact h1) (fun j hj => ?_) (h3.gp (by decide))
        by_cases e : j = i
        · rw [e]; exact gp_s
        · rw [gp_o e]; exact h2 j (by omega)
  refine ⟨257, loop 256 0 g1 (by omega) (by rw [e1]; exact gp_s) (fun j hj => absurd hj (by omega)) (by rw [e1]; exact fr.rf.gp (by decide))⟩
theorem me_share {u v : Nat} {post : Int32 → St → Prop} (ho : ge_ok X Y n) (hM : mC X Y (tl X Y n 4096) g) (hu : u < 16) (hv : v < 16) (ne : u ≠ v)
    (h : post (nI ((if rr X Y n u v = none then 0 else 1) + (if rr X Y n v u = none then 0 else 1))) g) : wp_me_sharing (nI u) (nI v) g post := by
  have n16 := ho.1
  have z1 := on_m1 (o := rr X Y n u v) (fun y hy => by have := (rr_lt hy).2.2; omega)
  have z2 := on_m1 (o := rr X Y n v u) (fun y hy => by have := (rr_lt hy).2.2; omega)
  unfold wp_me_sharing
  try dsimp only
  refine ⟨fun _ => ?_, fun e => absurd ((nI_eq (by omega) (by omega)).mp e) ne⟩
  unfold wp_me_thirdRightOf
  try dsimp only
  rw [pk16, ix_nI (by omega), mC_rr ho hM hu hv]
  refine ⟨vp_in_nI (by omega) (by omega), fun k => ?_, fun k => ?_⟩ <;> (unfold jn_me_sharing_J22 wp_me_thirdRightOf; rw [pk16, ix_nI (by omega), mC_rr ho hM hv hu]; refine ⟨vp_in_nI (by omega) (by omega), fun k2 => ?_, fun k2 => ?_⟩)
  · rw [if_neg (fun e => k (z1.mpr e)), if_neg (fun e => k2 (z2.mpr e))] at h; exact h
  · rw [if_neg (fun e => k (z1.mpr e)), if_pos (z2.mp k2)] at h; exact h
  · rw [if_pos (z1.mp k), if_neg (fun e => k2 (z2.mpr e))] at h; exact h
  · rw [if_pos (z1.mp k), if_pos (z2.mp k2)] at h; exact h
theorem hc_h {e : Nat} (q : hi Z l (e / 16)) : hc Z l e = e := @if_pos _ (Classical.propDecidable _) q _ _ _
theorem hc_l {e : Nat} (q : ¬ hi Z l (e / 16)) : hc Z l e = 16 * (e % 16) + e / 16 := @if_neg _ (Classical.propDecidable _) q _ _ _
/-- THE LEVEL TRACED -/
theorem li_trace {lv : Int} {post : St → Prop} (hS : sC g n X Y Z) (hM : mC X Y (tl X Y n 4096) g) (h12 : g 12 0 = 0) (hl0 : 0 ≤ lv) (hl1 : lv ≤ 998)
    (h : ∀ g', lC (ct X Y Z n lv 256) g' → hC Z n lv g' → fr [3, 10, 11, 12, 13, 14] g g' → post g') : wp_li_trace (iI lv) g post := by
  have ho := hS.1
  have n16 := ho.1
  have inS : ∀ g', fr [3, 10, 11, 12, 13, 14] g g' → sC g' n X Y Z := fun g' f => hS.fr f (by decide) (by decide) (by decide) (by decide)
  have inM : ∀ g', fr [3, 10, 11, 12, 13, 14] g g' → mC X Y (tl X Y n 4096) g' := fun g' f => by
    obtain ⟨m1, m2, m3, m4⟩ := hM
    refine ⟨?_, ?_, ?_, ?_⟩
    · rw [f 2 (by decide)]; exact m1
    · rw [f 8 (by decide)]; exact m2
    · rw [f 9 (by decide)]; exact m3
    · rw [f 9 (by decide)]; exact m4
  unfold wp_li_trace
  try dsimp only
  refine li_clear (fun g1 c1 c2 f1 => ?_)
  -- the loop over u and v
  have L62 : ∀ (u : Nat) (K : Int32 → St → Prop), u < n → (∀ g', lC (ct X Y Z n lv (16 * u + n)) g' → hC Z n lv g' → fr [3, 10, 11, 12, 13, 14] g g' → K (nI u) g') →
      ∀ m v (g2 : St), v + m = n → u < v → lC (ct X Y Z n lv (16 * u + v)) g2 → hC Z n lv g2 → fr [3, 10, 11, 12, 13, 14] g g2 → lp_li_trace_L62 (m + 1) (nI u) (nI v) g2 K post := by
    intro u K hu hK m
    induction m with
    | zero =>
      intro v g2 hv huv hl hh f2
      have S2 := inS g2 f2
      unfold lp_li_trace_L62 wp_sp_size
      try dsimp only
      rw [S2.2.2.1]
      have : v = n := by omega
      subst this
      exact ⟨fun _ => hK g2 hl hh f2, fun q => absurd ((nI_leI (by omega) (by omega)).mpr (Nat.le_refl _)) q⟩
    | succ m ih =>
      intro v g2 hv huv hl hh f2
      have S2 := inS g2 f2
      have M2 := inM g2 f2
      have hvn : v < n := by omega
      have d1 : (16 * u + v) / 16 = u := by omega
      have d2 : (16 * u + v) % 16 = v := by omega
      have go : ∀ g3, ct X Y Z n lv (16 * u + v + 1) = ct X Y Z n lv (16 * u + v + 1) → lC (ct X Y Z n lv (16 * u + v + 1)) g3 → hC Z n lv g3 → fr [3, 10, 11, 12, 13, 14] g g3 → lp_li_trace_L62 (m + 1) (nI u) (nI v + 1) g3 K post := fun g3 _ a b c => by
        rw [nI_1]
        refine ih (v + 1) g3 (by omega) (by omega) ?_ b c
        rw [← Nat.add_assoc]; exact a
      unfold lp_li_trace_L62 wp_sp_size
      try dsimp only
      rw [S2.2.2.1, ix_nI (by omega), ix_nI (by omega)]
      refine ⟨fun q => absurd ((nI_leI (by omega) (by omega)).mp q) (by omega), fun _ => ⟨S2.v16 hu, S2.v16 hvn, fun e => ?_, fun e => ?_⟩⟩
      · -- both high or both low
        have no : ¬ cS X Y Z n lv (hc Z lv (16 * u + v)) := fun c => by
          by_cases q : hi Z lv u
          · have q' : hi Z lv v := Classical.byContradiction fun w => by rw [(hh u hu).1 q, (hh v hvn).2 w] at e; exact absurd e (by decide)
            rw [hc_h (by rw [d1]; exact q)] at c
            exact c.1.2 (by rw [d2]; exact q')
          · have q' : ¬ hi Z lv v := fun w => by rw [(hh u hu).2 q, (hh v hvn).1 w] at e; exact absurd e (by decide)
            rw [hc_l (by rw [d1]; exact q), d1, d2] at c
            exact q' (by have := c.1.1; rw [show (16 * v + u) / 16 = v by omega] at this; exact this)
        refine go g2 rfl ?_ hh f2
        rw [ct_s0 (fun q => no q.2.1)]; exact hl
      · refine me_share ho M2 (by omega) (by omega) (by omega) ?_
        by_cases sh : rr X Y n u v = none ∧ rr X Y n v u = none
        · rw [if_pos sh.1, if_pos sh.2]
          refine ⟨fun _ => ?_, fun q => absurd (by decide) q⟩
          have no : ¬ cS X Y Z n lv (hc Z lv (16 * u + v)) := fun c => by
            by_cases q : hi Z lv u
            · rw [hc_h (by rw [d1]; exact q)] at c
              have := c.2
              rw [d1, d2, sh.1, sh.2] at this
              rcases this with ⟨r, w⟩ | ⟨r, w⟩ <;> cases w
            · rw [hc_l (by rw [d1]; exact q), d1, d2] at c
              have := c.2
              rw [show (16 * v + u) / 16 = v by omega, show (16 * v + u) % 16 = u by omega, sh.1, sh.2] at this
              rcases this with ⟨r, w⟩ | ⟨r, w⟩ <;> cases w
          refine go g2 rfl ?_ hh f2
          rw [ct_s0 (fun q => no q.2.1)]; exact hl
        · have pos : ¬ (nI ((if rr X Y n u v = none then 0 else 1) + (if rr X Y n v u = none then 0 else 1)) ≤ (0 : Int32)) := by
            by_cases a : rr X Y n u v = none <;> by_cases b : rr X Y n v u = none
            · exact absurd ⟨a, b⟩ sh
            · rw [if_pos a, if_neg b]; decide
            · rw [if_neg a, if_pos b]; decide
            · rw [if_neg a, if_neg b]; decide
          have ex : (∃ r, rr X Y n u v = some r) ∨ ∃ r, rr X Y n v u = some r := by
            cases a : rr X Y n u v with
            | some r => exact Or.inl ⟨r, rfl⟩
            | none =>
              cases b : rr X Y n v u with
              | some r => exact Or.inr ⟨r, rfl⟩
              | none => exact absurd ⟨a, b⟩ sh
          refine ⟨fun q => absurd q pos, fun _ => ⟨S2.v16 hu, fun q => ?_, fun q => ?_⟩⟩
          · have nu : ¬ hi Z lv u := fun w => by rw [(hh u hu).1 w] at q; exact absurd q (by decide)
            have hv' : hi Z lv v := Classical.byContradiction fun w => e (by rw [(hh u hu).2 nu, (hh v hvn).2 w])
            have ec : hc Z lv (16 * u + v) = 16 * v + u := by rw [hc_l (by rw [d1]; exact nu), d1, d2]
            have cs : cS X Y Z n lv (16 * v + u) := by
              refine ⟨?_, ?_⟩
              · rw [show (16 * v + u) / 16 = v by omega, show (16 * v + u) % 16 = u by omega]; exact ⟨hv', nu⟩
              · rw [show (16 * v + u) / 16 = v by omega, show (16 * v + u) % 16 = u by omega]; exact ex.symm
            rw [pk16]
            refine li_from ho M2 hh (ct_all ho _) hl cs (fun t => go g2 rfl ?_ hh f2) (fun nt g3 l3 f3 => go g3 rfl ?_ ?_ (f2.tr (f3.mono (by decide))))
            · rw [ct_s0 (fun q => q.2.2 (by rw [ec]; exact t))]; exact hl
            · rw [ct_s1 ⟨by omega, by rw [ec]; exact cs, by rw [ec]; exact nt⟩, ec]; exact l3
            · intro s hs; rw [f3 10 (by decide)]; exact hh s hs
          · have hu' : hi Z lv u := Classical.byContradiction fun w => q ((hh u hu).2 w)
            have nv : ¬ hi Z lv v := fun w => e (by rw [(hh u hu).1 hu', (hh v hvn).1 w])
            have ec : hc Z lv (16 * u + v) = 16 * u + v := hc_h (by rw [d1]; exact hu')
            have cs : cS X Y Z n lv (16 * u + v) := by
              refine ⟨?_, ?_⟩
              · rw [d1, d2]; exact ⟨hu', nv⟩
              · rw [d1, d2]; exact ex
            rw [pk16]
            refine li_from ho M2 hh (ct_all ho _) hl cs (fun t => go g2 rfl ?_ hh f2) (fun nt g3 l3 f3 => go g3 rfl ?_ ?_ (f2.tr (f3.mono (by decide))))
            · rw [ct_s0 (fun q => q.2.2 (by rw [ec]; exact t))]; exact hl
            · rw [ct_s1 ⟨by omega, by rw [ec]; exact cs, by rw [ec]; exact nt⟩, ec]; exact l3
            · intro s hs; rw [f3 10 (by decide)]; exact hh s hs
  have hcn : ∀ x, cS X Y Z n lv (hc Z lv x) → x / 16 < x % 16 → x / 16 < n ∧ x % 16 < n := fun x c xl => by
    obtain ⟨b1, b2, b3, b4⟩ := cS_lt ho c
    by_cases q : hi Z lv (x / 16)
    · rw [hc_h q] at b2 b3; omega
    · rw [hc_l q] at b2 b3
      have e1 : (16 * (x % 16) + x / 16) / 16 = x % 16 ∨ 16 ≤ x / 16 := by omega
      rcases e1 with e1 | e1
      · rw [hc_l q] at b1; omega
      · omega
  have L47 : ∀ m u (g2 : St), u + m = n → lC (ct X Y Z n lv (16 * u)) g2 → hC Z n lv g2 → fr [3, 10, 11, 12, 13, 14] g g2 → lp_li_trace_L47 (m + 1) (nI u) g2 (fun g19 => (post g19)) post := by
    intro m
    induction m with
    | zero =>
      intro u g2 hu hl hh f2
      have S2 := inS g2 f2
      unfold lp_li_trace_L47 wp_sp_size
      try dsimp only
      rw [S2.2.2.1]
      have : u = n := by omega
      subst this
      refine ⟨fun _ => h g2 ?_ hh f2, fun q => absurd ((nI_leI (by omega) (by omega)).mpr (Nat.le_refl _)) q⟩
      rw [ct_skip (e := 16 * u) (e' := 256) (by omega) (fun x x1 x2 t => by have := hcn x t.2 t.1; omega)]
      exact hl
    | succ m ih =>
      intro u g2 hu hl hh f2
      have S2 := inS g2 f2
      unfold lp_li_trace_L47 wp_sp_size
      try dsimp only
      rw [S2.2.2.1]
      refine ⟨fun q => absurd ((nI_leI (by omega) (by omega)).mp q) (by omega), fun _ => ⟨(n - (u + 1)) + 1, ?_⟩⟩
      rw [nI_1]
      refine L62 u _ (by omega) (fun g3 l3 h3 f3 => ?_) (n - (u + 1)) (u + 1) g2 (by omega) (by omega) ?_ hh f2
      · rw [nI_1]
        refine ih (u + 1) g3 (by omega) ?_ h3 f3
        rw [ct_skip (e := 16 * u + n) (e' := 16 * (u + 1)) (by omega) (fun x x1 x2 t => by have := hcn x t.2 t.1; omega)]
        exact l3
      · rw [ct_skip (e := 16 * u) (e' := 16 * u + (u + 1)) (by omega) (fun x x1 x2 t => by have := t.1; omega)]
        exact hl
  -- high and low
  have L7 : ∀ m i (g2 : St), i + m = n → g2 3 5 = 0 → (∀ j, j < 256 → g2 14 j = 0) → (∀ s, s < i → (hi Z lv s → g2 10 s = 1) ∧ (¬ hi Z lv s → g2 10 s = 0)) → fr [3, 10, 14] g g2 →
      lp_li_trace_L7 (m + 1) (iI lv) (nI i) g2 (fun g8 => (∃ k47, lp_li_trace_L47 k47 0 g8 (fun g19 => (post g19)) post)) post := by
    intro m
    induction m with
    | zero =>
      intro i g2 hi' a1 a2 a3 f2
      have F2 : fr [3, 10, 11, 12, 13, 14] g g2 := f2.mono (by decide)
      have S2 := inS g2 F2
      have ei : i = n := by omega
      subst ei
      unfold lp_li_trace_L7 wp_sp_size
      try dsimp only
      rw [S2.2.2.1]
      refine ⟨fun _ => ⟨i + 1, L47 i 0 g2 (by omega) ?_ a3 F2⟩, fun q => absurd ((nI_leI (by omega) (by omega)).mpr (Nat.le_refl _)) q⟩
      refine ⟨a1, fun k hk => ?_, fun j hj => absurd hj (Nat.not_lt_zero _), fun k hk => absurd hk (Nat.not_lt_zero _), fun x hx => ⟨fun ⟨j, j1, _⟩ => absurd j1 (Nat.not_lt_zero _), fun _ => a2 x hx⟩⟩
      have hk : k ≤ 0 := hk
      rw [show k = 0 by omega, f2 12 (by decide)]; exact h12
    | succ m ih =>
      intro i g2 hi' a1 a2 a3 f2
      have F2 : fr [3, 10, 11, 12, 13, 14] g g2 := f2.mono (by decide)
      have S2 := inS g2 F2
      have hin : i < n := by omega
      obtain ⟨-, -, e3⟩ := S2.2.2.2 i hin
      have zb := S2.2.1 i hin
      have put : ∀ b : Int32, ((b = 1 ∧ hi Z lv i) ∨ (b = 0 ∧ ¬ hi Z lv i)) → ∀ g6 : St, g6 = gp g2 10 i b → lp_li_trace_L7 (m + 1) (iI lv) (nI i + 1) g6 (fun g8 => (∃ k47, lp_li_trace_L47 k47 0 g8 (fun g19 => (post g19)) post)) post := fun b hb g6 e6 => by
        rw [nI_1, e6]
        refine ih (i + 1) _ (by omega) (by rw [gp_n (by decide)]; exact a1) (by rw [gp_n (by decide)]; exact a2) (fun s hs => ?_) (f2.gp (by decide))
        by_cases e : s = i
        · rw [e, gp_s]
          rcases hb with ⟨rfl, w⟩ | ⟨rfl, w⟩
          · exact ⟨fun _ => rfl, fun u => absurd w u⟩
          · exact ⟨fun u => absurd u w, fun _ => rfl⟩
        · rw [gp_o e]; exact a3 s (by omega)
      unfold lp_li_trace_L7 wp_sp_size wp_sp_height
      try dsimp only
      rw [S2.2.2.1, ix_nI (by omega), e3]
      have z : (iI (Z i) ≤ iI lv) ↔ ¬ hi Z lv i := by
        rw [iI_le (by omega) (by omega) (by omega) (by omega)]
        unfold hi
        omega
      refine ⟨fun q => absurd ((nI_leI (by omega) (by omega)).mp q) (by omega), fun _ => ⟨S2.v16 hin, fun q => ⟨S2.v16 hin, fun g6 e6 => put 0 (Or.inr ⟨rfl, z.mp q⟩) g6 (by rw [e6, vn_0])⟩, fun q => ⟨S2.v16 hin, fun g6 e6 => put 1 (Or.inl ⟨rfl, Classical.byContradiction fun w => q (z.mpr w)⟩) g6 (by rw [e6, vn_1])⟩⟩⟩
  exact ⟨n + 1, L7 n 0 g1 (by omega) c1 c2 (fun s hs => absurd hs (by omega)) (f1.mono (by decide))⟩
end
