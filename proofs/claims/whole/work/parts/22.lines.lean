/-! The class traces a level. -/
def on (o : Option Nat) : Int32 := match o with
  | none => -1
  | some y => nI y
theorem on_m1 {o : Option Nat} (h : ∀ y, o = some y → y < 1000) : on o = -1 ↔ o = none := by
  cases o with
  | none => exact ⟨fun _ => rfl, fun _ => rfl⟩
  | some y =>
    refine ⟨fun e => ?_, fun e => by cases e⟩
    have hy := h y rfl
    have e : nI y = -1 := e
    have : (nI y).toInt = (-1 : Int32).toInt := by rw [e]
    rw [nI_toInt (by omega)] at this
    have h2 : (-1 : Int32).toInt = -1 := by decide
    rw [h2] at this
    omega
theorem srt {p q r : Nat} (h1 : p ≠ q) (h2 : p ≠ r) (h3 : q ≠ r) : ∃ a b c, a < b ∧ b < c ∧ ge_pm a b c p q r ∧ ge_pm p q r a b c := by
  unfold ge_pm
  rcases Nat.lt_or_gt_of_ne h1 with l1 | l1 <;> rcases Nat.lt_or_gt_of_ne h2 with l2 | l2 <;> rcases Nat.lt_or_gt_of_ne h3 with l3 | l3
  · exact ⟨p, q, r, l1, l3, by simp, by simp⟩
  · exact ⟨p, r, q, l2, l3, by simp, by simp⟩
  · omega
  · exact ⟨r, p, q, l2, l1, by simp, by simp⟩
  · exact ⟨q, p, r, l1, l2, by simp, by simp⟩
  · omega
  · exact ⟨q, r, p, l3, l2, by simp, by simp⟩
  · exact ⟨r, q, p, l3, l1, by simp, by simp⟩
theorem rt_R {X Y : Nat → Int} {n : Nat} (ho : ge_ok X Y n) {p q r : Nat} : rt X Y (tl X Y n 4096) p q r ↔ ge_R X Y n p q r := by
  constructor
  · intro h; exact ⟨rt_T ho h, h.1⟩
  · rintro ⟨t, s⟩
    have n16 := ho.1
    obtain ⟨e1, e2, e3⟩ := ge_t_ne t.2.2.2.1
    obtain ⟨a, b, c, h1, h2, h3, h4⟩ := srt e1 e2 e3
    have T := ge_pm_T t h4
    have tr := ge_tri_of ho T h1 h2
    have := tr.2.2.1
    have k1 : (256 * a + 16 * b + c) / 256 = a := by omega
    have k2 : (256 * a + 16 * b + c) / 16 % 16 = b := by omega
    have k3 : (256 * a + 16 * b + c) % 16 = c := by omega
    exact ⟨s, 256 * a + 16 * b + c, tl_mem.mpr ⟨by omega, by rw [k1, k2, k3]; exact tr⟩, by rw [k1, k2, k3]; exact h3⟩
theorem mC_rr {X Y : Nat → Int} {n : Nat} {g : St} (ho : ge_ok X Y n) (h : mC X Y (tl X Y n 4096) g) {p q : Nat} (hp : p < 16) (hq : q < 16) : g 9 (16 * p + q) = on (rr X Y n p q) := by
  cases e : rr X Y n p q with
  | none => exact h.2.2.2 p q hp hq (fun r k => rr_none.mp e r ((rt_R ho).mp k))
  | some r => exact h.2.2.1 p q r ((rt_R ho).mpr (rr_some.mp e))
/-- high and low, as the class holds them -/
def hC (Z : Nat → Int) (n : Nat) (l : Int) (g : St) : Prop := ∀ s, s < n → (hi Z l s → g 10 s = 1) ∧ (¬ hi Z l s → g 10 s = 0)
def lC (s : Ct) (g : St) : Prop := g 3 5 = nI s.1 ∧ (∀ k, k ≤ s.1 → g 12 k = nI (s.2.1 k)) ∧ (∀ i, i < s.2.1 s.1 → g 11 i = nI (s.2.2.1 i)) ∧ (∀ k, k < s.1 → (s.2.2.2 k → g 13 k = 1) ∧ (¬ s.2.2.2 k → g 13 k = 0)) ∧
  ∀ x, x < 256 → (ct_T s x → g 14 x = 1) ∧ (¬ ct_T s x → g 14 x = 0)
theorem pk_16d {x : Nat} (h : x < 1000) : nI x / 16 = nI (x / 16) := by
  rw [show (16 : Int32) = nI 16 from rfl, pk_div (by omega) (by omega) (by omega)]
theorem pk_16r {x : Nat} (h : x < 1000) : nI x - nI x / 16 * 16 = nI (x % 16) := by
  rw [show (16 : Int32) = nI 16 from rfl, pk_rem (by omega) (by omega) (by omega)]
section
variable {g : St} {n : Nat} {X Y Z : Nat → Int} {l : Int}
theorem li_other {h w : Nat} {o : Option Nat} {post : Int32 → St → Prop} (ho : ge_ok X Y n) (hH : hC Z n l g) (hh : h < 16) (hw : w < 16) (hr : ∀ r, o = some r → r < n) (hp : post (on (o.map (oth Z l h w))) g) : wp_li_otherPair (nI h) (nI w) (on o) g post := by
  have n16 := ho.1
  unfold wp_li_otherPair
  try dsimp only
  have z := on_m1 (o := o) (fun y hy => by have := hr y hy; omega)
  cases o with
  | none => exact ⟨fun k => absurd rfl k, fun _ => hp⟩
  | some r =>
    have rn := hr r rfl
    refine ⟨fun _ => ⟨vp_in_nI (by omega) (by omega), ?_⟩, fun k => by have := z.mp k; cases this⟩
    show ((g 10 (ix (nI r))) = 0 → _) ∧ (¬ ((g 10 (ix (nI r))) = 0) → _)
    rw [ix_nI (by omega)]
    by_cases q : hi Z l r
    · have e := (hH r rn).1 q
      rw [e]
      refine ⟨fun k => absurd k (by decide), fun _ => ?_⟩
      show post (16 * nI r + nI w) g
      rw [pk16, ← oth_h q]; exact hp
    · have e := (hH r rn).2 q
      rw [e]
      refine ⟨fun _ => ?_, fun k => absurd rfl k⟩
      show post (16 * nI h + nI r) g
      rw [pk16, ← oth_l q]; exact hp
theorem li_behind {x : Nat} {post : Int32 → St → Prop} (ho : ge_ok X Y n) (hM : mC X Y (tl X Y n 4096) g) (hH : hC Z n l g) (hx : cS X Y Z n l x) (hp : post (on (cN X Y Z n l x)) g) : wp_li_behind (nI x) g post := by
  obtain ⟨x1, x2, x3, -⟩ := cS_lt ho hx
  have n16 := ho.1
  unfold wp_li_behind wp_sc_highOf wp_sc_lowOf wp_me_thirdRightOf
  try dsimp only
  rw [pk_16r (by omega), pk_16d (by omega), pk16, ix_nI (by omega), mC_rr ho hM (by omega) (by omega)]
  refine ⟨vp_in_nI (by omega) (by omega), ?_⟩
  rw [cN_eq hx.1] at hp
  exact li_other ho hH (by omega) (by omega) (fun r hr => (rr_lt hr).2.2) hp
theorem li_before {x : Nat} {post : Int32 → St → Prop} (ho : ge_ok X Y n) (hM : mC X Y (tl X Y n 4096) g) (hH : hC Z n l g) (hx : cS X Y Z n l x) (hp : post (on (cB X Y Z n l x)) g) : wp_li_before (nI x) g post := by
  obtain ⟨x1, x2, x3, -⟩ := cS_lt ho hx
  have n16 := ho.1
  unfold wp_li_before wp_sc_highOf wp_sc_lowOf wp_me_thirdRightOf
  try dsimp only
  rw [pk_16r (by omega), pk_16d (by omega), pk16, ix_nI (by omega), mC_rr ho hM (by omega) (by omega)]
  refine ⟨vp_in_nI (by omega) (by omega), ?_⟩
  rw [cB_eq hx.1] at hp
  exact li_other ho hH (by omega) (by omega) (fun r hr => (rr_lt hr).2.2) hp
theorem li_begin {x : Nat} {post : Int32 → St → Prop} (ho : ge_ok X Y n) (hM : mC X Y (tl X Y n 4096) g) (hH : hC Z n l g) (hx : cS X Y Z n l x) (hp : post (nI (bg X Y Z n l x)) g) : wp_li_beginning (nI x) g post := by
  obtain ⟨k, k120, hk⟩ := cB_is ho hx
  have hb := bg_ok ho hx
  have x1 := (cS_lt ho hx).1
  unfold wp_li_beginning
  try dsimp only
  have loop : ∀ m i y, i + m = k → cr_w (cB X Y Z n l) i x = some y → lp_li_beginning_L5 (m + 1) (nI x) (nI y) (nI i) g (fun w4 g3 => (post w4 g3)) post := by
    intro m
    induction m with
    | zero =>
      intro i y hi hy
      have : i = k := by omega
      subst this
      have ys : cS X Y Z n l y := cr_w_S (fun _ _ q => cB_S ho q) i hx hy
      have y1 := (cS_lt ho ys).1
      unfold lp_li_beginning_L5
      try dsimp only
      refine ⟨fun q => ?_, fun _ => ?_⟩
      · rw [show (120 : Int32) = nI 120 from rfl, nI_leI (by omega) (by omega)] at q; omega
      · refine li_before ho hM hH ys ?_
        obtain ⟨⟨y', e1, e2⟩, -⟩ := id hk
        rw [hy] at e1
        cases e1
        rcases e2 with e2 | e2
        · rw [e2]
          have : bg X Y Z n l x = y := cr_beg_u hb ⟨i, hk, Or.inl ⟨y, hy, e2, rfl⟩⟩
          rw [this] at hp
          exact ⟨fun q => absurd rfl q, fun _ => hp⟩
        · rw [e2]
          have : bg X Y Z n l x = x := cr_beg_u hb ⟨i, hk, Or.inr ⟨y, hy, e2, rfl⟩⟩
          rw [this] at hp
          refine ⟨fun _ => ⟨fun q => absurd rfl q, fun _ => hp⟩, fun q => ?_⟩
          have := (on_m1 (o := some x) (fun z hz => by cases hz; omega)).mp q
          cases this
    | succ m ih =>
      intro i y hi hy
      have ys : cS X Y Z n l y := cr_w_S (fun _ _ q => cB_S ho q) i hx hy
      have y1 := (cS_lt ho ys).1
      unfold lp_li_beginning_L5
      try dsimp only
      refine ⟨fun q => ?_, fun _ => ?_⟩
      · rw [show (120 : Int32) = nI 120 from rfl, nI_leI (by omega) (by omega)] at q; omega
      · refine li_before ho hM hH ys ?_
        obtain ⟨⟨ye, e1, -⟩, nb⟩ := id hk
        rw [show k = (i + 1) + m by omega] at e1
        obtain ⟨z, hz⟩ := cr_w_le _ _ e1
        have hz' : cB X Y Z n l y = some z := by rw [cr_w_s hy] at hz; exact hz
        have zs := cB_S ho hz'
        have z1 := (cS_lt ho zs).1
        rw [hz']
        refine ⟨fun _ => ⟨fun _ => ?_, fun q => ?_⟩, fun q => ?_⟩
        · rw [nI_1]; exact ih (i + 1) z (by omega) hz
        · have : z = x := (nI_eq (by omega) (by omega)).mp q
          rw [this] at hz
          exact absurd hz (nb (i + 1) (by omega) (by omega))
        · have := (on_m1 (o := some z) (fun w hw => by cases hw; omega)).mp q
          cases this
  exact ⟨k + 1, loop k 0 x (by omega) rfl⟩
/-- one contour more, or none if it is there already -/
theorem li_from {s : Ct} {x : Nat} {post : St → Prop} (ho : ge_ok X Y n) (hM : mC X Y (tl X Y n 4096) g) (hH : hC Z n l g) (hs : ct_ok X Y Z n l s) (hl : lC s g) (hx : cS X Y Z n l x)
    (h1 : ct_T s x → post g) (h2 : ¬ ct_T s x → ∀ g', lC (ct_add X Y Z n l s x) g' → fr [3, 11, 12, 13, 14] g g' → post g') : wp_li_traceFrom (nI x) g post := by
  have x1 := (cS_lt ho hx).1
  obtain ⟨c1, c2⟩ := ct_120 ho hs
  obtain ⟨q1, q2, q3, q4, q5⟩ := id hl
  unfold wp_li_traceFrom
  try dsimp only
  rw [ix_nI (by omega)]
  refine ⟨vp_in_nI (by omega) (by omega), fun k => ?_, fun k => ?_⟩
  · exact h1 (Classical.byContradiction fun nt => k ((q5 x x1).2 nt))
  · have nt : ¬ ct_T s x := fun t => by rw [(q5 x x1).1 t] at k; exact absurd k (by decide)
    obtain ⟨aok, aT⟩ := ct_add_ok ho hs hx nt
    obtain ⟨a1, a2⟩ := ct_120 ho aok
    obtain ⟨c, O, F, G⟩ := s
    have e1 : (ct_add X Y Z n l (c, O, F, G) x).1 = c + 1 := rfl
    have eO1 : (ct_add X Y Z n l (c, O, F, G) x).2.1 (c + 1) = O c + (ln X Y Z n l x + 1) := if_pos rfl
    rw [e1, eO1] at a1 a2
    try dsimp only at q1 q2 q3 q4 q5 c1 c2
    have hb := bg_ok ho hx
    have hm := ln_ok ho hx
    have fS := bg_S ho hx
    have f1 := (cS_lt ho fS).1
    have out : ¬ ct_T (c, O, F, G) (bg X Y Z n l x) := cr_beg_out (c_inv ho) hs.2.2.2.2 nt hb
    generalize hm9 : ln X Y Z n l x = m at *
    generalize hf9 : bg X Y Z n l x = f at *
    have outw : ∀ j y, cr_w (cN X Y Z n l) j f = some y → ¬ ct_T (c, O, F, G) y := fun j y e q => out ((cr_cl_w hs.2.2.2.2 j e).mpr q)
    rw [q1]
    have c120 : nI c < 120 := by rw [show (120 : Int32) = nI 120 from rfl, nI_ltI (by omega) (by omega)]; omega
    refine ⟨fun _ => ?_, fun k => absurd c120 k⟩
    refine li_begin ho hM hH hx ?_
    rw [hf9]
    refine li_before ho hM hH fS ?_
    -- behind the ring's flag
    have J : ∀ b : Int32, ((b = 1 ∧ cB X Y Z n l f ≠ none) ∨ (b = 0 ∧ cB X Y Z n l f = none)) → jn_li_traceFrom_J49 (nI f) (nI c) b g post := by
      intro b hbb
      unfold jn_li_traceFrom_J49
      try dsimp only
      rw [ix_nI (by omega)]
      refine ⟨vp_in_nI (by omega) (by omega), fun g5 e5 => ?_⟩
      have vb : vp_nar .boolean b = b := by rcases hbb with ⟨rfl, -⟩ | ⟨rfl, -⟩; exact vn_1; exact vn_0
      rw [vb] at e5
      have g5c : g5 3 5 = nI c := by rw [e5, gp_n (by decide)]; exact q1
      have g5O : g5 12 c = nI (O c) := by rw [e5, gp_n (by decide)]; exact q2 c (Nat.le_refl _)
      rw [g5c, ix_nI (by omega), g5O]
      refine ⟨vp_in_nI (by omega) (by omega), ?_⟩
      -- the end
      have fin : ∀ g10 : St, (∀ k, k ≠ 11 → k ≠ 14 → g10 k = g5 k) → (∀ i, i < O c → g10 11 i = g 11 i) → (∀ j y, j ≤ m → cr_w (cN X Y Z n l) j f = some y → g10 11 (O c + j) = nI y) →
          (∀ z, z < 256 → (∃ j, j ≤ m ∧ cr_w (cN X Y Z n l) j f = some z) → g10 14 z = 1) → (∀ z, z < 256 → (¬ ∃ j, j ≤ m ∧ cr_w (cN X Y Z n l) j f = some z) → g10 14 z = g 14 z) → jn_li_traceFrom_J120 (nI (O c + (m + 1))) g10 post := by
        intro g10 k1 k2 k3 k4 k5
        unfold jn_li_traceFrom_J120
        try dsimp only
        intro g12 e12
        have e123 : g12 3 5 = nI (c + 1) := by rw [e12, gp_s, k1 3 (by decide) (by decide), g5c, nI_1]
        rw [e123, ix_nI (by omega)]
        refine ⟨vp_in_nI (by omega) (by omega), fun g13 e13 => ?_⟩
        refine h2 nt g13 ⟨?_, fun k hk => ?_, fun i hi => ?_, fun k hk => ?_, fun z hz => ?_⟩ (fun k hk => ?_)
        · rw [e13, gp_n (by decide), e123]; rfl
        · rw [e1] at hk
          by_cases e : k = c + 1
          · rw [e, eO1, e13]; exact gp_s
          · have : (ct_add X Y Z n l (c, O, F, G) x).2.1 k = O k := if_neg e
            rw [this, e13, gp_o e, e12, gp_n (by decide), k1 12 (by decide) (by decide), e5, gp_n (by decide)]
            exact q2 k (by omega)
        · rw [e1, eO1] at hi
          rw [e13, gp_n (by decide), e12, gp_n (by decide)]
          rcases Nat.lt_or_ge i (O c) with q | q
          · have : (ct_add X Y Z n l (c, O, F, G) x).2.2.1 i = F i := if_pos q
            rw [this, k2 i q]; exact q3 i q
          · obtain ⟨j, rfl⟩ : ∃ j, i = O c + j := ⟨i - O c, by omega⟩
            have : (ct_add X Y Z n l (c, O, F, G) x).2.2.1 (O c + j) = (cr_w (cN X Y Z n l) ((O c + j) - O c) (bg X Y Z n l x)).getD 0 := if_neg (show ¬ (O c + j < O c) by omega)
            obtain ⟨⟨ye, y1, -⟩, -⟩ := id hm
            rw [show m = j + (m - j) by omega] at y1
            obtain ⟨y, hy⟩ := cr_w_le _ _ y1
            rw [this, hf9, Nat.add_sub_cancel_left, hy, k3 j y (by omega) hy]; rfl
        · rw [e1] at hk
          rw [e13, gp_n (by decide), e12, gp_n (by decide), k1 13 (by decide) (by decide), e5]
          by_cases e : k = c
          · have : (ct_add X Y Z n l (c, O, F, G) x).2.2.2 k = (cB X Y Z n l (bg X Y Z n l x) ≠ none) := if_pos e
            rw [this, hf9, e, gp_s]
            rcases hbb with ⟨rfl, w⟩ | ⟨rfl, w⟩
            · exact ⟨fun _ => rfl, fun u => absurd w u⟩
            · exact ⟨fun u => absurd w u, fun _ => rfl⟩
          · have : (ct_add X Y Z n l (c, O, F, G) x).2.2.2 k = G k := if_neg e
            rw [this, gp_o e]
            exact q4 k (by omega)
        · rw [aT z, e13, gp_n (by decide), e12, gp_n (by decide)]
          constructor
          · rintro (t | t)
            · by_cases w : ∃ j, j ≤ m ∧ cr_w (cN X Y Z n l) j f = some z
              · exact k4 z hz w
              · rw [k5 z hz w]; exact (q5 z hz).1 t
            · exact k4 z hz t
          · intro w
            rw [k5 z hz (fun u => w (Or.inr u))]
            exact (q5 z hz).2 (fun u => w (Or.inl u))
        · simp only [List.mem_cons, List.not_mem_nil, or_false, not_or] at hk
          rw [e13, gp_n hk.2.2.1, e12, gp_n hk.1, k1 k hk.2.1 hk.2.2.2.2, e5, gp_n hk.2.2.2.1]
      have loop : ∀ d j (g6 : St), j + d = m + 1 → (∀ k, k ≠ 11 → k ≠ 14 → g6 k = g5 k) → (∀ i, i < O c → g6 11 i = g 11 i) → (∀ j' y, j' < j → cr_w (cN X Y Z n l) j' f = some y → g6 11 (O c + j') = nI y) →
          (∀ z, z < 256 → (∃ j', j' < j ∧ cr_w (cN X Y Z n l) j' f = some z) → g6 14 z = 1) → (∀ z, z < 256 → (¬ ∃ j', j' < j ∧ cr_w (cN X Y Z n l) j' f = some z) → g6 14 z = g 14 z) →
          lp_li_traceFrom_L65 (d + 1) (on (cr_w (cN X Y Z n l) j f)) (nI (O c + j)) (nI (O c + j)) g6 (fun w11 g10 => (jn_li_traceFrom_J120 w11 g10 post)) post := by
        intro d
        induction d with
        | zero =>
          intro j g6 hj k1 k2 k3 k4 k5
          have ej : j = m + 1 := by omega
          subst ej
          have done : jn_li_traceFrom_J120 (nI (O c + (m + 1))) g6 post := fin g6 k1 k2 (fun j' y h9 => k3 j' y (by omega)) (fun z hz ⟨j', a, b⟩ => k4 z hz ⟨j', by omega, b⟩) (fun z hz w => k5 z hz (fun ⟨j', a, b⟩ => w ⟨j', by omega, b⟩))
          unfold lp_li_traceFrom_L65
          try dsimp only
          refine ⟨fun _ => done, fun _ => ⟨fun _ => done, fun u => ?_⟩⟩
          obtain ⟨⟨ye, y1, y2⟩, -⟩ := id hm
          rw [cr_w_s y1] at u ⊢
          rcases y2 with y2 | y2
          · rw [y2] at u; exact absurd rfl u
          · rw [y2]
            refine ⟨vp_in_nI (by omega) (by omega), fun _ => done, fun w => ?_⟩
            have w : g6 14 (ix (nI f)) = 0 := w
            rw [ix_nI (by omega), k4 f f1 ⟨0, by omega, rfl⟩] at w
            exact absurd w (by decide)
        | succ d ih =>
          intro j g6 hj k1 k2 k3 k4 k5
          obtain ⟨⟨ye, y1, -⟩, nb⟩ := id hm
          rw [show m = j + (m - j) by omega] at y1
          obtain ⟨y, hy⟩ := cr_w_le _ _ y1
          have ys : cS X Y Z n l y := cr_w_S (fun _ _ q => cN_S ho q) j fS hy
          have y256 := (cS_lt ho ys).1
          rw [hy]
          have free : g6 14 y = 0 := by
            rw [k5 y y256 (fun ⟨j', a, b⟩ => cr_new (cr_injN (c_inv ho)) nb a (by omega) b hy)]
            exact (q5 y y256).2 (outw j y hy)
          unfold lp_li_traceFrom_L65
          try dsimp only
          refine ⟨fun u => ?_, fun _ => ⟨fun u => ?_, fun _ => ?_⟩⟩
          · rw [show (120 : Int32) = nI 120 from rfl, nI_leI (by omega) (by omega)] at u; omega
          · have := (on_m1 (o := some y) (fun w hw => by cases hw; omega)).mp u
            cases this
          · show vp_in (nI y) 256 ∧ _
            refine ⟨vp_in_nI (by omega) (by omega), fun u => ?_, fun _ => ?_⟩
            · exact absurd (show g6 14 (ix (nI y)) = 0 by rw [ix_nI (by omega)]; exact free) u
            · rw [ix_nI (by omega)]
              refine ⟨vp_in_nI (by omega) (by omega), fun g7 e7 => ⟨vp_in_nI (by omega) (by omega), fun g8 e8 => ?_⟩⟩
              have e8 : g8 = gp g7 14 (ix (nI y)) (vp_nar .boolean 1) := e8
              rw [ix_nI (by omega), vn_1] at e8
              have e7 : g7 = gp g6 11 (O c + j) (nI y) := e7
              have u8 : ∀ k, k ≠ 11 → k ≠ 14 → g8 k = g5 k := fun k a b => by rw [e8, gp_n b, e7, gp_n a]; exact k1 k a b
              have M8 : mC X Y (tl X Y n 4096) g8 := by
                obtain ⟨m1, m2, m3, m4⟩ := hM
                have w : ∀ k, k ≠ 11 → k ≠ 14 → k ≠ 13 → g8 k = g k := fun k a b c => by rw [u8 k a b, e5, gp_n c]
                refine ⟨?_, ?_, ?_, ?_⟩
                · rw [w 2 (by decide) (by decide) (by decide)]; exact m1
                · rw [w 8 (by decide) (by decide) (by decide)]; exact m2
                · rw [w 9 (by decide) (by decide) (by decide)]; exact m3
                · rw [w 9 (by decide) (by decide) (by decide)]; exact m4
              have H8 : hC Z n l g8 := fun s hs => by rw [u8 10 (by decide) (by decide), e5, gp_n (by decide)]; exact hH s hs
              refine li_behind ho M8 H8 ys ?_
              have nx : cN X Y Z n l y = cr_w (cN X Y Z n l) (j + 1) f := (cr_w_s hy).symm
              rw [nI_1, nx, show O c + j + 1 = O c + (j + 1) by omega]
              refine ih (j + 1) g8 (by omega) u8 (fun i hi => ?_) (fun j' y' a b => ?_) (fun z hz ⟨j', a, b⟩ => ?_) (fun z hz w => ?_)
              · rw [e8, gp_n (by decide), e7, gp_o (by omega)]; exact k2 i hi
              · rw [e8, gp_n (by decide), e7]
                by_cases e : j' = j
                · rw [e] at b ⊢
                  rw [hy] at b
                  cases b
                  exact gp_s
                · rw [gp_o (by omega)]; exact k3 j' y' (by omega) b
              · rw [e8]
                by_cases e : z = y
                · rw [e]; exact gp_s
                · rw [gp_o e, e7, gp_n (by decide)]
                  refine k4 z hz ⟨j', ?_, b⟩
                  have : j' ≠ j := fun q => e (by rw [q, hy] at b; cases b; rfl)
                  omega
              · have e : z ≠ y := fun q => w ⟨j, by omega, by rw [q]; exact hy⟩
                rw [e8, gp_o e, e7, gp_n (by decide)]
                exact k5 z hz (fun ⟨j', a, b⟩ => w ⟨j', by omega, b⟩)
      refine ⟨(m + 1) + 1, ?_⟩
      have := loop (m + 1) 0 g5 (by omega) (fun _ _ _ => rfl) (fun i _ => by rw [e5, gp_n (by decide)]) (fun j' y a _ => absurd a (by omega)) (fun z _ ⟨j', a, _⟩ => absurd a (by omega)) (fun z _ _ => by rw [e5, gp_n (by decide)])
      exact this
    have z := on_m1 (o := cB X Y Z n l f) (fun y hy => by have := (cS_lt ho (cB_S ho hy)).1; omega)
    rw [q1]
    refine ⟨fun u => J 0 (Or.inr ⟨rfl, z.mp u⟩), fun u => J 1 (Or.inl ⟨rfl, fun e => u (z.mpr e)⟩)⟩
end
