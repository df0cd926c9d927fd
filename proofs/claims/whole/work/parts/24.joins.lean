/-! The reference joins the crossings of a level. -/
theorem ce_16 {h w : Nat} (hh : h < 16) (hw : w < 16) : ce (16 * h + w) = if h < w then 16 * h + w else 16 * w + h := by
  unfold ce
  rw [show (16 * h + w) / 16 = h by omega, show (16 * h + w) % 16 = w by omega]
/-- processed: a high spot, a low one, the third of a triangle -/
def jP (Z : Nat → Int) (l : Int) (L : List Nat) (h w r : Nat) : Prop := hi Z l h ∧ ¬ hi Z l w ∧ ∃ x, x ∈ L ∧ ge_pm (x / 256) (x / 16 % 16) (x % 16) h w r
def jM (X Y Z : Nat → Int) (l : Int) (P : Nat → Nat → Nat → Prop) (g : St) : Prop :=
  ((∀ h w r, P h w r → g 5 (ce (16 * h + w)) = 1) ∧ ∀ e, e < 256 → (∀ h w r, P h w r → ce (16 * h + w) ≠ e) → g 5 e = 0) ∧
  ((∀ h w r, P h w r → ge_t X Y w h r < 0 → g 6 (ce (16 * h + w)) = nI (ce (oth Z l h w r))) ∧ ∀ e, e < 256 → (∀ h w r, P h w r → ge_t X Y w h r < 0 → ce (16 * h + w) ≠ e) → g 6 e = -1) ∧
  ((∀ h w r, P h w r → ge_t X Y w h r < 0 → g 7 (ce (oth Z l h w r)) = nI (ce (16 * h + w))) ∧ ∀ e, e < 256 → (∀ h w r, P h w r → ge_t X Y w h r < 0 → ce (oth Z l h w r) ≠ e) → g 7 e = -1)
/-- what may be processed -/
def jOk (X Y Z : Nat → Int) (n : Nat) (l : Int) (P : Nat → Nat → Nat → Prop) : Prop := ∀ h w r, P h w r → hi Z l h ∧ ¬ hi Z l w ∧ ge_T X Y n h w r
section
variable {g : St} {n : Nat} {X Y Z : Nat → Int} {l : Int}
theorem mo_edge {a b : Nat} {post : Int32 → St → Prop} (ha : a < 16) (hb : b < 16) (ne : a ≠ b) (h : post (nI (ce (16 * a + b))) g) : wp_mo_edgeOf (nI a) (nI b) g post := by
  unfold wp_mo_edgeOf
  try dsimp only
  rw [ce_16 ha hb] at h
  refine ⟨fun q => ?_, fun q => ?_⟩
  · have : b ≤ a := (nI_leI (by omega) (by omega)).mp q
    rw [if_neg (by omega)] at h
    rw [pk16]; exact h
  · have : ¬ b ≤ a := fun w => q ((nI_leI (by omega) (by omega)).mpr w)
    rw [if_pos (by omega)] at h
    rw [pk16]; exact h
theorem mo_high {s : Nat} {post : Int32 → St → Prop} (hS : sM g n X Y Z) (hs : s < n) (hl : 0 ≤ l ∧ l ≤ 998) (h1 : hi Z l s → post 1 g) (h0 : ¬ hi Z l s → post 0 g) : wp_mo_isHigh (nI s) (iI l) g post := by
  obtain ⟨-, -, e⟩ := hS.2.2.2 s hs
  have zb := hS.2.1 s hs
  unfold wp_mo_isHigh
  try dsimp only
  rw [hS.ix hs, e, iI_le (by omega) (by omega) (by omega) (by omega)]
  unfold hi at h1 h0
  exact ⟨hS.v16 hs, fun q => h0 (by omega), fun q => h1 (by omega)⟩
theorem ce_lt {h w : Nat} (hh : h < 16) (hw : w < 16) : ce (16 * h + w) < 256 := by
  rw [ce_16 hh hw]; split <;> omega
theorem ce_sym {h w : Nat} (hh : h < 16) (hw : w < 16) (ne : h ≠ w) : ce (16 * h + w) = ce (16 * w + h) := by
  rw [ce_16 hh hw, ce_16 hw hh]
  by_cases q : h < w
  · rw [if_pos q, if_neg (by omega)]
  · rw [if_neg q, if_pos (by omega)]
theorem ce_hw {h w h' w' : Nat} (a : h < 16) (b : w < 16) (c : h' < 16) (d : w' < 16) (q1 : hi Z l h) (q2 : ¬ hi Z l w) (q3 : hi Z l h') (q4 : ¬ hi Z l w') (e : ce (16 * h + w) = ce (16 * h' + w')) : h = h' ∧ w = w' := by
  rw [ce_16 a b, ce_16 c d] at e
  have n1 : h ≠ w' := fun q => q4 (by rw [← q]; exact q1)
  have n2 : h' ≠ w := fun q => q2 (by rw [← q]; exact q3)
  split at e <;> split at e <;> omega
/-- the other crossing in the triangle -/
theorem oth_c {h w r : Nat} (ho : ge_ok X Y n) (q1 : hi Z l h) (q2 : ¬ hi Z l w) (t : ge_T X Y n h w r) : oth Z l h w r / 16 < 16 ∧ oth Z l h w r % 16 < 16 ∧ hi Z l (oth Z l h w r / 16) ∧ ¬ hi Z l (oth Z l h w r % 16) ∧ oth Z l h w r = 16 * (oth Z l h w r / 16) + oth Z l h w r % 16 := by
  have n16 := ho.1
  obtain ⟨t1, t2, t3, -⟩ := t
  by_cases q : hi Z l r
  · rw [oth_h q]
    have d1 : (16 * r + w) / 16 = r := by omega
    have d2 : (16 * r + w) % 16 = w := by omega
    rw [d1, d2]; exact ⟨by omega, by omega, q, q2, rfl⟩
  · rw [oth_l q]
    have d1 : (16 * h + r) / 16 = h := by omega
    have d2 : (16 * h + r) % 16 = r := by omega
    rw [d1, d2]; exact ⟨by omega, by omega, q1, q, rfl⟩
theorem T_wh {h w r : Nat} (t : ge_T X Y n h w r) : ge_T X Y n w h r := ge_T_sw (ge_T_rot t)
/-- the next crossing determines the one ahead of it -/
theorem oth_inj (ho : ge_ok X Y n) {h w r h' w' r' : Nat} (q1 : hi Z l h) (q2 : ¬ hi Z l w) (t : ge_T X Y n h w r) (s : ge_t X Y w h r < 0) (q1' : hi Z l h') (q2' : ¬ hi Z l w') (t' : ge_T X Y n h' w' r') (s' : ge_t X Y w' h' r' < 0) (e : oth Z l h w r = oth Z l h' w' r') : h = h' ∧ w = w' := by
  have n16 := ho.1
  have a := t.1; have b := t.2.1; have a' := t'.1; have b' := t'.2.1
  have c1 : cN X Y Z n l (16 * h + w) = some (oth Z l h w r) := by
    rw [cN_eq (by rw [show (16 * h + w) / 16 = h by omega, show (16 * h + w) % 16 = w by omega]; exact ⟨q1, q2⟩), show (16 * h + w) / 16 = h by omega, show (16 * h + w) % 16 = w by omega, rr_some.mpr ⟨T_wh t, s⟩]; rfl
  have c2 : cN X Y Z n l (16 * h' + w') = some (oth Z l h' w' r') := by
    rw [cN_eq (by rw [show (16 * h' + w') / 16 = h' by omega, show (16 * h' + w') % 16 = w' by omega]; exact ⟨q1', q2'⟩), show (16 * h' + w') / 16 = h' by omega, show (16 * h' + w') % 16 = w' by omega, rr_some.mpr ⟨T_wh t', s'⟩]; rfl
  rw [← e] at c2
  have := cr_injN (c_inv ho) _ _ _ c1 c2
  omega
/-- one more crossing of a triangle is processed -/
theorem jM_add {P : Nat → Nat → Nat → Prop} {h w r : Nat} {g' : St} (ho : ge_ok X Y n) (ok : jOk X Y Z n l P) (hm : jM X Y Z l P g) (q1 : hi Z l h) (q2 : ¬ hi Z l w) (t : ge_T X Y n h w r)
    (e5 : ∀ e, g' 5 e = if e = ce (16 * h + w) then 1 else g 5 e)
    (e6 : ∀ e, g' 6 e = if e = ce (16 * h + w) ∧ ge_t X Y w h r < 0 then nI (ce (oth Z l h w r)) else g 6 e)
    (e7 : ∀ e, g' 7 e = if e = ce (oth Z l h w r) ∧ ge_t X Y w h r < 0 then nI (ce (16 * h + w)) else g 7 e) :
    jM X Y Z l (fun a b c => P a b c ∨ (a = h ∧ b = w ∧ c = r)) g' := by
  have n16 := ho.1
  obtain ⟨⟨m1, m2⟩, ⟨m3, m4⟩, m5, m6⟩ := hm
  have th : h < 16 := by have := t.1; omega
  have tw : w < 16 := by have := t.2.1; omega
  refine ⟨⟨fun a b c k => ?_, fun e he k => ?_⟩, ⟨fun a b c k s => ?_, fun e he k => ?_⟩, fun a b c k s => ?_, fun e he k => ?_⟩
  · rw [e5]
    by_cases q : ce (16 * a + b) = ce (16 * h + w)
    · rw [if_pos q]
    · rw [if_neg q]
      rcases k with k | ⟨rfl, rfl, rfl⟩
      · exact m1 a b c k
      · exact absurd rfl q
  · rw [e5, if_neg (fun q => k h w r (Or.inr ⟨rfl, rfl, rfl⟩) q.symm)]
    exact m2 e he (fun a b c k' => k a b c (Or.inl k'))
  · rw [e6]
    by_cases q : ce (16 * a + b) = ce (16 * h + w) ∧ ge_t X Y w h r < 0
    · rw [if_pos q]
      rcases k with k | ⟨rfl, rfl, rfl⟩
      · obtain ⟨o1, o2, o3⟩ := ok a b c k
        obtain ⟨rfl, rfl⟩ := ce_hw (by have := o3.1; omega) (by have := o3.2.1; omega) th tw o1 o2 q1 q2 q.1
        rw [ge_right (T_wh o3) (T_wh t) s q.2]
      · rfl
    · rw [if_neg q]
      rcases k with k | ⟨rfl, rfl, rfl⟩
      · exact m3 a b c k s
      · exact absurd ⟨rfl, s⟩ q
  · rw [e6, if_neg (fun q => k h w r (Or.inr ⟨rfl, rfl, rfl⟩) q.2 q.1.symm)]
    exact m4 e he (fun a b c k' => k a b c (Or.inl k'))
  · rw [e7]
    by_cases q : ce (oth Z l a b c) = ce (oth Z l h w r) ∧ ge_t X Y w h r < 0
    · rw [if_pos q]
      rcases k with k | ⟨rfl, rfl, rfl⟩
      · obtain ⟨o1, o2, o3⟩ := ok a b c k
        obtain ⟨x1, x2, x3, x4, x5⟩ := oth_c ho o1 o2 o3
        obtain ⟨y1, y2, y3, y4, y5⟩ := oth_c ho q1 q2 t
        have e := q.1
        rw [x5, y5] at e
        obtain ⟨z1, z2⟩ := ce_hw x1 x2 y1 y2 x3 x4 y3 y4 e
        obtain ⟨rfl, rfl⟩ := oth_inj ho o1 o2 o3 s q1 q2 t q.2 (by rw [x5, y5, z1, z2])
        rfl
      · rfl
    · rw [if_neg q]
      rcases k with k | ⟨rfl, rfl, rfl⟩
      · exact m5 a b c k s
      · exact absurd ⟨rfl, s⟩ q
  · rw [e7, if_neg (fun q => k h w r (Or.inr ⟨rfl, rfl, rfl⟩) q.2 q.1.symm)]
    exact m6 e he (fun a b c k' => k a b c (Or.inl k'))
theorem mo_join {h w r : Nat} {post : St → Prop} (hS : sM g n X Y Z) (hl : 0 ≤ l ∧ l ≤ 998) (q1 : hi Z l h) (q2 : ¬ hi Z l w) (t : ge_T X Y n h w r)
    (hp : ∀ g', (∀ e, g' 6 e = if e = ce (16 * h + w) ∧ ge_t X Y w h r < 0 then nI (ce (oth Z l h w r)) else g 6 e) → (∀ e, g' 7 e = if e = ce (oth Z l h w r) ∧ ge_t X Y w h r < 0 then nI (ce (16 * h + w)) else g 7 e) → fm [6, 7] [] g g' → post g') : wp_mo_join (nI h) (nI w) (nI r) (iI l) g post := by
  have ho := hS.1
  have n16 := ho.1
  have th := t.1; have tw := t.2.1; have tr := t.2.2.1
  obtain ⟨n1, n2, n3⟩ := ge_t_ne t.2.2.2.1
  have bt := ge_tb ho tw th tr
  unfold wp_mo_join
  try dsimp only
  refine mo_turn hS tw th tr ?_
  have z : iI (ge_t X Y w h r) < 0 ↔ ge_t X Y w h r < 0 := by rw [← iI_0, iI_lt bt.1 bt.2 (by omega) (by omega)]
  have noch : ¬ ge_t X Y w h r < 0 → post g := fun k => hp g (fun e => by rw [if_neg (fun q => k q.2)]) (fun e => by rw [if_neg (fun q => k q.2)]) fm.rf
  have doit : ge_t X Y w h r < 0 → ∀ e, e = ce (oth Z l h w r) → jn_mo_join_J34 (nI h) (nI w) (nI e) g post := fun k e he => by
    have e256 : e < 256 := by
      obtain ⟨y1, y2, y3, y4, y5⟩ := oth_c ho q1 q2 t
      rw [he, y5]; exact ce_lt y1 y2
    unfold jn_mo_join_J34
    try dsimp only
    refine mo_edge (by omega) (by omega) n1 ?_
    have cl := ce_lt (h := h) (w := w) (by omega) (by omega)
    rw [ix_nI (by omega)]
    refine ⟨vp_in_nI (by omega) (by omega), fun g9 e9 => mo_edge (by omega) (by omega) n1 ?_⟩
    rw [ix_nI (by omega)]
    refine ⟨vp_in_nI (by omega) (by omega), fun g12 e12 => hp g12 (fun e' => ?_) (fun e' => ?_) ?_⟩
    · rw [e12, gp_n (by decide), e9]
      by_cases q : e' = ce (16 * h + w)
      · rw [if_pos ⟨q, k⟩, q, gp_s, he]
      · rw [if_neg (fun w => q w.1), gp_o q]
    · rw [e12]
      by_cases q : e' = ce (oth Z l h w r)
      · rw [if_pos ⟨q, k⟩, q, he, gp_s]
      · rw [if_neg (fun w => q w.1), gp_o (by rw [he]; exact q), e9, gp_n (by decide)]
    · rw [e12, e9]; exact (fm.rf.pt (by decide) (by decide)).pt (by decide) (by decide)
  have body : ge_t X Y w h r < 0 → wp_mo_isHigh (nI r) (iI l) g (fun r4 g3 => ((r4 = 0 → (wp_mo_edgeOf (nI h) (nI r) g3 (fun r6 g5 => (jn_mo_join_J34 (nI h) (nI w) r6 g5 post)))) ∧ (¬ (r4 = 0) → (wp_mo_edgeOf (nI r) (nI w) g3 (fun r14 g13 => (jn_mo_join_J34 (nI h) (nI w) r14 g13 post)))))) := fun k => by
    refine mo_high hS tr hl (fun q => ⟨fun w => absurd w (by decide), fun _ => mo_edge (by omega) (by omega) (Ne.symm n3) ?_⟩) (fun q => ⟨fun _ => mo_edge (by omega) (by omega) n2 ?_, fun w => absurd rfl w⟩)
    · exact doit k _ (by rw [oth_h q])
    · exact doit k _ (by rw [oth_l q])
  exact ⟨fun k => body (z.mp k), fun k => noch (fun q => k (z.mpr q))⟩
theorem mo_pair {P : Nat → Nat → Nat → Prop} {a b c : Nat} {post : St → Prop} (hS : sM g n X Y Z) (hl : 0 ≤ l ∧ l ≤ 998) (t : ge_T X Y n a b c) (ok : jOk X Y Z n l P) (hm : jM X Y Z l P g)
    (hp : ∀ g' P', jOk X Y Z n l P' → jM X Y Z l P' g' → (∀ h w r, P' h w r ↔ (P h w r ∨ (hi Z l h ∧ ¬ hi Z l w ∧ ((h = a ∧ w = b ∧ r = c) ∨ (h = b ∧ w = a ∧ r = c))))) → fm [5, 6, 7] [] g g' → post g') : wp_mo_pair (nI a) (nI b) (nI c) (iI l) g post := by
  have ho := hS.1
  have n16 := ho.1
  have ta := t.1; have tb := t.2.1
  obtain ⟨n1, n2, n3⟩ := ge_t_ne t.2.2.2.1
  have cl := ce_lt (h := a) (w := b) (by omega) (by omega)
  have same : (¬ (hi Z l a ∧ ¬ hi Z l b)) → (¬ (hi Z l b ∧ ¬ hi Z l a)) → post g := fun k1 k2 => hp g P ok hm (fun h w r => ⟨Or.inl, fun q => by
    rcases q with q | ⟨q1, q2, ⟨rfl, rfl, rfl⟩ | ⟨rfl, rfl, rfl⟩⟩
    · exact q
    · exact absurd ⟨q1, q2⟩ k1
    · exact absurd ⟨q1, q2⟩ k2⟩) fm.rf
  -- a high and b low, or the other way
  have go : ∀ h w, hi Z l h → ¬ hi Z l w → ge_T X Y n h w c → ce (16 * h + w) = ce (16 * a + b) → ((h = a ∧ w = b) ∨ (h = b ∧ w = a)) → ∀ g1 : St, g1 = gp g 5 (ce (16 * a + b)) 1 → wp_mo_join (nI h) (nI w) (nI c) (iI l) g1 (fun g' => post g') := fun h w q1 q2 th ec hw g1 e1 => by
    have S1 : sM g1 n X Y Z := hS.fr (by rw [e1, gp_n (by decide)]) (by rw [e1, gp_n (by decide)]) (by rw [e1, gp_n (by decide)]) (by rw [e1, gp_n (by decide)])
    refine mo_join S1 hl q1 q2 th (fun g' a6 a7 f => ?_)
    refine hp g' _ (fun h' w' r' k => ?_) (jM_add ho ok hm q1 q2 th (fun e => ?_) (fun e => ?_) (fun e => ?_)) (fun h' w' r' => ?_) ?_
    · rcases k with k | ⟨rfl, rfl, rfl⟩
      · exact ok _ _ _ k
      · exact ⟨q1, q2, th⟩
    · rw [f.1 5 (by decide) (by decide), e1, ec]
      by_cases q : e = ce (16 * a + b)
      · rw [if_pos q, q, gp_s]
      · rw [if_neg q, gp_o q]
    · rw [a6, e1, gp_n (by decide)]
    · rw [a7, e1, gp_n (by decide)]
    · constructor
      · rintro (k | ⟨rfl, rfl, rfl⟩)
        · exact Or.inl k
        · refine Or.inr ⟨q1, q2, ?_⟩
          rcases hw with ⟨x, y⟩ | ⟨x, y⟩
          · exact Or.inl ⟨x, y, rfl⟩
          · exact Or.inr ⟨x, y, rfl⟩
      · rintro (k | ⟨k1, k2, k⟩)
        · exact Or.inl k
        · refine Or.inr ?_
          rcases hw with ⟨rfl, rfl⟩ | ⟨rfl, rfl⟩ <;> rcases k with ⟨rfl, rfl, rfl⟩ | ⟨rfl, rfl, rfl⟩
          · exact ⟨rfl, rfl, rfl⟩
          · exact absurd q1 k2
          · exact absurd q1 k2
          · exact ⟨rfl, rfl, rfl⟩
    · have f5 : fm [5, 6, 7] [] g g1 := by rw [e1]; exact fm.rf.pt (by decide) (by decide)
      exact f5.tr (f.mono (by decide) (by decide))
  unfold wp_mo_pair
  try dsimp only
  have ed : ∀ g1 : St, g1 = gp g 5 (ix (nI (ce (16 * a + b)))) (vp_nar .boolean 1) → g1 = gp g 5 (ce (16 * a + b)) 1 := fun g1 e => by rw [e, ix_nI (by omega), vn_1]
  refine mo_high hS ta hl (fun qa => mo_high hS tb hl (fun qb => ?_) (fun qb => ?_)) (fun qa => mo_high hS tb hl (fun qb => ?_) (fun qb => ?_))
  · exact ⟨fun k => absurd rfl k, fun _ => same (fun q => q.2 qb) (fun q => q.2 qa)⟩
  · refine ⟨fun _ => mo_edge (by omega) (by omega) n1 ⟨vp_in_nI (by omega) (by omega), fun g1 e1 => ?_⟩, fun k => absurd k (by decide)⟩
    have e1 := ed g1 e1
    have S1 : sM g1 n X Y Z := hS.fr (by rw [e1, gp_n (by decide)]) (by rw [e1, gp_n (by decide)]) (by rw [e1, gp_n (by decide)]) (by rw [e1, gp_n (by decide)])
    exact mo_high S1 ta hl (fun _ => ⟨fun k => absurd k (by decide), fun _ => go a b qa qb t rfl (Or.inl ⟨rfl, rfl⟩) g1 e1⟩) (fun k => absurd qa k)
  · refine ⟨fun _ => mo_edge (by omega) (by omega) n1 ⟨vp_in_nI (by omega) (by omega), fun g1 e1 => ?_⟩, fun k => absurd k (by decide)⟩
    have e1 := ed g1 e1
    have S1 : sM g1 n X Y Z := hS.fr (by rw [e1, gp_n (by decide)]) (by rw [e1, gp_n (by decide)]) (by rw [e1, gp_n (by decide)]) (by rw [e1, gp_n (by decide)])
    exact mo_high S1 ta hl (fun k => absurd k qa) (fun _ => ⟨fun _ => go b a qb qa (T_wh t) (ce_sym (by omega) (by omega) (Ne.symm n1)) (Or.inr ⟨rfl, rfl⟩) g1 e1, fun k => absurd rfl k⟩)
  · exact ⟨fun k => absurd rfl k, fun _ => same (fun q => qa q.1) (fun q => qb q.1)⟩
end
