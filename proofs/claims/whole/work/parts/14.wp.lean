/-! What each method needs of the state, and what it answers, read off its bytecode by a program: printed. -/
def wp_li_size (g : St) (post : Int32 → St → Prop) : Prop :=
  (post (g 3 5) g)
def wp_li_isLine (x1 : Int32) (g : St) (post : Int32 → St → Prop) : Prop :=
  ((x1 < 0 → (post 0 g)) ∧ (¬ (x1 < 0) → (((g 3 5) ≤ x1 → (post 0 g)) ∧ (¬ ((g 3 5) ≤ x1) → (post 1 g)))))
def wp_li_length (x1 : Int32) (g : St) (post : Int32 → St → Prop) : Prop :=
  (vp_in (x1 + 1) 121 ∧ (vp_in x1 121 ∧ (post ((g 12 (ix (x1 + 1))) - (g 12 (ix x1))) g)))
def wp_li_isRing (x1 : Int32) (g : St) (post : Int32 → St → Prop) : Prop :=
  (vp_in x1 120 ∧ (narrow .boolean (.int (g 13 (ix x1))) = .int (g 13 (ix x1)) ∧ post (g 13 (ix x1)) g))
def wp_li_pair (x1 : Int32) (x2 : Int32) (g : St) (post : Int32 → St → Prop) : Prop :=
  (vp_in x1 121 ∧ (vp_in ((g 12 (ix x1)) + x2) 120 ∧ (post (g 11 (ix ((g 12 (ix x1)) + x2))) g)))
def wp_sc_highOf (x0 : Int32) (g : St) (post : Int32 → St → Prop) : Prop :=
  (post (x0 / 16) g)
def wp_sp_x (x1 : Int32) (g : St) (post : Int32 → St → Prop) : Prop :=
  (vp_in x1 16 ∧ (post (g 5 (ix x1)) g))
def wp_li_moreLeft (x1 : Int32) (x2 : Int32) (g : St) (post : Int32 → St → Prop) : Prop :=
  (wp_sp_x x2 g (fun r2 g1 => (wp_sp_x x1 g1 (fun r4 g3 => ((r4 ≤ r2 → (post x1 g3)) ∧ (¬ (r4 ≤ r2) → (post x2 g3)))))))
def wp_sc_lowOf (x0 : Int32) (g : St) (post : Int32 → St → Prop) : Prop :=
  (post (x0 - x0 / 16 * 16) g)
def lp_li_isHollow_L13 : Nat → Int32 → Int32 → Int32 → St → (Int32 → St → Prop) → (Int32 → St → Prop) → Prop
  | 0, _, _, _, _, _, _ => False
  | n + 1, v2, v3, v4, g, K61, post => (wp_li_length v2 g (fun r6 g5 => ((r6 ≤ v4 → (K61 v3 g5)) ∧ (¬ (r6 ≤ v4) → (wp_li_pair v2 v4 g5 (fun r8 g7 => (wp_sc_highOf r8 g7 (fun r10 g9 => (wp_li_moreLeft v3 r10 g9 (fun r12 g11 => (wp_li_pair v2 v4 g11 (fun r14 g13 => (wp_sc_lowOf r14 g13 (fun r16 g15 => (wp_li_moreLeft r12 r16 g15 (fun r18 g17 => (lp_li_isHollow_L13 n v2 r18 (v4 + 1) g17 K61 post)))))))))))))))))
def wp_li_isHollow (x2 : Int32) (g : St) (post : Int32 → St → Prop) : Prop :=
  (wp_li_pair x2 0 g (fun r2 g1 => (wp_sc_highOf r2 g1 (fun r4 g3 => (∃ k13, lp_li_isHollow_L13 k13 x2 r4 0 g3 (fun w20 g19 => (vp_in w20 16 ∧ (narrow .boolean (.int (g19 10 (ix w20))) = .int (g19 10 (ix w20)) ∧ post (g19 10 (ix w20)) g19))) post)))))
def lp_li_clear_L7 : Nat → Int32 → St → (St → Prop) → (St → Prop) → Prop
  | 0, _, _, _, _ => False
  | n + 1, v1, g, K27, post => ((256 ≤ v1 → (K27 g)) ∧ (¬ (256 ≤ v1) → (vp_in v1 256 ∧ ∀ g2 : St, g2 = gp g 14 (ix v1) (vp_nar .boolean 0) → (lp_li_clear_L7 n (v1 + 1) g2 K27 post))))
def wp_li_clear (g : St) (post : St → Prop) : Prop :=
  (∀ g1 : St, g1 = gp g 3 5 0 → (∃ k7, lp_li_clear_L7 k7 0 g1 (fun g3 => (post g3)) post))
def wp_sp_size (g : St) (post : Int32 → St → Prop) : Prop :=
  (post (g 1 3) g)
def wp_sp_height (x1 : Int32) (g : St) (post : Int32 → St → Prop) : Prop :=
  (vp_in x1 16 ∧ (post (g 7 (ix x1)) g))
def wp_me_thirdRightOf (x1 : Int32) (x2 : Int32) (g : St) (post : Int32 → St → Prop) : Prop :=
  (vp_in ((16 * x1) + x2) 256 ∧ (post (g 9 (ix ((16 * x1) + x2))) g))
def jn_me_sharing_J22 (v1 : Int32) (v2 : Int32) (s0 : Int32) (g : St) (post : Int32 → St → Prop) : Prop :=
  (wp_me_thirdRightOf v2 v1 g (fun r4 g3 => ((¬ (r4 = (-1)) → (post (s0 + 1) g3)) ∧ (r4 = (-1) → (post (s0 + 0) g3)))))
def wp_me_sharing (x1 : Int32) (x2 : Int32) (g : St) (post : Int32 → St → Prop) : Prop :=
  ((¬ (x1 = x2) → (wp_me_thirdRightOf x1 x2 g (fun r2 g1 => ((¬ (r2 = (-1)) → (jn_me_sharing_J22 x1 x2 1 g1 post)) ∧ (r2 = (-1) → (jn_me_sharing_J22 x1 x2 0 g1 post)))))) ∧ (x1 = x2 → (post 0 g)))
def wp_li_otherPair (x1 : Int32) (x2 : Int32) (x3 : Int32) (g : St) (post : Int32 → St → Prop) : Prop :=
  ((¬ (x3 = (-1)) → (vp_in x3 16 ∧ (((g 10 (ix x3)) = 0 → (post ((16 * x1) + x3) g)) ∧ (¬ ((g 10 (ix x3)) = 0) → (post ((16 * x3) + x2) g))))) ∧ (x3 = (-1) → (post (-1) g)))
def wp_li_before (x2 : Int32) (g : St) (post : Int32 → St → Prop) : Prop :=
  (wp_sc_highOf x2 g (fun r2 g1 => (wp_sc_lowOf x2 g1 (fun r4 g3 => (wp_me_thirdRightOf r2 r4 g3 (fun r6 g5 => (wp_li_otherPair r2 r4 r6 g5 (fun r8 g7 => (post r8 g7)))))))))
def lp_li_beginning_L5 : Nat → Int32 → Int32 → Int32 → St → (Int32 → St → Prop) → (Int32 → St → Prop) → Prop
  | 0, _, _, _, _, _, _ => False
  | n + 1, v2, v3, v4, g, K45, post => ((120 ≤ v4 → (K45 v2 g)) ∧ (¬ (120 ≤ v4) → (wp_li_before v3 g (fun r2 g1 => ((¬ (r2 = (-1)) → ((¬ (r2 = v2) → (lp_li_beginning_L5 n v2 r2 (v4 + 1) g1 K45 post)) ∧ (r2 = v2 → (post v2 g1)))) ∧ (r2 = (-1) → (post v3 g1)))))))
def wp_li_beginning (x2 : Int32) (g : St) (post : Int32 → St → Prop) : Prop :=
  (∃ k5, lp_li_beginning_L5 k5 x2 x2 0 g (fun w4 g3 => (post w4 g3)) post)
def wp_li_behind (x2 : Int32) (g : St) (post : Int32 → St → Prop) : Prop :=
  (wp_sc_highOf x2 g (fun r2 g1 => (wp_sc_lowOf x2 g1 (fun r4 g3 => (wp_me_thirdRightOf r4 r2 g3 (fun r6 g5 => (wp_li_otherPair r2 r4 r6 g5 (fun r8 g7 => (post r8 g7)))))))))
def lp_li_traceFrom_L65 : Nat → Int32 → Int32 → Int32 → St → (Int32 → St → Prop) → (St → Prop) → Prop
  | 0, _, _, _, _, _, _ => False
  | n + 1, v3, v4, v5, g, K120, post => ((120 ≤ v5 → (K120 v4 g)) ∧ (¬ (120 ≤ v5) → ((v3 = (-1) → (K120 v4 g)) ∧ (¬ (v3 = (-1)) → (vp_in v3 256 ∧ ((¬ ((g 14 (ix v3)) = 0) → (K120 v4 g)) ∧ ((g 14 (ix v3)) = 0 → (vp_in v5 120 ∧ ∀ g6 : St, g6 = gp g 11 (ix v5) v3 → (vp_in v3 256 ∧ ∀ g7 : St, g7 = gp g6 14 (ix v3) (vp_nar .boolean 1) → (wp_li_behind v3 g7 (fun r9 g8 => (lp_li_traceFrom_L65 n r9 (v5 + 1) (v5 + 1) g8 K120 post))))))))))))
def jn_li_traceFrom_J120 (v4 : Int32) (g : St) (post : St → Prop) : Prop :=
  (∀ g12 : St, g12 = gp g 3 5 ((g 3 5) + 1) → (vp_in (g12 3 5) 121 ∧ ∀ g13 : St, g13 = gp g12 12 (ix (g12 3 5)) v4 → (post g13)))
def jn_li_traceFrom_J49 (v3 : Int32) (s1 : Int32) (s2 : Int32) (g : St) (post : St → Prop) : Prop :=
  (vp_in s1 120 ∧ ∀ g5 : St, g5 = gp g 13 (ix s1) (vp_nar .boolean s2) → (vp_in (g5 3 5) 121 ∧ (∃ k65, lp_li_traceFrom_L65 k65 v3 (g5 12 (ix (g5 3 5))) (g5 12 (ix (g5 3 5))) g5 (fun w11 g10 => (jn_li_traceFrom_J120 w11 g10 post)) post)))
def wp_li_traceFrom (x2 : Int32) (g : St) (post : St → Prop) : Prop :=
  (vp_in x2 256 ∧ ((¬ ((g 14 (ix x2)) = 0) → (post g)) ∧ ((g 14 (ix x2)) = 0 → (((g 3 5) < 120 → (wp_li_beginning x2 g (fun r2 g1 => (wp_li_before r2 g1 (fun r4 g3 => ((r4 = (-1) → (jn_li_traceFrom_J49 r2 (g1 3 5) 0 g3 post)) ∧ (¬ (r4 = (-1)) → (jn_li_traceFrom_J49 r2 (g1 3 5) 1 g3 post)))))))) ∧ (¬ ((g 3 5) < 120) → (post g))))))
def lp_li_trace_L7 : Nat → Int32 → Int32 → St → (St → Prop) → (St → Prop) → Prop
  | 0, _, _, _, _, _ => False
  | n + 1, v3, v4, g, K44, post => (wp_sp_size g (fun r3 g2 => ((r3 ≤ v4 → (K44 g2)) ∧ (¬ (r3 ≤ v4) → (wp_sp_height v4 g2 (fun r5 g4 => ((r5 ≤ v3 → (vp_in v4 16 ∧ ∀ g6 : St, g6 = gp g4 10 (ix v4) (vp_nar .boolean 0) → (lp_li_trace_L7 n v3 (v4 + 1) g6 K44 post))) ∧ (¬ (r5 ≤ v3) → (vp_in v4 16 ∧ ∀ g7 : St, g7 = gp g4 10 (ix v4) (vp_nar .boolean 1) → (lp_li_trace_L7 n v3 (v4 + 1) g7 K44 post))))))))))
def lp_li_trace_L62 : Nat → Int32 → Int32 → St → (Int32 → St → Prop) → (St → Prop) → Prop
  | 0, _, _, _, _, _ => False
  | n + 1, v4, v5, g, K139, post => (wp_sp_size g (fun r12 g11 => ((r12 ≤ v5 → (K139 v4 g11)) ∧ (¬ (r12 ≤ v5) → (vp_in v4 16 ∧ (vp_in v5 16 ∧ (((g11 10 (ix v4)) = (g11 10 (ix v5)) → (lp_li_trace_L62 n v4 (v5 + 1) g11 K139 post)) ∧ (¬ ((g11 10 (ix v4)) = (g11 10 (ix v5))) → (wp_me_sharing v4 v5 g11 (fun r14 g13 => ((r14 ≤ 0 → (lp_li_trace_L62 n v4 (v5 + 1) g13 K139 post)) ∧ (¬ (r14 ≤ 0) → (vp_in v4 16 ∧ (((g13 10 (ix v4)) = 0 → (wp_li_traceFrom ((16 * v5) + v4) g13 (fun g15 => (lp_li_trace_L62 n v4 (v5 + 1) g15 K139 post)))) ∧ (¬ ((g13 10 (ix v4)) = 0) → (wp_li_traceFrom ((16 * v4) + v5) g13 (fun g16 => (lp_li_trace_L62 n v4 (v5 + 1) g16 K139 post))))))))))))))))))
def lp_li_trace_L47 : Nat → Int32 → St → (St → Prop) → (St → Prop) → Prop
  | 0, _, _, _, _ => False
  | n + 1, v4, g, K145, post => (wp_sp_size g (fun r10 g9 => ((r10 ≤ v4 → (K145 g9)) ∧ (¬ (r10 ≤ v4) → (∃ k62, lp_li_trace_L62 k62 v4 (v4 + 1) g9 (fun w18 g17 => (lp_li_trace_L47 n (w18 + 1) g17 K145 post)) post)))))
def wp_li_trace (x3 : Int32) (g : St) (post : St → Prop) : Prop :=
  (wp_li_clear g (fun g1 => (∃ k7, lp_li_trace_L7 k7 x3 0 g1 (fun g8 => (∃ k47, lp_li_trace_L47 k47 0 g8 (fun g19 => (post g19)) post)) post)))
def wp_me_size (g : St) (post : Int32 → St → Prop) : Prop :=
  (post (g 2 2) g)
def wp_me_cornerOf (x1 : Int32) (x2 : Int32) (g : St) (post : Int32 → St → Prop) : Prop :=
  (vp_in ((3 * x1) + x2) 81 ∧ (post (g 8 (ix ((3 * x1) + x2))) g))
def lp_me_clear_L7 : Nat → Int32 → St → (St → Prop) → (St → Prop) → Prop
  | 0, _, _, _, _ => False
  | n + 1, v1, g, K27, post => ((256 ≤ v1 → (K27 g)) ∧ (¬ (256 ≤ v1) → (vp_in v1 256 ∧ ∀ g2 : St, g2 = gp g 9 (ix v1) (-1) → (lp_me_clear_L7 n (v1 + 1) g2 K27 post))))
def wp_me_clear (g : St) (post : St → Prop) : Prop :=
  (∀ g1 : St, g1 = gp g 2 2 0 → (∃ k7, lp_me_clear_L7 k7 0 g1 (fun g3 => (post g3)) post))
def wp_sp_turnTo (x1 : Int32) (x2 : Int32) (x3 : Int32) (x4 : Int32) (g : St) (post : Int32 → St → Prop) : Prop :=
  (vp_in x2 16 ∧ (vp_in x1 16 ∧ (vp_in x1 16 ∧ (vp_in x2 16 ∧ (vp_in x1 16 ∧ (vp_in x1 16 ∧ (post ((((g 5 (ix x2)) - (g 5 (ix x1))) * (x4 - (g 6 (ix x1)))) - (((g 6 (ix x2)) - (g 6 (ix x1))) * (x3 - (g 5 (ix x1))))) g)))))))
def wp_sp_turn (x1 : Int32) (x2 : Int32) (x3 : Int32) (g : St) (post : Int32 → St → Prop) : Prop :=
  (vp_in x3 16 ∧ (vp_in x3 16 ∧ (wp_sp_turnTo x1 x2 (g 5 (ix x3)) (g 6 (ix x3)) g (fun r2 g1 => (post r2 g1)))))
def wp_sp_squareFrom (x1 : Int32) (x2 : Int32) (g : St) (post : Int64 → St → Prop) : Prop :=
  (vp_in x2 16 ∧ (vp_in x1 16 ∧ (vp_in x2 16 ∧ (vp_in x1 16 ∧ (post ((((g 5 (ix x2)) - (g 5 (ix x1))).toInt64 * ((g 5 (ix x2)) - (g 5 (ix x1))).toInt64) + (((g 6 (ix x2)) - (g 6 (ix x1))).toInt64 * ((g 6 (ix x2)) - (g 6 (ix x1))).toInt64)) g)))))
def wp_sp_depthInCircle (x1 : Int32) (x2 : Int32) (x3 : Int32) (x4 : Int32) (g : St) (post : Int64 → St → Prop) : Prop :=
  (wp_sp_squareFrom x4 x1 g (fun r2 g1 => (wp_sp_turn x4 x2 x3 g1 (fun r4 g3 => (wp_sp_squareFrom x4 x2 g3 (fun r6 g5 => (wp_sp_turn x4 x1 x3 g5 (fun r8 g7 => (wp_sp_squareFrom x4 x3 g7 (fun r10 g9 => (wp_sp_turn x4 x1 x2 g9 (fun r12 g11 => (wp_sp_turn x1 x2 x3 g11 (fun r14 g13 => ((r14 ≤ 0 → (post (-(((r2 * r4.toInt64) - (r6 * r8.toInt64)) + (r10 * r12.toInt64))) g13)) ∧ (¬ (r14 ≤ 0) → (post (((r2 * r4.toInt64) - (r6 * r8.toInt64)) + (r10 * r12.toInt64)) g13)))))))))))))))))
def jn_sp_areOpposite_J15 (v1 : Int32) (v2 : Int32) (v4 : Int32) (s0 : Int32) (g : St) (post : Int32 → St → Prop) : Prop :=
  (wp_sp_turn v1 v2 v4 g (fun r4 g3 => ((r4 ≤ 0 → ((s0 = 0 → (post 0 g3)) ∧ (¬ (s0 = 0) → (post 1 g3)))) ∧ (¬ (r4 ≤ 0) → ((s0 = 1 → (post 0 g3)) ∧ (¬ (s0 = 1) → (post 1 g3)))))))
def wp_sp_areOpposite (x1 : Int32) (x2 : Int32) (x3 : Int32) (x4 : Int32) (g : St) (post : Int32 → St → Prop) : Prop :=
  (wp_sp_turn x1 x2 x3 g (fun r2 g1 => ((r2 ≤ 0 → (jn_sp_areOpposite_J15 x1 x2 x4 0 g1 post)) ∧ (¬ (r2 ≤ 0) → (jn_sp_areOpposite_J15 x1 x2 x4 1 g1 post)))))
def wp_sp_isInCircle (x1 : Int32) (x2 : Int32) (x3 : Int32) (x4 : Int32) (g : St) (post : Int32 → St → Prop) : Prop :=
  (wp_sp_depthInCircle x1 x2 x3 x4 g (fun r2 g1 => (((lg_cmp r2 0) = 0 → ((x4 ≤ x1 → (post 0 g1)) ∧ (¬ (x4 ≤ x1) → (wp_sp_areOpposite x1 x4 x2 x3 g1 (fun r4 g3 => ((¬ (r4 = 0) → (post 0 g3)) ∧ (r4 = 0 → (post 1 g3)))))))) ∧ (¬ ((lg_cmp r2 0) = 0) → (((lg_cmp r2 0) ≤ 0 → (post 0 g1)) ∧ (¬ ((lg_cmp r2 0) ≤ 0) → (post 1 g1)))))))
def lp_me_isTriangle_L15 : Nat → Int32 → Int32 → Int32 → Int32 → St → (St → Prop) → (Int32 → St → Prop) → Prop
  | 0, _, _, _, _, _, _, _ => False
  | n + 1, v1, v2, v3, v4, g, K62, post => (wp_sp_size g (fun r4 g3 => ((r4 ≤ v4 → (K62 g3)) ∧ (¬ (r4 ≤ v4) → ((v4 = v1 → (lp_me_isTriangle_L15 n v1 v2 v3 (v4 + 1) g3 K62 post)) ∧ (¬ (v4 = v1) → ((v4 = v2 → (lp_me_isTriangle_L15 n v1 v2 v3 (v4 + 1) g3 K62 post)) ∧ (¬ (v4 = v2) → ((v4 = v3 → (lp_me_isTriangle_L15 n v1 v2 v3 (v4 + 1) g3 K62 post)) ∧ (¬ (v4 = v3) → (wp_sp_isInCircle v1 v2 v3 v4 g3 (fun r6 g5 => ((r6 = 0 → (lp_me_isTriangle_L15 n v1 v2 v3 (v4 + 1) g5 K62 post)) ∧ (¬ (r6 = 0) → (post 0 g5)))))))))))))))
def wp_me_isTriangle (x1 : Int32) (x2 : Int32) (x3 : Int32) (g : St) (post : Int32 → St → Prop) : Prop :=
  (wp_sp_turn x1 x2 x3 g (fun r2 g1 => ((¬ (r2 = 0) → (∃ k15, lp_me_isTriangle_L15 k15 x1 x2 x3 0 g1 (fun g7 => (post 1 g7)) post)) ∧ (r2 = 0 → (post 0 g1)))))
def wp_me_addSides (x1 : Int32) (x2 : Int32) (x3 : Int32) (g : St) (post : St → Prop) : Prop :=
  (vp_in ((16 * x1) + x2) 256 ∧ ∀ g1 : St, g1 = gp g 9 (ix ((16 * x1) + x2)) x3 → (vp_in ((16 * x2) + x3) 256 ∧ ∀ g2 : St, g2 = gp g1 9 (ix ((16 * x2) + x3)) x1 → (vp_in ((16 * x3) + x1) 256 ∧ ∀ g3 : St, g3 = gp g2 9 (ix ((16 * x3) + x1)) x2 → (post g3))))
def wp_me_add (x1 : Int32) (x2 : Int32) (x3 : Int32) (x4 : Int32) (g : St) (post : St → Prop) : Prop :=
  (vp_in (3 * (g 2 2)) 81 ∧ ∀ g1 : St, g1 = gp g 8 (ix (3 * (g 2 2))) x1 → (vp_in ((3 * (g 2 2)) + 1) 81 ∧ ∀ g2 : St, g2 = gp g1 8 (ix ((3 * (g 2 2)) + 1)) x2 → (vp_in ((3 * (g 2 2)) + 2) 81 ∧ ∀ g3 : St, g3 = gp g2 8 (ix ((3 * (g 2 2)) + 2)) x3 → (∀ g4 : St, g4 = gp g3 2 2 ((g3 2 2) + 1) → ((x4 = 0 → (wp_me_addSides x1 x3 x2 g4 (fun g5 => (post g5)))) ∧ (¬ (x4 = 0) → (wp_me_addSides x1 x2 x3 g4 (fun g6 => (post g6)))))))))
def lp_me_rebuild_L31 : Nat → Int32 → Int32 → Int32 → St → (Int32 → Int32 → St → Prop) → (St → Prop) → Prop
  | 0, _, _, _, _, _, _ => False
  | n + 1, v2, v3, v4, g, K90, post => (wp_sp_size g (fun r7 g6 => ((r7 ≤ v4 → (K90 v2 v3 g6)) ∧ (¬ (r7 ≤ v4) → ((27 ≤ (g6 2 2) → (lp_me_rebuild_L31 n v2 v3 (v4 + 1) g6 K90 post)) ∧ (¬ (27 ≤ (g6 2 2)) → (wp_me_isTriangle v2 v3 v4 g6 (fun r9 g8 => ((r9 = 0 → (lp_me_rebuild_L31 n v2 v3 (v4 + 1) g8 K90 post)) ∧ (¬ (r9 = 0) → (wp_sp_turn v2 v3 v4 g8 (fun r11 g10 => ((0 ≤ r11 → (wp_me_add v2 v3 v4 0 g10 (fun g12 => (lp_me_rebuild_L31 n v2 v3 (v4 + 1) g12 K90 post)))) ∧ (¬ (0 ≤ r11) → (wp_me_add v2 v3 v4 1 g10 (fun g13 => (lp_me_rebuild_L31 n v2 v3 (v4 + 1) g13 K90 post)))))))))))))))))
def lp_me_rebuild_L18 : Nat → Int32 → Int32 → St → (Int32 → St → Prop) → (St → Prop) → Prop
  | 0, _, _, _, _, _ => False
  | n + 1, v2, v3, g, K96, post => (wp_sp_size g (fun r5 g4 => ((r5 ≤ v3 → (K96 v2 g4)) ∧ (¬ (r5 ≤ v3) → (∃ k31, lp_me_rebuild_L31 k31 v2 v3 (v3 + 1) g4 (fun w15 w16 g14 => (lp_me_rebuild_L18 n w15 (w16 + 1) g14 K96 post)) post)))))
def lp_me_rebuild_L6 : Nat → Int32 → St → (St → Prop) → (St → Prop) → Prop
  | 0, _, _, _, _ => False
  | n + 1, v2, g, K102, post => (wp_sp_size g (fun r3 g2 => ((r3 ≤ v2 → (K102 g2)) ∧ (¬ (r3 ≤ v2) → (∃ k18, lp_me_rebuild_L18 k18 v2 (v2 + 1) g2 (fun w18 g17 => (lp_me_rebuild_L6 n (w18 + 1) g17 K102 post)) post)))))
def wp_me_rebuild (g : St) (post : St → Prop) : Prop :=
  (wp_me_clear g (fun g1 => (∃ k6, lp_me_rebuild_L6 k6 0 g1 (fun g19 => (post g19)) post)))
def wp_floorDiv (x0 : Int32) (x1 : Int32) (g : St) (post : Int32 → St → Prop) : Prop :=
  (¬ x1 = 0 ∧ ((0 ≤ (x0 ^^^ x1) → (post (x0 / x1) g)) ∧ (¬ (0 ≤ (x0 ^^^ x1)) → ((((x0 / x1) * x1) = x0 → (post (x0 / x1) g)) ∧ (¬ (((x0 / x1) * x1) = x0) → (post ((x0 / x1) - 1) g))))))
def jn_me_heightIn_J42 (v3 : Int32) (v4 : Int32) (v5 : Int32) (v6 : Int32) (v7 : Int32) (s0 : Int32) (g : St) (post : Int32 → St → Prop) : Prop :=
  (wp_sp_turnTo v6 v7 v3 v4 g (fun r10 g9 => (wp_sp_turnTo v7 v5 v3 v4 g9 (fun r12 g11 => (wp_sp_turnTo v5 v6 v3 v4 g11 (fun r14 g13 => (((s0 * r10) < 0 → (post (-1) g13)) ∧ (¬ ((s0 * r10) < 0) → (((s0 * r12) < 0 → (post (-1) g13)) ∧ (¬ ((s0 * r12) < 0) → (((s0 * r14) < 0 → (post (-1) g13)) ∧ (¬ ((s0 * r14) < 0) → ((¬ ((((s0 * r10) + (s0 * r12)) + (s0 * r14)) = 0) → (wp_sp_height v5 g13 (fun r16 g15 => (wp_sp_height v6 g15 (fun r18 g17 => (wp_sp_height v7 g17 (fun r20 g19 => (wp_floorDiv ((((s0 * r10) * r16) + ((s0 * r12) * r18)) + ((s0 * r14) * r20)) (((s0 * r10) + (s0 * r12)) + (s0 * r14)) g19 (fun r22 g21 => (post r22 g21)))))))))) ∧ ((((s0 * r10) + (s0 * r12)) + (s0 * r14)) = 0 → (post (-1) g13)))))))))))))))
def wp_me_heightIn (x2 : Int32) (x3 : Int32) (x4 : Int32) (g : St) (post : Int32 → St → Prop) : Prop :=
  (wp_me_cornerOf x2 0 g (fun r2 g1 => (wp_me_cornerOf x2 1 g1 (fun r4 g3 => (wp_me_cornerOf x2 2 g3 (fun r6 g5 => (wp_sp_turn r2 r4 r6 g5 (fun r8 g7 => ((r8 ≤ 0 → (jn_me_heightIn_J42 x3 x4 r2 r4 r6 (-1) g7 post)) ∧ (¬ (r8 ≤ 0) → (jn_me_heightIn_J42 x3 x4 r2 r4 r6 1 g7 post)))))))))))
def lp_me_heightAt_L3 : Nat → Int32 → Int32 → Int32 → St → (St → Prop) → (Int32 → St → Prop) → Prop
  | 0, _, _, _, _, _, _ => False
  | n + 1, v2, v3, v4, g, K38, post => (((g 2 2) ≤ v4 → (K38 g)) ∧ (¬ ((g 2 2) ≤ v4) → (wp_me_heightIn v4 v2 v3 g (fun r2 g1 => ((r2 = (-1) → (lp_me_heightAt_L3 n v2 v3 (v4 + 1) g1 K38 post)) ∧ (¬ (r2 = (-1)) → (post r2 g1)))))))
def wp_me_heightAt (x2 : Int32) (x3 : Int32) (g : St) (post : Int32 → St → Prop) : Prop :=
  (∃ k3, lp_me_heightAt_L3 k3 x2 x3 0 g (fun g3 => (post (-1) g3)) post)
def wp_sp_isNumber (x1 : Int32) (g : St) (post : Int32 → St → Prop) : Prop :=
  ((x1 < 0 → (post 0 g)) ∧ (¬ (x1 < 0) → (((g 1 3) ≤ x1 → (post 0 g)) ∧ (¬ ((g 1 3) ≤ x1) → (post 1 g)))))
def wp_sp_y (x1 : Int32) (g : St) (post : Int32 → St → Prop) : Prop :=
  (vp_in x1 16 ∧ (post (g 6 (ix x1)) g))
def wp_sp_setHeight (x1 : Int32) (x2 : Int32) (g : St) (post : St → Prop) : Prop :=
  (vp_in x1 16 ∧ ∀ g1 : St, g1 = gp g 7 (ix x1) x2 → (post g1))
def lp_sp_isTaken_L2 : Nat → Int32 → Int32 → Int32 → St → (St → Prop) → (Int32 → St → Prop) → Prop
  | 0, _, _, _, _, _, _ => False
  | n + 1, v1, v2, v3, g, K38, post => (((g 1 3) ≤ v3 → (K38 g)) ∧ (¬ ((g 1 3) ≤ v3) → (vp_in v3 16 ∧ ((¬ ((g 5 (ix v3)) = v1) → (lp_sp_isTaken_L2 n v1 v2 (v3 + 1) g K38 post)) ∧ ((g 5 (ix v3)) = v1 → (vp_in v3 16 ∧ ((¬ ((g 6 (ix v3)) = v2) → (lp_sp_isTaken_L2 n v1 v2 (v3 + 1) g K38 post)) ∧ ((g 6 (ix v3)) = v2 → (post 1 g)))))))))
def wp_sp_isTaken (x1 : Int32) (x2 : Int32) (g : St) (post : Int32 → St → Prop) : Prop :=
  (∃ k2, lp_sp_isTaken_L2 k2 x1 x2 0 g (fun g1 => (post 0 g1)) post)
def wp_sp_add (x1 : Int32) (x2 : Int32) (x3 : Int32) (g : St) (post : Int32 → St → Prop) : Prop :=
  (vp_in (g 1 3) 16 ∧ ∀ g1 : St, g1 = gp g 5 (ix (g 1 3)) x1 → (vp_in (g1 1 3) 16 ∧ ∀ g2 : St, g2 = gp g1 6 (ix (g1 1 3)) x2 → (vp_in (g2 1 3) 16 ∧ ∀ g3 : St, g3 = gp g2 7 (ix (g2 1 3)) x3 → (∀ g4 : St, g4 = gp g3 1 3 ((g3 1 3) + 1) → (post ((g4 1 3) - 1) g4)))))
def wp_sp_crossingOf_5 (x2 : Int32) (x3 : Int32) (g : St) (post : Int32 → St → Prop) : Prop :=
  (wp_sc_highOf x2 g (fun r2 g1 => (wp_sc_lowOf x2 g1 (fun r4 g3 => (vp_in r2 16 ∧ (vp_in r4 16 ∧ ((0 < ((g3 7 (ix r2)) - (g3 7 (ix r4))) → (vp_in r2 16 ∧ (vp_in r4 16 ∧ (vp_in r4 16 ∧ (vp_in r4 16 ∧ (wp_floorDiv (((g3 5 (ix r2)) - (g3 5 (ix r4))) * (((2 * x3) + 1) - (2 * (g3 7 (ix r4))))) (2 * ((g3 7 (ix r2)) - (g3 7 (ix r4)))) g3 (fun r6 g5 => (post ((g3 5 (ix r4)) + r6) g5)))))))) ∧ (¬ (0 < ((g3 7 (ix r2)) - (g3 7 (ix r4)))) → (vp_in r4 16 ∧ (post (g3 5 (ix r4)) g3))))))))))
def wp_sp_crossingOf_6 (x2 : Int32) (x3 : Int32) (g : St) (post : Int32 → St → Prop) : Prop :=
  (wp_sc_highOf x2 g (fun r2 g1 => (wp_sc_lowOf x2 g1 (fun r4 g3 => (vp_in r2 16 ∧ (vp_in r4 16 ∧ ((0 < ((g3 7 (ix r2)) - (g3 7 (ix r4))) → (vp_in r2 16 ∧ (vp_in r4 16 ∧ (vp_in r4 16 ∧ (vp_in r4 16 ∧ (wp_floorDiv (((g3 6 (ix r2)) - (g3 6 (ix r4))) * (((2 * x3) + 1) - (2 * (g3 7 (ix r4))))) (2 * ((g3 7 (ix r2)) - (g3 7 (ix r4)))) g3 (fun r6 g5 => (post ((g3 6 (ix r4)) + r6) g5)))))))) ∧ (¬ (0 < ((g3 7 (ix r2)) - (g3 7 (ix r4)))) → (vp_in r4 16 ∧ (post (g3 6 (ix r4)) g3))))))))))
def wp_sp_crossingX (x1 : Int32) (x2 : Int32) (g : St) (post : Int32 → St → Prop) : Prop :=
  (wp_sp_crossingOf_5 x1 x2 g (fun r2 g1 => (post r2 g1)))
def wp_sp_crossingY (x1 : Int32) (x2 : Int32) (g : St) (post : Int32 → St → Prop) : Prop :=
  (wp_sp_crossingOf_6 x1 x2 g (fun r2 g1 => (post r2 g1)))
def wp_ta_size (g : St) (post : Int32 → St → Prop) : Prop :=
  (post (g 4 3) g)
def wp_ta_isFull (g : St) (post : Int32 → St → Prop) : Prop :=
  (((g 4 3) < 20 → (post 0 g)) ∧ (¬ ((g 4 3) < 20) → (post 1 g)))
def wp_ta_level (x1 : Int32) (g : St) (post : Int32 → St → Prop) : Prop :=
  (vp_in x1 20 ∧ (post (g 15 (ix x1)) g))
def wp_ta_x (x1 : Int32) (g : St) (post : Int32 → St → Prop) : Prop :=
  (vp_in x1 20 ∧ (post (g 16 (ix x1)) g))
def wp_ta_y (x1 : Int32) (g : St) (post : Int32 → St → Prop) : Prop :=
  (vp_in x1 20 ∧ (post (g 17 (ix x1)) g))
def wp_ta_add (x1 : Int32) (x2 : Int32) (x3 : Int32) (g : St) (post : St → Prop) : Prop :=
  (vp_in (g 4 3) 20 ∧ ∀ g1 : St, g1 = gp g 15 (ix (g 4 3)) x1 → (vp_in (g1 4 3) 20 ∧ ∀ g2 : St, g2 = gp g1 16 (ix (g1 4 3)) x2 → (vp_in (g2 4 3) 20 ∧ ∀ g3 : St, g3 = gp g2 17 (ix (g2 4 3)) x3 → (∀ g4 : St, g4 = gp g3 4 3 ((g3 4 3) + 1) → (post g4)))))
def wp_ta_cutTo (x1 : Int32) (g : St) (post : St → Prop) : Prop :=
  (∀ g1 : St, g1 = gp g 4 3 x1 → (post g1))
def lp_ta_coversSpot_L2 : Nat → Int32 → Int32 → Int32 → St → (St → Prop) → (Int32 → St → Prop) → Prop
  | 0, _, _, _, _, _, _ => False
  | n + 1, v1, v2, v3, g, K46, post => (wp_sp_size g (fun r2 g1 => ((r2 ≤ v3 → (K46 g1)) ∧ (¬ (r2 ≤ v3) → (wp_sp_x v3 g1 (fun r4 g3 => ((3 < (if 0 ≤ (r4 - v1) then (r4 - v1) else 0 - (r4 - v1)) → (lp_ta_coversSpot_L2 n v1 v2 (v3 + 1) g3 K46 post)) ∧ (¬ (3 < (if 0 ≤ (r4 - v1) then (r4 - v1) else 0 - (r4 - v1))) → (wp_sp_y v3 g3 (fun r6 g5 => ((1 < (if 0 ≤ (r6 - v2) then (r6 - v2) else 0 - (r6 - v2)) → (lp_ta_coversSpot_L2 n v1 v2 (v3 + 1) g5 K46 post)) ∧ (¬ (1 < (if 0 ≤ (r6 - v2) then (r6 - v2) else 0 - (r6 - v2))) → (post 1 g5)))))))))))))
def wp_ta_coversSpot (x1 : Int32) (x2 : Int32) (g : St) (post : Int32 → St → Prop) : Prop :=
  (∃ k2, lp_ta_coversSpot_L2 k2 x1 x2 0 g (fun g7 => (post 0 g7)) post)
def lp_ta_clashesAt_L2 : Nat → Int32 → Int32 → Int32 → St → (St → Prop) → (Int32 → St → Prop) → Prop
  | 0, _, _, _, _, _, _ => False
  | n + 1, v1, v2, v3, g, K49, post => (((g 4 3) ≤ v3 → (K49 g)) ∧ (¬ ((g 4 3) ≤ v3) → (vp_in v3 20 ∧ ((6 < (if 0 ≤ ((g 16 (ix v3)) - v1) then ((g 16 (ix v3)) - v1) else 0 - ((g 16 (ix v3)) - v1)) → (lp_ta_clashesAt_L2 n v1 v2 (v3 + 1) g K49 post)) ∧ (¬ (6 < (if 0 ≤ ((g 16 (ix v3)) - v1) then ((g 16 (ix v3)) - v1) else 0 - ((g 16 (ix v3)) - v1))) → (vp_in v3 20 ∧ ((2 < (if 0 ≤ ((g 17 (ix v3)) - v2) then ((g 17 (ix v3)) - v2) else 0 - ((g 17 (ix v3)) - v2)) → (lp_ta_clashesAt_L2 n v1 v2 (v3 + 1) g K49 post)) ∧ (¬ (2 < (if 0 ≤ ((g 17 (ix v3)) - v2) then ((g 17 (ix v3)) - v2) else 0 - ((g 17 (ix v3)) - v2))) → (post 1 g)))))))))
def wp_ta_clashesAt (x1 : Int32) (x2 : Int32) (g : St) (post : Int32 → St → Prop) : Prop :=
  (∃ k2, lp_ta_clashesAt_L2 k2 x1 x2 0 g (fun g1 => (post 0 g1)) post)
def wp_sc_isOnMap (x0 : Int32) (x1 : Int32) (g : St) (post : Int32 → St → Prop) : Prop :=
  ((x0 < 0 → (post 0 g)) ∧ (¬ (x0 < 0) → ((64 ≤ x0 → (post 0 g)) ∧ (¬ (64 ≤ x0) → ((x1 < 0 → (post 0 g)) ∧ (¬ (x1 < 0) → ((64 ≤ x1 → (post 0 g)) ∧ (¬ (64 ≤ x1) → (post 1 g)))))))))
def wp_sc_isHeight (x0 : Int32) (g : St) (post : Int32 → St → Prop) : Prop :=
  ((x0 < 0 → (post 0 g)) ∧ (¬ (x0 < 0) → ((999 < x0 → (post 0 g)) ∧ (¬ (999 < x0) → (post 1 g)))))
def wp_sc_spot (x1 : Int32) (x2 : Int32) (x3 : Int32) (g : St) (post : Int32 → St → Prop) (px : Nat → St → Prop) : Prop :=
  (wp_sc_isOnMap x1 x2 g (fun r2 g1 => ((r2 = 0 → (px 0 g1)) ∧ (¬ (r2 = 0) → (wp_sc_isHeight x3 g1 (fun r4 g3 => ((r4 = 0 → (px 0 g3)) ∧ (¬ (r4 = 0) → (wp_sp_isTaken x1 x2 g3 (fun r6 g5 => ((r6 = 0 → (wp_sp_size g5 (fun r8 g7 => ((r8 < 16 → (wp_sp_add x1 x2 x3 g7 (fun r10 g9 => (wp_me_rebuild g9 (fun g11 => (wp_ta_cutTo 0 g11 (fun g12 => (post r10 g12)))))))) ∧ (¬ (r8 < 16) → (px 1 g7)))))) ∧ (¬ (r6 = 0) → (px 0 g5)))))))))))))
def wp_sc_raise (x1 : Int32) (x2 : Int32) (g : St) (post : Int32 → St → Prop) (px : Nat → St → Prop) : Prop :=
  (wp_sp_isNumber x1 g (fun r2 g1 => ((¬ (r2 = 0) → (wp_sc_isHeight x2 g1 (fun r4 g3 => ((¬ (r4 = 0) → (wp_sp_height x1 g3 (fun r6 g5 => (wp_sp_setHeight x1 x2 g5 (fun g7 => (wp_ta_cutTo 0 g7 (fun g8 => (post r6 g8)))))))) ∧ (r4 = 0 → (px 0 g3)))))) ∧ (r2 = 0 → (px 2 g1)))))
def wp_sc_triangles (g : St) (post : Int32 → St → Prop) : Prop :=
  (wp_me_size g (fun r2 g1 => (post r2 g1)))
def wp_sc_corner (x1 : Int32) (x2 : Int32) (g : St) (post : Int32 → St → Prop) (px : Nat → St → Prop) : Prop :=
  ((x1 < 0 → (px 2 g)) ∧ (¬ (x1 < 0) → (wp_me_size g (fun r2 g1 => ((r2 ≤ x1 → (px 2 g1)) ∧ (¬ (r2 ≤ x1) → ((x2 < 0 → (px 2 g1)) ∧ (¬ (x2 < 0) → ((x2 < 3 → (wp_me_cornerOf x1 x2 g1 (fun r4 g3 => (post r4 g3)))) ∧ (¬ (x2 < 3) → (px 2 g1)))))))))))
def wp_sc_edge (x1 : Int32) (x2 : Int32) (g : St) (post : Int32 → St → Prop) (px : Nat → St → Prop) : Prop :=
  (wp_sp_isNumber x1 g (fun r2 g1 => ((r2 = 0 → (px 2 g1)) ∧ (¬ (r2 = 0) → (wp_sp_isNumber x2 g1 (fun r4 g3 => ((¬ (r4 = 0) → (wp_me_sharing x1 x2 g3 (fun r6 g5 => (post r6 g5)))) ∧ (r4 = 0 → (px 2 g3)))))))))
def jn_sc_at_J25 (s0 : Int32) (g : St) (post : Int32 → St → Prop) (px : Nat → St → Prop) : Prop :=
  ((¬ (s0 = (-1)) → (post s0 g)) ∧ (s0 = (-1) → (px 3 g)))
def wp_sc_at (x1 : Int32) (x2 : Int32) (g : St) (post : Int32 → St → Prop) (px : Nat → St → Prop) : Prop :=
  (wp_sc_isOnMap x1 x2 g (fun r2 g1 => ((r2 = 0 → (jn_sc_at_J25 (-1) g1 post px)) ∧ (¬ (r2 = 0) → (wp_me_heightAt x1 x2 g1 (fun r4 g3 => (jn_sc_at_J25 r4 g3 post px)))))))
def wp_sc_traceLevel (x1 : Int32) (g : St) (post : St → Prop) (px : Nat → St → Prop) : Prop :=
  ((x1 < 0 → (px 0 g)) ∧ (¬ (x1 < 0) → ((x1 ≤ 998 → (wp_li_trace x1 g (fun g1 => (post g1)))) ∧ (¬ (x1 ≤ 998) → (px 0 g)))))
def wp_sc_contours (x1 : Int32) (g : St) (post : Int32 → St → Prop) (px : Nat → St → Prop) : Prop :=
  (wp_sc_traceLevel x1 g (fun g1 => (wp_li_size g1 (fun r3 g2 => (post r3 g2)))) px)
def wp_sc_contour (x1 : Int32) (x2 : Int32) (g : St) (post : Int32 → St → Prop) (px : Nat → St → Prop) : Prop :=
  (wp_sc_traceLevel x1 g (fun g1 => (wp_li_isLine x2 g1 (fun r3 g2 => ((¬ (r3 = 0) → (wp_li_length x2 g2 (fun r5 g4 => (wp_li_isRing x2 g4 (fun r7 g6 => ((¬ (r7 = 0) → (wp_li_isHollow x2 g6 (fun r9 g8 => ((r9 = 0 → (post (r5 + 1000) g8)) ∧ (¬ (r9 = 0) → (post (r5 + 2000) g8)))))) ∧ (r7 = 0 → (post r5 g6)))))))) ∧ (r3 = 0 → (px 2 g2)))))) px)
def wp_sc_pairAt (x1 : Int32) (x2 : Int32) (g : St) (post : Int32 → St → Prop) (px : Nat → St → Prop) : Prop :=
  (wp_li_isLine x1 g (fun r2 g1 => ((r2 = 0 → (px 2 g1)) ∧ (¬ (r2 = 0) → ((x2 < 0 → (px 2 g1)) ∧ (¬ (x2 < 0) → (wp_li_length x1 g1 (fun r4 g3 => ((x2 < r4 → (wp_li_pair x1 x2 g3 (fun r6 g5 => (post r6 g5)))) ∧ (¬ (x2 < r4) → (px 2 g3)))))))))))
def wp_sc_crossing (x1 : Int32) (x2 : Int32) (x3 : Int32) (g : St) (post : Int32 → St → Prop) (px : Nat → St → Prop) : Prop :=
  (wp_sc_traceLevel x1 g (fun g1 => (wp_sc_pairAt x2 x3 g1 (fun r3 g2 => (wp_sc_highOf r3 g2 (fun r5 g4 => (wp_sc_lowOf r3 g4 (fun r7 g6 => (post ((16 * (if r7 < r5 then r7 else r5)) + (if r5 < r7 then r7 else r5)) g6)))))) px)) px)
def wp_sc_place (x1 : Int32) (x2 : Int32) (x3 : Int32) (g : St) (post : Int32 → St → Prop) (px : Nat → St → Prop) : Prop :=
  (wp_sc_traceLevel x1 g (fun g1 => (wp_sc_pairAt x2 x3 g1 (fun r3 g2 => (wp_sp_crossingX r3 x1 g2 (fun r5 g4 => (wp_sp_crossingY r3 x1 g4 (fun r7 g6 => (post ((64 * r5) + r7) g6)))))) px)) px)
def lp_sc_firstFreePair_L2 : Nat → Int32 → Int32 → Int32 → St → (St → Prop) → (Int32 → St → Prop) → Prop
  | 0, _, _, _, _, _, _ => False
  | n + 1, v1, v2, v3, g, K86, post => (wp_li_length v2 g (fun r2 g1 => ((r2 ≤ v3 → (K86 g1)) ∧ (¬ (r2 ≤ v3) → (wp_li_pair v2 v3 g1 (fun r4 g3 => (wp_sp_crossingX r4 v1 g3 (fun r6 g5 => (wp_sp_crossingY r4 v1 g5 (fun r8 g7 => (wp_ta_coversSpot r6 r8 g7 (fun r10 g9 => ((¬ (r10 = 0) → (lp_sc_firstFreePair_L2 n v1 v2 (v3 + 1) g9 K86 post)) ∧ (r10 = 0 → (wp_ta_clashesAt r6 r8 g9 (fun r12 g11 => ((¬ (r12 = 0) → (lp_sc_firstFreePair_L2 n v1 v2 (v3 + 1) g11 K86 post)) ∧ (r12 = 0 → (post r4 g11)))))))))))))))))))
def wp_sc_firstFreePair (x1 : Int32) (x2 : Int32) (g : St) (post : Int32 → St → Prop) : Prop :=
  (∃ k2, lp_sc_firstFreePair_L2 k2 x1 x2 0 g (fun g13 => (post (-1) g13)) post)
def lp_sc_label_L15 : Nat → Int32 → Int32 → Int32 → St → (Int32 → St → Prop) → (Int32 → St → Prop) → (Nat → St → Prop) → Prop
  | 0, _, _, _, _, _, _, _ => False
  | n + 1, v1, v2, v3, g, K103, post, px => (wp_li_size g (fun r5 g4 => ((r5 ≤ v3 → (K103 v2 g4)) ∧ (¬ (r5 ≤ v3) → (wp_sc_firstFreePair v1 v3 g4 (fun r7 g6 => ((¬ (r7 = (-1)) → (wp_ta_isFull g6 (fun r9 g8 => ((r9 = 0 → (wp_sp_crossingX r7 v1 g8 (fun r11 g10 => (wp_sp_crossingY r7 v1 g10 (fun r13 g12 => (wp_ta_add v1 r11 r13 g12 (fun g14 => (lp_sc_label_L15 n v1 v2 (v3 + 1) g14 K103 post px)))))))) ∧ (¬ (r9 = 0) → (wp_ta_cutTo v2 g8 (fun g15 => (px 1 g15)))))))) ∧ (r7 = (-1) → (lp_sc_label_L15 n v1 v2 (v3 + 1) g6 K103 post px)))))))))
def wp_sc_label (x1 : Int32) (g : St) (post : Int32 → St → Prop) (px : Nat → St → Prop) : Prop :=
  (wp_sc_traceLevel x1 g (fun g1 => (wp_ta_size g1 (fun r3 g2 => (∃ k15, lp_sc_label_L15 k15 x1 r3 0 g2 (fun w17 g16 => (wp_ta_size g16 (fun r19 g18 => (post (r19 - w17) g18)))) post px)))) px)
def wp_sc_labels (g : St) (post : Int32 → St → Prop) : Prop :=
  (wp_ta_size g (fun r2 g1 => (post r2 g1)))
def wp_sc_labelOf (x1 : Int32) (x2 : Int32) (g : St) (post : Int32 → St → Prop) (px : Nat → St → Prop) : Prop :=
  ((x1 < 0 → (px 2 g)) ∧ (¬ (x1 < 0) → (wp_ta_size g (fun r2 g1 => ((x1 < r2 → ((x2 = 0 → (wp_ta_level x1 g1 (fun r4 g3 => (post r4 g3)))) ∧ (x2 = 1 → (wp_ta_x x1 g1 (fun r6 g5 => (post r6 g5)))) ∧ (x2 = 2 → (wp_ta_y x1 g1 (fun r8 g7 => (post r8 g7)))) ∧ (¬ x2 = 0 → ¬ x2 = 1 → ¬ x2 = 2 → (px 0 g1)))) ∧ (¬ (x1 < r2) → (px 2 g1)))))))
def wp_sc_wipe (g : St) (post : Int32 → St → Prop) : Prop :=
  (wp_ta_size g (fun r2 g1 => (wp_ta_cutTo 0 g1 (fun g3 => (post r2 g3)))))
def wp_mo_thrown (g : St) (post : Int32 → St → Prop) : Prop :=
  (post (g 0 0) g)
def wp_mo_isSpot (x1 : Int32) (g : St) (post : Int32 → St → Prop) : Prop :=
  ((x1 < 0 → (post 0 g)) ∧ (¬ (x1 < 0) → (((g 0 1) ≤ x1 → (post 0 g)) ∧ (¬ ((g 0 1) ≤ x1) → (post 1 g)))))
def wp_mo_turn (x1 : Int32) (x2 : Int32) (x3 : Int32) (g : St) (post : Int32 → St → Prop) : Prop :=
  (vp_in x2 16 ∧ (vp_in x1 16 ∧ (vp_in x3 16 ∧ (vp_in x1 16 ∧ (vp_in x2 16 ∧ (vp_in x1 16 ∧ (vp_in x3 16 ∧ (vp_in x1 16 ∧ (post ((((g 1 (ix x2)) - (g 1 (ix x1))) * ((g 2 (ix x3)) - (g 2 (ix x1)))) - (((g 2 (ix x2)) - (g 2 (ix x1))) * ((g 1 (ix x3)) - (g 1 (ix x1))))) g)))))))))
def wp_mo_square (x1 : Int32) (x2 : Int32) (g : St) (post : Int64 → St → Prop) : Prop :=
  (vp_in x1 16 ∧ (vp_in x2 16 ∧ (vp_in x1 16 ∧ (vp_in x2 16 ∧ (vp_in x1 16 ∧ (vp_in x2 16 ∧ (vp_in x1 16 ∧ (vp_in x2 16 ∧ (post ((((g 1 (ix x1)) - (g 1 (ix x2))).toInt64 * ((g 1 (ix x1)) - (g 1 (ix x2))).toInt64) + (((g 2 (ix x1)) - (g 2 (ix x2))).toInt64 * ((g 2 (ix x1)) - (g 2 (ix x2))).toInt64)) g)))))))))
def wp_mo_inside (x1 : Int32) (x2 : Int32) (x3 : Int32) (x4 : Int32) (g : St) (post : Int64 → St → Prop) : Prop :=
  (wp_mo_square x1 x4 g (fun r2 g1 => (wp_mo_turn x4 x2 x3 g1 (fun r4 g3 => (wp_mo_square x2 x4 g3 (fun r6 g5 => (wp_mo_turn x4 x3 x1 g5 (fun r8 g7 => (wp_mo_square x3 x4 g7 (fun r10 g9 => (wp_mo_turn x4 x1 x2 g9 (fun r12 g11 => (wp_mo_turn x1 x2 x3 g11 (fun r14 g13 => ((r14 ≤ 0 → (post (-(((r2 * r4.toInt64) + (r6 * r8.toInt64)) + (r10 * r12.toInt64))) g13)) ∧ (¬ (r14 ≤ 0) → (post (((r2 * r4.toInt64) + (r6 * r8.toInt64)) + (r10 * r12.toInt64)) g13)))))))))))))))))
def jn_mo_parts_J15 (v1 : Int32) (v2 : Int32) (v4 : Int32) (s0 : Int32) (g : St) (post : Int32 → St → Prop) : Prop :=
  (wp_mo_turn v1 v2 v4 g (fun r4 g3 => ((r4 ≤ 0 → ((s0 = 0 → (post 0 g3)) ∧ (¬ (s0 = 0) → (post 1 g3)))) ∧ (¬ (r4 ≤ 0) → ((s0 = 1 → (post 0 g3)) ∧ (¬ (s0 = 1) → (post 1 g3)))))))
def wp_mo_parts (x1 : Int32) (x2 : Int32) (x3 : Int32) (x4 : Int32) (g : St) (post : Int32 → St → Prop) : Prop :=
  (wp_mo_turn x1 x2 x3 g (fun r2 g1 => ((r2 ≤ 0 → (jn_mo_parts_J15 x1 x2 x4 0 g1 post)) ∧ (¬ (r2 ≤ 0) → (jn_mo_parts_J15 x1 x2 x4 1 g1 post)))))
def jn_mo_isIn_J106 (v4 : Int32) (v7 : Int32) (s0 : Int32) (g : St) (post : Int32 → St → Prop) : Prop :=
  ((s0 = v4 → (post 0 g)) ∧ (¬ (s0 = v4) → ((s0 = v7 → (post 0 g)) ∧ (¬ (s0 = v7) → (post 1 g)))))
def jn_mo_isIn_J90 (v4 : Int32) (v7 : Int32) (s0 : Int32) (g : St) (post : Int32 → St → Prop) : Prop :=
  ((s0 ≤ v4 → (jn_mo_isIn_J106 v4 v7 s0 g post)) ∧ (¬ (s0 ≤ v4) → (jn_mo_isIn_J106 v4 v7 v4 g post)))
def jn_mo_isIn_J76 (v3 : Int32) (v4 : Int32) (v7 : Int32) (s0 : Int32) (g : St) (post : Int32 → St → Prop) : Prop :=
  ((s0 ≤ v3 → (jn_mo_isIn_J90 v4 v7 s0 g post)) ∧ (¬ (s0 ≤ v3) → (jn_mo_isIn_J90 v4 v7 v3 g post)))
def jn_mo_isIn_J64 (v1 : Int32) (v2 : Int32) (v3 : Int32) (v4 : Int32) (s0 : Int32) (g : St) (post : Int32 → St → Prop) : Prop :=
  ((v2 ≤ v1 → (jn_mo_isIn_J76 v3 v4 s0 v2 g post)) ∧ (¬ (v2 ≤ v1) → (jn_mo_isIn_J76 v3 v4 s0 v1 g post)))
def wp_mo_isIn (x1 : Int32) (x2 : Int32) (x3 : Int32) (x4 : Int32) (g : St) (post : Int32 → St → Prop) : Prop :=
  (wp_mo_inside x1 x2 x3 x4 g (fun r2 g1 => (((lg_cmp r2 0) = 0 → (wp_mo_parts x4 x1 x2 x3 g1 (fun r4 g3 => ((r4 = 0 → (wp_mo_parts x4 x2 x1 x3 g3 (fun r6 g5 => ((r6 = 0 → (jn_mo_isIn_J64 x1 x2 x3 x4 x3 g5 post)) ∧ (¬ (r6 = 0) → (jn_mo_isIn_J64 x1 x2 x3 x4 x2 g5 post)))))) ∧ (¬ (r4 = 0) → (jn_mo_isIn_J64 x1 x2 x3 x4 x1 g3 post)))))) ∧ (¬ ((lg_cmp r2 0) = 0) → (((lg_cmp r2 0) ≤ 0 → (post 0 g1)) ∧ (¬ ((lg_cmp r2 0) ≤ 0) → (post 1 g1)))))))
def lp_mo_isTriangle_L18 : Nat → Int32 → Int32 → Int32 → Int32 → Int32 → St → (Int32 → St → Prop) → (Int32 → St → Prop) → Prop
  | 0, _, _, _, _, _, _, _, _ => False
  | n + 1, v1, v2, v3, v4, v5, g, K75, post => (((g 0 1) ≤ v5 → (K75 v4 g)) ∧ (¬ ((g 0 1) ≤ v5) → ((v4 = 0 → (K75 v4 g)) ∧ (¬ (v4 = 0) → ((v5 = v1 → (lp_mo_isTriangle_L18 n v1 v2 v3 1 (v5 + 1) g K75 post)) ∧ (¬ (v5 = v1) → ((v5 = v2 → (lp_mo_isTriangle_L18 n v1 v2 v3 1 (v5 + 1) g K75 post)) ∧ (¬ (v5 = v2) → ((v5 = v3 → (lp_mo_isTriangle_L18 n v1 v2 v3 1 (v5 + 1) g K75 post)) ∧ (¬ (v5 = v3) → (wp_mo_isIn v1 v2 v3 v5 g (fun r4 g3 => ((¬ (r4 = 0) → (lp_mo_isTriangle_L18 n v1 v2 v3 0 (v5 + 1) g3 K75 post)) ∧ (r4 = 0 → (lp_mo_isTriangle_L18 n v1 v2 v3 1 (v5 + 1) g3 K75 post)))))))))))))))
def wp_mo_isTriangle (x1 : Int32) (x2 : Int32) (x3 : Int32) (g : St) (post : Int32 → St → Prop) : Prop :=
  (wp_mo_turn x1 x2 x3 g (fun r2 g1 => ((¬ (r2 = 0) → (∃ k18, lp_mo_isTriangle_L18 k18 x1 x2 x3 1 0 g1 (fun w6 g5 => (narrow .boolean (.int w6) = .int w6 ∧ post w6 g5)) post)) ∧ (r2 = 0 → (post 0 g1)))))
def lp_mo_findTriangles_L31 : Nat → Int32 → Int32 → Int32 → St → (Int32 → Int32 → St → Prop) → (St → Prop) → Prop
  | 0, _, _, _, _, _, _ => False
  | n + 1, v1, v2, v3, g, K105, post => (((g 0 1) ≤ v3 → (K105 v1 v2 g)) ∧ (¬ ((g 0 1) ≤ v3) → (wp_mo_isTriangle v1 v2 v3 g (fun r3 g2 => ((r3 = 0 → (lp_mo_findTriangles_L31 n v1 v2 (v3 + 1) g2 K105 post)) ∧ (¬ (r3 = 0) → (vp_in (3 * (g2 0 5)) 150 ∧ ∀ g4 : St, g4 = gp g2 4 (ix (3 * (g2 0 5))) v1 → (vp_in ((3 * (g4 0 5)) + 1) 150 ∧ ∀ g5 : St, g5 = gp g4 4 (ix ((3 * (g4 0 5)) + 1)) v2 → (vp_in ((3 * (g5 0 5)) + 2) 150 ∧ ∀ g6 : St, g6 = gp g5 4 (ix ((3 * (g5 0 5)) + 2)) v3 → (∀ g7 : St, g7 = gp g6 0 5 ((g6 0 5) + 1) → (lp_mo_findTriangles_L31 n v1 v2 (v3 + 1) g7 K105 post)))))))))))
def lp_mo_findTriangles_L19 : Nat → Int32 → Int32 → St → (Int32 → St → Prop) → (St → Prop) → Prop
  | 0, _, _, _, _, _ => False
  | n + 1, v1, v2, g, K111, post => (((g 0 1) ≤ v2 → (K111 v1 g)) ∧ (¬ ((g 0 1) ≤ v2) → (∃ k31, lp_mo_findTriangles_L31 k31 v1 v2 (v2 + 1) g (fun w9 w10 g8 => (lp_mo_findTriangles_L19 n w9 (w10 + 1) g8 K111 post)) post)))
def lp_mo_findTriangles_L7 : Nat → Int32 → St → (St → Prop) → (St → Prop) → Prop
  | 0, _, _, _, _ => False
  | n + 1, v1, g, K117, post => (((g 0 1) ≤ v1 → (K117 g)) ∧ (¬ ((g 0 1) ≤ v1) → (∃ k19, lp_mo_findTriangles_L19 k19 v1 (v1 + 1) g (fun w12 g11 => (lp_mo_findTriangles_L7 n (w12 + 1) g11 K117 post)) post)))
def wp_mo_findTriangles (g : St) (post : St → Prop) : Prop :=
  (∀ g1 : St, g1 = gp g 0 5 0 → (∃ k7, lp_mo_findTriangles_L7 k7 0 g1 (fun g13 => (post g13)) post))
def lp_mo_spot_L41 : Nat → Int32 → Int32 → Int32 → Int32 → Int32 → St → (Int32 → Int32 → Int32 → Int32 → St → Prop) → (Int32 → St → Prop) → Prop
  | 0, _, _, _, _, _, _, _, _ => False
  | n + 1, v1, v2, v3, v4, v5, g, K90, post => (((g 0 1) ≤ v5 → (K90 v1 v2 v3 v4 g)) ∧ (¬ ((g 0 1) ≤ v5) → ((¬ (v4 = 0) → (lp_mo_spot_L41 n v1 v2 v3 1 (v5 + 1) g K90 post)) ∧ (v4 = 0 → (vp_in v5 16 ∧ ((¬ ((g 1 (ix v5)) = v1) → (lp_mo_spot_L41 n v1 v2 v3 0 (v5 + 1) g K90 post)) ∧ ((g 1 (ix v5)) = v1 → (vp_in v5 16 ∧ ((¬ ((g 2 (ix v5)) = v2) → (lp_mo_spot_L41 n v1 v2 v3 0 (v5 + 1) g K90 post)) ∧ ((g 2 (ix v5)) = v2 → (lp_mo_spot_L41 n v1 v2 v3 1 (v5 + 1) g K90 post)))))))))))
def jn_mo_spot_J114 (v1 : Int32) (v2 : Int32) (v3 : Int32) (s1 : Int32) (g : St) (post : Int32 → St → Prop) : Prop :=
  (∀ g6 : St, g6 = gp g 0 0 s1 → (((g6 0 0) = 0 → (vp_in (g6 0 1) 16 ∧ ∀ g7 : St, g7 = gp g6 1 (ix (g6 0 1)) v1 → (vp_in (g7 0 1) 16 ∧ ∀ g8 : St, g8 = gp g7 2 (ix (g7 0 1)) v2 → (vp_in (g8 0 1) 16 ∧ ∀ g9 : St, g9 = gp g8 3 (ix (g8 0 1)) v3 → (∀ g10 : St, g10 = gp g9 0 1 ((g9 0 1) + 1) → (∀ g11 : St, g11 = gp g10 0 17 0 → (wp_mo_findTriangles g11 (fun g12 => (post ((g12 0 1) - 1) g12))))))))) ∧ (¬ ((g6 0 0) = 0) → (post 0 g6))))
def jn_mo_spot_J36 (v1 : Int32) (v2 : Int32) (v3 : Int32) (s0 : Int32) (g : St) (post : Int32 → St → Prop) : Prop :=
  (∃ k41, lp_mo_spot_L41 k41 v1 v2 v3 s0 0 g (fun w2 w3 w4 w5 g1 => ((w5 = 0 → ((¬ ((g1 0 1) = 16) → (jn_mo_spot_J114 w2 w3 w4 0 g1 post)) ∧ ((g1 0 1) = 16 → (jn_mo_spot_J114 w2 w3 w4 2 g1 post)))) ∧ (¬ (w5 = 0) → (jn_mo_spot_J114 w2 w3 w4 1 g1 post)))) post)
def jn_mo_spot_J31 (v1 : Int32) (v2 : Int32) (v3 : Int32) (g : St) (post : Int32 → St → Prop) : Prop :=
  (jn_mo_spot_J36 v1 v2 v3 1 g post)
def wp_mo_spot (x1 : Int32) (x2 : Int32) (x3 : Int32) (g : St) (post : Int32 → St → Prop) : Prop :=
  ((x1 < 0 → (jn_mo_spot_J31 x1 x2 x3 g post)) ∧ (¬ (x1 < 0) → ((63 < x1 → (jn_mo_spot_J31 x1 x2 x3 g post)) ∧ (¬ (63 < x1) → ((x2 < 0 → (jn_mo_spot_J31 x1 x2 x3 g post)) ∧ (¬ (x2 < 0) → ((63 < x2 → (jn_mo_spot_J31 x1 x2 x3 g post)) ∧ (¬ (63 < x2) → ((x3 < 0 → (jn_mo_spot_J31 x1 x2 x3 g post)) ∧ (¬ (x3 < 0) → ((x3 ≤ 999 → (jn_mo_spot_J36 x1 x2 x3 0 g post)) ∧ (¬ (x3 ≤ 999) → (jn_mo_spot_J31 x1 x2 x3 g post)))))))))))))
def jn_mo_raise_J29 (v1 : Int32) (v2 : Int32) (s1 : Int32) (g : St) (post : Int32 → St → Prop) : Prop :=
  (∀ g3 : St, g3 = gp g 0 0 s1 → (((g3 0 0) = 0 → (vp_in v1 16 ∧ (vp_in v1 16 ∧ ∀ g4 : St, g4 = gp g3 3 (ix v1) v2 → (∀ g5 : St, g5 = gp g4 0 17 0 → (post (g3 3 (ix v1)) g5))))) ∧ (¬ ((g3 0 0) = 0) → (post 0 g3))))
def jn_mo_raise_J24 (v1 : Int32) (v2 : Int32) (g : St) (post : Int32 → St → Prop) : Prop :=
  (jn_mo_raise_J29 v1 v2 2 g post)
def wp_mo_raise (x1 : Int32) (x2 : Int32) (g : St) (post : Int32 → St → Prop) : Prop :=
  (wp_mo_isSpot x1 g (fun r2 g1 => ((¬ (r2 = 0) → ((x2 < 0 → (jn_mo_raise_J24 x1 x2 g1 post)) ∧ (¬ (x2 < 0) → ((x2 ≤ 999 → (jn_mo_raise_J29 x1 x2 0 g1 post)) ∧ (¬ (x2 ≤ 999) → (jn_mo_raise_J24 x1 x2 g1 post)))))) ∧ (r2 = 0 → (jn_mo_raise_J29 x1 x2 1 g1 post)))))
def wp_mo_triangles (g : St) (post : Int32 → St → Prop) : Prop :=
  (∀ g1 : St, g1 = gp g 0 0 0 → (post (g1 0 5) g1))
def jn_mo_corner_J27 (v1 : Int32) (v2 : Int32) (s1 : Int32) (g : St) (post : Int32 → St → Prop) : Prop :=
  (∀ g1 : St, g1 = gp g 0 0 s1 → ((¬ ((g1 0 0) = 0) → (post 0 g1)) ∧ ((g1 0 0) = 0 → (vp_in ((3 * v1) + v2) 150 ∧ (post (g1 4 (ix ((3 * v1) + v2))) g1)))))
def jn_mo_corner_J22 (v1 : Int32) (v2 : Int32) (g : St) (post : Int32 → St → Prop) : Prop :=
  (jn_mo_corner_J27 v1 v2 1 g post)
def wp_mo_corner (x1 : Int32) (x2 : Int32) (g : St) (post : Int32 → St → Prop) : Prop :=
  ((x1 < 0 → (jn_mo_corner_J22 x1 x2 g post)) ∧ (¬ (x1 < 0) → (((g 0 5) ≤ x1 → (jn_mo_corner_J22 x1 x2 g post)) ∧ (¬ ((g 0 5) ≤ x1) → ((x2 < 0 → (jn_mo_corner_J22 x1 x2 g post)) ∧ (¬ (x2 < 0) → ((x2 ≤ 2 → (jn_mo_corner_J27 x1 x2 0 g post)) ∧ (¬ (x2 ≤ 2) → (jn_mo_corner_J22 x1 x2 g post)))))))))
def wp_mo_has (x1 : Int32) (x2 : Int32) (g : St) (post : Int32 → St → Prop) : Prop :=
  (vp_in (3 * x1) 150 ∧ (((g 4 (ix (3 * x1))) = x2 → (post 1 g)) ∧ (¬ ((g 4 (ix (3 * x1))) = x2) → (vp_in ((3 * x1) + 1) 150 ∧ (((g 4 (ix ((3 * x1) + 1))) = x2 → (post 1 g)) ∧ (¬ ((g 4 (ix ((3 * x1) + 1))) = x2) → (vp_in ((3 * x1) + 2) 150 ∧ ((¬ ((g 4 (ix ((3 * x1) + 2))) = x2) → (post 0 g)) ∧ ((g 4 (ix ((3 * x1) + 2))) = x2 → (post 1 g))))))))))
def lp_mo_edge_L30 : Nat → Int32 → Int32 → Int32 → Int32 → St → (Int32 → St → Prop) → (Int32 → St → Prop) → Prop
  | 0, _, _, _, _, _, _, _ => False
  | n + 1, v1, v2, v3, v4, g, K85, post => (((g 0 5) ≤ v4 → (K85 v3 g)) ∧ (¬ ((g 0 5) ≤ v4) → ((¬ ((g 0 0) = 0) → (K85 v3 g)) ∧ ((g 0 0) = 0 → ((v1 = v2 → (K85 v3 g)) ∧ (¬ (v1 = v2) → (wp_mo_has v4 v1 g (fun r5 g4 => ((r5 = 0 → (lp_mo_edge_L30 n v1 v2 (v3 + 0) (v4 + 1) g4 K85 post)) ∧ (¬ (r5 = 0) → (wp_mo_has v4 v2 g4 (fun r7 g6 => ((r7 = 0 → (lp_mo_edge_L30 n v1 v2 (v3 + 0) (v4 + 1) g6 K85 post)) ∧ (¬ (r7 = 0) → (lp_mo_edge_L30 n v1 v2 (v3 + 1) (v4 + 1) g6 K85 post)))))))))))))))
def jn_mo_edge_J22 (v1 : Int32) (v2 : Int32) (s1 : Int32) (g : St) (post : Int32 → St → Prop) : Prop :=
  (∀ g3 : St, g3 = gp g 0 0 s1 → (∃ k30, lp_mo_edge_L30 k30 v1 v2 0 0 g3 (fun w9 g8 => (post w9 g8)) post))
def jn_mo_edge_J21 (v1 : Int32) (v2 : Int32) (g : St) (post : Int32 → St → Prop) : Prop :=
  (jn_mo_edge_J22 v1 v2 1 g post)
def wp_mo_edge (x1 : Int32) (x2 : Int32) (g : St) (post : Int32 → St → Prop) : Prop :=
  (wp_mo_isSpot x1 g (fun r2 g1 => ((r2 = 0 → (jn_mo_edge_J21 x1 x2 g1 post)) ∧ (¬ (r2 = 0) → (wp_mo_isSpot x2 g1 (fun r11 g10 => ((r11 = 0 → (jn_mo_edge_J21 x1 x2 g10 post)) ∧ (¬ (r11 = 0) → (jn_mo_edge_J22 x1 x2 0 g10 post)))))))))
def wp_mo_toPlace (x1 : Int32) (x2 : Int32) (x3 : Int32) (x4 : Int32) (g : St) (post : Int64 → St → Prop) : Prop :=
  (vp_in x2 16 ∧ (vp_in x1 16 ∧ (vp_in x1 16 ∧ (vp_in x2 16 ∧ (vp_in x1 16 ∧ (vp_in x1 16 ∧ (post ((((g 1 (ix x2)) - (g 1 (ix x1))).toInt64 * (x4.toInt64 - (g 2 (ix x1)).toInt64)) - (((g 2 (ix x2)) - (g 2 (ix x1))).toInt64 * (x3.toInt64 - (g 1 (ix x1)).toInt64))) g)))))))
def wp_mo_floor (x0 : Int64) (x2 : Int64) (g : St) (post : Int64 → St → Prop) : Prop :=
  (¬ x2 = 0 ∧ (((lg_cmp ((x0 / x2) * x2) x0) ≤ 0 → (post (x0 / x2) g)) ∧ (¬ ((lg_cmp ((x0 / x2) * x2) x0) ≤ 0) → (post ((x0 / x2) - 1) g))))
def jn_mo_at_J82 (v1 : Int32) (v2 : Int32) (v3 : Int32) (v4 : Int32) (v5 : Int32) (v6 : Int32) (v7 : Int32) (s0 : Int32) (g : St) (K10 : Int32 → Int32 → Int32 → Int32 → St → Prop) (post : Int32 → St → Prop) : Prop :=
  (wp_mo_toPlace v6 v7 v1 v2 g (fun r5 g4 => (wp_mo_toPlace v7 v5 v1 v2 g4 (fun r7 g6 => (wp_mo_toPlace v5 v6 v1 v2 g6 (fun r9 g8 => (((lg_cmp (s0.toInt64 * r5) 0) < 0 → (K10 v1 v2 v3 (v4 + 1) g8)) ∧ (¬ ((lg_cmp (s0.toInt64 * r5) 0) < 0) → (((lg_cmp (s0.toInt64 * r7) 0) < 0 → (K10 v1 v2 v3 (v4 + 1) g8)) ∧ (¬ ((lg_cmp (s0.toInt64 * r7) 0) < 0) → (((lg_cmp (s0.toInt64 * r9) 0) < 0 → (K10 v1 v2 v3 (v4 + 1) g8)) ∧ (¬ ((lg_cmp (s0.toInt64 * r9) 0) < 0) → (vp_in v5 16 ∧ (vp_in v6 16 ∧ (vp_in v7 16 ∧ (wp_mo_floor ((((s0.toInt64 * r5) * (g8 3 (ix v5)).toInt64) + ((s0.toInt64 * r7) * (g8 3 (ix v6)).toInt64)) + ((s0.toInt64 * r9) * (g8 3 (ix v7)).toInt64)) (((s0.toInt64 * r5) + (s0.toInt64 * r7)) + (s0.toInt64 * r9)) g8 (fun r11 g10 => (∀ g12 : St, g12 = gp g10 0 0 0 → (K10 v1 v2 r11.toInt32 (v4 + 1) g12)))))))))))))))))))
def lp_mo_at_L10 : Nat → Int32 → Int32 → Int32 → Int32 → St → (Int32 → St → Prop) → (Int32 → St → Prop) → Prop
  | 0, _, _, _, _, _, _, _ => False
  | n + 1, v1, v2, v3, v4, g, K212, post => (((g 0 5) ≤ v4 → (K212 v3 g)) ∧ (¬ ((g 0 5) ≤ v4) → ((¬ ((g 0 0) = 1) → (K212 v3 g)) ∧ ((g 0 0) = 1 → (vp_in (3 * v4) 150 ∧ (vp_in ((3 * v4) + 1) 150 ∧ (vp_in ((3 * v4) + 2) 150 ∧ (wp_mo_turn (g 4 (ix (3 * v4))) (g 4 (ix ((3 * v4) + 1))) (g 4 (ix ((3 * v4) + 2))) g (fun r3 g2 => ((r3 ≤ 0 → (jn_mo_at_J82 v1 v2 v3 v4 (g 4 (ix (3 * v4))) (g 4 (ix ((3 * v4) + 1))) (g 4 (ix ((3 * v4) + 2))) (-1) g2 (fun w14 w15 w16 w17 g13 => (lp_mo_at_L10 n w14 w15 w16 w17 g13 K212 post)) post)) ∧ (¬ (r3 ≤ 0) → (jn_mo_at_J82 v1 v2 v3 v4 (g 4 (ix (3 * v4))) (g 4 (ix ((3 * v4) + 1))) (g 4 (ix ((3 * v4) + 2))) 1 g2 (fun w19 w20 w21 w22 g18 => (lp_mo_at_L10 n w19 w20 w21 w22 g18 K212 post)) post))))))))))))
def wp_mo_at (x1 : Int32) (x2 : Int32) (g : St) (post : Int32 → St → Prop) : Prop :=
  (∀ g1 : St, g1 = gp g 0 0 1 → (∃ k10, lp_mo_at_L10 k10 x1 x2 0 0 g1 (fun w24 g23 => (post w24 g23)) post))
def wp_mo_isHigh (x1 : Int32) (x2 : Int32) (g : St) (post : Int32 → St → Prop) : Prop :=
  (vp_in x1 16 ∧ (((g 3 (ix x1)) ≤ x2 → (post 0 g)) ∧ (¬ ((g 3 (ix x1)) ≤ x2) → (post 1 g))))
def wp_mo_edgeOf (x0 : Int32) (x1 : Int32) (g : St) (post : Int32 → St → Prop) : Prop :=
  ((x1 ≤ x0 → (post ((16 * x1) + x0) g)) ∧ (¬ (x1 ≤ x0) → (post ((16 * x0) + x1) g)))
def jn_mo_join_J34 (v1 : Int32) (v2 : Int32) (s0 : Int32) (g : St) (post : St → Prop) : Prop :=
  (wp_mo_edgeOf v1 v2 g (fun r8 g7 => (vp_in r8 256 ∧ ∀ g9 : St, g9 = gp g7 6 (ix r8) s0 → (wp_mo_edgeOf v1 v2 g9 (fun r11 g10 => (vp_in s0 256 ∧ ∀ g12 : St, g12 = gp g10 7 (ix s0) r11 → (post g12)))))))
def wp_mo_join (x1 : Int32) (x2 : Int32) (x3 : Int32) (x4 : Int32) (g : St) (post : St → Prop) : Prop :=
  (wp_mo_turn x2 x1 x3 g (fun r2 g1 => ((r2 < 0 → (wp_mo_isHigh x3 x4 g1 (fun r4 g3 => ((r4 = 0 → (wp_mo_edgeOf x1 x3 g3 (fun r6 g5 => (jn_mo_join_J34 x1 x2 r6 g5 post)))) ∧ (¬ (r4 = 0) → (wp_mo_edgeOf x3 x2 g3 (fun r14 g13 => (jn_mo_join_J34 x1 x2 r14 g13 post)))))))) ∧ (¬ (r2 < 0) → (post g1)))))
def wp_mo_pair (x1 : Int32) (x2 : Int32) (x3 : Int32) (x4 : Int32) (g : St) (post : St → Prop) : Prop :=
  (wp_mo_isHigh x1 x4 g (fun r2 g1 => (wp_mo_isHigh x2 x4 g1 (fun r4 g3 => ((¬ (r2 = r4) → (wp_mo_edgeOf x1 x2 g3 (fun r6 g5 => (vp_in r6 256 ∧ ∀ g7 : St, g7 = gp g5 5 (ix r6) (vp_nar .boolean 1) → (wp_mo_isHigh x1 x4 g7 (fun r9 g8 => ((r9 = 0 → (wp_mo_join x2 x1 x3 x4 g8 (fun g10 => (post g10)))) ∧ (¬ (r9 = 0) → (wp_mo_join x1 x2 x3 x4 g8 (fun g11 => (post g11))))))))))) ∧ (r2 = r4 → (post g3)))))))
def lp_mo_gather_L4 : Nat → Int32 → Int32 → Int32 → St → (Int32 → Int32 → St → Prop) → (St → Prop) → Prop
  | 0, _, _, _, _, _, _ => False
  | n + 1, v1, v2, v3, g, K38, post => (vp_in v2 256 ∧ (((g 7 (ix v2)) < 0 → (K38 v2 v3 g)) ∧ (¬ ((g 7 (ix v2)) < 0) → ((¬ (v3 = 0) → (K38 v2 v3 g)) ∧ (v3 = 0 → (vp_in v2 256 ∧ ((¬ ((g 7 (ix v2)) = v1) → (lp_mo_gather_L4 n v1 (g 7 (ix v2)) 0 g K38 post)) ∧ ((g 7 (ix v2)) = v1 → (lp_mo_gather_L4 n v1 (g 7 (ix v2)) 1 g K38 post)))))))))
def lp_mo_gather_L67 : Nat → Int32 → Int32 → Int32 → St → (St → Prop) → (St → Prop) → Prop
  | 0, _, _, _, _, _, _ => False
  | n + 1, v2, v4, v5, g, K131, post => ((v5 = 0 → (K131 g)) ∧ (¬ (v5 = 0) → (vp_in (g 0 15) 260 ∧ ∀ g6 : St, g6 = gp g 12 (ix (g 0 15)) v4 → (∀ g7 : St, g7 = gp g6 0 15 ((g6 0 15) + 1) → (vp_in v4 256 ∧ ∀ g8 : St, g8 = gp g7 8 (ix v4) (vp_nar .boolean 1) → (vp_in v4 256 ∧ (((g8 6 (ix v4)) < 0 → (lp_mo_gather_L67 n v2 (g8 6 (ix v4)) 0 g8 K131 post)) ∧ (¬ ((g8 6 (ix v4)) < 0) → (((g8 6 (ix v4)) = v2 → (lp_mo_gather_L67 n v2 (g8 6 (ix v4)) 0 g8 K131 post)) ∧ (¬ ((g8 6 (ix v4)) = v2) → (lp_mo_gather_L67 n v2 (g8 6 (ix v4)) 1 g8 K131 post)))))))))))
def jn_mo_gather_J38 (v2 : Int32) (v3 : Int32) (g : St) (post : St → Prop) : Prop :=
  (vp_in (g 0 11) 130 ∧ ∀ g4 : St, g4 = gp g 9 (ix (g 0 11)) (g 0 15) → (vp_in (g4 0 11) 130 ∧ ∀ g5 : St, g5 = gp g4 11 (ix (g4 0 11)) (vp_nar .boolean v3) → (∃ k67, lp_mo_gather_L67 k67 v2 v2 1 g5 (fun g9 => (vp_in (g9 0 11) 130 ∧ (vp_in (g9 0 11) 130 ∧ ∀ g10 : St, g10 = gp g9 10 (ix (g9 0 11)) ((g9 0 15) - (g9 9 (ix (g9 0 11)))) → (∀ g11 : St, g11 = gp g10 0 11 ((g10 0 11) + 1) → (post g11))))) post)))
def wp_mo_gather (x1 : Int32) (g : St) (post : St → Prop) : Prop :=
  (∃ k4, lp_mo_gather_L4 k4 x1 x1 0 g (fun w2 w3 g1 => (jn_mo_gather_J38 w2 w3 g1 post)) post)
def lp_mo_findContours_L2 : Nat → Int32 → Int32 → St → (Int32 → St → Prop) → (St → Prop) → Prop
  | 0, _, _, _, _, _ => False
  | n + 1, v1, v2, g, K43, post => ((256 ≤ v2 → (K43 v1 g)) ∧ (¬ (256 ≤ v2) → (vp_in v2 256 ∧ ∀ g1 : St, g1 = gp g 5 (ix v2) (vp_nar .boolean 0) → (vp_in v2 256 ∧ ∀ g2 : St, g2 = gp g1 8 (ix v2) (vp_nar .boolean 0) → (vp_in v2 256 ∧ ∀ g3 : St, g3 = gp g2 6 (ix v2) (-1) → (vp_in v2 256 ∧ ∀ g4 : St, g4 = gp g3 7 (ix v2) (-1) → (lp_mo_findContours_L2 n v1 (v2 + 1) g4 K43 post)))))))
def lp_mo_findContours_L45 : Nat → Int32 → Int32 → St → (St → Prop) → (St → Prop) → Prop
  | 0, _, _, _, _, _ => False
  | n + 1, v1, v2, g, K122, post => (((g 0 5) ≤ v2 → (K122 g)) ∧ (¬ ((g 0 5) ≤ v2) → (vp_in (3 * v2) 150 ∧ (vp_in ((3 * v2) + 1) 150 ∧ (vp_in ((3 * v2) + 2) 150 ∧ (wp_mo_pair (g 4 (ix (3 * v2))) (g 4 (ix ((3 * v2) + 1))) (g 4 (ix ((3 * v2) + 2))) v1 g (fun g7 => (wp_mo_pair (g 4 (ix (3 * v2))) (g 4 (ix ((3 * v2) + 2))) (g 4 (ix ((3 * v2) + 1))) v1 g7 (fun g8 => (wp_mo_pair (g 4 (ix ((3 * v2) + 1))) (g 4 (ix ((3 * v2) + 2))) (g 4 (ix (3 * v2))) v1 g8 (fun g9 => (lp_mo_findContours_L45 n v1 (v2 + 1) g9 K122 post))))))))))))
def lp_mo_findContours_L134 : Nat → Int32 → St → (St → Prop) → (St → Prop) → Prop
  | 0, _, _, _, _ => False
  | n + 1, v2, g, K170, post => ((256 ≤ v2 → (K170 g)) ∧ (¬ (256 ≤ v2) → (vp_in v2 256 ∧ (((g 5 (ix v2)) = 0 → (lp_mo_findContours_L134 n (v2 + 1) g K170 post)) ∧ (¬ ((g 5 (ix v2)) = 0) → (vp_in v2 256 ∧ ((¬ ((g 8 (ix v2)) = 0) → (lp_mo_findContours_L134 n (v2 + 1) g K170 post)) ∧ ((g 8 (ix v2)) = 0 → (wp_mo_gather v2 g (fun g13 => (lp_mo_findContours_L134 n (v2 + 1) g13 K170 post)))))))))))
def wp_mo_findContours (x1 : Int32) (g : St) (post : St → Prop) : Prop :=
  (∃ k2, lp_mo_findContours_L2 k2 x1 0 g (fun w6 g5 => (∃ k45, lp_mo_findContours_L45 k45 w6 0 g5 (fun g10 => (∀ g11 : St, g11 = gp g10 0 11 0 → (∀ g12 : St, g12 = gp g11 0 15 0 → (∃ k134, lp_mo_findContours_L134 k134 0 g12 (fun g14 => (post g14)) post)))) post)) post)
def wp_mo_isLevel (x0 : Int32) (g : St) (post : Int32 → St → Prop) : Prop :=
  ((x0 < 0 → (post 0 g)) ∧ (¬ (x0 < 0) → ((998 < x0 → (post 0 g)) ∧ (¬ (998 < x0) → (post 1 g)))))
def jn_mo_contours_J13 (v1 : Int32) (s1 : Int32) (g : St) (post : Int32 → St → Prop) : Prop :=
  (∀ g3 : St, g3 = gp g 0 0 s1 → (((g3 0 0) = 0 → (wp_mo_findContours v1 g3 (fun g4 => (post (g4 0 11) g4)))) ∧ (¬ ((g3 0 0) = 0) → (post 0 g3))))
def wp_mo_contours (x1 : Int32) (g : St) (post : Int32 → St → Prop) : Prop :=
  (wp_mo_isLevel x1 g (fun r2 g1 => ((r2 = 0 → (jn_mo_contours_J13 x1 1 g1 post)) ∧ (¬ (r2 = 0) → (jn_mo_contours_J13 x1 0 g1 post)))))
def wp_mo_asked (x1 : Int32) (x2 : Int32) (g : St) (post : Int32 → St → Prop) : Prop :=
  (wp_mo_isLevel x1 g (fun r2 g1 => ((¬ (r2 = 0) → (wp_mo_findContours x1 g1 (fun g3 => ((x2 < 0 → (post 2 g3)) ∧ (¬ (x2 < 0) → ((x2 < (g3 0 11) → (post 0 g3)) ∧ (¬ (x2 < (g3 0 11)) → (post 2 g3)))))))) ∧ (r2 = 0 → (post 1 g1)))))
def jn_mo_isHollow_J79 (v1 : Int32) (v2 : Int32) (v4 : Int32) (s0 : Int32) (g : St) (K23 : Int32 → Int32 → Int32 → Int32 → St → Prop) (post : Int32 → St → Prop) : Prop :=
  (vp_in v4 260 ∧ (vp_in ((g 12 (ix v4)) - (g 12 (ix v4)) / 16 * 16) 16 ∧ (vp_in s0 16 ∧ (((g 1 (ix s0)) ≤ (g 1 (ix ((g 12 (ix v4)) - (g 12 (ix v4)) / 16 * 16))) → (K23 v1 v2 s0 (v4 + 1) g)) ∧ (¬ ((g 1 (ix s0)) ≤ (g 1 (ix ((g 12 (ix v4)) - (g 12 (ix v4)) / 16 * 16)))) → (vp_in v4 260 ∧ (K23 v1 v2 ((g 12 (ix v4)) - (g 12 (ix v4)) / 16 * 16) (v4 + 1) g)))))))
def lp_mo_isHollow_L23 : Nat → Int32 → Int32 → Int32 → Int32 → St → (Int32 → Int32 → St → Prop) → (Int32 → St → Prop) → Prop
  | 0, _, _, _, _, _, _, _ => False
  | n + 1, v1, v2, v3, v4, g, K125, post => (vp_in v2 130 ∧ (vp_in v2 130 ∧ ((((g 9 (ix v2)) + (g 10 (ix v2))) ≤ v4 → (K125 v1 v3 g)) ∧ (¬ (((g 9 (ix v2)) + (g 10 (ix v2))) ≤ v4) → (vp_in v4 260 ∧ (vp_in ((g 12 (ix v4)) / 16) 16 ∧ (vp_in v3 16 ∧ (((g 1 (ix v3)) ≤ (g 1 (ix ((g 12 (ix v4)) / 16))) → (jn_mo_isHollow_J79 v1 v2 v4 v3 g (fun w2 w3 w4 w5 g1 => (lp_mo_isHollow_L23 n w2 w3 w4 w5 g1 K125 post)) post)) ∧ (¬ ((g 1 (ix v3)) ≤ (g 1 (ix ((g 12 (ix v4)) / 16)))) → (vp_in v4 260 ∧ (jn_mo_isHollow_J79 v1 v2 v4 ((g 12 (ix v4)) / 16) g (fun w7 w8 w9 w10 g6 => (lp_mo_isHollow_L23 n w7 w8 w9 w10 g6 K125 post)) post)))))))))))
def wp_mo_isHollow (x1 : Int32) (x2 : Int32) (g : St) (post : Int32 → St → Prop) : Prop :=
  (vp_in x2 130 ∧ (vp_in (g 9 (ix x2)) 260 ∧ (vp_in x2 130 ∧ (∃ k23, lp_mo_isHollow_L23 k23 x1 x2 ((g 12 (ix (g 9 (ix x2)))) / 16) (g 9 (ix x2)) g (fun w12 w13 g11 => (wp_mo_isHigh w13 w12 g11 (fun r15 g14 => (narrow .boolean (.int r15) = .int r15 ∧ post r15 g14)))) post))))
def wp_mo_contour (x1 : Int32) (x2 : Int32) (g : St) (post : Int32 → St → Prop) : Prop :=
  (wp_mo_asked x1 x2 g (fun r2 g1 => (∀ g3 : St, g3 = gp g1 0 0 r2 → (((g3 0 0) = 0 → (vp_in x2 130 ∧ (vp_in x2 130 ∧ ((¬ ((g3 11 (ix x2)) = 0) → (wp_mo_isHollow x1 x2 g3 (fun r5 g4 => ((r5 = 0 → (post ((g3 10 (ix x2)) + 1000) g4)) ∧ (¬ (r5 = 0) → (post ((g3 10 (ix x2)) + 2000) g4)))))) ∧ ((g3 11 (ix x2)) = 0 → (post ((g3 10 (ix x2)) + 0) g3)))))) ∧ (¬ ((g3 0 0) = 0) → (post 0 g3))))))
def wp_mo_askedFor (x1 : Int32) (x2 : Int32) (x3 : Int32) (g : St) (post : Int32 → St → Prop) : Prop :=
  (wp_mo_asked x1 x2 g (fun r2 g1 => ((¬ (r2 = 0) → (post r2 g1)) ∧ (r2 = 0 → ((x3 < 0 → (post 2 g1)) ∧ (¬ (x3 < 0) → (vp_in x2 130 ∧ ((x3 < (g1 10 (ix x2)) → (post r2 g1)) ∧ (¬ (x3 < (g1 10 (ix x2))) → (post 2 g1))))))))))
def wp_mo_crossing (x1 : Int32) (x2 : Int32) (x3 : Int32) (g : St) (post : Int32 → St → Prop) : Prop :=
  (wp_mo_askedFor x1 x2 x3 g (fun r2 g1 => (∀ g3 : St, g3 = gp g1 0 0 r2 → ((¬ ((g3 0 0) = 0) → (post 0 g3)) ∧ ((g3 0 0) = 0 → (vp_in x2 130 ∧ (vp_in ((g3 9 (ix x2)) + x3) 260 ∧ (post (g3 12 (ix ((g3 9 (ix x2)) + x3))) g3))))))))
def jn_mo_placeOf_J23 (v1 : Int32) (v2 : Int32) (s0 : Int32) (g : St) (post : Int32 → St → Prop) : Prop :=
  (vp_in (((v2 / 16) + (v2 - v2 / 16 * 16)) - s0) 16 ∧ (vp_in s0 16 ∧ (vp_in (((v2 / 16) + (v2 - v2 / 16 * 16)) - s0) 16 ∧ (vp_in (((v2 / 16) + (v2 - v2 / 16 * 16)) - s0) 16 ∧ (vp_in s0 16 ∧ (vp_in (((v2 / 16) + (v2 - v2 / 16 * 16)) - s0) 16 ∧ (wp_mo_floor (((g 1 (ix s0)) - (g 1 (ix (((v2 / 16) + (v2 - v2 / 16 * 16)) - s0)))).toInt64 * (((2 * v1) + 1) - (2 * (g 3 (ix (((v2 / 16) + (v2 - v2 / 16 * 16)) - s0))))).toInt64) (2 * ((g 3 (ix s0)) - (g 3 (ix (((v2 / 16) + (v2 - v2 / 16 * 16)) - s0))))).toInt64 g (fun r4 g3 => (vp_in (((v2 / 16) + (v2 - v2 / 16 * 16)) - s0) 16 ∧ (vp_in s0 16 ∧ (vp_in (((v2 / 16) + (v2 - v2 / 16 * 16)) - s0) 16 ∧ (wp_mo_floor (((g3 2 (ix s0)) - (g3 2 (ix (((v2 / 16) + (v2 - v2 / 16 * 16)) - s0)))).toInt64 * (((2 * v1) + 1) - (2 * (g 3 (ix (((v2 / 16) + (v2 - v2 / 16 * 16)) - s0))))).toInt64) (2 * ((g 3 (ix s0)) - (g 3 (ix (((v2 / 16) + (v2 - v2 / 16 * 16)) - s0))))).toInt64 g3 (fun r6 g5 => (post ((64 * ((g 1 (ix (((v2 / 16) + (v2 - v2 / 16 * 16)) - s0))).toInt64 + r4)) + ((g3 2 (ix (((v2 / 16) + (v2 - v2 / 16 * 16)) - s0))).toInt64 + r6)).toInt32 g5))))))))))))))
def wp_mo_placeOf (x1 : Int32) (x2 : Int32) (g : St) (post : Int32 → St → Prop) : Prop :=
  (wp_mo_isHigh (x2 / 16) x1 g (fun r2 g1 => ((r2 = 0 → (jn_mo_placeOf_J23 x1 x2 (x2 - x2 / 16 * 16) g1 post)) ∧ (¬ (r2 = 0) → (jn_mo_placeOf_J23 x1 x2 (x2 / 16) g1 post)))))
def wp_mo_place (x1 : Int32) (x2 : Int32) (x3 : Int32) (g : St) (post : Int32 → St → Prop) : Prop :=
  (wp_mo_askedFor x1 x2 x3 g (fun r2 g1 => (∀ g3 : St, g3 = gp g1 0 0 r2 → ((¬ ((g3 0 0) = 0) → (post 0 g3)) ∧ ((g3 0 0) = 0 → (vp_in x2 130 ∧ (vp_in ((g3 9 (ix x2)) + x3) 260 ∧ (wp_mo_placeOf x1 (g3 12 (ix ((g3 9 (ix x2)) + x3))) g3 (fun r5 g4 => (post r5 g4))))))))))
def wp_mo_isNear (x1 : Int32) (x2 : Int32) (x3 : Int32) (g : St) (post : Int32 → St → Prop) : Prop :=
  ((x3 < (x1 - x2) → (post 0 g)) ∧ (¬ (x3 < (x1 - x2)) → ((x3 < (x2 - x1) → (post 0 g)) ∧ (¬ (x3 < (x2 - x1)) → (post 1 g)))))
def lp_mo_clashes_L5 : Nat → Int32 → Int32 → Int32 → Int32 → St → (Int32 → Int32 → Int32 → St → Prop) → (Int32 → St → Prop) → Prop
  | 0, _, _, _, _, _, _, _ => False
  | n + 1, v1, v2, v3, v4, g, K62, post => (((g 0 1) ≤ v4 → (K62 v1 v2 v3 g)) ∧ (¬ ((g 0 1) ≤ v4) → ((¬ (v3 = 0) → (lp_mo_clashes_L5 n v1 v2 1 (v4 + 1) g K62 post)) ∧ (v3 = 0 → (vp_in v4 16 ∧ (wp_mo_isNear (g 1 (ix v4)) v1 3 g (fun r2 g1 => ((r2 = 0 → (lp_mo_clashes_L5 n v1 v2 0 (v4 + 1) g1 K62 post)) ∧ (¬ (r2 = 0) → (vp_in v4 16 ∧ (wp_mo_isNear (g1 2 (ix v4)) v2 1 g1 (fun r4 g3 => ((r4 = 0 → (lp_mo_clashes_L5 n v1 v2 0 (v4 + 1) g3 K62 post)) ∧ (¬ (r4 = 0) → (lp_mo_clashes_L5 n v1 v2 1 (v4 + 1) g3 K62 post)))))))))))))))
def lp_mo_clashes_L65 : Nat → Int32 → Int32 → Int32 → Int32 → St → (Int32 → St → Prop) → (Int32 → St → Prop) → Prop
  | 0, _, _, _, _, _, _, _ => False
  | n + 1, v1, v2, v3, v4, g, K123, post => (((g 0 17) ≤ v4 → (K123 v3 g)) ∧ (¬ ((g 0 17) ≤ v4) → ((¬ (v3 = 0) → (lp_mo_clashes_L65 n v1 v2 1 (v4 + 1) g K123 post)) ∧ (v3 = 0 → (vp_in v4 60 ∧ (wp_mo_isNear (g 14 (ix v4)) v1 6 g (fun r10 g9 => ((r10 = 0 → (lp_mo_clashes_L65 n v1 v2 0 (v4 + 1) g9 K123 post)) ∧ (¬ (r10 = 0) → (vp_in v4 60 ∧ (wp_mo_isNear (g9 15 (ix v4)) v2 2 g9 (fun r12 g11 => ((r12 = 0 → (lp_mo_clashes_L65 n v1 v2 0 (v4 + 1) g11 K123 post)) ∧ (¬ (r12 = 0) → (lp_mo_clashes_L65 n v1 v2 1 (v4 + 1) g11 K123 post)))))))))))))))
def wp_mo_clashes (x1 : Int32) (x2 : Int32) (g : St) (post : Int32 → St → Prop) : Prop :=
  (∃ k5, lp_mo_clashes_L5 k5 x1 x2 0 0 g (fun w6 w7 w8 g5 => (∃ k65, lp_mo_clashes_L65 k65 w6 w7 w8 0 g5 (fun w14 g13 => (narrow .boolean (.int w14) = .int w14 ∧ post w14 g13)) post)) post)
def lp_mo_labelContour_L5 : Nat → Int32 → Int32 → Int32 → Int32 → St → (St → Prop) → (St → Prop) → Prop
  | 0, _, _, _, _, _, _, _ => False
  | n + 1, v1, v2, v3, v4, g, K114, post => (vp_in v2 130 ∧ (((g 10 (ix v2)) ≤ v4 → (K114 g)) ∧ (¬ ((g 10 (ix v2)) ≤ v4) → ((¬ (v3 = 0) → (K114 g)) ∧ (v3 = 0 → (vp_in v2 130 ∧ (vp_in ((g 9 (ix v2)) + v4) 260 ∧ (wp_mo_placeOf v1 (g 12 (ix ((g 9 (ix v2)) + v4))) g (fun r2 g1 => (wp_mo_clashes (r2 / 64) (r2 - r2 / 64 * 64) g1 (fun r4 g3 => ((¬ (r4 = 0) → (lp_mo_labelContour_L5 n v1 v2 v3 (v4 + 1) g3 K114 post)) ∧ (r4 = 0 → (vp_in (g3 0 17) 60 ∧ ∀ g5 : St, g5 = gp g3 13 (ix (g3 0 17)) v1 → (vp_in (g5 0 17) 60 ∧ ∀ g6 : St, g6 = gp g5 14 (ix (g5 0 17)) (r2 / 64) → (vp_in (g6 0 17) 60 ∧ ∀ g7 : St, g7 = gp g6 15 (ix (g6 0 17)) (r2 - r2 / 64 * 64) → (∀ g8 : St, g8 = gp g7 0 17 ((g7 0 17) + 1) → (lp_mo_labelContour_L5 n v1 v2 1 (v4 + 1) g8 K114 post))))))))))))))))))
def wp_mo_labelContour (x1 : Int32) (x2 : Int32) (g : St) (post : St → Prop) : Prop :=
  (∃ k5, lp_mo_labelContour_L5 k5 x1 x2 0 0 g (fun g9 => (post g9)) post)
def lp_mo_label_L37 : Nat → Int32 → Int32 → Int32 → St → (Int32 → St → Prop) → (Int32 → St → Prop) → Prop
  | 0, _, _, _, _, _, _ => False
  | n + 1, v1, v2, v3, g, K57, post => (((g 0 11) ≤ v3 → (K57 v2 g)) ∧ (¬ ((g 0 11) ≤ v3) → (wp_mo_labelContour v1 v3 g (fun g5 => (lp_mo_label_L37 n v1 v2 (v3 + 1) g5 K57 post)))))
def jn_mo_label_J79 (v2 : Int32) (v3 : Int32) (s1 : Int32) (g : St) (post : Int32 → St → Prop) : Prop :=
  (∀ g8 : St, g8 = gp g 0 0 s1 → ((¬ ((g8 0 0) = 0) → (∀ g9 : St, g9 = gp g8 0 17 v2 → ((¬ ((g9 0 0) = 0) → (post 0 g9)) ∧ ((g9 0 0) = 0 → (post v3 g9))))) ∧ ((g8 0 0) = 0 → (∀ g10 : St, g10 = gp g8 0 17 (g8 0 17) → ((¬ ((g10 0 0) = 0) → (post 0 g10)) ∧ ((g10 0 0) = 0 → (post v3 g10)))))))
def jn_mo_label_J13 (v1 : Int32) (s1 : Int32) (g : St) (post : Int32 → St → Prop) : Prop :=
  (∀ g3 : St, g3 = gp g 0 0 s1 → (((g3 0 0) = 0 → (wp_mo_findContours v1 g3 (fun g4 => (∃ k37, lp_mo_label_L37 k37 v1 (g4 0 17) 0 g4 (fun w7 g6 => (((g6 0 17) ≤ 20 → (jn_mo_label_J79 w7 ((g6 0 17) - w7) 0 g6 post)) ∧ (¬ ((g6 0 17) ≤ 20) → (jn_mo_label_J79 w7 ((g6 0 17) - w7) 2 g6 post)))) post)))) ∧ (¬ ((g3 0 0) = 0) → (post 0 g3))))
def wp_mo_label (x1 : Int32) (g : St) (post : Int32 → St → Prop) : Prop :=
  (wp_mo_isLevel x1 g (fun r2 g1 => ((r2 = 0 → (jn_mo_label_J13 x1 1 g1 post)) ∧ (¬ (r2 = 0) → (jn_mo_label_J13 x1 0 g1 post)))))
def wp_mo_labels (g : St) (post : Int32 → St → Prop) : Prop :=
  (∀ g1 : St, g1 = gp g 0 0 0 → (post (g1 0 17) g1))
def jn_mo_labelOf_J31 (v1 : Int32) (v2 : Int32) (s1 : Int32) (g : St) (post : Int32 → St → Prop) : Prop :=
  (∀ g1 : St, g1 = gp g 0 0 s1 → (((g1 0 0) = 0 → ((¬ (v2 = 0) → ((¬ (v2 = 1) → (vp_in v1 60 ∧ (post (g1 15 (ix v1)) g1))) ∧ (v2 = 1 → (vp_in v1 60 ∧ (post (g1 14 (ix v1)) g1))))) ∧ (v2 = 0 → (vp_in v1 60 ∧ (post (g1 13 (ix v1)) g1))))) ∧ (¬ ((g1 0 0) = 0) → (post 0 g1))))
def jn_mo_labelOf_J13 (v1 : Int32) (v2 : Int32) (g : St) (post : Int32 → St → Prop) : Prop :=
  (jn_mo_labelOf_J31 v1 v2 1 g post)
def jn_mo_labelOf_J26 (v1 : Int32) (v2 : Int32) (g : St) (post : Int32 → St → Prop) : Prop :=
  (jn_mo_labelOf_J31 v1 v2 2 g post)
def wp_mo_labelOf (x1 : Int32) (x2 : Int32) (g : St) (post : Int32 → St → Prop) : Prop :=
  ((x1 < 0 → (jn_mo_labelOf_J13 x1 x2 g post)) ∧ (¬ (x1 < 0) → ((x1 < (g 0 17) → ((x2 < 0 → (jn_mo_labelOf_J26 x1 x2 g post)) ∧ (¬ (x2 < 0) → ((x2 ≤ 2 → (jn_mo_labelOf_J31 x1 x2 0 g post)) ∧ (¬ (x2 ≤ 2) → (jn_mo_labelOf_J26 x1 x2 g post)))))) ∧ (¬ (x1 < (g 0 17)) → (jn_mo_labelOf_J13 x1 x2 g post)))))
def wp_mo_wipe (g : St) (post : Int32 → St → Prop) : Prop :=
  (∀ g1 : St, g1 = gp g 0 0 0 → (∀ g2 : St, g2 = gp g1 0 17 0 → (post (g1 0 17) g2)))
