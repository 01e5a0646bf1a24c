theorem b_X12_within_0 {d : Nat} {Q : Option am_V → am_H → Prop} (h : am_H) (x0 : Int64) (x2 : Int64) (l1 l3 l4 l5 : Option am_V) : ex_ d 229 0 [some (v_l x0), l1, some (v_l x2), l3, l4, l5] [] h Q ↔ if (lg_cmp x0 x2) < 0 then ex_ d 229 17 [some (v_l x0), l1, some (v_l x2), l3, l4, l5] [] h Q else ex_ d 229 6 [some (v_l x0), l1, some (v_l x2), l3, l4, l5] [] h Q := by
  unfold ex_
  refine (am_Y_go 4 (ok := []) (g := (if (lg_cmp x0 x2) < 0 then 17 else 6, [some (v_l x0), l1, some (v_l x2), l3, l4, l5], [], h)) rfl).trans ?_
  all_goals exact am_Y_if

theorem b_X12_within_17 {d : Nat} {Q : Option am_V → am_H → Prop} (h : am_H) (l0 l1 l2 l3 l4 l5 : Option am_V) : ex_ d 229 17 [l0, l1, l2, l3, l4, l5] [] h Q ↔ Q (some (v_i (0 : Int32))) h := by
  unfold ex_
  refine (am_Y_go 1 (ok := []) (g := (18, [l0, l1, l2, l3, l4, l5], [v_i (0 : Int32)], h)) rfl).trans ?_
  all_goals exact ((am_Y_ret rfl rfl rfl).trans (am_rz (show am_fit 1 0 from Or.inl rfl)))

theorem b_X12_within_6 {d : Nat} {Q : Option am_V → am_H → Prop} (h : am_H) (x0 : Int64) (x4 : Int64) (l1 l2 l3 l5 : Option am_V) : ex_ d 229 6 [some (v_l x0), l1, l2, l3, some (v_l x4), l5] [] h Q ↔ if 0 < (lg_cmp x0 x4) then ex_ d 229 17 [some (v_l x0), l1, l2, l3, some (v_l x4), l5] [] h Q else ex_ d 229 13 [some (v_l x0), l1, l2, l3, some (v_l x4), l5] [] h Q := by
  unfold ex_
  refine (am_Y_go 4 (ok := []) (g := (if 0 < (lg_cmp x0 x4) then 17 else 13, [some (v_l x0), l1, l2, l3, some (v_l x4), l5], [], h)) rfl).trans ?_
  all_goals exact am_Y_if

theorem b_X12_within_13 {d : Nat} {Q : Option am_V → am_H → Prop} (h : am_H) (l0 l1 l2 l3 l4 l5 : Option am_V) : ex_ d 229 13 [l0, l1, l2, l3, l4, l5] [] h Q ↔ Q (some (v_i (1 : Int32))) h := by
  unfold ex_
  refine (am_Y_go 2 (ok := []) (g := (18, [l0, l1, l2, l3, l4, l5], [v_i (1 : Int32)], h)) rfl).trans ?_
  all_goals exact ((am_Y_ret rfl rfl rfl).trans (am_rz (show am_fit 1 1 from Or.inr rfl)))

theorem b_X12_plain_0 {d : Nat} {Q : Option am_V → am_H → Prop} (h : am_H) (l0 l1 : Option am_V) : ex_ d 230 0 [l0, l1] [] h Q ↔ ex_ d 230 2 [l0, some (v_i (0 : Int32))] [] h Q := by
  unfold ex_
  refine (am_Y_go 2 (ok := []) (g := (2, [l0, some (v_i (0 : Int32))], [], h)) rfl).trans ?_
  all_goals exact Iff.rfl

theorem b_X12_plain_2 {d : Nat} {Q : Option am_V → am_H → Prop} (h : am_H) (x1 : Int32) (l0 : Option am_V) : ex_ d 230 2 [l0, some (v_i x1)] [] h Q ↔ if (2351 : Int32) ≤ x1 then ex_ d 230 19 [l0, some (v_i x1)] [] h Q else ex_ d 230 9 [l0, some (v_i x1)] [] h Q := by
  unfold ex_
  refine (am_Y_go 3 (ok := []) (g := (if (2351 : Int32) ≤ x1 then 19 else 9, [l0, some (v_i x1)], [], h)) rfl).trans ?_
  all_goals exact am_Y_if

theorem b_X12_plain_19 {d : Nat} {Q : Option am_V → am_H → Prop} (h : am_H) (l0 l1 : Option am_V) : ex_ d 230 19 [l0, l1] [] h Q ↔ Q (none) h := by
  unfold ex_
  exact ((am_Y_ret rfl rfl rfl).trans (am_rz rfl))

theorem b_X12_plain_9 {d : Nat} {Q : Option am_V → am_H → Prop} (h : am_H) (o0 : Nat) (x1 : Int32) {n_o0 : Nat} (A_o0 : y_arr h o0 20 n_o0) : ex_ d 230 9 [some (v_r (some o0)), some (v_i x1)] [] h Q ↔ vp_in x1 n_o0 ∧ ex_ d 230 2 [some (v_r (some o0)), some (v_i (x1 + (1 : Int32)))] [] (p_i h o0 (Int32.toNatClampNeg x1) (0 : Int32)) Q := by
  unfold ex_
  refine (am_Y_go 6 (ok := [am_ar h (some o0) 20 x1]) (g := (2, [some (v_r (some o0)), some (v_i (x1 + (1 : Int32)))], [], (p_i h o0 (Int32.toNatClampNeg x1) (0 : Int32)))) rfl).trans ?_
  simp only [am_all]
  all_goals exact cj_k (lb_ar A_o0) (Iff.rfl)

theorem b_X12_feed_0 {d : Nat} {Q : Option am_V → am_H → Prop} (h : am_H) (l1 l2 l3 l4 l5 l6 l7 : Option am_V) (Lh : Lay h) : ex_ d 232 0 [some (v_r (some 93)), l1, l2, l3, l4, l5, l6, l7] [] h Q ↔ if ((h_i (p_i h 93 0 (0 : Int32)) 93 5) + (20 : Int32)) ≤ (900 : Int32) then ex_ d 232 21 [some (v_r (some 93)), l1, l2, l3, l4, l5, l6, l7] [] (p_i h 93 0 (0 : Int32)) Q else ex_ d 232 18 [some (v_r (some 93)), l1, l2, l3, l4, l5, l6, l7] [] (p_i h 93 0 (0 : Int32)) Q := by
  unfold ex_
  refine (am_Y_go 9 (ok := [am_is h (some 93) 12, am_is h (some 93) 12]) (g := (if ((h_i (p_i h 93 0 (0 : Int32)) 93 5) + (20 : Int32)) ≤ (900 : Int32) then 21 else 18, [some (v_r (some 93)), l1, l2, l3, l4, l5, l6, l7], [], (p_i h 93 0 (0 : Int32)))) rfl).trans ?_
  simp only [am_all]
  all_goals exact cj_d (la_is Lh (o := 93) rfl) (cj_d (la_is Lh (o := 93) rfl) (am_Y_if))

theorem b_X12_feed_21 {d : Nat} {Q : Option am_V → am_H → Prop} (h : am_H) (l0 l1 l2 l3 l4 l5 l6 l7 : Option am_V) : ex_ d 232 21 [l0, l1, l2, l3, l4, l5, l6, l7] [] h Q ↔ ex_ d 232 24 [l0, l1, l2, l3, l4, l5, some (v_i (0 : Int32)), l7] [] h Q := by
  unfold ex_
  refine (am_Y_go 2 (ok := []) (g := (24, [l0, l1, l2, l3, l4, l5, some (v_i (0 : Int32)), l7], [], h)) rfl).trans ?_
  all_goals exact Iff.rfl

theorem b_X12_feed_18 {d : Nat} {Q : Option am_V → am_H → Prop} (h : am_H) (l0 l1 l2 l3 l4 l5 l6 l7 : Option am_V) : ex_ d 232 18 [l0, l1, l2, l3, l4, l5, l6, l7] [] h Q ↔ Q (some (v_i (-5 : Int32))) h := by
  unfold ex_
  refine (am_Y_go 1 (ok := []) (g := (20, [l0, l1, l2, l3, l4, l5, l6, l7], [v_i (-5 : Int32)], h)) rfl).trans ?_
  all_goals exact ((am_Y_ret rfl rfl rfl).trans (am_r0))

theorem b_X12_feed_24 {d : Nat} {Q : Option am_V → am_H → Prop} (h : am_H) (x6 : Int32) (l0 l1 l2 l3 l4 l5 l7 : Option am_V) : ex_ d 232 24 [l0, l1, l2, l3, l4, l5, some (v_i x6), l7] [] h Q ↔ if (20 : Int32) ≤ x6 then ex_ d 232 121 [l0, l1, l2, l3, l4, l5, some (v_i x6), l7] [] h Q else ex_ d 232 31 [l0, l1, l2, l3, l4, l5, some (v_i x6), l7] [] h Q := by
  unfold ex_
  refine (am_Y_go 3 (ok := []) (g := (if (20 : Int32) ≤ x6 then 121 else 31, [l0, l1, l2, l3, l4, l5, some (v_i x6), l7], [], h)) rfl).trans ?_
  all_goals exact am_Y_if

theorem b_X12_feed_121 {d : Nat} {Q : Option am_V → am_H → Prop} (h : am_H) (l1 l2 l3 l4 l5 l6 l7 : Option am_V) (Lh : Lay h) : ex_ d 232 121 [some (v_r (some 93)), l1, l2, l3, l4, l5, l6, l7] [] h Q ↔ Q (some (v_i (h_i h 93 5))) h := by
  unfold ex_
  refine (am_Y_go 2 (ok := [am_is h (some 93) 12]) (g := (125, [some (v_r (some 93)), l1, l2, l3, l4, l5, l6, l7], [v_i (h_i h 93 5)], h)) rfl).trans ?_
  simp only [am_all]
  all_goals exact cj_d (la_is Lh (o := 93) rfl) (((am_Y_ret rfl rfl rfl).trans (am_r0)))

theorem b_X12_feed_31 {d : Nat} {Q : Option am_V → am_H → Prop} (h : am_H) (x6 : Int32) (l0 l1 l2 l3 l4 l5 l7 : Option am_V) : ex_ d 232 31 [l0, l1, l2, l3, l4, l5, some (v_i x6), l7] [] h Q ↔ if (4 : Int32) ≤ x6 then ex_ d 232 41 [l0, l1, l2, l3, l4, l5, some (v_i x6), l7] [] h Q else ex_ d 232 37 [l0, l1, l2, l3, l4, l5, some (v_i x6), l7] [] h Q := by
  unfold ex_
  refine (am_Y_go 3 (ok := []) (g := (if (4 : Int32) ≤ x6 then 41 else 37, [l0, l1, l2, l3, l4, l5, some (v_i x6), l7], [], h)) rfl).trans ?_
  all_goals exact am_Y_if

theorem b_X12_feed_41 {d : Nat} {Q : Option am_V → am_H → Prop} (h : am_H) (x6 : Int32) (l0 l1 l2 l3 l4 l5 l7 : Option am_V) : ex_ d 232 41 [l0, l1, l2, l3, l4, l5, some (v_i x6), l7] [] h Q ↔ if (8 : Int32) ≤ x6 then ex_ d 232 52 [l0, l1, l2, l3, l4, l5, some (v_i x6), l7] [] h Q else ex_ d 232 48 [l0, l1, l2, l3, l4, l5, some (v_i x6), l7] [] h Q := by
  unfold ex_
  refine (am_Y_go 3 (ok := []) (g := (if (8 : Int32) ≤ x6 then 52 else 48, [l0, l1, l2, l3, l4, l5, some (v_i x6), l7], [], h)) rfl).trans ?_
  all_goals exact am_Y_if

theorem b_X12_feed_37 {d : Nat} {Q : Option am_V → am_H → Prop} (h : am_H) (x1 : Int32) (x6 : Int32) (l2 l3 l4 l5 l7 : Option am_V) (Lh : Lay h) : ex_ d 232 37 [some (v_r (some 93)), some (v_i x1), l2, l3, l4, l5, some (v_i x6), l7] [] h Q ↔ vp_in (h_i h 93 5) 900 ∧ ex_ d 232 24 [some (v_r (some 93)), some (v_i x1), l2, l3, l4, l5, some (v_i (x6 + (1 : Int32))), some (v_i x1)] [] (p_i (p_i h 96 (Int32.toNatClampNeg (h_i h 93 5)) ((x1 >>> (((24 : Int32) - ((8 : Int32) * (x6 - x6 / (4 : Int32) * (4 : Int32)))) &&& 31)) &&& (255 : Int32))) 93 5 ((h_i (p_i h 96 (Int32.toNatClampNeg (h_i h 93 5)) ((x1 >>> (((24 : Int32) - ((8 : Int32) * (x6 - x6 / (4 : Int32) * (4 : Int32)))) &&& 31)) &&& (255 : Int32))) 93 5) + (1 : Int32))) Q := by
  have e0 : h_r h 93 3 = some 96 := la_r Lh (q := (93, 3, 96)) (by decide)
  unfold ex_
  refine (am_Y_go 27 (ok := [am_is h (some 93) 12, am_is h (some 93) 12, ¬ (4 : Int32) = 0, am_ar h ((h_r h 93 3)) 20 (h_i h 93 5), am_is h (some 93) 12, am_is h (some 93) 12]) (g := (24, [some (v_r (some 93)), some (v_i x1), l2, l3, l4, l5, some (v_i (x6 + (1 : Int32))), some (v_i x1)], [], (p_i (p_i h ((h_r h 93 3).getD 0) (Int32.toNatClampNeg (h_i h 93 5)) ((x1 >>> (((24 : Int32) - ((8 : Int32) * (x6 - x6 / (4 : Int32) * (4 : Int32)))) &&& 31)) &&& (255 : Int32))) 93 5 ((h_i (p_i h ((h_r h 93 3).getD 0) (Int32.toNatClampNeg (h_i h 93 5)) ((x1 >>> (((24 : Int32) - ((8 : Int32) * (x6 - x6 / (4 : Int32) * (4 : Int32)))) &&& 31)) &&& (255 : Int32))) 93 5) + (1 : Int32))))) rfl).trans ?_
  simp only [e0, Option.getD_some, am_all]
  all_goals exact cj_d (la_is Lh (o := 93) rfl) (cj_d (la_is Lh (o := 93) rfl) (cj_d (by decide) (cj_k (la_ar Lh (o := 96) rfl) (cj_d (la_is Lh (o := 93) rfl) (cj_d (la_is Lh (o := 93) rfl) (Iff.rfl))))))

theorem b_X12_feed_52 {d : Nat} {Q : Option am_V → am_H → Prop} (h : am_H) (x6 : Int32) (l0 l1 l2 l3 l4 l5 l7 : Option am_V) : ex_ d 232 52 [l0, l1, l2, l3, l4, l5, some (v_i x6), l7] [] h Q ↔ if (12 : Int32) ≤ x6 then ex_ d 232 63 [l0, l1, l2, l3, l4, l5, some (v_i x6), l7] [] h Q else ex_ d 232 59 [l0, l1, l2, l3, l4, l5, some (v_i x6), l7] [] h Q := by
  unfold ex_
  refine (am_Y_go 3 (ok := []) (g := (if (12 : Int32) ≤ x6 then 63 else 59, [l0, l1, l2, l3, l4, l5, some (v_i x6), l7], [], h)) rfl).trans ?_
  all_goals exact am_Y_if

theorem b_X12_feed_48 {d : Nat} {Q : Option am_V → am_H → Prop} (h : am_H) (x2 : Int32) (x6 : Int32) (l1 l3 l4 l5 l7 : Option am_V) (Lh : Lay h) : ex_ d 232 48 [some (v_r (some 93)), l1, some (v_i x2), l3, l4, l5, some (v_i x6), l7] [] h Q ↔ vp_in (h_i h 93 5) 900 ∧ ex_ d 232 24 [some (v_r (some 93)), l1, some (v_i x2), l3, l4, l5, some (v_i (x6 + (1 : Int32))), some (v_i x2)] [] (p_i (p_i h 96 (Int32.toNatClampNeg (h_i h 93 5)) ((x2 >>> (((24 : Int32) - ((8 : Int32) * (x6 - x6 / (4 : Int32) * (4 : Int32)))) &&& 31)) &&& (255 : Int32))) 93 5 ((h_i (p_i h 96 (Int32.toNatClampNeg (h_i h 93 5)) ((x2 >>> (((24 : Int32) - ((8 : Int32) * (x6 - x6 / (4 : Int32) * (4 : Int32)))) &&& 31)) &&& (255 : Int32))) 93 5) + (1 : Int32))) Q := by
  have e0 : h_r h 93 3 = some 96 := la_r Lh (q := (93, 3, 96)) (by decide)
  unfold ex_
  refine (am_Y_go 27 (ok := [am_is h (some 93) 12, am_is h (some 93) 12, ¬ (4 : Int32) = 0, am_ar h ((h_r h 93 3)) 20 (h_i h 93 5), am_is h (some 93) 12, am_is h (some 93) 12]) (g := (24, [some (v_r (some 93)), l1, some (v_i x2), l3, l4, l5, some (v_i (x6 + (1 : Int32))), some (v_i x2)], [], (p_i (p_i h ((h_r h 93 3).getD 0) (Int32.toNatClampNeg (h_i h 93 5)) ((x2 >>> (((24 : Int32) - ((8 : Int32) * (x6 - x6 / (4 : Int32) * (4 : Int32)))) &&& 31)) &&& (255 : Int32))) 93 5 ((h_i (p_i h ((h_r h 93 3).getD 0) (Int32.toNatClampNeg (h_i h 93 5)) ((x2 >>> (((24 : Int32) - ((8 : Int32) * (x6 - x6 / (4 : Int32) * (4 : Int32)))) &&& 31)) &&& (255 : Int32))) 93 5) + (1 : Int32))))) rfl).trans ?_
  simp only [e0, Option.getD_some, am_all]
  all_goals exact cj_d (la_is Lh (o := 93) rfl) (cj_d (la_is Lh (o := 93) rfl) (cj_d (by decide) (cj_k (la_ar Lh (o := 96) rfl) (cj_d (la_is Lh (o := 93) rfl) (cj_d (la_is Lh (o := 93) rfl) (Iff.rfl))))))

theorem b_X12_feed_63 {d : Nat} {Q : Option am_V → am_H → Prop} (h : am_H) (x6 : Int32) (l0 l1 l2 l3 l4 l5 l7 : Option am_V) : ex_ d 232 63 [l0, l1, l2, l3, l4, l5, some (v_i x6), l7] [] h Q ↔ if (16 : Int32) ≤ x6 then ex_ d 232 75 [l0, l1, l2, l3, l4, l5, some (v_i x6), l7] [] h Q else ex_ d 232 70 [l0, l1, l2, l3, l4, l5, some (v_i x6), l7] [] h Q := by
  unfold ex_
  refine (am_Y_go 3 (ok := []) (g := (if (16 : Int32) ≤ x6 then 75 else 70, [l0, l1, l2, l3, l4, l5, some (v_i x6), l7], [], h)) rfl).trans ?_
  all_goals exact am_Y_if

theorem b_X12_feed_59 {d : Nat} {Q : Option am_V → am_H → Prop} (h : am_H) (x3 : Int32) (x6 : Int32) (l1 l2 l4 l5 l7 : Option am_V) (Lh : Lay h) : ex_ d 232 59 [some (v_r (some 93)), l1, l2, some (v_i x3), l4, l5, some (v_i x6), l7] [] h Q ↔ vp_in (h_i h 93 5) 900 ∧ ex_ d 232 24 [some (v_r (some 93)), l1, l2, some (v_i x3), l4, l5, some (v_i (x6 + (1 : Int32))), some (v_i x3)] [] (p_i (p_i h 96 (Int32.toNatClampNeg (h_i h 93 5)) ((x3 >>> (((24 : Int32) - ((8 : Int32) * (x6 - x6 / (4 : Int32) * (4 : Int32)))) &&& 31)) &&& (255 : Int32))) 93 5 ((h_i (p_i h 96 (Int32.toNatClampNeg (h_i h 93 5)) ((x3 >>> (((24 : Int32) - ((8 : Int32) * (x6 - x6 / (4 : Int32) * (4 : Int32)))) &&& 31)) &&& (255 : Int32))) 93 5) + (1 : Int32))) Q := by
  have e0 : h_r h 93 3 = some 96 := la_r Lh (q := (93, 3, 96)) (by decide)
  unfold ex_
  refine (am_Y_go 27 (ok := [am_is h (some 93) 12, am_is h (some 93) 12, ¬ (4 : Int32) = 0, am_ar h ((h_r h 93 3)) 20 (h_i h 93 5), am_is h (some 93) 12, am_is h (some 93) 12]) (g := (24, [some (v_r (some 93)), l1, l2, some (v_i x3), l4, l5, some (v_i (x6 + (1 : Int32))), some (v_i x3)], [], (p_i (p_i h ((h_r h 93 3).getD 0) (Int32.toNatClampNeg (h_i h 93 5)) ((x3 >>> (((24 : Int32) - ((8 : Int32) * (x6 - x6 / (4 : Int32) * (4 : Int32)))) &&& 31)) &&& (255 : Int32))) 93 5 ((h_i (p_i h ((h_r h 93 3).getD 0) (Int32.toNatClampNeg (h_i h 93 5)) ((x3 >>> (((24 : Int32) - ((8 : Int32) * (x6 - x6 / (4 : Int32) * (4 : Int32)))) &&& 31)) &&& (255 : Int32))) 93 5) + (1 : Int32))))) rfl).trans ?_
  simp only [e0, Option.getD_some, am_all]
  all_goals exact cj_d (la_is Lh (o := 93) rfl) (cj_d (la_is Lh (o := 93) rfl) (cj_d (by decide) (cj_k (la_ar Lh (o := 96) rfl) (cj_d (la_is Lh (o := 93) rfl) (cj_d (la_is Lh (o := 93) rfl) (Iff.rfl))))))

theorem b_X12_feed_75 {d : Nat} {Q : Option am_V → am_H → Prop} (h : am_H) (x5 : Int32) (x6 : Int32) (l1 l2 l3 l4 l7 : Option am_V) (Lh : Lay h) : ex_ d 232 75 [some (v_r (some 93)), l1, l2, l3, l4, some (v_i x5), some (v_i x6), l7] [] h Q ↔ vp_in (h_i h 93 5) 900 ∧ ex_ d 232 24 [some (v_r (some 93)), l1, l2, l3, l4, some (v_i x5), some (v_i (x6 + (1 : Int32))), some (v_i x5)] [] (p_i (p_i h 96 (Int32.toNatClampNeg (h_i h 93 5)) ((x5 >>> (((24 : Int32) - ((8 : Int32) * (x6 - x6 / (4 : Int32) * (4 : Int32)))) &&& 31)) &&& (255 : Int32))) 93 5 ((h_i (p_i h 96 (Int32.toNatClampNeg (h_i h 93 5)) ((x5 >>> (((24 : Int32) - ((8 : Int32) * (x6 - x6 / (4 : Int32) * (4 : Int32)))) &&& 31)) &&& (255 : Int32))) 93 5) + (1 : Int32))) Q := by
  have e0 : h_r h 93 3 = some 96 := la_r Lh (q := (93, 3, 96)) (by decide)
  unfold ex_
  refine (am_Y_go 26 (ok := [am_is h (some 93) 12, am_is h (some 93) 12, ¬ (4 : Int32) = 0, am_ar h ((h_r h 93 3)) 20 (h_i h 93 5), am_is h (some 93) 12, am_is h (some 93) 12]) (g := (24, [some (v_r (some 93)), l1, l2, l3, l4, some (v_i x5), some (v_i (x6 + (1 : Int32))), some (v_i x5)], [], (p_i (p_i h ((h_r h 93 3).getD 0) (Int32.toNatClampNeg (h_i h 93 5)) ((x5 >>> (((24 : Int32) - ((8 : Int32) * (x6 - x6 / (4 : Int32) * (4 : Int32)))) &&& 31)) &&& (255 : Int32))) 93 5 ((h_i (p_i h ((h_r h 93 3).getD 0) (Int32.toNatClampNeg (h_i h 93 5)) ((x5 >>> (((24 : Int32) - ((8 : Int32) * (x6 - x6 / (4 : Int32) * (4 : Int32)))) &&& 31)) &&& (255 : Int32))) 93 5) + (1 : Int32))))) rfl).trans ?_
  simp only [e0, Option.getD_some, am_all]
  all_goals exact cj_d (la_is Lh (o := 93) rfl) (cj_d (la_is Lh (o := 93) rfl) (cj_d (by decide) (cj_k (la_ar Lh (o := 96) rfl) (cj_d (la_is Lh (o := 93) rfl) (cj_d (la_is Lh (o := 93) rfl) (Iff.rfl))))))

theorem b_X12_feed_70 {d : Nat} {Q : Option am_V → am_H → Prop} (h : am_H) (x4 : Int32) (x6 : Int32) (l1 l2 l3 l5 l7 : Option am_V) (Lh : Lay h) : ex_ d 232 70 [some (v_r (some 93)), l1, l2, l3, some (v_i x4), l5, some (v_i x6), l7] [] h Q ↔ vp_in (h_i h 93 5) 900 ∧ ex_ d 232 24 [some (v_r (some 93)), l1, l2, l3, some (v_i x4), l5, some (v_i (x6 + (1 : Int32))), some (v_i x4)] [] (p_i (p_i h 96 (Int32.toNatClampNeg (h_i h 93 5)) ((x4 >>> (((24 : Int32) - ((8 : Int32) * (x6 - x6 / (4 : Int32) * (4 : Int32)))) &&& 31)) &&& (255 : Int32))) 93 5 ((h_i (p_i h 96 (Int32.toNatClampNeg (h_i h 93 5)) ((x4 >>> (((24 : Int32) - ((8 : Int32) * (x6 - x6 / (4 : Int32) * (4 : Int32)))) &&& 31)) &&& (255 : Int32))) 93 5) + (1 : Int32))) Q := by
  have e0 : h_r h 93 3 = some 96 := la_r Lh (q := (93, 3, 96)) (by decide)
  unfold ex_
  refine (am_Y_go 27 (ok := [am_is h (some 93) 12, am_is h (some 93) 12, ¬ (4 : Int32) = 0, am_ar h ((h_r h 93 3)) 20 (h_i h 93 5), am_is h (some 93) 12, am_is h (some 93) 12]) (g := (24, [some (v_r (some 93)), l1, l2, l3, some (v_i x4), l5, some (v_i (x6 + (1 : Int32))), some (v_i x4)], [], (p_i (p_i h ((h_r h 93 3).getD 0) (Int32.toNatClampNeg (h_i h 93 5)) ((x4 >>> (((24 : Int32) - ((8 : Int32) * (x6 - x6 / (4 : Int32) * (4 : Int32)))) &&& 31)) &&& (255 : Int32))) 93 5 ((h_i (p_i h ((h_r h 93 3).getD 0) (Int32.toNatClampNeg (h_i h 93 5)) ((x4 >>> (((24 : Int32) - ((8 : Int32) * (x6 - x6 / (4 : Int32) * (4 : Int32)))) &&& 31)) &&& (255 : Int32))) 93 5) + (1 : Int32))))) rfl).trans ?_
  simp only [e0, Option.getD_some, am_all]
  all_goals exact cj_d (la_is Lh (o := 93) rfl) (cj_d (la_is Lh (o := 93) rfl) (cj_d (by decide) (cj_k (la_ar Lh (o := 96) rfl) (cj_d (la_is Lh (o := 93) rfl) (cj_d (la_is Lh (o := 93) rfl) (Iff.rfl))))))

theorem b_X12_see_0 {d : Nat} {Q : Option am_V → am_H → Prop} (h : am_H) (x1 : Int32) (Lh : Lay h) : ex_ d 233 0 [some (v_r (some 93)), some (v_i x1)] [] h Q ↔ if (h_i h 93 8) ≤ x1 then ex_ d 233 17 [some (v_r (some 93)), some (v_i x1)] [] h Q else ex_ d 233 8 [some (v_r (some 93)), some (v_i x1)] [] h Q := by
  unfold ex_
  refine (am_Y_go 4 (ok := [am_is h (some 93) 12]) (g := (if (h_i h 93 8) ≤ x1 then 17 else 8, [some (v_r (some 93)), some (v_i x1)], [], h)) rfl).trans ?_
  simp only [am_all]
  all_goals exact cj_d (la_is Lh (o := 93) rfl) (am_Y_if)

theorem b_X12_see_17 {d : Nat} {Q : Option am_V → am_H → Prop} (h : am_H) (l0 l1 : Option am_V) : ex_ d 233 17 [l0, l1] [] h Q ↔ Q (some (v_i (-1 : Int32))) h := by
  unfold ex_
  refine (am_Y_go 1 (ok := []) (g := (18, [l0, l1], [v_i (-1 : Int32)], h)) rfl).trans ?_
  all_goals exact ((am_Y_ret rfl rfl rfl).trans (am_r0))

theorem b_X12_see_8 {d : Nat} {Q : Option am_V → am_H → Prop} (h : am_H) (x1 : Int32) (Lh : Lay h) : ex_ d 233 8 [some (v_r (some 93)), some (v_i x1)] [] h Q ↔ vp_in x1 900 ∧ Q (some (v_i (h_i h 96 (Int32.toNatClampNeg x1)))) h := by
  have e0 : h_r h 93 3 = some 96 := la_r Lh (q := (93, 3, 96)) (by decide)
  unfold ex_
  refine (am_Y_go 5 (ok := [am_is h (some 93) 12, am_ar h ((h_r h 93 3)) 20 x1]) (g := (18, [some (v_r (some 93)), some (v_i x1)], [v_i (h_i h ((h_r h 93 3).getD 0) (Int32.toNatClampNeg x1))], h)) rfl).trans ?_
  simp only [e0, Option.getD_some, am_all]
  all_goals exact cj_d (la_is Lh (o := 93) rfl) (cj_k (la_ar Lh (o := 96) rfl) (((am_Y_ret rfl rfl rfl).trans (am_r0))))

theorem b_X12_isSmall_0 {d : Nat} {Q : Option am_V → am_H → Prop} (h : am_H) (x0 : Int32) : ex_ d 234 0 [some (v_i x0)] [] h Q ↔ if x0 < (97 : Int32) then ex_ d 234 16 [some (v_i x0)] [] h Q else ex_ d 234 6 [some (v_i x0)] [] h Q := by
  unfold ex_
  refine (am_Y_go 3 (ok := []) (g := (if x0 < (97 : Int32) then 16 else 6, [some (v_i x0)], [], h)) rfl).trans ?_
  all_goals exact am_Y_if

theorem b_X12_isSmall_16 {d : Nat} {Q : Option am_V → am_H → Prop} (h : am_H) (l0 : Option am_V) : ex_ d 234 16 [l0] [] h Q ↔ Q (some (v_i (0 : Int32))) h := by
  unfold ex_
  refine (am_Y_go 1 (ok := []) (g := (17, [l0], [v_i (0 : Int32)], h)) rfl).trans ?_
  all_goals exact ((am_Y_ret rfl rfl rfl).trans (am_rz (show am_fit 1 0 from Or.inl rfl)))

theorem b_X12_isSmall_6 {d : Nat} {Q : Option am_V → am_H → Prop} (h : am_H) (x0 : Int32) : ex_ d 234 6 [some (v_i x0)] [] h Q ↔ if (122 : Int32) < x0 then ex_ d 234 16 [some (v_i x0)] [] h Q else ex_ d 234 12 [some (v_i x0)] [] h Q := by
  unfold ex_
  refine (am_Y_go 3 (ok := []) (g := (if (122 : Int32) < x0 then 16 else 12, [some (v_i x0)], [], h)) rfl).trans ?_
  all_goals exact am_Y_if

theorem b_X12_isSmall_12 {d : Nat} {Q : Option am_V → am_H → Prop} (h : am_H) (l0 : Option am_V) : ex_ d 234 12 [l0] [] h Q ↔ Q (some (v_i (1 : Int32))) h := by
  unfold ex_
  refine (am_Y_go 2 (ok := []) (g := (17, [l0], [v_i (1 : Int32)], h)) rfl).trans ?_
  all_goals exact ((am_Y_ret rfl rfl rfl).trans (am_rz (show am_fit 1 1 from Or.inr rfl)))

theorem b_X12_isDigit_0 {d : Nat} {Q : Option am_V → am_H → Prop} (h : am_H) (x0 : Int32) : ex_ d 235 0 [some (v_i x0)] [] h Q ↔ if x0 < (48 : Int32) then ex_ d 235 16 [some (v_i x0)] [] h Q else ex_ d 235 6 [some (v_i x0)] [] h Q := by
  unfold ex_
  refine (am_Y_go 3 (ok := []) (g := (if x0 < (48 : Int32) then 16 else 6, [some (v_i x0)], [], h)) rfl).trans ?_
  all_goals exact am_Y_if

theorem b_X12_isDigit_16 {d : Nat} {Q : Option am_V → am_H → Prop} (h : am_H) (l0 : Option am_V) : ex_ d 235 16 [l0] [] h Q ↔ Q (some (v_i (0 : Int32))) h := by
  unfold ex_
  refine (am_Y_go 1 (ok := []) (g := (17, [l0], [v_i (0 : Int32)], h)) rfl).trans ?_
  all_goals exact ((am_Y_ret rfl rfl rfl).trans (am_rz (show am_fit 1 0 from Or.inl rfl)))

theorem b_X12_isDigit_6 {d : Nat} {Q : Option am_V → am_H → Prop} (h : am_H) (x0 : Int32) : ex_ d 235 6 [some (v_i x0)] [] h Q ↔ if (57 : Int32) < x0 then ex_ d 235 16 [some (v_i x0)] [] h Q else ex_ d 235 12 [some (v_i x0)] [] h Q := by
  unfold ex_
  refine (am_Y_go 3 (ok := []) (g := (if (57 : Int32) < x0 then 16 else 12, [some (v_i x0)], [], h)) rfl).trans ?_
  all_goals exact am_Y_if

theorem b_X12_isDigit_12 {d : Nat} {Q : Option am_V → am_H → Prop} (h : am_H) (l0 : Option am_V) : ex_ d 235 12 [l0] [] h Q ↔ Q (some (v_i (1 : Int32))) h := by
  unfold ex_
  refine (am_Y_go 2 (ok := []) (g := (17, [l0], [v_i (1 : Int32)], h)) rfl).trans ?_
  all_goals exact ((am_Y_ret rfl rfl rfl).trans (am_rz (show am_fit 1 1 from Or.inr rfl)))

theorem b_X12_keyAt_0 {d : Nat} {Q : Option am_V → am_H → Prop} (h : am_H) (l0 l1 l2 l3 : Option am_V) : ex_ d 236 0 [l0, l1, l2, l3] [] h Q ↔ ex_ d 236 4 [l0, some (v_i (0 : Int32)), some (v_i (1 : Int32)), l3] [] h Q := by
  unfold ex_
  refine (am_Y_go 4 (ok := []) (g := (4, [l0, some (v_i (0 : Int32)), some (v_i (1 : Int32)), l3], [], h)) rfl).trans ?_
  all_goals exact Iff.rfl

theorem b_X12_keyAt_4 {d : Nat} {Q : Option am_V → am_H → Prop} (h : am_H) (x2 : Int32) (l0 l1 l3 : Option am_V) : ex_ (d + 1) 236 4 [l0, l1, some (v_i x2), l3] [] h Q ↔ ex_ d 85 0 [some (v_x 2)] [] h (fun r h' => ex_ (d + 1) 236 10 [l0, l1, some (v_i x2), l3] (r.toList ++ [v_i x2]) h' Q) := by
  unfold ex_
  refine (am_Y_go 2 (ok := []) (g := (7, [l0, l1, some (v_i x2), l3], [v_x 2, v_i x2], h)) rfl).trans ?_
  all_goals exact ((am_Y_call (j := 85) (na := 1) (ci := 50) (fl := 0) rfl rfl rfl).trans (cj_d ⟨⟨Nat.le_of_ble_eq_true rfl, Nat.le_of_ble_eq_true rfl, Nat.le_of_ble_eq_true rfl, rfl⟩, Or.inr (Or.inr (show (50 : Nat) = 50 ∧ (2 : Nat) < 3 from ⟨rfl, by decide⟩))⟩ Iff.rfl))

theorem b_X12_keyAt_10 {d : Nat} {Q : Option am_V → am_H → Prop} (h : am_H) (s0 : Int32) (s1 : Int32) (l0 l1 l2 l3 : Option am_V) : ex_ d 236 10 [l0, l1, l2, l3] [v_i s0, v_i s1] h Q ↔ if s0 ≤ s1 then ex_ d 236 123 [l0, l1, l2, l3] [] h Q else ex_ d 236 13 [l0, l1, l2, l3] [] h Q := by
  unfold ex_
  refine (am_Y_go 1 (ok := []) (g := (if s0 ≤ s1 then 123 else 13, [l0, l1, l2, l3], [], h)) rfl).trans ?_
  all_goals exact am_Y_if

theorem b_X12_keyAt_123 {d : Nat} {Q : Option am_V → am_H → Prop} (h : am_H) (l0 l1 l2 l3 : Option am_V) : ex_ d 236 123 [l0, l1, l2, l3] [] h Q ↔ Q (some (v_i (22 : Int32))) h := by
  unfold ex_
  refine (am_Y_go 1 (ok := []) (g := (125, [l0, l1, l2, l3], [v_i (22 : Int32)], h)) rfl).trans ?_
  all_goals exact ((am_Y_ret rfl rfl rfl).trans (am_r0))

theorem b_X12_keyAt_13 {d : Nat} {Q : Option am_V → am_H → Prop} (h : am_H) (l0 l1 l2 l3 : Option am_V) : ex_ d 236 13 [l0, l1, l2, l3] [] h Q ↔ ex_ d 236 15 [l0, l1, l2, some (v_i (0 : Int32))] [] h Q := by
  unfold ex_
  refine (am_Y_go 2 (ok := []) (g := (15, [l0, l1, l2, some (v_i (0 : Int32))], [], h)) rfl).trans ?_
  all_goals exact Iff.rfl

theorem b_X12_keyAt_15 {d : Nat} {Q : Option am_V → am_H → Prop} (h : am_H) (x2 : Int32) (x3 : Int32) (l0 l1 : Option am_V) : ex_ (d + 1) 236 15 [l0, l1, some (v_i x2), some (v_i x3)] [] h Q ↔ ex_ d 94 0 [some (v_x 2), some (v_i (x2 + x3))] [] h (fun r h' => ex_ (d + 1) 236 23 [l0, l1, some (v_i x2), some (v_i x3)] (r.toList ++ []) h' Q) := by
  unfold ex_
  refine (am_Y_go 4 (ok := []) (g := (20, [l0, l1, some (v_i x2), some (v_i x3)], [v_i (x2 + x3), v_x 2], h)) rfl).trans ?_
  all_goals exact ((am_Y_call (j := 94) (na := 2) (ci := 50) (fl := 0) rfl rfl rfl).trans (cj_d ⟨⟨Nat.le_of_ble_eq_true rfl, Nat.le_of_ble_eq_true rfl, Nat.le_of_ble_eq_true rfl, rfl⟩, Or.inr (Or.inr (show (50 : Nat) = 50 ∧ (2 : Nat) < 3 from ⟨rfl, by decide⟩))⟩ Iff.rfl))

theorem b_X12_keyAt_23 {d : Nat} {Q : Option am_V → am_H → Prop} (h : am_H) (s0 : Int32) (l0 l1 l2 l3 : Option am_V) : ex_ d 236 23 [l0, l1, l2, l3] [v_i s0] h Q ↔ if s0 = (32 : Int32) then ex_ d 236 69 [l0, l1, l2, l3] [] h Q else ex_ d 236 28 [l0, l1, l2, l3] [] h Q := by
  unfold ex_
  refine (am_Y_go 2 (ok := []) (g := (if s0 = (32 : Int32) then 69 else 28, [l0, l1, l2, l3], [], h)) rfl).trans ?_
  all_goals exact am_Y_if

theorem b_X12_keyAt_69 {d : Nat} {Q : Option am_V → am_H → Prop} (h : am_H) (x2 : Int32) (x3 : Int32) (l0 l1 : Option am_V) : ex_ (d + 1) 236 69 [l0, l1, some (v_i x2), some (v_i x3)] [] h Q ↔ ex_ d 94 0 [some (v_x 2), some (v_i (x2 + x3))] [] h (fun r h' => ex_ (d + 1) 236 77 [l0, l1, some (v_i x2), some (v_i x3)] (r.toList ++ []) h' Q) := by
  unfold ex_
  refine (am_Y_go 4 (ok := []) (g := (74, [l0, l1, some (v_i x2), some (v_i x3)], [v_i (x2 + x3), v_x 2], h)) rfl).trans ?_
  all_goals exact ((am_Y_call (j := 94) (na := 2) (ci := 50) (fl := 0) rfl rfl rfl).trans (cj_d ⟨⟨Nat.le_of_ble_eq_true rfl, Nat.le_of_ble_eq_true rfl, Nat.le_of_ble_eq_true rfl, rfl⟩, Or.inr (Or.inr (show (50 : Nat) = 50 ∧ (2 : Nat) < 3 from ⟨rfl, by decide⟩))⟩ Iff.rfl))

theorem b_X12_keyAt_28 {d : Nat} {Q : Option am_V → am_H → Prop} (h : am_H) (x3 : Int32) (l1 l2 : Option am_V) (Lh : Lay h) : ex_ d 236 28 [some (v_r (some 93)), l1, l2, some (v_i x3)] [] h Q ↔ if (h_i h 93 7) ≤ ((h_i h 93 6) + x3) then ex_ d 236 69 [some (v_r (some 93)), l1, l2, some (v_i x3)] [] h Q else ex_ d 236 41 [some (v_r (some 93)), l1, l2, some (v_i x3)] [] h Q := by
  unfold ex_
  refine (am_Y_go 7 (ok := [am_is h (some 93) 12, am_is h (some 93) 12]) (g := (if (h_i h 93 7) ≤ ((h_i h 93 6) + x3) then 69 else 41, [some (v_r (some 93)), l1, l2, some (v_i x3)], [], h)) rfl).trans ?_
  simp only [am_all]
  all_goals exact cj_d (la_is Lh (o := 93) rfl) (cj_d (la_is Lh (o := 93) rfl) (am_Y_if))

theorem b_X12_keyAt_77 {d : Nat} {Q : Option am_V → am_H → Prop} (h : am_H) (s0 : Int32) (l0 l1 l2 l3 : Option am_V) : ex_ d 236 77 [l0, l1, l2, l3] [v_i s0] h Q ↔ if ¬ s0 = (32 : Int32) then ex_ d 236 97 [l0, l1, l2, l3] [] h Q else ex_ d 236 82 [l0, l1, l2, l3] [] h Q := by
  unfold ex_
  refine (am_Y_go 2 (ok := []) (g := (if ¬ s0 = (32 : Int32) then 97 else 82, [l0, l1, l2, l3], [], h)) rfl).trans ?_
  all_goals exact am_Y_if

theorem b_X12_keyAt_41 {d : Nat} {Q : Option am_V → am_H → Prop} (h : am_H) (x3 : Int32) (x2 : Int32) (l1 : Option am_V) (Lh : Lay h) : ex_ (d + 1) 236 41 [some (v_r (some 93)), l1, some (v_i x2), some (v_i x3)] [] h Q ↔ vp_in ((h_i h 93 6) + x3) 900 ∧ ex_ d 94 0 [some (v_x 2), some (v_i (x2 + x3))] [] h (fun r h' => ex_ (d + 1) 236 60 [some (v_r (some 93)), l1, some (v_i x2), some (v_i x3)] (r.toList ++ [v_i (h_i h 96 (Int32.toNatClampNeg ((h_i h 93 6) + x3)))]) h' Q) := by
  have e0 : h_r h 93 3 = some 96 := la_r Lh (q := (93, 3, 96)) (by decide)
  unfold ex_
  refine (am_Y_go 11 (ok := [am_is h (some 93) 12, am_is h (some 93) 12, am_ar h ((h_r h 93 3)) 20 ((h_i h 93 6) + x3)]) (g := (57, [some (v_r (some 93)), l1, some (v_i x2), some (v_i x3)], [v_i (x2 + x3), v_x 2, v_i (h_i h ((h_r h 93 3).getD 0) (Int32.toNatClampNeg ((h_i h 93 6) + x3)))], h)) rfl).trans ?_
  simp only [e0, Option.getD_some, am_all]
  all_goals exact cj_d (la_is Lh (o := 93) rfl) (cj_d (la_is Lh (o := 93) rfl) (cj_k (la_ar Lh (o := 96) rfl) (((am_Y_call (j := 94) (na := 2) (ci := 50) (fl := 0) rfl rfl rfl).trans (cj_d ⟨⟨Nat.le_of_ble_eq_true rfl, Nat.le_of_ble_eq_true rfl, Nat.le_of_ble_eq_true rfl, rfl⟩, Or.inr (Or.inr (show (50 : Nat) = 50 ∧ (2 : Nat) < 3 from ⟨rfl, by decide⟩))⟩ Iff.rfl)))))

theorem b_X12_keyAt_97 {d : Nat} {Q : Option am_V → am_H → Prop} (h : am_H) (x2 : Int32) (l0 l1 l3 : Option am_V) : ex_ (d + 1) 236 97 [l0, l1, some (v_i x2), l3] [] h Q ↔ ex_ d 94 0 [some (v_x 2), some (v_i x2)] [] h (fun r h' => ex_ (d + 1) 236 103 [l0, l1, some (v_i x2), l3] (r.toList ++ []) h' Q) := by
  unfold ex_
  refine (am_Y_go 2 (ok := []) (g := (100, [l0, l1, some (v_i x2), l3], [v_i x2, v_x 2], h)) rfl).trans ?_
  all_goals exact ((am_Y_call (j := 94) (na := 2) (ci := 50) (fl := 0) rfl rfl rfl).trans (cj_d ⟨⟨Nat.le_of_ble_eq_true rfl, Nat.le_of_ble_eq_true rfl, Nat.le_of_ble_eq_true rfl, rfl⟩, Or.inr (Or.inr (show (50 : Nat) = 50 ∧ (2 : Nat) < 3 from ⟨rfl, by decide⟩))⟩ Iff.rfl))

theorem b_X12_keyAt_82 {d : Nat} {Q : Option am_V → am_H → Prop} (h : am_H) (x3 : Int32) (l1 l2 : Option am_V) (Lh : Lay h) : ex_ d 236 82 [some (v_r (some 93)), l1, l2, some (v_i x3)] [] h Q ↔ if ¬ ((h_i h 93 6) + x3) = (h_i h 93 7) then ex_ d 236 97 [some (v_r (some 93)), l1, l2, some (v_i x3)] [] h Q else ex_ d 236 95 [some (v_r (some 93)), l1, l2, some (v_i x3)] [] h Q := by
  unfold ex_
  refine (am_Y_go 7 (ok := [am_is h (some 93) 12, am_is h (some 93) 12]) (g := (if ¬ ((h_i h 93 6) + x3) = (h_i h 93 7) then 97 else 95, [some (v_r (some 93)), l1, l2, some (v_i x3)], [], h)) rfl).trans ?_
  simp only [am_all]
  all_goals exact cj_d (la_is Lh (o := 93) rfl) (cj_d (la_is Lh (o := 93) rfl) (am_Y_if))

theorem b_X12_keyAt_60 {d : Nat} {Q : Option am_V → am_H → Prop} (h : am_H) (s0 : Int32) (s1 : Int32) (l0 l1 l2 l3 : Option am_V) : ex_ d 236 60 [l0, l1, l2, l3] [v_i s0, v_i s1] h Q ↔ if ¬ s1 = s0 then ex_ d 236 69 [l0, l1, l2, l3] [] h Q else ex_ d 236 63 [l0, l1, l2, l3] [] h Q := by
  unfold ex_
  refine (am_Y_go 1 (ok := []) (g := (if ¬ s1 = s0 then 69 else 63, [l0, l1, l2, l3], [], h)) rfl).trans ?_
  all_goals exact am_Y_if

theorem b_X12_keyAt_103 {d : Nat} {Q : Option am_V → am_H → Prop} (h : am_H) (s0 : Int32) (l0 l1 l2 l3 : Option am_V) : ex_ d 236 103 [l0, l1, l2, l3] [v_i s0] h Q ↔ if s0 = (32 : Int32) then ex_ d 236 114 [l0, l1, l2, l3] [] h Q else ex_ d 236 108 [l0, l1, l2, l3] [] h Q := by
  unfold ex_
  refine (am_Y_go 2 (ok := []) (g := (if s0 = (32 : Int32) then 114 else 108, [l0, l1, l2, l3], [], h)) rfl).trans ?_
  all_goals exact am_Y_if

theorem b_X12_keyAt_95 {d : Nat} {Q : Option am_V → am_H → Prop} (h : am_H) (x1 : Int32) (l0 l2 l3 : Option am_V) : ex_ d 236 95 [l0, some (v_i x1), l2, l3] [] h Q ↔ Q (some (v_i x1)) h := by
  unfold ex_
  refine (am_Y_go 1 (ok := []) (g := (96, [l0, some (v_i x1), l2, l3], [v_i x1], h)) rfl).trans ?_
  all_goals exact ((am_Y_ret rfl rfl rfl).trans (am_r0))

theorem b_X12_keyAt_63 {d : Nat} {Q : Option am_V → am_H → Prop} (h : am_H) (x3 : Int32) (l0 l1 l2 : Option am_V) : ex_ d 236 63 [l0, l1, l2, some (v_i x3)] [] h Q ↔ ex_ d 236 15 [l0, l1, l2, some (v_i (x3 + (1 : Int32)))] [] h Q := by
  unfold ex_
  refine (am_Y_go 2 (ok := []) (g := (15, [l0, l1, l2, some (v_i (x3 + (1 : Int32)))], [], h)) rfl).trans ?_
  all_goals exact Iff.rfl

theorem b_X12_keyAt_114 {d : Nat} {Q : Option am_V → am_H → Prop} (h : am_H) (x2 : Int32) (x1 : Int32) (l0 l3 : Option am_V) : ex_ d 236 114 [l0, some (v_i x1), some (v_i x2), l3] [] h Q ↔ ex_ d 236 4 [l0, some (v_i (x1 + (1 : Int32))), some (v_i (x2 + (1 : Int32))), l3] [] h Q := by
  unfold ex_
  refine (am_Y_go 3 (ok := []) (g := (4, [l0, some (v_i (x1 + (1 : Int32))), some (v_i (x2 + (1 : Int32))), l3], [], h)) rfl).trans ?_
  all_goals exact Iff.rfl

theorem b_X12_keyAt_108 {d : Nat} {Q : Option am_V → am_H → Prop} (h : am_H) (x2 : Int32) (l0 l1 l3 : Option am_V) : ex_ d 236 108 [l0, l1, some (v_i x2), l3] [] h Q ↔ ex_ d 236 97 [l0, l1, some (v_i (x2 + (1 : Int32))), l3] [] h Q := by
  unfold ex_
  refine (am_Y_go 2 (ok := []) (g := (97, [l0, l1, some (v_i (x2 + (1 : Int32))), l3], [], h)) rfl).trans ?_
  all_goals exact Iff.rfl

theorem b_X12_next_0 {d : Nat} {Q : Option am_V → am_H → Prop} (h : am_H) (l1 : Option am_V) (Lh : Lay h) : ex_ d 237 0 [some (v_r (some 93)), l1] [] h Q ↔ ex_ d 237 8 [some (v_r (some 93)), l1] [] (p_i h 93 6 (h_i h 93 7)) Q := by
  unfold ex_
  refine (am_Y_go 4 (ok := [am_is h (some 93) 12, am_is h (some 93) 12]) (g := (8, [some (v_r (some 93)), l1], [], (p_i h 93 6 (h_i h 93 7)))) rfl).trans ?_
  simp only [am_all]
  all_goals exact cj_d (la_is Lh (o := 93) rfl) (cj_d (la_is Lh (o := 93) rfl) (Iff.rfl))

theorem b_X12_next_8 {d : Nat} {Q : Option am_V → am_H → Prop} (h : am_H) (l1 : Option am_V) (Lh : Lay h) : ex_ (d + 1) 237 8 [some (v_r (some 93)), l1] [] h Q ↔ ex_ d 233 0 [some (v_r (some 93)), some (v_i (h_i h 93 6))] [] h (fun r h' => ex_ (d + 1) 237 16 [some (v_r (some 93)), l1] (r.toList ++ []) h' Q) := by
  unfold ex_
  refine (am_Y_go 3 (ok := [am_is h (some 93) 12]) (g := (13, [some (v_r (some 93)), l1], [v_i (h_i h 93 6), v_r (some 93)], h)) rfl).trans ?_
  simp only [am_all]
  all_goals exact cj_d (la_is Lh (o := 93) rfl) (((am_Y_call (j := 233) (na := 2) (ci := 12) (fl := 0) rfl rfl rfl).trans (cj_d ⟨⟨Nat.le_of_ble_eq_true rfl, Nat.le_of_ble_eq_true rfl, Nat.le_of_ble_eq_true rfl, rfl⟩, Or.inr (Or.inr (show (12 : Nat) < 20 ∧ am_is h (some 93) 12 from ⟨by decide, (la_is Lh (o := 93) rfl)⟩))⟩ Iff.rfl)))

theorem b_X12_next_16 {d : Nat} {Q : Option am_V → am_H → Prop} (h : am_H) (s0 : Int32) (l0 l1 : Option am_V) : ex_ d 237 16 [l0, l1] [v_i s0] h Q ↔ if s0 = (10 : Int32) then ex_ d 237 34 [l0, l1] [] h Q else ex_ d 237 21 [l0, l1] [] h Q := by
  unfold ex_
  refine (am_Y_go 2 (ok := []) (g := (if s0 = (10 : Int32) then 34 else 21, [l0, l1], [], h)) rfl).trans ?_
  all_goals exact am_Y_if

theorem b_X12_next_34 {d : Nat} {Q : Option am_V → am_H → Prop} (h : am_H) (l1 : Option am_V) (Lh : Lay h) : ex_ d 237 34 [some (v_r (some 93)), l1] [] h Q ↔ ex_ d 237 8 [some (v_r (some 93)), l1] [] (p_i h 93 6 ((h_i h 93 6) + (1 : Int32))) Q := by
  unfold ex_
  refine (am_Y_go 7 (ok := [am_is h (some 93) 12, am_is h (some 93) 12]) (g := (8, [some (v_r (some 93)), l1], [], (p_i h 93 6 ((h_i h 93 6) + (1 : Int32))))) rfl).trans ?_
  simp only [am_all]
  all_goals exact cj_d (la_is Lh (o := 93) rfl) (cj_d (la_is Lh (o := 93) rfl) (Iff.rfl))

theorem b_X12_next_21 {d : Nat} {Q : Option am_V → am_H → Prop} (h : am_H) (l1 : Option am_V) (Lh : Lay h) : ex_ (d + 1) 237 21 [some (v_r (some 93)), l1] [] h Q ↔ ex_ d 233 0 [some (v_r (some 93)), some (v_i (h_i h 93 6))] [] h (fun r h' => ex_ (d + 1) 237 29 [some (v_r (some 93)), l1] (r.toList ++ []) h' Q) := by
  unfold ex_
  refine (am_Y_go 3 (ok := [am_is h (some 93) 12]) (g := (26, [some (v_r (some 93)), l1], [v_i (h_i h 93 6), v_r (some 93)], h)) rfl).trans ?_
  simp only [am_all]
  all_goals exact cj_d (la_is Lh (o := 93) rfl) (((am_Y_call (j := 233) (na := 2) (ci := 12) (fl := 0) rfl rfl rfl).trans (cj_d ⟨⟨Nat.le_of_ble_eq_true rfl, Nat.le_of_ble_eq_true rfl, Nat.le_of_ble_eq_true rfl, rfl⟩, Or.inr (Or.inr (show (12 : Nat) < 20 ∧ am_is h (some 93) 12 from ⟨by decide, (la_is Lh (o := 93) rfl)⟩))⟩ Iff.rfl)))

theorem b_X12_next_29 {d : Nat} {Q : Option am_V → am_H → Prop} (h : am_H) (s0 : Int32) (l0 l1 : Option am_V) : ex_ d 237 29 [l0, l1] [v_i s0] h Q ↔ if ¬ s0 = (32 : Int32) then ex_ d 237 47 [l0, l1] [] h Q else ex_ d 237 34 [l0, l1] [] h Q := by
  unfold ex_
  refine (am_Y_go 2 (ok := []) (g := (if ¬ s0 = (32 : Int32) then 47 else 34, [l0, l1], [], h)) rfl).trans ?_
  all_goals exact am_Y_if

theorem b_X12_next_47 {d : Nat} {Q : Option am_V → am_H → Prop} (h : am_H) (l1 : Option am_V) (Lh : Lay h) : ex_ d 237 47 [some (v_r (some 93)), l1] [] h Q ↔ if (h_i (p_i h 93 7 (h_i h 93 6)) 93 6) < (h_i (p_i h 93 7 (h_i h 93 6)) 93 8) then ex_ d 237 75 [some (v_r (some 93)), l1] [] (p_i h 93 7 (h_i h 93 6)) Q else ex_ d 237 66 [some (v_r (some 93)), l1] [] (p_i h 93 7 (h_i h 93 6)) Q := by
  unfold ex_
  refine (am_Y_go 9 (ok := [am_is h (some 93) 12, am_is h (some 93) 12, am_is h (some 93) 12, am_is h (some 93) 12]) (g := (if (h_i (p_i h 93 7 (h_i h 93 6)) 93 6) < (h_i (p_i h 93 7 (h_i h 93 6)) 93 8) then 75 else 66, [some (v_r (some 93)), l1], [], (p_i h 93 7 (h_i h 93 6)))) rfl).trans ?_
  simp only [am_all]
  all_goals exact cj_d (la_is Lh (o := 93) rfl) (cj_d (la_is Lh (o := 93) rfl) (cj_d (la_is Lh (o := 93) rfl) (cj_d (la_is Lh (o := 93) rfl) (am_Y_if))))

theorem b_X12_next_75 {d : Nat} {Q : Option am_V → am_H → Prop} (h : am_H) (l1 : Option am_V) (Lh : Lay h) : ex_ (d + 1) 237 75 [some (v_r (some 93)), l1] [] h Q ↔ ex_ d 233 0 [some (v_r (some 93)), some (v_i (h_i h 93 6))] [] h (fun r h' => ex_ (d + 1) 237 83 [some (v_r (some 93)), l1] (r.toList ++ []) h' Q) := by
  unfold ex_
  refine (am_Y_go 3 (ok := [am_is h (some 93) 12]) (g := (80, [some (v_r (some 93)), l1], [v_i (h_i h 93 6), v_r (some 93)], h)) rfl).trans ?_
  simp only [am_all]
  all_goals exact cj_d (la_is Lh (o := 93) rfl) (((am_Y_call (j := 233) (na := 2) (ci := 12) (fl := 0) rfl rfl rfl).trans (cj_d ⟨⟨Nat.le_of_ble_eq_true rfl, Nat.le_of_ble_eq_true rfl, Nat.le_of_ble_eq_true rfl, rfl⟩, Or.inr (Or.inr (show (12 : Nat) < 20 ∧ am_is h (some 93) 12 from ⟨by decide, (la_is Lh (o := 93) rfl)⟩))⟩ Iff.rfl)))

theorem b_X12_next_66 {d : Nat} {Q : Option am_V → am_H → Prop} (h : am_H) (l1 : Option am_V) (Lh : Lay h) : ex_ d 237 66 [some (v_r (some 93)), l1] [] h Q ↔ Q (none) (p_i h 93 9 (24 : Int32)) := by
  unfold ex_
  refine (am_Y_go 4 (ok := [am_is h (some 93) 12]) (g := (294, [some (v_r (some 93)), l1], [], (p_i h 93 9 (24 : Int32)))) rfl).trans ?_
  simp only [am_all]
  all_goals exact cj_d (la_is Lh (o := 93) rfl) (((am_Y_ret rfl rfl rfl).trans (am_rz rfl)))

theorem b_X12_next_83 {d : Nat} {Q : Option am_V → am_H → Prop} (h : am_H) (s0 : Int32) (l0 l1 : Option am_V) : ex_ (d + 1) 237 83 [l0, l1] [v_i s0] h Q ↔ ex_ d 234 0 [some (v_i s0)] [] h (fun r h' => ex_ (d + 1) 237 86 [l0, l1] (r.toList ++ []) h' Q) := by
  unfold ex_
  exact ((am_Y_call (j := 234) (na := 1) (ci := 12) (fl := 2) rfl rfl rfl).trans (cj_d ⟨⟨Nat.le_of_ble_eq_true rfl, Nat.le_of_ble_eq_true rfl, Nat.le_of_ble_eq_true rfl, rfl⟩, Or.inl rfl⟩ Iff.rfl))

theorem b_X12_next_86 {d : Nat} {Q : Option am_V → am_H → Prop} (h : am_H) (s0 : Int32) (l0 l1 : Option am_V) : ex_ d 237 86 [l0, l1] [v_i s0] h Q ↔ if s0 = 0 then ex_ d 237 127 [l0, l1] [] h Q else ex_ d 237 89 [l0, l1] [] h Q := by
  unfold ex_
  refine (am_Y_go 1 (ok := []) (g := (if s0 = 0 then 127 else 89, [l0, l1], [], h)) rfl).trans ?_
  all_goals exact am_Y_if

theorem b_X12_next_127 {d : Nat} {Q : Option am_V → am_H → Prop} (h : am_H) (l1 : Option am_V) (Lh : Lay h) : ex_ (d + 1) 237 127 [some (v_r (some 93)), l1] [] h Q ↔ ex_ d 233 0 [some (v_r (some 93)), some (v_i (h_i h 93 6))] [] h (fun r h' => ex_ (d + 1) 237 135 [some (v_r (some 93)), l1] (r.toList ++ []) h' Q) := by
  unfold ex_
  refine (am_Y_go 3 (ok := [am_is h (some 93) 12]) (g := (132, [some (v_r (some 93)), l1], [v_i (h_i h 93 6), v_r (some 93)], h)) rfl).trans ?_
  simp only [am_all]
  all_goals exact cj_d (la_is Lh (o := 93) rfl) (((am_Y_call (j := 233) (na := 2) (ci := 12) (fl := 0) rfl rfl rfl).trans (cj_d ⟨⟨Nat.le_of_ble_eq_true rfl, Nat.le_of_ble_eq_true rfl, Nat.le_of_ble_eq_true rfl, rfl⟩, Or.inr (Or.inr (show (12 : Nat) < 20 ∧ am_is h (some 93) 12 from ⟨by decide, (la_is Lh (o := 93) rfl)⟩))⟩ Iff.rfl)))

theorem b_X12_next_89 {d : Nat} {Q : Option am_V → am_H → Prop} (h : am_H) (l1 : Option am_V) (Lh : Lay h) : ex_ (d + 1) 237 89 [some (v_r (some 93)), l1] [] h Q ↔ ex_ d 233 0 [some (v_r (some 93)), some (v_i (h_i h 93 7))] [] h (fun r h' => ex_ (d + 1) 237 97 [some (v_r (some 93)), l1] (r.toList ++ []) h' Q) := by
  unfold ex_
  refine (am_Y_go 3 (ok := [am_is h (some 93) 12]) (g := (94, [some (v_r (some 93)), l1], [v_i (h_i h 93 7), v_r (some 93)], h)) rfl).trans ?_
  simp only [am_all]
  all_goals exact cj_d (la_is Lh (o := 93) rfl) (((am_Y_call (j := 233) (na := 2) (ci := 12) (fl := 0) rfl rfl rfl).trans (cj_d ⟨⟨Nat.le_of_ble_eq_true rfl, Nat.le_of_ble_eq_true rfl, Nat.le_of_ble_eq_true rfl, rfl⟩, Or.inr (Or.inr (show (12 : Nat) < 20 ∧ am_is h (some 93) 12 from ⟨by decide, (la_is Lh (o := 93) rfl)⟩))⟩ Iff.rfl)))

theorem b_X12_next_135 {d : Nat} {Q : Option am_V → am_H → Prop} (h : am_H) (s0 : Int32) (l0 l1 : Option am_V) : ex_ (d + 1) 237 135 [l0, l1] [v_i s0] h Q ↔ ex_ d 235 0 [some (v_i s0)] [] h (fun r h' => ex_ (d + 1) 237 138 [l0, l1] (r.toList ++ []) h' Q) := by
  unfold ex_
  exact ((am_Y_call (j := 235) (na := 1) (ci := 12) (fl := 2) rfl rfl rfl).trans (cj_d ⟨⟨Nat.le_of_ble_eq_true rfl, Nat.le_of_ble_eq_true rfl, Nat.le_of_ble_eq_true rfl, rfl⟩, Or.inl rfl⟩ Iff.rfl))

theorem b_X12_next_97 {d : Nat} {Q : Option am_V → am_H → Prop} (h : am_H) (s0 : Int32) (l0 l1 : Option am_V) : ex_ (d + 1) 237 97 [l0, l1] [v_i s0] h Q ↔ ex_ d 234 0 [some (v_i s0)] [] h (fun r h' => ex_ (d + 1) 237 100 [l0, l1] (r.toList ++ []) h' Q) := by
  unfold ex_
  exact ((am_Y_call (j := 234) (na := 1) (ci := 12) (fl := 2) rfl rfl rfl).trans (cj_d ⟨⟨Nat.le_of_ble_eq_true rfl, Nat.le_of_ble_eq_true rfl, Nat.le_of_ble_eq_true rfl, rfl⟩, Or.inl rfl⟩ Iff.rfl))

theorem b_X12_next_138 {d : Nat} {Q : Option am_V → am_H → Prop} (h : am_H) (s0 : Int32) (l0 l1 : Option am_V) : ex_ d 237 138 [l0, l1] [v_i s0] h Q ↔ if s0 = 0 then ex_ d 237 236 [l0, l1] [] h Q else ex_ d 237 141 [l0, l1] [] h Q := by
  unfold ex_
  refine (am_Y_go 1 (ok := []) (g := (if s0 = 0 then 236 else 141, [l0, l1], [], h)) rfl).trans ?_
  all_goals exact am_Y_if

theorem b_X12_next_100 {d : Nat} {Q : Option am_V → am_H → Prop} (h : am_H) (s0 : Int32) (l0 l1 : Option am_V) : ex_ d 237 100 [l0, l1] [v_i s0] h Q ↔ if s0 = 0 then ex_ d 237 116 [l0, l1] [] h Q else ex_ d 237 103 [l0, l1] [] h Q := by
  unfold ex_
  refine (am_Y_go 1 (ok := []) (g := (if s0 = 0 then 116 else 103, [l0, l1], [], h)) rfl).trans ?_
  all_goals exact am_Y_if

theorem b_X12_next_236 {d : Nat} {Q : Option am_V → am_H → Prop} (h : am_H) (l1 : Option am_V) (Lh : Lay h) : ex_ d 237 236 [some (v_r (some 93)), l1] [] h Q ↔ ex_ d 237 254 [some (v_r (some 93)), some (v_i (0 : Int32))] [] (p_i (p_i h 93 7 ((h_i h 93 7) + (1 : Int32))) 93 9 (25 : Int32)) Q := by
  unfold ex_
  refine (am_Y_go 11 (ok := [am_is h (some 93) 12, am_is h (some 93) 12, am_is h (some 93) 12]) (g := (254, [some (v_r (some 93)), some (v_i (0 : Int32))], [], (p_i (p_i h 93 7 ((h_i h 93 7) + (1 : Int32))) 93 9 (25 : Int32)))) rfl).trans ?_
  simp only [am_all]
  all_goals exact cj_d (la_is Lh (o := 93) rfl) (cj_d (la_is Lh (o := 93) rfl) (cj_d (la_is Lh (o := 93) rfl) (Iff.rfl)))

theorem b_X12_next_141 {d : Nat} {Q : Option am_V → am_H → Prop} (h : am_H) (l1 : Option am_V) (Lh : Lay h) : ex_ d 237 141 [some (v_r (some 93)), l1] [] h Q ↔ ex_ d 237 146 [some (v_r (some 93)), l1] [] (p_i h 93 10 (0 : Int32)) Q := by
  unfold ex_
  refine (am_Y_go 3 (ok := [am_is h (some 93) 12]) (g := (146, [some (v_r (some 93)), l1], [], (p_i h 93 10 (0 : Int32)))) rfl).trans ?_
  simp only [am_all]
  all_goals exact cj_d (la_is Lh (o := 93) rfl) (Iff.rfl)

theorem b_X12_next_116 {d : Nat} {Q : Option am_V → am_H → Prop} (h : am_H) (l1 : Option am_V) (Lh : Lay h) : ex_ (d + 1) 237 116 [some (v_r (some 93)), l1] [] h Q ↔ ex_ d 236 0 [some (v_r (some 93)), none, none, none] [] h (fun r h' => ex_ (d + 1) 237 121 [some (v_r (some 93)), l1] (r.toList ++ [v_r (some 93)]) h' Q) := by
  unfold ex_
  refine (am_Y_go 2 (ok := []) (g := (118, [some (v_r (some 93)), l1], [v_r (some 93), v_r (some 93)], h)) rfl).trans ?_
  all_goals exact ((am_Y_call (j := 236) (na := 1) (ci := 12) (fl := 0) rfl rfl rfl).trans (cj_d ⟨⟨Nat.le_of_ble_eq_true rfl, Nat.le_of_ble_eq_true rfl, Nat.le_of_ble_eq_true rfl, rfl⟩, Or.inr (Or.inr (show (12 : Nat) < 20 ∧ am_is h (some 93) 12 from ⟨by decide, (la_is Lh (o := 93) rfl)⟩))⟩ Iff.rfl))

theorem b_X12_next_103 {d : Nat} {Q : Option am_V → am_H → Prop} (h : am_H) (l1 : Option am_V) (Lh : Lay h) : ex_ d 237 103 [some (v_r (some 93)), l1] [] h Q ↔ ex_ d 237 89 [some (v_r (some 93)), l1] [] (p_i h 93 7 ((h_i h 93 7) + (1 : Int32))) Q := by
  unfold ex_
  refine (am_Y_go 7 (ok := [am_is h (some 93) 12, am_is h (some 93) 12]) (g := (89, [some (v_r (some 93)), l1], [], (p_i h 93 7 ((h_i h 93 7) + (1 : Int32))))) rfl).trans ?_
  simp only [am_all]
  all_goals exact cj_d (la_is Lh (o := 93) rfl) (cj_d (la_is Lh (o := 93) rfl) (Iff.rfl))

theorem b_X12_next_254 {d : Nat} {Q : Option am_V → am_H → Prop} (h : am_H) (x1 : Int32) (l0 : Option am_V) : ex_ (d + 1) 237 254 [l0, some (v_i x1)] [] h Q ↔ ex_ d 85 0 [some (v_x 1)] [] h (fun r h' => ex_ (d + 1) 237 260 [l0, some (v_i x1)] (r.toList ++ [v_i x1]) h' Q) := by
  unfold ex_
  refine (am_Y_go 2 (ok := []) (g := (257, [l0, some (v_i x1)], [v_x 1, v_i x1], h)) rfl).trans ?_
  all_goals exact ((am_Y_call (j := 85) (na := 1) (ci := 50) (fl := 0) rfl rfl rfl).trans (cj_d ⟨⟨Nat.le_of_ble_eq_true rfl, Nat.le_of_ble_eq_true rfl, Nat.le_of_ble_eq_true rfl, rfl⟩, Or.inr (Or.inr (show (50 : Nat) = 50 ∧ (1 : Nat) < 3 from ⟨rfl, by decide⟩))⟩ Iff.rfl))

theorem b_X12_next_146 {d : Nat} {Q : Option am_V → am_H → Prop} (h : am_H) (l1 : Option am_V) (Lh : Lay h) : ex_ (d + 1) 237 146 [some (v_r (some 93)), l1] [] h Q ↔ ex_ d 233 0 [some (v_r (some 93)), some (v_i (h_i h 93 7))] [] h (fun r h' => ex_ (d + 1) 237 154 [some (v_r (some 93)), l1] (r.toList ++ []) h' Q) := by
  unfold ex_
  refine (am_Y_go 3 (ok := [am_is h (some 93) 12]) (g := (151, [some (v_r (some 93)), l1], [v_i (h_i h 93 7), v_r (some 93)], h)) rfl).trans ?_
  simp only [am_all]
  all_goals exact cj_d (la_is Lh (o := 93) rfl) (((am_Y_call (j := 233) (na := 2) (ci := 12) (fl := 0) rfl rfl rfl).trans (cj_d ⟨⟨Nat.le_of_ble_eq_true rfl, Nat.le_of_ble_eq_true rfl, Nat.le_of_ble_eq_true rfl, rfl⟩, Or.inr (Or.inr (show (12 : Nat) < 20 ∧ am_is h (some 93) 12 from ⟨by decide, (la_is Lh (o := 93) rfl)⟩))⟩ Iff.rfl)))

theorem b_X12_next_121 {d : Nat} {Q : Option am_V → am_H → Prop} (h : am_H) (s0 : Int32) (l0 l1 : Option am_V) (Lh : Lay h) : ex_ d 237 121 [l0, l1] [v_i s0, v_r (some 93)] h Q ↔ Q (none) (p_i h 93 9 s0) := by
  unfold ex_
  refine (am_Y_go 2 (ok := [am_is h (some 93) 12]) (g := (294, [l0, l1], [], (p_i h 93 9 s0))) rfl).trans ?_
  simp only [am_all]
  all_goals exact cj_d (la_is Lh (o := 93) rfl) (((am_Y_ret rfl rfl rfl).trans (am_rz rfl)))

theorem b_X12_next_260 {d : Nat} {Q : Option am_V → am_H → Prop} (h : am_H) (s0 : Int32) (s1 : Int32) (l0 l1 : Option am_V) : ex_ d 237 260 [l0, l1] [v_i s0, v_i s1] h Q ↔ if s0 ≤ s1 then ex_ d 237 294 [l0, l1] [] h Q else ex_ d 237 263 [l0, l1] [] h Q := by
  unfold ex_
  refine (am_Y_go 1 (ok := []) (g := (if s0 ≤ s1 then 294 else 263, [l0, l1], [], h)) rfl).trans ?_
  all_goals exact am_Y_if

theorem b_X12_next_154 {d : Nat} {Q : Option am_V → am_H → Prop} (h : am_H) (s0 : Int32) (l0 l1 : Option am_V) : ex_ (d + 1) 237 154 [l0, l1] [v_i s0] h Q ↔ ex_ d 235 0 [some (v_i s0)] [] h (fun r h' => ex_ (d + 1) 237 157 [l0, l1] (r.toList ++ []) h' Q) := by
  unfold ex_
  exact ((am_Y_call (j := 235) (na := 1) (ci := 12) (fl := 2) rfl rfl rfl).trans (cj_d ⟨⟨Nat.le_of_ble_eq_true rfl, Nat.le_of_ble_eq_true rfl, Nat.le_of_ble_eq_true rfl, rfl⟩, Or.inl rfl⟩ Iff.rfl))

theorem b_X12_next_294 {d : Nat} {Q : Option am_V → am_H → Prop} (h : am_H) (l0 l1 : Option am_V) : ex_ d 237 294 [l0, l1] [] h Q ↔ Q (none) h := by
  unfold ex_
  exact ((am_Y_ret rfl rfl rfl).trans (am_rz rfl))

theorem b_X12_next_263 {d : Nat} {Q : Option am_V → am_H → Prop} (h : am_H) (l1 : Option am_V) (Lh : Lay h) : ex_ (d + 1) 237 263 [some (v_r (some 93)), l1] [] h Q ↔ ex_ d 233 0 [some (v_r (some 93)), some (v_i (h_i h 93 6))] [] h (fun r h' => ex_ (d + 1) 237 271 [some (v_r (some 93)), l1] (r.toList ++ []) h' Q) := by
  unfold ex_
  refine (am_Y_go 3 (ok := [am_is h (some 93) 12]) (g := (268, [some (v_r (some 93)), l1], [v_i (h_i h 93 6), v_r (some 93)], h)) rfl).trans ?_
  simp only [am_all]
  all_goals exact cj_d (la_is Lh (o := 93) rfl) (((am_Y_call (j := 233) (na := 2) (ci := 12) (fl := 0) rfl rfl rfl).trans (cj_d ⟨⟨Nat.le_of_ble_eq_true rfl, Nat.le_of_ble_eq_true rfl, Nat.le_of_ble_eq_true rfl, rfl⟩, Or.inr (Or.inr (show (12 : Nat) < 20 ∧ am_is h (some 93) 12 from ⟨by decide, (la_is Lh (o := 93) rfl)⟩))⟩ Iff.rfl)))

theorem b_X12_next_157 {d : Nat} {Q : Option am_V → am_H → Prop} (h : am_H) (s0 : Int32) (l0 l1 : Option am_V) : ex_ d 237 157 [l0, l1] [v_i s0] h Q ↔ if s0 = 0 then ex_ d 237 209 [l0, l1] [] h Q else ex_ d 237 160 [l0, l1] [] h Q := by
  unfold ex_
  refine (am_Y_go 1 (ok := []) (g := (if s0 = 0 then 209 else 160, [l0, l1], [], h)) rfl).trans ?_
  all_goals exact am_Y_if

theorem b_X12_next_271 {d : Nat} {Q : Option am_V → am_H → Prop} (h : am_H) (s0 : Int32) (x1 : Int32) (l0 : Option am_V) : ex_ (d + 1) 237 271 [l0, some (v_i x1)] [v_i s0] h Q ↔ ex_ d 94 0 [some (v_x 1), some (v_i x1)] [] h (fun r h' => ex_ (d + 1) 237 277 [l0, some (v_i x1)] (r.toList ++ [v_i s0]) h' Q) := by
  unfold ex_
  refine (am_Y_go 2 (ok := []) (g := (274, [l0, some (v_i x1)], [v_i x1, v_x 1, v_i s0], h)) rfl).trans ?_
  all_goals exact ((am_Y_call (j := 94) (na := 2) (ci := 50) (fl := 0) rfl rfl rfl).trans (cj_d ⟨⟨Nat.le_of_ble_eq_true rfl, Nat.le_of_ble_eq_true rfl, Nat.le_of_ble_eq_true rfl, rfl⟩, Or.inr (Or.inr (show (50 : Nat) = 50 ∧ (1 : Nat) < 3 from ⟨rfl, by decide⟩))⟩ Iff.rfl))

theorem b_X12_next_209 {d : Nat} {Q : Option am_V → am_H → Prop} (h : am_H) (l1 : Option am_V) (Lh : Lay h) : ex_ d 237 209 [some (v_r (some 93)), l1] [] h Q ↔ if ((h_i h 93 7) - (h_i h 93 6)) ≤ (3 : Int32) then ex_ d 237 228 [some (v_r (some 93)), l1] [v_r (some 93)] h Q else ex_ d 237 223 [some (v_r (some 93)), l1] [v_r (some 93)] h Q := by
  unfold ex_
  refine (am_Y_go 8 (ok := [am_is h (some 93) 12, am_is h (some 93) 12]) (g := (if ((h_i h 93 7) - (h_i h 93 6)) ≤ (3 : Int32) then 228 else 223, [some (v_r (some 93)), l1], [v_r (some 93)], h)) rfl).trans ?_
  simp only [am_all]
  all_goals exact cj_d (la_is Lh (o := 93) rfl) (cj_d (la_is Lh (o := 93) rfl) (am_Y_if))

theorem b_X12_next_160 {d : Nat} {Q : Option am_V → am_H → Prop} (h : am_H) (l1 : Option am_V) (Lh : Lay h) : ex_ d 237 160 [some (v_r (some 93)), l1] [] h Q ↔ if (3 : Int32) ≤ ((h_i h 93 7) - (h_i h 93 6)) then ex_ d 237 196 [some (v_r (some 93)), l1] [] h Q else ex_ d 237 173 [some (v_r (some 93)), l1] [] h Q := by
  unfold ex_
  refine (am_Y_go 7 (ok := [am_is h (some 93) 12, am_is h (some 93) 12]) (g := (if (3 : Int32) ≤ ((h_i h 93 7) - (h_i h 93 6)) then 196 else 173, [some (v_r (some 93)), l1], [], h)) rfl).trans ?_
  simp only [am_all]
  all_goals exact cj_d (la_is Lh (o := 93) rfl) (cj_d (la_is Lh (o := 93) rfl) (am_Y_if))

theorem b_X12_next_277 {d : Nat} {Q : Option am_V → am_H → Prop} (h : am_H) (s0 : Int32) (s1 : Int32) (l0 l1 : Option am_V) : ex_ d 237 277 [l0, l1] [v_i s0, v_i s1] h Q ↔ if ¬ s1 = s0 then ex_ d 237 288 [l0, l1] [] h Q else ex_ d 237 280 [l0, l1] [] h Q := by
  unfold ex_
  refine (am_Y_go 1 (ok := []) (g := (if ¬ s1 = s0 then 288 else 280, [l0, l1], [], h)) rfl).trans ?_
  all_goals exact am_Y_if

theorem b_X12_next_228 {d : Nat} {Q : Option am_V → am_H → Prop} (h : am_H) (l0 l1 : Option am_V) (Lh : Lay h) : ex_ d 237 228 [l0, l1] [v_r (some 93)] h Q ↔ Q (none) (p_i h 93 9 (23 : Int32)) := by
  unfold ex_
  refine (am_Y_go 3 (ok := [am_is h (some 93) 12]) (g := (294, [l0, l1], [], (p_i h 93 9 (23 : Int32)))) rfl).trans ?_
  simp only [am_all]
  all_goals exact cj_d (la_is Lh (o := 93) rfl) (((am_Y_ret rfl rfl rfl).trans (am_rz rfl)))

theorem b_X12_next_223 {d : Nat} {Q : Option am_V → am_H → Prop} (h : am_H) (l0 l1 : Option am_V) (Lh : Lay h) : ex_ d 237 223 [l0, l1] [v_r (some 93)] h Q ↔ Q (none) (p_i h 93 9 (25 : Int32)) := by
  unfold ex_
  refine (am_Y_go 4 (ok := [am_is h (some 93) 12]) (g := (294, [l0, l1], [], (p_i h 93 9 (25 : Int32)))) rfl).trans ?_
  simp only [am_all]
  all_goals exact cj_d (la_is Lh (o := 93) rfl) (((am_Y_ret rfl rfl rfl).trans (am_rz rfl)))

theorem b_X12_next_196 {d : Nat} {Q : Option am_V → am_H → Prop} (h : am_H) (l1 : Option am_V) (Lh : Lay h) : ex_ d 237 196 [some (v_r (some 93)), l1] [] h Q ↔ ex_ d 237 146 [some (v_r (some 93)), l1] [] (p_i h 93 7 ((h_i h 93 7) + (1 : Int32))) Q := by
  unfold ex_
  refine (am_Y_go 7 (ok := [am_is h (some 93) 12, am_is h (some 93) 12]) (g := (146, [some (v_r (some 93)), l1], [], (p_i h 93 7 ((h_i h 93 7) + (1 : Int32))))) rfl).trans ?_
  simp only [am_all]
  all_goals exact cj_d (la_is Lh (o := 93) rfl) (cj_d (la_is Lh (o := 93) rfl) (Iff.rfl))

theorem b_X12_next_173 {d : Nat} {Q : Option am_V → am_H → Prop} (h : am_H) (l1 : Option am_V) (Lh : Lay h) : ex_ (d + 1) 237 173 [some (v_r (some 93)), l1] [] h Q ↔ ex_ d 233 0 [some (v_r (some 93)), some (v_i (h_i h 93 7))] [] h (fun r h' => ex_ (d + 1) 237 189 [some (v_r (some 93)), l1] (r.toList ++ [v_i ((10 : Int32) * (h_i h 93 10)), v_r (some 93)]) h' Q) := by
  unfold ex_
  refine (am_Y_go 8 (ok := [am_is h (some 93) 12, am_is h (some 93) 12]) (g := (186, [some (v_r (some 93)), l1], [v_i (h_i h 93 7), v_r (some 93), v_i ((10 : Int32) * (h_i h 93 10)), v_r (some 93)], h)) rfl).trans ?_
  simp only [am_all]
  all_goals exact cj_d (la_is Lh (o := 93) rfl) (cj_d (la_is Lh (o := 93) rfl) (((am_Y_call (j := 233) (na := 2) (ci := 12) (fl := 0) rfl rfl rfl).trans (cj_d ⟨⟨Nat.le_of_ble_eq_true rfl, Nat.le_of_ble_eq_true rfl, Nat.le_of_ble_eq_true rfl, rfl⟩, Or.inr (Or.inr (show (12 : Nat) < 20 ∧ am_is h (some 93) 12 from ⟨by decide, (la_is Lh (o := 93) rfl)⟩))⟩ Iff.rfl))))

theorem b_X12_next_288 {d : Nat} {Q : Option am_V → am_H → Prop} (h : am_H) (x1 : Int32) (l0 : Option am_V) : ex_ d 237 288 [l0, some (v_i x1)] [] h Q ↔ ex_ d 237 254 [l0, some (v_i (x1 + (1 : Int32)))] [] h Q := by
  unfold ex_
  refine (am_Y_go 2 (ok := []) (g := (254, [l0, some (v_i (x1 + (1 : Int32)))], [], h)) rfl).trans ?_
  all_goals exact Iff.rfl

theorem b_X12_next_280 {d : Nat} {Q : Option am_V → am_H → Prop} (h : am_H) (x1 : Int32) (Lh : Lay h) : ex_ d 237 280 [some (v_r (some 93)), some (v_i x1)] [] h Q ↔ ex_ d 237 254 [some (v_r (some 93)), some (v_i (x1 + (1 : Int32)))] [] (p_i h 93 9 ((30 : Int32) + x1)) Q := by
  unfold ex_
  refine (am_Y_go 7 (ok := [am_is h (some 93) 12]) (g := (254, [some (v_r (some 93)), some (v_i (x1 + (1 : Int32)))], [], (p_i h 93 9 ((30 : Int32) + x1)))) rfl).trans ?_
  simp only [am_all]
  all_goals exact cj_d (la_is Lh (o := 93) rfl) (Iff.rfl)

theorem b_X12_next_189 {d : Nat} {Q : Option am_V → am_H → Prop} (h : am_H) (s0 : Int32) (s1 : Int32) (l1 : Option am_V) (Lh : Lay h) : ex_ d 237 189 [some (v_r (some 93)), l1] [v_i s0, v_i s1, v_r (some 93)] h Q ↔ ex_ d 237 146 [some (v_r (some 93)), l1] [] (p_i (p_i h 93 10 ((s1 + s0) - (48 : Int32))) 93 7 ((h_i (p_i h 93 10 ((s1 + s0) - (48 : Int32))) 93 7) + (1 : Int32))) Q := by
  unfold ex_
  refine (am_Y_go 11 (ok := [am_is h (some 93) 12, am_is h (some 93) 12, am_is h (some 93) 12]) (g := (146, [some (v_r (some 93)), l1], [], (p_i (p_i h 93 10 ((s1 + s0) - (48 : Int32))) 93 7 ((h_i (p_i h 93 10 ((s1 + s0) - (48 : Int32))) 93 7) + (1 : Int32))))) rfl).trans ?_
  simp only [am_all]
  all_goals exact cj_d (la_is Lh (o := 93) rfl) (cj_d (la_is Lh (o := 93) rfl) (cj_d (la_is Lh (o := 93) rfl) (Iff.rfl)))

theorem b_X12_fails_0 {d : Nat} {Q : Option am_V → am_H → Prop} (h : am_H) (l1 : Option am_V) (Lh : Lay h) : ex_ d 238 0 [some (v_r (some 93)), l1] [] h Q ↔ if (h_i h 93 11) = 0 then ex_ d 238 8 [some (v_r (some 93)), l1] [] h Q else ex_ d 238 7 [some (v_r (some 93)), l1] [] h Q := by
  unfold ex_
  refine (am_Y_go 3 (ok := [am_is h (some 93) 12]) (g := (if (h_i h 93 11) = 0 then 8 else 7, [some (v_r (some 93)), l1], [], h)) rfl).trans ?_
  simp only [am_all]
  all_goals exact cj_d (la_is Lh (o := 93) rfl) (am_Y_if)

theorem b_X12_fails_8 {d : Nat} {Q : Option am_V → am_H → Prop} (h : am_H) (l1 : Option am_V) (Lh : Lay h) : ex_ d 238 8 [some (v_r (some 93)), l1] [] h Q ↔ if ¬ (h_i h 93 9) = (25 : Int32) then ex_ d 238 22 [some (v_r (some 93)), l1] [v_r (some 93)] h Q else ex_ d 238 18 [some (v_r (some 93)), l1] [v_r (some 93)] h Q := by
  unfold ex_
  refine (am_Y_go 5 (ok := [am_is h (some 93) 12]) (g := (if ¬ (h_i h 93 9) = (25 : Int32) then 22 else 18, [some (v_r (some 93)), l1], [v_r (some 93)], h)) rfl).trans ?_
  simp only [am_all]
  all_goals exact cj_d (la_is Lh (o := 93) rfl) (am_Y_if)

theorem b_X12_fails_7 {d : Nat} {Q : Option am_V → am_H → Prop} (h : am_H) (l0 l1 : Option am_V) : ex_ d 238 7 [l0, l1] [] h Q ↔ Q (none) h := by
  unfold ex_
  exact ((am_Y_ret rfl rfl rfl).trans (am_rz rfl))

theorem b_X12_fails_22 {d : Nat} {Q : Option am_V → am_H → Prop} (h : am_H) (x1 : Int32) (Lh : Lay h) : ex_ d 238 22 [some (v_r (some 93)), some (v_i x1)] [v_r (some 93)] h Q ↔ Q (none) (p_i (p_i h 93 11 x1) 93 12 (h_i (p_i h 93 11 x1) 93 6)) := by
  unfold ex_
  refine (am_Y_go 6 (ok := [am_is h (some 93) 12, am_is h (some 93) 12, am_is h (some 93) 12]) (g := (34, [some (v_r (some 93)), some (v_i x1)], [], (p_i (p_i h 93 11 x1) 93 12 (h_i (p_i h 93 11 x1) 93 6)))) rfl).trans ?_
  simp only [am_all]
  all_goals exact cj_d (la_is Lh (o := 93) rfl) (cj_d (la_is Lh (o := 93) rfl) (cj_d (la_is Lh (o := 93) rfl) (((am_Y_ret rfl rfl rfl).trans (am_rz rfl)))))

theorem b_X12_fails_18 {d : Nat} {Q : Option am_V → am_H → Prop} (h : am_H) (l1 : Option am_V) (Lh : Lay h) : ex_ d 238 18 [some (v_r (some 93)), l1] [v_r (some 93)] h Q ↔ Q (none) (p_i (p_i h 93 11 (1 : Int32)) 93 12 (h_i (p_i h 93 11 (1 : Int32)) 93 6)) := by
  unfold ex_
  refine (am_Y_go 7 (ok := [am_is h (some 93) 12, am_is h (some 93) 12, am_is h (some 93) 12]) (g := (34, [some (v_r (some 93)), l1], [], (p_i (p_i h 93 11 (1 : Int32)) 93 12 (h_i (p_i h 93 11 (1 : Int32)) 93 6)))) rfl).trans ?_
  simp only [am_all]
  all_goals exact cj_d (la_is Lh (o := 93) rfl) (cj_d (la_is Lh (o := 93) rfl) (cj_d (la_is Lh (o := 93) rfl) (((am_Y_ret rfl rfl rfl).trans (am_rz rfl)))))

theorem b_X12_is_0 {d : Nat} {Q : Option am_V → am_H → Prop} (h : am_H) (l1 : Option am_V) (Lh : Lay h) : ex_ d 239 0 [some (v_r (some 93)), l1] [] h Q ↔ if ¬ (h_i h 93 11) = 0 then ex_ d 239 19 [some (v_r (some 93)), l1] [] h Q else ex_ d 239 7 [some (v_r (some 93)), l1] [] h Q := by
  unfold ex_
  refine (am_Y_go 3 (ok := [am_is h (some 93) 12]) (g := (if ¬ (h_i h 93 11) = 0 then 19 else 7, [some (v_r (some 93)), l1], [], h)) rfl).trans ?_
  simp only [am_all]
  all_goals exact cj_d (la_is Lh (o := 93) rfl) (am_Y_if)

theorem b_X12_is_19 {d : Nat} {Q : Option am_V → am_H → Prop} (h : am_H) (l0 l1 : Option am_V) : ex_ d 239 19 [l0, l1] [] h Q ↔ Q (some (v_i (0 : Int32))) h := by
  unfold ex_
  refine (am_Y_go 1 (ok := []) (g := (20, [l0, l1], [v_i (0 : Int32)], h)) rfl).trans ?_
  all_goals exact ((am_Y_ret rfl rfl rfl).trans (am_rz (show am_fit 1 0 from Or.inl rfl)))

theorem b_X12_is_7 {d : Nat} {Q : Option am_V → am_H → Prop} (h : am_H) (x1 : Int32) (Lh : Lay h) : ex_ d 239 7 [some (v_r (some 93)), some (v_i x1)] [] h Q ↔ if ¬ (h_i h 93 9) = x1 then ex_ d 239 19 [some (v_r (some 93)), some (v_i x1)] [] h Q else ex_ d 239 15 [some (v_r (some 93)), some (v_i x1)] [] h Q := by
  unfold ex_
  refine (am_Y_go 4 (ok := [am_is h (some 93) 12]) (g := (if ¬ (h_i h 93 9) = x1 then 19 else 15, [some (v_r (some 93)), some (v_i x1)], [], h)) rfl).trans ?_
  simp only [am_all]
  all_goals exact cj_d (la_is Lh (o := 93) rfl) (am_Y_if)

theorem b_X12_is_15 {d : Nat} {Q : Option am_V → am_H → Prop} (h : am_H) (l0 l1 : Option am_V) : ex_ d 239 15 [l0, l1] [] h Q ↔ Q (some (v_i (1 : Int32))) h := by
  unfold ex_
  refine (am_Y_go 2 (ok := []) (g := (20, [l0, l1], [v_i (1 : Int32)], h)) rfl).trans ?_
  all_goals exact ((am_Y_ret rfl rfl rfl).trans (am_rz (show am_fit 1 1 from Or.inr rfl)))

theorem b_X12_eats_0 {d : Nat} {Q : Option am_V → am_H → Prop} (h : am_H) (x1 : Int32) (Lh : Lay h) : ex_ (d + 1) 240 0 [some (v_r (some 93)), some (v_i x1)] [] h Q ↔ ex_ d 239 0 [some (v_r (some 93)), some (v_i x1)] [] h (fun r h' => ex_ (d + 1) 240 5 [some (v_r (some 93)), some (v_i x1)] (r.toList ++ []) h' Q) := by
  unfold ex_
  refine (am_Y_go 2 (ok := []) (g := (2, [some (v_r (some 93)), some (v_i x1)], [v_i x1, v_r (some 93)], h)) rfl).trans ?_
  all_goals exact ((am_Y_call (j := 239) (na := 2) (ci := 12) (fl := 0) rfl rfl rfl).trans (cj_d ⟨⟨Nat.le_of_ble_eq_true rfl, Nat.le_of_ble_eq_true rfl, Nat.le_of_ble_eq_true rfl, rfl⟩, Or.inr (Or.inr (show (12 : Nat) < 20 ∧ am_is h (some 93) 12 from ⟨by decide, (la_is Lh (o := 93) rfl)⟩))⟩ Iff.rfl))

theorem b_X12_eats_5 {d : Nat} {Q : Option am_V → am_H → Prop} (h : am_H) (s0 : Int32) (l0 l1 : Option am_V) : ex_ d 240 5 [l0, l1] [v_i s0] h Q ↔ if ¬ s0 = 0 then ex_ d 240 10 [l0, l1] [] h Q else ex_ d 240 8 [l0, l1] [] h Q := by
  unfold ex_
  refine (am_Y_go 1 (ok := []) (g := (if ¬ s0 = 0 then 10 else 8, [l0, l1], [], h)) rfl).trans ?_
  all_goals exact am_Y_if

theorem b_X12_eats_10 {d : Nat} {Q : Option am_V → am_H → Prop} (h : am_H) (l1 : Option am_V) (Lh : Lay h) : ex_ (d + 1) 240 10 [some (v_r (some 93)), l1] [] h Q ↔ ex_ d 237 0 [some (v_r (some 93)), none] [] h (fun r h' => ex_ (d + 1) 240 14 [some (v_r (some 93)), l1] (r.toList ++ []) h' Q) := by
  unfold ex_
  refine (am_Y_go 1 (ok := []) (g := (11, [some (v_r (some 93)), l1], [v_r (some 93)], h)) rfl).trans ?_
  all_goals exact ((am_Y_call (j := 237) (na := 1) (ci := 12) (fl := 0) rfl rfl rfl).trans (cj_d ⟨⟨Nat.le_of_ble_eq_true rfl, Nat.le_of_ble_eq_true rfl, Nat.le_of_ble_eq_true rfl, rfl⟩, Or.inr (Or.inr (show (12 : Nat) < 20 ∧ am_is h (some 93) 12 from ⟨by decide, (la_is Lh (o := 93) rfl)⟩))⟩ Iff.rfl))

theorem b_X12_eats_8 {d : Nat} {Q : Option am_V → am_H → Prop} (h : am_H) (l0 l1 : Option am_V) : ex_ d 240 8 [l0, l1] [] h Q ↔ Q (some (v_i (0 : Int32))) h := by
  unfold ex_
  refine (am_Y_go 1 (ok := []) (g := (9, [l0, l1], [v_i (0 : Int32)], h)) rfl).trans ?_
  all_goals exact ((am_Y_ret rfl rfl rfl).trans (am_rz (show am_fit 1 0 from Or.inl rfl)))

theorem b_X12_eats_14 {d : Nat} {Q : Option am_V → am_H → Prop} (h : am_H) (l0 l1 : Option am_V) : ex_ d 240 14 [l0, l1] [] h Q ↔ Q (some (v_i (1 : Int32))) h := by
  unfold ex_
  refine (am_Y_go 1 (ok := []) (g := (15, [l0, l1], [v_i (1 : Int32)], h)) rfl).trans ?_
  all_goals exact ((am_Y_ret rfl rfl rfl).trans (am_rz (show am_fit 1 1 from Or.inr rfl)))

theorem b_X12_takes_0 {d : Nat} {Q : Option am_V → am_H → Prop} (h : am_H) (l1 l2 l3 : Option am_V) (Lh : Lay h) : ex_ (d + 1) 241 0 [some (v_r (some 93)), l1, l2, l3] [] h Q ↔ ex_ d 239 0 [some (v_r (some 93)), some (v_i (23 : Int32))] [] h (fun r h' => ex_ (d + 1) 241 6 [some (v_r (some 93)), l1, l2, l3] (r.toList ++ []) h' Q) := by
  unfold ex_
  refine (am_Y_go 2 (ok := []) (g := (3, [some (v_r (some 93)), l1, l2, l3], [v_i (23 : Int32), v_r (some 93)], h)) rfl).trans ?_
  all_goals exact ((am_Y_call (j := 239) (na := 2) (ci := 12) (fl := 0) rfl rfl rfl).trans (cj_d ⟨⟨Nat.le_of_ble_eq_true rfl, Nat.le_of_ble_eq_true rfl, Nat.le_of_ble_eq_true rfl, rfl⟩, Or.inr (Or.inr (show (12 : Nat) < 20 ∧ am_is h (some 93) 12 from ⟨by decide, (la_is Lh (o := 93) rfl)⟩))⟩ Iff.rfl))

theorem b_X12_takes_6 {d : Nat} {Q : Option am_V → am_H → Prop} (h : am_H) (s0 : Int32) (l0 l1 l2 l3 : Option am_V) : ex_ d 241 6 [l0, l1, l2, l3] [v_i s0] h Q ↔ if ¬ s0 = 0 then ex_ d 241 17 [l0, l1, l2, l3] [] h Q else ex_ d 241 9 [l0, l1, l2, l3] [] h Q := by
  unfold ex_
  refine (am_Y_go 1 (ok := []) (g := (if ¬ s0 = 0 then 17 else 9, [l0, l1, l2, l3], [], h)) rfl).trans ?_
  all_goals exact am_Y_if

theorem b_X12_takes_17 {d : Nat} {Q : Option am_V → am_H → Prop} (h : am_H) (x1 : Int32) (x2 : Int32) (l3 : Option am_V) (Lh : Lay h) : ex_ (d + 1) 241 17 [some (v_r (some 93)), some (v_i x1), some (v_i x2), l3] [] h Q ↔ ex_ d 229 0 [some (v_l (Int32.toInt64 (h_i h 93 10))), none, some (v_l (Int32.toInt64 x1)), none, some (v_l (Int32.toInt64 x2)), none] [] h (fun r h' => ex_ (d + 1) 241 29 [some (v_r (some 93)), some (v_i x1), some (v_i x2), l3] (r.toList ++ []) h' Q) := by
  unfold ex_
  refine (am_Y_go 7 (ok := [am_is h (some 93) 12]) (g := (26, [some (v_r (some 93)), some (v_i x1), some (v_i x2), l3], [v_l (Int32.toInt64 x2), v_l (Int32.toInt64 x1), v_l (Int32.toInt64 (h_i h 93 10))], h)) rfl).trans ?_
  simp only [am_all]
  all_goals exact cj_d (la_is Lh (o := 93) rfl) (((am_Y_call (j := 229) (na := 3) (ci := 12) (fl := 2) rfl rfl rfl).trans (cj_d ⟨⟨Nat.le_of_ble_eq_true rfl, Nat.le_of_ble_eq_true rfl, Nat.le_of_ble_eq_true rfl, rfl⟩, Or.inl rfl⟩ Iff.rfl)))

theorem b_X12_takes_9 {d : Nat} {Q : Option am_V → am_H → Prop} (h : am_H) (l1 l2 l3 : Option am_V) (Lh : Lay h) : ex_ (d + 1) 241 9 [some (v_r (some 93)), l1, l2, l3] [] h Q ↔ ex_ d 238 0 [some (v_r (some 93)), some (v_i (2 : Int32))] [] h (fun r h' => ex_ (d + 1) 241 14 [some (v_r (some 93)), l1, l2, l3] (r.toList ++ []) h' Q) := by
  unfold ex_
  refine (am_Y_go 2 (ok := []) (g := (11, [some (v_r (some 93)), l1, l2, l3], [v_i (2 : Int32), v_r (some 93)], h)) rfl).trans ?_
  all_goals exact ((am_Y_call (j := 238) (na := 2) (ci := 12) (fl := 0) rfl rfl rfl).trans (cj_d ⟨⟨Nat.le_of_ble_eq_true rfl, Nat.le_of_ble_eq_true rfl, Nat.le_of_ble_eq_true rfl, rfl⟩, Or.inr (Or.inr (show (12 : Nat) < 20 ∧ am_is h (some 93) 12 from ⟨by decide, (la_is Lh (o := 93) rfl)⟩))⟩ Iff.rfl))

theorem b_X12_takes_29 {d : Nat} {Q : Option am_V → am_H → Prop} (h : am_H) (s0 : Int32) (l0 l1 l2 l3 : Option am_V) : ex_ d 241 29 [l0, l1, l2, l3] [v_i s0] h Q ↔ if ¬ s0 = 0 then ex_ d 241 37 [l0, l1, l2, l3] [] h Q else ex_ d 241 32 [l0, l1, l2, l3] [] h Q := by
  unfold ex_
  refine (am_Y_go 1 (ok := []) (g := (if ¬ s0 = 0 then 37 else 32, [l0, l1, l2, l3], [], h)) rfl).trans ?_
  all_goals exact am_Y_if

theorem b_X12_takes_14 {d : Nat} {Q : Option am_V → am_H → Prop} (h : am_H) (l1 l2 l3 : Option am_V) (Lh : Lay h) : ex_ d 241 14 [some (v_r (some 93)), l1, l2, l3] [] h Q ↔ if ¬ (h_i h 93 11) = 0 then ex_ d 241 53 [some (v_r (some 93)), l1, l2, some (v_i (h_i h 93 10))] [] h Q else ex_ d 241 49 [some (v_r (some 93)), l1, l2, some (v_i (h_i h 93 10))] [] h Q := by
  unfold ex_
  refine (am_Y_go 7 (ok := [am_is h (some 93) 12, am_is h (some 93) 12]) (g := (if ¬ (h_i h 93 11) = 0 then 53 else 49, [some (v_r (some 93)), l1, l2, some (v_i (h_i h 93 10))], [], h)) rfl).trans ?_
  simp only [am_all]
  all_goals exact cj_d (la_is Lh (o := 93) rfl) (cj_d (la_is Lh (o := 93) rfl) (am_Y_if))

theorem b_X12_takes_37 {d : Nat} {Q : Option am_V → am_H → Prop} (h : am_H) (l1 l2 l3 : Option am_V) (Lh : Lay h) : ex_ d 241 37 [some (v_r (some 93)), l1, l2, l3] [] h Q ↔ if ¬ (h_i h 93 11) = 0 then ex_ d 241 53 [some (v_r (some 93)), l1, l2, some (v_i (h_i h 93 10))] [] h Q else ex_ d 241 49 [some (v_r (some 93)), l1, l2, some (v_i (h_i h 93 10))] [] h Q := by
  unfold ex_
  refine (am_Y_go 6 (ok := [am_is h (some 93) 12, am_is h (some 93) 12]) (g := (if ¬ (h_i h 93 11) = 0 then 53 else 49, [some (v_r (some 93)), l1, l2, some (v_i (h_i h 93 10))], [], h)) rfl).trans ?_
  simp only [am_all]
  all_goals exact cj_d (la_is Lh (o := 93) rfl) (cj_d (la_is Lh (o := 93) rfl) (am_Y_if))

theorem b_X12_takes_32 {d : Nat} {Q : Option am_V → am_H → Prop} (h : am_H) (l1 l2 l3 : Option am_V) (Lh : Lay h) : ex_ (d + 1) 241 32 [some (v_r (some 93)), l1, l2, l3] [] h Q ↔ ex_ d 238 0 [some (v_r (some 93)), some (v_i (3 : Int32))] [] h (fun r h' => ex_ (d + 1) 241 37 [some (v_r (some 93)), l1, l2, l3] (r.toList ++ []) h' Q) := by
  unfold ex_
  refine (am_Y_go 2 (ok := []) (g := (34, [some (v_r (some 93)), l1, l2, l3], [v_i (3 : Int32), v_r (some 93)], h)) rfl).trans ?_
  all_goals exact ((am_Y_call (j := 238) (na := 2) (ci := 12) (fl := 0) rfl rfl rfl).trans (cj_d ⟨⟨Nat.le_of_ble_eq_true rfl, Nat.le_of_ble_eq_true rfl, Nat.le_of_ble_eq_true rfl, rfl⟩, Or.inr (Or.inr (show (12 : Nat) < 20 ∧ am_is h (some 93) 12 from ⟨by decide, (la_is Lh (o := 93) rfl)⟩))⟩ Iff.rfl))

theorem b_X12_takes_53 {d : Nat} {Q : Option am_V → am_H → Prop} (h : am_H) (x3 : Int32) (l0 l1 l2 : Option am_V) : ex_ d 241 53 [l0, l1, l2, some (v_i x3)] [] h Q ↔ Q (some (v_i x3)) h := by
  unfold ex_
  refine (am_Y_go 1 (ok := []) (g := (54, [l0, l1, l2, some (v_i x3)], [v_i x3], h)) rfl).trans ?_
  all_goals exact ((am_Y_ret rfl rfl rfl).trans (am_r0))

theorem b_X12_takes_49 {d : Nat} {Q : Option am_V → am_H → Prop} (h : am_H) (l1 l2 l3 : Option am_V) (Lh : Lay h) : ex_ (d + 1) 241 49 [some (v_r (some 93)), l1, l2, l3] [] h Q ↔ ex_ d 237 0 [some (v_r (some 93)), none] [] h (fun r h' => ex_ (d + 1) 241 53 [some (v_r (some 93)), l1, l2, l3] (r.toList ++ []) h' Q) := by
  unfold ex_
  refine (am_Y_go 1 (ok := []) (g := (50, [some (v_r (some 93)), l1, l2, l3], [v_r (some 93)], h)) rfl).trans ?_
  all_goals exact ((am_Y_call (j := 237) (na := 1) (ci := 12) (fl := 0) rfl rfl rfl).trans (cj_d ⟨⟨Nat.le_of_ble_eq_true rfl, Nat.le_of_ble_eq_true rfl, Nat.le_of_ble_eq_true rfl, rfl⟩, Or.inr (Or.inr (show (12 : Nat) < 20 ∧ am_is h (some 93) 12 from ⟨by decide, (la_is Lh (o := 93) rfl)⟩))⟩ Iff.rfl))

theorem b_X12_isIn_0 {d : Nat} {Q : Option am_V → am_H → Prop} (h : am_H) (x0 : Int64) (x2 : Int32) (l1 : Option am_V) : ex_ d 242 0 [some (v_l x0), l1, some (v_i x2)] [] h Q ↔ if ¬ (lg_cmp ((x0 >>> ((x2).toInt64 &&& 63)) &&& (1 : Int64)) (1 : Int64)) = 0 then ex_ d 242 14 [some (v_l x0), l1, some (v_i x2)] [] h Q else ex_ d 242 10 [some (v_l x0), l1, some (v_i x2)] [] h Q := by
  unfold ex_
  refine (am_Y_go 8 (ok := []) (g := (if ¬ (lg_cmp ((x0 >>> ((x2).toInt64 &&& 63)) &&& (1 : Int64)) (1 : Int64)) = 0 then 14 else 10, [some (v_l x0), l1, some (v_i x2)], [], h)) rfl).trans ?_
  all_goals exact am_Y_if

theorem b_X12_isIn_14 {d : Nat} {Q : Option am_V → am_H → Prop} (h : am_H) (l0 l1 l2 : Option am_V) : ex_ d 242 14 [l0, l1, l2] [] h Q ↔ Q (some (v_i (0 : Int32))) h := by
  unfold ex_
  refine (am_Y_go 1 (ok := []) (g := (15, [l0, l1, l2], [v_i (0 : Int32)], h)) rfl).trans ?_
  all_goals exact ((am_Y_ret rfl rfl rfl).trans (am_rz (show am_fit 1 0 from Or.inl rfl)))

theorem b_X12_isIn_10 {d : Nat} {Q : Option am_V → am_H → Prop} (h : am_H) (l0 l1 l2 : Option am_V) : ex_ d 242 10 [l0, l1, l2] [] h Q ↔ Q (some (v_i (1 : Int32))) h := by
  unfold ex_
  refine (am_Y_go 2 (ok := []) (g := (15, [l0, l1, l2], [v_i (1 : Int32)], h)) rfl).trans ?_
  all_goals exact ((am_Y_ret rfl rfl rfl).trans (am_rz (show am_fit 1 1 from Or.inr rfl)))

theorem b_X12_wordOf_0 {d : Nat} {Q : Option am_V → am_H → Prop} (h : am_H) (x1 : Int32) (l0 : Option am_V) : ex_ d 243 0 [l0, some (v_i x1)] [] h Q ↔ if x1 = (1 : Int32) then ex_ d 243 78 [l0, some (v_i x1)] [] h Q else if x1 = (2 : Int32) then ex_ d 243 106 [l0, some (v_i x1)] [] h Q else if x1 = (3 : Int32) then ex_ d 243 72 [l0, some (v_i x1)] [] h Q else if x1 = (4 : Int32) then ex_ d 243 74 [l0, some (v_i x1)] [] h Q else if x1 = (5 : Int32) then ex_ d 243 106 [l0, some (v_i x1)] [] h Q else if x1 = (6 : Int32) then ex_ d 243 80 [l0, some (v_i x1)] [] h Q else if x1 = (7 : Int32) then ex_ d 243 106 [l0, some (v_i x1)] [] h Q else if x1 = (8 : Int32) then ex_ d 243 106 [l0, some (v_i x1)] [] h Q else if x1 = (9 : Int32) then ex_ d 243 106 [l0, some (v_i x1)] [] h Q else if x1 = (10 : Int32) then ex_ d 243 106 [l0, some (v_i x1)] [] h Q else if x1 = (11 : Int32) then ex_ d 243 106 [l0, some (v_i x1)] [] h Q else if x1 = (12 : Int32) then ex_ d 243 106 [l0, some (v_i x1)] [] h Q else if x1 = (13 : Int32) then ex_ d 243 76 [l0, some (v_i x1)] [] h Q else if x1 = (14 : Int32) then ex_ d 243 93 [l0, some (v_i x1)] [] h Q else ex_ d 243 106 [l0, some (v_i x1)] [] h Q := by
  unfold ex_
  refine (am_Y_go 2 (ok := []) (g := (am_sw x1 106 [((1 : Int32), 78), ((2 : Int32), 106), ((3 : Int32), 72), ((4 : Int32), 74), ((5 : Int32), 106), ((6 : Int32), 80), ((7 : Int32), 106), ((8 : Int32), 106), ((9 : Int32), 106), ((10 : Int32), 106), ((11 : Int32), 106), ((12 : Int32), 106), ((13 : Int32), 76), ((14 : Int32), 93)], [l0, some (v_i x1)], [], h)) rfl).trans ?_
  all_goals exact (by simp only [am_sw, am_Y_if, am_all])

theorem b_X12_wordOf_106 {d : Nat} {Q : Option am_V → am_H → Prop} (h : am_H) (l0 l1 : Option am_V) : ex_ d 243 106 [l0, l1] [] h Q ↔ Q (some (v_i (-1 : Int32))) h := by
  unfold ex_
  refine (am_Y_go 1 (ok := []) (g := (107, [l0, l1], [v_i (-1 : Int32)], h)) rfl).trans ?_
  all_goals exact ((am_Y_ret rfl rfl rfl).trans (am_r0))

theorem b_X12_wordOf_78 {d : Nat} {Q : Option am_V → am_H → Prop} (h : am_H) (l0 l1 : Option am_V) : ex_ d 243 78 [l0, l1] [] h Q ↔ Q (some (v_i (3 : Int32))) h := by
  unfold ex_
  refine (am_Y_go 1 (ok := []) (g := (79, [l0, l1], [v_i (3 : Int32)], h)) rfl).trans ?_
  all_goals exact ((am_Y_ret rfl rfl rfl).trans (am_r0))

theorem b_X12_wordOf_72 {d : Nat} {Q : Option am_V → am_H → Prop} (h : am_H) (l0 l1 : Option am_V) : ex_ d 243 72 [l0, l1] [] h Q ↔ Q (some (v_i (0 : Int32))) h := by
  unfold ex_
  refine (am_Y_go 1 (ok := []) (g := (73, [l0, l1], [v_i (0 : Int32)], h)) rfl).trans ?_
  all_goals exact ((am_Y_ret rfl rfl rfl).trans (am_r0))

theorem b_X12_wordOf_74 {d : Nat} {Q : Option am_V → am_H → Prop} (h : am_H) (l0 l1 : Option am_V) : ex_ d 243 74 [l0, l1] [] h Q ↔ Q (some (v_i (1 : Int32))) h := by
  unfold ex_
  refine (am_Y_go 1 (ok := []) (g := (75, [l0, l1], [v_i (1 : Int32)], h)) rfl).trans ?_
  all_goals exact ((am_Y_ret rfl rfl rfl).trans (am_r0))

theorem b_X12_wordOf_80 {d : Nat} {Q : Option am_V → am_H → Prop} (h : am_H) (l1 : Option am_V) (Lh : Lay h) : ex_ d 243 80 [some (v_r (some 93)), l1] [] h Q ↔ if ¬ (h_i h 93 15) = 0 then ex_ d 243 91 [some (v_r (some 93)), l1] [] h Q else ex_ d 243 87 [some (v_r (some 93)), l1] [] h Q := by
  unfold ex_
  refine (am_Y_go 3 (ok := [am_is h (some 93) 12]) (g := (if ¬ (h_i h 93 15) = 0 then 91 else 87, [some (v_r (some 93)), l1], [], h)) rfl).trans ?_
  simp only [am_all]
  all_goals exact cj_d (la_is Lh (o := 93) rfl) (am_Y_if)

theorem b_X12_wordOf_76 {d : Nat} {Q : Option am_V → am_H → Prop} (h : am_H) (l0 l1 : Option am_V) : ex_ d 243 76 [l0, l1] [] h Q ↔ Q (some (v_i (2 : Int32))) h := by
  unfold ex_
  refine (am_Y_go 1 (ok := []) (g := (77, [l0, l1], [v_i (2 : Int32)], h)) rfl).trans ?_
  all_goals exact ((am_Y_ret rfl rfl rfl).trans (am_r0))

theorem b_X12_wordOf_93 {d : Nat} {Q : Option am_V → am_H → Prop} (h : am_H) (l1 : Option am_V) (Lh : Lay h) : ex_ d 243 93 [some (v_r (some 93)), l1] [] h Q ↔ if ¬ (h_i h 93 15) = 0 then ex_ d 243 104 [some (v_r (some 93)), l1] [] h Q else ex_ d 243 100 [some (v_r (some 93)), l1] [] h Q := by
  unfold ex_
  refine (am_Y_go 3 (ok := [am_is h (some 93) 12]) (g := (if ¬ (h_i h 93 15) = 0 then 104 else 100, [some (v_r (some 93)), l1], [], h)) rfl).trans ?_
  simp only [am_all]
  all_goals exact cj_d (la_is Lh (o := 93) rfl) (am_Y_if)

theorem b_X12_wordOf_91 {d : Nat} {Q : Option am_V → am_H → Prop} (h : am_H) (l0 l1 : Option am_V) : ex_ d 243 91 [l0, l1] [] h Q ↔ Q (some (v_i (-1 : Int32))) h := by
  unfold ex_
  refine (am_Y_go 1 (ok := []) (g := (92, [l0, l1], [v_i (-1 : Int32)], h)) rfl).trans ?_
  all_goals exact ((am_Y_ret rfl rfl rfl).trans (am_r0))

theorem b_X12_wordOf_87 {d : Nat} {Q : Option am_V → am_H → Prop} (h : am_H) (l0 l1 : Option am_V) : ex_ d 243 87 [l0, l1] [] h Q ↔ Q (some (v_i (4 : Int32))) h := by
  unfold ex_
  refine (am_Y_go 2 (ok := []) (g := (92, [l0, l1], [v_i (4 : Int32)], h)) rfl).trans ?_
  all_goals exact ((am_Y_ret rfl rfl rfl).trans (am_r0))

theorem b_X12_wordOf_104 {d : Nat} {Q : Option am_V → am_H → Prop} (h : am_H) (l0 l1 : Option am_V) : ex_ d 243 104 [l0, l1] [] h Q ↔ Q (some (v_i (-1 : Int32))) h := by
  unfold ex_
  refine (am_Y_go 1 (ok := []) (g := (105, [l0, l1], [v_i (-1 : Int32)], h)) rfl).trans ?_
  all_goals exact ((am_Y_ret rfl rfl rfl).trans (am_r0))

theorem b_X12_wordOf_100 {d : Nat} {Q : Option am_V → am_H → Prop} (h : am_H) (l0 l1 : Option am_V) : ex_ d 243 100 [l0, l1] [] h Q ↔ Q (some (v_i (5 : Int32))) h := by
  unfold ex_
  refine (am_Y_go 2 (ok := []) (g := (105, [l0, l1], [v_i (5 : Int32)], h)) rfl).trans ?_
  all_goals exact ((am_Y_ret rfl rfl rfl).trans (am_r0))

theorem b_X12_codes_0 {d : Nat} {Q : Option am_V → am_H → Prop} (h : am_H) (l1 : Option am_V) (Lh : Lay h) : ex_ d 244 0 [some (v_r (some 93)), l1] [] h Q ↔ if (h_i h 93 11) = 0 then ex_ d 244 8 [some (v_r (some 93)), l1] [] h Q else ex_ d 244 7 [some (v_r (some 93)), l1] [] h Q := by
  unfold ex_
  refine (am_Y_go 3 (ok := [am_is h (some 93) 12]) (g := (if (h_i h 93 11) = 0 then 8 else 7, [some (v_r (some 93)), l1], [], h)) rfl).trans ?_
  simp only [am_all]
  all_goals exact cj_d (la_is Lh (o := 93) rfl) (am_Y_if)

theorem b_X12_codes_8 {d : Nat} {Q : Option am_V → am_H → Prop} (h : am_H) (x1 : Int32) (Lh : Lay h) : ex_ d 244 8 [some (v_r (some 93)), some (v_i x1)] [] h Q ↔ vp_in (1450 : Int32) 2351 ∧ vp_in ((1451 : Int32) + (h_i h 97 (Int32.toNatClampNeg (1450 : Int32)))) 2351 ∧ vp_in (1450 : Int32) 2351 ∧ vp_in (1450 : Int32) 2351 ∧ Q (none) (p_i (p_i h 97 (Int32.toNatClampNeg ((1451 : Int32) + (h_i h 97 (Int32.toNatClampNeg (1450 : Int32))))) x1) 97 (Int32.toNatClampNeg (1450 : Int32)) ((h_i (p_i h 97 (Int32.toNatClampNeg ((1451 : Int32) + (h_i h 97 (Int32.toNatClampNeg (1450 : Int32))))) x1) 97 (Int32.toNatClampNeg (1450 : Int32))) + (1 : Int32))) := by
  have e0 : h_r h 93 4 = some 97 := la_r Lh (q := (93, 4, 97)) (by decide)
  unfold ex_
  refine (am_Y_go 18 (ok := [am_is h (some 93) 12, am_is h (some 93) 12, am_ar h ((h_r h 93 4)) 20 (1450 : Int32), am_ar h ((h_r h 93 4)) 20 ((1451 : Int32) + (h_i h ((h_r h 93 4).getD 0) (Int32.toNatClampNeg (1450 : Int32)))), am_is h (some 93) 12, am_ar h ((h_r h 93 4)) 20 (1450 : Int32), am_ar h ((h_r h 93 4)) 20 (1450 : Int32)]) (g := (38, [some (v_r (some 93)), some (v_i x1)], [], (p_i (p_i h ((h_r h 93 4).getD 0) (Int32.toNatClampNeg ((1451 : Int32) + (h_i h ((h_r h 93 4).getD 0) (Int32.toNatClampNeg (1450 : Int32))))) x1) ((h_r h 93 4).getD 0) (Int32.toNatClampNeg (1450 : Int32)) ((h_i (p_i h ((h_r h 93 4).getD 0) (Int32.toNatClampNeg ((1451 : Int32) + (h_i h ((h_r h 93 4).getD 0) (Int32.toNatClampNeg (1450 : Int32))))) x1) ((h_r h 93 4).getD 0) (Int32.toNatClampNeg (1450 : Int32))) + (1 : Int32))))) rfl).trans ?_
  simp only [e0, Option.getD_some, am_all]
  all_goals exact cj_d (la_is Lh (o := 93) rfl) (cj_d (la_is Lh (o := 93) rfl) (cj_k (la_ar Lh (o := 97) rfl) (cj_k (la_ar Lh (o := 97) rfl) (cj_d (la_is Lh (o := 93) rfl) (cj_k (la_ar Lh (o := 97) rfl) (cj_k (la_ar Lh (o := 97) rfl) (((am_Y_ret rfl rfl rfl).trans (am_rz rfl)))))))))

theorem b_X12_codes_7 {d : Nat} {Q : Option am_V → am_H → Prop} (h : am_H) (l0 l1 : Option am_V) : ex_ d 244 7 [l0, l1] [] h Q ↔ Q (none) h := by
  unfold ex_
  exact ((am_Y_ret rfl rfl rfl).trans (am_rz rfl))

theorem b_X12_goesIn_0 {d : Nat} {Q : Option am_V → am_H → Prop} (h : am_H) (x1 : Int32) (l0 : Option am_V) : ex_ d 245 0 [l0, some (v_i x1)] [] h Q ↔ if ¬ x1 = (6 : Int32) then ex_ d 245 11 [l0, some (v_i x1)] [] h Q else ex_ d 245 6 [l0, some (v_i x1)] [] h Q := by
  unfold ex_
  refine (am_Y_go 3 (ok := []) (g := (if ¬ x1 = (6 : Int32) then 11 else 6, [l0, some (v_i x1)], [], h)) rfl).trans ?_
  all_goals exact am_Y_if

theorem b_X12_goesIn_11 {d : Nat} {Q : Option am_V → am_H → Prop} (h : am_H) (l1 : Option am_V) (Lh : Lay h) : ex_ d 245 11 [some (v_r (some 93)), l1] [] h Q ↔ if ¬ (h_i h 93 11) = 0 then ex_ d 245 22 [some (v_r (some 93)), l1] [] h Q else ex_ d 245 18 [some (v_r (some 93)), l1] [] h Q := by
  unfold ex_
  refine (am_Y_go 3 (ok := [am_is h (some 93) 12]) (g := (if ¬ (h_i h 93 11) = 0 then 22 else 18, [some (v_r (some 93)), l1], [], h)) rfl).trans ?_
  simp only [am_all]
  all_goals exact cj_d (la_is Lh (o := 93) rfl) (am_Y_if)

theorem b_X12_goesIn_6 {d : Nat} {Q : Option am_V → am_H → Prop} (h : am_H) (l1 : Option am_V) (Lh : Lay h) : ex_ (d + 1) 245 6 [some (v_r (some 93)), l1] [] h Q ↔ ex_ d 238 0 [some (v_r (some 93)), some (v_i (4 : Int32))] [] h (fun r h' => ex_ (d + 1) 245 11 [some (v_r (some 93)), l1] (r.toList ++ []) h' Q) := by
  unfold ex_
  refine (am_Y_go 2 (ok := []) (g := (8, [some (v_r (some 93)), l1], [v_i (4 : Int32), v_r (some 93)], h)) rfl).trans ?_
  all_goals exact ((am_Y_call (j := 238) (na := 2) (ci := 12) (fl := 0) rfl rfl rfl).trans (cj_d ⟨⟨Nat.le_of_ble_eq_true rfl, Nat.le_of_ble_eq_true rfl, Nat.le_of_ble_eq_true rfl, rfl⟩, Or.inr (Or.inr (show (12 : Nat) < 20 ∧ am_is h (some 93) 12 from ⟨by decide, (la_is Lh (o := 93) rfl)⟩))⟩ Iff.rfl))

theorem b_X12_goesIn_22 {d : Nat} {Q : Option am_V → am_H → Prop} (h : am_H) (l1 : Option am_V) (Lh : Lay h) : ex_ d 245 22 [some (v_r (some 93)), l1] [] h Q ↔ if ¬ (h_i h 93 11) = 0 then ex_ d 245 33 [some (v_r (some 93)), l1] [] h Q else ex_ d 245 29 [some (v_r (some 93)), l1] [] h Q := by
  unfold ex_
  refine (am_Y_go 3 (ok := [am_is h (some 93) 12]) (g := (if ¬ (h_i h 93 11) = 0 then 33 else 29, [some (v_r (some 93)), l1], [], h)) rfl).trans ?_
  simp only [am_all]
  all_goals exact cj_d (la_is Lh (o := 93) rfl) (am_Y_if)

theorem b_X12_goesIn_18 {d : Nat} {Q : Option am_V → am_H → Prop} (h : am_H) (l1 : Option am_V) (Lh : Lay h) : ex_ (d + 1) 245 18 [some (v_r (some 93)), l1] [] h Q ↔ ex_ d 237 0 [some (v_r (some 93)), none] [] h (fun r h' => ex_ (d + 1) 245 22 [some (v_r (some 93)), l1] (r.toList ++ []) h' Q) := by
  unfold ex_
  refine (am_Y_go 1 (ok := []) (g := (19, [some (v_r (some 93)), l1], [v_r (some 93)], h)) rfl).trans ?_
  all_goals exact ((am_Y_call (j := 237) (na := 1) (ci := 12) (fl := 0) rfl rfl rfl).trans (cj_d ⟨⟨Nat.le_of_ble_eq_true rfl, Nat.le_of_ble_eq_true rfl, Nat.le_of_ble_eq_true rfl, rfl⟩, Or.inr (Or.inr (show (12 : Nat) < 20 ∧ am_is h (some 93) 12 from ⟨by decide, (la_is Lh (o := 93) rfl)⟩))⟩ Iff.rfl))

theorem b_X12_goesIn_33 {d : Nat} {Q : Option am_V → am_H → Prop} (h : am_H) (l0 l1 : Option am_V) : ex_ d 245 33 [l0, l1] [] h Q ↔ Q (some (v_i (0 : Int32))) h := by
  unfold ex_
  refine (am_Y_go 1 (ok := []) (g := (34, [l0, l1], [v_i (0 : Int32)], h)) rfl).trans ?_
  all_goals exact ((am_Y_ret rfl rfl rfl).trans (am_rz (show am_fit 1 0 from Or.inl rfl)))

theorem b_X12_goesIn_29 {d : Nat} {Q : Option am_V → am_H → Prop} (h : am_H) (l0 l1 : Option am_V) : ex_ d 245 29 [l0, l1] [] h Q ↔ Q (some (v_i (1 : Int32))) h := by
  unfold ex_
  refine (am_Y_go 2 (ok := []) (g := (34, [l0, l1], [v_i (1 : Int32)], h)) rfl).trans ?_
  all_goals exact ((am_Y_ret rfl rfl rfl).trans (am_rz (show am_fit 1 1 from Or.inr rfl)))

theorem b_X12_readAtom_0 {d : Nat} {Q : Option am_V → am_H → Prop} (h : am_H) (l1 : Option am_V) (Lh : Lay h) : ex_ (d + 1) 246 0 [some (v_r (some 93)), l1] [] h Q ↔ ex_ d 239 0 [some (v_r (some 93)), some (v_i (23 : Int32))] [] h (fun r h' => ex_ (d + 1) 246 6 [some (v_r (some 93)), l1] (r.toList ++ []) h' Q) := by
  unfold ex_
  refine (am_Y_go 2 (ok := []) (g := (3, [some (v_r (some 93)), l1], [v_i (23 : Int32), v_r (some 93)], h)) rfl).trans ?_
  all_goals exact ((am_Y_call (j := 239) (na := 2) (ci := 12) (fl := 0) rfl rfl rfl).trans (cj_d ⟨⟨Nat.le_of_ble_eq_true rfl, Nat.le_of_ble_eq_true rfl, Nat.le_of_ble_eq_true rfl, rfl⟩, Or.inr (Or.inr (show (12 : Nat) < 20 ∧ am_is h (some 93) 12 from ⟨by decide, (la_is Lh (o := 93) rfl)⟩))⟩ Iff.rfl))

theorem b_X12_readAtom_6 {d : Nat} {Q : Option am_V → am_H → Prop} (h : am_H) (s0 : Int32) (l0 l1 : Option am_V) : ex_ d 246 6 [l0, l1] [v_i s0] h Q ↔ if s0 = 0 then ex_ d 246 24 [l0, l1] [] h Q else ex_ d 246 9 [l0, l1] [] h Q := by
  unfold ex_
  refine (am_Y_go 1 (ok := []) (g := (if s0 = 0 then 24 else 9, [l0, l1], [], h)) rfl).trans ?_
  all_goals exact am_Y_if

theorem b_X12_readAtom_24 {d : Nat} {Q : Option am_V → am_H → Prop} (h : am_H) (l1 : Option am_V) (Lh : Lay h) : ex_ d 246 24 [some (v_r (some 93)), l1] [] h Q ↔ if ¬ (h_i h 93 11) = 0 then ex_ d 246 66 [some (v_r (some 93)), l1] [] h Q else ex_ d 246 31 [some (v_r (some 93)), l1] [] h Q := by
  unfold ex_
  refine (am_Y_go 3 (ok := [am_is h (some 93) 12]) (g := (if ¬ (h_i h 93 11) = 0 then 66 else 31, [some (v_r (some 93)), l1], [], h)) rfl).trans ?_
  simp only [am_all]
  all_goals exact cj_d (la_is Lh (o := 93) rfl) (am_Y_if)

theorem b_X12_readAtom_9 {d : Nat} {Q : Option am_V → am_H → Prop} (h : am_H) (l1 : Option am_V) (Lh : Lay h) : ex_ (d + 1) 246 9 [some (v_r (some 93)), l1] [] h Q ↔ ex_ d 244 0 [some (v_r (some 93)), some (v_i (h_i h 93 10))] [] h (fun r h' => ex_ (d + 1) 246 17 [some (v_r (some 93)), l1] (r.toList ++ []) h' Q) := by
  unfold ex_
  refine (am_Y_go 3 (ok := [am_is h (some 93) 12]) (g := (14, [some (v_r (some 93)), l1], [v_i (h_i h 93 10), v_r (some 93)], h)) rfl).trans ?_
  simp only [am_all]
  all_goals exact cj_d (la_is Lh (o := 93) rfl) (((am_Y_call (j := 244) (na := 2) (ci := 12) (fl := 0) rfl rfl rfl).trans (cj_d ⟨⟨Nat.le_of_ble_eq_true rfl, Nat.le_of_ble_eq_true rfl, Nat.le_of_ble_eq_true rfl, rfl⟩, Or.inr (Or.inr (show (12 : Nat) < 20 ∧ am_is h (some 93) 12 from ⟨by decide, (la_is Lh (o := 93) rfl)⟩))⟩ Iff.rfl)))

theorem b_X12_readAtom_66 {d : Nat} {Q : Option am_V → am_H → Prop} (h : am_H) (l1 : Option am_V) (Lh : Lay h) : ex_ (d + 1) 246 66 [some (v_r (some 93)), l1] [] h Q ↔ ex_ d 239 0 [some (v_r (some 93)), some (v_i (35 : Int32))] [] h (fun r h' => ex_ (d + 1) 246 72 [some (v_r (some 93)), l1] (r.toList ++ []) h' Q) := by
  unfold ex_
  refine (am_Y_go 2 (ok := []) (g := (69, [some (v_r (some 93)), l1], [v_i (35 : Int32), v_r (some 93)], h)) rfl).trans ?_
  all_goals exact ((am_Y_call (j := 239) (na := 2) (ci := 12) (fl := 0) rfl rfl rfl).trans (cj_d ⟨⟨Nat.le_of_ble_eq_true rfl, Nat.le_of_ble_eq_true rfl, Nat.le_of_ble_eq_true rfl, rfl⟩, Or.inr (Or.inr (show (12 : Nat) < 20 ∧ am_is h (some 93) 12 from ⟨by decide, (la_is Lh (o := 93) rfl)⟩))⟩ Iff.rfl))

theorem b_X12_readAtom_31 {d : Nat} {Q : Option am_V → am_H → Prop} (h : am_H) (l1 : Option am_V) (Lh : Lay h) : ex_ (d + 1) 246 31 [some (v_r (some 93)), l1] [] h Q ↔ ex_ d 243 0 [some (v_r (some 93)), some (v_i (h_i h 93 9))] [] h (fun r h' => ex_ (d + 1) 246 39 [some (v_r (some 93)), l1] (r.toList ++ []) h' Q) := by
  unfold ex_
  refine (am_Y_go 3 (ok := [am_is h (some 93) 12]) (g := (36, [some (v_r (some 93)), l1], [v_i (h_i h 93 9), v_r (some 93)], h)) rfl).trans ?_
  simp only [am_all]
  all_goals exact cj_d (la_is Lh (o := 93) rfl) (((am_Y_call (j := 243) (na := 2) (ci := 12) (fl := 0) rfl rfl rfl).trans (cj_d ⟨⟨Nat.le_of_ble_eq_true rfl, Nat.le_of_ble_eq_true rfl, Nat.le_of_ble_eq_true rfl, rfl⟩, Or.inr (Or.inr (show (12 : Nat) < 20 ∧ am_is h (some 93) 12 from ⟨by decide, (la_is Lh (o := 93) rfl)⟩))⟩ Iff.rfl)))

theorem b_X12_readAtom_17 {d : Nat} {Q : Option am_V → am_H → Prop} (h : am_H) (l1 : Option am_V) (Lh : Lay h) : ex_ (d + 1) 246 17 [some (v_r (some 93)), l1] [] h Q ↔ ex_ d 237 0 [some (v_r (some 93)), none] [] h (fun r h' => ex_ (d + 1) 246 21 [some (v_r (some 93)), l1] (r.toList ++ []) h' Q) := by
  unfold ex_
  refine (am_Y_go 1 (ok := []) (g := (18, [some (v_r (some 93)), l1], [v_r (some 93)], h)) rfl).trans ?_
  all_goals exact ((am_Y_call (j := 237) (na := 1) (ci := 12) (fl := 0) rfl rfl rfl).trans (cj_d ⟨⟨Nat.le_of_ble_eq_true rfl, Nat.le_of_ble_eq_true rfl, Nat.le_of_ble_eq_true rfl, rfl⟩, Or.inr (Or.inr (show (12 : Nat) < 20 ∧ am_is h (some 93) 12 from ⟨by decide, (la_is Lh (o := 93) rfl)⟩))⟩ Iff.rfl))

theorem b_X12_readAtom_72 {d : Nat} {Q : Option am_V → am_H → Prop} (h : am_H) (s0 : Int32) (l0 l1 : Option am_V) : ex_ d 246 72 [l0, l1] [v_i s0] h Q ↔ if s0 = 0 then ex_ d 246 108 [l0, l1] [] h Q else ex_ d 246 75 [l0, l1] [] h Q := by
  unfold ex_
  refine (am_Y_go 1 (ok := []) (g := (if s0 = 0 then 108 else 75, [l0, l1], [], h)) rfl).trans ?_
  all_goals exact am_Y_if

theorem b_X12_readAtom_39 {d : Nat} {Q : Option am_V → am_H → Prop} (h : am_H) (s0 : Int32) (l0 l1 : Option am_V) : ex_ d 246 39 [l0, l1] [v_i s0] h Q ↔ if s0 = (-1 : Int32) then ex_ d 246 66 [l0, l1] [] h Q else ex_ d 246 43 [l0, l1] [] h Q := by
  unfold ex_
  refine (am_Y_go 2 (ok := []) (g := (if s0 = (-1 : Int32) then 66 else 43, [l0, l1], [], h)) rfl).trans ?_
  all_goals exact am_Y_if

theorem b_X12_readAtom_21 {d : Nat} {Q : Option am_V → am_H → Prop} (h : am_H) (l0 l1 : Option am_V) : ex_ d 246 21 [l0, l1] [] h Q ↔ Q (none) h := by
  unfold ex_
  refine (am_Y_go 1 (ok := []) (g := (130, [l0, l1], [], h)) rfl).trans ?_
  all_goals exact ((am_Y_ret rfl rfl rfl).trans (am_rz rfl))

theorem b_X12_readAtom_108 {d : Nat} {Q : Option am_V → am_H → Prop} (h : am_H) (l1 : Option am_V) (Lh : Lay h) : ex_ (d + 1) 246 108 [some (v_r (some 93)), l1] [] h Q ↔ ex_ d 239 0 [some (v_r (some 93)), some (v_i (9 : Int32))] [] h (fun r h' => ex_ (d + 1) 246 114 [some (v_r (some 93)), l1] (r.toList ++ []) h' Q) := by
  unfold ex_
  refine (am_Y_go 2 (ok := []) (g := (111, [some (v_r (some 93)), l1], [v_i (9 : Int32), v_r (some 93)], h)) rfl).trans ?_
  all_goals exact ((am_Y_call (j := 239) (na := 2) (ci := 12) (fl := 0) rfl rfl rfl).trans (cj_d ⟨⟨Nat.le_of_ble_eq_true rfl, Nat.le_of_ble_eq_true rfl, Nat.le_of_ble_eq_true rfl, rfl⟩, Or.inr (Or.inr (show (12 : Nat) < 20 ∧ am_is h (some 93) 12 from ⟨by decide, (la_is Lh (o := 93) rfl)⟩))⟩ Iff.rfl))

theorem b_X12_readAtom_75 {d : Nat} {Q : Option am_V → am_H → Prop} (h : am_H) (x1 : Int32) (Lh : Lay h) : ex_ (d + 1) 246 75 [some (v_r (some 93)), some (v_i x1)] [] h Q ↔ ex_ d 245 0 [some (v_r (some 93)), some (v_i x1)] [] h (fun r h' => ex_ (d + 1) 246 80 [some (v_r (some 93)), some (v_i x1)] (r.toList ++ []) h' Q) := by
  unfold ex_
  refine (am_Y_go 2 (ok := []) (g := (77, [some (v_r (some 93)), some (v_i x1)], [v_i x1, v_r (some 93)], h)) rfl).trans ?_
  all_goals exact ((am_Y_call (j := 245) (na := 2) (ci := 12) (fl := 0) rfl rfl rfl).trans (cj_d ⟨⟨Nat.le_of_ble_eq_true rfl, Nat.le_of_ble_eq_true rfl, Nat.le_of_ble_eq_true rfl, rfl⟩, Or.inr (Or.inr (show (12 : Nat) < 20 ∧ am_is h (some 93) 12 from ⟨by decide, (la_is Lh (o := 93) rfl)⟩))⟩ Iff.rfl))

theorem b_X12_readAtom_43 {d : Nat} {Q : Option am_V → am_H → Prop} (h : am_H) (l1 : Option am_V) (Lh : Lay h) : ex_ (d + 1) 246 43 [some (v_r (some 93)), l1] [] h Q ↔ ex_ d 243 0 [some (v_r (some 93)), some (v_i (h_i h 93 9))] [] h (fun r h' => ex_ (d + 1) 246 55 [some (v_r (some 93)), l1] (r.toList ++ [v_i (1000 : Int32), v_r (some 93)]) h' Q) := by
  unfold ex_
  refine (am_Y_go 5 (ok := [am_is h (some 93) 12]) (g := (52, [some (v_r (some 93)), l1], [v_i (h_i h 93 9), v_r (some 93), v_i (1000 : Int32), v_r (some 93)], h)) rfl).trans ?_
  simp only [am_all]
  all_goals exact cj_d (la_is Lh (o := 93) rfl) (((am_Y_call (j := 243) (na := 2) (ci := 12) (fl := 0) rfl rfl rfl).trans (cj_d ⟨⟨Nat.le_of_ble_eq_true rfl, Nat.le_of_ble_eq_true rfl, Nat.le_of_ble_eq_true rfl, rfl⟩, Or.inr (Or.inr (show (12 : Nat) < 20 ∧ am_is h (some 93) 12 from ⟨by decide, (la_is Lh (o := 93) rfl)⟩))⟩ Iff.rfl)))

theorem b_X12_readAtom_114 {d : Nat} {Q : Option am_V → am_H → Prop} (h : am_H) (s0 : Int32) (l0 l1 : Option am_V) : ex_ d 246 114 [l0, l1] [v_i s0] h Q ↔ if s0 = 0 then ex_ d 246 125 [l0, l1] [] h Q else ex_ d 246 117 [l0, l1] [] h Q := by
  unfold ex_
  refine (am_Y_go 1 (ok := []) (g := (if s0 = 0 then 125 else 117, [l0, l1], [], h)) rfl).trans ?_
  all_goals exact am_Y_if

theorem b_X12_readAtom_80 {d : Nat} {Q : Option am_V → am_H → Prop} (h : am_H) (s0 : Int32) (l0 l1 : Option am_V) : ex_ d 246 80 [l0, l1] [v_i s0] h Q ↔ if ¬ s0 = 0 then ex_ d 246 84 [l0, l1] [] h Q else ex_ d 246 83 [l0, l1] [] h Q := by
  unfold ex_
  refine (am_Y_go 1 (ok := []) (g := (if ¬ s0 = 0 then 84 else 83, [l0, l1], [], h)) rfl).trans ?_
  all_goals exact am_Y_if

theorem b_X12_readAtom_55 {d : Nat} {Q : Option am_V → am_H → Prop} (h : am_H) (s0 : Int32) (s1 : Int32) (l0 l1 : Option am_V) (Lh : Lay h) : ex_ (d + 1) 246 55 [l0, l1] [v_i s0, v_i s1, v_r (some 93)] h Q ↔ ex_ d 244 0 [some (v_r (some 93)), some (v_i (s1 + s0))] [] h (fun r h' => ex_ (d + 1) 246 59 [l0, l1] (r.toList ++ []) h' Q) := by
  unfold ex_
  refine (am_Y_go 1 (ok := []) (g := (56, [l0, l1], [v_i (s1 + s0), v_r (some 93)], h)) rfl).trans ?_
  all_goals exact ((am_Y_call (j := 244) (na := 2) (ci := 12) (fl := 0) rfl rfl rfl).trans (cj_d ⟨⟨Nat.le_of_ble_eq_true rfl, Nat.le_of_ble_eq_true rfl, Nat.le_of_ble_eq_true rfl, rfl⟩, Or.inr (Or.inr (show (12 : Nat) < 20 ∧ am_is h (some 93) 12 from ⟨by decide, (la_is Lh (o := 93) rfl)⟩))⟩ Iff.rfl))

theorem b_X12_readAtom_125 {d : Nat} {Q : Option am_V → am_H → Prop} (h : am_H) (l1 : Option am_V) (Lh : Lay h) : ex_ (d + 1) 246 125 [some (v_r (some 93)), l1] [] h Q ↔ ex_ d 238 0 [some (v_r (some 93)), some (v_i (2 : Int32))] [] h (fun r h' => ex_ (d + 1) 246 130 [some (v_r (some 93)), l1] (r.toList ++ []) h' Q) := by
  unfold ex_
  refine (am_Y_go 2 (ok := []) (g := (127, [some (v_r (some 93)), l1], [v_i (2 : Int32), v_r (some 93)], h)) rfl).trans ?_
  all_goals exact ((am_Y_call (j := 238) (na := 2) (ci := 12) (fl := 0) rfl rfl rfl).trans (cj_d ⟨⟨Nat.le_of_ble_eq_true rfl, Nat.le_of_ble_eq_true rfl, Nat.le_of_ble_eq_true rfl, rfl⟩, Or.inr (Or.inr (show (12 : Nat) < 20 ∧ am_is h (some 93) 12 from ⟨by decide, (la_is Lh (o := 93) rfl)⟩))⟩ Iff.rfl))

theorem b_X12_readAtom_117 {d : Nat} {Q : Option am_V → am_H → Prop} (h : am_H) (x1 : Int32) (Lh : Lay h) : ex_ (d + 1) 246 117 [some (v_r (some 93)), some (v_i x1)] [] h Q ↔ ex_ d 248 0 [some (v_r (some 93)), some (v_i x1)] [] h (fun r h' => ex_ (d + 1) 246 122 [some (v_r (some 93)), some (v_i x1)] (r.toList ++ []) h' Q) := by
  unfold ex_
  refine (am_Y_go 2 (ok := []) (g := (119, [some (v_r (some 93)), some (v_i x1)], [v_i x1, v_r (some 93)], h)) rfl).trans ?_
  all_goals exact ((am_Y_call (j := 248) (na := 2) (ci := 12) (fl := 0) rfl rfl rfl).trans (cj_d ⟨⟨Nat.le_of_ble_eq_true rfl, Nat.le_of_ble_eq_true rfl, Nat.le_of_ble_eq_true rfl, rfl⟩, Or.inr (Or.inr (show (12 : Nat) < 20 ∧ am_is h (some 93) 12 from ⟨by decide, (la_is Lh (o := 93) rfl)⟩))⟩ Iff.rfl))

theorem b_X12_readAtom_84 {d : Nat} {Q : Option am_V → am_H → Prop} (h : am_H) (x1 : Int32) (Lh : Lay h) : ex_ (d + 1) 246 84 [some (v_r (some 93)), some (v_i x1)] [] h Q ↔ ex_ d 249 0 [some (v_r (some 93)), some (v_i (x1 + (1 : Int32))), none] [] h (fun r h' => ex_ (d + 1) 246 91 [some (v_r (some 93)), some (v_i x1)] (r.toList ++ []) h' Q) := by
  unfold ex_
  refine (am_Y_go 4 (ok := []) (g := (88, [some (v_r (some 93)), some (v_i x1)], [v_i (x1 + (1 : Int32)), v_r (some 93)], h)) rfl).trans ?_
  all_goals exact ((am_Y_call (j := 249) (na := 2) (ci := 12) (fl := 0) rfl rfl rfl).trans (cj_d ⟨⟨Nat.le_of_ble_eq_true rfl, Nat.le_of_ble_eq_true rfl, Nat.le_of_ble_eq_true rfl, rfl⟩, Or.inr (Or.inr (show (12 : Nat) < 20 ∧ am_is h (some 93) 12 from ⟨by decide, (la_is Lh (o := 93) rfl)⟩))⟩ Iff.rfl))

theorem b_X12_readAtom_83 {d : Nat} {Q : Option am_V → am_H → Prop} (h : am_H) (l0 l1 : Option am_V) : ex_ d 246 83 [l0, l1] [] h Q ↔ Q (none) h := by
  unfold ex_
  exact ((am_Y_ret rfl rfl rfl).trans (am_rz rfl))

theorem b_X12_readAtom_59 {d : Nat} {Q : Option am_V → am_H → Prop} (h : am_H) (l1 : Option am_V) (Lh : Lay h) : ex_ (d + 1) 246 59 [some (v_r (some 93)), l1] [] h Q ↔ ex_ d 237 0 [some (v_r (some 93)), none] [] h (fun r h' => ex_ (d + 1) 246 63 [some (v_r (some 93)), l1] (r.toList ++ []) h' Q) := by
  unfold ex_
  refine (am_Y_go 1 (ok := []) (g := (60, [some (v_r (some 93)), l1], [v_r (some 93)], h)) rfl).trans ?_
  all_goals exact ((am_Y_call (j := 237) (na := 1) (ci := 12) (fl := 0) rfl rfl rfl).trans (cj_d ⟨⟨Nat.le_of_ble_eq_true rfl, Nat.le_of_ble_eq_true rfl, Nat.le_of_ble_eq_true rfl, rfl⟩, Or.inr (Or.inr (show (12 : Nat) < 20 ∧ am_is h (some 93) 12 from ⟨by decide, (la_is Lh (o := 93) rfl)⟩))⟩ Iff.rfl))

theorem b_X12_readAtom_130 {d : Nat} {Q : Option am_V → am_H → Prop} (h : am_H) (l0 l1 : Option am_V) : ex_ d 246 130 [l0, l1] [] h Q ↔ Q (none) h := by
  unfold ex_
  exact ((am_Y_ret rfl rfl rfl).trans (am_rz rfl))

theorem b_X12_readAtom_122 {d : Nat} {Q : Option am_V → am_H → Prop} (h : am_H) (l0 l1 : Option am_V) : ex_ d 246 122 [l0, l1] [] h Q ↔ Q (none) h := by
  unfold ex_
  refine (am_Y_go 1 (ok := []) (g := (130, [l0, l1], [], h)) rfl).trans ?_
  all_goals exact ((am_Y_ret rfl rfl rfl).trans (am_rz rfl))

theorem b_X12_readAtom_91 {d : Nat} {Q : Option am_V → am_H → Prop} (h : am_H) (l1 : Option am_V) (Lh : Lay h) : ex_ (d + 1) 246 91 [some (v_r (some 93)), l1] [] h Q ↔ ex_ d 240 0 [some (v_r (some 93)), some (v_i (36 : Int32))] [] h (fun r h' => ex_ (d + 1) 246 97 [some (v_r (some 93)), l1] (r.toList ++ []) h' Q) := by
  unfold ex_
  refine (am_Y_go 2 (ok := []) (g := (94, [some (v_r (some 93)), l1], [v_i (36 : Int32), v_r (some 93)], h)) rfl).trans ?_
  all_goals exact ((am_Y_call (j := 240) (na := 2) (ci := 12) (fl := 0) rfl rfl rfl).trans (cj_d ⟨⟨Nat.le_of_ble_eq_true rfl, Nat.le_of_ble_eq_true rfl, Nat.le_of_ble_eq_true rfl, rfl⟩, Or.inr (Or.inr (show (12 : Nat) < 20 ∧ am_is h (some 93) 12 from ⟨by decide, (la_is Lh (o := 93) rfl)⟩))⟩ Iff.rfl))

theorem b_X12_readAtom_63 {d : Nat} {Q : Option am_V → am_H → Prop} (h : am_H) (l0 l1 : Option am_V) : ex_ d 246 63 [l0, l1] [] h Q ↔ Q (none) h := by
  unfold ex_
  refine (am_Y_go 1 (ok := []) (g := (130, [l0, l1], [], h)) rfl).trans ?_
  all_goals exact ((am_Y_ret rfl rfl rfl).trans (am_rz rfl))

theorem b_X12_readAtom_97 {d : Nat} {Q : Option am_V → am_H → Prop} (h : am_H) (s0 : Int32) (l0 l1 : Option am_V) : ex_ d 246 97 [l0, l1] [v_i s0] h Q ↔ if ¬ s0 = 0 then ex_ d 246 130 [l0, l1] [] h Q else ex_ d 246 100 [l0, l1] [] h Q := by
  unfold ex_
  refine (am_Y_go 1 (ok := []) (g := (if ¬ s0 = 0 then 130 else 100, [l0, l1], [], h)) rfl).trans ?_
  all_goals exact am_Y_if

theorem b_X12_readAtom_100 {d : Nat} {Q : Option am_V → am_H → Prop} (h : am_H) (l1 : Option am_V) (Lh : Lay h) : ex_ (d + 1) 246 100 [some (v_r (some 93)), l1] [] h Q ↔ ex_ d 238 0 [some (v_r (some 93)), some (v_i (2 : Int32))] [] h (fun r h' => ex_ (d + 1) 246 105 [some (v_r (some 93)), l1] (r.toList ++ []) h' Q) := by
  unfold ex_
  refine (am_Y_go 2 (ok := []) (g := (102, [some (v_r (some 93)), l1], [v_i (2 : Int32), v_r (some 93)], h)) rfl).trans ?_
  all_goals exact ((am_Y_call (j := 238) (na := 2) (ci := 12) (fl := 0) rfl rfl rfl).trans (cj_d ⟨⟨Nat.le_of_ble_eq_true rfl, Nat.le_of_ble_eq_true rfl, Nat.le_of_ble_eq_true rfl, rfl⟩, Or.inr (Or.inr (show (12 : Nat) < 20 ∧ am_is h (some 93) 12 from ⟨by decide, (la_is Lh (o := 93) rfl)⟩))⟩ Iff.rfl))

theorem b_X12_readAtom_105 {d : Nat} {Q : Option am_V → am_H → Prop} (h : am_H) (l0 l1 : Option am_V) : ex_ d 246 105 [l0, l1] [] h Q ↔ Q (none) h := by
  unfold ex_
  refine (am_Y_go 1 (ok := []) (g := (130, [l0, l1], [], h)) rfl).trans ?_
  all_goals exact ((am_Y_ret rfl rfl rfl).trans (am_rz rfl))

theorem b_X12_readBoth_0 {d : Nat} {Q : Option am_V → am_H → Prop} (h : am_H) (x1 : Int32) (Lh : Lay h) : ex_ (d + 1) 247 0 [some (v_r (some 93)), some (v_i x1)] [] h Q ↔ ex_ d 252 0 [some (v_r (some 93)), some (v_i x1), none] [] h (fun r h' => ex_ (d + 1) 247 5 [some (v_r (some 93)), some (v_i x1)] (r.toList ++ []) h' Q) := by
  unfold ex_
  refine (am_Y_go 2 (ok := []) (g := (2, [some (v_r (some 93)), some (v_i x1)], [v_i x1, v_r (some 93)], h)) rfl).trans ?_
  all_goals exact ((am_Y_call (j := 252) (na := 2) (ci := 12) (fl := 0) rfl rfl rfl).trans (cj_d ⟨⟨Nat.le_of_ble_eq_true rfl, Nat.le_of_ble_eq_true rfl, Nat.le_of_ble_eq_true rfl, rfl⟩, Or.inr (Or.inr (show (12 : Nat) < 20 ∧ am_is h (some 93) 12 from ⟨by decide, (la_is Lh (o := 93) rfl)⟩))⟩ Iff.rfl))

theorem b_X12_readBoth_5 {d : Nat} {Q : Option am_V → am_H → Prop} (h : am_H) (l1 : Option am_V) (Lh : Lay h) : ex_ (d + 1) 247 5 [some (v_r (some 93)), l1] [] h Q ↔ ex_ d 240 0 [some (v_r (some 93)), some (v_i (15 : Int32))] [] h (fun r h' => ex_ (d + 1) 247 11 [some (v_r (some 93)), l1] (r.toList ++ []) h' Q) := by
  unfold ex_
  refine (am_Y_go 2 (ok := []) (g := (8, [some (v_r (some 93)), l1], [v_i (15 : Int32), v_r (some 93)], h)) rfl).trans ?_
  all_goals exact ((am_Y_call (j := 240) (na := 2) (ci := 12) (fl := 0) rfl rfl rfl).trans (cj_d ⟨⟨Nat.le_of_ble_eq_true rfl, Nat.le_of_ble_eq_true rfl, Nat.le_of_ble_eq_true rfl, rfl⟩, Or.inr (Or.inr (show (12 : Nat) < 20 ∧ am_is h (some 93) 12 from ⟨by decide, (la_is Lh (o := 93) rfl)⟩))⟩ Iff.rfl))

theorem b_X12_readBoth_11 {d : Nat} {Q : Option am_V → am_H → Prop} (h : am_H) (s0 : Int32) (l0 l1 : Option am_V) : ex_ d 247 11 [l0, l1] [v_i s0] h Q ↔ if s0 = 0 then ex_ d 247 29 [l0, l1] [] h Q else ex_ d 247 14 [l0, l1] [] h Q := by
  unfold ex_
  refine (am_Y_go 1 (ok := []) (g := (if s0 = 0 then 29 else 14, [l0, l1], [], h)) rfl).trans ?_
  all_goals exact am_Y_if

theorem b_X12_readBoth_29 {d : Nat} {Q : Option am_V → am_H → Prop} (h : am_H) (l0 l1 : Option am_V) : ex_ d 247 29 [l0, l1] [] h Q ↔ Q (none) h := by
  unfold ex_
  exact ((am_Y_ret rfl rfl rfl).trans (am_rz rfl))

theorem b_X12_readBoth_14 {d : Nat} {Q : Option am_V → am_H → Prop} (h : am_H) (x1 : Int32) (Lh : Lay h) : ex_ (d + 1) 247 14 [some (v_r (some 93)), some (v_i x1)] [] h Q ↔ ex_ d 252 0 [some (v_r (some 93)), some (v_i x1), none] [] h (fun r h' => ex_ (d + 1) 247 19 [some (v_r (some 93)), some (v_i x1)] (r.toList ++ []) h' Q) := by
  unfold ex_
  refine (am_Y_go 2 (ok := []) (g := (16, [some (v_r (some 93)), some (v_i x1)], [v_i x1, v_r (some 93)], h)) rfl).trans ?_
  all_goals exact ((am_Y_call (j := 252) (na := 2) (ci := 12) (fl := 0) rfl rfl rfl).trans (cj_d ⟨⟨Nat.le_of_ble_eq_true rfl, Nat.le_of_ble_eq_true rfl, Nat.le_of_ble_eq_true rfl, rfl⟩, Or.inr (Or.inr (show (12 : Nat) < 20 ∧ am_is h (some 93) 12 from ⟨by decide, (la_is Lh (o := 93) rfl)⟩))⟩ Iff.rfl))

theorem b_X12_readBoth_19 {d : Nat} {Q : Option am_V → am_H → Prop} (h : am_H) (l1 : Option am_V) (Lh : Lay h) : ex_ (d + 1) 247 19 [some (v_r (some 93)), l1] [] h Q ↔ ex_ d 244 0 [some (v_r (some 93)), some (v_i (3007 : Int32))] [] h (fun r h' => ex_ (d + 1) 247 26 [some (v_r (some 93)), l1] (r.toList ++ []) h' Q) := by
  unfold ex_
  refine (am_Y_go 2 (ok := []) (g := (23, [some (v_r (some 93)), l1], [v_i (3007 : Int32), v_r (some 93)], h)) rfl).trans ?_
  all_goals exact ((am_Y_call (j := 244) (na := 2) (ci := 12) (fl := 0) rfl rfl rfl).trans (cj_d ⟨⟨Nat.le_of_ble_eq_true rfl, Nat.le_of_ble_eq_true rfl, Nat.le_of_ble_eq_true rfl, rfl⟩, Or.inr (Or.inr (show (12 : Nat) < 20 ∧ am_is h (some 93) 12 from ⟨by decide, (la_is Lh (o := 93) rfl)⟩))⟩ Iff.rfl))

theorem b_X12_readBoth_26 {d : Nat} {Q : Option am_V → am_H → Prop} (h : am_H) (l0 l1 : Option am_V) : ex_ d 247 26 [l0, l1] [] h Q ↔ ex_ d 247 5 [l0, l1] [] h Q := by
  unfold ex_
  refine (am_Y_go 1 (ok := []) (g := (5, [l0, l1], [], h)) rfl).trans ?_
  all_goals exact Iff.rfl

theorem b_X12_readIf_0 {d : Nat} {Q : Option am_V → am_H → Prop} (h : am_H) (x1 : Int32) (Lh : Lay h) : ex_ (d + 1) 248 0 [some (v_r (some 93)), some (v_i x1)] [] h Q ↔ ex_ d 245 0 [some (v_r (some 93)), some (v_i x1)] [] h (fun r h' => ex_ (d + 1) 248 5 [some (v_r (some 93)), some (v_i x1)] (r.toList ++ []) h' Q) := by
  unfold ex_
  refine (am_Y_go 2 (ok := []) (g := (2, [some (v_r (some 93)), some (v_i x1)], [v_i x1, v_r (some 93)], h)) rfl).trans ?_
  all_goals exact ((am_Y_call (j := 245) (na := 2) (ci := 12) (fl := 0) rfl rfl rfl).trans (cj_d ⟨⟨Nat.le_of_ble_eq_true rfl, Nat.le_of_ble_eq_true rfl, Nat.le_of_ble_eq_true rfl, rfl⟩, Or.inr (Or.inr (show (12 : Nat) < 20 ∧ am_is h (some 93) 12 from ⟨by decide, (la_is Lh (o := 93) rfl)⟩))⟩ Iff.rfl))

theorem b_X12_readIf_5 {d : Nat} {Q : Option am_V → am_H → Prop} (h : am_H) (s0 : Int32) (l0 l1 : Option am_V) : ex_ d 248 5 [l0, l1] [v_i s0] h Q ↔ if ¬ s0 = 0 then ex_ d 248 9 [l0, l1] [] h Q else ex_ d 248 8 [l0, l1] [] h Q := by
  unfold ex_
  refine (am_Y_go 1 (ok := []) (g := (if ¬ s0 = 0 then 9 else 8, [l0, l1], [], h)) rfl).trans ?_
  all_goals exact am_Y_if

theorem b_X12_readIf_9 {d : Nat} {Q : Option am_V → am_H → Prop} (h : am_H) (x1 : Int32) (Lh : Lay h) : ex_ (d + 1) 248 9 [some (v_r (some 93)), some (v_i x1)] [] h Q ↔ ex_ d 251 0 [some (v_r (some 93)), some (v_i (x1 + (1 : Int32)))] [] h (fun r h' => ex_ (d + 1) 248 16 [some (v_r (some 93)), some (v_i x1)] (r.toList ++ []) h' Q) := by
  unfold ex_
  refine (am_Y_go 4 (ok := []) (g := (13, [some (v_r (some 93)), some (v_i x1)], [v_i (x1 + (1 : Int32)), v_r (some 93)], h)) rfl).trans ?_
  all_goals exact ((am_Y_call (j := 251) (na := 2) (ci := 12) (fl := 0) rfl rfl rfl).trans (cj_d ⟨⟨Nat.le_of_ble_eq_true rfl, Nat.le_of_ble_eq_true rfl, Nat.le_of_ble_eq_true rfl, rfl⟩, Or.inr (Or.inr (show (12 : Nat) < 20 ∧ am_is h (some 93) 12 from ⟨by decide, (la_is Lh (o := 93) rfl)⟩))⟩ Iff.rfl))

theorem b_X12_readIf_8 {d : Nat} {Q : Option am_V → am_H → Prop} (h : am_H) (l0 l1 : Option am_V) : ex_ d 248 8 [l0, l1] [] h Q ↔ Q (none) h := by
  unfold ex_
  exact ((am_Y_ret rfl rfl rfl).trans (am_rz rfl))

theorem b_X12_readIf_16 {d : Nat} {Q : Option am_V → am_H → Prop} (h : am_H) (l1 : Option am_V) (Lh : Lay h) : ex_ (d + 1) 248 16 [some (v_r (some 93)), l1] [] h Q ↔ ex_ d 240 0 [some (v_r (some 93)), some (v_i (10 : Int32))] [] h (fun r h' => ex_ (d + 1) 248 22 [some (v_r (some 93)), l1] (r.toList ++ []) h' Q) := by
  unfold ex_
  refine (am_Y_go 2 (ok := []) (g := (19, [some (v_r (some 93)), l1], [v_i (10 : Int32), v_r (some 93)], h)) rfl).trans ?_
  all_goals exact ((am_Y_call (j := 240) (na := 2) (ci := 12) (fl := 0) rfl rfl rfl).trans (cj_d ⟨⟨Nat.le_of_ble_eq_true rfl, Nat.le_of_ble_eq_true rfl, Nat.le_of_ble_eq_true rfl, rfl⟩, Or.inr (Or.inr (show (12 : Nat) < 20 ∧ am_is h (some 93) 12 from ⟨by decide, (la_is Lh (o := 93) rfl)⟩))⟩ Iff.rfl))

theorem b_X12_readIf_22 {d : Nat} {Q : Option am_V → am_H → Prop} (h : am_H) (s0 : Int32) (l0 l1 : Option am_V) : ex_ d 248 22 [l0, l1] [v_i s0] h Q ↔ if ¬ s0 = 0 then ex_ d 248 30 [l0, l1] [] h Q else ex_ d 248 25 [l0, l1] [] h Q := by
  unfold ex_
  refine (am_Y_go 1 (ok := []) (g := (if ¬ s0 = 0 then 30 else 25, [l0, l1], [], h)) rfl).trans ?_
  all_goals exact am_Y_if

theorem b_X12_readIf_30 {d : Nat} {Q : Option am_V → am_H → Prop} (h : am_H) (x1 : Int32) (Lh : Lay h) : ex_ (d + 1) 248 30 [some (v_r (some 93)), some (v_i x1)] [] h Q ↔ ex_ d 249 0 [some (v_r (some 93)), some (v_i (x1 + (1 : Int32))), none] [] h (fun r h' => ex_ (d + 1) 248 37 [some (v_r (some 93)), some (v_i x1)] (r.toList ++ []) h' Q) := by
  unfold ex_
  refine (am_Y_go 4 (ok := []) (g := (34, [some (v_r (some 93)), some (v_i x1)], [v_i (x1 + (1 : Int32)), v_r (some 93)], h)) rfl).trans ?_
  all_goals exact ((am_Y_call (j := 249) (na := 2) (ci := 12) (fl := 0) rfl rfl rfl).trans (cj_d ⟨⟨Nat.le_of_ble_eq_true rfl, Nat.le_of_ble_eq_true rfl, Nat.le_of_ble_eq_true rfl, rfl⟩, Or.inr (Or.inr (show (12 : Nat) < 20 ∧ am_is h (some 93) 12 from ⟨by decide, (la_is Lh (o := 93) rfl)⟩))⟩ Iff.rfl))

theorem b_X12_readIf_25 {d : Nat} {Q : Option am_V → am_H → Prop} (h : am_H) (l1 : Option am_V) (Lh : Lay h) : ex_ (d + 1) 248 25 [some (v_r (some 93)), l1] [] h Q ↔ ex_ d 238 0 [some (v_r (some 93)), some (v_i (2 : Int32))] [] h (fun r h' => ex_ (d + 1) 248 30 [some (v_r (some 93)), l1] (r.toList ++ []) h' Q) := by
  unfold ex_
  refine (am_Y_go 2 (ok := []) (g := (27, [some (v_r (some 93)), l1], [v_i (2 : Int32), v_r (some 93)], h)) rfl).trans ?_
  all_goals exact ((am_Y_call (j := 238) (na := 2) (ci := 12) (fl := 0) rfl rfl rfl).trans (cj_d ⟨⟨Nat.le_of_ble_eq_true rfl, Nat.le_of_ble_eq_true rfl, Nat.le_of_ble_eq_true rfl, rfl⟩, Or.inr (Or.inr (show (12 : Nat) < 20 ∧ am_is h (some 93) 12 from ⟨by decide, (la_is Lh (o := 93) rfl)⟩))⟩ Iff.rfl))

theorem b_X12_readIf_37 {d : Nat} {Q : Option am_V → am_H → Prop} (h : am_H) (l1 : Option am_V) (Lh : Lay h) : ex_ (d + 1) 248 37 [some (v_r (some 93)), l1] [] h Q ↔ ex_ d 240 0 [some (v_r (some 93)), some (v_i (11 : Int32))] [] h (fun r h' => ex_ (d + 1) 248 43 [some (v_r (some 93)), l1] (r.toList ++ []) h' Q) := by
  unfold ex_
  refine (am_Y_go 2 (ok := []) (g := (40, [some (v_r (some 93)), l1], [v_i (11 : Int32), v_r (some 93)], h)) rfl).trans ?_
  all_goals exact ((am_Y_call (j := 240) (na := 2) (ci := 12) (fl := 0) rfl rfl rfl).trans (cj_d ⟨⟨Nat.le_of_ble_eq_true rfl, Nat.le_of_ble_eq_true rfl, Nat.le_of_ble_eq_true rfl, rfl⟩, Or.inr (Or.inr (show (12 : Nat) < 20 ∧ am_is h (some 93) 12 from ⟨by decide, (la_is Lh (o := 93) rfl)⟩))⟩ Iff.rfl))

theorem b_X12_readIf_43 {d : Nat} {Q : Option am_V → am_H → Prop} (h : am_H) (s0 : Int32) (l0 l1 : Option am_V) : ex_ d 248 43 [l0, l1] [v_i s0] h Q ↔ if ¬ s0 = 0 then ex_ d 248 51 [l0, l1] [] h Q else ex_ d 248 46 [l0, l1] [] h Q := by
  unfold ex_
  refine (am_Y_go 1 (ok := []) (g := (if ¬ s0 = 0 then 51 else 46, [l0, l1], [], h)) rfl).trans ?_
  all_goals exact am_Y_if

theorem b_X12_readIf_51 {d : Nat} {Q : Option am_V → am_H → Prop} (h : am_H) (x1 : Int32) (Lh : Lay h) : ex_ (d + 1) 248 51 [some (v_r (some 93)), some (v_i x1)] [] h Q ↔ ex_ d 249 0 [some (v_r (some 93)), some (v_i (x1 + (1 : Int32))), none] [] h (fun r h' => ex_ (d + 1) 248 58 [some (v_r (some 93)), some (v_i x1)] (r.toList ++ []) h' Q) := by
  unfold ex_
  refine (am_Y_go 4 (ok := []) (g := (55, [some (v_r (some 93)), some (v_i x1)], [v_i (x1 + (1 : Int32)), v_r (some 93)], h)) rfl).trans ?_
  all_goals exact ((am_Y_call (j := 249) (na := 2) (ci := 12) (fl := 0) rfl rfl rfl).trans (cj_d ⟨⟨Nat.le_of_ble_eq_true rfl, Nat.le_of_ble_eq_true rfl, Nat.le_of_ble_eq_true rfl, rfl⟩, Or.inr (Or.inr (show (12 : Nat) < 20 ∧ am_is h (some 93) 12 from ⟨by decide, (la_is Lh (o := 93) rfl)⟩))⟩ Iff.rfl))

theorem b_X12_readIf_46 {d : Nat} {Q : Option am_V → am_H → Prop} (h : am_H) (l1 : Option am_V) (Lh : Lay h) : ex_ (d + 1) 248 46 [some (v_r (some 93)), l1] [] h Q ↔ ex_ d 238 0 [some (v_r (some 93)), some (v_i (2 : Int32))] [] h (fun r h' => ex_ (d + 1) 248 51 [some (v_r (some 93)), l1] (r.toList ++ []) h' Q) := by
  unfold ex_
  refine (am_Y_go 2 (ok := []) (g := (48, [some (v_r (some 93)), l1], [v_i (2 : Int32), v_r (some 93)], h)) rfl).trans ?_
  all_goals exact ((am_Y_call (j := 238) (na := 2) (ci := 12) (fl := 0) rfl rfl rfl).trans (cj_d ⟨⟨Nat.le_of_ble_eq_true rfl, Nat.le_of_ble_eq_true rfl, Nat.le_of_ble_eq_true rfl, rfl⟩, Or.inr (Or.inr (show (12 : Nat) < 20 ∧ am_is h (some 93) 12 from ⟨by decide, (la_is Lh (o := 93) rfl)⟩))⟩ Iff.rfl))

theorem b_X12_readIf_58 {d : Nat} {Q : Option am_V → am_H → Prop} (h : am_H) (l1 : Option am_V) (Lh : Lay h) : ex_ (d + 1) 248 58 [some (v_r (some 93)), l1] [] h Q ↔ ex_ d 240 0 [some (v_r (some 93)), some (v_i (12 : Int32))] [] h (fun r h' => ex_ (d + 1) 248 64 [some (v_r (some 93)), l1] (r.toList ++ []) h' Q) := by
  unfold ex_
  refine (am_Y_go 2 (ok := []) (g := (61, [some (v_r (some 93)), l1], [v_i (12 : Int32), v_r (some 93)], h)) rfl).trans ?_
  all_goals exact ((am_Y_call (j := 240) (na := 2) (ci := 12) (fl := 0) rfl rfl rfl).trans (cj_d ⟨⟨Nat.le_of_ble_eq_true rfl, Nat.le_of_ble_eq_true rfl, Nat.le_of_ble_eq_true rfl, rfl⟩, Or.inr (Or.inr (show (12 : Nat) < 20 ∧ am_is h (some 93) 12 from ⟨by decide, (la_is Lh (o := 93) rfl)⟩))⟩ Iff.rfl))

theorem b_X12_readIf_64 {d : Nat} {Q : Option am_V → am_H → Prop} (h : am_H) (s0 : Int32) (l0 l1 : Option am_V) : ex_ d 248 64 [l0, l1] [v_i s0] h Q ↔ if ¬ s0 = 0 then ex_ d 248 72 [l0, l1] [] h Q else ex_ d 248 67 [l0, l1] [] h Q := by
  unfold ex_
  refine (am_Y_go 1 (ok := []) (g := (if ¬ s0 = 0 then 72 else 67, [l0, l1], [], h)) rfl).trans ?_
  all_goals exact am_Y_if

theorem b_X12_readIf_72 {d : Nat} {Q : Option am_V → am_H → Prop} (h : am_H) (l1 : Option am_V) (Lh : Lay h) : ex_ (d + 1) 248 72 [some (v_r (some 93)), l1] [] h Q ↔ ex_ d 244 0 [some (v_r (some 93)), some (v_i (3009 : Int32))] [] h (fun r h' => ex_ (d + 1) 248 79 [some (v_r (some 93)), l1] (r.toList ++ []) h' Q) := by
  unfold ex_
  refine (am_Y_go 2 (ok := []) (g := (76, [some (v_r (some 93)), l1], [v_i (3009 : Int32), v_r (some 93)], h)) rfl).trans ?_
  all_goals exact ((am_Y_call (j := 244) (na := 2) (ci := 12) (fl := 0) rfl rfl rfl).trans (cj_d ⟨⟨Nat.le_of_ble_eq_true rfl, Nat.le_of_ble_eq_true rfl, Nat.le_of_ble_eq_true rfl, rfl⟩, Or.inr (Or.inr (show (12 : Nat) < 20 ∧ am_is h (some 93) 12 from ⟨by decide, (la_is Lh (o := 93) rfl)⟩))⟩ Iff.rfl))

theorem b_X12_readIf_67 {d : Nat} {Q : Option am_V → am_H → Prop} (h : am_H) (l1 : Option am_V) (Lh : Lay h) : ex_ (d + 1) 248 67 [some (v_r (some 93)), l1] [] h Q ↔ ex_ d 238 0 [some (v_r (some 93)), some (v_i (2 : Int32))] [] h (fun r h' => ex_ (d + 1) 248 72 [some (v_r (some 93)), l1] (r.toList ++ []) h' Q) := by
  unfold ex_
  refine (am_Y_go 2 (ok := []) (g := (69, [some (v_r (some 93)), l1], [v_i (2 : Int32), v_r (some 93)], h)) rfl).trans ?_
  all_goals exact ((am_Y_call (j := 238) (na := 2) (ci := 12) (fl := 0) rfl rfl rfl).trans (cj_d ⟨⟨Nat.le_of_ble_eq_true rfl, Nat.le_of_ble_eq_true rfl, Nat.le_of_ble_eq_true rfl, rfl⟩, Or.inr (Or.inr (show (12 : Nat) < 20 ∧ am_is h (some 93) 12 from ⟨by decide, (la_is Lh (o := 93) rfl)⟩))⟩ Iff.rfl))

theorem b_X12_readIf_79 {d : Nat} {Q : Option am_V → am_H → Prop} (h : am_H) (l0 l1 : Option am_V) : ex_ d 248 79 [l0, l1] [] h Q ↔ Q (none) h := by
  unfold ex_
  exact ((am_Y_ret rfl rfl rfl).trans (am_rz rfl))

theorem b_X12_readSum_0 {d : Nat} {Q : Option am_V → am_H → Prop} (h : am_H) (x1 : Int32) (l2 : Option am_V) (Lh : Lay h) : ex_ (d + 1) 249 0 [some (v_r (some 93)), some (v_i x1), l2] [] h Q ↔ ex_ d 250 0 [some (v_r (some 93)), some (v_i x1)] [] h (fun r h' => ex_ (d + 1) 249 5 [some (v_r (some 93)), some (v_i x1), l2] (r.toList ++ []) h' Q) := by
  unfold ex_
  refine (am_Y_go 2 (ok := []) (g := (2, [some (v_r (some 93)), some (v_i x1), l2], [v_i x1, v_r (some 93)], h)) rfl).trans ?_
  all_goals exact ((am_Y_call (j := 250) (na := 2) (ci := 12) (fl := 0) rfl rfl rfl).trans (cj_d ⟨⟨Nat.le_of_ble_eq_true rfl, Nat.le_of_ble_eq_true rfl, Nat.le_of_ble_eq_true rfl, rfl⟩, Or.inr (Or.inr (show (12 : Nat) < 20 ∧ am_is h (some 93) 12 from ⟨by decide, (la_is Lh (o := 93) rfl)⟩))⟩ Iff.rfl))

theorem b_X12_readSum_5 {d : Nat} {Q : Option am_V → am_H → Prop} (h : am_H) (l1 l2 : Option am_V) (Lh : Lay h) : ex_ (d + 1) 249 5 [some (v_r (some 93)), l1, l2] [] h Q ↔ ex_ d 239 0 [some (v_r (some 93)), some (v_i (32 : Int32))] [] h (fun r h' => ex_ (d + 1) 249 11 [some (v_r (some 93)), l1, l2] (r.toList ++ []) h' Q) := by
  unfold ex_
  refine (am_Y_go 2 (ok := []) (g := (8, [some (v_r (some 93)), l1, l2], [v_i (32 : Int32), v_r (some 93)], h)) rfl).trans ?_
  all_goals exact ((am_Y_call (j := 239) (na := 2) (ci := 12) (fl := 0) rfl rfl rfl).trans (cj_d ⟨⟨Nat.le_of_ble_eq_true rfl, Nat.le_of_ble_eq_true rfl, Nat.le_of_ble_eq_true rfl, rfl⟩, Or.inr (Or.inr (show (12 : Nat) < 20 ∧ am_is h (some 93) 12 from ⟨by decide, (la_is Lh (o := 93) rfl)⟩))⟩ Iff.rfl))

theorem b_X12_readSum_11 {d : Nat} {Q : Option am_V → am_H → Prop} (h : am_H) (s0 : Int32) (l0 l1 l2 : Option am_V) : ex_ d 249 11 [l0, l1, l2] [v_i s0] h Q ↔ if ¬ s0 = 0 then ex_ d 249 23 [l0, l1, l2] [] h Q else ex_ d 249 14 [l0, l1, l2] [] h Q := by
  unfold ex_
  refine (am_Y_go 1 (ok := []) (g := (if ¬ s0 = 0 then 23 else 14, [l0, l1, l2], [], h)) rfl).trans ?_
  all_goals exact am_Y_if

theorem b_X12_readSum_23 {d : Nat} {Q : Option am_V → am_H → Prop} (h : am_H) (l1 l2 : Option am_V) (Lh : Lay h) : ex_ d 249 23 [some (v_r (some 93)), l1, l2] [] h Q ↔ if ¬ (h_i h 93 9) = (32 : Int32) then ex_ d 249 38 [some (v_r (some 93)), l1, l2] [] h Q else ex_ d 249 32 [some (v_r (some 93)), l1, l2] [] h Q := by
  unfold ex_
  refine (am_Y_go 4 (ok := [am_is h (some 93) 12]) (g := (if ¬ (h_i h 93 9) = (32 : Int32) then 38 else 32, [some (v_r (some 93)), l1, l2], [], h)) rfl).trans ?_
  simp only [am_all]
  all_goals exact cj_d (la_is Lh (o := 93) rfl) (am_Y_if)

theorem b_X12_readSum_14 {d : Nat} {Q : Option am_V → am_H → Prop} (h : am_H) (l1 l2 : Option am_V) (Lh : Lay h) : ex_ (d + 1) 249 14 [some (v_r (some 93)), l1, l2] [] h Q ↔ ex_ d 239 0 [some (v_r (some 93)), some (v_i (33 : Int32))] [] h (fun r h' => ex_ (d + 1) 249 20 [some (v_r (some 93)), l1, l2] (r.toList ++ []) h' Q) := by
  unfold ex_
  refine (am_Y_go 2 (ok := []) (g := (17, [some (v_r (some 93)), l1, l2], [v_i (33 : Int32), v_r (some 93)], h)) rfl).trans ?_
  all_goals exact ((am_Y_call (j := 239) (na := 2) (ci := 12) (fl := 0) rfl rfl rfl).trans (cj_d ⟨⟨Nat.le_of_ble_eq_true rfl, Nat.le_of_ble_eq_true rfl, Nat.le_of_ble_eq_true rfl, rfl⟩, Or.inr (Or.inr (show (12 : Nat) < 20 ∧ am_is h (some 93) 12 from ⟨by decide, (la_is Lh (o := 93) rfl)⟩))⟩ Iff.rfl))

theorem b_X12_readSum_38 {d : Nat} {Q : Option am_V → am_H → Prop} (h : am_H) (l1 l2 : Option am_V) (Lh : Lay h) : ex_ (d + 1) 249 38 [some (v_r (some 93)), l1, l2] [] h Q ↔ ex_ d 237 0 [some (v_r (some 93)), none] [] h (fun r h' => ex_ (d + 1) 249 46 [some (v_r (some 93)), l1, some (v_i (3001 : Int32))] (r.toList ++ []) h' Q) := by
  unfold ex_
  refine (am_Y_go 3 (ok := []) (g := (43, [some (v_r (some 93)), l1, some (v_i (3001 : Int32))], [v_r (some 93)], h)) rfl).trans ?_
  all_goals exact ((am_Y_call (j := 237) (na := 1) (ci := 12) (fl := 0) rfl rfl rfl).trans (cj_d ⟨⟨Nat.le_of_ble_eq_true rfl, Nat.le_of_ble_eq_true rfl, Nat.le_of_ble_eq_true rfl, rfl⟩, Or.inr (Or.inr (show (12 : Nat) < 20 ∧ am_is h (some 93) 12 from ⟨by decide, (la_is Lh (o := 93) rfl)⟩))⟩ Iff.rfl))

theorem b_X12_readSum_32 {d : Nat} {Q : Option am_V → am_H → Prop} (h : am_H) (l1 l2 : Option am_V) (Lh : Lay h) : ex_ (d + 1) 249 32 [some (v_r (some 93)), l1, l2] [] h Q ↔ ex_ d 237 0 [some (v_r (some 93)), none] [] h (fun r h' => ex_ (d + 1) 249 46 [some (v_r (some 93)), l1, some (v_i (3000 : Int32))] (r.toList ++ []) h' Q) := by
  unfold ex_
  refine (am_Y_go 4 (ok := []) (g := (43, [some (v_r (some 93)), l1, some (v_i (3000 : Int32))], [v_r (some 93)], h)) rfl).trans ?_
  all_goals exact ((am_Y_call (j := 237) (na := 1) (ci := 12) (fl := 0) rfl rfl rfl).trans (cj_d ⟨⟨Nat.le_of_ble_eq_true rfl, Nat.le_of_ble_eq_true rfl, Nat.le_of_ble_eq_true rfl, rfl⟩, Or.inr (Or.inr (show (12 : Nat) < 20 ∧ am_is h (some 93) 12 from ⟨by decide, (la_is Lh (o := 93) rfl)⟩))⟩ Iff.rfl))

theorem b_X12_readSum_20 {d : Nat} {Q : Option am_V → am_H → Prop} (h : am_H) (s0 : Int32) (l0 l1 l2 : Option am_V) : ex_ d 249 20 [l0, l1, l2] [v_i s0] h Q ↔ if s0 = 0 then ex_ d 249 59 [l0, l1, l2] [] h Q else ex_ d 249 23 [l0, l1, l2] [] h Q := by
  unfold ex_
  refine (am_Y_go 1 (ok := []) (g := (if s0 = 0 then 59 else 23, [l0, l1, l2], [], h)) rfl).trans ?_
  all_goals exact am_Y_if

theorem b_X12_readSum_46 {d : Nat} {Q : Option am_V → am_H → Prop} (h : am_H) (x1 : Int32) (l2 : Option am_V) (Lh : Lay h) : ex_ (d + 1) 249 46 [some (v_r (some 93)), some (v_i x1), l2] [] h Q ↔ ex_ d 250 0 [some (v_r (some 93)), some (v_i x1)] [] h (fun r h' => ex_ (d + 1) 249 51 [some (v_r (some 93)), some (v_i x1), l2] (r.toList ++ []) h' Q) := by
  unfold ex_
  refine (am_Y_go 2 (ok := []) (g := (48, [some (v_r (some 93)), some (v_i x1), l2], [v_i x1, v_r (some 93)], h)) rfl).trans ?_
  all_goals exact ((am_Y_call (j := 250) (na := 2) (ci := 12) (fl := 0) rfl rfl rfl).trans (cj_d ⟨⟨Nat.le_of_ble_eq_true rfl, Nat.le_of_ble_eq_true rfl, Nat.le_of_ble_eq_true rfl, rfl⟩, Or.inr (Or.inr (show (12 : Nat) < 20 ∧ am_is h (some 93) 12 from ⟨by decide, (la_is Lh (o := 93) rfl)⟩))⟩ Iff.rfl))

theorem b_X12_readSum_59 {d : Nat} {Q : Option am_V → am_H → Prop} (h : am_H) (l0 l1 l2 : Option am_V) : ex_ d 249 59 [l0, l1, l2] [] h Q ↔ Q (none) h := by
  unfold ex_
  exact ((am_Y_ret rfl rfl rfl).trans (am_rz rfl))

theorem b_X12_readSum_51 {d : Nat} {Q : Option am_V → am_H → Prop} (h : am_H) (x2 : Int32) (l1 : Option am_V) (Lh : Lay h) : ex_ (d + 1) 249 51 [some (v_r (some 93)), l1, some (v_i x2)] [] h Q ↔ ex_ d 244 0 [some (v_r (some 93)), some (v_i x2)] [] h (fun r h' => ex_ (d + 1) 249 56 [some (v_r (some 93)), l1, some (v_i x2)] (r.toList ++ []) h' Q) := by
  unfold ex_
  refine (am_Y_go 2 (ok := []) (g := (53, [some (v_r (some 93)), l1, some (v_i x2)], [v_i x2, v_r (some 93)], h)) rfl).trans ?_
  all_goals exact ((am_Y_call (j := 244) (na := 2) (ci := 12) (fl := 0) rfl rfl rfl).trans (cj_d ⟨⟨Nat.le_of_ble_eq_true rfl, Nat.le_of_ble_eq_true rfl, Nat.le_of_ble_eq_true rfl, rfl⟩, Or.inr (Or.inr (show (12 : Nat) < 20 ∧ am_is h (some 93) 12 from ⟨by decide, (la_is Lh (o := 93) rfl)⟩))⟩ Iff.rfl))

theorem b_X12_readSum_56 {d : Nat} {Q : Option am_V → am_H → Prop} (h : am_H) (l0 l1 l2 : Option am_V) : ex_ d 249 56 [l0, l1, l2] [] h Q ↔ ex_ d 249 5 [l0, l1, l2] [] h Q := by
  unfold ex_
  refine (am_Y_go 1 (ok := []) (g := (5, [l0, l1, l2], [], h)) rfl).trans ?_
  all_goals exact Iff.rfl

theorem b_X12_readTerm_0 {d : Nat} {Q : Option am_V → am_H → Prop} (h : am_H) (x1 : Int32) (Lh : Lay h) : ex_ (d + 1) 250 0 [some (v_r (some 93)), some (v_i x1)] [] h Q ↔ ex_ d 246 0 [some (v_r (some 93)), some (v_i x1)] [] h (fun r h' => ex_ (d + 1) 250 5 [some (v_r (some 93)), some (v_i x1)] (r.toList ++ []) h' Q) := by
  unfold ex_
  refine (am_Y_go 2 (ok := []) (g := (2, [some (v_r (some 93)), some (v_i x1)], [v_i x1, v_r (some 93)], h)) rfl).trans ?_
  all_goals exact ((am_Y_call (j := 246) (na := 2) (ci := 12) (fl := 0) rfl rfl rfl).trans (cj_d ⟨⟨Nat.le_of_ble_eq_true rfl, Nat.le_of_ble_eq_true rfl, Nat.le_of_ble_eq_true rfl, rfl⟩, Or.inr (Or.inr (show (12 : Nat) < 20 ∧ am_is h (some 93) 12 from ⟨by decide, (la_is Lh (o := 93) rfl)⟩))⟩ Iff.rfl))

theorem b_X12_readTerm_5 {d : Nat} {Q : Option am_V → am_H → Prop} (h : am_H) (l1 : Option am_V) (Lh : Lay h) : ex_ (d + 1) 250 5 [some (v_r (some 93)), l1] [] h Q ↔ ex_ d 240 0 [some (v_r (some 93)), some (v_i (34 : Int32))] [] h (fun r h' => ex_ (d + 1) 250 11 [some (v_r (some 93)), l1] (r.toList ++ []) h' Q) := by
  unfold ex_
  refine (am_Y_go 2 (ok := []) (g := (8, [some (v_r (some 93)), l1], [v_i (34 : Int32), v_r (some 93)], h)) rfl).trans ?_
  all_goals exact ((am_Y_call (j := 240) (na := 2) (ci := 12) (fl := 0) rfl rfl rfl).trans (cj_d ⟨⟨Nat.le_of_ble_eq_true rfl, Nat.le_of_ble_eq_true rfl, Nat.le_of_ble_eq_true rfl, rfl⟩, Or.inr (Or.inr (show (12 : Nat) < 20 ∧ am_is h (some 93) 12 from ⟨by decide, (la_is Lh (o := 93) rfl)⟩))⟩ Iff.rfl))

theorem b_X12_readTerm_11 {d : Nat} {Q : Option am_V → am_H → Prop} (h : am_H) (s0 : Int32) (l0 l1 : Option am_V) : ex_ d 250 11 [l0, l1] [v_i s0] h Q ↔ if s0 = 0 then ex_ d 250 29 [l0, l1] [] h Q else ex_ d 250 14 [l0, l1] [] h Q := by
  unfold ex_
  refine (am_Y_go 1 (ok := []) (g := (if s0 = 0 then 29 else 14, [l0, l1], [], h)) rfl).trans ?_
  all_goals exact am_Y_if

theorem b_X12_readTerm_29 {d : Nat} {Q : Option am_V → am_H → Prop} (h : am_H) (l0 l1 : Option am_V) : ex_ d 250 29 [l0, l1] [] h Q ↔ Q (none) h := by
  unfold ex_
  exact ((am_Y_ret rfl rfl rfl).trans (am_rz rfl))

theorem b_X12_readTerm_14 {d : Nat} {Q : Option am_V → am_H → Prop} (h : am_H) (x1 : Int32) (Lh : Lay h) : ex_ (d + 1) 250 14 [some (v_r (some 93)), some (v_i x1)] [] h Q ↔ ex_ d 246 0 [some (v_r (some 93)), some (v_i x1)] [] h (fun r h' => ex_ (d + 1) 250 19 [some (v_r (some 93)), some (v_i x1)] (r.toList ++ []) h' Q) := by
  unfold ex_
  refine (am_Y_go 2 (ok := []) (g := (16, [some (v_r (some 93)), some (v_i x1)], [v_i x1, v_r (some 93)], h)) rfl).trans ?_
  all_goals exact ((am_Y_call (j := 246) (na := 2) (ci := 12) (fl := 0) rfl rfl rfl).trans (cj_d ⟨⟨Nat.le_of_ble_eq_true rfl, Nat.le_of_ble_eq_true rfl, Nat.le_of_ble_eq_true rfl, rfl⟩, Or.inr (Or.inr (show (12 : Nat) < 20 ∧ am_is h (some 93) 12 from ⟨by decide, (la_is Lh (o := 93) rfl)⟩))⟩ Iff.rfl))

theorem b_X12_readTerm_19 {d : Nat} {Q : Option am_V → am_H → Prop} (h : am_H) (l1 : Option am_V) (Lh : Lay h) : ex_ (d + 1) 250 19 [some (v_r (some 93)), l1] [] h Q ↔ ex_ d 244 0 [some (v_r (some 93)), some (v_i (3002 : Int32))] [] h (fun r h' => ex_ (d + 1) 250 26 [some (v_r (some 93)), l1] (r.toList ++ []) h' Q) := by
  unfold ex_
  refine (am_Y_go 2 (ok := []) (g := (23, [some (v_r (some 93)), l1], [v_i (3002 : Int32), v_r (some 93)], h)) rfl).trans ?_
  all_goals exact ((am_Y_call (j := 244) (na := 2) (ci := 12) (fl := 0) rfl rfl rfl).trans (cj_d ⟨⟨Nat.le_of_ble_eq_true rfl, Nat.le_of_ble_eq_true rfl, Nat.le_of_ble_eq_true rfl, rfl⟩, Or.inr (Or.inr (show (12 : Nat) < 20 ∧ am_is h (some 93) 12 from ⟨by decide, (la_is Lh (o := 93) rfl)⟩))⟩ Iff.rfl))

theorem b_X12_readTerm_26 {d : Nat} {Q : Option am_V → am_H → Prop} (h : am_H) (l0 l1 : Option am_V) : ex_ d 250 26 [l0, l1] [] h Q ↔ ex_ d 250 5 [l0, l1] [] h Q := by
  unfold ex_
  refine (am_Y_go 1 (ok := []) (g := (5, [l0, l1], [], h)) rfl).trans ?_
  all_goals exact Iff.rfl

theorem b_X12_readTruth_0 {d : Nat} {Q : Option am_V → am_H → Prop} (h : am_H) (x1 : Int32) (Lh : Lay h) : ex_ (d + 1) 251 0 [some (v_r (some 93)), some (v_i x1)] [] h Q ↔ ex_ d 247 0 [some (v_r (some 93)), some (v_i x1)] [] h (fun r h' => ex_ (d + 1) 251 5 [some (v_r (some 93)), some (v_i x1)] (r.toList ++ []) h' Q) := by
  unfold ex_
  refine (am_Y_go 2 (ok := []) (g := (2, [some (v_r (some 93)), some (v_i x1)], [v_i x1, v_r (some 93)], h)) rfl).trans ?_
  all_goals exact ((am_Y_call (j := 247) (na := 2) (ci := 12) (fl := 0) rfl rfl rfl).trans (cj_d ⟨⟨Nat.le_of_ble_eq_true rfl, Nat.le_of_ble_eq_true rfl, Nat.le_of_ble_eq_true rfl, rfl⟩, Or.inr (Or.inr (show (12 : Nat) < 20 ∧ am_is h (some 93) 12 from ⟨by decide, (la_is Lh (o := 93) rfl)⟩))⟩ Iff.rfl))

theorem b_X12_readTruth_5 {d : Nat} {Q : Option am_V → am_H → Prop} (h : am_H) (l1 : Option am_V) (Lh : Lay h) : ex_ (d + 1) 251 5 [some (v_r (some 93)), l1] [] h Q ↔ ex_ d 240 0 [some (v_r (some 93)), some (v_i (16 : Int32))] [] h (fun r h' => ex_ (d + 1) 251 11 [some (v_r (some 93)), l1] (r.toList ++ []) h' Q) := by
  unfold ex_
  refine (am_Y_go 2 (ok := []) (g := (8, [some (v_r (some 93)), l1], [v_i (16 : Int32), v_r (some 93)], h)) rfl).trans ?_
  all_goals exact ((am_Y_call (j := 240) (na := 2) (ci := 12) (fl := 0) rfl rfl rfl).trans (cj_d ⟨⟨Nat.le_of_ble_eq_true rfl, Nat.le_of_ble_eq_true rfl, Nat.le_of_ble_eq_true rfl, rfl⟩, Or.inr (Or.inr (show (12 : Nat) < 20 ∧ am_is h (some 93) 12 from ⟨by decide, (la_is Lh (o := 93) rfl)⟩))⟩ Iff.rfl))

theorem b_X12_readTruth_11 {d : Nat} {Q : Option am_V → am_H → Prop} (h : am_H) (s0 : Int32) (l0 l1 : Option am_V) : ex_ d 251 11 [l0, l1] [v_i s0] h Q ↔ if s0 = 0 then ex_ d 251 29 [l0, l1] [] h Q else ex_ d 251 14 [l0, l1] [] h Q := by
  unfold ex_
  refine (am_Y_go 1 (ok := []) (g := (if s0 = 0 then 29 else 14, [l0, l1], [], h)) rfl).trans ?_
  all_goals exact am_Y_if

theorem b_X12_readTruth_29 {d : Nat} {Q : Option am_V → am_H → Prop} (h : am_H) (l0 l1 : Option am_V) : ex_ d 251 29 [l0, l1] [] h Q ↔ Q (none) h := by
  unfold ex_
  exact ((am_Y_ret rfl rfl rfl).trans (am_rz rfl))

theorem b_X12_readTruth_14 {d : Nat} {Q : Option am_V → am_H → Prop} (h : am_H) (x1 : Int32) (Lh : Lay h) : ex_ (d + 1) 251 14 [some (v_r (some 93)), some (v_i x1)] [] h Q ↔ ex_ d 247 0 [some (v_r (some 93)), some (v_i x1)] [] h (fun r h' => ex_ (d + 1) 251 19 [some (v_r (some 93)), some (v_i x1)] (r.toList ++ []) h' Q) := by
  unfold ex_
  refine (am_Y_go 2 (ok := []) (g := (16, [some (v_r (some 93)), some (v_i x1)], [v_i x1, v_r (some 93)], h)) rfl).trans ?_
  all_goals exact ((am_Y_call (j := 247) (na := 2) (ci := 12) (fl := 0) rfl rfl rfl).trans (cj_d ⟨⟨Nat.le_of_ble_eq_true rfl, Nat.le_of_ble_eq_true rfl, Nat.le_of_ble_eq_true rfl, rfl⟩, Or.inr (Or.inr (show (12 : Nat) < 20 ∧ am_is h (some 93) 12 from ⟨by decide, (la_is Lh (o := 93) rfl)⟩))⟩ Iff.rfl))

theorem b_X12_readTruth_19 {d : Nat} {Q : Option am_V → am_H → Prop} (h : am_H) (l1 : Option am_V) (Lh : Lay h) : ex_ (d + 1) 251 19 [some (v_r (some 93)), l1] [] h Q ↔ ex_ d 244 0 [some (v_r (some 93)), some (v_i (3008 : Int32))] [] h (fun r h' => ex_ (d + 1) 251 26 [some (v_r (some 93)), l1] (r.toList ++ []) h' Q) := by
  unfold ex_
  refine (am_Y_go 2 (ok := []) (g := (23, [some (v_r (some 93)), l1], [v_i (3008 : Int32), v_r (some 93)], h)) rfl).trans ?_
  all_goals exact ((am_Y_call (j := 244) (na := 2) (ci := 12) (fl := 0) rfl rfl rfl).trans (cj_d ⟨⟨Nat.le_of_ble_eq_true rfl, Nat.le_of_ble_eq_true rfl, Nat.le_of_ble_eq_true rfl, rfl⟩, Or.inr (Or.inr (show (12 : Nat) < 20 ∧ am_is h (some 93) 12 from ⟨by decide, (la_is Lh (o := 93) rfl)⟩))⟩ Iff.rfl))

theorem b_X12_readTruth_26 {d : Nat} {Q : Option am_V → am_H → Prop} (h : am_H) (l0 l1 : Option am_V) : ex_ d 251 26 [l0, l1] [] h Q ↔ ex_ d 251 5 [l0, l1] [] h Q := by
  unfold ex_
  refine (am_Y_go 1 (ok := []) (g := (5, [l0, l1], [], h)) rfl).trans ?_
  all_goals exact Iff.rfl

theorem b_X12_readUnit_0 {d : Nat} {Q : Option am_V → am_H → Prop} (h : am_H) (l1 l2 : Option am_V) (Lh : Lay h) : ex_ (d + 1) 252 0 [some (v_r (some 93)), l1, l2] [] h Q ↔ ex_ d 239 0 [some (v_r (some 93)), some (v_i (17 : Int32))] [] h (fun r h' => ex_ (d + 1) 252 6 [some (v_r (some 93)), l1, l2] (r.toList ++ []) h' Q) := by
  unfold ex_
  refine (am_Y_go 2 (ok := []) (g := (3, [some (v_r (some 93)), l1, l2], [v_i (17 : Int32), v_r (some 93)], h)) rfl).trans ?_
  all_goals exact ((am_Y_call (j := 239) (na := 2) (ci := 12) (fl := 0) rfl rfl rfl).trans (cj_d ⟨⟨Nat.le_of_ble_eq_true rfl, Nat.le_of_ble_eq_true rfl, Nat.le_of_ble_eq_true rfl, rfl⟩, Or.inr (Or.inr (show (12 : Nat) < 20 ∧ am_is h (some 93) 12 from ⟨by decide, (la_is Lh (o := 93) rfl)⟩))⟩ Iff.rfl))

theorem b_X12_readUnit_6 {d : Nat} {Q : Option am_V → am_H → Prop} (h : am_H) (s0 : Int32) (l0 l1 l2 : Option am_V) : ex_ d 252 6 [l0, l1, l2] [v_i s0] h Q ↔ if s0 = 0 then ex_ d 252 33 [l0, l1, l2] [] h Q else ex_ d 252 9 [l0, l1, l2] [] h Q := by
  unfold ex_
  refine (am_Y_go 1 (ok := []) (g := (if s0 = 0 then 33 else 9, [l0, l1, l2], [], h)) rfl).trans ?_
  all_goals exact am_Y_if

theorem b_X12_readUnit_33 {d : Nat} {Q : Option am_V → am_H → Prop} (h : am_H) (l1 l2 : Option am_V) (Lh : Lay h) : ex_ (d + 1) 252 33 [some (v_r (some 93)), l1, l2] [] h Q ↔ ex_ d 239 0 [some (v_r (some 93)), some (v_i (37 : Int32))] [] h (fun r h' => ex_ (d + 1) 252 39 [some (v_r (some 93)), l1, l2] (r.toList ++ []) h' Q) := by
  unfold ex_
  refine (am_Y_go 2 (ok := []) (g := (36, [some (v_r (some 93)), l1, l2], [v_i (37 : Int32), v_r (some 93)], h)) rfl).trans ?_
  all_goals exact ((am_Y_call (j := 239) (na := 2) (ci := 12) (fl := 0) rfl rfl rfl).trans (cj_d ⟨⟨Nat.le_of_ble_eq_true rfl, Nat.le_of_ble_eq_true rfl, Nat.le_of_ble_eq_true rfl, rfl⟩, Or.inr (Or.inr (show (12 : Nat) < 20 ∧ am_is h (some 93) 12 from ⟨by decide, (la_is Lh (o := 93) rfl)⟩))⟩ Iff.rfl))

theorem b_X12_readUnit_9 {d : Nat} {Q : Option am_V → am_H → Prop} (h : am_H) (x1 : Int32) (l2 : Option am_V) (Lh : Lay h) : ex_ (d + 1) 252 9 [some (v_r (some 93)), some (v_i x1), l2] [] h Q ↔ ex_ d 245 0 [some (v_r (some 93)), some (v_i x1)] [] h (fun r h' => ex_ (d + 1) 252 14 [some (v_r (some 93)), some (v_i x1), l2] (r.toList ++ []) h' Q) := by
  unfold ex_
  refine (am_Y_go 2 (ok := []) (g := (11, [some (v_r (some 93)), some (v_i x1), l2], [v_i x1, v_r (some 93)], h)) rfl).trans ?_
  all_goals exact ((am_Y_call (j := 245) (na := 2) (ci := 12) (fl := 0) rfl rfl rfl).trans (cj_d ⟨⟨Nat.le_of_ble_eq_true rfl, Nat.le_of_ble_eq_true rfl, Nat.le_of_ble_eq_true rfl, rfl⟩, Or.inr (Or.inr (show (12 : Nat) < 20 ∧ am_is h (some 93) 12 from ⟨by decide, (la_is Lh (o := 93) rfl)⟩))⟩ Iff.rfl))

theorem b_X12_readUnit_39 {d : Nat} {Q : Option am_V → am_H → Prop} (h : am_H) (s0 : Int32) (l0 l1 l2 : Option am_V) : ex_ d 252 39 [l0, l1, l2] [v_i s0] h Q ↔ if s0 = 0 then ex_ d 252 73 [l0, l1, l2] [] h Q else ex_ d 252 42 [l0, l1, l2] [] h Q := by
  unfold ex_
  refine (am_Y_go 1 (ok := []) (g := (if s0 = 0 then 73 else 42, [l0, l1, l2], [], h)) rfl).trans ?_
  all_goals exact am_Y_if

theorem b_X12_readUnit_14 {d : Nat} {Q : Option am_V → am_H → Prop} (h : am_H) (s0 : Int32) (l0 l1 l2 : Option am_V) : ex_ d 252 14 [l0, l1, l2] [v_i s0] h Q ↔ if ¬ s0 = 0 then ex_ d 252 18 [l0, l1, l2] [] h Q else ex_ d 252 17 [l0, l1, l2] [] h Q := by
  unfold ex_
  refine (am_Y_go 1 (ok := []) (g := (if ¬ s0 = 0 then 18 else 17, [l0, l1, l2], [], h)) rfl).trans ?_
  all_goals exact am_Y_if

theorem b_X12_readUnit_73 {d : Nat} {Q : Option am_V → am_H → Prop} (h : am_H) (x1 : Int32) (l2 : Option am_V) (Lh : Lay h) : ex_ (d + 1) 252 73 [some (v_r (some 93)), some (v_i x1), l2] [] h Q ↔ ex_ d 249 0 [some (v_r (some 93)), some (v_i x1), none] [] h (fun r h' => ex_ (d + 1) 252 78 [some (v_r (some 93)), some (v_i x1), l2] (r.toList ++ []) h' Q) := by
  unfold ex_
  refine (am_Y_go 2 (ok := []) (g := (75, [some (v_r (some 93)), some (v_i x1), l2], [v_i x1, v_r (some 93)], h)) rfl).trans ?_
  all_goals exact ((am_Y_call (j := 249) (na := 2) (ci := 12) (fl := 0) rfl rfl rfl).trans (cj_d ⟨⟨Nat.le_of_ble_eq_true rfl, Nat.le_of_ble_eq_true rfl, Nat.le_of_ble_eq_true rfl, rfl⟩, Or.inr (Or.inr (show (12 : Nat) < 20 ∧ am_is h (some 93) 12 from ⟨by decide, (la_is Lh (o := 93) rfl)⟩))⟩ Iff.rfl))

theorem b_X12_readUnit_42 {d : Nat} {Q : Option am_V → am_H → Prop} (h : am_H) (x1 : Int32) (l2 : Option am_V) (Lh : Lay h) : ex_ (d + 1) 252 42 [some (v_r (some 93)), some (v_i x1), l2] [] h Q ↔ ex_ d 245 0 [some (v_r (some 93)), some (v_i x1)] [] h (fun r h' => ex_ (d + 1) 252 47 [some (v_r (some 93)), some (v_i x1), l2] (r.toList ++ []) h' Q) := by
  unfold ex_
  refine (am_Y_go 2 (ok := []) (g := (44, [some (v_r (some 93)), some (v_i x1), l2], [v_i x1, v_r (some 93)], h)) rfl).trans ?_
  all_goals exact ((am_Y_call (j := 245) (na := 2) (ci := 12) (fl := 0) rfl rfl rfl).trans (cj_d ⟨⟨Nat.le_of_ble_eq_true rfl, Nat.le_of_ble_eq_true rfl, Nat.le_of_ble_eq_true rfl, rfl⟩, Or.inr (Or.inr (show (12 : Nat) < 20 ∧ am_is h (some 93) 12 from ⟨by decide, (la_is Lh (o := 93) rfl)⟩))⟩ Iff.rfl))

theorem b_X12_readUnit_18 {d : Nat} {Q : Option am_V → am_H → Prop} (h : am_H) (x1 : Int32) (l2 : Option am_V) (Lh : Lay h) : ex_ (d + 1) 252 18 [some (v_r (some 93)), some (v_i x1), l2] [] h Q ↔ ex_ d 252 0 [some (v_r (some 93)), some (v_i (x1 + (1 : Int32))), none] [] h (fun r h' => ex_ (d + 1) 252 25 [some (v_r (some 93)), some (v_i x1), l2] (r.toList ++ []) h' Q) := by
  unfold ex_
  refine (am_Y_go 4 (ok := []) (g := (22, [some (v_r (some 93)), some (v_i x1), l2], [v_i (x1 + (1 : Int32)), v_r (some 93)], h)) rfl).trans ?_
  all_goals exact ((am_Y_call (j := 252) (na := 2) (ci := 12) (fl := 0) rfl rfl rfl).trans (cj_d ⟨⟨Nat.le_of_ble_eq_true rfl, Nat.le_of_ble_eq_true rfl, Nat.le_of_ble_eq_true rfl, rfl⟩, Or.inr (Or.inr (show (12 : Nat) < 20 ∧ am_is h (some 93) 12 from ⟨by decide, (la_is Lh (o := 93) rfl)⟩))⟩ Iff.rfl))

theorem b_X12_readUnit_17 {d : Nat} {Q : Option am_V → am_H → Prop} (h : am_H) (l0 l1 l2 : Option am_V) : ex_ d 252 17 [l0, l1, l2] [] h Q ↔ Q (none) h := by
  unfold ex_
  exact ((am_Y_ret rfl rfl rfl).trans (am_rz rfl))

theorem b_X12_readUnit_78 {d : Nat} {Q : Option am_V → am_H → Prop} (h : am_H) (l1 l2 : Option am_V) (Lh : Lay h) : ex_ (d + 1) 252 78 [some (v_r (some 93)), l1, l2] [] h Q ↔ ex_ d 239 0 [some (v_r (some 93)), some (v_i (39 : Int32))] [] h (fun r h' => ex_ (d + 1) 252 84 [some (v_r (some 93)), l1, l2] (r.toList ++ []) h' Q) := by
  unfold ex_
  refine (am_Y_go 2 (ok := []) (g := (81, [some (v_r (some 93)), l1, l2], [v_i (39 : Int32), v_r (some 93)], h)) rfl).trans ?_
  all_goals exact ((am_Y_call (j := 239) (na := 2) (ci := 12) (fl := 0) rfl rfl rfl).trans (cj_d ⟨⟨Nat.le_of_ble_eq_true rfl, Nat.le_of_ble_eq_true rfl, Nat.le_of_ble_eq_true rfl, rfl⟩, Or.inr (Or.inr (show (12 : Nat) < 20 ∧ am_is h (some 93) 12 from ⟨by decide, (la_is Lh (o := 93) rfl)⟩))⟩ Iff.rfl))

theorem b_X12_readUnit_47 {d : Nat} {Q : Option am_V → am_H → Prop} (h : am_H) (s0 : Int32) (l0 l1 l2 : Option am_V) : ex_ d 252 47 [l0, l1, l2] [v_i s0] h Q ↔ if ¬ s0 = 0 then ex_ d 252 51 [l0, l1, l2] [] h Q else ex_ d 252 50 [l0, l1, l2] [] h Q := by
  unfold ex_
  refine (am_Y_go 1 (ok := []) (g := (if ¬ s0 = 0 then 51 else 50, [l0, l1, l2], [], h)) rfl).trans ?_
  all_goals exact am_Y_if

theorem b_X12_readUnit_25 {d : Nat} {Q : Option am_V → am_H → Prop} (h : am_H) (l1 l2 : Option am_V) (Lh : Lay h) : ex_ (d + 1) 252 25 [some (v_r (some 93)), l1, l2] [] h Q ↔ ex_ d 244 0 [some (v_r (some 93)), some (v_i (3006 : Int32))] [] h (fun r h' => ex_ (d + 1) 252 32 [some (v_r (some 93)), l1, l2] (r.toList ++ []) h' Q) := by
  unfold ex_
  refine (am_Y_go 2 (ok := []) (g := (29, [some (v_r (some 93)), l1, l2], [v_i (3006 : Int32), v_r (some 93)], h)) rfl).trans ?_
  all_goals exact ((am_Y_call (j := 244) (na := 2) (ci := 12) (fl := 0) rfl rfl rfl).trans (cj_d ⟨⟨Nat.le_of_ble_eq_true rfl, Nat.le_of_ble_eq_true rfl, Nat.le_of_ble_eq_true rfl, rfl⟩, Or.inr (Or.inr (show (12 : Nat) < 20 ∧ am_is h (some 93) 12 from ⟨by decide, (la_is Lh (o := 93) rfl)⟩))⟩ Iff.rfl))

theorem b_X12_readUnit_84 {d : Nat} {Q : Option am_V → am_H → Prop} (h : am_H) (s0 : Int32) (l0 l1 l2 : Option am_V) : ex_ d 252 84 [l0, l1, l2] [v_i s0] h Q ↔ if s0 = 0 then ex_ d 252 93 [l0, l1, l2] [] h Q else ex_ d 252 87 [l0, l1, l2] [] h Q := by
  unfold ex_
  refine (am_Y_go 1 (ok := []) (g := (if s0 = 0 then 93 else 87, [l0, l1, l2], [], h)) rfl).trans ?_
  all_goals exact am_Y_if

theorem b_X12_readUnit_51 {d : Nat} {Q : Option am_V → am_H → Prop} (h : am_H) (x1 : Int32) (l2 : Option am_V) (Lh : Lay h) : ex_ (d + 1) 252 51 [some (v_r (some 93)), some (v_i x1), l2] [] h Q ↔ ex_ d 251 0 [some (v_r (some 93)), some (v_i (x1 + (1 : Int32)))] [] h (fun r h' => ex_ (d + 1) 252 58 [some (v_r (some 93)), some (v_i x1), l2] (r.toList ++ []) h' Q) := by
  unfold ex_
  refine (am_Y_go 4 (ok := []) (g := (55, [some (v_r (some 93)), some (v_i x1), l2], [v_i (x1 + (1 : Int32)), v_r (some 93)], h)) rfl).trans ?_
  all_goals exact ((am_Y_call (j := 251) (na := 2) (ci := 12) (fl := 0) rfl rfl rfl).trans (cj_d ⟨⟨Nat.le_of_ble_eq_true rfl, Nat.le_of_ble_eq_true rfl, Nat.le_of_ble_eq_true rfl, rfl⟩, Or.inr (Or.inr (show (12 : Nat) < 20 ∧ am_is h (some 93) 12 from ⟨by decide, (la_is Lh (o := 93) rfl)⟩))⟩ Iff.rfl))

theorem b_X12_readUnit_50 {d : Nat} {Q : Option am_V → am_H → Prop} (h : am_H) (l0 l1 l2 : Option am_V) : ex_ d 252 50 [l0, l1, l2] [] h Q ↔ Q (none) h := by
  unfold ex_
  exact ((am_Y_ret rfl rfl rfl).trans (am_rz rfl))

theorem b_X12_readUnit_32 {d : Nat} {Q : Option am_V → am_H → Prop} (h : am_H) (l0 l1 l2 : Option am_V) : ex_ d 252 32 [l0, l1, l2] [] h Q ↔ Q (none) h := by
  unfold ex_
  exact ((am_Y_ret rfl rfl rfl).trans (am_rz rfl))

theorem b_X12_readUnit_93 {d : Nat} {Q : Option am_V → am_H → Prop} (h : am_H) (l1 l2 : Option am_V) (Lh : Lay h) : ex_ (d + 1) 252 93 [some (v_r (some 93)), l1, l2] [] h Q ↔ ex_ d 239 0 [some (v_r (some 93)), some (v_i (40 : Int32))] [] h (fun r h' => ex_ (d + 1) 252 99 [some (v_r (some 93)), l1, l2] (r.toList ++ []) h' Q) := by
  unfold ex_
  refine (am_Y_go 2 (ok := []) (g := (96, [some (v_r (some 93)), l1, l2], [v_i (40 : Int32), v_r (some 93)], h)) rfl).trans ?_
  all_goals exact ((am_Y_call (j := 239) (na := 2) (ci := 12) (fl := 0) rfl rfl rfl).trans (cj_d ⟨⟨Nat.le_of_ble_eq_true rfl, Nat.le_of_ble_eq_true rfl, Nat.le_of_ble_eq_true rfl, rfl⟩, Or.inr (Or.inr (show (12 : Nat) < 20 ∧ am_is h (some 93) 12 from ⟨by decide, (la_is Lh (o := 93) rfl)⟩))⟩ Iff.rfl))

theorem b_X12_readUnit_87 {d : Nat} {Q : Option am_V → am_H → Prop} (h : am_H) (l1 l2 : Option am_V) (Lh : Lay h) : ex_ (d + 1) 252 87 [some (v_r (some 93)), l1, l2] [] h Q ↔ ex_ d 239 0 [some (v_r (some 93)), some (v_i (39 : Int32))] [] h (fun r h' => ex_ (d + 1) 252 118 [some (v_r (some 93)), l1, some (v_i (3003 : Int32))] (r.toList ++ []) h' Q) := by
  unfold ex_
  refine (am_Y_go 5 (ok := []) (g := (115, [some (v_r (some 93)), l1, some (v_i (3003 : Int32))], [v_i (39 : Int32), v_r (some 93)], h)) rfl).trans ?_
  all_goals exact ((am_Y_call (j := 239) (na := 2) (ci := 12) (fl := 0) rfl rfl rfl).trans (cj_d ⟨⟨Nat.le_of_ble_eq_true rfl, Nat.le_of_ble_eq_true rfl, Nat.le_of_ble_eq_true rfl, rfl⟩, Or.inr (Or.inr (show (12 : Nat) < 20 ∧ am_is h (some 93) 12 from ⟨by decide, (la_is Lh (o := 93) rfl)⟩))⟩ Iff.rfl))

theorem b_X12_readUnit_58 {d : Nat} {Q : Option am_V → am_H → Prop} (h : am_H) (l1 l2 : Option am_V) (Lh : Lay h) : ex_ (d + 1) 252 58 [some (v_r (some 93)), l1, l2] [] h Q ↔ ex_ d 240 0 [some (v_r (some 93)), some (v_i (38 : Int32))] [] h (fun r h' => ex_ (d + 1) 252 64 [some (v_r (some 93)), l1, l2] (r.toList ++ []) h' Q) := by
  unfold ex_
  refine (am_Y_go 2 (ok := []) (g := (61, [some (v_r (some 93)), l1, l2], [v_i (38 : Int32), v_r (some 93)], h)) rfl).trans ?_
  all_goals exact ((am_Y_call (j := 240) (na := 2) (ci := 12) (fl := 0) rfl rfl rfl).trans (cj_d ⟨⟨Nat.le_of_ble_eq_true rfl, Nat.le_of_ble_eq_true rfl, Nat.le_of_ble_eq_true rfl, rfl⟩, Or.inr (Or.inr (show (12 : Nat) < 20 ∧ am_is h (some 93) 12 from ⟨by decide, (la_is Lh (o := 93) rfl)⟩))⟩ Iff.rfl))

theorem b_X12_readUnit_99 {d : Nat} {Q : Option am_V → am_H → Prop} (h : am_H) (s0 : Int32) (l0 l1 l2 : Option am_V) : ex_ d 252 99 [l0, l1, l2] [v_i s0] h Q ↔ if s0 = 0 then ex_ d 252 108 [l0, l1, l2] [] h Q else ex_ d 252 102 [l0, l1, l2] [] h Q := by
  unfold ex_
  refine (am_Y_go 1 (ok := []) (g := (if s0 = 0 then 108 else 102, [l0, l1, l2], [], h)) rfl).trans ?_
  all_goals exact am_Y_if

theorem b_X12_readUnit_118 {d : Nat} {Q : Option am_V → am_H → Prop} (h : am_H) (s0 : Int32) (l0 l1 l2 : Option am_V) : ex_ d 252 118 [l0, l1, l2] [v_i s0] h Q ↔ if ¬ s0 = 0 then ex_ d 252 139 [l0, l1, l2] [] h Q else ex_ d 252 121 [l0, l1, l2] [] h Q := by
  unfold ex_
  refine (am_Y_go 1 (ok := []) (g := (if ¬ s0 = 0 then 139 else 121, [l0, l1, l2], [], h)) rfl).trans ?_
  all_goals exact am_Y_if

theorem b_X12_readUnit_64 {d : Nat} {Q : Option am_V → am_H → Prop} (h : am_H) (s0 : Int32) (l0 l1 l2 : Option am_V) : ex_ d 252 64 [l0, l1, l2] [v_i s0] h Q ↔ if ¬ s0 = 0 then ex_ d 252 72 [l0, l1, l2] [] h Q else ex_ d 252 67 [l0, l1, l2] [] h Q := by
  unfold ex_
  refine (am_Y_go 1 (ok := []) (g := (if ¬ s0 = 0 then 72 else 67, [l0, l1, l2], [], h)) rfl).trans ?_
  all_goals exact am_Y_if

theorem b_X12_readUnit_108 {d : Nat} {Q : Option am_V → am_H → Prop} (h : am_H) (l1 l2 : Option am_V) (Lh : Lay h) : ex_ (d + 1) 252 108 [some (v_r (some 93)), l1, l2] [] h Q ↔ ex_ d 239 0 [some (v_r (some 93)), some (v_i (39 : Int32))] [] h (fun r h' => ex_ (d + 1) 252 118 [some (v_r (some 93)), l1, some (v_i (3005 : Int32))] (r.toList ++ []) h' Q) := by
  unfold ex_
  refine (am_Y_go 4 (ok := []) (g := (115, [some (v_r (some 93)), l1, some (v_i (3005 : Int32))], [v_i (39 : Int32), v_r (some 93)], h)) rfl).trans ?_
  all_goals exact ((am_Y_call (j := 239) (na := 2) (ci := 12) (fl := 0) rfl rfl rfl).trans (cj_d ⟨⟨Nat.le_of_ble_eq_true rfl, Nat.le_of_ble_eq_true rfl, Nat.le_of_ble_eq_true rfl, rfl⟩, Or.inr (Or.inr (show (12 : Nat) < 20 ∧ am_is h (some 93) 12 from ⟨by decide, (la_is Lh (o := 93) rfl)⟩))⟩ Iff.rfl))

theorem b_X12_readUnit_102 {d : Nat} {Q : Option am_V → am_H → Prop} (h : am_H) (l1 l2 : Option am_V) (Lh : Lay h) : ex_ (d + 1) 252 102 [some (v_r (some 93)), l1, l2] [] h Q ↔ ex_ d 239 0 [some (v_r (some 93)), some (v_i (39 : Int32))] [] h (fun r h' => ex_ (d + 1) 252 118 [some (v_r (some 93)), l1, some (v_i (3004 : Int32))] (r.toList ++ []) h' Q) := by
  unfold ex_
  refine (am_Y_go 5 (ok := []) (g := (115, [some (v_r (some 93)), l1, some (v_i (3004 : Int32))], [v_i (39 : Int32), v_r (some 93)], h)) rfl).trans ?_
  all_goals exact ((am_Y_call (j := 239) (na := 2) (ci := 12) (fl := 0) rfl rfl rfl).trans (cj_d ⟨⟨Nat.le_of_ble_eq_true rfl, Nat.le_of_ble_eq_true rfl, Nat.le_of_ble_eq_true rfl, rfl⟩, Or.inr (Or.inr (show (12 : Nat) < 20 ∧ am_is h (some 93) 12 from ⟨by decide, (la_is Lh (o := 93) rfl)⟩))⟩ Iff.rfl))

theorem b_X12_readUnit_139 {d : Nat} {Q : Option am_V → am_H → Prop} (h : am_H) (l1 l2 : Option am_V) (Lh : Lay h) : ex_ (d + 1) 252 139 [some (v_r (some 93)), l1, l2] [] h Q ↔ ex_ d 237 0 [some (v_r (some 93)), none] [] h (fun r h' => ex_ (d + 1) 252 143 [some (v_r (some 93)), l1, l2] (r.toList ++ []) h' Q) := by
  unfold ex_
  refine (am_Y_go 1 (ok := []) (g := (140, [some (v_r (some 93)), l1, l2], [v_r (some 93)], h)) rfl).trans ?_
  all_goals exact ((am_Y_call (j := 237) (na := 1) (ci := 12) (fl := 0) rfl rfl rfl).trans (cj_d ⟨⟨Nat.le_of_ble_eq_true rfl, Nat.le_of_ble_eq_true rfl, Nat.le_of_ble_eq_true rfl, rfl⟩, Or.inr (Or.inr (show (12 : Nat) < 20 ∧ am_is h (some 93) 12 from ⟨by decide, (la_is Lh (o := 93) rfl)⟩))⟩ Iff.rfl))

theorem b_X12_readUnit_121 {d : Nat} {Q : Option am_V → am_H → Prop} (h : am_H) (l1 l2 : Option am_V) (Lh : Lay h) : ex_ (d + 1) 252 121 [some (v_r (some 93)), l1, l2] [] h Q ↔ ex_ d 239 0 [some (v_r (some 93)), some (v_i (40 : Int32))] [] h (fun r h' => ex_ (d + 1) 252 127 [some (v_r (some 93)), l1, l2] (r.toList ++ []) h' Q) := by
  unfold ex_
  refine (am_Y_go 2 (ok := []) (g := (124, [some (v_r (some 93)), l1, l2], [v_i (40 : Int32), v_r (some 93)], h)) rfl).trans ?_
  all_goals exact ((am_Y_call (j := 239) (na := 2) (ci := 12) (fl := 0) rfl rfl rfl).trans (cj_d ⟨⟨Nat.le_of_ble_eq_true rfl, Nat.le_of_ble_eq_true rfl, Nat.le_of_ble_eq_true rfl, rfl⟩, Or.inr (Or.inr (show (12 : Nat) < 20 ∧ am_is h (some 93) 12 from ⟨by decide, (la_is Lh (o := 93) rfl)⟩))⟩ Iff.rfl))

theorem b_X12_readUnit_72 {d : Nat} {Q : Option am_V → am_H → Prop} (h : am_H) (l0 l1 l2 : Option am_V) : ex_ d 252 72 [l0, l1, l2] [] h Q ↔ Q (none) h := by
  unfold ex_
  exact ((am_Y_ret rfl rfl rfl).trans (am_rz rfl))

theorem b_X12_readUnit_67 {d : Nat} {Q : Option am_V → am_H → Prop} (h : am_H) (l1 l2 : Option am_V) (Lh : Lay h) : ex_ (d + 1) 252 67 [some (v_r (some 93)), l1, l2] [] h Q ↔ ex_ d 238 0 [some (v_r (some 93)), some (v_i (2 : Int32))] [] h (fun r h' => ex_ (d + 1) 252 72 [some (v_r (some 93)), l1, l2] (r.toList ++ []) h' Q) := by
  unfold ex_
  refine (am_Y_go 2 (ok := []) (g := (69, [some (v_r (some 93)), l1, l2], [v_i (2 : Int32), v_r (some 93)], h)) rfl).trans ?_
  all_goals exact ((am_Y_call (j := 238) (na := 2) (ci := 12) (fl := 0) rfl rfl rfl).trans (cj_d ⟨⟨Nat.le_of_ble_eq_true rfl, Nat.le_of_ble_eq_true rfl, Nat.le_of_ble_eq_true rfl, rfl⟩, Or.inr (Or.inr (show (12 : Nat) < 20 ∧ am_is h (some 93) 12 from ⟨by decide, (la_is Lh (o := 93) rfl)⟩))⟩ Iff.rfl))

theorem b_X12_readUnit_143 {d : Nat} {Q : Option am_V → am_H → Prop} (h : am_H) (x1 : Int32) (l2 : Option am_V) (Lh : Lay h) : ex_ (d + 1) 252 143 [some (v_r (some 93)), some (v_i x1), l2] [] h Q ↔ ex_ d 249 0 [some (v_r (some 93)), some (v_i x1), none] [] h (fun r h' => ex_ (d + 1) 252 156 [some (v_r (some 93)), some (v_i x1), l2] (r.toList ++ []) h' Q) := by
  unfold ex_
  refine (am_Y_go 3 (ok := []) (g := (153, [some (v_r (some 93)), some (v_i x1), l2], [v_i x1, v_r (some 93)], h)) rfl).trans ?_
  all_goals exact ((am_Y_call (j := 249) (na := 2) (ci := 12) (fl := 0) rfl rfl rfl).trans (cj_d ⟨⟨Nat.le_of_ble_eq_true rfl, Nat.le_of_ble_eq_true rfl, Nat.le_of_ble_eq_true rfl, rfl⟩, Or.inr (Or.inr (show (12 : Nat) < 20 ∧ am_is h (some 93) 12 from ⟨by decide, (la_is Lh (o := 93) rfl)⟩))⟩ Iff.rfl))

theorem b_X12_readUnit_127 {d : Nat} {Q : Option am_V → am_H → Prop} (h : am_H) (s0 : Int32) (l0 l1 l2 : Option am_V) : ex_ d 252 127 [l0, l1, l2] [v_i s0] h Q ↔ if ¬ s0 = 0 then ex_ d 252 139 [l0, l1, l2] [] h Q else ex_ d 252 130 [l0, l1, l2] [] h Q := by
  unfold ex_
  refine (am_Y_go 1 (ok := []) (g := (if ¬ s0 = 0 then 139 else 130, [l0, l1, l2], [], h)) rfl).trans ?_
  all_goals exact am_Y_if

theorem b_X12_readUnit_156 {d : Nat} {Q : Option am_V → am_H → Prop} (h : am_H) (x2 : Int32) (l1 : Option am_V) (Lh : Lay h) : ex_ (d + 1) 252 156 [some (v_r (some 93)), l1, some (v_i x2)] [] h Q ↔ ex_ d 244 0 [some (v_r (some 93)), some (v_i x2)] [] h (fun r h' => ex_ (d + 1) 252 161 [some (v_r (some 93)), l1, some (v_i x2)] (r.toList ++ []) h' Q) := by
  unfold ex_
  refine (am_Y_go 2 (ok := []) (g := (158, [some (v_r (some 93)), l1, some (v_i x2)], [v_i x2, v_r (some 93)], h)) rfl).trans ?_
  all_goals exact ((am_Y_call (j := 244) (na := 2) (ci := 12) (fl := 0) rfl rfl rfl).trans (cj_d ⟨⟨Nat.le_of_ble_eq_true rfl, Nat.le_of_ble_eq_true rfl, Nat.le_of_ble_eq_true rfl, rfl⟩, Or.inr (Or.inr (show (12 : Nat) < 20 ∧ am_is h (some 93) 12 from ⟨by decide, (la_is Lh (o := 93) rfl)⟩))⟩ Iff.rfl))

theorem b_X12_readUnit_130 {d : Nat} {Q : Option am_V → am_H → Prop} (h : am_H) (l1 l2 : Option am_V) (Lh : Lay h) : ex_ (d + 1) 252 130 [some (v_r (some 93)), l1, l2] [] h Q ↔ ex_ d 239 0 [some (v_r (some 93)), some (v_i (41 : Int32))] [] h (fun r h' => ex_ (d + 1) 252 136 [some (v_r (some 93)), l1, l2] (r.toList ++ []) h' Q) := by
  unfold ex_
  refine (am_Y_go 2 (ok := []) (g := (133, [some (v_r (some 93)), l1, l2], [v_i (41 : Int32), v_r (some 93)], h)) rfl).trans ?_
  all_goals exact ((am_Y_call (j := 239) (na := 2) (ci := 12) (fl := 0) rfl rfl rfl).trans (cj_d ⟨⟨Nat.le_of_ble_eq_true rfl, Nat.le_of_ble_eq_true rfl, Nat.le_of_ble_eq_true rfl, rfl⟩, Or.inr (Or.inr (show (12 : Nat) < 20 ∧ am_is h (some 93) 12 from ⟨by decide, (la_is Lh (o := 93) rfl)⟩))⟩ Iff.rfl))

theorem b_X12_readUnit_161 {d : Nat} {Q : Option am_V → am_H → Prop} (h : am_H) (l0 l1 l2 : Option am_V) : ex_ d 252 161 [l0, l1, l2] [] h Q ↔ Q (none) h := by
  unfold ex_
  exact ((am_Y_ret rfl rfl rfl).trans (am_rz rfl))

theorem b_X12_readUnit_136 {d : Nat} {Q : Option am_V → am_H → Prop} (h : am_H) (s0 : Int32) (l0 l1 l2 : Option am_V) : ex_ d 252 136 [l0, l1, l2] [v_i s0] h Q ↔ if s0 = 0 then ex_ d 252 146 [l0, l1, l2] [] h Q else ex_ d 252 139 [l0, l1, l2] [] h Q := by
  unfold ex_
  refine (am_Y_go 1 (ok := []) (g := (if s0 = 0 then 146 else 139, [l0, l1, l2], [], h)) rfl).trans ?_
  all_goals exact am_Y_if

theorem b_X12_readUnit_146 {d : Nat} {Q : Option am_V → am_H → Prop} (h : am_H) (l1 l2 : Option am_V) (Lh : Lay h) : ex_ (d + 1) 252 146 [some (v_r (some 93)), l1, l2] [] h Q ↔ ex_ d 238 0 [some (v_r (some 93)), some (v_i (2 : Int32))] [] h (fun r h' => ex_ (d + 1) 252 151 [some (v_r (some 93)), l1, l2] (r.toList ++ []) h' Q) := by
  unfold ex_
  refine (am_Y_go 2 (ok := []) (g := (148, [some (v_r (some 93)), l1, l2], [v_i (2 : Int32), v_r (some 93)], h)) rfl).trans ?_
  all_goals exact ((am_Y_call (j := 238) (na := 2) (ci := 12) (fl := 0) rfl rfl rfl).trans (cj_d ⟨⟨Nat.le_of_ble_eq_true rfl, Nat.le_of_ble_eq_true rfl, Nat.le_of_ble_eq_true rfl, rfl⟩, Or.inr (Or.inr (show (12 : Nat) < 20 ∧ am_is h (some 93) 12 from ⟨by decide, (la_is Lh (o := 93) rfl)⟩))⟩ Iff.rfl))

theorem b_X12_readUnit_151 {d : Nat} {Q : Option am_V → am_H → Prop} (h : am_H) (x1 : Int32) (l2 : Option am_V) (Lh : Lay h) : ex_ (d + 1) 252 151 [some (v_r (some 93)), some (v_i x1), l2] [] h Q ↔ ex_ d 249 0 [some (v_r (some 93)), some (v_i x1), none] [] h (fun r h' => ex_ (d + 1) 252 156 [some (v_r (some 93)), some (v_i x1), l2] (r.toList ++ []) h' Q) := by
  unfold ex_
  refine (am_Y_go 2 (ok := []) (g := (153, [some (v_r (some 93)), some (v_i x1), l2], [v_i x1, v_r (some 93)], h)) rfl).trans ?_
  all_goals exact ((am_Y_call (j := 249) (na := 2) (ci := 12) (fl := 0) rfl rfl rfl).trans (cj_d ⟨⟨Nat.le_of_ble_eq_true rfl, Nat.le_of_ble_eq_true rfl, Nat.le_of_ble_eq_true rfl, rfl⟩, Or.inr (Or.inr (show (12 : Nat) < 20 ∧ am_is h (some 93) 12 from ⟨by decide, (la_is Lh (o := 93) rfl)⟩))⟩ Iff.rfl))

theorem b_X12_named_0 {d : Nat} {Q : Option am_V → am_H → Prop} (h : am_H) (x1 : Int32) (l2 l3 : Option am_V) (Lh : Lay h) : ex_ (d + 1) 253 0 [some (v_r (some 93)), some (v_i x1), l2, l3] [] h Q ↔ ex_ d 240 0 [some (v_r (some 93)), some (v_i x1)] [] h (fun r h' => ex_ (d + 1) 253 5 [some (v_r (some 93)), some (v_i x1), l2, l3] (r.toList ++ []) h' Q) := by
  unfold ex_
  refine (am_Y_go 2 (ok := []) (g := (2, [some (v_r (some 93)), some (v_i x1), l2, l3], [v_i x1, v_r (some 93)], h)) rfl).trans ?_
  all_goals exact ((am_Y_call (j := 240) (na := 2) (ci := 12) (fl := 0) rfl rfl rfl).trans (cj_d ⟨⟨Nat.le_of_ble_eq_true rfl, Nat.le_of_ble_eq_true rfl, Nat.le_of_ble_eq_true rfl, rfl⟩, Or.inr (Or.inr (show (12 : Nat) < 20 ∧ am_is h (some 93) 12 from ⟨by decide, (la_is Lh (o := 93) rfl)⟩))⟩ Iff.rfl))

theorem b_X12_named_5 {d : Nat} {Q : Option am_V → am_H → Prop} (h : am_H) (s0 : Int32) (l0 l1 l2 l3 : Option am_V) : ex_ d 253 5 [l0, l1, l2, l3] [v_i s0] h Q ↔ if ¬ s0 = 0 then ex_ d 253 13 [l0, l1, l2, l3] [] h Q else ex_ d 253 8 [l0, l1, l2, l3] [] h Q := by
  unfold ex_
  refine (am_Y_go 1 (ok := []) (g := (if ¬ s0 = 0 then 13 else 8, [l0, l1, l2, l3], [], h)) rfl).trans ?_
  all_goals exact am_Y_if

theorem b_X12_named_13 {d : Nat} {Q : Option am_V → am_H → Prop} (h : am_H) (x2 : Int32) (x3 : Int32) (l1 : Option am_V) (Lh : Lay h) : ex_ (d + 1) 253 13 [some (v_r (some 93)), l1, some (v_i x2), some (v_i x3)] [] h Q ↔ ex_ d 241 0 [some (v_r (some 93)), some (v_i x2), some (v_i x3), none] [] h (fun r h' => ex_ (d + 1) 253 19 [some (v_r (some 93)), l1, some (v_i x2), some (v_i x3)] (r.toList ++ []) h' Q) := by
  unfold ex_
  refine (am_Y_go 3 (ok := []) (g := (16, [some (v_r (some 93)), l1, some (v_i x2), some (v_i x3)], [v_i x3, v_i x2, v_r (some 93)], h)) rfl).trans ?_
  all_goals exact ((am_Y_call (j := 241) (na := 3) (ci := 12) (fl := 0) rfl rfl rfl).trans (cj_d ⟨⟨Nat.le_of_ble_eq_true rfl, Nat.le_of_ble_eq_true rfl, Nat.le_of_ble_eq_true rfl, rfl⟩, Or.inr (Or.inr (show (12 : Nat) < 20 ∧ am_is h (some 93) 12 from ⟨by decide, (la_is Lh (o := 93) rfl)⟩))⟩ Iff.rfl))

theorem b_X12_named_8 {d : Nat} {Q : Option am_V → am_H → Prop} (h : am_H) (l1 l2 l3 : Option am_V) (Lh : Lay h) : ex_ (d + 1) 253 8 [some (v_r (some 93)), l1, l2, l3] [] h Q ↔ ex_ d 238 0 [some (v_r (some 93)), some (v_i (2 : Int32))] [] h (fun r h' => ex_ (d + 1) 253 13 [some (v_r (some 93)), l1, l2, l3] (r.toList ++ []) h' Q) := by
  unfold ex_
  refine (am_Y_go 2 (ok := []) (g := (10, [some (v_r (some 93)), l1, l2, l3], [v_i (2 : Int32), v_r (some 93)], h)) rfl).trans ?_
  all_goals exact ((am_Y_call (j := 238) (na := 2) (ci := 12) (fl := 0) rfl rfl rfl).trans (cj_d ⟨⟨Nat.le_of_ble_eq_true rfl, Nat.le_of_ble_eq_true rfl, Nat.le_of_ble_eq_true rfl, rfl⟩, Or.inr (Or.inr (show (12 : Nat) < 20 ∧ am_is h (some 93) 12 from ⟨by decide, (la_is Lh (o := 93) rfl)⟩))⟩ Iff.rfl))

theorem b_X12_named_19 {d : Nat} {Q : Option am_V → am_H → Prop} (h : am_H) (s0 : Int32) (l0 l1 l2 l3 : Option am_V) : ex_ d 253 19 [l0, l1, l2, l3] [v_i s0] h Q ↔ Q (some (v_i s0)) h := by
  unfold ex_
  exact ((am_Y_ret rfl rfl rfl).trans (am_r0))

theorem b_X12_isUpAlready_0 {d : Nat} {Q : Option am_V → am_H → Prop} (h : am_H) (l0 l1 l2 l3 : Option am_V) : ex_ d 254 0 [l0, l1, l2, l3] [] h Q ↔ ex_ d 254 2 [l0, l1, l2, some (v_i (0 : Int32))] [] h Q := by
  unfold ex_
  refine (am_Y_go 2 (ok := []) (g := (2, [l0, l1, l2, some (v_i (0 : Int32))], [], h)) rfl).trans ?_
  all_goals exact Iff.rfl

theorem b_X12_isUpAlready_2 {d : Nat} {Q : Option am_V → am_H → Prop} (h : am_H) (x3 : Int32) (x1 : Int32) (l2 : Option am_V) (Lh : Lay h) : ex_ d 254 2 [some (v_r (some 93)), some (v_i x1), l2, some (v_i x3)] [] h Q ↔ vp_in ((8 : Int32) + x1) 2351 ∧ (if (h_i h 97 (Int32.toNatClampNeg ((8 : Int32) + x1))) ≤ x3 then ex_ d 254 40 [some (v_r (some 93)), some (v_i x1), l2, some (v_i x3)] [] h Q else ex_ d 254 15 [some (v_r (some 93)), some (v_i x1), l2, some (v_i x3)] [] h Q) := by
  have e0 : h_r h 93 4 = some 97 := la_r Lh (q := (93, 4, 97)) (by decide)
  unfold ex_
  refine (am_Y_go 8 (ok := [am_is h (some 93) 12, am_ar h ((h_r h 93 4)) 20 ((8 : Int32) + x1)]) (g := (if (h_i h ((h_r h 93 4).getD 0) (Int32.toNatClampNeg ((8 : Int32) + x1))) ≤ x3 then 40 else 15, [some (v_r (some 93)), some (v_i x1), l2, some (v_i x3)], [], h)) rfl).trans ?_
  simp only [e0, Option.getD_some, am_all]
  all_goals exact cj_d (la_is Lh (o := 93) rfl) (cj_k (la_ar Lh (o := 97) rfl) (am_Y_if))

theorem b_X12_isUpAlready_40 {d : Nat} {Q : Option am_V → am_H → Prop} (h : am_H) (l0 l1 l2 l3 : Option am_V) : ex_ d 254 40 [l0, l1, l2, l3] [] h Q ↔ Q (some (v_i (0 : Int32))) h := by
  unfold ex_
  refine (am_Y_go 1 (ok := []) (g := (41, [l0, l1, l2, l3], [v_i (0 : Int32)], h)) rfl).trans ?_
  all_goals exact ((am_Y_ret rfl rfl rfl).trans (am_rz (show am_fit 1 0 from Or.inl rfl)))

theorem b_X12_isUpAlready_15 {d : Nat} {Q : Option am_V → am_H → Prop} (h : am_H) (x1 : Int32) (x3 : Int32) (x2 : Int32) (Lh : Lay h) : ex_ d 254 15 [some (v_r (some 93)), some (v_i x1), some (v_i x2), some (v_i x3)] [] h Q ↔ vp_in (((18 : Int32) + ((4 : Int32) * x1)) + x3) 2351 ∧ (if ¬ (h_i h 97 (Int32.toNatClampNeg (((18 : Int32) + ((4 : Int32) * x1)) + x3))) = x2 then ex_ d 254 34 [some (v_r (some 93)), some (v_i x1), some (v_i x2), some (v_i x3)] [] h Q else ex_ d 254 32 [some (v_r (some 93)), some (v_i x1), some (v_i x2), some (v_i x3)] [] h Q) := by
  have e0 : h_r h 93 4 = some 97 := la_r Lh (q := (93, 4, 97)) (by decide)
  unfold ex_
  refine (am_Y_go 12 (ok := [am_is h (some 93) 12, am_ar h ((h_r h 93 4)) 20 (((18 : Int32) + ((4 : Int32) * x1)) + x3)]) (g := (if ¬ (h_i h ((h_r h 93 4).getD 0) (Int32.toNatClampNeg (((18 : Int32) + ((4 : Int32) * x1)) + x3))) = x2 then 34 else 32, [some (v_r (some 93)), some (v_i x1), some (v_i x2), some (v_i x3)], [], h)) rfl).trans ?_
  simp only [e0, Option.getD_some, am_all]
  all_goals exact cj_d (la_is Lh (o := 93) rfl) (cj_k (la_ar Lh (o := 97) rfl) (am_Y_if))

theorem b_X12_isUpAlready_34 {d : Nat} {Q : Option am_V → am_H → Prop} (h : am_H) (x3 : Int32) (l0 l1 l2 : Option am_V) : ex_ d 254 34 [l0, l1, l2, some (v_i x3)] [] h Q ↔ ex_ d 254 2 [l0, l1, l2, some (v_i (x3 + (1 : Int32)))] [] h Q := by
  unfold ex_
  refine (am_Y_go 2 (ok := []) (g := (2, [l0, l1, l2, some (v_i (x3 + (1 : Int32)))], [], h)) rfl).trans ?_
  all_goals exact Iff.rfl

theorem b_X12_isUpAlready_32 {d : Nat} {Q : Option am_V → am_H → Prop} (h : am_H) (l0 l1 l2 l3 : Option am_V) : ex_ d 254 32 [l0, l1, l2, l3] [] h Q ↔ Q (some (v_i (1 : Int32))) h := by
  unfold ex_
  refine (am_Y_go 1 (ok := []) (g := (33, [l0, l1, l2, l3], [v_i (1 : Int32)], h)) rfl).trans ?_
  all_goals exact ((am_Y_ret rfl rfl rfl).trans (am_rz (show am_fit 1 1 from Or.inr rfl)))

theorem b_X12_readClass_0 {d : Nat} {Q : Option am_V → am_H → Prop} (h : am_H) (l1 l2 : Option am_V) (Lh : Lay h) : ex_ d 255 0 [some (v_r (some 93)), l1, l2] [] h Q ↔ vp_in (1 : Int32) 2351 ∧ (if ¬ (h_i h 97 (Int32.toNatClampNeg (1 : Int32))) = (10 : Int32) then ex_ d 255 18 [some (v_r (some 93)), some (v_i (h_i h 97 (Int32.toNatClampNeg (1 : Int32)))), l2] [] h Q else ex_ d 255 13 [some (v_r (some 93)), some (v_i (h_i h 97 (Int32.toNatClampNeg (1 : Int32)))), l2] [] h Q) := by
  have e0 : h_r h 93 4 = some 97 := la_r Lh (q := (93, 4, 97)) (by decide)
  unfold ex_
  refine (am_Y_go 8 (ok := [am_is h (some 93) 12, am_ar h ((h_r h 93 4)) 20 (1 : Int32)]) (g := (if ¬ (h_i h ((h_r h 93 4).getD 0) (Int32.toNatClampNeg (1 : Int32))) = (10 : Int32) then 18 else 13, [some (v_r (some 93)), some (v_i (h_i h ((h_r h 93 4).getD 0) (Int32.toNatClampNeg (1 : Int32)))), l2], [], h)) rfl).trans ?_
  simp only [e0, Option.getD_some, am_all]
  all_goals exact cj_d (la_is Lh (o := 93) rfl) (cj_k (la_ar Lh (o := 97) rfl) (am_Y_if))

theorem b_X12_readClass_18 {d : Nat} {Q : Option am_V → am_H → Prop} (h : am_H) (l1 l2 : Option am_V) (Lh : Lay h) : ex_ d 255 18 [some (v_r (some 93)), l1, l2] [] h Q ↔ if (h_i h 93 11) = 0 then ex_ d 255 26 [some (v_r (some 93)), l1, l2] [] h Q else ex_ d 255 25 [some (v_r (some 93)), l1, l2] [] h Q := by
  unfold ex_
  refine (am_Y_go 3 (ok := [am_is h (some 93) 12]) (g := (if (h_i h 93 11) = 0 then 26 else 25, [some (v_r (some 93)), l1, l2], [], h)) rfl).trans ?_
  simp only [am_all]
  all_goals exact cj_d (la_is Lh (o := 93) rfl) (am_Y_if)

theorem b_X12_readClass_13 {d : Nat} {Q : Option am_V → am_H → Prop} (h : am_H) (l1 l2 : Option am_V) (Lh : Lay h) : ex_ (d + 1) 255 13 [some (v_r (some 93)), l1, l2] [] h Q ↔ ex_ d 238 0 [some (v_r (some 93)), some (v_i (4 : Int32))] [] h (fun r h' => ex_ (d + 1) 255 18 [some (v_r (some 93)), l1, l2] (r.toList ++ []) h' Q) := by
  unfold ex_
  refine (am_Y_go 2 (ok := []) (g := (15, [some (v_r (some 93)), l1, l2], [v_i (4 : Int32), v_r (some 93)], h)) rfl).trans ?_
  all_goals exact ((am_Y_call (j := 238) (na := 2) (ci := 12) (fl := 0) rfl rfl rfl).trans (cj_d ⟨⟨Nat.le_of_ble_eq_true rfl, Nat.le_of_ble_eq_true rfl, Nat.le_of_ble_eq_true rfl, rfl⟩, Or.inr (Or.inr (show (12 : Nat) < 20 ∧ am_is h (some 93) 12 from ⟨by decide, (la_is Lh (o := 93) rfl)⟩))⟩ Iff.rfl))

theorem b_X12_readClass_26 {d : Nat} {Q : Option am_V → am_H → Prop} (h : am_H) (l1 l2 : Option am_V) (Lh : Lay h) : ex_ (d + 1) 255 26 [some (v_r (some 93)), l1, l2] [] h Q ↔ ex_ d 237 0 [some (v_r (some 93)), none] [] h (fun r h' => ex_ (d + 1) 255 30 [some (v_r (some 93)), l1, l2] (r.toList ++ []) h' Q) := by
  unfold ex_
  refine (am_Y_go 1 (ok := []) (g := (27, [some (v_r (some 93)), l1, l2], [v_r (some 93)], h)) rfl).trans ?_
  all_goals exact ((am_Y_call (j := 237) (na := 1) (ci := 12) (fl := 0) rfl rfl rfl).trans (cj_d ⟨⟨Nat.le_of_ble_eq_true rfl, Nat.le_of_ble_eq_true rfl, Nat.le_of_ble_eq_true rfl, rfl⟩, Or.inr (Or.inr (show (12 : Nat) < 20 ∧ am_is h (some 93) 12 from ⟨by decide, (la_is Lh (o := 93) rfl)⟩))⟩ Iff.rfl))

theorem b_X12_readClass_25 {d : Nat} {Q : Option am_V → am_H → Prop} (h : am_H) (l0 l1 l2 : Option am_V) : ex_ d 255 25 [l0, l1, l2] [] h Q ↔ Q (none) h := by
  unfold ex_
  exact ((am_Y_ret rfl rfl rfl).trans (am_rz rfl))

theorem b_X12_readClass_30 {d : Nat} {Q : Option am_V → am_H → Prop} (h : am_H) (l1 l2 : Option am_V) (Lh : Lay h) : ex_ (d + 1) 255 30 [some (v_r (some 93)), l1, l2] [] h Q ↔ ex_ d 239 0 [some (v_r (some 93)), some (v_i (23 : Int32))] [] h (fun r h' => ex_ (d + 1) 255 36 [some (v_r (some 93)), l1, l2] (r.toList ++ []) h' Q) := by
  unfold ex_
  refine (am_Y_go 2 (ok := []) (g := (33, [some (v_r (some 93)), l1, l2], [v_i (23 : Int32), v_r (some 93)], h)) rfl).trans ?_
  all_goals exact ((am_Y_call (j := 239) (na := 2) (ci := 12) (fl := 0) rfl rfl rfl).trans (cj_d ⟨⟨Nat.le_of_ble_eq_true rfl, Nat.le_of_ble_eq_true rfl, Nat.le_of_ble_eq_true rfl, rfl⟩, Or.inr (Or.inr (show (12 : Nat) < 20 ∧ am_is h (some 93) 12 from ⟨by decide, (la_is Lh (o := 93) rfl)⟩))⟩ Iff.rfl))

theorem b_X12_readClass_36 {d : Nat} {Q : Option am_V → am_H → Prop} (h : am_H) (s0 : Int32) (l0 l1 l2 : Option am_V) : ex_ d 255 36 [l0, l1, l2] [v_i s0] h Q ↔ if s0 = 0 then ex_ d 255 132 [l0, l1, l2] [] h Q else ex_ d 255 39 [l0, l1, l2] [] h Q := by
  unfold ex_
  refine (am_Y_go 1 (ok := []) (g := (if s0 = 0 then 132 else 39, [l0, l1, l2], [], h)) rfl).trans ?_
  all_goals exact am_Y_if

theorem b_X12_readClass_132 {d : Nat} {Q : Option am_V → am_H → Prop} (h : am_H) (l1 l2 : Option am_V) (Lh : Lay h) : ex_ d 255 132 [some (v_r (some 93)), l1, l2] [] h Q ↔ if ¬ (h_i h 93 11) = 0 then ex_ d 255 149 [some (v_r (some 93)), l1, l2] [] h Q else ex_ d 255 139 [some (v_r (some 93)), l1, l2] [] h Q := by
  unfold ex_
  refine (am_Y_go 3 (ok := [am_is h (some 93) 12]) (g := (if ¬ (h_i h 93 11) = 0 then 149 else 139, [some (v_r (some 93)), l1, l2], [], h)) rfl).trans ?_
  simp only [am_all]
  all_goals exact cj_d (la_is Lh (o := 93) rfl) (am_Y_if)

theorem b_X12_readClass_39 {d : Nat} {Q : Option am_V → am_H → Prop} (h : am_H) (x1 : Int32) (l2 : Option am_V) (Lh : Lay h) : ex_ d 255 39 [some (v_r (some 93)), some (v_i x1), l2] [] h Q ↔ vp_in ((8 : Int32) + x1) 2351 ∧ (if x1 ≤ (h_i h 93 10) then ex_ d 255 69 [some (v_r (some 93)), some (v_i x1), some (v_i (h_i h 97 (Int32.toNatClampNeg ((8 : Int32) + x1))))] [] h Q else ex_ d 255 57 [some (v_r (some 93)), some (v_i x1), some (v_i (h_i h 97 (Int32.toNatClampNeg ((8 : Int32) + x1))))] [] h Q) := by
  have e0 : h_r h 93 4 = some 97 := la_r Lh (q := (93, 4, 97)) (by decide)
  unfold ex_
  refine (am_Y_go 11 (ok := [am_is h (some 93) 12, am_ar h ((h_r h 93 4)) 20 ((8 : Int32) + x1), am_is h (some 93) 12]) (g := (if x1 ≤ (h_i h 93 10) then 69 else 57, [some (v_r (some 93)), some (v_i x1), some (v_i (h_i h ((h_r h 93 4).getD 0) (Int32.toNatClampNeg ((8 : Int32) + x1))))], [], h)) rfl).trans ?_
  simp only [e0, Option.getD_some, am_all]
  all_goals exact cj_d (la_is Lh (o := 93) rfl) (cj_k (la_ar Lh (o := 97) rfl) (cj_d (la_is Lh (o := 93) rfl) (am_Y_if)))

theorem b_X12_readClass_149 {d : Nat} {Q : Option am_V → am_H → Prop} (h : am_H) (l0 l1 l2 : Option am_V) : ex_ d 255 149 [l0, l1, l2] [] h Q ↔ Q (none) h := by
  unfold ex_
  exact ((am_Y_ret rfl rfl rfl).trans (am_rz rfl))

theorem b_X12_readClass_139 {d : Nat} {Q : Option am_V → am_H → Prop} (h : am_H) (l1 l2 : Option am_V) (Lh : Lay h) : ex_ d 255 139 [some (v_r (some 93)), l1, l2] [] h Q ↔ vp_in (1 : Int32) 2351 ∧ vp_in (1 : Int32) 2351 ∧ Q (none) (p_i h 97 (Int32.toNatClampNeg (1 : Int32)) ((h_i h 97 (Int32.toNatClampNeg (1 : Int32))) + (1 : Int32))) := by
  have e0 : h_r h 93 4 = some 97 := la_r Lh (q := (93, 4, 97)) (by decide)
  unfold ex_
  refine (am_Y_go 8 (ok := [am_is h (some 93) 12, am_ar h ((h_r h 93 4)) 20 (1 : Int32), am_ar h ((h_r h 93 4)) 20 (1 : Int32)]) (g := (149, [some (v_r (some 93)), l1, l2], [], (p_i h ((h_r h 93 4).getD 0) (Int32.toNatClampNeg (1 : Int32)) ((h_i h ((h_r h 93 4).getD 0) (Int32.toNatClampNeg (1 : Int32))) + (1 : Int32))))) rfl).trans ?_
  simp only [e0, Option.getD_some, am_all]
  all_goals exact cj_d (la_is Lh (o := 93) rfl) (cj_k (la_ar Lh (o := 97) rfl) (cj_k (la_ar Lh (o := 97) rfl) (((am_Y_ret rfl rfl rfl).trans (am_rz rfl)))))

theorem b_X12_readClass_69 {d : Nat} {Q : Option am_V → am_H → Prop} (h : am_H) (l1 l2 : Option am_V) (Lh : Lay h) : ex_ (d + 1) 255 69 [some (v_r (some 93)), l1, l2] [] h Q ↔ ex_ d 238 0 [some (v_r (some 93)), some (v_i (3 : Int32))] [] h (fun r h' => ex_ (d + 1) 255 74 [some (v_r (some 93)), l1, l2] (r.toList ++ []) h' Q) := by
  unfold ex_
  refine (am_Y_go 2 (ok := []) (g := (71, [some (v_r (some 93)), l1, l2], [v_i (3 : Int32), v_r (some 93)], h)) rfl).trans ?_
  all_goals exact ((am_Y_call (j := 238) (na := 2) (ci := 12) (fl := 0) rfl rfl rfl).trans (cj_d ⟨⟨Nat.le_of_ble_eq_true rfl, Nat.le_of_ble_eq_true rfl, Nat.le_of_ble_eq_true rfl, rfl⟩, Or.inr (Or.inr (show (12 : Nat) < 20 ∧ am_is h (some 93) 12 from ⟨by decide, (la_is Lh (o := 93) rfl)⟩))⟩ Iff.rfl))

theorem b_X12_readClass_57 {d : Nat} {Q : Option am_V → am_H → Prop} (h : am_H) (x1 : Int32) (l2 : Option am_V) (Lh : Lay h) : ex_ (d + 1) 255 57 [some (v_r (some 93)), some (v_i x1), l2] [] h Q ↔ ex_ d 254 0 [some (v_r (some 93)), some (v_i x1), some (v_i (h_i h 93 10)), none] [] h (fun r h' => ex_ (d + 1) 255 66 [some (v_r (some 93)), some (v_i x1), l2] (r.toList ++ []) h' Q) := by
  unfold ex_
  refine (am_Y_go 4 (ok := [am_is h (some 93) 12]) (g := (63, [some (v_r (some 93)), some (v_i x1), l2], [v_i (h_i h 93 10), v_i x1, v_r (some 93)], h)) rfl).trans ?_
  simp only [am_all]
  all_goals exact cj_d (la_is Lh (o := 93) rfl) (((am_Y_call (j := 254) (na := 3) (ci := 12) (fl := 0) rfl rfl rfl).trans (cj_d ⟨⟨Nat.le_of_ble_eq_true rfl, Nat.le_of_ble_eq_true rfl, Nat.le_of_ble_eq_true rfl, rfl⟩, Or.inr (Or.inr (show (12 : Nat) < 20 ∧ am_is h (some 93) 12 from ⟨by decide, (la_is Lh (o := 93) rfl)⟩))⟩ Iff.rfl)))

theorem b_X12_readClass_74 {d : Nat} {Q : Option am_V → am_H → Prop} (h : am_H) (l1 l2 : Option am_V) (Lh : Lay h) : ex_ d 255 74 [some (v_r (some 93)), l1, l2] [] h Q ↔ if (h_i h 93 11) = 0 then ex_ d 255 95 [some (v_r (some 93)), l1, l2] [] h Q else ex_ d 255 94 [some (v_r (some 93)), l1, l2] [] h Q := by
  unfold ex_
  refine (am_Y_go 4 (ok := [am_is h (some 93) 12]) (g := (if (h_i h 93 11) = 0 then 95 else 94, [some (v_r (some 93)), l1, l2], [], h)) rfl).trans ?_
  simp only [am_all]
  all_goals exact cj_d (la_is Lh (o := 93) rfl) (am_Y_if)

theorem b_X12_readClass_66 {d : Nat} {Q : Option am_V → am_H → Prop} (h : am_H) (s0 : Int32) (l0 l1 l2 : Option am_V) : ex_ d 255 66 [l0, l1, l2] [v_i s0] h Q ↔ if s0 = 0 then ex_ d 255 77 [l0, l1, l2] [] h Q else ex_ d 255 69 [l0, l1, l2] [] h Q := by
  unfold ex_
  refine (am_Y_go 1 (ok := []) (g := (if s0 = 0 then 77 else 69, [l0, l1, l2], [], h)) rfl).trans ?_
  all_goals exact am_Y_if

theorem b_X12_readClass_95 {d : Nat} {Q : Option am_V → am_H → Prop} (h : am_H) (x1 : Int32) (x2 : Int32) (Lh : Lay h) : ex_ (d + 1) 255 95 [some (v_r (some 93)), some (v_i x1), some (v_i x2)] [] h Q ↔ vp_in (((18 : Int32) + ((4 : Int32) * x1)) + x2) 2351 ∧ vp_in ((8 : Int32) + x1) 2351 ∧ vp_in ((8 : Int32) + x1) 2351 ∧ ex_ d 237 0 [some (v_r (some 93)), none] [] (p_i (p_i h 97 (Int32.toNatClampNeg (((18 : Int32) + ((4 : Int32) * x1)) + x2)) (h_i h 93 10)) 97 (Int32.toNatClampNeg ((8 : Int32) + x1)) ((h_i (p_i h 97 (Int32.toNatClampNeg (((18 : Int32) + ((4 : Int32) * x1)) + x2)) (h_i h 93 10)) 97 (Int32.toNatClampNeg ((8 : Int32) + x1))) + (1 : Int32))) (fun r h' => ex_ (d + 1) 255 129 [some (v_r (some 93)), some (v_i x1), some (v_i x2)] (r.toList ++ []) h' Q) := by
  have e0 : h_r h 93 4 = some 97 := la_r Lh (q := (93, 4, 97)) (by decide)
  unfold ex_
  refine (am_Y_go 23 (ok := [am_is h (some 93) 12, am_is h (some 93) 12, am_ar h ((h_r h 93 4)) 20 (((18 : Int32) + ((4 : Int32) * x1)) + x2), am_is h (some 93) 12, am_ar h ((h_r h 93 4)) 20 ((8 : Int32) + x1), am_ar h ((h_r h 93 4)) 20 ((8 : Int32) + x1)]) (g := (126, [some (v_r (some 93)), some (v_i x1), some (v_i x2)], [v_r (some 93)], (p_i (p_i h ((h_r h 93 4).getD 0) (Int32.toNatClampNeg (((18 : Int32) + ((4 : Int32) * x1)) + x2)) (h_i h 93 10)) ((h_r h 93 4).getD 0) (Int32.toNatClampNeg ((8 : Int32) + x1)) ((h_i (p_i h ((h_r h 93 4).getD 0) (Int32.toNatClampNeg (((18 : Int32) + ((4 : Int32) * x1)) + x2)) (h_i h 93 10)) ((h_r h 93 4).getD 0) (Int32.toNatClampNeg ((8 : Int32) + x1))) + (1 : Int32))))) rfl).trans ?_
  simp only [e0, Option.getD_some, am_all]
  all_goals exact cj_d (la_is Lh (o := 93) rfl) (cj_d (la_is Lh (o := 93) rfl) (cj_k (la_ar Lh (o := 97) rfl) (cj_d (la_is Lh (o := 93) rfl) (cj_k (la_ar Lh (o := 97) rfl) (cj_k (la_ar Lh (o := 97) rfl) (((am_Y_call (j := 237) (na := 1) (ci := 12) (fl := 0) rfl rfl rfl).trans (cj_d ⟨⟨Nat.le_of_ble_eq_true rfl, Nat.le_of_ble_eq_true rfl, Nat.le_of_ble_eq_true rfl, rfl⟩, Or.inr (Or.inr (show (12 : Nat) < 20 ∧ am_is h (some 93) 12 from ⟨by decide, (la_is Lh (o := 93) rfl)⟩))⟩ Iff.rfl))))))))

theorem b_X12_readClass_94 {d : Nat} {Q : Option am_V → am_H → Prop} (h : am_H) (l0 l1 l2 : Option am_V) : ex_ d 255 94 [l0, l1, l2] [] h Q ↔ Q (none) h := by
  unfold ex_
  exact ((am_Y_ret rfl rfl rfl).trans (am_rz rfl))

theorem b_X12_readClass_77 {d : Nat} {Q : Option am_V → am_H → Prop} (h : am_H) (x2 : Int32) (l0 l1 : Option am_V) : ex_ d 255 77 [l0, l1, some (v_i x2)] [] h Q ↔ if ¬ x2 = (4 : Int32) then ex_ d 255 87 [l0, l1, some (v_i x2)] [] h Q else ex_ d 255 82 [l0, l1, some (v_i x2)] [] h Q := by
  unfold ex_
  refine (am_Y_go 3 (ok := []) (g := (if ¬ x2 = (4 : Int32) then 87 else 82, [l0, l1, some (v_i x2)], [], h)) rfl).trans ?_
  all_goals exact am_Y_if

theorem b_X12_readClass_129 {d : Nat} {Q : Option am_V → am_H → Prop} (h : am_H) (l0 l1 l2 : Option am_V) : ex_ d 255 129 [l0, l1, l2] [] h Q ↔ ex_ d 255 30 [l0, l1, l2] [] h Q := by
  unfold ex_
  refine (am_Y_go 1 (ok := []) (g := (30, [l0, l1, l2], [], h)) rfl).trans ?_
  all_goals exact Iff.rfl

theorem b_X12_readClass_87 {d : Nat} {Q : Option am_V → am_H → Prop} (h : am_H) (l1 l2 : Option am_V) (Lh : Lay h) : ex_ d 255 87 [some (v_r (some 93)), l1, l2] [] h Q ↔ if (h_i h 93 11) = 0 then ex_ d 255 95 [some (v_r (some 93)), l1, l2] [] h Q else ex_ d 255 94 [some (v_r (some 93)), l1, l2] [] h Q := by
  unfold ex_
  refine (am_Y_go 3 (ok := [am_is h (some 93) 12]) (g := (if (h_i h 93 11) = 0 then 95 else 94, [some (v_r (some 93)), l1, l2], [], h)) rfl).trans ?_
  simp only [am_all]
  all_goals exact cj_d (la_is Lh (o := 93) rfl) (am_Y_if)

theorem b_X12_readClass_82 {d : Nat} {Q : Option am_V → am_H → Prop} (h : am_H) (l1 l2 : Option am_V) (Lh : Lay h) : ex_ (d + 1) 255 82 [some (v_r (some 93)), l1, l2] [] h Q ↔ ex_ d 238 0 [some (v_r (some 93)), some (v_i (4 : Int32))] [] h (fun r h' => ex_ (d + 1) 255 87 [some (v_r (some 93)), l1, l2] (r.toList ++ []) h' Q) := by
  unfold ex_
  refine (am_Y_go 2 (ok := []) (g := (84, [some (v_r (some 93)), l1, l2], [v_i (4 : Int32), v_r (some 93)], h)) rfl).trans ?_
  all_goals exact ((am_Y_call (j := 238) (na := 2) (ci := 12) (fl := 0) rfl rfl rfl).trans (cj_d ⟨⟨Nat.le_of_ble_eq_true rfl, Nat.le_of_ble_eq_true rfl, Nat.le_of_ble_eq_true rfl, rfl⟩, Or.inr (Or.inr (show (12 : Nat) < 20 ∧ am_is h (some 93) 12 from ⟨by decide, (la_is Lh (o := 93) rfl)⟩))⟩ Iff.rfl))

theorem b_X12_readMethod_0 {d : Nat} {Q : Option am_V → am_H → Prop} (h : am_H) (l1 l2 l3 : Option am_V) (Lh : Lay h) : ex_ (d + 1) 256 0 [some (v_r (some 93)), l1, l2, l3] [] h Q ↔ ex_ d 237 0 [some (v_r (some 93)), none] [] h (fun r h' => ex_ (d + 1) 256 4 [some (v_r (some 93)), l1, l2, l3] (r.toList ++ []) h' Q) := by
  unfold ex_
  refine (am_Y_go 1 (ok := []) (g := (1, [some (v_r (some 93)), l1, l2, l3], [v_r (some 93)], h)) rfl).trans ?_
  all_goals exact ((am_Y_call (j := 237) (na := 1) (ci := 12) (fl := 0) rfl rfl rfl).trans (cj_d ⟨⟨Nat.le_of_ble_eq_true rfl, Nat.le_of_ble_eq_true rfl, Nat.le_of_ble_eq_true rfl, rfl⟩, Or.inr (Or.inr (show (12 : Nat) < 20 ∧ am_is h (some 93) 12 from ⟨by decide, (la_is Lh (o := 93) rfl)⟩))⟩ Iff.rfl))

theorem b_X12_readMethod_4 {d : Nat} {Q : Option am_V → am_H → Prop} (h : am_H) (l1 l2 l3 : Option am_V) (Lh : Lay h) : ex_ (d + 1) 256 4 [some (v_r (some 93)), l1, l2, l3] [] h Q ↔ ex_ d 241 0 [some (v_r (some 93)), some (v_i (0 : Int32)), some (v_i (7 : Int32)), none] [] h (fun r h' => ex_ (d + 1) 256 11 [some (v_r (some 93)), l1, l2, l3] (r.toList ++ []) h' Q) := by
  unfold ex_
  refine (am_Y_go 3 (ok := []) (g := (8, [some (v_r (some 93)), l1, l2, l3], [v_i (7 : Int32), v_i (0 : Int32), v_r (some 93)], h)) rfl).trans ?_
  all_goals exact ((am_Y_call (j := 241) (na := 3) (ci := 12) (fl := 0) rfl rfl rfl).trans (cj_d ⟨⟨Nat.le_of_ble_eq_true rfl, Nat.le_of_ble_eq_true rfl, Nat.le_of_ble_eq_true rfl, rfl⟩, Or.inr (Or.inr (show (12 : Nat) < 20 ∧ am_is h (some 93) 12 from ⟨by decide, (la_is Lh (o := 93) rfl)⟩))⟩ Iff.rfl))

theorem b_X12_readMethod_11 {d : Nat} {Q : Option am_V → am_H → Prop} (h : am_H) (s0 : Int32) (l1 l2 l3 : Option am_V) (Lh : Lay h) : ex_ (d + 1) 256 11 [some (v_r (some 93)), l1, l2, l3] [v_i s0] h Q ↔ vp_in (1 : Int32) 2351 ∧ ex_ d 253 0 [some (v_r (some 93)), some (v_i (4 : Int32)), some (v_i (0 : Int32)), some (v_i ((h_i h 97 (Int32.toNatClampNeg (1 : Int32))) - (1 : Int32)))] [] h (fun r h' => ex_ (d + 1) 256 26 [some (v_r (some 93)), some (v_i s0), l2, l3] (r.toList ++ []) h' Q) := by
  have e0 : h_r h 93 4 = some 97 := la_r Lh (q := (93, 4, 97)) (by decide)
  unfold ex_
  refine (am_Y_go 10 (ok := [am_is h (some 93) 12, am_ar h ((h_r h 93 4)) 20 (1 : Int32)]) (g := (23, [some (v_r (some 93)), some (v_i s0), l2, l3], [v_i ((h_i h ((h_r h 93 4).getD 0) (Int32.toNatClampNeg (1 : Int32))) - (1 : Int32)), v_i (0 : Int32), v_i (4 : Int32), v_r (some 93)], h)) rfl).trans ?_
  simp only [e0, Option.getD_some, am_all]
  all_goals exact cj_d (la_is Lh (o := 93) rfl) (cj_k (la_ar Lh (o := 97) rfl) (((am_Y_call (j := 253) (na := 4) (ci := 12) (fl := 0) rfl rfl rfl).trans (cj_d ⟨⟨Nat.le_of_ble_eq_true rfl, Nat.le_of_ble_eq_true rfl, Nat.le_of_ble_eq_true rfl, rfl⟩, Or.inr (Or.inr (show (12 : Nat) < 20 ∧ am_is h (some 93) 12 from ⟨by decide, (la_is Lh (o := 93) rfl)⟩))⟩ Iff.rfl))))

theorem b_X12_readMethod_26 {d : Nat} {Q : Option am_V → am_H → Prop} (h : am_H) (s0 : Int32) (l1 l2 l3 : Option am_V) (Lh : Lay h) : ex_ (d + 1) 256 26 [some (v_r (some 93)), l1, l2, l3] [v_i s0] h Q ↔ ex_ d 239 0 [some (v_r (some 93)), some (v_i (5 : Int32))] [] h (fun r h' => ex_ (d + 1) 256 32 [some (v_r (some 93)), l1, some (v_i s0), l3] (r.toList ++ []) h' Q) := by
  unfold ex_
  refine (am_Y_go 3 (ok := []) (g := (29, [some (v_r (some 93)), l1, some (v_i s0), l3], [v_i (5 : Int32), v_r (some 93)], h)) rfl).trans ?_
  all_goals exact ((am_Y_call (j := 239) (na := 2) (ci := 12) (fl := 0) rfl rfl rfl).trans (cj_d ⟨⟨Nat.le_of_ble_eq_true rfl, Nat.le_of_ble_eq_true rfl, Nat.le_of_ble_eq_true rfl, rfl⟩, Or.inr (Or.inr (show (12 : Nat) < 20 ∧ am_is h (some 93) 12 from ⟨by decide, (la_is Lh (o := 93) rfl)⟩))⟩ Iff.rfl))

theorem b_X12_readMethod_32 {d : Nat} {Q : Option am_V → am_H → Prop} (h : am_H) (s0 : Int32) (l0 l1 l2 l3 : Option am_V) : ex_ d 256 32 [l0, l1, l2, l3] [v_i s0] h Q ↔ if s0 = 0 then ex_ d 256 39 [l0, l1, l2, l3] [] h Q else ex_ d 256 35 [l0, l1, l2, l3] [] h Q := by
  unfold ex_
  refine (am_Y_go 1 (ok := []) (g := (if s0 = 0 then 39 else 35, [l0, l1, l2, l3], [], h)) rfl).trans ?_
  all_goals exact am_Y_if

theorem b_X12_readMethod_39 {d : Nat} {Q : Option am_V → am_H → Prop} (h : am_H) (l1 l2 l3 : Option am_V) (Lh : Lay h) : ex_ (d + 1) 256 39 [some (v_r (some 93)), l1, l2, l3] [] h Q ↔ ex_ d 240 0 [some (v_r (some 93)), some (v_i (5 : Int32))] [] h (fun r h' => ex_ (d + 1) 256 46 [some (v_r (some 93)), l1, l2, some (v_i (2 : Int32))] (r.toList ++ []) h' Q) := by
  unfold ex_
  refine (am_Y_go 4 (ok := []) (g := (43, [some (v_r (some 93)), l1, l2, some (v_i (2 : Int32))], [v_i (5 : Int32), v_r (some 93)], h)) rfl).trans ?_
  all_goals exact ((am_Y_call (j := 240) (na := 2) (ci := 12) (fl := 0) rfl rfl rfl).trans (cj_d ⟨⟨Nat.le_of_ble_eq_true rfl, Nat.le_of_ble_eq_true rfl, Nat.le_of_ble_eq_true rfl, rfl⟩, Or.inr (Or.inr (show (12 : Nat) < 20 ∧ am_is h (some 93) 12 from ⟨by decide, (la_is Lh (o := 93) rfl)⟩))⟩ Iff.rfl))

theorem b_X12_readMethod_35 {d : Nat} {Q : Option am_V → am_H → Prop} (h : am_H) (l1 l2 l3 : Option am_V) (Lh : Lay h) : ex_ (d + 1) 256 35 [some (v_r (some 93)), l1, l2, l3] [] h Q ↔ ex_ d 240 0 [some (v_r (some 93)), some (v_i (5 : Int32))] [] h (fun r h' => ex_ (d + 1) 256 46 [some (v_r (some 93)), l1, l2, some (v_i (1 : Int32))] (r.toList ++ []) h' Q) := by
  unfold ex_
  refine (am_Y_go 5 (ok := []) (g := (43, [some (v_r (some 93)), l1, l2, some (v_i (1 : Int32))], [v_i (5 : Int32), v_r (some 93)], h)) rfl).trans ?_
  all_goals exact ((am_Y_call (j := 240) (na := 2) (ci := 12) (fl := 0) rfl rfl rfl).trans (cj_d ⟨⟨Nat.le_of_ble_eq_true rfl, Nat.le_of_ble_eq_true rfl, Nat.le_of_ble_eq_true rfl, rfl⟩, Or.inr (Or.inr (show (12 : Nat) < 20 ∧ am_is h (some 93) 12 from ⟨by decide, (la_is Lh (o := 93) rfl)⟩))⟩ Iff.rfl))

theorem b_X12_readMethod_46 {d : Nat} {Q : Option am_V → am_H → Prop} (h : am_H) (s0 : Int32) (l0 l1 l2 l3 : Option am_V) : ex_ d 256 46 [l0, l1, l2, l3] [v_i s0] h Q ↔ if ¬ s0 = 0 then ex_ d 256 63 [l0, l1, l2, l3] [] h Q else ex_ d 256 49 [l0, l1, l2, l3] [] h Q := by
  unfold ex_
  refine (am_Y_go 1 (ok := []) (g := (if ¬ s0 = 0 then 63 else 49, [l0, l1, l2, l3], [], h)) rfl).trans ?_
  all_goals exact am_Y_if

theorem b_X12_readMethod_63 {d : Nat} {Q : Option am_V → am_H → Prop} (h : am_H) (l1 l2 l3 : Option am_V) (Lh : Lay h) : ex_ d 256 63 [some (v_r (some 93)), l1, l2, l3] [] h Q ↔ if ¬ (h_i h 93 11) = 0 then ex_ d 256 85 [some (v_r (some 93)), l1, l2, l3] [] h Q else ex_ d 256 70 [some (v_r (some 93)), l1, l2, l3] [] h Q := by
  unfold ex_
  refine (am_Y_go 3 (ok := [am_is h (some 93) 12]) (g := (if ¬ (h_i h 93 11) = 0 then 85 else 70, [some (v_r (some 93)), l1, l2, l3], [], h)) rfl).trans ?_
  simp only [am_all]
  all_goals exact cj_d (la_is Lh (o := 93) rfl) (am_Y_if)

theorem b_X12_readMethod_49 {d : Nat} {Q : Option am_V → am_H → Prop} (h : am_H) (l1 l2 l3 : Option am_V) (Lh : Lay h) : ex_ (d + 1) 256 49 [some (v_r (some 93)), l1, l2, l3] [] h Q ↔ ex_ d 240 0 [some (v_r (some 93)), some (v_i (6 : Int32))] [] h (fun r h' => ex_ (d + 1) 256 55 [some (v_r (some 93)), l1, l2, l3] (r.toList ++ []) h' Q) := by
  unfold ex_
  refine (am_Y_go 2 (ok := []) (g := (52, [some (v_r (some 93)), l1, l2, l3], [v_i (6 : Int32), v_r (some 93)], h)) rfl).trans ?_
  all_goals exact ((am_Y_call (j := 240) (na := 2) (ci := 12) (fl := 0) rfl rfl rfl).trans (cj_d ⟨⟨Nat.le_of_ble_eq_true rfl, Nat.le_of_ble_eq_true rfl, Nat.le_of_ble_eq_true rfl, rfl⟩, Or.inr (Or.inr (show (12 : Nat) < 20 ∧ am_is h (some 93) 12 from ⟨by decide, (la_is Lh (o := 93) rfl)⟩))⟩ Iff.rfl))

theorem b_X12_readMethod_85 {d : Nat} {Q : Option am_V → am_H → Prop} (h : am_H) (l0 l1 l2 l3 : Option am_V) : ex_ d 256 85 [l0, l1, l2, l3] [] h Q ↔ Q (none) h := by
  unfold ex_
  exact ((am_Y_ret rfl rfl rfl).trans (am_rz rfl))

theorem b_X12_readMethod_70 {d : Nat} {Q : Option am_V → am_H → Prop} (h : am_H) (x2 : Int32) (x1 : Int32) (x3 : Int32) (Lh : Lay h) : ex_ d 256 70 [some (v_r (some 93)), some (v_i x1), some (v_i x2), some (v_i x3)] [] h Q ↔ vp_in (((58 : Int32) + ((8 : Int32) * x2)) + x1) 2351 ∧ Q (none) (p_i h 97 (Int32.toNatClampNeg (((58 : Int32) + ((8 : Int32) * x2)) + x1)) x3) := by
  have e0 : h_r h 93 4 = some 97 := la_r Lh (q := (93, 4, 97)) (by decide)
  unfold ex_
  refine (am_Y_go 11 (ok := [am_is h (some 93) 12, am_ar h ((h_r h 93 4)) 20 (((58 : Int32) + ((8 : Int32) * x2)) + x1)]) (g := (85, [some (v_r (some 93)), some (v_i x1), some (v_i x2), some (v_i x3)], [], (p_i h ((h_r h 93 4).getD 0) (Int32.toNatClampNeg (((58 : Int32) + ((8 : Int32) * x2)) + x1)) x3))) rfl).trans ?_
  simp only [e0, Option.getD_some, am_all]
  all_goals exact cj_d (la_is Lh (o := 93) rfl) (cj_k (la_ar Lh (o := 97) rfl) (((am_Y_ret rfl rfl rfl).trans (am_rz rfl))))

theorem b_X12_readMethod_55 {d : Nat} {Q : Option am_V → am_H → Prop} (h : am_H) (s0 : Int32) (l0 l1 l2 l3 : Option am_V) : ex_ d 256 55 [l0, l1, l2, l3] [v_i s0] h Q ↔ if ¬ s0 = 0 then ex_ d 256 63 [l0, l1, l2, l3] [] h Q else ex_ d 256 58 [l0, l1, l2, l3] [] h Q := by
  unfold ex_
  refine (am_Y_go 1 (ok := []) (g := (if ¬ s0 = 0 then 63 else 58, [l0, l1, l2, l3], [], h)) rfl).trans ?_
  all_goals exact am_Y_if

theorem b_X12_readMethod_58 {d : Nat} {Q : Option am_V → am_H → Prop} (h : am_H) (l1 l2 l3 : Option am_V) (Lh : Lay h) : ex_ (d + 1) 256 58 [some (v_r (some 93)), l1, l2, l3] [] h Q ↔ ex_ d 238 0 [some (v_r (some 93)), some (v_i (2 : Int32))] [] h (fun r h' => ex_ (d + 1) 256 63 [some (v_r (some 93)), l1, l2, l3] (r.toList ++ []) h' Q) := by
  unfold ex_
  refine (am_Y_go 2 (ok := []) (g := (60, [some (v_r (some 93)), l1, l2, l3], [v_i (2 : Int32), v_r (some 93)], h)) rfl).trans ?_
  all_goals exact ((am_Y_call (j := 238) (na := 2) (ci := 12) (fl := 0) rfl rfl rfl).trans (cj_d ⟨⟨Nat.le_of_ble_eq_true rfl, Nat.le_of_ble_eq_true rfl, Nat.le_of_ble_eq_true rfl, rfl⟩, Or.inr (Or.inr (show (12 : Nat) < 20 ∧ am_is h (some 93) 12 from ⟨by decide, (la_is Lh (o := 93) rfl)⟩))⟩ Iff.rfl))

theorem b_X12_readLaw_0 {d : Nat} {Q : Option am_V → am_H → Prop} (h : am_H) (l1 l2 : Option am_V) (Lh : Lay h) : ex_ (d + 1) 257 0 [some (v_r (some 93)), l1, l2] [] h Q ↔ ex_ d 237 0 [some (v_r (some 93)), none] [] h (fun r h' => ex_ (d + 1) 257 4 [some (v_r (some 93)), l1, l2] (r.toList ++ []) h' Q) := by
  unfold ex_
  refine (am_Y_go 1 (ok := []) (g := (1, [some (v_r (some 93)), l1, l2], [v_r (some 93)], h)) rfl).trans ?_
  all_goals exact ((am_Y_call (j := 237) (na := 1) (ci := 12) (fl := 0) rfl rfl rfl).trans (cj_d ⟨⟨Nat.le_of_ble_eq_true rfl, Nat.le_of_ble_eq_true rfl, Nat.le_of_ble_eq_true rfl, rfl⟩, Or.inr (Or.inr (show (12 : Nat) < 20 ∧ am_is h (some 93) 12 from ⟨by decide, (la_is Lh (o := 93) rfl)⟩))⟩ Iff.rfl))

theorem b_X12_readLaw_4 {d : Nat} {Q : Option am_V → am_H → Prop} (h : am_H) (l1 l2 : Option am_V) (Lh : Lay h) : ex_ (d + 1) 257 4 [some (v_r (some 93)), l1, l2] [] h Q ↔ ex_ d 240 0 [some (v_r (some 93)), some (v_i (31 : Int32))] [] h (fun r h' => ex_ (d + 1) 257 10 [some (v_r (some 93)), l1, l2] (r.toList ++ []) h' Q) := by
  unfold ex_
  refine (am_Y_go 2 (ok := []) (g := (7, [some (v_r (some 93)), l1, l2], [v_i (31 : Int32), v_r (some 93)], h)) rfl).trans ?_
  all_goals exact ((am_Y_call (j := 240) (na := 2) (ci := 12) (fl := 0) rfl rfl rfl).trans (cj_d ⟨⟨Nat.le_of_ble_eq_true rfl, Nat.le_of_ble_eq_true rfl, Nat.le_of_ble_eq_true rfl, rfl⟩, Or.inr (Or.inr (show (12 : Nat) < 20 ∧ am_is h (some 93) 12 from ⟨by decide, (la_is Lh (o := 93) rfl)⟩))⟩ Iff.rfl))

theorem b_X12_readLaw_10 {d : Nat} {Q : Option am_V → am_H → Prop} (h : am_H) (s0 : Int32) (l0 l1 l2 : Option am_V) : ex_ d 257 10 [l0, l1, l2] [v_i s0] h Q ↔ if ¬ s0 = 0 then ex_ d 257 18 [l0, l1, l2] [] h Q else ex_ d 257 13 [l0, l1, l2] [] h Q := by
  unfold ex_
  refine (am_Y_go 1 (ok := []) (g := (if ¬ s0 = 0 then 18 else 13, [l0, l1, l2], [], h)) rfl).trans ?_
  all_goals exact am_Y_if

theorem b_X12_readLaw_18 {d : Nat} {Q : Option am_V → am_H → Prop} (h : am_H) (x1 : Int32) (l2 : Option am_V) (Lh : Lay h) : ex_ d 257 18 [some (v_r (some 93)), some (v_i x1), l2] [] h Q ↔ vp_in (1450 : Int32) 2351 ∧ (if ¬ x1 = 0 then ex_ d 257 44 [some (v_r (some 93)), some (v_i x1), some (v_i (h_i h 97 (Int32.toNatClampNeg (1450 : Int32))))] [] (p_i h 93 15 x1) Q else ex_ d 257 36 [some (v_r (some 93)), some (v_i x1), some (v_i (h_i h 97 (Int32.toNatClampNeg (1450 : Int32))))] [] (p_i h 93 15 x1) Q) := by
  have e0 : h_r h 93 4 = some 97 := la_r Lh (q := (93, 4, 97)) (by decide)
  unfold ex_
  refine (am_Y_go 10 (ok := [am_is h (some 93) 12, am_ar h ((h_r h 93 4)) 20 (1450 : Int32), am_is h (some 93) 12]) (g := (if ¬ x1 = 0 then 44 else 36, [some (v_r (some 93)), some (v_i x1), some (v_i (h_i h ((h_r h 93 4).getD 0) (Int32.toNatClampNeg (1450 : Int32))))], [], (p_i h 93 15 x1))) rfl).trans ?_
  simp only [e0, Option.getD_some, am_all]
  all_goals exact cj_d (la_is Lh (o := 93) rfl) (cj_k (la_ar Lh (o := 97) rfl) (cj_d (la_is Lh (o := 93) rfl) (am_Y_if)))

theorem b_X12_readLaw_13 {d : Nat} {Q : Option am_V → am_H → Prop} (h : am_H) (l1 l2 : Option am_V) (Lh : Lay h) : ex_ (d + 1) 257 13 [some (v_r (some 93)), l1, l2] [] h Q ↔ ex_ d 238 0 [some (v_r (some 93)), some (v_i (2 : Int32))] [] h (fun r h' => ex_ (d + 1) 257 18 [some (v_r (some 93)), l1, l2] (r.toList ++ []) h' Q) := by
  unfold ex_
  refine (am_Y_go 2 (ok := []) (g := (15, [some (v_r (some 93)), l1, l2], [v_i (2 : Int32), v_r (some 93)], h)) rfl).trans ?_
  all_goals exact ((am_Y_call (j := 238) (na := 2) (ci := 12) (fl := 0) rfl rfl rfl).trans (cj_d ⟨⟨Nat.le_of_ble_eq_true rfl, Nat.le_of_ble_eq_true rfl, Nat.le_of_ble_eq_true rfl, rfl⟩, Or.inr (Or.inr (show (12 : Nat) < 20 ∧ am_is h (some 93) 12 from ⟨by decide, (la_is Lh (o := 93) rfl)⟩))⟩ Iff.rfl))

theorem b_X12_readLaw_44 {d : Nat} {Q : Option am_V → am_H → Prop} (h : am_H) (l1 l2 : Option am_V) (Lh : Lay h) : ex_ (d + 1) 257 44 [some (v_r (some 93)), l1, l2] [] h Q ↔ ex_ d 251 0 [some (v_r (some 93)), some (v_i (0 : Int32))] [] h (fun r h' => ex_ (d + 1) 257 49 [some (v_r (some 93)), l1, l2] (r.toList ++ []) h' Q) := by
  unfold ex_
  refine (am_Y_go 2 (ok := []) (g := (46, [some (v_r (some 93)), l1, l2], [v_i (0 : Int32), v_r (some 93)], h)) rfl).trans ?_
  all_goals exact ((am_Y_call (j := 251) (na := 2) (ci := 12) (fl := 0) rfl rfl rfl).trans (cj_d ⟨⟨Nat.le_of_ble_eq_true rfl, Nat.le_of_ble_eq_true rfl, Nat.le_of_ble_eq_true rfl, rfl⟩, Or.inr (Or.inr (show (12 : Nat) < 20 ∧ am_is h (some 93) 12 from ⟨by decide, (la_is Lh (o := 93) rfl)⟩))⟩ Iff.rfl))

theorem b_X12_readLaw_36 {d : Nat} {Q : Option am_V → am_H → Prop} (h : am_H) (l1 l2 : Option am_V) (Lh : Lay h) : ex_ (d + 1) 257 36 [some (v_r (some 93)), l1, l2] [] h Q ↔ ex_ d 249 0 [some (v_r (some 93)), some (v_i (0 : Int32)), none] [] h (fun r h' => ex_ (d + 1) 257 41 [some (v_r (some 93)), l1, l2] (r.toList ++ []) h' Q) := by
  unfold ex_
  refine (am_Y_go 2 (ok := []) (g := (38, [some (v_r (some 93)), l1, l2], [v_i (0 : Int32), v_r (some 93)], h)) rfl).trans ?_
  all_goals exact ((am_Y_call (j := 249) (na := 2) (ci := 12) (fl := 0) rfl rfl rfl).trans (cj_d ⟨⟨Nat.le_of_ble_eq_true rfl, Nat.le_of_ble_eq_true rfl, Nat.le_of_ble_eq_true rfl, rfl⟩, Or.inr (Or.inr (show (12 : Nat) < 20 ∧ am_is h (some 93) 12 from ⟨by decide, (la_is Lh (o := 93) rfl)⟩))⟩ Iff.rfl))

theorem b_X12_readLaw_49 {d : Nat} {Q : Option am_V → am_H → Prop} (h : am_H) (l1 l2 : Option am_V) (Lh : Lay h) : ex_ d 257 49 [some (v_r (some 93)), l1, l2] [] h Q ↔ if (h_i h 93 11) = 0 then ex_ d 257 57 [some (v_r (some 93)), l1, l2] [] h Q else ex_ d 257 56 [some (v_r (some 93)), l1, l2] [] h Q := by
  unfold ex_
  refine (am_Y_go 3 (ok := [am_is h (some 93) 12]) (g := (if (h_i h 93 11) = 0 then 57 else 56, [some (v_r (some 93)), l1, l2], [], h)) rfl).trans ?_
  simp only [am_all]
  all_goals exact cj_d (la_is Lh (o := 93) rfl) (am_Y_if)

theorem b_X12_readLaw_41 {d : Nat} {Q : Option am_V → am_H → Prop} (h : am_H) (l1 l2 : Option am_V) (Lh : Lay h) : ex_ d 257 41 [some (v_r (some 93)), l1, l2] [] h Q ↔ if (h_i h 93 11) = 0 then ex_ d 257 57 [some (v_r (some 93)), l1, l2] [] h Q else ex_ d 257 56 [some (v_r (some 93)), l1, l2] [] h Q := by
  unfold ex_
  refine (am_Y_go 4 (ok := [am_is h (some 93) 12]) (g := (if (h_i h 93 11) = 0 then 57 else 56, [some (v_r (some 93)), l1, l2], [], h)) rfl).trans ?_
  simp only [am_all]
  all_goals exact cj_d (la_is Lh (o := 93) rfl) (am_Y_if)

theorem b_X12_readLaw_57 {d : Nat} {Q : Option am_V → am_H → Prop} (h : am_H) (x1 : Int32) (x2 : Int32) (Lh : Lay h) : ex_ d 257 57 [some (v_r (some 93)), some (v_i x1), some (v_i x2)] [] h Q ↔ vp_in ((2 : Int32) + x1) 2351 ∧ vp_in ((4 : Int32) + x1) 2351 ∧ vp_in (1450 : Int32) 2351 ∧ vp_in ((6 : Int32) + x1) 2351 ∧ Q (none) (p_i (p_i (p_i h 97 (Int32.toNatClampNeg ((2 : Int32) + x1)) (1 : Int32)) 97 (Int32.toNatClampNeg ((4 : Int32) + x1)) x2) 97 (Int32.toNatClampNeg ((6 : Int32) + x1)) ((h_i (p_i (p_i h 97 (Int32.toNatClampNeg ((2 : Int32) + x1)) (1 : Int32)) 97 (Int32.toNatClampNeg ((4 : Int32) + x1)) x2) 97 (Int32.toNatClampNeg (1450 : Int32))) - x2)) := by
  have e0 : h_r h 93 4 = some 97 := la_r Lh (q := (93, 4, 97)) (by decide)
  unfold ex_
  refine (am_Y_go 26 (ok := [am_is h (some 93) 12, am_ar h ((h_r h 93 4)) 20 ((2 : Int32) + x1), am_is h (some 93) 12, am_ar h ((h_r h 93 4)) 20 ((4 : Int32) + x1), am_is h (some 93) 12, am_is h (some 93) 12, am_ar h ((h_r h 93 4)) 20 (1450 : Int32), am_ar h ((h_r h 93 4)) 20 ((6 : Int32) + x1)]) (g := (94, [some (v_r (some 93)), some (v_i x1), some (v_i x2)], [], (p_i (p_i (p_i h ((h_r h 93 4).getD 0) (Int32.toNatClampNeg ((2 : Int32) + x1)) (1 : Int32)) ((h_r h 93 4).getD 0) (Int32.toNatClampNeg ((4 : Int32) + x1)) x2) ((h_r h 93 4).getD 0) (Int32.toNatClampNeg ((6 : Int32) + x1)) ((h_i (p_i (p_i h ((h_r h 93 4).getD 0) (Int32.toNatClampNeg ((2 : Int32) + x1)) (1 : Int32)) ((h_r h 93 4).getD 0) (Int32.toNatClampNeg ((4 : Int32) + x1)) x2) ((h_r h 93 4).getD 0) (Int32.toNatClampNeg (1450 : Int32))) - x2)))) rfl).trans ?_
  simp only [e0, Option.getD_some, am_all]
  all_goals exact cj_d (la_is Lh (o := 93) rfl) (cj_k (la_ar Lh (o := 97) rfl) (cj_d (la_is Lh (o := 93) rfl) (cj_k (la_ar Lh (o := 97) rfl) (cj_d (la_is Lh (o := 93) rfl) (cj_d (la_is Lh (o := 93) rfl) (cj_k (la_ar Lh (o := 97) rfl) (cj_k (la_ar Lh (o := 97) rfl) (((am_Y_ret rfl rfl rfl).trans (am_rz rfl))))))))))

theorem b_X12_readLaw_56 {d : Nat} {Q : Option am_V → am_H → Prop} (h : am_H) (l0 l1 l2 : Option am_V) : ex_ d 257 56 [l0, l1, l2] [] h Q ↔ Q (none) h := by
  unfold ex_
  exact ((am_Y_ret rfl rfl rfl).trans (am_rz rfl))

theorem b_X12_readLine_0 {d : Nat} {Q : Option am_V → am_H → Prop} (h : am_H) (Lh : Lay h) : ex_ d 258 0 [some (v_r (some 93))] [] h Q ↔ if (h_i h 93 11) = 0 then ex_ d 258 8 [some (v_r (some 93))] [] h Q else ex_ d 258 7 [some (v_r (some 93))] [] h Q := by
  unfold ex_
  refine (am_Y_go 3 (ok := [am_is h (some 93) 12]) (g := (if (h_i h 93 11) = 0 then 8 else 7, [some (v_r (some 93))], [], h)) rfl).trans ?_
  simp only [am_all]
  all_goals exact cj_d (la_is Lh (o := 93) rfl) (am_Y_if)

theorem b_X12_readLine_8 {d : Nat} {Q : Option am_V → am_H → Prop} (h : am_H) (Lh : Lay h) : ex_ (d + 1) 258 8 [some (v_r (some 93))] [] h Q ↔ ex_ d 239 0 [some (v_r (some 93)), some (v_i (2 : Int32))] [] h (fun r h' => ex_ (d + 1) 258 13 [some (v_r (some 93))] (r.toList ++ []) h' Q) := by
  unfold ex_
  refine (am_Y_go 2 (ok := []) (g := (10, [some (v_r (some 93))], [v_i (2 : Int32), v_r (some 93)], h)) rfl).trans ?_
  all_goals exact ((am_Y_call (j := 239) (na := 2) (ci := 12) (fl := 0) rfl rfl rfl).trans (cj_d ⟨⟨Nat.le_of_ble_eq_true rfl, Nat.le_of_ble_eq_true rfl, Nat.le_of_ble_eq_true rfl, rfl⟩, Or.inr (Or.inr (show (12 : Nat) < 20 ∧ am_is h (some 93) 12 from ⟨by decide, (la_is Lh (o := 93) rfl)⟩))⟩ Iff.rfl))

theorem b_X12_readLine_7 {d : Nat} {Q : Option am_V → am_H → Prop} (h : am_H) (l0 : Option am_V) : ex_ d 258 7 [l0] [] h Q ↔ Q (none) h := by
  unfold ex_
  exact ((am_Y_ret rfl rfl rfl).trans (am_rz rfl))

theorem b_X12_readLine_13 {d : Nat} {Q : Option am_V → am_H → Prop} (h : am_H) (s0 : Int32) (l0 : Option am_V) : ex_ d 258 13 [l0] [v_i s0] h Q ↔ if s0 = 0 then ex_ d 258 23 [l0] [] h Q else ex_ d 258 16 [l0] [] h Q := by
  unfold ex_
  refine (am_Y_go 1 (ok := []) (g := (if s0 = 0 then 23 else 16, [l0], [], h)) rfl).trans ?_
  all_goals exact am_Y_if

theorem b_X12_readLine_23 {d : Nat} {Q : Option am_V → am_H → Prop} (h : am_H) (Lh : Lay h) : ex_ (d + 1) 258 23 [some (v_r (some 93))] [] h Q ↔ ex_ d 239 0 [some (v_r (some 93)), some (v_i (3 : Int32))] [] h (fun r h' => ex_ (d + 1) 258 28 [some (v_r (some 93))] (r.toList ++ []) h' Q) := by
  unfold ex_
  refine (am_Y_go 2 (ok := []) (g := (25, [some (v_r (some 93))], [v_i (3 : Int32), v_r (some 93)], h)) rfl).trans ?_
  all_goals exact ((am_Y_call (j := 239) (na := 2) (ci := 12) (fl := 0) rfl rfl rfl).trans (cj_d ⟨⟨Nat.le_of_ble_eq_true rfl, Nat.le_of_ble_eq_true rfl, Nat.le_of_ble_eq_true rfl, rfl⟩, Or.inr (Or.inr (show (12 : Nat) < 20 ∧ am_is h (some 93) 12 from ⟨by decide, (la_is Lh (o := 93) rfl)⟩))⟩ Iff.rfl))

theorem b_X12_readLine_16 {d : Nat} {Q : Option am_V → am_H → Prop} (h : am_H) (Lh : Lay h) : ex_ (d + 1) 258 16 [some (v_r (some 93))] [] h Q ↔ ex_ d 255 0 [some (v_r (some 93)), none, none] [] h (fun r h' => ex_ (d + 1) 258 20 [some (v_r (some 93))] (r.toList ++ []) h' Q) := by
  unfold ex_
  refine (am_Y_go 1 (ok := []) (g := (17, [some (v_r (some 93))], [v_r (some 93)], h)) rfl).trans ?_
  all_goals exact ((am_Y_call (j := 255) (na := 1) (ci := 12) (fl := 0) rfl rfl rfl).trans (cj_d ⟨⟨Nat.le_of_ble_eq_true rfl, Nat.le_of_ble_eq_true rfl, Nat.le_of_ble_eq_true rfl, rfl⟩, Or.inr (Or.inr (show (12 : Nat) < 20 ∧ am_is h (some 93) 12 from ⟨by decide, (la_is Lh (o := 93) rfl)⟩))⟩ Iff.rfl))

theorem b_X12_readLine_28 {d : Nat} {Q : Option am_V → am_H → Prop} (h : am_H) (s0 : Int32) (l0 : Option am_V) : ex_ d 258 28 [l0] [v_i s0] h Q ↔ if s0 = 0 then ex_ d 258 38 [l0] [] h Q else ex_ d 258 31 [l0] [] h Q := by
  unfold ex_
  refine (am_Y_go 1 (ok := []) (g := (if s0 = 0 then 38 else 31, [l0], [], h)) rfl).trans ?_
  all_goals exact am_Y_if

theorem b_X12_readLine_20 {d : Nat} {Q : Option am_V → am_H → Prop} (h : am_H) (l0 : Option am_V) : ex_ d 258 20 [l0] [] h Q ↔ Q (none) h := by
  unfold ex_
  refine (am_Y_go 1 (ok := []) (g := (75, [l0], [], h)) rfl).trans ?_
  all_goals exact ((am_Y_ret rfl rfl rfl).trans (am_rz rfl))

theorem b_X12_readLine_38 {d : Nat} {Q : Option am_V → am_H → Prop} (h : am_H) (Lh : Lay h) : ex_ (d + 1) 258 38 [some (v_r (some 93))] [] h Q ↔ ex_ d 239 0 [some (v_r (some 93)), some (v_i (7 : Int32))] [] h (fun r h' => ex_ (d + 1) 258 44 [some (v_r (some 93))] (r.toList ++ []) h' Q) := by
  unfold ex_
  refine (am_Y_go 2 (ok := []) (g := (41, [some (v_r (some 93))], [v_i (7 : Int32), v_r (some 93)], h)) rfl).trans ?_
  all_goals exact ((am_Y_call (j := 239) (na := 2) (ci := 12) (fl := 0) rfl rfl rfl).trans (cj_d ⟨⟨Nat.le_of_ble_eq_true rfl, Nat.le_of_ble_eq_true rfl, Nat.le_of_ble_eq_true rfl, rfl⟩, Or.inr (Or.inr (show (12 : Nat) < 20 ∧ am_is h (some 93) 12 from ⟨by decide, (la_is Lh (o := 93) rfl)⟩))⟩ Iff.rfl))

theorem b_X12_readLine_31 {d : Nat} {Q : Option am_V → am_H → Prop} (h : am_H) (Lh : Lay h) : ex_ (d + 1) 258 31 [some (v_r (some 93))] [] h Q ↔ ex_ d 256 0 [some (v_r (some 93)), none, none, none] [] h (fun r h' => ex_ (d + 1) 258 35 [some (v_r (some 93))] (r.toList ++ []) h' Q) := by
  unfold ex_
  refine (am_Y_go 1 (ok := []) (g := (32, [some (v_r (some 93))], [v_r (some 93)], h)) rfl).trans ?_
  all_goals exact ((am_Y_call (j := 256) (na := 1) (ci := 12) (fl := 0) rfl rfl rfl).trans (cj_d ⟨⟨Nat.le_of_ble_eq_true rfl, Nat.le_of_ble_eq_true rfl, Nat.le_of_ble_eq_true rfl, rfl⟩, Or.inr (Or.inr (show (12 : Nat) < 20 ∧ am_is h (some 93) 12 from ⟨by decide, (la_is Lh (o := 93) rfl)⟩))⟩ Iff.rfl))

theorem b_X12_readLine_44 {d : Nat} {Q : Option am_V → am_H → Prop} (h : am_H) (s0 : Int32) (l0 : Option am_V) : ex_ d 258 44 [l0] [v_i s0] h Q ↔ if ¬ s0 = 0 then ex_ d 258 56 [l0] [] h Q else ex_ d 258 47 [l0] [] h Q := by
  unfold ex_
  refine (am_Y_go 1 (ok := []) (g := (if ¬ s0 = 0 then 56 else 47, [l0], [], h)) rfl).trans ?_
  all_goals exact am_Y_if

theorem b_X12_readLine_35 {d : Nat} {Q : Option am_V → am_H → Prop} (h : am_H) (l0 : Option am_V) : ex_ d 258 35 [l0] [] h Q ↔ Q (none) h := by
  unfold ex_
  refine (am_Y_go 1 (ok := []) (g := (75, [l0], [], h)) rfl).trans ?_
  all_goals exact ((am_Y_ret rfl rfl rfl).trans (am_rz rfl))

theorem b_X12_readLine_56 {d : Nat} {Q : Option am_V → am_H → Prop} (h : am_H) (Lh : Lay h) : ex_ (d + 1) 258 56 [some (v_r (some 93))] [] h Q ↔ ex_ d 257 0 [some (v_r (some 93)), some (v_i ((h_i h 93 9) - (7 : Int32))), none] [] h (fun r h' => ex_ (d + 1) 258 67 [some (v_r (some 93))] (r.toList ++ []) h' Q) := by
  unfold ex_
  refine (am_Y_go 5 (ok := [am_is h (some 93) 12]) (g := (64, [some (v_r (some 93))], [v_i ((h_i h 93 9) - (7 : Int32)), v_r (some 93)], h)) rfl).trans ?_
  simp only [am_all]
  all_goals exact cj_d (la_is Lh (o := 93) rfl) (((am_Y_call (j := 257) (na := 2) (ci := 12) (fl := 0) rfl rfl rfl).trans (cj_d ⟨⟨Nat.le_of_ble_eq_true rfl, Nat.le_of_ble_eq_true rfl, Nat.le_of_ble_eq_true rfl, rfl⟩, Or.inr (Or.inr (show (12 : Nat) < 20 ∧ am_is h (some 93) 12 from ⟨by decide, (la_is Lh (o := 93) rfl)⟩))⟩ Iff.rfl)))

theorem b_X12_readLine_47 {d : Nat} {Q : Option am_V → am_H → Prop} (h : am_H) (Lh : Lay h) : ex_ (d + 1) 258 47 [some (v_r (some 93))] [] h Q ↔ ex_ d 239 0 [some (v_r (some 93)), some (v_i (8 : Int32))] [] h (fun r h' => ex_ (d + 1) 258 53 [some (v_r (some 93))] (r.toList ++ []) h' Q) := by
  unfold ex_
  refine (am_Y_go 2 (ok := []) (g := (50, [some (v_r (some 93))], [v_i (8 : Int32), v_r (some 93)], h)) rfl).trans ?_
  all_goals exact ((am_Y_call (j := 239) (na := 2) (ci := 12) (fl := 0) rfl rfl rfl).trans (cj_d ⟨⟨Nat.le_of_ble_eq_true rfl, Nat.le_of_ble_eq_true rfl, Nat.le_of_ble_eq_true rfl, rfl⟩, Or.inr (Or.inr (show (12 : Nat) < 20 ∧ am_is h (some 93) 12 from ⟨by decide, (la_is Lh (o := 93) rfl)⟩))⟩ Iff.rfl))

theorem b_X12_readLine_67 {d : Nat} {Q : Option am_V → am_H → Prop} (h : am_H) (l0 : Option am_V) : ex_ d 258 67 [l0] [] h Q ↔ Q (none) h := by
  unfold ex_
  refine (am_Y_go 1 (ok := []) (g := (75, [l0], [], h)) rfl).trans ?_
  all_goals exact ((am_Y_ret rfl rfl rfl).trans (am_rz rfl))

theorem b_X12_readLine_53 {d : Nat} {Q : Option am_V → am_H → Prop} (h : am_H) (s0 : Int32) (l0 : Option am_V) : ex_ d 258 53 [l0] [v_i s0] h Q ↔ if s0 = 0 then ex_ d 258 70 [l0] [] h Q else ex_ d 258 56 [l0] [] h Q := by
  unfold ex_
  refine (am_Y_go 1 (ok := []) (g := (if s0 = 0 then 70 else 56, [l0], [], h)) rfl).trans ?_
  all_goals exact am_Y_if

theorem b_X12_readLine_70 {d : Nat} {Q : Option am_V → am_H → Prop} (h : am_H) (Lh : Lay h) : ex_ (d + 1) 258 70 [some (v_r (some 93))] [] h Q ↔ ex_ d 238 0 [some (v_r (some 93)), some (v_i (2 : Int32))] [] h (fun r h' => ex_ (d + 1) 258 75 [some (v_r (some 93))] (r.toList ++ []) h' Q) := by
  unfold ex_
  refine (am_Y_go 2 (ok := []) (g := (72, [some (v_r (some 93))], [v_i (2 : Int32), v_r (some 93)], h)) rfl).trans ?_
  all_goals exact ((am_Y_call (j := 238) (na := 2) (ci := 12) (fl := 0) rfl rfl rfl).trans (cj_d ⟨⟨Nat.le_of_ble_eq_true rfl, Nat.le_of_ble_eq_true rfl, Nat.le_of_ble_eq_true rfl, rfl⟩, Or.inr (Or.inr (show (12 : Nat) < 20 ∧ am_is h (some 93) 12 from ⟨by decide, (la_is Lh (o := 93) rfl)⟩))⟩ Iff.rfl))

theorem b_X12_readLine_75 {d : Nat} {Q : Option am_V → am_H → Prop} (h : am_H) (l0 : Option am_V) : ex_ d 258 75 [l0] [] h Q ↔ Q (none) h := by
  unfold ex_
  exact ((am_Y_ret rfl rfl rfl).trans (am_rz rfl))

theorem b_X12_closes_0 {d : Nat} {Q : Option am_V → am_H → Prop} (h : am_H) (Lh : Lay h) : ex_ (d + 1) 259 0 [some (v_r (some 93))] [] h Q ↔ ex_ d 240 0 [some (v_r (some 93)), some (v_i (30 : Int32))] [] h (fun r h' => ex_ (d + 1) 259 6 [some (v_r (some 93))] (r.toList ++ []) h' Q) := by
  unfold ex_
  refine (am_Y_go 2 (ok := []) (g := (3, [some (v_r (some 93))], [v_i (30 : Int32), v_r (some 93)], h)) rfl).trans ?_
  all_goals exact ((am_Y_call (j := 240) (na := 2) (ci := 12) (fl := 0) rfl rfl rfl).trans (cj_d ⟨⟨Nat.le_of_ble_eq_true rfl, Nat.le_of_ble_eq_true rfl, Nat.le_of_ble_eq_true rfl, rfl⟩, Or.inr (Or.inr (show (12 : Nat) < 20 ∧ am_is h (some 93) 12 from ⟨by decide, (la_is Lh (o := 93) rfl)⟩))⟩ Iff.rfl))

theorem b_X12_closes_6 {d : Nat} {Q : Option am_V → am_H → Prop} (h : am_H) (s0 : Int32) (l0 : Option am_V) : ex_ d 259 6 [l0] [v_i s0] h Q ↔ if ¬ s0 = 0 then ex_ d 259 14 [l0] [] h Q else ex_ d 259 9 [l0] [] h Q := by
  unfold ex_
  refine (am_Y_go 1 (ok := []) (g := (if ¬ s0 = 0 then 14 else 9, [l0], [], h)) rfl).trans ?_
  all_goals exact am_Y_if

theorem b_X12_closes_14 {d : Nat} {Q : Option am_V → am_H → Prop} (h : am_H) (Lh : Lay h) : ex_ d 259 14 [some (v_r (some 93))] [] h Q ↔ vp_in (0 : Int32) 2351 ∧ vp_in (0 : Int32) 2351 ∧ Q (none) (p_i h 97 (Int32.toNatClampNeg (0 : Int32)) ((h_i h 97 (Int32.toNatClampNeg (0 : Int32))) + (1 : Int32))) := by
  have e0 : h_r h 93 4 = some 97 := la_r Lh (q := (93, 4, 97)) (by decide)
  unfold ex_
  refine (am_Y_go 8 (ok := [am_is h (some 93) 12, am_ar h ((h_r h 93 4)) 20 (0 : Int32), am_ar h ((h_r h 93 4)) 20 (0 : Int32)]) (g := (24, [some (v_r (some 93))], [], (p_i h ((h_r h 93 4).getD 0) (Int32.toNatClampNeg (0 : Int32)) ((h_i h ((h_r h 93 4).getD 0) (Int32.toNatClampNeg (0 : Int32))) + (1 : Int32))))) rfl).trans ?_
  simp only [e0, Option.getD_some, am_all]
  all_goals exact cj_d (la_is Lh (o := 93) rfl) (cj_k (la_ar Lh (o := 97) rfl) (cj_k (la_ar Lh (o := 97) rfl) (((am_Y_ret rfl rfl rfl).trans (am_rz rfl)))))

theorem b_X12_closes_9 {d : Nat} {Q : Option am_V → am_H → Prop} (h : am_H) (Lh : Lay h) : ex_ (d + 1) 259 9 [some (v_r (some 93))] [] h Q ↔ ex_ d 238 0 [some (v_r (some 93)), some (v_i (2 : Int32))] [] h (fun r h' => ex_ (d + 1) 259 14 [some (v_r (some 93))] (r.toList ++ []) h' Q) := by
  unfold ex_
  refine (am_Y_go 2 (ok := []) (g := (11, [some (v_r (some 93))], [v_i (2 : Int32), v_r (some 93)], h)) rfl).trans ?_
  all_goals exact ((am_Y_call (j := 238) (na := 2) (ci := 12) (fl := 0) rfl rfl rfl).trans (cj_d ⟨⟨Nat.le_of_ble_eq_true rfl, Nat.le_of_ble_eq_true rfl, Nat.le_of_ble_eq_true rfl, rfl⟩, Or.inr (Or.inr (show (12 : Nat) < 20 ∧ am_is h (some 93) 12 from ⟨by decide, (la_is Lh (o := 93) rfl)⟩))⟩ Iff.rfl))

theorem b_X12_house_0 {d : Nat} {Q : Option am_V → am_H → Prop} (h : am_H) (x1 : Int32) (l2 : Option am_V) (Lh : Lay h) : ex_ (d + 1) 260 0 [some (v_r (some 93)), some (v_i x1), l2] [] h Q ↔ ex_ d 229 0 [some (v_l (Int32.toInt64 x1)), none, some (v_l (0 : Int64)), none, some (v_l (Int32.toInt64 (h_i (p_i h 93 0 (0 : Int32)) 93 5))), none] [] (p_i h 93 0 (0 : Int32)) (fun r h' => ex_ (d + 1) 260 16 [some (v_r (some 93)), some (v_i x1), l2] (r.toList ++ []) h' Q) := by
  unfold ex_
  refine (am_Y_go 9 (ok := [am_is h (some 93) 12, am_is h (some 93) 12]) (g := (13, [some (v_r (some 93)), some (v_i x1), l2], [v_l (Int32.toInt64 (h_i (p_i h 93 0 (0 : Int32)) 93 5)), v_l (0 : Int64), v_l (Int32.toInt64 x1)], (p_i h 93 0 (0 : Int32)))) rfl).trans ?_
  simp only [am_all]
  all_goals exact cj_d (la_is Lh (o := 93) rfl) (cj_d (la_is Lh (o := 93) rfl) (((am_Y_call (j := 229) (na := 3) (ci := 12) (fl := 2) rfl rfl rfl).trans (cj_d ⟨⟨Nat.le_of_ble_eq_true rfl, Nat.le_of_ble_eq_true rfl, Nat.le_of_ble_eq_true rfl, rfl⟩, Or.inl rfl⟩ Iff.rfl))))

theorem b_X12_house_16 {d : Nat} {Q : Option am_V → am_H → Prop} (h : am_H) (s0 : Int32) (l0 l1 l2 : Option am_V) : ex_ d 260 16 [l0, l1, l2] [v_i s0] h Q ↔ if ¬ s0 = 0 then ex_ d 260 22 [l0, l1, l2] [] h Q else ex_ d 260 19 [l0, l1, l2] [] h Q := by
  unfold ex_
  refine (am_Y_go 1 (ok := []) (g := (if ¬ s0 = 0 then 22 else 19, [l0, l1, l2], [], h)) rfl).trans ?_
  all_goals exact am_Y_if

theorem b_X12_house_22 {d : Nat} {Q : Option am_V → am_H → Prop} (h : am_H) (x1 : Int32) (l2 : Option am_V) (Lh : Lay h) : ex_ (d + 1) 260 22 [some (v_r (some 93)), some (v_i x1), l2] [] h Q ↔ ex_ d 230 0 [some (v_r (some 97)), none] [] (p_i (p_i (p_i (p_i h 93 8 x1) 93 5 (0 : Int32)) 93 7 (0 : Int32)) 93 11 (0 : Int32)) (fun r h' => ex_ (d + 1) 260 49 [some (v_r (some 93)), some (v_i x1), l2] (r.toList ++ []) h' Q) := by
  have e0 : h_r h 93 4 = some 97 := la_r Lh (q := (93, 4, 97)) (by decide)
  unfold ex_
  refine (am_Y_go 14 (ok := [am_is h (some 93) 12, am_is h (some 93) 12, am_is h (some 93) 12, am_is h (some 93) 12, am_is h (some 93) 12]) (g := (46, [some (v_r (some 93)), some (v_i x1), l2], [v_r ((h_r h 93 4))], (p_i (p_i (p_i (p_i h 93 8 x1) 93 5 (0 : Int32)) 93 7 (0 : Int32)) 93 11 (0 : Int32)))) rfl).trans ?_
  simp only [e0, Option.getD_some, am_all]
  all_goals exact cj_d (la_is Lh (o := 93) rfl) (cj_d (la_is Lh (o := 93) rfl) (cj_d (la_is Lh (o := 93) rfl) (cj_d (la_is Lh (o := 93) rfl) (cj_d (la_is Lh (o := 93) rfl) (((am_Y_call (j := 230) (na := 1) (ci := 12) (fl := 2) rfl rfl rfl).trans (cj_d ⟨⟨Nat.le_of_ble_eq_true rfl, Nat.le_of_ble_eq_true rfl, Nat.le_of_ble_eq_true rfl, rfl⟩, Or.inl rfl⟩ Iff.rfl)))))))

theorem b_X12_house_19 {d : Nat} {Q : Option am_V → am_H → Prop} (h : am_H) (l0 l1 l2 : Option am_V) : ex_ d 260 19 [l0, l1, l2] [] h Q ↔ Q (some (v_i (-3 : Int32))) h := by
  unfold ex_
  refine (am_Y_go 1 (ok := []) (g := (21, [l0, l1, l2], [v_i (-3 : Int32)], h)) rfl).trans ?_
  all_goals exact ((am_Y_ret rfl rfl rfl).trans (am_r0))

theorem b_X12_house_49 {d : Nat} {Q : Option am_V → am_H → Prop} (h : am_H) (l1 l2 : Option am_V) (Lh : Lay h) : ex_ (d + 1) 260 49 [some (v_r (some 93)), l1, l2] [] h Q ↔ ex_ d 237 0 [some (v_r (some 93)), none] [] h (fun r h' => ex_ (d + 1) 260 53 [some (v_r (some 93)), l1, l2] (r.toList ++ []) h' Q) := by
  unfold ex_
  refine (am_Y_go 1 (ok := []) (g := (50, [some (v_r (some 93)), l1, l2], [v_r (some 93)], h)) rfl).trans ?_
  all_goals exact ((am_Y_call (j := 237) (na := 1) (ci := 12) (fl := 0) rfl rfl rfl).trans (cj_d ⟨⟨Nat.le_of_ble_eq_true rfl, Nat.le_of_ble_eq_true rfl, Nat.le_of_ble_eq_true rfl, rfl⟩, Or.inr (Or.inr (show (12 : Nat) < 20 ∧ am_is h (some 93) 12 from ⟨by decide, (la_is Lh (o := 93) rfl)⟩))⟩ Iff.rfl))

theorem b_X12_house_53 {d : Nat} {Q : Option am_V → am_H → Prop} (h : am_H) (l1 l2 : Option am_V) (Lh : Lay h) : ex_ (d + 1) 260 53 [some (v_r (some 93)), l1, l2] [] h Q ↔ ex_ d 240 0 [some (v_r (some 93)), some (v_i (0 : Int32))] [] h (fun r h' => ex_ (d + 1) 260 58 [some (v_r (some 93)), l1, l2] (r.toList ++ []) h' Q) := by
  unfold ex_
  refine (am_Y_go 2 (ok := []) (g := (55, [some (v_r (some 93)), l1, l2], [v_i (0 : Int32), v_r (some 93)], h)) rfl).trans ?_
  all_goals exact ((am_Y_call (j := 240) (na := 2) (ci := 12) (fl := 0) rfl rfl rfl).trans (cj_d ⟨⟨Nat.le_of_ble_eq_true rfl, Nat.le_of_ble_eq_true rfl, Nat.le_of_ble_eq_true rfl, rfl⟩, Or.inr (Or.inr (show (12 : Nat) < 20 ∧ am_is h (some 93) 12 from ⟨by decide, (la_is Lh (o := 93) rfl)⟩))⟩ Iff.rfl))

theorem b_X12_house_58 {d : Nat} {Q : Option am_V → am_H → Prop} (h : am_H) (s0 : Int32) (l0 l1 l2 : Option am_V) : ex_ d 260 58 [l0, l1, l2] [v_i s0] h Q ↔ if ¬ s0 = 0 then ex_ d 260 66 [l0, l1, l2] [] h Q else ex_ d 260 61 [l0, l1, l2] [] h Q := by
  unfold ex_
  refine (am_Y_go 1 (ok := []) (g := (if ¬ s0 = 0 then 66 else 61, [l0, l1, l2], [], h)) rfl).trans ?_
  all_goals exact am_Y_if

theorem b_X12_house_66 {d : Nat} {Q : Option am_V → am_H → Prop} (h : am_H) (l1 l2 : Option am_V) (Lh : Lay h) : ex_ (d + 1) 260 66 [some (v_r (some 93)), l1, l2] [] h Q ↔ ex_ d 253 0 [some (v_r (some 93)), some (v_i (1 : Int32)), some (v_i (0 : Int32)), some (v_i (9 : Int32))] [] h (fun r h' => ex_ (d + 1) 260 81 [some (v_r (some 93)), l1, l2] (r.toList ++ [v_i (138 : Int32), v_r (some 97)]) h' Q) := by
  have e0 : h_r h 93 4 = some 97 := la_r Lh (q := (93, 4, 97)) (by decide)
  unfold ex_
  refine (am_Y_go 7 (ok := [am_is h (some 93) 12]) (g := (78, [some (v_r (some 93)), l1, l2], [v_i (9 : Int32), v_i (0 : Int32), v_i (1 : Int32), v_r (some 93), v_i (138 : Int32), v_r ((h_r h 93 4))], h)) rfl).trans ?_
  simp only [e0, Option.getD_some, am_all]
  all_goals exact cj_d (la_is Lh (o := 93) rfl) (((am_Y_call (j := 253) (na := 4) (ci := 12) (fl := 0) rfl rfl rfl).trans (cj_d ⟨⟨Nat.le_of_ble_eq_true rfl, Nat.le_of_ble_eq_true rfl, Nat.le_of_ble_eq_true rfl, rfl⟩, Or.inr (Or.inr (show (12 : Nat) < 20 ∧ am_is h (some 93) 12 from ⟨by decide, (la_is Lh (o := 93) rfl)⟩))⟩ Iff.rfl)))

theorem b_X12_house_61 {d : Nat} {Q : Option am_V → am_H → Prop} (h : am_H) (l1 l2 : Option am_V) (Lh : Lay h) : ex_ (d + 1) 260 61 [some (v_r (some 93)), l1, l2] [] h Q ↔ ex_ d 238 0 [some (v_r (some 93)), some (v_i (2 : Int32))] [] h (fun r h' => ex_ (d + 1) 260 66 [some (v_r (some 93)), l1, l2] (r.toList ++ []) h' Q) := by
  unfold ex_
  refine (am_Y_go 2 (ok := []) (g := (63, [some (v_r (some 93)), l1, l2], [v_i (2 : Int32), v_r (some 93)], h)) rfl).trans ?_
  all_goals exact ((am_Y_call (j := 238) (na := 2) (ci := 12) (fl := 0) rfl rfl rfl).trans (cj_d ⟨⟨Nat.le_of_ble_eq_true rfl, Nat.le_of_ble_eq_true rfl, Nat.le_of_ble_eq_true rfl, rfl⟩, Or.inr (Or.inr (show (12 : Nat) < 20 ∧ am_is h (some 93) 12 from ⟨by decide, (la_is Lh (o := 93) rfl)⟩))⟩ Iff.rfl))

theorem b_X12_house_81 {d : Nat} {Q : Option am_V → am_H → Prop} (h : am_H) (s0 : Int32) (s1 : Int32) (t2 : Nat) (l1 l2 : Option am_V) (Lh : Lay h) {n_t2 : Nat} (A_t2 : y_arr h t2 20 n_t2) : ex_ (d + 1) 260 81 [some (v_r (some 93)), l1, l2] [v_i s0, v_i s1, v_r (some t2)] h Q ↔ vp_in s1 n_t2 ∧ ex_ d 259 0 [some (v_r (some 93))] [] (p_i h t2 (Int32.toNatClampNeg s1) s0) (fun r h' => ex_ (d + 1) 260 86 [some (v_r (some 93)), l1, l2] (r.toList ++ []) h' Q) := by
  unfold ex_
  refine (am_Y_go 2 (ok := [am_ar h (some t2) 20 s1]) (g := (83, [some (v_r (some 93)), l1, l2], [v_r (some 93)], (p_i h t2 (Int32.toNatClampNeg s1) s0))) rfl).trans ?_
  simp only [am_all]
  all_goals exact cj_k (lb_ar A_t2) (((am_Y_call (j := 259) (na := 1) (ci := 12) (fl := 0) rfl rfl rfl).trans (cj_d ⟨⟨Nat.le_of_ble_eq_true rfl, Nat.le_of_ble_eq_true rfl, Nat.le_of_ble_eq_true rfl, rfl⟩, Or.inr (Or.inr (show (12 : Nat) < 20 ∧ am_is h (some 93) 12 from ⟨by decide, (la_is Lh (o := 93) rfl)⟩))⟩ Iff.rfl)))

theorem b_X12_house_86 {d : Nat} {Q : Option am_V → am_H → Prop} (h : am_H) (l1 l2 : Option am_V) (Lh : Lay h) : ex_ d 260 86 [some (v_r (some 93)), l1, l2] [] h Q ↔ if ¬ (h_i h 93 11) = 0 then ex_ d 260 113 [some (v_r (some 93)), l1, l2] [] h Q else ex_ d 260 93 [some (v_r (some 93)), l1, l2] [] h Q := by
  unfold ex_
  refine (am_Y_go 3 (ok := [am_is h (some 93) 12]) (g := (if ¬ (h_i h 93 11) = 0 then 113 else 93, [some (v_r (some 93)), l1, l2], [], h)) rfl).trans ?_
  simp only [am_all]
  all_goals exact cj_d (la_is Lh (o := 93) rfl) (am_Y_if)

theorem b_X12_house_113 {d : Nat} {Q : Option am_V → am_H → Prop} (h : am_H) (l1 l2 : Option am_V) (Lh : Lay h) : ex_ d 260 113 [some (v_r (some 93)), l1, l2] [] h Q ↔ if ¬ (h_i (p_i h 93 13 (h_i h 93 11)) 93 11) = 0 then ex_ d 260 133 [some (v_r (some 93)), l1, l2] [v_r (some 93)] (p_i h 93 13 (h_i h 93 11)) Q else ex_ d 260 129 [some (v_r (some 93)), l1, l2] [v_r (some 93)] (p_i h 93 13 (h_i h 93 11)) Q := by
  unfold ex_
  refine (am_Y_go 8 (ok := [am_is h (some 93) 12, am_is h (some 93) 12, am_is h (some 93) 12]) (g := (if ¬ (h_i (p_i h 93 13 (h_i h 93 11)) 93 11) = 0 then 133 else 129, [some (v_r (some 93)), l1, l2], [v_r (some 93)], (p_i h 93 13 (h_i h 93 11)))) rfl).trans ?_
  simp only [am_all]
  all_goals exact cj_d (la_is Lh (o := 93) rfl) (cj_d (la_is Lh (o := 93) rfl) (cj_d (la_is Lh (o := 93) rfl) (am_Y_if)))

theorem b_X12_house_93 {d : Nat} {Q : Option am_V → am_H → Prop} (h : am_H) (l1 l2 : Option am_V) (Lh : Lay h) : ex_ d 260 93 [some (v_r (some 93)), l1, l2] [] h Q ↔ if (h_i h 93 9) = (24 : Int32) then ex_ d 260 113 [some (v_r (some 93)), l1, l2] [] h Q else ex_ d 260 102 [some (v_r (some 93)), l1, l2] [] h Q := by
  unfold ex_
  refine (am_Y_go 4 (ok := [am_is h (some 93) 12]) (g := (if (h_i h 93 9) = (24 : Int32) then 113 else 102, [some (v_r (some 93)), l1, l2], [], h)) rfl).trans ?_
  simp only [am_all]
  all_goals exact cj_d (la_is Lh (o := 93) rfl) (am_Y_if)

theorem b_X12_house_133 {d : Nat} {Q : Option am_V → am_H → Prop} (h : am_H) (l1 l2 : Option am_V) (Lh : Lay h) : ex_ d 260 133 [some (v_r (some 93)), l1, l2] [v_r (some 93)] h Q ↔ if (h_i (p_i h 93 14 (h_i h 93 12)) 93 11) = 0 then ex_ d 260 155 [some (v_r (some 93)), l1, l2] [] (p_i h 93 14 (h_i h 93 12)) Q else ex_ d 260 147 [some (v_r (some 93)), l1, l2] [] (p_i h 93 14 (h_i h 93 12)) Q := by
  unfold ex_
  refine (am_Y_go 6 (ok := [am_is h (some 93) 12, am_is h (some 93) 12, am_is h (some 93) 12]) (g := (if (h_i (p_i h 93 14 (h_i h 93 12)) 93 11) = 0 then 155 else 147, [some (v_r (some 93)), l1, l2], [], (p_i h 93 14 (h_i h 93 12)))) rfl).trans ?_
  simp only [am_all]
  all_goals exact cj_d (la_is Lh (o := 93) rfl) (cj_d (la_is Lh (o := 93) rfl) (cj_d (la_is Lh (o := 93) rfl) (am_Y_if)))

theorem b_X12_house_129 {d : Nat} {Q : Option am_V → am_H → Prop} (h : am_H) (l1 l2 : Option am_V) (Lh : Lay h) : ex_ d 260 129 [some (v_r (some 93)), l1, l2] [v_r (some 93)] h Q ↔ if (h_i (p_i h 93 14 (-1 : Int32)) 93 11) = 0 then ex_ d 260 155 [some (v_r (some 93)), l1, l2] [] (p_i h 93 14 (-1 : Int32)) Q else ex_ d 260 147 [some (v_r (some 93)), l1, l2] [] (p_i h 93 14 (-1 : Int32)) Q := by
  unfold ex_
  refine (am_Y_go 6 (ok := [am_is h (some 93) 12, am_is h (some 93) 12]) (g := (if (h_i (p_i h 93 14 (-1 : Int32)) 93 11) = 0 then 155 else 147, [some (v_r (some 93)), l1, l2], [], (p_i h 93 14 (-1 : Int32)))) rfl).trans ?_
  simp only [am_all]
  all_goals exact cj_d (la_is Lh (o := 93) rfl) (cj_d (la_is Lh (o := 93) rfl) (am_Y_if))

theorem b_X12_house_102 {d : Nat} {Q : Option am_V → am_H → Prop} (h : am_H) (l1 l2 : Option am_V) (Lh : Lay h) : ex_ (d + 1) 260 102 [some (v_r (some 93)), l1, l2] [] h Q ↔ ex_ d 258 0 [some (v_r (some 93))] [] h (fun r h' => ex_ (d + 1) 260 106 [some (v_r (some 93)), l1, l2] (r.toList ++ []) h' Q) := by
  unfold ex_
  refine (am_Y_go 1 (ok := []) (g := (103, [some (v_r (some 93)), l1, l2], [v_r (some 93)], h)) rfl).trans ?_
  all_goals exact ((am_Y_call (j := 258) (na := 1) (ci := 12) (fl := 0) rfl rfl rfl).trans (cj_d ⟨⟨Nat.le_of_ble_eq_true rfl, Nat.le_of_ble_eq_true rfl, Nat.le_of_ble_eq_true rfl, rfl⟩, Or.inr (Or.inr (show (12 : Nat) < 20 ∧ am_is h (some 93) 12 from ⟨by decide, (la_is Lh (o := 93) rfl)⟩))⟩ Iff.rfl))

theorem b_X12_house_155 {d : Nat} {Q : Option am_V → am_H → Prop} (h : am_H) (l0 l1 l2 : Option am_V) : ex_ d 260 155 [l0, l1, l2] [] h Q ↔ ex_ d 260 157 [l0, l1, some (v_i (0 : Int32))] [] h Q := by
  unfold ex_
  refine (am_Y_go 2 (ok := []) (g := (157, [l0, l1, some (v_i (0 : Int32))], [], h)) rfl).trans ?_
  all_goals exact Iff.rfl

theorem b_X12_house_147 {d : Nat} {Q : Option am_V → am_H → Prop} (h : am_H) (l1 l2 : Option am_V) (Lh : Lay h) : ex_ d 260 147 [some (v_r (some 93)), l1, l2] [] h Q ↔ Q (some (v_i ((-30 : Int32) - (h_i h 93 11)))) h := by
  unfold ex_
  refine (am_Y_go 4 (ok := [am_is h (some 93) 12]) (g := (154, [some (v_r (some 93)), l1, l2], [v_i ((-30 : Int32) - (h_i h 93 11))], h)) rfl).trans ?_
  simp only [am_all]
  all_goals exact cj_d (la_is Lh (o := 93) rfl) (((am_Y_ret rfl rfl rfl).trans (am_r0)))

theorem b_X12_house_106 {d : Nat} {Q : Option am_V → am_H → Prop} (h : am_H) (l1 l2 : Option am_V) (Lh : Lay h) : ex_ (d + 1) 260 106 [some (v_r (some 93)), l1, l2] [] h Q ↔ ex_ d 259 0 [some (v_r (some 93))] [] h (fun r h' => ex_ (d + 1) 260 110 [some (v_r (some 93)), l1, l2] (r.toList ++ []) h' Q) := by
  unfold ex_
  refine (am_Y_go 1 (ok := []) (g := (107, [some (v_r (some 93)), l1, l2], [v_r (some 93)], h)) rfl).trans ?_
  all_goals exact ((am_Y_call (j := 259) (na := 1) (ci := 12) (fl := 0) rfl rfl rfl).trans (cj_d ⟨⟨Nat.le_of_ble_eq_true rfl, Nat.le_of_ble_eq_true rfl, Nat.le_of_ble_eq_true rfl, rfl⟩, Or.inr (Or.inr (show (12 : Nat) < 20 ∧ am_is h (some 93) 12 from ⟨by decide, (la_is Lh (o := 93) rfl)⟩))⟩ Iff.rfl))

theorem b_X12_house_157 {d : Nat} {Q : Option am_V → am_H → Prop} (h : am_H) (x2 : Int32) (l0 l1 : Option am_V) : ex_ d 260 157 [l0, l1, some (v_i x2)] [] h Q ↔ if (2351 : Int32) ≤ x2 then ex_ d 260 182 [l0, l1, some (v_i x2)] [] h Q else ex_ d 260 164 [l0, l1, some (v_i x2)] [] h Q := by
  unfold ex_
  refine (am_Y_go 3 (ok := []) (g := (if (2351 : Int32) ≤ x2 then 182 else 164, [l0, l1, some (v_i x2)], [], h)) rfl).trans ?_
  all_goals exact am_Y_if

theorem b_X12_house_110 {d : Nat} {Q : Option am_V → am_H → Prop} (h : am_H) (l0 l1 l2 : Option am_V) : ex_ d 260 110 [l0, l1, l2] [] h Q ↔ ex_ d 260 86 [l0, l1, l2] [] h Q := by
  unfold ex_
  refine (am_Y_go 1 (ok := []) (g := (86, [l0, l1, l2], [], h)) rfl).trans ?_
  all_goals exact Iff.rfl

theorem b_X12_house_182 {d : Nat} {Q : Option am_V → am_H → Prop} (h : am_H) (l1 l2 : Option am_V) (Lh : Lay h) : ex_ d 260 182 [some (v_r (some 93)), l1, l2] [] h Q ↔ vp_in (0 : Int32) 7053 ∧ Q (some (v_i (h_i h 94 (Int32.toNatClampNeg (0 : Int32))))) h := by
  have e0 : h_r h 93 1 = some 94 := la_r Lh (q := (93, 1, 94)) (by decide)
  unfold ex_
  refine (am_Y_go 4 (ok := [am_is h (some 93) 12, am_ar h ((h_r h 93 1)) 20 (0 : Int32)]) (g := (188, [some (v_r (some 93)), l1, l2], [v_i (h_i h ((h_r h 93 1).getD 0) (Int32.toNatClampNeg (0 : Int32)))], h)) rfl).trans ?_
  simp only [e0, Option.getD_some, am_all]
  all_goals exact cj_d (la_is Lh (o := 93) rfl) (cj_k (la_ar Lh (o := 94) rfl) (((am_Y_ret rfl rfl rfl).trans (am_r0))))

theorem b_X12_house_164 {d : Nat} {Q : Option am_V → am_H → Prop} (h : am_H) (x2 : Int32) (l1 : Option am_V) (Lh : Lay h) : ex_ d 260 164 [some (v_r (some 93)), l1, some (v_i x2)] [] h Q ↔ vp_in x2 2351 ∧ vp_in x2 7053 ∧ ex_ d 260 157 [some (v_r (some 93)), l1, some (v_i (x2 + (1 : Int32)))] [] (p_i h 94 (Int32.toNatClampNeg x2) (h_i h 97 (Int32.toNatClampNeg x2))) Q := by
  have e0 : h_r h 93 1 = some 94 := la_r Lh (q := (93, 1, 94)) (by decide)
  have e1 : h_r h 93 4 = some 97 := la_r Lh (q := (93, 4, 97)) (by decide)
  unfold ex_
  refine (am_Y_go 10 (ok := [am_is h (some 93) 12, am_is h (some 93) 12, am_ar h ((h_r h 93 4)) 20 x2, am_ar h ((h_r h 93 1)) 20 x2]) (g := (157, [some (v_r (some 93)), l1, some (v_i (x2 + (1 : Int32)))], [], (p_i h ((h_r h 93 1).getD 0) (Int32.toNatClampNeg x2) (h_i h ((h_r h 93 4).getD 0) (Int32.toNatClampNeg x2))))) rfl).trans ?_
  simp only [e0, e1, Option.getD_some, am_all]
  all_goals exact cj_d (la_is Lh (o := 93) rfl) (cj_d (la_is Lh (o := 93) rfl) (cj_k (la_ar Lh (o := 97) rfl) (cj_k (la_ar Lh (o := 94) rfl) (Iff.rfl))))

theorem b_X12_fault_0 {d : Nat} {Q : Option am_V → am_H → Prop} (h : am_H) (x1 : Int32) (Lh : Lay h) : ex_ d 261 0 [some (v_r (some 93)), some (v_i x1)] [] h Q ↔ if ¬ x1 = 0 then ex_ d 261 16 [some (v_r (some 93)), some (v_i x1)] [] (p_i h 93 0 (0 : Int32)) Q else ex_ d 261 9 [some (v_r (some 93)), some (v_i x1)] [] (p_i h 93 0 (0 : Int32)) Q := by
  unfold ex_
  refine (am_Y_go 5 (ok := [am_is h (some 93) 12]) (g := (if ¬ x1 = 0 then 16 else 9, [some (v_r (some 93)), some (v_i x1)], [], (p_i h 93 0 (0 : Int32)))) rfl).trans ?_
  simp only [am_all]
  all_goals exact cj_d (la_is Lh (o := 93) rfl) (am_Y_if)

theorem b_X12_fault_16 {d : Nat} {Q : Option am_V → am_H → Prop} (h : am_H) (x1 : Int32) (l0 : Option am_V) : ex_ d 261 16 [l0, some (v_i x1)] [] h Q ↔ if ¬ x1 = (1 : Int32) then ex_ d 261 28 [l0, some (v_i x1)] [] h Q else ex_ d 261 21 [l0, some (v_i x1)] [] h Q := by
  unfold ex_
  refine (am_Y_go 3 (ok := []) (g := (if ¬ x1 = (1 : Int32) then 28 else 21, [l0, some (v_i x1)], [], h)) rfl).trans ?_
  all_goals exact am_Y_if

theorem b_X12_fault_9 {d : Nat} {Q : Option am_V → am_H → Prop} (h : am_H) (l1 : Option am_V) (Lh : Lay h) : ex_ d 261 9 [some (v_r (some 93)), l1] [] h Q ↔ Q (some (v_i (h_i h 93 13))) h := by
  unfold ex_
  refine (am_Y_go 3 (ok := [am_is h (some 93) 12]) (g := (29, [some (v_r (some 93)), l1], [v_i (h_i h 93 13)], h)) rfl).trans ?_
  simp only [am_all]
  all_goals exact cj_d (la_is Lh (o := 93) rfl) (((am_Y_ret rfl rfl rfl).trans (am_r0)))

theorem b_X12_fault_28 {d : Nat} {Q : Option am_V → am_H → Prop} (h : am_H) (l0 l1 : Option am_V) : ex_ d 261 28 [l0, l1] [] h Q ↔ Q (some (v_i (-1 : Int32))) h := by
  unfold ex_
  refine (am_Y_go 1 (ok := []) (g := (29, [l0, l1], [v_i (-1 : Int32)], h)) rfl).trans ?_
  all_goals exact ((am_Y_ret rfl rfl rfl).trans (am_r0))

theorem b_X12_fault_21 {d : Nat} {Q : Option am_V → am_H → Prop} (h : am_H) (l1 : Option am_V) (Lh : Lay h) : ex_ d 261 21 [some (v_r (some 93)), l1] [] h Q ↔ Q (some (v_i (h_i h 93 14))) h := by
  unfold ex_
  refine (am_Y_go 3 (ok := [am_is h (some 93) 12]) (g := (29, [some (v_r (some 93)), l1], [v_i (h_i h 93 14)], h)) rfl).trans ?_
  simp only [am_all]
  all_goals exact cj_d (la_is Lh (o := 93) rfl) (((am_Y_ret rfl rfl rfl).trans (am_r0)))

theorem b_X12_isClass_0 {d : Nat} {Q : Option am_V → am_H → Prop} (h : am_H) (x1 : Int64) (l2 : Option am_V) (Lh : Lay h) : ex_ (d + 1) 262 0 [some (v_r (some 93)), some (v_l x1), l2] [] h Q ↔ vp_in (1 : Int32) 7053 ∧ ex_ d 229 0 [some (v_l x1), none, some (v_l (0 : Int64)), none, some (v_l (Int32.toInt64 ((h_i h 94 (Int32.toNatClampNeg (1 : Int32))) - (1 : Int32)))), none] [] h (fun r h' => ex_ (d + 1) 262 14 [some (v_r (some 93)), some (v_l x1), l2] (r.toList ++ []) h' Q) := by
  have e0 : h_r h 93 1 = some 94 := la_r Lh (q := (93, 1, 94)) (by decide)
  unfold ex_
  refine (am_Y_go 9 (ok := [am_is h (some 93) 12, am_ar h ((h_r h 93 1)) 20 (1 : Int32)]) (g := (11, [some (v_r (some 93)), some (v_l x1), l2], [v_l (Int32.toInt64 ((h_i h ((h_r h 93 1).getD 0) (Int32.toNatClampNeg (1 : Int32))) - (1 : Int32))), v_l (0 : Int64), v_l x1], h)) rfl).trans ?_
  simp only [e0, Option.getD_some, am_all]
  all_goals exact cj_d (la_is Lh (o := 93) rfl) (cj_k (la_ar Lh (o := 94) rfl) (((am_Y_call (j := 229) (na := 3) (ci := 12) (fl := 2) rfl rfl rfl).trans (cj_d ⟨⟨Nat.le_of_ble_eq_true rfl, Nat.le_of_ble_eq_true rfl, Nat.le_of_ble_eq_true rfl, rfl⟩, Or.inl rfl⟩ Iff.rfl))))

theorem b_X12_isClass_14 {d : Nat} {Q : Option am_V → am_H → Prop} (h : am_H) (s0 : Int32) (l0 l1 l2 : Option am_V) : ex_ d 262 14 [l0, l1, l2] [v_i s0] h Q ↔ (s0 = 0 ∨ s0 = 1) ∧ Q (some (v_i s0)) h := by
  unfold ex_
  exact ((am_Y_ret rfl rfl rfl).trans (Iff.rfl))

theorem b_X12_isMethod_0 {d : Nat} {Q : Option am_V → am_H → Prop} (h : am_H) (x0 : Int64) (l1 : Option am_V) : ex_ (d + 1) 263 0 [some (v_l x0), l1] [] h Q ↔ ex_ d 229 0 [some (v_l x0), none, some (v_l (0 : Int64)), none, some (v_l (7 : Int64)), none] [] h (fun r h' => ex_ (d + 1) 263 8 [some (v_l x0), l1] (r.toList ++ []) h' Q) := by
  unfold ex_
  refine (am_Y_go 3 (ok := []) (g := (5, [some (v_l x0), l1], [v_l (7 : Int64), v_l (0 : Int64), v_l x0], h)) rfl).trans ?_
  all_goals exact ((am_Y_call (j := 229) (na := 3) (ci := 12) (fl := 2) rfl rfl rfl).trans (cj_d ⟨⟨Nat.le_of_ble_eq_true rfl, Nat.le_of_ble_eq_true rfl, Nat.le_of_ble_eq_true rfl, rfl⟩, Or.inl rfl⟩ Iff.rfl))

theorem b_X12_isMethod_8 {d : Nat} {Q : Option am_V → am_H → Prop} (h : am_H) (s0 : Int32) (l0 l1 : Option am_V) : ex_ d 263 8 [l0, l1] [v_i s0] h Q ↔ (s0 = 0 ∨ s0 = 1) ∧ Q (some (v_i s0)) h := by
  unfold ex_
  exact ((am_Y_ret rfl rfl rfl).trans (Iff.rfl))

theorem b_X12_parentAt_0 {d : Nat} {Q : Option am_V → am_H → Prop} (h : am_H) (x1 : Int32) (x2 : Int32) (Lh : Lay h) : ex_ d 264 0 [some (v_r (some 93)), some (v_i x1), some (v_i x2)] [] h Q ↔ vp_in (((18 : Int32) + ((4 : Int32) * x1)) + x2) 7053 ∧ Q (some (v_i (h_i h 94 (Int32.toNatClampNeg (((18 : Int32) + ((4 : Int32) * x1)) + x2))))) h := by
  have e0 : h_r h 93 1 = some 94 := la_r Lh (q := (93, 1, 94)) (by decide)
  unfold ex_
  refine (am_Y_go 10 (ok := [am_is h (some 93) 12, am_ar h ((h_r h 93 1)) 20 (((18 : Int32) + ((4 : Int32) * x1)) + x2)]) (g := (13, [some (v_r (some 93)), some (v_i x1), some (v_i x2)], [v_i (h_i h ((h_r h 93 1).getD 0) (Int32.toNatClampNeg (((18 : Int32) + ((4 : Int32) * x1)) + x2)))], h)) rfl).trans ?_
  simp only [e0, Option.getD_some, am_all]
  all_goals exact cj_d (la_is Lh (o := 93) rfl) (cj_k (la_ar Lh (o := 94) rfl) (((am_Y_ret rfl rfl rfl).trans (am_r0))))

theorem b_X12_placeOfParent_0 {d : Nat} {Q : Option am_V → am_H → Prop} (h : am_H) (l0 l1 l2 l3 : Option am_V) : ex_ d 265 0 [l0, l1, l2, l3] [] h Q ↔ ex_ d 265 2 [l0, l1, l2, some (v_i (0 : Int32))] [] h Q := by
  unfold ex_
  refine (am_Y_go 2 (ok := []) (g := (2, [l0, l1, l2, some (v_i (0 : Int32))], [], h)) rfl).trans ?_
  all_goals exact Iff.rfl

theorem b_X12_placeOfParent_2 {d : Nat} {Q : Option am_V → am_H → Prop} (h : am_H) (x3 : Int32) (x1 : Int32) (l2 : Option am_V) (Lh : Lay h) : ex_ d 265 2 [some (v_r (some 93)), some (v_i x1), l2, some (v_i x3)] [] h Q ↔ vp_in ((8 : Int32) + x1) 7053 ∧ (if (h_i h 94 (Int32.toNatClampNeg ((8 : Int32) + x1))) ≤ x3 then ex_ d 265 33 [some (v_r (some 93)), some (v_i x1), l2, some (v_i x3)] [] h Q else ex_ d 265 15 [some (v_r (some 93)), some (v_i x1), l2, some (v_i x3)] [] h Q) := by
  have e0 : h_r h 93 1 = some 94 := la_r Lh (q := (93, 1, 94)) (by decide)
  unfold ex_
  refine (am_Y_go 8 (ok := [am_is h (some 93) 12, am_ar h ((h_r h 93 1)) 20 ((8 : Int32) + x1)]) (g := (if (h_i h ((h_r h 93 1).getD 0) (Int32.toNatClampNeg ((8 : Int32) + x1))) ≤ x3 then 33 else 15, [some (v_r (some 93)), some (v_i x1), l2, some (v_i x3)], [], h)) rfl).trans ?_
  simp only [e0, Option.getD_some, am_all]
  all_goals exact cj_d (la_is Lh (o := 93) rfl) (cj_k (la_ar Lh (o := 94) rfl) (am_Y_if))

theorem b_X12_placeOfParent_33 {d : Nat} {Q : Option am_V → am_H → Prop} (h : am_H) (l0 l1 l2 l3 : Option am_V) : ex_ d 265 33 [l0, l1, l2, l3] [] h Q ↔ Q (some (v_i (-1 : Int32))) h := by
  unfold ex_
  refine (am_Y_go 1 (ok := []) (g := (34, [l0, l1, l2, l3], [v_i (-1 : Int32)], h)) rfl).trans ?_
  all_goals exact ((am_Y_ret rfl rfl rfl).trans (am_r0))

theorem b_X12_placeOfParent_15 {d : Nat} {Q : Option am_V → am_H → Prop} (h : am_H) (x1 : Int32) (x3 : Int32) (l2 : Option am_V) (Lh : Lay h) : ex_ (d + 1) 265 15 [some (v_r (some 93)), some (v_i x1), l2, some (v_i x3)] [] h Q ↔ ex_ d 264 0 [some (v_r (some 93)), some (v_i x1), some (v_i x3)] [] h (fun r h' => ex_ (d + 1) 265 21 [some (v_r (some 93)), some (v_i x1), l2, some (v_i x3)] (r.toList ++ []) h' Q) := by
  unfold ex_
  refine (am_Y_go 3 (ok := []) (g := (18, [some (v_r (some 93)), some (v_i x1), l2, some (v_i x3)], [v_i x3, v_i x1, v_r (some 93)], h)) rfl).trans ?_
  all_goals exact ((am_Y_call (j := 264) (na := 3) (ci := 12) (fl := 0) rfl rfl rfl).trans (cj_d ⟨⟨Nat.le_of_ble_eq_true rfl, Nat.le_of_ble_eq_true rfl, Nat.le_of_ble_eq_true rfl, rfl⟩, Or.inr (Or.inr (show (12 : Nat) < 20 ∧ am_is h (some 93) 12 from ⟨by decide, (la_is Lh (o := 93) rfl)⟩))⟩ Iff.rfl))

theorem b_X12_placeOfParent_21 {d : Nat} {Q : Option am_V → am_H → Prop} (h : am_H) (s0 : Int32) (x2 : Int32) (l0 l1 l3 : Option am_V) : ex_ d 265 21 [l0, l1, some (v_i x2), l3] [v_i s0] h Q ↔ if ¬ s0 = x2 then ex_ d 265 27 [l0, l1, some (v_i x2), l3] [] h Q else ex_ d 265 25 [l0, l1, some (v_i x2), l3] [] h Q := by
  unfold ex_
  refine (am_Y_go 2 (ok := []) (g := (if ¬ s0 = x2 then 27 else 25, [l0, l1, some (v_i x2), l3], [], h)) rfl).trans ?_
  all_goals exact am_Y_if

theorem b_X12_placeOfParent_27 {d : Nat} {Q : Option am_V → am_H → Prop} (h : am_H) (x3 : Int32) (l0 l1 l2 : Option am_V) : ex_ d 265 27 [l0, l1, l2, some (v_i x3)] [] h Q ↔ ex_ d 265 2 [l0, l1, l2, some (v_i (x3 + (1 : Int32)))] [] h Q := by
  unfold ex_
  refine (am_Y_go 2 (ok := []) (g := (2, [l0, l1, l2, some (v_i (x3 + (1 : Int32)))], [], h)) rfl).trans ?_
  all_goals exact Iff.rfl

theorem b_X12_placeOfParent_25 {d : Nat} {Q : Option am_V → am_H → Prop} (h : am_H) (x3 : Int32) (l0 l1 l2 : Option am_V) : ex_ d 265 25 [l0, l1, l2, some (v_i x3)] [] h Q ↔ Q (some (v_i x3)) h := by
  unfold ex_
  refine (am_Y_go 1 (ok := []) (g := (26, [l0, l1, l2, some (v_i x3)], [v_i x3], h)) rfl).trans ?_
  all_goals exact ((am_Y_ret rfl rfl rfl).trans (am_r0))

theorem b_X12_laysRows_0 {d : Nat} {Q : Option am_V → am_H → Prop} (h : am_H) (l0 l1 l2 : Option am_V) : ex_ d 266 0 [l0, l1, l2] [] h Q ↔ ex_ d 266 2 [l0, some (v_i (0 : Int32)), l2] [] h Q := by
  unfold ex_
  refine (am_Y_go 2 (ok := []) (g := (2, [l0, some (v_i (0 : Int32)), l2], [], h)) rfl).trans ?_
  all_goals exact Iff.rfl

theorem b_X12_laysRows_2 {d : Nat} {Q : Option am_V → am_H → Prop} (h : am_H) (x1 : Int32) (l2 : Option am_V) (Lh : Lay h) : ex_ d 266 2 [some (v_r (some 93)), some (v_i x1), l2] [] h Q ↔ if (h_i h 93 23) ≤ x1 then ex_ d 266 102 [some (v_r (some 93)), some (v_i x1), l2] [] h Q else ex_ d 266 10 [some (v_r (some 93)), some (v_i x1), l2] [] h Q := by
  unfold ex_
  refine (am_Y_go 4 (ok := [am_is h (some 93) 12]) (g := (if (h_i h 93 23) ≤ x1 then 102 else 10, [some (v_r (some 93)), some (v_i x1), l2], [], h)) rfl).trans ?_
  simp only [am_all]
  all_goals exact cj_d (la_is Lh (o := 93) rfl) (am_Y_if)

theorem b_X12_laysRows_102 {d : Nat} {Q : Option am_V → am_H → Prop} (h : am_H) (l1 l2 : Option am_V) (Lh : Lay h) : ex_ d 266 102 [some (v_r (some 93)), l1, l2] [] h Q ↔ vp_in (h_i h 93 23) 5 ∧ vp_in (h_i (p_i h 101 (Int32.toNatClampNeg (h_i h 93 23)) ((11 : Int32) * (h_i h 93 23))) 93 23) 5 ∧ vp_in (h_i (p_i h 101 (Int32.toNatClampNeg (h_i h 93 23)) ((11 : Int32) * (h_i h 93 23))) 93 23) 5 ∧ ex_ d 266 143 [some (v_r (some 93)), some (v_i (0 : Int32)), l2] [] (p_i (p_i h 101 (Int32.toNatClampNeg (h_i h 93 23)) ((11 : Int32) * (h_i h 93 23))) 102 (Int32.toNatClampNeg (h_i (p_i h 101 (Int32.toNatClampNeg (h_i h 93 23)) ((11 : Int32) * (h_i h 93 23))) 93 23)) ((h_i (p_i h 101 (Int32.toNatClampNeg (h_i h 93 23)) ((11 : Int32) * (h_i h 93 23))) 101 (Int32.toNatClampNeg (h_i (p_i h 101 (Int32.toNatClampNeg (h_i h 93 23)) ((11 : Int32) * (h_i h 93 23))) 93 23))) + (h_i (p_i h 101 (Int32.toNatClampNeg (h_i h 93 23)) ((11 : Int32) * (h_i h 93 23))) 93 23))) Q := by
  have e0 : h_r h 93 19 = some 101 := la_r Lh (q := (93, 19, 101)) (by decide)
  have e1 : h_r h 93 20 = some 102 := la_r Lh (q := (93, 20, 102)) (by decide)
  unfold ex_
  refine (am_Y_go 24 (ok := [am_is h (some 93) 12, am_is h (some 93) 12, am_is h (some 93) 12, am_ar h ((h_r h 93 19)) 20 (h_i h 93 23), am_is h (some 93) 12, am_is h (some 93) 12, am_is h (some 93) 12, am_is h (some 93) 12, am_ar h ((h_r h 93 19)) 20 (h_i (p_i h ((h_r h 93 19).getD 0) (Int32.toNatClampNeg (h_i h 93 23)) ((11 : Int32) * (h_i h 93 23))) 93 23), am_is h (some 93) 12, am_ar h ((h_r h 93 20)) 20 (h_i (p_i h ((h_r h 93 19).getD 0) (Int32.toNatClampNeg (h_i h 93 23)) ((11 : Int32) * (h_i h 93 23))) 93 23)]) (g := (143, [some (v_r (some 93)), some (v_i (0 : Int32)), l2], [], (p_i (p_i h ((h_r h 93 19).getD 0) (Int32.toNatClampNeg (h_i h 93 23)) ((11 : Int32) * (h_i h 93 23))) ((h_r h 93 20).getD 0) (Int32.toNatClampNeg (h_i (p_i h ((h_r h 93 19).getD 0) (Int32.toNatClampNeg (h_i h 93 23)) ((11 : Int32) * (h_i h 93 23))) 93 23)) ((h_i (p_i h ((h_r h 93 19).getD 0) (Int32.toNatClampNeg (h_i h 93 23)) ((11 : Int32) * (h_i h 93 23))) ((h_r h 93 19).getD 0) (Int32.toNatClampNeg (h_i (p_i h ((h_r h 93 19).getD 0) (Int32.toNatClampNeg (h_i h 93 23)) ((11 : Int32) * (h_i h 93 23))) 93 23))) + (h_i (p_i h ((h_r h 93 19).getD 0) (Int32.toNatClampNeg (h_i h 93 23)) ((11 : Int32) * (h_i h 93 23))) 93 23))))) rfl).trans ?_
  simp only [e0, e1, Option.getD_some, am_all]
  all_goals exact cj_d (la_is Lh (o := 93) rfl) (cj_d (la_is Lh (o := 93) rfl) (cj_d (la_is Lh (o := 93) rfl) (cj_k (la_ar Lh (o := 101) rfl) (cj_d (la_is Lh (o := 93) rfl) (cj_d (la_is Lh (o := 93) rfl) (cj_d (la_is Lh (o := 93) rfl) (cj_d (la_is Lh (o := 93) rfl) (cj_k (la_ar Lh (o := 101) rfl) (cj_d (la_is Lh (o := 93) rfl) (cj_k (la_ar Lh (o := 102) rfl) (Iff.rfl)))))))))))

theorem b_X12_laysRows_10 {d : Nat} {Q : Option am_V → am_H → Prop} (h : am_H) (x1 : Int32) (l2 : Option am_V) (Lh : Lay h) : ex_ d 266 10 [some (v_r (some 93)), some (v_i x1), l2] [] h Q ↔ vp_in x1 5 ∧ vp_in x1 5 ∧ vp_in x1 4 ∧ vp_in (h_i (p_i h 101 (Int32.toNatClampNeg x1) ((11 : Int32) * x1)) 104 (Int32.toNatClampNeg x1)) 11 ∧ vp_in x1 5 ∧ ex_ d 266 46 [some (v_r (some 93)), some (v_i x1), some (v_i (0 : Int32))] [] (p_i (p_i h 101 (Int32.toNatClampNeg x1) ((11 : Int32) * x1)) 102 (Int32.toNatClampNeg x1) ((h_i (p_i h 101 (Int32.toNatClampNeg x1) ((11 : Int32) * x1)) 101 (Int32.toNatClampNeg x1)) + (h_i (p_i h 101 (Int32.toNatClampNeg x1) ((11 : Int32) * x1)) 98 (Int32.toNatClampNeg (h_i (p_i h 101 (Int32.toNatClampNeg x1) ((11 : Int32) * x1)) 104 (Int32.toNatClampNeg x1)))))) Q := by
  have e0 : h_r h 93 19 = some 101 := la_r Lh (q := (93, 19, 101)) (by decide)
  have e1 : h_r h 93 20 = some 102 := la_r Lh (q := (93, 20, 102)) (by decide)
  have e2 : h_r h 93 16 = some 98 := la_r Lh (q := (93, 16, 98)) (by decide)
  have e3 : h_r h 93 22 = some 104 := la_r Lh (q := (93, 22, 104)) (by decide)
  unfold ex_
  refine (am_Y_go 25 (ok := [am_is h (some 93) 12, am_ar h ((h_r h 93 19)) 20 x1, am_is h (some 93) 12, am_is h (some 93) 12, am_ar h ((h_r h 93 19)) 20 x1, am_is h (some 93) 12, am_is h (some 93) 12, am_ar h ((h_r h 93 22)) 20 x1, am_ar h ((h_r h 93 16)) 20 (h_i (p_i h ((h_r h 93 19).getD 0) (Int32.toNatClampNeg x1) ((11 : Int32) * x1)) ((h_r h 93 22).getD 0) (Int32.toNatClampNeg x1)), am_ar h ((h_r h 93 20)) 20 x1]) (g := (46, [some (v_r (some 93)), some (v_i x1), some (v_i (0 : Int32))], [], (p_i (p_i h ((h_r h 93 19).getD 0) (Int32.toNatClampNeg x1) ((11 : Int32) * x1)) ((h_r h 93 20).getD 0) (Int32.toNatClampNeg x1) ((h_i (p_i h ((h_r h 93 19).getD 0) (Int32.toNatClampNeg x1) ((11 : Int32) * x1)) ((h_r h 93 19).getD 0) (Int32.toNatClampNeg x1)) + (h_i (p_i h ((h_r h 93 19).getD 0) (Int32.toNatClampNeg x1) ((11 : Int32) * x1)) ((h_r h 93 16).getD 0) (Int32.toNatClampNeg (h_i (p_i h ((h_r h 93 19).getD 0) (Int32.toNatClampNeg x1) ((11 : Int32) * x1)) ((h_r h 93 22).getD 0) (Int32.toNatClampNeg x1)))))))) rfl).trans ?_
  simp only [e0, e1, e2, e3, Option.getD_some, am_all]
  all_goals exact cj_d (la_is Lh (o := 93) rfl) (cj_k (la_ar Lh (o := 101) rfl) (cj_d (la_is Lh (o := 93) rfl) (cj_d (la_is Lh (o := 93) rfl) (cj_k (la_ar Lh (o := 101) rfl) (cj_d (la_is Lh (o := 93) rfl) (cj_d (la_is Lh (o := 93) rfl) (cj_k (la_ar Lh (o := 104) rfl) (cj_k (la_ar Lh (o := 98) rfl) (cj_k (la_ar Lh (o := 102) rfl) (Iff.rfl))))))))))

theorem b_X12_laysRows_143 {d : Nat} {Q : Option am_V → am_H → Prop} (h : am_H) (x1 : Int32) (l2 : Option am_V) (Lh : Lay h) : ex_ d 266 143 [some (v_r (some 93)), some (v_i x1), l2] [] h Q ↔ if (h_i h 93 23) ≤ x1 then ex_ d 266 177 [some (v_r (some 93)), some (v_i x1), l2] [] h Q else ex_ d 266 151 [some (v_r (some 93)), some (v_i x1), l2] [] h Q := by
  unfold ex_
  refine (am_Y_go 4 (ok := [am_is h (some 93) 12]) (g := (if (h_i h 93 23) ≤ x1 then 177 else 151, [some (v_r (some 93)), some (v_i x1), l2], [], h)) rfl).trans ?_
  simp only [am_all]
  all_goals exact cj_d (la_is Lh (o := 93) rfl) (am_Y_if)

theorem b_X12_laysRows_46 {d : Nat} {Q : Option am_V → am_H → Prop} (h : am_H) (x2 : Int32) (x1 : Int32) (Lh : Lay h) : ex_ d 266 46 [some (v_r (some 93)), some (v_i x1), some (v_i x2)] [] h Q ↔ vp_in x1 4 ∧ vp_in (h_i h 104 (Int32.toNatClampNeg x1)) 11 ∧ (if (h_i h 98 (Int32.toNatClampNeg (h_i h 104 (Int32.toNatClampNeg x1)))) ≤ x2 then ex_ d 266 96 [some (v_r (some 93)), some (v_i x1), some (v_i x2)] [] h Q else ex_ d 266 61 [some (v_r (some 93)), some (v_i x1), some (v_i x2)] [] h Q) := by
  have e0 : h_r h 93 16 = some 98 := la_r Lh (q := (93, 16, 98)) (by decide)
  have e1 : h_r h 93 22 = some 104 := la_r Lh (q := (93, 22, 104)) (by decide)
  unfold ex_
  refine (am_Y_go 9 (ok := [am_is h (some 93) 12, am_is h (some 93) 12, am_ar h ((h_r h 93 22)) 20 x1, am_ar h ((h_r h 93 16)) 20 (h_i h ((h_r h 93 22).getD 0) (Int32.toNatClampNeg x1))]) (g := (if (h_i h ((h_r h 93 16).getD 0) (Int32.toNatClampNeg (h_i h ((h_r h 93 22).getD 0) (Int32.toNatClampNeg x1)))) ≤ x2 then 96 else 61, [some (v_r (some 93)), some (v_i x1), some (v_i x2)], [], h)) rfl).trans ?_
  simp only [e0, e1, Option.getD_some, am_all]
  all_goals exact cj_d (la_is Lh (o := 93) rfl) (cj_d (la_is Lh (o := 93) rfl) (cj_k (la_ar Lh (o := 104) rfl) (cj_k (la_ar Lh (o := 98) rfl) (am_Y_if))))

theorem b_X12_laysRows_177 {d : Nat} {Q : Option am_V → am_H → Prop} (h : am_H) (l0 l1 l2 : Option am_V) : ex_ d 266 177 [l0, l1, l2] [] h Q ↔ Q (none) h := by
  unfold ex_
  exact ((am_Y_ret rfl rfl rfl).trans (am_rz rfl))

theorem b_X12_laysRows_151 {d : Nat} {Q : Option am_V → am_H → Prop} (h : am_H) (x1 : Int32) (l2 : Option am_V) (Lh : Lay h) : ex_ d 266 151 [some (v_r (some 93)), some (v_i x1), l2] [] h Q ↔ vp_in x1 4 ∧ vp_in (((11 : Int32) * (h_i h 93 23)) + x1) 55 ∧ ex_ d 266 143 [some (v_r (some 93)), some (v_i (x1 + (1 : Int32))), l2] [] (p_i h 103 (Int32.toNatClampNeg (((11 : Int32) * (h_i h 93 23)) + x1)) (h_i h 104 (Int32.toNatClampNeg x1))) Q := by
  have e0 : h_r h 93 21 = some 103 := la_r Lh (q := (93, 21, 103)) (by decide)
  have e1 : h_r h 93 22 = some 104 := la_r Lh (q := (93, 22, 104)) (by decide)
  unfold ex_
  refine (am_Y_go 15 (ok := [am_is h (some 93) 12, am_is h (some 93) 12, am_is h (some 93) 12, am_ar h ((h_r h 93 22)) 20 x1, am_ar h ((h_r h 93 21)) 20 (((11 : Int32) * (h_i h 93 23)) + x1)]) (g := (143, [some (v_r (some 93)), some (v_i (x1 + (1 : Int32))), l2], [], (p_i h ((h_r h 93 21).getD 0) (Int32.toNatClampNeg (((11 : Int32) * (h_i h 93 23)) + x1)) (h_i h ((h_r h 93 22).getD 0) (Int32.toNatClampNeg x1))))) rfl).trans ?_
  simp only [e0, e1, Option.getD_some, am_all]
  all_goals exact cj_d (la_is Lh (o := 93) rfl) (cj_d (la_is Lh (o := 93) rfl) (cj_d (la_is Lh (o := 93) rfl) (cj_k (la_ar Lh (o := 104) rfl) (cj_k (la_ar Lh (o := 103) rfl) (Iff.rfl)))))

theorem b_X12_laysRows_96 {d : Nat} {Q : Option am_V → am_H → Prop} (h : am_H) (x1 : Int32) (l0 l2 : Option am_V) : ex_ d 266 96 [l0, some (v_i x1), l2] [] h Q ↔ ex_ d 266 2 [l0, some (v_i (x1 + (1 : Int32))), l2] [] h Q := by
  unfold ex_
  refine (am_Y_go 2 (ok := []) (g := (2, [l0, some (v_i (x1 + (1 : Int32))), l2], [], h)) rfl).trans ?_
  all_goals exact Iff.rfl

theorem b_X12_laysRows_61 {d : Nat} {Q : Option am_V → am_H → Prop} (h : am_H) (x1 : Int32) (x2 : Int32) (Lh : Lay h) : ex_ d 266 61 [some (v_r (some 93)), some (v_i x1), some (v_i x2)] [] h Q ↔ vp_in x1 5 ∧ vp_in x1 4 ∧ vp_in (((11 : Int32) * (h_i h 104 (Int32.toNatClampNeg x1))) + x2) 121 ∧ vp_in ((h_i h 101 (Int32.toNatClampNeg x1)) + x2) 55 ∧ ex_ d 266 46 [some (v_r (some 93)), some (v_i x1), some (v_i (x2 + (1 : Int32)))] [] (p_i h 103 (Int32.toNatClampNeg ((h_i h 101 (Int32.toNatClampNeg x1)) + x2)) (h_i h 99 (Int32.toNatClampNeg (((11 : Int32) * (h_i h 104 (Int32.toNatClampNeg x1))) + x2)))) Q := by
  have e0 : h_r h 93 21 = some 103 := la_r Lh (q := (93, 21, 103)) (by decide)
  have e1 : h_r h 93 19 = some 101 := la_r Lh (q := (93, 19, 101)) (by decide)
  have e2 : h_r h 93 17 = some 99 := la_r Lh (q := (93, 17, 99)) (by decide)
  have e3 : h_r h 93 22 = some 104 := la_r Lh (q := (93, 22, 104)) (by decide)
  unfold ex_
  refine (am_Y_go 22 (ok := [am_is h (some 93) 12, am_is h (some 93) 12, am_ar h ((h_r h 93 19)) 20 x1, am_is h (some 93) 12, am_is h (some 93) 12, am_ar h ((h_r h 93 22)) 20 x1, am_ar h ((h_r h 93 17)) 20 (((11 : Int32) * (h_i h ((h_r h 93 22).getD 0) (Int32.toNatClampNeg x1))) + x2), am_ar h ((h_r h 93 21)) 20 ((h_i h ((h_r h 93 19).getD 0) (Int32.toNatClampNeg x1)) + x2)]) (g := (46, [some (v_r (some 93)), some (v_i x1), some (v_i (x2 + (1 : Int32)))], [], (p_i h ((h_r h 93 21).getD 0) (Int32.toNatClampNeg ((h_i h ((h_r h 93 19).getD 0) (Int32.toNatClampNeg x1)) + x2)) (h_i h ((h_r h 93 17).getD 0) (Int32.toNatClampNeg (((11 : Int32) * (h_i h ((h_r h 93 22).getD 0) (Int32.toNatClampNeg x1))) + x2)))))) rfl).trans ?_
  simp only [e0, e1, e2, e3, Option.getD_some, am_all]
  all_goals exact cj_d (la_is Lh (o := 93) rfl) (cj_d (la_is Lh (o := 93) rfl) (cj_k (la_ar Lh (o := 101) rfl) (cj_d (la_is Lh (o := 93) rfl) (cj_d (la_is Lh (o := 93) rfl) (cj_k (la_ar Lh (o := 104) rfl) (cj_k (la_ar Lh (o := 99) rfl) (cj_k (la_ar Lh (o := 103) rfl) (Iff.rfl))))))))
