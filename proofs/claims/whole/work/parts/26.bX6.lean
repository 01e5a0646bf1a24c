theorem b_X6_sizeOf_0 {d : Nat} {Q : Option am_V → am_H → Prop} (h : am_H) (x1 : Int32) (l0 : Option am_V) : ex_ d 9 0 [l0, some (v_i x1)] [] h Q ↔ if x1 < 0 then ex_ d 9 19 [l0, some (v_i x1)] [] h Q else ex_ d 9 4 [l0, some (v_i x1)] [] h Q := by
  unfold ex_
  refine (am_Y_go 2 (ok := []) (g := (if x1 < 0 then 19 else 4, [l0, some (v_i x1)], [], h)) rfl).trans ?_
  all_goals exact am_Y_if

theorem b_X6_sizeOf_19 {d : Nat} {Q : Option am_V → am_H → Prop} (h : am_H) (l0 l1 : Option am_V) : ex_ d 9 19 [l0, l1] [] h Q ↔ Q (some (v_i (0 : Int32))) h := by
  unfold ex_
  refine (am_Y_go 1 (ok := []) (g := (20, [l0, l1], [v_i (0 : Int32)], h)) rfl).trans ?_
  all_goals exact ((am_Y_ret rfl rfl rfl).trans (am_r0))

theorem b_X6_sizeOf_4 {d : Nat} {Q : Option am_V → am_H → Prop} (h : am_H) (x1 : Int32) (l0 : Option am_V) : ex_ d 9 4 [l0, some (v_i x1)] [] h Q ↔ if (11 : Int32) ≤ x1 then ex_ d 9 19 [l0, some (v_i x1)] [] h Q else ex_ d 9 10 [l0, some (v_i x1)] [] h Q := by
  unfold ex_
  refine (am_Y_go 3 (ok := []) (g := (if (11 : Int32) ≤ x1 then 19 else 10, [l0, some (v_i x1)], [], h)) rfl).trans ?_
  all_goals exact am_Y_if

theorem b_X6_sizeOf_10 {d : Nat} {Q : Option am_V → am_H → Prop} (h : am_H) (o0 : Nat) (x1 : Int32) (F_o0 : y_Orders h o0) : ex_ d 9 10 [some (v_r (some o0)), some (v_i x1)] [] h Q ↔ vp_in x1 11 ∧ Q (some (v_i (h_i h (o0 + 2) (Int32.toNatClampNeg x1)))) h := by
  have e0 : h_r h o0 1 = some (o0 + 2) := F_o0.2 (0, 1, 2) (by decide)
  unfold ex_
  refine (am_Y_go 5 (ok := [am_is h (some o0) 6, am_ar h ((h_r h o0 1)) 20 x1]) (g := (20, [some (v_r (some o0)), some (v_i x1)], [v_i (h_i h ((h_r h o0 1).getD 0) (Int32.toNatClampNeg x1))], h)) rfl).trans ?_
  simp only [e0, Option.getD_some, am_all]
  all_goals exact cj_d (lr_is (F_o0.1 0 rfl)) (cj_k (lr_ar (F_o0.1 2 rfl)) (((am_Y_ret rfl rfl rfl).trans (am_r0))))

theorem b_X6_at_0 {d : Nat} {Q : Option am_V → am_H → Prop} (h : am_H) (x1 : Int32) (l0 l2 : Option am_V) : ex_ d 10 0 [l0, some (v_i x1), l2] [] h Q ↔ if x1 < 0 then ex_ d 10 44 [l0, some (v_i x1), l2] [] h Q else ex_ d 10 4 [l0, some (v_i x1), l2] [] h Q := by
  unfold ex_
  refine (am_Y_go 2 (ok := []) (g := (if x1 < 0 then 44 else 4, [l0, some (v_i x1), l2], [], h)) rfl).trans ?_
  all_goals exact am_Y_if

theorem b_X6_at_44 {d : Nat} {Q : Option am_V → am_H → Prop} (h : am_H) (l0 l1 l2 : Option am_V) : ex_ d 10 44 [l0, l1, l2] [] h Q ↔ Q (some (v_i (-1 : Int32))) h := by
  unfold ex_
  refine (am_Y_go 1 (ok := []) (g := (45, [l0, l1, l2], [v_i (-1 : Int32)], h)) rfl).trans ?_
  all_goals exact ((am_Y_ret rfl rfl rfl).trans (am_r0))

theorem b_X6_at_4 {d : Nat} {Q : Option am_V → am_H → Prop} (h : am_H) (x1 : Int32) (l0 l2 : Option am_V) : ex_ d 10 4 [l0, some (v_i x1), l2] [] h Q ↔ if (11 : Int32) ≤ x1 then ex_ d 10 44 [l0, some (v_i x1), l2] [] h Q else ex_ d 10 10 [l0, some (v_i x1), l2] [] h Q := by
  unfold ex_
  refine (am_Y_go 3 (ok := []) (g := (if (11 : Int32) ≤ x1 then 44 else 10, [l0, some (v_i x1), l2], [], h)) rfl).trans ?_
  all_goals exact am_Y_if

theorem b_X6_at_10 {d : Nat} {Q : Option am_V → am_H → Prop} (h : am_H) (x2 : Int32) (l0 l1 : Option am_V) : ex_ d 10 10 [l0, l1, some (v_i x2)] [] h Q ↔ if x2 < 0 then ex_ d 10 44 [l0, l1, some (v_i x2)] [] h Q else ex_ d 10 14 [l0, l1, some (v_i x2)] [] h Q := by
  unfold ex_
  refine (am_Y_go 2 (ok := []) (g := (if x2 < 0 then 44 else 14, [l0, l1, some (v_i x2)], [], h)) rfl).trans ?_
  all_goals exact am_Y_if

theorem b_X6_at_14 {d : Nat} {Q : Option am_V → am_H → Prop} (h : am_H) (x2 : Int32) (o0 : Nat) (x1 : Int32) (F_o0 : y_Orders h o0) : ex_ d 10 14 [some (v_r (some o0)), some (v_i x1), some (v_i x2)] [] h Q ↔ vp_in x1 11 ∧ (if (h_i h (o0 + 2) (Int32.toNatClampNeg x1)) ≤ x2 then ex_ d 10 44 [some (v_r (some o0)), some (v_i x1), some (v_i x2)] [] h Q else ex_ d 10 24 [some (v_r (some o0)), some (v_i x1), some (v_i x2)] [] h Q) := by
  have e0 : h_r h o0 1 = some (o0 + 2) := F_o0.2 (0, 1, 2) (by decide)
  unfold ex_
  refine (am_Y_go 6 (ok := [am_is h (some o0) 6, am_ar h ((h_r h o0 1)) 20 x1]) (g := (if (h_i h ((h_r h o0 1).getD 0) (Int32.toNatClampNeg x1)) ≤ x2 then 44 else 24, [some (v_r (some o0)), some (v_i x1), some (v_i x2)], [], h)) rfl).trans ?_
  simp only [e0, Option.getD_some, am_all]
  all_goals exact cj_d (lr_is (F_o0.1 0 rfl)) (cj_k (lr_ar (F_o0.1 2 rfl)) (am_Y_if))

theorem b_X6_at_24 {d : Nat} {Q : Option am_V → am_H → Prop} (h : am_H) (x2 : Int32) (l0 l1 : Option am_V) : ex_ d 10 24 [l0, l1, some (v_i x2)] [] h Q ↔ if (11 : Int32) ≤ x2 then ex_ d 10 44 [l0, l1, some (v_i x2)] [] h Q else ex_ d 10 30 [l0, l1, some (v_i x2)] [] h Q := by
  unfold ex_
  refine (am_Y_go 3 (ok := []) (g := (if (11 : Int32) ≤ x2 then 44 else 30, [l0, l1, some (v_i x2)], [], h)) rfl).trans ?_
  all_goals exact am_Y_if

theorem b_X6_at_30 {d : Nat} {Q : Option am_V → am_H → Prop} (h : am_H) (o0 : Nat) (x1 : Int32) (x2 : Int32) (F_o0 : y_Orders h o0) : ex_ d 10 30 [some (v_r (some o0)), some (v_i x1), some (v_i x2)] [] h Q ↔ vp_in ((x1 * (11 : Int32)) + x2) 121 ∧ Q (some (v_i (h_i h (o0 + 3) (Int32.toNatClampNeg ((x1 * (11 : Int32)) + x2))))) h := by
  have e0 : h_r h o0 2 = some (o0 + 3) := F_o0.2 (0, 2, 3) (by decide)
  unfold ex_
  refine (am_Y_go 9 (ok := [am_is h (some o0) 6, am_ar h ((h_r h o0 2)) 20 ((x1 * (11 : Int32)) + x2)]) (g := (45, [some (v_r (some o0)), some (v_i x1), some (v_i x2)], [v_i (h_i h ((h_r h o0 2).getD 0) (Int32.toNatClampNeg ((x1 * (11 : Int32)) + x2)))], h)) rfl).trans ?_
  simp only [e0, Option.getD_some, am_all]
  all_goals exact cj_d (lr_is (F_o0.1 0 rfl)) (cj_k (lr_ar (F_o0.1 3 rfl)) (((am_Y_ret rfl rfl rfl).trans (am_r0))))

theorem b_X6_hasOrder_0 {d : Nat} {Q : Option am_V → am_H → Prop} (h : am_H) (x1 : Int32) (l0 : Option am_V) : ex_ d 47 0 [l0, some (v_i x1)] [] h Q ↔ if x1 < 0 then ex_ d 47 23 [l0, some (v_i x1)] [] h Q else ex_ d 47 4 [l0, some (v_i x1)] [] h Q := by
  unfold ex_
  refine (am_Y_go 2 (ok := []) (g := (if x1 < 0 then 23 else 4, [l0, some (v_i x1)], [], h)) rfl).trans ?_
  all_goals exact am_Y_if

theorem b_X6_hasOrder_23 {d : Nat} {Q : Option am_V → am_H → Prop} (h : am_H) (l0 l1 : Option am_V) : ex_ d 47 23 [l0, l1] [] h Q ↔ Q (some (v_i (0 : Int32))) h := by
  unfold ex_
  refine (am_Y_go 1 (ok := []) (g := (24, [l0, l1], [v_i (0 : Int32)], h)) rfl).trans ?_
  all_goals exact ((am_Y_ret rfl rfl rfl).trans (am_rz (show am_fit 1 0 from Or.inl rfl)))

theorem b_X6_hasOrder_4 {d : Nat} {Q : Option am_V → am_H → Prop} (h : am_H) (x1 : Int32) (l0 : Option am_V) : ex_ d 47 4 [l0, some (v_i x1)] [] h Q ↔ if (11 : Int32) ≤ x1 then ex_ d 47 23 [l0, some (v_i x1)] [] h Q else ex_ d 47 10 [l0, some (v_i x1)] [] h Q := by
  unfold ex_
  refine (am_Y_go 3 (ok := []) (g := (if (11 : Int32) ≤ x1 then 23 else 10, [l0, some (v_i x1)], [], h)) rfl).trans ?_
  all_goals exact am_Y_if

theorem b_X6_hasOrder_10 {d : Nat} {Q : Option am_V → am_H → Prop} (h : am_H) (o0 : Nat) (x1 : Int32) (F_o0 : y_Orders h o0) : ex_ d 47 10 [some (v_r (some o0)), some (v_i x1)] [] h Q ↔ vp_in x1 11 ∧ (if (h_i h (o0 + 2) (Int32.toNatClampNeg x1)) ≤ 0 then ex_ d 47 23 [some (v_r (some o0)), some (v_i x1)] [] h Q else ex_ d 47 19 [some (v_r (some o0)), some (v_i x1)] [] h Q) := by
  have e0 : h_r h o0 1 = some (o0 + 2) := F_o0.2 (0, 1, 2) (by decide)
  unfold ex_
  refine (am_Y_go 5 (ok := [am_is h (some o0) 6, am_ar h ((h_r h o0 1)) 20 x1]) (g := (if (h_i h ((h_r h o0 1).getD 0) (Int32.toNatClampNeg x1)) ≤ 0 then 23 else 19, [some (v_r (some o0)), some (v_i x1)], [], h)) rfl).trans ?_
  simp only [e0, Option.getD_some, am_all]
  all_goals exact cj_d (lr_is (F_o0.1 0 rfl)) (cj_k (lr_ar (F_o0.1 2 rfl)) (am_Y_if))

theorem b_X6_hasOrder_19 {d : Nat} {Q : Option am_V → am_H → Prop} (h : am_H) (l0 l1 : Option am_V) : ex_ d 47 19 [l0, l1] [] h Q ↔ Q (some (v_i (1 : Int32))) h := by
  unfold ex_
  refine (am_Y_go 2 (ok := []) (g := (24, [l0, l1], [v_i (1 : Int32)], h)) rfl).trans ?_
  all_goals exact ((am_Y_ret rfl rfl rfl).trans (am_rz (show am_fit 1 1 from Or.inr rfl)))

theorem b_X6_layRows_0 {d : Nat} {Q : Option am_V → am_H → Prop} (h : am_H) (l0 l1 l2 l3 l4 l5 l6 : Option am_V) : ex_ d 48 0 [l0, l1, l2, l3, l4, l5, l6] [] h Q ↔ ex_ d 48 2 [l0, l1, l2, some (v_i (0 : Int32)), l4, l5, l6] [] h Q := by
  unfold ex_
  refine (am_Y_go 2 (ok := []) (g := (2, [l0, l1, l2, some (v_i (0 : Int32)), l4, l5, l6], [], h)) rfl).trans ?_
  all_goals exact Iff.rfl

theorem b_X6_layRows_2 {d : Nat} {Q : Option am_V → am_H → Prop} (h : am_H) (x3 : Int32) (x2 : Int32) (l0 l1 l4 l5 l6 : Option am_V) : ex_ d 48 2 [l0, l1, some (v_i x2), some (v_i x3), l4, l5, l6] [] h Q ↔ if x2 < x3 then ex_ d 48 170 [l0, l1, some (v_i x2), some (v_i x3), l4, l5, l6] [] h Q else ex_ d 48 7 [l0, l1, some (v_i x2), some (v_i x3), l4, l5, l6] [] h Q := by
  unfold ex_
  refine (am_Y_go 3 (ok := []) (g := (if x2 < x3 then 170 else 7, [l0, l1, some (v_i x2), some (v_i x3), l4, l5, l6], [], h)) rfl).trans ?_
  all_goals exact am_Y_if

theorem b_X6_layRows_170 {d : Nat} {Q : Option am_V → am_H → Prop} (h : am_H) (l0 l1 l2 l3 l4 l5 l6 : Option am_V) : ex_ d 48 170 [l0, l1, l2, l3, l4, l5, l6] [] h Q ↔ Q (none) h := by
  unfold ex_
  exact ((am_Y_ret rfl rfl rfl).trans (am_rz rfl))

theorem b_X6_layRows_7 {d : Nat} {Q : Option am_V → am_H → Prop} (h : am_H) (x3 : Int32) (l0 l1 l2 l4 l5 l6 : Option am_V) : ex_ d 48 7 [l0, l1, l2, some (v_i x3), l4, l5, l6] [] h Q ↔ if (5 : Int32) ≤ x3 then ex_ d 48 170 [l0, l1, l2, some (v_i x3), l4, l5, l6] [] h Q else ex_ d 48 12 [l0, l1, l2, some (v_i x3), l4, l5, l6] [] h Q := by
  unfold ex_
  refine (am_Y_go 3 (ok := []) (g := (if (5 : Int32) ≤ x3 then 170 else 12, [l0, l1, l2, some (v_i x3), l4, l5, l6], [], h)) rfl).trans ?_
  all_goals exact am_Y_if

theorem b_X6_layRows_12 {d : Nat} {Q : Option am_V → am_H → Prop} (h : am_H) (x3 : Int32) (x2 : Int32) (l0 l1 l4 l5 l6 : Option am_V) : ex_ d 48 12 [l0, l1, some (v_i x2), some (v_i x3), l4, l5, l6] [] h Q ↔ if x2 ≤ x3 then ex_ d 48 27 [l0, l1, some (v_i x2), some (v_i x3), l4, l5, l6] [] h Q else ex_ d 48 17 [l0, l1, some (v_i x2), some (v_i x3), l4, l5, l6] [] h Q := by
  unfold ex_
  refine (am_Y_go 3 (ok := []) (g := (if x2 ≤ x3 then 27 else 17, [l0, l1, some (v_i x2), some (v_i x3), l4, l5, l6], [], h)) rfl).trans ?_
  all_goals exact am_Y_if

theorem b_X6_layRows_27 {d : Nat} {Q : Option am_V → am_H → Prop} (h : am_H) (x2 : Int32) (o0 : Nat) (x3 : Int32) (l1 l4 l5 l6 : Option am_V) (F_o0 : y_Orders h o0) : ex_ d 48 27 [some (v_r (some o0)), l1, some (v_i x2), some (v_i x3), l4, l5, l6] [] h Q ↔ vp_in x3 5 ∧ vp_in x3 5 ∧ vp_in x3 5 ∧ ex_ d 48 60 [some (v_r (some o0)), l1, some (v_i x2), some (v_i x3), some (v_i x2), some (v_i (0 : Int32)), l6] [] (p_i (p_i (p_i h (o0 + 6) (Int32.toNatClampNeg x3) (if (11 : Int32) < x2 then (11 : Int32) else x2)) (o0 + 7) (Int32.toNatClampNeg x3) (0 : Int32)) (o0 + 9) (Int32.toNatClampNeg x3) (0 : Int32)) Q := by
  have e0 : h_r h o0 5 = some (o0 + 6) := F_o0.2 (0, 5, 6) (by decide)
  have e1 : h_r h o0 6 = some (o0 + 7) := F_o0.2 (0, 6, 7) (by decide)
  have e2 : h_r h o0 8 = some (o0 + 9) := F_o0.2 (0, 8, 9) (by decide)
  unfold ex_
  refine (am_Y_go 21 (ok := [am_is h (some o0) 6, am_ar h ((h_r h o0 5)) 20 x3, am_is h (some o0) 6, am_ar h ((h_r h o0 6)) 20 x3, am_is h (some o0) 6, am_ar h ((h_r h o0 8)) 20 x3]) (g := (60, [some (v_r (some o0)), l1, some (v_i x2), some (v_i x3), some (v_i x2), some (v_i (0 : Int32)), l6], [], (p_i (p_i (p_i h ((h_r h o0 5).getD 0) (Int32.toNatClampNeg x3) (if (11 : Int32) < x2 then (11 : Int32) else x2)) ((h_r h o0 6).getD 0) (Int32.toNatClampNeg x3) (0 : Int32)) ((h_r h o0 8).getD 0) (Int32.toNatClampNeg x3) (0 : Int32)))) rfl).trans ?_
  simp only [e0, e1, e2, Option.getD_some, am_all]
  all_goals exact cj_d (lr_is (F_o0.1 0 rfl)) (cj_k (lr_ar (F_o0.1 6 rfl)) (cj_d (lr_is (F_o0.1 0 rfl)) (cj_k (lr_ar (F_o0.1 7 rfl)) (cj_d (lr_is (F_o0.1 0 rfl)) (cj_k (lr_ar (F_o0.1 9 rfl)) (Iff.rfl))))))

theorem b_X6_layRows_17 {d : Nat} {Q : Option am_V → am_H → Prop} (h : am_H) (o0 : Nat) (o1 : Nat) (x3 : Int32) (l2 l4 l5 l6 : Option am_V) (F_o0 : y_Orders h o0) {n_o1 : Nat} (A_o1 : y_arr h o1 20 n_o1) : ex_ (d + 1) 48 17 [some (v_r (some o0)), some (v_r (some o1)), l2, some (v_i x3), l4, l5, l6] [] h Q ↔ vp_in x3 n_o1 ∧ ex_ d 9 0 [some (v_r (some o0)), some (v_i (h_i h o1 (Int32.toNatClampNeg x3)))] [] h (fun r h' => ex_ (d + 1) 48 24 [some (v_r (some o0)), some (v_r (some o1)), l2, some (v_i x3), l4, l5, l6] (r.toList ++ []) h' Q) := by
  unfold ex_
  refine (am_Y_go 4 (ok := [am_ar h (some o1) 20 x3]) (g := (21, [some (v_r (some o0)), some (v_r (some o1)), l2, some (v_i x3), l4, l5, l6], [v_i (h_i h o1 (Int32.toNatClampNeg x3)), v_r (some o0)], h)) rfl).trans ?_
  simp only [am_all]
  all_goals exact cj_k (lb_ar A_o1) (((am_Y_call (j := 9) (na := 2) (ci := 6) (fl := 0) rfl rfl rfl).trans (cj_d ⟨⟨Nat.le_of_ble_eq_true rfl, Nat.le_of_ble_eq_true rfl, Nat.le_of_ble_eq_true rfl, rfl⟩, Or.inr (Or.inr (show (6 : Nat) < 20 ∧ am_is h (some o0) 6 from ⟨by decide, (lr_is (F_o0.1 0 rfl))⟩))⟩ Iff.rfl)))

theorem b_X6_layRows_60 {d : Nat} {Q : Option am_V → am_H → Prop} (h : am_H) (x5 : Int32) (o0 : Nat) (x3 : Int32) (l1 l2 l4 l6 : Option am_V) (F_o0 : y_Orders h o0) : ex_ d 48 60 [some (v_r (some o0)), l1, l2, some (v_i x3), l4, some (v_i x5), l6] [] h Q ↔ vp_in x3 5 ∧ (if (h_i h (o0 + 6) (Int32.toNatClampNeg x3)) ≤ x5 then ex_ d 48 136 [some (v_r (some o0)), l1, l2, some (v_i x3), l4, some (v_i x5), l6] [] h Q else ex_ d 48 71 [some (v_r (some o0)), l1, l2, some (v_i x3), l4, some (v_i x5), l6] [] h Q) := by
  have e0 : h_r h o0 5 = some (o0 + 6) := F_o0.2 (0, 5, 6) (by decide)
  unfold ex_
  refine (am_Y_go 6 (ok := [am_is h (some o0) 6, am_ar h ((h_r h o0 5)) 20 x3]) (g := (if (h_i h ((h_r h o0 5).getD 0) (Int32.toNatClampNeg x3)) ≤ x5 then 136 else 71, [some (v_r (some o0)), l1, l2, some (v_i x3), l4, some (v_i x5), l6], [], h)) rfl).trans ?_
  simp only [e0, Option.getD_some, am_all]
  all_goals exact cj_d (lr_is (F_o0.1 0 rfl)) (cj_k (lr_ar (F_o0.1 6 rfl)) (am_Y_if))

theorem b_X6_layRows_24 {d : Nat} {Q : Option am_V → am_H → Prop} (h : am_H) (s0 : Int32) (o0 : Nat) (x3 : Int32) (l1 l2 l4 l5 l6 : Option am_V) (F_o0 : y_Orders h o0) : ex_ d 48 24 [some (v_r (some o0)), l1, l2, some (v_i x3), l4, l5, l6] [v_i s0] h Q ↔ vp_in x3 5 ∧ vp_in x3 5 ∧ vp_in x3 5 ∧ ex_ d 48 60 [some (v_r (some o0)), l1, l2, some (v_i x3), some (v_i s0), some (v_i (0 : Int32)), l6] [] (p_i (p_i (p_i h (o0 + 6) (Int32.toNatClampNeg x3) (if (11 : Int32) < s0 then (11 : Int32) else s0)) (o0 + 7) (Int32.toNatClampNeg x3) (0 : Int32)) (o0 + 9) (Int32.toNatClampNeg x3) (0 : Int32)) Q := by
  have e0 : h_r h o0 5 = some (o0 + 6) := F_o0.2 (0, 5, 6) (by decide)
  have e1 : h_r h o0 6 = some (o0 + 7) := F_o0.2 (0, 6, 7) (by decide)
  have e2 : h_r h o0 8 = some (o0 + 9) := F_o0.2 (0, 8, 9) (by decide)
  unfold ex_
  refine (am_Y_go 21 (ok := [am_is h (some o0) 6, am_ar h ((h_r h o0 5)) 20 x3, am_is h (some o0) 6, am_ar h ((h_r h o0 6)) 20 x3, am_is h (some o0) 6, am_ar h ((h_r h o0 8)) 20 x3]) (g := (60, [some (v_r (some o0)), l1, l2, some (v_i x3), some (v_i s0), some (v_i (0 : Int32)), l6], [], (p_i (p_i (p_i h ((h_r h o0 5).getD 0) (Int32.toNatClampNeg x3) (if (11 : Int32) < s0 then (11 : Int32) else s0)) ((h_r h o0 6).getD 0) (Int32.toNatClampNeg x3) (0 : Int32)) ((h_r h o0 8).getD 0) (Int32.toNatClampNeg x3) (0 : Int32)))) rfl).trans ?_
  simp only [e0, e1, e2, Option.getD_some, am_all]
  all_goals exact cj_d (lr_is (F_o0.1 0 rfl)) (cj_k (lr_ar (F_o0.1 6 rfl)) (cj_d (lr_is (F_o0.1 0 rfl)) (cj_k (lr_ar (F_o0.1 7 rfl)) (cj_d (lr_is (F_o0.1 0 rfl)) (cj_k (lr_ar (F_o0.1 9 rfl)) (Iff.rfl))))))

theorem b_X6_layRows_136 {d : Nat} {Q : Option am_V → am_H → Prop} (h : am_H) (o0 : Nat) (x3 : Int32) (l1 l2 l4 l5 l6 : Option am_V) (F_o0 : y_Orders h o0) : ex_ d 48 136 [some (v_r (some o0)), l1, l2, some (v_i x3), l4, l5, l6] [] h Q ↔ vp_in x3 5 ∧ (if (h_i h (o0 + 6) (Int32.toNatClampNeg x3)) ≤ 0 then ex_ d 48 162 [some (v_r (some o0)), l1, l2, some (v_i x3), l4, l5, l6] [v_i x3, v_r (some (o0 + 8))] h Q else ex_ d 48 150 [some (v_r (some o0)), l1, l2, some (v_i x3), l4, l5, l6] [v_i x3, v_r (some (o0 + 8))] h Q) := by
  have e0 : h_r h o0 7 = some (o0 + 8) := F_o0.2 (0, 7, 8) (by decide)
  have e1 : h_r h o0 5 = some (o0 + 6) := F_o0.2 (0, 5, 6) (by decide)
  unfold ex_
  refine (am_Y_go 8 (ok := [am_is h (some o0) 6, am_is h (some o0) 6, am_ar h ((h_r h o0 5)) 20 x3]) (g := (if (h_i h ((h_r h o0 5).getD 0) (Int32.toNatClampNeg x3)) ≤ 0 then 162 else 150, [some (v_r (some o0)), l1, l2, some (v_i x3), l4, l5, l6], [v_i x3, v_r ((h_r h o0 7))], h)) rfl).trans ?_
  simp only [e0, e1, Option.getD_some, am_all]
  all_goals exact cj_d (lr_is (F_o0.1 0 rfl)) (cj_d (lr_is (F_o0.1 0 rfl)) (cj_k (lr_ar (F_o0.1 6 rfl)) (am_Y_if)))

theorem b_X6_layRows_71 {d : Nat} {Q : Option am_V → am_H → Prop} (h : am_H) (x3 : Int32) (x2 : Int32) (l0 l1 l4 l5 l6 : Option am_V) : ex_ d 48 71 [l0, l1, some (v_i x2), some (v_i x3), l4, l5, l6] [] h Q ↔ if x2 ≤ x3 then ex_ d 48 88 [l0, l1, some (v_i x2), some (v_i x3), l4, l5, l6] [] h Q else ex_ d 48 76 [l0, l1, some (v_i x2), some (v_i x3), l4, l5, l6] [] h Q := by
  unfold ex_
  refine (am_Y_go 3 (ok := []) (g := (if x2 ≤ x3 then 88 else 76, [l0, l1, some (v_i x2), some (v_i x3), l4, l5, l6], [], h)) rfl).trans ?_
  all_goals exact am_Y_if

theorem b_X6_layRows_162 {d : Nat} {Q : Option am_V → am_H → Prop} (h : am_H) (s0 : Int32) (t1 : Nat) (x3 : Int32) (l0 l1 l2 l4 l5 l6 : Option am_V) {n_t1 : Nat} (A_t1 : y_arr h t1 20 n_t1) : ex_ d 48 162 [l0, l1, l2, some (v_i x3), l4, l5, l6] [v_i s0, v_r (some t1)] h Q ↔ vp_in s0 n_t1 ∧ ex_ d 48 2 [l0, l1, l2, some (v_i (x3 + (1 : Int32))), l4, l5, l6] [] (p_i h t1 (Int32.toNatClampNeg s0) (-1 : Int32)) Q := by
  unfold ex_
  refine (am_Y_go 4 (ok := [am_ar h (some t1) 20 s0]) (g := (2, [l0, l1, l2, some (v_i (x3 + (1 : Int32))), l4, l5, l6], [], (p_i h t1 (Int32.toNatClampNeg s0) (-1 : Int32)))) rfl).trans ?_
  simp only [am_all]
  all_goals exact cj_k (lb_ar A_t1) (Iff.rfl)

theorem b_X6_layRows_150 {d : Nat} {Q : Option am_V → am_H → Prop} (h : am_H) (s0 : Int32) (t1 : Nat) (o0 : Nat) (x3 : Int32) (l1 l2 l4 l5 l6 : Option am_V) {n_t1 : Nat} (A_t1 : y_arr h t1 20 n_t1) (F_o0 : y_Orders h o0) : ex_ d 48 150 [some (v_r (some o0)), l1, l2, some (v_i x3), l4, l5, l6] [v_i s0, v_r (some t1)] h Q ↔ vp_in (x3 * (11 : Int32)) 55 ∧ vp_in s0 n_t1 ∧ ex_ d 48 2 [some (v_r (some o0)), l1, l2, some (v_i (x3 + (1 : Int32))), l4, l5, l6] [] (p_i h t1 (Int32.toNatClampNeg s0) (h_i h (o0 + 5) (Int32.toNatClampNeg (x3 * (11 : Int32))))) Q := by
  have e0 : h_r h o0 4 = some (o0 + 5) := F_o0.2 (0, 4, 5) (by decide)
  unfold ex_
  refine (am_Y_go 10 (ok := [am_is h (some o0) 6, am_ar h ((h_r h o0 4)) 20 (x3 * (11 : Int32)), am_ar h (some t1) 20 s0]) (g := (2, [some (v_r (some o0)), l1, l2, some (v_i (x3 + (1 : Int32))), l4, l5, l6], [], (p_i h t1 (Int32.toNatClampNeg s0) (h_i h ((h_r h o0 4).getD 0) (Int32.toNatClampNeg (x3 * (11 : Int32))))))) rfl).trans ?_
  simp only [e0, Option.getD_some, am_all]
  all_goals exact cj_d (lr_is (F_o0.1 0 rfl)) (cj_k (lr_ar (F_o0.1 5 rfl)) (cj_k (lb_ar A_t1) (Iff.rfl)))

theorem b_X6_layRows_88 {d : Nat} {Q : Option am_V → am_H → Prop} (h : am_H) (o1 : Nat) (x5 : Int32) (o0 : Nat) (x3 : Int32) (l2 l4 l6 : Option am_V) {n_o1 : Nat} (A_o1 : y_arr h o1 20 n_o1) (F_o0 : y_Orders h o0) : ex_ d 48 88 [some (v_r (some o0)), some (v_r (some o1)), l2, some (v_i x3), l4, some (v_i x5), l6] [] h Q ↔ vp_in x5 n_o1 ∧ vp_in ((x3 * (11 : Int32)) + x5) 55 ∧ vp_in x3 5 ∧ (if x5 ≤ 0 then ex_ d 48 127 [some (v_r (some o0)), some (v_r (some o1)), l2, some (v_i x3), l4, some (v_i x5), some (v_i (h_i h o1 (Int32.toNatClampNeg x5)))] [v_i (h_i (p_i h (o0 + 5) (Int32.toNatClampNeg ((x3 * (11 : Int32)) + x5)) (h_i h o1 (Int32.toNatClampNeg x5))) (o0 + 9) (Int32.toNatClampNeg x3)), v_i x3, v_r (some (o0 + 9))] (p_i h (o0 + 5) (Int32.toNatClampNeg ((x3 * (11 : Int32)) + x5)) (h_i h o1 (Int32.toNatClampNeg x5))) Q else ex_ d 48 120 [some (v_r (some o0)), some (v_r (some o1)), l2, some (v_i x3), l4, some (v_i x5), some (v_i (h_i h o1 (Int32.toNatClampNeg x5)))] [v_i (h_i (p_i h (o0 + 5) (Int32.toNatClampNeg ((x3 * (11 : Int32)) + x5)) (h_i h o1 (Int32.toNatClampNeg x5))) (o0 + 9) (Int32.toNatClampNeg x3)), v_i x3, v_r (some (o0 + 9))] (p_i h (o0 + 5) (Int32.toNatClampNeg ((x3 * (11 : Int32)) + x5)) (h_i h o1 (Int32.toNatClampNeg x5))) Q) := by
  have e0 : h_r h o0 4 = some (o0 + 5) := F_o0.2 (0, 4, 5) (by decide)
  have e1 : h_r h o0 8 = some (o0 + 9) := F_o0.2 (0, 8, 9) (by decide)
  unfold ex_
  refine (am_Y_go 20 (ok := [am_ar h (some o1) 20 x5, am_is h (some o0) 6, am_ar h ((h_r h o0 4)) 20 ((x3 * (11 : Int32)) + x5), am_is h (some o0) 6, am_ar h ((h_r h o0 8)) 20 x3]) (g := (if x5 ≤ 0 then 127 else 120, [some (v_r (some o0)), some (v_r (some o1)), l2, some (v_i x3), l4, some (v_i x5), some (v_i (h_i h o1 (Int32.toNatClampNeg x5)))], [v_i (h_i (p_i h ((h_r h o0 4).getD 0) (Int32.toNatClampNeg ((x3 * (11 : Int32)) + x5)) (h_i h o1 (Int32.toNatClampNeg x5))) ((h_r h o0 8).getD 0) (Int32.toNatClampNeg x3)), v_i x3, v_r ((h_r h o0 8))], (p_i h ((h_r h o0 4).getD 0) (Int32.toNatClampNeg ((x3 * (11 : Int32)) + x5)) (h_i h o1 (Int32.toNatClampNeg x5))))) rfl).trans ?_
  simp only [e0, e1, Option.getD_some, am_all]
  all_goals exact cj_k (lb_ar A_o1) (cj_d (lr_is (F_o0.1 0 rfl)) (cj_k (lr_ar (F_o0.1 5 rfl)) (cj_d (lr_is (F_o0.1 0 rfl)) (cj_k (lr_ar (F_o0.1 9 rfl)) (am_Y_if)))))

theorem b_X6_layRows_76 {d : Nat} {Q : Option am_V → am_H → Prop} (h : am_H) (o0 : Nat) (o1 : Nat) (x3 : Int32) (x5 : Int32) (l2 l4 l6 : Option am_V) (F_o0 : y_Orders h o0) {n_o1 : Nat} (A_o1 : y_arr h o1 20 n_o1) : ex_ (d + 1) 48 76 [some (v_r (some o0)), some (v_r (some o1)), l2, some (v_i x3), l4, some (v_i x5), l6] [] h Q ↔ vp_in x3 n_o1 ∧ ex_ d 10 0 [some (v_r (some o0)), some (v_i (h_i h o1 (Int32.toNatClampNeg x3))), some (v_i x5)] [] h (fun r h' => ex_ (d + 1) 48 85 [some (v_r (some o0)), some (v_r (some o1)), l2, some (v_i x3), l4, some (v_i x5), l6] (r.toList ++ []) h' Q) := by
  unfold ex_
  refine (am_Y_go 5 (ok := [am_ar h (some o1) 20 x3]) (g := (82, [some (v_r (some o0)), some (v_r (some o1)), l2, some (v_i x3), l4, some (v_i x5), l6], [v_i x5, v_i (h_i h o1 (Int32.toNatClampNeg x3)), v_r (some o0)], h)) rfl).trans ?_
  simp only [am_all]
  all_goals exact cj_k (lb_ar A_o1) (((am_Y_call (j := 10) (na := 3) (ci := 6) (fl := 0) rfl rfl rfl).trans (cj_d ⟨⟨Nat.le_of_ble_eq_true rfl, Nat.le_of_ble_eq_true rfl, Nat.le_of_ble_eq_true rfl, rfl⟩, Or.inr (Or.inr (show (6 : Nat) < 20 ∧ am_is h (some o0) 6 from ⟨by decide, (lr_is (F_o0.1 0 rfl))⟩))⟩ Iff.rfl)))

theorem b_X6_layRows_127 {d : Nat} {Q : Option am_V → am_H → Prop} (h : am_H) (s0 : Int32) (s1 : Int32) (t2 : Nat) (x5 : Int32) (l0 l1 l2 l3 l4 l6 : Option am_V) {n_t2 : Nat} (A_t2 : y_arr h t2 20 n_t2) : ex_ d 48 127 [l0, l1, l2, l3, l4, some (v_i x5), l6] [v_i s0, v_i s1, v_r (some t2)] h Q ↔ vp_in s1 n_t2 ∧ ex_ d 48 60 [l0, l1, l2, l3, l4, some (v_i (x5 + (1 : Int32))), l6] [] (p_i h t2 (Int32.toNatClampNeg s1) (s0 ||| (0 : Int32))) Q := by
  unfold ex_
  refine (am_Y_go 5 (ok := [am_ar h (some t2) 20 s1]) (g := (60, [l0, l1, l2, l3, l4, some (v_i (x5 + (1 : Int32))), l6], [], (p_i h t2 (Int32.toNatClampNeg s1) (s0 ||| (0 : Int32))))) rfl).trans ?_
  simp only [am_all]
  all_goals exact cj_k (lb_ar A_t2) (Iff.rfl)

theorem b_X6_layRows_120 {d : Nat} {Q : Option am_V → am_H → Prop} (h : am_H) (s0 : Int32) (s1 : Int32) (t2 : Nat) (x6 : Int32) (x5 : Int32) (l0 l1 l2 l3 l4 : Option am_V) {n_t2 : Nat} (A_t2 : y_arr h t2 20 n_t2) : ex_ d 48 120 [l0, l1, l2, l3, l4, some (v_i x5), some (v_i x6)] [v_i s0, v_i s1, v_r (some t2)] h Q ↔ vp_in s1 n_t2 ∧ ex_ d 48 60 [l0, l1, l2, l3, l4, some (v_i (x5 + (1 : Int32))), some (v_i x6)] [] (p_i h t2 (Int32.toNatClampNeg s1) (s0 ||| ((1 : Int32) <<< (x6 &&& 31)))) Q := by
  unfold ex_
  refine (am_Y_go 8 (ok := [am_ar h (some t2) 20 s1]) (g := (60, [l0, l1, l2, l3, l4, some (v_i (x5 + (1 : Int32))), some (v_i x6)], [], (p_i h t2 (Int32.toNatClampNeg s1) (s0 ||| ((1 : Int32) <<< (x6 &&& 31)))))) rfl).trans ?_
  simp only [am_all]
  all_goals exact cj_k (lb_ar A_t2) (Iff.rfl)

theorem b_X6_layRows_85 {d : Nat} {Q : Option am_V → am_H → Prop} (h : am_H) (s0 : Int32) (o0 : Nat) (x3 : Int32) (x5 : Int32) (l1 l2 l4 l6 : Option am_V) (F_o0 : y_Orders h o0) : ex_ d 48 85 [some (v_r (some o0)), l1, l2, some (v_i x3), l4, some (v_i x5), l6] [v_i s0] h Q ↔ vp_in ((x3 * (11 : Int32)) + x5) 55 ∧ vp_in x3 5 ∧ (if x5 ≤ 0 then ex_ d 48 127 [some (v_r (some o0)), l1, l2, some (v_i x3), l4, some (v_i x5), some (v_i s0)] [v_i (h_i (p_i h (o0 + 5) (Int32.toNatClampNeg ((x3 * (11 : Int32)) + x5)) s0) (o0 + 9) (Int32.toNatClampNeg x3)), v_i x3, v_r (some (o0 + 9))] (p_i h (o0 + 5) (Int32.toNatClampNeg ((x3 * (11 : Int32)) + x5)) s0) Q else ex_ d 48 120 [some (v_r (some o0)), l1, l2, some (v_i x3), l4, some (v_i x5), some (v_i s0)] [v_i (h_i (p_i h (o0 + 5) (Int32.toNatClampNeg ((x3 * (11 : Int32)) + x5)) s0) (o0 + 9) (Int32.toNatClampNeg x3)), v_i x3, v_r (some (o0 + 9))] (p_i h (o0 + 5) (Int32.toNatClampNeg ((x3 * (11 : Int32)) + x5)) s0) Q) := by
  have e0 : h_r h o0 4 = some (o0 + 5) := F_o0.2 (0, 4, 5) (by decide)
  have e1 : h_r h o0 8 = some (o0 + 9) := F_o0.2 (0, 8, 9) (by decide)
  unfold ex_
  refine (am_Y_go 18 (ok := [am_is h (some o0) 6, am_ar h ((h_r h o0 4)) 20 ((x3 * (11 : Int32)) + x5), am_is h (some o0) 6, am_ar h ((h_r h o0 8)) 20 x3]) (g := (if x5 ≤ 0 then 127 else 120, [some (v_r (some o0)), l1, l2, some (v_i x3), l4, some (v_i x5), some (v_i s0)], [v_i (h_i (p_i h ((h_r h o0 4).getD 0) (Int32.toNatClampNeg ((x3 * (11 : Int32)) + x5)) s0) ((h_r h o0 8).getD 0) (Int32.toNatClampNeg x3)), v_i x3, v_r ((h_r h o0 8))], (p_i h ((h_r h o0 4).getD 0) (Int32.toNatClampNeg ((x3 * (11 : Int32)) + x5)) s0))) rfl).trans ?_
  simp only [e0, e1, Option.getD_some, am_all]
  all_goals exact cj_d (lr_is (F_o0.1 0 rfl)) (cj_k (lr_ar (F_o0.1 5 rfl)) (cj_d (lr_is (F_o0.1 0 rfl)) (cj_k (lr_ar (F_o0.1 9 rfl)) (am_Y_if))))

theorem b_X6_firstFree_0 {d : Nat} {Q : Option am_V → am_H → Prop} (h : am_H) (l0 l1 l2 l3 : Option am_V) : ex_ d 49 0 [l0, l1, l2, l3] [] h Q ↔ ex_ d 49 4 [l0, l1, some (v_i (0 : Int32)), some (v_i (0 : Int32))] [] h Q := by
  unfold ex_
  refine (am_Y_go 4 (ok := []) (g := (4, [l0, l1, some (v_i (0 : Int32)), some (v_i (0 : Int32))], [], h)) rfl).trans ?_
  all_goals exact Iff.rfl

theorem b_X6_firstFree_4 {d : Nat} {Q : Option am_V → am_H → Prop} (h : am_H) (x3 : Int32) (x1 : Int32) (l0 l2 : Option am_V) : ex_ d 49 4 [l0, some (v_i x1), l2, some (v_i x3)] [] h Q ↔ if x1 < x3 then ex_ d 49 29 [l0, some (v_i x1), l2, some (v_i x3)] [] h Q else ex_ d 49 9 [l0, some (v_i x1), l2, some (v_i x3)] [] h Q := by
  unfold ex_
  refine (am_Y_go 3 (ok := []) (g := (if x1 < x3 then 29 else 9, [l0, some (v_i x1), l2, some (v_i x3)], [], h)) rfl).trans ?_
  all_goals exact am_Y_if

theorem b_X6_firstFree_29 {d : Nat} {Q : Option am_V → am_H → Prop} (h : am_H) (l0 l1 l2 l3 : Option am_V) : ex_ d 49 29 [l0, l1, l2, l3] [] h Q ↔ ex_ d 49 31 [l0, l1, l2, some (v_i (0 : Int32))] [] h Q := by
  unfold ex_
  refine (am_Y_go 2 (ok := []) (g := (31, [l0, l1, l2, some (v_i (0 : Int32))], [], h)) rfl).trans ?_
  all_goals exact Iff.rfl

theorem b_X6_firstFree_9 {d : Nat} {Q : Option am_V → am_H → Prop} (h : am_H) (x3 : Int32) (l0 l1 l2 : Option am_V) : ex_ d 49 9 [l0, l1, l2, some (v_i x3)] [] h Q ↔ if (5 : Int32) ≤ x3 then ex_ d 49 29 [l0, l1, l2, some (v_i x3)] [] h Q else ex_ d 49 14 [l0, l1, l2, some (v_i x3)] [] h Q := by
  unfold ex_
  refine (am_Y_go 3 (ok := []) (g := (if (5 : Int32) ≤ x3 then 29 else 14, [l0, l1, l2, some (v_i x3)], [], h)) rfl).trans ?_
  all_goals exact am_Y_if

theorem b_X6_firstFree_31 {d : Nat} {Q : Option am_V → am_H → Prop} (h : am_H) (x3 : Int32) (x1 : Int32) (l0 l2 : Option am_V) : ex_ d 49 31 [l0, some (v_i x1), l2, some (v_i x3)] [] h Q ↔ if x1 < x3 then ex_ d 49 77 [l0, some (v_i x1), l2, some (v_i x3)] [] h Q else ex_ d 49 36 [l0, some (v_i x1), l2, some (v_i x3)] [] h Q := by
  unfold ex_
  refine (am_Y_go 3 (ok := []) (g := (if x1 < x3 then 77 else 36, [l0, some (v_i x1), l2, some (v_i x3)], [], h)) rfl).trans ?_
  all_goals exact am_Y_if

theorem b_X6_firstFree_14 {d : Nat} {Q : Option am_V → am_H → Prop} (h : am_H) (x2 : Int32) (o0 : Nat) (x3 : Int32) (l1 : Option am_V) (F_o0 : y_Orders h o0) : ex_ d 49 14 [some (v_r (some o0)), l1, some (v_i x2), some (v_i x3)] [] h Q ↔ vp_in x3 5 ∧ ex_ d 49 4 [some (v_r (some o0)), l1, some (v_i (x2 ||| (h_i h (o0 + 9) (Int32.toNatClampNeg x3)))), some (v_i (x3 + (1 : Int32)))] [] h Q := by
  have e0 : h_r h o0 8 = some (o0 + 9) := F_o0.2 (0, 8, 9) (by decide)
  unfold ex_
  refine (am_Y_go 9 (ok := [am_is h (some o0) 6, am_ar h ((h_r h o0 8)) 20 x3]) (g := (4, [some (v_r (some o0)), l1, some (v_i (x2 ||| (h_i h ((h_r h o0 8).getD 0) (Int32.toNatClampNeg x3)))), some (v_i (x3 + (1 : Int32)))], [], h)) rfl).trans ?_
  simp only [e0, Option.getD_some, am_all]
  all_goals exact cj_d (lr_is (F_o0.1 0 rfl)) (cj_k (lr_ar (F_o0.1 9 rfl)) (Iff.rfl))

theorem b_X6_firstFree_77 {d : Nat} {Q : Option am_V → am_H → Prop} (h : am_H) (l0 l1 l2 l3 : Option am_V) : ex_ d 49 77 [l0, l1, l2, l3] [] h Q ↔ Q (some (v_i (-1 : Int32))) h := by
  unfold ex_
  refine (am_Y_go 1 (ok := []) (g := (78, [l0, l1, l2, l3], [v_i (-1 : Int32)], h)) rfl).trans ?_
  all_goals exact ((am_Y_ret rfl rfl rfl).trans (am_r0))

theorem b_X6_firstFree_36 {d : Nat} {Q : Option am_V → am_H → Prop} (h : am_H) (x3 : Int32) (l0 l1 l2 : Option am_V) : ex_ d 49 36 [l0, l1, l2, some (v_i x3)] [] h Q ↔ if (5 : Int32) ≤ x3 then ex_ d 49 77 [l0, l1, l2, some (v_i x3)] [] h Q else ex_ d 49 41 [l0, l1, l2, some (v_i x3)] [] h Q := by
  unfold ex_
  refine (am_Y_go 3 (ok := []) (g := (if (5 : Int32) ≤ x3 then 77 else 41, [l0, l1, l2, some (v_i x3)], [], h)) rfl).trans ?_
  all_goals exact am_Y_if

theorem b_X6_firstFree_41 {d : Nat} {Q : Option am_V → am_H → Prop} (h : am_H) (o0 : Nat) (x3 : Int32) (l1 l2 : Option am_V) (F_o0 : y_Orders h o0) : ex_ d 49 41 [some (v_r (some o0)), l1, l2, some (v_i x3)] [] h Q ↔ vp_in x3 5 ∧ (if (h_i h (o0 + 8) (Int32.toNatClampNeg x3)) = (-1 : Int32) then ex_ d 49 71 [some (v_r (some o0)), l1, l2, some (v_i x3)] [] h Q else ex_ d 49 51 [some (v_r (some o0)), l1, l2, some (v_i x3)] [] h Q) := by
  have e0 : h_r h o0 7 = some (o0 + 8) := F_o0.2 (0, 7, 8) (by decide)
  unfold ex_
  refine (am_Y_go 6 (ok := [am_is h (some o0) 6, am_ar h ((h_r h o0 7)) 20 x3]) (g := (if (h_i h ((h_r h o0 7).getD 0) (Int32.toNatClampNeg x3)) = (-1 : Int32) then 71 else 51, [some (v_r (some o0)), l1, l2, some (v_i x3)], [], h)) rfl).trans ?_
  simp only [e0, Option.getD_some, am_all]
  all_goals exact cj_d (lr_is (F_o0.1 0 rfl)) (cj_k (lr_ar (F_o0.1 8 rfl)) (am_Y_if))

theorem b_X6_firstFree_71 {d : Nat} {Q : Option am_V → am_H → Prop} (h : am_H) (x3 : Int32) (l0 l1 l2 : Option am_V) : ex_ d 49 71 [l0, l1, l2, some (v_i x3)] [] h Q ↔ ex_ d 49 31 [l0, l1, l2, some (v_i (x3 + (1 : Int32)))] [] h Q := by
  unfold ex_
  refine (am_Y_go 2 (ok := []) (g := (31, [l0, l1, l2, some (v_i (x3 + (1 : Int32)))], [], h)) rfl).trans ?_
  all_goals exact Iff.rfl

theorem b_X6_firstFree_51 {d : Nat} {Q : Option am_V → am_H → Prop} (h : am_H) (x2 : Int32) (o0 : Nat) (x3 : Int32) (l1 : Option am_V) (F_o0 : y_Orders h o0) : ex_ d 49 51 [some (v_r (some o0)), l1, some (v_i x2), some (v_i x3)] [] h Q ↔ vp_in x3 5 ∧ (if ¬ ((x2 >>> ((h_i h (o0 + 8) (Int32.toNatClampNeg x3)) &&& 31)) &&& (1 : Int32)) = 0 then ex_ d 49 71 [some (v_r (some o0)), l1, some (v_i x2), some (v_i x3)] [] h Q else ex_ d 49 64 [some (v_r (some o0)), l1, some (v_i x2), some (v_i x3)] [] h Q) := by
  have e0 : h_r h o0 7 = some (o0 + 8) := F_o0.2 (0, 7, 8) (by decide)
  unfold ex_
  refine (am_Y_go 9 (ok := [am_is h (some o0) 6, am_ar h ((h_r h o0 7)) 20 x3]) (g := (if ¬ ((x2 >>> ((h_i h ((h_r h o0 7).getD 0) (Int32.toNatClampNeg x3)) &&& 31)) &&& (1 : Int32)) = 0 then 71 else 64, [some (v_r (some o0)), l1, some (v_i x2), some (v_i x3)], [], h)) rfl).trans ?_
  simp only [e0, Option.getD_some, am_all]
  all_goals exact cj_d (lr_is (F_o0.1 0 rfl)) (cj_k (lr_ar (F_o0.1 8 rfl)) (am_Y_if))

theorem b_X6_firstFree_64 {d : Nat} {Q : Option am_V → am_H → Prop} (h : am_H) (o0 : Nat) (x3 : Int32) (l1 l2 : Option am_V) (F_o0 : y_Orders h o0) : ex_ d 49 64 [some (v_r (some o0)), l1, l2, some (v_i x3)] [] h Q ↔ vp_in x3 5 ∧ Q (some (v_i (h_i h (o0 + 8) (Int32.toNatClampNeg x3)))) h := by
  have e0 : h_r h o0 7 = some (o0 + 8) := F_o0.2 (0, 7, 8) (by decide)
  unfold ex_
  refine (am_Y_go 4 (ok := [am_is h (some o0) 6, am_ar h ((h_r h o0 7)) 20 x3]) (g := (70, [some (v_r (some o0)), l1, l2, some (v_i x3)], [v_i (h_i h ((h_r h o0 7).getD 0) (Int32.toNatClampNeg x3))], h)) rfl).trans ?_
  simp only [e0, Option.getD_some, am_all]
  all_goals exact cj_d (lr_is (F_o0.1 0 rfl)) (cj_k (lr_ar (F_o0.1 8 rfl)) (((am_Y_ret rfl rfl rfl).trans (am_r0))))

theorem b_X6_takeFromAll_0 {d : Nat} {Q : Option am_V → am_H → Prop} (h : am_H) (l0 l1 l2 l3 l4 : Option am_V) : ex_ d 50 0 [l0, l1, l2, l3, l4] [] h Q ↔ ex_ d 50 2 [l0, l1, l2, some (v_i (0 : Int32)), l4] [] h Q := by
  unfold ex_
  refine (am_Y_go 2 (ok := []) (g := (2, [l0, l1, l2, some (v_i (0 : Int32)), l4], [], h)) rfl).trans ?_
  all_goals exact Iff.rfl

theorem b_X6_takeFromAll_2 {d : Nat} {Q : Option am_V → am_H → Prop} (h : am_H) (x3 : Int32) (x2 : Int32) (l0 l1 l4 : Option am_V) : ex_ d 50 2 [l0, l1, some (v_i x2), some (v_i x3), l4] [] h Q ↔ if x2 < x3 then ex_ d 50 130 [l0, l1, some (v_i x2), some (v_i x3), l4] [] h Q else ex_ d 50 7 [l0, l1, some (v_i x2), some (v_i x3), l4] [] h Q := by
  unfold ex_
  refine (am_Y_go 3 (ok := []) (g := (if x2 < x3 then 130 else 7, [l0, l1, some (v_i x2), some (v_i x3), l4], [], h)) rfl).trans ?_
  all_goals exact am_Y_if

theorem b_X6_takeFromAll_130 {d : Nat} {Q : Option am_V → am_H → Prop} (h : am_H) (l0 l1 l2 l3 l4 : Option am_V) : ex_ d 50 130 [l0, l1, l2, l3, l4] [] h Q ↔ Q (none) h := by
  unfold ex_
  exact ((am_Y_ret rfl rfl rfl).trans (am_rz rfl))

theorem b_X6_takeFromAll_7 {d : Nat} {Q : Option am_V → am_H → Prop} (h : am_H) (x3 : Int32) (l0 l1 l2 l4 : Option am_V) : ex_ d 50 7 [l0, l1, l2, some (v_i x3), l4] [] h Q ↔ if (5 : Int32) ≤ x3 then ex_ d 50 130 [l0, l1, l2, some (v_i x3), l4] [] h Q else ex_ d 50 12 [l0, l1, l2, some (v_i x3), l4] [] h Q := by
  unfold ex_
  refine (am_Y_go 3 (ok := []) (g := (if (5 : Int32) ≤ x3 then 130 else 12, [l0, l1, l2, some (v_i x3), l4], [], h)) rfl).trans ?_
  all_goals exact am_Y_if

theorem b_X6_takeFromAll_12 {d : Nat} {Q : Option am_V → am_H → Prop} (h : am_H) (o0 : Nat) (x3 : Int32) (x1 : Int32) (l2 l4 : Option am_V) (F_o0 : y_Orders h o0) : ex_ d 50 12 [some (v_r (some o0)), some (v_i x1), l2, some (v_i x3), l4] [] h Q ↔ vp_in x3 5 ∧ (if ¬ (h_i h (o0 + 8) (Int32.toNatClampNeg x3)) = x1 then ex_ d 50 124 [some (v_r (some o0)), some (v_i x1), l2, some (v_i x3), l4] [] h Q else ex_ d 50 22 [some (v_r (some o0)), some (v_i x1), l2, some (v_i x3), l4] [] h Q) := by
  have e0 : h_r h o0 7 = some (o0 + 8) := F_o0.2 (0, 7, 8) (by decide)
  unfold ex_
  refine (am_Y_go 6 (ok := [am_is h (some o0) 6, am_ar h ((h_r h o0 7)) 20 x3]) (g := (if ¬ (h_i h ((h_r h o0 7).getD 0) (Int32.toNatClampNeg x3)) = x1 then 124 else 22, [some (v_r (some o0)), some (v_i x1), l2, some (v_i x3), l4], [], h)) rfl).trans ?_
  simp only [e0, Option.getD_some, am_all]
  all_goals exact cj_d (lr_is (F_o0.1 0 rfl)) (cj_k (lr_ar (F_o0.1 8 rfl)) (am_Y_if))

theorem b_X6_takeFromAll_124 {d : Nat} {Q : Option am_V → am_H → Prop} (h : am_H) (x3 : Int32) (l0 l1 l2 l4 : Option am_V) : ex_ d 50 124 [l0, l1, l2, some (v_i x3), l4] [] h Q ↔ ex_ d 50 2 [l0, l1, l2, some (v_i (x3 + (1 : Int32))), l4] [] h Q := by
  unfold ex_
  refine (am_Y_go 2 (ok := []) (g := (2, [l0, l1, l2, some (v_i (x3 + (1 : Int32))), l4], [], h)) rfl).trans ?_
  all_goals exact Iff.rfl

theorem b_X6_takeFromAll_22 {d : Nat} {Q : Option am_V → am_H → Prop} (h : am_H) (o0 : Nat) (x3 : Int32) (l1 l2 l4 : Option am_V) (F_o0 : y_Orders h o0) : ex_ d 50 22 [some (v_r (some o0)), l1, l2, some (v_i x3), l4] [] h Q ↔ vp_in x3 5 ∧ vp_in x3 5 ∧ vp_in x3 5 ∧ vp_in x3 5 ∧ (if (h_i (p_i h (o0 + 7) (Int32.toNatClampNeg x3) ((h_i h (o0 + 7) (Int32.toNatClampNeg x3)) + (1 : Int32))) (o0 + 6) (Int32.toNatClampNeg x3)) ≤ (h_i (p_i h (o0 + 7) (Int32.toNatClampNeg x3) ((h_i h (o0 + 7) (Int32.toNatClampNeg x3)) + (1 : Int32))) (o0 + 7) (Int32.toNatClampNeg x3)) then ex_ d 50 62 [some (v_r (some o0)), l1, l2, some (v_i x3), l4] [] (p_i h (o0 + 7) (Int32.toNatClampNeg x3) ((h_i h (o0 + 7) (Int32.toNatClampNeg x3)) + (1 : Int32))) Q else ex_ d 50 47 [some (v_r (some o0)), l1, l2, some (v_i x3), l4] [] (p_i h (o0 + 7) (Int32.toNatClampNeg x3) ((h_i h (o0 + 7) (Int32.toNatClampNeg x3)) + (1 : Int32))) Q) := by
  have e0 : h_r h o0 6 = some (o0 + 7) := F_o0.2 (0, 6, 7) (by decide)
  have e1 : h_r h o0 5 = some (o0 + 6) := F_o0.2 (0, 5, 6) (by decide)
  unfold ex_
  refine (am_Y_go 17 (ok := [am_is h (some o0) 6, am_ar h ((h_r h o0 6)) 20 x3, am_ar h ((h_r h o0 6)) 20 x3, am_is h (some o0) 6, am_ar h ((h_r h o0 6)) 20 x3, am_is h (some o0) 6, am_ar h ((h_r h o0 5)) 20 x3]) (g := (if (h_i (p_i h ((h_r h o0 6).getD 0) (Int32.toNatClampNeg x3) ((h_i h ((h_r h o0 6).getD 0) (Int32.toNatClampNeg x3)) + (1 : Int32))) ((h_r h o0 5).getD 0) (Int32.toNatClampNeg x3)) ≤ (h_i (p_i h ((h_r h o0 6).getD 0) (Int32.toNatClampNeg x3) ((h_i h ((h_r h o0 6).getD 0) (Int32.toNatClampNeg x3)) + (1 : Int32))) ((h_r h o0 6).getD 0) (Int32.toNatClampNeg x3)) then 62 else 47, [some (v_r (some o0)), l1, l2, some (v_i x3), l4], [], (p_i h ((h_r h o0 6).getD 0) (Int32.toNatClampNeg x3) ((h_i h ((h_r h o0 6).getD 0) (Int32.toNatClampNeg x3)) + (1 : Int32))))) rfl).trans ?_
  simp only [e0, e1, Option.getD_some, am_all]
  all_goals exact cj_d (lr_is (F_o0.1 0 rfl)) (cj_k (lr_ar (F_o0.1 7 rfl)) (cj_k (lr_ar (F_o0.1 7 rfl)) (cj_d (lr_is (F_o0.1 0 rfl)) (cj_k (lr_ar (F_o0.1 7 rfl)) (cj_d (lr_is (F_o0.1 0 rfl)) (cj_k (lr_ar (F_o0.1 6 rfl)) (am_Y_if)))))))

theorem b_X6_takeFromAll_62 {d : Nat} {Q : Option am_V → am_H → Prop} (h : am_H) (o0 : Nat) (x3 : Int32) (l1 l2 l4 : Option am_V) (F_o0 : y_Orders h o0) : ex_ d 50 62 [some (v_r (some o0)), l1, l2, some (v_i x3), l4] [] h Q ↔ if (0 : Int32) = 0 then ex_ d 50 94 [some (v_r (some o0)), l1, l2, some (v_i x3), some (v_i (0 : Int32))] [v_i x3, v_r (some (o0 + 8))] h Q else ex_ d 50 75 [some (v_r (some o0)), l1, l2, some (v_i x3), some (v_i (0 : Int32))] [v_i x3, v_r (some (o0 + 8))] h Q := by
  have e0 : h_r h o0 7 = some (o0 + 8) := F_o0.2 (0, 7, 8) (by decide)
  unfold ex_
  refine (am_Y_go 7 (ok := [am_is h (some o0) 6]) (g := (if (0 : Int32) = 0 then 94 else 75, [some (v_r (some o0)), l1, l2, some (v_i x3), some (v_i (0 : Int32))], [v_i x3, v_r ((h_r h o0 7))], h)) rfl).trans ?_
  simp only [e0, Option.getD_some, am_all]
  all_goals exact cj_d (lr_is (F_o0.1 0 rfl)) (am_Y_if)

theorem b_X6_takeFromAll_47 {d : Nat} {Q : Option am_V → am_H → Prop} (h : am_H) (o0 : Nat) (x3 : Int32) (l1 l2 l4 : Option am_V) (F_o0 : y_Orders h o0) : ex_ d 50 47 [some (v_r (some o0)), l1, l2, some (v_i x3), l4] [] h Q ↔ vp_in x3 5 ∧ (if (11 : Int32) ≤ (h_i h (o0 + 7) (Int32.toNatClampNeg x3)) then ex_ d 50 62 [some (v_r (some o0)), l1, l2, some (v_i x3), l4] [] h Q else ex_ d 50 58 [some (v_r (some o0)), l1, l2, some (v_i x3), l4] [] h Q) := by
  have e0 : h_r h o0 6 = some (o0 + 7) := F_o0.2 (0, 6, 7) (by decide)
  unfold ex_
  refine (am_Y_go 6 (ok := [am_is h (some o0) 6, am_ar h ((h_r h o0 6)) 20 x3]) (g := (if (11 : Int32) ≤ (h_i h ((h_r h o0 6).getD 0) (Int32.toNatClampNeg x3)) then 62 else 58, [some (v_r (some o0)), l1, l2, some (v_i x3), l4], [], h)) rfl).trans ?_
  simp only [e0, Option.getD_some, am_all]
  all_goals exact cj_d (lr_is (F_o0.1 0 rfl)) (cj_k (lr_ar (F_o0.1 7 rfl)) (am_Y_if))

theorem b_X6_takeFromAll_94 {d : Nat} {Q : Option am_V → am_H → Prop} (h : am_H) (s0 : Int32) (t1 : Nat) (o0 : Nat) (x3 : Int32) (x4 : Int32) (l1 l2 : Option am_V) {n_t1 : Nat} (A_t1 : y_arr h t1 20 n_t1) (F_o0 : y_Orders h o0) : ex_ d 50 94 [some (v_r (some o0)), l1, l2, some (v_i x3), some (v_i x4)] [v_i s0, v_r (some t1)] h Q ↔ vp_in s0 n_t1 ∧ vp_in x3 5 ∧ (if x4 = 0 then ex_ d 50 121 [some (v_r (some o0)), l1, l2, some (v_i x3), some (v_i x4)] [v_i (h_i (p_i h t1 (Int32.toNatClampNeg s0) (-1 : Int32)) (o0 + 9) (Int32.toNatClampNeg x3)), v_i x3, v_r (some (o0 + 9))] (p_i h t1 (Int32.toNatClampNeg s0) (-1 : Int32)) Q else ex_ d 50 108 [some (v_r (some o0)), l1, l2, some (v_i x3), some (v_i x4)] [v_i (h_i (p_i h t1 (Int32.toNatClampNeg s0) (-1 : Int32)) (o0 + 9) (Int32.toNatClampNeg x3)), v_i x3, v_r (some (o0 + 9))] (p_i h t1 (Int32.toNatClampNeg s0) (-1 : Int32)) Q) := by
  have e0 : h_r h o0 8 = some (o0 + 9) := F_o0.2 (0, 8, 9) (by decide)
  unfold ex_
  refine (am_Y_go 9 (ok := [am_ar h (some t1) 20 s0, am_is h (some o0) 6, am_ar h ((h_r h o0 8)) 20 x3]) (g := (if x4 = 0 then 121 else 108, [some (v_r (some o0)), l1, l2, some (v_i x3), some (v_i x4)], [v_i (h_i (p_i h t1 (Int32.toNatClampNeg s0) (-1 : Int32)) ((h_r h o0 8).getD 0) (Int32.toNatClampNeg x3)), v_i x3, v_r ((h_r h o0 8))], (p_i h t1 (Int32.toNatClampNeg s0) (-1 : Int32)))) rfl).trans ?_
  simp only [e0, Option.getD_some, am_all]
  all_goals exact cj_k (lb_ar A_t1) (cj_d (lr_is (F_o0.1 0 rfl)) (cj_k (lr_ar (F_o0.1 9 rfl)) (am_Y_if)))

theorem b_X6_takeFromAll_75 {d : Nat} {Q : Option am_V → am_H → Prop} (h : am_H) (s0 : Int32) (t1 : Nat) (o0 : Nat) (x3 : Int32) (x4 : Int32) (l1 l2 : Option am_V) {n_t1 : Nat} (A_t1 : y_arr h t1 20 n_t1) (F_o0 : y_Orders h o0) : ex_ d 50 75 [some (v_r (some o0)), l1, l2, some (v_i x3), some (v_i x4)] [v_i s0, v_r (some t1)] h Q ↔ vp_in x3 5 ∧ vp_in ((x3 * (11 : Int32)) + (h_i h (o0 + 7) (Int32.toNatClampNeg x3))) 55 ∧ vp_in s0 n_t1 ∧ vp_in x3 5 ∧ (if x4 = 0 then ex_ d 50 121 [some (v_r (some o0)), l1, l2, some (v_i x3), some (v_i x4)] [v_i (h_i (p_i h t1 (Int32.toNatClampNeg s0) (h_i h (o0 + 5) (Int32.toNatClampNeg ((x3 * (11 : Int32)) + (h_i h (o0 + 7) (Int32.toNatClampNeg x3)))))) (o0 + 9) (Int32.toNatClampNeg x3)), v_i x3, v_r (some (o0 + 9))] (p_i h t1 (Int32.toNatClampNeg s0) (h_i h (o0 + 5) (Int32.toNatClampNeg ((x3 * (11 : Int32)) + (h_i h (o0 + 7) (Int32.toNatClampNeg x3)))))) Q else ex_ d 50 108 [some (v_r (some o0)), l1, l2, some (v_i x3), some (v_i x4)] [v_i (h_i (p_i h t1 (Int32.toNatClampNeg s0) (h_i h (o0 + 5) (Int32.toNatClampNeg ((x3 * (11 : Int32)) + (h_i h (o0 + 7) (Int32.toNatClampNeg x3)))))) (o0 + 9) (Int32.toNatClampNeg x3)), v_i x3, v_r (some (o0 + 9))] (p_i h t1 (Int32.toNatClampNeg s0) (h_i h (o0 + 5) (Int32.toNatClampNeg ((x3 * (11 : Int32)) + (h_i h (o0 + 7) (Int32.toNatClampNeg x3)))))) Q) := by
  have e0 : h_r h o0 4 = some (o0 + 5) := F_o0.2 (0, 4, 5) (by decide)
  have e1 : h_r h o0 6 = some (o0 + 7) := F_o0.2 (0, 6, 7) (by decide)
  have e2 : h_r h o0 8 = some (o0 + 9) := F_o0.2 (0, 8, 9) (by decide)
  unfold ex_
  refine (am_Y_go 20 (ok := [am_is h (some o0) 6, am_is h (some o0) 6, am_ar h ((h_r h o0 6)) 20 x3, am_ar h ((h_r h o0 4)) 20 ((x3 * (11 : Int32)) + (h_i h ((h_r h o0 6).getD 0) (Int32.toNatClampNeg x3))), am_ar h (some t1) 20 s0, am_is h (some o0) 6, am_ar h ((h_r h o0 8)) 20 x3]) (g := (if x4 = 0 then 121 else 108, [some (v_r (some o0)), l1, l2, some (v_i x3), some (v_i x4)], [v_i (h_i (p_i h t1 (Int32.toNatClampNeg s0) (h_i h ((h_r h o0 4).getD 0) (Int32.toNatClampNeg ((x3 * (11 : Int32)) + (h_i h ((h_r h o0 6).getD 0) (Int32.toNatClampNeg x3)))))) ((h_r h o0 8).getD 0) (Int32.toNatClampNeg x3)), v_i x3, v_r ((h_r h o0 8))], (p_i h t1 (Int32.toNatClampNeg s0) (h_i h ((h_r h o0 4).getD 0) (Int32.toNatClampNeg ((x3 * (11 : Int32)) + (h_i h ((h_r h o0 6).getD 0) (Int32.toNatClampNeg x3)))))))) rfl).trans ?_
  simp only [e0, e1, e2, Option.getD_some, am_all]
  all_goals exact cj_d (lr_is (F_o0.1 0 rfl)) (cj_d (lr_is (F_o0.1 0 rfl)) (cj_k (lr_ar (F_o0.1 7 rfl)) (cj_k (lr_ar (F_o0.1 5 rfl)) (cj_k (lb_ar A_t1) (cj_d (lr_is (F_o0.1 0 rfl)) (cj_k (lr_ar (F_o0.1 9 rfl)) (am_Y_if)))))))

theorem b_X6_takeFromAll_58 {d : Nat} {Q : Option am_V → am_H → Prop} (h : am_H) (o0 : Nat) (x3 : Int32) (l1 l2 l4 : Option am_V) (F_o0 : y_Orders h o0) : ex_ d 50 58 [some (v_r (some o0)), l1, l2, some (v_i x3), l4] [] h Q ↔ if (1 : Int32) = 0 then ex_ d 50 94 [some (v_r (some o0)), l1, l2, some (v_i x3), some (v_i (1 : Int32))] [v_i x3, v_r (some (o0 + 8))] h Q else ex_ d 50 75 [some (v_r (some o0)), l1, l2, some (v_i x3), some (v_i (1 : Int32))] [v_i x3, v_r (some (o0 + 8))] h Q := by
  have e0 : h_r h o0 7 = some (o0 + 8) := F_o0.2 (0, 7, 8) (by decide)
  unfold ex_
  refine (am_Y_go 8 (ok := [am_is h (some o0) 6]) (g := (if (1 : Int32) = 0 then 94 else 75, [some (v_r (some o0)), l1, l2, some (v_i x3), some (v_i (1 : Int32))], [v_i x3, v_r ((h_r h o0 7))], h)) rfl).trans ?_
  simp only [e0, Option.getD_some, am_all]
  all_goals exact cj_d (lr_is (F_o0.1 0 rfl)) (am_Y_if)

theorem b_X6_takeFromAll_121 {d : Nat} {Q : Option am_V → am_H → Prop} (h : am_H) (s0 : Int32) (s1 : Int32) (t2 : Nat) (x3 : Int32) (l0 l1 l2 l4 : Option am_V) {n_t2 : Nat} (A_t2 : y_arr h t2 20 n_t2) : ex_ d 50 121 [l0, l1, l2, some (v_i x3), l4] [v_i s0, v_i s1, v_r (some t2)] h Q ↔ vp_in s1 n_t2 ∧ ex_ d 50 2 [l0, l1, l2, some (v_i (x3 + (1 : Int32))), l4] [] (p_i h t2 (Int32.toNatClampNeg s1) (s0 &&& (0 : Int32))) Q := by
  unfold ex_
  refine (am_Y_go 5 (ok := [am_ar h (some t2) 20 s1]) (g := (2, [l0, l1, l2, some (v_i (x3 + (1 : Int32))), l4], [], (p_i h t2 (Int32.toNatClampNeg s1) (s0 &&& (0 : Int32))))) rfl).trans ?_
  simp only [am_all]
  all_goals exact cj_k (lb_ar A_t2) (Iff.rfl)

theorem b_X6_takeFromAll_108 {d : Nat} {Q : Option am_V → am_H → Prop} (h : am_H) (s0 : Int32) (s1 : Int32) (t2 : Nat) (o0 : Nat) (x3 : Int32) (l1 l2 l4 : Option am_V) {n_t2 : Nat} (A_t2 : y_arr h t2 20 n_t2) (F_o0 : y_Orders h o0) : ex_ d 50 108 [some (v_r (some o0)), l1, l2, some (v_i x3), l4] [v_i s0, v_i s1, v_r (some t2)] h Q ↔ vp_in x3 5 ∧ vp_in s1 n_t2 ∧ ex_ d 50 2 [some (v_r (some o0)), l1, l2, some (v_i (x3 + (1 : Int32))), l4] [] (p_i h t2 (Int32.toNatClampNeg s1) (s0 &&& (((1 : Int32) <<< ((h_i h (o0 + 8) (Int32.toNatClampNeg x3)) &&& 31)) ^^^ (-1 : Int32)))) Q := by
  have e0 : h_r h o0 7 = some (o0 + 8) := F_o0.2 (0, 7, 8) (by decide)
  unfold ex_
  refine (am_Y_go 13 (ok := [am_is h (some o0) 6, am_ar h ((h_r h o0 7)) 20 x3, am_ar h (some t2) 20 s1]) (g := (2, [some (v_r (some o0)), l1, l2, some (v_i (x3 + (1 : Int32))), l4], [], (p_i h t2 (Int32.toNatClampNeg s1) (s0 &&& (((1 : Int32) <<< ((h_i h ((h_r h o0 7).getD 0) (Int32.toNatClampNeg x3)) &&& 31)) ^^^ (-1 : Int32)))))) rfl).trans ?_
  simp only [e0, Option.getD_some, am_all]
  all_goals exact cj_d (lr_is (F_o0.1 0 rfl)) (cj_k (lr_ar (F_o0.1 8 rfl)) (cj_k (lb_ar A_t2) (Iff.rfl)))

theorem b_X6_isAllTaken_0 {d : Nat} {Q : Option am_V → am_H → Prop} (h : am_H) (l0 l1 l2 : Option am_V) : ex_ d 51 0 [l0, l1, l2] [] h Q ↔ ex_ d 51 2 [l0, l1, some (v_i (0 : Int32))] [] h Q := by
  unfold ex_
  refine (am_Y_go 2 (ok := []) (g := (2, [l0, l1, some (v_i (0 : Int32))], [], h)) rfl).trans ?_
  all_goals exact Iff.rfl

theorem b_X6_isAllTaken_2 {d : Nat} {Q : Option am_V → am_H → Prop} (h : am_H) (x2 : Int32) (x1 : Int32) (l0 : Option am_V) : ex_ d 51 2 [l0, some (v_i x1), some (v_i x2)] [] h Q ↔ if x1 < x2 then ex_ d 51 30 [l0, some (v_i x1), some (v_i x2)] [] h Q else ex_ d 51 7 [l0, some (v_i x1), some (v_i x2)] [] h Q := by
  unfold ex_
  refine (am_Y_go 3 (ok := []) (g := (if x1 < x2 then 30 else 7, [l0, some (v_i x1), some (v_i x2)], [], h)) rfl).trans ?_
  all_goals exact am_Y_if

theorem b_X6_isAllTaken_30 {d : Nat} {Q : Option am_V → am_H → Prop} (h : am_H) (l0 l1 l2 : Option am_V) : ex_ d 51 30 [l0, l1, l2] [] h Q ↔ Q (some (v_i (1 : Int32))) h := by
  unfold ex_
  refine (am_Y_go 1 (ok := []) (g := (31, [l0, l1, l2], [v_i (1 : Int32)], h)) rfl).trans ?_
  all_goals exact ((am_Y_ret rfl rfl rfl).trans (am_rz (show am_fit 1 1 from Or.inr rfl)))

theorem b_X6_isAllTaken_7 {d : Nat} {Q : Option am_V → am_H → Prop} (h : am_H) (x2 : Int32) (l0 l1 : Option am_V) : ex_ d 51 7 [l0, l1, some (v_i x2)] [] h Q ↔ if (5 : Int32) ≤ x2 then ex_ d 51 30 [l0, l1, some (v_i x2)] [] h Q else ex_ d 51 12 [l0, l1, some (v_i x2)] [] h Q := by
  unfold ex_
  refine (am_Y_go 3 (ok := []) (g := (if (5 : Int32) ≤ x2 then 30 else 12, [l0, l1, some (v_i x2)], [], h)) rfl).trans ?_
  all_goals exact am_Y_if

theorem b_X6_isAllTaken_12 {d : Nat} {Q : Option am_V → am_H → Prop} (h : am_H) (o0 : Nat) (x2 : Int32) (l1 : Option am_V) (F_o0 : y_Orders h o0) : ex_ d 51 12 [some (v_r (some o0)), l1, some (v_i x2)] [] h Q ↔ vp_in x2 5 ∧ (if (h_i h (o0 + 8) (Int32.toNatClampNeg x2)) = (-1 : Int32) then ex_ d 51 24 [some (v_r (some o0)), l1, some (v_i x2)] [] h Q else ex_ d 51 22 [some (v_r (some o0)), l1, some (v_i x2)] [] h Q) := by
  have e0 : h_r h o0 7 = some (o0 + 8) := F_o0.2 (0, 7, 8) (by decide)
  unfold ex_
  refine (am_Y_go 6 (ok := [am_is h (some o0) 6, am_ar h ((h_r h o0 7)) 20 x2]) (g := (if (h_i h ((h_r h o0 7).getD 0) (Int32.toNatClampNeg x2)) = (-1 : Int32) then 24 else 22, [some (v_r (some o0)), l1, some (v_i x2)], [], h)) rfl).trans ?_
  simp only [e0, Option.getD_some, am_all]
  all_goals exact cj_d (lr_is (F_o0.1 0 rfl)) (cj_k (lr_ar (F_o0.1 8 rfl)) (am_Y_if))

theorem b_X6_isAllTaken_24 {d : Nat} {Q : Option am_V → am_H → Prop} (h : am_H) (x2 : Int32) (l0 l1 : Option am_V) : ex_ d 51 24 [l0, l1, some (v_i x2)] [] h Q ↔ ex_ d 51 2 [l0, l1, some (v_i (x2 + (1 : Int32)))] [] h Q := by
  unfold ex_
  refine (am_Y_go 2 (ok := []) (g := (2, [l0, l1, some (v_i (x2 + (1 : Int32)))], [], h)) rfl).trans ?_
  all_goals exact Iff.rfl

theorem b_X6_isAllTaken_22 {d : Nat} {Q : Option am_V → am_H → Prop} (h : am_H) (l0 l1 l2 : Option am_V) : ex_ d 51 22 [l0, l1, l2] [] h Q ↔ Q (some (v_i (0 : Int32))) h := by
  unfold ex_
  refine (am_Y_go 1 (ok := []) (g := (23, [l0, l1, l2], [v_i (0 : Int32)], h)) rfl).trans ?_
  all_goals exact ((am_Y_ret rfl rfl rfl).trans (am_rz (show am_fit 1 0 from Or.inl rfl)))

theorem b_X6_settle_0 {d : Nat} {Q : Option am_V → am_H → Prop} (h : am_H) (x1 : Int32) (l0 l2 l3 l4 l5 : Option am_V) : ex_ d 52 0 [l0, some (v_i x1), l2, l3, l4, l5] [] h Q ↔ if x1 < 0 then ex_ d 52 25 [l0, some (v_i x1), l2, l3, l4, l5] [] h Q else ex_ d 52 4 [l0, some (v_i x1), l2, l3, l4, l5] [] h Q := by
  unfold ex_
  refine (am_Y_go 2 (ok := []) (g := (if x1 < 0 then 25 else 4, [l0, some (v_i x1), l2, l3, l4, l5], [], h)) rfl).trans ?_
  all_goals exact am_Y_if

theorem b_X6_settle_25 {d : Nat} {Q : Option am_V → am_H → Prop} (h : am_H) (l0 l1 l2 l3 l4 l5 : Option am_V) : ex_ d 52 25 [l0, l1, l2, l3, l4, l5] [] h Q ↔ Q (some (v_i (2 : Int32))) h := by
  unfold ex_
  refine (am_Y_go 1 (ok := []) (g := (26, [l0, l1, l2, l3, l4, l5], [v_i (2 : Int32)], h)) rfl).trans ?_
  all_goals exact ((am_Y_ret rfl rfl rfl).trans (am_r0))

theorem b_X6_settle_4 {d : Nat} {Q : Option am_V → am_H → Prop} (h : am_H) (x1 : Int32) (l0 l2 l3 l4 l5 : Option am_V) : ex_ d 52 4 [l0, some (v_i x1), l2, l3, l4, l5] [] h Q ↔ if (11 : Int32) ≤ x1 then ex_ d 52 25 [l0, some (v_i x1), l2, l3, l4, l5] [] h Q else ex_ d 52 10 [l0, some (v_i x1), l2, l3, l4, l5] [] h Q := by
  unfold ex_
  refine (am_Y_go 3 (ok := []) (g := (if (11 : Int32) ≤ x1 then 25 else 10, [l0, some (v_i x1), l2, l3, l4, l5], [], h)) rfl).trans ?_
  all_goals exact am_Y_if

theorem b_X6_settle_10 {d : Nat} {Q : Option am_V → am_H → Prop} (h : am_H) (x3 : Int32) (l0 l1 l2 l4 l5 : Option am_V) : ex_ d 52 10 [l0, l1, l2, some (v_i x3), l4, l5] [] h Q ↔ if x3 < 0 then ex_ d 52 25 [l0, l1, l2, some (v_i x3), l4, l5] [] h Q else ex_ d 52 14 [l0, l1, l2, some (v_i x3), l4, l5] [] h Q := by
  unfold ex_
  refine (am_Y_go 2 (ok := []) (g := (if x3 < 0 then 25 else 14, [l0, l1, l2, some (v_i x3), l4, l5], [], h)) rfl).trans ?_
  all_goals exact am_Y_if

theorem b_X6_settle_14 {d : Nat} {Q : Option am_V → am_H → Prop} (h : am_H) (x3 : Int32) (o2 : Nat) (l0 l1 l4 l5 : Option am_V) {n_o2 : Nat} (A_o2 : y_arr h o2 20 n_o2) : ex_ d 52 14 [l0, l1, some (v_r (some o2)), some (v_i x3), l4, l5] [] h Q ↔ if (nI n_o2) < x3 then ex_ d 52 25 [l0, l1, some (v_r (some o2)), some (v_i x3), l4, l5] [] h Q else ex_ d 52 20 [l0, l1, some (v_r (some o2)), some (v_i x3), l4, l5] [] h Q := by
  have e0 : h_l h o2 = n_o2 := (lb_l A_o2)
  unfold ex_
  refine (am_Y_go 4 (ok := [am_an h (some o2)]) (g := (if (nI (h_l h o2)) < x3 then 25 else 20, [l0, l1, some (v_r (some o2)), some (v_i x3), l4, l5], [], h)) rfl).trans ?_
  simp only [e0, Option.getD_some, am_all]
  all_goals exact cj_d (lb_an20 A_o2) (am_Y_if)

theorem b_X6_settle_20 {d : Nat} {Q : Option am_V → am_H → Prop} (h : am_H) (x3 : Int32) (l0 l1 l2 l4 l5 : Option am_V) : ex_ d 52 20 [l0, l1, l2, some (v_i x3), l4, l5] [] h Q ↔ if x3 ≤ (4 : Int32) then ex_ d 52 27 [l0, l1, l2, some (v_i x3), l4, l5] [] h Q else ex_ d 52 25 [l0, l1, l2, some (v_i x3), l4, l5] [] h Q := by
  unfold ex_
  refine (am_Y_go 3 (ok := []) (g := (if x3 ≤ (4 : Int32) then 27 else 25, [l0, l1, l2, some (v_i x3), l4, l5], [], h)) rfl).trans ?_
  all_goals exact am_Y_if

theorem b_X6_settle_27 {d : Nat} {Q : Option am_V → am_H → Prop} (h : am_H) (o0 : Nat) (x1 : Int32) (l2 l3 l4 l5 : Option am_V) (F_o0 : y_Orders h o0) : ex_ d 52 27 [some (v_r (some o0)), some (v_i x1), l2, l3, l4, l5] [] h Q ↔ vp_in x1 11 ∧ vp_in x1 11 ∧ ex_ d 52 44 [some (v_r (some o0)), some (v_i x1), l2, l3, some (v_i (0 : Int32)), l5] [] (p_i (p_i h (o0 + 2) (Int32.toNatClampNeg x1) (0 : Int32)) (o0 + 1) (Int32.toNatClampNeg x1) (2 : Int32)) Q := by
  have e0 : h_r h o0 1 = some (o0 + 2) := F_o0.2 (0, 1, 2) (by decide)
  have e1 : h_r h o0 0 = some (o0 + 1) := F_o0.2 (0, 0, 1) (by decide)
  unfold ex_
  refine (am_Y_go 12 (ok := [am_is h (some o0) 6, am_ar h ((h_r h o0 1)) 20 x1, am_is h (some o0) 6, am_ar h ((h_r h o0 0)) 20 x1]) (g := (44, [some (v_r (some o0)), some (v_i x1), l2, l3, some (v_i (0 : Int32)), l5], [], (p_i (p_i h ((h_r h o0 1).getD 0) (Int32.toNatClampNeg x1) (0 : Int32)) ((h_r h o0 0).getD 0) (Int32.toNatClampNeg x1) (2 : Int32)))) rfl).trans ?_
  simp only [e0, e1, Option.getD_some, am_all]
  all_goals exact cj_d (lr_is (F_o0.1 0 rfl)) (cj_k (lr_ar (F_o0.1 2 rfl)) (cj_d (lr_is (F_o0.1 0 rfl)) (cj_k (lr_ar (F_o0.1 1 rfl)) (Iff.rfl))))

theorem b_X6_settle_44 {d : Nat} {Q : Option am_V → am_H → Prop} (h : am_H) (x4 : Int32) (x3 : Int32) (l0 l1 l2 l5 : Option am_V) : ex_ d 52 44 [l0, l1, l2, some (v_i x3), some (v_i x4), l5] [] h Q ↔ if x3 ≤ x4 then ex_ d 52 69 [l0, l1, l2, some (v_i x3), some (v_i x4), l5] [] h Q else ex_ d 52 50 [l0, l1, l2, some (v_i x3), some (v_i x4), l5] [] h Q := by
  unfold ex_
  refine (am_Y_go 3 (ok := []) (g := (if x3 ≤ x4 then 69 else 50, [l0, l1, l2, some (v_i x3), some (v_i x4), l5], [], h)) rfl).trans ?_
  all_goals exact am_Y_if

theorem b_X6_settle_69 {d : Nat} {Q : Option am_V → am_H → Prop} (h : am_H) (o0 : Nat) (o2 : Nat) (x3 : Int32) (l1 l4 l5 : Option am_V) (F_o0 : y_Orders h o0) {n_o2 : Nat} (A_o2 : y_arr h o2 20 n_o2) : ex_ (d + 1) 52 69 [some (v_r (some o0)), l1, some (v_r (some o2)), some (v_i x3), l4, l5] [] h Q ↔ ex_ d 48 0 [some (v_r (some o0)), some (v_r (some o2)), some (v_i x3), none, none, none, none] [] h (fun r h' => ex_ (d + 1) 52 75 [some (v_r (some o0)), l1, some (v_r (some o2)), some (v_i x3), l4, l5] (r.toList ++ []) h' Q) := by
  unfold ex_
  refine (am_Y_go 3 (ok := []) (g := (72, [some (v_r (some o0)), l1, some (v_r (some o2)), some (v_i x3), l4, l5], [v_i x3, v_r (some o2), v_r (some o0)], h)) rfl).trans ?_
  all_goals exact ((am_Y_call (j := 48) (na := 3) (ci := 6) (fl := 0) rfl rfl rfl).trans (cj_d ⟨⟨Nat.le_of_ble_eq_true rfl, Nat.le_of_ble_eq_true rfl, Nat.le_of_ble_eq_true rfl, rfl⟩, Or.inr (Or.inr (show (6 : Nat) < 20 ∧ am_is h (some o0) 6 from ⟨by decide, (lr_is (F_o0.1 0 rfl))⟩))⟩ Iff.rfl))

theorem b_X6_settle_50 {d : Nat} {Q : Option am_V → am_H → Prop} (h : am_H) (o0 : Nat) (o2 : Nat) (x4 : Int32) (l1 l3 l5 : Option am_V) (F_o0 : y_Orders h o0) {n_o2 : Nat} (A_o2 : y_arr h o2 20 n_o2) : ex_ (d + 1) 52 50 [some (v_r (some o0)), l1, some (v_r (some o2)), l3, some (v_i x4), l5] [] h Q ↔ vp_in x4 n_o2 ∧ ex_ d 47 0 [some (v_r (some o0)), some (v_i (h_i h o2 (Int32.toNatClampNeg x4)))] [] h (fun r h' => ex_ (d + 1) 52 58 [some (v_r (some o0)), l1, some (v_r (some o2)), l3, some (v_i x4), l5] (r.toList ++ []) h' Q) := by
  unfold ex_
  refine (am_Y_go 4 (ok := [am_ar h (some o2) 20 x4]) (g := (55, [some (v_r (some o0)), l1, some (v_r (some o2)), l3, some (v_i x4), l5], [v_i (h_i h o2 (Int32.toNatClampNeg x4)), v_r (some o0)], h)) rfl).trans ?_
  simp only [am_all]
  all_goals exact cj_k (lb_ar A_o2) (((am_Y_call (j := 47) (na := 2) (ci := 6) (fl := 0) rfl rfl rfl).trans (cj_d ⟨⟨Nat.le_of_ble_eq_true rfl, Nat.le_of_ble_eq_true rfl, Nat.le_of_ble_eq_true rfl, rfl⟩, Or.inr (Or.inr (show (6 : Nat) < 20 ∧ am_is h (some o0) 6 from ⟨by decide, (lr_is (F_o0.1 0 rfl))⟩))⟩ Iff.rfl)))

theorem b_X6_settle_75 {d : Nat} {Q : Option am_V → am_H → Prop} (h : am_H) (o0 : Nat) (x1 : Int32) (x3 : Int32) (l2 l4 l5 : Option am_V) (F_o0 : y_Orders h o0) : ex_ (d + 1) 52 75 [some (v_r (some o0)), some (v_i x1), l2, some (v_i x3), l4, l5] [] h Q ↔ vp_in (x1 * (11 : Int32)) 121 ∧ ex_ d 49 0 [some (v_r (some o0)), some (v_i x3), none, none] [] (p_i h (o0 + 3) (Int32.toNatClampNeg (x1 * (11 : Int32))) x1) (fun r h' => ex_ (d + 1) 52 93 [some (v_r (some o0)), some (v_i x1), l2, some (v_i x3), some (v_i (1 : Int32)), l5] (r.toList ++ []) h' Q) := by
  have e0 : h_r h o0 2 = some (o0 + 3) := F_o0.2 (0, 2, 3) (by decide)
  unfold ex_
  refine (am_Y_go 11 (ok := [am_is h (some o0) 6, am_ar h ((h_r h o0 2)) 20 (x1 * (11 : Int32))]) (g := (90, [some (v_r (some o0)), some (v_i x1), l2, some (v_i x3), some (v_i (1 : Int32)), l5], [v_i x3, v_r (some o0)], (p_i h ((h_r h o0 2).getD 0) (Int32.toNatClampNeg (x1 * (11 : Int32))) x1))) rfl).trans ?_
  simp only [e0, Option.getD_some, am_all]
  all_goals exact cj_d (lr_is (F_o0.1 0 rfl)) (cj_k (lr_ar (F_o0.1 3 rfl)) (((am_Y_call (j := 49) (na := 2) (ci := 6) (fl := 0) rfl rfl rfl).trans (cj_d ⟨⟨Nat.le_of_ble_eq_true rfl, Nat.le_of_ble_eq_true rfl, Nat.le_of_ble_eq_true rfl, rfl⟩, Or.inr (Or.inr (show (6 : Nat) < 20 ∧ am_is h (some o0) 6 from ⟨by decide, (lr_is (F_o0.1 0 rfl))⟩))⟩ Iff.rfl))))

theorem b_X6_settle_58 {d : Nat} {Q : Option am_V → am_H → Prop} (h : am_H) (s0 : Int32) (l0 l1 l2 l3 l4 l5 : Option am_V) : ex_ d 52 58 [l0, l1, l2, l3, l4, l5] [v_i s0] h Q ↔ if ¬ s0 = 0 then ex_ d 52 63 [l0, l1, l2, l3, l4, l5] [] h Q else ex_ d 52 61 [l0, l1, l2, l3, l4, l5] [] h Q := by
  unfold ex_
  refine (am_Y_go 1 (ok := []) (g := (if ¬ s0 = 0 then 63 else 61, [l0, l1, l2, l3, l4, l5], [], h)) rfl).trans ?_
  all_goals exact am_Y_if

theorem b_X6_settle_93 {d : Nat} {Q : Option am_V → am_H → Prop} (h : am_H) (s0 : Int32) (l0 l1 l2 l3 l4 l5 : Option am_V) : ex_ d 52 93 [l0, l1, l2, l3, l4, l5] [v_i s0] h Q ↔ ex_ d 52 95 [l0, l1, l2, l3, l4, some (v_i s0)] [] h Q := by
  unfold ex_
  refine (am_Y_go 1 (ok := []) (g := (95, [l0, l1, l2, l3, l4, some (v_i s0)], [], h)) rfl).trans ?_
  all_goals exact Iff.rfl

theorem b_X6_settle_63 {d : Nat} {Q : Option am_V → am_H → Prop} (h : am_H) (x4 : Int32) (l0 l1 l2 l3 l5 : Option am_V) : ex_ d 52 63 [l0, l1, l2, l3, some (v_i x4), l5] [] h Q ↔ ex_ d 52 44 [l0, l1, l2, l3, some (v_i (x4 + (1 : Int32))), l5] [] h Q := by
  unfold ex_
  refine (am_Y_go 2 (ok := []) (g := (44, [l0, l1, l2, l3, some (v_i (x4 + (1 : Int32))), l5], [], h)) rfl).trans ?_
  all_goals exact Iff.rfl

theorem b_X6_settle_61 {d : Nat} {Q : Option am_V → am_H → Prop} (h : am_H) (l0 l1 l2 l3 l4 l5 : Option am_V) : ex_ d 52 61 [l0, l1, l2, l3, l4, l5] [] h Q ↔ Q (some (v_i (2 : Int32))) h := by
  unfold ex_
  refine (am_Y_go 1 (ok := []) (g := (62, [l0, l1, l2, l3, l4, l5], [v_i (2 : Int32)], h)) rfl).trans ?_
  all_goals exact ((am_Y_ret rfl rfl rfl).trans (am_r0))

theorem b_X6_settle_95 {d : Nat} {Q : Option am_V → am_H → Prop} (h : am_H) (x5 : Int32) (l0 l1 l2 l3 l4 : Option am_V) : ex_ d 52 95 [l0, l1, l2, l3, l4, some (v_i x5)] [] h Q ↔ if x5 = (-1 : Int32) then ex_ d 52 142 [l0, l1, l2, l3, l4, some (v_i x5)] [] h Q else ex_ d 52 101 [l0, l1, l2, l3, l4, some (v_i x5)] [] h Q := by
  unfold ex_
  refine (am_Y_go 3 (ok := []) (g := (if x5 = (-1 : Int32) then 142 else 101, [l0, l1, l2, l3, l4, some (v_i x5)], [], h)) rfl).trans ?_
  all_goals exact am_Y_if

theorem b_X6_settle_142 {d : Nat} {Q : Option am_V → am_H → Prop} (h : am_H) (o0 : Nat) (x1 : Int32) (x3 : Int32) (l2 l4 l5 : Option am_V) (F_o0 : y_Orders h o0) : ex_ (d + 1) 52 142 [some (v_r (some o0)), some (v_i x1), l2, some (v_i x3), l4, l5] [] h Q ↔ ex_ d 51 0 [some (v_r (some o0)), some (v_i x3), none] [] h (fun r h' => ex_ (d + 1) 52 152 [some (v_r (some o0)), some (v_i x1), l2, some (v_i x3), l4, l5] (r.toList ++ [v_i x1, v_r (some (o0 + 1))]) h' Q) := by
  have e0 : h_r h o0 0 = some (o0 + 1) := F_o0.2 (0, 0, 1) (by decide)
  unfold ex_
  refine (am_Y_go 5 (ok := [am_is h (some o0) 6]) (g := (149, [some (v_r (some o0)), some (v_i x1), l2, some (v_i x3), l4, l5], [v_i x3, v_r (some o0), v_i x1, v_r ((h_r h o0 0))], h)) rfl).trans ?_
  simp only [e0, Option.getD_some, am_all]
  all_goals exact cj_d (lr_is (F_o0.1 0 rfl)) (((am_Y_call (j := 51) (na := 2) (ci := 6) (fl := 0) rfl rfl rfl).trans (cj_d ⟨⟨Nat.le_of_ble_eq_true rfl, Nat.le_of_ble_eq_true rfl, Nat.le_of_ble_eq_true rfl, rfl⟩, Or.inr (Or.inr (show (6 : Nat) < 20 ∧ am_is h (some o0) 6 from ⟨by decide, (lr_is (F_o0.1 0 rfl))⟩))⟩ Iff.rfl)))

theorem b_X6_settle_101 {d : Nat} {Q : Option am_V → am_H → Prop} (h : am_H) (x4 : Int32) (l0 l1 l2 l3 l5 : Option am_V) : ex_ d 52 101 [l0, l1, l2, l3, some (v_i x4), l5] [] h Q ↔ if (11 : Int32) ≤ x4 then ex_ d 52 142 [l0, l1, l2, l3, some (v_i x4), l5] [] h Q else ex_ d 52 108 [l0, l1, l2, l3, some (v_i x4), l5] [] h Q := by
  unfold ex_
  refine (am_Y_go 3 (ok := []) (g := (if (11 : Int32) ≤ x4 then 142 else 108, [l0, l1, l2, l3, some (v_i x4), l5], [], h)) rfl).trans ?_
  all_goals exact am_Y_if

theorem b_X6_settle_152 {d : Nat} {Q : Option am_V → am_H → Prop} (h : am_H) (s0 : Int32) (s1 : Int32) (t2 : Nat) (l0 l1 l2 l3 l4 l5 : Option am_V) {n_t2 : Nat} (A_t2 : y_arr h t2 20 n_t2) : ex_ d 52 152 [l0, l1, l2, l3, l4, l5] [v_i s0, v_i s1, v_r (some t2)] h Q ↔ if s0 = 0 then ex_ d 52 159 [l0, l1, l2, l3, l4, l5] [v_i s1, v_r (some t2)] h Q else ex_ d 52 155 [l0, l1, l2, l3, l4, l5] [v_i s1, v_r (some t2)] h Q := by
  unfold ex_
  refine (am_Y_go 1 (ok := []) (g := (if s0 = 0 then 159 else 155, [l0, l1, l2, l3, l4, l5], [v_i s1, v_r (some t2)], h)) rfl).trans ?_
  all_goals exact am_Y_if

theorem b_X6_settle_108 {d : Nat} {Q : Option am_V → am_H → Prop} (h : am_H) (o0 : Nat) (x1 : Int32) (x4 : Int32) (x5 : Int32) (x3 : Int32) (l2 : Option am_V) (F_o0 : y_Orders h o0) : ex_ (d + 1) 52 108 [some (v_r (some o0)), some (v_i x1), l2, some (v_i x3), some (v_i x4), some (v_i x5)] [] h Q ↔ vp_in ((x1 * (11 : Int32)) + x4) 121 ∧ ex_ d 50 0 [some (v_r (some o0)), some (v_i x5), some (v_i x3), none, none] [] (p_i h (o0 + 3) (Int32.toNatClampNeg ((x1 * (11 : Int32)) + x4)) x5) (fun r h' => ex_ (d + 1) 52 132 [some (v_r (some o0)), some (v_i x1), l2, some (v_i x3), some (v_i (x4 + (1 : Int32))), some (v_i x5)] (r.toList ++ []) h' Q) := by
  have e0 : h_r h o0 2 = some (o0 + 3) := F_o0.2 (0, 2, 3) (by decide)
  unfold ex_
  refine (am_Y_go 13 (ok := [am_is h (some o0) 6, am_ar h ((h_r h o0 2)) 20 ((x1 * (11 : Int32)) + x4)]) (g := (129, [some (v_r (some o0)), some (v_i x1), l2, some (v_i x3), some (v_i (x4 + (1 : Int32))), some (v_i x5)], [v_i x3, v_i x5, v_r (some o0)], (p_i h ((h_r h o0 2).getD 0) (Int32.toNatClampNeg ((x1 * (11 : Int32)) + x4)) x5))) rfl).trans ?_
  simp only [e0, Option.getD_some, am_all]
  all_goals exact cj_d (lr_is (F_o0.1 0 rfl)) (cj_k (lr_ar (F_o0.1 3 rfl)) (((am_Y_call (j := 50) (na := 3) (ci := 6) (fl := 0) rfl rfl rfl).trans (cj_d ⟨⟨Nat.le_of_ble_eq_true rfl, Nat.le_of_ble_eq_true rfl, Nat.le_of_ble_eq_true rfl, rfl⟩, Or.inr (Or.inr (show (6 : Nat) < 20 ∧ am_is h (some o0) 6 from ⟨by decide, (lr_is (F_o0.1 0 rfl))⟩))⟩ Iff.rfl))))

theorem b_X6_settle_159 {d : Nat} {Q : Option am_V → am_H → Prop} (h : am_H) (s0 : Int32) (t1 : Nat) (o0 : Nat) (x1 : Int32) (l2 l3 l4 l5 : Option am_V) {n_t1 : Nat} (A_t1 : y_arr h t1 20 n_t1) (F_o0 : y_Orders h o0) : ex_ d 52 159 [some (v_r (some o0)), some (v_i x1), l2, l3, l4, l5] [v_i s0, v_r (some t1)] h Q ↔ vp_in s0 n_t1 ∧ vp_in x1 11 ∧ (if ¬ (h_i (p_i h t1 (Int32.toNatClampNeg s0) (1 : Int32)) (o0 + 1) (Int32.toNatClampNeg x1)) = 0 then ex_ d 52 180 [some (v_r (some o0)), some (v_i x1), l2, l3, l4, l5] [v_i x1, v_r (some (o0 + 2))] (p_i h t1 (Int32.toNatClampNeg s0) (1 : Int32)) Q else ex_ d 52 175 [some (v_r (some o0)), some (v_i x1), l2, l3, l4, l5] [v_i x1, v_r (some (o0 + 2))] (p_i h t1 (Int32.toNatClampNeg s0) (1 : Int32)) Q) := by
  have e0 : h_r h o0 1 = some (o0 + 2) := F_o0.2 (0, 1, 2) (by decide)
  have e1 : h_r h o0 0 = some (o0 + 1) := F_o0.2 (0, 0, 1) (by decide)
  unfold ex_
  refine (am_Y_go 10 (ok := [am_ar h (some t1) 20 s0, am_is h (some o0) 6, am_is h (some o0) 6, am_ar h ((h_r h o0 0)) 20 x1]) (g := (if ¬ (h_i (p_i h t1 (Int32.toNatClampNeg s0) (1 : Int32)) ((h_r h o0 0).getD 0) (Int32.toNatClampNeg x1)) = 0 then 180 else 175, [some (v_r (some o0)), some (v_i x1), l2, l3, l4, l5], [v_i x1, v_r ((h_r h o0 1))], (p_i h t1 (Int32.toNatClampNeg s0) (1 : Int32)))) rfl).trans ?_
  simp only [e0, e1, Option.getD_some, am_all]
  all_goals exact cj_k (lb_ar A_t1) (cj_d (lr_is (F_o0.1 0 rfl)) (cj_d (lr_is (F_o0.1 0 rfl)) (cj_k (lr_ar (F_o0.1 1 rfl)) (am_Y_if))))

theorem b_X6_settle_155 {d : Nat} {Q : Option am_V → am_H → Prop} (h : am_H) (s0 : Int32) (t1 : Nat) (o0 : Nat) (x1 : Int32) (l2 l3 l4 l5 : Option am_V) {n_t1 : Nat} (A_t1 : y_arr h t1 20 n_t1) (F_o0 : y_Orders h o0) : ex_ d 52 155 [some (v_r (some o0)), some (v_i x1), l2, l3, l4, l5] [v_i s0, v_r (some t1)] h Q ↔ vp_in s0 n_t1 ∧ vp_in x1 11 ∧ (if ¬ (h_i (p_i h t1 (Int32.toNatClampNeg s0) (0 : Int32)) (o0 + 1) (Int32.toNatClampNeg x1)) = 0 then ex_ d 52 180 [some (v_r (some o0)), some (v_i x1), l2, l3, l4, l5] [v_i x1, v_r (some (o0 + 2))] (p_i h t1 (Int32.toNatClampNeg s0) (0 : Int32)) Q else ex_ d 52 175 [some (v_r (some o0)), some (v_i x1), l2, l3, l4, l5] [v_i x1, v_r (some (o0 + 2))] (p_i h t1 (Int32.toNatClampNeg s0) (0 : Int32)) Q) := by
  have e0 : h_r h o0 1 = some (o0 + 2) := F_o0.2 (0, 1, 2) (by decide)
  have e1 : h_r h o0 0 = some (o0 + 1) := F_o0.2 (0, 0, 1) (by decide)
  unfold ex_
  refine (am_Y_go 11 (ok := [am_ar h (some t1) 20 s0, am_is h (some o0) 6, am_is h (some o0) 6, am_ar h ((h_r h o0 0)) 20 x1]) (g := (if ¬ (h_i (p_i h t1 (Int32.toNatClampNeg s0) (0 : Int32)) ((h_r h o0 0).getD 0) (Int32.toNatClampNeg x1)) = 0 then 180 else 175, [some (v_r (some o0)), some (v_i x1), l2, l3, l4, l5], [v_i x1, v_r ((h_r h o0 1))], (p_i h t1 (Int32.toNatClampNeg s0) (0 : Int32)))) rfl).trans ?_
  simp only [e0, e1, Option.getD_some, am_all]
  all_goals exact cj_k (lb_ar A_t1) (cj_d (lr_is (F_o0.1 0 rfl)) (cj_d (lr_is (F_o0.1 0 rfl)) (cj_k (lr_ar (F_o0.1 1 rfl)) (am_Y_if))))

theorem b_X6_settle_132 {d : Nat} {Q : Option am_V → am_H → Prop} (h : am_H) (o0 : Nat) (x3 : Int32) (l1 l2 l4 l5 : Option am_V) (F_o0 : y_Orders h o0) : ex_ (d + 1) 52 132 [some (v_r (some o0)), l1, l2, some (v_i x3), l4, l5] [] h Q ↔ ex_ d 49 0 [some (v_r (some o0)), some (v_i x3), none, none] [] h (fun r h' => ex_ (d + 1) 52 137 [some (v_r (some o0)), l1, l2, some (v_i x3), l4, l5] (r.toList ++ []) h' Q) := by
  unfold ex_
  refine (am_Y_go 2 (ok := []) (g := (134, [some (v_r (some o0)), l1, l2, some (v_i x3), l4, l5], [v_i x3, v_r (some o0)], h)) rfl).trans ?_
  all_goals exact ((am_Y_call (j := 49) (na := 2) (ci := 6) (fl := 0) rfl rfl rfl).trans (cj_d ⟨⟨Nat.le_of_ble_eq_true rfl, Nat.le_of_ble_eq_true rfl, Nat.le_of_ble_eq_true rfl, rfl⟩, Or.inr (Or.inr (show (6 : Nat) < 20 ∧ am_is h (some o0) 6 from ⟨by decide, (lr_is (F_o0.1 0 rfl))⟩))⟩ Iff.rfl))

theorem b_X6_settle_180 {d : Nat} {Q : Option am_V → am_H → Prop} (h : am_H) (s0 : Int32) (t1 : Nat) (o0 : Nat) (x1 : Int32) (l2 l3 l4 l5 : Option am_V) {n_t1 : Nat} (A_t1 : y_arr h t1 20 n_t1) (F_o0 : y_Orders h o0) : ex_ d 52 180 [some (v_r (some o0)), some (v_i x1), l2, l3, l4, l5] [v_i s0, v_r (some t1)] h Q ↔ vp_in s0 n_t1 ∧ vp_in x1 11 ∧ Q (some (v_i (h_i (p_i h t1 (Int32.toNatClampNeg s0) (0 : Int32)) (o0 + 1) (Int32.toNatClampNeg x1)))) (p_i h t1 (Int32.toNatClampNeg s0) (0 : Int32)) := by
  have e0 : h_r h o0 0 = some (o0 + 1) := F_o0.2 (0, 0, 1) (by decide)
  unfold ex_
  refine (am_Y_go 6 (ok := [am_ar h (some t1) 20 s0, am_is h (some o0) 6, am_ar h ((h_r h o0 0)) 20 x1]) (g := (188, [some (v_r (some o0)), some (v_i x1), l2, l3, l4, l5], [v_i (h_i (p_i h t1 (Int32.toNatClampNeg s0) (0 : Int32)) ((h_r h o0 0).getD 0) (Int32.toNatClampNeg x1))], (p_i h t1 (Int32.toNatClampNeg s0) (0 : Int32)))) rfl).trans ?_
  simp only [e0, Option.getD_some, am_all]
  all_goals exact cj_k (lb_ar A_t1) (cj_d (lr_is (F_o0.1 0 rfl)) (cj_k (lr_ar (F_o0.1 1 rfl)) (((am_Y_ret rfl rfl rfl).trans (am_r0)))))

theorem b_X6_settle_175 {d : Nat} {Q : Option am_V → am_H → Prop} (h : am_H) (s0 : Int32) (t1 : Nat) (x4 : Int32) (o0 : Nat) (x1 : Int32) (l2 l3 l5 : Option am_V) {n_t1 : Nat} (A_t1 : y_arr h t1 20 n_t1) (F_o0 : y_Orders h o0) : ex_ d 52 175 [some (v_r (some o0)), some (v_i x1), l2, l3, some (v_i x4), l5] [v_i s0, v_r (some t1)] h Q ↔ vp_in s0 n_t1 ∧ vp_in x1 11 ∧ Q (some (v_i (h_i (p_i h t1 (Int32.toNatClampNeg s0) x4) (o0 + 1) (Int32.toNatClampNeg x1)))) (p_i h t1 (Int32.toNatClampNeg s0) x4) := by
  have e0 : h_r h o0 0 = some (o0 + 1) := F_o0.2 (0, 0, 1) (by decide)
  unfold ex_
  refine (am_Y_go 7 (ok := [am_ar h (some t1) 20 s0, am_is h (some o0) 6, am_ar h ((h_r h o0 0)) 20 x1]) (g := (188, [some (v_r (some o0)), some (v_i x1), l2, l3, some (v_i x4), l5], [v_i (h_i (p_i h t1 (Int32.toNatClampNeg s0) x4) ((h_r h o0 0).getD 0) (Int32.toNatClampNeg x1))], (p_i h t1 (Int32.toNatClampNeg s0) x4))) rfl).trans ?_
  simp only [e0, Option.getD_some, am_all]
  all_goals exact cj_k (lb_ar A_t1) (cj_d (lr_is (F_o0.1 0 rfl)) (cj_k (lr_ar (F_o0.1 1 rfl)) (((am_Y_ret rfl rfl rfl).trans (am_r0)))))

theorem b_X6_settle_137 {d : Nat} {Q : Option am_V → am_H → Prop} (h : am_H) (s0 : Int32) (l0 l1 l2 l3 l4 l5 : Option am_V) : ex_ d 52 137 [l0, l1, l2, l3, l4, l5] [v_i s0] h Q ↔ ex_ d 52 95 [l0, l1, l2, l3, l4, some (v_i s0)] [] h Q := by
  unfold ex_
  refine (am_Y_go 2 (ok := []) (g := (95, [l0, l1, l2, l3, l4, some (v_i s0)], [], h)) rfl).trans ?_
  all_goals exact Iff.rfl

theorem b_X6_settleSwapped_0 {d : Nat} {Q : Option am_V → am_H → Prop} (h : am_H) (o1 : Nat) (x2 : Int32) (o0 : Nat) (l3 l4 : Option am_V) (F_o1 : y_Facts h o1) (F_o0 : y_Orders h o0) : ex_ (d + 1) 53 0 [some (v_r (some o0)), some (v_r (some o1)), some (v_i x2), l3, l4] [] h Q ↔ ex_ d 30 0 [some (v_r (some o1)), some (v_i x2), some (v_i (0 : Int32)), some (v_r (some (o0 + 4))), none, none] [] h (fun r h' => ex_ (d + 1) 53 10 [some (v_r (some o0)), some (v_r (some o1)), some (v_i x2), l3, l4] (r.toList ++ []) h' Q) := by
  have e0 : h_r h o0 3 = some (o0 + 4) := F_o0.2 (0, 3, 4) (by decide)
  unfold ex_
  refine (am_Y_go 5 (ok := [am_is h (some o0) 6]) (g := (7, [some (v_r (some o0)), some (v_r (some o1)), some (v_i x2), l3, l4], [v_r ((h_r h o0 3)), v_i (0 : Int32), v_i x2, v_r (some o1)], h)) rfl).trans ?_
  simp only [e0, Option.getD_some, am_all]
  all_goals exact cj_d (lr_is (F_o0.1 0 rfl)) (((am_Y_call (j := 30) (na := 4) (ci := 1) (fl := 0) rfl rfl rfl).trans (cj_d ⟨⟨Nat.le_of_ble_eq_true rfl, Nat.le_of_ble_eq_true rfl, Nat.le_of_ble_eq_true rfl, rfl⟩, Or.inr (Or.inr (show (1 : Nat) < 20 ∧ am_is h (some o1) 1 from ⟨by decide, (lr_is (F_o1.1 0 rfl))⟩))⟩ Iff.rfl)))

theorem b_X6_settleSwapped_10 {d : Nat} {Q : Option am_V → am_H → Prop} (h : am_H) (s0 : Int32) (l0 l1 l2 l3 l4 : Option am_V) : ex_ d 53 10 [l0, l1, l2, l3, l4] [v_i s0] h Q ↔ if s0 ≤ (1 : Int32) then ex_ d 53 44 [l0, l1, l2, some (v_i s0), l4] [] h Q else ex_ d 53 16 [l0, l1, l2, some (v_i s0), l4] [] h Q := by
  unfold ex_
  refine (am_Y_go 4 (ok := []) (g := (if s0 ≤ (1 : Int32) then 44 else 16, [l0, l1, l2, some (v_i s0), l4], [], h)) rfl).trans ?_
  all_goals exact am_Y_if

theorem b_X6_settleSwapped_44 {d : Nat} {Q : Option am_V → am_H → Prop} (h : am_H) (o0 : Nat) (x2 : Int32) (x3 : Int32) (l1 l4 : Option am_V) (F_o0 : y_Orders h o0) : ex_ (d + 1) 53 44 [some (v_r (some o0)), l1, some (v_i x2), some (v_i x3), l4] [] h Q ↔ ex_ d 52 0 [some (v_r (some o0)), some (v_i x2), some (v_r (some (o0 + 4))), some (v_i x3), none, none] [] h (fun r h' => ex_ (d + 1) 53 54 [some (v_r (some o0)), l1, some (v_i x2), some (v_i x3), l4] (r.toList ++ []) h' Q) := by
  have e0 : h_r h o0 3 = some (o0 + 4) := F_o0.2 (0, 3, 4) (by decide)
  unfold ex_
  refine (am_Y_go 5 (ok := [am_is h (some o0) 6]) (g := (51, [some (v_r (some o0)), l1, some (v_i x2), some (v_i x3), l4], [v_i x3, v_r ((h_r h o0 3)), v_i x2, v_r (some o0)], h)) rfl).trans ?_
  simp only [e0, Option.getD_some, am_all]
  all_goals exact cj_d (lr_is (F_o0.1 0 rfl)) (((am_Y_call (j := 52) (na := 4) (ci := 6) (fl := 0) rfl rfl rfl).trans (cj_d ⟨⟨Nat.le_of_ble_eq_true rfl, Nat.le_of_ble_eq_true rfl, Nat.le_of_ble_eq_true rfl, rfl⟩, Or.inr (Or.inr (show (6 : Nat) < 20 ∧ am_is h (some o0) 6 from ⟨by decide, (lr_is (F_o0.1 0 rfl))⟩))⟩ Iff.rfl)))

theorem b_X6_settleSwapped_16 {d : Nat} {Q : Option am_V → am_H → Prop} (h : am_H) (o0 : Nat) (x2 : Int32) (x3 : Int32) (l1 l4 : Option am_V) (F_o0 : y_Orders h o0) : ex_ (d + 1) 53 16 [some (v_r (some o0)), l1, some (v_i x2), some (v_i x3), l4] [] h Q ↔ vp_in (0 : Int32) 4 ∧ vp_in (1 : Int32) 4 ∧ vp_in (0 : Int32) 4 ∧ vp_in (1 : Int32) 4 ∧ ex_ d 52 0 [some (v_r (some o0)), some (v_i x2), some (v_r (some (o0 + 4))), some (v_i x3), none, none] [] (p_i (p_i h (o0 + 4) (Int32.toNatClampNeg (0 : Int32)) (h_i h (o0 + 4) (Int32.toNatClampNeg (1 : Int32)))) (o0 + 4) (Int32.toNatClampNeg (1 : Int32)) (h_i h (o0 + 4) (Int32.toNatClampNeg (0 : Int32)))) (fun r h' => ex_ (d + 1) 53 54 [some (v_r (some o0)), l1, some (v_i x2), some (v_i x3), some (v_i (h_i h (o0 + 4) (Int32.toNatClampNeg (0 : Int32))))] (r.toList ++ []) h' Q) := by
  have e0 : h_r h o0 3 = some (o0 + 4) := F_o0.2 (0, 3, 4) (by decide)
  unfold ex_
  refine (am_Y_go 23 (ok := [am_is h (some o0) 6, am_ar h ((h_r h o0 3)) 20 (0 : Int32), am_is h (some o0) 6, am_is h (some o0) 6, am_ar h ((h_r h o0 3)) 20 (1 : Int32), am_ar h ((h_r h o0 3)) 20 (0 : Int32), am_is h (some o0) 6, am_ar h ((h_r h o0 3)) 20 (1 : Int32), am_is h (some o0) 6]) (g := (51, [some (v_r (some o0)), l1, some (v_i x2), some (v_i x3), some (v_i (h_i h ((h_r h o0 3).getD 0) (Int32.toNatClampNeg (0 : Int32))))], [v_i x3, v_r ((h_r h o0 3)), v_i x2, v_r (some o0)], (p_i (p_i h ((h_r h o0 3).getD 0) (Int32.toNatClampNeg (0 : Int32)) (h_i h ((h_r h o0 3).getD 0) (Int32.toNatClampNeg (1 : Int32)))) ((h_r h o0 3).getD 0) (Int32.toNatClampNeg (1 : Int32)) (h_i h ((h_r h o0 3).getD 0) (Int32.toNatClampNeg (0 : Int32)))))) rfl).trans ?_
  simp only [e0, Option.getD_some, am_all]
  all_goals exact cj_d (lr_is (F_o0.1 0 rfl)) (cj_k (lr_ar (F_o0.1 4 rfl)) (cj_d (lr_is (F_o0.1 0 rfl)) (cj_d (lr_is (F_o0.1 0 rfl)) (cj_k (lr_ar (F_o0.1 4 rfl)) (cj_k (lr_ar (F_o0.1 4 rfl)) (cj_d (lr_is (F_o0.1 0 rfl)) (cj_k (lr_ar (F_o0.1 4 rfl)) (cj_d (lr_is (F_o0.1 0 rfl)) (((am_Y_call (j := 52) (na := 4) (ci := 6) (fl := 0) rfl rfl rfl).trans (cj_d ⟨⟨Nat.le_of_ble_eq_true rfl, Nat.le_of_ble_eq_true rfl, Nat.le_of_ble_eq_true rfl, rfl⟩, Or.inr (Or.inr (show (6 : Nat) < 20 ∧ am_is h (some o0) 6 from ⟨by decide, (lr_is (F_o0.1 0 rfl))⟩))⟩ Iff.rfl)))))))))))

theorem b_X6_settleSwapped_54 {d : Nat} {Q : Option am_V → am_H → Prop} (h : am_H) (s0 : Int32) (l0 l1 l2 l3 l4 : Option am_V) : ex_ d 53 54 [l0, l1, l2, l3, l4] [v_i s0] h Q ↔ Q (some (v_i s0)) h := by
  unfold ex_
  exact ((am_Y_ret rfl rfl rfl).trans (am_r0))

theorem b_X6_settleWithout_0 {d : Nat} {Q : Option am_V → am_H → Prop} (h : am_H) (o0 : Nat) (x2 : Int32) (o1 : Nat) (x3 : Int32) (F_o0 : y_Orders h o0) (F_o1 : y_Facts h o1) : ex_ (d + 1) 54 0 [some (v_r (some o0)), some (v_r (some o1)), some (v_i x2), some (v_i x3)] [] h Q ↔ ex_ d 30 0 [some (v_r (some o1)), some (v_i x2), some (v_i x3), some (v_r (some (o0 + 4))), none, none] [] h (fun r h' => ex_ (d + 1) 54 16 [some (v_r (some o0)), some (v_r (some o1)), some (v_i x2), some (v_i x3)] (r.toList ++ [v_r (some (o0 + 4)), v_i x2, v_r (some o0)]) h' Q) := by
  have e0 : h_r h o0 3 = some (o0 + 4) := F_o0.2 (0, 3, 4) (by decide)
  unfold ex_
  refine (am_Y_go 9 (ok := [am_is h (some o0) 6, am_is h (some o0) 6]) (g := (13, [some (v_r (some o0)), some (v_r (some o1)), some (v_i x2), some (v_i x3)], [v_r ((h_r h o0 3)), v_i x3, v_i x2, v_r (some o1), v_r ((h_r h o0 3)), v_i x2, v_r (some o0)], h)) rfl).trans ?_
  simp only [e0, Option.getD_some, am_all]
  all_goals exact cj_d (lr_is (F_o0.1 0 rfl)) (cj_d (lr_is (F_o0.1 0 rfl)) (((am_Y_call (j := 30) (na := 4) (ci := 1) (fl := 0) rfl rfl rfl).trans (cj_d ⟨⟨Nat.le_of_ble_eq_true rfl, Nat.le_of_ble_eq_true rfl, Nat.le_of_ble_eq_true rfl, rfl⟩, Or.inr (Or.inr (show (1 : Nat) < 20 ∧ am_is h (some o1) 1 from ⟨by decide, (lr_is (F_o1.1 0 rfl))⟩))⟩ Iff.rfl))))

theorem b_X6_settleWithout_16 {d : Nat} {Q : Option am_V → am_H → Prop} (h : am_H) (s0 : Int32) (t1 : Nat) (s2 : Int32) (t3 : Nat) (l0 l1 l2 l3 : Option am_V) {n_t1 : Nat} (A_t1 : y_arr h t1 20 n_t1) (F_t3 : y_Orders h t3) : ex_ (d + 1) 54 16 [l0, l1, l2, l3] [v_i s0, v_r (some t1), v_i s2, v_r (some t3)] h Q ↔ ex_ d 52 0 [some (v_r (some t3)), some (v_i s2), some (v_r (some t1)), some (v_i s0), none, none] [] h (fun r h' => ex_ (d + 1) 54 19 [l0, l1, l2, l3] (r.toList ++ []) h' Q) := by
  unfold ex_
  exact ((am_Y_call (j := 52) (na := 4) (ci := 6) (fl := 0) rfl rfl rfl).trans (cj_d ⟨⟨Nat.le_of_ble_eq_true rfl, Nat.le_of_ble_eq_true rfl, Nat.le_of_ble_eq_true rfl, rfl⟩, Or.inr (Or.inr (show (6 : Nat) < 20 ∧ am_is h (some t3) 6 from ⟨by decide, (lr_is (F_t3.1 0 rfl))⟩))⟩ Iff.rfl))

theorem b_X6_settleWithout_19 {d : Nat} {Q : Option am_V → am_H → Prop} (h : am_H) (s0 : Int32) (l0 l1 l2 l3 : Option am_V) : ex_ d 54 19 [l0, l1, l2, l3] [v_i s0] h Q ↔ Q (some (v_i s0)) h := by
  unfold ex_
  exact ((am_Y_ret rfl rfl rfl).trans (am_r0))

theorem b_X6_stateOf_0 {d : Nat} {Q : Option am_V → am_H → Prop} (h : am_H) (x1 : Int32) (l0 : Option am_V) : ex_ d 71 0 [l0, some (v_i x1)] [] h Q ↔ if x1 < 0 then ex_ d 71 19 [l0, some (v_i x1)] [] h Q else ex_ d 71 4 [l0, some (v_i x1)] [] h Q := by
  unfold ex_
  refine (am_Y_go 2 (ok := []) (g := (if x1 < 0 then 19 else 4, [l0, some (v_i x1)], [], h)) rfl).trans ?_
  all_goals exact am_Y_if

theorem b_X6_stateOf_19 {d : Nat} {Q : Option am_V → am_H → Prop} (h : am_H) (l0 l1 : Option am_V) : ex_ d 71 19 [l0, l1] [] h Q ↔ Q (some (v_i (2 : Int32))) h := by
  unfold ex_
  refine (am_Y_go 1 (ok := []) (g := (20, [l0, l1], [v_i (2 : Int32)], h)) rfl).trans ?_
  all_goals exact ((am_Y_ret rfl rfl rfl).trans (am_r0))

theorem b_X6_stateOf_4 {d : Nat} {Q : Option am_V → am_H → Prop} (h : am_H) (x1 : Int32) (l0 : Option am_V) : ex_ d 71 4 [l0, some (v_i x1)] [] h Q ↔ if (11 : Int32) ≤ x1 then ex_ d 71 19 [l0, some (v_i x1)] [] h Q else ex_ d 71 10 [l0, some (v_i x1)] [] h Q := by
  unfold ex_
  refine (am_Y_go 3 (ok := []) (g := (if (11 : Int32) ≤ x1 then 19 else 10, [l0, some (v_i x1)], [], h)) rfl).trans ?_
  all_goals exact am_Y_if

theorem b_X6_stateOf_10 {d : Nat} {Q : Option am_V → am_H → Prop} (h : am_H) (o0 : Nat) (x1 : Int32) (F_o0 : y_Orders h o0) : ex_ d 71 10 [some (v_r (some o0)), some (v_i x1)] [] h Q ↔ vp_in x1 11 ∧ Q (some (v_i (h_i h (o0 + 1) (Int32.toNatClampNeg x1)))) h := by
  have e0 : h_r h o0 0 = some (o0 + 1) := F_o0.2 (0, 0, 1) (by decide)
  unfold ex_
  refine (am_Y_go 5 (ok := [am_is h (some o0) 6, am_ar h ((h_r h o0 0)) 20 x1]) (g := (20, [some (v_r (some o0)), some (v_i x1)], [v_i (h_i h ((h_r h o0 0).getD 0) (Int32.toNatClampNeg x1))], h)) rfl).trans ?_
  simp only [e0, Option.getD_some, am_all]
  all_goals exact cj_d (lr_is (F_o0.1 0 rfl)) (cj_k (lr_ar (F_o0.1 1 rfl)) (((am_Y_ret rfl rfl rfl).trans (am_r0))))

theorem b_X6_placeOf_0 {d : Nat} {Q : Option am_V → am_H → Prop} (h : am_H) (l0 l1 l2 l3 : Option am_V) : ex_ d 72 0 [l0, l1, l2, l3] [] h Q ↔ ex_ d 72 2 [l0, l1, l2, some (v_i (0 : Int32))] [] h Q := by
  unfold ex_
  refine (am_Y_go 2 (ok := []) (g := (2, [l0, l1, l2, some (v_i (0 : Int32))], [], h)) rfl).trans ?_
  all_goals exact Iff.rfl

theorem b_X6_placeOf_2 {d : Nat} {Q : Option am_V → am_H → Prop} (h : am_H) (x3 : Int32) (o0 : Nat) (x1 : Int32) (l2 : Option am_V) (F_o0 : y_Orders h o0) : ex_ (d + 1) 72 2 [some (v_r (some o0)), some (v_i x1), l2, some (v_i x3)] [] h Q ↔ ex_ d 9 0 [some (v_r (some o0)), some (v_i x1)] [] h (fun r h' => ex_ (d + 1) 72 8 [some (v_r (some o0)), some (v_i x1), l2, some (v_i x3)] (r.toList ++ [v_i x3]) h' Q) := by
  unfold ex_
  refine (am_Y_go 3 (ok := []) (g := (5, [some (v_r (some o0)), some (v_i x1), l2, some (v_i x3)], [v_i x1, v_r (some o0), v_i x3], h)) rfl).trans ?_
  all_goals exact ((am_Y_call (j := 9) (na := 2) (ci := 6) (fl := 0) rfl rfl rfl).trans (cj_d ⟨⟨Nat.le_of_ble_eq_true rfl, Nat.le_of_ble_eq_true rfl, Nat.le_of_ble_eq_true rfl, rfl⟩, Or.inr (Or.inr (show (6 : Nat) < 20 ∧ am_is h (some o0) 6 from ⟨by decide, (lr_is (F_o0.1 0 rfl))⟩))⟩ Iff.rfl))

theorem b_X6_placeOf_8 {d : Nat} {Q : Option am_V → am_H → Prop} (h : am_H) (s0 : Int32) (s1 : Int32) (l0 l1 l2 l3 : Option am_V) : ex_ d 72 8 [l0, l1, l2, l3] [v_i s0, v_i s1] h Q ↔ if s0 ≤ s1 then ex_ d 72 29 [l0, l1, l2, l3] [] h Q else ex_ d 72 11 [l0, l1, l2, l3] [] h Q := by
  unfold ex_
  refine (am_Y_go 1 (ok := []) (g := (if s0 ≤ s1 then 29 else 11, [l0, l1, l2, l3], [], h)) rfl).trans ?_
  all_goals exact am_Y_if

theorem b_X6_placeOf_29 {d : Nat} {Q : Option am_V → am_H → Prop} (h : am_H) (l0 l1 l2 l3 : Option am_V) : ex_ d 72 29 [l0, l1, l2, l3] [] h Q ↔ Q (some (v_i (-1 : Int32))) h := by
  unfold ex_
  refine (am_Y_go 1 (ok := []) (g := (30, [l0, l1, l2, l3], [v_i (-1 : Int32)], h)) rfl).trans ?_
  all_goals exact ((am_Y_ret rfl rfl rfl).trans (am_r0))

theorem b_X6_placeOf_11 {d : Nat} {Q : Option am_V → am_H → Prop} (h : am_H) (o0 : Nat) (x1 : Int32) (x3 : Int32) (l2 : Option am_V) (F_o0 : y_Orders h o0) : ex_ (d + 1) 72 11 [some (v_r (some o0)), some (v_i x1), l2, some (v_i x3)] [] h Q ↔ ex_ d 10 0 [some (v_r (some o0)), some (v_i x1), some (v_i x3)] [] h (fun r h' => ex_ (d + 1) 72 17 [some (v_r (some o0)), some (v_i x1), l2, some (v_i x3)] (r.toList ++ []) h' Q) := by
  unfold ex_
  refine (am_Y_go 3 (ok := []) (g := (14, [some (v_r (some o0)), some (v_i x1), l2, some (v_i x3)], [v_i x3, v_i x1, v_r (some o0)], h)) rfl).trans ?_
  all_goals exact ((am_Y_call (j := 10) (na := 3) (ci := 6) (fl := 0) rfl rfl rfl).trans (cj_d ⟨⟨Nat.le_of_ble_eq_true rfl, Nat.le_of_ble_eq_true rfl, Nat.le_of_ble_eq_true rfl, rfl⟩, Or.inr (Or.inr (show (6 : Nat) < 20 ∧ am_is h (some o0) 6 from ⟨by decide, (lr_is (F_o0.1 0 rfl))⟩))⟩ Iff.rfl))

theorem b_X6_placeOf_17 {d : Nat} {Q : Option am_V → am_H → Prop} (h : am_H) (s0 : Int32) (x2 : Int32) (l0 l1 l3 : Option am_V) : ex_ d 72 17 [l0, l1, some (v_i x2), l3] [v_i s0] h Q ↔ if ¬ s0 = x2 then ex_ d 72 23 [l0, l1, some (v_i x2), l3] [] h Q else ex_ d 72 21 [l0, l1, some (v_i x2), l3] [] h Q := by
  unfold ex_
  refine (am_Y_go 2 (ok := []) (g := (if ¬ s0 = x2 then 23 else 21, [l0, l1, some (v_i x2), l3], [], h)) rfl).trans ?_
  all_goals exact am_Y_if

theorem b_X6_placeOf_23 {d : Nat} {Q : Option am_V → am_H → Prop} (h : am_H) (x3 : Int32) (l0 l1 l2 : Option am_V) : ex_ d 72 23 [l0, l1, l2, some (v_i x3)] [] h Q ↔ ex_ d 72 2 [l0, l1, l2, some (v_i (x3 + (1 : Int32)))] [] h Q := by
  unfold ex_
  refine (am_Y_go 2 (ok := []) (g := (2, [l0, l1, l2, some (v_i (x3 + (1 : Int32)))], [], h)) rfl).trans ?_
  all_goals exact Iff.rfl

theorem b_X6_placeOf_21 {d : Nat} {Q : Option am_V → am_H → Prop} (h : am_H) (x3 : Int32) (l0 l1 l2 : Option am_V) : ex_ d 72 21 [l0, l1, l2, some (v_i x3)] [] h Q ↔ Q (some (v_i x3)) h := by
  unfold ex_
  refine (am_Y_go 1 (ok := []) (g := (22, [l0, l1, l2, some (v_i x3)], [v_i x3], h)) rfl).trans ?_
  all_goals exact ((am_Y_ret rfl rfl rfl).trans (am_r0))

theorem b_X6_bitsOf_0 {d : Nat} {Q : Option am_V → am_H → Prop} (h : am_H) (l0 l1 l2 l3 l4 : Option am_V) : ex_ d 73 0 [l0, l1, l2, l3, l4] [] h Q ↔ ex_ d 73 5 [l0, l1, l2, some (v_i (0 : Int32)), some (v_i (0 : Int32))] [] h Q := by
  unfold ex_
  refine (am_Y_go 4 (ok := []) (g := (5, [l0, l1, l2, some (v_i (0 : Int32)), some (v_i (0 : Int32))], [], h)) rfl).trans ?_
  all_goals exact Iff.rfl

theorem b_X6_bitsOf_5 {d : Nat} {Q : Option am_V → am_H → Prop} (h : am_H) (x4 : Int32) (x2 : Int32) (l0 l1 l3 : Option am_V) : ex_ d 73 5 [l0, l1, some (v_i x2), l3, some (v_i x4)] [] h Q ↔ if x2 ≤ x4 then ex_ d 73 42 [l0, l1, some (v_i x2), l3, some (v_i x4)] [] h Q else ex_ d 73 11 [l0, l1, some (v_i x2), l3, some (v_i x4)] [] h Q := by
  unfold ex_
  refine (am_Y_go 3 (ok := []) (g := (if x2 ≤ x4 then 42 else 11, [l0, l1, some (v_i x2), l3, some (v_i x4)], [], h)) rfl).trans ?_
  all_goals exact am_Y_if

theorem b_X6_bitsOf_42 {d : Nat} {Q : Option am_V → am_H → Prop} (h : am_H) (x3 : Int32) (l0 l1 l2 l4 : Option am_V) : ex_ d 73 42 [l0, l1, l2, some (v_i x3), l4] [] h Q ↔ Q (some (v_i x3)) h := by
  unfold ex_
  refine (am_Y_go 1 (ok := []) (g := (43, [l0, l1, l2, some (v_i x3), l4], [v_i x3], h)) rfl).trans ?_
  all_goals exact ((am_Y_ret rfl rfl rfl).trans (am_r0))

theorem b_X6_bitsOf_11 {d : Nat} {Q : Option am_V → am_H → Prop} (h : am_H) (x4 : Int32) (l0 l1 l2 l3 : Option am_V) : ex_ d 73 11 [l0, l1, l2, l3, some (v_i x4)] [] h Q ↔ if (10 : Int32) ≤ x4 then ex_ d 73 42 [l0, l1, l2, l3, some (v_i x4)] [] h Q else ex_ d 73 18 [l0, l1, l2, l3, some (v_i x4)] [] h Q := by
  unfold ex_
  refine (am_Y_go 3 (ok := []) (g := (if (10 : Int32) ≤ x4 then 42 else 18, [l0, l1, l2, l3, some (v_i x4)], [], h)) rfl).trans ?_
  all_goals exact am_Y_if

theorem b_X6_bitsOf_18 {d : Nat} {Q : Option am_V → am_H → Prop} (h : am_H) (o0 : Nat) (x4 : Int32) (x1 : Int32) (l2 l3 : Option am_V) (F_o0 : y_Orders h o0) : ex_ d 73 18 [some (v_r (some o0)), some (v_i x1), l2, l3, some (v_i x4)] [] h Q ↔ vp_in x4 11 ∧ (if ¬ (h_i h (o0 + 1) (Int32.toNatClampNeg x4)) = x1 then ex_ d 73 36 [some (v_r (some o0)), some (v_i x1), l2, l3, some (v_i x4)] [] h Q else ex_ d 73 29 [some (v_r (some o0)), some (v_i x1), l2, l3, some (v_i x4)] [] h Q) := by
  have e0 : h_r h o0 0 = some (o0 + 1) := F_o0.2 (0, 0, 1) (by decide)
  unfold ex_
  refine (am_Y_go 6 (ok := [am_is h (some o0) 6, am_ar h ((h_r h o0 0)) 20 x4]) (g := (if ¬ (h_i h ((h_r h o0 0).getD 0) (Int32.toNatClampNeg x4)) = x1 then 36 else 29, [some (v_r (some o0)), some (v_i x1), l2, l3, some (v_i x4)], [], h)) rfl).trans ?_
  simp only [e0, Option.getD_some, am_all]
  all_goals exact cj_d (lr_is (F_o0.1 0 rfl)) (cj_k (lr_ar (F_o0.1 1 rfl)) (am_Y_if))

theorem b_X6_bitsOf_36 {d : Nat} {Q : Option am_V → am_H → Prop} (h : am_H) (x4 : Int32) (l0 l1 l2 l3 : Option am_V) : ex_ d 73 36 [l0, l1, l2, l3, some (v_i x4)] [] h Q ↔ ex_ d 73 5 [l0, l1, l2, l3, some (v_i (x4 + (1 : Int32)))] [] h Q := by
  unfold ex_
  refine (am_Y_go 2 (ok := []) (g := (5, [l0, l1, l2, l3, some (v_i (x4 + (1 : Int32)))], [], h)) rfl).trans ?_
  all_goals exact Iff.rfl

theorem b_X6_bitsOf_29 {d : Nat} {Q : Option am_V → am_H → Prop} (h : am_H) (x3 : Int32) (x4 : Int32) (l0 l1 l2 : Option am_V) : ex_ d 73 29 [l0, l1, l2, some (v_i x3), some (v_i x4)] [] h Q ↔ ex_ d 73 5 [l0, l1, l2, some (v_i (x3 ||| ((1 : Int32) <<< (x4 &&& 31)))), some (v_i (x4 + (1 : Int32)))] [] h Q := by
  unfold ex_
  refine (am_Y_go 8 (ok := []) (g := (5, [l0, l1, l2, some (v_i (x3 ||| ((1 : Int32) <<< (x4 &&& 31)))), some (v_i (x4 + (1 : Int32)))], [], h)) rfl).trans ?_
  all_goals exact Iff.rfl

theorem b_X6_settleAll_0 {d : Nat} {Q : Option am_V → am_H → Prop} (h : am_H) (o0 : Nat) (l1 l2 : Option am_V) (F_o0 : y_Orders h o0) : ex_ (d + 1) 74 0 [some (v_r (some o0)), l1, l2] [] h Q ↔ ex_ d 2 0 [some (v_r (some (o0 + 2))), some (v_i (0 : Int32)), none, none] [] h (fun r h' => ex_ (d + 1) 74 8 [some (v_r (some o0)), l1, l2] (r.toList ++ []) h' Q) := by
  have e0 : h_r h o0 1 = some (o0 + 2) := F_o0.2 (0, 1, 2) (by decide)
  unfold ex_
  refine (am_Y_go 3 (ok := [am_is h (some o0) 6]) (g := (5, [some (v_r (some o0)), l1, l2], [v_i (0 : Int32), v_r ((h_r h o0 1))], h)) rfl).trans ?_
  simp only [e0, Option.getD_some, am_all]
  all_goals exact cj_d (lr_is (F_o0.1 0 rfl)) (((am_Y_call (j := 2) (na := 2) (ci := 0) (fl := 2) rfl rfl rfl).trans (cj_d ⟨⟨Nat.le_of_ble_eq_true rfl, Nat.le_of_ble_eq_true rfl, Nat.le_of_ble_eq_true rfl, rfl⟩, Or.inl rfl⟩ Iff.rfl)))

theorem b_X6_settleAll_8 {d : Nat} {Q : Option am_V → am_H → Prop} (h : am_H) (l0 l1 l2 : Option am_V) : ex_ d 74 8 [l0, l1, l2] [] h Q ↔ ex_ d 74 10 [l0, l1, some (v_i (0 : Int32))] [] h Q := by
  unfold ex_
  refine (am_Y_go 2 (ok := []) (g := (10, [l0, l1, some (v_i (0 : Int32))], [], h)) rfl).trans ?_
  all_goals exact Iff.rfl

theorem b_X6_settleAll_10 {d : Nat} {Q : Option am_V → am_H → Prop} (h : am_H) (x2 : Int32) (o1 : Nat) (l0 : Option am_V) (F_o1 : y_Facts h o1) : ex_ d 74 10 [l0, some (v_r (some o1)), some (v_i x2)] [] h Q ↔ if (h_i h o1 0) ≤ x2 then ex_ d 74 44 [l0, some (v_r (some o1)), some (v_i x2)] [] h Q else ex_ d 74 18 [l0, some (v_r (some o1)), some (v_i x2)] [] h Q := by
  unfold ex_
  refine (am_Y_go 4 (ok := [am_is h (some o1) 1]) (g := (if (h_i h o1 0) ≤ x2 then 44 else 18, [l0, some (v_r (some o1)), some (v_i x2)], [], h)) rfl).trans ?_
  simp only [am_all]
  all_goals exact cj_d (lr_is (F_o1.1 0 rfl)) (am_Y_if)

theorem b_X6_settleAll_44 {d : Nat} {Q : Option am_V → am_H → Prop} (h : am_H) (l0 l1 l2 : Option am_V) : ex_ d 74 44 [l0, l1, l2] [] h Q ↔ Q (none) h := by
  unfold ex_
  exact ((am_Y_ret rfl rfl rfl).trans (am_rz rfl))

theorem b_X6_settleAll_18 {d : Nat} {Q : Option am_V → am_H → Prop} (h : am_H) (o0 : Nat) (x2 : Int32) (o1 : Nat) (F_o0 : y_Orders h o0) (F_o1 : y_Facts h o1) : ex_ (d + 1) 74 18 [some (v_r (some o0)), some (v_r (some o1)), some (v_i x2)] [] h Q ↔ ex_ d 30 0 [some (v_r (some o1)), some (v_i x2), some (v_i (0 : Int32)), some (v_r (some (o0 + 4))), none, none] [] h (fun r h' => ex_ (d + 1) 74 34 [some (v_r (some o0)), some (v_r (some o1)), some (v_i x2)] (r.toList ++ [v_r (some (o0 + 4)), v_i x2, v_r (some o0)]) h' Q) := by
  have e0 : h_r h o0 3 = some (o0 + 4) := F_o0.2 (0, 3, 4) (by decide)
  unfold ex_
  refine (am_Y_go 9 (ok := [am_is h (some o0) 6, am_is h (some o0) 6]) (g := (31, [some (v_r (some o0)), some (v_r (some o1)), some (v_i x2)], [v_r ((h_r h o0 3)), v_i (0 : Int32), v_i x2, v_r (some o1), v_r ((h_r h o0 3)), v_i x2, v_r (some o0)], h)) rfl).trans ?_
  simp only [e0, Option.getD_some, am_all]
  all_goals exact cj_d (lr_is (F_o0.1 0 rfl)) (cj_d (lr_is (F_o0.1 0 rfl)) (((am_Y_call (j := 30) (na := 4) (ci := 1) (fl := 0) rfl rfl rfl).trans (cj_d ⟨⟨Nat.le_of_ble_eq_true rfl, Nat.le_of_ble_eq_true rfl, Nat.le_of_ble_eq_true rfl, rfl⟩, Or.inr (Or.inr (show (1 : Nat) < 20 ∧ am_is h (some o1) 1 from ⟨by decide, (lr_is (F_o1.1 0 rfl))⟩))⟩ Iff.rfl))))

theorem b_X6_settleAll_34 {d : Nat} {Q : Option am_V → am_H → Prop} (h : am_H) (s0 : Int32) (t1 : Nat) (s2 : Int32) (t3 : Nat) (l0 l1 l2 : Option am_V) {n_t1 : Nat} (A_t1 : y_arr h t1 20 n_t1) (F_t3 : y_Orders h t3) : ex_ (d + 1) 74 34 [l0, l1, l2] [v_i s0, v_r (some t1), v_i s2, v_r (some t3)] h Q ↔ ex_ d 52 0 [some (v_r (some t3)), some (v_i s2), some (v_r (some t1)), some (v_i s0), none, none] [] h (fun r h' => ex_ (d + 1) 74 37 [l0, l1, l2] (r.toList ++ []) h' Q) := by
  unfold ex_
  exact ((am_Y_call (j := 52) (na := 4) (ci := 6) (fl := 0) rfl rfl rfl).trans (cj_d ⟨⟨Nat.le_of_ble_eq_true rfl, Nat.le_of_ble_eq_true rfl, Nat.le_of_ble_eq_true rfl, rfl⟩, Or.inr (Or.inr (show (6 : Nat) < 20 ∧ am_is h (some t3) 6 from ⟨by decide, (lr_is (F_t3.1 0 rfl))⟩))⟩ Iff.rfl))

theorem b_X6_settleAll_37 {d : Nat} {Q : Option am_V → am_H → Prop} (h : am_H) (s0 : Int32) (x2 : Int32) (l0 l1 : Option am_V) : ex_ d 74 37 [l0, l1, some (v_i x2)] [v_i s0] h Q ↔ ex_ d 74 10 [l0, l1, some (v_i (x2 + (1 : Int32)))] [] h Q := by
  unfold ex_
  refine (am_Y_go 3 (ok := []) (g := (10, [l0, l1, some (v_i (x2 + (1 : Int32)))], [], h)) rfl).trans ?_
  all_goals exact Iff.rfl
