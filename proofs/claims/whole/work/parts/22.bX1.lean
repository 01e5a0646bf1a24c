theorem b_X1_hasClass_0 {d : Nat} {Q : Option am_V → am_H → Prop} (h : am_H) (x1 : Int32) (l0 : Option am_V) : ex_ d 3 0 [l0, some (v_i x1)] [] h Q ↔ if x1 < 0 then ex_ d 3 22 [l0, some (v_i x1)] [] h Q else ex_ d 3 4 [l0, some (v_i x1)] [] h Q := by
  unfold ex_
  refine (am_Y_go 2 (ok := []) (g := (if x1 < 0 then 22 else 4, [l0, some (v_i x1)], [], h)) rfl).trans ?_
  all_goals exact am_Y_if

theorem b_X1_hasClass_22 {d : Nat} {Q : Option am_V → am_H → Prop} (h : am_H) (l0 l1 : Option am_V) : ex_ d 3 22 [l0, l1] [] h Q ↔ Q (some (v_i (0 : Int32))) h := by
  unfold ex_
  refine (am_Y_go 1 (ok := []) (g := (23, [l0, l1], [v_i (0 : Int32)], h)) rfl).trans ?_
  all_goals exact ((am_Y_ret rfl rfl rfl).trans (am_rz (show am_fit 1 0 from Or.inl rfl)))

theorem b_X1_hasClass_4 {d : Nat} {Q : Option am_V → am_H → Prop} (h : am_H) (x1 : Int32) (o0 : Nat) (F_o0 : y_Facts h o0) : ex_ d 3 4 [some (v_r (some o0)), some (v_i x1)] [] h Q ↔ if (h_i h o0 0) ≤ x1 then ex_ d 3 22 [some (v_r (some o0)), some (v_i x1)] [] h Q else ex_ d 3 12 [some (v_r (some o0)), some (v_i x1)] [] h Q := by
  unfold ex_
  refine (am_Y_go 4 (ok := [am_is h (some o0) 1]) (g := (if (h_i h o0 0) ≤ x1 then 22 else 12, [some (v_r (some o0)), some (v_i x1)], [], h)) rfl).trans ?_
  simp only [am_all]
  all_goals exact cj_d (lr_is (F_o0.1 0 rfl)) (am_Y_if)

theorem b_X1_hasClass_12 {d : Nat} {Q : Option am_V → am_H → Prop} (h : am_H) (x1 : Int32) (l0 : Option am_V) : ex_ d 3 12 [l0, some (v_i x1)] [] h Q ↔ if (10 : Int32) ≤ x1 then ex_ d 3 22 [l0, some (v_i x1)] [] h Q else ex_ d 3 18 [l0, some (v_i x1)] [] h Q := by
  unfold ex_
  refine (am_Y_go 3 (ok := []) (g := (if (10 : Int32) ≤ x1 then 22 else 18, [l0, some (v_i x1)], [], h)) rfl).trans ?_
  all_goals exact am_Y_if

theorem b_X1_hasClass_18 {d : Nat} {Q : Option am_V → am_H → Prop} (h : am_H) (l0 l1 : Option am_V) : ex_ d 3 18 [l0, l1] [] h Q ↔ Q (some (v_i (1 : Int32))) h := by
  unfold ex_
  refine (am_Y_go 2 (ok := []) (g := (23, [l0, l1], [v_i (1 : Int32)], h)) rfl).trans ?_
  all_goals exact ((am_Y_ret rfl rfl rfl).trans (am_rz (show am_fit 1 1 from Or.inr rfl)))

theorem b_X1_parentCount_0 {d : Nat} {Q : Option am_V → am_H → Prop} (h : am_H) (x1 : Int32) (l0 : Option am_V) : ex_ d 4 0 [l0, some (v_i x1)] [] h Q ↔ if x1 < 0 then ex_ d 4 19 [l0, some (v_i x1)] [] h Q else ex_ d 4 4 [l0, some (v_i x1)] [] h Q := by
  unfold ex_
  refine (am_Y_go 2 (ok := []) (g := (if x1 < 0 then 19 else 4, [l0, some (v_i x1)], [], h)) rfl).trans ?_
  all_goals exact am_Y_if

theorem b_X1_parentCount_19 {d : Nat} {Q : Option am_V → am_H → Prop} (h : am_H) (l0 l1 : Option am_V) : ex_ d 4 19 [l0, l1] [] h Q ↔ Q (some (v_i (0 : Int32))) h := by
  unfold ex_
  refine (am_Y_go 1 (ok := []) (g := (20, [l0, l1], [v_i (0 : Int32)], h)) rfl).trans ?_
  all_goals exact ((am_Y_ret rfl rfl rfl).trans (am_r0))

theorem b_X1_parentCount_4 {d : Nat} {Q : Option am_V → am_H → Prop} (h : am_H) (x1 : Int32) (l0 : Option am_V) : ex_ d 4 4 [l0, some (v_i x1)] [] h Q ↔ if (10 : Int32) ≤ x1 then ex_ d 4 19 [l0, some (v_i x1)] [] h Q else ex_ d 4 10 [l0, some (v_i x1)] [] h Q := by
  unfold ex_
  refine (am_Y_go 3 (ok := []) (g := (if (10 : Int32) ≤ x1 then 19 else 10, [l0, some (v_i x1)], [], h)) rfl).trans ?_
  all_goals exact am_Y_if

theorem b_X1_parentCount_10 {d : Nat} {Q : Option am_V → am_H → Prop} (h : am_H) (o0 : Nat) (x1 : Int32) (F_o0 : y_Facts h o0) : ex_ d 4 10 [some (v_r (some o0)), some (v_i x1)] [] h Q ↔ vp_in x1 10 ∧ Q (some (v_i (h_i h (o0 + 1) (Int32.toNatClampNeg x1)))) h := by
  have e0 : h_r h o0 2 = some (o0 + 1) := F_o0.2 (0, 2, 1) (by decide)
  unfold ex_
  refine (am_Y_go 5 (ok := [am_is h (some o0) 1, am_ar h ((h_r h o0 2)) 20 x1]) (g := (20, [some (v_r (some o0)), some (v_i x1)], [v_i (h_i h ((h_r h o0 2).getD 0) (Int32.toNatClampNeg x1))], h)) rfl).trans ?_
  simp only [e0, Option.getD_some, am_all]
  all_goals exact cj_d (lr_is (F_o0.1 0 rfl)) (cj_k (lr_ar (F_o0.1 1 rfl)) (((am_Y_ret rfl rfl rfl).trans (am_r0))))

theorem b_X1_parentAt_0 {d : Nat} {Q : Option am_V → am_H → Prop} (h : am_H) (x2 : Int32) (l0 l1 : Option am_V) : ex_ d 5 0 [l0, l1, some (v_i x2)] [] h Q ↔ if x2 < 0 then ex_ d 5 31 [l0, l1, some (v_i x2)] [] h Q else ex_ d 5 4 [l0, l1, some (v_i x2)] [] h Q := by
  unfold ex_
  refine (am_Y_go 2 (ok := []) (g := (if x2 < 0 then 31 else 4, [l0, l1, some (v_i x2)], [], h)) rfl).trans ?_
  all_goals exact am_Y_if

theorem b_X1_parentAt_31 {d : Nat} {Q : Option am_V → am_H → Prop} (h : am_H) (l0 l1 l2 : Option am_V) : ex_ d 5 31 [l0, l1, l2] [] h Q ↔ Q (some (v_i (-1 : Int32))) h := by
  unfold ex_
  refine (am_Y_go 1 (ok := []) (g := (32, [l0, l1, l2], [v_i (-1 : Int32)], h)) rfl).trans ?_
  all_goals exact ((am_Y_ret rfl rfl rfl).trans (am_r0))

theorem b_X1_parentAt_4 {d : Nat} {Q : Option am_V → am_H → Prop} (h : am_H) (x2 : Int32) (o0 : Nat) (x1 : Int32) (F_o0 : y_Facts h o0) : ex_ (d + 1) 5 4 [some (v_r (some o0)), some (v_i x1), some (v_i x2)] [] h Q ↔ ex_ d 4 0 [some (v_r (some o0)), some (v_i x1)] [] h (fun r h' => ex_ (d + 1) 5 10 [some (v_r (some o0)), some (v_i x1), some (v_i x2)] (r.toList ++ [v_i x2]) h' Q) := by
  unfold ex_
  refine (am_Y_go 3 (ok := []) (g := (7, [some (v_r (some o0)), some (v_i x1), some (v_i x2)], [v_i x1, v_r (some o0), v_i x2], h)) rfl).trans ?_
  all_goals exact ((am_Y_call (j := 4) (na := 2) (ci := 1) (fl := 0) rfl rfl rfl).trans (cj_d ⟨⟨Nat.le_of_ble_eq_true rfl, Nat.le_of_ble_eq_true rfl, Nat.le_of_ble_eq_true rfl, rfl⟩, Or.inr (Or.inr (show (1 : Nat) < 20 ∧ am_is h (some o0) 1 from ⟨by decide, (lr_is (F_o0.1 0 rfl))⟩))⟩ Iff.rfl))

theorem b_X1_parentAt_10 {d : Nat} {Q : Option am_V → am_H → Prop} (h : am_H) (s0 : Int32) (s1 : Int32) (l0 l1 l2 : Option am_V) : ex_ d 5 10 [l0, l1, l2] [v_i s0, v_i s1] h Q ↔ if s0 ≤ s1 then ex_ d 5 31 [l0, l1, l2] [] h Q else ex_ d 5 13 [l0, l1, l2] [] h Q := by
  unfold ex_
  refine (am_Y_go 1 (ok := []) (g := (if s0 ≤ s1 then 31 else 13, [l0, l1, l2], [], h)) rfl).trans ?_
  all_goals exact am_Y_if

theorem b_X1_parentAt_13 {d : Nat} {Q : Option am_V → am_H → Prop} (h : am_H) (x2 : Int32) (l0 l1 : Option am_V) : ex_ d 5 13 [l0, l1, some (v_i x2)] [] h Q ↔ if (4 : Int32) ≤ x2 then ex_ d 5 31 [l0, l1, some (v_i x2)] [] h Q else ex_ d 5 18 [l0, l1, some (v_i x2)] [] h Q := by
  unfold ex_
  refine (am_Y_go 3 (ok := []) (g := (if (4 : Int32) ≤ x2 then 31 else 18, [l0, l1, some (v_i x2)], [], h)) rfl).trans ?_
  all_goals exact am_Y_if

theorem b_X1_parentAt_18 {d : Nat} {Q : Option am_V → am_H → Prop} (h : am_H) (o0 : Nat) (x1 : Int32) (x2 : Int32) (F_o0 : y_Facts h o0) : ex_ d 5 18 [some (v_r (some o0)), some (v_i x1), some (v_i x2)] [] h Q ↔ vp_in ((x1 * (4 : Int32)) + x2) 40 ∧ Q (some (v_i (h_i h (o0 + 2) (Int32.toNatClampNeg ((x1 * (4 : Int32)) + x2))))) h := by
  have e0 : h_r h o0 3 = some (o0 + 2) := F_o0.2 (0, 3, 2) (by decide)
  unfold ex_
  refine (am_Y_go 9 (ok := [am_is h (some o0) 1, am_ar h ((h_r h o0 3)) 20 ((x1 * (4 : Int32)) + x2)]) (g := (32, [some (v_r (some o0)), some (v_i x1), some (v_i x2)], [v_i (h_i h ((h_r h o0 3).getD 0) (Int32.toNatClampNeg ((x1 * (4 : Int32)) + x2)))], h)) rfl).trans ?_
  simp only [e0, Option.getD_some, am_all]
  all_goals exact cj_d (lr_is (F_o0.1 0 rfl)) (cj_k (lr_ar (F_o0.1 2 rfl)) (((am_Y_ret rfl rfl rfl).trans (am_r0))))

theorem b_X1_ancestors_0 {d : Nat} {Q : Option am_V → am_H → Prop} (h : am_H) (o0 : Nat) (x1 : Int32) (l2 l3 l4 : Option am_V) (F_o0 : y_Facts h o0) : ex_ (d + 1) 6 0 [some (v_r (some o0)), some (v_i x1), l2, l3, l4] [] h Q ↔ ex_ d 3 0 [some (v_r (some o0)), some (v_i x1)] [] h (fun r h' => ex_ (d + 1) 6 5 [some (v_r (some o0)), some (v_i x1), l2, l3, l4] (r.toList ++ []) h' Q) := by
  unfold ex_
  refine (am_Y_go 2 (ok := []) (g := (2, [some (v_r (some o0)), some (v_i x1), l2, l3, l4], [v_i x1, v_r (some o0)], h)) rfl).trans ?_
  all_goals exact ((am_Y_call (j := 3) (na := 2) (ci := 1) (fl := 0) rfl rfl rfl).trans (cj_d ⟨⟨Nat.le_of_ble_eq_true rfl, Nat.le_of_ble_eq_true rfl, Nat.le_of_ble_eq_true rfl, rfl⟩, Or.inr (Or.inr (show (1 : Nat) < 20 ∧ am_is h (some o0) 1 from ⟨by decide, (lr_is (F_o0.1 0 rfl))⟩))⟩ Iff.rfl))

theorem b_X1_ancestors_5 {d : Nat} {Q : Option am_V → am_H → Prop} (h : am_H) (s0 : Int32) (l0 l1 l2 l3 l4 : Option am_V) : ex_ d 6 5 [l0, l1, l2, l3, l4] [v_i s0] h Q ↔ if ¬ s0 = 0 then ex_ d 6 10 [l0, l1, l2, l3, l4] [] h Q else ex_ d 6 8 [l0, l1, l2, l3, l4] [] h Q := by
  unfold ex_
  refine (am_Y_go 1 (ok := []) (g := (if ¬ s0 = 0 then 10 else 8, [l0, l1, l2, l3, l4], [], h)) rfl).trans ?_
  all_goals exact am_Y_if

theorem b_X1_ancestors_10 {d : Nat} {Q : Option am_V → am_H → Prop} (h : am_H) (x1 : Int32) (l0 l2 l3 l4 : Option am_V) : ex_ d 6 10 [l0, some (v_i x1), l2, l3, l4] [] h Q ↔ ex_ d 6 16 [l0, some (v_i x1), some (v_i ((1 : Int32) <<< (x1 &&& 31))), some (v_i x1), l4] [] h Q := by
  unfold ex_
  refine (am_Y_go 6 (ok := []) (g := (16, [l0, some (v_i x1), some (v_i ((1 : Int32) <<< (x1 &&& 31))), some (v_i x1), l4], [], h)) rfl).trans ?_
  all_goals exact Iff.rfl

theorem b_X1_ancestors_8 {d : Nat} {Q : Option am_V → am_H → Prop} (h : am_H) (l0 l1 l2 l3 l4 : Option am_V) : ex_ d 6 8 [l0, l1, l2, l3, l4] [] h Q ↔ Q (some (v_i (0 : Int32))) h := by
  unfold ex_
  refine (am_Y_go 1 (ok := []) (g := (9, [l0, l1, l2, l3, l4], [v_i (0 : Int32)], h)) rfl).trans ?_
  all_goals exact ((am_Y_ret rfl rfl rfl).trans (am_r0))

theorem b_X1_ancestors_16 {d : Nat} {Q : Option am_V → am_H → Prop} (h : am_H) (x3 : Int32) (l0 l1 l2 l4 : Option am_V) : ex_ d 6 16 [l0, l1, l2, some (v_i x3), l4] [] h Q ↔ if x3 ≤ 0 then ex_ d 6 65 [l0, l1, l2, some (v_i x3), l4] [] h Q else ex_ d 6 20 [l0, l1, l2, some (v_i x3), l4] [] h Q := by
  unfold ex_
  refine (am_Y_go 2 (ok := []) (g := (if x3 ≤ 0 then 65 else 20, [l0, l1, l2, some (v_i x3), l4], [], h)) rfl).trans ?_
  all_goals exact am_Y_if

theorem b_X1_ancestors_65 {d : Nat} {Q : Option am_V → am_H → Prop} (h : am_H) (x2 : Int32) (l0 l1 l3 l4 : Option am_V) : ex_ d 6 65 [l0, l1, some (v_i x2), l3, l4] [] h Q ↔ Q (some (v_i x2)) h := by
  unfold ex_
  refine (am_Y_go 1 (ok := []) (g := (66, [l0, l1, some (v_i x2), l3, l4], [v_i x2], h)) rfl).trans ?_
  all_goals exact ((am_Y_ret rfl rfl rfl).trans (am_r0))

theorem b_X1_ancestors_20 {d : Nat} {Q : Option am_V → am_H → Prop} (h : am_H) (l0 l1 l2 l3 l4 : Option am_V) : ex_ d 6 20 [l0, l1, l2, l3, l4] [] h Q ↔ ex_ d 6 23 [l0, l1, l2, l3, some (v_i (0 : Int32))] [] h Q := by
  unfold ex_
  refine (am_Y_go 2 (ok := []) (g := (23, [l0, l1, l2, l3, some (v_i (0 : Int32))], [], h)) rfl).trans ?_
  all_goals exact Iff.rfl

theorem b_X1_ancestors_23 {d : Nat} {Q : Option am_V → am_H → Prop} (h : am_H) (x4 : Int32) (o0 : Nat) (x3 : Int32) (l1 l2 : Option am_V) (F_o0 : y_Facts h o0) : ex_ (d + 1) 6 23 [some (v_r (some o0)), l1, l2, some (v_i x3), some (v_i x4)] [] h Q ↔ ex_ d 4 0 [some (v_r (some o0)), some (v_i x3)] [] h (fun r h' => ex_ (d + 1) 6 30 [some (v_r (some o0)), l1, l2, some (v_i x3), some (v_i x4)] (r.toList ++ [v_i x4]) h' Q) := by
  unfold ex_
  refine (am_Y_go 3 (ok := []) (g := (27, [some (v_r (some o0)), l1, l2, some (v_i x3), some (v_i x4)], [v_i x3, v_r (some o0), v_i x4], h)) rfl).trans ?_
  all_goals exact ((am_Y_call (j := 4) (na := 2) (ci := 1) (fl := 0) rfl rfl rfl).trans (cj_d ⟨⟨Nat.le_of_ble_eq_true rfl, Nat.le_of_ble_eq_true rfl, Nat.le_of_ble_eq_true rfl, rfl⟩, Or.inr (Or.inr (show (1 : Nat) < 20 ∧ am_is h (some o0) 1 from ⟨by decide, (lr_is (F_o0.1 0 rfl))⟩))⟩ Iff.rfl))

theorem b_X1_ancestors_30 {d : Nat} {Q : Option am_V → am_H → Prop} (h : am_H) (s0 : Int32) (s1 : Int32) (l0 l1 l2 l3 l4 : Option am_V) : ex_ d 6 30 [l0, l1, l2, l3, l4] [v_i s0, v_i s1] h Q ↔ if s0 ≤ s1 then ex_ d 6 59 [l0, l1, l2, l3, l4] [] h Q else ex_ d 6 33 [l0, l1, l2, l3, l4] [] h Q := by
  unfold ex_
  refine (am_Y_go 1 (ok := []) (g := (if s0 ≤ s1 then 59 else 33, [l0, l1, l2, l3, l4], [], h)) rfl).trans ?_
  all_goals exact am_Y_if

theorem b_X1_ancestors_59 {d : Nat} {Q : Option am_V → am_H → Prop} (h : am_H) (x3 : Int32) (l0 l1 l2 l4 : Option am_V) : ex_ d 6 59 [l0, l1, l2, some (v_i x3), l4] [] h Q ↔ ex_ d 6 16 [l0, l1, l2, some (v_i (x3 + (-1 : Int32))), l4] [] h Q := by
  unfold ex_
  refine (am_Y_go 2 (ok := []) (g := (16, [l0, l1, l2, some (v_i (x3 + (-1 : Int32))), l4], [], h)) rfl).trans ?_
  all_goals exact Iff.rfl

theorem b_X1_ancestors_33 {d : Nat} {Q : Option am_V → am_H → Prop} (h : am_H) (x2 : Int32) (x3 : Int32) (l0 l1 l4 : Option am_V) : ex_ d 6 33 [l0, l1, some (v_i x2), some (v_i x3), l4] [] h Q ↔ if ((x2 >>> (x3 &&& 31)) &&& (1 : Int32)) = 0 then ex_ d 6 59 [l0, l1, some (v_i x2), some (v_i x3), l4] [] h Q else ex_ d 6 41 [l0, l1, some (v_i x2), some (v_i x3), l4] [] h Q := by
  unfold ex_
  refine (am_Y_go 6 (ok := []) (g := (if ((x2 >>> (x3 &&& 31)) &&& (1 : Int32)) = 0 then 59 else 41, [l0, l1, some (v_i x2), some (v_i x3), l4], [], h)) rfl).trans ?_
  all_goals exact am_Y_if

theorem b_X1_ancestors_41 {d : Nat} {Q : Option am_V → am_H → Prop} (h : am_H) (x2 : Int32) (o0 : Nat) (x3 : Int32) (x4 : Int32) (l1 : Option am_V) (F_o0 : y_Facts h o0) : ex_ (d + 1) 6 41 [some (v_r (some o0)), l1, some (v_i x2), some (v_i x3), some (v_i x4)] [] h Q ↔ ex_ d 5 0 [some (v_r (some o0)), some (v_i x3), some (v_i x4)] [] h (fun r h' => ex_ (d + 1) 6 50 [some (v_r (some o0)), l1, some (v_i x2), some (v_i x3), some (v_i x4)] (r.toList ++ [v_i (1 : Int32), v_i x2]) h' Q) := by
  unfold ex_
  refine (am_Y_go 5 (ok := []) (g := (47, [some (v_r (some o0)), l1, some (v_i x2), some (v_i x3), some (v_i x4)], [v_i x4, v_i x3, v_r (some o0), v_i (1 : Int32), v_i x2], h)) rfl).trans ?_
  all_goals exact ((am_Y_call (j := 5) (na := 3) (ci := 1) (fl := 0) rfl rfl rfl).trans (cj_d ⟨⟨Nat.le_of_ble_eq_true rfl, Nat.le_of_ble_eq_true rfl, Nat.le_of_ble_eq_true rfl, rfl⟩, Or.inr (Or.inr (show (1 : Nat) < 20 ∧ am_is h (some o0) 1 from ⟨by decide, (lr_is (F_o0.1 0 rfl))⟩))⟩ Iff.rfl))

theorem b_X1_ancestors_50 {d : Nat} {Q : Option am_V → am_H → Prop} (h : am_H) (s0 : Int32) (s1 : Int32) (s2 : Int32) (x4 : Int32) (l0 l1 l2 l3 : Option am_V) : ex_ d 6 50 [l0, l1, l2, l3, some (v_i x4)] [v_i s0, v_i s1, v_i s2] h Q ↔ ex_ d 6 23 [l0, l1, some (v_i (s2 ||| (s1 <<< (s0 &&& 31)))), l3, some (v_i (x4 + (1 : Int32)))] [] h Q := by
  unfold ex_
  refine (am_Y_go 5 (ok := []) (g := (23, [l0, l1, some (v_i (s2 ||| (s1 <<< (s0 &&& 31)))), l3, some (v_i (x4 + (1 : Int32)))], [], h)) rfl).trans ?_
  all_goals exact Iff.rfl

theorem b_X1_clear_0 {d : Nat} {Q : Option am_V → am_H → Prop} (h : am_H) (o0 : Nat) (F_o0 : y_Facts h o0) : ex_ (d + 1) 27 0 [some (v_r (some o0))] [] h Q ↔ ex_ d 2 0 [some (v_r (some (o0 + 1))), some (v_i (0 : Int32)), none, none] [] (p_i (p_i h o0 0 (0 : Int32)) o0 1 (0 : Int32)) (fun r h' => ex_ (d + 1) 27 18 [some (v_r (some o0))] (r.toList ++ []) h' Q) := by
  have e0 : h_r h o0 2 = some (o0 + 1) := F_o0.2 (0, 2, 1) (by decide)
  unfold ex_
  refine (am_Y_go 9 (ok := [am_is h (some o0) 1, am_is h (some o0) 1, am_is h (some o0) 1]) (g := (15, [some (v_r (some o0))], [v_i (0 : Int32), v_r ((h_r h o0 2))], (p_i (p_i h o0 0 (0 : Int32)) o0 1 (0 : Int32)))) rfl).trans ?_
  simp only [e0, Option.getD_some, am_all]
  all_goals exact cj_d (lr_is (F_o0.1 0 rfl)) (cj_d (lr_is (F_o0.1 0 rfl)) (cj_d (lr_is (F_o0.1 0 rfl)) (((am_Y_call (j := 2) (na := 2) (ci := 0) (fl := 2) rfl rfl rfl).trans (cj_d ⟨⟨Nat.le_of_ble_eq_true rfl, Nat.le_of_ble_eq_true rfl, Nat.le_of_ble_eq_true rfl, rfl⟩, Or.inl rfl⟩ Iff.rfl)))))

theorem b_X1_clear_18 {d : Nat} {Q : Option am_V → am_H → Prop} (h : am_H) (o0 : Nat) (F_o0 : y_Facts h o0) : ex_ (d + 1) 27 18 [some (v_r (some o0))] [] h Q ↔ ex_ d 2 0 [some (v_r (some (o0 + 2))), some (v_i (0 : Int32)), none, none] [] h (fun r h' => ex_ (d + 1) 27 26 [some (v_r (some o0))] (r.toList ++ []) h' Q) := by
  have e0 : h_r h o0 3 = some (o0 + 2) := F_o0.2 (0, 3, 2) (by decide)
  unfold ex_
  refine (am_Y_go 3 (ok := [am_is h (some o0) 1]) (g := (23, [some (v_r (some o0))], [v_i (0 : Int32), v_r ((h_r h o0 3))], h)) rfl).trans ?_
  simp only [e0, Option.getD_some, am_all]
  all_goals exact cj_d (lr_is (F_o0.1 0 rfl)) (((am_Y_call (j := 2) (na := 2) (ci := 0) (fl := 2) rfl rfl rfl).trans (cj_d ⟨⟨Nat.le_of_ble_eq_true rfl, Nat.le_of_ble_eq_true rfl, Nat.le_of_ble_eq_true rfl, rfl⟩, Or.inl rfl⟩ Iff.rfl)))

theorem b_X1_clear_26 {d : Nat} {Q : Option am_V → am_H → Prop} (h : am_H) (o0 : Nat) (F_o0 : y_Facts h o0) : ex_ (d + 1) 27 26 [some (v_r (some o0))] [] h Q ↔ ex_ d 2 0 [some (v_r (some (o0 + 3))), some (v_i (0 : Int32)), none, none] [] h (fun r h' => ex_ (d + 1) 27 34 [some (v_r (some o0))] (r.toList ++ []) h' Q) := by
  have e0 : h_r h o0 4 = some (o0 + 3) := F_o0.2 (0, 4, 3) (by decide)
  unfold ex_
  refine (am_Y_go 3 (ok := [am_is h (some o0) 1]) (g := (31, [some (v_r (some o0))], [v_i (0 : Int32), v_r ((h_r h o0 4))], h)) rfl).trans ?_
  simp only [e0, Option.getD_some, am_all]
  all_goals exact cj_d (lr_is (F_o0.1 0 rfl)) (((am_Y_call (j := 2) (na := 2) (ci := 0) (fl := 2) rfl rfl rfl).trans (cj_d ⟨⟨Nat.le_of_ble_eq_true rfl, Nat.le_of_ble_eq_true rfl, Nat.le_of_ble_eq_true rfl, rfl⟩, Or.inl rfl⟩ Iff.rfl)))

theorem b_X1_clear_34 {d : Nat} {Q : Option am_V → am_H → Prop} (h : am_H) (l0 : Option am_V) : ex_ d 27 34 [l0] [] h Q ↔ Q (none) h := by
  unfold ex_
  exact ((am_Y_ret rfl rfl rfl).trans (am_rz rfl))

theorem b_X1_copyFrom_0 {d : Nat} {Q : Option am_V → am_H → Prop} (h : am_H) (o0 : Nat) (o1 : Nat) (F_o0 : y_Facts h o0) (F_o1 : y_Facts h o1) : ex_ d 28 0 [some (v_r (some o0)), some (v_r (some o1))] [] h Q ↔ am_cp h (some (o1 + 1)) (some (o0 + 1)) (0 : Int32) (0 : Int32) (nI 10) ∧ am_cp h (some (o1 + 2)) (some (o0 + 2)) (0 : Int32) (0 : Int32) (nI 40) ∧ am_cp h (some (o1 + 3)) (some (o0 + 3)) (0 : Int32) (0 : Int32) (nI 80) ∧ Q (none) (p_a (p_a (p_a (p_i (p_i h o0 0 (h_i h o1 0)) o0 1 (h_i (p_i h o0 0 (h_i h o1 0)) o1 1)) (o0 + 1) (va_cpy (h_i (p_i (p_i h o0 0 (h_i h o1 0)) o0 1 (h_i (p_i h o0 0 (h_i h o1 0)) o1 1)) (o1 + 1)) (h_i (p_i (p_i h o0 0 (h_i h o1 0)) o0 1 (h_i (p_i h o0 0 (h_i h o1 0)) o1 1)) (o0 + 1)) (Int32.toNatClampNeg (0 : Int32)) (Int32.toNatClampNeg (0 : Int32)) (Int32.toNatClampNeg (nI 10)))) (o0 + 2) (va_cpy (h_i (p_a (p_i (p_i h o0 0 (h_i h o1 0)) o0 1 (h_i (p_i h o0 0 (h_i h o1 0)) o1 1)) (o0 + 1) (va_cpy (h_i (p_i (p_i h o0 0 (h_i h o1 0)) o0 1 (h_i (p_i h o0 0 (h_i h o1 0)) o1 1)) (o1 + 1)) (h_i (p_i (p_i h o0 0 (h_i h o1 0)) o0 1 (h_i (p_i h o0 0 (h_i h o1 0)) o1 1)) (o0 + 1)) (Int32.toNatClampNeg (0 : Int32)) (Int32.toNatClampNeg (0 : Int32)) (Int32.toNatClampNeg (nI 10)))) (o1 + 2)) (h_i (p_a (p_i (p_i h o0 0 (h_i h o1 0)) o0 1 (h_i (p_i h o0 0 (h_i h o1 0)) o1 1)) (o0 + 1) (va_cpy (h_i (p_i (p_i h o0 0 (h_i h o1 0)) o0 1 (h_i (p_i h o0 0 (h_i h o1 0)) o1 1)) (o1 + 1)) (h_i (p_i (p_i h o0 0 (h_i h o1 0)) o0 1 (h_i (p_i h o0 0 (h_i h o1 0)) o1 1)) (o0 + 1)) (Int32.toNatClampNeg (0 : Int32)) (Int32.toNatClampNeg (0 : Int32)) (Int32.toNatClampNeg (nI 10)))) (o0 + 2)) (Int32.toNatClampNeg (0 : Int32)) (Int32.toNatClampNeg (0 : Int32)) (Int32.toNatClampNeg (nI 40)))) (o0 + 3) (va_cpy (h_i (p_a (p_a (p_i (p_i h o0 0 (h_i h o1 0)) o0 1 (h_i (p_i h o0 0 (h_i h o1 0)) o1 1)) (o0 + 1) (va_cpy (h_i (p_i (p_i h o0 0 (h_i h o1 0)) o0 1 (h_i (p_i h o0 0 (h_i h o1 0)) o1 1)) (o1 + 1)) (h_i (p_i (p_i h o0 0 (h_i h o1 0)) o0 1 (h_i (p_i h o0 0 (h_i h o1 0)) o1 1)) (o0 + 1)) (Int32.toNatClampNeg (0 : Int32)) (Int32.toNatClampNeg (0 : Int32)) (Int32.toNatClampNeg (nI 10)))) (o0 + 2) (va_cpy (h_i (p_a (p_i (p_i h o0 0 (h_i h o1 0)) o0 1 (h_i (p_i h o0 0 (h_i h o1 0)) o1 1)) (o0 + 1) (va_cpy (h_i (p_i (p_i h o0 0 (h_i h o1 0)) o0 1 (h_i (p_i h o0 0 (h_i h o1 0)) o1 1)) (o1 + 1)) (h_i (p_i (p_i h o0 0 (h_i h o1 0)) o0 1 (h_i (p_i h o0 0 (h_i h o1 0)) o1 1)) (o0 + 1)) (Int32.toNatClampNeg (0 : Int32)) (Int32.toNatClampNeg (0 : Int32)) (Int32.toNatClampNeg (nI 10)))) (o1 + 2)) (h_i (p_a (p_i (p_i h o0 0 (h_i h o1 0)) o0 1 (h_i (p_i h o0 0 (h_i h o1 0)) o1 1)) (o0 + 1) (va_cpy (h_i (p_i (p_i h o0 0 (h_i h o1 0)) o0 1 (h_i (p_i h o0 0 (h_i h o1 0)) o1 1)) (o1 + 1)) (h_i (p_i (p_i h o0 0 (h_i h o1 0)) o0 1 (h_i (p_i h o0 0 (h_i h o1 0)) o1 1)) (o0 + 1)) (Int32.toNatClampNeg (0 : Int32)) (Int32.toNatClampNeg (0 : Int32)) (Int32.toNatClampNeg (nI 10)))) (o0 + 2)) (Int32.toNatClampNeg (0 : Int32)) (Int32.toNatClampNeg (0 : Int32)) (Int32.toNatClampNeg (nI 40)))) (o1 + 3)) (h_i (p_a (p_a (p_i (p_i h o0 0 (h_i h o1 0)) o0 1 (h_i (p_i h o0 0 (h_i h o1 0)) o1 1)) (o0 + 1) (va_cpy (h_i (p_i (p_i h o0 0 (h_i h o1 0)) o0 1 (h_i (p_i h o0 0 (h_i h o1 0)) o1 1)) (o1 + 1)) (h_i (p_i (p_i h o0 0 (h_i h o1 0)) o0 1 (h_i (p_i h o0 0 (h_i h o1 0)) o1 1)) (o0 + 1)) (Int32.toNatClampNeg (0 : Int32)) (Int32.toNatClampNeg (0 : Int32)) (Int32.toNatClampNeg (nI 10)))) (o0 + 2) (va_cpy (h_i (p_a (p_i (p_i h o0 0 (h_i h o1 0)) o0 1 (h_i (p_i h o0 0 (h_i h o1 0)) o1 1)) (o0 + 1) (va_cpy (h_i (p_i (p_i h o0 0 (h_i h o1 0)) o0 1 (h_i (p_i h o0 0 (h_i h o1 0)) o1 1)) (o1 + 1)) (h_i (p_i (p_i h o0 0 (h_i h o1 0)) o0 1 (h_i (p_i h o0 0 (h_i h o1 0)) o1 1)) (o0 + 1)) (Int32.toNatClampNeg (0 : Int32)) (Int32.toNatClampNeg (0 : Int32)) (Int32.toNatClampNeg (nI 10)))) (o1 + 2)) (h_i (p_a (p_i (p_i h o0 0 (h_i h o1 0)) o0 1 (h_i (p_i h o0 0 (h_i h o1 0)) o1 1)) (o0 + 1) (va_cpy (h_i (p_i (p_i h o0 0 (h_i h o1 0)) o0 1 (h_i (p_i h o0 0 (h_i h o1 0)) o1 1)) (o1 + 1)) (h_i (p_i (p_i h o0 0 (h_i h o1 0)) o0 1 (h_i (p_i h o0 0 (h_i h o1 0)) o1 1)) (o0 + 1)) (Int32.toNatClampNeg (0 : Int32)) (Int32.toNatClampNeg (0 : Int32)) (Int32.toNatClampNeg (nI 10)))) (o0 + 2)) (Int32.toNatClampNeg (0 : Int32)) (Int32.toNatClampNeg (0 : Int32)) (Int32.toNatClampNeg (nI 40)))) (o0 + 3)) (Int32.toNatClampNeg (0 : Int32)) (Int32.toNatClampNeg (0 : Int32)) (Int32.toNatClampNeg (nI 80)))) := by
  have e0 : h_r h o1 2 = some (o1 + 1) := F_o1.2 (0, 2, 1) (by decide)
  have e1 : h_r h o0 2 = some (o0 + 1) := F_o0.2 (0, 2, 1) (by decide)
  have e2 : h_l h (o0 + 1) = 10 := (lr_l (F_o0.1 1 rfl))
  have e3 : h_r h o1 3 = some (o1 + 2) := F_o1.2 (0, 3, 2) (by decide)
  have e4 : h_r h o0 3 = some (o0 + 2) := F_o0.2 (0, 3, 2) (by decide)
  have e5 : h_l h (o0 + 2) = 40 := (lr_l (F_o0.1 2 rfl))
  have e6 : h_r h o1 4 = some (o1 + 3) := F_o1.2 (0, 4, 3) (by decide)
  have e7 : h_r h o0 4 = some (o0 + 3) := F_o0.2 (0, 4, 3) (by decide)
  have e8 : h_l h (o0 + 3) = 80 := (lr_l (F_o0.1 3 rfl))
  unfold ex_
  refine (am_Y_go 38 (ok := [am_is h (some o1) 1, am_is h (some o0) 1, am_is h (some o1) 1, am_is h (some o0) 1, am_is h (some o1) 1, am_is h (some o0) 1, am_is h (some o0) 1, am_an h ((h_r h o0 2)), am_cp (p_i (p_i h o0 0 (h_i h o1 0)) o0 1 (h_i (p_i h o0 0 (h_i h o1 0)) o1 1)) ((h_r h o1 2)) ((h_r h o0 2)) (0 : Int32) (0 : Int32) (nI (h_l h ((h_r h o0 2).getD 0))), am_is h (some o1) 1, am_is h (some o0) 1, am_is h (some o0) 1, am_an h ((h_r h o0 3)), am_cp (p_a (p_i (p_i h o0 0 (h_i h o1 0)) o0 1 (h_i (p_i h o0 0 (h_i h o1 0)) o1 1)) ((h_r h o0 2).getD 0) (va_cpy (h_i (p_i (p_i h o0 0 (h_i h o1 0)) o0 1 (h_i (p_i h o0 0 (h_i h o1 0)) o1 1)) ((h_r h o1 2).getD 0)) (h_i (p_i (p_i h o0 0 (h_i h o1 0)) o0 1 (h_i (p_i h o0 0 (h_i h o1 0)) o1 1)) ((h_r h o0 2).getD 0)) (Int32.toNatClampNeg (0 : Int32)) (Int32.toNatClampNeg (0 : Int32)) (Int32.toNatClampNeg (nI (h_l h ((h_r h o0 2).getD 0)))))) ((h_r h o1 3)) ((h_r h o0 3)) (0 : Int32) (0 : Int32) (nI (h_l h ((h_r h o0 3).getD 0))), am_is h (some o1) 1, am_is h (some o0) 1, am_is h (some o0) 1, am_an h ((h_r h o0 4)), am_cp (p_a (p_a (p_i (p_i h o0 0 (h_i h o1 0)) o0 1 (h_i (p_i h o0 0 (h_i h o1 0)) o1 1)) ((h_r h o0 2).getD 0) (va_cpy (h_i (p_i (p_i h o0 0 (h_i h o1 0)) o0 1 (h_i (p_i h o0 0 (h_i h o1 0)) o1 1)) ((h_r h o1 2).getD 0)) (h_i (p_i (p_i h o0 0 (h_i h o1 0)) o0 1 (h_i (p_i h o0 0 (h_i h o1 0)) o1 1)) ((h_r h o0 2).getD 0)) (Int32.toNatClampNeg (0 : Int32)) (Int32.toNatClampNeg (0 : Int32)) (Int32.toNatClampNeg (nI (h_l h ((h_r h o0 2).getD 0)))))) ((h_r h o0 3).getD 0) (va_cpy (h_i (p_a (p_i (p_i h o0 0 (h_i h o1 0)) o0 1 (h_i (p_i h o0 0 (h_i h o1 0)) o1 1)) ((h_r h o0 2).getD 0) (va_cpy (h_i (p_i (p_i h o0 0 (h_i h o1 0)) o0 1 (h_i (p_i h o0 0 (h_i h o1 0)) o1 1)) ((h_r h o1 2).getD 0)) (h_i (p_i (p_i h o0 0 (h_i h o1 0)) o0 1 (h_i (p_i h o0 0 (h_i h o1 0)) o1 1)) ((h_r h o0 2).getD 0)) (Int32.toNatClampNeg (0 : Int32)) (Int32.toNatClampNeg (0 : Int32)) (Int32.toNatClampNeg (nI (h_l h ((h_r h o0 2).getD 0)))))) ((h_r h o1 3).getD 0)) (h_i (p_a (p_i (p_i h o0 0 (h_i h o1 0)) o0 1 (h_i (p_i h o0 0 (h_i h o1 0)) o1 1)) ((h_r h o0 2).getD 0) (va_cpy (h_i (p_i (p_i h o0 0 (h_i h o1 0)) o0 1 (h_i (p_i h o0 0 (h_i h o1 0)) o1 1)) ((h_r h o1 2).getD 0)) (h_i (p_i (p_i h o0 0 (h_i h o1 0)) o0 1 (h_i (p_i h o0 0 (h_i h o1 0)) o1 1)) ((h_r h o0 2).getD 0)) (Int32.toNatClampNeg (0 : Int32)) (Int32.toNatClampNeg (0 : Int32)) (Int32.toNatClampNeg (nI (h_l h ((h_r h o0 2).getD 0)))))) ((h_r h o0 3).getD 0)) (Int32.toNatClampNeg (0 : Int32)) (Int32.toNatClampNeg (0 : Int32)) (Int32.toNatClampNeg (nI (h_l h ((h_r h o0 3).getD 0)))))) ((h_r h o1 4)) ((h_r h o0 4)) (0 : Int32) (0 : Int32) (nI (h_l h ((h_r h o0 4).getD 0)))]) (g := (70, [some (v_r (some o0)), some (v_r (some o1))], [], (p_a (p_a (p_a (p_i (p_i h o0 0 (h_i h o1 0)) o0 1 (h_i (p_i h o0 0 (h_i h o1 0)) o1 1)) ((h_r h o0 2).getD 0) (va_cpy (h_i (p_i (p_i h o0 0 (h_i h o1 0)) o0 1 (h_i (p_i h o0 0 (h_i h o1 0)) o1 1)) ((h_r h o1 2).getD 0)) (h_i (p_i (p_i h o0 0 (h_i h o1 0)) o0 1 (h_i (p_i h o0 0 (h_i h o1 0)) o1 1)) ((h_r h o0 2).getD 0)) (Int32.toNatClampNeg (0 : Int32)) (Int32.toNatClampNeg (0 : Int32)) (Int32.toNatClampNeg (nI (h_l h ((h_r h o0 2).getD 0)))))) ((h_r h o0 3).getD 0) (va_cpy (h_i (p_a (p_i (p_i h o0 0 (h_i h o1 0)) o0 1 (h_i (p_i h o0 0 (h_i h o1 0)) o1 1)) ((h_r h o0 2).getD 0) (va_cpy (h_i (p_i (p_i h o0 0 (h_i h o1 0)) o0 1 (h_i (p_i h o0 0 (h_i h o1 0)) o1 1)) ((h_r h o1 2).getD 0)) (h_i (p_i (p_i h o0 0 (h_i h o1 0)) o0 1 (h_i (p_i h o0 0 (h_i h o1 0)) o1 1)) ((h_r h o0 2).getD 0)) (Int32.toNatClampNeg (0 : Int32)) (Int32.toNatClampNeg (0 : Int32)) (Int32.toNatClampNeg (nI (h_l h ((h_r h o0 2).getD 0)))))) ((h_r h o1 3).getD 0)) (h_i (p_a (p_i (p_i h o0 0 (h_i h o1 0)) o0 1 (h_i (p_i h o0 0 (h_i h o1 0)) o1 1)) ((h_r h o0 2).getD 0) (va_cpy (h_i (p_i (p_i h o0 0 (h_i h o1 0)) o0 1 (h_i (p_i h o0 0 (h_i h o1 0)) o1 1)) ((h_r h o1 2).getD 0)) (h_i (p_i (p_i h o0 0 (h_i h o1 0)) o0 1 (h_i (p_i h o0 0 (h_i h o1 0)) o1 1)) ((h_r h o0 2).getD 0)) (Int32.toNatClampNeg (0 : Int32)) (Int32.toNatClampNeg (0 : Int32)) (Int32.toNatClampNeg (nI (h_l h ((h_r h o0 2).getD 0)))))) ((h_r h o0 3).getD 0)) (Int32.toNatClampNeg (0 : Int32)) (Int32.toNatClampNeg (0 : Int32)) (Int32.toNatClampNeg (nI (h_l h ((h_r h o0 3).getD 0)))))) ((h_r h o0 4).getD 0) (va_cpy (h_i (p_a (p_a (p_i (p_i h o0 0 (h_i h o1 0)) o0 1 (h_i (p_i h o0 0 (h_i h o1 0)) o1 1)) ((h_r h o0 2).getD 0) (va_cpy (h_i (p_i (p_i h o0 0 (h_i h o1 0)) o0 1 (h_i (p_i h o0 0 (h_i h o1 0)) o1 1)) ((h_r h o1 2).getD 0)) (h_i (p_i (p_i h o0 0 (h_i h o1 0)) o0 1 (h_i (p_i h o0 0 (h_i h o1 0)) o1 1)) ((h_r h o0 2).getD 0)) (Int32.toNatClampNeg (0 : Int32)) (Int32.toNatClampNeg (0 : Int32)) (Int32.toNatClampNeg (nI (h_l h ((h_r h o0 2).getD 0)))))) ((h_r h o0 3).getD 0) (va_cpy (h_i (p_a (p_i (p_i h o0 0 (h_i h o1 0)) o0 1 (h_i (p_i h o0 0 (h_i h o1 0)) o1 1)) ((h_r h o0 2).getD 0) (va_cpy (h_i (p_i (p_i h o0 0 (h_i h o1 0)) o0 1 (h_i (p_i h o0 0 (h_i h o1 0)) o1 1)) ((h_r h o1 2).getD 0)) (h_i (p_i (p_i h o0 0 (h_i h o1 0)) o0 1 (h_i (p_i h o0 0 (h_i h o1 0)) o1 1)) ((h_r h o0 2).getD 0)) (Int32.toNatClampNeg (0 : Int32)) (Int32.toNatClampNeg (0 : Int32)) (Int32.toNatClampNeg (nI (h_l h ((h_r h o0 2).getD 0)))))) ((h_r h o1 3).getD 0)) (h_i (p_a (p_i (p_i h o0 0 (h_i h o1 0)) o0 1 (h_i (p_i h o0 0 (h_i h o1 0)) o1 1)) ((h_r h o0 2).getD 0) (va_cpy (h_i (p_i (p_i h o0 0 (h_i h o1 0)) o0 1 (h_i (p_i h o0 0 (h_i h o1 0)) o1 1)) ((h_r h o1 2).getD 0)) (h_i (p_i (p_i h o0 0 (h_i h o1 0)) o0 1 (h_i (p_i h o0 0 (h_i h o1 0)) o1 1)) ((h_r h o0 2).getD 0)) (Int32.toNatClampNeg (0 : Int32)) (Int32.toNatClampNeg (0 : Int32)) (Int32.toNatClampNeg (nI (h_l h ((h_r h o0 2).getD 0)))))) ((h_r h o0 3).getD 0)) (Int32.toNatClampNeg (0 : Int32)) (Int32.toNatClampNeg (0 : Int32)) (Int32.toNatClampNeg (nI (h_l h ((h_r h o0 3).getD 0)))))) ((h_r h o1 4).getD 0)) (h_i (p_a (p_a (p_i (p_i h o0 0 (h_i h o1 0)) o0 1 (h_i (p_i h o0 0 (h_i h o1 0)) o1 1)) ((h_r h o0 2).getD 0) (va_cpy (h_i (p_i (p_i h o0 0 (h_i h o1 0)) o0 1 (h_i (p_i h o0 0 (h_i h o1 0)) o1 1)) ((h_r h o1 2).getD 0)) (h_i (p_i (p_i h o0 0 (h_i h o1 0)) o0 1 (h_i (p_i h o0 0 (h_i h o1 0)) o1 1)) ((h_r h o0 2).getD 0)) (Int32.toNatClampNeg (0 : Int32)) (Int32.toNatClampNeg (0 : Int32)) (Int32.toNatClampNeg (nI (h_l h ((h_r h o0 2).getD 0)))))) ((h_r h o0 3).getD 0) (va_cpy (h_i (p_a (p_i (p_i h o0 0 (h_i h o1 0)) o0 1 (h_i (p_i h o0 0 (h_i h o1 0)) o1 1)) ((h_r h o0 2).getD 0) (va_cpy (h_i (p_i (p_i h o0 0 (h_i h o1 0)) o0 1 (h_i (p_i h o0 0 (h_i h o1 0)) o1 1)) ((h_r h o1 2).getD 0)) (h_i (p_i (p_i h o0 0 (h_i h o1 0)) o0 1 (h_i (p_i h o0 0 (h_i h o1 0)) o1 1)) ((h_r h o0 2).getD 0)) (Int32.toNatClampNeg (0 : Int32)) (Int32.toNatClampNeg (0 : Int32)) (Int32.toNatClampNeg (nI (h_l h ((h_r h o0 2).getD 0)))))) ((h_r h o1 3).getD 0)) (h_i (p_a (p_i (p_i h o0 0 (h_i h o1 0)) o0 1 (h_i (p_i h o0 0 (h_i h o1 0)) o1 1)) ((h_r h o0 2).getD 0) (va_cpy (h_i (p_i (p_i h o0 0 (h_i h o1 0)) o0 1 (h_i (p_i h o0 0 (h_i h o1 0)) o1 1)) ((h_r h o1 2).getD 0)) (h_i (p_i (p_i h o0 0 (h_i h o1 0)) o0 1 (h_i (p_i h o0 0 (h_i h o1 0)) o1 1)) ((h_r h o0 2).getD 0)) (Int32.toNatClampNeg (0 : Int32)) (Int32.toNatClampNeg (0 : Int32)) (Int32.toNatClampNeg (nI (h_l h ((h_r h o0 2).getD 0)))))) ((h_r h o0 3).getD 0)) (Int32.toNatClampNeg (0 : Int32)) (Int32.toNatClampNeg (0 : Int32)) (Int32.toNatClampNeg (nI (h_l h ((h_r h o0 3).getD 0)))))) ((h_r h o0 4).getD 0)) (Int32.toNatClampNeg (0 : Int32)) (Int32.toNatClampNeg (0 : Int32)) (Int32.toNatClampNeg (nI (h_l h ((h_r h o0 4).getD 0)))))))) rfl).trans ?_
  simp only [e0, e1, e2, e3, e4, e5, e6, e7, e8, Option.getD_some, am_all]
  all_goals exact cj_d (lr_is (F_o1.1 0 rfl)) (cj_d (lr_is (F_o0.1 0 rfl)) (cj_d (lr_is (F_o1.1 0 rfl)) (cj_d (lr_is (F_o0.1 0 rfl)) (cj_d (lr_is (F_o1.1 0 rfl)) (cj_d (lr_is (F_o0.1 0 rfl)) (cj_d (lr_is (F_o0.1 0 rfl)) (cj_d (lr_an20 (F_o0.1 1 rfl)) (cj_k Iff.rfl (cj_d (lr_is (F_o1.1 0 rfl)) (cj_d (lr_is (F_o0.1 0 rfl)) (cj_d (lr_is (F_o0.1 0 rfl)) (cj_d (lr_an20 (F_o0.1 2 rfl)) (cj_k Iff.rfl (cj_d (lr_is (F_o1.1 0 rfl)) (cj_d (lr_is (F_o0.1 0 rfl)) (cj_d (lr_is (F_o0.1 0 rfl)) (cj_d (lr_an20 (F_o0.1 3 rfl)) (cj_k Iff.rfl (((am_Y_ret rfl rfl rfl).trans (am_rz rfl)))))))))))))))))))))

theorem b_X1_parentPlace_0 {d : Nat} {Q : Option am_V → am_H → Prop} (h : am_H) (l0 l1 l2 l3 : Option am_V) : ex_ d 29 0 [l0, l1, l2, l3] [] h Q ↔ ex_ d 29 2 [l0, l1, l2, some (v_i (0 : Int32))] [] h Q := by
  unfold ex_
  refine (am_Y_go 2 (ok := []) (g := (2, [l0, l1, l2, some (v_i (0 : Int32))], [], h)) rfl).trans ?_
  all_goals exact Iff.rfl

theorem b_X1_parentPlace_2 {d : Nat} {Q : Option am_V → am_H → Prop} (h : am_H) (x3 : Int32) (o0 : Nat) (x1 : Int32) (l2 : Option am_V) (F_o0 : y_Facts h o0) : ex_ (d + 1) 29 2 [some (v_r (some o0)), some (v_i x1), l2, some (v_i x3)] [] h Q ↔ ex_ d 4 0 [some (v_r (some o0)), some (v_i x1)] [] h (fun r h' => ex_ (d + 1) 29 8 [some (v_r (some o0)), some (v_i x1), l2, some (v_i x3)] (r.toList ++ [v_i x3]) h' Q) := by
  unfold ex_
  refine (am_Y_go 3 (ok := []) (g := (5, [some (v_r (some o0)), some (v_i x1), l2, some (v_i x3)], [v_i x1, v_r (some o0), v_i x3], h)) rfl).trans ?_
  all_goals exact ((am_Y_call (j := 4) (na := 2) (ci := 1) (fl := 0) rfl rfl rfl).trans (cj_d ⟨⟨Nat.le_of_ble_eq_true rfl, Nat.le_of_ble_eq_true rfl, Nat.le_of_ble_eq_true rfl, rfl⟩, Or.inr (Or.inr (show (1 : Nat) < 20 ∧ am_is h (some o0) 1 from ⟨by decide, (lr_is (F_o0.1 0 rfl))⟩))⟩ Iff.rfl))

theorem b_X1_parentPlace_8 {d : Nat} {Q : Option am_V → am_H → Prop} (h : am_H) (s0 : Int32) (s1 : Int32) (l0 l1 l2 l3 : Option am_V) : ex_ d 29 8 [l0, l1, l2, l3] [v_i s0, v_i s1] h Q ↔ if s0 ≤ s1 then ex_ d 29 29 [l0, l1, l2, l3] [] h Q else ex_ d 29 11 [l0, l1, l2, l3] [] h Q := by
  unfold ex_
  refine (am_Y_go 1 (ok := []) (g := (if s0 ≤ s1 then 29 else 11, [l0, l1, l2, l3], [], h)) rfl).trans ?_
  all_goals exact am_Y_if

theorem b_X1_parentPlace_29 {d : Nat} {Q : Option am_V → am_H → Prop} (h : am_H) (l0 l1 l2 l3 : Option am_V) : ex_ d 29 29 [l0, l1, l2, l3] [] h Q ↔ Q (some (v_i (-1 : Int32))) h := by
  unfold ex_
  refine (am_Y_go 1 (ok := []) (g := (30, [l0, l1, l2, l3], [v_i (-1 : Int32)], h)) rfl).trans ?_
  all_goals exact ((am_Y_ret rfl rfl rfl).trans (am_r0))

theorem b_X1_parentPlace_11 {d : Nat} {Q : Option am_V → am_H → Prop} (h : am_H) (o0 : Nat) (x1 : Int32) (x3 : Int32) (l2 : Option am_V) (F_o0 : y_Facts h o0) : ex_ (d + 1) 29 11 [some (v_r (some o0)), some (v_i x1), l2, some (v_i x3)] [] h Q ↔ ex_ d 5 0 [some (v_r (some o0)), some (v_i x1), some (v_i x3)] [] h (fun r h' => ex_ (d + 1) 29 17 [some (v_r (some o0)), some (v_i x1), l2, some (v_i x3)] (r.toList ++ []) h' Q) := by
  unfold ex_
  refine (am_Y_go 3 (ok := []) (g := (14, [some (v_r (some o0)), some (v_i x1), l2, some (v_i x3)], [v_i x3, v_i x1, v_r (some o0)], h)) rfl).trans ?_
  all_goals exact ((am_Y_call (j := 5) (na := 3) (ci := 1) (fl := 0) rfl rfl rfl).trans (cj_d ⟨⟨Nat.le_of_ble_eq_true rfl, Nat.le_of_ble_eq_true rfl, Nat.le_of_ble_eq_true rfl, rfl⟩, Or.inr (Or.inr (show (1 : Nat) < 20 ∧ am_is h (some o0) 1 from ⟨by decide, (lr_is (F_o0.1 0 rfl))⟩))⟩ Iff.rfl))

theorem b_X1_parentPlace_17 {d : Nat} {Q : Option am_V → am_H → Prop} (h : am_H) (s0 : Int32) (x2 : Int32) (l0 l1 l3 : Option am_V) : ex_ d 29 17 [l0, l1, some (v_i x2), l3] [v_i s0] h Q ↔ if ¬ s0 = x2 then ex_ d 29 23 [l0, l1, some (v_i x2), l3] [] h Q else ex_ d 29 21 [l0, l1, some (v_i x2), l3] [] h Q := by
  unfold ex_
  refine (am_Y_go 2 (ok := []) (g := (if ¬ s0 = x2 then 23 else 21, [l0, l1, some (v_i x2), l3], [], h)) rfl).trans ?_
  all_goals exact am_Y_if

theorem b_X1_parentPlace_23 {d : Nat} {Q : Option am_V → am_H → Prop} (h : am_H) (x3 : Int32) (l0 l1 l2 : Option am_V) : ex_ d 29 23 [l0, l1, l2, some (v_i x3)] [] h Q ↔ ex_ d 29 2 [l0, l1, l2, some (v_i (x3 + (1 : Int32)))] [] h Q := by
  unfold ex_
  refine (am_Y_go 2 (ok := []) (g := (2, [l0, l1, l2, some (v_i (x3 + (1 : Int32)))], [], h)) rfl).trans ?_
  all_goals exact Iff.rfl

theorem b_X1_parentPlace_21 {d : Nat} {Q : Option am_V → am_H → Prop} (h : am_H) (x3 : Int32) (l0 l1 l2 : Option am_V) : ex_ d 29 21 [l0, l1, l2, some (v_i x3)] [] h Q ↔ Q (some (v_i x3)) h := by
  unfold ex_
  refine (am_Y_go 1 (ok := []) (g := (22, [l0, l1, l2, some (v_i x3)], [v_i x3], h)) rfl).trans ?_
  all_goals exact ((am_Y_ret rfl rfl rfl).trans (am_r0))

theorem b_X1_listParents_0 {d : Nat} {Q : Option am_V → am_H → Prop} (h : am_H) (l0 l1 l2 l3 l4 l5 : Option am_V) : ex_ d 30 0 [l0, l1, l2, l3, l4, l5] [] h Q ↔ ex_ d 30 6 [l0, l1, l2, l3, some (v_i (0 : Int32)), some (v_i (0 : Int32))] [] h Q := by
  unfold ex_
  refine (am_Y_go 4 (ok := []) (g := (6, [l0, l1, l2, l3, some (v_i (0 : Int32)), some (v_i (0 : Int32))], [], h)) rfl).trans ?_
  all_goals exact Iff.rfl

theorem b_X1_listParents_6 {d : Nat} {Q : Option am_V → am_H → Prop} (h : am_H) (x5 : Int32) (o0 : Nat) (x1 : Int32) (l2 l3 l4 : Option am_V) (F_o0 : y_Facts h o0) : ex_ (d + 1) 30 6 [some (v_r (some o0)), some (v_i x1), l2, l3, l4, some (v_i x5)] [] h Q ↔ ex_ d 4 0 [some (v_r (some o0)), some (v_i x1)] [] h (fun r h' => ex_ (d + 1) 30 13 [some (v_r (some o0)), some (v_i x1), l2, l3, l4, some (v_i x5)] (r.toList ++ [v_i x5]) h' Q) := by
  unfold ex_
  refine (am_Y_go 3 (ok := []) (g := (10, [some (v_r (some o0)), some (v_i x1), l2, l3, l4, some (v_i x5)], [v_i x1, v_r (some o0), v_i x5], h)) rfl).trans ?_
  all_goals exact ((am_Y_call (j := 4) (na := 2) (ci := 1) (fl := 0) rfl rfl rfl).trans (cj_d ⟨⟨Nat.le_of_ble_eq_true rfl, Nat.le_of_ble_eq_true rfl, Nat.le_of_ble_eq_true rfl, rfl⟩, Or.inr (Or.inr (show (1 : Nat) < 20 ∧ am_is h (some o0) 1 from ⟨by decide, (lr_is (F_o0.1 0 rfl))⟩))⟩ Iff.rfl))

theorem b_X1_listParents_13 {d : Nat} {Q : Option am_V → am_H → Prop} (h : am_H) (s0 : Int32) (s1 : Int32) (l0 l1 l2 l3 l4 l5 : Option am_V) : ex_ d 30 13 [l0, l1, l2, l3, l4, l5] [v_i s0, v_i s1] h Q ↔ if s0 ≤ s1 then ex_ d 30 52 [l0, l1, l2, l3, l4, l5] [] h Q else ex_ d 30 16 [l0, l1, l2, l3, l4, l5] [] h Q := by
  unfold ex_
  refine (am_Y_go 1 (ok := []) (g := (if s0 ≤ s1 then 52 else 16, [l0, l1, l2, l3, l4, l5], [], h)) rfl).trans ?_
  all_goals exact am_Y_if

theorem b_X1_listParents_52 {d : Nat} {Q : Option am_V → am_H → Prop} (h : am_H) (x4 : Int32) (l0 l1 l2 l3 l5 : Option am_V) : ex_ d 30 52 [l0, l1, l2, l3, some (v_i x4), l5] [] h Q ↔ Q (some (v_i x4)) h := by
  unfold ex_
  refine (am_Y_go 1 (ok := []) (g := (54, [l0, l1, l2, l3, some (v_i x4), l5], [v_i x4], h)) rfl).trans ?_
  all_goals exact ((am_Y_ret rfl rfl rfl).trans (am_r0))

theorem b_X1_listParents_16 {d : Nat} {Q : Option am_V → am_H → Prop} (h : am_H) (x4 : Int32) (o3 : Nat) (l0 l1 l2 l5 : Option am_V) {n_o3 : Nat} (A_o3 : y_arr h o3 20 n_o3) : ex_ d 30 16 [l0, l1, l2, some (v_r (some o3)), some (v_i x4), l5] [] h Q ↔ if (nI n_o3) ≤ x4 then ex_ d 30 52 [l0, l1, l2, some (v_r (some o3)), some (v_i x4), l5] [] h Q else ex_ d 30 23 [l0, l1, l2, some (v_r (some o3)), some (v_i x4), l5] [] h Q := by
  have e0 : h_l h o3 = n_o3 := (lb_l A_o3)
  unfold ex_
  refine (am_Y_go 4 (ok := [am_an h (some o3)]) (g := (if (nI (h_l h o3)) ≤ x4 then 52 else 23, [l0, l1, l2, some (v_r (some o3)), some (v_i x4), l5], [], h)) rfl).trans ?_
  simp only [e0, Option.getD_some, am_all]
  all_goals exact cj_d (lb_an20 A_o3) (am_Y_if)

theorem b_X1_listParents_23 {d : Nat} {Q : Option am_V → am_H → Prop} (h : am_H) (x2 : Int32) (x5 : Int32) (l0 l1 l3 l4 : Option am_V) : ex_ d 30 23 [l0, l1, some (v_i x2), l3, l4, some (v_i x5)] [] h Q ↔ if ¬ ((x2 >>> (x5 &&& 31)) &&& (1 : Int32)) = 0 then ex_ d 30 46 [l0, l1, some (v_i x2), l3, l4, some (v_i x5)] [] h Q else ex_ d 30 32 [l0, l1, some (v_i x2), l3, l4, some (v_i x5)] [] h Q := by
  unfold ex_
  refine (am_Y_go 6 (ok := []) (g := (if ¬ ((x2 >>> (x5 &&& 31)) &&& (1 : Int32)) = 0 then 46 else 32, [l0, l1, some (v_i x2), l3, l4, some (v_i x5)], [], h)) rfl).trans ?_
  all_goals exact am_Y_if

theorem b_X1_listParents_46 {d : Nat} {Q : Option am_V → am_H → Prop} (h : am_H) (x5 : Int32) (l0 l1 l2 l3 l4 : Option am_V) : ex_ d 30 46 [l0, l1, l2, l3, l4, some (v_i x5)] [] h Q ↔ ex_ d 30 6 [l0, l1, l2, l3, l4, some (v_i (x5 + (1 : Int32)))] [] h Q := by
  unfold ex_
  refine (am_Y_go 2 (ok := []) (g := (6, [l0, l1, l2, l3, l4, some (v_i (x5 + (1 : Int32)))], [], h)) rfl).trans ?_
  all_goals exact Iff.rfl

theorem b_X1_listParents_32 {d : Nat} {Q : Option am_V → am_H → Prop} (h : am_H) (o3 : Nat) (x4 : Int32) (o0 : Nat) (x1 : Int32) (x5 : Int32) (l2 : Option am_V) {n_o3 : Nat} (A_o3 : y_arr h o3 20 n_o3) (F_o0 : y_Facts h o0) : ex_ (d + 1) 30 32 [some (v_r (some o0)), some (v_i x1), l2, some (v_r (some o3)), some (v_i x4), some (v_i x5)] [] h Q ↔ ex_ d 5 0 [some (v_r (some o0)), some (v_i x1), some (v_i x5)] [] h (fun r h' => ex_ (d + 1) 30 42 [some (v_r (some o0)), some (v_i x1), l2, some (v_r (some o3)), some (v_i x4), some (v_i x5)] (r.toList ++ [v_i x4, v_r (some o3)]) h' Q) := by
  unfold ex_
  refine (am_Y_go 5 (ok := []) (g := (39, [some (v_r (some o0)), some (v_i x1), l2, some (v_r (some o3)), some (v_i x4), some (v_i x5)], [v_i x5, v_i x1, v_r (some o0), v_i x4, v_r (some o3)], h)) rfl).trans ?_
  all_goals exact ((am_Y_call (j := 5) (na := 3) (ci := 1) (fl := 0) rfl rfl rfl).trans (cj_d ⟨⟨Nat.le_of_ble_eq_true rfl, Nat.le_of_ble_eq_true rfl, Nat.le_of_ble_eq_true rfl, rfl⟩, Or.inr (Or.inr (show (1 : Nat) < 20 ∧ am_is h (some o0) 1 from ⟨by decide, (lr_is (F_o0.1 0 rfl))⟩))⟩ Iff.rfl))

theorem b_X1_listParents_42 {d : Nat} {Q : Option am_V → am_H → Prop} (h : am_H) (s0 : Int32) (s1 : Int32) (t2 : Nat) (x4 : Int32) (x5 : Int32) (l0 l1 l2 l3 : Option am_V) {n_t2 : Nat} (A_t2 : y_arr h t2 20 n_t2) : ex_ d 30 42 [l0, l1, l2, l3, some (v_i x4), some (v_i x5)] [v_i s0, v_i s1, v_r (some t2)] h Q ↔ vp_in s1 n_t2 ∧ ex_ d 30 6 [l0, l1, l2, l3, some (v_i (x4 + (1 : Int32))), some (v_i (x5 + (1 : Int32)))] [] (p_i h t2 (Int32.toNatClampNeg s1) s0) Q := by
  unfold ex_
  refine (am_Y_go 4 (ok := [am_ar h (some t2) 20 s1]) (g := (6, [l0, l1, l2, l3, some (v_i (x4 + (1 : Int32))), some (v_i (x5 + (1 : Int32)))], [], (p_i h t2 (Int32.toNatClampNeg s1) s0))) rfl).trans ?_
  simp only [am_all]
  all_goals exact cj_k (lb_ar A_t2) (Iff.rfl)

theorem b_X1_definitionAt_0 {d : Nat} {Q : Option am_V → am_H → Prop} (h : am_H) (x1 : Int32) (l0 l2 : Option am_V) : ex_ d 32 0 [l0, some (v_i x1), l2] [] h Q ↔ if x1 < 0 then ex_ d 32 31 [l0, some (v_i x1), l2] [] h Q else ex_ d 32 4 [l0, some (v_i x1), l2] [] h Q := by
  unfold ex_
  refine (am_Y_go 2 (ok := []) (g := (if x1 < 0 then 31 else 4, [l0, some (v_i x1), l2], [], h)) rfl).trans ?_
  all_goals exact am_Y_if

theorem b_X1_definitionAt_31 {d : Nat} {Q : Option am_V → am_H → Prop} (h : am_H) (l0 l1 l2 : Option am_V) : ex_ d 32 31 [l0, l1, l2] [] h Q ↔ Q (some (v_i (0 : Int32))) h := by
  unfold ex_
  refine (am_Y_go 1 (ok := []) (g := (32, [l0, l1, l2], [v_i (0 : Int32)], h)) rfl).trans ?_
  all_goals exact ((am_Y_ret rfl rfl rfl).trans (am_r0))

theorem b_X1_definitionAt_4 {d : Nat} {Q : Option am_V → am_H → Prop} (h : am_H) (x1 : Int32) (l0 l2 : Option am_V) : ex_ d 32 4 [l0, some (v_i x1), l2] [] h Q ↔ if (10 : Int32) ≤ x1 then ex_ d 32 31 [l0, some (v_i x1), l2] [] h Q else ex_ d 32 10 [l0, some (v_i x1), l2] [] h Q := by
  unfold ex_
  refine (am_Y_go 3 (ok := []) (g := (if (10 : Int32) ≤ x1 then 31 else 10, [l0, some (v_i x1), l2], [], h)) rfl).trans ?_
  all_goals exact am_Y_if

theorem b_X1_definitionAt_10 {d : Nat} {Q : Option am_V → am_H → Prop} (h : am_H) (x2 : Int32) (l0 l1 : Option am_V) : ex_ (d + 1) 32 10 [l0, l1, some (v_i x2)] [] h Q ↔ ex_ d 31 0 [some (v_i x2)] [] h (fun r h' => ex_ (d + 1) 32 14 [l0, l1, some (v_i x2)] (r.toList ++ []) h' Q) := by
  unfold ex_
  refine (am_Y_go 1 (ok := []) (g := (11, [l0, l1, some (v_i x2)], [v_i x2], h)) rfl).trans ?_
  all_goals exact ((am_Y_call (j := 31) (na := 1) (ci := 11) (fl := 3) rfl rfl rfl).trans (cj_d ⟨⟨Nat.le_of_ble_eq_true rfl, Nat.le_of_ble_eq_true rfl, Nat.le_of_ble_eq_true rfl, rfl⟩, Or.inr (Or.inl rfl)⟩ Iff.rfl))

theorem b_X1_definitionAt_14 {d : Nat} {Q : Option am_V → am_H → Prop} (h : am_H) (s0 : Int32) (l0 l1 l2 : Option am_V) : ex_ d 32 14 [l0, l1, l2] [v_i s0] h Q ↔ if s0 = 0 then ex_ d 32 31 [l0, l1, l2] [] h Q else ex_ d 32 17 [l0, l1, l2] [] h Q := by
  unfold ex_
  refine (am_Y_go 1 (ok := []) (g := (if s0 = 0 then 31 else 17, [l0, l1, l2], [], h)) rfl).trans ?_
  all_goals exact am_Y_if

theorem b_X1_definitionAt_17 {d : Nat} {Q : Option am_V → am_H → Prop} (h : am_H) (o0 : Nat) (x1 : Int32) (x2 : Int32) (F_o0 : y_Facts h o0) : ex_ d 32 17 [some (v_r (some o0)), some (v_i x1), some (v_i x2)] [] h Q ↔ vp_in ((x1 * (8 : Int32)) + x2) 80 ∧ Q (some (v_i (h_i h (o0 + 3) (Int32.toNatClampNeg ((x1 * (8 : Int32)) + x2))))) h := by
  have e0 : h_r h o0 4 = some (o0 + 3) := F_o0.2 (0, 4, 3) (by decide)
  unfold ex_
  refine (am_Y_go 9 (ok := [am_is h (some o0) 1, am_ar h ((h_r h o0 4)) 20 ((x1 * (8 : Int32)) + x2)]) (g := (32, [some (v_r (some o0)), some (v_i x1), some (v_i x2)], [v_i (h_i h ((h_r h o0 4).getD 0) (Int32.toNatClampNeg ((x1 * (8 : Int32)) + x2)))], h)) rfl).trans ?_
  simp only [e0, Option.getD_some, am_all]
  all_goals exact cj_d (lr_is (F_o0.1 0 rfl)) (cj_k (lr_ar (F_o0.1 3 rfl)) (((am_Y_ret rfl rfl rfl).trans (am_r0))))

theorem b_X1_links_0 {d : Nat} {Q : Option am_V → am_H → Prop} (h : am_H) (l0 l1 l2 : Option am_V) : ex_ d 33 0 [l0, l1, l2] [] h Q ↔ ex_ d 33 4 [l0, some (v_i (0 : Int32)), some (v_i (0 : Int32))] [] h Q := by
  unfold ex_
  refine (am_Y_go 4 (ok := []) (g := (4, [l0, some (v_i (0 : Int32)), some (v_i (0 : Int32))], [], h)) rfl).trans ?_
  all_goals exact Iff.rfl

theorem b_X1_links_4 {d : Nat} {Q : Option am_V → am_H → Prop} (h : am_H) (x2 : Int32) (o0 : Nat) (l1 : Option am_V) (F_o0 : y_Facts h o0) : ex_ d 33 4 [some (v_r (some o0)), l1, some (v_i x2)] [] h Q ↔ if (h_i h o0 0) ≤ x2 then ex_ d 33 26 [some (v_r (some o0)), l1, some (v_i x2)] [] h Q else ex_ d 33 12 [some (v_r (some o0)), l1, some (v_i x2)] [] h Q := by
  unfold ex_
  refine (am_Y_go 4 (ok := [am_is h (some o0) 1]) (g := (if (h_i h o0 0) ≤ x2 then 26 else 12, [some (v_r (some o0)), l1, some (v_i x2)], [], h)) rfl).trans ?_
  simp only [am_all]
  all_goals exact cj_d (lr_is (F_o0.1 0 rfl)) (am_Y_if)

theorem b_X1_links_26 {d : Nat} {Q : Option am_V → am_H → Prop} (h : am_H) (x1 : Int32) (l0 l2 : Option am_V) : ex_ d 33 26 [l0, some (v_i x1), l2] [] h Q ↔ Q (some (v_i x1)) h := by
  unfold ex_
  refine (am_Y_go 1 (ok := []) (g := (27, [l0, some (v_i x1), l2], [v_i x1], h)) rfl).trans ?_
  all_goals exact ((am_Y_ret rfl rfl rfl).trans (am_r0))

theorem b_X1_links_12 {d : Nat} {Q : Option am_V → am_H → Prop} (h : am_H) (x1 : Int32) (o0 : Nat) (x2 : Int32) (F_o0 : y_Facts h o0) : ex_ (d + 1) 33 12 [some (v_r (some o0)), some (v_i x1), some (v_i x2)] [] h Q ↔ ex_ d 4 0 [some (v_r (some o0)), some (v_i x2)] [] h (fun r h' => ex_ (d + 1) 33 18 [some (v_r (some o0)), some (v_i x1), some (v_i x2)] (r.toList ++ [v_i x1]) h' Q) := by
  unfold ex_
  refine (am_Y_go 3 (ok := []) (g := (15, [some (v_r (some o0)), some (v_i x1), some (v_i x2)], [v_i x2, v_r (some o0), v_i x1], h)) rfl).trans ?_
  all_goals exact ((am_Y_call (j := 4) (na := 2) (ci := 1) (fl := 0) rfl rfl rfl).trans (cj_d ⟨⟨Nat.le_of_ble_eq_true rfl, Nat.le_of_ble_eq_true rfl, Nat.le_of_ble_eq_true rfl, rfl⟩, Or.inr (Or.inr (show (1 : Nat) < 20 ∧ am_is h (some o0) 1 from ⟨by decide, (lr_is (F_o0.1 0 rfl))⟩))⟩ Iff.rfl))

theorem b_X1_links_18 {d : Nat} {Q : Option am_V → am_H → Prop} (h : am_H) (s0 : Int32) (s1 : Int32) (x2 : Int32) (l0 l1 : Option am_V) : ex_ d 33 18 [l0, l1, some (v_i x2)] [v_i s0, v_i s1] h Q ↔ ex_ d 33 4 [l0, some (v_i (s1 + s0)), some (v_i (x2 + (1 : Int32)))] [] h Q := by
  unfold ex_
  refine (am_Y_go 4 (ok := []) (g := (4, [l0, some (v_i (s1 + s0)), some (v_i (x2 + (1 : Int32)))], [], h)) rfl).trans ?_
  all_goals exact Iff.rfl

theorem b_X1_definitionCount_0 {d : Nat} {Q : Option am_V → am_H → Prop} (h : am_H) (o0 : Nat) (l1 l2 l3 l4 l5 : Option am_V) (F_o0 : y_Facts h o0) : ex_ d 34 0 [some (v_r (some o0)), l1, l2, l3, l4, l5] [] h Q ↔ ex_ d 34 13 [some (v_r (some o0)), some (v_i (0 : Int32)), some (v_r (some (o0 + 3))), some (v_i (nI 80)), some (v_i (0 : Int32)), l5] [] h Q := by
  have e0 : h_r h o0 4 = some (o0 + 3) := F_o0.2 (0, 4, 3) (by decide)
  have e1 : h_l h (o0 + 3) = 80 := (lr_l (F_o0.1 3 rfl))
  unfold ex_
  refine (am_Y_go 10 (ok := [am_is h (some o0) 1, am_an h ((h_r h o0 4))]) (g := (13, [some (v_r (some o0)), some (v_i (0 : Int32)), some (v_r ((h_r h o0 4))), some (v_i (nI (h_l h ((h_r h o0 4).getD 0)))), some (v_i (0 : Int32)), l5], [], h)) rfl).trans ?_
  simp only [e0, e1, Option.getD_some, am_all]
  all_goals exact cj_d (lr_is (F_o0.1 0 rfl)) (cj_d (lr_an20 (F_o0.1 3 rfl)) (Iff.rfl))

theorem b_X1_definitionCount_13 {d : Nat} {Q : Option am_V → am_H → Prop} (h : am_H) (x4 : Int32) (x3 : Int32) (l0 l1 l2 l5 : Option am_V) : ex_ d 34 13 [l0, l1, l2, some (v_i x3), some (v_i x4), l5] [] h Q ↔ if x3 ≤ x4 then ex_ d 34 39 [l0, l1, l2, some (v_i x3), some (v_i x4), l5] [] h Q else ex_ d 34 19 [l0, l1, l2, some (v_i x3), some (v_i x4), l5] [] h Q := by
  unfold ex_
  refine (am_Y_go 3 (ok := []) (g := (if x3 ≤ x4 then 39 else 19, [l0, l1, l2, some (v_i x3), some (v_i x4), l5], [], h)) rfl).trans ?_
  all_goals exact am_Y_if

theorem b_X1_definitionCount_39 {d : Nat} {Q : Option am_V → am_H → Prop} (h : am_H) (x1 : Int32) (l0 l2 l3 l4 l5 : Option am_V) : ex_ d 34 39 [l0, some (v_i x1), l2, l3, l4, l5] [] h Q ↔ Q (some (v_i x1)) h := by
  unfold ex_
  refine (am_Y_go 1 (ok := []) (g := (40, [l0, some (v_i x1), l2, l3, l4, l5], [v_i x1], h)) rfl).trans ?_
  all_goals exact ((am_Y_ret rfl rfl rfl).trans (am_r0))

theorem b_X1_definitionCount_19 {d : Nat} {Q : Option am_V → am_H → Prop} (h : am_H) (x2 : Option Nat) (x4 : Int32) (l0 l1 l3 l5 : Option am_V) : ex_ d 34 19 [l0, l1, some (v_r x2), l3, some (v_i x4), l5] [] h Q ↔ ex_ d 34 22 [l0, l1, some (v_r x2), l3, some (v_i x4), l5] [v_i x4, v_r x2] h Q := by
  unfold ex_
  refine (am_Y_go 2 (ok := []) (g := (22, [l0, l1, some (v_r x2), l3, some (v_i x4), l5], [v_i x4, v_r x2], h)) rfl).trans ?_
  all_goals exact Iff.rfl

theorem b_X1_definitionCount_22 {d : Nat} {Q : Option am_V → am_H → Prop} (h : am_H) (s0 : Int32) (t1 : Nat) (l0 l1 l2 l3 l4 l5 : Option am_V) {n_t1 : Nat} (A_t1 : y_arr h t1 20 n_t1) : ex_ d 34 22 [l0, l1, l2, l3, l4, l5] [v_i s0, v_r (some t1)] h Q ↔ vp_in s0 n_t1 ∧ (if (h_i h t1 (Int32.toNatClampNeg s0)) = 0 then ex_ d 34 33 [l0, l1, l2, l3, l4, some (v_i (h_i h t1 (Int32.toNatClampNeg s0)))] [] h Q else ex_ d 34 30 [l0, l1, l2, l3, l4, some (v_i (h_i h t1 (Int32.toNatClampNeg s0)))] [] h Q) := by
  unfold ex_
  refine (am_Y_go 4 (ok := [am_ar h (some t1) 20 s0]) (g := (if (h_i h t1 (Int32.toNatClampNeg s0)) = 0 then 33 else 30, [l0, l1, l2, l3, l4, some (v_i (h_i h t1 (Int32.toNatClampNeg s0)))], [], h)) rfl).trans ?_
  simp only [am_all]
  all_goals exact cj_k (lb_ar A_t1) (am_Y_if)

theorem b_X1_definitionCount_33 {d : Nat} {Q : Option am_V → am_H → Prop} (h : am_H) (x4 : Int32) (l0 l1 l2 l3 l5 : Option am_V) : ex_ d 34 33 [l0, l1, l2, l3, some (v_i x4), l5] [] h Q ↔ ex_ d 34 13 [l0, l1, l2, l3, some (v_i (x4 + (1 : Int32))), l5] [] h Q := by
  unfold ex_
  refine (am_Y_go 2 (ok := []) (g := (13, [l0, l1, l2, l3, some (v_i (x4 + (1 : Int32))), l5], [], h)) rfl).trans ?_
  all_goals exact Iff.rfl

theorem b_X1_definitionCount_30 {d : Nat} {Q : Option am_V → am_H → Prop} (h : am_H) (x1 : Int32) (x4 : Int32) (l0 l2 l3 l5 : Option am_V) : ex_ d 34 30 [l0, some (v_i x1), l2, l3, some (v_i x4), l5] [] h Q ↔ ex_ d 34 13 [l0, some (v_i (x1 + (1 : Int32))), l2, l3, some (v_i (x4 + (1 : Int32))), l5] [] h Q := by
  unfold ex_
  refine (am_Y_go 3 (ok := []) (g := (13, [l0, some (v_i (x1 + (1 : Int32))), l2, l3, some (v_i (x4 + (1 : Int32))), l5], [], h)) rfl).trans ?_
  all_goals exact Iff.rfl

theorem b_X1_appendParent_0 {d : Nat} {Q : Option am_V → am_H → Prop} (h : am_H) (o0 : Nat) (x1 : Int32) (l2 l3 : Option am_V) (F_o0 : y_Facts h o0) : ex_ (d + 1) 35 0 [some (v_r (some o0)), some (v_i x1), l2, l3] [] h Q ↔ ex_ d 4 0 [some (v_r (some o0)), some (v_i x1)] [] h (fun r h' => ex_ (d + 1) 35 5 [some (v_r (some o0)), some (v_i x1), l2, l3] (r.toList ++ []) h' Q) := by
  unfold ex_
  refine (am_Y_go 2 (ok := []) (g := (2, [some (v_r (some o0)), some (v_i x1), l2, l3], [v_i x1, v_r (some o0)], h)) rfl).trans ?_
  all_goals exact ((am_Y_call (j := 4) (na := 2) (ci := 1) (fl := 0) rfl rfl rfl).trans (cj_d ⟨⟨Nat.le_of_ble_eq_true rfl, Nat.le_of_ble_eq_true rfl, Nat.le_of_ble_eq_true rfl, rfl⟩, Or.inr (Or.inr (show (1 : Nat) < 20 ∧ am_is h (some o0) 1 from ⟨by decide, (lr_is (F_o0.1 0 rfl))⟩))⟩ Iff.rfl))

theorem b_X1_appendParent_5 {d : Nat} {Q : Option am_V → am_H → Prop} (h : am_H) (s0 : Int32) (x1 : Int32) (l0 l2 l3 : Option am_V) : ex_ d 35 5 [l0, some (v_i x1), l2, l3] [v_i s0] h Q ↔ if x1 < 0 then ex_ d 35 41 [l0, some (v_i x1), l2, some (v_i s0)] [] h Q else ex_ d 35 10 [l0, some (v_i x1), l2, some (v_i s0)] [] h Q := by
  unfold ex_
  refine (am_Y_go 3 (ok := []) (g := (if x1 < 0 then 41 else 10, [l0, some (v_i x1), l2, some (v_i s0)], [], h)) rfl).trans ?_
  all_goals exact am_Y_if

theorem b_X1_appendParent_41 {d : Nat} {Q : Option am_V → am_H → Prop} (h : am_H) (l0 l1 l2 l3 : Option am_V) : ex_ d 35 41 [l0, l1, l2, l3] [] h Q ↔ Q (none) h := by
  unfold ex_
  exact ((am_Y_ret rfl rfl rfl).trans (am_rz rfl))

theorem b_X1_appendParent_10 {d : Nat} {Q : Option am_V → am_H → Prop} (h : am_H) (x1 : Int32) (l0 l2 l3 : Option am_V) : ex_ d 35 10 [l0, some (v_i x1), l2, l3] [] h Q ↔ if (10 : Int32) ≤ x1 then ex_ d 35 41 [l0, some (v_i x1), l2, l3] [] h Q else ex_ d 35 16 [l0, some (v_i x1), l2, l3] [] h Q := by
  unfold ex_
  refine (am_Y_go 3 (ok := []) (g := (if (10 : Int32) ≤ x1 then 41 else 16, [l0, some (v_i x1), l2, l3], [], h)) rfl).trans ?_
  all_goals exact am_Y_if

theorem b_X1_appendParent_16 {d : Nat} {Q : Option am_V → am_H → Prop} (h : am_H) (x3 : Int32) (l0 l1 l2 : Option am_V) : ex_ d 35 16 [l0, l1, l2, some (v_i x3)] [] h Q ↔ if (4 : Int32) ≤ x3 then ex_ d 35 41 [l0, l1, l2, some (v_i x3)] [] h Q else ex_ d 35 21 [l0, l1, l2, some (v_i x3)] [] h Q := by
  unfold ex_
  refine (am_Y_go 3 (ok := []) (g := (if (4 : Int32) ≤ x3 then 41 else 21, [l0, l1, l2, some (v_i x3)], [], h)) rfl).trans ?_
  all_goals exact am_Y_if

theorem b_X1_appendParent_21 {d : Nat} {Q : Option am_V → am_H → Prop} (h : am_H) (o0 : Nat) (x1 : Int32) (x3 : Int32) (x2 : Int32) (F_o0 : y_Facts h o0) : ex_ d 35 21 [some (v_r (some o0)), some (v_i x1), some (v_i x2), some (v_i x3)] [] h Q ↔ vp_in ((x1 * (4 : Int32)) + x3) 40 ∧ vp_in x1 10 ∧ Q (none) (p_i (p_i h (o0 + 2) (Int32.toNatClampNeg ((x1 * (4 : Int32)) + x3)) x2) (o0 + 1) (Int32.toNatClampNeg x1) (x3 + (1 : Int32))) := by
  have e0 : h_r h o0 3 = some (o0 + 2) := F_o0.2 (0, 3, 2) (by decide)
  have e1 : h_r h o0 2 = some (o0 + 1) := F_o0.2 (0, 2, 1) (by decide)
  unfold ex_
  refine (am_Y_go 16 (ok := [am_is h (some o0) 1, am_ar h ((h_r h o0 3)) 20 ((x1 * (4 : Int32)) + x3), am_is h (some o0) 1, am_ar h ((h_r h o0 2)) 20 x1]) (g := (41, [some (v_r (some o0)), some (v_i x1), some (v_i x2), some (v_i x3)], [], (p_i (p_i h ((h_r h o0 3).getD 0) (Int32.toNatClampNeg ((x1 * (4 : Int32)) + x3)) x2) ((h_r h o0 2).getD 0) (Int32.toNatClampNeg x1) (x3 + (1 : Int32))))) rfl).trans ?_
  simp only [e0, e1, Option.getD_some, am_all]
  all_goals exact cj_d (lr_is (F_o0.1 0 rfl)) (cj_k (lr_ar (F_o0.1 2 rfl)) (cj_d (lr_is (F_o0.1 0 rfl)) (cj_k (lr_ar (F_o0.1 1 rfl)) (((am_Y_ret rfl rfl rfl).trans (am_rz rfl))))))

theorem b_X1_addParent_0 {d : Nat} {Q : Option am_V → am_H → Prop} (h : am_H) (o0 : Nat) (x1 : Int32) (l2 : Option am_V) (F_o0 : y_Facts h o0) : ex_ (d + 1) 36 0 [some (v_r (some o0)), some (v_i x1), l2] [] h Q ↔ ex_ d 3 0 [some (v_r (some o0)), some (v_i x1)] [] h (fun r h' => ex_ (d + 1) 36 5 [some (v_r (some o0)), some (v_i x1), l2] (r.toList ++ []) h' Q) := by
  unfold ex_
  refine (am_Y_go 2 (ok := []) (g := (2, [some (v_r (some o0)), some (v_i x1), l2], [v_i x1, v_r (some o0)], h)) rfl).trans ?_
  all_goals exact ((am_Y_call (j := 3) (na := 2) (ci := 1) (fl := 0) rfl rfl rfl).trans (cj_d ⟨⟨Nat.le_of_ble_eq_true rfl, Nat.le_of_ble_eq_true rfl, Nat.le_of_ble_eq_true rfl, rfl⟩, Or.inr (Or.inr (show (1 : Nat) < 20 ∧ am_is h (some o0) 1 from ⟨by decide, (lr_is (F_o0.1 0 rfl))⟩))⟩ Iff.rfl))

theorem b_X1_addParent_5 {d : Nat} {Q : Option am_V → am_H → Prop} (h : am_H) (s0 : Int32) (l0 l1 l2 : Option am_V) : ex_ d 36 5 [l0, l1, l2] [v_i s0] h Q ↔ if s0 = 0 then ex_ d 36 17 [l0, l1, l2] [] h Q else ex_ d 36 8 [l0, l1, l2] [] h Q := by
  unfold ex_
  refine (am_Y_go 1 (ok := []) (g := (if s0 = 0 then 17 else 8, [l0, l1, l2], [], h)) rfl).trans ?_
  all_goals exact am_Y_if

theorem b_X1_addParent_17 {d : Nat} {Q : Option am_V → am_H → Prop} (h : am_H) (l0 l1 l2 : Option am_V) : ex_ d 36 17 [l0, l1, l2] [] h Q ↔ Q (some (v_i (1 : Int32))) h := by
  unfold ex_
  refine (am_Y_go 1 (ok := []) (g := (18, [l0, l1, l2], [v_i (1 : Int32)], h)) rfl).trans ?_
  all_goals exact ((am_Y_ret rfl rfl rfl).trans (am_r0))

theorem b_X1_addParent_8 {d : Nat} {Q : Option am_V → am_H → Prop} (h : am_H) (x2 : Int32) (l0 l1 : Option am_V) : ex_ d 36 8 [l0, l1, some (v_i x2)] [] h Q ↔ if x2 < 0 then ex_ d 36 17 [l0, l1, some (v_i x2)] [] h Q else ex_ d 36 12 [l0, l1, some (v_i x2)] [] h Q := by
  unfold ex_
  refine (am_Y_go 2 (ok := []) (g := (if x2 < 0 then 17 else 12, [l0, l1, some (v_i x2)], [], h)) rfl).trans ?_
  all_goals exact am_Y_if

theorem b_X1_addParent_12 {d : Nat} {Q : Option am_V → am_H → Prop} (h : am_H) (x2 : Int32) (x1 : Int32) (l0 : Option am_V) : ex_ d 36 12 [l0, some (v_i x1), some (v_i x2)] [] h Q ↔ if x2 < x1 then ex_ d 36 19 [l0, some (v_i x1), some (v_i x2)] [] h Q else ex_ d 36 17 [l0, some (v_i x1), some (v_i x2)] [] h Q := by
  unfold ex_
  refine (am_Y_go 3 (ok := []) (g := (if x2 < x1 then 19 else 17, [l0, some (v_i x1), some (v_i x2)], [], h)) rfl).trans ?_
  all_goals exact am_Y_if

theorem b_X1_addParent_19 {d : Nat} {Q : Option am_V → am_H → Prop} (h : am_H) (o0 : Nat) (x1 : Int32) (x2 : Int32) (F_o0 : y_Facts h o0) : ex_ (d + 1) 36 19 [some (v_r (some o0)), some (v_i x1), some (v_i x2)] [] h Q ↔ ex_ d 29 0 [some (v_r (some o0)), some (v_i x1), some (v_i x2), none] [] h (fun r h' => ex_ (d + 1) 36 25 [some (v_r (some o0)), some (v_i x1), some (v_i x2)] (r.toList ++ []) h' Q) := by
  unfold ex_
  refine (am_Y_go 3 (ok := []) (g := (22, [some (v_r (some o0)), some (v_i x1), some (v_i x2)], [v_i x2, v_i x1, v_r (some o0)], h)) rfl).trans ?_
  all_goals exact ((am_Y_call (j := 29) (na := 3) (ci := 1) (fl := 0) rfl rfl rfl).trans (cj_d ⟨⟨Nat.le_of_ble_eq_true rfl, Nat.le_of_ble_eq_true rfl, Nat.le_of_ble_eq_true rfl, rfl⟩, Or.inr (Or.inr (show (1 : Nat) < 20 ∧ am_is h (some o0) 1 from ⟨by decide, (lr_is (F_o0.1 0 rfl))⟩))⟩ Iff.rfl))

theorem b_X1_addParent_25 {d : Nat} {Q : Option am_V → am_H → Prop} (h : am_H) (s0 : Int32) (l0 l1 l2 : Option am_V) : ex_ d 36 25 [l0, l1, l2] [v_i s0] h Q ↔ if ¬ s0 = (-1 : Int32) then ex_ d 36 38 [l0, l1, l2] [] h Q else ex_ d 36 29 [l0, l1, l2] [] h Q := by
  unfold ex_
  refine (am_Y_go 2 (ok := []) (g := (if ¬ s0 = (-1 : Int32) then 38 else 29, [l0, l1, l2], [], h)) rfl).trans ?_
  all_goals exact am_Y_if

theorem b_X1_addParent_38 {d : Nat} {Q : Option am_V → am_H → Prop} (h : am_H) (l0 l1 l2 : Option am_V) : ex_ d 36 38 [l0, l1, l2] [] h Q ↔ Q (some (v_i (2 : Int32))) h := by
  unfold ex_
  refine (am_Y_go 1 (ok := []) (g := (39, [l0, l1, l2], [v_i (2 : Int32)], h)) rfl).trans ?_
  all_goals exact ((am_Y_ret rfl rfl rfl).trans (am_r0))

theorem b_X1_addParent_29 {d : Nat} {Q : Option am_V → am_H → Prop} (h : am_H) (o0 : Nat) (x1 : Int32) (l2 : Option am_V) (F_o0 : y_Facts h o0) : ex_ (d + 1) 36 29 [some (v_r (some o0)), some (v_i x1), l2] [] h Q ↔ ex_ d 4 0 [some (v_r (some o0)), some (v_i x1)] [] h (fun r h' => ex_ (d + 1) 36 34 [some (v_r (some o0)), some (v_i x1), l2] (r.toList ++ []) h' Q) := by
  unfold ex_
  refine (am_Y_go 2 (ok := []) (g := (31, [some (v_r (some o0)), some (v_i x1), l2], [v_i x1, v_r (some o0)], h)) rfl).trans ?_
  all_goals exact ((am_Y_call (j := 4) (na := 2) (ci := 1) (fl := 0) rfl rfl rfl).trans (cj_d ⟨⟨Nat.le_of_ble_eq_true rfl, Nat.le_of_ble_eq_true rfl, Nat.le_of_ble_eq_true rfl, rfl⟩, Or.inr (Or.inr (show (1 : Nat) < 20 ∧ am_is h (some o0) 1 from ⟨by decide, (lr_is (F_o0.1 0 rfl))⟩))⟩ Iff.rfl))

theorem b_X1_addParent_34 {d : Nat} {Q : Option am_V → am_H → Prop} (h : am_H) (s0 : Int32) (l0 l1 l2 : Option am_V) : ex_ d 36 34 [l0, l1, l2] [v_i s0] h Q ↔ if s0 < (4 : Int32) then ex_ d 36 40 [l0, l1, l2] [] h Q else ex_ d 36 38 [l0, l1, l2] [] h Q := by
  unfold ex_
  refine (am_Y_go 2 (ok := []) (g := (if s0 < (4 : Int32) then 40 else 38, [l0, l1, l2], [], h)) rfl).trans ?_
  all_goals exact am_Y_if

theorem b_X1_addParent_40 {d : Nat} {Q : Option am_V → am_H → Prop} (h : am_H) (o0 : Nat) (x1 : Int32) (x2 : Int32) (F_o0 : y_Facts h o0) : ex_ (d + 1) 36 40 [some (v_r (some o0)), some (v_i x1), some (v_i x2)] [] h Q ↔ ex_ d 35 0 [some (v_r (some o0)), some (v_i x1), some (v_i x2), none] [] h (fun r h' => ex_ (d + 1) 36 46 [some (v_r (some o0)), some (v_i x1), some (v_i x2)] (r.toList ++ []) h' Q) := by
  unfold ex_
  refine (am_Y_go 3 (ok := []) (g := (43, [some (v_r (some o0)), some (v_i x1), some (v_i x2)], [v_i x2, v_i x1, v_r (some o0)], h)) rfl).trans ?_
  all_goals exact ((am_Y_call (j := 35) (na := 3) (ci := 1) (fl := 0) rfl rfl rfl).trans (cj_d ⟨⟨Nat.le_of_ble_eq_true rfl, Nat.le_of_ble_eq_true rfl, Nat.le_of_ble_eq_true rfl, rfl⟩, Or.inr (Or.inr (show (1 : Nat) < 20 ∧ am_is h (some o0) 1 from ⟨by decide, (lr_is (F_o0.1 0 rfl))⟩))⟩ Iff.rfl))

theorem b_X1_addParent_46 {d : Nat} {Q : Option am_V → am_H → Prop} (h : am_H) (l0 l1 l2 : Option am_V) : ex_ d 36 46 [l0, l1, l2] [] h Q ↔ Q (some (v_i (0 : Int32))) h := by
  unfold ex_
  refine (am_Y_go 1 (ok := []) (g := (47, [l0, l1, l2], [v_i (0 : Int32)], h)) rfl).trans ?_
  all_goals exact ((am_Y_ret rfl rfl rfl).trans (am_r0))

theorem b_X1_removeParent_0 {d : Nat} {Q : Option am_V → am_H → Prop} (h : am_H) (o0 : Nat) (x1 : Int32) (l2 l3 l4 l5 : Option am_V) (F_o0 : y_Facts h o0) : ex_ (d + 1) 37 0 [some (v_r (some o0)), some (v_i x1), l2, l3, l4, l5] [] h Q ↔ ex_ d 3 0 [some (v_r (some o0)), some (v_i x1)] [] h (fun r h' => ex_ (d + 1) 37 5 [some (v_r (some o0)), some (v_i x1), l2, l3, l4, l5] (r.toList ++ []) h' Q) := by
  unfold ex_
  refine (am_Y_go 2 (ok := []) (g := (2, [some (v_r (some o0)), some (v_i x1), l2, l3, l4, l5], [v_i x1, v_r (some o0)], h)) rfl).trans ?_
  all_goals exact ((am_Y_call (j := 3) (na := 2) (ci := 1) (fl := 0) rfl rfl rfl).trans (cj_d ⟨⟨Nat.le_of_ble_eq_true rfl, Nat.le_of_ble_eq_true rfl, Nat.le_of_ble_eq_true rfl, rfl⟩, Or.inr (Or.inr (show (1 : Nat) < 20 ∧ am_is h (some o0) 1 from ⟨by decide, (lr_is (F_o0.1 0 rfl))⟩))⟩ Iff.rfl))

theorem b_X1_removeParent_5 {d : Nat} {Q : Option am_V → am_H → Prop} (h : am_H) (s0 : Int32) (l0 l1 l2 l3 l4 l5 : Option am_V) : ex_ d 37 5 [l0, l1, l2, l3, l4, l5] [v_i s0] h Q ↔ if s0 = 0 then ex_ d 37 16 [l0, l1, l2, l3, l4, l5] [] h Q else ex_ d 37 8 [l0, l1, l2, l3, l4, l5] [] h Q := by
  unfold ex_
  refine (am_Y_go 1 (ok := []) (g := (if s0 = 0 then 16 else 8, [l0, l1, l2, l3, l4, l5], [], h)) rfl).trans ?_
  all_goals exact am_Y_if

theorem b_X1_removeParent_16 {d : Nat} {Q : Option am_V → am_H → Prop} (h : am_H) (l0 l1 l2 l3 l4 l5 : Option am_V) : ex_ d 37 16 [l0, l1, l2, l3, l4, l5] [] h Q ↔ Q (some (v_i (1 : Int32))) h := by
  unfold ex_
  refine (am_Y_go 1 (ok := []) (g := (17, [l0, l1, l2, l3, l4, l5], [v_i (1 : Int32)], h)) rfl).trans ?_
  all_goals exact ((am_Y_ret rfl rfl rfl).trans (am_r0))

theorem b_X1_removeParent_8 {d : Nat} {Q : Option am_V → am_H → Prop} (h : am_H) (o0 : Nat) (x2 : Int32) (l1 l3 l4 l5 : Option am_V) (F_o0 : y_Facts h o0) : ex_ (d + 1) 37 8 [some (v_r (some o0)), l1, some (v_i x2), l3, l4, l5] [] h Q ↔ ex_ d 3 0 [some (v_r (some o0)), some (v_i x2)] [] h (fun r h' => ex_ (d + 1) 37 13 [some (v_r (some o0)), l1, some (v_i x2), l3, l4, l5] (r.toList ++ []) h' Q) := by
  unfold ex_
  refine (am_Y_go 2 (ok := []) (g := (10, [some (v_r (some o0)), l1, some (v_i x2), l3, l4, l5], [v_i x2, v_r (some o0)], h)) rfl).trans ?_
  all_goals exact ((am_Y_call (j := 3) (na := 2) (ci := 1) (fl := 0) rfl rfl rfl).trans (cj_d ⟨⟨Nat.le_of_ble_eq_true rfl, Nat.le_of_ble_eq_true rfl, Nat.le_of_ble_eq_true rfl, rfl⟩, Or.inr (Or.inr (show (1 : Nat) < 20 ∧ am_is h (some o0) 1 from ⟨by decide, (lr_is (F_o0.1 0 rfl))⟩))⟩ Iff.rfl))

theorem b_X1_removeParent_13 {d : Nat} {Q : Option am_V → am_H → Prop} (h : am_H) (s0 : Int32) (l0 l1 l2 l3 l4 l5 : Option am_V) : ex_ d 37 13 [l0, l1, l2, l3, l4, l5] [v_i s0] h Q ↔ if ¬ s0 = 0 then ex_ d 37 18 [l0, l1, l2, l3, l4, l5] [] h Q else ex_ d 37 16 [l0, l1, l2, l3, l4, l5] [] h Q := by
  unfold ex_
  refine (am_Y_go 1 (ok := []) (g := (if ¬ s0 = 0 then 18 else 16, [l0, l1, l2, l3, l4, l5], [], h)) rfl).trans ?_
  all_goals exact am_Y_if

theorem b_X1_removeParent_18 {d : Nat} {Q : Option am_V → am_H → Prop} (h : am_H) (o0 : Nat) (x1 : Int32) (x2 : Int32) (l3 l4 l5 : Option am_V) (F_o0 : y_Facts h o0) : ex_ (d + 1) 37 18 [some (v_r (some o0)), some (v_i x1), some (v_i x2), l3, l4, l5] [] h Q ↔ ex_ d 29 0 [some (v_r (some o0)), some (v_i x1), some (v_i x2), none] [] h (fun r h' => ex_ (d + 1) 37 24 [some (v_r (some o0)), some (v_i x1), some (v_i x2), l3, l4, l5] (r.toList ++ []) h' Q) := by
  unfold ex_
  refine (am_Y_go 3 (ok := []) (g := (21, [some (v_r (some o0)), some (v_i x1), some (v_i x2), l3, l4, l5], [v_i x2, v_i x1, v_r (some o0)], h)) rfl).trans ?_
  all_goals exact ((am_Y_call (j := 29) (na := 3) (ci := 1) (fl := 0) rfl rfl rfl).trans (cj_d ⟨⟨Nat.le_of_ble_eq_true rfl, Nat.le_of_ble_eq_true rfl, Nat.le_of_ble_eq_true rfl, rfl⟩, Or.inr (Or.inr (show (1 : Nat) < 20 ∧ am_is h (some o0) 1 from ⟨by decide, (lr_is (F_o0.1 0 rfl))⟩))⟩ Iff.rfl))

theorem b_X1_removeParent_24 {d : Nat} {Q : Option am_V → am_H → Prop} (h : am_H) (s0 : Int32) (l0 l1 l2 l3 l4 l5 : Option am_V) : ex_ d 37 24 [l0, l1, l2, l3, l4, l5] [v_i s0] h Q ↔ if ¬ s0 = (-1 : Int32) then ex_ d 37 32 [l0, l1, l2, some (v_i s0), l4, l5] [] h Q else ex_ d 37 30 [l0, l1, l2, some (v_i s0), l4, l5] [] h Q := by
  unfold ex_
  refine (am_Y_go 4 (ok := []) (g := (if ¬ s0 = (-1 : Int32) then 32 else 30, [l0, l1, l2, some (v_i s0), l4, l5], [], h)) rfl).trans ?_
  all_goals exact am_Y_if

theorem b_X1_removeParent_32 {d : Nat} {Q : Option am_V → am_H → Prop} (h : am_H) (o0 : Nat) (x1 : Int32) (l2 l3 l4 l5 : Option am_V) (F_o0 : y_Facts h o0) : ex_ (d + 1) 37 32 [some (v_r (some o0)), some (v_i x1), l2, l3, l4, l5] [] h Q ↔ ex_ d 4 0 [some (v_r (some o0)), some (v_i x1)] [] h (fun r h' => ex_ (d + 1) 37 37 [some (v_r (some o0)), some (v_i x1), l2, l3, l4, l5] (r.toList ++ []) h' Q) := by
  unfold ex_
  refine (am_Y_go 2 (ok := []) (g := (34, [some (v_r (some o0)), some (v_i x1), l2, l3, l4, l5], [v_i x1, v_r (some o0)], h)) rfl).trans ?_
  all_goals exact ((am_Y_call (j := 4) (na := 2) (ci := 1) (fl := 0) rfl rfl rfl).trans (cj_d ⟨⟨Nat.le_of_ble_eq_true rfl, Nat.le_of_ble_eq_true rfl, Nat.le_of_ble_eq_true rfl, rfl⟩, Or.inr (Or.inr (show (1 : Nat) < 20 ∧ am_is h (some o0) 1 from ⟨by decide, (lr_is (F_o0.1 0 rfl))⟩))⟩ Iff.rfl))

theorem b_X1_removeParent_30 {d : Nat} {Q : Option am_V → am_H → Prop} (h : am_H) (l0 l1 l2 l3 l4 l5 : Option am_V) : ex_ d 37 30 [l0, l1, l2, l3, l4, l5] [] h Q ↔ Q (some (v_i (2 : Int32))) h := by
  unfold ex_
  refine (am_Y_go 1 (ok := []) (g := (31, [l0, l1, l2, l3, l4, l5], [v_i (2 : Int32)], h)) rfl).trans ?_
  all_goals exact ((am_Y_ret rfl rfl rfl).trans (am_r0))

theorem b_X1_removeParent_37 {d : Nat} {Q : Option am_V → am_H → Prop} (h : am_H) (s0 : Int32) (x3 : Int32) (l0 l1 l2 l4 l5 : Option am_V) : ex_ d 37 37 [l0, l1, l2, some (v_i x3), l4, l5] [v_i s0] h Q ↔ ex_ d 37 44 [l0, l1, l2, some (v_i x3), some (v_i (s0 - (1 : Int32))), some (v_i x3)] [] h Q := by
  unfold ex_
  refine (am_Y_go 5 (ok := []) (g := (44, [l0, l1, l2, some (v_i x3), some (v_i (s0 - (1 : Int32))), some (v_i x3)], [], h)) rfl).trans ?_
  all_goals exact Iff.rfl

theorem b_X1_removeParent_44 {d : Nat} {Q : Option am_V → am_H → Prop} (h : am_H) (x5 : Int32) (x4 : Int32) (l0 l1 l2 l3 : Option am_V) : ex_ d 37 44 [l0, l1, l2, l3, some (v_i x4), some (v_i x5)] [] h Q ↔ if x4 ≤ x5 then ex_ d 37 89 [l0, l1, l2, l3, some (v_i x4), some (v_i x5)] [] h Q else ex_ d 37 51 [l0, l1, l2, l3, some (v_i x4), some (v_i x5)] [] h Q := by
  unfold ex_
  refine (am_Y_go 3 (ok := []) (g := (if x4 ≤ x5 then 89 else 51, [l0, l1, l2, l3, some (v_i x4), some (v_i x5)], [], h)) rfl).trans ?_
  all_goals exact am_Y_if

theorem b_X1_removeParent_89 {d : Nat} {Q : Option am_V → am_H → Prop} (h : am_H) (o0 : Nat) (x1 : Int32) (x4 : Int32) (l2 l3 l5 : Option am_V) (F_o0 : y_Facts h o0) : ex_ d 37 89 [some (v_r (some o0)), some (v_i x1), l2, l3, some (v_i x4), l5] [] h Q ↔ vp_in x1 10 ∧ Q (some (v_i (0 : Int32))) (p_i h (o0 + 1) (Int32.toNatClampNeg x1) x4) := by
  have e0 : h_r h o0 2 = some (o0 + 1) := F_o0.2 (0, 2, 1) (by decide)
  unfold ex_
  refine (am_Y_go 6 (ok := [am_is h (some o0) 1, am_ar h ((h_r h o0 2)) 20 x1]) (g := (98, [some (v_r (some o0)), some (v_i x1), l2, l3, some (v_i x4), l5], [v_i (0 : Int32)], (p_i h ((h_r h o0 2).getD 0) (Int32.toNatClampNeg x1) x4))) rfl).trans ?_
  simp only [e0, Option.getD_some, am_all]
  all_goals exact cj_d (lr_is (F_o0.1 0 rfl)) (cj_k (lr_ar (F_o0.1 1 rfl)) (((am_Y_ret rfl rfl rfl).trans (am_r0))))

theorem b_X1_removeParent_51 {d : Nat} {Q : Option am_V → am_H → Prop} (h : am_H) (x5 : Int32) (l0 l1 l2 l3 l4 : Option am_V) : ex_ d 37 51 [l0, l1, l2, l3, l4, some (v_i x5)] [] h Q ↔ if (4 : Int32) ≤ (x5 + (1 : Int32)) then ex_ d 37 89 [l0, l1, l2, l3, l4, some (v_i x5)] [] h Q else ex_ d 37 59 [l0, l1, l2, l3, l4, some (v_i x5)] [] h Q := by
  unfold ex_
  refine (am_Y_go 5 (ok := []) (g := (if (4 : Int32) ≤ (x5 + (1 : Int32)) then 89 else 59, [l0, l1, l2, l3, l4, some (v_i x5)], [], h)) rfl).trans ?_
  all_goals exact am_Y_if

theorem b_X1_removeParent_59 {d : Nat} {Q : Option am_V → am_H → Prop} (h : am_H) (o0 : Nat) (x1 : Int32) (x5 : Int32) (l2 l3 l4 : Option am_V) (F_o0 : y_Facts h o0) : ex_ d 37 59 [some (v_r (some o0)), some (v_i x1), l2, l3, l4, some (v_i x5)] [] h Q ↔ vp_in (((x1 * (4 : Int32)) + x5) + (1 : Int32)) 40 ∧ vp_in ((x1 * (4 : Int32)) + x5) 40 ∧ ex_ d 37 44 [some (v_r (some o0)), some (v_i x1), l2, l3, l4, some (v_i (x5 + (1 : Int32)))] [] (p_i h (o0 + 2) (Int32.toNatClampNeg ((x1 * (4 : Int32)) + x5)) (h_i h (o0 + 2) (Int32.toNatClampNeg (((x1 * (4 : Int32)) + x5) + (1 : Int32))))) Q := by
  have e0 : h_r h o0 3 = some (o0 + 2) := F_o0.2 (0, 3, 2) (by decide)
  unfold ex_
  refine (am_Y_go 20 (ok := [am_is h (some o0) 1, am_is h (some o0) 1, am_ar h ((h_r h o0 3)) 20 (((x1 * (4 : Int32)) + x5) + (1 : Int32)), am_ar h ((h_r h o0 3)) 20 ((x1 * (4 : Int32)) + x5)]) (g := (44, [some (v_r (some o0)), some (v_i x1), l2, l3, l4, some (v_i (x5 + (1 : Int32)))], [], (p_i h ((h_r h o0 3).getD 0) (Int32.toNatClampNeg ((x1 * (4 : Int32)) + x5)) (h_i h ((h_r h o0 3).getD 0) (Int32.toNatClampNeg (((x1 * (4 : Int32)) + x5) + (1 : Int32))))))) rfl).trans ?_
  simp only [e0, Option.getD_some, am_all]
  all_goals exact cj_d (lr_is (F_o0.1 0 rfl)) (cj_d (lr_is (F_o0.1 0 rfl)) (cj_k (lr_ar (F_o0.1 2 rfl)) (cj_k (lr_ar (F_o0.1 2 rfl)) (Iff.rfl))))

theorem b_X1_turnParents_0 {d : Nat} {Q : Option am_V → am_H → Prop} (h : am_H) (o0 : Nat) (x1 : Int32) (l2 l3 l4 : Option am_V) (F_o0 : y_Facts h o0) : ex_ (d + 1) 38 0 [some (v_r (some o0)), some (v_i x1), l2, l3, l4] [] h Q ↔ ex_ d 3 0 [some (v_r (some o0)), some (v_i x1)] [] h (fun r h' => ex_ (d + 1) 38 5 [some (v_r (some o0)), some (v_i x1), l2, l3, l4] (r.toList ++ []) h' Q) := by
  unfold ex_
  refine (am_Y_go 2 (ok := []) (g := (2, [some (v_r (some o0)), some (v_i x1), l2, l3, l4], [v_i x1, v_r (some o0)], h)) rfl).trans ?_
  all_goals exact ((am_Y_call (j := 3) (na := 2) (ci := 1) (fl := 0) rfl rfl rfl).trans (cj_d ⟨⟨Nat.le_of_ble_eq_true rfl, Nat.le_of_ble_eq_true rfl, Nat.le_of_ble_eq_true rfl, rfl⟩, Or.inr (Or.inr (show (1 : Nat) < 20 ∧ am_is h (some o0) 1 from ⟨by decide, (lr_is (F_o0.1 0 rfl))⟩))⟩ Iff.rfl))

theorem b_X1_turnParents_5 {d : Nat} {Q : Option am_V → am_H → Prop} (h : am_H) (s0 : Int32) (l0 l1 l2 l3 l4 : Option am_V) : ex_ d 38 5 [l0, l1, l2, l3, l4] [v_i s0] h Q ↔ if ¬ s0 = 0 then ex_ d 38 10 [l0, l1, l2, l3, l4] [] h Q else ex_ d 38 8 [l0, l1, l2, l3, l4] [] h Q := by
  unfold ex_
  refine (am_Y_go 1 (ok := []) (g := (if ¬ s0 = 0 then 10 else 8, [l0, l1, l2, l3, l4], [], h)) rfl).trans ?_
  all_goals exact am_Y_if

theorem b_X1_turnParents_10 {d : Nat} {Q : Option am_V → am_H → Prop} (h : am_H) (x2 : Int32) (l0 l1 l3 l4 : Option am_V) : ex_ d 38 10 [l0, l1, some (v_i x2), l3, l4] [] h Q ↔ if x2 < 0 then ex_ d 38 30 [l0, l1, some (v_i x2), l3, l4] [] h Q else ex_ d 38 14 [l0, l1, some (v_i x2), l3, l4] [] h Q := by
  unfold ex_
  refine (am_Y_go 2 (ok := []) (g := (if x2 < 0 then 30 else 14, [l0, l1, some (v_i x2), l3, l4], [], h)) rfl).trans ?_
  all_goals exact am_Y_if

theorem b_X1_turnParents_8 {d : Nat} {Q : Option am_V → am_H → Prop} (h : am_H) (l0 l1 l2 l3 l4 : Option am_V) : ex_ d 38 8 [l0, l1, l2, l3, l4] [] h Q ↔ Q (some (v_i (1 : Int32))) h := by
  unfold ex_
  refine (am_Y_go 1 (ok := []) (g := (9, [l0, l1, l2, l3, l4], [v_i (1 : Int32)], h)) rfl).trans ?_
  all_goals exact ((am_Y_ret rfl rfl rfl).trans (am_r0))

theorem b_X1_turnParents_30 {d : Nat} {Q : Option am_V → am_H → Prop} (h : am_H) (l0 l1 l2 l3 l4 : Option am_V) : ex_ d 38 30 [l0, l1, l2, l3, l4] [] h Q ↔ Q (some (v_i (2 : Int32))) h := by
  unfold ex_
  refine (am_Y_go 1 (ok := []) (g := (31, [l0, l1, l2, l3, l4], [v_i (2 : Int32)], h)) rfl).trans ?_
  all_goals exact ((am_Y_ret rfl rfl rfl).trans (am_r0))

theorem b_X1_turnParents_14 {d : Nat} {Q : Option am_V → am_H → Prop} (h : am_H) (x2 : Int32) (l0 l1 l3 l4 : Option am_V) : ex_ d 38 14 [l0, l1, some (v_i x2), l3, l4] [] h Q ↔ if (3 : Int32) ≤ x2 then ex_ d 38 30 [l0, l1, some (v_i x2), l3, l4] [] h Q else ex_ d 38 19 [l0, l1, some (v_i x2), l3, l4] [] h Q := by
  unfold ex_
  refine (am_Y_go 3 (ok := []) (g := (if (3 : Int32) ≤ x2 then 30 else 19, [l0, l1, some (v_i x2), l3, l4], [], h)) rfl).trans ?_
  all_goals exact am_Y_if

theorem b_X1_turnParents_19 {d : Nat} {Q : Option am_V → am_H → Prop} (h : am_H) (x2 : Int32) (o0 : Nat) (x1 : Int32) (l3 l4 : Option am_V) (F_o0 : y_Facts h o0) : ex_ (d + 1) 38 19 [some (v_r (some o0)), some (v_i x1), some (v_i x2), l3, l4] [] h Q ↔ ex_ d 4 0 [some (v_r (some o0)), some (v_i x1)] [] h (fun r h' => ex_ (d + 1) 38 27 [some (v_r (some o0)), some (v_i x1), some (v_i x2), l3, l4] (r.toList ++ [v_i (x2 + (1 : Int32))]) h' Q) := by
  unfold ex_
  refine (am_Y_go 5 (ok := []) (g := (24, [some (v_r (some o0)), some (v_i x1), some (v_i x2), l3, l4], [v_i x1, v_r (some o0), v_i (x2 + (1 : Int32))], h)) rfl).trans ?_
  all_goals exact ((am_Y_call (j := 4) (na := 2) (ci := 1) (fl := 0) rfl rfl rfl).trans (cj_d ⟨⟨Nat.le_of_ble_eq_true rfl, Nat.le_of_ble_eq_true rfl, Nat.le_of_ble_eq_true rfl, rfl⟩, Or.inr (Or.inr (show (1 : Nat) < 20 ∧ am_is h (some o0) 1 from ⟨by decide, (lr_is (F_o0.1 0 rfl))⟩))⟩ Iff.rfl))

theorem b_X1_turnParents_27 {d : Nat} {Q : Option am_V → am_H → Prop} (h : am_H) (s0 : Int32) (s1 : Int32) (l0 l1 l2 l3 l4 : Option am_V) : ex_ d 38 27 [l0, l1, l2, l3, l4] [v_i s0, v_i s1] h Q ↔ if s1 < s0 then ex_ d 38 32 [l0, l1, l2, l3, l4] [] h Q else ex_ d 38 30 [l0, l1, l2, l3, l4] [] h Q := by
  unfold ex_
  refine (am_Y_go 1 (ok := []) (g := (if s1 < s0 then 32 else 30, [l0, l1, l2, l3, l4], [], h)) rfl).trans ?_
  all_goals exact am_Y_if

theorem b_X1_turnParents_32 {d : Nat} {Q : Option am_V → am_H → Prop} (h : am_H) (x1 : Int32) (x2 : Int32) (o0 : Nat) (l3 l4 : Option am_V) (F_o0 : y_Facts h o0) : ex_ d 38 32 [some (v_r (some o0)), some (v_i x1), some (v_i x2), l3, l4] [] h Q ↔ vp_in ((x1 * (4 : Int32)) + x2) 40 ∧ vp_in (((x1 * (4 : Int32)) + x2) + (1 : Int32)) 40 ∧ vp_in ((x1 * (4 : Int32)) + x2) 40 ∧ vp_in (((x1 * (4 : Int32)) + x2) + (1 : Int32)) 40 ∧ Q (some (v_i (0 : Int32))) (p_i (p_i h (o0 + 2) (Int32.toNatClampNeg ((x1 * (4 : Int32)) + x2)) (h_i h (o0 + 2) (Int32.toNatClampNeg (((x1 * (4 : Int32)) + x2) + (1 : Int32))))) (o0 + 2) (Int32.toNatClampNeg (((x1 * (4 : Int32)) + x2) + (1 : Int32))) (h_i h (o0 + 2) (Int32.toNatClampNeg ((x1 * (4 : Int32)) + x2)))) := by
  have e0 : h_r h o0 3 = some (o0 + 2) := F_o0.2 (0, 3, 2) (by decide)
  unfold ex_
  refine (am_Y_go 29 (ok := [am_is h (some o0) 1, am_ar h ((h_r h o0 3)) 20 ((x1 * (4 : Int32)) + x2), am_is h (some o0) 1, am_is h (some o0) 1, am_ar h ((h_r h o0 3)) 20 (((x1 * (4 : Int32)) + x2) + (1 : Int32)), am_ar h ((h_r h o0 3)) 20 ((x1 * (4 : Int32)) + x2), am_is h (some o0) 1, am_ar h ((h_r h o0 3)) 20 (((x1 * (4 : Int32)) + x2) + (1 : Int32))]) (g := (71, [some (v_r (some o0)), some (v_i x1), some (v_i x2), some (v_i ((x1 * (4 : Int32)) + x2)), some (v_i (h_i h ((h_r h o0 3).getD 0) (Int32.toNatClampNeg ((x1 * (4 : Int32)) + x2))))], [v_i (0 : Int32)], (p_i (p_i h ((h_r h o0 3).getD 0) (Int32.toNatClampNeg ((x1 * (4 : Int32)) + x2)) (h_i h ((h_r h o0 3).getD 0) (Int32.toNatClampNeg (((x1 * (4 : Int32)) + x2) + (1 : Int32))))) ((h_r h o0 3).getD 0) (Int32.toNatClampNeg (((x1 * (4 : Int32)) + x2) + (1 : Int32))) (h_i h ((h_r h o0 3).getD 0) (Int32.toNatClampNeg ((x1 * (4 : Int32)) + x2)))))) rfl).trans ?_
  simp only [e0, Option.getD_some, am_all]
  all_goals exact cj_d (lr_is (F_o0.1 0 rfl)) (cj_k (lr_ar (F_o0.1 2 rfl)) (cj_d (lr_is (F_o0.1 0 rfl)) (cj_d (lr_is (F_o0.1 0 rfl)) (cj_k (lr_ar (F_o0.1 2 rfl)) (cj_k (lr_ar (F_o0.1 2 rfl)) (cj_d (lr_is (F_o0.1 0 rfl)) (cj_k (lr_ar (F_o0.1 2 rfl)) (((am_Y_ret rfl rfl rfl).trans (am_r0))))))))))

theorem b_X1_putDefinition_0 {d : Nat} {Q : Option am_V → am_H → Prop} (h : am_H) (o0 : Nat) (x1 : Int32) (l2 l3 l4 : Option am_V) (F_o0 : y_Facts h o0) : ex_ (d + 1) 39 0 [some (v_r (some o0)), some (v_i x1), l2, l3, l4] [] h Q ↔ ex_ d 3 0 [some (v_r (some o0)), some (v_i x1)] [] h (fun r h' => ex_ (d + 1) 39 5 [some (v_r (some o0)), some (v_i x1), l2, l3, l4] (r.toList ++ []) h' Q) := by
  unfold ex_
  refine (am_Y_go 2 (ok := []) (g := (2, [some (v_r (some o0)), some (v_i x1), l2, l3, l4], [v_i x1, v_r (some o0)], h)) rfl).trans ?_
  all_goals exact ((am_Y_call (j := 3) (na := 2) (ci := 1) (fl := 0) rfl rfl rfl).trans (cj_d ⟨⟨Nat.le_of_ble_eq_true rfl, Nat.le_of_ble_eq_true rfl, Nat.le_of_ble_eq_true rfl, rfl⟩, Or.inr (Or.inr (show (1 : Nat) < 20 ∧ am_is h (some o0) 1 from ⟨by decide, (lr_is (F_o0.1 0 rfl))⟩))⟩ Iff.rfl))

theorem b_X1_putDefinition_5 {d : Nat} {Q : Option am_V → am_H → Prop} (h : am_H) (s0 : Int32) (l0 l1 l2 l3 l4 : Option am_V) : ex_ d 39 5 [l0, l1, l2, l3, l4] [v_i s0] h Q ↔ if s0 = 0 then ex_ d 39 24 [l0, l1, l2, l3, l4] [] h Q else ex_ d 39 8 [l0, l1, l2, l3, l4] [] h Q := by
  unfold ex_
  refine (am_Y_go 1 (ok := []) (g := (if s0 = 0 then 24 else 8, [l0, l1, l2, l3, l4], [], h)) rfl).trans ?_
  all_goals exact am_Y_if

theorem b_X1_putDefinition_24 {d : Nat} {Q : Option am_V → am_H → Prop} (h : am_H) (l0 l1 l2 l3 l4 : Option am_V) : ex_ d 39 24 [l0, l1, l2, l3, l4] [] h Q ↔ Q (some (v_i (1 : Int32))) h := by
  unfold ex_
  refine (am_Y_go 1 (ok := []) (g := (25, [l0, l1, l2, l3, l4], [v_i (1 : Int32)], h)) rfl).trans ?_
  all_goals exact ((am_Y_ret rfl rfl rfl).trans (am_r0))

theorem b_X1_putDefinition_8 {d : Nat} {Q : Option am_V → am_H → Prop} (h : am_H) (x2 : Int32) (l0 l1 l3 l4 : Option am_V) : ex_ (d + 1) 39 8 [l0, l1, some (v_i x2), l3, l4] [] h Q ↔ ex_ d 31 0 [some (v_i x2)] [] h (fun r h' => ex_ (d + 1) 39 12 [l0, l1, some (v_i x2), l3, l4] (r.toList ++ []) h' Q) := by
  unfold ex_
  refine (am_Y_go 1 (ok := []) (g := (9, [l0, l1, some (v_i x2), l3, l4], [v_i x2], h)) rfl).trans ?_
  all_goals exact ((am_Y_call (j := 31) (na := 1) (ci := 11) (fl := 3) rfl rfl rfl).trans (cj_d ⟨⟨Nat.le_of_ble_eq_true rfl, Nat.le_of_ble_eq_true rfl, Nat.le_of_ble_eq_true rfl, rfl⟩, Or.inr (Or.inl rfl)⟩ Iff.rfl))

theorem b_X1_putDefinition_12 {d : Nat} {Q : Option am_V → am_H → Prop} (h : am_H) (s0 : Int32) (l0 l1 l2 l3 l4 : Option am_V) : ex_ d 39 12 [l0, l1, l2, l3, l4] [v_i s0] h Q ↔ if s0 = 0 then ex_ d 39 24 [l0, l1, l2, l3, l4] [] h Q else ex_ d 39 15 [l0, l1, l2, l3, l4] [] h Q := by
  unfold ex_
  refine (am_Y_go 1 (ok := []) (g := (if s0 = 0 then 24 else 15, [l0, l1, l2, l3, l4], [], h)) rfl).trans ?_
  all_goals exact am_Y_if

theorem b_X1_putDefinition_15 {d : Nat} {Q : Option am_V → am_H → Prop} (h : am_H) (x3 : Int32) (l0 l1 l2 l4 : Option am_V) : ex_ d 39 15 [l0, l1, l2, some (v_i x3), l4] [] h Q ↔ if x3 < 0 then ex_ d 39 24 [l0, l1, l2, some (v_i x3), l4] [] h Q else ex_ d 39 19 [l0, l1, l2, some (v_i x3), l4] [] h Q := by
  unfold ex_
  refine (am_Y_go 2 (ok := []) (g := (if x3 < 0 then 24 else 19, [l0, l1, l2, some (v_i x3), l4], [], h)) rfl).trans ?_
  all_goals exact am_Y_if

theorem b_X1_putDefinition_19 {d : Nat} {Q : Option am_V → am_H → Prop} (h : am_H) (x3 : Int32) (l0 l1 l2 l4 : Option am_V) : ex_ d 39 19 [l0, l1, l2, some (v_i x3), l4] [] h Q ↔ if x3 ≤ (2 : Int32) then ex_ d 39 26 [l0, l1, l2, some (v_i x3), l4] [] h Q else ex_ d 39 24 [l0, l1, l2, some (v_i x3), l4] [] h Q := by
  unfold ex_
  refine (am_Y_go 3 (ok := []) (g := (if x3 ≤ (2 : Int32) then 26 else 24, [l0, l1, l2, some (v_i x3), l4], [], h)) rfl).trans ?_
  all_goals exact am_Y_if

theorem b_X1_putDefinition_26 {d : Nat} {Q : Option am_V → am_H → Prop} (h : am_H) (x1 : Int32) (x2 : Int32) (x3 : Int32) (l0 l4 : Option am_V) : ex_ d 39 26 [l0, some (v_i x1), some (v_i x2), some (v_i x3), l4] [] h Q ↔ if ¬ x3 = (2 : Int32) then ex_ d 39 51 [l0, some (v_i x1), some (v_i x2), some (v_i x3), some (v_i ((x1 * (8 : Int32)) + x2))] [] h Q else ex_ d 39 39 [l0, some (v_i x1), some (v_i x2), some (v_i x3), some (v_i ((x1 * (8 : Int32)) + x2))] [] h Q := by
  unfold ex_
  refine (am_Y_go 9 (ok := []) (g := (if ¬ x3 = (2 : Int32) then 51 else 39, [l0, some (v_i x1), some (v_i x2), some (v_i x3), some (v_i ((x1 * (8 : Int32)) + x2))], [], h)) rfl).trans ?_
  all_goals exact am_Y_if

theorem b_X1_putDefinition_51 {d : Nat} {Q : Option am_V → am_H → Prop} (h : am_H) (o0 : Nat) (x4 : Int32) (x3 : Int32) (l1 l2 : Option am_V) (F_o0 : y_Facts h o0) : ex_ d 39 51 [some (v_r (some o0)), l1, l2, some (v_i x3), some (v_i x4)] [] h Q ↔ if ¬ x3 = 0 then ex_ d 39 65 [some (v_r (some o0)), l1, l2, some (v_i x3), some (v_i x4)] [v_i x4, v_r (some (o0 + 3))] h Q else ex_ d 39 61 [some (v_r (some o0)), l1, l2, some (v_i x3), some (v_i x4)] [v_i x4, v_r (some (o0 + 3))] h Q := by
  have e0 : h_r h o0 4 = some (o0 + 3) := F_o0.2 (0, 4, 3) (by decide)
  unfold ex_
  refine (am_Y_go 5 (ok := [am_is h (some o0) 1]) (g := (if ¬ x3 = 0 then 65 else 61, [some (v_r (some o0)), l1, l2, some (v_i x3), some (v_i x4)], [v_i x4, v_r ((h_r h o0 4))], h)) rfl).trans ?_
  simp only [e0, Option.getD_some, am_all]
  all_goals exact cj_d (lr_is (F_o0.1 0 rfl)) (am_Y_if)

theorem b_X1_putDefinition_39 {d : Nat} {Q : Option am_V → am_H → Prop} (h : am_H) (o0 : Nat) (x4 : Int32) (l1 l2 l3 : Option am_V) (F_o0 : y_Facts h o0) : ex_ d 39 39 [some (v_r (some o0)), l1, l2, l3, some (v_i x4)] [] h Q ↔ vp_in x4 80 ∧ (if ¬ (h_i h (o0 + 3) (Int32.toNatClampNeg x4)) = 0 then ex_ d 39 51 [some (v_r (some o0)), l1, l2, l3, some (v_i x4)] [] h Q else ex_ d 39 49 [some (v_r (some o0)), l1, l2, l3, some (v_i x4)] [] h Q) := by
  have e0 : h_r h o0 4 = some (o0 + 3) := F_o0.2 (0, 4, 3) (by decide)
  unfold ex_
  refine (am_Y_go 5 (ok := [am_is h (some o0) 1, am_ar h ((h_r h o0 4)) 20 x4]) (g := (if ¬ (h_i h ((h_r h o0 4).getD 0) (Int32.toNatClampNeg x4)) = 0 then 51 else 49, [some (v_r (some o0)), l1, l2, l3, some (v_i x4)], [], h)) rfl).trans ?_
  simp only [e0, Option.getD_some, am_all]
  all_goals exact cj_d (lr_is (F_o0.1 0 rfl)) (cj_k (lr_ar (F_o0.1 3 rfl)) (am_Y_if))

theorem b_X1_putDefinition_65 {d : Nat} {Q : Option am_V → am_H → Prop} (h : am_H) (s0 : Int32) (t1 : Nat) (x3 : Int32) (l0 l1 l2 l4 : Option am_V) {n_t1 : Nat} (A_t1 : y_arr h t1 20 n_t1) : ex_ d 39 65 [l0, l1, l2, some (v_i x3), l4] [v_i s0, v_r (some t1)] h Q ↔ if ¬ x3 = (1 : Int32) then ex_ d 39 74 [l0, l1, l2, some (v_i x3), l4] [v_i s0, v_r (some t1)] h Q else ex_ d 39 70 [l0, l1, l2, some (v_i x3), l4] [v_i s0, v_r (some t1)] h Q := by
  unfold ex_
  refine (am_Y_go 3 (ok := []) (g := (if ¬ x3 = (1 : Int32) then 74 else 70, [l0, l1, l2, some (v_i x3), l4], [v_i s0, v_r (some t1)], h)) rfl).trans ?_
  all_goals exact am_Y_if

theorem b_X1_putDefinition_61 {d : Nat} {Q : Option am_V → am_H → Prop} (h : am_H) (s0 : Int32) (t1 : Nat) (l0 l1 l2 l3 l4 : Option am_V) {n_t1 : Nat} (A_t1 : y_arr h t1 20 n_t1) : ex_ d 39 61 [l0, l1, l2, l3, l4] [v_i s0, v_r (some t1)] h Q ↔ vp_in s0 n_t1 ∧ Q (some (v_i (0 : Int32))) (p_i h t1 (Int32.toNatClampNeg s0) (1 : Int32)) := by
  unfold ex_
  refine (am_Y_go 4 (ok := [am_ar h (some t1) 20 s0]) (g := (77, [l0, l1, l2, l3, l4], [v_i (0 : Int32)], (p_i h t1 (Int32.toNatClampNeg s0) (1 : Int32)))) rfl).trans ?_
  simp only [am_all]
  all_goals exact cj_k (lb_ar A_t1) (((am_Y_ret rfl rfl rfl).trans (am_r0)))

theorem b_X1_putDefinition_49 {d : Nat} {Q : Option am_V → am_H → Prop} (h : am_H) (l0 l1 l2 l3 l4 : Option am_V) : ex_ d 39 49 [l0, l1, l2, l3, l4] [] h Q ↔ Q (some (v_i (2 : Int32))) h := by
  unfold ex_
  refine (am_Y_go 1 (ok := []) (g := (50, [l0, l1, l2, l3, l4], [v_i (2 : Int32)], h)) rfl).trans ?_
  all_goals exact ((am_Y_ret rfl rfl rfl).trans (am_r0))

theorem b_X1_putDefinition_74 {d : Nat} {Q : Option am_V → am_H → Prop} (h : am_H) (s0 : Int32) (t1 : Nat) (l0 l1 l2 l3 l4 : Option am_V) {n_t1 : Nat} (A_t1 : y_arr h t1 20 n_t1) : ex_ d 39 74 [l0, l1, l2, l3, l4] [v_i s0, v_r (some t1)] h Q ↔ vp_in s0 n_t1 ∧ Q (some (v_i (0 : Int32))) (p_i h t1 (Int32.toNatClampNeg s0) (0 : Int32)) := by
  unfold ex_
  refine (am_Y_go 3 (ok := [am_ar h (some t1) 20 s0]) (g := (77, [l0, l1, l2, l3, l4], [v_i (0 : Int32)], (p_i h t1 (Int32.toNatClampNeg s0) (0 : Int32)))) rfl).trans ?_
  simp only [am_all]
  all_goals exact cj_k (lb_ar A_t1) (((am_Y_ret rfl rfl rfl).trans (am_r0)))

theorem b_X1_putDefinition_70 {d : Nat} {Q : Option am_V → am_H → Prop} (h : am_H) (s0 : Int32) (t1 : Nat) (l0 l1 l2 l3 l4 : Option am_V) {n_t1 : Nat} (A_t1 : y_arr h t1 20 n_t1) : ex_ d 39 70 [l0, l1, l2, l3, l4] [v_i s0, v_r (some t1)] h Q ↔ vp_in s0 n_t1 ∧ Q (some (v_i (0 : Int32))) (p_i h t1 (Int32.toNatClampNeg s0) (2 : Int32)) := by
  unfold ex_
  refine (am_Y_go 4 (ok := [am_ar h (some t1) 20 s0]) (g := (77, [l0, l1, l2, l3, l4], [v_i (0 : Int32)], (p_i h t1 (Int32.toNatClampNeg s0) (2 : Int32)))) rfl).trans ?_
  simp only [am_all]
  all_goals exact cj_k (lb_ar A_t1) (((am_Y_ret rfl rfl rfl).trans (am_r0)))

theorem b_X1_putMood_0 {d : Nat} {Q : Option am_V → am_H → Prop} (h : am_H) (x1 : Int32) (l0 : Option am_V) : ex_ d 40 0 [l0, some (v_i x1)] [] h Q ↔ if x1 < 0 then ex_ d 40 10 [l0, some (v_i x1)] [] h Q else ex_ d 40 4 [l0, some (v_i x1)] [] h Q := by
  unfold ex_
  refine (am_Y_go 2 (ok := []) (g := (if x1 < 0 then 10 else 4, [l0, some (v_i x1)], [], h)) rfl).trans ?_
  all_goals exact am_Y_if

theorem b_X1_putMood_10 {d : Nat} {Q : Option am_V → am_H → Prop} (h : am_H) (l0 l1 : Option am_V) : ex_ d 40 10 [l0, l1] [] h Q ↔ Q (some (v_i (1 : Int32))) h := by
  unfold ex_
  refine (am_Y_go 1 (ok := []) (g := (11, [l0, l1], [v_i (1 : Int32)], h)) rfl).trans ?_
  all_goals exact ((am_Y_ret rfl rfl rfl).trans (am_r0))

theorem b_X1_putMood_4 {d : Nat} {Q : Option am_V → am_H → Prop} (h : am_H) (x1 : Int32) (l0 : Option am_V) : ex_ d 40 4 [l0, some (v_i x1)] [] h Q ↔ if x1 < (10 : Int32) then ex_ d 40 12 [l0, some (v_i x1)] [] h Q else ex_ d 40 10 [l0, some (v_i x1)] [] h Q := by
  unfold ex_
  refine (am_Y_go 3 (ok := []) (g := (if x1 < (10 : Int32) then 12 else 10, [l0, some (v_i x1)], [], h)) rfl).trans ?_
  all_goals exact am_Y_if

theorem b_X1_putMood_12 {d : Nat} {Q : Option am_V → am_H → Prop} (h : am_H) (o0 : Nat) (x1 : Int32) (F_o0 : y_Facts h o0) : ex_ d 40 12 [some (v_r (some o0)), some (v_i x1)] [] h Q ↔ Q (some (v_i (0 : Int32))) (p_i h o0 1 x1) := by
  unfold ex_
  refine (am_Y_go 4 (ok := [am_is h (some o0) 1]) (g := (18, [some (v_r (some o0)), some (v_i x1)], [v_i (0 : Int32)], (p_i h o0 1 x1))) rfl).trans ?_
  simp only [am_all]
  all_goals exact cj_d (lr_is (F_o0.1 0 rfl)) (((am_Y_ret rfl rfl rfl).trans (am_r0)))

theorem b_X1_doDeed_0 {d : Nat} {Q : Option am_V → am_H → Prop} (h : am_H) (x1 : Int64) (l0 l2 l3 l4 : Option am_V) : ex_ d 41 0 [l0, some (v_l x1), l2, l3, l4] [] h Q ↔ if (lg_cmp x1 (10 : Int64)) < 0 then ex_ d 41 16 [l0, some (v_l x1), l2, l3, l4] [] h Q else ex_ d 41 8 [l0, some (v_l x1), l2, l3, l4] [] h Q := by
  unfold ex_
  refine (am_Y_go 4 (ok := []) (g := (if (lg_cmp x1 (10 : Int64)) < 0 then 16 else 8, [l0, some (v_l x1), l2, l3, l4], [], h)) rfl).trans ?_
  all_goals exact am_Y_if

theorem b_X1_doDeed_16 {d : Nat} {Q : Option am_V → am_H → Prop} (h : am_H) (l0 l1 l2 l3 l4 : Option am_V) : ex_ d 41 16 [l0, l1, l2, l3, l4] [] h Q ↔ Q (some (v_i (1 : Int32))) h := by
  unfold ex_
  refine (am_Y_go 1 (ok := []) (g := (17, [l0, l1, l2, l3, l4], [v_i (1 : Int32)], h)) rfl).trans ?_
  all_goals exact ((am_Y_ret rfl rfl rfl).trans (am_r0))

theorem b_X1_doDeed_8 {d : Nat} {Q : Option am_V → am_H → Prop} (h : am_H) (x1 : Int64) (l0 l2 l3 l4 : Option am_V) : ex_ d 41 8 [l0, some (v_l x1), l2, l3, l4] [] h Q ↔ if (lg_cmp x1 (1299 : Int64)) ≤ 0 then ex_ d 41 18 [l0, some (v_l x1), l2, l3, l4] [] h Q else ex_ d 41 16 [l0, some (v_l x1), l2, l3, l4] [] h Q := by
  unfold ex_
  refine (am_Y_go 4 (ok := []) (g := (if (lg_cmp x1 (1299 : Int64)) ≤ 0 then 18 else 16, [l0, some (v_l x1), l2, l3, l4], [], h)) rfl).trans ?_
  all_goals exact am_Y_if

theorem b_X1_doDeed_18 {d : Nat} {Q : Option am_V → am_H → Prop} (h : am_H) (x1 : Int64) (l0 l2 l3 l4 : Option am_V) : ex_ d 41 18 [l0, some (v_l x1), l2, l3, l4] [] h Q ↔ if ((Int64.toInt32 x1) / (100 : Int32)) = (0 : Int32) then ex_ d 41 96 [l0, some (v_l x1), l2, some (v_i (Int64.toInt32 x1)), some (v_i ((Int64.toInt32 x1) - (Int64.toInt32 x1) / (100 : Int32) * (100 : Int32)))] [] h Q else if ((Int64.toInt32 x1) / (100 : Int32)) = (1 : Int32) then ex_ d 41 105 [l0, some (v_l x1), l2, some (v_i (Int64.toInt32 x1)), some (v_i ((Int64.toInt32 x1) - (Int64.toInt32 x1) / (100 : Int32) * (100 : Int32)))] [] h Q else if ((Int64.toInt32 x1) / (100 : Int32)) = (2 : Int32) then ex_ d 41 120 [l0, some (v_l x1), l2, some (v_i (Int64.toInt32 x1)), some (v_i ((Int64.toInt32 x1) - (Int64.toInt32 x1) / (100 : Int32) * (100 : Int32)))] [] h Q else if ((Int64.toInt32 x1) / (100 : Int32)) = (3 : Int32) then ex_ d 41 135 [l0, some (v_l x1), l2, some (v_i (Int64.toInt32 x1)), some (v_i ((Int64.toInt32 x1) - (Int64.toInt32 x1) / (100 : Int32) * (100 : Int32)))] [] h Q else if ((Int64.toInt32 x1) / (100 : Int32)) = (4 : Int32) then ex_ d 41 172 [l0, some (v_l x1), l2, some (v_i (Int64.toInt32 x1)), some (v_i ((Int64.toInt32 x1) - (Int64.toInt32 x1) / (100 : Int32) * (100 : Int32)))] [] h Q else if ((Int64.toInt32 x1) / (100 : Int32)) = (5 : Int32) then ex_ d 41 172 [l0, some (v_l x1), l2, some (v_i (Int64.toInt32 x1)), some (v_i ((Int64.toInt32 x1) - (Int64.toInt32 x1) / (100 : Int32) * (100 : Int32)))] [] h Q else if ((Int64.toInt32 x1) / (100 : Int32)) = (6 : Int32) then ex_ d 41 172 [l0, some (v_l x1), l2, some (v_i (Int64.toInt32 x1)), some (v_i ((Int64.toInt32 x1) - (Int64.toInt32 x1) / (100 : Int32) * (100 : Int32)))] [] h Q else if ((Int64.toInt32 x1) / (100 : Int32)) = (7 : Int32) then ex_ d 41 172 [l0, some (v_l x1), l2, some (v_i (Int64.toInt32 x1)), some (v_i ((Int64.toInt32 x1) - (Int64.toInt32 x1) / (100 : Int32) * (100 : Int32)))] [] h Q else if ((Int64.toInt32 x1) / (100 : Int32)) = (8 : Int32) then ex_ d 41 172 [l0, some (v_l x1), l2, some (v_i (Int64.toInt32 x1)), some (v_i ((Int64.toInt32 x1) - (Int64.toInt32 x1) / (100 : Int32) * (100 : Int32)))] [] h Q else if ((Int64.toInt32 x1) / (100 : Int32)) = (9 : Int32) then ex_ d 41 172 [l0, some (v_l x1), l2, some (v_i (Int64.toInt32 x1)), some (v_i ((Int64.toInt32 x1) - (Int64.toInt32 x1) / (100 : Int32) * (100 : Int32)))] [] h Q else if ((Int64.toInt32 x1) / (100 : Int32)) = (10 : Int32) then ex_ d 41 150 [l0, some (v_l x1), l2, some (v_i (Int64.toInt32 x1)), some (v_i ((Int64.toInt32 x1) - (Int64.toInt32 x1) / (100 : Int32) * (100 : Int32)))] [] h Q else if ((Int64.toInt32 x1) / (100 : Int32)) = (11 : Int32) then ex_ d 41 150 [l0, some (v_l x1), l2, some (v_i (Int64.toInt32 x1)), some (v_i ((Int64.toInt32 x1) - (Int64.toInt32 x1) / (100 : Int32) * (100 : Int32)))] [] h Q else if ((Int64.toInt32 x1) / (100 : Int32)) = (12 : Int32) then ex_ d 41 150 [l0, some (v_l x1), l2, some (v_i (Int64.toInt32 x1)), some (v_i ((Int64.toInt32 x1) - (Int64.toInt32 x1) / (100 : Int32) * (100 : Int32)))] [] h Q else ex_ d 41 172 [l0, some (v_l x1), l2, some (v_i (Int64.toInt32 x1)), some (v_i ((Int64.toInt32 x1) - (Int64.toInt32 x1) / (100 : Int32) * (100 : Int32)))] [] h Q := by
  unfold ex_
  refine (am_Y_go 11 (ok := [¬ (100 : Int32) = 0, ¬ (100 : Int32) = 0]) (g := (am_sw ((Int64.toInt32 x1) / (100 : Int32)) 172 [((0 : Int32), 96), ((1 : Int32), 105), ((2 : Int32), 120), ((3 : Int32), 135), ((4 : Int32), 172), ((5 : Int32), 172), ((6 : Int32), 172), ((7 : Int32), 172), ((8 : Int32), 172), ((9 : Int32), 172), ((10 : Int32), 150), ((11 : Int32), 150), ((12 : Int32), 150)], [l0, some (v_l x1), l2, some (v_i (Int64.toInt32 x1)), some (v_i ((Int64.toInt32 x1) - (Int64.toInt32 x1) / (100 : Int32) * (100 : Int32)))], [], h)) rfl).trans ?_
  simp only [am_all]
  all_goals exact cj_d (by decide) (cj_d (by decide) ((by simp only [am_sw, am_Y_if, am_all])))

theorem b_X1_doDeed_172 {d : Nat} {Q : Option am_V → am_H → Prop} (h : am_H) (l0 l1 l2 l3 l4 : Option am_V) : ex_ d 41 172 [l0, l1, l2, l3, l4] [] h Q ↔ Q (some (v_i (1 : Int32))) h := by
  unfold ex_
  refine (am_Y_go 1 (ok := []) (g := (173, [l0, l1, l2, l3, l4], [v_i (1 : Int32)], h)) rfl).trans ?_
  all_goals exact ((am_Y_ret rfl rfl rfl).trans (am_r0))

theorem b_X1_doDeed_96 {d : Nat} {Q : Option am_V → am_H → Prop} (h : am_H) (o0 : Nat) (x3 : Int32) (l1 l2 l4 : Option am_V) (F_o0 : y_Facts h o0) : ex_ (d + 1) 41 96 [some (v_r (some o0)), l1, l2, some (v_i x3), l4] [] h Q ↔ ex_ d 40 0 [some (v_r (some o0)), some (v_i (x3 - (10 : Int32)))] [] h (fun r h' => ex_ (d + 1) 41 104 [some (v_r (some o0)), l1, l2, some (v_i x3), l4] (r.toList ++ []) h' Q) := by
  unfold ex_
  refine (am_Y_go 4 (ok := []) (g := (101, [some (v_r (some o0)), l1, l2, some (v_i x3), l4], [v_i (x3 - (10 : Int32)), v_r (some o0)], h)) rfl).trans ?_
  all_goals exact ((am_Y_call (j := 40) (na := 2) (ci := 1) (fl := 0) rfl rfl rfl).trans (cj_d ⟨⟨Nat.le_of_ble_eq_true rfl, Nat.le_of_ble_eq_true rfl, Nat.le_of_ble_eq_true rfl, rfl⟩, Or.inr (Or.inr (show (1 : Nat) < 20 ∧ am_is h (some o0) 1 from ⟨by decide, (lr_is (F_o0.1 0 rfl))⟩))⟩ Iff.rfl))

theorem b_X1_doDeed_105 {d : Nat} {Q : Option am_V → am_H → Prop} (h : am_H) (o0 : Nat) (x4 : Int32) (l1 l2 l3 : Option am_V) (F_o0 : y_Facts h o0) : ex_ (d + 1) 41 105 [some (v_r (some o0)), l1, l2, l3, some (v_i x4)] [] h Q ↔ ex_ d 36 0 [some (v_r (some o0)), some (v_i (x4 / (10 : Int32))), some (v_i (x4 - x4 / (10 : Int32) * (10 : Int32)))] [] h (fun r h' => ex_ (d + 1) 41 119 [some (v_r (some o0)), l1, l2, l3, some (v_i x4)] (r.toList ++ []) h' Q) := by
  unfold ex_
  refine (am_Y_go 7 (ok := [¬ (10 : Int32) = 0, ¬ (10 : Int32) = 0]) (g := (116, [some (v_r (some o0)), l1, l2, l3, some (v_i x4)], [v_i (x4 - x4 / (10 : Int32) * (10 : Int32)), v_i (x4 / (10 : Int32)), v_r (some o0)], h)) rfl).trans ?_
  simp only [am_all]
  all_goals exact cj_d (by decide) (cj_d (by decide) (((am_Y_call (j := 36) (na := 3) (ci := 1) (fl := 0) rfl rfl rfl).trans (cj_d ⟨⟨Nat.le_of_ble_eq_true rfl, Nat.le_of_ble_eq_true rfl, Nat.le_of_ble_eq_true rfl, rfl⟩, Or.inr (Or.inr (show (1 : Nat) < 20 ∧ am_is h (some o0) 1 from ⟨by decide, (lr_is (F_o0.1 0 rfl))⟩))⟩ Iff.rfl))))

theorem b_X1_doDeed_120 {d : Nat} {Q : Option am_V → am_H → Prop} (h : am_H) (o0 : Nat) (x4 : Int32) (l1 l2 l3 : Option am_V) (F_o0 : y_Facts h o0) : ex_ (d + 1) 41 120 [some (v_r (some o0)), l1, l2, l3, some (v_i x4)] [] h Q ↔ ex_ d 37 0 [some (v_r (some o0)), some (v_i (x4 / (10 : Int32))), some (v_i (x4 - x4 / (10 : Int32) * (10 : Int32))), none, none, none] [] h (fun r h' => ex_ (d + 1) 41 134 [some (v_r (some o0)), l1, l2, l3, some (v_i x4)] (r.toList ++ []) h' Q) := by
  unfold ex_
  refine (am_Y_go 7 (ok := [¬ (10 : Int32) = 0, ¬ (10 : Int32) = 0]) (g := (131, [some (v_r (some o0)), l1, l2, l3, some (v_i x4)], [v_i (x4 - x4 / (10 : Int32) * (10 : Int32)), v_i (x4 / (10 : Int32)), v_r (some o0)], h)) rfl).trans ?_
  simp only [am_all]
  all_goals exact cj_d (by decide) (cj_d (by decide) (((am_Y_call (j := 37) (na := 3) (ci := 1) (fl := 0) rfl rfl rfl).trans (cj_d ⟨⟨Nat.le_of_ble_eq_true rfl, Nat.le_of_ble_eq_true rfl, Nat.le_of_ble_eq_true rfl, rfl⟩, Or.inr (Or.inr (show (1 : Nat) < 20 ∧ am_is h (some o0) 1 from ⟨by decide, (lr_is (F_o0.1 0 rfl))⟩))⟩ Iff.rfl))))

theorem b_X1_doDeed_135 {d : Nat} {Q : Option am_V → am_H → Prop} (h : am_H) (o0 : Nat) (x4 : Int32) (l1 l2 l3 : Option am_V) (F_o0 : y_Facts h o0) : ex_ (d + 1) 41 135 [some (v_r (some o0)), l1, l2, l3, some (v_i x4)] [] h Q ↔ ex_ d 38 0 [some (v_r (some o0)), some (v_i (x4 / (10 : Int32))), some (v_i (x4 - x4 / (10 : Int32) * (10 : Int32))), none, none] [] h (fun r h' => ex_ (d + 1) 41 149 [some (v_r (some o0)), l1, l2, l3, some (v_i x4)] (r.toList ++ []) h' Q) := by
  unfold ex_
  refine (am_Y_go 7 (ok := [¬ (10 : Int32) = 0, ¬ (10 : Int32) = 0]) (g := (146, [some (v_r (some o0)), l1, l2, l3, some (v_i x4)], [v_i (x4 - x4 / (10 : Int32) * (10 : Int32)), v_i (x4 / (10 : Int32)), v_r (some o0)], h)) rfl).trans ?_
  simp only [am_all]
  all_goals exact cj_d (by decide) (cj_d (by decide) (((am_Y_call (j := 38) (na := 3) (ci := 1) (fl := 0) rfl rfl rfl).trans (cj_d ⟨⟨Nat.le_of_ble_eq_true rfl, Nat.le_of_ble_eq_true rfl, Nat.le_of_ble_eq_true rfl, rfl⟩, Or.inr (Or.inr (show (1 : Nat) < 20 ∧ am_is h (some o0) 1 from ⟨by decide, (lr_is (F_o0.1 0 rfl))⟩))⟩ Iff.rfl))))

theorem b_X1_doDeed_150 {d : Nat} {Q : Option am_V → am_H → Prop} (h : am_H) (o0 : Nat) (x4 : Int32) (x3 : Int32) (l1 l2 : Option am_V) (F_o0 : y_Facts h o0) : ex_ (d + 1) 41 150 [some (v_r (some o0)), l1, l2, some (v_i x3), some (v_i x4)] [] h Q ↔ ex_ d 39 0 [some (v_r (some o0)), some (v_i (x4 - x4 / (10 : Int32) * (10 : Int32))), some (v_i (x4 / (10 : Int32))), some (v_i ((x3 / (100 : Int32)) - (10 : Int32))), none] [] h (fun r h' => ex_ (d + 1) 41 171 [some (v_r (some o0)), l1, l2, some (v_i x3), some (v_i x4)] (r.toList ++ []) h' Q) := by
  unfold ex_
  refine (am_Y_go 12 (ok := [¬ (10 : Int32) = 0, ¬ (10 : Int32) = 0, ¬ (100 : Int32) = 0]) (g := (168, [some (v_r (some o0)), l1, l2, some (v_i x3), some (v_i x4)], [v_i ((x3 / (100 : Int32)) - (10 : Int32)), v_i (x4 / (10 : Int32)), v_i (x4 - x4 / (10 : Int32) * (10 : Int32)), v_r (some o0)], h)) rfl).trans ?_
  simp only [am_all]
  all_goals exact cj_d (by decide) (cj_d (by decide) (cj_d (by decide) (((am_Y_call (j := 39) (na := 4) (ci := 1) (fl := 0) rfl rfl rfl).trans (cj_d ⟨⟨Nat.le_of_ble_eq_true rfl, Nat.le_of_ble_eq_true rfl, Nat.le_of_ble_eq_true rfl, rfl⟩, Or.inr (Or.inr (show (1 : Nat) < 20 ∧ am_is h (some o0) 1 from ⟨by decide, (lr_is (F_o0.1 0 rfl))⟩))⟩ Iff.rfl)))))

theorem b_X1_doDeed_104 {d : Nat} {Q : Option am_V → am_H → Prop} (h : am_H) (s0 : Int32) (l0 l1 l2 l3 l4 : Option am_V) : ex_ d 41 104 [l0, l1, l2, l3, l4] [v_i s0] h Q ↔ Q (some (v_i s0)) h := by
  unfold ex_
  exact ((am_Y_ret rfl rfl rfl).trans (am_r0))

theorem b_X1_doDeed_119 {d : Nat} {Q : Option am_V → am_H → Prop} (h : am_H) (s0 : Int32) (l0 l1 l2 l3 l4 : Option am_V) : ex_ d 41 119 [l0, l1, l2, l3, l4] [v_i s0] h Q ↔ Q (some (v_i s0)) h := by
  unfold ex_
  exact ((am_Y_ret rfl rfl rfl).trans (am_r0))

theorem b_X1_doDeed_134 {d : Nat} {Q : Option am_V → am_H → Prop} (h : am_H) (s0 : Int32) (l0 l1 l2 l3 l4 : Option am_V) : ex_ d 41 134 [l0, l1, l2, l3, l4] [v_i s0] h Q ↔ Q (some (v_i s0)) h := by
  unfold ex_
  exact ((am_Y_ret rfl rfl rfl).trans (am_r0))

theorem b_X1_doDeed_149 {d : Nat} {Q : Option am_V → am_H → Prop} (h : am_H) (s0 : Int32) (l0 l1 l2 l3 l4 : Option am_V) : ex_ d 41 149 [l0, l1, l2, l3, l4] [v_i s0] h Q ↔ Q (some (v_i s0)) h := by
  unfold ex_
  exact ((am_Y_ret rfl rfl rfl).trans (am_r0))

theorem b_X1_doDeed_171 {d : Nat} {Q : Option am_V → am_H → Prop} (h : am_H) (s0 : Int32) (l0 l1 l2 l3 l4 : Option am_V) : ex_ d 41 171 [l0, l1, l2, l3, l4] [v_i s0] h Q ↔ Q (some (v_i s0)) h := by
  unfold ex_
  exact ((am_Y_ret rfl rfl rfl).trans (am_r0))
