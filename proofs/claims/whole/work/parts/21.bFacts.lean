theorem b_X1_hasClass_0 {d : Nat} {Q : Option am_V → am_H → Prop} (h : am_H) (x1 : Int32) (l0 : Option am_V) : ex_ d 3 0 [l0, some (v_i x1)] [] h Q ↔ if x1 < 0 then ex_ d 3 22 [l0, some (v_i x1)] [] h Q else ex_ d 3 4 [l0, some (v_i x1)] [] h Q := by
  unfold ex_
  refine (am_Y_go 2 (ok := []) (g := (if x1 < 0 then 22 else 4, [l0, some (v_i x1)], [], h)) rfl).trans ?_
  exact am_Y_if

theorem b_X1_hasClass_22 {d : Nat} {Q : Option am_V → am_H → Prop} (h : am_H) (l0 l1 : Option am_V) : ex_ d 3 22 [l0, l1] [] h Q ↔ Q (some (v_i (0 : Int32))) h := by
  unfold ex_
  refine (am_Y_go 1 (ok := []) (g := (23, [l0, l1], [v_i (0 : Int32)], h)) rfl).trans ?_
  exact ((am_Y_ret rfl rfl rfl).trans (am_rz (show am_fit 1 0 from Or.inl rfl)))

theorem b_X1_hasClass_4 {d : Nat} {Q : Option am_V → am_H → Prop} (h : am_H) (x1 : Int32) (o0 : Nat) (F_o0 : y_Facts h o0) : ex_ d 3 4 [some (v_r (some o0)), some (v_i x1)] [] h Q ↔ if (h_i h o0 0) ≤ x1 then ex_ d 3 22 [some (v_r (some o0)), some (v_i x1)] [] h Q else ex_ d 3 12 [some (v_r (some o0)), some (v_i x1)] [] h Q := by
  unfold ex_
  refine (am_Y_go 4 (ok := [am_is h (some o0) 1]) (g := (if (h_i h o0 0) ≤ x1 then 22 else 12, [some (v_r (some o0)), some (v_i x1)], [], h)) rfl).trans ?_
  simp only [am_all]
  exact cj_d (lr_is (F_o0.1 0 rfl)) (am_Y_if)

theorem b_X1_hasClass_12 {d : Nat} {Q : Option am_V → am_H → Prop} (h : am_H) (x1 : Int32) (l0 : Option am_V) : ex_ d 3 12 [l0, some (v_i x1)] [] h Q ↔ if (10 : Int32) ≤ x1 then ex_ d 3 22 [l0, some (v_i x1)] [] h Q else ex_ d 3 18 [l0, some (v_i x1)] [] h Q := by
  unfold ex_
  refine (am_Y_go 3 (ok := []) (g := (if (10 : Int32) ≤ x1 then 22 else 18, [l0, some (v_i x1)], [], h)) rfl).trans ?_
  exact am_Y_if

theorem b_X1_hasClass_18 {d : Nat} {Q : Option am_V → am_H → Prop} (h : am_H) (l0 l1 : Option am_V) : ex_ d 3 18 [l0, l1] [] h Q ↔ Q (some (v_i (1 : Int32))) h := by
  unfold ex_
  refine (am_Y_go 2 (ok := []) (g := (23, [l0, l1], [v_i (1 : Int32)], h)) rfl).trans ?_
  exact ((am_Y_ret rfl rfl rfl).trans (am_rz (show am_fit 1 1 from Or.inr rfl)))

theorem b_X1_parentCount_0 {d : Nat} {Q : Option am_V → am_H → Prop} (h : am_H) (x1 : Int32) (l0 : Option am_V) : ex_ d 4 0 [l0, some (v_i x1)] [] h Q ↔ if x1 < 0 then ex_ d 4 19 [l0, some (v_i x1)] [] h Q else ex_ d 4 4 [l0, some (v_i x1)] [] h Q := by
  unfold ex_
  refine (am_Y_go 2 (ok := []) (g := (if x1 < 0 then 19 else 4, [l0, some (v_i x1)], [], h)) rfl).trans ?_
  exact am_Y_if

theorem b_X1_parentCount_19 {d : Nat} {Q : Option am_V → am_H → Prop} (h : am_H) (l0 l1 : Option am_V) : ex_ d 4 19 [l0, l1] [] h Q ↔ Q (some (v_i (0 : Int32))) h := by
  unfold ex_
  refine (am_Y_go 1 (ok := []) (g := (20, [l0, l1], [v_i (0 : Int32)], h)) rfl).trans ?_
  exact ((am_Y_ret rfl rfl rfl).trans (am_r0))

theorem b_X1_parentCount_4 {d : Nat} {Q : Option am_V → am_H → Prop} (h : am_H) (x1 : Int32) (l0 : Option am_V) : ex_ d 4 4 [l0, some (v_i x1)] [] h Q ↔ if (10 : Int32) ≤ x1 then ex_ d 4 19 [l0, some (v_i x1)] [] h Q else ex_ d 4 10 [l0, some (v_i x1)] [] h Q := by
  unfold ex_
  refine (am_Y_go 3 (ok := []) (g := (if (10 : Int32) ≤ x1 then 19 else 10, [l0, some (v_i x1)], [], h)) rfl).trans ?_
  exact am_Y_if

theorem b_X1_parentCount_10 {d : Nat} {Q : Option am_V → am_H → Prop} (h : am_H) (o0 : Nat) (x1 : Int32) (F_o0 : y_Facts h o0) : ex_ d 4 10 [some (v_r (some o0)), some (v_i x1)] [] h Q ↔ vp_in x1 10 ∧ Q (some (v_i (h_i h (o0 + 1) (Int32.toNatClampNeg x1)))) h := by
  have e0 : h_r h o0 2 = some (o0 + 1) := F_o0.2 (0, 2, 1) (by decide)
  unfold ex_
  refine (am_Y_go 5 (ok := [am_is h (some o0) 1, am_ar h ((h_r h o0 2)) 20 x1]) (g := (20, [some (v_r (some o0)), some (v_i x1)], [v_i (h_i h ((h_r h o0 2).getD 0) (Int32.toNatClampNeg x1))], h)) rfl).trans ?_
  simp only [e0, Option.getD_some, am_all]
  exact cj_d (lr_is (F_o0.1 0 rfl)) (cj_k (lr_ar (F_o0.1 1 rfl)) (((am_Y_ret rfl rfl rfl).trans (am_r0))))

theorem b_X1_parentAt_0 {d : Nat} {Q : Option am_V → am_H → Prop} (h : am_H) (x2 : Int32) (l0 l1 : Option am_V) : ex_ d 5 0 [l0, l1, some (v_i x2)] [] h Q ↔ if x2 < 0 then ex_ d 5 31 [l0, l1, some (v_i x2)] [] h Q else ex_ d 5 4 [l0, l1, some (v_i x2)] [] h Q := by
  unfold ex_
  refine (am_Y_go 2 (ok := []) (g := (if x2 < 0 then 31 else 4, [l0, l1, some (v_i x2)], [], h)) rfl).trans ?_
  exact am_Y_if

theorem b_X1_parentAt_31 {d : Nat} {Q : Option am_V → am_H → Prop} (h : am_H) (l0 l1 l2 : Option am_V) : ex_ d 5 31 [l0, l1, l2] [] h Q ↔ Q (some (v_i (-1 : Int32))) h := by
  unfold ex_
  refine (am_Y_go 1 (ok := []) (g := (32, [l0, l1, l2], [v_i (-1 : Int32)], h)) rfl).trans ?_
  exact ((am_Y_ret rfl rfl rfl).trans (am_r0))

theorem b_X1_parentAt_4 {d : Nat} {Q : Option am_V → am_H → Prop} (h : am_H) (x2 : Int32) (o0 : Nat) (x1 : Int32) (F_o0 : y_Facts h o0) : ex_ (d + 1) 5 4 [some (v_r (some o0)), some (v_i x1), some (v_i x2)] [] h Q ↔ ex_ d 4 0 [some (v_r (some o0)), some (v_i x1)] [] h (fun r h' => ex_ (d + 1) 5 10 [some (v_r (some o0)), some (v_i x1), some (v_i x2)] (r.toList ++ [v_i x2]) h' Q) := by
  unfold ex_
  refine (am_Y_go 3 (ok := []) (g := (7, [some (v_r (some o0)), some (v_i x1), some (v_i x2)], [v_i x1, v_r (some o0), v_i x2], h)) rfl).trans ?_
  exact ((am_Y_call (j := 4) (na := 2) (ci := 1) (fl := 0) rfl rfl rfl).trans (cj_d ⟨⟨Nat.le_of_ble_eq_true rfl, Nat.le_of_ble_eq_true rfl, Nat.le_of_ble_eq_true rfl, rfl⟩, Or.inr (Or.inr (show (1 : Nat) < 20 ∧ am_is h (some o0) 1 from ⟨by decide, (lr_is (F_o0.1 0 rfl))⟩))⟩ Iff.rfl))

theorem b_X1_parentAt_10 {d : Nat} {Q : Option am_V → am_H → Prop} (h : am_H) (s0 : Int32) (s1 : Int32) (l0 l1 l2 : Option am_V) : ex_ d 5 10 [l0, l1, l2] [v_i s0, v_i s1] h Q ↔ if s0 ≤ s1 then ex_ d 5 31 [l0, l1, l2] [] h Q else ex_ d 5 13 [l0, l1, l2] [] h Q := by
  unfold ex_
  refine (am_Y_go 1 (ok := []) (g := (if s0 ≤ s1 then 31 else 13, [l0, l1, l2], [], h)) rfl).trans ?_
  exact am_Y_if

theorem b_X1_parentAt_13 {d : Nat} {Q : Option am_V → am_H → Prop} (h : am_H) (x2 : Int32) (l0 l1 : Option am_V) : ex_ d 5 13 [l0, l1, some (v_i x2)] [] h Q ↔ if (4 : Int32) ≤ x2 then ex_ d 5 31 [l0, l1, some (v_i x2)] [] h Q else ex_ d 5 18 [l0, l1, some (v_i x2)] [] h Q := by
  unfold ex_
  refine (am_Y_go 3 (ok := []) (g := (if (4 : Int32) ≤ x2 then 31 else 18, [l0, l1, some (v_i x2)], [], h)) rfl).trans ?_
  exact am_Y_if

theorem b_X1_parentAt_18 {d : Nat} {Q : Option am_V → am_H → Prop} (h : am_H) (o0 : Nat) (x1 : Int32) (x2 : Int32) (F_o0 : y_Facts h o0) : ex_ d 5 18 [some (v_r (some o0)), some (v_i x1), some (v_i x2)] [] h Q ↔ vp_in ((x1 * (4 : Int32)) + x2) 40 ∧ Q (some (v_i (h_i h (o0 + 2) (Int32.toNatClampNeg ((x1 * (4 : Int32)) + x2))))) h := by
  have e0 : h_r h o0 3 = some (o0 + 2) := F_o0.2 (0, 3, 2) (by decide)
  unfold ex_
  refine (am_Y_go 9 (ok := [am_is h (some o0) 1, am_ar h ((h_r h o0 3)) 20 ((x1 * (4 : Int32)) + x2)]) (g := (32, [some (v_r (some o0)), some (v_i x1), some (v_i x2)], [v_i (h_i h ((h_r h o0 3).getD 0) (Int32.toNatClampNeg ((x1 * (4 : Int32)) + x2)))], h)) rfl).trans ?_
  simp only [e0, Option.getD_some, am_all]
  exact cj_d (lr_is (F_o0.1 0 rfl)) (cj_k (lr_ar (F_o0.1 2 rfl)) (((am_Y_ret rfl rfl rfl).trans (am_r0))))

theorem b_X1_parentPlace_0 {d : Nat} {Q : Option am_V → am_H → Prop} (h : am_H) (l0 l1 l2 l3 : Option am_V) : ex_ d 29 0 [l0, l1, l2, l3] [] h Q ↔ ex_ d 29 2 [l0, l1, l2, some (v_i (0 : Int32))] [] h Q := by
  unfold ex_
  refine (am_Y_go 2 (ok := []) (g := (2, [l0, l1, l2, some (v_i (0 : Int32))], [], h)) rfl).trans ?_
  exact Iff.rfl

theorem b_X1_parentPlace_2 {d : Nat} {Q : Option am_V → am_H → Prop} (h : am_H) (x3 : Int32) (o0 : Nat) (x1 : Int32) (l2 : Option am_V) (F_o0 : y_Facts h o0) : ex_ (d + 1) 29 2 [some (v_r (some o0)), some (v_i x1), l2, some (v_i x3)] [] h Q ↔ ex_ d 4 0 [some (v_r (some o0)), some (v_i x1)] [] h (fun r h' => ex_ (d + 1) 29 8 [some (v_r (some o0)), some (v_i x1), l2, some (v_i x3)] (r.toList ++ [v_i x3]) h' Q) := by
  unfold ex_
  refine (am_Y_go 3 (ok := []) (g := (5, [some (v_r (some o0)), some (v_i x1), l2, some (v_i x3)], [v_i x1, v_r (some o0), v_i x3], h)) rfl).trans ?_
  exact ((am_Y_call (j := 4) (na := 2) (ci := 1) (fl := 0) rfl rfl rfl).trans (cj_d ⟨⟨Nat.le_of_ble_eq_true rfl, Nat.le_of_ble_eq_true rfl, Nat.le_of_ble_eq_true rfl, rfl⟩, Or.inr (Or.inr (show (1 : Nat) < 20 ∧ am_is h (some o0) 1 from ⟨by decide, (lr_is (F_o0.1 0 rfl))⟩))⟩ Iff.rfl))

theorem b_X1_parentPlace_8 {d : Nat} {Q : Option am_V → am_H → Prop} (h : am_H) (s0 : Int32) (s1 : Int32) (l0 l1 l2 l3 : Option am_V) : ex_ d 29 8 [l0, l1, l2, l3] [v_i s0, v_i s1] h Q ↔ if s0 ≤ s1 then ex_ d 29 29 [l0, l1, l2, l3] [] h Q else ex_ d 29 11 [l0, l1, l2, l3] [] h Q := by
  unfold ex_
  refine (am_Y_go 1 (ok := []) (g := (if s0 ≤ s1 then 29 else 11, [l0, l1, l2, l3], [], h)) rfl).trans ?_
  exact am_Y_if

theorem b_X1_parentPlace_29 {d : Nat} {Q : Option am_V → am_H → Prop} (h : am_H) (l0 l1 l2 l3 : Option am_V) : ex_ d 29 29 [l0, l1, l2, l3] [] h Q ↔ Q (some (v_i (-1 : Int32))) h := by
  unfold ex_
  refine (am_Y_go 1 (ok := []) (g := (30, [l0, l1, l2, l3], [v_i (-1 : Int32)], h)) rfl).trans ?_
  exact ((am_Y_ret rfl rfl rfl).trans (am_r0))

theorem b_X1_parentPlace_11 {d : Nat} {Q : Option am_V → am_H → Prop} (h : am_H) (o0 : Nat) (x1 : Int32) (x3 : Int32) (l2 : Option am_V) (F_o0 : y_Facts h o0) : ex_ (d + 1) 29 11 [some (v_r (some o0)), some (v_i x1), l2, some (v_i x3)] [] h Q ↔ ex_ d 5 0 [some (v_r (some o0)), some (v_i x1), some (v_i x3)] [] h (fun r h' => ex_ (d + 1) 29 17 [some (v_r (some o0)), some (v_i x1), l2, some (v_i x3)] (r.toList ++ []) h' Q) := by
  unfold ex_
  refine (am_Y_go 3 (ok := []) (g := (14, [some (v_r (some o0)), some (v_i x1), l2, some (v_i x3)], [v_i x3, v_i x1, v_r (some o0)], h)) rfl).trans ?_
  exact ((am_Y_call (j := 5) (na := 3) (ci := 1) (fl := 0) rfl rfl rfl).trans (cj_d ⟨⟨Nat.le_of_ble_eq_true rfl, Nat.le_of_ble_eq_true rfl, Nat.le_of_ble_eq_true rfl, rfl⟩, Or.inr (Or.inr (show (1 : Nat) < 20 ∧ am_is h (some o0) 1 from ⟨by decide, (lr_is (F_o0.1 0 rfl))⟩))⟩ Iff.rfl))

theorem b_X1_parentPlace_17 {d : Nat} {Q : Option am_V → am_H → Prop} (h : am_H) (s0 : Int32) (x2 : Int32) (l0 l1 l3 : Option am_V) : ex_ d 29 17 [l0, l1, some (v_i x2), l3] [v_i s0] h Q ↔ if ¬ s0 = x2 then ex_ d 29 23 [l0, l1, some (v_i x2), l3] [] h Q else ex_ d 29 21 [l0, l1, some (v_i x2), l3] [] h Q := by
  unfold ex_
  refine (am_Y_go 2 (ok := []) (g := (if ¬ s0 = x2 then 23 else 21, [l0, l1, some (v_i x2), l3], [], h)) rfl).trans ?_
  exact am_Y_if

theorem b_X1_parentPlace_23 {d : Nat} {Q : Option am_V → am_H → Prop} (h : am_H) (x3 : Int32) (l0 l1 l2 : Option am_V) : ex_ d 29 23 [l0, l1, l2, some (v_i x3)] [] h Q ↔ ex_ d 29 2 [l0, l1, l2, some (v_i (x3 + (1 : Int32)))] [] h Q := by
  unfold ex_
  refine (am_Y_go 2 (ok := []) (g := (2, [l0, l1, l2, some (v_i (x3 + (1 : Int32)))], [], h)) rfl).trans ?_
  exact Iff.rfl

theorem b_X1_parentPlace_21 {d : Nat} {Q : Option am_V → am_H → Prop} (h : am_H) (x3 : Int32) (l0 l1 l2 : Option am_V) : ex_ d 29 21 [l0, l1, l2, some (v_i x3)] [] h Q ↔ Q (some (v_i x3)) h := by
  unfold ex_
  refine (am_Y_go 1 (ok := []) (g := (22, [l0, l1, l2, some (v_i x3)], [v_i x3], h)) rfl).trans ?_
  exact ((am_Y_ret rfl rfl rfl).trans (am_r0))

theorem b_X1_ancestors_0 {d : Nat} {Q : Option am_V → am_H → Prop} (h : am_H) (o0 : Nat) (x1 : Int32) (l2 l3 l4 : Option am_V) (F_o0 : y_Facts h o0) : ex_ (d + 1) 6 0 [some (v_r (some o0)), some (v_i x1), l2, l3, l4] [] h Q ↔ ex_ d 3 0 [some (v_r (some o0)), some (v_i x1)] [] h (fun r h' => ex_ (d + 1) 6 5 [some (v_r (some o0)), some (v_i x1), l2, l3, l4] (r.toList ++ []) h' Q) := by
  unfold ex_
  refine (am_Y_go 2 (ok := []) (g := (2, [some (v_r (some o0)), some (v_i x1), l2, l3, l4], [v_i x1, v_r (some o0)], h)) rfl).trans ?_
  exact ((am_Y_call (j := 3) (na := 2) (ci := 1) (fl := 0) rfl rfl rfl).trans (cj_d ⟨⟨Nat.le_of_ble_eq_true rfl, Nat.le_of_ble_eq_true rfl, Nat.le_of_ble_eq_true rfl, rfl⟩, Or.inr (Or.inr (show (1 : Nat) < 20 ∧ am_is h (some o0) 1 from ⟨by decide, (lr_is (F_o0.1 0 rfl))⟩))⟩ Iff.rfl))

theorem b_X1_ancestors_5 {d : Nat} {Q : Option am_V → am_H → Prop} (h : am_H) (s0 : Int32) (l0 l1 l2 l3 l4 : Option am_V) : ex_ d 6 5 [l0, l1, l2, l3, l4] [v_i s0] h Q ↔ if ¬ s0 = 0 then ex_ d 6 10 [l0, l1, l2, l3, l4] [] h Q else ex_ d 6 8 [l0, l1, l2, l3, l4] [] h Q := by
  unfold ex_
  refine (am_Y_go 1 (ok := []) (g := (if ¬ s0 = 0 then 10 else 8, [l0, l1, l2, l3, l4], [], h)) rfl).trans ?_
  exact am_Y_if

theorem b_X1_ancestors_10 {d : Nat} {Q : Option am_V → am_H → Prop} (h : am_H) (x1 : Int32) (l0 l2 l3 l4 : Option am_V) : ex_ d 6 10 [l0, some (v_i x1), l2, l3, l4] [] h Q ↔ ex_ d 6 16 [l0, some (v_i x1), some (v_i ((1 : Int32) <<< (x1 &&& 31))), some (v_i x1), l4] [] h Q := by
  unfold ex_
  refine (am_Y_go 6 (ok := []) (g := (16, [l0, some (v_i x1), some (v_i ((1 : Int32) <<< (x1 &&& 31))), some (v_i x1), l4], [], h)) rfl).trans ?_
  exact Iff.rfl

theorem b_X1_ancestors_8 {d : Nat} {Q : Option am_V → am_H → Prop} (h : am_H) (l0 l1 l2 l3 l4 : Option am_V) : ex_ d 6 8 [l0, l1, l2, l3, l4] [] h Q ↔ Q (some (v_i (0 : Int32))) h := by
  unfold ex_
  refine (am_Y_go 1 (ok := []) (g := (9, [l0, l1, l2, l3, l4], [v_i (0 : Int32)], h)) rfl).trans ?_
  exact ((am_Y_ret rfl rfl rfl).trans (am_r0))

theorem b_X1_ancestors_16 {d : Nat} {Q : Option am_V → am_H → Prop} (h : am_H) (x3 : Int32) (l0 l1 l2 l4 : Option am_V) : ex_ d 6 16 [l0, l1, l2, some (v_i x3), l4] [] h Q ↔ if x3 ≤ 0 then ex_ d 6 65 [l0, l1, l2, some (v_i x3), l4] [] h Q else ex_ d 6 20 [l0, l1, l2, some (v_i x3), l4] [] h Q := by
  unfold ex_
  refine (am_Y_go 2 (ok := []) (g := (if x3 ≤ 0 then 65 else 20, [l0, l1, l2, some (v_i x3), l4], [], h)) rfl).trans ?_
  exact am_Y_if

theorem b_X1_ancestors_65 {d : Nat} {Q : Option am_V → am_H → Prop} (h : am_H) (x2 : Int32) (l0 l1 l3 l4 : Option am_V) : ex_ d 6 65 [l0, l1, some (v_i x2), l3, l4] [] h Q ↔ Q (some (v_i x2)) h := by
  unfold ex_
  refine (am_Y_go 1 (ok := []) (g := (66, [l0, l1, some (v_i x2), l3, l4], [v_i x2], h)) rfl).trans ?_
  exact ((am_Y_ret rfl rfl rfl).trans (am_r0))

theorem b_X1_ancestors_20 {d : Nat} {Q : Option am_V → am_H → Prop} (h : am_H) (l0 l1 l2 l3 l4 : Option am_V) : ex_ d 6 20 [l0, l1, l2, l3, l4] [] h Q ↔ ex_ d 6 23 [l0, l1, l2, l3, some (v_i (0 : Int32))] [] h Q := by
  unfold ex_
  refine (am_Y_go 2 (ok := []) (g := (23, [l0, l1, l2, l3, some (v_i (0 : Int32))], [], h)) rfl).trans ?_
  exact Iff.rfl

theorem b_X1_ancestors_23 {d : Nat} {Q : Option am_V → am_H → Prop} (h : am_H) (x4 : Int32) (o0 : Nat) (x3 : Int32) (l1 l2 : Option am_V) (F_o0 : y_Facts h o0) : ex_ (d + 1) 6 23 [some (v_r (some o0)), l1, l2, some (v_i x3), some (v_i x4)] [] h Q ↔ ex_ d 4 0 [some (v_r (some o0)), some (v_i x3)] [] h (fun r h' => ex_ (d + 1) 6 30 [some (v_r (some o0)), l1, l2, some (v_i x3), some (v_i x4)] (r.toList ++ [v_i x4]) h' Q) := by
  unfold ex_
  refine (am_Y_go 3 (ok := []) (g := (27, [some (v_r (some o0)), l1, l2, some (v_i x3), some (v_i x4)], [v_i x3, v_r (some o0), v_i x4], h)) rfl).trans ?_
  exact ((am_Y_call (j := 4) (na := 2) (ci := 1) (fl := 0) rfl rfl rfl).trans (cj_d ⟨⟨Nat.le_of_ble_eq_true rfl, Nat.le_of_ble_eq_true rfl, Nat.le_of_ble_eq_true rfl, rfl⟩, Or.inr (Or.inr (show (1 : Nat) < 20 ∧ am_is h (some o0) 1 from ⟨by decide, (lr_is (F_o0.1 0 rfl))⟩))⟩ Iff.rfl))

theorem b_X1_ancestors_30 {d : Nat} {Q : Option am_V → am_H → Prop} (h : am_H) (s0 : Int32) (s1 : Int32) (l0 l1 l2 l3 l4 : Option am_V) : ex_ d 6 30 [l0, l1, l2, l3, l4] [v_i s0, v_i s1] h Q ↔ if s0 ≤ s1 then ex_ d 6 59 [l0, l1, l2, l3, l4] [] h Q else ex_ d 6 33 [l0, l1, l2, l3, l4] [] h Q := by
  unfold ex_
  refine (am_Y_go 1 (ok := []) (g := (if s0 ≤ s1 then 59 else 33, [l0, l1, l2, l3, l4], [], h)) rfl).trans ?_
  exact am_Y_if

theorem b_X1_ancestors_59 {d : Nat} {Q : Option am_V → am_H → Prop} (h : am_H) (x3 : Int32) (l0 l1 l2 l4 : Option am_V) : ex_ d 6 59 [l0, l1, l2, some (v_i x3), l4] [] h Q ↔ ex_ d 6 16 [l0, l1, l2, some (v_i (x3 + (-1 : Int32))), l4] [] h Q := by
  unfold ex_
  refine (am_Y_go 2 (ok := []) (g := (16, [l0, l1, l2, some (v_i (x3 + (-1 : Int32))), l4], [], h)) rfl).trans ?_
  exact Iff.rfl

theorem b_X1_ancestors_33 {d : Nat} {Q : Option am_V → am_H → Prop} (h : am_H) (x2 : Int32) (x3 : Int32) (l0 l1 l4 : Option am_V) : ex_ d 6 33 [l0, l1, some (v_i x2), some (v_i x3), l4] [] h Q ↔ if ((x2 >>> (x3 &&& 31)) &&& (1 : Int32)) = 0 then ex_ d 6 59 [l0, l1, some (v_i x2), some (v_i x3), l4] [] h Q else ex_ d 6 41 [l0, l1, some (v_i x2), some (v_i x3), l4] [] h Q := by
  unfold ex_
  refine (am_Y_go 6 (ok := []) (g := (if ((x2 >>> (x3 &&& 31)) &&& (1 : Int32)) = 0 then 59 else 41, [l0, l1, some (v_i x2), some (v_i x3), l4], [], h)) rfl).trans ?_
  exact am_Y_if

theorem b_X1_ancestors_41 {d : Nat} {Q : Option am_V → am_H → Prop} (h : am_H) (x2 : Int32) (o0 : Nat) (x3 : Int32) (x4 : Int32) (l1 : Option am_V) (F_o0 : y_Facts h o0) : ex_ (d + 1) 6 41 [some (v_r (some o0)), l1, some (v_i x2), some (v_i x3), some (v_i x4)] [] h Q ↔ ex_ d 5 0 [some (v_r (some o0)), some (v_i x3), some (v_i x4)] [] h (fun r h' => ex_ (d + 1) 6 50 [some (v_r (some o0)), l1, some (v_i x2), some (v_i x3), some (v_i x4)] (r.toList ++ [v_i (1 : Int32), v_i x2]) h' Q) := by
  unfold ex_
  refine (am_Y_go 5 (ok := []) (g := (47, [some (v_r (some o0)), l1, some (v_i x2), some (v_i x3), some (v_i x4)], [v_i x4, v_i x3, v_r (some o0), v_i (1 : Int32), v_i x2], h)) rfl).trans ?_
  exact ((am_Y_call (j := 5) (na := 3) (ci := 1) (fl := 0) rfl rfl rfl).trans (cj_d ⟨⟨Nat.le_of_ble_eq_true rfl, Nat.le_of_ble_eq_true rfl, Nat.le_of_ble_eq_true rfl, rfl⟩, Or.inr (Or.inr (show (1 : Nat) < 20 ∧ am_is h (some o0) 1 from ⟨by decide, (lr_is (F_o0.1 0 rfl))⟩))⟩ Iff.rfl))

theorem b_X1_ancestors_50 {d : Nat} {Q : Option am_V → am_H → Prop} (h : am_H) (s0 : Int32) (s1 : Int32) (s2 : Int32) (x4 : Int32) (l0 l1 l2 l3 : Option am_V) : ex_ d 6 50 [l0, l1, l2, l3, some (v_i x4)] [v_i s0, v_i s1, v_i s2] h Q ↔ ex_ d 6 23 [l0, l1, some (v_i (s2 ||| (s1 <<< (s0 &&& 31)))), l3, some (v_i (x4 + (1 : Int32)))] [] h Q := by
  unfold ex_
  refine (am_Y_go 5 (ok := []) (g := (23, [l0, l1, some (v_i (s2 ||| (s1 <<< (s0 &&& 31)))), l3, some (v_i (x4 + (1 : Int32)))], [], h)) rfl).trans ?_
  exact Iff.rfl
