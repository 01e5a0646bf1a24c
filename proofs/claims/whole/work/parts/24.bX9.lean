theorem b_X9_isMissing_0 {d : Nat} {Q : Option am_V → am_H → Prop} (h : am_H) (o0 : Nat) (F_o0 : y_Tray h o0) : ex_ d 142 0 [some (v_r (some o0))] [] h Q ↔ if ¬ (h_i h o0 0) = (-1 : Int32) then ex_ d 142 12 [some (v_r (some o0))] [] h Q else ex_ d 142 8 [some (v_r (some o0))] [] h Q := by
  unfold ex_
  refine (am_Y_go 4 (ok := [am_is h (some o0) 9]) (g := (if ¬ (h_i h o0 0) = (-1 : Int32) then 12 else 8, [some (v_r (some o0))], [], h)) rfl).trans ?_
  simp only [am_all]
  all_goals exact cj_d (lr_is (F_o0.1 0 rfl)) (am_Y_if)

theorem b_X9_isMissing_12 {d : Nat} {Q : Option am_V → am_H → Prop} (h : am_H) (l0 : Option am_V) : ex_ d 142 12 [l0] [] h Q ↔ Q (some (v_i (0 : Int32))) h := by
  unfold ex_
  refine (am_Y_go 1 (ok := []) (g := (13, [l0], [v_i (0 : Int32)], h)) rfl).trans ?_
  all_goals exact ((am_Y_ret rfl rfl rfl).trans (am_rz (show am_fit 1 0 from Or.inl rfl)))

theorem b_X9_isMissing_8 {d : Nat} {Q : Option am_V → am_H → Prop} (h : am_H) (l0 : Option am_V) : ex_ d 142 8 [l0] [] h Q ↔ Q (some (v_i (1 : Int32))) h := by
  unfold ex_
  refine (am_Y_go 2 (ok := []) (g := (13, [l0], [v_i (1 : Int32)], h)) rfl).trans ?_
  all_goals exact ((am_Y_ret rfl rfl rfl).trans (am_rz (show am_fit 1 1 from Or.inr rfl)))

theorem b_X9_begin_0 {d : Nat} {Q : Option am_V → am_H → Prop} (h : am_H) (o0 : Nat) (x1 : Int32) (x2 : Int32) (F_o0 : y_Tray h o0) : ex_ (d + 1) 144 0 [some (v_r (some o0)), some (v_i x1), some (v_i x2)] [] h Q ↔ ex_ d 143 0 [some (v_r (some (o0 + 1))), some (v_l (0 : Int64)), none, none, none] [] (p_i (p_i h o0 0 x1) o0 1 x2) (fun r h' => ex_ (d + 1) 144 18 [some (v_r (some o0)), some (v_i x1), some (v_i x2)] (r.toList ++ []) h' Q) := by
  have e0 : h_r h o0 2 = some (o0 + 1) := F_o0.2 (0, 2, 1) (by decide)
  unfold ex_
  refine (am_Y_go 9 (ok := [am_is h (some o0) 9, am_is h (some o0) 9, am_is h (some o0) 9]) (g := (15, [some (v_r (some o0)), some (v_i x1), some (v_i x2)], [v_l (0 : Int64), v_r ((h_r h o0 2))], (p_i (p_i h o0 0 x1) o0 1 x2))) rfl).trans ?_
  simp only [e0, Option.getD_some, am_all]
  all_goals exact cj_d (lr_is (F_o0.1 0 rfl)) (cj_d (lr_is (F_o0.1 0 rfl)) (cj_d (lr_is (F_o0.1 0 rfl)) (((am_Y_call (j := 143) (na := 2) (ci := 0) (fl := 2) rfl rfl rfl).trans (cj_d ⟨⟨Nat.le_of_ble_eq_true rfl, Nat.le_of_ble_eq_true rfl, Nat.le_of_ble_eq_true rfl, rfl⟩, Or.inl rfl⟩ Iff.rfl)))))

theorem b_X9_begin_18 {d : Nat} {Q : Option am_V → am_H → Prop} (h : am_H) (l0 l1 l2 : Option am_V) : ex_ d 144 18 [l0, l1, l2] [] h Q ↔ Q (none) h := by
  unfold ex_
  exact ((am_Y_ret rfl rfl rfl).trans (am_rz rfl))

theorem b_X9_at_0 {d : Nat} {Q : Option am_V → am_H → Prop} (h : am_H) (x1 : Int32) (l0 : Option am_V) : ex_ d 145 0 [l0, some (v_i x1)] [] h Q ↔ if x1 < 0 then ex_ d 145 19 [l0, some (v_i x1)] [] h Q else ex_ d 145 4 [l0, some (v_i x1)] [] h Q := by
  unfold ex_
  refine (am_Y_go 2 (ok := []) (g := (if x1 < 0 then 19 else 4, [l0, some (v_i x1)], [], h)) rfl).trans ?_
  all_goals exact am_Y_if

theorem b_X9_at_19 {d : Nat} {Q : Option am_V → am_H → Prop} (h : am_H) (l0 l1 : Option am_V) : ex_ d 145 19 [l0, l1] [] h Q ↔ Q (some (v_l (0 : Int64))) h := by
  unfold ex_
  refine (am_Y_go 1 (ok := []) (g := (20, [l0, l1], [v_l (0 : Int64)], h)) rfl).trans ?_
  all_goals exact ((am_Y_ret rfl rfl rfl).trans (am_rz rfl))

theorem b_X9_at_4 {d : Nat} {Q : Option am_V → am_H → Prop} (h : am_H) (x1 : Int32) (l0 : Option am_V) : ex_ d 145 4 [l0, some (v_i x1)] [] h Q ↔ if (40 : Int32) ≤ x1 then ex_ d 145 19 [l0, some (v_i x1)] [] h Q else ex_ d 145 10 [l0, some (v_i x1)] [] h Q := by
  unfold ex_
  refine (am_Y_go 3 (ok := []) (g := (if (40 : Int32) ≤ x1 then 19 else 10, [l0, some (v_i x1)], [], h)) rfl).trans ?_
  all_goals exact am_Y_if

theorem b_X9_at_10 {d : Nat} {Q : Option am_V → am_H → Prop} (h : am_H) (o0 : Nat) (x1 : Int32) (F_o0 : y_Tray h o0) : ex_ d 145 10 [some (v_r (some o0)), some (v_i x1)] [] h Q ↔ vp_in x1 40 ∧ Q (some (v_l (h_j h (o0 + 1) (Int32.toNatClampNeg x1)))) h := by
  have e0 : h_r h o0 2 = some (o0 + 1) := F_o0.2 (0, 2, 1) (by decide)
  unfold ex_
  refine (am_Y_go 5 (ok := [am_is h (some o0) 9, am_ar h ((h_r h o0 2)) 23 x1]) (g := (20, [some (v_r (some o0)), some (v_i x1)], [v_l (h_j h ((h_r h o0 2).getD 0) (Int32.toNatClampNeg x1))], h)) rfl).trans ?_
  simp only [e0, Option.getD_some, am_all]
  all_goals exact cj_d (lr_is (F_o0.1 0 rfl)) (cj_k (lr_ar (F_o0.1 1 rfl)) (((am_Y_ret rfl rfl rfl).trans (am_rz rfl))))

theorem b_X9_cut_0 {d : Nat} {Q : Option am_V → am_H → Prop} (h : am_H) (o0 : Nat) (l1 l2 : Option am_V) (F_o0 : y_Tray h o0) : ex_ d 146 0 [some (v_r (some o0)), l1, l2] [] h Q ↔ if (h_i h o0 0) = (0 : Int32) then ex_ d 146 32 [some (v_r (some o0)), l1, l2] [] h Q else if (h_i h o0 0) = (1 : Int32) then ex_ d 146 37 [some (v_r (some o0)), l1, l2] [] h Q else if (h_i h o0 0) = (2 : Int32) then ex_ d 146 42 [some (v_r (some o0)), l1, l2] [] h Q else ex_ d 146 46 [some (v_r (some o0)), l1, l2] [] h Q := by
  unfold ex_
  refine (am_Y_go 3 (ok := [am_is h (some o0) 9]) (g := (am_sw (h_i h o0 0) 46 [((0 : Int32), 32), ((1 : Int32), 37), ((2 : Int32), 42)], [some (v_r (some o0)), l1, l2], [], h)) rfl).trans ?_
  simp only [am_all]
  all_goals exact cj_d (lr_is (F_o0.1 0 rfl)) ((by simp only [am_sw, am_Y_if, am_all]))

theorem b_X9_cut_46 {d : Nat} {Q : Option am_V → am_H → Prop} (h : am_H) (x1 : Int64) (l0 l2 : Option am_V) : ex_ d 146 46 [l0, some (v_l x1), l2] [] h Q ↔ Q (some (v_l x1)) h := by
  unfold ex_
  refine (am_Y_go 1 (ok := []) (g := (47, [l0, some (v_l x1), l2], [v_l x1], h)) rfl).trans ?_
  all_goals exact ((am_Y_ret rfl rfl rfl).trans (am_rz rfl))

theorem b_X9_cut_32 {d : Nat} {Q : Option am_V → am_H → Prop} (h : am_H) (x1 : Int64) (l0 l2 : Option am_V) : ex_ d 146 32 [l0, some (v_l x1), l2] [] h Q ↔ Q (some (v_l (Int32.toInt64 (Int8.toInt32 (Int32.toInt8 (Int64.toInt32 x1)))))) h := by
  unfold ex_
  refine (am_Y_go 4 (ok := []) (g := (36, [l0, some (v_l x1), l2], [v_l (Int32.toInt64 (Int8.toInt32 (Int32.toInt8 (Int64.toInt32 x1))))], h)) rfl).trans ?_
  all_goals exact ((am_Y_ret rfl rfl rfl).trans (am_rz rfl))

theorem b_X9_cut_37 {d : Nat} {Q : Option am_V → am_H → Prop} (h : am_H) (x1 : Int64) (l0 l2 : Option am_V) : ex_ d 146 37 [l0, some (v_l x1), l2] [] h Q ↔ Q (some (v_l (Int32.toInt64 (Int16.toInt32 (Int32.toInt16 (Int64.toInt32 x1)))))) h := by
  unfold ex_
  refine (am_Y_go 4 (ok := []) (g := (41, [l0, some (v_l x1), l2], [v_l (Int32.toInt64 (Int16.toInt32 (Int32.toInt16 (Int64.toInt32 x1))))], h)) rfl).trans ?_
  all_goals exact ((am_Y_ret rfl rfl rfl).trans (am_rz rfl))

theorem b_X9_cut_42 {d : Nat} {Q : Option am_V → am_H → Prop} (h : am_H) (x1 : Int64) (l0 l2 : Option am_V) : ex_ d 146 42 [l0, some (v_l x1), l2] [] h Q ↔ Q (some (v_l (Int32.toInt64 (Int64.toInt32 x1)))) h := by
  unfold ex_
  refine (am_Y_go 3 (ok := []) (g := (45, [l0, some (v_l x1), l2], [v_l (Int32.toInt64 (Int64.toInt32 x1))], h)) rfl).trans ?_
  all_goals exact ((am_Y_ret rfl rfl rfl).trans (am_rz rfl))

theorem b_X9_put_0 {d : Nat} {Q : Option am_V → am_H → Prop} (h : am_H) (x1 : Int32) (l0 l2 l3 : Option am_V) : ex_ d 147 0 [l0, some (v_i x1), l2, l3] [] h Q ↔ if x1 < 0 then ex_ d 147 21 [l0, some (v_i x1), l2, l3] [] h Q else ex_ d 147 4 [l0, some (v_i x1), l2, l3] [] h Q := by
  unfold ex_
  refine (am_Y_go 2 (ok := []) (g := (if x1 < 0 then 21 else 4, [l0, some (v_i x1), l2, l3], [], h)) rfl).trans ?_
  all_goals exact am_Y_if

theorem b_X9_put_21 {d : Nat} {Q : Option am_V → am_H → Prop} (h : am_H) (l0 l1 l2 l3 : Option am_V) : ex_ d 147 21 [l0, l1, l2, l3] [] h Q ↔ Q (none) h := by
  unfold ex_
  exact ((am_Y_ret rfl rfl rfl).trans (am_rz rfl))

theorem b_X9_put_4 {d : Nat} {Q : Option am_V → am_H → Prop} (h : am_H) (x1 : Int32) (l0 l2 l3 : Option am_V) : ex_ d 147 4 [l0, some (v_i x1), l2, l3] [] h Q ↔ if (40 : Int32) ≤ x1 then ex_ d 147 21 [l0, some (v_i x1), l2, l3] [] h Q else ex_ d 147 10 [l0, some (v_i x1), l2, l3] [] h Q := by
  unfold ex_
  refine (am_Y_go 3 (ok := []) (g := (if (40 : Int32) ≤ x1 then 21 else 10, [l0, some (v_i x1), l2, l3], [], h)) rfl).trans ?_
  all_goals exact am_Y_if

theorem b_X9_put_10 {d : Nat} {Q : Option am_V → am_H → Prop} (h : am_H) (o0 : Nat) (x1 : Int32) (x2 : Int64) (l3 : Option am_V) (F_o0 : y_Tray h o0) : ex_ (d + 1) 147 10 [some (v_r (some o0)), some (v_i x1), some (v_l x2), l3] [] h Q ↔ ex_ d 146 0 [some (v_r (some o0)), some (v_l x2), none] [] h (fun r h' => ex_ (d + 1) 147 20 [some (v_r (some o0)), some (v_i x1), some (v_l x2), l3] (r.toList ++ [v_i x1, v_r (some (o0 + 1))]) h' Q) := by
  have e0 : h_r h o0 2 = some (o0 + 1) := F_o0.2 (0, 2, 1) (by decide)
  unfold ex_
  refine (am_Y_go 5 (ok := [am_is h (some o0) 9]) (g := (17, [some (v_r (some o0)), some (v_i x1), some (v_l x2), l3], [v_l x2, v_r (some o0), v_i x1, v_r ((h_r h o0 2))], h)) rfl).trans ?_
  simp only [e0, Option.getD_some, am_all]
  all_goals exact cj_d (lr_is (F_o0.1 0 rfl)) (((am_Y_call (j := 146) (na := 2) (ci := 9) (fl := 0) rfl rfl rfl).trans (cj_d ⟨⟨Nat.le_of_ble_eq_true rfl, Nat.le_of_ble_eq_true rfl, Nat.le_of_ble_eq_true rfl, rfl⟩, Or.inr (Or.inr (show (9 : Nat) < 20 ∧ am_is h (some o0) 9 from ⟨by decide, (lr_is (F_o0.1 0 rfl))⟩))⟩ Iff.rfl)))

theorem b_X9_put_20 {d : Nat} {Q : Option am_V → am_H → Prop} (h : am_H) (s0 : Int64) (s1 : Int32) (t2 : Nat) (l0 l1 l2 l3 : Option am_V) {n_t2 : Nat} (A_t2 : y_arr h t2 23 n_t2) : ex_ d 147 20 [l0, l1, l2, l3] [v_l s0, v_i s1, v_r (some t2)] h Q ↔ vp_in s1 n_t2 ∧ Q (none) (p_j h t2 (Int32.toNatClampNeg s1) s0) := by
  unfold ex_
  refine (am_Y_go 1 (ok := [am_ar h (some t2) 23 s1]) (g := (21, [l0, l1, l2, l3], [], (p_j h t2 (Int32.toNatClampNeg s1) s0))) rfl).trans ?_
  simp only [am_all]
  all_goals exact cj_k (lb_ar A_t2) (((am_Y_ret rfl rfl rfl).trans (am_rz rfl)))
