theorem b_X4_placesOf_0 {d : Nat} {Q : Option am_V → am_H → Prop} (h : am_H) (l0 l1 l2 l3 : Option am_V) : ex_ d 58 0 [l0, l1, l2, l3] [] h Q ↔ ex_ d 58 4 [l0, l1, some (v_i (0 : Int32)), some (v_i (0 : Int32))] [] h Q := by
  unfold ex_
  refine (am_Y_go 4 (ok := []) (g := (4, [l0, l1, some (v_i (0 : Int32)), some (v_i (0 : Int32))], [], h)) rfl).trans ?_
  all_goals exact Iff.rfl

theorem b_X4_placesOf_4 {d : Nat} {Q : Option am_V → am_H → Prop} (h : am_H) (x3 : Int32) (x1 : Int32) (l0 l2 : Option am_V) : ex_ d 58 4 [l0, some (v_i x1), l2, some (v_i x3)] [] h Q ↔ if x1 ≤ x3 then ex_ d 58 29 [l0, some (v_i x1), l2, some (v_i x3)] [] h Q else ex_ d 58 9 [l0, some (v_i x1), l2, some (v_i x3)] [] h Q := by
  unfold ex_
  refine (am_Y_go 3 (ok := []) (g := (if x1 ≤ x3 then 29 else 9, [l0, some (v_i x1), l2, some (v_i x3)], [], h)) rfl).trans ?_
  all_goals exact am_Y_if

theorem b_X4_placesOf_29 {d : Nat} {Q : Option am_V → am_H → Prop} (h : am_H) (x2 : Int32) (l0 l1 l3 : Option am_V) : ex_ d 58 29 [l0, l1, some (v_i x2), l3] [] h Q ↔ Q (some (v_i x2)) h := by
  unfold ex_
  refine (am_Y_go 1 (ok := []) (g := (30, [l0, l1, some (v_i x2), l3], [v_i x2], h)) rfl).trans ?_
  all_goals exact ((am_Y_ret rfl rfl rfl).trans (am_r0))

theorem b_X4_placesOf_9 {d : Nat} {Q : Option am_V → am_H → Prop} (h : am_H) (x2 : Int32) (x0 : Int32) (x1 : Int32) (x3 : Int32) : ex_ d 58 9 [some (v_i x0), some (v_i x1), some (v_i x2), some (v_i x3)] [] h Q ↔ ex_ d 58 4 [some (v_i x0), some (v_i x1), some (v_i (x2 ||| (((x0 >>> (((x1 - (1 : Int32)) - x3) &&& 31)) &&& (1 : Int32)) <<< (x3 &&& 31)))), some (v_i (x3 + (1 : Int32)))] [] h Q := by
  unfold ex_
  refine (am_Y_go 16 (ok := []) (g := (4, [some (v_i x0), some (v_i x1), some (v_i (x2 ||| (((x0 >>> (((x1 - (1 : Int32)) - x3) &&& 31)) &&& (1 : Int32)) <<< (x3 &&& 31)))), some (v_i (x3 + (1 : Int32)))], [], h)) rfl).trans ?_
  all_goals exact Iff.rfl

theorem b_X4_mendFrom_0 {d : Nat} {Q : Option am_V → am_H → Prop} (h : am_H) (x2 : Int32) (o1 : Nat) (l0 l3 l4 l5 l6 l7 : Option am_V) (F_o1 : y_Facts h o1) : ex_ d 59 0 [l0, some (v_r (some o1)), some (v_i x2), l3, l4, l5, l6, l7] [] h Q ↔ if (h_i h o1 0) ≤ x2 then ex_ d 59 14 [l0, some (v_r (some o1)), some (v_i x2), l3, l4, l5, l6, l7] [] h Q else ex_ d 59 8 [l0, some (v_r (some o1)), some (v_i x2), l3, l4, l5, l6, l7] [] h Q := by
  unfold ex_
  refine (am_Y_go 4 (ok := [am_is h (some o1) 1]) (g := (if (h_i h o1 0) ≤ x2 then 14 else 8, [l0, some (v_r (some o1)), some (v_i x2), l3, l4, l5, l6, l7], [], h)) rfl).trans ?_
  simp only [am_all]
  all_goals exact cj_d (lr_is (F_o1.1 0 rfl)) (am_Y_if)

theorem b_X4_mendFrom_14 {d : Nat} {Q : Option am_V → am_H → Prop} (h : am_H) (l0 l1 l2 l3 l4 l5 l6 l7 : Option am_V) : ex_ d 59 14 [l0, l1, l2, l3, l4, l5, l6, l7] [] h Q ↔ Q (some (v_i (1 : Int32))) h := by
  unfold ex_
  refine (am_Y_go 1 (ok := []) (g := (15, [l0, l1, l2, l3, l4, l5, l6, l7], [v_i (1 : Int32)], h)) rfl).trans ?_
  all_goals exact ((am_Y_ret rfl rfl rfl).trans (am_rz (show am_fit 1 1 from Or.inr rfl)))

theorem b_X4_mendFrom_8 {d : Nat} {Q : Option am_V → am_H → Prop} (h : am_H) (x2 : Int32) (l0 l1 l3 l4 l5 l6 l7 : Option am_V) : ex_ d 59 8 [l0, l1, some (v_i x2), l3, l4, l5, l6, l7] [] h Q ↔ if x2 < (10 : Int32) then ex_ d 59 16 [l0, l1, some (v_i x2), l3, l4, l5, l6, l7] [] h Q else ex_ d 59 14 [l0, l1, some (v_i x2), l3, l4, l5, l6, l7] [] h Q := by
  unfold ex_
  refine (am_Y_go 3 (ok := []) (g := (if x2 < (10 : Int32) then 16 else 14, [l0, l1, some (v_i x2), l3, l4, l5, l6, l7], [], h)) rfl).trans ?_
  all_goals exact am_Y_if

theorem b_X4_mendFrom_16 {d : Nat} {Q : Option am_V → am_H → Prop} (h : am_H) (o1 : Nat) (x2 : Int32) (l0 l3 l4 l5 l6 l7 : Option am_V) (F_o1 : y_Facts h o1) : ex_ (d + 1) 59 16 [l0, some (v_r (some o1)), some (v_i x2), l3, l4, l5, l6, l7] [] h Q ↔ ex_ d 4 0 [some (v_r (some o1)), some (v_i x2)] [] h (fun r h' => ex_ (d + 1) 59 21 [l0, some (v_r (some o1)), some (v_i x2), l3, l4, l5, l6, l7] (r.toList ++ []) h' Q) := by
  unfold ex_
  refine (am_Y_go 2 (ok := []) (g := (18, [l0, some (v_r (some o1)), some (v_i x2), l3, l4, l5, l6, l7], [v_i x2, v_r (some o1)], h)) rfl).trans ?_
  all_goals exact ((am_Y_call (j := 4) (na := 2) (ci := 1) (fl := 0) rfl rfl rfl).trans (cj_d ⟨⟨Nat.le_of_ble_eq_true rfl, Nat.le_of_ble_eq_true rfl, Nat.le_of_ble_eq_true rfl, rfl⟩, Or.inr (Or.inr (show (1 : Nat) < 20 ∧ am_is h (some o1) 1 from ⟨by decide, (lr_is (F_o1.1 0 rfl))⟩))⟩ Iff.rfl))

theorem b_X4_mendFrom_21 {d : Nat} {Q : Option am_V → am_H → Prop} (h : am_H) (s0 : Int32) (l0 l1 l2 l3 l4 l5 l6 l7 : Option am_V) : ex_ d 59 21 [l0, l1, l2, l3, l4, l5, l6, l7] [v_i s0] h Q ↔ ex_ d 59 35 [l0, l1, l2, l3, some (v_i (if (4 : Int32) < s0 then (4 : Int32) else s0)), some (v_i (((1 : Int32) <<< ((if (4 : Int32) < s0 then (4 : Int32) else s0) &&& 31)) - (1 : Int32))), l6, l7] [] h Q := by
  unfold ex_
  refine (am_Y_go 9 (ok := []) (g := (35, [l0, l1, l2, l3, some (v_i (if (4 : Int32) < s0 then (4 : Int32) else s0)), some (v_i (((1 : Int32) <<< ((if (4 : Int32) < s0 then (4 : Int32) else s0) &&& 31)) - (1 : Int32))), l6, l7], [], h)) rfl).trans ?_
  all_goals exact Iff.rfl

theorem b_X4_mendFrom_35 {d : Nat} {Q : Option am_V → am_H → Prop} (h : am_H) (x5 : Int32) (l0 l1 l2 l3 l4 l6 l7 : Option am_V) : ex_ d 59 35 [l0, l1, l2, l3, l4, some (v_i x5), l6, l7] [] h Q ↔ if x5 < 0 then ex_ d 59 107 [l0, l1, l2, l3, l4, some (v_i x5), l6, l7] [] h Q else ex_ d 59 40 [l0, l1, l2, l3, l4, some (v_i x5), l6, l7] [] h Q := by
  unfold ex_
  refine (am_Y_go 2 (ok := []) (g := (if x5 < 0 then 107 else 40, [l0, l1, l2, l3, l4, some (v_i x5), l6, l7], [], h)) rfl).trans ?_
  all_goals exact am_Y_if

theorem b_X4_mendFrom_107 {d : Nat} {Q : Option am_V → am_H → Prop} (h : am_H) (l0 l1 l2 l3 l4 l5 l6 l7 : Option am_V) : ex_ d 59 107 [l0, l1, l2, l3, l4, l5, l6, l7] [] h Q ↔ Q (some (v_i (0 : Int32))) h := by
  unfold ex_
  refine (am_Y_go 1 (ok := []) (g := (108, [l0, l1, l2, l3, l4, l5, l6, l7], [v_i (0 : Int32)], h)) rfl).trans ?_
  all_goals exact ((am_Y_ret rfl rfl rfl).trans (am_rz (show am_fit 1 0 from Or.inl rfl)))

theorem b_X4_mendFrom_40 {d : Nat} {Q : Option am_V → am_H → Prop} (h : am_H) (x5 : Int32) (l0 l1 l2 l3 l4 l6 l7 : Option am_V) : ex_ (d + 1) 59 40 [l0, l1, l2, l3, l4, some (v_i x5), l6, l7] [] h Q ↔ ex_ d 14 0 [some (v_i x5)] [] h (fun r h' => ex_ (d + 1) 59 45 [l0, l1, l2, l3, l4, some (v_i x5), l6, l7] (r.toList ++ []) h' Q) := by
  unfold ex_
  refine (am_Y_go 1 (ok := []) (g := (42, [l0, l1, l2, l3, l4, some (v_i x5), l6, l7], [v_i x5], h)) rfl).trans ?_
  all_goals exact ((am_Y_call (j := 14) (na := 1) (ci := 0) (fl := 2) rfl rfl rfl).trans (cj_d ⟨⟨Nat.le_of_ble_eq_true rfl, Nat.le_of_ble_eq_true rfl, Nat.le_of_ble_eq_true rfl, rfl⟩, Or.inl rfl⟩ Iff.rfl))

theorem b_X4_mendFrom_45 {d : Nat} {Q : Option am_V → am_H → Prop} (h : am_H) (s0 : Int32) (x5 : Int32) (x4 : Int32) (l0 l1 l2 l3 l6 l7 : Option am_V) : ex_ (d + 1) 59 45 [l0, l1, l2, l3, some (v_i x4), some (v_i x5), l6, l7] [v_i s0] h Q ↔ ex_ d 58 0 [some (v_i x5), some (v_i x4), none, none] [] h (fun r h' => ex_ (d + 1) 59 54 [l0, l1, l2, l3, some (v_i x4), some (v_i x5), some (v_i s0), l7] (r.toList ++ []) h' Q) := by
  unfold ex_
  refine (am_Y_go 3 (ok := []) (g := (51, [l0, l1, l2, l3, some (v_i x4), some (v_i x5), some (v_i s0), l7], [v_i x4, v_i x5], h)) rfl).trans ?_
  all_goals exact ((am_Y_call (j := 58) (na := 2) (ci := 4) (fl := 2) rfl rfl rfl).trans (cj_d ⟨⟨Nat.le_of_ble_eq_true rfl, Nat.le_of_ble_eq_true rfl, Nat.le_of_ble_eq_true rfl, rfl⟩, Or.inl rfl⟩ Iff.rfl))

theorem b_X4_mendFrom_54 {d : Nat} {Q : Option am_V → am_H → Prop} (h : am_H) (s0 : Int32) (x6 : Int32) (x3 : Int32) (l0 l1 l2 l4 l5 l7 : Option am_V) : ex_ d 59 54 [l0, l1, l2, some (v_i x3), l4, l5, some (v_i x6), l7] [v_i s0] h Q ↔ if x3 < x6 then ex_ d 59 101 [l0, l1, l2, some (v_i x3), l4, l5, some (v_i x6), some (v_i s0)] [] h Q else ex_ d 59 62 [l0, l1, l2, some (v_i x3), l4, l5, some (v_i x6), some (v_i s0)] [] h Q := by
  unfold ex_
  refine (am_Y_go 4 (ok := []) (g := (if x3 < x6 then 101 else 62, [l0, l1, l2, some (v_i x3), l4, l5, some (v_i x6), some (v_i s0)], [], h)) rfl).trans ?_
  all_goals exact am_Y_if

theorem b_X4_mendFrom_101 {d : Nat} {Q : Option am_V → am_H → Prop} (h : am_H) (x5 : Int32) (l0 l1 l2 l3 l4 l6 l7 : Option am_V) : ex_ d 59 101 [l0, l1, l2, l3, l4, some (v_i x5), l6, l7] [] h Q ↔ ex_ d 59 35 [l0, l1, l2, l3, l4, some (v_i (x5 + (-1 : Int32))), l6, l7] [] h Q := by
  unfold ex_
  refine (am_Y_go 2 (ok := []) (g := (35, [l0, l1, l2, l3, l4, some (v_i (x5 + (-1 : Int32))), l6, l7], [], h)) rfl).trans ?_
  all_goals exact Iff.rfl

theorem b_X4_mendFrom_62 {d : Nat} {Q : Option am_V → am_H → Prop} (h : am_H) (o1 : Nat) (x2 : Int32) (x7 : Int32) (l3 l4 l5 l6 : Option am_V) (Lh : Lay h) (F_o1 : y_Facts h o1) : ex_ (d + 1) 59 62 [some (v_r (some 56)), some (v_r (some o1)), some (v_i x2), l3, l4, l5, l6, some (v_i x7)] [] h Q ↔ ex_ d 54 0 [some (v_r (some 57)), some (v_r (some o1)), some (v_i x2), some (v_i x7)] [] h (fun r h' => ex_ (d + 1) 59 73 [some (v_r (some 56)), some (v_r (some o1)), some (v_i x2), l3, l4, l5, l6, some (v_i x7)] (r.toList ++ []) h' Q) := by
  have e0 : h_r h 56 0 = some 57 := la_r Lh (q := (56, 0, 57)) (by decide)
  unfold ex_
  refine (am_Y_go 5 (ok := [am_is h (some 56) 4]) (g := (70, [some (v_r (some 56)), some (v_r (some o1)), some (v_i x2), l3, l4, l5, l6, some (v_i x7)], [v_i x7, v_i x2, v_r (some o1), v_r ((h_r h 56 0))], h)) rfl).trans ?_
  simp only [e0, Option.getD_some, am_all]
  all_goals exact cj_d (la_is Lh (o := 56) rfl) (((am_Y_call (j := 54) (na := 4) (ci := 6) (fl := 0) rfl rfl rfl).trans (cj_d ⟨⟨Nat.le_of_ble_eq_true rfl, Nat.le_of_ble_eq_true rfl, Nat.le_of_ble_eq_true rfl, rfl⟩, Or.inr (Or.inr (show (6 : Nat) < 20 ∧ am_is h (some 57) 6 from ⟨by decide, (la_is Lh (o := 57) rfl)⟩))⟩ Iff.rfl)))

theorem b_X4_mendFrom_73 {d : Nat} {Q : Option am_V → am_H → Prop} (h : am_H) (s0 : Int32) (l0 l1 l2 l3 l4 l5 l6 l7 : Option am_V) : ex_ d 59 73 [l0, l1, l2, l3, l4, l5, l6, l7] [v_i s0] h Q ↔ if ¬ s0 = 0 then ex_ d 59 101 [l0, l1, l2, l3, l4, l5, l6, l7] [] h Q else ex_ d 59 76 [l0, l1, l2, l3, l4, l5, l6, l7] [] h Q := by
  unfold ex_
  refine (am_Y_go 1 (ok := []) (g := (if ¬ s0 = 0 then 101 else 76, [l0, l1, l2, l3, l4, l5, l6, l7], [], h)) rfl).trans ?_
  all_goals exact am_Y_if

theorem b_X4_mendFrom_76 {d : Nat} {Q : Option am_V → am_H → Prop} (h : am_H) (x2 : Int32) (x7 : Int32) (o1 : Nat) (x3 : Int32) (x6 : Int32) (l4 l5 : Option am_V) (Lh : Lay h) (F_o1 : y_Facts h o1) : ex_ (d + 1) 59 76 [some (v_r (some 56)), some (v_r (some o1)), some (v_i x2), some (v_i x3), l4, l5, some (v_i x6), some (v_i x7)] [] h Q ↔ vp_in x2 10 ∧ ex_ d 59 0 [some (v_r (some 56)), some (v_r (some o1)), some (v_i (x2 + (1 : Int32))), some (v_i (x3 - x6)), none, none, none, none] [] (p_i h 67 (Int32.toNatClampNeg x2) x7) (fun r h' => ex_ (d + 1) 59 96 [some (v_r (some 56)), some (v_r (some o1)), some (v_i x2), some (v_i x3), l4, l5, some (v_i x6), some (v_i x7)] (r.toList ++ []) h' Q) := by
  have e0 : h_r h 56 1 = some 67 := la_r Lh (q := (56, 1, 67)) (by decide)
  unfold ex_
  refine (am_Y_go 13 (ok := [am_is h (some 56) 4, am_ar h ((h_r h 56 1)) 20 x2]) (g := (93, [some (v_r (some 56)), some (v_r (some o1)), some (v_i x2), some (v_i x3), l4, l5, some (v_i x6), some (v_i x7)], [v_i (x3 - x6), v_i (x2 + (1 : Int32)), v_r (some o1), v_r (some 56)], (p_i h ((h_r h 56 1).getD 0) (Int32.toNatClampNeg x2) x7))) rfl).trans ?_
  simp only [e0, Option.getD_some, am_all]
  all_goals exact cj_d (la_is Lh (o := 56) rfl) (cj_k (la_ar Lh (o := 67) rfl) (((am_Y_call (j := 59) (na := 4) (ci := 4) (fl := 0) rfl rfl rfl).trans (cj_d ⟨⟨Nat.le_of_ble_eq_true rfl, Nat.le_of_ble_eq_true rfl, Nat.le_of_ble_eq_true rfl, rfl⟩, Or.inr (Or.inr (show (4 : Nat) < 20 ∧ am_is h (some 56) 4 from ⟨by decide, (la_is Lh (o := 56) rfl)⟩))⟩ Iff.rfl))))

theorem b_X4_mendFrom_96 {d : Nat} {Q : Option am_V → am_H → Prop} (h : am_H) (s0 : Int32) (l0 l1 l2 l3 l4 l5 l6 l7 : Option am_V) : ex_ d 59 96 [l0, l1, l2, l3, l4, l5, l6, l7] [v_i s0] h Q ↔ if s0 = 0 then ex_ d 59 101 [l0, l1, l2, l3, l4, l5, l6, l7] [] h Q else ex_ d 59 99 [l0, l1, l2, l3, l4, l5, l6, l7] [] h Q := by
  unfold ex_
  refine (am_Y_go 1 (ok := []) (g := (if s0 = 0 then 101 else 99, [l0, l1, l2, l3, l4, l5, l6, l7], [], h)) rfl).trans ?_
  all_goals exact am_Y_if

theorem b_X4_mendFrom_99 {d : Nat} {Q : Option am_V → am_H → Prop} (h : am_H) (l0 l1 l2 l3 l4 l5 l6 l7 : Option am_V) : ex_ d 59 99 [l0, l1, l2, l3, l4, l5, l6, l7] [] h Q ↔ Q (some (v_i (1 : Int32))) h := by
  unfold ex_
  refine (am_Y_go 1 (ok := []) (g := (100, [l0, l1, l2, l3, l4, l5, l6, l7], [v_i (1 : Int32)], h)) rfl).trans ?_
  all_goals exact ((am_Y_ret rfl rfl rfl).trans (am_rz (show am_fit 1 1 from Or.inr rfl)))

theorem b_X4_noteLinks_0 {d : Nat} {Q : Option am_V → am_H → Prop} (h : am_H) (l0 l1 l2 l3 l4 : Option am_V) : ex_ d 60 0 [l0, l1, l2, l3, l4] [] h Q ↔ ex_ d 60 4 [l0, l1, some (v_i (0 : Int32)), some (v_i (0 : Int32)), l4] [] h Q := by
  unfold ex_
  refine (am_Y_go 4 (ok := []) (g := (4, [l0, l1, some (v_i (0 : Int32)), some (v_i (0 : Int32)), l4], [], h)) rfl).trans ?_
  all_goals exact Iff.rfl

theorem b_X4_noteLinks_4 {d : Nat} {Q : Option am_V → am_H → Prop} (h : am_H) (x3 : Int32) (o1 : Nat) (l0 l2 l4 : Option am_V) (F_o1 : y_Facts h o1) : ex_ d 60 4 [l0, some (v_r (some o1)), l2, some (v_i x3), l4] [] h Q ↔ if (h_i h o1 0) ≤ x3 then ex_ d 60 83 [l0, some (v_r (some o1)), l2, some (v_i x3), l4] [] h Q else ex_ d 60 12 [l0, some (v_r (some o1)), l2, some (v_i x3), l4] [] h Q := by
  unfold ex_
  refine (am_Y_go 4 (ok := [am_is h (some o1) 1]) (g := (if (h_i h o1 0) ≤ x3 then 83 else 12, [l0, some (v_r (some o1)), l2, some (v_i x3), l4], [], h)) rfl).trans ?_
  simp only [am_all]
  all_goals exact cj_d (lr_is (F_o1.1 0 rfl)) (am_Y_if)

theorem b_X4_noteLinks_83 {d : Nat} {Q : Option am_V → am_H → Prop} (h : am_H) (l0 l1 l2 l3 l4 : Option am_V) : ex_ d 60 83 [l0, l1, l2, l3, l4] [] h Q ↔ Q (none) h := by
  unfold ex_
  exact ((am_Y_ret rfl rfl rfl).trans (am_rz rfl))

theorem b_X4_noteLinks_12 {d : Nat} {Q : Option am_V → am_H → Prop} (h : am_H) (x3 : Int32) (l0 l1 l2 l4 : Option am_V) : ex_ d 60 12 [l0, l1, l2, some (v_i x3), l4] [] h Q ↔ if (10 : Int32) ≤ x3 then ex_ d 60 83 [l0, l1, l2, some (v_i x3), l4] [] h Q else ex_ d 60 18 [l0, l1, l2, some (v_i x3), l4] [] h Q := by
  unfold ex_
  refine (am_Y_go 3 (ok := []) (g := (if (10 : Int32) ≤ x3 then 83 else 18, [l0, l1, l2, some (v_i x3), l4], [], h)) rfl).trans ?_
  all_goals exact am_Y_if

theorem b_X4_noteLinks_18 {d : Nat} {Q : Option am_V → am_H → Prop} (h : am_H) (l0 l1 l2 l3 l4 : Option am_V) : ex_ d 60 18 [l0, l1, l2, l3, l4] [] h Q ↔ ex_ d 60 21 [l0, l1, l2, l3, some (v_i (0 : Int32))] [] h Q := by
  unfold ex_
  refine (am_Y_go 2 (ok := []) (g := (21, [l0, l1, l2, l3, some (v_i (0 : Int32))], [], h)) rfl).trans ?_
  all_goals exact Iff.rfl

theorem b_X4_noteLinks_21 {d : Nat} {Q : Option am_V → am_H → Prop} (h : am_H) (x4 : Int32) (l0 l1 l2 l3 : Option am_V) : ex_ d 60 21 [l0, l1, l2, l3, some (v_i x4)] [] h Q ↔ if (4 : Int32) ≤ x4 then ex_ d 60 77 [l0, l1, l2, l3, some (v_i x4)] [] h Q else ex_ d 60 27 [l0, l1, l2, l3, some (v_i x4)] [] h Q := by
  unfold ex_
  refine (am_Y_go 3 (ok := []) (g := (if (4 : Int32) ≤ x4 then 77 else 27, [l0, l1, l2, l3, some (v_i x4)], [], h)) rfl).trans ?_
  all_goals exact am_Y_if

theorem b_X4_noteLinks_77 {d : Nat} {Q : Option am_V → am_H → Prop} (h : am_H) (x3 : Int32) (l0 l1 l2 l4 : Option am_V) : ex_ d 60 77 [l0, l1, l2, some (v_i x3), l4] [] h Q ↔ ex_ d 60 4 [l0, l1, l2, some (v_i (x3 + (1 : Int32))), l4] [] h Q := by
  unfold ex_
  refine (am_Y_go 2 (ok := []) (g := (4, [l0, l1, l2, some (v_i (x3 + (1 : Int32))), l4], [], h)) rfl).trans ?_
  all_goals exact Iff.rfl

theorem b_X4_noteLinks_27 {d : Nat} {Q : Option am_V → am_H → Prop} (h : am_H) (x3 : Int32) (x4 : Int32) (l1 l2 : Option am_V) (Lh : Lay h) : ex_ d 60 27 [some (v_r (some 56)), l1, l2, some (v_i x3), some (v_i x4)] [] h Q ↔ vp_in x3 10 ∧ (if (((h_i h 67 (Int32.toNatClampNeg x3)) >>> (x4 &&& 31)) &&& (1 : Int32)) = 0 then ex_ d 60 71 [some (v_r (some 56)), l1, l2, some (v_i x3), some (v_i x4)] [] h Q else ex_ d 60 41 [some (v_r (some 56)), l1, l2, some (v_i x3), some (v_i x4)] [] h Q) := by
  have e0 : h_r h 56 1 = some 67 := la_r Lh (q := (56, 1, 67)) (by decide)
  unfold ex_
  refine (am_Y_go 9 (ok := [am_is h (some 56) 4, am_ar h ((h_r h 56 1)) 20 x3]) (g := (if (((h_i h ((h_r h 56 1).getD 0) (Int32.toNatClampNeg x3)) >>> (x4 &&& 31)) &&& (1 : Int32)) = 0 then 71 else 41, [some (v_r (some 56)), l1, l2, some (v_i x3), some (v_i x4)], [], h)) rfl).trans ?_
  simp only [e0, Option.getD_some, am_all]
  all_goals exact cj_d (la_is Lh (o := 56) rfl) (cj_k (la_ar Lh (o := 67) rfl) (am_Y_if))

theorem b_X4_noteLinks_71 {d : Nat} {Q : Option am_V → am_H → Prop} (h : am_H) (x4 : Int32) (l0 l1 l2 l3 : Option am_V) : ex_ d 60 71 [l0, l1, l2, l3, some (v_i x4)] [] h Q ↔ ex_ d 60 21 [l0, l1, l2, l3, some (v_i (x4 + (1 : Int32)))] [] h Q := by
  unfold ex_
  refine (am_Y_go 2 (ok := []) (g := (21, [l0, l1, l2, l3, some (v_i (x4 + (1 : Int32)))], [], h)) rfl).trans ?_
  all_goals exact Iff.rfl

theorem b_X4_noteLinks_41 {d : Nat} {Q : Option am_V → am_H → Prop} (h : am_H) (x2 : Int32) (l1 l3 l4 : Option am_V) (Lh : Lay h) : ex_ d 60 41 [some (v_r (some 56)), l1, some (v_i x2), l3, l4] [] h Q ↔ if (nI 3) ≤ x2 then ex_ d 60 71 [some (v_r (some 56)), l1, some (v_i x2), l3, l4] [] h Q else ex_ d 60 50 [some (v_r (some 56)), l1, some (v_i x2), l3, l4] [] h Q := by
  have e0 : h_r h 56 2 = some 68 := la_r Lh (q := (56, 2, 68)) (by decide)
  have e1 : h_l h 68 = 3 := (la_l Lh (o := 68) rfl)
  unfold ex_
  refine (am_Y_go 5 (ok := [am_is h (some 56) 4, am_an h ((h_r h 56 2))]) (g := (if (nI (h_l h ((h_r h 56 2).getD 0))) ≤ x2 then 71 else 50, [some (v_r (some 56)), l1, some (v_i x2), l3, l4], [], h)) rfl).trans ?_
  simp only [e0, e1, Option.getD_some, am_all]
  all_goals exact cj_d (la_is Lh (o := 56) rfl) (cj_d (la_an20 Lh (o := 68) rfl) (am_Y_if))

theorem b_X4_noteLinks_50 {d : Nat} {Q : Option am_V → am_H → Prop} (h : am_H) (x2 : Int32) (x3 : Int32) (o1 : Nat) (x4 : Int32) (Lh : Lay h) (F_o1 : y_Facts h o1) : ex_ (d + 1) 60 50 [some (v_r (some 56)), some (v_r (some o1)), some (v_i x2), some (v_i x3), some (v_i x4)] [] h Q ↔ ex_ d 5 0 [some (v_r (some o1)), some (v_i x3), some (v_i x4)] [] h (fun r h' => ex_ (d + 1) 60 66 [some (v_r (some 56)), some (v_r (some o1)), some (v_i x2), some (v_i x3), some (v_i x4)] (r.toList ++ [v_i ((10 : Int32) * x3), v_i x2, v_r (some 68)]) h' Q) := by
  have e0 : h_r h 56 2 = some 68 := la_r Lh (q := (56, 2, 68)) (by decide)
  unfold ex_
  refine (am_Y_go 9 (ok := [am_is h (some 56) 4]) (g := (63, [some (v_r (some 56)), some (v_r (some o1)), some (v_i x2), some (v_i x3), some (v_i x4)], [v_i x4, v_i x3, v_r (some o1), v_i ((10 : Int32) * x3), v_i x2, v_r ((h_r h 56 2))], h)) rfl).trans ?_
  simp only [e0, Option.getD_some, am_all]
  all_goals exact cj_d (la_is Lh (o := 56) rfl) (((am_Y_call (j := 5) (na := 3) (ci := 1) (fl := 0) rfl rfl rfl).trans (cj_d ⟨⟨Nat.le_of_ble_eq_true rfl, Nat.le_of_ble_eq_true rfl, Nat.le_of_ble_eq_true rfl, rfl⟩, Or.inr (Or.inr (show (1 : Nat) < 20 ∧ am_is h (some o1) 1 from ⟨by decide, (lr_is (F_o1.1 0 rfl))⟩))⟩ Iff.rfl)))

theorem b_X4_noteLinks_66 {d : Nat} {Q : Option am_V → am_H → Prop} (h : am_H) (s0 : Int32) (s1 : Int32) (s2 : Int32) (t3 : Nat) (x2 : Int32) (x4 : Int32) (l0 l1 l3 : Option am_V) {n_t3 : Nat} (A_t3 : y_arr h t3 20 n_t3) : ex_ d 60 66 [l0, l1, some (v_i x2), l3, some (v_i x4)] [v_i s0, v_i s1, v_i s2, v_r (some t3)] h Q ↔ vp_in s2 n_t3 ∧ ex_ d 60 21 [l0, l1, some (v_i (x2 + (1 : Int32))), l3, some (v_i (x4 + (1 : Int32)))] [] (p_i h t3 (Int32.toNatClampNeg s2) (s1 + s0)) Q := by
  unfold ex_
  refine (am_Y_go 5 (ok := [am_ar h (some t3) 20 s2]) (g := (21, [l0, l1, some (v_i (x2 + (1 : Int32))), l3, some (v_i (x4 + (1 : Int32)))], [], (p_i h t3 (Int32.toNatClampNeg s2) (s1 + s0)))) rfl).trans ?_
  simp only [am_all]
  all_goals exact cj_k (lb_ar A_t3) (Iff.rfl)

theorem b_X4_learn_0 {d : Nat} {Q : Option am_V → am_H → Prop} (h : am_H) (l1 l2 : Option am_V) (Lh : Lay h) : ex_ d 61 0 [some (v_r (some 56)), l1, l2] [] h Q ↔ if (h_i h 56 4) = 0 then ex_ d 61 8 [some (v_r (some 56)), l1, l2] [] h Q else ex_ d 61 7 [some (v_r (some 56)), l1, l2] [] h Q := by
  unfold ex_
  refine (am_Y_go 3 (ok := [am_is h (some 56) 4]) (g := (if (h_i h 56 4) = 0 then 8 else 7, [some (v_r (some 56)), l1, l2], [], h)) rfl).trans ?_
  simp only [am_all]
  all_goals exact cj_d (la_is Lh (o := 56) rfl) (am_Y_if)

theorem b_X4_learn_8 {d : Nat} {Q : Option am_V → am_H → Prop} (h : am_H) (l1 l2 : Option am_V) (Lh : Lay h) : ex_ d 61 8 [some (v_r (some 56)), l1, l2] [] h Q ↔ ex_ d 61 20 [some (v_r (some 56)), l1, some (v_i (0 : Int32))] [] (p_i (p_i h 56 4 (1 : Int32)) 56 3 (-1 : Int32)) Q := by
  unfold ex_
  refine (am_Y_go 8 (ok := [am_is h (some 56) 4, (1 : Int32) = 0 ∨ (1 : Int32) = 1, am_is h (some 56) 4]) (g := (20, [some (v_r (some 56)), l1, some (v_i (0 : Int32))], [], (p_i (p_i h 56 4 (1 : Int32)) 56 3 (-1 : Int32)))) rfl).trans ?_
  simp only [am_all]
  all_goals exact cj_d (la_is Lh (o := 56) rfl) (cj_d (by decide) (cj_d (la_is Lh (o := 56) rfl) (Iff.rfl)))

theorem b_X4_learn_7 {d : Nat} {Q : Option am_V → am_H → Prop} (h : am_H) (l0 l1 l2 : Option am_V) : ex_ d 61 7 [l0, l1, l2] [] h Q ↔ Q (none) h := by
  unfold ex_
  exact ((am_Y_ret rfl rfl rfl).trans (am_rz rfl))

theorem b_X4_learn_20 {d : Nat} {Q : Option am_V → am_H → Prop} (h : am_H) (x2 : Int32) (l0 l1 : Option am_V) : ex_ d 61 20 [l0, l1, some (v_i x2)] [] h Q ↔ if (3 : Int32) < x2 then ex_ d 61 59 [l0, l1, some (v_i x2)] [] h Q else ex_ d 61 25 [l0, l1, some (v_i x2)] [] h Q := by
  unfold ex_
  refine (am_Y_go 3 (ok := []) (g := (if (3 : Int32) < x2 then 59 else 25, [l0, l1, some (v_i x2)], [], h)) rfl).trans ?_
  all_goals exact am_Y_if

theorem b_X4_learn_59 {d : Nat} {Q : Option am_V → am_H → Prop} (h : am_H) (l0 l1 l2 : Option am_V) : ex_ d 61 59 [l0, l1, l2] [] h Q ↔ Q (none) h := by
  unfold ex_
  exact ((am_Y_ret rfl rfl rfl).trans (am_rz rfl))

theorem b_X4_learn_25 {d : Nat} {Q : Option am_V → am_H → Prop} (h : am_H) (l1 l2 : Option am_V) (Lh : Lay h) : ex_ d 61 25 [some (v_r (some 56)), l1, l2] [] h Q ↔ if ¬ (h_i h 56 3) = (-1 : Int32) then ex_ d 61 59 [some (v_r (some 56)), l1, l2] [] h Q else ex_ d 61 33 [some (v_r (some 56)), l1, l2] [] h Q := by
  unfold ex_
  refine (am_Y_go 4 (ok := [am_is h (some 56) 4]) (g := (if ¬ (h_i h 56 3) = (-1 : Int32) then 59 else 33, [some (v_r (some 56)), l1, l2], [], h)) rfl).trans ?_
  simp only [am_all]
  all_goals exact cj_d (la_is Lh (o := 56) rfl) (am_Y_if)

theorem b_X4_learn_33 {d : Nat} {Q : Option am_V → am_H → Prop} (h : am_H) (o1 : Nat) (x2 : Int32) (Lh : Lay h) (F_o1 : y_Facts h o1) : ex_ (d + 1) 61 33 [some (v_r (some 56)), some (v_r (some o1)), some (v_i x2)] [] h Q ↔ ex_ d 59 0 [some (v_r (some 56)), some (v_r (some o1)), some (v_i (0 : Int32)), some (v_i x2), none, none, none, none] [] h (fun r h' => ex_ (d + 1) 61 40 [some (v_r (some 56)), some (v_r (some o1)), some (v_i x2)] (r.toList ++ []) h' Q) := by
  unfold ex_
  refine (am_Y_go 4 (ok := []) (g := (37, [some (v_r (some 56)), some (v_r (some o1)), some (v_i x2)], [v_i x2, v_i (0 : Int32), v_r (some o1), v_r (some 56)], h)) rfl).trans ?_
  all_goals exact ((am_Y_call (j := 59) (na := 4) (ci := 4) (fl := 0) rfl rfl rfl).trans (cj_d ⟨⟨Nat.le_of_ble_eq_true rfl, Nat.le_of_ble_eq_true rfl, Nat.le_of_ble_eq_true rfl, rfl⟩, Or.inr (Or.inr (show (4 : Nat) < 20 ∧ am_is h (some 56) 4 from ⟨by decide, (la_is Lh (o := 56) rfl)⟩))⟩ Iff.rfl))

theorem b_X4_learn_40 {d : Nat} {Q : Option am_V → am_H → Prop} (h : am_H) (s0 : Int32) (l0 l1 l2 : Option am_V) : ex_ d 61 40 [l0, l1, l2] [v_i s0] h Q ↔ if s0 = 0 then ex_ d 61 53 [l0, l1, l2] [] h Q else ex_ d 61 43 [l0, l1, l2] [] h Q := by
  unfold ex_
  refine (am_Y_go 1 (ok := []) (g := (if s0 = 0 then 53 else 43, [l0, l1, l2], [], h)) rfl).trans ?_
  all_goals exact am_Y_if

theorem b_X4_learn_53 {d : Nat} {Q : Option am_V → am_H → Prop} (h : am_H) (x2 : Int32) (l0 l1 : Option am_V) : ex_ d 61 53 [l0, l1, some (v_i x2)] [] h Q ↔ ex_ d 61 20 [l0, l1, some (v_i (x2 + (1 : Int32)))] [] h Q := by
  unfold ex_
  refine (am_Y_go 2 (ok := []) (g := (20, [l0, l1, some (v_i (x2 + (1 : Int32)))], [], h)) rfl).trans ?_
  all_goals exact Iff.rfl

theorem b_X4_learn_43 {d : Nat} {Q : Option am_V → am_H → Prop} (h : am_H) (x2 : Int32) (o1 : Nat) (Lh : Lay h) (F_o1 : y_Facts h o1) : ex_ (d + 1) 61 43 [some (v_r (some 56)), some (v_r (some o1)), some (v_i x2)] [] h Q ↔ ex_ d 60 0 [some (v_r (some 56)), some (v_r (some o1)), none, none, none] [] (p_i h 56 3 x2) (fun r h' => ex_ (d + 1) 61 53 [some (v_r (some 56)), some (v_r (some o1)), some (v_i x2)] (r.toList ++ []) h' Q) := by
  unfold ex_
  refine (am_Y_go 5 (ok := [am_is h (some 56) 4]) (g := (50, [some (v_r (some 56)), some (v_r (some o1)), some (v_i x2)], [v_r (some o1), v_r (some 56)], (p_i h 56 3 x2))) rfl).trans ?_
  simp only [am_all]
  all_goals exact cj_d (la_is Lh (o := 56) rfl) (((am_Y_call (j := 60) (na := 2) (ci := 4) (fl := 0) rfl rfl rfl).trans (cj_d ⟨⟨Nat.le_of_ble_eq_true rfl, Nat.le_of_ble_eq_true rfl, Nat.le_of_ble_eq_true rfl, rfl⟩, Or.inr (Or.inr (show (4 : Nat) < 20 ∧ am_is h (some 56) 4 from ⟨by decide, (la_is Lh (o := 56) rfl)⟩))⟩ Iff.rfl)))

theorem b_X4_linkAt_0 {d : Nat} {Q : Option am_V → am_H → Prop} (h : am_H) (x1 : Int32) (l0 : Option am_V) : ex_ d 62 0 [l0, some (v_i x1)] [] h Q ↔ if x1 < 0 then ex_ d 62 30 [l0, some (v_i x1)] [] h Q else ex_ d 62 4 [l0, some (v_i x1)] [] h Q := by
  unfold ex_
  refine (am_Y_go 2 (ok := []) (g := (if x1 < 0 then 30 else 4, [l0, some (v_i x1)], [], h)) rfl).trans ?_
  all_goals exact am_Y_if

theorem b_X4_linkAt_30 {d : Nat} {Q : Option am_V → am_H → Prop} (h : am_H) (l0 l1 : Option am_V) : ex_ d 62 30 [l0, l1] [] h Q ↔ Q (some (v_i (-1 : Int32))) h := by
  unfold ex_
  refine (am_Y_go 1 (ok := []) (g := (31, [l0, l1], [v_i (-1 : Int32)], h)) rfl).trans ?_
  all_goals exact ((am_Y_ret rfl rfl rfl).trans (am_r0))

theorem b_X4_linkAt_4 {d : Nat} {Q : Option am_V → am_H → Prop} (h : am_H) (x1 : Int32) (Lh : Lay h) : ex_ d 62 4 [some (v_r (some 56)), some (v_i x1)] [] h Q ↔ if (h_i h 56 3) ≤ x1 then ex_ d 62 30 [some (v_r (some 56)), some (v_i x1)] [] h Q else ex_ d 62 12 [some (v_r (some 56)), some (v_i x1)] [] h Q := by
  unfold ex_
  refine (am_Y_go 4 (ok := [am_is h (some 56) 4]) (g := (if (h_i h 56 3) ≤ x1 then 30 else 12, [some (v_r (some 56)), some (v_i x1)], [], h)) rfl).trans ?_
  simp only [am_all]
  all_goals exact cj_d (la_is Lh (o := 56) rfl) (am_Y_if)

theorem b_X4_linkAt_12 {d : Nat} {Q : Option am_V → am_H → Prop} (h : am_H) (x1 : Int32) (Lh : Lay h) : ex_ d 62 12 [some (v_r (some 56)), some (v_i x1)] [] h Q ↔ if (nI 3) ≤ x1 then ex_ d 62 30 [some (v_r (some 56)), some (v_i x1)] [] h Q else ex_ d 62 21 [some (v_r (some 56)), some (v_i x1)] [] h Q := by
  have e0 : h_r h 56 2 = some 68 := la_r Lh (q := (56, 2, 68)) (by decide)
  have e1 : h_l h 68 = 3 := (la_l Lh (o := 68) rfl)
  unfold ex_
  refine (am_Y_go 5 (ok := [am_is h (some 56) 4, am_an h ((h_r h 56 2))]) (g := (if (nI (h_l h ((h_r h 56 2).getD 0))) ≤ x1 then 30 else 21, [some (v_r (some 56)), some (v_i x1)], [], h)) rfl).trans ?_
  simp only [e0, e1, Option.getD_some, am_all]
  all_goals exact cj_d (la_is Lh (o := 56) rfl) (cj_d (la_an20 Lh (o := 68) rfl) (am_Y_if))

theorem b_X4_linkAt_21 {d : Nat} {Q : Option am_V → am_H → Prop} (h : am_H) (x1 : Int32) (Lh : Lay h) : ex_ d 62 21 [some (v_r (some 56)), some (v_i x1)] [] h Q ↔ vp_in x1 3 ∧ Q (some (v_i (h_i h 68 (Int32.toNatClampNeg x1)))) h := by
  have e0 : h_r h 56 2 = some 68 := la_r Lh (q := (56, 2, 68)) (by decide)
  unfold ex_
  refine (am_Y_go 5 (ok := [am_is h (some 56) 4, am_ar h ((h_r h 56 2)) 20 x1]) (g := (31, [some (v_r (some 56)), some (v_i x1)], [v_i (h_i h ((h_r h 56 2).getD 0) (Int32.toNatClampNeg x1))], h)) rfl).trans ?_
  simp only [e0, Option.getD_some, am_all]
  all_goals exact cj_d (la_is Lh (o := 56) rfl) (cj_k (la_ar Lh (o := 68) rfl) (((am_Y_ret rfl rfl rfl).trans (am_r0))))
