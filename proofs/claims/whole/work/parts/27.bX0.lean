theorem b_X0_isMember_0 {d : Nat} {Q : Option am_V → am_H → Prop} (h : am_H) (x0 : Int32) : ex_ d 7 0 [some (v_i x0)] [] h Q ↔ if x0 < 0 then ex_ d 7 14 [some (v_i x0)] [] h Q else ex_ d 7 4 [some (v_i x0)] [] h Q := by
  unfold ex_
  refine (am_Y_go 2 (ok := []) (g := (if x0 < 0 then 14 else 4, [some (v_i x0)], [], h)) rfl).trans ?_
  all_goals exact am_Y_if

theorem b_X0_isMember_14 {d : Nat} {Q : Option am_V → am_H → Prop} (h : am_H) (l0 : Option am_V) : ex_ d 7 14 [l0] [] h Q ↔ Q (some (v_i (0 : Int32))) h := by
  unfold ex_
  refine (am_Y_go 1 (ok := []) (g := (15, [l0], [v_i (0 : Int32)], h)) rfl).trans ?_
  all_goals exact ((am_Y_ret rfl rfl rfl).trans (am_rz (show am_fit 1 0 from Or.inl rfl)))

theorem b_X0_isMember_4 {d : Nat} {Q : Option am_V → am_H → Prop} (h : am_H) (x0 : Int32) : ex_ d 7 4 [some (v_i x0)] [] h Q ↔ if (10 : Int32) ≤ x0 then ex_ d 7 14 [some (v_i x0)] [] h Q else ex_ d 7 10 [some (v_i x0)] [] h Q := by
  unfold ex_
  refine (am_Y_go 3 (ok := []) (g := (if (10 : Int32) ≤ x0 then 14 else 10, [some (v_i x0)], [], h)) rfl).trans ?_
  all_goals exact am_Y_if

theorem b_X0_isMember_10 {d : Nat} {Q : Option am_V → am_H → Prop} (h : am_H) (l0 : Option am_V) : ex_ d 7 10 [l0] [] h Q ↔ Q (some (v_i (1 : Int32))) h := by
  unfold ex_
  refine (am_Y_go 2 (ok := []) (g := (15, [l0], [v_i (1 : Int32)], h)) rfl).trans ?_
  all_goals exact ((am_Y_ret rfl rfl rfl).trans (am_rz (show am_fit 1 1 from Or.inr rfl)))

theorem b_X0_add_0 {d : Nat} {Q : Option am_V → am_H → Prop} (h : am_H) (x1 : Int32) (l0 l2 : Option am_V) : ex_ (d + 1) 8 0 [l0, some (v_i x1), l2] [] h Q ↔ ex_ d 7 0 [some (v_i x1)] [] h (fun r h' => ex_ (d + 1) 8 4 [l0, some (v_i x1), l2] (r.toList ++ []) h' Q) := by
  unfold ex_
  refine (am_Y_go 1 (ok := []) (g := (1, [l0, some (v_i x1), l2], [v_i x1], h)) rfl).trans ?_
  all_goals exact ((am_Y_call (j := 7) (na := 1) (ci := 0) (fl := 2) rfl rfl rfl).trans (cj_d ⟨⟨Nat.le_of_ble_eq_true rfl, Nat.le_of_ble_eq_true rfl, Nat.le_of_ble_eq_true rfl, rfl⟩, Or.inl rfl⟩ Iff.rfl))

theorem b_X0_add_4 {d : Nat} {Q : Option am_V → am_H → Prop} (h : am_H) (s0 : Int32) (l0 l1 l2 : Option am_V) : ex_ d 8 4 [l0, l1, l2] [v_i s0] h Q ↔ if s0 = 0 then ex_ d 8 38 [l0, l1, l2] [] h Q else ex_ d 8 7 [l0, l1, l2] [] h Q := by
  unfold ex_
  refine (am_Y_go 1 (ok := []) (g := (if s0 = 0 then 38 else 7, [l0, l1, l2], [], h)) rfl).trans ?_
  all_goals exact am_Y_if

theorem b_X0_add_38 {d : Nat} {Q : Option am_V → am_H → Prop} (h : am_H) (l0 l1 l2 : Option am_V) : ex_ d 8 38 [l0, l1, l2] [] h Q ↔ Q (none) h := by
  unfold ex_
  exact ((am_Y_ret rfl rfl rfl).trans (am_rz rfl))

theorem b_X0_add_7 {d : Nat} {Q : Option am_V → am_H → Prop} (h : am_H) (x2 : Int32) (l0 l1 : Option am_V) : ex_ (d + 1) 8 7 [l0, l1, some (v_i x2)] [] h Q ↔ ex_ d 7 0 [some (v_i x2)] [] h (fun r h' => ex_ (d + 1) 8 11 [l0, l1, some (v_i x2)] (r.toList ++ []) h' Q) := by
  unfold ex_
  refine (am_Y_go 1 (ok := []) (g := (8, [l0, l1, some (v_i x2)], [v_i x2], h)) rfl).trans ?_
  all_goals exact ((am_Y_call (j := 7) (na := 1) (ci := 0) (fl := 2) rfl rfl rfl).trans (cj_d ⟨⟨Nat.le_of_ble_eq_true rfl, Nat.le_of_ble_eq_true rfl, Nat.le_of_ble_eq_true rfl, rfl⟩, Or.inl rfl⟩ Iff.rfl))

theorem b_X0_add_11 {d : Nat} {Q : Option am_V → am_H → Prop} (h : am_H) (s0 : Int32) (l0 l1 l2 : Option am_V) : ex_ d 8 11 [l0, l1, l2] [v_i s0] h Q ↔ if s0 = 0 then ex_ d 8 38 [l0, l1, l2] [] h Q else ex_ d 8 14 [l0, l1, l2] [] h Q := by
  unfold ex_
  refine (am_Y_go 1 (ok := []) (g := (if s0 = 0 then 38 else 14, [l0, l1, l2], [], h)) rfl).trans ?_
  all_goals exact am_Y_if

theorem b_X0_add_14 {d : Nat} {Q : Option am_V → am_H → Prop} (h : am_H) (x1 : Int32) (x2 : Int32) (Lh : Lay h) : ex_ d 8 14 [some (v_r (some 41)), some (v_i x1), some (v_i x2)] [] h Q ↔ vp_in x1 10 ∧ vp_in x1 10 ∧ vp_in x2 10 ∧ vp_in x2 10 ∧ Q (none) (p_i (p_i h 42 (Int32.toNatClampNeg x1) ((h_i h 42 (Int32.toNatClampNeg x1)) ||| ((1 : Int32) <<< (x2 &&& 31)))) 43 (Int32.toNatClampNeg x2) ((h_i (p_i h 42 (Int32.toNatClampNeg x1) ((h_i h 42 (Int32.toNatClampNeg x1)) ||| ((1 : Int32) <<< (x2 &&& 31)))) 43 (Int32.toNatClampNeg x2)) ||| ((1 : Int32) <<< (x1 &&& 31)))) := by
  have e0 : h_r h 41 3 = some 42 := la_r Lh (q := (41, 3, 42)) (by decide)
  have e1 : h_r h 41 4 = some 43 := la_r Lh (q := (41, 4, 43)) (by decide)
  unfold ex_
  refine (am_Y_go 20 (ok := [am_is h (some 41) 0, am_ar h ((h_r h 41 3)) 20 x1, am_ar h ((h_r h 41 3)) 20 x1, am_is h (some 41) 0, am_ar h ((h_r h 41 4)) 20 x2, am_ar h ((h_r h 41 4)) 20 x2]) (g := (38, [some (v_r (some 41)), some (v_i x1), some (v_i x2)], [], (p_i (p_i h ((h_r h 41 3).getD 0) (Int32.toNatClampNeg x1) ((h_i h ((h_r h 41 3).getD 0) (Int32.toNatClampNeg x1)) ||| ((1 : Int32) <<< (x2 &&& 31)))) ((h_r h 41 4).getD 0) (Int32.toNatClampNeg x2) ((h_i (p_i h ((h_r h 41 3).getD 0) (Int32.toNatClampNeg x1) ((h_i h ((h_r h 41 3).getD 0) (Int32.toNatClampNeg x1)) ||| ((1 : Int32) <<< (x2 &&& 31)))) ((h_r h 41 4).getD 0) (Int32.toNatClampNeg x2)) ||| ((1 : Int32) <<< (x1 &&& 31)))))) rfl).trans ?_
  simp only [e0, e1, Option.getD_some, am_all]
  all_goals exact cj_d (la_is Lh (o := 41) rfl) (cj_k (la_ar Lh (o := 42) rfl) (cj_k (la_ar Lh (o := 42) rfl) (cj_d (la_is Lh (o := 41) rfl) (cj_k (la_ar Lh (o := 43) rfl) (cj_k (la_ar Lh (o := 43) rfl) (((am_Y_ret rfl rfl rfl).trans (am_rz rfl))))))))

theorem b_X0_addOrderOf_0 {d : Nat} {Q : Option am_V → am_H → Prop} (h : am_H) (l0 l1 l2 l3 : Option am_V) : ex_ d 11 0 [l0, l1, l2, l3] [] h Q ↔ ex_ d 11 2 [l0, l1, some (v_i (0 : Int32)), l3] [] h Q := by
  unfold ex_
  refine (am_Y_go 2 (ok := []) (g := (2, [l0, l1, some (v_i (0 : Int32)), l3], [], h)) rfl).trans ?_
  all_goals exact Iff.rfl

theorem b_X0_addOrderOf_2 {d : Nat} {Q : Option am_V → am_H → Prop} (h : am_H) (x2 : Int32) (x1 : Int32) (l3 : Option am_V) (Lh : Lay h) : ex_ (d + 1) 11 2 [some (v_r (some 41)), some (v_i x1), some (v_i x2), l3] [] h Q ↔ ex_ d 9 0 [some (v_r (some 15)), some (v_i x1)] [] h (fun r h' => ex_ (d + 1) 11 11 [some (v_r (some 41)), some (v_i x1), some (v_i x2), l3] (r.toList ++ [v_i x2]) h' Q) := by
  have e0 : h_r h 41 1 = some 15 := la_r Lh (q := (41, 1, 15)) (by decide)
  unfold ex_
  refine (am_Y_go 4 (ok := [am_is h (some 41) 0]) (g := (8, [some (v_r (some 41)), some (v_i x1), some (v_i x2), l3], [v_i x1, v_r ((h_r h 41 1)), v_i x2], h)) rfl).trans ?_
  simp only [e0, Option.getD_some, am_all]
  all_goals exact cj_d (la_is Lh (o := 41) rfl) (((am_Y_call (j := 9) (na := 2) (ci := 6) (fl := 0) rfl rfl rfl).trans (cj_d ⟨⟨Nat.le_of_ble_eq_true rfl, Nat.le_of_ble_eq_true rfl, Nat.le_of_ble_eq_true rfl, rfl⟩, Or.inr (Or.inr (show (6 : Nat) < 20 ∧ am_is h (some 15) 6 from ⟨by decide, (la_is Lh (o := 15) rfl)⟩))⟩ Iff.rfl)))

theorem b_X0_addOrderOf_11 {d : Nat} {Q : Option am_V → am_H → Prop} (h : am_H) (s0 : Int32) (s1 : Int32) (l0 l1 l2 l3 : Option am_V) : ex_ d 11 11 [l0, l1, l2, l3] [v_i s0, v_i s1] h Q ↔ if s0 ≤ s1 then ex_ d 11 64 [l0, l1, l2, l3] [] h Q else ex_ d 11 14 [l0, l1, l2, l3] [] h Q := by
  unfold ex_
  refine (am_Y_go 1 (ok := []) (g := (if s0 ≤ s1 then 64 else 14, [l0, l1, l2, l3], [], h)) rfl).trans ?_
  all_goals exact am_Y_if

theorem b_X0_addOrderOf_64 {d : Nat} {Q : Option am_V → am_H → Prop} (h : am_H) (l0 l1 l2 l3 : Option am_V) : ex_ d 11 64 [l0, l1, l2, l3] [] h Q ↔ Q (none) h := by
  unfold ex_
  exact ((am_Y_ret rfl rfl rfl).trans (am_rz rfl))

theorem b_X0_addOrderOf_14 {d : Nat} {Q : Option am_V → am_H → Prop} (h : am_H) (x2 : Int32) (l0 l1 l3 : Option am_V) : ex_ d 11 14 [l0, l1, some (v_i x2), l3] [] h Q ↔ ex_ d 11 18 [l0, l1, some (v_i x2), some (v_i (x2 + (1 : Int32)))] [] h Q := by
  unfold ex_
  refine (am_Y_go 4 (ok := []) (g := (18, [l0, l1, some (v_i x2), some (v_i (x2 + (1 : Int32)))], [], h)) rfl).trans ?_
  all_goals exact Iff.rfl

theorem b_X0_addOrderOf_18 {d : Nat} {Q : Option am_V → am_H → Prop} (h : am_H) (x3 : Int32) (x1 : Int32) (l2 : Option am_V) (Lh : Lay h) : ex_ (d + 1) 11 18 [some (v_r (some 41)), some (v_i x1), l2, some (v_i x3)] [] h Q ↔ ex_ d 9 0 [some (v_r (some 15)), some (v_i x1)] [] h (fun r h' => ex_ (d + 1) 11 27 [some (v_r (some 41)), some (v_i x1), l2, some (v_i x3)] (r.toList ++ [v_i x3]) h' Q) := by
  have e0 : h_r h 41 1 = some 15 := la_r Lh (q := (41, 1, 15)) (by decide)
  unfold ex_
  refine (am_Y_go 4 (ok := [am_is h (some 41) 0]) (g := (24, [some (v_r (some 41)), some (v_i x1), l2, some (v_i x3)], [v_i x1, v_r ((h_r h 41 1)), v_i x3], h)) rfl).trans ?_
  simp only [e0, Option.getD_some, am_all]
  all_goals exact cj_d (la_is Lh (o := 41) rfl) (((am_Y_call (j := 9) (na := 2) (ci := 6) (fl := 0) rfl rfl rfl).trans (cj_d ⟨⟨Nat.le_of_ble_eq_true rfl, Nat.le_of_ble_eq_true rfl, Nat.le_of_ble_eq_true rfl, rfl⟩, Or.inr (Or.inr (show (6 : Nat) < 20 ∧ am_is h (some 15) 6 from ⟨by decide, (la_is Lh (o := 15) rfl)⟩))⟩ Iff.rfl)))

theorem b_X0_addOrderOf_27 {d : Nat} {Q : Option am_V → am_H → Prop} (h : am_H) (s0 : Int32) (s1 : Int32) (l0 l1 l2 l3 : Option am_V) : ex_ d 11 27 [l0, l1, l2, l3] [v_i s0, v_i s1] h Q ↔ if s0 ≤ s1 then ex_ d 11 58 [l0, l1, l2, l3] [] h Q else ex_ d 11 30 [l0, l1, l2, l3] [] h Q := by
  unfold ex_
  refine (am_Y_go 1 (ok := []) (g := (if s0 ≤ s1 then 58 else 30, [l0, l1, l2, l3], [], h)) rfl).trans ?_
  all_goals exact am_Y_if

theorem b_X0_addOrderOf_58 {d : Nat} {Q : Option am_V → am_H → Prop} (h : am_H) (x2 : Int32) (l0 l1 l3 : Option am_V) : ex_ d 11 58 [l0, l1, some (v_i x2), l3] [] h Q ↔ ex_ d 11 2 [l0, l1, some (v_i (x2 + (1 : Int32))), l3] [] h Q := by
  unfold ex_
  refine (am_Y_go 2 (ok := []) (g := (2, [l0, l1, some (v_i (x2 + (1 : Int32))), l3], [], h)) rfl).trans ?_
  all_goals exact Iff.rfl

theorem b_X0_addOrderOf_30 {d : Nat} {Q : Option am_V → am_H → Prop} (h : am_H) (x1 : Int32) (x2 : Int32) (l3 : Option am_V) (Lh : Lay h) : ex_ (d + 1) 11 30 [some (v_r (some 41)), some (v_i x1), some (v_i x2), l3] [] h Q ↔ ex_ d 10 0 [some (v_r (some 15)), some (v_i x1), some (v_i x2)] [] h (fun r h' => ex_ (d + 1) 11 40 [some (v_r (some 41)), some (v_i x1), some (v_i x2), l3] (r.toList ++ [v_r (some 41)]) h' Q) := by
  have e0 : h_r h 41 1 = some 15 := la_r Lh (q := (41, 1, 15)) (by decide)
  unfold ex_
  refine (am_Y_go 5 (ok := [am_is h (some 41) 0]) (g := (37, [some (v_r (some 41)), some (v_i x1), some (v_i x2), l3], [v_i x2, v_i x1, v_r ((h_r h 41 1)), v_r (some 41)], h)) rfl).trans ?_
  simp only [e0, Option.getD_some, am_all]
  all_goals exact cj_d (la_is Lh (o := 41) rfl) (((am_Y_call (j := 10) (na := 3) (ci := 6) (fl := 0) rfl rfl rfl).trans (cj_d ⟨⟨Nat.le_of_ble_eq_true rfl, Nat.le_of_ble_eq_true rfl, Nat.le_of_ble_eq_true rfl, rfl⟩, Or.inr (Or.inr (show (6 : Nat) < 20 ∧ am_is h (some 15) 6 from ⟨by decide, (la_is Lh (o := 15) rfl)⟩))⟩ Iff.rfl)))

theorem b_X0_addOrderOf_40 {d : Nat} {Q : Option am_V → am_H → Prop} (h : am_H) (s0 : Int32) (x1 : Int32) (x3 : Int32) (l2 : Option am_V) (Lh : Lay h) : ex_ (d + 1) 11 40 [some (v_r (some 41)), some (v_i x1), l2, some (v_i x3)] [v_i s0, v_r (some 41)] h Q ↔ ex_ d 10 0 [some (v_r (some 15)), some (v_i x1), some (v_i x3)] [] h (fun r h' => ex_ (d + 1) 11 49 [some (v_r (some 41)), some (v_i x1), l2, some (v_i x3)] (r.toList ++ [v_i s0, v_r (some 41)]) h' Q) := by
  have e0 : h_r h 41 1 = some 15 := la_r Lh (q := (41, 1, 15)) (by decide)
  unfold ex_
  refine (am_Y_go 4 (ok := [am_is h (some 41) 0]) (g := (46, [some (v_r (some 41)), some (v_i x1), l2, some (v_i x3)], [v_i x3, v_i x1, v_r ((h_r h 41 1)), v_i s0, v_r (some 41)], h)) rfl).trans ?_
  simp only [e0, Option.getD_some, am_all]
  all_goals exact cj_d (la_is Lh (o := 41) rfl) (((am_Y_call (j := 10) (na := 3) (ci := 6) (fl := 0) rfl rfl rfl).trans (cj_d ⟨⟨Nat.le_of_ble_eq_true rfl, Nat.le_of_ble_eq_true rfl, Nat.le_of_ble_eq_true rfl, rfl⟩, Or.inr (Or.inr (show (6 : Nat) < 20 ∧ am_is h (some 15) 6 from ⟨by decide, (la_is Lh (o := 15) rfl)⟩))⟩ Iff.rfl)))

theorem b_X0_addOrderOf_49 {d : Nat} {Q : Option am_V → am_H → Prop} (h : am_H) (s0 : Int32) (s1 : Int32) (l0 l1 l2 l3 : Option am_V) (Lh : Lay h) : ex_ (d + 1) 11 49 [l0, l1, l2, l3] [v_i s0, v_i s1, v_r (some 41)] h Q ↔ ex_ d 8 0 [some (v_r (some 41)), some (v_i s1), some (v_i s0)] [] h (fun r h' => ex_ (d + 1) 11 52 [l0, l1, l2, l3] (r.toList ++ []) h' Q) := by
  unfold ex_
  exact ((am_Y_call (j := 8) (na := 3) (ci := 0) (fl := 0) rfl rfl rfl).trans (cj_d ⟨⟨Nat.le_of_ble_eq_true rfl, Nat.le_of_ble_eq_true rfl, Nat.le_of_ble_eq_true rfl, rfl⟩, Or.inr (Or.inr (show (0 : Nat) < 20 ∧ am_is h (some 41) 0 from ⟨by decide, (la_is Lh (o := 41) rfl)⟩))⟩ Iff.rfl))

theorem b_X0_addOrderOf_52 {d : Nat} {Q : Option am_V → am_H → Prop} (h : am_H) (x3 : Int32) (l0 l1 l2 : Option am_V) : ex_ d 11 52 [l0, l1, l2, some (v_i x3)] [] h Q ↔ ex_ d 11 18 [l0, l1, l2, some (v_i (x3 + (1 : Int32)))] [] h Q := by
  unfold ex_
  refine (am_Y_go 2 (ok := []) (g := (18, [l0, l1, l2, some (v_i (x3 + (1 : Int32)))], [], h)) rfl).trans ?_
  all_goals exact Iff.rfl

theorem b_X0_gather_0 {d : Nat} {Q : Option am_V → am_H → Prop} (h : am_H) (l1 l2 l3 l4 l5 : Option am_V) (Lh : Lay h) : ex_ (d + 1) 12 0 [some (v_r (some 41)), l1, l2, l3, l4, l5] [] h Q ↔ ex_ d 2 0 [some (v_r (some 42)), some (v_i (0 : Int32)), none, none] [] h (fun r h' => ex_ (d + 1) 12 8 [some (v_r (some 41)), l1, l2, l3, l4, l5] (r.toList ++ []) h' Q) := by
  have e0 : h_r h 41 3 = some 42 := la_r Lh (q := (41, 3, 42)) (by decide)
  unfold ex_
  refine (am_Y_go 3 (ok := [am_is h (some 41) 0]) (g := (5, [some (v_r (some 41)), l1, l2, l3, l4, l5], [v_i (0 : Int32), v_r ((h_r h 41 3))], h)) rfl).trans ?_
  simp only [e0, Option.getD_some, am_all]
  all_goals exact cj_d (la_is Lh (o := 41) rfl) (((am_Y_call (j := 2) (na := 2) (ci := 0) (fl := 2) rfl rfl rfl).trans (cj_d ⟨⟨Nat.le_of_ble_eq_true rfl, Nat.le_of_ble_eq_true rfl, Nat.le_of_ble_eq_true rfl, rfl⟩, Or.inl rfl⟩ Iff.rfl)))

theorem b_X0_gather_8 {d : Nat} {Q : Option am_V → am_H → Prop} (h : am_H) (l1 l2 l3 l4 l5 : Option am_V) (Lh : Lay h) : ex_ (d + 1) 12 8 [some (v_r (some 41)), l1, l2, l3, l4, l5] [] h Q ↔ ex_ d 2 0 [some (v_r (some 43)), some (v_i (0 : Int32)), none, none] [] h (fun r h' => ex_ (d + 1) 12 16 [some (v_r (some 41)), l1, l2, l3, l4, l5] (r.toList ++ []) h' Q) := by
  have e0 : h_r h 41 4 = some 43 := la_r Lh (q := (41, 4, 43)) (by decide)
  unfold ex_
  refine (am_Y_go 3 (ok := [am_is h (some 41) 0]) (g := (13, [some (v_r (some 41)), l1, l2, l3, l4, l5], [v_i (0 : Int32), v_r ((h_r h 41 4))], h)) rfl).trans ?_
  simp only [e0, Option.getD_some, am_all]
  all_goals exact cj_d (la_is Lh (o := 41) rfl) (((am_Y_call (j := 2) (na := 2) (ci := 0) (fl := 2) rfl rfl rfl).trans (cj_d ⟨⟨Nat.le_of_ble_eq_true rfl, Nat.le_of_ble_eq_true rfl, Nat.le_of_ble_eq_true rfl, rfl⟩, Or.inl rfl⟩ Iff.rfl)))

theorem b_X0_gather_16 {d : Nat} {Q : Option am_V → am_H → Prop} (h : am_H) (x1 : Int32) (l2 l3 l4 l5 : Option am_V) (Lh : Lay h) : ex_ (d + 1) 12 16 [some (v_r (some 41)), some (v_i x1), l2, l3, l4, l5] [] h Q ↔ ex_ d 6 0 [some (v_r (some 11)), some (v_i x1), none, none, none] [] h (fun r h' => ex_ (d + 1) 12 25 [some (v_r (some 41)), some (v_i x1), l2, l3, l4, l5] (r.toList ++ [v_r (some 41)]) h' Q) := by
  have e0 : h_r h 41 0 = some 11 := la_r Lh (q := (41, 0, 11)) (by decide)
  unfold ex_
  refine (am_Y_go 4 (ok := [am_is h (some 41) 0]) (g := (22, [some (v_r (some 41)), some (v_i x1), l2, l3, l4, l5], [v_i x1, v_r ((h_r h 41 0)), v_r (some 41)], h)) rfl).trans ?_
  simp only [e0, Option.getD_some, am_all]
  all_goals exact cj_d (la_is Lh (o := 41) rfl) (((am_Y_call (j := 6) (na := 2) (ci := 1) (fl := 0) rfl rfl rfl).trans (cj_d ⟨⟨Nat.le_of_ble_eq_true rfl, Nat.le_of_ble_eq_true rfl, Nat.le_of_ble_eq_true rfl, rfl⟩, Or.inr (Or.inr (show (1 : Nat) < 20 ∧ am_is h (some 11) 1 from ⟨by decide, (la_is Lh (o := 11) rfl)⟩))⟩ Iff.rfl)))

theorem b_X0_gather_25 {d : Nat} {Q : Option am_V → am_H → Prop} (h : am_H) (s0 : Int32) (x1 : Int32) (l2 l3 l4 l5 : Option am_V) (Lh : Lay h) : ex_ (d + 1) 12 25 [some (v_r (some 41)), some (v_i x1), l2, l3, l4, l5] [v_i s0, v_r (some 41)] h Q ↔ ex_ d 4 0 [some (v_r (some 11)), some (v_i x1)] [] (p_i h 41 2 s0) (fun r h' => ex_ (d + 1) 12 36 [some (v_r (some 41)), some (v_i x1), l2, l3, l4, l5] (r.toList ++ []) h' Q) := by
  have e0 : h_r h 41 0 = some 11 := la_r Lh (q := (41, 0, 11)) (by decide)
  unfold ex_
  refine (am_Y_go 4 (ok := [am_is h (some 41) 0, am_is h (some 41) 0]) (g := (33, [some (v_r (some 41)), some (v_i x1), l2, l3, l4, l5], [v_i x1, v_r ((h_r h 41 0))], (p_i h 41 2 s0))) rfl).trans ?_
  simp only [e0, Option.getD_some, am_all]
  all_goals exact cj_d (la_is Lh (o := 41) rfl) (cj_d (la_is Lh (o := 41) rfl) (((am_Y_call (j := 4) (na := 2) (ci := 1) (fl := 0) rfl rfl rfl).trans (cj_d ⟨⟨Nat.le_of_ble_eq_true rfl, Nat.le_of_ble_eq_true rfl, Nat.le_of_ble_eq_true rfl, rfl⟩, Or.inr (Or.inr (show (1 : Nat) < 20 ∧ am_is h (some 11) 1 from ⟨by decide, (la_is Lh (o := 11) rfl)⟩))⟩ Iff.rfl))))

theorem b_X0_gather_36 {d : Nat} {Q : Option am_V → am_H → Prop} (h : am_H) (s0 : Int32) (l0 l1 l2 l3 l4 l5 : Option am_V) : ex_ d 12 36 [l0, l1, l2, l3, l4, l5] [v_i s0] h Q ↔ ex_ d 12 39 [l0, l1, some (v_i s0), some (v_i (0 : Int32)), l4, l5] [] h Q := by
  unfold ex_
  refine (am_Y_go 3 (ok := []) (g := (39, [l0, l1, some (v_i s0), some (v_i (0 : Int32)), l4, l5], [], h)) rfl).trans ?_
  all_goals exact Iff.rfl

theorem b_X0_gather_39 {d : Nat} {Q : Option am_V → am_H → Prop} (h : am_H) (x3 : Int32) (x2 : Int32) (l0 l1 l4 l5 : Option am_V) : ex_ d 12 39 [l0, l1, some (v_i x2), some (v_i x3), l4, l5] [] h Q ↔ if x2 ≤ x3 then ex_ d 12 107 [l0, l1, some (v_i x2), some (v_i x3), l4, l5] [] h Q else ex_ d 12 44 [l0, l1, some (v_i x2), some (v_i x3), l4, l5] [] h Q := by
  unfold ex_
  refine (am_Y_go 3 (ok := []) (g := (if x2 ≤ x3 then 107 else 44, [l0, l1, some (v_i x2), some (v_i x3), l4, l5], [], h)) rfl).trans ?_
  all_goals exact am_Y_if

theorem b_X0_gather_107 {d : Nat} {Q : Option am_V → am_H → Prop} (h : am_H) (l0 l1 l2 l3 l4 l5 : Option am_V) : ex_ d 12 107 [l0, l1, l2, l3, l4, l5] [] h Q ↔ Q (none) h := by
  unfold ex_
  exact ((am_Y_ret rfl rfl rfl).trans (am_rz rfl))

theorem b_X0_gather_44 {d : Nat} {Q : Option am_V → am_H → Prop} (h : am_H) (x1 : Int32) (x3 : Int32) (l2 l4 l5 : Option am_V) (Lh : Lay h) : ex_ (d + 1) 12 44 [some (v_r (some 41)), some (v_i x1), l2, some (v_i x3), l4, l5] [] h Q ↔ ex_ d 5 0 [some (v_r (some 11)), some (v_i x1), some (v_i x3)] [] h (fun r h' => ex_ (d + 1) 12 53 [some (v_r (some 41)), some (v_i x1), l2, some (v_i x3), l4, l5] (r.toList ++ []) h' Q) := by
  have e0 : h_r h 41 0 = some 11 := la_r Lh (q := (41, 0, 11)) (by decide)
  unfold ex_
  refine (am_Y_go 4 (ok := [am_is h (some 41) 0]) (g := (50, [some (v_r (some 41)), some (v_i x1), l2, some (v_i x3), l4, l5], [v_i x3, v_i x1, v_r ((h_r h 41 0))], h)) rfl).trans ?_
  simp only [e0, Option.getD_some, am_all]
  all_goals exact cj_d (la_is Lh (o := 41) rfl) (((am_Y_call (j := 5) (na := 3) (ci := 1) (fl := 0) rfl rfl rfl).trans (cj_d ⟨⟨Nat.le_of_ble_eq_true rfl, Nat.le_of_ble_eq_true rfl, Nat.le_of_ble_eq_true rfl, rfl⟩, Or.inr (Or.inr (show (1 : Nat) < 20 ∧ am_is h (some 11) 1 from ⟨by decide, (la_is Lh (o := 11) rfl)⟩))⟩ Iff.rfl)))

theorem b_X0_gather_53 {d : Nat} {Q : Option am_V → am_H → Prop} (h : am_H) (s0 : Int32) (x1 : Int32) (l2 l3 l4 l5 : Option am_V) (Lh : Lay h) : ex_ (d + 1) 12 53 [some (v_r (some 41)), some (v_i x1), l2, l3, l4, l5] [v_i s0] h Q ↔ ex_ d 8 0 [some (v_r (some 41)), some (v_i x1), some (v_i s0)] [] h (fun r h' => ex_ (d + 1) 12 62 [some (v_r (some 41)), some (v_i x1), l2, l3, some (v_i s0), l5] (r.toList ++ []) h' Q) := by
  unfold ex_
  refine (am_Y_go 4 (ok := []) (g := (59, [some (v_r (some 41)), some (v_i x1), l2, l3, some (v_i s0), l5], [v_i s0, v_i x1, v_r (some 41)], h)) rfl).trans ?_
  all_goals exact ((am_Y_call (j := 8) (na := 3) (ci := 0) (fl := 0) rfl rfl rfl).trans (cj_d ⟨⟨Nat.le_of_ble_eq_true rfl, Nat.le_of_ble_eq_true rfl, Nat.le_of_ble_eq_true rfl, rfl⟩, Or.inr (Or.inr (show (0 : Nat) < 20 ∧ am_is h (some 41) 0 from ⟨by decide, (la_is Lh (o := 41) rfl)⟩))⟩ Iff.rfl))

theorem b_X0_gather_62 {d : Nat} {Q : Option am_V → am_H → Prop} (h : am_H) (x3 : Int32) (l0 l1 l2 l4 l5 : Option am_V) : ex_ d 12 62 [l0, l1, l2, some (v_i x3), l4, l5] [] h Q ↔ ex_ d 12 67 [l0, l1, l2, some (v_i x3), l4, some (v_i (x3 + (1 : Int32)))] [] h Q := by
  unfold ex_
  refine (am_Y_go 4 (ok := []) (g := (67, [l0, l1, l2, some (v_i x3), l4, some (v_i (x3 + (1 : Int32)))], [], h)) rfl).trans ?_
  all_goals exact Iff.rfl

theorem b_X0_gather_67 {d : Nat} {Q : Option am_V → am_H → Prop} (h : am_H) (x5 : Int32) (x2 : Int32) (l0 l1 l3 l4 : Option am_V) : ex_ d 12 67 [l0, l1, some (v_i x2), l3, l4, some (v_i x5)] [] h Q ↔ if x2 ≤ x5 then ex_ d 12 95 [l0, l1, some (v_i x2), l3, l4, some (v_i x5)] [] h Q else ex_ d 12 73 [l0, l1, some (v_i x2), l3, l4, some (v_i x5)] [] h Q := by
  unfold ex_
  refine (am_Y_go 3 (ok := []) (g := (if x2 ≤ x5 then 95 else 73, [l0, l1, some (v_i x2), l3, l4, some (v_i x5)], [], h)) rfl).trans ?_
  all_goals exact am_Y_if

theorem b_X0_gather_95 {d : Nat} {Q : Option am_V → am_H → Prop} (h : am_H) (x4 : Int32) (l1 l2 l3 l5 : Option am_V) (Lh : Lay h) : ex_ (d + 1) 12 95 [some (v_r (some 41)), l1, l2, l3, some (v_i x4), l5] [] h Q ↔ ex_ d 11 0 [some (v_r (some 41)), some (v_i x4), none, none] [] h (fun r h' => ex_ (d + 1) 12 101 [some (v_r (some 41)), l1, l2, l3, some (v_i x4), l5] (r.toList ++ []) h' Q) := by
  unfold ex_
  refine (am_Y_go 2 (ok := []) (g := (98, [some (v_r (some 41)), l1, l2, l3, some (v_i x4), l5], [v_i x4, v_r (some 41)], h)) rfl).trans ?_
  all_goals exact ((am_Y_call (j := 11) (na := 2) (ci := 0) (fl := 0) rfl rfl rfl).trans (cj_d ⟨⟨Nat.le_of_ble_eq_true rfl, Nat.le_of_ble_eq_true rfl, Nat.le_of_ble_eq_true rfl, rfl⟩, Or.inr (Or.inr (show (0 : Nat) < 20 ∧ am_is h (some 41) 0 from ⟨by decide, (la_is Lh (o := 41) rfl)⟩))⟩ Iff.rfl))

theorem b_X0_gather_73 {d : Nat} {Q : Option am_V → am_H → Prop} (h : am_H) (x4 : Int32) (x1 : Int32) (x5 : Int32) (l2 l3 : Option am_V) (Lh : Lay h) : ex_ (d + 1) 12 73 [some (v_r (some 41)), some (v_i x1), l2, l3, some (v_i x4), some (v_i x5)] [] h Q ↔ ex_ d 5 0 [some (v_r (some 11)), some (v_i x1), some (v_i x5)] [] h (fun r h' => ex_ (d + 1) 12 86 [some (v_r (some 41)), some (v_i x1), l2, l3, some (v_i x4), some (v_i x5)] (r.toList ++ [v_i x4, v_r (some 41)]) h' Q) := by
  have e0 : h_r h 41 0 = some 11 := la_r Lh (q := (41, 0, 11)) (by decide)
  unfold ex_
  refine (am_Y_go 6 (ok := [am_is h (some 41) 0]) (g := (83, [some (v_r (some 41)), some (v_i x1), l2, l3, some (v_i x4), some (v_i x5)], [v_i x5, v_i x1, v_r ((h_r h 41 0)), v_i x4, v_r (some 41)], h)) rfl).trans ?_
  simp only [e0, Option.getD_some, am_all]
  all_goals exact cj_d (la_is Lh (o := 41) rfl) (((am_Y_call (j := 5) (na := 3) (ci := 1) (fl := 0) rfl rfl rfl).trans (cj_d ⟨⟨Nat.le_of_ble_eq_true rfl, Nat.le_of_ble_eq_true rfl, Nat.le_of_ble_eq_true rfl, rfl⟩, Or.inr (Or.inr (show (1 : Nat) < 20 ∧ am_is h (some 11) 1 from ⟨by decide, (la_is Lh (o := 11) rfl)⟩))⟩ Iff.rfl)))

theorem b_X0_gather_101 {d : Nat} {Q : Option am_V → am_H → Prop} (h : am_H) (x3 : Int32) (l0 l1 l2 l4 l5 : Option am_V) : ex_ d 12 101 [l0, l1, l2, some (v_i x3), l4, l5] [] h Q ↔ ex_ d 12 39 [l0, l1, l2, some (v_i (x3 + (1 : Int32))), l4, l5] [] h Q := by
  unfold ex_
  refine (am_Y_go 2 (ok := []) (g := (39, [l0, l1, l2, some (v_i (x3 + (1 : Int32))), l4, l5], [], h)) rfl).trans ?_
  all_goals exact Iff.rfl

theorem b_X0_gather_86 {d : Nat} {Q : Option am_V → am_H → Prop} (h : am_H) (s0 : Int32) (s1 : Int32) (l0 l1 l2 l3 l4 l5 : Option am_V) (Lh : Lay h) : ex_ (d + 1) 12 86 [l0, l1, l2, l3, l4, l5] [v_i s0, v_i s1, v_r (some 41)] h Q ↔ ex_ d 8 0 [some (v_r (some 41)), some (v_i s1), some (v_i s0)] [] h (fun r h' => ex_ (d + 1) 12 89 [l0, l1, l2, l3, l4, l5] (r.toList ++ []) h' Q) := by
  unfold ex_
  exact ((am_Y_call (j := 8) (na := 3) (ci := 0) (fl := 0) rfl rfl rfl).trans (cj_d ⟨⟨Nat.le_of_ble_eq_true rfl, Nat.le_of_ble_eq_true rfl, Nat.le_of_ble_eq_true rfl, rfl⟩, Or.inr (Or.inr (show (0 : Nat) < 20 ∧ am_is h (some 41) 0 from ⟨by decide, (la_is Lh (o := 41) rfl)⟩))⟩ Iff.rfl))

theorem b_X0_gather_89 {d : Nat} {Q : Option am_V → am_H → Prop} (h : am_H) (x5 : Int32) (l0 l1 l2 l3 l4 : Option am_V) : ex_ d 12 89 [l0, l1, l2, l3, l4, some (v_i x5)] [] h Q ↔ ex_ d 12 67 [l0, l1, l2, l3, l4, some (v_i (x5 + (1 : Int32)))] [] h Q := by
  unfold ex_
  refine (am_Y_go 2 (ok := []) (g := (67, [l0, l1, l2, l3, l4, some (v_i (x5 + (1 : Int32)))], [], h)) rfl).trans ?_
  all_goals exact Iff.rfl

theorem b_X0_isDemanded_0 {d : Nat} {Q : Option am_V → am_H → Prop} (h : am_H) (x1 : Int32) (l0 l2 : Option am_V) : ex_ (d + 1) 13 0 [l0, some (v_i x1), l2] [] h Q ↔ ex_ d 7 0 [some (v_i x1)] [] h (fun r h' => ex_ (d + 1) 13 4 [l0, some (v_i x1), l2] (r.toList ++ []) h' Q) := by
  unfold ex_
  refine (am_Y_go 1 (ok := []) (g := (1, [l0, some (v_i x1), l2], [v_i x1], h)) rfl).trans ?_
  all_goals exact ((am_Y_call (j := 7) (na := 1) (ci := 0) (fl := 2) rfl rfl rfl).trans (cj_d ⟨⟨Nat.le_of_ble_eq_true rfl, Nat.le_of_ble_eq_true rfl, Nat.le_of_ble_eq_true rfl, rfl⟩, Or.inl rfl⟩ Iff.rfl))

theorem b_X0_isDemanded_4 {d : Nat} {Q : Option am_V → am_H → Prop} (h : am_H) (s0 : Int32) (l0 l1 l2 : Option am_V) : ex_ d 13 4 [l0, l1, l2] [v_i s0] h Q ↔ if s0 = 0 then ex_ d 13 31 [l0, l1, l2] [] h Q else ex_ d 13 7 [l0, l1, l2] [] h Q := by
  unfold ex_
  refine (am_Y_go 1 (ok := []) (g := (if s0 = 0 then 31 else 7, [l0, l1, l2], [], h)) rfl).trans ?_
  all_goals exact am_Y_if

theorem b_X0_isDemanded_31 {d : Nat} {Q : Option am_V → am_H → Prop} (h : am_H) (l0 l1 l2 : Option am_V) : ex_ d 13 31 [l0, l1, l2] [] h Q ↔ Q (some (v_i (0 : Int32))) h := by
  unfold ex_
  refine (am_Y_go 1 (ok := []) (g := (32, [l0, l1, l2], [v_i (0 : Int32)], h)) rfl).trans ?_
  all_goals exact ((am_Y_ret rfl rfl rfl).trans (am_rz (show am_fit 1 0 from Or.inl rfl)))

theorem b_X0_isDemanded_7 {d : Nat} {Q : Option am_V → am_H → Prop} (h : am_H) (x2 : Int32) (l0 l1 : Option am_V) : ex_ (d + 1) 13 7 [l0, l1, some (v_i x2)] [] h Q ↔ ex_ d 7 0 [some (v_i x2)] [] h (fun r h' => ex_ (d + 1) 13 11 [l0, l1, some (v_i x2)] (r.toList ++ []) h' Q) := by
  unfold ex_
  refine (am_Y_go 1 (ok := []) (g := (8, [l0, l1, some (v_i x2)], [v_i x2], h)) rfl).trans ?_
  all_goals exact ((am_Y_call (j := 7) (na := 1) (ci := 0) (fl := 2) rfl rfl rfl).trans (cj_d ⟨⟨Nat.le_of_ble_eq_true rfl, Nat.le_of_ble_eq_true rfl, Nat.le_of_ble_eq_true rfl, rfl⟩, Or.inl rfl⟩ Iff.rfl))

theorem b_X0_isDemanded_11 {d : Nat} {Q : Option am_V → am_H → Prop} (h : am_H) (s0 : Int32) (l0 l1 l2 : Option am_V) : ex_ d 13 11 [l0, l1, l2] [v_i s0] h Q ↔ if s0 = 0 then ex_ d 13 31 [l0, l1, l2] [] h Q else ex_ d 13 14 [l0, l1, l2] [] h Q := by
  unfold ex_
  refine (am_Y_go 1 (ok := []) (g := (if s0 = 0 then 31 else 14, [l0, l1, l2], [], h)) rfl).trans ?_
  all_goals exact am_Y_if

theorem b_X0_isDemanded_14 {d : Nat} {Q : Option am_V → am_H → Prop} (h : am_H) (x1 : Int32) (x2 : Int32) (Lh : Lay h) : ex_ d 13 14 [some (v_r (some 41)), some (v_i x1), some (v_i x2)] [] h Q ↔ vp_in x1 10 ∧ (if (((h_i h 42 (Int32.toNatClampNeg x1)) >>> (x2 &&& 31)) &&& (1 : Int32)) = 0 then ex_ d 13 31 [some (v_r (some 41)), some (v_i x1), some (v_i x2)] [] h Q else ex_ d 13 27 [some (v_r (some 41)), some (v_i x1), some (v_i x2)] [] h Q) := by
  have e0 : h_r h 41 3 = some 42 := la_r Lh (q := (41, 3, 42)) (by decide)
  unfold ex_
  refine (am_Y_go 9 (ok := [am_is h (some 41) 0, am_ar h ((h_r h 41 3)) 20 x1]) (g := (if (((h_i h ((h_r h 41 3).getD 0) (Int32.toNatClampNeg x1)) >>> (x2 &&& 31)) &&& (1 : Int32)) = 0 then 31 else 27, [some (v_r (some 41)), some (v_i x1), some (v_i x2)], [], h)) rfl).trans ?_
  simp only [e0, Option.getD_some, am_all]
  all_goals exact cj_d (la_is Lh (o := 41) rfl) (cj_k (la_ar Lh (o := 42) rfl) (am_Y_if))

theorem b_X0_isDemanded_27 {d : Nat} {Q : Option am_V → am_H → Prop} (h : am_H) (l0 l1 l2 : Option am_V) : ex_ d 13 27 [l0, l1, l2] [] h Q ↔ Q (some (v_i (1 : Int32))) h := by
  unfold ex_
  refine (am_Y_go 2 (ok := []) (g := (32, [l0, l1, l2], [v_i (1 : Int32)], h)) rfl).trans ?_
  all_goals exact ((am_Y_ret rfl rfl rfl).trans (am_rz (show am_fit 1 1 from Or.inr rfl)))

theorem b_X0_size_0 {d : Nat} {Q : Option am_V → am_H → Prop} (h : am_H) (l1 l2 l3 l4 l5 : Option am_V) (Lh : Lay h) : ex_ d 15 0 [some (v_r (some 41)), l1, l2, l3, l4, l5] [] h Q ↔ ex_ d 15 13 [some (v_r (some 41)), some (v_i (0 : Int32)), some (v_r (some 42)), some (v_i (nI 10)), some (v_i (0 : Int32)), l5] [] h Q := by
  have e0 : h_r h 41 3 = some 42 := la_r Lh (q := (41, 3, 42)) (by decide)
  have e1 : h_l h 42 = 10 := (la_l Lh (o := 42) rfl)
  unfold ex_
  refine (am_Y_go 10 (ok := [am_is h (some 41) 0, am_an h ((h_r h 41 3))]) (g := (13, [some (v_r (some 41)), some (v_i (0 : Int32)), some (v_r ((h_r h 41 3))), some (v_i (nI (h_l h ((h_r h 41 3).getD 0)))), some (v_i (0 : Int32)), l5], [], h)) rfl).trans ?_
  simp only [e0, e1, Option.getD_some, am_all]
  all_goals exact cj_d (la_is Lh (o := 41) rfl) (cj_d (la_an20 Lh (o := 42) rfl) (Iff.rfl))

theorem b_X0_size_13 {d : Nat} {Q : Option am_V → am_H → Prop} (h : am_H) (x4 : Int32) (x3 : Int32) (l0 l1 l2 l5 : Option am_V) : ex_ d 15 13 [l0, l1, l2, some (v_i x3), some (v_i x4), l5] [] h Q ↔ if x3 ≤ x4 then ex_ d 15 39 [l0, l1, l2, some (v_i x3), some (v_i x4), l5] [] h Q else ex_ d 15 19 [l0, l1, l2, some (v_i x3), some (v_i x4), l5] [] h Q := by
  unfold ex_
  refine (am_Y_go 3 (ok := []) (g := (if x3 ≤ x4 then 39 else 19, [l0, l1, l2, some (v_i x3), some (v_i x4), l5], [], h)) rfl).trans ?_
  all_goals exact am_Y_if

theorem b_X0_size_39 {d : Nat} {Q : Option am_V → am_H → Prop} (h : am_H) (x1 : Int32) (l0 l2 l3 l4 l5 : Option am_V) : ex_ d 15 39 [l0, some (v_i x1), l2, l3, l4, l5] [] h Q ↔ Q (some (v_i x1)) h := by
  unfold ex_
  refine (am_Y_go 1 (ok := []) (g := (40, [l0, some (v_i x1), l2, l3, l4, l5], [v_i x1], h)) rfl).trans ?_
  all_goals exact ((am_Y_ret rfl rfl rfl).trans (am_r0))

theorem b_X0_size_19 {d : Nat} {Q : Option am_V → am_H → Prop} (h : am_H) (x2 : Option Nat) (x4 : Int32) (l0 l1 l3 l5 : Option am_V) : ex_ d 15 19 [l0, l1, some (v_r x2), l3, some (v_i x4), l5] [] h Q ↔ ex_ d 15 22 [l0, l1, some (v_r x2), l3, some (v_i x4), l5] [v_i x4, v_r x2] h Q := by
  unfold ex_
  refine (am_Y_go 2 (ok := []) (g := (22, [l0, l1, some (v_r x2), l3, some (v_i x4), l5], [v_i x4, v_r x2], h)) rfl).trans ?_
  all_goals exact Iff.rfl

theorem b_X0_size_22 {d : Nat} {Q : Option am_V → am_H → Prop} (h : am_H) (s0 : Int32) (t1 : Nat) (x1 : Int32) (l0 l2 l3 l4 l5 : Option am_V) {n_t1 : Nat} (A_t1 : y_arr h t1 20 n_t1) : ex_ (d + 1) 15 22 [l0, some (v_i x1), l2, l3, l4, l5] [v_i s0, v_r (some t1)] h Q ↔ vp_in s0 n_t1 ∧ ex_ d 14 0 [some (v_i (h_i h t1 (Int32.toNatClampNeg s0)))] [] h (fun r h' => ex_ (d + 1) 15 31 [l0, some (v_i x1), l2, l3, l4, some (v_i (h_i h t1 (Int32.toNatClampNeg s0)))] (r.toList ++ [v_i x1]) h' Q) := by
  unfold ex_
  refine (am_Y_go 4 (ok := [am_ar h (some t1) 20 s0]) (g := (28, [l0, some (v_i x1), l2, l3, l4, some (v_i (h_i h t1 (Int32.toNatClampNeg s0)))], [v_i (h_i h t1 (Int32.toNatClampNeg s0)), v_i x1], h)) rfl).trans ?_
  simp only [am_all]
  all_goals exact cj_k (lb_ar A_t1) (((am_Y_call (j := 14) (na := 1) (ci := 0) (fl := 2) rfl rfl rfl).trans (cj_d ⟨⟨Nat.le_of_ble_eq_true rfl, Nat.le_of_ble_eq_true rfl, Nat.le_of_ble_eq_true rfl, rfl⟩, Or.inl rfl⟩ Iff.rfl)))

theorem b_X0_size_31 {d : Nat} {Q : Option am_V → am_H → Prop} (h : am_H) (s0 : Int32) (s1 : Int32) (x4 : Int32) (l0 l1 l2 l3 l5 : Option am_V) : ex_ d 15 31 [l0, l1, l2, l3, some (v_i x4), l5] [v_i s0, v_i s1] h Q ↔ ex_ d 15 13 [l0, some (v_i (s1 + s0)), l2, l3, some (v_i (x4 + (1 : Int32))), l5] [] h Q := by
  unfold ex_
  refine (am_Y_go 4 (ok := []) (g := (13, [l0, some (v_i (s1 + s0)), l2, l3, some (v_i (x4 + (1 : Int32))), l5], [], h)) rfl).trans ?_
  all_goals exact Iff.rfl

theorem b_X0_at_0 {d : Nat} {Q : Option am_V → am_H → Prop} (h : am_H) (x1 : Int32) (l0 l2 l3 : Option am_V) : ex_ d 16 0 [l0, some (v_i x1), l2, l3] [] h Q ↔ ex_ d 16 4 [l0, some (v_i x1), some (v_i x1), some (v_i (0 : Int32))] [] h Q := by
  unfold ex_
  refine (am_Y_go 4 (ok := []) (g := (4, [l0, some (v_i x1), some (v_i x1), some (v_i (0 : Int32))], [], h)) rfl).trans ?_
  all_goals exact Iff.rfl

theorem b_X0_at_4 {d : Nat} {Q : Option am_V → am_H → Prop} (h : am_H) (x3 : Int32) (l0 l1 l2 : Option am_V) : ex_ d 16 4 [l0, l1, l2, some (v_i x3)] [] h Q ↔ if (100 : Int32) ≤ x3 then ex_ d 16 40 [l0, l1, l2, some (v_i x3)] [] h Q else ex_ d 16 10 [l0, l1, l2, some (v_i x3)] [] h Q := by
  unfold ex_
  refine (am_Y_go 3 (ok := []) (g := (if (100 : Int32) ≤ x3 then 40 else 10, [l0, l1, l2, some (v_i x3)], [], h)) rfl).trans ?_
  all_goals exact am_Y_if

theorem b_X0_at_40 {d : Nat} {Q : Option am_V → am_H → Prop} (h : am_H) (l0 l1 l2 l3 : Option am_V) : ex_ d 16 40 [l0, l1, l2, l3] [] h Q ↔ Q (some (v_i (-1 : Int32))) h := by
  unfold ex_
  refine (am_Y_go 1 (ok := []) (g := (41, [l0, l1, l2, l3], [v_i (-1 : Int32)], h)) rfl).trans ?_
  all_goals exact ((am_Y_ret rfl rfl rfl).trans (am_r0))

theorem b_X0_at_10 {d : Nat} {Q : Option am_V → am_H → Prop} (h : am_H) (x3 : Int32) (l1 l2 : Option am_V) (Lh : Lay h) : ex_ (d + 1) 16 10 [some (v_r (some 41)), l1, l2, some (v_i x3)] [] h Q ↔ ex_ d 13 0 [some (v_r (some 41)), some (v_i (x3 / (10 : Int32))), some (v_i (x3 - x3 / (10 : Int32) * (10 : Int32)))] [] h (fun r h' => ex_ (d + 1) 16 22 [some (v_r (some 41)), l1, l2, some (v_i x3)] (r.toList ++ []) h' Q) := by
  unfold ex_
  refine (am_Y_go 7 (ok := [¬ (10 : Int32) = 0, ¬ (10 : Int32) = 0]) (g := (19, [some (v_r (some 41)), l1, l2, some (v_i x3)], [v_i (x3 - x3 / (10 : Int32) * (10 : Int32)), v_i (x3 / (10 : Int32)), v_r (some 41)], h)) rfl).trans ?_
  simp only [am_all]
  all_goals exact cj_d (by decide) (cj_d (by decide) (((am_Y_call (j := 13) (na := 3) (ci := 0) (fl := 0) rfl rfl rfl).trans (cj_d ⟨⟨Nat.le_of_ble_eq_true rfl, Nat.le_of_ble_eq_true rfl, Nat.le_of_ble_eq_true rfl, rfl⟩, Or.inr (Or.inr (show (0 : Nat) < 20 ∧ am_is h (some 41) 0 from ⟨by decide, (la_is Lh (o := 41) rfl)⟩))⟩ Iff.rfl))))

theorem b_X0_at_22 {d : Nat} {Q : Option am_V → am_H → Prop} (h : am_H) (s0 : Int32) (l0 l1 l2 l3 : Option am_V) : ex_ d 16 22 [l0, l1, l2, l3] [v_i s0] h Q ↔ if s0 = 0 then ex_ d 16 34 [l0, l1, l2, l3] [] h Q else ex_ d 16 25 [l0, l1, l2, l3] [] h Q := by
  unfold ex_
  refine (am_Y_go 1 (ok := []) (g := (if s0 = 0 then 34 else 25, [l0, l1, l2, l3], [], h)) rfl).trans ?_
  all_goals exact am_Y_if

theorem b_X0_at_34 {d : Nat} {Q : Option am_V → am_H → Prop} (h : am_H) (x3 : Int32) (l0 l1 l2 : Option am_V) : ex_ d 16 34 [l0, l1, l2, some (v_i x3)] [] h Q ↔ ex_ d 16 4 [l0, l1, l2, some (v_i (x3 + (1 : Int32)))] [] h Q := by
  unfold ex_
  refine (am_Y_go 2 (ok := []) (g := (4, [l0, l1, l2, some (v_i (x3 + (1 : Int32)))], [], h)) rfl).trans ?_
  all_goals exact Iff.rfl

theorem b_X0_at_25 {d : Nat} {Q : Option am_V → am_H → Prop} (h : am_H) (x2 : Int32) (l0 l1 l3 : Option am_V) : ex_ d 16 25 [l0, l1, some (v_i x2), l3] [] h Q ↔ if ¬ x2 = 0 then ex_ d 16 31 [l0, l1, some (v_i x2), l3] [] h Q else ex_ d 16 29 [l0, l1, some (v_i x2), l3] [] h Q := by
  unfold ex_
  refine (am_Y_go 2 (ok := []) (g := (if ¬ x2 = 0 then 31 else 29, [l0, l1, some (v_i x2), l3], [], h)) rfl).trans ?_
  all_goals exact am_Y_if

theorem b_X0_at_31 {d : Nat} {Q : Option am_V → am_H → Prop} (h : am_H) (x2 : Int32) (x3 : Int32) (l0 l1 : Option am_V) : ex_ d 16 31 [l0, l1, some (v_i x2), some (v_i x3)] [] h Q ↔ ex_ d 16 4 [l0, l1, some (v_i (x2 + (-1 : Int32))), some (v_i (x3 + (1 : Int32)))] [] h Q := by
  unfold ex_
  refine (am_Y_go 3 (ok := []) (g := (4, [l0, l1, some (v_i (x2 + (-1 : Int32))), some (v_i (x3 + (1 : Int32)))], [], h)) rfl).trans ?_
  all_goals exact Iff.rfl

theorem b_X0_at_29 {d : Nat} {Q : Option am_V → am_H → Prop} (h : am_H) (x3 : Int32) (l0 l1 l2 : Option am_V) : ex_ d 16 29 [l0, l1, l2, some (v_i x3)] [] h Q ↔ Q (some (v_i x3)) h := by
  unfold ex_
  refine (am_Y_go 1 (ok := []) (g := (30, [l0, l1, l2, some (v_i x3)], [v_i x3], h)) rfl).trans ?_
  all_goals exact ((am_Y_ret rfl rfl rfl).trans (am_r0))

theorem b_X0_ringAt_0 {d : Nat} {Q : Option am_V → am_H → Prop} (h : am_H) (x1 : Int32) (l0 : Option am_V) : ex_ d 17 0 [l0, some (v_i x1)] [] h Q ↔ if x1 < 0 then ex_ d 17 30 [l0, some (v_i x1)] [] h Q else ex_ d 17 4 [l0, some (v_i x1)] [] h Q := by
  unfold ex_
  refine (am_Y_go 2 (ok := []) (g := (if x1 < 0 then 30 else 4, [l0, some (v_i x1)], [], h)) rfl).trans ?_
  all_goals exact am_Y_if

theorem b_X0_ringAt_30 {d : Nat} {Q : Option am_V → am_H → Prop} (h : am_H) (l0 l1 : Option am_V) : ex_ d 17 30 [l0, l1] [] h Q ↔ Q (some (v_i (-1 : Int32))) h := by
  unfold ex_
  refine (am_Y_go 1 (ok := []) (g := (31, [l0, l1], [v_i (-1 : Int32)], h)) rfl).trans ?_
  all_goals exact ((am_Y_ret rfl rfl rfl).trans (am_r0))

theorem b_X0_ringAt_4 {d : Nat} {Q : Option am_V → am_H → Prop} (h : am_H) (x1 : Int32) (Lh : Lay h) : ex_ d 17 4 [some (v_r (some 41)), some (v_i x1)] [] h Q ↔ if (h_i h 41 7) ≤ x1 then ex_ d 17 30 [some (v_r (some 41)), some (v_i x1)] [] h Q else ex_ d 17 12 [some (v_r (some 41)), some (v_i x1)] [] h Q := by
  unfold ex_
  refine (am_Y_go 4 (ok := [am_is h (some 41) 0]) (g := (if (h_i h 41 7) ≤ x1 then 30 else 12, [some (v_r (some 41)), some (v_i x1)], [], h)) rfl).trans ?_
  simp only [am_all]
  all_goals exact cj_d (la_is Lh (o := 41) rfl) (am_Y_if)

theorem b_X0_ringAt_12 {d : Nat} {Q : Option am_V → am_H → Prop} (h : am_H) (x1 : Int32) (Lh : Lay h) : ex_ d 17 12 [some (v_r (some 41)), some (v_i x1)] [] h Q ↔ if (nI 10) ≤ x1 then ex_ d 17 30 [some (v_r (some 41)), some (v_i x1)] [] h Q else ex_ d 17 21 [some (v_r (some 41)), some (v_i x1)] [] h Q := by
  have e0 : h_r h 41 6 = some 45 := la_r Lh (q := (41, 6, 45)) (by decide)
  have e1 : h_l h 45 = 10 := (la_l Lh (o := 45) rfl)
  unfold ex_
  refine (am_Y_go 5 (ok := [am_is h (some 41) 0, am_an h ((h_r h 41 6))]) (g := (if (nI (h_l h ((h_r h 41 6).getD 0))) ≤ x1 then 30 else 21, [some (v_r (some 41)), some (v_i x1)], [], h)) rfl).trans ?_
  simp only [e0, e1, Option.getD_some, am_all]
  all_goals exact cj_d (la_is Lh (o := 41) rfl) (cj_d (la_an20 Lh (o := 45) rfl) (am_Y_if))

theorem b_X0_ringAt_21 {d : Nat} {Q : Option am_V → am_H → Prop} (h : am_H) (x1 : Int32) (Lh : Lay h) : ex_ d 17 21 [some (v_r (some 41)), some (v_i x1)] [] h Q ↔ vp_in x1 10 ∧ Q (some (v_i (h_i h 45 (Int32.toNatClampNeg x1)))) h := by
  have e0 : h_r h 41 6 = some 45 := la_r Lh (q := (41, 6, 45)) (by decide)
  unfold ex_
  refine (am_Y_go 5 (ok := [am_is h (some 41) 0, am_ar h ((h_r h 41 6)) 20 x1]) (g := (31, [some (v_r (some 41)), some (v_i x1)], [v_i (h_i h ((h_r h 41 6).getD 0) (Int32.toNatClampNeg x1))], h)) rfl).trans ?_
  simp only [e0, Option.getD_some, am_all]
  all_goals exact cj_d (la_is Lh (o := 41) rfl) (cj_k (la_ar Lh (o := 45) rfl) (((am_Y_ret rfl rfl rfl).trans (am_r0))))

theorem b_X0_distance_0 {d : Nat} {Q : Option am_V → am_H → Prop} (h : am_H) (x1 : Int32) (l0 l2 : Option am_V) : ex_ (d + 1) 18 0 [l0, some (v_i x1), l2] [] h Q ↔ ex_ d 7 0 [some (v_i x1)] [] h (fun r h' => ex_ (d + 1) 18 4 [l0, some (v_i x1), l2] (r.toList ++ []) h' Q) := by
  unfold ex_
  refine (am_Y_go 1 (ok := []) (g := (1, [l0, some (v_i x1), l2], [v_i x1], h)) rfl).trans ?_
  all_goals exact ((am_Y_call (j := 7) (na := 1) (ci := 0) (fl := 2) rfl rfl rfl).trans (cj_d ⟨⟨Nat.le_of_ble_eq_true rfl, Nat.le_of_ble_eq_true rfl, Nat.le_of_ble_eq_true rfl, rfl⟩, Or.inl rfl⟩ Iff.rfl))

theorem b_X0_distance_4 {d : Nat} {Q : Option am_V → am_H → Prop} (h : am_H) (s0 : Int32) (l0 l1 l2 : Option am_V) : ex_ d 18 4 [l0, l1, l2] [v_i s0] h Q ↔ if s0 = 0 then ex_ d 18 28 [l0, l1, l2] [] h Q else ex_ d 18 7 [l0, l1, l2] [] h Q := by
  unfold ex_
  refine (am_Y_go 1 (ok := []) (g := (if s0 = 0 then 28 else 7, [l0, l1, l2], [], h)) rfl).trans ?_
  all_goals exact am_Y_if

theorem b_X0_distance_28 {d : Nat} {Q : Option am_V → am_H → Prop} (h : am_H) (l0 l1 l2 : Option am_V) : ex_ d 18 28 [l0, l1, l2] [] h Q ↔ Q (some (v_i (100 : Int32))) h := by
  unfold ex_
  refine (am_Y_go 1 (ok := []) (g := (30, [l0, l1, l2], [v_i (100 : Int32)], h)) rfl).trans ?_
  all_goals exact ((am_Y_ret rfl rfl rfl).trans (am_r0))

theorem b_X0_distance_7 {d : Nat} {Q : Option am_V → am_H → Prop} (h : am_H) (x2 : Int32) (l0 l1 : Option am_V) : ex_ (d + 1) 18 7 [l0, l1, some (v_i x2)] [] h Q ↔ ex_ d 7 0 [some (v_i x2)] [] h (fun r h' => ex_ (d + 1) 18 11 [l0, l1, some (v_i x2)] (r.toList ++ []) h' Q) := by
  unfold ex_
  refine (am_Y_go 1 (ok := []) (g := (8, [l0, l1, some (v_i x2)], [v_i x2], h)) rfl).trans ?_
  all_goals exact ((am_Y_call (j := 7) (na := 1) (ci := 0) (fl := 2) rfl rfl rfl).trans (cj_d ⟨⟨Nat.le_of_ble_eq_true rfl, Nat.le_of_ble_eq_true rfl, Nat.le_of_ble_eq_true rfl, rfl⟩, Or.inl rfl⟩ Iff.rfl))

theorem b_X0_distance_11 {d : Nat} {Q : Option am_V → am_H → Prop} (h : am_H) (s0 : Int32) (l0 l1 l2 : Option am_V) : ex_ d 18 11 [l0, l1, l2] [v_i s0] h Q ↔ if s0 = 0 then ex_ d 18 28 [l0, l1, l2] [] h Q else ex_ d 18 14 [l0, l1, l2] [] h Q := by
  unfold ex_
  refine (am_Y_go 1 (ok := []) (g := (if s0 = 0 then 28 else 14, [l0, l1, l2], [], h)) rfl).trans ?_
  all_goals exact am_Y_if

theorem b_X0_distance_14 {d : Nat} {Q : Option am_V → am_H → Prop} (h : am_H) (x1 : Int32) (x2 : Int32) (Lh : Lay h) : ex_ d 18 14 [some (v_r (some 41)), some (v_i x1), some (v_i x2)] [] h Q ↔ vp_in ((x1 * (10 : Int32)) + x2) 100 ∧ Q (some (v_i (h_i h 44 (Int32.toNatClampNeg ((x1 * (10 : Int32)) + x2))))) h := by
  have e0 : h_r h 41 5 = some 44 := la_r Lh (q := (41, 5, 44)) (by decide)
  unfold ex_
  refine (am_Y_go 9 (ok := [am_is h (some 41) 0, am_ar h ((h_r h 41 5)) 20 ((x1 * (10 : Int32)) + x2)]) (g := (30, [some (v_r (some 41)), some (v_i x1), some (v_i x2)], [v_i (h_i h ((h_r h 41 5).getD 0) (Int32.toNatClampNeg ((x1 * (10 : Int32)) + x2)))], h)) rfl).trans ?_
  simp only [e0, Option.getD_some, am_all]
  all_goals exact cj_d (la_is Lh (o := 41) rfl) (cj_k (la_ar Lh (o := 44) rfl) (((am_Y_ret rfl rfl rfl).trans (am_r0))))

theorem b_X0_measure_0 {d : Nat} {Q : Option am_V → am_H → Prop} (h : am_H) (l0 l1 l2 l3 l4 : Option am_V) : ex_ d 19 0 [l0, l1, l2, l3, l4] [] h Q ↔ ex_ d 19 2 [l0, some (v_i (0 : Int32)), l2, l3, l4] [] h Q := by
  unfold ex_
  refine (am_Y_go 2 (ok := []) (g := (2, [l0, some (v_i (0 : Int32)), l2, l3, l4], [], h)) rfl).trans ?_
  all_goals exact Iff.rfl

theorem b_X0_measure_2 {d : Nat} {Q : Option am_V → am_H → Prop} (h : am_H) (x1 : Int32) (l0 l2 l3 l4 : Option am_V) : ex_ d 19 2 [l0, some (v_i x1), l2, l3, l4] [] h Q ↔ if (10 : Int32) ≤ x1 then ex_ d 19 54 [l0, some (v_i x1), l2, l3, l4] [] h Q else ex_ d 19 8 [l0, some (v_i x1), l2, l3, l4] [] h Q := by
  unfold ex_
  refine (am_Y_go 3 (ok := []) (g := (if (10 : Int32) ≤ x1 then 54 else 8, [l0, some (v_i x1), l2, l3, l4], [], h)) rfl).trans ?_
  all_goals exact am_Y_if

theorem b_X0_measure_54 {d : Nat} {Q : Option am_V → am_H → Prop} (h : am_H) (l0 l1 l2 l3 l4 : Option am_V) : ex_ d 19 54 [l0, l1, l2, l3, l4] [] h Q ↔ ex_ d 19 56 [l0, some (v_i (0 : Int32)), l2, l3, l4] [] h Q := by
  unfold ex_
  refine (am_Y_go 2 (ok := []) (g := (56, [l0, some (v_i (0 : Int32)), l2, l3, l4], [], h)) rfl).trans ?_
  all_goals exact Iff.rfl

theorem b_X0_measure_8 {d : Nat} {Q : Option am_V → am_H → Prop} (h : am_H) (l0 l1 l2 l3 l4 : Option am_V) : ex_ d 19 8 [l0, l1, l2, l3, l4] [] h Q ↔ ex_ d 19 10 [l0, l1, some (v_i (0 : Int32)), l3, l4] [] h Q := by
  unfold ex_
  refine (am_Y_go 2 (ok := []) (g := (10, [l0, l1, some (v_i (0 : Int32)), l3, l4], [], h)) rfl).trans ?_
  all_goals exact Iff.rfl

theorem b_X0_measure_56 {d : Nat} {Q : Option am_V → am_H → Prop} (h : am_H) (x1 : Int32) (l0 l2 l3 l4 : Option am_V) : ex_ d 19 56 [l0, some (v_i x1), l2, l3, l4] [] h Q ↔ if (10 : Int32) ≤ x1 then ex_ d 19 133 [l0, some (v_i x1), l2, l3, l4] [] h Q else ex_ d 19 62 [l0, some (v_i x1), l2, l3, l4] [] h Q := by
  unfold ex_
  refine (am_Y_go 3 (ok := []) (g := (if (10 : Int32) ≤ x1 then 133 else 62, [l0, some (v_i x1), l2, l3, l4], [], h)) rfl).trans ?_
  all_goals exact am_Y_if

theorem b_X0_measure_10 {d : Nat} {Q : Option am_V → am_H → Prop} (h : am_H) (x2 : Int32) (l0 l1 l3 l4 : Option am_V) : ex_ d 19 10 [l0, l1, some (v_i x2), l3, l4] [] h Q ↔ if (10 : Int32) ≤ x2 then ex_ d 19 48 [l0, l1, some (v_i x2), l3, l4] [] h Q else ex_ d 19 16 [l0, l1, some (v_i x2), l3, l4] [] h Q := by
  unfold ex_
  refine (am_Y_go 3 (ok := []) (g := (if (10 : Int32) ≤ x2 then 48 else 16, [l0, l1, some (v_i x2), l3, l4], [], h)) rfl).trans ?_
  all_goals exact am_Y_if

theorem b_X0_measure_133 {d : Nat} {Q : Option am_V → am_H → Prop} (h : am_H) (l0 l1 l2 l3 l4 : Option am_V) : ex_ d 19 133 [l0, l1, l2, l3, l4] [] h Q ↔ Q (none) h := by
  unfold ex_
  exact ((am_Y_ret rfl rfl rfl).trans (am_rz rfl))

theorem b_X0_measure_62 {d : Nat} {Q : Option am_V → am_H → Prop} (h : am_H) (l0 l1 l2 l3 l4 : Option am_V) : ex_ d 19 62 [l0, l1, l2, l3, l4] [] h Q ↔ ex_ d 19 64 [l0, l1, some (v_i (0 : Int32)), l3, l4] [] h Q := by
  unfold ex_
  refine (am_Y_go 2 (ok := []) (g := (64, [l0, l1, some (v_i (0 : Int32)), l3, l4], [], h)) rfl).trans ?_
  all_goals exact Iff.rfl

theorem b_X0_measure_48 {d : Nat} {Q : Option am_V → am_H → Prop} (h : am_H) (x1 : Int32) (l0 l2 l3 l4 : Option am_V) : ex_ d 19 48 [l0, some (v_i x1), l2, l3, l4] [] h Q ↔ ex_ d 19 2 [l0, some (v_i (x1 + (1 : Int32))), l2, l3, l4] [] h Q := by
  unfold ex_
  refine (am_Y_go 2 (ok := []) (g := (2, [l0, some (v_i (x1 + (1 : Int32))), l2, l3, l4], [], h)) rfl).trans ?_
  all_goals exact Iff.rfl

theorem b_X0_measure_16 {d : Nat} {Q : Option am_V → am_H → Prop} (h : am_H) (x1 : Int32) (x2 : Int32) (l3 l4 : Option am_V) (Lh : Lay h) : ex_ (d + 1) 19 16 [some (v_r (some 41)), some (v_i x1), some (v_i x2), l3, l4] [] h Q ↔ ex_ d 13 0 [some (v_r (some 41)), some (v_i x1), some (v_i x2)] [] h (fun r h' => ex_ (d + 1) 19 32 [some (v_r (some 41)), some (v_i x1), some (v_i x2), l3, l4] (r.toList ++ [v_i ((x1 * (10 : Int32)) + x2), v_r (some 44)]) h' Q) := by
  have e0 : h_r h 41 5 = some 44 := la_r Lh (q := (41, 5, 44)) (by decide)
  unfold ex_
  refine (am_Y_go 10 (ok := [am_is h (some 41) 0]) (g := (29, [some (v_r (some 41)), some (v_i x1), some (v_i x2), l3, l4], [v_i x2, v_i x1, v_r (some 41), v_i ((x1 * (10 : Int32)) + x2), v_r ((h_r h 41 5))], h)) rfl).trans ?_
  simp only [e0, Option.getD_some, am_all]
  all_goals exact cj_d (la_is Lh (o := 41) rfl) (((am_Y_call (j := 13) (na := 3) (ci := 0) (fl := 0) rfl rfl rfl).trans (cj_d ⟨⟨Nat.le_of_ble_eq_true rfl, Nat.le_of_ble_eq_true rfl, Nat.le_of_ble_eq_true rfl, rfl⟩, Or.inr (Or.inr (show (0 : Nat) < 20 ∧ am_is h (some 41) 0 from ⟨by decide, (la_is Lh (o := 41) rfl)⟩))⟩ Iff.rfl)))

theorem b_X0_measure_64 {d : Nat} {Q : Option am_V → am_H → Prop} (h : am_H) (x2 : Int32) (l0 l1 l3 l4 : Option am_V) : ex_ d 19 64 [l0, l1, some (v_i x2), l3, l4] [] h Q ↔ if (10 : Int32) ≤ x2 then ex_ d 19 127 [l0, l1, some (v_i x2), l3, l4] [] h Q else ex_ d 19 70 [l0, l1, some (v_i x2), l3, l4] [] h Q := by
  unfold ex_
  refine (am_Y_go 3 (ok := []) (g := (if (10 : Int32) ≤ x2 then 127 else 70, [l0, l1, some (v_i x2), l3, l4], [], h)) rfl).trans ?_
  all_goals exact am_Y_if

theorem b_X0_measure_32 {d : Nat} {Q : Option am_V → am_H → Prop} (h : am_H) (s0 : Int32) (s1 : Int32) (t2 : Nat) (l0 l1 l2 l3 l4 : Option am_V) {n_t2 : Nat} (A_t2 : y_arr h t2 20 n_t2) : ex_ d 19 32 [l0, l1, l2, l3, l4] [v_i s0, v_i s1, v_r (some t2)] h Q ↔ if s0 = 0 then ex_ d 19 39 [l0, l1, l2, l3, l4] [v_i s1, v_r (some t2)] h Q else ex_ d 19 35 [l0, l1, l2, l3, l4] [v_i s1, v_r (some t2)] h Q := by
  unfold ex_
  refine (am_Y_go 1 (ok := []) (g := (if s0 = 0 then 39 else 35, [l0, l1, l2, l3, l4], [v_i s1, v_r (some t2)], h)) rfl).trans ?_
  all_goals exact am_Y_if

theorem b_X0_measure_127 {d : Nat} {Q : Option am_V → am_H → Prop} (h : am_H) (x1 : Int32) (l0 l2 l3 l4 : Option am_V) : ex_ d 19 127 [l0, some (v_i x1), l2, l3, l4] [] h Q ↔ ex_ d 19 56 [l0, some (v_i (x1 + (1 : Int32))), l2, l3, l4] [] h Q := by
  unfold ex_
  refine (am_Y_go 2 (ok := []) (g := (56, [l0, some (v_i (x1 + (1 : Int32))), l2, l3, l4], [], h)) rfl).trans ?_
  all_goals exact Iff.rfl

theorem b_X0_measure_70 {d : Nat} {Q : Option am_V → am_H → Prop} (h : am_H) (l0 l1 l2 l3 l4 : Option am_V) : ex_ d 19 70 [l0, l1, l2, l3, l4] [] h Q ↔ ex_ d 19 72 [l0, l1, l2, some (v_i (0 : Int32)), l4] [] h Q := by
  unfold ex_
  refine (am_Y_go 2 (ok := []) (g := (72, [l0, l1, l2, some (v_i (0 : Int32)), l4], [], h)) rfl).trans ?_
  all_goals exact Iff.rfl

theorem b_X0_measure_39 {d : Nat} {Q : Option am_V → am_H → Prop} (h : am_H) (s0 : Int32) (t1 : Nat) (x2 : Int32) (l0 l1 l3 l4 : Option am_V) {n_t1 : Nat} (A_t1 : y_arr h t1 20 n_t1) : ex_ d 19 39 [l0, l1, some (v_i x2), l3, l4] [v_i s0, v_r (some t1)] h Q ↔ vp_in s0 n_t1 ∧ ex_ d 19 10 [l0, l1, some (v_i (x2 + (1 : Int32))), l3, l4] [] (p_i h t1 (Int32.toNatClampNeg s0) (100 : Int32)) Q := by
  unfold ex_
  refine (am_Y_go 4 (ok := [am_ar h (some t1) 20 s0]) (g := (10, [l0, l1, some (v_i (x2 + (1 : Int32))), l3, l4], [], (p_i h t1 (Int32.toNatClampNeg s0) (100 : Int32)))) rfl).trans ?_
  simp only [am_all]
  all_goals exact cj_k (lb_ar A_t1) (Iff.rfl)

theorem b_X0_measure_35 {d : Nat} {Q : Option am_V → am_H → Prop} (h : am_H) (s0 : Int32) (t1 : Nat) (x2 : Int32) (l0 l1 l3 l4 : Option am_V) {n_t1 : Nat} (A_t1 : y_arr h t1 20 n_t1) : ex_ d 19 35 [l0, l1, some (v_i x2), l3, l4] [v_i s0, v_r (some t1)] h Q ↔ vp_in s0 n_t1 ∧ ex_ d 19 10 [l0, l1, some (v_i (x2 + (1 : Int32))), l3, l4] [] (p_i h t1 (Int32.toNatClampNeg s0) (1 : Int32)) Q := by
  unfold ex_
  refine (am_Y_go 5 (ok := [am_ar h (some t1) 20 s0]) (g := (10, [l0, l1, some (v_i (x2 + (1 : Int32))), l3, l4], [], (p_i h t1 (Int32.toNatClampNeg s0) (1 : Int32)))) rfl).trans ?_
  simp only [am_all]
  all_goals exact cj_k (lb_ar A_t1) (Iff.rfl)

theorem b_X0_measure_72 {d : Nat} {Q : Option am_V → am_H → Prop} (h : am_H) (x3 : Int32) (l0 l1 l2 l4 : Option am_V) : ex_ d 19 72 [l0, l1, l2, some (v_i x3), l4] [] h Q ↔ if (10 : Int32) ≤ x3 then ex_ d 19 121 [l0, l1, l2, some (v_i x3), l4] [] h Q else ex_ d 19 78 [l0, l1, l2, some (v_i x3), l4] [] h Q := by
  unfold ex_
  refine (am_Y_go 3 (ok := []) (g := (if (10 : Int32) ≤ x3 then 121 else 78, [l0, l1, l2, some (v_i x3), l4], [], h)) rfl).trans ?_
  all_goals exact am_Y_if

theorem b_X0_measure_121 {d : Nat} {Q : Option am_V → am_H → Prop} (h : am_H) (x2 : Int32) (l0 l1 l3 l4 : Option am_V) : ex_ d 19 121 [l0, l1, some (v_i x2), l3, l4] [] h Q ↔ ex_ d 19 64 [l0, l1, some (v_i (x2 + (1 : Int32))), l3, l4] [] h Q := by
  unfold ex_
  refine (am_Y_go 2 (ok := []) (g := (64, [l0, l1, some (v_i (x2 + (1 : Int32))), l3, l4], [], h)) rfl).trans ?_
  all_goals exact Iff.rfl

theorem b_X0_measure_78 {d : Nat} {Q : Option am_V → am_H → Prop} (h : am_H) (x2 : Int32) (x1 : Int32) (l3 l4 : Option am_V) (Lh : Lay h) : ex_ (d + 1) 19 78 [some (v_r (some 41)), some (v_i x1), some (v_i x2), l3, l4] [] h Q ↔ ex_ d 18 0 [some (v_r (some 41)), some (v_i x2), some (v_i x1)] [] h (fun r h' => ex_ (d + 1) 19 84 [some (v_r (some 41)), some (v_i x1), some (v_i x2), l3, l4] (r.toList ++ []) h' Q) := by
  unfold ex_
  refine (am_Y_go 3 (ok := []) (g := (81, [some (v_r (some 41)), some (v_i x1), some (v_i x2), l3, l4], [v_i x1, v_i x2, v_r (some 41)], h)) rfl).trans ?_
  all_goals exact ((am_Y_call (j := 18) (na := 3) (ci := 0) (fl := 0) rfl rfl rfl).trans (cj_d ⟨⟨Nat.le_of_ble_eq_true rfl, Nat.le_of_ble_eq_true rfl, Nat.le_of_ble_eq_true rfl, rfl⟩, Or.inr (Or.inr (show (0 : Nat) < 20 ∧ am_is h (some 41) 0 from ⟨by decide, (la_is Lh (o := 41) rfl)⟩))⟩ Iff.rfl))

theorem b_X0_measure_84 {d : Nat} {Q : Option am_V → am_H → Prop} (h : am_H) (s0 : Int32) (x1 : Int32) (x3 : Int32) (l2 l4 : Option am_V) (Lh : Lay h) : ex_ (d + 1) 19 84 [some (v_r (some 41)), some (v_i x1), l2, some (v_i x3), l4] [v_i s0] h Q ↔ ex_ d 18 0 [some (v_r (some 41)), some (v_i x1), some (v_i x3)] [] h (fun r h' => ex_ (d + 1) 19 90 [some (v_r (some 41)), some (v_i x1), l2, some (v_i x3), l4] (r.toList ++ [v_i s0]) h' Q) := by
  unfold ex_
  refine (am_Y_go 3 (ok := []) (g := (87, [some (v_r (some 41)), some (v_i x1), l2, some (v_i x3), l4], [v_i x3, v_i x1, v_r (some 41), v_i s0], h)) rfl).trans ?_
  all_goals exact ((am_Y_call (j := 18) (na := 3) (ci := 0) (fl := 0) rfl rfl rfl).trans (cj_d ⟨⟨Nat.le_of_ble_eq_true rfl, Nat.le_of_ble_eq_true rfl, Nat.le_of_ble_eq_true rfl, rfl⟩, Or.inr (Or.inr (show (0 : Nat) < 20 ∧ am_is h (some 41) 0 from ⟨by decide, (la_is Lh (o := 41) rfl)⟩))⟩ Iff.rfl))

theorem b_X0_measure_90 {d : Nat} {Q : Option am_V → am_H → Prop} (h : am_H) (s0 : Int32) (s1 : Int32) (x2 : Int32) (x3 : Int32) (l1 l4 : Option am_V) (Lh : Lay h) : ex_ (d + 1) 19 90 [some (v_r (some 41)), l1, some (v_i x2), some (v_i x3), l4] [v_i s0, v_i s1] h Q ↔ ex_ d 18 0 [some (v_r (some 41)), some (v_i x2), some (v_i x3)] [] h (fun r h' => ex_ (d + 1) 19 109 [some (v_r (some 41)), l1, some (v_i x2), some (v_i x3), some (v_i (s1 + s0))] (r.toList ++ [v_i ((x2 * (10 : Int32)) + x3), v_r (some 44)]) h' Q) := by
  have e0 : h_r h 41 5 = some 44 := la_r Lh (q := (41, 5, 44)) (by decide)
  unfold ex_
  refine (am_Y_go 12 (ok := [am_is h (some 41) 0]) (g := (106, [some (v_r (some 41)), l1, some (v_i x2), some (v_i x3), some (v_i (s1 + s0))], [v_i x3, v_i x2, v_r (some 41), v_i ((x2 * (10 : Int32)) + x3), v_r ((h_r h 41 5))], h)) rfl).trans ?_
  simp only [e0, Option.getD_some, am_all]
  all_goals exact cj_d (la_is Lh (o := 41) rfl) (((am_Y_call (j := 18) (na := 3) (ci := 0) (fl := 0) rfl rfl rfl).trans (cj_d ⟨⟨Nat.le_of_ble_eq_true rfl, Nat.le_of_ble_eq_true rfl, Nat.le_of_ble_eq_true rfl, rfl⟩, Or.inr (Or.inr (show (0 : Nat) < 20 ∧ am_is h (some 41) 0 from ⟨by decide, (la_is Lh (o := 41) rfl)⟩))⟩ Iff.rfl)))

theorem b_X0_measure_109 {d : Nat} {Q : Option am_V → am_H → Prop} (h : am_H) (s0 : Int32) (s1 : Int32) (t2 : Nat) (x4 : Int32) (x3 : Int32) (l0 l1 l2 : Option am_V) {n_t2 : Nat} (A_t2 : y_arr h t2 20 n_t2) : ex_ d 19 109 [l0, l1, l2, some (v_i x3), some (v_i x4)] [v_i s0, v_i s1, v_r (some t2)] h Q ↔ vp_in s1 n_t2 ∧ ex_ d 19 72 [l0, l1, l2, some (v_i (x3 + (1 : Int32))), some (v_i x4)] [] (p_i h t2 (Int32.toNatClampNeg s1) (if x4 < s0 then x4 else s0)) Q := by
  unfold ex_
  refine (am_Y_go 5 (ok := [am_ar h (some t2) 20 s1]) (g := (72, [l0, l1, l2, some (v_i (x3 + (1 : Int32))), some (v_i x4)], [], (p_i h t2 (Int32.toNatClampNeg s1) (if x4 < s0 then x4 else s0)))) rfl).trans ?_
  simp only [am_all]
  all_goals exact cj_k (lb_ar A_t2) (Iff.rfl)

theorem b_X0_startOfRing_0 {d : Nat} {Q : Option am_V → am_H → Prop} (h : am_H) (l0 l1 l2 l3 : Option am_V) : ex_ d 20 0 [l0, l1, l2, l3] [] h Q ↔ ex_ d 20 7 [l0, some (v_i (-1 : Int32)), some (v_i (100 : Int32)), some (v_i (0 : Int32))] [] h Q := by
  unfold ex_
  refine (am_Y_go 6 (ok := []) (g := (7, [l0, some (v_i (-1 : Int32)), some (v_i (100 : Int32)), some (v_i (0 : Int32))], [], h)) rfl).trans ?_
  all_goals exact Iff.rfl

theorem b_X0_startOfRing_7 {d : Nat} {Q : Option am_V → am_H → Prop} (h : am_H) (x3 : Int32) (l0 l1 l2 : Option am_V) : ex_ d 20 7 [l0, l1, l2, some (v_i x3)] [] h Q ↔ if (10 : Int32) ≤ x3 then ex_ d 20 38 [l0, l1, l2, some (v_i x3)] [] h Q else ex_ d 20 13 [l0, l1, l2, some (v_i x3)] [] h Q := by
  unfold ex_
  refine (am_Y_go 3 (ok := []) (g := (if (10 : Int32) ≤ x3 then 38 else 13, [l0, l1, l2, some (v_i x3)], [], h)) rfl).trans ?_
  all_goals exact am_Y_if

theorem b_X0_startOfRing_38 {d : Nat} {Q : Option am_V → am_H → Prop} (h : am_H) (x1 : Int32) (l0 l2 l3 : Option am_V) : ex_ d 20 38 [l0, some (v_i x1), l2, l3] [] h Q ↔ Q (some (v_i x1)) h := by
  unfold ex_
  refine (am_Y_go 1 (ok := []) (g := (39, [l0, some (v_i x1), l2, l3], [v_i x1], h)) rfl).trans ?_
  all_goals exact ((am_Y_ret rfl rfl rfl).trans (am_r0))

theorem b_X0_startOfRing_13 {d : Nat} {Q : Option am_V → am_H → Prop} (h : am_H) (x3 : Int32) (l1 l2 : Option am_V) (Lh : Lay h) : ex_ (d + 1) 20 13 [some (v_r (some 41)), l1, l2, some (v_i x3)] [] h Q ↔ ex_ d 18 0 [some (v_r (some 41)), some (v_i x3), some (v_i x3)] [] h (fun r h' => ex_ (d + 1) 20 19 [some (v_r (some 41)), l1, l2, some (v_i x3)] (r.toList ++ []) h' Q) := by
  unfold ex_
  refine (am_Y_go 3 (ok := []) (g := (16, [some (v_r (some 41)), l1, l2, some (v_i x3)], [v_i x3, v_i x3, v_r (some 41)], h)) rfl).trans ?_
  all_goals exact ((am_Y_call (j := 18) (na := 3) (ci := 0) (fl := 0) rfl rfl rfl).trans (cj_d ⟨⟨Nat.le_of_ble_eq_true rfl, Nat.le_of_ble_eq_true rfl, Nat.le_of_ble_eq_true rfl, rfl⟩, Or.inr (Or.inr (show (0 : Nat) < 20 ∧ am_is h (some 41) 0 from ⟨by decide, (la_is Lh (o := 41) rfl)⟩))⟩ Iff.rfl))

theorem b_X0_startOfRing_19 {d : Nat} {Q : Option am_V → am_H → Prop} (h : am_H) (s0 : Int32) (x2 : Int32) (l0 l1 l3 : Option am_V) : ex_ d 20 19 [l0, l1, some (v_i x2), l3] [v_i s0] h Q ↔ if x2 ≤ s0 then ex_ d 20 32 [l0, l1, some (v_i x2), l3] [] h Q else ex_ d 20 23 [l0, l1, some (v_i x2), l3] [] h Q := by
  unfold ex_
  refine (am_Y_go 2 (ok := []) (g := (if x2 ≤ s0 then 32 else 23, [l0, l1, some (v_i x2), l3], [], h)) rfl).trans ?_
  all_goals exact am_Y_if

theorem b_X0_startOfRing_32 {d : Nat} {Q : Option am_V → am_H → Prop} (h : am_H) (x3 : Int32) (l0 l1 l2 : Option am_V) : ex_ d 20 32 [l0, l1, l2, some (v_i x3)] [] h Q ↔ ex_ d 20 7 [l0, l1, l2, some (v_i (x3 + (1 : Int32)))] [] h Q := by
  unfold ex_
  refine (am_Y_go 2 (ok := []) (g := (7, [l0, l1, l2, some (v_i (x3 + (1 : Int32)))], [], h)) rfl).trans ?_
  all_goals exact Iff.rfl

theorem b_X0_startOfRing_23 {d : Nat} {Q : Option am_V → am_H → Prop} (h : am_H) (x3 : Int32) (l1 l2 : Option am_V) (Lh : Lay h) : ex_ (d + 1) 20 23 [some (v_r (some 41)), l1, l2, some (v_i x3)] [] h Q ↔ ex_ d 18 0 [some (v_r (some 41)), some (v_i x3), some (v_i x3)] [] h (fun r h' => ex_ (d + 1) 20 29 [some (v_r (some 41)), l1, l2, some (v_i x3)] (r.toList ++ []) h' Q) := by
  unfold ex_
  refine (am_Y_go 3 (ok := []) (g := (26, [some (v_r (some 41)), l1, l2, some (v_i x3)], [v_i x3, v_i x3, v_r (some 41)], h)) rfl).trans ?_
  all_goals exact ((am_Y_call (j := 18) (na := 3) (ci := 0) (fl := 0) rfl rfl rfl).trans (cj_d ⟨⟨Nat.le_of_ble_eq_true rfl, Nat.le_of_ble_eq_true rfl, Nat.le_of_ble_eq_true rfl, rfl⟩, Or.inr (Or.inr (show (0 : Nat) < 20 ∧ am_is h (some 41) 0 from ⟨by decide, (la_is Lh (o := 41) rfl)⟩))⟩ Iff.rfl))

theorem b_X0_startOfRing_29 {d : Nat} {Q : Option am_V → am_H → Prop} (h : am_H) (s0 : Int32) (x3 : Int32) (l0 l1 l2 : Option am_V) : ex_ d 20 29 [l0, l1, l2, some (v_i x3)] [v_i s0] h Q ↔ ex_ d 20 7 [l0, some (v_i x3), some (v_i s0), some (v_i (x3 + (1 : Int32)))] [] h Q := by
  unfold ex_
  refine (am_Y_go 5 (ok := []) (g := (7, [l0, some (v_i x3), some (v_i s0), some (v_i (x3 + (1 : Int32)))], [], h)) rfl).trans ?_
  all_goals exact Iff.rfl

theorem b_X0_nextOfRing_0 {d : Nat} {Q : Option am_V → am_H → Prop} (h : am_H) (l0 l1 l2 l3 l4 : Option am_V) : ex_ d 21 0 [l0, l1, l2, l3, l4] [] h Q ↔ ex_ d 21 3 [l0, l1, l2, l3, some (v_i (0 : Int32))] [] h Q := by
  unfold ex_
  refine (am_Y_go 2 (ok := []) (g := (3, [l0, l1, l2, l3, some (v_i (0 : Int32))], [], h)) rfl).trans ?_
  all_goals exact Iff.rfl

theorem b_X0_nextOfRing_3 {d : Nat} {Q : Option am_V → am_H → Prop} (h : am_H) (x4 : Int32) (l0 l1 l2 l3 : Option am_V) : ex_ d 21 3 [l0, l1, l2, l3, some (v_i x4)] [] h Q ↔ if (10 : Int32) ≤ x4 then ex_ d 21 40 [l0, l1, l2, l3, some (v_i x4)] [] h Q else ex_ d 21 10 [l0, l1, l2, l3, some (v_i x4)] [] h Q := by
  unfold ex_
  refine (am_Y_go 3 (ok := []) (g := (if (10 : Int32) ≤ x4 then 40 else 10, [l0, l1, l2, l3, some (v_i x4)], [], h)) rfl).trans ?_
  all_goals exact am_Y_if

theorem b_X0_nextOfRing_40 {d : Nat} {Q : Option am_V → am_H → Prop} (h : am_H) (l0 l1 l2 l3 l4 : Option am_V) : ex_ d 21 40 [l0, l1, l2, l3, l4] [] h Q ↔ Q (some (v_i (-1 : Int32))) h := by
  unfold ex_
  refine (am_Y_go 1 (ok := []) (g := (41, [l0, l1, l2, l3, l4], [v_i (-1 : Int32)], h)) rfl).trans ?_
  all_goals exact ((am_Y_ret rfl rfl rfl).trans (am_r0))

theorem b_X0_nextOfRing_10 {d : Nat} {Q : Option am_V → am_H → Prop} (h : am_H) (x1 : Int32) (x4 : Int32) (l2 l3 : Option am_V) (Lh : Lay h) : ex_ (d + 1) 21 10 [some (v_r (some 41)), some (v_i x1), l2, l3, some (v_i x4)] [] h Q ↔ ex_ d 13 0 [some (v_r (some 41)), some (v_i x1), some (v_i x4)] [] h (fun r h' => ex_ (d + 1) 21 17 [some (v_r (some 41)), some (v_i x1), l2, l3, some (v_i x4)] (r.toList ++ []) h' Q) := by
  unfold ex_
  refine (am_Y_go 3 (ok := []) (g := (14, [some (v_r (some 41)), some (v_i x1), l2, l3, some (v_i x4)], [v_i x4, v_i x1, v_r (some 41)], h)) rfl).trans ?_
  all_goals exact ((am_Y_call (j := 13) (na := 3) (ci := 0) (fl := 0) rfl rfl rfl).trans (cj_d ⟨⟨Nat.le_of_ble_eq_true rfl, Nat.le_of_ble_eq_true rfl, Nat.le_of_ble_eq_true rfl, rfl⟩, Or.inr (Or.inr (show (0 : Nat) < 20 ∧ am_is h (some 41) 0 from ⟨by decide, (la_is Lh (o := 41) rfl)⟩))⟩ Iff.rfl))

theorem b_X0_nextOfRing_17 {d : Nat} {Q : Option am_V → am_H → Prop} (h : am_H) (s0 : Int32) (l0 l1 l2 l3 l4 : Option am_V) : ex_ d 21 17 [l0, l1, l2, l3, l4] [v_i s0] h Q ↔ if s0 = 0 then ex_ d 21 34 [l0, l1, l2, l3, l4] [] h Q else ex_ d 21 20 [l0, l1, l2, l3, l4] [] h Q := by
  unfold ex_
  refine (am_Y_go 1 (ok := []) (g := (if s0 = 0 then 34 else 20, [l0, l1, l2, l3, l4], [], h)) rfl).trans ?_
  all_goals exact am_Y_if

theorem b_X0_nextOfRing_34 {d : Nat} {Q : Option am_V → am_H → Prop} (h : am_H) (x4 : Int32) (l0 l1 l2 l3 : Option am_V) : ex_ d 21 34 [l0, l1, l2, l3, some (v_i x4)] [] h Q ↔ ex_ d 21 3 [l0, l1, l2, l3, some (v_i (x4 + (1 : Int32)))] [] h Q := by
  unfold ex_
  refine (am_Y_go 2 (ok := []) (g := (3, [l0, l1, l2, l3, some (v_i (x4 + (1 : Int32)))], [], h)) rfl).trans ?_
  all_goals exact Iff.rfl

theorem b_X0_nextOfRing_20 {d : Nat} {Q : Option am_V → am_H → Prop} (h : am_H) (x4 : Int32) (x2 : Int32) (l1 l3 : Option am_V) (Lh : Lay h) : ex_ (d + 1) 21 20 [some (v_r (some 41)), l1, some (v_i x2), l3, some (v_i x4)] [] h Q ↔ ex_ d 18 0 [some (v_r (some 41)), some (v_i x4), some (v_i x2)] [] h (fun r h' => ex_ (d + 1) 21 27 [some (v_r (some 41)), l1, some (v_i x2), l3, some (v_i x4)] (r.toList ++ []) h' Q) := by
  unfold ex_
  refine (am_Y_go 3 (ok := []) (g := (24, [some (v_r (some 41)), l1, some (v_i x2), l3, some (v_i x4)], [v_i x2, v_i x4, v_r (some 41)], h)) rfl).trans ?_
  all_goals exact ((am_Y_call (j := 18) (na := 3) (ci := 0) (fl := 0) rfl rfl rfl).trans (cj_d ⟨⟨Nat.le_of_ble_eq_true rfl, Nat.le_of_ble_eq_true rfl, Nat.le_of_ble_eq_true rfl, rfl⟩, Or.inr (Or.inr (show (0 : Nat) < 20 ∧ am_is h (some 41) 0 from ⟨by decide, (la_is Lh (o := 41) rfl)⟩))⟩ Iff.rfl))

theorem b_X0_nextOfRing_27 {d : Nat} {Q : Option am_V → am_H → Prop} (h : am_H) (s0 : Int32) (x3 : Int32) (l0 l1 l2 l4 : Option am_V) : ex_ d 21 27 [l0, l1, l2, some (v_i x3), l4] [v_i s0] h Q ↔ if ¬ s0 = x3 then ex_ d 21 34 [l0, l1, l2, some (v_i x3), l4] [] h Q else ex_ d 21 31 [l0, l1, l2, some (v_i x3), l4] [] h Q := by
  unfold ex_
  refine (am_Y_go 2 (ok := []) (g := (if ¬ s0 = x3 then 34 else 31, [l0, l1, l2, some (v_i x3), l4], [], h)) rfl).trans ?_
  all_goals exact am_Y_if

theorem b_X0_nextOfRing_31 {d : Nat} {Q : Option am_V → am_H → Prop} (h : am_H) (x4 : Int32) (l0 l1 l2 l3 : Option am_V) : ex_ d 21 31 [l0, l1, l2, l3, some (v_i x4)] [] h Q ↔ Q (some (v_i x4)) h := by
  unfold ex_
  refine (am_Y_go 1 (ok := []) (g := (33, [l0, l1, l2, l3, some (v_i x4)], [v_i x4], h)) rfl).trans ?_
  all_goals exact ((am_Y_ret rfl rfl rfl).trans (am_r0))

theorem b_X0_findRing_0 {d : Nat} {Q : Option am_V → am_H → Prop} (h : am_H) (l1 l2 l3 l4 : Option am_V) (Lh : Lay h) : ex_ (d + 1) 22 0 [some (v_r (some 41)), l1, l2, l3, l4] [] h Q ↔ ex_ d 19 0 [some (v_r (some 41)), none, none, none, none] [] h (fun r h' => ex_ (d + 1) 22 4 [some (v_r (some 41)), l1, l2, l3, l4] (r.toList ++ []) h' Q) := by
  unfold ex_
  refine (am_Y_go 1 (ok := []) (g := (1, [some (v_r (some 41)), l1, l2, l3, l4], [v_r (some 41)], h)) rfl).trans ?_
  all_goals exact ((am_Y_call (j := 19) (na := 1) (ci := 0) (fl := 0) rfl rfl rfl).trans (cj_d ⟨⟨Nat.le_of_ble_eq_true rfl, Nat.le_of_ble_eq_true rfl, Nat.le_of_ble_eq_true rfl, rfl⟩, Or.inr (Or.inr (show (0 : Nat) < 20 ∧ am_is h (some 41) 0 from ⟨by decide, (la_is Lh (o := 41) rfl)⟩))⟩ Iff.rfl))

theorem b_X0_findRing_4 {d : Nat} {Q : Option am_V → am_H → Prop} (h : am_H) (l1 l2 l3 l4 : Option am_V) (Lh : Lay h) : ex_ (d + 1) 22 4 [some (v_r (some 41)), l1, l2, l3, l4] [] h Q ↔ ex_ d 20 0 [some (v_r (some 41)), none, none, none] [] (p_i h 41 7 (0 : Int32)) (fun r h' => ex_ (d + 1) 22 13 [some (v_r (some 41)), l1, l2, l3, l4] (r.toList ++ []) h' Q) := by
  unfold ex_
  refine (am_Y_go 4 (ok := [am_is h (some 41) 0]) (g := (10, [some (v_r (some 41)), l1, l2, l3, l4], [v_r (some 41)], (p_i h 41 7 (0 : Int32)))) rfl).trans ?_
  simp only [am_all]
  all_goals exact cj_d (la_is Lh (o := 41) rfl) (((am_Y_call (j := 20) (na := 1) (ci := 0) (fl := 0) rfl rfl rfl).trans (cj_d ⟨⟨Nat.le_of_ble_eq_true rfl, Nat.le_of_ble_eq_true rfl, Nat.le_of_ble_eq_true rfl, rfl⟩, Or.inr (Or.inr (show (0 : Nat) < 20 ∧ am_is h (some 41) 0 from ⟨by decide, (la_is Lh (o := 41) rfl)⟩))⟩ Iff.rfl)))

theorem b_X0_findRing_13 {d : Nat} {Q : Option am_V → am_H → Prop} (h : am_H) (s0 : Int32) (l0 l1 l2 l3 l4 : Option am_V) : ex_ d 22 13 [l0, l1, l2, l3, l4] [v_i s0] h Q ↔ if ¬ s0 = (-1 : Int32) then ex_ d 22 20 [l0, some (v_i s0), l2, l3, l4] [] h Q else ex_ d 22 19 [l0, some (v_i s0), l2, l3, l4] [] h Q := by
  unfold ex_
  refine (am_Y_go 4 (ok := []) (g := (if ¬ s0 = (-1 : Int32) then 20 else 19, [l0, some (v_i s0), l2, l3, l4], [], h)) rfl).trans ?_
  all_goals exact am_Y_if

theorem b_X0_findRing_20 {d : Nat} {Q : Option am_V → am_H → Prop} (h : am_H) (x1 : Int32) (l2 l3 l4 : Option am_V) (Lh : Lay h) : ex_ (d + 1) 22 20 [some (v_r (some 41)), some (v_i x1), l2, l3, l4] [] h Q ↔ ex_ d 18 0 [some (v_r (some 41)), some (v_i x1), some (v_i x1)] [] h (fun r h' => ex_ (d + 1) 22 26 [some (v_r (some 41)), some (v_i x1), l2, l3, l4] (r.toList ++ []) h' Q) := by
  unfold ex_
  refine (am_Y_go 3 (ok := []) (g := (23, [some (v_r (some 41)), some (v_i x1), l2, l3, l4], [v_i x1, v_i x1, v_r (some 41)], h)) rfl).trans ?_
  all_goals exact ((am_Y_call (j := 18) (na := 3) (ci := 0) (fl := 0) rfl rfl rfl).trans (cj_d ⟨⟨Nat.le_of_ble_eq_true rfl, Nat.le_of_ble_eq_true rfl, Nat.le_of_ble_eq_true rfl, rfl⟩, Or.inr (Or.inr (show (0 : Nat) < 20 ∧ am_is h (some 41) 0 from ⟨by decide, (la_is Lh (o := 41) rfl)⟩))⟩ Iff.rfl))

theorem b_X0_findRing_19 {d : Nat} {Q : Option am_V → am_H → Prop} (h : am_H) (l0 l1 l2 l3 l4 : Option am_V) : ex_ d 22 19 [l0, l1, l2, l3, l4] [] h Q ↔ Q (none) h := by
  unfold ex_
  exact ((am_Y_ret rfl rfl rfl).trans (am_rz rfl))

theorem b_X0_findRing_26 {d : Nat} {Q : Option am_V → am_H → Prop} (h : am_H) (s0 : Int32) (x1 : Int32) (l0 l2 l3 l4 : Option am_V) : ex_ d 22 26 [l0, some (v_i x1), l2, l3, l4] [v_i s0] h Q ↔ ex_ d 22 34 [l0, some (v_i x1), some (v_i s0), some (v_i x1), some (v_i (s0 - (1 : Int32)))] [] h Q := by
  unfold ex_
  refine (am_Y_go 7 (ok := []) (g := (34, [l0, some (v_i x1), some (v_i s0), some (v_i x1), some (v_i (s0 - (1 : Int32)))], [], h)) rfl).trans ?_
  all_goals exact Iff.rfl

theorem b_X0_findRing_34 {d : Nat} {Q : Option am_V → am_H → Prop} (h : am_H) (x4 : Int32) (l0 l1 l2 l3 : Option am_V) : ex_ d 22 34 [l0, l1, l2, l3, some (v_i x4)] [] h Q ↔ if x4 < 0 then ex_ d 22 91 [l0, l1, l2, l3, some (v_i x4)] [] h Q else ex_ d 22 39 [l0, l1, l2, l3, some (v_i x4)] [] h Q := by
  unfold ex_
  refine (am_Y_go 2 (ok := []) (g := (if x4 < 0 then 91 else 39, [l0, l1, l2, l3, some (v_i x4)], [], h)) rfl).trans ?_
  all_goals exact am_Y_if

theorem b_X0_findRing_91 {d : Nat} {Q : Option am_V → am_H → Prop} (h : am_H) (l0 l1 l2 l3 l4 : Option am_V) : ex_ d 22 91 [l0, l1, l2, l3, l4] [] h Q ↔ Q (none) h := by
  unfold ex_
  exact ((am_Y_ret rfl rfl rfl).trans (am_rz rfl))

theorem b_X0_findRing_39 {d : Nat} {Q : Option am_V → am_H → Prop} (h : am_H) (x3 : Int32) (l0 l1 l2 l4 : Option am_V) : ex_ d 22 39 [l0, l1, l2, some (v_i x3), l4] [] h Q ↔ if x3 = (-1 : Int32) then ex_ d 22 91 [l0, l1, l2, some (v_i x3), l4] [] h Q else ex_ d 22 44 [l0, l1, l2, some (v_i x3), l4] [] h Q := by
  unfold ex_
  refine (am_Y_go 3 (ok := []) (g := (if x3 = (-1 : Int32) then 91 else 44, [l0, l1, l2, some (v_i x3), l4], [], h)) rfl).trans ?_
  all_goals exact am_Y_if

theorem b_X0_findRing_44 {d : Nat} {Q : Option am_V → am_H → Prop} (h : am_H) (l1 l2 l3 l4 : Option am_V) (Lh : Lay h) : ex_ d 22 44 [some (v_r (some 41)), l1, l2, l3, l4] [] h Q ↔ if (nI 10) ≤ (h_i h 41 7) then ex_ d 22 91 [some (v_r (some 41)), l1, l2, l3, l4] [] h Q else ex_ d 22 56 [some (v_r (some 41)), l1, l2, l3, l4] [] h Q := by
  have e0 : h_r h 41 6 = some 45 := la_r Lh (q := (41, 6, 45)) (by decide)
  have e1 : h_l h 45 = 10 := (la_l Lh (o := 45) rfl)
  unfold ex_
  refine (am_Y_go 6 (ok := [am_is h (some 41) 0, am_is h (some 41) 0, am_an h ((h_r h 41 6))]) (g := (if (nI (h_l h ((h_r h 41 6).getD 0))) ≤ (h_i h 41 7) then 91 else 56, [some (v_r (some 41)), l1, l2, l3, l4], [], h)) rfl).trans ?_
  simp only [e0, e1, Option.getD_some, am_all]
  all_goals exact cj_d (la_is Lh (o := 41) rfl) (cj_d (la_is Lh (o := 41) rfl) (cj_d (la_an20 Lh (o := 45) rfl) (am_Y_if)))

theorem b_X0_findRing_56 {d : Nat} {Q : Option am_V → am_H → Prop} (h : am_H) (x3 : Int32) (x1 : Int32) (x4 : Int32) (l2 : Option am_V) (Lh : Lay h) : ex_ (d + 1) 22 56 [some (v_r (some 41)), some (v_i x1), l2, some (v_i x3), some (v_i x4)] [] h Q ↔ vp_in (h_i h 41 7) 10 ∧ ex_ d 21 0 [some (v_r (some 41)), some (v_i x3), some (v_i x1), some (v_i x4), none] [] (p_i (p_i h 45 (Int32.toNatClampNeg (h_i h 41 7)) x3) 41 7 ((h_i (p_i h 45 (Int32.toNatClampNeg (h_i h 41 7)) x3) 41 7) + (1 : Int32))) (fun r h' => ex_ (d + 1) 22 84 [some (v_r (some 41)), some (v_i x1), l2, some (v_i x3), some (v_i x4)] (r.toList ++ []) h' Q) := by
  have e0 : h_r h 41 6 = some 45 := la_r Lh (q := (41, 6, 45)) (by decide)
  unfold ex_
  refine (am_Y_go 16 (ok := [am_is h (some 41) 0, am_is h (some 41) 0, am_ar h ((h_r h 41 6)) 20 (h_i h 41 7), am_is h (some 41) 0, am_is h (some 41) 0]) (g := (81, [some (v_r (some 41)), some (v_i x1), l2, some (v_i x3), some (v_i x4)], [v_i x4, v_i x1, v_i x3, v_r (some 41)], (p_i (p_i h ((h_r h 41 6).getD 0) (Int32.toNatClampNeg (h_i h 41 7)) x3) 41 7 ((h_i (p_i h ((h_r h 41 6).getD 0) (Int32.toNatClampNeg (h_i h 41 7)) x3) 41 7) + (1 : Int32))))) rfl).trans ?_
  simp only [e0, Option.getD_some, am_all]
  all_goals exact cj_d (la_is Lh (o := 41) rfl) (cj_d (la_is Lh (o := 41) rfl) (cj_k (la_ar Lh (o := 45) rfl) (cj_d (la_is Lh (o := 41) rfl) (cj_d (la_is Lh (o := 41) rfl) (((am_Y_call (j := 21) (na := 4) (ci := 0) (fl := 0) rfl rfl rfl).trans (cj_d ⟨⟨Nat.le_of_ble_eq_true rfl, Nat.le_of_ble_eq_true rfl, Nat.le_of_ble_eq_true rfl, rfl⟩, Or.inr (Or.inr (show (0 : Nat) < 20 ∧ am_is h (some 41) 0 from ⟨by decide, (la_is Lh (o := 41) rfl)⟩))⟩ Iff.rfl)))))))

theorem b_X0_findRing_84 {d : Nat} {Q : Option am_V → am_H → Prop} (h : am_H) (s0 : Int32) (x4 : Int32) (l0 l1 l2 l3 : Option am_V) : ex_ d 22 84 [l0, l1, l2, l3, some (v_i x4)] [v_i s0] h Q ↔ ex_ d 22 34 [l0, l1, l2, some (v_i s0), some (v_i (x4 + (-1 : Int32)))] [] h Q := by
  unfold ex_
  refine (am_Y_go 3 (ok := []) (g := (34, [l0, l1, l2, some (v_i s0), some (v_i (x4 + (-1 : Int32)))], [], h)) rfl).trans ?_
  all_goals exact Iff.rfl

theorem b_X0_endingsBehind_0 {d : Nat} {Q : Option am_V → am_H → Prop} (h : am_H) (l0 l1 l2 l3 l4 l5 : Option am_V) : ex_ d 23 0 [l0, l1, l2, l3, l4, l5] [] h Q ↔ ex_ d 23 5 [l0, l1, l2, some (v_i (0 : Int32)), some (v_i (0 : Int32)), l5] [] h Q := by
  unfold ex_
  refine (am_Y_go 4 (ok := []) (g := (5, [l0, l1, l2, some (v_i (0 : Int32)), some (v_i (0 : Int32)), l5], [], h)) rfl).trans ?_
  all_goals exact Iff.rfl

theorem b_X0_endingsBehind_5 {d : Nat} {Q : Option am_V → am_H → Prop} (h : am_H) (x4 : Int32) (x2 : Int32) (l0 l1 l3 l5 : Option am_V) : ex_ d 23 5 [l0, l1, some (v_i x2), l3, some (v_i x4), l5] [] h Q ↔ if x2 ≤ x4 then ex_ d 23 89 [l0, l1, some (v_i x2), l3, some (v_i x4), l5] [] h Q else ex_ d 23 11 [l0, l1, some (v_i x2), l3, some (v_i x4), l5] [] h Q := by
  unfold ex_
  refine (am_Y_go 3 (ok := []) (g := (if x2 ≤ x4 then 89 else 11, [l0, l1, some (v_i x2), l3, some (v_i x4), l5], [], h)) rfl).trans ?_
  all_goals exact am_Y_if

theorem b_X0_endingsBehind_89 {d : Nat} {Q : Option am_V → am_H → Prop} (h : am_H) (x3 : Int32) (l0 l1 l2 l4 l5 : Option am_V) : ex_ d 23 89 [l0, l1, l2, some (v_i x3), l4, l5] [] h Q ↔ Q (some (v_i x3)) h := by
  unfold ex_
  refine (am_Y_go 1 (ok := []) (g := (90, [l0, l1, l2, some (v_i x3), l4, l5], [v_i x3], h)) rfl).trans ?_
  all_goals exact ((am_Y_ret rfl rfl rfl).trans (am_r0))

theorem b_X0_endingsBehind_11 {d : Nat} {Q : Option am_V → am_H → Prop} (h : am_H) (x4 : Int32) (l0 l1 l2 l3 l5 : Option am_V) : ex_ d 23 11 [l0, l1, l2, l3, some (v_i x4), l5] [] h Q ↔ if (10 : Int32) ≤ x4 then ex_ d 23 89 [l0, l1, l2, l3, some (v_i x4), l5] [] h Q else ex_ d 23 18 [l0, l1, l2, l3, some (v_i x4), l5] [] h Q := by
  unfold ex_
  refine (am_Y_go 3 (ok := []) (g := (if (10 : Int32) ≤ x4 then 89 else 18, [l0, l1, l2, l3, some (v_i x4), l5], [], h)) rfl).trans ?_
  all_goals exact am_Y_if

theorem b_X0_endingsBehind_18 {d : Nat} {Q : Option am_V → am_H → Prop} (h : am_H) (x1 : Int32) (x4 : Int32) (l0 l2 l3 l5 : Option am_V) : ex_ d 23 18 [l0, some (v_i x1), l2, l3, some (v_i x4), l5] [] h Q ↔ if (x1 ||| ((1 : Int32) <<< (x4 &&& 31))) = x1 then ex_ d 23 83 [l0, some (v_i x1), l2, l3, some (v_i x4), some (v_i (x1 ||| ((1 : Int32) <<< (x4 &&& 31))))] [] h Q else ex_ d 23 32 [l0, some (v_i x1), l2, l3, some (v_i x4), some (v_i (x1 ||| ((1 : Int32) <<< (x4 &&& 31))))] [] h Q := by
  unfold ex_
  refine (am_Y_go 9 (ok := []) (g := (if (x1 ||| ((1 : Int32) <<< (x4 &&& 31))) = x1 then 83 else 32, [l0, some (v_i x1), l2, l3, some (v_i x4), some (v_i (x1 ||| ((1 : Int32) <<< (x4 &&& 31))))], [], h)) rfl).trans ?_
  all_goals exact am_Y_if

theorem b_X0_endingsBehind_83 {d : Nat} {Q : Option am_V → am_H → Prop} (h : am_H) (x4 : Int32) (l0 l1 l2 l3 l5 : Option am_V) : ex_ d 23 83 [l0, l1, l2, l3, some (v_i x4), l5] [] h Q ↔ ex_ d 23 5 [l0, l1, l2, l3, some (v_i (x4 + (1 : Int32))), l5] [] h Q := by
  unfold ex_
  refine (am_Y_go 2 (ok := []) (g := (5, [l0, l1, l2, l3, some (v_i (x4 + (1 : Int32))), l5], [], h)) rfl).trans ?_
  all_goals exact Iff.rfl

theorem b_X0_endingsBehind_32 {d : Nat} {Q : Option am_V → am_H → Prop} (h : am_H) (x4 : Int32) (l1 l2 l3 l5 : Option am_V) (Lh : Lay h) : ex_ d 23 32 [some (v_r (some 41)), l1, l2, l3, some (v_i x4), l5] [] h Q ↔ if (((h_i h 41 2) >>> (x4 &&& 31)) &&& (1 : Int32)) = 0 then ex_ d 23 83 [some (v_r (some 41)), l1, l2, l3, some (v_i x4), l5] [] h Q else ex_ d 23 44 [some (v_r (some 41)), l1, l2, l3, some (v_i x4), l5] [] h Q := by
  unfold ex_
  refine (am_Y_go 7 (ok := [am_is h (some 41) 0]) (g := (if (((h_i h 41 2) >>> (x4 &&& 31)) &&& (1 : Int32)) = 0 then 83 else 44, [some (v_r (some 41)), l1, l2, l3, some (v_i x4), l5], [], h)) rfl).trans ?_
  simp only [am_all]
  all_goals exact cj_d (la_is Lh (o := 41) rfl) (am_Y_if)

theorem b_X0_endingsBehind_44 {d : Nat} {Q : Option am_V → am_H → Prop} (h : am_H) (x4 : Int32) (x1 : Int32) (l2 l3 l5 : Option am_V) (Lh : Lay h) : ex_ d 23 44 [some (v_r (some 41)), some (v_i x1), l2, l3, some (v_i x4), l5] [] h Q ↔ vp_in x4 10 ∧ (if ¬ ((h_i h 43 (Int32.toNatClampNeg x4)) &&& (x1 ^^^ (-1 : Int32))) = 0 then ex_ d 23 83 [some (v_r (some 41)), some (v_i x1), l2, l3, some (v_i x4), l5] [] h Q else ex_ d 23 58 [some (v_r (some 41)), some (v_i x1), l2, l3, some (v_i x4), l5] [] h Q) := by
  have e0 : h_r h 41 4 = some 43 := la_r Lh (q := (41, 4, 43)) (by decide)
  unfold ex_
  refine (am_Y_go 9 (ok := [am_is h (some 41) 0, am_ar h ((h_r h 41 4)) 20 x4]) (g := (if ¬ ((h_i h ((h_r h 41 4).getD 0) (Int32.toNatClampNeg x4)) &&& (x1 ^^^ (-1 : Int32))) = 0 then 83 else 58, [some (v_r (some 41)), some (v_i x1), l2, l3, some (v_i x4), l5], [], h)) rfl).trans ?_
  simp only [e0, Option.getD_some, am_all]
  all_goals exact cj_d (la_is Lh (o := 41) rfl) (cj_k (la_ar Lh (o := 43) rfl) (am_Y_if))

theorem b_X0_endingsBehind_58 {d : Nat} {Q : Option am_V → am_H → Prop} (h : am_H) (x5 : Int32) (l0 l1 l2 l3 l4 : Option am_V) : ex_ d 23 58 [l0, l1, l2, l3, l4, some (v_i x5)] [] h Q ↔ if x5 < 0 then ex_ d 23 83 [l0, l1, l2, l3, l4, some (v_i x5)] [] h Q else ex_ d 23 63 [l0, l1, l2, l3, l4, some (v_i x5)] [] h Q := by
  unfold ex_
  refine (am_Y_go 2 (ok := []) (g := (if x5 < 0 then 83 else 63, [l0, l1, l2, l3, l4, some (v_i x5)], [], h)) rfl).trans ?_
  all_goals exact am_Y_if

theorem b_X0_endingsBehind_63 {d : Nat} {Q : Option am_V → am_H → Prop} (h : am_H) (x5 : Int32) (l1 l2 l3 l4 : Option am_V) (Lh : Lay h) : ex_ d 23 63 [some (v_r (some 41)), l1, l2, l3, l4, some (v_i x5)] [] h Q ↔ if (nI 1024) ≤ x5 then ex_ d 23 83 [some (v_r (some 41)), l1, l2, l3, l4, some (v_i x5)] [] h Q else ex_ d 23 73 [some (v_r (some 41)), l1, l2, l3, l4, some (v_i x5)] [] h Q := by
  have e0 : h_r h 41 8 = some 46 := la_r Lh (q := (41, 8, 46)) (by decide)
  have e1 : h_l h 46 = 1024 := (la_l Lh (o := 46) rfl)
  unfold ex_
  refine (am_Y_go 5 (ok := [am_is h (some 41) 0, am_an h ((h_r h 41 8))]) (g := (if (nI (h_l h ((h_r h 41 8).getD 0))) ≤ x5 then 83 else 73, [some (v_r (some 41)), l1, l2, l3, l4, some (v_i x5)], [], h)) rfl).trans ?_
  simp only [e0, e1, Option.getD_some, am_all]
  all_goals exact cj_d (la_is Lh (o := 41) rfl) (cj_d (la_an20 Lh (o := 46) rfl) (am_Y_if))

theorem b_X0_endingsBehind_73 {d : Nat} {Q : Option am_V → am_H → Prop} (h : am_H) (x3 : Int32) (x5 : Int32) (x4 : Int32) (l1 l2 : Option am_V) (Lh : Lay h) : ex_ d 23 73 [some (v_r (some 41)), l1, l2, some (v_i x3), some (v_i x4), some (v_i x5)] [] h Q ↔ vp_in x5 1024 ∧ ex_ d 23 5 [some (v_r (some 41)), l1, l2, some (v_i (x3 + (h_i h 46 (Int32.toNatClampNeg x5)))), some (v_i (x4 + (1 : Int32))), some (v_i x5)] [] h Q := by
  have e0 : h_r h 41 8 = some 46 := la_r Lh (q := (41, 8, 46)) (by decide)
  unfold ex_
  refine (am_Y_go 9 (ok := [am_is h (some 41) 0, am_ar h ((h_r h 41 8)) 20 x5]) (g := (5, [some (v_r (some 41)), l1, l2, some (v_i (x3 + (h_i h ((h_r h 41 8).getD 0) (Int32.toNatClampNeg x5)))), some (v_i (x4 + (1 : Int32))), some (v_i x5)], [], h)) rfl).trans ?_
  simp only [e0, Option.getD_some, am_all]
  all_goals exact cj_d (la_is Lh (o := 41) rfl) (cj_k (la_ar Lh (o := 46) rfl) (Iff.rfl))

theorem b_X0_rowsThatMeetAll_0 {d : Nat} {Q : Option am_V → am_H → Prop} (h : am_H) (l1 : Option am_V) (Lh : Lay h) : ex_ d 24 0 [some (v_r (some 41)), l1] [] h Q ↔ if (h_i h 41 2) < 0 then ex_ d 24 19 [some (v_r (some 41)), l1] [] h Q else ex_ d 24 7 [some (v_r (some 41)), l1] [] h Q := by
  unfold ex_
  refine (am_Y_go 3 (ok := [am_is h (some 41) 0]) (g := (if (h_i h 41 2) < 0 then 19 else 7, [some (v_r (some 41)), l1], [], h)) rfl).trans ?_
  simp only [am_all]
  all_goals exact cj_d (la_is Lh (o := 41) rfl) (am_Y_if)

theorem b_X0_rowsThatMeetAll_19 {d : Nat} {Q : Option am_V → am_H → Prop} (h : am_H) (l0 l1 : Option am_V) : ex_ d 24 19 [l0, l1] [] h Q ↔ Q (some (v_i (0 : Int32))) h := by
  unfold ex_
  refine (am_Y_go 1 (ok := []) (g := (20, [l0, l1], [v_i (0 : Int32)], h)) rfl).trans ?_
  all_goals exact ((am_Y_ret rfl rfl rfl).trans (am_r0))

theorem b_X0_rowsThatMeetAll_7 {d : Nat} {Q : Option am_V → am_H → Prop} (h : am_H) (l1 : Option am_V) (Lh : Lay h) : ex_ d 24 7 [some (v_r (some 41)), l1] [] h Q ↔ if (h_i h 41 2) < (nI 1024) then ex_ d 24 21 [some (v_r (some 41)), l1] [] h Q else ex_ d 24 19 [some (v_r (some 41)), l1] [] h Q := by
  have e0 : h_r h 41 8 = some 46 := la_r Lh (q := (41, 8, 46)) (by decide)
  have e1 : h_l h 46 = 1024 := (la_l Lh (o := 46) rfl)
  unfold ex_
  refine (am_Y_go 6 (ok := [am_is h (some 41) 0, am_is h (some 41) 0, am_an h ((h_r h 41 8))]) (g := (if (h_i h 41 2) < (nI (h_l h ((h_r h 41 8).getD 0))) then 21 else 19, [some (v_r (some 41)), l1], [], h)) rfl).trans ?_
  simp only [e0, e1, Option.getD_some, am_all]
  all_goals exact cj_d (la_is Lh (o := 41) rfl) (cj_d (la_is Lh (o := 41) rfl) (cj_d (la_an20 Lh (o := 46) rfl) (am_Y_if)))

theorem b_X0_rowsThatMeetAll_21 {d : Nat} {Q : Option am_V → am_H → Prop} (h : am_H) (l1 : Option am_V) (Lh : Lay h) : ex_ d 24 21 [some (v_r (some 41)), l1] [] h Q ↔ vp_in (h_i h 41 2) 1024 ∧ ex_ d 24 38 [some (v_r (some 41)), some (v_i ((h_i (p_i h 46 (Int32.toNatClampNeg (h_i h 41 2)) (1 : Int32)) 41 2) - (1 : Int32)))] [] (p_i h 46 (Int32.toNatClampNeg (h_i h 41 2)) (1 : Int32)) Q := by
  have e0 : h_r h 41 8 = some 46 := la_r Lh (q := (41, 8, 46)) (by decide)
  unfold ex_
  refine (am_Y_go 11 (ok := [am_is h (some 41) 0, am_is h (some 41) 0, am_ar h ((h_r h 41 8)) 20 (h_i h 41 2), am_is h (some 41) 0]) (g := (38, [some (v_r (some 41)), some (v_i ((h_i (p_i h ((h_r h 41 8).getD 0) (Int32.toNatClampNeg (h_i h 41 2)) (1 : Int32)) 41 2) - (1 : Int32)))], [], (p_i h ((h_r h 41 8).getD 0) (Int32.toNatClampNeg (h_i h 41 2)) (1 : Int32)))) rfl).trans ?_
  simp only [e0, Option.getD_some, am_all]
  all_goals exact cj_d (la_is Lh (o := 41) rfl) (cj_d (la_is Lh (o := 41) rfl) (cj_k (la_ar Lh (o := 46) rfl) (cj_d (la_is Lh (o := 41) rfl) (Iff.rfl))))

theorem b_X0_rowsThatMeetAll_38 {d : Nat} {Q : Option am_V → am_H → Prop} (h : am_H) (x1 : Int32) (l0 : Option am_V) : ex_ d 24 38 [l0, some (v_i x1)] [] h Q ↔ if x1 < 0 then ex_ d 24 72 [l0, some (v_i x1)] [] h Q else ex_ d 24 42 [l0, some (v_i x1)] [] h Q := by
  unfold ex_
  refine (am_Y_go 2 (ok := []) (g := (if x1 < 0 then 72 else 42, [l0, some (v_i x1)], [], h)) rfl).trans ?_
  all_goals exact am_Y_if

theorem b_X0_rowsThatMeetAll_72 {d : Nat} {Q : Option am_V → am_H → Prop} (h : am_H) (l1 : Option am_V) (Lh : Lay h) : ex_ d 24 72 [some (v_r (some 41)), l1] [] h Q ↔ vp_in (0 : Int32) 1024 ∧ Q (some (v_i (h_i h 46 (Int32.toNatClampNeg (0 : Int32))))) h := by
  have e0 : h_r h 41 8 = some 46 := la_r Lh (q := (41, 8, 46)) (by decide)
  unfold ex_
  refine (am_Y_go 4 (ok := [am_is h (some 41) 0, am_ar h ((h_r h 41 8)) 20 (0 : Int32)]) (g := (78, [some (v_r (some 41)), l1], [v_i (h_i h ((h_r h 41 8).getD 0) (Int32.toNatClampNeg (0 : Int32)))], h)) rfl).trans ?_
  simp only [e0, Option.getD_some, am_all]
  all_goals exact cj_d (la_is Lh (o := 41) rfl) (cj_k (la_ar Lh (o := 46) rfl) (((am_Y_ret rfl rfl rfl).trans (am_r0))))

theorem b_X0_rowsThatMeetAll_42 {d : Nat} {Q : Option am_V → am_H → Prop} (h : am_H) (x1 : Int32) (Lh : Lay h) : ex_ d 24 42 [some (v_r (some 41)), some (v_i x1)] [] h Q ↔ if ¬ (x1 &&& ((h_i h 41 2) ^^^ (-1 : Int32))) = 0 then ex_ d 24 66 [some (v_r (some 41)), some (v_i x1)] [] h Q else ex_ d 24 53 [some (v_r (some 41)), some (v_i x1)] [] h Q := by
  unfold ex_
  refine (am_Y_go 7 (ok := [am_is h (some 41) 0]) (g := (if ¬ (x1 &&& ((h_i h 41 2) ^^^ (-1 : Int32))) = 0 then 66 else 53, [some (v_r (some 41)), some (v_i x1)], [], h)) rfl).trans ?_
  simp only [am_all]
  all_goals exact cj_d (la_is Lh (o := 41) rfl) (am_Y_if)

theorem b_X0_rowsThatMeetAll_66 {d : Nat} {Q : Option am_V → am_H → Prop} (h : am_H) (x1 : Int32) (l0 : Option am_V) : ex_ d 24 66 [l0, some (v_i x1)] [] h Q ↔ ex_ d 24 38 [l0, some (v_i (x1 + (-1 : Int32)))] [] h Q := by
  unfold ex_
  refine (am_Y_go 2 (ok := []) (g := (38, [l0, some (v_i (x1 + (-1 : Int32)))], [], h)) rfl).trans ?_
  all_goals exact Iff.rfl

theorem b_X0_rowsThatMeetAll_53 {d : Nat} {Q : Option am_V → am_H → Prop} (h : am_H) (x1 : Int32) (Lh : Lay h) : ex_ (d + 1) 24 53 [some (v_r (some 41)), some (v_i x1)] [] h Q ↔ ex_ d 23 0 [some (v_r (some 41)), some (v_i x1), some (v_i (10 : Int32)), none, none, none] [] h (fun r h' => ex_ (d + 1) 24 65 [some (v_r (some 41)), some (v_i x1)] (r.toList ++ [v_i x1, v_r (some 46)]) h' Q) := by
  have e0 : h_r h 41 8 = some 46 := la_r Lh (q := (41, 8, 46)) (by decide)
  unfold ex_
  refine (am_Y_go 6 (ok := [am_is h (some 41) 0]) (g := (62, [some (v_r (some 41)), some (v_i x1)], [v_i (10 : Int32), v_i x1, v_r (some 41), v_i x1, v_r ((h_r h 41 8))], h)) rfl).trans ?_
  simp only [e0, Option.getD_some, am_all]
  all_goals exact cj_d (la_is Lh (o := 41) rfl) (((am_Y_call (j := 23) (na := 3) (ci := 0) (fl := 0) rfl rfl rfl).trans (cj_d ⟨⟨Nat.le_of_ble_eq_true rfl, Nat.le_of_ble_eq_true rfl, Nat.le_of_ble_eq_true rfl, rfl⟩, Or.inr (Or.inr (show (0 : Nat) < 20 ∧ am_is h (some 41) 0 from ⟨by decide, (la_is Lh (o := 41) rfl)⟩))⟩ Iff.rfl)))

theorem b_X0_rowsThatMeetAll_65 {d : Nat} {Q : Option am_V → am_H → Prop} (h : am_H) (s0 : Int32) (s1 : Int32) (t2 : Nat) (x1 : Int32) (l0 : Option am_V) {n_t2 : Nat} (A_t2 : y_arr h t2 20 n_t2) : ex_ d 24 65 [l0, some (v_i x1)] [v_i s0, v_i s1, v_r (some t2)] h Q ↔ vp_in s1 n_t2 ∧ ex_ d 24 38 [l0, some (v_i (x1 + (-1 : Int32)))] [] (p_i h t2 (Int32.toNatClampNeg s1) s0) Q := by
  unfold ex_
  refine (am_Y_go 3 (ok := [am_ar h (some t2) 20 s1]) (g := (38, [l0, some (v_i (x1 + (-1 : Int32)))], [], (p_i h t2 (Int32.toNatClampNeg s1) s0))) rfl).trans ?_
  simp only [am_all]
  all_goals exact cj_k (lb_ar A_t2) (Iff.rfl)

theorem b_X0_rowsAheadOfOrder_0 {d : Nat} {Q : Option am_V → am_H → Prop} (h : am_H) (l1 l2 l3 l4 l5 : Option am_V) (Lh : Lay h) : ex_ (d + 1) 25 0 [some (v_r (some 41)), l1, l2, l3, l4, l5] [] h Q ↔ ex_ d 24 0 [some (v_r (some 41)), none] [] h (fun r h' => ex_ (d + 1) 25 4 [some (v_r (some 41)), l1, l2, l3, l4, l5] (r.toList ++ []) h' Q) := by
  unfold ex_
  refine (am_Y_go 1 (ok := []) (g := (1, [some (v_r (some 41)), l1, l2, l3, l4, l5], [v_r (some 41)], h)) rfl).trans ?_
  all_goals exact ((am_Y_call (j := 24) (na := 1) (ci := 0) (fl := 0) rfl rfl rfl).trans (cj_d ⟨⟨Nat.le_of_ble_eq_true rfl, Nat.le_of_ble_eq_true rfl, Nat.le_of_ble_eq_true rfl, rfl⟩, Or.inr (Or.inr (show (0 : Nat) < 20 ∧ am_is h (some 41) 0 from ⟨by decide, (la_is Lh (o := 41) rfl)⟩))⟩ Iff.rfl))

theorem b_X0_rowsAheadOfOrder_4 {d : Nat} {Q : Option am_V → am_H → Prop} (h : am_H) (s0 : Int32) (l0 l1 l2 l3 l4 l5 : Option am_V) : ex_ d 25 4 [l0, l1, l2, l3, l4, l5] [v_i s0] h Q ↔ ex_ d 25 12 [l0, l1, some (v_i (0 : Int32)), some (v_i (0 : Int32)), some (v_i (0 : Int32)), l5] [] h Q := by
  unfold ex_
  refine (am_Y_go 7 (ok := []) (g := (12, [l0, l1, some (v_i (0 : Int32)), some (v_i (0 : Int32)), some (v_i (0 : Int32)), l5], [], h)) rfl).trans ?_
  all_goals exact Iff.rfl

theorem b_X0_rowsAheadOfOrder_12 {d : Nat} {Q : Option am_V → am_H → Prop} (h : am_H) (x4 : Int32) (x1 : Int32) (l2 l3 l5 : Option am_V) (Lh : Lay h) : ex_ (d + 1) 25 12 [some (v_r (some 41)), some (v_i x1), l2, l3, some (v_i x4), l5] [] h Q ↔ ex_ d 9 0 [some (v_r (some 15)), some (v_i x1)] [] h (fun r h' => ex_ (d + 1) 25 22 [some (v_r (some 41)), some (v_i x1), l2, l3, some (v_i x4), l5] (r.toList ++ [v_i x4]) h' Q) := by
  have e0 : h_r h 41 1 = some 15 := la_r Lh (q := (41, 1, 15)) (by decide)
  unfold ex_
  refine (am_Y_go 4 (ok := [am_is h (some 41) 0]) (g := (19, [some (v_r (some 41)), some (v_i x1), l2, l3, some (v_i x4), l5], [v_i x1, v_r ((h_r h 41 1)), v_i x4], h)) rfl).trans ?_
  simp only [e0, Option.getD_some, am_all]
  all_goals exact cj_d (la_is Lh (o := 41) rfl) (((am_Y_call (j := 9) (na := 2) (ci := 6) (fl := 0) rfl rfl rfl).trans (cj_d ⟨⟨Nat.le_of_ble_eq_true rfl, Nat.le_of_ble_eq_true rfl, Nat.le_of_ble_eq_true rfl, rfl⟩, Or.inr (Or.inr (show (6 : Nat) < 20 ∧ am_is h (some 15) 6 from ⟨by decide, (la_is Lh (o := 15) rfl)⟩))⟩ Iff.rfl)))

theorem b_X0_rowsAheadOfOrder_22 {d : Nat} {Q : Option am_V → am_H → Prop} (h : am_H) (s0 : Int32) (s1 : Int32) (l0 l1 l2 l3 l4 l5 : Option am_V) : ex_ d 25 22 [l0, l1, l2, l3, l4, l5] [v_i s0, v_i s1] h Q ↔ if s0 ≤ s1 then ex_ d 25 60 [l0, l1, l2, l3, l4, l5] [] h Q else ex_ d 25 25 [l0, l1, l2, l3, l4, l5] [] h Q := by
  unfold ex_
  refine (am_Y_go 1 (ok := []) (g := (if s0 ≤ s1 then 60 else 25, [l0, l1, l2, l3, l4, l5], [], h)) rfl).trans ?_
  all_goals exact am_Y_if

theorem b_X0_rowsAheadOfOrder_60 {d : Nat} {Q : Option am_V → am_H → Prop} (h : am_H) (x2 : Int32) (l0 l1 l3 l4 l5 : Option am_V) : ex_ d 25 60 [l0, l1, some (v_i x2), l3, l4, l5] [] h Q ↔ Q (some (v_i x2)) h := by
  unfold ex_
  refine (am_Y_go 1 (ok := []) (g := (61, [l0, l1, some (v_i x2), l3, l4, l5], [v_i x2], h)) rfl).trans ?_
  all_goals exact ((am_Y_ret rfl rfl rfl).trans (am_r0))

theorem b_X0_rowsAheadOfOrder_25 {d : Nat} {Q : Option am_V → am_H → Prop} (h : am_H) (x1 : Int32) (x4 : Int32) (l2 l3 l5 : Option am_V) (Lh : Lay h) : ex_ (d + 1) 25 25 [some (v_r (some 41)), some (v_i x1), l2, l3, some (v_i x4), l5] [] h Q ↔ ex_ d 10 0 [some (v_r (some 15)), some (v_i x1), some (v_i x4)] [] h (fun r h' => ex_ (d + 1) 25 35 [some (v_r (some 41)), some (v_i x1), l2, l3, some (v_i x4), l5] (r.toList ++ []) h' Q) := by
  have e0 : h_r h 41 1 = some 15 := la_r Lh (q := (41, 1, 15)) (by decide)
  unfold ex_
  refine (am_Y_go 4 (ok := [am_is h (some 41) 0]) (g := (32, [some (v_r (some 41)), some (v_i x1), l2, l3, some (v_i x4), l5], [v_i x4, v_i x1, v_r ((h_r h 41 1))], h)) rfl).trans ?_
  simp only [e0, Option.getD_some, am_all]
  all_goals exact cj_d (la_is Lh (o := 41) rfl) (((am_Y_call (j := 10) (na := 3) (ci := 6) (fl := 0) rfl rfl rfl).trans (cj_d ⟨⟨Nat.le_of_ble_eq_true rfl, Nat.le_of_ble_eq_true rfl, Nat.le_of_ble_eq_true rfl, rfl⟩, Or.inr (Or.inr (show (6 : Nat) < 20 ∧ am_is h (some 15) 6 from ⟨by decide, (la_is Lh (o := 15) rfl)⟩))⟩ Iff.rfl)))

theorem b_X0_rowsAheadOfOrder_35 {d : Nat} {Q : Option am_V → am_H → Prop} (h : am_H) (s0 : Int32) (x2 : Int32) (x3 : Int32) (l1 l4 l5 : Option am_V) (Lh : Lay h) : ex_ (d + 1) 25 35 [some (v_r (some 41)), l1, some (v_i x2), some (v_i x3), l4, l5] [v_i s0] h Q ↔ ex_ d 23 0 [some (v_r (some 41)), some (v_i x3), some (v_i s0), none, none, none] [] h (fun r h' => ex_ (d + 1) 25 45 [some (v_r (some 41)), l1, some (v_i x2), some (v_i x3), l4, some (v_i s0)] (r.toList ++ [v_i x2]) h' Q) := by
  unfold ex_
  refine (am_Y_go 5 (ok := []) (g := (42, [some (v_r (some 41)), l1, some (v_i x2), some (v_i x3), l4, some (v_i s0)], [v_i s0, v_i x3, v_r (some 41), v_i x2], h)) rfl).trans ?_
  all_goals exact ((am_Y_call (j := 23) (na := 3) (ci := 0) (fl := 0) rfl rfl rfl).trans (cj_d ⟨⟨Nat.le_of_ble_eq_true rfl, Nat.le_of_ble_eq_true rfl, Nat.le_of_ble_eq_true rfl, rfl⟩, Or.inr (Or.inr (show (0 : Nat) < 20 ∧ am_is h (some 41) 0 from ⟨by decide, (la_is Lh (o := 41) rfl)⟩))⟩ Iff.rfl))

theorem b_X0_rowsAheadOfOrder_45 {d : Nat} {Q : Option am_V → am_H → Prop} (h : am_H) (s0 : Int32) (s1 : Int32) (x3 : Int32) (x5 : Int32) (x4 : Int32) (l0 l1 l2 : Option am_V) : ex_ d 25 45 [l0, l1, l2, some (v_i x3), some (v_i x4), some (v_i x5)] [v_i s0, v_i s1] h Q ↔ ex_ d 25 12 [l0, l1, some (v_i (s1 + s0)), some (v_i (x3 ||| ((1 : Int32) <<< (x5 &&& 31)))), some (v_i (x4 + (1 : Int32))), some (v_i x5)] [] h Q := by
  unfold ex_
  refine (am_Y_go 10 (ok := []) (g := (12, [l0, l1, some (v_i (s1 + s0)), some (v_i (x3 ||| ((1 : Int32) <<< (x5 &&& 31)))), some (v_i (x4 + (1 : Int32))), some (v_i x5)], [], h)) rfl).trans ?_
  all_goals exact Iff.rfl
