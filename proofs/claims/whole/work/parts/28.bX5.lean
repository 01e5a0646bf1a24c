theorem b_X5_sizeOf_0 {d : Nat} {Q : Option am_V → am_H → Prop} (h : am_H) (x1 : Int32) (l0 : Option am_V) : ex_ d 64 0 [l0, some (v_i x1)] [] h Q ↔ if x1 < 0 then ex_ d 64 19 [l0, some (v_i x1)] [] h Q else ex_ d 64 4 [l0, some (v_i x1)] [] h Q := by
  unfold ex_
  refine (am_Y_go 2 (ok := []) (g := (if x1 < 0 then 19 else 4, [l0, some (v_i x1)], [], h)) rfl).trans ?_
  all_goals exact am_Y_if

theorem b_X5_sizeOf_19 {d : Nat} {Q : Option am_V → am_H → Prop} (h : am_H) (l0 l1 : Option am_V) : ex_ d 64 19 [l0, l1] [] h Q ↔ Q (some (v_i (0 : Int32))) h := by
  unfold ex_
  refine (am_Y_go 1 (ok := []) (g := (20, [l0, l1], [v_i (0 : Int32)], h)) rfl).trans ?_
  all_goals exact ((am_Y_ret rfl rfl rfl).trans (am_r0))

theorem b_X5_sizeOf_4 {d : Nat} {Q : Option am_V → am_H → Prop} (h : am_H) (x1 : Int32) (l0 : Option am_V) : ex_ d 64 4 [l0, some (v_i x1)] [] h Q ↔ if (10 : Int32) ≤ x1 then ex_ d 64 19 [l0, some (v_i x1)] [] h Q else ex_ d 64 10 [l0, some (v_i x1)] [] h Q := by
  unfold ex_
  refine (am_Y_go 3 (ok := []) (g := (if (10 : Int32) ≤ x1 then 19 else 10, [l0, some (v_i x1)], [], h)) rfl).trans ?_
  all_goals exact am_Y_if

theorem b_X5_sizeOf_10 {d : Nat} {Q : Option am_V → am_H → Prop} (h : am_H) (x1 : Int32) (Lh : Lay h) : ex_ d 64 10 [some (v_r (some 47)), some (v_i x1)] [] h Q ↔ vp_in x1 10 ∧ Q (some (v_i (h_i h 48 (Int32.toNatClampNeg x1)))) h := by
  have e0 : h_r h 47 0 = some 48 := la_r Lh (q := (47, 0, 48)) (by decide)
  unfold ex_
  refine (am_Y_go 5 (ok := [am_is h (some 47) 5, am_ar h ((h_r h 47 0)) 20 x1]) (g := (20, [some (v_r (some 47)), some (v_i x1)], [v_i (h_i h ((h_r h 47 0).getD 0) (Int32.toNatClampNeg x1))], h)) rfl).trans ?_
  simp only [e0, Option.getD_some, am_all]
  all_goals exact cj_d (la_is Lh (o := 47) rfl) (cj_k (la_ar Lh (o := 48) rfl) (((am_Y_ret rfl rfl rfl).trans (am_r0))))

theorem b_X5_at_0 {d : Nat} {Q : Option am_V → am_H → Prop} (h : am_H) (x2 : Int32) (l0 l1 : Option am_V) : ex_ d 65 0 [l0, l1, some (v_i x2)] [] h Q ↔ if x2 < 0 then ex_ d 65 33 [l0, l1, some (v_i x2)] [] h Q else ex_ d 65 4 [l0, l1, some (v_i x2)] [] h Q := by
  unfold ex_
  refine (am_Y_go 2 (ok := []) (g := (if x2 < 0 then 33 else 4, [l0, l1, some (v_i x2)], [], h)) rfl).trans ?_
  all_goals exact am_Y_if

theorem b_X5_at_33 {d : Nat} {Q : Option am_V → am_H → Prop} (h : am_H) (l0 l1 l2 : Option am_V) : ex_ d 65 33 [l0, l1, l2] [] h Q ↔ Q (some (v_i (-1 : Int32))) h := by
  unfold ex_
  refine (am_Y_go 1 (ok := []) (g := (34, [l0, l1, l2], [v_i (-1 : Int32)], h)) rfl).trans ?_
  all_goals exact ((am_Y_ret rfl rfl rfl).trans (am_r0))

theorem b_X5_at_4 {d : Nat} {Q : Option am_V → am_H → Prop} (h : am_H) (x2 : Int32) (x1 : Int32) (Lh : Lay h) : ex_ (d + 1) 65 4 [some (v_r (some 47)), some (v_i x1), some (v_i x2)] [] h Q ↔ ex_ d 64 0 [some (v_r (some 47)), some (v_i x1)] [] h (fun r h' => ex_ (d + 1) 65 10 [some (v_r (some 47)), some (v_i x1), some (v_i x2)] (r.toList ++ [v_i x2]) h' Q) := by
  unfold ex_
  refine (am_Y_go 3 (ok := []) (g := (7, [some (v_r (some 47)), some (v_i x1), some (v_i x2)], [v_i x1, v_r (some 47), v_i x2], h)) rfl).trans ?_
  all_goals exact ((am_Y_call (j := 64) (na := 2) (ci := 5) (fl := 0) rfl rfl rfl).trans (cj_d ⟨⟨Nat.le_of_ble_eq_true rfl, Nat.le_of_ble_eq_true rfl, Nat.le_of_ble_eq_true rfl, rfl⟩, Or.inr (Or.inr (show (5 : Nat) < 20 ∧ am_is h (some 47) 5 from ⟨by decide, (la_is Lh (o := 47) rfl)⟩))⟩ Iff.rfl))

theorem b_X5_at_10 {d : Nat} {Q : Option am_V → am_H → Prop} (h : am_H) (s0 : Int32) (s1 : Int32) (l0 l1 l2 : Option am_V) : ex_ d 65 10 [l0, l1, l2] [v_i s0, v_i s1] h Q ↔ if s0 ≤ s1 then ex_ d 65 33 [l0, l1, l2] [] h Q else ex_ d 65 13 [l0, l1, l2] [] h Q := by
  unfold ex_
  refine (am_Y_go 1 (ok := []) (g := (if s0 ≤ s1 then 33 else 13, [l0, l1, l2], [], h)) rfl).trans ?_
  all_goals exact am_Y_if

theorem b_X5_at_13 {d : Nat} {Q : Option am_V → am_H → Prop} (h : am_H) (x2 : Int32) (l0 l1 : Option am_V) : ex_ d 65 13 [l0, l1, some (v_i x2)] [] h Q ↔ if (10 : Int32) ≤ x2 then ex_ d 65 33 [l0, l1, some (v_i x2)] [] h Q else ex_ d 65 19 [l0, l1, some (v_i x2)] [] h Q := by
  unfold ex_
  refine (am_Y_go 3 (ok := []) (g := (if (10 : Int32) ≤ x2 then 33 else 19, [l0, l1, some (v_i x2)], [], h)) rfl).trans ?_
  all_goals exact am_Y_if

theorem b_X5_at_19 {d : Nat} {Q : Option am_V → am_H → Prop} (h : am_H) (x1 : Int32) (x2 : Int32) (Lh : Lay h) : ex_ d 65 19 [some (v_r (some 47)), some (v_i x1), some (v_i x2)] [] h Q ↔ vp_in ((x1 * (10 : Int32)) + x2) 100 ∧ Q (some (v_i (h_i h 49 (Int32.toNatClampNeg ((x1 * (10 : Int32)) + x2))))) h := by
  have e0 : h_r h 47 1 = some 49 := la_r Lh (q := (47, 1, 49)) (by decide)
  unfold ex_
  refine (am_Y_go 9 (ok := [am_is h (some 47) 5, am_ar h ((h_r h 47 1)) 20 ((x1 * (10 : Int32)) + x2)]) (g := (34, [some (v_r (some 47)), some (v_i x1), some (v_i x2)], [v_i (h_i h ((h_r h 47 1).getD 0) (Int32.toNatClampNeg ((x1 * (10 : Int32)) + x2)))], h)) rfl).trans ?_
  simp only [e0, Option.getD_some, am_all]
  all_goals exact cj_d (la_is Lh (o := 47) rfl) (cj_k (la_ar Lh (o := 49) rfl) (((am_Y_ret rfl rfl rfl).trans (am_r0))))

theorem b_X5_append_0 {d : Nat} {Q : Option am_V → am_H → Prop} (h : am_H) (x1 : Int32) (l0 l2 : Option am_V) : ex_ d 66 0 [l0, some (v_i x1), l2] [] h Q ↔ if x1 < 0 then ex_ d 66 48 [l0, some (v_i x1), l2] [] h Q else ex_ d 66 4 [l0, some (v_i x1), l2] [] h Q := by
  unfold ex_
  refine (am_Y_go 2 (ok := []) (g := (if x1 < 0 then 48 else 4, [l0, some (v_i x1), l2], [], h)) rfl).trans ?_
  all_goals exact am_Y_if

theorem b_X5_append_48 {d : Nat} {Q : Option am_V → am_H → Prop} (h : am_H) (l0 l1 l2 : Option am_V) : ex_ d 66 48 [l0, l1, l2] [] h Q ↔ Q (none) h := by
  unfold ex_
  exact ((am_Y_ret rfl rfl rfl).trans (am_rz rfl))

theorem b_X5_append_4 {d : Nat} {Q : Option am_V → am_H → Prop} (h : am_H) (x1 : Int32) (l0 l2 : Option am_V) : ex_ d 66 4 [l0, some (v_i x1), l2] [] h Q ↔ if (10 : Int32) ≤ x1 then ex_ d 66 48 [l0, some (v_i x1), l2] [] h Q else ex_ d 66 10 [l0, some (v_i x1), l2] [] h Q := by
  unfold ex_
  refine (am_Y_go 3 (ok := []) (g := (if (10 : Int32) ≤ x1 then 48 else 10, [l0, some (v_i x1), l2], [], h)) rfl).trans ?_
  all_goals exact am_Y_if

theorem b_X5_append_10 {d : Nat} {Q : Option am_V → am_H → Prop} (h : am_H) (x1 : Int32) (l2 : Option am_V) (Lh : Lay h) : ex_ d 66 10 [some (v_r (some 47)), some (v_i x1), l2] [] h Q ↔ vp_in x1 10 ∧ (if (10 : Int32) ≤ (h_i h 48 (Int32.toNatClampNeg x1)) then ex_ d 66 48 [some (v_r (some 47)), some (v_i x1), l2] [] h Q else ex_ d 66 21 [some (v_r (some 47)), some (v_i x1), l2] [] h Q) := by
  have e0 : h_r h 47 0 = some 48 := la_r Lh (q := (47, 0, 48)) (by decide)
  unfold ex_
  refine (am_Y_go 6 (ok := [am_is h (some 47) 5, am_ar h ((h_r h 47 0)) 20 x1]) (g := (if (10 : Int32) ≤ (h_i h ((h_r h 47 0).getD 0) (Int32.toNatClampNeg x1)) then 48 else 21, [some (v_r (some 47)), some (v_i x1), l2], [], h)) rfl).trans ?_
  simp only [e0, Option.getD_some, am_all]
  all_goals exact cj_d (la_is Lh (o := 47) rfl) (cj_k (la_ar Lh (o := 48) rfl) (am_Y_if))

theorem b_X5_append_21 {d : Nat} {Q : Option am_V → am_H → Prop} (h : am_H) (x1 : Int32) (x2 : Int32) (Lh : Lay h) : ex_ d 66 21 [some (v_r (some 47)), some (v_i x1), some (v_i x2)] [] h Q ↔ vp_in x1 10 ∧ vp_in ((x1 * (10 : Int32)) + (h_i h 48 (Int32.toNatClampNeg x1))) 100 ∧ vp_in x1 10 ∧ vp_in x1 10 ∧ Q (none) (p_i (p_i h 49 (Int32.toNatClampNeg ((x1 * (10 : Int32)) + (h_i h 48 (Int32.toNatClampNeg x1)))) x2) 48 (Int32.toNatClampNeg x1) ((h_i (p_i h 49 (Int32.toNatClampNeg ((x1 * (10 : Int32)) + (h_i h 48 (Int32.toNatClampNeg x1)))) x2) 48 (Int32.toNatClampNeg x1)) + (1 : Int32))) := by
  have e0 : h_r h 47 1 = some 49 := la_r Lh (q := (47, 1, 49)) (by decide)
  have e1 : h_r h 47 0 = some 48 := la_r Lh (q := (47, 0, 48)) (by decide)
  unfold ex_
  refine (am_Y_go 20 (ok := [am_is h (some 47) 5, am_is h (some 47) 5, am_ar h ((h_r h 47 0)) 20 x1, am_ar h ((h_r h 47 1)) 20 ((x1 * (10 : Int32)) + (h_i h ((h_r h 47 0).getD 0) (Int32.toNatClampNeg x1))), am_is h (some 47) 5, am_ar h ((h_r h 47 0)) 20 x1, am_ar h ((h_r h 47 0)) 20 x1]) (g := (48, [some (v_r (some 47)), some (v_i x1), some (v_i x2)], [], (p_i (p_i h ((h_r h 47 1).getD 0) (Int32.toNatClampNeg ((x1 * (10 : Int32)) + (h_i h ((h_r h 47 0).getD 0) (Int32.toNatClampNeg x1)))) x2) ((h_r h 47 0).getD 0) (Int32.toNatClampNeg x1) ((h_i (p_i h ((h_r h 47 1).getD 0) (Int32.toNatClampNeg ((x1 * (10 : Int32)) + (h_i h ((h_r h 47 0).getD 0) (Int32.toNatClampNeg x1)))) x2) ((h_r h 47 0).getD 0) (Int32.toNatClampNeg x1)) + (1 : Int32))))) rfl).trans ?_
  simp only [e0, e1, Option.getD_some, am_all]
  all_goals exact cj_d (la_is Lh (o := 47) rfl) (cj_d (la_is Lh (o := 47) rfl) (cj_k (la_ar Lh (o := 48) rfl) (cj_k (la_ar Lh (o := 49) rfl) (cj_d (la_is Lh (o := 47) rfl) (cj_k (la_ar Lh (o := 48) rfl) (cj_k (la_ar Lh (o := 48) rfl) (((am_Y_ret rfl rfl rfl).trans (am_rz rfl)))))))))

theorem b_X5_appendByDepth_0 {d : Nat} {Q : Option am_V → am_H → Prop} (h : am_H) (l0 l1 l2 l3 l4 l5 l6 l7 : Option am_V) : ex_ d 67 0 [l0, l1, l2, l3, l4, l5, l6, l7] [] h Q ↔ ex_ d 67 5 [l0, l1, l2, some (v_i (0 : Int32)), some (v_i (0 : Int32)), l5, l6, l7] [] h Q := by
  unfold ex_
  refine (am_Y_go 4 (ok := []) (g := (5, [l0, l1, l2, some (v_i (0 : Int32)), some (v_i (0 : Int32)), l5, l6, l7], [], h)) rfl).trans ?_
  all_goals exact Iff.rfl

theorem b_X5_appendByDepth_5 {d : Nat} {Q : Option am_V → am_H → Prop} (h : am_H) (x4 : Int32) (o1 : Nat) (x2 : Int32) (l0 l3 l5 l6 l7 : Option am_V) (F_o1 : y_Facts h o1) : ex_ (d + 1) 67 5 [l0, some (v_r (some o1)), some (v_i x2), l3, some (v_i x4), l5, l6, l7] [] h Q ↔ ex_ d 4 0 [some (v_r (some o1)), some (v_i x2)] [] h (fun r h' => ex_ (d + 1) 67 12 [l0, some (v_r (some o1)), some (v_i x2), l3, some (v_i x4), l5, l6, l7] (r.toList ++ [v_i x4]) h' Q) := by
  unfold ex_
  refine (am_Y_go 3 (ok := []) (g := (9, [l0, some (v_r (some o1)), some (v_i x2), l3, some (v_i x4), l5, l6, l7], [v_i x2, v_r (some o1), v_i x4], h)) rfl).trans ?_
  all_goals exact ((am_Y_call (j := 4) (na := 2) (ci := 1) (fl := 0) rfl rfl rfl).trans (cj_d ⟨⟨Nat.le_of_ble_eq_true rfl, Nat.le_of_ble_eq_true rfl, Nat.le_of_ble_eq_true rfl, rfl⟩, Or.inr (Or.inr (show (1 : Nat) < 20 ∧ am_is h (some o1) 1 from ⟨by decide, (lr_is (F_o1.1 0 rfl))⟩))⟩ Iff.rfl))

theorem b_X5_appendByDepth_12 {d : Nat} {Q : Option am_V → am_H → Prop} (h : am_H) (s0 : Int32) (s1 : Int32) (l0 l1 l2 l3 l4 l5 l6 l7 : Option am_V) : ex_ d 67 12 [l0, l1, l2, l3, l4, l5, l6, l7] [v_i s0, v_i s1] h Q ↔ if s0 ≤ s1 then ex_ d 67 83 [l0, l1, l2, l3, l4, l5, l6, l7] [] h Q else ex_ d 67 15 [l0, l1, l2, l3, l4, l5, l6, l7] [] h Q := by
  unfold ex_
  refine (am_Y_go 1 (ok := []) (g := (if s0 ≤ s1 then 83 else 15, [l0, l1, l2, l3, l4, l5, l6, l7], [], h)) rfl).trans ?_
  all_goals exact am_Y_if

theorem b_X5_appendByDepth_83 {d : Nat} {Q : Option am_V → am_H → Prop} (h : am_H) (l0 l1 l2 l3 l4 l5 l6 l7 : Option am_V) : ex_ d 67 83 [l0, l1, l2, l3, l4, l5, l6, l7] [] h Q ↔ Q (none) h := by
  unfold ex_
  exact ((am_Y_ret rfl rfl rfl).trans (am_rz rfl))

theorem b_X5_appendByDepth_15 {d : Nat} {Q : Option am_V → am_H → Prop} (h : am_H) (o1 : Nat) (x2 : Int32) (x4 : Int32) (l0 l3 l5 l6 l7 : Option am_V) (F_o1 : y_Facts h o1) : ex_ (d + 1) 67 15 [l0, some (v_r (some o1)), some (v_i x2), l3, some (v_i x4), l5, l6, l7] [] h Q ↔ ex_ d 5 0 [some (v_r (some o1)), some (v_i x2), some (v_i x4)] [] h (fun r h' => ex_ (d + 1) 67 22 [l0, some (v_r (some o1)), some (v_i x2), l3, some (v_i x4), l5, l6, l7] (r.toList ++ []) h' Q) := by
  unfold ex_
  refine (am_Y_go 3 (ok := []) (g := (19, [l0, some (v_r (some o1)), some (v_i x2), l3, some (v_i x4), l5, l6, l7], [v_i x4, v_i x2, v_r (some o1)], h)) rfl).trans ?_
  all_goals exact ((am_Y_call (j := 5) (na := 3) (ci := 1) (fl := 0) rfl rfl rfl).trans (cj_d ⟨⟨Nat.le_of_ble_eq_true rfl, Nat.le_of_ble_eq_true rfl, Nat.le_of_ble_eq_true rfl, rfl⟩, Or.inr (Or.inr (show (1 : Nat) < 20 ∧ am_is h (some o1) 1 from ⟨by decide, (lr_is (F_o1.1 0 rfl))⟩))⟩ Iff.rfl))

theorem b_X5_appendByDepth_22 {d : Nat} {Q : Option am_V → am_H → Prop} (h : am_H) (s0 : Int32) (l0 l1 l2 l3 l4 l5 l6 l7 : Option am_V) : ex_ d 67 22 [l0, l1, l2, l3, l4, l5, l6, l7] [v_i s0] h Q ↔ ex_ d 67 27 [l0, l1, l2, l3, l4, some (v_i s0), some (v_i (0 : Int32)), l7] [] h Q := by
  unfold ex_
  refine (am_Y_go 3 (ok := []) (g := (27, [l0, l1, l2, l3, l4, some (v_i s0), some (v_i (0 : Int32)), l7], [], h)) rfl).trans ?_
  all_goals exact Iff.rfl

theorem b_X5_appendByDepth_27 {d : Nat} {Q : Option am_V → am_H → Prop} (h : am_H) (x6 : Int32) (x5 : Int32) (l1 l2 l3 l4 l7 : Option am_V) (Lh : Lay h) : ex_ (d + 1) 67 27 [some (v_r (some 47)), l1, l2, l3, l4, some (v_i x5), some (v_i x6), l7] [] h Q ↔ ex_ d 64 0 [some (v_r (some 47)), some (v_i x5)] [] h (fun r h' => ex_ (d + 1) 67 35 [some (v_r (some 47)), l1, l2, l3, l4, some (v_i x5), some (v_i x6), l7] (r.toList ++ [v_i x6]) h' Q) := by
  unfold ex_
  refine (am_Y_go 3 (ok := []) (g := (32, [some (v_r (some 47)), l1, l2, l3, l4, some (v_i x5), some (v_i x6), l7], [v_i x5, v_r (some 47), v_i x6], h)) rfl).trans ?_
  all_goals exact ((am_Y_call (j := 64) (na := 2) (ci := 5) (fl := 0) rfl rfl rfl).trans (cj_d ⟨⟨Nat.le_of_ble_eq_true rfl, Nat.le_of_ble_eq_true rfl, Nat.le_of_ble_eq_true rfl, rfl⟩, Or.inr (Or.inr (show (5 : Nat) < 20 ∧ am_is h (some 47) 5 from ⟨by decide, (la_is Lh (o := 47) rfl)⟩))⟩ Iff.rfl))

theorem b_X5_appendByDepth_35 {d : Nat} {Q : Option am_V → am_H → Prop} (h : am_H) (s0 : Int32) (s1 : Int32) (l0 l1 l2 l3 l4 l5 l6 l7 : Option am_V) : ex_ d 67 35 [l0, l1, l2, l3, l4, l5, l6, l7] [v_i s0, v_i s1] h Q ↔ if s0 ≤ s1 then ex_ d 67 77 [l0, l1, l2, l3, l4, l5, l6, l7] [] h Q else ex_ d 67 38 [l0, l1, l2, l3, l4, l5, l6, l7] [] h Q := by
  unfold ex_
  refine (am_Y_go 1 (ok := []) (g := (if s0 ≤ s1 then 77 else 38, [l0, l1, l2, l3, l4, l5, l6, l7], [], h)) rfl).trans ?_
  all_goals exact am_Y_if

theorem b_X5_appendByDepth_77 {d : Nat} {Q : Option am_V → am_H → Prop} (h : am_H) (x4 : Int32) (l0 l1 l2 l3 l5 l6 l7 : Option am_V) : ex_ d 67 77 [l0, l1, l2, l3, some (v_i x4), l5, l6, l7] [] h Q ↔ ex_ d 67 5 [l0, l1, l2, l3, some (v_i (x4 + (1 : Int32))), l5, l6, l7] [] h Q := by
  unfold ex_
  refine (am_Y_go 2 (ok := []) (g := (5, [l0, l1, l2, l3, some (v_i (x4 + (1 : Int32))), l5, l6, l7], [], h)) rfl).trans ?_
  all_goals exact Iff.rfl

theorem b_X5_appendByDepth_38 {d : Nat} {Q : Option am_V → am_H → Prop} (h : am_H) (x5 : Int32) (x6 : Int32) (l1 l2 l3 l4 l7 : Option am_V) (Lh : Lay h) : ex_ (d + 1) 67 38 [some (v_r (some 47)), l1, l2, l3, l4, some (v_i x5), some (v_i x6), l7] [] h Q ↔ ex_ d 65 0 [some (v_r (some 47)), some (v_i x5), some (v_i x6)] [] h (fun r h' => ex_ (d + 1) 67 46 [some (v_r (some 47)), l1, l2, l3, l4, some (v_i x5), some (v_i x6), l7] (r.toList ++ []) h' Q) := by
  unfold ex_
  refine (am_Y_go 3 (ok := []) (g := (43, [some (v_r (some 47)), l1, l2, l3, l4, some (v_i x5), some (v_i x6), l7], [v_i x6, v_i x5, v_r (some 47)], h)) rfl).trans ?_
  all_goals exact ((am_Y_call (j := 65) (na := 3) (ci := 5) (fl := 0) rfl rfl rfl).trans (cj_d ⟨⟨Nat.le_of_ble_eq_true rfl, Nat.le_of_ble_eq_true rfl, Nat.le_of_ble_eq_true rfl, rfl⟩, Or.inr (Or.inr (show (5 : Nat) < 20 ∧ am_is h (some 47) 5 from ⟨by decide, (la_is Lh (o := 47) rfl)⟩))⟩ Iff.rfl))

theorem b_X5_appendByDepth_46 {d : Nat} {Q : Option am_V → am_H → Prop} (h : am_H) (s0 : Int32) (x3 : Int32) (l0 l1 l2 l4 l5 l6 l7 : Option am_V) : ex_ d 67 46 [l0, l1, l2, some (v_i x3), l4, l5, l6, l7] [v_i s0] h Q ↔ if ¬ ((x3 >>> (s0 &&& 31)) &&& (1 : Int32)) = 0 then ex_ d 67 71 [l0, l1, l2, some (v_i x3), l4, l5, l6, some (v_i s0)] [] h Q else ex_ d 67 57 [l0, l1, l2, some (v_i x3), l4, l5, l6, some (v_i s0)] [] h Q := by
  unfold ex_
  refine (am_Y_go 7 (ok := []) (g := (if ¬ ((x3 >>> (s0 &&& 31)) &&& (1 : Int32)) = 0 then 71 else 57, [l0, l1, l2, some (v_i x3), l4, l5, l6, some (v_i s0)], [], h)) rfl).trans ?_
  all_goals exact am_Y_if

theorem b_X5_appendByDepth_71 {d : Nat} {Q : Option am_V → am_H → Prop} (h : am_H) (x6 : Int32) (l0 l1 l2 l3 l4 l5 l7 : Option am_V) : ex_ d 67 71 [l0, l1, l2, l3, l4, l5, some (v_i x6), l7] [] h Q ↔ ex_ d 67 27 [l0, l1, l2, l3, l4, l5, some (v_i (x6 + (1 : Int32))), l7] [] h Q := by
  unfold ex_
  refine (am_Y_go 2 (ok := []) (g := (27, [l0, l1, l2, l3, l4, l5, some (v_i (x6 + (1 : Int32))), l7], [], h)) rfl).trans ?_
  all_goals exact Iff.rfl

theorem b_X5_appendByDepth_57 {d : Nat} {Q : Option am_V → am_H → Prop} (h : am_H) (x3 : Int32) (x7 : Int32) (x2 : Int32) (l1 l4 l5 l6 : Option am_V) (Lh : Lay h) : ex_ (d + 1) 67 57 [some (v_r (some 47)), l1, some (v_i x2), some (v_i x3), l4, l5, l6, some (v_i x7)] [] h Q ↔ ex_ d 66 0 [some (v_r (some 47)), some (v_i x2), some (v_i x7)] [] h (fun r h' => ex_ (d + 1) 67 71 [some (v_r (some 47)), l1, some (v_i x2), some (v_i (x3 ||| ((1 : Int32) <<< (x7 &&& 31)))), l4, l5, l6, some (v_i x7)] (r.toList ++ []) h' Q) := by
  unfold ex_
  refine (am_Y_go 9 (ok := []) (g := (68, [some (v_r (some 47)), l1, some (v_i x2), some (v_i (x3 ||| ((1 : Int32) <<< (x7 &&& 31)))), l4, l5, l6, some (v_i x7)], [v_i x7, v_i x2, v_r (some 47)], h)) rfl).trans ?_
  all_goals exact ((am_Y_call (j := 66) (na := 3) (ci := 5) (fl := 0) rfl rfl rfl).trans (cj_d ⟨⟨Nat.le_of_ble_eq_true rfl, Nat.le_of_ble_eq_true rfl, Nat.le_of_ble_eq_true rfl, rfl⟩, Or.inr (Or.inr (show (5 : Nat) < 20 ∧ am_is h (some 47) 5 from ⟨by decide, (la_is Lh (o := 47) rfl)⟩))⟩ Iff.rfl))

theorem b_X5_appendLastOnes_0 {d : Nat} {Q : Option am_V → am_H → Prop} (h : am_H) (o1 : Nat) (x2 : Int32) (l0 l3 l4 l5 l6 l7 l8 : Option am_V) (F_o1 : y_Facts h o1) : ex_ (d + 1) 68 0 [l0, some (v_r (some o1)), some (v_i x2), l3, l4, l5, l6, l7, l8] [] h Q ↔ ex_ d 4 0 [some (v_r (some o1)), some (v_i x2)] [] h (fun r h' => ex_ (d + 1) 68 10 [l0, some (v_r (some o1)), some (v_i x2), some (v_i (0 : Int32)), some (v_i (0 : Int32)), l5, l6, l7, l8] (r.toList ++ []) h' Q) := by
  unfold ex_
  refine (am_Y_go 6 (ok := []) (g := (7, [l0, some (v_r (some o1)), some (v_i x2), some (v_i (0 : Int32)), some (v_i (0 : Int32)), l5, l6, l7, l8], [v_i x2, v_r (some o1)], h)) rfl).trans ?_
  all_goals exact ((am_Y_call (j := 4) (na := 2) (ci := 1) (fl := 0) rfl rfl rfl).trans (cj_d ⟨⟨Nat.le_of_ble_eq_true rfl, Nat.le_of_ble_eq_true rfl, Nat.le_of_ble_eq_true rfl, rfl⟩, Or.inr (Or.inr (show (1 : Nat) < 20 ∧ am_is h (some o1) 1 from ⟨by decide, (lr_is (F_o1.1 0 rfl))⟩))⟩ Iff.rfl))

theorem b_X5_appendLastOnes_10 {d : Nat} {Q : Option am_V → am_H → Prop} (h : am_H) (s0 : Int32) (l0 l1 l2 l3 l4 l5 l6 l7 l8 : Option am_V) : ex_ d 68 10 [l0, l1, l2, l3, l4, l5, l6, l7, l8] [v_i s0] h Q ↔ ex_ d 68 14 [l0, l1, l2, l3, l4, some (v_i (s0 - (1 : Int32))), l6, l7, l8] [] h Q := by
  unfold ex_
  refine (am_Y_go 3 (ok := []) (g := (14, [l0, l1, l2, l3, l4, some (v_i (s0 - (1 : Int32))), l6, l7, l8], [], h)) rfl).trans ?_
  all_goals exact Iff.rfl

theorem b_X5_appendLastOnes_14 {d : Nat} {Q : Option am_V → am_H → Prop} (h : am_H) (x5 : Int32) (l0 l1 l2 l3 l4 l6 l7 l8 : Option am_V) : ex_ d 68 14 [l0, l1, l2, l3, l4, some (v_i x5), l6, l7, l8] [] h Q ↔ if x5 < 0 then ex_ d 68 103 [l0, l1, l2, l3, l4, some (v_i x5), l6, l7, l8] [] h Q else ex_ d 68 19 [l0, l1, l2, l3, l4, some (v_i x5), l6, l7, l8] [] h Q := by
  unfold ex_
  refine (am_Y_go 2 (ok := []) (g := (if x5 < 0 then 103 else 19, [l0, l1, l2, l3, l4, some (v_i x5), l6, l7, l8], [], h)) rfl).trans ?_
  all_goals exact am_Y_if

theorem b_X5_appendLastOnes_103 {d : Nat} {Q : Option am_V → am_H → Prop} (h : am_H) (x4 : Int32) (l0 l1 l2 l3 l5 l6 l7 l8 : Option am_V) : ex_ d 68 103 [l0, l1, l2, l3, some (v_i x4), l5, l6, l7, l8] [] h Q ↔ ex_ d 68 109 [l0, l1, l2, l3, some (v_i x4), some (v_i (x4 - (1 : Int32))), l6, l7, l8] [] h Q := by
  unfold ex_
  refine (am_Y_go 4 (ok := []) (g := (109, [l0, l1, l2, l3, some (v_i x4), some (v_i (x4 - (1 : Int32))), l6, l7, l8], [], h)) rfl).trans ?_
  all_goals exact Iff.rfl

theorem b_X5_appendLastOnes_19 {d : Nat} {Q : Option am_V → am_H → Prop} (h : am_H) (o1 : Nat) (x2 : Int32) (x5 : Int32) (l0 l3 l4 l6 l7 l8 : Option am_V) (F_o1 : y_Facts h o1) : ex_ (d + 1) 68 19 [l0, some (v_r (some o1)), some (v_i x2), l3, l4, some (v_i x5), l6, l7, l8] [] h Q ↔ ex_ d 5 0 [some (v_r (some o1)), some (v_i x2), some (v_i x5)] [] h (fun r h' => ex_ (d + 1) 68 26 [l0, some (v_r (some o1)), some (v_i x2), l3, l4, some (v_i x5), l6, l7, l8] (r.toList ++ []) h' Q) := by
  unfold ex_
  refine (am_Y_go 3 (ok := []) (g := (23, [l0, some (v_r (some o1)), some (v_i x2), l3, l4, some (v_i x5), l6, l7, l8], [v_i x5, v_i x2, v_r (some o1)], h)) rfl).trans ?_
  all_goals exact ((am_Y_call (j := 5) (na := 3) (ci := 1) (fl := 0) rfl rfl rfl).trans (cj_d ⟨⟨Nat.le_of_ble_eq_true rfl, Nat.le_of_ble_eq_true rfl, Nat.le_of_ble_eq_true rfl, rfl⟩, Or.inr (Or.inr (show (1 : Nat) < 20 ∧ am_is h (some o1) 1 from ⟨by decide, (lr_is (F_o1.1 0 rfl))⟩))⟩ Iff.rfl))

theorem b_X5_appendLastOnes_109 {d : Nat} {Q : Option am_V → am_H → Prop} (h : am_H) (x5 : Int32) (l0 l1 l2 l3 l4 l6 l7 l8 : Option am_V) : ex_ d 68 109 [l0, l1, l2, l3, l4, some (v_i x5), l6, l7, l8] [] h Q ↔ if x5 < 0 then ex_ d 68 132 [l0, l1, l2, l3, l4, some (v_i x5), l6, l7, l8] [] h Q else ex_ d 68 114 [l0, l1, l2, l3, l4, some (v_i x5), l6, l7, l8] [] h Q := by
  unfold ex_
  refine (am_Y_go 2 (ok := []) (g := (if x5 < 0 then 132 else 114, [l0, l1, l2, l3, l4, some (v_i x5), l6, l7, l8], [], h)) rfl).trans ?_
  all_goals exact am_Y_if

theorem b_X5_appendLastOnes_26 {d : Nat} {Q : Option am_V → am_H → Prop} (h : am_H) (s0 : Int32) (l1 l2 l3 l4 l5 l6 l7 l8 : Option am_V) (Lh : Lay h) : ex_ (d + 1) 68 26 [some (v_r (some 47)), l1, l2, l3, l4, l5, l6, l7, l8] [v_i s0] h Q ↔ ex_ d 64 0 [some (v_r (some 47)), some (v_i s0)] [] h (fun r h' => ex_ (d + 1) 68 34 [some (v_r (some 47)), l1, l2, l3, l4, l5, some (v_i s0), l7, l8] (r.toList ++ []) h' Q) := by
  unfold ex_
  refine (am_Y_go 3 (ok := []) (g := (31, [some (v_r (some 47)), l1, l2, l3, l4, l5, some (v_i s0), l7, l8], [v_i s0, v_r (some 47)], h)) rfl).trans ?_
  all_goals exact ((am_Y_call (j := 64) (na := 2) (ci := 5) (fl := 0) rfl rfl rfl).trans (cj_d ⟨⟨Nat.le_of_ble_eq_true rfl, Nat.le_of_ble_eq_true rfl, Nat.le_of_ble_eq_true rfl, rfl⟩, Or.inr (Or.inr (show (5 : Nat) < 20 ∧ am_is h (some 47) 5 from ⟨by decide, (la_is Lh (o := 47) rfl)⟩))⟩ Iff.rfl))

theorem b_X5_appendLastOnes_132 {d : Nat} {Q : Option am_V → am_H → Prop} (h : am_H) (l0 l1 l2 l3 l4 l5 l6 l7 l8 : Option am_V) : ex_ d 68 132 [l0, l1, l2, l3, l4, l5, l6, l7, l8] [] h Q ↔ Q (none) h := by
  unfold ex_
  exact ((am_Y_ret rfl rfl rfl).trans (am_rz rfl))

theorem b_X5_appendLastOnes_114 {d : Nat} {Q : Option am_V → am_H → Prop} (h : am_H) (x2 : Int32) (x5 : Int32) (l1 l3 l4 l6 l7 l8 : Option am_V) (Lh : Lay h) : ex_ (d + 1) 68 114 [some (v_r (some 47)), l1, some (v_i x2), l3, l4, some (v_i x5), l6, l7, l8] [] h Q ↔ vp_in x5 10 ∧ ex_ d 66 0 [some (v_r (some 47)), some (v_i x2), some (v_i (h_i h 50 (Int32.toNatClampNeg x5)))] [] h (fun r h' => ex_ (d + 1) 68 126 [some (v_r (some 47)), l1, some (v_i x2), l3, l4, some (v_i x5), l6, l7, l8] (r.toList ++ []) h' Q) := by
  have e0 : h_r h 47 2 = some 50 := la_r Lh (q := (47, 2, 50)) (by decide)
  unfold ex_
  refine (am_Y_go 6 (ok := [am_is h (some 47) 5, am_ar h ((h_r h 47 2)) 20 x5]) (g := (123, [some (v_r (some 47)), l1, some (v_i x2), l3, l4, some (v_i x5), l6, l7, l8], [v_i (h_i h ((h_r h 47 2).getD 0) (Int32.toNatClampNeg x5)), v_i x2, v_r (some 47)], h)) rfl).trans ?_
  simp only [e0, Option.getD_some, am_all]
  all_goals exact cj_d (la_is Lh (o := 47) rfl) (cj_k (la_ar Lh (o := 50) rfl) (((am_Y_call (j := 66) (na := 3) (ci := 5) (fl := 0) rfl rfl rfl).trans (cj_d ⟨⟨Nat.le_of_ble_eq_true rfl, Nat.le_of_ble_eq_true rfl, Nat.le_of_ble_eq_true rfl, rfl⟩, Or.inr (Or.inr (show (5 : Nat) < 20 ∧ am_is h (some 47) 5 from ⟨by decide, (la_is Lh (o := 47) rfl)⟩))⟩ Iff.rfl))))

theorem b_X5_appendLastOnes_34 {d : Nat} {Q : Option am_V → am_H → Prop} (h : am_H) (s0 : Int32) (l0 l1 l2 l3 l4 l5 l6 l7 l8 : Option am_V) : ex_ d 68 34 [l0, l1, l2, l3, l4, l5, l6, l7, l8] [v_i s0] h Q ↔ ex_ d 68 38 [l0, l1, l2, l3, l4, l5, l6, some (v_i (s0 - (1 : Int32))), l8] [] h Q := by
  unfold ex_
  refine (am_Y_go 3 (ok := []) (g := (38, [l0, l1, l2, l3, l4, l5, l6, some (v_i (s0 - (1 : Int32))), l8], [], h)) rfl).trans ?_
  all_goals exact Iff.rfl

theorem b_X5_appendLastOnes_126 {d : Nat} {Q : Option am_V → am_H → Prop} (h : am_H) (x5 : Int32) (l0 l1 l2 l3 l4 l6 l7 l8 : Option am_V) : ex_ d 68 126 [l0, l1, l2, l3, l4, some (v_i x5), l6, l7, l8] [] h Q ↔ ex_ d 68 109 [l0, l1, l2, l3, l4, some (v_i (x5 + (-1 : Int32))), l6, l7, l8] [] h Q := by
  unfold ex_
  refine (am_Y_go 2 (ok := []) (g := (109, [l0, l1, l2, l3, l4, some (v_i (x5 + (-1 : Int32))), l6, l7, l8], [], h)) rfl).trans ?_
  all_goals exact Iff.rfl

theorem b_X5_appendLastOnes_38 {d : Nat} {Q : Option am_V → am_H → Prop} (h : am_H) (x7 : Int32) (l0 l1 l2 l3 l4 l5 l6 l8 : Option am_V) : ex_ d 68 38 [l0, l1, l2, l3, l4, l5, l6, some (v_i x7), l8] [] h Q ↔ if x7 < 0 then ex_ d 68 97 [l0, l1, l2, l3, l4, l5, l6, some (v_i x7), l8] [] h Q else ex_ d 68 43 [l0, l1, l2, l3, l4, l5, l6, some (v_i x7), l8] [] h Q := by
  unfold ex_
  refine (am_Y_go 2 (ok := []) (g := (if x7 < 0 then 97 else 43, [l0, l1, l2, l3, l4, l5, l6, some (v_i x7), l8], [], h)) rfl).trans ?_
  all_goals exact am_Y_if

theorem b_X5_appendLastOnes_97 {d : Nat} {Q : Option am_V → am_H → Prop} (h : am_H) (x5 : Int32) (l0 l1 l2 l3 l4 l6 l7 l8 : Option am_V) : ex_ d 68 97 [l0, l1, l2, l3, l4, some (v_i x5), l6, l7, l8] [] h Q ↔ ex_ d 68 14 [l0, l1, l2, l3, l4, some (v_i (x5 + (-1 : Int32))), l6, l7, l8] [] h Q := by
  unfold ex_
  refine (am_Y_go 2 (ok := []) (g := (14, [l0, l1, l2, l3, l4, some (v_i (x5 + (-1 : Int32))), l6, l7, l8], [], h)) rfl).trans ?_
  all_goals exact Iff.rfl

theorem b_X5_appendLastOnes_43 {d : Nat} {Q : Option am_V → am_H → Prop} (h : am_H) (x6 : Int32) (x7 : Int32) (l1 l2 l3 l4 l5 l8 : Option am_V) (Lh : Lay h) : ex_ (d + 1) 68 43 [some (v_r (some 47)), l1, l2, l3, l4, l5, some (v_i x6), some (v_i x7), l8] [] h Q ↔ ex_ d 65 0 [some (v_r (some 47)), some (v_i x6), some (v_i x7)] [] h (fun r h' => ex_ (d + 1) 68 51 [some (v_r (some 47)), l1, l2, l3, l4, l5, some (v_i x6), some (v_i x7), l8] (r.toList ++ []) h' Q) := by
  unfold ex_
  refine (am_Y_go 3 (ok := []) (g := (48, [some (v_r (some 47)), l1, l2, l3, l4, l5, some (v_i x6), some (v_i x7), l8], [v_i x7, v_i x6, v_r (some 47)], h)) rfl).trans ?_
  all_goals exact ((am_Y_call (j := 65) (na := 3) (ci := 5) (fl := 0) rfl rfl rfl).trans (cj_d ⟨⟨Nat.le_of_ble_eq_true rfl, Nat.le_of_ble_eq_true rfl, Nat.le_of_ble_eq_true rfl, rfl⟩, Or.inr (Or.inr (show (5 : Nat) < 20 ∧ am_is h (some 47) 5 from ⟨by decide, (la_is Lh (o := 47) rfl)⟩))⟩ Iff.rfl))

theorem b_X5_appendLastOnes_51 {d : Nat} {Q : Option am_V → am_H → Prop} (h : am_H) (s0 : Int32) (x3 : Int32) (l0 l1 l2 l4 l5 l6 l7 l8 : Option am_V) : ex_ d 68 51 [l0, l1, l2, some (v_i x3), l4, l5, l6, l7, l8] [v_i s0] h Q ↔ if ¬ ((x3 >>> (s0 &&& 31)) &&& (1 : Int32)) = 0 then ex_ d 68 91 [l0, l1, l2, some (v_i x3), l4, l5, l6, l7, some (v_i s0)] [] h Q else ex_ d 68 62 [l0, l1, l2, some (v_i x3), l4, l5, l6, l7, some (v_i s0)] [] h Q := by
  unfold ex_
  refine (am_Y_go 7 (ok := []) (g := (if ¬ ((x3 >>> (s0 &&& 31)) &&& (1 : Int32)) = 0 then 91 else 62, [l0, l1, l2, some (v_i x3), l4, l5, l6, l7, some (v_i s0)], [], h)) rfl).trans ?_
  all_goals exact am_Y_if

theorem b_X5_appendLastOnes_91 {d : Nat} {Q : Option am_V → am_H → Prop} (h : am_H) (x7 : Int32) (l0 l1 l2 l3 l4 l5 l6 l8 : Option am_V) : ex_ d 68 91 [l0, l1, l2, l3, l4, l5, l6, some (v_i x7), l8] [] h Q ↔ ex_ d 68 38 [l0, l1, l2, l3, l4, l5, l6, some (v_i (x7 + (-1 : Int32))), l8] [] h Q := by
  unfold ex_
  refine (am_Y_go 2 (ok := []) (g := (38, [l0, l1, l2, l3, l4, l5, l6, some (v_i (x7 + (-1 : Int32))), l8], [], h)) rfl).trans ?_
  all_goals exact Iff.rfl

theorem b_X5_appendLastOnes_62 {d : Nat} {Q : Option am_V → am_H → Prop} (h : am_H) (x4 : Int32) (l1 l2 l3 l5 l6 l7 l8 : Option am_V) (Lh : Lay h) : ex_ d 68 62 [some (v_r (some 47)), l1, l2, l3, some (v_i x4), l5, l6, l7, l8] [] h Q ↔ if (nI 10) ≤ x4 then ex_ d 68 91 [some (v_r (some 47)), l1, l2, l3, some (v_i x4), l5, l6, l7, l8] [] h Q else ex_ d 68 72 [some (v_r (some 47)), l1, l2, l3, some (v_i x4), l5, l6, l7, l8] [] h Q := by
  have e0 : h_r h 47 2 = some 50 := la_r Lh (q := (47, 2, 50)) (by decide)
  have e1 : h_l h 50 = 10 := (la_l Lh (o := 50) rfl)
  unfold ex_
  refine (am_Y_go 5 (ok := [am_is h (some 47) 5, am_an h ((h_r h 47 2))]) (g := (if (nI (h_l h ((h_r h 47 2).getD 0))) ≤ x4 then 91 else 72, [some (v_r (some 47)), l1, l2, l3, some (v_i x4), l5, l6, l7, l8], [], h)) rfl).trans ?_
  simp only [e0, e1, Option.getD_some, am_all]
  all_goals exact cj_d (la_is Lh (o := 47) rfl) (cj_d (la_an20 Lh (o := 50) rfl) (am_Y_if))

theorem b_X5_appendLastOnes_72 {d : Nat} {Q : Option am_V → am_H → Prop} (h : am_H) (x3 : Int32) (x8 : Int32) (x4 : Int32) (x7 : Int32) (l1 l2 l5 l6 : Option am_V) (Lh : Lay h) : ex_ d 68 72 [some (v_r (some 47)), l1, l2, some (v_i x3), some (v_i x4), l5, l6, some (v_i x7), some (v_i x8)] [] h Q ↔ vp_in x4 10 ∧ ex_ d 68 38 [some (v_r (some 47)), l1, l2, some (v_i (x3 ||| ((1 : Int32) <<< (x8 &&& 31)))), some (v_i (x4 + (1 : Int32))), l5, l6, some (v_i (x7 + (-1 : Int32))), some (v_i x8)] [] (p_i h 50 (Int32.toNatClampNeg x4) x8) Q := by
  have e0 : h_r h 47 2 = some 50 := la_r Lh (q := (47, 2, 50)) (by decide)
  unfold ex_
  refine (am_Y_go 14 (ok := [am_is h (some 47) 5, am_ar h ((h_r h 47 2)) 20 x4]) (g := (38, [some (v_r (some 47)), l1, l2, some (v_i (x3 ||| ((1 : Int32) <<< (x8 &&& 31)))), some (v_i (x4 + (1 : Int32))), l5, l6, some (v_i (x7 + (-1 : Int32))), some (v_i x8)], [], (p_i h ((h_r h 47 2).getD 0) (Int32.toNatClampNeg x4) x8))) rfl).trans ?_
  simp only [e0, Option.getD_some, am_all]
  all_goals exact cj_d (la_is Lh (o := 47) rfl) (cj_k (la_ar Lh (o := 50) rfl) (Iff.rfl))

theorem b_X5_appendByBreadth_0 {d : Nat} {Q : Option am_V → am_H → Prop} (h : am_H) (x2 : Int32) (l0 l1 l3 l4 l5 l6 l7 : Option am_V) : ex_ d 69 0 [l0, l1, some (v_i x2), l3, l4, l5, l6, l7] [] h Q ↔ ex_ d 69 7 [l0, l1, some (v_i x2), some (v_i ((1 : Int32) <<< (x2 &&& 31))), some (v_i (0 : Int32)), l5, l6, l7] [] h Q := by
  unfold ex_
  refine (am_Y_go 6 (ok := []) (g := (7, [l0, l1, some (v_i x2), some (v_i ((1 : Int32) <<< (x2 &&& 31))), some (v_i (0 : Int32)), l5, l6, l7], [], h)) rfl).trans ?_
  all_goals exact Iff.rfl

theorem b_X5_appendByBreadth_7 {d : Nat} {Q : Option am_V → am_H → Prop} (h : am_H) (x4 : Int32) (x2 : Int32) (l1 l3 l5 l6 l7 : Option am_V) (Lh : Lay h) : ex_ (d + 1) 69 7 [some (v_r (some 47)), l1, some (v_i x2), l3, some (v_i x4), l5, l6, l7] [] h Q ↔ ex_ d 64 0 [some (v_r (some 47)), some (v_i x2)] [] h (fun r h' => ex_ (d + 1) 69 14 [some (v_r (some 47)), l1, some (v_i x2), l3, some (v_i x4), l5, l6, l7] (r.toList ++ [v_i x4]) h' Q) := by
  unfold ex_
  refine (am_Y_go 3 (ok := []) (g := (11, [some (v_r (some 47)), l1, some (v_i x2), l3, some (v_i x4), l5, l6, l7], [v_i x2, v_r (some 47), v_i x4], h)) rfl).trans ?_
  all_goals exact ((am_Y_call (j := 64) (na := 2) (ci := 5) (fl := 0) rfl rfl rfl).trans (cj_d ⟨⟨Nat.le_of_ble_eq_true rfl, Nat.le_of_ble_eq_true rfl, Nat.le_of_ble_eq_true rfl, rfl⟩, Or.inr (Or.inr (show (5 : Nat) < 20 ∧ am_is h (some 47) 5 from ⟨by decide, (la_is Lh (o := 47) rfl)⟩))⟩ Iff.rfl))

theorem b_X5_appendByBreadth_14 {d : Nat} {Q : Option am_V → am_H → Prop} (h : am_H) (s0 : Int32) (s1 : Int32) (l0 l1 l2 l3 l4 l5 l6 l7 : Option am_V) : ex_ d 69 14 [l0, l1, l2, l3, l4, l5, l6, l7] [v_i s0, v_i s1] h Q ↔ if s0 ≤ s1 then ex_ d 69 85 [l0, l1, l2, l3, l4, l5, l6, l7] [] h Q else ex_ d 69 17 [l0, l1, l2, l3, l4, l5, l6, l7] [] h Q := by
  unfold ex_
  refine (am_Y_go 1 (ok := []) (g := (if s0 ≤ s1 then 85 else 17, [l0, l1, l2, l3, l4, l5, l6, l7], [], h)) rfl).trans ?_
  all_goals exact am_Y_if

theorem b_X5_appendByBreadth_85 {d : Nat} {Q : Option am_V → am_H → Prop} (h : am_H) (l0 l1 l2 l3 l4 l5 l6 l7 : Option am_V) : ex_ d 69 85 [l0, l1, l2, l3, l4, l5, l6, l7] [] h Q ↔ Q (none) h := by
  unfold ex_
  exact ((am_Y_ret rfl rfl rfl).trans (am_rz rfl))

theorem b_X5_appendByBreadth_17 {d : Nat} {Q : Option am_V → am_H → Prop} (h : am_H) (x2 : Int32) (x4 : Int32) (l1 l3 l5 l6 l7 : Option am_V) (Lh : Lay h) : ex_ (d + 1) 69 17 [some (v_r (some 47)), l1, some (v_i x2), l3, some (v_i x4), l5, l6, l7] [] h Q ↔ ex_ d 65 0 [some (v_r (some 47)), some (v_i x2), some (v_i x4)] [] h (fun r h' => ex_ (d + 1) 69 24 [some (v_r (some 47)), l1, some (v_i x2), l3, some (v_i x4), l5, l6, l7] (r.toList ++ []) h' Q) := by
  unfold ex_
  refine (am_Y_go 3 (ok := []) (g := (21, [some (v_r (some 47)), l1, some (v_i x2), l3, some (v_i x4), l5, l6, l7], [v_i x4, v_i x2, v_r (some 47)], h)) rfl).trans ?_
  all_goals exact ((am_Y_call (j := 65) (na := 3) (ci := 5) (fl := 0) rfl rfl rfl).trans (cj_d ⟨⟨Nat.le_of_ble_eq_true rfl, Nat.le_of_ble_eq_true rfl, Nat.le_of_ble_eq_true rfl, rfl⟩, Or.inr (Or.inr (show (5 : Nat) < 20 ∧ am_is h (some 47) 5 from ⟨by decide, (la_is Lh (o := 47) rfl)⟩))⟩ Iff.rfl))

theorem b_X5_appendByBreadth_24 {d : Nat} {Q : Option am_V → am_H → Prop} (h : am_H) (s0 : Int32) (l0 l1 l2 l3 l4 l5 l6 l7 : Option am_V) : ex_ d 69 24 [l0, l1, l2, l3, l4, l5, l6, l7] [v_i s0] h Q ↔ ex_ d 69 29 [l0, l1, l2, l3, l4, some (v_i s0), some (v_i (0 : Int32)), l7] [] h Q := by
  unfold ex_
  refine (am_Y_go 3 (ok := []) (g := (29, [l0, l1, l2, l3, l4, some (v_i s0), some (v_i (0 : Int32)), l7], [], h)) rfl).trans ?_
  all_goals exact Iff.rfl

theorem b_X5_appendByBreadth_29 {d : Nat} {Q : Option am_V → am_H → Prop} (h : am_H) (x6 : Int32) (o1 : Nat) (x5 : Int32) (l0 l2 l3 l4 l7 : Option am_V) (F_o1 : y_Facts h o1) : ex_ (d + 1) 69 29 [l0, some (v_r (some o1)), l2, l3, l4, some (v_i x5), some (v_i x6), l7] [] h Q ↔ ex_ d 4 0 [some (v_r (some o1)), some (v_i x5)] [] h (fun r h' => ex_ (d + 1) 69 37 [l0, some (v_r (some o1)), l2, l3, l4, some (v_i x5), some (v_i x6), l7] (r.toList ++ [v_i x6]) h' Q) := by
  unfold ex_
  refine (am_Y_go 3 (ok := []) (g := (34, [l0, some (v_r (some o1)), l2, l3, l4, some (v_i x5), some (v_i x6), l7], [v_i x5, v_r (some o1), v_i x6], h)) rfl).trans ?_
  all_goals exact ((am_Y_call (j := 4) (na := 2) (ci := 1) (fl := 0) rfl rfl rfl).trans (cj_d ⟨⟨Nat.le_of_ble_eq_true rfl, Nat.le_of_ble_eq_true rfl, Nat.le_of_ble_eq_true rfl, rfl⟩, Or.inr (Or.inr (show (1 : Nat) < 20 ∧ am_is h (some o1) 1 from ⟨by decide, (lr_is (F_o1.1 0 rfl))⟩))⟩ Iff.rfl))

theorem b_X5_appendByBreadth_37 {d : Nat} {Q : Option am_V → am_H → Prop} (h : am_H) (s0 : Int32) (s1 : Int32) (l0 l1 l2 l3 l4 l5 l6 l7 : Option am_V) : ex_ d 69 37 [l0, l1, l2, l3, l4, l5, l6, l7] [v_i s0, v_i s1] h Q ↔ if s0 ≤ s1 then ex_ d 69 79 [l0, l1, l2, l3, l4, l5, l6, l7] [] h Q else ex_ d 69 40 [l0, l1, l2, l3, l4, l5, l6, l7] [] h Q := by
  unfold ex_
  refine (am_Y_go 1 (ok := []) (g := (if s0 ≤ s1 then 79 else 40, [l0, l1, l2, l3, l4, l5, l6, l7], [], h)) rfl).trans ?_
  all_goals exact am_Y_if

theorem b_X5_appendByBreadth_79 {d : Nat} {Q : Option am_V → am_H → Prop} (h : am_H) (x4 : Int32) (l0 l1 l2 l3 l5 l6 l7 : Option am_V) : ex_ d 69 79 [l0, l1, l2, l3, some (v_i x4), l5, l6, l7] [] h Q ↔ ex_ d 69 7 [l0, l1, l2, l3, some (v_i (x4 + (1 : Int32))), l5, l6, l7] [] h Q := by
  unfold ex_
  refine (am_Y_go 2 (ok := []) (g := (7, [l0, l1, l2, l3, some (v_i (x4 + (1 : Int32))), l5, l6, l7], [], h)) rfl).trans ?_
  all_goals exact Iff.rfl

theorem b_X5_appendByBreadth_40 {d : Nat} {Q : Option am_V → am_H → Prop} (h : am_H) (o1 : Nat) (x5 : Int32) (x6 : Int32) (l0 l2 l3 l4 l7 : Option am_V) (F_o1 : y_Facts h o1) : ex_ (d + 1) 69 40 [l0, some (v_r (some o1)), l2, l3, l4, some (v_i x5), some (v_i x6), l7] [] h Q ↔ ex_ d 5 0 [some (v_r (some o1)), some (v_i x5), some (v_i x6)] [] h (fun r h' => ex_ (d + 1) 69 48 [l0, some (v_r (some o1)), l2, l3, l4, some (v_i x5), some (v_i x6), l7] (r.toList ++ []) h' Q) := by
  unfold ex_
  refine (am_Y_go 3 (ok := []) (g := (45, [l0, some (v_r (some o1)), l2, l3, l4, some (v_i x5), some (v_i x6), l7], [v_i x6, v_i x5, v_r (some o1)], h)) rfl).trans ?_
  all_goals exact ((am_Y_call (j := 5) (na := 3) (ci := 1) (fl := 0) rfl rfl rfl).trans (cj_d ⟨⟨Nat.le_of_ble_eq_true rfl, Nat.le_of_ble_eq_true rfl, Nat.le_of_ble_eq_true rfl, rfl⟩, Or.inr (Or.inr (show (1 : Nat) < 20 ∧ am_is h (some o1) 1 from ⟨by decide, (lr_is (F_o1.1 0 rfl))⟩))⟩ Iff.rfl))

theorem b_X5_appendByBreadth_48 {d : Nat} {Q : Option am_V → am_H → Prop} (h : am_H) (s0 : Int32) (x3 : Int32) (l0 l1 l2 l4 l5 l6 l7 : Option am_V) : ex_ d 69 48 [l0, l1, l2, some (v_i x3), l4, l5, l6, l7] [v_i s0] h Q ↔ if ¬ ((x3 >>> (s0 &&& 31)) &&& (1 : Int32)) = 0 then ex_ d 69 73 [l0, l1, l2, some (v_i x3), l4, l5, l6, some (v_i s0)] [] h Q else ex_ d 69 59 [l0, l1, l2, some (v_i x3), l4, l5, l6, some (v_i s0)] [] h Q := by
  unfold ex_
  refine (am_Y_go 7 (ok := []) (g := (if ¬ ((x3 >>> (s0 &&& 31)) &&& (1 : Int32)) = 0 then 73 else 59, [l0, l1, l2, some (v_i x3), l4, l5, l6, some (v_i s0)], [], h)) rfl).trans ?_
  all_goals exact am_Y_if

theorem b_X5_appendByBreadth_73 {d : Nat} {Q : Option am_V → am_H → Prop} (h : am_H) (x6 : Int32) (l0 l1 l2 l3 l4 l5 l7 : Option am_V) : ex_ d 69 73 [l0, l1, l2, l3, l4, l5, some (v_i x6), l7] [] h Q ↔ ex_ d 69 29 [l0, l1, l2, l3, l4, l5, some (v_i (x6 + (1 : Int32))), l7] [] h Q := by
  unfold ex_
  refine (am_Y_go 2 (ok := []) (g := (29, [l0, l1, l2, l3, l4, l5, some (v_i (x6 + (1 : Int32))), l7], [], h)) rfl).trans ?_
  all_goals exact Iff.rfl

theorem b_X5_appendByBreadth_59 {d : Nat} {Q : Option am_V → am_H → Prop} (h : am_H) (x3 : Int32) (x7 : Int32) (x2 : Int32) (l1 l4 l5 l6 : Option am_V) (Lh : Lay h) : ex_ (d + 1) 69 59 [some (v_r (some 47)), l1, some (v_i x2), some (v_i x3), l4, l5, l6, some (v_i x7)] [] h Q ↔ ex_ d 66 0 [some (v_r (some 47)), some (v_i x2), some (v_i x7)] [] h (fun r h' => ex_ (d + 1) 69 73 [some (v_r (some 47)), l1, some (v_i x2), some (v_i (x3 ||| ((1 : Int32) <<< (x7 &&& 31)))), l4, l5, l6, some (v_i x7)] (r.toList ++ []) h' Q) := by
  unfold ex_
  refine (am_Y_go 9 (ok := []) (g := (70, [some (v_r (some 47)), l1, some (v_i x2), some (v_i (x3 ||| ((1 : Int32) <<< (x7 &&& 31)))), l4, l5, l6, some (v_i x7)], [v_i x7, v_i x2, v_r (some 47)], h)) rfl).trans ?_
  all_goals exact ((am_Y_call (j := 66) (na := 3) (ci := 5) (fl := 0) rfl rfl rfl).trans (cj_d ⟨⟨Nat.le_of_ble_eq_true rfl, Nat.le_of_ble_eq_true rfl, Nat.le_of_ble_eq_true rfl, rfl⟩, Or.inr (Or.inr (show (5 : Nat) < 20 ∧ am_is h (some 47) 5 from ⟨by decide, (la_is Lh (o := 47) rfl)⟩))⟩ Iff.rfl))

theorem b_X5_build_0 {d : Nat} {Q : Option am_V → am_H → Prop} (h : am_H) (l1 l2 l3 : Option am_V) (Lh : Lay h) : ex_ (d + 1) 70 0 [some (v_r (some 47)), l1, l2, l3] [] h Q ↔ ex_ d 2 0 [some (v_r (some 48)), some (v_i (0 : Int32)), none, none] [] h (fun r h' => ex_ (d + 1) 70 8 [some (v_r (some 47)), l1, l2, l3] (r.toList ++ []) h' Q) := by
  have e0 : h_r h 47 0 = some 48 := la_r Lh (q := (47, 0, 48)) (by decide)
  unfold ex_
  refine (am_Y_go 3 (ok := [am_is h (some 47) 5]) (g := (5, [some (v_r (some 47)), l1, l2, l3], [v_i (0 : Int32), v_r ((h_r h 47 0))], h)) rfl).trans ?_
  simp only [e0, Option.getD_some, am_all]
  all_goals exact cj_d (la_is Lh (o := 47) rfl) (((am_Y_call (j := 2) (na := 2) (ci := 0) (fl := 2) rfl rfl rfl).trans (cj_d ⟨⟨Nat.le_of_ble_eq_true rfl, Nat.le_of_ble_eq_true rfl, Nat.le_of_ble_eq_true rfl, rfl⟩, Or.inl rfl⟩ Iff.rfl)))

theorem b_X5_build_8 {d : Nat} {Q : Option am_V → am_H → Prop} (h : am_H) (l0 l1 l2 l3 : Option am_V) : ex_ d 70 8 [l0, l1, l2, l3] [] h Q ↔ ex_ d 70 10 [l0, l1, l2, some (v_i (0 : Int32))] [] h Q := by
  unfold ex_
  refine (am_Y_go 2 (ok := []) (g := (10, [l0, l1, l2, some (v_i (0 : Int32))], [], h)) rfl).trans ?_
  all_goals exact Iff.rfl

theorem b_X5_build_10 {d : Nat} {Q : Option am_V → am_H → Prop} (h : am_H) (x3 : Int32) (o1 : Nat) (l0 l2 : Option am_V) (F_o1 : y_Facts h o1) : ex_ d 70 10 [l0, some (v_r (some o1)), l2, some (v_i x3)] [] h Q ↔ if (h_i h o1 0) ≤ x3 then ex_ d 70 64 [l0, some (v_r (some o1)), l2, some (v_i x3)] [] h Q else ex_ d 70 18 [l0, some (v_r (some o1)), l2, some (v_i x3)] [] h Q := by
  unfold ex_
  refine (am_Y_go 4 (ok := [am_is h (some o1) 1]) (g := (if (h_i h o1 0) ≤ x3 then 64 else 18, [l0, some (v_r (some o1)), l2, some (v_i x3)], [], h)) rfl).trans ?_
  simp only [am_all]
  all_goals exact cj_d (lr_is (F_o1.1 0 rfl)) (am_Y_if)

theorem b_X5_build_64 {d : Nat} {Q : Option am_V → am_H → Prop} (h : am_H) (l0 l1 l2 l3 : Option am_V) : ex_ d 70 64 [l0, l1, l2, l3] [] h Q ↔ Q (none) h := by
  unfold ex_
  exact ((am_Y_ret rfl rfl rfl).trans (am_rz rfl))

theorem b_X5_build_18 {d : Nat} {Q : Option am_V → am_H → Prop} (h : am_H) (x3 : Int32) (l1 l2 : Option am_V) (Lh : Lay h) : ex_ (d + 1) 70 18 [some (v_r (some 47)), l1, l2, some (v_i x3)] [] h Q ↔ ex_ d 66 0 [some (v_r (some 47)), some (v_i x3), some (v_i x3)] [] h (fun r h' => ex_ (d + 1) 70 24 [some (v_r (some 47)), l1, l2, some (v_i x3)] (r.toList ++ []) h' Q) := by
  unfold ex_
  refine (am_Y_go 3 (ok := []) (g := (21, [some (v_r (some 47)), l1, l2, some (v_i x3)], [v_i x3, v_i x3, v_r (some 47)], h)) rfl).trans ?_
  all_goals exact ((am_Y_call (j := 66) (na := 3) (ci := 5) (fl := 0) rfl rfl rfl).trans (cj_d ⟨⟨Nat.le_of_ble_eq_true rfl, Nat.le_of_ble_eq_true rfl, Nat.le_of_ble_eq_true rfl, rfl⟩, Or.inr (Or.inr (show (5 : Nat) < 20 ∧ am_is h (some 47) 5 from ⟨by decide, (la_is Lh (o := 47) rfl)⟩))⟩ Iff.rfl))

theorem b_X5_build_24 {d : Nat} {Q : Option am_V → am_H → Prop} (h : am_H) (x2 : Int32) (l0 l1 l3 : Option am_V) : ex_ d 70 24 [l0, l1, some (v_i x2), l3] [] h Q ↔ if ¬ x2 = (1 : Int32) then ex_ d 70 38 [l0, l1, some (v_i x2), l3] [] h Q else ex_ d 70 29 [l0, l1, some (v_i x2), l3] [] h Q := by
  unfold ex_
  refine (am_Y_go 3 (ok := []) (g := (if ¬ x2 = (1 : Int32) then 38 else 29, [l0, l1, some (v_i x2), l3], [], h)) rfl).trans ?_
  all_goals exact am_Y_if

theorem b_X5_build_38 {d : Nat} {Q : Option am_V → am_H → Prop} (h : am_H) (x2 : Int32) (l0 l1 l3 : Option am_V) : ex_ d 70 38 [l0, l1, some (v_i x2), l3] [] h Q ↔ if ¬ x2 = (2 : Int32) then ex_ d 70 52 [l0, l1, some (v_i x2), l3] [] h Q else ex_ d 70 43 [l0, l1, some (v_i x2), l3] [] h Q := by
  unfold ex_
  refine (am_Y_go 3 (ok := []) (g := (if ¬ x2 = (2 : Int32) then 52 else 43, [l0, l1, some (v_i x2), l3], [], h)) rfl).trans ?_
  all_goals exact am_Y_if

theorem b_X5_build_29 {d : Nat} {Q : Option am_V → am_H → Prop} (h : am_H) (o1 : Nat) (x3 : Int32) (l2 : Option am_V) (Lh : Lay h) (F_o1 : y_Facts h o1) : ex_ (d + 1) 70 29 [some (v_r (some 47)), some (v_r (some o1)), l2, some (v_i x3)] [] h Q ↔ ex_ d 67 0 [some (v_r (some 47)), some (v_r (some o1)), some (v_i x3), none, none, none, none, none] [] h (fun r h' => ex_ (d + 1) 70 35 [some (v_r (some 47)), some (v_r (some o1)), l2, some (v_i x3)] (r.toList ++ []) h' Q) := by
  unfold ex_
  refine (am_Y_go 3 (ok := []) (g := (32, [some (v_r (some 47)), some (v_r (some o1)), l2, some (v_i x3)], [v_i x3, v_r (some o1), v_r (some 47)], h)) rfl).trans ?_
  all_goals exact ((am_Y_call (j := 67) (na := 3) (ci := 5) (fl := 0) rfl rfl rfl).trans (cj_d ⟨⟨Nat.le_of_ble_eq_true rfl, Nat.le_of_ble_eq_true rfl, Nat.le_of_ble_eq_true rfl, rfl⟩, Or.inr (Or.inr (show (5 : Nat) < 20 ∧ am_is h (some 47) 5 from ⟨by decide, (la_is Lh (o := 47) rfl)⟩))⟩ Iff.rfl))

theorem b_X5_build_52 {d : Nat} {Q : Option am_V → am_H → Prop} (h : am_H) (o1 : Nat) (x3 : Int32) (l2 : Option am_V) (Lh : Lay h) (F_o1 : y_Facts h o1) : ex_ (d + 1) 70 52 [some (v_r (some 47)), some (v_r (some o1)), l2, some (v_i x3)] [] h Q ↔ ex_ d 69 0 [some (v_r (some 47)), some (v_r (some o1)), some (v_i x3), none, none, none, none, none] [] h (fun r h' => ex_ (d + 1) 70 58 [some (v_r (some 47)), some (v_r (some o1)), l2, some (v_i x3)] (r.toList ++ []) h' Q) := by
  unfold ex_
  refine (am_Y_go 3 (ok := []) (g := (55, [some (v_r (some 47)), some (v_r (some o1)), l2, some (v_i x3)], [v_i x3, v_r (some o1), v_r (some 47)], h)) rfl).trans ?_
  all_goals exact ((am_Y_call (j := 69) (na := 3) (ci := 5) (fl := 0) rfl rfl rfl).trans (cj_d ⟨⟨Nat.le_of_ble_eq_true rfl, Nat.le_of_ble_eq_true rfl, Nat.le_of_ble_eq_true rfl, rfl⟩, Or.inr (Or.inr (show (5 : Nat) < 20 ∧ am_is h (some 47) 5 from ⟨by decide, (la_is Lh (o := 47) rfl)⟩))⟩ Iff.rfl))

theorem b_X5_build_43 {d : Nat} {Q : Option am_V → am_H → Prop} (h : am_H) (o1 : Nat) (x3 : Int32) (l2 : Option am_V) (Lh : Lay h) (F_o1 : y_Facts h o1) : ex_ (d + 1) 70 43 [some (v_r (some 47)), some (v_r (some o1)), l2, some (v_i x3)] [] h Q ↔ ex_ d 68 0 [some (v_r (some 47)), some (v_r (some o1)), some (v_i x3), none, none, none, none, none, none] [] h (fun r h' => ex_ (d + 1) 70 49 [some (v_r (some 47)), some (v_r (some o1)), l2, some (v_i x3)] (r.toList ++ []) h' Q) := by
  unfold ex_
  refine (am_Y_go 3 (ok := []) (g := (46, [some (v_r (some 47)), some (v_r (some o1)), l2, some (v_i x3)], [v_i x3, v_r (some o1), v_r (some 47)], h)) rfl).trans ?_
  all_goals exact ((am_Y_call (j := 68) (na := 3) (ci := 5) (fl := 0) rfl rfl rfl).trans (cj_d ⟨⟨Nat.le_of_ble_eq_true rfl, Nat.le_of_ble_eq_true rfl, Nat.le_of_ble_eq_true rfl, rfl⟩, Or.inr (Or.inr (show (5 : Nat) < 20 ∧ am_is h (some 47) 5 from ⟨by decide, (la_is Lh (o := 47) rfl)⟩))⟩ Iff.rfl))

theorem b_X5_build_35 {d : Nat} {Q : Option am_V → am_H → Prop} (h : am_H) (x3 : Int32) (l0 l1 l2 : Option am_V) : ex_ d 70 35 [l0, l1, l2, some (v_i x3)] [] h Q ↔ ex_ d 70 10 [l0, l1, l2, some (v_i (x3 + (1 : Int32)))] [] h Q := by
  unfold ex_
  refine (am_Y_go 3 (ok := []) (g := (10, [l0, l1, l2, some (v_i (x3 + (1 : Int32)))], [], h)) rfl).trans ?_
  all_goals exact Iff.rfl

theorem b_X5_build_58 {d : Nat} {Q : Option am_V → am_H → Prop} (h : am_H) (x3 : Int32) (l0 l1 l2 : Option am_V) : ex_ d 70 58 [l0, l1, l2, some (v_i x3)] [] h Q ↔ ex_ d 70 10 [l0, l1, l2, some (v_i (x3 + (1 : Int32)))] [] h Q := by
  unfold ex_
  refine (am_Y_go 2 (ok := []) (g := (10, [l0, l1, l2, some (v_i (x3 + (1 : Int32)))], [], h)) rfl).trans ?_
  all_goals exact Iff.rfl

theorem b_X5_build_49 {d : Nat} {Q : Option am_V → am_H → Prop} (h : am_H) (x3 : Int32) (l0 l1 l2 : Option am_V) : ex_ d 70 49 [l0, l1, l2, some (v_i x3)] [] h Q ↔ ex_ d 70 10 [l0, l1, l2, some (v_i (x3 + (1 : Int32)))] [] h Q := by
  unfold ex_
  refine (am_Y_go 3 (ok := []) (g := (10, [l0, l1, l2, some (v_i (x3 + (1 : Int32)))], [], h)) rfl).trans ?_
  all_goals exact Iff.rfl
