theorem b_X7_forget_0 {d : Nat} {Q : Option am_V → am_H → Prop} (h : am_H) (Lh : Lay h) : ex_ d 76 0 [some (v_r (some 25))] [] h Q ↔ Q (none) (p_i h 25 2 (0 : Int32)) := by
  unfold ex_
  refine (am_Y_go 3 (ok := [am_is h (some 25) 7]) (g := (5, [some (v_r (some 25))], [], (p_i h 25 2 (0 : Int32)))) rfl).trans ?_
  simp only [am_all]
  all_goals exact cj_d (la_is Lh (o := 25) rfl) (((am_Y_ret rfl rfl rfl).trans (am_rz rfl)))

theorem b_X7_push_0 {d : Nat} {Q : Option am_V → am_H → Prop} (h : am_H) (l1 l2 : Option am_V) (Lh : Lay h) : ex_ d 77 0 [some (v_r (some 25)), l1, l2] [] h Q ↔ if (10 : Int32) ≤ (h_i h 25 2) then ex_ d 77 35 [some (v_r (some 25)), l1, some (v_i (((h_i h 25 1) + (h_i h 25 2)) - ((h_i h 25 1) + (h_i h 25 2)) / (10 : Int32) * (10 : Int32)))] [] h Q else ex_ d 77 22 [some (v_r (some 25)), l1, some (v_i (((h_i h 25 1) + (h_i h 25 2)) - ((h_i h 25 1) + (h_i h 25 2)) / (10 : Int32) * (10 : Int32)))] [] h Q := by
  unfold ex_
  refine (am_Y_go 12 (ok := [am_is h (some 25) 7, am_is h (some 25) 7, ¬ (10 : Int32) = 0, am_is h (some 25) 7]) (g := (if (10 : Int32) ≤ (h_i h 25 2) then 35 else 22, [some (v_r (some 25)), l1, some (v_i (((h_i h 25 1) + (h_i h 25 2)) - ((h_i h 25 1) + (h_i h 25 2)) / (10 : Int32) * (10 : Int32)))], [], h)) rfl).trans ?_
  simp only [am_all]
  all_goals exact cj_d (la_is Lh (o := 25) rfl) (cj_d (la_is Lh (o := 25) rfl) (cj_d (by decide) (cj_d (la_is Lh (o := 25) rfl) (am_Y_if))))

theorem b_X7_push_35 {d : Nat} {Q : Option am_V → am_H → Prop} (h : am_H) (x2 : Int32) (l1 : Option am_V) (Lh : Lay h) : ex_ d 77 35 [some (v_r (some 25)), l1, some (v_i x2)] [] h Q ↔ vp_in x2 10 ∧ (if (h_r h 26 (Int32.toNatClampNeg x2)) = none then ex_ d 77 57 [some (v_r (some 25)), l1, some (v_i x2)] [] (p_i h 25 1 (((h_i h 25 1) + (1 : Int32)) - ((h_i h 25 1) + (1 : Int32)) / (10 : Int32) * (10 : Int32))) Q else ex_ d 77 70 [some (v_r (some 25)), l1, some (v_i x2)] [] (p_i h 25 1 (((h_i h 25 1) + (1 : Int32)) - ((h_i h 25 1) + (1 : Int32)) / (10 : Int32) * (10 : Int32))) Q) := by
  have e0 : h_r h 25 0 = some 26 := la_r Lh (q := (25, 0, 26)) (by decide)
  unfold ex_
  refine (am_Y_go 13 (ok := [am_is h (some 25) 7, ¬ (10 : Int32) = 0, am_is h (some 25) 7, am_is h (some 25) 7, am_ar h ((h_r h 25 0)) 31 x2]) (g := (if (h_r h ((h_r h 25 0).getD 0) (Int32.toNatClampNeg x2)) = none then 57 else 70, [some (v_r (some 25)), l1, some (v_i x2)], [], (p_i h 25 1 (((h_i h 25 1) + (1 : Int32)) - ((h_i h 25 1) + (1 : Int32)) / (10 : Int32) * (10 : Int32))))) rfl).trans ?_
  simp only [e0, Option.getD_some, am_all]
  all_goals exact cj_d (la_is Lh (o := 25) rfl) (cj_d (by decide) (cj_d (la_is Lh (o := 25) rfl) (cj_d (la_is Lh (o := 25) rfl) (cj_k (la_ar Lh (o := 26) rfl) (am_Y_if)))))

theorem b_X7_push_22 {d : Nat} {Q : Option am_V → am_H → Prop} (h : am_H) (x2 : Int32) (l1 : Option am_V) (Lh : Lay h) : ex_ d 77 22 [some (v_r (some 25)), l1, some (v_i x2)] [] h Q ↔ vp_in x2 10 ∧ (if (h_r h 26 (Int32.toNatClampNeg x2)) = none then ex_ d 77 57 [some (v_r (some 25)), l1, some (v_i x2)] [] (p_i h 25 2 ((h_i h 25 2) + (1 : Int32))) Q else ex_ d 77 70 [some (v_r (some 25)), l1, some (v_i x2)] [] (p_i h 25 2 ((h_i h 25 2) + (1 : Int32))) Q) := by
  have e0 : h_r h 25 0 = some 26 := la_r Lh (q := (25, 0, 26)) (by decide)
  unfold ex_
  refine (am_Y_go 12 (ok := [am_is h (some 25) 7, am_is h (some 25) 7, am_is h (some 25) 7, am_ar h ((h_r h 25 0)) 31 x2]) (g := (if (h_r h ((h_r h 25 0).getD 0) (Int32.toNatClampNeg x2)) = none then 57 else 70, [some (v_r (some 25)), l1, some (v_i x2)], [], (p_i h 25 2 ((h_i h 25 2) + (1 : Int32))))) rfl).trans ?_
  simp only [e0, Option.getD_some, am_all]
  all_goals exact cj_d (la_is Lh (o := 25) rfl) (cj_d (la_is Lh (o := 25) rfl) (cj_d (la_is Lh (o := 25) rfl) (cj_k (la_ar Lh (o := 26) rfl) (am_Y_if))))

theorem b_X7_push_57 {d : Nat} {Q : Option am_V → am_H → Prop} (h : am_H) (x2 : Int32) (l1 : Option am_V) (Lh : Lay h) : ex_ (d + 1) 77 57 [some (v_r (some 25)), l1, some (v_i x2)] [] h Q ↔ ex_ d 26 0 [some (v_r (some (h_n h)))] [] (p_n h 1 5) (fun r h' => ex_ (d + 1) 77 69 [some (v_r (some 25)), l1, some (v_i x2)] (r.toList ++ [v_r (some (h_n h)), v_i x2, v_r (some 26)]) h' Q) := by
  have e0 : h_r h 25 0 = some 26 := la_r Lh (q := (25, 0, 26)) (by decide)
  unfold ex_
  refine (am_Y_go 5 (ok := [am_is h (some 25) 7]) (g := (66, [some (v_r (some 25)), l1, some (v_i x2)], [v_r (some (h_n h)), v_r (some (h_n h)), v_i x2, v_r ((h_r h 25 0))], (p_n h 1 5))) rfl).trans ?_
  simp only [e0, Option.getD_some, am_all]
  all_goals exact cj_d (la_is Lh (o := 25) rfl) (((am_Y_call (j := 26) (na := 1) (ci := 1) (fl := 5) rfl rfl rfl).trans (cj_d ⟨⟨Nat.le_of_ble_eq_true rfl, Nat.le_of_ble_eq_true rfl, Nat.le_of_ble_eq_true rfl, rfl⟩, Or.inr (Or.inr (show (1 : Nat) < 20 ∧ am_is (p_n h 1 5) (some (h_n h)) 1 from ⟨by decide, pn_is⟩))⟩ Iff.rfl)))

theorem b_X7_push_70 {d : Nat} {Q : Option am_V → am_H → Prop} (h : am_H) (x2 : Int32) (o1 : Nat) (Lh : Lay h) (F_o1 : y_Facts h o1) : ex_ d 77 70 [some (v_r (some 25)), some (v_r (some o1)), some (v_i x2)] [] h Q ↔ vp_in x2 10 ∧ ex_ d 77 77 [some (v_r (some 25)), some (v_r (some o1)), some (v_i x2)] [v_r (some o1), v_r (h_r h 26 (Int32.toNatClampNeg x2))] h Q := by
  have e0 : h_r h 25 0 = some 26 := la_r Lh (q := (25, 0, 26)) (by decide)
  unfold ex_
  refine (am_Y_go 5 (ok := [am_is h (some 25) 7, am_ar h ((h_r h 25 0)) 31 x2]) (g := (77, [some (v_r (some 25)), some (v_r (some o1)), some (v_i x2)], [v_r (some o1), v_r (h_r h ((h_r h 25 0).getD 0) (Int32.toNatClampNeg x2))], h)) rfl).trans ?_
  simp only [e0, Option.getD_some, am_all]
  all_goals exact cj_d (la_is Lh (o := 25) rfl) (cj_k (la_ar Lh (o := 26) rfl) (Iff.rfl))

theorem b_X7_push_69 {d : Nat} {Q : Option am_V → am_H → Prop} (h : am_H) (t0 : Nat) (s1 : Int32) (t2 : Nat) (x2 : Int32) (l1 : Option am_V) (Lh : Lay h) (F_t0 : y_Facts h t0) {n_t2 : Nat} (A_t2 : y_arr h t2 31 n_t2) : ex_ d 77 69 [some (v_r (some 25)), l1, some (v_i x2)] [v_r (some t0), v_i s1, v_r (some t2)] h Q ↔ am_is h (some t0) 1 ∧ vp_in s1 n_t2 ∧ ex_ d 77 75 [some (v_r (some 25)), l1, some (v_i x2)] [v_i x2, v_r (h_r (p_r h t2 (Int32.toNatClampNeg s1) (some t0)) 25 0)] (p_r h t2 (Int32.toNatClampNeg s1) (some t0)) Q := by
  unfold ex_
  refine (am_Y_go 4 (ok := [am_is h (some t0) 1, am_ar h (some t2) 31 s1, am_is h (some 25) 7]) (g := (75, [some (v_r (some 25)), l1, some (v_i x2)], [v_i x2, v_r (h_r (p_r h t2 (Int32.toNatClampNeg s1) (some t0)) 25 0)], (p_r h t2 (Int32.toNatClampNeg s1) (some t0)))) rfl).trans ?_
  simp only [am_all]
  all_goals exact cj_k Iff.rfl (cj_k (lb_ar A_t2) (cj_d (la_is Lh (o := 25) rfl) (Iff.rfl)))

theorem b_X7_push_77 {d : Nat} {Q : Option am_V → am_H → Prop} (h : am_H) (t0 : Nat) (t1 : Nat) (l0 l1 l2 : Option am_V) (F_t0 : y_Facts h t0) (F_t1 : y_Facts h t1) : ex_ (d + 1) 77 77 [l0, l1, l2] [v_r (some t0), v_r (some t1)] h Q ↔ ex_ d 28 0 [some (v_r (some t1)), some (v_r (some t0))] [] h (fun r h' => ex_ (d + 1) 77 80 [l0, l1, l2] (r.toList ++ []) h' Q) := by
  unfold ex_
  exact ((am_Y_call (j := 28) (na := 2) (ci := 1) (fl := 0) rfl rfl rfl).trans (cj_d ⟨⟨Nat.le_of_ble_eq_true rfl, Nat.le_of_ble_eq_true rfl, Nat.le_of_ble_eq_true rfl, rfl⟩, Or.inr (Or.inr (show (1 : Nat) < 20 ∧ am_is h (some t1) 1 from ⟨by decide, (lr_is (F_t1.1 0 rfl))⟩))⟩ Iff.rfl))

theorem b_X7_push_75 {d : Nat} {Q : Option am_V → am_H → Prop} (h : am_H) (s0 : Int32) (t1 : Nat) (o1 : Nat) (l0 l2 : Option am_V) {n_t1 : Nat} (A_t1 : y_arr h t1 31 n_t1) (F_o1 : y_Facts h o1) : ex_ d 77 75 [l0, some (v_r (some o1)), l2] [v_i s0, v_r (some t1)] h Q ↔ vp_in s0 n_t1 ∧ ex_ d 77 77 [l0, some (v_r (some o1)), l2] [v_r (some o1), v_r (h_r h t1 (Int32.toNatClampNeg s0))] h Q := by
  unfold ex_
  refine (am_Y_go 2 (ok := [am_ar h (some t1) 31 s0]) (g := (77, [l0, some (v_r (some o1)), l2], [v_r (some o1), v_r (h_r h t1 (Int32.toNatClampNeg s0))], h)) rfl).trans ?_
  simp only [am_all]
  all_goals exact cj_k (lb_ar A_t1) (Iff.rfl)

theorem b_X7_push_80 {d : Nat} {Q : Option am_V → am_H → Prop} (h : am_H) (l0 l1 l2 : Option am_V) : ex_ d 77 80 [l0, l1, l2] [] h Q ↔ Q (none) h := by
  unfold ex_
  exact ((am_Y_ret rfl rfl rfl).trans (am_rz rfl))

theorem b_X7_goBack_0 {d : Nat} {Q : Option am_V → am_H → Prop} (h : am_H) (x1 : Int32) (l0 l2 l3 : Option am_V) : ex_ d 78 0 [l0, some (v_i x1), l2, l3] [] h Q ↔ if x1 < (1 : Int32) then ex_ d 78 13 [l0, some (v_i x1), l2, l3] [] h Q else ex_ d 78 5 [l0, some (v_i x1), l2, l3] [] h Q := by
  unfold ex_
  refine (am_Y_go 3 (ok := []) (g := (if x1 < (1 : Int32) then 13 else 5, [l0, some (v_i x1), l2, l3], [], h)) rfl).trans ?_
  all_goals exact am_Y_if

theorem b_X7_goBack_13 {d : Nat} {Q : Option am_V → am_H → Prop} (h : am_H) (l0 l1 l2 l3 : Option am_V) : ex_ d 78 13 [l0, l1, l2, l3] [] h Q ↔ Q (none) h := by
  unfold ex_
  exact ((am_Y_ret rfl rfl rfl).trans (am_rz rfl))

theorem b_X7_goBack_5 {d : Nat} {Q : Option am_V → am_H → Prop} (h : am_H) (x1 : Int32) (l2 l3 : Option am_V) (Lh : Lay h) : ex_ d 78 5 [some (v_r (some 25)), some (v_i x1), l2, l3] [] h Q ↔ if x1 ≤ (h_i h 25 2) then ex_ d 78 14 [some (v_r (some 25)), some (v_i x1), l2, l3] [] h Q else ex_ d 78 13 [some (v_r (some 25)), some (v_i x1), l2, l3] [] h Q := by
  unfold ex_
  refine (am_Y_go 4 (ok := [am_is h (some 25) 7]) (g := (if x1 ≤ (h_i h 25 2) then 14 else 13, [some (v_r (some 25)), some (v_i x1), l2, l3], [], h)) rfl).trans ?_
  simp only [am_all]
  all_goals exact cj_d (la_is Lh (o := 25) rfl) (am_Y_if)

theorem b_X7_goBack_14 {d : Nat} {Q : Option am_V → am_H → Prop} (h : am_H) (x1 : Int32) (l2 l3 : Option am_V) (Lh : Lay h) : ex_ d 78 14 [some (v_r (some 25)), some (v_i x1), l2, l3] [] h Q ↔ vp_in (((h_i (p_i h 25 2 ((h_i h 25 2) - x1)) 25 1) + (h_i (p_i h 25 2 ((h_i h 25 2) - x1)) 25 2)) - ((h_i (p_i h 25 2 ((h_i h 25 2) - x1)) 25 1) + (h_i (p_i h 25 2 ((h_i h 25 2) - x1)) 25 2)) / (10 : Int32) * (10 : Int32)) 10 ∧ (if (h_r h 26 (Int32.toNatClampNeg (((h_i (p_i h 25 2 ((h_i h 25 2) - x1)) 25 1) + (h_i (p_i h 25 2 ((h_i h 25 2) - x1)) 25 2)) - ((h_i (p_i h 25 2 ((h_i h 25 2) - x1)) 25 1) + (h_i (p_i h 25 2 ((h_i h 25 2) - x1)) 25 2)) / (10 : Int32) * (10 : Int32)))) = none then ex_ d 78 51 [some (v_r (some 25)), some (v_i x1), l2, some (v_r (h_r h 26 (Int32.toNatClampNeg (((h_i (p_i h 25 2 ((h_i h 25 2) - x1)) 25 1) + (h_i (p_i h 25 2 ((h_i h 25 2) - x1)) 25 2)) - ((h_i (p_i h 25 2 ((h_i h 25 2) - x1)) 25 1) + (h_i (p_i h 25 2 ((h_i h 25 2) - x1)) 25 2)) / (10 : Int32) * (10 : Int32)))))] [] (p_i h 25 2 ((h_i h 25 2) - x1)) Q else ex_ d 78 46 [some (v_r (some 25)), some (v_i x1), l2, some (v_r (h_r h 26 (Int32.toNatClampNeg (((h_i (p_i h 25 2 ((h_i h 25 2) - x1)) 25 1) + (h_i (p_i h 25 2 ((h_i h 25 2) - x1)) 25 2)) - ((h_i (p_i h 25 2 ((h_i h 25 2) - x1)) 25 1) + (h_i (p_i h 25 2 ((h_i h 25 2) - x1)) 25 2)) / (10 : Int32) * (10 : Int32)))))] [] (p_i h 25 2 ((h_i h 25 2) - x1)) Q) := by
  have e0 : h_r h 25 0 = some 26 := la_r Lh (q := (25, 0, 26)) (by decide)
  unfold ex_
  refine (am_Y_go 19 (ok := [am_is h (some 25) 7, am_is h (some 25) 7, am_is h (some 25) 7, am_is h (some 25) 7, am_is h (some 25) 7, ¬ (10 : Int32) = 0, am_ar h ((h_r h 25 0)) 31 (((h_i (p_i h 25 2 ((h_i h 25 2) - x1)) 25 1) + (h_i (p_i h 25 2 ((h_i h 25 2) - x1)) 25 2)) - ((h_i (p_i h 25 2 ((h_i h 25 2) - x1)) 25 1) + (h_i (p_i h 25 2 ((h_i h 25 2) - x1)) 25 2)) / (10 : Int32) * (10 : Int32))]) (g := (if (h_r h ((h_r h 25 0).getD 0) (Int32.toNatClampNeg (((h_i (p_i h 25 2 ((h_i h 25 2) - x1)) 25 1) + (h_i (p_i h 25 2 ((h_i h 25 2) - x1)) 25 2)) - ((h_i (p_i h 25 2 ((h_i h 25 2) - x1)) 25 1) + (h_i (p_i h 25 2 ((h_i h 25 2) - x1)) 25 2)) / (10 : Int32) * (10 : Int32)))) = none then 51 else 46, [some (v_r (some 25)), some (v_i x1), l2, some (v_r (h_r h ((h_r h 25 0).getD 0) (Int32.toNatClampNeg (((h_i (p_i h 25 2 ((h_i h 25 2) - x1)) 25 1) + (h_i (p_i h 25 2 ((h_i h 25 2) - x1)) 25 2)) - ((h_i (p_i h 25 2 ((h_i h 25 2) - x1)) 25 1) + (h_i (p_i h 25 2 ((h_i h 25 2) - x1)) 25 2)) / (10 : Int32) * (10 : Int32)))))], [], (p_i h 25 2 ((h_i h 25 2) - x1)))) rfl).trans ?_
  simp only [e0, Option.getD_some, am_all]
  all_goals exact cj_d (la_is Lh (o := 25) rfl) (cj_d (la_is Lh (o := 25) rfl) (cj_d (la_is Lh (o := 25) rfl) (cj_d (la_is Lh (o := 25) rfl) (cj_d (la_is Lh (o := 25) rfl) (cj_d (by decide) (cj_k (la_ar Lh (o := 26) rfl) (am_Y_if)))))))

theorem b_X7_goBack_51 {d : Nat} {Q : Option am_V → am_H → Prop} (h : am_H) (l0 l1 l2 l3 : Option am_V) : ex_ d 78 51 [l0, l1, l2, l3] [] h Q ↔ Q (none) h := by
  unfold ex_
  exact ((am_Y_ret rfl rfl rfl).trans (am_rz rfl))

theorem b_X7_goBack_46 {d : Nat} {Q : Option am_V → am_H → Prop} (h : am_H) (o2 : Nat) (x3 : Option Nat) (l0 l1 : Option am_V) (F_o2 : y_Facts h o2) : ex_ (d + 1) 78 46 [l0, l1, some (v_r (some o2)), some (v_r x3)] [] h Q ↔ ex_ d 28 0 [some (v_r (some o2)), some (v_r x3)] [] h (fun r h' => ex_ (d + 1) 78 51 [l0, l1, some (v_r (some o2)), some (v_r x3)] (r.toList ++ []) h' Q) := by
  unfold ex_
  refine (am_Y_go 2 (ok := []) (g := (48, [l0, l1, some (v_r (some o2)), some (v_r x3)], [v_r x3, v_r (some o2)], h)) rfl).trans ?_
  all_goals exact ((am_Y_call (j := 28) (na := 2) (ci := 1) (fl := 0) rfl rfl rfl).trans (cj_d ⟨⟨Nat.le_of_ble_eq_true rfl, Nat.le_of_ble_eq_true rfl, Nat.le_of_ble_eq_true rfl, rfl⟩, Or.inr (Or.inr (show (1 : Nat) < 20 ∧ am_is h (some o2) 1 from ⟨by decide, (lr_is (F_o2.1 0 rfl))⟩))⟩ Iff.rfl))
