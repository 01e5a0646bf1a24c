theorem b_X2_copyFrom_0 {d : Nat} {Q : Option am_V → am_H → Prop} (h : am_H) (o0 : Nat) (o1 : Nat) (F_o0 : y_House h o0) (F_o1 : y_House h o1) : ex_ (d + 1) 43 0 [some (v_r (some o0)), some (v_r (some o1))] [] h Q ↔ ex_ d 28 0 [some (v_r (some (o0 + 1))), some (v_r (some (o1 + 1)))] [] h (fun r h' => ex_ (d + 1) 43 11 [some (v_r (some o0)), some (v_r (some o1))] (r.toList ++ []) h' Q) := by
  have e0 : h_r h o0 0 = some (o0 + 1) := F_o0.2 (0, 0, 1) (by decide)
  have e1 : h_r h o1 0 = some (o1 + 1) := F_o1.2 (0, 0, 1) (by decide)
  unfold ex_
  refine (am_Y_go 4 (ok := [am_is h (some o0) 2, am_is h (some o1) 2]) (g := (8, [some (v_r (some o0)), some (v_r (some o1))], [v_r ((h_r h o1 0)), v_r ((h_r h o0 0))], h)) rfl).trans ?_
  simp only [e0, e1, Option.getD_some, am_all]
  all_goals exact cj_d (lr_is (F_o0.1 0 rfl)) (cj_d (lr_is (F_o1.1 0 rfl)) (((am_Y_call (j := 28) (na := 2) (ci := 1) (fl := 0) rfl rfl rfl).trans (cj_d ⟨⟨Nat.le_of_ble_eq_true rfl, Nat.le_of_ble_eq_true rfl, Nat.le_of_ble_eq_true rfl, rfl⟩, Or.inr (Or.inr (show (1 : Nat) < 20 ∧ am_is h (some (o0 + 1)) 1 from ⟨by decide, (lr_is (F_o0.1 1 rfl))⟩))⟩ Iff.rfl))))

theorem b_X2_copyFrom_11 {d : Nat} {Q : Option am_V → am_H → Prop} (h : am_H) (o0 : Nat) (o1 : Nat) (F_o0 : y_House h o0) (F_o1 : y_House h o1) : ex_ d 43 11 [some (v_r (some o0)), some (v_r (some o1))] [] h Q ↔ Q (none) (p_i (p_r (p_r h o0 1 (h_r h o1 1)) o0 2 (h_r (p_r h o0 1 (h_r h o1 1)) o1 2)) o0 3 (h_i h o1 3)) := by
  unfold ex_
  refine (am_Y_go 12 (ok := [am_is h (some o1) 2, am_is h (some o0) 2, am_is h (some o1) 2, am_is h (some o0) 2, am_is h (some o1) 2, am_is h (some o0) 2]) (g := (35, [some (v_r (some o0)), some (v_r (some o1))], [], (p_i (p_r (p_r h o0 1 (h_r h o1 1)) o0 2 (h_r (p_r h o0 1 (h_r h o1 1)) o1 2)) o0 3 (h_i h o1 3)))) rfl).trans ?_
  simp only [am_all]
  all_goals exact cj_d (lr_is (F_o1.1 0 rfl)) (cj_d (lr_is (F_o0.1 0 rfl)) (cj_d (lr_is (F_o1.1 0 rfl)) (cj_d (lr_is (F_o0.1 0 rfl)) (cj_d (lr_is (F_o1.1 0 rfl)) (cj_d (lr_is (F_o0.1 0 rfl)) (((am_Y_ret rfl rfl rfl).trans (am_rz rfl))))))))
