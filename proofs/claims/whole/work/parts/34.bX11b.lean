theorem b_X11_rank_0 {d : Nat} {Q : Option am_V → am_H → Prop} (h : am_H) (x1 : Int32) (Lh : Lay h) : ex_ (d + 1) 195 0 [some (v_r (some 0)), some (v_i x1)] [] h Q ↔ ex_ d 3 0 [some (v_r (some 11)), some (v_i x1)] [] h (fun r h' => ex_ (d + 1) 195 11 [some (v_r (some 0)), some (v_i x1)] (r.toList ++ []) h' Q) := by
  have e0 : h_r h 0 5 = some 10 := la_r Lh (q := (0, 5, 10)) (by decide)
  have e1 : h_r h 10 0 = some 11 := la_r Lh (q := (10, 0, 11)) (by decide)
  unfold ex_
  refine (am_Y_go 4 (ok := [am_is h (some 0) 11, am_is h ((h_r h 0 5)) 2]) (g := (8, [some (v_r (some 0)), some (v_i x1)], [v_i x1, v_r ((h_r h ((h_r h 0 5).getD 0) 0))], h)) rfl).trans ?_
  simp only [e0, e1, Option.getD_some, am_all]
  all_goals exact cj_d (la_is Lh (o := 0) rfl) (cj_d (la_is Lh (o := 10) rfl) (((am_Y_call (j := 3) (na := 2) (ci := 1) (fl := 0) rfl rfl rfl).trans (cj_d ⟨⟨Nat.le_of_ble_eq_true rfl, Nat.le_of_ble_eq_true rfl, Nat.le_of_ble_eq_true rfl, rfl⟩, Or.inr (Or.inr (show (1 : Nat) < 20 ∧ am_is h (some 11) 1 from ⟨by decide, (la_is Lh (o := 11) rfl)⟩))⟩ Iff.rfl))))

theorem b_X11_rank_11 {d : Nat} {Q : Option am_V → am_H → Prop} (h : am_H) (s0 : Int32) (l0 l1 : Option am_V) : ex_ d 195 11 [l0, l1] [v_i s0] h Q ↔ if ¬ s0 = 0 then ex_ d 195 17 [l0, l1] [] h Q else ex_ d 195 14 [l0, l1] [] h Q := by
  unfold ex_
  refine (am_Y_go 1 (ok := []) (g := (if ¬ s0 = 0 then 17 else 14, [l0, l1], [], h)) rfl).trans ?_
  all_goals exact am_Y_if

theorem b_X11_rank_17 {d : Nat} {Q : Option am_V → am_H → Prop} (h : am_H) (x1 : Int32) (Lh : Lay h) : ex_ (d + 1) 195 17 [some (v_r (some 0)), some (v_i x1)] [] h Q ↔ ex_ d 47 0 [some (v_r (some 15)), some (v_i x1)] [] h (fun r h' => ex_ (d + 1) 195 25 [some (v_r (some 0)), some (v_i x1)] (r.toList ++ []) h' Q) := by
  have e0 : h_r h 0 6 = some 15 := la_r Lh (q := (0, 6, 15)) (by decide)
  unfold ex_
  refine (am_Y_go 3 (ok := [am_is h (some 0) 11]) (g := (22, [some (v_r (some 0)), some (v_i x1)], [v_i x1, v_r ((h_r h 0 6))], h)) rfl).trans ?_
  simp only [e0, Option.getD_some, am_all]
  all_goals exact cj_d (la_is Lh (o := 0) rfl) (((am_Y_call (j := 47) (na := 2) (ci := 6) (fl := 0) rfl rfl rfl).trans (cj_d ⟨⟨Nat.le_of_ble_eq_true rfl, Nat.le_of_ble_eq_true rfl, Nat.le_of_ble_eq_true rfl, rfl⟩, Or.inr (Or.inr (show (6 : Nat) < 20 ∧ am_is h (some 15) 6 from ⟨by decide, (la_is Lh (o := 15) rfl)⟩))⟩ Iff.rfl)))

theorem b_X11_rank_14 {d : Nat} {Q : Option am_V → am_H → Prop} (h : am_H) (l0 l1 : Option am_V) : ex_ d 195 14 [l0, l1] [] h Q ↔ Q (some (v_i (-2 : Int32))) h := by
  unfold ex_
  refine (am_Y_go 1 (ok := []) (g := (16, [l0, l1], [v_i (-2 : Int32)], h)) rfl).trans ?_
  all_goals exact ((am_Y_ret rfl rfl rfl).trans (am_r0))

theorem b_X11_rank_25 {d : Nat} {Q : Option am_V → am_H → Prop} (h : am_H) (s0 : Int32) (l0 l1 : Option am_V) : ex_ d 195 25 [l0, l1] [v_i s0] h Q ↔ if ¬ s0 = 0 then ex_ d 195 30 [l0, l1] [] h Q else ex_ d 195 28 [l0, l1] [] h Q := by
  unfold ex_
  refine (am_Y_go 1 (ok := []) (g := (if ¬ s0 = 0 then 30 else 28, [l0, l1], [], h)) rfl).trans ?_
  all_goals exact am_Y_if

theorem b_X11_rank_30 {d : Nat} {Q : Option am_V → am_H → Prop} (h : am_H) (x1 : Int32) (Lh : Lay h) : ex_ (d + 1) 195 30 [some (v_r (some 0)), some (v_i x1)] [] h Q ↔ ex_ d 12 0 [some (v_r (some 41)), some (v_i x1), none, none, none, none] [] h (fun r h' => ex_ (d + 1) 195 38 [some (v_r (some 0)), some (v_i x1)] (r.toList ++ []) h' Q) := by
  have e0 : h_r h 0 10 = some 41 := la_r Lh (q := (0, 10, 41)) (by decide)
  unfold ex_
  refine (am_Y_go 3 (ok := [am_is h (some 0) 11]) (g := (35, [some (v_r (some 0)), some (v_i x1)], [v_i x1, v_r ((h_r h 0 10))], h)) rfl).trans ?_
  simp only [e0, Option.getD_some, am_all]
  all_goals exact cj_d (la_is Lh (o := 0) rfl) (((am_Y_call (j := 12) (na := 2) (ci := 0) (fl := 0) rfl rfl rfl).trans (cj_d ⟨⟨Nat.le_of_ble_eq_true rfl, Nat.le_of_ble_eq_true rfl, Nat.le_of_ble_eq_true rfl, rfl⟩, Or.inr (Or.inr (show (0 : Nat) < 20 ∧ am_is h (some 41) 0 from ⟨by decide, (la_is Lh (o := 41) rfl)⟩))⟩ Iff.rfl)))

theorem b_X11_rank_28 {d : Nat} {Q : Option am_V → am_H → Prop} (h : am_H) (l0 l1 : Option am_V) : ex_ d 195 28 [l0, l1] [] h Q ↔ Q (some (v_i (-1 : Int32))) h := by
  unfold ex_
  refine (am_Y_go 1 (ok := []) (g := (29, [l0, l1], [v_i (-1 : Int32)], h)) rfl).trans ?_
  all_goals exact ((am_Y_ret rfl rfl rfl).trans (am_r0))

theorem b_X11_rank_38 {d : Nat} {Q : Option am_V → am_H → Prop} (h : am_H) (x1 : Int32) (Lh : Lay h) : ex_ (d + 1) 195 38 [some (v_r (some 0)), some (v_i x1)] [] h Q ↔ ex_ d 25 0 [some (v_r (some 41)), some (v_i x1), none, none, none, none] [] h (fun r h' => ex_ (d + 1) 195 46 [some (v_r (some 0)), some (v_i x1)] (r.toList ++ []) h' Q) := by
  have e0 : h_r h 0 10 = some 41 := la_r Lh (q := (0, 10, 41)) (by decide)
  unfold ex_
  refine (am_Y_go 3 (ok := [am_is h (some 0) 11]) (g := (43, [some (v_r (some 0)), some (v_i x1)], [v_i x1, v_r ((h_r h 0 10))], h)) rfl).trans ?_
  simp only [e0, Option.getD_some, am_all]
  all_goals exact cj_d (la_is Lh (o := 0) rfl) (((am_Y_call (j := 25) (na := 2) (ci := 0) (fl := 0) rfl rfl rfl).trans (cj_d ⟨⟨Nat.le_of_ble_eq_true rfl, Nat.le_of_ble_eq_true rfl, Nat.le_of_ble_eq_true rfl, rfl⟩, Or.inr (Or.inr (show (0 : Nat) < 20 ∧ am_is h (some 41) 0 from ⟨by decide, (la_is Lh (o := 41) rfl)⟩))⟩ Iff.rfl)))

theorem b_X11_rank_46 {d : Nat} {Q : Option am_V → am_H → Prop} (h : am_H) (s0 : Int32) (l0 l1 : Option am_V) : ex_ d 195 46 [l0, l1] [v_i s0] h Q ↔ Q (some (v_i s0)) h := by
  unfold ex_
  exact ((am_Y_ret rfl rfl rfl).trans (am_r0))

theorem b_X11_isOldKind_0 {d : Nat} {Q : Option am_V → am_H → Prop} (h : am_H) (x0 : Int32) : ex_ d 196 0 [some (v_i x0)] [] h Q ↔ if x0 < (1 : Int32) then ex_ d 196 14 [some (v_i x0)] [] h Q else ex_ d 196 5 [some (v_i x0)] [] h Q := by
  unfold ex_
  refine (am_Y_go 3 (ok := []) (g := (if x0 < (1 : Int32) then 14 else 5, [some (v_i x0)], [], h)) rfl).trans ?_
  all_goals exact am_Y_if

theorem b_X11_isOldKind_14 {d : Nat} {Q : Option am_V → am_H → Prop} (h : am_H) (l0 : Option am_V) : ex_ d 196 14 [l0] [] h Q ↔ Q (some (v_i (0 : Int32))) h := by
  unfold ex_
  refine (am_Y_go 1 (ok := []) (g := (15, [l0], [v_i (0 : Int32)], h)) rfl).trans ?_
  all_goals exact ((am_Y_ret rfl rfl rfl).trans (am_rz (show am_fit 1 0 from Or.inl rfl)))

theorem b_X11_isOldKind_5 {d : Nat} {Q : Option am_V → am_H → Prop} (h : am_H) (x0 : Int32) : ex_ d 196 5 [some (v_i x0)] [] h Q ↔ if (3 : Int32) < x0 then ex_ d 196 14 [some (v_i x0)] [] h Q else ex_ d 196 10 [some (v_i x0)] [] h Q := by
  unfold ex_
  refine (am_Y_go 3 (ok := []) (g := (if (3 : Int32) < x0 then 14 else 10, [some (v_i x0)], [], h)) rfl).trans ?_
  all_goals exact am_Y_if

theorem b_X11_isOldKind_10 {d : Nat} {Q : Option am_V → am_H → Prop} (h : am_H) (l0 : Option am_V) : ex_ d 196 10 [l0] [] h Q ↔ Q (some (v_i (1 : Int32))) h := by
  unfold ex_
  refine (am_Y_go 2 (ok := []) (g := (15, [l0], [v_i (1 : Int32)], h)) rfl).trans ?_
  all_goals exact ((am_Y_ret rfl rfl rfl).trans (am_rz (show am_fit 1 1 from Or.inr rfl)))

theorem b_X11_old_0 {d : Nat} {Q : Option am_V → am_H → Prop} (h : am_H) (x1 : Int32) (l2 l3 : Option am_V) (Lh : Lay h) : ex_ (d + 1) 197 0 [some (v_r (some 0)), some (v_i x1), l2, l3] [] h Q ↔ ex_ d 3 0 [some (v_r (some 11)), some (v_i x1)] [] h (fun r h' => ex_ (d + 1) 197 11 [some (v_r (some 0)), some (v_i x1), l2, l3] (r.toList ++ []) h' Q) := by
  have e0 : h_r h 0 5 = some 10 := la_r Lh (q := (0, 5, 10)) (by decide)
  have e1 : h_r h 10 0 = some 11 := la_r Lh (q := (10, 0, 11)) (by decide)
  unfold ex_
  refine (am_Y_go 4 (ok := [am_is h (some 0) 11, am_is h ((h_r h 0 5)) 2]) (g := (8, [some (v_r (some 0)), some (v_i x1), l2, l3], [v_i x1, v_r ((h_r h ((h_r h 0 5).getD 0) 0))], h)) rfl).trans ?_
  simp only [e0, e1, Option.getD_some, am_all]
  all_goals exact cj_d (la_is Lh (o := 0) rfl) (cj_d (la_is Lh (o := 10) rfl) (((am_Y_call (j := 3) (na := 2) (ci := 1) (fl := 0) rfl rfl rfl).trans (cj_d ⟨⟨Nat.le_of_ble_eq_true rfl, Nat.le_of_ble_eq_true rfl, Nat.le_of_ble_eq_true rfl, rfl⟩, Or.inr (Or.inr (show (1 : Nat) < 20 ∧ am_is h (some 11) 1 from ⟨by decide, (la_is Lh (o := 11) rfl)⟩))⟩ Iff.rfl))))

theorem b_X11_old_11 {d : Nat} {Q : Option am_V → am_H → Prop} (h : am_H) (s0 : Int32) (l0 l1 l2 l3 : Option am_V) : ex_ d 197 11 [l0, l1, l2, l3] [v_i s0] h Q ↔ if s0 = 0 then ex_ d 197 21 [l0, l1, l2, l3] [] h Q else ex_ d 197 14 [l0, l1, l2, l3] [] h Q := by
  unfold ex_
  refine (am_Y_go 1 (ok := []) (g := (if s0 = 0 then 21 else 14, [l0, l1, l2, l3], [], h)) rfl).trans ?_
  all_goals exact am_Y_if

theorem b_X11_old_21 {d : Nat} {Q : Option am_V → am_H → Prop} (h : am_H) (l0 l1 l2 l3 : Option am_V) : ex_ d 197 21 [l0, l1, l2, l3] [] h Q ↔ Q (some (v_i (-2 : Int32))) h := by
  unfold ex_
  refine (am_Y_go 1 (ok := []) (g := (23, [l0, l1, l2, l3], [v_i (-2 : Int32)], h)) rfl).trans ?_
  all_goals exact ((am_Y_ret rfl rfl rfl).trans (am_r0))

theorem b_X11_old_14 {d : Nat} {Q : Option am_V → am_H → Prop} (h : am_H) (x2 : Int32) (l0 l1 l3 : Option am_V) : ex_ (d + 1) 197 14 [l0, l1, some (v_i x2), l3] [] h Q ↔ ex_ d 196 0 [some (v_i x2)] [] h (fun r h' => ex_ (d + 1) 197 18 [l0, l1, some (v_i x2), l3] (r.toList ++ []) h' Q) := by
  unfold ex_
  refine (am_Y_go 1 (ok := []) (g := (15, [l0, l1, some (v_i x2), l3], [v_i x2], h)) rfl).trans ?_
  all_goals exact ((am_Y_call (j := 196) (na := 1) (ci := 11) (fl := 2) rfl rfl rfl).trans (cj_d ⟨⟨Nat.le_of_ble_eq_true rfl, Nat.le_of_ble_eq_true rfl, Nat.le_of_ble_eq_true rfl, rfl⟩, Or.inl rfl⟩ Iff.rfl))

theorem b_X11_old_18 {d : Nat} {Q : Option am_V → am_H → Prop} (h : am_H) (s0 : Int32) (l0 l1 l2 l3 : Option am_V) : ex_ d 197 18 [l0, l1, l2, l3] [v_i s0] h Q ↔ if ¬ s0 = 0 then ex_ d 197 24 [l0, l1, l2, l3] [] h Q else ex_ d 197 21 [l0, l1, l2, l3] [] h Q := by
  unfold ex_
  refine (am_Y_go 1 (ok := []) (g := (if ¬ s0 = 0 then 24 else 21, [l0, l1, l2, l3], [], h)) rfl).trans ?_
  all_goals exact am_Y_if

theorem b_X11_old_24 {d : Nat} {Q : Option am_V → am_H → Prop} (h : am_H) (x3 : Int32) (l0 l1 l2 : Option am_V) : ex_ d 197 24 [l0, l1, l2, some (v_i x3)] [] h Q ↔ if 0 ≤ x3 then ex_ d 197 31 [l0, l1, l2, some (v_i x3)] [] h Q else ex_ d 197 28 [l0, l1, l2, some (v_i x3)] [] h Q := by
  unfold ex_
  refine (am_Y_go 2 (ok := []) (g := (if 0 ≤ x3 then 31 else 28, [l0, l1, l2, some (v_i x3)], [], h)) rfl).trans ?_
  all_goals exact am_Y_if

theorem b_X11_old_31 {d : Nat} {Q : Option am_V → am_H → Prop} (h : am_H) (x2 : Int32) (l1 l3 : Option am_V) (Lh : Lay h) : ex_ (d + 1) 197 31 [some (v_r (some 0)), l1, some (v_i x2), l3] [] h Q ↔ ex_ d 70 0 [some (v_r (some 47)), some (v_r (some 11)), some (v_i x2), none] [] h (fun r h' => ex_ (d + 1) 197 46 [some (v_r (some 0)), l1, some (v_i x2), l3] (r.toList ++ []) h' Q) := by
  have e0 : h_r h 0 11 = some 47 := la_r Lh (q := (0, 11, 47)) (by decide)
  have e1 : h_r h 0 5 = some 10 := la_r Lh (q := (0, 5, 10)) (by decide)
  have e2 : h_r h 10 0 = some 11 := la_r Lh (q := (10, 0, 11)) (by decide)
  unfold ex_
  refine (am_Y_go 6 (ok := [am_is h (some 0) 11, am_is h (some 0) 11, am_is h ((h_r h 0 5)) 2]) (g := (43, [some (v_r (some 0)), l1, some (v_i x2), l3], [v_i x2, v_r ((h_r h ((h_r h 0 5).getD 0) 0)), v_r ((h_r h 0 11))], h)) rfl).trans ?_
  simp only [e0, e1, e2, Option.getD_some, am_all]
  all_goals exact cj_d (la_is Lh (o := 0) rfl) (cj_d (la_is Lh (o := 0) rfl) (cj_d (la_is Lh (o := 10) rfl) (((am_Y_call (j := 70) (na := 3) (ci := 5) (fl := 0) rfl rfl rfl).trans (cj_d ⟨⟨Nat.le_of_ble_eq_true rfl, Nat.le_of_ble_eq_true rfl, Nat.le_of_ble_eq_true rfl, rfl⟩, Or.inr (Or.inr (show (5 : Nat) < 20 ∧ am_is h (some 47) 5 from ⟨by decide, (la_is Lh (o := 47) rfl)⟩))⟩ Iff.rfl)))))

theorem b_X11_old_28 {d : Nat} {Q : Option am_V → am_H → Prop} (h : am_H) (l0 l1 l2 l3 : Option am_V) : ex_ d 197 28 [l0, l1, l2, l3] [] h Q ↔ Q (some (v_i (-3 : Int32))) h := by
  unfold ex_
  refine (am_Y_go 1 (ok := []) (g := (30, [l0, l1, l2, l3], [v_i (-3 : Int32)], h)) rfl).trans ?_
  all_goals exact ((am_Y_ret rfl rfl rfl).trans (am_r0))

theorem b_X11_old_46 {d : Nat} {Q : Option am_V → am_H → Prop} (h : am_H) (x1 : Int32) (x3 : Int32) (l2 : Option am_V) (Lh : Lay h) : ex_ (d + 1) 197 46 [some (v_r (some 0)), some (v_i x1), l2, some (v_i x3)] [] h Q ↔ ex_ d 65 0 [some (v_r (some 47)), some (v_i x1), some (v_i x3)] [] h (fun r h' => ex_ (d + 1) 197 55 [some (v_r (some 0)), some (v_i x1), l2, some (v_i x3)] (r.toList ++ []) h' Q) := by
  have e0 : h_r h 0 11 = some 47 := la_r Lh (q := (0, 11, 47)) (by decide)
  unfold ex_
  refine (am_Y_go 4 (ok := [am_is h (some 0) 11]) (g := (52, [some (v_r (some 0)), some (v_i x1), l2, some (v_i x3)], [v_i x3, v_i x1, v_r ((h_r h 0 11))], h)) rfl).trans ?_
  simp only [e0, Option.getD_some, am_all]
  all_goals exact cj_d (la_is Lh (o := 0) rfl) (((am_Y_call (j := 65) (na := 3) (ci := 5) (fl := 0) rfl rfl rfl).trans (cj_d ⟨⟨Nat.le_of_ble_eq_true rfl, Nat.le_of_ble_eq_true rfl, Nat.le_of_ble_eq_true rfl, rfl⟩, Or.inr (Or.inr (show (5 : Nat) < 20 ∧ am_is h (some 47) 5 from ⟨by decide, (la_is Lh (o := 47) rfl)⟩))⟩ Iff.rfl)))

theorem b_X11_old_55 {d : Nat} {Q : Option am_V → am_H → Prop} (h : am_H) (s0 : Int32) (l0 l1 l2 l3 : Option am_V) : ex_ d 197 55 [l0, l1, l2, l3] [v_i s0] h Q ↔ Q (some (v_i s0)) h := by
  unfold ex_
  exact ((am_Y_ret rfl rfl rfl).trans (am_r0))

theorem b_X11_breaks_0 {d : Nat} {Q : Option am_V → am_H → Prop} (h : am_H) (x1 : Int32) (l2 l3 l4 l5 : Option am_V) (Lh : Lay h) : ex_ (d + 1) 198 0 [some (v_r (some 0)), some (v_i x1), l2, l3, l4, l5] [] h Q ↔ ex_ d 3 0 [some (v_r (some 11)), some (v_i x1)] [] h (fun r h' => ex_ (d + 1) 198 11 [some (v_r (some 0)), some (v_i x1), l2, l3, l4, l5] (r.toList ++ []) h' Q) := by
  have e0 : h_r h 0 5 = some 10 := la_r Lh (q := (0, 5, 10)) (by decide)
  have e1 : h_r h 10 0 = some 11 := la_r Lh (q := (10, 0, 11)) (by decide)
  unfold ex_
  refine (am_Y_go 4 (ok := [am_is h (some 0) 11, am_is h ((h_r h 0 5)) 2]) (g := (8, [some (v_r (some 0)), some (v_i x1), l2, l3, l4, l5], [v_i x1, v_r ((h_r h ((h_r h 0 5).getD 0) 0))], h)) rfl).trans ?_
  simp only [e0, e1, Option.getD_some, am_all]
  all_goals exact cj_d (la_is Lh (o := 0) rfl) (cj_d (la_is Lh (o := 10) rfl) (((am_Y_call (j := 3) (na := 2) (ci := 1) (fl := 0) rfl rfl rfl).trans (cj_d ⟨⟨Nat.le_of_ble_eq_true rfl, Nat.le_of_ble_eq_true rfl, Nat.le_of_ble_eq_true rfl, rfl⟩, Or.inr (Or.inr (show (1 : Nat) < 20 ∧ am_is h (some 11) 1 from ⟨by decide, (la_is Lh (o := 11) rfl)⟩))⟩ Iff.rfl))))

theorem b_X11_breaks_11 {d : Nat} {Q : Option am_V → am_H → Prop} (h : am_H) (s0 : Int32) (l0 l1 l2 l3 l4 l5 : Option am_V) : ex_ d 198 11 [l0, l1, l2, l3, l4, l5] [v_i s0] h Q ↔ if s0 = 0 then ex_ d 198 21 [l0, l1, l2, l3, l4, l5] [] h Q else ex_ d 198 14 [l0, l1, l2, l3, l4, l5] [] h Q := by
  unfold ex_
  refine (am_Y_go 1 (ok := []) (g := (if s0 = 0 then 21 else 14, [l0, l1, l2, l3, l4, l5], [], h)) rfl).trans ?_
  all_goals exact am_Y_if

theorem b_X11_breaks_21 {d : Nat} {Q : Option am_V → am_H → Prop} (h : am_H) (l0 l1 l2 l3 l4 l5 : Option am_V) : ex_ d 198 21 [l0, l1, l2, l3, l4, l5] [] h Q ↔ Q (some (v_i (-2 : Int32))) h := by
  unfold ex_
  refine (am_Y_go 1 (ok := []) (g := (23, [l0, l1, l2, l3, l4, l5], [v_i (-2 : Int32)], h)) rfl).trans ?_
  all_goals exact ((am_Y_ret rfl rfl rfl).trans (am_r0))

theorem b_X11_breaks_14 {d : Nat} {Q : Option am_V → am_H → Prop} (h : am_H) (x2 : Int32) (l0 l1 l3 l4 l5 : Option am_V) : ex_ (d + 1) 198 14 [l0, l1, some (v_i x2), l3, l4, l5] [] h Q ↔ ex_ d 196 0 [some (v_i x2)] [] h (fun r h' => ex_ (d + 1) 198 18 [l0, l1, some (v_i x2), l3, l4, l5] (r.toList ++ []) h' Q) := by
  unfold ex_
  refine (am_Y_go 1 (ok := []) (g := (15, [l0, l1, some (v_i x2), l3, l4, l5], [v_i x2], h)) rfl).trans ?_
  all_goals exact ((am_Y_call (j := 196) (na := 1) (ci := 11) (fl := 2) rfl rfl rfl).trans (cj_d ⟨⟨Nat.le_of_ble_eq_true rfl, Nat.le_of_ble_eq_true rfl, Nat.le_of_ble_eq_true rfl, rfl⟩, Or.inl rfl⟩ Iff.rfl))

theorem b_X11_breaks_18 {d : Nat} {Q : Option am_V → am_H → Prop} (h : am_H) (s0 : Int32) (l0 l1 l2 l3 l4 l5 : Option am_V) : ex_ d 198 18 [l0, l1, l2, l3, l4, l5] [v_i s0] h Q ↔ if ¬ s0 = 0 then ex_ d 198 24 [l0, l1, l2, l3, l4, l5] [] h Q else ex_ d 198 21 [l0, l1, l2, l3, l4, l5] [] h Q := by
  unfold ex_
  refine (am_Y_go 1 (ok := []) (g := (if ¬ s0 = 0 then 24 else 21, [l0, l1, l2, l3, l4, l5], [], h)) rfl).trans ?_
  all_goals exact am_Y_if

theorem b_X11_breaks_24 {d : Nat} {Q : Option am_V → am_H → Prop} (h : am_H) (x1 : Int32) (l2 l3 l4 l5 : Option am_V) (Lh : Lay h) : ex_ (d + 1) 198 24 [some (v_r (some 0)), some (v_i x1), l2, l3, l4, l5] [] h Q ↔ ex_ d 71 0 [some (v_r (some 15)), some (v_i x1)] [] h (fun r h' => ex_ (d + 1) 198 32 [some (v_r (some 0)), some (v_i x1), l2, l3, l4, l5] (r.toList ++ []) h' Q) := by
  have e0 : h_r h 0 6 = some 15 := la_r Lh (q := (0, 6, 15)) (by decide)
  unfold ex_
  refine (am_Y_go 3 (ok := [am_is h (some 0) 11]) (g := (29, [some (v_r (some 0)), some (v_i x1), l2, l3, l4, l5], [v_i x1, v_r ((h_r h 0 6))], h)) rfl).trans ?_
  simp only [e0, Option.getD_some, am_all]
  all_goals exact cj_d (la_is Lh (o := 0) rfl) (((am_Y_call (j := 71) (na := 2) (ci := 6) (fl := 0) rfl rfl rfl).trans (cj_d ⟨⟨Nat.le_of_ble_eq_true rfl, Nat.le_of_ble_eq_true rfl, Nat.le_of_ble_eq_true rfl, rfl⟩, Or.inr (Or.inr (show (6 : Nat) < 20 ∧ am_is h (some 15) 6 from ⟨by decide, (la_is Lh (o := 15) rfl)⟩))⟩ Iff.rfl)))

theorem b_X11_breaks_32 {d : Nat} {Q : Option am_V → am_H → Prop} (h : am_H) (s0 : Int32) (l0 l1 l2 l3 l4 l5 : Option am_V) : ex_ d 198 32 [l0, l1, l2, l3, l4, l5] [v_i s0] h Q ↔ if ¬ s0 = (2 : Int32) then ex_ d 198 38 [l0, l1, l2, l3, l4, l5] [] h Q else ex_ d 198 36 [l0, l1, l2, l3, l4, l5] [] h Q := by
  unfold ex_
  refine (am_Y_go 2 (ok := []) (g := (if ¬ s0 = (2 : Int32) then 38 else 36, [l0, l1, l2, l3, l4, l5], [], h)) rfl).trans ?_
  all_goals exact am_Y_if

theorem b_X11_breaks_38 {d : Nat} {Q : Option am_V → am_H → Prop} (h : am_H) (x2 : Int32) (l1 l3 l4 l5 : Option am_V) (Lh : Lay h) : ex_ (d + 1) 198 38 [some (v_r (some 0)), l1, some (v_i x2), l3, l4, l5] [] h Q ↔ ex_ d 70 0 [some (v_r (some 47)), some (v_r (some 11)), some (v_i x2), none] [] h (fun r h' => ex_ (d + 1) 198 53 [some (v_r (some 0)), l1, some (v_i x2), l3, l4, l5] (r.toList ++ []) h' Q) := by
  have e0 : h_r h 0 11 = some 47 := la_r Lh (q := (0, 11, 47)) (by decide)
  have e1 : h_r h 0 5 = some 10 := la_r Lh (q := (0, 5, 10)) (by decide)
  have e2 : h_r h 10 0 = some 11 := la_r Lh (q := (10, 0, 11)) (by decide)
  unfold ex_
  refine (am_Y_go 6 (ok := [am_is h (some 0) 11, am_is h (some 0) 11, am_is h ((h_r h 0 5)) 2]) (g := (50, [some (v_r (some 0)), l1, some (v_i x2), l3, l4, l5], [v_i x2, v_r ((h_r h ((h_r h 0 5).getD 0) 0)), v_r ((h_r h 0 11))], h)) rfl).trans ?_
  simp only [e0, e1, e2, Option.getD_some, am_all]
  all_goals exact cj_d (la_is Lh (o := 0) rfl) (cj_d (la_is Lh (o := 0) rfl) (cj_d (la_is Lh (o := 10) rfl) (((am_Y_call (j := 70) (na := 3) (ci := 5) (fl := 0) rfl rfl rfl).trans (cj_d ⟨⟨Nat.le_of_ble_eq_true rfl, Nat.le_of_ble_eq_true rfl, Nat.le_of_ble_eq_true rfl, rfl⟩, Or.inr (Or.inr (show (5 : Nat) < 20 ∧ am_is h (some 47) 5 from ⟨by decide, (la_is Lh (o := 47) rfl)⟩))⟩ Iff.rfl)))))

theorem b_X11_breaks_36 {d : Nat} {Q : Option am_V → am_H → Prop} (h : am_H) (l0 l1 l2 l3 l4 l5 : Option am_V) : ex_ d 198 36 [l0, l1, l2, l3, l4, l5] [] h Q ↔ Q (some (v_i (-1 : Int32))) h := by
  unfold ex_
  refine (am_Y_go 1 (ok := []) (g := (37, [l0, l1, l2, l3, l4, l5], [v_i (-1 : Int32)], h)) rfl).trans ?_
  all_goals exact ((am_Y_ret rfl rfl rfl).trans (am_r0))

theorem b_X11_breaks_53 {d : Nat} {Q : Option am_V → am_H → Prop} (h : am_H) (x1 : Int32) (l2 l3 l4 l5 : Option am_V) (Lh : Lay h) : ex_ (d + 1) 198 53 [some (v_r (some 0)), some (v_i x1), l2, l3, l4, l5] [] h Q ↔ ex_ d 12 0 [some (v_r (some 41)), some (v_i x1), none, none, none, none] [] h (fun r h' => ex_ (d + 1) 198 61 [some (v_r (some 0)), some (v_i x1), l2, l3, l4, l5] (r.toList ++ []) h' Q) := by
  have e0 : h_r h 0 10 = some 41 := la_r Lh (q := (0, 10, 41)) (by decide)
  unfold ex_
  refine (am_Y_go 3 (ok := [am_is h (some 0) 11]) (g := (58, [some (v_r (some 0)), some (v_i x1), l2, l3, l4, l5], [v_i x1, v_r ((h_r h 0 10))], h)) rfl).trans ?_
  simp only [e0, Option.getD_some, am_all]
  all_goals exact cj_d (la_is Lh (o := 0) rfl) (((am_Y_call (j := 12) (na := 2) (ci := 0) (fl := 0) rfl rfl rfl).trans (cj_d ⟨⟨Nat.le_of_ble_eq_true rfl, Nat.le_of_ble_eq_true rfl, Nat.le_of_ble_eq_true rfl, rfl⟩, Or.inr (Or.inr (show (0 : Nat) < 20 ∧ am_is h (some 41) 0 from ⟨by decide, (la_is Lh (o := 41) rfl)⟩))⟩ Iff.rfl)))

theorem b_X11_breaks_61 {d : Nat} {Q : Option am_V → am_H → Prop} (h : am_H) (l0 l1 l2 l3 l4 l5 : Option am_V) : ex_ d 198 61 [l0, l1, l2, l3, l4, l5] [] h Q ↔ ex_ d 198 66 [l0, l1, l2, some (v_i (0 : Int32)), some (v_i (0 : Int32)), l5] [] h Q := by
  unfold ex_
  refine (am_Y_go 4 (ok := []) (g := (66, [l0, l1, l2, some (v_i (0 : Int32)), some (v_i (0 : Int32)), l5], [], h)) rfl).trans ?_
  all_goals exact Iff.rfl

theorem b_X11_breaks_66 {d : Nat} {Q : Option am_V → am_H → Prop} (h : am_H) (x4 : Int32) (x1 : Int32) (l2 l3 l5 : Option am_V) (Lh : Lay h) : ex_ (d + 1) 198 66 [some (v_r (some 0)), some (v_i x1), l2, l3, some (v_i x4), l5] [] h Q ↔ ex_ d 64 0 [some (v_r (some 47)), some (v_i x1)] [] h (fun r h' => ex_ (d + 1) 198 76 [some (v_r (some 0)), some (v_i x1), l2, l3, some (v_i x4), l5] (r.toList ++ [v_i x4]) h' Q) := by
  have e0 : h_r h 0 11 = some 47 := la_r Lh (q := (0, 11, 47)) (by decide)
  unfold ex_
  refine (am_Y_go 4 (ok := [am_is h (some 0) 11]) (g := (73, [some (v_r (some 0)), some (v_i x1), l2, l3, some (v_i x4), l5], [v_i x1, v_r ((h_r h 0 11)), v_i x4], h)) rfl).trans ?_
  simp only [e0, Option.getD_some, am_all]
  all_goals exact cj_d (la_is Lh (o := 0) rfl) (((am_Y_call (j := 64) (na := 2) (ci := 5) (fl := 0) rfl rfl rfl).trans (cj_d ⟨⟨Nat.le_of_ble_eq_true rfl, Nat.le_of_ble_eq_true rfl, Nat.le_of_ble_eq_true rfl, rfl⟩, Or.inr (Or.inr (show (5 : Nat) < 20 ∧ am_is h (some 47) 5 from ⟨by decide, (la_is Lh (o := 47) rfl)⟩))⟩ Iff.rfl)))

theorem b_X11_breaks_76 {d : Nat} {Q : Option am_V → am_H → Prop} (h : am_H) (s0 : Int32) (s1 : Int32) (l0 l1 l2 l3 l4 l5 : Option am_V) : ex_ d 198 76 [l0, l1, l2, l3, l4, l5] [v_i s0, v_i s1] h Q ↔ if s0 ≤ s1 then ex_ d 198 143 [l0, l1, l2, l3, l4, l5] [] h Q else ex_ d 198 79 [l0, l1, l2, l3, l4, l5] [] h Q := by
  unfold ex_
  refine (am_Y_go 1 (ok := []) (g := (if s0 ≤ s1 then 143 else 79, [l0, l1, l2, l3, l4, l5], [], h)) rfl).trans ?_
  all_goals exact am_Y_if

theorem b_X11_breaks_143 {d : Nat} {Q : Option am_V → am_H → Prop} (h : am_H) (x3 : Int32) (l0 l1 l2 l4 l5 : Option am_V) : ex_ d 198 143 [l0, l1, l2, some (v_i x3), l4, l5] [] h Q ↔ Q (some (v_i x3)) h := by
  unfold ex_
  refine (am_Y_go 1 (ok := []) (g := (144, [l0, l1, l2, some (v_i x3), l4, l5], [v_i x3], h)) rfl).trans ?_
  all_goals exact ((am_Y_ret rfl rfl rfl).trans (am_r0))

theorem b_X11_breaks_79 {d : Nat} {Q : Option am_V → am_H → Prop} (h : am_H) (x4 : Int32) (l0 l1 l2 l3 l5 : Option am_V) : ex_ d 198 79 [l0, l1, l2, l3, some (v_i x4), l5] [] h Q ↔ ex_ d 198 85 [l0, l1, l2, l3, some (v_i x4), some (v_i (x4 + (1 : Int32)))] [] h Q := by
  unfold ex_
  refine (am_Y_go 4 (ok := []) (g := (85, [l0, l1, l2, l3, some (v_i x4), some (v_i (x4 + (1 : Int32)))], [], h)) rfl).trans ?_
  all_goals exact Iff.rfl

theorem b_X11_breaks_85 {d : Nat} {Q : Option am_V → am_H → Prop} (h : am_H) (x5 : Int32) (x1 : Int32) (l2 l3 l4 : Option am_V) (Lh : Lay h) : ex_ (d + 1) 198 85 [some (v_r (some 0)), some (v_i x1), l2, l3, l4, some (v_i x5)] [] h Q ↔ ex_ d 64 0 [some (v_r (some 47)), some (v_i x1)] [] h (fun r h' => ex_ (d + 1) 198 95 [some (v_r (some 0)), some (v_i x1), l2, l3, l4, some (v_i x5)] (r.toList ++ [v_i x5]) h' Q) := by
  have e0 : h_r h 0 11 = some 47 := la_r Lh (q := (0, 11, 47)) (by decide)
  unfold ex_
  refine (am_Y_go 4 (ok := [am_is h (some 0) 11]) (g := (92, [some (v_r (some 0)), some (v_i x1), l2, l3, l4, some (v_i x5)], [v_i x1, v_r ((h_r h 0 11)), v_i x5], h)) rfl).trans ?_
  simp only [e0, Option.getD_some, am_all]
  all_goals exact cj_d (la_is Lh (o := 0) rfl) (((am_Y_call (j := 64) (na := 2) (ci := 5) (fl := 0) rfl rfl rfl).trans (cj_d ⟨⟨Nat.le_of_ble_eq_true rfl, Nat.le_of_ble_eq_true rfl, Nat.le_of_ble_eq_true rfl, rfl⟩, Or.inr (Or.inr (show (5 : Nat) < 20 ∧ am_is h (some 47) 5 from ⟨by decide, (la_is Lh (o := 47) rfl)⟩))⟩ Iff.rfl)))

theorem b_X11_breaks_95 {d : Nat} {Q : Option am_V → am_H → Prop} (h : am_H) (s0 : Int32) (s1 : Int32) (l0 l1 l2 l3 l4 l5 : Option am_V) : ex_ d 198 95 [l0, l1, l2, l3, l4, l5] [v_i s0, v_i s1] h Q ↔ if s0 ≤ s1 then ex_ d 198 137 [l0, l1, l2, l3, l4, l5] [] h Q else ex_ d 198 98 [l0, l1, l2, l3, l4, l5] [] h Q := by
  unfold ex_
  refine (am_Y_go 1 (ok := []) (g := (if s0 ≤ s1 then 137 else 98, [l0, l1, l2, l3, l4, l5], [], h)) rfl).trans ?_
  all_goals exact am_Y_if

theorem b_X11_breaks_137 {d : Nat} {Q : Option am_V → am_H → Prop} (h : am_H) (x4 : Int32) (l0 l1 l2 l3 l5 : Option am_V) : ex_ d 198 137 [l0, l1, l2, l3, some (v_i x4), l5] [] h Q ↔ ex_ d 198 66 [l0, l1, l2, l3, some (v_i (x4 + (1 : Int32))), l5] [] h Q := by
  unfold ex_
  refine (am_Y_go 2 (ok := []) (g := (66, [l0, l1, l2, l3, some (v_i (x4 + (1 : Int32))), l5], [], h)) rfl).trans ?_
  all_goals exact Iff.rfl

theorem b_X11_breaks_98 {d : Nat} {Q : Option am_V → am_H → Prop} (h : am_H) (x1 : Int32) (x5 : Int32) (l2 l3 l4 : Option am_V) (Lh : Lay h) : ex_ (d + 1) 198 98 [some (v_r (some 0)), some (v_i x1), l2, l3, l4, some (v_i x5)] [] h Q ↔ ex_ d 65 0 [some (v_r (some 47)), some (v_i x1), some (v_i x5)] [] h (fun r h' => ex_ (d + 1) 198 112 [some (v_r (some 0)), some (v_i x1), l2, l3, l4, some (v_i x5)] (r.toList ++ [v_r (some 41)]) h' Q) := by
  have e0 : h_r h 0 10 = some 41 := la_r Lh (q := (0, 10, 41)) (by decide)
  have e1 : h_r h 0 11 = some 47 := la_r Lh (q := (0, 11, 47)) (by decide)
  unfold ex_
  refine (am_Y_go 6 (ok := [am_is h (some 0) 11, am_is h (some 0) 11]) (g := (109, [some (v_r (some 0)), some (v_i x1), l2, l3, l4, some (v_i x5)], [v_i x5, v_i x1, v_r ((h_r h 0 11)), v_r ((h_r h 0 10))], h)) rfl).trans ?_
  simp only [e0, e1, Option.getD_some, am_all]
  all_goals exact cj_d (la_is Lh (o := 0) rfl) (cj_d (la_is Lh (o := 0) rfl) (((am_Y_call (j := 65) (na := 3) (ci := 5) (fl := 0) rfl rfl rfl).trans (cj_d ⟨⟨Nat.le_of_ble_eq_true rfl, Nat.le_of_ble_eq_true rfl, Nat.le_of_ble_eq_true rfl, rfl⟩, Or.inr (Or.inr (show (5 : Nat) < 20 ∧ am_is h (some 47) 5 from ⟨by decide, (la_is Lh (o := 47) rfl)⟩))⟩ Iff.rfl))))

theorem b_X11_breaks_112 {d : Nat} {Q : Option am_V → am_H → Prop} (h : am_H) (s0 : Int32) (x1 : Int32) (x4 : Int32) (l2 l3 l5 : Option am_V) (Lh : Lay h) : ex_ (d + 1) 198 112 [some (v_r (some 0)), some (v_i x1), l2, l3, some (v_i x4), l5] [v_i s0, v_r (some 41)] h Q ↔ ex_ d 65 0 [some (v_r (some 47)), some (v_i x1), some (v_i x4)] [] h (fun r h' => ex_ (d + 1) 198 122 [some (v_r (some 0)), some (v_i x1), l2, l3, some (v_i x4), l5] (r.toList ++ [v_i s0, v_r (some 41)]) h' Q) := by
  have e0 : h_r h 0 11 = some 47 := la_r Lh (q := (0, 11, 47)) (by decide)
  unfold ex_
  refine (am_Y_go 4 (ok := [am_is h (some 0) 11]) (g := (119, [some (v_r (some 0)), some (v_i x1), l2, l3, some (v_i x4), l5], [v_i x4, v_i x1, v_r ((h_r h 0 11)), v_i s0, v_r (some 41)], h)) rfl).trans ?_
  simp only [e0, Option.getD_some, am_all]
  all_goals exact cj_d (la_is Lh (o := 0) rfl) (((am_Y_call (j := 65) (na := 3) (ci := 5) (fl := 0) rfl rfl rfl).trans (cj_d ⟨⟨Nat.le_of_ble_eq_true rfl, Nat.le_of_ble_eq_true rfl, Nat.le_of_ble_eq_true rfl, rfl⟩, Or.inr (Or.inr (show (5 : Nat) < 20 ∧ am_is h (some 47) 5 from ⟨by decide, (la_is Lh (o := 47) rfl)⟩))⟩ Iff.rfl)))

theorem b_X11_breaks_122 {d : Nat} {Q : Option am_V → am_H → Prop} (h : am_H) (s0 : Int32) (s1 : Int32) (l0 l1 l2 l3 l4 l5 : Option am_V) (Lh : Lay h) : ex_ (d + 1) 198 122 [l0, l1, l2, l3, l4, l5] [v_i s0, v_i s1, v_r (some 41)] h Q ↔ ex_ d 13 0 [some (v_r (some 41)), some (v_i s1), some (v_i s0)] [] h (fun r h' => ex_ (d + 1) 198 125 [l0, l1, l2, l3, l4, l5] (r.toList ++ []) h' Q) := by
  unfold ex_
  exact ((am_Y_call (j := 13) (na := 3) (ci := 0) (fl := 0) rfl rfl rfl).trans (cj_d ⟨⟨Nat.le_of_ble_eq_true rfl, Nat.le_of_ble_eq_true rfl, Nat.le_of_ble_eq_true rfl, rfl⟩, Or.inr (Or.inr (show (0 : Nat) < 20 ∧ am_is h (some 41) 0 from ⟨by decide, (la_is Lh (o := 41) rfl)⟩))⟩ Iff.rfl))

theorem b_X11_breaks_125 {d : Nat} {Q : Option am_V → am_H → Prop} (h : am_H) (s0 : Int32) (l0 l1 l2 l3 l4 l5 : Option am_V) : ex_ d 198 125 [l0, l1, l2, l3, l4, l5] [v_i s0] h Q ↔ if s0 = 0 then ex_ d 198 131 [l0, l1, l2, l3, l4, l5] [] h Q else ex_ d 198 128 [l0, l1, l2, l3, l4, l5] [] h Q := by
  unfold ex_
  refine (am_Y_go 1 (ok := []) (g := (if s0 = 0 then 131 else 128, [l0, l1, l2, l3, l4, l5], [], h)) rfl).trans ?_
  all_goals exact am_Y_if

theorem b_X11_breaks_131 {d : Nat} {Q : Option am_V → am_H → Prop} (h : am_H) (x5 : Int32) (l0 l1 l2 l3 l4 : Option am_V) : ex_ d 198 131 [l0, l1, l2, l3, l4, some (v_i x5)] [] h Q ↔ ex_ d 198 85 [l0, l1, l2, l3, l4, some (v_i (x5 + (1 : Int32)))] [] h Q := by
  unfold ex_
  refine (am_Y_go 2 (ok := []) (g := (85, [l0, l1, l2, l3, l4, some (v_i (x5 + (1 : Int32)))], [], h)) rfl).trans ?_
  all_goals exact Iff.rfl

theorem b_X11_breaks_128 {d : Nat} {Q : Option am_V → am_H → Prop} (h : am_H) (x3 : Int32) (x5 : Int32) (l0 l1 l2 l4 : Option am_V) : ex_ d 198 128 [l0, l1, l2, some (v_i x3), l4, some (v_i x5)] [] h Q ↔ ex_ d 198 85 [l0, l1, l2, some (v_i (x3 + (1 : Int32))), l4, some (v_i (x5 + (1 : Int32)))] [] h Q := by
  unfold ex_
  refine (am_Y_go 3 (ok := []) (g := (85, [l0, l1, l2, some (v_i (x3 + (1 : Int32))), l4, some (v_i (x5 + (1 : Int32)))], [], h)) rfl).trans ?_
  all_goals exact Iff.rfl

theorem b_X11_isOldOrder_0 {d : Nat} {Q : Option am_V → am_H → Prop} (h : am_H) (x1 : Int32) (l2 l3 : Option am_V) (Lh : Lay h) : ex_ (d + 1) 199 0 [some (v_r (some 0)), some (v_i x1), l2, l3] [] h Q ↔ ex_ d 64 0 [some (v_r (some 47)), some (v_i x1)] [] h (fun r h' => ex_ (d + 1) 199 8 [some (v_r (some 0)), some (v_i x1), l2, l3] (r.toList ++ []) h' Q) := by
  have e0 : h_r h 0 11 = some 47 := la_r Lh (q := (0, 11, 47)) (by decide)
  unfold ex_
  refine (am_Y_go 3 (ok := [am_is h (some 0) 11]) (g := (5, [some (v_r (some 0)), some (v_i x1), l2, l3], [v_i x1, v_r ((h_r h 0 11))], h)) rfl).trans ?_
  simp only [e0, Option.getD_some, am_all]
  all_goals exact cj_d (la_is Lh (o := 0) rfl) (((am_Y_call (j := 64) (na := 2) (ci := 5) (fl := 0) rfl rfl rfl).trans (cj_d ⟨⟨Nat.le_of_ble_eq_true rfl, Nat.le_of_ble_eq_true rfl, Nat.le_of_ble_eq_true rfl, rfl⟩, Or.inr (Or.inr (show (5 : Nat) < 20 ∧ am_is h (some 47) 5 from ⟨by decide, (la_is Lh (o := 47) rfl)⟩))⟩ Iff.rfl)))

theorem b_X11_isOldOrder_8 {d : Nat} {Q : Option am_V → am_H → Prop} (h : am_H) (s0 : Int32) (x1 : Int32) (l2 l3 : Option am_V) (Lh : Lay h) : ex_ (d + 1) 199 8 [some (v_r (some 0)), some (v_i x1), l2, l3] [v_i s0] h Q ↔ ex_ d 9 0 [some (v_r (some 15)), some (v_i x1)] [] h (fun r h' => ex_ (d + 1) 199 18 [some (v_r (some 0)), some (v_i x1), some (v_i s0), l3] (r.toList ++ [v_i s0]) h' Q) := by
  have e0 : h_r h 0 6 = some 15 := la_r Lh (q := (0, 6, 15)) (by decide)
  unfold ex_
  refine (am_Y_go 5 (ok := [am_is h (some 0) 11]) (g := (15, [some (v_r (some 0)), some (v_i x1), some (v_i s0), l3], [v_i x1, v_r ((h_r h 0 6)), v_i s0], h)) rfl).trans ?_
  simp only [e0, Option.getD_some, am_all]
  all_goals exact cj_d (la_is Lh (o := 0) rfl) (((am_Y_call (j := 9) (na := 2) (ci := 6) (fl := 0) rfl rfl rfl).trans (cj_d ⟨⟨Nat.le_of_ble_eq_true rfl, Nat.le_of_ble_eq_true rfl, Nat.le_of_ble_eq_true rfl, rfl⟩, Or.inr (Or.inr (show (6 : Nat) < 20 ∧ am_is h (some 15) 6 from ⟨by decide, (la_is Lh (o := 15) rfl)⟩))⟩ Iff.rfl)))

theorem b_X11_isOldOrder_18 {d : Nat} {Q : Option am_V → am_H → Prop} (h : am_H) (s0 : Int32) (s1 : Int32) (l0 l1 l2 l3 : Option am_V) : ex_ d 199 18 [l0, l1, l2, l3] [v_i s0, v_i s1] h Q ↔ if s1 = s0 then ex_ d 199 23 [l0, l1, l2, l3] [] h Q else ex_ d 199 21 [l0, l1, l2, l3] [] h Q := by
  unfold ex_
  refine (am_Y_go 1 (ok := []) (g := (if s1 = s0 then 23 else 21, [l0, l1, l2, l3], [], h)) rfl).trans ?_
  all_goals exact am_Y_if

theorem b_X11_isOldOrder_23 {d : Nat} {Q : Option am_V → am_H → Prop} (h : am_H) (l0 l1 l2 l3 : Option am_V) : ex_ d 199 23 [l0, l1, l2, l3] [] h Q ↔ ex_ d 199 25 [l0, l1, l2, some (v_i (0 : Int32))] [] h Q := by
  unfold ex_
  refine (am_Y_go 2 (ok := []) (g := (25, [l0, l1, l2, some (v_i (0 : Int32))], [], h)) rfl).trans ?_
  all_goals exact Iff.rfl

theorem b_X11_isOldOrder_21 {d : Nat} {Q : Option am_V → am_H → Prop} (h : am_H) (l0 l1 l2 l3 : Option am_V) : ex_ d 199 21 [l0, l1, l2, l3] [] h Q ↔ Q (some (v_i (0 : Int32))) h := by
  unfold ex_
  refine (am_Y_go 1 (ok := []) (g := (22, [l0, l1, l2, l3], [v_i (0 : Int32)], h)) rfl).trans ?_
  all_goals exact ((am_Y_ret rfl rfl rfl).trans (am_rz (show am_fit 1 0 from Or.inl rfl)))

theorem b_X11_isOldOrder_25 {d : Nat} {Q : Option am_V → am_H → Prop} (h : am_H) (x3 : Int32) (x2 : Int32) (l0 l1 : Option am_V) : ex_ d 199 25 [l0, l1, some (v_i x2), some (v_i x3)] [] h Q ↔ if x2 ≤ x3 then ex_ d 199 59 [l0, l1, some (v_i x2), some (v_i x3)] [] h Q else ex_ d 199 30 [l0, l1, some (v_i x2), some (v_i x3)] [] h Q := by
  unfold ex_
  refine (am_Y_go 3 (ok := []) (g := (if x2 ≤ x3 then 59 else 30, [l0, l1, some (v_i x2), some (v_i x3)], [], h)) rfl).trans ?_
  all_goals exact am_Y_if

theorem b_X11_isOldOrder_59 {d : Nat} {Q : Option am_V → am_H → Prop} (h : am_H) (l0 l1 l2 l3 : Option am_V) : ex_ d 199 59 [l0, l1, l2, l3] [] h Q ↔ Q (some (v_i (1 : Int32))) h := by
  unfold ex_
  refine (am_Y_go 1 (ok := []) (g := (60, [l0, l1, l2, l3], [v_i (1 : Int32)], h)) rfl).trans ?_
  all_goals exact ((am_Y_ret rfl rfl rfl).trans (am_rz (show am_fit 1 1 from Or.inr rfl)))

theorem b_X11_isOldOrder_30 {d : Nat} {Q : Option am_V → am_H → Prop} (h : am_H) (x1 : Int32) (x3 : Int32) (l2 : Option am_V) (Lh : Lay h) : ex_ (d + 1) 199 30 [some (v_r (some 0)), some (v_i x1), l2, some (v_i x3)] [] h Q ↔ ex_ d 65 0 [some (v_r (some 47)), some (v_i x1), some (v_i x3)] [] h (fun r h' => ex_ (d + 1) 199 39 [some (v_r (some 0)), some (v_i x1), l2, some (v_i x3)] (r.toList ++ []) h' Q) := by
  have e0 : h_r h 0 11 = some 47 := la_r Lh (q := (0, 11, 47)) (by decide)
  unfold ex_
  refine (am_Y_go 4 (ok := [am_is h (some 0) 11]) (g := (36, [some (v_r (some 0)), some (v_i x1), l2, some (v_i x3)], [v_i x3, v_i x1, v_r ((h_r h 0 11))], h)) rfl).trans ?_
  simp only [e0, Option.getD_some, am_all]
  all_goals exact cj_d (la_is Lh (o := 0) rfl) (((am_Y_call (j := 65) (na := 3) (ci := 5) (fl := 0) rfl rfl rfl).trans (cj_d ⟨⟨Nat.le_of_ble_eq_true rfl, Nat.le_of_ble_eq_true rfl, Nat.le_of_ble_eq_true rfl, rfl⟩, Or.inr (Or.inr (show (5 : Nat) < 20 ∧ am_is h (some 47) 5 from ⟨by decide, (la_is Lh (o := 47) rfl)⟩))⟩ Iff.rfl)))

theorem b_X11_isOldOrder_39 {d : Nat} {Q : Option am_V → am_H → Prop} (h : am_H) (s0 : Int32) (x1 : Int32) (x3 : Int32) (l2 : Option am_V) (Lh : Lay h) : ex_ (d + 1) 199 39 [some (v_r (some 0)), some (v_i x1), l2, some (v_i x3)] [v_i s0] h Q ↔ ex_ d 10 0 [some (v_r (some 15)), some (v_i x1), some (v_i x3)] [] h (fun r h' => ex_ (d + 1) 199 48 [some (v_r (some 0)), some (v_i x1), l2, some (v_i x3)] (r.toList ++ [v_i s0]) h' Q) := by
  have e0 : h_r h 0 6 = some 15 := la_r Lh (q := (0, 6, 15)) (by decide)
  unfold ex_
  refine (am_Y_go 4 (ok := [am_is h (some 0) 11]) (g := (45, [some (v_r (some 0)), some (v_i x1), l2, some (v_i x3)], [v_i x3, v_i x1, v_r ((h_r h 0 6)), v_i s0], h)) rfl).trans ?_
  simp only [e0, Option.getD_some, am_all]
  all_goals exact cj_d (la_is Lh (o := 0) rfl) (((am_Y_call (j := 10) (na := 3) (ci := 6) (fl := 0) rfl rfl rfl).trans (cj_d ⟨⟨Nat.le_of_ble_eq_true rfl, Nat.le_of_ble_eq_true rfl, Nat.le_of_ble_eq_true rfl, rfl⟩, Or.inr (Or.inr (show (6 : Nat) < 20 ∧ am_is h (some 15) 6 from ⟨by decide, (la_is Lh (o := 15) rfl)⟩))⟩ Iff.rfl)))

theorem b_X11_isOldOrder_48 {d : Nat} {Q : Option am_V → am_H → Prop} (h : am_H) (s0 : Int32) (s1 : Int32) (l0 l1 l2 l3 : Option am_V) : ex_ d 199 48 [l0, l1, l2, l3] [v_i s0, v_i s1] h Q ↔ if s1 = s0 then ex_ d 199 53 [l0, l1, l2, l3] [] h Q else ex_ d 199 51 [l0, l1, l2, l3] [] h Q := by
  unfold ex_
  refine (am_Y_go 1 (ok := []) (g := (if s1 = s0 then 53 else 51, [l0, l1, l2, l3], [], h)) rfl).trans ?_
  all_goals exact am_Y_if

theorem b_X11_isOldOrder_53 {d : Nat} {Q : Option am_V → am_H → Prop} (h : am_H) (x3 : Int32) (l0 l1 l2 : Option am_V) : ex_ d 199 53 [l0, l1, l2, some (v_i x3)] [] h Q ↔ ex_ d 199 25 [l0, l1, l2, some (v_i (x3 + (1 : Int32)))] [] h Q := by
  unfold ex_
  refine (am_Y_go 2 (ok := []) (g := (25, [l0, l1, l2, some (v_i (x3 + (1 : Int32)))], [], h)) rfl).trans ?_
  all_goals exact Iff.rfl

theorem b_X11_isOldOrder_51 {d : Nat} {Q : Option am_V → am_H → Prop} (h : am_H) (l0 l1 l2 l3 : Option am_V) : ex_ d 199 51 [l0, l1, l2, l3] [] h Q ↔ Q (some (v_i (0 : Int32))) h := by
  unfold ex_
  refine (am_Y_go 1 (ok := []) (g := (52, [l0, l1, l2, l3], [v_i (0 : Int32)], h)) rfl).trans ?_
  all_goals exact ((am_Y_ret rfl rfl rfl).trans (am_rz (show am_fit 1 0 from Or.inl rfl)))

theorem b_X11_same_0 {d : Nat} {Q : Option am_V → am_H → Prop} (h : am_H) (x1 : Int32) (l0 l2 l3 : Option am_V) : ex_ (d + 1) 200 0 [l0, some (v_i x1), l2, l3] [] h Q ↔ ex_ d 196 0 [some (v_i x1)] [] h (fun r h' => ex_ (d + 1) 200 4 [l0, some (v_i x1), l2, l3] (r.toList ++ []) h' Q) := by
  unfold ex_
  refine (am_Y_go 1 (ok := []) (g := (1, [l0, some (v_i x1), l2, l3], [v_i x1], h)) rfl).trans ?_
  all_goals exact ((am_Y_call (j := 196) (na := 1) (ci := 11) (fl := 2) rfl rfl rfl).trans (cj_d ⟨⟨Nat.le_of_ble_eq_true rfl, Nat.le_of_ble_eq_true rfl, Nat.le_of_ble_eq_true rfl, rfl⟩, Or.inl rfl⟩ Iff.rfl))

theorem b_X11_same_4 {d : Nat} {Q : Option am_V → am_H → Prop} (h : am_H) (s0 : Int32) (l0 l1 l2 l3 : Option am_V) : ex_ d 200 4 [l0, l1, l2, l3] [v_i s0] h Q ↔ if ¬ s0 = 0 then ex_ d 200 10 [l0, l1, l2, l3] [] h Q else ex_ d 200 7 [l0, l1, l2, l3] [] h Q := by
  unfold ex_
  refine (am_Y_go 1 (ok := []) (g := (if ¬ s0 = 0 then 10 else 7, [l0, l1, l2, l3], [], h)) rfl).trans ?_
  all_goals exact am_Y_if

theorem b_X11_same_10 {d : Nat} {Q : Option am_V → am_H → Prop} (h : am_H) (x1 : Int32) (l2 l3 : Option am_V) (Lh : Lay h) : ex_ (d + 1) 200 10 [some (v_r (some 0)), some (v_i x1), l2, l3] [] h Q ↔ ex_ d 70 0 [some (v_r (some 47)), some (v_r (some 11)), some (v_i x1), none] [] h (fun r h' => ex_ (d + 1) 200 25 [some (v_r (some 0)), some (v_i x1), l2, l3] (r.toList ++ []) h' Q) := by
  have e0 : h_r h 0 11 = some 47 := la_r Lh (q := (0, 11, 47)) (by decide)
  have e1 : h_r h 0 5 = some 10 := la_r Lh (q := (0, 5, 10)) (by decide)
  have e2 : h_r h 10 0 = some 11 := la_r Lh (q := (10, 0, 11)) (by decide)
  unfold ex_
  refine (am_Y_go 6 (ok := [am_is h (some 0) 11, am_is h (some 0) 11, am_is h ((h_r h 0 5)) 2]) (g := (22, [some (v_r (some 0)), some (v_i x1), l2, l3], [v_i x1, v_r ((h_r h ((h_r h 0 5).getD 0) 0)), v_r ((h_r h 0 11))], h)) rfl).trans ?_
  simp only [e0, e1, e2, Option.getD_some, am_all]
  all_goals exact cj_d (la_is Lh (o := 0) rfl) (cj_d (la_is Lh (o := 0) rfl) (cj_d (la_is Lh (o := 10) rfl) (((am_Y_call (j := 70) (na := 3) (ci := 5) (fl := 0) rfl rfl rfl).trans (cj_d ⟨⟨Nat.le_of_ble_eq_true rfl, Nat.le_of_ble_eq_true rfl, Nat.le_of_ble_eq_true rfl, rfl⟩, Or.inr (Or.inr (show (5 : Nat) < 20 ∧ am_is h (some 47) 5 from ⟨by decide, (la_is Lh (o := 47) rfl)⟩))⟩ Iff.rfl)))))

theorem b_X11_same_7 {d : Nat} {Q : Option am_V → am_H → Prop} (h : am_H) (l0 l1 l2 l3 : Option am_V) : ex_ d 200 7 [l0, l1, l2, l3] [] h Q ↔ Q (some (v_i (-2 : Int32))) h := by
  unfold ex_
  refine (am_Y_go 1 (ok := []) (g := (9, [l0, l1, l2, l3], [v_i (-2 : Int32)], h)) rfl).trans ?_
  all_goals exact ((am_Y_ret rfl rfl rfl).trans (am_r0))

theorem b_X11_same_25 {d : Nat} {Q : Option am_V → am_H → Prop} (h : am_H) (l0 l1 l2 l3 : Option am_V) : ex_ d 200 25 [l0, l1, l2, l3] [] h Q ↔ ex_ d 200 29 [l0, l1, some (v_i (0 : Int32)), some (v_i (0 : Int32))] [] h Q := by
  unfold ex_
  refine (am_Y_go 4 (ok := []) (g := (29, [l0, l1, some (v_i (0 : Int32)), some (v_i (0 : Int32))], [], h)) rfl).trans ?_
  all_goals exact Iff.rfl

theorem b_X11_same_29 {d : Nat} {Q : Option am_V → am_H → Prop} (h : am_H) (x3 : Int32) (l1 l2 : Option am_V) (Lh : Lay h) : ex_ d 200 29 [some (v_r (some 0)), l1, l2, some (v_i x3)] [] h Q ↔ if (h_i h 11 0) ≤ x3 then ex_ d 200 74 [some (v_r (some 0)), l1, l2, some (v_i x3)] [] h Q else ex_ d 200 43 [some (v_r (some 0)), l1, l2, some (v_i x3)] [] h Q := by
  have e0 : h_r h 0 5 = some 10 := la_r Lh (q := (0, 5, 10)) (by decide)
  have e1 : h_r h 10 0 = some 11 := la_r Lh (q := (10, 0, 11)) (by decide)
  unfold ex_
  refine (am_Y_go 6 (ok := [am_is h (some 0) 11, am_is h ((h_r h 0 5)) 2, am_is h ((h_r h ((h_r h 0 5).getD 0) 0)) 1]) (g := (if (h_i h ((h_r h ((h_r h 0 5).getD 0) 0).getD 0) 0) ≤ x3 then 74 else 43, [some (v_r (some 0)), l1, l2, some (v_i x3)], [], h)) rfl).trans ?_
  simp only [e0, e1, Option.getD_some, am_all]
  all_goals exact cj_d (la_is Lh (o := 0) rfl) (cj_d (la_is Lh (o := 10) rfl) (cj_d (la_is Lh (o := 11) rfl) (am_Y_if)))

theorem b_X11_same_74 {d : Nat} {Q : Option am_V → am_H → Prop} (h : am_H) (x2 : Int32) (l0 l1 l3 : Option am_V) : ex_ d 200 74 [l0, l1, some (v_i x2), l3] [] h Q ↔ Q (some (v_i x2)) h := by
  unfold ex_
  refine (am_Y_go 1 (ok := []) (g := (75, [l0, l1, some (v_i x2), l3], [v_i x2], h)) rfl).trans ?_
  all_goals exact ((am_Y_ret rfl rfl rfl).trans (am_r0))

theorem b_X11_same_43 {d : Nat} {Q : Option am_V → am_H → Prop} (h : am_H) (x3 : Int32) (l1 l2 : Option am_V) (Lh : Lay h) : ex_ (d + 1) 200 43 [some (v_r (some 0)), l1, l2, some (v_i x3)] [] h Q ↔ ex_ d 47 0 [some (v_r (some 15)), some (v_i x3)] [] h (fun r h' => ex_ (d + 1) 200 51 [some (v_r (some 0)), l1, l2, some (v_i x3)] (r.toList ++ []) h' Q) := by
  have e0 : h_r h 0 6 = some 15 := la_r Lh (q := (0, 6, 15)) (by decide)
  unfold ex_
  refine (am_Y_go 3 (ok := [am_is h (some 0) 11]) (g := (48, [some (v_r (some 0)), l1, l2, some (v_i x3)], [v_i x3, v_r ((h_r h 0 6))], h)) rfl).trans ?_
  simp only [e0, Option.getD_some, am_all]
  all_goals exact cj_d (la_is Lh (o := 0) rfl) (((am_Y_call (j := 47) (na := 2) (ci := 6) (fl := 0) rfl rfl rfl).trans (cj_d ⟨⟨Nat.le_of_ble_eq_true rfl, Nat.le_of_ble_eq_true rfl, Nat.le_of_ble_eq_true rfl, rfl⟩, Or.inr (Or.inr (show (6 : Nat) < 20 ∧ am_is h (some 15) 6 from ⟨by decide, (la_is Lh (o := 15) rfl)⟩))⟩ Iff.rfl)))

theorem b_X11_same_51 {d : Nat} {Q : Option am_V → am_H → Prop} (h : am_H) (s0 : Int32) (l0 l1 l2 l3 : Option am_V) : ex_ d 200 51 [l0, l1, l2, l3] [v_i s0] h Q ↔ if s0 = 0 then ex_ d 200 68 [l0, l1, l2, l3] [] h Q else ex_ d 200 54 [l0, l1, l2, l3] [] h Q := by
  unfold ex_
  refine (am_Y_go 1 (ok := []) (g := (if s0 = 0 then 68 else 54, [l0, l1, l2, l3], [], h)) rfl).trans ?_
  all_goals exact am_Y_if

theorem b_X11_same_68 {d : Nat} {Q : Option am_V → am_H → Prop} (h : am_H) (x3 : Int32) (l0 l1 l2 : Option am_V) : ex_ d 200 68 [l0, l1, l2, some (v_i x3)] [] h Q ↔ ex_ d 200 29 [l0, l1, l2, some (v_i (x3 + (1 : Int32)))] [] h Q := by
  unfold ex_
  refine (am_Y_go 2 (ok := []) (g := (29, [l0, l1, l2, some (v_i (x3 + (1 : Int32)))], [], h)) rfl).trans ?_
  all_goals exact Iff.rfl

theorem b_X11_same_54 {d : Nat} {Q : Option am_V → am_H → Prop} (h : am_H) (x3 : Int32) (l1 l2 : Option am_V) (Lh : Lay h) : ex_ (d + 1) 200 54 [some (v_r (some 0)), l1, l2, some (v_i x3)] [] h Q ↔ ex_ d 199 0 [some (v_r (some 0)), some (v_i x3), none, none] [] h (fun r h' => ex_ (d + 1) 200 59 [some (v_r (some 0)), l1, l2, some (v_i x3)] (r.toList ++ []) h' Q) := by
  unfold ex_
  refine (am_Y_go 2 (ok := []) (g := (56, [some (v_r (some 0)), l1, l2, some (v_i x3)], [v_i x3, v_r (some 0)], h)) rfl).trans ?_
  all_goals exact ((am_Y_call (j := 199) (na := 2) (ci := 11) (fl := 0) rfl rfl rfl).trans (cj_d ⟨⟨Nat.le_of_ble_eq_true rfl, Nat.le_of_ble_eq_true rfl, Nat.le_of_ble_eq_true rfl, rfl⟩, Or.inr (Or.inr (show (11 : Nat) < 20 ∧ am_is h (some 0) 11 from ⟨by decide, (la_is Lh (o := 0) rfl)⟩))⟩ Iff.rfl))

theorem b_X11_same_59 {d : Nat} {Q : Option am_V → am_H → Prop} (h : am_H) (s0 : Int32) (l0 l1 l2 l3 : Option am_V) : ex_ d 200 59 [l0, l1, l2, l3] [v_i s0] h Q ↔ if s0 = 0 then ex_ d 200 68 [l0, l1, l2, l3] [] h Q else ex_ d 200 62 [l0, l1, l2, l3] [] h Q := by
  unfold ex_
  refine (am_Y_go 1 (ok := []) (g := (if s0 = 0 then 68 else 62, [l0, l1, l2, l3], [], h)) rfl).trans ?_
  all_goals exact am_Y_if

theorem b_X11_same_62 {d : Nat} {Q : Option am_V → am_H → Prop} (h : am_H) (x2 : Int32) (x3 : Int32) (l0 l1 : Option am_V) : ex_ d 200 62 [l0, l1, some (v_i x2), some (v_i x3)] [] h Q ↔ ex_ d 200 29 [l0, l1, some (v_i (x2 ||| ((1 : Int32) <<< (x3 &&& 31)))), some (v_i (x3 + (1 : Int32)))] [] h Q := by
  unfold ex_
  refine (am_Y_go 8 (ok := []) (g := (29, [l0, l1, some (v_i (x2 ||| ((1 : Int32) <<< (x3 &&& 31)))), some (v_i (x3 + (1 : Int32)))], [], h)) rfl).trans ?_
  all_goals exact Iff.rfl

theorem b_X11_call_0 {d : Nat} {Q : Option am_V → am_H → Prop} (h : am_H) (x1 : Int32) (l2 : Option am_V) (Lh : Lay h) : ex_ (d + 1) 201 0 [some (v_r (some 0)), some (v_i x1), l2] [] h Q ↔ ex_ d 3 0 [some (v_r (some 11)), some (v_i x1)] [] h (fun r h' => ex_ (d + 1) 201 11 [some (v_r (some 0)), some (v_i x1), l2] (r.toList ++ []) h' Q) := by
  have e0 : h_r h 0 5 = some 10 := la_r Lh (q := (0, 5, 10)) (by decide)
  have e1 : h_r h 10 0 = some 11 := la_r Lh (q := (10, 0, 11)) (by decide)
  unfold ex_
  refine (am_Y_go 4 (ok := [am_is h (some 0) 11, am_is h ((h_r h 0 5)) 2]) (g := (8, [some (v_r (some 0)), some (v_i x1), l2], [v_i x1, v_r ((h_r h ((h_r h 0 5).getD 0) 0))], h)) rfl).trans ?_
  simp only [e0, e1, Option.getD_some, am_all]
  all_goals exact cj_d (la_is Lh (o := 0) rfl) (cj_d (la_is Lh (o := 10) rfl) (((am_Y_call (j := 3) (na := 2) (ci := 1) (fl := 0) rfl rfl rfl).trans (cj_d ⟨⟨Nat.le_of_ble_eq_true rfl, Nat.le_of_ble_eq_true rfl, Nat.le_of_ble_eq_true rfl, rfl⟩, Or.inr (Or.inr (show (1 : Nat) < 20 ∧ am_is h (some 11) 1 from ⟨by decide, (la_is Lh (o := 11) rfl)⟩))⟩ Iff.rfl))))

theorem b_X11_call_11 {d : Nat} {Q : Option am_V → am_H → Prop} (h : am_H) (s0 : Int32) (l0 l1 l2 : Option am_V) : ex_ d 201 11 [l0, l1, l2] [v_i s0] h Q ↔ if s0 = 0 then ex_ d 201 21 [l0, l1, l2] [] h Q else ex_ d 201 14 [l0, l1, l2] [] h Q := by
  unfold ex_
  refine (am_Y_go 1 (ok := []) (g := (if s0 = 0 then 21 else 14, [l0, l1, l2], [], h)) rfl).trans ?_
  all_goals exact am_Y_if

theorem b_X11_call_21 {d : Nat} {Q : Option am_V → am_H → Prop} (h : am_H) (l0 l1 l2 : Option am_V) : ex_ d 201 21 [l0, l1, l2] [] h Q ↔ Q (some (v_i (-99000002 : Int32))) h := by
  unfold ex_
  refine (am_Y_go 1 (ok := []) (g := (24, [l0, l1, l2], [v_i (-99000002 : Int32)], h)) rfl).trans ?_
  all_goals exact ((am_Y_ret rfl rfl rfl).trans (am_r0))

theorem b_X11_call_14 {d : Nat} {Q : Option am_V → am_H → Prop} (h : am_H) (x2 : Int32) (l0 l1 : Option am_V) : ex_ (d + 1) 201 14 [l0, l1, some (v_i x2)] [] h Q ↔ ex_ d 31 0 [some (v_i x2)] [] h (fun r h' => ex_ (d + 1) 201 18 [l0, l1, some (v_i x2)] (r.toList ++ []) h' Q) := by
  unfold ex_
  refine (am_Y_go 1 (ok := []) (g := (15, [l0, l1, some (v_i x2)], [v_i x2], h)) rfl).trans ?_
  all_goals exact ((am_Y_call (j := 31) (na := 1) (ci := 11) (fl := 2) rfl rfl rfl).trans (cj_d ⟨⟨Nat.le_of_ble_eq_true rfl, Nat.le_of_ble_eq_true rfl, Nat.le_of_ble_eq_true rfl, rfl⟩, Or.inl rfl⟩ Iff.rfl))

theorem b_X11_call_18 {d : Nat} {Q : Option am_V → am_H → Prop} (h : am_H) (s0 : Int32) (l0 l1 l2 : Option am_V) : ex_ d 201 18 [l0, l1, l2] [v_i s0] h Q ↔ if ¬ s0 = 0 then ex_ d 201 25 [l0, l1, l2] [] h Q else ex_ d 201 21 [l0, l1, l2] [] h Q := by
  unfold ex_
  refine (am_Y_go 1 (ok := []) (g := (if ¬ s0 = 0 then 25 else 21, [l0, l1, l2], [], h)) rfl).trans ?_
  all_goals exact am_Y_if

theorem b_X11_call_25 {d : Nat} {Q : Option am_V → am_H → Prop} (h : am_H) (x1 : Int32) (l2 : Option am_V) (Lh : Lay h) : ex_ (d + 1) 201 25 [some (v_r (some 0)), some (v_i x1), l2] [] h Q ↔ ex_ d 47 0 [some (v_r (some 15)), some (v_i x1)] [] h (fun r h' => ex_ (d + 1) 201 33 [some (v_r (some 0)), some (v_i x1), l2] (r.toList ++ []) h' Q) := by
  have e0 : h_r h 0 6 = some 15 := la_r Lh (q := (0, 6, 15)) (by decide)
  unfold ex_
  refine (am_Y_go 3 (ok := [am_is h (some 0) 11]) (g := (30, [some (v_r (some 0)), some (v_i x1), l2], [v_i x1, v_r ((h_r h 0 6))], h)) rfl).trans ?_
  simp only [e0, Option.getD_some, am_all]
  all_goals exact cj_d (la_is Lh (o := 0) rfl) (((am_Y_call (j := 47) (na := 2) (ci := 6) (fl := 0) rfl rfl rfl).trans (cj_d ⟨⟨Nat.le_of_ble_eq_true rfl, Nat.le_of_ble_eq_true rfl, Nat.le_of_ble_eq_true rfl, rfl⟩, Or.inr (Or.inr (show (6 : Nat) < 20 ∧ am_is h (some 15) 6 from ⟨by decide, (la_is Lh (o := 15) rfl)⟩))⟩ Iff.rfl)))

theorem b_X11_call_33 {d : Nat} {Q : Option am_V → am_H → Prop} (h : am_H) (s0 : Int32) (l0 l1 l2 : Option am_V) : ex_ d 201 33 [l0, l1, l2] [v_i s0] h Q ↔ if ¬ s0 = 0 then ex_ d 201 40 [l0, l1, l2] [] h Q else ex_ d 201 36 [l0, l1, l2] [] h Q := by
  unfold ex_
  refine (am_Y_go 1 (ok := []) (g := (if ¬ s0 = 0 then 40 else 36, [l0, l1, l2], [], h)) rfl).trans ?_
  all_goals exact am_Y_if

theorem b_X11_call_40 {d : Nat} {Q : Option am_V → am_H → Prop} (h : am_H) (x1 : Int32) (x2 : Int32) (Lh : Lay h) : ex_ (d + 1) 201 40 [some (v_r (some 0)), some (v_i x1), some (v_i x2)] [] h Q ↔ ex_ d 157 0 [some (v_r (some 51)), some (v_i x1), some (v_i x2), some (v_i (h_i h 11 1)), none] [] h (fun r h' => ex_ (d + 1) 201 59 [some (v_r (some 0)), some (v_i x1), some (v_i x2)] (r.toList ++ []) h' Q) := by
  have e0 : h_r h 0 12 = some 51 := la_r Lh (q := (0, 12, 51)) (by decide)
  have e1 : h_r h 0 5 = some 10 := la_r Lh (q := (0, 5, 10)) (by decide)
  have e2 : h_r h 10 0 = some 11 := la_r Lh (q := (10, 0, 11)) (by decide)
  unfold ex_
  refine (am_Y_go 8 (ok := [am_is h (some 0) 11, am_is h (some 0) 11, am_is h ((h_r h 0 5)) 2, am_is h ((h_r h ((h_r h 0 5).getD 0) 0)) 1]) (g := (56, [some (v_r (some 0)), some (v_i x1), some (v_i x2)], [v_i (h_i h ((h_r h ((h_r h 0 5).getD 0) 0).getD 0) 1), v_i x2, v_i x1, v_r ((h_r h 0 12))], h)) rfl).trans ?_
  simp only [e0, e1, e2, Option.getD_some, am_all]
  all_goals exact cj_d (la_is Lh (o := 0) rfl) (cj_d (la_is Lh (o := 0) rfl) (cj_d (la_is Lh (o := 10) rfl) (cj_d (la_is Lh (o := 11) rfl) (((am_Y_call (j := 157) (na := 4) (ci := 10) (fl := 0) rfl rfl rfl).trans (cj_d ⟨⟨Nat.le_of_ble_eq_true rfl, Nat.le_of_ble_eq_true rfl, Nat.le_of_ble_eq_true rfl, rfl⟩, Or.inr (Or.inr (show (10 : Nat) < 20 ∧ am_is h (some 51) 10 from ⟨by decide, (la_is Lh (o := 51) rfl)⟩))⟩ Iff.rfl))))))

theorem b_X11_call_36 {d : Nat} {Q : Option am_V → am_H → Prop} (h : am_H) (l0 l1 l2 : Option am_V) : ex_ d 201 36 [l0, l1, l2] [] h Q ↔ Q (some (v_i (-99000005 : Int32))) h := by
  unfold ex_
  refine (am_Y_go 1 (ok := []) (g := (39, [l0, l1, l2], [v_i (-99000005 : Int32)], h)) rfl).trans ?_
  all_goals exact ((am_Y_ret rfl rfl rfl).trans (am_r0))

theorem b_X11_call_59 {d : Nat} {Q : Option am_V → am_H → Prop} (h : am_H) (s0 : Int32) (l0 l1 l2 : Option am_V) : ex_ d 201 59 [l0, l1, l2] [v_i s0] h Q ↔ Q (some (v_i s0)) h := by
  unfold ex_
  exact ((am_Y_ret rfl rfl rfl).trans (am_r0))

theorem b_X11_through_0 {d : Nat} {Q : Option am_V → am_H → Prop} (h : am_H) (x1 : Int32) (l2 l3 : Option am_V) (Lh : Lay h) : ex_ (d + 1) 202 0 [some (v_r (some 0)), some (v_i x1), l2, l3] [] h Q ↔ ex_ d 3 0 [some (v_r (some 11)), some (v_i x1)] [] h (fun r h' => ex_ (d + 1) 202 11 [some (v_r (some 0)), some (v_i x1), l2, l3] (r.toList ++ []) h' Q) := by
  have e0 : h_r h 0 5 = some 10 := la_r Lh (q := (0, 5, 10)) (by decide)
  have e1 : h_r h 10 0 = some 11 := la_r Lh (q := (10, 0, 11)) (by decide)
  unfold ex_
  refine (am_Y_go 4 (ok := [am_is h (some 0) 11, am_is h ((h_r h 0 5)) 2]) (g := (8, [some (v_r (some 0)), some (v_i x1), l2, l3], [v_i x1, v_r ((h_r h ((h_r h 0 5).getD 0) 0))], h)) rfl).trans ?_
  simp only [e0, e1, Option.getD_some, am_all]
  all_goals exact cj_d (la_is Lh (o := 0) rfl) (cj_d (la_is Lh (o := 10) rfl) (((am_Y_call (j := 3) (na := 2) (ci := 1) (fl := 0) rfl rfl rfl).trans (cj_d ⟨⟨Nat.le_of_ble_eq_true rfl, Nat.le_of_ble_eq_true rfl, Nat.le_of_ble_eq_true rfl, rfl⟩, Or.inr (Or.inr (show (1 : Nat) < 20 ∧ am_is h (some 11) 1 from ⟨by decide, (la_is Lh (o := 11) rfl)⟩))⟩ Iff.rfl))))

theorem b_X11_through_11 {d : Nat} {Q : Option am_V → am_H → Prop} (h : am_H) (s0 : Int32) (l0 l1 l2 l3 : Option am_V) : ex_ d 202 11 [l0, l1, l2, l3] [v_i s0] h Q ↔ if s0 = 0 then ex_ d 202 21 [l0, l1, l2, l3] [] h Q else ex_ d 202 14 [l0, l1, l2, l3] [] h Q := by
  unfold ex_
  refine (am_Y_go 1 (ok := []) (g := (if s0 = 0 then 21 else 14, [l0, l1, l2, l3], [], h)) rfl).trans ?_
  all_goals exact am_Y_if

theorem b_X11_through_21 {d : Nat} {Q : Option am_V → am_H → Prop} (h : am_H) (l0 l1 l2 l3 : Option am_V) : ex_ d 202 21 [l0, l1, l2, l3] [] h Q ↔ Q (some (v_i (-2 : Int32))) h := by
  unfold ex_
  refine (am_Y_go 1 (ok := []) (g := (23, [l0, l1, l2, l3], [v_i (-2 : Int32)], h)) rfl).trans ?_
  all_goals exact ((am_Y_ret rfl rfl rfl).trans (am_r0))

theorem b_X11_through_14 {d : Nat} {Q : Option am_V → am_H → Prop} (h : am_H) (x2 : Int32) (l0 l1 l3 : Option am_V) : ex_ (d + 1) 202 14 [l0, l1, some (v_i x2), l3] [] h Q ↔ ex_ d 31 0 [some (v_i x2)] [] h (fun r h' => ex_ (d + 1) 202 18 [l0, l1, some (v_i x2), l3] (r.toList ++ []) h' Q) := by
  unfold ex_
  refine (am_Y_go 1 (ok := []) (g := (15, [l0, l1, some (v_i x2), l3], [v_i x2], h)) rfl).trans ?_
  all_goals exact ((am_Y_call (j := 31) (na := 1) (ci := 11) (fl := 2) rfl rfl rfl).trans (cj_d ⟨⟨Nat.le_of_ble_eq_true rfl, Nat.le_of_ble_eq_true rfl, Nat.le_of_ble_eq_true rfl, rfl⟩, Or.inl rfl⟩ Iff.rfl))

theorem b_X11_through_18 {d : Nat} {Q : Option am_V → am_H → Prop} (h : am_H) (s0 : Int32) (l0 l1 l2 l3 : Option am_V) : ex_ d 202 18 [l0, l1, l2, l3] [v_i s0] h Q ↔ if ¬ s0 = 0 then ex_ d 202 24 [l0, l1, l2, l3] [] h Q else ex_ d 202 21 [l0, l1, l2, l3] [] h Q := by
  unfold ex_
  refine (am_Y_go 1 (ok := []) (g := (if ¬ s0 = 0 then 24 else 21, [l0, l1, l2, l3], [], h)) rfl).trans ?_
  all_goals exact am_Y_if

theorem b_X11_through_24 {d : Nat} {Q : Option am_V → am_H → Prop} (h : am_H) (x3 : Int32) (l0 l1 l2 : Option am_V) : ex_ d 202 24 [l0, l1, l2, some (v_i x3)] [] h Q ↔ if 0 ≤ x3 then ex_ d 202 31 [l0, l1, l2, some (v_i x3)] [] h Q else ex_ d 202 28 [l0, l1, l2, some (v_i x3)] [] h Q := by
  unfold ex_
  refine (am_Y_go 2 (ok := []) (g := (if 0 ≤ x3 then 31 else 28, [l0, l1, l2, some (v_i x3)], [], h)) rfl).trans ?_
  all_goals exact am_Y_if

theorem b_X11_through_31 {d : Nat} {Q : Option am_V → am_H → Prop} (h : am_H) (x1 : Int32) (l2 l3 : Option am_V) (Lh : Lay h) : ex_ (d + 1) 202 31 [some (v_r (some 0)), some (v_i x1), l2, l3] [] h Q ↔ ex_ d 47 0 [some (v_r (some 15)), some (v_i x1)] [] h (fun r h' => ex_ (d + 1) 202 39 [some (v_r (some 0)), some (v_i x1), l2, l3] (r.toList ++ []) h' Q) := by
  have e0 : h_r h 0 6 = some 15 := la_r Lh (q := (0, 6, 15)) (by decide)
  unfold ex_
  refine (am_Y_go 3 (ok := [am_is h (some 0) 11]) (g := (36, [some (v_r (some 0)), some (v_i x1), l2, l3], [v_i x1, v_r ((h_r h 0 6))], h)) rfl).trans ?_
  simp only [e0, Option.getD_some, am_all]
  all_goals exact cj_d (la_is Lh (o := 0) rfl) (((am_Y_call (j := 47) (na := 2) (ci := 6) (fl := 0) rfl rfl rfl).trans (cj_d ⟨⟨Nat.le_of_ble_eq_true rfl, Nat.le_of_ble_eq_true rfl, Nat.le_of_ble_eq_true rfl, rfl⟩, Or.inr (Or.inr (show (6 : Nat) < 20 ∧ am_is h (some 15) 6 from ⟨by decide, (la_is Lh (o := 15) rfl)⟩))⟩ Iff.rfl)))

theorem b_X11_through_28 {d : Nat} {Q : Option am_V → am_H → Prop} (h : am_H) (l0 l1 l2 l3 : Option am_V) : ex_ d 202 28 [l0, l1, l2, l3] [] h Q ↔ Q (some (v_i (-3 : Int32))) h := by
  unfold ex_
  refine (am_Y_go 1 (ok := []) (g := (30, [l0, l1, l2, l3], [v_i (-3 : Int32)], h)) rfl).trans ?_
  all_goals exact ((am_Y_ret rfl rfl rfl).trans (am_r0))

theorem b_X11_through_39 {d : Nat} {Q : Option am_V → am_H → Prop} (h : am_H) (s0 : Int32) (l0 l1 l2 l3 : Option am_V) : ex_ d 202 39 [l0, l1, l2, l3] [v_i s0] h Q ↔ if ¬ s0 = 0 then ex_ d 202 45 [l0, l1, l2, l3] [] h Q else ex_ d 202 42 [l0, l1, l2, l3] [] h Q := by
  unfold ex_
  refine (am_Y_go 1 (ok := []) (g := (if ¬ s0 = 0 then 45 else 42, [l0, l1, l2, l3], [], h)) rfl).trans ?_
  all_goals exact am_Y_if

theorem b_X11_through_45 {d : Nat} {Q : Option am_V → am_H → Prop} (h : am_H) (x1 : Int32) (x2 : Int32) (l3 : Option am_V) (Lh : Lay h) : ex_ (d + 1) 202 45 [some (v_r (some 0)), some (v_i x1), some (v_i x2), l3] [] h Q ↔ ex_ d 155 0 [some (v_r (some 51)), some (v_i x1), some (v_i x2), some (v_i (h_i h 11 1)), none, none] [] h (fun r h' => ex_ (d + 1) 202 64 [some (v_r (some 0)), some (v_i x1), some (v_i x2), l3] (r.toList ++ []) h' Q) := by
  have e0 : h_r h 0 12 = some 51 := la_r Lh (q := (0, 12, 51)) (by decide)
  have e1 : h_r h 0 5 = some 10 := la_r Lh (q := (0, 5, 10)) (by decide)
  have e2 : h_r h 10 0 = some 11 := la_r Lh (q := (10, 0, 11)) (by decide)
  unfold ex_
  refine (am_Y_go 8 (ok := [am_is h (some 0) 11, am_is h (some 0) 11, am_is h ((h_r h 0 5)) 2, am_is h ((h_r h ((h_r h 0 5).getD 0) 0)) 1]) (g := (61, [some (v_r (some 0)), some (v_i x1), some (v_i x2), l3], [v_i (h_i h ((h_r h ((h_r h 0 5).getD 0) 0).getD 0) 1), v_i x2, v_i x1, v_r ((h_r h 0 12))], h)) rfl).trans ?_
  simp only [e0, e1, e2, Option.getD_some, am_all]
  all_goals exact cj_d (la_is Lh (o := 0) rfl) (cj_d (la_is Lh (o := 0) rfl) (cj_d (la_is Lh (o := 10) rfl) (cj_d (la_is Lh (o := 11) rfl) (((am_Y_call (j := 155) (na := 4) (ci := 10) (fl := 0) rfl rfl rfl).trans (cj_d ⟨⟨Nat.le_of_ble_eq_true rfl, Nat.le_of_ble_eq_true rfl, Nat.le_of_ble_eq_true rfl, rfl⟩, Or.inr (Or.inr (show (10 : Nat) < 20 ∧ am_is h (some 51) 10 from ⟨by decide, (la_is Lh (o := 51) rfl)⟩))⟩ Iff.rfl))))))

theorem b_X11_through_42 {d : Nat} {Q : Option am_V → am_H → Prop} (h : am_H) (l0 l1 l2 l3 : Option am_V) : ex_ d 202 42 [l0, l1, l2, l3] [] h Q ↔ Q (some (v_i (-5 : Int32))) h := by
  unfold ex_
  refine (am_Y_go 1 (ok := []) (g := (44, [l0, l1, l2, l3], [v_i (-5 : Int32)], h)) rfl).trans ?_
  all_goals exact ((am_Y_ret rfl rfl rfl).trans (am_r0))

theorem b_X11_through_64 {d : Nat} {Q : Option am_V → am_H → Prop} (h : am_H) (x3 : Int32) (l1 l2 : Option am_V) (Lh : Lay h) : ex_ (d + 1) 202 64 [some (v_r (some 0)), l1, l2, some (v_i x3)] [] h Q ↔ ex_ d 156 0 [some (v_r (some 51)), some (v_i x3)] [] h (fun r h' => ex_ (d + 1) 202 72 [some (v_r (some 0)), l1, l2, some (v_i x3)] (r.toList ++ []) h' Q) := by
  have e0 : h_r h 0 12 = some 51 := la_r Lh (q := (0, 12, 51)) (by decide)
  unfold ex_
  refine (am_Y_go 3 (ok := [am_is h (some 0) 11]) (g := (69, [some (v_r (some 0)), l1, l2, some (v_i x3)], [v_i x3, v_r ((h_r h 0 12))], h)) rfl).trans ?_
  simp only [e0, Option.getD_some, am_all]
  all_goals exact cj_d (la_is Lh (o := 0) rfl) (((am_Y_call (j := 156) (na := 2) (ci := 10) (fl := 0) rfl rfl rfl).trans (cj_d ⟨⟨Nat.le_of_ble_eq_true rfl, Nat.le_of_ble_eq_true rfl, Nat.le_of_ble_eq_true rfl, rfl⟩, Or.inr (Or.inr (show (10 : Nat) < 20 ∧ am_is h (some 51) 10 from ⟨by decide, (la_is Lh (o := 51) rfl)⟩))⟩ Iff.rfl)))

theorem b_X11_through_72 {d : Nat} {Q : Option am_V → am_H → Prop} (h : am_H) (s0 : Int32) (l0 l1 l2 l3 : Option am_V) : ex_ d 202 72 [l0, l1, l2, l3] [v_i s0] h Q ↔ Q (some (v_i s0)) h := by
  unfold ex_
  exact ((am_Y_ret rfl rfl rfl).trans (am_r0))

theorem b_X11_serves_0 {d : Nat} {Q : Option am_V → am_H → Prop} (h : am_H) (x1 : Int32) (l2 l3 l4 : Option am_V) (Lh : Lay h) : ex_ (d + 1) 203 0 [some (v_r (some 0)), some (v_i x1), l2, l3, l4] [] h Q ↔ ex_ d 3 0 [some (v_r (some 11)), some (v_i x1)] [] h (fun r h' => ex_ (d + 1) 203 11 [some (v_r (some 0)), some (v_i x1), l2, l3, l4] (r.toList ++ []) h' Q) := by
  have e0 : h_r h 0 5 = some 10 := la_r Lh (q := (0, 5, 10)) (by decide)
  have e1 : h_r h 10 0 = some 11 := la_r Lh (q := (10, 0, 11)) (by decide)
  unfold ex_
  refine (am_Y_go 4 (ok := [am_is h (some 0) 11, am_is h ((h_r h 0 5)) 2]) (g := (8, [some (v_r (some 0)), some (v_i x1), l2, l3, l4], [v_i x1, v_r ((h_r h ((h_r h 0 5).getD 0) 0))], h)) rfl).trans ?_
  simp only [e0, e1, Option.getD_some, am_all]
  all_goals exact cj_d (la_is Lh (o := 0) rfl) (cj_d (la_is Lh (o := 10) rfl) (((am_Y_call (j := 3) (na := 2) (ci := 1) (fl := 0) rfl rfl rfl).trans (cj_d ⟨⟨Nat.le_of_ble_eq_true rfl, Nat.le_of_ble_eq_true rfl, Nat.le_of_ble_eq_true rfl, rfl⟩, Or.inr (Or.inr (show (1 : Nat) < 20 ∧ am_is h (some 11) 1 from ⟨by decide, (la_is Lh (o := 11) rfl)⟩))⟩ Iff.rfl))))

theorem b_X11_serves_11 {d : Nat} {Q : Option am_V → am_H → Prop} (h : am_H) (s0 : Int32) (l0 l1 l2 l3 l4 : Option am_V) : ex_ d 203 11 [l0, l1, l2, l3, l4] [v_i s0] h Q ↔ if s0 = 0 then ex_ d 203 21 [l0, l1, l2, l3, l4] [] h Q else ex_ d 203 14 [l0, l1, l2, l3, l4] [] h Q := by
  unfold ex_
  refine (am_Y_go 1 (ok := []) (g := (if s0 = 0 then 21 else 14, [l0, l1, l2, l3, l4], [], h)) rfl).trans ?_
  all_goals exact am_Y_if

theorem b_X11_serves_21 {d : Nat} {Q : Option am_V → am_H → Prop} (h : am_H) (l0 l1 l2 l3 l4 : Option am_V) : ex_ d 203 21 [l0, l1, l2, l3, l4] [] h Q ↔ Q (some (v_i (-2 : Int32))) h := by
  unfold ex_
  refine (am_Y_go 1 (ok := []) (g := (23, [l0, l1, l2, l3, l4], [v_i (-2 : Int32)], h)) rfl).trans ?_
  all_goals exact ((am_Y_ret rfl rfl rfl).trans (am_r0))

theorem b_X11_serves_14 {d : Nat} {Q : Option am_V → am_H → Prop} (h : am_H) (x2 : Int32) (l0 l1 l3 l4 : Option am_V) : ex_ (d + 1) 203 14 [l0, l1, some (v_i x2), l3, l4] [] h Q ↔ ex_ d 31 0 [some (v_i x2)] [] h (fun r h' => ex_ (d + 1) 203 18 [l0, l1, some (v_i x2), l3, l4] (r.toList ++ []) h' Q) := by
  unfold ex_
  refine (am_Y_go 1 (ok := []) (g := (15, [l0, l1, some (v_i x2), l3, l4], [v_i x2], h)) rfl).trans ?_
  all_goals exact ((am_Y_call (j := 31) (na := 1) (ci := 11) (fl := 2) rfl rfl rfl).trans (cj_d ⟨⟨Nat.le_of_ble_eq_true rfl, Nat.le_of_ble_eq_true rfl, Nat.le_of_ble_eq_true rfl, rfl⟩, Or.inl rfl⟩ Iff.rfl))

theorem b_X11_serves_18 {d : Nat} {Q : Option am_V → am_H → Prop} (h : am_H) (s0 : Int32) (l0 l1 l2 l3 l4 : Option am_V) : ex_ d 203 18 [l0, l1, l2, l3, l4] [v_i s0] h Q ↔ if ¬ s0 = 0 then ex_ d 203 24 [l0, l1, l2, l3, l4] [] h Q else ex_ d 203 21 [l0, l1, l2, l3, l4] [] h Q := by
  unfold ex_
  refine (am_Y_go 1 (ok := []) (g := (if ¬ s0 = 0 then 24 else 21, [l0, l1, l2, l3, l4], [], h)) rfl).trans ?_
  all_goals exact am_Y_if

theorem b_X11_serves_24 {d : Nat} {Q : Option am_V → am_H → Prop} (h : am_H) (l0 l1 l2 l3 l4 : Option am_V) : ex_ d 203 24 [l0, l1, l2, l3, l4] [] h Q ↔ ex_ d 203 29 [l0, l1, l2, some (v_i (0 : Int32)), some (v_i (0 : Int32))] [] h Q := by
  unfold ex_
  refine (am_Y_go 4 (ok := []) (g := (29, [l0, l1, l2, some (v_i (0 : Int32)), some (v_i (0 : Int32))], [], h)) rfl).trans ?_
  all_goals exact Iff.rfl

theorem b_X11_serves_29 {d : Nat} {Q : Option am_V → am_H → Prop} (h : am_H) (x4 : Int32) (l1 l2 l3 : Option am_V) (Lh : Lay h) : ex_ d 203 29 [some (v_r (some 0)), l1, l2, l3, some (v_i x4)] [] h Q ↔ if (h_i h 11 0) ≤ x4 then ex_ d 203 89 [some (v_r (some 0)), l1, l2, l3, some (v_i x4)] [] h Q else ex_ d 203 44 [some (v_r (some 0)), l1, l2, l3, some (v_i x4)] [] h Q := by
  have e0 : h_r h 0 5 = some 10 := la_r Lh (q := (0, 5, 10)) (by decide)
  have e1 : h_r h 10 0 = some 11 := la_r Lh (q := (10, 0, 11)) (by decide)
  unfold ex_
  refine (am_Y_go 6 (ok := [am_is h (some 0) 11, am_is h ((h_r h 0 5)) 2, am_is h ((h_r h ((h_r h 0 5).getD 0) 0)) 1]) (g := (if (h_i h ((h_r h ((h_r h 0 5).getD 0) 0).getD 0) 0) ≤ x4 then 89 else 44, [some (v_r (some 0)), l1, l2, l3, some (v_i x4)], [], h)) rfl).trans ?_
  simp only [e0, e1, Option.getD_some, am_all]
  all_goals exact cj_d (la_is Lh (o := 0) rfl) (cj_d (la_is Lh (o := 10) rfl) (cj_d (la_is Lh (o := 11) rfl) (am_Y_if)))

theorem b_X11_serves_89 {d : Nat} {Q : Option am_V → am_H → Prop} (h : am_H) (x3 : Int32) (l0 l1 l2 l4 : Option am_V) : ex_ d 203 89 [l0, l1, l2, some (v_i x3), l4] [] h Q ↔ Q (some (v_i x3)) h := by
  unfold ex_
  refine (am_Y_go 1 (ok := []) (g := (90, [l0, l1, l2, some (v_i x3), l4], [v_i x3], h)) rfl).trans ?_
  all_goals exact ((am_Y_ret rfl rfl rfl).trans (am_r0))

theorem b_X11_serves_44 {d : Nat} {Q : Option am_V → am_H → Prop} (h : am_H) (x4 : Int32) (x2 : Int32) (l1 l3 : Option am_V) (Lh : Lay h) : ex_ (d + 1) 203 44 [some (v_r (some 0)), l1, some (v_i x2), l3, some (v_i x4)] [] h Q ↔ ex_ d 155 0 [some (v_r (some 51)), some (v_i x4), some (v_i x2), some (v_i (h_i h 11 1)), none, none] [] h (fun r h' => ex_ (d + 1) 203 64 [some (v_r (some 0)), l1, some (v_i x2), l3, some (v_i x4)] (r.toList ++ []) h' Q) := by
  have e0 : h_r h 0 12 = some 51 := la_r Lh (q := (0, 12, 51)) (by decide)
  have e1 : h_r h 0 5 = some 10 := la_r Lh (q := (0, 5, 10)) (by decide)
  have e2 : h_r h 10 0 = some 11 := la_r Lh (q := (10, 0, 11)) (by decide)
  unfold ex_
  refine (am_Y_go 8 (ok := [am_is h (some 0) 11, am_is h (some 0) 11, am_is h ((h_r h 0 5)) 2, am_is h ((h_r h ((h_r h 0 5).getD 0) 0)) 1]) (g := (61, [some (v_r (some 0)), l1, some (v_i x2), l3, some (v_i x4)], [v_i (h_i h ((h_r h ((h_r h 0 5).getD 0) 0).getD 0) 1), v_i x2, v_i x4, v_r ((h_r h 0 12))], h)) rfl).trans ?_
  simp only [e0, e1, e2, Option.getD_some, am_all]
  all_goals exact cj_d (la_is Lh (o := 0) rfl) (cj_d (la_is Lh (o := 0) rfl) (cj_d (la_is Lh (o := 10) rfl) (cj_d (la_is Lh (o := 11) rfl) (((am_Y_call (j := 155) (na := 4) (ci := 10) (fl := 0) rfl rfl rfl).trans (cj_d ⟨⟨Nat.le_of_ble_eq_true rfl, Nat.le_of_ble_eq_true rfl, Nat.le_of_ble_eq_true rfl, rfl⟩, Or.inr (Or.inr (show (10 : Nat) < 20 ∧ am_is h (some 51) 10 from ⟨by decide, (la_is Lh (o := 51) rfl)⟩))⟩ Iff.rfl))))))

theorem b_X11_serves_64 {d : Nat} {Q : Option am_V → am_H → Prop} (h : am_H) (l1 l2 l3 l4 : Option am_V) (Lh : Lay h) : ex_ (d + 1) 203 64 [some (v_r (some 0)), l1, l2, l3, l4] [] h Q ↔ ex_ d 156 0 [some (v_r (some 51)), some (v_i (0 : Int32))] [] h (fun r h' => ex_ (d + 1) 203 72 [some (v_r (some 0)), l1, l2, l3, l4] (r.toList ++ []) h' Q) := by
  have e0 : h_r h 0 12 = some 51 := la_r Lh (q := (0, 12, 51)) (by decide)
  unfold ex_
  refine (am_Y_go 3 (ok := [am_is h (some 0) 11]) (g := (69, [some (v_r (some 0)), l1, l2, l3, l4], [v_i (0 : Int32), v_r ((h_r h 0 12))], h)) rfl).trans ?_
  simp only [e0, Option.getD_some, am_all]
  all_goals exact cj_d (la_is Lh (o := 0) rfl) (((am_Y_call (j := 156) (na := 2) (ci := 10) (fl := 0) rfl rfl rfl).trans (cj_d ⟨⟨Nat.le_of_ble_eq_true rfl, Nat.le_of_ble_eq_true rfl, Nat.le_of_ble_eq_true rfl, rfl⟩, Or.inr (Or.inr (show (10 : Nat) < 20 ∧ am_is h (some 51) 10 from ⟨by decide, (la_is Lh (o := 51) rfl)⟩))⟩ Iff.rfl)))

theorem b_X11_serves_72 {d : Nat} {Q : Option am_V → am_H → Prop} (h : am_H) (s0 : Int32) (x1 : Int32) (l0 l2 l3 l4 : Option am_V) : ex_ d 203 72 [l0, some (v_i x1), l2, l3, l4] [v_i s0] h Q ↔ if ¬ s0 = x1 then ex_ d 203 83 [l0, some (v_i x1), l2, l3, l4] [] h Q else ex_ d 203 76 [l0, some (v_i x1), l2, l3, l4] [] h Q := by
  unfold ex_
  refine (am_Y_go 2 (ok := []) (g := (if ¬ s0 = x1 then 83 else 76, [l0, some (v_i x1), l2, l3, l4], [], h)) rfl).trans ?_
  all_goals exact am_Y_if

theorem b_X11_serves_83 {d : Nat} {Q : Option am_V → am_H → Prop} (h : am_H) (x4 : Int32) (l0 l1 l2 l3 : Option am_V) : ex_ d 203 83 [l0, l1, l2, l3, some (v_i x4)] [] h Q ↔ ex_ d 203 29 [l0, l1, l2, l3, some (v_i (x4 + (1 : Int32)))] [] h Q := by
  unfold ex_
  refine (am_Y_go 2 (ok := []) (g := (29, [l0, l1, l2, l3, some (v_i (x4 + (1 : Int32)))], [], h)) rfl).trans ?_
  all_goals exact Iff.rfl

theorem b_X11_serves_76 {d : Nat} {Q : Option am_V → am_H → Prop} (h : am_H) (x3 : Int32) (x4 : Int32) (l0 l1 l2 : Option am_V) : ex_ d 203 76 [l0, l1, l2, some (v_i x3), some (v_i x4)] [] h Q ↔ ex_ d 203 29 [l0, l1, l2, some (v_i (x3 ||| ((1 : Int32) <<< (x4 &&& 31)))), some (v_i (x4 + (1 : Int32)))] [] h Q := by
  unfold ex_
  refine (am_Y_go 8 (ok := []) (g := (29, [l0, l1, l2, some (v_i (x3 ||| ((1 : Int32) <<< (x4 &&& 31)))), some (v_i (x4 + (1 : Int32)))], [], h)) rfl).trans ?_
  all_goals exact Iff.rfl

theorem b_X11_dead_0 {d : Nat} {Q : Option am_V → am_H → Prop} (h : am_H) (l1 l2 : Option am_V) (Lh : Lay h) : ex_ (d + 1) 204 0 [some (v_r (some 0)), l1, l2] [] h Q ↔ ex_ d 159 0 [some (v_r (some 51)), none, none, none] [] h (fun r h' => ex_ (d + 1) 204 7 [some (v_r (some 0)), l1, l2] (r.toList ++ []) h' Q) := by
  have e0 : h_r h 0 12 = some 51 := la_r Lh (q := (0, 12, 51)) (by decide)
  unfold ex_
  refine (am_Y_go 2 (ok := [am_is h (some 0) 11]) (g := (4, [some (v_r (some 0)), l1, l2], [v_r ((h_r h 0 12))], h)) rfl).trans ?_
  simp only [e0, Option.getD_some, am_all]
  all_goals exact cj_d (la_is Lh (o := 0) rfl) (((am_Y_call (j := 159) (na := 1) (ci := 10) (fl := 0) rfl rfl rfl).trans (cj_d ⟨⟨Nat.le_of_ble_eq_true rfl, Nat.le_of_ble_eq_true rfl, Nat.le_of_ble_eq_true rfl, rfl⟩, Or.inr (Or.inr (show (10 : Nat) < 20 ∧ am_is h (some 51) 10 from ⟨by decide, (la_is Lh (o := 51) rfl)⟩))⟩ Iff.rfl)))

theorem b_X11_dead_7 {d : Nat} {Q : Option am_V → am_H → Prop} (h : am_H) (l0 l1 l2 : Option am_V) : ex_ d 204 7 [l0, l1, l2] [] h Q ↔ ex_ d 204 11 [l0, some (v_i (0 : Int32)), some (v_i (0 : Int32))] [] h Q := by
  unfold ex_
  refine (am_Y_go 4 (ok := []) (g := (11, [l0, some (v_i (0 : Int32)), some (v_i (0 : Int32))], [], h)) rfl).trans ?_
  all_goals exact Iff.rfl

theorem b_X11_dead_11 {d : Nat} {Q : Option am_V → am_H → Prop} (h : am_H) (x2 : Int32) (l0 l1 : Option am_V) : ex_ d 204 11 [l0, l1, some (v_i x2)] [] h Q ↔ if (100 : Int32) ≤ x2 then ex_ d 204 44 [l0, l1, some (v_i x2)] [] h Q else ex_ d 204 17 [l0, l1, some (v_i x2)] [] h Q := by
  unfold ex_
  refine (am_Y_go 3 (ok := []) (g := (if (100 : Int32) ≤ x2 then 44 else 17, [l0, l1, some (v_i x2)], [], h)) rfl).trans ?_
  all_goals exact am_Y_if

theorem b_X11_dead_44 {d : Nat} {Q : Option am_V → am_H → Prop} (h : am_H) (x1 : Int32) (l0 l2 : Option am_V) : ex_ d 204 44 [l0, some (v_i x1), l2] [] h Q ↔ Q (some (v_i x1)) h := by
  unfold ex_
  refine (am_Y_go 1 (ok := []) (g := (45, [l0, some (v_i x1), l2], [v_i x1], h)) rfl).trans ?_
  all_goals exact ((am_Y_ret rfl rfl rfl).trans (am_r0))

theorem b_X11_dead_17 {d : Nat} {Q : Option am_V → am_H → Prop} (h : am_H) (x2 : Int32) (l1 : Option am_V) (Lh : Lay h) : ex_ (d + 1) 204 17 [some (v_r (some 0)), l1, some (v_i x2)] [] h Q ↔ ex_ d 160 0 [some (v_r (some 51)), some (v_i (x2 / (10 : Int32))), some (v_i (x2 - x2 / (10 : Int32) * (10 : Int32)))] [] h (fun r h' => ex_ (d + 1) 204 32 [some (v_r (some 0)), l1, some (v_i x2)] (r.toList ++ []) h' Q) := by
  have e0 : h_r h 0 12 = some 51 := la_r Lh (q := (0, 12, 51)) (by decide)
  unfold ex_
  refine (am_Y_go 8 (ok := [am_is h (some 0) 11, ¬ (10 : Int32) = 0, ¬ (10 : Int32) = 0]) (g := (29, [some (v_r (some 0)), l1, some (v_i x2)], [v_i (x2 - x2 / (10 : Int32) * (10 : Int32)), v_i (x2 / (10 : Int32)), v_r ((h_r h 0 12))], h)) rfl).trans ?_
  simp only [e0, Option.getD_some, am_all]
  all_goals exact cj_d (la_is Lh (o := 0) rfl) (cj_d (by decide) (cj_d (by decide) (((am_Y_call (j := 160) (na := 3) (ci := 10) (fl := 0) rfl rfl rfl).trans (cj_d ⟨⟨Nat.le_of_ble_eq_true rfl, Nat.le_of_ble_eq_true rfl, Nat.le_of_ble_eq_true rfl, rfl⟩, Or.inr (Or.inr (show (10 : Nat) < 20 ∧ am_is h (some 51) 10 from ⟨by decide, (la_is Lh (o := 51) rfl)⟩))⟩ Iff.rfl)))))

theorem b_X11_dead_32 {d : Nat} {Q : Option am_V → am_H → Prop} (h : am_H) (s0 : Int32) (l0 l1 l2 : Option am_V) : ex_ d 204 32 [l0, l1, l2] [v_i s0] h Q ↔ if s0 = 0 then ex_ d 204 38 [l0, l1, l2] [] h Q else ex_ d 204 35 [l0, l1, l2] [] h Q := by
  unfold ex_
  refine (am_Y_go 1 (ok := []) (g := (if s0 = 0 then 38 else 35, [l0, l1, l2], [], h)) rfl).trans ?_
  all_goals exact am_Y_if

theorem b_X11_dead_38 {d : Nat} {Q : Option am_V → am_H → Prop} (h : am_H) (x2 : Int32) (l0 l1 : Option am_V) : ex_ d 204 38 [l0, l1, some (v_i x2)] [] h Q ↔ ex_ d 204 11 [l0, l1, some (v_i (x2 + (1 : Int32)))] [] h Q := by
  unfold ex_
  refine (am_Y_go 2 (ok := []) (g := (11, [l0, l1, some (v_i (x2 + (1 : Int32)))], [], h)) rfl).trans ?_
  all_goals exact Iff.rfl

theorem b_X11_dead_35 {d : Nat} {Q : Option am_V → am_H → Prop} (h : am_H) (x1 : Int32) (x2 : Int32) (l0 : Option am_V) : ex_ d 204 35 [l0, some (v_i x1), some (v_i x2)] [] h Q ↔ ex_ d 204 11 [l0, some (v_i (x1 + (1 : Int32))), some (v_i (x2 + (1 : Int32)))] [] h Q := by
  unfold ex_
  refine (am_Y_go 3 (ok := []) (g := (11, [l0, some (v_i (x1 + (1 : Int32))), some (v_i (x2 + (1 : Int32)))], [], h)) rfl).trans ?_
  all_goals exact Iff.rfl

theorem b_X11_firstDead_0 {d : Nat} {Q : Option am_V → am_H → Prop} (h : am_H) (l1 : Option am_V) (Lh : Lay h) : ex_ (d + 1) 205 0 [some (v_r (some 0)), l1] [] h Q ↔ ex_ d 159 0 [some (v_r (some 51)), none, none, none] [] h (fun r h' => ex_ (d + 1) 205 7 [some (v_r (some 0)), l1] (r.toList ++ []) h' Q) := by
  have e0 : h_r h 0 12 = some 51 := la_r Lh (q := (0, 12, 51)) (by decide)
  unfold ex_
  refine (am_Y_go 2 (ok := [am_is h (some 0) 11]) (g := (4, [some (v_r (some 0)), l1], [v_r ((h_r h 0 12))], h)) rfl).trans ?_
  simp only [e0, Option.getD_some, am_all]
  all_goals exact cj_d (la_is Lh (o := 0) rfl) (((am_Y_call (j := 159) (na := 1) (ci := 10) (fl := 0) rfl rfl rfl).trans (cj_d ⟨⟨Nat.le_of_ble_eq_true rfl, Nat.le_of_ble_eq_true rfl, Nat.le_of_ble_eq_true rfl, rfl⟩, Or.inr (Or.inr (show (10 : Nat) < 20 ∧ am_is h (some 51) 10 from ⟨by decide, (la_is Lh (o := 51) rfl)⟩))⟩ Iff.rfl)))

theorem b_X11_firstDead_7 {d : Nat} {Q : Option am_V → am_H → Prop} (h : am_H) (l0 l1 : Option am_V) : ex_ d 205 7 [l0, l1] [] h Q ↔ ex_ d 205 9 [l0, some (v_i (0 : Int32))] [] h Q := by
  unfold ex_
  refine (am_Y_go 2 (ok := []) (g := (9, [l0, some (v_i (0 : Int32))], [], h)) rfl).trans ?_
  all_goals exact Iff.rfl

theorem b_X11_firstDead_9 {d : Nat} {Q : Option am_V → am_H → Prop} (h : am_H) (x1 : Int32) (l0 : Option am_V) : ex_ d 205 9 [l0, some (v_i x1)] [] h Q ↔ if (100 : Int32) ≤ x1 then ex_ d 205 41 [l0, some (v_i x1)] [] h Q else ex_ d 205 15 [l0, some (v_i x1)] [] h Q := by
  unfold ex_
  refine (am_Y_go 3 (ok := []) (g := (if (100 : Int32) ≤ x1 then 41 else 15, [l0, some (v_i x1)], [], h)) rfl).trans ?_
  all_goals exact am_Y_if

theorem b_X11_firstDead_41 {d : Nat} {Q : Option am_V → am_H → Prop} (h : am_H) (l0 l1 : Option am_V) : ex_ d 205 41 [l0, l1] [] h Q ↔ Q (some (v_i (-1 : Int32))) h := by
  unfold ex_
  refine (am_Y_go 1 (ok := []) (g := (42, [l0, l1], [v_i (-1 : Int32)], h)) rfl).trans ?_
  all_goals exact ((am_Y_ret rfl rfl rfl).trans (am_r0))

theorem b_X11_firstDead_15 {d : Nat} {Q : Option am_V → am_H → Prop} (h : am_H) (x1 : Int32) (Lh : Lay h) : ex_ (d + 1) 205 15 [some (v_r (some 0)), some (v_i x1)] [] h Q ↔ ex_ d 160 0 [some (v_r (some 51)), some (v_i (x1 / (10 : Int32))), some (v_i (x1 - x1 / (10 : Int32) * (10 : Int32)))] [] h (fun r h' => ex_ (d + 1) 205 30 [some (v_r (some 0)), some (v_i x1)] (r.toList ++ []) h' Q) := by
  have e0 : h_r h 0 12 = some 51 := la_r Lh (q := (0, 12, 51)) (by decide)
  unfold ex_
  refine (am_Y_go 8 (ok := [am_is h (some 0) 11, ¬ (10 : Int32) = 0, ¬ (10 : Int32) = 0]) (g := (27, [some (v_r (some 0)), some (v_i x1)], [v_i (x1 - x1 / (10 : Int32) * (10 : Int32)), v_i (x1 / (10 : Int32)), v_r ((h_r h 0 12))], h)) rfl).trans ?_
  simp only [e0, Option.getD_some, am_all]
  all_goals exact cj_d (la_is Lh (o := 0) rfl) (cj_d (by decide) (cj_d (by decide) (((am_Y_call (j := 160) (na := 3) (ci := 10) (fl := 0) rfl rfl rfl).trans (cj_d ⟨⟨Nat.le_of_ble_eq_true rfl, Nat.le_of_ble_eq_true rfl, Nat.le_of_ble_eq_true rfl, rfl⟩, Or.inr (Or.inr (show (10 : Nat) < 20 ∧ am_is h (some 51) 10 from ⟨by decide, (la_is Lh (o := 51) rfl)⟩))⟩ Iff.rfl)))))

theorem b_X11_firstDead_30 {d : Nat} {Q : Option am_V → am_H → Prop} (h : am_H) (s0 : Int32) (l0 l1 : Option am_V) : ex_ d 205 30 [l0, l1] [v_i s0] h Q ↔ if s0 = 0 then ex_ d 205 35 [l0, l1] [] h Q else ex_ d 205 33 [l0, l1] [] h Q := by
  unfold ex_
  refine (am_Y_go 1 (ok := []) (g := (if s0 = 0 then 35 else 33, [l0, l1], [], h)) rfl).trans ?_
  all_goals exact am_Y_if

theorem b_X11_firstDead_35 {d : Nat} {Q : Option am_V → am_H → Prop} (h : am_H) (x1 : Int32) (l0 : Option am_V) : ex_ d 205 35 [l0, some (v_i x1)] [] h Q ↔ ex_ d 205 9 [l0, some (v_i (x1 + (1 : Int32)))] [] h Q := by
  unfold ex_
  refine (am_Y_go 2 (ok := []) (g := (9, [l0, some (v_i (x1 + (1 : Int32)))], [], h)) rfl).trans ?_
  all_goals exact Iff.rfl

theorem b_X11_firstDead_33 {d : Nat} {Q : Option am_V → am_H → Prop} (h : am_H) (x1 : Int32) (l0 : Option am_V) : ex_ d 205 33 [l0, some (v_i x1)] [] h Q ↔ Q (some (v_i x1)) h := by
  unfold ex_
  refine (am_Y_go 1 (ok := []) (g := (34, [l0, some (v_i x1)], [v_i x1], h)) rfl).trans ?_
  all_goals exact ((am_Y_ret rfl rfl rfl).trans (am_r0))

theorem b_X11_common_0 {d : Nat} {Q : Option am_V → am_H → Prop} (h : am_H) (x1 : Int32) (l2 l3 l4 : Option am_V) (Lh : Lay h) : ex_ (d + 1) 206 0 [some (v_r (some 0)), some (v_i x1), l2, l3, l4] [] h Q ↔ ex_ d 3 0 [some (v_r (some 11)), some (v_i x1)] [] h (fun r h' => ex_ (d + 1) 206 11 [some (v_r (some 0)), some (v_i x1), l2, l3, l4] (r.toList ++ []) h' Q) := by
  have e0 : h_r h 0 5 = some 10 := la_r Lh (q := (0, 5, 10)) (by decide)
  have e1 : h_r h 10 0 = some 11 := la_r Lh (q := (10, 0, 11)) (by decide)
  unfold ex_
  refine (am_Y_go 4 (ok := [am_is h (some 0) 11, am_is h ((h_r h 0 5)) 2]) (g := (8, [some (v_r (some 0)), some (v_i x1), l2, l3, l4], [v_i x1, v_r ((h_r h ((h_r h 0 5).getD 0) 0))], h)) rfl).trans ?_
  simp only [e0, e1, Option.getD_some, am_all]
  all_goals exact cj_d (la_is Lh (o := 0) rfl) (cj_d (la_is Lh (o := 10) rfl) (((am_Y_call (j := 3) (na := 2) (ci := 1) (fl := 0) rfl rfl rfl).trans (cj_d ⟨⟨Nat.le_of_ble_eq_true rfl, Nat.le_of_ble_eq_true rfl, Nat.le_of_ble_eq_true rfl, rfl⟩, Or.inr (Or.inr (show (1 : Nat) < 20 ∧ am_is h (some 11) 1 from ⟨by decide, (la_is Lh (o := 11) rfl)⟩))⟩ Iff.rfl))))

theorem b_X11_common_11 {d : Nat} {Q : Option am_V → am_H → Prop} (h : am_H) (s0 : Int32) (l0 l1 l2 l3 l4 : Option am_V) : ex_ d 206 11 [l0, l1, l2, l3, l4] [v_i s0] h Q ↔ if s0 = 0 then ex_ d 206 28 [l0, l1, l2, l3, l4] [] h Q else ex_ d 206 14 [l0, l1, l2, l3, l4] [] h Q := by
  unfold ex_
  refine (am_Y_go 1 (ok := []) (g := (if s0 = 0 then 28 else 14, [l0, l1, l2, l3, l4], [], h)) rfl).trans ?_
  all_goals exact am_Y_if

theorem b_X11_common_28 {d : Nat} {Q : Option am_V → am_H → Prop} (h : am_H) (l0 l1 l2 l3 l4 : Option am_V) : ex_ d 206 28 [l0, l1, l2, l3, l4] [] h Q ↔ Q (some (v_i (-2 : Int32))) h := by
  unfold ex_
  refine (am_Y_go 1 (ok := []) (g := (30, [l0, l1, l2, l3, l4], [v_i (-2 : Int32)], h)) rfl).trans ?_
  all_goals exact ((am_Y_ret rfl rfl rfl).trans (am_r0))

theorem b_X11_common_14 {d : Nat} {Q : Option am_V → am_H → Prop} (h : am_H) (x2 : Int32) (l1 l3 l4 : Option am_V) (Lh : Lay h) : ex_ (d + 1) 206 14 [some (v_r (some 0)), l1, some (v_i x2), l3, l4] [] h Q ↔ ex_ d 3 0 [some (v_r (some 11)), some (v_i x2)] [] h (fun r h' => ex_ (d + 1) 206 25 [some (v_r (some 0)), l1, some (v_i x2), l3, l4] (r.toList ++ []) h' Q) := by
  have e0 : h_r h 0 5 = some 10 := la_r Lh (q := (0, 5, 10)) (by decide)
  have e1 : h_r h 10 0 = some 11 := la_r Lh (q := (10, 0, 11)) (by decide)
  unfold ex_
  refine (am_Y_go 4 (ok := [am_is h (some 0) 11, am_is h ((h_r h 0 5)) 2]) (g := (22, [some (v_r (some 0)), l1, some (v_i x2), l3, l4], [v_i x2, v_r ((h_r h ((h_r h 0 5).getD 0) 0))], h)) rfl).trans ?_
  simp only [e0, e1, Option.getD_some, am_all]
  all_goals exact cj_d (la_is Lh (o := 0) rfl) (cj_d (la_is Lh (o := 10) rfl) (((am_Y_call (j := 3) (na := 2) (ci := 1) (fl := 0) rfl rfl rfl).trans (cj_d ⟨⟨Nat.le_of_ble_eq_true rfl, Nat.le_of_ble_eq_true rfl, Nat.le_of_ble_eq_true rfl, rfl⟩, Or.inr (Or.inr (show (1 : Nat) < 20 ∧ am_is h (some 11) 1 from ⟨by decide, (la_is Lh (o := 11) rfl)⟩))⟩ Iff.rfl))))

theorem b_X11_common_25 {d : Nat} {Q : Option am_V → am_H → Prop} (h : am_H) (s0 : Int32) (l0 l1 l2 l3 l4 : Option am_V) : ex_ d 206 25 [l0, l1, l2, l3, l4] [v_i s0] h Q ↔ if ¬ s0 = 0 then ex_ d 206 31 [l0, l1, l2, l3, l4] [] h Q else ex_ d 206 28 [l0, l1, l2, l3, l4] [] h Q := by
  unfold ex_
  refine (am_Y_go 1 (ok := []) (g := (if ¬ s0 = 0 then 31 else 28, [l0, l1, l2, l3, l4], [], h)) rfl).trans ?_
  all_goals exact am_Y_if

theorem b_X11_common_31 {d : Nat} {Q : Option am_V → am_H → Prop} (h : am_H) (x1 : Int32) (l2 l3 l4 : Option am_V) (Lh : Lay h) : ex_ (d + 1) 206 31 [some (v_r (some 0)), some (v_i x1), l2, l3, l4] [] h Q ↔ ex_ d 47 0 [some (v_r (some 15)), some (v_i x1)] [] h (fun r h' => ex_ (d + 1) 206 39 [some (v_r (some 0)), some (v_i x1), l2, l3, l4] (r.toList ++ []) h' Q) := by
  have e0 : h_r h 0 6 = some 15 := la_r Lh (q := (0, 6, 15)) (by decide)
  unfold ex_
  refine (am_Y_go 3 (ok := [am_is h (some 0) 11]) (g := (36, [some (v_r (some 0)), some (v_i x1), l2, l3, l4], [v_i x1, v_r ((h_r h 0 6))], h)) rfl).trans ?_
  simp only [e0, Option.getD_some, am_all]
  all_goals exact cj_d (la_is Lh (o := 0) rfl) (((am_Y_call (j := 47) (na := 2) (ci := 6) (fl := 0) rfl rfl rfl).trans (cj_d ⟨⟨Nat.le_of_ble_eq_true rfl, Nat.le_of_ble_eq_true rfl, Nat.le_of_ble_eq_true rfl, rfl⟩, Or.inr (Or.inr (show (6 : Nat) < 20 ∧ am_is h (some 15) 6 from ⟨by decide, (la_is Lh (o := 15) rfl)⟩))⟩ Iff.rfl)))

theorem b_X11_common_39 {d : Nat} {Q : Option am_V → am_H → Prop} (h : am_H) (s0 : Int32) (l0 l1 l2 l3 l4 : Option am_V) : ex_ d 206 39 [l0, l1, l2, l3, l4] [v_i s0] h Q ↔ if s0 = 0 then ex_ d 206 53 [l0, l1, l2, l3, l4] [] h Q else ex_ d 206 42 [l0, l1, l2, l3, l4] [] h Q := by
  unfold ex_
  refine (am_Y_go 1 (ok := []) (g := (if s0 = 0 then 53 else 42, [l0, l1, l2, l3, l4], [], h)) rfl).trans ?_
  all_goals exact am_Y_if

theorem b_X11_common_53 {d : Nat} {Q : Option am_V → am_H → Prop} (h : am_H) (l0 l1 l2 l3 l4 : Option am_V) : ex_ d 206 53 [l0, l1, l2, l3, l4] [] h Q ↔ Q (some (v_i (-5 : Int32))) h := by
  unfold ex_
  refine (am_Y_go 1 (ok := []) (g := (55, [l0, l1, l2, l3, l4], [v_i (-5 : Int32)], h)) rfl).trans ?_
  all_goals exact ((am_Y_ret rfl rfl rfl).trans (am_r0))

theorem b_X11_common_42 {d : Nat} {Q : Option am_V → am_H → Prop} (h : am_H) (x2 : Int32) (l1 l3 l4 : Option am_V) (Lh : Lay h) : ex_ (d + 1) 206 42 [some (v_r (some 0)), l1, some (v_i x2), l3, l4] [] h Q ↔ ex_ d 47 0 [some (v_r (some 15)), some (v_i x2)] [] h (fun r h' => ex_ (d + 1) 206 50 [some (v_r (some 0)), l1, some (v_i x2), l3, l4] (r.toList ++ []) h' Q) := by
  have e0 : h_r h 0 6 = some 15 := la_r Lh (q := (0, 6, 15)) (by decide)
  unfold ex_
  refine (am_Y_go 3 (ok := [am_is h (some 0) 11]) (g := (47, [some (v_r (some 0)), l1, some (v_i x2), l3, l4], [v_i x2, v_r ((h_r h 0 6))], h)) rfl).trans ?_
  simp only [e0, Option.getD_some, am_all]
  all_goals exact cj_d (la_is Lh (o := 0) rfl) (((am_Y_call (j := 47) (na := 2) (ci := 6) (fl := 0) rfl rfl rfl).trans (cj_d ⟨⟨Nat.le_of_ble_eq_true rfl, Nat.le_of_ble_eq_true rfl, Nat.le_of_ble_eq_true rfl, rfl⟩, Or.inr (Or.inr (show (6 : Nat) < 20 ∧ am_is h (some 15) 6 from ⟨by decide, (la_is Lh (o := 15) rfl)⟩))⟩ Iff.rfl)))

theorem b_X11_common_50 {d : Nat} {Q : Option am_V → am_H → Prop} (h : am_H) (s0 : Int32) (l0 l1 l2 l3 l4 : Option am_V) : ex_ d 206 50 [l0, l1, l2, l3, l4] [v_i s0] h Q ↔ if ¬ s0 = 0 then ex_ d 206 56 [l0, l1, l2, l3, l4] [] h Q else ex_ d 206 53 [l0, l1, l2, l3, l4] [] h Q := by
  unfold ex_
  refine (am_Y_go 1 (ok := []) (g := (if ¬ s0 = 0 then 56 else 53, [l0, l1, l2, l3, l4], [], h)) rfl).trans ?_
  all_goals exact am_Y_if

theorem b_X11_common_56 {d : Nat} {Q : Option am_V → am_H → Prop} (h : am_H) (l0 l1 l2 l3 l4 : Option am_V) : ex_ d 206 56 [l0, l1, l2, l3, l4] [] h Q ↔ ex_ d 206 58 [l0, l1, l2, some (v_i (0 : Int32)), l4] [] h Q := by
  unfold ex_
  refine (am_Y_go 2 (ok := []) (g := (58, [l0, l1, l2, some (v_i (0 : Int32)), l4], [], h)) rfl).trans ?_
  all_goals exact Iff.rfl

theorem b_X11_common_58 {d : Nat} {Q : Option am_V → am_H → Prop} (h : am_H) (x3 : Int32) (x1 : Int32) (l2 l4 : Option am_V) (Lh : Lay h) : ex_ (d + 1) 206 58 [some (v_r (some 0)), some (v_i x1), l2, some (v_i x3), l4] [] h Q ↔ ex_ d 9 0 [some (v_r (some 15)), some (v_i x1)] [] h (fun r h' => ex_ (d + 1) 206 67 [some (v_r (some 0)), some (v_i x1), l2, some (v_i x3), l4] (r.toList ++ [v_i x3]) h' Q) := by
  have e0 : h_r h 0 6 = some 15 := la_r Lh (q := (0, 6, 15)) (by decide)
  unfold ex_
  refine (am_Y_go 4 (ok := [am_is h (some 0) 11]) (g := (64, [some (v_r (some 0)), some (v_i x1), l2, some (v_i x3), l4], [v_i x1, v_r ((h_r h 0 6)), v_i x3], h)) rfl).trans ?_
  simp only [e0, Option.getD_some, am_all]
  all_goals exact cj_d (la_is Lh (o := 0) rfl) (((am_Y_call (j := 9) (na := 2) (ci := 6) (fl := 0) rfl rfl rfl).trans (cj_d ⟨⟨Nat.le_of_ble_eq_true rfl, Nat.le_of_ble_eq_true rfl, Nat.le_of_ble_eq_true rfl, rfl⟩, Or.inr (Or.inr (show (6 : Nat) < 20 ∧ am_is h (some 15) 6 from ⟨by decide, (la_is Lh (o := 15) rfl)⟩))⟩ Iff.rfl)))

theorem b_X11_common_67 {d : Nat} {Q : Option am_V → am_H → Prop} (h : am_H) (s0 : Int32) (s1 : Int32) (l0 l1 l2 l3 l4 : Option am_V) : ex_ d 206 67 [l0, l1, l2, l3, l4] [v_i s0, v_i s1] h Q ↔ if s0 ≤ s1 then ex_ d 206 104 [l0, l1, l2, l3, l4] [] h Q else ex_ d 206 70 [l0, l1, l2, l3, l4] [] h Q := by
  unfold ex_
  refine (am_Y_go 1 (ok := []) (g := (if s0 ≤ s1 then 104 else 70, [l0, l1, l2, l3, l4], [], h)) rfl).trans ?_
  all_goals exact am_Y_if

theorem b_X11_common_104 {d : Nat} {Q : Option am_V → am_H → Prop} (h : am_H) (l0 l1 l2 l3 l4 : Option am_V) : ex_ d 206 104 [l0, l1, l2, l3, l4] [] h Q ↔ Q (some (v_i (-1 : Int32))) h := by
  unfold ex_
  refine (am_Y_go 1 (ok := []) (g := (105, [l0, l1, l2, l3, l4], [v_i (-1 : Int32)], h)) rfl).trans ?_
  all_goals exact ((am_Y_ret rfl rfl rfl).trans (am_r0))

theorem b_X11_common_70 {d : Nat} {Q : Option am_V → am_H → Prop} (h : am_H) (x1 : Int32) (x3 : Int32) (l2 l4 : Option am_V) (Lh : Lay h) : ex_ (d + 1) 206 70 [some (v_r (some 0)), some (v_i x1), l2, some (v_i x3), l4] [] h Q ↔ ex_ d 10 0 [some (v_r (some 15)), some (v_i x1), some (v_i x3)] [] h (fun r h' => ex_ (d + 1) 206 79 [some (v_r (some 0)), some (v_i x1), l2, some (v_i x3), l4] (r.toList ++ []) h' Q) := by
  have e0 : h_r h 0 6 = some 15 := la_r Lh (q := (0, 6, 15)) (by decide)
  unfold ex_
  refine (am_Y_go 4 (ok := [am_is h (some 0) 11]) (g := (76, [some (v_r (some 0)), some (v_i x1), l2, some (v_i x3), l4], [v_i x3, v_i x1, v_r ((h_r h 0 6))], h)) rfl).trans ?_
  simp only [e0, Option.getD_some, am_all]
  all_goals exact cj_d (la_is Lh (o := 0) rfl) (((am_Y_call (j := 10) (na := 3) (ci := 6) (fl := 0) rfl rfl rfl).trans (cj_d ⟨⟨Nat.le_of_ble_eq_true rfl, Nat.le_of_ble_eq_true rfl, Nat.le_of_ble_eq_true rfl, rfl⟩, Or.inr (Or.inr (show (6 : Nat) < 20 ∧ am_is h (some 15) 6 from ⟨by decide, (la_is Lh (o := 15) rfl)⟩))⟩ Iff.rfl)))

theorem b_X11_common_79 {d : Nat} {Q : Option am_V → am_H → Prop} (h : am_H) (s0 : Int32) (x2 : Int32) (l1 l3 l4 : Option am_V) (Lh : Lay h) : ex_ (d + 1) 206 79 [some (v_r (some 0)), l1, some (v_i x2), l3, l4] [v_i s0] h Q ↔ ex_ d 72 0 [some (v_r (some 15)), some (v_i x2), some (v_i s0), none] [] h (fun r h' => ex_ (d + 1) 206 91 [some (v_r (some 0)), l1, some (v_i x2), l3, some (v_i s0)] (r.toList ++ []) h' Q) := by
  have e0 : h_r h 0 6 = some 15 := la_r Lh (q := (0, 6, 15)) (by decide)
  unfold ex_
  refine (am_Y_go 5 (ok := [am_is h (some 0) 11]) (g := (88, [some (v_r (some 0)), l1, some (v_i x2), l3, some (v_i s0)], [v_i s0, v_i x2, v_r ((h_r h 0 6))], h)) rfl).trans ?_
  simp only [e0, Option.getD_some, am_all]
  all_goals exact cj_d (la_is Lh (o := 0) rfl) (((am_Y_call (j := 72) (na := 3) (ci := 6) (fl := 0) rfl rfl rfl).trans (cj_d ⟨⟨Nat.le_of_ble_eq_true rfl, Nat.le_of_ble_eq_true rfl, Nat.le_of_ble_eq_true rfl, rfl⟩, Or.inr (Or.inr (show (6 : Nat) < 20 ∧ am_is h (some 15) 6 from ⟨by decide, (la_is Lh (o := 15) rfl)⟩))⟩ Iff.rfl)))

theorem b_X11_common_91 {d : Nat} {Q : Option am_V → am_H → Prop} (h : am_H) (s0 : Int32) (l0 l1 l2 l3 l4 : Option am_V) : ex_ d 206 91 [l0, l1, l2, l3, l4] [v_i s0] h Q ↔ if s0 = (-1 : Int32) then ex_ d 206 98 [l0, l1, l2, l3, l4] [] h Q else ex_ d 206 95 [l0, l1, l2, l3, l4] [] h Q := by
  unfold ex_
  refine (am_Y_go 2 (ok := []) (g := (if s0 = (-1 : Int32) then 98 else 95, [l0, l1, l2, l3, l4], [], h)) rfl).trans ?_
  all_goals exact am_Y_if

theorem b_X11_common_98 {d : Nat} {Q : Option am_V → am_H → Prop} (h : am_H) (x3 : Int32) (l0 l1 l2 l4 : Option am_V) : ex_ d 206 98 [l0, l1, l2, some (v_i x3), l4] [] h Q ↔ ex_ d 206 58 [l0, l1, l2, some (v_i (x3 + (1 : Int32))), l4] [] h Q := by
  unfold ex_
  refine (am_Y_go 2 (ok := []) (g := (58, [l0, l1, l2, some (v_i (x3 + (1 : Int32))), l4], [], h)) rfl).trans ?_
  all_goals exact Iff.rfl

theorem b_X11_common_95 {d : Nat} {Q : Option am_V → am_H → Prop} (h : am_H) (x4 : Int32) (l0 l1 l2 l3 : Option am_V) : ex_ d 206 95 [l0, l1, l2, l3, some (v_i x4)] [] h Q ↔ Q (some (v_i x4)) h := by
  unfold ex_
  refine (am_Y_go 1 (ok := []) (g := (97, [l0, l1, l2, l3, some (v_i x4)], [v_i x4], h)) rfl).trans ?_
  all_goals exact ((am_Y_ret rfl rfl rfl).trans (am_r0))

theorem b_X11_wouldCode_0 {d : Nat} {Q : Option am_V → am_H → Prop} (h : am_H) (x1 : Int32) (l2 l3 l4 l5 l6 l7 : Option am_V) (Lh : Lay h) : ex_ (d + 1) 207 0 [some (v_r (some 0)), some (v_i x1), l2, l3, l4, l5, l6, l7] [] h Q ↔ ex_ d 185 0 [some (v_r (some 0)), some (v_i x1)] [] h (fun r h' => ex_ (d + 1) 207 5 [some (v_r (some 0)), some (v_i x1), l2, l3, l4, l5, l6, l7] (r.toList ++ []) h' Q) := by
  unfold ex_
  refine (am_Y_go 2 (ok := []) (g := (2, [some (v_r (some 0)), some (v_i x1), l2, l3, l4, l5, l6, l7], [v_i x1, v_r (some 0)], h)) rfl).trans ?_
  all_goals exact ((am_Y_call (j := 185) (na := 2) (ci := 11) (fl := 0) rfl rfl rfl).trans (cj_d ⟨⟨Nat.le_of_ble_eq_true rfl, Nat.le_of_ble_eq_true rfl, Nat.le_of_ble_eq_true rfl, rfl⟩, Or.inr (Or.inr (show (11 : Nat) < 20 ∧ am_is h (some 0) 11 from ⟨by decide, (la_is Lh (o := 0) rfl)⟩))⟩ Iff.rfl))

theorem b_X11_wouldCode_5 {d : Nat} {Q : Option am_V → am_H → Prop} (h : am_H) (s0 : Int32) (l0 l1 l2 l3 l4 l5 l6 l7 : Option am_V) : ex_ d 207 5 [l0, l1, l2, l3, l4, l5, l6, l7] [v_i s0] h Q ↔ if s0 = 0 then ex_ d 207 12 [l0, l1, some (v_i s0), l3, l4, l5, l6, l7] [] h Q else ex_ d 207 10 [l0, l1, some (v_i s0), l3, l4, l5, l6, l7] [] h Q := by
  unfold ex_
  refine (am_Y_go 3 (ok := []) (g := (if s0 = 0 then 12 else 10, [l0, l1, some (v_i s0), l3, l4, l5, l6, l7], [], h)) rfl).trans ?_
  all_goals exact am_Y_if

theorem b_X11_wouldCode_12 {d : Nat} {Q : Option am_V → am_H → Prop} (h : am_H) (x1 : Int32) (l2 l3 l4 l5 l6 l7 : Option am_V) (Lh : Lay h) : ex_ d 207 12 [some (v_r (some 0)), some (v_i x1), l2, l3, l4, l5, l6, l7] [] h Q ↔ vp_in x1 4 ∧ ex_ d 207 20 [some (v_r (some 0)), some (v_i x1), l2, some (v_r (h_r h 83 (Int32.toNatClampNeg x1))), l4, l5, l6, l7] [v_r (h_r h 83 (Int32.toNatClampNeg x1))] h Q := by
  have e0 : h_r h 0 17 = some 83 := la_r Lh (q := (0, 17, 83)) (by decide)
  unfold ex_
  refine (am_Y_go 6 (ok := [am_is h (some 0) 11, am_ar h ((h_r h 0 17)) 39 x1]) (g := (20, [some (v_r (some 0)), some (v_i x1), l2, some (v_r (h_r h ((h_r h 0 17).getD 0) (Int32.toNatClampNeg x1))), l4, l5, l6, l7], [v_r (h_r h ((h_r h 0 17).getD 0) (Int32.toNatClampNeg x1))], h)) rfl).trans ?_
  simp only [e0, Option.getD_some, am_all]
  all_goals exact cj_d (la_is Lh (o := 0) rfl) (cj_k (la_ar Lh (o := 83) rfl) (Iff.rfl))

theorem b_X11_wouldCode_10 {d : Nat} {Q : Option am_V → am_H → Prop} (h : am_H) (x2 : Int32) (l0 l1 l3 l4 l5 l6 l7 : Option am_V) : ex_ d 207 10 [l0, l1, some (v_i x2), l3, l4, l5, l6, l7] [] h Q ↔ Q (some (v_i x2)) h := by
  unfold ex_
  refine (am_Y_go 1 (ok := []) (g := (11, [l0, l1, some (v_i x2), l3, l4, l5, l6, l7], [v_i x2], h)) rfl).trans ?_
  all_goals exact ((am_Y_ret rfl rfl rfl).trans (am_r0))

theorem b_X11_wouldCode_20 {d : Nat} {Q : Option am_V → am_H → Prop} (h : am_H) (t0 : Nat) (l0 l1 l2 l3 l4 l5 l6 l7 : Option am_V) (F_t0 : y_Tray h t0) : ex_ d 207 20 [l0, l1, l2, l3, l4, l5, l6, l7] [v_r (some t0)] h Q ↔ if (h_i h t0 1) ≤ (4 : Int32) then ex_ d 207 30 [l0, l1, l2, l3, l4, l5, l6, l7] [] h Q else ex_ d 207 27 [l0, l1, l2, l3, l4, l5, l6, l7] [] h Q := by
  unfold ex_
  refine (am_Y_go 3 (ok := [am_is h (some t0) 9]) (g := (if (h_i h t0 1) ≤ (4 : Int32) then 30 else 27, [l0, l1, l2, l3, l4, l5, l6, l7], [], h)) rfl).trans ?_
  simp only [am_all]
  all_goals exact cj_d (lr_is (F_t0.1 0 rfl)) (am_Y_if)

theorem b_X11_wouldCode_30 {d : Nat} {Q : Option am_V → am_H → Prop} (h : am_H) (l0 l1 l2 l3 l4 l5 l6 l7 : Option am_V) : ex_ d 207 30 [l0, l1, l2, l3, l4, l5, l6, l7] [] h Q ↔ ex_ d 207 36 [l0, l1, l2, l3, some (v_i (0 : Int32)), some (v_i (0 : Int32)), l6, l7] [] h Q := by
  unfold ex_
  refine (am_Y_go 4 (ok := []) (g := (36, [l0, l1, l2, l3, some (v_i (0 : Int32)), some (v_i (0 : Int32)), l6, l7], [], h)) rfl).trans ?_
  all_goals exact Iff.rfl

theorem b_X11_wouldCode_27 {d : Nat} {Q : Option am_V → am_H → Prop} (h : am_H) (l0 l1 l2 l3 l4 l5 l6 l7 : Option am_V) : ex_ d 207 27 [l0, l1, l2, l3, l4, l5, l6, l7] [] h Q ↔ Q (some (v_i (-4 : Int32))) h := by
  unfold ex_
  refine (am_Y_go 1 (ok := []) (g := (29, [l0, l1, l2, l3, l4, l5, l6, l7], [v_i (-4 : Int32)], h)) rfl).trans ?_
  all_goals exact ((am_Y_ret rfl rfl rfl).trans (am_r0))

theorem b_X11_wouldCode_36 {d : Nat} {Q : Option am_V → am_H → Prop} (h : am_H) (x5 : Int32) (x3 : Option Nat) (l0 l1 l2 l4 l6 l7 : Option am_V) : ex_ d 207 36 [l0, l1, l2, some (v_r x3), l4, some (v_i x5), l6, l7] [] h Q ↔ ex_ d 207 39 [l0, l1, l2, some (v_r x3), l4, some (v_i x5), l6, l7] [v_r x3, v_i x5] h Q := by
  unfold ex_
  refine (am_Y_go 2 (ok := []) (g := (39, [l0, l1, l2, some (v_r x3), l4, some (v_i x5), l6, l7], [v_r x3, v_i x5], h)) rfl).trans ?_
  all_goals exact Iff.rfl

theorem b_X11_wouldCode_39 {d : Nat} {Q : Option am_V → am_H → Prop} (h : am_H) (t0 : Nat) (s1 : Int32) (l0 l1 l2 l3 l4 l5 l6 l7 : Option am_V) (F_t0 : y_Tray h t0) : ex_ d 207 39 [l0, l1, l2, l3, l4, l5, l6, l7] [v_r (some t0), v_i s1] h Q ↔ if (h_i h t0 1) ≤ s1 then ex_ d 207 123 [l0, l1, l2, l3, l4, l5, l6, l7] [] h Q else ex_ d 207 45 [l0, l1, l2, l3, l4, l5, l6, l7] [] h Q := by
  unfold ex_
  refine (am_Y_go 2 (ok := [am_is h (some t0) 9]) (g := (if (h_i h t0 1) ≤ s1 then 123 else 45, [l0, l1, l2, l3, l4, l5, l6, l7], [], h)) rfl).trans ?_
  simp only [am_all]
  all_goals exact cj_d (lr_is (F_t0.1 0 rfl)) (am_Y_if)

theorem b_X11_wouldCode_123 {d : Nat} {Q : Option am_V → am_H → Prop} (h : am_H) (l0 l1 l2 l3 l4 l5 l6 l7 : Option am_V) : ex_ d 207 123 [l0, l1, l2, l3, l4, l5, l6, l7] [] h Q ↔ Q (some (v_i (0 : Int32))) h := by
  unfold ex_
  refine (am_Y_go 1 (ok := []) (g := (124, [l0, l1, l2, l3, l4, l5, l6, l7], [v_i (0 : Int32)], h)) rfl).trans ?_
  all_goals exact ((am_Y_ret rfl rfl rfl).trans (am_r0))

theorem b_X11_wouldCode_45 {d : Nat} {Q : Option am_V → am_H → Prop} (h : am_H) (x5 : Int32) (l0 l1 l2 l3 l4 l6 l7 : Option am_V) : ex_ d 207 45 [l0, l1, l2, l3, l4, some (v_i x5), l6, l7] [] h Q ↔ if (4 : Int32) ≤ x5 then ex_ d 207 123 [l0, l1, l2, l3, l4, some (v_i x5), l6, l7] [] h Q else ex_ d 207 51 [l0, l1, l2, l3, l4, some (v_i x5), l6, l7] [] h Q := by
  unfold ex_
  refine (am_Y_go 3 (ok := []) (g := (if (4 : Int32) ≤ x5 then 123 else 51, [l0, l1, l2, l3, l4, some (v_i x5), l6, l7], [], h)) rfl).trans ?_
  all_goals exact am_Y_if

theorem b_X11_wouldCode_51 {d : Nat} {Q : Option am_V → am_H → Prop} (h : am_H) (x3 : Option Nat) (x5 : Int32) (l0 l1 l2 l4 l6 l7 : Option am_V) : ex_ d 207 51 [l0, l1, l2, some (v_r x3), l4, some (v_i x5), l6, l7] [] h Q ↔ ex_ d 207 54 [l0, l1, l2, some (v_r x3), l4, some (v_i x5), l6, l7] [v_i x5, v_r x3] h Q := by
  unfold ex_
  refine (am_Y_go 2 (ok := []) (g := (54, [l0, l1, l2, some (v_r x3), l4, some (v_i x5), l6, l7], [v_i x5, v_r x3], h)) rfl).trans ?_
  all_goals exact Iff.rfl

theorem b_X11_wouldCode_54 {d : Nat} {Q : Option am_V → am_H → Prop} (h : am_H) (s0 : Int32) (t1 : Nat) (l0 l1 l2 l3 l4 l5 l6 l7 : Option am_V) (F_t1 : y_Tray h t1) : ex_ (d + 1) 207 54 [l0, l1, l2, l3, l4, l5, l6, l7] [v_i s0, v_r (some t1)] h Q ↔ ex_ d 145 0 [some (v_r (some t1)), some (v_i s0)] [] h (fun r h' => ex_ (d + 1) 207 57 [l0, l1, l2, l3, l4, l5, l6, l7] (r.toList ++ []) h' Q) := by
  unfold ex_
  exact ((am_Y_call (j := 145) (na := 2) (ci := 9) (fl := 0) rfl rfl rfl).trans (cj_d ⟨⟨Nat.le_of_ble_eq_true rfl, Nat.le_of_ble_eq_true rfl, Nat.le_of_ble_eq_true rfl, rfl⟩, Or.inr (Or.inr (show (9 : Nat) < 20 ∧ am_is h (some t1) 9 from ⟨by decide, (lr_is (F_t1.1 0 rfl))⟩))⟩ Iff.rfl))

theorem b_X11_wouldCode_57 {d : Nat} {Q : Option am_V → am_H → Prop} (h : am_H) (s0 : Int64) (l0 l1 l2 l3 l4 l5 l6 l7 : Option am_V) : ex_ d 207 57 [l0, l1, l2, l3, l4, l5, l6, l7] [v_l s0] h Q ↔ if (lg_cmp s0 (0 : Int64)) < 0 then ex_ d 207 94 [l0, l1, l2, l3, l4, l5, some (v_l s0), none] [] h Q else ex_ d 207 66 [l0, l1, l2, l3, l4, l5, some (v_l s0), none] [] h Q := by
  unfold ex_
  refine (am_Y_go 5 (ok := []) (g := (if (lg_cmp s0 (0 : Int64)) < 0 then 94 else 66, [l0, l1, l2, l3, l4, l5, some (v_l s0), none], [], h)) rfl).trans ?_
  all_goals exact am_Y_if

theorem b_X11_wouldCode_94 {d : Nat} {Q : Option am_V → am_H → Prop} (h : am_H) (l0 l1 l2 l3 l4 l5 l6 l7 : Option am_V) : ex_ d 207 94 [l0, l1, l2, l3, l4, l5, l6, l7] [] h Q ↔ Q (some (v_i (-3 : Int32))) h := by
  unfold ex_
  refine (am_Y_go 1 (ok := []) (g := (96, [l0, l1, l2, l3, l4, l5, l6, l7], [v_i (-3 : Int32)], h)) rfl).trans ?_
  all_goals exact ((am_Y_ret rfl rfl rfl).trans (am_r0))

theorem b_X11_wouldCode_66 {d : Nat} {Q : Option am_V → am_H → Prop} (h : am_H) (x6 : Int64) (l1 l2 l3 l4 l5 l7 : Option am_V) (Lh : Lay h) : ex_ d 207 66 [some (v_r (some 0)), l1, l2, l3, l4, l5, some (v_l x6), l7] [] h Q ↔ if 0 ≤ (lg_cmp x6 (Int32.toInt64 (h_i h 11 0))) then ex_ d 207 94 [some (v_r (some 0)), l1, l2, l3, l4, l5, some (v_l x6), l7] [] h Q else ex_ d 207 83 [some (v_r (some 0)), l1, l2, l3, l4, l5, some (v_l x6), l7] [] h Q := by
  have e0 : h_r h 0 5 = some 10 := la_r Lh (q := (0, 5, 10)) (by decide)
  have e1 : h_r h 10 0 = some 11 := la_r Lh (q := (10, 0, 11)) (by decide)
  unfold ex_
  refine (am_Y_go 8 (ok := [am_is h (some 0) 11, am_is h ((h_r h 0 5)) 2, am_is h ((h_r h ((h_r h 0 5).getD 0) 0)) 1]) (g := (if 0 ≤ (lg_cmp x6 (Int32.toInt64 (h_i h ((h_r h ((h_r h 0 5).getD 0) 0).getD 0) 0))) then 94 else 83, [some (v_r (some 0)), l1, l2, l3, l4, l5, some (v_l x6), l7], [], h)) rfl).trans ?_
  simp only [e0, e1, Option.getD_some, am_all]
  all_goals exact cj_d (la_is Lh (o := 0) rfl) (cj_d (la_is Lh (o := 10) rfl) (cj_d (la_is Lh (o := 11) rfl) (am_Y_if)))

theorem b_X11_wouldCode_83 {d : Nat} {Q : Option am_V → am_H → Prop} (h : am_H) (x4 : Int32) (x6 : Int64) (l0 l1 l2 l3 l5 l7 : Option am_V) : ex_ d 207 83 [l0, l1, l2, l3, some (v_i x4), l5, some (v_l x6), l7] [] h Q ↔ if ((x4 >>> ((Int64.toInt32 x6) &&& 31)) &&& (1 : Int32)) = 0 then ex_ d 207 97 [l0, l1, l2, l3, some (v_i x4), l5, some (v_l x6), l7] [] h Q else ex_ d 207 94 [l0, l1, l2, l3, some (v_i x4), l5, some (v_l x6), l7] [] h Q := by
  unfold ex_
  refine (am_Y_go 7 (ok := []) (g := (if ((x4 >>> ((Int64.toInt32 x6) &&& 31)) &&& (1 : Int32)) = 0 then 97 else 94, [l0, l1, l2, l3, some (v_i x4), l5, some (v_l x6), l7], [], h)) rfl).trans ?_
  all_goals exact am_Y_if

theorem b_X11_wouldCode_97 {d : Nat} {Q : Option am_V → am_H → Prop} (h : am_H) (x4 : Int32) (x6 : Int64) (x5 : Int32) (l1 l2 l3 l7 : Option am_V) (Lh : Lay h) : ex_ d 207 97 [some (v_r (some 0)), l1, l2, l3, some (v_i x4), some (v_i x5), some (v_l x6), l7] [] h Q ↔ vp_in x5 4 ∧ ex_ d 207 36 [some (v_r (some 0)), l1, l2, l3, some (v_i (x4 ||| ((1 : Int32) <<< ((Int64.toInt32 x6) &&& 31)))), some (v_i (x5 + (1 : Int32))), some (v_l x6), l7] [] (p_i h 81 (Int32.toNatClampNeg x5) (Int64.toInt32 x6)) Q := by
  have e0 : h_r h 0 15 = some 81 := la_r Lh (q := (0, 15, 81)) (by decide)
  unfold ex_
  refine (am_Y_go 15 (ok := [am_is h (some 0) 11, am_ar h ((h_r h 0 15)) 20 x5]) (g := (36, [some (v_r (some 0)), l1, l2, l3, some (v_i (x4 ||| ((1 : Int32) <<< ((Int64.toInt32 x6) &&& 31)))), some (v_i (x5 + (1 : Int32))), some (v_l x6), l7], [], (p_i h ((h_r h 0 15).getD 0) (Int32.toNatClampNeg x5) (Int64.toInt32 x6)))) rfl).trans ?_
  simp only [e0, Option.getD_some, am_all]
  all_goals exact cj_d (la_is Lh (o := 0) rfl) (cj_k (la_ar Lh (o := 81) rfl) (Iff.rfl))

theorem b_X11_would_0 {d : Nat} {Q : Option am_V → am_H → Prop} (h : am_H) (x1 : Int32) (l2 : Option am_V) (Lh : Lay h) : ex_ (d + 1) 208 0 [some (v_r (some 0)), some (v_i x1), l2] [] h Q ↔ ex_ d 207 0 [some (v_r (some 0)), some (v_i x1), none, none, none, none, none, none] [] h (fun r h' => ex_ (d + 1) 208 5 [some (v_r (some 0)), some (v_i x1), l2] (r.toList ++ []) h' Q) := by
  unfold ex_
  refine (am_Y_go 2 (ok := []) (g := (2, [some (v_r (some 0)), some (v_i x1), l2], [v_i x1, v_r (some 0)], h)) rfl).trans ?_
  all_goals exact ((am_Y_call (j := 207) (na := 2) (ci := 11) (fl := 0) rfl rfl rfl).trans (cj_d ⟨⟨Nat.le_of_ble_eq_true rfl, Nat.le_of_ble_eq_true rfl, Nat.le_of_ble_eq_true rfl, rfl⟩, Or.inr (Or.inr (show (11 : Nat) < 20 ∧ am_is h (some 0) 11 from ⟨by decide, (la_is Lh (o := 0) rfl)⟩))⟩ Iff.rfl))

theorem b_X11_would_5 {d : Nat} {Q : Option am_V → am_H → Prop} (h : am_H) (s0 : Int32) (l0 l1 l2 : Option am_V) : ex_ d 208 5 [l0, l1, l2] [v_i s0] h Q ↔ if s0 = 0 then ex_ d 208 14 [l0, l1, some (v_i s0)] [] h Q else ex_ d 208 10 [l0, l1, some (v_i s0)] [] h Q := by
  unfold ex_
  refine (am_Y_go 3 (ok := []) (g := (if s0 = 0 then 14 else 10, [l0, l1, some (v_i s0)], [], h)) rfl).trans ?_
  all_goals exact am_Y_if

theorem b_X11_would_14 {d : Nat} {Q : Option am_V → am_H → Prop} (h : am_H) (x1 : Int32) (l2 : Option am_V) (Lh : Lay h) : ex_ d 208 14 [some (v_r (some 0)), some (v_i x1), l2] [] h Q ↔ vp_in x1 4 ∧ ex_ d 208 30 [some (v_r (some 0)), some (v_i x1), l2] [v_r (h_r h 83 (Int32.toNatClampNeg x1)), v_r (some 81), v_i (10 : Int32), v_r (some 15)] h Q := by
  have e0 : h_r h 0 6 = some 15 := la_r Lh (q := (0, 6, 15)) (by decide)
  have e1 : h_r h 0 15 = some 81 := la_r Lh (q := (0, 15, 81)) (by decide)
  have e2 : h_r h 0 17 = some 83 := la_r Lh (q := (0, 17, 83)) (by decide)
  unfold ex_
  refine (am_Y_go 9 (ok := [am_is h (some 0) 11, am_is h (some 0) 11, am_is h (some 0) 11, am_ar h ((h_r h 0 17)) 39 x1]) (g := (30, [some (v_r (some 0)), some (v_i x1), l2], [v_r (h_r h ((h_r h 0 17).getD 0) (Int32.toNatClampNeg x1)), v_r ((h_r h 0 15)), v_i (10 : Int32), v_r ((h_r h 0 6))], h)) rfl).trans ?_
  simp only [e0, e1, e2, Option.getD_some, am_all]
  all_goals exact cj_d (la_is Lh (o := 0) rfl) (cj_d (la_is Lh (o := 0) rfl) (cj_d (la_is Lh (o := 0) rfl) (cj_k (la_ar Lh (o := 83) rfl) (Iff.rfl))))

theorem b_X11_would_10 {d : Nat} {Q : Option am_V → am_H → Prop} (h : am_H) (x2 : Int32) (l0 l1 : Option am_V) : ex_ d 208 10 [l0, l1, some (v_i x2)] [] h Q ↔ Q (some (v_i x2)) h := by
  unfold ex_
  refine (am_Y_go 2 (ok := []) (g := (36, [l0, l1, some (v_i x2)], [v_i x2], h)) rfl).trans ?_
  all_goals exact ((am_Y_ret rfl rfl rfl).trans (am_r0))

theorem b_X11_would_30 {d : Nat} {Q : Option am_V → am_H → Prop} (h : am_H) (t0 : Nat) (t1 : Nat) (s2 : Int32) (t3 : Nat) (l0 l1 l2 : Option am_V) (F_t0 : y_Tray h t0) {n_t1 : Nat} (A_t1 : y_arr h t1 20 n_t1) (F_t3 : y_Orders h t3) : ex_ (d + 1) 208 30 [l0, l1, l2] [v_r (some t0), v_r (some t1), v_i s2, v_r (some t3)] h Q ↔ ex_ d 52 0 [some (v_r (some t3)), some (v_i s2), some (v_r (some t1)), some (v_i (h_i h t0 1)), none, none] [] h (fun r h' => ex_ (d + 1) 208 36 [l0, l1, l2] (r.toList ++ []) h' Q) := by
  unfold ex_
  refine (am_Y_go 1 (ok := [am_is h (some t0) 9]) (g := (33, [l0, l1, l2], [v_i (h_i h t0 1), v_r (some t1), v_i s2, v_r (some t3)], h)) rfl).trans ?_
  simp only [am_all]
  all_goals exact cj_d (lr_is (F_t0.1 0 rfl)) (((am_Y_call (j := 52) (na := 4) (ci := 6) (fl := 0) rfl rfl rfl).trans (cj_d ⟨⟨Nat.le_of_ble_eq_true rfl, Nat.le_of_ble_eq_true rfl, Nat.le_of_ble_eq_true rfl, rfl⟩, Or.inr (Or.inr (show (6 : Nat) < 20 ∧ am_is h (some t3) 6 from ⟨by decide, (lr_is (F_t3.1 0 rfl))⟩))⟩ Iff.rfl)))

theorem b_X11_would_36 {d : Nat} {Q : Option am_V → am_H → Prop} (h : am_H) (s0 : Int32) (l0 l1 l2 : Option am_V) : ex_ d 208 36 [l0, l1, l2] [v_i s0] h Q ↔ Q (some (v_i s0)) h := by
  unfold ex_
  exact ((am_Y_ret rfl rfl rfl).trans (am_r0))

theorem b_X11_wouldOrder_0 {d : Nat} {Q : Option am_V → am_H → Prop} (h : am_H) (x1 : Int32) (l2 l3 : Option am_V) (Lh : Lay h) : ex_ (d + 1) 209 0 [some (v_r (some 0)), some (v_i x1), l2, l3] [] h Q ↔ ex_ d 207 0 [some (v_r (some 0)), some (v_i x1), none, none, none, none, none, none] [] h (fun r h' => ex_ (d + 1) 209 5 [some (v_r (some 0)), some (v_i x1), l2, l3] (r.toList ++ []) h' Q) := by
  unfold ex_
  refine (am_Y_go 2 (ok := []) (g := (2, [some (v_r (some 0)), some (v_i x1), l2, l3], [v_i x1, v_r (some 0)], h)) rfl).trans ?_
  all_goals exact ((am_Y_call (j := 207) (na := 2) (ci := 11) (fl := 0) rfl rfl rfl).trans (cj_d ⟨⟨Nat.le_of_ble_eq_true rfl, Nat.le_of_ble_eq_true rfl, Nat.le_of_ble_eq_true rfl, rfl⟩, Or.inr (Or.inr (show (11 : Nat) < 20 ∧ am_is h (some 0) 11 from ⟨by decide, (la_is Lh (o := 0) rfl)⟩))⟩ Iff.rfl))

theorem b_X11_wouldOrder_5 {d : Nat} {Q : Option am_V → am_H → Prop} (h : am_H) (s0 : Int32) (l0 l1 l2 l3 : Option am_V) : ex_ d 209 5 [l0, l1, l2, l3] [v_i s0] h Q ↔ if s0 = 0 then ex_ d 209 12 [l0, l1, l2, some (v_i s0)] [] h Q else ex_ d 209 10 [l0, l1, l2, some (v_i s0)] [] h Q := by
  unfold ex_
  refine (am_Y_go 3 (ok := []) (g := (if s0 = 0 then 12 else 10, [l0, l1, l2, some (v_i s0)], [], h)) rfl).trans ?_
  all_goals exact am_Y_if

theorem b_X11_wouldOrder_12 {d : Nat} {Q : Option am_V → am_H → Prop} (h : am_H) (x2 : Int32) (l0 l1 l3 : Option am_V) : ex_ d 209 12 [l0, l1, some (v_i x2), l3] [] h Q ↔ if (1 : Int32) ≤ x2 then ex_ d 209 20 [l0, l1, some (v_i x2), l3] [] h Q else ex_ d 209 17 [l0, l1, some (v_i x2), l3] [] h Q := by
  unfold ex_
  refine (am_Y_go 3 (ok := []) (g := (if (1 : Int32) ≤ x2 then 20 else 17, [l0, l1, some (v_i x2), l3], [], h)) rfl).trans ?_
  all_goals exact am_Y_if

theorem b_X11_wouldOrder_10 {d : Nat} {Q : Option am_V → am_H → Prop} (h : am_H) (x3 : Int32) (l0 l1 l2 : Option am_V) : ex_ d 209 10 [l0, l1, l2, some (v_i x3)] [] h Q ↔ Q (some (v_i x3)) h := by
  unfold ex_
  refine (am_Y_go 1 (ok := []) (g := (11, [l0, l1, l2, some (v_i x3)], [v_i x3], h)) rfl).trans ?_
  all_goals exact ((am_Y_ret rfl rfl rfl).trans (am_r0))

theorem b_X11_wouldOrder_20 {d : Nat} {Q : Option am_V → am_H → Prop} (h : am_H) (x1 : Int32) (l2 l3 : Option am_V) (Lh : Lay h) : ex_ d 209 20 [some (v_r (some 0)), some (v_i x1), l2, l3] [] h Q ↔ vp_in x1 4 ∧ ex_ d 209 36 [some (v_r (some 0)), some (v_i x1), l2, l3] [v_r (h_r h 83 (Int32.toNatClampNeg x1)), v_r (some 81), v_i (10 : Int32), v_r (some 15)] h Q := by
  have e0 : h_r h 0 6 = some 15 := la_r Lh (q := (0, 6, 15)) (by decide)
  have e1 : h_r h 0 15 = some 81 := la_r Lh (q := (0, 15, 81)) (by decide)
  have e2 : h_r h 0 17 = some 83 := la_r Lh (q := (0, 17, 83)) (by decide)
  unfold ex_
  refine (am_Y_go 9 (ok := [am_is h (some 0) 11, am_is h (some 0) 11, am_is h (some 0) 11, am_ar h ((h_r h 0 17)) 39 x1]) (g := (36, [some (v_r (some 0)), some (v_i x1), l2, l3], [v_r (h_r h ((h_r h 0 17).getD 0) (Int32.toNatClampNeg x1)), v_r ((h_r h 0 15)), v_i (10 : Int32), v_r ((h_r h 0 6))], h)) rfl).trans ?_
  simp only [e0, e1, e2, Option.getD_some, am_all]
  all_goals exact cj_d (la_is Lh (o := 0) rfl) (cj_d (la_is Lh (o := 0) rfl) (cj_d (la_is Lh (o := 0) rfl) (cj_k (la_ar Lh (o := 83) rfl) (Iff.rfl))))

theorem b_X11_wouldOrder_17 {d : Nat} {Q : Option am_V → am_H → Prop} (h : am_H) (l0 l1 l2 l3 : Option am_V) : ex_ d 209 17 [l0, l1, l2, l3] [] h Q ↔ Q (some (v_i (-3 : Int32))) h := by
  unfold ex_
  refine (am_Y_go 1 (ok := []) (g := (19, [l0, l1, l2, l3], [v_i (-3 : Int32)], h)) rfl).trans ?_
  all_goals exact ((am_Y_ret rfl rfl rfl).trans (am_r0))

theorem b_X11_wouldOrder_36 {d : Nat} {Q : Option am_V → am_H → Prop} (h : am_H) (t0 : Nat) (t1 : Nat) (s2 : Int32) (t3 : Nat) (l0 l1 l2 l3 : Option am_V) (F_t0 : y_Tray h t0) {n_t1 : Nat} (A_t1 : y_arr h t1 20 n_t1) (F_t3 : y_Orders h t3) : ex_ (d + 1) 209 36 [l0, l1, l2, l3] [v_r (some t0), v_r (some t1), v_i s2, v_r (some t3)] h Q ↔ ex_ d 52 0 [some (v_r (some t3)), some (v_i s2), some (v_r (some t1)), some (v_i (h_i h t0 1)), none, none] [] h (fun r h' => ex_ (d + 1) 209 42 [l0, l1, l2, l3] (r.toList ++ []) h' Q) := by
  unfold ex_
  refine (am_Y_go 1 (ok := [am_is h (some t0) 9]) (g := (39, [l0, l1, l2, l3], [v_i (h_i h t0 1), v_r (some t1), v_i s2, v_r (some t3)], h)) rfl).trans ?_
  simp only [am_all]
  all_goals exact cj_d (lr_is (F_t0.1 0 rfl)) (((am_Y_call (j := 52) (na := 4) (ci := 6) (fl := 0) rfl rfl rfl).trans (cj_d ⟨⟨Nat.le_of_ble_eq_true rfl, Nat.le_of_ble_eq_true rfl, Nat.le_of_ble_eq_true rfl, rfl⟩, Or.inr (Or.inr (show (6 : Nat) < 20 ∧ am_is h (some t3) 6 from ⟨by decide, (lr_is (F_t3.1 0 rfl))⟩))⟩ Iff.rfl)))

theorem b_X11_wouldOrder_42 {d : Nat} {Q : Option am_V → am_H → Prop} (h : am_H) (s0 : Int32) (x2 : Int32) (l1 l3 : Option am_V) (Lh : Lay h) : ex_ (d + 1) 209 42 [some (v_r (some 0)), l1, some (v_i x2), l3] [v_i s0] h Q ↔ ex_ d 10 0 [some (v_r (some 15)), some (v_i (10 : Int32)), some (v_i x2)] [] h (fun r h' => ex_ (d + 1) 209 53 [some (v_r (some 0)), l1, some (v_i x2), l3] (r.toList ++ []) h' Q) := by
  have e0 : h_r h 0 6 = some 15 := la_r Lh (q := (0, 6, 15)) (by decide)
  unfold ex_
  refine (am_Y_go 5 (ok := [am_is h (some 0) 11]) (g := (50, [some (v_r (some 0)), l1, some (v_i x2), l3], [v_i x2, v_i (10 : Int32), v_r ((h_r h 0 6))], h)) rfl).trans ?_
  simp only [e0, Option.getD_some, am_all]
  all_goals exact cj_d (la_is Lh (o := 0) rfl) (((am_Y_call (j := 10) (na := 3) (ci := 6) (fl := 0) rfl rfl rfl).trans (cj_d ⟨⟨Nat.le_of_ble_eq_true rfl, Nat.le_of_ble_eq_true rfl, Nat.le_of_ble_eq_true rfl, rfl⟩, Or.inr (Or.inr (show (6 : Nat) < 20 ∧ am_is h (some 15) 6 from ⟨by decide, (la_is Lh (o := 15) rfl)⟩))⟩ Iff.rfl)))

theorem b_X11_wouldOrder_53 {d : Nat} {Q : Option am_V → am_H → Prop} (h : am_H) (s0 : Int32) (l0 l1 l2 l3 : Option am_V) : ex_ d 209 53 [l0, l1, l2, l3] [v_i s0] h Q ↔ Q (some (v_i s0)) h := by
  unfold ex_
  exact ((am_Y_ret rfl rfl rfl).trans (am_r0))

theorem b_X11_turnTold_0 {d : Nat} {Q : Option am_V → am_H → Prop} (h : am_H) (l0 l1 l2 l3 l4 l5 : Option am_V) : ex_ d 210 0 [l0, l1, l2, l3, l4, l5] [] h Q ↔ ex_ d 210 5 [l0, l1, l2, some (v_i (0 : Int32)), some (v_i (0 : Int32)), l5] [] h Q := by
  unfold ex_
  refine (am_Y_go 4 (ok := []) (g := (5, [l0, l1, l2, some (v_i (0 : Int32)), some (v_i (0 : Int32)), l5], [], h)) rfl).trans ?_
  all_goals exact Iff.rfl

theorem b_X11_turnTold_5 {d : Nat} {Q : Option am_V → am_H → Prop} (h : am_H) (x4 : Int32) (x2 : Int32) (l0 l1 l3 l5 : Option am_V) : ex_ d 210 5 [l0, l1, some (v_i x2), l3, some (v_i x4), l5] [] h Q ↔ if x2 ≤ x4 then ex_ d 210 71 [l0, l1, some (v_i x2), l3, some (v_i x4), l5] [] h Q else ex_ d 210 11 [l0, l1, some (v_i x2), l3, some (v_i x4), l5] [] h Q := by
  unfold ex_
  refine (am_Y_go 3 (ok := []) (g := (if x2 ≤ x4 then 71 else 11, [l0, l1, some (v_i x2), l3, some (v_i x4), l5], [], h)) rfl).trans ?_
  all_goals exact am_Y_if

theorem b_X11_turnTold_71 {d : Nat} {Q : Option am_V → am_H → Prop} (h : am_H) (l0 l1 l2 l3 l4 l5 : Option am_V) : ex_ d 210 71 [l0, l1, l2, l3, l4, l5] [] h Q ↔ Q (some (v_i (1 : Int32))) h := by
  unfold ex_
  refine (am_Y_go 1 (ok := []) (g := (72, [l0, l1, l2, l3, l4, l5], [v_i (1 : Int32)], h)) rfl).trans ?_
  all_goals exact ((am_Y_ret rfl rfl rfl).trans (am_rz (show am_fit 1 1 from Or.inr rfl)))

theorem b_X11_turnTold_11 {d : Nat} {Q : Option am_V → am_H → Prop} (h : am_H) (x4 : Int32) (l0 l1 l2 l3 l5 : Option am_V) : ex_ d 210 11 [l0, l1, l2, l3, some (v_i x4), l5] [] h Q ↔ if (4 : Int32) ≤ x4 then ex_ d 210 71 [l0, l1, l2, l3, some (v_i x4), l5] [] h Q else ex_ d 210 17 [l0, l1, l2, l3, some (v_i x4), l5] [] h Q := by
  unfold ex_
  refine (am_Y_go 3 (ok := []) (g := (if (4 : Int32) ≤ x4 then 71 else 17, [l0, l1, l2, l3, some (v_i x4), l5], [], h)) rfl).trans ?_
  all_goals exact am_Y_if

theorem b_X11_turnTold_17 {d : Nat} {Q : Option am_V → am_H → Prop} (h : am_H) (x1 : Int32) (x4 : Int32) (x2 : Int32) (l0 l3 l5 : Option am_V) : ex_ d 210 17 [l0, some (v_i x1), some (v_i x2), l3, some (v_i x4), l5] [] h Q ↔ if x2 ≤ ((x1 >>> (((2 : Int32) * x4) &&& 31)) &&& (3 : Int32)) then ex_ d 210 42 [l0, some (v_i x1), some (v_i x2), l3, some (v_i x4), some (v_i ((x1 >>> (((2 : Int32) * x4) &&& 31)) &&& (3 : Int32)))] [] h Q else ex_ d 210 33 [l0, some (v_i x1), some (v_i x2), l3, some (v_i x4), some (v_i ((x1 >>> (((2 : Int32) * x4) &&& 31)) &&& (3 : Int32)))] [] h Q := by
  unfold ex_
  refine (am_Y_go 11 (ok := []) (g := (if x2 ≤ ((x1 >>> (((2 : Int32) * x4) &&& 31)) &&& (3 : Int32)) then 42 else 33, [l0, some (v_i x1), some (v_i x2), l3, some (v_i x4), some (v_i ((x1 >>> (((2 : Int32) * x4) &&& 31)) &&& (3 : Int32)))], [], h)) rfl).trans ?_
  all_goals exact am_Y_if

theorem b_X11_turnTold_42 {d : Nat} {Q : Option am_V → am_H → Prop} (h : am_H) (l0 l1 l2 l3 l4 l5 : Option am_V) : ex_ d 210 42 [l0, l1, l2, l3, l4, l5] [] h Q ↔ Q (some (v_i (0 : Int32))) h := by
  unfold ex_
  refine (am_Y_go 1 (ok := []) (g := (43, [l0, l1, l2, l3, l4, l5], [v_i (0 : Int32)], h)) rfl).trans ?_
  all_goals exact ((am_Y_ret rfl rfl rfl).trans (am_rz (show am_fit 1 0 from Or.inl rfl)))

theorem b_X11_turnTold_33 {d : Nat} {Q : Option am_V → am_H → Prop} (h : am_H) (x3 : Int32) (x5 : Int32) (l0 l1 l2 l4 : Option am_V) : ex_ d 210 33 [l0, l1, l2, some (v_i x3), l4, some (v_i x5)] [] h Q ↔ if ((x3 >>> (x5 &&& 31)) &&& (1 : Int32)) = 0 then ex_ d 210 44 [l0, l1, l2, some (v_i x3), l4, some (v_i x5)] [] h Q else ex_ d 210 42 [l0, l1, l2, some (v_i x3), l4, some (v_i x5)] [] h Q := by
  unfold ex_
  refine (am_Y_go 6 (ok := []) (g := (if ((x3 >>> (x5 &&& 31)) &&& (1 : Int32)) = 0 then 44 else 42, [l0, l1, l2, some (v_i x3), l4, some (v_i x5)], [], h)) rfl).trans ?_
  all_goals exact am_Y_if

theorem b_X11_turnTold_44 {d : Nat} {Q : Option am_V → am_H → Prop} (h : am_H) (x3 : Int32) (x5 : Int32) (x4 : Int32) (l1 l2 : Option am_V) (Lh : Lay h) : ex_ d 210 44 [some (v_r (some 0)), l1, l2, some (v_i x3), some (v_i x4), some (v_i x5)] [] h Q ↔ vp_in x5 4 ∧ vp_in x4 4 ∧ ex_ d 210 5 [some (v_r (some 0)), l1, l2, some (v_i (x3 ||| ((1 : Int32) <<< (x5 &&& 31)))), some (v_i (x4 + (1 : Int32))), some (v_i x5)] [] (p_i h 82 (Int32.toNatClampNeg x4) (h_i h 81 (Int32.toNatClampNeg x5))) Q := by
  have e0 : h_r h 0 16 = some 82 := la_r Lh (q := (0, 16, 82)) (by decide)
  have e1 : h_r h 0 15 = some 81 := la_r Lh (q := (0, 15, 81)) (by decide)
  unfold ex_
  refine (am_Y_go 16 (ok := [am_is h (some 0) 11, am_is h (some 0) 11, am_ar h ((h_r h 0 15)) 20 x5, am_ar h ((h_r h 0 16)) 20 x4]) (g := (5, [some (v_r (some 0)), l1, l2, some (v_i (x3 ||| ((1 : Int32) <<< (x5 &&& 31)))), some (v_i (x4 + (1 : Int32))), some (v_i x5)], [], (p_i h ((h_r h 0 16).getD 0) (Int32.toNatClampNeg x4) (h_i h ((h_r h 0 15).getD 0) (Int32.toNatClampNeg x5))))) rfl).trans ?_
  simp only [e0, e1, Option.getD_some, am_all]
  all_goals exact cj_d (la_is Lh (o := 0) rfl) (cj_d (la_is Lh (o := 0) rfl) (cj_k (la_ar Lh (o := 81) rfl) (cj_k (la_ar Lh (o := 82) rfl) (Iff.rfl))))

theorem b_X11_wouldWays_0 {d : Nat} {Q : Option am_V → am_H → Prop} (h : am_H) (x1 : Int32) (l2 l3 l4 l5 : Option am_V) (Lh : Lay h) : ex_ (d + 1) 211 0 [some (v_r (some 0)), some (v_i x1), l2, l3, l4, l5] [] h Q ↔ ex_ d 207 0 [some (v_r (some 0)), some (v_i x1), none, none, none, none, none, none] [] h (fun r h' => ex_ (d + 1) 211 5 [some (v_r (some 0)), some (v_i x1), l2, l3, l4, l5] (r.toList ++ []) h' Q) := by
  unfold ex_
  refine (am_Y_go 2 (ok := []) (g := (2, [some (v_r (some 0)), some (v_i x1), l2, l3, l4, l5], [v_i x1, v_r (some 0)], h)) rfl).trans ?_
  all_goals exact ((am_Y_call (j := 207) (na := 2) (ci := 11) (fl := 0) rfl rfl rfl).trans (cj_d ⟨⟨Nat.le_of_ble_eq_true rfl, Nat.le_of_ble_eq_true rfl, Nat.le_of_ble_eq_true rfl, rfl⟩, Or.inr (Or.inr (show (11 : Nat) < 20 ∧ am_is h (some 0) 11 from ⟨by decide, (la_is Lh (o := 0) rfl)⟩))⟩ Iff.rfl))

theorem b_X11_wouldWays_5 {d : Nat} {Q : Option am_V → am_H → Prop} (h : am_H) (s0 : Int32) (l0 l1 l2 l3 l4 l5 : Option am_V) : ex_ d 211 5 [l0, l1, l2, l3, l4, l5] [v_i s0] h Q ↔ if s0 = 0 then ex_ d 211 12 [l0, l1, some (v_i s0), l3, l4, l5] [] h Q else ex_ d 211 10 [l0, l1, some (v_i s0), l3, l4, l5] [] h Q := by
  unfold ex_
  refine (am_Y_go 3 (ok := []) (g := (if s0 = 0 then 12 else 10, [l0, l1, some (v_i s0), l3, l4, l5], [], h)) rfl).trans ?_
  all_goals exact am_Y_if

theorem b_X11_wouldWays_12 {d : Nat} {Q : Option am_V → am_H → Prop} (h : am_H) (x1 : Int32) (l2 l3 l4 l5 : Option am_V) (Lh : Lay h) : ex_ d 211 12 [some (v_r (some 0)), some (v_i x1), l2, l3, l4, l5] [] h Q ↔ vp_in x1 4 ∧ ex_ d 211 18 [some (v_r (some 0)), some (v_i x1), l2, l3, l4, l5] [v_r (h_r h 83 (Int32.toNatClampNeg x1))] h Q := by
  have e0 : h_r h 0 17 = some 83 := la_r Lh (q := (0, 17, 83)) (by decide)
  unfold ex_
  refine (am_Y_go 4 (ok := [am_is h (some 0) 11, am_ar h ((h_r h 0 17)) 39 x1]) (g := (18, [some (v_r (some 0)), some (v_i x1), l2, l3, l4, l5], [v_r (h_r h ((h_r h 0 17).getD 0) (Int32.toNatClampNeg x1))], h)) rfl).trans ?_
  simp only [e0, Option.getD_some, am_all]
  all_goals exact cj_d (la_is Lh (o := 0) rfl) (cj_k (la_ar Lh (o := 83) rfl) (Iff.rfl))

theorem b_X11_wouldWays_10 {d : Nat} {Q : Option am_V → am_H → Prop} (h : am_H) (x2 : Int32) (l0 l1 l3 l4 l5 : Option am_V) : ex_ d 211 10 [l0, l1, some (v_i x2), l3, l4, l5] [] h Q ↔ Q (some (v_i x2)) h := by
  unfold ex_
  refine (am_Y_go 1 (ok := []) (g := (11, [l0, l1, some (v_i x2), l3, l4, l5], [v_i x2], h)) rfl).trans ?_
  all_goals exact ((am_Y_ret rfl rfl rfl).trans (am_r0))

theorem b_X11_wouldWays_18 {d : Nat} {Q : Option am_V → am_H → Prop} (h : am_H) (t0 : Nat) (l0 l1 l2 l3 l4 l5 : Option am_V) (F_t0 : y_Tray h t0) : ex_ d 211 18 [l0, l1, l2, l3, l4, l5] [v_r (some t0)] h Q ↔ ex_ d 211 28 [l0, l1, l2, some (v_i (h_i h t0 1)), some (v_i (0 : Int32)), some (v_i (0 : Int32))] [] h Q := by
  unfold ex_
  refine (am_Y_go 6 (ok := [am_is h (some t0) 9]) (g := (28, [l0, l1, l2, some (v_i (h_i h t0 1)), some (v_i (0 : Int32)), some (v_i (0 : Int32))], [], h)) rfl).trans ?_
  simp only [am_all]
  all_goals exact cj_d (lr_is (F_t0.1 0 rfl)) (Iff.rfl)

theorem b_X11_wouldWays_28 {d : Nat} {Q : Option am_V → am_H → Prop} (h : am_H) (x5 : Int32) (x3 : Int32) (l0 l1 l2 l4 : Option am_V) : ex_ d 211 28 [l0, l1, l2, some (v_i x3), l4, some (v_i x5)] [] h Q ↔ if ((1 : Int32) <<< (((2 : Int32) * x3) &&& 31)) ≤ x5 then ex_ d 211 74 [l0, l1, l2, some (v_i x3), l4, some (v_i x5)] [] h Q else ex_ d 211 38 [l0, l1, l2, some (v_i x3), l4, some (v_i x5)] [] h Q := by
  unfold ex_
  refine (am_Y_go 7 (ok := []) (g := (if ((1 : Int32) <<< (((2 : Int32) * x3) &&& 31)) ≤ x5 then 74 else 38, [l0, l1, l2, some (v_i x3), l4, some (v_i x5)], [], h)) rfl).trans ?_
  all_goals exact am_Y_if

theorem b_X11_wouldWays_74 {d : Nat} {Q : Option am_V → am_H → Prop} (h : am_H) (x4 : Int32) (l0 l1 l2 l3 l5 : Option am_V) : ex_ d 211 74 [l0, l1, l2, l3, some (v_i x4), l5] [] h Q ↔ Q (some (v_i x4)) h := by
  unfold ex_
  refine (am_Y_go 1 (ok := []) (g := (76, [l0, l1, l2, l3, some (v_i x4), l5], [v_i x4], h)) rfl).trans ?_
  all_goals exact ((am_Y_ret rfl rfl rfl).trans (am_r0))

theorem b_X11_wouldWays_38 {d : Nat} {Q : Option am_V → am_H → Prop} (h : am_H) (x5 : Int32) (x3 : Int32) (l1 l2 l4 : Option am_V) (Lh : Lay h) : ex_ (d + 1) 211 38 [some (v_r (some 0)), l1, l2, some (v_i x3), l4, some (v_i x5)] [] h Q ↔ ex_ d 210 0 [some (v_r (some 0)), some (v_i x5), some (v_i x3), none, none, none] [] h (fun r h' => ex_ (d + 1) 211 45 [some (v_r (some 0)), l1, l2, some (v_i x3), l4, some (v_i x5)] (r.toList ++ []) h' Q) := by
  unfold ex_
  refine (am_Y_go 3 (ok := []) (g := (42, [some (v_r (some 0)), l1, l2, some (v_i x3), l4, some (v_i x5)], [v_i x3, v_i x5, v_r (some 0)], h)) rfl).trans ?_
  all_goals exact ((am_Y_call (j := 210) (na := 3) (ci := 11) (fl := 0) rfl rfl rfl).trans (cj_d ⟨⟨Nat.le_of_ble_eq_true rfl, Nat.le_of_ble_eq_true rfl, Nat.le_of_ble_eq_true rfl, rfl⟩, Or.inr (Or.inr (show (11 : Nat) < 20 ∧ am_is h (some 0) 11 from ⟨by decide, (la_is Lh (o := 0) rfl)⟩))⟩ Iff.rfl))

theorem b_X11_wouldWays_45 {d : Nat} {Q : Option am_V → am_H → Prop} (h : am_H) (s0 : Int32) (l0 l1 l2 l3 l4 l5 : Option am_V) : ex_ d 211 45 [l0, l1, l2, l3, l4, l5] [v_i s0] h Q ↔ if s0 = 0 then ex_ d 211 68 [l0, l1, l2, l3, l4, l5] [] h Q else ex_ d 211 48 [l0, l1, l2, l3, l4, l5] [] h Q := by
  unfold ex_
  refine (am_Y_go 1 (ok := []) (g := (if s0 = 0 then 68 else 48, [l0, l1, l2, l3, l4, l5], [], h)) rfl).trans ?_
  all_goals exact am_Y_if

theorem b_X11_wouldWays_68 {d : Nat} {Q : Option am_V → am_H → Prop} (h : am_H) (x5 : Int32) (l0 l1 l2 l3 l4 : Option am_V) : ex_ d 211 68 [l0, l1, l2, l3, l4, some (v_i x5)] [] h Q ↔ ex_ d 211 28 [l0, l1, l2, l3, l4, some (v_i (x5 + (1 : Int32)))] [] h Q := by
  unfold ex_
  refine (am_Y_go 2 (ok := []) (g := (28, [l0, l1, l2, l3, l4, some (v_i (x5 + (1 : Int32)))], [], h)) rfl).trans ?_
  all_goals exact Iff.rfl

theorem b_X11_wouldWays_48 {d : Nat} {Q : Option am_V → am_H → Prop} (h : am_H) (x3 : Int32) (l1 l2 l4 l5 : Option am_V) (Lh : Lay h) : ex_ (d + 1) 211 48 [some (v_r (some 0)), l1, l2, some (v_i x3), l4, l5] [] h Q ↔ ex_ d 52 0 [some (v_r (some 15)), some (v_i (10 : Int32)), some (v_r (some 82)), some (v_i x3), none, none] [] h (fun r h' => ex_ (d + 1) 211 62 [some (v_r (some 0)), l1, l2, some (v_i x3), l4, l5] (r.toList ++ []) h' Q) := by
  have e0 : h_r h 0 6 = some 15 := la_r Lh (q := (0, 6, 15)) (by decide)
  have e1 : h_r h 0 16 = some 82 := la_r Lh (q := (0, 16, 82)) (by decide)
  unfold ex_
  refine (am_Y_go 6 (ok := [am_is h (some 0) 11, am_is h (some 0) 11]) (g := (59, [some (v_r (some 0)), l1, l2, some (v_i x3), l4, l5], [v_i x3, v_r ((h_r h 0 16)), v_i (10 : Int32), v_r ((h_r h 0 6))], h)) rfl).trans ?_
  simp only [e0, e1, Option.getD_some, am_all]
  all_goals exact cj_d (la_is Lh (o := 0) rfl) (cj_d (la_is Lh (o := 0) rfl) (((am_Y_call (j := 52) (na := 4) (ci := 6) (fl := 0) rfl rfl rfl).trans (cj_d ⟨⟨Nat.le_of_ble_eq_true rfl, Nat.le_of_ble_eq_true rfl, Nat.le_of_ble_eq_true rfl, rfl⟩, Or.inr (Or.inr (show (6 : Nat) < 20 ∧ am_is h (some 15) 6 from ⟨by decide, (la_is Lh (o := 15) rfl)⟩))⟩ Iff.rfl))))

theorem b_X11_wouldWays_62 {d : Nat} {Q : Option am_V → am_H → Prop} (h : am_H) (s0 : Int32) (l0 l1 l2 l3 l4 l5 : Option am_V) : ex_ d 211 62 [l0, l1, l2, l3, l4, l5] [v_i s0] h Q ↔ if ¬ s0 = 0 then ex_ d 211 68 [l0, l1, l2, l3, l4, l5] [] h Q else ex_ d 211 65 [l0, l1, l2, l3, l4, l5] [] h Q := by
  unfold ex_
  refine (am_Y_go 1 (ok := []) (g := (if ¬ s0 = 0 then 68 else 65, [l0, l1, l2, l3, l4, l5], [], h)) rfl).trans ?_
  all_goals exact am_Y_if

theorem b_X11_wouldWays_65 {d : Nat} {Q : Option am_V → am_H → Prop} (h : am_H) (x4 : Int32) (x5 : Int32) (l0 l1 l2 l3 : Option am_V) : ex_ d 211 65 [l0, l1, l2, l3, some (v_i x4), some (v_i x5)] [] h Q ↔ ex_ d 211 28 [l0, l1, l2, l3, some (v_i (x4 + (1 : Int32))), some (v_i (x5 + (1 : Int32)))] [] h Q := by
  unfold ex_
  refine (am_Y_go 3 (ok := []) (g := (28, [l0, l1, l2, l3, some (v_i (x4 + (1 : Int32))), some (v_i (x5 + (1 : Int32)))], [], h)) rfl).trans ?_
  all_goals exact Iff.rfl

theorem b_X11_repairs_0 {d : Nat} {Q : Option am_V → am_H → Prop} (h : am_H) (Lh : Lay h) : ex_ (d + 1) 212 0 [some (v_r (some 0))] [] h Q ↔ ex_ d 61 0 [some (v_r (some 56)), some (v_r (some 11)), none] [] h (fun r h' => ex_ (d + 1) 212 14 [some (v_r (some 0))] (r.toList ++ []) h' Q) := by
  have e0 : h_r h 0 13 = some 56 := la_r Lh (q := (0, 13, 56)) (by decide)
  have e1 : h_r h 0 5 = some 10 := la_r Lh (q := (0, 5, 10)) (by decide)
  have e2 : h_r h 10 0 = some 11 := la_r Lh (q := (10, 0, 11)) (by decide)
  unfold ex_
  refine (am_Y_go 5 (ok := [am_is h (some 0) 11, am_is h (some 0) 11, am_is h ((h_r h 0 5)) 2]) (g := (11, [some (v_r (some 0))], [v_r ((h_r h ((h_r h 0 5).getD 0) 0)), v_r ((h_r h 0 13))], h)) rfl).trans ?_
  simp only [e0, e1, e2, Option.getD_some, am_all]
  all_goals exact cj_d (la_is Lh (o := 0) rfl) (cj_d (la_is Lh (o := 0) rfl) (cj_d (la_is Lh (o := 10) rfl) (((am_Y_call (j := 61) (na := 2) (ci := 4) (fl := 0) rfl rfl rfl).trans (cj_d ⟨⟨Nat.le_of_ble_eq_true rfl, Nat.le_of_ble_eq_true rfl, Nat.le_of_ble_eq_true rfl, rfl⟩, Or.inr (Or.inr (show (4 : Nat) < 20 ∧ am_is h (some 56) 4 from ⟨by decide, (la_is Lh (o := 56) rfl)⟩))⟩ Iff.rfl)))))

theorem b_X11_repairs_14 {d : Nat} {Q : Option am_V → am_H → Prop} (h : am_H) (Lh : Lay h) : ex_ d 212 14 [some (v_r (some 0))] [] h Q ↔ Q (some (v_i (h_i h 56 3))) h := by
  have e0 : h_r h 0 13 = some 56 := la_r Lh (q := (0, 13, 56)) (by decide)
  unfold ex_
  refine (am_Y_go 3 (ok := [am_is h (some 0) 11, am_is h ((h_r h 0 13)) 4]) (g := (21, [some (v_r (some 0))], [v_i (h_i h ((h_r h 0 13).getD 0) 3)], h)) rfl).trans ?_
  simp only [e0, Option.getD_some, am_all]
  all_goals exact cj_d (la_is Lh (o := 0) rfl) (cj_d (la_is Lh (o := 56) rfl) (((am_Y_ret rfl rfl rfl).trans (am_r0))))

theorem b_X11_repair_0 {d : Nat} {Q : Option am_V → am_H → Prop} (h : am_H) (x1 : Int32) (l0 : Option am_V) : ex_ d 213 0 [l0, some (v_i x1)] [] h Q ↔ if 0 ≤ x1 then ex_ d 213 7 [l0, some (v_i x1)] [] h Q else ex_ d 213 4 [l0, some (v_i x1)] [] h Q := by
  unfold ex_
  refine (am_Y_go 2 (ok := []) (g := (if 0 ≤ x1 then 7 else 4, [l0, some (v_i x1)], [], h)) rfl).trans ?_
  all_goals exact am_Y_if

theorem b_X11_repair_7 {d : Nat} {Q : Option am_V → am_H → Prop} (h : am_H) (l1 : Option am_V) (Lh : Lay h) : ex_ (d + 1) 213 7 [some (v_r (some 0)), l1] [] h Q ↔ ex_ d 61 0 [some (v_r (some 56)), some (v_r (some 11)), none] [] h (fun r h' => ex_ (d + 1) 213 21 [some (v_r (some 0)), l1] (r.toList ++ []) h' Q) := by
  have e0 : h_r h 0 13 = some 56 := la_r Lh (q := (0, 13, 56)) (by decide)
  have e1 : h_r h 0 5 = some 10 := la_r Lh (q := (0, 5, 10)) (by decide)
  have e2 : h_r h 10 0 = some 11 := la_r Lh (q := (10, 0, 11)) (by decide)
  unfold ex_
  refine (am_Y_go 5 (ok := [am_is h (some 0) 11, am_is h (some 0) 11, am_is h ((h_r h 0 5)) 2]) (g := (18, [some (v_r (some 0)), l1], [v_r ((h_r h ((h_r h 0 5).getD 0) 0)), v_r ((h_r h 0 13))], h)) rfl).trans ?_
  simp only [e0, e1, e2, Option.getD_some, am_all]
  all_goals exact cj_d (la_is Lh (o := 0) rfl) (cj_d (la_is Lh (o := 0) rfl) (cj_d (la_is Lh (o := 10) rfl) (((am_Y_call (j := 61) (na := 2) (ci := 4) (fl := 0) rfl rfl rfl).trans (cj_d ⟨⟨Nat.le_of_ble_eq_true rfl, Nat.le_of_ble_eq_true rfl, Nat.le_of_ble_eq_true rfl, rfl⟩, Or.inr (Or.inr (show (4 : Nat) < 20 ∧ am_is h (some 56) 4 from ⟨by decide, (la_is Lh (o := 56) rfl)⟩))⟩ Iff.rfl)))))

theorem b_X11_repair_4 {d : Nat} {Q : Option am_V → am_H → Prop} (h : am_H) (l0 l1 : Option am_V) : ex_ d 213 4 [l0, l1] [] h Q ↔ Q (some (v_i (-3 : Int32))) h := by
  unfold ex_
  refine (am_Y_go 1 (ok := []) (g := (6, [l0, l1], [v_i (-3 : Int32)], h)) rfl).trans ?_
  all_goals exact ((am_Y_ret rfl rfl rfl).trans (am_r0))

theorem b_X11_repair_21 {d : Nat} {Q : Option am_V → am_H → Prop} (h : am_H) (x1 : Int32) (Lh : Lay h) : ex_ (d + 1) 213 21 [some (v_r (some 0)), some (v_i x1)] [] h Q ↔ ex_ d 62 0 [some (v_r (some 56)), some (v_i x1)] [] h (fun r h' => ex_ (d + 1) 213 29 [some (v_r (some 0)), some (v_i x1)] (r.toList ++ []) h' Q) := by
  have e0 : h_r h 0 13 = some 56 := la_r Lh (q := (0, 13, 56)) (by decide)
  unfold ex_
  refine (am_Y_go 3 (ok := [am_is h (some 0) 11]) (g := (26, [some (v_r (some 0)), some (v_i x1)], [v_i x1, v_r ((h_r h 0 13))], h)) rfl).trans ?_
  simp only [e0, Option.getD_some, am_all]
  all_goals exact cj_d (la_is Lh (o := 0) rfl) (((am_Y_call (j := 62) (na := 2) (ci := 4) (fl := 0) rfl rfl rfl).trans (cj_d ⟨⟨Nat.le_of_ble_eq_true rfl, Nat.le_of_ble_eq_true rfl, Nat.le_of_ble_eq_true rfl, rfl⟩, Or.inr (Or.inr (show (4 : Nat) < 20 ∧ am_is h (some 56) 4 from ⟨by decide, (la_is Lh (o := 56) rfl)⟩))⟩ Iff.rfl)))

theorem b_X11_repair_29 {d : Nat} {Q : Option am_V → am_H → Prop} (h : am_H) (s0 : Int32) (l0 l1 : Option am_V) : ex_ d 213 29 [l0, l1] [v_i s0] h Q ↔ Q (some (v_i s0)) h := by
  unfold ex_
  exact ((am_Y_ret rfl rfl rfl).trans (am_r0))

theorem b_X11_canBeTold_0 {d : Nat} {Q : Option am_V → am_H → Prop} (h : am_H) (x1 : Int64) (l0 l2 l3 l4 : Option am_V) : ex_ d 214 0 [l0, some (v_l x1), l2, l3, l4] [] h Q ↔ if (lg_cmp x1 (0 : Int64)) < 0 then ex_ d 214 28 [l0, some (v_l x1), l2, some (v_l (x1 / (10000000 : Int64))), none] [] h Q else ex_ d 214 12 [l0, some (v_l x1), l2, some (v_l (x1 / (10000000 : Int64))), none] [] h Q := by
  unfold ex_
  refine (am_Y_go 8 (ok := [¬ (10000000 : Int64) = 0]) (g := (if (lg_cmp x1 (0 : Int64)) < 0 then 28 else 12, [l0, some (v_l x1), l2, some (v_l (x1 / (10000000 : Int64))), none], [], h)) rfl).trans ?_
  simp only [am_all]
  all_goals exact cj_d (by decide) (am_Y_if)

theorem b_X11_canBeTold_28 {d : Nat} {Q : Option am_V → am_H → Prop} (h : am_H) (l0 l1 l2 l3 l4 : Option am_V) : ex_ d 214 28 [l0, l1, l2, l3, l4] [] h Q ↔ Q (some (v_i (0 : Int32))) h := by
  unfold ex_
  refine (am_Y_go 1 (ok := []) (g := (29, [l0, l1, l2, l3, l4], [v_i (0 : Int32)], h)) rfl).trans ?_
  all_goals exact ((am_Y_ret rfl rfl rfl).trans (am_rz (show am_fit 1 0 from Or.inl rfl)))

theorem b_X11_canBeTold_12 {d : Nat} {Q : Option am_V → am_H → Prop} (h : am_H) (x3 : Int64) (l1 l2 l4 : Option am_V) (Lh : Lay h) : ex_ d 214 12 [some (v_r (some 0)), l1, l2, some (v_l x3), l4] [] h Q ↔ if (lg_cmp x3 (Int32.toInt64 (h_i h 11 0))) < 0 then ex_ d 214 30 [some (v_r (some 0)), l1, l2, some (v_l x3), l4] [] h Q else ex_ d 214 28 [some (v_r (some 0)), l1, l2, some (v_l x3), l4] [] h Q := by
  have e0 : h_r h 0 5 = some 10 := la_r Lh (q := (0, 5, 10)) (by decide)
  have e1 : h_r h 10 0 = some 11 := la_r Lh (q := (10, 0, 11)) (by decide)
  unfold ex_
  refine (am_Y_go 8 (ok := [am_is h (some 0) 11, am_is h ((h_r h 0 5)) 2, am_is h ((h_r h ((h_r h 0 5).getD 0) 0)) 1]) (g := (if (lg_cmp x3 (Int32.toInt64 (h_i h ((h_r h ((h_r h 0 5).getD 0) 0).getD 0) 0))) < 0 then 30 else 28, [some (v_r (some 0)), l1, l2, some (v_l x3), l4], [], h)) rfl).trans ?_
  simp only [e0, e1, Option.getD_some, am_all]
  all_goals exact cj_d (la_is Lh (o := 0) rfl) (cj_d (la_is Lh (o := 10) rfl) (cj_d (la_is Lh (o := 11) rfl) (am_Y_if)))

theorem b_X11_canBeTold_30 {d : Nat} {Q : Option am_V → am_H → Prop} (h : am_H) (x3 : Int64) (l1 l2 l4 : Option am_V) (Lh : Lay h) : ex_ (d + 1) 214 30 [some (v_r (some 0)), l1, l2, some (v_l x3), l4] [] h Q ↔ ex_ d 47 0 [some (v_r (some 15)), some (v_i (Int64.toInt32 x3))] [] h (fun r h' => ex_ (d + 1) 214 39 [some (v_r (some 0)), l1, l2, some (v_l x3), l4] (r.toList ++ []) h' Q) := by
  have e0 : h_r h 0 6 = some 15 := la_r Lh (q := (0, 6, 15)) (by decide)
  unfold ex_
  refine (am_Y_go 4 (ok := [am_is h (some 0) 11]) (g := (36, [some (v_r (some 0)), l1, l2, some (v_l x3), l4], [v_i (Int64.toInt32 x3), v_r ((h_r h 0 6))], h)) rfl).trans ?_
  simp only [e0, Option.getD_some, am_all]
  all_goals exact cj_d (la_is Lh (o := 0) rfl) (((am_Y_call (j := 47) (na := 2) (ci := 6) (fl := 0) rfl rfl rfl).trans (cj_d ⟨⟨Nat.le_of_ble_eq_true rfl, Nat.le_of_ble_eq_true rfl, Nat.le_of_ble_eq_true rfl, rfl⟩, Or.inr (Or.inr (show (6 : Nat) < 20 ∧ am_is h (some 15) 6 from ⟨by decide, (la_is Lh (o := 15) rfl)⟩))⟩ Iff.rfl)))

theorem b_X11_canBeTold_39 {d : Nat} {Q : Option am_V → am_H → Prop} (h : am_H) (s0 : Int32) (l0 l1 l2 l3 l4 : Option am_V) : ex_ d 214 39 [l0, l1, l2, l3, l4] [v_i s0] h Q ↔ if s0 = 0 then ex_ d 214 62 [l0, l1, l2, l3, l4] [] h Q else ex_ d 214 42 [l0, l1, l2, l3, l4] [] h Q := by
  unfold ex_
  refine (am_Y_go 1 (ok := []) (g := (if s0 = 0 then 62 else 42, [l0, l1, l2, l3, l4], [], h)) rfl).trans ?_
  all_goals exact am_Y_if

theorem b_X11_canBeTold_62 {d : Nat} {Q : Option am_V → am_H → Prop} (h : am_H) (l0 l1 l2 l3 l4 : Option am_V) : ex_ d 214 62 [l0, l1, l2, l3, l4] [] h Q ↔ Q (some (v_i (0 : Int32))) h := by
  unfold ex_
  refine (am_Y_go 1 (ok := []) (g := (63, [l0, l1, l2, l3, l4], [v_i (0 : Int32)], h)) rfl).trans ?_
  all_goals exact ((am_Y_ret rfl rfl rfl).trans (am_rz (show am_fit 1 0 from Or.inl rfl)))

theorem b_X11_canBeTold_42 {d : Nat} {Q : Option am_V → am_H → Prop} (h : am_H) (x1 : Int64) (l0 l2 l3 l4 : Option am_V) : ex_ d 214 42 [l0, some (v_l x1), l2, l3, l4] [] h Q ↔ if 0 ≤ (lg_cmp ((x1 / (100000 : Int64)) - (x1 / (100000 : Int64)) / (100 : Int64) * (100 : Int64)) (8 : Int64)) then ex_ d 214 62 [l0, some (v_l x1), l2, l3, l4] [] h Q else ex_ d 214 58 [l0, some (v_l x1), l2, l3, l4] [] h Q := by
  unfold ex_
  refine (am_Y_go 8 (ok := [¬ (100000 : Int64) = 0, ¬ (100 : Int64) = 0]) (g := (if 0 ≤ (lg_cmp ((x1 / (100000 : Int64)) - (x1 / (100000 : Int64)) / (100 : Int64) * (100 : Int64)) (8 : Int64)) then 62 else 58, [l0, some (v_l x1), l2, l3, l4], [], h)) rfl).trans ?_
  simp only [am_all]
  all_goals exact cj_d (by decide) (cj_d (by decide) (am_Y_if))

theorem b_X11_canBeTold_58 {d : Nat} {Q : Option am_V → am_H → Prop} (h : am_H) (l0 l1 l2 l3 l4 : Option am_V) : ex_ d 214 58 [l0, l1, l2, l3, l4] [] h Q ↔ Q (some (v_i (1 : Int32))) h := by
  unfold ex_
  refine (am_Y_go 2 (ok := []) (g := (63, [l0, l1, l2, l3, l4], [v_i (1 : Int32)], h)) rfl).trans ?_
  all_goals exact ((am_Y_ret rfl rfl rfl).trans (am_rz (show am_fit 1 1 from Or.inr rfl)))

theorem b_X11_toldCode_0 {d : Nat} {Q : Option am_V → am_H → Prop} (h : am_H) (x1 : Int32) (l2 l3 l4 : Option am_V) (Lh : Lay h) : ex_ (d + 1) 215 0 [some (v_r (some 0)), some (v_i x1), l2, l3, l4] [] h Q ↔ ex_ d 185 0 [some (v_r (some 0)), some (v_i x1)] [] h (fun r h' => ex_ (d + 1) 215 5 [some (v_r (some 0)), some (v_i x1), l2, l3, l4] (r.toList ++ []) h' Q) := by
  unfold ex_
  refine (am_Y_go 2 (ok := []) (g := (2, [some (v_r (some 0)), some (v_i x1), l2, l3, l4], [v_i x1, v_r (some 0)], h)) rfl).trans ?_
  all_goals exact ((am_Y_call (j := 185) (na := 2) (ci := 11) (fl := 0) rfl rfl rfl).trans (cj_d ⟨⟨Nat.le_of_ble_eq_true rfl, Nat.le_of_ble_eq_true rfl, Nat.le_of_ble_eq_true rfl, rfl⟩, Or.inr (Or.inr (show (11 : Nat) < 20 ∧ am_is h (some 0) 11 from ⟨by decide, (la_is Lh (o := 0) rfl)⟩))⟩ Iff.rfl))

theorem b_X11_toldCode_5 {d : Nat} {Q : Option am_V → am_H → Prop} (h : am_H) (s0 : Int32) (l0 l1 l2 l3 l4 : Option am_V) : ex_ d 215 5 [l0, l1, l2, l3, l4] [v_i s0] h Q ↔ if s0 = 0 then ex_ d 215 12 [l0, l1, some (v_i s0), l3, l4] [] h Q else ex_ d 215 10 [l0, l1, some (v_i s0), l3, l4] [] h Q := by
  unfold ex_
  refine (am_Y_go 3 (ok := []) (g := (if s0 = 0 then 12 else 10, [l0, l1, some (v_i s0), l3, l4], [], h)) rfl).trans ?_
  all_goals exact am_Y_if

theorem b_X11_toldCode_12 {d : Nat} {Q : Option am_V → am_H → Prop} (h : am_H) (x1 : Int32) (l2 l3 l4 : Option am_V) (Lh : Lay h) : ex_ d 215 12 [some (v_r (some 0)), some (v_i x1), l2, l3, l4] [] h Q ↔ vp_in x1 4 ∧ ex_ d 215 20 [some (v_r (some 0)), some (v_i x1), l2, some (v_r (h_r h 83 (Int32.toNatClampNeg x1))), l4] [v_r (h_r h 83 (Int32.toNatClampNeg x1))] h Q := by
  have e0 : h_r h 0 17 = some 83 := la_r Lh (q := (0, 17, 83)) (by decide)
  unfold ex_
  refine (am_Y_go 6 (ok := [am_is h (some 0) 11, am_ar h ((h_r h 0 17)) 39 x1]) (g := (20, [some (v_r (some 0)), some (v_i x1), l2, some (v_r (h_r h ((h_r h 0 17).getD 0) (Int32.toNatClampNeg x1))), l4], [v_r (h_r h ((h_r h 0 17).getD 0) (Int32.toNatClampNeg x1))], h)) rfl).trans ?_
  simp only [e0, Option.getD_some, am_all]
  all_goals exact cj_d (la_is Lh (o := 0) rfl) (cj_k (la_ar Lh (o := 83) rfl) (Iff.rfl))

theorem b_X11_toldCode_10 {d : Nat} {Q : Option am_V → am_H → Prop} (h : am_H) (x2 : Int32) (l0 l1 l3 l4 : Option am_V) : ex_ d 215 10 [l0, l1, some (v_i x2), l3, l4] [] h Q ↔ Q (some (v_i x2)) h := by
  unfold ex_
  refine (am_Y_go 1 (ok := []) (g := (11, [l0, l1, some (v_i x2), l3, l4], [v_i x2], h)) rfl).trans ?_
  all_goals exact ((am_Y_ret rfl rfl rfl).trans (am_r0))

theorem b_X11_toldCode_20 {d : Nat} {Q : Option am_V → am_H → Prop} (h : am_H) (t0 : Nat) (l0 l1 l2 l3 l4 : Option am_V) (F_t0 : y_Tray h t0) : ex_ d 215 20 [l0, l1, l2, l3, l4] [v_r (some t0)] h Q ↔ if (h_i h t0 1) < (1 : Int32) then ex_ d 215 36 [l0, l1, l2, l3, l4] [] h Q else ex_ d 215 27 [l0, l1, l2, l3, l4] [] h Q := by
  unfold ex_
  refine (am_Y_go 3 (ok := [am_is h (some t0) 9]) (g := (if (h_i h t0 1) < (1 : Int32) then 36 else 27, [l0, l1, l2, l3, l4], [], h)) rfl).trans ?_
  simp only [am_all]
  all_goals exact cj_d (lr_is (F_t0.1 0 rfl)) (am_Y_if)

theorem b_X11_toldCode_36 {d : Nat} {Q : Option am_V → am_H → Prop} (h : am_H) (l0 l1 l2 l3 l4 : Option am_V) : ex_ d 215 36 [l0, l1, l2, l3, l4] [] h Q ↔ Q (some (v_i (-4 : Int32))) h := by
  unfold ex_
  refine (am_Y_go 1 (ok := []) (g := (38, [l0, l1, l2, l3, l4], [v_i (-4 : Int32)], h)) rfl).trans ?_
  all_goals exact ((am_Y_ret rfl rfl rfl).trans (am_r0))

theorem b_X11_toldCode_27 {d : Nat} {Q : Option am_V → am_H → Prop} (h : am_H) (x3 : Option Nat) (l0 l1 l2 l4 : Option am_V) : ex_ d 215 27 [l0, l1, l2, some (v_r x3), l4] [] h Q ↔ ex_ d 215 28 [l0, l1, l2, some (v_r x3), l4] [v_r x3] h Q := by
  unfold ex_
  refine (am_Y_go 1 (ok := []) (g := (28, [l0, l1, l2, some (v_r x3), l4], [v_r x3], h)) rfl).trans ?_
  all_goals exact Iff.rfl

theorem b_X11_toldCode_28 {d : Nat} {Q : Option am_V → am_H → Prop} (h : am_H) (t0 : Nat) (l0 l1 l2 l3 l4 : Option am_V) (F_t0 : y_Tray h t0) : ex_ d 215 28 [l0, l1, l2, l3, l4] [v_r (some t0)] h Q ↔ if (h_i h t0 1) ≤ (8 : Int32) then ex_ d 215 39 [l0, l1, l2, l3, l4] [] h Q else ex_ d 215 36 [l0, l1, l2, l3, l4] [] h Q := by
  unfold ex_
  refine (am_Y_go 3 (ok := [am_is h (some t0) 9]) (g := (if (h_i h t0 1) ≤ (8 : Int32) then 39 else 36, [l0, l1, l2, l3, l4], [], h)) rfl).trans ?_
  simp only [am_all]
  all_goals exact cj_d (lr_is (F_t0.1 0 rfl)) (am_Y_if)

theorem b_X11_toldCode_39 {d : Nat} {Q : Option am_V → am_H → Prop} (h : am_H) (l0 l1 l2 l3 l4 : Option am_V) : ex_ d 215 39 [l0, l1, l2, l3, l4] [] h Q ↔ ex_ d 215 42 [l0, l1, l2, l3, some (v_i (0 : Int32))] [] h Q := by
  unfold ex_
  refine (am_Y_go 2 (ok := []) (g := (42, [l0, l1, l2, l3, some (v_i (0 : Int32))], [], h)) rfl).trans ?_
  all_goals exact Iff.rfl

theorem b_X11_toldCode_42 {d : Nat} {Q : Option am_V → am_H → Prop} (h : am_H) (x4 : Int32) (x3 : Option Nat) (l0 l1 l2 : Option am_V) : ex_ d 215 42 [l0, l1, l2, some (v_r x3), some (v_i x4)] [] h Q ↔ ex_ d 215 45 [l0, l1, l2, some (v_r x3), some (v_i x4)] [v_r x3, v_i x4] h Q := by
  unfold ex_
  refine (am_Y_go 2 (ok := []) (g := (45, [l0, l1, l2, some (v_r x3), some (v_i x4)], [v_r x3, v_i x4], h)) rfl).trans ?_
  all_goals exact Iff.rfl

theorem b_X11_toldCode_45 {d : Nat} {Q : Option am_V → am_H → Prop} (h : am_H) (t0 : Nat) (s1 : Int32) (l0 l1 l2 l3 l4 : Option am_V) (F_t0 : y_Tray h t0) : ex_ d 215 45 [l0, l1, l2, l3, l4] [v_r (some t0), v_i s1] h Q ↔ if (h_i h t0 1) ≤ s1 then ex_ d 215 73 [l0, l1, l2, l3, l4] [] h Q else ex_ d 215 51 [l0, l1, l2, l3, l4] [] h Q := by
  unfold ex_
  refine (am_Y_go 2 (ok := [am_is h (some t0) 9]) (g := (if (h_i h t0 1) ≤ s1 then 73 else 51, [l0, l1, l2, l3, l4], [], h)) rfl).trans ?_
  simp only [am_all]
  all_goals exact cj_d (lr_is (F_t0.1 0 rfl)) (am_Y_if)

theorem b_X11_toldCode_73 {d : Nat} {Q : Option am_V → am_H → Prop} (h : am_H) (l0 l1 l2 l3 l4 : Option am_V) : ex_ d 215 73 [l0, l1, l2, l3, l4] [] h Q ↔ Q (some (v_i (0 : Int32))) h := by
  unfold ex_
  refine (am_Y_go 1 (ok := []) (g := (74, [l0, l1, l2, l3, l4], [v_i (0 : Int32)], h)) rfl).trans ?_
  all_goals exact ((am_Y_ret rfl rfl rfl).trans (am_r0))

theorem b_X11_toldCode_51 {d : Nat} {Q : Option am_V → am_H → Prop} (h : am_H) (x3 : Option Nat) (x4 : Int32) (l1 l2 : Option am_V) (Lh : Lay h) : ex_ d 215 51 [some (v_r (some 0)), l1, l2, some (v_r x3), some (v_i x4)] [] h Q ↔ ex_ d 215 55 [some (v_r (some 0)), l1, l2, some (v_r x3), some (v_i x4)] [v_i x4, v_r x3, v_r (some 0)] h Q := by
  unfold ex_
  refine (am_Y_go 3 (ok := []) (g := (55, [some (v_r (some 0)), l1, l2, some (v_r x3), some (v_i x4)], [v_i x4, v_r x3, v_r (some 0)], h)) rfl).trans ?_
  all_goals exact Iff.rfl

theorem b_X11_toldCode_55 {d : Nat} {Q : Option am_V → am_H → Prop} (h : am_H) (s0 : Int32) (t1 : Nat) (l0 l1 l2 l3 l4 : Option am_V) (Lh : Lay h) (F_t1 : y_Tray h t1) : ex_ (d + 1) 215 55 [l0, l1, l2, l3, l4] [v_i s0, v_r (some t1), v_r (some 0)] h Q ↔ ex_ d 145 0 [some (v_r (some t1)), some (v_i s0)] [] h (fun r h' => ex_ (d + 1) 215 58 [l0, l1, l2, l3, l4] (r.toList ++ [v_r (some 0)]) h' Q) := by
  unfold ex_
  exact ((am_Y_call (j := 145) (na := 2) (ci := 9) (fl := 0) rfl rfl rfl).trans (cj_d ⟨⟨Nat.le_of_ble_eq_true rfl, Nat.le_of_ble_eq_true rfl, Nat.le_of_ble_eq_true rfl, rfl⟩, Or.inr (Or.inr (show (9 : Nat) < 20 ∧ am_is h (some t1) 9 from ⟨by decide, (lr_is (F_t1.1 0 rfl))⟩))⟩ Iff.rfl))

theorem b_X11_toldCode_58 {d : Nat} {Q : Option am_V → am_H → Prop} (h : am_H) (s0 : Int64) (l0 l1 l2 l3 l4 : Option am_V) (Lh : Lay h) : ex_ (d + 1) 215 58 [l0, l1, l2, l3, l4] [v_l s0, v_r (some 0)] h Q ↔ ex_ d 214 0 [some (v_r (some 0)), some (v_l s0), none, none, none] [] h (fun r h' => ex_ (d + 1) 215 61 [l0, l1, l2, l3, l4] (r.toList ++ []) h' Q) := by
  unfold ex_
  exact ((am_Y_call (j := 214) (na := 2) (ci := 11) (fl := 0) rfl rfl rfl).trans (cj_d ⟨⟨Nat.le_of_ble_eq_true rfl, Nat.le_of_ble_eq_true rfl, Nat.le_of_ble_eq_true rfl, rfl⟩, Or.inr (Or.inr (show (11 : Nat) < 20 ∧ am_is h (some 0) 11 from ⟨by decide, (la_is Lh (o := 0) rfl)⟩))⟩ Iff.rfl))

theorem b_X11_toldCode_61 {d : Nat} {Q : Option am_V → am_H → Prop} (h : am_H) (s0 : Int32) (l0 l1 l2 l3 l4 : Option am_V) : ex_ d 215 61 [l0, l1, l2, l3, l4] [v_i s0] h Q ↔ if ¬ s0 = 0 then ex_ d 215 67 [l0, l1, l2, l3, l4] [] h Q else ex_ d 215 64 [l0, l1, l2, l3, l4] [] h Q := by
  unfold ex_
  refine (am_Y_go 1 (ok := []) (g := (if ¬ s0 = 0 then 67 else 64, [l0, l1, l2, l3, l4], [], h)) rfl).trans ?_
  all_goals exact am_Y_if

theorem b_X11_toldCode_67 {d : Nat} {Q : Option am_V → am_H → Prop} (h : am_H) (x4 : Int32) (l0 l1 l2 l3 : Option am_V) : ex_ d 215 67 [l0, l1, l2, l3, some (v_i x4)] [] h Q ↔ ex_ d 215 42 [l0, l1, l2, l3, some (v_i (x4 + (1 : Int32)))] [] h Q := by
  unfold ex_
  refine (am_Y_go 2 (ok := []) (g := (42, [l0, l1, l2, l3, some (v_i (x4 + (1 : Int32)))], [], h)) rfl).trans ?_
  all_goals exact Iff.rfl

theorem b_X11_toldCode_64 {d : Nat} {Q : Option am_V → am_H → Prop} (h : am_H) (l0 l1 l2 l3 l4 : Option am_V) : ex_ d 215 64 [l0, l1, l2, l3, l4] [] h Q ↔ Q (some (v_i (-3 : Int32))) h := by
  unfold ex_
  refine (am_Y_go 1 (ok := []) (g := (66, [l0, l1, l2, l3, l4], [v_i (-3 : Int32)], h)) rfl).trans ?_
  all_goals exact ((am_Y_ret rfl rfl rfl).trans (am_r0))

theorem b_X11_moodsOf_0 {d : Nat} {Q : Option am_V → am_H → Prop} (h : am_H) (l0 l1 l2 l3 l4 l5 l6 l7 l8 : Option am_V) : ex_ d 216 0 [l0, l1, l2, l3, l4, l5, l6, l7, l8] [] h Q ↔ ex_ d 216 4 [l0, l1, some (v_i (0 : Int32)), some (v_i (0 : Int32)), l4, l5, l6, l7, l8] [] h Q := by
  unfold ex_
  refine (am_Y_go 4 (ok := []) (g := (4, [l0, l1, some (v_i (0 : Int32)), some (v_i (0 : Int32)), l4, l5, l6, l7, l8], [], h)) rfl).trans ?_
  all_goals exact Iff.rfl

theorem b_X11_moodsOf_4 {d : Nat} {Q : Option am_V → am_H → Prop} (h : am_H) (x3 : Int32) (l0 l1 l2 l4 l5 l6 l7 l8 : Option am_V) : ex_ d 216 4 [l0, l1, l2, some (v_i x3), l4, l5, l6, l7, l8] [] h Q ↔ if (10 : Int32) ≤ x3 then ex_ d 216 113 [l0, l1, l2, some (v_i x3), l4, l5, l6, l7, l8] [] h Q else ex_ d 216 10 [l0, l1, l2, some (v_i x3), l4, l5, l6, l7, l8] [] h Q := by
  unfold ex_
  refine (am_Y_go 3 (ok := []) (g := (if (10 : Int32) ≤ x3 then 113 else 10, [l0, l1, l2, some (v_i x3), l4, l5, l6, l7, l8], [], h)) rfl).trans ?_
  all_goals exact am_Y_if

theorem b_X11_moodsOf_113 {d : Nat} {Q : Option am_V → am_H → Prop} (h : am_H) (x2 : Int32) (l0 l1 l3 l4 l5 l6 l7 l8 : Option am_V) : ex_ d 216 113 [l0, l1, some (v_i x2), l3, l4, l5, l6, l7, l8] [] h Q ↔ Q (some (v_i x2)) h := by
  unfold ex_
  refine (am_Y_go 1 (ok := []) (g := (114, [l0, l1, some (v_i x2), l3, l4, l5, l6, l7, l8], [v_i x2], h)) rfl).trans ?_
  all_goals exact ((am_Y_ret rfl rfl rfl).trans (am_r0))

theorem b_X11_moodsOf_10 {d : Nat} {Q : Option am_V → am_H → Prop} (h : am_H) (l0 l1 l2 l3 l4 l5 l6 l7 l8 : Option am_V) : ex_ d 216 10 [l0, l1, l2, l3, l4, l5, l6, l7, l8] [] h Q ↔ ex_ d 216 16 [l0, l1, l2, l3, some (v_i (1 : Int32)), some (v_i (0 : Int32)), l6, l7, l8] [] h Q := by
  unfold ex_
  refine (am_Y_go 4 (ok := []) (g := (16, [l0, l1, l2, l3, some (v_i (1 : Int32)), some (v_i (0 : Int32)), l6, l7, l8], [], h)) rfl).trans ?_
  all_goals exact Iff.rfl

theorem b_X11_moodsOf_16 {d : Nat} {Q : Option am_V → am_H → Prop} (h : am_H) (x5 : Int32) (o1 : Nat) (l0 l2 l3 l4 l6 l7 l8 : Option am_V) (F_o1 : y_Tray h o1) : ex_ d 216 16 [l0, some (v_r (some o1)), l2, l3, l4, some (v_i x5), l6, l7, l8] [] h Q ↔ if (h_i h o1 1) ≤ x5 then ex_ d 216 96 [l0, some (v_r (some o1)), l2, l3, l4, some (v_i x5), l6, l7, l8] [] h Q else ex_ d 216 25 [l0, some (v_r (some o1)), l2, l3, l4, some (v_i x5), l6, l7, l8] [] h Q := by
  unfold ex_
  refine (am_Y_go 4 (ok := [am_is h (some o1) 9]) (g := (if (h_i h o1 1) ≤ x5 then 96 else 25, [l0, some (v_r (some o1)), l2, l3, l4, some (v_i x5), l6, l7, l8], [], h)) rfl).trans ?_
  simp only [am_all]
  all_goals exact cj_d (lr_is (F_o1.1 0 rfl)) (am_Y_if)

theorem b_X11_moodsOf_96 {d : Nat} {Q : Option am_V → am_H → Prop} (h : am_H) (x4 : Int32) (l0 l1 l2 l3 l5 l6 l7 l8 : Option am_V) : ex_ d 216 96 [l0, l1, l2, l3, some (v_i x4), l5, l6, l7, l8] [] h Q ↔ if x4 = 0 then ex_ d 216 107 [l0, l1, l2, l3, some (v_i x4), l5, l6, l7, l8] [] h Q else ex_ d 216 101 [l0, l1, l2, l3, some (v_i x4), l5, l6, l7, l8] [] h Q := by
  unfold ex_
  refine (am_Y_go 2 (ok := []) (g := (if x4 = 0 then 107 else 101, [l0, l1, l2, l3, some (v_i x4), l5, l6, l7, l8], [], h)) rfl).trans ?_
  all_goals exact am_Y_if

theorem b_X11_moodsOf_25 {d : Nat} {Q : Option am_V → am_H → Prop} (h : am_H) (x4 : Int32) (l0 l1 l2 l3 l5 l6 l7 l8 : Option am_V) : ex_ d 216 25 [l0, l1, l2, l3, some (v_i x4), l5, l6, l7, l8] [] h Q ↔ if x4 = 0 then ex_ d 216 96 [l0, l1, l2, l3, some (v_i x4), l5, l6, l7, l8] [] h Q else ex_ d 216 30 [l0, l1, l2, l3, some (v_i x4), l5, l6, l7, l8] [] h Q := by
  unfold ex_
  refine (am_Y_go 2 (ok := []) (g := (if x4 = 0 then 96 else 30, [l0, l1, l2, l3, some (v_i x4), l5, l6, l7, l8], [], h)) rfl).trans ?_
  all_goals exact am_Y_if

theorem b_X11_moodsOf_107 {d : Nat} {Q : Option am_V → am_H → Prop} (h : am_H) (x3 : Int32) (l0 l1 l2 l4 l5 l6 l7 l8 : Option am_V) : ex_ d 216 107 [l0, l1, l2, some (v_i x3), l4, l5, l6, l7, l8] [] h Q ↔ ex_ d 216 4 [l0, l1, l2, some (v_i (x3 + (1 : Int32))), l4, l5, l6, l7, l8] [] h Q := by
  unfold ex_
  refine (am_Y_go 2 (ok := []) (g := (4, [l0, l1, l2, some (v_i (x3 + (1 : Int32))), l4, l5, l6, l7, l8], [], h)) rfl).trans ?_
  all_goals exact Iff.rfl

theorem b_X11_moodsOf_101 {d : Nat} {Q : Option am_V → am_H → Prop} (h : am_H) (x2 : Int32) (x3 : Int32) (l0 l1 l4 l5 l6 l7 l8 : Option am_V) : ex_ d 216 101 [l0, l1, some (v_i x2), some (v_i x3), l4, l5, l6, l7, l8] [] h Q ↔ ex_ d 216 4 [l0, l1, some (v_i (x2 ||| ((1 : Int32) <<< (x3 &&& 31)))), some (v_i (x3 + (1 : Int32))), l4, l5, l6, l7, l8] [] h Q := by
  unfold ex_
  refine (am_Y_go 8 (ok := []) (g := (4, [l0, l1, some (v_i (x2 ||| ((1 : Int32) <<< (x3 &&& 31)))), some (v_i (x3 + (1 : Int32))), l4, l5, l6, l7, l8], [], h)) rfl).trans ?_
  all_goals exact Iff.rfl

theorem b_X11_moodsOf_30 {d : Nat} {Q : Option am_V → am_H → Prop} (h : am_H) (o1 : Nat) (x5 : Int32) (l0 l2 l3 l4 l6 l7 l8 : Option am_V) (F_o1 : y_Tray h o1) : ex_ (d + 1) 216 30 [l0, some (v_r (some o1)), l2, l3, l4, some (v_i x5), l6, l7, l8] [] h Q ↔ ex_ d 145 0 [some (v_r (some o1)), some (v_i x5)] [] h (fun r h' => ex_ (d + 1) 216 36 [l0, some (v_r (some o1)), l2, l3, l4, some (v_i x5), l6, l7, l8] (r.toList ++ []) h' Q) := by
  unfold ex_
  refine (am_Y_go 2 (ok := []) (g := (33, [l0, some (v_r (some o1)), l2, l3, l4, some (v_i x5), l6, l7, l8], [v_i x5, v_r (some o1)], h)) rfl).trans ?_
  all_goals exact ((am_Y_call (j := 145) (na := 2) (ci := 9) (fl := 0) rfl rfl rfl).trans (cj_d ⟨⟨Nat.le_of_ble_eq_true rfl, Nat.le_of_ble_eq_true rfl, Nat.le_of_ble_eq_true rfl, rfl⟩, Or.inr (Or.inr (show (9 : Nat) < 20 ∧ am_is h (some o1) 9 from ⟨by decide, (lr_is (F_o1.1 0 rfl))⟩))⟩ Iff.rfl))

theorem b_X11_moodsOf_36 {d : Nat} {Q : Option am_V → am_H → Prop} (h : am_H) (s0 : Int64) (x3 : Int32) (l1 l2 l4 l5 l6 l7 l8 : Option am_V) (Lh : Lay h) : ex_ (d + 1) 216 36 [some (v_r (some 0)), l1, l2, some (v_i x3), l4, l5, l6, l7, l8] [v_l s0] h Q ↔ ex_ d 157 0 [some (v_r (some 51)), some (v_i (Int64.toInt32 (s0 / (10000000 : Int64)))), some (v_i (Int64.toInt32 ((s0 / (100000 : Int64)) - (s0 / (100000 : Int64)) / (100 : Int64) * (100 : Int64)))), some (v_i x3), none] [] h (fun r h' => ex_ (d + 1) 216 64 [some (v_r (some 0)), l1, l2, some (v_i x3), l4, l5, some (v_l s0), none, l8] (r.toList ++ []) h' Q) := by
  have e0 : h_r h 0 12 = some 51 := la_r Lh (q := (0, 12, 51)) (by decide)
  unfold ex_
  refine (am_Y_go 14 (ok := [am_is h (some 0) 11, ¬ (10000000 : Int64) = 0, ¬ (100000 : Int64) = 0, ¬ (100 : Int64) = 0]) (g := (61, [some (v_r (some 0)), l1, l2, some (v_i x3), l4, l5, some (v_l s0), none, l8], [v_i x3, v_i (Int64.toInt32 ((s0 / (100000 : Int64)) - (s0 / (100000 : Int64)) / (100 : Int64) * (100 : Int64))), v_i (Int64.toInt32 (s0 / (10000000 : Int64))), v_r ((h_r h 0 12))], h)) rfl).trans ?_
  simp only [e0, Option.getD_some, am_all]
  all_goals exact cj_d (la_is Lh (o := 0) rfl) (cj_d (by decide) (cj_d (by decide) (cj_d (by decide) (((am_Y_call (j := 157) (na := 4) (ci := 10) (fl := 0) rfl rfl rfl).trans (cj_d ⟨⟨Nat.le_of_ble_eq_true rfl, Nat.le_of_ble_eq_true rfl, Nat.le_of_ble_eq_true rfl, rfl⟩, Or.inr (Or.inr (show (10 : Nat) < 20 ∧ am_is h (some 51) 10 from ⟨by decide, (la_is Lh (o := 51) rfl)⟩))⟩ Iff.rfl))))))

theorem b_X11_moodsOf_64 {d : Nat} {Q : Option am_V → am_H → Prop} (h : am_H) (s0 : Int32) (x6 : Int64) (l0 l1 l2 l3 l4 l5 l7 l8 : Option am_V) : ex_ d 216 64 [l0, l1, l2, l3, l4, l5, some (v_l x6), l7, l8] [v_i s0] h Q ↔ if ¬ (lg_cmp (Int32.toInt64 s0) ((x6 - x6 / (100000 : Int64) * (100000 : Int64)) - (50000 : Int64))) = 0 then ex_ d 216 87 [l0, l1, l2, l3, l4, l5, some (v_l x6), l7, some (v_i s0)] [] h Q else ex_ d 216 83 [l0, l1, l2, l3, l4, l5, some (v_l x6), l7, some (v_i s0)] [] h Q := by
  unfold ex_
  refine (am_Y_go 10 (ok := [¬ (100000 : Int64) = 0]) (g := (if ¬ (lg_cmp (Int32.toInt64 s0) ((x6 - x6 / (100000 : Int64) * (100000 : Int64)) - (50000 : Int64))) = 0 then 87 else 83, [l0, l1, l2, l3, l4, l5, some (v_l x6), l7, some (v_i s0)], [], h)) rfl).trans ?_
  simp only [am_all]
  all_goals exact cj_d (by decide) (am_Y_if)

theorem b_X11_moodsOf_87 {d : Nat} {Q : Option am_V → am_H → Prop} (h : am_H) (x5 : Int32) (l0 l1 l2 l3 l4 l6 l7 l8 : Option am_V) : ex_ d 216 87 [l0, l1, l2, l3, l4, some (v_i x5), l6, l7, l8] [] h Q ↔ ex_ d 216 16 [l0, l1, l2, l3, some (v_i (0 : Int32)), some (v_i (x5 + (1 : Int32))), l6, l7, l8] [] h Q := by
  unfold ex_
  refine (am_Y_go 4 (ok := []) (g := (16, [l0, l1, l2, l3, some (v_i (0 : Int32)), some (v_i (x5 + (1 : Int32))), l6, l7, l8], [], h)) rfl).trans ?_
  all_goals exact Iff.rfl

theorem b_X11_moodsOf_83 {d : Nat} {Q : Option am_V → am_H → Prop} (h : am_H) (x5 : Int32) (l0 l1 l2 l3 l4 l6 l7 l8 : Option am_V) : ex_ d 216 83 [l0, l1, l2, l3, l4, some (v_i x5), l6, l7, l8] [] h Q ↔ ex_ d 216 16 [l0, l1, l2, l3, some (v_i (1 : Int32)), some (v_i (x5 + (1 : Int32))), l6, l7, l8] [] h Q := by
  unfold ex_
  refine (am_Y_go 5 (ok := []) (g := (16, [l0, l1, l2, l3, some (v_i (1 : Int32)), some (v_i (x5 + (1 : Int32))), l6, l7, l8], [], h)) rfl).trans ?_
  all_goals exact Iff.rfl

theorem b_X11_moods_0 {d : Nat} {Q : Option am_V → am_H → Prop} (h : am_H) (x1 : Int32) (l2 : Option am_V) (Lh : Lay h) : ex_ (d + 1) 217 0 [some (v_r (some 0)), some (v_i x1), l2] [] h Q ↔ ex_ d 215 0 [some (v_r (some 0)), some (v_i x1), none, none, none] [] h (fun r h' => ex_ (d + 1) 217 5 [some (v_r (some 0)), some (v_i x1), l2] (r.toList ++ []) h' Q) := by
  unfold ex_
  refine (am_Y_go 2 (ok := []) (g := (2, [some (v_r (some 0)), some (v_i x1), l2], [v_i x1, v_r (some 0)], h)) rfl).trans ?_
  all_goals exact ((am_Y_call (j := 215) (na := 2) (ci := 11) (fl := 0) rfl rfl rfl).trans (cj_d ⟨⟨Nat.le_of_ble_eq_true rfl, Nat.le_of_ble_eq_true rfl, Nat.le_of_ble_eq_true rfl, rfl⟩, Or.inr (Or.inr (show (11 : Nat) < 20 ∧ am_is h (some 0) 11 from ⟨by decide, (la_is Lh (o := 0) rfl)⟩))⟩ Iff.rfl))

theorem b_X11_moods_5 {d : Nat} {Q : Option am_V → am_H → Prop} (h : am_H) (s0 : Int32) (l0 l1 l2 : Option am_V) : ex_ d 217 5 [l0, l1, l2] [v_i s0] h Q ↔ if s0 = 0 then ex_ d 217 14 [l0, l1, some (v_i s0)] [] h Q else ex_ d 217 10 [l0, l1, some (v_i s0)] [] h Q := by
  unfold ex_
  refine (am_Y_go 3 (ok := []) (g := (if s0 = 0 then 14 else 10, [l0, l1, some (v_i s0)], [], h)) rfl).trans ?_
  all_goals exact am_Y_if

theorem b_X11_moods_14 {d : Nat} {Q : Option am_V → am_H → Prop} (h : am_H) (x1 : Int32) (l2 : Option am_V) (Lh : Lay h) : ex_ (d + 1) 217 14 [some (v_r (some 0)), some (v_i x1), l2] [] h Q ↔ vp_in x1 4 ∧ ex_ d 216 0 [some (v_r (some 0)), some (v_r (h_r h 83 (Int32.toNatClampNeg x1))), none, none, none, none, none, none, none] [] h (fun r h' => ex_ (d + 1) 217 24 [some (v_r (some 0)), some (v_i x1), l2] (r.toList ++ []) h' Q) := by
  have e0 : h_r h 0 17 = some 83 := la_r Lh (q := (0, 17, 83)) (by decide)
  unfold ex_
  refine (am_Y_go 5 (ok := [am_is h (some 0) 11, am_ar h ((h_r h 0 17)) 39 x1]) (g := (21, [some (v_r (some 0)), some (v_i x1), l2], [v_r (h_r h ((h_r h 0 17).getD 0) (Int32.toNatClampNeg x1)), v_r (some 0)], h)) rfl).trans ?_
  simp only [e0, Option.getD_some, am_all]
  all_goals exact cj_d (la_is Lh (o := 0) rfl) (cj_k (la_ar Lh (o := 83) rfl) (((am_Y_call (j := 216) (na := 2) (ci := 11) (fl := 0) rfl rfl rfl).trans (cj_d ⟨⟨Nat.le_of_ble_eq_true rfl, Nat.le_of_ble_eq_true rfl, Nat.le_of_ble_eq_true rfl, rfl⟩, Or.inr (Or.inr (show (11 : Nat) < 20 ∧ am_is h (some 0) 11 from ⟨by decide, (la_is Lh (o := 0) rfl)⟩))⟩ Iff.rfl))))

theorem b_X11_moods_10 {d : Nat} {Q : Option am_V → am_H → Prop} (h : am_H) (x2 : Int32) (l0 l1 : Option am_V) : ex_ d 217 10 [l0, l1, some (v_i x2)] [] h Q ↔ Q (some (v_i x2)) h := by
  unfold ex_
  refine (am_Y_go 2 (ok := []) (g := (24, [l0, l1, some (v_i x2)], [v_i x2], h)) rfl).trans ?_
  all_goals exact ((am_Y_ret rfl rfl rfl).trans (am_r0))

theorem b_X11_moods_24 {d : Nat} {Q : Option am_V → am_H → Prop} (h : am_H) (s0 : Int32) (l0 l1 l2 : Option am_V) : ex_ d 217 24 [l0, l1, l2] [v_i s0] h Q ↔ Q (some (v_i s0)) h := by
  unfold ex_
  exact ((am_Y_ret rfl rfl rfl).trans (am_r0))

theorem b_X11_attempt_0 {d : Nat} {Q : Option am_V → am_H → Prop} (h : am_H) (x1 : Int32) (l2 l3 l4 l5 l6 l7 l8 : Option am_V) (Lh : Lay h) : ex_ (d + 1) 218 0 [some (v_r (some 0)), some (v_i x1), l2, l3, l4, l5, l6, l7, l8] [] h Q ↔ ex_ d 215 0 [some (v_r (some 0)), some (v_i x1), none, none, none] [] h (fun r h' => ex_ (d + 1) 218 5 [some (v_r (some 0)), some (v_i x1), l2, l3, l4, l5, l6, l7, l8] (r.toList ++ []) h' Q) := by
  unfold ex_
  refine (am_Y_go 2 (ok := []) (g := (2, [some (v_r (some 0)), some (v_i x1), l2, l3, l4, l5, l6, l7, l8], [v_i x1, v_r (some 0)], h)) rfl).trans ?_
  all_goals exact ((am_Y_call (j := 215) (na := 2) (ci := 11) (fl := 0) rfl rfl rfl).trans (cj_d ⟨⟨Nat.le_of_ble_eq_true rfl, Nat.le_of_ble_eq_true rfl, Nat.le_of_ble_eq_true rfl, rfl⟩, Or.inr (Or.inr (show (11 : Nat) < 20 ∧ am_is h (some 0) 11 from ⟨by decide, (la_is Lh (o := 0) rfl)⟩))⟩ Iff.rfl))

theorem b_X11_attempt_5 {d : Nat} {Q : Option am_V → am_H → Prop} (h : am_H) (s0 : Int32) (l0 l1 l2 l3 l4 l5 l6 l7 l8 : Option am_V) : ex_ d 218 5 [l0, l1, l2, l3, l4, l5, l6, l7, l8] [v_i s0] h Q ↔ if s0 = 0 then ex_ d 218 12 [l0, l1, some (v_i s0), l3, l4, l5, l6, l7, l8] [] h Q else ex_ d 218 10 [l0, l1, some (v_i s0), l3, l4, l5, l6, l7, l8] [] h Q := by
  unfold ex_
  refine (am_Y_go 3 (ok := []) (g := (if s0 = 0 then 12 else 10, [l0, l1, some (v_i s0), l3, l4, l5, l6, l7, l8], [], h)) rfl).trans ?_
  all_goals exact am_Y_if

theorem b_X11_attempt_12 {d : Nat} {Q : Option am_V → am_H → Prop} (h : am_H) (x1 : Int32) (l2 l3 l4 l5 l6 l7 l8 : Option am_V) (Lh : Lay h) : ex_ (d + 1) 218 12 [some (v_r (some 0)), some (v_i x1), l2, l3, l4, l5, l6, l7, l8] [] h Q ↔ vp_in x1 4 ∧ ex_ d 216 0 [some (v_r (some 0)), some (v_r (h_r h 83 (Int32.toNatClampNeg x1))), none, none, none, none, none, none, none] [] h (fun r h' => ex_ (d + 1) 218 22 [some (v_r (some 0)), some (v_i x1), l2, l3, l4, l5, l6, l7, l8] (r.toList ++ []) h' Q) := by
  have e0 : h_r h 0 17 = some 83 := la_r Lh (q := (0, 17, 83)) (by decide)
  unfold ex_
  refine (am_Y_go 5 (ok := [am_is h (some 0) 11, am_ar h ((h_r h 0 17)) 39 x1]) (g := (19, [some (v_r (some 0)), some (v_i x1), l2, l3, l4, l5, l6, l7, l8], [v_r (h_r h ((h_r h 0 17).getD 0) (Int32.toNatClampNeg x1)), v_r (some 0)], h)) rfl).trans ?_
  simp only [e0, Option.getD_some, am_all]
  all_goals exact cj_d (la_is Lh (o := 0) rfl) (cj_k (la_ar Lh (o := 83) rfl) (((am_Y_call (j := 216) (na := 2) (ci := 11) (fl := 0) rfl rfl rfl).trans (cj_d ⟨⟨Nat.le_of_ble_eq_true rfl, Nat.le_of_ble_eq_true rfl, Nat.le_of_ble_eq_true rfl, rfl⟩, Or.inr (Or.inr (show (11 : Nat) < 20 ∧ am_is h (some 0) 11 from ⟨by decide, (la_is Lh (o := 0) rfl)⟩))⟩ Iff.rfl))))

theorem b_X11_attempt_10 {d : Nat} {Q : Option am_V → am_H → Prop} (h : am_H) (x2 : Int32) (l0 l1 l3 l4 l5 l6 l7 l8 : Option am_V) : ex_ d 218 10 [l0, l1, some (v_i x2), l3, l4, l5, l6, l7, l8] [] h Q ↔ Q (some (v_i x2)) h := by
  unfold ex_
  refine (am_Y_go 1 (ok := []) (g := (11, [l0, l1, some (v_i x2), l3, l4, l5, l6, l7, l8], [v_i x2], h)) rfl).trans ?_
  all_goals exact ((am_Y_ret rfl rfl rfl).trans (am_r0))

theorem b_X11_attempt_22 {d : Nat} {Q : Option am_V → am_H → Prop} (h : am_H) (s0 : Int32) (l0 l1 l2 l3 l4 l5 l6 l7 l8 : Option am_V) : ex_ d 218 22 [l0, l1, l2, l3, l4, l5, l6, l7, l8] [v_i s0] h Q ↔ if ¬ s0 = 0 then ex_ d 218 29 [l0, l1, l2, some (v_i s0), l4, l5, l6, l7, l8] [] h Q else ex_ d 218 27 [l0, l1, l2, some (v_i s0), l4, l5, l6, l7, l8] [] h Q := by
  unfold ex_
  refine (am_Y_go 3 (ok := []) (g := (if ¬ s0 = 0 then 29 else 27, [l0, l1, l2, some (v_i s0), l4, l5, l6, l7, l8], [], h)) rfl).trans ?_
  all_goals exact am_Y_if

theorem b_X11_attempt_29 {d : Nat} {Q : Option am_V → am_H → Prop} (h : am_H) (l0 l1 l2 l3 l4 l5 l6 l7 l8 : Option am_V) : ex_ d 218 29 [l0, l1, l2, l3, l4, l5, l6, l7, l8] [] h Q ↔ ex_ d 218 39 [l0, l1, l2, l3, some (v_i (-1 : Int32)), some (v_i (11 : Int32)), some (v_i (0 : Int32)), l7, l8] [] h Q := by
  unfold ex_
  refine (am_Y_go 6 (ok := []) (g := (39, [l0, l1, l2, l3, some (v_i (-1 : Int32)), some (v_i (11 : Int32)), some (v_i (0 : Int32)), l7, l8], [], h)) rfl).trans ?_
  all_goals exact Iff.rfl

theorem b_X11_attempt_27 {d : Nat} {Q : Option am_V → am_H → Prop} (h : am_H) (l0 l1 l2 l3 l4 l5 l6 l7 l8 : Option am_V) : ex_ d 218 27 [l0, l1, l2, l3, l4, l5, l6, l7, l8] [] h Q ↔ Q (some (v_i (-1 : Int32))) h := by
  unfold ex_
  refine (am_Y_go 1 (ok := []) (g := (28, [l0, l1, l2, l3, l4, l5, l6, l7, l8], [v_i (-1 : Int32)], h)) rfl).trans ?_
  all_goals exact ((am_Y_ret rfl rfl rfl).trans (am_r0))

theorem b_X11_attempt_39 {d : Nat} {Q : Option am_V → am_H → Prop} (h : am_H) (x6 : Int32) (l1 l2 l3 l4 l5 l7 l8 : Option am_V) (Lh : Lay h) : ex_ d 218 39 [some (v_r (some 0)), l1, l2, l3, l4, l5, some (v_i x6), l7, l8] [] h Q ↔ if (h_i h 11 0) ≤ x6 then ex_ d 218 123 [some (v_r (some 0)), l1, l2, l3, l4, l5, some (v_i x6), l7, l8] [] h Q else ex_ d 218 54 [some (v_r (some 0)), l1, l2, l3, l4, l5, some (v_i x6), l7, l8] [] h Q := by
  have e0 : h_r h 0 5 = some 10 := la_r Lh (q := (0, 5, 10)) (by decide)
  have e1 : h_r h 10 0 = some 11 := la_r Lh (q := (10, 0, 11)) (by decide)
  unfold ex_
  refine (am_Y_go 6 (ok := [am_is h (some 0) 11, am_is h ((h_r h 0 5)) 2, am_is h ((h_r h ((h_r h 0 5).getD 0) 0)) 1]) (g := (if (h_i h ((h_r h ((h_r h 0 5).getD 0) 0).getD 0) 0) ≤ x6 then 123 else 54, [some (v_r (some 0)), l1, l2, l3, l4, l5, some (v_i x6), l7, l8], [], h)) rfl).trans ?_
  simp only [e0, e1, Option.getD_some, am_all]
  all_goals exact cj_d (la_is Lh (o := 0) rfl) (cj_d (la_is Lh (o := 10) rfl) (cj_d (la_is Lh (o := 11) rfl) (am_Y_if)))

theorem b_X11_attempt_123 {d : Nat} {Q : Option am_V → am_H → Prop} (h : am_H) (x4 : Int32) (l0 l1 l2 l3 l5 l6 l7 l8 : Option am_V) : ex_ d 218 123 [l0, l1, l2, l3, some (v_i x4), l5, l6, l7, l8] [] h Q ↔ Q (some (v_i x4)) h := by
  unfold ex_
  refine (am_Y_go 1 (ok := []) (g := (125, [l0, l1, l2, l3, some (v_i x4), l5, l6, l7, l8], [v_i x4], h)) rfl).trans ?_
  all_goals exact ((am_Y_ret rfl rfl rfl).trans (am_r0))

theorem b_X11_attempt_54 {d : Nat} {Q : Option am_V → am_H → Prop} (h : am_H) (l0 l1 l2 l3 l4 l5 l6 l7 l8 : Option am_V) : ex_ d 218 54 [l0, l1, l2, l3, l4, l5, l6, l7, l8] [] h Q ↔ ex_ d 218 57 [l0, l1, l2, l3, l4, l5, l6, some (v_i (0 : Int32)), l8] [] h Q := by
  unfold ex_
  refine (am_Y_go 2 (ok := []) (g := (57, [l0, l1, l2, l3, l4, l5, l6, some (v_i (0 : Int32)), l8], [], h)) rfl).trans ?_
  all_goals exact Iff.rfl

theorem b_X11_attempt_57 {d : Nat} {Q : Option am_V → am_H → Prop} (h : am_H) (x7 : Int32) (l0 l1 l2 l3 l4 l5 l6 l8 : Option am_V) : ex_ d 218 57 [l0, l1, l2, l3, l4, l5, l6, some (v_i x7), l8] [] h Q ↔ if (8 : Int32) ≤ x7 then ex_ d 218 117 [l0, l1, l2, l3, l4, l5, l6, some (v_i x7), l8] [] h Q else ex_ d 218 64 [l0, l1, l2, l3, l4, l5, l6, some (v_i x7), l8] [] h Q := by
  unfold ex_
  refine (am_Y_go 3 (ok := []) (g := (if (8 : Int32) ≤ x7 then 117 else 64, [l0, l1, l2, l3, l4, l5, l6, some (v_i x7), l8], [], h)) rfl).trans ?_
  all_goals exact am_Y_if

theorem b_X11_attempt_117 {d : Nat} {Q : Option am_V → am_H → Prop} (h : am_H) (x6 : Int32) (l0 l1 l2 l3 l4 l5 l7 l8 : Option am_V) : ex_ d 218 117 [l0, l1, l2, l3, l4, l5, some (v_i x6), l7, l8] [] h Q ↔ ex_ d 218 39 [l0, l1, l2, l3, l4, l5, some (v_i (x6 + (1 : Int32))), l7, l8] [] h Q := by
  unfold ex_
  refine (am_Y_go 2 (ok := []) (g := (39, [l0, l1, l2, l3, l4, l5, some (v_i (x6 + (1 : Int32))), l7, l8], [], h)) rfl).trans ?_
  all_goals exact Iff.rfl

theorem b_X11_attempt_64 {d : Nat} {Q : Option am_V → am_H → Prop} (h : am_H) (x6 : Int32) (l1 l2 l3 l4 l5 l7 l8 : Option am_V) (Lh : Lay h) : ex_ (d + 1) 218 64 [some (v_r (some 0)), l1, l2, l3, l4, l5, some (v_i x6), l7, l8] [] h Q ↔ ex_ d 47 0 [some (v_r (some 15)), some (v_i x6)] [] h (fun r h' => ex_ (d + 1) 218 73 [some (v_r (some 0)), l1, l2, l3, l4, l5, some (v_i x6), l7, l8] (r.toList ++ []) h' Q) := by
  have e0 : h_r h 0 6 = some 15 := la_r Lh (q := (0, 6, 15)) (by decide)
  unfold ex_
  refine (am_Y_go 3 (ok := [am_is h (some 0) 11]) (g := (70, [some (v_r (some 0)), l1, l2, l3, l4, l5, some (v_i x6), l7, l8], [v_i x6, v_r ((h_r h 0 6))], h)) rfl).trans ?_
  simp only [e0, Option.getD_some, am_all]
  all_goals exact cj_d (la_is Lh (o := 0) rfl) (((am_Y_call (j := 47) (na := 2) (ci := 6) (fl := 0) rfl rfl rfl).trans (cj_d ⟨⟨Nat.le_of_ble_eq_true rfl, Nat.le_of_ble_eq_true rfl, Nat.le_of_ble_eq_true rfl, rfl⟩, Or.inr (Or.inr (show (6 : Nat) < 20 ∧ am_is h (some 15) 6 from ⟨by decide, (la_is Lh (o := 15) rfl)⟩))⟩ Iff.rfl)))

theorem b_X11_attempt_73 {d : Nat} {Q : Option am_V → am_H → Prop} (h : am_H) (s0 : Int32) (l0 l1 l2 l3 l4 l5 l6 l7 l8 : Option am_V) : ex_ d 218 73 [l0, l1, l2, l3, l4, l5, l6, l7, l8] [v_i s0] h Q ↔ if s0 = 0 then ex_ d 218 117 [l0, l1, l2, l3, l4, l5, l6, l7, l8] [] h Q else ex_ d 218 76 [l0, l1, l2, l3, l4, l5, l6, l7, l8] [] h Q := by
  unfold ex_
  refine (am_Y_go 1 (ok := []) (g := (if s0 = 0 then 117 else 76, [l0, l1, l2, l3, l4, l5, l6, l7, l8], [], h)) rfl).trans ?_
  all_goals exact am_Y_if

theorem b_X11_attempt_76 {d : Nat} {Q : Option am_V → am_H → Prop} (h : am_H) (x6 : Int32) (x7 : Int32) (x3 : Int32) (l1 l2 l4 l5 l8 : Option am_V) (Lh : Lay h) : ex_ (d + 1) 218 76 [some (v_r (some 0)), l1, l2, some (v_i x3), l4, l5, some (v_i x6), some (v_i x7), l8] [] h Q ↔ ex_ d 158 0 [some (v_r (some 51)), some (v_i x6), some (v_i x7), some (v_i x3), none, none, none, none, none] [] h (fun r h' => ex_ (d + 1) 218 88 [some (v_r (some 0)), l1, l2, some (v_i x3), l4, l5, some (v_i x6), some (v_i x7), l8] (r.toList ++ []) h' Q) := by
  have e0 : h_r h 0 12 = some 51 := la_r Lh (q := (0, 12, 51)) (by decide)
  unfold ex_
  refine (am_Y_go 5 (ok := [am_is h (some 0) 11]) (g := (85, [some (v_r (some 0)), l1, l2, some (v_i x3), l4, l5, some (v_i x6), some (v_i x7), l8], [v_i x3, v_i x7, v_i x6, v_r ((h_r h 0 12))], h)) rfl).trans ?_
  simp only [e0, Option.getD_some, am_all]
  all_goals exact cj_d (la_is Lh (o := 0) rfl) (((am_Y_call (j := 158) (na := 4) (ci := 10) (fl := 0) rfl rfl rfl).trans (cj_d ⟨⟨Nat.le_of_ble_eq_true rfl, Nat.le_of_ble_eq_true rfl, Nat.le_of_ble_eq_true rfl, rfl⟩, Or.inr (Or.inr (show (10 : Nat) < 20 ∧ am_is h (some 51) 10 from ⟨by decide, (la_is Lh (o := 51) rfl)⟩))⟩ Iff.rfl)))

theorem b_X11_attempt_88 {d : Nat} {Q : Option am_V → am_H → Prop} (h : am_H) (s0 : Int32) (x5 : Int32) (l0 l1 l2 l3 l4 l6 l7 l8 : Option am_V) : ex_ d 218 88 [l0, l1, l2, l3, l4, some (v_i x5), l6, l7, l8] [v_i s0] h Q ↔ if x5 ≤ s0 then ex_ d 218 111 [l0, l1, l2, l3, l4, some (v_i x5), l6, l7, some (v_i s0)] [] h Q else ex_ d 218 97 [l0, l1, l2, l3, l4, some (v_i x5), l6, l7, some (v_i s0)] [] h Q := by
  unfold ex_
  refine (am_Y_go 4 (ok := []) (g := (if x5 ≤ s0 then 111 else 97, [l0, l1, l2, l3, l4, some (v_i x5), l6, l7, some (v_i s0)], [], h)) rfl).trans ?_
  all_goals exact am_Y_if

theorem b_X11_attempt_111 {d : Nat} {Q : Option am_V → am_H → Prop} (h : am_H) (x7 : Int32) (l0 l1 l2 l3 l4 l5 l6 l8 : Option am_V) : ex_ d 218 111 [l0, l1, l2, l3, l4, l5, l6, some (v_i x7), l8] [] h Q ↔ ex_ d 218 57 [l0, l1, l2, l3, l4, l5, l6, some (v_i (x7 + (1 : Int32))), l8] [] h Q := by
  unfold ex_
  refine (am_Y_go 2 (ok := []) (g := (57, [l0, l1, l2, l3, l4, l5, l6, some (v_i (x7 + (1 : Int32))), l8], [], h)) rfl).trans ?_
  all_goals exact Iff.rfl

theorem b_X11_attempt_97 {d : Nat} {Q : Option am_V → am_H → Prop} (h : am_H) (x8 : Int32) (x6 : Int32) (x7 : Int32) (l0 l1 l2 l3 l4 l5 : Option am_V) : ex_ d 218 97 [l0, l1, l2, l3, l4, l5, some (v_i x6), some (v_i x7), some (v_i x8)] [] h Q ↔ ex_ d 218 57 [l0, l1, l2, l3, some (v_i (((10 : Int32) * x6) + x7)), some (v_i x8), some (v_i x6), some (v_i (x7 + (1 : Int32))), some (v_i x8)] [] h Q := by
  unfold ex_
  refine (am_Y_go 10 (ok := []) (g := (57, [l0, l1, l2, l3, some (v_i (((10 : Int32) * x6) + x7)), some (v_i x8), some (v_i x6), some (v_i (x7 + (1 : Int32))), some (v_i x8)], [], h)) rfl).trans ?_
  all_goals exact Iff.rfl

theorem b_X11_lotsCode_0 {d : Nat} {Q : Option am_V → am_H → Prop} (h : am_H) (x1 : Int32) (l0 : Option am_V) : ex_ d 219 0 [l0, some (v_i x1)] [] h Q ↔ if x1 < 0 then ex_ d 219 9 [l0, some (v_i x1)] [] h Q else ex_ d 219 4 [l0, some (v_i x1)] [] h Q := by
  unfold ex_
  refine (am_Y_go 2 (ok := []) (g := (if x1 < 0 then 9 else 4, [l0, some (v_i x1)], [], h)) rfl).trans ?_
  all_goals exact am_Y_if

theorem b_X11_lotsCode_9 {d : Nat} {Q : Option am_V → am_H → Prop} (h : am_H) (l0 l1 : Option am_V) : ex_ d 219 9 [l0, l1] [] h Q ↔ Q (some (v_i (-2 : Int32))) h := by
  unfold ex_
  refine (am_Y_go 1 (ok := []) (g := (11, [l0, l1], [v_i (-2 : Int32)], h)) rfl).trans ?_
  all_goals exact ((am_Y_ret rfl rfl rfl).trans (am_r0))

theorem b_X11_lotsCode_4 {d : Nat} {Q : Option am_V → am_H → Prop} (h : am_H) (x1 : Int32) (l0 : Option am_V) : ex_ d 219 4 [l0, some (v_i x1)] [] h Q ↔ if x1 ≤ (1 : Int32) then ex_ d 219 12 [l0, some (v_i x1)] [] h Q else ex_ d 219 9 [l0, some (v_i x1)] [] h Q := by
  unfold ex_
  refine (am_Y_go 3 (ok := []) (g := (if x1 ≤ (1 : Int32) then 12 else 9, [l0, some (v_i x1)], [], h)) rfl).trans ?_
  all_goals exact am_Y_if

theorem b_X11_lotsCode_12 {d : Nat} {Q : Option am_V → am_H → Prop} (h : am_H) (x0 : Int32) (l1 : Option am_V) : ex_ d 219 12 [some (v_i x0), l1] [] h Q ↔ if x0 < 0 then ex_ d 219 21 [some (v_i x0), l1] [] h Q else ex_ d 219 16 [some (v_i x0), l1] [] h Q := by
  unfold ex_
  refine (am_Y_go 2 (ok := []) (g := (if x0 < 0 then 21 else 16, [some (v_i x0), l1], [], h)) rfl).trans ?_
  all_goals exact am_Y_if

theorem b_X11_lotsCode_21 {d : Nat} {Q : Option am_V → am_H → Prop} (h : am_H) (l0 l1 : Option am_V) : ex_ d 219 21 [l0, l1] [] h Q ↔ Q (some (v_i (-3 : Int32))) h := by
  unfold ex_
  refine (am_Y_go 2 (ok := []) (g := (27, [l0, l1], [v_i (-3 : Int32)], h)) rfl).trans ?_
  all_goals exact ((am_Y_ret rfl rfl rfl).trans (am_r0))

theorem b_X11_lotsCode_16 {d : Nat} {Q : Option am_V → am_H → Prop} (h : am_H) (x0 : Int32) (l1 : Option am_V) : ex_ d 219 16 [some (v_i x0), l1] [] h Q ↔ if x0 ≤ (3 : Int32) then ex_ d 219 26 [some (v_i x0), l1] [] h Q else ex_ d 219 21 [some (v_i x0), l1] [] h Q := by
  unfold ex_
  refine (am_Y_go 3 (ok := []) (g := (if x0 ≤ (3 : Int32) then 26 else 21, [some (v_i x0), l1], [], h)) rfl).trans ?_
  all_goals exact am_Y_if

theorem b_X11_lotsCode_26 {d : Nat} {Q : Option am_V → am_H → Prop} (h : am_H) (l0 l1 : Option am_V) : ex_ d 219 26 [l0, l1] [] h Q ↔ Q (some (v_i (0 : Int32))) h := by
  unfold ex_
  refine (am_Y_go 1 (ok := []) (g := (27, [l0, l1], [v_i (0 : Int32)], h)) rfl).trans ?_
  all_goals exact ((am_Y_ret rfl rfl rfl).trans (am_r0))

theorem b_X11_inLowestTerms_0 {d : Nat} {Q : Option am_V → am_H → Prop} (h : am_H) (x1 : Int32) (x0 : Int32) (l2 l3 l4 l5 l6 : Option am_V) : ex_ d 220 0 [some (v_i x0), some (v_i x1), l2, l3, l4, l5, l6] [] h Q ↔ ex_ d 220 8 [some (v_i x0), some (v_i x1), l2, some (v_i x1), some (v_i x0), some (v_i (0 : Int32)), l6] [] h Q := by
  unfold ex_
  refine (am_Y_go 6 (ok := []) (g := (8, [some (v_i x0), some (v_i x1), l2, some (v_i x1), some (v_i x0), some (v_i (0 : Int32)), l6], [], h)) rfl).trans ?_
  all_goals exact Iff.rfl

theorem b_X11_inLowestTerms_8 {d : Nat} {Q : Option am_V → am_H → Prop} (h : am_H) (x5 : Int32) (l0 l1 l2 l3 l4 l6 : Option am_V) : ex_ d 220 8 [l0, l1, l2, l3, l4, some (v_i x5), l6] [] h Q ↔ if (64 : Int32) ≤ x5 then ex_ d 220 39 [l0, l1, l2, l3, l4, some (v_i x5), l6] [] h Q else ex_ d 220 15 [l0, l1, l2, l3, l4, some (v_i x5), l6] [] h Q := by
  unfold ex_
  refine (am_Y_go 3 (ok := []) (g := (if (64 : Int32) ≤ x5 then 39 else 15, [l0, l1, l2, l3, l4, some (v_i x5), l6], [], h)) rfl).trans ?_
  all_goals exact am_Y_if

theorem b_X11_inLowestTerms_39 {d : Nat} {Q : Option am_V → am_H → Prop} (h : am_H) (x2 : Int32) (l0 l1 l3 l4 l5 l6 : Option am_V) : ex_ d 220 39 [l0, l1, some (v_i x2), l3, l4, l5, l6] [] h Q ↔ if ¬ x2 = 0 then ex_ d 220 47 [l0, l1, some (v_i x2), l3, l4, l5, l6] [] h Q else ex_ d 220 43 [l0, l1, some (v_i x2), l3, l4, l5, l6] [] h Q := by
  unfold ex_
  refine (am_Y_go 2 (ok := []) (g := (if ¬ x2 = 0 then 47 else 43, [l0, l1, some (v_i x2), l3, l4, l5, l6], [], h)) rfl).trans ?_
  all_goals exact am_Y_if

theorem b_X11_inLowestTerms_15 {d : Nat} {Q : Option am_V → am_H → Prop} (h : am_H) (x4 : Int32) (l0 l1 l2 l3 l5 l6 : Option am_V) : ex_ d 220 15 [l0, l1, l2, l3, some (v_i x4), l5, l6] [] h Q ↔ if x4 = 0 then ex_ d 220 39 [l0, l1, l2, l3, some (v_i x4), l5, l6] [] h Q else ex_ d 220 20 [l0, l1, l2, l3, some (v_i x4), l5, l6] [] h Q := by
  unfold ex_
  refine (am_Y_go 2 (ok := []) (g := (if x4 = 0 then 39 else 20, [l0, l1, l2, l3, some (v_i x4), l5, l6], [], h)) rfl).trans ?_
  all_goals exact am_Y_if

theorem b_X11_inLowestTerms_47 {d : Nat} {Q : Option am_V → am_H → Prop} (h : am_H) (x1 : Int32) (x3 : Int32) (l0 l2 l4 l5 l6 : Option am_V) : ex_ d 220 47 [l0, some (v_i x1), l2, some (v_i x3), l4, l5, l6] [] h Q ↔ if ¬ x3 = 0 then ex_ d 220 59 [l0, some (v_i x1), l2, some (v_i x3), l4, some (v_i x1), l6] [] h Q else ex_ d 220 54 [l0, some (v_i x1), l2, some (v_i x3), l4, some (v_i x1), l6] [] h Q := by
  unfold ex_
  refine (am_Y_go 4 (ok := []) (g := (if ¬ x3 = 0 then 59 else 54, [l0, some (v_i x1), l2, some (v_i x3), l4, some (v_i x1), l6], [], h)) rfl).trans ?_
  all_goals exact am_Y_if

theorem b_X11_inLowestTerms_43 {d : Nat} {Q : Option am_V → am_H → Prop} (h : am_H) (x0 : Int32) (x3 : Int32) (l1 l2 l4 l5 l6 : Option am_V) : ex_ d 220 43 [some (v_i x0), l1, l2, some (v_i x3), l4, l5, l6] [] h Q ↔ if ¬ x3 = 0 then ex_ d 220 59 [some (v_i x0), l1, l2, some (v_i x3), l4, some (v_i x0), l6] [] h Q else ex_ d 220 54 [some (v_i x0), l1, l2, some (v_i x3), l4, some (v_i x0), l6] [] h Q := by
  unfold ex_
  refine (am_Y_go 5 (ok := []) (g := (if ¬ x3 = 0 then 59 else 54, [some (v_i x0), l1, l2, some (v_i x3), l4, some (v_i x0), l6], [], h)) rfl).trans ?_
  all_goals exact am_Y_if

theorem b_X11_inLowestTerms_20 {d : Nat} {Q : Option am_V → am_H → Prop} (h : am_H) (x3 : Int32) (x4 : Int32) (x5 : Int32) (l0 l1 l2 l6 : Option am_V) : ex_ d 220 20 [l0, l1, l2, some (v_i x3), some (v_i x4), some (v_i x5), l6] [] h Q ↔ ¬ x4 = 0 ∧ ex_ d 220 8 [l0, l1, l2, some (v_i x4), some (v_i (x3 - x3 / x4 * x4)), some (v_i (x5 + (1 : Int32))), some (v_i (x3 - x3 / x4 * x4))] [] h Q := by
  unfold ex_
  refine (am_Y_go 10 (ok := [¬ x4 = 0]) (g := (8, [l0, l1, l2, some (v_i x4), some (v_i (x3 - x3 / x4 * x4)), some (v_i (x5 + (1 : Int32))), some (v_i (x3 - x3 / x4 * x4))], [], h)) rfl).trans ?_
  simp only [am_all]
  all_goals exact cj_k Iff.rfl (Iff.rfl)

theorem b_X11_inLowestTerms_59 {d : Nat} {Q : Option am_V → am_H → Prop} (h : am_H) (x5 : Int32) (x3 : Int32) (l0 l1 l2 l4 l6 : Option am_V) : ex_ d 220 59 [l0, l1, l2, some (v_i x3), l4, some (v_i x5), l6] [] h Q ↔ ¬ x3 = 0 ∧ Q (some (v_i (x5 / x3))) h := by
  unfold ex_
  refine (am_Y_go 3 (ok := [¬ x3 = 0]) (g := (63, [l0, l1, l2, some (v_i x3), l4, some (v_i x5), l6], [v_i (x5 / x3)], h)) rfl).trans ?_
  simp only [am_all]
  all_goals exact cj_k Iff.rfl (((am_Y_ret rfl rfl rfl).trans (am_r0)))

theorem b_X11_inLowestTerms_54 {d : Nat} {Q : Option am_V → am_H → Prop} (h : am_H) (x5 : Int32) (l0 l1 l2 l3 l4 l6 : Option am_V) : ex_ d 220 54 [l0, l1, l2, l3, l4, some (v_i x5), l6] [] h Q ↔ Q (some (v_i x5)) h := by
  unfold ex_
  refine (am_Y_go 2 (ok := []) (g := (63, [l0, l1, l2, l3, l4, some (v_i x5), l6], [v_i x5], h)) rfl).trans ?_
  all_goals exact ((am_Y_ret rfl rfl rfl).trans (am_r0))

theorem b_X11_chance_0 {d : Nat} {Q : Option am_V → am_H → Prop} (h : am_H) (x1 : Int32) (x2 : Int32) (l0 l3 : Option am_V) : ex_ (d + 1) 221 0 [l0, some (v_i x1), some (v_i x2), l3] [] h Q ↔ ex_ d 219 0 [some (v_i x1), some (v_i x2)] [] h (fun r h' => ex_ (d + 1) 221 5 [l0, some (v_i x1), some (v_i x2), l3] (r.toList ++ []) h' Q) := by
  unfold ex_
  refine (am_Y_go 2 (ok := []) (g := (2, [l0, some (v_i x1), some (v_i x2), l3], [v_i x2, v_i x1], h)) rfl).trans ?_
  all_goals exact ((am_Y_call (j := 219) (na := 2) (ci := 11) (fl := 2) rfl rfl rfl).trans (cj_d ⟨⟨Nat.le_of_ble_eq_true rfl, Nat.le_of_ble_eq_true rfl, Nat.le_of_ble_eq_true rfl, rfl⟩, Or.inl rfl⟩ Iff.rfl))

theorem b_X11_chance_5 {d : Nat} {Q : Option am_V → am_H → Prop} (h : am_H) (s0 : Int32) (l0 l1 l2 l3 : Option am_V) : ex_ d 221 5 [l0, l1, l2, l3] [v_i s0] h Q ↔ if s0 = 0 then ex_ d 221 12 [l0, l1, l2, some (v_i s0)] [] h Q else ex_ d 221 10 [l0, l1, l2, some (v_i s0)] [] h Q := by
  unfold ex_
  refine (am_Y_go 3 (ok := []) (g := (if s0 = 0 then 12 else 10, [l0, l1, l2, some (v_i s0)], [], h)) rfl).trans ?_
  all_goals exact am_Y_if

theorem b_X11_chance_12 {d : Nat} {Q : Option am_V → am_H → Prop} (h : am_H) (x1 : Int32) (l2 l3 : Option am_V) (Lh : Lay h) : ex_ (d + 1) 221 12 [some (v_r (some 0)), some (v_i x1), l2, l3] [] h Q ↔ ex_ d 56 0 [some (v_r (some 69)), some (v_r (some 11)), some (v_i x1), none, none] [] h (fun r h' => ex_ (d + 1) 221 27 [some (v_r (some 0)), some (v_i x1), l2, l3] (r.toList ++ []) h' Q) := by
  have e0 : h_r h 0 14 = some 69 := la_r Lh (q := (0, 14, 69)) (by decide)
  have e1 : h_r h 0 5 = some 10 := la_r Lh (q := (0, 5, 10)) (by decide)
  have e2 : h_r h 10 0 = some 11 := la_r Lh (q := (10, 0, 11)) (by decide)
  unfold ex_
  refine (am_Y_go 6 (ok := [am_is h (some 0) 11, am_is h (some 0) 11, am_is h ((h_r h 0 5)) 2]) (g := (24, [some (v_r (some 0)), some (v_i x1), l2, l3], [v_i x1, v_r ((h_r h ((h_r h 0 5).getD 0) 0)), v_r ((h_r h 0 14))], h)) rfl).trans ?_
  simp only [e0, e1, e2, Option.getD_some, am_all]
  all_goals exact cj_d (la_is Lh (o := 0) rfl) (cj_d (la_is Lh (o := 0) rfl) (cj_d (la_is Lh (o := 10) rfl) (((am_Y_call (j := 56) (na := 3) (ci := 3) (fl := 0) rfl rfl rfl).trans (cj_d ⟨⟨Nat.le_of_ble_eq_true rfl, Nat.le_of_ble_eq_true rfl, Nat.le_of_ble_eq_true rfl, rfl⟩, Or.inr (Or.inr (show (3 : Nat) < 20 ∧ am_is h (some 69) 3 from ⟨by decide, (la_is Lh (o := 69) rfl)⟩))⟩ Iff.rfl)))))

theorem b_X11_chance_10 {d : Nat} {Q : Option am_V → am_H → Prop} (h : am_H) (x3 : Int32) (l0 l1 l2 : Option am_V) : ex_ d 221 10 [l0, l1, l2, some (v_i x3)] [] h Q ↔ Q (some (v_i x3)) h := by
  unfold ex_
  refine (am_Y_go 1 (ok := []) (g := (11, [l0, l1, l2, some (v_i x3)], [v_i x3], h)) rfl).trans ?_
  all_goals exact ((am_Y_ret rfl rfl rfl).trans (am_r0))

theorem b_X11_chance_27 {d : Nat} {Q : Option am_V → am_H → Prop} (h : am_H) (x2 : Int32) (l1 l3 : Option am_V) (Lh : Lay h) : ex_ (d + 1) 221 27 [some (v_r (some 0)), l1, some (v_i x2), l3] [] h Q ↔ ex_ d 220 0 [some (v_i (h_i h 69 3)), some (v_i (h_i h 69 2)), some (v_i x2), none, none, none, none] [] h (fun r h' => ex_ (d + 1) 221 45 [some (v_r (some 0)), l1, some (v_i x2), l3] (r.toList ++ []) h' Q) := by
  have e0 : h_r h 0 14 = some 69 := la_r Lh (q := (0, 14, 69)) (by decide)
  unfold ex_
  refine (am_Y_go 7 (ok := [am_is h (some 0) 11, am_is h ((h_r h 0 14)) 3, am_is h (some 0) 11, am_is h ((h_r h 0 14)) 3]) (g := (42, [some (v_r (some 0)), l1, some (v_i x2), l3], [v_i x2, v_i (h_i h ((h_r h 0 14).getD 0) 2), v_i (h_i h ((h_r h 0 14).getD 0) 3)], h)) rfl).trans ?_
  simp only [e0, Option.getD_some, am_all]
  all_goals exact cj_d (la_is Lh (o := 0) rfl) (cj_d (la_is Lh (o := 69) rfl) (cj_d (la_is Lh (o := 0) rfl) (cj_d (la_is Lh (o := 69) rfl) (((am_Y_call (j := 220) (na := 3) (ci := 11) (fl := 2) rfl rfl rfl).trans (cj_d ⟨⟨Nat.le_of_ble_eq_true rfl, Nat.le_of_ble_eq_true rfl, Nat.le_of_ble_eq_true rfl, rfl⟩, Or.inl rfl⟩ Iff.rfl))))))

theorem b_X11_chance_45 {d : Nat} {Q : Option am_V → am_H → Prop} (h : am_H) (s0 : Int32) (l0 l1 l2 l3 : Option am_V) : ex_ d 221 45 [l0, l1, l2, l3] [v_i s0] h Q ↔ Q (some (v_i s0)) h := by
  unfold ex_
  exact ((am_Y_ret rfl rfl rfl).trans (am_r0))

theorem b_X11_mean_0 {d : Nat} {Q : Option am_V → am_H → Prop} (h : am_H) (x1 : Int32) (x2 : Int32) (l0 l3 : Option am_V) : ex_ (d + 1) 222 0 [l0, some (v_i x1), some (v_i x2), l3] [] h Q ↔ ex_ d 219 0 [some (v_i x1), some (v_i x2)] [] h (fun r h' => ex_ (d + 1) 222 5 [l0, some (v_i x1), some (v_i x2), l3] (r.toList ++ []) h' Q) := by
  unfold ex_
  refine (am_Y_go 2 (ok := []) (g := (2, [l0, some (v_i x1), some (v_i x2), l3], [v_i x2, v_i x1], h)) rfl).trans ?_
  all_goals exact ((am_Y_call (j := 219) (na := 2) (ci := 11) (fl := 2) rfl rfl rfl).trans (cj_d ⟨⟨Nat.le_of_ble_eq_true rfl, Nat.le_of_ble_eq_true rfl, Nat.le_of_ble_eq_true rfl, rfl⟩, Or.inl rfl⟩ Iff.rfl))

theorem b_X11_mean_5 {d : Nat} {Q : Option am_V → am_H → Prop} (h : am_H) (s0 : Int32) (l0 l1 l2 l3 : Option am_V) : ex_ d 222 5 [l0, l1, l2, l3] [v_i s0] h Q ↔ if s0 = 0 then ex_ d 222 12 [l0, l1, l2, some (v_i s0)] [] h Q else ex_ d 222 10 [l0, l1, l2, some (v_i s0)] [] h Q := by
  unfold ex_
  refine (am_Y_go 3 (ok := []) (g := (if s0 = 0 then 12 else 10, [l0, l1, l2, some (v_i s0)], [], h)) rfl).trans ?_
  all_goals exact am_Y_if

theorem b_X11_mean_12 {d : Nat} {Q : Option am_V → am_H → Prop} (h : am_H) (x1 : Int32) (l2 l3 : Option am_V) (Lh : Lay h) : ex_ (d + 1) 222 12 [some (v_r (some 0)), some (v_i x1), l2, l3] [] h Q ↔ ex_ d 56 0 [some (v_r (some 69)), some (v_r (some 11)), some (v_i x1), none, none] [] h (fun r h' => ex_ (d + 1) 222 27 [some (v_r (some 0)), some (v_i x1), l2, l3] (r.toList ++ []) h' Q) := by
  have e0 : h_r h 0 14 = some 69 := la_r Lh (q := (0, 14, 69)) (by decide)
  have e1 : h_r h 0 5 = some 10 := la_r Lh (q := (0, 5, 10)) (by decide)
  have e2 : h_r h 10 0 = some 11 := la_r Lh (q := (10, 0, 11)) (by decide)
  unfold ex_
  refine (am_Y_go 6 (ok := [am_is h (some 0) 11, am_is h (some 0) 11, am_is h ((h_r h 0 5)) 2]) (g := (24, [some (v_r (some 0)), some (v_i x1), l2, l3], [v_i x1, v_r ((h_r h ((h_r h 0 5).getD 0) 0)), v_r ((h_r h 0 14))], h)) rfl).trans ?_
  simp only [e0, e1, e2, Option.getD_some, am_all]
  all_goals exact cj_d (la_is Lh (o := 0) rfl) (cj_d (la_is Lh (o := 0) rfl) (cj_d (la_is Lh (o := 10) rfl) (((am_Y_call (j := 56) (na := 3) (ci := 3) (fl := 0) rfl rfl rfl).trans (cj_d ⟨⟨Nat.le_of_ble_eq_true rfl, Nat.le_of_ble_eq_true rfl, Nat.le_of_ble_eq_true rfl, rfl⟩, Or.inr (Or.inr (show (3 : Nat) < 20 ∧ am_is h (some 69) 3 from ⟨by decide, (la_is Lh (o := 69) rfl)⟩))⟩ Iff.rfl)))))

theorem b_X11_mean_10 {d : Nat} {Q : Option am_V → am_H → Prop} (h : am_H) (x3 : Int32) (l0 l1 l2 : Option am_V) : ex_ d 222 10 [l0, l1, l2, some (v_i x3)] [] h Q ↔ Q (some (v_i x3)) h := by
  unfold ex_
  refine (am_Y_go 1 (ok := []) (g := (11, [l0, l1, l2, some (v_i x3)], [v_i x3], h)) rfl).trans ?_
  all_goals exact ((am_Y_ret rfl rfl rfl).trans (am_r0))

theorem b_X11_mean_27 {d : Nat} {Q : Option am_V → am_H → Prop} (h : am_H) (x2 : Int32) (l1 l3 : Option am_V) (Lh : Lay h) : ex_ (d + 1) 222 27 [some (v_r (some 0)), l1, some (v_i x2), l3] [] h Q ↔ ex_ d 220 0 [some (v_i (h_i h 69 4)), some (v_i (h_i h 69 2)), some (v_i x2), none, none, none, none] [] h (fun r h' => ex_ (d + 1) 222 45 [some (v_r (some 0)), l1, some (v_i x2), l3] (r.toList ++ []) h' Q) := by
  have e0 : h_r h 0 14 = some 69 := la_r Lh (q := (0, 14, 69)) (by decide)
  unfold ex_
  refine (am_Y_go 7 (ok := [am_is h (some 0) 11, am_is h ((h_r h 0 14)) 3, am_is h (some 0) 11, am_is h ((h_r h 0 14)) 3]) (g := (42, [some (v_r (some 0)), l1, some (v_i x2), l3], [v_i x2, v_i (h_i h ((h_r h 0 14).getD 0) 2), v_i (h_i h ((h_r h 0 14).getD 0) 4)], h)) rfl).trans ?_
  simp only [e0, Option.getD_some, am_all]
  all_goals exact cj_d (la_is Lh (o := 0) rfl) (cj_d (la_is Lh (o := 69) rfl) (cj_d (la_is Lh (o := 0) rfl) (cj_d (la_is Lh (o := 69) rfl) (((am_Y_call (j := 220) (na := 3) (ci := 11) (fl := 2) rfl rfl rfl).trans (cj_d ⟨⟨Nat.le_of_ble_eq_true rfl, Nat.le_of_ble_eq_true rfl, Nat.le_of_ble_eq_true rfl, rfl⟩, Or.inl rfl⟩ Iff.rfl))))))

theorem b_X11_mean_45 {d : Nat} {Q : Option am_V → am_H → Prop} (h : am_H) (s0 : Int32) (l0 l1 l2 l3 : Option am_V) : ex_ d 222 45 [l0, l1, l2, l3] [v_i s0] h Q ↔ Q (some (v_i s0)) h := by
  unfold ex_
  exact ((am_Y_ret rfl rfl rfl).trans (am_r0))

theorem b_X11_numbers_0 {d : Nat} {Q : Option am_V → am_H → Prop} (h : am_H) (x1 : Int32) (l0 l2 l3 : Option am_V) : ex_ (d + 1) 223 0 [l0, some (v_i x1), l2, l3] [] h Q ↔ ex_ d 182 0 [some (v_i x1)] [] h (fun r h' => ex_ (d + 1) 223 4 [l0, some (v_i x1), l2, l3] (r.toList ++ []) h' Q) := by
  unfold ex_
  refine (am_Y_go 1 (ok := []) (g := (1, [l0, some (v_i x1), l2, l3], [v_i x1], h)) rfl).trans ?_
  all_goals exact ((am_Y_call (j := 182) (na := 1) (ci := 11) (fl := 2) rfl rfl rfl).trans (cj_d ⟨⟨Nat.le_of_ble_eq_true rfl, Nat.le_of_ble_eq_true rfl, Nat.le_of_ble_eq_true rfl, rfl⟩, Or.inl rfl⟩ Iff.rfl))

theorem b_X11_numbers_4 {d : Nat} {Q : Option am_V → am_H → Prop} (h : am_H) (s0 : Int32) (l0 l1 l2 l3 : Option am_V) : ex_ d 223 4 [l0, l1, l2, l3] [v_i s0] h Q ↔ if s0 = 0 then ex_ d 223 16 [l0, l1, l2, l3] [] h Q else ex_ d 223 7 [l0, l1, l2, l3] [] h Q := by
  unfold ex_
  refine (am_Y_go 1 (ok := []) (g := (if s0 = 0 then 16 else 7, [l0, l1, l2, l3], [], h)) rfl).trans ?_
  all_goals exact am_Y_if

theorem b_X11_numbers_16 {d : Nat} {Q : Option am_V → am_H → Prop} (h : am_H) (l0 l1 l2 l3 : Option am_V) : ex_ d 223 16 [l0, l1, l2, l3] [] h Q ↔ Q (some (v_i (-2 : Int32))) h := by
  unfold ex_
  refine (am_Y_go 1 (ok := []) (g := (18, [l0, l1, l2, l3], [v_i (-2 : Int32)], h)) rfl).trans ?_
  all_goals exact ((am_Y_ret rfl rfl rfl).trans (am_r0))

theorem b_X11_numbers_7 {d : Nat} {Q : Option am_V → am_H → Prop} (h : am_H) (x2 : Int32) (l0 l1 l3 : Option am_V) : ex_ d 223 7 [l0, l1, some (v_i x2), l3] [] h Q ↔ if x2 < 0 then ex_ d 223 16 [l0, l1, some (v_i x2), l3] [] h Q else ex_ d 223 11 [l0, l1, some (v_i x2), l3] [] h Q := by
  unfold ex_
  refine (am_Y_go 2 (ok := []) (g := (if x2 < 0 then 16 else 11, [l0, l1, some (v_i x2), l3], [], h)) rfl).trans ?_
  all_goals exact am_Y_if

theorem b_X11_numbers_11 {d : Nat} {Q : Option am_V → am_H → Prop} (h : am_H) (x2 : Int32) (l0 l1 l3 : Option am_V) : ex_ d 223 11 [l0, l1, some (v_i x2), l3] [] h Q ↔ if x2 < (4 : Int32) then ex_ d 223 19 [l0, l1, some (v_i x2), l3] [] h Q else ex_ d 223 16 [l0, l1, some (v_i x2), l3] [] h Q := by
  unfold ex_
  refine (am_Y_go 3 (ok := []) (g := (if x2 < (4 : Int32) then 19 else 16, [l0, l1, some (v_i x2), l3], [], h)) rfl).trans ?_
  all_goals exact am_Y_if

theorem b_X11_numbers_19 {d : Nat} {Q : Option am_V → am_H → Prop} (h : am_H) (x3 : Int32) (l0 l1 l2 : Option am_V) : ex_ d 223 19 [l0, l1, l2, some (v_i x3)] [] h Q ↔ if x3 < 0 then ex_ d 223 29 [l0, l1, l2, some (v_i x3)] [] h Q else ex_ d 223 23 [l0, l1, l2, some (v_i x3)] [] h Q := by
  unfold ex_
  refine (am_Y_go 2 (ok := []) (g := (if x3 < 0 then 29 else 23, [l0, l1, l2, some (v_i x3)], [], h)) rfl).trans ?_
  all_goals exact am_Y_if

theorem b_X11_numbers_29 {d : Nat} {Q : Option am_V → am_H → Prop} (h : am_H) (l0 l1 l2 l3 : Option am_V) : ex_ d 223 29 [l0, l1, l2, l3] [] h Q ↔ Q (some (v_i (-3 : Int32))) h := by
  unfold ex_
  refine (am_Y_go 1 (ok := []) (g := (31, [l0, l1, l2, l3], [v_i (-3 : Int32)], h)) rfl).trans ?_
  all_goals exact ((am_Y_ret rfl rfl rfl).trans (am_r0))

theorem b_X11_numbers_23 {d : Nat} {Q : Option am_V → am_H → Prop} (h : am_H) (x3 : Int32) (l0 l1 l2 : Option am_V) : ex_ d 223 23 [l0, l1, l2, some (v_i x3)] [] h Q ↔ if x3 ≤ (40 : Int32) then ex_ d 223 32 [l0, l1, l2, some (v_i x3)] [] h Q else ex_ d 223 29 [l0, l1, l2, some (v_i x3)] [] h Q := by
  unfold ex_
  refine (am_Y_go 3 (ok := []) (g := (if x3 ≤ (40 : Int32) then 32 else 29, [l0, l1, l2, some (v_i x3)], [], h)) rfl).trans ?_
  all_goals exact am_Y_if

theorem b_X11_numbers_32 {d : Nat} {Q : Option am_V → am_H → Prop} (h : am_H) (x1 : Int32) (x2 : Int32) (x3 : Int32) (Lh : Lay h) : ex_ d 223 32 [some (v_r (some 0)), some (v_i x1), some (v_i x2), some (v_i x3)] [] h Q ↔ vp_in x1 4 ∧ ex_ d 223 40 [some (v_r (some 0)), some (v_i x1), some (v_i x2), some (v_i x3)] [v_i x3, v_i x2, v_r (h_r h 83 (Int32.toNatClampNeg x1))] h Q := by
  have e0 : h_r h 0 17 = some 83 := la_r Lh (q := (0, 17, 83)) (by decide)
  unfold ex_
  refine (am_Y_go 6 (ok := [am_is h (some 0) 11, am_ar h ((h_r h 0 17)) 39 x1]) (g := (40, [some (v_r (some 0)), some (v_i x1), some (v_i x2), some (v_i x3)], [v_i x3, v_i x2, v_r (h_r h ((h_r h 0 17).getD 0) (Int32.toNatClampNeg x1))], h)) rfl).trans ?_
  simp only [e0, Option.getD_some, am_all]
  all_goals exact cj_d (la_is Lh (o := 0) rfl) (cj_k (la_ar Lh (o := 83) rfl) (Iff.rfl))

theorem b_X11_numbers_40 {d : Nat} {Q : Option am_V → am_H → Prop} (h : am_H) (s0 : Int32) (s1 : Int32) (t2 : Nat) (l0 l1 l2 l3 : Option am_V) (F_t2 : y_Tray h t2) : ex_ (d + 1) 223 40 [l0, l1, l2, l3] [v_i s0, v_i s1, v_r (some t2)] h Q ↔ ex_ d 144 0 [some (v_r (some t2)), some (v_i s1), some (v_i s0)] [] h (fun r h' => ex_ (d + 1) 223 43 [l0, l1, l2, l3] (r.toList ++ []) h' Q) := by
  unfold ex_
  exact ((am_Y_call (j := 144) (na := 3) (ci := 9) (fl := 0) rfl rfl rfl).trans (cj_d ⟨⟨Nat.le_of_ble_eq_true rfl, Nat.le_of_ble_eq_true rfl, Nat.le_of_ble_eq_true rfl, rfl⟩, Or.inr (Or.inr (show (9 : Nat) < 20 ∧ am_is h (some t2) 9 from ⟨by decide, (lr_is (F_t2.1 0 rfl))⟩))⟩ Iff.rfl))

theorem b_X11_numbers_43 {d : Nat} {Q : Option am_V → am_H → Prop} (h : am_H) (l0 l1 l2 l3 : Option am_V) : ex_ d 223 43 [l0, l1, l2, l3] [] h Q ↔ Q (some (v_i (0 : Int32))) h := by
  unfold ex_
  refine (am_Y_go 1 (ok := []) (g := (44, [l0, l1, l2, l3], [v_i (0 : Int32)], h)) rfl).trans ?_
  all_goals exact ((am_Y_ret rfl rfl rfl).trans (am_r0))

theorem b_X11_write_0 {d : Nat} {Q : Option am_V → am_H → Prop} (h : am_H) (x1 : Int32) (l2 l3 l4 l5 : Option am_V) (Lh : Lay h) : ex_ (d + 1) 224 0 [some (v_r (some 0)), some (v_i x1), l2, l3, l4, l5] [] h Q ↔ ex_ d 185 0 [some (v_r (some 0)), some (v_i x1)] [] h (fun r h' => ex_ (d + 1) 224 5 [some (v_r (some 0)), some (v_i x1), l2, l3, l4, l5] (r.toList ++ []) h' Q) := by
  unfold ex_
  refine (am_Y_go 2 (ok := []) (g := (2, [some (v_r (some 0)), some (v_i x1), l2, l3, l4, l5], [v_i x1, v_r (some 0)], h)) rfl).trans ?_
  all_goals exact ((am_Y_call (j := 185) (na := 2) (ci := 11) (fl := 0) rfl rfl rfl).trans (cj_d ⟨⟨Nat.le_of_ble_eq_true rfl, Nat.le_of_ble_eq_true rfl, Nat.le_of_ble_eq_true rfl, rfl⟩, Or.inr (Or.inr (show (11 : Nat) < 20 ∧ am_is h (some 0) 11 from ⟨by decide, (la_is Lh (o := 0) rfl)⟩))⟩ Iff.rfl))

theorem b_X11_write_5 {d : Nat} {Q : Option am_V → am_H → Prop} (h : am_H) (s0 : Int32) (l0 l1 l2 l3 l4 l5 : Option am_V) : ex_ d 224 5 [l0, l1, l2, l3, l4, l5] [v_i s0] h Q ↔ if s0 = 0 then ex_ d 224 16 [l0, l1, l2, l3, l4, some (v_i s0)] [] h Q else ex_ d 224 12 [l0, l1, l2, l3, l4, some (v_i s0)] [] h Q := by
  unfold ex_
  refine (am_Y_go 3 (ok := []) (g := (if s0 = 0 then 16 else 12, [l0, l1, l2, l3, l4, some (v_i s0)], [], h)) rfl).trans ?_
  all_goals exact am_Y_if

theorem b_X11_write_16 {d : Nat} {Q : Option am_V → am_H → Prop} (h : am_H) (x2 : Int32) (l0 l1 l3 l4 l5 : Option am_V) : ex_ d 224 16 [l0, l1, some (v_i x2), l3, l4, l5] [] h Q ↔ if x2 < 0 then ex_ d 224 33 [l0, l1, some (v_i x2), l3, l4, l5] [] h Q else ex_ d 224 20 [l0, l1, some (v_i x2), l3, l4, l5] [] h Q := by
  unfold ex_
  refine (am_Y_go 2 (ok := []) (g := (if x2 < 0 then 33 else 20, [l0, l1, some (v_i x2), l3, l4, l5], [], h)) rfl).trans ?_
  all_goals exact am_Y_if

theorem b_X11_write_12 {d : Nat} {Q : Option am_V → am_H → Prop} (h : am_H) (x5 : Int32) (l0 l1 l2 l3 l4 : Option am_V) : ex_ d 224 12 [l0, l1, l2, l3, l4, some (v_i x5)] [] h Q ↔ Q (some (v_l (Int32.toInt64 x5))) h := by
  unfold ex_
  refine (am_Y_go 2 (ok := []) (g := (15, [l0, l1, l2, l3, l4, some (v_i x5)], [v_l (Int32.toInt64 x5)], h)) rfl).trans ?_
  all_goals exact ((am_Y_ret rfl rfl rfl).trans (am_rz rfl))

theorem b_X11_write_33 {d : Nat} {Q : Option am_V → am_H → Prop} (h : am_H) (l0 l1 l2 l3 l4 l5 : Option am_V) : ex_ d 224 33 [l0, l1, l2, l3, l4, l5] [] h Q ↔ Q (some (v_l (-7 : Int64))) h := by
  unfold ex_
  refine (am_Y_go 1 (ok := []) (g := (36, [l0, l1, l2, l3, l4, l5], [v_l (-7 : Int64)], h)) rfl).trans ?_
  all_goals exact ((am_Y_ret rfl rfl rfl).trans (am_rz rfl))

theorem b_X11_write_20 {d : Nat} {Q : Option am_V → am_H → Prop} (h : am_H) (x2 : Int32) (x1 : Int32) (l3 l4 l5 : Option am_V) (Lh : Lay h) : ex_ d 224 20 [some (v_r (some 0)), some (v_i x1), some (v_i x2), l3, l4, l5] [] h Q ↔ vp_in x1 4 ∧ ex_ d 224 27 [some (v_r (some 0)), some (v_i x1), some (v_i x2), l3, l4, l5] [v_r (h_r h 83 (Int32.toNatClampNeg x1)), v_i x2] h Q := by
  have e0 : h_r h 0 17 = some 83 := la_r Lh (q := (0, 17, 83)) (by decide)
  unfold ex_
  refine (am_Y_go 5 (ok := [am_is h (some 0) 11, am_ar h ((h_r h 0 17)) 39 x1]) (g := (27, [some (v_r (some 0)), some (v_i x1), some (v_i x2), l3, l4, l5], [v_r (h_r h ((h_r h 0 17).getD 0) (Int32.toNatClampNeg x1)), v_i x2], h)) rfl).trans ?_
  simp only [e0, Option.getD_some, am_all]
  all_goals exact cj_d (la_is Lh (o := 0) rfl) (cj_k (la_ar Lh (o := 83) rfl) (Iff.rfl))

theorem b_X11_write_27 {d : Nat} {Q : Option am_V → am_H → Prop} (h : am_H) (t0 : Nat) (s1 : Int32) (l0 l1 l2 l3 l4 l5 : Option am_V) (F_t0 : y_Tray h t0) : ex_ d 224 27 [l0, l1, l2, l3, l4, l5] [v_r (some t0), v_i s1] h Q ↔ if s1 < (h_i h t0 1) then ex_ d 224 37 [l0, l1, l2, l3, l4, l5] [] h Q else ex_ d 224 33 [l0, l1, l2, l3, l4, l5] [] h Q := by
  unfold ex_
  refine (am_Y_go 2 (ok := [am_is h (some t0) 9]) (g := (if s1 < (h_i h t0 1) then 37 else 33, [l0, l1, l2, l3, l4, l5], [], h)) rfl).trans ?_
  simp only [am_all]
  all_goals exact cj_d (lr_is (F_t0.1 0 rfl)) (am_Y_if)

theorem b_X11_write_37 {d : Nat} {Q : Option am_V → am_H → Prop} (h : am_H) (x1 : Int32) (x2 : Int32) (x3 : Int64) (l4 l5 : Option am_V) (Lh : Lay h) : ex_ d 224 37 [some (v_r (some 0)), some (v_i x1), some (v_i x2), some (v_l x3), l4, l5] [] h Q ↔ vp_in x1 4 ∧ ex_ d 224 45 [some (v_r (some 0)), some (v_i x1), some (v_i x2), some (v_l x3), l4, l5] [v_l x3, v_i x2, v_r (h_r h 83 (Int32.toNatClampNeg x1))] h Q := by
  have e0 : h_r h 0 17 = some 83 := la_r Lh (q := (0, 17, 83)) (by decide)
  unfold ex_
  refine (am_Y_go 6 (ok := [am_is h (some 0) 11, am_ar h ((h_r h 0 17)) 39 x1]) (g := (45, [some (v_r (some 0)), some (v_i x1), some (v_i x2), some (v_l x3), l4, l5], [v_l x3, v_i x2, v_r (h_r h ((h_r h 0 17).getD 0) (Int32.toNatClampNeg x1))], h)) rfl).trans ?_
  simp only [e0, Option.getD_some, am_all]
  all_goals exact cj_d (la_is Lh (o := 0) rfl) (cj_k (la_ar Lh (o := 83) rfl) (Iff.rfl))

theorem b_X11_write_45 {d : Nat} {Q : Option am_V → am_H → Prop} (h : am_H) (s0 : Int64) (s1 : Int32) (t2 : Nat) (l0 l1 l2 l3 l4 l5 : Option am_V) (F_t2 : y_Tray h t2) : ex_ (d + 1) 224 45 [l0, l1, l2, l3, l4, l5] [v_l s0, v_i s1, v_r (some t2)] h Q ↔ ex_ d 147 0 [some (v_r (some t2)), some (v_i s1), some (v_l s0), none] [] h (fun r h' => ex_ (d + 1) 224 48 [l0, l1, l2, l3, l4, l5] (r.toList ++ []) h' Q) := by
  unfold ex_
  exact ((am_Y_call (j := 147) (na := 3) (ci := 9) (fl := 0) rfl rfl rfl).trans (cj_d ⟨⟨Nat.le_of_ble_eq_true rfl, Nat.le_of_ble_eq_true rfl, Nat.le_of_ble_eq_true rfl, rfl⟩, Or.inr (Or.inr (show (9 : Nat) < 20 ∧ am_is h (some t2) 9 from ⟨by decide, (lr_is (F_t2.1 0 rfl))⟩))⟩ Iff.rfl))

theorem b_X11_write_48 {d : Nat} {Q : Option am_V → am_H → Prop} (h : am_H) (x1 : Int32) (x2 : Int32) (l3 l4 l5 : Option am_V) (Lh : Lay h) : ex_ d 224 48 [some (v_r (some 0)), some (v_i x1), some (v_i x2), l3, l4, l5] [] h Q ↔ vp_in x1 4 ∧ ex_ d 224 55 [some (v_r (some 0)), some (v_i x1), some (v_i x2), l3, l4, l5] [v_i x2, v_r (h_r h 83 (Int32.toNatClampNeg x1))] h Q := by
  have e0 : h_r h 0 17 = some 83 := la_r Lh (q := (0, 17, 83)) (by decide)
  unfold ex_
  refine (am_Y_go 5 (ok := [am_is h (some 0) 11, am_ar h ((h_r h 0 17)) 39 x1]) (g := (55, [some (v_r (some 0)), some (v_i x1), some (v_i x2), l3, l4, l5], [v_i x2, v_r (h_r h ((h_r h 0 17).getD 0) (Int32.toNatClampNeg x1))], h)) rfl).trans ?_
  simp only [e0, Option.getD_some, am_all]
  all_goals exact cj_d (la_is Lh (o := 0) rfl) (cj_k (la_ar Lh (o := 83) rfl) (Iff.rfl))

theorem b_X11_write_55 {d : Nat} {Q : Option am_V → am_H → Prop} (h : am_H) (s0 : Int32) (t1 : Nat) (l0 l1 l2 l3 l4 l5 : Option am_V) (F_t1 : y_Tray h t1) : ex_ (d + 1) 224 55 [l0, l1, l2, l3, l4, l5] [v_i s0, v_r (some t1)] h Q ↔ ex_ d 145 0 [some (v_r (some t1)), some (v_i s0)] [] h (fun r h' => ex_ (d + 1) 224 58 [l0, l1, l2, l3, l4, l5] (r.toList ++ []) h' Q) := by
  unfold ex_
  exact ((am_Y_call (j := 145) (na := 2) (ci := 9) (fl := 0) rfl rfl rfl).trans (cj_d ⟨⟨Nat.le_of_ble_eq_true rfl, Nat.le_of_ble_eq_true rfl, Nat.le_of_ble_eq_true rfl, rfl⟩, Or.inr (Or.inr (show (9 : Nat) < 20 ∧ am_is h (some t1) 9 from ⟨by decide, (lr_is (F_t1.1 0 rfl))⟩))⟩ Iff.rfl))

theorem b_X11_write_58 {d : Nat} {Q : Option am_V → am_H → Prop} (h : am_H) (s0 : Int64) (l0 l1 l2 l3 l4 l5 : Option am_V) : ex_ d 224 58 [l0, l1, l2, l3, l4, l5] [v_l s0] h Q ↔ Q (some (v_l s0)) h := by
  unfold ex_
  exact ((am_Y_ret rfl rfl rfl).trans (am_rz rfl))

theorem b_X11_lists_0 {d : Nat} {Q : Option am_V → am_H → Prop} (h : am_H) (x1 : Int32) (l0 l2 l3 l4 : Option am_V) : ex_ (d + 1) 225 0 [l0, some (v_i x1), l2, l3, l4] [] h Q ↔ ex_ d 182 0 [some (v_i x1)] [] h (fun r h' => ex_ (d + 1) 225 4 [l0, some (v_i x1), l2, l3, l4] (r.toList ++ []) h' Q) := by
  unfold ex_
  refine (am_Y_go 1 (ok := []) (g := (1, [l0, some (v_i x1), l2, l3, l4], [v_i x1], h)) rfl).trans ?_
  all_goals exact ((am_Y_call (j := 182) (na := 1) (ci := 11) (fl := 2) rfl rfl rfl).trans (cj_d ⟨⟨Nat.le_of_ble_eq_true rfl, Nat.le_of_ble_eq_true rfl, Nat.le_of_ble_eq_true rfl, rfl⟩, Or.inl rfl⟩ Iff.rfl))

theorem b_X11_lists_4 {d : Nat} {Q : Option am_V → am_H → Prop} (h : am_H) (s0 : Int32) (l0 l1 l2 l3 l4 : Option am_V) : ex_ d 225 4 [l0, l1, l2, l3, l4] [v_i s0] h Q ↔ if s0 = 0 then ex_ d 225 21 [l0, l1, l2, l3, l4] [] h Q else ex_ d 225 7 [l0, l1, l2, l3, l4] [] h Q := by
  unfold ex_
  refine (am_Y_go 1 (ok := []) (g := (if s0 = 0 then 21 else 7, [l0, l1, l2, l3, l4], [], h)) rfl).trans ?_
  all_goals exact am_Y_if

theorem b_X11_lists_21 {d : Nat} {Q : Option am_V → am_H → Prop} (h : am_H) (l0 l1 l2 l3 l4 : Option am_V) : ex_ d 225 21 [l0, l1, l2, l3, l4] [] h Q ↔ Q (some (v_i (-2 : Int32))) h := by
  unfold ex_
  refine (am_Y_go 1 (ok := []) (g := (23, [l0, l1, l2, l3, l4], [v_i (-2 : Int32)], h)) rfl).trans ?_
  all_goals exact ((am_Y_ret rfl rfl rfl).trans (am_r0))

theorem b_X11_lists_7 {d : Nat} {Q : Option am_V → am_H → Prop} (h : am_H) (x2 : Int32) (l1 l3 l4 : Option am_V) (Lh : Lay h) : ex_ (d + 1) 225 7 [some (v_r (some 0)), l1, some (v_i x2), l3, l4] [] h Q ↔ ex_ d 3 0 [some (v_r (some 11)), some (v_i x2)] [] h (fun r h' => ex_ (d + 1) 225 18 [some (v_r (some 0)), l1, some (v_i x2), l3, l4] (r.toList ++ []) h' Q) := by
  have e0 : h_r h 0 5 = some 10 := la_r Lh (q := (0, 5, 10)) (by decide)
  have e1 : h_r h 10 0 = some 11 := la_r Lh (q := (10, 0, 11)) (by decide)
  unfold ex_
  refine (am_Y_go 4 (ok := [am_is h (some 0) 11, am_is h ((h_r h 0 5)) 2]) (g := (15, [some (v_r (some 0)), l1, some (v_i x2), l3, l4], [v_i x2, v_r ((h_r h ((h_r h 0 5).getD 0) 0))], h)) rfl).trans ?_
  simp only [e0, e1, Option.getD_some, am_all]
  all_goals exact cj_d (la_is Lh (o := 0) rfl) (cj_d (la_is Lh (o := 10) rfl) (((am_Y_call (j := 3) (na := 2) (ci := 1) (fl := 0) rfl rfl rfl).trans (cj_d ⟨⟨Nat.le_of_ble_eq_true rfl, Nat.le_of_ble_eq_true rfl, Nat.le_of_ble_eq_true rfl, rfl⟩, Or.inr (Or.inr (show (1 : Nat) < 20 ∧ am_is h (some 11) 1 from ⟨by decide, (la_is Lh (o := 11) rfl)⟩))⟩ Iff.rfl))))

theorem b_X11_lists_18 {d : Nat} {Q : Option am_V → am_H → Prop} (h : am_H) (s0 : Int32) (l0 l1 l2 l3 l4 : Option am_V) : ex_ d 225 18 [l0, l1, l2, l3, l4] [v_i s0] h Q ↔ if ¬ s0 = 0 then ex_ d 225 24 [l0, l1, l2, l3, l4] [] h Q else ex_ d 225 21 [l0, l1, l2, l3, l4] [] h Q := by
  unfold ex_
  refine (am_Y_go 1 (ok := []) (g := (if ¬ s0 = 0 then 24 else 21, [l0, l1, l2, l3, l4], [], h)) rfl).trans ?_
  all_goals exact am_Y_if

theorem b_X11_lists_24 {d : Nat} {Q : Option am_V → am_H → Prop} (h : am_H) (x1 : Int32) (l2 l3 l4 : Option am_V) (Lh : Lay h) : ex_ d 225 24 [some (v_r (some 0)), some (v_i x1), l2, l3, l4] [] h Q ↔ vp_in x1 4 ∧ ex_ d 225 30 [some (v_r (some 0)), some (v_i x1), l2, l3, l4] [v_r (h_r h 83 (Int32.toNatClampNeg x1))] h Q := by
  have e0 : h_r h 0 17 = some 83 := la_r Lh (q := (0, 17, 83)) (by decide)
  unfold ex_
  refine (am_Y_go 4 (ok := [am_is h (some 0) 11, am_ar h ((h_r h 0 17)) 39 x1]) (g := (30, [some (v_r (some 0)), some (v_i x1), l2, l3, l4], [v_r (h_r h ((h_r h 0 17).getD 0) (Int32.toNatClampNeg x1))], h)) rfl).trans ?_
  simp only [e0, Option.getD_some, am_all]
  all_goals exact cj_d (la_is Lh (o := 0) rfl) (cj_k (la_ar Lh (o := 83) rfl) (Iff.rfl))

theorem b_X11_lists_30 {d : Nat} {Q : Option am_V → am_H → Prop} (h : am_H) (t0 : Nat) (l0 l1 l2 l3 l4 : Option am_V) (F_t0 : y_Tray h t0) : ex_ (d + 1) 225 30 [l0, l1, l2, l3, l4] [v_r (some t0)] h Q ↔ ex_ d 142 0 [some (v_r (some t0))] [] h (fun r h' => ex_ (d + 1) 225 33 [l0, l1, l2, l3, l4] (r.toList ++ []) h' Q) := by
  unfold ex_
  exact ((am_Y_call (j := 142) (na := 1) (ci := 9) (fl := 0) rfl rfl rfl).trans (cj_d ⟨⟨Nat.le_of_ble_eq_true rfl, Nat.le_of_ble_eq_true rfl, Nat.le_of_ble_eq_true rfl, rfl⟩, Or.inr (Or.inr (show (9 : Nat) < 20 ∧ am_is h (some t0) 9 from ⟨by decide, (lr_is (F_t0.1 0 rfl))⟩))⟩ Iff.rfl))

theorem b_X11_lists_33 {d : Nat} {Q : Option am_V → am_H → Prop} (h : am_H) (s0 : Int32) (l0 l1 l2 l3 l4 : Option am_V) : ex_ d 225 33 [l0, l1, l2, l3, l4] [v_i s0] h Q ↔ if s0 = 0 then ex_ d 225 39 [l0, l1, l2, l3, l4] [] h Q else ex_ d 225 36 [l0, l1, l2, l3, l4] [] h Q := by
  unfold ex_
  refine (am_Y_go 1 (ok := []) (g := (if s0 = 0 then 39 else 36, [l0, l1, l2, l3, l4], [], h)) rfl).trans ?_
  all_goals exact am_Y_if

theorem b_X11_lists_39 {d : Nat} {Q : Option am_V → am_H → Prop} (h : am_H) (x2 : Int32) (l1 l3 l4 : Option am_V) (Lh : Lay h) : ex_ (d + 1) 225 39 [some (v_r (some 0)), l1, some (v_i x2), l3, l4] [] h Q ↔ ex_ d 47 0 [some (v_r (some 15)), some (v_i x2)] [] h (fun r h' => ex_ (d + 1) 225 47 [some (v_r (some 0)), l1, some (v_i x2), l3, l4] (r.toList ++ []) h' Q) := by
  have e0 : h_r h 0 6 = some 15 := la_r Lh (q := (0, 6, 15)) (by decide)
  unfold ex_
  refine (am_Y_go 3 (ok := [am_is h (some 0) 11]) (g := (44, [some (v_r (some 0)), l1, some (v_i x2), l3, l4], [v_i x2, v_r ((h_r h 0 6))], h)) rfl).trans ?_
  simp only [e0, Option.getD_some, am_all]
  all_goals exact cj_d (la_is Lh (o := 0) rfl) (((am_Y_call (j := 47) (na := 2) (ci := 6) (fl := 0) rfl rfl rfl).trans (cj_d ⟨⟨Nat.le_of_ble_eq_true rfl, Nat.le_of_ble_eq_true rfl, Nat.le_of_ble_eq_true rfl, rfl⟩, Or.inr (Or.inr (show (6 : Nat) < 20 ∧ am_is h (some 15) 6 from ⟨by decide, (la_is Lh (o := 15) rfl)⟩))⟩ Iff.rfl)))

theorem b_X11_lists_36 {d : Nat} {Q : Option am_V → am_H → Prop} (h : am_H) (l0 l1 l2 l3 l4 : Option am_V) : ex_ d 225 36 [l0, l1, l2, l3, l4] [] h Q ↔ Q (some (v_i (-6 : Int32))) h := by
  unfold ex_
  refine (am_Y_go 1 (ok := []) (g := (38, [l0, l1, l2, l3, l4], [v_i (-6 : Int32)], h)) rfl).trans ?_
  all_goals exact ((am_Y_ret rfl rfl rfl).trans (am_r0))

theorem b_X11_lists_47 {d : Nat} {Q : Option am_V → am_H → Prop} (h : am_H) (s0 : Int32) (l0 l1 l2 l3 l4 : Option am_V) : ex_ d 225 47 [l0, l1, l2, l3, l4] [v_i s0] h Q ↔ if ¬ s0 = 0 then ex_ d 225 53 [l0, l1, l2, l3, l4] [] h Q else ex_ d 225 50 [l0, l1, l2, l3, l4] [] h Q := by
  unfold ex_
  refine (am_Y_go 1 (ok := []) (g := (if ¬ s0 = 0 then 53 else 50, [l0, l1, l2, l3, l4], [], h)) rfl).trans ?_
  all_goals exact am_Y_if

theorem b_X11_lists_53 {d : Nat} {Q : Option am_V → am_H → Prop} (h : am_H) (x1 : Int32) (l2 l3 l4 : Option am_V) (Lh : Lay h) : ex_ d 225 53 [some (v_r (some 0)), some (v_i x1), l2, l3, l4] [] h Q ↔ vp_in x1 4 ∧ ex_ d 225 59 [some (v_r (some 0)), some (v_i x1), l2, l3, l4] [v_r (h_r h 83 (Int32.toNatClampNeg x1))] h Q := by
  have e0 : h_r h 0 17 = some 83 := la_r Lh (q := (0, 17, 83)) (by decide)
  unfold ex_
  refine (am_Y_go 4 (ok := [am_is h (some 0) 11, am_ar h ((h_r h 0 17)) 39 x1]) (g := (59, [some (v_r (some 0)), some (v_i x1), l2, l3, l4], [v_r (h_r h ((h_r h 0 17).getD 0) (Int32.toNatClampNeg x1))], h)) rfl).trans ?_
  simp only [e0, Option.getD_some, am_all]
  all_goals exact cj_d (la_is Lh (o := 0) rfl) (cj_k (la_ar Lh (o := 83) rfl) (Iff.rfl))

theorem b_X11_lists_50 {d : Nat} {Q : Option am_V → am_H → Prop} (h : am_H) (l0 l1 l2 l3 l4 : Option am_V) : ex_ d 225 50 [l0, l1, l2, l3, l4] [] h Q ↔ Q (some (v_i (-5 : Int32))) h := by
  unfold ex_
  refine (am_Y_go 1 (ok := []) (g := (52, [l0, l1, l2, l3, l4], [v_i (-5 : Int32)], h)) rfl).trans ?_
  all_goals exact ((am_Y_ret rfl rfl rfl).trans (am_r0))

theorem b_X11_lists_59 {d : Nat} {Q : Option am_V → am_H → Prop} (h : am_H) (t0 : Nat) (x2 : Int32) (l1 l3 l4 : Option am_V) (Lh : Lay h) (F_t0 : y_Tray h t0) : ex_ (d + 1) 225 59 [some (v_r (some 0)), l1, some (v_i x2), l3, l4] [v_r (some t0)] h Q ↔ ex_ d 9 0 [some (v_r (some 15)), some (v_i x2)] [] h (fun r h' => ex_ (d + 1) 225 70 [some (v_r (some 0)), l1, some (v_i x2), l3, l4] (r.toList ++ [v_i (h_i h t0 1)]) h' Q) := by
  have e0 : h_r h 0 6 = some 15 := la_r Lh (q := (0, 6, 15)) (by decide)
  unfold ex_
  refine (am_Y_go 4 (ok := [am_is h (some t0) 9, am_is h (some 0) 11]) (g := (67, [some (v_r (some 0)), l1, some (v_i x2), l3, l4], [v_i x2, v_r ((h_r h 0 6)), v_i (h_i h t0 1)], h)) rfl).trans ?_
  simp only [e0, Option.getD_some, am_all]
  all_goals exact cj_d (lr_is (F_t0.1 0 rfl)) (cj_d (la_is Lh (o := 0) rfl) (((am_Y_call (j := 9) (na := 2) (ci := 6) (fl := 0) rfl rfl rfl).trans (cj_d ⟨⟨Nat.le_of_ble_eq_true rfl, Nat.le_of_ble_eq_true rfl, Nat.le_of_ble_eq_true rfl, rfl⟩, Or.inr (Or.inr (show (6 : Nat) < 20 ∧ am_is h (some 15) 6 from ⟨by decide, (la_is Lh (o := 15) rfl)⟩))⟩ Iff.rfl))))

theorem b_X11_lists_70 {d : Nat} {Q : Option am_V → am_H → Prop} (h : am_H) (s0 : Int32) (s1 : Int32) (l0 l1 l2 l3 l4 : Option am_V) : ex_ d 225 70 [l0, l1, l2, l3, l4] [v_i s0, v_i s1] h Q ↔ ex_ d 225 77 [l0, l1, l2, some (v_i (if s0 < s1 then s0 else s1)), some (v_i (0 : Int32))] [] h Q := by
  unfold ex_
  refine (am_Y_go 4 (ok := []) (g := (77, [l0, l1, l2, some (v_i (if s0 < s1 then s0 else s1)), some (v_i (0 : Int32))], [], h)) rfl).trans ?_
  all_goals exact Iff.rfl

theorem b_X11_lists_77 {d : Nat} {Q : Option am_V → am_H → Prop} (h : am_H) (x4 : Int32) (x3 : Int32) (l0 l1 l2 : Option am_V) : ex_ d 225 77 [l0, l1, l2, some (v_i x3), some (v_i x4)] [] h Q ↔ if x3 ≤ x4 then ex_ d 225 111 [l0, l1, l2, some (v_i x3), some (v_i x4)] [] h Q else ex_ d 225 83 [l0, l1, l2, some (v_i x3), some (v_i x4)] [] h Q := by
  unfold ex_
  refine (am_Y_go 3 (ok := []) (g := (if x3 ≤ x4 then 111 else 83, [l0, l1, l2, some (v_i x3), some (v_i x4)], [], h)) rfl).trans ?_
  all_goals exact am_Y_if

theorem b_X11_lists_111 {d : Nat} {Q : Option am_V → am_H → Prop} (h : am_H) (x3 : Int32) (l0 l1 l2 l4 : Option am_V) : ex_ d 225 111 [l0, l1, l2, some (v_i x3), l4] [] h Q ↔ Q (some (v_i x3)) h := by
  unfold ex_
  refine (am_Y_go 1 (ok := []) (g := (112, [l0, l1, l2, some (v_i x3), l4], [v_i x3], h)) rfl).trans ?_
  all_goals exact ((am_Y_ret rfl rfl rfl).trans (am_r0))

theorem b_X11_lists_83 {d : Nat} {Q : Option am_V → am_H → Prop} (h : am_H) (x1 : Int32) (x4 : Int32) (x2 : Int32) (l3 : Option am_V) (Lh : Lay h) : ex_ (d + 1) 225 83 [some (v_r (some 0)), some (v_i x1), some (v_i x2), l3, some (v_i x4)] [] h Q ↔ vp_in x1 4 ∧ ex_ d 10 0 [some (v_r (some 15)), some (v_i x2), some (v_i x4)] [] h (fun r h' => ex_ (d + 1) 225 101 [some (v_r (some 0)), some (v_i x1), some (v_i x2), l3, some (v_i x4)] (r.toList ++ [v_i x4, v_r (h_r h 83 (Int32.toNatClampNeg x1))]) h' Q) := by
  have e0 : h_r h 0 17 = some 83 := la_r Lh (q := (0, 17, 83)) (by decide)
  have e1 : h_r h 0 6 = some 15 := la_r Lh (q := (0, 6, 15)) (by decide)
  unfold ex_
  refine (am_Y_go 9 (ok := [am_is h (some 0) 11, am_ar h ((h_r h 0 17)) 39 x1, am_is h (some 0) 11]) (g := (98, [some (v_r (some 0)), some (v_i x1), some (v_i x2), l3, some (v_i x4)], [v_i x4, v_i x2, v_r ((h_r h 0 6)), v_i x4, v_r (h_r h ((h_r h 0 17).getD 0) (Int32.toNatClampNeg x1))], h)) rfl).trans ?_
  simp only [e0, e1, Option.getD_some, am_all]
  all_goals exact cj_d (la_is Lh (o := 0) rfl) (cj_k (la_ar Lh (o := 83) rfl) (cj_d (la_is Lh (o := 0) rfl) (((am_Y_call (j := 10) (na := 3) (ci := 6) (fl := 0) rfl rfl rfl).trans (cj_d ⟨⟨Nat.le_of_ble_eq_true rfl, Nat.le_of_ble_eq_true rfl, Nat.le_of_ble_eq_true rfl, rfl⟩, Or.inr (Or.inr (show (6 : Nat) < 20 ∧ am_is h (some 15) 6 from ⟨by decide, (la_is Lh (o := 15) rfl)⟩))⟩ Iff.rfl)))))

theorem b_X11_lists_101 {d : Nat} {Q : Option am_V → am_H → Prop} (h : am_H) (s0 : Int32) (s1 : Int32) (s2 : Option Nat) (l0 l1 l2 l3 l4 : Option am_V) : ex_ d 225 101 [l0, l1, l2, l3, l4] [v_i s0, v_i s1, v_r s2] h Q ↔ ex_ d 225 102 [l0, l1, l2, l3, l4] [v_l (Int32.toInt64 s0), v_i s1, v_r s2] h Q := by
  unfold ex_
  refine (am_Y_go 1 (ok := []) (g := (102, [l0, l1, l2, l3, l4], [v_l (Int32.toInt64 s0), v_i s1, v_r s2], h)) rfl).trans ?_
  all_goals exact Iff.rfl

theorem b_X11_lists_102 {d : Nat} {Q : Option am_V → am_H → Prop} (h : am_H) (s0 : Int64) (s1 : Int32) (t2 : Nat) (l0 l1 l2 l3 l4 : Option am_V) (F_t2 : y_Tray h t2) : ex_ (d + 1) 225 102 [l0, l1, l2, l3, l4] [v_l s0, v_i s1, v_r (some t2)] h Q ↔ ex_ d 147 0 [some (v_r (some t2)), some (v_i s1), some (v_l s0), none] [] h (fun r h' => ex_ (d + 1) 225 105 [l0, l1, l2, l3, l4] (r.toList ++ []) h' Q) := by
  unfold ex_
  exact ((am_Y_call (j := 147) (na := 3) (ci := 9) (fl := 0) rfl rfl rfl).trans (cj_d ⟨⟨Nat.le_of_ble_eq_true rfl, Nat.le_of_ble_eq_true rfl, Nat.le_of_ble_eq_true rfl, rfl⟩, Or.inr (Or.inr (show (9 : Nat) < 20 ∧ am_is h (some t2) 9 from ⟨by decide, (lr_is (F_t2.1 0 rfl))⟩))⟩ Iff.rfl))

theorem b_X11_lists_105 {d : Nat} {Q : Option am_V → am_H → Prop} (h : am_H) (x4 : Int32) (l0 l1 l2 l3 : Option am_V) : ex_ d 225 105 [l0, l1, l2, l3, some (v_i x4)] [] h Q ↔ ex_ d 225 77 [l0, l1, l2, l3, some (v_i (x4 + (1 : Int32)))] [] h Q := by
  unfold ex_
  refine (am_Y_go 2 (ok := []) (g := (77, [l0, l1, l2, l3, some (v_i (x4 + (1 : Int32)))], [], h)) rfl).trans ?_
  all_goals exact Iff.rfl

theorem b_X11_image_0 {d : Nat} {Q : Option am_V → am_H → Prop} (h : am_H) (x1 : Int32) (l0 : Option am_V) : ex_ d 226 0 [l0, some (v_i x1)] [] h Q ↔ if x1 < 0 then ex_ d 226 9 [l0, some (v_i x1)] [] h Q else ex_ d 226 4 [l0, some (v_i x1)] [] h Q := by
  unfold ex_
  refine (am_Y_go 2 (ok := []) (g := (if x1 < 0 then 9 else 4, [l0, some (v_i x1)], [], h)) rfl).trans ?_
  all_goals exact am_Y_if

theorem b_X11_image_9 {d : Nat} {Q : Option am_V → am_H → Prop} (h : am_H) (l0 l1 : Option am_V) : ex_ d 226 9 [l0, l1] [] h Q ↔ Q (some (v_i (-2 : Int32))) h := by
  unfold ex_
  refine (am_Y_go 1 (ok := []) (g := (11, [l0, l1], [v_i (-2 : Int32)], h)) rfl).trans ?_
  all_goals exact ((am_Y_ret rfl rfl rfl).trans (am_r0))

theorem b_X11_image_4 {d : Nat} {Q : Option am_V → am_H → Prop} (h : am_H) (x1 : Int32) (l0 : Option am_V) : ex_ d 226 4 [l0, some (v_i x1)] [] h Q ↔ if x1 < (2 : Int32) then ex_ d 226 12 [l0, some (v_i x1)] [] h Q else ex_ d 226 9 [l0, some (v_i x1)] [] h Q := by
  unfold ex_
  refine (am_Y_go 3 (ok := []) (g := (if x1 < (2 : Int32) then 12 else 9, [l0, some (v_i x1)], [], h)) rfl).trans ?_
  all_goals exact am_Y_if

theorem b_X11_image_12 {d : Nat} {Q : Option am_V → am_H → Prop} (h : am_H) (x1 : Int32) (Lh : Lay h) : ex_ d 226 12 [some (v_r (some 0)), some (v_i x1)] [] h Q ↔ vp_in x1 2 ∧ (if (h_r h 84 (Int32.toNatClampNeg x1)) = none then ex_ d 226 21 [some (v_r (some 0)), some (v_i x1)] [] h Q else ex_ d 226 34 [some (v_r (some 0)), some (v_i x1)] [] h Q) := by
  have e0 : h_r h 0 18 = some 84 := la_r Lh (q := (0, 18, 84)) (by decide)
  unfold ex_
  refine (am_Y_go 5 (ok := [am_is h (some 0) 11, am_ar h ((h_r h 0 18)) 32 x1]) (g := (if (h_r h ((h_r h 0 18).getD 0) (Int32.toNatClampNeg x1)) = none then 21 else 34, [some (v_r (some 0)), some (v_i x1)], [], h)) rfl).trans ?_
  simp only [e0, Option.getD_some, am_all]
  all_goals exact cj_d (la_is Lh (o := 0) rfl) (cj_k (la_ar Lh (o := 84) rfl) (am_Y_if))

theorem b_X11_image_21 {d : Nat} {Q : Option am_V → am_H → Prop} (h : am_H) (x1 : Int32) (Lh : Lay h) : ex_ (d + 1) 226 21 [some (v_r (some 0)), some (v_i x1)] [] h Q ↔ ex_ d 42 0 [some (v_r (some (h_n h)))] [] (p_n h 2 4) (fun r h' => ex_ (d + 1) 226 33 [some (v_r (some 0)), some (v_i x1)] (r.toList ++ [v_r (some (h_n h)), v_i x1, v_r (some 84)]) h' Q) := by
  have e0 : h_r h 0 18 = some 84 := la_r Lh (q := (0, 18, 84)) (by decide)
  unfold ex_
  refine (am_Y_go 5 (ok := [am_is h (some 0) 11]) (g := (30, [some (v_r (some 0)), some (v_i x1)], [v_r (some (h_n h)), v_r (some (h_n h)), v_i x1, v_r ((h_r h 0 18))], (p_n h 2 4))) rfl).trans ?_
  simp only [e0, Option.getD_some, am_all]
  all_goals exact cj_d (la_is Lh (o := 0) rfl) (((am_Y_call (j := 42) (na := 1) (ci := 2) (fl := 5) rfl rfl rfl).trans (cj_d ⟨⟨Nat.le_of_ble_eq_true rfl, Nat.le_of_ble_eq_true rfl, Nat.le_of_ble_eq_true rfl, rfl⟩, Or.inr (Or.inr (show (2 : Nat) < 20 ∧ am_is (p_n h 2 4) (some (h_n h)) 2 from ⟨by decide, pn_is⟩))⟩ Iff.rfl)))

theorem b_X11_image_34 {d : Nat} {Q : Option am_V → am_H → Prop} (h : am_H) (x1 : Int32) (Lh : Lay h) : ex_ d 226 34 [some (v_r (some 0)), some (v_i x1)] [] h Q ↔ vp_in x1 2 ∧ ex_ d 226 44 [some (v_r (some 0)), some (v_i x1)] [v_r (some 10), v_r (h_r h 84 (Int32.toNatClampNeg x1))] h Q := by
  have e0 : h_r h 0 18 = some 84 := la_r Lh (q := (0, 18, 84)) (by decide)
  have e1 : h_r h 0 5 = some 10 := la_r Lh (q := (0, 5, 10)) (by decide)
  unfold ex_
  refine (am_Y_go 6 (ok := [am_is h (some 0) 11, am_ar h ((h_r h 0 18)) 32 x1, am_is h (some 0) 11]) (g := (44, [some (v_r (some 0)), some (v_i x1)], [v_r ((h_r h 0 5)), v_r (h_r h ((h_r h 0 18).getD 0) (Int32.toNatClampNeg x1))], h)) rfl).trans ?_
  simp only [e0, e1, Option.getD_some, am_all]
  all_goals exact cj_d (la_is Lh (o := 0) rfl) (cj_k (la_ar Lh (o := 84) rfl) (cj_d (la_is Lh (o := 0) rfl) (Iff.rfl)))

theorem b_X11_image_33 {d : Nat} {Q : Option am_V → am_H → Prop} (h : am_H) (t0 : Nat) (s1 : Int32) (t2 : Nat) (x1 : Int32) (Lh : Lay h) (F_t0 : y_House h t0) {n_t2 : Nat} (A_t2 : y_arr h t2 32 n_t2) : ex_ d 226 33 [some (v_r (some 0)), some (v_i x1)] [v_r (some t0), v_i s1, v_r (some t2)] h Q ↔ am_is h (some t0) 2 ∧ vp_in s1 n_t2 ∧ ex_ d 226 39 [some (v_r (some 0)), some (v_i x1)] [v_i x1, v_r (h_r (p_r h t2 (Int32.toNatClampNeg s1) (some t0)) 0 18)] (p_r h t2 (Int32.toNatClampNeg s1) (some t0)) Q := by
  unfold ex_
  refine (am_Y_go 4 (ok := [am_is h (some t0) 2, am_ar h (some t2) 32 s1, am_is h (some 0) 11]) (g := (39, [some (v_r (some 0)), some (v_i x1)], [v_i x1, v_r (h_r (p_r h t2 (Int32.toNatClampNeg s1) (some t0)) 0 18)], (p_r h t2 (Int32.toNatClampNeg s1) (some t0)))) rfl).trans ?_
  simp only [am_all]
  all_goals exact cj_k Iff.rfl (cj_k (lb_ar A_t2) (cj_d (la_is Lh (o := 0) rfl) (Iff.rfl)))

theorem b_X11_image_44 {d : Nat} {Q : Option am_V → am_H → Prop} (h : am_H) (t0 : Nat) (t1 : Nat) (l0 l1 : Option am_V) (F_t0 : y_House h t0) (F_t1 : y_House h t1) : ex_ (d + 1) 226 44 [l0, l1] [v_r (some t0), v_r (some t1)] h Q ↔ ex_ d 43 0 [some (v_r (some t1)), some (v_r (some t0))] [] h (fun r h' => ex_ (d + 1) 226 47 [l0, l1] (r.toList ++ []) h' Q) := by
  unfold ex_
  exact ((am_Y_call (j := 43) (na := 2) (ci := 2) (fl := 0) rfl rfl rfl).trans (cj_d ⟨⟨Nat.le_of_ble_eq_true rfl, Nat.le_of_ble_eq_true rfl, Nat.le_of_ble_eq_true rfl, rfl⟩, Or.inr (Or.inr (show (2 : Nat) < 20 ∧ am_is h (some t1) 2 from ⟨by decide, (lr_is (F_t1.1 0 rfl))⟩))⟩ Iff.rfl))

theorem b_X11_image_39 {d : Nat} {Q : Option am_V → am_H → Prop} (h : am_H) (s0 : Int32) (t1 : Nat) (l1 : Option am_V) (Lh : Lay h) {n_t1 : Nat} (A_t1 : y_arr h t1 32 n_t1) : ex_ d 226 39 [some (v_r (some 0)), l1] [v_i s0, v_r (some t1)] h Q ↔ vp_in s0 n_t1 ∧ ex_ d 226 44 [some (v_r (some 0)), l1] [v_r (some 10), v_r (h_r h t1 (Int32.toNatClampNeg s0))] h Q := by
  have e0 : h_r h 0 5 = some 10 := la_r Lh (q := (0, 5, 10)) (by decide)
  unfold ex_
  refine (am_Y_go 3 (ok := [am_ar h (some t1) 32 s0, am_is h (some 0) 11]) (g := (44, [some (v_r (some 0)), l1], [v_r ((h_r h 0 5)), v_r (h_r h t1 (Int32.toNatClampNeg s0))], h)) rfl).trans ?_
  simp only [e0, Option.getD_some, am_all]
  all_goals exact cj_k (lb_ar A_t1) (cj_d (la_is Lh (o := 0) rfl) (Iff.rfl))

theorem b_X11_image_47 {d : Nat} {Q : Option am_V → am_H → Prop} (h : am_H) (l0 l1 : Option am_V) : ex_ d 226 47 [l0, l1] [] h Q ↔ Q (some (v_i (0 : Int32))) h := by
  unfold ex_
  refine (am_Y_go 1 (ok := []) (g := (48, [l0, l1], [v_i (0 : Int32)], h)) rfl).trans ?_
  all_goals exact ((am_Y_ret rfl rfl rfl).trans (am_r0))

theorem b_X11_restore_0 {d : Nat} {Q : Option am_V → am_H → Prop} (h : am_H) (x1 : Int32) (l0 : Option am_V) : ex_ d 227 0 [l0, some (v_i x1)] [] h Q ↔ if x1 < 0 then ex_ d 227 9 [l0, some (v_i x1)] [] h Q else ex_ d 227 4 [l0, some (v_i x1)] [] h Q := by
  unfold ex_
  refine (am_Y_go 2 (ok := []) (g := (if x1 < 0 then 9 else 4, [l0, some (v_i x1)], [], h)) rfl).trans ?_
  all_goals exact am_Y_if

theorem b_X11_restore_9 {d : Nat} {Q : Option am_V → am_H → Prop} (h : am_H) (l0 l1 : Option am_V) : ex_ d 227 9 [l0, l1] [] h Q ↔ Q (some (v_i (-2 : Int32))) h := by
  unfold ex_
  refine (am_Y_go 1 (ok := []) (g := (11, [l0, l1], [v_i (-2 : Int32)], h)) rfl).trans ?_
  all_goals exact ((am_Y_ret rfl rfl rfl).trans (am_r0))

theorem b_X11_restore_4 {d : Nat} {Q : Option am_V → am_H → Prop} (h : am_H) (x1 : Int32) (l0 : Option am_V) : ex_ d 227 4 [l0, some (v_i x1)] [] h Q ↔ if x1 < (2 : Int32) then ex_ d 227 12 [l0, some (v_i x1)] [] h Q else ex_ d 227 9 [l0, some (v_i x1)] [] h Q := by
  unfold ex_
  refine (am_Y_go 3 (ok := []) (g := (if x1 < (2 : Int32) then 12 else 9, [l0, some (v_i x1)], [], h)) rfl).trans ?_
  all_goals exact am_Y_if

theorem b_X11_restore_12 {d : Nat} {Q : Option am_V → am_H → Prop} (h : am_H) (x1 : Int32) (Lh : Lay h) : ex_ d 227 12 [some (v_r (some 0)), some (v_i x1)] [] h Q ↔ vp_in x1 2 ∧ (if (h_r h 84 (Int32.toNatClampNeg x1)) = none then ex_ d 227 21 [some (v_r (some 0)), some (v_i x1)] [] h Q else ex_ d 227 24 [some (v_r (some 0)), some (v_i x1)] [] h Q) := by
  have e0 : h_r h 0 18 = some 84 := la_r Lh (q := (0, 18, 84)) (by decide)
  unfold ex_
  refine (am_Y_go 5 (ok := [am_is h (some 0) 11, am_ar h ((h_r h 0 18)) 32 x1]) (g := (if (h_r h ((h_r h 0 18).getD 0) (Int32.toNatClampNeg x1)) = none then 21 else 24, [some (v_r (some 0)), some (v_i x1)], [], h)) rfl).trans ?_
  simp only [e0, Option.getD_some, am_all]
  all_goals exact cj_d (la_is Lh (o := 0) rfl) (cj_k (la_ar Lh (o := 84) rfl) (am_Y_if))

theorem b_X11_restore_21 {d : Nat} {Q : Option am_V → am_H → Prop} (h : am_H) (l0 l1 : Option am_V) : ex_ d 227 21 [l0, l1] [] h Q ↔ Q (some (v_i (-5 : Int32))) h := by
  unfold ex_
  refine (am_Y_go 1 (ok := []) (g := (23, [l0, l1], [v_i (-5 : Int32)], h)) rfl).trans ?_
  all_goals exact ((am_Y_ret rfl rfl rfl).trans (am_r0))

theorem b_X11_restore_24 {d : Nat} {Q : Option am_V → am_H → Prop} (h : am_H) (x1 : Int32) (Lh : Lay h) : ex_ (d + 1) 227 24 [some (v_r (some 0)), some (v_i x1)] [] h Q ↔ vp_in x1 2 ∧ ex_ d 43 0 [some (v_r (some 10)), some (v_r (h_r h 84 (Int32.toNatClampNeg x1)))] [] h (fun r h' => ex_ (d + 1) 227 37 [some (v_r (some 0)), some (v_i x1)] (r.toList ++ []) h' Q) := by
  have e0 : h_r h 0 5 = some 10 := la_r Lh (q := (0, 5, 10)) (by decide)
  have e1 : h_r h 0 18 = some 84 := la_r Lh (q := (0, 18, 84)) (by decide)
  unfold ex_
  refine (am_Y_go 6 (ok := [am_is h (some 0) 11, am_is h (some 0) 11, am_ar h ((h_r h 0 18)) 32 x1]) (g := (34, [some (v_r (some 0)), some (v_i x1)], [v_r (h_r h ((h_r h 0 18).getD 0) (Int32.toNatClampNeg x1)), v_r ((h_r h 0 5))], h)) rfl).trans ?_
  simp only [e0, e1, Option.getD_some, am_all]
  all_goals exact cj_d (la_is Lh (o := 0) rfl) (cj_d (la_is Lh (o := 0) rfl) (cj_k (la_ar Lh (o := 84) rfl) (((am_Y_call (j := 43) (na := 2) (ci := 2) (fl := 0) rfl rfl rfl).trans (cj_d ⟨⟨Nat.le_of_ble_eq_true rfl, Nat.le_of_ble_eq_true rfl, Nat.le_of_ble_eq_true rfl, rfl⟩, Or.inr (Or.inr (show (2 : Nat) < 20 ∧ am_is h (some 10) 2 from ⟨by decide, (la_is Lh (o := 10) rfl)⟩))⟩ Iff.rfl)))))

theorem b_X11_restore_37 {d : Nat} {Q : Option am_V → am_H → Prop} (h : am_H) (l1 : Option am_V) (Lh : Lay h) : ex_ (d + 1) 227 37 [some (v_r (some 0)), l1] [] h Q ↔ ex_ d 76 0 [some (v_r (some 25))] [] h (fun r h' => ex_ (d + 1) 227 44 [some (v_r (some 0)), l1] (r.toList ++ []) h' Q) := by
  have e0 : h_r h 0 7 = some 25 := la_r Lh (q := (0, 7, 25)) (by decide)
  unfold ex_
  refine (am_Y_go 2 (ok := [am_is h (some 0) 11]) (g := (41, [some (v_r (some 0)), l1], [v_r ((h_r h 0 7))], h)) rfl).trans ?_
  simp only [e0, Option.getD_some, am_all]
  all_goals exact cj_d (la_is Lh (o := 0) rfl) (((am_Y_call (j := 76) (na := 1) (ci := 7) (fl := 0) rfl rfl rfl).trans (cj_d ⟨⟨Nat.le_of_ble_eq_true rfl, Nat.le_of_ble_eq_true rfl, Nat.le_of_ble_eq_true rfl, rfl⟩, Or.inr (Or.inr (show (7 : Nat) < 20 ∧ am_is h (some 25) 7 from ⟨by decide, (la_is Lh (o := 25) rfl)⟩))⟩ Iff.rfl)))

theorem b_X11_restore_44 {d : Nat} {Q : Option am_V → am_H → Prop} (h : am_H) (l1 : Option am_V) (Lh : Lay h) : ex_ (d + 1) 227 44 [some (v_r (some 0)), l1] [] h Q ↔ ex_ d 164 0 [some (v_r (some 0))] [] h (fun r h' => ex_ (d + 1) 227 48 [some (v_r (some 0)), l1] (r.toList ++ []) h' Q) := by
  unfold ex_
  refine (am_Y_go 1 (ok := []) (g := (45, [some (v_r (some 0)), l1], [v_r (some 0)], h)) rfl).trans ?_
  all_goals exact ((am_Y_call (j := 164) (na := 1) (ci := 11) (fl := 0) rfl rfl rfl).trans (cj_d ⟨⟨Nat.le_of_ble_eq_true rfl, Nat.le_of_ble_eq_true rfl, Nat.le_of_ble_eq_true rfl, rfl⟩, Or.inr (Or.inr (show (11 : Nat) < 20 ∧ am_is h (some 0) 11 from ⟨by decide, (la_is Lh (o := 0) rfl)⟩))⟩ Iff.rfl))

theorem b_X11_restore_48 {d : Nat} {Q : Option am_V → am_H → Prop} (h : am_H) (l0 l1 : Option am_V) : ex_ d 227 48 [l0, l1] [] h Q ↔ Q (some (v_i (0 : Int32))) h := by
  unfold ex_
  refine (am_Y_go 1 (ok := []) (g := (49, [l0, l1], [v_i (0 : Int32)], h)) rfl).trans ?_
  all_goals exact ((am_Y_ret rfl rfl rfl).trans (am_r0))

theorem b_X11_count_0 {d : Nat} {Q : Option am_V → am_H → Prop} (h : am_H) (x1 : Int32) (l2 : Option am_V) (Lh : Lay h) : ex_ d 228 0 [some (v_r (some 0)), some (v_i x1), l2] [] h Q ↔ if x1 = (0 : Int32) then ex_ d 228 60 [some (v_r (some 0)), some (v_i x1), some (v_r (some 11))] [] h Q else if x1 = (1 : Int32) then ex_ d 228 65 [some (v_r (some 0)), some (v_i x1), some (v_r (some 11))] [] h Q else if x1 = (2 : Int32) then ex_ d 228 70 [some (v_r (some 0)), some (v_i x1), some (v_r (some 11))] [] h Q else if x1 = (3 : Int32) then ex_ d 228 75 [some (v_r (some 0)), some (v_i x1), some (v_r (some 11))] [] h Q else if x1 = (4 : Int32) then ex_ d 228 80 [some (v_r (some 0)), some (v_i x1), some (v_r (some 11))] [] h Q else if x1 = (5 : Int32) then ex_ d 228 93 [some (v_r (some 0)), some (v_i x1), some (v_r (some 11))] [] h Q else if x1 = (6 : Int32) then ex_ d 228 106 [some (v_r (some 0)), some (v_i x1), some (v_r (some 11))] [] h Q else if x1 = (7 : Int32) then ex_ d 228 114 [some (v_r (some 0)), some (v_i x1), some (v_r (some 11))] [] h Q else if x1 = (8 : Int32) then ex_ d 228 119 [some (v_r (some 0)), some (v_i x1), some (v_r (some 11))] [] h Q else ex_ d 228 127 [some (v_r (some 0)), some (v_i x1), some (v_r (some 11))] [] h Q := by
  have e0 : h_r h 0 5 = some 10 := la_r Lh (q := (0, 5, 10)) (by decide)
  have e1 : h_r h 10 0 = some 11 := la_r Lh (q := (10, 0, 11)) (by decide)
  unfold ex_
  refine (am_Y_go 6 (ok := [am_is h (some 0) 11, am_is h ((h_r h 0 5)) 2]) (g := (am_sw x1 127 [((0 : Int32), 60), ((1 : Int32), 65), ((2 : Int32), 70), ((3 : Int32), 75), ((4 : Int32), 80), ((5 : Int32), 93), ((6 : Int32), 106), ((7 : Int32), 114), ((8 : Int32), 119)], [some (v_r (some 0)), some (v_i x1), some (v_r ((h_r h ((h_r h 0 5).getD 0) 0)))], [], h)) rfl).trans ?_
  simp only [e0, e1, Option.getD_some, am_all]
  all_goals exact cj_d (la_is Lh (o := 0) rfl) (cj_d (la_is Lh (o := 10) rfl) ((by simp only [am_sw, am_Y_if, am_all])))

theorem b_X11_count_127 {d : Nat} {Q : Option am_V → am_H → Prop} (h : am_H) (l0 l1 l2 : Option am_V) : ex_ d 228 127 [l0, l1, l2] [] h Q ↔ Q (some (v_i (-1 : Int32))) h := by
  unfold ex_
  refine (am_Y_go 1 (ok := []) (g := (128, [l0, l1, l2], [v_i (-1 : Int32)], h)) rfl).trans ?_
  all_goals exact ((am_Y_ret rfl rfl rfl).trans (am_r0))

theorem b_X11_count_60 {d : Nat} {Q : Option am_V → am_H → Prop} (h : am_H) (x2 : Option Nat) (l0 l1 : Option am_V) : ex_ d 228 60 [l0, l1, some (v_r x2)] [] h Q ↔ ex_ d 228 61 [l0, l1, some (v_r x2)] [v_r x2] h Q := by
  unfold ex_
  refine (am_Y_go 1 (ok := []) (g := (61, [l0, l1, some (v_r x2)], [v_r x2], h)) rfl).trans ?_
  all_goals exact Iff.rfl

theorem b_X11_count_65 {d : Nat} {Q : Option am_V → am_H → Prop} (h : am_H) (x2 : Option Nat) (l0 l1 : Option am_V) : ex_ d 228 65 [l0, l1, some (v_r x2)] [] h Q ↔ ex_ d 228 66 [l0, l1, some (v_r x2)] [v_r x2] h Q := by
  unfold ex_
  refine (am_Y_go 1 (ok := []) (g := (66, [l0, l1, some (v_r x2)], [v_r x2], h)) rfl).trans ?_
  all_goals exact Iff.rfl

theorem b_X11_count_70 {d : Nat} {Q : Option am_V → am_H → Prop} (h : am_H) (x2 : Option Nat) (l0 l1 : Option am_V) : ex_ d 228 70 [l0, l1, some (v_r x2)] [] h Q ↔ ex_ d 228 71 [l0, l1, some (v_r x2)] [v_r x2] h Q := by
  unfold ex_
  refine (am_Y_go 1 (ok := []) (g := (71, [l0, l1, some (v_r x2)], [v_r x2], h)) rfl).trans ?_
  all_goals exact Iff.rfl

theorem b_X11_count_75 {d : Nat} {Q : Option am_V → am_H → Prop} (h : am_H) (x2 : Option Nat) (l0 l1 : Option am_V) : ex_ d 228 75 [l0, l1, some (v_r x2)] [] h Q ↔ ex_ d 228 76 [l0, l1, some (v_r x2)] [v_r x2] h Q := by
  unfold ex_
  refine (am_Y_go 1 (ok := []) (g := (76, [l0, l1, some (v_r x2)], [v_r x2], h)) rfl).trans ?_
  all_goals exact Iff.rfl

theorem b_X11_count_80 {d : Nat} {Q : Option am_V → am_H → Prop} (h : am_H) (x2 : Option Nat) (l1 : Option am_V) (Lh : Lay h) : ex_ d 228 80 [some (v_r (some 0)), l1, some (v_r x2)] [] h Q ↔ ex_ d 228 86 [some (v_r (some 0)), l1, some (v_r x2)] [v_r x2, v_i (0 : Int32), v_r (some 15)] h Q := by
  have e0 : h_r h 0 6 = some 15 := la_r Lh (q := (0, 6, 15)) (by decide)
  unfold ex_
  refine (am_Y_go 4 (ok := [am_is h (some 0) 11]) (g := (86, [some (v_r (some 0)), l1, some (v_r x2)], [v_r x2, v_i (0 : Int32), v_r ((h_r h 0 6))], h)) rfl).trans ?_
  simp only [e0, Option.getD_some, am_all]
  all_goals exact cj_d (la_is Lh (o := 0) rfl) (Iff.rfl)

theorem b_X11_count_93 {d : Nat} {Q : Option am_V → am_H → Prop} (h : am_H) (x2 : Option Nat) (l1 : Option am_V) (Lh : Lay h) : ex_ d 228 93 [some (v_r (some 0)), l1, some (v_r x2)] [] h Q ↔ ex_ d 228 99 [some (v_r (some 0)), l1, some (v_r x2)] [v_r x2, v_i (1 : Int32), v_r (some 15)] h Q := by
  have e0 : h_r h 0 6 = some 15 := la_r Lh (q := (0, 6, 15)) (by decide)
  unfold ex_
  refine (am_Y_go 4 (ok := [am_is h (some 0) 11]) (g := (99, [some (v_r (some 0)), l1, some (v_r x2)], [v_r x2, v_i (1 : Int32), v_r ((h_r h 0 6))], h)) rfl).trans ?_
  simp only [e0, Option.getD_some, am_all]
  all_goals exact cj_d (la_is Lh (o := 0) rfl) (Iff.rfl)

theorem b_X11_count_106 {d : Nat} {Q : Option am_V → am_H → Prop} (h : am_H) (l1 l2 : Option am_V) (Lh : Lay h) : ex_ d 228 106 [some (v_r (some 0)), l1, l2] [] h Q ↔ Q (some (v_i (h_i h 25 2))) h := by
  have e0 : h_r h 0 7 = some 25 := la_r Lh (q := (0, 7, 25)) (by decide)
  unfold ex_
  refine (am_Y_go 3 (ok := [am_is h (some 0) 11, am_is h ((h_r h 0 7)) 7]) (g := (113, [some (v_r (some 0)), l1, l2], [v_i (h_i h ((h_r h 0 7).getD 0) 2)], h)) rfl).trans ?_
  simp only [e0, Option.getD_some, am_all]
  all_goals exact cj_d (la_is Lh (o := 0) rfl) (cj_d (la_is Lh (o := 25) rfl) (((am_Y_ret rfl rfl rfl).trans (am_r0))))

theorem b_X11_count_114 {d : Nat} {Q : Option am_V → am_H → Prop} (h : am_H) (l1 l2 : Option am_V) (Lh : Lay h) : ex_ d 228 114 [some (v_r (some 0)), l1, l2] [] h Q ↔ Q (some (v_i (h_i h 0 1))) h := by
  unfold ex_
  refine (am_Y_go 2 (ok := [am_is h (some 0) 11]) (g := (118, [some (v_r (some 0)), l1, l2], [v_i (h_i h 0 1)], h)) rfl).trans ?_
  simp only [am_all]
  all_goals exact cj_d (la_is Lh (o := 0) rfl) (((am_Y_ret rfl rfl rfl).trans (am_r0)))

theorem b_X11_count_119 {d : Nat} {Q : Option am_V → am_H → Prop} (h : am_H) (l1 l2 : Option am_V) (Lh : Lay h) : ex_ d 228 119 [some (v_r (some 0)), l1, l2] [] h Q ↔ Q (some (v_i (h_i h 10 3))) h := by
  have e0 : h_r h 0 5 = some 10 := la_r Lh (q := (0, 5, 10)) (by decide)
  unfold ex_
  refine (am_Y_go 3 (ok := [am_is h (some 0) 11, am_is h ((h_r h 0 5)) 2]) (g := (126, [some (v_r (some 0)), l1, l2], [v_i (h_i h ((h_r h 0 5).getD 0) 3)], h)) rfl).trans ?_
  simp only [e0, Option.getD_some, am_all]
  all_goals exact cj_d (la_is Lh (o := 0) rfl) (cj_d (la_is Lh (o := 10) rfl) (((am_Y_ret rfl rfl rfl).trans (am_r0))))

theorem b_X11_count_61 {d : Nat} {Q : Option am_V → am_H → Prop} (h : am_H) (t0 : Nat) (l0 l1 l2 : Option am_V) (F_t0 : y_Facts h t0) : ex_ d 228 61 [l0, l1, l2] [v_r (some t0)] h Q ↔ Q (some (v_i (h_i h t0 0))) h := by
  unfold ex_
  refine (am_Y_go 1 (ok := [am_is h (some t0) 1]) (g := (64, [l0, l1, l2], [v_i (h_i h t0 0)], h)) rfl).trans ?_
  simp only [am_all]
  all_goals exact cj_d (lr_is (F_t0.1 0 rfl)) (((am_Y_ret rfl rfl rfl).trans (am_r0)))

theorem b_X11_count_66 {d : Nat} {Q : Option am_V → am_H → Prop} (h : am_H) (t0 : Nat) (l0 l1 l2 : Option am_V) (F_t0 : y_Facts h t0) : ex_ (d + 1) 228 66 [l0, l1, l2] [v_r (some t0)] h Q ↔ ex_ d 33 0 [some (v_r (some t0)), none, none] [] h (fun r h' => ex_ (d + 1) 228 69 [l0, l1, l2] (r.toList ++ []) h' Q) := by
  unfold ex_
  exact ((am_Y_call (j := 33) (na := 1) (ci := 1) (fl := 0) rfl rfl rfl).trans (cj_d ⟨⟨Nat.le_of_ble_eq_true rfl, Nat.le_of_ble_eq_true rfl, Nat.le_of_ble_eq_true rfl, rfl⟩, Or.inr (Or.inr (show (1 : Nat) < 20 ∧ am_is h (some t0) 1 from ⟨by decide, (lr_is (F_t0.1 0 rfl))⟩))⟩ Iff.rfl))

theorem b_X11_count_71 {d : Nat} {Q : Option am_V → am_H → Prop} (h : am_H) (t0 : Nat) (l0 l1 l2 : Option am_V) (F_t0 : y_Facts h t0) : ex_ (d + 1) 228 71 [l0, l1, l2] [v_r (some t0)] h Q ↔ ex_ d 34 0 [some (v_r (some t0)), none, none, none, none, none] [] h (fun r h' => ex_ (d + 1) 228 74 [l0, l1, l2] (r.toList ++ []) h' Q) := by
  unfold ex_
  exact ((am_Y_call (j := 34) (na := 1) (ci := 1) (fl := 0) rfl rfl rfl).trans (cj_d ⟨⟨Nat.le_of_ble_eq_true rfl, Nat.le_of_ble_eq_true rfl, Nat.le_of_ble_eq_true rfl, rfl⟩, Or.inr (Or.inr (show (1 : Nat) < 20 ∧ am_is h (some t0) 1 from ⟨by decide, (lr_is (F_t0.1 0 rfl))⟩))⟩ Iff.rfl))

theorem b_X11_count_76 {d : Nat} {Q : Option am_V → am_H → Prop} (h : am_H) (t0 : Nat) (l0 l1 l2 : Option am_V) (F_t0 : y_Facts h t0) : ex_ d 228 76 [l0, l1, l2] [v_r (some t0)] h Q ↔ Q (some (v_i (h_i h t0 1))) h := by
  unfold ex_
  refine (am_Y_go 1 (ok := [am_is h (some t0) 1]) (g := (79, [l0, l1, l2], [v_i (h_i h t0 1)], h)) rfl).trans ?_
  simp only [am_all]
  all_goals exact cj_d (lr_is (F_t0.1 0 rfl)) (((am_Y_ret rfl rfl rfl).trans (am_r0)))

theorem b_X11_count_86 {d : Nat} {Q : Option am_V → am_H → Prop} (h : am_H) (t0 : Nat) (s1 : Int32) (t2 : Nat) (l0 l1 l2 : Option am_V) (F_t0 : y_Facts h t0) (F_t2 : y_Orders h t2) : ex_ (d + 1) 228 86 [l0, l1, l2] [v_r (some t0), v_i s1, v_r (some t2)] h Q ↔ ex_ d 73 0 [some (v_r (some t2)), some (v_i s1), some (v_i (h_i h t0 0)), none, none] [] h (fun r h' => ex_ (d + 1) 228 92 [l0, l1, l2] (r.toList ++ []) h' Q) := by
  unfold ex_
  refine (am_Y_go 1 (ok := [am_is h (some t0) 1]) (g := (89, [l0, l1, l2], [v_i (h_i h t0 0), v_i s1, v_r (some t2)], h)) rfl).trans ?_
  simp only [am_all]
  all_goals exact cj_d (lr_is (F_t0.1 0 rfl)) (((am_Y_call (j := 73) (na := 3) (ci := 6) (fl := 0) rfl rfl rfl).trans (cj_d ⟨⟨Nat.le_of_ble_eq_true rfl, Nat.le_of_ble_eq_true rfl, Nat.le_of_ble_eq_true rfl, rfl⟩, Or.inr (Or.inr (show (6 : Nat) < 20 ∧ am_is h (some t2) 6 from ⟨by decide, (lr_is (F_t2.1 0 rfl))⟩))⟩ Iff.rfl)))

theorem b_X11_count_99 {d : Nat} {Q : Option am_V → am_H → Prop} (h : am_H) (t0 : Nat) (s1 : Int32) (t2 : Nat) (l0 l1 l2 : Option am_V) (F_t0 : y_Facts h t0) (F_t2 : y_Orders h t2) : ex_ (d + 1) 228 99 [l0, l1, l2] [v_r (some t0), v_i s1, v_r (some t2)] h Q ↔ ex_ d 73 0 [some (v_r (some t2)), some (v_i s1), some (v_i (h_i h t0 0)), none, none] [] h (fun r h' => ex_ (d + 1) 228 105 [l0, l1, l2] (r.toList ++ []) h' Q) := by
  unfold ex_
  refine (am_Y_go 1 (ok := [am_is h (some t0) 1]) (g := (102, [l0, l1, l2], [v_i (h_i h t0 0), v_i s1, v_r (some t2)], h)) rfl).trans ?_
  simp only [am_all]
  all_goals exact cj_d (lr_is (F_t0.1 0 rfl)) (((am_Y_call (j := 73) (na := 3) (ci := 6) (fl := 0) rfl rfl rfl).trans (cj_d ⟨⟨Nat.le_of_ble_eq_true rfl, Nat.le_of_ble_eq_true rfl, Nat.le_of_ble_eq_true rfl, rfl⟩, Or.inr (Or.inr (show (6 : Nat) < 20 ∧ am_is h (some t2) 6 from ⟨by decide, (lr_is (F_t2.1 0 rfl))⟩))⟩ Iff.rfl)))

theorem b_X11_count_69 {d : Nat} {Q : Option am_V → am_H → Prop} (h : am_H) (s0 : Int32) (l0 l1 l2 : Option am_V) : ex_ d 228 69 [l0, l1, l2] [v_i s0] h Q ↔ Q (some (v_i s0)) h := by
  unfold ex_
  exact ((am_Y_ret rfl rfl rfl).trans (am_r0))

theorem b_X11_count_74 {d : Nat} {Q : Option am_V → am_H → Prop} (h : am_H) (s0 : Int32) (l0 l1 l2 : Option am_V) : ex_ d 228 74 [l0, l1, l2] [v_i s0] h Q ↔ Q (some (v_i s0)) h := by
  unfold ex_
  exact ((am_Y_ret rfl rfl rfl).trans (am_r0))

theorem b_X11_count_92 {d : Nat} {Q : Option am_V → am_H → Prop} (h : am_H) (s0 : Int32) (l0 l1 l2 : Option am_V) : ex_ d 228 92 [l0, l1, l2] [v_i s0] h Q ↔ Q (some (v_i s0)) h := by
  unfold ex_
  exact ((am_Y_ret rfl rfl rfl).trans (am_r0))

theorem b_X11_count_105 {d : Nat} {Q : Option am_V → am_H → Prop} (h : am_H) (s0 : Int32) (l0 l1 l2 : Option am_V) : ex_ d 228 105 [l0, l1, l2] [v_i s0] h Q ↔ Q (some (v_i s0)) h := by
  unfold ex_
  exact ((am_Y_ret rfl rfl rfl).trans (am_r0))
