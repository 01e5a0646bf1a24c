theorem b_X8_byteAt_0 {d : Nat} {Q : Option am_V → am_H → Prop} (h : am_H) (l1 : Option am_V) (Lh : Lay h) : ex_ d 80 0 [some (v_r (some 2)), l1] [] h Q ↔ if (h_r h 2 0) = none then ex_ d 80 41 [some (v_r (some 2)), l1] [] h Q else ex_ d 80 7 [some (v_r (some 2)), l1] [] h Q := by
  unfold ex_
  refine (am_Y_go 3 (ok := [am_is h (some 2) 8]) (g := (if (h_r h 2 0) = none then 41 else 7, [some (v_r (some 2)), l1], [], h)) rfl).trans ?_
  simp only [am_all]
  all_goals exact cj_d (la_is Lh (o := 2) rfl) (am_Y_if)

theorem b_X8_byteAt_41 {d : Nat} {Q : Option am_V → am_H → Prop} (h : am_H) (l0 l1 : Option am_V) : ex_ d 80 41 [l0, l1] [] h Q ↔ Q (some (v_i (0 : Int32))) h := by
  unfold ex_
  refine (am_Y_go 1 (ok := []) (g := (42, [l0, l1], [v_i (0 : Int32)], h)) rfl).trans ?_
  all_goals exact ((am_Y_ret rfl rfl rfl).trans (am_r0))

theorem b_X8_byteAt_7 {d : Nat} {Q : Option am_V → am_H → Prop} (h : am_H) (x1 : Int32) (l0 : Option am_V) : ex_ d 80 7 [l0, some (v_i x1)] [] h Q ↔ if x1 < 0 then ex_ d 80 41 [l0, some (v_i x1)] [] h Q else ex_ d 80 11 [l0, some (v_i x1)] [] h Q := by
  unfold ex_
  refine (am_Y_go 2 (ok := []) (g := (if x1 < 0 then 41 else 11, [l0, some (v_i x1)], [], h)) rfl).trans ?_
  all_goals exact am_Y_if

theorem b_X8_byteAt_11 {d : Nat} {Q : Option am_V → am_H → Prop} (h : am_H) (x1 : Int32) (Lh : Lay h) : ex_ d 80 11 [some (v_r (some 2)), some (v_i x1)] [] h Q ↔ if (h_i h 2 1) ≤ x1 then ex_ d 80 41 [some (v_r (some 2)), some (v_i x1)] [] h Q else ex_ d 80 19 [some (v_r (some 2)), some (v_i x1)] [] h Q := by
  unfold ex_
  refine (am_Y_go 4 (ok := [am_is h (some 2) 8]) (g := (if (h_i h 2 1) ≤ x1 then 41 else 19, [some (v_r (some 2)), some (v_i x1)], [], h)) rfl).trans ?_
  simp only [am_all]
  all_goals exact cj_d (la_is Lh (o := 2) rfl) (am_Y_if)

theorem b_X8_byteAt_19 {d : Nat} {Q : Option am_V → am_H → Prop} (h : am_H) (x1 : Int32) (Lh : Lay h) : ex_ d 80 19 [some (v_r (some 2)), some (v_i x1)] [] h Q ↔ ex_ d 80 24 [some (v_r (some 2)), some (v_i x1)] [v_r (h_r h 2 0), v_i x1] h Q := by
  unfold ex_
  refine (am_Y_go 3 (ok := [am_is h (some 2) 8]) (g := (24, [some (v_r (some 2)), some (v_i x1)], [v_r (h_r h 2 0), v_i x1], h)) rfl).trans ?_
  simp only [am_all]
  all_goals exact cj_d (la_is Lh (o := 2) rfl) (Iff.rfl)

theorem b_X8_byteAt_24 {d : Nat} {Q : Option am_V → am_H → Prop} (h : am_H) (t0 : Nat) (s1 : Int32) (l0 l1 : Option am_V) {n_t0 : Nat} (A_t0 : y_arr h t0 20 n_t0) : ex_ d 80 24 [l0, l1] [v_r (some t0), v_i s1] h Q ↔ if (nI n_t0) ≤ s1 then ex_ d 80 41 [l0, l1] [] h Q else ex_ d 80 28 [l0, l1] [] h Q := by
  have e0 : h_l h t0 = n_t0 := (lb_l A_t0)
  unfold ex_
  refine (am_Y_go 2 (ok := [am_an h (some t0)]) (g := (if (nI (h_l h t0)) ≤ s1 then 41 else 28, [l0, l1], [], h)) rfl).trans ?_
  simp only [e0, Option.getD_some, am_all]
  all_goals exact cj_d (lb_an20 A_t0) (am_Y_if)

theorem b_X8_byteAt_28 {d : Nat} {Q : Option am_V → am_H → Prop} (h : am_H) (x1 : Int32) (Lh : Lay h) : ex_ d 80 28 [some (v_r (some 2)), some (v_i x1)] [] h Q ↔ ex_ d 80 33 [some (v_r (some 2)), some (v_i x1)] [v_i x1, v_r (h_r h 2 0)] h Q := by
  unfold ex_
  refine (am_Y_go 3 (ok := [am_is h (some 2) 8]) (g := (33, [some (v_r (some 2)), some (v_i x1)], [v_i x1, v_r (h_r h 2 0)], h)) rfl).trans ?_
  simp only [am_all]
  all_goals exact cj_d (la_is Lh (o := 2) rfl) (Iff.rfl)

theorem b_X8_byteAt_33 {d : Nat} {Q : Option am_V → am_H → Prop} (h : am_H) (s0 : Int32) (t1 : Nat) (l0 l1 : Option am_V) {n_t1 : Nat} (A_t1 : y_arr h t1 21 n_t1) : ex_ d 80 33 [l0, l1] [v_i s0, v_r (some t1)] h Q ↔ vp_in s0 n_t1 ∧ Q (some (v_i ((h_i h t1 (Int32.toNatClampNeg s0)) &&& (255 : Int32)))) h := by
  unfold ex_
  refine (am_Y_go 4 (ok := [am_ar h (some t1) 21 s0]) (g := (42, [l0, l1], [v_i ((h_i h t1 (Int32.toNatClampNeg s0)) &&& (255 : Int32))], h)) rfl).trans ?_
  simp only [am_all]
  all_goals exact cj_k (lb_ar A_t1) (((am_Y_ret rfl rfl rfl).trans (am_r0)))

theorem b_X8_isLetter_0 {d : Nat} {Q : Option am_V → am_H → Prop} (h : am_H) (x0 : Int32) : ex_ d 81 0 [some (v_i x0)] [] h Q ↔ if x0 < (97 : Int32) then ex_ d 81 16 [some (v_i x0)] [] h Q else ex_ d 81 6 [some (v_i x0)] [] h Q := by
  unfold ex_
  refine (am_Y_go 3 (ok := []) (g := (if x0 < (97 : Int32) then 16 else 6, [some (v_i x0)], [], h)) rfl).trans ?_
  all_goals exact am_Y_if

theorem b_X8_isLetter_16 {d : Nat} {Q : Option am_V → am_H → Prop} (h : am_H) (l0 : Option am_V) : ex_ d 81 16 [l0] [] h Q ↔ Q (some (v_i (0 : Int32))) h := by
  unfold ex_
  refine (am_Y_go 1 (ok := []) (g := (17, [l0], [v_i (0 : Int32)], h)) rfl).trans ?_
  all_goals exact ((am_Y_ret rfl rfl rfl).trans (am_rz (show am_fit 1 0 from Or.inl rfl)))

theorem b_X8_isLetter_6 {d : Nat} {Q : Option am_V → am_H → Prop} (h : am_H) (x0 : Int32) : ex_ d 81 6 [some (v_i x0)] [] h Q ↔ if (122 : Int32) < x0 then ex_ d 81 16 [some (v_i x0)] [] h Q else ex_ d 81 12 [some (v_i x0)] [] h Q := by
  unfold ex_
  refine (am_Y_go 3 (ok := []) (g := (if (122 : Int32) < x0 then 16 else 12, [some (v_i x0)], [], h)) rfl).trans ?_
  all_goals exact am_Y_if

theorem b_X8_isLetter_12 {d : Nat} {Q : Option am_V → am_H → Prop} (h : am_H) (l0 : Option am_V) : ex_ d 81 12 [l0] [] h Q ↔ Q (some (v_i (1 : Int32))) h := by
  unfold ex_
  refine (am_Y_go 2 (ok := []) (g := (17, [l0], [v_i (1 : Int32)], h)) rfl).trans ?_
  all_goals exact ((am_Y_ret rfl rfl rfl).trans (am_rz (show am_fit 1 1 from Or.inr rfl)))

theorem b_X8_isDigit_0 {d : Nat} {Q : Option am_V → am_H → Prop} (h : am_H) (x0 : Int32) : ex_ d 82 0 [some (v_i x0)] [] h Q ↔ if x0 < (48 : Int32) then ex_ d 82 16 [some (v_i x0)] [] h Q else ex_ d 82 6 [some (v_i x0)] [] h Q := by
  unfold ex_
  refine (am_Y_go 3 (ok := []) (g := (if x0 < (48 : Int32) then 16 else 6, [some (v_i x0)], [], h)) rfl).trans ?_
  all_goals exact am_Y_if

theorem b_X8_isDigit_16 {d : Nat} {Q : Option am_V → am_H → Prop} (h : am_H) (l0 : Option am_V) : ex_ d 82 16 [l0] [] h Q ↔ Q (some (v_i (0 : Int32))) h := by
  unfold ex_
  refine (am_Y_go 1 (ok := []) (g := (17, [l0], [v_i (0 : Int32)], h)) rfl).trans ?_
  all_goals exact ((am_Y_ret rfl rfl rfl).trans (am_rz (show am_fit 1 0 from Or.inl rfl)))

theorem b_X8_isDigit_6 {d : Nat} {Q : Option am_V → am_H → Prop} (h : am_H) (x0 : Int32) : ex_ d 82 6 [some (v_i x0)] [] h Q ↔ if (57 : Int32) < x0 then ex_ d 82 16 [some (v_i x0)] [] h Q else ex_ d 82 12 [some (v_i x0)] [] h Q := by
  unfold ex_
  refine (am_Y_go 3 (ok := []) (g := (if (57 : Int32) < x0 then 16 else 12, [some (v_i x0)], [], h)) rfl).trans ?_
  all_goals exact am_Y_if

theorem b_X8_isDigit_12 {d : Nat} {Q : Option am_V → am_H → Prop} (h : am_H) (l0 : Option am_V) : ex_ d 82 12 [l0] [] h Q ↔ Q (some (v_i (1 : Int32))) h := by
  unfold ex_
  refine (am_Y_go 2 (ok := []) (g := (17, [l0], [v_i (1 : Int32)], h)) rfl).trans ?_
  all_goals exact ((am_Y_ret rfl rfl rfl).trans (am_rz (show am_fit 1 1 from Or.inr rfl)))

theorem b_X8_tokenEnd_0 {d : Nat} {Q : Option am_V → am_H → Prop} (h : am_H) (x1 : Int32) (l2 l3 : Option am_V) (Lh : Lay h) : ex_ (d + 1) 83 0 [some (v_r (some 2)), some (v_i x1), l2, l3] [] h Q ↔ ex_ d 80 0 [some (v_r (some 2)), some (v_i x1)] [] h (fun r h' => ex_ (d + 1) 83 5 [some (v_r (some 2)), some (v_i x1), l2, l3] (r.toList ++ []) h' Q) := by
  unfold ex_
  refine (am_Y_go 2 (ok := []) (g := (2, [some (v_r (some 2)), some (v_i x1), l2, l3], [v_i x1, v_r (some 2)], h)) rfl).trans ?_
  all_goals exact ((am_Y_call (j := 80) (na := 2) (ci := 8) (fl := 0) rfl rfl rfl).trans (cj_d ⟨⟨Nat.le_of_ble_eq_true rfl, Nat.le_of_ble_eq_true rfl, Nat.le_of_ble_eq_true rfl, rfl⟩, Or.inr (Or.inr (show (8 : Nat) < 20 ∧ am_is h (some 2) 8 from ⟨by decide, (la_is Lh (o := 2) rfl)⟩))⟩ Iff.rfl))

theorem b_X8_tokenEnd_5 {d : Nat} {Q : Option am_V → am_H → Prop} (h : am_H) (s0 : Int32) (l0 l1 l2 l3 : Option am_V) : ex_ d 83 5 [l0, l1, l2, l3] [v_i s0] h Q ↔ if s0 = (32 : Int32) then ex_ d 83 18 [l0, l1, some (v_i s0), l3] [] h Q else ex_ d 83 12 [l0, l1, some (v_i s0), l3] [] h Q := by
  unfold ex_
  refine (am_Y_go 4 (ok := []) (g := (if s0 = (32 : Int32) then 18 else 12, [l0, l1, some (v_i s0), l3], [], h)) rfl).trans ?_
  all_goals exact am_Y_if

theorem b_X8_tokenEnd_18 {d : Nat} {Q : Option am_V → am_H → Prop} (h : am_H) (x1 : Int32) (l0 l2 l3 : Option am_V) : ex_ d 83 18 [l0, some (v_i x1), l2, l3] [] h Q ↔ Q (some (v_i x1)) h := by
  unfold ex_
  refine (am_Y_go 1 (ok := []) (g := (19, [l0, some (v_i x1), l2, l3], [v_i x1], h)) rfl).trans ?_
  all_goals exact ((am_Y_ret rfl rfl rfl).trans (am_r0))

theorem b_X8_tokenEnd_12 {d : Nat} {Q : Option am_V → am_H → Prop} (h : am_H) (x2 : Int32) (l0 l1 l3 : Option am_V) : ex_ d 83 12 [l0, l1, some (v_i x2), l3] [] h Q ↔ if ¬ x2 = (10 : Int32) then ex_ d 83 20 [l0, l1, some (v_i x2), l3] [] h Q else ex_ d 83 18 [l0, l1, some (v_i x2), l3] [] h Q := by
  unfold ex_
  refine (am_Y_go 3 (ok := []) (g := (if ¬ x2 = (10 : Int32) then 20 else 18, [l0, l1, some (v_i x2), l3], [], h)) rfl).trans ?_
  all_goals exact am_Y_if

theorem b_X8_tokenEnd_20 {d : Nat} {Q : Option am_V → am_H → Prop} (h : am_H) (x1 : Int32) (l0 l2 l3 : Option am_V) : ex_ d 83 20 [l0, some (v_i x1), l2, l3] [] h Q ↔ ex_ d 83 24 [l0, some (v_i x1), l2, some (v_i (x1 + (1 : Int32)))] [] h Q := by
  unfold ex_
  refine (am_Y_go 4 (ok := []) (g := (24, [l0, some (v_i x1), l2, some (v_i (x1 + (1 : Int32)))], [], h)) rfl).trans ?_
  all_goals exact Iff.rfl

theorem b_X8_tokenEnd_24 {d : Nat} {Q : Option am_V → am_H → Prop} (h : am_H) (x3 : Int32) (l1 l2 : Option am_V) (Lh : Lay h) : ex_ d 83 24 [some (v_r (some 2)), l1, l2, some (v_i x3)] [] h Q ↔ if (h_i h 2 1) ≤ x3 then ex_ d 83 74 [some (v_r (some 2)), l1, l2, some (v_i x3)] [] h Q else ex_ d 83 32 [some (v_r (some 2)), l1, l2, some (v_i x3)] [] h Q := by
  unfold ex_
  refine (am_Y_go 4 (ok := [am_is h (some 2) 8]) (g := (if (h_i h 2 1) ≤ x3 then 74 else 32, [some (v_r (some 2)), l1, l2, some (v_i x3)], [], h)) rfl).trans ?_
  simp only [am_all]
  all_goals exact cj_d (la_is Lh (o := 2) rfl) (am_Y_if)

theorem b_X8_tokenEnd_74 {d : Nat} {Q : Option am_V → am_H → Prop} (h : am_H) (x3 : Int32) (l0 l1 l2 : Option am_V) : ex_ d 83 74 [l0, l1, l2, some (v_i x3)] [] h Q ↔ Q (some (v_i x3)) h := by
  unfold ex_
  refine (am_Y_go 1 (ok := []) (g := (75, [l0, l1, l2, some (v_i x3)], [v_i x3], h)) rfl).trans ?_
  all_goals exact ((am_Y_ret rfl rfl rfl).trans (am_r0))

theorem b_X8_tokenEnd_32 {d : Nat} {Q : Option am_V → am_H → Prop} (h : am_H) (x2 : Int32) (l0 l1 l3 : Option am_V) : ex_ (d + 1) 83 32 [l0, l1, some (v_i x2), l3] [] h Q ↔ ex_ d 81 0 [some (v_i x2)] [] h (fun r h' => ex_ (d + 1) 83 36 [l0, l1, some (v_i x2), l3] (r.toList ++ []) h' Q) := by
  unfold ex_
  refine (am_Y_go 1 (ok := []) (g := (33, [l0, l1, some (v_i x2), l3], [v_i x2], h)) rfl).trans ?_
  all_goals exact ((am_Y_call (j := 81) (na := 1) (ci := 8) (fl := 2) rfl rfl rfl).trans (cj_d ⟨⟨Nat.le_of_ble_eq_true rfl, Nat.le_of_ble_eq_true rfl, Nat.le_of_ble_eq_true rfl, rfl⟩, Or.inl rfl⟩ Iff.rfl))

theorem b_X8_tokenEnd_36 {d : Nat} {Q : Option am_V → am_H → Prop} (h : am_H) (s0 : Int32) (l0 l1 l2 l3 : Option am_V) : ex_ d 83 36 [l0, l1, l2, l3] [v_i s0] h Q ↔ if s0 = 0 then ex_ d 83 50 [l0, l1, l2, l3] [] h Q else ex_ d 83 39 [l0, l1, l2, l3] [] h Q := by
  unfold ex_
  refine (am_Y_go 1 (ok := []) (g := (if s0 = 0 then 50 else 39, [l0, l1, l2, l3], [], h)) rfl).trans ?_
  all_goals exact am_Y_if

theorem b_X8_tokenEnd_50 {d : Nat} {Q : Option am_V → am_H → Prop} (h : am_H) (x2 : Int32) (l0 l1 l3 : Option am_V) : ex_ (d + 1) 83 50 [l0, l1, some (v_i x2), l3] [] h Q ↔ ex_ d 82 0 [some (v_i x2)] [] h (fun r h' => ex_ (d + 1) 83 54 [l0, l1, some (v_i x2), l3] (r.toList ++ []) h' Q) := by
  unfold ex_
  refine (am_Y_go 1 (ok := []) (g := (51, [l0, l1, some (v_i x2), l3], [v_i x2], h)) rfl).trans ?_
  all_goals exact ((am_Y_call (j := 82) (na := 1) (ci := 8) (fl := 2) rfl rfl rfl).trans (cj_d ⟨⟨Nat.le_of_ble_eq_true rfl, Nat.le_of_ble_eq_true rfl, Nat.le_of_ble_eq_true rfl, rfl⟩, Or.inl rfl⟩ Iff.rfl))

theorem b_X8_tokenEnd_39 {d : Nat} {Q : Option am_V → am_H → Prop} (h : am_H) (x3 : Int32) (l1 l2 : Option am_V) (Lh : Lay h) : ex_ (d + 1) 83 39 [some (v_r (some 2)), l1, l2, some (v_i x3)] [] h Q ↔ ex_ d 80 0 [some (v_r (some 2)), some (v_i x3)] [] h (fun r h' => ex_ (d + 1) 83 44 [some (v_r (some 2)), l1, l2, some (v_i x3)] (r.toList ++ []) h' Q) := by
  unfold ex_
  refine (am_Y_go 2 (ok := []) (g := (41, [some (v_r (some 2)), l1, l2, some (v_i x3)], [v_i x3, v_r (some 2)], h)) rfl).trans ?_
  all_goals exact ((am_Y_call (j := 80) (na := 2) (ci := 8) (fl := 0) rfl rfl rfl).trans (cj_d ⟨⟨Nat.le_of_ble_eq_true rfl, Nat.le_of_ble_eq_true rfl, Nat.le_of_ble_eq_true rfl, rfl⟩, Or.inr (Or.inr (show (8 : Nat) < 20 ∧ am_is h (some 2) 8 from ⟨by decide, (la_is Lh (o := 2) rfl)⟩))⟩ Iff.rfl))

theorem b_X8_tokenEnd_54 {d : Nat} {Q : Option am_V → am_H → Prop} (h : am_H) (s0 : Int32) (l0 l1 l2 l3 : Option am_V) : ex_ d 83 54 [l0, l1, l2, l3] [v_i s0] h Q ↔ if s0 = 0 then ex_ d 83 74 [l0, l1, l2, l3] [] h Q else ex_ d 83 57 [l0, l1, l2, l3] [] h Q := by
  unfold ex_
  refine (am_Y_go 1 (ok := []) (g := (if s0 = 0 then 74 else 57, [l0, l1, l2, l3], [], h)) rfl).trans ?_
  all_goals exact am_Y_if

theorem b_X8_tokenEnd_44 {d : Nat} {Q : Option am_V → am_H → Prop} (h : am_H) (s0 : Int32) (l0 l1 l2 l3 : Option am_V) : ex_ (d + 1) 83 44 [l0, l1, l2, l3] [v_i s0] h Q ↔ ex_ d 81 0 [some (v_i s0)] [] h (fun r h' => ex_ (d + 1) 83 47 [l0, l1, l2, l3] (r.toList ++ []) h' Q) := by
  unfold ex_
  exact ((am_Y_call (j := 81) (na := 1) (ci := 8) (fl := 2) rfl rfl rfl).trans (cj_d ⟨⟨Nat.le_of_ble_eq_true rfl, Nat.le_of_ble_eq_true rfl, Nat.le_of_ble_eq_true rfl, rfl⟩, Or.inl rfl⟩ Iff.rfl))

theorem b_X8_tokenEnd_57 {d : Nat} {Q : Option am_V → am_H → Prop} (h : am_H) (x3 : Int32) (l1 l2 : Option am_V) (Lh : Lay h) : ex_ (d + 1) 83 57 [some (v_r (some 2)), l1, l2, some (v_i x3)] [] h Q ↔ ex_ d 80 0 [some (v_r (some 2)), some (v_i x3)] [] h (fun r h' => ex_ (d + 1) 83 62 [some (v_r (some 2)), l1, l2, some (v_i x3)] (r.toList ++ []) h' Q) := by
  unfold ex_
  refine (am_Y_go 2 (ok := []) (g := (59, [some (v_r (some 2)), l1, l2, some (v_i x3)], [v_i x3, v_r (some 2)], h)) rfl).trans ?_
  all_goals exact ((am_Y_call (j := 80) (na := 2) (ci := 8) (fl := 0) rfl rfl rfl).trans (cj_d ⟨⟨Nat.le_of_ble_eq_true rfl, Nat.le_of_ble_eq_true rfl, Nat.le_of_ble_eq_true rfl, rfl⟩, Or.inr (Or.inr (show (8 : Nat) < 20 ∧ am_is h (some 2) 8 from ⟨by decide, (la_is Lh (o := 2) rfl)⟩))⟩ Iff.rfl))

theorem b_X8_tokenEnd_47 {d : Nat} {Q : Option am_V → am_H → Prop} (h : am_H) (s0 : Int32) (l0 l1 l2 l3 : Option am_V) : ex_ d 83 47 [l0, l1, l2, l3] [v_i s0] h Q ↔ if ¬ s0 = 0 then ex_ d 83 68 [l0, l1, l2, l3] [] h Q else ex_ d 83 50 [l0, l1, l2, l3] [] h Q := by
  unfold ex_
  refine (am_Y_go 1 (ok := []) (g := (if ¬ s0 = 0 then 68 else 50, [l0, l1, l2, l3], [], h)) rfl).trans ?_
  all_goals exact am_Y_if

theorem b_X8_tokenEnd_62 {d : Nat} {Q : Option am_V → am_H → Prop} (h : am_H) (s0 : Int32) (l0 l1 l2 l3 : Option am_V) : ex_ (d + 1) 83 62 [l0, l1, l2, l3] [v_i s0] h Q ↔ ex_ d 82 0 [some (v_i s0)] [] h (fun r h' => ex_ (d + 1) 83 65 [l0, l1, l2, l3] (r.toList ++ []) h' Q) := by
  unfold ex_
  exact ((am_Y_call (j := 82) (na := 1) (ci := 8) (fl := 2) rfl rfl rfl).trans (cj_d ⟨⟨Nat.le_of_ble_eq_true rfl, Nat.le_of_ble_eq_true rfl, Nat.le_of_ble_eq_true rfl, rfl⟩, Or.inl rfl⟩ Iff.rfl))

theorem b_X8_tokenEnd_68 {d : Nat} {Q : Option am_V → am_H → Prop} (h : am_H) (x3 : Int32) (l0 l1 l2 : Option am_V) : ex_ d 83 68 [l0, l1, l2, some (v_i x3)] [] h Q ↔ ex_ d 83 24 [l0, l1, l2, some (v_i (x3 + (1 : Int32)))] [] h Q := by
  unfold ex_
  refine (am_Y_go 2 (ok := []) (g := (24, [l0, l1, l2, some (v_i (x3 + (1 : Int32)))], [], h)) rfl).trans ?_
  all_goals exact Iff.rfl

theorem b_X8_tokenEnd_65 {d : Nat} {Q : Option am_V → am_H → Prop} (h : am_H) (s0 : Int32) (l0 l1 l2 l3 : Option am_V) : ex_ d 83 65 [l0, l1, l2, l3] [v_i s0] h Q ↔ if s0 = 0 then ex_ d 83 74 [l0, l1, l2, l3] [] h Q else ex_ d 83 68 [l0, l1, l2, l3] [] h Q := by
  unfold ex_
  refine (am_Y_go 1 (ok := []) (g := (if s0 = 0 then 74 else 68, [l0, l1, l2, l3], [], h)) rfl).trans ?_
  all_goals exact am_Y_if

theorem b_X8_isWord_0 {d : Nat} {Q : Option am_V → am_H → Prop} (h : am_H) (x2 : Int32) (l0 l1 l3 l4 : Option am_V) : ex_ d 95 0 [l0, l1, some (v_i x2), l3, l4] [] h Q ↔ ex_ d 95 3 [l0, l1, some (v_i x2), l3, some (v_i x2)] [] h Q := by
  unfold ex_
  refine (am_Y_go 2 (ok := []) (g := (3, [l0, l1, some (v_i x2), l3, some (v_i x2)], [], h)) rfl).trans ?_
  all_goals exact Iff.rfl

theorem b_X8_isWord_3 {d : Nat} {Q : Option am_V → am_H → Prop} (h : am_H) (x4 : Int32) (x3 : Int32) (l0 l1 l2 : Option am_V) : ex_ d 95 3 [l0, l1, l2, some (v_i x3), some (v_i x4)] [] h Q ↔ if x3 ≤ x4 then ex_ d 95 47 [l0, l1, l2, some (v_i x3), some (v_i x4)] [] h Q else ex_ d 95 9 [l0, l1, l2, some (v_i x3), some (v_i x4)] [] h Q := by
  unfold ex_
  refine (am_Y_go 3 (ok := []) (g := (if x3 ≤ x4 then 47 else 9, [l0, l1, l2, some (v_i x3), some (v_i x4)], [], h)) rfl).trans ?_
  all_goals exact am_Y_if

theorem b_X8_isWord_47 {d : Nat} {Q : Option am_V → am_H → Prop} (h : am_H) (l0 l1 l2 l3 l4 : Option am_V) : ex_ d 95 47 [l0, l1, l2, l3, l4] [] h Q ↔ Q (some (v_i (1 : Int32))) h := by
  unfold ex_
  refine (am_Y_go 1 (ok := []) (g := (48, [l0, l1, l2, l3, l4], [v_i (1 : Int32)], h)) rfl).trans ?_
  all_goals exact ((am_Y_ret rfl rfl rfl).trans (am_rz (show am_fit 1 1 from Or.inr rfl)))

theorem b_X8_isWord_9 {d : Nat} {Q : Option am_V → am_H → Prop} (h : am_H) (x4 : Int32) (l0 l1 l2 l3 : Option am_V) : ex_ (d + 1) 95 9 [l0, l1, l2, l3, some (v_i x4)] [] h Q ↔ ex_ d 85 0 [some (v_x 0)] [] h (fun r h' => ex_ (d + 1) 95 16 [l0, l1, l2, l3, some (v_i x4)] (r.toList ++ [v_i x4]) h' Q) := by
  unfold ex_
  refine (am_Y_go 2 (ok := []) (g := (13, [l0, l1, l2, l3, some (v_i x4)], [v_x 0, v_i x4], h)) rfl).trans ?_
  all_goals exact ((am_Y_call (j := 85) (na := 1) (ci := 50) (fl := 0) rfl rfl rfl).trans (cj_d ⟨⟨Nat.le_of_ble_eq_true rfl, Nat.le_of_ble_eq_true rfl, Nat.le_of_ble_eq_true rfl, rfl⟩, Or.inr (Or.inr (show (50 : Nat) = 50 ∧ (0 : Nat) < 3 from ⟨rfl, by decide⟩))⟩ Iff.rfl))

theorem b_X8_isWord_16 {d : Nat} {Q : Option am_V → am_H → Prop} (h : am_H) (s0 : Int32) (s1 : Int32) (l0 l1 l2 l3 l4 : Option am_V) : ex_ d 95 16 [l0, l1, l2, l3, l4] [v_i s0, v_i s1] h Q ↔ if s0 ≤ s1 then ex_ d 95 47 [l0, l1, l2, l3, l4] [] h Q else ex_ d 95 19 [l0, l1, l2, l3, l4] [] h Q := by
  unfold ex_
  refine (am_Y_go 1 (ok := []) (g := (if s0 ≤ s1 then 47 else 19, [l0, l1, l2, l3, l4], [], h)) rfl).trans ?_
  all_goals exact am_Y_if

theorem b_X8_isWord_19 {d : Nat} {Q : Option am_V → am_H → Prop} (h : am_H) (x4 : Int32) (l0 l1 l2 l3 : Option am_V) : ex_ (d + 1) 95 19 [l0, l1, l2, l3, some (v_i x4)] [] h Q ↔ ex_ d 94 0 [some (v_x 0), some (v_i x4)] [] h (fun r h' => ex_ (d + 1) 95 26 [l0, l1, l2, l3, some (v_i x4)] (r.toList ++ []) h' Q) := by
  unfold ex_
  refine (am_Y_go 2 (ok := []) (g := (23, [l0, l1, l2, l3, some (v_i x4)], [v_i x4, v_x 0], h)) rfl).trans ?_
  all_goals exact ((am_Y_call (j := 94) (na := 2) (ci := 50) (fl := 0) rfl rfl rfl).trans (cj_d ⟨⟨Nat.le_of_ble_eq_true rfl, Nat.le_of_ble_eq_true rfl, Nat.le_of_ble_eq_true rfl, rfl⟩, Or.inr (Or.inr (show (50 : Nat) = 50 ∧ (0 : Nat) < 3 from ⟨rfl, by decide⟩))⟩ Iff.rfl))

theorem b_X8_isWord_26 {d : Nat} {Q : Option am_V → am_H → Prop} (h : am_H) (s0 : Int32) (x1 : Int32) (x4 : Int32) (x2 : Int32) (l3 : Option am_V) (Lh : Lay h) : ex_ (d + 1) 95 26 [some (v_r (some 2)), some (v_i x1), some (v_i x2), l3, some (v_i x4)] [v_i s0] h Q ↔ ex_ d 80 0 [some (v_r (some 2)), some (v_i ((x1 + x4) - x2))] [] h (fun r h' => ex_ (d + 1) 95 36 [some (v_r (some 2)), some (v_i x1), some (v_i x2), l3, some (v_i x4)] (r.toList ++ [v_i s0]) h' Q) := by
  unfold ex_
  refine (am_Y_go 6 (ok := []) (g := (33, [some (v_r (some 2)), some (v_i x1), some (v_i x2), l3, some (v_i x4)], [v_i ((x1 + x4) - x2), v_r (some 2), v_i s0], h)) rfl).trans ?_
  all_goals exact ((am_Y_call (j := 80) (na := 2) (ci := 8) (fl := 0) rfl rfl rfl).trans (cj_d ⟨⟨Nat.le_of_ble_eq_true rfl, Nat.le_of_ble_eq_true rfl, Nat.le_of_ble_eq_true rfl, rfl⟩, Or.inr (Or.inr (show (8 : Nat) < 20 ∧ am_is h (some 2) 8 from ⟨by decide, (la_is Lh (o := 2) rfl)⟩))⟩ Iff.rfl))

theorem b_X8_isWord_36 {d : Nat} {Q : Option am_V → am_H → Prop} (h : am_H) (s0 : Int32) (s1 : Int32) (l0 l1 l2 l3 l4 : Option am_V) : ex_ d 95 36 [l0, l1, l2, l3, l4] [v_i s0, v_i s1] h Q ↔ if s1 = s0 then ex_ d 95 41 [l0, l1, l2, l3, l4] [] h Q else ex_ d 95 39 [l0, l1, l2, l3, l4] [] h Q := by
  unfold ex_
  refine (am_Y_go 1 (ok := []) (g := (if s1 = s0 then 41 else 39, [l0, l1, l2, l3, l4], [], h)) rfl).trans ?_
  all_goals exact am_Y_if

theorem b_X8_isWord_41 {d : Nat} {Q : Option am_V → am_H → Prop} (h : am_H) (x4 : Int32) (l0 l1 l2 l3 : Option am_V) : ex_ d 95 41 [l0, l1, l2, l3, some (v_i x4)] [] h Q ↔ ex_ d 95 3 [l0, l1, l2, l3, some (v_i (x4 + (1 : Int32)))] [] h Q := by
  unfold ex_
  refine (am_Y_go 2 (ok := []) (g := (3, [l0, l1, l2, l3, some (v_i (x4 + (1 : Int32)))], [], h)) rfl).trans ?_
  all_goals exact Iff.rfl

theorem b_X8_isWord_39 {d : Nat} {Q : Option am_V → am_H → Prop} (h : am_H) (l0 l1 l2 l3 l4 : Option am_V) : ex_ d 95 39 [l0, l1, l2, l3, l4] [] h Q ↔ Q (some (v_i (0 : Int32))) h := by
  unfold ex_
  refine (am_Y_go 1 (ok := []) (g := (40, [l0, l1, l2, l3, l4], [v_i (0 : Int32)], h)) rfl).trans ?_
  all_goals exact ((am_Y_ret rfl rfl rfl).trans (am_rz (show am_fit 1 0 from Or.inl rfl)))

theorem b_X8_wordToken_0 {d : Nat} {Q : Option am_V → am_H → Prop} (h : am_H) (l0 l1 l2 l3 l4 l5 : Option am_V) : ex_ d 96 0 [l0, l1, l2, l3, l4, l5] [] h Q ↔ ex_ d 96 10 [l0, l1, l2, some (v_i (200 : Int32)), some (v_i (0 : Int32)), some (v_i (0 : Int32))] [] h Q := by
  unfold ex_
  refine (am_Y_go 6 (ok := []) (g := (10, [l0, l1, l2, some (v_i (200 : Int32)), some (v_i (0 : Int32)), some (v_i (0 : Int32))], [], h)) rfl).trans ?_
  all_goals exact Iff.rfl

theorem b_X8_wordToken_10 {d : Nat} {Q : Option am_V → am_H → Prop} (h : am_H) (x5 : Int32) (l0 l1 l2 l3 l4 : Option am_V) : ex_ (d + 1) 96 10 [l0, l1, l2, l3, l4, some (v_i x5)] [] h Q ↔ ex_ d 85 0 [some (v_x 0)] [] h (fun r h' => ex_ (d + 1) 96 17 [l0, l1, l2, l3, l4, some (v_i x5)] (r.toList ++ [v_i x5]) h' Q) := by
  unfold ex_
  refine (am_Y_go 2 (ok := []) (g := (14, [l0, l1, l2, l3, l4, some (v_i x5)], [v_x 0, v_i x5], h)) rfl).trans ?_
  all_goals exact ((am_Y_call (j := 85) (na := 1) (ci := 50) (fl := 0) rfl rfl rfl).trans (cj_d ⟨⟨Nat.le_of_ble_eq_true rfl, Nat.le_of_ble_eq_true rfl, Nat.le_of_ble_eq_true rfl, rfl⟩, Or.inr (Or.inr (show (50 : Nat) = 50 ∧ (0 : Nat) < 3 from ⟨rfl, by decide⟩))⟩ Iff.rfl))

theorem b_X8_wordToken_17 {d : Nat} {Q : Option am_V → am_H → Prop} (h : am_H) (s0 : Int32) (s1 : Int32) (l0 l1 l2 l3 l4 l5 : Option am_V) : ex_ d 96 17 [l0, l1, l2, l3, l4, l5] [v_i s0, v_i s1] h Q ↔ if s0 ≤ s1 then ex_ d 96 72 [l0, l1, l2, l3, l4, l5] [] h Q else ex_ d 96 20 [l0, l1, l2, l3, l4, l5] [] h Q := by
  unfold ex_
  refine (am_Y_go 1 (ok := []) (g := (if s0 ≤ s1 then 72 else 20, [l0, l1, l2, l3, l4, l5], [], h)) rfl).trans ?_
  all_goals exact am_Y_if

theorem b_X8_wordToken_72 {d : Nat} {Q : Option am_V → am_H → Prop} (h : am_H) (l0 l1 l2 l3 l4 l5 : Option am_V) : ex_ d 96 72 [l0, l1, l2, l3, l4, l5] [] h Q ↔ Q (some (v_i (3 : Int32))) h := by
  unfold ex_
  refine (am_Y_go 1 (ok := []) (g := (73, [l0, l1, l2, l3, l4, l5], [v_i (3 : Int32)], h)) rfl).trans ?_
  all_goals exact ((am_Y_ret rfl rfl rfl).trans (am_r0))

theorem b_X8_wordToken_20 {d : Nat} {Q : Option am_V → am_H → Prop} (h : am_H) (x5 : Int32) (l0 l1 l2 l3 l4 : Option am_V) : ex_ (d + 1) 96 20 [l0, l1, l2, l3, l4, some (v_i x5)] [] h Q ↔ ex_ d 94 0 [some (v_x 0), some (v_i x5)] [] h (fun r h' => ex_ (d + 1) 96 27 [l0, l1, l2, l3, l4, some (v_i x5)] (r.toList ++ []) h' Q) := by
  unfold ex_
  refine (am_Y_go 2 (ok := []) (g := (24, [l0, l1, l2, l3, l4, some (v_i x5)], [v_i x5, v_x 0], h)) rfl).trans ?_
  all_goals exact ((am_Y_call (j := 94) (na := 2) (ci := 50) (fl := 0) rfl rfl rfl).trans (cj_d ⟨⟨Nat.le_of_ble_eq_true rfl, Nat.le_of_ble_eq_true rfl, Nat.le_of_ble_eq_true rfl, rfl⟩, Or.inr (Or.inr (show (50 : Nat) = 50 ∧ (0 : Nat) < 3 from ⟨rfl, by decide⟩))⟩ Iff.rfl))

theorem b_X8_wordToken_27 {d : Nat} {Q : Option am_V → am_H → Prop} (h : am_H) (s0 : Int32) (l0 l1 l2 l3 l4 l5 : Option am_V) : ex_ d 96 27 [l0, l1, l2, l3, l4, l5] [v_i s0] h Q ↔ if ¬ s0 = (32 : Int32) then ex_ d 96 66 [l0, l1, l2, l3, l4, l5] [] h Q else ex_ d 96 32 [l0, l1, l2, l3, l4, l5] [] h Q := by
  unfold ex_
  refine (am_Y_go 2 (ok := []) (g := (if ¬ s0 = (32 : Int32) then 66 else 32, [l0, l1, l2, l3, l4, l5], [], h)) rfl).trans ?_
  all_goals exact am_Y_if

theorem b_X8_wordToken_66 {d : Nat} {Q : Option am_V → am_H → Prop} (h : am_H) (x5 : Int32) (l0 l1 l2 l3 l4 : Option am_V) : ex_ d 96 66 [l0, l1, l2, l3, l4, some (v_i x5)] [] h Q ↔ ex_ d 96 10 [l0, l1, l2, l3, l4, some (v_i (x5 + (1 : Int32)))] [] h Q := by
  unfold ex_
  refine (am_Y_go 2 (ok := []) (g := (10, [l0, l1, l2, l3, l4, some (v_i (x5 + (1 : Int32)))], [], h)) rfl).trans ?_
  all_goals exact Iff.rfl

theorem b_X8_wordToken_32 {d : Nat} {Q : Option am_V → am_H → Prop} (h : am_H) (x5 : Int32) (x4 : Int32) (x2 : Int32) (x1 : Int32) (l0 l3 : Option am_V) : ex_ d 96 32 [l0, some (v_i x1), some (v_i x2), l3, some (v_i x4), some (v_i x5)] [] h Q ↔ if ¬ (x5 - x4) = (x2 - x1) then ex_ d 96 57 [l0, some (v_i x1), some (v_i x2), l3, some (v_i x4), some (v_i x5)] [] h Q else ex_ d 96 43 [l0, some (v_i x1), some (v_i x2), l3, some (v_i x4), some (v_i x5)] [] h Q := by
  unfold ex_
  refine (am_Y_go 7 (ok := []) (g := (if ¬ (x5 - x4) = (x2 - x1) then 57 else 43, [l0, some (v_i x1), some (v_i x2), l3, some (v_i x4), some (v_i x5)], [], h)) rfl).trans ?_
  all_goals exact am_Y_if

theorem b_X8_wordToken_57 {d : Nat} {Q : Option am_V → am_H → Prop} (h : am_H) (x3 : Int32) (x5 : Int32) (l0 l1 l2 l4 : Option am_V) : ex_ d 96 57 [l0, l1, l2, some (v_i x3), l4, some (v_i x5)] [] h Q ↔ ex_ d 96 10 [l0, l1, l2, some (v_i (x3 + (1 : Int32))), some (v_i (x5 + (1 : Int32))), some (v_i (x5 + (1 : Int32)))] [] h Q := by
  unfold ex_
  refine (am_Y_go 7 (ok := []) (g := (10, [l0, l1, l2, some (v_i (x3 + (1 : Int32))), some (v_i (x5 + (1 : Int32))), some (v_i (x5 + (1 : Int32)))], [], h)) rfl).trans ?_
  all_goals exact Iff.rfl

theorem b_X8_wordToken_43 {d : Nat} {Q : Option am_V → am_H → Prop} (h : am_H) (x1 : Int32) (x4 : Int32) (x5 : Int32) (l2 l3 : Option am_V) (Lh : Lay h) : ex_ (d + 1) 96 43 [some (v_r (some 2)), some (v_i x1), l2, l3, some (v_i x4), some (v_i x5)] [] h Q ↔ ex_ d 95 0 [some (v_r (some 2)), some (v_i x1), some (v_i x4), some (v_i x5), none] [] h (fun r h' => ex_ (d + 1) 96 52 [some (v_r (some 2)), some (v_i x1), l2, l3, some (v_i x4), some (v_i x5)] (r.toList ++ []) h' Q) := by
  unfold ex_
  refine (am_Y_go 4 (ok := []) (g := (49, [some (v_r (some 2)), some (v_i x1), l2, l3, some (v_i x4), some (v_i x5)], [v_i x5, v_i x4, v_i x1, v_r (some 2)], h)) rfl).trans ?_
  all_goals exact ((am_Y_call (j := 95) (na := 4) (ci := 8) (fl := 0) rfl rfl rfl).trans (cj_d ⟨⟨Nat.le_of_ble_eq_true rfl, Nat.le_of_ble_eq_true rfl, Nat.le_of_ble_eq_true rfl, rfl⟩, Or.inr (Or.inr (show (8 : Nat) < 20 ∧ am_is h (some 2) 8 from ⟨by decide, (la_is Lh (o := 2) rfl)⟩))⟩ Iff.rfl))

theorem b_X8_wordToken_52 {d : Nat} {Q : Option am_V → am_H → Prop} (h : am_H) (s0 : Int32) (l0 l1 l2 l3 l4 l5 : Option am_V) : ex_ d 96 52 [l0, l1, l2, l3, l4, l5] [v_i s0] h Q ↔ if s0 = 0 then ex_ d 96 57 [l0, l1, l2, l3, l4, l5] [] h Q else ex_ d 96 55 [l0, l1, l2, l3, l4, l5] [] h Q := by
  unfold ex_
  refine (am_Y_go 1 (ok := []) (g := (if s0 = 0 then 57 else 55, [l0, l1, l2, l3, l4, l5], [], h)) rfl).trans ?_
  all_goals exact am_Y_if

theorem b_X8_wordToken_55 {d : Nat} {Q : Option am_V → am_H → Prop} (h : am_H) (x3 : Int32) (l0 l1 l2 l4 l5 : Option am_V) : ex_ d 96 55 [l0, l1, l2, some (v_i x3), l4, l5] [] h Q ↔ Q (some (v_i x3)) h := by
  unfold ex_
  refine (am_Y_go 1 (ok := []) (g := (56, [l0, l1, l2, some (v_i x3), l4, l5], [v_i x3], h)) rfl).trans ?_
  all_goals exact ((am_Y_ret rfl rfl rfl).trans (am_r0))

theorem b_X8_numberToken_0 {d : Nat} {Q : Option am_V → am_H → Prop} (h : am_H) (x2 : Int32) (x1 : Int32) (l0 l3 l4 : Option am_V) : ex_ d 97 0 [l0, some (v_i x1), some (v_i x2), l3, l4] [] h Q ↔ if (x2 - x1) ≤ (3 : Int32) then ex_ d 97 9 [l0, some (v_i x1), some (v_i x2), l3, l4] [] h Q else ex_ d 97 7 [l0, some (v_i x1), some (v_i x2), l3, l4] [] h Q := by
  unfold ex_
  refine (am_Y_go 5 (ok := []) (g := (if (x2 - x1) ≤ (3 : Int32) then 9 else 7, [l0, some (v_i x1), some (v_i x2), l3, l4], [], h)) rfl).trans ?_
  all_goals exact am_Y_if

theorem b_X8_numberToken_9 {d : Nat} {Q : Option am_V → am_H → Prop} (h : am_H) (x1 : Int32) (l0 l2 l3 l4 : Option am_V) : ex_ d 97 9 [l0, some (v_i x1), l2, l3, l4] [] h Q ↔ ex_ d 97 14 [l0, some (v_i x1), l2, some (v_i (0 : Int32)), some (v_i x1)] [] h Q := by
  unfold ex_
  refine (am_Y_go 4 (ok := []) (g := (14, [l0, some (v_i x1), l2, some (v_i (0 : Int32)), some (v_i x1)], [], h)) rfl).trans ?_
  all_goals exact Iff.rfl

theorem b_X8_numberToken_7 {d : Nat} {Q : Option am_V → am_H → Prop} (h : am_H) (l0 l1 l2 l3 l4 : Option am_V) : ex_ d 97 7 [l0, l1, l2, l3, l4] [] h Q ↔ Q (some (v_i (2 : Int32))) h := by
  unfold ex_
  refine (am_Y_go 1 (ok := []) (g := (8, [l0, l1, l2, l3, l4], [v_i (2 : Int32)], h)) rfl).trans ?_
  all_goals exact ((am_Y_ret rfl rfl rfl).trans (am_r0))

theorem b_X8_numberToken_14 {d : Nat} {Q : Option am_V → am_H → Prop} (h : am_H) (x4 : Int32) (x2 : Int32) (l0 l1 l3 : Option am_V) : ex_ d 97 14 [l0, l1, some (v_i x2), l3, some (v_i x4)] [] h Q ↔ if x2 ≤ x4 then ex_ d 97 41 [l0, l1, some (v_i x2), l3, some (v_i x4)] [] h Q else ex_ d 97 20 [l0, l1, some (v_i x2), l3, some (v_i x4)] [] h Q := by
  unfold ex_
  refine (am_Y_go 3 (ok := []) (g := (if x2 ≤ x4 then 41 else 20, [l0, l1, some (v_i x2), l3, some (v_i x4)], [], h)) rfl).trans ?_
  all_goals exact am_Y_if

theorem b_X8_numberToken_41 {d : Nat} {Q : Option am_V → am_H → Prop} (h : am_H) (x3 : Int32) (l0 l1 l2 l4 : Option am_V) : ex_ d 97 41 [l0, l1, l2, some (v_i x3), l4] [] h Q ↔ Q (some (v_i ((1000 : Int32) + x3))) h := by
  unfold ex_
  refine (am_Y_go 3 (ok := []) (g := (46, [l0, l1, l2, some (v_i x3), l4], [v_i ((1000 : Int32) + x3)], h)) rfl).trans ?_
  all_goals exact ((am_Y_ret rfl rfl rfl).trans (am_r0))

theorem b_X8_numberToken_20 {d : Nat} {Q : Option am_V → am_H → Prop} (h : am_H) (x3 : Int32) (x4 : Int32) (l1 l2 : Option am_V) (Lh : Lay h) : ex_ (d + 1) 97 20 [some (v_r (some 2)), l1, l2, some (v_i x3), some (v_i x4)] [] h Q ↔ ex_ d 80 0 [some (v_r (some 2)), some (v_i x4)] [] h (fun r h' => ex_ (d + 1) 97 30 [some (v_r (some 2)), l1, l2, some (v_i x3), some (v_i x4)] (r.toList ++ [v_i ((10 : Int32) * x3)]) h' Q) := by
  unfold ex_
  refine (am_Y_go 5 (ok := []) (g := (27, [some (v_r (some 2)), l1, l2, some (v_i x3), some (v_i x4)], [v_i x4, v_r (some 2), v_i ((10 : Int32) * x3)], h)) rfl).trans ?_
  all_goals exact ((am_Y_call (j := 80) (na := 2) (ci := 8) (fl := 0) rfl rfl rfl).trans (cj_d ⟨⟨Nat.le_of_ble_eq_true rfl, Nat.le_of_ble_eq_true rfl, Nat.le_of_ble_eq_true rfl, rfl⟩, Or.inr (Or.inr (show (8 : Nat) < 20 ∧ am_is h (some 2) 8 from ⟨by decide, (la_is Lh (o := 2) rfl)⟩))⟩ Iff.rfl))

theorem b_X8_numberToken_30 {d : Nat} {Q : Option am_V → am_H → Prop} (h : am_H) (s0 : Int32) (s1 : Int32) (x4 : Int32) (l0 l1 l2 l3 : Option am_V) : ex_ d 97 30 [l0, l1, l2, l3, some (v_i x4)] [v_i s0, v_i s1] h Q ↔ ex_ d 97 14 [l0, l1, l2, some (v_i ((s1 + s0) - (48 : Int32))), some (v_i (x4 + (1 : Int32)))] [] h Q := by
  unfold ex_
  refine (am_Y_go 6 (ok := []) (g := (14, [l0, l1, l2, some (v_i ((s1 + s0) - (48 : Int32))), some (v_i (x4 + (1 : Int32)))], [], h)) rfl).trans ?_
  all_goals exact Iff.rfl

theorem b_X8_tokenOf_0 {d : Nat} {Q : Option am_V → am_H → Prop} (h : am_H) (x1 : Int32) (l2 l3 : Option am_V) (Lh : Lay h) : ex_ (d + 1) 113 0 [some (v_r (some 2)), some (v_i x1), l2, l3] [] h Q ↔ ex_ d 80 0 [some (v_r (some 2)), some (v_i x1)] [] h (fun r h' => ex_ (d + 1) 113 5 [some (v_r (some 2)), some (v_i x1), l2, l3] (r.toList ++ []) h' Q) := by
  unfold ex_
  refine (am_Y_go 2 (ok := []) (g := (2, [some (v_r (some 2)), some (v_i x1), l2, l3], [v_i x1, v_r (some 2)], h)) rfl).trans ?_
  all_goals exact ((am_Y_call (j := 80) (na := 2) (ci := 8) (fl := 0) rfl rfl rfl).trans (cj_d ⟨⟨Nat.le_of_ble_eq_true rfl, Nat.le_of_ble_eq_true rfl, Nat.le_of_ble_eq_true rfl, rfl⟩, Or.inr (Or.inr (show (8 : Nat) < 20 ∧ am_is h (some 2) 8 from ⟨by decide, (la_is Lh (o := 2) rfl)⟩))⟩ Iff.rfl))

theorem b_X8_tokenOf_5 {d : Nat} {Q : Option am_V → am_H → Prop} (h : am_H) (s0 : Int32) (l0 l1 l2 l3 : Option am_V) : ex_ (d + 1) 113 5 [l0, l1, l2, l3] [v_i s0] h Q ↔ ex_ d 81 0 [some (v_i s0)] [] h (fun r h' => ex_ (d + 1) 113 10 [l0, l1, l2, some (v_i s0)] (r.toList ++ []) h' Q) := by
  unfold ex_
  refine (am_Y_go 2 (ok := []) (g := (7, [l0, l1, l2, some (v_i s0)], [v_i s0], h)) rfl).trans ?_
  all_goals exact ((am_Y_call (j := 81) (na := 1) (ci := 8) (fl := 2) rfl rfl rfl).trans (cj_d ⟨⟨Nat.le_of_ble_eq_true rfl, Nat.le_of_ble_eq_true rfl, Nat.le_of_ble_eq_true rfl, rfl⟩, Or.inl rfl⟩ Iff.rfl))

theorem b_X8_tokenOf_10 {d : Nat} {Q : Option am_V → am_H → Prop} (h : am_H) (s0 : Int32) (l0 l1 l2 l3 : Option am_V) : ex_ d 113 10 [l0, l1, l2, l3] [v_i s0] h Q ↔ if s0 = 0 then ex_ d 113 20 [l0, l1, l2, l3] [] h Q else ex_ d 113 13 [l0, l1, l2, l3] [] h Q := by
  unfold ex_
  refine (am_Y_go 1 (ok := []) (g := (if s0 = 0 then 20 else 13, [l0, l1, l2, l3], [], h)) rfl).trans ?_
  all_goals exact am_Y_if

theorem b_X8_tokenOf_20 {d : Nat} {Q : Option am_V → am_H → Prop} (h : am_H) (x3 : Int32) (l0 l1 l2 : Option am_V) : ex_ (d + 1) 113 20 [l0, l1, l2, some (v_i x3)] [] h Q ↔ ex_ d 82 0 [some (v_i x3)] [] h (fun r h' => ex_ (d + 1) 113 24 [l0, l1, l2, some (v_i x3)] (r.toList ++ []) h' Q) := by
  unfold ex_
  refine (am_Y_go 1 (ok := []) (g := (21, [l0, l1, l2, some (v_i x3)], [v_i x3], h)) rfl).trans ?_
  all_goals exact ((am_Y_call (j := 82) (na := 1) (ci := 8) (fl := 2) rfl rfl rfl).trans (cj_d ⟨⟨Nat.le_of_ble_eq_true rfl, Nat.le_of_ble_eq_true rfl, Nat.le_of_ble_eq_true rfl, rfl⟩, Or.inl rfl⟩ Iff.rfl))

theorem b_X8_tokenOf_13 {d : Nat} {Q : Option am_V → am_H → Prop} (h : am_H) (x1 : Int32) (x2 : Int32) (l3 : Option am_V) (Lh : Lay h) : ex_ (d + 1) 113 13 [some (v_r (some 2)), some (v_i x1), some (v_i x2), l3] [] h Q ↔ ex_ d 96 0 [some (v_r (some 2)), some (v_i x1), some (v_i x2), none, none, none] [] h (fun r h' => ex_ (d + 1) 113 19 [some (v_r (some 2)), some (v_i x1), some (v_i x2), l3] (r.toList ++ []) h' Q) := by
  unfold ex_
  refine (am_Y_go 3 (ok := []) (g := (16, [some (v_r (some 2)), some (v_i x1), some (v_i x2), l3], [v_i x2, v_i x1, v_r (some 2)], h)) rfl).trans ?_
  all_goals exact ((am_Y_call (j := 96) (na := 3) (ci := 8) (fl := 0) rfl rfl rfl).trans (cj_d ⟨⟨Nat.le_of_ble_eq_true rfl, Nat.le_of_ble_eq_true rfl, Nat.le_of_ble_eq_true rfl, rfl⟩, Or.inr (Or.inr (show (8 : Nat) < 20 ∧ am_is h (some 2) 8 from ⟨by decide, (la_is Lh (o := 2) rfl)⟩))⟩ Iff.rfl))

theorem b_X8_tokenOf_24 {d : Nat} {Q : Option am_V → am_H → Prop} (h : am_H) (s0 : Int32) (l0 l1 l2 l3 : Option am_V) : ex_ d 113 24 [l0, l1, l2, l3] [v_i s0] h Q ↔ if s0 = 0 then ex_ d 113 34 [l0, l1, l2, l3] [] h Q else ex_ d 113 27 [l0, l1, l2, l3] [] h Q := by
  unfold ex_
  refine (am_Y_go 1 (ok := []) (g := (if s0 = 0 then 34 else 27, [l0, l1, l2, l3], [], h)) rfl).trans ?_
  all_goals exact am_Y_if

theorem b_X8_tokenOf_19 {d : Nat} {Q : Option am_V → am_H → Prop} (h : am_H) (s0 : Int32) (l0 l1 l2 l3 : Option am_V) : ex_ d 113 19 [l0, l1, l2, l3] [v_i s0] h Q ↔ Q (some (v_i s0)) h := by
  unfold ex_
  exact ((am_Y_ret rfl rfl rfl).trans (am_r0))

theorem b_X8_tokenOf_34 {d : Nat} {Q : Option am_V → am_H → Prop} (h : am_H) (x3 : Int32) (l0 l1 l2 : Option am_V) : ex_ (d + 1) 113 34 [l0, l1, l2, some (v_i x3)] [] h Q ↔ ex_ d 112 0 [some (v_x 1), some (v_i (UInt32.toInt32 (Int32.toUInt32 x3 % 65536)))] [] h (fun r h' => ex_ (d + 1) 113 41 [l0, l1, l2, some (v_i x3)] (r.toList ++ []) h' Q) := by
  unfold ex_
  refine (am_Y_go 3 (ok := []) (g := (38, [l0, l1, l2, some (v_i x3)], [v_i (UInt32.toInt32 (Int32.toUInt32 x3 % 65536)), v_x 1], h)) rfl).trans ?_
  all_goals exact ((am_Y_call (j := 112) (na := 2) (ci := 50) (fl := 0) rfl rfl rfl).trans (cj_d ⟨⟨Nat.le_of_ble_eq_true rfl, Nat.le_of_ble_eq_true rfl, Nat.le_of_ble_eq_true rfl, rfl⟩, Or.inr (Or.inr (show (50 : Nat) = 50 ∧ (1 : Nat) < 3 from ⟨rfl, by decide⟩))⟩ Iff.rfl))

theorem b_X8_tokenOf_27 {d : Nat} {Q : Option am_V → am_H → Prop} (h : am_H) (x1 : Int32) (x2 : Int32) (l3 : Option am_V) (Lh : Lay h) : ex_ (d + 1) 113 27 [some (v_r (some 2)), some (v_i x1), some (v_i x2), l3] [] h Q ↔ ex_ d 97 0 [some (v_r (some 2)), some (v_i x1), some (v_i x2), none, none] [] h (fun r h' => ex_ (d + 1) 113 33 [some (v_r (some 2)), some (v_i x1), some (v_i x2), l3] (r.toList ++ []) h' Q) := by
  unfold ex_
  refine (am_Y_go 3 (ok := []) (g := (30, [some (v_r (some 2)), some (v_i x1), some (v_i x2), l3], [v_i x2, v_i x1, v_r (some 2)], h)) rfl).trans ?_
  all_goals exact ((am_Y_call (j := 97) (na := 3) (ci := 8) (fl := 0) rfl rfl rfl).trans (cj_d ⟨⟨Nat.le_of_ble_eq_true rfl, Nat.le_of_ble_eq_true rfl, Nat.le_of_ble_eq_true rfl, rfl⟩, Or.inr (Or.inr (show (8 : Nat) < 20 ∧ am_is h (some 2) 8 from ⟨by decide, (la_is Lh (o := 2) rfl)⟩))⟩ Iff.rfl))

theorem b_X8_tokenOf_41 {d : Nat} {Q : Option am_V → am_H → Prop} (h : am_H) (s0 : Int32) (l0 l1 l2 l3 : Option am_V) : ex_ d 113 41 [l0, l1, l2, l3] [v_i s0] h Q ↔ if s0 < 0 then ex_ d 113 48 [l0, l1, l2, l3] [] h Q else ex_ d 113 44 [l0, l1, l2, l3] [] h Q := by
  unfold ex_
  refine (am_Y_go 1 (ok := []) (g := (if s0 < 0 then 48 else 44, [l0, l1, l2, l3], [], h)) rfl).trans ?_
  all_goals exact am_Y_if

theorem b_X8_tokenOf_33 {d : Nat} {Q : Option am_V → am_H → Prop} (h : am_H) (s0 : Int32) (l0 l1 l2 l3 : Option am_V) : ex_ d 113 33 [l0, l1, l2, l3] [v_i s0] h Q ↔ Q (some (v_i s0)) h := by
  unfold ex_
  exact ((am_Y_ret rfl rfl rfl).trans (am_r0))

theorem b_X8_tokenOf_48 {d : Nat} {Q : Option am_V → am_H → Prop} (h : am_H) (l0 l1 l2 l3 : Option am_V) : ex_ d 113 48 [l0, l1, l2, l3] [] h Q ↔ Q (some (v_i (2 : Int32))) h := by
  unfold ex_
  refine (am_Y_go 1 (ok := []) (g := (49, [l0, l1, l2, l3], [v_i (2 : Int32)], h)) rfl).trans ?_
  all_goals exact ((am_Y_ret rfl rfl rfl).trans (am_r0))

theorem b_X8_tokenOf_44 {d : Nat} {Q : Option am_V → am_H → Prop} (h : am_H) (x3 : Int32) (l0 l1 l2 : Option am_V) : ex_ d 113 44 [l0, l1, l2, some (v_i x3)] [] h Q ↔ Q (some (v_i x3)) h := by
  unfold ex_
  refine (am_Y_go 2 (ok := []) (g := (49, [l0, l1, l2, some (v_i x3)], [v_i x3], h)) rfl).trans ?_
  all_goals exact ((am_Y_ret rfl rfl rfl).trans (am_r0))

theorem b_X8_splitText_0 {d : Nat} {Q : Option am_V → am_H → Prop} (h : am_H) (l1 l2 : Option am_V) (Lh : Lay h) : ex_ d 114 0 [some (v_r (some 2)), l1, l2] [] h Q ↔ ex_ d 114 7 [some (v_r (some 2)), some (v_i (0 : Int32)), l2] [] (p_i h 2 4 (0 : Int32)) Q := by
  unfold ex_
  refine (am_Y_go 5 (ok := [am_is h (some 2) 8]) (g := (7, [some (v_r (some 2)), some (v_i (0 : Int32)), l2], [], (p_i h 2 4 (0 : Int32)))) rfl).trans ?_
  simp only [am_all]
  all_goals exact cj_d (la_is Lh (o := 2) rfl) (Iff.rfl)

theorem b_X8_splitText_7 {d : Nat} {Q : Option am_V → am_H → Prop} (h : am_H) (x1 : Int32) (l2 : Option am_V) (Lh : Lay h) : ex_ d 114 7 [some (v_r (some 2)), some (v_i x1), l2] [] h Q ↔ if (h_i h 2 1) ≤ x1 then ex_ d 114 104 [some (v_r (some 2)), some (v_i x1), l2] [] h Q else ex_ d 114 15 [some (v_r (some 2)), some (v_i x1), l2] [] h Q := by
  unfold ex_
  refine (am_Y_go 4 (ok := [am_is h (some 2) 8]) (g := (if (h_i h 2 1) ≤ x1 then 104 else 15, [some (v_r (some 2)), some (v_i x1), l2], [], h)) rfl).trans ?_
  simp only [am_all]
  all_goals exact cj_d (la_is Lh (o := 2) rfl) (am_Y_if)

theorem b_X8_splitText_104 {d : Nat} {Q : Option am_V → am_H → Prop} (h : am_H) (l1 l2 : Option am_V) (Lh : Lay h) : ex_ d 114 104 [some (v_r (some 2)), l1, l2] [] h Q ↔ vp_in (h_i h 2 4) 901 ∧ vp_in (h_i (p_i h 4 (Int32.toNatClampNeg (h_i h 2 4)) (h_i h 2 1)) 2 4) 901 ∧ Q (none) (p_i (p_i (p_i h 4 (Int32.toNatClampNeg (h_i h 2 4)) (h_i h 2 1)) 3 (Int32.toNatClampNeg (h_i (p_i h 4 (Int32.toNatClampNeg (h_i h 2 4)) (h_i h 2 1)) 2 4)) (1 : Int32)) 2 4 ((h_i (p_i (p_i h 4 (Int32.toNatClampNeg (h_i h 2 4)) (h_i h 2 1)) 3 (Int32.toNatClampNeg (h_i (p_i h 4 (Int32.toNatClampNeg (h_i h 2 4)) (h_i h 2 1)) 2 4)) (1 : Int32)) 2 4) + (1 : Int32))) := by
  have e0 : h_r h 2 3 = some 4 := la_r Lh (q := (2, 3, 4)) (by decide)
  have e1 : h_r h 2 2 = some 3 := la_r Lh (q := (2, 2, 3)) (by decide)
  unfold ex_
  refine (am_Y_go 19 (ok := [am_is h (some 2) 8, am_is h (some 2) 8, am_is h (some 2) 8, am_ar h ((h_r h 2 3)) 20 (h_i h 2 4), am_is h (some 2) 8, am_is h (some 2) 8, am_ar h ((h_r h 2 2)) 20 (h_i (p_i h ((h_r h 2 3).getD 0) (Int32.toNatClampNeg (h_i h 2 4)) (h_i h 2 1)) 2 4), am_is h (some 2) 8, am_is h (some 2) 8]) (g := (137, [some (v_r (some 2)), l1, l2], [], (p_i (p_i (p_i h ((h_r h 2 3).getD 0) (Int32.toNatClampNeg (h_i h 2 4)) (h_i h 2 1)) ((h_r h 2 2).getD 0) (Int32.toNatClampNeg (h_i (p_i h ((h_r h 2 3).getD 0) (Int32.toNatClampNeg (h_i h 2 4)) (h_i h 2 1)) 2 4)) (1 : Int32)) 2 4 ((h_i (p_i (p_i h ((h_r h 2 3).getD 0) (Int32.toNatClampNeg (h_i h 2 4)) (h_i h 2 1)) ((h_r h 2 2).getD 0) (Int32.toNatClampNeg (h_i (p_i h ((h_r h 2 3).getD 0) (Int32.toNatClampNeg (h_i h 2 4)) (h_i h 2 1)) 2 4)) (1 : Int32)) 2 4) + (1 : Int32))))) rfl).trans ?_
  simp only [e0, e1, Option.getD_some, am_all]
  all_goals exact cj_d (la_is Lh (o := 2) rfl) (cj_d (la_is Lh (o := 2) rfl) (cj_d (la_is Lh (o := 2) rfl) (cj_k (la_ar Lh (o := 4) rfl) (cj_d (la_is Lh (o := 2) rfl) (cj_d (la_is Lh (o := 2) rfl) (cj_k (la_ar Lh (o := 3) rfl) (cj_d (la_is Lh (o := 2) rfl) (cj_d (la_is Lh (o := 2) rfl) (((am_Y_ret rfl rfl rfl).trans (am_rz rfl)))))))))))

theorem b_X8_splitText_15 {d : Nat} {Q : Option am_V → am_H → Prop} (h : am_H) (l1 l2 : Option am_V) (Lh : Lay h) : ex_ d 114 15 [some (v_r (some 2)), l1, l2] [] h Q ↔ if (h_i h 2 4) = 0 then ex_ d 114 37 [some (v_r (some 2)), l1, l2] [] h Q else ex_ d 114 22 [some (v_r (some 2)), l1, l2] [] h Q := by
  unfold ex_
  refine (am_Y_go 3 (ok := [am_is h (some 2) 8]) (g := (if (h_i h 2 4) = 0 then 37 else 22, [some (v_r (some 2)), l1, l2], [], h)) rfl).trans ?_
  simp only [am_all]
  all_goals exact cj_d (la_is Lh (o := 2) rfl) (am_Y_if)

theorem b_X8_splitText_37 {d : Nat} {Q : Option am_V → am_H → Prop} (h : am_H) (l1 l2 : Option am_V) (Lh : Lay h) : ex_ d 114 37 [some (v_r (some 2)), l1, l2] [] h Q ↔ if (900 : Int32) ≤ (h_i h 2 4) then ex_ d 114 104 [some (v_r (some 2)), l1, l2] [] h Q else ex_ d 114 47 [some (v_r (some 2)), l1, l2] [] h Q := by
  unfold ex_
  refine (am_Y_go 4 (ok := [am_is h (some 2) 8]) (g := (if (900 : Int32) ≤ (h_i h 2 4) then 104 else 47, [some (v_r (some 2)), l1, l2], [], h)) rfl).trans ?_
  simp only [am_all]
  all_goals exact cj_d (la_is Lh (o := 2) rfl) (am_Y_if)

theorem b_X8_splitText_22 {d : Nat} {Q : Option am_V → am_H → Prop} (h : am_H) (l1 l2 : Option am_V) (Lh : Lay h) : ex_ d 114 22 [some (v_r (some 2)), l1, l2] [] h Q ↔ vp_in ((h_i h 2 4) - (1 : Int32)) 901 ∧ (if (h_i h 3 (Int32.toNatClampNeg ((h_i h 2 4) - (1 : Int32)))) = (2 : Int32) then ex_ d 114 104 [some (v_r (some 2)), l1, l2] [] h Q else ex_ d 114 37 [some (v_r (some 2)), l1, l2] [] h Q) := by
  have e0 : h_r h 2 2 = some 3 := la_r Lh (q := (2, 2, 3)) (by decide)
  unfold ex_
  refine (am_Y_go 9 (ok := [am_is h (some 2) 8, am_is h (some 2) 8, am_ar h ((h_r h 2 2)) 20 ((h_i h 2 4) - (1 : Int32))]) (g := (if (h_i h ((h_r h 2 2).getD 0) (Int32.toNatClampNeg ((h_i h 2 4) - (1 : Int32)))) = (2 : Int32) then 104 else 37, [some (v_r (some 2)), l1, l2], [], h)) rfl).trans ?_
  simp only [e0, Option.getD_some, am_all]
  all_goals exact cj_d (la_is Lh (o := 2) rfl) (cj_d (la_is Lh (o := 2) rfl) (cj_k (la_ar Lh (o := 3) rfl) (am_Y_if)))

theorem b_X8_splitText_47 {d : Nat} {Q : Option am_V → am_H → Prop} (h : am_H) (x1 : Int32) (l2 : Option am_V) (Lh : Lay h) : ex_ (d + 1) 114 47 [some (v_r (some 2)), some (v_i x1), l2] [] h Q ↔ ex_ d 83 0 [some (v_r (some 2)), some (v_i x1), none, none] [] h (fun r h' => ex_ (d + 1) 114 52 [some (v_r (some 2)), some (v_i x1), l2] (r.toList ++ []) h' Q) := by
  unfold ex_
  refine (am_Y_go 2 (ok := []) (g := (49, [some (v_r (some 2)), some (v_i x1), l2], [v_i x1, v_r (some 2)], h)) rfl).trans ?_
  all_goals exact ((am_Y_call (j := 83) (na := 2) (ci := 8) (fl := 0) rfl rfl rfl).trans (cj_d ⟨⟨Nat.le_of_ble_eq_true rfl, Nat.le_of_ble_eq_true rfl, Nat.le_of_ble_eq_true rfl, rfl⟩, Or.inr (Or.inr (show (8 : Nat) < 20 ∧ am_is h (some 2) 8 from ⟨by decide, (la_is Lh (o := 2) rfl)⟩))⟩ Iff.rfl))

theorem b_X8_splitText_52 {d : Nat} {Q : Option am_V → am_H → Prop} (h : am_H) (s0 : Int32) (x1 : Int32) (l0 l2 : Option am_V) : ex_ d 114 52 [l0, some (v_i x1), l2] [v_i s0] h Q ↔ if s0 ≤ x1 then ex_ d 114 93 [l0, some (v_i x1), some (v_i s0)] [] h Q else ex_ d 114 58 [l0, some (v_i x1), some (v_i s0)] [] h Q := by
  unfold ex_
  refine (am_Y_go 4 (ok := []) (g := (if s0 ≤ x1 then 93 else 58, [l0, some (v_i x1), some (v_i s0)], [], h)) rfl).trans ?_
  all_goals exact am_Y_if

theorem b_X8_splitText_93 {d : Nat} {Q : Option am_V → am_H → Prop} (h : am_H) (x2 : Int32) (x1 : Int32) (l0 : Option am_V) : ex_ d 114 93 [l0, some (v_i x1), some (v_i x2)] [] h Q ↔ ex_ d 114 7 [l0, some (v_i (if x2 < (x1 + (1 : Int32)) then (x1 + (1 : Int32)) else x2)), some (v_i x2)] [] h Q := by
  unfold ex_
  refine (am_Y_go 7 (ok := []) (g := (7, [l0, some (v_i (if x2 < (x1 + (1 : Int32)) then (x1 + (1 : Int32)) else x2)), some (v_i x2)], [], h)) rfl).trans ?_
  all_goals exact Iff.rfl

theorem b_X8_splitText_58 {d : Nat} {Q : Option am_V → am_H → Prop} (h : am_H) (x1 : Int32) (x2 : Int32) (Lh : Lay h) : ex_ (d + 1) 114 58 [some (v_r (some 2)), some (v_i x1), some (v_i x2)] [] h Q ↔ vp_in (h_i h 2 4) 901 ∧ ex_ d 113 0 [some (v_r (some 2)), some (v_i x1), some (v_i x2), none] [] (p_i h 4 (Int32.toNatClampNeg (h_i h 2 4)) x1) (fun r h' => ex_ (d + 1) 114 82 [some (v_r (some 2)), some (v_i x1), some (v_i x2)] (r.toList ++ [v_i (h_i (p_i h 4 (Int32.toNatClampNeg (h_i h 2 4)) x1) 2 4), v_r (some 3)]) h' Q) := by
  have e0 : h_r h 2 3 = some 4 := la_r Lh (q := (2, 3, 4)) (by decide)
  have e1 : h_r h 2 2 = some 3 := la_r Lh (q := (2, 2, 3)) (by decide)
  unfold ex_
  refine (am_Y_go 13 (ok := [am_is h (some 2) 8, am_is h (some 2) 8, am_ar h ((h_r h 2 3)) 20 (h_i h 2 4), am_is h (some 2) 8, am_is h (some 2) 8]) (g := (79, [some (v_r (some 2)), some (v_i x1), some (v_i x2)], [v_i x2, v_i x1, v_r (some 2), v_i (h_i (p_i h ((h_r h 2 3).getD 0) (Int32.toNatClampNeg (h_i h 2 4)) x1) 2 4), v_r ((h_r h 2 2))], (p_i h ((h_r h 2 3).getD 0) (Int32.toNatClampNeg (h_i h 2 4)) x1))) rfl).trans ?_
  simp only [e0, e1, Option.getD_some, am_all]
  all_goals exact cj_d (la_is Lh (o := 2) rfl) (cj_d (la_is Lh (o := 2) rfl) (cj_k (la_ar Lh (o := 4) rfl) (cj_d (la_is Lh (o := 2) rfl) (cj_d (la_is Lh (o := 2) rfl) (((am_Y_call (j := 113) (na := 3) (ci := 8) (fl := 0) rfl rfl rfl).trans (cj_d ⟨⟨Nat.le_of_ble_eq_true rfl, Nat.le_of_ble_eq_true rfl, Nat.le_of_ble_eq_true rfl, rfl⟩, Or.inr (Or.inr (show (8 : Nat) < 20 ∧ am_is h (some 2) 8 from ⟨by decide, (la_is Lh (o := 2) rfl)⟩))⟩ Iff.rfl)))))))

theorem b_X8_splitText_82 {d : Nat} {Q : Option am_V → am_H → Prop} (h : am_H) (s0 : Int32) (s1 : Int32) (t2 : Nat) (x2 : Int32) (x1 : Int32) (Lh : Lay h) {n_t2 : Nat} (A_t2 : y_arr h t2 20 n_t2) : ex_ d 114 82 [some (v_r (some 2)), some (v_i x1), some (v_i x2)] [v_i s0, v_i s1, v_r (some t2)] h Q ↔ vp_in s1 n_t2 ∧ ex_ d 114 7 [some (v_r (some 2)), some (v_i (if x2 < (x1 + (1 : Int32)) then (x1 + (1 : Int32)) else x2)), some (v_i x2)] [] (p_i (p_i h t2 (Int32.toNatClampNeg s1) s0) 2 4 ((h_i (p_i h t2 (Int32.toNatClampNeg s1) s0) 2 4) + (1 : Int32))) Q := by
  unfold ex_
  refine (am_Y_go 14 (ok := [am_ar h (some t2) 20 s1, am_is h (some 2) 8, am_is h (some 2) 8]) (g := (7, [some (v_r (some 2)), some (v_i (if x2 < (x1 + (1 : Int32)) then (x1 + (1 : Int32)) else x2)), some (v_i x2)], [], (p_i (p_i h t2 (Int32.toNatClampNeg s1) s0) 2 4 ((h_i (p_i h t2 (Int32.toNatClampNeg s1) s0) 2 4) + (1 : Int32))))) rfl).trans ?_
  simp only [am_all]
  all_goals exact cj_k (lb_ar A_t2) (cj_d (la_is Lh (o := 2) rfl) (cj_d (la_is Lh (o := 2) rfl) (Iff.rfl)))

theorem b_X8_step_0 {d : Nat} {Q : Option am_V → am_H → Prop} (h : am_H) (Lh : Lay h) : ex_ d 115 0 [some (v_r (some 2))] [] h Q ↔ if (h_i (p_i h 2 5 ((h_i h 2 5) + (1 : Int32))) 2 5) < 0 then ex_ d 115 53 [some (v_r (some 2))] [v_r (some 2)] (p_i h 2 5 ((h_i h 2 5) + (1 : Int32))) Q else ex_ d 115 18 [some (v_r (some 2))] [v_r (some 2)] (p_i h 2 5 ((h_i h 2 5) + (1 : Int32))) Q := by
  unfold ex_
  refine (am_Y_go 10 (ok := [am_is h (some 2) 8, am_is h (some 2) 8, am_is h (some 2) 8]) (g := (if (h_i (p_i h 2 5 ((h_i h 2 5) + (1 : Int32))) 2 5) < 0 then 53 else 18, [some (v_r (some 2))], [v_r (some 2)], (p_i h 2 5 ((h_i h 2 5) + (1 : Int32))))) rfl).trans ?_
  simp only [am_all]
  all_goals exact cj_d (la_is Lh (o := 2) rfl) (cj_d (la_is Lh (o := 2) rfl) (cj_d (la_is Lh (o := 2) rfl) (am_Y_if)))

theorem b_X8_step_53 {d : Nat} {Q : Option am_V → am_H → Prop} (h : am_H) (l0 : Option am_V) (Lh : Lay h) : ex_ d 115 53 [l0] [v_r (some 2)] h Q ↔ Q (none) (p_i h 2 6 (1 : Int32)) := by
  unfold ex_
  refine (am_Y_go 2 (ok := [am_is h (some 2) 8]) (g := (57, [l0], [], (p_i h 2 6 (1 : Int32)))) rfl).trans ?_
  simp only [am_all]
  all_goals exact cj_d (la_is Lh (o := 2) rfl) (((am_Y_ret rfl rfl rfl).trans (am_rz rfl)))

theorem b_X8_step_18 {d : Nat} {Q : Option am_V → am_H → Prop} (h : am_H) (Lh : Lay h) : ex_ d 115 18 [some (v_r (some 2))] [v_r (some 2)] h Q ↔ if (h_i h 2 4) ≤ (h_i h 2 5) then ex_ d 115 53 [some (v_r (some 2))] [v_r (some 2)] h Q else ex_ d 115 29 [some (v_r (some 2))] [v_r (some 2)] h Q := by
  unfold ex_
  refine (am_Y_go 5 (ok := [am_is h (some 2) 8, am_is h (some 2) 8]) (g := (if (h_i h 2 4) ≤ (h_i h 2 5) then 53 else 29, [some (v_r (some 2))], [v_r (some 2)], h)) rfl).trans ?_
  simp only [am_all]
  all_goals exact cj_d (la_is Lh (o := 2) rfl) (cj_d (la_is Lh (o := 2) rfl) (am_Y_if))

theorem b_X8_step_29 {d : Nat} {Q : Option am_V → am_H → Prop} (h : am_H) (Lh : Lay h) : ex_ d 115 29 [some (v_r (some 2))] [v_r (some 2)] h Q ↔ if (nI 901) ≤ (h_i h 2 5) then ex_ d 115 53 [some (v_r (some 2))] [v_r (some 2)] h Q else ex_ d 115 41 [some (v_r (some 2))] [v_r (some 2)] h Q := by
  have e0 : h_r h 2 2 = some 3 := la_r Lh (q := (2, 2, 3)) (by decide)
  have e1 : h_l h 3 = 901 := (la_l Lh (o := 3) rfl)
  unfold ex_
  refine (am_Y_go 6 (ok := [am_is h (some 2) 8, am_is h (some 2) 8, am_an h ((h_r h 2 2))]) (g := (if (nI (h_l h ((h_r h 2 2).getD 0))) ≤ (h_i h 2 5) then 53 else 41, [some (v_r (some 2))], [v_r (some 2)], h)) rfl).trans ?_
  simp only [e0, e1, Option.getD_some, am_all]
  all_goals exact cj_d (la_is Lh (o := 2) rfl) (cj_d (la_is Lh (o := 2) rfl) (cj_d (la_an20 Lh (o := 3) rfl) (am_Y_if)))

theorem b_X8_step_41 {d : Nat} {Q : Option am_V → am_H → Prop} (h : am_H) (Lh : Lay h) : ex_ d 115 41 [some (v_r (some 2))] [v_r (some 2)] h Q ↔ vp_in (h_i h 2 5) 901 ∧ Q (none) (p_i h 2 6 (h_i h 3 (Int32.toNatClampNeg (h_i h 2 5)))) := by
  have e0 : h_r h 2 2 = some 3 := la_r Lh (q := (2, 2, 3)) (by decide)
  unfold ex_
  refine (am_Y_go 7 (ok := [am_is h (some 2) 8, am_is h (some 2) 8, am_ar h ((h_r h 2 2)) 20 (h_i h 2 5), am_is h (some 2) 8]) (g := (57, [some (v_r (some 2))], [], (p_i h 2 6 (h_i h ((h_r h 2 2).getD 0) (Int32.toNatClampNeg (h_i h 2 5)))))) rfl).trans ?_
  simp only [e0, Option.getD_some, am_all]
  all_goals exact cj_d (la_is Lh (o := 2) rfl) (cj_d (la_is Lh (o := 2) rfl) (cj_k (la_ar Lh (o := 3) rfl) (cj_d (la_is Lh (o := 2) rfl) (((am_Y_ret rfl rfl rfl).trans (am_rz rfl))))))

theorem b_X8_refuse_0 {d : Nat} {Q : Option am_V → am_H → Prop} (h : am_H) (l1 : Option am_V) (Lh : Lay h) : ex_ d 116 0 [some (v_r (some 2)), l1] [] h Q ↔ if ¬ (h_i h 2 6) = (2 : Int32) then ex_ d 116 13 [some (v_r (some 2)), l1] [v_r (some 2)] h Q else ex_ d 116 9 [some (v_r (some 2)), l1] [v_r (some 2)] h Q := by
  unfold ex_
  refine (am_Y_go 5 (ok := [am_is h (some 2) 8]) (g := (if ¬ (h_i h 2 6) = (2 : Int32) then 13 else 9, [some (v_r (some 2)), l1], [v_r (some 2)], h)) rfl).trans ?_
  simp only [am_all]
  all_goals exact cj_d (la_is Lh (o := 2) rfl) (am_Y_if)

theorem b_X8_refuse_13 {d : Nat} {Q : Option am_V → am_H → Prop} (h : am_H) (x1 : Int32) (Lh : Lay h) : ex_ d 116 13 [some (v_r (some 2)), some (v_i x1)] [v_r (some 2)] h Q ↔ if (h_i (p_i h 2 7 x1) 2 5) < 0 then ex_ d 116 60 [some (v_r (some 2)), some (v_i x1)] [v_r (some 2)] (p_i h 2 7 x1) Q else ex_ d 116 25 [some (v_r (some 2)), some (v_i x1)] [v_r (some 2)] (p_i h 2 7 x1) Q := by
  unfold ex_
  refine (am_Y_go 6 (ok := [am_is h (some 2) 8, am_is h (some 2) 8]) (g := (if (h_i (p_i h 2 7 x1) 2 5) < 0 then 60 else 25, [some (v_r (some 2)), some (v_i x1)], [v_r (some 2)], (p_i h 2 7 x1))) rfl).trans ?_
  simp only [am_all]
  all_goals exact cj_d (la_is Lh (o := 2) rfl) (cj_d (la_is Lh (o := 2) rfl) (am_Y_if))

theorem b_X8_refuse_9 {d : Nat} {Q : Option am_V → am_H → Prop} (h : am_H) (l1 : Option am_V) (Lh : Lay h) : ex_ d 116 9 [some (v_r (some 2)), l1] [v_r (some 2)] h Q ↔ if (h_i (p_i h 2 7 (1 : Int32)) 2 5) < 0 then ex_ d 116 60 [some (v_r (some 2)), l1] [v_r (some 2)] (p_i h 2 7 (1 : Int32)) Q else ex_ d 116 25 [some (v_r (some 2)), l1] [v_r (some 2)] (p_i h 2 7 (1 : Int32)) Q := by
  unfold ex_
  refine (am_Y_go 7 (ok := [am_is h (some 2) 8, am_is h (some 2) 8]) (g := (if (h_i (p_i h 2 7 (1 : Int32)) 2 5) < 0 then 60 else 25, [some (v_r (some 2)), l1], [v_r (some 2)], (p_i h 2 7 (1 : Int32)))) rfl).trans ?_
  simp only [am_all]
  all_goals exact cj_d (la_is Lh (o := 2) rfl) (cj_d (la_is Lh (o := 2) rfl) (am_Y_if))

theorem b_X8_refuse_60 {d : Nat} {Q : Option am_V → am_H → Prop} (h : am_H) (l1 : Option am_V) (Lh : Lay h) : ex_ d 116 60 [some (v_r (some 2)), l1] [v_r (some 2)] h Q ↔ Q (some (v_i (0 : Int32))) (p_i h 2 8 (h_i h 2 1)) := by
  unfold ex_
  refine (am_Y_go 4 (ok := [am_is h (some 2) 8, am_is h (some 2) 8]) (g := (68, [some (v_r (some 2)), l1], [v_i (0 : Int32)], (p_i h 2 8 (h_i h 2 1)))) rfl).trans ?_
  simp only [am_all]
  all_goals exact cj_d (la_is Lh (o := 2) rfl) (cj_d (la_is Lh (o := 2) rfl) (((am_Y_ret rfl rfl rfl).trans (am_rz (show am_fit 1 0 from Or.inl rfl)))))

theorem b_X8_refuse_25 {d : Nat} {Q : Option am_V → am_H → Prop} (h : am_H) (l1 : Option am_V) (Lh : Lay h) : ex_ d 116 25 [some (v_r (some 2)), l1] [v_r (some 2)] h Q ↔ if (h_i h 2 4) ≤ (h_i h 2 5) then ex_ d 116 60 [some (v_r (some 2)), l1] [v_r (some 2)] h Q else ex_ d 116 36 [some (v_r (some 2)), l1] [v_r (some 2)] h Q := by
  unfold ex_
  refine (am_Y_go 5 (ok := [am_is h (some 2) 8, am_is h (some 2) 8]) (g := (if (h_i h 2 4) ≤ (h_i h 2 5) then 60 else 36, [some (v_r (some 2)), l1], [v_r (some 2)], h)) rfl).trans ?_
  simp only [am_all]
  all_goals exact cj_d (la_is Lh (o := 2) rfl) (cj_d (la_is Lh (o := 2) rfl) (am_Y_if))

theorem b_X8_refuse_36 {d : Nat} {Q : Option am_V → am_H → Prop} (h : am_H) (l1 : Option am_V) (Lh : Lay h) : ex_ d 116 36 [some (v_r (some 2)), l1] [v_r (some 2)] h Q ↔ if (nI 901) ≤ (h_i h 2 5) then ex_ d 116 60 [some (v_r (some 2)), l1] [v_r (some 2)] h Q else ex_ d 116 48 [some (v_r (some 2)), l1] [v_r (some 2)] h Q := by
  have e0 : h_r h 2 3 = some 4 := la_r Lh (q := (2, 3, 4)) (by decide)
  have e1 : h_l h 4 = 901 := (la_l Lh (o := 4) rfl)
  unfold ex_
  refine (am_Y_go 6 (ok := [am_is h (some 2) 8, am_is h (some 2) 8, am_an h ((h_r h 2 3))]) (g := (if (nI (h_l h ((h_r h 2 3).getD 0))) ≤ (h_i h 2 5) then 60 else 48, [some (v_r (some 2)), l1], [v_r (some 2)], h)) rfl).trans ?_
  simp only [e0, e1, Option.getD_some, am_all]
  all_goals exact cj_d (la_is Lh (o := 2) rfl) (cj_d (la_is Lh (o := 2) rfl) (cj_d (la_an20 Lh (o := 4) rfl) (am_Y_if)))

theorem b_X8_refuse_48 {d : Nat} {Q : Option am_V → am_H → Prop} (h : am_H) (l1 : Option am_V) (Lh : Lay h) : ex_ d 116 48 [some (v_r (some 2)), l1] [v_r (some 2)] h Q ↔ vp_in (h_i h 2 5) 901 ∧ Q (some (v_i (0 : Int32))) (p_i h 2 8 (h_i h 4 (Int32.toNatClampNeg (h_i h 2 5)))) := by
  have e0 : h_r h 2 3 = some 4 := la_r Lh (q := (2, 3, 4)) (by decide)
  unfold ex_
  refine (am_Y_go 8 (ok := [am_is h (some 2) 8, am_is h (some 2) 8, am_ar h ((h_r h 2 3)) 20 (h_i h 2 5), am_is h (some 2) 8]) (g := (68, [some (v_r (some 2)), l1], [v_i (0 : Int32)], (p_i h 2 8 (h_i h ((h_r h 2 3).getD 0) (Int32.toNatClampNeg (h_i h 2 5)))))) rfl).trans ?_
  simp only [e0, Option.getD_some, am_all]
  all_goals exact cj_d (la_is Lh (o := 2) rfl) (cj_d (la_is Lh (o := 2) rfl) (cj_k (la_ar Lh (o := 4) rfl) (cj_d (la_is Lh (o := 2) rfl) (((am_Y_ret rfl rfl rfl).trans (am_rz (show am_fit 1 0 from Or.inl rfl)))))))

theorem b_X8_pass_0 {d : Nat} {Q : Option am_V → am_H → Prop} (h : am_H) (x1 : Int32) (Lh : Lay h) : ex_ d 117 0 [some (v_r (some 2)), some (v_i x1)] [] h Q ↔ if (h_i h 2 6) = x1 then ex_ d 117 14 [some (v_r (some 2)), some (v_i x1)] [] h Q else ex_ d 117 8 [some (v_r (some 2)), some (v_i x1)] [] h Q := by
  unfold ex_
  refine (am_Y_go 4 (ok := [am_is h (some 2) 8]) (g := (if (h_i h 2 6) = x1 then 14 else 8, [some (v_r (some 2)), some (v_i x1)], [], h)) rfl).trans ?_
  simp only [am_all]
  all_goals exact cj_d (la_is Lh (o := 2) rfl) (am_Y_if)

theorem b_X8_pass_14 {d : Nat} {Q : Option am_V → am_H → Prop} (h : am_H) (l1 : Option am_V) (Lh : Lay h) : ex_ (d + 1) 117 14 [some (v_r (some 2)), l1] [] h Q ↔ ex_ d 115 0 [some (v_r (some 2))] [] h (fun r h' => ex_ (d + 1) 117 18 [some (v_r (some 2)), l1] (r.toList ++ []) h' Q) := by
  unfold ex_
  refine (am_Y_go 1 (ok := []) (g := (15, [some (v_r (some 2)), l1], [v_r (some 2)], h)) rfl).trans ?_
  all_goals exact ((am_Y_call (j := 115) (na := 1) (ci := 8) (fl := 0) rfl rfl rfl).trans (cj_d ⟨⟨Nat.le_of_ble_eq_true rfl, Nat.le_of_ble_eq_true rfl, Nat.le_of_ble_eq_true rfl, rfl⟩, Or.inr (Or.inr (show (8 : Nat) < 20 ∧ am_is h (some 2) 8 from ⟨by decide, (la_is Lh (o := 2) rfl)⟩))⟩ Iff.rfl))

theorem b_X8_pass_8 {d : Nat} {Q : Option am_V → am_H → Prop} (h : am_H) (l1 : Option am_V) (Lh : Lay h) : ex_ (d + 1) 117 8 [some (v_r (some 2)), l1] [] h Q ↔ ex_ d 116 0 [some (v_r (some 2)), some (v_i (2 : Int32))] [] h (fun r h' => ex_ (d + 1) 117 13 [some (v_r (some 2)), l1] (r.toList ++ []) h' Q) := by
  unfold ex_
  refine (am_Y_go 2 (ok := []) (g := (10, [some (v_r (some 2)), l1], [v_i (2 : Int32), v_r (some 2)], h)) rfl).trans ?_
  all_goals exact ((am_Y_call (j := 116) (na := 2) (ci := 8) (fl := 0) rfl rfl rfl).trans (cj_d ⟨⟨Nat.le_of_ble_eq_true rfl, Nat.le_of_ble_eq_true rfl, Nat.le_of_ble_eq_true rfl, rfl⟩, Or.inr (Or.inr (show (8 : Nat) < 20 ∧ am_is h (some 2) 8 from ⟨by decide, (la_is Lh (o := 2) rfl)⟩))⟩ Iff.rfl))

theorem b_X8_pass_18 {d : Nat} {Q : Option am_V → am_H → Prop} (h : am_H) (l0 l1 : Option am_V) : ex_ d 117 18 [l0, l1] [] h Q ↔ Q (some (v_i (1 : Int32))) h := by
  unfold ex_
  refine (am_Y_go 1 (ok := []) (g := (19, [l0, l1], [v_i (1 : Int32)], h)) rfl).trans ?_
  all_goals exact ((am_Y_ret rfl rfl rfl).trans (am_rz (show am_fit 1 1 from Or.inr rfl)))

theorem b_X8_pass_13 {d : Nat} {Q : Option am_V → am_H → Prop} (h : am_H) (s0 : Int32) (l0 l1 : Option am_V) : ex_ d 117 13 [l0, l1] [v_i s0] h Q ↔ (s0 = 0 ∨ s0 = 1) ∧ Q (some (v_i s0)) h := by
  unfold ex_
  exact ((am_Y_ret rfl rfl rfl).trans (Iff.rfl))

theorem b_X8_isNumber_0 {d : Nat} {Q : Option am_V → am_H → Prop} (h : am_H) (Lh : Lay h) : ex_ d 118 0 [some (v_r (some 2))] [] h Q ↔ if (h_i h 2 6) < (1000 : Int32) then ex_ d 118 14 [some (v_r (some 2))] [] h Q else ex_ d 118 10 [some (v_r (some 2))] [] h Q := by
  unfold ex_
  refine (am_Y_go 4 (ok := [am_is h (some 2) 8]) (g := (if (h_i h 2 6) < (1000 : Int32) then 14 else 10, [some (v_r (some 2))], [], h)) rfl).trans ?_
  simp only [am_all]
  all_goals exact cj_d (la_is Lh (o := 2) rfl) (am_Y_if)

theorem b_X8_isNumber_14 {d : Nat} {Q : Option am_V → am_H → Prop} (h : am_H) (l0 : Option am_V) : ex_ d 118 14 [l0] [] h Q ↔ Q (some (v_i (0 : Int32))) h := by
  unfold ex_
  refine (am_Y_go 1 (ok := []) (g := (15, [l0], [v_i (0 : Int32)], h)) rfl).trans ?_
  all_goals exact ((am_Y_ret rfl rfl rfl).trans (am_rz (show am_fit 1 0 from Or.inl rfl)))

theorem b_X8_isNumber_10 {d : Nat} {Q : Option am_V → am_H → Prop} (h : am_H) (l0 : Option am_V) : ex_ d 118 10 [l0] [] h Q ↔ Q (some (v_i (1 : Int32))) h := by
  unfold ex_
  refine (am_Y_go 2 (ok := []) (g := (15, [l0], [v_i (1 : Int32)], h)) rfl).trans ?_
  all_goals exact ((am_Y_ret rfl rfl rfl).trans (am_rz (show am_fit 1 1 from Or.inr rfl)))

theorem b_X8_passNumberBelow_0 {d : Nat} {Q : Option am_V → am_H → Prop} (h : am_H) (l1 : Option am_V) (Lh : Lay h) : ex_ (d + 1) 119 0 [some (v_r (some 2)), l1] [] h Q ↔ ex_ d 118 0 [some (v_r (some 2))] [] h (fun r h' => ex_ (d + 1) 119 4 [some (v_r (some 2)), l1] (r.toList ++ []) h' Q) := by
  unfold ex_
  refine (am_Y_go 1 (ok := []) (g := (1, [some (v_r (some 2)), l1], [v_r (some 2)], h)) rfl).trans ?_
  all_goals exact ((am_Y_call (j := 118) (na := 1) (ci := 8) (fl := 0) rfl rfl rfl).trans (cj_d ⟨⟨Nat.le_of_ble_eq_true rfl, Nat.le_of_ble_eq_true rfl, Nat.le_of_ble_eq_true rfl, rfl⟩, Or.inr (Or.inr (show (8 : Nat) < 20 ∧ am_is h (some 2) 8 from ⟨by decide, (la_is Lh (o := 2) rfl)⟩))⟩ Iff.rfl))

theorem b_X8_passNumberBelow_4 {d : Nat} {Q : Option am_V → am_H → Prop} (h : am_H) (s0 : Int32) (l0 l1 : Option am_V) : ex_ d 119 4 [l0, l1] [v_i s0] h Q ↔ if ¬ s0 = 0 then ex_ d 119 13 [l0, l1] [] h Q else ex_ d 119 7 [l0, l1] [] h Q := by
  unfold ex_
  refine (am_Y_go 1 (ok := []) (g := (if ¬ s0 = 0 then 13 else 7, [l0, l1], [], h)) rfl).trans ?_
  all_goals exact am_Y_if

theorem b_X8_passNumberBelow_13 {d : Nat} {Q : Option am_V → am_H → Prop} (h : am_H) (x1 : Int32) (Lh : Lay h) : ex_ d 119 13 [some (v_r (some 2)), some (v_i x1)] [] h Q ↔ if ((h_i h 2 6) - (1000 : Int32)) < x1 then ex_ d 119 31 [some (v_r (some 2)), some (v_i x1)] [] h Q else ex_ d 119 25 [some (v_r (some 2)), some (v_i x1)] [] h Q := by
  unfold ex_
  refine (am_Y_go 6 (ok := [am_is h (some 2) 8]) (g := (if ((h_i h 2 6) - (1000 : Int32)) < x1 then 31 else 25, [some (v_r (some 2)), some (v_i x1)], [], h)) rfl).trans ?_
  simp only [am_all]
  all_goals exact cj_d (la_is Lh (o := 2) rfl) (am_Y_if)

theorem b_X8_passNumberBelow_7 {d : Nat} {Q : Option am_V → am_H → Prop} (h : am_H) (l1 : Option am_V) (Lh : Lay h) : ex_ (d + 1) 119 7 [some (v_r (some 2)), l1] [] h Q ↔ ex_ d 116 0 [some (v_r (some 2)), some (v_i (2 : Int32))] [] h (fun r h' => ex_ (d + 1) 119 12 [some (v_r (some 2)), l1] (r.toList ++ []) h' Q) := by
  unfold ex_
  refine (am_Y_go 2 (ok := []) (g := (9, [some (v_r (some 2)), l1], [v_i (2 : Int32), v_r (some 2)], h)) rfl).trans ?_
  all_goals exact ((am_Y_call (j := 116) (na := 2) (ci := 8) (fl := 0) rfl rfl rfl).trans (cj_d ⟨⟨Nat.le_of_ble_eq_true rfl, Nat.le_of_ble_eq_true rfl, Nat.le_of_ble_eq_true rfl, rfl⟩, Or.inr (Or.inr (show (8 : Nat) < 20 ∧ am_is h (some 2) 8 from ⟨by decide, (la_is Lh (o := 2) rfl)⟩))⟩ Iff.rfl))

theorem b_X8_passNumberBelow_31 {d : Nat} {Q : Option am_V → am_H → Prop} (h : am_H) (l1 : Option am_V) (Lh : Lay h) : ex_ (d + 1) 119 31 [some (v_r (some 2)), l1] [] h Q ↔ ex_ d 115 0 [some (v_r (some 2))] [] h (fun r h' => ex_ (d + 1) 119 35 [some (v_r (some 2)), l1] (r.toList ++ []) h' Q) := by
  unfold ex_
  refine (am_Y_go 1 (ok := []) (g := (32, [some (v_r (some 2)), l1], [v_r (some 2)], h)) rfl).trans ?_
  all_goals exact ((am_Y_call (j := 115) (na := 1) (ci := 8) (fl := 0) rfl rfl rfl).trans (cj_d ⟨⟨Nat.le_of_ble_eq_true rfl, Nat.le_of_ble_eq_true rfl, Nat.le_of_ble_eq_true rfl, rfl⟩, Or.inr (Or.inr (show (8 : Nat) < 20 ∧ am_is h (some 2) 8 from ⟨by decide, (la_is Lh (o := 2) rfl)⟩))⟩ Iff.rfl))

theorem b_X8_passNumberBelow_25 {d : Nat} {Q : Option am_V → am_H → Prop} (h : am_H) (l1 : Option am_V) (Lh : Lay h) : ex_ (d + 1) 119 25 [some (v_r (some 2)), l1] [] h Q ↔ ex_ d 116 0 [some (v_r (some 2)), some (v_i (3 : Int32))] [] h (fun r h' => ex_ (d + 1) 119 30 [some (v_r (some 2)), l1] (r.toList ++ []) h' Q) := by
  unfold ex_
  refine (am_Y_go 2 (ok := []) (g := (27, [some (v_r (some 2)), l1], [v_i (3 : Int32), v_r (some 2)], h)) rfl).trans ?_
  all_goals exact ((am_Y_call (j := 116) (na := 2) (ci := 8) (fl := 0) rfl rfl rfl).trans (cj_d ⟨⟨Nat.le_of_ble_eq_true rfl, Nat.le_of_ble_eq_true rfl, Nat.le_of_ble_eq_true rfl, rfl⟩, Or.inr (Or.inr (show (8 : Nat) < 20 ∧ am_is h (some 2) 8 from ⟨by decide, (la_is Lh (o := 2) rfl)⟩))⟩ Iff.rfl))

theorem b_X8_passNumberBelow_12 {d : Nat} {Q : Option am_V → am_H → Prop} (h : am_H) (s0 : Int32) (l0 l1 : Option am_V) : ex_ d 119 12 [l0, l1] [v_i s0] h Q ↔ (s0 = 0 ∨ s0 = 1) ∧ Q (some (v_i s0)) h := by
  unfold ex_
  exact ((am_Y_ret rfl rfl rfl).trans (Iff.rfl))

theorem b_X8_passNumberBelow_35 {d : Nat} {Q : Option am_V → am_H → Prop} (h : am_H) (l0 l1 : Option am_V) : ex_ d 119 35 [l0, l1] [] h Q ↔ Q (some (v_i (1 : Int32))) h := by
  unfold ex_
  refine (am_Y_go 1 (ok := []) (g := (36, [l0, l1], [v_i (1 : Int32)], h)) rfl).trans ?_
  all_goals exact ((am_Y_ret rfl rfl rfl).trans (am_rz (show am_fit 1 1 from Or.inr rfl)))

theorem b_X8_passNumberBelow_30 {d : Nat} {Q : Option am_V → am_H → Prop} (h : am_H) (s0 : Int32) (l0 l1 : Option am_V) : ex_ d 119 30 [l0, l1] [v_i s0] h Q ↔ (s0 = 0 ∨ s0 = 1) ∧ Q (some (v_i s0)) h := by
  unfold ex_
  exact ((am_Y_ret rfl rfl rfl).trans (Iff.rfl))

theorem b_X8_readHouse_0 {d : Nat} {Q : Option am_V → am_H → Prop} (h : am_H) (Lh : Lay h) : ex_ (d + 1) 120 0 [some (v_r (some 2))] [] h Q ↔ ex_ d 117 0 [some (v_r (some 2)), some (v_i (200 : Int32))] [] h (fun r h' => ex_ (d + 1) 120 7 [some (v_r (some 2))] (r.toList ++ []) h' Q) := by
  unfold ex_
  refine (am_Y_go 2 (ok := []) (g := (4, [some (v_r (some 2))], [v_i (200 : Int32), v_r (some 2)], h)) rfl).trans ?_
  all_goals exact ((am_Y_call (j := 117) (na := 2) (ci := 8) (fl := 0) rfl rfl rfl).trans (cj_d ⟨⟨Nat.le_of_ble_eq_true rfl, Nat.le_of_ble_eq_true rfl, Nat.le_of_ble_eq_true rfl, rfl⟩, Or.inr (Or.inr (show (8 : Nat) < 20 ∧ am_is h (some 2) 8 from ⟨by decide, (la_is Lh (o := 2) rfl)⟩))⟩ Iff.rfl))

theorem b_X8_readHouse_7 {d : Nat} {Q : Option am_V → am_H → Prop} (h : am_H) (s0 : Int32) (l0 : Option am_V) : ex_ d 120 7 [l0] [v_i s0] h Q ↔ if s0 = 0 then ex_ d 120 20 [l0] [] h Q else ex_ d 120 10 [l0] [] h Q := by
  unfold ex_
  refine (am_Y_go 1 (ok := []) (g := (if s0 = 0 then 20 else 10, [l0], [], h)) rfl).trans ?_
  all_goals exact am_Y_if

theorem b_X8_readHouse_20 {d : Nat} {Q : Option am_V → am_H → Prop} (h : am_H) (l0 : Option am_V) : ex_ d 120 20 [l0] [] h Q ↔ Q (some (v_i (0 : Int32))) h := by
  unfold ex_
  refine (am_Y_go 1 (ok := []) (g := (21, [l0], [v_i (0 : Int32)], h)) rfl).trans ?_
  all_goals exact ((am_Y_ret rfl rfl rfl).trans (am_rz (show am_fit 1 0 from Or.inl rfl)))

theorem b_X8_readHouse_10 {d : Nat} {Q : Option am_V → am_H → Prop} (h : am_H) (Lh : Lay h) : ex_ (d + 1) 120 10 [some (v_r (some 2))] [] h Q ↔ ex_ d 117 0 [some (v_r (some 2)), some (v_i (201 : Int32))] [] h (fun r h' => ex_ (d + 1) 120 17 [some (v_r (some 2))] (r.toList ++ []) h' Q) := by
  unfold ex_
  refine (am_Y_go 2 (ok := []) (g := (14, [some (v_r (some 2))], [v_i (201 : Int32), v_r (some 2)], h)) rfl).trans ?_
  all_goals exact ((am_Y_call (j := 117) (na := 2) (ci := 8) (fl := 0) rfl rfl rfl).trans (cj_d ⟨⟨Nat.le_of_ble_eq_true rfl, Nat.le_of_ble_eq_true rfl, Nat.le_of_ble_eq_true rfl, rfl⟩, Or.inr (Or.inr (show (8 : Nat) < 20 ∧ am_is h (some 2) 8 from ⟨by decide, (la_is Lh (o := 2) rfl)⟩))⟩ Iff.rfl))

theorem b_X8_readHouse_17 {d : Nat} {Q : Option am_V → am_H → Prop} (h : am_H) (s0 : Int32) (l0 : Option am_V) : ex_ d 120 17 [l0] [v_i s0] h Q ↔ if ¬ s0 = 0 then ex_ d 120 22 [l0] [] h Q else ex_ d 120 20 [l0] [] h Q := by
  unfold ex_
  refine (am_Y_go 1 (ok := []) (g := (if ¬ s0 = 0 then 22 else 20, [l0], [], h)) rfl).trans ?_
  all_goals exact am_Y_if

theorem b_X8_readHouse_22 {d : Nat} {Q : Option am_V → am_H → Prop} (h : am_H) (Lh : Lay h) : ex_ (d + 1) 120 22 [some (v_r (some 2))] [] h Q ↔ ex_ d 119 0 [some (v_r (some 2)), some (v_i (10 : Int32))] [] (p_i h 5 1 ((h_i h 2 6) - (1000 : Int32))) (fun r h' => ex_ (d + 1) 120 43 [some (v_r (some 2))] (r.toList ++ []) h' Q) := by
  have e0 : h_r h 2 9 = some 5 := la_r Lh (q := (2, 9, 5)) (by decide)
  unfold ex_
  refine (am_Y_go 9 (ok := [am_is h (some 2) 8, am_is h (some 2) 8, am_is h ((h_r h 2 9)) 1]) (g := (40, [some (v_r (some 2))], [v_i (10 : Int32), v_r (some 2)], (p_i h ((h_r h 2 9).getD 0) 1 ((h_i h 2 6) - (1000 : Int32))))) rfl).trans ?_
  simp only [e0, Option.getD_some, am_all]
  all_goals exact cj_d (la_is Lh (o := 2) rfl) (cj_d (la_is Lh (o := 2) rfl) (cj_d (la_is Lh (o := 5) rfl) (((am_Y_call (j := 119) (na := 2) (ci := 8) (fl := 0) rfl rfl rfl).trans (cj_d ⟨⟨Nat.le_of_ble_eq_true rfl, Nat.le_of_ble_eq_true rfl, Nat.le_of_ble_eq_true rfl, rfl⟩, Or.inr (Or.inr (show (8 : Nat) < 20 ∧ am_is h (some 2) 8 from ⟨by decide, (la_is Lh (o := 2) rfl)⟩))⟩ Iff.rfl)))))

theorem b_X8_readHouse_43 {d : Nat} {Q : Option am_V → am_H → Prop} (h : am_H) (s0 : Int32) (l0 : Option am_V) : ex_ d 120 43 [l0] [v_i s0] h Q ↔ (s0 = 0 ∨ s0 = 1) ∧ Q (some (v_i s0)) h := by
  unfold ex_
  exact ((am_Y_ret rfl rfl rfl).trans (Iff.rfl))

theorem b_X8_endLine_0 {d : Nat} {Q : Option am_V → am_H → Prop} (h : am_H) (Lh : Lay h) : ex_ (d + 1) 121 0 [some (v_r (some 2))] [] h Q ↔ ex_ d 117 0 [some (v_r (some 2)), some (v_i (59 : Int32))] [] (p_i h 2 10 ((h_i h 2 10) + (1 : Int32))) (fun r h' => ex_ (d + 1) 121 16 [some (v_r (some 2))] (r.toList ++ []) h' Q) := by
  unfold ex_
  refine (am_Y_go 8 (ok := [am_is h (some 2) 8, am_is h (some 2) 8]) (g := (13, [some (v_r (some 2))], [v_i (59 : Int32), v_r (some 2)], (p_i h 2 10 ((h_i h 2 10) + (1 : Int32))))) rfl).trans ?_
  simp only [am_all]
  all_goals exact cj_d (la_is Lh (o := 2) rfl) (cj_d (la_is Lh (o := 2) rfl) (((am_Y_call (j := 117) (na := 2) (ci := 8) (fl := 0) rfl rfl rfl).trans (cj_d ⟨⟨Nat.le_of_ble_eq_true rfl, Nat.le_of_ble_eq_true rfl, Nat.le_of_ble_eq_true rfl, rfl⟩, Or.inr (Or.inr (show (8 : Nat) < 20 ∧ am_is h (some 2) 8 from ⟨by decide, (la_is Lh (o := 2) rfl)⟩))⟩ Iff.rfl))))

theorem b_X8_endLine_16 {d : Nat} {Q : Option am_V → am_H → Prop} (h : am_H) (s0 : Int32) (l0 : Option am_V) : ex_ d 121 16 [l0] [v_i s0] h Q ↔ (s0 = 0 ∨ s0 = 1) ∧ Q (some (v_i s0)) h := by
  unfold ex_
  exact ((am_Y_ret rfl rfl rfl).trans (Iff.rfl))

theorem b_X8_readClass_0 {d : Nat} {Q : Option am_V → am_H → Prop} (h : am_H) (l1 l2 l3 : Option am_V) (Lh : Lay h) : ex_ d 122 0 [some (v_r (some 2)), l1, l2, l3] [] h Q ↔ if (h_i h 5 0) < (10 : Int32) then ex_ d 122 20 [some (v_r (some 2)), some (v_i (h_i h 5 0)), l2, l3] [] h Q else ex_ d 122 14 [some (v_r (some 2)), some (v_i (h_i h 5 0)), l2, l3] [] h Q := by
  have e0 : h_r h 2 9 = some 5 := la_r Lh (q := (2, 9, 5)) (by decide)
  unfold ex_
  refine (am_Y_go 7 (ok := [am_is h (some 2) 8, am_is h ((h_r h 2 9)) 1]) (g := (if (h_i h ((h_r h 2 9).getD 0) 0) < (10 : Int32) then 20 else 14, [some (v_r (some 2)), some (v_i (h_i h ((h_r h 2 9).getD 0) 0)), l2, l3], [], h)) rfl).trans ?_
  simp only [e0, Option.getD_some, am_all]
  all_goals exact cj_d (la_is Lh (o := 2) rfl) (cj_d (la_is Lh (o := 5) rfl) (am_Y_if))

theorem b_X8_readClass_20 {d : Nat} {Q : Option am_V → am_H → Prop} (h : am_H) (l1 l2 l3 : Option am_V) (Lh : Lay h) : ex_ (d + 1) 122 20 [some (v_r (some 2)), l1, l2, l3] [] h Q ↔ ex_ d 115 0 [some (v_r (some 2))] [] h (fun r h' => ex_ (d + 1) 122 24 [some (v_r (some 2)), l1, l2, l3] (r.toList ++ []) h' Q) := by
  unfold ex_
  refine (am_Y_go 1 (ok := []) (g := (21, [some (v_r (some 2)), l1, l2, l3], [v_r (some 2)], h)) rfl).trans ?_
  all_goals exact ((am_Y_call (j := 115) (na := 1) (ci := 8) (fl := 0) rfl rfl rfl).trans (cj_d ⟨⟨Nat.le_of_ble_eq_true rfl, Nat.le_of_ble_eq_true rfl, Nat.le_of_ble_eq_true rfl, rfl⟩, Or.inr (Or.inr (show (8 : Nat) < 20 ∧ am_is h (some 2) 8 from ⟨by decide, (la_is Lh (o := 2) rfl)⟩))⟩ Iff.rfl))

theorem b_X8_readClass_14 {d : Nat} {Q : Option am_V → am_H → Prop} (h : am_H) (l1 l2 l3 : Option am_V) (Lh : Lay h) : ex_ (d + 1) 122 14 [some (v_r (some 2)), l1, l2, l3] [] h Q ↔ ex_ d 116 0 [some (v_r (some 2)), some (v_i (4 : Int32))] [] h (fun r h' => ex_ (d + 1) 122 19 [some (v_r (some 2)), l1, l2, l3] (r.toList ++ []) h' Q) := by
  unfold ex_
  refine (am_Y_go 2 (ok := []) (g := (16, [some (v_r (some 2)), l1, l2, l3], [v_i (4 : Int32), v_r (some 2)], h)) rfl).trans ?_
  all_goals exact ((am_Y_call (j := 116) (na := 2) (ci := 8) (fl := 0) rfl rfl rfl).trans (cj_d ⟨⟨Nat.le_of_ble_eq_true rfl, Nat.le_of_ble_eq_true rfl, Nat.le_of_ble_eq_true rfl, rfl⟩, Or.inr (Or.inr (show (8 : Nat) < 20 ∧ am_is h (some 2) 8 from ⟨by decide, (la_is Lh (o := 2) rfl)⟩))⟩ Iff.rfl))

theorem b_X8_readClass_24 {d : Nat} {Q : Option am_V → am_H → Prop} (h : am_H) (l0 l1 l2 l3 : Option am_V) : ex_ d 122 24 [l0, l1, l2, l3] [] h Q ↔ ex_ d 122 26 [l0, l1, some (v_i (0 : Int32)), l3] [] h Q := by
  unfold ex_
  refine (am_Y_go 2 (ok := []) (g := (26, [l0, l1, some (v_i (0 : Int32)), l3], [], h)) rfl).trans ?_
  all_goals exact Iff.rfl

theorem b_X8_readClass_19 {d : Nat} {Q : Option am_V → am_H → Prop} (h : am_H) (s0 : Int32) (l0 l1 l2 l3 : Option am_V) : ex_ d 122 19 [l0, l1, l2, l3] [v_i s0] h Q ↔ (s0 = 0 ∨ s0 = 1) ∧ Q (some (v_i s0)) h := by
  unfold ex_
  exact ((am_Y_ret rfl rfl rfl).trans (Iff.rfl))

theorem b_X8_readClass_26 {d : Nat} {Q : Option am_V → am_H → Prop} (h : am_H) (x2 : Int32) (l0 l1 l3 : Option am_V) : ex_ d 122 26 [l0, l1, some (v_i x2), l3] [] h Q ↔ if (900 : Int32) ≤ x2 then ex_ d 122 110 [l0, l1, some (v_i x2), l3] [] h Q else ex_ d 122 33 [l0, l1, some (v_i x2), l3] [] h Q := by
  unfold ex_
  refine (am_Y_go 3 (ok := []) (g := (if (900 : Int32) ≤ x2 then 110 else 33, [l0, l1, some (v_i x2), l3], [], h)) rfl).trans ?_
  all_goals exact am_Y_if

theorem b_X8_readClass_110 {d : Nat} {Q : Option am_V → am_H → Prop} (h : am_H) (x1 : Int32) (l2 l3 : Option am_V) (Lh : Lay h) : ex_ d 122 110 [some (v_r (some 2)), some (v_i x1), l2, l3] [] h Q ↔ Q (some (v_i (1 : Int32))) (p_i h 5 0 (x1 + (1 : Int32))) := by
  have e0 : h_r h 2 9 = some 5 := la_r Lh (q := (2, 9, 5)) (by decide)
  unfold ex_
  refine (am_Y_go 7 (ok := [am_is h (some 2) 8, am_is h ((h_r h 2 9)) 1]) (g := (121, [some (v_r (some 2)), some (v_i x1), l2, l3], [v_i (1 : Int32)], (p_i h ((h_r h 2 9).getD 0) 0 (x1 + (1 : Int32))))) rfl).trans ?_
  simp only [e0, Option.getD_some, am_all]
  all_goals exact cj_d (la_is Lh (o := 2) rfl) (cj_d (la_is Lh (o := 5) rfl) (((am_Y_ret rfl rfl rfl).trans (am_rz (show am_fit 1 1 from Or.inr rfl)))))

theorem b_X8_readClass_33 {d : Nat} {Q : Option am_V → am_H → Prop} (h : am_H) (l1 l2 l3 : Option am_V) (Lh : Lay h) : ex_ (d + 1) 122 33 [some (v_r (some 2)), l1, l2, l3] [] h Q ↔ ex_ d 118 0 [some (v_r (some 2))] [] h (fun r h' => ex_ (d + 1) 122 37 [some (v_r (some 2)), l1, l2, l3] (r.toList ++ []) h' Q) := by
  unfold ex_
  refine (am_Y_go 1 (ok := []) (g := (34, [some (v_r (some 2)), l1, l2, l3], [v_r (some 2)], h)) rfl).trans ?_
  all_goals exact ((am_Y_call (j := 118) (na := 1) (ci := 8) (fl := 0) rfl rfl rfl).trans (cj_d ⟨⟨Nat.le_of_ble_eq_true rfl, Nat.le_of_ble_eq_true rfl, Nat.le_of_ble_eq_true rfl, rfl⟩, Or.inr (Or.inr (show (8 : Nat) < 20 ∧ am_is h (some 2) 8 from ⟨by decide, (la_is Lh (o := 2) rfl)⟩))⟩ Iff.rfl))

theorem b_X8_readClass_37 {d : Nat} {Q : Option am_V → am_H → Prop} (h : am_H) (s0 : Int32) (l0 l1 l2 l3 : Option am_V) : ex_ d 122 37 [l0, l1, l2, l3] [v_i s0] h Q ↔ if s0 = 0 then ex_ d 122 110 [l0, l1, l2, l3] [] h Q else ex_ d 122 40 [l0, l1, l2, l3] [] h Q := by
  unfold ex_
  refine (am_Y_go 1 (ok := []) (g := (if s0 = 0 then 110 else 40, [l0, l1, l2, l3], [], h)) rfl).trans ?_
  all_goals exact am_Y_if

theorem b_X8_readClass_40 {d : Nat} {Q : Option am_V → am_H → Prop} (h : am_H) (x1 : Int32) (l2 l3 : Option am_V) (Lh : Lay h) : ex_ d 122 40 [some (v_r (some 2)), some (v_i x1), l2, l3] [] h Q ↔ if x1 ≤ ((h_i h 2 6) - (1000 : Int32)) then ex_ d 122 67 [some (v_r (some 2)), some (v_i x1), l2, some (v_i ((h_i h 2 6) - (1000 : Int32)))] [] h Q else ex_ d 122 54 [some (v_r (some 2)), some (v_i x1), l2, some (v_i ((h_i h 2 6) - (1000 : Int32)))] [] h Q := by
  unfold ex_
  refine (am_Y_go 8 (ok := [am_is h (some 2) 8]) (g := (if x1 ≤ ((h_i h 2 6) - (1000 : Int32)) then 67 else 54, [some (v_r (some 2)), some (v_i x1), l2, some (v_i ((h_i h 2 6) - (1000 : Int32)))], [], h)) rfl).trans ?_
  simp only [am_all]
  all_goals exact cj_d (la_is Lh (o := 2) rfl) (am_Y_if)

theorem b_X8_readClass_67 {d : Nat} {Q : Option am_V → am_H → Prop} (h : am_H) (l1 l2 l3 : Option am_V) (Lh : Lay h) : ex_ (d + 1) 122 67 [some (v_r (some 2)), l1, l2, l3] [] h Q ↔ ex_ d 116 0 [some (v_r (some 2)), some (v_i (3 : Int32))] [] h (fun r h' => ex_ (d + 1) 122 72 [some (v_r (some 2)), l1, l2, l3] (r.toList ++ []) h' Q) := by
  unfold ex_
  refine (am_Y_go 2 (ok := []) (g := (69, [some (v_r (some 2)), l1, l2, l3], [v_i (3 : Int32), v_r (some 2)], h)) rfl).trans ?_
  all_goals exact ((am_Y_call (j := 116) (na := 2) (ci := 8) (fl := 0) rfl rfl rfl).trans (cj_d ⟨⟨Nat.le_of_ble_eq_true rfl, Nat.le_of_ble_eq_true rfl, Nat.le_of_ble_eq_true rfl, rfl⟩, Or.inr (Or.inr (show (8 : Nat) < 20 ∧ am_is h (some 2) 8 from ⟨by decide, (la_is Lh (o := 2) rfl)⟩))⟩ Iff.rfl))

theorem b_X8_readClass_54 {d : Nat} {Q : Option am_V → am_H → Prop} (h : am_H) (x1 : Int32) (x3 : Int32) (l2 : Option am_V) (Lh : Lay h) : ex_ (d + 1) 122 54 [some (v_r (some 2)), some (v_i x1), l2, some (v_i x3)] [] h Q ↔ ex_ d 29 0 [some (v_r (some 5)), some (v_i x1), some (v_i x3), none] [] h (fun r h' => ex_ (d + 1) 122 63 [some (v_r (some 2)), some (v_i x1), l2, some (v_i x3)] (r.toList ++ []) h' Q) := by
  have e0 : h_r h 2 9 = some 5 := la_r Lh (q := (2, 9, 5)) (by decide)
  unfold ex_
  refine (am_Y_go 4 (ok := [am_is h (some 2) 8]) (g := (60, [some (v_r (some 2)), some (v_i x1), l2, some (v_i x3)], [v_i x3, v_i x1, v_r ((h_r h 2 9))], h)) rfl).trans ?_
  simp only [e0, Option.getD_some, am_all]
  all_goals exact cj_d (la_is Lh (o := 2) rfl) (((am_Y_call (j := 29) (na := 3) (ci := 1) (fl := 0) rfl rfl rfl).trans (cj_d ⟨⟨Nat.le_of_ble_eq_true rfl, Nat.le_of_ble_eq_true rfl, Nat.le_of_ble_eq_true rfl, rfl⟩, Or.inr (Or.inr (show (1 : Nat) < 20 ∧ am_is h (some 5) 1 from ⟨by decide, (la_is Lh (o := 5) rfl)⟩))⟩ Iff.rfl)))

theorem b_X8_readClass_72 {d : Nat} {Q : Option am_V → am_H → Prop} (h : am_H) (s0 : Int32) (l0 l1 l2 l3 : Option am_V) : ex_ d 122 72 [l0, l1, l2, l3] [v_i s0] h Q ↔ (s0 = 0 ∨ s0 = 1) ∧ Q (some (v_i s0)) h := by
  unfold ex_
  exact ((am_Y_ret rfl rfl rfl).trans (Iff.rfl))

theorem b_X8_readClass_63 {d : Nat} {Q : Option am_V → am_H → Prop} (h : am_H) (s0 : Int32) (l0 l1 l2 l3 : Option am_V) : ex_ d 122 63 [l0, l1, l2, l3] [v_i s0] h Q ↔ if s0 = (-1 : Int32) then ex_ d 122 73 [l0, l1, l2, l3] [] h Q else ex_ d 122 67 [l0, l1, l2, l3] [] h Q := by
  unfold ex_
  refine (am_Y_go 2 (ok := []) (g := (if s0 = (-1 : Int32) then 73 else 67, [l0, l1, l2, l3], [], h)) rfl).trans ?_
  all_goals exact am_Y_if

theorem b_X8_readClass_73 {d : Nat} {Q : Option am_V → am_H → Prop} (h : am_H) (x1 : Int32) (l2 l3 : Option am_V) (Lh : Lay h) : ex_ (d + 1) 122 73 [some (v_r (some 2)), some (v_i x1), l2, l3] [] h Q ↔ ex_ d 4 0 [some (v_r (some 5)), some (v_i x1)] [] h (fun r h' => ex_ (d + 1) 122 81 [some (v_r (some 2)), some (v_i x1), l2, l3] (r.toList ++ []) h' Q) := by
  have e0 : h_r h 2 9 = some 5 := la_r Lh (q := (2, 9, 5)) (by decide)
  unfold ex_
  refine (am_Y_go 3 (ok := [am_is h (some 2) 8]) (g := (78, [some (v_r (some 2)), some (v_i x1), l2, l3], [v_i x1, v_r ((h_r h 2 9))], h)) rfl).trans ?_
  simp only [e0, Option.getD_some, am_all]
  all_goals exact cj_d (la_is Lh (o := 2) rfl) (((am_Y_call (j := 4) (na := 2) (ci := 1) (fl := 0) rfl rfl rfl).trans (cj_d ⟨⟨Nat.le_of_ble_eq_true rfl, Nat.le_of_ble_eq_true rfl, Nat.le_of_ble_eq_true rfl, rfl⟩, Or.inr (Or.inr (show (1 : Nat) < 20 ∧ am_is h (some 5) 1 from ⟨by decide, (la_is Lh (o := 5) rfl)⟩))⟩ Iff.rfl)))

theorem b_X8_readClass_81 {d : Nat} {Q : Option am_V → am_H → Prop} (h : am_H) (s0 : Int32) (l0 l1 l2 l3 : Option am_V) : ex_ d 122 81 [l0, l1, l2, l3] [v_i s0] h Q ↔ if s0 < (4 : Int32) then ex_ d 122 91 [l0, l1, l2, l3] [] h Q else ex_ d 122 85 [l0, l1, l2, l3] [] h Q := by
  unfold ex_
  refine (am_Y_go 2 (ok := []) (g := (if s0 < (4 : Int32) then 91 else 85, [l0, l1, l2, l3], [], h)) rfl).trans ?_
  all_goals exact am_Y_if

theorem b_X8_readClass_91 {d : Nat} {Q : Option am_V → am_H → Prop} (h : am_H) (x1 : Int32) (x3 : Int32) (l2 : Option am_V) (Lh : Lay h) : ex_ (d + 1) 122 91 [some (v_r (some 2)), some (v_i x1), l2, some (v_i x3)] [] h Q ↔ ex_ d 35 0 [some (v_r (some 5)), some (v_i x1), some (v_i x3), none] [] h (fun r h' => ex_ (d + 1) 122 100 [some (v_r (some 2)), some (v_i x1), l2, some (v_i x3)] (r.toList ++ []) h' Q) := by
  have e0 : h_r h 2 9 = some 5 := la_r Lh (q := (2, 9, 5)) (by decide)
  unfold ex_
  refine (am_Y_go 4 (ok := [am_is h (some 2) 8]) (g := (97, [some (v_r (some 2)), some (v_i x1), l2, some (v_i x3)], [v_i x3, v_i x1, v_r ((h_r h 2 9))], h)) rfl).trans ?_
  simp only [e0, Option.getD_some, am_all]
  all_goals exact cj_d (la_is Lh (o := 2) rfl) (((am_Y_call (j := 35) (na := 3) (ci := 1) (fl := 0) rfl rfl rfl).trans (cj_d ⟨⟨Nat.le_of_ble_eq_true rfl, Nat.le_of_ble_eq_true rfl, Nat.le_of_ble_eq_true rfl, rfl⟩, Or.inr (Or.inr (show (1 : Nat) < 20 ∧ am_is h (some 5) 1 from ⟨by decide, (la_is Lh (o := 5) rfl)⟩))⟩ Iff.rfl)))

theorem b_X8_readClass_85 {d : Nat} {Q : Option am_V → am_H → Prop} (h : am_H) (l1 l2 l3 : Option am_V) (Lh : Lay h) : ex_ (d + 1) 122 85 [some (v_r (some 2)), l1, l2, l3] [] h Q ↔ ex_ d 116 0 [some (v_r (some 2)), some (v_i (4 : Int32))] [] h (fun r h' => ex_ (d + 1) 122 90 [some (v_r (some 2)), l1, l2, l3] (r.toList ++ []) h' Q) := by
  unfold ex_
  refine (am_Y_go 2 (ok := []) (g := (87, [some (v_r (some 2)), l1, l2, l3], [v_i (4 : Int32), v_r (some 2)], h)) rfl).trans ?_
  all_goals exact ((am_Y_call (j := 116) (na := 2) (ci := 8) (fl := 0) rfl rfl rfl).trans (cj_d ⟨⟨Nat.le_of_ble_eq_true rfl, Nat.le_of_ble_eq_true rfl, Nat.le_of_ble_eq_true rfl, rfl⟩, Or.inr (Or.inr (show (8 : Nat) < 20 ∧ am_is h (some 2) 8 from ⟨by decide, (la_is Lh (o := 2) rfl)⟩))⟩ Iff.rfl))

theorem b_X8_readClass_100 {d : Nat} {Q : Option am_V → am_H → Prop} (h : am_H) (l1 l2 l3 : Option am_V) (Lh : Lay h) : ex_ (d + 1) 122 100 [some (v_r (some 2)), l1, l2, l3] [] h Q ↔ ex_ d 115 0 [some (v_r (some 2))] [] h (fun r h' => ex_ (d + 1) 122 104 [some (v_r (some 2)), l1, l2, l3] (r.toList ++ []) h' Q) := by
  unfold ex_
  refine (am_Y_go 1 (ok := []) (g := (101, [some (v_r (some 2)), l1, l2, l3], [v_r (some 2)], h)) rfl).trans ?_
  all_goals exact ((am_Y_call (j := 115) (na := 1) (ci := 8) (fl := 0) rfl rfl rfl).trans (cj_d ⟨⟨Nat.le_of_ble_eq_true rfl, Nat.le_of_ble_eq_true rfl, Nat.le_of_ble_eq_true rfl, rfl⟩, Or.inr (Or.inr (show (8 : Nat) < 20 ∧ am_is h (some 2) 8 from ⟨by decide, (la_is Lh (o := 2) rfl)⟩))⟩ Iff.rfl))

theorem b_X8_readClass_90 {d : Nat} {Q : Option am_V → am_H → Prop} (h : am_H) (s0 : Int32) (l0 l1 l2 l3 : Option am_V) : ex_ d 122 90 [l0, l1, l2, l3] [v_i s0] h Q ↔ (s0 = 0 ∨ s0 = 1) ∧ Q (some (v_i s0)) h := by
  unfold ex_
  exact ((am_Y_ret rfl rfl rfl).trans (Iff.rfl))

theorem b_X8_readClass_104 {d : Nat} {Q : Option am_V → am_H → Prop} (h : am_H) (x2 : Int32) (l0 l1 l3 : Option am_V) : ex_ d 122 104 [l0, l1, some (v_i x2), l3] [] h Q ↔ ex_ d 122 26 [l0, l1, some (v_i (x2 + (1 : Int32))), l3] [] h Q := by
  unfold ex_
  refine (am_Y_go 2 (ok := []) (g := (26, [l0, l1, some (v_i (x2 + (1 : Int32))), l3], [], h)) rfl).trans ?_
  all_goals exact Iff.rfl

theorem b_X8_readMethod_0 {d : Nat} {Q : Option am_V → am_H → Prop} (h : am_H) (l1 l2 : Option am_V) (Lh : Lay h) : ex_ (d + 1) 123 0 [some (v_r (some 2)), l1, l2] [] h Q ↔ ex_ d 115 0 [some (v_r (some 2))] [] h (fun r h' => ex_ (d + 1) 123 4 [some (v_r (some 2)), l1, l2] (r.toList ++ []) h' Q) := by
  unfold ex_
  refine (am_Y_go 1 (ok := []) (g := (1, [some (v_r (some 2)), l1, l2], [v_r (some 2)], h)) rfl).trans ?_
  all_goals exact ((am_Y_call (j := 115) (na := 1) (ci := 8) (fl := 0) rfl rfl rfl).trans (cj_d ⟨⟨Nat.le_of_ble_eq_true rfl, Nat.le_of_ble_eq_true rfl, Nat.le_of_ble_eq_true rfl, rfl⟩, Or.inr (Or.inr (show (8 : Nat) < 20 ∧ am_is h (some 2) 8 from ⟨by decide, (la_is Lh (o := 2) rfl)⟩))⟩ Iff.rfl))

theorem b_X8_readMethod_4 {d : Nat} {Q : Option am_V → am_H → Prop} (h : am_H) (l1 l2 : Option am_V) (Lh : Lay h) : ex_ (d + 1) 123 4 [some (v_r (some 2)), l1, l2] [] h Q ↔ ex_ d 119 0 [some (v_r (some 2)), some (v_i (8 : Int32))] [] h (fun r h' => ex_ (d + 1) 123 19 [some (v_r (some 2)), some (v_i ((h_i h 2 6) - (1000 : Int32))), l2] (r.toList ++ []) h' Q) := by
  unfold ex_
  refine (am_Y_go 7 (ok := [am_is h (some 2) 8]) (g := (16, [some (v_r (some 2)), some (v_i ((h_i h 2 6) - (1000 : Int32))), l2], [v_i (8 : Int32), v_r (some 2)], h)) rfl).trans ?_
  simp only [am_all]
  all_goals exact cj_d (la_is Lh (o := 2) rfl) (((am_Y_call (j := 119) (na := 2) (ci := 8) (fl := 0) rfl rfl rfl).trans (cj_d ⟨⟨Nat.le_of_ble_eq_true rfl, Nat.le_of_ble_eq_true rfl, Nat.le_of_ble_eq_true rfl, rfl⟩, Or.inr (Or.inr (show (8 : Nat) < 20 ∧ am_is h (some 2) 8 from ⟨by decide, (la_is Lh (o := 2) rfl)⟩))⟩ Iff.rfl)))

theorem b_X8_readMethod_19 {d : Nat} {Q : Option am_V → am_H → Prop} (h : am_H) (s0 : Int32) (l0 l1 l2 : Option am_V) : ex_ d 123 19 [l0, l1, l2] [v_i s0] h Q ↔ if s0 = 0 then ex_ d 123 32 [l0, l1, l2] [] h Q else ex_ d 123 22 [l0, l1, l2] [] h Q := by
  unfold ex_
  refine (am_Y_go 1 (ok := []) (g := (if s0 = 0 then 32 else 22, [l0, l1, l2], [], h)) rfl).trans ?_
  all_goals exact am_Y_if

theorem b_X8_readMethod_32 {d : Nat} {Q : Option am_V → am_H → Prop} (h : am_H) (l0 l1 l2 : Option am_V) : ex_ d 123 32 [l0, l1, l2] [] h Q ↔ Q (some (v_i (0 : Int32))) h := by
  unfold ex_
  refine (am_Y_go 1 (ok := []) (g := (33, [l0, l1, l2], [v_i (0 : Int32)], h)) rfl).trans ?_
  all_goals exact ((am_Y_ret rfl rfl rfl).trans (am_rz (show am_fit 1 0 from Or.inl rfl)))

theorem b_X8_readMethod_22 {d : Nat} {Q : Option am_V → am_H → Prop} (h : am_H) (l1 l2 : Option am_V) (Lh : Lay h) : ex_ (d + 1) 123 22 [some (v_r (some 2)), l1, l2] [] h Q ↔ ex_ d 117 0 [some (v_r (some 2)), some (v_i (204 : Int32))] [] h (fun r h' => ex_ (d + 1) 123 29 [some (v_r (some 2)), l1, l2] (r.toList ++ []) h' Q) := by
  unfold ex_
  refine (am_Y_go 2 (ok := []) (g := (26, [some (v_r (some 2)), l1, l2], [v_i (204 : Int32), v_r (some 2)], h)) rfl).trans ?_
  all_goals exact ((am_Y_call (j := 117) (na := 2) (ci := 8) (fl := 0) rfl rfl rfl).trans (cj_d ⟨⟨Nat.le_of_ble_eq_true rfl, Nat.le_of_ble_eq_true rfl, Nat.le_of_ble_eq_true rfl, rfl⟩, Or.inr (Or.inr (show (8 : Nat) < 20 ∧ am_is h (some 2) 8 from ⟨by decide, (la_is Lh (o := 2) rfl)⟩))⟩ Iff.rfl))

theorem b_X8_readMethod_29 {d : Nat} {Q : Option am_V → am_H → Prop} (h : am_H) (s0 : Int32) (l0 l1 l2 : Option am_V) : ex_ d 123 29 [l0, l1, l2] [v_i s0] h Q ↔ if ¬ s0 = 0 then ex_ d 123 34 [l0, l1, l2] [] h Q else ex_ d 123 32 [l0, l1, l2] [] h Q := by
  unfold ex_
  refine (am_Y_go 1 (ok := []) (g := (if ¬ s0 = 0 then 34 else 32, [l0, l1, l2], [], h)) rfl).trans ?_
  all_goals exact am_Y_if

theorem b_X8_readMethod_34 {d : Nat} {Q : Option am_V → am_H → Prop} (h : am_H) (l1 l2 : Option am_V) (Lh : Lay h) : ex_ (d + 1) 123 34 [some (v_r (some 2)), l1, l2] [] h Q ↔ ex_ d 119 0 [some (v_r (some 2)), some (v_i (h_i h 5 0))] [] h (fun r h' => ex_ (d + 1) 123 54 [some (v_r (some 2)), l1, some (v_i ((h_i h 2 6) - (1000 : Int32)))] (r.toList ++ []) h' Q) := by
  have e0 : h_r h 2 9 = some 5 := la_r Lh (q := (2, 9, 5)) (by decide)
  unfold ex_
  refine (am_Y_go 9 (ok := [am_is h (some 2) 8, am_is h (some 2) 8, am_is h ((h_r h 2 9)) 1]) (g := (51, [some (v_r (some 2)), l1, some (v_i ((h_i h 2 6) - (1000 : Int32)))], [v_i (h_i h ((h_r h 2 9).getD 0) 0), v_r (some 2)], h)) rfl).trans ?_
  simp only [e0, Option.getD_some, am_all]
  all_goals exact cj_d (la_is Lh (o := 2) rfl) (cj_d (la_is Lh (o := 2) rfl) (cj_d (la_is Lh (o := 5) rfl) (((am_Y_call (j := 119) (na := 2) (ci := 8) (fl := 0) rfl rfl rfl).trans (cj_d ⟨⟨Nat.le_of_ble_eq_true rfl, Nat.le_of_ble_eq_true rfl, Nat.le_of_ble_eq_true rfl, rfl⟩, Or.inr (Or.inr (show (8 : Nat) < 20 ∧ am_is h (some 2) 8 from ⟨by decide, (la_is Lh (o := 2) rfl)⟩))⟩ Iff.rfl)))))

theorem b_X8_readMethod_54 {d : Nat} {Q : Option am_V → am_H → Prop} (h : am_H) (s0 : Int32) (l0 l1 l2 : Option am_V) : ex_ d 123 54 [l0, l1, l2] [v_i s0] h Q ↔ if ¬ s0 = 0 then ex_ d 123 59 [l0, l1, l2] [] h Q else ex_ d 123 57 [l0, l1, l2] [] h Q := by
  unfold ex_
  refine (am_Y_go 1 (ok := []) (g := (if ¬ s0 = 0 then 59 else 57, [l0, l1, l2], [], h)) rfl).trans ?_
  all_goals exact am_Y_if

theorem b_X8_readMethod_59 {d : Nat} {Q : Option am_V → am_H → Prop} (h : am_H) (l1 l2 : Option am_V) (Lh : Lay h) : ex_ d 123 59 [some (v_r (some 2)), l1, l2] [] h Q ↔ if (h_i h 2 6) = (205 : Int32) then ex_ d 123 85 [some (v_r (some 2)), l1, l2] [] h Q else ex_ d 123 69 [some (v_r (some 2)), l1, l2] [] h Q := by
  unfold ex_
  refine (am_Y_go 4 (ok := [am_is h (some 2) 8]) (g := (if (h_i h 2 6) = (205 : Int32) then 85 else 69, [some (v_r (some 2)), l1, l2], [], h)) rfl).trans ?_
  simp only [am_all]
  all_goals exact cj_d (la_is Lh (o := 2) rfl) (am_Y_if)

theorem b_X8_readMethod_57 {d : Nat} {Q : Option am_V → am_H → Prop} (h : am_H) (l0 l1 l2 : Option am_V) : ex_ d 123 57 [l0, l1, l2] [] h Q ↔ Q (some (v_i (0 : Int32))) h := by
  unfold ex_
  refine (am_Y_go 1 (ok := []) (g := (58, [l0, l1, l2], [v_i (0 : Int32)], h)) rfl).trans ?_
  all_goals exact ((am_Y_ret rfl rfl rfl).trans (am_rz (show am_fit 1 0 from Or.inl rfl)))

theorem b_X8_readMethod_85 {d : Nat} {Q : Option am_V → am_H → Prop} (h : am_H) (x2 : Int32) (x1 : Int32) (Lh : Lay h) : ex_ d 123 85 [some (v_r (some 2)), some (v_i x1), some (v_i x2)] [] h Q ↔ if ¬ (h_i h 2 6) = (205 : Int32) then ex_ d 123 105 [some (v_r (some 2)), some (v_i x1), some (v_i x2)] [v_i x1, v_i x2, v_r (some 5)] h Q else ex_ d 123 101 [some (v_r (some 2)), some (v_i x1), some (v_i x2)] [v_i x1, v_i x2, v_r (some 5)] h Q := by
  have e0 : h_r h 2 9 = some 5 := la_r Lh (q := (2, 9, 5)) (by decide)
  unfold ex_
  refine (am_Y_go 8 (ok := [am_is h (some 2) 8, am_is h (some 2) 8]) (g := (if ¬ (h_i h 2 6) = (205 : Int32) then 105 else 101, [some (v_r (some 2)), some (v_i x1), some (v_i x2)], [v_i x1, v_i x2, v_r ((h_r h 2 9))], h)) rfl).trans ?_
  simp only [e0, Option.getD_some, am_all]
  all_goals exact cj_d (la_is Lh (o := 2) rfl) (cj_d (la_is Lh (o := 2) rfl) (am_Y_if))

theorem b_X8_readMethod_69 {d : Nat} {Q : Option am_V → am_H → Prop} (h : am_H) (l1 l2 : Option am_V) (Lh : Lay h) : ex_ d 123 69 [some (v_r (some 2)), l1, l2] [] h Q ↔ if (h_i h 2 6) = (206 : Int32) then ex_ d 123 85 [some (v_r (some 2)), l1, l2] [] h Q else ex_ d 123 79 [some (v_r (some 2)), l1, l2] [] h Q := by
  unfold ex_
  refine (am_Y_go 4 (ok := [am_is h (some 2) 8]) (g := (if (h_i h 2 6) = (206 : Int32) then 85 else 79, [some (v_r (some 2)), l1, l2], [], h)) rfl).trans ?_
  simp only [am_all]
  all_goals exact cj_d (la_is Lh (o := 2) rfl) (am_Y_if)

theorem b_X8_readMethod_105 {d : Nat} {Q : Option am_V → am_H → Prop} (h : am_H) (s0 : Int32) (s1 : Int32) (t2 : Nat) (l0 l1 l2 : Option am_V) (F_t2 : y_Facts h t2) : ex_ (d + 1) 123 105 [l0, l1, l2] [v_i s0, v_i s1, v_r (some t2)] h Q ↔ ex_ d 39 0 [some (v_r (some t2)), some (v_i s1), some (v_i s0), some (v_i (1 : Int32)), none] [] h (fun r h' => ex_ (d + 1) 123 109 [l0, l1, l2] (r.toList ++ []) h' Q) := by
  unfold ex_
  refine (am_Y_go 1 (ok := []) (g := (106, [l0, l1, l2], [v_i (1 : Int32), v_i s0, v_i s1, v_r (some t2)], h)) rfl).trans ?_
  all_goals exact ((am_Y_call (j := 39) (na := 4) (ci := 1) (fl := 0) rfl rfl rfl).trans (cj_d ⟨⟨Nat.le_of_ble_eq_true rfl, Nat.le_of_ble_eq_true rfl, Nat.le_of_ble_eq_true rfl, rfl⟩, Or.inr (Or.inr (show (1 : Nat) < 20 ∧ am_is h (some t2) 1 from ⟨by decide, (lr_is (F_t2.1 0 rfl))⟩))⟩ Iff.rfl))

theorem b_X8_readMethod_101 {d : Nat} {Q : Option am_V → am_H → Prop} (h : am_H) (s0 : Int32) (s1 : Int32) (t2 : Nat) (l0 l1 l2 : Option am_V) (F_t2 : y_Facts h t2) : ex_ (d + 1) 123 101 [l0, l1, l2] [v_i s0, v_i s1, v_r (some t2)] h Q ↔ ex_ d 39 0 [some (v_r (some t2)), some (v_i s1), some (v_i s0), some (v_i (0 : Int32)), none] [] h (fun r h' => ex_ (d + 1) 123 109 [l0, l1, l2] (r.toList ++ []) h' Q) := by
  unfold ex_
  refine (am_Y_go 2 (ok := []) (g := (106, [l0, l1, l2], [v_i (0 : Int32), v_i s0, v_i s1, v_r (some t2)], h)) rfl).trans ?_
  all_goals exact ((am_Y_call (j := 39) (na := 4) (ci := 1) (fl := 0) rfl rfl rfl).trans (cj_d ⟨⟨Nat.le_of_ble_eq_true rfl, Nat.le_of_ble_eq_true rfl, Nat.le_of_ble_eq_true rfl, rfl⟩, Or.inr (Or.inr (show (1 : Nat) < 20 ∧ am_is h (some t2) 1 from ⟨by decide, (lr_is (F_t2.1 0 rfl))⟩))⟩ Iff.rfl))

theorem b_X8_readMethod_79 {d : Nat} {Q : Option am_V → am_H → Prop} (h : am_H) (l1 l2 : Option am_V) (Lh : Lay h) : ex_ (d + 1) 123 79 [some (v_r (some 2)), l1, l2] [] h Q ↔ ex_ d 116 0 [some (v_r (some 2)), some (v_i (2 : Int32))] [] h (fun r h' => ex_ (d + 1) 123 84 [some (v_r (some 2)), l1, l2] (r.toList ++ []) h' Q) := by
  unfold ex_
  refine (am_Y_go 2 (ok := []) (g := (81, [some (v_r (some 2)), l1, l2], [v_i (2 : Int32), v_r (some 2)], h)) rfl).trans ?_
  all_goals exact ((am_Y_call (j := 116) (na := 2) (ci := 8) (fl := 0) rfl rfl rfl).trans (cj_d ⟨⟨Nat.le_of_ble_eq_true rfl, Nat.le_of_ble_eq_true rfl, Nat.le_of_ble_eq_true rfl, rfl⟩, Or.inr (Or.inr (show (8 : Nat) < 20 ∧ am_is h (some 2) 8 from ⟨by decide, (la_is Lh (o := 2) rfl)⟩))⟩ Iff.rfl))

theorem b_X8_readMethod_109 {d : Nat} {Q : Option am_V → am_H → Prop} (h : am_H) (s0 : Int32) (l1 l2 : Option am_V) (Lh : Lay h) : ex_ (d + 1) 123 109 [some (v_r (some 2)), l1, l2] [v_i s0] h Q ↔ ex_ d 115 0 [some (v_r (some 2))] [] h (fun r h' => ex_ (d + 1) 123 114 [some (v_r (some 2)), l1, l2] (r.toList ++ []) h' Q) := by
  unfold ex_
  refine (am_Y_go 2 (ok := []) (g := (111, [some (v_r (some 2)), l1, l2], [v_r (some 2)], h)) rfl).trans ?_
  all_goals exact ((am_Y_call (j := 115) (na := 1) (ci := 8) (fl := 0) rfl rfl rfl).trans (cj_d ⟨⟨Nat.le_of_ble_eq_true rfl, Nat.le_of_ble_eq_true rfl, Nat.le_of_ble_eq_true rfl, rfl⟩, Or.inr (Or.inr (show (8 : Nat) < 20 ∧ am_is h (some 2) 8 from ⟨by decide, (la_is Lh (o := 2) rfl)⟩))⟩ Iff.rfl))

theorem b_X8_readMethod_84 {d : Nat} {Q : Option am_V → am_H → Prop} (h : am_H) (s0 : Int32) (l0 l1 l2 : Option am_V) : ex_ d 123 84 [l0, l1, l2] [v_i s0] h Q ↔ (s0 = 0 ∨ s0 = 1) ∧ Q (some (v_i s0)) h := by
  unfold ex_
  exact ((am_Y_ret rfl rfl rfl).trans (Iff.rfl))

theorem b_X8_readMethod_114 {d : Nat} {Q : Option am_V → am_H → Prop} (h : am_H) (l0 l1 l2 : Option am_V) : ex_ d 123 114 [l0, l1, l2] [] h Q ↔ Q (some (v_i (1 : Int32))) h := by
  unfold ex_
  refine (am_Y_go 1 (ok := []) (g := (115, [l0, l1, l2], [v_i (1 : Int32)], h)) rfl).trans ?_
  all_goals exact ((am_Y_ret rfl rfl rfl).trans (am_rz (show am_fit 1 1 from Or.inr rfl)))

theorem b_X8_emit_0 {d : Nat} {Q : Option am_V → am_H → Prop} (h : am_H) (l1 : Option am_V) (Lh : Lay h) : ex_ d 124 0 [some (v_r (some 2)), l1] [] h Q ↔ if (nI 900) ≤ (h_i h 2 14) then ex_ d 124 32 [some (v_r (some 2)), l1] [] h Q else ex_ d 124 12 [some (v_r (some 2)), l1] [] h Q := by
  have e0 : h_r h 2 13 = some 9 := la_r Lh (q := (2, 13, 9)) (by decide)
  have e1 : h_l h 9 = 900 := (la_l Lh (o := 9) rfl)
  unfold ex_
  refine (am_Y_go 6 (ok := [am_is h (some 2) 8, am_is h (some 2) 8, am_an h ((h_r h 2 13))]) (g := (if (nI (h_l h ((h_r h 2 13).getD 0))) ≤ (h_i h 2 14) then 32 else 12, [some (v_r (some 2)), l1], [], h)) rfl).trans ?_
  simp only [e0, e1, Option.getD_some, am_all]
  all_goals exact cj_d (la_is Lh (o := 2) rfl) (cj_d (la_is Lh (o := 2) rfl) (cj_d (la_an20 Lh (o := 9) rfl) (am_Y_if)))

theorem b_X8_emit_32 {d : Nat} {Q : Option am_V → am_H → Prop} (h : am_H) (l0 l1 : Option am_V) : ex_ d 124 32 [l0, l1] [] h Q ↔ Q (none) h := by
  unfold ex_
  exact ((am_Y_ret rfl rfl rfl).trans (am_rz rfl))

theorem b_X8_emit_12 {d : Nat} {Q : Option am_V → am_H → Prop} (h : am_H) (x1 : Int32) (Lh : Lay h) : ex_ d 124 12 [some (v_r (some 2)), some (v_i x1)] [] h Q ↔ vp_in (h_i h 2 14) 900 ∧ Q (none) (p_i (p_i h 9 (Int32.toNatClampNeg (h_i h 2 14)) x1) 2 14 ((h_i (p_i h 9 (Int32.toNatClampNeg (h_i h 2 14)) x1) 2 14) + (1 : Int32))) := by
  have e0 : h_r h 2 13 = some 9 := la_r Lh (q := (2, 13, 9)) (by decide)
  unfold ex_
  refine (am_Y_go 12 (ok := [am_is h (some 2) 8, am_is h (some 2) 8, am_ar h ((h_r h 2 13)) 20 (h_i h 2 14), am_is h (some 2) 8, am_is h (some 2) 8]) (g := (32, [some (v_r (some 2)), some (v_i x1)], [], (p_i (p_i h ((h_r h 2 13).getD 0) (Int32.toNatClampNeg (h_i h 2 14)) x1) 2 14 ((h_i (p_i h ((h_r h 2 13).getD 0) (Int32.toNatClampNeg (h_i h 2 14)) x1) 2 14) + (1 : Int32))))) rfl).trans ?_
  simp only [e0, Option.getD_some, am_all]
  all_goals exact cj_d (la_is Lh (o := 2) rfl) (cj_d (la_is Lh (o := 2) rfl) (cj_k (la_ar Lh (o := 9) rfl) (cj_d (la_is Lh (o := 2) rfl) (cj_d (la_is Lh (o := 2) rfl) (((am_Y_ret rfl rfl rfl).trans (am_rz rfl)))))))

theorem b_X8_enter_0 {d : Nat} {Q : Option am_V → am_H → Prop} (h : am_H) (Lh : Lay h) : ex_ d 125 0 [some (v_r (some 2))] [] h Q ↔ if (h_i h 2 16) < (6 : Int32) then ex_ d 125 15 [some (v_r (some 2))] [] h Q else ex_ d 125 9 [some (v_r (some 2))] [] h Q := by
  unfold ex_
  refine (am_Y_go 4 (ok := [am_is h (some 2) 8]) (g := (if (h_i h 2 16) < (6 : Int32) then 15 else 9, [some (v_r (some 2))], [], h)) rfl).trans ?_
  simp only [am_all]
  all_goals exact cj_d (la_is Lh (o := 2) rfl) (am_Y_if)

theorem b_X8_enter_15 {d : Nat} {Q : Option am_V → am_H → Prop} (h : am_H) (Lh : Lay h) : ex_ (d + 1) 125 15 [some (v_r (some 2))] [] h Q ↔ ex_ d 115 0 [some (v_r (some 2))] [] (p_i h 2 16 ((h_i h 2 16) + (1 : Int32))) (fun r h' => ex_ (d + 1) 125 29 [some (v_r (some 2))] (r.toList ++ []) h' Q) := by
  unfold ex_
  refine (am_Y_go 7 (ok := [am_is h (some 2) 8, am_is h (some 2) 8]) (g := (26, [some (v_r (some 2))], [v_r (some 2)], (p_i h 2 16 ((h_i h 2 16) + (1 : Int32))))) rfl).trans ?_
  simp only [am_all]
  all_goals exact cj_d (la_is Lh (o := 2) rfl) (cj_d (la_is Lh (o := 2) rfl) (((am_Y_call (j := 115) (na := 1) (ci := 8) (fl := 0) rfl rfl rfl).trans (cj_d ⟨⟨Nat.le_of_ble_eq_true rfl, Nat.le_of_ble_eq_true rfl, Nat.le_of_ble_eq_true rfl, rfl⟩, Or.inr (Or.inr (show (8 : Nat) < 20 ∧ am_is h (some 2) 8 from ⟨by decide, (la_is Lh (o := 2) rfl)⟩))⟩ Iff.rfl))))

theorem b_X8_enter_9 {d : Nat} {Q : Option am_V → am_H → Prop} (h : am_H) (Lh : Lay h) : ex_ (d + 1) 125 9 [some (v_r (some 2))] [] h Q ↔ ex_ d 116 0 [some (v_r (some 2)), some (v_i (4 : Int32))] [] h (fun r h' => ex_ (d + 1) 125 14 [some (v_r (some 2))] (r.toList ++ []) h' Q) := by
  unfold ex_
  refine (am_Y_go 2 (ok := []) (g := (11, [some (v_r (some 2))], [v_i (4 : Int32), v_r (some 2)], h)) rfl).trans ?_
  all_goals exact ((am_Y_call (j := 116) (na := 2) (ci := 8) (fl := 0) rfl rfl rfl).trans (cj_d ⟨⟨Nat.le_of_ble_eq_true rfl, Nat.le_of_ble_eq_true rfl, Nat.le_of_ble_eq_true rfl, rfl⟩, Or.inr (Or.inr (show (8 : Nat) < 20 ∧ am_is h (some 2) 8 from ⟨by decide, (la_is Lh (o := 2) rfl)⟩))⟩ Iff.rfl))

theorem b_X8_enter_29 {d : Nat} {Q : Option am_V → am_H → Prop} (h : am_H) (l0 : Option am_V) : ex_ d 125 29 [l0] [] h Q ↔ Q (some (v_i (1 : Int32))) h := by
  unfold ex_
  refine (am_Y_go 1 (ok := []) (g := (30, [l0], [v_i (1 : Int32)], h)) rfl).trans ?_
  all_goals exact ((am_Y_ret rfl rfl rfl).trans (am_rz (show am_fit 1 1 from Or.inr rfl)))

theorem b_X8_enter_14 {d : Nat} {Q : Option am_V → am_H → Prop} (h : am_H) (s0 : Int32) (l0 : Option am_V) : ex_ d 125 14 [l0] [v_i s0] h Q ↔ (s0 = 0 ∨ s0 = 1) ∧ Q (some (v_i s0)) h := by
  unfold ex_
  exact ((am_Y_ret rfl rfl rfl).trans (Iff.rfl))

theorem b_X8_leave_0 {d : Nat} {Q : Option am_V → am_H → Prop} (h : am_H) (Lh : Lay h) : ex_ d 126 0 [some (v_r (some 2))] [] h Q ↔ Q (some (v_i (1 : Int32))) (p_i h 2 16 ((h_i h 2 16) - (1 : Int32))) := by
  unfold ex_
  refine (am_Y_go 7 (ok := [am_is h (some 2) 8, am_is h (some 2) 8]) (g := (11, [some (v_r (some 2))], [v_i (1 : Int32)], (p_i h 2 16 ((h_i h 2 16) - (1 : Int32))))) rfl).trans ?_
  simp only [am_all]
  all_goals exact cj_d (la_is Lh (o := 2) rfl) (cj_d (la_is Lh (o := 2) rfl) (((am_Y_ret rfl rfl rfl).trans (am_rz (show am_fit 1 1 from Or.inr rfl)))))

theorem b_X8_readName_0 {d : Nat} {Q : Option am_V → am_H → Prop} (h : am_H) (Lh : Lay h) : ex_ (d + 1) 127 0 [some (v_r (some 2))] [] h Q ↔ ex_ d 124 0 [some (v_r (some 2)), some (v_i (-(h_i h 2 6)))] [] h (fun r h' => ex_ (d + 1) 127 9 [some (v_r (some 2))] (r.toList ++ []) h' Q) := by
  unfold ex_
  refine (am_Y_go 4 (ok := [am_is h (some 2) 8]) (g := (6, [some (v_r (some 2))], [v_i (-(h_i h 2 6)), v_r (some 2)], h)) rfl).trans ?_
  simp only [am_all]
  all_goals exact cj_d (la_is Lh (o := 2) rfl) (((am_Y_call (j := 124) (na := 2) (ci := 8) (fl := 0) rfl rfl rfl).trans (cj_d ⟨⟨Nat.le_of_ble_eq_true rfl, Nat.le_of_ble_eq_true rfl, Nat.le_of_ble_eq_true rfl, rfl⟩, Or.inr (Or.inr (show (8 : Nat) < 20 ∧ am_is h (some 2) 8 from ⟨by decide, (la_is Lh (o := 2) rfl)⟩))⟩ Iff.rfl)))

theorem b_X8_readName_9 {d : Nat} {Q : Option am_V → am_H → Prop} (h : am_H) (Lh : Lay h) : ex_ (d + 1) 127 9 [some (v_r (some 2))] [] h Q ↔ ex_ d 115 0 [some (v_r (some 2))] [] h (fun r h' => ex_ (d + 1) 127 13 [some (v_r (some 2))] (r.toList ++ []) h' Q) := by
  unfold ex_
  refine (am_Y_go 1 (ok := []) (g := (10, [some (v_r (some 2))], [v_r (some 2)], h)) rfl).trans ?_
  all_goals exact ((am_Y_call (j := 115) (na := 1) (ci := 8) (fl := 0) rfl rfl rfl).trans (cj_d ⟨⟨Nat.le_of_ble_eq_true rfl, Nat.le_of_ble_eq_true rfl, Nat.le_of_ble_eq_true rfl, rfl⟩, Or.inr (Or.inr (show (8 : Nat) < 20 ∧ am_is h (some 2) 8 from ⟨by decide, (la_is Lh (o := 2) rfl)⟩))⟩ Iff.rfl))

theorem b_X8_readName_13 {d : Nat} {Q : Option am_V → am_H → Prop} (h : am_H) (l0 : Option am_V) : ex_ d 127 13 [l0] [] h Q ↔ Q (some (v_i (1 : Int32))) h := by
  unfold ex_
  refine (am_Y_go 1 (ok := []) (g := (14, [l0], [v_i (1 : Int32)], h)) rfl).trans ?_
  all_goals exact ((am_Y_ret rfl rfl rfl).trans (am_rz (show am_fit 1 1 from Or.inr rfl)))

theorem b_X8_readAtom_0 {d : Nat} {Q : Option am_V → am_H → Prop} (h : am_H) (Lh : Lay h) : ex_ (d + 1) 128 0 [some (v_r (some 2))] [] h Q ↔ ex_ d 118 0 [some (v_r (some 2))] [] h (fun r h' => ex_ (d + 1) 128 4 [some (v_r (some 2))] (r.toList ++ []) h' Q) := by
  unfold ex_
  refine (am_Y_go 1 (ok := []) (g := (1, [some (v_r (some 2))], [v_r (some 2)], h)) rfl).trans ?_
  all_goals exact ((am_Y_call (j := 118) (na := 1) (ci := 8) (fl := 0) rfl rfl rfl).trans (cj_d ⟨⟨Nat.le_of_ble_eq_true rfl, Nat.le_of_ble_eq_true rfl, Nat.le_of_ble_eq_true rfl, rfl⟩, Or.inr (Or.inr (show (8 : Nat) < 20 ∧ am_is h (some 2) 8 from ⟨by decide, (la_is Lh (o := 2) rfl)⟩))⟩ Iff.rfl))

theorem b_X8_readAtom_4 {d : Nat} {Q : Option am_V → am_H → Prop} (h : am_H) (s0 : Int32) (l0 : Option am_V) : ex_ d 128 4 [l0] [v_i s0] h Q ↔ if s0 = 0 then ex_ d 128 25 [l0] [] h Q else ex_ d 128 7 [l0] [] h Q := by
  unfold ex_
  refine (am_Y_go 1 (ok := []) (g := (if s0 = 0 then 25 else 7, [l0], [], h)) rfl).trans ?_
  all_goals exact am_Y_if

theorem b_X8_readAtom_25 {d : Nat} {Q : Option am_V → am_H → Prop} (h : am_H) (Lh : Lay h) : ex_ d 128 25 [some (v_r (some 2))] [] h Q ↔ if (h_i h 2 6) = (40 : Int32) then ex_ d 128 104 [some (v_r (some 2))] [] h Q else if (h_i h 2 6) = (201 : Int32) then ex_ d 128 187 [some (v_r (some 2))] [] h Q else if (h_i h 2 6) = (203 : Int32) then ex_ d 128 187 [some (v_r (some 2))] [] h Q else if (h_i h 2 6) = (204 : Int32) then ex_ d 128 187 [some (v_r (some 2))] [] h Q else if (h_i h 2 6) = (206 : Int32) then ex_ d 128 167 [some (v_r (some 2))] [] h Q else if (h_i h 2 6) = (209 : Int32) then ex_ d 128 140 [some (v_r (some 2))] [] h Q else if (h_i h 2 6) = (213 : Int32) then ex_ d 128 187 [some (v_r (some 2))] [] h Q else if (h_i h 2 6) = (214 : Int32) then ex_ d 128 167 [some (v_r (some 2))] [] h Q else ex_ d 128 192 [some (v_r (some 2))] [] h Q := by
  unfold ex_
  refine (am_Y_go 3 (ok := [am_is h (some 2) 8]) (g := (am_sw (h_i h 2 6) 192 [((40 : Int32), 104), ((201 : Int32), 187), ((203 : Int32), 187), ((204 : Int32), 187), ((206 : Int32), 167), ((209 : Int32), 140), ((213 : Int32), 187), ((214 : Int32), 167)], [some (v_r (some 2))], [], h)) rfl).trans ?_
  simp only [am_all]
  all_goals exact cj_d (la_is Lh (o := 2) rfl) ((by simp only [am_sw, am_Y_if, am_all]))

theorem b_X8_readAtom_7 {d : Nat} {Q : Option am_V → am_H → Prop} (h : am_H) (Lh : Lay h) : ex_ (d + 1) 128 7 [some (v_r (some 2))] [] h Q ↔ ex_ d 124 0 [some (v_r (some 2)), some (v_i ((h_i h 2 6) - (1000 : Int32)))] [] h (fun r h' => ex_ (d + 1) 128 19 [some (v_r (some 2))] (r.toList ++ []) h' Q) := by
  unfold ex_
  refine (am_Y_go 5 (ok := [am_is h (some 2) 8]) (g := (16, [some (v_r (some 2))], [v_i ((h_i h 2 6) - (1000 : Int32)), v_r (some 2)], h)) rfl).trans ?_
  simp only [am_all]
  all_goals exact cj_d (la_is Lh (o := 2) rfl) (((am_Y_call (j := 124) (na := 2) (ci := 8) (fl := 0) rfl rfl rfl).trans (cj_d ⟨⟨Nat.le_of_ble_eq_true rfl, Nat.le_of_ble_eq_true rfl, Nat.le_of_ble_eq_true rfl, rfl⟩, Or.inr (Or.inr (show (8 : Nat) < 20 ∧ am_is h (some 2) 8 from ⟨by decide, (la_is Lh (o := 2) rfl)⟩))⟩ Iff.rfl)))

theorem b_X8_readAtom_192 {d : Nat} {Q : Option am_V → am_H → Prop} (h : am_H) (Lh : Lay h) : ex_ (d + 1) 128 192 [some (v_r (some 2))] [] h Q ↔ ex_ d 116 0 [some (v_r (some 2)), some (v_i (2 : Int32))] [] h (fun r h' => ex_ (d + 1) 128 197 [some (v_r (some 2))] (r.toList ++ []) h' Q) := by
  unfold ex_
  refine (am_Y_go 2 (ok := []) (g := (194, [some (v_r (some 2))], [v_i (2 : Int32), v_r (some 2)], h)) rfl).trans ?_
  all_goals exact ((am_Y_call (j := 116) (na := 2) (ci := 8) (fl := 0) rfl rfl rfl).trans (cj_d ⟨⟨Nat.le_of_ble_eq_true rfl, Nat.le_of_ble_eq_true rfl, Nat.le_of_ble_eq_true rfl, rfl⟩, Or.inr (Or.inr (show (8 : Nat) < 20 ∧ am_is h (some 2) 8 from ⟨by decide, (la_is Lh (o := 2) rfl)⟩))⟩ Iff.rfl))

theorem b_X8_readAtom_104 {d : Nat} {Q : Option am_V → am_H → Prop} (h : am_H) (Lh : Lay h) : ex_ (d + 1) 128 104 [some (v_r (some 2))] [] h Q ↔ ex_ d 125 0 [some (v_r (some 2))] [] h (fun r h' => ex_ (d + 1) 128 108 [some (v_r (some 2))] (r.toList ++ []) h' Q) := by
  unfold ex_
  refine (am_Y_go 1 (ok := []) (g := (105, [some (v_r (some 2))], [v_r (some 2)], h)) rfl).trans ?_
  all_goals exact ((am_Y_call (j := 125) (na := 1) (ci := 8) (fl := 0) rfl rfl rfl).trans (cj_d ⟨⟨Nat.le_of_ble_eq_true rfl, Nat.le_of_ble_eq_true rfl, Nat.le_of_ble_eq_true rfl, rfl⟩, Or.inr (Or.inr (show (8 : Nat) < 20 ∧ am_is h (some 2) 8 from ⟨by decide, (la_is Lh (o := 2) rfl)⟩))⟩ Iff.rfl))

theorem b_X8_readAtom_187 {d : Nat} {Q : Option am_V → am_H → Prop} (h : am_H) (Lh : Lay h) : ex_ (d + 1) 128 187 [some (v_r (some 2))] [] h Q ↔ ex_ d 127 0 [some (v_r (some 2))] [] h (fun r h' => ex_ (d + 1) 128 191 [some (v_r (some 2))] (r.toList ++ []) h' Q) := by
  unfold ex_
  refine (am_Y_go 1 (ok := []) (g := (188, [some (v_r (some 2))], [v_r (some 2)], h)) rfl).trans ?_
  all_goals exact ((am_Y_call (j := 127) (na := 1) (ci := 8) (fl := 0) rfl rfl rfl).trans (cj_d ⟨⟨Nat.le_of_ble_eq_true rfl, Nat.le_of_ble_eq_true rfl, Nat.le_of_ble_eq_true rfl, rfl⟩, Or.inr (Or.inr (show (8 : Nat) < 20 ∧ am_is h (some 2) 8 from ⟨by decide, (la_is Lh (o := 2) rfl)⟩))⟩ Iff.rfl))

theorem b_X8_readAtom_167 {d : Nat} {Q : Option am_V → am_H → Prop} (h : am_H) (Lh : Lay h) : ex_ d 128 167 [some (v_r (some 2))] [] h Q ↔ if (h_i h 2 15) = 0 then ex_ d 128 181 [some (v_r (some 2))] [] h Q else ex_ d 128 174 [some (v_r (some 2))] [] h Q := by
  unfold ex_
  refine (am_Y_go 3 (ok := [am_is h (some 2) 8]) (g := (if (h_i h 2 15) = 0 then 181 else 174, [some (v_r (some 2))], [], h)) rfl).trans ?_
  simp only [am_all]
  all_goals exact cj_d (la_is Lh (o := 2) rfl) (am_Y_if)

theorem b_X8_readAtom_140 {d : Nat} {Q : Option am_V → am_H → Prop} (h : am_H) (Lh : Lay h) : ex_ (d + 1) 128 140 [some (v_r (some 2))] [] h Q ↔ ex_ d 125 0 [some (v_r (some 2))] [] h (fun r h' => ex_ (d + 1) 128 144 [some (v_r (some 2))] (r.toList ++ []) h' Q) := by
  unfold ex_
  refine (am_Y_go 1 (ok := []) (g := (141, [some (v_r (some 2))], [v_r (some 2)], h)) rfl).trans ?_
  all_goals exact ((am_Y_call (j := 125) (na := 1) (ci := 8) (fl := 0) rfl rfl rfl).trans (cj_d ⟨⟨Nat.le_of_ble_eq_true rfl, Nat.le_of_ble_eq_true rfl, Nat.le_of_ble_eq_true rfl, rfl⟩, Or.inr (Or.inr (show (8 : Nat) < 20 ∧ am_is h (some 2) 8 from ⟨by decide, (la_is Lh (o := 2) rfl)⟩))⟩ Iff.rfl))

theorem b_X8_readAtom_19 {d : Nat} {Q : Option am_V → am_H → Prop} (h : am_H) (Lh : Lay h) : ex_ (d + 1) 128 19 [some (v_r (some 2))] [] h Q ↔ ex_ d 115 0 [some (v_r (some 2))] [] h (fun r h' => ex_ (d + 1) 128 23 [some (v_r (some 2))] (r.toList ++ []) h' Q) := by
  unfold ex_
  refine (am_Y_go 1 (ok := []) (g := (20, [some (v_r (some 2))], [v_r (some 2)], h)) rfl).trans ?_
  all_goals exact ((am_Y_call (j := 115) (na := 1) (ci := 8) (fl := 0) rfl rfl rfl).trans (cj_d ⟨⟨Nat.le_of_ble_eq_true rfl, Nat.le_of_ble_eq_true rfl, Nat.le_of_ble_eq_true rfl, rfl⟩, Or.inr (Or.inr (show (8 : Nat) < 20 ∧ am_is h (some 2) 8 from ⟨by decide, (la_is Lh (o := 2) rfl)⟩))⟩ Iff.rfl))

theorem b_X8_readAtom_197 {d : Nat} {Q : Option am_V → am_H → Prop} (h : am_H) (s0 : Int32) (l0 : Option am_V) : ex_ d 128 197 [l0] [v_i s0] h Q ↔ (s0 = 0 ∨ s0 = 1) ∧ Q (some (v_i s0)) h := by
  unfold ex_
  exact ((am_Y_ret rfl rfl rfl).trans (Iff.rfl))

theorem b_X8_readAtom_108 {d : Nat} {Q : Option am_V → am_H → Prop} (h : am_H) (s0 : Int32) (l0 : Option am_V) : ex_ d 128 108 [l0] [v_i s0] h Q ↔ if s0 = 0 then ex_ d 128 138 [l0] [] h Q else ex_ d 128 111 [l0] [] h Q := by
  unfold ex_
  refine (am_Y_go 1 (ok := []) (g := (if s0 = 0 then 138 else 111, [l0], [], h)) rfl).trans ?_
  all_goals exact am_Y_if

theorem b_X8_readAtom_191 {d : Nat} {Q : Option am_V → am_H → Prop} (h : am_H) (s0 : Int32) (l0 : Option am_V) : ex_ d 128 191 [l0] [v_i s0] h Q ↔ (s0 = 0 ∨ s0 = 1) ∧ Q (some (v_i s0)) h := by
  unfold ex_
  exact ((am_Y_ret rfl rfl rfl).trans (Iff.rfl))

theorem b_X8_readAtom_181 {d : Nat} {Q : Option am_V → am_H → Prop} (h : am_H) (Lh : Lay h) : ex_ (d + 1) 128 181 [some (v_r (some 2))] [] h Q ↔ ex_ d 116 0 [some (v_r (some 2)), some (v_i (2 : Int32))] [] h (fun r h' => ex_ (d + 1) 128 186 [some (v_r (some 2))] (r.toList ++ []) h' Q) := by
  unfold ex_
  refine (am_Y_go 2 (ok := []) (g := (183, [some (v_r (some 2))], [v_i (2 : Int32), v_r (some 2)], h)) rfl).trans ?_
  all_goals exact ((am_Y_call (j := 116) (na := 2) (ci := 8) (fl := 0) rfl rfl rfl).trans (cj_d ⟨⟨Nat.le_of_ble_eq_true rfl, Nat.le_of_ble_eq_true rfl, Nat.le_of_ble_eq_true rfl, rfl⟩, Or.inr (Or.inr (show (8 : Nat) < 20 ∧ am_is h (some 2) 8 from ⟨by decide, (la_is Lh (o := 2) rfl)⟩))⟩ Iff.rfl))

theorem b_X8_readAtom_174 {d : Nat} {Q : Option am_V → am_H → Prop} (h : am_H) (Lh : Lay h) : ex_ (d + 1) 128 174 [some (v_r (some 2))] [] h Q ↔ ex_ d 127 0 [some (v_r (some 2))] [] h (fun r h' => ex_ (d + 1) 128 178 [some (v_r (some 2))] (r.toList ++ []) h' Q) := by
  unfold ex_
  refine (am_Y_go 1 (ok := []) (g := (175, [some (v_r (some 2))], [v_r (some 2)], h)) rfl).trans ?_
  all_goals exact ((am_Y_call (j := 127) (na := 1) (ci := 8) (fl := 0) rfl rfl rfl).trans (cj_d ⟨⟨Nat.le_of_ble_eq_true rfl, Nat.le_of_ble_eq_true rfl, Nat.le_of_ble_eq_true rfl, rfl⟩, Or.inr (Or.inr (show (8 : Nat) < 20 ∧ am_is h (some 2) 8 from ⟨by decide, (la_is Lh (o := 2) rfl)⟩))⟩ Iff.rfl))

theorem b_X8_readAtom_144 {d : Nat} {Q : Option am_V → am_H → Prop} (h : am_H) (s0 : Int32) (l0 : Option am_V) : ex_ d 128 144 [l0] [v_i s0] h Q ↔ if s0 = 0 then ex_ d 128 165 [l0] [] h Q else ex_ d 128 147 [l0] [] h Q := by
  unfold ex_
  refine (am_Y_go 1 (ok := []) (g := (if s0 = 0 then 165 else 147, [l0], [], h)) rfl).trans ?_
  all_goals exact am_Y_if

theorem b_X8_readAtom_23 {d : Nat} {Q : Option am_V → am_H → Prop} (h : am_H) (l0 : Option am_V) : ex_ d 128 23 [l0] [] h Q ↔ Q (some (v_i (1 : Int32))) h := by
  unfold ex_
  refine (am_Y_go 1 (ok := []) (g := (24, [l0], [v_i (1 : Int32)], h)) rfl).trans ?_
  all_goals exact ((am_Y_ret rfl rfl rfl).trans (am_rz (show am_fit 1 1 from Or.inr rfl)))

theorem b_X8_readAtom_138 {d : Nat} {Q : Option am_V → am_H → Prop} (h : am_H) (l0 : Option am_V) : ex_ d 128 138 [l0] [] h Q ↔ Q (some (v_i (0 : Int32))) h := by
  unfold ex_
  refine (am_Y_go 1 (ok := []) (g := (139, [l0], [v_i (0 : Int32)], h)) rfl).trans ?_
  all_goals exact ((am_Y_ret rfl rfl rfl).trans (am_rz (show am_fit 1 0 from Or.inl rfl)))

theorem b_X8_readAtom_111 {d : Nat} {Q : Option am_V → am_H → Prop} (h : am_H) (Lh : Lay h) : ex_ (d + 1) 128 111 [some (v_r (some 2))] [] h Q ↔ ex_ d 132 0 [some (v_r (some 2)), none, none, none] [] h (fun r h' => ex_ (d + 1) 128 115 [some (v_r (some 2))] (r.toList ++ []) h' Q) := by
  unfold ex_
  refine (am_Y_go 1 (ok := []) (g := (112, [some (v_r (some 2))], [v_r (some 2)], h)) rfl).trans ?_
  all_goals exact ((am_Y_call (j := 132) (na := 1) (ci := 8) (fl := 0) rfl rfl rfl).trans (cj_d ⟨⟨Nat.le_of_ble_eq_true rfl, Nat.le_of_ble_eq_true rfl, Nat.le_of_ble_eq_true rfl, rfl⟩, Or.inr (Or.inr (show (8 : Nat) < 20 ∧ am_is h (some 2) 8 from ⟨by decide, (la_is Lh (o := 2) rfl)⟩))⟩ Iff.rfl))

theorem b_X8_readAtom_186 {d : Nat} {Q : Option am_V → am_H → Prop} (h : am_H) (s0 : Int32) (l0 : Option am_V) : ex_ d 128 186 [l0] [v_i s0] h Q ↔ (s0 = 0 ∨ s0 = 1) ∧ Q (some (v_i s0)) h := by
  unfold ex_
  exact ((am_Y_ret rfl rfl rfl).trans (Iff.rfl))

theorem b_X8_readAtom_178 {d : Nat} {Q : Option am_V → am_H → Prop} (h : am_H) (s0 : Int32) (l0 : Option am_V) : ex_ d 128 178 [l0] [v_i s0] h Q ↔ (s0 = 0 ∨ s0 = 1) ∧ Q (some (v_i s0)) h := by
  unfold ex_
  refine (am_Y_go 1 (ok := []) (g := (186, [l0], [v_i s0], h)) rfl).trans ?_
  all_goals exact ((am_Y_ret rfl rfl rfl).trans (Iff.rfl))

theorem b_X8_readAtom_165 {d : Nat} {Q : Option am_V → am_H → Prop} (h : am_H) (l0 : Option am_V) : ex_ d 128 165 [l0] [] h Q ↔ Q (some (v_i (0 : Int32))) h := by
  unfold ex_
  refine (am_Y_go 1 (ok := []) (g := (166, [l0], [v_i (0 : Int32)], h)) rfl).trans ?_
  all_goals exact ((am_Y_ret rfl rfl rfl).trans (am_rz (show am_fit 1 0 from Or.inl rfl)))

theorem b_X8_readAtom_147 {d : Nat} {Q : Option am_V → am_H → Prop} (h : am_H) (Lh : Lay h) : ex_ (d + 1) 128 147 [some (v_r (some 2))] [] h Q ↔ ex_ d 130 0 [some (v_r (some 2)), none] [] h (fun r h' => ex_ (d + 1) 128 151 [some (v_r (some 2))] (r.toList ++ []) h' Q) := by
  unfold ex_
  refine (am_Y_go 1 (ok := []) (g := (148, [some (v_r (some 2))], [v_r (some 2)], h)) rfl).trans ?_
  all_goals exact ((am_Y_call (j := 130) (na := 1) (ci := 8) (fl := 0) rfl rfl rfl).trans (cj_d ⟨⟨Nat.le_of_ble_eq_true rfl, Nat.le_of_ble_eq_true rfl, Nat.le_of_ble_eq_true rfl, rfl⟩, Or.inr (Or.inr (show (8 : Nat) < 20 ∧ am_is h (some 2) 8 from ⟨by decide, (la_is Lh (o := 2) rfl)⟩))⟩ Iff.rfl))

theorem b_X8_readAtom_115 {d : Nat} {Q : Option am_V → am_H → Prop} (h : am_H) (s0 : Int32) (l0 : Option am_V) : ex_ d 128 115 [l0] [v_i s0] h Q ↔ if s0 = 0 then ex_ d 128 138 [l0] [] h Q else ex_ d 128 118 [l0] [] h Q := by
  unfold ex_
  refine (am_Y_go 1 (ok := []) (g := (if s0 = 0 then 138 else 118, [l0], [], h)) rfl).trans ?_
  all_goals exact am_Y_if

theorem b_X8_readAtom_151 {d : Nat} {Q : Option am_V → am_H → Prop} (h : am_H) (s0 : Int32) (l0 : Option am_V) : ex_ d 128 151 [l0] [v_i s0] h Q ↔ if s0 = 0 then ex_ d 128 165 [l0] [] h Q else ex_ d 128 154 [l0] [] h Q := by
  unfold ex_
  refine (am_Y_go 1 (ok := []) (g := (if s0 = 0 then 165 else 154, [l0], [], h)) rfl).trans ?_
  all_goals exact am_Y_if

theorem b_X8_readAtom_118 {d : Nat} {Q : Option am_V → am_H → Prop} (h : am_H) (Lh : Lay h) : ex_ (d + 1) 128 118 [some (v_r (some 2))] [] h Q ↔ ex_ d 117 0 [some (v_r (some 2)), some (v_i (41 : Int32))] [] h (fun r h' => ex_ (d + 1) 128 124 [some (v_r (some 2))] (r.toList ++ []) h' Q) := by
  unfold ex_
  refine (am_Y_go 2 (ok := []) (g := (121, [some (v_r (some 2))], [v_i (41 : Int32), v_r (some 2)], h)) rfl).trans ?_
  all_goals exact ((am_Y_call (j := 117) (na := 2) (ci := 8) (fl := 0) rfl rfl rfl).trans (cj_d ⟨⟨Nat.le_of_ble_eq_true rfl, Nat.le_of_ble_eq_true rfl, Nat.le_of_ble_eq_true rfl, rfl⟩, Or.inr (Or.inr (show (8 : Nat) < 20 ∧ am_is h (some 2) 8 from ⟨by decide, (la_is Lh (o := 2) rfl)⟩))⟩ Iff.rfl))

theorem b_X8_readAtom_154 {d : Nat} {Q : Option am_V → am_H → Prop} (h : am_H) (Lh : Lay h) : ex_ (d + 1) 128 154 [some (v_r (some 2))] [] h Q ↔ ex_ d 126 0 [some (v_r (some 2))] [] h (fun r h' => ex_ (d + 1) 128 158 [some (v_r (some 2))] (r.toList ++ []) h' Q) := by
  unfold ex_
  refine (am_Y_go 1 (ok := []) (g := (155, [some (v_r (some 2))], [v_r (some 2)], h)) rfl).trans ?_
  all_goals exact ((am_Y_call (j := 126) (na := 1) (ci := 8) (fl := 0) rfl rfl rfl).trans (cj_d ⟨⟨Nat.le_of_ble_eq_true rfl, Nat.le_of_ble_eq_true rfl, Nat.le_of_ble_eq_true rfl, rfl⟩, Or.inr (Or.inr (show (8 : Nat) < 20 ∧ am_is h (some 2) 8 from ⟨by decide, (la_is Lh (o := 2) rfl)⟩))⟩ Iff.rfl))

theorem b_X8_readAtom_124 {d : Nat} {Q : Option am_V → am_H → Prop} (h : am_H) (s0 : Int32) (l0 : Option am_V) : ex_ d 128 124 [l0] [v_i s0] h Q ↔ if s0 = 0 then ex_ d 128 138 [l0] [] h Q else ex_ d 128 127 [l0] [] h Q := by
  unfold ex_
  refine (am_Y_go 1 (ok := []) (g := (if s0 = 0 then 138 else 127, [l0], [], h)) rfl).trans ?_
  all_goals exact am_Y_if

theorem b_X8_readAtom_158 {d : Nat} {Q : Option am_V → am_H → Prop} (h : am_H) (s0 : Int32) (l0 : Option am_V) : ex_ d 128 158 [l0] [v_i s0] h Q ↔ if s0 = 0 then ex_ d 128 165 [l0] [] h Q else ex_ d 128 161 [l0] [] h Q := by
  unfold ex_
  refine (am_Y_go 1 (ok := []) (g := (if s0 = 0 then 165 else 161, [l0], [], h)) rfl).trans ?_
  all_goals exact am_Y_if

theorem b_X8_readAtom_127 {d : Nat} {Q : Option am_V → am_H → Prop} (h : am_H) (Lh : Lay h) : ex_ (d + 1) 128 127 [some (v_r (some 2))] [] h Q ↔ ex_ d 126 0 [some (v_r (some 2))] [] h (fun r h' => ex_ (d + 1) 128 131 [some (v_r (some 2))] (r.toList ++ []) h' Q) := by
  unfold ex_
  refine (am_Y_go 1 (ok := []) (g := (128, [some (v_r (some 2))], [v_r (some 2)], h)) rfl).trans ?_
  all_goals exact ((am_Y_call (j := 126) (na := 1) (ci := 8) (fl := 0) rfl rfl rfl).trans (cj_d ⟨⟨Nat.le_of_ble_eq_true rfl, Nat.le_of_ble_eq_true rfl, Nat.le_of_ble_eq_true rfl, rfl⟩, Or.inr (Or.inr (show (8 : Nat) < 20 ∧ am_is h (some 2) 8 from ⟨by decide, (la_is Lh (o := 2) rfl)⟩))⟩ Iff.rfl))

theorem b_X8_readAtom_161 {d : Nat} {Q : Option am_V → am_H → Prop} (h : am_H) (l0 : Option am_V) : ex_ d 128 161 [l0] [] h Q ↔ Q (some (v_i (1 : Int32))) h := by
  unfold ex_
  refine (am_Y_go 2 (ok := []) (g := (166, [l0], [v_i (1 : Int32)], h)) rfl).trans ?_
  all_goals exact ((am_Y_ret rfl rfl rfl).trans (am_rz (show am_fit 1 1 from Or.inr rfl)))

theorem b_X8_readAtom_131 {d : Nat} {Q : Option am_V → am_H → Prop} (h : am_H) (s0 : Int32) (l0 : Option am_V) : ex_ d 128 131 [l0] [v_i s0] h Q ↔ if s0 = 0 then ex_ d 128 138 [l0] [] h Q else ex_ d 128 134 [l0] [] h Q := by
  unfold ex_
  refine (am_Y_go 1 (ok := []) (g := (if s0 = 0 then 138 else 134, [l0], [], h)) rfl).trans ?_
  all_goals exact am_Y_if

theorem b_X8_readAtom_134 {d : Nat} {Q : Option am_V → am_H → Prop} (h : am_H) (l0 : Option am_V) : ex_ d 128 134 [l0] [] h Q ↔ Q (some (v_i (1 : Int32))) h := by
  unfold ex_
  refine (am_Y_go 2 (ok := []) (g := (139, [l0], [v_i (1 : Int32)], h)) rfl).trans ?_
  all_goals exact ((am_Y_ret rfl rfl rfl).trans (am_rz (show am_fit 1 1 from Or.inr rfl)))

theorem b_X8_readBoth_0 {d : Nat} {Q : Option am_V → am_H → Prop} (h : am_H) (l1 l2 : Option am_V) (Lh : Lay h) : ex_ (d + 1) 129 0 [some (v_r (some 2)), l1, l2] [] h Q ↔ ex_ d 135 0 [some (v_r (some 2)), none] [] h (fun r h' => ex_ (d + 1) 129 4 [some (v_r (some 2)), l1, l2] (r.toList ++ []) h' Q) := by
  unfold ex_
  refine (am_Y_go 1 (ok := []) (g := (1, [some (v_r (some 2)), l1, l2], [v_r (some 2)], h)) rfl).trans ?_
  all_goals exact ((am_Y_call (j := 135) (na := 1) (ci := 8) (fl := 0) rfl rfl rfl).trans (cj_d ⟨⟨Nat.le_of_ble_eq_true rfl, Nat.le_of_ble_eq_true rfl, Nat.le_of_ble_eq_true rfl, rfl⟩, Or.inr (Or.inr (show (8 : Nat) < 20 ∧ am_is h (some 2) 8 from ⟨by decide, (la_is Lh (o := 2) rfl)⟩))⟩ Iff.rfl))

theorem b_X8_readBoth_4 {d : Nat} {Q : Option am_V → am_H → Prop} (h : am_H) (s0 : Int32) (l0 l1 l2 : Option am_V) : ex_ d 129 4 [l0, l1, l2] [v_i s0] h Q ↔ ex_ d 129 7 [l0, some (v_i s0), some (v_i (0 : Int32))] [] h Q := by
  unfold ex_
  refine (am_Y_go 3 (ok := []) (g := (7, [l0, some (v_i s0), some (v_i (0 : Int32))], [], h)) rfl).trans ?_
  all_goals exact Iff.rfl

theorem b_X8_readBoth_7 {d : Nat} {Q : Option am_V → am_H → Prop} (h : am_H) (x2 : Int32) (l0 l1 : Option am_V) : ex_ d 129 7 [l0, l1, some (v_i x2)] [] h Q ↔ if (900 : Int32) ≤ x2 then ex_ d 129 50 [l0, l1, some (v_i x2)] [] h Q else ex_ d 129 14 [l0, l1, some (v_i x2)] [] h Q := by
  unfold ex_
  refine (am_Y_go 3 (ok := []) (g := (if (900 : Int32) ≤ x2 then 50 else 14, [l0, l1, some (v_i x2)], [], h)) rfl).trans ?_
  all_goals exact am_Y_if

theorem b_X8_readBoth_50 {d : Nat} {Q : Option am_V → am_H → Prop} (h : am_H) (x1 : Int32) (l0 l2 : Option am_V) : ex_ d 129 50 [l0, some (v_i x1), l2] [] h Q ↔ (x1 = 0 ∨ x1 = 1) ∧ Q (some (v_i x1)) h := by
  unfold ex_
  refine (am_Y_go 1 (ok := []) (g := (51, [l0, some (v_i x1), l2], [v_i x1], h)) rfl).trans ?_
  all_goals exact ((am_Y_ret rfl rfl rfl).trans (Iff.rfl))

theorem b_X8_readBoth_14 {d : Nat} {Q : Option am_V → am_H → Prop} (h : am_H) (x1 : Int32) (l0 l2 : Option am_V) : ex_ d 129 14 [l0, some (v_i x1), l2] [] h Q ↔ if x1 = 0 then ex_ d 129 50 [l0, some (v_i x1), l2] [] h Q else ex_ d 129 18 [l0, some (v_i x1), l2] [] h Q := by
  unfold ex_
  refine (am_Y_go 2 (ok := []) (g := (if x1 = 0 then 50 else 18, [l0, some (v_i x1), l2], [], h)) rfl).trans ?_
  all_goals exact am_Y_if

theorem b_X8_readBoth_18 {d : Nat} {Q : Option am_V → am_H → Prop} (h : am_H) (l1 l2 : Option am_V) (Lh : Lay h) : ex_ d 129 18 [some (v_r (some 2)), l1, l2] [] h Q ↔ if ¬ (h_i h 2 6) = (216 : Int32) then ex_ d 129 50 [some (v_r (some 2)), l1, l2] [] h Q else ex_ d 129 28 [some (v_r (some 2)), l1, l2] [] h Q := by
  unfold ex_
  refine (am_Y_go 4 (ok := [am_is h (some 2) 8]) (g := (if ¬ (h_i h 2 6) = (216 : Int32) then 50 else 28, [some (v_r (some 2)), l1, l2], [], h)) rfl).trans ?_
  simp only [am_all]
  all_goals exact cj_d (la_is Lh (o := 2) rfl) (am_Y_if)

theorem b_X8_readBoth_28 {d : Nat} {Q : Option am_V → am_H → Prop} (h : am_H) (l1 l2 : Option am_V) (Lh : Lay h) : ex_ (d + 1) 129 28 [some (v_r (some 2)), l1, l2] [] h Q ↔ ex_ d 115 0 [some (v_r (some 2))] [] h (fun r h' => ex_ (d + 1) 129 32 [some (v_r (some 2)), l1, l2] (r.toList ++ []) h' Q) := by
  unfold ex_
  refine (am_Y_go 1 (ok := []) (g := (29, [some (v_r (some 2)), l1, l2], [v_r (some 2)], h)) rfl).trans ?_
  all_goals exact ((am_Y_call (j := 115) (na := 1) (ci := 8) (fl := 0) rfl rfl rfl).trans (cj_d ⟨⟨Nat.le_of_ble_eq_true rfl, Nat.le_of_ble_eq_true rfl, Nat.le_of_ble_eq_true rfl, rfl⟩, Or.inr (Or.inr (show (8 : Nat) < 20 ∧ am_is h (some 2) 8 from ⟨by decide, (la_is Lh (o := 2) rfl)⟩))⟩ Iff.rfl))

theorem b_X8_readBoth_32 {d : Nat} {Q : Option am_V → am_H → Prop} (h : am_H) (l1 l2 : Option am_V) (Lh : Lay h) : ex_ (d + 1) 129 32 [some (v_r (some 2)), l1, l2] [] h Q ↔ ex_ d 135 0 [some (v_r (some 2)), none] [] h (fun r h' => ex_ (d + 1) 129 36 [some (v_r (some 2)), l1, l2] (r.toList ++ []) h' Q) := by
  unfold ex_
  refine (am_Y_go 1 (ok := []) (g := (33, [some (v_r (some 2)), l1, l2], [v_r (some 2)], h)) rfl).trans ?_
  all_goals exact ((am_Y_call (j := 135) (na := 1) (ci := 8) (fl := 0) rfl rfl rfl).trans (cj_d ⟨⟨Nat.le_of_ble_eq_true rfl, Nat.le_of_ble_eq_true rfl, Nat.le_of_ble_eq_true rfl, rfl⟩, Or.inr (Or.inr (show (8 : Nat) < 20 ∧ am_is h (some 2) 8 from ⟨by decide, (la_is Lh (o := 2) rfl)⟩))⟩ Iff.rfl))

theorem b_X8_readBoth_36 {d : Nat} {Q : Option am_V → am_H → Prop} (h : am_H) (s0 : Int32) (l1 l2 : Option am_V) (Lh : Lay h) : ex_ (d + 1) 129 36 [some (v_r (some 2)), l1, l2] [v_i s0] h Q ↔ ex_ d 124 0 [some (v_r (some 2)), some (v_i (-216 : Int32))] [] h (fun r h' => ex_ (d + 1) 129 44 [some (v_r (some 2)), some (v_i s0), l2] (r.toList ++ []) h' Q) := by
  unfold ex_
  refine (am_Y_go 3 (ok := []) (g := (41, [some (v_r (some 2)), some (v_i s0), l2], [v_i (-216 : Int32), v_r (some 2)], h)) rfl).trans ?_
  all_goals exact ((am_Y_call (j := 124) (na := 2) (ci := 8) (fl := 0) rfl rfl rfl).trans (cj_d ⟨⟨Nat.le_of_ble_eq_true rfl, Nat.le_of_ble_eq_true rfl, Nat.le_of_ble_eq_true rfl, rfl⟩, Or.inr (Or.inr (show (8 : Nat) < 20 ∧ am_is h (some 2) 8 from ⟨by decide, (la_is Lh (o := 2) rfl)⟩))⟩ Iff.rfl))

theorem b_X8_readBoth_44 {d : Nat} {Q : Option am_V → am_H → Prop} (h : am_H) (x2 : Int32) (l0 l1 : Option am_V) : ex_ d 129 44 [l0, l1, some (v_i x2)] [] h Q ↔ ex_ d 129 7 [l0, l1, some (v_i (x2 + (1 : Int32)))] [] h Q := by
  unfold ex_
  refine (am_Y_go 2 (ok := []) (g := (7, [l0, l1, some (v_i (x2 + (1 : Int32)))], [], h)) rfl).trans ?_
  all_goals exact Iff.rfl

theorem b_X8_readChoice_0 {d : Nat} {Q : Option am_V → am_H → Prop} (h : am_H) (l1 : Option am_V) (Lh : Lay h) : ex_ (d + 1) 130 0 [some (v_r (some 2)), l1] [] h Q ↔ ex_ d 134 0 [some (v_r (some 2)), none, none] [] h (fun r h' => ex_ (d + 1) 130 4 [some (v_r (some 2)), l1] (r.toList ++ []) h' Q) := by
  unfold ex_
  refine (am_Y_go 1 (ok := []) (g := (1, [some (v_r (some 2)), l1], [v_r (some 2)], h)) rfl).trans ?_
  all_goals exact ((am_Y_call (j := 134) (na := 1) (ci := 8) (fl := 0) rfl rfl rfl).trans (cj_d ⟨⟨Nat.le_of_ble_eq_true rfl, Nat.le_of_ble_eq_true rfl, Nat.le_of_ble_eq_true rfl, rfl⟩, Or.inr (Or.inr (show (8 : Nat) < 20 ∧ am_is h (some 2) 8 from ⟨by decide, (la_is Lh (o := 2) rfl)⟩))⟩ Iff.rfl))

theorem b_X8_readChoice_4 {d : Nat} {Q : Option am_V → am_H → Prop} (h : am_H) (s0 : Int32) (l0 l1 : Option am_V) : ex_ d 130 4 [l0, l1] [v_i s0] h Q ↔ if s0 = 0 then ex_ d 130 55 [l0, l1] [] h Q else ex_ d 130 7 [l0, l1] [] h Q := by
  unfold ex_
  refine (am_Y_go 1 (ok := []) (g := (if s0 = 0 then 55 else 7, [l0, l1], [], h)) rfl).trans ?_
  all_goals exact am_Y_if

theorem b_X8_readChoice_55 {d : Nat} {Q : Option am_V → am_H → Prop} (h : am_H) (l1 : Option am_V) (Lh : Lay h) : ex_ (d + 1) 130 55 [some (v_r (some 2)), l1] [] h Q ↔ ex_ d 124 0 [some (v_r (some 2)), some (v_i (-209 : Int32))] [] h (fun r h' => ex_ (d + 1) 130 64 [some (v_r (some 2)), some (v_i (0 : Int32))] (r.toList ++ []) h' Q) := by
  unfold ex_
  refine (am_Y_go 4 (ok := []) (g := (61, [some (v_r (some 2)), some (v_i (0 : Int32))], [v_i (-209 : Int32), v_r (some 2)], h)) rfl).trans ?_
  all_goals exact ((am_Y_call (j := 124) (na := 2) (ci := 8) (fl := 0) rfl rfl rfl).trans (cj_d ⟨⟨Nat.le_of_ble_eq_true rfl, Nat.le_of_ble_eq_true rfl, Nat.le_of_ble_eq_true rfl, rfl⟩, Or.inr (Or.inr (show (8 : Nat) < 20 ∧ am_is h (some 2) 8 from ⟨by decide, (la_is Lh (o := 2) rfl)⟩))⟩ Iff.rfl))

theorem b_X8_readChoice_7 {d : Nat} {Q : Option am_V → am_H → Prop} (h : am_H) (l1 : Option am_V) (Lh : Lay h) : ex_ (d + 1) 130 7 [some (v_r (some 2)), l1] [] h Q ↔ ex_ d 117 0 [some (v_r (some 2)), some (v_i (210 : Int32))] [] h (fun r h' => ex_ (d + 1) 130 14 [some (v_r (some 2)), l1] (r.toList ++ []) h' Q) := by
  unfold ex_
  refine (am_Y_go 2 (ok := []) (g := (11, [some (v_r (some 2)), l1], [v_i (210 : Int32), v_r (some 2)], h)) rfl).trans ?_
  all_goals exact ((am_Y_call (j := 117) (na := 2) (ci := 8) (fl := 0) rfl rfl rfl).trans (cj_d ⟨⟨Nat.le_of_ble_eq_true rfl, Nat.le_of_ble_eq_true rfl, Nat.le_of_ble_eq_true rfl, rfl⟩, Or.inr (Or.inr (show (8 : Nat) < 20 ∧ am_is h (some 2) 8 from ⟨by decide, (la_is Lh (o := 2) rfl)⟩))⟩ Iff.rfl))

theorem b_X8_readChoice_64 {d : Nat} {Q : Option am_V → am_H → Prop} (h : am_H) (x1 : Int32) (l0 : Option am_V) : ex_ d 130 64 [l0, some (v_i x1)] [] h Q ↔ (x1 = 0 ∨ x1 = 1) ∧ Q (some (v_i x1)) h := by
  unfold ex_
  refine (am_Y_go 1 (ok := []) (g := (65, [l0, some (v_i x1)], [v_i x1], h)) rfl).trans ?_
  all_goals exact ((am_Y_ret rfl rfl rfl).trans (Iff.rfl))

theorem b_X8_readChoice_14 {d : Nat} {Q : Option am_V → am_H → Prop} (h : am_H) (s0 : Int32) (l0 l1 : Option am_V) : ex_ d 130 14 [l0, l1] [v_i s0] h Q ↔ if s0 = 0 then ex_ d 130 55 [l0, l1] [] h Q else ex_ d 130 17 [l0, l1] [] h Q := by
  unfold ex_
  refine (am_Y_go 1 (ok := []) (g := (if s0 = 0 then 55 else 17, [l0, l1], [], h)) rfl).trans ?_
  all_goals exact am_Y_if

theorem b_X8_readChoice_17 {d : Nat} {Q : Option am_V → am_H → Prop} (h : am_H) (l1 : Option am_V) (Lh : Lay h) : ex_ (d + 1) 130 17 [some (v_r (some 2)), l1] [] h Q ↔ ex_ d 132 0 [some (v_r (some 2)), none, none, none] [] h (fun r h' => ex_ (d + 1) 130 21 [some (v_r (some 2)), l1] (r.toList ++ []) h' Q) := by
  unfold ex_
  refine (am_Y_go 1 (ok := []) (g := (18, [some (v_r (some 2)), l1], [v_r (some 2)], h)) rfl).trans ?_
  all_goals exact ((am_Y_call (j := 132) (na := 1) (ci := 8) (fl := 0) rfl rfl rfl).trans (cj_d ⟨⟨Nat.le_of_ble_eq_true rfl, Nat.le_of_ble_eq_true rfl, Nat.le_of_ble_eq_true rfl, rfl⟩, Or.inr (Or.inr (show (8 : Nat) < 20 ∧ am_is h (some 2) 8 from ⟨by decide, (la_is Lh (o := 2) rfl)⟩))⟩ Iff.rfl))

theorem b_X8_readChoice_21 {d : Nat} {Q : Option am_V → am_H → Prop} (h : am_H) (s0 : Int32) (l0 l1 : Option am_V) : ex_ d 130 21 [l0, l1] [v_i s0] h Q ↔ if s0 = 0 then ex_ d 130 55 [l0, l1] [] h Q else ex_ d 130 24 [l0, l1] [] h Q := by
  unfold ex_
  refine (am_Y_go 1 (ok := []) (g := (if s0 = 0 then 55 else 24, [l0, l1], [], h)) rfl).trans ?_
  all_goals exact am_Y_if

theorem b_X8_readChoice_24 {d : Nat} {Q : Option am_V → am_H → Prop} (h : am_H) (l1 : Option am_V) (Lh : Lay h) : ex_ (d + 1) 130 24 [some (v_r (some 2)), l1] [] h Q ↔ ex_ d 117 0 [some (v_r (some 2)), some (v_i (211 : Int32))] [] h (fun r h' => ex_ (d + 1) 130 31 [some (v_r (some 2)), l1] (r.toList ++ []) h' Q) := by
  unfold ex_
  refine (am_Y_go 2 (ok := []) (g := (28, [some (v_r (some 2)), l1], [v_i (211 : Int32), v_r (some 2)], h)) rfl).trans ?_
  all_goals exact ((am_Y_call (j := 117) (na := 2) (ci := 8) (fl := 0) rfl rfl rfl).trans (cj_d ⟨⟨Nat.le_of_ble_eq_true rfl, Nat.le_of_ble_eq_true rfl, Nat.le_of_ble_eq_true rfl, rfl⟩, Or.inr (Or.inr (show (8 : Nat) < 20 ∧ am_is h (some 2) 8 from ⟨by decide, (la_is Lh (o := 2) rfl)⟩))⟩ Iff.rfl))

theorem b_X8_readChoice_31 {d : Nat} {Q : Option am_V → am_H → Prop} (h : am_H) (s0 : Int32) (l0 l1 : Option am_V) : ex_ d 130 31 [l0, l1] [v_i s0] h Q ↔ if s0 = 0 then ex_ d 130 55 [l0, l1] [] h Q else ex_ d 130 34 [l0, l1] [] h Q := by
  unfold ex_
  refine (am_Y_go 1 (ok := []) (g := (if s0 = 0 then 55 else 34, [l0, l1], [], h)) rfl).trans ?_
  all_goals exact am_Y_if

theorem b_X8_readChoice_34 {d : Nat} {Q : Option am_V → am_H → Prop} (h : am_H) (l1 : Option am_V) (Lh : Lay h) : ex_ (d + 1) 130 34 [some (v_r (some 2)), l1] [] h Q ↔ ex_ d 132 0 [some (v_r (some 2)), none, none, none] [] h (fun r h' => ex_ (d + 1) 130 38 [some (v_r (some 2)), l1] (r.toList ++ []) h' Q) := by
  unfold ex_
  refine (am_Y_go 1 (ok := []) (g := (35, [some (v_r (some 2)), l1], [v_r (some 2)], h)) rfl).trans ?_
  all_goals exact ((am_Y_call (j := 132) (na := 1) (ci := 8) (fl := 0) rfl rfl rfl).trans (cj_d ⟨⟨Nat.le_of_ble_eq_true rfl, Nat.le_of_ble_eq_true rfl, Nat.le_of_ble_eq_true rfl, rfl⟩, Or.inr (Or.inr (show (8 : Nat) < 20 ∧ am_is h (some 2) 8 from ⟨by decide, (la_is Lh (o := 2) rfl)⟩))⟩ Iff.rfl))

theorem b_X8_readChoice_38 {d : Nat} {Q : Option am_V → am_H → Prop} (h : am_H) (s0 : Int32) (l0 l1 : Option am_V) : ex_ d 130 38 [l0, l1] [v_i s0] h Q ↔ if s0 = 0 then ex_ d 130 55 [l0, l1] [] h Q else ex_ d 130 41 [l0, l1] [] h Q := by
  unfold ex_
  refine (am_Y_go 1 (ok := []) (g := (if s0 = 0 then 55 else 41, [l0, l1], [], h)) rfl).trans ?_
  all_goals exact am_Y_if

theorem b_X8_readChoice_41 {d : Nat} {Q : Option am_V → am_H → Prop} (h : am_H) (l1 : Option am_V) (Lh : Lay h) : ex_ (d + 1) 130 41 [some (v_r (some 2)), l1] [] h Q ↔ ex_ d 117 0 [some (v_r (some 2)), some (v_i (212 : Int32))] [] h (fun r h' => ex_ (d + 1) 130 48 [some (v_r (some 2)), l1] (r.toList ++ []) h' Q) := by
  unfold ex_
  refine (am_Y_go 2 (ok := []) (g := (45, [some (v_r (some 2)), l1], [v_i (212 : Int32), v_r (some 2)], h)) rfl).trans ?_
  all_goals exact ((am_Y_call (j := 117) (na := 2) (ci := 8) (fl := 0) rfl rfl rfl).trans (cj_d ⟨⟨Nat.le_of_ble_eq_true rfl, Nat.le_of_ble_eq_true rfl, Nat.le_of_ble_eq_true rfl, rfl⟩, Or.inr (Or.inr (show (8 : Nat) < 20 ∧ am_is h (some 2) 8 from ⟨by decide, (la_is Lh (o := 2) rfl)⟩))⟩ Iff.rfl))

theorem b_X8_readChoice_48 {d : Nat} {Q : Option am_V → am_H → Prop} (h : am_H) (s0 : Int32) (l0 l1 : Option am_V) : ex_ d 130 48 [l0, l1] [v_i s0] h Q ↔ if s0 = 0 then ex_ d 130 55 [l0, l1] [] h Q else ex_ d 130 51 [l0, l1] [] h Q := by
  unfold ex_
  refine (am_Y_go 1 (ok := []) (g := (if s0 = 0 then 55 else 51, [l0, l1], [], h)) rfl).trans ?_
  all_goals exact am_Y_if

theorem b_X8_readChoice_51 {d : Nat} {Q : Option am_V → am_H → Prop} (h : am_H) (l1 : Option am_V) (Lh : Lay h) : ex_ (d + 1) 130 51 [some (v_r (some 2)), l1] [] h Q ↔ ex_ d 124 0 [some (v_r (some 2)), some (v_i (-209 : Int32))] [] h (fun r h' => ex_ (d + 1) 130 64 [some (v_r (some 2)), some (v_i (1 : Int32))] (r.toList ++ []) h' Q) := by
  unfold ex_
  refine (am_Y_go 5 (ok := []) (g := (61, [some (v_r (some 2)), some (v_i (1 : Int32))], [v_i (-209 : Int32), v_r (some 2)], h)) rfl).trans ?_
  all_goals exact ((am_Y_call (j := 124) (na := 2) (ci := 8) (fl := 0) rfl rfl rfl).trans (cj_d ⟨⟨Nat.le_of_ble_eq_true rfl, Nat.le_of_ble_eq_true rfl, Nat.le_of_ble_eq_true rfl, rfl⟩, Or.inr (Or.inr (show (8 : Nat) < 20 ∧ am_is h (some 2) 8 from ⟨by decide, (la_is Lh (o := 2) rfl)⟩))⟩ Iff.rfl))

theorem b_X8_readComparison_0 {d : Nat} {Q : Option am_V → am_H → Prop} (h : am_H) (l1 l2 : Option am_V) (Lh : Lay h) : ex_ d 131 0 [some (v_r (some 2)), l1, l2] [] h Q ↔ if (h_i h 2 6) = (61 : Int32) then ex_ d 131 29 [some (v_r (some 2)), some (v_i (h_i h 2 6)), l2] [] h Q else ex_ d 131 11 [some (v_r (some 2)), some (v_i (h_i h 2 6)), l2] [] h Q := by
  unfold ex_
  refine (am_Y_go 6 (ok := [am_is h (some 2) 8]) (g := (if (h_i h 2 6) = (61 : Int32) then 29 else 11, [some (v_r (some 2)), some (v_i (h_i h 2 6)), l2], [], h)) rfl).trans ?_
  simp only [am_all]
  all_goals exact cj_d (la_is Lh (o := 2) rfl) (am_Y_if)

theorem b_X8_readComparison_29 {d : Nat} {Q : Option am_V → am_H → Prop} (h : am_H) (l1 l2 : Option am_V) (Lh : Lay h) : ex_ (d + 1) 131 29 [some (v_r (some 2)), l1, l2] [] h Q ↔ ex_ d 115 0 [some (v_r (some 2))] [] h (fun r h' => ex_ (d + 1) 131 33 [some (v_r (some 2)), l1, l2] (r.toList ++ []) h' Q) := by
  unfold ex_
  refine (am_Y_go 1 (ok := []) (g := (30, [some (v_r (some 2)), l1, l2], [v_r (some 2)], h)) rfl).trans ?_
  all_goals exact ((am_Y_call (j := 115) (na := 1) (ci := 8) (fl := 0) rfl rfl rfl).trans (cj_d ⟨⟨Nat.le_of_ble_eq_true rfl, Nat.le_of_ble_eq_true rfl, Nat.le_of_ble_eq_true rfl, rfl⟩, Or.inr (Or.inr (show (8 : Nat) < 20 ∧ am_is h (some 2) 8 from ⟨by decide, (la_is Lh (o := 2) rfl)⟩))⟩ Iff.rfl))

theorem b_X8_readComparison_11 {d : Nat} {Q : Option am_V → am_H → Prop} (h : am_H) (x1 : Int32) (l0 l2 : Option am_V) : ex_ d 131 11 [l0, some (v_i x1), l2] [] h Q ↔ if x1 = (60 : Int32) then ex_ d 131 29 [l0, some (v_i x1), l2] [] h Q else ex_ d 131 17 [l0, some (v_i x1), l2] [] h Q := by
  unfold ex_
  refine (am_Y_go 3 (ok := []) (g := (if x1 = (60 : Int32) then 29 else 17, [l0, some (v_i x1), l2], [], h)) rfl).trans ?_
  all_goals exact am_Y_if

theorem b_X8_readComparison_33 {d : Nat} {Q : Option am_V → am_H → Prop} (h : am_H) (l1 l2 : Option am_V) (Lh : Lay h) : ex_ (d + 1) 131 33 [some (v_r (some 2)), l1, l2] [] h Q ↔ ex_ d 132 0 [some (v_r (some 2)), none, none, none] [] h (fun r h' => ex_ (d + 1) 131 37 [some (v_r (some 2)), l1, l2] (r.toList ++ []) h' Q) := by
  unfold ex_
  refine (am_Y_go 1 (ok := []) (g := (34, [some (v_r (some 2)), l1, l2], [v_r (some 2)], h)) rfl).trans ?_
  all_goals exact ((am_Y_call (j := 132) (na := 1) (ci := 8) (fl := 0) rfl rfl rfl).trans (cj_d ⟨⟨Nat.le_of_ble_eq_true rfl, Nat.le_of_ble_eq_true rfl, Nat.le_of_ble_eq_true rfl, rfl⟩, Or.inr (Or.inr (show (8 : Nat) < 20 ∧ am_is h (some 2) 8 from ⟨by decide, (la_is Lh (o := 2) rfl)⟩))⟩ Iff.rfl))

theorem b_X8_readComparison_17 {d : Nat} {Q : Option am_V → am_H → Prop} (h : am_H) (x1 : Int32) (l0 l2 : Option am_V) : ex_ d 131 17 [l0, some (v_i x1), l2] [] h Q ↔ if x1 = (62 : Int32) then ex_ d 131 29 [l0, some (v_i x1), l2] [] h Q else ex_ d 131 23 [l0, some (v_i x1), l2] [] h Q := by
  unfold ex_
  refine (am_Y_go 3 (ok := []) (g := (if x1 = (62 : Int32) then 29 else 23, [l0, some (v_i x1), l2], [], h)) rfl).trans ?_
  all_goals exact am_Y_if

theorem b_X8_readComparison_37 {d : Nat} {Q : Option am_V → am_H → Prop} (h : am_H) (s0 : Int32) (x1 : Int32) (l2 : Option am_V) (Lh : Lay h) : ex_ (d + 1) 131 37 [some (v_r (some 2)), some (v_i x1), l2] [v_i s0] h Q ↔ ex_ d 124 0 [some (v_r (some 2)), some (v_i (-x1))] [] h (fun r h' => ex_ (d + 1) 131 44 [some (v_r (some 2)), some (v_i x1), some (v_i s0)] (r.toList ++ []) h' Q) := by
  unfold ex_
  refine (am_Y_go 4 (ok := []) (g := (41, [some (v_r (some 2)), some (v_i x1), some (v_i s0)], [v_i (-x1), v_r (some 2)], h)) rfl).trans ?_
  all_goals exact ((am_Y_call (j := 124) (na := 2) (ci := 8) (fl := 0) rfl rfl rfl).trans (cj_d ⟨⟨Nat.le_of_ble_eq_true rfl, Nat.le_of_ble_eq_true rfl, Nat.le_of_ble_eq_true rfl, rfl⟩, Or.inr (Or.inr (show (8 : Nat) < 20 ∧ am_is h (some 2) 8 from ⟨by decide, (la_is Lh (o := 2) rfl)⟩))⟩ Iff.rfl))

theorem b_X8_readComparison_23 {d : Nat} {Q : Option am_V → am_H → Prop} (h : am_H) (l1 l2 : Option am_V) (Lh : Lay h) : ex_ (d + 1) 131 23 [some (v_r (some 2)), l1, l2] [] h Q ↔ ex_ d 116 0 [some (v_r (some 2)), some (v_i (2 : Int32))] [] h (fun r h' => ex_ (d + 1) 131 28 [some (v_r (some 2)), l1, l2] (r.toList ++ []) h' Q) := by
  unfold ex_
  refine (am_Y_go 2 (ok := []) (g := (25, [some (v_r (some 2)), l1, l2], [v_i (2 : Int32), v_r (some 2)], h)) rfl).trans ?_
  all_goals exact ((am_Y_call (j := 116) (na := 2) (ci := 8) (fl := 0) rfl rfl rfl).trans (cj_d ⟨⟨Nat.le_of_ble_eq_true rfl, Nat.le_of_ble_eq_true rfl, Nat.le_of_ble_eq_true rfl, rfl⟩, Or.inr (Or.inr (show (8 : Nat) < 20 ∧ am_is h (some 2) 8 from ⟨by decide, (la_is Lh (o := 2) rfl)⟩))⟩ Iff.rfl))

theorem b_X8_readComparison_44 {d : Nat} {Q : Option am_V → am_H → Prop} (h : am_H) (x2 : Int32) (l0 l1 : Option am_V) : ex_ d 131 44 [l0, l1, some (v_i x2)] [] h Q ↔ (x2 = 0 ∨ x2 = 1) ∧ Q (some (v_i x2)) h := by
  unfold ex_
  refine (am_Y_go 1 (ok := []) (g := (45, [l0, l1, some (v_i x2)], [v_i x2], h)) rfl).trans ?_
  all_goals exact ((am_Y_ret rfl rfl rfl).trans (Iff.rfl))

theorem b_X8_readComparison_28 {d : Nat} {Q : Option am_V → am_H → Prop} (h : am_H) (s0 : Int32) (l0 l1 l2 : Option am_V) : ex_ d 131 28 [l0, l1, l2] [v_i s0] h Q ↔ (s0 = 0 ∨ s0 = 1) ∧ Q (some (v_i s0)) h := by
  unfold ex_
  exact ((am_Y_ret rfl rfl rfl).trans (Iff.rfl))

theorem b_X8_readSum_0 {d : Nat} {Q : Option am_V → am_H → Prop} (h : am_H) (l1 l2 l3 : Option am_V) (Lh : Lay h) : ex_ (d + 1) 132 0 [some (v_r (some 2)), l1, l2, l3] [] h Q ↔ ex_ d 133 0 [some (v_r (some 2)), none, none] [] h (fun r h' => ex_ (d + 1) 132 4 [some (v_r (some 2)), l1, l2, l3] (r.toList ++ []) h' Q) := by
  unfold ex_
  refine (am_Y_go 1 (ok := []) (g := (1, [some (v_r (some 2)), l1, l2, l3], [v_r (some 2)], h)) rfl).trans ?_
  all_goals exact ((am_Y_call (j := 133) (na := 1) (ci := 8) (fl := 0) rfl rfl rfl).trans (cj_d ⟨⟨Nat.le_of_ble_eq_true rfl, Nat.le_of_ble_eq_true rfl, Nat.le_of_ble_eq_true rfl, rfl⟩, Or.inr (Or.inr (show (8 : Nat) < 20 ∧ am_is h (some 2) 8 from ⟨by decide, (la_is Lh (o := 2) rfl)⟩))⟩ Iff.rfl))

theorem b_X8_readSum_4 {d : Nat} {Q : Option am_V → am_H → Prop} (h : am_H) (s0 : Int32) (l0 l1 l2 l3 : Option am_V) : ex_ d 132 4 [l0, l1, l2, l3] [v_i s0] h Q ↔ ex_ d 132 7 [l0, some (v_i s0), some (v_i (0 : Int32)), l3] [] h Q := by
  unfold ex_
  refine (am_Y_go 3 (ok := []) (g := (7, [l0, some (v_i s0), some (v_i (0 : Int32)), l3], [], h)) rfl).trans ?_
  all_goals exact Iff.rfl

theorem b_X8_readSum_7 {d : Nat} {Q : Option am_V → am_H → Prop} (h : am_H) (x2 : Int32) (l0 l1 l3 : Option am_V) : ex_ d 132 7 [l0, l1, some (v_i x2), l3] [] h Q ↔ if (900 : Int32) ≤ x2 then ex_ d 132 62 [l0, l1, some (v_i x2), l3] [] h Q else ex_ d 132 14 [l0, l1, some (v_i x2), l3] [] h Q := by
  unfold ex_
  refine (am_Y_go 3 (ok := []) (g := (if (900 : Int32) ≤ x2 then 62 else 14, [l0, l1, some (v_i x2), l3], [], h)) rfl).trans ?_
  all_goals exact am_Y_if

theorem b_X8_readSum_62 {d : Nat} {Q : Option am_V → am_H → Prop} (h : am_H) (x1 : Int32) (l0 l2 l3 : Option am_V) : ex_ d 132 62 [l0, some (v_i x1), l2, l3] [] h Q ↔ (x1 = 0 ∨ x1 = 1) ∧ Q (some (v_i x1)) h := by
  unfold ex_
  refine (am_Y_go 1 (ok := []) (g := (63, [l0, some (v_i x1), l2, l3], [v_i x1], h)) rfl).trans ?_
  all_goals exact ((am_Y_ret rfl rfl rfl).trans (Iff.rfl))

theorem b_X8_readSum_14 {d : Nat} {Q : Option am_V → am_H → Prop} (h : am_H) (x1 : Int32) (l0 l2 l3 : Option am_V) : ex_ d 132 14 [l0, some (v_i x1), l2, l3] [] h Q ↔ if x1 = 0 then ex_ d 132 62 [l0, some (v_i x1), l2, l3] [] h Q else ex_ d 132 18 [l0, some (v_i x1), l2, l3] [] h Q := by
  unfold ex_
  refine (am_Y_go 2 (ok := []) (g := (if x1 = 0 then 62 else 18, [l0, some (v_i x1), l2, l3], [], h)) rfl).trans ?_
  all_goals exact am_Y_if

theorem b_X8_readSum_18 {d : Nat} {Q : Option am_V → am_H → Prop} (h : am_H) (l1 l2 l3 : Option am_V) (Lh : Lay h) : ex_ d 132 18 [some (v_r (some 2)), l1, l2, l3] [] h Q ↔ if (h_i h 2 6) = (43 : Int32) then ex_ d 132 36 [some (v_r (some 2)), l1, l2, l3] [] h Q else ex_ d 132 27 [some (v_r (some 2)), l1, l2, l3] [] h Q := by
  unfold ex_
  refine (am_Y_go 4 (ok := [am_is h (some 2) 8]) (g := (if (h_i h 2 6) = (43 : Int32) then 36 else 27, [some (v_r (some 2)), l1, l2, l3], [], h)) rfl).trans ?_
  simp only [am_all]
  all_goals exact cj_d (la_is Lh (o := 2) rfl) (am_Y_if)

theorem b_X8_readSum_36 {d : Nat} {Q : Option am_V → am_H → Prop} (h : am_H) (l1 l2 l3 : Option am_V) (Lh : Lay h) : ex_ (d + 1) 132 36 [some (v_r (some 2)), l1, l2, l3] [] h Q ↔ ex_ d 115 0 [some (v_r (some 2))] [] h (fun r h' => ex_ (d + 1) 132 45 [some (v_r (some 2)), l1, l2, some (v_i (h_i h 2 6))] (r.toList ++ []) h' Q) := by
  unfold ex_
  refine (am_Y_go 4 (ok := [am_is h (some 2) 8]) (g := (42, [some (v_r (some 2)), l1, l2, some (v_i (h_i h 2 6))], [v_r (some 2)], h)) rfl).trans ?_
  simp only [am_all]
  all_goals exact cj_d (la_is Lh (o := 2) rfl) (((am_Y_call (j := 115) (na := 1) (ci := 8) (fl := 0) rfl rfl rfl).trans (cj_d ⟨⟨Nat.le_of_ble_eq_true rfl, Nat.le_of_ble_eq_true rfl, Nat.le_of_ble_eq_true rfl, rfl⟩, Or.inr (Or.inr (show (8 : Nat) < 20 ∧ am_is h (some 2) 8 from ⟨by decide, (la_is Lh (o := 2) rfl)⟩))⟩ Iff.rfl)))

theorem b_X8_readSum_27 {d : Nat} {Q : Option am_V → am_H → Prop} (h : am_H) (l1 l2 l3 : Option am_V) (Lh : Lay h) : ex_ d 132 27 [some (v_r (some 2)), l1, l2, l3] [] h Q ↔ if ¬ (h_i h 2 6) = (45 : Int32) then ex_ d 132 62 [some (v_r (some 2)), l1, l2, l3] [] h Q else ex_ d 132 36 [some (v_r (some 2)), l1, l2, l3] [] h Q := by
  unfold ex_
  refine (am_Y_go 4 (ok := [am_is h (some 2) 8]) (g := (if ¬ (h_i h 2 6) = (45 : Int32) then 62 else 36, [some (v_r (some 2)), l1, l2, l3], [], h)) rfl).trans ?_
  simp only [am_all]
  all_goals exact cj_d (la_is Lh (o := 2) rfl) (am_Y_if)

theorem b_X8_readSum_45 {d : Nat} {Q : Option am_V → am_H → Prop} (h : am_H) (l1 l2 l3 : Option am_V) (Lh : Lay h) : ex_ (d + 1) 132 45 [some (v_r (some 2)), l1, l2, l3] [] h Q ↔ ex_ d 133 0 [some (v_r (some 2)), none, none] [] h (fun r h' => ex_ (d + 1) 132 49 [some (v_r (some 2)), l1, l2, l3] (r.toList ++ []) h' Q) := by
  unfold ex_
  refine (am_Y_go 1 (ok := []) (g := (46, [some (v_r (some 2)), l1, l2, l3], [v_r (some 2)], h)) rfl).trans ?_
  all_goals exact ((am_Y_call (j := 133) (na := 1) (ci := 8) (fl := 0) rfl rfl rfl).trans (cj_d ⟨⟨Nat.le_of_ble_eq_true rfl, Nat.le_of_ble_eq_true rfl, Nat.le_of_ble_eq_true rfl, rfl⟩, Or.inr (Or.inr (show (8 : Nat) < 20 ∧ am_is h (some 2) 8 from ⟨by decide, (la_is Lh (o := 2) rfl)⟩))⟩ Iff.rfl))

theorem b_X8_readSum_49 {d : Nat} {Q : Option am_V → am_H → Prop} (h : am_H) (s0 : Int32) (x3 : Int32) (l1 l2 : Option am_V) (Lh : Lay h) : ex_ (d + 1) 132 49 [some (v_r (some 2)), l1, l2, some (v_i x3)] [v_i s0] h Q ↔ ex_ d 124 0 [some (v_r (some 2)), some (v_i (-x3))] [] h (fun r h' => ex_ (d + 1) 132 56 [some (v_r (some 2)), some (v_i s0), l2, some (v_i x3)] (r.toList ++ []) h' Q) := by
  unfold ex_
  refine (am_Y_go 4 (ok := []) (g := (53, [some (v_r (some 2)), some (v_i s0), l2, some (v_i x3)], [v_i (-x3), v_r (some 2)], h)) rfl).trans ?_
  all_goals exact ((am_Y_call (j := 124) (na := 2) (ci := 8) (fl := 0) rfl rfl rfl).trans (cj_d ⟨⟨Nat.le_of_ble_eq_true rfl, Nat.le_of_ble_eq_true rfl, Nat.le_of_ble_eq_true rfl, rfl⟩, Or.inr (Or.inr (show (8 : Nat) < 20 ∧ am_is h (some 2) 8 from ⟨by decide, (la_is Lh (o := 2) rfl)⟩))⟩ Iff.rfl))

theorem b_X8_readSum_56 {d : Nat} {Q : Option am_V → am_H → Prop} (h : am_H) (x2 : Int32) (l0 l1 l3 : Option am_V) : ex_ d 132 56 [l0, l1, some (v_i x2), l3] [] h Q ↔ ex_ d 132 7 [l0, l1, some (v_i (x2 + (1 : Int32))), l3] [] h Q := by
  unfold ex_
  refine (am_Y_go 2 (ok := []) (g := (7, [l0, l1, some (v_i (x2 + (1 : Int32))), l3], [], h)) rfl).trans ?_
  all_goals exact Iff.rfl

theorem b_X8_readTerm_0 {d : Nat} {Q : Option am_V → am_H → Prop} (h : am_H) (l1 l2 : Option am_V) (Lh : Lay h) : ex_ (d + 1) 133 0 [some (v_r (some 2)), l1, l2] [] h Q ↔ ex_ d 128 0 [some (v_r (some 2))] [] h (fun r h' => ex_ (d + 1) 133 4 [some (v_r (some 2)), l1, l2] (r.toList ++ []) h' Q) := by
  unfold ex_
  refine (am_Y_go 1 (ok := []) (g := (1, [some (v_r (some 2)), l1, l2], [v_r (some 2)], h)) rfl).trans ?_
  all_goals exact ((am_Y_call (j := 128) (na := 1) (ci := 8) (fl := 0) rfl rfl rfl).trans (cj_d ⟨⟨Nat.le_of_ble_eq_true rfl, Nat.le_of_ble_eq_true rfl, Nat.le_of_ble_eq_true rfl, rfl⟩, Or.inr (Or.inr (show (8 : Nat) < 20 ∧ am_is h (some 2) 8 from ⟨by decide, (la_is Lh (o := 2) rfl)⟩))⟩ Iff.rfl))

theorem b_X8_readTerm_4 {d : Nat} {Q : Option am_V → am_H → Prop} (h : am_H) (s0 : Int32) (l0 l1 l2 : Option am_V) : ex_ d 133 4 [l0, l1, l2] [v_i s0] h Q ↔ ex_ d 133 7 [l0, some (v_i s0), some (v_i (0 : Int32))] [] h Q := by
  unfold ex_
  refine (am_Y_go 3 (ok := []) (g := (7, [l0, some (v_i s0), some (v_i (0 : Int32))], [], h)) rfl).trans ?_
  all_goals exact Iff.rfl

theorem b_X8_readTerm_7 {d : Nat} {Q : Option am_V → am_H → Prop} (h : am_H) (x2 : Int32) (l0 l1 : Option am_V) : ex_ d 133 7 [l0, l1, some (v_i x2)] [] h Q ↔ if (900 : Int32) ≤ x2 then ex_ d 133 48 [l0, l1, some (v_i x2)] [] h Q else ex_ d 133 14 [l0, l1, some (v_i x2)] [] h Q := by
  unfold ex_
  refine (am_Y_go 3 (ok := []) (g := (if (900 : Int32) ≤ x2 then 48 else 14, [l0, l1, some (v_i x2)], [], h)) rfl).trans ?_
  all_goals exact am_Y_if

theorem b_X8_readTerm_48 {d : Nat} {Q : Option am_V → am_H → Prop} (h : am_H) (x1 : Int32) (l0 l2 : Option am_V) : ex_ d 133 48 [l0, some (v_i x1), l2] [] h Q ↔ (x1 = 0 ∨ x1 = 1) ∧ Q (some (v_i x1)) h := by
  unfold ex_
  refine (am_Y_go 1 (ok := []) (g := (49, [l0, some (v_i x1), l2], [v_i x1], h)) rfl).trans ?_
  all_goals exact ((am_Y_ret rfl rfl rfl).trans (Iff.rfl))

theorem b_X8_readTerm_14 {d : Nat} {Q : Option am_V → am_H → Prop} (h : am_H) (x1 : Int32) (l0 l2 : Option am_V) : ex_ d 133 14 [l0, some (v_i x1), l2] [] h Q ↔ if x1 = 0 then ex_ d 133 48 [l0, some (v_i x1), l2] [] h Q else ex_ d 133 18 [l0, some (v_i x1), l2] [] h Q := by
  unfold ex_
  refine (am_Y_go 2 (ok := []) (g := (if x1 = 0 then 48 else 18, [l0, some (v_i x1), l2], [], h)) rfl).trans ?_
  all_goals exact am_Y_if

theorem b_X8_readTerm_18 {d : Nat} {Q : Option am_V → am_H → Prop} (h : am_H) (l1 l2 : Option am_V) (Lh : Lay h) : ex_ d 133 18 [some (v_r (some 2)), l1, l2] [] h Q ↔ if ¬ (h_i h 2 6) = (42 : Int32) then ex_ d 133 48 [some (v_r (some 2)), l1, l2] [] h Q else ex_ d 133 27 [some (v_r (some 2)), l1, l2] [] h Q := by
  unfold ex_
  refine (am_Y_go 4 (ok := [am_is h (some 2) 8]) (g := (if ¬ (h_i h 2 6) = (42 : Int32) then 48 else 27, [some (v_r (some 2)), l1, l2], [], h)) rfl).trans ?_
  simp only [am_all]
  all_goals exact cj_d (la_is Lh (o := 2) rfl) (am_Y_if)

theorem b_X8_readTerm_27 {d : Nat} {Q : Option am_V → am_H → Prop} (h : am_H) (l1 l2 : Option am_V) (Lh : Lay h) : ex_ (d + 1) 133 27 [some (v_r (some 2)), l1, l2] [] h Q ↔ ex_ d 115 0 [some (v_r (some 2))] [] h (fun r h' => ex_ (d + 1) 133 31 [some (v_r (some 2)), l1, l2] (r.toList ++ []) h' Q) := by
  unfold ex_
  refine (am_Y_go 1 (ok := []) (g := (28, [some (v_r (some 2)), l1, l2], [v_r (some 2)], h)) rfl).trans ?_
  all_goals exact ((am_Y_call (j := 115) (na := 1) (ci := 8) (fl := 0) rfl rfl rfl).trans (cj_d ⟨⟨Nat.le_of_ble_eq_true rfl, Nat.le_of_ble_eq_true rfl, Nat.le_of_ble_eq_true rfl, rfl⟩, Or.inr (Or.inr (show (8 : Nat) < 20 ∧ am_is h (some 2) 8 from ⟨by decide, (la_is Lh (o := 2) rfl)⟩))⟩ Iff.rfl))

theorem b_X8_readTerm_31 {d : Nat} {Q : Option am_V → am_H → Prop} (h : am_H) (l1 l2 : Option am_V) (Lh : Lay h) : ex_ (d + 1) 133 31 [some (v_r (some 2)), l1, l2] [] h Q ↔ ex_ d 128 0 [some (v_r (some 2))] [] h (fun r h' => ex_ (d + 1) 133 35 [some (v_r (some 2)), l1, l2] (r.toList ++ []) h' Q) := by
  unfold ex_
  refine (am_Y_go 1 (ok := []) (g := (32, [some (v_r (some 2)), l1, l2], [v_r (some 2)], h)) rfl).trans ?_
  all_goals exact ((am_Y_call (j := 128) (na := 1) (ci := 8) (fl := 0) rfl rfl rfl).trans (cj_d ⟨⟨Nat.le_of_ble_eq_true rfl, Nat.le_of_ble_eq_true rfl, Nat.le_of_ble_eq_true rfl, rfl⟩, Or.inr (Or.inr (show (8 : Nat) < 20 ∧ am_is h (some 2) 8 from ⟨by decide, (la_is Lh (o := 2) rfl)⟩))⟩ Iff.rfl))

theorem b_X8_readTerm_35 {d : Nat} {Q : Option am_V → am_H → Prop} (h : am_H) (s0 : Int32) (l1 l2 : Option am_V) (Lh : Lay h) : ex_ (d + 1) 133 35 [some (v_r (some 2)), l1, l2] [v_i s0] h Q ↔ ex_ d 124 0 [some (v_r (some 2)), some (v_i (-42 : Int32))] [] h (fun r h' => ex_ (d + 1) 133 42 [some (v_r (some 2)), some (v_i s0), l2] (r.toList ++ []) h' Q) := by
  unfold ex_
  refine (am_Y_go 3 (ok := []) (g := (39, [some (v_r (some 2)), some (v_i s0), l2], [v_i (-42 : Int32), v_r (some 2)], h)) rfl).trans ?_
  all_goals exact ((am_Y_call (j := 124) (na := 2) (ci := 8) (fl := 0) rfl rfl rfl).trans (cj_d ⟨⟨Nat.le_of_ble_eq_true rfl, Nat.le_of_ble_eq_true rfl, Nat.le_of_ble_eq_true rfl, rfl⟩, Or.inr (Or.inr (show (8 : Nat) < 20 ∧ am_is h (some 2) 8 from ⟨by decide, (la_is Lh (o := 2) rfl)⟩))⟩ Iff.rfl))

theorem b_X8_readTerm_42 {d : Nat} {Q : Option am_V → am_H → Prop} (h : am_H) (x2 : Int32) (l0 l1 : Option am_V) : ex_ d 133 42 [l0, l1, some (v_i x2)] [] h Q ↔ ex_ d 133 7 [l0, l1, some (v_i (x2 + (1 : Int32)))] [] h Q := by
  unfold ex_
  refine (am_Y_go 2 (ok := []) (g := (7, [l0, l1, some (v_i (x2 + (1 : Int32)))], [], h)) rfl).trans ?_
  all_goals exact Iff.rfl

theorem b_X8_readTruth_0 {d : Nat} {Q : Option am_V → am_H → Prop} (h : am_H) (l1 l2 : Option am_V) (Lh : Lay h) : ex_ (d + 1) 134 0 [some (v_r (some 2)), l1, l2] [] h Q ↔ ex_ d 129 0 [some (v_r (some 2)), none, none] [] h (fun r h' => ex_ (d + 1) 134 4 [some (v_r (some 2)), l1, l2] (r.toList ++ []) h' Q) := by
  unfold ex_
  refine (am_Y_go 1 (ok := []) (g := (1, [some (v_r (some 2)), l1, l2], [v_r (some 2)], h)) rfl).trans ?_
  all_goals exact ((am_Y_call (j := 129) (na := 1) (ci := 8) (fl := 0) rfl rfl rfl).trans (cj_d ⟨⟨Nat.le_of_ble_eq_true rfl, Nat.le_of_ble_eq_true rfl, Nat.le_of_ble_eq_true rfl, rfl⟩, Or.inr (Or.inr (show (8 : Nat) < 20 ∧ am_is h (some 2) 8 from ⟨by decide, (la_is Lh (o := 2) rfl)⟩))⟩ Iff.rfl))

theorem b_X8_readTruth_4 {d : Nat} {Q : Option am_V → am_H → Prop} (h : am_H) (s0 : Int32) (l0 l1 l2 : Option am_V) : ex_ d 134 4 [l0, l1, l2] [v_i s0] h Q ↔ ex_ d 134 7 [l0, some (v_i s0), some (v_i (0 : Int32))] [] h Q := by
  unfold ex_
  refine (am_Y_go 3 (ok := []) (g := (7, [l0, some (v_i s0), some (v_i (0 : Int32))], [], h)) rfl).trans ?_
  all_goals exact Iff.rfl

theorem b_X8_readTruth_7 {d : Nat} {Q : Option am_V → am_H → Prop} (h : am_H) (x2 : Int32) (l0 l1 : Option am_V) : ex_ d 134 7 [l0, l1, some (v_i x2)] [] h Q ↔ if (900 : Int32) ≤ x2 then ex_ d 134 50 [l0, l1, some (v_i x2)] [] h Q else ex_ d 134 14 [l0, l1, some (v_i x2)] [] h Q := by
  unfold ex_
  refine (am_Y_go 3 (ok := []) (g := (if (900 : Int32) ≤ x2 then 50 else 14, [l0, l1, some (v_i x2)], [], h)) rfl).trans ?_
  all_goals exact am_Y_if

theorem b_X8_readTruth_50 {d : Nat} {Q : Option am_V → am_H → Prop} (h : am_H) (x1 : Int32) (l0 l2 : Option am_V) : ex_ d 134 50 [l0, some (v_i x1), l2] [] h Q ↔ (x1 = 0 ∨ x1 = 1) ∧ Q (some (v_i x1)) h := by
  unfold ex_
  refine (am_Y_go 1 (ok := []) (g := (51, [l0, some (v_i x1), l2], [v_i x1], h)) rfl).trans ?_
  all_goals exact ((am_Y_ret rfl rfl rfl).trans (Iff.rfl))

theorem b_X8_readTruth_14 {d : Nat} {Q : Option am_V → am_H → Prop} (h : am_H) (x1 : Int32) (l0 l2 : Option am_V) : ex_ d 134 14 [l0, some (v_i x1), l2] [] h Q ↔ if x1 = 0 then ex_ d 134 50 [l0, some (v_i x1), l2] [] h Q else ex_ d 134 18 [l0, some (v_i x1), l2] [] h Q := by
  unfold ex_
  refine (am_Y_go 2 (ok := []) (g := (if x1 = 0 then 50 else 18, [l0, some (v_i x1), l2], [], h)) rfl).trans ?_
  all_goals exact am_Y_if

theorem b_X8_readTruth_18 {d : Nat} {Q : Option am_V → am_H → Prop} (h : am_H) (l1 l2 : Option am_V) (Lh : Lay h) : ex_ d 134 18 [some (v_r (some 2)), l1, l2] [] h Q ↔ if ¬ (h_i h 2 6) = (215 : Int32) then ex_ d 134 50 [some (v_r (some 2)), l1, l2] [] h Q else ex_ d 134 28 [some (v_r (some 2)), l1, l2] [] h Q := by
  unfold ex_
  refine (am_Y_go 4 (ok := [am_is h (some 2) 8]) (g := (if ¬ (h_i h 2 6) = (215 : Int32) then 50 else 28, [some (v_r (some 2)), l1, l2], [], h)) rfl).trans ?_
  simp only [am_all]
  all_goals exact cj_d (la_is Lh (o := 2) rfl) (am_Y_if)

theorem b_X8_readTruth_28 {d : Nat} {Q : Option am_V → am_H → Prop} (h : am_H) (l1 l2 : Option am_V) (Lh : Lay h) : ex_ (d + 1) 134 28 [some (v_r (some 2)), l1, l2] [] h Q ↔ ex_ d 115 0 [some (v_r (some 2))] [] h (fun r h' => ex_ (d + 1) 134 32 [some (v_r (some 2)), l1, l2] (r.toList ++ []) h' Q) := by
  unfold ex_
  refine (am_Y_go 1 (ok := []) (g := (29, [some (v_r (some 2)), l1, l2], [v_r (some 2)], h)) rfl).trans ?_
  all_goals exact ((am_Y_call (j := 115) (na := 1) (ci := 8) (fl := 0) rfl rfl rfl).trans (cj_d ⟨⟨Nat.le_of_ble_eq_true rfl, Nat.le_of_ble_eq_true rfl, Nat.le_of_ble_eq_true rfl, rfl⟩, Or.inr (Or.inr (show (8 : Nat) < 20 ∧ am_is h (some 2) 8 from ⟨by decide, (la_is Lh (o := 2) rfl)⟩))⟩ Iff.rfl))

theorem b_X8_readTruth_32 {d : Nat} {Q : Option am_V → am_H → Prop} (h : am_H) (l1 l2 : Option am_V) (Lh : Lay h) : ex_ (d + 1) 134 32 [some (v_r (some 2)), l1, l2] [] h Q ↔ ex_ d 129 0 [some (v_r (some 2)), none, none] [] h (fun r h' => ex_ (d + 1) 134 36 [some (v_r (some 2)), l1, l2] (r.toList ++ []) h' Q) := by
  unfold ex_
  refine (am_Y_go 1 (ok := []) (g := (33, [some (v_r (some 2)), l1, l2], [v_r (some 2)], h)) rfl).trans ?_
  all_goals exact ((am_Y_call (j := 129) (na := 1) (ci := 8) (fl := 0) rfl rfl rfl).trans (cj_d ⟨⟨Nat.le_of_ble_eq_true rfl, Nat.le_of_ble_eq_true rfl, Nat.le_of_ble_eq_true rfl, rfl⟩, Or.inr (Or.inr (show (8 : Nat) < 20 ∧ am_is h (some 2) 8 from ⟨by decide, (la_is Lh (o := 2) rfl)⟩))⟩ Iff.rfl))

theorem b_X8_readTruth_36 {d : Nat} {Q : Option am_V → am_H → Prop} (h : am_H) (s0 : Int32) (l1 l2 : Option am_V) (Lh : Lay h) : ex_ (d + 1) 134 36 [some (v_r (some 2)), l1, l2] [v_i s0] h Q ↔ ex_ d 124 0 [some (v_r (some 2)), some (v_i (-215 : Int32))] [] h (fun r h' => ex_ (d + 1) 134 44 [some (v_r (some 2)), some (v_i s0), l2] (r.toList ++ []) h' Q) := by
  unfold ex_
  refine (am_Y_go 3 (ok := []) (g := (41, [some (v_r (some 2)), some (v_i s0), l2], [v_i (-215 : Int32), v_r (some 2)], h)) rfl).trans ?_
  all_goals exact ((am_Y_call (j := 124) (na := 2) (ci := 8) (fl := 0) rfl rfl rfl).trans (cj_d ⟨⟨Nat.le_of_ble_eq_true rfl, Nat.le_of_ble_eq_true rfl, Nat.le_of_ble_eq_true rfl, rfl⟩, Or.inr (Or.inr (show (8 : Nat) < 20 ∧ am_is h (some 2) 8 from ⟨by decide, (la_is Lh (o := 2) rfl)⟩))⟩ Iff.rfl))

theorem b_X8_readTruth_44 {d : Nat} {Q : Option am_V → am_H → Prop} (h : am_H) (x2 : Int32) (l0 l1 : Option am_V) : ex_ d 134 44 [l0, l1, some (v_i x2)] [] h Q ↔ ex_ d 134 7 [l0, l1, some (v_i (x2 + (1 : Int32)))] [] h Q := by
  unfold ex_
  refine (am_Y_go 2 (ok := []) (g := (7, [l0, l1, some (v_i (x2 + (1 : Int32)))], [], h)) rfl).trans ?_
  all_goals exact Iff.rfl

theorem b_X8_readUnit_0 {d : Nat} {Q : Option am_V → am_H → Prop} (h : am_H) (l1 : Option am_V) (Lh : Lay h) : ex_ d 135 0 [some (v_r (some 2)), l1] [] h Q ↔ if ¬ (h_i h 2 6) = (217 : Int32) then ex_ d 135 46 [some (v_r (some 2)), l1] [] h Q else ex_ d 135 10 [some (v_r (some 2)), l1] [] h Q := by
  unfold ex_
  refine (am_Y_go 4 (ok := [am_is h (some 2) 8]) (g := (if ¬ (h_i h 2 6) = (217 : Int32) then 46 else 10, [some (v_r (some 2)), l1], [], h)) rfl).trans ?_
  simp only [am_all]
  all_goals exact cj_d (la_is Lh (o := 2) rfl) (am_Y_if)

theorem b_X8_readUnit_46 {d : Nat} {Q : Option am_V → am_H → Prop} (h : am_H) (l1 : Option am_V) (Lh : Lay h) : ex_ d 135 46 [some (v_r (some 2)), l1] [] h Q ↔ if ¬ (h_i h 2 6) = (91 : Int32) then ex_ d 135 91 [some (v_r (some 2)), l1] [] h Q else ex_ d 135 55 [some (v_r (some 2)), l1] [] h Q := by
  unfold ex_
  refine (am_Y_go 4 (ok := [am_is h (some 2) 8]) (g := (if ¬ (h_i h 2 6) = (91 : Int32) then 91 else 55, [some (v_r (some 2)), l1], [], h)) rfl).trans ?_
  simp only [am_all]
  all_goals exact cj_d (la_is Lh (o := 2) rfl) (am_Y_if)

theorem b_X8_readUnit_10 {d : Nat} {Q : Option am_V → am_H → Prop} (h : am_H) (l1 : Option am_V) (Lh : Lay h) : ex_ (d + 1) 135 10 [some (v_r (some 2)), l1] [] h Q ↔ ex_ d 125 0 [some (v_r (some 2))] [] h (fun r h' => ex_ (d + 1) 135 14 [some (v_r (some 2)), l1] (r.toList ++ []) h' Q) := by
  unfold ex_
  refine (am_Y_go 1 (ok := []) (g := (11, [some (v_r (some 2)), l1], [v_r (some 2)], h)) rfl).trans ?_
  all_goals exact ((am_Y_call (j := 125) (na := 1) (ci := 8) (fl := 0) rfl rfl rfl).trans (cj_d ⟨⟨Nat.le_of_ble_eq_true rfl, Nat.le_of_ble_eq_true rfl, Nat.le_of_ble_eq_true rfl, rfl⟩, Or.inr (Or.inr (show (8 : Nat) < 20 ∧ am_is h (some 2) 8 from ⟨by decide, (la_is Lh (o := 2) rfl)⟩))⟩ Iff.rfl))

theorem b_X8_readUnit_91 {d : Nat} {Q : Option am_V → am_H → Prop} (h : am_H) (l1 : Option am_V) (Lh : Lay h) : ex_ (d + 1) 135 91 [some (v_r (some 2)), l1] [] h Q ↔ ex_ d 132 0 [some (v_r (some 2)), none, none, none] [] h (fun r h' => ex_ (d + 1) 135 95 [some (v_r (some 2)), l1] (r.toList ++ []) h' Q) := by
  unfold ex_
  refine (am_Y_go 1 (ok := []) (g := (92, [some (v_r (some 2)), l1], [v_r (some 2)], h)) rfl).trans ?_
  all_goals exact ((am_Y_call (j := 132) (na := 1) (ci := 8) (fl := 0) rfl rfl rfl).trans (cj_d ⟨⟨Nat.le_of_ble_eq_true rfl, Nat.le_of_ble_eq_true rfl, Nat.le_of_ble_eq_true rfl, rfl⟩, Or.inr (Or.inr (show (8 : Nat) < 20 ∧ am_is h (some 2) 8 from ⟨by decide, (la_is Lh (o := 2) rfl)⟩))⟩ Iff.rfl))

theorem b_X8_readUnit_55 {d : Nat} {Q : Option am_V → am_H → Prop} (h : am_H) (l1 : Option am_V) (Lh : Lay h) : ex_ (d + 1) 135 55 [some (v_r (some 2)), l1] [] h Q ↔ ex_ d 125 0 [some (v_r (some 2))] [] h (fun r h' => ex_ (d + 1) 135 59 [some (v_r (some 2)), l1] (r.toList ++ []) h' Q) := by
  unfold ex_
  refine (am_Y_go 1 (ok := []) (g := (56, [some (v_r (some 2)), l1], [v_r (some 2)], h)) rfl).trans ?_
  all_goals exact ((am_Y_call (j := 125) (na := 1) (ci := 8) (fl := 0) rfl rfl rfl).trans (cj_d ⟨⟨Nat.le_of_ble_eq_true rfl, Nat.le_of_ble_eq_true rfl, Nat.le_of_ble_eq_true rfl, rfl⟩, Or.inr (Or.inr (show (8 : Nat) < 20 ∧ am_is h (some 2) 8 from ⟨by decide, (la_is Lh (o := 2) rfl)⟩))⟩ Iff.rfl))

theorem b_X8_readUnit_14 {d : Nat} {Q : Option am_V → am_H → Prop} (h : am_H) (s0 : Int32) (l0 l1 : Option am_V) : ex_ d 135 14 [l0, l1] [v_i s0] h Q ↔ if s0 = 0 then ex_ d 135 35 [l0, l1] [] h Q else ex_ d 135 17 [l0, l1] [] h Q := by
  unfold ex_
  refine (am_Y_go 1 (ok := []) (g := (if s0 = 0 then 35 else 17, [l0, l1], [], h)) rfl).trans ?_
  all_goals exact am_Y_if

theorem b_X8_readUnit_95 {d : Nat} {Q : Option am_V → am_H → Prop} (h : am_H) (s0 : Int32) (l0 l1 : Option am_V) : ex_ d 135 95 [l0, l1] [v_i s0] h Q ↔ if s0 = 0 then ex_ d 135 109 [l0, l1] [] h Q else ex_ d 135 98 [l0, l1] [] h Q := by
  unfold ex_
  refine (am_Y_go 1 (ok := []) (g := (if s0 = 0 then 109 else 98, [l0, l1], [], h)) rfl).trans ?_
  all_goals exact am_Y_if

theorem b_X8_readUnit_59 {d : Nat} {Q : Option am_V → am_H → Prop} (h : am_H) (s0 : Int32) (l0 l1 : Option am_V) : ex_ d 135 59 [l0, l1] [v_i s0] h Q ↔ if s0 = 0 then ex_ d 135 89 [l0, l1] [] h Q else ex_ d 135 62 [l0, l1] [] h Q := by
  unfold ex_
  refine (am_Y_go 1 (ok := []) (g := (if s0 = 0 then 89 else 62, [l0, l1], [], h)) rfl).trans ?_
  all_goals exact am_Y_if

theorem b_X8_readUnit_35 {d : Nat} {Q : Option am_V → am_H → Prop} (h : am_H) (l1 : Option am_V) (Lh : Lay h) : ex_ (d + 1) 135 35 [some (v_r (some 2)), l1] [] h Q ↔ ex_ d 124 0 [some (v_r (some 2)), some (v_i (-217 : Int32))] [] h (fun r h' => ex_ (d + 1) 135 44 [some (v_r (some 2)), some (v_i (0 : Int32))] (r.toList ++ []) h' Q) := by
  unfold ex_
  refine (am_Y_go 4 (ok := []) (g := (41, [some (v_r (some 2)), some (v_i (0 : Int32))], [v_i (-217 : Int32), v_r (some 2)], h)) rfl).trans ?_
  all_goals exact ((am_Y_call (j := 124) (na := 2) (ci := 8) (fl := 0) rfl rfl rfl).trans (cj_d ⟨⟨Nat.le_of_ble_eq_true rfl, Nat.le_of_ble_eq_true rfl, Nat.le_of_ble_eq_true rfl, rfl⟩, Or.inr (Or.inr (show (8 : Nat) < 20 ∧ am_is h (some 2) 8 from ⟨by decide, (la_is Lh (o := 2) rfl)⟩))⟩ Iff.rfl))

theorem b_X8_readUnit_17 {d : Nat} {Q : Option am_V → am_H → Prop} (h : am_H) (l1 : Option am_V) (Lh : Lay h) : ex_ (d + 1) 135 17 [some (v_r (some 2)), l1] [] h Q ↔ ex_ d 135 0 [some (v_r (some 2)), none] [] h (fun r h' => ex_ (d + 1) 135 21 [some (v_r (some 2)), l1] (r.toList ++ []) h' Q) := by
  unfold ex_
  refine (am_Y_go 1 (ok := []) (g := (18, [some (v_r (some 2)), l1], [v_r (some 2)], h)) rfl).trans ?_
  all_goals exact ((am_Y_call (j := 135) (na := 1) (ci := 8) (fl := 0) rfl rfl rfl).trans (cj_d ⟨⟨Nat.le_of_ble_eq_true rfl, Nat.le_of_ble_eq_true rfl, Nat.le_of_ble_eq_true rfl, rfl⟩, Or.inr (Or.inr (show (8 : Nat) < 20 ∧ am_is h (some 2) 8 from ⟨by decide, (la_is Lh (o := 2) rfl)⟩))⟩ Iff.rfl))

theorem b_X8_readUnit_109 {d : Nat} {Q : Option am_V → am_H → Prop} (h : am_H) (l0 l1 : Option am_V) : ex_ d 135 109 [l0, l1] [] h Q ↔ Q (some (v_i (0 : Int32))) h := by
  unfold ex_
  refine (am_Y_go 1 (ok := []) (g := (110, [l0, l1], [v_i (0 : Int32)], h)) rfl).trans ?_
  all_goals exact ((am_Y_ret rfl rfl rfl).trans (am_rz (show am_fit 1 0 from Or.inl rfl)))

theorem b_X8_readUnit_98 {d : Nat} {Q : Option am_V → am_H → Prop} (h : am_H) (l1 : Option am_V) (Lh : Lay h) : ex_ (d + 1) 135 98 [some (v_r (some 2)), l1] [] h Q ↔ ex_ d 131 0 [some (v_r (some 2)), none, none] [] h (fun r h' => ex_ (d + 1) 135 102 [some (v_r (some 2)), l1] (r.toList ++ []) h' Q) := by
  unfold ex_
  refine (am_Y_go 1 (ok := []) (g := (99, [some (v_r (some 2)), l1], [v_r (some 2)], h)) rfl).trans ?_
  all_goals exact ((am_Y_call (j := 131) (na := 1) (ci := 8) (fl := 0) rfl rfl rfl).trans (cj_d ⟨⟨Nat.le_of_ble_eq_true rfl, Nat.le_of_ble_eq_true rfl, Nat.le_of_ble_eq_true rfl, rfl⟩, Or.inr (Or.inr (show (8 : Nat) < 20 ∧ am_is h (some 2) 8 from ⟨by decide, (la_is Lh (o := 2) rfl)⟩))⟩ Iff.rfl))

theorem b_X8_readUnit_89 {d : Nat} {Q : Option am_V → am_H → Prop} (h : am_H) (l0 l1 : Option am_V) : ex_ d 135 89 [l0, l1] [] h Q ↔ Q (some (v_i (0 : Int32))) h := by
  unfold ex_
  refine (am_Y_go 1 (ok := []) (g := (90, [l0, l1], [v_i (0 : Int32)], h)) rfl).trans ?_
  all_goals exact ((am_Y_ret rfl rfl rfl).trans (am_rz (show am_fit 1 0 from Or.inl rfl)))

theorem b_X8_readUnit_62 {d : Nat} {Q : Option am_V → am_H → Prop} (h : am_H) (l1 : Option am_V) (Lh : Lay h) : ex_ (d + 1) 135 62 [some (v_r (some 2)), l1] [] h Q ↔ ex_ d 134 0 [some (v_r (some 2)), none, none] [] h (fun r h' => ex_ (d + 1) 135 66 [some (v_r (some 2)), l1] (r.toList ++ []) h' Q) := by
  unfold ex_
  refine (am_Y_go 1 (ok := []) (g := (63, [some (v_r (some 2)), l1], [v_r (some 2)], h)) rfl).trans ?_
  all_goals exact ((am_Y_call (j := 134) (na := 1) (ci := 8) (fl := 0) rfl rfl rfl).trans (cj_d ⟨⟨Nat.le_of_ble_eq_true rfl, Nat.le_of_ble_eq_true rfl, Nat.le_of_ble_eq_true rfl, rfl⟩, Or.inr (Or.inr (show (8 : Nat) < 20 ∧ am_is h (some 2) 8 from ⟨by decide, (la_is Lh (o := 2) rfl)⟩))⟩ Iff.rfl))

theorem b_X8_readUnit_44 {d : Nat} {Q : Option am_V → am_H → Prop} (h : am_H) (x1 : Int32) (l0 : Option am_V) : ex_ d 135 44 [l0, some (v_i x1)] [] h Q ↔ (x1 = 0 ∨ x1 = 1) ∧ Q (some (v_i x1)) h := by
  unfold ex_
  refine (am_Y_go 1 (ok := []) (g := (45, [l0, some (v_i x1)], [v_i x1], h)) rfl).trans ?_
  all_goals exact ((am_Y_ret rfl rfl rfl).trans (Iff.rfl))

theorem b_X8_readUnit_21 {d : Nat} {Q : Option am_V → am_H → Prop} (h : am_H) (s0 : Int32) (l0 l1 : Option am_V) : ex_ d 135 21 [l0, l1] [v_i s0] h Q ↔ if s0 = 0 then ex_ d 135 35 [l0, l1] [] h Q else ex_ d 135 24 [l0, l1] [] h Q := by
  unfold ex_
  refine (am_Y_go 1 (ok := []) (g := (if s0 = 0 then 35 else 24, [l0, l1], [], h)) rfl).trans ?_
  all_goals exact am_Y_if

theorem b_X8_readUnit_102 {d : Nat} {Q : Option am_V → am_H → Prop} (h : am_H) (s0 : Int32) (l0 l1 : Option am_V) : ex_ d 135 102 [l0, l1] [v_i s0] h Q ↔ if s0 = 0 then ex_ d 135 109 [l0, l1] [] h Q else ex_ d 135 105 [l0, l1] [] h Q := by
  unfold ex_
  refine (am_Y_go 1 (ok := []) (g := (if s0 = 0 then 109 else 105, [l0, l1], [], h)) rfl).trans ?_
  all_goals exact am_Y_if

theorem b_X8_readUnit_66 {d : Nat} {Q : Option am_V → am_H → Prop} (h : am_H) (s0 : Int32) (l0 l1 : Option am_V) : ex_ d 135 66 [l0, l1] [v_i s0] h Q ↔ if s0 = 0 then ex_ d 135 89 [l0, l1] [] h Q else ex_ d 135 69 [l0, l1] [] h Q := by
  unfold ex_
  refine (am_Y_go 1 (ok := []) (g := (if s0 = 0 then 89 else 69, [l0, l1], [], h)) rfl).trans ?_
  all_goals exact am_Y_if

theorem b_X8_readUnit_24 {d : Nat} {Q : Option am_V → am_H → Prop} (h : am_H) (l1 : Option am_V) (Lh : Lay h) : ex_ (d + 1) 135 24 [some (v_r (some 2)), l1] [] h Q ↔ ex_ d 126 0 [some (v_r (some 2))] [] h (fun r h' => ex_ (d + 1) 135 28 [some (v_r (some 2)), l1] (r.toList ++ []) h' Q) := by
  unfold ex_
  refine (am_Y_go 1 (ok := []) (g := (25, [some (v_r (some 2)), l1], [v_r (some 2)], h)) rfl).trans ?_
  all_goals exact ((am_Y_call (j := 126) (na := 1) (ci := 8) (fl := 0) rfl rfl rfl).trans (cj_d ⟨⟨Nat.le_of_ble_eq_true rfl, Nat.le_of_ble_eq_true rfl, Nat.le_of_ble_eq_true rfl, rfl⟩, Or.inr (Or.inr (show (8 : Nat) < 20 ∧ am_is h (some 2) 8 from ⟨by decide, (la_is Lh (o := 2) rfl)⟩))⟩ Iff.rfl))

theorem b_X8_readUnit_105 {d : Nat} {Q : Option am_V → am_H → Prop} (h : am_H) (l0 l1 : Option am_V) : ex_ d 135 105 [l0, l1] [] h Q ↔ Q (some (v_i (1 : Int32))) h := by
  unfold ex_
  refine (am_Y_go 2 (ok := []) (g := (110, [l0, l1], [v_i (1 : Int32)], h)) rfl).trans ?_
  all_goals exact ((am_Y_ret rfl rfl rfl).trans (am_rz (show am_fit 1 1 from Or.inr rfl)))

theorem b_X8_readUnit_69 {d : Nat} {Q : Option am_V → am_H → Prop} (h : am_H) (l1 : Option am_V) (Lh : Lay h) : ex_ (d + 1) 135 69 [some (v_r (some 2)), l1] [] h Q ↔ ex_ d 117 0 [some (v_r (some 2)), some (v_i (93 : Int32))] [] h (fun r h' => ex_ (d + 1) 135 75 [some (v_r (some 2)), l1] (r.toList ++ []) h' Q) := by
  unfold ex_
  refine (am_Y_go 2 (ok := []) (g := (72, [some (v_r (some 2)), l1], [v_i (93 : Int32), v_r (some 2)], h)) rfl).trans ?_
  all_goals exact ((am_Y_call (j := 117) (na := 2) (ci := 8) (fl := 0) rfl rfl rfl).trans (cj_d ⟨⟨Nat.le_of_ble_eq_true rfl, Nat.le_of_ble_eq_true rfl, Nat.le_of_ble_eq_true rfl, rfl⟩, Or.inr (Or.inr (show (8 : Nat) < 20 ∧ am_is h (some 2) 8 from ⟨by decide, (la_is Lh (o := 2) rfl)⟩))⟩ Iff.rfl))

theorem b_X8_readUnit_28 {d : Nat} {Q : Option am_V → am_H → Prop} (h : am_H) (s0 : Int32) (l0 l1 : Option am_V) : ex_ d 135 28 [l0, l1] [v_i s0] h Q ↔ if s0 = 0 then ex_ d 135 35 [l0, l1] [] h Q else ex_ d 135 31 [l0, l1] [] h Q := by
  unfold ex_
  refine (am_Y_go 1 (ok := []) (g := (if s0 = 0 then 35 else 31, [l0, l1], [], h)) rfl).trans ?_
  all_goals exact am_Y_if

theorem b_X8_readUnit_75 {d : Nat} {Q : Option am_V → am_H → Prop} (h : am_H) (s0 : Int32) (l0 l1 : Option am_V) : ex_ d 135 75 [l0, l1] [v_i s0] h Q ↔ if s0 = 0 then ex_ d 135 89 [l0, l1] [] h Q else ex_ d 135 78 [l0, l1] [] h Q := by
  unfold ex_
  refine (am_Y_go 1 (ok := []) (g := (if s0 = 0 then 89 else 78, [l0, l1], [], h)) rfl).trans ?_
  all_goals exact am_Y_if

theorem b_X8_readUnit_31 {d : Nat} {Q : Option am_V → am_H → Prop} (h : am_H) (l1 : Option am_V) (Lh : Lay h) : ex_ (d + 1) 135 31 [some (v_r (some 2)), l1] [] h Q ↔ ex_ d 124 0 [some (v_r (some 2)), some (v_i (-217 : Int32))] [] h (fun r h' => ex_ (d + 1) 135 44 [some (v_r (some 2)), some (v_i (1 : Int32))] (r.toList ++ []) h' Q) := by
  unfold ex_
  refine (am_Y_go 5 (ok := []) (g := (41, [some (v_r (some 2)), some (v_i (1 : Int32))], [v_i (-217 : Int32), v_r (some 2)], h)) rfl).trans ?_
  all_goals exact ((am_Y_call (j := 124) (na := 2) (ci := 8) (fl := 0) rfl rfl rfl).trans (cj_d ⟨⟨Nat.le_of_ble_eq_true rfl, Nat.le_of_ble_eq_true rfl, Nat.le_of_ble_eq_true rfl, rfl⟩, Or.inr (Or.inr (show (8 : Nat) < 20 ∧ am_is h (some 2) 8 from ⟨by decide, (la_is Lh (o := 2) rfl)⟩))⟩ Iff.rfl))

theorem b_X8_readUnit_78 {d : Nat} {Q : Option am_V → am_H → Prop} (h : am_H) (l1 : Option am_V) (Lh : Lay h) : ex_ (d + 1) 135 78 [some (v_r (some 2)), l1] [] h Q ↔ ex_ d 126 0 [some (v_r (some 2))] [] h (fun r h' => ex_ (d + 1) 135 82 [some (v_r (some 2)), l1] (r.toList ++ []) h' Q) := by
  unfold ex_
  refine (am_Y_go 1 (ok := []) (g := (79, [some (v_r (some 2)), l1], [v_r (some 2)], h)) rfl).trans ?_
  all_goals exact ((am_Y_call (j := 126) (na := 1) (ci := 8) (fl := 0) rfl rfl rfl).trans (cj_d ⟨⟨Nat.le_of_ble_eq_true rfl, Nat.le_of_ble_eq_true rfl, Nat.le_of_ble_eq_true rfl, rfl⟩, Or.inr (Or.inr (show (8 : Nat) < 20 ∧ am_is h (some 2) 8 from ⟨by decide, (la_is Lh (o := 2) rfl)⟩))⟩ Iff.rfl))

theorem b_X8_readUnit_82 {d : Nat} {Q : Option am_V → am_H → Prop} (h : am_H) (s0 : Int32) (l0 l1 : Option am_V) : ex_ d 135 82 [l0, l1] [v_i s0] h Q ↔ if s0 = 0 then ex_ d 135 89 [l0, l1] [] h Q else ex_ d 135 85 [l0, l1] [] h Q := by
  unfold ex_
  refine (am_Y_go 1 (ok := []) (g := (if s0 = 0 then 89 else 85, [l0, l1], [], h)) rfl).trans ?_
  all_goals exact am_Y_if

theorem b_X8_readUnit_85 {d : Nat} {Q : Option am_V → am_H → Prop} (h : am_H) (l0 l1 : Option am_V) : ex_ d 135 85 [l0, l1] [] h Q ↔ Q (some (v_i (1 : Int32))) h := by
  unfold ex_
  refine (am_Y_go 2 (ok := []) (g := (90, [l0, l1], [v_i (1 : Int32)], h)) rfl).trans ?_
  all_goals exact ((am_Y_ret rfl rfl rfl).trans (am_rz (show am_fit 1 1 from Or.inr rfl)))

theorem b_X8_readLaw_0 {d : Nat} {Q : Option am_V → am_H → Prop} (h : am_H) (l1 : Option am_V) (Lh : Lay h) : ex_ d 137 0 [some (v_r (some 2)), l1] [] h Q ↔ if ¬ (h_i h 2 6) = (207 : Int32) then ex_ d 137 15 [some (v_r (some 2)), l1] [v_r (some 2)] h Q else ex_ d 137 11 [some (v_r (some 2)), l1] [v_r (some 2)] h Q := by
  unfold ex_
  refine (am_Y_go 5 (ok := [am_is h (some 2) 8]) (g := (if ¬ (h_i h 2 6) = (207 : Int32) then 15 else 11, [some (v_r (some 2)), l1], [v_r (some 2)], h)) rfl).trans ?_
  simp only [am_all]
  all_goals exact cj_d (la_is Lh (o := 2) rfl) (am_Y_if)

theorem b_X8_readLaw_15 {d : Nat} {Q : Option am_V → am_H → Prop} (h : am_H) (l1 : Option am_V) (Lh : Lay h) : ex_ (d + 1) 137 15 [some (v_r (some 2)), l1] [v_r (some 2)] h Q ↔ ex_ d 115 0 [some (v_r (some 2))] [] (p_i (p_i (p_i h 2 15 (0 : Int32)) 2 14 (0 : Int32)) 2 16 (0 : Int32)) (fun r h' => ex_ (d + 1) 137 33 [some (v_r (some 2)), l1] (r.toList ++ []) h' Q) := by
  unfold ex_
  refine (am_Y_go 9 (ok := [am_is h (some 2) 8, (0 : Int32) = 0 ∨ (0 : Int32) = 1, am_is h (some 2) 8, am_is h (some 2) 8]) (g := (30, [some (v_r (some 2)), l1], [v_r (some 2)], (p_i (p_i (p_i h 2 15 (0 : Int32)) 2 14 (0 : Int32)) 2 16 (0 : Int32)))) rfl).trans ?_
  simp only [am_all]
  all_goals exact cj_d (la_is Lh (o := 2) rfl) (cj_d (by decide) (cj_d (la_is Lh (o := 2) rfl) (cj_d (la_is Lh (o := 2) rfl) (((am_Y_call (j := 115) (na := 1) (ci := 8) (fl := 0) rfl rfl rfl).trans (cj_d ⟨⟨Nat.le_of_ble_eq_true rfl, Nat.le_of_ble_eq_true rfl, Nat.le_of_ble_eq_true rfl, rfl⟩, Or.inr (Or.inr (show (8 : Nat) < 20 ∧ am_is h (some 2) 8 from ⟨by decide, (la_is Lh (o := 2) rfl)⟩))⟩ Iff.rfl))))))

theorem b_X8_readLaw_11 {d : Nat} {Q : Option am_V → am_H → Prop} (h : am_H) (l1 : Option am_V) (Lh : Lay h) : ex_ (d + 1) 137 11 [some (v_r (some 2)), l1] [v_r (some 2)] h Q ↔ ex_ d 115 0 [some (v_r (some 2))] [] (p_i (p_i (p_i h 2 15 (1 : Int32)) 2 14 (0 : Int32)) 2 16 (0 : Int32)) (fun r h' => ex_ (d + 1) 137 33 [some (v_r (some 2)), l1] (r.toList ++ []) h' Q) := by
  unfold ex_
  refine (am_Y_go 10 (ok := [am_is h (some 2) 8, (1 : Int32) = 0 ∨ (1 : Int32) = 1, am_is h (some 2) 8, am_is h (some 2) 8]) (g := (30, [some (v_r (some 2)), l1], [v_r (some 2)], (p_i (p_i (p_i h 2 15 (1 : Int32)) 2 14 (0 : Int32)) 2 16 (0 : Int32)))) rfl).trans ?_
  simp only [am_all]
  all_goals exact cj_d (la_is Lh (o := 2) rfl) (cj_d (by decide) (cj_d (la_is Lh (o := 2) rfl) (cj_d (la_is Lh (o := 2) rfl) (((am_Y_call (j := 115) (na := 1) (ci := 8) (fl := 0) rfl rfl rfl).trans (cj_d ⟨⟨Nat.le_of_ble_eq_true rfl, Nat.le_of_ble_eq_true rfl, Nat.le_of_ble_eq_true rfl, rfl⟩, Or.inr (Or.inr (show (8 : Nat) < 20 ∧ am_is h (some 2) 8 from ⟨by decide, (la_is Lh (o := 2) rfl)⟩))⟩ Iff.rfl))))))

theorem b_X8_readLaw_33 {d : Nat} {Q : Option am_V → am_H → Prop} (h : am_H) (l1 : Option am_V) (Lh : Lay h) : ex_ (d + 1) 137 33 [some (v_r (some 2)), l1] [] h Q ↔ ex_ d 117 0 [some (v_r (some 2)), some (v_i (58 : Int32))] [] h (fun r h' => ex_ (d + 1) 137 39 [some (v_r (some 2)), l1] (r.toList ++ []) h' Q) := by
  unfold ex_
  refine (am_Y_go 2 (ok := []) (g := (36, [some (v_r (some 2)), l1], [v_i (58 : Int32), v_r (some 2)], h)) rfl).trans ?_
  all_goals exact ((am_Y_call (j := 117) (na := 2) (ci := 8) (fl := 0) rfl rfl rfl).trans (cj_d ⟨⟨Nat.le_of_ble_eq_true rfl, Nat.le_of_ble_eq_true rfl, Nat.le_of_ble_eq_true rfl, rfl⟩, Or.inr (Or.inr (show (8 : Nat) < 20 ∧ am_is h (some 2) 8 from ⟨by decide, (la_is Lh (o := 2) rfl)⟩))⟩ Iff.rfl))

theorem b_X8_readLaw_39 {d : Nat} {Q : Option am_V → am_H → Prop} (h : am_H) (s0 : Int32) (l0 l1 : Option am_V) : ex_ d 137 39 [l0, l1] [v_i s0] h Q ↔ if s0 = 0 then ex_ d 137 66 [l0, l1] [] h Q else ex_ d 137 42 [l0, l1] [] h Q := by
  unfold ex_
  refine (am_Y_go 1 (ok := []) (g := (if s0 = 0 then 66 else 42, [l0, l1], [], h)) rfl).trans ?_
  all_goals exact am_Y_if

theorem b_X8_readLaw_66 {d : Nat} {Q : Option am_V → am_H → Prop} (h : am_H) (l0 l1 : Option am_V) : ex_ d 137 66 [l0, l1] [] h Q ↔ Q (some (v_i (0 : Int32))) h := by
  unfold ex_
  refine (am_Y_go 1 (ok := []) (g := (67, [l0, l1], [v_i (0 : Int32)], h)) rfl).trans ?_
  all_goals exact ((am_Y_ret rfl rfl rfl).trans (am_rz (show am_fit 1 0 from Or.inl rfl)))

theorem b_X8_readLaw_42 {d : Nat} {Q : Option am_V → am_H → Prop} (h : am_H) (l1 : Option am_V) (Lh : Lay h) : ex_ d 137 42 [some (v_r (some 2)), l1] [] h Q ↔ if (h_i h 2 15) = 0 then ex_ d 137 59 [some (v_r (some 2)), l1] [] h Q else ex_ d 137 49 [some (v_r (some 2)), l1] [] h Q := by
  unfold ex_
  refine (am_Y_go 3 (ok := [am_is h (some 2) 8]) (g := (if (h_i h 2 15) = 0 then 59 else 49, [some (v_r (some 2)), l1], [], h)) rfl).trans ?_
  simp only [am_all]
  all_goals exact cj_d (la_is Lh (o := 2) rfl) (am_Y_if)

theorem b_X8_readLaw_59 {d : Nat} {Q : Option am_V → am_H → Prop} (h : am_H) (l1 : Option am_V) (Lh : Lay h) : ex_ (d + 1) 137 59 [some (v_r (some 2)), l1] [] h Q ↔ ex_ d 134 0 [some (v_r (some 2)), none, none] [] h (fun r h' => ex_ (d + 1) 137 63 [some (v_r (some 2)), l1] (r.toList ++ []) h' Q) := by
  unfold ex_
  refine (am_Y_go 1 (ok := []) (g := (60, [some (v_r (some 2)), l1], [v_r (some 2)], h)) rfl).trans ?_
  all_goals exact ((am_Y_call (j := 134) (na := 1) (ci := 8) (fl := 0) rfl rfl rfl).trans (cj_d ⟨⟨Nat.le_of_ble_eq_true rfl, Nat.le_of_ble_eq_true rfl, Nat.le_of_ble_eq_true rfl, rfl⟩, Or.inr (Or.inr (show (8 : Nat) < 20 ∧ am_is h (some 2) 8 from ⟨by decide, (la_is Lh (o := 2) rfl)⟩))⟩ Iff.rfl))

theorem b_X8_readLaw_49 {d : Nat} {Q : Option am_V → am_H → Prop} (h : am_H) (l1 : Option am_V) (Lh : Lay h) : ex_ (d + 1) 137 49 [some (v_r (some 2)), l1] [] h Q ↔ ex_ d 132 0 [some (v_r (some 2)), none, none, none] [] h (fun r h' => ex_ (d + 1) 137 53 [some (v_r (some 2)), l1] (r.toList ++ []) h' Q) := by
  unfold ex_
  refine (am_Y_go 1 (ok := []) (g := (50, [some (v_r (some 2)), l1], [v_r (some 2)], h)) rfl).trans ?_
  all_goals exact ((am_Y_call (j := 132) (na := 1) (ci := 8) (fl := 0) rfl rfl rfl).trans (cj_d ⟨⟨Nat.le_of_ble_eq_true rfl, Nat.le_of_ble_eq_true rfl, Nat.le_of_ble_eq_true rfl, rfl⟩, Or.inr (Or.inr (show (8 : Nat) < 20 ∧ am_is h (some 2) 8 from ⟨by decide, (la_is Lh (o := 2) rfl)⟩))⟩ Iff.rfl))

theorem b_X8_readLaw_63 {d : Nat} {Q : Option am_V → am_H → Prop} (h : am_H) (s0 : Int32) (l0 l1 : Option am_V) : ex_ d 137 63 [l0, l1] [v_i s0] h Q ↔ if ¬ s0 = 0 then ex_ d 137 68 [l0, l1] [] h Q else ex_ d 137 66 [l0, l1] [] h Q := by
  unfold ex_
  refine (am_Y_go 1 (ok := []) (g := (if ¬ s0 = 0 then 68 else 66, [l0, l1], [], h)) rfl).trans ?_
  all_goals exact am_Y_if

theorem b_X8_readLaw_53 {d : Nat} {Q : Option am_V → am_H → Prop} (h : am_H) (s0 : Int32) (l0 l1 : Option am_V) : ex_ d 137 53 [l0, l1] [v_i s0] h Q ↔ if s0 = 0 then ex_ d 137 66 [l0, l1] [] h Q else ex_ d 137 56 [l0, l1] [] h Q := by
  unfold ex_
  refine (am_Y_go 1 (ok := []) (g := (if s0 = 0 then 66 else 56, [l0, l1], [], h)) rfl).trans ?_
  all_goals exact am_Y_if

theorem b_X8_readLaw_68 {d : Nat} {Q : Option am_V → am_H → Prop} (h : am_H) (l1 : Option am_V) (Lh : Lay h) : ex_ (d + 1) 137 68 [some (v_r (some 2)), l1] [] h Q ↔ ex_ d 136 0 [some (v_r (some 9)), some (v_i (if (nI 900) < (h_i h 2 14) then (nI 900) else (h_i h 2 14))), none] [] h (fun r h' => ex_ (d + 1) 137 87 [some (v_r (some 2)), l1] (r.toList ++ []) h' Q) := by
  have e0 : h_r h 2 13 = some 9 := la_r Lh (q := (2, 13, 9)) (by decide)
  have e1 : h_l h 9 = 900 := (la_l Lh (o := 9) rfl)
  unfold ex_
  refine (am_Y_go 8 (ok := [am_is h (some 2) 8, am_is h (some 2) 8, am_is h (some 2) 8, am_an h ((h_r h 2 13))]) (g := (84, [some (v_r (some 2)), l1], [v_i (if (nI (h_l h ((h_r h 2 13).getD 0))) < (h_i h 2 14) then (nI (h_l h ((h_r h 2 13).getD 0))) else (h_i h 2 14)), v_r ((h_r h 2 13))], h)) rfl).trans ?_
  simp only [e0, e1, Option.getD_some, am_all]
  all_goals exact cj_d (la_is Lh (o := 2) rfl) (cj_d (la_is Lh (o := 2) rfl) (cj_d (la_is Lh (o := 2) rfl) (cj_d (la_an20 Lh (o := 9) rfl) (((am_Y_call (j := 136) (na := 2) (ci := 0) (fl := 2) rfl rfl rfl).trans (cj_d ⟨⟨Nat.le_of_ble_eq_true rfl, Nat.le_of_ble_eq_true rfl, Nat.le_of_ble_eq_true rfl, rfl⟩, Or.inl rfl⟩ Iff.rfl))))))

theorem b_X8_readLaw_56 {d : Nat} {Q : Option am_V → am_H → Prop} (h : am_H) (l1 : Option am_V) (Lh : Lay h) : ex_ (d + 1) 137 56 [some (v_r (some 2)), l1] [] h Q ↔ ex_ d 136 0 [some (v_r (some 9)), some (v_i (if (nI 900) < (h_i h 2 14) then (nI 900) else (h_i h 2 14))), none] [] h (fun r h' => ex_ (d + 1) 137 87 [some (v_r (some 2)), l1] (r.toList ++ []) h' Q) := by
  have e0 : h_r h 2 13 = some 9 := la_r Lh (q := (2, 13, 9)) (by decide)
  have e1 : h_l h 9 = 900 := (la_l Lh (o := 9) rfl)
  unfold ex_
  refine (am_Y_go 9 (ok := [am_is h (some 2) 8, am_is h (some 2) 8, am_is h (some 2) 8, am_an h ((h_r h 2 13))]) (g := (84, [some (v_r (some 2)), l1], [v_i (if (nI (h_l h ((h_r h 2 13).getD 0))) < (h_i h 2 14) then (nI (h_l h ((h_r h 2 13).getD 0))) else (h_i h 2 14)), v_r ((h_r h 2 13))], h)) rfl).trans ?_
  simp only [e0, e1, Option.getD_some, am_all]
  all_goals exact cj_d (la_is Lh (o := 2) rfl) (cj_d (la_is Lh (o := 2) rfl) (cj_d (la_is Lh (o := 2) rfl) (cj_d (la_an20 Lh (o := 9) rfl) (((am_Y_call (j := 136) (na := 2) (ci := 0) (fl := 2) rfl rfl rfl).trans (cj_d ⟨⟨Nat.le_of_ble_eq_true rfl, Nat.le_of_ble_eq_true rfl, Nat.le_of_ble_eq_true rfl, rfl⟩, Or.inl rfl⟩ Iff.rfl))))))

theorem b_X8_readLaw_87 {d : Nat} {Q : Option am_V → am_H → Prop} (h : am_H) (s0 : Option Nat) (l1 : Option am_V) (Lh : Lay h) : ex_ d 137 87 [some (v_r (some 2)), l1] [v_r s0] h Q ↔ if (h_i h 2 15) = 0 then ex_ d 137 103 [some (v_r (some 2)), some (v_r s0)] [] h Q else ex_ d 137 95 [some (v_r (some 2)), some (v_r s0)] [] h Q := by
  unfold ex_
  refine (am_Y_go 4 (ok := [am_is h (some 2) 8]) (g := (if (h_i h 2 15) = 0 then 103 else 95, [some (v_r (some 2)), some (v_r s0)], [], h)) rfl).trans ?_
  simp only [am_all]
  all_goals exact cj_d (la_is Lh (o := 2) rfl) (am_Y_if)

theorem b_X8_readLaw_103 {d : Nat} {Q : Option am_V → am_H → Prop} (h : am_H) (x1 : Option Nat) (Lh : Lay h) : ex_ d 137 103 [some (v_r (some 2)), some (v_r x1)] [] h Q ↔ Q (some (v_i (1 : Int32))) (p_r h 2 12 x1) := by
  unfold ex_
  refine (am_Y_go 4 (ok := [am_is h (some 2) 8]) (g := (109, [some (v_r (some 2)), some (v_r x1)], [v_i (1 : Int32)], (p_r h 2 12 x1))) rfl).trans ?_
  simp only [am_all]
  all_goals exact cj_d (la_is Lh (o := 2) rfl) (((am_Y_ret rfl rfl rfl).trans (am_rz (show am_fit 1 1 from Or.inr rfl))))

theorem b_X8_readLaw_95 {d : Nat} {Q : Option am_V → am_H → Prop} (h : am_H) (x1 : Option Nat) (Lh : Lay h) : ex_ d 137 95 [some (v_r (some 2)), some (v_r x1)] [] h Q ↔ Q (some (v_i (1 : Int32))) (p_r h 2 11 x1) := by
  unfold ex_
  refine (am_Y_go 5 (ok := [am_is h (some 2) 8]) (g := (109, [some (v_r (some 2)), some (v_r x1)], [v_i (1 : Int32)], (p_r h 2 11 x1))) rfl).trans ?_
  simp only [am_all]
  all_goals exact cj_d (la_is Lh (o := 2) rfl) (((am_Y_ret rfl rfl rfl).trans (am_rz (show am_fit 1 1 from Or.inr rfl))))

theorem b_X8_readLine_0 {d : Nat} {Q : Option am_V → am_H → Prop} (h : am_H) (Lh : Lay h) : ex_ d 138 0 [some (v_r (some 2))] [] h Q ↔ if (h_i h 2 6) = (202 : Int32) then ex_ d 138 48 [some (v_r (some 2))] [] h Q else if (h_i h 2 6) = (203 : Int32) then ex_ d 138 53 [some (v_r (some 2))] [] h Q else if (h_i h 2 6) = (204 : Int32) then ex_ d 138 63 [some (v_r (some 2))] [] h Q else if (h_i h 2 6) = (205 : Int32) then ex_ d 138 63 [some (v_r (some 2))] [] h Q else if (h_i h 2 6) = (206 : Int32) then ex_ d 138 63 [some (v_r (some 2))] [] h Q else if (h_i h 2 6) = (207 : Int32) then ex_ d 138 58 [some (v_r (some 2))] [] h Q else if (h_i h 2 6) = (208 : Int32) then ex_ d 138 58 [some (v_r (some 2))] [] h Q else ex_ d 138 63 [some (v_r (some 2))] [] h Q := by
  unfold ex_
  refine (am_Y_go 3 (ok := [am_is h (some 2) 8]) (g := (am_sw (h_i h 2 6) 63 [((202 : Int32), 48), ((203 : Int32), 53), ((204 : Int32), 63), ((205 : Int32), 63), ((206 : Int32), 63), ((207 : Int32), 58), ((208 : Int32), 58)], [some (v_r (some 2))], [], h)) rfl).trans ?_
  simp only [am_all]
  all_goals exact cj_d (la_is Lh (o := 2) rfl) ((by simp only [am_sw, am_Y_if, am_all]))

theorem b_X8_readLine_63 {d : Nat} {Q : Option am_V → am_H → Prop} (h : am_H) (Lh : Lay h) : ex_ (d + 1) 138 63 [some (v_r (some 2))] [] h Q ↔ ex_ d 116 0 [some (v_r (some 2)), some (v_i (2 : Int32))] [] h (fun r h' => ex_ (d + 1) 138 68 [some (v_r (some 2))] (r.toList ++ []) h' Q) := by
  unfold ex_
  refine (am_Y_go 2 (ok := []) (g := (65, [some (v_r (some 2))], [v_i (2 : Int32), v_r (some 2)], h)) rfl).trans ?_
  all_goals exact ((am_Y_call (j := 116) (na := 2) (ci := 8) (fl := 0) rfl rfl rfl).trans (cj_d ⟨⟨Nat.le_of_ble_eq_true rfl, Nat.le_of_ble_eq_true rfl, Nat.le_of_ble_eq_true rfl, rfl⟩, Or.inr (Or.inr (show (8 : Nat) < 20 ∧ am_is h (some 2) 8 from ⟨by decide, (la_is Lh (o := 2) rfl)⟩))⟩ Iff.rfl))

theorem b_X8_readLine_48 {d : Nat} {Q : Option am_V → am_H → Prop} (h : am_H) (Lh : Lay h) : ex_ (d + 1) 138 48 [some (v_r (some 2))] [] h Q ↔ ex_ d 122 0 [some (v_r (some 2)), none, none, none] [] h (fun r h' => ex_ (d + 1) 138 52 [some (v_r (some 2))] (r.toList ++ []) h' Q) := by
  unfold ex_
  refine (am_Y_go 1 (ok := []) (g := (49, [some (v_r (some 2))], [v_r (some 2)], h)) rfl).trans ?_
  all_goals exact ((am_Y_call (j := 122) (na := 1) (ci := 8) (fl := 0) rfl rfl rfl).trans (cj_d ⟨⟨Nat.le_of_ble_eq_true rfl, Nat.le_of_ble_eq_true rfl, Nat.le_of_ble_eq_true rfl, rfl⟩, Or.inr (Or.inr (show (8 : Nat) < 20 ∧ am_is h (some 2) 8 from ⟨by decide, (la_is Lh (o := 2) rfl)⟩))⟩ Iff.rfl))

theorem b_X8_readLine_53 {d : Nat} {Q : Option am_V → am_H → Prop} (h : am_H) (Lh : Lay h) : ex_ (d + 1) 138 53 [some (v_r (some 2))] [] h Q ↔ ex_ d 123 0 [some (v_r (some 2)), none, none] [] h (fun r h' => ex_ (d + 1) 138 57 [some (v_r (some 2))] (r.toList ++ []) h' Q) := by
  unfold ex_
  refine (am_Y_go 1 (ok := []) (g := (54, [some (v_r (some 2))], [v_r (some 2)], h)) rfl).trans ?_
  all_goals exact ((am_Y_call (j := 123) (na := 1) (ci := 8) (fl := 0) rfl rfl rfl).trans (cj_d ⟨⟨Nat.le_of_ble_eq_true rfl, Nat.le_of_ble_eq_true rfl, Nat.le_of_ble_eq_true rfl, rfl⟩, Or.inr (Or.inr (show (8 : Nat) < 20 ∧ am_is h (some 2) 8 from ⟨by decide, (la_is Lh (o := 2) rfl)⟩))⟩ Iff.rfl))

theorem b_X8_readLine_58 {d : Nat} {Q : Option am_V → am_H → Prop} (h : am_H) (Lh : Lay h) : ex_ (d + 1) 138 58 [some (v_r (some 2))] [] h Q ↔ ex_ d 137 0 [some (v_r (some 2)), none] [] h (fun r h' => ex_ (d + 1) 138 62 [some (v_r (some 2))] (r.toList ++ []) h' Q) := by
  unfold ex_
  refine (am_Y_go 1 (ok := []) (g := (59, [some (v_r (some 2))], [v_r (some 2)], h)) rfl).trans ?_
  all_goals exact ((am_Y_call (j := 137) (na := 1) (ci := 8) (fl := 0) rfl rfl rfl).trans (cj_d ⟨⟨Nat.le_of_ble_eq_true rfl, Nat.le_of_ble_eq_true rfl, Nat.le_of_ble_eq_true rfl, rfl⟩, Or.inr (Or.inr (show (8 : Nat) < 20 ∧ am_is h (some 2) 8 from ⟨by decide, (la_is Lh (o := 2) rfl)⟩))⟩ Iff.rfl))

theorem b_X8_readLine_68 {d : Nat} {Q : Option am_V → am_H → Prop} (h : am_H) (s0 : Int32) (l0 : Option am_V) : ex_ d 138 68 [l0] [v_i s0] h Q ↔ (s0 = 0 ∨ s0 = 1) ∧ Q (some (v_i s0)) h := by
  unfold ex_
  exact ((am_Y_ret rfl rfl rfl).trans (Iff.rfl))

theorem b_X8_readLine_52 {d : Nat} {Q : Option am_V → am_H → Prop} (h : am_H) (s0 : Int32) (l0 : Option am_V) : ex_ d 138 52 [l0] [v_i s0] h Q ↔ (s0 = 0 ∨ s0 = 1) ∧ Q (some (v_i s0)) h := by
  unfold ex_
  exact ((am_Y_ret rfl rfl rfl).trans (Iff.rfl))

theorem b_X8_readLine_57 {d : Nat} {Q : Option am_V → am_H → Prop} (h : am_H) (s0 : Int32) (l0 : Option am_V) : ex_ d 138 57 [l0] [v_i s0] h Q ↔ (s0 = 0 ∨ s0 = 1) ∧ Q (some (v_i s0)) h := by
  unfold ex_
  exact ((am_Y_ret rfl rfl rfl).trans (Iff.rfl))

theorem b_X8_readLine_62 {d : Nat} {Q : Option am_V → am_H → Prop} (h : am_H) (s0 : Int32) (l0 : Option am_V) : ex_ d 138 62 [l0] [v_i s0] h Q ↔ (s0 = 0 ∨ s0 = 1) ∧ Q (some (v_i s0)) h := by
  unfold ex_
  exact ((am_Y_ret rfl rfl rfl).trans (Iff.rfl))

theorem b_X8_read_0 {d : Nat} {Q : Option am_V → am_H → Prop} (h : am_H) (o1 : Nat) (x2 : Int32) (l3 l4 : Option am_V) (Lh : Lay h) {n_o1 : Nat} (A_o1 : y_arr h o1 21 n_o1) : ex_ d 139 0 [some (v_r (some 2)), some (v_r (some o1)), some (v_i x2), l3, l4] [] h Q ↔ ex_ d 139 33 [some (v_r (some 2)), some (v_r (some o1)), some (v_i x2), l3, l4] [v_r (h_r (p_r h 2 0 (some o1)) 2 9)] (p_i (p_i (p_i (p_r h 2 0 (some o1)) 2 1 (if (0 : Int32) < (if (nI n_o1) < x2 then (nI n_o1) else x2) then (if (nI n_o1) < x2 then (nI n_o1) else x2) else (0 : Int32))) 2 7 (0 : Int32)) 2 8 (-1 : Int32)) Q := by
  have e0 : h_l h o1 = n_o1 := (lb_l A_o1)
  unfold ex_
  refine (am_Y_go 19 (ok := [am_is h (some 2) 8, am_an h (some o1), am_is h (some 2) 8, am_is h (some 2) 8, am_is h (some 2) 8, am_is h (some 2) 8]) (g := (33, [some (v_r (some 2)), some (v_r (some o1)), some (v_i x2), l3, l4], [v_r (h_r (p_r h 2 0 (some o1)) 2 9)], (p_i (p_i (p_i (p_r h 2 0 (some o1)) 2 1 (if (0 : Int32) < (if (nI (h_l h o1)) < x2 then (nI (h_l h o1)) else x2) then (if (nI (h_l h o1)) < x2 then (nI (h_l h o1)) else x2) else (0 : Int32))) 2 7 (0 : Int32)) 2 8 (-1 : Int32)))) rfl).trans ?_
  simp only [e0, Option.getD_some, am_all]
  all_goals exact cj_d (la_is Lh (o := 2) rfl) (cj_d (lb_an21 A_o1) (cj_d (la_is Lh (o := 2) rfl) (cj_d (la_is Lh (o := 2) rfl) (cj_d (la_is Lh (o := 2) rfl) (cj_d (la_is Lh (o := 2) rfl) (Iff.rfl))))))

theorem b_X8_read_33 {d : Nat} {Q : Option am_V → am_H → Prop} (h : am_H) (t0 : Nat) (l0 l1 l2 l3 l4 : Option am_V) (F_t0 : y_Facts h t0) : ex_ (d + 1) 139 33 [l0, l1, l2, l3, l4] [v_r (some t0)] h Q ↔ ex_ d 27 0 [some (v_r (some t0))] [] h (fun r h' => ex_ (d + 1) 139 36 [l0, l1, l2, l3, l4] (r.toList ++ []) h' Q) := by
  unfold ex_
  exact ((am_Y_call (j := 27) (na := 1) (ci := 1) (fl := 0) rfl rfl rfl).trans (cj_d ⟨⟨Nat.le_of_ble_eq_true rfl, Nat.le_of_ble_eq_true rfl, Nat.le_of_ble_eq_true rfl, rfl⟩, Or.inr (Or.inr (show (1 : Nat) < 20 ∧ am_is h (some t0) 1 from ⟨by decide, (lr_is (F_t0.1 0 rfl))⟩))⟩ Iff.rfl))

theorem b_X8_read_36 {d : Nat} {Q : Option am_V → am_H → Prop} (h : am_H) (l1 l2 l3 l4 : Option am_V) (Lh : Lay h) : ex_ (d + 1) 139 36 [some (v_r (some 2)), l1, l2, l3, l4] [] h Q ↔ ex_ d 114 0 [some (v_r (some 2)), none, none] [] (p_r (p_r (p_i h 2 10 (0 : Int32)) 2 11 none) 2 12 none) (fun r h' => ex_ (d + 1) 139 55 [some (v_r (some 2)), l1, l2, l3, l4] (r.toList ++ []) h' Q) := by
  unfold ex_
  refine (am_Y_go 10 (ok := [am_is h (some 2) 8, am_is h (some 2) 8, am_is h (some 2) 8]) (g := (52, [some (v_r (some 2)), l1, l2, l3, l4], [v_r (some 2)], (p_r (p_r (p_i h 2 10 (0 : Int32)) 2 11 none) 2 12 none))) rfl).trans ?_
  simp only [am_all]
  all_goals exact cj_d (la_is Lh (o := 2) rfl) (cj_d (la_is Lh (o := 2) rfl) (cj_d (la_is Lh (o := 2) rfl) (((am_Y_call (j := 114) (na := 1) (ci := 8) (fl := 0) rfl rfl rfl).trans (cj_d ⟨⟨Nat.le_of_ble_eq_true rfl, Nat.le_of_ble_eq_true rfl, Nat.le_of_ble_eq_true rfl, rfl⟩, Or.inr (Or.inr (show (8 : Nat) < 20 ∧ am_is h (some 2) 8 from ⟨by decide, (la_is Lh (o := 2) rfl)⟩))⟩ Iff.rfl)))))

theorem b_X8_read_55 {d : Nat} {Q : Option am_V → am_H → Prop} (h : am_H) (l1 l2 l3 l4 : Option am_V) (Lh : Lay h) : ex_ (d + 1) 139 55 [some (v_r (some 2)), l1, l2, l3, l4] [] h Q ↔ ex_ d 115 0 [some (v_r (some 2))] [] (p_i h 2 5 (-1 : Int32)) (fun r h' => ex_ (d + 1) 139 64 [some (v_r (some 2)), l1, l2, l3, l4] (r.toList ++ []) h' Q) := by
  unfold ex_
  refine (am_Y_go 4 (ok := [am_is h (some 2) 8]) (g := (61, [some (v_r (some 2)), l1, l2, l3, l4], [v_r (some 2)], (p_i h 2 5 (-1 : Int32)))) rfl).trans ?_
  simp only [am_all]
  all_goals exact cj_d (la_is Lh (o := 2) rfl) (((am_Y_call (j := 115) (na := 1) (ci := 8) (fl := 0) rfl rfl rfl).trans (cj_d ⟨⟨Nat.le_of_ble_eq_true rfl, Nat.le_of_ble_eq_true rfl, Nat.le_of_ble_eq_true rfl, rfl⟩, Or.inr (Or.inr (show (8 : Nat) < 20 ∧ am_is h (some 2) 8 from ⟨by decide, (la_is Lh (o := 2) rfl)⟩))⟩ Iff.rfl)))

theorem b_X8_read_64 {d : Nat} {Q : Option am_V → am_H → Prop} (h : am_H) (l1 l2 l3 l4 : Option am_V) (Lh : Lay h) : ex_ (d + 1) 139 64 [some (v_r (some 2)), l1, l2, l3, l4] [] h Q ↔ ex_ d 120 0 [some (v_r (some 2))] [] h (fun r h' => ex_ (d + 1) 139 68 [some (v_r (some 2)), l1, l2, l3, l4] (r.toList ++ []) h' Q) := by
  unfold ex_
  refine (am_Y_go 1 (ok := []) (g := (65, [some (v_r (some 2)), l1, l2, l3, l4], [v_r (some 2)], h)) rfl).trans ?_
  all_goals exact ((am_Y_call (j := 120) (na := 1) (ci := 8) (fl := 0) rfl rfl rfl).trans (cj_d ⟨⟨Nat.le_of_ble_eq_true rfl, Nat.le_of_ble_eq_true rfl, Nat.le_of_ble_eq_true rfl, rfl⟩, Or.inr (Or.inr (show (8 : Nat) < 20 ∧ am_is h (some 2) 8 from ⟨by decide, (la_is Lh (o := 2) rfl)⟩))⟩ Iff.rfl))

theorem b_X8_read_68 {d : Nat} {Q : Option am_V → am_H → Prop} (h : am_H) (s0 : Int32) (l0 l1 l2 l3 l4 : Option am_V) : ex_ d 139 68 [l0, l1, l2, l3, l4] [v_i s0] h Q ↔ if s0 = 0 then ex_ d 139 82 [l0, l1, l2, l3, l4] [] h Q else ex_ d 139 71 [l0, l1, l2, l3, l4] [] h Q := by
  unfold ex_
  refine (am_Y_go 1 (ok := []) (g := (if s0 = 0 then 82 else 71, [l0, l1, l2, l3, l4], [], h)) rfl).trans ?_
  all_goals exact am_Y_if

theorem b_X8_read_82 {d : Nat} {Q : Option am_V → am_H → Prop} (h : am_H) (l0 l1 l2 l3 l4 : Option am_V) : ex_ d 139 82 [l0, l1, l2, l3, l4] [] h Q ↔ ex_ d 139 87 [l0, l1, l2, some (v_i (0 : Int32)), some (v_i (0 : Int32))] [] h Q := by
  unfold ex_
  refine (am_Y_go 4 (ok := []) (g := (87, [l0, l1, l2, some (v_i (0 : Int32)), some (v_i (0 : Int32))], [], h)) rfl).trans ?_
  all_goals exact Iff.rfl

theorem b_X8_read_71 {d : Nat} {Q : Option am_V → am_H → Prop} (h : am_H) (l1 l2 l3 l4 : Option am_V) (Lh : Lay h) : ex_ (d + 1) 139 71 [some (v_r (some 2)), l1, l2, l3, l4] [] h Q ↔ ex_ d 121 0 [some (v_r (some 2))] [] h (fun r h' => ex_ (d + 1) 139 75 [some (v_r (some 2)), l1, l2, l3, l4] (r.toList ++ []) h' Q) := by
  unfold ex_
  refine (am_Y_go 1 (ok := []) (g := (72, [some (v_r (some 2)), l1, l2, l3, l4], [v_r (some 2)], h)) rfl).trans ?_
  all_goals exact ((am_Y_call (j := 121) (na := 1) (ci := 8) (fl := 0) rfl rfl rfl).trans (cj_d ⟨⟨Nat.le_of_ble_eq_true rfl, Nat.le_of_ble_eq_true rfl, Nat.le_of_ble_eq_true rfl, rfl⟩, Or.inr (Or.inr (show (8 : Nat) < 20 ∧ am_is h (some 2) 8 from ⟨by decide, (la_is Lh (o := 2) rfl)⟩))⟩ Iff.rfl))

theorem b_X8_read_87 {d : Nat} {Q : Option am_V → am_H → Prop} (h : am_H) (x4 : Int32) (l0 l1 l2 l3 : Option am_V) : ex_ d 139 87 [l0, l1, l2, l3, some (v_i x4)] [] h Q ↔ if (900 : Int32) ≤ x4 then ex_ d 139 133 [l0, l1, l2, l3, some (v_i x4)] [] h Q else ex_ d 139 95 [l0, l1, l2, l3, some (v_i x4)] [] h Q := by
  unfold ex_
  refine (am_Y_go 3 (ok := []) (g := (if (900 : Int32) ≤ x4 then 133 else 95, [l0, l1, l2, l3, some (v_i x4)], [], h)) rfl).trans ?_
  all_goals exact am_Y_if

theorem b_X8_read_75 {d : Nat} {Q : Option am_V → am_H → Prop} (h : am_H) (s0 : Int32) (l0 l1 l2 l3 l4 : Option am_V) : ex_ d 139 75 [l0, l1, l2, l3, l4] [v_i s0] h Q ↔ if s0 = 0 then ex_ d 139 82 [l0, l1, l2, l3, l4] [] h Q else ex_ d 139 78 [l0, l1, l2, l3, l4] [] h Q := by
  unfold ex_
  refine (am_Y_go 1 (ok := []) (g := (if s0 = 0 then 82 else 78, [l0, l1, l2, l3, l4], [], h)) rfl).trans ?_
  all_goals exact am_Y_if

theorem b_X8_read_133 {d : Nat} {Q : Option am_V → am_H → Prop} (h : am_H) (x3 : Int32) (l0 l1 l2 l4 : Option am_V) : ex_ d 139 133 [l0, l1, l2, some (v_i x3), l4] [] h Q ↔ (x3 = 0 ∨ x3 = 1) ∧ Q (some (v_i x3)) h := by
  unfold ex_
  refine (am_Y_go 1 (ok := []) (g := (134, [l0, l1, l2, some (v_i x3), l4], [v_i x3], h)) rfl).trans ?_
  all_goals exact ((am_Y_ret rfl rfl rfl).trans (Iff.rfl))

theorem b_X8_read_95 {d : Nat} {Q : Option am_V → am_H → Prop} (h : am_H) (x3 : Int32) (l0 l1 l2 l4 : Option am_V) : ex_ d 139 95 [l0, l1, l2, some (v_i x3), l4] [] h Q ↔ if x3 = 0 then ex_ d 139 133 [l0, l1, l2, some (v_i x3), l4] [] h Q else ex_ d 139 99 [l0, l1, l2, some (v_i x3), l4] [] h Q := by
  unfold ex_
  refine (am_Y_go 2 (ok := []) (g := (if x3 = 0 then 133 else 99, [l0, l1, l2, some (v_i x3), l4], [], h)) rfl).trans ?_
  all_goals exact am_Y_if

theorem b_X8_read_78 {d : Nat} {Q : Option am_V → am_H → Prop} (h : am_H) (l0 l1 l2 l3 l4 : Option am_V) : ex_ d 139 78 [l0, l1, l2, l3, l4] [] h Q ↔ ex_ d 139 87 [l0, l1, l2, some (v_i (1 : Int32)), some (v_i (0 : Int32))] [] h Q := by
  unfold ex_
  refine (am_Y_go 5 (ok := []) (g := (87, [l0, l1, l2, some (v_i (1 : Int32)), some (v_i (0 : Int32))], [], h)) rfl).trans ?_
  all_goals exact Iff.rfl

theorem b_X8_read_99 {d : Nat} {Q : Option am_V → am_H → Prop} (h : am_H) (l1 l2 l3 l4 : Option am_V) (Lh : Lay h) : ex_ d 139 99 [some (v_r (some 2)), l1, l2, l3, l4] [] h Q ↔ if (h_i h 2 6) = (1 : Int32) then ex_ d 139 133 [some (v_r (some 2)), l1, l2, l3, l4] [] h Q else ex_ d 139 107 [some (v_r (some 2)), l1, l2, l3, l4] [] h Q := by
  unfold ex_
  refine (am_Y_go 4 (ok := [am_is h (some 2) 8]) (g := (if (h_i h 2 6) = (1 : Int32) then 133 else 107, [some (v_r (some 2)), l1, l2, l3, l4], [], h)) rfl).trans ?_
  simp only [am_all]
  all_goals exact cj_d (la_is Lh (o := 2) rfl) (am_Y_if)

theorem b_X8_read_107 {d : Nat} {Q : Option am_V → am_H → Prop} (h : am_H) (l1 l2 l3 l4 : Option am_V) (Lh : Lay h) : ex_ (d + 1) 139 107 [some (v_r (some 2)), l1, l2, l3, l4] [] h Q ↔ ex_ d 138 0 [some (v_r (some 2))] [] h (fun r h' => ex_ (d + 1) 139 111 [some (v_r (some 2)), l1, l2, l3, l4] (r.toList ++ []) h' Q) := by
  unfold ex_
  refine (am_Y_go 1 (ok := []) (g := (108, [some (v_r (some 2)), l1, l2, l3, l4], [v_r (some 2)], h)) rfl).trans ?_
  all_goals exact ((am_Y_call (j := 138) (na := 1) (ci := 8) (fl := 0) rfl rfl rfl).trans (cj_d ⟨⟨Nat.le_of_ble_eq_true rfl, Nat.le_of_ble_eq_true rfl, Nat.le_of_ble_eq_true rfl, rfl⟩, Or.inr (Or.inr (show (8 : Nat) < 20 ∧ am_is h (some 2) 8 from ⟨by decide, (la_is Lh (o := 2) rfl)⟩))⟩ Iff.rfl))

theorem b_X8_read_111 {d : Nat} {Q : Option am_V → am_H → Prop} (h : am_H) (s0 : Int32) (l0 l1 l2 l3 l4 : Option am_V) : ex_ d 139 111 [l0, l1, l2, l3, l4] [v_i s0] h Q ↔ if s0 = 0 then ex_ d 139 125 [l0, l1, l2, l3, l4] [] h Q else ex_ d 139 114 [l0, l1, l2, l3, l4] [] h Q := by
  unfold ex_
  refine (am_Y_go 1 (ok := []) (g := (if s0 = 0 then 125 else 114, [l0, l1, l2, l3, l4], [], h)) rfl).trans ?_
  all_goals exact am_Y_if

theorem b_X8_read_125 {d : Nat} {Q : Option am_V → am_H → Prop} (h : am_H) (x4 : Int32) (l0 l1 l2 l3 : Option am_V) : ex_ d 139 125 [l0, l1, l2, l3, some (v_i x4)] [] h Q ↔ ex_ d 139 87 [l0, l1, l2, some (v_i (0 : Int32)), some (v_i (x4 + (1 : Int32)))] [] h Q := by
  unfold ex_
  refine (am_Y_go 4 (ok := []) (g := (87, [l0, l1, l2, some (v_i (0 : Int32)), some (v_i (x4 + (1 : Int32)))], [], h)) rfl).trans ?_
  all_goals exact Iff.rfl

theorem b_X8_read_114 {d : Nat} {Q : Option am_V → am_H → Prop} (h : am_H) (l1 l2 l3 l4 : Option am_V) (Lh : Lay h) : ex_ (d + 1) 139 114 [some (v_r (some 2)), l1, l2, l3, l4] [] h Q ↔ ex_ d 121 0 [some (v_r (some 2))] [] h (fun r h' => ex_ (d + 1) 139 118 [some (v_r (some 2)), l1, l2, l3, l4] (r.toList ++ []) h' Q) := by
  unfold ex_
  refine (am_Y_go 1 (ok := []) (g := (115, [some (v_r (some 2)), l1, l2, l3, l4], [v_r (some 2)], h)) rfl).trans ?_
  all_goals exact ((am_Y_call (j := 121) (na := 1) (ci := 8) (fl := 0) rfl rfl rfl).trans (cj_d ⟨⟨Nat.le_of_ble_eq_true rfl, Nat.le_of_ble_eq_true rfl, Nat.le_of_ble_eq_true rfl, rfl⟩, Or.inr (Or.inr (show (8 : Nat) < 20 ∧ am_is h (some 2) 8 from ⟨by decide, (la_is Lh (o := 2) rfl)⟩))⟩ Iff.rfl))

theorem b_X8_read_118 {d : Nat} {Q : Option am_V → am_H → Prop} (h : am_H) (s0 : Int32) (l0 l1 l2 l3 l4 : Option am_V) : ex_ d 139 118 [l0, l1, l2, l3, l4] [v_i s0] h Q ↔ if s0 = 0 then ex_ d 139 125 [l0, l1, l2, l3, l4] [] h Q else ex_ d 139 121 [l0, l1, l2, l3, l4] [] h Q := by
  unfold ex_
  refine (am_Y_go 1 (ok := []) (g := (if s0 = 0 then 125 else 121, [l0, l1, l2, l3, l4], [], h)) rfl).trans ?_
  all_goals exact am_Y_if

theorem b_X8_read_121 {d : Nat} {Q : Option am_V → am_H → Prop} (h : am_H) (x4 : Int32) (l0 l1 l2 l3 : Option am_V) : ex_ d 139 121 [l0, l1, l2, l3, some (v_i x4)] [] h Q ↔ ex_ d 139 87 [l0, l1, l2, some (v_i (1 : Int32)), some (v_i (x4 + (1 : Int32)))] [] h Q := by
  unfold ex_
  refine (am_Y_go 5 (ok := []) (g := (87, [l0, l1, l2, some (v_i (1 : Int32)), some (v_i (x4 + (1 : Int32)))], [], h)) rfl).trans ?_
  all_goals exact Iff.rfl

theorem b_X8_moveInto_0 {d : Nat} {Q : Option am_V → am_H → Prop} (h : am_H) (o1 : Nat) (Lh : Lay h) (F_o1 : y_House h o1) : ex_ (d + 1) 140 0 [some (v_r (some 2)), some (v_r (some o1))] [] h Q ↔ ex_ d 28 0 [some (v_r (some (o1 + 1))), some (v_r (some 5))] [] h (fun r h' => ex_ (d + 1) 140 11 [some (v_r (some 2)), some (v_r (some o1))] (r.toList ++ []) h' Q) := by
  have e0 : h_r h o1 0 = some (o1 + 1) := F_o1.2 (0, 0, 1) (by decide)
  have e1 : h_r h 2 9 = some 5 := la_r Lh (q := (2, 9, 5)) (by decide)
  unfold ex_
  refine (am_Y_go 4 (ok := [am_is h (some o1) 2, am_is h (some 2) 8]) (g := (8, [some (v_r (some 2)), some (v_r (some o1))], [v_r ((h_r h 2 9)), v_r ((h_r h o1 0))], h)) rfl).trans ?_
  simp only [e0, e1, Option.getD_some, am_all]
  all_goals exact cj_d (lr_is (F_o1.1 0 rfl)) (cj_d (la_is Lh (o := 2) rfl) (((am_Y_call (j := 28) (na := 2) (ci := 1) (fl := 0) rfl rfl rfl).trans (cj_d ⟨⟨Nat.le_of_ble_eq_true rfl, Nat.le_of_ble_eq_true rfl, Nat.le_of_ble_eq_true rfl, rfl⟩, Or.inr (Or.inr (show (1 : Nat) < 20 ∧ am_is h (some (o1 + 1)) 1 from ⟨by decide, (lr_is (F_o1.1 1 rfl))⟩))⟩ Iff.rfl))))

theorem b_X8_moveInto_11 {d : Nat} {Q : Option am_V → am_H → Prop} (h : am_H) (o1 : Nat) (Lh : Lay h) (F_o1 : y_House h o1) : ex_ d 140 11 [some (v_r (some 2)), some (v_r (some o1))] [] h Q ↔ Q (none) (p_i (p_r (p_r h o1 1 (h_r h 2 11)) o1 2 (h_r (p_r h o1 1 (h_r h 2 11)) 2 12)) o1 3 (h_i h 2 10)) := by
  unfold ex_
  refine (am_Y_go 12 (ok := [am_is h (some 2) 8, am_is h (some o1) 2, am_is h (some 2) 8, am_is h (some o1) 2, am_is h (some 2) 8, am_is h (some o1) 2]) (g := (35, [some (v_r (some 2)), some (v_r (some o1))], [], (p_i (p_r (p_r h o1 1 (h_r h 2 11)) o1 2 (h_r (p_r h o1 1 (h_r h 2 11)) 2 12)) o1 3 (h_i h 2 10)))) rfl).trans ?_
  simp only [am_all]
  all_goals exact cj_d (la_is Lh (o := 2) rfl) (cj_d (lr_is (F_o1.1 0 rfl)) (cj_d (la_is Lh (o := 2) rfl) (cj_d (lr_is (F_o1.1 0 rfl)) (cj_d (la_is Lh (o := 2) rfl) (cj_d (lr_is (F_o1.1 0 rfl)) (((am_Y_ret rfl rfl rfl).trans (am_rz rfl))))))))
