theorem b_X12_links_0 {d : Nat} {Q : Option am_V → am_H → Prop} (h : am_H) (l0 l1 l2 : Option am_V) : ex_ d 304 0 [l0, l1, l2] [] h Q ↔ ex_ d 304 4 [l0, some (v_i (0 : Int32)), some (v_i (0 : Int32))] [] h Q := by
  unfold ex_
  refine (am_Y_go 4 (ok := []) (g := (4, [l0, some (v_i (0 : Int32)), some (v_i (0 : Int32))], [], h)) rfl).trans ?_
  all_goals exact Iff.rfl

theorem b_X12_links_4 {d : Nat} {Q : Option am_V → am_H → Prop} (h : am_H) (x2 : Int32) (l1 : Option am_V) (Lh : Lay h) : ex_ d 304 4 [some (v_r (some 93)), l1, some (v_i x2)] [] h Q ↔ vp_in (1 : Int32) 7053 ∧ (if (h_i h 94 (Int32.toNatClampNeg (1 : Int32))) ≤ x2 then ex_ d 304 32 [some (v_r (some 93)), l1, some (v_i x2)] [] h Q else ex_ d 304 14 [some (v_r (some 93)), l1, some (v_i x2)] [] h Q) := by
  have e0 : h_r h 93 1 = some 94 := la_r Lh (q := (93, 1, 94)) (by decide)
  unfold ex_
  refine (am_Y_go 6 (ok := [am_is h (some 93) 12, am_ar h ((h_r h 93 1)) 20 (1 : Int32)]) (g := (if (h_i h ((h_r h 93 1).getD 0) (Int32.toNatClampNeg (1 : Int32))) ≤ x2 then 32 else 14, [some (v_r (some 93)), l1, some (v_i x2)], [], h)) rfl).trans ?_
  simp only [e0, Option.getD_some, am_all]
  all_goals exact cj_d (la_is Lh (o := 93) rfl) (cj_k (la_ar Lh (o := 94) rfl) (am_Y_if))

theorem b_X12_links_32 {d : Nat} {Q : Option am_V → am_H → Prop} (h : am_H) (x1 : Int32) (l0 l2 : Option am_V) : ex_ d 304 32 [l0, some (v_i x1), l2] [] h Q ↔ Q (some (v_i x1)) h := by
  unfold ex_
  refine (am_Y_go 1 (ok := []) (g := (33, [l0, some (v_i x1), l2], [v_i x1], h)) rfl).trans ?_
  all_goals exact ((am_Y_ret rfl rfl rfl).trans (am_r0))

theorem b_X12_links_14 {d : Nat} {Q : Option am_V → am_H → Prop} (h : am_H) (x1 : Int32) (x2 : Int32) (Lh : Lay h) : ex_ d 304 14 [some (v_r (some 93)), some (v_i x1), some (v_i x2)] [] h Q ↔ vp_in ((8 : Int32) + x2) 7053 ∧ ex_ d 304 4 [some (v_r (some 93)), some (v_i (x1 + (h_i h 94 (Int32.toNatClampNeg ((8 : Int32) + x2))))), some (v_i (x2 + (1 : Int32)))] [] h Q := by
  have e0 : h_r h 93 1 = some 94 := la_r Lh (q := (93, 1, 94)) (by decide)
  unfold ex_
  refine (am_Y_go 11 (ok := [am_is h (some 93) 12, am_ar h ((h_r h 93 1)) 20 ((8 : Int32) + x2)]) (g := (4, [some (v_r (some 93)), some (v_i (x1 + (h_i h ((h_r h 93 1).getD 0) (Int32.toNatClampNeg ((8 : Int32) + x2))))), some (v_i (x2 + (1 : Int32)))], [], h)) rfl).trans ?_
  simp only [e0, Option.getD_some, am_all]
  all_goals exact cj_d (la_is Lh (o := 93) rfl) (cj_k (la_ar Lh (o := 94) rfl) (Iff.rfl))

theorem b_X12_judge_0 {d : Nat} {Q : Option am_V → am_H → Prop} (h : am_H) (x2 : Int32) (l1 l3 l4 l5 l6 : Option am_V) (Lh : Lay h) : ex_ (d + 1) 305 0 [some (v_r (some 93)), l1, some (v_i x2), l3, l4, l5, l6] [] h Q ↔ ex_ d 229 0 [some (v_l (Int32.toInt64 x2)), none, some (v_l (0 : Int64)), none, some (v_l (3 : Int64)), none] [] (p_i h 93 0 (0 : Int32)) (fun r h' => ex_ (d + 1) 305 14 [some (v_r (some 93)), l1, some (v_i x2), l3, l4, l5, l6] (r.toList ++ []) h' Q) := by
  unfold ex_
  refine (am_Y_go 7 (ok := [am_is h (some 93) 12]) (g := (11, [some (v_r (some 93)), l1, some (v_i x2), l3, l4, l5, l6], [v_l (3 : Int64), v_l (0 : Int64), v_l (Int32.toInt64 x2)], (p_i h 93 0 (0 : Int32)))) rfl).trans ?_
  simp only [am_all]
  all_goals exact cj_d (la_is Lh (o := 93) rfl) (((am_Y_call (j := 229) (na := 3) (ci := 12) (fl := 2) rfl rfl rfl).trans (cj_d ⟨⟨Nat.le_of_ble_eq_true rfl, Nat.le_of_ble_eq_true rfl, Nat.le_of_ble_eq_true rfl, rfl⟩, Or.inl rfl⟩ Iff.rfl)))

theorem b_X12_judge_14 {d : Nat} {Q : Option am_V → am_H → Prop} (h : am_H) (s0 : Int32) (l0 l1 l2 l3 l4 l5 l6 : Option am_V) : ex_ d 305 14 [l0, l1, l2, l3, l4, l5, l6] [v_i s0] h Q ↔ if ¬ s0 = 0 then ex_ d 305 20 [l0, l1, l2, l3, l4, l5, l6] [] h Q else ex_ d 305 17 [l0, l1, l2, l3, l4, l5, l6] [] h Q := by
  unfold ex_
  refine (am_Y_go 1 (ok := []) (g := (if ¬ s0 = 0 then 20 else 17, [l0, l1, l2, l3, l4, l5, l6], [], h)) rfl).trans ?_
  all_goals exact am_Y_if

theorem b_X12_judge_20 {d : Nat} {Q : Option am_V → am_H → Prop} (h : am_H) (x1 : Int32) (l2 l3 l4 l5 l6 : Option am_V) (Lh : Lay h) : ex_ (d + 1) 305 20 [some (v_r (some 93)), some (v_i x1), l2, l3, l4, l5, l6] [] h Q ↔ ex_ d 303 0 [some (v_r (some 93)), some (v_i x1)] [] h (fun r h' => ex_ (d + 1) 305 25 [some (v_r (some 93)), some (v_i x1), l2, l3, l4, l5, l6] (r.toList ++ []) h' Q) := by
  unfold ex_
  refine (am_Y_go 2 (ok := []) (g := (22, [some (v_r (some 93)), some (v_i x1), l2, l3, l4, l5, l6], [v_i x1, v_r (some 93)], h)) rfl).trans ?_
  all_goals exact ((am_Y_call (j := 303) (na := 2) (ci := 12) (fl := 0) rfl rfl rfl).trans (cj_d ⟨⟨Nat.le_of_ble_eq_true rfl, Nat.le_of_ble_eq_true rfl, Nat.le_of_ble_eq_true rfl, rfl⟩, Or.inr (Or.inr (show (12 : Nat) < 20 ∧ am_is h (some 93) 12 from ⟨by decide, (la_is Lh (o := 93) rfl)⟩))⟩ Iff.rfl))

theorem b_X12_judge_17 {d : Nat} {Q : Option am_V → am_H → Prop} (h : am_H) (l0 l1 l2 l3 l4 l5 l6 : Option am_V) : ex_ d 305 17 [l0, l1, l2, l3, l4, l5, l6] [] h Q ↔ Q (some (v_i (-2 : Int32))) h := by
  unfold ex_
  refine (am_Y_go 1 (ok := []) (g := (19, [l0, l1, l2, l3, l4, l5, l6], [v_i (-2 : Int32)], h)) rfl).trans ?_
  all_goals exact ((am_Y_ret rfl rfl rfl).trans (am_r0))

theorem b_X12_judge_25 {d : Nat} {Q : Option am_V → am_H → Prop} (h : am_H) (s0 : Int32) (l0 l1 l2 l3 l4 l5 l6 : Option am_V) : ex_ d 305 25 [l0, l1, l2, l3, l4, l5, l6] [v_i s0] h Q ↔ if s0 = 0 then ex_ d 305 32 [l0, l1, l2, some (v_i s0), l4, l5, l6] [] h Q else ex_ d 305 30 [l0, l1, l2, some (v_i s0), l4, l5, l6] [] h Q := by
  unfold ex_
  refine (am_Y_go 3 (ok := []) (g := (if s0 = 0 then 32 else 30, [l0, l1, l2, some (v_i s0), l4, l5, l6], [], h)) rfl).trans ?_
  all_goals exact am_Y_if

theorem b_X12_judge_32 {d : Nat} {Q : Option am_V → am_H → Prop} (h : am_H) (l1 l2 l3 l4 l5 l6 : Option am_V) (Lh : Lay h) : ex_ (d + 1) 305 32 [some (v_r (some 93)), l1, l2, l3, l4, l5, l6] [] h Q ↔ ex_ d 283 0 [some (v_r (some 93)), none] [] h (fun r h' => ex_ (d + 1) 305 36 [some (v_r (some 93)), l1, l2, l3, l4, l5, l6] (r.toList ++ []) h' Q) := by
  unfold ex_
  refine (am_Y_go 1 (ok := []) (g := (33, [some (v_r (some 93)), l1, l2, l3, l4, l5, l6], [v_r (some 93)], h)) rfl).trans ?_
  all_goals exact ((am_Y_call (j := 283) (na := 1) (ci := 12) (fl := 0) rfl rfl rfl).trans (cj_d ⟨⟨Nat.le_of_ble_eq_true rfl, Nat.le_of_ble_eq_true rfl, Nat.le_of_ble_eq_true rfl, rfl⟩, Or.inr (Or.inr (show (12 : Nat) < 20 ∧ am_is h (some 93) 12 from ⟨by decide, (la_is Lh (o := 93) rfl)⟩))⟩ Iff.rfl))

theorem b_X12_judge_30 {d : Nat} {Q : Option am_V → am_H → Prop} (h : am_H) (x3 : Int32) (l0 l1 l2 l4 l5 l6 : Option am_V) : ex_ d 305 30 [l0, l1, l2, some (v_i x3), l4, l5, l6] [] h Q ↔ Q (some (v_i x3)) h := by
  unfold ex_
  refine (am_Y_go 1 (ok := []) (g := (31, [l0, l1, l2, some (v_i x3), l4, l5, l6], [v_i x3], h)) rfl).trans ?_
  all_goals exact ((am_Y_ret rfl rfl rfl).trans (am_r0))

theorem b_X12_judge_36 {d : Nat} {Q : Option am_V → am_H → Prop} (h : am_H) (x1 : Int32) (l2 l3 l4 l5 l6 : Option am_V) (Lh : Lay h) : ex_ (d + 1) 305 36 [some (v_r (some 93)), some (v_i x1), l2, l3, l4, l5, l6] [] h Q ↔ ex_ d 302 0 [some (v_r (some 93)), some (v_i x1), none] [] h (fun r h' => ex_ (d + 1) 305 41 [some (v_r (some 93)), some (v_i x1), l2, l3, l4, l5, l6] (r.toList ++ []) h' Q) := by
  unfold ex_
  refine (am_Y_go 2 (ok := []) (g := (38, [some (v_r (some 93)), some (v_i x1), l2, l3, l4, l5, l6], [v_i x1, v_r (some 93)], h)) rfl).trans ?_
  all_goals exact ((am_Y_call (j := 302) (na := 2) (ci := 12) (fl := 0) rfl rfl rfl).trans (cj_d ⟨⟨Nat.le_of_ble_eq_true rfl, Nat.le_of_ble_eq_true rfl, Nat.le_of_ble_eq_true rfl, rfl⟩, Or.inr (Or.inr (show (12 : Nat) < 20 ∧ am_is h (some 93) 12 from ⟨by decide, (la_is Lh (o := 93) rfl)⟩))⟩ Iff.rfl))

theorem b_X12_judge_41 {d : Nat} {Q : Option am_V → am_H → Prop} (h : am_H) (s0 : Int32) (l1 l2 l3 l4 l5 l6 : Option am_V) (Lh : Lay h) : ex_ (d + 1) 305 41 [some (v_r (some 93)), l1, l2, l3, l4, l5, l6] [v_i s0] h Q ↔ ex_ d 271 0 [some (v_r (some 93)), none] [] h (fun r h' => ex_ (d + 1) 305 47 [some (v_r (some 93)), l1, l2, l3, some (v_i s0), l5, l6] (r.toList ++ []) h' Q) := by
  unfold ex_
  refine (am_Y_go 2 (ok := []) (g := (44, [some (v_r (some 93)), l1, l2, l3, some (v_i s0), l5, l6], [v_r (some 93)], h)) rfl).trans ?_
  all_goals exact ((am_Y_call (j := 271) (na := 1) (ci := 12) (fl := 0) rfl rfl rfl).trans (cj_d ⟨⟨Nat.le_of_ble_eq_true rfl, Nat.le_of_ble_eq_true rfl, Nat.le_of_ble_eq_true rfl, rfl⟩, Or.inr (Or.inr (show (12 : Nat) < 20 ∧ am_is h (some 93) 12 from ⟨by decide, (la_is Lh (o := 93) rfl)⟩))⟩ Iff.rfl))

theorem b_X12_judge_47 {d : Nat} {Q : Option am_V → am_H → Prop} (h : am_H) (l1 l2 l3 l4 l5 l6 : Option am_V) (Lh : Lay h) : ex_ (d + 1) 305 47 [some (v_r (some 93)), l1, l2, l3, l4, l5, l6] [] h Q ↔ ex_ d 273 0 [some (v_r (some 93)), some (v_i (0 : Int32)), none, none] [] h (fun r h' => ex_ (d + 1) 305 52 [some (v_r (some 93)), l1, l2, l3, l4, l5, l6] (r.toList ++ []) h' Q) := by
  unfold ex_
  refine (am_Y_go 2 (ok := []) (g := (49, [some (v_r (some 93)), l1, l2, l3, l4, l5, l6], [v_i (0 : Int32), v_r (some 93)], h)) rfl).trans ?_
  all_goals exact ((am_Y_call (j := 273) (na := 2) (ci := 12) (fl := 0) rfl rfl rfl).trans (cj_d ⟨⟨Nat.le_of_ble_eq_true rfl, Nat.le_of_ble_eq_true rfl, Nat.le_of_ble_eq_true rfl, rfl⟩, Or.inr (Or.inr (show (12 : Nat) < 20 ∧ am_is h (some 93) 12 from ⟨by decide, (la_is Lh (o := 93) rfl)⟩))⟩ Iff.rfl))

theorem b_X12_judge_52 {d : Nat} {Q : Option am_V → am_H → Prop} (h : am_H) (s0 : Int32) (l1 l2 l3 l4 l5 l6 : Option am_V) (Lh : Lay h) : ex_ (d + 1) 305 52 [some (v_r (some 93)), l1, l2, l3, l4, l5, l6] [v_i s0] h Q ↔ ex_ d 304 0 [some (v_r (some 93)), none, none] [] h (fun r h' => ex_ (d + 1) 305 58 [some (v_r (some 93)), l1, l2, l3, l4, some (v_i s0), l6] (r.toList ++ []) h' Q) := by
  unfold ex_
  refine (am_Y_go 2 (ok := []) (g := (55, [some (v_r (some 93)), l1, l2, l3, l4, some (v_i s0), l6], [v_r (some 93)], h)) rfl).trans ?_
  all_goals exact ((am_Y_call (j := 304) (na := 1) (ci := 12) (fl := 0) rfl rfl rfl).trans (cj_d ⟨⟨Nat.le_of_ble_eq_true rfl, Nat.le_of_ble_eq_true rfl, Nat.le_of_ble_eq_true rfl, rfl⟩, Or.inr (Or.inr (show (12 : Nat) < 20 ∧ am_is h (some 93) 12 from ⟨by decide, (la_is Lh (o := 93) rfl)⟩))⟩ Iff.rfl))

theorem b_X12_judge_58 {d : Nat} {Q : Option am_V → am_H → Prop} (h : am_H) (s0 : Int32) (l1 l2 l3 l4 l5 l6 : Option am_V) (Lh : Lay h) : ex_ (d + 1) 305 58 [some (v_r (some 93)), l1, l2, l3, l4, l5, l6] [v_i s0] h Q ↔ ex_ d 284 0 [some (v_r (some 93)), none] [] h (fun r h' => ex_ (d + 1) 305 64 [some (v_r (some 93)), l1, l2, l3, l4, l5, some (v_i s0)] (r.toList ++ []) h' Q) := by
  unfold ex_
  refine (am_Y_go 2 (ok := []) (g := (61, [some (v_r (some 93)), l1, l2, l3, l4, l5, some (v_i s0)], [v_r (some 93)], h)) rfl).trans ?_
  all_goals exact ((am_Y_call (j := 284) (na := 1) (ci := 12) (fl := 0) rfl rfl rfl).trans (cj_d ⟨⟨Nat.le_of_ble_eq_true rfl, Nat.le_of_ble_eq_true rfl, Nat.le_of_ble_eq_true rfl, rfl⟩, Or.inr (Or.inr (show (12 : Nat) < 20 ∧ am_is h (some 93) 12 from ⟨by decide, (la_is Lh (o := 93) rfl)⟩))⟩ Iff.rfl))

theorem b_X12_judge_64 {d : Nat} {Q : Option am_V → am_H → Prop} (h : am_H) (x2 : Int32) (l0 l1 l3 l4 l5 l6 : Option am_V) : ex_ d 305 64 [l0, l1, some (v_i x2), l3, l4, l5, l6] [] h Q ↔ if ¬ x2 = 0 then ex_ d 305 84 [l0, l1, some (v_i x2), l3, l4, l5, l6] [] h Q else ex_ d 305 68 [l0, l1, some (v_i x2), l3, l4, l5, l6] [] h Q := by
  unfold ex_
  refine (am_Y_go 2 (ok := []) (g := (if ¬ x2 = 0 then 84 else 68, [l0, l1, some (v_i x2), l3, l4, l5, l6], [], h)) rfl).trans ?_
  all_goals exact am_Y_if

theorem b_X12_judge_84 {d : Nat} {Q : Option am_V → am_H → Prop} (h : am_H) (x2 : Int32) (l0 l1 l3 l4 l5 l6 : Option am_V) : ex_ d 305 84 [l0, l1, some (v_i x2), l3, l4, l5, l6] [] h Q ↔ if ¬ x2 = (1 : Int32) then ex_ d 305 96 [l0, l1, some (v_i x2), l3, l4, l5, l6] [] h Q else ex_ d 305 89 [l0, l1, some (v_i x2), l3, l4, l5, l6] [] h Q := by
  unfold ex_
  refine (am_Y_go 3 (ok := []) (g := (if ¬ x2 = (1 : Int32) then 96 else 89, [l0, l1, some (v_i x2), l3, l4, l5, l6], [], h)) rfl).trans ?_
  all_goals exact am_Y_if

theorem b_X12_judge_68 {d : Nat} {Q : Option am_V → am_H → Prop} (h : am_H) (l1 l2 l3 l4 l5 l6 : Option am_V) (Lh : Lay h) : ex_ d 305 68 [some (v_r (some 93)), l1, l2, l3, l4, l5, l6] [] h Q ↔ if ¬ (h_i h 93 25) = 0 then ex_ d 305 79 [some (v_r (some 93)), l1, l2, l3, l4, l5, l6] [] h Q else ex_ d 305 75 [some (v_r (some 93)), l1, l2, l3, l4, l5, l6] [] h Q := by
  unfold ex_
  refine (am_Y_go 3 (ok := [am_is h (some 93) 12]) (g := (if ¬ (h_i h 93 25) = 0 then 79 else 75, [some (v_r (some 93)), l1, l2, l3, l4, l5, l6], [], h)) rfl).trans ?_
  simp only [am_all]
  all_goals exact cj_d (la_is Lh (o := 93) rfl) (am_Y_if)

theorem b_X12_judge_96 {d : Nat} {Q : Option am_V → am_H → Prop} (h : am_H) (x2 : Int32) (l0 l1 l3 l4 l5 l6 : Option am_V) : ex_ d 305 96 [l0, l1, some (v_i x2), l3, l4, l5, l6] [] h Q ↔ if ¬ x2 = (2 : Int32) then ex_ d 305 106 [l0, l1, some (v_i x2), l3, l4, l5, l6] [] h Q else ex_ d 305 101 [l0, l1, some (v_i x2), l3, l4, l5, l6] [] h Q := by
  unfold ex_
  refine (am_Y_go 3 (ok := []) (g := (if ¬ x2 = (2 : Int32) then 106 else 101, [l0, l1, some (v_i x2), l3, l4, l5, l6], [], h)) rfl).trans ?_
  all_goals exact am_Y_if

theorem b_X12_judge_89 {d : Nat} {Q : Option am_V → am_H → Prop} (h : am_H) (l1 l2 l3 l4 l5 l6 : Option am_V) (Lh : Lay h) : ex_ d 305 89 [some (v_r (some 93)), l1, l2, l3, l4, l5, l6] [] h Q ↔ Q (some (v_i (h_i h 93 25))) h := by
  unfold ex_
  refine (am_Y_go 3 (ok := [am_is h (some 93) 12]) (g := (108, [some (v_r (some 93)), l1, l2, l3, l4, l5, l6], [v_i (h_i h 93 25)], h)) rfl).trans ?_
  simp only [am_all]
  all_goals exact cj_d (la_is Lh (o := 93) rfl) (((am_Y_ret rfl rfl rfl).trans (am_r0)))

theorem b_X12_judge_79 {d : Nat} {Q : Option am_V → am_H → Prop} (h : am_H) (x4 : Int32) (l0 l1 l2 l3 l5 l6 : Option am_V) : ex_ d 305 79 [l0, l1, l2, l3, some (v_i x4), l5, l6] [] h Q ↔ Q (some (v_i x4)) h := by
  unfold ex_
  refine (am_Y_go 2 (ok := []) (g := (108, [l0, l1, l2, l3, some (v_i x4), l5, l6], [v_i x4], h)) rfl).trans ?_
  all_goals exact ((am_Y_ret rfl rfl rfl).trans (am_r0))

theorem b_X12_judge_75 {d : Nat} {Q : Option am_V → am_H → Prop} (h : am_H) (l0 l1 l2 l3 l4 l5 l6 : Option am_V) : ex_ d 305 75 [l0, l1, l2, l3, l4, l5, l6] [] h Q ↔ Q (some (v_i (-1 : Int32))) h := by
  unfold ex_
  refine (am_Y_go 2 (ok := []) (g := (108, [l0, l1, l2, l3, l4, l5, l6], [v_i (-1 : Int32)], h)) rfl).trans ?_
  all_goals exact ((am_Y_ret rfl rfl rfl).trans (am_r0))

theorem b_X12_judge_106 {d : Nat} {Q : Option am_V → am_H → Prop} (h : am_H) (x6 : Int32) (l0 l1 l2 l3 l4 l5 : Option am_V) : ex_ d 305 106 [l0, l1, l2, l3, l4, l5, some (v_i x6)] [] h Q ↔ Q (some (v_i x6)) h := by
  unfold ex_
  refine (am_Y_go 1 (ok := []) (g := (108, [l0, l1, l2, l3, l4, l5, some (v_i x6)], [v_i x6], h)) rfl).trans ?_
  all_goals exact ((am_Y_ret rfl rfl rfl).trans (am_r0))

theorem b_X12_judge_101 {d : Nat} {Q : Option am_V → am_H → Prop} (h : am_H) (x5 : Int32) (l0 l1 l2 l3 l4 l6 : Option am_V) : ex_ d 305 101 [l0, l1, l2, l3, l4, some (v_i x5), l6] [] h Q ↔ Q (some (v_i x5)) h := by
  unfold ex_
  refine (am_Y_go 2 (ok := []) (g := (108, [l0, l1, l2, l3, l4, some (v_i x5), l6], [v_i x5], h)) rfl).trans ?_
  all_goals exact ((am_Y_ret rfl rfl rfl).trans (am_r0))

theorem b_X12_perform_0 {d : Nat} {Q : Option am_V → am_H → Prop} (h : am_H) (x1 : Int32) (l2 l3 : Option am_V) (Lh : Lay h) : ex_ (d + 1) 306 0 [some (v_r (some 93)), some (v_i x1), l2, l3] [] h Q ↔ ex_ d 303 0 [some (v_r (some 93)), some (v_i x1)] [] (p_i h 93 0 (0 : Int32)) (fun r h' => ex_ (d + 1) 306 10 [some (v_r (some 93)), some (v_i x1), l2, l3] (r.toList ++ []) h' Q) := by
  unfold ex_
  refine (am_Y_go 5 (ok := [am_is h (some 93) 12]) (g := (7, [some (v_r (some 93)), some (v_i x1), l2, l3], [v_i x1, v_r (some 93)], (p_i h 93 0 (0 : Int32)))) rfl).trans ?_
  simp only [am_all]
  all_goals exact cj_d (la_is Lh (o := 93) rfl) (((am_Y_call (j := 303) (na := 2) (ci := 12) (fl := 0) rfl rfl rfl).trans (cj_d ⟨⟨Nat.le_of_ble_eq_true rfl, Nat.le_of_ble_eq_true rfl, Nat.le_of_ble_eq_true rfl, rfl⟩, Or.inr (Or.inr (show (12 : Nat) < 20 ∧ am_is h (some 93) 12 from ⟨by decide, (la_is Lh (o := 93) rfl)⟩))⟩ Iff.rfl)))

theorem b_X12_perform_10 {d : Nat} {Q : Option am_V → am_H → Prop} (h : am_H) (s0 : Int32) (l0 l1 l2 l3 : Option am_V) : ex_ d 306 10 [l0, l1, l2, l3] [v_i s0] h Q ↔ if s0 = 0 then ex_ d 306 17 [l0, l1, some (v_i s0), l3] [] h Q else ex_ d 306 15 [l0, l1, some (v_i s0), l3] [] h Q := by
  unfold ex_
  refine (am_Y_go 3 (ok := []) (g := (if s0 = 0 then 17 else 15, [l0, l1, some (v_i s0), l3], [], h)) rfl).trans ?_
  all_goals exact am_Y_if

theorem b_X12_perform_17 {d : Nat} {Q : Option am_V → am_H → Prop} (h : am_H) (l1 l2 l3 : Option am_V) (Lh : Lay h) : ex_ (d + 1) 306 17 [some (v_r (some 93)), l1, l2, l3] [] h Q ↔ ex_ d 283 0 [some (v_r (some 93)), none] [] h (fun r h' => ex_ (d + 1) 306 21 [some (v_r (some 93)), l1, l2, l3] (r.toList ++ []) h' Q) := by
  unfold ex_
  refine (am_Y_go 1 (ok := []) (g := (18, [some (v_r (some 93)), l1, l2, l3], [v_r (some 93)], h)) rfl).trans ?_
  all_goals exact ((am_Y_call (j := 283) (na := 1) (ci := 12) (fl := 0) rfl rfl rfl).trans (cj_d ⟨⟨Nat.le_of_ble_eq_true rfl, Nat.le_of_ble_eq_true rfl, Nat.le_of_ble_eq_true rfl, rfl⟩, Or.inr (Or.inr (show (12 : Nat) < 20 ∧ am_is h (some 93) 12 from ⟨by decide, (la_is Lh (o := 93) rfl)⟩))⟩ Iff.rfl))

theorem b_X12_perform_15 {d : Nat} {Q : Option am_V → am_H → Prop} (h : am_H) (x2 : Int32) (l0 l1 l3 : Option am_V) : ex_ d 306 15 [l0, l1, some (v_i x2), l3] [] h Q ↔ Q (some (v_i x2)) h := by
  unfold ex_
  refine (am_Y_go 1 (ok := []) (g := (16, [l0, l1, some (v_i x2), l3], [v_i x2], h)) rfl).trans ?_
  all_goals exact ((am_Y_ret rfl rfl rfl).trans (am_r0))

theorem b_X12_perform_21 {d : Nat} {Q : Option am_V → am_H → Prop} (h : am_H) (x1 : Int32) (l2 l3 : Option am_V) (Lh : Lay h) : ex_ (d + 1) 306 21 [some (v_r (some 93)), some (v_i x1), l2, l3] [] h Q ↔ ex_ d 302 0 [some (v_r (some 93)), some (v_i x1), none] [] h (fun r h' => ex_ (d + 1) 306 26 [some (v_r (some 93)), some (v_i x1), l2, l3] (r.toList ++ []) h' Q) := by
  unfold ex_
  refine (am_Y_go 2 (ok := []) (g := (23, [some (v_r (some 93)), some (v_i x1), l2, l3], [v_i x1, v_r (some 93)], h)) rfl).trans ?_
  all_goals exact ((am_Y_call (j := 302) (na := 2) (ci := 12) (fl := 0) rfl rfl rfl).trans (cj_d ⟨⟨Nat.le_of_ble_eq_true rfl, Nat.le_of_ble_eq_true rfl, Nat.le_of_ble_eq_true rfl, rfl⟩, Or.inr (Or.inr (show (12 : Nat) < 20 ∧ am_is h (some 93) 12 from ⟨by decide, (la_is Lh (o := 93) rfl)⟩))⟩ Iff.rfl))

theorem b_X12_perform_26 {d : Nat} {Q : Option am_V → am_H → Prop} (h : am_H) (s0 : Int32) (l0 l1 l2 l3 : Option am_V) : ex_ d 306 26 [l0, l1, l2, l3] [v_i s0] h Q ↔ if s0 ≤ 0 then ex_ d 306 35 [l0, l1, l2, some (v_i s0)] [] h Q else ex_ d 306 31 [l0, l1, l2, some (v_i s0)] [] h Q := by
  unfold ex_
  refine (am_Y_go 3 (ok := []) (g := (if s0 ≤ 0 then 35 else 31, [l0, l1, l2, some (v_i s0)], [], h)) rfl).trans ?_
  all_goals exact am_Y_if

theorem b_X12_perform_35 {d : Nat} {Q : Option am_V → am_H → Prop} (h : am_H) (x3 : Int32) (l0 l1 l2 : Option am_V) : ex_ d 306 35 [l0, l1, l2, some (v_i x3)] [] h Q ↔ Q (some (v_i x3)) h := by
  unfold ex_
  refine (am_Y_go 1 (ok := []) (g := (36, [l0, l1, l2, some (v_i x3)], [v_i x3], h)) rfl).trans ?_
  all_goals exact ((am_Y_ret rfl rfl rfl).trans (am_r0))

theorem b_X12_perform_31 {d : Nat} {Q : Option am_V → am_H → Prop} (h : am_H) (l1 l2 l3 : Option am_V) (Lh : Lay h) : ex_ (d + 1) 306 31 [some (v_r (some 93)), l1, l2, l3] [] h Q ↔ ex_ d 285 0 [some (v_r (some 93)), none] [] h (fun r h' => ex_ (d + 1) 306 35 [some (v_r (some 93)), l1, l2, l3] (r.toList ++ []) h' Q) := by
  unfold ex_
  refine (am_Y_go 1 (ok := []) (g := (32, [some (v_r (some 93)), l1, l2, l3], [v_r (some 93)], h)) rfl).trans ?_
  all_goals exact ((am_Y_call (j := 285) (na := 1) (ci := 12) (fl := 0) rfl rfl rfl).trans (cj_d ⟨⟨Nat.le_of_ble_eq_true rfl, Nat.le_of_ble_eq_true rfl, Nat.le_of_ble_eq_true rfl, rfl⟩, Or.inr (Or.inr (show (12 : Nat) < 20 ∧ am_is h (some 93) 12 from ⟨by decide, (la_is Lh (o := 93) rfl)⟩))⟩ Iff.rfl))

theorem b_X12_draw_0 {d : Nat} {Q : Option am_V → am_H → Prop} (h : am_H) (x1 : Int32) (Lh : Lay h) : ex_ d 307 0 [some (v_r (some 93)), some (v_i x1)] [] h Q ↔ ¬ x1 = 0 ∧ Q (some (v_i (((((h_i (p_i h 93 26 (((1103515245 : Int32) * (h_i h 93 26)) + (12345 : Int32))) 93 26)).toUInt32 >>> (((16 : Int32)).toUInt32 &&& Int32.toUInt32 31)).toInt32) - ((((h_i (p_i h 93 26 (((1103515245 : Int32) * (h_i h 93 26)) + (12345 : Int32))) 93 26)).toUInt32 >>> (((16 : Int32)).toUInt32 &&& Int32.toUInt32 31)).toInt32) / x1 * x1))) (p_i h 93 26 (((1103515245 : Int32) * (h_i h 93 26)) + (12345 : Int32))) := by
  unfold ex_
  refine (am_Y_go 14 (ok := [am_is h (some 93) 12, am_is h (some 93) 12, am_is h (some 93) 12, ¬ x1 = 0]) (g := (25, [some (v_r (some 93)), some (v_i x1)], [v_i (((((h_i (p_i h 93 26 (((1103515245 : Int32) * (h_i h 93 26)) + (12345 : Int32))) 93 26)).toUInt32 >>> (((16 : Int32)).toUInt32 &&& Int32.toUInt32 31)).toInt32) - ((((h_i (p_i h 93 26 (((1103515245 : Int32) * (h_i h 93 26)) + (12345 : Int32))) 93 26)).toUInt32 >>> (((16 : Int32)).toUInt32 &&& Int32.toUInt32 31)).toInt32) / x1 * x1)], (p_i h 93 26 (((1103515245 : Int32) * (h_i h 93 26)) + (12345 : Int32))))) rfl).trans ?_
  simp only [am_all]
  all_goals exact cj_d (la_is Lh (o := 93) rfl) (cj_d (la_is Lh (o := 93) rfl) (cj_d (la_is Lh (o := 93) rfl) (cj_k Iff.rfl (((am_Y_ret rfl rfl rfl).trans (am_r0))))))

theorem b_X12_drawn_0 {d : Nat} {Q : Option am_V → am_H → Prop} (h : am_H) (l1 : Option am_V) (Lh : Lay h) : ex_ (d + 1) 308 0 [some (v_r (some 93)), l1] [] h Q ↔ ex_ d 307 0 [some (v_r (some 93)), some (v_i (6 : Int32))] [] h (fun r h' => ex_ (d + 1) 308 6 [some (v_r (some 93)), l1] (r.toList ++ []) h' Q) := by
  unfold ex_
  refine (am_Y_go 2 (ok := []) (g := (3, [some (v_r (some 93)), l1], [v_i (6 : Int32), v_r (some 93)], h)) rfl).trans ?_
  all_goals exact ((am_Y_call (j := 307) (na := 2) (ci := 12) (fl := 0) rfl rfl rfl).trans (cj_d ⟨⟨Nat.le_of_ble_eq_true rfl, Nat.le_of_ble_eq_true rfl, Nat.le_of_ble_eq_true rfl, rfl⟩, Or.inr (Or.inr (show (12 : Nat) < 20 ∧ am_is h (some 93) 12 from ⟨by decide, (la_is Lh (o := 93) rfl)⟩))⟩ Iff.rfl))

theorem b_X12_drawn_6 {d : Nat} {Q : Option am_V → am_H → Prop} (h : am_H) (s0 : Int32) (l0 l1 : Option am_V) : ex_ d 308 6 [l0, l1] [v_i s0] h Q ↔ if ¬ s0 = 0 then ex_ d 308 21 [l0, some (v_i s0)] [] h Q else ex_ d 308 11 [l0, some (v_i s0)] [] h Q := by
  unfold ex_
  refine (am_Y_go 3 (ok := []) (g := (if ¬ s0 = 0 then 21 else 11, [l0, some (v_i s0)], [], h)) rfl).trans ?_
  all_goals exact am_Y_if

theorem b_X12_drawn_21 {d : Nat} {Q : Option am_V → am_H → Prop} (h : am_H) (x1 : Int32) (l0 : Option am_V) : ex_ d 308 21 [l0, some (v_i x1)] [] h Q ↔ if ¬ x1 = (5 : Int32) then ex_ d 308 38 [l0, some (v_i x1)] [] h Q else ex_ d 308 26 [l0, some (v_i x1)] [] h Q := by
  unfold ex_
  refine (am_Y_go 3 (ok := []) (g := (if ¬ x1 = (5 : Int32) then 38 else 26, [l0, some (v_i x1)], [], h)) rfl).trans ?_
  all_goals exact am_Y_if

theorem b_X12_drawn_11 {d : Nat} {Q : Option am_V → am_H → Prop} (h : am_H) (l1 : Option am_V) (Lh : Lay h) : ex_ (d + 1) 308 11 [some (v_r (some 93)), l1] [] h Q ↔ ex_ d 307 0 [some (v_r (some 93)), some (v_i (10 : Int32))] [] h (fun r h' => ex_ (d + 1) 308 19 [some (v_r (some 93)), l1] (r.toList ++ [v_i (10 : Int32)]) h' Q) := by
  unfold ex_
  refine (am_Y_go 3 (ok := []) (g := (16, [some (v_r (some 93)), l1], [v_i (10 : Int32), v_r (some 93), v_i (10 : Int32)], h)) rfl).trans ?_
  all_goals exact ((am_Y_call (j := 307) (na := 2) (ci := 12) (fl := 0) rfl rfl rfl).trans (cj_d ⟨⟨Nat.le_of_ble_eq_true rfl, Nat.le_of_ble_eq_true rfl, Nat.le_of_ble_eq_true rfl, rfl⟩, Or.inr (Or.inr (show (12 : Nat) < 20 ∧ am_is h (some 93) 12 from ⟨by decide, (la_is Lh (o := 93) rfl)⟩))⟩ Iff.rfl))

theorem b_X12_drawn_38 {d : Nat} {Q : Option am_V → am_H → Prop} (h : am_H) (x1 : Int32) (l0 : Option am_V) : ex_ d 308 38 [l0, some (v_i x1)] [] h Q ↔ if (3 : Int32) ≤ x1 then ex_ d 308 48 [l0, some (v_i x1)] [] h Q else ex_ d 308 43 [l0, some (v_i x1)] [] h Q := by
  unfold ex_
  refine (am_Y_go 3 (ok := []) (g := (if (3 : Int32) ≤ x1 then 48 else 43, [l0, some (v_i x1)], [], h)) rfl).trans ?_
  all_goals exact am_Y_if

theorem b_X12_drawn_26 {d : Nat} {Q : Option am_V → am_H → Prop} (h : am_H) (l1 : Option am_V) (Lh : Lay h) : ex_ (d + 1) 308 26 [some (v_r (some 93)), l1] [] h Q ↔ ex_ d 307 0 [some (v_r (some 93)), some (v_i (300 : Int32))] [] h (fun r h' => ex_ (d + 1) 308 36 [some (v_r (some 93)), l1] (r.toList ++ [v_i (1000 : Int32)]) h' Q) := by
  unfold ex_
  refine (am_Y_go 3 (ok := []) (g := (33, [some (v_r (some 93)), l1], [v_i (300 : Int32), v_r (some 93), v_i (1000 : Int32)], h)) rfl).trans ?_
  all_goals exact ((am_Y_call (j := 307) (na := 2) (ci := 12) (fl := 0) rfl rfl rfl).trans (cj_d ⟨⟨Nat.le_of_ble_eq_true rfl, Nat.le_of_ble_eq_true rfl, Nat.le_of_ble_eq_true rfl, rfl⟩, Or.inr (Or.inr (show (12 : Nat) < 20 ∧ am_is h (some 93) 12 from ⟨by decide, (la_is Lh (o := 93) rfl)⟩))⟩ Iff.rfl))

theorem b_X12_drawn_19 {d : Nat} {Q : Option am_V → am_H → Prop} (h : am_H) (s0 : Int32) (s1 : Int32) (l0 l1 : Option am_V) : ex_ d 308 19 [l0, l1] [v_i s0, v_i s1] h Q ↔ Q (some (v_i (s1 + s0))) h := by
  unfold ex_
  refine (am_Y_go 1 (ok := []) (g := (20, [l0, l1], [v_i (s1 + s0)], h)) rfl).trans ?_
  all_goals exact ((am_Y_ret rfl rfl rfl).trans (am_r0))

theorem b_X12_drawn_48 {d : Nat} {Q : Option am_V → am_H → Prop} (h : am_H) (x1 : Int32) (l0 : Option am_V) : ex_ d 308 48 [l0, some (v_i x1)] [] h Q ↔ if ¬ x1 = (3 : Int32) then ex_ d 308 59 [l0, some (v_i x1)] [] h Q else ex_ d 308 53 [l0, some (v_i x1)] [] h Q := by
  unfold ex_
  refine (am_Y_go 3 (ok := []) (g := (if ¬ x1 = (3 : Int32) then 59 else 53, [l0, some (v_i x1)], [], h)) rfl).trans ?_
  all_goals exact am_Y_if

theorem b_X12_drawn_43 {d : Nat} {Q : Option am_V → am_H → Prop} (h : am_H) (l1 : Option am_V) (Lh : Lay h) : ex_ (d + 1) 308 43 [some (v_r (some 93)), l1] [] h Q ↔ ex_ d 307 0 [some (v_r (some 93)), some (v_i (100 : Int32))] [] h (fun r h' => ex_ (d + 1) 308 68 [some (v_r (some 93)), l1] (r.toList ++ [v_i (100 : Int32)]) h' Q) := by
  unfold ex_
  refine (am_Y_go 4 (ok := []) (g := (65, [some (v_r (some 93)), l1], [v_i (100 : Int32), v_r (some 93), v_i (100 : Int32)], h)) rfl).trans ?_
  all_goals exact ((am_Y_call (j := 307) (na := 2) (ci := 12) (fl := 0) rfl rfl rfl).trans (cj_d ⟨⟨Nat.le_of_ble_eq_true rfl, Nat.le_of_ble_eq_true rfl, Nat.le_of_ble_eq_true rfl, rfl⟩, Or.inr (Or.inr (show (12 : Nat) < 20 ∧ am_is h (some 93) 12 from ⟨by decide, (la_is Lh (o := 93) rfl)⟩))⟩ Iff.rfl))

theorem b_X12_drawn_36 {d : Nat} {Q : Option am_V → am_H → Prop} (h : am_H) (s0 : Int32) (s1 : Int32) (l0 l1 : Option am_V) : ex_ d 308 36 [l0, l1] [v_i s0, v_i s1] h Q ↔ Q (some (v_i (s1 + s0))) h := by
  unfold ex_
  refine (am_Y_go 1 (ok := []) (g := (37, [l0, l1], [v_i (s1 + s0)], h)) rfl).trans ?_
  all_goals exact ((am_Y_ret rfl rfl rfl).trans (am_r0))

theorem b_X12_drawn_59 {d : Nat} {Q : Option am_V → am_H → Prop} (h : am_H) (l1 : Option am_V) (Lh : Lay h) : ex_ (d + 1) 308 59 [some (v_r (some 93)), l1] [] h Q ↔ ex_ d 307 0 [some (v_r (some 93)), some (v_i (100 : Int32))] [] h (fun r h' => ex_ (d + 1) 308 68 [some (v_r (some 93)), l1] (r.toList ++ [v_i (300 : Int32)]) h' Q) := by
  unfold ex_
  refine (am_Y_go 3 (ok := []) (g := (65, [some (v_r (some 93)), l1], [v_i (100 : Int32), v_r (some 93), v_i (300 : Int32)], h)) rfl).trans ?_
  all_goals exact ((am_Y_call (j := 307) (na := 2) (ci := 12) (fl := 0) rfl rfl rfl).trans (cj_d ⟨⟨Nat.le_of_ble_eq_true rfl, Nat.le_of_ble_eq_true rfl, Nat.le_of_ble_eq_true rfl, rfl⟩, Or.inr (Or.inr (show (12 : Nat) < 20 ∧ am_is h (some 93) 12 from ⟨by decide, (la_is Lh (o := 93) rfl)⟩))⟩ Iff.rfl))

theorem b_X12_drawn_53 {d : Nat} {Q : Option am_V → am_H → Prop} (h : am_H) (l1 : Option am_V) (Lh : Lay h) : ex_ (d + 1) 308 53 [some (v_r (some 93)), l1] [] h Q ↔ ex_ d 307 0 [some (v_r (some 93)), some (v_i (100 : Int32))] [] h (fun r h' => ex_ (d + 1) 308 68 [some (v_r (some 93)), l1] (r.toList ++ [v_i (200 : Int32)]) h' Q) := by
  unfold ex_
  refine (am_Y_go 4 (ok := []) (g := (65, [some (v_r (some 93)), l1], [v_i (100 : Int32), v_r (some 93), v_i (200 : Int32)], h)) rfl).trans ?_
  all_goals exact ((am_Y_call (j := 307) (na := 2) (ci := 12) (fl := 0) rfl rfl rfl).trans (cj_d ⟨⟨Nat.le_of_ble_eq_true rfl, Nat.le_of_ble_eq_true rfl, Nat.le_of_ble_eq_true rfl, rfl⟩, Or.inr (Or.inr (show (12 : Nat) < 20 ∧ am_is h (some 93) 12 from ⟨by decide, (la_is Lh (o := 93) rfl)⟩))⟩ Iff.rfl))

theorem b_X12_drawn_68 {d : Nat} {Q : Option am_V → am_H → Prop} (h : am_H) (s0 : Int32) (s1 : Int32) (l0 l1 : Option am_V) : ex_ d 308 68 [l0, l1] [v_i s0, v_i s1] h Q ↔ Q (some (v_i (s1 + s0))) h := by
  unfold ex_
  refine (am_Y_go 1 (ok := []) (g := (69, [l0, l1], [v_i (s1 + s0)], h)) rfl).trans ?_
  all_goals exact ((am_Y_ret rfl rfl rfl).trans (am_r0))

theorem b_X12_day_0 {d : Nat} {Q : Option am_V → am_H → Prop} (h : am_H) (x2 : Int32) (l1 l3 l4 l5 : Option am_V) (Lh : Lay h) : ex_ (d + 1) 309 0 [some (v_r (some 93)), l1, some (v_i x2), l3, l4, l5] [] h Q ↔ ex_ d 229 0 [some (v_l (Int32.toInt64 x2)), none, some (v_l (1 : Int64)), none, some (v_l (40 : Int64)), none] [] (p_i h 93 0 (0 : Int32)) (fun r h' => ex_ (d + 1) 309 14 [some (v_r (some 93)), l1, some (v_i x2), l3, l4, l5] (r.toList ++ []) h' Q) := by
  unfold ex_
  refine (am_Y_go 7 (ok := [am_is h (some 93) 12]) (g := (11, [some (v_r (some 93)), l1, some (v_i x2), l3, l4, l5], [v_l (40 : Int64), v_l (1 : Int64), v_l (Int32.toInt64 x2)], (p_i h 93 0 (0 : Int32)))) rfl).trans ?_
  simp only [am_all]
  all_goals exact cj_d (la_is Lh (o := 93) rfl) (((am_Y_call (j := 229) (na := 3) (ci := 12) (fl := 2) rfl rfl rfl).trans (cj_d ⟨⟨Nat.le_of_ble_eq_true rfl, Nat.le_of_ble_eq_true rfl, Nat.le_of_ble_eq_true rfl, rfl⟩, Or.inl rfl⟩ Iff.rfl)))

theorem b_X12_day_14 {d : Nat} {Q : Option am_V → am_H → Prop} (h : am_H) (s0 : Int32) (l0 l1 l2 l3 l4 l5 : Option am_V) : ex_ d 309 14 [l0, l1, l2, l3, l4, l5] [v_i s0] h Q ↔ if ¬ s0 = 0 then ex_ d 309 20 [l0, l1, l2, l3, l4, l5] [] h Q else ex_ d 309 17 [l0, l1, l2, l3, l4, l5] [] h Q := by
  unfold ex_
  refine (am_Y_go 1 (ok := []) (g := (if ¬ s0 = 0 then 20 else 17, [l0, l1, l2, l3, l4, l5], [], h)) rfl).trans ?_
  all_goals exact am_Y_if

theorem b_X12_day_20 {d : Nat} {Q : Option am_V → am_H → Prop} (h : am_H) (l1 l2 l3 l4 l5 : Option am_V) (Lh : Lay h) : ex_ (d + 1) 309 20 [some (v_r (some 93)), l1, l2, l3, l4, l5] [] h Q ↔ ex_ d 283 0 [some (v_r (some 93)), none] [] h (fun r h' => ex_ (d + 1) 309 24 [some (v_r (some 93)), l1, l2, l3, l4, l5] (r.toList ++ []) h' Q) := by
  unfold ex_
  refine (am_Y_go 1 (ok := []) (g := (21, [some (v_r (some 93)), l1, l2, l3, l4, l5], [v_r (some 93)], h)) rfl).trans ?_
  all_goals exact ((am_Y_call (j := 283) (na := 1) (ci := 12) (fl := 0) rfl rfl rfl).trans (cj_d ⟨⟨Nat.le_of_ble_eq_true rfl, Nat.le_of_ble_eq_true rfl, Nat.le_of_ble_eq_true rfl, rfl⟩, Or.inr (Or.inr (show (12 : Nat) < 20 ∧ am_is h (some 93) 12 from ⟨by decide, (la_is Lh (o := 93) rfl)⟩))⟩ Iff.rfl))

theorem b_X12_day_17 {d : Nat} {Q : Option am_V → am_H → Prop} (h : am_H) (l0 l1 l2 l3 l4 l5 : Option am_V) : ex_ d 309 17 [l0, l1, l2, l3, l4, l5] [] h Q ↔ Q (some (v_i (-3 : Int32))) h := by
  unfold ex_
  refine (am_Y_go 1 (ok := []) (g := (19, [l0, l1, l2, l3, l4, l5], [v_i (-3 : Int32)], h)) rfl).trans ?_
  all_goals exact ((am_Y_ret rfl rfl rfl).trans (am_r0))

theorem b_X12_day_24 {d : Nat} {Q : Option am_V → am_H → Prop} (h : am_H) (x1 : Int32) (l2 l3 l4 l5 : Option am_V) (Lh : Lay h) : ex_ d 309 24 [some (v_r (some 93)), some (v_i x1), l2, l3, l4, l5] [] h Q ↔ ex_ d 309 34 [some (v_r (some 93)), some (v_i x1), l2, some (v_i (0 : Int32)), some (v_i (0 : Int32)), l5] [] (p_i h 93 26 x1) Q := by
  unfold ex_
  refine (am_Y_go 7 (ok := [am_is h (some 93) 12]) (g := (34, [some (v_r (some 93)), some (v_i x1), l2, some (v_i (0 : Int32)), some (v_i (0 : Int32)), l5], [], (p_i h 93 26 x1))) rfl).trans ?_
  simp only [am_all]
  all_goals exact cj_d (la_is Lh (o := 93) rfl) (Iff.rfl)

theorem b_X12_day_34 {d : Nat} {Q : Option am_V → am_H → Prop} (h : am_H) (x4 : Int32) (x2 : Int32) (l0 l1 l3 l5 : Option am_V) : ex_ d 309 34 [l0, l1, some (v_i x2), l3, some (v_i x4), l5] [] h Q ↔ if x2 ≤ x4 then ex_ d 309 74 [l0, l1, some (v_i x2), l3, some (v_i x4), l5] [] h Q else ex_ d 309 40 [l0, l1, some (v_i x2), l3, some (v_i x4), l5] [] h Q := by
  unfold ex_
  refine (am_Y_go 3 (ok := []) (g := (if x2 ≤ x4 then 74 else 40, [l0, l1, some (v_i x2), l3, some (v_i x4), l5], [], h)) rfl).trans ?_
  all_goals exact am_Y_if

theorem b_X12_day_74 {d : Nat} {Q : Option am_V → am_H → Prop} (h : am_H) (x3 : Int32) (l0 l1 l2 l4 l5 : Option am_V) : ex_ d 309 74 [l0, l1, l2, some (v_i x3), l4, l5] [] h Q ↔ if x3 ≤ 0 then ex_ d 309 82 [l0, l1, l2, some (v_i x3), l4, l5] [] h Q else ex_ d 309 78 [l0, l1, l2, some (v_i x3), l4, l5] [] h Q := by
  unfold ex_
  refine (am_Y_go 2 (ok := []) (g := (if x3 ≤ 0 then 82 else 78, [l0, l1, l2, some (v_i x3), l4, l5], [], h)) rfl).trans ?_
  all_goals exact am_Y_if

theorem b_X12_day_40 {d : Nat} {Q : Option am_V → am_H → Prop} (h : am_H) (l1 l2 l3 l4 l5 : Option am_V) (Lh : Lay h) : ex_ (d + 1) 309 40 [some (v_r (some 93)), l1, l2, l3, l4, l5] [] h Q ↔ ex_ d 308 0 [some (v_r (some 93)), none] [] h (fun r h' => ex_ (d + 1) 309 44 [some (v_r (some 93)), l1, l2, l3, l4, l5] (r.toList ++ []) h' Q) := by
  unfold ex_
  refine (am_Y_go 1 (ok := []) (g := (41, [some (v_r (some 93)), l1, l2, l3, l4, l5], [v_r (some 93)], h)) rfl).trans ?_
  all_goals exact ((am_Y_call (j := 308) (na := 1) (ci := 12) (fl := 0) rfl rfl rfl).trans (cj_d ⟨⟨Nat.le_of_ble_eq_true rfl, Nat.le_of_ble_eq_true rfl, Nat.le_of_ble_eq_true rfl, rfl⟩, Or.inr (Or.inr (show (12 : Nat) < 20 ∧ am_is h (some 93) 12 from ⟨by decide, (la_is Lh (o := 93) rfl)⟩))⟩ Iff.rfl))

theorem b_X12_day_82 {d : Nat} {Q : Option am_V → am_H → Prop} (h : am_H) (x3 : Int32) (l0 l1 l2 l4 l5 : Option am_V) : ex_ d 309 82 [l0, l1, l2, some (v_i x3), l4, l5] [] h Q ↔ Q (some (v_i x3)) h := by
  unfold ex_
  refine (am_Y_go 1 (ok := []) (g := (83, [l0, l1, l2, some (v_i x3), l4, l5], [v_i x3], h)) rfl).trans ?_
  all_goals exact ((am_Y_ret rfl rfl rfl).trans (am_r0))

theorem b_X12_day_78 {d : Nat} {Q : Option am_V → am_H → Prop} (h : am_H) (l1 l2 l3 l4 l5 : Option am_V) (Lh : Lay h) : ex_ (d + 1) 309 78 [some (v_r (some 93)), l1, l2, l3, l4, l5] [] h Q ↔ ex_ d 285 0 [some (v_r (some 93)), none] [] h (fun r h' => ex_ (d + 1) 309 82 [some (v_r (some 93)), l1, l2, l3, l4, l5] (r.toList ++ []) h' Q) := by
  unfold ex_
  refine (am_Y_go 1 (ok := []) (g := (79, [some (v_r (some 93)), l1, l2, l3, l4, l5], [v_r (some 93)], h)) rfl).trans ?_
  all_goals exact ((am_Y_call (j := 285) (na := 1) (ci := 12) (fl := 0) rfl rfl rfl).trans (cj_d ⟨⟨Nat.le_of_ble_eq_true rfl, Nat.le_of_ble_eq_true rfl, Nat.le_of_ble_eq_true rfl, rfl⟩, Or.inr (Or.inr (show (12 : Nat) < 20 ∧ am_is h (some 93) 12 from ⟨by decide, (la_is Lh (o := 93) rfl)⟩))⟩ Iff.rfl))

theorem b_X12_day_44 {d : Nat} {Q : Option am_V → am_H → Prop} (h : am_H) (s0 : Int32) (l1 l2 l3 l4 l5 : Option am_V) (Lh : Lay h) : ex_ (d + 1) 309 44 [some (v_r (some 93)), l1, l2, l3, l4, l5] [v_i s0] h Q ↔ ex_ d 300 0 [some (v_r (some 93)), some (v_l (Int32.toInt64 s0)), none] [] h (fun r h' => ex_ (d + 1) 309 53 [some (v_r (some 93)), l1, l2, l3, l4, some (v_i s0)] (r.toList ++ []) h' Q) := by
  unfold ex_
  refine (am_Y_go 4 (ok := []) (g := (50, [some (v_r (some 93)), l1, l2, l3, l4, some (v_i s0)], [v_l (Int32.toInt64 s0), v_r (some 93)], h)) rfl).trans ?_
  all_goals exact ((am_Y_call (j := 300) (na := 2) (ci := 12) (fl := 0) rfl rfl rfl).trans (cj_d ⟨⟨Nat.le_of_ble_eq_true rfl, Nat.le_of_ble_eq_true rfl, Nat.le_of_ble_eq_true rfl, rfl⟩, Or.inr (Or.inr (show (12 : Nat) < 20 ∧ am_is h (some 93) 12 from ⟨by decide, (la_is Lh (o := 93) rfl)⟩))⟩ Iff.rfl))

theorem b_X12_day_53 {d : Nat} {Q : Option am_V → am_H → Prop} (h : am_H) (s0 : Int32) (l0 l1 l2 l3 l4 l5 : Option am_V) : ex_ d 309 53 [l0, l1, l2, l3, l4, l5] [v_i s0] h Q ↔ if s0 = 0 then ex_ d 309 59 [l0, l1, l2, l3, l4, l5] [] h Q else ex_ d 309 56 [l0, l1, l2, l3, l4, l5] [] h Q := by
  unfold ex_
  refine (am_Y_go 1 (ok := []) (g := (if s0 = 0 then 59 else 56, [l0, l1, l2, l3, l4, l5], [], h)) rfl).trans ?_
  all_goals exact am_Y_if

theorem b_X12_day_59 {d : Nat} {Q : Option am_V → am_H → Prop} (h : am_H) (x5 : Int32) (l1 l2 l3 l4 : Option am_V) (Lh : Lay h) : ex_ (d + 1) 309 59 [some (v_r (some 93)), l1, l2, l3, l4, some (v_i x5)] [] h Q ↔ ex_ d 301 0 [some (v_r (some 93)), some (v_i x5), none] [] h (fun r h' => ex_ (d + 1) 309 65 [some (v_r (some 93)), l1, l2, l3, l4, some (v_i x5)] (r.toList ++ []) h' Q) := by
  unfold ex_
  refine (am_Y_go 2 (ok := []) (g := (62, [some (v_r (some 93)), l1, l2, l3, l4, some (v_i x5)], [v_i x5, v_r (some 93)], h)) rfl).trans ?_
  all_goals exact ((am_Y_call (j := 301) (na := 2) (ci := 12) (fl := 0) rfl rfl rfl).trans (cj_d ⟨⟨Nat.le_of_ble_eq_true rfl, Nat.le_of_ble_eq_true rfl, Nat.le_of_ble_eq_true rfl, rfl⟩, Or.inr (Or.inr (show (12 : Nat) < 20 ∧ am_is h (some 93) 12 from ⟨by decide, (la_is Lh (o := 93) rfl)⟩))⟩ Iff.rfl))

theorem b_X12_day_56 {d : Nat} {Q : Option am_V → am_H → Prop} (h : am_H) (x4 : Int32) (l0 l1 l2 l3 l5 : Option am_V) : ex_ d 309 56 [l0, l1, l2, l3, some (v_i x4), l5] [] h Q ↔ ex_ d 309 34 [l0, l1, l2, l3, some (v_i (x4 + (1 : Int32))), l5] [] h Q := by
  unfold ex_
  refine (am_Y_go 3 (ok := []) (g := (34, [l0, l1, l2, l3, some (v_i (x4 + (1 : Int32))), l5], [], h)) rfl).trans ?_
  all_goals exact Iff.rfl

theorem b_X12_day_65 {d : Nat} {Q : Option am_V → am_H → Prop} (h : am_H) (x3 : Int32) (x4 : Int32) (l0 l1 l2 l5 : Option am_V) : ex_ d 309 65 [l0, l1, l2, some (v_i x3), some (v_i x4), l5] [] h Q ↔ ex_ d 309 34 [l0, l1, l2, some (v_i (x3 + (1 : Int32))), some (v_i (x4 + (1 : Int32))), l5] [] h Q := by
  unfold ex_
  refine (am_Y_go 3 (ok := []) (g := (34, [l0, l1, l2, some (v_i (x3 + (1 : Int32))), some (v_i (x4 + (1 : Int32))), l5], [], h)) rfl).trans ?_
  all_goals exact Iff.rfl

theorem b_X12_demandsRow_0 {d : Nat} {Q : Option am_V → am_H → Prop} (h : am_H) (l0 l1 l2 l3 l4 : Option am_V) : ex_ d 310 0 [l0, l1, l2, l3, l4] [] h Q ↔ ex_ d 310 2 [l0, l1, l2, some (v_i (0 : Int32)), l4] [] h Q := by
  unfold ex_
  refine (am_Y_go 2 (ok := []) (g := (2, [l0, l1, l2, some (v_i (0 : Int32)), l4], [], h)) rfl).trans ?_
  all_goals exact Iff.rfl

theorem b_X12_demandsRow_2 {d : Nat} {Q : Option am_V → am_H → Prop} (h : am_H) (x3 : Int32) (x2 : Int32) (l0 l1 l4 : Option am_V) : ex_ d 310 2 [l0, l1, some (v_i x2), some (v_i x3), l4] [] h Q ↔ if x2 ≤ x3 then ex_ d 310 57 [l0, l1, some (v_i x2), some (v_i x3), l4] [] h Q else ex_ d 310 7 [l0, l1, some (v_i x2), some (v_i x3), l4] [] h Q := by
  unfold ex_
  refine (am_Y_go 3 (ok := []) (g := (if x2 ≤ x3 then 57 else 7, [l0, l1, some (v_i x2), some (v_i x3), l4], [], h)) rfl).trans ?_
  all_goals exact am_Y_if

theorem b_X12_demandsRow_57 {d : Nat} {Q : Option am_V → am_H → Prop} (h : am_H) (l0 l1 l2 l3 l4 : Option am_V) : ex_ d 310 57 [l0, l1, l2, l3, l4] [] h Q ↔ Q (none) h := by
  unfold ex_
  exact ((am_Y_ret rfl rfl rfl).trans (am_rz rfl))

theorem b_X12_demandsRow_7 {d : Nat} {Q : Option am_V → am_H → Prop} (h : am_H) (x3 : Int32) (l0 l1 l2 l4 : Option am_V) : ex_ d 310 7 [l0, l1, l2, some (v_i x3), l4] [] h Q ↔ ex_ d 310 12 [l0, l1, l2, some (v_i x3), some (v_i (x3 + (1 : Int32)))] [] h Q := by
  unfold ex_
  refine (am_Y_go 4 (ok := []) (g := (12, [l0, l1, l2, some (v_i x3), some (v_i (x3 + (1 : Int32)))], [], h)) rfl).trans ?_
  all_goals exact Iff.rfl

theorem b_X12_demandsRow_12 {d : Nat} {Q : Option am_V → am_H → Prop} (h : am_H) (x4 : Int32) (x2 : Int32) (l0 l1 l3 : Option am_V) : ex_ d 310 12 [l0, l1, some (v_i x2), l3, some (v_i x4)] [] h Q ↔ if x2 ≤ x4 then ex_ d 310 51 [l0, l1, some (v_i x2), l3, some (v_i x4)] [] h Q else ex_ d 310 18 [l0, l1, some (v_i x2), l3, some (v_i x4)] [] h Q := by
  unfold ex_
  refine (am_Y_go 3 (ok := []) (g := (if x2 ≤ x4 then 51 else 18, [l0, l1, some (v_i x2), l3, some (v_i x4)], [], h)) rfl).trans ?_
  all_goals exact am_Y_if

theorem b_X12_demandsRow_51 {d : Nat} {Q : Option am_V → am_H → Prop} (h : am_H) (x3 : Int32) (l0 l1 l2 l4 : Option am_V) : ex_ d 310 51 [l0, l1, l2, some (v_i x3), l4] [] h Q ↔ ex_ d 310 2 [l0, l1, l2, some (v_i (x3 + (1 : Int32))), l4] [] h Q := by
  unfold ex_
  refine (am_Y_go 2 (ok := []) (g := (2, [l0, l1, l2, some (v_i (x3 + (1 : Int32))), l4], [], h)) rfl).trans ?_
  all_goals exact Iff.rfl

theorem b_X12_demandsRow_18 {d : Nat} {Q : Option am_V → am_H → Prop} (h : am_H) (x1 : Int32) (x3 : Int32) (x4 : Int32) (l2 : Option am_V) (Lh : Lay h) : ex_ d 310 18 [some (v_r (some 93)), some (v_i x1), l2, some (v_i x3), some (v_i x4)] [] h Q ↔ vp_in (x1 + x3) 55 ∧ vp_in (h_i h 103 (Int32.toNatClampNeg (x1 + x3))) 10 ∧ vp_in (x1 + x4) 55 ∧ vp_in (h_i h 103 (Int32.toNatClampNeg (x1 + x3))) 10 ∧ ex_ d 310 12 [some (v_r (some 93)), some (v_i x1), l2, some (v_i x3), some (v_i (x4 + (1 : Int32)))] [] (p_i h 106 (Int32.toNatClampNeg (h_i h 103 (Int32.toNatClampNeg (x1 + x3)))) ((h_i h 106 (Int32.toNatClampNeg (h_i h 103 (Int32.toNatClampNeg (x1 + x3))))) ||| ((1 : Int32) <<< ((h_i h 103 (Int32.toNatClampNeg (x1 + x4))) &&& 31)))) Q := by
  have e0 : h_r h 93 27 = some 106 := la_r Lh (q := (93, 27, 106)) (by decide)
  have e1 : h_r h 93 21 = some 103 := la_r Lh (q := (93, 21, 103)) (by decide)
  unfold ex_
  refine (am_Y_go 22 (ok := [am_is h (some 93) 12, am_is h (some 93) 12, am_ar h ((h_r h 93 21)) 20 (x1 + x3), am_ar h ((h_r h 93 27)) 20 (h_i h ((h_r h 93 21).getD 0) (Int32.toNatClampNeg (x1 + x3))), am_is h (some 93) 12, am_ar h ((h_r h 93 21)) 20 (x1 + x4), am_ar h ((h_r h 93 27)) 20 (h_i h ((h_r h 93 21).getD 0) (Int32.toNatClampNeg (x1 + x3)))]) (g := (12, [some (v_r (some 93)), some (v_i x1), l2, some (v_i x3), some (v_i (x4 + (1 : Int32)))], [], (p_i h ((h_r h 93 27).getD 0) (Int32.toNatClampNeg (h_i h ((h_r h 93 21).getD 0) (Int32.toNatClampNeg (x1 + x3)))) ((h_i h ((h_r h 93 27).getD 0) (Int32.toNatClampNeg (h_i h ((h_r h 93 21).getD 0) (Int32.toNatClampNeg (x1 + x3))))) ||| ((1 : Int32) <<< ((h_i h ((h_r h 93 21).getD 0) (Int32.toNatClampNeg (x1 + x4))) &&& 31)))))) rfl).trans ?_
  simp only [e0, e1, Option.getD_some, am_all]
  all_goals exact cj_d (la_is Lh (o := 93) rfl) (cj_d (la_is Lh (o := 93) rfl) (cj_k (la_ar Lh (o := 103) rfl) (cj_k (la_ar Lh (o := 106) rfl) (cj_d (la_is Lh (o := 93) rfl) (cj_k (la_ar Lh (o := 103) rfl) (cj_k (la_ar Lh (o := 106) rfl) (Iff.rfl)))))))

theorem b_X12_laysDemands_0 {d : Nat} {Q : Option am_V → am_H → Prop} (h : am_H) (l0 l1 l2 : Option am_V) : ex_ d 311 0 [l0, l1, l2] [] h Q ↔ ex_ d 311 2 [l0, l1, some (v_i (0 : Int32))] [] h Q := by
  unfold ex_
  refine (am_Y_go 2 (ok := []) (g := (2, [l0, l1, some (v_i (0 : Int32))], [], h)) rfl).trans ?_
  all_goals exact Iff.rfl

theorem b_X12_laysDemands_2 {d : Nat} {Q : Option am_V → am_H → Prop} (h : am_H) (x2 : Int32) (l0 l1 : Option am_V) : ex_ d 311 2 [l0, l1, some (v_i x2)] [] h Q ↔ if (10 : Int32) ≤ x2 then ex_ d 311 21 [l0, l1, some (v_i x2)] [] h Q else ex_ d 311 8 [l0, l1, some (v_i x2)] [] h Q := by
  unfold ex_
  refine (am_Y_go 3 (ok := []) (g := (if (10 : Int32) ≤ x2 then 21 else 8, [l0, l1, some (v_i x2)], [], h)) rfl).trans ?_
  all_goals exact am_Y_if

theorem b_X12_laysDemands_21 {d : Nat} {Q : Option am_V → am_H → Prop} (h : am_H) (x1 : Int32) (l2 : Option am_V) (Lh : Lay h) : ex_ (d + 1) 311 21 [some (v_r (some 93)), some (v_i x1), l2] [] h Q ↔ ex_ d 270 0 [some (v_r (some 93)), some (v_i x1), none] [] h (fun r h' => ex_ (d + 1) 311 26 [some (v_r (some 93)), some (v_i x1), l2] (r.toList ++ []) h' Q) := by
  unfold ex_
  refine (am_Y_go 2 (ok := []) (g := (23, [some (v_r (some 93)), some (v_i x1), l2], [v_i x1, v_r (some 93)], h)) rfl).trans ?_
  all_goals exact ((am_Y_call (j := 270) (na := 2) (ci := 12) (fl := 0) rfl rfl rfl).trans (cj_d ⟨⟨Nat.le_of_ble_eq_true rfl, Nat.le_of_ble_eq_true rfl, Nat.le_of_ble_eq_true rfl, rfl⟩, Or.inr (Or.inr (show (12 : Nat) < 20 ∧ am_is h (some 93) 12 from ⟨by decide, (la_is Lh (o := 93) rfl)⟩))⟩ Iff.rfl))

theorem b_X12_laysDemands_8 {d : Nat} {Q : Option am_V → am_H → Prop} (h : am_H) (x2 : Int32) (l1 : Option am_V) (Lh : Lay h) : ex_ d 311 8 [some (v_r (some 93)), l1, some (v_i x2)] [] h Q ↔ vp_in x2 10 ∧ ex_ d 311 2 [some (v_r (some 93)), l1, some (v_i (x2 + (1 : Int32)))] [] (p_i h 106 (Int32.toNatClampNeg x2) (0 : Int32)) Q := by
  have e0 : h_r h 93 27 = some 106 := la_r Lh (q := (93, 27, 106)) (by decide)
  unfold ex_
  refine (am_Y_go 7 (ok := [am_is h (some 93) 12, am_ar h ((h_r h 93 27)) 20 x2]) (g := (2, [some (v_r (some 93)), l1, some (v_i (x2 + (1 : Int32)))], [], (p_i h ((h_r h 93 27).getD 0) (Int32.toNatClampNeg x2) (0 : Int32)))) rfl).trans ?_
  simp only [e0, Option.getD_some, am_all]
  all_goals exact cj_d (la_is Lh (o := 93) rfl) (cj_k (la_ar Lh (o := 106) rfl) (Iff.rfl))

theorem b_X12_laysDemands_26 {d : Nat} {Q : Option am_V → am_H → Prop} (h : am_H) (l1 l2 : Option am_V) (Lh : Lay h) : ex_ (d + 1) 311 26 [some (v_r (some 93)), l1, l2] [] h Q ↔ ex_ d 266 0 [some (v_r (some 93)), none, none] [] h (fun r h' => ex_ (d + 1) 311 30 [some (v_r (some 93)), l1, l2] (r.toList ++ []) h' Q) := by
  unfold ex_
  refine (am_Y_go 1 (ok := []) (g := (27, [some (v_r (some 93)), l1, l2], [v_r (some 93)], h)) rfl).trans ?_
  all_goals exact ((am_Y_call (j := 266) (na := 1) (ci := 12) (fl := 0) rfl rfl rfl).trans (cj_d ⟨⟨Nat.le_of_ble_eq_true rfl, Nat.le_of_ble_eq_true rfl, Nat.le_of_ble_eq_true rfl, rfl⟩, Or.inr (Or.inr (show (12 : Nat) < 20 ∧ am_is h (some 93) 12 from ⟨by decide, (la_is Lh (o := 93) rfl)⟩))⟩ Iff.rfl))

theorem b_X12_laysDemands_30 {d : Nat} {Q : Option am_V → am_H → Prop} (h : am_H) (l0 l1 l2 : Option am_V) : ex_ d 311 30 [l0, l1, l2] [] h Q ↔ ex_ d 311 32 [l0, l1, some (v_i (0 : Int32))] [] h Q := by
  unfold ex_
  refine (am_Y_go 2 (ok := []) (g := (32, [l0, l1, some (v_i (0 : Int32))], [], h)) rfl).trans ?_
  all_goals exact Iff.rfl

theorem b_X12_laysDemands_32 {d : Nat} {Q : Option am_V → am_H → Prop} (h : am_H) (x2 : Int32) (l1 : Option am_V) (Lh : Lay h) : ex_ d 311 32 [some (v_r (some 93)), l1, some (v_i x2)] [] h Q ↔ if (h_i h 93 23) < x2 then ex_ d 311 69 [some (v_r (some 93)), l1, some (v_i x2)] [] h Q else ex_ d 311 40 [some (v_r (some 93)), l1, some (v_i x2)] [] h Q := by
  unfold ex_
  refine (am_Y_go 4 (ok := [am_is h (some 93) 12]) (g := (if (h_i h 93 23) < x2 then 69 else 40, [some (v_r (some 93)), l1, some (v_i x2)], [], h)) rfl).trans ?_
  simp only [am_all]
  all_goals exact cj_d (la_is Lh (o := 93) rfl) (am_Y_if)

theorem b_X12_laysDemands_69 {d : Nat} {Q : Option am_V → am_H → Prop} (h : am_H) (l0 l1 l2 : Option am_V) : ex_ d 311 69 [l0, l1, l2] [] h Q ↔ ex_ d 311 71 [l0, l1, some (v_i (0 : Int32))] [] h Q := by
  unfold ex_
  refine (am_Y_go 2 (ok := []) (g := (71, [l0, l1, some (v_i (0 : Int32))], [], h)) rfl).trans ?_
  all_goals exact Iff.rfl

theorem b_X12_laysDemands_40 {d : Nat} {Q : Option am_V → am_H → Prop} (h : am_H) (x2 : Int32) (l1 : Option am_V) (Lh : Lay h) : ex_ (d + 1) 311 40 [some (v_r (some 93)), l1, some (v_i x2)] [] h Q ↔ vp_in x2 5 ∧ vp_in x2 5 ∧ vp_in x2 5 ∧ ex_ d 310 0 [some (v_r (some 93)), some (v_i (h_i h 101 (Int32.toNatClampNeg x2))), some (v_i ((h_i h 102 (Int32.toNatClampNeg x2)) - (h_i h 101 (Int32.toNatClampNeg x2)))), none, none] [] h (fun r h' => ex_ (d + 1) 311 63 [some (v_r (some 93)), l1, some (v_i x2)] (r.toList ++ []) h' Q) := by
  have e0 : h_r h 93 19 = some 101 := la_r Lh (q := (93, 19, 101)) (by decide)
  have e1 : h_r h 93 20 = some 102 := la_r Lh (q := (93, 20, 102)) (by decide)
  unfold ex_
  refine (am_Y_go 14 (ok := [am_is h (some 93) 12, am_ar h ((h_r h 93 19)) 20 x2, am_is h (some 93) 12, am_ar h ((h_r h 93 20)) 20 x2, am_is h (some 93) 12, am_ar h ((h_r h 93 19)) 20 x2]) (g := (60, [some (v_r (some 93)), l1, some (v_i x2)], [v_i ((h_i h ((h_r h 93 20).getD 0) (Int32.toNatClampNeg x2)) - (h_i h ((h_r h 93 19).getD 0) (Int32.toNatClampNeg x2))), v_i (h_i h ((h_r h 93 19).getD 0) (Int32.toNatClampNeg x2)), v_r (some 93)], h)) rfl).trans ?_
  simp only [e0, e1, Option.getD_some, am_all]
  all_goals exact cj_d (la_is Lh (o := 93) rfl) (cj_k (la_ar Lh (o := 101) rfl) (cj_d (la_is Lh (o := 93) rfl) (cj_k (la_ar Lh (o := 102) rfl) (cj_d (la_is Lh (o := 93) rfl) (cj_k (la_ar Lh (o := 101) rfl) (((am_Y_call (j := 310) (na := 3) (ci := 12) (fl := 0) rfl rfl rfl).trans (cj_d ⟨⟨Nat.le_of_ble_eq_true rfl, Nat.le_of_ble_eq_true rfl, Nat.le_of_ble_eq_true rfl, rfl⟩, Or.inr (Or.inr (show (12 : Nat) < 20 ∧ am_is h (some 93) 12 from ⟨by decide, (la_is Lh (o := 93) rfl)⟩))⟩ Iff.rfl))))))))

theorem b_X12_laysDemands_71 {d : Nat} {Q : Option am_V → am_H → Prop} (h : am_H) (x2 : Int32) (l1 : Option am_V) (Lh : Lay h) : ex_ d 311 71 [some (v_r (some 93)), l1, some (v_i x2)] [] h Q ↔ if (h_i h 93 23) ≤ x2 then ex_ d 311 102 [some (v_r (some 93)), l1, some (v_i x2)] [] h Q else ex_ d 311 79 [some (v_r (some 93)), l1, some (v_i x2)] [] h Q := by
  unfold ex_
  refine (am_Y_go 4 (ok := [am_is h (some 93) 12]) (g := (if (h_i h 93 23) ≤ x2 then 102 else 79, [some (v_r (some 93)), l1, some (v_i x2)], [], h)) rfl).trans ?_
  simp only [am_all]
  all_goals exact cj_d (la_is Lh (o := 93) rfl) (am_Y_if)

theorem b_X12_laysDemands_63 {d : Nat} {Q : Option am_V → am_H → Prop} (h : am_H) (x2 : Int32) (l0 l1 : Option am_V) : ex_ d 311 63 [l0, l1, some (v_i x2)] [] h Q ↔ ex_ d 311 32 [l0, l1, some (v_i (x2 + (1 : Int32)))] [] h Q := by
  unfold ex_
  refine (am_Y_go 2 (ok := []) (g := (32, [l0, l1, some (v_i (x2 + (1 : Int32)))], [], h)) rfl).trans ?_
  all_goals exact Iff.rfl

theorem b_X12_laysDemands_102 {d : Nat} {Q : Option am_V → am_H → Prop} (h : am_H) (l0 l1 l2 : Option am_V) : ex_ d 311 102 [l0, l1, l2] [] h Q ↔ Q (none) h := by
  unfold ex_
  exact ((am_Y_ret rfl rfl rfl).trans (am_rz rfl))

theorem b_X12_laysDemands_79 {d : Nat} {Q : Option am_V → am_H → Prop} (h : am_H) (x1 : Int32) (x2 : Int32) (Lh : Lay h) : ex_ d 311 79 [some (v_r (some 93)), some (v_i x1), some (v_i x2)] [] h Q ↔ vp_in x1 10 ∧ vp_in x2 4 ∧ vp_in x1 10 ∧ ex_ d 311 71 [some (v_r (some 93)), some (v_i x1), some (v_i (x2 + (1 : Int32)))] [] (p_i h 106 (Int32.toNatClampNeg x1) ((h_i h 106 (Int32.toNatClampNeg x1)) ||| ((1 : Int32) <<< ((h_i h 104 (Int32.toNatClampNeg x2)) &&& 31)))) Q := by
  have e0 : h_r h 93 27 = some 106 := la_r Lh (q := (93, 27, 106)) (by decide)
  have e1 : h_r h 93 22 = some 104 := la_r Lh (q := (93, 22, 104)) (by decide)
  unfold ex_
  refine (am_Y_go 15 (ok := [am_is h (some 93) 12, am_ar h ((h_r h 93 27)) 20 x1, am_is h (some 93) 12, am_ar h ((h_r h 93 22)) 20 x2, am_ar h ((h_r h 93 27)) 20 x1]) (g := (71, [some (v_r (some 93)), some (v_i x1), some (v_i (x2 + (1 : Int32)))], [], (p_i h ((h_r h 93 27).getD 0) (Int32.toNatClampNeg x1) ((h_i h ((h_r h 93 27).getD 0) (Int32.toNatClampNeg x1)) ||| ((1 : Int32) <<< ((h_i h ((h_r h 93 22).getD 0) (Int32.toNatClampNeg x2)) &&& 31)))))) rfl).trans ?_
  simp only [e0, e1, Option.getD_some, am_all]
  all_goals exact cj_d (la_is Lh (o := 93) rfl) (cj_k (la_ar Lh (o := 106) rfl) (cj_d (la_is Lh (o := 93) rfl) (cj_k (la_ar Lh (o := 104) rfl) (cj_k (la_ar Lh (o := 106) rfl) (Iff.rfl)))))

theorem b_X12_noDemands_0 {d : Nat} {Q : Option am_V → am_H → Prop} (h : am_H) (x1 : Int32) (Lh : Lay h) : ex_ (d + 1) 312 0 [some (v_r (some 93)), some (v_i x1)] [] h Q ↔ ex_ d 262 0 [some (v_r (some 93)), some (v_l (Int32.toInt64 x1)), none] [] h (fun r h' => ex_ (d + 1) 312 6 [some (v_r (some 93)), some (v_i x1)] (r.toList ++ []) h' Q) := by
  unfold ex_
  refine (am_Y_go 3 (ok := []) (g := (3, [some (v_r (some 93)), some (v_i x1)], [v_l (Int32.toInt64 x1), v_r (some 93)], h)) rfl).trans ?_
  all_goals exact ((am_Y_call (j := 262) (na := 2) (ci := 12) (fl := 0) rfl rfl rfl).trans (cj_d ⟨⟨Nat.le_of_ble_eq_true rfl, Nat.le_of_ble_eq_true rfl, Nat.le_of_ble_eq_true rfl, rfl⟩, Or.inr (Or.inr (show (12 : Nat) < 20 ∧ am_is h (some 93) 12 from ⟨by decide, (la_is Lh (o := 93) rfl)⟩))⟩ Iff.rfl))

theorem b_X12_noDemands_6 {d : Nat} {Q : Option am_V → am_H → Prop} (h : am_H) (s0 : Int32) (l0 l1 : Option am_V) : ex_ d 312 6 [l0, l1] [v_i s0] h Q ↔ if ¬ s0 = 0 then ex_ d 312 12 [l0, l1] [] h Q else ex_ d 312 9 [l0, l1] [] h Q := by
  unfold ex_
  refine (am_Y_go 1 (ok := []) (g := (if ¬ s0 = 0 then 12 else 9, [l0, l1], [], h)) rfl).trans ?_
  all_goals exact am_Y_if

theorem b_X12_noDemands_12 {d : Nat} {Q : Option am_V → am_H → Prop} (h : am_H) (l1 : Option am_V) (Lh : Lay h) : ex_ (d + 1) 312 12 [some (v_r (some 93)), l1] [] h Q ↔ ex_ d 271 0 [some (v_r (some 93)), none] [] h (fun r h' => ex_ (d + 1) 312 16 [some (v_r (some 93)), l1] (r.toList ++ []) h' Q) := by
  unfold ex_
  refine (am_Y_go 1 (ok := []) (g := (13, [some (v_r (some 93)), l1], [v_r (some 93)], h)) rfl).trans ?_
  all_goals exact ((am_Y_call (j := 271) (na := 1) (ci := 12) (fl := 0) rfl rfl rfl).trans (cj_d ⟨⟨Nat.le_of_ble_eq_true rfl, Nat.le_of_ble_eq_true rfl, Nat.le_of_ble_eq_true rfl, rfl⟩, Or.inr (Or.inr (show (12 : Nat) < 20 ∧ am_is h (some 93) 12 from ⟨by decide, (la_is Lh (o := 93) rfl)⟩))⟩ Iff.rfl))

theorem b_X12_noDemands_9 {d : Nat} {Q : Option am_V → am_H → Prop} (h : am_H) (l0 l1 : Option am_V) : ex_ d 312 9 [l0, l1] [] h Q ↔ Q (some (v_i (-2 : Int32))) h := by
  unfold ex_
  refine (am_Y_go 1 (ok := []) (g := (11, [l0, l1], [v_i (-2 : Int32)], h)) rfl).trans ?_
  all_goals exact ((am_Y_ret rfl rfl rfl).trans (am_r0))

theorem b_X12_noDemands_16 {d : Nat} {Q : Option am_V → am_H → Prop} (h : am_H) (x1 : Int32) (Lh : Lay h) : ex_ d 312 16 [some (v_r (some 93)), some (v_i x1)] [] h Q ↔ vp_in x1 11 ∧ (if ¬ (h_i h 100 (Int32.toNatClampNeg x1)) = (2 : Int32) then ex_ d 312 28 [some (v_r (some 93)), some (v_i x1)] [] h Q else ex_ d 312 26 [some (v_r (some 93)), some (v_i x1)] [] h Q) := by
  have e0 : h_r h 93 18 = some 100 := la_r Lh (q := (93, 18, 100)) (by decide)
  unfold ex_
  refine (am_Y_go 6 (ok := [am_is h (some 93) 12, am_ar h ((h_r h 93 18)) 20 x1]) (g := (if ¬ (h_i h ((h_r h 93 18).getD 0) (Int32.toNatClampNeg x1)) = (2 : Int32) then 28 else 26, [some (v_r (some 93)), some (v_i x1)], [], h)) rfl).trans ?_
  simp only [e0, Option.getD_some, am_all]
  all_goals exact cj_d (la_is Lh (o := 93) rfl) (cj_k (la_ar Lh (o := 100) rfl) (am_Y_if))

theorem b_X12_noDemands_28 {d : Nat} {Q : Option am_V → am_H → Prop} (h : am_H) (x1 : Int32) (Lh : Lay h) : ex_ (d + 1) 312 28 [some (v_r (some 93)), some (v_i x1)] [] h Q ↔ ex_ d 311 0 [some (v_r (some 93)), some (v_i x1), none] [] h (fun r h' => ex_ (d + 1) 312 33 [some (v_r (some 93)), some (v_i x1)] (r.toList ++ []) h' Q) := by
  unfold ex_
  refine (am_Y_go 2 (ok := []) (g := (30, [some (v_r (some 93)), some (v_i x1)], [v_i x1, v_r (some 93)], h)) rfl).trans ?_
  all_goals exact ((am_Y_call (j := 311) (na := 2) (ci := 12) (fl := 0) rfl rfl rfl).trans (cj_d ⟨⟨Nat.le_of_ble_eq_true rfl, Nat.le_of_ble_eq_true rfl, Nat.le_of_ble_eq_true rfl, rfl⟩, Or.inr (Or.inr (show (12 : Nat) < 20 ∧ am_is h (some 93) 12 from ⟨by decide, (la_is Lh (o := 93) rfl)⟩))⟩ Iff.rfl))

theorem b_X12_noDemands_26 {d : Nat} {Q : Option am_V → am_H → Prop} (h : am_H) (l0 l1 : Option am_V) : ex_ d 312 26 [l0, l1] [] h Q ↔ Q (some (v_i (-1 : Int32))) h := by
  unfold ex_
  refine (am_Y_go 1 (ok := []) (g := (27, [l0, l1], [v_i (-1 : Int32)], h)) rfl).trans ?_
  all_goals exact ((am_Y_ret rfl rfl rfl).trans (am_r0))

theorem b_X12_noDemands_33 {d : Nat} {Q : Option am_V → am_H → Prop} (h : am_H) (l0 l1 : Option am_V) : ex_ d 312 33 [l0, l1] [] h Q ↔ Q (some (v_i (0 : Int32))) h := by
  unfold ex_
  refine (am_Y_go 1 (ok := []) (g := (34, [l0, l1], [v_i (0 : Int32)], h)) rfl).trans ?_
  all_goals exact ((am_Y_ret rfl rfl rfl).trans (am_r0))

theorem b_X12_demands_0 {d : Nat} {Q : Option am_V → am_H → Prop} (h : am_H) (x1 : Int32) (l2 l3 l4 : Option am_V) (Lh : Lay h) : ex_ (d + 1) 313 0 [some (v_r (some 93)), some (v_i x1), l2, l3, l4] [] h Q ↔ ex_ d 312 0 [some (v_r (some 93)), some (v_i x1)] [] (p_i h 93 0 (0 : Int32)) (fun r h' => ex_ (d + 1) 313 10 [some (v_r (some 93)), some (v_i x1), l2, l3, l4] (r.toList ++ []) h' Q) := by
  unfold ex_
  refine (am_Y_go 5 (ok := [am_is h (some 93) 12]) (g := (7, [some (v_r (some 93)), some (v_i x1), l2, l3, l4], [v_i x1, v_r (some 93)], (p_i h 93 0 (0 : Int32)))) rfl).trans ?_
  simp only [am_all]
  all_goals exact cj_d (la_is Lh (o := 93) rfl) (((am_Y_call (j := 312) (na := 2) (ci := 12) (fl := 0) rfl rfl rfl).trans (cj_d ⟨⟨Nat.le_of_ble_eq_true rfl, Nat.le_of_ble_eq_true rfl, Nat.le_of_ble_eq_true rfl, rfl⟩, Or.inr (Or.inr (show (12 : Nat) < 20 ∧ am_is h (some 93) 12 from ⟨by decide, (la_is Lh (o := 93) rfl)⟩))⟩ Iff.rfl)))

theorem b_X12_demands_10 {d : Nat} {Q : Option am_V → am_H → Prop} (h : am_H) (s0 : Int32) (l0 l1 l2 l3 l4 : Option am_V) : ex_ d 313 10 [l0, l1, l2, l3, l4] [v_i s0] h Q ↔ if s0 = 0 then ex_ d 313 17 [l0, l1, some (v_i s0), l3, l4] [] h Q else ex_ d 313 15 [l0, l1, some (v_i s0), l3, l4] [] h Q := by
  unfold ex_
  refine (am_Y_go 3 (ok := []) (g := (if s0 = 0 then 17 else 15, [l0, l1, some (v_i s0), l3, l4], [], h)) rfl).trans ?_
  all_goals exact am_Y_if

theorem b_X12_demands_17 {d : Nat} {Q : Option am_V → am_H → Prop} (h : am_H) (l0 l1 l2 l3 l4 : Option am_V) : ex_ d 313 17 [l0, l1, l2, l3, l4] [] h Q ↔ ex_ d 313 22 [l0, l1, l2, some (v_i (0 : Int32)), some (v_i (0 : Int32))] [] h Q := by
  unfold ex_
  refine (am_Y_go 4 (ok := []) (g := (22, [l0, l1, l2, some (v_i (0 : Int32)), some (v_i (0 : Int32))], [], h)) rfl).trans ?_
  all_goals exact Iff.rfl

theorem b_X12_demands_15 {d : Nat} {Q : Option am_V → am_H → Prop} (h : am_H) (x2 : Int32) (l0 l1 l3 l4 : Option am_V) : ex_ d 313 15 [l0, l1, some (v_i x2), l3, l4] [] h Q ↔ Q (some (v_i x2)) h := by
  unfold ex_
  refine (am_Y_go 1 (ok := []) (g := (16, [l0, l1, some (v_i x2), l3, l4], [v_i x2], h)) rfl).trans ?_
  all_goals exact ((am_Y_ret rfl rfl rfl).trans (am_r0))

theorem b_X12_demands_22 {d : Nat} {Q : Option am_V → am_H → Prop} (h : am_H) (x4 : Int32) (l0 l1 l2 l3 : Option am_V) : ex_ d 313 22 [l0, l1, l2, l3, some (v_i x4)] [] h Q ↔ if (10 : Int32) ≤ x4 then ex_ d 313 48 [l0, l1, l2, l3, some (v_i x4)] [] h Q else ex_ d 313 29 [l0, l1, l2, l3, some (v_i x4)] [] h Q := by
  unfold ex_
  refine (am_Y_go 3 (ok := []) (g := (if (10 : Int32) ≤ x4 then 48 else 29, [l0, l1, l2, l3, some (v_i x4)], [], h)) rfl).trans ?_
  all_goals exact am_Y_if

theorem b_X12_demands_48 {d : Nat} {Q : Option am_V → am_H → Prop} (h : am_H) (x3 : Int32) (l0 l1 l2 l4 : Option am_V) : ex_ d 313 48 [l0, l1, l2, some (v_i x3), l4] [] h Q ↔ Q (some (v_i x3)) h := by
  unfold ex_
  refine (am_Y_go 1 (ok := []) (g := (49, [l0, l1, l2, some (v_i x3), l4], [v_i x3], h)) rfl).trans ?_
  all_goals exact ((am_Y_ret rfl rfl rfl).trans (am_r0))

theorem b_X12_demands_29 {d : Nat} {Q : Option am_V → am_H → Prop} (h : am_H) (x3 : Int32) (x4 : Int32) (l1 l2 : Option am_V) (Lh : Lay h) : ex_ (d + 1) 313 29 [some (v_r (some 93)), l1, l2, some (v_i x3), some (v_i x4)] [] h Q ↔ vp_in x4 10 ∧ ex_ d 274 0 [some (v_i (h_i h 106 (Int32.toNatClampNeg x4))), none, none] [] h (fun r h' => ex_ (d + 1) 313 40 [some (v_r (some 93)), l1, l2, some (v_i x3), some (v_i x4)] (r.toList ++ [v_i x3]) h' Q) := by
  have e0 : h_r h 93 27 = some 106 := la_r Lh (q := (93, 27, 106)) (by decide)
  unfold ex_
  refine (am_Y_go 5 (ok := [am_is h (some 93) 12, am_ar h ((h_r h 93 27)) 20 x4]) (g := (37, [some (v_r (some 93)), l1, l2, some (v_i x3), some (v_i x4)], [v_i (h_i h ((h_r h 93 27).getD 0) (Int32.toNatClampNeg x4)), v_i x3], h)) rfl).trans ?_
  simp only [e0, Option.getD_some, am_all]
  all_goals exact cj_d (la_is Lh (o := 93) rfl) (cj_k (la_ar Lh (o := 106) rfl) (((am_Y_call (j := 274) (na := 1) (ci := 12) (fl := 2) rfl rfl rfl).trans (cj_d ⟨⟨Nat.le_of_ble_eq_true rfl, Nat.le_of_ble_eq_true rfl, Nat.le_of_ble_eq_true rfl, rfl⟩, Or.inl rfl⟩ Iff.rfl))))

theorem b_X12_demands_40 {d : Nat} {Q : Option am_V → am_H → Prop} (h : am_H) (s0 : Int32) (s1 : Int32) (x4 : Int32) (l0 l1 l2 l3 : Option am_V) : ex_ d 313 40 [l0, l1, l2, l3, some (v_i x4)] [v_i s0, v_i s1] h Q ↔ ex_ d 313 22 [l0, l1, l2, some (v_i (s1 + s0)), some (v_i (x4 + (1 : Int32)))] [] h Q := by
  unfold ex_
  refine (am_Y_go 4 (ok := []) (g := (22, [l0, l1, l2, some (v_i (s1 + s0)), some (v_i (x4 + (1 : Int32)))], [], h)) rfl).trans ?_
  all_goals exact Iff.rfl

theorem b_X12_demand_0 {d : Nat} {Q : Option am_V → am_H → Prop} (h : am_H) (x1 : Int32) (l2 l3 l4 : Option am_V) (Lh : Lay h) : ex_ (d + 1) 314 0 [some (v_r (some 93)), some (v_i x1), l2, l3, l4] [] h Q ↔ ex_ d 262 0 [some (v_r (some 93)), some (v_l (Int32.toInt64 x1)), none] [] (p_i h 93 0 (0 : Int32)) (fun r h' => ex_ (d + 1) 314 11 [some (v_r (some 93)), some (v_i x1), l2, l3, l4] (r.toList ++ []) h' Q) := by
  unfold ex_
  refine (am_Y_go 6 (ok := [am_is h (some 93) 12]) (g := (8, [some (v_r (some 93)), some (v_i x1), l2, l3, l4], [v_l (Int32.toInt64 x1), v_r (some 93)], (p_i h 93 0 (0 : Int32)))) rfl).trans ?_
  simp only [am_all]
  all_goals exact cj_d (la_is Lh (o := 93) rfl) (((am_Y_call (j := 262) (na := 2) (ci := 12) (fl := 0) rfl rfl rfl).trans (cj_d ⟨⟨Nat.le_of_ble_eq_true rfl, Nat.le_of_ble_eq_true rfl, Nat.le_of_ble_eq_true rfl, rfl⟩, Or.inr (Or.inr (show (12 : Nat) < 20 ∧ am_is h (some 93) 12 from ⟨by decide, (la_is Lh (o := 93) rfl)⟩))⟩ Iff.rfl)))

theorem b_X12_demand_11 {d : Nat} {Q : Option am_V → am_H → Prop} (h : am_H) (s0 : Int32) (l0 l1 l2 l3 l4 : Option am_V) : ex_ d 314 11 [l0, l1, l2, l3, l4] [v_i s0] h Q ↔ if ¬ s0 = 0 then ex_ d 314 17 [l0, l1, l2, l3, l4] [] h Q else ex_ d 314 14 [l0, l1, l2, l3, l4] [] h Q := by
  unfold ex_
  refine (am_Y_go 1 (ok := []) (g := (if ¬ s0 = 0 then 17 else 14, [l0, l1, l2, l3, l4], [], h)) rfl).trans ?_
  all_goals exact am_Y_if

theorem b_X12_demand_17 {d : Nat} {Q : Option am_V → am_H → Prop} (h : am_H) (x2 : Int32) (l0 l1 l3 l4 : Option am_V) : ex_ d 314 17 [l0, l1, some (v_i x2), l3, l4] [] h Q ↔ if 0 ≤ x2 then ex_ d 314 24 [l0, l1, some (v_i x2), l3, l4] [] h Q else ex_ d 314 21 [l0, l1, some (v_i x2), l3, l4] [] h Q := by
  unfold ex_
  refine (am_Y_go 2 (ok := []) (g := (if 0 ≤ x2 then 24 else 21, [l0, l1, some (v_i x2), l3, l4], [], h)) rfl).trans ?_
  all_goals exact am_Y_if

theorem b_X12_demand_14 {d : Nat} {Q : Option am_V → am_H → Prop} (h : am_H) (l0 l1 l2 l3 l4 : Option am_V) : ex_ d 314 14 [l0, l1, l2, l3, l4] [] h Q ↔ Q (some (v_i (-2 : Int32))) h := by
  unfold ex_
  refine (am_Y_go 1 (ok := []) (g := (16, [l0, l1, l2, l3, l4], [v_i (-2 : Int32)], h)) rfl).trans ?_
  all_goals exact ((am_Y_ret rfl rfl rfl).trans (am_r0))

theorem b_X12_demand_24 {d : Nat} {Q : Option am_V → am_H → Prop} (h : am_H) (x1 : Int32) (l2 l3 l4 : Option am_V) (Lh : Lay h) : ex_ (d + 1) 314 24 [some (v_r (some 93)), some (v_i x1), l2, l3, l4] [] h Q ↔ ex_ d 312 0 [some (v_r (some 93)), some (v_i x1)] [] h (fun r h' => ex_ (d + 1) 314 29 [some (v_r (some 93)), some (v_i x1), l2, l3, l4] (r.toList ++ []) h' Q) := by
  unfold ex_
  refine (am_Y_go 2 (ok := []) (g := (26, [some (v_r (some 93)), some (v_i x1), l2, l3, l4], [v_i x1, v_r (some 93)], h)) rfl).trans ?_
  all_goals exact ((am_Y_call (j := 312) (na := 2) (ci := 12) (fl := 0) rfl rfl rfl).trans (cj_d ⟨⟨Nat.le_of_ble_eq_true rfl, Nat.le_of_ble_eq_true rfl, Nat.le_of_ble_eq_true rfl, rfl⟩, Or.inr (Or.inr (show (12 : Nat) < 20 ∧ am_is h (some 93) 12 from ⟨by decide, (la_is Lh (o := 93) rfl)⟩))⟩ Iff.rfl))

theorem b_X12_demand_21 {d : Nat} {Q : Option am_V → am_H → Prop} (h : am_H) (l0 l1 l2 l3 l4 : Option am_V) : ex_ d 314 21 [l0, l1, l2, l3, l4] [] h Q ↔ Q (some (v_i (-3 : Int32))) h := by
  unfold ex_
  refine (am_Y_go 1 (ok := []) (g := (23, [l0, l1, l2, l3, l4], [v_i (-3 : Int32)], h)) rfl).trans ?_
  all_goals exact ((am_Y_ret rfl rfl rfl).trans (am_r0))

theorem b_X12_demand_29 {d : Nat} {Q : Option am_V → am_H → Prop} (h : am_H) (s0 : Int32) (l0 l1 l2 l3 l4 : Option am_V) : ex_ d 314 29 [l0, l1, l2, l3, l4] [v_i s0] h Q ↔ if s0 = 0 then ex_ d 314 34 [l0, l1, l2, l3, l4] [] h Q else ex_ d 314 32 [l0, l1, l2, l3, l4] [] h Q := by
  unfold ex_
  refine (am_Y_go 1 (ok := []) (g := (if s0 = 0 then 34 else 32, [l0, l1, l2, l3, l4], [], h)) rfl).trans ?_
  all_goals exact am_Y_if

theorem b_X12_demand_34 {d : Nat} {Q : Option am_V → am_H → Prop} (h : am_H) (l0 l1 l2 l3 l4 : Option am_V) : ex_ d 314 34 [l0, l1, l2, l3, l4] [] h Q ↔ ex_ d 314 39 [l0, l1, l2, some (v_i (0 : Int32)), some (v_i (0 : Int32))] [] h Q := by
  unfold ex_
  refine (am_Y_go 4 (ok := []) (g := (39, [l0, l1, l2, some (v_i (0 : Int32)), some (v_i (0 : Int32))], [], h)) rfl).trans ?_
  all_goals exact Iff.rfl

theorem b_X12_demand_32 {d : Nat} {Q : Option am_V → am_H → Prop} (h : am_H) (l0 l1 l2 l3 l4 : Option am_V) : ex_ d 314 32 [l0, l1, l2, l3, l4] [] h Q ↔ Q (some (v_i (-1 : Int32))) h := by
  unfold ex_
  refine (am_Y_go 1 (ok := []) (g := (33, [l0, l1, l2, l3, l4], [v_i (-1 : Int32)], h)) rfl).trans ?_
  all_goals exact ((am_Y_ret rfl rfl rfl).trans (am_r0))

theorem b_X12_demand_39 {d : Nat} {Q : Option am_V → am_H → Prop} (h : am_H) (x4 : Int32) (l0 l1 l2 l3 : Option am_V) : ex_ d 314 39 [l0, l1, l2, l3, some (v_i x4)] [] h Q ↔ if (100 : Int32) ≤ x4 then ex_ d 314 88 [l0, l1, l2, l3, some (v_i x4)] [] h Q else ex_ d 314 46 [l0, l1, l2, l3, some (v_i x4)] [] h Q := by
  unfold ex_
  refine (am_Y_go 3 (ok := []) (g := (if (100 : Int32) ≤ x4 then 88 else 46, [l0, l1, l2, l3, some (v_i x4)], [], h)) rfl).trans ?_
  all_goals exact am_Y_if

theorem b_X12_demand_88 {d : Nat} {Q : Option am_V → am_H → Prop} (h : am_H) (l0 l1 l2 l3 l4 : Option am_V) : ex_ d 314 88 [l0, l1, l2, l3, l4] [] h Q ↔ Q (some (v_i (-1 : Int32))) h := by
  unfold ex_
  refine (am_Y_go 1 (ok := []) (g := (89, [l0, l1, l2, l3, l4], [v_i (-1 : Int32)], h)) rfl).trans ?_
  all_goals exact ((am_Y_ret rfl rfl rfl).trans (am_r0))

theorem b_X12_demand_46 {d : Nat} {Q : Option am_V → am_H → Prop} (h : am_H) (x4 : Int32) (l1 l2 l3 : Option am_V) (Lh : Lay h) : ex_ (d + 1) 314 46 [some (v_r (some 93)), l1, l2, l3, some (v_i x4)] [] h Q ↔ vp_in (x4 / (10 : Int32)) 10 ∧ ex_ d 242 0 [some (v_l (Int32.toInt64 (h_i h 106 (Int32.toNatClampNeg (x4 / (10 : Int32)))))), none, some (v_i (x4 - x4 / (10 : Int32) * (10 : Int32)))] [] h (fun r h' => ex_ (d + 1) 314 65 [some (v_r (some 93)), l1, l2, l3, some (v_i x4)] (r.toList ++ []) h' Q) := by
  have e0 : h_r h 93 27 = some 106 := la_r Lh (q := (93, 27, 106)) (by decide)
  unfold ex_
  refine (am_Y_go 10 (ok := [am_is h (some 93) 12, ¬ (10 : Int32) = 0, am_ar h ((h_r h 93 27)) 20 (x4 / (10 : Int32)), ¬ (10 : Int32) = 0]) (g := (62, [some (v_r (some 93)), l1, l2, l3, some (v_i x4)], [v_i (x4 - x4 / (10 : Int32) * (10 : Int32)), v_l (Int32.toInt64 (h_i h ((h_r h 93 27).getD 0) (Int32.toNatClampNeg (x4 / (10 : Int32)))))], h)) rfl).trans ?_
  simp only [e0, Option.getD_some, am_all]
  all_goals exact cj_d (la_is Lh (o := 93) rfl) (cj_d (by decide) (cj_k (la_ar Lh (o := 106) rfl) (cj_d (by decide) (((am_Y_call (j := 242) (na := 2) (ci := 12) (fl := 2) rfl rfl rfl).trans (cj_d ⟨⟨Nat.le_of_ble_eq_true rfl, Nat.le_of_ble_eq_true rfl, Nat.le_of_ble_eq_true rfl, rfl⟩, Or.inl rfl⟩ Iff.rfl))))))

theorem b_X12_demand_65 {d : Nat} {Q : Option am_V → am_H → Prop} (h : am_H) (s0 : Int32) (l0 l1 l2 l3 l4 : Option am_V) : ex_ d 314 65 [l0, l1, l2, l3, l4] [v_i s0] h Q ↔ if ¬ s0 = 0 then ex_ d 314 71 [l0, l1, l2, l3, l4] [] h Q else ex_ d 314 68 [l0, l1, l2, l3, l4] [] h Q := by
  unfold ex_
  refine (am_Y_go 1 (ok := []) (g := (if ¬ s0 = 0 then 71 else 68, [l0, l1, l2, l3, l4], [], h)) rfl).trans ?_
  all_goals exact am_Y_if

theorem b_X12_demand_71 {d : Nat} {Q : Option am_V → am_H → Prop} (h : am_H) (x3 : Int32) (x2 : Int32) (l0 l1 l4 : Option am_V) : ex_ d 314 71 [l0, l1, some (v_i x2), some (v_i x3), l4] [] h Q ↔ if ¬ x3 = x2 then ex_ d 314 79 [l0, l1, some (v_i x2), some (v_i x3), l4] [] h Q else ex_ d 314 76 [l0, l1, some (v_i x2), some (v_i x3), l4] [] h Q := by
  unfold ex_
  refine (am_Y_go 3 (ok := []) (g := (if ¬ x3 = x2 then 79 else 76, [l0, l1, some (v_i x2), some (v_i x3), l4], [], h)) rfl).trans ?_
  all_goals exact am_Y_if

theorem b_X12_demand_68 {d : Nat} {Q : Option am_V → am_H → Prop} (h : am_H) (x4 : Int32) (l0 l1 l2 l3 : Option am_V) : ex_ d 314 68 [l0, l1, l2, l3, some (v_i x4)] [] h Q ↔ ex_ d 314 39 [l0, l1, l2, l3, some (v_i (x4 + (1 : Int32)))] [] h Q := by
  unfold ex_
  refine (am_Y_go 3 (ok := []) (g := (39, [l0, l1, l2, l3, some (v_i (x4 + (1 : Int32)))], [], h)) rfl).trans ?_
  all_goals exact Iff.rfl

theorem b_X12_demand_79 {d : Nat} {Q : Option am_V → am_H → Prop} (h : am_H) (x3 : Int32) (x4 : Int32) (l0 l1 l2 : Option am_V) : ex_ d 314 79 [l0, l1, l2, some (v_i x3), some (v_i x4)] [] h Q ↔ ex_ d 314 39 [l0, l1, l2, some (v_i (x3 + (1 : Int32))), some (v_i (x4 + (1 : Int32)))] [] h Q := by
  unfold ex_
  refine (am_Y_go 3 (ok := []) (g := (39, [l0, l1, l2, some (v_i (x3 + (1 : Int32))), some (v_i (x4 + (1 : Int32)))], [], h)) rfl).trans ?_
  all_goals exact Iff.rfl

theorem b_X12_demand_76 {d : Nat} {Q : Option am_V → am_H → Prop} (h : am_H) (x4 : Int32) (l0 l1 l2 l3 : Option am_V) : ex_ d 314 76 [l0, l1, l2, l3, some (v_i x4)] [] h Q ↔ Q (some (v_i x4)) h := by
  unfold ex_
  refine (am_Y_go 1 (ok := []) (g := (78, [l0, l1, l2, l3, some (v_i x4)], [v_i x4], h)) rfl).trans ?_
  all_goals exact ((am_Y_ret rfl rfl rfl).trans (am_r0))

theorem b_X12_isRing_0 {d : Nat} {Q : Option am_V → am_H → Prop} (h : am_H) (x1 : Int32) (x2 : Int32) (l3 l4 l5 : Option am_V) (Lh : Lay h) : ex_ d 315 0 [some (v_r (some 93)), some (v_i x1), some (v_i x2), l3, l4, l5] [] h Q ↔ vp_in (x1 - (1 : Int32)) 10 ∧ (if ¬ x1 = x2 then ex_ d 315 33 [some (v_r (some 93)), some (v_i x1), some (v_i x2), l3, some (v_i (h_i h 107 (Int32.toNatClampNeg (x1 - (1 : Int32))))), l5] [] h Q else ex_ d 315 15 [some (v_r (some 93)), some (v_i x1), some (v_i x2), l3, some (v_i (h_i h 107 (Int32.toNatClampNeg (x1 - (1 : Int32))))), l5] [] h Q) := by
  have e0 : h_r h 93 28 = some 107 := la_r Lh (q := (93, 28, 107)) (by decide)
  unfold ex_
  refine (am_Y_go 10 (ok := [am_is h (some 93) 12, am_ar h ((h_r h 93 28)) 20 (x1 - (1 : Int32))]) (g := (if ¬ x1 = x2 then 33 else 15, [some (v_r (some 93)), some (v_i x1), some (v_i x2), l3, some (v_i (h_i h ((h_r h 93 28).getD 0) (Int32.toNatClampNeg (x1 - (1 : Int32))))), l5], [], h)) rfl).trans ?_
  simp only [e0, Option.getD_some, am_all]
  all_goals exact cj_d (la_is Lh (o := 93) rfl) (cj_k (la_ar Lh (o := 107) rfl) (am_Y_if))

theorem b_X12_isRing_33 {d : Nat} {Q : Option am_V → am_H → Prop} (h : am_H) (l1 l2 l3 l4 l5 : Option am_V) (Lh : Lay h) : ex_ d 315 33 [some (v_r (some 93)), l1, l2, l3, l4, l5] [] h Q ↔ vp_in (0 : Int32) 10 ∧ ex_ d 315 43 [some (v_r (some 93)), l1, l2, l3, l4, some (v_i ((h_i h 107 (Int32.toNatClampNeg (0 : Int32))) + (1 : Int32)))] [] h Q := by
  have e0 : h_r h 93 28 = some 107 := la_r Lh (q := (93, 28, 107)) (by decide)
  unfold ex_
  refine (am_Y_go 7 (ok := [am_is h (some 93) 12, am_ar h ((h_r h 93 28)) 20 (0 : Int32)]) (g := (43, [some (v_r (some 93)), l1, l2, l3, l4, some (v_i ((h_i h ((h_r h 93 28).getD 0) (Int32.toNatClampNeg (0 : Int32))) + (1 : Int32)))], [], h)) rfl).trans ?_
  simp only [e0, Option.getD_some, am_all]
  all_goals exact cj_d (la_is Lh (o := 93) rfl) (cj_k (la_ar Lh (o := 107) rfl) (Iff.rfl))

theorem b_X12_isRing_15 {d : Nat} {Q : Option am_V → am_H → Prop} (h : am_H) (x4 : Int32) (l1 l2 l3 l5 : Option am_V) (Lh : Lay h) : ex_ (d + 1) 315 15 [some (v_r (some 93)), l1, l2, l3, some (v_i x4), l5] [] h Q ↔ vp_in x4 10 ∧ vp_in (0 : Int32) 10 ∧ ex_ d 242 0 [some (v_l (Int32.toInt64 (h_i h 106 (Int32.toNatClampNeg x4)))), none, some (v_i (h_i h 107 (Int32.toNatClampNeg (0 : Int32))))] [] h (fun r h' => ex_ (d + 1) 315 32 [some (v_r (some 93)), l1, l2, l3, some (v_i x4), l5] (r.toList ++ []) h' Q) := by
  have e0 : h_r h 93 27 = some 106 := la_r Lh (q := (93, 27, 106)) (by decide)
  have e1 : h_r h 93 28 = some 107 := la_r Lh (q := (93, 28, 107)) (by decide)
  unfold ex_
  refine (am_Y_go 9 (ok := [am_is h (some 93) 12, am_ar h ((h_r h 93 27)) 20 x4, am_is h (some 93) 12, am_ar h ((h_r h 93 28)) 20 (0 : Int32)]) (g := (29, [some (v_r (some 93)), l1, l2, l3, some (v_i x4), l5], [v_i (h_i h ((h_r h 93 28).getD 0) (Int32.toNatClampNeg (0 : Int32))), v_l (Int32.toInt64 (h_i h ((h_r h 93 27).getD 0) (Int32.toNatClampNeg x4)))], h)) rfl).trans ?_
  simp only [e0, e1, Option.getD_some, am_all]
  all_goals exact cj_d (la_is Lh (o := 93) rfl) (cj_k (la_ar Lh (o := 106) rfl) (cj_d (la_is Lh (o := 93) rfl) (cj_k (la_ar Lh (o := 107) rfl) (((am_Y_call (j := 242) (na := 2) (ci := 12) (fl := 2) rfl rfl rfl).trans (cj_d ⟨⟨Nat.le_of_ble_eq_true rfl, Nat.le_of_ble_eq_true rfl, Nat.le_of_ble_eq_true rfl, rfl⟩, Or.inl rfl⟩ Iff.rfl))))))

theorem b_X12_isRing_43 {d : Nat} {Q : Option am_V → am_H → Prop} (h : am_H) (x5 : Int32) (l1 l2 l3 l4 : Option am_V) (Lh : Lay h) : ex_ d 315 43 [some (v_r (some 93)), l1, l2, l3, l4, some (v_i x5)] [] h Q ↔ vp_in (1 : Int32) 7053 ∧ (if (h_i h 94 (Int32.toNatClampNeg (1 : Int32))) ≤ x5 then ex_ d 315 116 [some (v_r (some 93)), l1, l2, l3, l4, some (v_i x5)] [] h Q else ex_ d 315 54 [some (v_r (some 93)), l1, l2, l3, l4, some (v_i x5)] [] h Q) := by
  have e0 : h_r h 93 1 = some 94 := la_r Lh (q := (93, 1, 94)) (by decide)
  unfold ex_
  refine (am_Y_go 6 (ok := [am_is h (some 93) 12, am_ar h ((h_r h 93 1)) 20 (1 : Int32)]) (g := (if (h_i h ((h_r h 93 1).getD 0) (Int32.toNatClampNeg (1 : Int32))) ≤ x5 then 116 else 54, [some (v_r (some 93)), l1, l2, l3, l4, some (v_i x5)], [], h)) rfl).trans ?_
  simp only [e0, Option.getD_some, am_all]
  all_goals exact cj_d (la_is Lh (o := 93) rfl) (cj_k (la_ar Lh (o := 94) rfl) (am_Y_if))

theorem b_X12_isRing_32 {d : Nat} {Q : Option am_V → am_H → Prop} (h : am_H) (s0 : Int32) (l0 l1 l2 l3 l4 l5 : Option am_V) : ex_ d 315 32 [l0, l1, l2, l3, l4, l5] [v_i s0] h Q ↔ (s0 = 0 ∨ s0 = 1) ∧ Q (some (v_i s0)) h := by
  unfold ex_
  exact ((am_Y_ret rfl rfl rfl).trans (Iff.rfl))

theorem b_X12_isRing_116 {d : Nat} {Q : Option am_V → am_H → Prop} (h : am_H) (l0 l1 l2 l3 l4 l5 : Option am_V) : ex_ d 315 116 [l0, l1, l2, l3, l4, l5] [] h Q ↔ Q (some (v_i (0 : Int32))) h := by
  unfold ex_
  refine (am_Y_go 1 (ok := []) (g := (117, [l0, l1, l2, l3, l4, l5], [v_i (0 : Int32)], h)) rfl).trans ?_
  all_goals exact ((am_Y_ret rfl rfl rfl).trans (am_rz (show am_fit 1 0 from Or.inl rfl)))

theorem b_X12_isRing_54 {d : Nat} {Q : Option am_V → am_H → Prop} (h : am_H) (x3 : Int32) (x5 : Int32) (l0 l1 l2 l4 : Option am_V) : ex_ (d + 1) 315 54 [l0, l1, l2, some (v_i x3), l4, some (v_i x5)] [] h Q ↔ ex_ d 242 0 [some (v_l (Int32.toInt64 x3)), none, some (v_i x5)] [] h (fun r h' => ex_ (d + 1) 315 61 [l0, l1, l2, some (v_i x3), l4, some (v_i x5)] (r.toList ++ []) h' Q) := by
  unfold ex_
  refine (am_Y_go 3 (ok := []) (g := (58, [l0, l1, l2, some (v_i x3), l4, some (v_i x5)], [v_i x5, v_l (Int32.toInt64 x3)], h)) rfl).trans ?_
  all_goals exact ((am_Y_call (j := 242) (na := 2) (ci := 12) (fl := 2) rfl rfl rfl).trans (cj_d ⟨⟨Nat.le_of_ble_eq_true rfl, Nat.le_of_ble_eq_true rfl, Nat.le_of_ble_eq_true rfl, rfl⟩, Or.inl rfl⟩ Iff.rfl))

theorem b_X12_isRing_61 {d : Nat} {Q : Option am_V → am_H → Prop} (h : am_H) (s0 : Int32) (l0 l1 l2 l3 l4 l5 : Option am_V) : ex_ d 315 61 [l0, l1, l2, l3, l4, l5] [v_i s0] h Q ↔ if ¬ s0 = 0 then ex_ d 315 110 [l0, l1, l2, l3, l4, l5] [] h Q else ex_ d 315 64 [l0, l1, l2, l3, l4, l5] [] h Q := by
  unfold ex_
  refine (am_Y_go 1 (ok := []) (g := (if ¬ s0 = 0 then 110 else 64, [l0, l1, l2, l3, l4, l5], [], h)) rfl).trans ?_
  all_goals exact am_Y_if

theorem b_X12_isRing_110 {d : Nat} {Q : Option am_V → am_H → Prop} (h : am_H) (x5 : Int32) (l0 l1 l2 l3 l4 : Option am_V) : ex_ d 315 110 [l0, l1, l2, l3, l4, some (v_i x5)] [] h Q ↔ ex_ d 315 43 [l0, l1, l2, l3, l4, some (v_i (x5 + (1 : Int32)))] [] h Q := by
  unfold ex_
  refine (am_Y_go 2 (ok := []) (g := (43, [l0, l1, l2, l3, l4, some (v_i (x5 + (1 : Int32)))], [], h)) rfl).trans ?_
  all_goals exact Iff.rfl

theorem b_X12_isRing_64 {d : Nat} {Q : Option am_V → am_H → Prop} (h : am_H) (x4 : Int32) (x5 : Int32) (l1 l2 l3 : Option am_V) (Lh : Lay h) : ex_ (d + 1) 315 64 [some (v_r (some 93)), l1, l2, l3, some (v_i x4), some (v_i x5)] [] h Q ↔ vp_in x4 10 ∧ ex_ d 242 0 [some (v_l (Int32.toInt64 (h_i h 106 (Int32.toNatClampNeg x4)))), none, some (v_i x5)] [] h (fun r h' => ex_ (d + 1) 315 77 [some (v_r (some 93)), l1, l2, l3, some (v_i x4), some (v_i x5)] (r.toList ++ []) h' Q) := by
  have e0 : h_r h 93 27 = some 106 := la_r Lh (q := (93, 27, 106)) (by decide)
  unfold ex_
  refine (am_Y_go 6 (ok := [am_is h (some 93) 12, am_ar h ((h_r h 93 27)) 20 x4]) (g := (74, [some (v_r (some 93)), l1, l2, l3, some (v_i x4), some (v_i x5)], [v_i x5, v_l (Int32.toInt64 (h_i h ((h_r h 93 27).getD 0) (Int32.toNatClampNeg x4)))], h)) rfl).trans ?_
  simp only [e0, Option.getD_some, am_all]
  all_goals exact cj_d (la_is Lh (o := 93) rfl) (cj_k (la_ar Lh (o := 106) rfl) (((am_Y_call (j := 242) (na := 2) (ci := 12) (fl := 2) rfl rfl rfl).trans (cj_d ⟨⟨Nat.le_of_ble_eq_true rfl, Nat.le_of_ble_eq_true rfl, Nat.le_of_ble_eq_true rfl, rfl⟩, Or.inl rfl⟩ Iff.rfl))))

theorem b_X12_isRing_77 {d : Nat} {Q : Option am_V → am_H → Prop} (h : am_H) (s0 : Int32) (l0 l1 l2 l3 l4 l5 : Option am_V) : ex_ d 315 77 [l0, l1, l2, l3, l4, l5] [v_i s0] h Q ↔ if ¬ s0 = 0 then ex_ d 315 83 [l0, l1, l2, l3, l4, l5] [] h Q else ex_ d 315 80 [l0, l1, l2, l3, l4, l5] [] h Q := by
  unfold ex_
  refine (am_Y_go 1 (ok := []) (g := (if ¬ s0 = 0 then 83 else 80, [l0, l1, l2, l3, l4, l5], [], h)) rfl).trans ?_
  all_goals exact am_Y_if

theorem b_X12_isRing_83 {d : Nat} {Q : Option am_V → am_H → Prop} (h : am_H) (x1 : Int32) (x5 : Int32) (x2 : Int32) (x3 : Int32) (l4 : Option am_V) (Lh : Lay h) : ex_ (d + 1) 315 83 [some (v_r (some 93)), some (v_i x1), some (v_i x2), some (v_i x3), l4, some (v_i x5)] [] h Q ↔ vp_in x1 10 ∧ ex_ d 315 0 [some (v_r (some 93)), some (v_i (x1 + (1 : Int32))), some (v_i x2), some (v_i (x3 ||| ((1 : Int32) <<< (x5 &&& 31)))), none, none] [] (p_i h 107 (Int32.toNatClampNeg x1) x5) (fun r h' => ex_ (d + 1) 315 105 [some (v_r (some 93)), some (v_i x1), some (v_i x2), some (v_i x3), l4, some (v_i x5)] (r.toList ++ []) h' Q) := by
  have e0 : h_r h 93 28 = some 107 := la_r Lh (q := (93, 28, 107)) (by decide)
  unfold ex_
  refine (am_Y_go 15 (ok := [am_is h (some 93) 12, am_ar h ((h_r h 93 28)) 20 x1]) (g := (102, [some (v_r (some 93)), some (v_i x1), some (v_i x2), some (v_i x3), l4, some (v_i x5)], [v_i (x3 ||| ((1 : Int32) <<< (x5 &&& 31))), v_i x2, v_i (x1 + (1 : Int32)), v_r (some 93)], (p_i h ((h_r h 93 28).getD 0) (Int32.toNatClampNeg x1) x5))) rfl).trans ?_
  simp only [e0, Option.getD_some, am_all]
  all_goals exact cj_d (la_is Lh (o := 93) rfl) (cj_k (la_ar Lh (o := 107) rfl) (((am_Y_call (j := 315) (na := 4) (ci := 12) (fl := 0) rfl rfl rfl).trans (cj_d ⟨⟨Nat.le_of_ble_eq_true rfl, Nat.le_of_ble_eq_true rfl, Nat.le_of_ble_eq_true rfl, rfl⟩, Or.inr (Or.inr (show (12 : Nat) < 20 ∧ am_is h (some 93) 12 from ⟨by decide, (la_is Lh (o := 93) rfl)⟩))⟩ Iff.rfl))))

theorem b_X12_isRing_80 {d : Nat} {Q : Option am_V → am_H → Prop} (h : am_H) (x5 : Int32) (l0 l1 l2 l3 l4 : Option am_V) : ex_ d 315 80 [l0, l1, l2, l3, l4, some (v_i x5)] [] h Q ↔ ex_ d 315 43 [l0, l1, l2, l3, l4, some (v_i (x5 + (1 : Int32)))] [] h Q := by
  unfold ex_
  refine (am_Y_go 3 (ok := []) (g := (43, [l0, l1, l2, l3, l4, some (v_i (x5 + (1 : Int32)))], [], h)) rfl).trans ?_
  all_goals exact Iff.rfl

theorem b_X12_isRing_105 {d : Nat} {Q : Option am_V → am_H → Prop} (h : am_H) (s0 : Int32) (l0 l1 l2 l3 l4 l5 : Option am_V) : ex_ d 315 105 [l0, l1, l2, l3, l4, l5] [v_i s0] h Q ↔ if s0 = 0 then ex_ d 315 110 [l0, l1, l2, l3, l4, l5] [] h Q else ex_ d 315 108 [l0, l1, l2, l3, l4, l5] [] h Q := by
  unfold ex_
  refine (am_Y_go 1 (ok := []) (g := (if s0 = 0 then 110 else 108, [l0, l1, l2, l3, l4, l5], [], h)) rfl).trans ?_
  all_goals exact am_Y_if

theorem b_X12_isRing_108 {d : Nat} {Q : Option am_V → am_H → Prop} (h : am_H) (l0 l1 l2 l3 l4 l5 : Option am_V) : ex_ d 315 108 [l0, l1, l2, l3, l4, l5] [] h Q ↔ Q (some (v_i (1 : Int32))) h := by
  unfold ex_
  refine (am_Y_go 1 (ok := []) (g := (109, [l0, l1, l2, l3, l4, l5], [v_i (1 : Int32)], h)) rfl).trans ?_
  all_goals exact ((am_Y_ret rfl rfl rfl).trans (am_rz (show am_fit 1 1 from Or.inr rfl)))

theorem b_X12_laysRing_0 {d : Nat} {Q : Option am_V → am_H → Prop} (h : am_H) (l0 l1 l2 : Option am_V) : ex_ d 316 0 [l0, l1, l2] [] h Q ↔ ex_ d 316 2 [l0, some (v_i (2 : Int32)), l2] [] h Q := by
  unfold ex_
  refine (am_Y_go 2 (ok := []) (g := (2, [l0, some (v_i (2 : Int32)), l2], [], h)) rfl).trans ?_
  all_goals exact Iff.rfl

theorem b_X12_laysRing_2 {d : Nat} {Q : Option am_V → am_H → Prop} (h : am_H) (x1 : Int32) (l2 : Option am_V) (Lh : Lay h) : ex_ d 316 2 [some (v_r (some 93)), some (v_i x1), l2] [] h Q ↔ vp_in (1 : Int32) 7053 ∧ (if (h_i h 94 (Int32.toNatClampNeg (1 : Int32))) < x1 then ex_ d 316 57 [some (v_r (some 93)), some (v_i x1), l2] [] h Q else ex_ d 316 12 [some (v_r (some 93)), some (v_i x1), l2] [] h Q) := by
  have e0 : h_r h 93 1 = some 94 := la_r Lh (q := (93, 1, 94)) (by decide)
  unfold ex_
  refine (am_Y_go 6 (ok := [am_is h (some 93) 12, am_ar h ((h_r h 93 1)) 20 (1 : Int32)]) (g := (if (h_i h ((h_r h 93 1).getD 0) (Int32.toNatClampNeg (1 : Int32))) < x1 then 57 else 12, [some (v_r (some 93)), some (v_i x1), l2], [], h)) rfl).trans ?_
  simp only [e0, Option.getD_some, am_all]
  all_goals exact cj_d (la_is Lh (o := 93) rfl) (cj_k (la_ar Lh (o := 94) rfl) (am_Y_if))

theorem b_X12_laysRing_57 {d : Nat} {Q : Option am_V → am_H → Prop} (h : am_H) (l0 l1 l2 : Option am_V) : ex_ d 316 57 [l0, l1, l2] [] h Q ↔ Q (some (v_i (-1 : Int32))) h := by
  unfold ex_
  refine (am_Y_go 1 (ok := []) (g := (58, [l0, l1, l2], [v_i (-1 : Int32)], h)) rfl).trans ?_
  all_goals exact ((am_Y_ret rfl rfl rfl).trans (am_r0))

theorem b_X12_laysRing_12 {d : Nat} {Q : Option am_V → am_H → Prop} (h : am_H) (l0 l1 l2 : Option am_V) : ex_ d 316 12 [l0, l1, l2] [] h Q ↔ ex_ d 316 14 [l0, l1, some (v_i (0 : Int32))] [] h Q := by
  unfold ex_
  refine (am_Y_go 2 (ok := []) (g := (14, [l0, l1, some (v_i (0 : Int32))], [], h)) rfl).trans ?_
  all_goals exact Iff.rfl

theorem b_X12_laysRing_14 {d : Nat} {Q : Option am_V → am_H → Prop} (h : am_H) (x2 : Int32) (l1 : Option am_V) (Lh : Lay h) : ex_ d 316 14 [some (v_r (some 93)), l1, some (v_i x2)] [] h Q ↔ vp_in (1 : Int32) 7053 ∧ (if (h_i h 94 (Int32.toNatClampNeg (1 : Int32))) ≤ x2 then ex_ d 316 51 [some (v_r (some 93)), l1, some (v_i x2)] [] h Q else ex_ d 316 24 [some (v_r (some 93)), l1, some (v_i x2)] [] h Q) := by
  have e0 : h_r h 93 1 = some 94 := la_r Lh (q := (93, 1, 94)) (by decide)
  unfold ex_
  refine (am_Y_go 6 (ok := [am_is h (some 93) 12, am_ar h ((h_r h 93 1)) 20 (1 : Int32)]) (g := (if (h_i h ((h_r h 93 1).getD 0) (Int32.toNatClampNeg (1 : Int32))) ≤ x2 then 51 else 24, [some (v_r (some 93)), l1, some (v_i x2)], [], h)) rfl).trans ?_
  simp only [e0, Option.getD_some, am_all]
  all_goals exact cj_d (la_is Lh (o := 93) rfl) (cj_k (la_ar Lh (o := 94) rfl) (am_Y_if))

theorem b_X12_laysRing_51 {d : Nat} {Q : Option am_V → am_H → Prop} (h : am_H) (x1 : Int32) (l0 l2 : Option am_V) : ex_ d 316 51 [l0, some (v_i x1), l2] [] h Q ↔ ex_ d 316 2 [l0, some (v_i (x1 + (1 : Int32))), l2] [] h Q := by
  unfold ex_
  refine (am_Y_go 2 (ok := []) (g := (2, [l0, some (v_i (x1 + (1 : Int32))), l2], [], h)) rfl).trans ?_
  all_goals exact Iff.rfl

theorem b_X12_laysRing_24 {d : Nat} {Q : Option am_V → am_H → Prop} (h : am_H) (x2 : Int32) (x1 : Int32) (Lh : Lay h) : ex_ (d + 1) 316 24 [some (v_r (some 93)), some (v_i x1), some (v_i x2)] [] h Q ↔ vp_in (0 : Int32) 10 ∧ ex_ d 315 0 [some (v_r (some 93)), some (v_i (1 : Int32)), some (v_i x1), some (v_i ((1 : Int32) <<< (x2 &&& 31))), none, none] [] (p_i h 107 (Int32.toNatClampNeg (0 : Int32)) x2) (fun r h' => ex_ (d + 1) 316 40 [some (v_r (some 93)), some (v_i x1), some (v_i x2)] (r.toList ++ []) h' Q) := by
  have e0 : h_r h 93 28 = some 107 := la_r Lh (q := (93, 28, 107)) (by decide)
  unfold ex_
  refine (am_Y_go 11 (ok := [am_is h (some 93) 12, am_ar h ((h_r h 93 28)) 20 (0 : Int32)]) (g := (37, [some (v_r (some 93)), some (v_i x1), some (v_i x2)], [v_i ((1 : Int32) <<< (x2 &&& 31)), v_i x1, v_i (1 : Int32), v_r (some 93)], (p_i h ((h_r h 93 28).getD 0) (Int32.toNatClampNeg (0 : Int32)) x2))) rfl).trans ?_
  simp only [e0, Option.getD_some, am_all]
  all_goals exact cj_d (la_is Lh (o := 93) rfl) (cj_k (la_ar Lh (o := 107) rfl) (((am_Y_call (j := 315) (na := 4) (ci := 12) (fl := 0) rfl rfl rfl).trans (cj_d ⟨⟨Nat.le_of_ble_eq_true rfl, Nat.le_of_ble_eq_true rfl, Nat.le_of_ble_eq_true rfl, rfl⟩, Or.inr (Or.inr (show (12 : Nat) < 20 ∧ am_is h (some 93) 12 from ⟨by decide, (la_is Lh (o := 93) rfl)⟩))⟩ Iff.rfl))))

theorem b_X12_laysRing_40 {d : Nat} {Q : Option am_V → am_H → Prop} (h : am_H) (s0 : Int32) (l0 l1 l2 : Option am_V) : ex_ d 316 40 [l0, l1, l2] [v_i s0] h Q ↔ if s0 = 0 then ex_ d 316 45 [l0, l1, l2] [] h Q else ex_ d 316 43 [l0, l1, l2] [] h Q := by
  unfold ex_
  refine (am_Y_go 1 (ok := []) (g := (if s0 = 0 then 45 else 43, [l0, l1, l2], [], h)) rfl).trans ?_
  all_goals exact am_Y_if

theorem b_X12_laysRing_45 {d : Nat} {Q : Option am_V → am_H → Prop} (h : am_H) (x2 : Int32) (l0 l1 : Option am_V) : ex_ d 316 45 [l0, l1, some (v_i x2)] [] h Q ↔ ex_ d 316 14 [l0, l1, some (v_i (x2 + (1 : Int32)))] [] h Q := by
  unfold ex_
  refine (am_Y_go 2 (ok := []) (g := (14, [l0, l1, some (v_i (x2 + (1 : Int32)))], [], h)) rfl).trans ?_
  all_goals exact Iff.rfl

theorem b_X12_laysRing_43 {d : Nat} {Q : Option am_V → am_H → Prop} (h : am_H) (x1 : Int32) (l0 l2 : Option am_V) : ex_ d 316 43 [l0, some (v_i x1), l2] [] h Q ↔ Q (some (v_i x1)) h := by
  unfold ex_
  refine (am_Y_go 1 (ok := []) (g := (44, [l0, some (v_i x1), l2], [v_i x1], h)) rfl).trans ?_
  all_goals exact ((am_Y_ret rfl rfl rfl).trans (am_r0))

theorem b_X12_ring_0 {d : Nat} {Q : Option am_V → am_H → Prop} (h : am_H) (x1 : Int32) (l2 : Option am_V) (Lh : Lay h) : ex_ (d + 1) 317 0 [some (v_r (some 93)), some (v_i x1), l2] [] h Q ↔ ex_ d 262 0 [some (v_r (some 93)), some (v_l (Int32.toInt64 x1)), none] [] (p_i h 93 0 (0 : Int32)) (fun r h' => ex_ (d + 1) 317 11 [some (v_r (some 93)), some (v_i x1), l2] (r.toList ++ []) h' Q) := by
  unfold ex_
  refine (am_Y_go 6 (ok := [am_is h (some 93) 12]) (g := (8, [some (v_r (some 93)), some (v_i x1), l2], [v_l (Int32.toInt64 x1), v_r (some 93)], (p_i h 93 0 (0 : Int32)))) rfl).trans ?_
  simp only [am_all]
  all_goals exact cj_d (la_is Lh (o := 93) rfl) (((am_Y_call (j := 262) (na := 2) (ci := 12) (fl := 0) rfl rfl rfl).trans (cj_d ⟨⟨Nat.le_of_ble_eq_true rfl, Nat.le_of_ble_eq_true rfl, Nat.le_of_ble_eq_true rfl, rfl⟩, Or.inr (Or.inr (show (12 : Nat) < 20 ∧ am_is h (some 93) 12 from ⟨by decide, (la_is Lh (o := 93) rfl)⟩))⟩ Iff.rfl)))

theorem b_X12_ring_11 {d : Nat} {Q : Option am_V → am_H → Prop} (h : am_H) (s0 : Int32) (l0 l1 l2 : Option am_V) : ex_ d 317 11 [l0, l1, l2] [v_i s0] h Q ↔ if ¬ s0 = 0 then ex_ d 317 17 [l0, l1, l2] [] h Q else ex_ d 317 14 [l0, l1, l2] [] h Q := by
  unfold ex_
  refine (am_Y_go 1 (ok := []) (g := (if ¬ s0 = 0 then 17 else 14, [l0, l1, l2], [], h)) rfl).trans ?_
  all_goals exact am_Y_if

theorem b_X12_ring_17 {d : Nat} {Q : Option am_V → am_H → Prop} (h : am_H) (x2 : Int32) (l0 l1 : Option am_V) : ex_ d 317 17 [l0, l1, some (v_i x2)] [] h Q ↔ if 0 ≤ x2 then ex_ d 317 24 [l0, l1, some (v_i x2)] [] h Q else ex_ d 317 21 [l0, l1, some (v_i x2)] [] h Q := by
  unfold ex_
  refine (am_Y_go 2 (ok := []) (g := (if 0 ≤ x2 then 24 else 21, [l0, l1, some (v_i x2)], [], h)) rfl).trans ?_
  all_goals exact am_Y_if

theorem b_X12_ring_14 {d : Nat} {Q : Option am_V → am_H → Prop} (h : am_H) (l0 l1 l2 : Option am_V) : ex_ d 317 14 [l0, l1, l2] [] h Q ↔ Q (some (v_i (-2 : Int32))) h := by
  unfold ex_
  refine (am_Y_go 1 (ok := []) (g := (16, [l0, l1, l2], [v_i (-2 : Int32)], h)) rfl).trans ?_
  all_goals exact ((am_Y_ret rfl rfl rfl).trans (am_r0))

theorem b_X12_ring_24 {d : Nat} {Q : Option am_V → am_H → Prop} (h : am_H) (x1 : Int32) (l2 : Option am_V) (Lh : Lay h) : ex_ (d + 1) 317 24 [some (v_r (some 93)), some (v_i x1), l2] [] h Q ↔ ex_ d 312 0 [some (v_r (some 93)), some (v_i x1)] [] h (fun r h' => ex_ (d + 1) 317 29 [some (v_r (some 93)), some (v_i x1), l2] (r.toList ++ []) h' Q) := by
  unfold ex_
  refine (am_Y_go 2 (ok := []) (g := (26, [some (v_r (some 93)), some (v_i x1), l2], [v_i x1, v_r (some 93)], h)) rfl).trans ?_
  all_goals exact ((am_Y_call (j := 312) (na := 2) (ci := 12) (fl := 0) rfl rfl rfl).trans (cj_d ⟨⟨Nat.le_of_ble_eq_true rfl, Nat.le_of_ble_eq_true rfl, Nat.le_of_ble_eq_true rfl, rfl⟩, Or.inr (Or.inr (show (12 : Nat) < 20 ∧ am_is h (some 93) 12 from ⟨by decide, (la_is Lh (o := 93) rfl)⟩))⟩ Iff.rfl))

theorem b_X12_ring_21 {d : Nat} {Q : Option am_V → am_H → Prop} (h : am_H) (l0 l1 l2 : Option am_V) : ex_ d 317 21 [l0, l1, l2] [] h Q ↔ Q (some (v_i (-3 : Int32))) h := by
  unfold ex_
  refine (am_Y_go 1 (ok := []) (g := (23, [l0, l1, l2], [v_i (-3 : Int32)], h)) rfl).trans ?_
  all_goals exact ((am_Y_ret rfl rfl rfl).trans (am_r0))

theorem b_X12_ring_29 {d : Nat} {Q : Option am_V → am_H → Prop} (h : am_H) (s0 : Int32) (l0 l1 l2 : Option am_V) : ex_ d 317 29 [l0, l1, l2] [v_i s0] h Q ↔ if s0 = 0 then ex_ d 317 34 [l0, l1, l2] [] h Q else ex_ d 317 32 [l0, l1, l2] [] h Q := by
  unfold ex_
  refine (am_Y_go 1 (ok := []) (g := (if s0 = 0 then 34 else 32, [l0, l1, l2], [], h)) rfl).trans ?_
  all_goals exact am_Y_if

theorem b_X12_ring_34 {d : Nat} {Q : Option am_V → am_H → Prop} (h : am_H) (x2 : Int32) (l1 : Option am_V) (Lh : Lay h) : ex_ (d + 1) 317 34 [some (v_r (some 93)), l1, some (v_i x2)] [] h Q ↔ ex_ d 316 0 [some (v_r (some 93)), none, none] [] h (fun r h' => ex_ (d + 1) 317 39 [some (v_r (some 93)), l1, some (v_i x2)] (r.toList ++ [v_i x2]) h' Q) := by
  unfold ex_
  refine (am_Y_go 2 (ok := []) (g := (36, [some (v_r (some 93)), l1, some (v_i x2)], [v_r (some 93), v_i x2], h)) rfl).trans ?_
  all_goals exact ((am_Y_call (j := 316) (na := 1) (ci := 12) (fl := 0) rfl rfl rfl).trans (cj_d ⟨⟨Nat.le_of_ble_eq_true rfl, Nat.le_of_ble_eq_true rfl, Nat.le_of_ble_eq_true rfl, rfl⟩, Or.inr (Or.inr (show (12 : Nat) < 20 ∧ am_is h (some 93) 12 from ⟨by decide, (la_is Lh (o := 93) rfl)⟩))⟩ Iff.rfl))

theorem b_X12_ring_32 {d : Nat} {Q : Option am_V → am_H → Prop} (h : am_H) (l0 l1 l2 : Option am_V) : ex_ d 317 32 [l0, l1, l2] [] h Q ↔ Q (some (v_i (-1 : Int32))) h := by
  unfold ex_
  refine (am_Y_go 1 (ok := []) (g := (33, [l0, l1, l2], [v_i (-1 : Int32)], h)) rfl).trans ?_
  all_goals exact ((am_Y_ret rfl rfl rfl).trans (am_r0))

theorem b_X12_ring_39 {d : Nat} {Q : Option am_V → am_H → Prop} (h : am_H) (s0 : Int32) (s1 : Int32) (l0 l1 l2 : Option am_V) : ex_ d 317 39 [l0, l1, l2] [v_i s0, v_i s1] h Q ↔ if s0 ≤ s1 then ex_ d 317 51 [l0, l1, l2] [] h Q else ex_ d 317 42 [l0, l1, l2] [] h Q := by
  unfold ex_
  refine (am_Y_go 1 (ok := []) (g := (if s0 ≤ s1 then 51 else 42, [l0, l1, l2], [], h)) rfl).trans ?_
  all_goals exact am_Y_if

theorem b_X12_ring_51 {d : Nat} {Q : Option am_V → am_H → Prop} (h : am_H) (l0 l1 l2 : Option am_V) : ex_ d 317 51 [l0, l1, l2] [] h Q ↔ Q (some (v_i (-1 : Int32))) h := by
  unfold ex_
  refine (am_Y_go 1 (ok := []) (g := (52, [l0, l1, l2], [v_i (-1 : Int32)], h)) rfl).trans ?_
  all_goals exact ((am_Y_ret rfl rfl rfl).trans (am_r0))

theorem b_X12_ring_42 {d : Nat} {Q : Option am_V → am_H → Prop} (h : am_H) (x2 : Int32) (l1 : Option am_V) (Lh : Lay h) : ex_ d 317 42 [some (v_r (some 93)), l1, some (v_i x2)] [] h Q ↔ vp_in x2 10 ∧ Q (some (v_i (h_i h 107 (Int32.toNatClampNeg x2)))) h := by
  have e0 : h_r h 93 28 = some 107 := la_r Lh (q := (93, 28, 107)) (by decide)
  unfold ex_
  refine (am_Y_go 5 (ok := [am_is h (some 93) 12, am_ar h ((h_r h 93 28)) 20 x2]) (g := (52, [some (v_r (some 93)), l1, some (v_i x2)], [v_i (h_i h ((h_r h 93 28).getD 0) (Int32.toNatClampNeg x2))], h)) rfl).trans ?_
  simp only [e0, Option.getD_some, am_all]
  all_goals exact cj_d (la_is Lh (o := 93) rfl) (cj_k (la_ar Lh (o := 107) rfl) (((am_Y_ret rfl rfl rfl).trans (am_r0))))

theorem b_X12_canStand_0 {d : Nat} {Q : Option am_V → am_H → Prop} (h : am_H) (x2 : Int32) (x1 : Int32) (l0 l3 l4 : Option am_V) : ex_ (d + 1) 318 0 [l0, some (v_i x1), some (v_i x2), l3, l4] [] h Q ↔ ex_ d 242 0 [some (v_l (Int32.toInt64 x2)), none, some (v_i x1)] [] h (fun r h' => ex_ (d + 1) 318 6 [l0, some (v_i x1), some (v_i x2), l3, l4] (r.toList ++ []) h' Q) := by
  unfold ex_
  refine (am_Y_go 3 (ok := []) (g := (3, [l0, some (v_i x1), some (v_i x2), l3, l4], [v_i x1, v_l (Int32.toInt64 x2)], h)) rfl).trans ?_
  all_goals exact ((am_Y_call (j := 242) (na := 2) (ci := 12) (fl := 2) rfl rfl rfl).trans (cj_d ⟨⟨Nat.le_of_ble_eq_true rfl, Nat.le_of_ble_eq_true rfl, Nat.le_of_ble_eq_true rfl, rfl⟩, Or.inl rfl⟩ Iff.rfl))

theorem b_X12_canStand_6 {d : Nat} {Q : Option am_V → am_H → Prop} (h : am_H) (s0 : Int32) (l0 l1 l2 l3 l4 : Option am_V) : ex_ d 318 6 [l0, l1, l2, l3, l4] [v_i s0] h Q ↔ if ¬ s0 = 0 then ex_ d 318 18 [l0, l1, l2, l3, l4] [] h Q else ex_ d 318 9 [l0, l1, l2, l3, l4] [] h Q := by
  unfold ex_
  refine (am_Y_go 1 (ok := []) (g := (if ¬ s0 = 0 then 18 else 9, [l0, l1, l2, l3, l4], [], h)) rfl).trans ?_
  all_goals exact am_Y_if

theorem b_X12_canStand_18 {d : Nat} {Q : Option am_V → am_H → Prop} (h : am_H) (l0 l1 l2 l3 l4 : Option am_V) : ex_ d 318 18 [l0, l1, l2, l3, l4] [] h Q ↔ Q (some (v_i (0 : Int32))) h := by
  unfold ex_
  refine (am_Y_go 1 (ok := []) (g := (19, [l0, l1, l2, l3, l4], [v_i (0 : Int32)], h)) rfl).trans ?_
  all_goals exact ((am_Y_ret rfl rfl rfl).trans (am_rz (show am_fit 1 0 from Or.inl rfl)))

theorem b_X12_canStand_9 {d : Nat} {Q : Option am_V → am_H → Prop} (h : am_H) (x3 : Int32) (x1 : Int32) (l0 l2 l4 : Option am_V) : ex_ (d + 1) 318 9 [l0, some (v_i x1), l2, some (v_i x3), l4] [] h Q ↔ ex_ d 242 0 [some (v_l (Int32.toInt64 x3)), none, some (v_i x1)] [] h (fun r h' => ex_ (d + 1) 318 15 [l0, some (v_i x1), l2, some (v_i x3), l4] (r.toList ++ []) h' Q) := by
  unfold ex_
  refine (am_Y_go 3 (ok := []) (g := (12, [l0, some (v_i x1), l2, some (v_i x3), l4], [v_i x1, v_l (Int32.toInt64 x3)], h)) rfl).trans ?_
  all_goals exact ((am_Y_call (j := 242) (na := 2) (ci := 12) (fl := 2) rfl rfl rfl).trans (cj_d ⟨⟨Nat.le_of_ble_eq_true rfl, Nat.le_of_ble_eq_true rfl, Nat.le_of_ble_eq_true rfl, rfl⟩, Or.inl rfl⟩ Iff.rfl))

theorem b_X12_canStand_15 {d : Nat} {Q : Option am_V → am_H → Prop} (h : am_H) (s0 : Int32) (l0 l1 l2 l3 l4 : Option am_V) : ex_ d 318 15 [l0, l1, l2, l3, l4] [v_i s0] h Q ↔ if ¬ s0 = 0 then ex_ d 318 20 [l0, l1, l2, l3, l4] [] h Q else ex_ d 318 18 [l0, l1, l2, l3, l4] [] h Q := by
  unfold ex_
  refine (am_Y_go 1 (ok := []) (g := (if ¬ s0 = 0 then 20 else 18, [l0, l1, l2, l3, l4], [], h)) rfl).trans ?_
  all_goals exact am_Y_if

theorem b_X12_canStand_20 {d : Nat} {Q : Option am_V → am_H → Prop} (h : am_H) (l0 l1 l2 l3 l4 : Option am_V) : ex_ d 318 20 [l0, l1, l2, l3, l4] [] h Q ↔ ex_ d 318 23 [l0, l1, l2, l3, some (v_i (0 : Int32))] [] h Q := by
  unfold ex_
  refine (am_Y_go 2 (ok := []) (g := (23, [l0, l1, l2, l3, some (v_i (0 : Int32))], [], h)) rfl).trans ?_
  all_goals exact Iff.rfl

theorem b_X12_canStand_23 {d : Nat} {Q : Option am_V → am_H → Prop} (h : am_H) (x4 : Int32) (l0 l1 l2 l3 : Option am_V) : ex_ d 318 23 [l0, l1, l2, l3, some (v_i x4)] [] h Q ↔ if (10 : Int32) ≤ x4 then ex_ d 318 67 [l0, l1, l2, l3, some (v_i x4)] [] h Q else ex_ d 318 30 [l0, l1, l2, l3, some (v_i x4)] [] h Q := by
  unfold ex_
  refine (am_Y_go 3 (ok := []) (g := (if (10 : Int32) ≤ x4 then 67 else 30, [l0, l1, l2, l3, some (v_i x4)], [], h)) rfl).trans ?_
  all_goals exact am_Y_if

theorem b_X12_canStand_67 {d : Nat} {Q : Option am_V → am_H → Prop} (h : am_H) (l0 l1 l2 l3 l4 : Option am_V) : ex_ d 318 67 [l0, l1, l2, l3, l4] [] h Q ↔ Q (some (v_i (1 : Int32))) h := by
  unfold ex_
  refine (am_Y_go 1 (ok := []) (g := (68, [l0, l1, l2, l3, l4], [v_i (1 : Int32)], h)) rfl).trans ?_
  all_goals exact ((am_Y_ret rfl rfl rfl).trans (am_rz (show am_fit 1 1 from Or.inr rfl)))

theorem b_X12_canStand_30 {d : Nat} {Q : Option am_V → am_H → Prop} (h : am_H) (x3 : Int32) (x2 : Int32) (x4 : Int32) (l0 l1 : Option am_V) : ex_ (d + 1) 318 30 [l0, l1, some (v_i x2), some (v_i x3), some (v_i x4)] [] h Q ↔ ex_ d 242 0 [some (v_l (Int32.toInt64 (x3 &&& (x2 ^^^ (-1 : Int32))))), none, some (v_i x4)] [] h (fun r h' => ex_ (d + 1) 318 41 [l0, l1, some (v_i x2), some (v_i x3), some (v_i x4)] (r.toList ++ []) h' Q) := by
  unfold ex_
  refine (am_Y_go 7 (ok := []) (g := (38, [l0, l1, some (v_i x2), some (v_i x3), some (v_i x4)], [v_i x4, v_l (Int32.toInt64 (x3 &&& (x2 ^^^ (-1 : Int32))))], h)) rfl).trans ?_
  all_goals exact ((am_Y_call (j := 242) (na := 2) (ci := 12) (fl := 2) rfl rfl rfl).trans (cj_d ⟨⟨Nat.le_of_ble_eq_true rfl, Nat.le_of_ble_eq_true rfl, Nat.le_of_ble_eq_true rfl, rfl⟩, Or.inl rfl⟩ Iff.rfl))

theorem b_X12_canStand_41 {d : Nat} {Q : Option am_V → am_H → Prop} (h : am_H) (s0 : Int32) (l0 l1 l2 l3 l4 : Option am_V) : ex_ d 318 41 [l0, l1, l2, l3, l4] [v_i s0] h Q ↔ if s0 = 0 then ex_ d 318 61 [l0, l1, l2, l3, l4] [] h Q else ex_ d 318 44 [l0, l1, l2, l3, l4] [] h Q := by
  unfold ex_
  refine (am_Y_go 1 (ok := []) (g := (if s0 = 0 then 61 else 44, [l0, l1, l2, l3, l4], [], h)) rfl).trans ?_
  all_goals exact am_Y_if

theorem b_X12_canStand_61 {d : Nat} {Q : Option am_V → am_H → Prop} (h : am_H) (x4 : Int32) (l0 l1 l2 l3 : Option am_V) : ex_ d 318 61 [l0, l1, l2, l3, some (v_i x4)] [] h Q ↔ ex_ d 318 23 [l0, l1, l2, l3, some (v_i (x4 + (1 : Int32)))] [] h Q := by
  unfold ex_
  refine (am_Y_go 2 (ok := []) (g := (23, [l0, l1, l2, l3, some (v_i (x4 + (1 : Int32)))], [], h)) rfl).trans ?_
  all_goals exact Iff.rfl

theorem b_X12_canStand_44 {d : Nat} {Q : Option am_V → am_H → Prop} (h : am_H) (x4 : Int32) (x1 : Int32) (l2 l3 : Option am_V) (Lh : Lay h) : ex_ (d + 1) 318 44 [some (v_r (some 93)), some (v_i x1), l2, l3, some (v_i x4)] [] h Q ↔ vp_in x4 10 ∧ ex_ d 242 0 [some (v_l (Int32.toInt64 (h_i h 106 (Int32.toNatClampNeg x4)))), none, some (v_i x1)] [] h (fun r h' => ex_ (d + 1) 318 56 [some (v_r (some 93)), some (v_i x1), l2, l3, some (v_i x4)] (r.toList ++ []) h' Q) := by
  have e0 : h_r h 93 27 = some 106 := la_r Lh (q := (93, 27, 106)) (by decide)
  unfold ex_
  refine (am_Y_go 6 (ok := [am_is h (some 93) 12, am_ar h ((h_r h 93 27)) 20 x4]) (g := (53, [some (v_r (some 93)), some (v_i x1), l2, l3, some (v_i x4)], [v_i x1, v_l (Int32.toInt64 (h_i h ((h_r h 93 27).getD 0) (Int32.toNatClampNeg x4)))], h)) rfl).trans ?_
  simp only [e0, Option.getD_some, am_all]
  all_goals exact cj_d (la_is Lh (o := 93) rfl) (cj_k (la_ar Lh (o := 106) rfl) (((am_Y_call (j := 242) (na := 2) (ci := 12) (fl := 2) rfl rfl rfl).trans (cj_d ⟨⟨Nat.le_of_ble_eq_true rfl, Nat.le_of_ble_eq_true rfl, Nat.le_of_ble_eq_true rfl, rfl⟩, Or.inl rfl⟩ Iff.rfl))))

theorem b_X12_canStand_56 {d : Nat} {Q : Option am_V → am_H → Prop} (h : am_H) (s0 : Int32) (l0 l1 l2 l3 l4 : Option am_V) : ex_ d 318 56 [l0, l1, l2, l3, l4] [v_i s0] h Q ↔ if s0 = 0 then ex_ d 318 61 [l0, l1, l2, l3, l4] [] h Q else ex_ d 318 59 [l0, l1, l2, l3, l4] [] h Q := by
  unfold ex_
  refine (am_Y_go 1 (ok := []) (g := (if s0 = 0 then 61 else 59, [l0, l1, l2, l3, l4], [], h)) rfl).trans ?_
  all_goals exact am_Y_if

theorem b_X12_canStand_59 {d : Nat} {Q : Option am_V → am_H → Prop} (h : am_H) (l0 l1 l2 l3 l4 : Option am_V) : ex_ d 318 59 [l0, l1, l2, l3, l4] [] h Q ↔ Q (some (v_i (0 : Int32))) h := by
  unfold ex_
  refine (am_Y_go 1 (ok := []) (g := (60, [l0, l1, l2, l3, l4], [v_i (0 : Int32)], h)) rfl).trans ?_
  all_goals exact ((am_Y_ret rfl rfl rfl).trans (am_rz (show am_fit 1 0 from Or.inl rfl)))

theorem b_X12_laysWays_0 {d : Nat} {Q : Option am_V → am_H → Prop} (h : am_H) (x1 : Int32) (l0 l2 l3 l4 : Option am_V) : ex_ d 319 0 [l0, some (v_i x1), l2, l3, l4] [] h Q ↔ ex_ d 319 2 [l0, some (v_i x1), some (v_i x1), l3, l4] [] h Q := by
  unfold ex_
  refine (am_Y_go 2 (ok := []) (g := (2, [l0, some (v_i x1), some (v_i x1), l3, l4], [], h)) rfl).trans ?_
  all_goals exact Iff.rfl

theorem b_X12_laysWays_2 {d : Nat} {Q : Option am_V → am_H → Prop} (h : am_H) (x2 : Int32) (l0 l1 l3 l4 : Option am_V) : ex_ d 319 2 [l0, l1, some (v_i x2), l3, l4] [] h Q ↔ if x2 < 0 then ex_ d 319 82 [l0, l1, some (v_i x2), l3, l4] [] h Q else ex_ d 319 6 [l0, l1, some (v_i x2), l3, l4] [] h Q := by
  unfold ex_
  refine (am_Y_go 2 (ok := []) (g := (if x2 < 0 then 82 else 6, [l0, l1, some (v_i x2), l3, l4], [], h)) rfl).trans ?_
  all_goals exact am_Y_if

theorem b_X12_laysWays_82 {d : Nat} {Q : Option am_V → am_H → Prop} (h : am_H) (l0 l1 l2 l3 l4 : Option am_V) : ex_ d 319 82 [l0, l1, l2, l3, l4] [] h Q ↔ Q (none) h := by
  unfold ex_
  exact ((am_Y_ret rfl rfl rfl).trans (am_rz rfl))

theorem b_X12_laysWays_6 {d : Nat} {Q : Option am_V → am_H → Prop} (h : am_H) (x2 : Int32) (x1 : Int32) (l0 l3 l4 : Option am_V) : ex_ d 319 6 [l0, some (v_i x1), some (v_i x2), l3, l4] [] h Q ↔ if (x2 &&& (x1 ^^^ (-1 : Int32))) = 0 then ex_ d 319 17 [l0, some (v_i x1), some (v_i x2), l3, l4] [] h Q else ex_ d 319 14 [l0, some (v_i x1), some (v_i x2), l3, l4] [] h Q := by
  unfold ex_
  refine (am_Y_go 6 (ok := []) (g := (if (x2 &&& (x1 ^^^ (-1 : Int32))) = 0 then 17 else 14, [l0, some (v_i x1), some (v_i x2), l3, l4], [], h)) rfl).trans ?_
  all_goals exact am_Y_if

theorem b_X12_laysWays_17 {d : Nat} {Q : Option am_V → am_H → Prop} (h : am_H) (x2 : Int32) (x1 : Int32) (l0 l3 l4 : Option am_V) : ex_ d 319 17 [l0, some (v_i x1), some (v_i x2), l3, l4] [] h Q ↔ if ¬ x2 = x1 then ex_ d 319 26 [l0, some (v_i x1), some (v_i x2), l3, l4] [] h Q else ex_ d 319 22 [l0, some (v_i x1), some (v_i x2), l3, l4] [] h Q := by
  unfold ex_
  refine (am_Y_go 3 (ok := []) (g := (if ¬ x2 = x1 then 26 else 22, [l0, some (v_i x1), some (v_i x2), l3, l4], [], h)) rfl).trans ?_
  all_goals exact am_Y_if

theorem b_X12_laysWays_14 {d : Nat} {Q : Option am_V → am_H → Prop} (h : am_H) (x2 : Int32) (l0 l1 l3 l4 : Option am_V) : ex_ d 319 14 [l0, l1, some (v_i x2), l3, l4] [] h Q ↔ ex_ d 319 2 [l0, l1, some (v_i (x2 + (-1 : Int32))), l3, l4] [] h Q := by
  unfold ex_
  refine (am_Y_go 3 (ok := []) (g := (2, [l0, l1, some (v_i (x2 + (-1 : Int32))), l3, l4], [], h)) rfl).trans ?_
  all_goals exact Iff.rfl

theorem b_X12_laysWays_26 {d : Nat} {Q : Option am_V → am_H → Prop} (h : am_H) (l0 l1 l2 l3 l4 : Option am_V) : ex_ d 319 26 [l0, l1, l2, l3, l4] [] h Q ↔ ex_ d 319 31 [l0, l1, l2, some (v_i (0 : Int32)), some (v_i (0 : Int32))] [] h Q := by
  unfold ex_
  refine (am_Y_go 4 (ok := []) (g := (31, [l0, l1, l2, some (v_i (0 : Int32)), some (v_i (0 : Int32))], [], h)) rfl).trans ?_
  all_goals exact Iff.rfl

theorem b_X12_laysWays_22 {d : Nat} {Q : Option am_V → am_H → Prop} (h : am_H) (l0 l1 l2 l3 l4 : Option am_V) : ex_ d 319 22 [l0, l1, l2, l3, l4] [] h Q ↔ ex_ d 319 31 [l0, l1, l2, some (v_i (1 : Int32)), some (v_i (0 : Int32))] [] h Q := by
  unfold ex_
  refine (am_Y_go 5 (ok := []) (g := (31, [l0, l1, l2, some (v_i (1 : Int32)), some (v_i (0 : Int32))], [], h)) rfl).trans ?_
  all_goals exact Iff.rfl

theorem b_X12_laysWays_31 {d : Nat} {Q : Option am_V → am_H → Prop} (h : am_H) (x4 : Int32) (l0 l1 l2 l3 : Option am_V) : ex_ d 319 31 [l0, l1, l2, l3, some (v_i x4)] [] h Q ↔ if (10 : Int32) ≤ x4 then ex_ d 319 69 [l0, l1, l2, l3, some (v_i x4)] [] h Q else ex_ d 319 38 [l0, l1, l2, l3, some (v_i x4)] [] h Q := by
  unfold ex_
  refine (am_Y_go 3 (ok := []) (g := (if (10 : Int32) ≤ x4 then 69 else 38, [l0, l1, l2, l3, some (v_i x4)], [], h)) rfl).trans ?_
  all_goals exact am_Y_if

theorem b_X12_laysWays_69 {d : Nat} {Q : Option am_V → am_H → Prop} (h : am_H) (x2 : Int32) (x3 : Int32) (l1 l4 : Option am_V) (Lh : Lay h) : ex_ d 319 69 [some (v_r (some 93)), l1, some (v_i x2), some (v_i x3), l4] [] h Q ↔ vp_in x2 1024 ∧ ex_ d 319 2 [some (v_r (some 93)), l1, some (v_i (x2 + (-1 : Int32))), some (v_i x3), l4] [] (p_i h 108 (Int32.toNatClampNeg x2) x3) Q := by
  have e0 : h_r h 93 29 = some 108 := la_r Lh (q := (93, 29, 108)) (by decide)
  unfold ex_
  refine (am_Y_go 7 (ok := [am_is h (some 93) 12, am_ar h ((h_r h 93 29)) 20 x2]) (g := (2, [some (v_r (some 93)), l1, some (v_i (x2 + (-1 : Int32))), some (v_i x3), l4], [], (p_i h ((h_r h 93 29).getD 0) (Int32.toNatClampNeg x2) x3))) rfl).trans ?_
  simp only [e0, Option.getD_some, am_all]
  all_goals exact cj_d (la_is Lh (o := 93) rfl) (cj_k (la_ar Lh (o := 108) rfl) (Iff.rfl))

theorem b_X12_laysWays_38 {d : Nat} {Q : Option am_V → am_H → Prop} (h : am_H) (x4 : Int32) (x2 : Int32) (x1 : Int32) (l3 : Option am_V) (Lh : Lay h) : ex_ (d + 1) 319 38 [some (v_r (some 93)), some (v_i x1), some (v_i x2), l3, some (v_i x4)] [] h Q ↔ ex_ d 318 0 [some (v_r (some 93)), some (v_i x4), some (v_i x2), some (v_i x1), none] [] h (fun r h' => ex_ (d + 1) 319 46 [some (v_r (some 93)), some (v_i x1), some (v_i x2), l3, some (v_i x4)] (r.toList ++ []) h' Q) := by
  unfold ex_
  refine (am_Y_go 4 (ok := []) (g := (43, [some (v_r (some 93)), some (v_i x1), some (v_i x2), l3, some (v_i x4)], [v_i x1, v_i x2, v_i x4, v_r (some 93)], h)) rfl).trans ?_
  all_goals exact ((am_Y_call (j := 318) (na := 4) (ci := 12) (fl := 0) rfl rfl rfl).trans (cj_d ⟨⟨Nat.le_of_ble_eq_true rfl, Nat.le_of_ble_eq_true rfl, Nat.le_of_ble_eq_true rfl, rfl⟩, Or.inr (Or.inr (show (12 : Nat) < 20 ∧ am_is h (some 93) 12 from ⟨by decide, (la_is Lh (o := 93) rfl)⟩))⟩ Iff.rfl))

theorem b_X12_laysWays_46 {d : Nat} {Q : Option am_V → am_H → Prop} (h : am_H) (s0 : Int32) (l0 l1 l2 l3 l4 : Option am_V) : ex_ d 319 46 [l0, l1, l2, l3, l4] [v_i s0] h Q ↔ if s0 = 0 then ex_ d 319 63 [l0, l1, l2, l3, l4] [] h Q else ex_ d 319 49 [l0, l1, l2, l3, l4] [] h Q := by
  unfold ex_
  refine (am_Y_go 1 (ok := []) (g := (if s0 = 0 then 63 else 49, [l0, l1, l2, l3, l4], [], h)) rfl).trans ?_
  all_goals exact am_Y_if

theorem b_X12_laysWays_63 {d : Nat} {Q : Option am_V → am_H → Prop} (h : am_H) (x4 : Int32) (l0 l1 l2 l3 : Option am_V) : ex_ d 319 63 [l0, l1, l2, l3, some (v_i x4)] [] h Q ↔ ex_ d 319 31 [l0, l1, l2, l3, some (v_i (x4 + (1 : Int32)))] [] h Q := by
  unfold ex_
  refine (am_Y_go 2 (ok := []) (g := (31, [l0, l1, l2, l3, some (v_i (x4 + (1 : Int32)))], [], h)) rfl).trans ?_
  all_goals exact Iff.rfl

theorem b_X12_laysWays_49 {d : Nat} {Q : Option am_V → am_H → Prop} (h : am_H) (x3 : Int32) (x2 : Int32) (x4 : Int32) (l1 : Option am_V) (Lh : Lay h) : ex_ d 319 49 [some (v_r (some 93)), l1, some (v_i x2), some (v_i x3), some (v_i x4)] [] h Q ↔ vp_in (x2 ||| ((1 : Int32) <<< (x4 &&& 31))) 1024 ∧ ex_ d 319 31 [some (v_r (some 93)), l1, some (v_i x2), some (v_i (x3 + (h_i h 108 (Int32.toNatClampNeg (x2 ||| ((1 : Int32) <<< (x4 &&& 31))))))), some (v_i (x4 + (1 : Int32)))] [] h Q := by
  have e0 : h_r h 93 29 = some 108 := la_r Lh (q := (93, 29, 108)) (by decide)
  unfold ex_
  refine (am_Y_go 13 (ok := [am_is h (some 93) 12, am_ar h ((h_r h 93 29)) 20 (x2 ||| ((1 : Int32) <<< (x4 &&& 31)))]) (g := (31, [some (v_r (some 93)), l1, some (v_i x2), some (v_i (x3 + (h_i h ((h_r h 93 29).getD 0) (Int32.toNatClampNeg (x2 ||| ((1 : Int32) <<< (x4 &&& 31))))))), some (v_i (x4 + (1 : Int32)))], [], h)) rfl).trans ?_
  simp only [e0, Option.getD_some, am_all]
  all_goals exact cj_d (la_is Lh (o := 93) rfl) (cj_k (la_ar Lh (o := 108) rfl) (Iff.rfl))

theorem b_X12_ways_0 {d : Nat} {Q : Option am_V → am_H → Prop} (h : am_H) (x1 : Int32) (l2 : Option am_V) (Lh : Lay h) : ex_ (d + 1) 320 0 [some (v_r (some 93)), some (v_i x1), l2] [] h Q ↔ ex_ d 312 0 [some (v_r (some 93)), some (v_i x1)] [] (p_i h 93 0 (0 : Int32)) (fun r h' => ex_ (d + 1) 320 10 [some (v_r (some 93)), some (v_i x1), l2] (r.toList ++ []) h' Q) := by
  unfold ex_
  refine (am_Y_go 5 (ok := [am_is h (some 93) 12]) (g := (7, [some (v_r (some 93)), some (v_i x1), l2], [v_i x1, v_r (some 93)], (p_i h 93 0 (0 : Int32)))) rfl).trans ?_
  simp only [am_all]
  all_goals exact cj_d (la_is Lh (o := 93) rfl) (((am_Y_call (j := 312) (na := 2) (ci := 12) (fl := 0) rfl rfl rfl).trans (cj_d ⟨⟨Nat.le_of_ble_eq_true rfl, Nat.le_of_ble_eq_true rfl, Nat.le_of_ble_eq_true rfl, rfl⟩, Or.inr (Or.inr (show (12 : Nat) < 20 ∧ am_is h (some 93) 12 from ⟨by decide, (la_is Lh (o := 93) rfl)⟩))⟩ Iff.rfl)))

theorem b_X12_ways_10 {d : Nat} {Q : Option am_V → am_H → Prop} (h : am_H) (s0 : Int32) (l0 l1 l2 : Option am_V) : ex_ d 320 10 [l0, l1, l2] [v_i s0] h Q ↔ if s0 = 0 then ex_ d 320 17 [l0, l1, some (v_i s0)] [] h Q else ex_ d 320 15 [l0, l1, some (v_i s0)] [] h Q := by
  unfold ex_
  refine (am_Y_go 3 (ok := []) (g := (if s0 = 0 then 17 else 15, [l0, l1, some (v_i s0)], [], h)) rfl).trans ?_
  all_goals exact am_Y_if

theorem b_X12_ways_17 {d : Nat} {Q : Option am_V → am_H → Prop} (h : am_H) (x1 : Int32) (l2 : Option am_V) (Lh : Lay h) : ex_ (d + 1) 320 17 [some (v_r (some 93)), some (v_i x1), l2] [] h Q ↔ ex_ d 280 0 [some (v_r (some 93)), some (v_i x1), none, none] [] h (fun r h' => ex_ (d + 1) 320 23 [some (v_r (some 93)), some (v_i x1), l2] (r.toList ++ [v_r (some 93)]) h' Q) := by
  unfold ex_
  refine (am_Y_go 3 (ok := []) (g := (20, [some (v_r (some 93)), some (v_i x1), l2], [v_i x1, v_r (some 93), v_r (some 93)], h)) rfl).trans ?_
  all_goals exact ((am_Y_call (j := 280) (na := 2) (ci := 12) (fl := 0) rfl rfl rfl).trans (cj_d ⟨⟨Nat.le_of_ble_eq_true rfl, Nat.le_of_ble_eq_true rfl, Nat.le_of_ble_eq_true rfl, rfl⟩, Or.inr (Or.inr (show (12 : Nat) < 20 ∧ am_is h (some 93) 12 from ⟨by decide, (la_is Lh (o := 93) rfl)⟩))⟩ Iff.rfl))

theorem b_X12_ways_15 {d : Nat} {Q : Option am_V → am_H → Prop} (h : am_H) (x2 : Int32) (l0 l1 : Option am_V) : ex_ d 320 15 [l0, l1, some (v_i x2)] [] h Q ↔ Q (some (v_i x2)) h := by
  unfold ex_
  refine (am_Y_go 1 (ok := []) (g := (16, [l0, l1, some (v_i x2)], [v_i x2], h)) rfl).trans ?_
  all_goals exact ((am_Y_ret rfl rfl rfl).trans (am_r0))

theorem b_X12_ways_23 {d : Nat} {Q : Option am_V → am_H → Prop} (h : am_H) (s0 : Int32) (l0 l1 l2 : Option am_V) (Lh : Lay h) : ex_ (d + 1) 320 23 [l0, l1, l2] [v_i s0, v_r (some 93)] h Q ↔ ex_ d 319 0 [some (v_r (some 93)), some (v_i s0), none, none, none] [] h (fun r h' => ex_ (d + 1) 320 26 [l0, l1, l2] (r.toList ++ []) h' Q) := by
  unfold ex_
  exact ((am_Y_call (j := 319) (na := 2) (ci := 12) (fl := 0) rfl rfl rfl).trans (cj_d ⟨⟨Nat.le_of_ble_eq_true rfl, Nat.le_of_ble_eq_true rfl, Nat.le_of_ble_eq_true rfl, rfl⟩, Or.inr (Or.inr (show (12 : Nat) < 20 ∧ am_is h (some 93) 12 from ⟨by decide, (la_is Lh (o := 93) rfl)⟩))⟩ Iff.rfl))

theorem b_X12_ways_26 {d : Nat} {Q : Option am_V → am_H → Prop} (h : am_H) (l1 l2 : Option am_V) (Lh : Lay h) : ex_ d 320 26 [some (v_r (some 93)), l1, l2] [] h Q ↔ vp_in (0 : Int32) 1024 ∧ Q (some (v_i (h_i h 108 (Int32.toNatClampNeg (0 : Int32))))) h := by
  have e0 : h_r h 93 29 = some 108 := la_r Lh (q := (93, 29, 108)) (by decide)
  unfold ex_
  refine (am_Y_go 4 (ok := [am_is h (some 93) 12, am_ar h ((h_r h 93 29)) 20 (0 : Int32)]) (g := (32, [some (v_r (some 93)), l1, l2], [v_i (h_i h ((h_r h 93 29).getD 0) (Int32.toNatClampNeg (0 : Int32)))], h)) rfl).trans ?_
  simp only [e0, Option.getD_some, am_all]
  all_goals exact cj_d (la_is Lh (o := 93) rfl) (cj_k (la_ar Lh (o := 108) rfl) (((am_Y_ret rfl rfl rfl).trans (am_r0))))

theorem b_X12_rank_0 {d : Nat} {Q : Option am_V → am_H → Prop} (h : am_H) (x1 : Int32) (l2 l3 l4 l5 l6 l7 l8 : Option am_V) (Lh : Lay h) : ex_ (d + 1) 321 0 [some (v_r (some 93)), some (v_i x1), l2, l3, l4, l5, l6, l7, l8] [] h Q ↔ ex_ d 312 0 [some (v_r (some 93)), some (v_i x1)] [] (p_i h 93 0 (0 : Int32)) (fun r h' => ex_ (d + 1) 321 10 [some (v_r (some 93)), some (v_i x1), l2, l3, l4, l5, l6, l7, l8] (r.toList ++ []) h' Q) := by
  unfold ex_
  refine (am_Y_go 5 (ok := [am_is h (some 93) 12]) (g := (7, [some (v_r (some 93)), some (v_i x1), l2, l3, l4, l5, l6, l7, l8], [v_i x1, v_r (some 93)], (p_i h 93 0 (0 : Int32)))) rfl).trans ?_
  simp only [am_all]
  all_goals exact cj_d (la_is Lh (o := 93) rfl) (((am_Y_call (j := 312) (na := 2) (ci := 12) (fl := 0) rfl rfl rfl).trans (cj_d ⟨⟨Nat.le_of_ble_eq_true rfl, Nat.le_of_ble_eq_true rfl, Nat.le_of_ble_eq_true rfl, rfl⟩, Or.inr (Or.inr (show (12 : Nat) < 20 ∧ am_is h (some 93) 12 from ⟨by decide, (la_is Lh (o := 93) rfl)⟩))⟩ Iff.rfl)))

theorem b_X12_rank_10 {d : Nat} {Q : Option am_V → am_H → Prop} (h : am_H) (s0 : Int32) (l0 l1 l2 l3 l4 l5 l6 l7 l8 : Option am_V) : ex_ d 321 10 [l0, l1, l2, l3, l4, l5, l6, l7, l8] [v_i s0] h Q ↔ if s0 = 0 then ex_ d 321 17 [l0, l1, some (v_i s0), l3, l4, l5, l6, l7, l8] [] h Q else ex_ d 321 15 [l0, l1, some (v_i s0), l3, l4, l5, l6, l7, l8] [] h Q := by
  unfold ex_
  refine (am_Y_go 3 (ok := []) (g := (if s0 = 0 then 17 else 15, [l0, l1, some (v_i s0), l3, l4, l5, l6, l7, l8], [], h)) rfl).trans ?_
  all_goals exact am_Y_if

theorem b_X12_rank_17 {d : Nat} {Q : Option am_V → am_H → Prop} (h : am_H) (x1 : Int32) (l2 l3 l4 l5 l6 l7 l8 : Option am_V) (Lh : Lay h) : ex_ d 321 17 [some (v_r (some 93)), some (v_i x1), l2, l3, l4, l5, l6, l7, l8] [] h Q ↔ vp_in x1 11 ∧ (if (h_i h 100 (Int32.toNatClampNeg x1)) = 0 then ex_ d 321 28 [some (v_r (some 93)), some (v_i x1), l2, l3, l4, l5, l6, l7, l8] [] h Q else ex_ d 321 26 [some (v_r (some 93)), some (v_i x1), l2, l3, l4, l5, l6, l7, l8] [] h Q) := by
  have e0 : h_r h 93 18 = some 100 := la_r Lh (q := (93, 18, 100)) (by decide)
  unfold ex_
  refine (am_Y_go 5 (ok := [am_is h (some 93) 12, am_ar h ((h_r h 93 18)) 20 x1]) (g := (if (h_i h ((h_r h 93 18).getD 0) (Int32.toNatClampNeg x1)) = 0 then 28 else 26, [some (v_r (some 93)), some (v_i x1), l2, l3, l4, l5, l6, l7, l8], [], h)) rfl).trans ?_
  simp only [e0, Option.getD_some, am_all]
  all_goals exact cj_d (la_is Lh (o := 93) rfl) (cj_k (la_ar Lh (o := 100) rfl) (am_Y_if))

theorem b_X12_rank_15 {d : Nat} {Q : Option am_V → am_H → Prop} (h : am_H) (x2 : Int32) (l0 l1 l3 l4 l5 l6 l7 l8 : Option am_V) : ex_ d 321 15 [l0, l1, some (v_i x2), l3, l4, l5, l6, l7, l8] [] h Q ↔ Q (some (v_i x2)) h := by
  unfold ex_
  refine (am_Y_go 1 (ok := []) (g := (16, [l0, l1, some (v_i x2), l3, l4, l5, l6, l7, l8], [v_i x2], h)) rfl).trans ?_
  all_goals exact ((am_Y_ret rfl rfl rfl).trans (am_r0))

theorem b_X12_rank_28 {d : Nat} {Q : Option am_V → am_H → Prop} (h : am_H) (x1 : Int32) (l2 l3 l4 l5 l6 l7 l8 : Option am_V) (Lh : Lay h) : ex_ (d + 1) 321 28 [some (v_r (some 93)), some (v_i x1), l2, l3, l4, l5, l6, l7, l8] [] h Q ↔ ex_ d 280 0 [some (v_r (some 93)), some (v_i x1), none, none] [] h (fun r h' => ex_ (d + 1) 321 33 [some (v_r (some 93)), some (v_i x1), l2, l3, l4, l5, l6, l7, l8] (r.toList ++ []) h' Q) := by
  unfold ex_
  refine (am_Y_go 2 (ok := []) (g := (30, [some (v_r (some 93)), some (v_i x1), l2, l3, l4, l5, l6, l7, l8], [v_i x1, v_r (some 93)], h)) rfl).trans ?_
  all_goals exact ((am_Y_call (j := 280) (na := 2) (ci := 12) (fl := 0) rfl rfl rfl).trans (cj_d ⟨⟨Nat.le_of_ble_eq_true rfl, Nat.le_of_ble_eq_true rfl, Nat.le_of_ble_eq_true rfl, rfl⟩, Or.inr (Or.inr (show (12 : Nat) < 20 ∧ am_is h (some 93) 12 from ⟨by decide, (la_is Lh (o := 93) rfl)⟩))⟩ Iff.rfl))

theorem b_X12_rank_26 {d : Nat} {Q : Option am_V → am_H → Prop} (h : am_H) (l0 l1 l2 l3 l4 l5 l6 l7 l8 : Option am_V) : ex_ d 321 26 [l0, l1, l2, l3, l4, l5, l6, l7, l8] [] h Q ↔ Q (some (v_i (-1 : Int32))) h := by
  unfold ex_
  refine (am_Y_go 1 (ok := []) (g := (27, [l0, l1, l2, l3, l4, l5, l6, l7, l8], [v_i (-1 : Int32)], h)) rfl).trans ?_
  all_goals exact ((am_Y_ret rfl rfl rfl).trans (am_r0))

theorem b_X12_rank_33 {d : Nat} {Q : Option am_V → am_H → Prop} (h : am_H) (s0 : Int32) (l1 l2 l3 l4 l5 l6 l7 l8 : Option am_V) (Lh : Lay h) : ex_ (d + 1) 321 33 [some (v_r (some 93)), l1, l2, l3, l4, l5, l6, l7, l8] [v_i s0] h Q ↔ ex_ d 319 0 [some (v_r (some 93)), some (v_i s0), none, none, none] [] h (fun r h' => ex_ (d + 1) 321 39 [some (v_r (some 93)), l1, l2, some (v_i s0), l4, l5, l6, l7, l8] (r.toList ++ []) h' Q) := by
  unfold ex_
  refine (am_Y_go 3 (ok := []) (g := (36, [some (v_r (some 93)), l1, l2, some (v_i s0), l4, l5, l6, l7, l8], [v_i s0, v_r (some 93)], h)) rfl).trans ?_
  all_goals exact ((am_Y_call (j := 319) (na := 2) (ci := 12) (fl := 0) rfl rfl rfl).trans (cj_d ⟨⟨Nat.le_of_ble_eq_true rfl, Nat.le_of_ble_eq_true rfl, Nat.le_of_ble_eq_true rfl, rfl⟩, Or.inr (Or.inr (show (12 : Nat) < 20 ∧ am_is h (some 93) 12 from ⟨by decide, (la_is Lh (o := 93) rfl)⟩))⟩ Iff.rfl))

theorem b_X12_rank_39 {d : Nat} {Q : Option am_V → am_H → Prop} (h : am_H) (l0 l1 l2 l3 l4 l5 l6 l7 l8 : Option am_V) : ex_ d 321 39 [l0, l1, l2, l3, l4, l5, l6, l7, l8] [] h Q ↔ ex_ d 321 48 [l0, l1, l2, l3, some (v_i (0 : Int32)), some (v_i (0 : Int32)), some (v_i (0 : Int32)), l7, l8] [] h Q := by
  unfold ex_
  refine (am_Y_go 6 (ok := []) (g := (48, [l0, l1, l2, l3, some (v_i (0 : Int32)), some (v_i (0 : Int32)), some (v_i (0 : Int32)), l7, l8], [], h)) rfl).trans ?_
  all_goals exact Iff.rfl

theorem b_X12_rank_48 {d : Nat} {Q : Option am_V → am_H → Prop} (h : am_H) (x6 : Int32) (x1 : Int32) (l2 l3 l4 l5 l7 l8 : Option am_V) (Lh : Lay h) : ex_ d 321 48 [some (v_r (some 93)), some (v_i x1), l2, l3, l4, l5, some (v_i x6), l7, l8] [] h Q ↔ vp_in x1 11 ∧ (if (h_i h 98 (Int32.toNatClampNeg x1)) ≤ x6 then ex_ d 321 133 [some (v_r (some 93)), some (v_i x1), l2, l3, l4, l5, some (v_i x6), l7, l8] [] h Q else ex_ d 321 59 [some (v_r (some 93)), some (v_i x1), l2, l3, l4, l5, some (v_i x6), l7, l8] [] h Q) := by
  have e0 : h_r h 93 16 = some 98 := la_r Lh (q := (93, 16, 98)) (by decide)
  unfold ex_
  refine (am_Y_go 6 (ok := [am_is h (some 93) 12, am_ar h ((h_r h 93 16)) 20 x1]) (g := (if (h_i h ((h_r h 93 16).getD 0) (Int32.toNatClampNeg x1)) ≤ x6 then 133 else 59, [some (v_r (some 93)), some (v_i x1), l2, l3, l4, l5, some (v_i x6), l7, l8], [], h)) rfl).trans ?_
  simp only [e0, Option.getD_some, am_all]
  all_goals exact cj_d (la_is Lh (o := 93) rfl) (cj_k (la_ar Lh (o := 98) rfl) (am_Y_if))

theorem b_X12_rank_133 {d : Nat} {Q : Option am_V → am_H → Prop} (h : am_H) (x5 : Int32) (l0 l1 l2 l3 l4 l6 l7 l8 : Option am_V) : ex_ d 321 133 [l0, l1, l2, l3, l4, some (v_i x5), l6, l7, l8] [] h Q ↔ Q (some (v_i x5)) h := by
  unfold ex_
  refine (am_Y_go 1 (ok := []) (g := (135, [l0, l1, l2, l3, l4, some (v_i x5), l6, l7, l8], [v_i x5], h)) rfl).trans ?_
  all_goals exact ((am_Y_ret rfl rfl rfl).trans (am_r0))

theorem b_X12_rank_59 {d : Nat} {Q : Option am_V → am_H → Prop} (h : am_H) (x1 : Int32) (x6 : Int32) (l2 l3 l4 l5 l7 l8 : Option am_V) (Lh : Lay h) : ex_ d 321 59 [some (v_r (some 93)), some (v_i x1), l2, l3, l4, l5, some (v_i x6), l7, l8] [] h Q ↔ vp_in (((11 : Int32) * x1) + x6) 121 ∧ ex_ d 321 76 [some (v_r (some 93)), some (v_i x1), l2, l3, l4, l5, some (v_i x6), some (v_i (h_i h 99 (Int32.toNatClampNeg (((11 : Int32) * x1) + x6)))), some (v_i (0 : Int32))] [] h Q := by
  have e0 : h_r h 93 17 = some 99 := la_r Lh (q := (93, 17, 99)) (by decide)
  unfold ex_
  refine (am_Y_go 11 (ok := [am_is h (some 93) 12, am_ar h ((h_r h 93 17)) 20 (((11 : Int32) * x1) + x6)]) (g := (76, [some (v_r (some 93)), some (v_i x1), l2, l3, l4, l5, some (v_i x6), some (v_i (h_i h ((h_r h 93 17).getD 0) (Int32.toNatClampNeg (((11 : Int32) * x1) + x6)))), some (v_i (0 : Int32))], [], h)) rfl).trans ?_
  simp only [e0, Option.getD_some, am_all]
  all_goals exact cj_d (la_is Lh (o := 93) rfl) (cj_k (la_ar Lh (o := 99) rfl) (Iff.rfl))

theorem b_X12_rank_76 {d : Nat} {Q : Option am_V → am_H → Prop} (h : am_H) (x8 : Int32) (x7 : Int32) (l0 l1 l2 l3 l4 l5 l6 : Option am_V) : ex_ d 321 76 [l0, l1, l2, l3, l4, l5, l6, some (v_i x7), some (v_i x8)] [] h Q ↔ if x7 ≤ x8 then ex_ d 321 118 [l0, l1, l2, l3, l4, l5, l6, some (v_i x7), some (v_i x8)] [] h Q else ex_ d 321 83 [l0, l1, l2, l3, l4, l5, l6, some (v_i x7), some (v_i x8)] [] h Q := by
  unfold ex_
  refine (am_Y_go 3 (ok := []) (g := (if x7 ≤ x8 then 118 else 83, [l0, l1, l2, l3, l4, l5, l6, some (v_i x7), some (v_i x8)], [], h)) rfl).trans ?_
  all_goals exact am_Y_if

theorem b_X12_rank_118 {d : Nat} {Q : Option am_V → am_H → Prop} (h : am_H) (x4 : Int32) (x7 : Int32) (x6 : Int32) (l0 l1 l2 l3 l5 l8 : Option am_V) : ex_ d 321 118 [l0, l1, l2, l3, some (v_i x4), l5, some (v_i x6), some (v_i x7), l8] [] h Q ↔ ex_ d 321 48 [l0, l1, l2, l3, some (v_i (x4 ||| ((1 : Int32) <<< (x7 &&& 31)))), l5, some (v_i (x6 + (1 : Int32))), some (v_i x7), l8] [] h Q := by
  unfold ex_
  refine (am_Y_go 8 (ok := []) (g := (48, [l0, l1, l2, l3, some (v_i (x4 ||| ((1 : Int32) <<< (x7 &&& 31)))), l5, some (v_i (x6 + (1 : Int32))), some (v_i x7), l8], [], h)) rfl).trans ?_
  all_goals exact Iff.rfl

theorem b_X12_rank_83 {d : Nat} {Q : Option am_V → am_H → Prop} (h : am_H) (x8 : Int32) (x4 : Int32) (x3 : Int32) (l1 l2 l5 l6 l7 : Option am_V) (Lh : Lay h) : ex_ (d + 1) 321 83 [some (v_r (some 93)), l1, l2, some (v_i x3), some (v_i x4), l5, l6, l7, some (v_i x8)] [] h Q ↔ ex_ d 318 0 [some (v_r (some 93)), some (v_i x8), some (v_i x4), some (v_i x3), none] [] h (fun r h' => ex_ (d + 1) 321 92 [some (v_r (some 93)), l1, l2, some (v_i x3), some (v_i x4), l5, l6, l7, some (v_i x8)] (r.toList ++ []) h' Q) := by
  unfold ex_
  refine (am_Y_go 4 (ok := []) (g := (89, [some (v_r (some 93)), l1, l2, some (v_i x3), some (v_i x4), l5, l6, l7, some (v_i x8)], [v_i x3, v_i x4, v_i x8, v_r (some 93)], h)) rfl).trans ?_
  all_goals exact ((am_Y_call (j := 318) (na := 4) (ci := 12) (fl := 0) rfl rfl rfl).trans (cj_d ⟨⟨Nat.le_of_ble_eq_true rfl, Nat.le_of_ble_eq_true rfl, Nat.le_of_ble_eq_true rfl, rfl⟩, Or.inr (Or.inr (show (12 : Nat) < 20 ∧ am_is h (some 93) 12 from ⟨by decide, (la_is Lh (o := 93) rfl)⟩))⟩ Iff.rfl))

theorem b_X12_rank_92 {d : Nat} {Q : Option am_V → am_H → Prop} (h : am_H) (s0 : Int32) (l0 l1 l2 l3 l4 l5 l6 l7 l8 : Option am_V) : ex_ d 321 92 [l0, l1, l2, l3, l4, l5, l6, l7, l8] [v_i s0] h Q ↔ if s0 = 0 then ex_ d 321 112 [l0, l1, l2, l3, l4, l5, l6, l7, l8] [] h Q else ex_ d 321 95 [l0, l1, l2, l3, l4, l5, l6, l7, l8] [] h Q := by
  unfold ex_
  refine (am_Y_go 1 (ok := []) (g := (if s0 = 0 then 112 else 95, [l0, l1, l2, l3, l4, l5, l6, l7, l8], [], h)) rfl).trans ?_
  all_goals exact am_Y_if

theorem b_X12_rank_112 {d : Nat} {Q : Option am_V → am_H → Prop} (h : am_H) (x8 : Int32) (l0 l1 l2 l3 l4 l5 l6 l7 : Option am_V) : ex_ d 321 112 [l0, l1, l2, l3, l4, l5, l6, l7, some (v_i x8)] [] h Q ↔ ex_ d 321 76 [l0, l1, l2, l3, l4, l5, l6, l7, some (v_i (x8 + (1 : Int32)))] [] h Q := by
  unfold ex_
  refine (am_Y_go 2 (ok := []) (g := (76, [l0, l1, l2, l3, l4, l5, l6, l7, some (v_i (x8 + (1 : Int32)))], [], h)) rfl).trans ?_
  all_goals exact Iff.rfl

theorem b_X12_rank_95 {d : Nat} {Q : Option am_V → am_H → Prop} (h : am_H) (x5 : Int32) (x4 : Int32) (x8 : Int32) (l1 l2 l3 l6 l7 : Option am_V) (Lh : Lay h) : ex_ d 321 95 [some (v_r (some 93)), l1, l2, l3, some (v_i x4), some (v_i x5), l6, l7, some (v_i x8)] [] h Q ↔ vp_in (x4 ||| ((1 : Int32) <<< (x8 &&& 31))) 1024 ∧ ex_ d 321 76 [some (v_r (some 93)), l1, l2, l3, some (v_i x4), some (v_i (x5 + (h_i h 108 (Int32.toNatClampNeg (x4 ||| ((1 : Int32) <<< (x8 &&& 31))))))), l6, l7, some (v_i (x8 + (1 : Int32)))] [] h Q := by
  have e0 : h_r h 93 29 = some 108 := la_r Lh (q := (93, 29, 108)) (by decide)
  unfold ex_
  refine (am_Y_go 13 (ok := [am_is h (some 93) 12, am_ar h ((h_r h 93 29)) 20 (x4 ||| ((1 : Int32) <<< (x8 &&& 31)))]) (g := (76, [some (v_r (some 93)), l1, l2, l3, some (v_i x4), some (v_i (x5 + (h_i h ((h_r h 93 29).getD 0) (Int32.toNatClampNeg (x4 ||| ((1 : Int32) <<< (x8 &&& 31))))))), l6, l7, some (v_i (x8 + (1 : Int32)))], [], h)) rfl).trans ?_
  simp only [e0, Option.getD_some, am_all]
  all_goals exact cj_d (la_is Lh (o := 93) rfl) (cj_k (la_ar Lh (o := 108) rfl) (Iff.rfl))

theorem b_X12_goesDeep_0 {d : Nat} {Q : Option am_V → am_H → Prop} (h : am_H) (x1 : Int32) (l2 : Option am_V) (Lh : Lay h) : ex_ d 322 0 [some (v_r (some 93)), some (v_i x1), l2] [] h Q ↔ vp_in (h_i h 93 31) 4096 ∧ ex_ d 322 22 [some (v_r (some 93)), some (v_i x1), some (v_i (0 : Int32))] [] (p_i (p_i h 109 (Int32.toNatClampNeg (h_i h 93 31)) x1) 93 31 ((h_i (p_i h 109 (Int32.toNatClampNeg (h_i h 93 31)) x1) 93 31) + (1 : Int32))) Q := by
  have e0 : h_r h 93 30 = some 109 := la_r Lh (q := (93, 30, 109)) (by decide)
  unfold ex_
  refine (am_Y_go 14 (ok := [am_is h (some 93) 12, am_is h (some 93) 12, am_ar h ((h_r h 93 30)) 20 (h_i h 93 31), am_is h (some 93) 12, am_is h (some 93) 12]) (g := (22, [some (v_r (some 93)), some (v_i x1), some (v_i (0 : Int32))], [], (p_i (p_i h ((h_r h 93 30).getD 0) (Int32.toNatClampNeg (h_i h 93 31)) x1) 93 31 ((h_i (p_i h ((h_r h 93 30).getD 0) (Int32.toNatClampNeg (h_i h 93 31)) x1) 93 31) + (1 : Int32))))) rfl).trans ?_
  simp only [e0, Option.getD_some, am_all]
  all_goals exact cj_d (la_is Lh (o := 93) rfl) (cj_d (la_is Lh (o := 93) rfl) (cj_k (la_ar Lh (o := 109) rfl) (cj_d (la_is Lh (o := 93) rfl) (cj_d (la_is Lh (o := 93) rfl) (Iff.rfl)))))

theorem b_X12_goesDeep_22 {d : Nat} {Q : Option am_V → am_H → Prop} (h : am_H) (x2 : Int32) (x1 : Int32) (Lh : Lay h) : ex_ d 322 22 [some (v_r (some 93)), some (v_i x1), some (v_i x2)] [] h Q ↔ vp_in ((8 : Int32) + x1) 7053 ∧ (if (h_i h 94 (Int32.toNatClampNeg ((8 : Int32) + x1))) ≤ x2 then ex_ d 322 51 [some (v_r (some 93)), some (v_i x1), some (v_i x2)] [] h Q else ex_ d 322 35 [some (v_r (some 93)), some (v_i x1), some (v_i x2)] [] h Q) := by
  have e0 : h_r h 93 1 = some 94 := la_r Lh (q := (93, 1, 94)) (by decide)
  unfold ex_
  refine (am_Y_go 8 (ok := [am_is h (some 93) 12, am_ar h ((h_r h 93 1)) 20 ((8 : Int32) + x1)]) (g := (if (h_i h ((h_r h 93 1).getD 0) (Int32.toNatClampNeg ((8 : Int32) + x1))) ≤ x2 then 51 else 35, [some (v_r (some 93)), some (v_i x1), some (v_i x2)], [], h)) rfl).trans ?_
  simp only [e0, Option.getD_some, am_all]
  all_goals exact cj_d (la_is Lh (o := 93) rfl) (cj_k (la_ar Lh (o := 94) rfl) (am_Y_if))

theorem b_X12_goesDeep_51 {d : Nat} {Q : Option am_V → am_H → Prop} (h : am_H) (l0 l1 l2 : Option am_V) : ex_ d 322 51 [l0, l1, l2] [] h Q ↔ Q (none) h := by
  unfold ex_
  exact ((am_Y_ret rfl rfl rfl).trans (am_rz rfl))

theorem b_X12_goesDeep_35 {d : Nat} {Q : Option am_V → am_H → Prop} (h : am_H) (x1 : Int32) (x2 : Int32) (Lh : Lay h) : ex_ (d + 1) 322 35 [some (v_r (some 93)), some (v_i x1), some (v_i x2)] [] h Q ↔ ex_ d 264 0 [some (v_r (some 93)), some (v_i x1), some (v_i x2)] [] h (fun r h' => ex_ (d + 1) 322 42 [some (v_r (some 93)), some (v_i x1), some (v_i x2)] (r.toList ++ [v_r (some 93)]) h' Q) := by
  unfold ex_
  refine (am_Y_go 4 (ok := []) (g := (39, [some (v_r (some 93)), some (v_i x1), some (v_i x2)], [v_i x2, v_i x1, v_r (some 93), v_r (some 93)], h)) rfl).trans ?_
  all_goals exact ((am_Y_call (j := 264) (na := 3) (ci := 12) (fl := 0) rfl rfl rfl).trans (cj_d ⟨⟨Nat.le_of_ble_eq_true rfl, Nat.le_of_ble_eq_true rfl, Nat.le_of_ble_eq_true rfl, rfl⟩, Or.inr (Or.inr (show (12 : Nat) < 20 ∧ am_is h (some 93) 12 from ⟨by decide, (la_is Lh (o := 93) rfl)⟩))⟩ Iff.rfl))

theorem b_X12_goesDeep_42 {d : Nat} {Q : Option am_V → am_H → Prop} (h : am_H) (s0 : Int32) (l0 l1 l2 : Option am_V) (Lh : Lay h) : ex_ (d + 1) 322 42 [l0, l1, l2] [v_i s0, v_r (some 93)] h Q ↔ ex_ d 322 0 [some (v_r (some 93)), some (v_i s0), none] [] h (fun r h' => ex_ (d + 1) 322 45 [l0, l1, l2] (r.toList ++ []) h' Q) := by
  unfold ex_
  exact ((am_Y_call (j := 322) (na := 2) (ci := 12) (fl := 0) rfl rfl rfl).trans (cj_d ⟨⟨Nat.le_of_ble_eq_true rfl, Nat.le_of_ble_eq_true rfl, Nat.le_of_ble_eq_true rfl, rfl⟩, Or.inr (Or.inr (show (12 : Nat) < 20 ∧ am_is h (some 93) 12 from ⟨by decide, (la_is Lh (o := 93) rfl)⟩))⟩ Iff.rfl))

theorem b_X12_goesDeep_45 {d : Nat} {Q : Option am_V → am_H → Prop} (h : am_H) (x2 : Int32) (l0 l1 : Option am_V) : ex_ d 322 45 [l0, l1, some (v_i x2)] [] h Q ↔ ex_ d 322 22 [l0, l1, some (v_i (x2 + (1 : Int32)))] [] h Q := by
  unfold ex_
  refine (am_Y_go 2 (ok := []) (g := (22, [l0, l1, some (v_i (x2 + (1 : Int32)))], [], h)) rfl).trans ?_
  all_goals exact Iff.rfl

theorem b_X12_placeOld_0 {d : Nat} {Q : Option am_V → am_H → Prop} (h : am_H) (l0 l1 l2 : Option am_V) : ex_ d 323 0 [l0, l1, l2] [] h Q ↔ ex_ d 323 2 [l0, l1, some (v_i (0 : Int32))] [] h Q := by
  unfold ex_
  refine (am_Y_go 2 (ok := []) (g := (2, [l0, l1, some (v_i (0 : Int32))], [], h)) rfl).trans ?_
  all_goals exact Iff.rfl

theorem b_X12_placeOld_2 {d : Nat} {Q : Option am_V → am_H → Prop} (h : am_H) (x2 : Int32) (l1 : Option am_V) (Lh : Lay h) : ex_ d 323 2 [some (v_r (some 93)), l1, some (v_i x2)] [] h Q ↔ if (h_i h 93 31) ≤ x2 then ex_ d 323 28 [some (v_r (some 93)), l1, some (v_i x2)] [] h Q else ex_ d 323 10 [some (v_r (some 93)), l1, some (v_i x2)] [] h Q := by
  unfold ex_
  refine (am_Y_go 4 (ok := [am_is h (some 93) 12]) (g := (if (h_i h 93 31) ≤ x2 then 28 else 10, [some (v_r (some 93)), l1, some (v_i x2)], [], h)) rfl).trans ?_
  simp only [am_all]
  all_goals exact cj_d (la_is Lh (o := 93) rfl) (am_Y_if)

theorem b_X12_placeOld_28 {d : Nat} {Q : Option am_V → am_H → Prop} (h : am_H) (l0 l1 l2 : Option am_V) : ex_ d 323 28 [l0, l1, l2] [] h Q ↔ Q (some (v_i (-1 : Int32))) h := by
  unfold ex_
  refine (am_Y_go 1 (ok := []) (g := (29, [l0, l1, l2], [v_i (-1 : Int32)], h)) rfl).trans ?_
  all_goals exact ((am_Y_ret rfl rfl rfl).trans (am_r0))

theorem b_X12_placeOld_10 {d : Nat} {Q : Option am_V → am_H → Prop} (h : am_H) (x2 : Int32) (x1 : Int32) (Lh : Lay h) : ex_ d 323 10 [some (v_r (some 93)), some (v_i x1), some (v_i x2)] [] h Q ↔ vp_in x2 4096 ∧ (if ¬ (h_i h 109 (Int32.toNatClampNeg x2)) = x1 then ex_ d 323 22 [some (v_r (some 93)), some (v_i x1), some (v_i x2)] [] h Q else ex_ d 323 20 [some (v_r (some 93)), some (v_i x1), some (v_i x2)] [] h Q) := by
  have e0 : h_r h 93 30 = some 109 := la_r Lh (q := (93, 30, 109)) (by decide)
  unfold ex_
  refine (am_Y_go 6 (ok := [am_is h (some 93) 12, am_ar h ((h_r h 93 30)) 20 x2]) (g := (if ¬ (h_i h ((h_r h 93 30).getD 0) (Int32.toNatClampNeg x2)) = x1 then 22 else 20, [some (v_r (some 93)), some (v_i x1), some (v_i x2)], [], h)) rfl).trans ?_
  simp only [e0, Option.getD_some, am_all]
  all_goals exact cj_d (la_is Lh (o := 93) rfl) (cj_k (la_ar Lh (o := 109) rfl) (am_Y_if))

theorem b_X12_placeOld_22 {d : Nat} {Q : Option am_V → am_H → Prop} (h : am_H) (x2 : Int32) (l0 l1 : Option am_V) : ex_ d 323 22 [l0, l1, some (v_i x2)] [] h Q ↔ ex_ d 323 2 [l0, l1, some (v_i (x2 + (1 : Int32)))] [] h Q := by
  unfold ex_
  refine (am_Y_go 2 (ok := []) (g := (2, [l0, l1, some (v_i (x2 + (1 : Int32)))], [], h)) rfl).trans ?_
  all_goals exact Iff.rfl

theorem b_X12_placeOld_20 {d : Nat} {Q : Option am_V → am_H → Prop} (h : am_H) (x2 : Int32) (l0 l1 : Option am_V) : ex_ d 323 20 [l0, l1, some (v_i x2)] [] h Q ↔ Q (some (v_i x2)) h := by
  unfold ex_
  refine (am_Y_go 1 (ok := []) (g := (21, [l0, l1, some (v_i x2)], [v_i x2], h)) rfl).trans ?_
  all_goals exact ((am_Y_ret rfl rfl rfl).trans (am_r0))

theorem b_X12_laysBroad_0 {d : Nat} {Q : Option am_V → am_H → Prop} (h : am_H) (x1 : Int32) (l2 l3 l4 l5 : Option am_V) (Lh : Lay h) : ex_ d 324 0 [some (v_r (some 93)), some (v_i x1), l2, l3, l4, l5] [] h Q ↔ vp_in (0 : Int32) 4096 ∧ ex_ d 324 18 [some (v_r (some 93)), some (v_i x1), some (v_i ((1 : Int32) <<< (x1 &&& 31))), some (v_i (0 : Int32)), l4, l5] [] (p_i (p_i h 109 (Int32.toNatClampNeg (0 : Int32)) x1) 93 31 (1 : Int32)) Q := by
  have e0 : h_r h 93 30 = some 109 := la_r Lh (q := (93, 30, 109)) (by decide)
  unfold ex_
  refine (am_Y_go 14 (ok := [am_is h (some 93) 12, am_ar h ((h_r h 93 30)) 20 (0 : Int32), am_is h (some 93) 12]) (g := (18, [some (v_r (some 93)), some (v_i x1), some (v_i ((1 : Int32) <<< (x1 &&& 31))), some (v_i (0 : Int32)), l4, l5], [], (p_i (p_i h ((h_r h 93 30).getD 0) (Int32.toNatClampNeg (0 : Int32)) x1) 93 31 (1 : Int32)))) rfl).trans ?_
  simp only [e0, Option.getD_some, am_all]
  all_goals exact cj_d (la_is Lh (o := 93) rfl) (cj_k (la_ar Lh (o := 109) rfl) (cj_d (la_is Lh (o := 93) rfl) (Iff.rfl)))

theorem b_X12_laysBroad_18 {d : Nat} {Q : Option am_V → am_H → Prop} (h : am_H) (x3 : Int32) (l1 l2 l4 l5 : Option am_V) (Lh : Lay h) : ex_ d 324 18 [some (v_r (some 93)), l1, l2, some (v_i x3), l4, l5] [] h Q ↔ if (h_i h 93 31) ≤ x3 then ex_ d 324 115 [some (v_r (some 93)), l1, l2, some (v_i x3), l4, l5] [] h Q else ex_ d 324 26 [some (v_r (some 93)), l1, l2, some (v_i x3), l4, l5] [] h Q := by
  unfold ex_
  refine (am_Y_go 4 (ok := [am_is h (some 93) 12]) (g := (if (h_i h 93 31) ≤ x3 then 115 else 26, [some (v_r (some 93)), l1, l2, some (v_i x3), l4, l5], [], h)) rfl).trans ?_
  simp only [am_all]
  all_goals exact cj_d (la_is Lh (o := 93) rfl) (am_Y_if)

theorem b_X12_laysBroad_115 {d : Nat} {Q : Option am_V → am_H → Prop} (h : am_H) (l0 l1 l2 l3 l4 l5 : Option am_V) : ex_ d 324 115 [l0, l1, l2, l3, l4, l5] [] h Q ↔ Q (none) h := by
  unfold ex_
  exact ((am_Y_ret rfl rfl rfl).trans (am_rz rfl))

theorem b_X12_laysBroad_26 {d : Nat} {Q : Option am_V → am_H → Prop} (h : am_H) (l0 l1 l2 l3 l4 l5 : Option am_V) : ex_ d 324 26 [l0, l1, l2, l3, l4, l5] [] h Q ↔ ex_ d 324 29 [l0, l1, l2, l3, some (v_i (0 : Int32)), l5] [] h Q := by
  unfold ex_
  refine (am_Y_go 2 (ok := []) (g := (29, [l0, l1, l2, l3, some (v_i (0 : Int32)), l5], [], h)) rfl).trans ?_
  all_goals exact Iff.rfl

theorem b_X12_laysBroad_29 {d : Nat} {Q : Option am_V → am_H → Prop} (h : am_H) (x4 : Int32) (x3 : Int32) (l1 l2 l5 : Option am_V) (Lh : Lay h) : ex_ d 324 29 [some (v_r (some 93)), l1, l2, some (v_i x3), some (v_i x4), l5] [] h Q ↔ vp_in x3 4096 ∧ vp_in ((8 : Int32) + (h_i h 109 (Int32.toNatClampNeg x3))) 7053 ∧ (if (h_i h 94 (Int32.toNatClampNeg ((8 : Int32) + (h_i h 109 (Int32.toNatClampNeg x3))))) ≤ x4 then ex_ d 324 109 [some (v_r (some 93)), l1, l2, some (v_i x3), some (v_i x4), l5] [] h Q else ex_ d 324 48 [some (v_r (some 93)), l1, l2, some (v_i x3), some (v_i x4), l5] [] h Q) := by
  have e0 : h_r h 93 1 = some 94 := la_r Lh (q := (93, 1, 94)) (by decide)
  have e1 : h_r h 93 30 = some 109 := la_r Lh (q := (93, 30, 109)) (by decide)
  unfold ex_
  refine (am_Y_go 11 (ok := [am_is h (some 93) 12, am_is h (some 93) 12, am_ar h ((h_r h 93 30)) 20 x3, am_ar h ((h_r h 93 1)) 20 ((8 : Int32) + (h_i h ((h_r h 93 30).getD 0) (Int32.toNatClampNeg x3)))]) (g := (if (h_i h ((h_r h 93 1).getD 0) (Int32.toNatClampNeg ((8 : Int32) + (h_i h ((h_r h 93 30).getD 0) (Int32.toNatClampNeg x3))))) ≤ x4 then 109 else 48, [some (v_r (some 93)), l1, l2, some (v_i x3), some (v_i x4), l5], [], h)) rfl).trans ?_
  simp only [e0, e1, Option.getD_some, am_all]
  all_goals exact cj_d (la_is Lh (o := 93) rfl) (cj_d (la_is Lh (o := 93) rfl) (cj_k (la_ar Lh (o := 109) rfl) (cj_k (la_ar Lh (o := 94) rfl) (am_Y_if))))

theorem b_X12_laysBroad_109 {d : Nat} {Q : Option am_V → am_H → Prop} (h : am_H) (x3 : Int32) (l0 l1 l2 l4 l5 : Option am_V) : ex_ d 324 109 [l0, l1, l2, some (v_i x3), l4, l5] [] h Q ↔ ex_ d 324 18 [l0, l1, l2, some (v_i (x3 + (1 : Int32))), l4, l5] [] h Q := by
  unfold ex_
  refine (am_Y_go 2 (ok := []) (g := (18, [l0, l1, l2, some (v_i (x3 + (1 : Int32))), l4, l5], [], h)) rfl).trans ?_
  all_goals exact Iff.rfl

theorem b_X12_laysBroad_48 {d : Nat} {Q : Option am_V → am_H → Prop} (h : am_H) (x3 : Int32) (x4 : Int32) (l1 l2 l5 : Option am_V) (Lh : Lay h) : ex_ (d + 1) 324 48 [some (v_r (some 93)), l1, l2, some (v_i x3), some (v_i x4), l5] [] h Q ↔ vp_in x3 4096 ∧ ex_ d 264 0 [some (v_r (some 93)), some (v_i (h_i h 109 (Int32.toNatClampNeg x3))), some (v_i x4)] [] h (fun r h' => ex_ (d + 1) 324 60 [some (v_r (some 93)), l1, l2, some (v_i x3), some (v_i x4), l5] (r.toList ++ []) h' Q) := by
  have e0 : h_r h 93 30 = some 109 := la_r Lh (q := (93, 30, 109)) (by decide)
  unfold ex_
  refine (am_Y_go 6 (ok := [am_is h (some 93) 12, am_ar h ((h_r h 93 30)) 20 x3]) (g := (57, [some (v_r (some 93)), l1, l2, some (v_i x3), some (v_i x4), l5], [v_i x4, v_i (h_i h ((h_r h 93 30).getD 0) (Int32.toNatClampNeg x3)), v_r (some 93)], h)) rfl).trans ?_
  simp only [e0, Option.getD_some, am_all]
  all_goals exact cj_d (la_is Lh (o := 93) rfl) (cj_k (la_ar Lh (o := 109) rfl) (((am_Y_call (j := 264) (na := 3) (ci := 12) (fl := 0) rfl rfl rfl).trans (cj_d ⟨⟨Nat.le_of_ble_eq_true rfl, Nat.le_of_ble_eq_true rfl, Nat.le_of_ble_eq_true rfl, rfl⟩, Or.inr (Or.inr (show (12 : Nat) < 20 ∧ am_is h (some 93) 12 from ⟨by decide, (la_is Lh (o := 93) rfl)⟩))⟩ Iff.rfl))))

theorem b_X12_laysBroad_60 {d : Nat} {Q : Option am_V → am_H → Prop} (h : am_H) (s0 : Int32) (x2 : Int32) (l0 l1 l3 l4 l5 : Option am_V) : ex_ (d + 1) 324 60 [l0, l1, some (v_i x2), l3, l4, l5] [v_i s0] h Q ↔ ex_ d 242 0 [some (v_l (Int32.toInt64 x2)), none, some (v_i s0)] [] h (fun r h' => ex_ (d + 1) 324 69 [l0, l1, some (v_i x2), l3, l4, some (v_i s0)] (r.toList ++ []) h' Q) := by
  unfold ex_
  refine (am_Y_go 4 (ok := []) (g := (66, [l0, l1, some (v_i x2), l3, l4, some (v_i s0)], [v_i s0, v_l (Int32.toInt64 x2)], h)) rfl).trans ?_
  all_goals exact ((am_Y_call (j := 242) (na := 2) (ci := 12) (fl := 2) rfl rfl rfl).trans (cj_d ⟨⟨Nat.le_of_ble_eq_true rfl, Nat.le_of_ble_eq_true rfl, Nat.le_of_ble_eq_true rfl, rfl⟩, Or.inl rfl⟩ Iff.rfl))

theorem b_X12_laysBroad_69 {d : Nat} {Q : Option am_V → am_H → Prop} (h : am_H) (s0 : Int32) (l0 l1 l2 l3 l4 l5 : Option am_V) : ex_ d 324 69 [l0, l1, l2, l3, l4, l5] [v_i s0] h Q ↔ if s0 = 0 then ex_ d 324 75 [l0, l1, l2, l3, l4, l5] [] h Q else ex_ d 324 72 [l0, l1, l2, l3, l4, l5] [] h Q := by
  unfold ex_
  refine (am_Y_go 1 (ok := []) (g := (if s0 = 0 then 75 else 72, [l0, l1, l2, l3, l4, l5], [], h)) rfl).trans ?_
  all_goals exact am_Y_if

theorem b_X12_laysBroad_75 {d : Nat} {Q : Option am_V → am_H → Prop} (h : am_H) (x2 : Int32) (x5 : Int32) (x4 : Int32) (l1 l3 : Option am_V) (Lh : Lay h) : ex_ d 324 75 [some (v_r (some 93)), l1, some (v_i x2), l3, some (v_i x4), some (v_i x5)] [] h Q ↔ vp_in (h_i h 93 31) 4096 ∧ ex_ d 324 29 [some (v_r (some 93)), l1, some (v_i (x2 ||| ((1 : Int32) <<< (x5 &&& 31)))), l3, some (v_i (x4 + (1 : Int32))), some (v_i x5)] [] (p_i (p_i h 109 (Int32.toNatClampNeg (h_i h 93 31)) x5) 93 31 ((h_i (p_i h 109 (Int32.toNatClampNeg (h_i h 93 31)) x5) 93 31) + (1 : Int32))) Q := by
  have e0 : h_r h 93 30 = some 109 := la_r Lh (q := (93, 30, 109)) (by decide)
  unfold ex_
  refine (am_Y_go 20 (ok := [am_is h (some 93) 12, am_is h (some 93) 12, am_ar h ((h_r h 93 30)) 20 (h_i h 93 31), am_is h (some 93) 12, am_is h (some 93) 12]) (g := (29, [some (v_r (some 93)), l1, some (v_i (x2 ||| ((1 : Int32) <<< (x5 &&& 31)))), l3, some (v_i (x4 + (1 : Int32))), some (v_i x5)], [], (p_i (p_i h ((h_r h 93 30).getD 0) (Int32.toNatClampNeg (h_i h 93 31)) x5) 93 31 ((h_i (p_i h ((h_r h 93 30).getD 0) (Int32.toNatClampNeg (h_i h 93 31)) x5) 93 31) + (1 : Int32))))) rfl).trans ?_
  simp only [e0, Option.getD_some, am_all]
  all_goals exact cj_d (la_is Lh (o := 93) rfl) (cj_d (la_is Lh (o := 93) rfl) (cj_k (la_ar Lh (o := 109) rfl) (cj_d (la_is Lh (o := 93) rfl) (cj_d (la_is Lh (o := 93) rfl) (Iff.rfl)))))

theorem b_X12_laysBroad_72 {d : Nat} {Q : Option am_V → am_H → Prop} (h : am_H) (x4 : Int32) (l0 l1 l2 l3 l5 : Option am_V) : ex_ d 324 72 [l0, l1, l2, l3, some (v_i x4), l5] [] h Q ↔ ex_ d 324 29 [l0, l1, l2, l3, some (v_i (x4 + (1 : Int32))), l5] [] h Q := by
  unfold ex_
  refine (am_Y_go 3 (ok := []) (g := (29, [l0, l1, l2, l3, some (v_i (x4 + (1 : Int32))), l5], [], h)) rfl).trans ?_
  all_goals exact Iff.rfl

theorem b_X12_laysOld_0 {d : Nat} {Q : Option am_V → am_H → Prop} (h : am_H) (x2 : Int32) (l1 l3 l4 l5 l6 : Option am_V) (Lh : Lay h) : ex_ d 325 0 [some (v_r (some 93)), l1, some (v_i x2), l3, l4, l5, l6] [] h Q ↔ if ¬ x2 = (3 : Int32) then ex_ d 325 16 [some (v_r (some 93)), l1, some (v_i x2), l3, l4, l5, l6] [] (p_i h 93 31 (0 : Int32)) Q else ex_ d 325 10 [some (v_r (some 93)), l1, some (v_i x2), l3, l4, l5, l6] [] (p_i h 93 31 (0 : Int32)) Q := by
  unfold ex_
  refine (am_Y_go 6 (ok := [am_is h (some 93) 12]) (g := (if ¬ x2 = (3 : Int32) then 16 else 10, [some (v_r (some 93)), l1, some (v_i x2), l3, l4, l5, l6], [], (p_i h 93 31 (0 : Int32)))) rfl).trans ?_
  simp only [am_all]
  all_goals exact cj_d (la_is Lh (o := 93) rfl) (am_Y_if)

theorem b_X12_laysOld_16 {d : Nat} {Q : Option am_V → am_H → Prop} (h : am_H) (x1 : Int32) (l2 l3 l4 l5 l6 : Option am_V) (Lh : Lay h) : ex_ (d + 1) 325 16 [some (v_r (some 93)), some (v_i x1), l2, l3, l4, l5, l6] [] h Q ↔ ex_ d 322 0 [some (v_r (some 93)), some (v_i x1), none] [] h (fun r h' => ex_ (d + 1) 325 21 [some (v_r (some 93)), some (v_i x1), l2, l3, l4, l5, l6] (r.toList ++ []) h' Q) := by
  unfold ex_
  refine (am_Y_go 2 (ok := []) (g := (18, [some (v_r (some 93)), some (v_i x1), l2, l3, l4, l5, l6], [v_i x1, v_r (some 93)], h)) rfl).trans ?_
  all_goals exact ((am_Y_call (j := 322) (na := 2) (ci := 12) (fl := 0) rfl rfl rfl).trans (cj_d ⟨⟨Nat.le_of_ble_eq_true rfl, Nat.le_of_ble_eq_true rfl, Nat.le_of_ble_eq_true rfl, rfl⟩, Or.inr (Or.inr (show (12 : Nat) < 20 ∧ am_is h (some 93) 12 from ⟨by decide, (la_is Lh (o := 93) rfl)⟩))⟩ Iff.rfl))

theorem b_X12_laysOld_10 {d : Nat} {Q : Option am_V → am_H → Prop} (h : am_H) (x1 : Int32) (l2 l3 l4 l5 l6 : Option am_V) (Lh : Lay h) : ex_ (d + 1) 325 10 [some (v_r (some 93)), some (v_i x1), l2, l3, l4, l5, l6] [] h Q ↔ ex_ d 324 0 [some (v_r (some 93)), some (v_i x1), none, none, none, none] [] h (fun r h' => ex_ (d + 1) 325 15 [some (v_r (some 93)), some (v_i x1), l2, l3, l4, l5, l6] (r.toList ++ []) h' Q) := by
  unfold ex_
  refine (am_Y_go 2 (ok := []) (g := (12, [some (v_r (some 93)), some (v_i x1), l2, l3, l4, l5, l6], [v_i x1, v_r (some 93)], h)) rfl).trans ?_
  all_goals exact ((am_Y_call (j := 324) (na := 2) (ci := 12) (fl := 0) rfl rfl rfl).trans (cj_d ⟨⟨Nat.le_of_ble_eq_true rfl, Nat.le_of_ble_eq_true rfl, Nat.le_of_ble_eq_true rfl, rfl⟩, Or.inr (Or.inr (show (12 : Nat) < 20 ∧ am_is h (some 93) 12 from ⟨by decide, (la_is Lh (o := 93) rfl)⟩))⟩ Iff.rfl))

theorem b_X12_laysOld_21 {d : Nat} {Q : Option am_V → am_H → Prop} (h : am_H) (x2 : Int32) (l1 l3 l4 l5 l6 : Option am_V) (Lh : Lay h) : ex_ d 325 21 [some (v_r (some 93)), l1, some (v_i x2), l3, l4, l5, l6] [] h Q ↔ if ¬ x2 = (1 : Int32) then ex_ d 325 114 [some (v_r (some 93)), l1, some (v_i x2), some (v_i (h_i h 93 31)), some (v_i (0 : Int32)), l5, l6] [] h Q else ex_ d 325 34 [some (v_r (some 93)), l1, some (v_i x2), some (v_i (h_i h 93 31)), some (v_i (0 : Int32)), l5, l6] [] h Q := by
  unfold ex_
  refine (am_Y_go 8 (ok := [am_is h (some 93) 12]) (g := (if ¬ x2 = (1 : Int32) then 114 else 34, [some (v_r (some 93)), l1, some (v_i x2), some (v_i (h_i h 93 31)), some (v_i (0 : Int32)), l5, l6], [], h)) rfl).trans ?_
  simp only [am_all]
  all_goals exact cj_d (la_is Lh (o := 93) rfl) (am_Y_if)

theorem b_X12_laysOld_15 {d : Nat} {Q : Option am_V → am_H → Prop} (h : am_H) (l0 l1 l2 l3 l4 l5 l6 : Option am_V) : ex_ d 325 15 [l0, l1, l2, l3, l4, l5, l6] [] h Q ↔ Q (none) h := by
  unfold ex_
  exact ((am_Y_ret rfl rfl rfl).trans (am_rz rfl))

theorem b_X12_laysOld_114 {d : Nat} {Q : Option am_V → am_H → Prop} (h : am_H) (x3 : Int32) (l0 l1 l2 l4 l5 l6 : Option am_V) : ex_ d 325 114 [l0, l1, l2, some (v_i x3), l4, l5, l6] [] h Q ↔ ex_ d 325 122 [l0, l1, l2, some (v_i x3), l4, some (v_i x3), some (v_i (x3 - (1 : Int32)))] [] h Q := by
  unfold ex_
  refine (am_Y_go 6 (ok := []) (g := (122, [l0, l1, l2, some (v_i x3), l4, some (v_i x3), some (v_i (x3 - (1 : Int32)))], [], h)) rfl).trans ?_
  all_goals exact Iff.rfl

theorem b_X12_laysOld_34 {d : Nat} {Q : Option am_V → am_H → Prop} (h : am_H) (l1 l2 l3 l4 l5 l6 : Option am_V) (Lh : Lay h) : ex_ d 325 34 [some (v_r (some 93)), l1, l2, l3, l4, l5, l6] [] h Q ↔ ex_ d 325 42 [some (v_r (some 93)), l1, l2, l3, l4, some (v_i (0 : Int32)), l6] [] (p_i h 93 31 (0 : Int32)) Q := by
  unfold ex_
  refine (am_Y_go 5 (ok := [am_is h (some 93) 12]) (g := (42, [some (v_r (some 93)), l1, l2, l3, l4, some (v_i (0 : Int32)), l6], [], (p_i h 93 31 (0 : Int32)))) rfl).trans ?_
  simp only [am_all]
  all_goals exact cj_d (la_is Lh (o := 93) rfl) (Iff.rfl)

theorem b_X12_laysOld_122 {d : Nat} {Q : Option am_V → am_H → Prop} (h : am_H) (x6 : Int32) (l0 l1 l2 l3 l4 l5 : Option am_V) : ex_ d 325 122 [l0, l1, l2, l3, l4, l5, some (v_i x6)] [] h Q ↔ if x6 < 0 then ex_ d 325 183 [l0, l1, l2, l3, l4, l5, some (v_i x6)] [] h Q else ex_ d 325 127 [l0, l1, l2, l3, l4, l5, some (v_i x6)] [] h Q := by
  unfold ex_
  refine (am_Y_go 2 (ok := []) (g := (if x6 < 0 then 183 else 127, [l0, l1, l2, l3, l4, l5, some (v_i x6)], [], h)) rfl).trans ?_
  all_goals exact am_Y_if

theorem b_X12_laysOld_42 {d : Nat} {Q : Option am_V → am_H → Prop} (h : am_H) (x5 : Int32) (x3 : Int32) (l0 l1 l2 l4 l6 : Option am_V) : ex_ d 325 42 [l0, l1, l2, some (v_i x3), l4, some (v_i x5), l6] [] h Q ↔ if x3 ≤ x5 then ex_ d 325 113 [l0, l1, l2, some (v_i x3), l4, some (v_i x5), l6] [] h Q else ex_ d 325 48 [l0, l1, l2, some (v_i x3), l4, some (v_i x5), l6] [] h Q := by
  unfold ex_
  refine (am_Y_go 3 (ok := []) (g := (if x3 ≤ x5 then 113 else 48, [l0, l1, l2, some (v_i x3), l4, some (v_i x5), l6], [], h)) rfl).trans ?_
  all_goals exact am_Y_if

theorem b_X12_laysOld_183 {d : Nat} {Q : Option am_V → am_H → Prop} (h : am_H) (x3 : Int32) (x5 : Int32) (l1 l2 l4 l6 : Option am_V) (Lh : Lay h) : ex_ d 325 183 [some (v_r (some 93)), l1, l2, some (v_i x3), l4, some (v_i x5), l6] [] h Q ↔ ex_ d 325 194 [some (v_r (some 93)), l1, l2, some (v_i x3), l4, some (v_i x5), some (v_i (0 : Int32))] [] (p_i h 93 31 (x3 - x5)) Q := by
  unfold ex_
  refine (am_Y_go 7 (ok := [am_is h (some 93) 12]) (g := (194, [some (v_r (some 93)), l1, l2, some (v_i x3), l4, some (v_i x5), some (v_i (0 : Int32))], [], (p_i h 93 31 (x3 - x5)))) rfl).trans ?_
  simp only [am_all]
  all_goals exact cj_d (la_is Lh (o := 93) rfl) (Iff.rfl)

theorem b_X12_laysOld_127 {d : Nat} {Q : Option am_V → am_H → Prop} (h : am_H) (x4 : Int32) (x6 : Int32) (l1 l2 l3 l5 : Option am_V) (Lh : Lay h) : ex_ (d + 1) 325 127 [some (v_r (some 93)), l1, l2, l3, some (v_i x4), l5, some (v_i x6)] [] h Q ↔ vp_in x6 4096 ∧ ex_ d 242 0 [some (v_l (Int32.toInt64 x4)), none, some (v_i (h_i h 109 (Int32.toNatClampNeg x6)))] [] h (fun r h' => ex_ (d + 1) 325 140 [some (v_r (some 93)), l1, l2, l3, some (v_i x4), l5, some (v_i x6)] (r.toList ++ []) h' Q) := by
  have e0 : h_r h 93 30 = some 109 := la_r Lh (q := (93, 30, 109)) (by decide)
  unfold ex_
  refine (am_Y_go 6 (ok := [am_is h (some 93) 12, am_ar h ((h_r h 93 30)) 20 x6]) (g := (137, [some (v_r (some 93)), l1, l2, l3, some (v_i x4), l5, some (v_i x6)], [v_i (h_i h ((h_r h 93 30).getD 0) (Int32.toNatClampNeg x6)), v_l (Int32.toInt64 x4)], h)) rfl).trans ?_
  simp only [e0, Option.getD_some, am_all]
  all_goals exact cj_d (la_is Lh (o := 93) rfl) (cj_k (la_ar Lh (o := 109) rfl) (((am_Y_call (j := 242) (na := 2) (ci := 12) (fl := 2) rfl rfl rfl).trans (cj_d ⟨⟨Nat.le_of_ble_eq_true rfl, Nat.le_of_ble_eq_true rfl, Nat.le_of_ble_eq_true rfl, rfl⟩, Or.inl rfl⟩ Iff.rfl))))

theorem b_X12_laysOld_113 {d : Nat} {Q : Option am_V → am_H → Prop} (h : am_H) (l0 l1 l2 l3 l4 l5 l6 : Option am_V) : ex_ d 325 113 [l0, l1, l2, l3, l4, l5, l6] [] h Q ↔ Q (none) h := by
  unfold ex_
  exact ((am_Y_ret rfl rfl rfl).trans (am_rz rfl))

theorem b_X12_laysOld_48 {d : Nat} {Q : Option am_V → am_H → Prop} (h : am_H) (x4 : Int32) (x5 : Int32) (l1 l2 l3 l6 : Option am_V) (Lh : Lay h) : ex_ (d + 1) 325 48 [some (v_r (some 93)), l1, l2, l3, some (v_i x4), some (v_i x5), l6] [] h Q ↔ vp_in x5 4096 ∧ ex_ d 242 0 [some (v_l (Int32.toInt64 x4)), none, some (v_i (h_i h 109 (Int32.toNatClampNeg x5)))] [] h (fun r h' => ex_ (d + 1) 325 61 [some (v_r (some 93)), l1, l2, l3, some (v_i x4), some (v_i x5), l6] (r.toList ++ []) h' Q) := by
  have e0 : h_r h 93 30 = some 109 := la_r Lh (q := (93, 30, 109)) (by decide)
  unfold ex_
  refine (am_Y_go 6 (ok := [am_is h (some 93) 12, am_ar h ((h_r h 93 30)) 20 x5]) (g := (58, [some (v_r (some 93)), l1, l2, l3, some (v_i x4), some (v_i x5), l6], [v_i (h_i h ((h_r h 93 30).getD 0) (Int32.toNatClampNeg x5)), v_l (Int32.toInt64 x4)], h)) rfl).trans ?_
  simp only [e0, Option.getD_some, am_all]
  all_goals exact cj_d (la_is Lh (o := 93) rfl) (cj_k (la_ar Lh (o := 109) rfl) (((am_Y_call (j := 242) (na := 2) (ci := 12) (fl := 2) rfl rfl rfl).trans (cj_d ⟨⟨Nat.le_of_ble_eq_true rfl, Nat.le_of_ble_eq_true rfl, Nat.le_of_ble_eq_true rfl, rfl⟩, Or.inl rfl⟩ Iff.rfl))))

theorem b_X12_laysOld_194 {d : Nat} {Q : Option am_V → am_H → Prop} (h : am_H) (x6 : Int32) (l1 l2 l3 l4 l5 : Option am_V) (Lh : Lay h) : ex_ d 325 194 [some (v_r (some 93)), l1, l2, l3, l4, l5, some (v_i x6)] [] h Q ↔ if (h_i h 93 31) ≤ x6 then ex_ d 325 226 [some (v_r (some 93)), l1, l2, l3, l4, l5, some (v_i x6)] [] h Q else ex_ d 325 203 [some (v_r (some 93)), l1, l2, l3, l4, l5, some (v_i x6)] [] h Q := by
  unfold ex_
  refine (am_Y_go 4 (ok := [am_is h (some 93) 12]) (g := (if (h_i h 93 31) ≤ x6 then 226 else 203, [some (v_r (some 93)), l1, l2, l3, l4, l5, some (v_i x6)], [], h)) rfl).trans ?_
  simp only [am_all]
  all_goals exact cj_d (la_is Lh (o := 93) rfl) (am_Y_if)

theorem b_X12_laysOld_140 {d : Nat} {Q : Option am_V → am_H → Prop} (h : am_H) (s0 : Int32) (l0 l1 l2 l3 l4 l5 l6 : Option am_V) : ex_ d 325 140 [l0, l1, l2, l3, l4, l5, l6] [v_i s0] h Q ↔ if s0 = 0 then ex_ d 325 146 [l0, l1, l2, l3, l4, l5, l6] [] h Q else ex_ d 325 143 [l0, l1, l2, l3, l4, l5, l6] [] h Q := by
  unfold ex_
  refine (am_Y_go 1 (ok := []) (g := (if s0 = 0 then 146 else 143, [l0, l1, l2, l3, l4, l5, l6], [], h)) rfl).trans ?_
  all_goals exact am_Y_if

theorem b_X12_laysOld_61 {d : Nat} {Q : Option am_V → am_H → Prop} (h : am_H) (s0 : Int32) (l0 l1 l2 l3 l4 l5 l6 : Option am_V) : ex_ d 325 61 [l0, l1, l2, l3, l4, l5, l6] [v_i s0] h Q ↔ if s0 = 0 then ex_ d 325 67 [l0, l1, l2, l3, l4, l5, l6] [] h Q else ex_ d 325 64 [l0, l1, l2, l3, l4, l5, l6] [] h Q := by
  unfold ex_
  refine (am_Y_go 1 (ok := []) (g := (if s0 = 0 then 67 else 64, [l0, l1, l2, l3, l4, l5, l6], [], h)) rfl).trans ?_
  all_goals exact am_Y_if

theorem b_X12_laysOld_226 {d : Nat} {Q : Option am_V → am_H → Prop} (h : am_H) (l0 l1 l2 l3 l4 l5 l6 : Option am_V) : ex_ d 325 226 [l0, l1, l2, l3, l4, l5, l6] [] h Q ↔ Q (none) h := by
  unfold ex_
  exact ((am_Y_ret rfl rfl rfl).trans (am_rz rfl))

theorem b_X12_laysOld_203 {d : Nat} {Q : Option am_V → am_H → Prop} (h : am_H) (x6 : Int32) (x5 : Int32) (l1 l2 l3 l4 : Option am_V) (Lh : Lay h) : ex_ d 325 203 [some (v_r (some 93)), l1, l2, l3, l4, some (v_i x5), some (v_i x6)] [] h Q ↔ vp_in (x5 + x6) 4096 ∧ vp_in x6 4096 ∧ ex_ d 325 194 [some (v_r (some 93)), l1, l2, l3, l4, some (v_i x5), some (v_i (x6 + (1 : Int32)))] [] (p_i h 109 (Int32.toNatClampNeg x6) (h_i h 109 (Int32.toNatClampNeg (x5 + x6)))) Q := by
  have e0 : h_r h 93 30 = some 109 := la_r Lh (q := (93, 30, 109)) (by decide)
  unfold ex_
  refine (am_Y_go 12 (ok := [am_is h (some 93) 12, am_is h (some 93) 12, am_ar h ((h_r h 93 30)) 20 (x5 + x6), am_ar h ((h_r h 93 30)) 20 x6]) (g := (194, [some (v_r (some 93)), l1, l2, l3, l4, some (v_i x5), some (v_i (x6 + (1 : Int32)))], [], (p_i h ((h_r h 93 30).getD 0) (Int32.toNatClampNeg x6) (h_i h ((h_r h 93 30).getD 0) (Int32.toNatClampNeg (x5 + x6)))))) rfl).trans ?_
  simp only [e0, Option.getD_some, am_all]
  all_goals exact cj_d (la_is Lh (o := 93) rfl) (cj_d (la_is Lh (o := 93) rfl) (cj_k (la_ar Lh (o := 109) rfl) (cj_k (la_ar Lh (o := 109) rfl) (Iff.rfl))))

theorem b_X12_laysOld_146 {d : Nat} {Q : Option am_V → am_H → Prop} (h : am_H) (x4 : Int32) (x6 : Int32) (x5 : Int32) (l1 l2 l3 : Option am_V) (Lh : Lay h) : ex_ d 325 146 [some (v_r (some 93)), l1, l2, l3, some (v_i x4), some (v_i x5), some (v_i x6)] [] h Q ↔ vp_in x6 4096 ∧ vp_in x6 4096 ∧ vp_in (x5 + (-1 : Int32)) 4096 ∧ ex_ d 325 122 [some (v_r (some 93)), l1, l2, l3, some (v_i (x4 ||| ((1 : Int32) <<< ((h_i h 109 (Int32.toNatClampNeg x6)) &&& 31)))), some (v_i (x5 + (-1 : Int32))), some (v_i (x6 + (-1 : Int32)))] [] (p_i h 109 (Int32.toNatClampNeg (x5 + (-1 : Int32))) (h_i h 109 (Int32.toNatClampNeg x6))) Q := by
  have e0 : h_r h 93 30 = some 109 := la_r Lh (q := (93, 30, 109)) (by decide)
  unfold ex_
  refine (am_Y_go 20 (ok := [am_is h (some 93) 12, am_ar h ((h_r h 93 30)) 20 x6, am_is h (some 93) 12, am_is h (some 93) 12, am_ar h ((h_r h 93 30)) 20 x6, am_ar h ((h_r h 93 30)) 20 (x5 + (-1 : Int32))]) (g := (122, [some (v_r (some 93)), l1, l2, l3, some (v_i (x4 ||| ((1 : Int32) <<< ((h_i h ((h_r h 93 30).getD 0) (Int32.toNatClampNeg x6)) &&& 31)))), some (v_i (x5 + (-1 : Int32))), some (v_i (x6 + (-1 : Int32)))], [], (p_i h ((h_r h 93 30).getD 0) (Int32.toNatClampNeg (x5 + (-1 : Int32))) (h_i h ((h_r h 93 30).getD 0) (Int32.toNatClampNeg x6))))) rfl).trans ?_
  simp only [e0, Option.getD_some, am_all]
  all_goals exact cj_d (la_is Lh (o := 93) rfl) (cj_k (la_ar Lh (o := 109) rfl) (cj_d (la_is Lh (o := 93) rfl) (cj_d (la_is Lh (o := 93) rfl) (cj_k (la_ar Lh (o := 109) rfl) (cj_k (la_ar Lh (o := 109) rfl) (Iff.rfl))))))

theorem b_X12_laysOld_143 {d : Nat} {Q : Option am_V → am_H → Prop} (h : am_H) (x6 : Int32) (l0 l1 l2 l3 l4 l5 : Option am_V) : ex_ d 325 143 [l0, l1, l2, l3, l4, l5, some (v_i x6)] [] h Q ↔ ex_ d 325 122 [l0, l1, l2, l3, l4, l5, some (v_i (x6 + (-1 : Int32)))] [] h Q := by
  unfold ex_
  refine (am_Y_go 3 (ok := []) (g := (122, [l0, l1, l2, l3, l4, l5, some (v_i (x6 + (-1 : Int32)))], [], h)) rfl).trans ?_
  all_goals exact Iff.rfl

theorem b_X12_laysOld_67 {d : Nat} {Q : Option am_V → am_H → Prop} (h : am_H) (x4 : Int32) (x5 : Int32) (l1 l2 l3 l6 : Option am_V) (Lh : Lay h) : ex_ d 325 67 [some (v_r (some 93)), l1, l2, l3, some (v_i x4), some (v_i x5), l6] [] h Q ↔ vp_in x5 4096 ∧ vp_in x5 4096 ∧ vp_in (h_i h 93 31) 4096 ∧ ex_ d 325 42 [some (v_r (some 93)), l1, l2, l3, some (v_i (x4 ||| ((1 : Int32) <<< ((h_i h 109 (Int32.toNatClampNeg x5)) &&& 31)))), some (v_i (x5 + (1 : Int32))), l6] [] (p_i (p_i h 109 (Int32.toNatClampNeg (h_i h 93 31)) (h_i h 109 (Int32.toNatClampNeg x5))) 93 31 ((h_i (p_i h 109 (Int32.toNatClampNeg (h_i h 93 31)) (h_i h 109 (Int32.toNatClampNeg x5))) 93 31) + (1 : Int32))) Q := by
  have e0 : h_r h 93 30 = some 109 := la_r Lh (q := (93, 30, 109)) (by decide)
  unfold ex_
  refine (am_Y_go 26 (ok := [am_is h (some 93) 12, am_ar h ((h_r h 93 30)) 20 x5, am_is h (some 93) 12, am_is h (some 93) 12, am_is h (some 93) 12, am_ar h ((h_r h 93 30)) 20 x5, am_ar h ((h_r h 93 30)) 20 (h_i h 93 31), am_is h (some 93) 12, am_is h (some 93) 12]) (g := (42, [some (v_r (some 93)), l1, l2, l3, some (v_i (x4 ||| ((1 : Int32) <<< ((h_i h ((h_r h 93 30).getD 0) (Int32.toNatClampNeg x5)) &&& 31)))), some (v_i (x5 + (1 : Int32))), l6], [], (p_i (p_i h ((h_r h 93 30).getD 0) (Int32.toNatClampNeg (h_i h 93 31)) (h_i h ((h_r h 93 30).getD 0) (Int32.toNatClampNeg x5))) 93 31 ((h_i (p_i h ((h_r h 93 30).getD 0) (Int32.toNatClampNeg (h_i h 93 31)) (h_i h ((h_r h 93 30).getD 0) (Int32.toNatClampNeg x5))) 93 31) + (1 : Int32))))) rfl).trans ?_
  simp only [e0, Option.getD_some, am_all]
  all_goals exact cj_d (la_is Lh (o := 93) rfl) (cj_k (la_ar Lh (o := 109) rfl) (cj_d (la_is Lh (o := 93) rfl) (cj_d (la_is Lh (o := 93) rfl) (cj_d (la_is Lh (o := 93) rfl) (cj_k (la_ar Lh (o := 109) rfl) (cj_k (la_ar Lh (o := 109) rfl) (cj_d (la_is Lh (o := 93) rfl) (cj_d (la_is Lh (o := 93) rfl) (Iff.rfl)))))))))

theorem b_X12_laysOld_64 {d : Nat} {Q : Option am_V → am_H → Prop} (h : am_H) (x5 : Int32) (l0 l1 l2 l3 l4 l6 : Option am_V) : ex_ d 325 64 [l0, l1, l2, l3, l4, some (v_i x5), l6] [] h Q ↔ ex_ d 325 42 [l0, l1, l2, l3, l4, some (v_i (x5 + (1 : Int32))), l6] [] h Q := by
  unfold ex_
  refine (am_Y_go 3 (ok := []) (g := (42, [l0, l1, l2, l3, l4, some (v_i (x5 + (1 : Int32))), l6], [], h)) rfl).trans ?_
  all_goals exact Iff.rfl

theorem b_X12_isKind_0 {d : Nat} {Q : Option am_V → am_H → Prop} (h : am_H) (x0 : Int32) : ex_ (d + 1) 326 0 [some (v_i x0)] [] h Q ↔ ex_ d 229 0 [some (v_l (Int32.toInt64 x0)), none, some (v_l (1 : Int64)), none, some (v_l (3 : Int64)), none] [] h (fun r h' => ex_ (d + 1) 326 9 [some (v_i x0)] (r.toList ++ []) h' Q) := by
  unfold ex_
  refine (am_Y_go 4 (ok := []) (g := (6, [some (v_i x0)], [v_l (3 : Int64), v_l (1 : Int64), v_l (Int32.toInt64 x0)], h)) rfl).trans ?_
  all_goals exact ((am_Y_call (j := 229) (na := 3) (ci := 12) (fl := 2) rfl rfl rfl).trans (cj_d ⟨⟨Nat.le_of_ble_eq_true rfl, Nat.le_of_ble_eq_true rfl, Nat.le_of_ble_eq_true rfl, rfl⟩, Or.inl rfl⟩ Iff.rfl))

theorem b_X12_isKind_9 {d : Nat} {Q : Option am_V → am_H → Prop} (h : am_H) (s0 : Int32) (l0 : Option am_V) : ex_ d 326 9 [l0] [v_i s0] h Q ↔ (s0 = 0 ∨ s0 = 1) ∧ Q (some (v_i s0)) h := by
  unfold ex_
  exact ((am_Y_ret rfl rfl rfl).trans (Iff.rfl))

theorem b_X12_old_0 {d : Nat} {Q : Option am_V → am_H → Prop} (h : am_H) (x1 : Int32) (l2 l3 : Option am_V) (Lh : Lay h) : ex_ (d + 1) 327 0 [some (v_r (some 93)), some (v_i x1), l2, l3] [] h Q ↔ ex_ d 262 0 [some (v_r (some 93)), some (v_l (Int32.toInt64 x1)), none] [] (p_i h 93 0 (0 : Int32)) (fun r h' => ex_ (d + 1) 327 11 [some (v_r (some 93)), some (v_i x1), l2, l3] (r.toList ++ []) h' Q) := by
  unfold ex_
  refine (am_Y_go 6 (ok := [am_is h (some 93) 12]) (g := (8, [some (v_r (some 93)), some (v_i x1), l2, l3], [v_l (Int32.toInt64 x1), v_r (some 93)], (p_i h 93 0 (0 : Int32)))) rfl).trans ?_
  simp only [am_all]
  all_goals exact cj_d (la_is Lh (o := 93) rfl) (((am_Y_call (j := 262) (na := 2) (ci := 12) (fl := 0) rfl rfl rfl).trans (cj_d ⟨⟨Nat.le_of_ble_eq_true rfl, Nat.le_of_ble_eq_true rfl, Nat.le_of_ble_eq_true rfl, rfl⟩, Or.inr (Or.inr (show (12 : Nat) < 20 ∧ am_is h (some 93) 12 from ⟨by decide, (la_is Lh (o := 93) rfl)⟩))⟩ Iff.rfl)))

theorem b_X12_old_11 {d : Nat} {Q : Option am_V → am_H → Prop} (h : am_H) (s0 : Int32) (l0 l1 l2 l3 : Option am_V) : ex_ d 327 11 [l0, l1, l2, l3] [v_i s0] h Q ↔ if s0 = 0 then ex_ d 327 21 [l0, l1, l2, l3] [] h Q else ex_ d 327 14 [l0, l1, l2, l3] [] h Q := by
  unfold ex_
  refine (am_Y_go 1 (ok := []) (g := (if s0 = 0 then 21 else 14, [l0, l1, l2, l3], [], h)) rfl).trans ?_
  all_goals exact am_Y_if

theorem b_X12_old_21 {d : Nat} {Q : Option am_V → am_H → Prop} (h : am_H) (l0 l1 l2 l3 : Option am_V) : ex_ d 327 21 [l0, l1, l2, l3] [] h Q ↔ Q (some (v_i (-2 : Int32))) h := by
  unfold ex_
  refine (am_Y_go 1 (ok := []) (g := (23, [l0, l1, l2, l3], [v_i (-2 : Int32)], h)) rfl).trans ?_
  all_goals exact ((am_Y_ret rfl rfl rfl).trans (am_r0))

theorem b_X12_old_14 {d : Nat} {Q : Option am_V → am_H → Prop} (h : am_H) (x2 : Int32) (l0 l1 l3 : Option am_V) : ex_ (d + 1) 327 14 [l0, l1, some (v_i x2), l3] [] h Q ↔ ex_ d 326 0 [some (v_i x2)] [] h (fun r h' => ex_ (d + 1) 327 18 [l0, l1, some (v_i x2), l3] (r.toList ++ []) h' Q) := by
  unfold ex_
  refine (am_Y_go 1 (ok := []) (g := (15, [l0, l1, some (v_i x2), l3], [v_i x2], h)) rfl).trans ?_
  all_goals exact ((am_Y_call (j := 326) (na := 1) (ci := 12) (fl := 2) rfl rfl rfl).trans (cj_d ⟨⟨Nat.le_of_ble_eq_true rfl, Nat.le_of_ble_eq_true rfl, Nat.le_of_ble_eq_true rfl, rfl⟩, Or.inl rfl⟩ Iff.rfl))

theorem b_X12_old_18 {d : Nat} {Q : Option am_V → am_H → Prop} (h : am_H) (s0 : Int32) (l0 l1 l2 l3 : Option am_V) : ex_ d 327 18 [l0, l1, l2, l3] [v_i s0] h Q ↔ if ¬ s0 = 0 then ex_ d 327 24 [l0, l1, l2, l3] [] h Q else ex_ d 327 21 [l0, l1, l2, l3] [] h Q := by
  unfold ex_
  refine (am_Y_go 1 (ok := []) (g := (if ¬ s0 = 0 then 24 else 21, [l0, l1, l2, l3], [], h)) rfl).trans ?_
  all_goals exact am_Y_if

theorem b_X12_old_24 {d : Nat} {Q : Option am_V → am_H → Prop} (h : am_H) (x3 : Int32) (l0 l1 l2 : Option am_V) : ex_ d 327 24 [l0, l1, l2, some (v_i x3)] [] h Q ↔ if 0 ≤ x3 then ex_ d 327 31 [l0, l1, l2, some (v_i x3)] [] h Q else ex_ d 327 28 [l0, l1, l2, some (v_i x3)] [] h Q := by
  unfold ex_
  refine (am_Y_go 2 (ok := []) (g := (if 0 ≤ x3 then 31 else 28, [l0, l1, l2, some (v_i x3)], [], h)) rfl).trans ?_
  all_goals exact am_Y_if

theorem b_X12_old_31 {d : Nat} {Q : Option am_V → am_H → Prop} (h : am_H) (x1 : Int32) (x2 : Int32) (l3 : Option am_V) (Lh : Lay h) : ex_ (d + 1) 327 31 [some (v_r (some 93)), some (v_i x1), some (v_i x2), l3] [] h Q ↔ ex_ d 325 0 [some (v_r (some 93)), some (v_i x1), some (v_i x2), none, none, none, none] [] h (fun r h' => ex_ (d + 1) 327 37 [some (v_r (some 93)), some (v_i x1), some (v_i x2), l3] (r.toList ++ []) h' Q) := by
  unfold ex_
  refine (am_Y_go 3 (ok := []) (g := (34, [some (v_r (some 93)), some (v_i x1), some (v_i x2), l3], [v_i x2, v_i x1, v_r (some 93)], h)) rfl).trans ?_
  all_goals exact ((am_Y_call (j := 325) (na := 3) (ci := 12) (fl := 0) rfl rfl rfl).trans (cj_d ⟨⟨Nat.le_of_ble_eq_true rfl, Nat.le_of_ble_eq_true rfl, Nat.le_of_ble_eq_true rfl, rfl⟩, Or.inr (Or.inr (show (12 : Nat) < 20 ∧ am_is h (some 93) 12 from ⟨by decide, (la_is Lh (o := 93) rfl)⟩))⟩ Iff.rfl))

theorem b_X12_old_28 {d : Nat} {Q : Option am_V → am_H → Prop} (h : am_H) (l0 l1 l2 l3 : Option am_V) : ex_ d 327 28 [l0, l1, l2, l3] [] h Q ↔ Q (some (v_i (-3 : Int32))) h := by
  unfold ex_
  refine (am_Y_go 1 (ok := []) (g := (30, [l0, l1, l2, l3], [v_i (-3 : Int32)], h)) rfl).trans ?_
  all_goals exact ((am_Y_ret rfl rfl rfl).trans (am_r0))

theorem b_X12_old_37 {d : Nat} {Q : Option am_V → am_H → Prop} (h : am_H) (x3 : Int32) (l1 l2 : Option am_V) (Lh : Lay h) : ex_ d 327 37 [some (v_r (some 93)), l1, l2, some (v_i x3)] [] h Q ↔ if (h_i h 93 31) ≤ x3 then ex_ d 327 54 [some (v_r (some 93)), l1, l2, some (v_i x3)] [] h Q else ex_ d 327 45 [some (v_r (some 93)), l1, l2, some (v_i x3)] [] h Q := by
  unfold ex_
  refine (am_Y_go 4 (ok := [am_is h (some 93) 12]) (g := (if (h_i h 93 31) ≤ x3 then 54 else 45, [some (v_r (some 93)), l1, l2, some (v_i x3)], [], h)) rfl).trans ?_
  simp only [am_all]
  all_goals exact cj_d (la_is Lh (o := 93) rfl) (am_Y_if)

theorem b_X12_old_54 {d : Nat} {Q : Option am_V → am_H → Prop} (h : am_H) (l0 l1 l2 l3 : Option am_V) : ex_ d 327 54 [l0, l1, l2, l3] [] h Q ↔ Q (some (v_i (-1 : Int32))) h := by
  unfold ex_
  refine (am_Y_go 1 (ok := []) (g := (55, [l0, l1, l2, l3], [v_i (-1 : Int32)], h)) rfl).trans ?_
  all_goals exact ((am_Y_ret rfl rfl rfl).trans (am_r0))

theorem b_X12_old_45 {d : Nat} {Q : Option am_V → am_H → Prop} (h : am_H) (x3 : Int32) (l1 l2 : Option am_V) (Lh : Lay h) : ex_ d 327 45 [some (v_r (some 93)), l1, l2, some (v_i x3)] [] h Q ↔ vp_in x3 4096 ∧ Q (some (v_i (h_i h 109 (Int32.toNatClampNeg x3)))) h := by
  have e0 : h_r h 93 30 = some 109 := la_r Lh (q := (93, 30, 109)) (by decide)
  unfold ex_
  refine (am_Y_go 5 (ok := [am_is h (some 93) 12, am_ar h ((h_r h 93 30)) 20 x3]) (g := (55, [some (v_r (some 93)), l1, l2, some (v_i x3)], [v_i (h_i h ((h_r h 93 30).getD 0) (Int32.toNatClampNeg x3))], h)) rfl).trans ?_
  simp only [e0, Option.getD_some, am_all]
  all_goals exact cj_d (la_is Lh (o := 93) rfl) (cj_k (la_ar Lh (o := 109) rfl) (((am_Y_ret rfl rfl rfl).trans (am_r0))))

theorem b_X12_breaks_0 {d : Nat} {Q : Option am_V → am_H → Prop} (h : am_H) (x1 : Int32) (l2 l3 l4 : Option am_V) (Lh : Lay h) : ex_ (d + 1) 328 0 [some (v_r (some 93)), some (v_i x1), l2, l3, l4] [] h Q ↔ ex_ d 262 0 [some (v_r (some 93)), some (v_l (Int32.toInt64 x1)), none] [] (p_i h 93 0 (0 : Int32)) (fun r h' => ex_ (d + 1) 328 11 [some (v_r (some 93)), some (v_i x1), l2, l3, l4] (r.toList ++ []) h' Q) := by
  unfold ex_
  refine (am_Y_go 6 (ok := [am_is h (some 93) 12]) (g := (8, [some (v_r (some 93)), some (v_i x1), l2, l3, l4], [v_l (Int32.toInt64 x1), v_r (some 93)], (p_i h 93 0 (0 : Int32)))) rfl).trans ?_
  simp only [am_all]
  all_goals exact cj_d (la_is Lh (o := 93) rfl) (((am_Y_call (j := 262) (na := 2) (ci := 12) (fl := 0) rfl rfl rfl).trans (cj_d ⟨⟨Nat.le_of_ble_eq_true rfl, Nat.le_of_ble_eq_true rfl, Nat.le_of_ble_eq_true rfl, rfl⟩, Or.inr (Or.inr (show (12 : Nat) < 20 ∧ am_is h (some 93) 12 from ⟨by decide, (la_is Lh (o := 93) rfl)⟩))⟩ Iff.rfl)))

theorem b_X12_breaks_11 {d : Nat} {Q : Option am_V → am_H → Prop} (h : am_H) (s0 : Int32) (l0 l1 l2 l3 l4 : Option am_V) : ex_ d 328 11 [l0, l1, l2, l3, l4] [v_i s0] h Q ↔ if s0 = 0 then ex_ d 328 21 [l0, l1, l2, l3, l4] [] h Q else ex_ d 328 14 [l0, l1, l2, l3, l4] [] h Q := by
  unfold ex_
  refine (am_Y_go 1 (ok := []) (g := (if s0 = 0 then 21 else 14, [l0, l1, l2, l3, l4], [], h)) rfl).trans ?_
  all_goals exact am_Y_if

theorem b_X12_breaks_21 {d : Nat} {Q : Option am_V → am_H → Prop} (h : am_H) (l0 l1 l2 l3 l4 : Option am_V) : ex_ d 328 21 [l0, l1, l2, l3, l4] [] h Q ↔ Q (some (v_i (-2 : Int32))) h := by
  unfold ex_
  refine (am_Y_go 1 (ok := []) (g := (23, [l0, l1, l2, l3, l4], [v_i (-2 : Int32)], h)) rfl).trans ?_
  all_goals exact ((am_Y_ret rfl rfl rfl).trans (am_r0))

theorem b_X12_breaks_14 {d : Nat} {Q : Option am_V → am_H → Prop} (h : am_H) (x2 : Int32) (l0 l1 l3 l4 : Option am_V) : ex_ (d + 1) 328 14 [l0, l1, some (v_i x2), l3, l4] [] h Q ↔ ex_ d 326 0 [some (v_i x2)] [] h (fun r h' => ex_ (d + 1) 328 18 [l0, l1, some (v_i x2), l3, l4] (r.toList ++ []) h' Q) := by
  unfold ex_
  refine (am_Y_go 1 (ok := []) (g := (15, [l0, l1, some (v_i x2), l3, l4], [v_i x2], h)) rfl).trans ?_
  all_goals exact ((am_Y_call (j := 326) (na := 1) (ci := 12) (fl := 2) rfl rfl rfl).trans (cj_d ⟨⟨Nat.le_of_ble_eq_true rfl, Nat.le_of_ble_eq_true rfl, Nat.le_of_ble_eq_true rfl, rfl⟩, Or.inl rfl⟩ Iff.rfl))

theorem b_X12_breaks_18 {d : Nat} {Q : Option am_V → am_H → Prop} (h : am_H) (s0 : Int32) (l0 l1 l2 l3 l4 : Option am_V) : ex_ d 328 18 [l0, l1, l2, l3, l4] [v_i s0] h Q ↔ if ¬ s0 = 0 then ex_ d 328 24 [l0, l1, l2, l3, l4] [] h Q else ex_ d 328 21 [l0, l1, l2, l3, l4] [] h Q := by
  unfold ex_
  refine (am_Y_go 1 (ok := []) (g := (if ¬ s0 = 0 then 24 else 21, [l0, l1, l2, l3, l4], [], h)) rfl).trans ?_
  all_goals exact am_Y_if

theorem b_X12_breaks_24 {d : Nat} {Q : Option am_V → am_H → Prop} (h : am_H) (x1 : Int32) (l2 l3 l4 : Option am_V) (Lh : Lay h) : ex_ (d + 1) 328 24 [some (v_r (some 93)), some (v_i x1), l2, l3, l4] [] h Q ↔ ex_ d 312 0 [some (v_r (some 93)), some (v_i x1)] [] h (fun r h' => ex_ (d + 1) 328 29 [some (v_r (some 93)), some (v_i x1), l2, l3, l4] (r.toList ++ []) h' Q) := by
  unfold ex_
  refine (am_Y_go 2 (ok := []) (g := (26, [some (v_r (some 93)), some (v_i x1), l2, l3, l4], [v_i x1, v_r (some 93)], h)) rfl).trans ?_
  all_goals exact ((am_Y_call (j := 312) (na := 2) (ci := 12) (fl := 0) rfl rfl rfl).trans (cj_d ⟨⟨Nat.le_of_ble_eq_true rfl, Nat.le_of_ble_eq_true rfl, Nat.le_of_ble_eq_true rfl, rfl⟩, Or.inr (Or.inr (show (12 : Nat) < 20 ∧ am_is h (some 93) 12 from ⟨by decide, (la_is Lh (o := 93) rfl)⟩))⟩ Iff.rfl))

theorem b_X12_breaks_29 {d : Nat} {Q : Option am_V → am_H → Prop} (h : am_H) (s0 : Int32) (l0 l1 l2 l3 l4 : Option am_V) : ex_ d 328 29 [l0, l1, l2, l3, l4] [v_i s0] h Q ↔ if s0 = 0 then ex_ d 328 34 [l0, l1, l2, l3, l4] [] h Q else ex_ d 328 32 [l0, l1, l2, l3, l4] [] h Q := by
  unfold ex_
  refine (am_Y_go 1 (ok := []) (g := (if s0 = 0 then 34 else 32, [l0, l1, l2, l3, l4], [], h)) rfl).trans ?_
  all_goals exact am_Y_if

theorem b_X12_breaks_34 {d : Nat} {Q : Option am_V → am_H → Prop} (h : am_H) (x1 : Int32) (x2 : Int32) (l3 l4 : Option am_V) (Lh : Lay h) : ex_ (d + 1) 328 34 [some (v_r (some 93)), some (v_i x1), some (v_i x2), l3, l4] [] h Q ↔ ex_ d 325 0 [some (v_r (some 93)), some (v_i x1), some (v_i x2), none, none, none, none] [] h (fun r h' => ex_ (d + 1) 328 40 [some (v_r (some 93)), some (v_i x1), some (v_i x2), l3, l4] (r.toList ++ []) h' Q) := by
  unfold ex_
  refine (am_Y_go 3 (ok := []) (g := (37, [some (v_r (some 93)), some (v_i x1), some (v_i x2), l3, l4], [v_i x2, v_i x1, v_r (some 93)], h)) rfl).trans ?_
  all_goals exact ((am_Y_call (j := 325) (na := 3) (ci := 12) (fl := 0) rfl rfl rfl).trans (cj_d ⟨⟨Nat.le_of_ble_eq_true rfl, Nat.le_of_ble_eq_true rfl, Nat.le_of_ble_eq_true rfl, rfl⟩, Or.inr (Or.inr (show (12 : Nat) < 20 ∧ am_is h (some 93) 12 from ⟨by decide, (la_is Lh (o := 93) rfl)⟩))⟩ Iff.rfl))

theorem b_X12_breaks_32 {d : Nat} {Q : Option am_V → am_H → Prop} (h : am_H) (l0 l1 l2 l3 l4 : Option am_V) : ex_ d 328 32 [l0, l1, l2, l3, l4] [] h Q ↔ Q (some (v_i (-1 : Int32))) h := by
  unfold ex_
  refine (am_Y_go 1 (ok := []) (g := (33, [l0, l1, l2, l3, l4], [v_i (-1 : Int32)], h)) rfl).trans ?_
  all_goals exact ((am_Y_ret rfl rfl rfl).trans (am_r0))

theorem b_X12_breaks_40 {d : Nat} {Q : Option am_V → am_H → Prop} (h : am_H) (l0 l1 l2 l3 l4 : Option am_V) : ex_ d 328 40 [l0, l1, l2, l3, l4] [] h Q ↔ ex_ d 328 45 [l0, l1, l2, some (v_i (0 : Int32)), some (v_i (0 : Int32))] [] h Q := by
  unfold ex_
  refine (am_Y_go 4 (ok := []) (g := (45, [l0, l1, l2, some (v_i (0 : Int32)), some (v_i (0 : Int32))], [], h)) rfl).trans ?_
  all_goals exact Iff.rfl

theorem b_X12_breaks_45 {d : Nat} {Q : Option am_V → am_H → Prop} (h : am_H) (x4 : Int32) (l0 l1 l2 l3 : Option am_V) : ex_ d 328 45 [l0, l1, l2, l3, some (v_i x4)] [] h Q ↔ if (100 : Int32) ≤ x4 then ex_ d 328 109 [l0, l1, l2, l3, some (v_i x4)] [] h Q else ex_ d 328 52 [l0, l1, l2, l3, some (v_i x4)] [] h Q := by
  unfold ex_
  refine (am_Y_go 3 (ok := []) (g := (if (100 : Int32) ≤ x4 then 109 else 52, [l0, l1, l2, l3, some (v_i x4)], [], h)) rfl).trans ?_
  all_goals exact am_Y_if

theorem b_X12_breaks_109 {d : Nat} {Q : Option am_V → am_H → Prop} (h : am_H) (x3 : Int32) (l0 l1 l2 l4 : Option am_V) : ex_ d 328 109 [l0, l1, l2, some (v_i x3), l4] [] h Q ↔ Q (some (v_i x3)) h := by
  unfold ex_
  refine (am_Y_go 1 (ok := []) (g := (110, [l0, l1, l2, some (v_i x3), l4], [v_i x3], h)) rfl).trans ?_
  all_goals exact ((am_Y_ret rfl rfl rfl).trans (am_r0))

theorem b_X12_breaks_52 {d : Nat} {Q : Option am_V → am_H → Prop} (h : am_H) (x3 : Int32) (x4 : Int32) (l1 l2 : Option am_V) (Lh : Lay h) : ex_ (d + 1) 328 52 [some (v_r (some 93)), l1, l2, some (v_i x3), some (v_i x4)] [] h Q ↔ vp_in (x4 / (10 : Int32)) 10 ∧ ex_ d 242 0 [some (v_l (Int32.toInt64 (h_i h 106 (Int32.toNatClampNeg (x4 / (10 : Int32)))))), none, some (v_i (x4 - x4 / (10 : Int32) * (10 : Int32)))] [] h (fun r h' => ex_ (d + 1) 328 72 [some (v_r (some 93)), l1, l2, some (v_i x3), some (v_i x4)] (r.toList ++ [v_i x3]) h' Q) := by
  have e0 : h_r h 93 27 = some 106 := la_r Lh (q := (93, 27, 106)) (by decide)
  unfold ex_
  refine (am_Y_go 11 (ok := [am_is h (some 93) 12, ¬ (10 : Int32) = 0, am_ar h ((h_r h 93 27)) 20 (x4 / (10 : Int32)), ¬ (10 : Int32) = 0]) (g := (69, [some (v_r (some 93)), l1, l2, some (v_i x3), some (v_i x4)], [v_i (x4 - x4 / (10 : Int32) * (10 : Int32)), v_l (Int32.toInt64 (h_i h ((h_r h 93 27).getD 0) (Int32.toNatClampNeg (x4 / (10 : Int32))))), v_i x3], h)) rfl).trans ?_
  simp only [e0, Option.getD_some, am_all]
  all_goals exact cj_d (la_is Lh (o := 93) rfl) (cj_d (by decide) (cj_k (la_ar Lh (o := 106) rfl) (cj_d (by decide) (((am_Y_call (j := 242) (na := 2) (ci := 12) (fl := 2) rfl rfl rfl).trans (cj_d ⟨⟨Nat.le_of_ble_eq_true rfl, Nat.le_of_ble_eq_true rfl, Nat.le_of_ble_eq_true rfl, rfl⟩, Or.inl rfl⟩ Iff.rfl))))))

theorem b_X12_breaks_72 {d : Nat} {Q : Option am_V → am_H → Prop} (h : am_H) (s0 : Int32) (s1 : Int32) (l0 l1 l2 l3 l4 : Option am_V) : ex_ d 328 72 [l0, l1, l2, l3, l4] [v_i s0, v_i s1] h Q ↔ if s0 = 0 then ex_ d 328 100 [l0, l1, l2, l3, l4] [v_i s1] h Q else ex_ d 328 75 [l0, l1, l2, l3, l4] [v_i s1] h Q := by
  unfold ex_
  refine (am_Y_go 1 (ok := []) (g := (if s0 = 0 then 100 else 75, [l0, l1, l2, l3, l4], [v_i s1], h)) rfl).trans ?_
  all_goals exact am_Y_if

theorem b_X12_breaks_100 {d : Nat} {Q : Option am_V → am_H → Prop} (h : am_H) (s0 : Int32) (x4 : Int32) (l0 l1 l2 l3 : Option am_V) : ex_ d 328 100 [l0, l1, l2, l3, some (v_i x4)] [v_i s0] h Q ↔ ex_ d 328 45 [l0, l1, l2, some (v_i (s0 + (0 : Int32))), some (v_i (x4 + (1 : Int32)))] [] h Q := by
  unfold ex_
  refine (am_Y_go 5 (ok := []) (g := (45, [l0, l1, l2, some (v_i (s0 + (0 : Int32))), some (v_i (x4 + (1 : Int32)))], [], h)) rfl).trans ?_
  all_goals exact Iff.rfl

theorem b_X12_breaks_75 {d : Nat} {Q : Option am_V → am_H → Prop} (h : am_H) (s0 : Int32) (x4 : Int32) (l1 l2 l3 : Option am_V) (Lh : Lay h) : ex_ (d + 1) 328 75 [some (v_r (some 93)), l1, l2, l3, some (v_i x4)] [v_i s0] h Q ↔ ex_ d 323 0 [some (v_r (some 93)), some (v_i (x4 / (10 : Int32))), none] [] h (fun r h' => ex_ (d + 1) 328 84 [some (v_r (some 93)), l1, l2, l3, some (v_i x4)] (r.toList ++ [v_i s0]) h' Q) := by
  unfold ex_
  refine (am_Y_go 4 (ok := [¬ (10 : Int32) = 0]) (g := (81, [some (v_r (some 93)), l1, l2, l3, some (v_i x4)], [v_i (x4 / (10 : Int32)), v_r (some 93), v_i s0], h)) rfl).trans ?_
  simp only [am_all]
  all_goals exact cj_d (by decide) (((am_Y_call (j := 323) (na := 2) (ci := 12) (fl := 0) rfl rfl rfl).trans (cj_d ⟨⟨Nat.le_of_ble_eq_true rfl, Nat.le_of_ble_eq_true rfl, Nat.le_of_ble_eq_true rfl, rfl⟩, Or.inr (Or.inr (show (12 : Nat) < 20 ∧ am_is h (some 93) 12 from ⟨by decide, (la_is Lh (o := 93) rfl)⟩))⟩ Iff.rfl)))

theorem b_X12_breaks_84 {d : Nat} {Q : Option am_V → am_H → Prop} (h : am_H) (s0 : Int32) (s1 : Int32) (x4 : Int32) (l1 l2 l3 : Option am_V) (Lh : Lay h) : ex_ (d + 1) 328 84 [some (v_r (some 93)), l1, l2, l3, some (v_i x4)] [v_i s0, v_i s1] h Q ↔ ex_ d 323 0 [some (v_r (some 93)), some (v_i (x4 - x4 / (10 : Int32) * (10 : Int32))), none] [] h (fun r h' => ex_ (d + 1) 328 93 [some (v_r (some 93)), l1, l2, l3, some (v_i x4)] (r.toList ++ [v_i s0, v_i s1]) h' Q) := by
  unfold ex_
  refine (am_Y_go 4 (ok := [¬ (10 : Int32) = 0]) (g := (90, [some (v_r (some 93)), l1, l2, l3, some (v_i x4)], [v_i (x4 - x4 / (10 : Int32) * (10 : Int32)), v_r (some 93), v_i s0, v_i s1], h)) rfl).trans ?_
  simp only [am_all]
  all_goals exact cj_d (by decide) (((am_Y_call (j := 323) (na := 2) (ci := 12) (fl := 0) rfl rfl rfl).trans (cj_d ⟨⟨Nat.le_of_ble_eq_true rfl, Nat.le_of_ble_eq_true rfl, Nat.le_of_ble_eq_true rfl, rfl⟩, Or.inr (Or.inr (show (12 : Nat) < 20 ∧ am_is h (some 93) 12 from ⟨by decide, (la_is Lh (o := 93) rfl)⟩))⟩ Iff.rfl)))

theorem b_X12_breaks_93 {d : Nat} {Q : Option am_V → am_H → Prop} (h : am_H) (s0 : Int32) (s1 : Int32) (s2 : Int32) (l0 l1 l2 l3 l4 : Option am_V) : ex_ d 328 93 [l0, l1, l2, l3, l4] [v_i s0, v_i s1, v_i s2] h Q ↔ if s1 ≤ s0 then ex_ d 328 100 [l0, l1, l2, l3, l4] [v_i s2] h Q else ex_ d 328 96 [l0, l1, l2, l3, l4] [v_i s2] h Q := by
  unfold ex_
  refine (am_Y_go 1 (ok := []) (g := (if s1 ≤ s0 then 100 else 96, [l0, l1, l2, l3, l4], [v_i s2], h)) rfl).trans ?_
  all_goals exact am_Y_if

theorem b_X12_breaks_96 {d : Nat} {Q : Option am_V → am_H → Prop} (h : am_H) (s0 : Int32) (x4 : Int32) (l0 l1 l2 l3 : Option am_V) : ex_ d 328 96 [l0, l1, l2, l3, some (v_i x4)] [v_i s0] h Q ↔ ex_ d 328 45 [l0, l1, l2, some (v_i (s0 + (1 : Int32))), some (v_i (x4 + (1 : Int32)))] [] h Q := by
  unfold ex_
  refine (am_Y_go 6 (ok := []) (g := (45, [l0, l1, l2, some (v_i (s0 + (1 : Int32))), some (v_i (x4 + (1 : Int32)))], [], h)) rfl).trans ?_
  all_goals exact Iff.rfl

theorem b_X12_same_0 {d : Nat} {Q : Option am_V → am_H → Prop} (h : am_H) (x1 : Int32) (l2 l3 l4 l5 : Option am_V) (Lh : Lay h) : ex_ (d + 1) 329 0 [some (v_r (some 93)), some (v_i x1), l2, l3, l4, l5] [] h Q ↔ ex_ d 326 0 [some (v_i x1)] [] (p_i h 93 0 (0 : Int32)) (fun r h' => ex_ (d + 1) 329 9 [some (v_r (some 93)), some (v_i x1), l2, l3, l4, l5] (r.toList ++ []) h' Q) := by
  unfold ex_
  refine (am_Y_go 4 (ok := [am_is h (some 93) 12]) (g := (6, [some (v_r (some 93)), some (v_i x1), l2, l3, l4, l5], [v_i x1], (p_i h 93 0 (0 : Int32)))) rfl).trans ?_
  simp only [am_all]
  all_goals exact cj_d (la_is Lh (o := 93) rfl) (((am_Y_call (j := 326) (na := 1) (ci := 12) (fl := 2) rfl rfl rfl).trans (cj_d ⟨⟨Nat.le_of_ble_eq_true rfl, Nat.le_of_ble_eq_true rfl, Nat.le_of_ble_eq_true rfl, rfl⟩, Or.inl rfl⟩ Iff.rfl)))

theorem b_X12_same_9 {d : Nat} {Q : Option am_V → am_H → Prop} (h : am_H) (s0 : Int32) (l0 l1 l2 l3 l4 l5 : Option am_V) : ex_ d 329 9 [l0, l1, l2, l3, l4, l5] [v_i s0] h Q ↔ if ¬ s0 = 0 then ex_ d 329 15 [l0, l1, l2, l3, l4, l5] [] h Q else ex_ d 329 12 [l0, l1, l2, l3, l4, l5] [] h Q := by
  unfold ex_
  refine (am_Y_go 1 (ok := []) (g := (if ¬ s0 = 0 then 15 else 12, [l0, l1, l2, l3, l4, l5], [], h)) rfl).trans ?_
  all_goals exact am_Y_if

theorem b_X12_same_15 {d : Nat} {Q : Option am_V → am_H → Prop} (h : am_H) (l1 l2 l3 l4 l5 : Option am_V) (Lh : Lay h) : ex_ (d + 1) 329 15 [some (v_r (some 93)), l1, l2, l3, l4, l5] [] h Q ↔ ex_ d 271 0 [some (v_r (some 93)), none] [] h (fun r h' => ex_ (d + 1) 329 19 [some (v_r (some 93)), l1, l2, l3, l4, l5] (r.toList ++ []) h' Q) := by
  unfold ex_
  refine (am_Y_go 1 (ok := []) (g := (16, [some (v_r (some 93)), l1, l2, l3, l4, l5], [v_r (some 93)], h)) rfl).trans ?_
  all_goals exact ((am_Y_call (j := 271) (na := 1) (ci := 12) (fl := 0) rfl rfl rfl).trans (cj_d ⟨⟨Nat.le_of_ble_eq_true rfl, Nat.le_of_ble_eq_true rfl, Nat.le_of_ble_eq_true rfl, rfl⟩, Or.inr (Or.inr (show (12 : Nat) < 20 ∧ am_is h (some 93) 12 from ⟨by decide, (la_is Lh (o := 93) rfl)⟩))⟩ Iff.rfl))

theorem b_X12_same_12 {d : Nat} {Q : Option am_V → am_H → Prop} (h : am_H) (l0 l1 l2 l3 l4 l5 : Option am_V) : ex_ d 329 12 [l0, l1, l2, l3, l4, l5] [] h Q ↔ Q (some (v_i (-2 : Int32))) h := by
  unfold ex_
  refine (am_Y_go 1 (ok := []) (g := (14, [l0, l1, l2, l3, l4, l5], [v_i (-2 : Int32)], h)) rfl).trans ?_
  all_goals exact ((am_Y_ret rfl rfl rfl).trans (am_r0))

theorem b_X12_same_19 {d : Nat} {Q : Option am_V → am_H → Prop} (h : am_H) (l0 l1 l2 l3 l4 l5 : Option am_V) : ex_ d 329 19 [l0, l1, l2, l3, l4, l5] [] h Q ↔ ex_ d 329 23 [l0, l1, some (v_i (0 : Int32)), some (v_i (0 : Int32)), l4, l5] [] h Q := by
  unfold ex_
  refine (am_Y_go 4 (ok := []) (g := (23, [l0, l1, some (v_i (0 : Int32)), some (v_i (0 : Int32)), l4, l5], [], h)) rfl).trans ?_
  all_goals exact Iff.rfl

theorem b_X12_same_23 {d : Nat} {Q : Option am_V → am_H → Prop} (h : am_H) (x3 : Int32) (l1 l2 l4 l5 : Option am_V) (Lh : Lay h) : ex_ d 329 23 [some (v_r (some 93)), l1, l2, some (v_i x3), l4, l5] [] h Q ↔ vp_in (1 : Int32) 7053 ∧ (if (h_i h 94 (Int32.toNatClampNeg (1 : Int32))) ≤ x3 then ex_ d 329 128 [some (v_r (some 93)), l1, l2, some (v_i x3), l4, l5] [] h Q else ex_ d 329 33 [some (v_r (some 93)), l1, l2, some (v_i x3), l4, l5] [] h Q) := by
  have e0 : h_r h 93 1 = some 94 := la_r Lh (q := (93, 1, 94)) (by decide)
  unfold ex_
  refine (am_Y_go 6 (ok := [am_is h (some 93) 12, am_ar h ((h_r h 93 1)) 20 (1 : Int32)]) (g := (if (h_i h ((h_r h 93 1).getD 0) (Int32.toNatClampNeg (1 : Int32))) ≤ x3 then 128 else 33, [some (v_r (some 93)), l1, l2, some (v_i x3), l4, l5], [], h)) rfl).trans ?_
  simp only [e0, Option.getD_some, am_all]
  all_goals exact cj_d (la_is Lh (o := 93) rfl) (cj_k (la_ar Lh (o := 94) rfl) (am_Y_if))

theorem b_X12_same_128 {d : Nat} {Q : Option am_V → am_H → Prop} (h : am_H) (x2 : Int32) (l0 l1 l3 l4 l5 : Option am_V) : ex_ d 329 128 [l0, l1, some (v_i x2), l3, l4, l5] [] h Q ↔ Q (some (v_i x2)) h := by
  unfold ex_
  refine (am_Y_go 1 (ok := []) (g := (129, [l0, l1, some (v_i x2), l3, l4, l5], [v_i x2], h)) rfl).trans ?_
  all_goals exact ((am_Y_ret rfl rfl rfl).trans (am_r0))

theorem b_X12_same_33 {d : Nat} {Q : Option am_V → am_H → Prop} (h : am_H) (x3 : Int32) (x1 : Int32) (l2 l4 l5 : Option am_V) (Lh : Lay h) : ex_ (d + 1) 329 33 [some (v_r (some 93)), some (v_i x1), l2, some (v_i x3), l4, l5] [] h Q ↔ ex_ d 325 0 [some (v_r (some 93)), some (v_i x3), some (v_i x1), none, none, none, none] [] h (fun r h' => ex_ (d + 1) 329 39 [some (v_r (some 93)), some (v_i x1), l2, some (v_i x3), l4, l5] (r.toList ++ []) h' Q) := by
  unfold ex_
  refine (am_Y_go 3 (ok := []) (g := (36, [some (v_r (some 93)), some (v_i x1), l2, some (v_i x3), l4, l5], [v_i x1, v_i x3, v_r (some 93)], h)) rfl).trans ?_
  all_goals exact ((am_Y_call (j := 325) (na := 3) (ci := 12) (fl := 0) rfl rfl rfl).trans (cj_d ⟨⟨Nat.le_of_ble_eq_true rfl, Nat.le_of_ble_eq_true rfl, Nat.le_of_ble_eq_true rfl, rfl⟩, Or.inr (Or.inr (show (12 : Nat) < 20 ∧ am_is h (some 93) 12 from ⟨by decide, (la_is Lh (o := 93) rfl)⟩))⟩ Iff.rfl))

theorem b_X12_same_39 {d : Nat} {Q : Option am_V → am_H → Prop} (h : am_H) (x3 : Int32) (l1 l2 l4 l5 : Option am_V) (Lh : Lay h) : ex_ d 329 39 [some (v_r (some 93)), l1, l2, some (v_i x3), l4, l5] [] h Q ↔ vp_in x3 11 ∧ (if ¬ (h_i h 100 (Int32.toNatClampNeg x3)) = 0 then ex_ d 329 52 [some (v_r (some 93)), l1, l2, some (v_i x3), l4, l5] [] h Q else ex_ d 329 48 [some (v_r (some 93)), l1, l2, some (v_i x3), l4, l5] [] h Q) := by
  have e0 : h_r h 93 18 = some 100 := la_r Lh (q := (93, 18, 100)) (by decide)
  unfold ex_
  refine (am_Y_go 5 (ok := [am_is h (some 93) 12, am_ar h ((h_r h 93 18)) 20 x3]) (g := (if ¬ (h_i h ((h_r h 93 18).getD 0) (Int32.toNatClampNeg x3)) = 0 then 52 else 48, [some (v_r (some 93)), l1, l2, some (v_i x3), l4, l5], [], h)) rfl).trans ?_
  simp only [e0, Option.getD_some, am_all]
  all_goals exact cj_d (la_is Lh (o := 93) rfl) (cj_k (la_ar Lh (o := 100) rfl) (am_Y_if))

theorem b_X12_same_52 {d : Nat} {Q : Option am_V → am_H → Prop} (h : am_H) (l0 l1 l2 l3 l4 l5 : Option am_V) : ex_ d 329 52 [l0, l1, l2, l3, l4, l5] [] h Q ↔ ex_ d 329 58 [l0, l1, l2, l3, some (v_i (0 : Int32)), some (v_i (0 : Int32))] [] h Q := by
  unfold ex_
  refine (am_Y_go 4 (ok := []) (g := (58, [l0, l1, l2, l3, some (v_i (0 : Int32)), some (v_i (0 : Int32))], [], h)) rfl).trans ?_
  all_goals exact Iff.rfl

theorem b_X12_same_48 {d : Nat} {Q : Option am_V → am_H → Prop} (h : am_H) (l0 l1 l2 l3 l4 l5 : Option am_V) : ex_ d 329 48 [l0, l1, l2, l3, l4, l5] [] h Q ↔ ex_ d 329 58 [l0, l1, l2, l3, some (v_i (1 : Int32)), some (v_i (0 : Int32))] [] h Q := by
  unfold ex_
  refine (am_Y_go 5 (ok := []) (g := (58, [l0, l1, l2, l3, some (v_i (1 : Int32)), some (v_i (0 : Int32))], [], h)) rfl).trans ?_
  all_goals exact Iff.rfl

theorem b_X12_same_58 {d : Nat} {Q : Option am_V → am_H → Prop} (h : am_H) (x5 : Int32) (x3 : Int32) (l1 l2 l4 : Option am_V) (Lh : Lay h) : ex_ d 329 58 [some (v_r (some 93)), l1, l2, some (v_i x3), l4, some (v_i x5)] [] h Q ↔ vp_in x3 11 ∧ (if (h_i h 98 (Int32.toNatClampNeg x3)) ≤ x5 then ex_ d 329 107 [some (v_r (some 93)), l1, l2, some (v_i x3), l4, some (v_i x5)] [] h Q else ex_ d 329 69 [some (v_r (some 93)), l1, l2, some (v_i x3), l4, some (v_i x5)] [] h Q) := by
  have e0 : h_r h 93 16 = some 98 := la_r Lh (q := (93, 16, 98)) (by decide)
  unfold ex_
  refine (am_Y_go 6 (ok := [am_is h (some 93) 12, am_ar h ((h_r h 93 16)) 20 x3]) (g := (if (h_i h ((h_r h 93 16).getD 0) (Int32.toNatClampNeg x3)) ≤ x5 then 107 else 69, [some (v_r (some 93)), l1, l2, some (v_i x3), l4, some (v_i x5)], [], h)) rfl).trans ?_
  simp only [e0, Option.getD_some, am_all]
  all_goals exact cj_d (la_is Lh (o := 93) rfl) (cj_k (la_ar Lh (o := 98) rfl) (am_Y_if))

theorem b_X12_same_107 {d : Nat} {Q : Option am_V → am_H → Prop} (h : am_H) (x2 : Int32) (x4 : Int32) (l0 l1 l3 l5 : Option am_V) : ex_ d 329 107 [l0, l1, some (v_i x2), l3, some (v_i x4), l5] [] h Q ↔ if x4 = 0 then ex_ d 329 119 [l0, l1, some (v_i x2), l3, some (v_i x4), l5] [v_i x2] h Q else ex_ d 329 113 [l0, l1, some (v_i x2), l3, some (v_i x4), l5] [v_i x2] h Q := by
  unfold ex_
  refine (am_Y_go 3 (ok := []) (g := (if x4 = 0 then 119 else 113, [l0, l1, some (v_i x2), l3, some (v_i x4), l5], [v_i x2], h)) rfl).trans ?_
  all_goals exact am_Y_if

theorem b_X12_same_69 {d : Nat} {Q : Option am_V → am_H → Prop} (h : am_H) (x4 : Int32) (x3 : Int32) (x5 : Int32) (l1 l2 : Option am_V) (Lh : Lay h) : ex_ d 329 69 [some (v_r (some 93)), l1, l2, some (v_i x3), some (v_i x4), some (v_i x5)] [] h Q ↔ vp_in (((11 : Int32) * x3) + x5) 121 ∧ vp_in x5 4096 ∧ (if ¬ (h_i h 99 (Int32.toNatClampNeg (((11 : Int32) * x3) + x5))) = (h_i h 109 (Int32.toNatClampNeg x5)) then ex_ d 329 97 [some (v_r (some 93)), l1, l2, some (v_i x3), some (v_i x4), some (v_i x5)] [v_i x4] h Q else ex_ d 329 93 [some (v_r (some 93)), l1, l2, some (v_i x3), some (v_i x4), some (v_i x5)] [v_i x4] h Q) := by
  have e0 : h_r h 93 17 = some 99 := la_r Lh (q := (93, 17, 99)) (by decide)
  have e1 : h_r h 93 30 = some 109 := la_r Lh (q := (93, 30, 109)) (by decide)
  unfold ex_
  refine (am_Y_go 14 (ok := [am_is h (some 93) 12, am_ar h ((h_r h 93 17)) 20 (((11 : Int32) * x3) + x5), am_is h (some 93) 12, am_ar h ((h_r h 93 30)) 20 x5]) (g := (if ¬ (h_i h ((h_r h 93 17).getD 0) (Int32.toNatClampNeg (((11 : Int32) * x3) + x5))) = (h_i h ((h_r h 93 30).getD 0) (Int32.toNatClampNeg x5)) then 97 else 93, [some (v_r (some 93)), l1, l2, some (v_i x3), some (v_i x4), some (v_i x5)], [v_i x4], h)) rfl).trans ?_
  simp only [e0, e1, Option.getD_some, am_all]
  all_goals exact cj_d (la_is Lh (o := 93) rfl) (cj_k (la_ar Lh (o := 99) rfl) (cj_d (la_is Lh (o := 93) rfl) (cj_k (la_ar Lh (o := 109) rfl) (am_Y_if))))

theorem b_X12_same_119 {d : Nat} {Q : Option am_V → am_H → Prop} (h : am_H) (s0 : Int32) (x3 : Int32) (l0 l1 l2 l4 l5 : Option am_V) : ex_ d 329 119 [l0, l1, l2, some (v_i x3), l4, l5] [v_i s0] h Q ↔ ex_ d 329 23 [l0, l1, some (v_i (s0 ||| (0 : Int32))), some (v_i (x3 + (1 : Int32))), l4, l5] [] h Q := by
  unfold ex_
  refine (am_Y_go 5 (ok := []) (g := (23, [l0, l1, some (v_i (s0 ||| (0 : Int32))), some (v_i (x3 + (1 : Int32))), l4, l5], [], h)) rfl).trans ?_
  all_goals exact Iff.rfl

theorem b_X12_same_113 {d : Nat} {Q : Option am_V → am_H → Prop} (h : am_H) (s0 : Int32) (x3 : Int32) (l0 l1 l2 l4 l5 : Option am_V) : ex_ d 329 113 [l0, l1, l2, some (v_i x3), l4, l5] [v_i s0] h Q ↔ ex_ d 329 23 [l0, l1, some (v_i (s0 ||| ((1 : Int32) <<< (x3 &&& 31)))), some (v_i (x3 + (1 : Int32))), l4, l5] [] h Q := by
  unfold ex_
  refine (am_Y_go 8 (ok := []) (g := (23, [l0, l1, some (v_i (s0 ||| ((1 : Int32) <<< (x3 &&& 31)))), some (v_i (x3 + (1 : Int32))), l4, l5], [], h)) rfl).trans ?_
  all_goals exact Iff.rfl

theorem b_X12_same_97 {d : Nat} {Q : Option am_V → am_H → Prop} (h : am_H) (s0 : Int32) (x5 : Int32) (l0 l1 l2 l3 l4 : Option am_V) : ex_ d 329 97 [l0, l1, l2, l3, l4, some (v_i x5)] [v_i s0] h Q ↔ ex_ d 329 58 [l0, l1, l2, l3, some (v_i (s0 &&& (0 : Int32))), some (v_i (x5 + (1 : Int32)))] [] h Q := by
  unfold ex_
  refine (am_Y_go 5 (ok := []) (g := (58, [l0, l1, l2, l3, some (v_i (s0 &&& (0 : Int32))), some (v_i (x5 + (1 : Int32)))], [], h)) rfl).trans ?_
  all_goals exact Iff.rfl

theorem b_X12_same_93 {d : Nat} {Q : Option am_V → am_H → Prop} (h : am_H) (s0 : Int32) (x5 : Int32) (l0 l1 l2 l3 l4 : Option am_V) : ex_ d 329 93 [l0, l1, l2, l3, l4, some (v_i x5)] [v_i s0] h Q ↔ ex_ d 329 58 [l0, l1, l2, l3, some (v_i (s0 &&& (1 : Int32))), some (v_i (x5 + (1 : Int32)))] [] h Q := by
  unfold ex_
  refine (am_Y_go 6 (ok := []) (g := (58, [l0, l1, l2, l3, some (v_i (s0 &&& (1 : Int32))), some (v_i (x5 + (1 : Int32)))], [], h)) rfl).trans ?_
  all_goals exact Iff.rfl

theorem b_X12_keptIn_0 {d : Nat} {Q : Option am_V → am_H → Prop} (h : am_H) (x0 : Int64) (l1 : Option am_V) : ex_ d 330 0 [some (v_l x0), l1] [] h Q ↔ if (lg_cmp x0 (1000000 : Int64)) ≤ 0 then ex_ d 330 14 [some (v_l x0), l1] [] h Q else ex_ d 330 8 [some (v_l x0), l1] [] h Q := by
  unfold ex_
  refine (am_Y_go 4 (ok := []) (g := (if (lg_cmp x0 (1000000 : Int64)) ≤ 0 then 14 else 8, [some (v_l x0), l1], [], h)) rfl).trans ?_
  all_goals exact am_Y_if

theorem b_X12_keptIn_14 {d : Nat} {Q : Option am_V → am_H → Prop} (h : am_H) (x0 : Int64) (l1 : Option am_V) : ex_ d 330 14 [some (v_l x0), l1] [] h Q ↔ if 0 ≤ (lg_cmp x0 (-1000000 : Int64)) then ex_ d 330 28 [some (v_l x0), l1] [] h Q else ex_ d 330 22 [some (v_l x0), l1] [] h Q := by
  unfold ex_
  refine (am_Y_go 4 (ok := []) (g := (if 0 ≤ (lg_cmp x0 (-1000000 : Int64)) then 28 else 22, [some (v_l x0), l1], [], h)) rfl).trans ?_
  all_goals exact am_Y_if

theorem b_X12_keptIn_8 {d : Nat} {Q : Option am_V → am_H → Prop} (h : am_H) (l0 l1 : Option am_V) : ex_ d 330 8 [l0, l1] [] h Q ↔ Q (some (v_i (Int64.toInt32 (1000000 : Int64)))) h := by
  unfold ex_
  refine (am_Y_go 3 (ok := []) (g := (30, [l0, l1], [v_i (Int64.toInt32 (1000000 : Int64))], h)) rfl).trans ?_
  all_goals exact ((am_Y_ret rfl rfl rfl).trans (am_r0))

theorem b_X12_keptIn_28 {d : Nat} {Q : Option am_V → am_H → Prop} (h : am_H) (x0 : Int64) (l1 : Option am_V) : ex_ d 330 28 [some (v_l x0), l1] [] h Q ↔ Q (some (v_i (Int64.toInt32 x0))) h := by
  unfold ex_
  refine (am_Y_go 2 (ok := []) (g := (30, [some (v_l x0), l1], [v_i (Int64.toInt32 x0)], h)) rfl).trans ?_
  all_goals exact ((am_Y_ret rfl rfl rfl).trans (am_r0))

theorem b_X12_keptIn_22 {d : Nat} {Q : Option am_V → am_H → Prop} (h : am_H) (l0 l1 : Option am_V) : ex_ d 330 22 [l0, l1] [] h Q ↔ Q (some (v_i (Int64.toInt32 (-1000000 : Int64)))) h := by
  unfold ex_
  refine (am_Y_go 3 (ok := []) (g := (30, [l0, l1], [v_i (Int64.toInt32 (-1000000 : Int64))], h)) rfl).trans ?_
  all_goals exact ((am_Y_ret rfl rfl rfl).trans (am_r0))

theorem b_X12_between_0 {d : Nat} {Q : Option am_V → am_H → Prop} (h : am_H) (x0 : Int32) (l1 l2 : Option am_V) : ex_ d 331 0 [some (v_i x0), l1, l2] [] h Q ↔ if x0 = (3003 : Int32) then ex_ d 331 40 [some (v_i x0), l1, l2] [] h Q else if x0 = (3004 : Int32) then ex_ d 331 51 [some (v_i x0), l1, l2] [] h Q else if x0 = (3005 : Int32) then ex_ d 331 62 [some (v_i x0), l1, l2] [] h Q else if x0 = (3006 : Int32) then ex_ d 331 81 [some (v_i x0), l1, l2] [] h Q else if x0 = (3007 : Int32) then ex_ d 331 73 [some (v_i x0), l1, l2] [] h Q else if x0 = (3008 : Int32) then ex_ d 331 77 [some (v_i x0), l1, l2] [] h Q else ex_ d 331 81 [some (v_i x0), l1, l2] [] h Q := by
  unfold ex_
  refine (am_Y_go 2 (ok := []) (g := (am_sw x0 81 [((3003 : Int32), 40), ((3004 : Int32), 51), ((3005 : Int32), 62), ((3006 : Int32), 81), ((3007 : Int32), 73), ((3008 : Int32), 77)], [some (v_i x0), l1, l2], [], h)) rfl).trans ?_
  all_goals exact (by simp only [am_sw, am_Y_if, am_all])

theorem b_X12_between_81 {d : Nat} {Q : Option am_V → am_H → Prop} (h : am_H) (x0 : Int32) (l1 l2 : Option am_V) : ex_ d 331 81 [some (v_i x0), l1, l2] [] h Q ↔ if ¬ x0 = (3000 : Int32) then ex_ d 331 96 [some (v_i x0), l1, l2] [] h Q else ex_ d 331 88 [some (v_i x0), l1, l2] [] h Q := by
  unfold ex_
  refine (am_Y_go 3 (ok := []) (g := (if ¬ x0 = (3000 : Int32) then 96 else 88, [some (v_i x0), l1, l2], [], h)) rfl).trans ?_
  all_goals exact am_Y_if

theorem b_X12_between_40 {d : Nat} {Q : Option am_V → am_H → Prop} (h : am_H) (x1 : Int32) (x2 : Int32) (l0 : Option am_V) : ex_ d 331 40 [l0, some (v_i x1), some (v_i x2)] [] h Q ↔ if ¬ x1 = x2 then ex_ d 331 49 [l0, some (v_i x1), some (v_i x2)] [] h Q else ex_ d 331 45 [l0, some (v_i x1), some (v_i x2)] [] h Q := by
  unfold ex_
  refine (am_Y_go 3 (ok := []) (g := (if ¬ x1 = x2 then 49 else 45, [l0, some (v_i x1), some (v_i x2)], [], h)) rfl).trans ?_
  all_goals exact am_Y_if

theorem b_X12_between_51 {d : Nat} {Q : Option am_V → am_H → Prop} (h : am_H) (x1 : Int32) (x2 : Int32) (l0 : Option am_V) : ex_ d 331 51 [l0, some (v_i x1), some (v_i x2)] [] h Q ↔ if x2 ≤ x1 then ex_ d 331 60 [l0, some (v_i x1), some (v_i x2)] [] h Q else ex_ d 331 56 [l0, some (v_i x1), some (v_i x2)] [] h Q := by
  unfold ex_
  refine (am_Y_go 3 (ok := []) (g := (if x2 ≤ x1 then 60 else 56, [l0, some (v_i x1), some (v_i x2)], [], h)) rfl).trans ?_
  all_goals exact am_Y_if

theorem b_X12_between_62 {d : Nat} {Q : Option am_V → am_H → Prop} (h : am_H) (x1 : Int32) (x2 : Int32) (l0 : Option am_V) : ex_ d 331 62 [l0, some (v_i x1), some (v_i x2)] [] h Q ↔ if x1 ≤ x2 then ex_ d 331 71 [l0, some (v_i x1), some (v_i x2)] [] h Q else ex_ d 331 67 [l0, some (v_i x1), some (v_i x2)] [] h Q := by
  unfold ex_
  refine (am_Y_go 3 (ok := []) (g := (if x1 ≤ x2 then 71 else 67, [l0, some (v_i x1), some (v_i x2)], [], h)) rfl).trans ?_
  all_goals exact am_Y_if

theorem b_X12_between_73 {d : Nat} {Q : Option am_V → am_H → Prop} (h : am_H) (x1 : Int32) (x2 : Int32) (l0 : Option am_V) : ex_ d 331 73 [l0, some (v_i x1), some (v_i x2)] [] h Q ↔ Q (some (v_i (x1 &&& x2))) h := by
  unfold ex_
  refine (am_Y_go 3 (ok := []) (g := (76, [l0, some (v_i x1), some (v_i x2)], [v_i (x1 &&& x2)], h)) rfl).trans ?_
  all_goals exact ((am_Y_ret rfl rfl rfl).trans (am_r0))

theorem b_X12_between_77 {d : Nat} {Q : Option am_V → am_H → Prop} (h : am_H) (x1 : Int32) (x2 : Int32) (l0 : Option am_V) : ex_ d 331 77 [l0, some (v_i x1), some (v_i x2)] [] h Q ↔ Q (some (v_i (x1 ||| x2))) h := by
  unfold ex_
  refine (am_Y_go 3 (ok := []) (g := (80, [l0, some (v_i x1), some (v_i x2)], [v_i (x1 ||| x2)], h)) rfl).trans ?_
  all_goals exact ((am_Y_ret rfl rfl rfl).trans (am_r0))

theorem b_X12_between_96 {d : Nat} {Q : Option am_V → am_H → Prop} (h : am_H) (x0 : Int32) (l1 l2 : Option am_V) : ex_ d 331 96 [some (v_i x0), l1, l2] [] h Q ↔ if ¬ x0 = (3001 : Int32) then ex_ d 331 111 [some (v_i x0), l1, l2] [] h Q else ex_ d 331 103 [some (v_i x0), l1, l2] [] h Q := by
  unfold ex_
  refine (am_Y_go 3 (ok := []) (g := (if ¬ x0 = (3001 : Int32) then 111 else 103, [some (v_i x0), l1, l2], [], h)) rfl).trans ?_
  all_goals exact am_Y_if

theorem b_X12_between_88 {d : Nat} {Q : Option am_V → am_H → Prop} (h : am_H) (x1 : Int32) (x2 : Int32) (l0 : Option am_V) : ex_ (d + 1) 331 88 [l0, some (v_i x1), some (v_i x2)] [] h Q ↔ ex_ d 330 0 [some (v_l ((Int32.toInt64 x1) + (Int32.toInt64 x2))), none] [] h (fun r h' => ex_ (d + 1) 331 119 [l0, some (v_i x1), some (v_i x2)] (r.toList ++ []) h' Q) := by
  unfold ex_
  refine (am_Y_go 6 (ok := []) (g := (116, [l0, some (v_i x1), some (v_i x2)], [v_l ((Int32.toInt64 x1) + (Int32.toInt64 x2))], h)) rfl).trans ?_
  all_goals exact ((am_Y_call (j := 330) (na := 1) (ci := 12) (fl := 2) rfl rfl rfl).trans (cj_d ⟨⟨Nat.le_of_ble_eq_true rfl, Nat.le_of_ble_eq_true rfl, Nat.le_of_ble_eq_true rfl, rfl⟩, Or.inl rfl⟩ Iff.rfl))

theorem b_X12_between_49 {d : Nat} {Q : Option am_V → am_H → Prop} (h : am_H) (l0 l1 l2 : Option am_V) : ex_ d 331 49 [l0, l1, l2] [] h Q ↔ Q (some (v_i (0 : Int32))) h := by
  unfold ex_
  refine (am_Y_go 1 (ok := []) (g := (50, [l0, l1, l2], [v_i (0 : Int32)], h)) rfl).trans ?_
  all_goals exact ((am_Y_ret rfl rfl rfl).trans (am_r0))

theorem b_X12_between_45 {d : Nat} {Q : Option am_V → am_H → Prop} (h : am_H) (l0 l1 l2 : Option am_V) : ex_ d 331 45 [l0, l1, l2] [] h Q ↔ Q (some (v_i (1 : Int32))) h := by
  unfold ex_
  refine (am_Y_go 2 (ok := []) (g := (50, [l0, l1, l2], [v_i (1 : Int32)], h)) rfl).trans ?_
  all_goals exact ((am_Y_ret rfl rfl rfl).trans (am_r0))

theorem b_X12_between_60 {d : Nat} {Q : Option am_V → am_H → Prop} (h : am_H) (l0 l1 l2 : Option am_V) : ex_ d 331 60 [l0, l1, l2] [] h Q ↔ Q (some (v_i (0 : Int32))) h := by
  unfold ex_
  refine (am_Y_go 1 (ok := []) (g := (61, [l0, l1, l2], [v_i (0 : Int32)], h)) rfl).trans ?_
  all_goals exact ((am_Y_ret rfl rfl rfl).trans (am_r0))

theorem b_X12_between_56 {d : Nat} {Q : Option am_V → am_H → Prop} (h : am_H) (l0 l1 l2 : Option am_V) : ex_ d 331 56 [l0, l1, l2] [] h Q ↔ Q (some (v_i (1 : Int32))) h := by
  unfold ex_
  refine (am_Y_go 2 (ok := []) (g := (61, [l0, l1, l2], [v_i (1 : Int32)], h)) rfl).trans ?_
  all_goals exact ((am_Y_ret rfl rfl rfl).trans (am_r0))

theorem b_X12_between_71 {d : Nat} {Q : Option am_V → am_H → Prop} (h : am_H) (l0 l1 l2 : Option am_V) : ex_ d 331 71 [l0, l1, l2] [] h Q ↔ Q (some (v_i (0 : Int32))) h := by
  unfold ex_
  refine (am_Y_go 1 (ok := []) (g := (72, [l0, l1, l2], [v_i (0 : Int32)], h)) rfl).trans ?_
  all_goals exact ((am_Y_ret rfl rfl rfl).trans (am_r0))

theorem b_X12_between_67 {d : Nat} {Q : Option am_V → am_H → Prop} (h : am_H) (l0 l1 l2 : Option am_V) : ex_ d 331 67 [l0, l1, l2] [] h Q ↔ Q (some (v_i (1 : Int32))) h := by
  unfold ex_
  refine (am_Y_go 2 (ok := []) (g := (72, [l0, l1, l2], [v_i (1 : Int32)], h)) rfl).trans ?_
  all_goals exact ((am_Y_ret rfl rfl rfl).trans (am_r0))

theorem b_X12_between_111 {d : Nat} {Q : Option am_V → am_H → Prop} (h : am_H) (x1 : Int32) (x2 : Int32) (l0 : Option am_V) : ex_ (d + 1) 331 111 [l0, some (v_i x1), some (v_i x2)] [] h Q ↔ ex_ d 330 0 [some (v_l ((Int32.toInt64 x1) * (Int32.toInt64 x2))), none] [] h (fun r h' => ex_ (d + 1) 331 119 [l0, some (v_i x1), some (v_i x2)] (r.toList ++ []) h' Q) := by
  unfold ex_
  refine (am_Y_go 5 (ok := []) (g := (116, [l0, some (v_i x1), some (v_i x2)], [v_l ((Int32.toInt64 x1) * (Int32.toInt64 x2))], h)) rfl).trans ?_
  all_goals exact ((am_Y_call (j := 330) (na := 1) (ci := 12) (fl := 2) rfl rfl rfl).trans (cj_d ⟨⟨Nat.le_of_ble_eq_true rfl, Nat.le_of_ble_eq_true rfl, Nat.le_of_ble_eq_true rfl, rfl⟩, Or.inl rfl⟩ Iff.rfl))

theorem b_X12_between_103 {d : Nat} {Q : Option am_V → am_H → Prop} (h : am_H) (x1 : Int32) (x2 : Int32) (l0 : Option am_V) : ex_ (d + 1) 331 103 [l0, some (v_i x1), some (v_i x2)] [] h Q ↔ ex_ d 330 0 [some (v_l ((Int32.toInt64 x1) - (Int32.toInt64 x2))), none] [] h (fun r h' => ex_ (d + 1) 331 119 [l0, some (v_i x1), some (v_i x2)] (r.toList ++ []) h' Q) := by
  unfold ex_
  refine (am_Y_go 6 (ok := []) (g := (116, [l0, some (v_i x1), some (v_i x2)], [v_l ((Int32.toInt64 x1) - (Int32.toInt64 x2))], h)) rfl).trans ?_
  all_goals exact ((am_Y_call (j := 330) (na := 1) (ci := 12) (fl := 2) rfl rfl rfl).trans (cj_d ⟨⟨Nat.le_of_ble_eq_true rfl, Nat.le_of_ble_eq_true rfl, Nat.le_of_ble_eq_true rfl, rfl⟩, Or.inl rfl⟩ Iff.rfl))

theorem b_X12_between_119 {d : Nat} {Q : Option am_V → am_H → Prop} (h : am_H) (s0 : Int32) (l0 l1 l2 : Option am_V) : ex_ d 331 119 [l0, l1, l2] [v_i s0] h Q ↔ Q (some (v_i s0)) h := by
  unfold ex_
  exact ((am_Y_ret rfl rfl rfl).trans (am_r0))

theorem b_X12_reckons_0 {d : Nat} {Q : Option am_V → am_H → Prop} (h : am_H) (l0 l1 l2 l3 l4 : Option am_V) : ex_ d 332 0 [l0, l1, l2, l3, l4] [] h Q ↔ ex_ d 332 4 [l0, l1, some (v_i (0 : Int32)), some (v_i (0 : Int32)), l4] [] h Q := by
  unfold ex_
  refine (am_Y_go 4 (ok := []) (g := (4, [l0, l1, some (v_i (0 : Int32)), some (v_i (0 : Int32)), l4], [], h)) rfl).trans ?_
  all_goals exact Iff.rfl

theorem b_X12_reckons_4 {d : Nat} {Q : Option am_V → am_H → Prop} (h : am_H) (x3 : Int32) (x1 : Int32) (l2 l4 : Option am_V) (Lh : Lay h) : ex_ d 332 4 [some (v_r (some 93)), some (v_i x1), l2, some (v_i x3), l4] [] h Q ↔ vp_in ((6 : Int32) + x1) 7053 ∧ (if (h_i h 94 (Int32.toNatClampNeg ((6 : Int32) + x1))) ≤ x3 then ex_ d 332 198 [some (v_r (some 93)), some (v_i x1), l2, some (v_i x3), l4] [] h Q else ex_ d 332 17 [some (v_r (some 93)), some (v_i x1), l2, some (v_i x3), l4] [] h Q) := by
  have e0 : h_r h 93 1 = some 94 := la_r Lh (q := (93, 1, 94)) (by decide)
  unfold ex_
  refine (am_Y_go 8 (ok := [am_is h (some 93) 12, am_ar h ((h_r h 93 1)) 20 ((6 : Int32) + x1)]) (g := (if (h_i h ((h_r h 93 1).getD 0) (Int32.toNatClampNeg ((6 : Int32) + x1))) ≤ x3 then 198 else 17, [some (v_r (some 93)), some (v_i x1), l2, some (v_i x3), l4], [], h)) rfl).trans ?_
  simp only [e0, Option.getD_some, am_all]
  all_goals exact cj_d (la_is Lh (o := 93) rfl) (cj_k (la_ar Lh (o := 94) rfl) (am_Y_if))

theorem b_X12_reckons_198 {d : Nat} {Q : Option am_V → am_H → Prop} (h : am_H) (l1 l2 l3 l4 : Option am_V) (Lh : Lay h) : ex_ d 332 198 [some (v_r (some 93)), l1, l2, l3, l4] [] h Q ↔ vp_in (0 : Int32) 900 ∧ Q (some (v_i (h_i h 110 (Int32.toNatClampNeg (0 : Int32))))) h := by
  have e0 : h_r h 93 32 = some 110 := la_r Lh (q := (93, 32, 110)) (by decide)
  unfold ex_
  refine (am_Y_go 4 (ok := [am_is h (some 93) 12, am_ar h ((h_r h 93 32)) 20 (0 : Int32)]) (g := (204, [some (v_r (some 93)), l1, l2, l3, l4], [v_i (h_i h ((h_r h 93 32).getD 0) (Int32.toNatClampNeg (0 : Int32)))], h)) rfl).trans ?_
  simp only [e0, Option.getD_some, am_all]
  all_goals exact cj_d (la_is Lh (o := 93) rfl) (cj_k (la_ar Lh (o := 110) rfl) (((am_Y_ret rfl rfl rfl).trans (am_r0))))

theorem b_X12_reckons_17 {d : Nat} {Q : Option am_V → am_H → Prop} (h : am_H) (x1 : Int32) (x3 : Int32) (l2 l4 : Option am_V) (Lh : Lay h) : ex_ d 332 17 [some (v_r (some 93)), some (v_i x1), l2, some (v_i x3), l4] [] h Q ↔ vp_in ((4 : Int32) + x1) 7053 ∧ vp_in (((1451 : Int32) + (h_i h 94 (Int32.toNatClampNeg ((4 : Int32) + x1)))) + x3) 7053 ∧ (if (3000 : Int32) ≤ (h_i h 94 (Int32.toNatClampNeg (((1451 : Int32) + (h_i h 94 (Int32.toNatClampNeg ((4 : Int32) + x1)))) + x3))) then ex_ d 332 82 [some (v_r (some 93)), some (v_i x1), l2, some (v_i x3), some (v_i (h_i h 94 (Int32.toNatClampNeg (((1451 : Int32) + (h_i h 94 (Int32.toNatClampNeg ((4 : Int32) + x1)))) + x3))))] [] h Q else ex_ d 332 46 [some (v_r (some 93)), some (v_i x1), l2, some (v_i x3), some (v_i (h_i h 94 (Int32.toNatClampNeg (((1451 : Int32) + (h_i h 94 (Int32.toNatClampNeg ((4 : Int32) + x1)))) + x3))))] [] h Q) := by
  have e0 : h_r h 93 1 = some 94 := la_r Lh (q := (93, 1, 94)) (by decide)
  unfold ex_
  refine (am_Y_go 17 (ok := [am_is h (some 93) 12, am_is h (some 93) 12, am_ar h ((h_r h 93 1)) 20 ((4 : Int32) + x1), am_ar h ((h_r h 93 1)) 20 (((1451 : Int32) + (h_i h ((h_r h 93 1).getD 0) (Int32.toNatClampNeg ((4 : Int32) + x1)))) + x3)]) (g := (if (3000 : Int32) ≤ (h_i h ((h_r h 93 1).getD 0) (Int32.toNatClampNeg (((1451 : Int32) + (h_i h ((h_r h 93 1).getD 0) (Int32.toNatClampNeg ((4 : Int32) + x1)))) + x3))) then 82 else 46, [some (v_r (some 93)), some (v_i x1), l2, some (v_i x3), some (v_i (h_i h ((h_r h 93 1).getD 0) (Int32.toNatClampNeg (((1451 : Int32) + (h_i h ((h_r h 93 1).getD 0) (Int32.toNatClampNeg ((4 : Int32) + x1)))) + x3))))], [], h)) rfl).trans ?_
  simp only [e0, Option.getD_some, am_all]
  all_goals exact cj_d (la_is Lh (o := 93) rfl) (cj_d (la_is Lh (o := 93) rfl) (cj_k (la_ar Lh (o := 94) rfl) (cj_k (la_ar Lh (o := 94) rfl) (am_Y_if))))

theorem b_X12_reckons_82 {d : Nat} {Q : Option am_V → am_H → Prop} (h : am_H) (x4 : Int32) (l0 l1 l2 l3 : Option am_V) : ex_ d 332 82 [l0, l1, l2, l3, some (v_i x4)] [] h Q ↔ if ¬ x4 = (3006 : Int32) then ex_ d 332 111 [l0, l1, l2, l3, some (v_i x4)] [] h Q else ex_ d 332 90 [l0, l1, l2, l3, some (v_i x4)] [] h Q := by
  unfold ex_
  refine (am_Y_go 3 (ok := []) (g := (if ¬ x4 = (3006 : Int32) then 111 else 90, [l0, l1, l2, l3, some (v_i x4)], [], h)) rfl).trans ?_
  all_goals exact am_Y_if

theorem b_X12_reckons_46 {d : Nat} {Q : Option am_V → am_H → Prop} (h : am_H) (x2 : Int32) (x4 : Int32) (l1 l3 : Option am_V) (Lh : Lay h) : ex_ d 332 46 [some (v_r (some 93)), l1, some (v_i x2), l3, some (v_i x4)] [] h Q ↔ if (1000 : Int32) ≤ x4 then ex_ d 332 64 [some (v_r (some 93)), l1, some (v_i x2), l3, some (v_i x4)] [v_i x2, v_r (some 110)] h Q else ex_ d 332 59 [some (v_r (some 93)), l1, some (v_i x2), l3, some (v_i x4)] [v_i x2, v_r (some 110)] h Q := by
  have e0 : h_r h 93 32 = some 110 := la_r Lh (q := (93, 32, 110)) (by decide)
  unfold ex_
  refine (am_Y_go 6 (ok := [am_is h (some 93) 12]) (g := (if (1000 : Int32) ≤ x4 then 64 else 59, [some (v_r (some 93)), l1, some (v_i x2), l3, some (v_i x4)], [v_i x2, v_r ((h_r h 93 32))], h)) rfl).trans ?_
  simp only [e0, Option.getD_some, am_all]
  all_goals exact cj_d (la_is Lh (o := 93) rfl) (am_Y_if)

theorem b_X12_reckons_111 {d : Nat} {Q : Option am_V → am_H → Prop} (h : am_H) (x4 : Int32) (l0 l1 l2 l3 : Option am_V) : ex_ d 332 111 [l0, l1, l2, l3, some (v_i x4)] [] h Q ↔ if ¬ x4 = (3009 : Int32) then ex_ d 332 162 [l0, l1, l2, l3, some (v_i x4)] [] h Q else ex_ d 332 119 [l0, l1, l2, l3, some (v_i x4)] [] h Q := by
  unfold ex_
  refine (am_Y_go 3 (ok := []) (g := (if ¬ x4 = (3009 : Int32) then 162 else 119, [l0, l1, l2, l3, some (v_i x4)], [], h)) rfl).trans ?_
  all_goals exact am_Y_if

theorem b_X12_reckons_90 {d : Nat} {Q : Option am_V → am_H → Prop} (h : am_H) (x2 : Int32) (x3 : Int32) (l1 l4 : Option am_V) (Lh : Lay h) : ex_ d 332 90 [some (v_r (some 93)), l1, some (v_i x2), some (v_i x3), l4] [] h Q ↔ vp_in (x2 - (1 : Int32)) 900 ∧ vp_in (x2 - (1 : Int32)) 900 ∧ ex_ d 332 4 [some (v_r (some 93)), l1, some (v_i x2), some (v_i (x3 + (1 : Int32))), l4] [] (p_i h 110 (Int32.toNatClampNeg (x2 - (1 : Int32))) ((1 : Int32) - (h_i h 110 (Int32.toNatClampNeg (x2 - (1 : Int32)))))) Q := by
  have e0 : h_r h 93 32 = some 110 := la_r Lh (q := (93, 32, 110)) (by decide)
  unfold ex_
  refine (am_Y_go 17 (ok := [am_is h (some 93) 12, am_is h (some 93) 12, am_ar h ((h_r h 93 32)) 20 (x2 - (1 : Int32)), am_ar h ((h_r h 93 32)) 20 (x2 - (1 : Int32))]) (g := (4, [some (v_r (some 93)), l1, some (v_i x2), some (v_i (x3 + (1 : Int32))), l4], [], (p_i h ((h_r h 93 32).getD 0) (Int32.toNatClampNeg (x2 - (1 : Int32))) ((1 : Int32) - (h_i h ((h_r h 93 32).getD 0) (Int32.toNatClampNeg (x2 - (1 : Int32)))))))) rfl).trans ?_
  simp only [e0, Option.getD_some, am_all]
  all_goals exact cj_d (la_is Lh (o := 93) rfl) (cj_d (la_is Lh (o := 93) rfl) (cj_k (la_ar Lh (o := 110) rfl) (cj_k (la_ar Lh (o := 110) rfl) (Iff.rfl))))

theorem b_X12_reckons_64 {d : Nat} {Q : Option am_V → am_H → Prop} (h : am_H) (s0 : Int32) (t1 : Nat) (x4 : Int32) (x2 : Int32) (x3 : Int32) (l1 : Option am_V) (Lh : Lay h) {n_t1 : Nat} (A_t1 : y_arr h t1 20 n_t1) : ex_ d 332 64 [some (v_r (some 93)), l1, some (v_i x2), some (v_i x3), some (v_i x4)] [v_i s0, v_r (some t1)] h Q ↔ vp_in (x4 - (1000 : Int32)) 6 ∧ vp_in s0 n_t1 ∧ ex_ d 332 4 [some (v_r (some 93)), l1, some (v_i (x2 + (1 : Int32))), some (v_i (x3 + (1 : Int32))), some (v_i x4)] [] (p_i h t1 (Int32.toNatClampNeg s0) (h_i h 111 (Int32.toNatClampNeg (x4 - (1000 : Int32))))) Q := by
  have e0 : h_r h 93 33 = some 111 := la_r Lh (q := (93, 33, 111)) (by decide)
  unfold ex_
  refine (am_Y_go 11 (ok := [am_is h (some 93) 12, am_ar h ((h_r h 93 33)) 20 (x4 - (1000 : Int32)), am_ar h (some t1) 20 s0]) (g := (4, [some (v_r (some 93)), l1, some (v_i (x2 + (1 : Int32))), some (v_i (x3 + (1 : Int32))), some (v_i x4)], [], (p_i h t1 (Int32.toNatClampNeg s0) (h_i h ((h_r h 93 33).getD 0) (Int32.toNatClampNeg (x4 - (1000 : Int32))))))) rfl).trans ?_
  simp only [e0, Option.getD_some, am_all]
  all_goals exact cj_d (la_is Lh (o := 93) rfl) (cj_k (la_ar Lh (o := 111) rfl) (cj_k (lb_ar A_t1) (Iff.rfl)))

theorem b_X12_reckons_59 {d : Nat} {Q : Option am_V → am_H → Prop} (h : am_H) (s0 : Int32) (t1 : Nat) (x4 : Int32) (x2 : Int32) (x3 : Int32) (l0 l1 : Option am_V) {n_t1 : Nat} (A_t1 : y_arr h t1 20 n_t1) : ex_ d 332 59 [l0, l1, some (v_i x2), some (v_i x3), some (v_i x4)] [v_i s0, v_r (some t1)] h Q ↔ vp_in s0 n_t1 ∧ ex_ d 332 4 [l0, l1, some (v_i (x2 + (1 : Int32))), some (v_i (x3 + (1 : Int32))), some (v_i x4)] [] (p_i h t1 (Int32.toNatClampNeg s0) x4) Q := by
  unfold ex_
  refine (am_Y_go 7 (ok := [am_ar h (some t1) 20 s0]) (g := (4, [l0, l1, some (v_i (x2 + (1 : Int32))), some (v_i (x3 + (1 : Int32))), some (v_i x4)], [], (p_i h t1 (Int32.toNatClampNeg s0) x4))) rfl).trans ?_
  simp only [am_all]
  all_goals exact cj_k (lb_ar A_t1) (Iff.rfl)

theorem b_X12_reckons_162 {d : Nat} {Q : Option am_V → am_H → Prop} (h : am_H) (x2 : Int32) (x4 : Int32) (l1 l3 : Option am_V) (Lh : Lay h) : ex_ (d + 1) 332 162 [some (v_r (some 93)), l1, some (v_i x2), l3, some (v_i x4)] [] h Q ↔ vp_in ((x2 + (-1 : Int32)) - (1 : Int32)) 900 ∧ vp_in (x2 + (-1 : Int32)) 900 ∧ ex_ d 331 0 [some (v_i x4), some (v_i (h_i h 110 (Int32.toNatClampNeg ((x2 + (-1 : Int32)) - (1 : Int32))))), some (v_i (h_i h 110 (Int32.toNatClampNeg (x2 + (-1 : Int32)))))] [] h (fun r h' => ex_ (d + 1) 332 191 [some (v_r (some 93)), l1, some (v_i (x2 + (-1 : Int32))), l3, some (v_i x4)] (r.toList ++ [v_i ((x2 + (-1 : Int32)) - (1 : Int32)), v_r (some 110)]) h' Q) := by
  have e0 : h_r h 93 32 = some 110 := la_r Lh (q := (93, 32, 110)) (by decide)
  unfold ex_
  refine (am_Y_go 17 (ok := [am_is h (some 93) 12, am_is h (some 93) 12, am_ar h ((h_r h 93 32)) 20 ((x2 + (-1 : Int32)) - (1 : Int32)), am_is h (some 93) 12, am_ar h ((h_r h 93 32)) 20 (x2 + (-1 : Int32))]) (g := (188, [some (v_r (some 93)), l1, some (v_i (x2 + (-1 : Int32))), l3, some (v_i x4)], [v_i (h_i h ((h_r h 93 32).getD 0) (Int32.toNatClampNeg (x2 + (-1 : Int32)))), v_i (h_i h ((h_r h 93 32).getD 0) (Int32.toNatClampNeg ((x2 + (-1 : Int32)) - (1 : Int32)))), v_i x4, v_i ((x2 + (-1 : Int32)) - (1 : Int32)), v_r ((h_r h 93 32))], h)) rfl).trans ?_
  simp only [e0, Option.getD_some, am_all]
  all_goals exact cj_d (la_is Lh (o := 93) rfl) (cj_d (la_is Lh (o := 93) rfl) (cj_k (la_ar Lh (o := 110) rfl) (cj_d (la_is Lh (o := 93) rfl) (cj_k (la_ar Lh (o := 110) rfl) (((am_Y_call (j := 331) (na := 3) (ci := 12) (fl := 2) rfl rfl rfl).trans (cj_d ⟨⟨Nat.le_of_ble_eq_true rfl, Nat.le_of_ble_eq_true rfl, Nat.le_of_ble_eq_true rfl, rfl⟩, Or.inl rfl⟩ Iff.rfl)))))))

theorem b_X12_reckons_119 {d : Nat} {Q : Option am_V → am_H → Prop} (h : am_H) (x2 : Int32) (l1 l3 l4 : Option am_V) (Lh : Lay h) : ex_ d 332 119 [some (v_r (some 93)), l1, some (v_i x2), l3, l4] [] h Q ↔ vp_in ((x2 + (-2 : Int32)) - (1 : Int32)) 900 ∧ (if ¬ (h_i h 110 (Int32.toNatClampNeg ((x2 + (-2 : Int32)) - (1 : Int32)))) = (1 : Int32) then ex_ d 332 150 [some (v_r (some 93)), l1, some (v_i (x2 + (-2 : Int32))), l3, l4] [v_i ((x2 + (-2 : Int32)) - (1 : Int32)), v_r (some 110)] h Q else ex_ d 332 141 [some (v_r (some 93)), l1, some (v_i (x2 + (-2 : Int32))), l3, l4] [v_i ((x2 + (-2 : Int32)) - (1 : Int32)), v_r (some 110)] h Q) := by
  have e0 : h_r h 93 32 = some 110 := la_r Lh (q := (93, 32, 110)) (by decide)
  unfold ex_
  refine (am_Y_go 14 (ok := [am_is h (some 93) 12, am_is h (some 93) 12, am_ar h ((h_r h 93 32)) 20 ((x2 + (-2 : Int32)) - (1 : Int32))]) (g := (if ¬ (h_i h ((h_r h 93 32).getD 0) (Int32.toNatClampNeg ((x2 + (-2 : Int32)) - (1 : Int32)))) = (1 : Int32) then 150 else 141, [some (v_r (some 93)), l1, some (v_i (x2 + (-2 : Int32))), l3, l4], [v_i ((x2 + (-2 : Int32)) - (1 : Int32)), v_r ((h_r h 93 32))], h)) rfl).trans ?_
  simp only [e0, Option.getD_some, am_all]
  all_goals exact cj_d (la_is Lh (o := 93) rfl) (cj_d (la_is Lh (o := 93) rfl) (cj_k (la_ar Lh (o := 110) rfl) (am_Y_if)))

theorem b_X12_reckons_191 {d : Nat} {Q : Option am_V → am_H → Prop} (h : am_H) (s0 : Int32) (s1 : Int32) (t2 : Nat) (x3 : Int32) (l0 l1 l2 l4 : Option am_V) {n_t2 : Nat} (A_t2 : y_arr h t2 20 n_t2) : ex_ d 332 191 [l0, l1, l2, some (v_i x3), l4] [v_i s0, v_i s1, v_r (some t2)] h Q ↔ vp_in s1 n_t2 ∧ ex_ d 332 4 [l0, l1, l2, some (v_i (x3 + (1 : Int32))), l4] [] (p_i h t2 (Int32.toNatClampNeg s1) s0) Q := by
  unfold ex_
  refine (am_Y_go 3 (ok := [am_ar h (some t2) 20 s1]) (g := (4, [l0, l1, l2, some (v_i (x3 + (1 : Int32))), l4], [], (p_i h t2 (Int32.toNatClampNeg s1) s0))) rfl).trans ?_
  simp only [am_all]
  all_goals exact cj_k (lb_ar A_t2) (Iff.rfl)

theorem b_X12_reckons_150 {d : Nat} {Q : Option am_V → am_H → Prop} (h : am_H) (s0 : Int32) (t1 : Nat) (x2 : Int32) (x3 : Int32) (l1 l4 : Option am_V) (Lh : Lay h) {n_t1 : Nat} (A_t1 : y_arr h t1 20 n_t1) : ex_ d 332 150 [some (v_r (some 93)), l1, some (v_i x2), some (v_i x3), l4] [v_i s0, v_r (some t1)] h Q ↔ vp_in (x2 + (1 : Int32)) 900 ∧ vp_in s0 n_t1 ∧ ex_ d 332 4 [some (v_r (some 93)), l1, some (v_i x2), some (v_i (x3 + (1 : Int32))), l4] [] (p_i h t1 (Int32.toNatClampNeg s0) (h_i h 110 (Int32.toNatClampNeg (x2 + (1 : Int32))))) Q := by
  have e0 : h_r h 93 32 = some 110 := la_r Lh (q := (93, 32, 110)) (by decide)
  unfold ex_
  refine (am_Y_go 10 (ok := [am_is h (some 93) 12, am_ar h ((h_r h 93 32)) 20 (x2 + (1 : Int32)), am_ar h (some t1) 20 s0]) (g := (4, [some (v_r (some 93)), l1, some (v_i x2), some (v_i (x3 + (1 : Int32))), l4], [], (p_i h t1 (Int32.toNatClampNeg s0) (h_i h ((h_r h 93 32).getD 0) (Int32.toNatClampNeg (x2 + (1 : Int32))))))) rfl).trans ?_
  simp only [e0, Option.getD_some, am_all]
  all_goals exact cj_d (la_is Lh (o := 93) rfl) (cj_k (la_ar Lh (o := 110) rfl) (cj_k (lb_ar A_t1) (Iff.rfl)))

theorem b_X12_reckons_141 {d : Nat} {Q : Option am_V → am_H → Prop} (h : am_H) (s0 : Int32) (t1 : Nat) (x2 : Int32) (x3 : Int32) (l1 l4 : Option am_V) (Lh : Lay h) {n_t1 : Nat} (A_t1 : y_arr h t1 20 n_t1) : ex_ d 332 141 [some (v_r (some 93)), l1, some (v_i x2), some (v_i x3), l4] [v_i s0, v_r (some t1)] h Q ↔ vp_in x2 900 ∧ vp_in s0 n_t1 ∧ ex_ d 332 4 [some (v_r (some 93)), l1, some (v_i x2), some (v_i (x3 + (1 : Int32))), l4] [] (p_i h t1 (Int32.toNatClampNeg s0) (h_i h 110 (Int32.toNatClampNeg x2))) Q := by
  have e0 : h_r h 93 32 = some 110 := la_r Lh (q := (93, 32, 110)) (by decide)
  unfold ex_
  refine (am_Y_go 9 (ok := [am_is h (some 93) 12, am_ar h ((h_r h 93 32)) 20 x2, am_ar h (some t1) 20 s0]) (g := (4, [some (v_r (some 93)), l1, some (v_i x2), some (v_i (x3 + (1 : Int32))), l4], [], (p_i h t1 (Int32.toNatClampNeg s0) (h_i h ((h_r h 93 32).getD 0) (Int32.toNatClampNeg x2))))) rfl).trans ?_
  simp only [e0, Option.getD_some, am_all]
  all_goals exact cj_d (la_is Lh (o := 93) rfl) (cj_k (la_ar Lh (o := 110) rfl) (cj_k (lb_ar A_t1) (Iff.rfl)))

theorem b_X12_laysWords_0 {d : Nat} {Q : Option am_V → am_H → Prop} (h : am_H) (x2 : Int32) (x1 : Int32) (x3 : Int32) (x4 : Int32) (Lh : Lay h) : ex_ d 333 0 [some (v_r (some 93)), some (v_i x1), some (v_i x2), some (v_i x3), some (v_i x4)] [] h Q ↔ vp_in (0 : Int32) 6 ∧ vp_in (((11 : Int32) * x1) + x3) 121 ∧ vp_in (1 : Int32) 6 ∧ vp_in (2 : Int32) 6 ∧ vp_in (3 : Int32) 6 ∧ vp_in (5 : Int32) 6 ∧ Q (none) (p_i (p_i (p_i (p_i (p_i h 111 (Int32.toNatClampNeg (0 : Int32)) x2) 111 (Int32.toNatClampNeg (1 : Int32)) (h_i (p_i h 111 (Int32.toNatClampNeg (0 : Int32)) x2) 99 (Int32.toNatClampNeg (((11 : Int32) * x1) + x3)))) 111 (Int32.toNatClampNeg (2 : Int32)) x1) 111 (Int32.toNatClampNeg (3 : Int32)) x4) 111 (Int32.toNatClampNeg (5 : Int32)) x3) := by
  have e0 : h_r h 93 33 = some 111 := la_r Lh (q := (93, 33, 111)) (by decide)
  have e1 : h_r h 93 17 = some 99 := la_r Lh (q := (93, 17, 99)) (by decide)
  unfold ex_
  refine (am_Y_go 32 (ok := [am_is h (some 93) 12, am_ar h ((h_r h 93 33)) 20 (0 : Int32), am_is h (some 93) 12, am_is h (some 93) 12, am_ar h ((h_r h 93 17)) 20 (((11 : Int32) * x1) + x3), am_ar h ((h_r h 93 33)) 20 (1 : Int32), am_is h (some 93) 12, am_ar h ((h_r h 93 33)) 20 (2 : Int32), am_is h (some 93) 12, am_ar h ((h_r h 93 33)) 20 (3 : Int32), am_is h (some 93) 12, am_ar h ((h_r h 93 33)) 20 (5 : Int32)]) (g := (46, [some (v_r (some 93)), some (v_i x1), some (v_i x2), some (v_i x3), some (v_i x4)], [], (p_i (p_i (p_i (p_i (p_i h ((h_r h 93 33).getD 0) (Int32.toNatClampNeg (0 : Int32)) x2) ((h_r h 93 33).getD 0) (Int32.toNatClampNeg (1 : Int32)) (h_i (p_i h ((h_r h 93 33).getD 0) (Int32.toNatClampNeg (0 : Int32)) x2) ((h_r h 93 17).getD 0) (Int32.toNatClampNeg (((11 : Int32) * x1) + x3)))) ((h_r h 93 33).getD 0) (Int32.toNatClampNeg (2 : Int32)) x1) ((h_r h 93 33).getD 0) (Int32.toNatClampNeg (3 : Int32)) x4) ((h_r h 93 33).getD 0) (Int32.toNatClampNeg (5 : Int32)) x3))) rfl).trans ?_
  simp only [e0, e1, Option.getD_some, am_all]
  all_goals exact cj_d (la_is Lh (o := 93) rfl) (cj_k (la_ar Lh (o := 111) rfl) (cj_d (la_is Lh (o := 93) rfl) (cj_d (la_is Lh (o := 93) rfl) (cj_k (la_ar Lh (o := 99) rfl) (cj_k (la_ar Lh (o := 111) rfl) (cj_d (la_is Lh (o := 93) rfl) (cj_k (la_ar Lh (o := 111) rfl) (cj_d (la_is Lh (o := 93) rfl) (cj_k (la_ar Lh (o := 111) rfl) (cj_d (la_is Lh (o := 93) rfl) (cj_k (la_ar Lh (o := 111) rfl) (((am_Y_ret rfl rfl rfl).trans (am_rz rfl))))))))))))))

theorem b_X12_isSeen_0 {d : Nat} {Q : Option am_V → am_H → Prop} (h : am_H) (x1 : Int32) (x2 : Int32) (x3 : Int32) (x4 : Int32) (Lh : Lay h) : ex_ (d + 1) 334 0 [some (v_r (some 93)), some (v_i x1), some (v_i x2), some (v_i x3), some (v_i x4)] [] h Q ↔ ex_ d 333 0 [some (v_r (some 93)), some (v_i x1), some (v_i x2), some (v_i x3), some (v_i x4)] [] h (fun r h' => ex_ (d + 1) 334 9 [some (v_r (some 93)), some (v_i x1), some (v_i x2), some (v_i x3), some (v_i x4)] (r.toList ++ []) h' Q) := by
  unfold ex_
  refine (am_Y_go 5 (ok := []) (g := (6, [some (v_r (some 93)), some (v_i x1), some (v_i x2), some (v_i x3), some (v_i x4)], [v_i x4, v_i x3, v_i x2, v_i x1, v_r (some 93)], h)) rfl).trans ?_
  all_goals exact ((am_Y_call (j := 333) (na := 5) (ci := 12) (fl := 0) rfl rfl rfl).trans (cj_d ⟨⟨Nat.le_of_ble_eq_true rfl, Nat.le_of_ble_eq_true rfl, Nat.le_of_ble_eq_true rfl, rfl⟩, Or.inr (Or.inr (show (12 : Nat) < 20 ∧ am_is h (some 93) 12 from ⟨by decide, (la_is Lh (o := 93) rfl)⟩))⟩ Iff.rfl))

theorem b_X12_isSeen_9 {d : Nat} {Q : Option am_V → am_H → Prop} (h : am_H) (l1 l2 l3 l4 : Option am_V) (Lh : Lay h) : ex_ d 334 9 [some (v_r (some 93)), l1, l2, l3, l4] [] h Q ↔ vp_in (3 : Int32) 7053 ∧ (if (h_i h 94 (Int32.toNatClampNeg (3 : Int32))) = 0 then ex_ d 334 27 [some (v_r (some 93)), l1, l2, l3, l4] [] h Q else ex_ d 334 18 [some (v_r (some 93)), l1, l2, l3, l4] [] h Q) := by
  have e0 : h_r h 93 1 = some 94 := la_r Lh (q := (93, 1, 94)) (by decide)
  unfold ex_
  refine (am_Y_go 5 (ok := [am_is h (some 93) 12, am_ar h ((h_r h 93 1)) 20 (3 : Int32)]) (g := (if (h_i h ((h_r h 93 1).getD 0) (Int32.toNatClampNeg (3 : Int32))) = 0 then 27 else 18, [some (v_r (some 93)), l1, l2, l3, l4], [], h)) rfl).trans ?_
  simp only [e0, Option.getD_some, am_all]
  all_goals exact cj_d (la_is Lh (o := 93) rfl) (cj_k (la_ar Lh (o := 94) rfl) (am_Y_if))

theorem b_X12_isSeen_27 {d : Nat} {Q : Option am_V → am_H → Prop} (h : am_H) (l0 l1 l2 l3 l4 : Option am_V) : ex_ d 334 27 [l0, l1, l2, l3, l4] [] h Q ↔ Q (some (v_i (1 : Int32))) h := by
  unfold ex_
  refine (am_Y_go 2 (ok := []) (g := (32, [l0, l1, l2, l3, l4], [v_i (1 : Int32)], h)) rfl).trans ?_
  all_goals exact ((am_Y_ret rfl rfl rfl).trans (am_rz (show am_fit 1 1 from Or.inr rfl)))

theorem b_X12_isSeen_18 {d : Nat} {Q : Option am_V → am_H → Prop} (h : am_H) (l1 l2 l3 l4 : Option am_V) (Lh : Lay h) : ex_ (d + 1) 334 18 [some (v_r (some 93)), l1, l2, l3, l4] [] h Q ↔ ex_ d 332 0 [some (v_r (some 93)), some (v_i (1 : Int32)), none, none, none] [] h (fun r h' => ex_ (d + 1) 334 23 [some (v_r (some 93)), l1, l2, l3, l4] (r.toList ++ []) h' Q) := by
  unfold ex_
  refine (am_Y_go 2 (ok := []) (g := (20, [some (v_r (some 93)), l1, l2, l3, l4], [v_i (1 : Int32), v_r (some 93)], h)) rfl).trans ?_
  all_goals exact ((am_Y_call (j := 332) (na := 2) (ci := 12) (fl := 0) rfl rfl rfl).trans (cj_d ⟨⟨Nat.le_of_ble_eq_true rfl, Nat.le_of_ble_eq_true rfl, Nat.le_of_ble_eq_true rfl, rfl⟩, Or.inr (Or.inr (show (12 : Nat) < 20 ∧ am_is h (some 93) 12 from ⟨by decide, (la_is Lh (o := 93) rfl)⟩))⟩ Iff.rfl))

theorem b_X12_isSeen_23 {d : Nat} {Q : Option am_V → am_H → Prop} (h : am_H) (s0 : Int32) (l0 l1 l2 l3 l4 : Option am_V) : ex_ d 334 23 [l0, l1, l2, l3, l4] [v_i s0] h Q ↔ if ¬ s0 = (1 : Int32) then ex_ d 334 31 [l0, l1, l2, l3, l4] [] h Q else ex_ d 334 27 [l0, l1, l2, l3, l4] [] h Q := by
  unfold ex_
  refine (am_Y_go 2 (ok := []) (g := (if ¬ s0 = (1 : Int32) then 31 else 27, [l0, l1, l2, l3, l4], [], h)) rfl).trans ?_
  all_goals exact am_Y_if

theorem b_X12_isSeen_31 {d : Nat} {Q : Option am_V → am_H → Prop} (h : am_H) (l0 l1 l2 l3 l4 : Option am_V) : ex_ d 334 31 [l0, l1, l2, l3, l4] [] h Q ↔ Q (some (v_i (0 : Int32))) h := by
  unfold ex_
  refine (am_Y_go 1 (ok := []) (g := (32, [l0, l1, l2, l3, l4], [v_i (0 : Int32)], h)) rfl).trans ?_
  all_goals exact ((am_Y_ret rfl rfl rfl).trans (am_rz (show am_fit 1 0 from Or.inl rfl)))

theorem b_X12_laysCall_0 {d : Nat} {Q : Option am_V → am_H → Prop} (h : am_H) (l1 l2 l3 l4 l5 : Option am_V) (Lh : Lay h) : ex_ d 335 0 [some (v_r (some 93)), l1, l2, l3, l4, l5] [] h Q ↔ ex_ d 335 8 [some (v_r (some 93)), l1, l2, l3, some (v_i (0 : Int32)), l5] [] (p_i h 93 35 (0 : Int32)) Q := by
  unfold ex_
  refine (am_Y_go 5 (ok := [am_is h (some 93) 12]) (g := (8, [some (v_r (some 93)), l1, l2, l3, some (v_i (0 : Int32)), l5], [], (p_i h 93 35 (0 : Int32)))) rfl).trans ?_
  simp only [am_all]
  all_goals exact cj_d (la_is Lh (o := 93) rfl) (Iff.rfl)

theorem b_X12_laysCall_8 {d : Nat} {Q : Option am_V → am_H → Prop} (h : am_H) (x4 : Int32) (x1 : Int32) (l2 l3 l5 : Option am_V) (Lh : Lay h) : ex_ d 335 8 [some (v_r (some 93)), some (v_i x1), l2, l3, some (v_i x4), l5] [] h Q ↔ vp_in x1 11 ∧ (if (h_i h 98 (Int32.toNatClampNeg x1)) ≤ x4 then ex_ d 335 100 [some (v_r (some 93)), some (v_i x1), l2, l3, some (v_i x4), l5] [] h Q else ex_ d 335 19 [some (v_r (some 93)), some (v_i x1), l2, l3, some (v_i x4), l5] [] h Q) := by
  have e0 : h_r h 93 16 = some 98 := la_r Lh (q := (93, 16, 98)) (by decide)
  unfold ex_
  refine (am_Y_go 6 (ok := [am_is h (some 93) 12, am_ar h ((h_r h 93 16)) 20 x1]) (g := (if (h_i h ((h_r h 93 16).getD 0) (Int32.toNatClampNeg x1)) ≤ x4 then 100 else 19, [some (v_r (some 93)), some (v_i x1), l2, l3, some (v_i x4), l5], [], h)) rfl).trans ?_
  simp only [e0, Option.getD_some, am_all]
  all_goals exact cj_d (la_is Lh (o := 93) rfl) (cj_k (la_ar Lh (o := 98) rfl) (am_Y_if))

theorem b_X12_laysCall_100 {d : Nat} {Q : Option am_V → am_H → Prop} (h : am_H) (l0 l1 l2 l3 l4 l5 : Option am_V) : ex_ d 335 100 [l0, l1, l2, l3, l4, l5] [] h Q ↔ Q (none) h := by
  unfold ex_
  exact ((am_Y_ret rfl rfl rfl).trans (am_rz rfl))

theorem b_X12_laysCall_19 {d : Nat} {Q : Option am_V → am_H → Prop} (h : am_H) (x1 : Int32) (x4 : Int32) (x2 : Int32) (l3 l5 : Option am_V) (Lh : Lay h) : ex_ d 335 19 [some (v_r (some 93)), some (v_i x1), some (v_i x2), l3, some (v_i x4), l5] [] h Q ↔ vp_in (((11 : Int32) * x1) + x4) 121 ∧ vp_in (((58 : Int32) + ((8 : Int32) * (h_i h 99 (Int32.toNatClampNeg (((11 : Int32) * x1) + x4))))) + x2) 7053 ∧ (if (h_i h 94 (Int32.toNatClampNeg (((58 : Int32) + ((8 : Int32) * (h_i h 99 (Int32.toNatClampNeg (((11 : Int32) * x1) + x4))))) + x2))) = 0 then ex_ d 335 94 [some (v_r (some 93)), some (v_i x1), some (v_i x2), l3, some (v_i x4), some (v_i (h_i h 94 (Int32.toNatClampNeg (((58 : Int32) + ((8 : Int32) * (h_i h 99 (Int32.toNatClampNeg (((11 : Int32) * x1) + x4))))) + x2))))] [] h Q else ex_ d 335 51 [some (v_r (some 93)), some (v_i x1), some (v_i x2), l3, some (v_i x4), some (v_i (h_i h 94 (Int32.toNatClampNeg (((58 : Int32) + ((8 : Int32) * (h_i h 99 (Int32.toNatClampNeg (((11 : Int32) * x1) + x4))))) + x2))))] [] h Q) := by
  have e0 : h_r h 93 1 = some 94 := la_r Lh (q := (93, 1, 94)) (by decide)
  have e1 : h_r h 93 17 = some 99 := la_r Lh (q := (93, 17, 99)) (by decide)
  unfold ex_
  refine (am_Y_go 20 (ok := [am_is h (some 93) 12, am_is h (some 93) 12, am_ar h ((h_r h 93 17)) 20 (((11 : Int32) * x1) + x4), am_ar h ((h_r h 93 1)) 20 (((58 : Int32) + ((8 : Int32) * (h_i h ((h_r h 93 17).getD 0) (Int32.toNatClampNeg (((11 : Int32) * x1) + x4))))) + x2)]) (g := (if (h_i h ((h_r h 93 1).getD 0) (Int32.toNatClampNeg (((58 : Int32) + ((8 : Int32) * (h_i h ((h_r h 93 17).getD 0) (Int32.toNatClampNeg (((11 : Int32) * x1) + x4))))) + x2))) = 0 then 94 else 51, [some (v_r (some 93)), some (v_i x1), some (v_i x2), l3, some (v_i x4), some (v_i (h_i h ((h_r h 93 1).getD 0) (Int32.toNatClampNeg (((58 : Int32) + ((8 : Int32) * (h_i h ((h_r h 93 17).getD 0) (Int32.toNatClampNeg (((11 : Int32) * x1) + x4))))) + x2))))], [], h)) rfl).trans ?_
  simp only [e0, e1, Option.getD_some, am_all]
  all_goals exact cj_d (la_is Lh (o := 93) rfl) (cj_d (la_is Lh (o := 93) rfl) (cj_k (la_ar Lh (o := 99) rfl) (cj_k (la_ar Lh (o := 94) rfl) (am_Y_if))))

theorem b_X12_laysCall_94 {d : Nat} {Q : Option am_V → am_H → Prop} (h : am_H) (x4 : Int32) (l0 l1 l2 l3 l5 : Option am_V) : ex_ d 335 94 [l0, l1, l2, l3, some (v_i x4), l5] [] h Q ↔ ex_ d 335 8 [l0, l1, l2, l3, some (v_i (x4 + (1 : Int32))), l5] [] h Q := by
  unfold ex_
  refine (am_Y_go 2 (ok := []) (g := (8, [l0, l1, l2, l3, some (v_i (x4 + (1 : Int32))), l5], [], h)) rfl).trans ?_
  all_goals exact Iff.rfl

theorem b_X12_laysCall_51 {d : Nat} {Q : Option am_V → am_H → Prop} (h : am_H) (x1 : Int32) (x2 : Int32) (x4 : Int32) (x3 : Int32) (l5 : Option am_V) (Lh : Lay h) : ex_ (d + 1) 335 51 [some (v_r (some 93)), some (v_i x1), some (v_i x2), some (v_i x3), some (v_i x4), l5] [] h Q ↔ ex_ d 334 0 [some (v_r (some 93)), some (v_i x1), some (v_i x2), some (v_i x4), some (v_i x3)] [] h (fun r h' => ex_ (d + 1) 335 60 [some (v_r (some 93)), some (v_i x1), some (v_i x2), some (v_i x3), some (v_i x4), l5] (r.toList ++ []) h' Q) := by
  unfold ex_
  refine (am_Y_go 5 (ok := []) (g := (57, [some (v_r (some 93)), some (v_i x1), some (v_i x2), some (v_i x3), some (v_i x4), l5], [v_i x3, v_i x4, v_i x2, v_i x1, v_r (some 93)], h)) rfl).trans ?_
  all_goals exact ((am_Y_call (j := 334) (na := 5) (ci := 12) (fl := 0) rfl rfl rfl).trans (cj_d ⟨⟨Nat.le_of_ble_eq_true rfl, Nat.le_of_ble_eq_true rfl, Nat.le_of_ble_eq_true rfl, rfl⟩, Or.inr (Or.inr (show (12 : Nat) < 20 ∧ am_is h (some 93) 12 from ⟨by decide, (la_is Lh (o := 93) rfl)⟩))⟩ Iff.rfl))

theorem b_X12_laysCall_60 {d : Nat} {Q : Option am_V → am_H → Prop} (h : am_H) (s0 : Int32) (l0 l1 l2 l3 l4 l5 : Option am_V) : ex_ d 335 60 [l0, l1, l2, l3, l4, l5] [v_i s0] h Q ↔ if ¬ s0 = 0 then ex_ d 335 66 [l0, l1, l2, l3, l4, l5] [] h Q else ex_ d 335 63 [l0, l1, l2, l3, l4, l5] [] h Q := by
  unfold ex_
  refine (am_Y_go 1 (ok := []) (g := (if ¬ s0 = 0 then 66 else 63, [l0, l1, l2, l3, l4, l5], [], h)) rfl).trans ?_
  all_goals exact am_Y_if

theorem b_X12_laysCall_66 {d : Nat} {Q : Option am_V → am_H → Prop} (h : am_H) (x4 : Int32) (x5 : Int32) (l1 l2 l3 : Option am_V) (Lh : Lay h) : ex_ d 335 66 [some (v_r (some 93)), l1, l2, l3, some (v_i x4), some (v_i x5)] [] h Q ↔ vp_in (h_i h 93 35) 11 ∧ (if ¬ x5 = (1 : Int32) then ex_ d 335 94 [some (v_r (some 93)), l1, l2, l3, some (v_i x4), some (v_i x5)] [] (p_i (p_i h 112 (Int32.toNatClampNeg (h_i h 93 35)) x4) 93 35 ((h_i (p_i h 112 (Int32.toNatClampNeg (h_i h 93 35)) x4) 93 35) + (1 : Int32))) Q else ex_ d 335 93 [some (v_r (some 93)), l1, l2, l3, some (v_i x4), some (v_i x5)] [] (p_i (p_i h 112 (Int32.toNatClampNeg (h_i h 93 35)) x4) 93 35 ((h_i (p_i h 112 (Int32.toNatClampNeg (h_i h 93 35)) x4) 93 35) + (1 : Int32))) Q) := by
  have e0 : h_r h 93 34 = some 112 := la_r Lh (q := (93, 34, 112)) (by decide)
  unfold ex_
  refine (am_Y_go 15 (ok := [am_is h (some 93) 12, am_is h (some 93) 12, am_ar h ((h_r h 93 34)) 20 (h_i h 93 35), am_is h (some 93) 12, am_is h (some 93) 12]) (g := (if ¬ x5 = (1 : Int32) then 94 else 93, [some (v_r (some 93)), l1, l2, l3, some (v_i x4), some (v_i x5)], [], (p_i (p_i h ((h_r h 93 34).getD 0) (Int32.toNatClampNeg (h_i h 93 35)) x4) 93 35 ((h_i (p_i h ((h_r h 93 34).getD 0) (Int32.toNatClampNeg (h_i h 93 35)) x4) 93 35) + (1 : Int32))))) rfl).trans ?_
  simp only [e0, Option.getD_some, am_all]
  all_goals exact cj_d (la_is Lh (o := 93) rfl) (cj_d (la_is Lh (o := 93) rfl) (cj_k (la_ar Lh (o := 112) rfl) (cj_d (la_is Lh (o := 93) rfl) (cj_d (la_is Lh (o := 93) rfl) (am_Y_if)))))

theorem b_X12_laysCall_63 {d : Nat} {Q : Option am_V → am_H → Prop} (h : am_H) (x4 : Int32) (l0 l1 l2 l3 l5 : Option am_V) : ex_ d 335 63 [l0, l1, l2, l3, some (v_i x4), l5] [] h Q ↔ ex_ d 335 8 [l0, l1, l2, l3, some (v_i (x4 + (1 : Int32))), l5] [] h Q := by
  unfold ex_
  refine (am_Y_go 3 (ok := []) (g := (8, [l0, l1, l2, l3, some (v_i (x4 + (1 : Int32))), l5], [], h)) rfl).trans ?_
  all_goals exact Iff.rfl

theorem b_X12_laysCall_93 {d : Nat} {Q : Option am_V → am_H → Prop} (h : am_H) (l0 l1 l2 l3 l4 l5 : Option am_V) : ex_ d 335 93 [l0, l1, l2, l3, l4, l5] [] h Q ↔ Q (none) h := by
  unfold ex_
  exact ((am_Y_ret rfl rfl rfl).trans (am_rz rfl))

theorem b_X12_saysOf_0 {d : Nat} {Q : Option am_V → am_H → Prop} (h : am_H) (x1 : Int32) (x2 : Int32) (x3 : Int32) (l4 l5 : Option am_V) (Lh : Lay h) : ex_ (d + 1) 336 0 [some (v_r (some 93)), some (v_i x1), some (v_i x2), some (v_i x3), l4, l5] [] h Q ↔ ex_ d 335 0 [some (v_r (some 93)), some (v_i x1), some (v_i x2), some (v_i x3), none, none] [] h (fun r h' => ex_ (d + 1) 336 7 [some (v_r (some 93)), some (v_i x1), some (v_i x2), some (v_i x3), l4, l5] (r.toList ++ []) h' Q) := by
  unfold ex_
  refine (am_Y_go 4 (ok := []) (g := (4, [some (v_r (some 93)), some (v_i x1), some (v_i x2), some (v_i x3), l4, l5], [v_i x3, v_i x2, v_i x1, v_r (some 93)], h)) rfl).trans ?_
  all_goals exact ((am_Y_call (j := 335) (na := 4) (ci := 12) (fl := 0) rfl rfl rfl).trans (cj_d ⟨⟨Nat.le_of_ble_eq_true rfl, Nat.le_of_ble_eq_true rfl, Nat.le_of_ble_eq_true rfl, rfl⟩, Or.inr (Or.inr (show (12 : Nat) < 20 ∧ am_is h (some 93) 12 from ⟨by decide, (la_is Lh (o := 93) rfl)⟩))⟩ Iff.rfl))

theorem b_X12_saysOf_7 {d : Nat} {Q : Option am_V → am_H → Prop} (h : am_H) (l1 l2 l3 l4 l5 : Option am_V) (Lh : Lay h) : ex_ d 336 7 [some (v_r (some 93)), l1, l2, l3, l4, l5] [] h Q ↔ if ¬ (h_i h 93 35) = 0 then ex_ d 336 18 [some (v_r (some 93)), l1, l2, l3, l4, l5] [] h Q else ex_ d 336 14 [some (v_r (some 93)), l1, l2, l3, l4, l5] [] h Q := by
  unfold ex_
  refine (am_Y_go 3 (ok := [am_is h (some 93) 12]) (g := (if ¬ (h_i h 93 35) = 0 then 18 else 14, [some (v_r (some 93)), l1, l2, l3, l4, l5], [], h)) rfl).trans ?_
  simp only [am_all]
  all_goals exact cj_d (la_is Lh (o := 93) rfl) (am_Y_if)

theorem b_X12_saysOf_18 {d : Nat} {Q : Option am_V → am_H → Prop} (h : am_H) (l1 l2 l3 l4 l5 : Option am_V) (Lh : Lay h) : ex_ d 336 18 [some (v_r (some 93)), l1, l2, l3, l4, l5] [] h Q ↔ ex_ d 336 29 [some (v_r (some 93)), l1, l2, l3, some (v_i (0 : Int32)), some (v_i ((h_i h 93 35) - (1 : Int32)))] [] h Q := by
  unfold ex_
  refine (am_Y_go 7 (ok := [am_is h (some 93) 12]) (g := (29, [some (v_r (some 93)), l1, l2, l3, some (v_i (0 : Int32)), some (v_i ((h_i h 93 35) - (1 : Int32)))], [], h)) rfl).trans ?_
  simp only [am_all]
  all_goals exact cj_d (la_is Lh (o := 93) rfl) (Iff.rfl)

theorem b_X12_saysOf_14 {d : Nat} {Q : Option am_V → am_H → Prop} (h : am_H) (l0 l1 l2 l3 l4 l5 : Option am_V) : ex_ d 336 14 [l0, l1, l2, l3, l4, l5] [] h Q ↔ Q (some (v_i (-99000001 : Int32))) h := by
  unfold ex_
  refine (am_Y_go 1 (ok := []) (g := (17, [l0, l1, l2, l3, l4, l5], [v_i (-99000001 : Int32)], h)) rfl).trans ?_
  all_goals exact ((am_Y_ret rfl rfl rfl).trans (am_r0))

theorem b_X12_saysOf_29 {d : Nat} {Q : Option am_V → am_H → Prop} (h : am_H) (x5 : Int32) (l0 l1 l2 l3 l4 : Option am_V) : ex_ d 336 29 [l0, l1, l2, l3, l4, some (v_i x5)] [] h Q ↔ if x5 < 0 then ex_ d 336 103 [l0, l1, l2, l3, l4, some (v_i x5)] [] h Q else ex_ d 336 34 [l0, l1, l2, l3, l4, some (v_i x5)] [] h Q := by
  unfold ex_
  refine (am_Y_go 2 (ok := []) (g := (if x5 < 0 then 103 else 34, [l0, l1, l2, l3, l4, some (v_i x5)], [], h)) rfl).trans ?_
  all_goals exact am_Y_if

theorem b_X12_saysOf_103 {d : Nat} {Q : Option am_V → am_H → Prop} (h : am_H) (x4 : Int32) (l0 l1 l2 l3 l5 : Option am_V) : ex_ d 336 103 [l0, l1, l2, l3, some (v_i x4), l5] [] h Q ↔ Q (some (v_i x4)) h := by
  unfold ex_
  refine (am_Y_go 1 (ok := []) (g := (105, [l0, l1, l2, l3, some (v_i x4), l5], [v_i x4], h)) rfl).trans ?_
  all_goals exact ((am_Y_ret rfl rfl rfl).trans (am_r0))

theorem b_X12_saysOf_34 {d : Nat} {Q : Option am_V → am_H → Prop} (h : am_H) (x1 : Int32) (x2 : Int32) (x5 : Int32) (x3 : Int32) (l4 : Option am_V) (Lh : Lay h) : ex_ (d + 1) 336 34 [some (v_r (some 93)), some (v_i x1), some (v_i x2), some (v_i x3), l4, some (v_i x5)] [] h Q ↔ vp_in x5 11 ∧ ex_ d 333 0 [some (v_r (some 93)), some (v_i x1), some (v_i x2), some (v_i (h_i h 112 (Int32.toNatClampNeg x5))), some (v_i x3)] [] h (fun r h' => ex_ (d + 1) 336 48 [some (v_r (some 93)), some (v_i x1), some (v_i x2), some (v_i x3), l4, some (v_i x5)] (r.toList ++ []) h' Q) := by
  have e0 : h_r h 93 34 = some 112 := la_r Lh (q := (93, 34, 112)) (by decide)
  unfold ex_
  refine (am_Y_go 8 (ok := [am_is h (some 93) 12, am_ar h ((h_r h 93 34)) 20 x5]) (g := (45, [some (v_r (some 93)), some (v_i x1), some (v_i x2), some (v_i x3), l4, some (v_i x5)], [v_i x3, v_i (h_i h ((h_r h 93 34).getD 0) (Int32.toNatClampNeg x5)), v_i x2, v_i x1, v_r (some 93)], h)) rfl).trans ?_
  simp only [e0, Option.getD_some, am_all]
  all_goals exact cj_d (la_is Lh (o := 93) rfl) (cj_k (la_ar Lh (o := 112) rfl) (((am_Y_call (j := 333) (na := 5) (ci := 12) (fl := 0) rfl rfl rfl).trans (cj_d ⟨⟨Nat.le_of_ble_eq_true rfl, Nat.le_of_ble_eq_true rfl, Nat.le_of_ble_eq_true rfl, rfl⟩, Or.inr (Or.inr (show (12 : Nat) < 20 ∧ am_is h (some 93) 12 from ⟨by decide, (la_is Lh (o := 93) rfl)⟩))⟩ Iff.rfl))))

theorem b_X12_saysOf_48 {d : Nat} {Q : Option am_V → am_H → Prop} (h : am_H) (x4 : Int32) (l1 l2 l3 l5 : Option am_V) (Lh : Lay h) : ex_ d 336 48 [some (v_r (some 93)), l1, l2, l3, some (v_i x4), l5] [] h Q ↔ vp_in (4 : Int32) 6 ∧ vp_in (2 : Int32) 7053 ∧ (if ¬ (h_i (p_i h 111 (Int32.toNatClampNeg (4 : Int32)) x4) 94 (Int32.toNatClampNeg (2 : Int32))) = (1 : Int32) then ex_ d 336 74 [some (v_r (some 93)), l1, l2, l3, some (v_i x4), l5] [] (p_i h 111 (Int32.toNatClampNeg (4 : Int32)) x4) Q else ex_ d 336 66 [some (v_r (some 93)), l1, l2, l3, some (v_i x4), l5] [] (p_i h 111 (Int32.toNatClampNeg (4 : Int32)) x4) Q) := by
  have e0 : h_r h 93 33 = some 111 := la_r Lh (q := (93, 33, 111)) (by decide)
  have e1 : h_r h 93 1 = some 94 := la_r Lh (q := (93, 1, 94)) (by decide)
  unfold ex_
  refine (am_Y_go 11 (ok := [am_is h (some 93) 12, am_ar h ((h_r h 93 33)) 20 (4 : Int32), am_is h (some 93) 12, am_ar h ((h_r h 93 1)) 20 (2 : Int32)]) (g := (if ¬ (h_i (p_i h ((h_r h 93 33).getD 0) (Int32.toNatClampNeg (4 : Int32)) x4) ((h_r h 93 1).getD 0) (Int32.toNatClampNeg (2 : Int32))) = (1 : Int32) then 74 else 66, [some (v_r (some 93)), l1, l2, l3, some (v_i x4), l5], [], (p_i h ((h_r h 93 33).getD 0) (Int32.toNatClampNeg (4 : Int32)) x4))) rfl).trans ?_
  simp only [e0, e1, Option.getD_some, am_all]
  all_goals exact cj_d (la_is Lh (o := 93) rfl) (cj_k (la_ar Lh (o := 111) rfl) (cj_d (la_is Lh (o := 93) rfl) (cj_k (la_ar Lh (o := 94) rfl) (am_Y_if))))

theorem b_X12_saysOf_74 {d : Nat} {Q : Option am_V → am_H → Prop} (h : am_H) (x2 : Int32) (x4 : Int32) (l1 l3 l5 : Option am_V) (Lh : Lay h) : ex_ (d + 1) 336 74 [some (v_r (some 93)), l1, some (v_i x2), l3, some (v_i x4), l5] [] h Q ↔ vp_in (1 : Int32) 6 ∧ ex_ d 330 0 [some (v_l ((((10 : Int64) * (Int32.toInt64 (h_i h 111 (Int32.toNatClampNeg (1 : Int32))))) + (Int32.toInt64 x2)) + (Int32.toInt64 x4))), none] [] h (fun r h' => ex_ (d + 1) 336 95 [some (v_r (some 93)), l1, some (v_i x2), l3, some (v_i x4), l5] (r.toList ++ []) h' Q) := by
  have e0 : h_r h 93 33 = some 111 := la_r Lh (q := (93, 33, 111)) (by decide)
  unfold ex_
  refine (am_Y_go 13 (ok := [am_is h (some 93) 12, am_ar h ((h_r h 93 33)) 20 (1 : Int32)]) (g := (92, [some (v_r (some 93)), l1, some (v_i x2), l3, some (v_i x4), l5], [v_l ((((10 : Int64) * (Int32.toInt64 (h_i h ((h_r h 93 33).getD 0) (Int32.toNatClampNeg (1 : Int32))))) + (Int32.toInt64 x2)) + (Int32.toInt64 x4))], h)) rfl).trans ?_
  simp only [e0, Option.getD_some, am_all]
  all_goals exact cj_d (la_is Lh (o := 93) rfl) (cj_k (la_ar Lh (o := 111) rfl) (((am_Y_call (j := 330) (na := 1) (ci := 12) (fl := 2) rfl rfl rfl).trans (cj_d ⟨⟨Nat.le_of_ble_eq_true rfl, Nat.le_of_ble_eq_true rfl, Nat.le_of_ble_eq_true rfl, rfl⟩, Or.inl rfl⟩ Iff.rfl))))

theorem b_X12_saysOf_66 {d : Nat} {Q : Option am_V → am_H → Prop} (h : am_H) (l1 l2 l3 l4 l5 : Option am_V) (Lh : Lay h) : ex_ (d + 1) 336 66 [some (v_r (some 93)), l1, l2, l3, l4, l5] [] h Q ↔ ex_ d 332 0 [some (v_r (some 93)), some (v_i (0 : Int32)), none, none, none] [] h (fun r h' => ex_ (d + 1) 336 71 [some (v_r (some 93)), l1, l2, l3, l4, l5] (r.toList ++ []) h' Q) := by
  unfold ex_
  refine (am_Y_go 2 (ok := []) (g := (68, [some (v_r (some 93)), l1, l2, l3, l4, l5], [v_i (0 : Int32), v_r (some 93)], h)) rfl).trans ?_
  all_goals exact ((am_Y_call (j := 332) (na := 2) (ci := 12) (fl := 0) rfl rfl rfl).trans (cj_d ⟨⟨Nat.le_of_ble_eq_true rfl, Nat.le_of_ble_eq_true rfl, Nat.le_of_ble_eq_true rfl, rfl⟩, Or.inr (Or.inr (show (12 : Nat) < 20 ∧ am_is h (some 93) 12 from ⟨by decide, (la_is Lh (o := 93) rfl)⟩))⟩ Iff.rfl))

theorem b_X12_saysOf_95 {d : Nat} {Q : Option am_V → am_H → Prop} (h : am_H) (s0 : Int32) (x5 : Int32) (l0 l1 l2 l3 l4 : Option am_V) : ex_ d 336 95 [l0, l1, l2, l3, l4, some (v_i x5)] [v_i s0] h Q ↔ ex_ d 336 29 [l0, l1, l2, l3, some (v_i s0), some (v_i (x5 + (-1 : Int32)))] [] h Q := by
  unfold ex_
  refine (am_Y_go 3 (ok := []) (g := (29, [l0, l1, l2, l3, some (v_i s0), some (v_i (x5 + (-1 : Int32)))], [], h)) rfl).trans ?_
  all_goals exact Iff.rfl

theorem b_X12_saysOf_71 {d : Nat} {Q : Option am_V → am_H → Prop} (h : am_H) (s0 : Int32) (x5 : Int32) (l0 l1 l2 l3 l4 : Option am_V) : ex_ d 336 71 [l0, l1, l2, l3, l4, some (v_i x5)] [v_i s0] h Q ↔ ex_ d 336 29 [l0, l1, l2, l3, some (v_i s0), some (v_i (x5 + (-1 : Int32)))] [] h Q := by
  unfold ex_
  refine (am_Y_go 4 (ok := []) (g := (29, [l0, l1, l2, l3, some (v_i s0), some (v_i (x5 + (-1 : Int32)))], [], h)) rfl).trans ?_
  all_goals exact Iff.rfl

theorem b_X12_call_0 {d : Nat} {Q : Option am_V → am_H → Prop} (h : am_H) (x1 : Int32) (l2 : Option am_V) (Lh : Lay h) : ex_ (d + 1) 337 0 [some (v_r (some 93)), some (v_i x1), l2] [] h Q ↔ ex_ d 262 0 [some (v_r (some 93)), some (v_l (Int32.toInt64 x1)), none] [] (p_i h 93 0 (0 : Int32)) (fun r h' => ex_ (d + 1) 337 11 [some (v_r (some 93)), some (v_i x1), l2] (r.toList ++ []) h' Q) := by
  unfold ex_
  refine (am_Y_go 6 (ok := [am_is h (some 93) 12]) (g := (8, [some (v_r (some 93)), some (v_i x1), l2], [v_l (Int32.toInt64 x1), v_r (some 93)], (p_i h 93 0 (0 : Int32)))) rfl).trans ?_
  simp only [am_all]
  all_goals exact cj_d (la_is Lh (o := 93) rfl) (((am_Y_call (j := 262) (na := 2) (ci := 12) (fl := 0) rfl rfl rfl).trans (cj_d ⟨⟨Nat.le_of_ble_eq_true rfl, Nat.le_of_ble_eq_true rfl, Nat.le_of_ble_eq_true rfl, rfl⟩, Or.inr (Or.inr (show (12 : Nat) < 20 ∧ am_is h (some 93) 12 from ⟨by decide, (la_is Lh (o := 93) rfl)⟩))⟩ Iff.rfl)))

theorem b_X12_call_11 {d : Nat} {Q : Option am_V → am_H → Prop} (h : am_H) (s0 : Int32) (l0 l1 l2 : Option am_V) : ex_ d 337 11 [l0, l1, l2] [v_i s0] h Q ↔ if s0 = 0 then ex_ d 337 22 [l0, l1, l2] [] h Q else ex_ d 337 14 [l0, l1, l2] [] h Q := by
  unfold ex_
  refine (am_Y_go 1 (ok := []) (g := (if s0 = 0 then 22 else 14, [l0, l1, l2], [], h)) rfl).trans ?_
  all_goals exact am_Y_if

theorem b_X12_call_22 {d : Nat} {Q : Option am_V → am_H → Prop} (h : am_H) (l0 l1 l2 : Option am_V) : ex_ d 337 22 [l0, l1, l2] [] h Q ↔ Q (some (v_i (-99000002 : Int32))) h := by
  unfold ex_
  refine (am_Y_go 1 (ok := []) (g := (25, [l0, l1, l2], [v_i (-99000002 : Int32)], h)) rfl).trans ?_
  all_goals exact ((am_Y_ret rfl rfl rfl).trans (am_r0))

theorem b_X12_call_14 {d : Nat} {Q : Option am_V → am_H → Prop} (h : am_H) (x2 : Int32) (l0 l1 : Option am_V) : ex_ (d + 1) 337 14 [l0, l1, some (v_i x2)] [] h Q ↔ ex_ d 263 0 [some (v_l (Int32.toInt64 x2)), none] [] h (fun r h' => ex_ (d + 1) 337 19 [l0, l1, some (v_i x2)] (r.toList ++ []) h' Q) := by
  unfold ex_
  refine (am_Y_go 2 (ok := []) (g := (16, [l0, l1, some (v_i x2)], [v_l (Int32.toInt64 x2)], h)) rfl).trans ?_
  all_goals exact ((am_Y_call (j := 263) (na := 1) (ci := 12) (fl := 2) rfl rfl rfl).trans (cj_d ⟨⟨Nat.le_of_ble_eq_true rfl, Nat.le_of_ble_eq_true rfl, Nat.le_of_ble_eq_true rfl, rfl⟩, Or.inl rfl⟩ Iff.rfl))

theorem b_X12_call_19 {d : Nat} {Q : Option am_V → am_H → Prop} (h : am_H) (s0 : Int32) (l0 l1 l2 : Option am_V) : ex_ d 337 19 [l0, l1, l2] [v_i s0] h Q ↔ if ¬ s0 = 0 then ex_ d 337 26 [l0, l1, l2] [] h Q else ex_ d 337 22 [l0, l1, l2] [] h Q := by
  unfold ex_
  refine (am_Y_go 1 (ok := []) (g := (if ¬ s0 = 0 then 26 else 22, [l0, l1, l2], [], h)) rfl).trans ?_
  all_goals exact am_Y_if

theorem b_X12_call_26 {d : Nat} {Q : Option am_V → am_H → Prop} (h : am_H) (l1 l2 : Option am_V) (Lh : Lay h) : ex_ (d + 1) 337 26 [some (v_r (some 93)), l1, l2] [] h Q ↔ ex_ d 271 0 [some (v_r (some 93)), none] [] h (fun r h' => ex_ (d + 1) 337 30 [some (v_r (some 93)), l1, l2] (r.toList ++ []) h' Q) := by
  unfold ex_
  refine (am_Y_go 1 (ok := []) (g := (27, [some (v_r (some 93)), l1, l2], [v_r (some 93)], h)) rfl).trans ?_
  all_goals exact ((am_Y_call (j := 271) (na := 1) (ci := 12) (fl := 0) rfl rfl rfl).trans (cj_d ⟨⟨Nat.le_of_ble_eq_true rfl, Nat.le_of_ble_eq_true rfl, Nat.le_of_ble_eq_true rfl, rfl⟩, Or.inr (Or.inr (show (12 : Nat) < 20 ∧ am_is h (some 93) 12 from ⟨by decide, (la_is Lh (o := 93) rfl)⟩))⟩ Iff.rfl))

theorem b_X12_call_30 {d : Nat} {Q : Option am_V → am_H → Prop} (h : am_H) (x1 : Int32) (l2 : Option am_V) (Lh : Lay h) : ex_ d 337 30 [some (v_r (some 93)), some (v_i x1), l2] [] h Q ↔ vp_in x1 11 ∧ (if (h_i h 100 (Int32.toNatClampNeg x1)) = 0 then ex_ d 337 45 [some (v_r (some 93)), some (v_i x1), l2] [] h Q else ex_ d 337 39 [some (v_r (some 93)), some (v_i x1), l2] [] h Q) := by
  have e0 : h_r h 93 18 = some 100 := la_r Lh (q := (93, 18, 100)) (by decide)
  unfold ex_
  refine (am_Y_go 5 (ok := [am_is h (some 93) 12, am_ar h ((h_r h 93 18)) 20 x1]) (g := (if (h_i h ((h_r h 93 18).getD 0) (Int32.toNatClampNeg x1)) = 0 then 45 else 39, [some (v_r (some 93)), some (v_i x1), l2], [], h)) rfl).trans ?_
  simp only [e0, Option.getD_some, am_all]
  all_goals exact cj_d (la_is Lh (o := 93) rfl) (cj_k (la_ar Lh (o := 100) rfl) (am_Y_if))

theorem b_X12_call_45 {d : Nat} {Q : Option am_V → am_H → Prop} (h : am_H) (x1 : Int32) (x2 : Int32) (Lh : Lay h) : ex_ (d + 1) 337 45 [some (v_r (some 93)), some (v_i x1), some (v_i x2)] [] h Q ↔ vp_in (138 : Int32) 7053 ∧ ex_ d 336 0 [some (v_r (some 93)), some (v_i x1), some (v_i x2), some (v_i (h_i h 94 (Int32.toNatClampNeg (138 : Int32)))), none, none] [] h (fun r h' => ex_ (d + 1) 337 59 [some (v_r (some 93)), some (v_i x1), some (v_i x2)] (r.toList ++ []) h' Q) := by
  have e0 : h_r h 93 1 = some 94 := la_r Lh (q := (93, 1, 94)) (by decide)
  unfold ex_
  refine (am_Y_go 7 (ok := [am_is h (some 93) 12, am_ar h ((h_r h 93 1)) 20 (138 : Int32)]) (g := (56, [some (v_r (some 93)), some (v_i x1), some (v_i x2)], [v_i (h_i h ((h_r h 93 1).getD 0) (Int32.toNatClampNeg (138 : Int32))), v_i x2, v_i x1, v_r (some 93)], h)) rfl).trans ?_
  simp only [e0, Option.getD_some, am_all]
  all_goals exact cj_d (la_is Lh (o := 93) rfl) (cj_k (la_ar Lh (o := 94) rfl) (((am_Y_call (j := 336) (na := 4) (ci := 12) (fl := 0) rfl rfl rfl).trans (cj_d ⟨⟨Nat.le_of_ble_eq_true rfl, Nat.le_of_ble_eq_true rfl, Nat.le_of_ble_eq_true rfl, rfl⟩, Or.inr (Or.inr (show (12 : Nat) < 20 ∧ am_is h (some 93) 12 from ⟨by decide, (la_is Lh (o := 93) rfl)⟩))⟩ Iff.rfl))))

theorem b_X12_call_39 {d : Nat} {Q : Option am_V → am_H → Prop} (h : am_H) (l0 l1 l2 : Option am_V) : ex_ d 337 39 [l0, l1, l2] [] h Q ↔ Q (some (v_i (-99000005 : Int32))) h := by
  unfold ex_
  refine (am_Y_go 2 (ok := []) (g := (59, [l0, l1, l2], [v_i (-99000005 : Int32)], h)) rfl).trans ?_
  all_goals exact ((am_Y_ret rfl rfl rfl).trans (am_r0))

theorem b_X12_call_59 {d : Nat} {Q : Option am_V → am_H → Prop} (h : am_H) (s0 : Int32) (l0 l1 l2 : Option am_V) : ex_ d 337 59 [l0, l1, l2] [v_i s0] h Q ↔ Q (some (v_i s0)) h := by
  unfold ex_
  exact ((am_Y_ret rfl rfl rfl).trans (am_r0))

theorem b_X12_through_0 {d : Nat} {Q : Option am_V → am_H → Prop} (h : am_H) (x1 : Int32) (l2 l3 : Option am_V) (Lh : Lay h) : ex_ (d + 1) 338 0 [some (v_r (some 93)), some (v_i x1), l2, l3] [] h Q ↔ ex_ d 262 0 [some (v_r (some 93)), some (v_l (Int32.toInt64 x1)), none] [] (p_i h 93 0 (0 : Int32)) (fun r h' => ex_ (d + 1) 338 11 [some (v_r (some 93)), some (v_i x1), l2, l3] (r.toList ++ []) h' Q) := by
  unfold ex_
  refine (am_Y_go 6 (ok := [am_is h (some 93) 12]) (g := (8, [some (v_r (some 93)), some (v_i x1), l2, l3], [v_l (Int32.toInt64 x1), v_r (some 93)], (p_i h 93 0 (0 : Int32)))) rfl).trans ?_
  simp only [am_all]
  all_goals exact cj_d (la_is Lh (o := 93) rfl) (((am_Y_call (j := 262) (na := 2) (ci := 12) (fl := 0) rfl rfl rfl).trans (cj_d ⟨⟨Nat.le_of_ble_eq_true rfl, Nat.le_of_ble_eq_true rfl, Nat.le_of_ble_eq_true rfl, rfl⟩, Or.inr (Or.inr (show (12 : Nat) < 20 ∧ am_is h (some 93) 12 from ⟨by decide, (la_is Lh (o := 93) rfl)⟩))⟩ Iff.rfl)))

theorem b_X12_through_11 {d : Nat} {Q : Option am_V → am_H → Prop} (h : am_H) (s0 : Int32) (l0 l1 l2 l3 : Option am_V) : ex_ d 338 11 [l0, l1, l2, l3] [v_i s0] h Q ↔ if s0 = 0 then ex_ d 338 22 [l0, l1, l2, l3] [] h Q else ex_ d 338 14 [l0, l1, l2, l3] [] h Q := by
  unfold ex_
  refine (am_Y_go 1 (ok := []) (g := (if s0 = 0 then 22 else 14, [l0, l1, l2, l3], [], h)) rfl).trans ?_
  all_goals exact am_Y_if

theorem b_X12_through_22 {d : Nat} {Q : Option am_V → am_H → Prop} (h : am_H) (l0 l1 l2 l3 : Option am_V) : ex_ d 338 22 [l0, l1, l2, l3] [] h Q ↔ Q (some (v_i (-2 : Int32))) h := by
  unfold ex_
  refine (am_Y_go 1 (ok := []) (g := (24, [l0, l1, l2, l3], [v_i (-2 : Int32)], h)) rfl).trans ?_
  all_goals exact ((am_Y_ret rfl rfl rfl).trans (am_r0))

theorem b_X12_through_14 {d : Nat} {Q : Option am_V → am_H → Prop} (h : am_H) (x2 : Int32) (l0 l1 l3 : Option am_V) : ex_ (d + 1) 338 14 [l0, l1, some (v_i x2), l3] [] h Q ↔ ex_ d 263 0 [some (v_l (Int32.toInt64 x2)), none] [] h (fun r h' => ex_ (d + 1) 338 19 [l0, l1, some (v_i x2), l3] (r.toList ++ []) h' Q) := by
  unfold ex_
  refine (am_Y_go 2 (ok := []) (g := (16, [l0, l1, some (v_i x2), l3], [v_l (Int32.toInt64 x2)], h)) rfl).trans ?_
  all_goals exact ((am_Y_call (j := 263) (na := 1) (ci := 12) (fl := 2) rfl rfl rfl).trans (cj_d ⟨⟨Nat.le_of_ble_eq_true rfl, Nat.le_of_ble_eq_true rfl, Nat.le_of_ble_eq_true rfl, rfl⟩, Or.inl rfl⟩ Iff.rfl))

theorem b_X12_through_19 {d : Nat} {Q : Option am_V → am_H → Prop} (h : am_H) (s0 : Int32) (l0 l1 l2 l3 : Option am_V) : ex_ d 338 19 [l0, l1, l2, l3] [v_i s0] h Q ↔ if ¬ s0 = 0 then ex_ d 338 25 [l0, l1, l2, l3] [] h Q else ex_ d 338 22 [l0, l1, l2, l3] [] h Q := by
  unfold ex_
  refine (am_Y_go 1 (ok := []) (g := (if ¬ s0 = 0 then 25 else 22, [l0, l1, l2, l3], [], h)) rfl).trans ?_
  all_goals exact am_Y_if

theorem b_X12_through_25 {d : Nat} {Q : Option am_V → am_H → Prop} (h : am_H) (x3 : Int32) (l0 l1 l2 : Option am_V) : ex_ d 338 25 [l0, l1, l2, some (v_i x3)] [] h Q ↔ if 0 ≤ x3 then ex_ d 338 32 [l0, l1, l2, some (v_i x3)] [] h Q else ex_ d 338 29 [l0, l1, l2, some (v_i x3)] [] h Q := by
  unfold ex_
  refine (am_Y_go 2 (ok := []) (g := (if 0 ≤ x3 then 32 else 29, [l0, l1, l2, some (v_i x3)], [], h)) rfl).trans ?_
  all_goals exact am_Y_if

theorem b_X12_through_32 {d : Nat} {Q : Option am_V → am_H → Prop} (h : am_H) (l1 l2 l3 : Option am_V) (Lh : Lay h) : ex_ (d + 1) 338 32 [some (v_r (some 93)), l1, l2, l3] [] h Q ↔ ex_ d 271 0 [some (v_r (some 93)), none] [] h (fun r h' => ex_ (d + 1) 338 36 [some (v_r (some 93)), l1, l2, l3] (r.toList ++ []) h' Q) := by
  unfold ex_
  refine (am_Y_go 1 (ok := []) (g := (33, [some (v_r (some 93)), l1, l2, l3], [v_r (some 93)], h)) rfl).trans ?_
  all_goals exact ((am_Y_call (j := 271) (na := 1) (ci := 12) (fl := 0) rfl rfl rfl).trans (cj_d ⟨⟨Nat.le_of_ble_eq_true rfl, Nat.le_of_ble_eq_true rfl, Nat.le_of_ble_eq_true rfl, rfl⟩, Or.inr (Or.inr (show (12 : Nat) < 20 ∧ am_is h (some 93) 12 from ⟨by decide, (la_is Lh (o := 93) rfl)⟩))⟩ Iff.rfl))

theorem b_X12_through_29 {d : Nat} {Q : Option am_V → am_H → Prop} (h : am_H) (l0 l1 l2 l3 : Option am_V) : ex_ d 338 29 [l0, l1, l2, l3] [] h Q ↔ Q (some (v_i (-3 : Int32))) h := by
  unfold ex_
  refine (am_Y_go 1 (ok := []) (g := (31, [l0, l1, l2, l3], [v_i (-3 : Int32)], h)) rfl).trans ?_
  all_goals exact ((am_Y_ret rfl rfl rfl).trans (am_r0))

theorem b_X12_through_36 {d : Nat} {Q : Option am_V → am_H → Prop} (h : am_H) (x1 : Int32) (l2 l3 : Option am_V) (Lh : Lay h) : ex_ d 338 36 [some (v_r (some 93)), some (v_i x1), l2, l3] [] h Q ↔ vp_in x1 11 ∧ (if (h_i h 100 (Int32.toNatClampNeg x1)) = 0 then ex_ d 338 48 [some (v_r (some 93)), some (v_i x1), l2, l3] [] h Q else ex_ d 338 45 [some (v_r (some 93)), some (v_i x1), l2, l3] [] h Q) := by
  have e0 : h_r h 93 18 = some 100 := la_r Lh (q := (93, 18, 100)) (by decide)
  unfold ex_
  refine (am_Y_go 5 (ok := [am_is h (some 93) 12, am_ar h ((h_r h 93 18)) 20 x1]) (g := (if (h_i h ((h_r h 93 18).getD 0) (Int32.toNatClampNeg x1)) = 0 then 48 else 45, [some (v_r (some 93)), some (v_i x1), l2, l3], [], h)) rfl).trans ?_
  simp only [e0, Option.getD_some, am_all]
  all_goals exact cj_d (la_is Lh (o := 93) rfl) (cj_k (la_ar Lh (o := 100) rfl) (am_Y_if))

theorem b_X12_through_48 {d : Nat} {Q : Option am_V → am_H → Prop} (h : am_H) (x1 : Int32) (x2 : Int32) (l3 : Option am_V) (Lh : Lay h) : ex_ (d + 1) 338 48 [some (v_r (some 93)), some (v_i x1), some (v_i x2), l3] [] h Q ↔ vp_in (138 : Int32) 7053 ∧ ex_ d 335 0 [some (v_r (some 93)), some (v_i x1), some (v_i x2), some (v_i (h_i h 94 (Int32.toNatClampNeg (138 : Int32)))), none, none] [] h (fun r h' => ex_ (d + 1) 338 62 [some (v_r (some 93)), some (v_i x1), some (v_i x2), l3] (r.toList ++ []) h' Q) := by
  have e0 : h_r h 93 1 = some 94 := la_r Lh (q := (93, 1, 94)) (by decide)
  unfold ex_
  refine (am_Y_go 7 (ok := [am_is h (some 93) 12, am_ar h ((h_r h 93 1)) 20 (138 : Int32)]) (g := (59, [some (v_r (some 93)), some (v_i x1), some (v_i x2), l3], [v_i (h_i h ((h_r h 93 1).getD 0) (Int32.toNatClampNeg (138 : Int32))), v_i x2, v_i x1, v_r (some 93)], h)) rfl).trans ?_
  simp only [e0, Option.getD_some, am_all]
  all_goals exact cj_d (la_is Lh (o := 93) rfl) (cj_k (la_ar Lh (o := 94) rfl) (((am_Y_call (j := 335) (na := 4) (ci := 12) (fl := 0) rfl rfl rfl).trans (cj_d ⟨⟨Nat.le_of_ble_eq_true rfl, Nat.le_of_ble_eq_true rfl, Nat.le_of_ble_eq_true rfl, rfl⟩, Or.inr (Or.inr (show (12 : Nat) < 20 ∧ am_is h (some 93) 12 from ⟨by decide, (la_is Lh (o := 93) rfl)⟩))⟩ Iff.rfl))))

theorem b_X12_through_45 {d : Nat} {Q : Option am_V → am_H → Prop} (h : am_H) (l0 l1 l2 l3 : Option am_V) : ex_ d 338 45 [l0, l1, l2, l3] [] h Q ↔ Q (some (v_i (-5 : Int32))) h := by
  unfold ex_
  refine (am_Y_go 1 (ok := []) (g := (47, [l0, l1, l2, l3], [v_i (-5 : Int32)], h)) rfl).trans ?_
  all_goals exact ((am_Y_ret rfl rfl rfl).trans (am_r0))

theorem b_X12_through_62 {d : Nat} {Q : Option am_V → am_H → Prop} (h : am_H) (x3 : Int32) (l1 l2 : Option am_V) (Lh : Lay h) : ex_ d 338 62 [some (v_r (some 93)), l1, l2, some (v_i x3)] [] h Q ↔ if (h_i h 93 35) ≤ x3 then ex_ d 338 89 [some (v_r (some 93)), l1, l2, some (v_i x3)] [] h Q else ex_ d 338 70 [some (v_r (some 93)), l1, l2, some (v_i x3)] [] h Q := by
  unfold ex_
  refine (am_Y_go 4 (ok := [am_is h (some 93) 12]) (g := (if (h_i h 93 35) ≤ x3 then 89 else 70, [some (v_r (some 93)), l1, l2, some (v_i x3)], [], h)) rfl).trans ?_
  simp only [am_all]
  all_goals exact cj_d (la_is Lh (o := 93) rfl) (am_Y_if)

theorem b_X12_through_89 {d : Nat} {Q : Option am_V → am_H → Prop} (h : am_H) (l0 l1 l2 l3 : Option am_V) : ex_ d 338 89 [l0, l1, l2, l3] [] h Q ↔ Q (some (v_i (-1 : Int32))) h := by
  unfold ex_
  refine (am_Y_go 1 (ok := []) (g := (90, [l0, l1, l2, l3], [v_i (-1 : Int32)], h)) rfl).trans ?_
  all_goals exact ((am_Y_ret rfl rfl rfl).trans (am_r0))

theorem b_X12_through_70 {d : Nat} {Q : Option am_V → am_H → Prop} (h : am_H) (x1 : Int32) (x3 : Int32) (l2 : Option am_V) (Lh : Lay h) : ex_ d 338 70 [some (v_r (some 93)), some (v_i x1), l2, some (v_i x3)] [] h Q ↔ vp_in x3 11 ∧ vp_in (((11 : Int32) * x1) + (h_i h 112 (Int32.toNatClampNeg x3))) 121 ∧ Q (some (v_i (h_i h 99 (Int32.toNatClampNeg (((11 : Int32) * x1) + (h_i h 112 (Int32.toNatClampNeg x3))))))) h := by
  have e0 : h_r h 93 17 = some 99 := la_r Lh (q := (93, 17, 99)) (by decide)
  have e1 : h_r h 93 34 = some 112 := la_r Lh (q := (93, 34, 112)) (by decide)
  unfold ex_
  refine (am_Y_go 12 (ok := [am_is h (some 93) 12, am_is h (some 93) 12, am_ar h ((h_r h 93 34)) 20 x3, am_ar h ((h_r h 93 17)) 20 (((11 : Int32) * x1) + (h_i h ((h_r h 93 34).getD 0) (Int32.toNatClampNeg x3)))]) (g := (90, [some (v_r (some 93)), some (v_i x1), l2, some (v_i x3)], [v_i (h_i h ((h_r h 93 17).getD 0) (Int32.toNatClampNeg (((11 : Int32) * x1) + (h_i h ((h_r h 93 34).getD 0) (Int32.toNatClampNeg x3)))))], h)) rfl).trans ?_
  simp only [e0, e1, Option.getD_some, am_all]
  all_goals exact cj_d (la_is Lh (o := 93) rfl) (cj_d (la_is Lh (o := 93) rfl) (cj_k (la_ar Lh (o := 112) rfl) (cj_k (la_ar Lh (o := 99) rfl) (((am_Y_ret rfl rfl rfl).trans (am_r0))))))

theorem b_X12_serves_0 {d : Nat} {Q : Option am_V → am_H → Prop} (h : am_H) (x1 : Int32) (l2 l3 l4 : Option am_V) (Lh : Lay h) : ex_ (d + 1) 339 0 [some (v_r (some 93)), some (v_i x1), l2, l3, l4] [] h Q ↔ ex_ d 262 0 [some (v_r (some 93)), some (v_l (Int32.toInt64 x1)), none] [] (p_i h 93 0 (0 : Int32)) (fun r h' => ex_ (d + 1) 339 11 [some (v_r (some 93)), some (v_i x1), l2, l3, l4] (r.toList ++ []) h' Q) := by
  unfold ex_
  refine (am_Y_go 6 (ok := [am_is h (some 93) 12]) (g := (8, [some (v_r (some 93)), some (v_i x1), l2, l3, l4], [v_l (Int32.toInt64 x1), v_r (some 93)], (p_i h 93 0 (0 : Int32)))) rfl).trans ?_
  simp only [am_all]
  all_goals exact cj_d (la_is Lh (o := 93) rfl) (((am_Y_call (j := 262) (na := 2) (ci := 12) (fl := 0) rfl rfl rfl).trans (cj_d ⟨⟨Nat.le_of_ble_eq_true rfl, Nat.le_of_ble_eq_true rfl, Nat.le_of_ble_eq_true rfl, rfl⟩, Or.inr (Or.inr (show (12 : Nat) < 20 ∧ am_is h (some 93) 12 from ⟨by decide, (la_is Lh (o := 93) rfl)⟩))⟩ Iff.rfl)))

theorem b_X12_serves_11 {d : Nat} {Q : Option am_V → am_H → Prop} (h : am_H) (s0 : Int32) (l0 l1 l2 l3 l4 : Option am_V) : ex_ d 339 11 [l0, l1, l2, l3, l4] [v_i s0] h Q ↔ if s0 = 0 then ex_ d 339 22 [l0, l1, l2, l3, l4] [] h Q else ex_ d 339 14 [l0, l1, l2, l3, l4] [] h Q := by
  unfold ex_
  refine (am_Y_go 1 (ok := []) (g := (if s0 = 0 then 22 else 14, [l0, l1, l2, l3, l4], [], h)) rfl).trans ?_
  all_goals exact am_Y_if

theorem b_X12_serves_22 {d : Nat} {Q : Option am_V → am_H → Prop} (h : am_H) (l0 l1 l2 l3 l4 : Option am_V) : ex_ d 339 22 [l0, l1, l2, l3, l4] [] h Q ↔ Q (some (v_i (-2 : Int32))) h := by
  unfold ex_
  refine (am_Y_go 1 (ok := []) (g := (24, [l0, l1, l2, l3, l4], [v_i (-2 : Int32)], h)) rfl).trans ?_
  all_goals exact ((am_Y_ret rfl rfl rfl).trans (am_r0))

theorem b_X12_serves_14 {d : Nat} {Q : Option am_V → am_H → Prop} (h : am_H) (x2 : Int32) (l0 l1 l3 l4 : Option am_V) : ex_ (d + 1) 339 14 [l0, l1, some (v_i x2), l3, l4] [] h Q ↔ ex_ d 263 0 [some (v_l (Int32.toInt64 x2)), none] [] h (fun r h' => ex_ (d + 1) 339 19 [l0, l1, some (v_i x2), l3, l4] (r.toList ++ []) h' Q) := by
  unfold ex_
  refine (am_Y_go 2 (ok := []) (g := (16, [l0, l1, some (v_i x2), l3, l4], [v_l (Int32.toInt64 x2)], h)) rfl).trans ?_
  all_goals exact ((am_Y_call (j := 263) (na := 1) (ci := 12) (fl := 2) rfl rfl rfl).trans (cj_d ⟨⟨Nat.le_of_ble_eq_true rfl, Nat.le_of_ble_eq_true rfl, Nat.le_of_ble_eq_true rfl, rfl⟩, Or.inl rfl⟩ Iff.rfl))

theorem b_X12_serves_19 {d : Nat} {Q : Option am_V → am_H → Prop} (h : am_H) (s0 : Int32) (l0 l1 l2 l3 l4 : Option am_V) : ex_ d 339 19 [l0, l1, l2, l3, l4] [v_i s0] h Q ↔ if ¬ s0 = 0 then ex_ d 339 25 [l0, l1, l2, l3, l4] [] h Q else ex_ d 339 22 [l0, l1, l2, l3, l4] [] h Q := by
  unfold ex_
  refine (am_Y_go 1 (ok := []) (g := (if ¬ s0 = 0 then 25 else 22, [l0, l1, l2, l3, l4], [], h)) rfl).trans ?_
  all_goals exact am_Y_if

theorem b_X12_serves_25 {d : Nat} {Q : Option am_V → am_H → Prop} (h : am_H) (l1 l2 l3 l4 : Option am_V) (Lh : Lay h) : ex_ (d + 1) 339 25 [some (v_r (some 93)), l1, l2, l3, l4] [] h Q ↔ ex_ d 271 0 [some (v_r (some 93)), none] [] h (fun r h' => ex_ (d + 1) 339 29 [some (v_r (some 93)), l1, l2, l3, l4] (r.toList ++ []) h' Q) := by
  unfold ex_
  refine (am_Y_go 1 (ok := []) (g := (26, [some (v_r (some 93)), l1, l2, l3, l4], [v_r (some 93)], h)) rfl).trans ?_
  all_goals exact ((am_Y_call (j := 271) (na := 1) (ci := 12) (fl := 0) rfl rfl rfl).trans (cj_d ⟨⟨Nat.le_of_ble_eq_true rfl, Nat.le_of_ble_eq_true rfl, Nat.le_of_ble_eq_true rfl, rfl⟩, Or.inr (Or.inr (show (12 : Nat) < 20 ∧ am_is h (some 93) 12 from ⟨by decide, (la_is Lh (o := 93) rfl)⟩))⟩ Iff.rfl))

theorem b_X12_serves_29 {d : Nat} {Q : Option am_V → am_H → Prop} (h : am_H) (l0 l1 l2 l3 l4 : Option am_V) : ex_ d 339 29 [l0, l1, l2, l3, l4] [] h Q ↔ ex_ d 339 34 [l0, l1, l2, some (v_i (0 : Int32)), some (v_i (0 : Int32))] [] h Q := by
  unfold ex_
  refine (am_Y_go 4 (ok := []) (g := (34, [l0, l1, l2, some (v_i (0 : Int32)), some (v_i (0 : Int32))], [], h)) rfl).trans ?_
  all_goals exact Iff.rfl

theorem b_X12_serves_34 {d : Nat} {Q : Option am_V → am_H → Prop} (h : am_H) (x4 : Int32) (l1 l2 l3 : Option am_V) (Lh : Lay h) : ex_ d 339 34 [some (v_r (some 93)), l1, l2, l3, some (v_i x4)] [] h Q ↔ vp_in (1 : Int32) 7053 ∧ (if (h_i h 94 (Int32.toNatClampNeg (1 : Int32))) ≤ x4 then ex_ d 339 105 [some (v_r (some 93)), l1, l2, l3, some (v_i x4)] [] h Q else ex_ d 339 45 [some (v_r (some 93)), l1, l2, l3, some (v_i x4)] [] h Q) := by
  have e0 : h_r h 93 1 = some 94 := la_r Lh (q := (93, 1, 94)) (by decide)
  unfold ex_
  refine (am_Y_go 6 (ok := [am_is h (some 93) 12, am_ar h ((h_r h 93 1)) 20 (1 : Int32)]) (g := (if (h_i h ((h_r h 93 1).getD 0) (Int32.toNatClampNeg (1 : Int32))) ≤ x4 then 105 else 45, [some (v_r (some 93)), l1, l2, l3, some (v_i x4)], [], h)) rfl).trans ?_
  simp only [e0, Option.getD_some, am_all]
  all_goals exact cj_d (la_is Lh (o := 93) rfl) (cj_k (la_ar Lh (o := 94) rfl) (am_Y_if))

theorem b_X12_serves_105 {d : Nat} {Q : Option am_V → am_H → Prop} (h : am_H) (x3 : Int32) (l0 l1 l2 l4 : Option am_V) : ex_ d 339 105 [l0, l1, l2, some (v_i x3), l4] [] h Q ↔ Q (some (v_i x3)) h := by
  unfold ex_
  refine (am_Y_go 1 (ok := []) (g := (106, [l0, l1, l2, some (v_i x3), l4], [v_i x3], h)) rfl).trans ?_
  all_goals exact ((am_Y_ret rfl rfl rfl).trans (am_r0))

theorem b_X12_serves_45 {d : Nat} {Q : Option am_V → am_H → Prop} (h : am_H) (x4 : Int32) (x2 : Int32) (l1 l3 : Option am_V) (Lh : Lay h) : ex_ (d + 1) 339 45 [some (v_r (some 93)), l1, some (v_i x2), l3, some (v_i x4)] [] h Q ↔ vp_in (138 : Int32) 7053 ∧ ex_ d 335 0 [some (v_r (some 93)), some (v_i x4), some (v_i x2), some (v_i (h_i h 94 (Int32.toNatClampNeg (138 : Int32)))), none, none] [] h (fun r h' => ex_ (d + 1) 339 60 [some (v_r (some 93)), l1, some (v_i x2), l3, some (v_i x4)] (r.toList ++ []) h' Q) := by
  have e0 : h_r h 93 1 = some 94 := la_r Lh (q := (93, 1, 94)) (by decide)
  unfold ex_
  refine (am_Y_go 7 (ok := [am_is h (some 93) 12, am_ar h ((h_r h 93 1)) 20 (138 : Int32)]) (g := (57, [some (v_r (some 93)), l1, some (v_i x2), l3, some (v_i x4)], [v_i (h_i h ((h_r h 93 1).getD 0) (Int32.toNatClampNeg (138 : Int32))), v_i x2, v_i x4, v_r (some 93)], h)) rfl).trans ?_
  simp only [e0, Option.getD_some, am_all]
  all_goals exact cj_d (la_is Lh (o := 93) rfl) (cj_k (la_ar Lh (o := 94) rfl) (((am_Y_call (j := 335) (na := 4) (ci := 12) (fl := 0) rfl rfl rfl).trans (cj_d ⟨⟨Nat.le_of_ble_eq_true rfl, Nat.le_of_ble_eq_true rfl, Nat.le_of_ble_eq_true rfl, rfl⟩, Or.inr (Or.inr (show (12 : Nat) < 20 ∧ am_is h (some 93) 12 from ⟨by decide, (la_is Lh (o := 93) rfl)⟩))⟩ Iff.rfl))))

theorem b_X12_serves_60 {d : Nat} {Q : Option am_V → am_H → Prop} (h : am_H) (x3 : Int32) (l1 l2 l4 : Option am_V) (Lh : Lay h) : ex_ d 339 60 [some (v_r (some 93)), l1, l2, some (v_i x3), l4] [] h Q ↔ if (h_i h 93 35) ≤ 0 then ex_ d 339 96 [some (v_r (some 93)), l1, l2, some (v_i x3), l4] [v_i x3] h Q else ex_ d 339 68 [some (v_r (some 93)), l1, l2, some (v_i x3), l4] [v_i x3] h Q := by
  unfold ex_
  refine (am_Y_go 4 (ok := [am_is h (some 93) 12]) (g := (if (h_i h 93 35) ≤ 0 then 96 else 68, [some (v_r (some 93)), l1, l2, some (v_i x3), l4], [v_i x3], h)) rfl).trans ?_
  simp only [am_all]
  all_goals exact cj_d (la_is Lh (o := 93) rfl) (am_Y_if)

theorem b_X12_serves_96 {d : Nat} {Q : Option am_V → am_H → Prop} (h : am_H) (s0 : Int32) (x4 : Int32) (l0 l1 l2 l3 : Option am_V) : ex_ d 339 96 [l0, l1, l2, l3, some (v_i x4)] [v_i s0] h Q ↔ ex_ d 339 34 [l0, l1, l2, some (v_i (s0 ||| (0 : Int32))), some (v_i (x4 + (1 : Int32)))] [] h Q := by
  unfold ex_
  refine (am_Y_go 5 (ok := []) (g := (34, [l0, l1, l2, some (v_i (s0 ||| (0 : Int32))), some (v_i (x4 + (1 : Int32)))], [], h)) rfl).trans ?_
  all_goals exact Iff.rfl

theorem b_X12_serves_68 {d : Nat} {Q : Option am_V → am_H → Prop} (h : am_H) (s0 : Int32) (x4 : Int32) (x1 : Int32) (l2 l3 : Option am_V) (Lh : Lay h) : ex_ d 339 68 [some (v_r (some 93)), some (v_i x1), l2, l3, some (v_i x4)] [v_i s0] h Q ↔ vp_in (0 : Int32) 11 ∧ vp_in (((11 : Int32) * x4) + (h_i h 112 (Int32.toNatClampNeg (0 : Int32)))) 121 ∧ (if ¬ (h_i h 99 (Int32.toNatClampNeg (((11 : Int32) * x4) + (h_i h 112 (Int32.toNatClampNeg (0 : Int32)))))) = x1 then ex_ d 339 96 [some (v_r (some 93)), some (v_i x1), l2, l3, some (v_i x4)] [v_i s0] h Q else ex_ d 339 89 [some (v_r (some 93)), some (v_i x1), l2, l3, some (v_i x4)] [v_i s0] h Q) := by
  have e0 : h_r h 93 17 = some 99 := la_r Lh (q := (93, 17, 99)) (by decide)
  have e1 : h_r h 93 34 = some 112 := la_r Lh (q := (93, 34, 112)) (by decide)
  unfold ex_
  refine (am_Y_go 13 (ok := [am_is h (some 93) 12, am_is h (some 93) 12, am_ar h ((h_r h 93 34)) 20 (0 : Int32), am_ar h ((h_r h 93 17)) 20 (((11 : Int32) * x4) + (h_i h ((h_r h 93 34).getD 0) (Int32.toNatClampNeg (0 : Int32))))]) (g := (if ¬ (h_i h ((h_r h 93 17).getD 0) (Int32.toNatClampNeg (((11 : Int32) * x4) + (h_i h ((h_r h 93 34).getD 0) (Int32.toNatClampNeg (0 : Int32)))))) = x1 then 96 else 89, [some (v_r (some 93)), some (v_i x1), l2, l3, some (v_i x4)], [v_i s0], h)) rfl).trans ?_
  simp only [e0, e1, Option.getD_some, am_all]
  all_goals exact cj_d (la_is Lh (o := 93) rfl) (cj_d (la_is Lh (o := 93) rfl) (cj_k (la_ar Lh (o := 112) rfl) (cj_k (la_ar Lh (o := 99) rfl) (am_Y_if))))

theorem b_X12_serves_89 {d : Nat} {Q : Option am_V → am_H → Prop} (h : am_H) (s0 : Int32) (x4 : Int32) (l0 l1 l2 l3 : Option am_V) : ex_ d 339 89 [l0, l1, l2, l3, some (v_i x4)] [v_i s0] h Q ↔ ex_ d 339 34 [l0, l1, l2, some (v_i (s0 ||| ((1 : Int32) <<< (x4 &&& 31)))), some (v_i (x4 + (1 : Int32)))] [] h Q := by
  unfold ex_
  refine (am_Y_go 8 (ok := []) (g := (34, [l0, l1, l2, some (v_i (s0 ||| ((1 : Int32) <<< (x4 &&& 31)))), some (v_i (x4 + (1 : Int32)))], [], h)) rfl).trans ?_
  all_goals exact Iff.rfl

theorem b_X12_deadOnes_0 {d : Nat} {Q : Option am_V → am_H → Prop} (h : am_H) (l1 l2 l3 l4 l5 l6 l7 : Option am_V) (Lh : Lay h) : ex_ (d + 1) 340 0 [some (v_r (some 93)), l1, l2, l3, l4, l5, l6, l7] [] h Q ↔ ex_ d 271 0 [some (v_r (some 93)), none] [] h (fun r h' => ex_ (d + 1) 340 4 [some (v_r (some 93)), l1, l2, l3, l4, l5, l6, l7] (r.toList ++ []) h' Q) := by
  unfold ex_
  refine (am_Y_go 1 (ok := []) (g := (1, [some (v_r (some 93)), l1, l2, l3, l4, l5, l6, l7], [v_r (some 93)], h)) rfl).trans ?_
  all_goals exact ((am_Y_call (j := 271) (na := 1) (ci := 12) (fl := 0) rfl rfl rfl).trans (cj_d ⟨⟨Nat.le_of_ble_eq_true rfl, Nat.le_of_ble_eq_true rfl, Nat.le_of_ble_eq_true rfl, rfl⟩, Or.inr (Or.inr (show (12 : Nat) < 20 ∧ am_is h (some 93) 12 from ⟨by decide, (la_is Lh (o := 93) rfl)⟩))⟩ Iff.rfl))

theorem b_X12_deadOnes_4 {d : Nat} {Q : Option am_V → am_H → Prop} (h : am_H) (l0 l1 l2 l3 l4 l5 l6 l7 : Option am_V) : ex_ d 340 4 [l0, l1, l2, l3, l4, l5, l6, l7] [] h Q ↔ ex_ d 340 11 [l0, l1, some (v_i (0 : Int32)), some (v_i (-1 : Int32)), some (v_i (0 : Int32)), l5, l6, l7] [] h Q := by
  unfold ex_
  refine (am_Y_go 6 (ok := []) (g := (11, [l0, l1, some (v_i (0 : Int32)), some (v_i (-1 : Int32)), some (v_i (0 : Int32)), l5, l6, l7], [], h)) rfl).trans ?_
  all_goals exact Iff.rfl

theorem b_X12_deadOnes_11 {d : Nat} {Q : Option am_V → am_H → Prop} (h : am_H) (x4 : Int32) (l0 l1 l2 l3 l5 l6 l7 : Option am_V) : ex_ d 340 11 [l0, l1, l2, l3, some (v_i x4), l5, l6, l7] [] h Q ↔ if (8 : Int32) ≤ x4 then ex_ d 340 192 [l0, l1, l2, l3, some (v_i x4), l5, l6, l7] [] h Q else ex_ d 340 18 [l0, l1, l2, l3, some (v_i x4), l5, l6, l7] [] h Q := by
  unfold ex_
  refine (am_Y_go 3 (ok := []) (g := (if (8 : Int32) ≤ x4 then 192 else 18, [l0, l1, l2, l3, some (v_i x4), l5, l6, l7], [], h)) rfl).trans ?_
  all_goals exact am_Y_if

theorem b_X12_deadOnes_192 {d : Nat} {Q : Option am_V → am_H → Prop} (h : am_H) (x1 : Int32) (l0 l2 l3 l4 l5 l6 l7 : Option am_V) : ex_ d 340 192 [l0, some (v_i x1), l2, l3, l4, l5, l6, l7] [] h Q ↔ if x1 = 0 then ex_ d 340 200 [l0, some (v_i x1), l2, l3, l4, l5, l6, l7] [] h Q else ex_ d 340 196 [l0, some (v_i x1), l2, l3, l4, l5, l6, l7] [] h Q := by
  unfold ex_
  refine (am_Y_go 2 (ok := []) (g := (if x1 = 0 then 200 else 196, [l0, some (v_i x1), l2, l3, l4, l5, l6, l7], [], h)) rfl).trans ?_
  all_goals exact am_Y_if

theorem b_X12_deadOnes_18 {d : Nat} {Q : Option am_V → am_H → Prop} (h : am_H) (l0 l1 l2 l3 l4 l5 l6 l7 : Option am_V) : ex_ d 340 18 [l0, l1, l2, l3, l4, l5, l6, l7] [] h Q ↔ ex_ d 340 24 [l0, l1, l2, l3, l4, some (v_i (0 : Int32)), some (v_i (0 : Int32)), l7] [] h Q := by
  unfold ex_
  refine (am_Y_go 4 (ok := []) (g := (24, [l0, l1, l2, l3, l4, some (v_i (0 : Int32)), some (v_i (0 : Int32)), l7], [], h)) rfl).trans ?_
  all_goals exact Iff.rfl

theorem b_X12_deadOnes_200 {d : Nat} {Q : Option am_V → am_H → Prop} (h : am_H) (x2 : Int32) (l0 l1 l3 l4 l5 l6 l7 : Option am_V) : ex_ d 340 200 [l0, l1, some (v_i x2), l3, l4, l5, l6, l7] [] h Q ↔ Q (some (v_i x2)) h := by
  unfold ex_
  refine (am_Y_go 1 (ok := []) (g := (201, [l0, l1, some (v_i x2), l3, l4, l5, l6, l7], [v_i x2], h)) rfl).trans ?_
  all_goals exact ((am_Y_ret rfl rfl rfl).trans (am_r0))

theorem b_X12_deadOnes_196 {d : Nat} {Q : Option am_V → am_H → Prop} (h : am_H) (x3 : Int32) (l0 l1 l2 l4 l5 l6 l7 : Option am_V) : ex_ d 340 196 [l0, l1, l2, some (v_i x3), l4, l5, l6, l7] [] h Q ↔ Q (some (v_i x3)) h := by
  unfold ex_
  refine (am_Y_go 2 (ok := []) (g := (201, [l0, l1, l2, some (v_i x3), l4, l5, l6, l7], [v_i x3], h)) rfl).trans ?_
  all_goals exact ((am_Y_ret rfl rfl rfl).trans (am_r0))

theorem b_X12_deadOnes_24 {d : Nat} {Q : Option am_V → am_H → Prop} (h : am_H) (x6 : Int32) (l1 l2 l3 l4 l5 l7 : Option am_V) (Lh : Lay h) : ex_ d 340 24 [some (v_r (some 93)), l1, l2, l3, l4, l5, some (v_i x6), l7] [] h Q ↔ vp_in (1 : Int32) 7053 ∧ (if (h_i h 94 (Int32.toNatClampNeg (1 : Int32))) ≤ x6 then ex_ d 340 100 [some (v_r (some 93)), l1, l2, l3, l4, l5, some (v_i x6), l7] [] h Q else ex_ d 340 35 [some (v_r (some 93)), l1, l2, l3, l4, l5, some (v_i x6), l7] [] h Q) := by
  have e0 : h_r h 93 1 = some 94 := la_r Lh (q := (93, 1, 94)) (by decide)
  unfold ex_
  refine (am_Y_go 6 (ok := [am_is h (some 93) 12, am_ar h ((h_r h 93 1)) 20 (1 : Int32)]) (g := (if (h_i h ((h_r h 93 1).getD 0) (Int32.toNatClampNeg (1 : Int32))) ≤ x6 then 100 else 35, [some (v_r (some 93)), l1, l2, l3, l4, l5, some (v_i x6), l7], [], h)) rfl).trans ?_
  simp only [e0, Option.getD_some, am_all]
  all_goals exact cj_d (la_is Lh (o := 93) rfl) (cj_k (la_ar Lh (o := 94) rfl) (am_Y_if))

theorem b_X12_deadOnes_100 {d : Nat} {Q : Option am_V → am_H → Prop} (h : am_H) (l0 l1 l2 l3 l4 l5 l6 l7 : Option am_V) : ex_ d 340 100 [l0, l1, l2, l3, l4, l5, l6, l7] [] h Q ↔ ex_ d 340 103 [l0, l1, l2, l3, l4, l5, some (v_i (0 : Int32)), l7] [] h Q := by
  unfold ex_
  refine (am_Y_go 2 (ok := []) (g := (103, [l0, l1, l2, l3, l4, l5, some (v_i (0 : Int32)), l7], [], h)) rfl).trans ?_
  all_goals exact Iff.rfl

theorem b_X12_deadOnes_35 {d : Nat} {Q : Option am_V → am_H → Prop} (h : am_H) (x6 : Int32) (x4 : Int32) (l1 l2 l3 l5 l7 : Option am_V) (Lh : Lay h) : ex_ (d + 1) 340 35 [some (v_r (some 93)), l1, l2, l3, some (v_i x4), l5, some (v_i x6), l7] [] h Q ↔ vp_in (138 : Int32) 7053 ∧ ex_ d 335 0 [some (v_r (some 93)), some (v_i x6), some (v_i x4), some (v_i (h_i h 94 (Int32.toNatClampNeg (138 : Int32)))), none, none] [] h (fun r h' => ex_ (d + 1) 340 51 [some (v_r (some 93)), l1, l2, l3, some (v_i x4), l5, some (v_i x6), l7] (r.toList ++ []) h' Q) := by
  have e0 : h_r h 93 1 = some 94 := la_r Lh (q := (93, 1, 94)) (by decide)
  unfold ex_
  refine (am_Y_go 7 (ok := [am_is h (some 93) 12, am_ar h ((h_r h 93 1)) 20 (138 : Int32)]) (g := (48, [some (v_r (some 93)), l1, l2, l3, some (v_i x4), l5, some (v_i x6), l7], [v_i (h_i h ((h_r h 93 1).getD 0) (Int32.toNatClampNeg (138 : Int32))), v_i x4, v_i x6, v_r (some 93)], h)) rfl).trans ?_
  simp only [e0, Option.getD_some, am_all]
  all_goals exact cj_d (la_is Lh (o := 93) rfl) (cj_k (la_ar Lh (o := 94) rfl) (((am_Y_call (j := 335) (na := 4) (ci := 12) (fl := 0) rfl rfl rfl).trans (cj_d ⟨⟨Nat.le_of_ble_eq_true rfl, Nat.le_of_ble_eq_true rfl, Nat.le_of_ble_eq_true rfl, rfl⟩, Or.inr (Or.inr (show (12 : Nat) < 20 ∧ am_is h (some 93) 12 from ⟨by decide, (la_is Lh (o := 93) rfl)⟩))⟩ Iff.rfl))))

theorem b_X12_deadOnes_103 {d : Nat} {Q : Option am_V → am_H → Prop} (h : am_H) (x6 : Int32) (l1 l2 l3 l4 l5 l7 : Option am_V) (Lh : Lay h) : ex_ d 340 103 [some (v_r (some 93)), l1, l2, l3, l4, l5, some (v_i x6), l7] [] h Q ↔ vp_in (1 : Int32) 7053 ∧ (if (h_i h 94 (Int32.toNatClampNeg (1 : Int32))) ≤ x6 then ex_ d 340 186 [some (v_r (some 93)), l1, l2, l3, l4, l5, some (v_i x6), l7] [] h Q else ex_ d 340 114 [some (v_r (some 93)), l1, l2, l3, l4, l5, some (v_i x6), l7] [] h Q) := by
  have e0 : h_r h 93 1 = some 94 := la_r Lh (q := (93, 1, 94)) (by decide)
  unfold ex_
  refine (am_Y_go 6 (ok := [am_is h (some 93) 12, am_ar h ((h_r h 93 1)) 20 (1 : Int32)]) (g := (if (h_i h ((h_r h 93 1).getD 0) (Int32.toNatClampNeg (1 : Int32))) ≤ x6 then 186 else 114, [some (v_r (some 93)), l1, l2, l3, l4, l5, some (v_i x6), l7], [], h)) rfl).trans ?_
  simp only [e0, Option.getD_some, am_all]
  all_goals exact cj_d (la_is Lh (o := 93) rfl) (cj_k (la_ar Lh (o := 94) rfl) (am_Y_if))

theorem b_X12_deadOnes_51 {d : Nat} {Q : Option am_V → am_H → Prop} (h : am_H) (l0 l1 l2 l3 l4 l5 l6 l7 : Option am_V) : ex_ d 340 51 [l0, l1, l2, l3, l4, l5, l6, l7] [] h Q ↔ ex_ d 340 54 [l0, l1, l2, l3, l4, l5, l6, some (v_i (0 : Int32))] [] h Q := by
  unfold ex_
  refine (am_Y_go 2 (ok := []) (g := (54, [l0, l1, l2, l3, l4, l5, l6, some (v_i (0 : Int32))], [], h)) rfl).trans ?_
  all_goals exact Iff.rfl

theorem b_X12_deadOnes_186 {d : Nat} {Q : Option am_V → am_H → Prop} (h : am_H) (x4 : Int32) (l0 l1 l2 l3 l5 l6 l7 : Option am_V) : ex_ d 340 186 [l0, l1, l2, l3, some (v_i x4), l5, l6, l7] [] h Q ↔ ex_ d 340 11 [l0, l1, l2, l3, some (v_i (x4 + (1 : Int32))), l5, l6, l7] [] h Q := by
  unfold ex_
  refine (am_Y_go 2 (ok := []) (g := (11, [l0, l1, l2, l3, some (v_i (x4 + (1 : Int32))), l5, l6, l7], [], h)) rfl).trans ?_
  all_goals exact Iff.rfl

theorem b_X12_deadOnes_114 {d : Nat} {Q : Option am_V → am_H → Prop} (h : am_H) (x6 : Int32) (x4 : Int32) (l1 l2 l3 l5 l7 : Option am_V) (Lh : Lay h) : ex_ d 340 114 [some (v_r (some 93)), l1, l2, l3, some (v_i x4), l5, some (v_i x6), l7] [] h Q ↔ vp_in (((58 : Int32) + ((8 : Int32) * x6)) + x4) 7053 ∧ (if (h_i h 94 (Int32.toNatClampNeg (((58 : Int32) + ((8 : Int32) * x6)) + x4))) = 0 then ex_ d 340 180 [some (v_r (some 93)), l1, l2, l3, some (v_i x4), l5, some (v_i x6), l7] [] h Q else ex_ d 340 133 [some (v_r (some 93)), l1, l2, l3, some (v_i x4), l5, some (v_i x6), l7] [] h Q) := by
  have e0 : h_r h 93 1 = some 94 := la_r Lh (q := (93, 1, 94)) (by decide)
  unfold ex_
  refine (am_Y_go 11 (ok := [am_is h (some 93) 12, am_ar h ((h_r h 93 1)) 20 (((58 : Int32) + ((8 : Int32) * x6)) + x4)]) (g := (if (h_i h ((h_r h 93 1).getD 0) (Int32.toNatClampNeg (((58 : Int32) + ((8 : Int32) * x6)) + x4))) = 0 then 180 else 133, [some (v_r (some 93)), l1, l2, l3, some (v_i x4), l5, some (v_i x6), l7], [], h)) rfl).trans ?_
  simp only [e0, Option.getD_some, am_all]
  all_goals exact cj_d (la_is Lh (o := 93) rfl) (cj_k (la_ar Lh (o := 94) rfl) (am_Y_if))

theorem b_X12_deadOnes_54 {d : Nat} {Q : Option am_V → am_H → Prop} (h : am_H) (x7 : Int32) (l1 l2 l3 l4 l5 l6 : Option am_V) (Lh : Lay h) : ex_ d 340 54 [some (v_r (some 93)), l1, l2, l3, l4, l5, l6, some (v_i x7)] [] h Q ↔ if (h_i h 93 35) ≤ x7 then ex_ d 340 94 [some (v_r (some 93)), l1, l2, l3, l4, l5, l6, some (v_i x7)] [] h Q else ex_ d 340 63 [some (v_r (some 93)), l1, l2, l3, l4, l5, l6, some (v_i x7)] [] h Q := by
  unfold ex_
  refine (am_Y_go 4 (ok := [am_is h (some 93) 12]) (g := (if (h_i h 93 35) ≤ x7 then 94 else 63, [some (v_r (some 93)), l1, l2, l3, l4, l5, l6, some (v_i x7)], [], h)) rfl).trans ?_
  simp only [am_all]
  all_goals exact cj_d (la_is Lh (o := 93) rfl) (am_Y_if)

theorem b_X12_deadOnes_180 {d : Nat} {Q : Option am_V → am_H → Prop} (h : am_H) (x6 : Int32) (l0 l1 l2 l3 l4 l5 l7 : Option am_V) : ex_ d 340 180 [l0, l1, l2, l3, l4, l5, some (v_i x6), l7] [] h Q ↔ ex_ d 340 103 [l0, l1, l2, l3, l4, l5, some (v_i (x6 + (1 : Int32))), l7] [] h Q := by
  unfold ex_
  refine (am_Y_go 2 (ok := []) (g := (103, [l0, l1, l2, l3, l4, l5, some (v_i (x6 + (1 : Int32))), l7], [], h)) rfl).trans ?_
  all_goals exact Iff.rfl

theorem b_X12_deadOnes_133 {d : Nat} {Q : Option am_V → am_H → Prop} (h : am_H) (x5 : Int32) (x6 : Int32) (l0 l1 l2 l3 l4 l7 : Option am_V) : ex_ (d + 1) 340 133 [l0, l1, l2, l3, l4, some (v_i x5), some (v_i x6), l7] [] h Q ↔ ex_ d 242 0 [some (v_l (Int32.toInt64 x5)), none, some (v_i x6)] [] h (fun r h' => ex_ (d + 1) 340 141 [l0, l1, l2, l3, l4, some (v_i x5), some (v_i x6), l7] (r.toList ++ []) h' Q) := by
  unfold ex_
  refine (am_Y_go 3 (ok := []) (g := (138, [l0, l1, l2, l3, l4, some (v_i x5), some (v_i x6), l7], [v_i x6, v_l (Int32.toInt64 x5)], h)) rfl).trans ?_
  all_goals exact ((am_Y_call (j := 242) (na := 2) (ci := 12) (fl := 2) rfl rfl rfl).trans (cj_d ⟨⟨Nat.le_of_ble_eq_true rfl, Nat.le_of_ble_eq_true rfl, Nat.le_of_ble_eq_true rfl, rfl⟩, Or.inl rfl⟩ Iff.rfl))

theorem b_X12_deadOnes_94 {d : Nat} {Q : Option am_V → am_H → Prop} (h : am_H) (x6 : Int32) (l0 l1 l2 l3 l4 l5 l7 : Option am_V) : ex_ d 340 94 [l0, l1, l2, l3, l4, l5, some (v_i x6), l7] [] h Q ↔ ex_ d 340 24 [l0, l1, l2, l3, l4, l5, some (v_i (x6 + (1 : Int32))), l7] [] h Q := by
  unfold ex_
  refine (am_Y_go 2 (ok := []) (g := (24, [l0, l1, l2, l3, l4, l5, some (v_i (x6 + (1 : Int32))), l7], [], h)) rfl).trans ?_
  all_goals exact Iff.rfl

theorem b_X12_deadOnes_63 {d : Nat} {Q : Option am_V → am_H → Prop} (h : am_H) (x5 : Int32) (x6 : Int32) (x7 : Int32) (l1 l2 l3 l4 : Option am_V) (Lh : Lay h) : ex_ d 340 63 [some (v_r (some 93)), l1, l2, l3, l4, some (v_i x5), some (v_i x6), some (v_i x7)] [] h Q ↔ vp_in x7 11 ∧ vp_in (((11 : Int32) * x6) + (h_i h 112 (Int32.toNatClampNeg x7))) 121 ∧ ex_ d 340 54 [some (v_r (some 93)), l1, l2, l3, l4, some (v_i (x5 ||| ((1 : Int32) <<< ((h_i h 99 (Int32.toNatClampNeg (((11 : Int32) * x6) + (h_i h 112 (Int32.toNatClampNeg x7))))) &&& 31)))), some (v_i x6), some (v_i (x7 + (1 : Int32)))] [] h Q := by
  have e0 : h_r h 93 17 = some 99 := la_r Lh (q := (93, 17, 99)) (by decide)
  have e1 : h_r h 93 34 = some 112 := la_r Lh (q := (93, 34, 112)) (by decide)
  unfold ex_
  refine (am_Y_go 18 (ok := [am_is h (some 93) 12, am_is h (some 93) 12, am_ar h ((h_r h 93 34)) 20 x7, am_ar h ((h_r h 93 17)) 20 (((11 : Int32) * x6) + (h_i h ((h_r h 93 34).getD 0) (Int32.toNatClampNeg x7)))]) (g := (54, [some (v_r (some 93)), l1, l2, l3, l4, some (v_i (x5 ||| ((1 : Int32) <<< ((h_i h ((h_r h 93 17).getD 0) (Int32.toNatClampNeg (((11 : Int32) * x6) + (h_i h ((h_r h 93 34).getD 0) (Int32.toNatClampNeg x7))))) &&& 31)))), some (v_i x6), some (v_i (x7 + (1 : Int32)))], [], h)) rfl).trans ?_
  simp only [e0, e1, Option.getD_some, am_all]
  all_goals exact cj_d (la_is Lh (o := 93) rfl) (cj_d (la_is Lh (o := 93) rfl) (cj_k (la_ar Lh (o := 112) rfl) (cj_k (la_ar Lh (o := 99) rfl) (Iff.rfl))))

theorem b_X12_deadOnes_141 {d : Nat} {Q : Option am_V → am_H → Prop} (h : am_H) (s0 : Int32) (l0 l1 l2 l3 l4 l5 l6 l7 : Option am_V) : ex_ d 340 141 [l0, l1, l2, l3, l4, l5, l6, l7] [v_i s0] h Q ↔ if s0 = 0 then ex_ d 340 147 [l0, l1, l2, l3, l4, l5, l6, l7] [] h Q else ex_ d 340 144 [l0, l1, l2, l3, l4, l5, l6, l7] [] h Q := by
  unfold ex_
  refine (am_Y_go 1 (ok := []) (g := (if s0 = 0 then 147 else 144, [l0, l1, l2, l3, l4, l5, l6, l7], [], h)) rfl).trans ?_
  all_goals exact am_Y_if

theorem b_X12_deadOnes_147 {d : Nat} {Q : Option am_V → am_H → Prop} (h : am_H) (x2 : Int32) (x3 : Int32) (l0 l1 l4 l5 l6 l7 : Option am_V) : ex_ d 340 147 [l0, l1, some (v_i x2), some (v_i x3), l4, l5, l6, l7] [] h Q ↔ if x3 = (-1 : Int32) then ex_ d 340 167 [l0, l1, some (v_i (x2 + (1 : Int32))), some (v_i x3), l4, l5, l6, l7] [] h Q else ex_ d 340 155 [l0, l1, some (v_i (x2 + (1 : Int32))), some (v_i x3), l4, l5, l6, l7] [] h Q := by
  unfold ex_
  refine (am_Y_go 4 (ok := []) (g := (if x3 = (-1 : Int32) then 167 else 155, [l0, l1, some (v_i (x2 + (1 : Int32))), some (v_i x3), l4, l5, l6, l7], [], h)) rfl).trans ?_
  all_goals exact am_Y_if

theorem b_X12_deadOnes_144 {d : Nat} {Q : Option am_V → am_H → Prop} (h : am_H) (x6 : Int32) (l0 l1 l2 l3 l4 l5 l7 : Option am_V) : ex_ d 340 144 [l0, l1, l2, l3, l4, l5, some (v_i x6), l7] [] h Q ↔ ex_ d 340 103 [l0, l1, l2, l3, l4, l5, some (v_i (x6 + (1 : Int32))), l7] [] h Q := by
  unfold ex_
  refine (am_Y_go 3 (ok := []) (g := (103, [l0, l1, l2, l3, l4, l5, some (v_i (x6 + (1 : Int32))), l7], [], h)) rfl).trans ?_
  all_goals exact Iff.rfl

theorem b_X12_deadOnes_167 {d : Nat} {Q : Option am_V → am_H → Prop} (h : am_H) (x6 : Int32) (x4 : Int32) (l0 l1 l2 l3 l5 l7 : Option am_V) : ex_ d 340 167 [l0, l1, l2, l3, some (v_i x4), l5, some (v_i x6), l7] [] h Q ↔ ex_ d 340 103 [l0, l1, l2, some (v_i (((10 : Int32) * x6) + x4)), some (v_i x4), l5, some (v_i (x6 + (1 : Int32))), l7] [] h Q := by
  unfold ex_
  refine (am_Y_go 9 (ok := []) (g := (103, [l0, l1, l2, some (v_i (((10 : Int32) * x6) + x4)), some (v_i x4), l5, some (v_i (x6 + (1 : Int32))), l7], [], h)) rfl).trans ?_
  all_goals exact Iff.rfl

theorem b_X12_deadOnes_155 {d : Nat} {Q : Option am_V → am_H → Prop} (h : am_H) (x6 : Int32) (x4 : Int32) (x3 : Int32) (l0 l1 l2 l5 l7 : Option am_V) : ex_ d 340 155 [l0, l1, l2, some (v_i x3), some (v_i x4), l5, some (v_i x6), l7] [] h Q ↔ if x3 ≤ (((10 : Int32) * x6) + x4) then ex_ d 340 178 [l0, l1, l2, some (v_i x3), some (v_i x4), l5, some (v_i x6), l7] [] h Q else ex_ d 340 167 [l0, l1, l2, some (v_i x3), some (v_i x4), l5, some (v_i x6), l7] [] h Q := by
  unfold ex_
  refine (am_Y_go 7 (ok := []) (g := (if x3 ≤ (((10 : Int32) * x6) + x4) then 178 else 167, [l0, l1, l2, some (v_i x3), some (v_i x4), l5, some (v_i x6), l7], [], h)) rfl).trans ?_
  all_goals exact am_Y_if

theorem b_X12_deadOnes_178 {d : Nat} {Q : Option am_V → am_H → Prop} (h : am_H) (x3 : Int32) (x6 : Int32) (l0 l1 l2 l4 l5 l7 : Option am_V) : ex_ d 340 178 [l0, l1, l2, some (v_i x3), l4, l5, some (v_i x6), l7] [] h Q ↔ ex_ d 340 103 [l0, l1, l2, some (v_i x3), l4, l5, some (v_i (x6 + (1 : Int32))), l7] [] h Q := by
  unfold ex_
  refine (am_Y_go 4 (ok := []) (g := (103, [l0, l1, l2, some (v_i x3), l4, l5, some (v_i (x6 + (1 : Int32))), l7], [], h)) rfl).trans ?_
  all_goals exact Iff.rfl
