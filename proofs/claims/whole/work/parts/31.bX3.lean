theorem b_X3_tally_0 {d : Nat} {Q : Option am_V → am_H → Prop} (h : am_H) (l1 l2 l3 l4 l5 : Option am_V) (Lh : Lay h) : ex_ (d + 1) 46 0 [some (v_r (some 69)), l1, l2, l3, l4, l5] [] h Q ↔ ex_ d 2 0 [some (v_r (some 80)), some (v_i (0 : Int32)), none, none] [] h (fun r h' => ex_ (d + 1) 46 8 [some (v_r (some 69)), l1, l2, l3, l4, l5] (r.toList ++ []) h' Q) := by
  have e0 : h_r h 69 1 = some 80 := la_r Lh (q := (69, 1, 80)) (by decide)
  unfold ex_
  refine (am_Y_go 3 (ok := [am_is h (some 69) 3]) (g := (5, [some (v_r (some 69)), l1, l2, l3, l4, l5], [v_i (0 : Int32), v_r ((h_r h 69 1))], h)) rfl).trans ?_
  simp only [e0, Option.getD_some, am_all]
  all_goals exact cj_d (la_is Lh (o := 69) rfl) (((am_Y_call (j := 2) (na := 2) (ci := 0) (fl := 2) rfl rfl rfl).trans (cj_d ⟨⟨Nat.le_of_ble_eq_true rfl, Nat.le_of_ble_eq_true rfl, Nat.le_of_ble_eq_true rfl, rfl⟩, Or.inl rfl⟩ Iff.rfl)))

theorem b_X3_tally_8 {d : Nat} {Q : Option am_V → am_H → Prop} (h : am_H) (l1 l2 l3 l4 l5 : Option am_V) (Lh : Lay h) : ex_ d 46 8 [some (v_r (some 69)), l1, l2, l3, l4, l5] [] h Q ↔ ex_ d 46 15 [some (v_r (some 69)), l1, some (v_i (0 : Int32)), l3, l4, l5] [] (p_i h 69 2 (1 : Int32)) Q := by
  unfold ex_
  refine (am_Y_go 5 (ok := [am_is h (some 69) 3]) (g := (15, [some (v_r (some 69)), l1, some (v_i (0 : Int32)), l3, l4, l5], [], (p_i h 69 2 (1 : Int32)))) rfl).trans ?_
  simp only [am_all]
  all_goals exact cj_d (la_is Lh (o := 69) rfl) (Iff.rfl)

theorem b_X3_tally_15 {d : Nat} {Q : Option am_V → am_H → Prop} (h : am_H) (x2 : Int32) (x1 : Int32) (l0 l3 l4 l5 : Option am_V) : ex_ d 46 15 [l0, some (v_i x1), some (v_i x2), l3, l4, l5] [] h Q ↔ if x1 ≤ x2 then ex_ d 46 42 [l0, some (v_i x1), some (v_i x2), l3, l4, l5] [] h Q else ex_ d 46 20 [l0, some (v_i x1), some (v_i x2), l3, l4, l5] [] h Q := by
  unfold ex_
  refine (am_Y_go 3 (ok := []) (g := (if x1 ≤ x2 then 42 else 20, [l0, some (v_i x1), some (v_i x2), l3, l4, l5], [], h)) rfl).trans ?_
  all_goals exact am_Y_if

theorem b_X3_tally_42 {d : Nat} {Q : Option am_V → am_H → Prop} (h : am_H) (l0 l1 l2 l3 l4 l5 : Option am_V) : ex_ d 46 42 [l0, l1, l2, l3, l4, l5] [] h Q ↔ ex_ d 46 44 [l0, l1, some (v_i (0 : Int32)), l3, l4, l5] [] h Q := by
  unfold ex_
  refine (am_Y_go 2 (ok := []) (g := (44, [l0, l1, some (v_i (0 : Int32)), l3, l4, l5], [], h)) rfl).trans ?_
  all_goals exact Iff.rfl

theorem b_X3_tally_20 {d : Nat} {Q : Option am_V → am_H → Prop} (h : am_H) (x2 : Int32) (l0 l1 l3 l4 l5 : Option am_V) : ex_ d 46 20 [l0, l1, some (v_i x2), l3, l4, l5] [] h Q ↔ if (3 : Int32) ≤ x2 then ex_ d 46 42 [l0, l1, some (v_i x2), l3, l4, l5] [] h Q else ex_ d 46 25 [l0, l1, some (v_i x2), l3, l4, l5] [] h Q := by
  unfold ex_
  refine (am_Y_go 3 (ok := []) (g := (if (3 : Int32) ≤ x2 then 42 else 25, [l0, l1, some (v_i x2), l3, l4, l5], [], h)) rfl).trans ?_
  all_goals exact am_Y_if

theorem b_X3_tally_44 {d : Nat} {Q : Option am_V → am_H → Prop} (h : am_H) (x2 : Int32) (l1 l3 l4 l5 : Option am_V) (Lh : Lay h) : ex_ d 46 44 [some (v_r (some 69)), l1, some (v_i x2), l3, l4, l5] [] h Q ↔ if (h_i h 69 2) ≤ x2 then ex_ d 46 124 [some (v_r (some 69)), l1, some (v_i x2), l3, l4, l5] [] h Q else ex_ d 46 52 [some (v_r (some 69)), l1, some (v_i x2), l3, l4, l5] [] h Q := by
  unfold ex_
  refine (am_Y_go 4 (ok := [am_is h (some 69) 3]) (g := (if (h_i h 69 2) ≤ x2 then 124 else 52, [some (v_r (some 69)), l1, some (v_i x2), l3, l4, l5], [], h)) rfl).trans ?_
  simp only [am_all]
  all_goals exact cj_d (la_is Lh (o := 69) rfl) (am_Y_if)

theorem b_X3_tally_25 {d : Nat} {Q : Option am_V → am_H → Prop} (h : am_H) (x2 : Int32) (l1 l3 l4 l5 : Option am_V) (Lh : Lay h) : ex_ d 46 25 [some (v_r (some 69)), l1, some (v_i x2), l3, l4, l5] [] h Q ↔ ex_ d 46 15 [some (v_r (some 69)), l1, some (v_i (x2 + (1 : Int32))), l3, l4, l5] [] (p_i h 69 2 ((h_i h 69 2) * (10 : Int32))) Q := by
  unfold ex_
  refine (am_Y_go 8 (ok := [am_is h (some 69) 3, am_is h (some 69) 3]) (g := (15, [some (v_r (some 69)), l1, some (v_i (x2 + (1 : Int32))), l3, l4, l5], [], (p_i h 69 2 ((h_i h 69 2) * (10 : Int32))))) rfl).trans ?_
  simp only [am_all]
  all_goals exact cj_d (la_is Lh (o := 69) rfl) (cj_d (la_is Lh (o := 69) rfl) (Iff.rfl))

theorem b_X3_tally_124 {d : Nat} {Q : Option am_V → am_H → Prop} (h : am_H) (l0 l1 l2 l3 l4 l5 : Option am_V) : ex_ d 46 124 [l0, l1, l2, l3, l4, l5] [] h Q ↔ Q (none) h := by
  unfold ex_
  exact ((am_Y_ret rfl rfl rfl).trans (am_rz rfl))

theorem b_X3_tally_52 {d : Nat} {Q : Option am_V → am_H → Prop} (h : am_H) (x2 : Int32) (l0 l1 l3 l4 l5 : Option am_V) : ex_ d 46 52 [l0, l1, some (v_i x2), l3, l4, l5] [] h Q ↔ ex_ d 46 60 [l0, l1, some (v_i x2), some (v_i (0 : Int32)), some (v_i x2), some (v_i (0 : Int32))] [] h Q := by
  unfold ex_
  refine (am_Y_go 6 (ok := []) (g := (60, [l0, l1, some (v_i x2), some (v_i (0 : Int32)), some (v_i x2), some (v_i (0 : Int32))], [], h)) rfl).trans ?_
  all_goals exact Iff.rfl

theorem b_X3_tally_60 {d : Nat} {Q : Option am_V → am_H → Prop} (h : am_H) (x5 : Int32) (x1 : Int32) (l0 l2 l3 l4 : Option am_V) : ex_ d 46 60 [l0, some (v_i x1), l2, l3, l4, some (v_i x5)] [] h Q ↔ if x1 ≤ x5 then ex_ d 46 95 [l0, some (v_i x1), l2, l3, l4, some (v_i x5)] [] h Q else ex_ d 46 66 [l0, some (v_i x1), l2, l3, l4, some (v_i x5)] [] h Q := by
  unfold ex_
  refine (am_Y_go 3 (ok := []) (g := (if x1 ≤ x5 then 95 else 66, [l0, some (v_i x1), l2, l3, l4, some (v_i x5)], [], h)) rfl).trans ?_
  all_goals exact am_Y_if

theorem b_X3_tally_95 {d : Nat} {Q : Option am_V → am_H → Prop} (h : am_H) (x3 : Int32) (l0 l1 l2 l4 l5 : Option am_V) : ex_ d 46 95 [l0, l1, l2, some (v_i x3), l4, l5] [] h Q ↔ if x3 < 0 then ex_ d 46 118 [l0, l1, l2, some (v_i x3), l4, l5] [] h Q else ex_ d 46 99 [l0, l1, l2, some (v_i x3), l4, l5] [] h Q := by
  unfold ex_
  refine (am_Y_go 2 (ok := []) (g := (if x3 < 0 then 118 else 99, [l0, l1, l2, some (v_i x3), l4, l5], [], h)) rfl).trans ?_
  all_goals exact am_Y_if

theorem b_X3_tally_66 {d : Nat} {Q : Option am_V → am_H → Prop} (h : am_H) (x5 : Int32) (l0 l1 l2 l3 l4 : Option am_V) : ex_ d 46 66 [l0, l1, l2, l3, l4, some (v_i x5)] [] h Q ↔ if (3 : Int32) ≤ x5 then ex_ d 46 95 [l0, l1, l2, l3, l4, some (v_i x5)] [] h Q else ex_ d 46 72 [l0, l1, l2, l3, l4, some (v_i x5)] [] h Q := by
  unfold ex_
  refine (am_Y_go 3 (ok := []) (g := (if (3 : Int32) ≤ x5 then 95 else 72, [l0, l1, l2, l3, l4, some (v_i x5)], [], h)) rfl).trans ?_
  all_goals exact am_Y_if

theorem b_X3_tally_118 {d : Nat} {Q : Option am_V → am_H → Prop} (h : am_H) (x2 : Int32) (l0 l1 l3 l4 l5 : Option am_V) : ex_ d 46 118 [l0, l1, some (v_i x2), l3, l4, l5] [] h Q ↔ ex_ d 46 44 [l0, l1, some (v_i (x2 + (1 : Int32))), l3, l4, l5] [] h Q := by
  unfold ex_
  refine (am_Y_go 2 (ok := []) (g := (44, [l0, l1, some (v_i (x2 + (1 : Int32))), l3, l4, l5], [], h)) rfl).trans ?_
  all_goals exact Iff.rfl

theorem b_X3_tally_99 {d : Nat} {Q : Option am_V → am_H → Prop} (h : am_H) (x3 : Int32) (l1 l2 l4 l5 : Option am_V) (Lh : Lay h) : ex_ d 46 99 [some (v_r (some 69)), l1, l2, some (v_i x3), l4, l5] [] h Q ↔ if (nI 1024) ≤ x3 then ex_ d 46 118 [some (v_r (some 69)), l1, l2, some (v_i x3), l4, l5] [] h Q else ex_ d 46 108 [some (v_r (some 69)), l1, l2, some (v_i x3), l4, l5] [] h Q := by
  have e0 : h_r h 69 1 = some 80 := la_r Lh (q := (69, 1, 80)) (by decide)
  have e1 : h_l h 80 = 1024 := (la_l Lh (o := 80) rfl)
  unfold ex_
  refine (am_Y_go 5 (ok := [am_is h (some 69) 3, am_an h ((h_r h 69 1))]) (g := (if (nI (h_l h ((h_r h 69 1).getD 0))) ≤ x3 then 118 else 108, [some (v_r (some 69)), l1, l2, some (v_i x3), l4, l5], [], h)) rfl).trans ?_
  simp only [e0, e1, Option.getD_some, am_all]
  all_goals exact cj_d (la_is Lh (o := 69) rfl) (cj_d (la_an20 Lh (o := 80) rfl) (am_Y_if))

theorem b_X3_tally_72 {d : Nat} {Q : Option am_V → am_H → Prop} (h : am_H) (x3 : Int32) (x4 : Int32) (x5 : Int32) (l0 l1 l2 : Option am_V) : ex_ d 46 72 [l0, l1, l2, some (v_i x3), some (v_i x4), some (v_i x5)] [] h Q ↔ ex_ d 46 60 [l0, l1, l2, some (v_i (x3 ^^^ ((1 : Int32) <<< ((x4 - x4 / (10 : Int32) * (10 : Int32)) &&& 31)))), some (v_i (x4 / (10 : Int32))), some (v_i (x5 + (1 : Int32)))] [] h Q := by
  unfold ex_
  refine (am_Y_go 14 (ok := [¬ (10 : Int32) = 0, ¬ (10 : Int32) = 0]) (g := (60, [l0, l1, l2, some (v_i (x3 ^^^ ((1 : Int32) <<< ((x4 - x4 / (10 : Int32) * (10 : Int32)) &&& 31)))), some (v_i (x4 / (10 : Int32))), some (v_i (x5 + (1 : Int32)))], [], h)) rfl).trans ?_
  simp only [am_all]
  all_goals exact cj_d (by decide) (cj_d (by decide) (Iff.rfl))

theorem b_X3_tally_108 {d : Nat} {Q : Option am_V → am_H → Prop} (h : am_H) (x3 : Int32) (x2 : Int32) (l1 l4 l5 : Option am_V) (Lh : Lay h) : ex_ d 46 108 [some (v_r (some 69)), l1, some (v_i x2), some (v_i x3), l4, l5] [] h Q ↔ vp_in x3 1024 ∧ vp_in x3 1024 ∧ ex_ d 46 44 [some (v_r (some 69)), l1, some (v_i (x2 + (1 : Int32))), some (v_i x3), l4, l5] [] (p_i h 80 (Int32.toNatClampNeg x3) ((h_i h 80 (Int32.toNatClampNeg x3)) + (1 : Int32))) Q := by
  have e0 : h_r h 69 1 = some 80 := la_r Lh (q := (69, 1, 80)) (by decide)
  unfold ex_
  refine (am_Y_go 10 (ok := [am_is h (some 69) 3, am_ar h ((h_r h 69 1)) 20 x3, am_ar h ((h_r h 69 1)) 20 x3]) (g := (44, [some (v_r (some 69)), l1, some (v_i (x2 + (1 : Int32))), some (v_i x3), l4, l5], [], (p_i h ((h_r h 69 1).getD 0) (Int32.toNatClampNeg x3) ((h_i h ((h_r h 69 1).getD 0) (Int32.toNatClampNeg x3)) + (1 : Int32))))) rfl).trans ?_
  simp only [e0, Option.getD_some, am_all]
  all_goals exact cj_d (la_is Lh (o := 69) rfl) (cj_k (la_ar Lh (o := 80) rfl) (cj_k (la_ar Lh (o := 80) rfl) (Iff.rfl)))

theorem b_X3_orderedIf_0 {d : Nat} {Q : Option am_V → am_H → Prop} (h : am_H) (l0 l1 l2 l3 l4 l5 : Option am_V) : ex_ d 55 0 [l0, l1, l2, l3, l4, l5] [] h Q ↔ ex_ d 55 5 [l0, l1, l2, some (v_i (0 : Int32)), some (v_i (0 : Int32)), l5] [] h Q := by
  unfold ex_
  refine (am_Y_go 4 (ok := []) (g := (5, [l0, l1, l2, some (v_i (0 : Int32)), some (v_i (0 : Int32)), l5], [], h)) rfl).trans ?_
  all_goals exact Iff.rfl

theorem b_X3_orderedIf_5 {d : Nat} {Q : Option am_V → am_H → Prop} (h : am_H) (x4 : Int32) (o1 : Nat) (l0 l2 l3 l5 : Option am_V) (F_o1 : y_Facts h o1) : ex_ d 55 5 [l0, some (v_r (some o1)), l2, l3, some (v_i x4), l5] [] h Q ↔ if (h_i h o1 0) ≤ x4 then ex_ d 55 63 [l0, some (v_r (some o1)), l2, l3, some (v_i x4), l5] [] h Q else ex_ d 55 14 [l0, some (v_r (some o1)), l2, l3, some (v_i x4), l5] [] h Q := by
  unfold ex_
  refine (am_Y_go 4 (ok := [am_is h (some o1) 1]) (g := (if (h_i h o1 0) ≤ x4 then 63 else 14, [l0, some (v_r (some o1)), l2, l3, some (v_i x4), l5], [], h)) rfl).trans ?_
  simp only [am_all]
  all_goals exact cj_d (lr_is (F_o1.1 0 rfl)) (am_Y_if)

theorem b_X3_orderedIf_63 {d : Nat} {Q : Option am_V → am_H → Prop} (h : am_H) (x3 : Int32) (l0 l1 l2 l4 l5 : Option am_V) : ex_ d 55 63 [l0, l1, l2, some (v_i x3), l4, l5] [] h Q ↔ Q (some (v_i x3)) h := by
  unfold ex_
  refine (am_Y_go 1 (ok := []) (g := (64, [l0, l1, l2, some (v_i x3), l4, l5], [v_i x3], h)) rfl).trans ?_
  all_goals exact ((am_Y_ret rfl rfl rfl).trans (am_r0))

theorem b_X3_orderedIf_14 {d : Nat} {Q : Option am_V → am_H → Prop} (h : am_H) (x2 : Int32) (x4 : Int32) (l0 l1 l3 l5 : Option am_V) : ex_ d 55 14 [l0, l1, some (v_i x2), l3, some (v_i x4), l5] [] h Q ↔ if ((x2 >>> (x4 &&& 31)) &&& (1 : Int32)) = 0 then ex_ d 55 36 [l0, l1, some (v_i x2), l3, some (v_i x4), l5] [] h Q else ex_ d 55 23 [l0, l1, some (v_i x2), l3, some (v_i x4), l5] [] h Q := by
  unfold ex_
  refine (am_Y_go 6 (ok := []) (g := (if ((x2 >>> (x4 &&& 31)) &&& (1 : Int32)) = 0 then 36 else 23, [l0, l1, some (v_i x2), l3, some (v_i x4), l5], [], h)) rfl).trans ?_
  all_goals exact am_Y_if

theorem b_X3_orderedIf_36 {d : Nat} {Q : Option am_V → am_H → Prop} (h : am_H) (o1 : Nat) (x4 : Int32) (l2 l3 l5 : Option am_V) (Lh : Lay h) (F_o1 : y_Facts h o1) : ex_ (d + 1) 55 36 [some (v_r (some 69)), some (v_r (some o1)), l2, l3, some (v_i x4), l5] [] h Q ↔ ex_ d 54 0 [some (v_r (some 70)), some (v_r (some o1)), some (v_i x4), some (v_i (0 : Int32))] [] h (fun r h' => ex_ (d + 1) 55 47 [some (v_r (some 69)), some (v_r (some o1)), l2, l3, some (v_i x4), l5] (r.toList ++ []) h' Q) := by
  have e0 : h_r h 69 0 = some 70 := la_r Lh (q := (69, 0, 70)) (by decide)
  unfold ex_
  refine (am_Y_go 5 (ok := [am_is h (some 69) 3]) (g := (44, [some (v_r (some 69)), some (v_r (some o1)), l2, l3, some (v_i x4), l5], [v_i (0 : Int32), v_i x4, v_r (some o1), v_r ((h_r h 69 0))], h)) rfl).trans ?_
  simp only [e0, Option.getD_some, am_all]
  all_goals exact cj_d (la_is Lh (o := 69) rfl) (((am_Y_call (j := 54) (na := 4) (ci := 6) (fl := 0) rfl rfl rfl).trans (cj_d ⟨⟨Nat.le_of_ble_eq_true rfl, Nat.le_of_ble_eq_true rfl, Nat.le_of_ble_eq_true rfl, rfl⟩, Or.inr (Or.inr (show (6 : Nat) < 20 ∧ am_is h (some 70) 6 from ⟨by decide, (la_is Lh (o := 70) rfl)⟩))⟩ Iff.rfl)))

theorem b_X3_orderedIf_23 {d : Nat} {Q : Option am_V → am_H → Prop} (h : am_H) (o1 : Nat) (x4 : Int32) (l2 l3 l5 : Option am_V) (Lh : Lay h) (F_o1 : y_Facts h o1) : ex_ (d + 1) 55 23 [some (v_r (some 69)), some (v_r (some o1)), l2, l3, some (v_i x4), l5] [] h Q ↔ ex_ d 53 0 [some (v_r (some 70)), some (v_r (some o1)), some (v_i x4), none, none] [] h (fun r h' => ex_ (d + 1) 55 33 [some (v_r (some 69)), some (v_r (some o1)), l2, l3, some (v_i x4), l5] (r.toList ++ []) h' Q) := by
  have e0 : h_r h 69 0 = some 70 := la_r Lh (q := (69, 0, 70)) (by decide)
  unfold ex_
  refine (am_Y_go 4 (ok := [am_is h (some 69) 3]) (g := (30, [some (v_r (some 69)), some (v_r (some o1)), l2, l3, some (v_i x4), l5], [v_i x4, v_r (some o1), v_r ((h_r h 69 0))], h)) rfl).trans ?_
  simp only [e0, Option.getD_some, am_all]
  all_goals exact cj_d (la_is Lh (o := 69) rfl) (((am_Y_call (j := 53) (na := 3) (ci := 6) (fl := 0) rfl rfl rfl).trans (cj_d ⟨⟨Nat.le_of_ble_eq_true rfl, Nat.le_of_ble_eq_true rfl, Nat.le_of_ble_eq_true rfl, rfl⟩, Or.inr (Or.inr (show (6 : Nat) < 20 ∧ am_is h (some 70) 6 from ⟨by decide, (la_is Lh (o := 70) rfl)⟩))⟩ Iff.rfl)))

theorem b_X3_orderedIf_47 {d : Nat} {Q : Option am_V → am_H → Prop} (h : am_H) (s0 : Int32) (l0 l1 l2 l3 l4 l5 : Option am_V) : ex_ d 55 47 [l0, l1, l2, l3, l4, l5] [v_i s0] h Q ↔ if ¬ s0 = 0 then ex_ d 55 57 [l0, l1, l2, l3, l4, some (v_i s0)] [] h Q else ex_ d 55 54 [l0, l1, l2, l3, l4, some (v_i s0)] [] h Q := by
  unfold ex_
  refine (am_Y_go 3 (ok := []) (g := (if ¬ s0 = 0 then 57 else 54, [l0, l1, l2, l3, l4, some (v_i s0)], [], h)) rfl).trans ?_
  all_goals exact am_Y_if

theorem b_X3_orderedIf_33 {d : Nat} {Q : Option am_V → am_H → Prop} (h : am_H) (s0 : Int32) (l0 l1 l2 l3 l4 l5 : Option am_V) : ex_ d 55 33 [l0, l1, l2, l3, l4, l5] [v_i s0] h Q ↔ if ¬ s0 = 0 then ex_ d 55 57 [l0, l1, l2, l3, l4, some (v_i s0)] [] h Q else ex_ d 55 54 [l0, l1, l2, l3, l4, some (v_i s0)] [] h Q := by
  unfold ex_
  refine (am_Y_go 4 (ok := []) (g := (if ¬ s0 = 0 then 57 else 54, [l0, l1, l2, l3, l4, some (v_i s0)], [], h)) rfl).trans ?_
  all_goals exact am_Y_if

theorem b_X3_orderedIf_57 {d : Nat} {Q : Option am_V → am_H → Prop} (h : am_H) (x4 : Int32) (l0 l1 l2 l3 l5 : Option am_V) : ex_ d 55 57 [l0, l1, l2, l3, some (v_i x4), l5] [] h Q ↔ ex_ d 55 5 [l0, l1, l2, l3, some (v_i (x4 + (1 : Int32))), l5] [] h Q := by
  unfold ex_
  refine (am_Y_go 2 (ok := []) (g := (5, [l0, l1, l2, l3, some (v_i (x4 + (1 : Int32))), l5], [], h)) rfl).trans ?_
  all_goals exact Iff.rfl

theorem b_X3_orderedIf_54 {d : Nat} {Q : Option am_V → am_H → Prop} (h : am_H) (x3 : Int32) (x4 : Int32) (l0 l1 l2 l5 : Option am_V) : ex_ d 55 54 [l0, l1, l2, some (v_i x3), some (v_i x4), l5] [] h Q ↔ ex_ d 55 5 [l0, l1, l2, some (v_i (x3 + (1 : Int32))), some (v_i (x4 + (1 : Int32))), l5] [] h Q := by
  unfold ex_
  refine (am_Y_go 3 (ok := []) (g := (5, [l0, l1, l2, some (v_i (x3 + (1 : Int32))), some (v_i (x4 + (1 : Int32))), l5], [], h)) rfl).trans ?_
  all_goals exact Iff.rfl

theorem b_X3_learn_0 {d : Nat} {Q : Option am_V → am_H → Prop} (h : am_H) (x2 : Int32) (l1 l3 l4 : Option am_V) (Lh : Lay h) : ex_ d 56 0 [some (v_r (some 69)), l1, some (v_i x2), l3, l4] [] h Q ↔ if ¬ (h_i h 69 5) = x2 then ex_ d 56 9 [some (v_r (some 69)), l1, some (v_i x2), l3, l4] [] h Q else ex_ d 56 8 [some (v_r (some 69)), l1, some (v_i x2), l3, l4] [] h Q := by
  unfold ex_
  refine (am_Y_go 4 (ok := [am_is h (some 69) 3]) (g := (if ¬ (h_i h 69 5) = x2 then 9 else 8, [some (v_r (some 69)), l1, some (v_i x2), l3, l4], [], h)) rfl).trans ?_
  simp only [am_all]
  all_goals exact cj_d (la_is Lh (o := 69) rfl) (am_Y_if)

theorem b_X3_learn_9 {d : Nat} {Q : Option am_V → am_H → Prop} (h : am_H) (x2 : Int32) (l1 l3 l4 : Option am_V) (Lh : Lay h) : ex_ (d + 1) 56 9 [some (v_r (some 69)), l1, some (v_i x2), l3, l4] [] h Q ↔ ex_ d 46 0 [some (v_r (some 69)), some (v_i x2), none, none, none, none] [] (p_i h 69 5 x2) (fun r h' => ex_ (d + 1) 56 19 [some (v_r (some 69)), l1, some (v_i x2), l3, l4] (r.toList ++ []) h' Q) := by
  unfold ex_
  refine (am_Y_go 5 (ok := [am_is h (some 69) 3]) (g := (16, [some (v_r (some 69)), l1, some (v_i x2), l3, l4], [v_i x2, v_r (some 69)], (p_i h 69 5 x2))) rfl).trans ?_
  simp only [am_all]
  all_goals exact cj_d (la_is Lh (o := 69) rfl) (((am_Y_call (j := 46) (na := 2) (ci := 3) (fl := 0) rfl rfl rfl).trans (cj_d ⟨⟨Nat.le_of_ble_eq_true rfl, Nat.le_of_ble_eq_true rfl, Nat.le_of_ble_eq_true rfl, rfl⟩, Or.inr (Or.inr (show (3 : Nat) < 20 ∧ am_is h (some 69) 3 from ⟨by decide, (la_is Lh (o := 69) rfl)⟩))⟩ Iff.rfl)))

theorem b_X3_learn_8 {d : Nat} {Q : Option am_V → am_H → Prop} (h : am_H) (l0 l1 l2 l3 l4 : Option am_V) : ex_ d 56 8 [l0, l1, l2, l3, l4] [] h Q ↔ Q (none) h := by
  unfold ex_
  exact ((am_Y_ret rfl rfl rfl).trans (am_rz rfl))

theorem b_X3_learn_19 {d : Nat} {Q : Option am_V → am_H → Prop} (h : am_H) (l1 l2 l3 l4 : Option am_V) (Lh : Lay h) : ex_ d 56 19 [some (v_r (some 69)), l1, l2, l3, l4] [] h Q ↔ ex_ d 56 31 [some (v_r (some 69)), l1, l2, some (v_i (0 : Int32)), l4] [] (p_i (p_i h 69 3 (0 : Int32)) 69 4 (0 : Int32)) Q := by
  unfold ex_
  refine (am_Y_go 8 (ok := [am_is h (some 69) 3, am_is h (some 69) 3]) (g := (31, [some (v_r (some 69)), l1, l2, some (v_i (0 : Int32)), l4], [], (p_i (p_i h 69 3 (0 : Int32)) 69 4 (0 : Int32)))) rfl).trans ?_
  simp only [am_all]
  all_goals exact cj_d (la_is Lh (o := 69) rfl) (cj_d (la_is Lh (o := 69) rfl) (Iff.rfl))

theorem b_X3_learn_31 {d : Nat} {Q : Option am_V → am_H → Prop} (h : am_H) (x3 : Int32) (l1 l2 l4 : Option am_V) (Lh : Lay h) : ex_ d 56 31 [some (v_r (some 69)), l1, l2, some (v_i x3), l4] [] h Q ↔ if (nI 1024) ≤ x3 then ex_ d 56 109 [some (v_r (some 69)), l1, l2, some (v_i x3), l4] [] h Q else ex_ d 56 40 [some (v_r (some 69)), l1, l2, some (v_i x3), l4] [] h Q := by
  have e0 : h_r h 69 1 = some 80 := la_r Lh (q := (69, 1, 80)) (by decide)
  have e1 : h_l h 80 = 1024 := (la_l Lh (o := 80) rfl)
  unfold ex_
  refine (am_Y_go 5 (ok := [am_is h (some 69) 3, am_an h ((h_r h 69 1))]) (g := (if (nI (h_l h ((h_r h 69 1).getD 0))) ≤ x3 then 109 else 40, [some (v_r (some 69)), l1, l2, some (v_i x3), l4], [], h)) rfl).trans ?_
  simp only [e0, e1, Option.getD_some, am_all]
  all_goals exact cj_d (la_is Lh (o := 69) rfl) (cj_d (la_an20 Lh (o := 80) rfl) (am_Y_if))

theorem b_X3_learn_109 {d : Nat} {Q : Option am_V → am_H → Prop} (h : am_H) (l0 l1 l2 l3 l4 : Option am_V) : ex_ d 56 109 [l0, l1, l2, l3, l4] [] h Q ↔ Q (none) h := by
  unfold ex_
  exact ((am_Y_ret rfl rfl rfl).trans (am_rz rfl))

theorem b_X3_learn_40 {d : Nat} {Q : Option am_V → am_H → Prop} (h : am_H) (x3 : Int32) (l1 l2 l4 : Option am_V) (Lh : Lay h) : ex_ d 56 40 [some (v_r (some 69)), l1, l2, some (v_i x3), l4] [] h Q ↔ vp_in x3 1024 ∧ (if (h_i h 80 (Int32.toNatClampNeg x3)) ≤ 0 then ex_ d 56 103 [some (v_r (some 69)), l1, l2, some (v_i x3), l4] [] h Q else ex_ d 56 49 [some (v_r (some 69)), l1, l2, some (v_i x3), l4] [] h Q) := by
  have e0 : h_r h 69 1 = some 80 := la_r Lh (q := (69, 1, 80)) (by decide)
  unfold ex_
  refine (am_Y_go 5 (ok := [am_is h (some 69) 3, am_ar h ((h_r h 69 1)) 20 x3]) (g := (if (h_i h ((h_r h 69 1).getD 0) (Int32.toNatClampNeg x3)) ≤ 0 then 103 else 49, [some (v_r (some 69)), l1, l2, some (v_i x3), l4], [], h)) rfl).trans ?_
  simp only [e0, Option.getD_some, am_all]
  all_goals exact cj_d (la_is Lh (o := 69) rfl) (cj_k (la_ar Lh (o := 80) rfl) (am_Y_if))

theorem b_X3_learn_103 {d : Nat} {Q : Option am_V → am_H → Prop} (h : am_H) (x3 : Int32) (l0 l1 l2 l4 : Option am_V) : ex_ d 56 103 [l0, l1, l2, some (v_i x3), l4] [] h Q ↔ ex_ d 56 31 [l0, l1, l2, some (v_i (x3 + (1 : Int32))), l4] [] h Q := by
  unfold ex_
  refine (am_Y_go 2 (ok := []) (g := (31, [l0, l1, l2, some (v_i (x3 + (1 : Int32))), l4], [], h)) rfl).trans ?_
  all_goals exact Iff.rfl

theorem b_X3_learn_49 {d : Nat} {Q : Option am_V → am_H → Prop} (h : am_H) (o1 : Nat) (x3 : Int32) (l2 l4 : Option am_V) (Lh : Lay h) (F_o1 : y_Facts h o1) : ex_ (d + 1) 56 49 [some (v_r (some 69)), some (v_r (some o1)), l2, some (v_i x3), l4] [] h Q ↔ ex_ d 55 0 [some (v_r (some 69)), some (v_r (some o1)), some (v_i x3), none, none, none] [] h (fun r h' => ex_ (d + 1) 56 55 [some (v_r (some 69)), some (v_r (some o1)), l2, some (v_i x3), l4] (r.toList ++ []) h' Q) := by
  unfold ex_
  refine (am_Y_go 3 (ok := []) (g := (52, [some (v_r (some 69)), some (v_r (some o1)), l2, some (v_i x3), l4], [v_i x3, v_r (some o1), v_r (some 69)], h)) rfl).trans ?_
  all_goals exact ((am_Y_call (j := 55) (na := 3) (ci := 3) (fl := 0) rfl rfl rfl).trans (cj_d ⟨⟨Nat.le_of_ble_eq_true rfl, Nat.le_of_ble_eq_true rfl, Nat.le_of_ble_eq_true rfl, rfl⟩, Or.inr (Or.inr (show (3 : Nat) < 20 ∧ am_is h (some 69) 3 from ⟨by decide, (la_is Lh (o := 69) rfl)⟩))⟩ Iff.rfl))

theorem b_X3_learn_55 {d : Nat} {Q : Option am_V → am_H → Prop} (h : am_H) (s0 : Int32) (x3 : Int32) (o1 : Nat) (l2 l4 : Option am_V) (Lh : Lay h) (F_o1 : y_Facts h o1) : ex_ d 56 55 [some (v_r (some 69)), some (v_r (some o1)), l2, some (v_i x3), l4] [v_i s0] h Q ↔ vp_in x3 1024 ∧ (if ¬ s0 = (h_i (p_i h 69 4 ((h_i h 69 4) + (s0 * (h_i h 80 (Int32.toNatClampNeg x3))))) o1 0) then ex_ d 56 98 [some (v_r (some 69)), some (v_r (some o1)), l2, some (v_i x3), some (v_i s0)] [v_i (h_i (p_i h 69 4 ((h_i h 69 4) + (s0 * (h_i h 80 (Int32.toNatClampNeg x3))))) 69 3), v_r (some 69)] (p_i h 69 4 ((h_i h 69 4) + (s0 * (h_i h 80 (Int32.toNatClampNeg x3))))) Q else ex_ d 56 89 [some (v_r (some 69)), some (v_r (some o1)), l2, some (v_i x3), some (v_i s0)] [v_i (h_i (p_i h 69 4 ((h_i h 69 4) + (s0 * (h_i h 80 (Int32.toNatClampNeg x3))))) 69 3), v_r (some 69)] (p_i h 69 4 ((h_i h 69 4) + (s0 * (h_i h 80 (Int32.toNatClampNeg x3))))) Q) := by
  have e0 : h_r h 69 1 = some 80 := la_r Lh (q := (69, 1, 80)) (by decide)
  unfold ex_
  refine (am_Y_go 19 (ok := [am_is h (some 69) 3, am_is h (some 69) 3, am_ar h ((h_r h 69 1)) 20 x3, am_is h (some 69) 3, am_is h (some 69) 3, am_is h (some o1) 1]) (g := (if ¬ s0 = (h_i (p_i h 69 4 ((h_i h 69 4) + (s0 * (h_i h ((h_r h 69 1).getD 0) (Int32.toNatClampNeg x3))))) o1 0) then 98 else 89, [some (v_r (some 69)), some (v_r (some o1)), l2, some (v_i x3), some (v_i s0)], [v_i (h_i (p_i h 69 4 ((h_i h 69 4) + (s0 * (h_i h ((h_r h 69 1).getD 0) (Int32.toNatClampNeg x3))))) 69 3), v_r (some 69)], (p_i h 69 4 ((h_i h 69 4) + (s0 * (h_i h ((h_r h 69 1).getD 0) (Int32.toNatClampNeg x3))))))) rfl).trans ?_
  simp only [e0, Option.getD_some, am_all]
  all_goals exact cj_d (la_is Lh (o := 69) rfl) (cj_d (la_is Lh (o := 69) rfl) (cj_k (la_ar Lh (o := 80) rfl) (cj_d (la_is Lh (o := 69) rfl) (cj_d (la_is Lh (o := 69) rfl) (cj_d (lr_is (F_o1.1 0 rfl)) (am_Y_if))))))

theorem b_X3_learn_98 {d : Nat} {Q : Option am_V → am_H → Prop} (h : am_H) (s0 : Int32) (x3 : Int32) (l0 l1 l2 l4 : Option am_V) (Lh : Lay h) : ex_ d 56 98 [l0, l1, l2, some (v_i x3), l4] [v_i s0, v_r (some 69)] h Q ↔ ex_ d 56 31 [l0, l1, l2, some (v_i (x3 + (1 : Int32))), l4] [] (p_i h 69 3 (s0 + (0 : Int32))) Q := by
  unfold ex_
  refine (am_Y_go 5 (ok := [am_is h (some 69) 3]) (g := (31, [l0, l1, l2, some (v_i (x3 + (1 : Int32))), l4], [], (p_i h 69 3 (s0 + (0 : Int32))))) rfl).trans ?_
  simp only [am_all]
  all_goals exact cj_d (la_is Lh (o := 69) rfl) (Iff.rfl)

theorem b_X3_learn_89 {d : Nat} {Q : Option am_V → am_H → Prop} (h : am_H) (s0 : Int32) (x3 : Int32) (l1 l2 l4 : Option am_V) (Lh : Lay h) : ex_ d 56 89 [some (v_r (some 69)), l1, l2, some (v_i x3), l4] [v_i s0, v_r (some 69)] h Q ↔ vp_in x3 1024 ∧ ex_ d 56 31 [some (v_r (some 69)), l1, l2, some (v_i (x3 + (1 : Int32))), l4] [] (p_i h 69 3 (s0 + (h_i h 80 (Int32.toNatClampNeg x3)))) Q := by
  have e0 : h_r h 69 1 = some 80 := la_r Lh (q := (69, 1, 80)) (by decide)
  unfold ex_
  refine (am_Y_go 9 (ok := [am_is h (some 69) 3, am_ar h ((h_r h 69 1)) 20 x3, am_is h (some 69) 3]) (g := (31, [some (v_r (some 69)), l1, l2, some (v_i (x3 + (1 : Int32))), l4], [], (p_i h 69 3 (s0 + (h_i h ((h_r h 69 1).getD 0) (Int32.toNatClampNeg x3)))))) rfl).trans ?_
  simp only [e0, Option.getD_some, am_all]
  all_goals exact cj_d (la_is Lh (o := 69) rfl) (cj_k (la_ar Lh (o := 80) rfl) (cj_d (la_is Lh (o := 69) rfl) (Iff.rfl)))
