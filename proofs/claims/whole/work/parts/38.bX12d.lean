theorem b_X12_dead_0 {d : Nat} {Q : Option am_V → am_H → Prop} (h : am_H) (Lh : Lay h) : ex_ (d + 1) 341 0 [some (v_r (some 93))] [] h Q ↔ ex_ d 340 0 [some (v_r (some 93)), some (v_i (0 : Int32)), none, none, none, none, none, none] [] (p_i h 93 0 (0 : Int32)) (fun r h' => ex_ (d + 1) 341 10 [some (v_r (some 93))] (r.toList ++ []) h' Q) := by
  unfold ex_
  refine (am_Y_go 5 (ok := [am_is h (some 93) 12]) (g := (7, [some (v_r (some 93))], [v_i (0 : Int32), v_r (some 93)], (p_i h 93 0 (0 : Int32)))) rfl).trans ?_
  simp only [am_all]
  all_goals exact cj_d (la_is Lh (o := 93) rfl) (((am_Y_call (j := 340) (na := 2) (ci := 12) (fl := 0) rfl rfl rfl).trans (cj_d ⟨⟨Nat.le_of_ble_eq_true rfl, Nat.le_of_ble_eq_true rfl, Nat.le_of_ble_eq_true rfl, rfl⟩, Or.inr (Or.inr (show (12 : Nat) < 20 ∧ am_is h (some 93) 12 from ⟨by decide, (la_is Lh (o := 93) rfl)⟩))⟩ Iff.rfl)))

theorem b_X12_dead_10 {d : Nat} {Q : Option am_V → am_H → Prop} (h : am_H) (s0 : Int32) (l0 : Option am_V) : ex_ d 341 10 [l0] [v_i s0] h Q ↔ Q (some (v_i s0)) h := by
  unfold ex_
  exact ((am_Y_ret rfl rfl rfl).trans (am_r0))

theorem b_X12_firstDead_0 {d : Nat} {Q : Option am_V → am_H → Prop} (h : am_H) (Lh : Lay h) : ex_ (d + 1) 342 0 [some (v_r (some 93))] [] h Q ↔ ex_ d 340 0 [some (v_r (some 93)), some (v_i (1 : Int32)), none, none, none, none, none, none] [] (p_i h 93 0 (0 : Int32)) (fun r h' => ex_ (d + 1) 342 10 [some (v_r (some 93))] (r.toList ++ []) h' Q) := by
  unfold ex_
  refine (am_Y_go 5 (ok := [am_is h (some 93) 12]) (g := (7, [some (v_r (some 93))], [v_i (1 : Int32), v_r (some 93)], (p_i h 93 0 (0 : Int32)))) rfl).trans ?_
  simp only [am_all]
  all_goals exact cj_d (la_is Lh (o := 93) rfl) (((am_Y_call (j := 340) (na := 2) (ci := 12) (fl := 0) rfl rfl rfl).trans (cj_d ⟨⟨Nat.le_of_ble_eq_true rfl, Nat.le_of_ble_eq_true rfl, Nat.le_of_ble_eq_true rfl, rfl⟩, Or.inr (Or.inr (show (12 : Nat) < 20 ∧ am_is h (some 93) 12 from ⟨by decide, (la_is Lh (o := 93) rfl)⟩))⟩ Iff.rfl)))

theorem b_X12_firstDead_10 {d : Nat} {Q : Option am_V → am_H → Prop} (h : am_H) (s0 : Int32) (l0 : Option am_V) : ex_ d 342 10 [l0] [v_i s0] h Q ↔ Q (some (v_i s0)) h := by
  unfold ex_
  exact ((am_Y_ret rfl rfl rfl).trans (am_r0))

theorem b_X12_common_0 {d : Nat} {Q : Option am_V → am_H → Prop} (h : am_H) (x1 : Int32) (l2 l3 : Option am_V) (Lh : Lay h) : ex_ (d + 1) 343 0 [some (v_r (some 93)), some (v_i x1), l2, l3] [] h Q ↔ ex_ d 262 0 [some (v_r (some 93)), some (v_l (Int32.toInt64 x1)), none] [] (p_i h 93 0 (0 : Int32)) (fun r h' => ex_ (d + 1) 343 11 [some (v_r (some 93)), some (v_i x1), l2, l3] (r.toList ++ []) h' Q) := by
  unfold ex_
  refine (am_Y_go 6 (ok := [am_is h (some 93) 12]) (g := (8, [some (v_r (some 93)), some (v_i x1), l2, l3], [v_l (Int32.toInt64 x1), v_r (some 93)], (p_i h 93 0 (0 : Int32)))) rfl).trans ?_
  simp only [am_all]
  all_goals exact cj_d (la_is Lh (o := 93) rfl) (((am_Y_call (j := 262) (na := 2) (ci := 12) (fl := 0) rfl rfl rfl).trans (cj_d ⟨⟨Nat.le_of_ble_eq_true rfl, Nat.le_of_ble_eq_true rfl, Nat.le_of_ble_eq_true rfl, rfl⟩, Or.inr (Or.inr (show (12 : Nat) < 20 ∧ am_is h (some 93) 12 from ⟨by decide, (la_is Lh (o := 93) rfl)⟩))⟩ Iff.rfl)))

theorem b_X12_common_11 {d : Nat} {Q : Option am_V → am_H → Prop} (h : am_H) (s0 : Int32) (l0 l1 l2 l3 : Option am_V) : ex_ d 343 11 [l0, l1, l2, l3] [v_i s0] h Q ↔ if s0 = 0 then ex_ d 343 23 [l0, l1, l2, l3] [] h Q else ex_ d 343 14 [l0, l1, l2, l3] [] h Q := by
  unfold ex_
  refine (am_Y_go 1 (ok := []) (g := (if s0 = 0 then 23 else 14, [l0, l1, l2, l3], [], h)) rfl).trans ?_
  all_goals exact am_Y_if

theorem b_X12_common_23 {d : Nat} {Q : Option am_V → am_H → Prop} (h : am_H) (l0 l1 l2 l3 : Option am_V) : ex_ d 343 23 [l0, l1, l2, l3] [] h Q ↔ Q (some (v_i (-2 : Int32))) h := by
  unfold ex_
  refine (am_Y_go 1 (ok := []) (g := (25, [l0, l1, l2, l3], [v_i (-2 : Int32)], h)) rfl).trans ?_
  all_goals exact ((am_Y_ret rfl rfl rfl).trans (am_r0))

theorem b_X12_common_14 {d : Nat} {Q : Option am_V → am_H → Prop} (h : am_H) (x2 : Int32) (l1 l3 : Option am_V) (Lh : Lay h) : ex_ (d + 1) 343 14 [some (v_r (some 93)), l1, some (v_i x2), l3] [] h Q ↔ ex_ d 262 0 [some (v_r (some 93)), some (v_l (Int32.toInt64 x2)), none] [] h (fun r h' => ex_ (d + 1) 343 20 [some (v_r (some 93)), l1, some (v_i x2), l3] (r.toList ++ []) h' Q) := by
  unfold ex_
  refine (am_Y_go 3 (ok := []) (g := (17, [some (v_r (some 93)), l1, some (v_i x2), l3], [v_l (Int32.toInt64 x2), v_r (some 93)], h)) rfl).trans ?_
  all_goals exact ((am_Y_call (j := 262) (na := 2) (ci := 12) (fl := 0) rfl rfl rfl).trans (cj_d ⟨⟨Nat.le_of_ble_eq_true rfl, Nat.le_of_ble_eq_true rfl, Nat.le_of_ble_eq_true rfl, rfl⟩, Or.inr (Or.inr (show (12 : Nat) < 20 ∧ am_is h (some 93) 12 from ⟨by decide, (la_is Lh (o := 93) rfl)⟩))⟩ Iff.rfl))

theorem b_X12_common_20 {d : Nat} {Q : Option am_V → am_H → Prop} (h : am_H) (s0 : Int32) (l0 l1 l2 l3 : Option am_V) : ex_ d 343 20 [l0, l1, l2, l3] [v_i s0] h Q ↔ if ¬ s0 = 0 then ex_ d 343 26 [l0, l1, l2, l3] [] h Q else ex_ d 343 23 [l0, l1, l2, l3] [] h Q := by
  unfold ex_
  refine (am_Y_go 1 (ok := []) (g := (if ¬ s0 = 0 then 26 else 23, [l0, l1, l2, l3], [], h)) rfl).trans ?_
  all_goals exact am_Y_if

theorem b_X12_common_26 {d : Nat} {Q : Option am_V → am_H → Prop} (h : am_H) (l1 l2 l3 : Option am_V) (Lh : Lay h) : ex_ (d + 1) 343 26 [some (v_r (some 93)), l1, l2, l3] [] h Q ↔ ex_ d 271 0 [some (v_r (some 93)), none] [] h (fun r h' => ex_ (d + 1) 343 30 [some (v_r (some 93)), l1, l2, l3] (r.toList ++ []) h' Q) := by
  unfold ex_
  refine (am_Y_go 1 (ok := []) (g := (27, [some (v_r (some 93)), l1, l2, l3], [v_r (some 93)], h)) rfl).trans ?_
  all_goals exact ((am_Y_call (j := 271) (na := 1) (ci := 12) (fl := 0) rfl rfl rfl).trans (cj_d ⟨⟨Nat.le_of_ble_eq_true rfl, Nat.le_of_ble_eq_true rfl, Nat.le_of_ble_eq_true rfl, rfl⟩, Or.inr (Or.inr (show (12 : Nat) < 20 ∧ am_is h (some 93) 12 from ⟨by decide, (la_is Lh (o := 93) rfl)⟩))⟩ Iff.rfl))

theorem b_X12_common_30 {d : Nat} {Q : Option am_V → am_H → Prop} (h : am_H) (x1 : Int32) (l2 l3 : Option am_V) (Lh : Lay h) : ex_ d 343 30 [some (v_r (some 93)), some (v_i x1), l2, l3] [] h Q ↔ vp_in x1 11 ∧ (if ¬ (h_i h 100 (Int32.toNatClampNeg x1)) = 0 then ex_ d 343 48 [some (v_r (some 93)), some (v_i x1), l2, l3] [] h Q else ex_ d 343 39 [some (v_r (some 93)), some (v_i x1), l2, l3] [] h Q) := by
  have e0 : h_r h 93 18 = some 100 := la_r Lh (q := (93, 18, 100)) (by decide)
  unfold ex_
  refine (am_Y_go 5 (ok := [am_is h (some 93) 12, am_ar h ((h_r h 93 18)) 20 x1]) (g := (if ¬ (h_i h ((h_r h 93 18).getD 0) (Int32.toNatClampNeg x1)) = 0 then 48 else 39, [some (v_r (some 93)), some (v_i x1), l2, l3], [], h)) rfl).trans ?_
  simp only [e0, Option.getD_some, am_all]
  all_goals exact cj_d (la_is Lh (o := 93) rfl) (cj_k (la_ar Lh (o := 100) rfl) (am_Y_if))

theorem b_X12_common_48 {d : Nat} {Q : Option am_V → am_H → Prop} (h : am_H) (l0 l1 l2 l3 : Option am_V) : ex_ d 343 48 [l0, l1, l2, l3] [] h Q ↔ Q (some (v_i (-5 : Int32))) h := by
  unfold ex_
  refine (am_Y_go 1 (ok := []) (g := (50, [l0, l1, l2, l3], [v_i (-5 : Int32)], h)) rfl).trans ?_
  all_goals exact ((am_Y_ret rfl rfl rfl).trans (am_r0))

theorem b_X12_common_39 {d : Nat} {Q : Option am_V → am_H → Prop} (h : am_H) (x2 : Int32) (l1 l3 : Option am_V) (Lh : Lay h) : ex_ d 343 39 [some (v_r (some 93)), l1, some (v_i x2), l3] [] h Q ↔ vp_in x2 11 ∧ (if (h_i h 100 (Int32.toNatClampNeg x2)) = 0 then ex_ d 343 51 [some (v_r (some 93)), l1, some (v_i x2), l3] [] h Q else ex_ d 343 48 [some (v_r (some 93)), l1, some (v_i x2), l3] [] h Q) := by
  have e0 : h_r h 93 18 = some 100 := la_r Lh (q := (93, 18, 100)) (by decide)
  unfold ex_
  refine (am_Y_go 5 (ok := [am_is h (some 93) 12, am_ar h ((h_r h 93 18)) 20 x2]) (g := (if (h_i h ((h_r h 93 18).getD 0) (Int32.toNatClampNeg x2)) = 0 then 51 else 48, [some (v_r (some 93)), l1, some (v_i x2), l3], [], h)) rfl).trans ?_
  simp only [e0, Option.getD_some, am_all]
  all_goals exact cj_d (la_is Lh (o := 93) rfl) (cj_k (la_ar Lh (o := 100) rfl) (am_Y_if))

theorem b_X12_common_51 {d : Nat} {Q : Option am_V → am_H → Prop} (h : am_H) (l0 l1 l2 l3 : Option am_V) : ex_ d 343 51 [l0, l1, l2, l3] [] h Q ↔ ex_ d 343 53 [l0, l1, l2, some (v_i (0 : Int32))] [] h Q := by
  unfold ex_
  refine (am_Y_go 2 (ok := []) (g := (53, [l0, l1, l2, some (v_i (0 : Int32))], [], h)) rfl).trans ?_
  all_goals exact Iff.rfl

theorem b_X12_common_53 {d : Nat} {Q : Option am_V → am_H → Prop} (h : am_H) (x3 : Int32) (x1 : Int32) (l2 : Option am_V) (Lh : Lay h) : ex_ d 343 53 [some (v_r (some 93)), some (v_i x1), l2, some (v_i x3)] [] h Q ↔ vp_in x1 11 ∧ (if (h_i h 98 (Int32.toNatClampNeg x1)) ≤ x3 then ex_ d 343 101 [some (v_r (some 93)), some (v_i x1), l2, some (v_i x3)] [] h Q else ex_ d 343 63 [some (v_r (some 93)), some (v_i x1), l2, some (v_i x3)] [] h Q) := by
  have e0 : h_r h 93 16 = some 98 := la_r Lh (q := (93, 16, 98)) (by decide)
  unfold ex_
  refine (am_Y_go 6 (ok := [am_is h (some 93) 12, am_ar h ((h_r h 93 16)) 20 x1]) (g := (if (h_i h ((h_r h 93 16).getD 0) (Int32.toNatClampNeg x1)) ≤ x3 then 101 else 63, [some (v_r (some 93)), some (v_i x1), l2, some (v_i x3)], [], h)) rfl).trans ?_
  simp only [e0, Option.getD_some, am_all]
  all_goals exact cj_d (la_is Lh (o := 93) rfl) (cj_k (la_ar Lh (o := 98) rfl) (am_Y_if))

theorem b_X12_common_101 {d : Nat} {Q : Option am_V → am_H → Prop} (h : am_H) (l0 l1 l2 l3 : Option am_V) : ex_ d 343 101 [l0, l1, l2, l3] [] h Q ↔ Q (some (v_i (-1 : Int32))) h := by
  unfold ex_
  refine (am_Y_go 1 (ok := []) (g := (102, [l0, l1, l2, l3], [v_i (-1 : Int32)], h)) rfl).trans ?_
  all_goals exact ((am_Y_ret rfl rfl rfl).trans (am_r0))

theorem b_X12_common_63 {d : Nat} {Q : Option am_V → am_H → Prop} (h : am_H) (x2 : Int32) (x1 : Int32) (x3 : Int32) (Lh : Lay h) : ex_ (d + 1) 343 63 [some (v_r (some 93)), some (v_i x1), some (v_i x2), some (v_i x3)] [] h Q ↔ vp_in (((11 : Int32) * x1) + x3) 121 ∧ ex_ d 272 0 [some (v_r (some 93)), some (v_i x2), some (v_i (h_i h 99 (Int32.toNatClampNeg (((11 : Int32) * x1) + x3)))), none] [] h (fun r h' => ex_ (d + 1) 343 79 [some (v_r (some 93)), some (v_i x1), some (v_i x2), some (v_i x3)] (r.toList ++ []) h' Q) := by
  have e0 : h_r h 93 17 = some 99 := la_r Lh (q := (93, 17, 99)) (by decide)
  unfold ex_
  refine (am_Y_go 10 (ok := [am_is h (some 93) 12, am_ar h ((h_r h 93 17)) 20 (((11 : Int32) * x1) + x3)]) (g := (76, [some (v_r (some 93)), some (v_i x1), some (v_i x2), some (v_i x3)], [v_i (h_i h ((h_r h 93 17).getD 0) (Int32.toNatClampNeg (((11 : Int32) * x1) + x3))), v_i x2, v_r (some 93)], h)) rfl).trans ?_
  simp only [e0, Option.getD_some, am_all]
  all_goals exact cj_d (la_is Lh (o := 93) rfl) (cj_k (la_ar Lh (o := 99) rfl) (((am_Y_call (j := 272) (na := 3) (ci := 12) (fl := 0) rfl rfl rfl).trans (cj_d ⟨⟨Nat.le_of_ble_eq_true rfl, Nat.le_of_ble_eq_true rfl, Nat.le_of_ble_eq_true rfl, rfl⟩, Or.inr (Or.inr (show (12 : Nat) < 20 ∧ am_is h (some 93) 12 from ⟨by decide, (la_is Lh (o := 93) rfl)⟩))⟩ Iff.rfl))))

theorem b_X12_common_79 {d : Nat} {Q : Option am_V → am_H → Prop} (h : am_H) (s0 : Int32) (l0 l1 l2 l3 : Option am_V) : ex_ d 343 79 [l0, l1, l2, l3] [v_i s0] h Q ↔ if s0 = (-1 : Int32) then ex_ d 343 95 [l0, l1, l2, l3] [] h Q else ex_ d 343 83 [l0, l1, l2, l3] [] h Q := by
  unfold ex_
  refine (am_Y_go 2 (ok := []) (g := (if s0 = (-1 : Int32) then 95 else 83, [l0, l1, l2, l3], [], h)) rfl).trans ?_
  all_goals exact am_Y_if

theorem b_X12_common_95 {d : Nat} {Q : Option am_V → am_H → Prop} (h : am_H) (x3 : Int32) (l0 l1 l2 : Option am_V) : ex_ d 343 95 [l0, l1, l2, some (v_i x3)] [] h Q ↔ ex_ d 343 53 [l0, l1, l2, some (v_i (x3 + (1 : Int32)))] [] h Q := by
  unfold ex_
  refine (am_Y_go 2 (ok := []) (g := (53, [l0, l1, l2, some (v_i (x3 + (1 : Int32)))], [], h)) rfl).trans ?_
  all_goals exact Iff.rfl

theorem b_X12_common_83 {d : Nat} {Q : Option am_V → am_H → Prop} (h : am_H) (x1 : Int32) (x3 : Int32) (l2 : Option am_V) (Lh : Lay h) : ex_ d 343 83 [some (v_r (some 93)), some (v_i x1), l2, some (v_i x3)] [] h Q ↔ vp_in (((11 : Int32) * x1) + x3) 121 ∧ Q (some (v_i (h_i h 99 (Int32.toNatClampNeg (((11 : Int32) * x1) + x3))))) h := by
  have e0 : h_r h 93 17 = some 99 := la_r Lh (q := (93, 17, 99)) (by decide)
  unfold ex_
  refine (am_Y_go 8 (ok := [am_is h (some 93) 12, am_ar h ((h_r h 93 17)) 20 (((11 : Int32) * x1) + x3)]) (g := (94, [some (v_r (some 93)), some (v_i x1), l2, some (v_i x3)], [v_i (h_i h ((h_r h 93 17).getD 0) (Int32.toNatClampNeg (((11 : Int32) * x1) + x3)))], h)) rfl).trans ?_
  simp only [e0, Option.getD_some, am_all]
  all_goals exact cj_d (la_is Lh (o := 93) rfl) (cj_k (la_ar Lh (o := 99) rfl) (((am_Y_ret rfl rfl rfl).trans (am_r0))))

theorem b_X12_noWould_0 {d : Nat} {Q : Option am_V → am_H → Prop} (h : am_H) (x1 : Int32) (l2 l3 l4 l5 l6 : Option am_V) (Lh : Lay h) : ex_ (d + 1) 344 0 [some (v_r (some 93)), some (v_i x1), l2, l3, l4, l5, l6] [] h Q ↔ ex_ d 303 0 [some (v_r (some 93)), some (v_i x1)] [] h (fun r h' => ex_ (d + 1) 344 5 [some (v_r (some 93)), some (v_i x1), l2, l3, l4, l5, l6] (r.toList ++ []) h' Q) := by
  unfold ex_
  refine (am_Y_go 2 (ok := []) (g := (2, [some (v_r (some 93)), some (v_i x1), l2, l3, l4, l5, l6], [v_i x1, v_r (some 93)], h)) rfl).trans ?_
  all_goals exact ((am_Y_call (j := 303) (na := 2) (ci := 12) (fl := 0) rfl rfl rfl).trans (cj_d ⟨⟨Nat.le_of_ble_eq_true rfl, Nat.le_of_ble_eq_true rfl, Nat.le_of_ble_eq_true rfl, rfl⟩, Or.inr (Or.inr (show (12 : Nat) < 20 ∧ am_is h (some 93) 12 from ⟨by decide, (la_is Lh (o := 93) rfl)⟩))⟩ Iff.rfl))

theorem b_X12_noWould_5 {d : Nat} {Q : Option am_V → am_H → Prop} (h : am_H) (s0 : Int32) (l0 l1 l2 l3 l4 l5 l6 : Option am_V) : ex_ d 344 5 [l0, l1, l2, l3, l4, l5, l6] [v_i s0] h Q ↔ if s0 = 0 then ex_ d 344 12 [l0, l1, some (v_i s0), l3, l4, l5, l6] [] h Q else ex_ d 344 10 [l0, l1, some (v_i s0), l3, l4, l5, l6] [] h Q := by
  unfold ex_
  refine (am_Y_go 3 (ok := []) (g := (if s0 = 0 then 12 else 10, [l0, l1, some (v_i s0), l3, l4, l5, l6], [], h)) rfl).trans ?_
  all_goals exact am_Y_if

theorem b_X12_noWould_12 {d : Nat} {Q : Option am_V → am_H → Prop} (h : am_H) (x1 : Int32) (l2 l3 l4 l5 l6 : Option am_V) (Lh : Lay h) : ex_ d 344 12 [some (v_r (some 93)), some (v_i x1), l2, l3, l4, l5, l6] [] h Q ↔ vp_in x1 4 ∧ (if (h_i h 116 (Int32.toNatClampNeg x1)) ≤ (4 : Int32) then ex_ d 344 25 [some (v_r (some 93)), some (v_i x1), l2, l3, l4, l5, l6] [] h Q else ex_ d 344 22 [some (v_r (some 93)), some (v_i x1), l2, l3, l4, l5, l6] [] h Q) := by
  have e0 : h_r h 93 42 = some 116 := la_r Lh (q := (93, 42, 116)) (by decide)
  unfold ex_
  refine (am_Y_go 6 (ok := [am_is h (some 93) 12, am_ar h ((h_r h 93 42)) 20 x1]) (g := (if (h_i h ((h_r h 93 42).getD 0) (Int32.toNatClampNeg x1)) ≤ (4 : Int32) then 25 else 22, [some (v_r (some 93)), some (v_i x1), l2, l3, l4, l5, l6], [], h)) rfl).trans ?_
  simp only [e0, Option.getD_some, am_all]
  all_goals exact cj_d (la_is Lh (o := 93) rfl) (cj_k (la_ar Lh (o := 116) rfl) (am_Y_if))

theorem b_X12_noWould_10 {d : Nat} {Q : Option am_V → am_H → Prop} (h : am_H) (x2 : Int32) (l0 l1 l3 l4 l5 l6 : Option am_V) : ex_ d 344 10 [l0, l1, some (v_i x2), l3, l4, l5, l6] [] h Q ↔ Q (some (v_i x2)) h := by
  unfold ex_
  refine (am_Y_go 1 (ok := []) (g := (11, [l0, l1, some (v_i x2), l3, l4, l5, l6], [v_i x2], h)) rfl).trans ?_
  all_goals exact ((am_Y_ret rfl rfl rfl).trans (am_r0))

theorem b_X12_noWould_25 {d : Nat} {Q : Option am_V → am_H → Prop} (h : am_H) (l0 l1 l2 l3 l4 l5 l6 : Option am_V) : ex_ d 344 25 [l0, l1, l2, l3, l4, l5, l6] [] h Q ↔ ex_ d 344 30 [l0, l1, l2, some (v_i (0 : Int32)), some (v_i (0 : Int32)), l5, l6] [] h Q := by
  unfold ex_
  refine (am_Y_go 4 (ok := []) (g := (30, [l0, l1, l2, some (v_i (0 : Int32)), some (v_i (0 : Int32)), l5, l6], [], h)) rfl).trans ?_
  all_goals exact Iff.rfl

theorem b_X12_noWould_22 {d : Nat} {Q : Option am_V → am_H → Prop} (h : am_H) (l0 l1 l2 l3 l4 l5 l6 : Option am_V) : ex_ d 344 22 [l0, l1, l2, l3, l4, l5, l6] [] h Q ↔ Q (some (v_i (-4 : Int32))) h := by
  unfold ex_
  refine (am_Y_go 1 (ok := []) (g := (24, [l0, l1, l2, l3, l4, l5, l6], [v_i (-4 : Int32)], h)) rfl).trans ?_
  all_goals exact ((am_Y_ret rfl rfl rfl).trans (am_r0))

theorem b_X12_noWould_30 {d : Nat} {Q : Option am_V → am_H → Prop} (h : am_H) (x4 : Int32) (x1 : Int32) (l2 l3 l5 l6 : Option am_V) (Lh : Lay h) : ex_ d 344 30 [some (v_r (some 93)), some (v_i x1), l2, l3, some (v_i x4), l5, l6] [] h Q ↔ vp_in x1 4 ∧ (if (h_i h 116 (Int32.toNatClampNeg x1)) ≤ x4 then ex_ d 344 92 [some (v_r (some 93)), some (v_i x1), l2, l3, some (v_i x4), l5, l6] [] h Q else ex_ d 344 41 [some (v_r (some 93)), some (v_i x1), l2, l3, some (v_i x4), l5, l6] [] h Q) := by
  have e0 : h_r h 93 42 = some 116 := la_r Lh (q := (93, 42, 116)) (by decide)
  unfold ex_
  refine (am_Y_go 6 (ok := [am_is h (some 93) 12, am_ar h ((h_r h 93 42)) 20 x1]) (g := (if (h_i h ((h_r h 93 42).getD 0) (Int32.toNatClampNeg x1)) ≤ x4 then 92 else 41, [some (v_r (some 93)), some (v_i x1), l2, l3, some (v_i x4), l5, l6], [], h)) rfl).trans ?_
  simp only [e0, Option.getD_some, am_all]
  all_goals exact cj_d (la_is Lh (o := 93) rfl) (cj_k (la_ar Lh (o := 116) rfl) (am_Y_if))

theorem b_X12_noWould_92 {d : Nat} {Q : Option am_V → am_H → Prop} (h : am_H) (l0 l1 l2 l3 l4 l5 l6 : Option am_V) : ex_ d 344 92 [l0, l1, l2, l3, l4, l5, l6] [] h Q ↔ Q (some (v_i (0 : Int32))) h := by
  unfold ex_
  refine (am_Y_go 1 (ok := []) (g := (93, [l0, l1, l2, l3, l4, l5, l6], [v_i (0 : Int32)], h)) rfl).trans ?_
  all_goals exact ((am_Y_ret rfl rfl rfl).trans (am_r0))

theorem b_X12_noWould_41 {d : Nat} {Q : Option am_V → am_H → Prop} (h : am_H) (x1 : Int32) (x4 : Int32) (l2 l3 l5 l6 : Option am_V) (Lh : Lay h) : ex_ (d + 1) 344 41 [some (v_r (some 93)), some (v_i x1), l2, l3, some (v_i x4), l5, l6] [] h Q ↔ vp_in (((40 : Int32) * x1) + x4) 160 ∧ ex_ d 262 0 [some (v_r (some 93)), some (v_l (h_j h 117 (Int32.toNatClampNeg (((40 : Int32) * x1) + x4)))), none] [] h (fun r h' => ex_ (d + 1) 344 61 [some (v_r (some 93)), some (v_i x1), l2, l3, some (v_i x4), some (v_l (h_j h 117 (Int32.toNatClampNeg (((40 : Int32) * x1) + x4)))), none] (r.toList ++ []) h' Q) := by
  have e0 : h_r h 93 43 = some 117 := la_r Lh (q := (93, 43, 117)) (by decide)
  unfold ex_
  refine (am_Y_go 11 (ok := [am_is h (some 93) 12, am_ar h ((h_r h 93 43)) 23 (((40 : Int32) * x1) + x4)]) (g := (58, [some (v_r (some 93)), some (v_i x1), l2, l3, some (v_i x4), some (v_l (h_j h ((h_r h 93 43).getD 0) (Int32.toNatClampNeg (((40 : Int32) * x1) + x4)))), none], [v_l (h_j h ((h_r h 93 43).getD 0) (Int32.toNatClampNeg (((40 : Int32) * x1) + x4))), v_r (some 93)], h)) rfl).trans ?_
  simp only [e0, Option.getD_some, am_all]
  all_goals exact cj_d (la_is Lh (o := 93) rfl) (cj_k (la_ar Lh (o := 117) rfl) (((am_Y_call (j := 262) (na := 2) (ci := 12) (fl := 0) rfl rfl rfl).trans (cj_d ⟨⟨Nat.le_of_ble_eq_true rfl, Nat.le_of_ble_eq_true rfl, Nat.le_of_ble_eq_true rfl, rfl⟩, Or.inr (Or.inr (show (12 : Nat) < 20 ∧ am_is h (some 93) 12 from ⟨by decide, (la_is Lh (o := 93) rfl)⟩))⟩ Iff.rfl))))

theorem b_X12_noWould_61 {d : Nat} {Q : Option am_V → am_H → Prop} (h : am_H) (s0 : Int32) (l0 l1 l2 l3 l4 l5 l6 : Option am_V) : ex_ d 344 61 [l0, l1, l2, l3, l4, l5, l6] [v_i s0] h Q ↔ if s0 = 0 then ex_ d 344 75 [l0, l1, l2, l3, l4, l5, l6] [] h Q else ex_ d 344 64 [l0, l1, l2, l3, l4, l5, l6] [] h Q := by
  unfold ex_
  refine (am_Y_go 1 (ok := []) (g := (if s0 = 0 then 75 else 64, [l0, l1, l2, l3, l4, l5, l6], [], h)) rfl).trans ?_
  all_goals exact am_Y_if

theorem b_X12_noWould_75 {d : Nat} {Q : Option am_V → am_H → Prop} (h : am_H) (l0 l1 l2 l3 l4 l5 l6 : Option am_V) : ex_ d 344 75 [l0, l1, l2, l3, l4, l5, l6] [] h Q ↔ Q (some (v_i (-3 : Int32))) h := by
  unfold ex_
  refine (am_Y_go 1 (ok := []) (g := (77, [l0, l1, l2, l3, l4, l5, l6], [v_i (-3 : Int32)], h)) rfl).trans ?_
  all_goals exact ((am_Y_ret rfl rfl rfl).trans (am_r0))

theorem b_X12_noWould_64 {d : Nat} {Q : Option am_V → am_H → Prop} (h : am_H) (x3 : Int32) (x5 : Int64) (l0 l1 l2 l4 l6 : Option am_V) : ex_ (d + 1) 344 64 [l0, l1, l2, some (v_i x3), l4, some (v_l x5), l6] [] h Q ↔ ex_ d 242 0 [some (v_l (Int32.toInt64 x3)), none, some (v_i (Int64.toInt32 x5))] [] h (fun r h' => ex_ (d + 1) 344 72 [l0, l1, l2, some (v_i x3), l4, some (v_l x5), l6] (r.toList ++ []) h' Q) := by
  unfold ex_
  refine (am_Y_go 4 (ok := []) (g := (69, [l0, l1, l2, some (v_i x3), l4, some (v_l x5), l6], [v_i (Int64.toInt32 x5), v_l (Int32.toInt64 x3)], h)) rfl).trans ?_
  all_goals exact ((am_Y_call (j := 242) (na := 2) (ci := 12) (fl := 2) rfl rfl rfl).trans (cj_d ⟨⟨Nat.le_of_ble_eq_true rfl, Nat.le_of_ble_eq_true rfl, Nat.le_of_ble_eq_true rfl, rfl⟩, Or.inl rfl⟩ Iff.rfl))

theorem b_X12_noWould_72 {d : Nat} {Q : Option am_V → am_H → Prop} (h : am_H) (s0 : Int32) (l0 l1 l2 l3 l4 l5 l6 : Option am_V) : ex_ d 344 72 [l0, l1, l2, l3, l4, l5, l6] [v_i s0] h Q ↔ if s0 = 0 then ex_ d 344 78 [l0, l1, l2, l3, l4, l5, l6] [] h Q else ex_ d 344 75 [l0, l1, l2, l3, l4, l5, l6] [] h Q := by
  unfold ex_
  refine (am_Y_go 1 (ok := []) (g := (if s0 = 0 then 78 else 75, [l0, l1, l2, l3, l4, l5, l6], [], h)) rfl).trans ?_
  all_goals exact am_Y_if

theorem b_X12_noWould_78 {d : Nat} {Q : Option am_V → am_H → Prop} (h : am_H) (x3 : Int32) (x5 : Int64) (x4 : Int32) (l0 l1 l2 l6 : Option am_V) : ex_ d 344 78 [l0, l1, l2, some (v_i x3), some (v_i x4), some (v_l x5), l6] [] h Q ↔ ex_ d 344 30 [l0, l1, l2, some (v_i (x3 ||| ((1 : Int32) <<< ((Int64.toInt32 x5) &&& 31)))), some (v_i (x4 + (1 : Int32))), some (v_l x5), l6] [] h Q := by
  unfold ex_
  refine (am_Y_go 9 (ok := []) (g := (30, [l0, l1, l2, some (v_i (x3 ||| ((1 : Int32) <<< ((Int64.toInt32 x5) &&& 31)))), some (v_i (x4 + (1 : Int32))), some (v_l x5), l6], [], h)) rfl).trans ?_
  all_goals exact Iff.rfl

theorem b_X12_laysWould_0 {d : Nat} {Q : Option am_V → am_H → Prop} (h : am_H) (l1 l2 : Option am_V) (Lh : Lay h) : ex_ (d + 1) 345 0 [some (v_r (some 93)), l1, l2] [] h Q ↔ ex_ d 271 0 [some (v_r (some 93)), none] [] h (fun r h' => ex_ (d + 1) 345 4 [some (v_r (some 93)), l1, l2] (r.toList ++ []) h' Q) := by
  unfold ex_
  refine (am_Y_go 1 (ok := []) (g := (1, [some (v_r (some 93)), l1, l2], [v_r (some 93)], h)) rfl).trans ?_
  all_goals exact ((am_Y_call (j := 271) (na := 1) (ci := 12) (fl := 0) rfl rfl rfl).trans (cj_d ⟨⟨Nat.le_of_ble_eq_true rfl, Nat.le_of_ble_eq_true rfl, Nat.le_of_ble_eq_true rfl, rfl⟩, Or.inr (Or.inr (show (12 : Nat) < 20 ∧ am_is h (some 93) 12 from ⟨by decide, (la_is Lh (o := 93) rfl)⟩))⟩ Iff.rfl))

theorem b_X12_laysWould_4 {d : Nat} {Q : Option am_V → am_H → Prop} (h : am_H) (x1 : Int32) (l2 : Option am_V) (Lh : Lay h) : ex_ d 345 4 [some (v_r (some 93)), some (v_i x1), l2] [] h Q ↔ vp_in x1 4 ∧ ex_ d 345 16 [some (v_r (some 93)), some (v_i x1), some (v_i (0 : Int32))] [] (p_i h 93 23 (h_i h 116 (Int32.toNatClampNeg x1))) Q := by
  have e0 : h_r h 93 42 = some 116 := la_r Lh (q := (93, 42, 116)) (by decide)
  unfold ex_
  refine (am_Y_go 8 (ok := [am_is h (some 93) 12, am_ar h ((h_r h 93 42)) 20 x1, am_is h (some 93) 12]) (g := (16, [some (v_r (some 93)), some (v_i x1), some (v_i (0 : Int32))], [], (p_i h 93 23 (h_i h ((h_r h 93 42).getD 0) (Int32.toNatClampNeg x1))))) rfl).trans ?_
  simp only [e0, Option.getD_some, am_all]
  all_goals exact cj_d (la_is Lh (o := 93) rfl) (cj_k (la_ar Lh (o := 116) rfl) (cj_d (la_is Lh (o := 93) rfl) (Iff.rfl)))

theorem b_X12_laysWould_16 {d : Nat} {Q : Option am_V → am_H → Prop} (h : am_H) (x2 : Int32) (l1 : Option am_V) (Lh : Lay h) : ex_ d 345 16 [some (v_r (some 93)), l1, some (v_i x2)] [] h Q ↔ if (h_i h 93 23) ≤ x2 then ex_ d 345 48 [some (v_r (some 93)), l1, some (v_i x2)] [] h Q else ex_ d 345 24 [some (v_r (some 93)), l1, some (v_i x2)] [] h Q := by
  unfold ex_
  refine (am_Y_go 4 (ok := [am_is h (some 93) 12]) (g := (if (h_i h 93 23) ≤ x2 then 48 else 24, [some (v_r (some 93)), l1, some (v_i x2)], [], h)) rfl).trans ?_
  simp only [am_all]
  all_goals exact cj_d (la_is Lh (o := 93) rfl) (am_Y_if)

theorem b_X12_laysWould_48 {d : Nat} {Q : Option am_V → am_H → Prop} (h : am_H) (l1 l2 : Option am_V) (Lh : Lay h) : ex_ (d + 1) 345 48 [some (v_r (some 93)), l1, l2] [] h Q ↔ ex_ d 269 0 [some (v_r (some 93)), some (v_i (10 : Int32)), none, none] [] h (fun r h' => ex_ (d + 1) 345 54 [some (v_r (some 93)), l1, l2] (r.toList ++ []) h' Q) := by
  unfold ex_
  refine (am_Y_go 2 (ok := []) (g := (51, [some (v_r (some 93)), l1, l2], [v_i (10 : Int32), v_r (some 93)], h)) rfl).trans ?_
  all_goals exact ((am_Y_call (j := 269) (na := 2) (ci := 12) (fl := 0) rfl rfl rfl).trans (cj_d ⟨⟨Nat.le_of_ble_eq_true rfl, Nat.le_of_ble_eq_true rfl, Nat.le_of_ble_eq_true rfl, rfl⟩, Or.inr (Or.inr (show (12 : Nat) < 20 ∧ am_is h (some 93) 12 from ⟨by decide, (la_is Lh (o := 93) rfl)⟩))⟩ Iff.rfl))

theorem b_X12_laysWould_24 {d : Nat} {Q : Option am_V → am_H → Prop} (h : am_H) (x2 : Int32) (x1 : Int32) (Lh : Lay h) : ex_ d 345 24 [some (v_r (some 93)), some (v_i x1), some (v_i x2)] [] h Q ↔ vp_in (((40 : Int32) * x1) + x2) 160 ∧ vp_in x2 4 ∧ ex_ d 345 16 [some (v_r (some 93)), some (v_i x1), some (v_i (x2 + (1 : Int32)))] [] (p_i h 104 (Int32.toNatClampNeg x2) (Int64.toInt32 (h_j h 117 (Int32.toNatClampNeg (((40 : Int32) * x1) + x2))))) Q := by
  have e0 : h_r h 93 22 = some 104 := la_r Lh (q := (93, 22, 104)) (by decide)
  have e1 : h_r h 93 43 = some 117 := la_r Lh (q := (93, 43, 117)) (by decide)
  unfold ex_
  refine (am_Y_go 15 (ok := [am_is h (some 93) 12, am_is h (some 93) 12, am_ar h ((h_r h 93 43)) 23 (((40 : Int32) * x1) + x2), am_ar h ((h_r h 93 22)) 20 x2]) (g := (16, [some (v_r (some 93)), some (v_i x1), some (v_i (x2 + (1 : Int32)))], [], (p_i h ((h_r h 93 22).getD 0) (Int32.toNatClampNeg x2) (Int64.toInt32 (h_j h ((h_r h 93 43).getD 0) (Int32.toNatClampNeg (((40 : Int32) * x1) + x2))))))) rfl).trans ?_
  simp only [e0, e1, Option.getD_some, am_all]
  all_goals exact cj_d (la_is Lh (o := 93) rfl) (cj_d (la_is Lh (o := 93) rfl) (cj_k (la_ar Lh (o := 117) rfl) (cj_k (la_ar Lh (o := 104) rfl) (Iff.rfl))))

theorem b_X12_laysWould_54 {d : Nat} {Q : Option am_V → am_H → Prop} (h : am_H) (l1 l2 : Option am_V) (Lh : Lay h) : ex_ d 345 54 [some (v_r (some 93)), l1, l2] [] h Q ↔ vp_in (10 : Int32) 11 ∧ Q (some (v_i (h_i h 100 (Int32.toNatClampNeg (10 : Int32))))) h := by
  have e0 : h_r h 93 18 = some 100 := la_r Lh (q := (93, 18, 100)) (by decide)
  unfold ex_
  refine (am_Y_go 4 (ok := [am_is h (some 93) 12, am_ar h ((h_r h 93 18)) 20 (10 : Int32)]) (g := (61, [some (v_r (some 93)), l1, l2], [v_i (h_i h ((h_r h 93 18).getD 0) (Int32.toNatClampNeg (10 : Int32)))], h)) rfl).trans ?_
  simp only [e0, Option.getD_some, am_all]
  all_goals exact cj_d (la_is Lh (o := 93) rfl) (cj_k (la_ar Lh (o := 100) rfl) (((am_Y_ret rfl rfl rfl).trans (am_r0))))

theorem b_X12_would_0 {d : Nat} {Q : Option am_V → am_H → Prop} (h : am_H) (x1 : Int32) (l2 : Option am_V) (Lh : Lay h) : ex_ (d + 1) 346 0 [some (v_r (some 93)), some (v_i x1), l2] [] h Q ↔ ex_ d 344 0 [some (v_r (some 93)), some (v_i x1), none, none, none, none, none] [] (p_i h 93 0 (0 : Int32)) (fun r h' => ex_ (d + 1) 346 10 [some (v_r (some 93)), some (v_i x1), l2] (r.toList ++ []) h' Q) := by
  unfold ex_
  refine (am_Y_go 5 (ok := [am_is h (some 93) 12]) (g := (7, [some (v_r (some 93)), some (v_i x1), l2], [v_i x1, v_r (some 93)], (p_i h 93 0 (0 : Int32)))) rfl).trans ?_
  simp only [am_all]
  all_goals exact cj_d (la_is Lh (o := 93) rfl) (((am_Y_call (j := 344) (na := 2) (ci := 12) (fl := 0) rfl rfl rfl).trans (cj_d ⟨⟨Nat.le_of_ble_eq_true rfl, Nat.le_of_ble_eq_true rfl, Nat.le_of_ble_eq_true rfl, rfl⟩, Or.inr (Or.inr (show (12 : Nat) < 20 ∧ am_is h (some 93) 12 from ⟨by decide, (la_is Lh (o := 93) rfl)⟩))⟩ Iff.rfl)))

theorem b_X12_would_10 {d : Nat} {Q : Option am_V → am_H → Prop} (h : am_H) (s0 : Int32) (l0 l1 l2 : Option am_V) : ex_ d 346 10 [l0, l1, l2] [v_i s0] h Q ↔ if s0 = 0 then ex_ d 346 19 [l0, l1, some (v_i s0)] [] h Q else ex_ d 346 15 [l0, l1, some (v_i s0)] [] h Q := by
  unfold ex_
  refine (am_Y_go 3 (ok := []) (g := (if s0 = 0 then 19 else 15, [l0, l1, some (v_i s0)], [], h)) rfl).trans ?_
  all_goals exact am_Y_if

theorem b_X12_would_19 {d : Nat} {Q : Option am_V → am_H → Prop} (h : am_H) (x1 : Int32) (l2 : Option am_V) (Lh : Lay h) : ex_ (d + 1) 346 19 [some (v_r (some 93)), some (v_i x1), l2] [] h Q ↔ ex_ d 345 0 [some (v_r (some 93)), some (v_i x1), none] [] h (fun r h' => ex_ (d + 1) 346 24 [some (v_r (some 93)), some (v_i x1), l2] (r.toList ++ []) h' Q) := by
  unfold ex_
  refine (am_Y_go 2 (ok := []) (g := (21, [some (v_r (some 93)), some (v_i x1), l2], [v_i x1, v_r (some 93)], h)) rfl).trans ?_
  all_goals exact ((am_Y_call (j := 345) (na := 2) (ci := 12) (fl := 0) rfl rfl rfl).trans (cj_d ⟨⟨Nat.le_of_ble_eq_true rfl, Nat.le_of_ble_eq_true rfl, Nat.le_of_ble_eq_true rfl, rfl⟩, Or.inr (Or.inr (show (12 : Nat) < 20 ∧ am_is h (some 93) 12 from ⟨by decide, (la_is Lh (o := 93) rfl)⟩))⟩ Iff.rfl))

theorem b_X12_would_15 {d : Nat} {Q : Option am_V → am_H → Prop} (h : am_H) (x2 : Int32) (l0 l1 : Option am_V) : ex_ d 346 15 [l0, l1, some (v_i x2)] [] h Q ↔ Q (some (v_i x2)) h := by
  unfold ex_
  refine (am_Y_go 2 (ok := []) (g := (24, [l0, l1, some (v_i x2)], [v_i x2], h)) rfl).trans ?_
  all_goals exact ((am_Y_ret rfl rfl rfl).trans (am_r0))

theorem b_X12_would_24 {d : Nat} {Q : Option am_V → am_H → Prop} (h : am_H) (s0 : Int32) (l0 l1 l2 : Option am_V) : ex_ d 346 24 [l0, l1, l2] [v_i s0] h Q ↔ Q (some (v_i s0)) h := by
  unfold ex_
  exact ((am_Y_ret rfl rfl rfl).trans (am_r0))

theorem b_X12_wouldOrder_0 {d : Nat} {Q : Option am_V → am_H → Prop} (h : am_H) (x1 : Int32) (l2 l3 : Option am_V) (Lh : Lay h) : ex_ (d + 1) 347 0 [some (v_r (some 93)), some (v_i x1), l2, l3] [] h Q ↔ ex_ d 344 0 [some (v_r (some 93)), some (v_i x1), none, none, none, none, none] [] (p_i h 93 0 (0 : Int32)) (fun r h' => ex_ (d + 1) 347 10 [some (v_r (some 93)), some (v_i x1), l2, l3] (r.toList ++ []) h' Q) := by
  unfold ex_
  refine (am_Y_go 5 (ok := [am_is h (some 93) 12]) (g := (7, [some (v_r (some 93)), some (v_i x1), l2, l3], [v_i x1, v_r (some 93)], (p_i h 93 0 (0 : Int32)))) rfl).trans ?_
  simp only [am_all]
  all_goals exact cj_d (la_is Lh (o := 93) rfl) (((am_Y_call (j := 344) (na := 2) (ci := 12) (fl := 0) rfl rfl rfl).trans (cj_d ⟨⟨Nat.le_of_ble_eq_true rfl, Nat.le_of_ble_eq_true rfl, Nat.le_of_ble_eq_true rfl, rfl⟩, Or.inr (Or.inr (show (12 : Nat) < 20 ∧ am_is h (some 93) 12 from ⟨by decide, (la_is Lh (o := 93) rfl)⟩))⟩ Iff.rfl)))

theorem b_X12_wouldOrder_10 {d : Nat} {Q : Option am_V → am_H → Prop} (h : am_H) (s0 : Int32) (l0 l1 l2 l3 : Option am_V) : ex_ d 347 10 [l0, l1, l2, l3] [v_i s0] h Q ↔ if s0 = 0 then ex_ d 347 17 [l0, l1, l2, some (v_i s0)] [] h Q else ex_ d 347 15 [l0, l1, l2, some (v_i s0)] [] h Q := by
  unfold ex_
  refine (am_Y_go 3 (ok := []) (g := (if s0 = 0 then 17 else 15, [l0, l1, l2, some (v_i s0)], [], h)) rfl).trans ?_
  all_goals exact am_Y_if

theorem b_X12_wouldOrder_17 {d : Nat} {Q : Option am_V → am_H → Prop} (h : am_H) (x2 : Int32) (l0 l1 l3 : Option am_V) : ex_ d 347 17 [l0, l1, some (v_i x2), l3] [] h Q ↔ if (1 : Int32) ≤ x2 then ex_ d 347 25 [l0, l1, some (v_i x2), l3] [] h Q else ex_ d 347 22 [l0, l1, some (v_i x2), l3] [] h Q := by
  unfold ex_
  refine (am_Y_go 3 (ok := []) (g := (if (1 : Int32) ≤ x2 then 25 else 22, [l0, l1, some (v_i x2), l3], [], h)) rfl).trans ?_
  all_goals exact am_Y_if

theorem b_X12_wouldOrder_15 {d : Nat} {Q : Option am_V → am_H → Prop} (h : am_H) (x3 : Int32) (l0 l1 l2 : Option am_V) : ex_ d 347 15 [l0, l1, l2, some (v_i x3)] [] h Q ↔ Q (some (v_i x3)) h := by
  unfold ex_
  refine (am_Y_go 1 (ok := []) (g := (16, [l0, l1, l2, some (v_i x3)], [v_i x3], h)) rfl).trans ?_
  all_goals exact ((am_Y_ret rfl rfl rfl).trans (am_r0))

theorem b_X12_wouldOrder_25 {d : Nat} {Q : Option am_V → am_H → Prop} (h : am_H) (x1 : Int32) (l2 l3 : Option am_V) (Lh : Lay h) : ex_ (d + 1) 347 25 [some (v_r (some 93)), some (v_i x1), l2, l3] [] h Q ↔ ex_ d 345 0 [some (v_r (some 93)), some (v_i x1), none] [] h (fun r h' => ex_ (d + 1) 347 30 [some (v_r (some 93)), some (v_i x1), l2, l3] (r.toList ++ []) h' Q) := by
  unfold ex_
  refine (am_Y_go 2 (ok := []) (g := (27, [some (v_r (some 93)), some (v_i x1), l2, l3], [v_i x1, v_r (some 93)], h)) rfl).trans ?_
  all_goals exact ((am_Y_call (j := 345) (na := 2) (ci := 12) (fl := 0) rfl rfl rfl).trans (cj_d ⟨⟨Nat.le_of_ble_eq_true rfl, Nat.le_of_ble_eq_true rfl, Nat.le_of_ble_eq_true rfl, rfl⟩, Or.inr (Or.inr (show (12 : Nat) < 20 ∧ am_is h (some 93) 12 from ⟨by decide, (la_is Lh (o := 93) rfl)⟩))⟩ Iff.rfl))

theorem b_X12_wouldOrder_22 {d : Nat} {Q : Option am_V → am_H → Prop} (h : am_H) (l0 l1 l2 l3 : Option am_V) : ex_ d 347 22 [l0, l1, l2, l3] [] h Q ↔ Q (some (v_i (-3 : Int32))) h := by
  unfold ex_
  refine (am_Y_go 1 (ok := []) (g := (24, [l0, l1, l2, l3], [v_i (-3 : Int32)], h)) rfl).trans ?_
  all_goals exact ((am_Y_ret rfl rfl rfl).trans (am_r0))

theorem b_X12_wouldOrder_30 {d : Nat} {Q : Option am_V → am_H → Prop} (h : am_H) (s0 : Int32) (x2 : Int32) (l1 l3 : Option am_V) (Lh : Lay h) : ex_ d 347 30 [some (v_r (some 93)), l1, some (v_i x2), l3] [v_i s0] h Q ↔ vp_in (10 : Int32) 11 ∧ (if (h_i h 98 (Int32.toNatClampNeg (10 : Int32))) ≤ x2 then ex_ d 347 54 [some (v_r (some 93)), l1, some (v_i x2), l3] [] h Q else ex_ d 347 42 [some (v_r (some 93)), l1, some (v_i x2), l3] [] h Q) := by
  have e0 : h_r h 93 16 = some 98 := la_r Lh (q := (93, 16, 98)) (by decide)
  unfold ex_
  refine (am_Y_go 7 (ok := [am_is h (some 93) 12, am_ar h ((h_r h 93 16)) 20 (10 : Int32)]) (g := (if (h_i h ((h_r h 93 16).getD 0) (Int32.toNatClampNeg (10 : Int32))) ≤ x2 then 54 else 42, [some (v_r (some 93)), l1, some (v_i x2), l3], [], h)) rfl).trans ?_
  simp only [e0, Option.getD_some, am_all]
  all_goals exact cj_d (la_is Lh (o := 93) rfl) (cj_k (la_ar Lh (o := 98) rfl) (am_Y_if))

theorem b_X12_wouldOrder_54 {d : Nat} {Q : Option am_V → am_H → Prop} (h : am_H) (l0 l1 l2 l3 : Option am_V) : ex_ d 347 54 [l0, l1, l2, l3] [] h Q ↔ Q (some (v_i (-1 : Int32))) h := by
  unfold ex_
  refine (am_Y_go 1 (ok := []) (g := (55, [l0, l1, l2, l3], [v_i (-1 : Int32)], h)) rfl).trans ?_
  all_goals exact ((am_Y_ret rfl rfl rfl).trans (am_r0))

theorem b_X12_wouldOrder_42 {d : Nat} {Q : Option am_V → am_H → Prop} (h : am_H) (x2 : Int32) (l1 l3 : Option am_V) (Lh : Lay h) : ex_ d 347 42 [some (v_r (some 93)), l1, some (v_i x2), l3] [] h Q ↔ vp_in ((110 : Int32) + x2) 121 ∧ Q (some (v_i (h_i h 99 (Int32.toNatClampNeg ((110 : Int32) + x2))))) h := by
  have e0 : h_r h 93 17 = some 99 := la_r Lh (q := (93, 17, 99)) (by decide)
  unfold ex_
  refine (am_Y_go 7 (ok := [am_is h (some 93) 12, am_ar h ((h_r h 93 17)) 20 ((110 : Int32) + x2)]) (g := (55, [some (v_r (some 93)), l1, some (v_i x2), l3], [v_i (h_i h ((h_r h 93 17).getD 0) (Int32.toNatClampNeg ((110 : Int32) + x2)))], h)) rfl).trans ?_
  simp only [e0, Option.getD_some, am_all]
  all_goals exact cj_d (la_is Lh (o := 93) rfl) (cj_k (la_ar Lh (o := 99) rfl) (((am_Y_ret rfl rfl rfl).trans (am_r0))))

theorem b_X12_trades_0 {d : Nat} {Q : Option am_V → am_H → Prop} (h : am_H) (x1 : Int32) (x2 : Int32) (l3 : Option am_V) (Lh : Lay h) : ex_ d 348 0 [some (v_r (some 93)), some (v_i x1), some (v_i x2), l3] [] h Q ↔ vp_in x1 4 ∧ vp_in x2 4 ∧ vp_in x1 4 ∧ vp_in x2 4 ∧ Q (none) (p_i (p_i h 104 (Int32.toNatClampNeg x1) (h_i h 104 (Int32.toNatClampNeg x2))) 104 (Int32.toNatClampNeg x2) (h_i h 104 (Int32.toNatClampNeg x1))) := by
  have e0 : h_r h 93 22 = some 104 := la_r Lh (q := (93, 22, 104)) (by decide)
  unfold ex_
  refine (am_Y_go 18 (ok := [am_is h (some 93) 12, am_ar h ((h_r h 93 22)) 20 x1, am_is h (some 93) 12, am_is h (some 93) 12, am_ar h ((h_r h 93 22)) 20 x2, am_ar h ((h_r h 93 22)) 20 x1, am_is h (some 93) 12, am_ar h ((h_r h 93 22)) 20 x2]) (g := (26, [some (v_r (some 93)), some (v_i x1), some (v_i x2), some (v_i (h_i h ((h_r h 93 22).getD 0) (Int32.toNatClampNeg x1)))], [], (p_i (p_i h ((h_r h 93 22).getD 0) (Int32.toNatClampNeg x1) (h_i h ((h_r h 93 22).getD 0) (Int32.toNatClampNeg x2))) ((h_r h 93 22).getD 0) (Int32.toNatClampNeg x2) (h_i h ((h_r h 93 22).getD 0) (Int32.toNatClampNeg x1))))) rfl).trans ?_
  simp only [e0, Option.getD_some, am_all]
  all_goals exact cj_d (la_is Lh (o := 93) rfl) (cj_k (la_ar Lh (o := 104) rfl) (cj_d (la_is Lh (o := 93) rfl) (cj_d (la_is Lh (o := 93) rfl) (cj_k (la_ar Lh (o := 104) rfl) (cj_k (la_ar Lh (o := 104) rfl) (cj_d (la_is Lh (o := 93) rfl) (cj_k (la_ar Lh (o := 104) rfl) (((am_Y_ret rfl rfl rfl).trans (am_rz rfl))))))))))

theorem b_X12_wouldFrom_0 {d : Nat} {Q : Option am_V → am_H → Prop} (h : am_H) (x1 : Int32) (l2 l3 : Option am_V) (Lh : Lay h) : ex_ d 349 0 [some (v_r (some 93)), some (v_i x1), l2, l3] [] h Q ↔ if ¬ x1 = (h_i h 93 23) then ex_ d 349 30 [some (v_r (some 93)), some (v_i x1), l2, l3] [] h Q else ex_ d 349 8 [some (v_r (some 93)), some (v_i x1), l2, l3] [] h Q := by
  unfold ex_
  refine (am_Y_go 4 (ok := [am_is h (some 93) 12]) (g := (if ¬ x1 = (h_i h 93 23) then 30 else 8, [some (v_r (some 93)), some (v_i x1), l2, l3], [], h)) rfl).trans ?_
  simp only [am_all]
  all_goals exact cj_d (la_is Lh (o := 93) rfl) (am_Y_if)

theorem b_X12_wouldFrom_30 {d : Nat} {Q : Option am_V → am_H → Prop} (h : am_H) (x1 : Int32) (l0 l2 l3 : Option am_V) : ex_ d 349 30 [l0, some (v_i x1), l2, l3] [] h Q ↔ ex_ d 349 34 [l0, some (v_i x1), some (v_i (0 : Int32)), some (v_i x1)] [] h Q := by
  unfold ex_
  refine (am_Y_go 4 (ok := []) (g := (34, [l0, some (v_i x1), some (v_i (0 : Int32)), some (v_i x1)], [], h)) rfl).trans ?_
  all_goals exact Iff.rfl

theorem b_X12_wouldFrom_8 {d : Nat} {Q : Option am_V → am_H → Prop} (h : am_H) (l1 l2 l3 : Option am_V) (Lh : Lay h) : ex_ (d + 1) 349 8 [some (v_r (some 93)), l1, l2, l3] [] h Q ↔ ex_ d 269 0 [some (v_r (some 93)), some (v_i (10 : Int32)), none, none] [] h (fun r h' => ex_ (d + 1) 349 14 [some (v_r (some 93)), l1, l2, l3] (r.toList ++ []) h' Q) := by
  unfold ex_
  refine (am_Y_go 2 (ok := []) (g := (11, [some (v_r (some 93)), l1, l2, l3], [v_i (10 : Int32), v_r (some 93)], h)) rfl).trans ?_
  all_goals exact ((am_Y_call (j := 269) (na := 2) (ci := 12) (fl := 0) rfl rfl rfl).trans (cj_d ⟨⟨Nat.le_of_ble_eq_true rfl, Nat.le_of_ble_eq_true rfl, Nat.le_of_ble_eq_true rfl, rfl⟩, Or.inr (Or.inr (show (12 : Nat) < 20 ∧ am_is h (some 93) 12 from ⟨by decide, (la_is Lh (o := 93) rfl)⟩))⟩ Iff.rfl))

theorem b_X12_wouldFrom_34 {d : Nat} {Q : Option am_V → am_H → Prop} (h : am_H) (x3 : Int32) (l1 l2 : Option am_V) (Lh : Lay h) : ex_ d 349 34 [some (v_r (some 93)), l1, l2, some (v_i x3)] [] h Q ↔ if (h_i h 93 23) ≤ x3 then ex_ d 349 70 [some (v_r (some 93)), l1, l2, some (v_i x3)] [] h Q else ex_ d 349 42 [some (v_r (some 93)), l1, l2, some (v_i x3)] [] h Q := by
  unfold ex_
  refine (am_Y_go 4 (ok := [am_is h (some 93) 12]) (g := (if (h_i h 93 23) ≤ x3 then 70 else 42, [some (v_r (some 93)), l1, l2, some (v_i x3)], [], h)) rfl).trans ?_
  simp only [am_all]
  all_goals exact cj_d (la_is Lh (o := 93) rfl) (am_Y_if)

theorem b_X12_wouldFrom_14 {d : Nat} {Q : Option am_V → am_H → Prop} (h : am_H) (l1 l2 l3 : Option am_V) (Lh : Lay h) : ex_ d 349 14 [some (v_r (some 93)), l1, l2, l3] [] h Q ↔ vp_in (10 : Int32) 11 ∧ (if ¬ (h_i h 100 (Int32.toNatClampNeg (10 : Int32))) = 0 then ex_ d 349 28 [some (v_r (some 93)), l1, l2, l3] [] h Q else ex_ d 349 24 [some (v_r (some 93)), l1, l2, l3] [] h Q) := by
  have e0 : h_r h 93 18 = some 100 := la_r Lh (q := (93, 18, 100)) (by decide)
  unfold ex_
  refine (am_Y_go 5 (ok := [am_is h (some 93) 12, am_ar h ((h_r h 93 18)) 20 (10 : Int32)]) (g := (if ¬ (h_i h ((h_r h 93 18).getD 0) (Int32.toNatClampNeg (10 : Int32))) = 0 then 28 else 24, [some (v_r (some 93)), l1, l2, l3], [], h)) rfl).trans ?_
  simp only [e0, Option.getD_some, am_all]
  all_goals exact cj_d (la_is Lh (o := 93) rfl) (cj_k (la_ar Lh (o := 100) rfl) (am_Y_if))

theorem b_X12_wouldFrom_70 {d : Nat} {Q : Option am_V → am_H → Prop} (h : am_H) (x2 : Int32) (l0 l1 l3 : Option am_V) : ex_ d 349 70 [l0, l1, some (v_i x2), l3] [] h Q ↔ Q (some (v_i x2)) h := by
  unfold ex_
  refine (am_Y_go 1 (ok := []) (g := (71, [l0, l1, some (v_i x2), l3], [v_i x2], h)) rfl).trans ?_
  all_goals exact ((am_Y_ret rfl rfl rfl).trans (am_r0))

theorem b_X12_wouldFrom_42 {d : Nat} {Q : Option am_V → am_H → Prop} (h : am_H) (x1 : Int32) (x3 : Int32) (l2 : Option am_V) (Lh : Lay h) : ex_ (d + 1) 349 42 [some (v_r (some 93)), some (v_i x1), l2, some (v_i x3)] [] h Q ↔ ex_ d 348 0 [some (v_r (some 93)), some (v_i x1), some (v_i x3), none] [] h (fun r h' => ex_ (d + 1) 349 48 [some (v_r (some 93)), some (v_i x1), l2, some (v_i x3)] (r.toList ++ []) h' Q) := by
  unfold ex_
  refine (am_Y_go 3 (ok := []) (g := (45, [some (v_r (some 93)), some (v_i x1), l2, some (v_i x3)], [v_i x3, v_i x1, v_r (some 93)], h)) rfl).trans ?_
  all_goals exact ((am_Y_call (j := 348) (na := 3) (ci := 12) (fl := 0) rfl rfl rfl).trans (cj_d ⟨⟨Nat.le_of_ble_eq_true rfl, Nat.le_of_ble_eq_true rfl, Nat.le_of_ble_eq_true rfl, rfl⟩, Or.inr (Or.inr (show (12 : Nat) < 20 ∧ am_is h (some 93) 12 from ⟨by decide, (la_is Lh (o := 93) rfl)⟩))⟩ Iff.rfl))

theorem b_X12_wouldFrom_28 {d : Nat} {Q : Option am_V → am_H → Prop} (h : am_H) (l0 l1 l2 l3 : Option am_V) : ex_ d 349 28 [l0, l1, l2, l3] [] h Q ↔ Q (some (v_i (0 : Int32))) h := by
  unfold ex_
  refine (am_Y_go 1 (ok := []) (g := (29, [l0, l1, l2, l3], [v_i (0 : Int32)], h)) rfl).trans ?_
  all_goals exact ((am_Y_ret rfl rfl rfl).trans (am_r0))

theorem b_X12_wouldFrom_24 {d : Nat} {Q : Option am_V → am_H → Prop} (h : am_H) (l0 l1 l2 l3 : Option am_V) : ex_ d 349 24 [l0, l1, l2, l3] [] h Q ↔ Q (some (v_i (1 : Int32))) h := by
  unfold ex_
  refine (am_Y_go 2 (ok := []) (g := (29, [l0, l1, l2, l3], [v_i (1 : Int32)], h)) rfl).trans ?_
  all_goals exact ((am_Y_ret rfl rfl rfl).trans (am_r0))

theorem b_X12_wouldFrom_48 {d : Nat} {Q : Option am_V → am_H → Prop} (h : am_H) (x2 : Int32) (x1 : Int32) (l3 : Option am_V) (Lh : Lay h) : ex_ (d + 1) 349 48 [some (v_r (some 93)), some (v_i x1), some (v_i x2), l3] [] h Q ↔ ex_ d 349 0 [some (v_r (some 93)), some (v_i (x1 + (1 : Int32))), none, none] [] h (fun r h' => ex_ (d + 1) 349 56 [some (v_r (some 93)), some (v_i x1), some (v_i x2), l3] (r.toList ++ [v_i x2]) h' Q) := by
  unfold ex_
  refine (am_Y_go 5 (ok := []) (g := (53, [some (v_r (some 93)), some (v_i x1), some (v_i x2), l3], [v_i (x1 + (1 : Int32)), v_r (some 93), v_i x2], h)) rfl).trans ?_
  all_goals exact ((am_Y_call (j := 349) (na := 2) (ci := 12) (fl := 0) rfl rfl rfl).trans (cj_d ⟨⟨Nat.le_of_ble_eq_true rfl, Nat.le_of_ble_eq_true rfl, Nat.le_of_ble_eq_true rfl, rfl⟩, Or.inr (Or.inr (show (12 : Nat) < 20 ∧ am_is h (some 93) 12 from ⟨by decide, (la_is Lh (o := 93) rfl)⟩))⟩ Iff.rfl))

theorem b_X12_wouldFrom_56 {d : Nat} {Q : Option am_V → am_H → Prop} (h : am_H) (s0 : Int32) (s1 : Int32) (x1 : Int32) (x3 : Int32) (l2 : Option am_V) (Lh : Lay h) : ex_ (d + 1) 349 56 [some (v_r (some 93)), some (v_i x1), l2, some (v_i x3)] [v_i s0, v_i s1] h Q ↔ ex_ d 348 0 [some (v_r (some 93)), some (v_i x1), some (v_i x3), none] [] h (fun r h' => ex_ (d + 1) 349 64 [some (v_r (some 93)), some (v_i x1), some (v_i (s1 + s0)), some (v_i x3)] (r.toList ++ []) h' Q) := by
  unfold ex_
  refine (am_Y_go 5 (ok := []) (g := (61, [some (v_r (some 93)), some (v_i x1), some (v_i (s1 + s0)), some (v_i x3)], [v_i x3, v_i x1, v_r (some 93)], h)) rfl).trans ?_
  all_goals exact ((am_Y_call (j := 348) (na := 3) (ci := 12) (fl := 0) rfl rfl rfl).trans (cj_d ⟨⟨Nat.le_of_ble_eq_true rfl, Nat.le_of_ble_eq_true rfl, Nat.le_of_ble_eq_true rfl, rfl⟩, Or.inr (Or.inr (show (12 : Nat) < 20 ∧ am_is h (some 93) 12 from ⟨by decide, (la_is Lh (o := 93) rfl)⟩))⟩ Iff.rfl))

theorem b_X12_wouldFrom_64 {d : Nat} {Q : Option am_V → am_H → Prop} (h : am_H) (x3 : Int32) (l0 l1 l2 : Option am_V) : ex_ d 349 64 [l0, l1, l2, some (v_i x3)] [] h Q ↔ ex_ d 349 34 [l0, l1, l2, some (v_i (x3 + (1 : Int32)))] [] h Q := by
  unfold ex_
  refine (am_Y_go 2 (ok := []) (g := (34, [l0, l1, l2, some (v_i (x3 + (1 : Int32)))], [], h)) rfl).trans ?_
  all_goals exact Iff.rfl

theorem b_X12_wouldWays_0 {d : Nat} {Q : Option am_V → am_H → Prop} (h : am_H) (x1 : Int32) (l2 : Option am_V) (Lh : Lay h) : ex_ (d + 1) 350 0 [some (v_r (some 93)), some (v_i x1), l2] [] h Q ↔ ex_ d 344 0 [some (v_r (some 93)), some (v_i x1), none, none, none, none, none] [] (p_i h 93 0 (0 : Int32)) (fun r h' => ex_ (d + 1) 350 10 [some (v_r (some 93)), some (v_i x1), l2] (r.toList ++ []) h' Q) := by
  unfold ex_
  refine (am_Y_go 5 (ok := [am_is h (some 93) 12]) (g := (7, [some (v_r (some 93)), some (v_i x1), l2], [v_i x1, v_r (some 93)], (p_i h 93 0 (0 : Int32)))) rfl).trans ?_
  simp only [am_all]
  all_goals exact cj_d (la_is Lh (o := 93) rfl) (((am_Y_call (j := 344) (na := 2) (ci := 12) (fl := 0) rfl rfl rfl).trans (cj_d ⟨⟨Nat.le_of_ble_eq_true rfl, Nat.le_of_ble_eq_true rfl, Nat.le_of_ble_eq_true rfl, rfl⟩, Or.inr (Or.inr (show (12 : Nat) < 20 ∧ am_is h (some 93) 12 from ⟨by decide, (la_is Lh (o := 93) rfl)⟩))⟩ Iff.rfl)))

theorem b_X12_wouldWays_10 {d : Nat} {Q : Option am_V → am_H → Prop} (h : am_H) (s0 : Int32) (l0 l1 l2 : Option am_V) : ex_ d 350 10 [l0, l1, l2] [v_i s0] h Q ↔ if s0 = 0 then ex_ d 350 17 [l0, l1, some (v_i s0)] [] h Q else ex_ d 350 15 [l0, l1, some (v_i s0)] [] h Q := by
  unfold ex_
  refine (am_Y_go 3 (ok := []) (g := (if s0 = 0 then 17 else 15, [l0, l1, some (v_i s0)], [], h)) rfl).trans ?_
  all_goals exact am_Y_if

theorem b_X12_wouldWays_17 {d : Nat} {Q : Option am_V → am_H → Prop} (h : am_H) (x1 : Int32) (l2 : Option am_V) (Lh : Lay h) : ex_ (d + 1) 350 17 [some (v_r (some 93)), some (v_i x1), l2] [] h Q ↔ ex_ d 345 0 [some (v_r (some 93)), some (v_i x1), none] [] h (fun r h' => ex_ (d + 1) 350 22 [some (v_r (some 93)), some (v_i x1), l2] (r.toList ++ []) h' Q) := by
  unfold ex_
  refine (am_Y_go 2 (ok := []) (g := (19, [some (v_r (some 93)), some (v_i x1), l2], [v_i x1, v_r (some 93)], h)) rfl).trans ?_
  all_goals exact ((am_Y_call (j := 345) (na := 2) (ci := 12) (fl := 0) rfl rfl rfl).trans (cj_d ⟨⟨Nat.le_of_ble_eq_true rfl, Nat.le_of_ble_eq_true rfl, Nat.le_of_ble_eq_true rfl, rfl⟩, Or.inr (Or.inr (show (12 : Nat) < 20 ∧ am_is h (some 93) 12 from ⟨by decide, (la_is Lh (o := 93) rfl)⟩))⟩ Iff.rfl))

theorem b_X12_wouldWays_15 {d : Nat} {Q : Option am_V → am_H → Prop} (h : am_H) (x2 : Int32) (l0 l1 : Option am_V) : ex_ d 350 15 [l0, l1, some (v_i x2)] [] h Q ↔ Q (some (v_i x2)) h := by
  unfold ex_
  refine (am_Y_go 1 (ok := []) (g := (16, [l0, l1, some (v_i x2)], [v_i x2], h)) rfl).trans ?_
  all_goals exact ((am_Y_ret rfl rfl rfl).trans (am_r0))

theorem b_X12_wouldWays_22 {d : Nat} {Q : Option am_V → am_H → Prop} (h : am_H) (s0 : Int32) (l1 l2 : Option am_V) (Lh : Lay h) : ex_ (d + 1) 350 22 [some (v_r (some 93)), l1, l2] [v_i s0] h Q ↔ ex_ d 349 0 [some (v_r (some 93)), some (v_i (0 : Int32)), none, none] [] h (fun r h' => ex_ (d + 1) 350 28 [some (v_r (some 93)), l1, l2] (r.toList ++ []) h' Q) := by
  unfold ex_
  refine (am_Y_go 3 (ok := []) (g := (25, [some (v_r (some 93)), l1, l2], [v_i (0 : Int32), v_r (some 93)], h)) rfl).trans ?_
  all_goals exact ((am_Y_call (j := 349) (na := 2) (ci := 12) (fl := 0) rfl rfl rfl).trans (cj_d ⟨⟨Nat.le_of_ble_eq_true rfl, Nat.le_of_ble_eq_true rfl, Nat.le_of_ble_eq_true rfl, rfl⟩, Or.inr (Or.inr (show (12 : Nat) < 20 ∧ am_is h (some 93) 12 from ⟨by decide, (la_is Lh (o := 93) rfl)⟩))⟩ Iff.rfl))

theorem b_X12_wouldWays_28 {d : Nat} {Q : Option am_V → am_H → Prop} (h : am_H) (s0 : Int32) (l0 l1 l2 : Option am_V) : ex_ d 350 28 [l0, l1, l2] [v_i s0] h Q ↔ Q (some (v_i s0)) h := by
  unfold ex_
  exact ((am_Y_ret rfl rfl rfl).trans (am_r0))

theorem b_X12_isTaken_0 {d : Nat} {Q : Option am_V → am_H → Prop} (h : am_H) (l0 l1 l2 : Option am_V) : ex_ d 351 0 [l0, l1, l2] [] h Q ↔ ex_ d 351 2 [l0, l1, some (v_i (0 : Int32))] [] h Q := by
  unfold ex_
  refine (am_Y_go 2 (ok := []) (g := (2, [l0, l1, some (v_i (0 : Int32))], [], h)) rfl).trans ?_
  all_goals exact Iff.rfl

theorem b_X12_isTaken_2 {d : Nat} {Q : Option am_V → am_H → Prop} (h : am_H) (x2 : Int32) (l1 : Option am_V) (Lh : Lay h) : ex_ d 351 2 [some (v_r (some 93)), l1, some (v_i x2)] [] h Q ↔ if (h_i h 93 37) ≤ x2 then ex_ d 351 28 [some (v_r (some 93)), l1, some (v_i x2)] [] h Q else ex_ d 351 10 [some (v_r (some 93)), l1, some (v_i x2)] [] h Q := by
  unfold ex_
  refine (am_Y_go 4 (ok := [am_is h (some 93) 12]) (g := (if (h_i h 93 37) ≤ x2 then 28 else 10, [some (v_r (some 93)), l1, some (v_i x2)], [], h)) rfl).trans ?_
  simp only [am_all]
  all_goals exact cj_d (la_is Lh (o := 93) rfl) (am_Y_if)

theorem b_X12_isTaken_28 {d : Nat} {Q : Option am_V → am_H → Prop} (h : am_H) (l0 l1 l2 : Option am_V) : ex_ d 351 28 [l0, l1, l2] [] h Q ↔ Q (some (v_i (0 : Int32))) h := by
  unfold ex_
  refine (am_Y_go 1 (ok := []) (g := (29, [l0, l1, l2], [v_i (0 : Int32)], h)) rfl).trans ?_
  all_goals exact ((am_Y_ret rfl rfl rfl).trans (am_rz (show am_fit 1 0 from Or.inl rfl)))

theorem b_X12_isTaken_10 {d : Nat} {Q : Option am_V → am_H → Prop} (h : am_H) (x2 : Int32) (x1 : Int32) (Lh : Lay h) : ex_ d 351 10 [some (v_r (some 93)), some (v_i x1), some (v_i x2)] [] h Q ↔ vp_in x2 3 ∧ (if ¬ (h_i h 113 (Int32.toNatClampNeg x2)) = x1 then ex_ d 351 22 [some (v_r (some 93)), some (v_i x1), some (v_i x2)] [] h Q else ex_ d 351 20 [some (v_r (some 93)), some (v_i x1), some (v_i x2)] [] h Q) := by
  have e0 : h_r h 93 36 = some 113 := la_r Lh (q := (93, 36, 113)) (by decide)
  unfold ex_
  refine (am_Y_go 6 (ok := [am_is h (some 93) 12, am_ar h ((h_r h 93 36)) 20 x2]) (g := (if ¬ (h_i h ((h_r h 93 36).getD 0) (Int32.toNatClampNeg x2)) = x1 then 22 else 20, [some (v_r (some 93)), some (v_i x1), some (v_i x2)], [], h)) rfl).trans ?_
  simp only [e0, Option.getD_some, am_all]
  all_goals exact cj_d (la_is Lh (o := 93) rfl) (cj_k (la_ar Lh (o := 113) rfl) (am_Y_if))

theorem b_X12_isTaken_22 {d : Nat} {Q : Option am_V → am_H → Prop} (h : am_H) (x2 : Int32) (l0 l1 : Option am_V) : ex_ d 351 22 [l0, l1, some (v_i x2)] [] h Q ↔ ex_ d 351 2 [l0, l1, some (v_i (x2 + (1 : Int32)))] [] h Q := by
  unfold ex_
  refine (am_Y_go 2 (ok := []) (g := (2, [l0, l1, some (v_i (x2 + (1 : Int32)))], [], h)) rfl).trans ?_
  all_goals exact Iff.rfl

theorem b_X12_isTaken_20 {d : Nat} {Q : Option am_V → am_H → Prop} (h : am_H) (l0 l1 l2 : Option am_V) : ex_ d 351 20 [l0, l1, l2] [] h Q ↔ Q (some (v_i (1 : Int32))) h := by
  unfold ex_
  refine (am_Y_go 1 (ok := []) (g := (21, [l0, l1, l2], [v_i (1 : Int32)], h)) rfl).trans ?_
  all_goals exact ((am_Y_ret rfl rfl rfl).trans (am_rz (show am_fit 1 1 from Or.inr rfl)))

theorem b_X12_isWhole_0 {d : Nat} {Q : Option am_V → am_H → Prop} (h : am_H) (l0 l1 l2 l3 : Option am_V) : ex_ d 352 0 [l0, l1, l2, l3] [] h Q ↔ ex_ d 352 4 [l0, some (v_i (0 : Int32)), some (v_i (0 : Int32)), l3] [] h Q := by
  unfold ex_
  refine (am_Y_go 4 (ok := []) (g := (4, [l0, some (v_i (0 : Int32)), some (v_i (0 : Int32)), l3], [], h)) rfl).trans ?_
  all_goals exact Iff.rfl

theorem b_X12_isWhole_4 {d : Nat} {Q : Option am_V → am_H → Prop} (h : am_H) (x2 : Int32) (l1 l3 : Option am_V) (Lh : Lay h) : ex_ d 352 4 [some (v_r (some 93)), l1, some (v_i x2), l3] [] h Q ↔ vp_in (1 : Int32) 7053 ∧ (if (h_i h 94 (Int32.toNatClampNeg (1 : Int32))) ≤ x2 then ex_ d 352 98 [some (v_r (some 93)), l1, some (v_i x2), l3] [] h Q else ex_ d 352 14 [some (v_r (some 93)), l1, some (v_i x2), l3] [] h Q) := by
  have e0 : h_r h 93 1 = some 94 := la_r Lh (q := (93, 1, 94)) (by decide)
  unfold ex_
  refine (am_Y_go 6 (ok := [am_is h (some 93) 12, am_ar h ((h_r h 93 1)) 20 (1 : Int32)]) (g := (if (h_i h ((h_r h 93 1).getD 0) (Int32.toNatClampNeg (1 : Int32))) ≤ x2 then 98 else 14, [some (v_r (some 93)), l1, some (v_i x2), l3], [], h)) rfl).trans ?_
  simp only [e0, Option.getD_some, am_all]
  all_goals exact cj_d (la_is Lh (o := 93) rfl) (cj_k (la_ar Lh (o := 94) rfl) (am_Y_if))

theorem b_X12_isWhole_98 {d : Nat} {Q : Option am_V → am_H → Prop} (h : am_H) (l0 l1 l2 l3 : Option am_V) : ex_ d 352 98 [l0, l1, l2, l3] [] h Q ↔ Q (some (v_i (1 : Int32))) h := by
  unfold ex_
  refine (am_Y_go 1 (ok := []) (g := (99, [l0, l1, l2, l3], [v_i (1 : Int32)], h)) rfl).trans ?_
  all_goals exact ((am_Y_ret rfl rfl rfl).trans (am_rz (show am_fit 1 1 from Or.inr rfl)))

theorem b_X12_isWhole_14 {d : Nat} {Q : Option am_V → am_H → Prop} (h : am_H) (l1 l2 l3 : Option am_V) (Lh : Lay h) : ex_ d 352 14 [some (v_r (some 93)), l1, l2, l3] [] h Q ↔ ex_ d 352 21 [some (v_r (some 93)), l1, l2, some (v_i (0 : Int32))] [] (p_i h 93 23 (0 : Int32)) Q := by
  unfold ex_
  refine (am_Y_go 5 (ok := [am_is h (some 93) 12]) (g := (21, [some (v_r (some 93)), l1, l2, some (v_i (0 : Int32))], [], (p_i h 93 23 (0 : Int32)))) rfl).trans ?_
  simp only [am_all]
  all_goals exact cj_d (la_is Lh (o := 93) rfl) (Iff.rfl)

theorem b_X12_isWhole_21 {d : Nat} {Q : Option am_V → am_H → Prop} (h : am_H) (x3 : Int32) (x2 : Int32) (l1 : Option am_V) (Lh : Lay h) : ex_ d 352 21 [some (v_r (some 93)), l1, some (v_i x2), some (v_i x3)] [] h Q ↔ vp_in ((8 : Int32) + x2) 7053 ∧ (if (h_i h 94 (Int32.toNatClampNeg ((8 : Int32) + x2))) ≤ x3 then ex_ d 352 76 [some (v_r (some 93)), l1, some (v_i x2), some (v_i x3)] [] h Q else ex_ d 352 34 [some (v_r (some 93)), l1, some (v_i x2), some (v_i x3)] [] h Q) := by
  have e0 : h_r h 93 1 = some 94 := la_r Lh (q := (93, 1, 94)) (by decide)
  unfold ex_
  refine (am_Y_go 8 (ok := [am_is h (some 93) 12, am_ar h ((h_r h 93 1)) 20 ((8 : Int32) + x2)]) (g := (if (h_i h ((h_r h 93 1).getD 0) (Int32.toNatClampNeg ((8 : Int32) + x2))) ≤ x3 then 76 else 34, [some (v_r (some 93)), l1, some (v_i x2), some (v_i x3)], [], h)) rfl).trans ?_
  simp only [e0, Option.getD_some, am_all]
  all_goals exact cj_d (la_is Lh (o := 93) rfl) (cj_k (la_ar Lh (o := 94) rfl) (am_Y_if))

theorem b_X12_isWhole_76 {d : Nat} {Q : Option am_V → am_H → Prop} (h : am_H) (x2 : Int32) (l1 l3 : Option am_V) (Lh : Lay h) : ex_ (d + 1) 352 76 [some (v_r (some 93)), l1, some (v_i x2), l3] [] h Q ↔ ex_ d 269 0 [some (v_r (some 93)), some (v_i x2), none, none] [] h (fun r h' => ex_ (d + 1) 352 81 [some (v_r (some 93)), l1, some (v_i x2), l3] (r.toList ++ []) h' Q) := by
  unfold ex_
  refine (am_Y_go 2 (ok := []) (g := (78, [some (v_r (some 93)), l1, some (v_i x2), l3], [v_i x2, v_r (some 93)], h)) rfl).trans ?_
  all_goals exact ((am_Y_call (j := 269) (na := 2) (ci := 12) (fl := 0) rfl rfl rfl).trans (cj_d ⟨⟨Nat.le_of_ble_eq_true rfl, Nat.le_of_ble_eq_true rfl, Nat.le_of_ble_eq_true rfl, rfl⟩, Or.inr (Or.inr (show (12 : Nat) < 20 ∧ am_is h (some 93) 12 from ⟨by decide, (la_is Lh (o := 93) rfl)⟩))⟩ Iff.rfl))

theorem b_X12_isWhole_34 {d : Nat} {Q : Option am_V → am_H → Prop} (h : am_H) (x1 : Int32) (l2 l3 : Option am_V) (Lh : Lay h) : ex_ (d + 1) 352 34 [some (v_r (some 93)), some (v_i x1), l2, l3] [] h Q ↔ ex_ d 351 0 [some (v_r (some 93)), some (v_i x1), none] [] h (fun r h' => ex_ (d + 1) 352 39 [some (v_r (some 93)), some (v_i x1), l2, l3] (r.toList ++ []) h' Q) := by
  unfold ex_
  refine (am_Y_go 2 (ok := []) (g := (36, [some (v_r (some 93)), some (v_i x1), l2, l3], [v_i x1, v_r (some 93)], h)) rfl).trans ?_
  all_goals exact ((am_Y_call (j := 351) (na := 2) (ci := 12) (fl := 0) rfl rfl rfl).trans (cj_d ⟨⟨Nat.le_of_ble_eq_true rfl, Nat.le_of_ble_eq_true rfl, Nat.le_of_ble_eq_true rfl, rfl⟩, Or.inr (Or.inr (show (12 : Nat) < 20 ∧ am_is h (some 93) 12 from ⟨by decide, (la_is Lh (o := 93) rfl)⟩))⟩ Iff.rfl))

theorem b_X12_isWhole_81 {d : Nat} {Q : Option am_V → am_H → Prop} (h : am_H) (x2 : Int32) (l1 l3 : Option am_V) (Lh : Lay h) : ex_ d 352 81 [some (v_r (some 93)), l1, some (v_i x2), l3] [] h Q ↔ vp_in x2 11 ∧ (if (h_i h 100 (Int32.toNatClampNeg x2)) = 0 then ex_ d 352 92 [some (v_r (some 93)), l1, some (v_i x2), l3] [] h Q else ex_ d 352 90 [some (v_r (some 93)), l1, some (v_i x2), l3] [] h Q) := by
  have e0 : h_r h 93 18 = some 100 := la_r Lh (q := (93, 18, 100)) (by decide)
  unfold ex_
  refine (am_Y_go 5 (ok := [am_is h (some 93) 12, am_ar h ((h_r h 93 18)) 20 x2]) (g := (if (h_i h ((h_r h 93 18).getD 0) (Int32.toNatClampNeg x2)) = 0 then 92 else 90, [some (v_r (some 93)), l1, some (v_i x2), l3], [], h)) rfl).trans ?_
  simp only [e0, Option.getD_some, am_all]
  all_goals exact cj_d (la_is Lh (o := 93) rfl) (cj_k (la_ar Lh (o := 100) rfl) (am_Y_if))

theorem b_X12_isWhole_39 {d : Nat} {Q : Option am_V → am_H → Prop} (h : am_H) (s0 : Int32) (l0 l1 l2 l3 : Option am_V) : ex_ d 352 39 [l0, l1, l2, l3] [v_i s0] h Q ↔ if ¬ s0 = 0 then ex_ d 352 67 [l0, l1, l2, l3] [] h Q else ex_ d 352 42 [l0, l1, l2, l3] [] h Q := by
  unfold ex_
  refine (am_Y_go 1 (ok := []) (g := (if ¬ s0 = 0 then 67 else 42, [l0, l1, l2, l3], [], h)) rfl).trans ?_
  all_goals exact am_Y_if

theorem b_X12_isWhole_92 {d : Nat} {Q : Option am_V → am_H → Prop} (h : am_H) (x2 : Int32) (l0 l1 l3 : Option am_V) : ex_ d 352 92 [l0, l1, some (v_i x2), l3] [] h Q ↔ ex_ d 352 4 [l0, l1, some (v_i (x2 + (1 : Int32))), l3] [] h Q := by
  unfold ex_
  refine (am_Y_go 2 (ok := []) (g := (4, [l0, l1, some (v_i (x2 + (1 : Int32))), l3], [], h)) rfl).trans ?_
  all_goals exact Iff.rfl

theorem b_X12_isWhole_90 {d : Nat} {Q : Option am_V → am_H → Prop} (h : am_H) (l0 l1 l2 l3 : Option am_V) : ex_ d 352 90 [l0, l1, l2, l3] [] h Q ↔ Q (some (v_i (0 : Int32))) h := by
  unfold ex_
  refine (am_Y_go 1 (ok := []) (g := (91, [l0, l1, l2, l3], [v_i (0 : Int32)], h)) rfl).trans ?_
  all_goals exact ((am_Y_ret rfl rfl rfl).trans (am_rz (show am_fit 1 0 from Or.inl rfl)))

theorem b_X12_isWhole_67 {d : Nat} {Q : Option am_V → am_H → Prop} (h : am_H) (x1 : Int32) (x3 : Int32) (l0 l2 : Option am_V) : ex_ d 352 67 [l0, some (v_i x1), l2, some (v_i x3)] [] h Q ↔ ex_ d 352 21 [l0, some (v_i (x1 + (1 : Int32))), l2, some (v_i (x3 + (1 : Int32)))] [] h Q := by
  unfold ex_
  refine (am_Y_go 3 (ok := []) (g := (21, [l0, some (v_i (x1 + (1 : Int32))), l2, some (v_i (x3 + (1 : Int32)))], [], h)) rfl).trans ?_
  all_goals exact Iff.rfl

theorem b_X12_isWhole_42 {d : Nat} {Q : Option am_V → am_H → Prop} (h : am_H) (x2 : Int32) (x3 : Int32) (l1 : Option am_V) (Lh : Lay h) : ex_ (d + 1) 352 42 [some (v_r (some 93)), l1, some (v_i x2), some (v_i x3)] [] h Q ↔ ex_ d 264 0 [some (v_r (some 93)), some (v_i x2), some (v_i x3)] [] h (fun r h' => ex_ (d + 1) 352 56 [some (v_r (some 93)), l1, some (v_i x2), some (v_i x3)] (r.toList ++ [v_i (h_i h 93 23), v_r (some 104)]) h' Q) := by
  have e0 : h_r h 93 22 = some 104 := la_r Lh (q := (93, 22, 104)) (by decide)
  unfold ex_
  refine (am_Y_go 7 (ok := [am_is h (some 93) 12, am_is h (some 93) 12]) (g := (53, [some (v_r (some 93)), l1, some (v_i x2), some (v_i x3)], [v_i x3, v_i x2, v_r (some 93), v_i (h_i h 93 23), v_r ((h_r h 93 22))], h)) rfl).trans ?_
  simp only [e0, Option.getD_some, am_all]
  all_goals exact cj_d (la_is Lh (o := 93) rfl) (cj_d (la_is Lh (o := 93) rfl) (((am_Y_call (j := 264) (na := 3) (ci := 12) (fl := 0) rfl rfl rfl).trans (cj_d ⟨⟨Nat.le_of_ble_eq_true rfl, Nat.le_of_ble_eq_true rfl, Nat.le_of_ble_eq_true rfl, rfl⟩, Or.inr (Or.inr (show (12 : Nat) < 20 ∧ am_is h (some 93) 12 from ⟨by decide, (la_is Lh (o := 93) rfl)⟩))⟩ Iff.rfl))))

theorem b_X12_isWhole_56 {d : Nat} {Q : Option am_V → am_H → Prop} (h : am_H) (s0 : Int32) (s1 : Int32) (t2 : Nat) (x1 : Int32) (x3 : Int32) (l2 : Option am_V) (Lh : Lay h) {n_t2 : Nat} (A_t2 : y_arr h t2 20 n_t2) : ex_ d 352 56 [some (v_r (some 93)), some (v_i x1), l2, some (v_i x3)] [v_i s0, v_i s1, v_r (some t2)] h Q ↔ vp_in s1 n_t2 ∧ ex_ d 352 21 [some (v_r (some 93)), some (v_i (x1 + (1 : Int32))), l2, some (v_i (x3 + (1 : Int32)))] [] (p_i (p_i h t2 (Int32.toNatClampNeg s1) s0) 93 23 ((h_i (p_i h t2 (Int32.toNatClampNeg s1) s0) 93 23) + (1 : Int32))) Q := by
  unfold ex_
  refine (am_Y_go 10 (ok := [am_ar h (some t2) 20 s1, am_is h (some 93) 12, am_is h (some 93) 12]) (g := (21, [some (v_r (some 93)), some (v_i (x1 + (1 : Int32))), l2, some (v_i (x3 + (1 : Int32)))], [], (p_i (p_i h t2 (Int32.toNatClampNeg s1) s0) 93 23 ((h_i (p_i h t2 (Int32.toNatClampNeg s1) s0) 93 23) + (1 : Int32))))) rfl).trans ?_
  simp only [am_all]
  all_goals exact cj_k (lb_ar A_t2) (cj_d (la_is Lh (o := 93) rfl) (cj_d (la_is Lh (o := 93) rfl) (Iff.rfl)))

theorem b_X12_repairsBy_0 {d : Nat} {Q : Option am_V → am_H → Prop} (h : am_H) (x2 : Int32) (l0 l1 l3 l4 l5 : Option am_V) : ex_ d 353 0 [l0, l1, some (v_i x2), l3, l4, l5] [] h Q ↔ if ¬ x2 = 0 then ex_ d 353 9 [l0, l1, some (v_i x2), l3, l4, l5] [] h Q else ex_ d 353 4 [l0, l1, some (v_i x2), l3, l4, l5] [] h Q := by
  unfold ex_
  refine (am_Y_go 2 (ok := []) (g := (if ¬ x2 = 0 then 9 else 4, [l0, l1, some (v_i x2), l3, l4, l5], [], h)) rfl).trans ?_
  all_goals exact am_Y_if

theorem b_X12_repairsBy_9 {d : Nat} {Q : Option am_V → am_H → Prop} (h : am_H) (l1 l2 l3 l4 l5 : Option am_V) (Lh : Lay h) : ex_ (d + 1) 353 9 [some (v_r (some 93)), l1, l2, l3, l4, l5] [] h Q ↔ ex_ d 304 0 [some (v_r (some 93)), none, none] [] h (fun r h' => ex_ (d + 1) 353 13 [some (v_r (some 93)), l1, l2, l3, l4, l5] (r.toList ++ []) h' Q) := by
  unfold ex_
  refine (am_Y_go 1 (ok := []) (g := (10, [some (v_r (some 93)), l1, l2, l3, l4, l5], [v_r (some 93)], h)) rfl).trans ?_
  all_goals exact ((am_Y_call (j := 304) (na := 1) (ci := 12) (fl := 0) rfl rfl rfl).trans (cj_d ⟨⟨Nat.le_of_ble_eq_true rfl, Nat.le_of_ble_eq_true rfl, Nat.le_of_ble_eq_true rfl, rfl⟩, Or.inr (Or.inr (show (12 : Nat) < 20 ∧ am_is h (some 93) 12 from ⟨by decide, (la_is Lh (o := 93) rfl)⟩))⟩ Iff.rfl))

theorem b_X12_repairsBy_4 {d : Nat} {Q : Option am_V → am_H → Prop} (h : am_H) (l1 l2 l3 l4 l5 : Option am_V) (Lh : Lay h) : ex_ (d + 1) 353 4 [some (v_r (some 93)), l1, l2, l3, l4, l5] [] h Q ↔ ex_ d 352 0 [some (v_r (some 93)), none, none, none] [] h (fun r h' => ex_ (d + 1) 353 8 [some (v_r (some 93)), l1, l2, l3, l4, l5] (r.toList ++ []) h' Q) := by
  unfold ex_
  refine (am_Y_go 1 (ok := []) (g := (5, [some (v_r (some 93)), l1, l2, l3, l4, l5], [v_r (some 93)], h)) rfl).trans ?_
  all_goals exact ((am_Y_call (j := 352) (na := 1) (ci := 12) (fl := 0) rfl rfl rfl).trans (cj_d ⟨⟨Nat.le_of_ble_eq_true rfl, Nat.le_of_ble_eq_true rfl, Nat.le_of_ble_eq_true rfl, rfl⟩, Or.inr (Or.inr (show (12 : Nat) < 20 ∧ am_is h (some 93) 12 from ⟨by decide, (la_is Lh (o := 93) rfl)⟩))⟩ Iff.rfl))

theorem b_X12_repairsBy_13 {d : Nat} {Q : Option am_V → am_H → Prop} (h : am_H) (s0 : Int32) (x1 : Int32) (l0 l2 l3 l4 l5 : Option am_V) : ex_ d 353 13 [l0, some (v_i x1), l2, l3, l4, l5] [v_i s0] h Q ↔ ex_ d 353 17 [l0, some (v_i x1), l2, some (v_i s0), some (v_i x1), l5] [] h Q := by
  unfold ex_
  refine (am_Y_go 3 (ok := []) (g := (17, [l0, some (v_i x1), l2, some (v_i s0), some (v_i x1), l5], [], h)) rfl).trans ?_
  all_goals exact Iff.rfl

theorem b_X12_repairsBy_8 {d : Nat} {Q : Option am_V → am_H → Prop} (h : am_H) (s0 : Int32) (l0 l1 l2 l3 l4 l5 : Option am_V) : ex_ d 353 8 [l0, l1, l2, l3, l4, l5] [v_i s0] h Q ↔ (s0 = 0 ∨ s0 = 1) ∧ Q (some (v_i s0)) h := by
  unfold ex_
  exact ((am_Y_ret rfl rfl rfl).trans (Iff.rfl))

theorem b_X12_repairsBy_17 {d : Nat} {Q : Option am_V → am_H → Prop} (h : am_H) (x4 : Int32) (x3 : Int32) (l0 l1 l2 l5 : Option am_V) : ex_ d 353 17 [l0, l1, l2, some (v_i x3), some (v_i x4), l5] [] h Q ↔ if x3 ≤ x4 then ex_ d 353 80 [l0, l1, l2, some (v_i x3), some (v_i x4), l5] [] h Q else ex_ d 353 23 [l0, l1, l2, some (v_i x3), some (v_i x4), l5] [] h Q := by
  unfold ex_
  refine (am_Y_go 3 (ok := []) (g := (if x3 ≤ x4 then 80 else 23, [l0, l1, l2, some (v_i x3), some (v_i x4), l5], [], h)) rfl).trans ?_
  all_goals exact am_Y_if

theorem b_X12_repairsBy_80 {d : Nat} {Q : Option am_V → am_H → Prop} (h : am_H) (l0 l1 l2 l3 l4 l5 : Option am_V) : ex_ d 353 80 [l0, l1, l2, l3, l4, l5] [] h Q ↔ Q (some (v_i (0 : Int32))) h := by
  unfold ex_
  refine (am_Y_go 1 (ok := []) (g := (81, [l0, l1, l2, l3, l4, l5], [v_i (0 : Int32)], h)) rfl).trans ?_
  all_goals exact ((am_Y_ret rfl rfl rfl).trans (am_rz (show am_fit 1 0 from Or.inl rfl)))

theorem b_X12_repairsBy_23 {d : Nat} {Q : Option am_V → am_H → Prop} (h : am_H) (x4 : Int32) (x2 : Int32) (l1 l3 l5 : Option am_V) (Lh : Lay h) : ex_ (d + 1) 353 23 [some (v_r (some 93)), l1, some (v_i x2), l3, some (v_i x4), l5] [] h Q ↔ vp_in (h_i h 93 37) 3 ∧ ex_ d 353 0 [some (v_r (some 93)), some (v_i (x4 + (1 : Int32))), some (v_i (x2 - (1 : Int32))), none, none, none] [] (p_i (p_i h 113 (Int32.toNatClampNeg (h_i h 93 37)) x4) 93 37 ((h_i (p_i h 113 (Int32.toNatClampNeg (h_i h 93 37)) x4) 93 37) + (1 : Int32))) (fun r h' => ex_ (d + 1) 353 55 [some (v_r (some 93)), l1, some (v_i x2), l3, some (v_i x4), l5] (r.toList ++ []) h' Q) := by
  have e0 : h_r h 93 36 = some 113 := la_r Lh (q := (93, 36, 113)) (by decide)
  unfold ex_
  refine (am_Y_go 19 (ok := [am_is h (some 93) 12, am_is h (some 93) 12, am_ar h ((h_r h 93 36)) 20 (h_i h 93 37), am_is h (some 93) 12, am_is h (some 93) 12]) (g := (52, [some (v_r (some 93)), l1, some (v_i x2), l3, some (v_i x4), l5], [v_i (x2 - (1 : Int32)), v_i (x4 + (1 : Int32)), v_r (some 93)], (p_i (p_i h ((h_r h 93 36).getD 0) (Int32.toNatClampNeg (h_i h 93 37)) x4) 93 37 ((h_i (p_i h ((h_r h 93 36).getD 0) (Int32.toNatClampNeg (h_i h 93 37)) x4) 93 37) + (1 : Int32))))) rfl).trans ?_
  simp only [e0, Option.getD_some, am_all]
  all_goals exact cj_d (la_is Lh (o := 93) rfl) (cj_d (la_is Lh (o := 93) rfl) (cj_k (la_ar Lh (o := 113) rfl) (cj_d (la_is Lh (o := 93) rfl) (cj_d (la_is Lh (o := 93) rfl) (((am_Y_call (j := 353) (na := 3) (ci := 12) (fl := 0) rfl rfl rfl).trans (cj_d ⟨⟨Nat.le_of_ble_eq_true rfl, Nat.le_of_ble_eq_true rfl, Nat.le_of_ble_eq_true rfl, rfl⟩, Or.inr (Or.inr (show (12 : Nat) < 20 ∧ am_is h (some 93) 12 from ⟨by decide, (la_is Lh (o := 93) rfl)⟩))⟩ Iff.rfl)))))))

theorem b_X12_repairsBy_55 {d : Nat} {Q : Option am_V → am_H → Prop} (h : am_H) (s0 : Int32) (l0 l1 l2 l3 l4 l5 : Option am_V) : ex_ d 353 55 [l0, l1, l2, l3, l4, l5] [v_i s0] h Q ↔ if s0 = 0 then ex_ d 353 64 [l0, l1, l2, l3, l4, some (v_i s0)] [] h Q else ex_ d 353 62 [l0, l1, l2, l3, l4, some (v_i s0)] [] h Q := by
  unfold ex_
  refine (am_Y_go 3 (ok := []) (g := (if s0 = 0 then 64 else 62, [l0, l1, l2, l3, l4, some (v_i s0)], [], h)) rfl).trans ?_
  all_goals exact am_Y_if

theorem b_X12_repairsBy_64 {d : Nat} {Q : Option am_V → am_H → Prop} (h : am_H) (x4 : Int32) (l1 l2 l3 l5 : Option am_V) (Lh : Lay h) : ex_ d 353 64 [some (v_r (some 93)), l1, l2, l3, some (v_i x4), l5] [] h Q ↔ ex_ d 353 17 [some (v_r (some 93)), l1, l2, l3, some (v_i (x4 + (1 : Int32))), l5] [] (p_i h 93 37 ((h_i h 93 37) - (1 : Int32))) Q := by
  unfold ex_
  refine (am_Y_go 8 (ok := [am_is h (some 93) 12, am_is h (some 93) 12]) (g := (17, [some (v_r (some 93)), l1, l2, l3, some (v_i (x4 + (1 : Int32))), l5], [], (p_i h 93 37 ((h_i h 93 37) - (1 : Int32))))) rfl).trans ?_
  simp only [am_all]
  all_goals exact cj_d (la_is Lh (o := 93) rfl) (cj_d (la_is Lh (o := 93) rfl) (Iff.rfl))

theorem b_X12_repairsBy_62 {d : Nat} {Q : Option am_V → am_H → Prop} (h : am_H) (l0 l1 l2 l3 l4 l5 : Option am_V) : ex_ d 353 62 [l0, l1, l2, l3, l4, l5] [] h Q ↔ Q (some (v_i (1 : Int32))) h := by
  unfold ex_
  refine (am_Y_go 1 (ok := []) (g := (63, [l0, l1, l2, l3, l4, l5], [v_i (1 : Int32)], h)) rfl).trans ?_
  all_goals exact ((am_Y_ret rfl rfl rfl).trans (am_rz (show am_fit 1 1 from Or.inr rfl)))

theorem b_X12_laysRepairs_0 {d : Nat} {Q : Option am_V → am_H → Prop} (h : am_H) (l0 l1 : Option am_V) : ex_ d 354 0 [l0, l1] [] h Q ↔ ex_ d 354 2 [l0, some (v_i (0 : Int32))] [] h Q := by
  unfold ex_
  refine (am_Y_go 2 (ok := []) (g := (2, [l0, some (v_i (0 : Int32))], [], h)) rfl).trans ?_
  all_goals exact Iff.rfl

theorem b_X12_laysRepairs_2 {d : Nat} {Q : Option am_V → am_H → Prop} (h : am_H) (x1 : Int32) (l0 : Option am_V) : ex_ d 354 2 [l0, some (v_i x1)] [] h Q ↔ if (3 : Int32) < x1 then ex_ d 354 29 [l0, some (v_i x1)] [] h Q else ex_ d 354 7 [l0, some (v_i x1)] [] h Q := by
  unfold ex_
  refine (am_Y_go 3 (ok := []) (g := (if (3 : Int32) < x1 then 29 else 7, [l0, some (v_i x1)], [], h)) rfl).trans ?_
  all_goals exact am_Y_if

theorem b_X12_laysRepairs_29 {d : Nat} {Q : Option am_V → am_H → Prop} (h : am_H) (l0 l1 : Option am_V) : ex_ d 354 29 [l0, l1] [] h Q ↔ Q (some (v_i (-1 : Int32))) h := by
  unfold ex_
  refine (am_Y_go 1 (ok := []) (g := (30, [l0, l1], [v_i (-1 : Int32)], h)) rfl).trans ?_
  all_goals exact ((am_Y_ret rfl rfl rfl).trans (am_r0))

theorem b_X12_laysRepairs_7 {d : Nat} {Q : Option am_V → am_H → Prop} (h : am_H) (x1 : Int32) (Lh : Lay h) : ex_ (d + 1) 354 7 [some (v_r (some 93)), some (v_i x1)] [] h Q ↔ ex_ d 353 0 [some (v_r (some 93)), some (v_i (0 : Int32)), some (v_i x1), none, none, none] [] (p_i h 93 37 (0 : Int32)) (fun r h' => ex_ (d + 1) 354 18 [some (v_r (some 93)), some (v_i x1)] (r.toList ++ []) h' Q) := by
  unfold ex_
  refine (am_Y_go 6 (ok := [am_is h (some 93) 12]) (g := (15, [some (v_r (some 93)), some (v_i x1)], [v_i x1, v_i (0 : Int32), v_r (some 93)], (p_i h 93 37 (0 : Int32)))) rfl).trans ?_
  simp only [am_all]
  all_goals exact cj_d (la_is Lh (o := 93) rfl) (((am_Y_call (j := 353) (na := 3) (ci := 12) (fl := 0) rfl rfl rfl).trans (cj_d ⟨⟨Nat.le_of_ble_eq_true rfl, Nat.le_of_ble_eq_true rfl, Nat.le_of_ble_eq_true rfl, rfl⟩, Or.inr (Or.inr (show (12 : Nat) < 20 ∧ am_is h (some 93) 12 from ⟨by decide, (la_is Lh (o := 93) rfl)⟩))⟩ Iff.rfl)))

theorem b_X12_laysRepairs_18 {d : Nat} {Q : Option am_V → am_H → Prop} (h : am_H) (s0 : Int32) (l0 l1 : Option am_V) : ex_ d 354 18 [l0, l1] [v_i s0] h Q ↔ if s0 = 0 then ex_ d 354 23 [l0, l1] [] h Q else ex_ d 354 21 [l0, l1] [] h Q := by
  unfold ex_
  refine (am_Y_go 1 (ok := []) (g := (if s0 = 0 then 23 else 21, [l0, l1], [], h)) rfl).trans ?_
  all_goals exact am_Y_if

theorem b_X12_laysRepairs_23 {d : Nat} {Q : Option am_V → am_H → Prop} (h : am_H) (x1 : Int32) (l0 : Option am_V) : ex_ d 354 23 [l0, some (v_i x1)] [] h Q ↔ ex_ d 354 2 [l0, some (v_i (x1 + (1 : Int32)))] [] h Q := by
  unfold ex_
  refine (am_Y_go 2 (ok := []) (g := (2, [l0, some (v_i (x1 + (1 : Int32)))], [], h)) rfl).trans ?_
  all_goals exact Iff.rfl

theorem b_X12_laysRepairs_21 {d : Nat} {Q : Option am_V → am_H → Prop} (h : am_H) (x1 : Int32) (l0 : Option am_V) : ex_ d 354 21 [l0, some (v_i x1)] [] h Q ↔ Q (some (v_i x1)) h := by
  unfold ex_
  refine (am_Y_go 1 (ok := []) (g := (22, [l0, some (v_i x1)], [v_i x1], h)) rfl).trans ?_
  all_goals exact ((am_Y_ret rfl rfl rfl).trans (am_r0))

theorem b_X12_repairs_0 {d : Nat} {Q : Option am_V → am_H → Prop} (h : am_H) (Lh : Lay h) : ex_ (d + 1) 355 0 [some (v_r (some 93))] [] h Q ↔ ex_ d 354 0 [some (v_r (some 93)), none] [] (p_i h 93 0 (0 : Int32)) (fun r h' => ex_ (d + 1) 355 9 [some (v_r (some 93))] (r.toList ++ []) h' Q) := by
  unfold ex_
  refine (am_Y_go 4 (ok := [am_is h (some 93) 12]) (g := (6, [some (v_r (some 93))], [v_r (some 93)], (p_i h 93 0 (0 : Int32)))) rfl).trans ?_
  simp only [am_all]
  all_goals exact cj_d (la_is Lh (o := 93) rfl) (((am_Y_call (j := 354) (na := 1) (ci := 12) (fl := 0) rfl rfl rfl).trans (cj_d ⟨⟨Nat.le_of_ble_eq_true rfl, Nat.le_of_ble_eq_true rfl, Nat.le_of_ble_eq_true rfl, rfl⟩, Or.inr (Or.inr (show (12 : Nat) < 20 ∧ am_is h (some 93) 12 from ⟨by decide, (la_is Lh (o := 93) rfl)⟩))⟩ Iff.rfl)))

theorem b_X12_repairs_9 {d : Nat} {Q : Option am_V → am_H → Prop} (h : am_H) (s0 : Int32) (l0 : Option am_V) : ex_ d 355 9 [l0] [v_i s0] h Q ↔ Q (some (v_i s0)) h := by
  unfold ex_
  exact ((am_Y_ret rfl rfl rfl).trans (am_r0))

theorem b_X12_repair_0 {d : Nat} {Q : Option am_V → am_H → Prop} (h : am_H) (x1 : Int32) (l2 l3 : Option am_V) (Lh : Lay h) : ex_ d 356 0 [some (v_r (some 93)), some (v_i x1), l2, l3] [] h Q ↔ if 0 ≤ x1 then ex_ d 356 12 [some (v_r (some 93)), some (v_i x1), l2, l3] [] (p_i h 93 0 (0 : Int32)) Q else ex_ d 356 9 [some (v_r (some 93)), some (v_i x1), l2, l3] [] (p_i h 93 0 (0 : Int32)) Q := by
  unfold ex_
  refine (am_Y_go 5 (ok := [am_is h (some 93) 12]) (g := (if 0 ≤ x1 then 12 else 9, [some (v_r (some 93)), some (v_i x1), l2, l3], [], (p_i h 93 0 (0 : Int32)))) rfl).trans ?_
  simp only [am_all]
  all_goals exact cj_d (la_is Lh (o := 93) rfl) (am_Y_if)

theorem b_X12_repair_12 {d : Nat} {Q : Option am_V → am_H → Prop} (h : am_H) (x1 : Int32) (l2 l3 : Option am_V) (Lh : Lay h) : ex_ (d + 1) 356 12 [some (v_r (some 93)), some (v_i x1), l2, l3] [] h Q ↔ ex_ d 354 0 [some (v_r (some 93)), none] [] h (fun r h' => ex_ (d + 1) 356 17 [some (v_r (some 93)), some (v_i x1), l2, l3] (r.toList ++ [v_i x1]) h' Q) := by
  unfold ex_
  refine (am_Y_go 2 (ok := []) (g := (14, [some (v_r (some 93)), some (v_i x1), l2, l3], [v_r (some 93), v_i x1], h)) rfl).trans ?_
  all_goals exact ((am_Y_call (j := 354) (na := 1) (ci := 12) (fl := 0) rfl rfl rfl).trans (cj_d ⟨⟨Nat.le_of_ble_eq_true rfl, Nat.le_of_ble_eq_true rfl, Nat.le_of_ble_eq_true rfl, rfl⟩, Or.inr (Or.inr (show (12 : Nat) < 20 ∧ am_is h (some 93) 12 from ⟨by decide, (la_is Lh (o := 93) rfl)⟩))⟩ Iff.rfl))

theorem b_X12_repair_9 {d : Nat} {Q : Option am_V → am_H → Prop} (h : am_H) (l0 l1 l2 l3 : Option am_V) : ex_ d 356 9 [l0, l1, l2, l3] [] h Q ↔ Q (some (v_i (-3 : Int32))) h := by
  unfold ex_
  refine (am_Y_go 1 (ok := []) (g := (11, [l0, l1, l2, l3], [v_i (-3 : Int32)], h)) rfl).trans ?_
  all_goals exact ((am_Y_ret rfl rfl rfl).trans (am_r0))

theorem b_X12_repair_17 {d : Nat} {Q : Option am_V → am_H → Prop} (h : am_H) (s0 : Int32) (s1 : Int32) (l0 l1 l2 l3 : Option am_V) : ex_ d 356 17 [l0, l1, l2, l3] [v_i s0, v_i s1] h Q ↔ if s1 < s0 then ex_ d 356 22 [l0, l1, l2, l3] [] h Q else ex_ d 356 20 [l0, l1, l2, l3] [] h Q := by
  unfold ex_
  refine (am_Y_go 1 (ok := []) (g := (if s1 < s0 then 22 else 20, [l0, l1, l2, l3], [], h)) rfl).trans ?_
  all_goals exact am_Y_if

theorem b_X12_repair_22 {d : Nat} {Q : Option am_V → am_H → Prop} (h : am_H) (x1 : Int32) (l2 l3 : Option am_V) (Lh : Lay h) : ex_ d 356 22 [some (v_r (some 93)), some (v_i x1), l2, l3] [] h Q ↔ vp_in x1 3 ∧ ex_ d 356 31 [some (v_r (some 93)), some (v_i x1), some (v_i (h_i h 113 (Int32.toNatClampNeg x1))), some (v_i (0 : Int32))] [] h Q := by
  have e0 : h_r h 93 36 = some 113 := la_r Lh (q := (93, 36, 113)) (by decide)
  unfold ex_
  refine (am_Y_go 7 (ok := [am_is h (some 93) 12, am_ar h ((h_r h 93 36)) 20 x1]) (g := (31, [some (v_r (some 93)), some (v_i x1), some (v_i (h_i h ((h_r h 93 36).getD 0) (Int32.toNatClampNeg x1))), some (v_i (0 : Int32))], [], h)) rfl).trans ?_
  simp only [e0, Option.getD_some, am_all]
  all_goals exact cj_d (la_is Lh (o := 93) rfl) (cj_k (la_ar Lh (o := 113) rfl) (Iff.rfl))

theorem b_X12_repair_20 {d : Nat} {Q : Option am_V → am_H → Prop} (h : am_H) (l0 l1 l2 l3 : Option am_V) : ex_ d 356 20 [l0, l1, l2, l3] [] h Q ↔ Q (some (v_i (-1 : Int32))) h := by
  unfold ex_
  refine (am_Y_go 1 (ok := []) (g := (21, [l0, l1, l2, l3], [v_i (-1 : Int32)], h)) rfl).trans ?_
  all_goals exact ((am_Y_ret rfl rfl rfl).trans (am_r0))

theorem b_X12_repair_31 {d : Nat} {Q : Option am_V → am_H → Prop} (h : am_H) (x2 : Int32) (x3 : Int32) (l1 : Option am_V) (Lh : Lay h) : ex_ d 356 31 [some (v_r (some 93)), l1, some (v_i x2), some (v_i x3)] [] h Q ↔ vp_in ((8 : Int32) + x3) 7053 ∧ (if x2 < (h_i h 94 (Int32.toNatClampNeg ((8 : Int32) + x3))) then ex_ d 356 62 [some (v_r (some 93)), l1, some (v_i x2), some (v_i x3)] [] h Q else ex_ d 356 44 [some (v_r (some 93)), l1, some (v_i x2), some (v_i x3)] [] h Q) := by
  have e0 : h_r h 93 1 = some 94 := la_r Lh (q := (93, 1, 94)) (by decide)
  unfold ex_
  refine (am_Y_go 8 (ok := [am_is h (some 93) 12, am_ar h ((h_r h 93 1)) 20 ((8 : Int32) + x3)]) (g := (if x2 < (h_i h ((h_r h 93 1).getD 0) (Int32.toNatClampNeg ((8 : Int32) + x3))) then 62 else 44, [some (v_r (some 93)), l1, some (v_i x2), some (v_i x3)], [], h)) rfl).trans ?_
  simp only [e0, Option.getD_some, am_all]
  all_goals exact cj_d (la_is Lh (o := 93) rfl) (cj_k (la_ar Lh (o := 94) rfl) (am_Y_if))

theorem b_X12_repair_62 {d : Nat} {Q : Option am_V → am_H → Prop} (h : am_H) (x3 : Int32) (x2 : Int32) (l1 : Option am_V) (Lh : Lay h) : ex_ (d + 1) 356 62 [some (v_r (some 93)), l1, some (v_i x2), some (v_i x3)] [] h Q ↔ ex_ d 264 0 [some (v_r (some 93)), some (v_i x3), some (v_i x2)] [] h (fun r h' => ex_ (d + 1) 356 72 [some (v_r (some 93)), l1, some (v_i x2), some (v_i x3)] (r.toList ++ [v_i ((10 : Int32) * x3)]) h' Q) := by
  unfold ex_
  refine (am_Y_go 6 (ok := []) (g := (69, [some (v_r (some 93)), l1, some (v_i x2), some (v_i x3)], [v_i x2, v_i x3, v_r (some 93), v_i ((10 : Int32) * x3)], h)) rfl).trans ?_
  all_goals exact ((am_Y_call (j := 264) (na := 3) (ci := 12) (fl := 0) rfl rfl rfl).trans (cj_d ⟨⟨Nat.le_of_ble_eq_true rfl, Nat.le_of_ble_eq_true rfl, Nat.le_of_ble_eq_true rfl, rfl⟩, Or.inr (Or.inr (show (12 : Nat) < 20 ∧ am_is h (some 93) 12 from ⟨by decide, (la_is Lh (o := 93) rfl)⟩))⟩ Iff.rfl))

theorem b_X12_repair_44 {d : Nat} {Q : Option am_V → am_H → Prop} (h : am_H) (x2 : Int32) (x3 : Int32) (l1 : Option am_V) (Lh : Lay h) : ex_ d 356 44 [some (v_r (some 93)), l1, some (v_i x2), some (v_i x3)] [] h Q ↔ vp_in ((8 : Int32) + x3) 7053 ∧ ex_ d 356 31 [some (v_r (some 93)), l1, some (v_i (x2 - (h_i h 94 (Int32.toNatClampNeg ((8 : Int32) + x3))))), some (v_i (x3 + (1 : Int32)))] [] h Q := by
  have e0 : h_r h 93 1 = some 94 := la_r Lh (q := (93, 1, 94)) (by decide)
  unfold ex_
  refine (am_Y_go 11 (ok := [am_is h (some 93) 12, am_ar h ((h_r h 93 1)) 20 ((8 : Int32) + x3)]) (g := (31, [some (v_r (some 93)), l1, some (v_i (x2 - (h_i h ((h_r h 93 1).getD 0) (Int32.toNatClampNeg ((8 : Int32) + x3))))), some (v_i (x3 + (1 : Int32)))], [], h)) rfl).trans ?_
  simp only [e0, Option.getD_some, am_all]
  all_goals exact cj_d (la_is Lh (o := 93) rfl) (cj_k (la_ar Lh (o := 94) rfl) (Iff.rfl))

theorem b_X12_repair_72 {d : Nat} {Q : Option am_V → am_H → Prop} (h : am_H) (s0 : Int32) (s1 : Int32) (l0 l1 l2 l3 : Option am_V) : ex_ d 356 72 [l0, l1, l2, l3] [v_i s0, v_i s1] h Q ↔ Q (some (v_i (s1 + s0))) h := by
  unfold ex_
  refine (am_Y_go 1 (ok := []) (g := (73, [l0, l1, l2, l3], [v_i (s1 + s0)], h)) rfl).trans ?_
  all_goals exact ((am_Y_ret rfl rfl rfl).trans (am_r0))

theorem b_X12_noTold_0 {d : Nat} {Q : Option am_V → am_H → Prop} (h : am_H) (x1 : Int32) (l2 l3 l4 l5 : Option am_V) (Lh : Lay h) : ex_ (d + 1) 357 0 [some (v_r (some 93)), some (v_i x1), l2, l3, l4, l5] [] h Q ↔ ex_ d 303 0 [some (v_r (some 93)), some (v_i x1)] [] h (fun r h' => ex_ (d + 1) 357 5 [some (v_r (some 93)), some (v_i x1), l2, l3, l4, l5] (r.toList ++ []) h' Q) := by
  unfold ex_
  refine (am_Y_go 2 (ok := []) (g := (2, [some (v_r (some 93)), some (v_i x1), l2, l3, l4, l5], [v_i x1, v_r (some 93)], h)) rfl).trans ?_
  all_goals exact ((am_Y_call (j := 303) (na := 2) (ci := 12) (fl := 0) rfl rfl rfl).trans (cj_d ⟨⟨Nat.le_of_ble_eq_true rfl, Nat.le_of_ble_eq_true rfl, Nat.le_of_ble_eq_true rfl, rfl⟩, Or.inr (Or.inr (show (12 : Nat) < 20 ∧ am_is h (some 93) 12 from ⟨by decide, (la_is Lh (o := 93) rfl)⟩))⟩ Iff.rfl))

theorem b_X12_noTold_5 {d : Nat} {Q : Option am_V → am_H → Prop} (h : am_H) (s0 : Int32) (l0 l1 l2 l3 l4 l5 : Option am_V) : ex_ d 357 5 [l0, l1, l2, l3, l4, l5] [v_i s0] h Q ↔ if s0 = 0 then ex_ d 357 12 [l0, l1, some (v_i s0), l3, l4, l5] [] h Q else ex_ d 357 10 [l0, l1, some (v_i s0), l3, l4, l5] [] h Q := by
  unfold ex_
  refine (am_Y_go 3 (ok := []) (g := (if s0 = 0 then 12 else 10, [l0, l1, some (v_i s0), l3, l4, l5], [], h)) rfl).trans ?_
  all_goals exact am_Y_if

theorem b_X12_noTold_12 {d : Nat} {Q : Option am_V → am_H → Prop} (h : am_H) (x1 : Int32) (l2 l3 l4 l5 : Option am_V) (Lh : Lay h) : ex_ (d + 1) 357 12 [some (v_r (some 93)), some (v_i x1), l2, l3, l4, l5] [] h Q ↔ vp_in x1 4 ∧ ex_ d 229 0 [some (v_l (Int32.toInt64 (h_i h 116 (Int32.toNatClampNeg x1)))), none, some (v_l (1 : Int64)), none, some (v_l (8 : Int64)), none] [] h (fun r h' => ex_ (d + 1) 357 26 [some (v_r (some 93)), some (v_i x1), l2, l3, l4, l5] (r.toList ++ []) h' Q) := by
  have e0 : h_r h 93 42 = some 116 := la_r Lh (q := (93, 42, 116)) (by decide)
  unfold ex_
  refine (am_Y_go 7 (ok := [am_is h (some 93) 12, am_ar h ((h_r h 93 42)) 20 x1]) (g := (23, [some (v_r (some 93)), some (v_i x1), l2, l3, l4, l5], [v_l (8 : Int64), v_l (1 : Int64), v_l (Int32.toInt64 (h_i h ((h_r h 93 42).getD 0) (Int32.toNatClampNeg x1)))], h)) rfl).trans ?_
  simp only [e0, Option.getD_some, am_all]
  all_goals exact cj_d (la_is Lh (o := 93) rfl) (cj_k (la_ar Lh (o := 116) rfl) (((am_Y_call (j := 229) (na := 3) (ci := 12) (fl := 2) rfl rfl rfl).trans (cj_d ⟨⟨Nat.le_of_ble_eq_true rfl, Nat.le_of_ble_eq_true rfl, Nat.le_of_ble_eq_true rfl, rfl⟩, Or.inl rfl⟩ Iff.rfl))))

theorem b_X12_noTold_10 {d : Nat} {Q : Option am_V → am_H → Prop} (h : am_H) (x2 : Int32) (l0 l1 l3 l4 l5 : Option am_V) : ex_ d 357 10 [l0, l1, some (v_i x2), l3, l4, l5] [] h Q ↔ Q (some (v_i x2)) h := by
  unfold ex_
  refine (am_Y_go 1 (ok := []) (g := (11, [l0, l1, some (v_i x2), l3, l4, l5], [v_i x2], h)) rfl).trans ?_
  all_goals exact ((am_Y_ret rfl rfl rfl).trans (am_r0))

theorem b_X12_noTold_26 {d : Nat} {Q : Option am_V → am_H → Prop} (h : am_H) (s0 : Int32) (l0 l1 l2 l3 l4 l5 : Option am_V) : ex_ d 357 26 [l0, l1, l2, l3, l4, l5] [v_i s0] h Q ↔ if ¬ s0 = 0 then ex_ d 357 32 [l0, l1, l2, l3, l4, l5] [] h Q else ex_ d 357 29 [l0, l1, l2, l3, l4, l5] [] h Q := by
  unfold ex_
  refine (am_Y_go 1 (ok := []) (g := (if ¬ s0 = 0 then 32 else 29, [l0, l1, l2, l3, l4, l5], [], h)) rfl).trans ?_
  all_goals exact am_Y_if

theorem b_X12_noTold_32 {d : Nat} {Q : Option am_V → am_H → Prop} (h : am_H) (l1 l2 l3 l4 l5 : Option am_V) (Lh : Lay h) : ex_ (d + 1) 357 32 [some (v_r (some 93)), l1, l2, l3, l4, l5] [] h Q ↔ ex_ d 271 0 [some (v_r (some 93)), none] [] h (fun r h' => ex_ (d + 1) 357 36 [some (v_r (some 93)), l1, l2, l3, l4, l5] (r.toList ++ []) h' Q) := by
  unfold ex_
  refine (am_Y_go 1 (ok := []) (g := (33, [some (v_r (some 93)), l1, l2, l3, l4, l5], [v_r (some 93)], h)) rfl).trans ?_
  all_goals exact ((am_Y_call (j := 271) (na := 1) (ci := 12) (fl := 0) rfl rfl rfl).trans (cj_d ⟨⟨Nat.le_of_ble_eq_true rfl, Nat.le_of_ble_eq_true rfl, Nat.le_of_ble_eq_true rfl, rfl⟩, Or.inr (Or.inr (show (12 : Nat) < 20 ∧ am_is h (some 93) 12 from ⟨by decide, (la_is Lh (o := 93) rfl)⟩))⟩ Iff.rfl))

theorem b_X12_noTold_29 {d : Nat} {Q : Option am_V → am_H → Prop} (h : am_H) (l0 l1 l2 l3 l4 l5 : Option am_V) : ex_ d 357 29 [l0, l1, l2, l3, l4, l5] [] h Q ↔ Q (some (v_i (-4 : Int32))) h := by
  unfold ex_
  refine (am_Y_go 1 (ok := []) (g := (31, [l0, l1, l2, l3, l4, l5], [v_i (-4 : Int32)], h)) rfl).trans ?_
  all_goals exact ((am_Y_ret rfl rfl rfl).trans (am_r0))

theorem b_X12_noTold_36 {d : Nat} {Q : Option am_V → am_H → Prop} (h : am_H) (l0 l1 l2 l3 l4 l5 : Option am_V) : ex_ d 357 36 [l0, l1, l2, l3, l4, l5] [] h Q ↔ ex_ d 357 38 [l0, l1, l2, some (v_i (0 : Int32)), l4, l5] [] h Q := by
  unfold ex_
  refine (am_Y_go 2 (ok := []) (g := (38, [l0, l1, l2, some (v_i (0 : Int32)), l4, l5], [], h)) rfl).trans ?_
  all_goals exact Iff.rfl

theorem b_X12_noTold_38 {d : Nat} {Q : Option am_V → am_H → Prop} (h : am_H) (x3 : Int32) (x1 : Int32) (l2 l4 l5 : Option am_V) (Lh : Lay h) : ex_ d 357 38 [some (v_r (some 93)), some (v_i x1), l2, some (v_i x3), l4, l5] [] h Q ↔ vp_in x1 4 ∧ (if (h_i h 116 (Int32.toNatClampNeg x1)) ≤ x3 then ex_ d 357 121 [some (v_r (some 93)), some (v_i x1), l2, some (v_i x3), l4, l5] [] h Q else ex_ d 357 48 [some (v_r (some 93)), some (v_i x1), l2, some (v_i x3), l4, l5] [] h Q) := by
  have e0 : h_r h 93 42 = some 116 := la_r Lh (q := (93, 42, 116)) (by decide)
  unfold ex_
  refine (am_Y_go 6 (ok := [am_is h (some 93) 12, am_ar h ((h_r h 93 42)) 20 x1]) (g := (if (h_i h ((h_r h 93 42).getD 0) (Int32.toNatClampNeg x1)) ≤ x3 then 121 else 48, [some (v_r (some 93)), some (v_i x1), l2, some (v_i x3), l4, l5], [], h)) rfl).trans ?_
  simp only [e0, Option.getD_some, am_all]
  all_goals exact cj_d (la_is Lh (o := 93) rfl) (cj_k (la_ar Lh (o := 116) rfl) (am_Y_if))

theorem b_X12_noTold_121 {d : Nat} {Q : Option am_V → am_H → Prop} (h : am_H) (l0 l1 l2 l3 l4 l5 : Option am_V) : ex_ d 357 121 [l0, l1, l2, l3, l4, l5] [] h Q ↔ Q (some (v_i (0 : Int32))) h := by
  unfold ex_
  refine (am_Y_go 1 (ok := []) (g := (122, [l0, l1, l2, l3, l4, l5], [v_i (0 : Int32)], h)) rfl).trans ?_
  all_goals exact ((am_Y_ret rfl rfl rfl).trans (am_r0))

theorem b_X12_noTold_48 {d : Nat} {Q : Option am_V → am_H → Prop} (h : am_H) (x1 : Int32) (x3 : Int32) (l2 l4 l5 : Option am_V) (Lh : Lay h) : ex_ d 357 48 [some (v_r (some 93)), some (v_i x1), l2, some (v_i x3), l4, l5] [] h Q ↔ vp_in (((40 : Int32) * x1) + x3) 160 ∧ (if (lg_cmp (h_j h 117 (Int32.toNatClampNeg (((40 : Int32) * x1) + x3))) (0 : Int64)) < 0 then ex_ d 357 112 [some (v_r (some 93)), some (v_i x1), l2, some (v_i x3), some (v_l (h_j h 117 (Int32.toNatClampNeg (((40 : Int32) * x1) + x3)))), none] [] h Q else ex_ d 357 68 [some (v_r (some 93)), some (v_i x1), l2, some (v_i x3), some (v_l (h_j h 117 (Int32.toNatClampNeg (((40 : Int32) * x1) + x3)))), none] [] h Q) := by
  have e0 : h_r h 93 43 = some 117 := la_r Lh (q := (93, 43, 117)) (by decide)
  unfold ex_
  refine (am_Y_go 13 (ok := [am_is h (some 93) 12, am_ar h ((h_r h 93 43)) 23 (((40 : Int32) * x1) + x3)]) (g := (if (lg_cmp (h_j h ((h_r h 93 43).getD 0) (Int32.toNatClampNeg (((40 : Int32) * x1) + x3))) (0 : Int64)) < 0 then 112 else 68, [some (v_r (some 93)), some (v_i x1), l2, some (v_i x3), some (v_l (h_j h ((h_r h 93 43).getD 0) (Int32.toNatClampNeg (((40 : Int32) * x1) + x3)))), none], [], h)) rfl).trans ?_
  simp only [e0, Option.getD_some, am_all]
  all_goals exact cj_d (la_is Lh (o := 93) rfl) (cj_k (la_ar Lh (o := 117) rfl) (am_Y_if))

theorem b_X12_noTold_112 {d : Nat} {Q : Option am_V → am_H → Prop} (h : am_H) (l0 l1 l2 l3 l4 l5 : Option am_V) : ex_ d 357 112 [l0, l1, l2, l3, l4, l5] [] h Q ↔ Q (some (v_i (-3 : Int32))) h := by
  unfold ex_
  refine (am_Y_go 1 (ok := []) (g := (114, [l0, l1, l2, l3, l4, l5], [v_i (-3 : Int32)], h)) rfl).trans ?_
  all_goals exact ((am_Y_ret rfl rfl rfl).trans (am_r0))

theorem b_X12_noTold_68 {d : Nat} {Q : Option am_V → am_H → Prop} (h : am_H) (x4 : Int64) (l1 l2 l3 l5 : Option am_V) (Lh : Lay h) : ex_ (d + 1) 357 68 [some (v_r (some 93)), l1, l2, l3, some (v_l x4), l5] [] h Q ↔ ex_ d 262 0 [some (v_r (some 93)), some (v_l (x4 / (10000000 : Int64))), none] [] h (fun r h' => ex_ (d + 1) 357 78 [some (v_r (some 93)), l1, l2, l3, some (v_l x4), l5] (r.toList ++ []) h' Q) := by
  unfold ex_
  refine (am_Y_go 4 (ok := [¬ (10000000 : Int64) = 0]) (g := (75, [some (v_r (some 93)), l1, l2, l3, some (v_l x4), l5], [v_l (x4 / (10000000 : Int64)), v_r (some 93)], h)) rfl).trans ?_
  simp only [am_all]
  all_goals exact cj_d (by decide) (((am_Y_call (j := 262) (na := 2) (ci := 12) (fl := 0) rfl rfl rfl).trans (cj_d ⟨⟨Nat.le_of_ble_eq_true rfl, Nat.le_of_ble_eq_true rfl, Nat.le_of_ble_eq_true rfl, rfl⟩, Or.inr (Or.inr (show (12 : Nat) < 20 ∧ am_is h (some 93) 12 from ⟨by decide, (la_is Lh (o := 93) rfl)⟩))⟩ Iff.rfl)))

theorem b_X12_noTold_78 {d : Nat} {Q : Option am_V → am_H → Prop} (h : am_H) (s0 : Int32) (l0 l1 l2 l3 l4 l5 : Option am_V) : ex_ d 357 78 [l0, l1, l2, l3, l4, l5] [v_i s0] h Q ↔ if s0 = 0 then ex_ d 357 112 [l0, l1, l2, l3, l4, l5] [] h Q else ex_ d 357 81 [l0, l1, l2, l3, l4, l5] [] h Q := by
  unfold ex_
  refine (am_Y_go 1 (ok := []) (g := (if s0 = 0 then 112 else 81, [l0, l1, l2, l3, l4, l5], [], h)) rfl).trans ?_
  all_goals exact am_Y_if

theorem b_X12_noTold_81 {d : Nat} {Q : Option am_V → am_H → Prop} (h : am_H) (x4 : Int64) (l1 l2 l3 l5 : Option am_V) (Lh : Lay h) : ex_ d 357 81 [some (v_r (some 93)), l1, l2, l3, some (v_l x4), l5] [] h Q ↔ vp_in (Int64.toInt32 (x4 / (10000000 : Int64))) 11 ∧ (if ¬ (h_i h 100 (Int32.toNatClampNeg (Int64.toInt32 (x4 / (10000000 : Int64))))) = 0 then ex_ d 357 112 [some (v_r (some 93)), l1, l2, l3, some (v_l x4), l5] [] h Q else ex_ d 357 96 [some (v_r (some 93)), l1, l2, l3, some (v_l x4), l5] [] h Q) := by
  have e0 : h_r h 93 18 = some 100 := la_r Lh (q := (93, 18, 100)) (by decide)
  unfold ex_
  refine (am_Y_go 8 (ok := [am_is h (some 93) 12, ¬ (10000000 : Int64) = 0, am_ar h ((h_r h 93 18)) 20 (Int64.toInt32 (x4 / (10000000 : Int64)))]) (g := (if ¬ (h_i h ((h_r h 93 18).getD 0) (Int32.toNatClampNeg (Int64.toInt32 (x4 / (10000000 : Int64))))) = 0 then 112 else 96, [some (v_r (some 93)), l1, l2, l3, some (v_l x4), l5], [], h)) rfl).trans ?_
  simp only [e0, Option.getD_some, am_all]
  all_goals exact cj_d (la_is Lh (o := 93) rfl) (cj_d (by decide) (cj_k (la_ar Lh (o := 100) rfl) (am_Y_if)))

theorem b_X12_noTold_96 {d : Nat} {Q : Option am_V → am_H → Prop} (h : am_H) (x4 : Int64) (l0 l1 l2 l3 l5 : Option am_V) : ex_ (d + 1) 357 96 [l0, l1, l2, l3, some (v_l x4), l5] [] h Q ↔ ex_ d 263 0 [some (v_l ((x4 - x4 / (10000000 : Int64) * (10000000 : Int64)) / (100000 : Int64))), none] [] h (fun r h' => ex_ (d + 1) 357 109 [l0, l1, l2, l3, some (v_l x4), l5] (r.toList ++ []) h' Q) := by
  unfold ex_
  refine (am_Y_go 5 (ok := [¬ (10000000 : Int64) = 0, ¬ (100000 : Int64) = 0]) (g := (106, [l0, l1, l2, l3, some (v_l x4), l5], [v_l ((x4 - x4 / (10000000 : Int64) * (10000000 : Int64)) / (100000 : Int64))], h)) rfl).trans ?_
  simp only [am_all]
  all_goals exact cj_d (by decide) (cj_d (by decide) (((am_Y_call (j := 263) (na := 1) (ci := 12) (fl := 2) rfl rfl rfl).trans (cj_d ⟨⟨Nat.le_of_ble_eq_true rfl, Nat.le_of_ble_eq_true rfl, Nat.le_of_ble_eq_true rfl, rfl⟩, Or.inl rfl⟩ Iff.rfl))))

theorem b_X12_noTold_109 {d : Nat} {Q : Option am_V → am_H → Prop} (h : am_H) (s0 : Int32) (l0 l1 l2 l3 l4 l5 : Option am_V) : ex_ d 357 109 [l0, l1, l2, l3, l4, l5] [v_i s0] h Q ↔ if ¬ s0 = 0 then ex_ d 357 115 [l0, l1, l2, l3, l4, l5] [] h Q else ex_ d 357 112 [l0, l1, l2, l3, l4, l5] [] h Q := by
  unfold ex_
  refine (am_Y_go 1 (ok := []) (g := (if ¬ s0 = 0 then 115 else 112, [l0, l1, l2, l3, l4, l5], [], h)) rfl).trans ?_
  all_goals exact am_Y_if

theorem b_X12_noTold_115 {d : Nat} {Q : Option am_V → am_H → Prop} (h : am_H) (x3 : Int32) (l0 l1 l2 l4 l5 : Option am_V) : ex_ d 357 115 [l0, l1, l2, some (v_i x3), l4, l5] [] h Q ↔ ex_ d 357 38 [l0, l1, l2, some (v_i (x3 + (1 : Int32))), l4, l5] [] h Q := by
  unfold ex_
  refine (am_Y_go 2 (ok := []) (g := (38, [l0, l1, l2, some (v_i (x3 + (1 : Int32))), l4, l5], [], h)) rfl).trans ?_
  all_goals exact Iff.rfl

theorem b_X12_moodsOf_0 {d : Nat} {Q : Option am_V → am_H → Prop} (h : am_H) (l0 l1 l2 l3 l4 l5 l6 : Option am_V) : ex_ d 358 0 [l0, l1, l2, l3, l4, l5, l6] [] h Q ↔ ex_ d 358 4 [l0, l1, some (v_i (0 : Int32)), some (v_i (0 : Int32)), l4, l5, l6] [] h Q := by
  unfold ex_
  refine (am_Y_go 4 (ok := []) (g := (4, [l0, l1, some (v_i (0 : Int32)), some (v_i (0 : Int32)), l4, l5, l6], [], h)) rfl).trans ?_
  all_goals exact Iff.rfl

theorem b_X12_moodsOf_4 {d : Nat} {Q : Option am_V → am_H → Prop} (h : am_H) (x3 : Int32) (l0 l1 l2 l4 l5 l6 : Option am_V) : ex_ d 358 4 [l0, l1, l2, some (v_i x3), l4, l5, l6] [] h Q ↔ if (10 : Int32) ≤ x3 then ex_ d 358 113 [l0, l1, l2, some (v_i x3), l4, l5, l6] [] h Q else ex_ d 358 10 [l0, l1, l2, some (v_i x3), l4, l5, l6] [] h Q := by
  unfold ex_
  refine (am_Y_go 3 (ok := []) (g := (if (10 : Int32) ≤ x3 then 113 else 10, [l0, l1, l2, some (v_i x3), l4, l5, l6], [], h)) rfl).trans ?_
  all_goals exact am_Y_if

theorem b_X12_moodsOf_113 {d : Nat} {Q : Option am_V → am_H → Prop} (h : am_H) (x2 : Int32) (l0 l1 l3 l4 l5 l6 : Option am_V) : ex_ d 358 113 [l0, l1, some (v_i x2), l3, l4, l5, l6] [] h Q ↔ Q (some (v_i x2)) h := by
  unfold ex_
  refine (am_Y_go 1 (ok := []) (g := (114, [l0, l1, some (v_i x2), l3, l4, l5, l6], [v_i x2], h)) rfl).trans ?_
  all_goals exact ((am_Y_ret rfl rfl rfl).trans (am_r0))

theorem b_X12_moodsOf_10 {d : Nat} {Q : Option am_V → am_H → Prop} (h : am_H) (l0 l1 l2 l3 l4 l5 l6 : Option am_V) : ex_ d 358 10 [l0, l1, l2, l3, l4, l5, l6] [] h Q ↔ ex_ d 358 16 [l0, l1, l2, l3, some (v_i (1 : Int32)), some (v_i (0 : Int32)), l6] [] h Q := by
  unfold ex_
  refine (am_Y_go 4 (ok := []) (g := (16, [l0, l1, l2, l3, some (v_i (1 : Int32)), some (v_i (0 : Int32)), l6], [], h)) rfl).trans ?_
  all_goals exact Iff.rfl

theorem b_X12_moodsOf_16 {d : Nat} {Q : Option am_V → am_H → Prop} (h : am_H) (x5 : Int32) (x1 : Int32) (l2 l3 l4 l6 : Option am_V) (Lh : Lay h) : ex_ d 358 16 [some (v_r (some 93)), some (v_i x1), l2, l3, l4, some (v_i x5), l6] [] h Q ↔ vp_in x1 4 ∧ (if (h_i h 116 (Int32.toNatClampNeg x1)) ≤ x5 then ex_ d 358 92 [some (v_r (some 93)), some (v_i x1), l2, l3, l4, some (v_i x5), l6] [] h Q else ex_ d 358 27 [some (v_r (some 93)), some (v_i x1), l2, l3, l4, some (v_i x5), l6] [] h Q) := by
  have e0 : h_r h 93 42 = some 116 := la_r Lh (q := (93, 42, 116)) (by decide)
  unfold ex_
  refine (am_Y_go 6 (ok := [am_is h (some 93) 12, am_ar h ((h_r h 93 42)) 20 x1]) (g := (if (h_i h ((h_r h 93 42).getD 0) (Int32.toNatClampNeg x1)) ≤ x5 then 92 else 27, [some (v_r (some 93)), some (v_i x1), l2, l3, l4, some (v_i x5), l6], [], h)) rfl).trans ?_
  simp only [e0, Option.getD_some, am_all]
  all_goals exact cj_d (la_is Lh (o := 93) rfl) (cj_k (la_ar Lh (o := 116) rfl) (am_Y_if))

theorem b_X12_moodsOf_92 {d : Nat} {Q : Option am_V → am_H → Prop} (h : am_H) (x2 : Int32) (x4 : Int32) (l0 l1 l3 l5 l6 : Option am_V) : ex_ d 358 92 [l0, l1, some (v_i x2), l3, some (v_i x4), l5, l6] [] h Q ↔ if x4 = 0 then ex_ d 358 104 [l0, l1, some (v_i x2), l3, some (v_i x4), l5, l6] [v_i x2] h Q else ex_ d 358 98 [l0, l1, some (v_i x2), l3, some (v_i x4), l5, l6] [v_i x2] h Q := by
  unfold ex_
  refine (am_Y_go 3 (ok := []) (g := (if x4 = 0 then 104 else 98, [l0, l1, some (v_i x2), l3, some (v_i x4), l5, l6], [v_i x2], h)) rfl).trans ?_
  all_goals exact am_Y_if

theorem b_X12_moodsOf_27 {d : Nat} {Q : Option am_V → am_H → Prop} (h : am_H) (x1 : Int32) (x5 : Int32) (x4 : Int32) (x3 : Int32) (l2 l6 : Option am_V) (Lh : Lay h) : ex_ (d + 1) 358 27 [some (v_r (some 93)), some (v_i x1), l2, some (v_i x3), some (v_i x4), some (v_i x5), l6] [] h Q ↔ vp_in (((40 : Int32) * x1) + x5) 160 ∧ ex_ d 336 0 [some (v_r (some 93)), some (v_i ((Int64.toInt32 (h_j h 117 (Int32.toNatClampNeg (((40 : Int32) * x1) + x5)))) / (10000000 : Int32))), some (v_i (((Int64.toInt32 (h_j h 117 (Int32.toNatClampNeg (((40 : Int32) * x1) + x5)))) - (Int64.toInt32 (h_j h 117 (Int32.toNatClampNeg (((40 : Int32) * x1) + x5)))) / (10000000 : Int32) * (10000000 : Int32)) / (100000 : Int32))), some (v_i x3), none, none] [] h (fun r h' => ex_ (d + 1) 358 65 [some (v_r (some 93)), some (v_i x1), l2, some (v_i x3), some (v_i x4), some (v_i x5), some (v_i (Int64.toInt32 (h_j h 117 (Int32.toNatClampNeg (((40 : Int32) * x1) + x5)))))] (r.toList ++ [v_i x4]) h' Q) := by
  have e0 : h_r h 93 43 = some 117 := la_r Lh (q := (93, 43, 117)) (by decide)
  unfold ex_
  refine (am_Y_go 21 (ok := [am_is h (some 93) 12, am_ar h ((h_r h 93 43)) 23 (((40 : Int32) * x1) + x5), ¬ (10000000 : Int32) = 0, ¬ (10000000 : Int32) = 0, ¬ (100000 : Int32) = 0]) (g := (62, [some (v_r (some 93)), some (v_i x1), l2, some (v_i x3), some (v_i x4), some (v_i x5), some (v_i (Int64.toInt32 (h_j h ((h_r h 93 43).getD 0) (Int32.toNatClampNeg (((40 : Int32) * x1) + x5)))))], [v_i x3, v_i (((Int64.toInt32 (h_j h ((h_r h 93 43).getD 0) (Int32.toNatClampNeg (((40 : Int32) * x1) + x5)))) - (Int64.toInt32 (h_j h ((h_r h 93 43).getD 0) (Int32.toNatClampNeg (((40 : Int32) * x1) + x5)))) / (10000000 : Int32) * (10000000 : Int32)) / (100000 : Int32)), v_i ((Int64.toInt32 (h_j h ((h_r h 93 43).getD 0) (Int32.toNatClampNeg (((40 : Int32) * x1) + x5)))) / (10000000 : Int32)), v_r (some 93), v_i x4], h)) rfl).trans ?_
  simp only [e0, Option.getD_some, am_all]
  all_goals exact cj_d (la_is Lh (o := 93) rfl) (cj_k (la_ar Lh (o := 117) rfl) (cj_d (by decide) (cj_d (by decide) (cj_d (by decide) (((am_Y_call (j := 336) (na := 4) (ci := 12) (fl := 0) rfl rfl rfl).trans (cj_d ⟨⟨Nat.le_of_ble_eq_true rfl, Nat.le_of_ble_eq_true rfl, Nat.le_of_ble_eq_true rfl, rfl⟩, Or.inr (Or.inr (show (12 : Nat) < 20 ∧ am_is h (some 93) 12 from ⟨by decide, (la_is Lh (o := 93) rfl)⟩))⟩ Iff.rfl)))))))

theorem b_X12_moodsOf_104 {d : Nat} {Q : Option am_V → am_H → Prop} (h : am_H) (s0 : Int32) (x3 : Int32) (l0 l1 l2 l4 l5 l6 : Option am_V) : ex_ d 358 104 [l0, l1, l2, some (v_i x3), l4, l5, l6] [v_i s0] h Q ↔ ex_ d 358 4 [l0, l1, some (v_i (s0 ||| (0 : Int32))), some (v_i (x3 + (1 : Int32))), l4, l5, l6] [] h Q := by
  unfold ex_
  refine (am_Y_go 5 (ok := []) (g := (4, [l0, l1, some (v_i (s0 ||| (0 : Int32))), some (v_i (x3 + (1 : Int32))), l4, l5, l6], [], h)) rfl).trans ?_
  all_goals exact Iff.rfl

theorem b_X12_moodsOf_98 {d : Nat} {Q : Option am_V → am_H → Prop} (h : am_H) (s0 : Int32) (x3 : Int32) (l0 l1 l2 l4 l5 l6 : Option am_V) : ex_ d 358 98 [l0, l1, l2, some (v_i x3), l4, l5, l6] [v_i s0] h Q ↔ ex_ d 358 4 [l0, l1, some (v_i (s0 ||| ((1 : Int32) <<< (x3 &&& 31)))), some (v_i (x3 + (1 : Int32))), l4, l5, l6] [] h Q := by
  unfold ex_
  refine (am_Y_go 8 (ok := []) (g := (4, [l0, l1, some (v_i (s0 ||| ((1 : Int32) <<< (x3 &&& 31)))), some (v_i (x3 + (1 : Int32))), l4, l5, l6], [], h)) rfl).trans ?_
  all_goals exact Iff.rfl

theorem b_X12_moodsOf_65 {d : Nat} {Q : Option am_V → am_H → Prop} (h : am_H) (s0 : Int32) (s1 : Int32) (x6 : Int32) (l0 l1 l2 l3 l4 l5 : Option am_V) : ex_ d 358 65 [l0, l1, l2, l3, l4, l5, some (v_i x6)] [v_i s0, v_i s1] h Q ↔ if ¬ s0 = ((x6 - x6 / (100000 : Int32) * (100000 : Int32)) - (50000 : Int32)) then ex_ d 358 82 [l0, l1, l2, l3, l4, l5, some (v_i x6)] [v_i s1] h Q else ex_ d 358 78 [l0, l1, l2, l3, l4, l5, some (v_i x6)] [v_i s1] h Q := by
  unfold ex_
  refine (am_Y_go 6 (ok := [¬ (100000 : Int32) = 0]) (g := (if ¬ s0 = ((x6 - x6 / (100000 : Int32) * (100000 : Int32)) - (50000 : Int32)) then 82 else 78, [l0, l1, l2, l3, l4, l5, some (v_i x6)], [v_i s1], h)) rfl).trans ?_
  simp only [am_all]
  all_goals exact cj_d (by decide) (am_Y_if)

theorem b_X12_moodsOf_82 {d : Nat} {Q : Option am_V → am_H → Prop} (h : am_H) (s0 : Int32) (x5 : Int32) (l0 l1 l2 l3 l4 l6 : Option am_V) : ex_ d 358 82 [l0, l1, l2, l3, l4, some (v_i x5), l6] [v_i s0] h Q ↔ ex_ d 358 16 [l0, l1, l2, l3, some (v_i (s0 &&& (0 : Int32))), some (v_i (x5 + (1 : Int32))), l6] [] h Q := by
  unfold ex_
  refine (am_Y_go 5 (ok := []) (g := (16, [l0, l1, l2, l3, some (v_i (s0 &&& (0 : Int32))), some (v_i (x5 + (1 : Int32))), l6], [], h)) rfl).trans ?_
  all_goals exact Iff.rfl

theorem b_X12_moodsOf_78 {d : Nat} {Q : Option am_V → am_H → Prop} (h : am_H) (s0 : Int32) (x5 : Int32) (l0 l1 l2 l3 l4 l6 : Option am_V) : ex_ d 358 78 [l0, l1, l2, l3, l4, some (v_i x5), l6] [v_i s0] h Q ↔ ex_ d 358 16 [l0, l1, l2, l3, some (v_i (s0 &&& (1 : Int32))), some (v_i (x5 + (1 : Int32))), l6] [] h Q := by
  unfold ex_
  refine (am_Y_go 6 (ok := []) (g := (16, [l0, l1, l2, l3, some (v_i (s0 &&& (1 : Int32))), some (v_i (x5 + (1 : Int32))), l6], [], h)) rfl).trans ?_
  all_goals exact Iff.rfl

theorem b_X12_moods_0 {d : Nat} {Q : Option am_V → am_H → Prop} (h : am_H) (x1 : Int32) (l2 : Option am_V) (Lh : Lay h) : ex_ (d + 1) 359 0 [some (v_r (some 93)), some (v_i x1), l2] [] h Q ↔ ex_ d 357 0 [some (v_r (some 93)), some (v_i x1), none, none, none, none] [] (p_i h 93 0 (0 : Int32)) (fun r h' => ex_ (d + 1) 359 10 [some (v_r (some 93)), some (v_i x1), l2] (r.toList ++ []) h' Q) := by
  unfold ex_
  refine (am_Y_go 5 (ok := [am_is h (some 93) 12]) (g := (7, [some (v_r (some 93)), some (v_i x1), l2], [v_i x1, v_r (some 93)], (p_i h 93 0 (0 : Int32)))) rfl).trans ?_
  simp only [am_all]
  all_goals exact cj_d (la_is Lh (o := 93) rfl) (((am_Y_call (j := 357) (na := 2) (ci := 12) (fl := 0) rfl rfl rfl).trans (cj_d ⟨⟨Nat.le_of_ble_eq_true rfl, Nat.le_of_ble_eq_true rfl, Nat.le_of_ble_eq_true rfl, rfl⟩, Or.inr (Or.inr (show (12 : Nat) < 20 ∧ am_is h (some 93) 12 from ⟨by decide, (la_is Lh (o := 93) rfl)⟩))⟩ Iff.rfl)))

theorem b_X12_moods_10 {d : Nat} {Q : Option am_V → am_H → Prop} (h : am_H) (s0 : Int32) (l0 l1 l2 : Option am_V) : ex_ d 359 10 [l0, l1, l2] [v_i s0] h Q ↔ if s0 = 0 then ex_ d 359 19 [l0, l1, some (v_i s0)] [] h Q else ex_ d 359 15 [l0, l1, some (v_i s0)] [] h Q := by
  unfold ex_
  refine (am_Y_go 3 (ok := []) (g := (if s0 = 0 then 19 else 15, [l0, l1, some (v_i s0)], [], h)) rfl).trans ?_
  all_goals exact am_Y_if

theorem b_X12_moods_19 {d : Nat} {Q : Option am_V → am_H → Prop} (h : am_H) (x1 : Int32) (l2 : Option am_V) (Lh : Lay h) : ex_ (d + 1) 359 19 [some (v_r (some 93)), some (v_i x1), l2] [] h Q ↔ ex_ d 358 0 [some (v_r (some 93)), some (v_i x1), none, none, none, none, none] [] h (fun r h' => ex_ (d + 1) 359 24 [some (v_r (some 93)), some (v_i x1), l2] (r.toList ++ []) h' Q) := by
  unfold ex_
  refine (am_Y_go 2 (ok := []) (g := (21, [some (v_r (some 93)), some (v_i x1), l2], [v_i x1, v_r (some 93)], h)) rfl).trans ?_
  all_goals exact ((am_Y_call (j := 358) (na := 2) (ci := 12) (fl := 0) rfl rfl rfl).trans (cj_d ⟨⟨Nat.le_of_ble_eq_true rfl, Nat.le_of_ble_eq_true rfl, Nat.le_of_ble_eq_true rfl, rfl⟩, Or.inr (Or.inr (show (12 : Nat) < 20 ∧ am_is h (some 93) 12 from ⟨by decide, (la_is Lh (o := 93) rfl)⟩))⟩ Iff.rfl))

theorem b_X12_moods_15 {d : Nat} {Q : Option am_V → am_H → Prop} (h : am_H) (x2 : Int32) (l0 l1 : Option am_V) : ex_ d 359 15 [l0, l1, some (v_i x2)] [] h Q ↔ Q (some (v_i x2)) h := by
  unfold ex_
  refine (am_Y_go 2 (ok := []) (g := (24, [l0, l1, some (v_i x2)], [v_i x2], h)) rfl).trans ?_
  all_goals exact ((am_Y_ret rfl rfl rfl).trans (am_r0))

theorem b_X12_moods_24 {d : Nat} {Q : Option am_V → am_H → Prop} (h : am_H) (s0 : Int32) (l0 l1 l2 : Option am_V) : ex_ d 359 24 [l0, l1, l2] [v_i s0] h Q ↔ Q (some (v_i s0)) h := by
  unfold ex_
  exact ((am_Y_ret rfl rfl rfl).trans (am_r0))

theorem b_X12_mostAlike_0 {d : Nat} {Q : Option am_V → am_H → Prop} (h : am_H) (l0 l1 l2 l3 l4 l5 l6 l7 : Option am_V) : ex_ d 360 0 [l0, l1, l2, l3, l4, l5, l6, l7] [] h Q ↔ ex_ d 360 3 [l0, l1, l2, l3, some (v_i (0 : Int32)), l5, l6, l7] [] h Q := by
  unfold ex_
  refine (am_Y_go 2 (ok := []) (g := (3, [l0, l1, l2, l3, some (v_i (0 : Int32)), l5, l6, l7], [], h)) rfl).trans ?_
  all_goals exact Iff.rfl

theorem b_X12_mostAlike_3 {d : Nat} {Q : Option am_V → am_H → Prop} (h : am_H) (x4 : Int32) (l0 l1 l2 l3 l5 l6 l7 : Option am_V) : ex_ d 360 3 [l0, l1, l2, l3, some (v_i x4), l5, l6, l7] [] h Q ↔ if (10 : Int32) ≤ x4 then ex_ d 360 31 [l0, l1, l2, l3, some (v_i x4), l5, l6, l7] [] h Q else ex_ d 360 10 [l0, l1, l2, l3, some (v_i x4), l5, l6, l7] [] h Q := by
  unfold ex_
  refine (am_Y_go 3 (ok := []) (g := (if (10 : Int32) ≤ x4 then 31 else 10, [l0, l1, l2, l3, some (v_i x4), l5, l6, l7], [], h)) rfl).trans ?_
  all_goals exact am_Y_if

theorem b_X12_mostAlike_31 {d : Nat} {Q : Option am_V → am_H → Prop} (h : am_H) (l0 l1 l2 l3 l4 l5 l6 l7 : Option am_V) : ex_ d 360 31 [l0, l1, l2, l3, l4, l5, l6, l7] [] h Q ↔ ex_ d 360 37 [l0, l1, l2, l3, some (v_i (0 : Int32)), some (v_i (0 : Int32)), l6, l7] [] h Q := by
  unfold ex_
  refine (am_Y_go 4 (ok := []) (g := (37, [l0, l1, l2, l3, some (v_i (0 : Int32)), some (v_i (0 : Int32)), l6, l7], [], h)) rfl).trans ?_
  all_goals exact Iff.rfl

theorem b_X12_mostAlike_10 {d : Nat} {Q : Option am_V → am_H → Prop} (h : am_H) (x4 : Int32) (x2 : Int32) (x3 : Int32) (l1 l5 l6 l7 : Option am_V) (Lh : Lay h) : ex_ (d + 1) 360 10 [some (v_r (some 93)), l1, some (v_i x2), some (v_i x3), some (v_i x4), l5, l6, l7] [] h Q ↔ ex_ d 336 0 [some (v_r (some 93)), some (v_i x2), some (v_i x3), some (v_i x4), none, none] [] h (fun r h' => ex_ (d + 1) 360 24 [some (v_r (some 93)), l1, some (v_i x2), some (v_i x3), some (v_i x4), l5, l6, l7] (r.toList ++ [v_i x4, v_r (some 114)]) h' Q) := by
  have e0 : h_r h 93 38 = some 114 := la_r Lh (q := (93, 38, 114)) (by decide)
  unfold ex_
  refine (am_Y_go 7 (ok := [am_is h (some 93) 12]) (g := (21, [some (v_r (some 93)), l1, some (v_i x2), some (v_i x3), some (v_i x4), l5, l6, l7], [v_i x4, v_i x3, v_i x2, v_r (some 93), v_i x4, v_r ((h_r h 93 38))], h)) rfl).trans ?_
  simp only [e0, Option.getD_some, am_all]
  all_goals exact cj_d (la_is Lh (o := 93) rfl) (((am_Y_call (j := 336) (na := 4) (ci := 12) (fl := 0) rfl rfl rfl).trans (cj_d ⟨⟨Nat.le_of_ble_eq_true rfl, Nat.le_of_ble_eq_true rfl, Nat.le_of_ble_eq_true rfl, rfl⟩, Or.inr (Or.inr (show (12 : Nat) < 20 ∧ am_is h (some 93) 12 from ⟨by decide, (la_is Lh (o := 93) rfl)⟩))⟩ Iff.rfl)))

theorem b_X12_mostAlike_37 {d : Nat} {Q : Option am_V → am_H → Prop} (h : am_H) (x5 : Int32) (l0 l1 l2 l3 l4 l6 l7 : Option am_V) : ex_ d 360 37 [l0, l1, l2, l3, l4, some (v_i x5), l6, l7] [] h Q ↔ if (10 : Int32) ≤ x5 then ex_ d 360 132 [l0, l1, l2, l3, l4, some (v_i x5), l6, l7] [] h Q else ex_ d 360 44 [l0, l1, l2, l3, l4, some (v_i x5), l6, l7] [] h Q := by
  unfold ex_
  refine (am_Y_go 3 (ok := []) (g := (if (10 : Int32) ≤ x5 then 132 else 44, [l0, l1, l2, l3, l4, some (v_i x5), l6, l7], [], h)) rfl).trans ?_
  all_goals exact am_Y_if

theorem b_X12_mostAlike_24 {d : Nat} {Q : Option am_V → am_H → Prop} (h : am_H) (s0 : Int32) (s1 : Int32) (t2 : Nat) (x4 : Int32) (l0 l1 l2 l3 l5 l6 l7 : Option am_V) {n_t2 : Nat} (A_t2 : y_arr h t2 20 n_t2) : ex_ d 360 24 [l0, l1, l2, l3, some (v_i x4), l5, l6, l7] [v_i s0, v_i s1, v_r (some t2)] h Q ↔ vp_in s1 n_t2 ∧ ex_ d 360 3 [l0, l1, l2, l3, some (v_i (x4 + (1 : Int32))), l5, l6, l7] [] (p_i h t2 (Int32.toNatClampNeg s1) s0) Q := by
  unfold ex_
  refine (am_Y_go 3 (ok := [am_ar h (some t2) 20 s1]) (g := (3, [l0, l1, l2, l3, some (v_i (x4 + (1 : Int32))), l5, l6, l7], [], (p_i h t2 (Int32.toNatClampNeg s1) s0))) rfl).trans ?_
  simp only [am_all]
  all_goals exact cj_k (lb_ar A_t2) (Iff.rfl)

theorem b_X12_mostAlike_132 {d : Nat} {Q : Option am_V → am_H → Prop} (h : am_H) (x4 : Int32) (l0 l1 l2 l3 l5 l6 l7 : Option am_V) : ex_ d 360 132 [l0, l1, l2, l3, some (v_i x4), l5, l6, l7] [] h Q ↔ Q (some (v_i x4)) h := by
  unfold ex_
  refine (am_Y_go 1 (ok := []) (g := (134, [l0, l1, l2, l3, some (v_i x4), l5, l6, l7], [v_i x4], h)) rfl).trans ?_
  all_goals exact ((am_Y_ret rfl rfl rfl).trans (am_r0))

theorem b_X12_mostAlike_44 {d : Nat} {Q : Option am_V → am_H → Prop} (h : am_H) (l0 l1 l2 l3 l4 l5 l6 l7 : Option am_V) : ex_ d 360 44 [l0, l1, l2, l3, l4, l5, l6, l7] [] h Q ↔ ex_ d 360 50 [l0, l1, l2, l3, l4, l5, some (v_i (0 : Int32)), some (v_i (0 : Int32))] [] h Q := by
  unfold ex_
  refine (am_Y_go 4 (ok := []) (g := (50, [l0, l1, l2, l3, l4, l5, some (v_i (0 : Int32)), some (v_i (0 : Int32))], [], h)) rfl).trans ?_
  all_goals exact Iff.rfl

theorem b_X12_mostAlike_50 {d : Nat} {Q : Option am_V → am_H → Prop} (h : am_H) (x7 : Int32) (l0 l1 l2 l3 l4 l5 l6 : Option am_V) : ex_ d 360 50 [l0, l1, l2, l3, l4, l5, l6, some (v_i x7)] [] h Q ↔ if (10 : Int32) ≤ x7 then ex_ d 360 110 [l0, l1, l2, l3, l4, l5, l6, some (v_i x7)] [] h Q else ex_ d 360 57 [l0, l1, l2, l3, l4, l5, l6, some (v_i x7)] [] h Q := by
  unfold ex_
  refine (am_Y_go 3 (ok := []) (g := (if (10 : Int32) ≤ x7 then 110 else 57, [l0, l1, l2, l3, l4, l5, l6, some (v_i x7)], [], h)) rfl).trans ?_
  all_goals exact am_Y_if

theorem b_X12_mostAlike_110 {d : Nat} {Q : Option am_V → am_H → Prop} (h : am_H) (x6 : Int32) (x4 : Int32) (l0 l1 l2 l3 l5 l7 : Option am_V) : ex_ d 360 110 [l0, l1, l2, l3, some (v_i x4), l5, some (v_i x6), l7] [] h Q ↔ if x6 ≤ x4 then ex_ d 360 122 [l0, l1, l2, l3, some (v_i x4), l5, some (v_i x6), l7] [] h Q else ex_ d 360 117 [l0, l1, l2, l3, some (v_i x4), l5, some (v_i x6), l7] [] h Q := by
  unfold ex_
  refine (am_Y_go 3 (ok := []) (g := (if x6 ≤ x4 then 122 else 117, [l0, l1, l2, l3, some (v_i x4), l5, some (v_i x6), l7], [], h)) rfl).trans ?_
  all_goals exact am_Y_if

theorem b_X12_mostAlike_57 {d : Nat} {Q : Option am_V → am_H → Prop} (h : am_H) (x6 : Int32) (x1 : Int32) (x5 : Int32) (l0 l2 l3 l4 l7 : Option am_V) : ex_ (d + 1) 360 57 [l0, some (v_i x1), l2, l3, l4, some (v_i x5), some (v_i x6), l7] [] h Q ↔ ex_ d 242 0 [some (v_l (Int32.toInt64 x1)), none, some (v_i x5)] [] h (fun r h' => ex_ (d + 1) 360 66 [l0, some (v_i x1), l2, l3, l4, some (v_i x5), some (v_i x6), l7] (r.toList ++ [v_i x6]) h' Q) := by
  unfold ex_
  refine (am_Y_go 4 (ok := []) (g := (63, [l0, some (v_i x1), l2, l3, l4, some (v_i x5), some (v_i x6), l7], [v_i x5, v_l (Int32.toInt64 x1), v_i x6], h)) rfl).trans ?_
  all_goals exact ((am_Y_call (j := 242) (na := 2) (ci := 12) (fl := 2) rfl rfl rfl).trans (cj_d ⟨⟨Nat.le_of_ble_eq_true rfl, Nat.le_of_ble_eq_true rfl, Nat.le_of_ble_eq_true rfl, rfl⟩, Or.inl rfl⟩ Iff.rfl))

theorem b_X12_mostAlike_122 {d : Nat} {Q : Option am_V → am_H → Prop} (h : am_H) (x4 : Int32) (x5 : Int32) (l0 l1 l2 l3 l6 l7 : Option am_V) : ex_ d 360 122 [l0, l1, l2, l3, some (v_i x4), some (v_i x5), l6, l7] [] h Q ↔ ex_ d 360 37 [l0, l1, l2, l3, some (v_i x4), some (v_i (x5 + (1 : Int32))), l6, l7] [] h Q := by
  unfold ex_
  refine (am_Y_go 4 (ok := []) (g := (37, [l0, l1, l2, l3, some (v_i x4), some (v_i (x5 + (1 : Int32))), l6, l7], [], h)) rfl).trans ?_
  all_goals exact Iff.rfl

theorem b_X12_mostAlike_117 {d : Nat} {Q : Option am_V → am_H → Prop} (h : am_H) (x6 : Int32) (x5 : Int32) (l0 l1 l2 l3 l4 l7 : Option am_V) : ex_ d 360 117 [l0, l1, l2, l3, l4, some (v_i x5), some (v_i x6), l7] [] h Q ↔ ex_ d 360 37 [l0, l1, l2, l3, some (v_i x6), some (v_i (x5 + (1 : Int32))), some (v_i x6), l7] [] h Q := by
  unfold ex_
  refine (am_Y_go 5 (ok := []) (g := (37, [l0, l1, l2, l3, some (v_i x6), some (v_i (x5 + (1 : Int32))), some (v_i x6), l7], [], h)) rfl).trans ?_
  all_goals exact Iff.rfl

theorem b_X12_mostAlike_66 {d : Nat} {Q : Option am_V → am_H → Prop} (h : am_H) (s0 : Int32) (s1 : Int32) (l0 l1 l2 l3 l4 l5 l6 l7 : Option am_V) : ex_ d 360 66 [l0, l1, l2, l3, l4, l5, l6, l7] [v_i s0, v_i s1] h Q ↔ if s0 = 0 then ex_ d 360 100 [l0, l1, l2, l3, l4, l5, l6, l7] [v_i s1] h Q else ex_ d 360 69 [l0, l1, l2, l3, l4, l5, l6, l7] [v_i s1] h Q := by
  unfold ex_
  refine (am_Y_go 1 (ok := []) (g := (if s0 = 0 then 100 else 69, [l0, l1, l2, l3, l4, l5, l6, l7], [v_i s1], h)) rfl).trans ?_
  all_goals exact am_Y_if

theorem b_X12_mostAlike_100 {d : Nat} {Q : Option am_V → am_H → Prop} (h : am_H) (s0 : Int32) (x7 : Int32) (l0 l1 l2 l3 l4 l5 l6 : Option am_V) : ex_ d 360 100 [l0, l1, l2, l3, l4, l5, l6, some (v_i x7)] [v_i s0] h Q ↔ ex_ d 360 50 [l0, l1, l2, l3, l4, l5, some (v_i (s0 + (0 : Int32))), some (v_i (x7 + (1 : Int32)))] [] h Q := by
  unfold ex_
  refine (am_Y_go 5 (ok := []) (g := (50, [l0, l1, l2, l3, l4, l5, some (v_i (s0 + (0 : Int32))), some (v_i (x7 + (1 : Int32)))], [], h)) rfl).trans ?_
  all_goals exact Iff.rfl

theorem b_X12_mostAlike_69 {d : Nat} {Q : Option am_V → am_H → Prop} (h : am_H) (s0 : Int32) (x1 : Int32) (x7 : Int32) (l0 l2 l3 l4 l5 l6 : Option am_V) : ex_ (d + 1) 360 69 [l0, some (v_i x1), l2, l3, l4, l5, l6, some (v_i x7)] [v_i s0] h Q ↔ ex_ d 242 0 [some (v_l (Int32.toInt64 x1)), none, some (v_i x7)] [] h (fun r h' => ex_ (d + 1) 360 76 [l0, some (v_i x1), l2, l3, l4, l5, l6, some (v_i x7)] (r.toList ++ [v_i s0]) h' Q) := by
  unfold ex_
  refine (am_Y_go 3 (ok := []) (g := (73, [l0, some (v_i x1), l2, l3, l4, l5, l6, some (v_i x7)], [v_i x7, v_l (Int32.toInt64 x1), v_i s0], h)) rfl).trans ?_
  all_goals exact ((am_Y_call (j := 242) (na := 2) (ci := 12) (fl := 2) rfl rfl rfl).trans (cj_d ⟨⟨Nat.le_of_ble_eq_true rfl, Nat.le_of_ble_eq_true rfl, Nat.le_of_ble_eq_true rfl, rfl⟩, Or.inl rfl⟩ Iff.rfl))

theorem b_X12_mostAlike_76 {d : Nat} {Q : Option am_V → am_H → Prop} (h : am_H) (s0 : Int32) (s1 : Int32) (l0 l1 l2 l3 l4 l5 l6 l7 : Option am_V) : ex_ d 360 76 [l0, l1, l2, l3, l4, l5, l6, l7] [v_i s0, v_i s1] h Q ↔ if s0 = 0 then ex_ d 360 100 [l0, l1, l2, l3, l4, l5, l6, l7] [v_i s1] h Q else ex_ d 360 79 [l0, l1, l2, l3, l4, l5, l6, l7] [v_i s1] h Q := by
  unfold ex_
  refine (am_Y_go 1 (ok := []) (g := (if s0 = 0 then 100 else 79, [l0, l1, l2, l3, l4, l5, l6, l7], [v_i s1], h)) rfl).trans ?_
  all_goals exact am_Y_if

theorem b_X12_mostAlike_79 {d : Nat} {Q : Option am_V → am_H → Prop} (h : am_H) (s0 : Int32) (x5 : Int32) (x7 : Int32) (l1 l2 l3 l4 l6 : Option am_V) (Lh : Lay h) : ex_ d 360 79 [some (v_r (some 93)), l1, l2, l3, l4, some (v_i x5), l6, some (v_i x7)] [v_i s0] h Q ↔ vp_in x5 10 ∧ vp_in x7 10 ∧ (if ¬ (h_i h 114 (Int32.toNatClampNeg x5)) = (h_i h 114 (Int32.toNatClampNeg x7)) then ex_ d 360 100 [some (v_r (some 93)), l1, l2, l3, l4, some (v_i x5), l6, some (v_i x7)] [v_i s0] h Q else ex_ d 360 96 [some (v_r (some 93)), l1, l2, l3, l4, some (v_i x5), l6, some (v_i x7)] [v_i s0] h Q) := by
  have e0 : h_r h 93 38 = some 114 := la_r Lh (q := (93, 38, 114)) (by decide)
  unfold ex_
  refine (am_Y_go 9 (ok := [am_is h (some 93) 12, am_ar h ((h_r h 93 38)) 20 x5, am_is h (some 93) 12, am_ar h ((h_r h 93 38)) 20 x7]) (g := (if ¬ (h_i h ((h_r h 93 38).getD 0) (Int32.toNatClampNeg x5)) = (h_i h ((h_r h 93 38).getD 0) (Int32.toNatClampNeg x7)) then 100 else 96, [some (v_r (some 93)), l1, l2, l3, l4, some (v_i x5), l6, some (v_i x7)], [v_i s0], h)) rfl).trans ?_
  simp only [e0, Option.getD_some, am_all]
  all_goals exact cj_d (la_is Lh (o := 93) rfl) (cj_k (la_ar Lh (o := 114) rfl) (cj_d (la_is Lh (o := 93) rfl) (cj_k (la_ar Lh (o := 114) rfl) (am_Y_if))))

theorem b_X12_mostAlike_96 {d : Nat} {Q : Option am_V → am_H → Prop} (h : am_H) (s0 : Int32) (x7 : Int32) (l0 l1 l2 l3 l4 l5 l6 : Option am_V) : ex_ d 360 96 [l0, l1, l2, l3, l4, l5, l6, some (v_i x7)] [v_i s0] h Q ↔ ex_ d 360 50 [l0, l1, l2, l3, l4, l5, some (v_i (s0 + (1 : Int32))), some (v_i (x7 + (1 : Int32)))] [] h Q := by
  unfold ex_
  refine (am_Y_go 6 (ok := []) (g := (50, [l0, l1, l2, l3, l4, l5, some (v_i (s0 + (1 : Int32))), some (v_i (x7 + (1 : Int32)))], [], h)) rfl).trans ?_
  all_goals exact Iff.rfl

theorem b_X12_attempt_0 {d : Nat} {Q : Option am_V → am_H → Prop} (h : am_H) (x1 : Int32) (l2 l3 l4 l5 l6 l7 l8 : Option am_V) (Lh : Lay h) : ex_ (d + 1) 361 0 [some (v_r (some 93)), some (v_i x1), l2, l3, l4, l5, l6, l7, l8] [] h Q ↔ ex_ d 357 0 [some (v_r (some 93)), some (v_i x1), none, none, none, none] [] (p_i h 93 0 (0 : Int32)) (fun r h' => ex_ (d + 1) 361 10 [some (v_r (some 93)), some (v_i x1), l2, l3, l4, l5, l6, l7, l8] (r.toList ++ []) h' Q) := by
  unfold ex_
  refine (am_Y_go 5 (ok := [am_is h (some 93) 12]) (g := (7, [some (v_r (some 93)), some (v_i x1), l2, l3, l4, l5, l6, l7, l8], [v_i x1, v_r (some 93)], (p_i h 93 0 (0 : Int32)))) rfl).trans ?_
  simp only [am_all]
  all_goals exact cj_d (la_is Lh (o := 93) rfl) (((am_Y_call (j := 357) (na := 2) (ci := 12) (fl := 0) rfl rfl rfl).trans (cj_d ⟨⟨Nat.le_of_ble_eq_true rfl, Nat.le_of_ble_eq_true rfl, Nat.le_of_ble_eq_true rfl, rfl⟩, Or.inr (Or.inr (show (12 : Nat) < 20 ∧ am_is h (some 93) 12 from ⟨by decide, (la_is Lh (o := 93) rfl)⟩))⟩ Iff.rfl)))

theorem b_X12_attempt_10 {d : Nat} {Q : Option am_V → am_H → Prop} (h : am_H) (s0 : Int32) (l0 l1 l2 l3 l4 l5 l6 l7 l8 : Option am_V) : ex_ d 361 10 [l0, l1, l2, l3, l4, l5, l6, l7, l8] [v_i s0] h Q ↔ if s0 = 0 then ex_ d 361 17 [l0, l1, some (v_i s0), l3, l4, l5, l6, l7, l8] [] h Q else ex_ d 361 15 [l0, l1, some (v_i s0), l3, l4, l5, l6, l7, l8] [] h Q := by
  unfold ex_
  refine (am_Y_go 3 (ok := []) (g := (if s0 = 0 then 17 else 15, [l0, l1, some (v_i s0), l3, l4, l5, l6, l7, l8], [], h)) rfl).trans ?_
  all_goals exact am_Y_if

theorem b_X12_attempt_17 {d : Nat} {Q : Option am_V → am_H → Prop} (h : am_H) (x1 : Int32) (l2 l3 l4 l5 l6 l7 l8 : Option am_V) (Lh : Lay h) : ex_ (d + 1) 361 17 [some (v_r (some 93)), some (v_i x1), l2, l3, l4, l5, l6, l7, l8] [] h Q ↔ ex_ d 358 0 [some (v_r (some 93)), some (v_i x1), none, none, none, none, none] [] h (fun r h' => ex_ (d + 1) 361 22 [some (v_r (some 93)), some (v_i x1), l2, l3, l4, l5, l6, l7, l8] (r.toList ++ []) h' Q) := by
  unfold ex_
  refine (am_Y_go 2 (ok := []) (g := (19, [some (v_r (some 93)), some (v_i x1), l2, l3, l4, l5, l6, l7, l8], [v_i x1, v_r (some 93)], h)) rfl).trans ?_
  all_goals exact ((am_Y_call (j := 358) (na := 2) (ci := 12) (fl := 0) rfl rfl rfl).trans (cj_d ⟨⟨Nat.le_of_ble_eq_true rfl, Nat.le_of_ble_eq_true rfl, Nat.le_of_ble_eq_true rfl, rfl⟩, Or.inr (Or.inr (show (12 : Nat) < 20 ∧ am_is h (some 93) 12 from ⟨by decide, (la_is Lh (o := 93) rfl)⟩))⟩ Iff.rfl))

theorem b_X12_attempt_15 {d : Nat} {Q : Option am_V → am_H → Prop} (h : am_H) (x2 : Int32) (l0 l1 l3 l4 l5 l6 l7 l8 : Option am_V) : ex_ d 361 15 [l0, l1, some (v_i x2), l3, l4, l5, l6, l7, l8] [] h Q ↔ Q (some (v_i x2)) h := by
  unfold ex_
  refine (am_Y_go 1 (ok := []) (g := (16, [l0, l1, some (v_i x2), l3, l4, l5, l6, l7, l8], [v_i x2], h)) rfl).trans ?_
  all_goals exact ((am_Y_ret rfl rfl rfl).trans (am_r0))

theorem b_X12_attempt_22 {d : Nat} {Q : Option am_V → am_H → Prop} (h : am_H) (s0 : Int32) (l0 l1 l2 l3 l4 l5 l6 l7 l8 : Option am_V) : ex_ d 361 22 [l0, l1, l2, l3, l4, l5, l6, l7, l8] [v_i s0] h Q ↔ ex_ d 361 34 [l0, l1, l2, some (v_i s0), some (v_i (-1 : Int32)), some (v_i (268435456 : Int32)), some (v_i (0 : Int32)), l7, l8] [] h Q := by
  unfold ex_
  refine (am_Y_go 7 (ok := []) (g := (34, [l0, l1, l2, some (v_i s0), some (v_i (-1 : Int32)), some (v_i (268435456 : Int32)), some (v_i (0 : Int32)), l7, l8], [], h)) rfl).trans ?_
  all_goals exact Iff.rfl

theorem b_X12_attempt_34 {d : Nat} {Q : Option am_V → am_H → Prop} (h : am_H) (x6 : Int32) (l1 l2 l3 l4 l5 l7 l8 : Option am_V) (Lh : Lay h) : ex_ d 361 34 [some (v_r (some 93)), l1, l2, l3, l4, l5, some (v_i x6), l7, l8] [] h Q ↔ vp_in (1 : Int32) 7053 ∧ (if (h_i h 94 (Int32.toNatClampNeg (1 : Int32))) ≤ x6 then ex_ d 361 116 [some (v_r (some 93)), l1, l2, l3, l4, l5, some (v_i x6), l7, l8] [] h Q else ex_ d 361 45 [some (v_r (some 93)), l1, l2, l3, l4, l5, some (v_i x6), l7, l8] [] h Q) := by
  have e0 : h_r h 93 1 = some 94 := la_r Lh (q := (93, 1, 94)) (by decide)
  unfold ex_
  refine (am_Y_go 6 (ok := [am_is h (some 93) 12, am_ar h ((h_r h 93 1)) 20 (1 : Int32)]) (g := (if (h_i h ((h_r h 93 1).getD 0) (Int32.toNatClampNeg (1 : Int32))) ≤ x6 then 116 else 45, [some (v_r (some 93)), l1, l2, l3, l4, l5, some (v_i x6), l7, l8], [], h)) rfl).trans ?_
  simp only [e0, Option.getD_some, am_all]
  all_goals exact cj_d (la_is Lh (o := 93) rfl) (cj_k (la_ar Lh (o := 94) rfl) (am_Y_if))

theorem b_X12_attempt_116 {d : Nat} {Q : Option am_V → am_H → Prop} (h : am_H) (x4 : Int32) (l0 l1 l2 l3 l5 l6 l7 l8 : Option am_V) : ex_ d 361 116 [l0, l1, l2, l3, some (v_i x4), l5, l6, l7, l8] [] h Q ↔ Q (some (v_i x4)) h := by
  unfold ex_
  refine (am_Y_go 1 (ok := []) (g := (118, [l0, l1, l2, l3, some (v_i x4), l5, l6, l7, l8], [v_i x4], h)) rfl).trans ?_
  all_goals exact ((am_Y_ret rfl rfl rfl).trans (am_r0))

theorem b_X12_attempt_45 {d : Nat} {Q : Option am_V → am_H → Prop} (h : am_H) (x3 : Int32) (l0 l1 l2 l4 l5 l6 l7 l8 : Option am_V) : ex_ d 361 45 [l0, l1, l2, some (v_i x3), l4, l5, l6, l7, l8] [] h Q ↔ if x3 = 0 then ex_ d 361 116 [l0, l1, l2, some (v_i x3), l4, l5, l6, l7, l8] [] h Q else ex_ d 361 49 [l0, l1, l2, some (v_i x3), l4, l5, l6, l7, l8] [] h Q := by
  unfold ex_
  refine (am_Y_go 2 (ok := []) (g := (if x3 = 0 then 116 else 49, [l0, l1, l2, some (v_i x3), l4, l5, l6, l7, l8], [], h)) rfl).trans ?_
  all_goals exact am_Y_if

theorem b_X12_attempt_49 {d : Nat} {Q : Option am_V → am_H → Prop} (h : am_H) (l0 l1 l2 l3 l4 l5 l6 l7 l8 : Option am_V) : ex_ d 361 49 [l0, l1, l2, l3, l4, l5, l6, l7, l8] [] h Q ↔ ex_ d 361 52 [l0, l1, l2, l3, l4, l5, l6, some (v_i (0 : Int32)), l8] [] h Q := by
  unfold ex_
  refine (am_Y_go 2 (ok := []) (g := (52, [l0, l1, l2, l3, l4, l5, l6, some (v_i (0 : Int32)), l8], [], h)) rfl).trans ?_
  all_goals exact Iff.rfl

theorem b_X12_attempt_52 {d : Nat} {Q : Option am_V → am_H → Prop} (h : am_H) (x7 : Int32) (l0 l1 l2 l3 l4 l5 l6 l8 : Option am_V) : ex_ d 361 52 [l0, l1, l2, l3, l4, l5, l6, some (v_i x7), l8] [] h Q ↔ if (8 : Int32) ≤ x7 then ex_ d 361 110 [l0, l1, l2, l3, l4, l5, l6, some (v_i x7), l8] [] h Q else ex_ d 361 59 [l0, l1, l2, l3, l4, l5, l6, some (v_i x7), l8] [] h Q := by
  unfold ex_
  refine (am_Y_go 3 (ok := []) (g := (if (8 : Int32) ≤ x7 then 110 else 59, [l0, l1, l2, l3, l4, l5, l6, some (v_i x7), l8], [], h)) rfl).trans ?_
  all_goals exact am_Y_if

theorem b_X12_attempt_110 {d : Nat} {Q : Option am_V → am_H → Prop} (h : am_H) (x6 : Int32) (l0 l1 l2 l3 l4 l5 l7 l8 : Option am_V) : ex_ d 361 110 [l0, l1, l2, l3, l4, l5, some (v_i x6), l7, l8] [] h Q ↔ ex_ d 361 34 [l0, l1, l2, l3, l4, l5, some (v_i (x6 + (1 : Int32))), l7, l8] [] h Q := by
  unfold ex_
  refine (am_Y_go 2 (ok := []) (g := (34, [l0, l1, l2, l3, l4, l5, some (v_i (x6 + (1 : Int32))), l7, l8], [], h)) rfl).trans ?_
  all_goals exact Iff.rfl

theorem b_X12_attempt_59 {d : Nat} {Q : Option am_V → am_H → Prop} (h : am_H) (x6 : Int32) (l1 l2 l3 l4 l5 l7 l8 : Option am_V) (Lh : Lay h) : ex_ d 361 59 [some (v_r (some 93)), l1, l2, l3, l4, l5, some (v_i x6), l7, l8] [] h Q ↔ vp_in x6 11 ∧ (if ¬ (h_i h 100 (Int32.toNatClampNeg x6)) = 0 then ex_ d 361 110 [some (v_r (some 93)), l1, l2, l3, l4, l5, some (v_i x6), l7, l8] [] h Q else ex_ d 361 69 [some (v_r (some 93)), l1, l2, l3, l4, l5, some (v_i x6), l7, l8] [] h Q) := by
  have e0 : h_r h 93 18 = some 100 := la_r Lh (q := (93, 18, 100)) (by decide)
  unfold ex_
  refine (am_Y_go 5 (ok := [am_is h (some 93) 12, am_ar h ((h_r h 93 18)) 20 x6]) (g := (if ¬ (h_i h ((h_r h 93 18).getD 0) (Int32.toNatClampNeg x6)) = 0 then 110 else 69, [some (v_r (some 93)), l1, l2, l3, l4, l5, some (v_i x6), l7, l8], [], h)) rfl).trans ?_
  simp only [e0, Option.getD_some, am_all]
  all_goals exact cj_d (la_is Lh (o := 93) rfl) (cj_k (la_ar Lh (o := 100) rfl) (am_Y_if))

theorem b_X12_attempt_69 {d : Nat} {Q : Option am_V → am_H → Prop} (h : am_H) (x3 : Int32) (x6 : Int32) (x7 : Int32) (l1 l2 l4 l5 l8 : Option am_V) (Lh : Lay h) : ex_ (d + 1) 361 69 [some (v_r (some 93)), l1, l2, some (v_i x3), l4, l5, some (v_i x6), some (v_i x7), l8] [] h Q ↔ ex_ d 360 0 [some (v_r (some 93)), some (v_i x3), some (v_i x6), some (v_i x7), none, none, none, none] [] h (fun r h' => ex_ (d + 1) 361 78 [some (v_r (some 93)), l1, l2, some (v_i x3), l4, l5, some (v_i x6), some (v_i x7), l8] (r.toList ++ []) h' Q) := by
  unfold ex_
  refine (am_Y_go 4 (ok := []) (g := (75, [some (v_r (some 93)), l1, l2, some (v_i x3), l4, l5, some (v_i x6), some (v_i x7), l8], [v_i x7, v_i x6, v_i x3, v_r (some 93)], h)) rfl).trans ?_
  all_goals exact ((am_Y_call (j := 360) (na := 4) (ci := 12) (fl := 0) rfl rfl rfl).trans (cj_d ⟨⟨Nat.le_of_ble_eq_true rfl, Nat.le_of_ble_eq_true rfl, Nat.le_of_ble_eq_true rfl, rfl⟩, Or.inr (Or.inr (show (12 : Nat) < 20 ∧ am_is h (some 93) 12 from ⟨by decide, (la_is Lh (o := 93) rfl)⟩))⟩ Iff.rfl))

theorem b_X12_attempt_78 {d : Nat} {Q : Option am_V → am_H → Prop} (h : am_H) (s0 : Int32) (x5 : Int32) (l0 l1 l2 l3 l4 l6 l7 l8 : Option am_V) : ex_ d 361 78 [l0, l1, l2, l3, l4, some (v_i x5), l6, l7, l8] [v_i s0] h Q ↔ if s0 < x5 then ex_ d 361 90 [l0, l1, l2, l3, l4, some (v_i x5), l6, l7, some (v_i s0)] [] h Q else ex_ d 361 87 [l0, l1, l2, l3, l4, some (v_i x5), l6, l7, some (v_i s0)] [] h Q := by
  unfold ex_
  refine (am_Y_go 4 (ok := []) (g := (if s0 < x5 then 90 else 87, [l0, l1, l2, l3, l4, some (v_i x5), l6, l7, some (v_i s0)], [], h)) rfl).trans ?_
  all_goals exact am_Y_if

theorem b_X12_attempt_90 {d : Nat} {Q : Option am_V → am_H → Prop} (h : am_H) (x6 : Int32) (x7 : Int32) (x8 : Int32) (l0 l1 l2 l3 l4 l5 : Option am_V) : ex_ d 361 90 [l0, l1, l2, l3, l4, l5, some (v_i x6), some (v_i x7), some (v_i x8)] [] h Q ↔ ex_ d 361 52 [l0, l1, l2, l3, some (v_i (((10 : Int32) * x6) + x7)), some (v_i x8), some (v_i x6), some (v_i (x7 + (1 : Int32))), some (v_i x8)] [] h Q := by
  unfold ex_
  refine (am_Y_go 10 (ok := []) (g := (52, [l0, l1, l2, l3, some (v_i (((10 : Int32) * x6) + x7)), some (v_i x8), some (v_i x6), some (v_i (x7 + (1 : Int32))), some (v_i x8)], [], h)) rfl).trans ?_
  all_goals exact Iff.rfl

theorem b_X12_attempt_87 {d : Nat} {Q : Option am_V → am_H → Prop} (h : am_H) (x7 : Int32) (l0 l1 l2 l3 l4 l5 l6 l8 : Option am_V) : ex_ d 361 87 [l0, l1, l2, l3, l4, l5, l6, some (v_i x7), l8] [] h Q ↔ ex_ d 361 52 [l0, l1, l2, l3, l4, l5, l6, some (v_i (x7 + (1 : Int32))), l8] [] h Q := by
  unfold ex_
  refine (am_Y_go 3 (ok := []) (g := (52, [l0, l1, l2, l3, l4, l5, l6, some (v_i (x7 + (1 : Int32))), l8], [], h)) rfl).trans ?_
  all_goals exact Iff.rfl

theorem b_X12_goesLots_0 {d : Nat} {Q : Option am_V → am_H → Prop} (h : am_H) (x1 : Int32) (l0 l2 l3 : Option am_V) : ex_ d 362 0 [l0, some (v_i x1), l2, l3] [] h Q ↔ if ¬ x1 = 0 then ex_ d 362 53 [l0, some (v_i x1), l2, l3] [] h Q else ex_ d 362 4 [l0, some (v_i x1), l2, l3] [] h Q := by
  unfold ex_
  refine (am_Y_go 2 (ok := []) (g := (if ¬ x1 = 0 then 53 else 4, [l0, some (v_i x1), l2, l3], [], h)) rfl).trans ?_
  all_goals exact am_Y_if

theorem b_X12_goesLots_53 {d : Nat} {Q : Option am_V → am_H → Prop} (h : am_H) (l0 l1 l2 l3 : Option am_V) : ex_ d 362 53 [l0, l1, l2, l3] [] h Q ↔ ex_ d 362 55 [l0, l1, some (v_i (0 : Int32)), l3] [] h Q := by
  unfold ex_
  refine (am_Y_go 2 (ok := []) (g := (55, [l0, l1, some (v_i (0 : Int32)), l3], [], h)) rfl).trans ?_
  all_goals exact Iff.rfl

theorem b_X12_goesLots_4 {d : Nat} {Q : Option am_V → am_H → Prop} (h : am_H) (l1 l2 l3 : Option am_V) (Lh : Lay h) : ex_ (d + 1) 362 4 [some (v_r (some 93)), l1, l2, l3] [] h Q ↔ ex_ d 271 0 [some (v_r (some 93)), none] [] h (fun r h' => ex_ (d + 1) 362 8 [some (v_r (some 93)), l1, l2, l3] (r.toList ++ []) h' Q) := by
  unfold ex_
  refine (am_Y_go 1 (ok := []) (g := (5, [some (v_r (some 93)), l1, l2, l3], [v_r (some 93)], h)) rfl).trans ?_
  all_goals exact ((am_Y_call (j := 271) (na := 1) (ci := 12) (fl := 0) rfl rfl rfl).trans (cj_d ⟨⟨Nat.le_of_ble_eq_true rfl, Nat.le_of_ble_eq_true rfl, Nat.le_of_ble_eq_true rfl, rfl⟩, Or.inr (Or.inr (show (12 : Nat) < 20 ∧ am_is h (some 93) 12 from ⟨by decide, (la_is Lh (o := 93) rfl)⟩))⟩ Iff.rfl))

theorem b_X12_goesLots_55 {d : Nat} {Q : Option am_V → am_H → Prop} (h : am_H) (x2 : Int32) (l0 l1 l3 : Option am_V) : ex_ d 362 55 [l0, l1, some (v_i x2), l3] [] h Q ↔ if (10 : Int32) ≤ x2 then ex_ d 362 122 [l0, l1, some (v_i x2), l3] [] h Q else ex_ d 362 61 [l0, l1, some (v_i x2), l3] [] h Q := by
  unfold ex_
  refine (am_Y_go 3 (ok := []) (g := (if (10 : Int32) ≤ x2 then 122 else 61, [l0, l1, some (v_i x2), l3], [], h)) rfl).trans ?_
  all_goals exact am_Y_if

theorem b_X12_goesLots_8 {d : Nat} {Q : Option am_V → am_H → Prop} (h : am_H) (l1 l2 l3 : Option am_V) (Lh : Lay h) : ex_ (d + 1) 362 8 [some (v_r (some 93)), l1, l2, l3] [] h Q ↔ ex_ d 273 0 [some (v_r (some 93)), some (v_i (0 : Int32)), none, none] [] h (fun r h' => ex_ (d + 1) 362 13 [some (v_r (some 93)), l1, l2, l3] (r.toList ++ []) h' Q) := by
  unfold ex_
  refine (am_Y_go 2 (ok := []) (g := (10, [some (v_r (some 93)), l1, l2, l3], [v_i (0 : Int32), v_r (some 93)], h)) rfl).trans ?_
  all_goals exact ((am_Y_call (j := 273) (na := 2) (ci := 12) (fl := 0) rfl rfl rfl).trans (cj_d ⟨⟨Nat.le_of_ble_eq_true rfl, Nat.le_of_ble_eq_true rfl, Nat.le_of_ble_eq_true rfl, rfl⟩, Or.inr (Or.inr (show (12 : Nat) < 20 ∧ am_is h (some 93) 12 from ⟨by decide, (la_is Lh (o := 93) rfl)⟩))⟩ Iff.rfl))

theorem b_X12_goesLots_122 {d : Nat} {Q : Option am_V → am_H → Prop} (h : am_H) (l0 l1 l2 l3 : Option am_V) : ex_ d 362 122 [l0, l1, l2, l3] [] h Q ↔ Q (none) h := by
  unfold ex_
  exact ((am_Y_ret rfl rfl rfl).trans (am_rz rfl))

theorem b_X12_goesLots_61 {d : Nat} {Q : Option am_V → am_H → Prop} (h : am_H) (x2 : Int32) (l1 l3 : Option am_V) (Lh : Lay h) : ex_ (d + 1) 362 61 [some (v_r (some 93)), l1, some (v_i x2), l3] [] h Q ↔ ex_ d 262 0 [some (v_r (some 93)), some (v_l (Int32.toInt64 x2)), none] [] h (fun r h' => ex_ (d + 1) 362 67 [some (v_r (some 93)), l1, some (v_i x2), l3] (r.toList ++ []) h' Q) := by
  unfold ex_
  refine (am_Y_go 3 (ok := []) (g := (64, [some (v_r (some 93)), l1, some (v_i x2), l3], [v_l (Int32.toInt64 x2), v_r (some 93)], h)) rfl).trans ?_
  all_goals exact ((am_Y_call (j := 262) (na := 2) (ci := 12) (fl := 0) rfl rfl rfl).trans (cj_d ⟨⟨Nat.le_of_ble_eq_true rfl, Nat.le_of_ble_eq_true rfl, Nat.le_of_ble_eq_true rfl, rfl⟩, Or.inr (Or.inr (show (12 : Nat) < 20 ∧ am_is h (some 93) 12 from ⟨by decide, (la_is Lh (o := 93) rfl)⟩))⟩ Iff.rfl))

theorem b_X12_goesLots_13 {d : Nat} {Q : Option am_V → am_H → Prop} (h : am_H) (s0 : Int32) (l0 l1 l2 l3 : Option am_V) : ex_ (d + 1) 362 13 [l0, l1, l2, l3] [v_i s0] h Q ↔ ex_ d 274 0 [some (v_i s0), none, none] [] h (fun r h' => ex_ (d + 1) 362 16 [l0, l1, l2, l3] (r.toList ++ []) h' Q) := by
  unfold ex_
  exact ((am_Y_call (j := 274) (na := 1) (ci := 12) (fl := 2) rfl rfl rfl).trans (cj_d ⟨⟨Nat.le_of_ble_eq_true rfl, Nat.le_of_ble_eq_true rfl, Nat.le_of_ble_eq_true rfl, rfl⟩, Or.inl rfl⟩ Iff.rfl))

theorem b_X12_goesLots_67 {d : Nat} {Q : Option am_V → am_H → Prop} (h : am_H) (s0 : Int32) (l0 l1 l2 l3 : Option am_V) : ex_ d 362 67 [l0, l1, l2, l3] [v_i s0] h Q ↔ if s0 = 0 then ex_ d 362 87 [l0, l1, l2, l3] [] h Q else ex_ d 362 70 [l0, l1, l2, l3] [] h Q := by
  unfold ex_
  refine (am_Y_go 1 (ok := []) (g := (if s0 = 0 then 87 else 70, [l0, l1, l2, l3], [], h)) rfl).trans ?_
  all_goals exact am_Y_if

theorem b_X12_goesLots_16 {d : Nat} {Q : Option am_V → am_H → Prop} (h : am_H) (s0 : Int32) (l1 l2 l3 : Option am_V) (Lh : Lay h) : ex_ d 362 16 [some (v_r (some 93)), l1, l2, l3] [v_i s0] h Q ↔ vp_in (1 : Int32) 7053 ∧ (if ¬ s0 = (h_i h 94 (Int32.toNatClampNeg (1 : Int32))) then ex_ d 362 36 [some (v_r (some 93)), l1, some (v_i s0), l3] [v_l (h_j h 93 39), v_r (some 93)] h Q else ex_ d 362 32 [some (v_r (some 93)), l1, some (v_i s0), l3] [v_l (h_j h 93 39), v_r (some 93)] h Q) := by
  have e0 : h_r h 93 1 = some 94 := la_r Lh (q := (93, 1, 94)) (by decide)
  unfold ex_
  refine (am_Y_go 10 (ok := [am_is h (some 93) 12, am_is h (some 93) 12, am_ar h ((h_r h 93 1)) 20 (1 : Int32)]) (g := (if ¬ s0 = (h_i h ((h_r h 93 1).getD 0) (Int32.toNatClampNeg (1 : Int32))) then 36 else 32, [some (v_r (some 93)), l1, some (v_i s0), l3], [v_l (h_j h 93 39), v_r (some 93)], h)) rfl).trans ?_
  simp only [e0, Option.getD_some, am_all]
  all_goals exact cj_d (la_is Lh (o := 93) rfl) (cj_d (la_is Lh (o := 93) rfl) (cj_k (la_ar Lh (o := 94) rfl) (am_Y_if)))

theorem b_X12_goesLots_87 {d : Nat} {Q : Option am_V → am_H → Prop} (h : am_H) (l0 l1 l2 l3 : Option am_V) : ex_ d 362 87 [l0, l1, l2, l3] [] h Q ↔ if (0 : Int32) = 0 then ex_ d 362 99 [l0, l1, l2, some (v_i (0 : Int32))] [] h Q else ex_ d 362 93 [l0, l1, l2, some (v_i (0 : Int32))] [] h Q := by
  unfold ex_
  refine (am_Y_go 4 (ok := []) (g := (if (0 : Int32) = 0 then 99 else 93, [l0, l1, l2, some (v_i (0 : Int32))], [], h)) rfl).trans ?_
  all_goals exact am_Y_if

theorem b_X12_goesLots_70 {d : Nat} {Q : Option am_V → am_H → Prop} (h : am_H) (x2 : Int32) (l1 l3 : Option am_V) (Lh : Lay h) : ex_ d 362 70 [some (v_r (some 93)), l1, some (v_i x2), l3] [] h Q ↔ vp_in ((8 : Int32) + x2) 7053 ∧ (if (h_i h 94 (Int32.toNatClampNeg ((8 : Int32) + x2))) ≤ (1 : Int32) then ex_ d 362 87 [some (v_r (some 93)), l1, some (v_i x2), l3] [] h Q else ex_ d 362 83 [some (v_r (some 93)), l1, some (v_i x2), l3] [] h Q) := by
  have e0 : h_r h 93 1 = some 94 := la_r Lh (q := (93, 1, 94)) (by decide)
  unfold ex_
  refine (am_Y_go 8 (ok := [am_is h (some 93) 12, am_ar h ((h_r h 93 1)) 20 ((8 : Int32) + x2)]) (g := (if (h_i h ((h_r h 93 1).getD 0) (Int32.toNatClampNeg ((8 : Int32) + x2))) ≤ (1 : Int32) then 87 else 83, [some (v_r (some 93)), l1, some (v_i x2), l3], [], h)) rfl).trans ?_
  simp only [e0, Option.getD_some, am_all]
  all_goals exact cj_d (la_is Lh (o := 93) rfl) (cj_k (la_ar Lh (o := 94) rfl) (am_Y_if))

theorem b_X12_goesLots_36 {d : Nat} {Q : Option am_V → am_H → Prop} (h : am_H) (s0 : Int64) (x2 : Int32) (l1 l3 : Option am_V) (Lh : Lay h) : ex_ d 362 36 [some (v_r (some 93)), l1, some (v_i x2), l3] [v_l s0, v_r (some 93)] h Q ↔ Q (none) (p_j (p_j h 93 39 (s0 + (0 : Int64))) 93 40 ((h_j (p_j h 93 39 (s0 + (0 : Int64))) 93 40) + (Int32.toInt64 x2))) := by
  unfold ex_
  refine (am_Y_go 10 (ok := [am_is h (some 93) 12, am_is h (some 93) 12, am_is h (some 93) 12]) (g := (52, [some (v_r (some 93)), l1, some (v_i x2), l3], [], (p_j (p_j h 93 39 (s0 + (0 : Int64))) 93 40 ((h_j (p_j h 93 39 (s0 + (0 : Int64))) 93 40) + (Int32.toInt64 x2))))) rfl).trans ?_
  simp only [am_all]
  all_goals exact cj_d (la_is Lh (o := 93) rfl) (cj_d (la_is Lh (o := 93) rfl) (cj_d (la_is Lh (o := 93) rfl) (((am_Y_ret rfl rfl rfl).trans (am_rz rfl)))))

theorem b_X12_goesLots_32 {d : Nat} {Q : Option am_V → am_H → Prop} (h : am_H) (s0 : Int64) (x2 : Int32) (l1 l3 : Option am_V) (Lh : Lay h) : ex_ d 362 32 [some (v_r (some 93)), l1, some (v_i x2), l3] [v_l s0, v_r (some 93)] h Q ↔ Q (none) (p_j (p_j h 93 39 (s0 + (1 : Int64))) 93 40 ((h_j (p_j h 93 39 (s0 + (1 : Int64))) 93 40) + (Int32.toInt64 x2))) := by
  unfold ex_
  refine (am_Y_go 11 (ok := [am_is h (some 93) 12, am_is h (some 93) 12, am_is h (some 93) 12]) (g := (52, [some (v_r (some 93)), l1, some (v_i x2), l3], [], (p_j (p_j h 93 39 (s0 + (1 : Int64))) 93 40 ((h_j (p_j h 93 39 (s0 + (1 : Int64))) 93 40) + (Int32.toInt64 x2))))) rfl).trans ?_
  simp only [am_all]
  all_goals exact cj_d (la_is Lh (o := 93) rfl) (cj_d (la_is Lh (o := 93) rfl) (cj_d (la_is Lh (o := 93) rfl) (((am_Y_ret rfl rfl rfl).trans (am_rz rfl)))))

theorem b_X12_goesLots_99 {d : Nat} {Q : Option am_V → am_H → Prop} (h : am_H) (x1 : Int32) (l2 l3 : Option am_V) (Lh : Lay h) : ex_ (d + 1) 362 99 [some (v_r (some 93)), some (v_i x1), l2, l3] [] h Q ↔ ex_ d 362 0 [some (v_r (some 93)), some (v_i (x1 - (1 : Int32))), none, none] [] h (fun r h' => ex_ (d + 1) 362 106 [some (v_r (some 93)), some (v_i x1), l2, l3] (r.toList ++ []) h' Q) := by
  unfold ex_
  refine (am_Y_go 4 (ok := []) (g := (103, [some (v_r (some 93)), some (v_i x1), l2, l3], [v_i (x1 - (1 : Int32)), v_r (some 93)], h)) rfl).trans ?_
  all_goals exact ((am_Y_call (j := 362) (na := 2) (ci := 12) (fl := 0) rfl rfl rfl).trans (cj_d ⟨⟨Nat.le_of_ble_eq_true rfl, Nat.le_of_ble_eq_true rfl, Nat.le_of_ble_eq_true rfl, rfl⟩, Or.inr (Or.inr (show (12 : Nat) < 20 ∧ am_is h (some 93) 12 from ⟨by decide, (la_is Lh (o := 93) rfl)⟩))⟩ Iff.rfl))

theorem b_X12_goesLots_93 {d : Nat} {Q : Option am_V → am_H → Prop} (h : am_H) (x2 : Int32) (l1 l3 : Option am_V) (Lh : Lay h) : ex_ (d + 1) 362 93 [some (v_r (some 93)), l1, some (v_i x2), l3] [] h Q ↔ ex_ d 292 0 [some (v_r (some 93)), some (v_i x2), some (v_i (0 : Int32)), none] [] h (fun r h' => ex_ (d + 1) 362 99 [some (v_r (some 93)), l1, some (v_i x2), l3] (r.toList ++ []) h' Q) := by
  unfold ex_
  refine (am_Y_go 3 (ok := []) (g := (96, [some (v_r (some 93)), l1, some (v_i x2), l3], [v_i (0 : Int32), v_i x2, v_r (some 93)], h)) rfl).trans ?_
  all_goals exact ((am_Y_call (j := 292) (na := 3) (ci := 12) (fl := 0) rfl rfl rfl).trans (cj_d ⟨⟨Nat.le_of_ble_eq_true rfl, Nat.le_of_ble_eq_true rfl, Nat.le_of_ble_eq_true rfl, rfl⟩, Or.inr (Or.inr (show (12 : Nat) < 20 ∧ am_is h (some 93) 12 from ⟨by decide, (la_is Lh (o := 93) rfl)⟩))⟩ Iff.rfl))

theorem b_X12_goesLots_83 {d : Nat} {Q : Option am_V → am_H → Prop} (h : am_H) (l0 l1 l2 l3 : Option am_V) : ex_ d 362 83 [l0, l1, l2, l3] [] h Q ↔ if (1 : Int32) = 0 then ex_ d 362 99 [l0, l1, l2, some (v_i (1 : Int32))] [] h Q else ex_ d 362 93 [l0, l1, l2, some (v_i (1 : Int32))] [] h Q := by
  unfold ex_
  refine (am_Y_go 5 (ok := []) (g := (if (1 : Int32) = 0 then 99 else 93, [l0, l1, l2, some (v_i (1 : Int32))], [], h)) rfl).trans ?_
  all_goals exact am_Y_if

theorem b_X12_goesLots_106 {d : Nat} {Q : Option am_V → am_H → Prop} (h : am_H) (x3 : Int32) (l0 l1 l2 : Option am_V) : ex_ d 362 106 [l0, l1, l2, some (v_i x3)] [] h Q ↔ if x3 = 0 then ex_ d 362 116 [l0, l1, l2, some (v_i x3)] [] h Q else ex_ d 362 110 [l0, l1, l2, some (v_i x3)] [] h Q := by
  unfold ex_
  refine (am_Y_go 2 (ok := []) (g := (if x3 = 0 then 116 else 110, [l0, l1, l2, some (v_i x3)], [], h)) rfl).trans ?_
  all_goals exact am_Y_if

theorem b_X12_goesLots_116 {d : Nat} {Q : Option am_V → am_H → Prop} (h : am_H) (x2 : Int32) (l0 l1 l3 : Option am_V) : ex_ d 362 116 [l0, l1, some (v_i x2), l3] [] h Q ↔ ex_ d 362 55 [l0, l1, some (v_i (x2 + (1 : Int32))), l3] [] h Q := by
  unfold ex_
  refine (am_Y_go 2 (ok := []) (g := (55, [l0, l1, some (v_i (x2 + (1 : Int32))), l3], [], h)) rfl).trans ?_
  all_goals exact Iff.rfl

theorem b_X12_goesLots_110 {d : Nat} {Q : Option am_V → am_H → Prop} (h : am_H) (x2 : Int32) (l1 l3 : Option am_V) (Lh : Lay h) : ex_ (d + 1) 362 110 [some (v_r (some 93)), l1, some (v_i x2), l3] [] h Q ↔ ex_ d 292 0 [some (v_r (some 93)), some (v_i x2), some (v_i (0 : Int32)), none] [] h (fun r h' => ex_ (d + 1) 362 116 [some (v_r (some 93)), l1, some (v_i x2), l3] (r.toList ++ []) h' Q) := by
  unfold ex_
  refine (am_Y_go 3 (ok := []) (g := (113, [some (v_r (some 93)), l1, some (v_i x2), l3], [v_i (0 : Int32), v_i x2, v_r (some 93)], h)) rfl).trans ?_
  all_goals exact ((am_Y_call (j := 292) (na := 3) (ci := 12) (fl := 0) rfl rfl rfl).trans (cj_d ⟨⟨Nat.le_of_ble_eq_true rfl, Nat.le_of_ble_eq_true rfl, Nat.le_of_ble_eq_true rfl, rfl⟩, Or.inr (Or.inr (show (12 : Nat) < 20 ∧ am_is h (some 93) 12 from ⟨by decide, (la_is Lh (o := 93) rfl)⟩))⟩ Iff.rfl))

theorem b_X12_wholeOf_0 {d : Nat} {Q : Option am_V → am_H → Prop} (h : am_H) (l0 l1 l2 l3 : Option am_V) : ex_ d 363 0 [l0, l1, l2, l3] [] h Q ↔ ex_ d 363 4 [l0, some (v_l (1 : Int64)), none, some (v_i (0 : Int32))] [] h Q := by
  unfold ex_
  refine (am_Y_go 4 (ok := []) (g := (4, [l0, some (v_l (1 : Int64)), none, some (v_i (0 : Int32))], [], h)) rfl).trans ?_
  all_goals exact Iff.rfl

theorem b_X12_wholeOf_4 {d : Nat} {Q : Option am_V → am_H → Prop} (h : am_H) (x3 : Int32) (x0 : Int32) (l1 l2 : Option am_V) : ex_ d 363 4 [some (v_i x0), l1, l2, some (v_i x3)] [] h Q ↔ if x0 ≤ x3 then ex_ d 363 21 [some (v_i x0), l1, l2, some (v_i x3)] [] h Q else ex_ d 363 9 [some (v_i x0), l1, l2, some (v_i x3)] [] h Q := by
  unfold ex_
  refine (am_Y_go 3 (ok := []) (g := (if x0 ≤ x3 then 21 else 9, [some (v_i x0), l1, l2, some (v_i x3)], [], h)) rfl).trans ?_
  all_goals exact am_Y_if

theorem b_X12_wholeOf_21 {d : Nat} {Q : Option am_V → am_H → Prop} (h : am_H) (x1 : Int64) (l0 l2 l3 : Option am_V) : ex_ d 363 21 [l0, some (v_l x1), l2, l3] [] h Q ↔ Q (some (v_l x1)) h := by
  unfold ex_
  refine (am_Y_go 1 (ok := []) (g := (22, [l0, some (v_l x1), l2, l3], [v_l x1], h)) rfl).trans ?_
  all_goals exact ((am_Y_ret rfl rfl rfl).trans (am_rz rfl))

theorem b_X12_wholeOf_9 {d : Nat} {Q : Option am_V → am_H → Prop} (h : am_H) (x1 : Int64) (x3 : Int32) (l0 l2 : Option am_V) : ex_ d 363 9 [l0, some (v_l x1), l2, some (v_i x3)] [] h Q ↔ ex_ d 363 4 [l0, some (v_l (x1 * (10 : Int64))), none, some (v_i (x3 + (1 : Int32)))] [] h Q := by
  unfold ex_
  refine (am_Y_go 6 (ok := []) (g := (4, [l0, some (v_l (x1 * (10 : Int64))), none, some (v_i (x3 + (1 : Int32)))], [], h)) rfl).trans ?_
  all_goals exact Iff.rfl

theorem b_X12_divisor_0 {d : Nat} {Q : Option am_V → am_H → Prop} (h : am_H) (x2 : Int64) (l0 l1 l3 : Option am_V) : ex_ d 364 0 [l0, l1, some (v_l x2), l3] [] h Q ↔ if ¬ (lg_cmp x2 (0 : Int64)) = 0 then ex_ d 364 10 [l0, l1, some (v_l x2), l3] [] h Q else ex_ d 364 6 [l0, l1, some (v_l x2), l3] [] h Q := by
  unfold ex_
  refine (am_Y_go 4 (ok := []) (g := (if ¬ (lg_cmp x2 (0 : Int64)) = 0 then 10 else 6, [l0, l1, some (v_l x2), l3], [], h)) rfl).trans ?_
  all_goals exact am_Y_if

theorem b_X12_divisor_10 {d : Nat} {Q : Option am_V → am_H → Prop} (h : am_H) (x2 : Int64) (x0 : Int64) (l1 l3 : Option am_V) : ex_ (d + 1) 364 10 [some (v_l x0), l1, some (v_l x2), l3] [] h Q ↔ ¬ x2 = 0 ∧ ex_ d 364 0 [some (v_l x2), none, some (v_l (x0 - x0 / x2 * x2)), none] [] h (fun r h' => ex_ (d + 1) 364 17 [some (v_l x0), l1, some (v_l x2), l3] (r.toList ++ []) h' Q) := by
  unfold ex_
  refine (am_Y_go 4 (ok := [¬ x2 = 0]) (g := (14, [some (v_l x0), l1, some (v_l x2), l3], [v_l (x0 - x0 / x2 * x2), v_l x2], h)) rfl).trans ?_
  simp only [am_all]
  all_goals exact cj_k Iff.rfl (((am_Y_call (j := 364) (na := 2) (ci := 12) (fl := 2) rfl rfl rfl).trans (cj_d ⟨⟨Nat.le_of_ble_eq_true rfl, Nat.le_of_ble_eq_true rfl, Nat.le_of_ble_eq_true rfl, rfl⟩, Or.inl rfl⟩ Iff.rfl)))

theorem b_X12_divisor_6 {d : Nat} {Q : Option am_V → am_H → Prop} (h : am_H) (x0 : Int64) (l1 l2 l3 : Option am_V) : ex_ d 364 6 [some (v_l x0), l1, l2, l3] [] h Q ↔ Q (some (v_l x0)) h := by
  unfold ex_
  refine (am_Y_go 2 (ok := []) (g := (17, [some (v_l x0), l1, l2, l3], [v_l x0], h)) rfl).trans ?_
  all_goals exact ((am_Y_ret rfl rfl rfl).trans (am_rz rfl))

theorem b_X12_divisor_17 {d : Nat} {Q : Option am_V → am_H → Prop} (h : am_H) (s0 : Int64) (l0 l1 l2 l3 : Option am_V) : ex_ d 364 17 [l0, l1, l2, l3] [v_l s0] h Q ↔ Q (some (v_l s0)) h := by
  unfold ex_
  exact ((am_Y_ret rfl rfl rfl).trans (am_rz rfl))

theorem b_X12_part_0 {d : Nat} {Q : Option am_V → am_H → Prop} (h : am_H) (x2 : Int32) (l1 l3 l4 l5 : Option am_V) (Lh : Lay h) : ex_ (d + 1) 365 0 [some (v_r (some 93)), l1, some (v_i x2), l3, l4, l5] [] h Q ↔ ex_ d 362 0 [some (v_r (some 93)), some (v_i x2), none, none] [] (p_j (p_j h 93 39 (0 : Int64)) 93 40 (0 : Int64)) (fun r h' => ex_ (d + 1) 365 15 [some (v_r (some 93)), l1, some (v_i x2), l3, l4, l5] (r.toList ++ []) h' Q) := by
  unfold ex_
  refine (am_Y_go 8 (ok := [am_is h (some 93) 12, am_is h (some 93) 12]) (g := (12, [some (v_r (some 93)), l1, some (v_i x2), l3, l4, l5], [v_i x2, v_r (some 93)], (p_j (p_j h 93 39 (0 : Int64)) 93 40 (0 : Int64)))) rfl).trans ?_
  simp only [am_all]
  all_goals exact cj_d (la_is Lh (o := 93) rfl) (cj_d (la_is Lh (o := 93) rfl) (((am_Y_call (j := 362) (na := 2) (ci := 12) (fl := 0) rfl rfl rfl).trans (cj_d ⟨⟨Nat.le_of_ble_eq_true rfl, Nat.le_of_ble_eq_true rfl, Nat.le_of_ble_eq_true rfl, rfl⟩, Or.inr (Or.inr (show (12 : Nat) < 20 ∧ am_is h (some 93) 12 from ⟨by decide, (la_is Lh (o := 93) rfl)⟩))⟩ Iff.rfl))))

theorem b_X12_part_15 {d : Nat} {Q : Option am_V → am_H → Prop} (h : am_H) (x1 : Int32) (l0 l2 l3 l4 l5 : Option am_V) : ex_ d 365 15 [l0, some (v_i x1), l2, l3, l4, l5] [] h Q ↔ if x1 = 0 then ex_ d 365 26 [l0, some (v_i x1), l2, l3, l4, l5] [] h Q else ex_ d 365 19 [l0, some (v_i x1), l2, l3, l4, l5] [] h Q := by
  unfold ex_
  refine (am_Y_go 2 (ok := []) (g := (if x1 = 0 then 26 else 19, [l0, some (v_i x1), l2, l3, l4, l5], [], h)) rfl).trans ?_
  all_goals exact am_Y_if

theorem b_X12_part_26 {d : Nat} {Q : Option am_V → am_H → Prop} (h : am_H) (x3 : Int32) (l1 l2 l4 l5 : Option am_V) (Lh : Lay h) : ex_ d 365 26 [some (v_r (some 93)), l1, l2, some (v_i x3), l4, l5] [] h Q ↔ if ¬ x3 = 0 then ex_ d 365 41 [some (v_r (some 93)), l1, l2, some (v_i x3), some (v_l (h_j h 93 40)), none] [] h Q else ex_ d 365 36 [some (v_r (some 93)), l1, l2, some (v_i x3), some (v_l (h_j h 93 40)), none] [] h Q := by
  unfold ex_
  refine (am_Y_go 5 (ok := [am_is h (some 93) 12]) (g := (if ¬ x3 = 0 then 41 else 36, [some (v_r (some 93)), l1, l2, some (v_i x3), some (v_l (h_j h 93 40)), none], [], h)) rfl).trans ?_
  simp only [am_all]
  all_goals exact cj_d (la_is Lh (o := 93) rfl) (am_Y_if)

theorem b_X12_part_19 {d : Nat} {Q : Option am_V → am_H → Prop} (h : am_H) (x3 : Int32) (l1 l2 l4 l5 : Option am_V) (Lh : Lay h) : ex_ d 365 19 [some (v_r (some 93)), l1, l2, some (v_i x3), l4, l5] [] h Q ↔ if ¬ x3 = 0 then ex_ d 365 41 [some (v_r (some 93)), l1, l2, some (v_i x3), some (v_l (h_j h 93 39)), none] [] h Q else ex_ d 365 36 [some (v_r (some 93)), l1, l2, some (v_i x3), some (v_l (h_j h 93 39)), none] [] h Q := by
  unfold ex_
  refine (am_Y_go 6 (ok := [am_is h (some 93) 12]) (g := (if ¬ x3 = 0 then 41 else 36, [some (v_r (some 93)), l1, l2, some (v_i x3), some (v_l (h_j h 93 39)), none], [], h)) rfl).trans ?_
  simp only [am_all]
  all_goals exact cj_d (la_is Lh (o := 93) rfl) (am_Y_if)

theorem b_X12_part_41 {d : Nat} {Q : Option am_V → am_H → Prop} (h : am_H) (x2 : Int32) (l0 l1 l3 l4 l5 : Option am_V) : ex_ (d + 1) 365 41 [l0, l1, some (v_i x2), l3, l4, l5] [] h Q ↔ ex_ d 363 0 [some (v_i x2), none, none, none] [] h (fun r h' => ex_ (d + 1) 365 45 [l0, l1, some (v_i x2), l3, l4, l5] (r.toList ++ []) h' Q) := by
  unfold ex_
  refine (am_Y_go 1 (ok := []) (g := (42, [l0, l1, some (v_i x2), l3, l4, l5], [v_i x2], h)) rfl).trans ?_
  all_goals exact ((am_Y_call (j := 363) (na := 1) (ci := 12) (fl := 2) rfl rfl rfl).trans (cj_d ⟨⟨Nat.le_of_ble_eq_true rfl, Nat.le_of_ble_eq_true rfl, Nat.le_of_ble_eq_true rfl, rfl⟩, Or.inl rfl⟩ Iff.rfl))

theorem b_X12_part_36 {d : Nat} {Q : Option am_V → am_H → Prop} (h : am_H) (x4 : Int64) (x2 : Int32) (l0 l1 l3 l5 : Option am_V) : ex_ (d + 1) 365 36 [l0, l1, some (v_i x2), l3, some (v_l x4), l5] [] h Q ↔ ex_ d 363 0 [some (v_i x2), none, none, none] [] h (fun r h' => ex_ (d + 1) 365 51 [l0, l1, some (v_i x2), l3, some (v_l x4), l5] (r.toList ++ [v_l x4, v_l x4]) h' Q) := by
  unfold ex_
  refine (am_Y_go 4 (ok := []) (g := (48, [l0, l1, some (v_i x2), l3, some (v_l x4), l5], [v_i x2, v_l x4, v_l x4], h)) rfl).trans ?_
  all_goals exact ((am_Y_call (j := 363) (na := 1) (ci := 12) (fl := 2) rfl rfl rfl).trans (cj_d ⟨⟨Nat.le_of_ble_eq_true rfl, Nat.le_of_ble_eq_true rfl, Nat.le_of_ble_eq_true rfl, rfl⟩, Or.inl rfl⟩ Iff.rfl))

theorem b_X12_part_45 {d : Nat} {Q : Option am_V → am_H → Prop} (h : am_H) (s0 : Int64) (x4 : Int64) (x2 : Int32) (l0 l1 l3 l5 : Option am_V) : ex_ (d + 1) 365 45 [l0, l1, some (v_i x2), l3, some (v_l x4), l5] [v_l s0] h Q ↔ ex_ d 363 0 [some (v_i x2), none, none, none] [] h (fun r h' => ex_ (d + 1) 365 51 [l0, l1, some (v_i x2), l3, some (v_l x4), l5] (r.toList ++ [v_l x4, v_l s0]) h' Q) := by
  unfold ex_
  refine (am_Y_go 2 (ok := []) (g := (48, [l0, l1, some (v_i x2), l3, some (v_l x4), l5], [v_i x2, v_l x4, v_l s0], h)) rfl).trans ?_
  all_goals exact ((am_Y_call (j := 363) (na := 1) (ci := 12) (fl := 2) rfl rfl rfl).trans (cj_d ⟨⟨Nat.le_of_ble_eq_true rfl, Nat.le_of_ble_eq_true rfl, Nat.le_of_ble_eq_true rfl, rfl⟩, Or.inl rfl⟩ Iff.rfl))

theorem b_X12_part_51 {d : Nat} {Q : Option am_V → am_H → Prop} (h : am_H) (s0 : Int64) (s1 : Int64) (s2 : Int64) (l0 l1 l2 l3 l4 l5 : Option am_V) : ex_ (d + 1) 365 51 [l0, l1, l2, l3, l4, l5] [v_l s0, v_l s1, v_l s2] h Q ↔ ex_ d 364 0 [some (v_l s1), none, some (v_l s0), none] [] h (fun r h' => ex_ (d + 1) 365 54 [l0, l1, l2, l3, l4, l5] (r.toList ++ [v_l s2]) h' Q) := by
  unfold ex_
  exact ((am_Y_call (j := 364) (na := 2) (ci := 12) (fl := 2) rfl rfl rfl).trans (cj_d ⟨⟨Nat.le_of_ble_eq_true rfl, Nat.le_of_ble_eq_true rfl, Nat.le_of_ble_eq_true rfl, rfl⟩, Or.inl rfl⟩ Iff.rfl))

theorem b_X12_part_54 {d : Nat} {Q : Option am_V → am_H → Prop} (h : am_H) (s0 : Int64) (s1 : Int64) (l0 l1 l2 l3 l4 l5 : Option am_V) : ex_ d 365 54 [l0, l1, l2, l3, l4, l5] [v_l s0, v_l s1] h Q ↔ ¬ s0 = 0 ∧ Q (some (v_i (Int64.toInt32 (s1 / s0)))) h := by
  unfold ex_
  refine (am_Y_go 2 (ok := [¬ s0 = 0]) (g := (56, [l0, l1, l2, l3, l4, l5], [v_i (Int64.toInt32 (s1 / s0))], h)) rfl).trans ?_
  simp only [am_all]
  all_goals exact cj_k Iff.rfl (((am_Y_ret rfl rfl rfl).trans (am_r0)))

theorem b_X12_chance_0 {d : Nat} {Q : Option am_V → am_H → Prop} (h : am_H) (x2 : Int32) (l1 : Option am_V) (Lh : Lay h) : ex_ (d + 1) 366 0 [some (v_r (some 93)), l1, some (v_i x2)] [] h Q ↔ ex_ d 229 0 [some (v_l (Int32.toInt64 x2)), none, some (v_l (0 : Int64)), none, some (v_l (1 : Int64)), none] [] (p_i h 93 0 (0 : Int32)) (fun r h' => ex_ (d + 1) 366 12 [some (v_r (some 93)), l1, some (v_i x2)] (r.toList ++ []) h' Q) := by
  unfold ex_
  refine (am_Y_go 7 (ok := [am_is h (some 93) 12]) (g := (9, [some (v_r (some 93)), l1, some (v_i x2)], [v_l (1 : Int64), v_l (0 : Int64), v_l (Int32.toInt64 x2)], (p_i h 93 0 (0 : Int32)))) rfl).trans ?_
  simp only [am_all]
  all_goals exact cj_d (la_is Lh (o := 93) rfl) (((am_Y_call (j := 229) (na := 3) (ci := 12) (fl := 2) rfl rfl rfl).trans (cj_d ⟨⟨Nat.le_of_ble_eq_true rfl, Nat.le_of_ble_eq_true rfl, Nat.le_of_ble_eq_true rfl, rfl⟩, Or.inl rfl⟩ Iff.rfl)))

theorem b_X12_chance_12 {d : Nat} {Q : Option am_V → am_H → Prop} (h : am_H) (s0 : Int32) (l0 l1 l2 : Option am_V) : ex_ d 366 12 [l0, l1, l2] [v_i s0] h Q ↔ if ¬ s0 = 0 then ex_ d 366 18 [l0, l1, l2] [] h Q else ex_ d 366 15 [l0, l1, l2] [] h Q := by
  unfold ex_
  refine (am_Y_go 1 (ok := []) (g := (if ¬ s0 = 0 then 18 else 15, [l0, l1, l2], [], h)) rfl).trans ?_
  all_goals exact am_Y_if

theorem b_X12_chance_18 {d : Nat} {Q : Option am_V → am_H → Prop} (h : am_H) (x1 : Int32) (l0 l2 : Option am_V) : ex_ (d + 1) 366 18 [l0, some (v_i x1), l2] [] h Q ↔ ex_ d 229 0 [some (v_l (Int32.toInt64 x1)), none, some (v_l (0 : Int64)), none, some (v_l (3 : Int64)), none] [] h (fun r h' => ex_ (d + 1) 366 27 [l0, some (v_i x1), l2] (r.toList ++ []) h' Q) := by
  unfold ex_
  refine (am_Y_go 4 (ok := []) (g := (24, [l0, some (v_i x1), l2], [v_l (3 : Int64), v_l (0 : Int64), v_l (Int32.toInt64 x1)], h)) rfl).trans ?_
  all_goals exact ((am_Y_call (j := 229) (na := 3) (ci := 12) (fl := 2) rfl rfl rfl).trans (cj_d ⟨⟨Nat.le_of_ble_eq_true rfl, Nat.le_of_ble_eq_true rfl, Nat.le_of_ble_eq_true rfl, rfl⟩, Or.inl rfl⟩ Iff.rfl))

theorem b_X12_chance_15 {d : Nat} {Q : Option am_V → am_H → Prop} (h : am_H) (l0 l1 l2 : Option am_V) : ex_ d 366 15 [l0, l1, l2] [] h Q ↔ Q (some (v_i (-2 : Int32))) h := by
  unfold ex_
  refine (am_Y_go 1 (ok := []) (g := (17, [l0, l1, l2], [v_i (-2 : Int32)], h)) rfl).trans ?_
  all_goals exact ((am_Y_ret rfl rfl rfl).trans (am_r0))

theorem b_X12_chance_27 {d : Nat} {Q : Option am_V → am_H → Prop} (h : am_H) (s0 : Int32) (l0 l1 l2 : Option am_V) : ex_ d 366 27 [l0, l1, l2] [v_i s0] h Q ↔ if s0 = 0 then ex_ d 366 40 [l0, l1, l2] [] h Q else ex_ d 366 30 [l0, l1, l2] [] h Q := by
  unfold ex_
  refine (am_Y_go 1 (ok := []) (g := (if s0 = 0 then 40 else 30, [l0, l1, l2], [], h)) rfl).trans ?_
  all_goals exact am_Y_if

theorem b_X12_chance_40 {d : Nat} {Q : Option am_V → am_H → Prop} (h : am_H) (l0 l1 l2 : Option am_V) : ex_ d 366 40 [l0, l1, l2] [] h Q ↔ Q (some (v_i (-3 : Int32))) h := by
  unfold ex_
  refine (am_Y_go 1 (ok := []) (g := (42, [l0, l1, l2], [v_i (-3 : Int32)], h)) rfl).trans ?_
  all_goals exact ((am_Y_ret rfl rfl rfl).trans (am_r0))

theorem b_X12_chance_30 {d : Nat} {Q : Option am_V → am_H → Prop} (h : am_H) (x1 : Int32) (x2 : Int32) (Lh : Lay h) : ex_ (d + 1) 366 30 [some (v_r (some 93)), some (v_i x1), some (v_i x2)] [] h Q ↔ ex_ d 365 0 [some (v_r (some 93)), some (v_i (1 : Int32)), some (v_i x1), some (v_i x2), none, none] [] h (fun r h' => ex_ (d + 1) 366 37 [some (v_r (some 93)), some (v_i x1), some (v_i x2)] (r.toList ++ []) h' Q) := by
  unfold ex_
  refine (am_Y_go 4 (ok := []) (g := (34, [some (v_r (some 93)), some (v_i x1), some (v_i x2)], [v_i x2, v_i x1, v_i (1 : Int32), v_r (some 93)], h)) rfl).trans ?_
  all_goals exact ((am_Y_call (j := 365) (na := 4) (ci := 12) (fl := 0) rfl rfl rfl).trans (cj_d ⟨⟨Nat.le_of_ble_eq_true rfl, Nat.le_of_ble_eq_true rfl, Nat.le_of_ble_eq_true rfl, rfl⟩, Or.inr (Or.inr (show (12 : Nat) < 20 ∧ am_is h (some 93) 12 from ⟨by decide, (la_is Lh (o := 93) rfl)⟩))⟩ Iff.rfl))

theorem b_X12_chance_37 {d : Nat} {Q : Option am_V → am_H → Prop} (h : am_H) (s0 : Int32) (l0 l1 l2 : Option am_V) : ex_ d 366 37 [l0, l1, l2] [v_i s0] h Q ↔ Q (some (v_i s0)) h := by
  unfold ex_
  refine (am_Y_go 1 (ok := []) (g := (42, [l0, l1, l2], [v_i s0], h)) rfl).trans ?_
  all_goals exact ((am_Y_ret rfl rfl rfl).trans (am_r0))

theorem b_X12_mean_0 {d : Nat} {Q : Option am_V → am_H → Prop} (h : am_H) (x2 : Int32) (l1 : Option am_V) (Lh : Lay h) : ex_ (d + 1) 367 0 [some (v_r (some 93)), l1, some (v_i x2)] [] h Q ↔ ex_ d 229 0 [some (v_l (Int32.toInt64 x2)), none, some (v_l (0 : Int64)), none, some (v_l (1 : Int64)), none] [] (p_i h 93 0 (0 : Int32)) (fun r h' => ex_ (d + 1) 367 12 [some (v_r (some 93)), l1, some (v_i x2)] (r.toList ++ []) h' Q) := by
  unfold ex_
  refine (am_Y_go 7 (ok := [am_is h (some 93) 12]) (g := (9, [some (v_r (some 93)), l1, some (v_i x2)], [v_l (1 : Int64), v_l (0 : Int64), v_l (Int32.toInt64 x2)], (p_i h 93 0 (0 : Int32)))) rfl).trans ?_
  simp only [am_all]
  all_goals exact cj_d (la_is Lh (o := 93) rfl) (((am_Y_call (j := 229) (na := 3) (ci := 12) (fl := 2) rfl rfl rfl).trans (cj_d ⟨⟨Nat.le_of_ble_eq_true rfl, Nat.le_of_ble_eq_true rfl, Nat.le_of_ble_eq_true rfl, rfl⟩, Or.inl rfl⟩ Iff.rfl)))

theorem b_X12_mean_12 {d : Nat} {Q : Option am_V → am_H → Prop} (h : am_H) (s0 : Int32) (l0 l1 l2 : Option am_V) : ex_ d 367 12 [l0, l1, l2] [v_i s0] h Q ↔ if ¬ s0 = 0 then ex_ d 367 18 [l0, l1, l2] [] h Q else ex_ d 367 15 [l0, l1, l2] [] h Q := by
  unfold ex_
  refine (am_Y_go 1 (ok := []) (g := (if ¬ s0 = 0 then 18 else 15, [l0, l1, l2], [], h)) rfl).trans ?_
  all_goals exact am_Y_if

theorem b_X12_mean_18 {d : Nat} {Q : Option am_V → am_H → Prop} (h : am_H) (x1 : Int32) (l0 l2 : Option am_V) : ex_ (d + 1) 367 18 [l0, some (v_i x1), l2] [] h Q ↔ ex_ d 229 0 [some (v_l (Int32.toInt64 x1)), none, some (v_l (0 : Int64)), none, some (v_l (3 : Int64)), none] [] h (fun r h' => ex_ (d + 1) 367 27 [l0, some (v_i x1), l2] (r.toList ++ []) h' Q) := by
  unfold ex_
  refine (am_Y_go 4 (ok := []) (g := (24, [l0, some (v_i x1), l2], [v_l (3 : Int64), v_l (0 : Int64), v_l (Int32.toInt64 x1)], h)) rfl).trans ?_
  all_goals exact ((am_Y_call (j := 229) (na := 3) (ci := 12) (fl := 2) rfl rfl rfl).trans (cj_d ⟨⟨Nat.le_of_ble_eq_true rfl, Nat.le_of_ble_eq_true rfl, Nat.le_of_ble_eq_true rfl, rfl⟩, Or.inl rfl⟩ Iff.rfl))

theorem b_X12_mean_15 {d : Nat} {Q : Option am_V → am_H → Prop} (h : am_H) (l0 l1 l2 : Option am_V) : ex_ d 367 15 [l0, l1, l2] [] h Q ↔ Q (some (v_i (-2 : Int32))) h := by
  unfold ex_
  refine (am_Y_go 1 (ok := []) (g := (17, [l0, l1, l2], [v_i (-2 : Int32)], h)) rfl).trans ?_
  all_goals exact ((am_Y_ret rfl rfl rfl).trans (am_r0))

theorem b_X12_mean_27 {d : Nat} {Q : Option am_V → am_H → Prop} (h : am_H) (s0 : Int32) (l0 l1 l2 : Option am_V) : ex_ d 367 27 [l0, l1, l2] [v_i s0] h Q ↔ if s0 = 0 then ex_ d 367 40 [l0, l1, l2] [] h Q else ex_ d 367 30 [l0, l1, l2] [] h Q := by
  unfold ex_
  refine (am_Y_go 1 (ok := []) (g := (if s0 = 0 then 40 else 30, [l0, l1, l2], [], h)) rfl).trans ?_
  all_goals exact am_Y_if

theorem b_X12_mean_40 {d : Nat} {Q : Option am_V → am_H → Prop} (h : am_H) (l0 l1 l2 : Option am_V) : ex_ d 367 40 [l0, l1, l2] [] h Q ↔ Q (some (v_i (-3 : Int32))) h := by
  unfold ex_
  refine (am_Y_go 1 (ok := []) (g := (42, [l0, l1, l2], [v_i (-3 : Int32)], h)) rfl).trans ?_
  all_goals exact ((am_Y_ret rfl rfl rfl).trans (am_r0))

theorem b_X12_mean_30 {d : Nat} {Q : Option am_V → am_H → Prop} (h : am_H) (x1 : Int32) (x2 : Int32) (Lh : Lay h) : ex_ (d + 1) 367 30 [some (v_r (some 93)), some (v_i x1), some (v_i x2)] [] h Q ↔ ex_ d 365 0 [some (v_r (some 93)), some (v_i (0 : Int32)), some (v_i x1), some (v_i x2), none, none] [] h (fun r h' => ex_ (d + 1) 367 37 [some (v_r (some 93)), some (v_i x1), some (v_i x2)] (r.toList ++ []) h' Q) := by
  unfold ex_
  refine (am_Y_go 4 (ok := []) (g := (34, [some (v_r (some 93)), some (v_i x1), some (v_i x2)], [v_i x2, v_i x1, v_i (0 : Int32), v_r (some 93)], h)) rfl).trans ?_
  all_goals exact ((am_Y_call (j := 365) (na := 4) (ci := 12) (fl := 0) rfl rfl rfl).trans (cj_d ⟨⟨Nat.le_of_ble_eq_true rfl, Nat.le_of_ble_eq_true rfl, Nat.le_of_ble_eq_true rfl, rfl⟩, Or.inr (Or.inr (show (12 : Nat) < 20 ∧ am_is h (some 93) 12 from ⟨by decide, (la_is Lh (o := 93) rfl)⟩))⟩ Iff.rfl))

theorem b_X12_mean_37 {d : Nat} {Q : Option am_V → am_H → Prop} (h : am_H) (s0 : Int32) (l0 l1 l2 : Option am_V) : ex_ d 367 37 [l0, l1, l2] [v_i s0] h Q ↔ Q (some (v_i s0)) h := by
  unfold ex_
  refine (am_Y_go 1 (ok := []) (g := (42, [l0, l1, l2], [v_i s0], h)) rfl).trans ?_
  all_goals exact ((am_Y_ret rfl rfl rfl).trans (am_r0))

theorem b_X12_cut_0 {d : Nat} {Q : Option am_V → am_H → Prop} (h : am_H) (x2 : Int32) (l0 l1 : Option am_V) : ex_ d 368 0 [l0, l1, some (v_i x2)] [] h Q ↔ if ¬ x2 = 0 then ex_ d 368 11 [l0, l1, some (v_i x2)] [] h Q else ex_ d 368 4 [l0, l1, some (v_i x2)] [] h Q := by
  unfold ex_
  refine (am_Y_go 2 (ok := []) (g := (if ¬ x2 = 0 then 11 else 4, [l0, l1, some (v_i x2)], [], h)) rfl).trans ?_
  all_goals exact am_Y_if

theorem b_X12_cut_11 {d : Nat} {Q : Option am_V → am_H → Prop} (h : am_H) (x2 : Int32) (l0 l1 : Option am_V) : ex_ d 368 11 [l0, l1, some (v_i x2)] [] h Q ↔ if ¬ x2 = (1 : Int32) then ex_ d 368 23 [l0, l1, some (v_i x2)] [] h Q else ex_ d 368 16 [l0, l1, some (v_i x2)] [] h Q := by
  unfold ex_
  refine (am_Y_go 3 (ok := []) (g := (if ¬ x2 = (1 : Int32) then 23 else 16, [l0, l1, some (v_i x2)], [], h)) rfl).trans ?_
  all_goals exact am_Y_if

theorem b_X12_cut_4 {d : Nat} {Q : Option am_V → am_H → Prop} (h : am_H) (x0 : Int64) (l1 l2 : Option am_V) : ex_ d 368 4 [some (v_l x0), l1, l2] [] h Q ↔ Q (some (v_l (Int32.toInt64 (Int8.toInt32 (Int32.toInt8 (Int64.toInt32 x0)))))) h := by
  unfold ex_
  refine (am_Y_go 5 (ok := []) (g := (35, [some (v_l x0), l1, l2], [v_l (Int32.toInt64 (Int8.toInt32 (Int32.toInt8 (Int64.toInt32 x0))))], h)) rfl).trans ?_
  all_goals exact ((am_Y_ret rfl rfl rfl).trans (am_rz rfl))

theorem b_X12_cut_23 {d : Nat} {Q : Option am_V → am_H → Prop} (h : am_H) (x2 : Int32) (l0 l1 : Option am_V) : ex_ d 368 23 [l0, l1, some (v_i x2)] [] h Q ↔ if ¬ x2 = (2 : Int32) then ex_ d 368 34 [l0, l1, some (v_i x2)] [] h Q else ex_ d 368 28 [l0, l1, some (v_i x2)] [] h Q := by
  unfold ex_
  refine (am_Y_go 3 (ok := []) (g := (if ¬ x2 = (2 : Int32) then 34 else 28, [l0, l1, some (v_i x2)], [], h)) rfl).trans ?_
  all_goals exact am_Y_if

theorem b_X12_cut_16 {d : Nat} {Q : Option am_V → am_H → Prop} (h : am_H) (x0 : Int64) (l1 l2 : Option am_V) : ex_ d 368 16 [some (v_l x0), l1, l2] [] h Q ↔ Q (some (v_l (Int32.toInt64 (Int16.toInt32 (Int32.toInt16 (Int64.toInt32 x0)))))) h := by
  unfold ex_
  refine (am_Y_go 5 (ok := []) (g := (35, [some (v_l x0), l1, l2], [v_l (Int32.toInt64 (Int16.toInt32 (Int32.toInt16 (Int64.toInt32 x0))))], h)) rfl).trans ?_
  all_goals exact ((am_Y_ret rfl rfl rfl).trans (am_rz rfl))

theorem b_X12_cut_34 {d : Nat} {Q : Option am_V → am_H → Prop} (h : am_H) (x0 : Int64) (l1 l2 : Option am_V) : ex_ d 368 34 [some (v_l x0), l1, l2] [] h Q ↔ Q (some (v_l x0)) h := by
  unfold ex_
  refine (am_Y_go 1 (ok := []) (g := (35, [some (v_l x0), l1, l2], [v_l x0], h)) rfl).trans ?_
  all_goals exact ((am_Y_ret rfl rfl rfl).trans (am_rz rfl))

theorem b_X12_cut_28 {d : Nat} {Q : Option am_V → am_H → Prop} (h : am_H) (x0 : Int64) (l1 l2 : Option am_V) : ex_ d 368 28 [some (v_l x0), l1, l2] [] h Q ↔ Q (some (v_l (Int32.toInt64 (Int64.toInt32 x0)))) h := by
  unfold ex_
  refine (am_Y_go 4 (ok := []) (g := (35, [some (v_l x0), l1, l2], [v_l (Int32.toInt64 (Int64.toInt32 x0))], h)) rfl).trans ?_
  all_goals exact ((am_Y_ret rfl rfl rfl).trans (am_rz rfl))

theorem b_X12_numbers_0 {d : Nat} {Q : Option am_V → am_H → Prop} (h : am_H) (x1 : Int32) (l2 l3 l4 : Option am_V) (Lh : Lay h) : ex_ (d + 1) 369 0 [some (v_r (some 93)), some (v_i x1), l2, l3, l4] [] h Q ↔ ex_ d 229 0 [some (v_l (Int32.toInt64 x1)), none, some (v_l (0 : Int64)), none, some (v_l (3 : Int64)), none] [] (p_i h 93 0 (0 : Int32)) (fun r h' => ex_ (d + 1) 369 14 [some (v_r (some 93)), some (v_i x1), l2, l3, l4] (r.toList ++ []) h' Q) := by
  unfold ex_
  refine (am_Y_go 7 (ok := [am_is h (some 93) 12]) (g := (11, [some (v_r (some 93)), some (v_i x1), l2, l3, l4], [v_l (3 : Int64), v_l (0 : Int64), v_l (Int32.toInt64 x1)], (p_i h 93 0 (0 : Int32)))) rfl).trans ?_
  simp only [am_all]
  all_goals exact cj_d (la_is Lh (o := 93) rfl) (((am_Y_call (j := 229) (na := 3) (ci := 12) (fl := 2) rfl rfl rfl).trans (cj_d ⟨⟨Nat.le_of_ble_eq_true rfl, Nat.le_of_ble_eq_true rfl, Nat.le_of_ble_eq_true rfl, rfl⟩, Or.inl rfl⟩ Iff.rfl)))

theorem b_X12_numbers_14 {d : Nat} {Q : Option am_V → am_H → Prop} (h : am_H) (s0 : Int32) (l0 l1 l2 l3 l4 : Option am_V) : ex_ d 369 14 [l0, l1, l2, l3, l4] [v_i s0] h Q ↔ if s0 = 0 then ex_ d 369 29 [l0, l1, l2, l3, l4] [] h Q else ex_ d 369 17 [l0, l1, l2, l3, l4] [] h Q := by
  unfold ex_
  refine (am_Y_go 1 (ok := []) (g := (if s0 = 0 then 29 else 17, [l0, l1, l2, l3, l4], [], h)) rfl).trans ?_
  all_goals exact am_Y_if

theorem b_X12_numbers_29 {d : Nat} {Q : Option am_V → am_H → Prop} (h : am_H) (l0 l1 l2 l3 l4 : Option am_V) : ex_ d 369 29 [l0, l1, l2, l3, l4] [] h Q ↔ Q (some (v_i (-2 : Int32))) h := by
  unfold ex_
  refine (am_Y_go 1 (ok := []) (g := (31, [l0, l1, l2, l3, l4], [v_i (-2 : Int32)], h)) rfl).trans ?_
  all_goals exact ((am_Y_ret rfl rfl rfl).trans (am_r0))

theorem b_X12_numbers_17 {d : Nat} {Q : Option am_V → am_H → Prop} (h : am_H) (x2 : Int32) (l0 l1 l3 l4 : Option am_V) : ex_ (d + 1) 369 17 [l0, l1, some (v_i x2), l3, l4] [] h Q ↔ ex_ d 229 0 [some (v_l (Int32.toInt64 x2)), none, some (v_l (0 : Int64)), none, some (v_l (3 : Int64)), none] [] h (fun r h' => ex_ (d + 1) 369 26 [l0, l1, some (v_i x2), l3, l4] (r.toList ++ []) h' Q) := by
  unfold ex_
  refine (am_Y_go 4 (ok := []) (g := (23, [l0, l1, some (v_i x2), l3, l4], [v_l (3 : Int64), v_l (0 : Int64), v_l (Int32.toInt64 x2)], h)) rfl).trans ?_
  all_goals exact ((am_Y_call (j := 229) (na := 3) (ci := 12) (fl := 2) rfl rfl rfl).trans (cj_d ⟨⟨Nat.le_of_ble_eq_true rfl, Nat.le_of_ble_eq_true rfl, Nat.le_of_ble_eq_true rfl, rfl⟩, Or.inl rfl⟩ Iff.rfl))

theorem b_X12_numbers_26 {d : Nat} {Q : Option am_V → am_H → Prop} (h : am_H) (s0 : Int32) (l0 l1 l2 l3 l4 : Option am_V) : ex_ d 369 26 [l0, l1, l2, l3, l4] [v_i s0] h Q ↔ if ¬ s0 = 0 then ex_ d 369 32 [l0, l1, l2, l3, l4] [] h Q else ex_ d 369 29 [l0, l1, l2, l3, l4] [] h Q := by
  unfold ex_
  refine (am_Y_go 1 (ok := []) (g := (if ¬ s0 = 0 then 32 else 29, [l0, l1, l2, l3, l4], [], h)) rfl).trans ?_
  all_goals exact am_Y_if

theorem b_X12_numbers_32 {d : Nat} {Q : Option am_V → am_H → Prop} (h : am_H) (x3 : Int32) (l0 l1 l2 l4 : Option am_V) : ex_ (d + 1) 369 32 [l0, l1, l2, some (v_i x3), l4] [] h Q ↔ ex_ d 229 0 [some (v_l (Int32.toInt64 x3)), none, some (v_l (0 : Int64)), none, some (v_l (40 : Int64)), none] [] h (fun r h' => ex_ (d + 1) 369 41 [l0, l1, l2, some (v_i x3), l4] (r.toList ++ []) h' Q) := by
  unfold ex_
  refine (am_Y_go 4 (ok := []) (g := (38, [l0, l1, l2, some (v_i x3), l4], [v_l (40 : Int64), v_l (0 : Int64), v_l (Int32.toInt64 x3)], h)) rfl).trans ?_
  all_goals exact ((am_Y_call (j := 229) (na := 3) (ci := 12) (fl := 2) rfl rfl rfl).trans (cj_d ⟨⟨Nat.le_of_ble_eq_true rfl, Nat.le_of_ble_eq_true rfl, Nat.le_of_ble_eq_true rfl, rfl⟩, Or.inl rfl⟩ Iff.rfl))

theorem b_X12_numbers_41 {d : Nat} {Q : Option am_V → am_H → Prop} (h : am_H) (s0 : Int32) (l0 l1 l2 l3 l4 : Option am_V) : ex_ d 369 41 [l0, l1, l2, l3, l4] [v_i s0] h Q ↔ if ¬ s0 = 0 then ex_ d 369 47 [l0, l1, l2, l3, l4] [] h Q else ex_ d 369 44 [l0, l1, l2, l3, l4] [] h Q := by
  unfold ex_
  refine (am_Y_go 1 (ok := []) (g := (if ¬ s0 = 0 then 47 else 44, [l0, l1, l2, l3, l4], [], h)) rfl).trans ?_
  all_goals exact am_Y_if

theorem b_X12_numbers_47 {d : Nat} {Q : Option am_V → am_H → Prop} (h : am_H) (x1 : Int32) (x2 : Int32) (x3 : Int32) (l4 : Option am_V) (Lh : Lay h) : ex_ d 369 47 [some (v_r (some 93)), some (v_i x1), some (v_i x2), some (v_i x3), l4] [] h Q ↔ vp_in x1 4 ∧ vp_in x1 4 ∧ ex_ d 369 64 [some (v_r (some 93)), some (v_i x1), some (v_i x2), some (v_i x3), some (v_i (0 : Int32))] [] (p_i (p_i h 115 (Int32.toNatClampNeg x1) x2) 116 (Int32.toNatClampNeg x1) x3) Q := by
  have e0 : h_r h 93 41 = some 115 := la_r Lh (q := (93, 41, 115)) (by decide)
  have e1 : h_r h 93 42 = some 116 := la_r Lh (q := (93, 42, 116)) (by decide)
  unfold ex_
  refine (am_Y_go 12 (ok := [am_is h (some 93) 12, am_ar h ((h_r h 93 41)) 20 x1, am_is h (some 93) 12, am_ar h ((h_r h 93 42)) 20 x1]) (g := (64, [some (v_r (some 93)), some (v_i x1), some (v_i x2), some (v_i x3), some (v_i (0 : Int32))], [], (p_i (p_i h ((h_r h 93 41).getD 0) (Int32.toNatClampNeg x1) x2) ((h_r h 93 42).getD 0) (Int32.toNatClampNeg x1) x3))) rfl).trans ?_
  simp only [e0, e1, Option.getD_some, am_all]
  all_goals exact cj_d (la_is Lh (o := 93) rfl) (cj_k (la_ar Lh (o := 115) rfl) (cj_d (la_is Lh (o := 93) rfl) (cj_k (la_ar Lh (o := 116) rfl) (Iff.rfl))))

theorem b_X12_numbers_44 {d : Nat} {Q : Option am_V → am_H → Prop} (h : am_H) (l0 l1 l2 l3 l4 : Option am_V) : ex_ d 369 44 [l0, l1, l2, l3, l4] [] h Q ↔ Q (some (v_i (-3 : Int32))) h := by
  unfold ex_
  refine (am_Y_go 1 (ok := []) (g := (46, [l0, l1, l2, l3, l4], [v_i (-3 : Int32)], h)) rfl).trans ?_
  all_goals exact ((am_Y_ret rfl rfl rfl).trans (am_r0))

theorem b_X12_numbers_64 {d : Nat} {Q : Option am_V → am_H → Prop} (h : am_H) (x4 : Int32) (x3 : Int32) (l0 l1 l2 : Option am_V) : ex_ d 369 64 [l0, l1, l2, some (v_i x3), some (v_i x4)] [] h Q ↔ if x3 ≤ x4 then ex_ d 369 89 [l0, l1, l2, some (v_i x3), some (v_i x4)] [] h Q else ex_ d 369 70 [l0, l1, l2, some (v_i x3), some (v_i x4)] [] h Q := by
  unfold ex_
  refine (am_Y_go 3 (ok := []) (g := (if x3 ≤ x4 then 89 else 70, [l0, l1, l2, some (v_i x3), some (v_i x4)], [], h)) rfl).trans ?_
  all_goals exact am_Y_if

theorem b_X12_numbers_89 {d : Nat} {Q : Option am_V → am_H → Prop} (h : am_H) (l0 l1 l2 l3 l4 : Option am_V) : ex_ d 369 89 [l0, l1, l2, l3, l4] [] h Q ↔ Q (some (v_i (0 : Int32))) h := by
  unfold ex_
  refine (am_Y_go 1 (ok := []) (g := (90, [l0, l1, l2, l3, l4], [v_i (0 : Int32)], h)) rfl).trans ?_
  all_goals exact ((am_Y_ret rfl rfl rfl).trans (am_r0))

theorem b_X12_numbers_70 {d : Nat} {Q : Option am_V → am_H → Prop} (h : am_H) (x1 : Int32) (x4 : Int32) (l2 l3 : Option am_V) (Lh : Lay h) : ex_ d 369 70 [some (v_r (some 93)), some (v_i x1), l2, l3, some (v_i x4)] [] h Q ↔ vp_in (((40 : Int32) * x1) + x4) 160 ∧ ex_ d 369 64 [some (v_r (some 93)), some (v_i x1), l2, l3, some (v_i (x4 + (1 : Int32)))] [] (p_j h 117 (Int32.toNatClampNeg (((40 : Int32) * x1) + x4)) (0 : Int64)) Q := by
  have e0 : h_r h 93 43 = some 117 := la_r Lh (q := (93, 43, 117)) (by decide)
  unfold ex_
  refine (am_Y_go 11 (ok := [am_is h (some 93) 12, am_ar h ((h_r h 93 43)) 23 (((40 : Int32) * x1) + x4)]) (g := (64, [some (v_r (some 93)), some (v_i x1), l2, l3, some (v_i (x4 + (1 : Int32)))], [], (p_j h ((h_r h 93 43).getD 0) (Int32.toNatClampNeg (((40 : Int32) * x1) + x4)) (0 : Int64)))) rfl).trans ?_
  simp only [e0, Option.getD_some, am_all]
  all_goals exact cj_d (la_is Lh (o := 93) rfl) (cj_k (la_ar Lh (o := 117) rfl) (Iff.rfl))

theorem b_X12_write_0 {d : Nat} {Q : Option am_V → am_H → Prop} (h : am_H) (x1 : Int32) (l2 l3 l4 l5 : Option am_V) (Lh : Lay h) : ex_ (d + 1) 370 0 [some (v_r (some 93)), some (v_i x1), l2, l3, l4, l5] [] h Q ↔ ex_ d 303 0 [some (v_r (some 93)), some (v_i x1)] [] (p_i h 93 0 (0 : Int32)) (fun r h' => ex_ (d + 1) 370 10 [some (v_r (some 93)), some (v_i x1), l2, l3, l4, l5] (r.toList ++ []) h' Q) := by
  unfold ex_
  refine (am_Y_go 5 (ok := [am_is h (some 93) 12]) (g := (7, [some (v_r (some 93)), some (v_i x1), l2, l3, l4, l5], [v_i x1, v_r (some 93)], (p_i h 93 0 (0 : Int32)))) rfl).trans ?_
  simp only [am_all]
  all_goals exact cj_d (la_is Lh (o := 93) rfl) (((am_Y_call (j := 303) (na := 2) (ci := 12) (fl := 0) rfl rfl rfl).trans (cj_d ⟨⟨Nat.le_of_ble_eq_true rfl, Nat.le_of_ble_eq_true rfl, Nat.le_of_ble_eq_true rfl, rfl⟩, Or.inr (Or.inr (show (12 : Nat) < 20 ∧ am_is h (some 93) 12 from ⟨by decide, (la_is Lh (o := 93) rfl)⟩))⟩ Iff.rfl)))

theorem b_X12_write_10 {d : Nat} {Q : Option am_V → am_H → Prop} (h : am_H) (s0 : Int32) (l0 l1 l2 l3 l4 l5 : Option am_V) : ex_ d 370 10 [l0, l1, l2, l3, l4, l5] [v_i s0] h Q ↔ if s0 = 0 then ex_ d 370 21 [l0, l1, l2, l3, l4, some (v_i s0)] [] h Q else ex_ d 370 17 [l0, l1, l2, l3, l4, some (v_i s0)] [] h Q := by
  unfold ex_
  refine (am_Y_go 3 (ok := []) (g := (if s0 = 0 then 21 else 17, [l0, l1, l2, l3, l4, some (v_i s0)], [], h)) rfl).trans ?_
  all_goals exact am_Y_if

theorem b_X12_write_21 {d : Nat} {Q : Option am_V → am_H → Prop} (h : am_H) (x2 : Int32) (x1 : Int32) (l3 l4 l5 : Option am_V) (Lh : Lay h) : ex_ (d + 1) 370 21 [some (v_r (some 93)), some (v_i x1), some (v_i x2), l3, l4, l5] [] h Q ↔ vp_in x1 4 ∧ ex_ d 229 0 [some (v_l (Int32.toInt64 x2)), none, some (v_l (0 : Int64)), none, some (v_l (Int32.toInt64 ((h_i h 116 (Int32.toNatClampNeg x1)) - (1 : Int32)))), none] [] h (fun r h' => ex_ (d + 1) 370 36 [some (v_r (some 93)), some (v_i x1), some (v_i x2), l3, l4, l5] (r.toList ++ []) h' Q) := by
  have e0 : h_r h 93 42 = some 116 := la_r Lh (q := (93, 42, 116)) (by decide)
  unfold ex_
  refine (am_Y_go 10 (ok := [am_is h (some 93) 12, am_ar h ((h_r h 93 42)) 20 x1]) (g := (33, [some (v_r (some 93)), some (v_i x1), some (v_i x2), l3, l4, l5], [v_l (Int32.toInt64 ((h_i h ((h_r h 93 42).getD 0) (Int32.toNatClampNeg x1)) - (1 : Int32))), v_l (0 : Int64), v_l (Int32.toInt64 x2)], h)) rfl).trans ?_
  simp only [e0, Option.getD_some, am_all]
  all_goals exact cj_d (la_is Lh (o := 93) rfl) (cj_k (la_ar Lh (o := 116) rfl) (((am_Y_call (j := 229) (na := 3) (ci := 12) (fl := 2) rfl rfl rfl).trans (cj_d ⟨⟨Nat.le_of_ble_eq_true rfl, Nat.le_of_ble_eq_true rfl, Nat.le_of_ble_eq_true rfl, rfl⟩, Or.inl rfl⟩ Iff.rfl))))

theorem b_X12_write_17 {d : Nat} {Q : Option am_V → am_H → Prop} (h : am_H) (x5 : Int32) (l0 l1 l2 l3 l4 : Option am_V) : ex_ d 370 17 [l0, l1, l2, l3, l4, some (v_i x5)] [] h Q ↔ Q (some (v_l (Int32.toInt64 x5))) h := by
  unfold ex_
  refine (am_Y_go 2 (ok := []) (g := (20, [l0, l1, l2, l3, l4, some (v_i x5)], [v_l (Int32.toInt64 x5)], h)) rfl).trans ?_
  all_goals exact ((am_Y_ret rfl rfl rfl).trans (am_rz rfl))

theorem b_X12_write_36 {d : Nat} {Q : Option am_V → am_H → Prop} (h : am_H) (s0 : Int32) (l0 l1 l2 l3 l4 l5 : Option am_V) : ex_ d 370 36 [l0, l1, l2, l3, l4, l5] [v_i s0] h Q ↔ if ¬ s0 = 0 then ex_ d 370 43 [l0, l1, l2, l3, l4, l5] [] h Q else ex_ d 370 39 [l0, l1, l2, l3, l4, l5] [] h Q := by
  unfold ex_
  refine (am_Y_go 1 (ok := []) (g := (if ¬ s0 = 0 then 43 else 39, [l0, l1, l2, l3, l4, l5], [], h)) rfl).trans ?_
  all_goals exact am_Y_if

theorem b_X12_write_43 {d : Nat} {Q : Option am_V → am_H → Prop} (h : am_H) (x1 : Int32) (x2 : Int32) (x3 : Int64) (l4 l5 : Option am_V) (Lh : Lay h) : ex_ (d + 1) 370 43 [some (v_r (some 93)), some (v_i x1), some (v_i x2), some (v_l x3), l4, l5] [] h Q ↔ vp_in x1 4 ∧ ex_ d 368 0 [some (v_l x3), none, some (v_i (h_i h 115 (Int32.toNatClampNeg x1)))] [] h (fun r h' => ex_ (d + 1) 370 63 [some (v_r (some 93)), some (v_i x1), some (v_i x2), some (v_l x3), l4, l5] (r.toList ++ [v_i (((40 : Int32) * x1) + x2), v_r (some 117)]) h' Q) := by
  have e0 : h_r h 93 43 = some 117 := la_r Lh (q := (93, 43, 117)) (by decide)
  have e1 : h_r h 93 41 = some 115 := la_r Lh (q := (93, 41, 115)) (by decide)
  unfold ex_
  refine (am_Y_go 12 (ok := [am_is h (some 93) 12, am_is h (some 93) 12, am_ar h ((h_r h 93 41)) 20 x1]) (g := (60, [some (v_r (some 93)), some (v_i x1), some (v_i x2), some (v_l x3), l4, l5], [v_i (h_i h ((h_r h 93 41).getD 0) (Int32.toNatClampNeg x1)), v_l x3, v_i (((40 : Int32) * x1) + x2), v_r ((h_r h 93 43))], h)) rfl).trans ?_
  simp only [e0, e1, Option.getD_some, am_all]
  all_goals exact cj_d (la_is Lh (o := 93) rfl) (cj_d (la_is Lh (o := 93) rfl) (cj_k (la_ar Lh (o := 115) rfl) (((am_Y_call (j := 368) (na := 2) (ci := 12) (fl := 2) rfl rfl rfl).trans (cj_d ⟨⟨Nat.le_of_ble_eq_true rfl, Nat.le_of_ble_eq_true rfl, Nat.le_of_ble_eq_true rfl, rfl⟩, Or.inl rfl⟩ Iff.rfl)))))

theorem b_X12_write_39 {d : Nat} {Q : Option am_V → am_H → Prop} (h : am_H) (l0 l1 l2 l3 l4 l5 : Option am_V) : ex_ d 370 39 [l0, l1, l2, l3, l4, l5] [] h Q ↔ Q (some (v_l (-7 : Int64))) h := by
  unfold ex_
  refine (am_Y_go 1 (ok := []) (g := (42, [l0, l1, l2, l3, l4, l5], [v_l (-7 : Int64)], h)) rfl).trans ?_
  all_goals exact ((am_Y_ret rfl rfl rfl).trans (am_rz rfl))

theorem b_X12_write_63 {d : Nat} {Q : Option am_V → am_H → Prop} (h : am_H) (s0 : Int64) (s1 : Int32) (t2 : Nat) (x1 : Int32) (x2 : Int32) (l3 l4 l5 : Option am_V) (Lh : Lay h) {n_t2 : Nat} (A_t2 : y_arr h t2 23 n_t2) : ex_ d 370 63 [some (v_r (some 93)), some (v_i x1), some (v_i x2), l3, l4, l5] [v_l s0, v_i s1, v_r (some t2)] h Q ↔ vp_in s1 n_t2 ∧ vp_in (((40 : Int32) * x1) + x2) 160 ∧ Q (some (v_l (h_j (p_j h t2 (Int32.toNatClampNeg s1) s0) 117 (Int32.toNatClampNeg (((40 : Int32) * x1) + x2))))) (p_j h t2 (Int32.toNatClampNeg s1) s0) := by
  have e0 : h_r h 93 43 = some 117 := la_r Lh (q := (93, 43, 117)) (by decide)
  unfold ex_
  refine (am_Y_go 9 (ok := [am_ar h (some t2) 23 s1, am_is h (some 93) 12, am_ar h ((h_r h 93 43)) 23 (((40 : Int32) * x1) + x2)]) (g := (75, [some (v_r (some 93)), some (v_i x1), some (v_i x2), l3, l4, l5], [v_l (h_j (p_j h t2 (Int32.toNatClampNeg s1) s0) ((h_r h 93 43).getD 0) (Int32.toNatClampNeg (((40 : Int32) * x1) + x2)))], (p_j h t2 (Int32.toNatClampNeg s1) s0))) rfl).trans ?_
  simp only [e0, Option.getD_some, am_all]
  all_goals exact cj_k (lb_ar A_t2) (cj_d (la_is Lh (o := 93) rfl) (cj_k (la_ar Lh (o := 117) rfl) (((am_Y_ret rfl rfl rfl).trans (am_rz rfl)))))

theorem b_X12_lists_0 {d : Nat} {Q : Option am_V → am_H → Prop} (h : am_H) (x1 : Int32) (l2 l3 l4 l5 : Option am_V) (Lh : Lay h) : ex_ (d + 1) 371 0 [some (v_r (some 93)), some (v_i x1), l2, l3, l4, l5] [] h Q ↔ ex_ d 229 0 [some (v_l (Int32.toInt64 x1)), none, some (v_l (0 : Int64)), none, some (v_l (3 : Int64)), none] [] (p_i h 93 0 (0 : Int32)) (fun r h' => ex_ (d + 1) 371 14 [some (v_r (some 93)), some (v_i x1), l2, l3, l4, l5] (r.toList ++ []) h' Q) := by
  unfold ex_
  refine (am_Y_go 7 (ok := [am_is h (some 93) 12]) (g := (11, [some (v_r (some 93)), some (v_i x1), l2, l3, l4, l5], [v_l (3 : Int64), v_l (0 : Int64), v_l (Int32.toInt64 x1)], (p_i h 93 0 (0 : Int32)))) rfl).trans ?_
  simp only [am_all]
  all_goals exact cj_d (la_is Lh (o := 93) rfl) (((am_Y_call (j := 229) (na := 3) (ci := 12) (fl := 2) rfl rfl rfl).trans (cj_d ⟨⟨Nat.le_of_ble_eq_true rfl, Nat.le_of_ble_eq_true rfl, Nat.le_of_ble_eq_true rfl, rfl⟩, Or.inl rfl⟩ Iff.rfl)))

theorem b_X12_lists_14 {d : Nat} {Q : Option am_V → am_H → Prop} (h : am_H) (s0 : Int32) (l0 l1 l2 l3 l4 l5 : Option am_V) : ex_ d 371 14 [l0, l1, l2, l3, l4, l5] [v_i s0] h Q ↔ if s0 = 0 then ex_ d 371 26 [l0, l1, l2, l3, l4, l5] [] h Q else ex_ d 371 17 [l0, l1, l2, l3, l4, l5] [] h Q := by
  unfold ex_
  refine (am_Y_go 1 (ok := []) (g := (if s0 = 0 then 26 else 17, [l0, l1, l2, l3, l4, l5], [], h)) rfl).trans ?_
  all_goals exact am_Y_if

theorem b_X12_lists_26 {d : Nat} {Q : Option am_V → am_H → Prop} (h : am_H) (l0 l1 l2 l3 l4 l5 : Option am_V) : ex_ d 371 26 [l0, l1, l2, l3, l4, l5] [] h Q ↔ Q (some (v_i (-2 : Int32))) h := by
  unfold ex_
  refine (am_Y_go 1 (ok := []) (g := (28, [l0, l1, l2, l3, l4, l5], [v_i (-2 : Int32)], h)) rfl).trans ?_
  all_goals exact ((am_Y_ret rfl rfl rfl).trans (am_r0))

theorem b_X12_lists_17 {d : Nat} {Q : Option am_V → am_H → Prop} (h : am_H) (x2 : Int32) (l1 l3 l4 l5 : Option am_V) (Lh : Lay h) : ex_ (d + 1) 371 17 [some (v_r (some 93)), l1, some (v_i x2), l3, l4, l5] [] h Q ↔ ex_ d 262 0 [some (v_r (some 93)), some (v_l (Int32.toInt64 x2)), none] [] h (fun r h' => ex_ (d + 1) 371 23 [some (v_r (some 93)), l1, some (v_i x2), l3, l4, l5] (r.toList ++ []) h' Q) := by
  unfold ex_
  refine (am_Y_go 3 (ok := []) (g := (20, [some (v_r (some 93)), l1, some (v_i x2), l3, l4, l5], [v_l (Int32.toInt64 x2), v_r (some 93)], h)) rfl).trans ?_
  all_goals exact ((am_Y_call (j := 262) (na := 2) (ci := 12) (fl := 0) rfl rfl rfl).trans (cj_d ⟨⟨Nat.le_of_ble_eq_true rfl, Nat.le_of_ble_eq_true rfl, Nat.le_of_ble_eq_true rfl, rfl⟩, Or.inr (Or.inr (show (12 : Nat) < 20 ∧ am_is h (some 93) 12 from ⟨by decide, (la_is Lh (o := 93) rfl)⟩))⟩ Iff.rfl))

theorem b_X12_lists_23 {d : Nat} {Q : Option am_V → am_H → Prop} (h : am_H) (s0 : Int32) (l0 l1 l2 l3 l4 l5 : Option am_V) : ex_ d 371 23 [l0, l1, l2, l3, l4, l5] [v_i s0] h Q ↔ if ¬ s0 = 0 then ex_ d 371 29 [l0, l1, l2, l3, l4, l5] [] h Q else ex_ d 371 26 [l0, l1, l2, l3, l4, l5] [] h Q := by
  unfold ex_
  refine (am_Y_go 1 (ok := []) (g := (if ¬ s0 = 0 then 29 else 26, [l0, l1, l2, l3, l4, l5], [], h)) rfl).trans ?_
  all_goals exact am_Y_if

theorem b_X12_lists_29 {d : Nat} {Q : Option am_V → am_H → Prop} (h : am_H) (x1 : Int32) (l2 l3 l4 l5 : Option am_V) (Lh : Lay h) : ex_ (d + 1) 371 29 [some (v_r (some 93)), some (v_i x1), l2, l3, l4, l5] [] h Q ↔ ex_ d 303 0 [some (v_r (some 93)), some (v_i x1)] [] h (fun r h' => ex_ (d + 1) 371 34 [some (v_r (some 93)), some (v_i x1), l2, l3, l4, l5] (r.toList ++ []) h' Q) := by
  unfold ex_
  refine (am_Y_go 2 (ok := []) (g := (31, [some (v_r (some 93)), some (v_i x1), l2, l3, l4, l5], [v_i x1, v_r (some 93)], h)) rfl).trans ?_
  all_goals exact ((am_Y_call (j := 303) (na := 2) (ci := 12) (fl := 0) rfl rfl rfl).trans (cj_d ⟨⟨Nat.le_of_ble_eq_true rfl, Nat.le_of_ble_eq_true rfl, Nat.le_of_ble_eq_true rfl, rfl⟩, Or.inr (Or.inr (show (12 : Nat) < 20 ∧ am_is h (some 93) 12 from ⟨by decide, (la_is Lh (o := 93) rfl)⟩))⟩ Iff.rfl))

theorem b_X12_lists_34 {d : Nat} {Q : Option am_V → am_H → Prop} (h : am_H) (s0 : Int32) (l0 l1 l2 l3 l4 l5 : Option am_V) : ex_ d 371 34 [l0, l1, l2, l3, l4, l5] [v_i s0] h Q ↔ if s0 = 0 then ex_ d 371 41 [l0, l1, l2, some (v_i s0), l4, l5] [] h Q else ex_ d 371 39 [l0, l1, l2, some (v_i s0), l4, l5] [] h Q := by
  unfold ex_
  refine (am_Y_go 3 (ok := []) (g := (if s0 = 0 then 41 else 39, [l0, l1, l2, some (v_i s0), l4, l5], [], h)) rfl).trans ?_
  all_goals exact am_Y_if

theorem b_X12_lists_41 {d : Nat} {Q : Option am_V → am_H → Prop} (h : am_H) (l1 l2 l3 l4 l5 : Option am_V) (Lh : Lay h) : ex_ (d + 1) 371 41 [some (v_r (some 93)), l1, l2, l3, l4, l5] [] h Q ↔ ex_ d 271 0 [some (v_r (some 93)), none] [] h (fun r h' => ex_ (d + 1) 371 45 [some (v_r (some 93)), l1, l2, l3, l4, l5] (r.toList ++ []) h' Q) := by
  unfold ex_
  refine (am_Y_go 1 (ok := []) (g := (42, [some (v_r (some 93)), l1, l2, l3, l4, l5], [v_r (some 93)], h)) rfl).trans ?_
  all_goals exact ((am_Y_call (j := 271) (na := 1) (ci := 12) (fl := 0) rfl rfl rfl).trans (cj_d ⟨⟨Nat.le_of_ble_eq_true rfl, Nat.le_of_ble_eq_true rfl, Nat.le_of_ble_eq_true rfl, rfl⟩, Or.inr (Or.inr (show (12 : Nat) < 20 ∧ am_is h (some 93) 12 from ⟨by decide, (la_is Lh (o := 93) rfl)⟩))⟩ Iff.rfl))

theorem b_X12_lists_39 {d : Nat} {Q : Option am_V → am_H → Prop} (h : am_H) (x3 : Int32) (l0 l1 l2 l4 l5 : Option am_V) : ex_ d 371 39 [l0, l1, l2, some (v_i x3), l4, l5] [] h Q ↔ Q (some (v_i x3)) h := by
  unfold ex_
  refine (am_Y_go 1 (ok := []) (g := (40, [l0, l1, l2, some (v_i x3), l4, l5], [v_i x3], h)) rfl).trans ?_
  all_goals exact ((am_Y_ret rfl rfl rfl).trans (am_r0))

theorem b_X12_lists_45 {d : Nat} {Q : Option am_V → am_H → Prop} (h : am_H) (x2 : Int32) (l1 l3 l4 l5 : Option am_V) (Lh : Lay h) : ex_ d 371 45 [some (v_r (some 93)), l1, some (v_i x2), l3, l4, l5] [] h Q ↔ vp_in x2 11 ∧ (if (h_i h 100 (Int32.toNatClampNeg x2)) = 0 then ex_ d 371 57 [some (v_r (some 93)), l1, some (v_i x2), l3, l4, l5] [] h Q else ex_ d 371 54 [some (v_r (some 93)), l1, some (v_i x2), l3, l4, l5] [] h Q) := by
  have e0 : h_r h 93 18 = some 100 := la_r Lh (q := (93, 18, 100)) (by decide)
  unfold ex_
  refine (am_Y_go 5 (ok := [am_is h (some 93) 12, am_ar h ((h_r h 93 18)) 20 x2]) (g := (if (h_i h ((h_r h 93 18).getD 0) (Int32.toNatClampNeg x2)) = 0 then 57 else 54, [some (v_r (some 93)), l1, some (v_i x2), l3, l4, l5], [], h)) rfl).trans ?_
  simp only [e0, Option.getD_some, am_all]
  all_goals exact cj_d (la_is Lh (o := 93) rfl) (cj_k (la_ar Lh (o := 100) rfl) (am_Y_if))

theorem b_X12_lists_57 {d : Nat} {Q : Option am_V → am_H → Prop} (h : am_H) (x2 : Int32) (x1 : Int32) (l3 l4 l5 : Option am_V) (Lh : Lay h) : ex_ d 371 57 [some (v_r (some 93)), some (v_i x1), some (v_i x2), l3, l4, l5] [] h Q ↔ vp_in x2 11 ∧ vp_in x1 4 ∧ (if (h_i h 116 (Int32.toNatClampNeg x1)) ≤ (h_i h 98 (Int32.toNatClampNeg x2)) then ex_ d 371 81 [some (v_r (some 93)), some (v_i x1), some (v_i x2), l3, l4, l5] [] h Q else ex_ d 371 72 [some (v_r (some 93)), some (v_i x1), some (v_i x2), l3, l4, l5] [] h Q) := by
  have e0 : h_r h 93 16 = some 98 := la_r Lh (q := (93, 16, 98)) (by decide)
  have e1 : h_r h 93 42 = some 116 := la_r Lh (q := (93, 42, 116)) (by decide)
  unfold ex_
  refine (am_Y_go 9 (ok := [am_is h (some 93) 12, am_ar h ((h_r h 93 16)) 20 x2, am_is h (some 93) 12, am_ar h ((h_r h 93 42)) 20 x1]) (g := (if (h_i h ((h_r h 93 42).getD 0) (Int32.toNatClampNeg x1)) ≤ (h_i h ((h_r h 93 16).getD 0) (Int32.toNatClampNeg x2)) then 81 else 72, [some (v_r (some 93)), some (v_i x1), some (v_i x2), l3, l4, l5], [], h)) rfl).trans ?_
  simp only [e0, e1, Option.getD_some, am_all]
  all_goals exact cj_d (la_is Lh (o := 93) rfl) (cj_k (la_ar Lh (o := 98) rfl) (cj_d (la_is Lh (o := 93) rfl) (cj_k (la_ar Lh (o := 116) rfl) (am_Y_if))))

theorem b_X12_lists_54 {d : Nat} {Q : Option am_V → am_H → Prop} (h : am_H) (l0 l1 l2 l3 l4 l5 : Option am_V) : ex_ d 371 54 [l0, l1, l2, l3, l4, l5] [] h Q ↔ Q (some (v_i (-5 : Int32))) h := by
  unfold ex_
  refine (am_Y_go 1 (ok := []) (g := (56, [l0, l1, l2, l3, l4, l5], [v_i (-5 : Int32)], h)) rfl).trans ?_
  all_goals exact ((am_Y_ret rfl rfl rfl).trans (am_r0))

theorem b_X12_lists_81 {d : Nat} {Q : Option am_V → am_H → Prop} (h : am_H) (x1 : Int32) (l2 l3 l4 l5 : Option am_V) (Lh : Lay h) : ex_ d 371 81 [some (v_r (some 93)), some (v_i x1), l2, l3, l4, l5] [] h Q ↔ vp_in x1 4 ∧ ex_ d 371 92 [some (v_r (some 93)), some (v_i x1), l2, l3, some (v_i (h_i h 116 (Int32.toNatClampNeg x1))), some (v_i (0 : Int32))] [] h Q := by
  have e0 : h_r h 93 42 = some 116 := la_r Lh (q := (93, 42, 116)) (by decide)
  unfold ex_
  refine (am_Y_go 7 (ok := [am_is h (some 93) 12, am_ar h ((h_r h 93 42)) 20 x1]) (g := (92, [some (v_r (some 93)), some (v_i x1), l2, l3, some (v_i (h_i h ((h_r h 93 42).getD 0) (Int32.toNatClampNeg x1))), some (v_i (0 : Int32))], [], h)) rfl).trans ?_
  simp only [e0, Option.getD_some, am_all]
  all_goals exact cj_d (la_is Lh (o := 93) rfl) (cj_k (la_ar Lh (o := 116) rfl) (Iff.rfl))

theorem b_X12_lists_72 {d : Nat} {Q : Option am_V → am_H → Prop} (h : am_H) (x2 : Int32) (l1 l3 l4 l5 : Option am_V) (Lh : Lay h) : ex_ d 371 72 [some (v_r (some 93)), l1, some (v_i x2), l3, l4, l5] [] h Q ↔ vp_in x2 11 ∧ ex_ d 371 92 [some (v_r (some 93)), l1, some (v_i x2), l3, some (v_i (h_i h 98 (Int32.toNatClampNeg x2))), some (v_i (0 : Int32))] [] h Q := by
  have e0 : h_r h 93 16 = some 98 := la_r Lh (q := (93, 16, 98)) (by decide)
  unfold ex_
  refine (am_Y_go 8 (ok := [am_is h (some 93) 12, am_ar h ((h_r h 93 16)) 20 x2]) (g := (92, [some (v_r (some 93)), l1, some (v_i x2), l3, some (v_i (h_i h ((h_r h 93 16).getD 0) (Int32.toNatClampNeg x2))), some (v_i (0 : Int32))], [], h)) rfl).trans ?_
  simp only [e0, Option.getD_some, am_all]
  all_goals exact cj_d (la_is Lh (o := 93) rfl) (cj_k (la_ar Lh (o := 98) rfl) (Iff.rfl))

theorem b_X12_lists_92 {d : Nat} {Q : Option am_V → am_H → Prop} (h : am_H) (x5 : Int32) (x4 : Int32) (l0 l1 l2 l3 : Option am_V) : ex_ d 371 92 [l0, l1, l2, l3, some (v_i x4), some (v_i x5)] [] h Q ↔ if x4 ≤ x5 then ex_ d 371 130 [l0, l1, l2, l3, some (v_i x4), some (v_i x5)] [] h Q else ex_ d 371 99 [l0, l1, l2, l3, some (v_i x4), some (v_i x5)] [] h Q := by
  unfold ex_
  refine (am_Y_go 3 (ok := []) (g := (if x4 ≤ x5 then 130 else 99, [l0, l1, l2, l3, some (v_i x4), some (v_i x5)], [], h)) rfl).trans ?_
  all_goals exact am_Y_if

theorem b_X12_lists_130 {d : Nat} {Q : Option am_V → am_H → Prop} (h : am_H) (x4 : Int32) (l0 l1 l2 l3 l5 : Option am_V) : ex_ d 371 130 [l0, l1, l2, l3, some (v_i x4), l5] [] h Q ↔ Q (some (v_i x4)) h := by
  unfold ex_
  refine (am_Y_go 1 (ok := []) (g := (132, [l0, l1, l2, l3, some (v_i x4), l5], [v_i x4], h)) rfl).trans ?_
  all_goals exact ((am_Y_ret rfl rfl rfl).trans (am_r0))

theorem b_X12_lists_99 {d : Nat} {Q : Option am_V → am_H → Prop} (h : am_H) (x1 : Int32) (x5 : Int32) (x2 : Int32) (l3 l4 : Option am_V) (Lh : Lay h) : ex_ d 371 99 [some (v_r (some 93)), some (v_i x1), some (v_i x2), l3, l4, some (v_i x5)] [] h Q ↔ vp_in (((11 : Int32) * x2) + x5) 121 ∧ vp_in (((40 : Int32) * x1) + x5) 160 ∧ ex_ d 371 92 [some (v_r (some 93)), some (v_i x1), some (v_i x2), l3, l4, some (v_i (x5 + (1 : Int32)))] [] (p_j h 117 (Int32.toNatClampNeg (((40 : Int32) * x1) + x5)) (Int32.toInt64 (h_i h 99 (Int32.toNatClampNeg (((11 : Int32) * x2) + x5))))) Q := by
  have e0 : h_r h 93 43 = some 117 := la_r Lh (q := (93, 43, 117)) (by decide)
  have e1 : h_r h 93 17 = some 99 := la_r Lh (q := (93, 17, 99)) (by decide)
  unfold ex_
  refine (am_Y_go 19 (ok := [am_is h (some 93) 12, am_is h (some 93) 12, am_ar h ((h_r h 93 17)) 20 (((11 : Int32) * x2) + x5), am_ar h ((h_r h 93 43)) 23 (((40 : Int32) * x1) + x5)]) (g := (92, [some (v_r (some 93)), some (v_i x1), some (v_i x2), l3, l4, some (v_i (x5 + (1 : Int32)))], [], (p_j h ((h_r h 93 43).getD 0) (Int32.toNatClampNeg (((40 : Int32) * x1) + x5)) (Int32.toInt64 (h_i h ((h_r h 93 17).getD 0) (Int32.toNatClampNeg (((11 : Int32) * x2) + x5))))))) rfl).trans ?_
  simp only [e0, e1, Option.getD_some, am_all]
  all_goals exact cj_d (la_is Lh (o := 93) rfl) (cj_d (la_is Lh (o := 93) rfl) (cj_k (la_ar Lh (o := 99) rfl) (cj_k (la_ar Lh (o := 117) rfl) (Iff.rfl))))

theorem b_X12_image_0 {d : Nat} {Q : Option am_V → am_H → Prop} (h : am_H) (x1 : Int32) (l2 : Option am_V) (Lh : Lay h) : ex_ (d + 1) 372 0 [some (v_r (some 93)), some (v_i x1), l2] [] h Q ↔ ex_ d 229 0 [some (v_l (Int32.toInt64 x1)), none, some (v_l (0 : Int64)), none, some (v_l (1 : Int64)), none] [] (p_i h 93 0 (0 : Int32)) (fun r h' => ex_ (d + 1) 372 12 [some (v_r (some 93)), some (v_i x1), l2] (r.toList ++ []) h' Q) := by
  unfold ex_
  refine (am_Y_go 7 (ok := [am_is h (some 93) 12]) (g := (9, [some (v_r (some 93)), some (v_i x1), l2], [v_l (1 : Int64), v_l (0 : Int64), v_l (Int32.toInt64 x1)], (p_i h 93 0 (0 : Int32)))) rfl).trans ?_
  simp only [am_all]
  all_goals exact cj_d (la_is Lh (o := 93) rfl) (((am_Y_call (j := 229) (na := 3) (ci := 12) (fl := 2) rfl rfl rfl).trans (cj_d ⟨⟨Nat.le_of_ble_eq_true rfl, Nat.le_of_ble_eq_true rfl, Nat.le_of_ble_eq_true rfl, rfl⟩, Or.inl rfl⟩ Iff.rfl)))

theorem b_X12_image_12 {d : Nat} {Q : Option am_V → am_H → Prop} (h : am_H) (s0 : Int32) (l0 l1 l2 : Option am_V) : ex_ d 372 12 [l0, l1, l2] [v_i s0] h Q ↔ if ¬ s0 = 0 then ex_ d 372 18 [l0, l1, l2] [] h Q else ex_ d 372 15 [l0, l1, l2] [] h Q := by
  unfold ex_
  refine (am_Y_go 1 (ok := []) (g := (if ¬ s0 = 0 then 18 else 15, [l0, l1, l2], [], h)) rfl).trans ?_
  all_goals exact am_Y_if

theorem b_X12_image_18 {d : Nat} {Q : Option am_V → am_H → Prop} (h : am_H) (l0 l1 l2 : Option am_V) : ex_ d 372 18 [l0, l1, l2] [] h Q ↔ ex_ d 372 20 [l0, l1, some (v_i (0 : Int32))] [] h Q := by
  unfold ex_
  refine (am_Y_go 2 (ok := []) (g := (20, [l0, l1, some (v_i (0 : Int32))], [], h)) rfl).trans ?_
  all_goals exact Iff.rfl

theorem b_X12_image_15 {d : Nat} {Q : Option am_V → am_H → Prop} (h : am_H) (l0 l1 l2 : Option am_V) : ex_ d 372 15 [l0, l1, l2] [] h Q ↔ Q (some (v_i (-2 : Int32))) h := by
  unfold ex_
  refine (am_Y_go 1 (ok := []) (g := (17, [l0, l1, l2], [v_i (-2 : Int32)], h)) rfl).trans ?_
  all_goals exact ((am_Y_ret rfl rfl rfl).trans (am_r0))

theorem b_X12_image_20 {d : Nat} {Q : Option am_V → am_H → Prop} (h : am_H) (x2 : Int32) (l0 l1 : Option am_V) : ex_ d 372 20 [l0, l1, some (v_i x2)] [] h Q ↔ if (2351 : Int32) ≤ x2 then ex_ d 372 53 [l0, l1, some (v_i x2)] [] h Q else ex_ d 372 27 [l0, l1, some (v_i x2)] [] h Q := by
  unfold ex_
  refine (am_Y_go 3 (ok := []) (g := (if (2351 : Int32) ≤ x2 then 53 else 27, [l0, l1, some (v_i x2)], [], h)) rfl).trans ?_
  all_goals exact am_Y_if

theorem b_X12_image_53 {d : Nat} {Q : Option am_V → am_H → Prop} (h : am_H) (x1 : Int32) (l2 : Option am_V) (Lh : Lay h) : ex_ d 372 53 [some (v_r (some 93)), some (v_i x1), l2] [] h Q ↔ vp_in x1 2 ∧ Q (some (v_i (0 : Int32))) (p_i h 95 (Int32.toNatClampNeg x1) (vp_nar .boolean (1 : Int32))) := by
  have e0 : h_r h 93 2 = some 95 := la_r Lh (q := (93, 2, 95)) (by decide)
  unfold ex_
  refine (am_Y_go 6 (ok := [am_is h (some 93) 12, am_ar h ((h_r h 93 2)) 22 x1]) (g := (61, [some (v_r (some 93)), some (v_i x1), l2], [v_i (0 : Int32)], (p_i h ((h_r h 93 2).getD 0) (Int32.toNatClampNeg x1) (vp_nar .boolean (1 : Int32))))) rfl).trans ?_
  simp only [e0, Option.getD_some, am_all]
  all_goals exact cj_d (la_is Lh (o := 93) rfl) (cj_k (la_ar Lh (o := 95) rfl) (((am_Y_ret rfl rfl rfl).trans (am_r0))))

theorem b_X12_image_27 {d : Nat} {Q : Option am_V → am_H → Prop} (h : am_H) (x1 : Int32) (x2 : Int32) (Lh : Lay h) : ex_ d 372 27 [some (v_r (some 93)), some (v_i x1), some (v_i x2)] [] h Q ↔ vp_in x2 7053 ∧ vp_in (((2351 : Int32) * (x1 + (1 : Int32))) + x2) 7053 ∧ ex_ d 372 20 [some (v_r (some 93)), some (v_i x1), some (v_i (x2 + (1 : Int32)))] [] (p_i h 94 (Int32.toNatClampNeg (((2351 : Int32) * (x1 + (1 : Int32))) + x2)) (h_i h 94 (Int32.toNatClampNeg x2))) Q := by
  have e0 : h_r h 93 1 = some 94 := la_r Lh (q := (93, 1, 94)) (by decide)
  unfold ex_
  refine (am_Y_go 16 (ok := [am_is h (some 93) 12, am_is h (some 93) 12, am_ar h ((h_r h 93 1)) 20 x2, am_ar h ((h_r h 93 1)) 20 (((2351 : Int32) * (x1 + (1 : Int32))) + x2)]) (g := (20, [some (v_r (some 93)), some (v_i x1), some (v_i (x2 + (1 : Int32)))], [], (p_i h ((h_r h 93 1).getD 0) (Int32.toNatClampNeg (((2351 : Int32) * (x1 + (1 : Int32))) + x2)) (h_i h ((h_r h 93 1).getD 0) (Int32.toNatClampNeg x2))))) rfl).trans ?_
  simp only [e0, Option.getD_some, am_all]
  all_goals exact cj_d (la_is Lh (o := 93) rfl) (cj_d (la_is Lh (o := 93) rfl) (cj_k (la_ar Lh (o := 94) rfl) (cj_k (la_ar Lh (o := 94) rfl) (Iff.rfl))))

theorem b_X12_restore_0 {d : Nat} {Q : Option am_V → am_H → Prop} (h : am_H) (x1 : Int32) (l2 : Option am_V) (Lh : Lay h) : ex_ (d + 1) 373 0 [some (v_r (some 93)), some (v_i x1), l2] [] h Q ↔ ex_ d 229 0 [some (v_l (Int32.toInt64 x1)), none, some (v_l (0 : Int64)), none, some (v_l (1 : Int64)), none] [] (p_i h 93 0 (0 : Int32)) (fun r h' => ex_ (d + 1) 373 12 [some (v_r (some 93)), some (v_i x1), l2] (r.toList ++ []) h' Q) := by
  unfold ex_
  refine (am_Y_go 7 (ok := [am_is h (some 93) 12]) (g := (9, [some (v_r (some 93)), some (v_i x1), l2], [v_l (1 : Int64), v_l (0 : Int64), v_l (Int32.toInt64 x1)], (p_i h 93 0 (0 : Int32)))) rfl).trans ?_
  simp only [am_all]
  all_goals exact cj_d (la_is Lh (o := 93) rfl) (((am_Y_call (j := 229) (na := 3) (ci := 12) (fl := 2) rfl rfl rfl).trans (cj_d ⟨⟨Nat.le_of_ble_eq_true rfl, Nat.le_of_ble_eq_true rfl, Nat.le_of_ble_eq_true rfl, rfl⟩, Or.inl rfl⟩ Iff.rfl)))

theorem b_X12_restore_12 {d : Nat} {Q : Option am_V → am_H → Prop} (h : am_H) (s0 : Int32) (l0 l1 l2 : Option am_V) : ex_ d 373 12 [l0, l1, l2] [v_i s0] h Q ↔ if ¬ s0 = 0 then ex_ d 373 18 [l0, l1, l2] [] h Q else ex_ d 373 15 [l0, l1, l2] [] h Q := by
  unfold ex_
  refine (am_Y_go 1 (ok := []) (g := (if ¬ s0 = 0 then 18 else 15, [l0, l1, l2], [], h)) rfl).trans ?_
  all_goals exact am_Y_if

theorem b_X12_restore_18 {d : Nat} {Q : Option am_V → am_H → Prop} (h : am_H) (x1 : Int32) (l2 : Option am_V) (Lh : Lay h) : ex_ d 373 18 [some (v_r (some 93)), some (v_i x1), l2] [] h Q ↔ vp_in x1 2 ∧ (if ¬ (h_i h 95 (Int32.toNatClampNeg x1)) = 0 then ex_ d 373 30 [some (v_r (some 93)), some (v_i x1), l2] [] h Q else ex_ d 373 27 [some (v_r (some 93)), some (v_i x1), l2] [] h Q) := by
  have e0 : h_r h 93 2 = some 95 := la_r Lh (q := (93, 2, 95)) (by decide)
  unfold ex_
  refine (am_Y_go 5 (ok := [am_is h (some 93) 12, am_ar h ((h_r h 93 2)) 22 x1]) (g := (if ¬ (h_i h ((h_r h 93 2).getD 0) (Int32.toNatClampNeg x1)) = 0 then 30 else 27, [some (v_r (some 93)), some (v_i x1), l2], [], h)) rfl).trans ?_
  simp only [e0, Option.getD_some, am_all]
  all_goals exact cj_d (la_is Lh (o := 93) rfl) (cj_k (la_ar Lh (o := 95) rfl) (am_Y_if))

theorem b_X12_restore_15 {d : Nat} {Q : Option am_V → am_H → Prop} (h : am_H) (l0 l1 l2 : Option am_V) : ex_ d 373 15 [l0, l1, l2] [] h Q ↔ Q (some (v_i (-2 : Int32))) h := by
  unfold ex_
  refine (am_Y_go 1 (ok := []) (g := (17, [l0, l1, l2], [v_i (-2 : Int32)], h)) rfl).trans ?_
  all_goals exact ((am_Y_ret rfl rfl rfl).trans (am_r0))

theorem b_X12_restore_30 {d : Nat} {Q : Option am_V → am_H → Prop} (h : am_H) (l0 l1 l2 : Option am_V) : ex_ d 373 30 [l0, l1, l2] [] h Q ↔ ex_ d 373 32 [l0, l1, some (v_i (0 : Int32))] [] h Q := by
  unfold ex_
  refine (am_Y_go 2 (ok := []) (g := (32, [l0, l1, some (v_i (0 : Int32))], [], h)) rfl).trans ?_
  all_goals exact Iff.rfl

theorem b_X12_restore_27 {d : Nat} {Q : Option am_V → am_H → Prop} (h : am_H) (l0 l1 l2 : Option am_V) : ex_ d 373 27 [l0, l1, l2] [] h Q ↔ Q (some (v_i (-5 : Int32))) h := by
  unfold ex_
  refine (am_Y_go 1 (ok := []) (g := (29, [l0, l1, l2], [v_i (-5 : Int32)], h)) rfl).trans ?_
  all_goals exact ((am_Y_ret rfl rfl rfl).trans (am_r0))

theorem b_X12_restore_32 {d : Nat} {Q : Option am_V → am_H → Prop} (h : am_H) (x2 : Int32) (l0 l1 : Option am_V) : ex_ d 373 32 [l0, l1, some (v_i x2)] [] h Q ↔ if (2351 : Int32) ≤ x2 then ex_ d 373 65 [l0, l1, some (v_i x2)] [] h Q else ex_ d 373 39 [l0, l1, some (v_i x2)] [] h Q := by
  unfold ex_
  refine (am_Y_go 3 (ok := []) (g := (if (2351 : Int32) ≤ x2 then 65 else 39, [l0, l1, some (v_i x2)], [], h)) rfl).trans ?_
  all_goals exact am_Y_if

theorem b_X12_restore_65 {d : Nat} {Q : Option am_V → am_H → Prop} (h : am_H) (l1 l2 : Option am_V) (Lh : Lay h) : ex_ d 373 65 [some (v_r (some 93)), l1, l2] [] h Q ↔ vp_in (139 : Int32) 7053 ∧ Q (some (v_i (0 : Int32))) (p_i h 94 (Int32.toNatClampNeg (139 : Int32)) (0 : Int32)) := by
  have e0 : h_r h 93 1 = some 94 := la_r Lh (q := (93, 1, 94)) (by decide)
  unfold ex_
  refine (am_Y_go 6 (ok := [am_is h (some 93) 12, am_ar h ((h_r h 93 1)) 20 (139 : Int32)]) (g := (75, [some (v_r (some 93)), l1, l2], [v_i (0 : Int32)], (p_i h ((h_r h 93 1).getD 0) (Int32.toNatClampNeg (139 : Int32)) (0 : Int32)))) rfl).trans ?_
  simp only [e0, Option.getD_some, am_all]
  all_goals exact cj_d (la_is Lh (o := 93) rfl) (cj_k (la_ar Lh (o := 94) rfl) (((am_Y_ret rfl rfl rfl).trans (am_r0))))

theorem b_X12_restore_39 {d : Nat} {Q : Option am_V → am_H → Prop} (h : am_H) (x2 : Int32) (x1 : Int32) (Lh : Lay h) : ex_ d 373 39 [some (v_r (some 93)), some (v_i x1), some (v_i x2)] [] h Q ↔ vp_in (((2351 : Int32) * (x1 + (1 : Int32))) + x2) 7053 ∧ vp_in x2 7053 ∧ ex_ d 373 32 [some (v_r (some 93)), some (v_i x1), some (v_i (x2 + (1 : Int32)))] [] (p_i h 94 (Int32.toNatClampNeg x2) (h_i h 94 (Int32.toNatClampNeg (((2351 : Int32) * (x1 + (1 : Int32))) + x2)))) Q := by
  have e0 : h_r h 93 1 = some 94 := la_r Lh (q := (93, 1, 94)) (by decide)
  unfold ex_
  refine (am_Y_go 16 (ok := [am_is h (some 93) 12, am_is h (some 93) 12, am_ar h ((h_r h 93 1)) 20 (((2351 : Int32) * (x1 + (1 : Int32))) + x2), am_ar h ((h_r h 93 1)) 20 x2]) (g := (32, [some (v_r (some 93)), some (v_i x1), some (v_i (x2 + (1 : Int32)))], [], (p_i h ((h_r h 93 1).getD 0) (Int32.toNatClampNeg x2) (h_i h ((h_r h 93 1).getD 0) (Int32.toNatClampNeg (((2351 : Int32) * (x1 + (1 : Int32))) + x2)))))) rfl).trans ?_
  simp only [e0, Option.getD_some, am_all]
  all_goals exact cj_d (la_is Lh (o := 93) rfl) (cj_d (la_is Lh (o := 93) rfl) (cj_k (la_ar Lh (o := 94) rfl) (cj_k (la_ar Lh (o := 94) rfl) (Iff.rfl))))

theorem b_X12_definitions_0 {d : Nat} {Q : Option am_V → am_H → Prop} (h : am_H) (l0 l1 l2 : Option am_V) : ex_ d 374 0 [l0, l1, l2] [] h Q ↔ ex_ d 374 4 [l0, some (v_i (0 : Int32)), some (v_i (0 : Int32))] [] h Q := by
  unfold ex_
  refine (am_Y_go 4 (ok := []) (g := (4, [l0, some (v_i (0 : Int32)), some (v_i (0 : Int32))], [], h)) rfl).trans ?_
  all_goals exact Iff.rfl

theorem b_X12_definitions_4 {d : Nat} {Q : Option am_V → am_H → Prop} (h : am_H) (x2 : Int32) (l1 : Option am_V) (Lh : Lay h) : ex_ d 374 4 [some (v_r (some 93)), l1, some (v_i x2)] [] h Q ↔ vp_in (1 : Int32) 7053 ∧ (if ((8 : Int32) * (h_i h 94 (Int32.toNatClampNeg (1 : Int32)))) ≤ x2 then ex_ d 374 43 [some (v_r (some 93)), l1, some (v_i x2)] [] h Q else ex_ d 374 17 [some (v_r (some 93)), l1, some (v_i x2)] [] h Q) := by
  have e0 : h_r h 93 1 = some 94 := la_r Lh (q := (93, 1, 94)) (by decide)
  unfold ex_
  refine (am_Y_go 8 (ok := [am_is h (some 93) 12, am_ar h ((h_r h 93 1)) 20 (1 : Int32)]) (g := (if ((8 : Int32) * (h_i h ((h_r h 93 1).getD 0) (Int32.toNatClampNeg (1 : Int32)))) ≤ x2 then 43 else 17, [some (v_r (some 93)), l1, some (v_i x2)], [], h)) rfl).trans ?_
  simp only [e0, Option.getD_some, am_all]
  all_goals exact cj_d (la_is Lh (o := 93) rfl) (cj_k (la_ar Lh (o := 94) rfl) (am_Y_if))

theorem b_X12_definitions_43 {d : Nat} {Q : Option am_V → am_H → Prop} (h : am_H) (x1 : Int32) (l0 l2 : Option am_V) : ex_ d 374 43 [l0, some (v_i x1), l2] [] h Q ↔ Q (some (v_i x1)) h := by
  unfold ex_
  refine (am_Y_go 1 (ok := []) (g := (44, [l0, some (v_i x1), l2], [v_i x1], h)) rfl).trans ?_
  all_goals exact ((am_Y_ret rfl rfl rfl).trans (am_r0))

theorem b_X12_definitions_17 {d : Nat} {Q : Option am_V → am_H → Prop} (h : am_H) (x1 : Int32) (x2 : Int32) (Lh : Lay h) : ex_ d 374 17 [some (v_r (some 93)), some (v_i x1), some (v_i x2)] [] h Q ↔ vp_in ((58 : Int32) + x2) 7053 ∧ (if (h_i h 94 (Int32.toNatClampNeg ((58 : Int32) + x2))) ≤ 0 then ex_ d 374 34 [some (v_r (some 93)), some (v_i x1), some (v_i x2)] [v_i x1] h Q else ex_ d 374 30 [some (v_r (some 93)), some (v_i x1), some (v_i x2)] [v_i x1] h Q) := by
  have e0 : h_r h 93 1 = some 94 := la_r Lh (q := (93, 1, 94)) (by decide)
  unfold ex_
  refine (am_Y_go 8 (ok := [am_is h (some 93) 12, am_ar h ((h_r h 93 1)) 20 ((58 : Int32) + x2)]) (g := (if (h_i h ((h_r h 93 1).getD 0) (Int32.toNatClampNeg ((58 : Int32) + x2))) ≤ 0 then 34 else 30, [some (v_r (some 93)), some (v_i x1), some (v_i x2)], [v_i x1], h)) rfl).trans ?_
  simp only [e0, Option.getD_some, am_all]
  all_goals exact cj_d (la_is Lh (o := 93) rfl) (cj_k (la_ar Lh (o := 94) rfl) (am_Y_if))

theorem b_X12_definitions_34 {d : Nat} {Q : Option am_V → am_H → Prop} (h : am_H) (s0 : Int32) (x2 : Int32) (l0 l1 : Option am_V) : ex_ d 374 34 [l0, l1, some (v_i x2)] [v_i s0] h Q ↔ ex_ d 374 4 [l0, some (v_i (s0 + (0 : Int32))), some (v_i (x2 + (1 : Int32)))] [] h Q := by
  unfold ex_
  refine (am_Y_go 5 (ok := []) (g := (4, [l0, some (v_i (s0 + (0 : Int32))), some (v_i (x2 + (1 : Int32)))], [], h)) rfl).trans ?_
  all_goals exact Iff.rfl

theorem b_X12_definitions_30 {d : Nat} {Q : Option am_V → am_H → Prop} (h : am_H) (s0 : Int32) (x2 : Int32) (l0 l1 : Option am_V) : ex_ d 374 30 [l0, l1, some (v_i x2)] [v_i s0] h Q ↔ ex_ d 374 4 [l0, some (v_i (s0 + (1 : Int32))), some (v_i (x2 + (1 : Int32)))] [] h Q := by
  unfold ex_
  refine (am_Y_go 6 (ok := []) (g := (4, [l0, some (v_i (s0 + (1 : Int32))), some (v_i (x2 + (1 : Int32)))], [], h)) rfl).trans ?_
  all_goals exact Iff.rfl

theorem b_X12_count_0 {d : Nat} {Q : Option am_V → am_H → Prop} (h : am_H) (l1 : Option am_V) (Lh : Lay h) : ex_ (d + 1) 375 0 [some (v_r (some 93)), l1] [] h Q ↔ ex_ d 271 0 [some (v_r (some 93)), none] [] (p_i h 93 0 (0 : Int32)) (fun r h' => ex_ (d + 1) 375 9 [some (v_r (some 93)), l1] (r.toList ++ []) h' Q) := by
  unfold ex_
  refine (am_Y_go 4 (ok := [am_is h (some 93) 12]) (g := (6, [some (v_r (some 93)), l1], [v_r (some 93)], (p_i h 93 0 (0 : Int32)))) rfl).trans ?_
  simp only [am_all]
  all_goals exact cj_d (la_is Lh (o := 93) rfl) (((am_Y_call (j := 271) (na := 1) (ci := 12) (fl := 0) rfl rfl rfl).trans (cj_d ⟨⟨Nat.le_of_ble_eq_true rfl, Nat.le_of_ble_eq_true rfl, Nat.le_of_ble_eq_true rfl, rfl⟩, Or.inr (Or.inr (show (12 : Nat) < 20 ∧ am_is h (some 93) 12 from ⟨by decide, (la_is Lh (o := 93) rfl)⟩))⟩ Iff.rfl)))

theorem b_X12_count_9 {d : Nat} {Q : Option am_V → am_H → Prop} (h : am_H) (x1 : Int32) (l0 : Option am_V) : ex_ d 375 9 [l0, some (v_i x1)] [] h Q ↔ if x1 = (0 : Int32) then ex_ d 375 60 [l0, some (v_i x1)] [] h Q else if x1 = (1 : Int32) then ex_ d 375 67 [l0, some (v_i x1)] [] h Q else if x1 = (2 : Int32) then ex_ d 375 72 [l0, some (v_i x1)] [] h Q else if x1 = (3 : Int32) then ex_ d 375 77 [l0, some (v_i x1)] [] h Q else if x1 = (4 : Int32) then ex_ d 375 86 [l0, some (v_i x1)] [] h Q else if x1 = (5 : Int32) then ex_ d 375 92 [l0, some (v_i x1)] [] h Q else if x1 = (6 : Int32) then ex_ d 375 98 [l0, some (v_i x1)] [] h Q else if x1 = (7 : Int32) then ex_ d 375 107 [l0, some (v_i x1)] [] h Q else if x1 = (8 : Int32) then ex_ d 375 112 [l0, some (v_i x1)] [] h Q else ex_ d 375 119 [l0, some (v_i x1)] [] h Q := by
  unfold ex_
  refine (am_Y_go 2 (ok := []) (g := (am_sw x1 119 [((0 : Int32), 60), ((1 : Int32), 67), ((2 : Int32), 72), ((3 : Int32), 77), ((4 : Int32), 86), ((5 : Int32), 92), ((6 : Int32), 98), ((7 : Int32), 107), ((8 : Int32), 112)], [l0, some (v_i x1)], [], h)) rfl).trans ?_
  all_goals exact (by simp only [am_sw, am_Y_if, am_all])

theorem b_X12_count_119 {d : Nat} {Q : Option am_V → am_H → Prop} (h : am_H) (l0 l1 : Option am_V) : ex_ d 375 119 [l0, l1] [] h Q ↔ Q (some (v_i (-1 : Int32))) h := by
  unfold ex_
  refine (am_Y_go 1 (ok := []) (g := (120, [l0, l1], [v_i (-1 : Int32)], h)) rfl).trans ?_
  all_goals exact ((am_Y_ret rfl rfl rfl).trans (am_r0))

theorem b_X12_count_60 {d : Nat} {Q : Option am_V → am_H → Prop} (h : am_H) (l1 : Option am_V) (Lh : Lay h) : ex_ d 375 60 [some (v_r (some 93)), l1] [] h Q ↔ vp_in (1 : Int32) 7053 ∧ Q (some (v_i (h_i h 94 (Int32.toNatClampNeg (1 : Int32))))) h := by
  have e0 : h_r h 93 1 = some 94 := la_r Lh (q := (93, 1, 94)) (by decide)
  unfold ex_
  refine (am_Y_go 4 (ok := [am_is h (some 93) 12, am_ar h ((h_r h 93 1)) 20 (1 : Int32)]) (g := (66, [some (v_r (some 93)), l1], [v_i (h_i h ((h_r h 93 1).getD 0) (Int32.toNatClampNeg (1 : Int32)))], h)) rfl).trans ?_
  simp only [e0, Option.getD_some, am_all]
  all_goals exact cj_d (la_is Lh (o := 93) rfl) (cj_k (la_ar Lh (o := 94) rfl) (((am_Y_ret rfl rfl rfl).trans (am_r0))))

theorem b_X12_count_67 {d : Nat} {Q : Option am_V → am_H → Prop} (h : am_H) (l1 : Option am_V) (Lh : Lay h) : ex_ (d + 1) 375 67 [some (v_r (some 93)), l1] [] h Q ↔ ex_ d 304 0 [some (v_r (some 93)), none, none] [] h (fun r h' => ex_ (d + 1) 375 71 [some (v_r (some 93)), l1] (r.toList ++ []) h' Q) := by
  unfold ex_
  refine (am_Y_go 1 (ok := []) (g := (68, [some (v_r (some 93)), l1], [v_r (some 93)], h)) rfl).trans ?_
  all_goals exact ((am_Y_call (j := 304) (na := 1) (ci := 12) (fl := 0) rfl rfl rfl).trans (cj_d ⟨⟨Nat.le_of_ble_eq_true rfl, Nat.le_of_ble_eq_true rfl, Nat.le_of_ble_eq_true rfl, rfl⟩, Or.inr (Or.inr (show (12 : Nat) < 20 ∧ am_is h (some 93) 12 from ⟨by decide, (la_is Lh (o := 93) rfl)⟩))⟩ Iff.rfl))

theorem b_X12_count_72 {d : Nat} {Q : Option am_V → am_H → Prop} (h : am_H) (l1 : Option am_V) (Lh : Lay h) : ex_ (d + 1) 375 72 [some (v_r (some 93)), l1] [] h Q ↔ ex_ d 374 0 [some (v_r (some 93)), none, none] [] h (fun r h' => ex_ (d + 1) 375 76 [some (v_r (some 93)), l1] (r.toList ++ []) h' Q) := by
  unfold ex_
  refine (am_Y_go 1 (ok := []) (g := (73, [some (v_r (some 93)), l1], [v_r (some 93)], h)) rfl).trans ?_
  all_goals exact ((am_Y_call (j := 374) (na := 1) (ci := 12) (fl := 0) rfl rfl rfl).trans (cj_d ⟨⟨Nat.le_of_ble_eq_true rfl, Nat.le_of_ble_eq_true rfl, Nat.le_of_ble_eq_true rfl, rfl⟩, Or.inr (Or.inr (show (12 : Nat) < 20 ∧ am_is h (some 93) 12 from ⟨by decide, (la_is Lh (o := 93) rfl)⟩))⟩ Iff.rfl))

theorem b_X12_count_77 {d : Nat} {Q : Option am_V → am_H → Prop} (h : am_H) (l1 : Option am_V) (Lh : Lay h) : ex_ d 375 77 [some (v_r (some 93)), l1] [] h Q ↔ vp_in (138 : Int32) 7053 ∧ Q (some (v_i (h_i h 94 (Int32.toNatClampNeg (138 : Int32))))) h := by
  have e0 : h_r h 93 1 = some 94 := la_r Lh (q := (93, 1, 94)) (by decide)
  unfold ex_
  refine (am_Y_go 4 (ok := [am_is h (some 93) 12, am_ar h ((h_r h 93 1)) 20 (138 : Int32)]) (g := (85, [some (v_r (some 93)), l1], [v_i (h_i h ((h_r h 93 1).getD 0) (Int32.toNatClampNeg (138 : Int32)))], h)) rfl).trans ?_
  simp only [e0, Option.getD_some, am_all]
  all_goals exact cj_d (la_is Lh (o := 93) rfl) (cj_k (la_ar Lh (o := 94) rfl) (((am_Y_ret rfl rfl rfl).trans (am_r0))))

theorem b_X12_count_86 {d : Nat} {Q : Option am_V → am_H → Prop} (h : am_H) (l1 : Option am_V) (Lh : Lay h) : ex_ (d + 1) 375 86 [some (v_r (some 93)), l1] [] h Q ↔ ex_ d 273 0 [some (v_r (some 93)), some (v_i (0 : Int32)), none, none] [] h (fun r h' => ex_ (d + 1) 375 91 [some (v_r (some 93)), l1] (r.toList ++ []) h' Q) := by
  unfold ex_
  refine (am_Y_go 2 (ok := []) (g := (88, [some (v_r (some 93)), l1], [v_i (0 : Int32), v_r (some 93)], h)) rfl).trans ?_
  all_goals exact ((am_Y_call (j := 273) (na := 2) (ci := 12) (fl := 0) rfl rfl rfl).trans (cj_d ⟨⟨Nat.le_of_ble_eq_true rfl, Nat.le_of_ble_eq_true rfl, Nat.le_of_ble_eq_true rfl, rfl⟩, Or.inr (Or.inr (show (12 : Nat) < 20 ∧ am_is h (some 93) 12 from ⟨by decide, (la_is Lh (o := 93) rfl)⟩))⟩ Iff.rfl))

theorem b_X12_count_92 {d : Nat} {Q : Option am_V → am_H → Prop} (h : am_H) (l1 : Option am_V) (Lh : Lay h) : ex_ (d + 1) 375 92 [some (v_r (some 93)), l1] [] h Q ↔ ex_ d 273 0 [some (v_r (some 93)), some (v_i (1 : Int32)), none, none] [] h (fun r h' => ex_ (d + 1) 375 97 [some (v_r (some 93)), l1] (r.toList ++ []) h' Q) := by
  unfold ex_
  refine (am_Y_go 2 (ok := []) (g := (94, [some (v_r (some 93)), l1], [v_i (1 : Int32), v_r (some 93)], h)) rfl).trans ?_
  all_goals exact ((am_Y_call (j := 273) (na := 2) (ci := 12) (fl := 0) rfl rfl rfl).trans (cj_d ⟨⟨Nat.le_of_ble_eq_true rfl, Nat.le_of_ble_eq_true rfl, Nat.le_of_ble_eq_true rfl, rfl⟩, Or.inr (Or.inr (show (12 : Nat) < 20 ∧ am_is h (some 93) 12 from ⟨by decide, (la_is Lh (o := 93) rfl)⟩))⟩ Iff.rfl))

theorem b_X12_count_98 {d : Nat} {Q : Option am_V → am_H → Prop} (h : am_H) (l1 : Option am_V) (Lh : Lay h) : ex_ d 375 98 [some (v_r (some 93)), l1] [] h Q ↔ vp_in (139 : Int32) 7053 ∧ Q (some (v_i (h_i h 94 (Int32.toNatClampNeg (139 : Int32))))) h := by
  have e0 : h_r h 93 1 = some 94 := la_r Lh (q := (93, 1, 94)) (by decide)
  unfold ex_
  refine (am_Y_go 4 (ok := [am_is h (some 93) 12, am_ar h ((h_r h 93 1)) 20 (139 : Int32)]) (g := (106, [some (v_r (some 93)), l1], [v_i (h_i h ((h_r h 93 1).getD 0) (Int32.toNatClampNeg (139 : Int32)))], h)) rfl).trans ?_
  simp only [e0, Option.getD_some, am_all]
  all_goals exact cj_d (la_is Lh (o := 93) rfl) (cj_k (la_ar Lh (o := 94) rfl) (((am_Y_ret rfl rfl rfl).trans (am_r0))))

theorem b_X12_count_107 {d : Nat} {Q : Option am_V → am_H → Prop} (h : am_H) (l1 : Option am_V) (Lh : Lay h) : ex_ d 375 107 [some (v_r (some 93)), l1] [] h Q ↔ Q (some (v_i (h_i h 93 5))) h := by
  unfold ex_
  refine (am_Y_go 2 (ok := [am_is h (some 93) 12]) (g := (111, [some (v_r (some 93)), l1], [v_i (h_i h 93 5)], h)) rfl).trans ?_
  simp only [am_all]
  all_goals exact cj_d (la_is Lh (o := 93) rfl) (((am_Y_ret rfl rfl rfl).trans (am_r0)))

theorem b_X12_count_112 {d : Nat} {Q : Option am_V → am_H → Prop} (h : am_H) (l1 : Option am_V) (Lh : Lay h) : ex_ d 375 112 [some (v_r (some 93)), l1] [] h Q ↔ vp_in (0 : Int32) 7053 ∧ Q (some (v_i (h_i h 94 (Int32.toNatClampNeg (0 : Int32))))) h := by
  have e0 : h_r h 93 1 = some 94 := la_r Lh (q := (93, 1, 94)) (by decide)
  unfold ex_
  refine (am_Y_go 4 (ok := [am_is h (some 93) 12, am_ar h ((h_r h 93 1)) 20 (0 : Int32)]) (g := (118, [some (v_r (some 93)), l1], [v_i (h_i h ((h_r h 93 1).getD 0) (Int32.toNatClampNeg (0 : Int32)))], h)) rfl).trans ?_
  simp only [e0, Option.getD_some, am_all]
  all_goals exact cj_d (la_is Lh (o := 93) rfl) (cj_k (la_ar Lh (o := 94) rfl) (((am_Y_ret rfl rfl rfl).trans (am_r0))))

theorem b_X12_count_71 {d : Nat} {Q : Option am_V → am_H → Prop} (h : am_H) (s0 : Int32) (l0 l1 : Option am_V) : ex_ d 375 71 [l0, l1] [v_i s0] h Q ↔ Q (some (v_i s0)) h := by
  unfold ex_
  exact ((am_Y_ret rfl rfl rfl).trans (am_r0))

theorem b_X12_count_76 {d : Nat} {Q : Option am_V → am_H → Prop} (h : am_H) (s0 : Int32) (l0 l1 : Option am_V) : ex_ d 375 76 [l0, l1] [v_i s0] h Q ↔ Q (some (v_i s0)) h := by
  unfold ex_
  exact ((am_Y_ret rfl rfl rfl).trans (am_r0))

theorem b_X12_count_91 {d : Nat} {Q : Option am_V → am_H → Prop} (h : am_H) (s0 : Int32) (l0 l1 : Option am_V) : ex_ d 375 91 [l0, l1] [v_i s0] h Q ↔ Q (some (v_i s0)) h := by
  unfold ex_
  exact ((am_Y_ret rfl rfl rfl).trans (am_r0))

theorem b_X12_count_97 {d : Nat} {Q : Option am_V → am_H → Prop} (h : am_H) (s0 : Int32) (l0 l1 : Option am_V) : ex_ d 375 97 [l0, l1] [v_i s0] h Q ↔ Q (some (v_i s0)) h := by
  unfold ex_
  exact ((am_Y_ret rfl rfl rfl).trans (am_r0))
