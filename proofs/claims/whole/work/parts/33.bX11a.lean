theorem b_X11_isMethod_0 {d : Nat} {Q : Option am_V → am_H → Prop} (h : am_H) (x0 : Int32) : ex_ d 31 0 [some (v_i x0)] [] h Q ↔ if x0 < 0 then ex_ d 31 14 [some (v_i x0)] [] h Q else ex_ d 31 4 [some (v_i x0)] [] h Q := by
  unfold ex_
  refine (am_Y_go 2 (ok := []) (g := (if x0 < 0 then 14 else 4, [some (v_i x0)], [], h)) rfl).trans ?_
  all_goals exact am_Y_if

theorem b_X11_isMethod_14 {d : Nat} {Q : Option am_V → am_H → Prop} (h : am_H) (l0 : Option am_V) : ex_ d 31 14 [l0] [] h Q ↔ Q (some (v_i (0 : Int32))) h := by
  unfold ex_
  refine (am_Y_go 1 (ok := []) (g := (15, [l0], [v_i (0 : Int32)], h)) rfl).trans ?_
  all_goals exact ((am_Y_ret rfl rfl rfl).trans (am_rz (show am_fit 1 0 from Or.inl rfl)))

theorem b_X11_isMethod_4 {d : Nat} {Q : Option am_V → am_H → Prop} (h : am_H) (x0 : Int32) : ex_ d 31 4 [some (v_i x0)] [] h Q ↔ if (8 : Int32) ≤ x0 then ex_ d 31 14 [some (v_i x0)] [] h Q else ex_ d 31 10 [some (v_i x0)] [] h Q := by
  unfold ex_
  refine (am_Y_go 3 (ok := []) (g := (if (8 : Int32) ≤ x0 then 14 else 10, [some (v_i x0)], [], h)) rfl).trans ?_
  all_goals exact am_Y_if

theorem b_X11_isMethod_10 {d : Nat} {Q : Option am_V → am_H → Prop} (h : am_H) (l0 : Option am_V) : ex_ d 31 10 [l0] [] h Q ↔ Q (some (v_i (1 : Int32))) h := by
  unfold ex_
  refine (am_Y_go 2 (ok := []) (g := (15, [l0], [v_i (1 : Int32)], h)) rfl).trans ?_
  all_goals exact ((am_Y_ret rfl rfl rfl).trans (am_rz (show am_fit 1 1 from Or.inr rfl)))

theorem b_X11_putBytes_0 {d : Nat} {Q : Option am_V → am_H → Prop} (h : am_H) (l0 l1 l2 : Option am_V) : ex_ d 162 0 [l0, l1, l2] [] h Q ↔ ex_ d 162 3 [l0, l1, some (v_i (24 : Int32))] [] h Q := by
  unfold ex_
  refine (am_Y_go 2 (ok := []) (g := (3, [l0, l1, some (v_i (24 : Int32))], [], h)) rfl).trans ?_
  all_goals exact Iff.rfl

theorem b_X11_putBytes_3 {d : Nat} {Q : Option am_V → am_H → Prop} (h : am_H) (x2 : Int32) (l0 l1 : Option am_V) : ex_ d 162 3 [l0, l1, some (v_i x2)] [] h Q ↔ if x2 < 0 then ex_ d 162 46 [l0, l1, some (v_i x2)] [] h Q else ex_ d 162 7 [l0, l1, some (v_i x2)] [] h Q := by
  unfold ex_
  refine (am_Y_go 2 (ok := []) (g := (if x2 < 0 then 46 else 7, [l0, l1, some (v_i x2)], [], h)) rfl).trans ?_
  all_goals exact am_Y_if

theorem b_X11_putBytes_46 {d : Nat} {Q : Option am_V → am_H → Prop} (h : am_H) (l0 l1 l2 : Option am_V) : ex_ d 162 46 [l0, l1, l2] [] h Q ↔ Q (none) h := by
  unfold ex_
  exact ((am_Y_ret rfl rfl rfl).trans (am_rz rfl))

theorem b_X11_putBytes_7 {d : Nat} {Q : Option am_V → am_H → Prop} (h : am_H) (l1 l2 : Option am_V) (Lh : Lay h) : ex_ d 162 7 [some (v_r (some 0)), l1, l2] [] h Q ↔ if (900 : Int32) ≤ (h_i h 0 1) then ex_ d 162 46 [some (v_r (some 0)), l1, l2] [] h Q else ex_ d 162 17 [some (v_r (some 0)), l1, l2] [] h Q := by
  unfold ex_
  refine (am_Y_go 4 (ok := [am_is h (some 0) 11]) (g := (if (900 : Int32) ≤ (h_i h 0 1) then 46 else 17, [some (v_r (some 0)), l1, l2], [], h)) rfl).trans ?_
  simp only [am_all]
  all_goals exact cj_d (la_is Lh (o := 0) rfl) (am_Y_if)

theorem b_X11_putBytes_17 {d : Nat} {Q : Option am_V → am_H → Prop} (h : am_H) (x1 : Int32) (x2 : Int32) (Lh : Lay h) : ex_ d 162 17 [some (v_r (some 0)), some (v_i x1), some (v_i x2)] [] h Q ↔ vp_in (h_i h 0 1) 900 ∧ ex_ d 162 3 [some (v_r (some 0)), some (v_i x1), some (v_i (x2 + (-8 : Int32)))] [] (p_i (p_i h 1 (Int32.toNatClampNeg (h_i h 0 1)) (vp_nar .byte (Int8.toInt32 (Int32.toInt8 (x1 >>> (x2 &&& 31)))))) 0 1 ((h_i (p_i h 1 (Int32.toNatClampNeg (h_i h 0 1)) (vp_nar .byte (Int8.toInt32 (Int32.toInt8 (x1 >>> (x2 &&& 31)))))) 0 1) + (1 : Int32))) Q := by
  have e0 : h_r h 0 0 = some 1 := la_r Lh (q := (0, 0, 1)) (by decide)
  unfold ex_
  refine (am_Y_go 17 (ok := [am_is h (some 0) 11, am_is h (some 0) 11, am_ar h ((h_r h 0 0)) 21 (h_i h 0 1), am_is h (some 0) 11, am_is h (some 0) 11]) (g := (3, [some (v_r (some 0)), some (v_i x1), some (v_i (x2 + (-8 : Int32)))], [], (p_i (p_i h ((h_r h 0 0).getD 0) (Int32.toNatClampNeg (h_i h 0 1)) (vp_nar .byte (Int8.toInt32 (Int32.toInt8 (x1 >>> (x2 &&& 31)))))) 0 1 ((h_i (p_i h ((h_r h 0 0).getD 0) (Int32.toNatClampNeg (h_i h 0 1)) (vp_nar .byte (Int8.toInt32 (Int32.toInt8 (x1 >>> (x2 &&& 31)))))) 0 1) + (1 : Int32))))) rfl).trans ?_
  simp only [e0, Option.getD_some, am_all]
  all_goals exact cj_d (la_is Lh (o := 0) rfl) (cj_d (la_is Lh (o := 0) rfl) (cj_k (la_ar Lh (o := 1) rfl) (cj_d (la_is Lh (o := 0) rfl) (cj_d (la_is Lh (o := 0) rfl) (Iff.rfl)))))

theorem b_X11_feed_0 {d : Nat} {Q : Option am_V → am_H → Prop} (h : am_H) (l1 l2 l3 l4 l5 : Option am_V) (Lh : Lay h) : ex_ d 163 0 [some (v_r (some 0)), l1, l2, l3, l4, l5] [] h Q ↔ if ((h_i h 0 1) + (20 : Int32)) ≤ (900 : Int32) then ex_ d 163 16 [some (v_r (some 0)), l1, l2, l3, l4, l5] [] h Q else ex_ d 163 13 [some (v_r (some 0)), l1, l2, l3, l4, l5] [] h Q := by
  unfold ex_
  refine (am_Y_go 6 (ok := [am_is h (some 0) 11]) (g := (if ((h_i h 0 1) + (20 : Int32)) ≤ (900 : Int32) then 16 else 13, [some (v_r (some 0)), l1, l2, l3, l4, l5], [], h)) rfl).trans ?_
  simp only [am_all]
  all_goals exact cj_d (la_is Lh (o := 0) rfl) (am_Y_if)

theorem b_X11_feed_16 {d : Nat} {Q : Option am_V → am_H → Prop} (h : am_H) (x1 : Int32) (l2 l3 l4 l5 : Option am_V) (Lh : Lay h) : ex_ (d + 1) 163 16 [some (v_r (some 0)), some (v_i x1), l2, l3, l4, l5] [] h Q ↔ ex_ d 162 0 [some (v_r (some 0)), some (v_i x1), none] [] h (fun r h' => ex_ (d + 1) 163 21 [some (v_r (some 0)), some (v_i x1), l2, l3, l4, l5] (r.toList ++ []) h' Q) := by
  unfold ex_
  refine (am_Y_go 2 (ok := []) (g := (18, [some (v_r (some 0)), some (v_i x1), l2, l3, l4, l5], [v_i x1, v_r (some 0)], h)) rfl).trans ?_
  all_goals exact ((am_Y_call (j := 162) (na := 2) (ci := 11) (fl := 0) rfl rfl rfl).trans (cj_d ⟨⟨Nat.le_of_ble_eq_true rfl, Nat.le_of_ble_eq_true rfl, Nat.le_of_ble_eq_true rfl, rfl⟩, Or.inr (Or.inr (show (11 : Nat) < 20 ∧ am_is h (some 0) 11 from ⟨by decide, (la_is Lh (o := 0) rfl)⟩))⟩ Iff.rfl))

theorem b_X11_feed_13 {d : Nat} {Q : Option am_V → am_H → Prop} (h : am_H) (l0 l1 l2 l3 l4 l5 : Option am_V) : ex_ d 163 13 [l0, l1, l2, l3, l4, l5] [] h Q ↔ Q (some (v_i (-5 : Int32))) h := by
  unfold ex_
  refine (am_Y_go 1 (ok := []) (g := (15, [l0, l1, l2, l3, l4, l5], [v_i (-5 : Int32)], h)) rfl).trans ?_
  all_goals exact ((am_Y_ret rfl rfl rfl).trans (am_r0))

theorem b_X11_feed_21 {d : Nat} {Q : Option am_V → am_H → Prop} (h : am_H) (x2 : Int32) (l1 l3 l4 l5 : Option am_V) (Lh : Lay h) : ex_ (d + 1) 163 21 [some (v_r (some 0)), l1, some (v_i x2), l3, l4, l5] [] h Q ↔ ex_ d 162 0 [some (v_r (some 0)), some (v_i x2), none] [] h (fun r h' => ex_ (d + 1) 163 26 [some (v_r (some 0)), l1, some (v_i x2), l3, l4, l5] (r.toList ++ []) h' Q) := by
  unfold ex_
  refine (am_Y_go 2 (ok := []) (g := (23, [some (v_r (some 0)), l1, some (v_i x2), l3, l4, l5], [v_i x2, v_r (some 0)], h)) rfl).trans ?_
  all_goals exact ((am_Y_call (j := 162) (na := 2) (ci := 11) (fl := 0) rfl rfl rfl).trans (cj_d ⟨⟨Nat.le_of_ble_eq_true rfl, Nat.le_of_ble_eq_true rfl, Nat.le_of_ble_eq_true rfl, rfl⟩, Or.inr (Or.inr (show (11 : Nat) < 20 ∧ am_is h (some 0) 11 from ⟨by decide, (la_is Lh (o := 0) rfl)⟩))⟩ Iff.rfl))

theorem b_X11_feed_26 {d : Nat} {Q : Option am_V → am_H → Prop} (h : am_H) (x3 : Int32) (l1 l2 l4 l5 : Option am_V) (Lh : Lay h) : ex_ (d + 1) 163 26 [some (v_r (some 0)), l1, l2, some (v_i x3), l4, l5] [] h Q ↔ ex_ d 162 0 [some (v_r (some 0)), some (v_i x3), none] [] h (fun r h' => ex_ (d + 1) 163 31 [some (v_r (some 0)), l1, l2, some (v_i x3), l4, l5] (r.toList ++ []) h' Q) := by
  unfold ex_
  refine (am_Y_go 2 (ok := []) (g := (28, [some (v_r (some 0)), l1, l2, some (v_i x3), l4, l5], [v_i x3, v_r (some 0)], h)) rfl).trans ?_
  all_goals exact ((am_Y_call (j := 162) (na := 2) (ci := 11) (fl := 0) rfl rfl rfl).trans (cj_d ⟨⟨Nat.le_of_ble_eq_true rfl, Nat.le_of_ble_eq_true rfl, Nat.le_of_ble_eq_true rfl, rfl⟩, Or.inr (Or.inr (show (11 : Nat) < 20 ∧ am_is h (some 0) 11 from ⟨by decide, (la_is Lh (o := 0) rfl)⟩))⟩ Iff.rfl))

theorem b_X11_feed_31 {d : Nat} {Q : Option am_V → am_H → Prop} (h : am_H) (x4 : Int32) (l1 l2 l3 l5 : Option am_V) (Lh : Lay h) : ex_ (d + 1) 163 31 [some (v_r (some 0)), l1, l2, l3, some (v_i x4), l5] [] h Q ↔ ex_ d 162 0 [some (v_r (some 0)), some (v_i x4), none] [] h (fun r h' => ex_ (d + 1) 163 37 [some (v_r (some 0)), l1, l2, l3, some (v_i x4), l5] (r.toList ++ []) h' Q) := by
  unfold ex_
  refine (am_Y_go 2 (ok := []) (g := (34, [some (v_r (some 0)), l1, l2, l3, some (v_i x4), l5], [v_i x4, v_r (some 0)], h)) rfl).trans ?_
  all_goals exact ((am_Y_call (j := 162) (na := 2) (ci := 11) (fl := 0) rfl rfl rfl).trans (cj_d ⟨⟨Nat.le_of_ble_eq_true rfl, Nat.le_of_ble_eq_true rfl, Nat.le_of_ble_eq_true rfl, rfl⟩, Or.inr (Or.inr (show (11 : Nat) < 20 ∧ am_is h (some 0) 11 from ⟨by decide, (la_is Lh (o := 0) rfl)⟩))⟩ Iff.rfl))

theorem b_X11_feed_37 {d : Nat} {Q : Option am_V → am_H → Prop} (h : am_H) (x5 : Int32) (l1 l2 l3 l4 : Option am_V) (Lh : Lay h) : ex_ (d + 1) 163 37 [some (v_r (some 0)), l1, l2, l3, l4, some (v_i x5)] [] h Q ↔ ex_ d 162 0 [some (v_r (some 0)), some (v_i x5), none] [] h (fun r h' => ex_ (d + 1) 163 43 [some (v_r (some 0)), l1, l2, l3, l4, some (v_i x5)] (r.toList ++ []) h' Q) := by
  unfold ex_
  refine (am_Y_go 2 (ok := []) (g := (40, [some (v_r (some 0)), l1, l2, l3, l4, some (v_i x5)], [v_i x5, v_r (some 0)], h)) rfl).trans ?_
  all_goals exact ((am_Y_call (j := 162) (na := 2) (ci := 11) (fl := 0) rfl rfl rfl).trans (cj_d ⟨⟨Nat.le_of_ble_eq_true rfl, Nat.le_of_ble_eq_true rfl, Nat.le_of_ble_eq_true rfl, rfl⟩, Or.inr (Or.inr (show (11 : Nat) < 20 ∧ am_is h (some 0) 11 from ⟨by decide, (la_is Lh (o := 0) rfl)⟩))⟩ Iff.rfl))

theorem b_X11_feed_43 {d : Nat} {Q : Option am_V → am_H → Prop} (h : am_H) (l1 l2 l3 l4 l5 : Option am_V) (Lh : Lay h) : ex_ d 163 43 [some (v_r (some 0)), l1, l2, l3, l4, l5] [] h Q ↔ Q (some (v_i (h_i h 0 1))) h := by
  unfold ex_
  refine (am_Y_go 2 (ok := [am_is h (some 0) 11]) (g := (47, [some (v_r (some 0)), l1, l2, l3, l4, l5], [v_i (h_i h 0 1)], h)) rfl).trans ?_
  simp only [am_all]
  all_goals exact cj_d (la_is Lh (o := 0) rfl) (((am_Y_ret rfl rfl rfl).trans (am_r0)))

theorem b_X11_settleAgain_0 {d : Nat} {Q : Option am_V → am_H → Prop} (h : am_H) (Lh : Lay h) : ex_ (d + 1) 164 0 [some (v_r (some 0))] [] h Q ↔ ex_ d 74 0 [some (v_r (some 15)), some (v_r (some 11)), none] [] h (fun r h' => ex_ (d + 1) 164 14 [some (v_r (some 0))] (r.toList ++ []) h' Q) := by
  have e0 : h_r h 0 6 = some 15 := la_r Lh (q := (0, 6, 15)) (by decide)
  have e1 : h_r h 0 5 = some 10 := la_r Lh (q := (0, 5, 10)) (by decide)
  have e2 : h_r h 10 0 = some 11 := la_r Lh (q := (10, 0, 11)) (by decide)
  unfold ex_
  refine (am_Y_go 5 (ok := [am_is h (some 0) 11, am_is h (some 0) 11, am_is h ((h_r h 0 5)) 2]) (g := (11, [some (v_r (some 0))], [v_r ((h_r h ((h_r h 0 5).getD 0) 0)), v_r ((h_r h 0 6))], h)) rfl).trans ?_
  simp only [e0, e1, e2, Option.getD_some, am_all]
  all_goals exact cj_d (la_is Lh (o := 0) rfl) (cj_d (la_is Lh (o := 0) rfl) (cj_d (la_is Lh (o := 10) rfl) (((am_Y_call (j := 74) (na := 2) (ci := 6) (fl := 0) rfl rfl rfl).trans (cj_d ⟨⟨Nat.le_of_ble_eq_true rfl, Nat.le_of_ble_eq_true rfl, Nat.le_of_ble_eq_true rfl, rfl⟩, Or.inr (Or.inr (show (6 : Nat) < 20 ∧ am_is h (some 15) 6 from ⟨by decide, (la_is Lh (o := 15) rfl)⟩))⟩ Iff.rfl)))))

theorem b_X11_settleAgain_14 {d : Nat} {Q : Option am_V → am_H → Prop} (h : am_H) (Lh : Lay h) : ex_ d 164 14 [some (v_r (some 0))] [] h Q ↔ Q (none) (p_i (p_i h 56 4 (0 : Int32)) 69 5 (-1 : Int32)) := by
  have e0 : h_r h 0 13 = some 56 := la_r Lh (q := (0, 13, 56)) (by decide)
  have e1 : h_r h 0 14 = some 69 := la_r Lh (q := (0, 14, 69)) (by decide)
  unfold ex_
  refine (am_Y_go 8 (ok := [am_is h (some 0) 11, am_is h ((h_r h 0 13)) 4, (0 : Int32) = 0 ∨ (0 : Int32) = 1, am_is h (some 0) 11, am_is h ((h_r h 0 14)) 3]) (g := (30, [some (v_r (some 0))], [], (p_i (p_i h ((h_r h 0 13).getD 0) 4 (0 : Int32)) ((h_r h 0 14).getD 0) 5 (-1 : Int32)))) rfl).trans ?_
  simp only [e0, e1, Option.getD_some, am_all]
  all_goals exact cj_d (la_is Lh (o := 0) rfl) (cj_d (la_is Lh (o := 56) rfl) (cj_d (by decide) (cj_d (la_is Lh (o := 0) rfl) (cj_d (la_is Lh (o := 69) rfl) (((am_Y_ret rfl rfl rfl).trans (am_rz rfl)))))))

theorem b_X11_house_0 {d : Nat} {Q : Option am_V → am_H → Prop} (h : am_H) (x1 : Int32) (l0 l2 : Option am_V) : ex_ d 165 0 [l0, some (v_i x1), l2] [] h Q ↔ if x1 < 0 then ex_ d 165 12 [l0, some (v_i x1), l2] [] h Q else ex_ d 165 4 [l0, some (v_i x1), l2] [] h Q := by
  unfold ex_
  refine (am_Y_go 2 (ok := []) (g := (if x1 < 0 then 12 else 4, [l0, some (v_i x1), l2], [], h)) rfl).trans ?_
  all_goals exact am_Y_if

theorem b_X11_house_12 {d : Nat} {Q : Option am_V → am_H → Prop} (h : am_H) (l0 l1 l2 : Option am_V) : ex_ d 165 12 [l0, l1, l2] [] h Q ↔ Q (some (v_i (-3 : Int32))) h := by
  unfold ex_
  refine (am_Y_go 1 (ok := []) (g := (14, [l0, l1, l2], [v_i (-3 : Int32)], h)) rfl).trans ?_
  all_goals exact ((am_Y_ret rfl rfl rfl).trans (am_r0))

theorem b_X11_house_4 {d : Nat} {Q : Option am_V → am_H → Prop} (h : am_H) (x1 : Int32) (l2 : Option am_V) (Lh : Lay h) : ex_ d 165 4 [some (v_r (some 0)), some (v_i x1), l2] [] h Q ↔ if x1 ≤ (h_i h 0 1) then ex_ d 165 15 [some (v_r (some 0)), some (v_i x1), l2] [] h Q else ex_ d 165 12 [some (v_r (some 0)), some (v_i x1), l2] [] h Q := by
  unfold ex_
  refine (am_Y_go 4 (ok := [am_is h (some 0) 11]) (g := (if x1 ≤ (h_i h 0 1) then 15 else 12, [some (v_r (some 0)), some (v_i x1), l2], [], h)) rfl).trans ?_
  simp only [am_all]
  all_goals exact cj_d (la_is Lh (o := 0) rfl) (am_Y_if)

theorem b_X11_house_15 {d : Nat} {Q : Option am_V → am_H → Prop} (h : am_H) (x1 : Int32) (l2 : Option am_V) (Lh : Lay h) : ex_ (d + 1) 165 15 [some (v_r (some 0)), some (v_i x1), l2] [] h Q ↔ ex_ d 139 0 [some (v_r (some 2)), some (v_r (some 1)), some (v_i x1), none, none] [] (p_i h 0 1 (0 : Int32)) (fun r h' => ex_ (d + 1) 165 32 [some (v_r (some 0)), some (v_i x1), l2] (r.toList ++ []) h' Q) := by
  have e0 : h_r h 0 4 = some 2 := la_r Lh (q := (0, 4, 2)) (by decide)
  have e1 : h_r h 0 0 = some 1 := la_r Lh (q := (0, 0, 1)) (by decide)
  unfold ex_
  refine (am_Y_go 8 (ok := [am_is h (some 0) 11, am_is h (some 0) 11, am_is h (some 0) 11]) (g := (29, [some (v_r (some 0)), some (v_i x1), l2], [v_i x1, v_r ((h_r h 0 0)), v_r ((h_r h 0 4))], (p_i h 0 1 (0 : Int32)))) rfl).trans ?_
  simp only [e0, e1, Option.getD_some, am_all]
  all_goals exact cj_d (la_is Lh (o := 0) rfl) (cj_d (la_is Lh (o := 0) rfl) (cj_d (la_is Lh (o := 0) rfl) (((am_Y_call (j := 139) (na := 3) (ci := 8) (fl := 0) rfl rfl rfl).trans (cj_d ⟨⟨Nat.le_of_ble_eq_true rfl, Nat.le_of_ble_eq_true rfl, Nat.le_of_ble_eq_true rfl, rfl⟩, Or.inr (Or.inr (show (8 : Nat) < 20 ∧ am_is h (some 2) 8 from ⟨by decide, (la_is Lh (o := 2) rfl)⟩))⟩ Iff.rfl)))))

theorem b_X11_house_32 {d : Nat} {Q : Option am_V → am_H → Prop} (h : am_H) (s0 : Int32) (l1 l2 : Option am_V) (Lh : Lay h) : ex_ d 165 32 [some (v_r (some 0)), l1, l2] [v_i s0] h Q ↔ if ¬ s0 = 0 then ex_ d 165 67 [some (v_r (some 0)), l1, some (v_i s0)] [] (p_i (p_i h 0 2 (h_i h 2 7)) 0 3 (h_i (p_i h 0 2 (h_i h 2 7)) 2 8)) Q else ex_ d 165 59 [some (v_r (some 0)), l1, some (v_i s0)] [] (p_i (p_i h 0 2 (h_i h 2 7)) 0 3 (h_i (p_i h 0 2 (h_i h 2 7)) 2 8)) Q := by
  have e0 : h_r h 0 4 = some 2 := la_r Lh (q := (0, 4, 2)) (by decide)
  unfold ex_
  refine (am_Y_go 13 (ok := [am_is h (some 0) 11, am_is h ((h_r h 0 4)) 8, am_is h (some 0) 11, am_is h (some 0) 11, am_is h ((h_r h 0 4)) 8, am_is h (some 0) 11]) (g := (if ¬ s0 = 0 then 67 else 59, [some (v_r (some 0)), l1, some (v_i s0)], [], (p_i (p_i h 0 2 (h_i h ((h_r h 0 4).getD 0) 7)) 0 3 (h_i (p_i h 0 2 (h_i h ((h_r h 0 4).getD 0) 7)) ((h_r h 0 4).getD 0) 8)))) rfl).trans ?_
  simp only [e0, Option.getD_some, am_all]
  all_goals exact cj_d (la_is Lh (o := 0) rfl) (cj_d (la_is Lh (o := 2) rfl) (cj_d (la_is Lh (o := 0) rfl) (cj_d (la_is Lh (o := 0) rfl) (cj_d (la_is Lh (o := 2) rfl) (cj_d (la_is Lh (o := 0) rfl) (am_Y_if))))))

theorem b_X11_house_67 {d : Nat} {Q : Option am_V → am_H → Prop} (h : am_H) (l1 l2 : Option am_V) (Lh : Lay h) : ex_ (d + 1) 165 67 [some (v_r (some 0)), l1, l2] [] h Q ↔ ex_ d 140 0 [some (v_r (some 2)), some (v_r (some 10))] [] h (fun r h' => ex_ (d + 1) 165 78 [some (v_r (some 0)), l1, l2] (r.toList ++ []) h' Q) := by
  have e0 : h_r h 0 4 = some 2 := la_r Lh (q := (0, 4, 2)) (by decide)
  have e1 : h_r h 0 5 = some 10 := la_r Lh (q := (0, 5, 10)) (by decide)
  unfold ex_
  refine (am_Y_go 4 (ok := [am_is h (some 0) 11, am_is h (some 0) 11]) (g := (75, [some (v_r (some 0)), l1, l2], [v_r ((h_r h 0 5)), v_r ((h_r h 0 4))], h)) rfl).trans ?_
  simp only [e0, e1, Option.getD_some, am_all]
  all_goals exact cj_d (la_is Lh (o := 0) rfl) (cj_d (la_is Lh (o := 0) rfl) (((am_Y_call (j := 140) (na := 2) (ci := 8) (fl := 0) rfl rfl rfl).trans (cj_d ⟨⟨Nat.le_of_ble_eq_true rfl, Nat.le_of_ble_eq_true rfl, Nat.le_of_ble_eq_true rfl, rfl⟩, Or.inr (Or.inr (show (8 : Nat) < 20 ∧ am_is h (some 2) 8 from ⟨by decide, (la_is Lh (o := 2) rfl)⟩))⟩ Iff.rfl))))

theorem b_X11_house_59 {d : Nat} {Q : Option am_V → am_H → Prop} (h : am_H) (l1 l2 : Option am_V) (Lh : Lay h) : ex_ d 165 59 [some (v_r (some 0)), l1, l2] [] h Q ↔ Q (some (v_i ((-30 : Int32) - (h_i h 0 2)))) h := by
  unfold ex_
  refine (am_Y_go 4 (ok := [am_is h (some 0) 11]) (g := (66, [some (v_r (some 0)), l1, l2], [v_i ((-30 : Int32) - (h_i h 0 2))], h)) rfl).trans ?_
  simp only [am_all]
  all_goals exact cj_d (la_is Lh (o := 0) rfl) (((am_Y_ret rfl rfl rfl).trans (am_r0)))

theorem b_X11_house_78 {d : Nat} {Q : Option am_V → am_H → Prop} (h : am_H) (l1 l2 : Option am_V) (Lh : Lay h) : ex_ (d + 1) 165 78 [some (v_r (some 0)), l1, l2] [] h Q ↔ ex_ d 76 0 [some (v_r (some 25))] [] h (fun r h' => ex_ (d + 1) 165 85 [some (v_r (some 0)), l1, l2] (r.toList ++ []) h' Q) := by
  have e0 : h_r h 0 7 = some 25 := la_r Lh (q := (0, 7, 25)) (by decide)
  unfold ex_
  refine (am_Y_go 2 (ok := [am_is h (some 0) 11]) (g := (82, [some (v_r (some 0)), l1, l2], [v_r ((h_r h 0 7))], h)) rfl).trans ?_
  simp only [e0, Option.getD_some, am_all]
  all_goals exact cj_d (la_is Lh (o := 0) rfl) (((am_Y_call (j := 76) (na := 1) (ci := 7) (fl := 0) rfl rfl rfl).trans (cj_d ⟨⟨Nat.le_of_ble_eq_true rfl, Nat.le_of_ble_eq_true rfl, Nat.le_of_ble_eq_true rfl, rfl⟩, Or.inr (Or.inr (show (7 : Nat) < 20 ∧ am_is h (some 25) 7 from ⟨by decide, (la_is Lh (o := 25) rfl)⟩))⟩ Iff.rfl)))

theorem b_X11_house_85 {d : Nat} {Q : Option am_V → am_H → Prop} (h : am_H) (l1 l2 : Option am_V) (Lh : Lay h) : ex_ (d + 1) 165 85 [some (v_r (some 0)), l1, l2] [] h Q ↔ ex_ d 164 0 [some (v_r (some 0))] [] h (fun r h' => ex_ (d + 1) 165 89 [some (v_r (some 0)), l1, l2] (r.toList ++ []) h' Q) := by
  unfold ex_
  refine (am_Y_go 1 (ok := []) (g := (86, [some (v_r (some 0)), l1, l2], [v_r (some 0)], h)) rfl).trans ?_
  all_goals exact ((am_Y_call (j := 164) (na := 1) (ci := 11) (fl := 0) rfl rfl rfl).trans (cj_d ⟨⟨Nat.le_of_ble_eq_true rfl, Nat.le_of_ble_eq_true rfl, Nat.le_of_ble_eq_true rfl, rfl⟩, Or.inr (Or.inr (show (11 : Nat) < 20 ∧ am_is h (some 0) 11 from ⟨by decide, (la_is Lh (o := 0) rfl)⟩))⟩ Iff.rfl))

theorem b_X11_house_89 {d : Nat} {Q : Option am_V → am_H → Prop} (h : am_H) (l1 l2 : Option am_V) (Lh : Lay h) : ex_ d 165 89 [some (v_r (some 0)), l1, l2] [] h Q ↔ Q (some (v_i (h_i h 10 3))) h := by
  have e0 : h_r h 0 5 = some 10 := la_r Lh (q := (0, 5, 10)) (by decide)
  unfold ex_
  refine (am_Y_go 3 (ok := [am_is h (some 0) 11, am_is h ((h_r h 0 5)) 2]) (g := (96, [some (v_r (some 0)), l1, l2], [v_i (h_i h ((h_r h 0 5).getD 0) 3)], h)) rfl).trans ?_
  simp only [e0, Option.getD_some, am_all]
  all_goals exact cj_d (la_is Lh (o := 0) rfl) (cj_d (la_is Lh (o := 10) rfl) (((am_Y_ret rfl rfl rfl).trans (am_r0))))

theorem b_X11_fault_0 {d : Nat} {Q : Option am_V → am_H → Prop} (h : am_H) (x1 : Int32) (l0 : Option am_V) : ex_ d 166 0 [l0, some (v_i x1)] [] h Q ↔ if ¬ x1 = 0 then ex_ d 166 9 [l0, some (v_i x1)] [] h Q else ex_ d 166 4 [l0, some (v_i x1)] [] h Q := by
  unfold ex_
  refine (am_Y_go 2 (ok := []) (g := (if ¬ x1 = 0 then 9 else 4, [l0, some (v_i x1)], [], h)) rfl).trans ?_
  all_goals exact am_Y_if

theorem b_X11_fault_9 {d : Nat} {Q : Option am_V → am_H → Prop} (h : am_H) (x1 : Int32) (l0 : Option am_V) : ex_ d 166 9 [l0, some (v_i x1)] [] h Q ↔ if ¬ x1 = (1 : Int32) then ex_ d 166 21 [l0, some (v_i x1)] [] h Q else ex_ d 166 14 [l0, some (v_i x1)] [] h Q := by
  unfold ex_
  refine (am_Y_go 3 (ok := []) (g := (if ¬ x1 = (1 : Int32) then 21 else 14, [l0, some (v_i x1)], [], h)) rfl).trans ?_
  all_goals exact am_Y_if

theorem b_X11_fault_4 {d : Nat} {Q : Option am_V → am_H → Prop} (h : am_H) (l1 : Option am_V) (Lh : Lay h) : ex_ d 166 4 [some (v_r (some 0)), l1] [] h Q ↔ Q (some (v_i (h_i h 0 2))) h := by
  unfold ex_
  refine (am_Y_go 2 (ok := [am_is h (some 0) 11]) (g := (8, [some (v_r (some 0)), l1], [v_i (h_i h 0 2)], h)) rfl).trans ?_
  simp only [am_all]
  all_goals exact cj_d (la_is Lh (o := 0) rfl) (((am_Y_ret rfl rfl rfl).trans (am_r0)))

theorem b_X11_fault_21 {d : Nat} {Q : Option am_V → am_H → Prop} (h : am_H) (l0 l1 : Option am_V) : ex_ d 166 21 [l0, l1] [] h Q ↔ Q (some (v_i (-1 : Int32))) h := by
  unfold ex_
  refine (am_Y_go 1 (ok := []) (g := (22, [l0, l1], [v_i (-1 : Int32)], h)) rfl).trans ?_
  all_goals exact ((am_Y_ret rfl rfl rfl).trans (am_r0))

theorem b_X11_fault_14 {d : Nat} {Q : Option am_V → am_H → Prop} (h : am_H) (l1 : Option am_V) (Lh : Lay h) : ex_ d 166 14 [some (v_r (some 0)), l1] [] h Q ↔ Q (some (v_i (h_i h 0 3))) h := by
  unfold ex_
  refine (am_Y_go 3 (ok := [am_is h (some 0) 11]) (g := (22, [some (v_r (some 0)), l1], [v_i (h_i h 0 3)], h)) rfl).trans ?_
  simp only [am_all]
  all_goals exact cj_d (la_is Lh (o := 0) rfl) (((am_Y_ret rfl rfl rfl).trans (am_r0)))

theorem b_X11_parent_0 {d : Nat} {Q : Option am_V → am_H → Prop} (h : am_H) (x1 : Int32) (l2 : Option am_V) (Lh : Lay h) : ex_ (d + 1) 167 0 [some (v_r (some 0)), some (v_i x1), l2] [] h Q ↔ ex_ d 3 0 [some (v_r (some 11)), some (v_i x1)] [] h (fun r h' => ex_ (d + 1) 167 11 [some (v_r (some 0)), some (v_i x1), l2] (r.toList ++ []) h' Q) := by
  have e0 : h_r h 0 5 = some 10 := la_r Lh (q := (0, 5, 10)) (by decide)
  have e1 : h_r h 10 0 = some 11 := la_r Lh (q := (10, 0, 11)) (by decide)
  unfold ex_
  refine (am_Y_go 4 (ok := [am_is h (some 0) 11, am_is h ((h_r h 0 5)) 2]) (g := (8, [some (v_r (some 0)), some (v_i x1), l2], [v_i x1, v_r ((h_r h ((h_r h 0 5).getD 0) 0))], h)) rfl).trans ?_
  simp only [e0, e1, Option.getD_some, am_all]
  all_goals exact cj_d (la_is Lh (o := 0) rfl) (cj_d (la_is Lh (o := 10) rfl) (((am_Y_call (j := 3) (na := 2) (ci := 1) (fl := 0) rfl rfl rfl).trans (cj_d ⟨⟨Nat.le_of_ble_eq_true rfl, Nat.le_of_ble_eq_true rfl, Nat.le_of_ble_eq_true rfl, rfl⟩, Or.inr (Or.inr (show (1 : Nat) < 20 ∧ am_is h (some 11) 1 from ⟨by decide, (la_is Lh (o := 11) rfl)⟩))⟩ Iff.rfl))))

theorem b_X11_parent_11 {d : Nat} {Q : Option am_V → am_H → Prop} (h : am_H) (s0 : Int32) (l0 l1 l2 : Option am_V) : ex_ d 167 11 [l0, l1, l2] [v_i s0] h Q ↔ if ¬ s0 = 0 then ex_ d 167 17 [l0, l1, l2] [] h Q else ex_ d 167 14 [l0, l1, l2] [] h Q := by
  unfold ex_
  refine (am_Y_go 1 (ok := []) (g := (if ¬ s0 = 0 then 17 else 14, [l0, l1, l2], [], h)) rfl).trans ?_
  all_goals exact am_Y_if

theorem b_X11_parent_17 {d : Nat} {Q : Option am_V → am_H → Prop} (h : am_H) (x2 : Int32) (l0 l1 : Option am_V) : ex_ d 167 17 [l0, l1, some (v_i x2)] [] h Q ↔ if 0 ≤ x2 then ex_ d 167 26 [l0, l1, some (v_i x2)] [] h Q else ex_ d 167 21 [l0, l1, some (v_i x2)] [] h Q := by
  unfold ex_
  refine (am_Y_go 2 (ok := []) (g := (if 0 ≤ x2 then 26 else 21, [l0, l1, some (v_i x2)], [], h)) rfl).trans ?_
  all_goals exact am_Y_if

theorem b_X11_parent_14 {d : Nat} {Q : Option am_V → am_H → Prop} (h : am_H) (l0 l1 l2 : Option am_V) : ex_ d 167 14 [l0, l1, l2] [] h Q ↔ Q (some (v_i (-2 : Int32))) h := by
  unfold ex_
  refine (am_Y_go 1 (ok := []) (g := (16, [l0, l1, l2], [v_i (-2 : Int32)], h)) rfl).trans ?_
  all_goals exact ((am_Y_ret rfl rfl rfl).trans (am_r0))

theorem b_X11_parent_26 {d : Nat} {Q : Option am_V → am_H → Prop} (h : am_H) (x1 : Int32) (x2 : Int32) (Lh : Lay h) : ex_ (d + 1) 167 26 [some (v_r (some 0)), some (v_i x1), some (v_i x2)] [] h Q ↔ ex_ d 5 0 [some (v_r (some 11)), some (v_i x1), some (v_i x2)] [] h (fun r h' => ex_ (d + 1) 167 38 [some (v_r (some 0)), some (v_i x1), some (v_i x2)] (r.toList ++ []) h' Q) := by
  have e0 : h_r h 0 5 = some 10 := la_r Lh (q := (0, 5, 10)) (by decide)
  have e1 : h_r h 10 0 = some 11 := la_r Lh (q := (10, 0, 11)) (by decide)
  unfold ex_
  refine (am_Y_go 5 (ok := [am_is h (some 0) 11, am_is h ((h_r h 0 5)) 2]) (g := (35, [some (v_r (some 0)), some (v_i x1), some (v_i x2)], [v_i x2, v_i x1, v_r ((h_r h ((h_r h 0 5).getD 0) 0))], h)) rfl).trans ?_
  simp only [e0, e1, Option.getD_some, am_all]
  all_goals exact cj_d (la_is Lh (o := 0) rfl) (cj_d (la_is Lh (o := 10) rfl) (((am_Y_call (j := 5) (na := 3) (ci := 1) (fl := 0) rfl rfl rfl).trans (cj_d ⟨⟨Nat.le_of_ble_eq_true rfl, Nat.le_of_ble_eq_true rfl, Nat.le_of_ble_eq_true rfl, rfl⟩, Or.inr (Or.inr (show (1 : Nat) < 20 ∧ am_is h (some 11) 1 from ⟨by decide, (la_is Lh (o := 11) rfl)⟩))⟩ Iff.rfl))))

theorem b_X11_parent_21 {d : Nat} {Q : Option am_V → am_H → Prop} (h : am_H) (l0 l1 l2 : Option am_V) : ex_ d 167 21 [l0, l1, l2] [] h Q ↔ Q (some (v_i (-3 : Int32))) h := by
  unfold ex_
  refine (am_Y_go 2 (ok := []) (g := (38, [l0, l1, l2], [v_i (-3 : Int32)], h)) rfl).trans ?_
  all_goals exact ((am_Y_ret rfl rfl rfl).trans (am_r0))

theorem b_X11_parent_38 {d : Nat} {Q : Option am_V → am_H → Prop} (h : am_H) (s0 : Int32) (l0 l1 l2 : Option am_V) : ex_ d 167 38 [l0, l1, l2] [v_i s0] h Q ↔ Q (some (v_i s0)) h := by
  unfold ex_
  exact ((am_Y_ret rfl rfl rfl).trans (am_r0))

theorem b_X11_defines_0 {d : Nat} {Q : Option am_V → am_H → Prop} (h : am_H) (x1 : Int32) (l2 : Option am_V) (Lh : Lay h) : ex_ (d + 1) 168 0 [some (v_r (some 0)), some (v_i x1), l2] [] h Q ↔ ex_ d 3 0 [some (v_r (some 11)), some (v_i x1)] [] h (fun r h' => ex_ (d + 1) 168 11 [some (v_r (some 0)), some (v_i x1), l2] (r.toList ++ []) h' Q) := by
  have e0 : h_r h 0 5 = some 10 := la_r Lh (q := (0, 5, 10)) (by decide)
  have e1 : h_r h 10 0 = some 11 := la_r Lh (q := (10, 0, 11)) (by decide)
  unfold ex_
  refine (am_Y_go 4 (ok := [am_is h (some 0) 11, am_is h ((h_r h 0 5)) 2]) (g := (8, [some (v_r (some 0)), some (v_i x1), l2], [v_i x1, v_r ((h_r h ((h_r h 0 5).getD 0) 0))], h)) rfl).trans ?_
  simp only [e0, e1, Option.getD_some, am_all]
  all_goals exact cj_d (la_is Lh (o := 0) rfl) (cj_d (la_is Lh (o := 10) rfl) (((am_Y_call (j := 3) (na := 2) (ci := 1) (fl := 0) rfl rfl rfl).trans (cj_d ⟨⟨Nat.le_of_ble_eq_true rfl, Nat.le_of_ble_eq_true rfl, Nat.le_of_ble_eq_true rfl, rfl⟩, Or.inr (Or.inr (show (1 : Nat) < 20 ∧ am_is h (some 11) 1 from ⟨by decide, (la_is Lh (o := 11) rfl)⟩))⟩ Iff.rfl))))

theorem b_X11_defines_11 {d : Nat} {Q : Option am_V → am_H → Prop} (h : am_H) (s0 : Int32) (l0 l1 l2 : Option am_V) : ex_ d 168 11 [l0, l1, l2] [v_i s0] h Q ↔ if s0 = 0 then ex_ d 168 21 [l0, l1, l2] [] h Q else ex_ d 168 14 [l0, l1, l2] [] h Q := by
  unfold ex_
  refine (am_Y_go 1 (ok := []) (g := (if s0 = 0 then 21 else 14, [l0, l1, l2], [], h)) rfl).trans ?_
  all_goals exact am_Y_if

theorem b_X11_defines_21 {d : Nat} {Q : Option am_V → am_H → Prop} (h : am_H) (l0 l1 l2 : Option am_V) : ex_ d 168 21 [l0, l1, l2] [] h Q ↔ Q (some (v_i (-2 : Int32))) h := by
  unfold ex_
  refine (am_Y_go 1 (ok := []) (g := (23, [l0, l1, l2], [v_i (-2 : Int32)], h)) rfl).trans ?_
  all_goals exact ((am_Y_ret rfl rfl rfl).trans (am_r0))

theorem b_X11_defines_14 {d : Nat} {Q : Option am_V → am_H → Prop} (h : am_H) (x2 : Int32) (l0 l1 : Option am_V) : ex_ (d + 1) 168 14 [l0, l1, some (v_i x2)] [] h Q ↔ ex_ d 31 0 [some (v_i x2)] [] h (fun r h' => ex_ (d + 1) 168 18 [l0, l1, some (v_i x2)] (r.toList ++ []) h' Q) := by
  unfold ex_
  refine (am_Y_go 1 (ok := []) (g := (15, [l0, l1, some (v_i x2)], [v_i x2], h)) rfl).trans ?_
  all_goals exact ((am_Y_call (j := 31) (na := 1) (ci := 11) (fl := 2) rfl rfl rfl).trans (cj_d ⟨⟨Nat.le_of_ble_eq_true rfl, Nat.le_of_ble_eq_true rfl, Nat.le_of_ble_eq_true rfl, rfl⟩, Or.inl rfl⟩ Iff.rfl))

theorem b_X11_defines_18 {d : Nat} {Q : Option am_V → am_H → Prop} (h : am_H) (s0 : Int32) (l0 l1 l2 : Option am_V) : ex_ d 168 18 [l0, l1, l2] [v_i s0] h Q ↔ if ¬ s0 = 0 then ex_ d 168 24 [l0, l1, l2] [] h Q else ex_ d 168 21 [l0, l1, l2] [] h Q := by
  unfold ex_
  refine (am_Y_go 1 (ok := []) (g := (if ¬ s0 = 0 then 24 else 21, [l0, l1, l2], [], h)) rfl).trans ?_
  all_goals exact am_Y_if

theorem b_X11_defines_24 {d : Nat} {Q : Option am_V → am_H → Prop} (h : am_H) (x1 : Int32) (x2 : Int32) (Lh : Lay h) : ex_ (d + 1) 168 24 [some (v_r (some 0)), some (v_i x1), some (v_i x2)] [] h Q ↔ ex_ d 32 0 [some (v_r (some 11)), some (v_i x1), some (v_i x2)] [] h (fun r h' => ex_ (d + 1) 168 36 [some (v_r (some 0)), some (v_i x1), some (v_i x2)] (r.toList ++ []) h' Q) := by
  have e0 : h_r h 0 5 = some 10 := la_r Lh (q := (0, 5, 10)) (by decide)
  have e1 : h_r h 10 0 = some 11 := la_r Lh (q := (10, 0, 11)) (by decide)
  unfold ex_
  refine (am_Y_go 5 (ok := [am_is h (some 0) 11, am_is h ((h_r h 0 5)) 2]) (g := (33, [some (v_r (some 0)), some (v_i x1), some (v_i x2)], [v_i x2, v_i x1, v_r ((h_r h ((h_r h 0 5).getD 0) 0))], h)) rfl).trans ?_
  simp only [e0, e1, Option.getD_some, am_all]
  all_goals exact cj_d (la_is Lh (o := 0) rfl) (cj_d (la_is Lh (o := 10) rfl) (((am_Y_call (j := 32) (na := 3) (ci := 1) (fl := 0) rfl rfl rfl).trans (cj_d ⟨⟨Nat.le_of_ble_eq_true rfl, Nat.le_of_ble_eq_true rfl, Nat.le_of_ble_eq_true rfl, rfl⟩, Or.inr (Or.inr (show (1 : Nat) < 20 ∧ am_is h (some 11) 1 from ⟨by decide, (la_is Lh (o := 11) rfl)⟩))⟩ Iff.rfl))))

theorem b_X11_defines_36 {d : Nat} {Q : Option am_V → am_H → Prop} (h : am_H) (s0 : Int32) (l0 l1 l2 : Option am_V) : ex_ d 168 36 [l0, l1, l2] [v_i s0] h Q ↔ Q (some (v_i s0)) h := by
  unfold ex_
  exact ((am_Y_ret rfl rfl rfl).trans (am_r0))

theorem b_X11_state_0 {d : Nat} {Q : Option am_V → am_H → Prop} (h : am_H) (x1 : Int32) (Lh : Lay h) : ex_ (d + 1) 169 0 [some (v_r (some 0)), some (v_i x1)] [] h Q ↔ ex_ d 3 0 [some (v_r (some 11)), some (v_i x1)] [] h (fun r h' => ex_ (d + 1) 169 11 [some (v_r (some 0)), some (v_i x1)] (r.toList ++ []) h' Q) := by
  have e0 : h_r h 0 5 = some 10 := la_r Lh (q := (0, 5, 10)) (by decide)
  have e1 : h_r h 10 0 = some 11 := la_r Lh (q := (10, 0, 11)) (by decide)
  unfold ex_
  refine (am_Y_go 4 (ok := [am_is h (some 0) 11, am_is h ((h_r h 0 5)) 2]) (g := (8, [some (v_r (some 0)), some (v_i x1)], [v_i x1, v_r ((h_r h ((h_r h 0 5).getD 0) 0))], h)) rfl).trans ?_
  simp only [e0, e1, Option.getD_some, am_all]
  all_goals exact cj_d (la_is Lh (o := 0) rfl) (cj_d (la_is Lh (o := 10) rfl) (((am_Y_call (j := 3) (na := 2) (ci := 1) (fl := 0) rfl rfl rfl).trans (cj_d ⟨⟨Nat.le_of_ble_eq_true rfl, Nat.le_of_ble_eq_true rfl, Nat.le_of_ble_eq_true rfl, rfl⟩, Or.inr (Or.inr (show (1 : Nat) < 20 ∧ am_is h (some 11) 1 from ⟨by decide, (la_is Lh (o := 11) rfl)⟩))⟩ Iff.rfl))))

theorem b_X11_state_11 {d : Nat} {Q : Option am_V → am_H → Prop} (h : am_H) (s0 : Int32) (l0 l1 : Option am_V) : ex_ d 169 11 [l0, l1] [v_i s0] h Q ↔ if s0 = 0 then ex_ d 169 25 [l0, l1] [] h Q else ex_ d 169 14 [l0, l1] [] h Q := by
  unfold ex_
  refine (am_Y_go 1 (ok := []) (g := (if s0 = 0 then 25 else 14, [l0, l1], [], h)) rfl).trans ?_
  all_goals exact am_Y_if

theorem b_X11_state_25 {d : Nat} {Q : Option am_V → am_H → Prop} (h : am_H) (l0 l1 : Option am_V) : ex_ d 169 25 [l0, l1] [] h Q ↔ Q (some (v_i (-2 : Int32))) h := by
  unfold ex_
  refine (am_Y_go 1 (ok := []) (g := (27, [l0, l1], [v_i (-2 : Int32)], h)) rfl).trans ?_
  all_goals exact ((am_Y_ret rfl rfl rfl).trans (am_r0))

theorem b_X11_state_14 {d : Nat} {Q : Option am_V → am_H → Prop} (h : am_H) (x1 : Int32) (Lh : Lay h) : ex_ (d + 1) 169 14 [some (v_r (some 0)), some (v_i x1)] [] h Q ↔ ex_ d 71 0 [some (v_r (some 15)), some (v_i x1)] [] h (fun r h' => ex_ (d + 1) 169 22 [some (v_r (some 0)), some (v_i x1)] (r.toList ++ []) h' Q) := by
  have e0 : h_r h 0 6 = some 15 := la_r Lh (q := (0, 6, 15)) (by decide)
  unfold ex_
  refine (am_Y_go 3 (ok := [am_is h (some 0) 11]) (g := (19, [some (v_r (some 0)), some (v_i x1)], [v_i x1, v_r ((h_r h 0 6))], h)) rfl).trans ?_
  simp only [e0, Option.getD_some, am_all]
  all_goals exact cj_d (la_is Lh (o := 0) rfl) (((am_Y_call (j := 71) (na := 2) (ci := 6) (fl := 0) rfl rfl rfl).trans (cj_d ⟨⟨Nat.le_of_ble_eq_true rfl, Nat.le_of_ble_eq_true rfl, Nat.le_of_ble_eq_true rfl, rfl⟩, Or.inr (Or.inr (show (6 : Nat) < 20 ∧ am_is h (some 15) 6 from ⟨by decide, (la_is Lh (o := 15) rfl)⟩))⟩ Iff.rfl)))

theorem b_X11_state_22 {d : Nat} {Q : Option am_V → am_H → Prop} (h : am_H) (s0 : Int32) (l0 l1 : Option am_V) : ex_ d 169 22 [l0, l1] [v_i s0] h Q ↔ Q (some (v_i s0)) h := by
  unfold ex_
  refine (am_Y_go 1 (ok := []) (g := (27, [l0, l1], [v_i s0], h)) rfl).trans ?_
  all_goals exact ((am_Y_ret rfl rfl rfl).trans (am_r0))

theorem b_X11_order_0 {d : Nat} {Q : Option am_V → am_H → Prop} (h : am_H) (x1 : Int32) (l2 : Option am_V) (Lh : Lay h) : ex_ (d + 1) 170 0 [some (v_r (some 0)), some (v_i x1), l2] [] h Q ↔ ex_ d 3 0 [some (v_r (some 11)), some (v_i x1)] [] h (fun r h' => ex_ (d + 1) 170 11 [some (v_r (some 0)), some (v_i x1), l2] (r.toList ++ []) h' Q) := by
  have e0 : h_r h 0 5 = some 10 := la_r Lh (q := (0, 5, 10)) (by decide)
  have e1 : h_r h 10 0 = some 11 := la_r Lh (q := (10, 0, 11)) (by decide)
  unfold ex_
  refine (am_Y_go 4 (ok := [am_is h (some 0) 11, am_is h ((h_r h 0 5)) 2]) (g := (8, [some (v_r (some 0)), some (v_i x1), l2], [v_i x1, v_r ((h_r h ((h_r h 0 5).getD 0) 0))], h)) rfl).trans ?_
  simp only [e0, e1, Option.getD_some, am_all]
  all_goals exact cj_d (la_is Lh (o := 0) rfl) (cj_d (la_is Lh (o := 10) rfl) (((am_Y_call (j := 3) (na := 2) (ci := 1) (fl := 0) rfl rfl rfl).trans (cj_d ⟨⟨Nat.le_of_ble_eq_true rfl, Nat.le_of_ble_eq_true rfl, Nat.le_of_ble_eq_true rfl, rfl⟩, Or.inr (Or.inr (show (1 : Nat) < 20 ∧ am_is h (some 11) 1 from ⟨by decide, (la_is Lh (o := 11) rfl)⟩))⟩ Iff.rfl))))

theorem b_X11_order_11 {d : Nat} {Q : Option am_V → am_H → Prop} (h : am_H) (s0 : Int32) (l0 l1 l2 : Option am_V) : ex_ d 170 11 [l0, l1, l2] [v_i s0] h Q ↔ if ¬ s0 = 0 then ex_ d 170 17 [l0, l1, l2] [] h Q else ex_ d 170 14 [l0, l1, l2] [] h Q := by
  unfold ex_
  refine (am_Y_go 1 (ok := []) (g := (if ¬ s0 = 0 then 17 else 14, [l0, l1, l2], [], h)) rfl).trans ?_
  all_goals exact am_Y_if

theorem b_X11_order_17 {d : Nat} {Q : Option am_V → am_H → Prop} (h : am_H) (x2 : Int32) (l0 l1 : Option am_V) : ex_ d 170 17 [l0, l1, some (v_i x2)] [] h Q ↔ if 0 ≤ x2 then ex_ d 170 26 [l0, l1, some (v_i x2)] [] h Q else ex_ d 170 21 [l0, l1, some (v_i x2)] [] h Q := by
  unfold ex_
  refine (am_Y_go 2 (ok := []) (g := (if 0 ≤ x2 then 26 else 21, [l0, l1, some (v_i x2)], [], h)) rfl).trans ?_
  all_goals exact am_Y_if

theorem b_X11_order_14 {d : Nat} {Q : Option am_V → am_H → Prop} (h : am_H) (l0 l1 l2 : Option am_V) : ex_ d 170 14 [l0, l1, l2] [] h Q ↔ Q (some (v_i (-2 : Int32))) h := by
  unfold ex_
  refine (am_Y_go 1 (ok := []) (g := (16, [l0, l1, l2], [v_i (-2 : Int32)], h)) rfl).trans ?_
  all_goals exact ((am_Y_ret rfl rfl rfl).trans (am_r0))

theorem b_X11_order_26 {d : Nat} {Q : Option am_V → am_H → Prop} (h : am_H) (x1 : Int32) (x2 : Int32) (Lh : Lay h) : ex_ (d + 1) 170 26 [some (v_r (some 0)), some (v_i x1), some (v_i x2)] [] h Q ↔ ex_ d 10 0 [some (v_r (some 15)), some (v_i x1), some (v_i x2)] [] h (fun r h' => ex_ (d + 1) 170 35 [some (v_r (some 0)), some (v_i x1), some (v_i x2)] (r.toList ++ []) h' Q) := by
  have e0 : h_r h 0 6 = some 15 := la_r Lh (q := (0, 6, 15)) (by decide)
  unfold ex_
  refine (am_Y_go 4 (ok := [am_is h (some 0) 11]) (g := (32, [some (v_r (some 0)), some (v_i x1), some (v_i x2)], [v_i x2, v_i x1, v_r ((h_r h 0 6))], h)) rfl).trans ?_
  simp only [e0, Option.getD_some, am_all]
  all_goals exact cj_d (la_is Lh (o := 0) rfl) (((am_Y_call (j := 10) (na := 3) (ci := 6) (fl := 0) rfl rfl rfl).trans (cj_d ⟨⟨Nat.le_of_ble_eq_true rfl, Nat.le_of_ble_eq_true rfl, Nat.le_of_ble_eq_true rfl, rfl⟩, Or.inr (Or.inr (show (6 : Nat) < 20 ∧ am_is h (some 15) 6 from ⟨by decide, (la_is Lh (o := 15) rfl)⟩))⟩ Iff.rfl)))

theorem b_X11_order_21 {d : Nat} {Q : Option am_V → am_H → Prop} (h : am_H) (l0 l1 l2 : Option am_V) : ex_ d 170 21 [l0, l1, l2] [] h Q ↔ Q (some (v_i (-3 : Int32))) h := by
  unfold ex_
  refine (am_Y_go 2 (ok := []) (g := (35, [l0, l1, l2], [v_i (-3 : Int32)], h)) rfl).trans ?_
  all_goals exact ((am_Y_ret rfl rfl rfl).trans (am_r0))

theorem b_X11_order_35 {d : Nat} {Q : Option am_V → am_H → Prop} (h : am_H) (s0 : Int32) (l0 l1 l2 : Option am_V) : ex_ d 170 35 [l0, l1, l2] [v_i s0] h Q ↔ Q (some (v_i s0)) h := by
  unfold ex_
  exact ((am_Y_ret rfl rfl rfl).trans (am_r0))

theorem b_X11_place_0 {d : Nat} {Q : Option am_V → am_H → Prop} (h : am_H) (x1 : Int32) (l2 : Option am_V) (Lh : Lay h) : ex_ (d + 1) 171 0 [some (v_r (some 0)), some (v_i x1), l2] [] h Q ↔ ex_ d 3 0 [some (v_r (some 11)), some (v_i x1)] [] h (fun r h' => ex_ (d + 1) 171 11 [some (v_r (some 0)), some (v_i x1), l2] (r.toList ++ []) h' Q) := by
  have e0 : h_r h 0 5 = some 10 := la_r Lh (q := (0, 5, 10)) (by decide)
  have e1 : h_r h 10 0 = some 11 := la_r Lh (q := (10, 0, 11)) (by decide)
  unfold ex_
  refine (am_Y_go 4 (ok := [am_is h (some 0) 11, am_is h ((h_r h 0 5)) 2]) (g := (8, [some (v_r (some 0)), some (v_i x1), l2], [v_i x1, v_r ((h_r h ((h_r h 0 5).getD 0) 0))], h)) rfl).trans ?_
  simp only [e0, e1, Option.getD_some, am_all]
  all_goals exact cj_d (la_is Lh (o := 0) rfl) (cj_d (la_is Lh (o := 10) rfl) (((am_Y_call (j := 3) (na := 2) (ci := 1) (fl := 0) rfl rfl rfl).trans (cj_d ⟨⟨Nat.le_of_ble_eq_true rfl, Nat.le_of_ble_eq_true rfl, Nat.le_of_ble_eq_true rfl, rfl⟩, Or.inr (Or.inr (show (1 : Nat) < 20 ∧ am_is h (some 11) 1 from ⟨by decide, (la_is Lh (o := 11) rfl)⟩))⟩ Iff.rfl))))

theorem b_X11_place_11 {d : Nat} {Q : Option am_V → am_H → Prop} (h : am_H) (s0 : Int32) (l0 l1 l2 : Option am_V) : ex_ d 171 11 [l0, l1, l2] [v_i s0] h Q ↔ if s0 = 0 then ex_ d 171 28 [l0, l1, l2] [] h Q else ex_ d 171 14 [l0, l1, l2] [] h Q := by
  unfold ex_
  refine (am_Y_go 1 (ok := []) (g := (if s0 = 0 then 28 else 14, [l0, l1, l2], [], h)) rfl).trans ?_
  all_goals exact am_Y_if

theorem b_X11_place_28 {d : Nat} {Q : Option am_V → am_H → Prop} (h : am_H) (l0 l1 l2 : Option am_V) : ex_ d 171 28 [l0, l1, l2] [] h Q ↔ Q (some (v_i (-2 : Int32))) h := by
  unfold ex_
  refine (am_Y_go 1 (ok := []) (g := (30, [l0, l1, l2], [v_i (-2 : Int32)], h)) rfl).trans ?_
  all_goals exact ((am_Y_ret rfl rfl rfl).trans (am_r0))

theorem b_X11_place_14 {d : Nat} {Q : Option am_V → am_H → Prop} (h : am_H) (x2 : Int32) (l1 : Option am_V) (Lh : Lay h) : ex_ (d + 1) 171 14 [some (v_r (some 0)), l1, some (v_i x2)] [] h Q ↔ ex_ d 3 0 [some (v_r (some 11)), some (v_i x2)] [] h (fun r h' => ex_ (d + 1) 171 25 [some (v_r (some 0)), l1, some (v_i x2)] (r.toList ++ []) h' Q) := by
  have e0 : h_r h 0 5 = some 10 := la_r Lh (q := (0, 5, 10)) (by decide)
  have e1 : h_r h 10 0 = some 11 := la_r Lh (q := (10, 0, 11)) (by decide)
  unfold ex_
  refine (am_Y_go 4 (ok := [am_is h (some 0) 11, am_is h ((h_r h 0 5)) 2]) (g := (22, [some (v_r (some 0)), l1, some (v_i x2)], [v_i x2, v_r ((h_r h ((h_r h 0 5).getD 0) 0))], h)) rfl).trans ?_
  simp only [e0, e1, Option.getD_some, am_all]
  all_goals exact cj_d (la_is Lh (o := 0) rfl) (cj_d (la_is Lh (o := 10) rfl) (((am_Y_call (j := 3) (na := 2) (ci := 1) (fl := 0) rfl rfl rfl).trans (cj_d ⟨⟨Nat.le_of_ble_eq_true rfl, Nat.le_of_ble_eq_true rfl, Nat.le_of_ble_eq_true rfl, rfl⟩, Or.inr (Or.inr (show (1 : Nat) < 20 ∧ am_is h (some 11) 1 from ⟨by decide, (la_is Lh (o := 11) rfl)⟩))⟩ Iff.rfl))))

theorem b_X11_place_25 {d : Nat} {Q : Option am_V → am_H → Prop} (h : am_H) (s0 : Int32) (l0 l1 l2 : Option am_V) : ex_ d 171 25 [l0, l1, l2] [v_i s0] h Q ↔ if ¬ s0 = 0 then ex_ d 171 31 [l0, l1, l2] [] h Q else ex_ d 171 28 [l0, l1, l2] [] h Q := by
  unfold ex_
  refine (am_Y_go 1 (ok := []) (g := (if ¬ s0 = 0 then 31 else 28, [l0, l1, l2], [], h)) rfl).trans ?_
  all_goals exact am_Y_if

theorem b_X11_place_31 {d : Nat} {Q : Option am_V → am_H → Prop} (h : am_H) (x1 : Int32) (x2 : Int32) (Lh : Lay h) : ex_ (d + 1) 171 31 [some (v_r (some 0)), some (v_i x1), some (v_i x2)] [] h Q ↔ ex_ d 72 0 [some (v_r (some 15)), some (v_i x1), some (v_i x2), none] [] h (fun r h' => ex_ (d + 1) 171 40 [some (v_r (some 0)), some (v_i x1), some (v_i x2)] (r.toList ++ []) h' Q) := by
  have e0 : h_r h 0 6 = some 15 := la_r Lh (q := (0, 6, 15)) (by decide)
  unfold ex_
  refine (am_Y_go 4 (ok := [am_is h (some 0) 11]) (g := (37, [some (v_r (some 0)), some (v_i x1), some (v_i x2)], [v_i x2, v_i x1, v_r ((h_r h 0 6))], h)) rfl).trans ?_
  simp only [e0, Option.getD_some, am_all]
  all_goals exact cj_d (la_is Lh (o := 0) rfl) (((am_Y_call (j := 72) (na := 3) (ci := 6) (fl := 0) rfl rfl rfl).trans (cj_d ⟨⟨Nat.le_of_ble_eq_true rfl, Nat.le_of_ble_eq_true rfl, Nat.le_of_ble_eq_true rfl, rfl⟩, Or.inr (Or.inr (show (6 : Nat) < 20 ∧ am_is h (some 15) 6 from ⟨by decide, (la_is Lh (o := 15) rfl)⟩))⟩ Iff.rfl)))

theorem b_X11_place_40 {d : Nat} {Q : Option am_V → am_H → Prop} (h : am_H) (s0 : Int32) (l0 l1 l2 : Option am_V) : ex_ d 171 40 [l0, l1, l2] [v_i s0] h Q ↔ Q (some (v_i s0)) h := by
  unfold ex_
  exact ((am_Y_ret rfl rfl rfl).trans (am_r0))

theorem b_X11_above_0 {d : Nat} {Q : Option am_V → am_H → Prop} (h : am_H) (x1 : Int32) (Lh : Lay h) : ex_ (d + 1) 172 0 [some (v_r (some 0)), some (v_i x1)] [] h Q ↔ ex_ d 3 0 [some (v_r (some 11)), some (v_i x1)] [] h (fun r h' => ex_ (d + 1) 172 11 [some (v_r (some 0)), some (v_i x1)] (r.toList ++ []) h' Q) := by
  have e0 : h_r h 0 5 = some 10 := la_r Lh (q := (0, 5, 10)) (by decide)
  have e1 : h_r h 10 0 = some 11 := la_r Lh (q := (10, 0, 11)) (by decide)
  unfold ex_
  refine (am_Y_go 4 (ok := [am_is h (some 0) 11, am_is h ((h_r h 0 5)) 2]) (g := (8, [some (v_r (some 0)), some (v_i x1)], [v_i x1, v_r ((h_r h ((h_r h 0 5).getD 0) 0))], h)) rfl).trans ?_
  simp only [e0, e1, Option.getD_some, am_all]
  all_goals exact cj_d (la_is Lh (o := 0) rfl) (cj_d (la_is Lh (o := 10) rfl) (((am_Y_call (j := 3) (na := 2) (ci := 1) (fl := 0) rfl rfl rfl).trans (cj_d ⟨⟨Nat.le_of_ble_eq_true rfl, Nat.le_of_ble_eq_true rfl, Nat.le_of_ble_eq_true rfl, rfl⟩, Or.inr (Or.inr (show (1 : Nat) < 20 ∧ am_is h (some 11) 1 from ⟨by decide, (la_is Lh (o := 11) rfl)⟩))⟩ Iff.rfl))))

theorem b_X11_above_11 {d : Nat} {Q : Option am_V → am_H → Prop} (h : am_H) (s0 : Int32) (l0 l1 : Option am_V) : ex_ d 172 11 [l0, l1] [v_i s0] h Q ↔ if s0 = 0 then ex_ d 172 28 [l0, l1] [] h Q else ex_ d 172 14 [l0, l1] [] h Q := by
  unfold ex_
  refine (am_Y_go 1 (ok := []) (g := (if s0 = 0 then 28 else 14, [l0, l1], [], h)) rfl).trans ?_
  all_goals exact am_Y_if

theorem b_X11_above_28 {d : Nat} {Q : Option am_V → am_H → Prop} (h : am_H) (l0 l1 : Option am_V) : ex_ d 172 28 [l0, l1] [] h Q ↔ Q (some (v_i (-2 : Int32))) h := by
  unfold ex_
  refine (am_Y_go 1 (ok := []) (g := (30, [l0, l1], [v_i (-2 : Int32)], h)) rfl).trans ?_
  all_goals exact ((am_Y_ret rfl rfl rfl).trans (am_r0))

theorem b_X11_above_14 {d : Nat} {Q : Option am_V → am_H → Prop} (h : am_H) (x1 : Int32) (Lh : Lay h) : ex_ (d + 1) 172 14 [some (v_r (some 0)), some (v_i x1)] [] h Q ↔ ex_ d 6 0 [some (v_r (some 11)), some (v_i x1), none, none, none] [] h (fun r h' => ex_ (d + 1) 172 25 [some (v_r (some 0)), some (v_i x1)] (r.toList ++ []) h' Q) := by
  have e0 : h_r h 0 5 = some 10 := la_r Lh (q := (0, 5, 10)) (by decide)
  have e1 : h_r h 10 0 = some 11 := la_r Lh (q := (10, 0, 11)) (by decide)
  unfold ex_
  refine (am_Y_go 4 (ok := [am_is h (some 0) 11, am_is h ((h_r h 0 5)) 2]) (g := (22, [some (v_r (some 0)), some (v_i x1)], [v_i x1, v_r ((h_r h ((h_r h 0 5).getD 0) 0))], h)) rfl).trans ?_
  simp only [e0, e1, Option.getD_some, am_all]
  all_goals exact cj_d (la_is Lh (o := 0) rfl) (cj_d (la_is Lh (o := 10) rfl) (((am_Y_call (j := 6) (na := 2) (ci := 1) (fl := 0) rfl rfl rfl).trans (cj_d ⟨⟨Nat.le_of_ble_eq_true rfl, Nat.le_of_ble_eq_true rfl, Nat.le_of_ble_eq_true rfl, rfl⟩, Or.inr (Or.inr (show (1 : Nat) < 20 ∧ am_is h (some 11) 1 from ⟨by decide, (la_is Lh (o := 11) rfl)⟩))⟩ Iff.rfl))))

theorem b_X11_above_25 {d : Nat} {Q : Option am_V → am_H → Prop} (h : am_H) (s0 : Int32) (l0 l1 : Option am_V) : ex_ d 172 25 [l0, l1] [v_i s0] h Q ↔ Q (some (v_i s0)) h := by
  unfold ex_
  refine (am_Y_go 1 (ok := []) (g := (30, [l0, l1], [v_i s0], h)) rfl).trans ?_
  all_goals exact ((am_Y_ret rfl rfl rfl).trans (am_r0))

theorem b_X11_below_0 {d : Nat} {Q : Option am_V → am_H → Prop} (h : am_H) (x1 : Int32) (l2 l3 : Option am_V) (Lh : Lay h) : ex_ (d + 1) 173 0 [some (v_r (some 0)), some (v_i x1), l2, l3] [] h Q ↔ ex_ d 3 0 [some (v_r (some 11)), some (v_i x1)] [] h (fun r h' => ex_ (d + 1) 173 11 [some (v_r (some 0)), some (v_i x1), l2, l3] (r.toList ++ []) h' Q) := by
  have e0 : h_r h 0 5 = some 10 := la_r Lh (q := (0, 5, 10)) (by decide)
  have e1 : h_r h 10 0 = some 11 := la_r Lh (q := (10, 0, 11)) (by decide)
  unfold ex_
  refine (am_Y_go 4 (ok := [am_is h (some 0) 11, am_is h ((h_r h 0 5)) 2]) (g := (8, [some (v_r (some 0)), some (v_i x1), l2, l3], [v_i x1, v_r ((h_r h ((h_r h 0 5).getD 0) 0))], h)) rfl).trans ?_
  simp only [e0, e1, Option.getD_some, am_all]
  all_goals exact cj_d (la_is Lh (o := 0) rfl) (cj_d (la_is Lh (o := 10) rfl) (((am_Y_call (j := 3) (na := 2) (ci := 1) (fl := 0) rfl rfl rfl).trans (cj_d ⟨⟨Nat.le_of_ble_eq_true rfl, Nat.le_of_ble_eq_true rfl, Nat.le_of_ble_eq_true rfl, rfl⟩, Or.inr (Or.inr (show (1 : Nat) < 20 ∧ am_is h (some 11) 1 from ⟨by decide, (la_is Lh (o := 11) rfl)⟩))⟩ Iff.rfl))))

theorem b_X11_below_11 {d : Nat} {Q : Option am_V → am_H → Prop} (h : am_H) (s0 : Int32) (l0 l1 l2 l3 : Option am_V) : ex_ d 173 11 [l0, l1, l2, l3] [v_i s0] h Q ↔ if ¬ s0 = 0 then ex_ d 173 17 [l0, l1, l2, l3] [] h Q else ex_ d 173 14 [l0, l1, l2, l3] [] h Q := by
  unfold ex_
  refine (am_Y_go 1 (ok := []) (g := (if ¬ s0 = 0 then 17 else 14, [l0, l1, l2, l3], [], h)) rfl).trans ?_
  all_goals exact am_Y_if

theorem b_X11_below_17 {d : Nat} {Q : Option am_V → am_H → Prop} (h : am_H) (x1 : Int32) (l0 l2 l3 : Option am_V) : ex_ d 173 17 [l0, some (v_i x1), l2, l3] [] h Q ↔ ex_ d 173 21 [l0, some (v_i x1), some (v_i (0 : Int32)), some (v_i x1)] [] h Q := by
  unfold ex_
  refine (am_Y_go 4 (ok := []) (g := (21, [l0, some (v_i x1), some (v_i (0 : Int32)), some (v_i x1)], [], h)) rfl).trans ?_
  all_goals exact Iff.rfl

theorem b_X11_below_14 {d : Nat} {Q : Option am_V → am_H → Prop} (h : am_H) (l0 l1 l2 l3 : Option am_V) : ex_ d 173 14 [l0, l1, l2, l3] [] h Q ↔ Q (some (v_i (-2 : Int32))) h := by
  unfold ex_
  refine (am_Y_go 1 (ok := []) (g := (16, [l0, l1, l2, l3], [v_i (-2 : Int32)], h)) rfl).trans ?_
  all_goals exact ((am_Y_ret rfl rfl rfl).trans (am_r0))

theorem b_X11_below_21 {d : Nat} {Q : Option am_V → am_H → Prop} (h : am_H) (x3 : Int32) (l1 l2 : Option am_V) (Lh : Lay h) : ex_ d 173 21 [some (v_r (some 0)), l1, l2, some (v_i x3)] [] h Q ↔ if (h_i h 11 0) ≤ x3 then ex_ d 173 65 [some (v_r (some 0)), l1, l2, some (v_i x3)] [] h Q else ex_ d 173 35 [some (v_r (some 0)), l1, l2, some (v_i x3)] [] h Q := by
  have e0 : h_r h 0 5 = some 10 := la_r Lh (q := (0, 5, 10)) (by decide)
  have e1 : h_r h 10 0 = some 11 := la_r Lh (q := (10, 0, 11)) (by decide)
  unfold ex_
  refine (am_Y_go 6 (ok := [am_is h (some 0) 11, am_is h ((h_r h 0 5)) 2, am_is h ((h_r h ((h_r h 0 5).getD 0) 0)) 1]) (g := (if (h_i h ((h_r h ((h_r h 0 5).getD 0) 0).getD 0) 0) ≤ x3 then 65 else 35, [some (v_r (some 0)), l1, l2, some (v_i x3)], [], h)) rfl).trans ?_
  simp only [e0, e1, Option.getD_some, am_all]
  all_goals exact cj_d (la_is Lh (o := 0) rfl) (cj_d (la_is Lh (o := 10) rfl) (cj_d (la_is Lh (o := 11) rfl) (am_Y_if)))

theorem b_X11_below_65 {d : Nat} {Q : Option am_V → am_H → Prop} (h : am_H) (x2 : Int32) (l0 l1 l3 : Option am_V) : ex_ d 173 65 [l0, l1, some (v_i x2), l3] [] h Q ↔ Q (some (v_i x2)) h := by
  unfold ex_
  refine (am_Y_go 1 (ok := []) (g := (66, [l0, l1, some (v_i x2), l3], [v_i x2], h)) rfl).trans ?_
  all_goals exact ((am_Y_ret rfl rfl rfl).trans (am_r0))

theorem b_X11_below_35 {d : Nat} {Q : Option am_V → am_H → Prop} (h : am_H) (x3 : Int32) (l1 l2 : Option am_V) (Lh : Lay h) : ex_ (d + 1) 173 35 [some (v_r (some 0)), l1, l2, some (v_i x3)] [] h Q ↔ ex_ d 6 0 [some (v_r (some 11)), some (v_i x3), none, none, none] [] h (fun r h' => ex_ (d + 1) 173 46 [some (v_r (some 0)), l1, l2, some (v_i x3)] (r.toList ++ []) h' Q) := by
  have e0 : h_r h 0 5 = some 10 := la_r Lh (q := (0, 5, 10)) (by decide)
  have e1 : h_r h 10 0 = some 11 := la_r Lh (q := (10, 0, 11)) (by decide)
  unfold ex_
  refine (am_Y_go 4 (ok := [am_is h (some 0) 11, am_is h ((h_r h 0 5)) 2]) (g := (43, [some (v_r (some 0)), l1, l2, some (v_i x3)], [v_i x3, v_r ((h_r h ((h_r h 0 5).getD 0) 0))], h)) rfl).trans ?_
  simp only [e0, e1, Option.getD_some, am_all]
  all_goals exact cj_d (la_is Lh (o := 0) rfl) (cj_d (la_is Lh (o := 10) rfl) (((am_Y_call (j := 6) (na := 2) (ci := 1) (fl := 0) rfl rfl rfl).trans (cj_d ⟨⟨Nat.le_of_ble_eq_true rfl, Nat.le_of_ble_eq_true rfl, Nat.le_of_ble_eq_true rfl, rfl⟩, Or.inr (Or.inr (show (1 : Nat) < 20 ∧ am_is h (some 11) 1 from ⟨by decide, (la_is Lh (o := 11) rfl)⟩))⟩ Iff.rfl))))

theorem b_X11_below_46 {d : Nat} {Q : Option am_V → am_H → Prop} (h : am_H) (s0 : Int32) (x1 : Int32) (l0 l2 l3 : Option am_V) : ex_ d 173 46 [l0, some (v_i x1), l2, l3] [v_i s0] h Q ↔ if ((s0 >>> (x1 &&& 31)) &&& (1 : Int32)) = 0 then ex_ d 173 59 [l0, some (v_i x1), l2, l3] [] h Q else ex_ d 173 53 [l0, some (v_i x1), l2, l3] [] h Q := by
  unfold ex_
  refine (am_Y_go 5 (ok := []) (g := (if ((s0 >>> (x1 &&& 31)) &&& (1 : Int32)) = 0 then 59 else 53, [l0, some (v_i x1), l2, l3], [], h)) rfl).trans ?_
  all_goals exact am_Y_if

theorem b_X11_below_59 {d : Nat} {Q : Option am_V → am_H → Prop} (h : am_H) (x3 : Int32) (l0 l1 l2 : Option am_V) : ex_ d 173 59 [l0, l1, l2, some (v_i x3)] [] h Q ↔ ex_ d 173 21 [l0, l1, l2, some (v_i (x3 + (1 : Int32)))] [] h Q := by
  unfold ex_
  refine (am_Y_go 2 (ok := []) (g := (21, [l0, l1, l2, some (v_i (x3 + (1 : Int32)))], [], h)) rfl).trans ?_
  all_goals exact Iff.rfl

theorem b_X11_below_53 {d : Nat} {Q : Option am_V → am_H → Prop} (h : am_H) (x2 : Int32) (x3 : Int32) (l0 l1 : Option am_V) : ex_ d 173 53 [l0, l1, some (v_i x2), some (v_i x3)] [] h Q ↔ ex_ d 173 21 [l0, l1, some (v_i (x2 ||| ((1 : Int32) <<< (x3 &&& 31)))), some (v_i (x3 + (1 : Int32)))] [] h Q := by
  unfold ex_
  refine (am_Y_go 8 (ok := []) (g := (21, [l0, l1, some (v_i (x2 ||| ((1 : Int32) <<< (x3 &&& 31)))), some (v_i (x3 + (1 : Int32)))], [], h)) rfl).trans ?_
  all_goals exact Iff.rfl

theorem b_X11_keepTrial_0 {d : Nat} {Q : Option am_V → am_H → Prop} (h : am_H) (Lh : Lay h) : ex_ (d + 1) 174 0 [some (v_r (some 0))] [] h Q ↔ ex_ d 77 0 [some (v_r (some 25)), some (v_r (some 11)), none] [] h (fun r h' => ex_ (d + 1) 174 14 [some (v_r (some 0))] (r.toList ++ []) h' Q) := by
  have e0 : h_r h 0 7 = some 25 := la_r Lh (q := (0, 7, 25)) (by decide)
  have e1 : h_r h 0 5 = some 10 := la_r Lh (q := (0, 5, 10)) (by decide)
  have e2 : h_r h 10 0 = some 11 := la_r Lh (q := (10, 0, 11)) (by decide)
  unfold ex_
  refine (am_Y_go 5 (ok := [am_is h (some 0) 11, am_is h (some 0) 11, am_is h ((h_r h 0 5)) 2]) (g := (11, [some (v_r (some 0))], [v_r ((h_r h ((h_r h 0 5).getD 0) 0)), v_r ((h_r h 0 7))], h)) rfl).trans ?_
  simp only [e0, e1, e2, Option.getD_some, am_all]
  all_goals exact cj_d (la_is Lh (o := 0) rfl) (cj_d (la_is Lh (o := 0) rfl) (cj_d (la_is Lh (o := 10) rfl) (((am_Y_call (j := 77) (na := 2) (ci := 7) (fl := 0) rfl rfl rfl).trans (cj_d ⟨⟨Nat.le_of_ble_eq_true rfl, Nat.le_of_ble_eq_true rfl, Nat.le_of_ble_eq_true rfl, rfl⟩, Or.inr (Or.inr (show (7 : Nat) < 20 ∧ am_is h (some 25) 7 from ⟨by decide, (la_is Lh (o := 25) rfl)⟩))⟩ Iff.rfl)))))

theorem b_X11_keepTrial_14 {d : Nat} {Q : Option am_V → am_H → Prop} (h : am_H) (Lh : Lay h) : ex_ (d + 1) 174 14 [some (v_r (some 0))] [] h Q ↔ ex_ d 28 0 [some (v_r (some 11)), some (v_r (some 27))] [] h (fun r h' => ex_ (d + 1) 174 28 [some (v_r (some 0))] (r.toList ++ []) h' Q) := by
  have e0 : h_r h 0 5 = some 10 := la_r Lh (q := (0, 5, 10)) (by decide)
  have e1 : h_r h 10 0 = some 11 := la_r Lh (q := (10, 0, 11)) (by decide)
  have e2 : h_r h 0 8 = some 27 := la_r Lh (q := (0, 8, 27)) (by decide)
  unfold ex_
  refine (am_Y_go 5 (ok := [am_is h (some 0) 11, am_is h ((h_r h 0 5)) 2, am_is h (some 0) 11]) (g := (25, [some (v_r (some 0))], [v_r ((h_r h 0 8)), v_r ((h_r h ((h_r h 0 5).getD 0) 0))], h)) rfl).trans ?_
  simp only [e0, e1, e2, Option.getD_some, am_all]
  all_goals exact cj_d (la_is Lh (o := 0) rfl) (cj_d (la_is Lh (o := 10) rfl) (cj_d (la_is Lh (o := 0) rfl) (((am_Y_call (j := 28) (na := 2) (ci := 1) (fl := 0) rfl rfl rfl).trans (cj_d ⟨⟨Nat.le_of_ble_eq_true rfl, Nat.le_of_ble_eq_true rfl, Nat.le_of_ble_eq_true rfl, rfl⟩, Or.inr (Or.inr (show (1 : Nat) < 20 ∧ am_is h (some 11) 1 from ⟨by decide, (la_is Lh (o := 11) rfl)⟩))⟩ Iff.rfl)))))

theorem b_X11_keepTrial_28 {d : Nat} {Q : Option am_V → am_H → Prop} (h : am_H) (Lh : Lay h) : ex_ (d + 1) 174 28 [some (v_r (some 0))] [] h Q ↔ ex_ d 164 0 [some (v_r (some 0))] [] h (fun r h' => ex_ (d + 1) 174 32 [some (v_r (some 0))] (r.toList ++ []) h' Q) := by
  unfold ex_
  refine (am_Y_go 1 (ok := []) (g := (29, [some (v_r (some 0))], [v_r (some 0)], h)) rfl).trans ?_
  all_goals exact ((am_Y_call (j := 164) (na := 1) (ci := 11) (fl := 0) rfl rfl rfl).trans (cj_d ⟨⟨Nat.le_of_ble_eq_true rfl, Nat.le_of_ble_eq_true rfl, Nat.le_of_ble_eq_true rfl, rfl⟩, Or.inr (Or.inr (show (11 : Nat) < 20 ∧ am_is h (some 0) 11 from ⟨by decide, (la_is Lh (o := 0) rfl)⟩))⟩ Iff.rfl))

theorem b_X11_keepTrial_32 {d : Nat} {Q : Option am_V → am_H → Prop} (h : am_H) (l0 : Option am_V) : ex_ d 174 32 [l0] [] h Q ↔ Q (none) h := by
  unfold ex_
  exact ((am_Y_ret rfl rfl rfl).trans (am_rz rfl))

theorem b_X11_keptState_0 {d : Nat} {Q : Option am_V → am_H → Prop} (h : am_H) (x1 : Int32) (l0 l2 : Option am_V) : ex_ d 175 0 [l0, some (v_i x1), l2] [] h Q ↔ if x1 = 0 then ex_ d 175 9 [l0, some (v_i x1), l2] [] h Q else ex_ d 175 4 [l0, some (v_i x1), l2] [] h Q := by
  unfold ex_
  refine (am_Y_go 2 (ok := []) (g := (if x1 = 0 then 9 else 4, [l0, some (v_i x1), l2], [], h)) rfl).trans ?_
  all_goals exact am_Y_if

theorem b_X11_keptState_9 {d : Nat} {Q : Option am_V → am_H → Prop} (h : am_H) (l1 l2 : Option am_V) (Lh : Lay h) : ex_ (d + 1) 175 9 [some (v_r (some 0)), l1, l2] [] h Q ↔ ex_ d 174 0 [some (v_r (some 0))] [] h (fun r h' => ex_ (d + 1) 175 13 [some (v_r (some 0)), l1, l2] (r.toList ++ []) h' Q) := by
  unfold ex_
  refine (am_Y_go 1 (ok := []) (g := (10, [some (v_r (some 0)), l1, l2], [v_r (some 0)], h)) rfl).trans ?_
  all_goals exact ((am_Y_call (j := 174) (na := 1) (ci := 11) (fl := 0) rfl rfl rfl).trans (cj_d ⟨⟨Nat.le_of_ble_eq_true rfl, Nat.le_of_ble_eq_true rfl, Nat.le_of_ble_eq_true rfl, rfl⟩, Or.inr (Or.inr (show (11 : Nat) < 20 ∧ am_is h (some 0) 11 from ⟨by decide, (la_is Lh (o := 0) rfl)⟩))⟩ Iff.rfl))

theorem b_X11_keptState_4 {d : Nat} {Q : Option am_V → am_H → Prop} (h : am_H) (x1 : Int32) (l0 l2 : Option am_V) : ex_ d 175 4 [l0, some (v_i x1), l2] [] h Q ↔ Q (some (v_i ((-10 : Int32) - x1))) h := by
  unfold ex_
  refine (am_Y_go 3 (ok := []) (g := (8, [l0, some (v_i x1), l2], [v_i ((-10 : Int32) - x1)], h)) rfl).trans ?_
  all_goals exact ((am_Y_ret rfl rfl rfl).trans (am_r0))

theorem b_X11_keptState_13 {d : Nat} {Q : Option am_V → am_H → Prop} (h : am_H) (x2 : Int32) (l1 : Option am_V) (Lh : Lay h) : ex_ (d + 1) 175 13 [some (v_r (some 0)), l1, some (v_i x2)] [] h Q ↔ ex_ d 71 0 [some (v_r (some 15)), some (v_i x2)] [] h (fun r h' => ex_ (d + 1) 175 21 [some (v_r (some 0)), l1, some (v_i x2)] (r.toList ++ []) h' Q) := by
  have e0 : h_r h 0 6 = some 15 := la_r Lh (q := (0, 6, 15)) (by decide)
  unfold ex_
  refine (am_Y_go 3 (ok := [am_is h (some 0) 11]) (g := (18, [some (v_r (some 0)), l1, some (v_i x2)], [v_i x2, v_r ((h_r h 0 6))], h)) rfl).trans ?_
  simp only [e0, Option.getD_some, am_all]
  all_goals exact cj_d (la_is Lh (o := 0) rfl) (((am_Y_call (j := 71) (na := 2) (ci := 6) (fl := 0) rfl rfl rfl).trans (cj_d ⟨⟨Nat.le_of_ble_eq_true rfl, Nat.le_of_ble_eq_true rfl, Nat.le_of_ble_eq_true rfl, rfl⟩, Or.inr (Or.inr (show (6 : Nat) < 20 ∧ am_is h (some 15) 6 from ⟨by decide, (la_is Lh (o := 15) rfl)⟩))⟩ Iff.rfl)))

theorem b_X11_keptState_21 {d : Nat} {Q : Option am_V → am_H → Prop} (h : am_H) (s0 : Int32) (l0 l1 l2 : Option am_V) : ex_ d 175 21 [l0, l1, l2] [v_i s0] h Q ↔ Q (some (v_i s0)) h := by
  unfold ex_
  exact ((am_Y_ret rfl rfl rfl).trans (am_r0))

theorem b_X11_give_0 {d : Nat} {Q : Option am_V → am_H → Prop} (h : am_H) (l1 l2 : Option am_V) (Lh : Lay h) : ex_ (d + 1) 176 0 [some (v_r (some 0)), l1, l2] [] h Q ↔ ex_ d 28 0 [some (v_r (some 27)), some (v_r (some 11))] [] h (fun r h' => ex_ (d + 1) 176 14 [some (v_r (some 0)), l1, l2] (r.toList ++ []) h' Q) := by
  have e0 : h_r h 0 8 = some 27 := la_r Lh (q := (0, 8, 27)) (by decide)
  have e1 : h_r h 0 5 = some 10 := la_r Lh (q := (0, 5, 10)) (by decide)
  have e2 : h_r h 10 0 = some 11 := la_r Lh (q := (10, 0, 11)) (by decide)
  unfold ex_
  refine (am_Y_go 5 (ok := [am_is h (some 0) 11, am_is h (some 0) 11, am_is h ((h_r h 0 5)) 2]) (g := (11, [some (v_r (some 0)), l1, l2], [v_r ((h_r h ((h_r h 0 5).getD 0) 0)), v_r ((h_r h 0 8))], h)) rfl).trans ?_
  simp only [e0, e1, e2, Option.getD_some, am_all]
  all_goals exact cj_d (la_is Lh (o := 0) rfl) (cj_d (la_is Lh (o := 0) rfl) (cj_d (la_is Lh (o := 10) rfl) (((am_Y_call (j := 28) (na := 2) (ci := 1) (fl := 0) rfl rfl rfl).trans (cj_d ⟨⟨Nat.le_of_ble_eq_true rfl, Nat.le_of_ble_eq_true rfl, Nat.le_of_ble_eq_true rfl, rfl⟩, Or.inr (Or.inr (show (1 : Nat) < 20 ∧ am_is h (some 27) 1 from ⟨by decide, (la_is Lh (o := 27) rfl)⟩))⟩ Iff.rfl)))))

theorem b_X11_give_14 {d : Nat} {Q : Option am_V → am_H → Prop} (h : am_H) (x1 : Int32) (x2 : Int32) (Lh : Lay h) : ex_ (d + 1) 176 14 [some (v_r (some 0)), some (v_i x1), some (v_i x2)] [] h Q ↔ ex_ d 36 0 [some (v_r (some 27)), some (v_i x1), some (v_i x2)] [] h (fun r h' => ex_ (d + 1) 176 24 [some (v_r (some 0)), some (v_i x1), some (v_i x2)] (r.toList ++ [v_r (some 0)]) h' Q) := by
  have e0 : h_r h 0 8 = some 27 := la_r Lh (q := (0, 8, 27)) (by decide)
  unfold ex_
  refine (am_Y_go 5 (ok := [am_is h (some 0) 11]) (g := (21, [some (v_r (some 0)), some (v_i x1), some (v_i x2)], [v_i x2, v_i x1, v_r ((h_r h 0 8)), v_r (some 0)], h)) rfl).trans ?_
  simp only [e0, Option.getD_some, am_all]
  all_goals exact cj_d (la_is Lh (o := 0) rfl) (((am_Y_call (j := 36) (na := 3) (ci := 1) (fl := 0) rfl rfl rfl).trans (cj_d ⟨⟨Nat.le_of_ble_eq_true rfl, Nat.le_of_ble_eq_true rfl, Nat.le_of_ble_eq_true rfl, rfl⟩, Or.inr (Or.inr (show (1 : Nat) < 20 ∧ am_is h (some 27) 1 from ⟨by decide, (la_is Lh (o := 27) rfl)⟩))⟩ Iff.rfl)))

theorem b_X11_give_24 {d : Nat} {Q : Option am_V → am_H → Prop} (h : am_H) (s0 : Int32) (x1 : Int32) (l0 l2 : Option am_V) (Lh : Lay h) : ex_ (d + 1) 176 24 [l0, some (v_i x1), l2] [v_i s0, v_r (some 0)] h Q ↔ ex_ d 175 0 [some (v_r (some 0)), some (v_i s0), some (v_i x1)] [] h (fun r h' => ex_ (d + 1) 176 28 [l0, some (v_i x1), l2] (r.toList ++ []) h' Q) := by
  unfold ex_
  refine (am_Y_go 1 (ok := []) (g := (25, [l0, some (v_i x1), l2], [v_i x1, v_i s0, v_r (some 0)], h)) rfl).trans ?_
  all_goals exact ((am_Y_call (j := 175) (na := 3) (ci := 11) (fl := 0) rfl rfl rfl).trans (cj_d ⟨⟨Nat.le_of_ble_eq_true rfl, Nat.le_of_ble_eq_true rfl, Nat.le_of_ble_eq_true rfl, rfl⟩, Or.inr (Or.inr (show (11 : Nat) < 20 ∧ am_is h (some 0) 11 from ⟨by decide, (la_is Lh (o := 0) rfl)⟩))⟩ Iff.rfl))

theorem b_X11_give_28 {d : Nat} {Q : Option am_V → am_H → Prop} (h : am_H) (s0 : Int32) (l0 l1 l2 : Option am_V) : ex_ d 176 28 [l0, l1, l2] [v_i s0] h Q ↔ Q (some (v_i s0)) h := by
  unfold ex_
  exact ((am_Y_ret rfl rfl rfl).trans (am_r0))

theorem b_X11_take_0 {d : Nat} {Q : Option am_V → am_H → Prop} (h : am_H) (l1 l2 : Option am_V) (Lh : Lay h) : ex_ (d + 1) 177 0 [some (v_r (some 0)), l1, l2] [] h Q ↔ ex_ d 28 0 [some (v_r (some 27)), some (v_r (some 11))] [] h (fun r h' => ex_ (d + 1) 177 14 [some (v_r (some 0)), l1, l2] (r.toList ++ []) h' Q) := by
  have e0 : h_r h 0 8 = some 27 := la_r Lh (q := (0, 8, 27)) (by decide)
  have e1 : h_r h 0 5 = some 10 := la_r Lh (q := (0, 5, 10)) (by decide)
  have e2 : h_r h 10 0 = some 11 := la_r Lh (q := (10, 0, 11)) (by decide)
  unfold ex_
  refine (am_Y_go 5 (ok := [am_is h (some 0) 11, am_is h (some 0) 11, am_is h ((h_r h 0 5)) 2]) (g := (11, [some (v_r (some 0)), l1, l2], [v_r ((h_r h ((h_r h 0 5).getD 0) 0)), v_r ((h_r h 0 8))], h)) rfl).trans ?_
  simp only [e0, e1, e2, Option.getD_some, am_all]
  all_goals exact cj_d (la_is Lh (o := 0) rfl) (cj_d (la_is Lh (o := 0) rfl) (cj_d (la_is Lh (o := 10) rfl) (((am_Y_call (j := 28) (na := 2) (ci := 1) (fl := 0) rfl rfl rfl).trans (cj_d ⟨⟨Nat.le_of_ble_eq_true rfl, Nat.le_of_ble_eq_true rfl, Nat.le_of_ble_eq_true rfl, rfl⟩, Or.inr (Or.inr (show (1 : Nat) < 20 ∧ am_is h (some 27) 1 from ⟨by decide, (la_is Lh (o := 27) rfl)⟩))⟩ Iff.rfl)))))

theorem b_X11_take_14 {d : Nat} {Q : Option am_V → am_H → Prop} (h : am_H) (x1 : Int32) (x2 : Int32) (Lh : Lay h) : ex_ (d + 1) 177 14 [some (v_r (some 0)), some (v_i x1), some (v_i x2)] [] h Q ↔ ex_ d 37 0 [some (v_r (some 27)), some (v_i x1), some (v_i x2), none, none, none] [] h (fun r h' => ex_ (d + 1) 177 24 [some (v_r (some 0)), some (v_i x1), some (v_i x2)] (r.toList ++ [v_r (some 0)]) h' Q) := by
  have e0 : h_r h 0 8 = some 27 := la_r Lh (q := (0, 8, 27)) (by decide)
  unfold ex_
  refine (am_Y_go 5 (ok := [am_is h (some 0) 11]) (g := (21, [some (v_r (some 0)), some (v_i x1), some (v_i x2)], [v_i x2, v_i x1, v_r ((h_r h 0 8)), v_r (some 0)], h)) rfl).trans ?_
  simp only [e0, Option.getD_some, am_all]
  all_goals exact cj_d (la_is Lh (o := 0) rfl) (((am_Y_call (j := 37) (na := 3) (ci := 1) (fl := 0) rfl rfl rfl).trans (cj_d ⟨⟨Nat.le_of_ble_eq_true rfl, Nat.le_of_ble_eq_true rfl, Nat.le_of_ble_eq_true rfl, rfl⟩, Or.inr (Or.inr (show (1 : Nat) < 20 ∧ am_is h (some 27) 1 from ⟨by decide, (la_is Lh (o := 27) rfl)⟩))⟩ Iff.rfl)))

theorem b_X11_take_24 {d : Nat} {Q : Option am_V → am_H → Prop} (h : am_H) (s0 : Int32) (x1 : Int32) (l0 l2 : Option am_V) (Lh : Lay h) : ex_ (d + 1) 177 24 [l0, some (v_i x1), l2] [v_i s0, v_r (some 0)] h Q ↔ ex_ d 175 0 [some (v_r (some 0)), some (v_i s0), some (v_i x1)] [] h (fun r h' => ex_ (d + 1) 177 28 [l0, some (v_i x1), l2] (r.toList ++ []) h' Q) := by
  unfold ex_
  refine (am_Y_go 1 (ok := []) (g := (25, [l0, some (v_i x1), l2], [v_i x1, v_i s0, v_r (some 0)], h)) rfl).trans ?_
  all_goals exact ((am_Y_call (j := 175) (na := 3) (ci := 11) (fl := 0) rfl rfl rfl).trans (cj_d ⟨⟨Nat.le_of_ble_eq_true rfl, Nat.le_of_ble_eq_true rfl, Nat.le_of_ble_eq_true rfl, rfl⟩, Or.inr (Or.inr (show (11 : Nat) < 20 ∧ am_is h (some 0) 11 from ⟨by decide, (la_is Lh (o := 0) rfl)⟩))⟩ Iff.rfl))

theorem b_X11_take_28 {d : Nat} {Q : Option am_V → am_H → Prop} (h : am_H) (s0 : Int32) (l0 l1 l2 : Option am_V) : ex_ d 177 28 [l0, l1, l2] [v_i s0] h Q ↔ Q (some (v_i s0)) h := by
  unfold ex_
  exact ((am_Y_ret rfl rfl rfl).trans (am_r0))

theorem b_X11_swap_0 {d : Nat} {Q : Option am_V → am_H → Prop} (h : am_H) (l1 l2 : Option am_V) (Lh : Lay h) : ex_ (d + 1) 178 0 [some (v_r (some 0)), l1, l2] [] h Q ↔ ex_ d 28 0 [some (v_r (some 27)), some (v_r (some 11))] [] h (fun r h' => ex_ (d + 1) 178 14 [some (v_r (some 0)), l1, l2] (r.toList ++ []) h' Q) := by
  have e0 : h_r h 0 8 = some 27 := la_r Lh (q := (0, 8, 27)) (by decide)
  have e1 : h_r h 0 5 = some 10 := la_r Lh (q := (0, 5, 10)) (by decide)
  have e2 : h_r h 10 0 = some 11 := la_r Lh (q := (10, 0, 11)) (by decide)
  unfold ex_
  refine (am_Y_go 5 (ok := [am_is h (some 0) 11, am_is h (some 0) 11, am_is h ((h_r h 0 5)) 2]) (g := (11, [some (v_r (some 0)), l1, l2], [v_r ((h_r h ((h_r h 0 5).getD 0) 0)), v_r ((h_r h 0 8))], h)) rfl).trans ?_
  simp only [e0, e1, e2, Option.getD_some, am_all]
  all_goals exact cj_d (la_is Lh (o := 0) rfl) (cj_d (la_is Lh (o := 0) rfl) (cj_d (la_is Lh (o := 10) rfl) (((am_Y_call (j := 28) (na := 2) (ci := 1) (fl := 0) rfl rfl rfl).trans (cj_d ⟨⟨Nat.le_of_ble_eq_true rfl, Nat.le_of_ble_eq_true rfl, Nat.le_of_ble_eq_true rfl, rfl⟩, Or.inr (Or.inr (show (1 : Nat) < 20 ∧ am_is h (some 27) 1 from ⟨by decide, (la_is Lh (o := 27) rfl)⟩))⟩ Iff.rfl)))))

theorem b_X11_swap_14 {d : Nat} {Q : Option am_V → am_H → Prop} (h : am_H) (x1 : Int32) (x2 : Int32) (Lh : Lay h) : ex_ (d + 1) 178 14 [some (v_r (some 0)), some (v_i x1), some (v_i x2)] [] h Q ↔ ex_ d 38 0 [some (v_r (some 27)), some (v_i x1), some (v_i x2), none, none] [] h (fun r h' => ex_ (d + 1) 178 24 [some (v_r (some 0)), some (v_i x1), some (v_i x2)] (r.toList ++ [v_r (some 0)]) h' Q) := by
  have e0 : h_r h 0 8 = some 27 := la_r Lh (q := (0, 8, 27)) (by decide)
  unfold ex_
  refine (am_Y_go 5 (ok := [am_is h (some 0) 11]) (g := (21, [some (v_r (some 0)), some (v_i x1), some (v_i x2)], [v_i x2, v_i x1, v_r ((h_r h 0 8)), v_r (some 0)], h)) rfl).trans ?_
  simp only [e0, Option.getD_some, am_all]
  all_goals exact cj_d (la_is Lh (o := 0) rfl) (((am_Y_call (j := 38) (na := 3) (ci := 1) (fl := 0) rfl rfl rfl).trans (cj_d ⟨⟨Nat.le_of_ble_eq_true rfl, Nat.le_of_ble_eq_true rfl, Nat.le_of_ble_eq_true rfl, rfl⟩, Or.inr (Or.inr (show (1 : Nat) < 20 ∧ am_is h (some 27) 1 from ⟨by decide, (la_is Lh (o := 27) rfl)⟩))⟩ Iff.rfl)))

theorem b_X11_swap_24 {d : Nat} {Q : Option am_V → am_H → Prop} (h : am_H) (s0 : Int32) (x1 : Int32) (l0 l2 : Option am_V) (Lh : Lay h) : ex_ (d + 1) 178 24 [l0, some (v_i x1), l2] [v_i s0, v_r (some 0)] h Q ↔ ex_ d 175 0 [some (v_r (some 0)), some (v_i s0), some (v_i x1)] [] h (fun r h' => ex_ (d + 1) 178 28 [l0, some (v_i x1), l2] (r.toList ++ []) h' Q) := by
  unfold ex_
  refine (am_Y_go 1 (ok := []) (g := (25, [l0, some (v_i x1), l2], [v_i x1, v_i s0, v_r (some 0)], h)) rfl).trans ?_
  all_goals exact ((am_Y_call (j := 175) (na := 3) (ci := 11) (fl := 0) rfl rfl rfl).trans (cj_d ⟨⟨Nat.le_of_ble_eq_true rfl, Nat.le_of_ble_eq_true rfl, Nat.le_of_ble_eq_true rfl, rfl⟩, Or.inr (Or.inr (show (11 : Nat) < 20 ∧ am_is h (some 0) 11 from ⟨by decide, (la_is Lh (o := 0) rfl)⟩))⟩ Iff.rfl))

theorem b_X11_swap_28 {d : Nat} {Q : Option am_V → am_H → Prop} (h : am_H) (s0 : Int32) (l0 l1 l2 : Option am_V) : ex_ d 178 28 [l0, l1, l2] [v_i s0] h Q ↔ Q (some (v_i s0)) h := by
  unfold ex_
  exact ((am_Y_ret rfl rfl rfl).trans (am_r0))

theorem b_X11_define_0 {d : Nat} {Q : Option am_V → am_H → Prop} (h : am_H) (l1 l2 l3 l4 l5 : Option am_V) (Lh : Lay h) : ex_ (d + 1) 179 0 [some (v_r (some 0)), l1, l2, l3, l4, l5] [] h Q ↔ ex_ d 28 0 [some (v_r (some 27)), some (v_r (some 11))] [] h (fun r h' => ex_ (d + 1) 179 14 [some (v_r (some 0)), l1, l2, l3, l4, l5] (r.toList ++ []) h' Q) := by
  have e0 : h_r h 0 8 = some 27 := la_r Lh (q := (0, 8, 27)) (by decide)
  have e1 : h_r h 0 5 = some 10 := la_r Lh (q := (0, 5, 10)) (by decide)
  have e2 : h_r h 10 0 = some 11 := la_r Lh (q := (10, 0, 11)) (by decide)
  unfold ex_
  refine (am_Y_go 5 (ok := [am_is h (some 0) 11, am_is h (some 0) 11, am_is h ((h_r h 0 5)) 2]) (g := (11, [some (v_r (some 0)), l1, l2, l3, l4, l5], [v_r ((h_r h ((h_r h 0 5).getD 0) 0)), v_r ((h_r h 0 8))], h)) rfl).trans ?_
  simp only [e0, e1, e2, Option.getD_some, am_all]
  all_goals exact cj_d (la_is Lh (o := 0) rfl) (cj_d (la_is Lh (o := 0) rfl) (cj_d (la_is Lh (o := 10) rfl) (((am_Y_call (j := 28) (na := 2) (ci := 1) (fl := 0) rfl rfl rfl).trans (cj_d ⟨⟨Nat.le_of_ble_eq_true rfl, Nat.le_of_ble_eq_true rfl, Nat.le_of_ble_eq_true rfl, rfl⟩, Or.inr (Or.inr (show (1 : Nat) < 20 ∧ am_is h (some 27) 1 from ⟨by decide, (la_is Lh (o := 27) rfl)⟩))⟩ Iff.rfl)))))

theorem b_X11_define_14 {d : Nat} {Q : Option am_V → am_H → Prop} (h : am_H) (x1 : Int32) (x2 : Int32) (x3 : Int32) (l4 l5 : Option am_V) (Lh : Lay h) : ex_ (d + 1) 179 14 [some (v_r (some 0)), some (v_i x1), some (v_i x2), some (v_i x3), l4, l5] [] h Q ↔ ex_ d 39 0 [some (v_r (some 27)), some (v_i x1), some (v_i x2), some (v_i x3), none] [] h (fun r h' => ex_ (d + 1) 179 24 [some (v_r (some 0)), some (v_i x1), some (v_i x2), some (v_i x3), l4, l5] (r.toList ++ []) h' Q) := by
  have e0 : h_r h 0 8 = some 27 := la_r Lh (q := (0, 8, 27)) (by decide)
  unfold ex_
  refine (am_Y_go 5 (ok := [am_is h (some 0) 11]) (g := (21, [some (v_r (some 0)), some (v_i x1), some (v_i x2), some (v_i x3), l4, l5], [v_i x3, v_i x2, v_i x1, v_r ((h_r h 0 8))], h)) rfl).trans ?_
  simp only [e0, Option.getD_some, am_all]
  all_goals exact cj_d (la_is Lh (o := 0) rfl) (((am_Y_call (j := 39) (na := 4) (ci := 1) (fl := 0) rfl rfl rfl).trans (cj_d ⟨⟨Nat.le_of_ble_eq_true rfl, Nat.le_of_ble_eq_true rfl, Nat.le_of_ble_eq_true rfl, rfl⟩, Or.inr (Or.inr (show (1 : Nat) < 20 ∧ am_is h (some 27) 1 from ⟨by decide, (la_is Lh (o := 27) rfl)⟩))⟩ Iff.rfl)))

theorem b_X11_define_24 {d : Nat} {Q : Option am_V → am_H → Prop} (h : am_H) (s0 : Int32) (l0 l1 l2 l3 l4 l5 : Option am_V) : ex_ d 179 24 [l0, l1, l2, l3, l4, l5] [v_i s0] h Q ↔ if s0 = 0 then ex_ d 179 37 [l0, l1, l2, l3, some (v_i s0), l5] [] h Q else ex_ d 179 31 [l0, l1, l2, l3, some (v_i s0), l5] [] h Q := by
  unfold ex_
  refine (am_Y_go 3 (ok := []) (g := (if s0 = 0 then 37 else 31, [l0, l1, l2, l3, some (v_i s0), l5], [], h)) rfl).trans ?_
  all_goals exact am_Y_if

theorem b_X11_define_37 {d : Nat} {Q : Option am_V → am_H → Prop} (h : am_H) (x1 : Int32) (x2 : Int32) (l3 l4 l5 : Option am_V) (Lh : Lay h) : ex_ (d + 1) 179 37 [some (v_r (some 0)), some (v_i x1), some (v_i x2), l3, l4, l5] [] h Q ↔ ex_ d 32 0 [some (v_r (some 11)), some (v_i x1), some (v_i x2)] [] h (fun r h' => ex_ (d + 1) 179 49 [some (v_r (some 0)), some (v_i x1), some (v_i x2), l3, l4, l5] (r.toList ++ []) h' Q) := by
  have e0 : h_r h 0 5 = some 10 := la_r Lh (q := (0, 5, 10)) (by decide)
  have e1 : h_r h 10 0 = some 11 := la_r Lh (q := (10, 0, 11)) (by decide)
  unfold ex_
  refine (am_Y_go 5 (ok := [am_is h (some 0) 11, am_is h ((h_r h 0 5)) 2]) (g := (46, [some (v_r (some 0)), some (v_i x1), some (v_i x2), l3, l4, l5], [v_i x2, v_i x1, v_r ((h_r h ((h_r h 0 5).getD 0) 0))], h)) rfl).trans ?_
  simp only [e0, e1, Option.getD_some, am_all]
  all_goals exact cj_d (la_is Lh (o := 0) rfl) (cj_d (la_is Lh (o := 10) rfl) (((am_Y_call (j := 32) (na := 3) (ci := 1) (fl := 0) rfl rfl rfl).trans (cj_d ⟨⟨Nat.le_of_ble_eq_true rfl, Nat.le_of_ble_eq_true rfl, Nat.le_of_ble_eq_true rfl, rfl⟩, Or.inr (Or.inr (show (1 : Nat) < 20 ∧ am_is h (some 11) 1 from ⟨by decide, (la_is Lh (o := 11) rfl)⟩))⟩ Iff.rfl))))

theorem b_X11_define_31 {d : Nat} {Q : Option am_V → am_H → Prop} (h : am_H) (x4 : Int32) (l0 l1 l2 l3 l5 : Option am_V) : ex_ d 179 31 [l0, l1, l2, l3, some (v_i x4), l5] [] h Q ↔ Q (some (v_i ((-10 : Int32) - x4))) h := by
  unfold ex_
  refine (am_Y_go 3 (ok := []) (g := (36, [l0, l1, l2, l3, some (v_i x4), l5], [v_i ((-10 : Int32) - x4)], h)) rfl).trans ?_
  all_goals exact ((am_Y_ret rfl rfl rfl).trans (am_r0))

theorem b_X11_define_49 {d : Nat} {Q : Option am_V → am_H → Prop} (h : am_H) (s0 : Int32) (l1 l2 l3 l4 l5 : Option am_V) (Lh : Lay h) : ex_ (d + 1) 179 49 [some (v_r (some 0)), l1, l2, l3, l4, l5] [v_i s0] h Q ↔ ex_ d 174 0 [some (v_r (some 0))] [] h (fun r h' => ex_ (d + 1) 179 55 [some (v_r (some 0)), l1, l2, l3, l4, some (v_i s0)] (r.toList ++ []) h' Q) := by
  unfold ex_
  refine (am_Y_go 2 (ok := []) (g := (52, [some (v_r (some 0)), l1, l2, l3, l4, some (v_i s0)], [v_r (some 0)], h)) rfl).trans ?_
  all_goals exact ((am_Y_call (j := 174) (na := 1) (ci := 11) (fl := 0) rfl rfl rfl).trans (cj_d ⟨⟨Nat.le_of_ble_eq_true rfl, Nat.le_of_ble_eq_true rfl, Nat.le_of_ble_eq_true rfl, rfl⟩, Or.inr (Or.inr (show (11 : Nat) < 20 ∧ am_is h (some 0) 11 from ⟨by decide, (la_is Lh (o := 0) rfl)⟩))⟩ Iff.rfl))

theorem b_X11_define_55 {d : Nat} {Q : Option am_V → am_H → Prop} (h : am_H) (x5 : Int32) (l0 l1 l2 l3 l4 : Option am_V) : ex_ d 179 55 [l0, l1, l2, l3, l4, some (v_i x5)] [] h Q ↔ Q (some (v_i x5)) h := by
  unfold ex_
  refine (am_Y_go 1 (ok := []) (g := (57, [l0, l1, l2, l3, l4, some (v_i x5)], [v_i x5], h)) rfl).trans ?_
  all_goals exact ((am_Y_ret rfl rfl rfl).trans (am_r0))

theorem b_X11_mood_0 {d : Nat} {Q : Option am_V → am_H → Prop} (h : am_H) (l1 l2 l3 : Option am_V) (Lh : Lay h) : ex_ (d + 1) 180 0 [some (v_r (some 0)), l1, l2, l3] [] h Q ↔ ex_ d 28 0 [some (v_r (some 27)), some (v_r (some 11))] [] h (fun r h' => ex_ (d + 1) 180 14 [some (v_r (some 0)), l1, l2, l3] (r.toList ++ []) h' Q) := by
  have e0 : h_r h 0 8 = some 27 := la_r Lh (q := (0, 8, 27)) (by decide)
  have e1 : h_r h 0 5 = some 10 := la_r Lh (q := (0, 5, 10)) (by decide)
  have e2 : h_r h 10 0 = some 11 := la_r Lh (q := (10, 0, 11)) (by decide)
  unfold ex_
  refine (am_Y_go 5 (ok := [am_is h (some 0) 11, am_is h (some 0) 11, am_is h ((h_r h 0 5)) 2]) (g := (11, [some (v_r (some 0)), l1, l2, l3], [v_r ((h_r h ((h_r h 0 5).getD 0) 0)), v_r ((h_r h 0 8))], h)) rfl).trans ?_
  simp only [e0, e1, e2, Option.getD_some, am_all]
  all_goals exact cj_d (la_is Lh (o := 0) rfl) (cj_d (la_is Lh (o := 0) rfl) (cj_d (la_is Lh (o := 10) rfl) (((am_Y_call (j := 28) (na := 2) (ci := 1) (fl := 0) rfl rfl rfl).trans (cj_d ⟨⟨Nat.le_of_ble_eq_true rfl, Nat.le_of_ble_eq_true rfl, Nat.le_of_ble_eq_true rfl, rfl⟩, Or.inr (Or.inr (show (1 : Nat) < 20 ∧ am_is h (some 27) 1 from ⟨by decide, (la_is Lh (o := 27) rfl)⟩))⟩ Iff.rfl)))))

theorem b_X11_mood_14 {d : Nat} {Q : Option am_V → am_H → Prop} (h : am_H) (x1 : Int32) (l2 l3 : Option am_V) (Lh : Lay h) : ex_ (d + 1) 180 14 [some (v_r (some 0)), some (v_i x1), l2, l3] [] h Q ↔ ex_ d 40 0 [some (v_r (some 27)), some (v_i x1)] [] h (fun r h' => ex_ (d + 1) 180 22 [some (v_r (some 0)), some (v_i x1), l2, l3] (r.toList ++ []) h' Q) := by
  have e0 : h_r h 0 8 = some 27 := la_r Lh (q := (0, 8, 27)) (by decide)
  unfold ex_
  refine (am_Y_go 3 (ok := [am_is h (some 0) 11]) (g := (19, [some (v_r (some 0)), some (v_i x1), l2, l3], [v_i x1, v_r ((h_r h 0 8))], h)) rfl).trans ?_
  simp only [e0, Option.getD_some, am_all]
  all_goals exact cj_d (la_is Lh (o := 0) rfl) (((am_Y_call (j := 40) (na := 2) (ci := 1) (fl := 0) rfl rfl rfl).trans (cj_d ⟨⟨Nat.le_of_ble_eq_true rfl, Nat.le_of_ble_eq_true rfl, Nat.le_of_ble_eq_true rfl, rfl⟩, Or.inr (Or.inr (show (1 : Nat) < 20 ∧ am_is h (some 27) 1 from ⟨by decide, (la_is Lh (o := 27) rfl)⟩))⟩ Iff.rfl)))

theorem b_X11_mood_22 {d : Nat} {Q : Option am_V → am_H → Prop} (h : am_H) (s0 : Int32) (l0 l1 l2 l3 : Option am_V) : ex_ d 180 22 [l0, l1, l2, l3] [v_i s0] h Q ↔ if s0 = 0 then ex_ d 180 32 [l0, l1, some (v_i s0), l3] [] h Q else ex_ d 180 27 [l0, l1, some (v_i s0), l3] [] h Q := by
  unfold ex_
  refine (am_Y_go 3 (ok := []) (g := (if s0 = 0 then 32 else 27, [l0, l1, some (v_i s0), l3], [], h)) rfl).trans ?_
  all_goals exact am_Y_if

theorem b_X11_mood_32 {d : Nat} {Q : Option am_V → am_H → Prop} (h : am_H) (l1 l2 l3 : Option am_V) (Lh : Lay h) : ex_ (d + 1) 180 32 [some (v_r (some 0)), l1, l2, l3] [] h Q ↔ ex_ d 174 0 [some (v_r (some 0))] [] h (fun r h' => ex_ (d + 1) 180 47 [some (v_r (some 0)), l1, l2, some (v_i (h_i h 11 1))] (r.toList ++ []) h' Q) := by
  have e0 : h_r h 0 5 = some 10 := la_r Lh (q := (0, 5, 10)) (by decide)
  have e1 : h_r h 10 0 = some 11 := la_r Lh (q := (10, 0, 11)) (by decide)
  unfold ex_
  refine (am_Y_go 6 (ok := [am_is h (some 0) 11, am_is h ((h_r h 0 5)) 2, am_is h ((h_r h ((h_r h 0 5).getD 0) 0)) 1]) (g := (44, [some (v_r (some 0)), l1, l2, some (v_i (h_i h ((h_r h ((h_r h 0 5).getD 0) 0).getD 0) 1))], [v_r (some 0)], h)) rfl).trans ?_
  simp only [e0, e1, Option.getD_some, am_all]
  all_goals exact cj_d (la_is Lh (o := 0) rfl) (cj_d (la_is Lh (o := 10) rfl) (cj_d (la_is Lh (o := 11) rfl) (((am_Y_call (j := 174) (na := 1) (ci := 11) (fl := 0) rfl rfl rfl).trans (cj_d ⟨⟨Nat.le_of_ble_eq_true rfl, Nat.le_of_ble_eq_true rfl, Nat.le_of_ble_eq_true rfl, rfl⟩, Or.inr (Or.inr (show (11 : Nat) < 20 ∧ am_is h (some 0) 11 from ⟨by decide, (la_is Lh (o := 0) rfl)⟩))⟩ Iff.rfl)))))

theorem b_X11_mood_27 {d : Nat} {Q : Option am_V → am_H → Prop} (h : am_H) (x2 : Int32) (l0 l1 l3 : Option am_V) : ex_ d 180 27 [l0, l1, some (v_i x2), l3] [] h Q ↔ Q (some (v_i ((-10 : Int32) - x2))) h := by
  unfold ex_
  refine (am_Y_go 3 (ok := []) (g := (31, [l0, l1, some (v_i x2), l3], [v_i ((-10 : Int32) - x2)], h)) rfl).trans ?_
  all_goals exact ((am_Y_ret rfl rfl rfl).trans (am_r0))

theorem b_X11_mood_47 {d : Nat} {Q : Option am_V → am_H → Prop} (h : am_H) (x3 : Int32) (l0 l1 l2 : Option am_V) : ex_ d 180 47 [l0, l1, l2, some (v_i x3)] [] h Q ↔ Q (some (v_i x3)) h := by
  unfold ex_
  refine (am_Y_go 1 (ok := []) (g := (48, [l0, l1, l2, some (v_i x3)], [v_i x3], h)) rfl).trans ?_
  all_goals exact ((am_Y_ret rfl rfl rfl).trans (am_r0))

theorem b_X11_undo_0 {d : Nat} {Q : Option am_V → am_H → Prop} (h : am_H) (x1 : Int32) (l0 : Option am_V) : ex_ d 181 0 [l0, some (v_i x1)] [] h Q ↔ if x1 < (1 : Int32) then ex_ d 181 16 [l0, some (v_i x1)] [] h Q else ex_ d 181 5 [l0, some (v_i x1)] [] h Q := by
  unfold ex_
  refine (am_Y_go 3 (ok := []) (g := (if x1 < (1 : Int32) then 16 else 5, [l0, some (v_i x1)], [], h)) rfl).trans ?_
  all_goals exact am_Y_if

theorem b_X11_undo_16 {d : Nat} {Q : Option am_V → am_H → Prop} (h : am_H) (l0 l1 : Option am_V) : ex_ d 181 16 [l0, l1] [] h Q ↔ Q (some (v_i (-3 : Int32))) h := by
  unfold ex_
  refine (am_Y_go 1 (ok := []) (g := (18, [l0, l1], [v_i (-3 : Int32)], h)) rfl).trans ?_
  all_goals exact ((am_Y_ret rfl rfl rfl).trans (am_r0))

theorem b_X11_undo_5 {d : Nat} {Q : Option am_V → am_H → Prop} (h : am_H) (x1 : Int32) (Lh : Lay h) : ex_ d 181 5 [some (v_r (some 0)), some (v_i x1)] [] h Q ↔ if x1 ≤ (h_i h 25 2) then ex_ d 181 19 [some (v_r (some 0)), some (v_i x1)] [] h Q else ex_ d 181 16 [some (v_r (some 0)), some (v_i x1)] [] h Q := by
  have e0 : h_r h 0 7 = some 25 := la_r Lh (q := (0, 7, 25)) (by decide)
  unfold ex_
  refine (am_Y_go 5 (ok := [am_is h (some 0) 11, am_is h ((h_r h 0 7)) 7]) (g := (if x1 ≤ (h_i h ((h_r h 0 7).getD 0) 2) then 19 else 16, [some (v_r (some 0)), some (v_i x1)], [], h)) rfl).trans ?_
  simp only [e0, Option.getD_some, am_all]
  all_goals exact cj_d (la_is Lh (o := 0) rfl) (cj_d (la_is Lh (o := 25) rfl) (am_Y_if))

theorem b_X11_undo_19 {d : Nat} {Q : Option am_V → am_H → Prop} (h : am_H) (x1 : Int32) (Lh : Lay h) : ex_ (d + 1) 181 19 [some (v_r (some 0)), some (v_i x1)] [] h Q ↔ ex_ d 78 0 [some (v_r (some 25)), some (v_i x1), some (v_r (some 11)), none] [] h (fun r h' => ex_ (d + 1) 181 34 [some (v_r (some 0)), some (v_i x1)] (r.toList ++ []) h' Q) := by
  have e0 : h_r h 0 7 = some 25 := la_r Lh (q := (0, 7, 25)) (by decide)
  have e1 : h_r h 0 5 = some 10 := la_r Lh (q := (0, 5, 10)) (by decide)
  have e2 : h_r h 10 0 = some 11 := la_r Lh (q := (10, 0, 11)) (by decide)
  unfold ex_
  refine (am_Y_go 6 (ok := [am_is h (some 0) 11, am_is h (some 0) 11, am_is h ((h_r h 0 5)) 2]) (g := (31, [some (v_r (some 0)), some (v_i x1)], [v_r ((h_r h ((h_r h 0 5).getD 0) 0)), v_i x1, v_r ((h_r h 0 7))], h)) rfl).trans ?_
  simp only [e0, e1, e2, Option.getD_some, am_all]
  all_goals exact cj_d (la_is Lh (o := 0) rfl) (cj_d (la_is Lh (o := 0) rfl) (cj_d (la_is Lh (o := 10) rfl) (((am_Y_call (j := 78) (na := 3) (ci := 7) (fl := 0) rfl rfl rfl).trans (cj_d ⟨⟨Nat.le_of_ble_eq_true rfl, Nat.le_of_ble_eq_true rfl, Nat.le_of_ble_eq_true rfl, rfl⟩, Or.inr (Or.inr (show (7 : Nat) < 20 ∧ am_is h (some 25) 7 from ⟨by decide, (la_is Lh (o := 25) rfl)⟩))⟩ Iff.rfl)))))

theorem b_X11_undo_34 {d : Nat} {Q : Option am_V → am_H → Prop} (h : am_H) (l1 : Option am_V) (Lh : Lay h) : ex_ (d + 1) 181 34 [some (v_r (some 0)), l1] [] h Q ↔ ex_ d 164 0 [some (v_r (some 0))] [] h (fun r h' => ex_ (d + 1) 181 38 [some (v_r (some 0)), l1] (r.toList ++ []) h' Q) := by
  unfold ex_
  refine (am_Y_go 1 (ok := []) (g := (35, [some (v_r (some 0)), l1], [v_r (some 0)], h)) rfl).trans ?_
  all_goals exact ((am_Y_call (j := 164) (na := 1) (ci := 11) (fl := 0) rfl rfl rfl).trans (cj_d ⟨⟨Nat.le_of_ble_eq_true rfl, Nat.le_of_ble_eq_true rfl, Nat.le_of_ble_eq_true rfl, rfl⟩, Or.inr (Or.inr (show (11 : Nat) < 20 ∧ am_is h (some 0) 11 from ⟨by decide, (la_is Lh (o := 0) rfl)⟩))⟩ Iff.rfl))

theorem b_X11_undo_38 {d : Nat} {Q : Option am_V → am_H → Prop} (h : am_H) (l1 : Option am_V) (Lh : Lay h) : ex_ d 181 38 [some (v_r (some 0)), l1] [] h Q ↔ Q (some (v_i (h_i h 25 2))) h := by
  have e0 : h_r h 0 7 = some 25 := la_r Lh (q := (0, 7, 25)) (by decide)
  unfold ex_
  refine (am_Y_go 3 (ok := [am_is h (some 0) 11, am_is h ((h_r h 0 7)) 7]) (g := (45, [some (v_r (some 0)), l1], [v_i (h_i h ((h_r h 0 7).getD 0) 2)], h)) rfl).trans ?_
  simp only [e0, Option.getD_some, am_all]
  all_goals exact cj_d (la_is Lh (o := 0) rfl) (cj_d (la_is Lh (o := 25) rfl) (((am_Y_ret rfl rfl rfl).trans (am_r0))))

theorem b_X11_isTray_0 {d : Nat} {Q : Option am_V → am_H → Prop} (h : am_H) (x0 : Int32) : ex_ d 182 0 [some (v_i x0)] [] h Q ↔ if x0 < 0 then ex_ d 182 13 [some (v_i x0)] [] h Q else ex_ d 182 4 [some (v_i x0)] [] h Q := by
  unfold ex_
  refine (am_Y_go 2 (ok := []) (g := (if x0 < 0 then 13 else 4, [some (v_i x0)], [], h)) rfl).trans ?_
  all_goals exact am_Y_if

theorem b_X11_isTray_13 {d : Nat} {Q : Option am_V → am_H → Prop} (h : am_H) (l0 : Option am_V) : ex_ d 182 13 [l0] [] h Q ↔ Q (some (v_i (0 : Int32))) h := by
  unfold ex_
  refine (am_Y_go 1 (ok := []) (g := (14, [l0], [v_i (0 : Int32)], h)) rfl).trans ?_
  all_goals exact ((am_Y_ret rfl rfl rfl).trans (am_rz (show am_fit 1 0 from Or.inl rfl)))

theorem b_X11_isTray_4 {d : Nat} {Q : Option am_V → am_H → Prop} (h : am_H) (x0 : Int32) : ex_ d 182 4 [some (v_i x0)] [] h Q ↔ if (4 : Int32) ≤ x0 then ex_ d 182 13 [some (v_i x0)] [] h Q else ex_ d 182 9 [some (v_i x0)] [] h Q := by
  unfold ex_
  refine (am_Y_go 3 (ok := []) (g := (if (4 : Int32) ≤ x0 then 13 else 9, [some (v_i x0)], [], h)) rfl).trans ?_
  all_goals exact am_Y_if

theorem b_X11_isTray_9 {d : Nat} {Q : Option am_V → am_H → Prop} (h : am_H) (l0 : Option am_V) : ex_ d 182 9 [l0] [] h Q ↔ Q (some (v_i (1 : Int32))) h := by
  unfold ex_
  refine (am_Y_go 2 (ok := []) (g := (14, [l0], [v_i (1 : Int32)], h)) rfl).trans ?_
  all_goals exact ((am_Y_ret rfl rfl rfl).trans (am_rz (show am_fit 1 1 from Or.inr rfl)))

theorem b_X11_tryDeeds_0 {d : Nat} {Q : Option am_V → am_H → Prop} (h : am_H) (l1 l2 : Option am_V) (Lh : Lay h) : ex_ (d + 1) 183 0 [some (v_r (some 0)), l1, l2] [] h Q ↔ ex_ d 28 0 [some (v_r (some 27)), some (v_r (some 11))] [] h (fun r h' => ex_ (d + 1) 183 14 [some (v_r (some 0)), l1, l2] (r.toList ++ []) h' Q) := by
  have e0 : h_r h 0 8 = some 27 := la_r Lh (q := (0, 8, 27)) (by decide)
  have e1 : h_r h 0 5 = some 10 := la_r Lh (q := (0, 5, 10)) (by decide)
  have e2 : h_r h 10 0 = some 11 := la_r Lh (q := (10, 0, 11)) (by decide)
  unfold ex_
  refine (am_Y_go 5 (ok := [am_is h (some 0) 11, am_is h (some 0) 11, am_is h ((h_r h 0 5)) 2]) (g := (11, [some (v_r (some 0)), l1, l2], [v_r ((h_r h ((h_r h 0 5).getD 0) 0)), v_r ((h_r h 0 8))], h)) rfl).trans ?_
  simp only [e0, e1, e2, Option.getD_some, am_all]
  all_goals exact cj_d (la_is Lh (o := 0) rfl) (cj_d (la_is Lh (o := 0) rfl) (cj_d (la_is Lh (o := 10) rfl) (((am_Y_call (j := 28) (na := 2) (ci := 1) (fl := 0) rfl rfl rfl).trans (cj_d ⟨⟨Nat.le_of_ble_eq_true rfl, Nat.le_of_ble_eq_true rfl, Nat.le_of_ble_eq_true rfl, rfl⟩, Or.inr (Or.inr (show (1 : Nat) < 20 ∧ am_is h (some 27) 1 from ⟨by decide, (la_is Lh (o := 27) rfl)⟩))⟩ Iff.rfl)))))

theorem b_X11_tryDeeds_14 {d : Nat} {Q : Option am_V → am_H → Prop} (h : am_H) (l0 l1 l2 : Option am_V) : ex_ d 183 14 [l0, l1, l2] [] h Q ↔ ex_ d 183 16 [l0, l1, some (v_i (0 : Int32))] [] h Q := by
  unfold ex_
  refine (am_Y_go 2 (ok := []) (g := (16, [l0, l1, some (v_i (0 : Int32))], [], h)) rfl).trans ?_
  all_goals exact Iff.rfl

theorem b_X11_tryDeeds_16 {d : Nat} {Q : Option am_V → am_H → Prop} (h : am_H) (x2 : Int32) (o1 : Nat) (l0 : Option am_V) (F_o1 : y_Tray h o1) : ex_ d 183 16 [l0, some (v_r (some o1)), some (v_i x2)] [] h Q ↔ if (h_i h o1 1) ≤ x2 then ex_ d 183 45 [l0, some (v_r (some o1)), some (v_i x2)] [] h Q else ex_ d 183 24 [l0, some (v_r (some o1)), some (v_i x2)] [] h Q := by
  unfold ex_
  refine (am_Y_go 4 (ok := [am_is h (some o1) 9]) (g := (if (h_i h o1 1) ≤ x2 then 45 else 24, [l0, some (v_r (some o1)), some (v_i x2)], [], h)) rfl).trans ?_
  simp only [am_all]
  all_goals exact cj_d (lr_is (F_o1.1 0 rfl)) (am_Y_if)

theorem b_X11_tryDeeds_45 {d : Nat} {Q : Option am_V → am_H → Prop} (h : am_H) (x2 : Int32) (l0 l1 : Option am_V) : ex_ d 183 45 [l0, l1, some (v_i x2)] [] h Q ↔ Q (some (v_i x2)) h := by
  unfold ex_
  refine (am_Y_go 1 (ok := []) (g := (46, [l0, l1, some (v_i x2)], [v_i x2], h)) rfl).trans ?_
  all_goals exact ((am_Y_ret rfl rfl rfl).trans (am_r0))

theorem b_X11_tryDeeds_24 {d : Nat} {Q : Option am_V → am_H → Prop} (h : am_H) (o1 : Nat) (x2 : Int32) (Lh : Lay h) (F_o1 : y_Tray h o1) : ex_ (d + 1) 183 24 [some (v_r (some 0)), some (v_r (some o1)), some (v_i x2)] [] h Q ↔ ex_ d 145 0 [some (v_r (some o1)), some (v_i x2)] [] h (fun r h' => ex_ (d + 1) 183 33 [some (v_r (some 0)), some (v_r (some o1)), some (v_i x2)] (r.toList ++ [v_r (some 27)]) h' Q) := by
  have e0 : h_r h 0 8 = some 27 := la_r Lh (q := (0, 8, 27)) (by decide)
  unfold ex_
  refine (am_Y_go 4 (ok := [am_is h (some 0) 11]) (g := (30, [some (v_r (some 0)), some (v_r (some o1)), some (v_i x2)], [v_i x2, v_r (some o1), v_r ((h_r h 0 8))], h)) rfl).trans ?_
  simp only [e0, Option.getD_some, am_all]
  all_goals exact cj_d (la_is Lh (o := 0) rfl) (((am_Y_call (j := 145) (na := 2) (ci := 9) (fl := 0) rfl rfl rfl).trans (cj_d ⟨⟨Nat.le_of_ble_eq_true rfl, Nat.le_of_ble_eq_true rfl, Nat.le_of_ble_eq_true rfl, rfl⟩, Or.inr (Or.inr (show (9 : Nat) < 20 ∧ am_is h (some o1) 9 from ⟨by decide, (lr_is (F_o1.1 0 rfl))⟩))⟩ Iff.rfl)))

theorem b_X11_tryDeeds_33 {d : Nat} {Q : Option am_V → am_H → Prop} (h : am_H) (s0 : Int64) (t1 : Nat) (l0 l1 l2 : Option am_V) (F_t1 : y_Facts h t1) : ex_ (d + 1) 183 33 [l0, l1, l2] [v_l s0, v_r (some t1)] h Q ↔ ex_ d 41 0 [some (v_r (some t1)), some (v_l s0), none, none, none] [] h (fun r h' => ex_ (d + 1) 183 36 [l0, l1, l2] (r.toList ++ []) h' Q) := by
  unfold ex_
  exact ((am_Y_call (j := 41) (na := 2) (ci := 1) (fl := 0) rfl rfl rfl).trans (cj_d ⟨⟨Nat.le_of_ble_eq_true rfl, Nat.le_of_ble_eq_true rfl, Nat.le_of_ble_eq_true rfl, rfl⟩, Or.inr (Or.inr (show (1 : Nat) < 20 ∧ am_is h (some t1) 1 from ⟨by decide, (lr_is (F_t1.1 0 rfl))⟩))⟩ Iff.rfl))

theorem b_X11_tryDeeds_36 {d : Nat} {Q : Option am_V → am_H → Prop} (h : am_H) (s0 : Int32) (l0 l1 l2 : Option am_V) : ex_ d 183 36 [l0, l1, l2] [v_i s0] h Q ↔ if ¬ s0 = 0 then ex_ d 183 45 [l0, l1, l2] [] h Q else ex_ d 183 39 [l0, l1, l2] [] h Q := by
  unfold ex_
  refine (am_Y_go 1 (ok := []) (g := (if ¬ s0 = 0 then 45 else 39, [l0, l1, l2], [], h)) rfl).trans ?_
  all_goals exact am_Y_if

theorem b_X11_tryDeeds_39 {d : Nat} {Q : Option am_V → am_H → Prop} (h : am_H) (x2 : Int32) (l0 l1 : Option am_V) : ex_ d 183 39 [l0, l1, some (v_i x2)] [] h Q ↔ ex_ d 183 16 [l0, l1, some (v_i (x2 + (1 : Int32)))] [] h Q := by
  unfold ex_
  refine (am_Y_go 2 (ok := []) (g := (16, [l0, l1, some (v_i (x2 + (1 : Int32)))], [], h)) rfl).trans ?_
  all_goals exact Iff.rfl

theorem b_X11_judge_0 {d : Nat} {Q : Option am_V → am_H → Prop} (h : am_H) (x1 : Int32) (l0 l2 l3 l4 l5 : Option am_V) : ex_ (d + 1) 184 0 [l0, some (v_i x1), l2, l3, l4, l5] [] h Q ↔ ex_ d 182 0 [some (v_i x1)] [] h (fun r h' => ex_ (d + 1) 184 4 [l0, some (v_i x1), l2, l3, l4, l5] (r.toList ++ []) h' Q) := by
  unfold ex_
  refine (am_Y_go 1 (ok := []) (g := (1, [l0, some (v_i x1), l2, l3, l4, l5], [v_i x1], h)) rfl).trans ?_
  all_goals exact ((am_Y_call (j := 182) (na := 1) (ci := 11) (fl := 2) rfl rfl rfl).trans (cj_d ⟨⟨Nat.le_of_ble_eq_true rfl, Nat.le_of_ble_eq_true rfl, Nat.le_of_ble_eq_true rfl, rfl⟩, Or.inl rfl⟩ Iff.rfl))

theorem b_X11_judge_4 {d : Nat} {Q : Option am_V → am_H → Prop} (h : am_H) (s0 : Int32) (l0 l1 l2 l3 l4 l5 : Option am_V) : ex_ d 184 4 [l0, l1, l2, l3, l4, l5] [v_i s0] h Q ↔ if s0 = 0 then ex_ d 184 16 [l0, l1, l2, l3, l4, l5] [] h Q else ex_ d 184 7 [l0, l1, l2, l3, l4, l5] [] h Q := by
  unfold ex_
  refine (am_Y_go 1 (ok := []) (g := (if s0 = 0 then 16 else 7, [l0, l1, l2, l3, l4, l5], [], h)) rfl).trans ?_
  all_goals exact am_Y_if

theorem b_X11_judge_16 {d : Nat} {Q : Option am_V → am_H → Prop} (h : am_H) (l0 l1 l2 l3 l4 l5 : Option am_V) : ex_ d 184 16 [l0, l1, l2, l3, l4, l5] [] h Q ↔ Q (some (v_i (-2 : Int32))) h := by
  unfold ex_
  refine (am_Y_go 1 (ok := []) (g := (18, [l0, l1, l2, l3, l4, l5], [v_i (-2 : Int32)], h)) rfl).trans ?_
  all_goals exact ((am_Y_ret rfl rfl rfl).trans (am_r0))

theorem b_X11_judge_7 {d : Nat} {Q : Option am_V → am_H → Prop} (h : am_H) (x2 : Int32) (l0 l1 l3 l4 l5 : Option am_V) : ex_ d 184 7 [l0, l1, some (v_i x2), l3, l4, l5] [] h Q ↔ if x2 < 0 then ex_ d 184 16 [l0, l1, some (v_i x2), l3, l4, l5] [] h Q else ex_ d 184 11 [l0, l1, some (v_i x2), l3, l4, l5] [] h Q := by
  unfold ex_
  refine (am_Y_go 2 (ok := []) (g := (if x2 < 0 then 16 else 11, [l0, l1, some (v_i x2), l3, l4, l5], [], h)) rfl).trans ?_
  all_goals exact am_Y_if

theorem b_X11_judge_11 {d : Nat} {Q : Option am_V → am_H → Prop} (h : am_H) (x2 : Int32) (l0 l1 l3 l4 l5 : Option am_V) : ex_ d 184 11 [l0, l1, some (v_i x2), l3, l4, l5] [] h Q ↔ if x2 ≤ (3 : Int32) then ex_ d 184 19 [l0, l1, some (v_i x2), l3, l4, l5] [] h Q else ex_ d 184 16 [l0, l1, some (v_i x2), l3, l4, l5] [] h Q := by
  unfold ex_
  refine (am_Y_go 3 (ok := []) (g := (if x2 ≤ (3 : Int32) then 19 else 16, [l0, l1, some (v_i x2), l3, l4, l5], [], h)) rfl).trans ?_
  all_goals exact am_Y_if

theorem b_X11_judge_19 {d : Nat} {Q : Option am_V → am_H → Prop} (h : am_H) (x1 : Int32) (l2 l3 l4 l5 : Option am_V) (Lh : Lay h) : ex_ d 184 19 [some (v_r (some 0)), some (v_i x1), l2, l3, l4, l5] [] h Q ↔ vp_in x1 4 ∧ ex_ d 184 25 [some (v_r (some 0)), some (v_i x1), l2, l3, l4, l5] [v_r (h_r h 83 (Int32.toNatClampNeg x1))] h Q := by
  have e0 : h_r h 0 17 = some 83 := la_r Lh (q := (0, 17, 83)) (by decide)
  unfold ex_
  refine (am_Y_go 4 (ok := [am_is h (some 0) 11, am_ar h ((h_r h 0 17)) 39 x1]) (g := (25, [some (v_r (some 0)), some (v_i x1), l2, l3, l4, l5], [v_r (h_r h ((h_r h 0 17).getD 0) (Int32.toNatClampNeg x1))], h)) rfl).trans ?_
  simp only [e0, Option.getD_some, am_all]
  all_goals exact cj_d (la_is Lh (o := 0) rfl) (cj_k (la_ar Lh (o := 83) rfl) (Iff.rfl))

theorem b_X11_judge_25 {d : Nat} {Q : Option am_V → am_H → Prop} (h : am_H) (t0 : Nat) (l0 l1 l2 l3 l4 l5 : Option am_V) (F_t0 : y_Tray h t0) : ex_ (d + 1) 184 25 [l0, l1, l2, l3, l4, l5] [v_r (some t0)] h Q ↔ ex_ d 142 0 [some (v_r (some t0))] [] h (fun r h' => ex_ (d + 1) 184 28 [l0, l1, l2, l3, l4, l5] (r.toList ++ []) h' Q) := by
  unfold ex_
  exact ((am_Y_call (j := 142) (na := 1) (ci := 9) (fl := 0) rfl rfl rfl).trans (cj_d ⟨⟨Nat.le_of_ble_eq_true rfl, Nat.le_of_ble_eq_true rfl, Nat.le_of_ble_eq_true rfl, rfl⟩, Or.inr (Or.inr (show (9 : Nat) < 20 ∧ am_is h (some t0) 9 from ⟨by decide, (lr_is (F_t0.1 0 rfl))⟩))⟩ Iff.rfl))

theorem b_X11_judge_28 {d : Nat} {Q : Option am_V → am_H → Prop} (h : am_H) (s0 : Int32) (l0 l1 l2 l3 l4 l5 : Option am_V) : ex_ d 184 28 [l0, l1, l2, l3, l4, l5] [v_i s0] h Q ↔ if s0 = 0 then ex_ d 184 34 [l0, l1, l2, l3, l4, l5] [] h Q else ex_ d 184 31 [l0, l1, l2, l3, l4, l5] [] h Q := by
  unfold ex_
  refine (am_Y_go 1 (ok := []) (g := (if s0 = 0 then 34 else 31, [l0, l1, l2, l3, l4, l5], [], h)) rfl).trans ?_
  all_goals exact am_Y_if

theorem b_X11_judge_34 {d : Nat} {Q : Option am_V → am_H → Prop} (h : am_H) (x1 : Int32) (l2 l3 l4 l5 : Option am_V) (Lh : Lay h) : ex_ (d + 1) 184 34 [some (v_r (some 0)), some (v_i x1), l2, l3, l4, l5] [] h Q ↔ vp_in x1 4 ∧ ex_ d 183 0 [some (v_r (some 0)), some (v_r (h_r h 83 (Int32.toNatClampNeg x1))), none] [] h (fun r h' => ex_ (d + 1) 184 46 [some (v_r (some 0)), some (v_i x1), l2, some (v_r (h_r h 83 (Int32.toNatClampNeg x1))), l4, l5] (r.toList ++ []) h' Q) := by
  have e0 : h_r h 0 17 = some 83 := la_r Lh (q := (0, 17, 83)) (by decide)
  unfold ex_
  refine (am_Y_go 7 (ok := [am_is h (some 0) 11, am_ar h ((h_r h 0 17)) 39 x1]) (g := (43, [some (v_r (some 0)), some (v_i x1), l2, some (v_r (h_r h ((h_r h 0 17).getD 0) (Int32.toNatClampNeg x1))), l4, l5], [v_r (h_r h ((h_r h 0 17).getD 0) (Int32.toNatClampNeg x1)), v_r (some 0)], h)) rfl).trans ?_
  simp only [e0, Option.getD_some, am_all]
  all_goals exact cj_d (la_is Lh (o := 0) rfl) (cj_k (la_ar Lh (o := 83) rfl) (((am_Y_call (j := 183) (na := 2) (ci := 11) (fl := 0) rfl rfl rfl).trans (cj_d ⟨⟨Nat.le_of_ble_eq_true rfl, Nat.le_of_ble_eq_true rfl, Nat.le_of_ble_eq_true rfl, rfl⟩, Or.inr (Or.inr (show (11 : Nat) < 20 ∧ am_is h (some 0) 11 from ⟨by decide, (la_is Lh (o := 0) rfl)⟩))⟩ Iff.rfl))))

theorem b_X11_judge_31 {d : Nat} {Q : Option am_V → am_H → Prop} (h : am_H) (l0 l1 l2 l3 l4 l5 : Option am_V) : ex_ d 184 31 [l0, l1, l2, l3, l4, l5] [] h Q ↔ Q (some (v_i (-6 : Int32))) h := by
  unfold ex_
  refine (am_Y_go 1 (ok := []) (g := (33, [l0, l1, l2, l3, l4, l5], [v_i (-6 : Int32)], h)) rfl).trans ?_
  all_goals exact ((am_Y_ret rfl rfl rfl).trans (am_r0))

theorem b_X11_judge_46 {d : Nat} {Q : Option am_V → am_H → Prop} (h : am_H) (s0 : Int32) (x3 : Option Nat) (l0 l1 l2 l4 l5 : Option am_V) : ex_ d 184 46 [l0, l1, l2, some (v_r x3), l4, l5] [v_i s0] h Q ↔ ex_ d 184 51 [l0, l1, l2, some (v_r x3), some (v_i s0), l5] [v_r x3, v_i s0] h Q := by
  unfold ex_
  refine (am_Y_go 3 (ok := []) (g := (51, [l0, l1, l2, some (v_r x3), some (v_i s0), l5], [v_r x3, v_i s0], h)) rfl).trans ?_
  all_goals exact Iff.rfl

theorem b_X11_judge_51 {d : Nat} {Q : Option am_V → am_H → Prop} (h : am_H) (t0 : Nat) (s1 : Int32) (l0 l1 l2 l3 l4 l5 : Option am_V) (F_t0 : y_Tray h t0) : ex_ d 184 51 [l0, l1, l2, l3, l4, l5] [v_r (some t0), v_i s1] h Q ↔ if s1 < (h_i h t0 1) then ex_ d 184 61 [l0, l1, l2, l3, l4, l5] [] h Q else ex_ d 184 57 [l0, l1, l2, l3, l4, l5] [] h Q := by
  unfold ex_
  refine (am_Y_go 2 (ok := [am_is h (some t0) 9]) (g := (if s1 < (h_i h t0 1) then 61 else 57, [l0, l1, l2, l3, l4, l5], [], h)) rfl).trans ?_
  simp only [am_all]
  all_goals exact cj_d (lr_is (F_t0.1 0 rfl)) (am_Y_if)

theorem b_X11_judge_61 {d : Nat} {Q : Option am_V → am_H → Prop} (h : am_H) (x2 : Int32) (l0 l1 l3 l4 l5 : Option am_V) : ex_ d 184 61 [l0, l1, some (v_i x2), l3, l4, l5] [] h Q ↔ if x2 = (0 : Int32) then ex_ d 184 92 [l0, l1, some (v_i x2), l3, l4, some (v_i (0 : Int32))] [] h Q else if x2 = (1 : Int32) then ex_ d 184 104 [l0, l1, some (v_i x2), l3, l4, some (v_i (0 : Int32))] [] h Q else if x2 = (2 : Int32) then ex_ d 184 127 [l0, l1, some (v_i x2), l3, l4, some (v_i (0 : Int32))] [] h Q else ex_ d 184 154 [l0, l1, some (v_i x2), l3, l4, some (v_i (0 : Int32))] [] h Q := by
  unfold ex_
  refine (am_Y_go 4 (ok := []) (g := (am_sw x2 154 [((0 : Int32), 92), ((1 : Int32), 104), ((2 : Int32), 127)], [l0, l1, some (v_i x2), l3, l4, some (v_i (0 : Int32))], [], h)) rfl).trans ?_
  all_goals exact (by simp only [am_sw, am_Y_if, am_all])

theorem b_X11_judge_57 {d : Nat} {Q : Option am_V → am_H → Prop} (h : am_H) (x2 : Int32) (l0 l1 l3 l4 l5 : Option am_V) : ex_ d 184 57 [l0, l1, some (v_i x2), l3, l4, l5] [] h Q ↔ if x2 = (0 : Int32) then ex_ d 184 92 [l0, l1, some (v_i x2), l3, l4, some (v_i (1 : Int32))] [] h Q else if x2 = (1 : Int32) then ex_ d 184 104 [l0, l1, some (v_i x2), l3, l4, some (v_i (1 : Int32))] [] h Q else if x2 = (2 : Int32) then ex_ d 184 127 [l0, l1, some (v_i x2), l3, l4, some (v_i (1 : Int32))] [] h Q else ex_ d 184 154 [l0, l1, some (v_i x2), l3, l4, some (v_i (1 : Int32))] [] h Q := by
  unfold ex_
  refine (am_Y_go 5 (ok := []) (g := (am_sw x2 154 [((0 : Int32), 92), ((1 : Int32), 104), ((2 : Int32), 127)], [l0, l1, some (v_i x2), l3, l4, some (v_i (1 : Int32))], [], h)) rfl).trans ?_
  all_goals exact (by simp only [am_sw, am_Y_if, am_all])

theorem b_X11_judge_154 {d : Nat} {Q : Option am_V → am_H → Prop} (h : am_H) (l1 l2 l3 l4 l5 : Option am_V) (Lh : Lay h) : ex_ (d + 1) 184 154 [some (v_r (some 0)), l1, l2, l3, l4, l5] [] h Q ↔ ex_ d 33 0 [some (v_r (some 27)), none, none] [] h (fun r h' => ex_ (d + 1) 184 161 [some (v_r (some 0)), l1, l2, l3, l4, l5] (r.toList ++ []) h' Q) := by
  have e0 : h_r h 0 8 = some 27 := la_r Lh (q := (0, 8, 27)) (by decide)
  unfold ex_
  refine (am_Y_go 2 (ok := [am_is h (some 0) 11]) (g := (158, [some (v_r (some 0)), l1, l2, l3, l4, l5], [v_r ((h_r h 0 8))], h)) rfl).trans ?_
  simp only [e0, Option.getD_some, am_all]
  all_goals exact cj_d (la_is Lh (o := 0) rfl) (((am_Y_call (j := 33) (na := 1) (ci := 1) (fl := 0) rfl rfl rfl).trans (cj_d ⟨⟨Nat.le_of_ble_eq_true rfl, Nat.le_of_ble_eq_true rfl, Nat.le_of_ble_eq_true rfl, rfl⟩, Or.inr (Or.inr (show (1 : Nat) < 20 ∧ am_is h (some 27) 1 from ⟨by decide, (la_is Lh (o := 27) rfl)⟩))⟩ Iff.rfl)))

theorem b_X11_judge_92 {d : Nat} {Q : Option am_V → am_H → Prop} (h : am_H) (x5 : Int32) (l0 l1 l2 l3 l4 : Option am_V) : ex_ d 184 92 [l0, l1, l2, l3, l4, some (v_i x5)] [] h Q ↔ if x5 = 0 then ex_ d 184 101 [l0, l1, l2, l3, l4, some (v_i x5)] [] h Q else ex_ d 184 97 [l0, l1, l2, l3, l4, some (v_i x5)] [] h Q := by
  unfold ex_
  refine (am_Y_go 2 (ok := []) (g := (if x5 = 0 then 101 else 97, [l0, l1, l2, l3, l4, some (v_i x5)], [], h)) rfl).trans ?_
  all_goals exact am_Y_if

theorem b_X11_judge_104 {d : Nat} {Q : Option am_V → am_H → Prop} (h : am_H) (x5 : Int32) (l0 l1 l2 l3 l4 : Option am_V) : ex_ d 184 104 [l0, l1, l2, l3, l4, some (v_i x5)] [] h Q ↔ if x5 = 0 then ex_ d 184 113 [l0, l1, l2, l3, l4, some (v_i x5)] [] h Q else ex_ d 184 109 [l0, l1, l2, l3, l4, some (v_i x5)] [] h Q := by
  unfold ex_
  refine (am_Y_go 2 (ok := []) (g := (if x5 = 0 then 113 else 109, [l0, l1, l2, l3, l4, some (v_i x5)], [], h)) rfl).trans ?_
  all_goals exact am_Y_if

theorem b_X11_judge_127 {d : Nat} {Q : Option am_V → am_H → Prop} (h : am_H) (l1 l2 l3 l4 l5 : Option am_V) (Lh : Lay h) : ex_ (d + 1) 184 127 [some (v_r (some 0)), l1, l2, l3, l4, l5] [] h Q ↔ ex_ d 74 0 [some (v_r (some 31)), some (v_r (some 27)), none] [] h (fun r h' => ex_ (d + 1) 184 138 [some (v_r (some 0)), l1, l2, l3, l4, l5] (r.toList ++ []) h' Q) := by
  have e0 : h_r h 0 9 = some 31 := la_r Lh (q := (0, 9, 31)) (by decide)
  have e1 : h_r h 0 8 = some 27 := la_r Lh (q := (0, 8, 27)) (by decide)
  unfold ex_
  refine (am_Y_go 4 (ok := [am_is h (some 0) 11, am_is h (some 0) 11]) (g := (135, [some (v_r (some 0)), l1, l2, l3, l4, l5], [v_r ((h_r h 0 8)), v_r ((h_r h 0 9))], h)) rfl).trans ?_
  simp only [e0, e1, Option.getD_some, am_all]
  all_goals exact cj_d (la_is Lh (o := 0) rfl) (cj_d (la_is Lh (o := 0) rfl) (((am_Y_call (j := 74) (na := 2) (ci := 6) (fl := 0) rfl rfl rfl).trans (cj_d ⟨⟨Nat.le_of_ble_eq_true rfl, Nat.le_of_ble_eq_true rfl, Nat.le_of_ble_eq_true rfl, rfl⟩, Or.inr (Or.inr (show (6 : Nat) < 20 ∧ am_is h (some 31) 6 from ⟨by decide, (la_is Lh (o := 31) rfl)⟩))⟩ Iff.rfl))))

theorem b_X11_judge_161 {d : Nat} {Q : Option am_V → am_H → Prop} (h : am_H) (s0 : Int32) (l0 l1 l2 l3 l4 l5 : Option am_V) : ex_ d 184 161 [l0, l1, l2, l3, l4, l5] [v_i s0] h Q ↔ Q (some (v_i s0)) h := by
  unfold ex_
  exact ((am_Y_ret rfl rfl rfl).trans (am_r0))

theorem b_X11_judge_101 {d : Nat} {Q : Option am_V → am_H → Prop} (h : am_H) (x4 : Int32) (l0 l1 l2 l3 l5 : Option am_V) : ex_ d 184 101 [l0, l1, l2, l3, some (v_i x4), l5] [] h Q ↔ Q (some (v_i x4)) h := by
  unfold ex_
  refine (am_Y_go 1 (ok := []) (g := (103, [l0, l1, l2, l3, some (v_i x4), l5], [v_i x4], h)) rfl).trans ?_
  all_goals exact ((am_Y_ret rfl rfl rfl).trans (am_r0))

theorem b_X11_judge_97 {d : Nat} {Q : Option am_V → am_H → Prop} (h : am_H) (l0 l1 l2 l3 l4 l5 : Option am_V) : ex_ d 184 97 [l0, l1, l2, l3, l4, l5] [] h Q ↔ Q (some (v_i (-1 : Int32))) h := by
  unfold ex_
  refine (am_Y_go 2 (ok := []) (g := (103, [l0, l1, l2, l3, l4, l5], [v_i (-1 : Int32)], h)) rfl).trans ?_
  all_goals exact ((am_Y_ret rfl rfl rfl).trans (am_r0))

theorem b_X11_judge_113 {d : Nat} {Q : Option am_V → am_H → Prop} (h : am_H) (x3 : Option Nat) (x4 : Int32) (l1 l2 l5 : Option am_V) (Lh : Lay h) : ex_ d 184 113 [some (v_r (some 0)), l1, l2, some (v_r x3), some (v_i x4), l5] [] h Q ↔ ex_ d 184 120 [some (v_r (some 0)), l1, l2, some (v_r x3), some (v_i x4), l5] [v_i x4, v_r x3, v_r (some 27)] h Q := by
  have e0 : h_r h 0 8 = some 27 := la_r Lh (q := (0, 8, 27)) (by decide)
  unfold ex_
  refine (am_Y_go 4 (ok := [am_is h (some 0) 11]) (g := (120, [some (v_r (some 0)), l1, l2, some (v_r x3), some (v_i x4), l5], [v_i x4, v_r x3, v_r ((h_r h 0 8))], h)) rfl).trans ?_
  simp only [e0, Option.getD_some, am_all]
  all_goals exact cj_d (la_is Lh (o := 0) rfl) (Iff.rfl)

theorem b_X11_judge_109 {d : Nat} {Q : Option am_V → am_H → Prop} (h : am_H) (l0 l1 l2 l3 l4 l5 : Option am_V) : ex_ d 184 109 [l0, l1, l2, l3, l4, l5] [] h Q ↔ Q (some (v_i (0 : Int32))) h := by
  unfold ex_
  refine (am_Y_go 2 (ok := []) (g := (126, [l0, l1, l2, l3, l4, l5], [v_i (0 : Int32)], h)) rfl).trans ?_
  all_goals exact ((am_Y_ret rfl rfl rfl).trans (am_r0))

theorem b_X11_judge_138 {d : Nat} {Q : Option am_V → am_H → Prop} (h : am_H) (l1 l2 l3 l4 l5 : Option am_V) (Lh : Lay h) : ex_ (d + 1) 184 138 [some (v_r (some 0)), l1, l2, l3, l4, l5] [] h Q ↔ ex_ d 73 0 [some (v_r (some 31)), some (v_i (0 : Int32)), some (v_i (h_i h 27 0)), none, none] [] h (fun r h' => ex_ (d + 1) 184 153 [some (v_r (some 0)), l1, l2, l3, l4, l5] (r.toList ++ []) h' Q) := by
  have e0 : h_r h 0 9 = some 31 := la_r Lh (q := (0, 9, 31)) (by decide)
  have e1 : h_r h 0 8 = some 27 := la_r Lh (q := (0, 8, 27)) (by decide)
  unfold ex_
  refine (am_Y_go 6 (ok := [am_is h (some 0) 11, am_is h (some 0) 11, am_is h ((h_r h 0 8)) 1]) (g := (150, [some (v_r (some 0)), l1, l2, l3, l4, l5], [v_i (h_i h ((h_r h 0 8).getD 0) 0), v_i (0 : Int32), v_r ((h_r h 0 9))], h)) rfl).trans ?_
  simp only [e0, e1, Option.getD_some, am_all]
  all_goals exact cj_d (la_is Lh (o := 0) rfl) (cj_d (la_is Lh (o := 0) rfl) (cj_d (la_is Lh (o := 27) rfl) (((am_Y_call (j := 73) (na := 3) (ci := 6) (fl := 0) rfl rfl rfl).trans (cj_d ⟨⟨Nat.le_of_ble_eq_true rfl, Nat.le_of_ble_eq_true rfl, Nat.le_of_ble_eq_true rfl, rfl⟩, Or.inr (Or.inr (show (6 : Nat) < 20 ∧ am_is h (some 31) 6 from ⟨by decide, (la_is Lh (o := 31) rfl)⟩))⟩ Iff.rfl)))))

theorem b_X11_judge_120 {d : Nat} {Q : Option am_V → am_H → Prop} (h : am_H) (s0 : Int32) (t1 : Nat) (t2 : Nat) (l0 l1 l2 l3 l4 l5 : Option am_V) (F_t1 : y_Tray h t1) (F_t2 : y_Facts h t2) : ex_ (d + 1) 184 120 [l0, l1, l2, l3, l4, l5] [v_i s0, v_r (some t1), v_r (some t2)] h Q ↔ ex_ d 145 0 [some (v_r (some t1)), some (v_i s0)] [] h (fun r h' => ex_ (d + 1) 184 123 [l0, l1, l2, l3, l4, l5] (r.toList ++ [v_r (some t2)]) h' Q) := by
  unfold ex_
  exact ((am_Y_call (j := 145) (na := 2) (ci := 9) (fl := 0) rfl rfl rfl).trans (cj_d ⟨⟨Nat.le_of_ble_eq_true rfl, Nat.le_of_ble_eq_true rfl, Nat.le_of_ble_eq_true rfl, rfl⟩, Or.inr (Or.inr (show (9 : Nat) < 20 ∧ am_is h (some t1) 9 from ⟨by decide, (lr_is (F_t1.1 0 rfl))⟩))⟩ Iff.rfl))

theorem b_X11_judge_153 {d : Nat} {Q : Option am_V → am_H → Prop} (h : am_H) (s0 : Int32) (l0 l1 l2 l3 l4 l5 : Option am_V) : ex_ d 184 153 [l0, l1, l2, l3, l4, l5] [v_i s0] h Q ↔ Q (some (v_i s0)) h := by
  unfold ex_
  exact ((am_Y_ret rfl rfl rfl).trans (am_r0))

theorem b_X11_judge_123 {d : Nat} {Q : Option am_V → am_H → Prop} (h : am_H) (s0 : Int64) (t1 : Nat) (l0 l1 l2 l3 l4 l5 : Option am_V) (F_t1 : y_Facts h t1) : ex_ (d + 1) 184 123 [l0, l1, l2, l3, l4, l5] [v_l s0, v_r (some t1)] h Q ↔ ex_ d 41 0 [some (v_r (some t1)), some (v_l s0), none, none, none] [] h (fun r h' => ex_ (d + 1) 184 126 [l0, l1, l2, l3, l4, l5] (r.toList ++ []) h' Q) := by
  unfold ex_
  exact ((am_Y_call (j := 41) (na := 2) (ci := 1) (fl := 0) rfl rfl rfl).trans (cj_d ⟨⟨Nat.le_of_ble_eq_true rfl, Nat.le_of_ble_eq_true rfl, Nat.le_of_ble_eq_true rfl, rfl⟩, Or.inr (Or.inr (show (1 : Nat) < 20 ∧ am_is h (some t1) 1 from ⟨by decide, (lr_is (F_t1.1 0 rfl))⟩))⟩ Iff.rfl))

theorem b_X11_judge_126 {d : Nat} {Q : Option am_V → am_H → Prop} (h : am_H) (s0 : Int32) (l0 l1 l2 l3 l4 l5 : Option am_V) : ex_ d 184 126 [l0, l1, l2, l3, l4, l5] [v_i s0] h Q ↔ Q (some (v_i s0)) h := by
  unfold ex_
  exact ((am_Y_ret rfl rfl rfl).trans (am_r0))

theorem b_X11_trayCode_0 {d : Nat} {Q : Option am_V → am_H → Prop} (h : am_H) (x1 : Int32) (l0 : Option am_V) : ex_ (d + 1) 185 0 [l0, some (v_i x1)] [] h Q ↔ ex_ d 182 0 [some (v_i x1)] [] h (fun r h' => ex_ (d + 1) 185 4 [l0, some (v_i x1)] (r.toList ++ []) h' Q) := by
  unfold ex_
  refine (am_Y_go 1 (ok := []) (g := (1, [l0, some (v_i x1)], [v_i x1], h)) rfl).trans ?_
  all_goals exact ((am_Y_call (j := 182) (na := 1) (ci := 11) (fl := 2) rfl rfl rfl).trans (cj_d ⟨⟨Nat.le_of_ble_eq_true rfl, Nat.le_of_ble_eq_true rfl, Nat.le_of_ble_eq_true rfl, rfl⟩, Or.inl rfl⟩ Iff.rfl))

theorem b_X11_trayCode_4 {d : Nat} {Q : Option am_V → am_H → Prop} (h : am_H) (s0 : Int32) (l0 l1 : Option am_V) : ex_ d 185 4 [l0, l1] [v_i s0] h Q ↔ if ¬ s0 = 0 then ex_ d 185 10 [l0, l1] [] h Q else ex_ d 185 7 [l0, l1] [] h Q := by
  unfold ex_
  refine (am_Y_go 1 (ok := []) (g := (if ¬ s0 = 0 then 10 else 7, [l0, l1], [], h)) rfl).trans ?_
  all_goals exact am_Y_if

theorem b_X11_trayCode_10 {d : Nat} {Q : Option am_V → am_H → Prop} (h : am_H) (x1 : Int32) (Lh : Lay h) : ex_ d 185 10 [some (v_r (some 0)), some (v_i x1)] [] h Q ↔ vp_in x1 4 ∧ ex_ d 185 16 [some (v_r (some 0)), some (v_i x1)] [v_r (h_r h 83 (Int32.toNatClampNeg x1))] h Q := by
  have e0 : h_r h 0 17 = some 83 := la_r Lh (q := (0, 17, 83)) (by decide)
  unfold ex_
  refine (am_Y_go 4 (ok := [am_is h (some 0) 11, am_ar h ((h_r h 0 17)) 39 x1]) (g := (16, [some (v_r (some 0)), some (v_i x1)], [v_r (h_r h ((h_r h 0 17).getD 0) (Int32.toNatClampNeg x1))], h)) rfl).trans ?_
  simp only [e0, Option.getD_some, am_all]
  all_goals exact cj_d (la_is Lh (o := 0) rfl) (cj_k (la_ar Lh (o := 83) rfl) (Iff.rfl))

theorem b_X11_trayCode_7 {d : Nat} {Q : Option am_V → am_H → Prop} (h : am_H) (l0 l1 : Option am_V) : ex_ d 185 7 [l0, l1] [] h Q ↔ Q (some (v_i (-2 : Int32))) h := by
  unfold ex_
  refine (am_Y_go 1 (ok := []) (g := (9, [l0, l1], [v_i (-2 : Int32)], h)) rfl).trans ?_
  all_goals exact ((am_Y_ret rfl rfl rfl).trans (am_r0))

theorem b_X11_trayCode_16 {d : Nat} {Q : Option am_V → am_H → Prop} (h : am_H) (t0 : Nat) (l0 l1 : Option am_V) (F_t0 : y_Tray h t0) : ex_ (d + 1) 185 16 [l0, l1] [v_r (some t0)] h Q ↔ ex_ d 142 0 [some (v_r (some t0))] [] h (fun r h' => ex_ (d + 1) 185 19 [l0, l1] (r.toList ++ []) h' Q) := by
  unfold ex_
  exact ((am_Y_call (j := 142) (na := 1) (ci := 9) (fl := 0) rfl rfl rfl).trans (cj_d ⟨⟨Nat.le_of_ble_eq_true rfl, Nat.le_of_ble_eq_true rfl, Nat.le_of_ble_eq_true rfl, rfl⟩, Or.inr (Or.inr (show (9 : Nat) < 20 ∧ am_is h (some t0) 9 from ⟨by decide, (lr_is (F_t0.1 0 rfl))⟩))⟩ Iff.rfl))

theorem b_X11_trayCode_19 {d : Nat} {Q : Option am_V → am_H → Prop} (h : am_H) (s0 : Int32) (l0 l1 : Option am_V) : ex_ d 185 19 [l0, l1] [v_i s0] h Q ↔ if s0 = 0 then ex_ d 185 27 [l0, l1] [] h Q else ex_ d 185 22 [l0, l1] [] h Q := by
  unfold ex_
  refine (am_Y_go 1 (ok := []) (g := (if s0 = 0 then 27 else 22, [l0, l1], [], h)) rfl).trans ?_
  all_goals exact am_Y_if

theorem b_X11_trayCode_27 {d : Nat} {Q : Option am_V → am_H → Prop} (h : am_H) (l0 l1 : Option am_V) : ex_ d 185 27 [l0, l1] [] h Q ↔ Q (some (v_i (0 : Int32))) h := by
  unfold ex_
  refine (am_Y_go 1 (ok := []) (g := (28, [l0, l1], [v_i (0 : Int32)], h)) rfl).trans ?_
  all_goals exact ((am_Y_ret rfl rfl rfl).trans (am_r0))

theorem b_X11_trayCode_22 {d : Nat} {Q : Option am_V → am_H → Prop} (h : am_H) (l0 l1 : Option am_V) : ex_ d 185 22 [l0, l1] [] h Q ↔ Q (some (v_i (-6 : Int32))) h := by
  unfold ex_
  refine (am_Y_go 2 (ok := []) (g := (28, [l0, l1], [v_i (-6 : Int32)], h)) rfl).trans ?_
  all_goals exact ((am_Y_ret rfl rfl rfl).trans (am_r0))

theorem b_X11_perform_0 {d : Nat} {Q : Option am_V → am_H → Prop} (h : am_H) (x1 : Int32) (l2 l3 : Option am_V) (Lh : Lay h) : ex_ (d + 1) 186 0 [some (v_r (some 0)), some (v_i x1), l2, l3] [] h Q ↔ ex_ d 185 0 [some (v_r (some 0)), some (v_i x1)] [] h (fun r h' => ex_ (d + 1) 186 5 [some (v_r (some 0)), some (v_i x1), l2, l3] (r.toList ++ []) h' Q) := by
  unfold ex_
  refine (am_Y_go 2 (ok := []) (g := (2, [some (v_r (some 0)), some (v_i x1), l2, l3], [v_i x1, v_r (some 0)], h)) rfl).trans ?_
  all_goals exact ((am_Y_call (j := 185) (na := 2) (ci := 11) (fl := 0) rfl rfl rfl).trans (cj_d ⟨⟨Nat.le_of_ble_eq_true rfl, Nat.le_of_ble_eq_true rfl, Nat.le_of_ble_eq_true rfl, rfl⟩, Or.inr (Or.inr (show (11 : Nat) < 20 ∧ am_is h (some 0) 11 from ⟨by decide, (la_is Lh (o := 0) rfl)⟩))⟩ Iff.rfl))

theorem b_X11_perform_5 {d : Nat} {Q : Option am_V → am_H → Prop} (h : am_H) (s0 : Int32) (l0 l1 l2 l3 : Option am_V) : ex_ d 186 5 [l0, l1, l2, l3] [v_i s0] h Q ↔ if s0 = 0 then ex_ d 186 12 [l0, l1, some (v_i s0), l3] [] h Q else ex_ d 186 10 [l0, l1, some (v_i s0), l3] [] h Q := by
  unfold ex_
  refine (am_Y_go 3 (ok := []) (g := (if s0 = 0 then 12 else 10, [l0, l1, some (v_i s0), l3], [], h)) rfl).trans ?_
  all_goals exact am_Y_if

theorem b_X11_perform_12 {d : Nat} {Q : Option am_V → am_H → Prop} (h : am_H) (x1 : Int32) (l2 l3 : Option am_V) (Lh : Lay h) : ex_ (d + 1) 186 12 [some (v_r (some 0)), some (v_i x1), l2, l3] [] h Q ↔ vp_in x1 4 ∧ ex_ d 183 0 [some (v_r (some 0)), some (v_r (h_r h 83 (Int32.toNatClampNeg x1))), none] [] h (fun r h' => ex_ (d + 1) 186 22 [some (v_r (some 0)), some (v_i x1), l2, l3] (r.toList ++ []) h' Q) := by
  have e0 : h_r h 0 17 = some 83 := la_r Lh (q := (0, 17, 83)) (by decide)
  unfold ex_
  refine (am_Y_go 5 (ok := [am_is h (some 0) 11, am_ar h ((h_r h 0 17)) 39 x1]) (g := (19, [some (v_r (some 0)), some (v_i x1), l2, l3], [v_r (h_r h ((h_r h 0 17).getD 0) (Int32.toNatClampNeg x1)), v_r (some 0)], h)) rfl).trans ?_
  simp only [e0, Option.getD_some, am_all]
  all_goals exact cj_d (la_is Lh (o := 0) rfl) (cj_k (la_ar Lh (o := 83) rfl) (((am_Y_call (j := 183) (na := 2) (ci := 11) (fl := 0) rfl rfl rfl).trans (cj_d ⟨⟨Nat.le_of_ble_eq_true rfl, Nat.le_of_ble_eq_true rfl, Nat.le_of_ble_eq_true rfl, rfl⟩, Or.inr (Or.inr (show (11 : Nat) < 20 ∧ am_is h (some 0) 11 from ⟨by decide, (la_is Lh (o := 0) rfl)⟩))⟩ Iff.rfl))))

theorem b_X11_perform_10 {d : Nat} {Q : Option am_V → am_H → Prop} (h : am_H) (x2 : Int32) (l0 l1 l3 : Option am_V) : ex_ d 186 10 [l0, l1, some (v_i x2), l3] [] h Q ↔ Q (some (v_i x2)) h := by
  unfold ex_
  refine (am_Y_go 1 (ok := []) (g := (11, [l0, l1, some (v_i x2), l3], [v_i x2], h)) rfl).trans ?_
  all_goals exact ((am_Y_ret rfl rfl rfl).trans (am_r0))

theorem b_X11_perform_22 {d : Nat} {Q : Option am_V → am_H → Prop} (h : am_H) (s0 : Int32) (l0 l1 l2 l3 : Option am_V) : ex_ d 186 22 [l0, l1, l2, l3] [v_i s0] h Q ↔ if s0 ≤ 0 then ex_ d 186 31 [l0, l1, l2, some (v_i s0)] [] h Q else ex_ d 186 27 [l0, l1, l2, some (v_i s0)] [] h Q := by
  unfold ex_
  refine (am_Y_go 3 (ok := []) (g := (if s0 ≤ 0 then 31 else 27, [l0, l1, l2, some (v_i s0)], [], h)) rfl).trans ?_
  all_goals exact am_Y_if

theorem b_X11_perform_31 {d : Nat} {Q : Option am_V → am_H → Prop} (h : am_H) (x3 : Int32) (l0 l1 l2 : Option am_V) : ex_ d 186 31 [l0, l1, l2, some (v_i x3)] [] h Q ↔ Q (some (v_i x3)) h := by
  unfold ex_
  refine (am_Y_go 1 (ok := []) (g := (32, [l0, l1, l2, some (v_i x3)], [v_i x3], h)) rfl).trans ?_
  all_goals exact ((am_Y_ret rfl rfl rfl).trans (am_r0))

theorem b_X11_perform_27 {d : Nat} {Q : Option am_V → am_H → Prop} (h : am_H) (l1 l2 l3 : Option am_V) (Lh : Lay h) : ex_ (d + 1) 186 27 [some (v_r (some 0)), l1, l2, l3] [] h Q ↔ ex_ d 174 0 [some (v_r (some 0))] [] h (fun r h' => ex_ (d + 1) 186 31 [some (v_r (some 0)), l1, l2, l3] (r.toList ++ []) h' Q) := by
  unfold ex_
  refine (am_Y_go 1 (ok := []) (g := (28, [some (v_r (some 0)), l1, l2, l3], [v_r (some 0)], h)) rfl).trans ?_
  all_goals exact ((am_Y_call (j := 174) (na := 1) (ci := 11) (fl := 0) rfl rfl rfl).trans (cj_d ⟨⟨Nat.le_of_ble_eq_true rfl, Nat.le_of_ble_eq_true rfl, Nat.le_of_ble_eq_true rfl, rfl⟩, Or.inr (Or.inr (show (11 : Nat) < 20 ∧ am_is h (some 0) 11 from ⟨by decide, (la_is Lh (o := 0) rfl)⟩))⟩ Iff.rfl))

theorem b_X11_nextDraw_0 {d : Nat} {Q : Option am_V → am_H → Prop} (h : am_H) (x0 : Int32) : ex_ d 187 0 [some (v_i x0)] [] h Q ↔ Q (some (v_i (((1103515245 : Int32) * x0) + (12345 : Int32)))) h := by
  unfold ex_
  refine (am_Y_go 5 (ok := []) (g := (9, [some (v_i x0)], [v_i (((1103515245 : Int32) * x0) + (12345 : Int32))], h)) rfl).trans ?_
  all_goals exact ((am_Y_ret rfl rfl rfl).trans (am_r0))

theorem b_X11_drawnDeed_0 {d : Nat} {Q : Option am_V → am_H → Prop} (h : am_H) (x0 : Int32) (l1 : Option am_V) : ex_ d 188 0 [some (v_i x0), l1] [] h Q ↔ if x0 = (0 : Int32) then ex_ d 188 36 [some (v_i x0), l1] [] h Q else if x0 = (1 : Int32) then ex_ d 188 44 [some (v_i x0), l1] [] h Q else if x0 = (2 : Int32) then ex_ d 188 44 [some (v_i x0), l1] [] h Q else if x0 = (3 : Int32) then ex_ d 188 52 [some (v_i x0), l1] [] h Q else if x0 = (4 : Int32) then ex_ d 188 61 [some (v_i x0), l1] [] h Q else ex_ d 188 70 [some (v_i x0), l1] [] h Q := by
  unfold ex_
  refine (am_Y_go 2 (ok := []) (g := (am_sw x0 70 [((0 : Int32), 36), ((1 : Int32), 44), ((2 : Int32), 44), ((3 : Int32), 52), ((4 : Int32), 61)], [some (v_i x0), l1], [], h)) rfl).trans ?_
  all_goals exact (by simp only [am_sw, am_Y_if, am_all])

theorem b_X11_drawnDeed_70 {d : Nat} {Q : Option am_V → am_H → Prop} (h : am_H) (x1 : Int32) (l0 : Option am_V) : ex_ d 188 70 [l0, some (v_i x1)] [] h Q ↔ Q (some (v_i ((1000 : Int32) + (x1 - x1 / (300 : Int32) * (300 : Int32))))) h := by
  unfold ex_
  refine (am_Y_go 5 (ok := [¬ (300 : Int32) = 0]) (g := (79, [l0, some (v_i x1)], [v_i ((1000 : Int32) + (x1 - x1 / (300 : Int32) * (300 : Int32)))], h)) rfl).trans ?_
  simp only [am_all]
  all_goals exact cj_d (by decide) (((am_Y_ret rfl rfl rfl).trans (am_r0)))

theorem b_X11_drawnDeed_36 {d : Nat} {Q : Option am_V → am_H → Prop} (h : am_H) (x1 : Int32) (l0 : Option am_V) : ex_ d 188 36 [l0, some (v_i x1)] [] h Q ↔ Q (some (v_i ((10 : Int32) + (x1 - x1 / (10 : Int32) * (10 : Int32))))) h := by
  unfold ex_
  refine (am_Y_go 5 (ok := [¬ (10 : Int32) = 0]) (g := (43, [l0, some (v_i x1)], [v_i ((10 : Int32) + (x1 - x1 / (10 : Int32) * (10 : Int32)))], h)) rfl).trans ?_
  simp only [am_all]
  all_goals exact cj_d (by decide) (((am_Y_ret rfl rfl rfl).trans (am_r0)))

theorem b_X11_drawnDeed_44 {d : Nat} {Q : Option am_V → am_H → Prop} (h : am_H) (x1 : Int32) (l0 : Option am_V) : ex_ d 188 44 [l0, some (v_i x1)] [] h Q ↔ Q (some (v_i ((100 : Int32) + (x1 - x1 / (100 : Int32) * (100 : Int32))))) h := by
  unfold ex_
  refine (am_Y_go 5 (ok := [¬ (100 : Int32) = 0]) (g := (51, [l0, some (v_i x1)], [v_i ((100 : Int32) + (x1 - x1 / (100 : Int32) * (100 : Int32)))], h)) rfl).trans ?_
  simp only [am_all]
  all_goals exact cj_d (by decide) (((am_Y_ret rfl rfl rfl).trans (am_r0)))

theorem b_X11_drawnDeed_52 {d : Nat} {Q : Option am_V → am_H → Prop} (h : am_H) (x1 : Int32) (l0 : Option am_V) : ex_ d 188 52 [l0, some (v_i x1)] [] h Q ↔ Q (some (v_i ((200 : Int32) + (x1 - x1 / (100 : Int32) * (100 : Int32))))) h := by
  unfold ex_
  refine (am_Y_go 5 (ok := [¬ (100 : Int32) = 0]) (g := (60, [l0, some (v_i x1)], [v_i ((200 : Int32) + (x1 - x1 / (100 : Int32) * (100 : Int32)))], h)) rfl).trans ?_
  simp only [am_all]
  all_goals exact cj_d (by decide) (((am_Y_ret rfl rfl rfl).trans (am_r0)))

theorem b_X11_drawnDeed_61 {d : Nat} {Q : Option am_V → am_H → Prop} (h : am_H) (x1 : Int32) (l0 : Option am_V) : ex_ d 188 61 [l0, some (v_i x1)] [] h Q ↔ Q (some (v_i ((300 : Int32) + (x1 - x1 / (100 : Int32) * (100 : Int32))))) h := by
  unfold ex_
  refine (am_Y_go 5 (ok := [¬ (100 : Int32) = 0]) (g := (69, [l0, some (v_i x1)], [v_i ((300 : Int32) + (x1 - x1 / (100 : Int32) * (100 : Int32)))], h)) rfl).trans ?_
  simp only [am_all]
  all_goals exact cj_d (by decide) (((am_Y_ret rfl rfl rfl).trans (am_r0)))

theorem b_X11_day_0 {d : Nat} {Q : Option am_V → am_H → Prop} (h : am_H) (x2 : Int32) (l0 l1 l3 l4 l5 l6 : Option am_V) : ex_ d 189 0 [l0, l1, some (v_i x2), l3, l4, l5, l6] [] h Q ↔ if x2 < (1 : Int32) then ex_ d 189 11 [l0, l1, some (v_i x2), l3, l4, l5, l6] [] h Q else ex_ d 189 5 [l0, l1, some (v_i x2), l3, l4, l5, l6] [] h Q := by
  unfold ex_
  refine (am_Y_go 3 (ok := []) (g := (if x2 < (1 : Int32) then 11 else 5, [l0, l1, some (v_i x2), l3, l4, l5, l6], [], h)) rfl).trans ?_
  all_goals exact am_Y_if

theorem b_X11_day_11 {d : Nat} {Q : Option am_V → am_H → Prop} (h : am_H) (l0 l1 l2 l3 l4 l5 l6 : Option am_V) : ex_ d 189 11 [l0, l1, l2, l3, l4, l5, l6] [] h Q ↔ Q (some (v_i (-3 : Int32))) h := by
  unfold ex_
  refine (am_Y_go 1 (ok := []) (g := (13, [l0, l1, l2, l3, l4, l5, l6], [v_i (-3 : Int32)], h)) rfl).trans ?_
  all_goals exact ((am_Y_ret rfl rfl rfl).trans (am_r0))

theorem b_X11_day_5 {d : Nat} {Q : Option am_V → am_H → Prop} (h : am_H) (x2 : Int32) (l0 l1 l3 l4 l5 l6 : Option am_V) : ex_ d 189 5 [l0, l1, some (v_i x2), l3, l4, l5, l6] [] h Q ↔ if x2 ≤ (40 : Int32) then ex_ d 189 14 [l0, l1, some (v_i x2), l3, l4, l5, l6] [] h Q else ex_ d 189 11 [l0, l1, some (v_i x2), l3, l4, l5, l6] [] h Q := by
  unfold ex_
  refine (am_Y_go 3 (ok := []) (g := (if x2 ≤ (40 : Int32) then 14 else 11, [l0, l1, some (v_i x2), l3, l4, l5, l6], [], h)) rfl).trans ?_
  all_goals exact am_Y_if

theorem b_X11_day_14 {d : Nat} {Q : Option am_V → am_H → Prop} (h : am_H) (l1 l2 l3 l4 l5 l6 : Option am_V) (Lh : Lay h) : ex_ (d + 1) 189 14 [some (v_r (some 0)), l1, l2, l3, l4, l5, l6] [] h Q ↔ ex_ d 28 0 [some (v_r (some 27)), some (v_r (some 11))] [] h (fun r h' => ex_ (d + 1) 189 28 [some (v_r (some 0)), l1, l2, l3, l4, l5, l6] (r.toList ++ []) h' Q) := by
  have e0 : h_r h 0 8 = some 27 := la_r Lh (q := (0, 8, 27)) (by decide)
  have e1 : h_r h 0 5 = some 10 := la_r Lh (q := (0, 5, 10)) (by decide)
  have e2 : h_r h 10 0 = some 11 := la_r Lh (q := (10, 0, 11)) (by decide)
  unfold ex_
  refine (am_Y_go 5 (ok := [am_is h (some 0) 11, am_is h (some 0) 11, am_is h ((h_r h 0 5)) 2]) (g := (25, [some (v_r (some 0)), l1, l2, l3, l4, l5, l6], [v_r ((h_r h ((h_r h 0 5).getD 0) 0)), v_r ((h_r h 0 8))], h)) rfl).trans ?_
  simp only [e0, e1, e2, Option.getD_some, am_all]
  all_goals exact cj_d (la_is Lh (o := 0) rfl) (cj_d (la_is Lh (o := 0) rfl) (cj_d (la_is Lh (o := 10) rfl) (((am_Y_call (j := 28) (na := 2) (ci := 1) (fl := 0) rfl rfl rfl).trans (cj_d ⟨⟨Nat.le_of_ble_eq_true rfl, Nat.le_of_ble_eq_true rfl, Nat.le_of_ble_eq_true rfl, rfl⟩, Or.inr (Or.inr (show (1 : Nat) < 20 ∧ am_is h (some 27) 1 from ⟨by decide, (la_is Lh (o := 27) rfl)⟩))⟩ Iff.rfl)))))

theorem b_X11_day_28 {d : Nat} {Q : Option am_V → am_H → Prop} (h : am_H) (x1 : Int32) (l0 l2 l3 l4 l5 l6 : Option am_V) : ex_ d 189 28 [l0, some (v_i x1), l2, l3, l4, l5, l6] [] h Q ↔ ex_ d 189 36 [l0, some (v_i x1), l2, some (v_i x1), some (v_i (0 : Int32)), some (v_i (0 : Int32)), l6] [] h Q := by
  unfold ex_
  refine (am_Y_go 6 (ok := []) (g := (36, [l0, some (v_i x1), l2, some (v_i x1), some (v_i (0 : Int32)), some (v_i (0 : Int32)), l6], [], h)) rfl).trans ?_
  all_goals exact Iff.rfl

theorem b_X11_day_36 {d : Nat} {Q : Option am_V → am_H → Prop} (h : am_H) (x5 : Int32) (x2 : Int32) (l0 l1 l3 l4 l6 : Option am_V) : ex_ d 189 36 [l0, l1, some (v_i x2), l3, l4, some (v_i x5), l6] [] h Q ↔ if x2 ≤ x5 then ex_ d 189 90 [l0, l1, some (v_i x2), l3, l4, some (v_i x5), l6] [] h Q else ex_ d 189 42 [l0, l1, some (v_i x2), l3, l4, some (v_i x5), l6] [] h Q := by
  unfold ex_
  refine (am_Y_go 3 (ok := []) (g := (if x2 ≤ x5 then 90 else 42, [l0, l1, some (v_i x2), l3, l4, some (v_i x5), l6], [], h)) rfl).trans ?_
  all_goals exact am_Y_if

theorem b_X11_day_90 {d : Nat} {Q : Option am_V → am_H → Prop} (h : am_H) (x4 : Int32) (l0 l1 l2 l3 l5 l6 : Option am_V) : ex_ d 189 90 [l0, l1, l2, l3, some (v_i x4), l5, l6] [] h Q ↔ if x4 ≤ 0 then ex_ d 189 99 [l0, l1, l2, l3, some (v_i x4), l5, l6] [] h Q else ex_ d 189 95 [l0, l1, l2, l3, some (v_i x4), l5, l6] [] h Q := by
  unfold ex_
  refine (am_Y_go 2 (ok := []) (g := (if x4 ≤ 0 then 99 else 95, [l0, l1, l2, l3, some (v_i x4), l5, l6], [], h)) rfl).trans ?_
  all_goals exact am_Y_if

theorem b_X11_day_42 {d : Nat} {Q : Option am_V → am_H → Prop} (h : am_H) (x3 : Int32) (l0 l1 l2 l4 l5 l6 : Option am_V) : ex_ (d + 1) 189 42 [l0, l1, l2, some (v_i x3), l4, l5, l6] [] h Q ↔ ex_ d 187 0 [some (v_i x3)] [] h (fun r h' => ex_ (d + 1) 189 46 [l0, l1, l2, some (v_i x3), l4, l5, l6] (r.toList ++ []) h' Q) := by
  unfold ex_
  refine (am_Y_go 1 (ok := []) (g := (43, [l0, l1, l2, some (v_i x3), l4, l5, l6], [v_i x3], h)) rfl).trans ?_
  all_goals exact ((am_Y_call (j := 187) (na := 1) (ci := 11) (fl := 2) rfl rfl rfl).trans (cj_d ⟨⟨Nat.le_of_ble_eq_true rfl, Nat.le_of_ble_eq_true rfl, Nat.le_of_ble_eq_true rfl, rfl⟩, Or.inl rfl⟩ Iff.rfl))

theorem b_X11_day_99 {d : Nat} {Q : Option am_V → am_H → Prop} (h : am_H) (x4 : Int32) (l0 l1 l2 l3 l5 l6 : Option am_V) : ex_ d 189 99 [l0, l1, l2, l3, some (v_i x4), l5, l6] [] h Q ↔ Q (some (v_i x4)) h := by
  unfold ex_
  refine (am_Y_go 1 (ok := []) (g := (101, [l0, l1, l2, l3, some (v_i x4), l5, l6], [v_i x4], h)) rfl).trans ?_
  all_goals exact ((am_Y_ret rfl rfl rfl).trans (am_r0))

theorem b_X11_day_95 {d : Nat} {Q : Option am_V → am_H → Prop} (h : am_H) (l1 l2 l3 l4 l5 l6 : Option am_V) (Lh : Lay h) : ex_ (d + 1) 189 95 [some (v_r (some 0)), l1, l2, l3, l4, l5, l6] [] h Q ↔ ex_ d 174 0 [some (v_r (some 0))] [] h (fun r h' => ex_ (d + 1) 189 99 [some (v_r (some 0)), l1, l2, l3, l4, l5, l6] (r.toList ++ []) h' Q) := by
  unfold ex_
  refine (am_Y_go 1 (ok := []) (g := (96, [some (v_r (some 0)), l1, l2, l3, l4, l5, l6], [v_r (some 0)], h)) rfl).trans ?_
  all_goals exact ((am_Y_call (j := 174) (na := 1) (ci := 11) (fl := 0) rfl rfl rfl).trans (cj_d ⟨⟨Nat.le_of_ble_eq_true rfl, Nat.le_of_ble_eq_true rfl, Nat.le_of_ble_eq_true rfl, rfl⟩, Or.inr (Or.inr (show (11 : Nat) < 20 ∧ am_is h (some 0) 11 from ⟨by decide, (la_is Lh (o := 0) rfl)⟩))⟩ Iff.rfl))

theorem b_X11_day_46 {d : Nat} {Q : Option am_V → am_H → Prop} (h : am_H) (s0 : Int32) (l0 l1 l2 l3 l4 l5 l6 : Option am_V) : ex_ (d + 1) 189 46 [l0, l1, l2, l3, l4, l5, l6] [v_i s0] h Q ↔ ex_ d 187 0 [some (v_i s0)] [] h (fun r h' => ex_ (d + 1) 189 60 [l0, l1, l2, some (v_i s0), l4, l5, some (v_i ((((s0).toUInt32 >>> (((16 : Int32)).toUInt32 &&& Int32.toUInt32 31)).toInt32) - (((s0).toUInt32 >>> (((16 : Int32)).toUInt32 &&& Int32.toUInt32 31)).toInt32) / (6 : Int32) * (6 : Int32)))] (r.toList ++ []) h' Q) := by
  unfold ex_
  refine (am_Y_go 8 (ok := [¬ (6 : Int32) = 0]) (g := (57, [l0, l1, l2, some (v_i s0), l4, l5, some (v_i ((((s0).toUInt32 >>> (((16 : Int32)).toUInt32 &&& Int32.toUInt32 31)).toInt32) - (((s0).toUInt32 >>> (((16 : Int32)).toUInt32 &&& Int32.toUInt32 31)).toInt32) / (6 : Int32) * (6 : Int32)))], [v_i s0], h)) rfl).trans ?_
  simp only [am_all]
  all_goals exact cj_d (by decide) (((am_Y_call (j := 187) (na := 1) (ci := 11) (fl := 2) rfl rfl rfl).trans (cj_d ⟨⟨Nat.le_of_ble_eq_true rfl, Nat.le_of_ble_eq_true rfl, Nat.le_of_ble_eq_true rfl, rfl⟩, Or.inl rfl⟩ Iff.rfl)))

theorem b_X11_day_60 {d : Nat} {Q : Option am_V → am_H → Prop} (h : am_H) (s0 : Int32) (x6 : Int32) (l1 l2 l3 l4 l5 : Option am_V) (Lh : Lay h) : ex_ (d + 1) 189 60 [some (v_r (some 0)), l1, l2, l3, l4, l5, some (v_i x6)] [v_i s0] h Q ↔ ex_ d 188 0 [some (v_i x6), some (v_i (((s0).toUInt32 >>> (((16 : Int32)).toUInt32 &&& Int32.toUInt32 31)).toInt32))] [] h (fun r h' => ex_ (d + 1) 189 74 [some (v_r (some 0)), l1, l2, some (v_i s0), l4, l5, some (v_i x6)] (r.toList ++ [v_r (some 27)]) h' Q) := by
  have e0 : h_r h 0 8 = some 27 := la_r Lh (q := (0, 8, 27)) (by decide)
  unfold ex_
  refine (am_Y_go 7 (ok := [am_is h (some 0) 11]) (g := (71, [some (v_r (some 0)), l1, l2, some (v_i s0), l4, l5, some (v_i x6)], [v_i (((s0).toUInt32 >>> (((16 : Int32)).toUInt32 &&& Int32.toUInt32 31)).toInt32), v_i x6, v_r ((h_r h 0 8))], h)) rfl).trans ?_
  simp only [e0, Option.getD_some, am_all]
  all_goals exact cj_d (la_is Lh (o := 0) rfl) (((am_Y_call (j := 188) (na := 2) (ci := 11) (fl := 2) rfl rfl rfl).trans (cj_d ⟨⟨Nat.le_of_ble_eq_true rfl, Nat.le_of_ble_eq_true rfl, Nat.le_of_ble_eq_true rfl, rfl⟩, Or.inl rfl⟩ Iff.rfl)))

theorem b_X11_day_74 {d : Nat} {Q : Option am_V → am_H → Prop} (h : am_H) (s0 : Int32) (t1 : Nat) (l0 l1 l2 l3 l4 l5 l6 : Option am_V) (F_t1 : y_Facts h t1) : ex_ (d + 1) 189 74 [l0, l1, l2, l3, l4, l5, l6] [v_i s0, v_r (some t1)] h Q ↔ ex_ d 41 0 [some (v_r (some t1)), some (v_l (Int32.toInt64 s0)), none, none, none] [] h (fun r h' => ex_ (d + 1) 189 78 [l0, l1, l2, l3, l4, l5, l6] (r.toList ++ []) h' Q) := by
  unfold ex_
  refine (am_Y_go 1 (ok := []) (g := (75, [l0, l1, l2, l3, l4, l5, l6], [v_l (Int32.toInt64 s0), v_r (some t1)], h)) rfl).trans ?_
  all_goals exact ((am_Y_call (j := 41) (na := 2) (ci := 1) (fl := 0) rfl rfl rfl).trans (cj_d ⟨⟨Nat.le_of_ble_eq_true rfl, Nat.le_of_ble_eq_true rfl, Nat.le_of_ble_eq_true rfl, rfl⟩, Or.inr (Or.inr (show (1 : Nat) < 20 ∧ am_is h (some t1) 1 from ⟨by decide, (lr_is (F_t1.1 0 rfl))⟩))⟩ Iff.rfl))

theorem b_X11_day_78 {d : Nat} {Q : Option am_V → am_H → Prop} (h : am_H) (s0 : Int32) (l0 l1 l2 l3 l4 l5 l6 : Option am_V) : ex_ d 189 78 [l0, l1, l2, l3, l4, l5, l6] [v_i s0] h Q ↔ if ¬ s0 = 0 then ex_ d 189 84 [l0, l1, l2, l3, l4, l5, l6] [] h Q else ex_ d 189 81 [l0, l1, l2, l3, l4, l5, l6] [] h Q := by
  unfold ex_
  refine (am_Y_go 1 (ok := []) (g := (if ¬ s0 = 0 then 84 else 81, [l0, l1, l2, l3, l4, l5, l6], [], h)) rfl).trans ?_
  all_goals exact am_Y_if

theorem b_X11_day_84 {d : Nat} {Q : Option am_V → am_H → Prop} (h : am_H) (x5 : Int32) (l0 l1 l2 l3 l4 l6 : Option am_V) : ex_ d 189 84 [l0, l1, l2, l3, l4, some (v_i x5), l6] [] h Q ↔ ex_ d 189 36 [l0, l1, l2, l3, l4, some (v_i (x5 + (1 : Int32))), l6] [] h Q := by
  unfold ex_
  refine (am_Y_go 2 (ok := []) (g := (36, [l0, l1, l2, l3, l4, some (v_i (x5 + (1 : Int32))), l6], [], h)) rfl).trans ?_
  all_goals exact Iff.rfl

theorem b_X11_day_81 {d : Nat} {Q : Option am_V → am_H → Prop} (h : am_H) (x4 : Int32) (x5 : Int32) (l0 l1 l2 l3 l6 : Option am_V) : ex_ d 189 81 [l0, l1, l2, l3, some (v_i x4), some (v_i x5), l6] [] h Q ↔ ex_ d 189 36 [l0, l1, l2, l3, some (v_i (x4 + (1 : Int32))), some (v_i (x5 + (1 : Int32))), l6] [] h Q := by
  unfold ex_
  refine (am_Y_go 3 (ok := []) (g := (36, [l0, l1, l2, l3, some (v_i (x4 + (1 : Int32))), some (v_i (x5 + (1 : Int32))), l6], [], h)) rfl).trans ?_
  all_goals exact Iff.rfl

theorem b_X11_demandsCode_0 {d : Nat} {Q : Option am_V → am_H → Prop} (h : am_H) (x1 : Int32) (Lh : Lay h) : ex_ (d + 1) 190 0 [some (v_r (some 0)), some (v_i x1)] [] h Q ↔ ex_ d 3 0 [some (v_r (some 11)), some (v_i x1)] [] h (fun r h' => ex_ (d + 1) 190 11 [some (v_r (some 0)), some (v_i x1)] (r.toList ++ []) h' Q) := by
  have e0 : h_r h 0 5 = some 10 := la_r Lh (q := (0, 5, 10)) (by decide)
  have e1 : h_r h 10 0 = some 11 := la_r Lh (q := (10, 0, 11)) (by decide)
  unfold ex_
  refine (am_Y_go 4 (ok := [am_is h (some 0) 11, am_is h ((h_r h 0 5)) 2]) (g := (8, [some (v_r (some 0)), some (v_i x1)], [v_i x1, v_r ((h_r h ((h_r h 0 5).getD 0) 0))], h)) rfl).trans ?_
  simp only [e0, e1, Option.getD_some, am_all]
  all_goals exact cj_d (la_is Lh (o := 0) rfl) (cj_d (la_is Lh (o := 10) rfl) (((am_Y_call (j := 3) (na := 2) (ci := 1) (fl := 0) rfl rfl rfl).trans (cj_d ⟨⟨Nat.le_of_ble_eq_true rfl, Nat.le_of_ble_eq_true rfl, Nat.le_of_ble_eq_true rfl, rfl⟩, Or.inr (Or.inr (show (1 : Nat) < 20 ∧ am_is h (some 11) 1 from ⟨by decide, (la_is Lh (o := 11) rfl)⟩))⟩ Iff.rfl))))

theorem b_X11_demandsCode_11 {d : Nat} {Q : Option am_V → am_H → Prop} (h : am_H) (s0 : Int32) (l0 l1 : Option am_V) : ex_ d 190 11 [l0, l1] [v_i s0] h Q ↔ if ¬ s0 = 0 then ex_ d 190 17 [l0, l1] [] h Q else ex_ d 190 14 [l0, l1] [] h Q := by
  unfold ex_
  refine (am_Y_go 1 (ok := []) (g := (if ¬ s0 = 0 then 17 else 14, [l0, l1], [], h)) rfl).trans ?_
  all_goals exact am_Y_if

theorem b_X11_demandsCode_17 {d : Nat} {Q : Option am_V → am_H → Prop} (h : am_H) (x1 : Int32) (Lh : Lay h) : ex_ (d + 1) 190 17 [some (v_r (some 0)), some (v_i x1)] [] h Q ↔ ex_ d 71 0 [some (v_r (some 15)), some (v_i x1)] [] h (fun r h' => ex_ (d + 1) 190 25 [some (v_r (some 0)), some (v_i x1)] (r.toList ++ []) h' Q) := by
  have e0 : h_r h 0 6 = some 15 := la_r Lh (q := (0, 6, 15)) (by decide)
  unfold ex_
  refine (am_Y_go 3 (ok := [am_is h (some 0) 11]) (g := (22, [some (v_r (some 0)), some (v_i x1)], [v_i x1, v_r ((h_r h 0 6))], h)) rfl).trans ?_
  simp only [e0, Option.getD_some, am_all]
  all_goals exact cj_d (la_is Lh (o := 0) rfl) (((am_Y_call (j := 71) (na := 2) (ci := 6) (fl := 0) rfl rfl rfl).trans (cj_d ⟨⟨Nat.le_of_ble_eq_true rfl, Nat.le_of_ble_eq_true rfl, Nat.le_of_ble_eq_true rfl, rfl⟩, Or.inr (Or.inr (show (6 : Nat) < 20 ∧ am_is h (some 15) 6 from ⟨by decide, (la_is Lh (o := 15) rfl)⟩))⟩ Iff.rfl)))

theorem b_X11_demandsCode_14 {d : Nat} {Q : Option am_V → am_H → Prop} (h : am_H) (l0 l1 : Option am_V) : ex_ d 190 14 [l0, l1] [] h Q ↔ Q (some (v_i (-2 : Int32))) h := by
  unfold ex_
  refine (am_Y_go 1 (ok := []) (g := (16, [l0, l1], [v_i (-2 : Int32)], h)) rfl).trans ?_
  all_goals exact ((am_Y_ret rfl rfl rfl).trans (am_r0))

theorem b_X11_demandsCode_25 {d : Nat} {Q : Option am_V → am_H → Prop} (h : am_H) (s0 : Int32) (l0 l1 : Option am_V) : ex_ d 190 25 [l0, l1] [v_i s0] h Q ↔ if ¬ s0 = (2 : Int32) then ex_ d 190 33 [l0, l1] [] h Q else ex_ d 190 29 [l0, l1] [] h Q := by
  unfold ex_
  refine (am_Y_go 2 (ok := []) (g := (if ¬ s0 = (2 : Int32) then 33 else 29, [l0, l1], [], h)) rfl).trans ?_
  all_goals exact am_Y_if

theorem b_X11_demandsCode_33 {d : Nat} {Q : Option am_V → am_H → Prop} (h : am_H) (l0 l1 : Option am_V) : ex_ d 190 33 [l0, l1] [] h Q ↔ Q (some (v_i (0 : Int32))) h := by
  unfold ex_
  refine (am_Y_go 1 (ok := []) (g := (34, [l0, l1], [v_i (0 : Int32)], h)) rfl).trans ?_
  all_goals exact ((am_Y_ret rfl rfl rfl).trans (am_r0))

theorem b_X11_demandsCode_29 {d : Nat} {Q : Option am_V → am_H → Prop} (h : am_H) (l0 l1 : Option am_V) : ex_ d 190 29 [l0, l1] [] h Q ↔ Q (some (v_i (-1 : Int32))) h := by
  unfold ex_
  refine (am_Y_go 2 (ok := []) (g := (34, [l0, l1], [v_i (-1 : Int32)], h)) rfl).trans ?_
  all_goals exact ((am_Y_ret rfl rfl rfl).trans (am_r0))

theorem b_X11_demands_0 {d : Nat} {Q : Option am_V → am_H → Prop} (h : am_H) (x1 : Int32) (l2 : Option am_V) (Lh : Lay h) : ex_ (d + 1) 191 0 [some (v_r (some 0)), some (v_i x1), l2] [] h Q ↔ ex_ d 190 0 [some (v_r (some 0)), some (v_i x1)] [] h (fun r h' => ex_ (d + 1) 191 5 [some (v_r (some 0)), some (v_i x1), l2] (r.toList ++ []) h' Q) := by
  unfold ex_
  refine (am_Y_go 2 (ok := []) (g := (2, [some (v_r (some 0)), some (v_i x1), l2], [v_i x1, v_r (some 0)], h)) rfl).trans ?_
  all_goals exact ((am_Y_call (j := 190) (na := 2) (ci := 11) (fl := 0) rfl rfl rfl).trans (cj_d ⟨⟨Nat.le_of_ble_eq_true rfl, Nat.le_of_ble_eq_true rfl, Nat.le_of_ble_eq_true rfl, rfl⟩, Or.inr (Or.inr (show (11 : Nat) < 20 ∧ am_is h (some 0) 11 from ⟨by decide, (la_is Lh (o := 0) rfl)⟩))⟩ Iff.rfl))

theorem b_X11_demands_5 {d : Nat} {Q : Option am_V → am_H → Prop} (h : am_H) (s0 : Int32) (l0 l1 l2 : Option am_V) : ex_ d 191 5 [l0, l1, l2] [v_i s0] h Q ↔ if s0 = 0 then ex_ d 191 12 [l0, l1, some (v_i s0)] [] h Q else ex_ d 191 10 [l0, l1, some (v_i s0)] [] h Q := by
  unfold ex_
  refine (am_Y_go 3 (ok := []) (g := (if s0 = 0 then 12 else 10, [l0, l1, some (v_i s0)], [], h)) rfl).trans ?_
  all_goals exact am_Y_if

theorem b_X11_demands_12 {d : Nat} {Q : Option am_V → am_H → Prop} (h : am_H) (x1 : Int32) (l2 : Option am_V) (Lh : Lay h) : ex_ (d + 1) 191 12 [some (v_r (some 0)), some (v_i x1), l2] [] h Q ↔ ex_ d 12 0 [some (v_r (some 41)), some (v_i x1), none, none, none, none] [] h (fun r h' => ex_ (d + 1) 191 20 [some (v_r (some 0)), some (v_i x1), l2] (r.toList ++ []) h' Q) := by
  have e0 : h_r h 0 10 = some 41 := la_r Lh (q := (0, 10, 41)) (by decide)
  unfold ex_
  refine (am_Y_go 3 (ok := [am_is h (some 0) 11]) (g := (17, [some (v_r (some 0)), some (v_i x1), l2], [v_i x1, v_r ((h_r h 0 10))], h)) rfl).trans ?_
  simp only [e0, Option.getD_some, am_all]
  all_goals exact cj_d (la_is Lh (o := 0) rfl) (((am_Y_call (j := 12) (na := 2) (ci := 0) (fl := 0) rfl rfl rfl).trans (cj_d ⟨⟨Nat.le_of_ble_eq_true rfl, Nat.le_of_ble_eq_true rfl, Nat.le_of_ble_eq_true rfl, rfl⟩, Or.inr (Or.inr (show (0 : Nat) < 20 ∧ am_is h (some 41) 0 from ⟨by decide, (la_is Lh (o := 41) rfl)⟩))⟩ Iff.rfl)))

theorem b_X11_demands_10 {d : Nat} {Q : Option am_V → am_H → Prop} (h : am_H) (x2 : Int32) (l0 l1 : Option am_V) : ex_ d 191 10 [l0, l1, some (v_i x2)] [] h Q ↔ Q (some (v_i x2)) h := by
  unfold ex_
  refine (am_Y_go 1 (ok := []) (g := (11, [l0, l1, some (v_i x2)], [v_i x2], h)) rfl).trans ?_
  all_goals exact ((am_Y_ret rfl rfl rfl).trans (am_r0))

theorem b_X11_demands_20 {d : Nat} {Q : Option am_V → am_H → Prop} (h : am_H) (l1 l2 : Option am_V) (Lh : Lay h) : ex_ (d + 1) 191 20 [some (v_r (some 0)), l1, l2] [] h Q ↔ ex_ d 15 0 [some (v_r (some 41)), none, none, none, none, none] [] h (fun r h' => ex_ (d + 1) 191 27 [some (v_r (some 0)), l1, l2] (r.toList ++ []) h' Q) := by
  have e0 : h_r h 0 10 = some 41 := la_r Lh (q := (0, 10, 41)) (by decide)
  unfold ex_
  refine (am_Y_go 2 (ok := [am_is h (some 0) 11]) (g := (24, [some (v_r (some 0)), l1, l2], [v_r ((h_r h 0 10))], h)) rfl).trans ?_
  simp only [e0, Option.getD_some, am_all]
  all_goals exact cj_d (la_is Lh (o := 0) rfl) (((am_Y_call (j := 15) (na := 1) (ci := 0) (fl := 0) rfl rfl rfl).trans (cj_d ⟨⟨Nat.le_of_ble_eq_true rfl, Nat.le_of_ble_eq_true rfl, Nat.le_of_ble_eq_true rfl, rfl⟩, Or.inr (Or.inr (show (0 : Nat) < 20 ∧ am_is h (some 41) 0 from ⟨by decide, (la_is Lh (o := 41) rfl)⟩))⟩ Iff.rfl)))

theorem b_X11_demands_27 {d : Nat} {Q : Option am_V → am_H → Prop} (h : am_H) (s0 : Int32) (l0 l1 l2 : Option am_V) : ex_ d 191 27 [l0, l1, l2] [v_i s0] h Q ↔ Q (some (v_i s0)) h := by
  unfold ex_
  exact ((am_Y_ret rfl rfl rfl).trans (am_r0))

theorem b_X11_demand_0 {d : Nat} {Q : Option am_V → am_H → Prop} (h : am_H) (x1 : Int32) (l2 l3 : Option am_V) (Lh : Lay h) : ex_ (d + 1) 192 0 [some (v_r (some 0)), some (v_i x1), l2, l3] [] h Q ↔ ex_ d 190 0 [some (v_r (some 0)), some (v_i x1)] [] h (fun r h' => ex_ (d + 1) 192 5 [some (v_r (some 0)), some (v_i x1), l2, l3] (r.toList ++ []) h' Q) := by
  unfold ex_
  refine (am_Y_go 2 (ok := []) (g := (2, [some (v_r (some 0)), some (v_i x1), l2, l3], [v_i x1, v_r (some 0)], h)) rfl).trans ?_
  all_goals exact ((am_Y_call (j := 190) (na := 2) (ci := 11) (fl := 0) rfl rfl rfl).trans (cj_d ⟨⟨Nat.le_of_ble_eq_true rfl, Nat.le_of_ble_eq_true rfl, Nat.le_of_ble_eq_true rfl, rfl⟩, Or.inr (Or.inr (show (11 : Nat) < 20 ∧ am_is h (some 0) 11 from ⟨by decide, (la_is Lh (o := 0) rfl)⟩))⟩ Iff.rfl))

theorem b_X11_demand_5 {d : Nat} {Q : Option am_V → am_H → Prop} (h : am_H) (s0 : Int32) (l0 l1 l2 l3 : Option am_V) : ex_ d 192 5 [l0, l1, l2, l3] [v_i s0] h Q ↔ if s0 = (-2 : Int32) then ex_ d 192 19 [l0, l1, l2, some (v_i s0)] [] h Q else ex_ d 192 12 [l0, l1, l2, some (v_i s0)] [] h Q := by
  unfold ex_
  refine (am_Y_go 4 (ok := []) (g := (if s0 = (-2 : Int32) then 19 else 12, [l0, l1, l2, some (v_i s0)], [], h)) rfl).trans ?_
  all_goals exact am_Y_if

theorem b_X11_demand_19 {d : Nat} {Q : Option am_V → am_H → Prop} (h : am_H) (x3 : Int32) (l0 l1 l2 : Option am_V) : ex_ d 192 19 [l0, l1, l2, some (v_i x3)] [] h Q ↔ if x3 = 0 then ex_ d 192 25 [l0, l1, l2, some (v_i x3)] [] h Q else ex_ d 192 23 [l0, l1, l2, some (v_i x3)] [] h Q := by
  unfold ex_
  refine (am_Y_go 2 (ok := []) (g := (if x3 = 0 then 25 else 23, [l0, l1, l2, some (v_i x3)], [], h)) rfl).trans ?_
  all_goals exact am_Y_if

theorem b_X11_demand_12 {d : Nat} {Q : Option am_V → am_H → Prop} (h : am_H) (x2 : Int32) (l0 l1 l3 : Option am_V) : ex_ d 192 12 [l0, l1, some (v_i x2), l3] [] h Q ↔ if 0 ≤ x2 then ex_ d 192 19 [l0, l1, some (v_i x2), l3] [] h Q else ex_ d 192 16 [l0, l1, some (v_i x2), l3] [] h Q := by
  unfold ex_
  refine (am_Y_go 2 (ok := []) (g := (if 0 ≤ x2 then 19 else 16, [l0, l1, some (v_i x2), l3], [], h)) rfl).trans ?_
  all_goals exact am_Y_if

theorem b_X11_demand_25 {d : Nat} {Q : Option am_V → am_H → Prop} (h : am_H) (x1 : Int32) (l2 l3 : Option am_V) (Lh : Lay h) : ex_ (d + 1) 192 25 [some (v_r (some 0)), some (v_i x1), l2, l3] [] h Q ↔ ex_ d 12 0 [some (v_r (some 41)), some (v_i x1), none, none, none, none] [] h (fun r h' => ex_ (d + 1) 192 33 [some (v_r (some 0)), some (v_i x1), l2, l3] (r.toList ++ []) h' Q) := by
  have e0 : h_r h 0 10 = some 41 := la_r Lh (q := (0, 10, 41)) (by decide)
  unfold ex_
  refine (am_Y_go 3 (ok := [am_is h (some 0) 11]) (g := (30, [some (v_r (some 0)), some (v_i x1), l2, l3], [v_i x1, v_r ((h_r h 0 10))], h)) rfl).trans ?_
  simp only [e0, Option.getD_some, am_all]
  all_goals exact cj_d (la_is Lh (o := 0) rfl) (((am_Y_call (j := 12) (na := 2) (ci := 0) (fl := 0) rfl rfl rfl).trans (cj_d ⟨⟨Nat.le_of_ble_eq_true rfl, Nat.le_of_ble_eq_true rfl, Nat.le_of_ble_eq_true rfl, rfl⟩, Or.inr (Or.inr (show (0 : Nat) < 20 ∧ am_is h (some 41) 0 from ⟨by decide, (la_is Lh (o := 41) rfl)⟩))⟩ Iff.rfl)))

theorem b_X11_demand_23 {d : Nat} {Q : Option am_V → am_H → Prop} (h : am_H) (x3 : Int32) (l0 l1 l2 : Option am_V) : ex_ d 192 23 [l0, l1, l2, some (v_i x3)] [] h Q ↔ Q (some (v_i x3)) h := by
  unfold ex_
  refine (am_Y_go 1 (ok := []) (g := (24, [l0, l1, l2, some (v_i x3)], [v_i x3], h)) rfl).trans ?_
  all_goals exact ((am_Y_ret rfl rfl rfl).trans (am_r0))

theorem b_X11_demand_16 {d : Nat} {Q : Option am_V → am_H → Prop} (h : am_H) (l0 l1 l2 l3 : Option am_V) : ex_ d 192 16 [l0, l1, l2, l3] [] h Q ↔ Q (some (v_i (-3 : Int32))) h := by
  unfold ex_
  refine (am_Y_go 1 (ok := []) (g := (18, [l0, l1, l2, l3], [v_i (-3 : Int32)], h)) rfl).trans ?_
  all_goals exact ((am_Y_ret rfl rfl rfl).trans (am_r0))

theorem b_X11_demand_33 {d : Nat} {Q : Option am_V → am_H → Prop} (h : am_H) (x2 : Int32) (l1 l3 : Option am_V) (Lh : Lay h) : ex_ (d + 1) 192 33 [some (v_r (some 0)), l1, some (v_i x2), l3] [] h Q ↔ ex_ d 16 0 [some (v_r (some 41)), some (v_i x2), none, none] [] h (fun r h' => ex_ (d + 1) 192 41 [some (v_r (some 0)), l1, some (v_i x2), l3] (r.toList ++ []) h' Q) := by
  have e0 : h_r h 0 10 = some 41 := la_r Lh (q := (0, 10, 41)) (by decide)
  unfold ex_
  refine (am_Y_go 3 (ok := [am_is h (some 0) 11]) (g := (38, [some (v_r (some 0)), l1, some (v_i x2), l3], [v_i x2, v_r ((h_r h 0 10))], h)) rfl).trans ?_
  simp only [e0, Option.getD_some, am_all]
  all_goals exact cj_d (la_is Lh (o := 0) rfl) (((am_Y_call (j := 16) (na := 2) (ci := 0) (fl := 0) rfl rfl rfl).trans (cj_d ⟨⟨Nat.le_of_ble_eq_true rfl, Nat.le_of_ble_eq_true rfl, Nat.le_of_ble_eq_true rfl, rfl⟩, Or.inr (Or.inr (show (0 : Nat) < 20 ∧ am_is h (some 41) 0 from ⟨by decide, (la_is Lh (o := 41) rfl)⟩))⟩ Iff.rfl)))

theorem b_X11_demand_41 {d : Nat} {Q : Option am_V → am_H → Prop} (h : am_H) (s0 : Int32) (l0 l1 l2 l3 : Option am_V) : ex_ d 192 41 [l0, l1, l2, l3] [v_i s0] h Q ↔ Q (some (v_i s0)) h := by
  unfold ex_
  exact ((am_Y_ret rfl rfl rfl).trans (am_r0))

theorem b_X11_ring_0 {d : Nat} {Q : Option am_V → am_H → Prop} (h : am_H) (x1 : Int32) (l2 l3 : Option am_V) (Lh : Lay h) : ex_ (d + 1) 193 0 [some (v_r (some 0)), some (v_i x1), l2, l3] [] h Q ↔ ex_ d 190 0 [some (v_r (some 0)), some (v_i x1)] [] h (fun r h' => ex_ (d + 1) 193 5 [some (v_r (some 0)), some (v_i x1), l2, l3] (r.toList ++ []) h' Q) := by
  unfold ex_
  refine (am_Y_go 2 (ok := []) (g := (2, [some (v_r (some 0)), some (v_i x1), l2, l3], [v_i x1, v_r (some 0)], h)) rfl).trans ?_
  all_goals exact ((am_Y_call (j := 190) (na := 2) (ci := 11) (fl := 0) rfl rfl rfl).trans (cj_d ⟨⟨Nat.le_of_ble_eq_true rfl, Nat.le_of_ble_eq_true rfl, Nat.le_of_ble_eq_true rfl, rfl⟩, Or.inr (Or.inr (show (11 : Nat) < 20 ∧ am_is h (some 0) 11 from ⟨by decide, (la_is Lh (o := 0) rfl)⟩))⟩ Iff.rfl))

theorem b_X11_ring_5 {d : Nat} {Q : Option am_V → am_H → Prop} (h : am_H) (s0 : Int32) (l0 l1 l2 l3 : Option am_V) : ex_ d 193 5 [l0, l1, l2, l3] [v_i s0] h Q ↔ if s0 = (-2 : Int32) then ex_ d 193 19 [l0, l1, l2, some (v_i s0)] [] h Q else ex_ d 193 12 [l0, l1, l2, some (v_i s0)] [] h Q := by
  unfold ex_
  refine (am_Y_go 4 (ok := []) (g := (if s0 = (-2 : Int32) then 19 else 12, [l0, l1, l2, some (v_i s0)], [], h)) rfl).trans ?_
  all_goals exact am_Y_if

theorem b_X11_ring_19 {d : Nat} {Q : Option am_V → am_H → Prop} (h : am_H) (x3 : Int32) (l0 l1 l2 : Option am_V) : ex_ d 193 19 [l0, l1, l2, some (v_i x3)] [] h Q ↔ if x3 = 0 then ex_ d 193 25 [l0, l1, l2, some (v_i x3)] [] h Q else ex_ d 193 23 [l0, l1, l2, some (v_i x3)] [] h Q := by
  unfold ex_
  refine (am_Y_go 2 (ok := []) (g := (if x3 = 0 then 25 else 23, [l0, l1, l2, some (v_i x3)], [], h)) rfl).trans ?_
  all_goals exact am_Y_if

theorem b_X11_ring_12 {d : Nat} {Q : Option am_V → am_H → Prop} (h : am_H) (x2 : Int32) (l0 l1 l3 : Option am_V) : ex_ d 193 12 [l0, l1, some (v_i x2), l3] [] h Q ↔ if 0 ≤ x2 then ex_ d 193 19 [l0, l1, some (v_i x2), l3] [] h Q else ex_ d 193 16 [l0, l1, some (v_i x2), l3] [] h Q := by
  unfold ex_
  refine (am_Y_go 2 (ok := []) (g := (if 0 ≤ x2 then 19 else 16, [l0, l1, some (v_i x2), l3], [], h)) rfl).trans ?_
  all_goals exact am_Y_if

theorem b_X11_ring_25 {d : Nat} {Q : Option am_V → am_H → Prop} (h : am_H) (x1 : Int32) (l2 l3 : Option am_V) (Lh : Lay h) : ex_ (d + 1) 193 25 [some (v_r (some 0)), some (v_i x1), l2, l3] [] h Q ↔ ex_ d 12 0 [some (v_r (some 41)), some (v_i x1), none, none, none, none] [] h (fun r h' => ex_ (d + 1) 193 33 [some (v_r (some 0)), some (v_i x1), l2, l3] (r.toList ++ []) h' Q) := by
  have e0 : h_r h 0 10 = some 41 := la_r Lh (q := (0, 10, 41)) (by decide)
  unfold ex_
  refine (am_Y_go 3 (ok := [am_is h (some 0) 11]) (g := (30, [some (v_r (some 0)), some (v_i x1), l2, l3], [v_i x1, v_r ((h_r h 0 10))], h)) rfl).trans ?_
  simp only [e0, Option.getD_some, am_all]
  all_goals exact cj_d (la_is Lh (o := 0) rfl) (((am_Y_call (j := 12) (na := 2) (ci := 0) (fl := 0) rfl rfl rfl).trans (cj_d ⟨⟨Nat.le_of_ble_eq_true rfl, Nat.le_of_ble_eq_true rfl, Nat.le_of_ble_eq_true rfl, rfl⟩, Or.inr (Or.inr (show (0 : Nat) < 20 ∧ am_is h (some 41) 0 from ⟨by decide, (la_is Lh (o := 41) rfl)⟩))⟩ Iff.rfl)))

theorem b_X11_ring_23 {d : Nat} {Q : Option am_V → am_H → Prop} (h : am_H) (x3 : Int32) (l0 l1 l2 : Option am_V) : ex_ d 193 23 [l0, l1, l2, some (v_i x3)] [] h Q ↔ Q (some (v_i x3)) h := by
  unfold ex_
  refine (am_Y_go 1 (ok := []) (g := (24, [l0, l1, l2, some (v_i x3)], [v_i x3], h)) rfl).trans ?_
  all_goals exact ((am_Y_ret rfl rfl rfl).trans (am_r0))

theorem b_X11_ring_16 {d : Nat} {Q : Option am_V → am_H → Prop} (h : am_H) (l0 l1 l2 l3 : Option am_V) : ex_ d 193 16 [l0, l1, l2, l3] [] h Q ↔ Q (some (v_i (-3 : Int32))) h := by
  unfold ex_
  refine (am_Y_go 1 (ok := []) (g := (18, [l0, l1, l2, l3], [v_i (-3 : Int32)], h)) rfl).trans ?_
  all_goals exact ((am_Y_ret rfl rfl rfl).trans (am_r0))

theorem b_X11_ring_33 {d : Nat} {Q : Option am_V → am_H → Prop} (h : am_H) (l1 l2 l3 : Option am_V) (Lh : Lay h) : ex_ (d + 1) 193 33 [some (v_r (some 0)), l1, l2, l3] [] h Q ↔ ex_ d 22 0 [some (v_r (some 41)), none, none, none, none] [] h (fun r h' => ex_ (d + 1) 193 40 [some (v_r (some 0)), l1, l2, l3] (r.toList ++ []) h' Q) := by
  have e0 : h_r h 0 10 = some 41 := la_r Lh (q := (0, 10, 41)) (by decide)
  unfold ex_
  refine (am_Y_go 2 (ok := [am_is h (some 0) 11]) (g := (37, [some (v_r (some 0)), l1, l2, l3], [v_r ((h_r h 0 10))], h)) rfl).trans ?_
  simp only [e0, Option.getD_some, am_all]
  all_goals exact cj_d (la_is Lh (o := 0) rfl) (((am_Y_call (j := 22) (na := 1) (ci := 0) (fl := 0) rfl rfl rfl).trans (cj_d ⟨⟨Nat.le_of_ble_eq_true rfl, Nat.le_of_ble_eq_true rfl, Nat.le_of_ble_eq_true rfl, rfl⟩, Or.inr (Or.inr (show (0 : Nat) < 20 ∧ am_is h (some 41) 0 from ⟨by decide, (la_is Lh (o := 41) rfl)⟩))⟩ Iff.rfl)))

theorem b_X11_ring_40 {d : Nat} {Q : Option am_V → am_H → Prop} (h : am_H) (x2 : Int32) (l1 l3 : Option am_V) (Lh : Lay h) : ex_ (d + 1) 193 40 [some (v_r (some 0)), l1, some (v_i x2), l3] [] h Q ↔ ex_ d 17 0 [some (v_r (some 41)), some (v_i x2)] [] h (fun r h' => ex_ (d + 1) 193 48 [some (v_r (some 0)), l1, some (v_i x2), l3] (r.toList ++ []) h' Q) := by
  have e0 : h_r h 0 10 = some 41 := la_r Lh (q := (0, 10, 41)) (by decide)
  unfold ex_
  refine (am_Y_go 3 (ok := [am_is h (some 0) 11]) (g := (45, [some (v_r (some 0)), l1, some (v_i x2), l3], [v_i x2, v_r ((h_r h 0 10))], h)) rfl).trans ?_
  simp only [e0, Option.getD_some, am_all]
  all_goals exact cj_d (la_is Lh (o := 0) rfl) (((am_Y_call (j := 17) (na := 2) (ci := 0) (fl := 0) rfl rfl rfl).trans (cj_d ⟨⟨Nat.le_of_ble_eq_true rfl, Nat.le_of_ble_eq_true rfl, Nat.le_of_ble_eq_true rfl, rfl⟩, Or.inr (Or.inr (show (0 : Nat) < 20 ∧ am_is h (some 41) 0 from ⟨by decide, (la_is Lh (o := 41) rfl)⟩))⟩ Iff.rfl)))

theorem b_X11_ring_48 {d : Nat} {Q : Option am_V → am_H → Prop} (h : am_H) (s0 : Int32) (l0 l1 l2 l3 : Option am_V) : ex_ d 193 48 [l0, l1, l2, l3] [v_i s0] h Q ↔ Q (some (v_i s0)) h := by
  unfold ex_
  exact ((am_Y_ret rfl rfl rfl).trans (am_r0))

theorem b_X11_ways_0 {d : Nat} {Q : Option am_V → am_H → Prop} (h : am_H) (x1 : Int32) (l2 : Option am_V) (Lh : Lay h) : ex_ (d + 1) 194 0 [some (v_r (some 0)), some (v_i x1), l2] [] h Q ↔ ex_ d 190 0 [some (v_r (some 0)), some (v_i x1)] [] h (fun r h' => ex_ (d + 1) 194 5 [some (v_r (some 0)), some (v_i x1), l2] (r.toList ++ []) h' Q) := by
  unfold ex_
  refine (am_Y_go 2 (ok := []) (g := (2, [some (v_r (some 0)), some (v_i x1), l2], [v_i x1, v_r (some 0)], h)) rfl).trans ?_
  all_goals exact ((am_Y_call (j := 190) (na := 2) (ci := 11) (fl := 0) rfl rfl rfl).trans (cj_d ⟨⟨Nat.le_of_ble_eq_true rfl, Nat.le_of_ble_eq_true rfl, Nat.le_of_ble_eq_true rfl, rfl⟩, Or.inr (Or.inr (show (11 : Nat) < 20 ∧ am_is h (some 0) 11 from ⟨by decide, (la_is Lh (o := 0) rfl)⟩))⟩ Iff.rfl))

theorem b_X11_ways_5 {d : Nat} {Q : Option am_V → am_H → Prop} (h : am_H) (s0 : Int32) (l0 l1 l2 : Option am_V) : ex_ d 194 5 [l0, l1, l2] [v_i s0] h Q ↔ if s0 = 0 then ex_ d 194 12 [l0, l1, some (v_i s0)] [] h Q else ex_ d 194 10 [l0, l1, some (v_i s0)] [] h Q := by
  unfold ex_
  refine (am_Y_go 3 (ok := []) (g := (if s0 = 0 then 12 else 10, [l0, l1, some (v_i s0)], [], h)) rfl).trans ?_
  all_goals exact am_Y_if

theorem b_X11_ways_12 {d : Nat} {Q : Option am_V → am_H → Prop} (h : am_H) (x1 : Int32) (l2 : Option am_V) (Lh : Lay h) : ex_ (d + 1) 194 12 [some (v_r (some 0)), some (v_i x1), l2] [] h Q ↔ ex_ d 12 0 [some (v_r (some 41)), some (v_i x1), none, none, none, none] [] h (fun r h' => ex_ (d + 1) 194 20 [some (v_r (some 0)), some (v_i x1), l2] (r.toList ++ []) h' Q) := by
  have e0 : h_r h 0 10 = some 41 := la_r Lh (q := (0, 10, 41)) (by decide)
  unfold ex_
  refine (am_Y_go 3 (ok := [am_is h (some 0) 11]) (g := (17, [some (v_r (some 0)), some (v_i x1), l2], [v_i x1, v_r ((h_r h 0 10))], h)) rfl).trans ?_
  simp only [e0, Option.getD_some, am_all]
  all_goals exact cj_d (la_is Lh (o := 0) rfl) (((am_Y_call (j := 12) (na := 2) (ci := 0) (fl := 0) rfl rfl rfl).trans (cj_d ⟨⟨Nat.le_of_ble_eq_true rfl, Nat.le_of_ble_eq_true rfl, Nat.le_of_ble_eq_true rfl, rfl⟩, Or.inr (Or.inr (show (0 : Nat) < 20 ∧ am_is h (some 41) 0 from ⟨by decide, (la_is Lh (o := 41) rfl)⟩))⟩ Iff.rfl)))

theorem b_X11_ways_10 {d : Nat} {Q : Option am_V → am_H → Prop} (h : am_H) (x2 : Int32) (l0 l1 : Option am_V) : ex_ d 194 10 [l0, l1, some (v_i x2)] [] h Q ↔ Q (some (v_i x2)) h := by
  unfold ex_
  refine (am_Y_go 1 (ok := []) (g := (11, [l0, l1, some (v_i x2)], [v_i x2], h)) rfl).trans ?_
  all_goals exact ((am_Y_ret rfl rfl rfl).trans (am_r0))

theorem b_X11_ways_20 {d : Nat} {Q : Option am_V → am_H → Prop} (h : am_H) (l1 l2 : Option am_V) (Lh : Lay h) : ex_ (d + 1) 194 20 [some (v_r (some 0)), l1, l2] [] h Q ↔ ex_ d 24 0 [some (v_r (some 41)), none] [] h (fun r h' => ex_ (d + 1) 194 27 [some (v_r (some 0)), l1, l2] (r.toList ++ []) h' Q) := by
  have e0 : h_r h 0 10 = some 41 := la_r Lh (q := (0, 10, 41)) (by decide)
  unfold ex_
  refine (am_Y_go 2 (ok := [am_is h (some 0) 11]) (g := (24, [some (v_r (some 0)), l1, l2], [v_r ((h_r h 0 10))], h)) rfl).trans ?_
  simp only [e0, Option.getD_some, am_all]
  all_goals exact cj_d (la_is Lh (o := 0) rfl) (((am_Y_call (j := 24) (na := 1) (ci := 0) (fl := 0) rfl rfl rfl).trans (cj_d ⟨⟨Nat.le_of_ble_eq_true rfl, Nat.le_of_ble_eq_true rfl, Nat.le_of_ble_eq_true rfl, rfl⟩, Or.inr (Or.inr (show (0 : Nat) < 20 ∧ am_is h (some 41) 0 from ⟨by decide, (la_is Lh (o := 41) rfl)⟩))⟩ Iff.rfl)))

theorem b_X11_ways_27 {d : Nat} {Q : Option am_V → am_H → Prop} (h : am_H) (s0 : Int32) (l0 l1 l2 : Option am_V) : ex_ d 194 27 [l0, l1, l2] [v_i s0] h Q ↔ Q (some (v_i s0)) h := by
  unfold ex_
  exact ((am_Y_ret rfl rfl rfl).trans (am_r0))
