set_option maxRecDepth 100000 in
theorem b_L_law_0 {d : Nat} {Q : Option am_V → am_H → Prop} (h : am_H) (l0 l1 l2 l3 : Option am_V) : ex_ (d + 1) 0 0 [l0, l1, l2, l3] [] h Q ↔ ex_ d 161 0 [some (v_r (some (h_n h))), none] [] (p_n h 11 19) (fun r h' => ex_ (d + 1) 0 7 [l0, l1, l2, l3] (r.toList ++ [v_r (some (h_n h))]) h' Q) := by
  unfold ex_
  refine (am_Y_go 2 (ok := []) (g := (4, [l0, l1, l2, l3], [v_r (some (h_n h)), v_r (some (h_n h))], (p_n h 11 19))) rfl).trans ?_
  all_goals exact ((am_Y_call (j := 161) (na := 1) (ci := 11) (fl := 4) rfl rfl rfl).trans (cj_d ⟨⟨Nat.le_of_ble_eq_true rfl, Nat.le_of_ble_eq_true rfl, Nat.le_of_ble_eq_true rfl, rfl⟩, Or.inr (Or.inr (show (11 : Nat) < 20 ∧ am_is (p_n h 11 19) (some (h_n h)) 11 from ⟨by decide, pn_is⟩))⟩ Iff.rfl))

set_option maxRecDepth 100000 in
theorem b_L_law_18 {d : Nat} {Q : Option am_V → am_H → Prop} (h : am_H) (x3 : Int32) (l1 l2 : Option am_V) : ex_ d 0 18 [some (v_x 20), l1, l2, some (v_i x3)] [] h Q ↔ if ((nI (h_x h).1) - (6 : Int32)) < x3 then ex_ d 0 1681 [some (v_x 20), l1, l2, some (v_i x3)] [] h Q else ex_ d 0 27 [some (v_x 20), l1, l2, some (v_i x3)] [] h Q := by
  unfold ex_
  refine (am_Y_go 6 (ok := []) (g := (if ((nI (h_x h).1) - (6 : Int32)) < x3 then 1681 else 27, [some (v_x 20), l1, l2, some (v_i x3)], [], h)) rfl).trans ?_
  all_goals exact am_Y_if

set_option maxRecDepth 100000 in
theorem b_L_law_7 {d : Nat} {Q : Option am_V → am_H → Prop} (h : am_H) (l0 l1 l2 l3 : Option am_V) (Lh : Lay h) : ex_ (d + 1) 0 7 [l0, l1, l2, l3] [v_r (some 0)] h Q ↔ ex_ d 231 0 [some (v_r (some (h_n h)))] [] (p_n h 12 44) (fun r h' => ex_ (d + 1) 0 15 [l0, some (v_r (some 0)), l2, l3] (r.toList ++ [v_r (some (h_n h))]) h' Q) := by
  unfold ex_
  refine (am_Y_go 3 (ok := []) (g := (12, [l0, some (v_r (some 0)), l2, l3], [v_r (some (h_n h)), v_r (some (h_n h))], (p_n h 12 44))) rfl).trans ?_
  all_goals exact ((am_Y_call (j := 231) (na := 1) (ci := 12) (fl := 4) rfl rfl rfl).trans (cj_d ⟨⟨Nat.le_of_ble_eq_true rfl, Nat.le_of_ble_eq_true rfl, Nat.le_of_ble_eq_true rfl, rfl⟩, Or.inr (Or.inr (show (12 : Nat) < 20 ∧ am_is (p_n h 12 44) (some (h_n h)) 12 from ⟨by decide, pn_is⟩))⟩ Iff.rfl))

set_option maxRecDepth 100000 in
theorem b_L_law_1681 {d : Nat} {Q : Option am_V → am_H → Prop} (h : am_H) (l0 l1 l2 l3 : Option am_V) : ex_ d 0 1681 [l0, l1, l2, l3] [] h Q ↔ Q (some (v_i (1 : Int32))) h := by
  unfold ex_
  refine (am_Y_go 1 (ok := []) (g := (1682, [l0, l1, l2, l3], [v_i (1 : Int32)], h)) rfl).trans ?_
  all_goals exact ((am_Y_ret rfl rfl rfl).trans (am_rz (show am_fit 1 1 from Or.inr rfl)))

set_option maxRecDepth 100000 in
theorem b_L_law_27 {d : Nat} {Q : Option am_V → am_H → Prop} (h : am_H) (x3 : Int32) (l1 l2 : Option am_V) : ex_ d 0 27 [some (v_x 20), l1, l2, some (v_i x3)] [] h Q ↔ vp_in x3 (h_x h).1 ∧ (if (((h_x h).2 (Int32.toNatClampNeg x3)) &&& (63 : Int32)) = (0 : Int32) then ex_ d 0 240 [some (v_x 20), l1, l2, some (v_i x3)] [] h Q else if (((h_x h).2 (Int32.toNatClampNeg x3)) &&& (63 : Int32)) = (1 : Int32) then ex_ d 0 303 [some (v_x 20), l1, l2, some (v_i x3)] [] h Q else if (((h_x h).2 (Int32.toNatClampNeg x3)) &&& (63 : Int32)) = (2 : Int32) then ex_ d 0 326 [some (v_x 20), l1, l2, some (v_i x3)] [] h Q else if (((h_x h).2 (Int32.toNatClampNeg x3)) &&& (63 : Int32)) = (3 : Int32) then ex_ d 0 349 [some (v_x 20), l1, l2, some (v_i x3)] [] h Q else if (((h_x h).2 (Int32.toNatClampNeg x3)) &&& (63 : Int32)) = (4 : Int32) then ex_ d 0 382 [some (v_x 20), l1, l2, some (v_i x3)] [] h Q else if (((h_x h).2 (Int32.toNatClampNeg x3)) &&& (63 : Int32)) = (5 : Int32) then ex_ d 0 415 [some (v_x 20), l1, l2, some (v_i x3)] [] h Q else if (((h_x h).2 (Int32.toNatClampNeg x3)) &&& (63 : Int32)) = (6 : Int32) then ex_ d 0 438 [some (v_x 20), l1, l2, some (v_i x3)] [] h Q else if (((h_x h).2 (Int32.toNatClampNeg x3)) &&& (63 : Int32)) = (7 : Int32) then ex_ d 0 471 [some (v_x 20), l1, l2, some (v_i x3)] [] h Q else if (((h_x h).2 (Int32.toNatClampNeg x3)) &&& (63 : Int32)) = (8 : Int32) then ex_ d 0 504 [some (v_x 20), l1, l2, some (v_i x3)] [] h Q else if (((h_x h).2 (Int32.toNatClampNeg x3)) &&& (63 : Int32)) = (9 : Int32) then ex_ d 0 527 [some (v_x 20), l1, l2, some (v_i x3)] [] h Q else if (((h_x h).2 (Int32.toNatClampNeg x3)) &&& (63 : Int32)) = (10 : Int32) then ex_ d 0 550 [some (v_x 20), l1, l2, some (v_i x3)] [] h Q else if (((h_x h).2 (Int32.toNatClampNeg x3)) &&& (63 : Int32)) = (11 : Int32) then ex_ d 0 583 [some (v_x 20), l1, l2, some (v_i x3)] [] h Q else if (((h_x h).2 (Int32.toNatClampNeg x3)) &&& (63 : Int32)) = (12 : Int32) then ex_ d 0 616 [some (v_x 20), l1, l2, some (v_i x3)] [] h Q else if (((h_x h).2 (Int32.toNatClampNeg x3)) &&& (63 : Int32)) = (13 : Int32) then ex_ d 0 649 [some (v_x 20), l1, l2, some (v_i x3)] [] h Q else if (((h_x h).2 (Int32.toNatClampNeg x3)) &&& (63 : Int32)) = (14 : Int32) then ex_ d 0 692 [some (v_x 20), l1, l2, some (v_i x3)] [] h Q else if (((h_x h).2 (Int32.toNatClampNeg x3)) &&& (63 : Int32)) = (15 : Int32) then ex_ d 0 715 [some (v_x 20), l1, l2, some (v_i x3)] [] h Q else if (((h_x h).2 (Int32.toNatClampNeg x3)) &&& (63 : Int32)) = (16 : Int32) then ex_ d 0 738 [some (v_x 20), l1, l2, some (v_i x3)] [] h Q else if (((h_x h).2 (Int32.toNatClampNeg x3)) &&& (63 : Int32)) = (17 : Int32) then ex_ d 0 771 [some (v_x 20), l1, l2, some (v_i x3)] [] h Q else if (((h_x h).2 (Int32.toNatClampNeg x3)) &&& (63 : Int32)) = (18 : Int32) then ex_ d 0 794 [some (v_x 20), l1, l2, some (v_i x3)] [] h Q else if (((h_x h).2 (Int32.toNatClampNeg x3)) &&& (63 : Int32)) = (19 : Int32) then ex_ d 0 827 [some (v_x 20), l1, l2, some (v_i x3)] [] h Q else if (((h_x h).2 (Int32.toNatClampNeg x3)) &&& (63 : Int32)) = (20 : Int32) then ex_ d 0 850 [some (v_x 20), l1, l2, some (v_i x3)] [] h Q else if (((h_x h).2 (Int32.toNatClampNeg x3)) &&& (63 : Int32)) = (21 : Int32) then ex_ d 0 883 [some (v_x 20), l1, l2, some (v_i x3)] [] h Q else if (((h_x h).2 (Int32.toNatClampNeg x3)) &&& (63 : Int32)) = (22 : Int32) then ex_ d 0 916 [some (v_x 20), l1, l2, some (v_i x3)] [] h Q else if (((h_x h).2 (Int32.toNatClampNeg x3)) &&& (63 : Int32)) = (23 : Int32) then ex_ d 0 939 [some (v_x 20), l1, l2, some (v_i x3)] [] h Q else if (((h_x h).2 (Int32.toNatClampNeg x3)) &&& (63 : Int32)) = (24 : Int32) then ex_ d 0 962 [some (v_x 20), l1, l2, some (v_i x3)] [] h Q else if (((h_x h).2 (Int32.toNatClampNeg x3)) &&& (63 : Int32)) = (25 : Int32) then ex_ d 0 1005 [some (v_x 20), l1, l2, some (v_i x3)] [] h Q else if (((h_x h).2 (Int32.toNatClampNeg x3)) &&& (63 : Int32)) = (26 : Int32) then ex_ d 0 1038 [some (v_x 20), l1, l2, some (v_i x3)] [] h Q else if (((h_x h).2 (Int32.toNatClampNeg x3)) &&& (63 : Int32)) = (27 : Int32) then ex_ d 0 1061 [some (v_x 20), l1, l2, some (v_i x3)] [] h Q else if (((h_x h).2 (Int32.toNatClampNeg x3)) &&& (63 : Int32)) = (28 : Int32) then ex_ d 0 1094 [some (v_x 20), l1, l2, some (v_i x3)] [] h Q else if (((h_x h).2 (Int32.toNatClampNeg x3)) &&& (63 : Int32)) = (29 : Int32) then ex_ d 0 1137 [some (v_x 20), l1, l2, some (v_i x3)] [] h Q else if (((h_x h).2 (Int32.toNatClampNeg x3)) &&& (63 : Int32)) = (30 : Int32) then ex_ d 0 1170 [some (v_x 20), l1, l2, some (v_i x3)] [] h Q else if (((h_x h).2 (Int32.toNatClampNeg x3)) &&& (63 : Int32)) = (31 : Int32) then ex_ d 0 1183 [some (v_x 20), l1, l2, some (v_i x3)] [] h Q else if (((h_x h).2 (Int32.toNatClampNeg x3)) &&& (63 : Int32)) = (32 : Int32) then ex_ d 0 1196 [some (v_x 20), l1, l2, some (v_i x3)] [] h Q else if (((h_x h).2 (Int32.toNatClampNeg x3)) &&& (63 : Int32)) = (33 : Int32) then ex_ d 0 1229 [some (v_x 20), l1, l2, some (v_i x3)] [] h Q else if (((h_x h).2 (Int32.toNatClampNeg x3)) &&& (63 : Int32)) = (34 : Int32) then ex_ d 0 1252 [some (v_x 20), l1, l2, some (v_i x3)] [] h Q else if (((h_x h).2 (Int32.toNatClampNeg x3)) &&& (63 : Int32)) = (35 : Int32) then ex_ d 0 1285 [some (v_x 20), l1, l2, some (v_i x3)] [] h Q else if (((h_x h).2 (Int32.toNatClampNeg x3)) &&& (63 : Int32)) = (36 : Int32) then ex_ d 0 1308 [some (v_x 20), l1, l2, some (v_i x3)] [] h Q else if (((h_x h).2 (Int32.toNatClampNeg x3)) &&& (63 : Int32)) = (37 : Int32) then ex_ d 0 1321 [some (v_x 20), l1, l2, some (v_i x3)] [] h Q else if (((h_x h).2 (Int32.toNatClampNeg x3)) &&& (63 : Int32)) = (38 : Int32) then ex_ d 0 1344 [some (v_x 20), l1, l2, some (v_i x3)] [] h Q else if (((h_x h).2 (Int32.toNatClampNeg x3)) &&& (63 : Int32)) = (39 : Int32) then ex_ d 0 1367 [some (v_x 20), l1, l2, some (v_i x3)] [] h Q else if (((h_x h).2 (Int32.toNatClampNeg x3)) &&& (63 : Int32)) = (40 : Int32) then ex_ d 0 1390 [some (v_x 20), l1, l2, some (v_i x3)] [] h Q else if (((h_x h).2 (Int32.toNatClampNeg x3)) &&& (63 : Int32)) = (41 : Int32) then ex_ d 0 1423 [some (v_x 20), l1, l2, some (v_i x3)] [] h Q else if (((h_x h).2 (Int32.toNatClampNeg x3)) &&& (63 : Int32)) = (42 : Int32) then ex_ d 0 1456 [some (v_x 20), l1, l2, some (v_i x3)] [] h Q else if (((h_x h).2 (Int32.toNatClampNeg x3)) &&& (63 : Int32)) = (43 : Int32) then ex_ d 0 1499 [some (v_x 20), l1, l2, some (v_i x3)] [] h Q else if (((h_x h).2 (Int32.toNatClampNeg x3)) &&& (63 : Int32)) = (44 : Int32) then ex_ d 0 1573 [some (v_x 20), l1, l2, some (v_i x3)] [] h Q else if (((h_x h).2 (Int32.toNatClampNeg x3)) &&& (63 : Int32)) = (45 : Int32) then ex_ d 0 1606 [some (v_x 20), l1, l2, some (v_i x3)] [] h Q else if (((h_x h).2 (Int32.toNatClampNeg x3)) &&& (63 : Int32)) = (46 : Int32) then ex_ d 0 1629 [some (v_x 20), l1, l2, some (v_i x3)] [] h Q else if (((h_x h).2 (Int32.toNatClampNeg x3)) &&& (63 : Int32)) = (47 : Int32) then ex_ d 0 1652 [some (v_x 20), l1, l2, some (v_i x3)] [] h Q else ex_ d 0 1675 [some (v_x 20), l1, l2, some (v_i x3)] [] h Q) := by
  unfold ex_
  refine (am_Y_go 6 (ok := [vp_in x3 (h_x h).1]) (g := (am_sw (((h_x h).2 (Int32.toNatClampNeg x3)) &&& (63 : Int32)) 1675 [((0 : Int32), 240), ((1 : Int32), 303), ((2 : Int32), 326), ((3 : Int32), 349), ((4 : Int32), 382), ((5 : Int32), 415), ((6 : Int32), 438), ((7 : Int32), 471), ((8 : Int32), 504), ((9 : Int32), 527), ((10 : Int32), 550), ((11 : Int32), 583), ((12 : Int32), 616), ((13 : Int32), 649), ((14 : Int32), 692), ((15 : Int32), 715), ((16 : Int32), 738), ((17 : Int32), 771), ((18 : Int32), 794), ((19 : Int32), 827), ((20 : Int32), 850), ((21 : Int32), 883), ((22 : Int32), 916), ((23 : Int32), 939), ((24 : Int32), 962), ((25 : Int32), 1005), ((26 : Int32), 1038), ((27 : Int32), 1061), ((28 : Int32), 1094), ((29 : Int32), 1137), ((30 : Int32), 1170), ((31 : Int32), 1183), ((32 : Int32), 1196), ((33 : Int32), 1229), ((34 : Int32), 1252), ((35 : Int32), 1285), ((36 : Int32), 1308), ((37 : Int32), 1321), ((38 : Int32), 1344), ((39 : Int32), 1367), ((40 : Int32), 1390), ((41 : Int32), 1423), ((42 : Int32), 1456), ((43 : Int32), 1499), ((44 : Int32), 1573), ((45 : Int32), 1606), ((46 : Int32), 1629), ((47 : Int32), 1652)], [some (v_x 20), l1, l2, some (v_i x3)], [], h)) rfl).trans ?_
  simp only [am_all]
  all_goals exact cj_k Iff.rfl ((by simp only [am_sw, am_Y_if, am_all]))

set_option maxRecDepth 100000 in
theorem b_L_law_15 {d : Nat} {Q : Option am_V → am_H → Prop} (h : am_H) (l0 l1 l2 l3 : Option am_V) (Lh : Lay h) : ex_ d 0 15 [l0, l1, l2, l3] [v_r (some 93)] h Q ↔ ex_ d 0 18 [l0, l1, some (v_r (some 93)), some (v_i (0 : Int32))] [] h Q := by
  unfold ex_
  refine (am_Y_go 3 (ok := []) (g := (18, [l0, l1, some (v_r (some 93)), some (v_i (0 : Int32))], [], h)) rfl).trans ?_
  all_goals exact Iff.rfl

set_option maxRecDepth 100000 in
theorem b_L_law_1675 {d : Nat} {Q : Option am_V → am_H → Prop} (h : am_H) (x3 : Int32) (l0 l1 l2 : Option am_V) : ex_ d 0 1675 [l0, l1, l2, some (v_i x3)] [] h Q ↔ ex_ d 0 18 [l0, l1, l2, some (v_i (x3 + (6 : Int32)))] [] h Q := by
  unfold ex_
  refine (am_Y_go 2 (ok := []) (g := (18, [l0, l1, l2, some (v_i (x3 + (6 : Int32)))], [], h)) rfl).trans ?_
  all_goals exact Iff.rfl

set_option maxRecDepth 100000 in
theorem b_L_law_240 {d : Nat} {Q : Option am_V → am_H → Prop} (h : am_H) (x3 : Int32) (l2 : Option am_V) (Lh : Lay h) : ex_ (d + 1) 0 240 [some (v_x 20), some (v_r (some 0)), l2, some (v_i x3)] [] h Q ↔ vp_in (x3 + (1 : Int32)) (h_x h).1 ∧ vp_in (x3 + (2 : Int32)) (h_x h).1 ∧ vp_in (x3 + (3 : Int32)) (h_x h).1 ∧ vp_in (x3 + (4 : Int32)) (h_x h).1 ∧ vp_in (x3 + (5 : Int32)) (h_x h).1 ∧ ex_ d 163 0 [some (v_r (some 0)), some (v_i ((h_x h).2 (Int32.toNatClampNeg (x3 + (1 : Int32))))), some (v_i ((h_x h).2 (Int32.toNatClampNeg (x3 + (2 : Int32))))), some (v_i ((h_x h).2 (Int32.toNatClampNeg (x3 + (3 : Int32))))), some (v_i ((h_x h).2 (Int32.toNatClampNeg (x3 + (4 : Int32))))), some (v_i ((h_x h).2 (Int32.toNatClampNeg (x3 + (5 : Int32)))))] [] h (fun r h' => ex_ (d + 1) 0 269 [some (v_x 20), some (v_r (some 0)), l2, some (v_i x3)] (r.toList ++ []) h' Q) := by
  unfold ex_
  refine (am_Y_go 26 (ok := [vp_in (x3 + (1 : Int32)) (h_x h).1, vp_in (x3 + (2 : Int32)) (h_x h).1, vp_in (x3 + (3 : Int32)) (h_x h).1, vp_in (x3 + (4 : Int32)) (h_x h).1, vp_in (x3 + (5 : Int32)) (h_x h).1]) (g := (266, [some (v_x 20), some (v_r (some 0)), l2, some (v_i x3)], [v_i ((h_x h).2 (Int32.toNatClampNeg (x3 + (5 : Int32)))), v_i ((h_x h).2 (Int32.toNatClampNeg (x3 + (4 : Int32)))), v_i ((h_x h).2 (Int32.toNatClampNeg (x3 + (3 : Int32)))), v_i ((h_x h).2 (Int32.toNatClampNeg (x3 + (2 : Int32)))), v_i ((h_x h).2 (Int32.toNatClampNeg (x3 + (1 : Int32)))), v_r (some 0)], h)) rfl).trans ?_
  simp only [am_all]
  all_goals exact cj_k Iff.rfl (cj_k Iff.rfl (cj_k Iff.rfl (cj_k Iff.rfl (cj_k Iff.rfl (((am_Y_call (j := 163) (na := 6) (ci := 11) (fl := 0) rfl rfl rfl).trans (cj_d ⟨⟨Nat.le_of_ble_eq_true rfl, Nat.le_of_ble_eq_true rfl, Nat.le_of_ble_eq_true rfl, rfl⟩, Or.inr (Or.inr (show (11 : Nat) < 20 ∧ am_is h (some 0) 11 from ⟨by decide, (la_is Lh (o := 0) rfl)⟩))⟩ Iff.rfl)))))))

set_option maxRecDepth 100000 in
theorem b_L_law_303 {d : Nat} {Q : Option am_V → am_H → Prop} (h : am_H) (x3 : Int32) (l2 : Option am_V) (Lh : Lay h) : ex_ (d + 1) 0 303 [some (v_x 20), some (v_r (some 0)), l2, some (v_i x3)] [] h Q ↔ vp_in (x3 + (1 : Int32)) (h_x h).1 ∧ ex_ d 165 0 [some (v_r (some 0)), some (v_i ((h_x h).2 (Int32.toNatClampNeg (x3 + (1 : Int32))))), none] [] h (fun r h' => ex_ (d + 1) 0 312 [some (v_x 20), some (v_r (some 0)), l2, some (v_i x3)] (r.toList ++ []) h' Q) := by
  unfold ex_
  refine (am_Y_go 6 (ok := [vp_in (x3 + (1 : Int32)) (h_x h).1]) (g := (309, [some (v_x 20), some (v_r (some 0)), l2, some (v_i x3)], [v_i ((h_x h).2 (Int32.toNatClampNeg (x3 + (1 : Int32)))), v_r (some 0)], h)) rfl).trans ?_
  simp only [am_all]
  all_goals exact cj_k Iff.rfl (((am_Y_call (j := 165) (na := 2) (ci := 11) (fl := 0) rfl rfl rfl).trans (cj_d ⟨⟨Nat.le_of_ble_eq_true rfl, Nat.le_of_ble_eq_true rfl, Nat.le_of_ble_eq_true rfl, rfl⟩, Or.inr (Or.inr (show (11 : Nat) < 20 ∧ am_is h (some 0) 11 from ⟨by decide, (la_is Lh (o := 0) rfl)⟩))⟩ Iff.rfl)))

set_option maxRecDepth 100000 in
theorem b_L_law_326 {d : Nat} {Q : Option am_V → am_H → Prop} (h : am_H) (x3 : Int32) (l2 : Option am_V) (Lh : Lay h) : ex_ (d + 1) 0 326 [some (v_x 20), some (v_r (some 0)), l2, some (v_i x3)] [] h Q ↔ vp_in (x3 + (1 : Int32)) (h_x h).1 ∧ ex_ d 166 0 [some (v_r (some 0)), some (v_i ((h_x h).2 (Int32.toNatClampNeg (x3 + (1 : Int32)))))] [] h (fun r h' => ex_ (d + 1) 0 335 [some (v_x 20), some (v_r (some 0)), l2, some (v_i x3)] (r.toList ++ []) h' Q) := by
  unfold ex_
  refine (am_Y_go 6 (ok := [vp_in (x3 + (1 : Int32)) (h_x h).1]) (g := (332, [some (v_x 20), some (v_r (some 0)), l2, some (v_i x3)], [v_i ((h_x h).2 (Int32.toNatClampNeg (x3 + (1 : Int32)))), v_r (some 0)], h)) rfl).trans ?_
  simp only [am_all]
  all_goals exact cj_k Iff.rfl (((am_Y_call (j := 166) (na := 2) (ci := 11) (fl := 0) rfl rfl rfl).trans (cj_d ⟨⟨Nat.le_of_ble_eq_true rfl, Nat.le_of_ble_eq_true rfl, Nat.le_of_ble_eq_true rfl, rfl⟩, Or.inr (Or.inr (show (11 : Nat) < 20 ∧ am_is h (some 0) 11 from ⟨by decide, (la_is Lh (o := 0) rfl)⟩))⟩ Iff.rfl)))

set_option maxRecDepth 100000 in
theorem b_L_law_349 {d : Nat} {Q : Option am_V → am_H → Prop} (h : am_H) (x3 : Int32) (l2 : Option am_V) (Lh : Lay h) : ex_ (d + 1) 0 349 [some (v_x 20), some (v_r (some 0)), l2, some (v_i x3)] [] h Q ↔ vp_in (x3 + (1 : Int32)) (h_x h).1 ∧ vp_in (x3 + (2 : Int32)) (h_x h).1 ∧ ex_ d 167 0 [some (v_r (some 0)), some (v_i ((h_x h).2 (Int32.toNatClampNeg (x3 + (1 : Int32))))), some (v_i ((h_x h).2 (Int32.toNatClampNeg (x3 + (2 : Int32)))))] [] h (fun r h' => ex_ (d + 1) 0 363 [some (v_x 20), some (v_r (some 0)), l2, some (v_i x3)] (r.toList ++ []) h' Q) := by
  unfold ex_
  refine (am_Y_go 11 (ok := [vp_in (x3 + (1 : Int32)) (h_x h).1, vp_in (x3 + (2 : Int32)) (h_x h).1]) (g := (360, [some (v_x 20), some (v_r (some 0)), l2, some (v_i x3)], [v_i ((h_x h).2 (Int32.toNatClampNeg (x3 + (2 : Int32)))), v_i ((h_x h).2 (Int32.toNatClampNeg (x3 + (1 : Int32)))), v_r (some 0)], h)) rfl).trans ?_
  simp only [am_all]
  all_goals exact cj_k Iff.rfl (cj_k Iff.rfl (((am_Y_call (j := 167) (na := 3) (ci := 11) (fl := 0) rfl rfl rfl).trans (cj_d ⟨⟨Nat.le_of_ble_eq_true rfl, Nat.le_of_ble_eq_true rfl, Nat.le_of_ble_eq_true rfl, rfl⟩, Or.inr (Or.inr (show (11 : Nat) < 20 ∧ am_is h (some 0) 11 from ⟨by decide, (la_is Lh (o := 0) rfl)⟩))⟩ Iff.rfl))))

set_option maxRecDepth 100000 in
theorem b_L_law_382 {d : Nat} {Q : Option am_V → am_H → Prop} (h : am_H) (x3 : Int32) (l2 : Option am_V) (Lh : Lay h) : ex_ (d + 1) 0 382 [some (v_x 20), some (v_r (some 0)), l2, some (v_i x3)] [] h Q ↔ vp_in (x3 + (1 : Int32)) (h_x h).1 ∧ vp_in (x3 + (2 : Int32)) (h_x h).1 ∧ ex_ d 168 0 [some (v_r (some 0)), some (v_i ((h_x h).2 (Int32.toNatClampNeg (x3 + (1 : Int32))))), some (v_i ((h_x h).2 (Int32.toNatClampNeg (x3 + (2 : Int32)))))] [] h (fun r h' => ex_ (d + 1) 0 396 [some (v_x 20), some (v_r (some 0)), l2, some (v_i x3)] (r.toList ++ []) h' Q) := by
  unfold ex_
  refine (am_Y_go 11 (ok := [vp_in (x3 + (1 : Int32)) (h_x h).1, vp_in (x3 + (2 : Int32)) (h_x h).1]) (g := (393, [some (v_x 20), some (v_r (some 0)), l2, some (v_i x3)], [v_i ((h_x h).2 (Int32.toNatClampNeg (x3 + (2 : Int32)))), v_i ((h_x h).2 (Int32.toNatClampNeg (x3 + (1 : Int32)))), v_r (some 0)], h)) rfl).trans ?_
  simp only [am_all]
  all_goals exact cj_k Iff.rfl (cj_k Iff.rfl (((am_Y_call (j := 168) (na := 3) (ci := 11) (fl := 0) rfl rfl rfl).trans (cj_d ⟨⟨Nat.le_of_ble_eq_true rfl, Nat.le_of_ble_eq_true rfl, Nat.le_of_ble_eq_true rfl, rfl⟩, Or.inr (Or.inr (show (11 : Nat) < 20 ∧ am_is h (some 0) 11 from ⟨by decide, (la_is Lh (o := 0) rfl)⟩))⟩ Iff.rfl))))

set_option maxRecDepth 100000 in
theorem b_L_law_415 {d : Nat} {Q : Option am_V → am_H → Prop} (h : am_H) (x3 : Int32) (l2 : Option am_V) (Lh : Lay h) : ex_ (d + 1) 0 415 [some (v_x 20), some (v_r (some 0)), l2, some (v_i x3)] [] h Q ↔ vp_in (x3 + (1 : Int32)) (h_x h).1 ∧ ex_ d 169 0 [some (v_r (some 0)), some (v_i ((h_x h).2 (Int32.toNatClampNeg (x3 + (1 : Int32)))))] [] h (fun r h' => ex_ (d + 1) 0 424 [some (v_x 20), some (v_r (some 0)), l2, some (v_i x3)] (r.toList ++ []) h' Q) := by
  unfold ex_
  refine (am_Y_go 6 (ok := [vp_in (x3 + (1 : Int32)) (h_x h).1]) (g := (421, [some (v_x 20), some (v_r (some 0)), l2, some (v_i x3)], [v_i ((h_x h).2 (Int32.toNatClampNeg (x3 + (1 : Int32)))), v_r (some 0)], h)) rfl).trans ?_
  simp only [am_all]
  all_goals exact cj_k Iff.rfl (((am_Y_call (j := 169) (na := 2) (ci := 11) (fl := 0) rfl rfl rfl).trans (cj_d ⟨⟨Nat.le_of_ble_eq_true rfl, Nat.le_of_ble_eq_true rfl, Nat.le_of_ble_eq_true rfl, rfl⟩, Or.inr (Or.inr (show (11 : Nat) < 20 ∧ am_is h (some 0) 11 from ⟨by decide, (la_is Lh (o := 0) rfl)⟩))⟩ Iff.rfl)))

set_option maxRecDepth 100000 in
theorem b_L_law_438 {d : Nat} {Q : Option am_V → am_H → Prop} (h : am_H) (x3 : Int32) (l2 : Option am_V) (Lh : Lay h) : ex_ (d + 1) 0 438 [some (v_x 20), some (v_r (some 0)), l2, some (v_i x3)] [] h Q ↔ vp_in (x3 + (1 : Int32)) (h_x h).1 ∧ vp_in (x3 + (2 : Int32)) (h_x h).1 ∧ ex_ d 170 0 [some (v_r (some 0)), some (v_i ((h_x h).2 (Int32.toNatClampNeg (x3 + (1 : Int32))))), some (v_i ((h_x h).2 (Int32.toNatClampNeg (x3 + (2 : Int32)))))] [] h (fun r h' => ex_ (d + 1) 0 452 [some (v_x 20), some (v_r (some 0)), l2, some (v_i x3)] (r.toList ++ []) h' Q) := by
  unfold ex_
  refine (am_Y_go 11 (ok := [vp_in (x3 + (1 : Int32)) (h_x h).1, vp_in (x3 + (2 : Int32)) (h_x h).1]) (g := (449, [some (v_x 20), some (v_r (some 0)), l2, some (v_i x3)], [v_i ((h_x h).2 (Int32.toNatClampNeg (x3 + (2 : Int32)))), v_i ((h_x h).2 (Int32.toNatClampNeg (x3 + (1 : Int32)))), v_r (some 0)], h)) rfl).trans ?_
  simp only [am_all]
  all_goals exact cj_k Iff.rfl (cj_k Iff.rfl (((am_Y_call (j := 170) (na := 3) (ci := 11) (fl := 0) rfl rfl rfl).trans (cj_d ⟨⟨Nat.le_of_ble_eq_true rfl, Nat.le_of_ble_eq_true rfl, Nat.le_of_ble_eq_true rfl, rfl⟩, Or.inr (Or.inr (show (11 : Nat) < 20 ∧ am_is h (some 0) 11 from ⟨by decide, (la_is Lh (o := 0) rfl)⟩))⟩ Iff.rfl))))

set_option maxRecDepth 100000 in
theorem b_L_law_471 {d : Nat} {Q : Option am_V → am_H → Prop} (h : am_H) (x3 : Int32) (l2 : Option am_V) (Lh : Lay h) : ex_ (d + 1) 0 471 [some (v_x 20), some (v_r (some 0)), l2, some (v_i x3)] [] h Q ↔ vp_in (x3 + (1 : Int32)) (h_x h).1 ∧ vp_in (x3 + (2 : Int32)) (h_x h).1 ∧ ex_ d 171 0 [some (v_r (some 0)), some (v_i ((h_x h).2 (Int32.toNatClampNeg (x3 + (1 : Int32))))), some (v_i ((h_x h).2 (Int32.toNatClampNeg (x3 + (2 : Int32)))))] [] h (fun r h' => ex_ (d + 1) 0 485 [some (v_x 20), some (v_r (some 0)), l2, some (v_i x3)] (r.toList ++ []) h' Q) := by
  unfold ex_
  refine (am_Y_go 11 (ok := [vp_in (x3 + (1 : Int32)) (h_x h).1, vp_in (x3 + (2 : Int32)) (h_x h).1]) (g := (482, [some (v_x 20), some (v_r (some 0)), l2, some (v_i x3)], [v_i ((h_x h).2 (Int32.toNatClampNeg (x3 + (2 : Int32)))), v_i ((h_x h).2 (Int32.toNatClampNeg (x3 + (1 : Int32)))), v_r (some 0)], h)) rfl).trans ?_
  simp only [am_all]
  all_goals exact cj_k Iff.rfl (cj_k Iff.rfl (((am_Y_call (j := 171) (na := 3) (ci := 11) (fl := 0) rfl rfl rfl).trans (cj_d ⟨⟨Nat.le_of_ble_eq_true rfl, Nat.le_of_ble_eq_true rfl, Nat.le_of_ble_eq_true rfl, rfl⟩, Or.inr (Or.inr (show (11 : Nat) < 20 ∧ am_is h (some 0) 11 from ⟨by decide, (la_is Lh (o := 0) rfl)⟩))⟩ Iff.rfl))))

set_option maxRecDepth 100000 in
theorem b_L_law_504 {d : Nat} {Q : Option am_V → am_H → Prop} (h : am_H) (x3 : Int32) (l2 : Option am_V) (Lh : Lay h) : ex_ (d + 1) 0 504 [some (v_x 20), some (v_r (some 0)), l2, some (v_i x3)] [] h Q ↔ vp_in (x3 + (1 : Int32)) (h_x h).1 ∧ ex_ d 172 0 [some (v_r (some 0)), some (v_i ((h_x h).2 (Int32.toNatClampNeg (x3 + (1 : Int32)))))] [] h (fun r h' => ex_ (d + 1) 0 513 [some (v_x 20), some (v_r (some 0)), l2, some (v_i x3)] (r.toList ++ []) h' Q) := by
  unfold ex_
  refine (am_Y_go 6 (ok := [vp_in (x3 + (1 : Int32)) (h_x h).1]) (g := (510, [some (v_x 20), some (v_r (some 0)), l2, some (v_i x3)], [v_i ((h_x h).2 (Int32.toNatClampNeg (x3 + (1 : Int32)))), v_r (some 0)], h)) rfl).trans ?_
  simp only [am_all]
  all_goals exact cj_k Iff.rfl (((am_Y_call (j := 172) (na := 2) (ci := 11) (fl := 0) rfl rfl rfl).trans (cj_d ⟨⟨Nat.le_of_ble_eq_true rfl, Nat.le_of_ble_eq_true rfl, Nat.le_of_ble_eq_true rfl, rfl⟩, Or.inr (Or.inr (show (11 : Nat) < 20 ∧ am_is h (some 0) 11 from ⟨by decide, (la_is Lh (o := 0) rfl)⟩))⟩ Iff.rfl)))

set_option maxRecDepth 100000 in
theorem b_L_law_527 {d : Nat} {Q : Option am_V → am_H → Prop} (h : am_H) (x3 : Int32) (l2 : Option am_V) (Lh : Lay h) : ex_ (d + 1) 0 527 [some (v_x 20), some (v_r (some 0)), l2, some (v_i x3)] [] h Q ↔ vp_in (x3 + (1 : Int32)) (h_x h).1 ∧ ex_ d 173 0 [some (v_r (some 0)), some (v_i ((h_x h).2 (Int32.toNatClampNeg (x3 + (1 : Int32))))), none, none] [] h (fun r h' => ex_ (d + 1) 0 536 [some (v_x 20), some (v_r (some 0)), l2, some (v_i x3)] (r.toList ++ []) h' Q) := by
  unfold ex_
  refine (am_Y_go 6 (ok := [vp_in (x3 + (1 : Int32)) (h_x h).1]) (g := (533, [some (v_x 20), some (v_r (some 0)), l2, some (v_i x3)], [v_i ((h_x h).2 (Int32.toNatClampNeg (x3 + (1 : Int32)))), v_r (some 0)], h)) rfl).trans ?_
  simp only [am_all]
  all_goals exact cj_k Iff.rfl (((am_Y_call (j := 173) (na := 2) (ci := 11) (fl := 0) rfl rfl rfl).trans (cj_d ⟨⟨Nat.le_of_ble_eq_true rfl, Nat.le_of_ble_eq_true rfl, Nat.le_of_ble_eq_true rfl, rfl⟩, Or.inr (Or.inr (show (11 : Nat) < 20 ∧ am_is h (some 0) 11 from ⟨by decide, (la_is Lh (o := 0) rfl)⟩))⟩ Iff.rfl)))

set_option maxRecDepth 100000 in
theorem b_L_law_550 {d : Nat} {Q : Option am_V → am_H → Prop} (h : am_H) (x3 : Int32) (l2 : Option am_V) (Lh : Lay h) : ex_ (d + 1) 0 550 [some (v_x 20), some (v_r (some 0)), l2, some (v_i x3)] [] h Q ↔ vp_in (x3 + (1 : Int32)) (h_x h).1 ∧ vp_in (x3 + (2 : Int32)) (h_x h).1 ∧ ex_ d 176 0 [some (v_r (some 0)), some (v_i ((h_x h).2 (Int32.toNatClampNeg (x3 + (1 : Int32))))), some (v_i ((h_x h).2 (Int32.toNatClampNeg (x3 + (2 : Int32)))))] [] h (fun r h' => ex_ (d + 1) 0 564 [some (v_x 20), some (v_r (some 0)), l2, some (v_i x3)] (r.toList ++ []) h' Q) := by
  unfold ex_
  refine (am_Y_go 11 (ok := [vp_in (x3 + (1 : Int32)) (h_x h).1, vp_in (x3 + (2 : Int32)) (h_x h).1]) (g := (561, [some (v_x 20), some (v_r (some 0)), l2, some (v_i x3)], [v_i ((h_x h).2 (Int32.toNatClampNeg (x3 + (2 : Int32)))), v_i ((h_x h).2 (Int32.toNatClampNeg (x3 + (1 : Int32)))), v_r (some 0)], h)) rfl).trans ?_
  simp only [am_all]
  all_goals exact cj_k Iff.rfl (cj_k Iff.rfl (((am_Y_call (j := 176) (na := 3) (ci := 11) (fl := 0) rfl rfl rfl).trans (cj_d ⟨⟨Nat.le_of_ble_eq_true rfl, Nat.le_of_ble_eq_true rfl, Nat.le_of_ble_eq_true rfl, rfl⟩, Or.inr (Or.inr (show (11 : Nat) < 20 ∧ am_is h (some 0) 11 from ⟨by decide, (la_is Lh (o := 0) rfl)⟩))⟩ Iff.rfl))))

set_option maxRecDepth 100000 in
theorem b_L_law_583 {d : Nat} {Q : Option am_V → am_H → Prop} (h : am_H) (x3 : Int32) (l2 : Option am_V) (Lh : Lay h) : ex_ (d + 1) 0 583 [some (v_x 20), some (v_r (some 0)), l2, some (v_i x3)] [] h Q ↔ vp_in (x3 + (1 : Int32)) (h_x h).1 ∧ vp_in (x3 + (2 : Int32)) (h_x h).1 ∧ ex_ d 177 0 [some (v_r (some 0)), some (v_i ((h_x h).2 (Int32.toNatClampNeg (x3 + (1 : Int32))))), some (v_i ((h_x h).2 (Int32.toNatClampNeg (x3 + (2 : Int32)))))] [] h (fun r h' => ex_ (d + 1) 0 597 [some (v_x 20), some (v_r (some 0)), l2, some (v_i x3)] (r.toList ++ []) h' Q) := by
  unfold ex_
  refine (am_Y_go 11 (ok := [vp_in (x3 + (1 : Int32)) (h_x h).1, vp_in (x3 + (2 : Int32)) (h_x h).1]) (g := (594, [some (v_x 20), some (v_r (some 0)), l2, some (v_i x3)], [v_i ((h_x h).2 (Int32.toNatClampNeg (x3 + (2 : Int32)))), v_i ((h_x h).2 (Int32.toNatClampNeg (x3 + (1 : Int32)))), v_r (some 0)], h)) rfl).trans ?_
  simp only [am_all]
  all_goals exact cj_k Iff.rfl (cj_k Iff.rfl (((am_Y_call (j := 177) (na := 3) (ci := 11) (fl := 0) rfl rfl rfl).trans (cj_d ⟨⟨Nat.le_of_ble_eq_true rfl, Nat.le_of_ble_eq_true rfl, Nat.le_of_ble_eq_true rfl, rfl⟩, Or.inr (Or.inr (show (11 : Nat) < 20 ∧ am_is h (some 0) 11 from ⟨by decide, (la_is Lh (o := 0) rfl)⟩))⟩ Iff.rfl))))

set_option maxRecDepth 100000 in
theorem b_L_law_616 {d : Nat} {Q : Option am_V → am_H → Prop} (h : am_H) (x3 : Int32) (l2 : Option am_V) (Lh : Lay h) : ex_ (d + 1) 0 616 [some (v_x 20), some (v_r (some 0)), l2, some (v_i x3)] [] h Q ↔ vp_in (x3 + (1 : Int32)) (h_x h).1 ∧ vp_in (x3 + (2 : Int32)) (h_x h).1 ∧ ex_ d 178 0 [some (v_r (some 0)), some (v_i ((h_x h).2 (Int32.toNatClampNeg (x3 + (1 : Int32))))), some (v_i ((h_x h).2 (Int32.toNatClampNeg (x3 + (2 : Int32)))))] [] h (fun r h' => ex_ (d + 1) 0 630 [some (v_x 20), some (v_r (some 0)), l2, some (v_i x3)] (r.toList ++ []) h' Q) := by
  unfold ex_
  refine (am_Y_go 11 (ok := [vp_in (x3 + (1 : Int32)) (h_x h).1, vp_in (x3 + (2 : Int32)) (h_x h).1]) (g := (627, [some (v_x 20), some (v_r (some 0)), l2, some (v_i x3)], [v_i ((h_x h).2 (Int32.toNatClampNeg (x3 + (2 : Int32)))), v_i ((h_x h).2 (Int32.toNatClampNeg (x3 + (1 : Int32)))), v_r (some 0)], h)) rfl).trans ?_
  simp only [am_all]
  all_goals exact cj_k Iff.rfl (cj_k Iff.rfl (((am_Y_call (j := 178) (na := 3) (ci := 11) (fl := 0) rfl rfl rfl).trans (cj_d ⟨⟨Nat.le_of_ble_eq_true rfl, Nat.le_of_ble_eq_true rfl, Nat.le_of_ble_eq_true rfl, rfl⟩, Or.inr (Or.inr (show (11 : Nat) < 20 ∧ am_is h (some 0) 11 from ⟨by decide, (la_is Lh (o := 0) rfl)⟩))⟩ Iff.rfl))))

set_option maxRecDepth 100000 in
theorem b_L_law_649 {d : Nat} {Q : Option am_V → am_H → Prop} (h : am_H) (x3 : Int32) (l2 : Option am_V) (Lh : Lay h) : ex_ (d + 1) 0 649 [some (v_x 20), some (v_r (some 0)), l2, some (v_i x3)] [] h Q ↔ vp_in (x3 + (1 : Int32)) (h_x h).1 ∧ vp_in (x3 + (2 : Int32)) (h_x h).1 ∧ vp_in (x3 + (3 : Int32)) (h_x h).1 ∧ ex_ d 179 0 [some (v_r (some 0)), some (v_i ((h_x h).2 (Int32.toNatClampNeg (x3 + (1 : Int32))))), some (v_i ((h_x h).2 (Int32.toNatClampNeg (x3 + (2 : Int32))))), some (v_i ((h_x h).2 (Int32.toNatClampNeg (x3 + (3 : Int32))))), none, none] [] h (fun r h' => ex_ (d + 1) 0 668 [some (v_x 20), some (v_r (some 0)), l2, some (v_i x3)] (r.toList ++ []) h' Q) := by
  unfold ex_
  refine (am_Y_go 16 (ok := [vp_in (x3 + (1 : Int32)) (h_x h).1, vp_in (x3 + (2 : Int32)) (h_x h).1, vp_in (x3 + (3 : Int32)) (h_x h).1]) (g := (665, [some (v_x 20), some (v_r (some 0)), l2, some (v_i x3)], [v_i ((h_x h).2 (Int32.toNatClampNeg (x3 + (3 : Int32)))), v_i ((h_x h).2 (Int32.toNatClampNeg (x3 + (2 : Int32)))), v_i ((h_x h).2 (Int32.toNatClampNeg (x3 + (1 : Int32)))), v_r (some 0)], h)) rfl).trans ?_
  simp only [am_all]
  all_goals exact cj_k Iff.rfl (cj_k Iff.rfl (cj_k Iff.rfl (((am_Y_call (j := 179) (na := 4) (ci := 11) (fl := 0) rfl rfl rfl).trans (cj_d ⟨⟨Nat.le_of_ble_eq_true rfl, Nat.le_of_ble_eq_true rfl, Nat.le_of_ble_eq_true rfl, rfl⟩, Or.inr (Or.inr (show (11 : Nat) < 20 ∧ am_is h (some 0) 11 from ⟨by decide, (la_is Lh (o := 0) rfl)⟩))⟩ Iff.rfl)))))

set_option maxRecDepth 100000 in
theorem b_L_law_692 {d : Nat} {Q : Option am_V → am_H → Prop} (h : am_H) (x3 : Int32) (l2 : Option am_V) (Lh : Lay h) : ex_ (d + 1) 0 692 [some (v_x 20), some (v_r (some 0)), l2, some (v_i x3)] [] h Q ↔ vp_in (x3 + (1 : Int32)) (h_x h).1 ∧ ex_ d 180 0 [some (v_r (some 0)), some (v_i ((h_x h).2 (Int32.toNatClampNeg (x3 + (1 : Int32))))), none, none] [] h (fun r h' => ex_ (d + 1) 0 701 [some (v_x 20), some (v_r (some 0)), l2, some (v_i x3)] (r.toList ++ []) h' Q) := by
  unfold ex_
  refine (am_Y_go 6 (ok := [vp_in (x3 + (1 : Int32)) (h_x h).1]) (g := (698, [some (v_x 20), some (v_r (some 0)), l2, some (v_i x3)], [v_i ((h_x h).2 (Int32.toNatClampNeg (x3 + (1 : Int32)))), v_r (some 0)], h)) rfl).trans ?_
  simp only [am_all]
  all_goals exact cj_k Iff.rfl (((am_Y_call (j := 180) (na := 2) (ci := 11) (fl := 0) rfl rfl rfl).trans (cj_d ⟨⟨Nat.le_of_ble_eq_true rfl, Nat.le_of_ble_eq_true rfl, Nat.le_of_ble_eq_true rfl, rfl⟩, Or.inr (Or.inr (show (11 : Nat) < 20 ∧ am_is h (some 0) 11 from ⟨by decide, (la_is Lh (o := 0) rfl)⟩))⟩ Iff.rfl)))

set_option maxRecDepth 100000 in
theorem b_L_law_715 {d : Nat} {Q : Option am_V → am_H → Prop} (h : am_H) (x3 : Int32) (l2 : Option am_V) (Lh : Lay h) : ex_ (d + 1) 0 715 [some (v_x 20), some (v_r (some 0)), l2, some (v_i x3)] [] h Q ↔ vp_in (x3 + (1 : Int32)) (h_x h).1 ∧ ex_ d 181 0 [some (v_r (some 0)), some (v_i ((h_x h).2 (Int32.toNatClampNeg (x3 + (1 : Int32)))))] [] h (fun r h' => ex_ (d + 1) 0 724 [some (v_x 20), some (v_r (some 0)), l2, some (v_i x3)] (r.toList ++ []) h' Q) := by
  unfold ex_
  refine (am_Y_go 6 (ok := [vp_in (x3 + (1 : Int32)) (h_x h).1]) (g := (721, [some (v_x 20), some (v_r (some 0)), l2, some (v_i x3)], [v_i ((h_x h).2 (Int32.toNatClampNeg (x3 + (1 : Int32)))), v_r (some 0)], h)) rfl).trans ?_
  simp only [am_all]
  all_goals exact cj_k Iff.rfl (((am_Y_call (j := 181) (na := 2) (ci := 11) (fl := 0) rfl rfl rfl).trans (cj_d ⟨⟨Nat.le_of_ble_eq_true rfl, Nat.le_of_ble_eq_true rfl, Nat.le_of_ble_eq_true rfl, rfl⟩, Or.inr (Or.inr (show (11 : Nat) < 20 ∧ am_is h (some 0) 11 from ⟨by decide, (la_is Lh (o := 0) rfl)⟩))⟩ Iff.rfl)))

set_option maxRecDepth 100000 in
theorem b_L_law_738 {d : Nat} {Q : Option am_V → am_H → Prop} (h : am_H) (x3 : Int32) (l2 : Option am_V) (Lh : Lay h) : ex_ (d + 1) 0 738 [some (v_x 20), some (v_r (some 0)), l2, some (v_i x3)] [] h Q ↔ vp_in (x3 + (1 : Int32)) (h_x h).1 ∧ vp_in (x3 + (2 : Int32)) (h_x h).1 ∧ ex_ d 184 0 [some (v_r (some 0)), some (v_i ((h_x h).2 (Int32.toNatClampNeg (x3 + (1 : Int32))))), some (v_i ((h_x h).2 (Int32.toNatClampNeg (x3 + (2 : Int32))))), none, none, none] [] h (fun r h' => ex_ (d + 1) 0 752 [some (v_x 20), some (v_r (some 0)), l2, some (v_i x3)] (r.toList ++ []) h' Q) := by
  unfold ex_
  refine (am_Y_go 11 (ok := [vp_in (x3 + (1 : Int32)) (h_x h).1, vp_in (x3 + (2 : Int32)) (h_x h).1]) (g := (749, [some (v_x 20), some (v_r (some 0)), l2, some (v_i x3)], [v_i ((h_x h).2 (Int32.toNatClampNeg (x3 + (2 : Int32)))), v_i ((h_x h).2 (Int32.toNatClampNeg (x3 + (1 : Int32)))), v_r (some 0)], h)) rfl).trans ?_
  simp only [am_all]
  all_goals exact cj_k Iff.rfl (cj_k Iff.rfl (((am_Y_call (j := 184) (na := 3) (ci := 11) (fl := 0) rfl rfl rfl).trans (cj_d ⟨⟨Nat.le_of_ble_eq_true rfl, Nat.le_of_ble_eq_true rfl, Nat.le_of_ble_eq_true rfl, rfl⟩, Or.inr (Or.inr (show (11 : Nat) < 20 ∧ am_is h (some 0) 11 from ⟨by decide, (la_is Lh (o := 0) rfl)⟩))⟩ Iff.rfl))))

set_option maxRecDepth 100000 in
theorem b_L_law_771 {d : Nat} {Q : Option am_V → am_H → Prop} (h : am_H) (x3 : Int32) (l2 : Option am_V) (Lh : Lay h) : ex_ (d + 1) 0 771 [some (v_x 20), some (v_r (some 0)), l2, some (v_i x3)] [] h Q ↔ vp_in (x3 + (1 : Int32)) (h_x h).1 ∧ ex_ d 186 0 [some (v_r (some 0)), some (v_i ((h_x h).2 (Int32.toNatClampNeg (x3 + (1 : Int32))))), none, none] [] h (fun r h' => ex_ (d + 1) 0 780 [some (v_x 20), some (v_r (some 0)), l2, some (v_i x3)] (r.toList ++ []) h' Q) := by
  unfold ex_
  refine (am_Y_go 6 (ok := [vp_in (x3 + (1 : Int32)) (h_x h).1]) (g := (777, [some (v_x 20), some (v_r (some 0)), l2, some (v_i x3)], [v_i ((h_x h).2 (Int32.toNatClampNeg (x3 + (1 : Int32)))), v_r (some 0)], h)) rfl).trans ?_
  simp only [am_all]
  all_goals exact cj_k Iff.rfl (((am_Y_call (j := 186) (na := 2) (ci := 11) (fl := 0) rfl rfl rfl).trans (cj_d ⟨⟨Nat.le_of_ble_eq_true rfl, Nat.le_of_ble_eq_true rfl, Nat.le_of_ble_eq_true rfl, rfl⟩, Or.inr (Or.inr (show (11 : Nat) < 20 ∧ am_is h (some 0) 11 from ⟨by decide, (la_is Lh (o := 0) rfl)⟩))⟩ Iff.rfl)))

set_option maxRecDepth 100000 in
theorem b_L_law_794 {d : Nat} {Q : Option am_V → am_H → Prop} (h : am_H) (x3 : Int32) (l2 : Option am_V) (Lh : Lay h) : ex_ (d + 1) 0 794 [some (v_x 20), some (v_r (some 0)), l2, some (v_i x3)] [] h Q ↔ vp_in (x3 + (1 : Int32)) (h_x h).1 ∧ vp_in (x3 + (2 : Int32)) (h_x h).1 ∧ ex_ d 189 0 [some (v_r (some 0)), some (v_i ((h_x h).2 (Int32.toNatClampNeg (x3 + (1 : Int32))))), some (v_i ((h_x h).2 (Int32.toNatClampNeg (x3 + (2 : Int32))))), none, none, none, none] [] h (fun r h' => ex_ (d + 1) 0 808 [some (v_x 20), some (v_r (some 0)), l2, some (v_i x3)] (r.toList ++ []) h' Q) := by
  unfold ex_
  refine (am_Y_go 11 (ok := [vp_in (x3 + (1 : Int32)) (h_x h).1, vp_in (x3 + (2 : Int32)) (h_x h).1]) (g := (805, [some (v_x 20), some (v_r (some 0)), l2, some (v_i x3)], [v_i ((h_x h).2 (Int32.toNatClampNeg (x3 + (2 : Int32)))), v_i ((h_x h).2 (Int32.toNatClampNeg (x3 + (1 : Int32)))), v_r (some 0)], h)) rfl).trans ?_
  simp only [am_all]
  all_goals exact cj_k Iff.rfl (cj_k Iff.rfl (((am_Y_call (j := 189) (na := 3) (ci := 11) (fl := 0) rfl rfl rfl).trans (cj_d ⟨⟨Nat.le_of_ble_eq_true rfl, Nat.le_of_ble_eq_true rfl, Nat.le_of_ble_eq_true rfl, rfl⟩, Or.inr (Or.inr (show (11 : Nat) < 20 ∧ am_is h (some 0) 11 from ⟨by decide, (la_is Lh (o := 0) rfl)⟩))⟩ Iff.rfl))))

set_option maxRecDepth 100000 in
theorem b_L_law_827 {d : Nat} {Q : Option am_V → am_H → Prop} (h : am_H) (x3 : Int32) (l2 : Option am_V) (Lh : Lay h) : ex_ (d + 1) 0 827 [some (v_x 20), some (v_r (some 0)), l2, some (v_i x3)] [] h Q ↔ vp_in (x3 + (1 : Int32)) (h_x h).1 ∧ ex_ d 191 0 [some (v_r (some 0)), some (v_i ((h_x h).2 (Int32.toNatClampNeg (x3 + (1 : Int32))))), none] [] h (fun r h' => ex_ (d + 1) 0 836 [some (v_x 20), some (v_r (some 0)), l2, some (v_i x3)] (r.toList ++ []) h' Q) := by
  unfold ex_
  refine (am_Y_go 6 (ok := [vp_in (x3 + (1 : Int32)) (h_x h).1]) (g := (833, [some (v_x 20), some (v_r (some 0)), l2, some (v_i x3)], [v_i ((h_x h).2 (Int32.toNatClampNeg (x3 + (1 : Int32)))), v_r (some 0)], h)) rfl).trans ?_
  simp only [am_all]
  all_goals exact cj_k Iff.rfl (((am_Y_call (j := 191) (na := 2) (ci := 11) (fl := 0) rfl rfl rfl).trans (cj_d ⟨⟨Nat.le_of_ble_eq_true rfl, Nat.le_of_ble_eq_true rfl, Nat.le_of_ble_eq_true rfl, rfl⟩, Or.inr (Or.inr (show (11 : Nat) < 20 ∧ am_is h (some 0) 11 from ⟨by decide, (la_is Lh (o := 0) rfl)⟩))⟩ Iff.rfl)))

set_option maxRecDepth 100000 in
theorem b_L_law_850 {d : Nat} {Q : Option am_V → am_H → Prop} (h : am_H) (x3 : Int32) (l2 : Option am_V) (Lh : Lay h) : ex_ (d + 1) 0 850 [some (v_x 20), some (v_r (some 0)), l2, some (v_i x3)] [] h Q ↔ vp_in (x3 + (1 : Int32)) (h_x h).1 ∧ vp_in (x3 + (2 : Int32)) (h_x h).1 ∧ ex_ d 192 0 [some (v_r (some 0)), some (v_i ((h_x h).2 (Int32.toNatClampNeg (x3 + (1 : Int32))))), some (v_i ((h_x h).2 (Int32.toNatClampNeg (x3 + (2 : Int32))))), none] [] h (fun r h' => ex_ (d + 1) 0 864 [some (v_x 20), some (v_r (some 0)), l2, some (v_i x3)] (r.toList ++ []) h' Q) := by
  unfold ex_
  refine (am_Y_go 11 (ok := [vp_in (x3 + (1 : Int32)) (h_x h).1, vp_in (x3 + (2 : Int32)) (h_x h).1]) (g := (861, [some (v_x 20), some (v_r (some 0)), l2, some (v_i x3)], [v_i ((h_x h).2 (Int32.toNatClampNeg (x3 + (2 : Int32)))), v_i ((h_x h).2 (Int32.toNatClampNeg (x3 + (1 : Int32)))), v_r (some 0)], h)) rfl).trans ?_
  simp only [am_all]
  all_goals exact cj_k Iff.rfl (cj_k Iff.rfl (((am_Y_call (j := 192) (na := 3) (ci := 11) (fl := 0) rfl rfl rfl).trans (cj_d ⟨⟨Nat.le_of_ble_eq_true rfl, Nat.le_of_ble_eq_true rfl, Nat.le_of_ble_eq_true rfl, rfl⟩, Or.inr (Or.inr (show (11 : Nat) < 20 ∧ am_is h (some 0) 11 from ⟨by decide, (la_is Lh (o := 0) rfl)⟩))⟩ Iff.rfl))))

set_option maxRecDepth 100000 in
theorem b_L_law_883 {d : Nat} {Q : Option am_V → am_H → Prop} (h : am_H) (x3 : Int32) (l2 : Option am_V) (Lh : Lay h) : ex_ (d + 1) 0 883 [some (v_x 20), some (v_r (some 0)), l2, some (v_i x3)] [] h Q ↔ vp_in (x3 + (1 : Int32)) (h_x h).1 ∧ vp_in (x3 + (2 : Int32)) (h_x h).1 ∧ ex_ d 193 0 [some (v_r (some 0)), some (v_i ((h_x h).2 (Int32.toNatClampNeg (x3 + (1 : Int32))))), some (v_i ((h_x h).2 (Int32.toNatClampNeg (x3 + (2 : Int32))))), none] [] h (fun r h' => ex_ (d + 1) 0 897 [some (v_x 20), some (v_r (some 0)), l2, some (v_i x3)] (r.toList ++ []) h' Q) := by
  unfold ex_
  refine (am_Y_go 11 (ok := [vp_in (x3 + (1 : Int32)) (h_x h).1, vp_in (x3 + (2 : Int32)) (h_x h).1]) (g := (894, [some (v_x 20), some (v_r (some 0)), l2, some (v_i x3)], [v_i ((h_x h).2 (Int32.toNatClampNeg (x3 + (2 : Int32)))), v_i ((h_x h).2 (Int32.toNatClampNeg (x3 + (1 : Int32)))), v_r (some 0)], h)) rfl).trans ?_
  simp only [am_all]
  all_goals exact cj_k Iff.rfl (cj_k Iff.rfl (((am_Y_call (j := 193) (na := 3) (ci := 11) (fl := 0) rfl rfl rfl).trans (cj_d ⟨⟨Nat.le_of_ble_eq_true rfl, Nat.le_of_ble_eq_true rfl, Nat.le_of_ble_eq_true rfl, rfl⟩, Or.inr (Or.inr (show (11 : Nat) < 20 ∧ am_is h (some 0) 11 from ⟨by decide, (la_is Lh (o := 0) rfl)⟩))⟩ Iff.rfl))))

set_option maxRecDepth 100000 in
theorem b_L_law_916 {d : Nat} {Q : Option am_V → am_H → Prop} (h : am_H) (x3 : Int32) (l2 : Option am_V) (Lh : Lay h) : ex_ (d + 1) 0 916 [some (v_x 20), some (v_r (some 0)), l2, some (v_i x3)] [] h Q ↔ vp_in (x3 + (1 : Int32)) (h_x h).1 ∧ ex_ d 194 0 [some (v_r (some 0)), some (v_i ((h_x h).2 (Int32.toNatClampNeg (x3 + (1 : Int32))))), none] [] h (fun r h' => ex_ (d + 1) 0 925 [some (v_x 20), some (v_r (some 0)), l2, some (v_i x3)] (r.toList ++ []) h' Q) := by
  unfold ex_
  refine (am_Y_go 6 (ok := [vp_in (x3 + (1 : Int32)) (h_x h).1]) (g := (922, [some (v_x 20), some (v_r (some 0)), l2, some (v_i x3)], [v_i ((h_x h).2 (Int32.toNatClampNeg (x3 + (1 : Int32)))), v_r (some 0)], h)) rfl).trans ?_
  simp only [am_all]
  all_goals exact cj_k Iff.rfl (((am_Y_call (j := 194) (na := 2) (ci := 11) (fl := 0) rfl rfl rfl).trans (cj_d ⟨⟨Nat.le_of_ble_eq_true rfl, Nat.le_of_ble_eq_true rfl, Nat.le_of_ble_eq_true rfl, rfl⟩, Or.inr (Or.inr (show (11 : Nat) < 20 ∧ am_is h (some 0) 11 from ⟨by decide, (la_is Lh (o := 0) rfl)⟩))⟩ Iff.rfl)))

set_option maxRecDepth 100000 in
theorem b_L_law_939 {d : Nat} {Q : Option am_V → am_H → Prop} (h : am_H) (x3 : Int32) (l2 : Option am_V) (Lh : Lay h) : ex_ (d + 1) 0 939 [some (v_x 20), some (v_r (some 0)), l2, some (v_i x3)] [] h Q ↔ vp_in (x3 + (1 : Int32)) (h_x h).1 ∧ ex_ d 195 0 [some (v_r (some 0)), some (v_i ((h_x h).2 (Int32.toNatClampNeg (x3 + (1 : Int32)))))] [] h (fun r h' => ex_ (d + 1) 0 948 [some (v_x 20), some (v_r (some 0)), l2, some (v_i x3)] (r.toList ++ []) h' Q) := by
  unfold ex_
  refine (am_Y_go 6 (ok := [vp_in (x3 + (1 : Int32)) (h_x h).1]) (g := (945, [some (v_x 20), some (v_r (some 0)), l2, some (v_i x3)], [v_i ((h_x h).2 (Int32.toNatClampNeg (x3 + (1 : Int32)))), v_r (some 0)], h)) rfl).trans ?_
  simp only [am_all]
  all_goals exact cj_k Iff.rfl (((am_Y_call (j := 195) (na := 2) (ci := 11) (fl := 0) rfl rfl rfl).trans (cj_d ⟨⟨Nat.le_of_ble_eq_true rfl, Nat.le_of_ble_eq_true rfl, Nat.le_of_ble_eq_true rfl, rfl⟩, Or.inr (Or.inr (show (11 : Nat) < 20 ∧ am_is h (some 0) 11 from ⟨by decide, (la_is Lh (o := 0) rfl)⟩))⟩ Iff.rfl)))

set_option maxRecDepth 100000 in
theorem b_L_law_962 {d : Nat} {Q : Option am_V → am_H → Prop} (h : am_H) (x3 : Int32) (l2 : Option am_V) (Lh : Lay h) : ex_ (d + 1) 0 962 [some (v_x 20), some (v_r (some 0)), l2, some (v_i x3)] [] h Q ↔ vp_in (x3 + (1 : Int32)) (h_x h).1 ∧ vp_in (x3 + (2 : Int32)) (h_x h).1 ∧ vp_in (x3 + (3 : Int32)) (h_x h).1 ∧ ex_ d 197 0 [some (v_r (some 0)), some (v_i ((h_x h).2 (Int32.toNatClampNeg (x3 + (1 : Int32))))), some (v_i ((h_x h).2 (Int32.toNatClampNeg (x3 + (2 : Int32))))), some (v_i ((h_x h).2 (Int32.toNatClampNeg (x3 + (3 : Int32)))))] [] h (fun r h' => ex_ (d + 1) 0 981 [some (v_x 20), some (v_r (some 0)), l2, some (v_i x3)] (r.toList ++ []) h' Q) := by
  unfold ex_
  refine (am_Y_go 16 (ok := [vp_in (x3 + (1 : Int32)) (h_x h).1, vp_in (x3 + (2 : Int32)) (h_x h).1, vp_in (x3 + (3 : Int32)) (h_x h).1]) (g := (978, [some (v_x 20), some (v_r (some 0)), l2, some (v_i x3)], [v_i ((h_x h).2 (Int32.toNatClampNeg (x3 + (3 : Int32)))), v_i ((h_x h).2 (Int32.toNatClampNeg (x3 + (2 : Int32)))), v_i ((h_x h).2 (Int32.toNatClampNeg (x3 + (1 : Int32)))), v_r (some 0)], h)) rfl).trans ?_
  simp only [am_all]
  all_goals exact cj_k Iff.rfl (cj_k Iff.rfl (cj_k Iff.rfl (((am_Y_call (j := 197) (na := 4) (ci := 11) (fl := 0) rfl rfl rfl).trans (cj_d ⟨⟨Nat.le_of_ble_eq_true rfl, Nat.le_of_ble_eq_true rfl, Nat.le_of_ble_eq_true rfl, rfl⟩, Or.inr (Or.inr (show (11 : Nat) < 20 ∧ am_is h (some 0) 11 from ⟨by decide, (la_is Lh (o := 0) rfl)⟩))⟩ Iff.rfl)))))

set_option maxRecDepth 100000 in
theorem b_L_law_1005 {d : Nat} {Q : Option am_V → am_H → Prop} (h : am_H) (x3 : Int32) (l2 : Option am_V) (Lh : Lay h) : ex_ (d + 1) 0 1005 [some (v_x 20), some (v_r (some 0)), l2, some (v_i x3)] [] h Q ↔ vp_in (x3 + (1 : Int32)) (h_x h).1 ∧ vp_in (x3 + (2 : Int32)) (h_x h).1 ∧ ex_ d 198 0 [some (v_r (some 0)), some (v_i ((h_x h).2 (Int32.toNatClampNeg (x3 + (1 : Int32))))), some (v_i ((h_x h).2 (Int32.toNatClampNeg (x3 + (2 : Int32))))), none, none, none] [] h (fun r h' => ex_ (d + 1) 0 1019 [some (v_x 20), some (v_r (some 0)), l2, some (v_i x3)] (r.toList ++ []) h' Q) := by
  unfold ex_
  refine (am_Y_go 11 (ok := [vp_in (x3 + (1 : Int32)) (h_x h).1, vp_in (x3 + (2 : Int32)) (h_x h).1]) (g := (1016, [some (v_x 20), some (v_r (some 0)), l2, some (v_i x3)], [v_i ((h_x h).2 (Int32.toNatClampNeg (x3 + (2 : Int32)))), v_i ((h_x h).2 (Int32.toNatClampNeg (x3 + (1 : Int32)))), v_r (some 0)], h)) rfl).trans ?_
  simp only [am_all]
  all_goals exact cj_k Iff.rfl (cj_k Iff.rfl (((am_Y_call (j := 198) (na := 3) (ci := 11) (fl := 0) rfl rfl rfl).trans (cj_d ⟨⟨Nat.le_of_ble_eq_true rfl, Nat.le_of_ble_eq_true rfl, Nat.le_of_ble_eq_true rfl, rfl⟩, Or.inr (Or.inr (show (11 : Nat) < 20 ∧ am_is h (some 0) 11 from ⟨by decide, (la_is Lh (o := 0) rfl)⟩))⟩ Iff.rfl))))

set_option maxRecDepth 100000 in
theorem b_L_law_1038 {d : Nat} {Q : Option am_V → am_H → Prop} (h : am_H) (x3 : Int32) (l2 : Option am_V) (Lh : Lay h) : ex_ (d + 1) 0 1038 [some (v_x 20), some (v_r (some 0)), l2, some (v_i x3)] [] h Q ↔ vp_in (x3 + (1 : Int32)) (h_x h).1 ∧ ex_ d 200 0 [some (v_r (some 0)), some (v_i ((h_x h).2 (Int32.toNatClampNeg (x3 + (1 : Int32))))), none, none] [] h (fun r h' => ex_ (d + 1) 0 1047 [some (v_x 20), some (v_r (some 0)), l2, some (v_i x3)] (r.toList ++ []) h' Q) := by
  unfold ex_
  refine (am_Y_go 6 (ok := [vp_in (x3 + (1 : Int32)) (h_x h).1]) (g := (1044, [some (v_x 20), some (v_r (some 0)), l2, some (v_i x3)], [v_i ((h_x h).2 (Int32.toNatClampNeg (x3 + (1 : Int32)))), v_r (some 0)], h)) rfl).trans ?_
  simp only [am_all]
  all_goals exact cj_k Iff.rfl (((am_Y_call (j := 200) (na := 2) (ci := 11) (fl := 0) rfl rfl rfl).trans (cj_d ⟨⟨Nat.le_of_ble_eq_true rfl, Nat.le_of_ble_eq_true rfl, Nat.le_of_ble_eq_true rfl, rfl⟩, Or.inr (Or.inr (show (11 : Nat) < 20 ∧ am_is h (some 0) 11 from ⟨by decide, (la_is Lh (o := 0) rfl)⟩))⟩ Iff.rfl)))

set_option maxRecDepth 100000 in
theorem b_L_law_1061 {d : Nat} {Q : Option am_V → am_H → Prop} (h : am_H) (x3 : Int32) (l2 : Option am_V) (Lh : Lay h) : ex_ (d + 1) 0 1061 [some (v_x 20), some (v_r (some 0)), l2, some (v_i x3)] [] h Q ↔ vp_in (x3 + (1 : Int32)) (h_x h).1 ∧ vp_in (x3 + (2 : Int32)) (h_x h).1 ∧ ex_ d 201 0 [some (v_r (some 0)), some (v_i ((h_x h).2 (Int32.toNatClampNeg (x3 + (1 : Int32))))), some (v_i ((h_x h).2 (Int32.toNatClampNeg (x3 + (2 : Int32)))))] [] h (fun r h' => ex_ (d + 1) 0 1075 [some (v_x 20), some (v_r (some 0)), l2, some (v_i x3)] (r.toList ++ []) h' Q) := by
  unfold ex_
  refine (am_Y_go 11 (ok := [vp_in (x3 + (1 : Int32)) (h_x h).1, vp_in (x3 + (2 : Int32)) (h_x h).1]) (g := (1072, [some (v_x 20), some (v_r (some 0)), l2, some (v_i x3)], [v_i ((h_x h).2 (Int32.toNatClampNeg (x3 + (2 : Int32)))), v_i ((h_x h).2 (Int32.toNatClampNeg (x3 + (1 : Int32)))), v_r (some 0)], h)) rfl).trans ?_
  simp only [am_all]
  all_goals exact cj_k Iff.rfl (cj_k Iff.rfl (((am_Y_call (j := 201) (na := 3) (ci := 11) (fl := 0) rfl rfl rfl).trans (cj_d ⟨⟨Nat.le_of_ble_eq_true rfl, Nat.le_of_ble_eq_true rfl, Nat.le_of_ble_eq_true rfl, rfl⟩, Or.inr (Or.inr (show (11 : Nat) < 20 ∧ am_is h (some 0) 11 from ⟨by decide, (la_is Lh (o := 0) rfl)⟩))⟩ Iff.rfl))))

set_option maxRecDepth 100000 in
theorem b_L_law_1094 {d : Nat} {Q : Option am_V → am_H → Prop} (h : am_H) (x3 : Int32) (l2 : Option am_V) (Lh : Lay h) : ex_ (d + 1) 0 1094 [some (v_x 20), some (v_r (some 0)), l2, some (v_i x3)] [] h Q ↔ vp_in (x3 + (1 : Int32)) (h_x h).1 ∧ vp_in (x3 + (2 : Int32)) (h_x h).1 ∧ vp_in (x3 + (3 : Int32)) (h_x h).1 ∧ ex_ d 202 0 [some (v_r (some 0)), some (v_i ((h_x h).2 (Int32.toNatClampNeg (x3 + (1 : Int32))))), some (v_i ((h_x h).2 (Int32.toNatClampNeg (x3 + (2 : Int32))))), some (v_i ((h_x h).2 (Int32.toNatClampNeg (x3 + (3 : Int32)))))] [] h (fun r h' => ex_ (d + 1) 0 1113 [some (v_x 20), some (v_r (some 0)), l2, some (v_i x3)] (r.toList ++ []) h' Q) := by
  unfold ex_
  refine (am_Y_go 16 (ok := [vp_in (x3 + (1 : Int32)) (h_x h).1, vp_in (x3 + (2 : Int32)) (h_x h).1, vp_in (x3 + (3 : Int32)) (h_x h).1]) (g := (1110, [some (v_x 20), some (v_r (some 0)), l2, some (v_i x3)], [v_i ((h_x h).2 (Int32.toNatClampNeg (x3 + (3 : Int32)))), v_i ((h_x h).2 (Int32.toNatClampNeg (x3 + (2 : Int32)))), v_i ((h_x h).2 (Int32.toNatClampNeg (x3 + (1 : Int32)))), v_r (some 0)], h)) rfl).trans ?_
  simp only [am_all]
  all_goals exact cj_k Iff.rfl (cj_k Iff.rfl (cj_k Iff.rfl (((am_Y_call (j := 202) (na := 4) (ci := 11) (fl := 0) rfl rfl rfl).trans (cj_d ⟨⟨Nat.le_of_ble_eq_true rfl, Nat.le_of_ble_eq_true rfl, Nat.le_of_ble_eq_true rfl, rfl⟩, Or.inr (Or.inr (show (11 : Nat) < 20 ∧ am_is h (some 0) 11 from ⟨by decide, (la_is Lh (o := 0) rfl)⟩))⟩ Iff.rfl)))))

set_option maxRecDepth 100000 in
theorem b_L_law_1137 {d : Nat} {Q : Option am_V → am_H → Prop} (h : am_H) (x3 : Int32) (l2 : Option am_V) (Lh : Lay h) : ex_ (d + 1) 0 1137 [some (v_x 20), some (v_r (some 0)), l2, some (v_i x3)] [] h Q ↔ vp_in (x3 + (1 : Int32)) (h_x h).1 ∧ vp_in (x3 + (2 : Int32)) (h_x h).1 ∧ ex_ d 203 0 [some (v_r (some 0)), some (v_i ((h_x h).2 (Int32.toNatClampNeg (x3 + (1 : Int32))))), some (v_i ((h_x h).2 (Int32.toNatClampNeg (x3 + (2 : Int32))))), none, none] [] h (fun r h' => ex_ (d + 1) 0 1151 [some (v_x 20), some (v_r (some 0)), l2, some (v_i x3)] (r.toList ++ []) h' Q) := by
  unfold ex_
  refine (am_Y_go 11 (ok := [vp_in (x3 + (1 : Int32)) (h_x h).1, vp_in (x3 + (2 : Int32)) (h_x h).1]) (g := (1148, [some (v_x 20), some (v_r (some 0)), l2, some (v_i x3)], [v_i ((h_x h).2 (Int32.toNatClampNeg (x3 + (2 : Int32)))), v_i ((h_x h).2 (Int32.toNatClampNeg (x3 + (1 : Int32)))), v_r (some 0)], h)) rfl).trans ?_
  simp only [am_all]
  all_goals exact cj_k Iff.rfl (cj_k Iff.rfl (((am_Y_call (j := 203) (na := 3) (ci := 11) (fl := 0) rfl rfl rfl).trans (cj_d ⟨⟨Nat.le_of_ble_eq_true rfl, Nat.le_of_ble_eq_true rfl, Nat.le_of_ble_eq_true rfl, rfl⟩, Or.inr (Or.inr (show (11 : Nat) < 20 ∧ am_is h (some 0) 11 from ⟨by decide, (la_is Lh (o := 0) rfl)⟩))⟩ Iff.rfl))))

set_option maxRecDepth 100000 in
theorem b_L_law_1170 {d : Nat} {Q : Option am_V → am_H → Prop} (h : am_H) (l0 l2 l3 : Option am_V) (Lh : Lay h) : ex_ (d + 1) 0 1170 [l0, some (v_r (some 0)), l2, l3] [] h Q ↔ ex_ d 204 0 [some (v_r (some 0)), none, none] [] h (fun r h' => ex_ (d + 1) 0 1174 [l0, some (v_r (some 0)), l2, l3] (r.toList ++ []) h' Q) := by
  unfold ex_
  refine (am_Y_go 1 (ok := []) (g := (1171, [l0, some (v_r (some 0)), l2, l3], [v_r (some 0)], h)) rfl).trans ?_
  all_goals exact ((am_Y_call (j := 204) (na := 1) (ci := 11) (fl := 0) rfl rfl rfl).trans (cj_d ⟨⟨Nat.le_of_ble_eq_true rfl, Nat.le_of_ble_eq_true rfl, Nat.le_of_ble_eq_true rfl, rfl⟩, Or.inr (Or.inr (show (11 : Nat) < 20 ∧ am_is h (some 0) 11 from ⟨by decide, (la_is Lh (o := 0) rfl)⟩))⟩ Iff.rfl))

set_option maxRecDepth 100000 in
theorem b_L_law_1183 {d : Nat} {Q : Option am_V → am_H → Prop} (h : am_H) (l0 l2 l3 : Option am_V) (Lh : Lay h) : ex_ (d + 1) 0 1183 [l0, some (v_r (some 0)), l2, l3] [] h Q ↔ ex_ d 205 0 [some (v_r (some 0)), none] [] h (fun r h' => ex_ (d + 1) 0 1187 [l0, some (v_r (some 0)), l2, l3] (r.toList ++ []) h' Q) := by
  unfold ex_
  refine (am_Y_go 1 (ok := []) (g := (1184, [l0, some (v_r (some 0)), l2, l3], [v_r (some 0)], h)) rfl).trans ?_
  all_goals exact ((am_Y_call (j := 205) (na := 1) (ci := 11) (fl := 0) rfl rfl rfl).trans (cj_d ⟨⟨Nat.le_of_ble_eq_true rfl, Nat.le_of_ble_eq_true rfl, Nat.le_of_ble_eq_true rfl, rfl⟩, Or.inr (Or.inr (show (11 : Nat) < 20 ∧ am_is h (some 0) 11 from ⟨by decide, (la_is Lh (o := 0) rfl)⟩))⟩ Iff.rfl))

set_option maxRecDepth 100000 in
theorem b_L_law_1196 {d : Nat} {Q : Option am_V → am_H → Prop} (h : am_H) (x3 : Int32) (l2 : Option am_V) (Lh : Lay h) : ex_ (d + 1) 0 1196 [some (v_x 20), some (v_r (some 0)), l2, some (v_i x3)] [] h Q ↔ vp_in (x3 + (1 : Int32)) (h_x h).1 ∧ vp_in (x3 + (2 : Int32)) (h_x h).1 ∧ ex_ d 206 0 [some (v_r (some 0)), some (v_i ((h_x h).2 (Int32.toNatClampNeg (x3 + (1 : Int32))))), some (v_i ((h_x h).2 (Int32.toNatClampNeg (x3 + (2 : Int32))))), none, none] [] h (fun r h' => ex_ (d + 1) 0 1210 [some (v_x 20), some (v_r (some 0)), l2, some (v_i x3)] (r.toList ++ []) h' Q) := by
  unfold ex_
  refine (am_Y_go 11 (ok := [vp_in (x3 + (1 : Int32)) (h_x h).1, vp_in (x3 + (2 : Int32)) (h_x h).1]) (g := (1207, [some (v_x 20), some (v_r (some 0)), l2, some (v_i x3)], [v_i ((h_x h).2 (Int32.toNatClampNeg (x3 + (2 : Int32)))), v_i ((h_x h).2 (Int32.toNatClampNeg (x3 + (1 : Int32)))), v_r (some 0)], h)) rfl).trans ?_
  simp only [am_all]
  all_goals exact cj_k Iff.rfl (cj_k Iff.rfl (((am_Y_call (j := 206) (na := 3) (ci := 11) (fl := 0) rfl rfl rfl).trans (cj_d ⟨⟨Nat.le_of_ble_eq_true rfl, Nat.le_of_ble_eq_true rfl, Nat.le_of_ble_eq_true rfl, rfl⟩, Or.inr (Or.inr (show (11 : Nat) < 20 ∧ am_is h (some 0) 11 from ⟨by decide, (la_is Lh (o := 0) rfl)⟩))⟩ Iff.rfl))))

set_option maxRecDepth 100000 in
theorem b_L_law_1229 {d : Nat} {Q : Option am_V → am_H → Prop} (h : am_H) (x3 : Int32) (l2 : Option am_V) (Lh : Lay h) : ex_ (d + 1) 0 1229 [some (v_x 20), some (v_r (some 0)), l2, some (v_i x3)] [] h Q ↔ vp_in (x3 + (1 : Int32)) (h_x h).1 ∧ ex_ d 208 0 [some (v_r (some 0)), some (v_i ((h_x h).2 (Int32.toNatClampNeg (x3 + (1 : Int32))))), none] [] h (fun r h' => ex_ (d + 1) 0 1238 [some (v_x 20), some (v_r (some 0)), l2, some (v_i x3)] (r.toList ++ []) h' Q) := by
  unfold ex_
  refine (am_Y_go 6 (ok := [vp_in (x3 + (1 : Int32)) (h_x h).1]) (g := (1235, [some (v_x 20), some (v_r (some 0)), l2, some (v_i x3)], [v_i ((h_x h).2 (Int32.toNatClampNeg (x3 + (1 : Int32)))), v_r (some 0)], h)) rfl).trans ?_
  simp only [am_all]
  all_goals exact cj_k Iff.rfl (((am_Y_call (j := 208) (na := 2) (ci := 11) (fl := 0) rfl rfl rfl).trans (cj_d ⟨⟨Nat.le_of_ble_eq_true rfl, Nat.le_of_ble_eq_true rfl, Nat.le_of_ble_eq_true rfl, rfl⟩, Or.inr (Or.inr (show (11 : Nat) < 20 ∧ am_is h (some 0) 11 from ⟨by decide, (la_is Lh (o := 0) rfl)⟩))⟩ Iff.rfl)))

set_option maxRecDepth 100000 in
theorem b_L_law_1252 {d : Nat} {Q : Option am_V → am_H → Prop} (h : am_H) (x3 : Int32) (l2 : Option am_V) (Lh : Lay h) : ex_ (d + 1) 0 1252 [some (v_x 20), some (v_r (some 0)), l2, some (v_i x3)] [] h Q ↔ vp_in (x3 + (1 : Int32)) (h_x h).1 ∧ vp_in (x3 + (2 : Int32)) (h_x h).1 ∧ ex_ d 209 0 [some (v_r (some 0)), some (v_i ((h_x h).2 (Int32.toNatClampNeg (x3 + (1 : Int32))))), some (v_i ((h_x h).2 (Int32.toNatClampNeg (x3 + (2 : Int32))))), none] [] h (fun r h' => ex_ (d + 1) 0 1266 [some (v_x 20), some (v_r (some 0)), l2, some (v_i x3)] (r.toList ++ []) h' Q) := by
  unfold ex_
  refine (am_Y_go 11 (ok := [vp_in (x3 + (1 : Int32)) (h_x h).1, vp_in (x3 + (2 : Int32)) (h_x h).1]) (g := (1263, [some (v_x 20), some (v_r (some 0)), l2, some (v_i x3)], [v_i ((h_x h).2 (Int32.toNatClampNeg (x3 + (2 : Int32)))), v_i ((h_x h).2 (Int32.toNatClampNeg (x3 + (1 : Int32)))), v_r (some 0)], h)) rfl).trans ?_
  simp only [am_all]
  all_goals exact cj_k Iff.rfl (cj_k Iff.rfl (((am_Y_call (j := 209) (na := 3) (ci := 11) (fl := 0) rfl rfl rfl).trans (cj_d ⟨⟨Nat.le_of_ble_eq_true rfl, Nat.le_of_ble_eq_true rfl, Nat.le_of_ble_eq_true rfl, rfl⟩, Or.inr (Or.inr (show (11 : Nat) < 20 ∧ am_is h (some 0) 11 from ⟨by decide, (la_is Lh (o := 0) rfl)⟩))⟩ Iff.rfl))))

set_option maxRecDepth 100000 in
theorem b_L_law_1285 {d : Nat} {Q : Option am_V → am_H → Prop} (h : am_H) (x3 : Int32) (l2 : Option am_V) (Lh : Lay h) : ex_ (d + 1) 0 1285 [some (v_x 20), some (v_r (some 0)), l2, some (v_i x3)] [] h Q ↔ vp_in (x3 + (1 : Int32)) (h_x h).1 ∧ ex_ d 211 0 [some (v_r (some 0)), some (v_i ((h_x h).2 (Int32.toNatClampNeg (x3 + (1 : Int32))))), none, none, none, none] [] h (fun r h' => ex_ (d + 1) 0 1294 [some (v_x 20), some (v_r (some 0)), l2, some (v_i x3)] (r.toList ++ []) h' Q) := by
  unfold ex_
  refine (am_Y_go 6 (ok := [vp_in (x3 + (1 : Int32)) (h_x h).1]) (g := (1291, [some (v_x 20), some (v_r (some 0)), l2, some (v_i x3)], [v_i ((h_x h).2 (Int32.toNatClampNeg (x3 + (1 : Int32)))), v_r (some 0)], h)) rfl).trans ?_
  simp only [am_all]
  all_goals exact cj_k Iff.rfl (((am_Y_call (j := 211) (na := 2) (ci := 11) (fl := 0) rfl rfl rfl).trans (cj_d ⟨⟨Nat.le_of_ble_eq_true rfl, Nat.le_of_ble_eq_true rfl, Nat.le_of_ble_eq_true rfl, rfl⟩, Or.inr (Or.inr (show (11 : Nat) < 20 ∧ am_is h (some 0) 11 from ⟨by decide, (la_is Lh (o := 0) rfl)⟩))⟩ Iff.rfl)))

set_option maxRecDepth 100000 in
theorem b_L_law_1308 {d : Nat} {Q : Option am_V → am_H → Prop} (h : am_H) (l0 l2 l3 : Option am_V) (Lh : Lay h) : ex_ (d + 1) 0 1308 [l0, some (v_r (some 0)), l2, l3] [] h Q ↔ ex_ d 212 0 [some (v_r (some 0))] [] h (fun r h' => ex_ (d + 1) 0 1312 [l0, some (v_r (some 0)), l2, l3] (r.toList ++ []) h' Q) := by
  unfold ex_
  refine (am_Y_go 1 (ok := []) (g := (1309, [l0, some (v_r (some 0)), l2, l3], [v_r (some 0)], h)) rfl).trans ?_
  all_goals exact ((am_Y_call (j := 212) (na := 1) (ci := 11) (fl := 0) rfl rfl rfl).trans (cj_d ⟨⟨Nat.le_of_ble_eq_true rfl, Nat.le_of_ble_eq_true rfl, Nat.le_of_ble_eq_true rfl, rfl⟩, Or.inr (Or.inr (show (11 : Nat) < 20 ∧ am_is h (some 0) 11 from ⟨by decide, (la_is Lh (o := 0) rfl)⟩))⟩ Iff.rfl))

set_option maxRecDepth 100000 in
theorem b_L_law_1321 {d : Nat} {Q : Option am_V → am_H → Prop} (h : am_H) (x3 : Int32) (l2 : Option am_V) (Lh : Lay h) : ex_ (d + 1) 0 1321 [some (v_x 20), some (v_r (some 0)), l2, some (v_i x3)] [] h Q ↔ vp_in (x3 + (1 : Int32)) (h_x h).1 ∧ ex_ d 213 0 [some (v_r (some 0)), some (v_i ((h_x h).2 (Int32.toNatClampNeg (x3 + (1 : Int32)))))] [] h (fun r h' => ex_ (d + 1) 0 1330 [some (v_x 20), some (v_r (some 0)), l2, some (v_i x3)] (r.toList ++ []) h' Q) := by
  unfold ex_
  refine (am_Y_go 6 (ok := [vp_in (x3 + (1 : Int32)) (h_x h).1]) (g := (1327, [some (v_x 20), some (v_r (some 0)), l2, some (v_i x3)], [v_i ((h_x h).2 (Int32.toNatClampNeg (x3 + (1 : Int32)))), v_r (some 0)], h)) rfl).trans ?_
  simp only [am_all]
  all_goals exact cj_k Iff.rfl (((am_Y_call (j := 213) (na := 2) (ci := 11) (fl := 0) rfl rfl rfl).trans (cj_d ⟨⟨Nat.le_of_ble_eq_true rfl, Nat.le_of_ble_eq_true rfl, Nat.le_of_ble_eq_true rfl, rfl⟩, Or.inr (Or.inr (show (11 : Nat) < 20 ∧ am_is h (some 0) 11 from ⟨by decide, (la_is Lh (o := 0) rfl)⟩))⟩ Iff.rfl)))

set_option maxRecDepth 100000 in
theorem b_L_law_1344 {d : Nat} {Q : Option am_V → am_H → Prop} (h : am_H) (x3 : Int32) (l2 : Option am_V) (Lh : Lay h) : ex_ (d + 1) 0 1344 [some (v_x 20), some (v_r (some 0)), l2, some (v_i x3)] [] h Q ↔ vp_in (x3 + (1 : Int32)) (h_x h).1 ∧ ex_ d 217 0 [some (v_r (some 0)), some (v_i ((h_x h).2 (Int32.toNatClampNeg (x3 + (1 : Int32))))), none] [] h (fun r h' => ex_ (d + 1) 0 1353 [some (v_x 20), some (v_r (some 0)), l2, some (v_i x3)] (r.toList ++ []) h' Q) := by
  unfold ex_
  refine (am_Y_go 6 (ok := [vp_in (x3 + (1 : Int32)) (h_x h).1]) (g := (1350, [some (v_x 20), some (v_r (some 0)), l2, some (v_i x3)], [v_i ((h_x h).2 (Int32.toNatClampNeg (x3 + (1 : Int32)))), v_r (some 0)], h)) rfl).trans ?_
  simp only [am_all]
  all_goals exact cj_k Iff.rfl (((am_Y_call (j := 217) (na := 2) (ci := 11) (fl := 0) rfl rfl rfl).trans (cj_d ⟨⟨Nat.le_of_ble_eq_true rfl, Nat.le_of_ble_eq_true rfl, Nat.le_of_ble_eq_true rfl, rfl⟩, Or.inr (Or.inr (show (11 : Nat) < 20 ∧ am_is h (some 0) 11 from ⟨by decide, (la_is Lh (o := 0) rfl)⟩))⟩ Iff.rfl)))

set_option maxRecDepth 100000 in
theorem b_L_law_1367 {d : Nat} {Q : Option am_V → am_H → Prop} (h : am_H) (x3 : Int32) (l2 : Option am_V) (Lh : Lay h) : ex_ (d + 1) 0 1367 [some (v_x 20), some (v_r (some 0)), l2, some (v_i x3)] [] h Q ↔ vp_in (x3 + (1 : Int32)) (h_x h).1 ∧ ex_ d 218 0 [some (v_r (some 0)), some (v_i ((h_x h).2 (Int32.toNatClampNeg (x3 + (1 : Int32))))), none, none, none, none, none, none, none] [] h (fun r h' => ex_ (d + 1) 0 1376 [some (v_x 20), some (v_r (some 0)), l2, some (v_i x3)] (r.toList ++ []) h' Q) := by
  unfold ex_
  refine (am_Y_go 6 (ok := [vp_in (x3 + (1 : Int32)) (h_x h).1]) (g := (1373, [some (v_x 20), some (v_r (some 0)), l2, some (v_i x3)], [v_i ((h_x h).2 (Int32.toNatClampNeg (x3 + (1 : Int32)))), v_r (some 0)], h)) rfl).trans ?_
  simp only [am_all]
  all_goals exact cj_k Iff.rfl (((am_Y_call (j := 218) (na := 2) (ci := 11) (fl := 0) rfl rfl rfl).trans (cj_d ⟨⟨Nat.le_of_ble_eq_true rfl, Nat.le_of_ble_eq_true rfl, Nat.le_of_ble_eq_true rfl, rfl⟩, Or.inr (Or.inr (show (11 : Nat) < 20 ∧ am_is h (some 0) 11 from ⟨by decide, (la_is Lh (o := 0) rfl)⟩))⟩ Iff.rfl)))

set_option maxRecDepth 100000 in
theorem b_L_law_1390 {d : Nat} {Q : Option am_V → am_H → Prop} (h : am_H) (x3 : Int32) (l2 : Option am_V) (Lh : Lay h) : ex_ (d + 1) 0 1390 [some (v_x 20), some (v_r (some 0)), l2, some (v_i x3)] [] h Q ↔ vp_in (x3 + (1 : Int32)) (h_x h).1 ∧ vp_in (x3 + (2 : Int32)) (h_x h).1 ∧ ex_ d 221 0 [some (v_r (some 0)), some (v_i ((h_x h).2 (Int32.toNatClampNeg (x3 + (1 : Int32))))), some (v_i ((h_x h).2 (Int32.toNatClampNeg (x3 + (2 : Int32))))), none] [] h (fun r h' => ex_ (d + 1) 0 1404 [some (v_x 20), some (v_r (some 0)), l2, some (v_i x3)] (r.toList ++ []) h' Q) := by
  unfold ex_
  refine (am_Y_go 11 (ok := [vp_in (x3 + (1 : Int32)) (h_x h).1, vp_in (x3 + (2 : Int32)) (h_x h).1]) (g := (1401, [some (v_x 20), some (v_r (some 0)), l2, some (v_i x3)], [v_i ((h_x h).2 (Int32.toNatClampNeg (x3 + (2 : Int32)))), v_i ((h_x h).2 (Int32.toNatClampNeg (x3 + (1 : Int32)))), v_r (some 0)], h)) rfl).trans ?_
  simp only [am_all]
  all_goals exact cj_k Iff.rfl (cj_k Iff.rfl (((am_Y_call (j := 221) (na := 3) (ci := 11) (fl := 0) rfl rfl rfl).trans (cj_d ⟨⟨Nat.le_of_ble_eq_true rfl, Nat.le_of_ble_eq_true rfl, Nat.le_of_ble_eq_true rfl, rfl⟩, Or.inr (Or.inr (show (11 : Nat) < 20 ∧ am_is h (some 0) 11 from ⟨by decide, (la_is Lh (o := 0) rfl)⟩))⟩ Iff.rfl))))

set_option maxRecDepth 100000 in
theorem b_L_law_1423 {d : Nat} {Q : Option am_V → am_H → Prop} (h : am_H) (x3 : Int32) (l2 : Option am_V) (Lh : Lay h) : ex_ (d + 1) 0 1423 [some (v_x 20), some (v_r (some 0)), l2, some (v_i x3)] [] h Q ↔ vp_in (x3 + (1 : Int32)) (h_x h).1 ∧ vp_in (x3 + (2 : Int32)) (h_x h).1 ∧ ex_ d 222 0 [some (v_r (some 0)), some (v_i ((h_x h).2 (Int32.toNatClampNeg (x3 + (1 : Int32))))), some (v_i ((h_x h).2 (Int32.toNatClampNeg (x3 + (2 : Int32))))), none] [] h (fun r h' => ex_ (d + 1) 0 1437 [some (v_x 20), some (v_r (some 0)), l2, some (v_i x3)] (r.toList ++ []) h' Q) := by
  unfold ex_
  refine (am_Y_go 11 (ok := [vp_in (x3 + (1 : Int32)) (h_x h).1, vp_in (x3 + (2 : Int32)) (h_x h).1]) (g := (1434, [some (v_x 20), some (v_r (some 0)), l2, some (v_i x3)], [v_i ((h_x h).2 (Int32.toNatClampNeg (x3 + (2 : Int32)))), v_i ((h_x h).2 (Int32.toNatClampNeg (x3 + (1 : Int32)))), v_r (some 0)], h)) rfl).trans ?_
  simp only [am_all]
  all_goals exact cj_k Iff.rfl (cj_k Iff.rfl (((am_Y_call (j := 222) (na := 3) (ci := 11) (fl := 0) rfl rfl rfl).trans (cj_d ⟨⟨Nat.le_of_ble_eq_true rfl, Nat.le_of_ble_eq_true rfl, Nat.le_of_ble_eq_true rfl, rfl⟩, Or.inr (Or.inr (show (11 : Nat) < 20 ∧ am_is h (some 0) 11 from ⟨by decide, (la_is Lh (o := 0) rfl)⟩))⟩ Iff.rfl))))

set_option maxRecDepth 100000 in
theorem b_L_law_1456 {d : Nat} {Q : Option am_V → am_H → Prop} (h : am_H) (x3 : Int32) (l2 : Option am_V) (Lh : Lay h) : ex_ (d + 1) 0 1456 [some (v_x 20), some (v_r (some 0)), l2, some (v_i x3)] [] h Q ↔ vp_in (x3 + (1 : Int32)) (h_x h).1 ∧ vp_in (x3 + (2 : Int32)) (h_x h).1 ∧ vp_in (x3 + (3 : Int32)) (h_x h).1 ∧ ex_ d 223 0 [some (v_r (some 0)), some (v_i ((h_x h).2 (Int32.toNatClampNeg (x3 + (1 : Int32))))), some (v_i ((h_x h).2 (Int32.toNatClampNeg (x3 + (2 : Int32))))), some (v_i ((h_x h).2 (Int32.toNatClampNeg (x3 + (3 : Int32)))))] [] h (fun r h' => ex_ (d + 1) 0 1475 [some (v_x 20), some (v_r (some 0)), l2, some (v_i x3)] (r.toList ++ []) h' Q) := by
  unfold ex_
  refine (am_Y_go 16 (ok := [vp_in (x3 + (1 : Int32)) (h_x h).1, vp_in (x3 + (2 : Int32)) (h_x h).1, vp_in (x3 + (3 : Int32)) (h_x h).1]) (g := (1472, [some (v_x 20), some (v_r (some 0)), l2, some (v_i x3)], [v_i ((h_x h).2 (Int32.toNatClampNeg (x3 + (3 : Int32)))), v_i ((h_x h).2 (Int32.toNatClampNeg (x3 + (2 : Int32)))), v_i ((h_x h).2 (Int32.toNatClampNeg (x3 + (1 : Int32)))), v_r (some 0)], h)) rfl).trans ?_
  simp only [am_all]
  all_goals exact cj_k Iff.rfl (cj_k Iff.rfl (cj_k Iff.rfl (((am_Y_call (j := 223) (na := 4) (ci := 11) (fl := 0) rfl rfl rfl).trans (cj_d ⟨⟨Nat.le_of_ble_eq_true rfl, Nat.le_of_ble_eq_true rfl, Nat.le_of_ble_eq_true rfl, rfl⟩, Or.inr (Or.inr (show (11 : Nat) < 20 ∧ am_is h (some 0) 11 from ⟨by decide, (la_is Lh (o := 0) rfl)⟩))⟩ Iff.rfl)))))

set_option maxRecDepth 100000 in
theorem b_L_law_1499 {d : Nat} {Q : Option am_V → am_H → Prop} (h : am_H) (x3 : Int32) (l2 : Option am_V) (Lh : Lay h) : ex_ (d + 1) 0 1499 [some (v_x 20), some (v_r (some 0)), l2, some (v_i x3)] [] h Q ↔ vp_in (x3 + (1 : Int32)) (h_x h).1 ∧ vp_in (x3 + (2 : Int32)) (h_x h).1 ∧ vp_in (x3 + (3 : Int32)) (h_x h).1 ∧ vp_in (x3 + (4 : Int32)) (h_x h).1 ∧ ex_ d 224 0 [some (v_r (some 0)), some (v_i ((h_x h).2 (Int32.toNatClampNeg (x3 + (1 : Int32))))), some (v_i ((h_x h).2 (Int32.toNatClampNeg (x3 + (2 : Int32))))), some (v_l (((Int32.toInt64 ((h_x h).2 (Int32.toNatClampNeg (x3 + (3 : Int32))))) <<< (((32 : Int32)).toInt64 &&& 63)) ||| ((Int32.toInt64 ((h_x h).2 (Int32.toNatClampNeg (x3 + (4 : Int32))))) &&& (4294967295 : Int64)))), none, none] [] h (fun r h' => ex_ (d + 1) 0 1533 [some (v_x 20), some (v_r (some 0)), l2, some (v_i x3)] (r.toList ++ []) h' Q) := by
  unfold ex_
  refine (am_Y_go 28 (ok := [vp_in (x3 + (1 : Int32)) (h_x h).1, vp_in (x3 + (2 : Int32)) (h_x h).1, vp_in (x3 + (3 : Int32)) (h_x h).1, vp_in (x3 + (4 : Int32)) (h_x h).1]) (g := (1530, [some (v_x 20), some (v_r (some 0)), l2, some (v_i x3)], [v_l (((Int32.toInt64 ((h_x h).2 (Int32.toNatClampNeg (x3 + (3 : Int32))))) <<< (((32 : Int32)).toInt64 &&& 63)) ||| ((Int32.toInt64 ((h_x h).2 (Int32.toNatClampNeg (x3 + (4 : Int32))))) &&& (4294967295 : Int64))), v_i ((h_x h).2 (Int32.toNatClampNeg (x3 + (2 : Int32)))), v_i ((h_x h).2 (Int32.toNatClampNeg (x3 + (1 : Int32)))), v_r (some 0)], h)) rfl).trans ?_
  simp only [am_all]
  all_goals exact cj_k Iff.rfl (cj_k Iff.rfl (cj_k Iff.rfl (cj_k Iff.rfl (((am_Y_call (j := 224) (na := 4) (ci := 11) (fl := 0) rfl rfl rfl).trans (cj_d ⟨⟨Nat.le_of_ble_eq_true rfl, Nat.le_of_ble_eq_true rfl, Nat.le_of_ble_eq_true rfl, rfl⟩, Or.inr (Or.inr (show (11 : Nat) < 20 ∧ am_is h (some 0) 11 from ⟨by decide, (la_is Lh (o := 0) rfl)⟩))⟩ Iff.rfl))))))

set_option maxRecDepth 100000 in
theorem b_L_law_1573 {d : Nat} {Q : Option am_V → am_H → Prop} (h : am_H) (x3 : Int32) (l2 : Option am_V) (Lh : Lay h) : ex_ (d + 1) 0 1573 [some (v_x 20), some (v_r (some 0)), l2, some (v_i x3)] [] h Q ↔ vp_in (x3 + (1 : Int32)) (h_x h).1 ∧ vp_in (x3 + (2 : Int32)) (h_x h).1 ∧ ex_ d 225 0 [some (v_r (some 0)), some (v_i ((h_x h).2 (Int32.toNatClampNeg (x3 + (1 : Int32))))), some (v_i ((h_x h).2 (Int32.toNatClampNeg (x3 + (2 : Int32))))), none, none] [] h (fun r h' => ex_ (d + 1) 0 1587 [some (v_x 20), some (v_r (some 0)), l2, some (v_i x3)] (r.toList ++ []) h' Q) := by
  unfold ex_
  refine (am_Y_go 11 (ok := [vp_in (x3 + (1 : Int32)) (h_x h).1, vp_in (x3 + (2 : Int32)) (h_x h).1]) (g := (1584, [some (v_x 20), some (v_r (some 0)), l2, some (v_i x3)], [v_i ((h_x h).2 (Int32.toNatClampNeg (x3 + (2 : Int32)))), v_i ((h_x h).2 (Int32.toNatClampNeg (x3 + (1 : Int32)))), v_r (some 0)], h)) rfl).trans ?_
  simp only [am_all]
  all_goals exact cj_k Iff.rfl (cj_k Iff.rfl (((am_Y_call (j := 225) (na := 3) (ci := 11) (fl := 0) rfl rfl rfl).trans (cj_d ⟨⟨Nat.le_of_ble_eq_true rfl, Nat.le_of_ble_eq_true rfl, Nat.le_of_ble_eq_true rfl, rfl⟩, Or.inr (Or.inr (show (11 : Nat) < 20 ∧ am_is h (some 0) 11 from ⟨by decide, (la_is Lh (o := 0) rfl)⟩))⟩ Iff.rfl))))

set_option maxRecDepth 100000 in
theorem b_L_law_1606 {d : Nat} {Q : Option am_V → am_H → Prop} (h : am_H) (x3 : Int32) (l2 : Option am_V) (Lh : Lay h) : ex_ (d + 1) 0 1606 [some (v_x 20), some (v_r (some 0)), l2, some (v_i x3)] [] h Q ↔ vp_in (x3 + (1 : Int32)) (h_x h).1 ∧ ex_ d 226 0 [some (v_r (some 0)), some (v_i ((h_x h).2 (Int32.toNatClampNeg (x3 + (1 : Int32)))))] [] h (fun r h' => ex_ (d + 1) 0 1615 [some (v_x 20), some (v_r (some 0)), l2, some (v_i x3)] (r.toList ++ []) h' Q) := by
  unfold ex_
  refine (am_Y_go 6 (ok := [vp_in (x3 + (1 : Int32)) (h_x h).1]) (g := (1612, [some (v_x 20), some (v_r (some 0)), l2, some (v_i x3)], [v_i ((h_x h).2 (Int32.toNatClampNeg (x3 + (1 : Int32)))), v_r (some 0)], h)) rfl).trans ?_
  simp only [am_all]
  all_goals exact cj_k Iff.rfl (((am_Y_call (j := 226) (na := 2) (ci := 11) (fl := 0) rfl rfl rfl).trans (cj_d ⟨⟨Nat.le_of_ble_eq_true rfl, Nat.le_of_ble_eq_true rfl, Nat.le_of_ble_eq_true rfl, rfl⟩, Or.inr (Or.inr (show (11 : Nat) < 20 ∧ am_is h (some 0) 11 from ⟨by decide, (la_is Lh (o := 0) rfl)⟩))⟩ Iff.rfl)))

set_option maxRecDepth 100000 in
theorem b_L_law_1629 {d : Nat} {Q : Option am_V → am_H → Prop} (h : am_H) (x3 : Int32) (l2 : Option am_V) (Lh : Lay h) : ex_ (d + 1) 0 1629 [some (v_x 20), some (v_r (some 0)), l2, some (v_i x3)] [] h Q ↔ vp_in (x3 + (1 : Int32)) (h_x h).1 ∧ ex_ d 227 0 [some (v_r (some 0)), some (v_i ((h_x h).2 (Int32.toNatClampNeg (x3 + (1 : Int32)))))] [] h (fun r h' => ex_ (d + 1) 0 1638 [some (v_x 20), some (v_r (some 0)), l2, some (v_i x3)] (r.toList ++ []) h' Q) := by
  unfold ex_
  refine (am_Y_go 6 (ok := [vp_in (x3 + (1 : Int32)) (h_x h).1]) (g := (1635, [some (v_x 20), some (v_r (some 0)), l2, some (v_i x3)], [v_i ((h_x h).2 (Int32.toNatClampNeg (x3 + (1 : Int32)))), v_r (some 0)], h)) rfl).trans ?_
  simp only [am_all]
  all_goals exact cj_k Iff.rfl (((am_Y_call (j := 227) (na := 2) (ci := 11) (fl := 0) rfl rfl rfl).trans (cj_d ⟨⟨Nat.le_of_ble_eq_true rfl, Nat.le_of_ble_eq_true rfl, Nat.le_of_ble_eq_true rfl, rfl⟩, Or.inr (Or.inr (show (11 : Nat) < 20 ∧ am_is h (some 0) 11 from ⟨by decide, (la_is Lh (o := 0) rfl)⟩))⟩ Iff.rfl)))

set_option maxRecDepth 100000 in
theorem b_L_law_1652 {d : Nat} {Q : Option am_V → am_H → Prop} (h : am_H) (x3 : Int32) (l2 : Option am_V) (Lh : Lay h) : ex_ (d + 1) 0 1652 [some (v_x 20), some (v_r (some 0)), l2, some (v_i x3)] [] h Q ↔ vp_in (x3 + (1 : Int32)) (h_x h).1 ∧ ex_ d 228 0 [some (v_r (some 0)), some (v_i ((h_x h).2 (Int32.toNatClampNeg (x3 + (1 : Int32))))), none] [] h (fun r h' => ex_ (d + 1) 0 1661 [some (v_x 20), some (v_r (some 0)), l2, some (v_i x3)] (r.toList ++ []) h' Q) := by
  unfold ex_
  refine (am_Y_go 6 (ok := [vp_in (x3 + (1 : Int32)) (h_x h).1]) (g := (1658, [some (v_x 20), some (v_r (some 0)), l2, some (v_i x3)], [v_i ((h_x h).2 (Int32.toNatClampNeg (x3 + (1 : Int32)))), v_r (some 0)], h)) rfl).trans ?_
  simp only [am_all]
  all_goals exact cj_k Iff.rfl (((am_Y_call (j := 228) (na := 2) (ci := 11) (fl := 0) rfl rfl rfl).trans (cj_d ⟨⟨Nat.le_of_ble_eq_true rfl, Nat.le_of_ble_eq_true rfl, Nat.le_of_ble_eq_true rfl, rfl⟩, Or.inr (Or.inr (show (11 : Nat) < 20 ∧ am_is h (some 0) 11 from ⟨by decide, (la_is Lh (o := 0) rfl)⟩))⟩ Iff.rfl)))

set_option maxRecDepth 100000 in
theorem b_L_law_269 {d : Nat} {Q : Option am_V → am_H → Prop} (h : am_H) (s0 : Int32) (x3 : Int32) (l1 : Option am_V) (Lh : Lay h) : ex_ (d + 1) 0 269 [some (v_x 20), l1, some (v_r (some 93)), some (v_i x3)] [v_i s0] h Q ↔ vp_in (x3 + (1 : Int32)) (h_x h).1 ∧ vp_in (x3 + (2 : Int32)) (h_x h).1 ∧ vp_in (x3 + (3 : Int32)) (h_x h).1 ∧ vp_in (x3 + (4 : Int32)) (h_x h).1 ∧ vp_in (x3 + (5 : Int32)) (h_x h).1 ∧ ex_ d 232 0 [some (v_r (some 93)), some (v_i ((h_x h).2 (Int32.toNatClampNeg (x3 + (1 : Int32))))), some (v_i ((h_x h).2 (Int32.toNatClampNeg (x3 + (2 : Int32))))), some (v_i ((h_x h).2 (Int32.toNatClampNeg (x3 + (3 : Int32))))), some (v_i ((h_x h).2 (Int32.toNatClampNeg (x3 + (4 : Int32))))), some (v_i ((h_x h).2 (Int32.toNatClampNeg (x3 + (5 : Int32))))), none, none] [] h (fun r h' => ex_ (d + 1) 0 298 [some (v_x 20), l1, some (v_r (some 93)), some (v_i x3)] (r.toList ++ [v_i s0]) h' Q) := by
  unfold ex_
  refine (am_Y_go 26 (ok := [vp_in (x3 + (1 : Int32)) (h_x h).1, vp_in (x3 + (2 : Int32)) (h_x h).1, vp_in (x3 + (3 : Int32)) (h_x h).1, vp_in (x3 + (4 : Int32)) (h_x h).1, vp_in (x3 + (5 : Int32)) (h_x h).1]) (g := (295, [some (v_x 20), l1, some (v_r (some 93)), some (v_i x3)], [v_i ((h_x h).2 (Int32.toNatClampNeg (x3 + (5 : Int32)))), v_i ((h_x h).2 (Int32.toNatClampNeg (x3 + (4 : Int32)))), v_i ((h_x h).2 (Int32.toNatClampNeg (x3 + (3 : Int32)))), v_i ((h_x h).2 (Int32.toNatClampNeg (x3 + (2 : Int32)))), v_i ((h_x h).2 (Int32.toNatClampNeg (x3 + (1 : Int32)))), v_r (some 93), v_i s0], h)) rfl).trans ?_
  simp only [am_all]
  all_goals exact cj_k Iff.rfl (cj_k Iff.rfl (cj_k Iff.rfl (cj_k Iff.rfl (cj_k Iff.rfl (((am_Y_call (j := 232) (na := 6) (ci := 12) (fl := 0) rfl rfl rfl).trans (cj_d ⟨⟨Nat.le_of_ble_eq_true rfl, Nat.le_of_ble_eq_true rfl, Nat.le_of_ble_eq_true rfl, rfl⟩, Or.inr (Or.inr (show (12 : Nat) < 20 ∧ am_is h (some 93) 12 from ⟨by decide, (la_is Lh (o := 93) rfl)⟩))⟩ Iff.rfl)))))))

set_option maxRecDepth 100000 in
theorem b_L_law_312 {d : Nat} {Q : Option am_V → am_H → Prop} (h : am_H) (s0 : Int32) (x3 : Int32) (l1 : Option am_V) (Lh : Lay h) : ex_ (d + 1) 0 312 [some (v_x 20), l1, some (v_r (some 93)), some (v_i x3)] [v_i s0] h Q ↔ vp_in (x3 + (1 : Int32)) (h_x h).1 ∧ ex_ d 260 0 [some (v_r (some 93)), some (v_i ((h_x h).2 (Int32.toNatClampNeg (x3 + (1 : Int32))))), none] [] h (fun r h' => ex_ (d + 1) 0 321 [some (v_x 20), l1, some (v_r (some 93)), some (v_i x3)] (r.toList ++ [v_i s0]) h' Q) := by
  unfold ex_
  refine (am_Y_go 6 (ok := [vp_in (x3 + (1 : Int32)) (h_x h).1]) (g := (318, [some (v_x 20), l1, some (v_r (some 93)), some (v_i x3)], [v_i ((h_x h).2 (Int32.toNatClampNeg (x3 + (1 : Int32)))), v_r (some 93), v_i s0], h)) rfl).trans ?_
  simp only [am_all]
  all_goals exact cj_k Iff.rfl (((am_Y_call (j := 260) (na := 2) (ci := 12) (fl := 0) rfl rfl rfl).trans (cj_d ⟨⟨Nat.le_of_ble_eq_true rfl, Nat.le_of_ble_eq_true rfl, Nat.le_of_ble_eq_true rfl, rfl⟩, Or.inr (Or.inr (show (12 : Nat) < 20 ∧ am_is h (some 93) 12 from ⟨by decide, (la_is Lh (o := 93) rfl)⟩))⟩ Iff.rfl)))

set_option maxRecDepth 100000 in
theorem b_L_law_335 {d : Nat} {Q : Option am_V → am_H → Prop} (h : am_H) (s0 : Int32) (x3 : Int32) (l1 : Option am_V) (Lh : Lay h) : ex_ (d + 1) 0 335 [some (v_x 20), l1, some (v_r (some 93)), some (v_i x3)] [v_i s0] h Q ↔ vp_in (x3 + (1 : Int32)) (h_x h).1 ∧ ex_ d 261 0 [some (v_r (some 93)), some (v_i ((h_x h).2 (Int32.toNatClampNeg (x3 + (1 : Int32)))))] [] h (fun r h' => ex_ (d + 1) 0 344 [some (v_x 20), l1, some (v_r (some 93)), some (v_i x3)] (r.toList ++ [v_i s0]) h' Q) := by
  unfold ex_
  refine (am_Y_go 6 (ok := [vp_in (x3 + (1 : Int32)) (h_x h).1]) (g := (341, [some (v_x 20), l1, some (v_r (some 93)), some (v_i x3)], [v_i ((h_x h).2 (Int32.toNatClampNeg (x3 + (1 : Int32)))), v_r (some 93), v_i s0], h)) rfl).trans ?_
  simp only [am_all]
  all_goals exact cj_k Iff.rfl (((am_Y_call (j := 261) (na := 2) (ci := 12) (fl := 0) rfl rfl rfl).trans (cj_d ⟨⟨Nat.le_of_ble_eq_true rfl, Nat.le_of_ble_eq_true rfl, Nat.le_of_ble_eq_true rfl, rfl⟩, Or.inr (Or.inr (show (12 : Nat) < 20 ∧ am_is h (some 93) 12 from ⟨by decide, (la_is Lh (o := 93) rfl)⟩))⟩ Iff.rfl)))

set_option maxRecDepth 100000 in
theorem b_L_law_363 {d : Nat} {Q : Option am_V → am_H → Prop} (h : am_H) (s0 : Int32) (x3 : Int32) (l1 : Option am_V) (Lh : Lay h) : ex_ (d + 1) 0 363 [some (v_x 20), l1, some (v_r (some 93)), some (v_i x3)] [v_i s0] h Q ↔ vp_in (x3 + (1 : Int32)) (h_x h).1 ∧ vp_in (x3 + (2 : Int32)) (h_x h).1 ∧ ex_ d 275 0 [some (v_r (some 93)), some (v_i ((h_x h).2 (Int32.toNatClampNeg (x3 + (1 : Int32))))), some (v_i ((h_x h).2 (Int32.toNatClampNeg (x3 + (2 : Int32)))))] [] h (fun r h' => ex_ (d + 1) 0 377 [some (v_x 20), l1, some (v_r (some 93)), some (v_i x3)] (r.toList ++ [v_i s0]) h' Q) := by
  unfold ex_
  refine (am_Y_go 11 (ok := [vp_in (x3 + (1 : Int32)) (h_x h).1, vp_in (x3 + (2 : Int32)) (h_x h).1]) (g := (374, [some (v_x 20), l1, some (v_r (some 93)), some (v_i x3)], [v_i ((h_x h).2 (Int32.toNatClampNeg (x3 + (2 : Int32)))), v_i ((h_x h).2 (Int32.toNatClampNeg (x3 + (1 : Int32)))), v_r (some 93), v_i s0], h)) rfl).trans ?_
  simp only [am_all]
  all_goals exact cj_k Iff.rfl (cj_k Iff.rfl (((am_Y_call (j := 275) (na := 3) (ci := 12) (fl := 0) rfl rfl rfl).trans (cj_d ⟨⟨Nat.le_of_ble_eq_true rfl, Nat.le_of_ble_eq_true rfl, Nat.le_of_ble_eq_true rfl, rfl⟩, Or.inr (Or.inr (show (12 : Nat) < 20 ∧ am_is h (some 93) 12 from ⟨by decide, (la_is Lh (o := 93) rfl)⟩))⟩ Iff.rfl))))

set_option maxRecDepth 100000 in
theorem b_L_law_396 {d : Nat} {Q : Option am_V → am_H → Prop} (h : am_H) (s0 : Int32) (x3 : Int32) (l1 : Option am_V) (Lh : Lay h) : ex_ (d + 1) 0 396 [some (v_x 20), l1, some (v_r (some 93)), some (v_i x3)] [v_i s0] h Q ↔ vp_in (x3 + (1 : Int32)) (h_x h).1 ∧ vp_in (x3 + (2 : Int32)) (h_x h).1 ∧ ex_ d 276 0 [some (v_r (some 93)), some (v_i ((h_x h).2 (Int32.toNatClampNeg (x3 + (1 : Int32))))), some (v_i ((h_x h).2 (Int32.toNatClampNeg (x3 + (2 : Int32)))))] [] h (fun r h' => ex_ (d + 1) 0 410 [some (v_x 20), l1, some (v_r (some 93)), some (v_i x3)] (r.toList ++ [v_i s0]) h' Q) := by
  unfold ex_
  refine (am_Y_go 11 (ok := [vp_in (x3 + (1 : Int32)) (h_x h).1, vp_in (x3 + (2 : Int32)) (h_x h).1]) (g := (407, [some (v_x 20), l1, some (v_r (some 93)), some (v_i x3)], [v_i ((h_x h).2 (Int32.toNatClampNeg (x3 + (2 : Int32)))), v_i ((h_x h).2 (Int32.toNatClampNeg (x3 + (1 : Int32)))), v_r (some 93), v_i s0], h)) rfl).trans ?_
  simp only [am_all]
  all_goals exact cj_k Iff.rfl (cj_k Iff.rfl (((am_Y_call (j := 276) (na := 3) (ci := 12) (fl := 0) rfl rfl rfl).trans (cj_d ⟨⟨Nat.le_of_ble_eq_true rfl, Nat.le_of_ble_eq_true rfl, Nat.le_of_ble_eq_true rfl, rfl⟩, Or.inr (Or.inr (show (12 : Nat) < 20 ∧ am_is h (some 93) 12 from ⟨by decide, (la_is Lh (o := 93) rfl)⟩))⟩ Iff.rfl))))

set_option maxRecDepth 100000 in
theorem b_L_law_424 {d : Nat} {Q : Option am_V → am_H → Prop} (h : am_H) (s0 : Int32) (x3 : Int32) (l1 : Option am_V) (Lh : Lay h) : ex_ (d + 1) 0 424 [some (v_x 20), l1, some (v_r (some 93)), some (v_i x3)] [v_i s0] h Q ↔ vp_in (x3 + (1 : Int32)) (h_x h).1 ∧ ex_ d 277 0 [some (v_r (some 93)), some (v_i ((h_x h).2 (Int32.toNatClampNeg (x3 + (1 : Int32)))))] [] h (fun r h' => ex_ (d + 1) 0 433 [some (v_x 20), l1, some (v_r (some 93)), some (v_i x3)] (r.toList ++ [v_i s0]) h' Q) := by
  unfold ex_
  refine (am_Y_go 6 (ok := [vp_in (x3 + (1 : Int32)) (h_x h).1]) (g := (430, [some (v_x 20), l1, some (v_r (some 93)), some (v_i x3)], [v_i ((h_x h).2 (Int32.toNatClampNeg (x3 + (1 : Int32)))), v_r (some 93), v_i s0], h)) rfl).trans ?_
  simp only [am_all]
  all_goals exact cj_k Iff.rfl (((am_Y_call (j := 277) (na := 2) (ci := 12) (fl := 0) rfl rfl rfl).trans (cj_d ⟨⟨Nat.le_of_ble_eq_true rfl, Nat.le_of_ble_eq_true rfl, Nat.le_of_ble_eq_true rfl, rfl⟩, Or.inr (Or.inr (show (12 : Nat) < 20 ∧ am_is h (some 93) 12 from ⟨by decide, (la_is Lh (o := 93) rfl)⟩))⟩ Iff.rfl)))

set_option maxRecDepth 100000 in
theorem b_L_law_452 {d : Nat} {Q : Option am_V → am_H → Prop} (h : am_H) (s0 : Int32) (x3 : Int32) (l1 : Option am_V) (Lh : Lay h) : ex_ (d + 1) 0 452 [some (v_x 20), l1, some (v_r (some 93)), some (v_i x3)] [v_i s0] h Q ↔ vp_in (x3 + (1 : Int32)) (h_x h).1 ∧ vp_in (x3 + (2 : Int32)) (h_x h).1 ∧ ex_ d 278 0 [some (v_r (some 93)), some (v_i ((h_x h).2 (Int32.toNatClampNeg (x3 + (1 : Int32))))), some (v_i ((h_x h).2 (Int32.toNatClampNeg (x3 + (2 : Int32)))))] [] h (fun r h' => ex_ (d + 1) 0 466 [some (v_x 20), l1, some (v_r (some 93)), some (v_i x3)] (r.toList ++ [v_i s0]) h' Q) := by
  unfold ex_
  refine (am_Y_go 11 (ok := [vp_in (x3 + (1 : Int32)) (h_x h).1, vp_in (x3 + (2 : Int32)) (h_x h).1]) (g := (463, [some (v_x 20), l1, some (v_r (some 93)), some (v_i x3)], [v_i ((h_x h).2 (Int32.toNatClampNeg (x3 + (2 : Int32)))), v_i ((h_x h).2 (Int32.toNatClampNeg (x3 + (1 : Int32)))), v_r (some 93), v_i s0], h)) rfl).trans ?_
  simp only [am_all]
  all_goals exact cj_k Iff.rfl (cj_k Iff.rfl (((am_Y_call (j := 278) (na := 3) (ci := 12) (fl := 0) rfl rfl rfl).trans (cj_d ⟨⟨Nat.le_of_ble_eq_true rfl, Nat.le_of_ble_eq_true rfl, Nat.le_of_ble_eq_true rfl, rfl⟩, Or.inr (Or.inr (show (12 : Nat) < 20 ∧ am_is h (some 93) 12 from ⟨by decide, (la_is Lh (o := 93) rfl)⟩))⟩ Iff.rfl))))

set_option maxRecDepth 100000 in
theorem b_L_law_485 {d : Nat} {Q : Option am_V → am_H → Prop} (h : am_H) (s0 : Int32) (x3 : Int32) (l1 : Option am_V) (Lh : Lay h) : ex_ (d + 1) 0 485 [some (v_x 20), l1, some (v_r (some 93)), some (v_i x3)] [v_i s0] h Q ↔ vp_in (x3 + (1 : Int32)) (h_x h).1 ∧ vp_in (x3 + (2 : Int32)) (h_x h).1 ∧ ex_ d 279 0 [some (v_r (some 93)), some (v_i ((h_x h).2 (Int32.toNatClampNeg (x3 + (1 : Int32))))), some (v_i ((h_x h).2 (Int32.toNatClampNeg (x3 + (2 : Int32)))))] [] h (fun r h' => ex_ (d + 1) 0 499 [some (v_x 20), l1, some (v_r (some 93)), some (v_i x3)] (r.toList ++ [v_i s0]) h' Q) := by
  unfold ex_
  refine (am_Y_go 11 (ok := [vp_in (x3 + (1 : Int32)) (h_x h).1, vp_in (x3 + (2 : Int32)) (h_x h).1]) (g := (496, [some (v_x 20), l1, some (v_r (some 93)), some (v_i x3)], [v_i ((h_x h).2 (Int32.toNatClampNeg (x3 + (2 : Int32)))), v_i ((h_x h).2 (Int32.toNatClampNeg (x3 + (1 : Int32)))), v_r (some 93), v_i s0], h)) rfl).trans ?_
  simp only [am_all]
  all_goals exact cj_k Iff.rfl (cj_k Iff.rfl (((am_Y_call (j := 279) (na := 3) (ci := 12) (fl := 0) rfl rfl rfl).trans (cj_d ⟨⟨Nat.le_of_ble_eq_true rfl, Nat.le_of_ble_eq_true rfl, Nat.le_of_ble_eq_true rfl, rfl⟩, Or.inr (Or.inr (show (12 : Nat) < 20 ∧ am_is h (some 93) 12 from ⟨by decide, (la_is Lh (o := 93) rfl)⟩))⟩ Iff.rfl))))

set_option maxRecDepth 100000 in
theorem b_L_law_513 {d : Nat} {Q : Option am_V → am_H → Prop} (h : am_H) (s0 : Int32) (x3 : Int32) (l1 : Option am_V) (Lh : Lay h) : ex_ (d + 1) 0 513 [some (v_x 20), l1, some (v_r (some 93)), some (v_i x3)] [v_i s0] h Q ↔ vp_in (x3 + (1 : Int32)) (h_x h).1 ∧ ex_ d 281 0 [some (v_r (some 93)), some (v_i ((h_x h).2 (Int32.toNatClampNeg (x3 + (1 : Int32)))))] [] h (fun r h' => ex_ (d + 1) 0 522 [some (v_x 20), l1, some (v_r (some 93)), some (v_i x3)] (r.toList ++ [v_i s0]) h' Q) := by
  unfold ex_
  refine (am_Y_go 6 (ok := [vp_in (x3 + (1 : Int32)) (h_x h).1]) (g := (519, [some (v_x 20), l1, some (v_r (some 93)), some (v_i x3)], [v_i ((h_x h).2 (Int32.toNatClampNeg (x3 + (1 : Int32)))), v_r (some 93), v_i s0], h)) rfl).trans ?_
  simp only [am_all]
  all_goals exact cj_k Iff.rfl (((am_Y_call (j := 281) (na := 2) (ci := 12) (fl := 0) rfl rfl rfl).trans (cj_d ⟨⟨Nat.le_of_ble_eq_true rfl, Nat.le_of_ble_eq_true rfl, Nat.le_of_ble_eq_true rfl, rfl⟩, Or.inr (Or.inr (show (12 : Nat) < 20 ∧ am_is h (some 93) 12 from ⟨by decide, (la_is Lh (o := 93) rfl)⟩))⟩ Iff.rfl)))

set_option maxRecDepth 100000 in
theorem b_L_law_536 {d : Nat} {Q : Option am_V → am_H → Prop} (h : am_H) (s0 : Int32) (x3 : Int32) (l1 : Option am_V) (Lh : Lay h) : ex_ (d + 1) 0 536 [some (v_x 20), l1, some (v_r (some 93)), some (v_i x3)] [v_i s0] h Q ↔ vp_in (x3 + (1 : Int32)) (h_x h).1 ∧ ex_ d 282 0 [some (v_r (some 93)), some (v_i ((h_x h).2 (Int32.toNatClampNeg (x3 + (1 : Int32))))), none, none] [] h (fun r h' => ex_ (d + 1) 0 545 [some (v_x 20), l1, some (v_r (some 93)), some (v_i x3)] (r.toList ++ [v_i s0]) h' Q) := by
  unfold ex_
  refine (am_Y_go 6 (ok := [vp_in (x3 + (1 : Int32)) (h_x h).1]) (g := (542, [some (v_x 20), l1, some (v_r (some 93)), some (v_i x3)], [v_i ((h_x h).2 (Int32.toNatClampNeg (x3 + (1 : Int32)))), v_r (some 93), v_i s0], h)) rfl).trans ?_
  simp only [am_all]
  all_goals exact cj_k Iff.rfl (((am_Y_call (j := 282) (na := 2) (ci := 12) (fl := 0) rfl rfl rfl).trans (cj_d ⟨⟨Nat.le_of_ble_eq_true rfl, Nat.le_of_ble_eq_true rfl, Nat.le_of_ble_eq_true rfl, rfl⟩, Or.inr (Or.inr (show (12 : Nat) < 20 ∧ am_is h (some 93) 12 from ⟨by decide, (la_is Lh (o := 93) rfl)⟩))⟩ Iff.rfl)))

set_option maxRecDepth 100000 in
theorem b_L_law_564 {d : Nat} {Q : Option am_V → am_H → Prop} (h : am_H) (s0 : Int32) (x3 : Int32) (l1 : Option am_V) (Lh : Lay h) : ex_ (d + 1) 0 564 [some (v_x 20), l1, some (v_r (some 93)), some (v_i x3)] [v_i s0] h Q ↔ vp_in (x3 + (1 : Int32)) (h_x h).1 ∧ vp_in (x3 + (2 : Int32)) (h_x h).1 ∧ ex_ d 294 0 [some (v_r (some 93)), some (v_i ((h_x h).2 (Int32.toNatClampNeg (x3 + (1 : Int32))))), some (v_i ((h_x h).2 (Int32.toNatClampNeg (x3 + (2 : Int32))))), none] [] h (fun r h' => ex_ (d + 1) 0 578 [some (v_x 20), l1, some (v_r (some 93)), some (v_i x3)] (r.toList ++ [v_i s0]) h' Q) := by
  unfold ex_
  refine (am_Y_go 11 (ok := [vp_in (x3 + (1 : Int32)) (h_x h).1, vp_in (x3 + (2 : Int32)) (h_x h).1]) (g := (575, [some (v_x 20), l1, some (v_r (some 93)), some (v_i x3)], [v_i ((h_x h).2 (Int32.toNatClampNeg (x3 + (2 : Int32)))), v_i ((h_x h).2 (Int32.toNatClampNeg (x3 + (1 : Int32)))), v_r (some 93), v_i s0], h)) rfl).trans ?_
  simp only [am_all]
  all_goals exact cj_k Iff.rfl (cj_k Iff.rfl (((am_Y_call (j := 294) (na := 3) (ci := 12) (fl := 0) rfl rfl rfl).trans (cj_d ⟨⟨Nat.le_of_ble_eq_true rfl, Nat.le_of_ble_eq_true rfl, Nat.le_of_ble_eq_true rfl, rfl⟩, Or.inr (Or.inr (show (12 : Nat) < 20 ∧ am_is h (some 93) 12 from ⟨by decide, (la_is Lh (o := 93) rfl)⟩))⟩ Iff.rfl))))

set_option maxRecDepth 100000 in
theorem b_L_law_597 {d : Nat} {Q : Option am_V → am_H → Prop} (h : am_H) (s0 : Int32) (x3 : Int32) (l1 : Option am_V) (Lh : Lay h) : ex_ (d + 1) 0 597 [some (v_x 20), l1, some (v_r (some 93)), some (v_i x3)] [v_i s0] h Q ↔ vp_in (x3 + (1 : Int32)) (h_x h).1 ∧ vp_in (x3 + (2 : Int32)) (h_x h).1 ∧ ex_ d 295 0 [some (v_r (some 93)), some (v_i ((h_x h).2 (Int32.toNatClampNeg (x3 + (1 : Int32))))), some (v_i ((h_x h).2 (Int32.toNatClampNeg (x3 + (2 : Int32))))), none] [] h (fun r h' => ex_ (d + 1) 0 611 [some (v_x 20), l1, some (v_r (some 93)), some (v_i x3)] (r.toList ++ [v_i s0]) h' Q) := by
  unfold ex_
  refine (am_Y_go 11 (ok := [vp_in (x3 + (1 : Int32)) (h_x h).1, vp_in (x3 + (2 : Int32)) (h_x h).1]) (g := (608, [some (v_x 20), l1, some (v_r (some 93)), some (v_i x3)], [v_i ((h_x h).2 (Int32.toNatClampNeg (x3 + (2 : Int32)))), v_i ((h_x h).2 (Int32.toNatClampNeg (x3 + (1 : Int32)))), v_r (some 93), v_i s0], h)) rfl).trans ?_
  simp only [am_all]
  all_goals exact cj_k Iff.rfl (cj_k Iff.rfl (((am_Y_call (j := 295) (na := 3) (ci := 12) (fl := 0) rfl rfl rfl).trans (cj_d ⟨⟨Nat.le_of_ble_eq_true rfl, Nat.le_of_ble_eq_true rfl, Nat.le_of_ble_eq_true rfl, rfl⟩, Or.inr (Or.inr (show (12 : Nat) < 20 ∧ am_is h (some 93) 12 from ⟨by decide, (la_is Lh (o := 93) rfl)⟩))⟩ Iff.rfl))))

set_option maxRecDepth 100000 in
theorem b_L_law_630 {d : Nat} {Q : Option am_V → am_H → Prop} (h : am_H) (s0 : Int32) (x3 : Int32) (l1 : Option am_V) (Lh : Lay h) : ex_ (d + 1) 0 630 [some (v_x 20), l1, some (v_r (some 93)), some (v_i x3)] [v_i s0] h Q ↔ vp_in (x3 + (1 : Int32)) (h_x h).1 ∧ vp_in (x3 + (2 : Int32)) (h_x h).1 ∧ ex_ d 296 0 [some (v_r (some 93)), some (v_i ((h_x h).2 (Int32.toNatClampNeg (x3 + (1 : Int32))))), some (v_i ((h_x h).2 (Int32.toNatClampNeg (x3 + (2 : Int32))))), none] [] h (fun r h' => ex_ (d + 1) 0 644 [some (v_x 20), l1, some (v_r (some 93)), some (v_i x3)] (r.toList ++ [v_i s0]) h' Q) := by
  unfold ex_
  refine (am_Y_go 11 (ok := [vp_in (x3 + (1 : Int32)) (h_x h).1, vp_in (x3 + (2 : Int32)) (h_x h).1]) (g := (641, [some (v_x 20), l1, some (v_r (some 93)), some (v_i x3)], [v_i ((h_x h).2 (Int32.toNatClampNeg (x3 + (2 : Int32)))), v_i ((h_x h).2 (Int32.toNatClampNeg (x3 + (1 : Int32)))), v_r (some 93), v_i s0], h)) rfl).trans ?_
  simp only [am_all]
  all_goals exact cj_k Iff.rfl (cj_k Iff.rfl (((am_Y_call (j := 296) (na := 3) (ci := 12) (fl := 0) rfl rfl rfl).trans (cj_d ⟨⟨Nat.le_of_ble_eq_true rfl, Nat.le_of_ble_eq_true rfl, Nat.le_of_ble_eq_true rfl, rfl⟩, Or.inr (Or.inr (show (12 : Nat) < 20 ∧ am_is h (some 93) 12 from ⟨by decide, (la_is Lh (o := 93) rfl)⟩))⟩ Iff.rfl))))

set_option maxRecDepth 100000 in
theorem b_L_law_668 {d : Nat} {Q : Option am_V → am_H → Prop} (h : am_H) (s0 : Int32) (x3 : Int32) (l1 : Option am_V) (Lh : Lay h) : ex_ (d + 1) 0 668 [some (v_x 20), l1, some (v_r (some 93)), some (v_i x3)] [v_i s0] h Q ↔ vp_in (x3 + (1 : Int32)) (h_x h).1 ∧ vp_in (x3 + (2 : Int32)) (h_x h).1 ∧ vp_in (x3 + (3 : Int32)) (h_x h).1 ∧ ex_ d 297 0 [some (v_r (some 93)), some (v_i ((h_x h).2 (Int32.toNatClampNeg (x3 + (1 : Int32))))), some (v_i ((h_x h).2 (Int32.toNatClampNeg (x3 + (2 : Int32))))), some (v_i ((h_x h).2 (Int32.toNatClampNeg (x3 + (3 : Int32))))), none] [] h (fun r h' => ex_ (d + 1) 0 687 [some (v_x 20), l1, some (v_r (some 93)), some (v_i x3)] (r.toList ++ [v_i s0]) h' Q) := by
  unfold ex_
  refine (am_Y_go 16 (ok := [vp_in (x3 + (1 : Int32)) (h_x h).1, vp_in (x3 + (2 : Int32)) (h_x h).1, vp_in (x3 + (3 : Int32)) (h_x h).1]) (g := (684, [some (v_x 20), l1, some (v_r (some 93)), some (v_i x3)], [v_i ((h_x h).2 (Int32.toNatClampNeg (x3 + (3 : Int32)))), v_i ((h_x h).2 (Int32.toNatClampNeg (x3 + (2 : Int32)))), v_i ((h_x h).2 (Int32.toNatClampNeg (x3 + (1 : Int32)))), v_r (some 93), v_i s0], h)) rfl).trans ?_
  simp only [am_all]
  all_goals exact cj_k Iff.rfl (cj_k Iff.rfl (cj_k Iff.rfl (((am_Y_call (j := 297) (na := 4) (ci := 12) (fl := 0) rfl rfl rfl).trans (cj_d ⟨⟨Nat.le_of_ble_eq_true rfl, Nat.le_of_ble_eq_true rfl, Nat.le_of_ble_eq_true rfl, rfl⟩, Or.inr (Or.inr (show (12 : Nat) < 20 ∧ am_is h (some 93) 12 from ⟨by decide, (la_is Lh (o := 93) rfl)⟩))⟩ Iff.rfl)))))

set_option maxRecDepth 100000 in
theorem b_L_law_701 {d : Nat} {Q : Option am_V → am_H → Prop} (h : am_H) (s0 : Int32) (x3 : Int32) (l1 : Option am_V) (Lh : Lay h) : ex_ (d + 1) 0 701 [some (v_x 20), l1, some (v_r (some 93)), some (v_i x3)] [v_i s0] h Q ↔ vp_in (x3 + (1 : Int32)) (h_x h).1 ∧ ex_ d 298 0 [some (v_r (some 93)), some (v_i ((h_x h).2 (Int32.toNatClampNeg (x3 + (1 : Int32)))))] [] h (fun r h' => ex_ (d + 1) 0 710 [some (v_x 20), l1, some (v_r (some 93)), some (v_i x3)] (r.toList ++ [v_i s0]) h' Q) := by
  unfold ex_
  refine (am_Y_go 6 (ok := [vp_in (x3 + (1 : Int32)) (h_x h).1]) (g := (707, [some (v_x 20), l1, some (v_r (some 93)), some (v_i x3)], [v_i ((h_x h).2 (Int32.toNatClampNeg (x3 + (1 : Int32)))), v_r (some 93), v_i s0], h)) rfl).trans ?_
  simp only [am_all]
  all_goals exact cj_k Iff.rfl (((am_Y_call (j := 298) (na := 2) (ci := 12) (fl := 0) rfl rfl rfl).trans (cj_d ⟨⟨Nat.le_of_ble_eq_true rfl, Nat.le_of_ble_eq_true rfl, Nat.le_of_ble_eq_true rfl, rfl⟩, Or.inr (Or.inr (show (12 : Nat) < 20 ∧ am_is h (some 93) 12 from ⟨by decide, (la_is Lh (o := 93) rfl)⟩))⟩ Iff.rfl)))

set_option maxRecDepth 100000 in
theorem b_L_law_724 {d : Nat} {Q : Option am_V → am_H → Prop} (h : am_H) (s0 : Int32) (x3 : Int32) (l1 : Option am_V) (Lh : Lay h) : ex_ (d + 1) 0 724 [some (v_x 20), l1, some (v_r (some 93)), some (v_i x3)] [v_i s0] h Q ↔ vp_in (x3 + (1 : Int32)) (h_x h).1 ∧ ex_ d 299 0 [some (v_r (some 93)), some (v_i ((h_x h).2 (Int32.toNatClampNeg (x3 + (1 : Int32))))), none] [] h (fun r h' => ex_ (d + 1) 0 733 [some (v_x 20), l1, some (v_r (some 93)), some (v_i x3)] (r.toList ++ [v_i s0]) h' Q) := by
  unfold ex_
  refine (am_Y_go 6 (ok := [vp_in (x3 + (1 : Int32)) (h_x h).1]) (g := (730, [some (v_x 20), l1, some (v_r (some 93)), some (v_i x3)], [v_i ((h_x h).2 (Int32.toNatClampNeg (x3 + (1 : Int32)))), v_r (some 93), v_i s0], h)) rfl).trans ?_
  simp only [am_all]
  all_goals exact cj_k Iff.rfl (((am_Y_call (j := 299) (na := 2) (ci := 12) (fl := 0) rfl rfl rfl).trans (cj_d ⟨⟨Nat.le_of_ble_eq_true rfl, Nat.le_of_ble_eq_true rfl, Nat.le_of_ble_eq_true rfl, rfl⟩, Or.inr (Or.inr (show (12 : Nat) < 20 ∧ am_is h (some 93) 12 from ⟨by decide, (la_is Lh (o := 93) rfl)⟩))⟩ Iff.rfl)))

set_option maxRecDepth 100000 in
theorem b_L_law_752 {d : Nat} {Q : Option am_V → am_H → Prop} (h : am_H) (s0 : Int32) (x3 : Int32) (l1 : Option am_V) (Lh : Lay h) : ex_ (d + 1) 0 752 [some (v_x 20), l1, some (v_r (some 93)), some (v_i x3)] [v_i s0] h Q ↔ vp_in (x3 + (1 : Int32)) (h_x h).1 ∧ vp_in (x3 + (2 : Int32)) (h_x h).1 ∧ ex_ d 305 0 [some (v_r (some 93)), some (v_i ((h_x h).2 (Int32.toNatClampNeg (x3 + (1 : Int32))))), some (v_i ((h_x h).2 (Int32.toNatClampNeg (x3 + (2 : Int32))))), none, none, none, none] [] h (fun r h' => ex_ (d + 1) 0 766 [some (v_x 20), l1, some (v_r (some 93)), some (v_i x3)] (r.toList ++ [v_i s0]) h' Q) := by
  unfold ex_
  refine (am_Y_go 11 (ok := [vp_in (x3 + (1 : Int32)) (h_x h).1, vp_in (x3 + (2 : Int32)) (h_x h).1]) (g := (763, [some (v_x 20), l1, some (v_r (some 93)), some (v_i x3)], [v_i ((h_x h).2 (Int32.toNatClampNeg (x3 + (2 : Int32)))), v_i ((h_x h).2 (Int32.toNatClampNeg (x3 + (1 : Int32)))), v_r (some 93), v_i s0], h)) rfl).trans ?_
  simp only [am_all]
  all_goals exact cj_k Iff.rfl (cj_k Iff.rfl (((am_Y_call (j := 305) (na := 3) (ci := 12) (fl := 0) rfl rfl rfl).trans (cj_d ⟨⟨Nat.le_of_ble_eq_true rfl, Nat.le_of_ble_eq_true rfl, Nat.le_of_ble_eq_true rfl, rfl⟩, Or.inr (Or.inr (show (12 : Nat) < 20 ∧ am_is h (some 93) 12 from ⟨by decide, (la_is Lh (o := 93) rfl)⟩))⟩ Iff.rfl))))

set_option maxRecDepth 100000 in
theorem b_L_law_780 {d : Nat} {Q : Option am_V → am_H → Prop} (h : am_H) (s0 : Int32) (x3 : Int32) (l1 : Option am_V) (Lh : Lay h) : ex_ (d + 1) 0 780 [some (v_x 20), l1, some (v_r (some 93)), some (v_i x3)] [v_i s0] h Q ↔ vp_in (x3 + (1 : Int32)) (h_x h).1 ∧ ex_ d 306 0 [some (v_r (some 93)), some (v_i ((h_x h).2 (Int32.toNatClampNeg (x3 + (1 : Int32))))), none, none] [] h (fun r h' => ex_ (d + 1) 0 789 [some (v_x 20), l1, some (v_r (some 93)), some (v_i x3)] (r.toList ++ [v_i s0]) h' Q) := by
  unfold ex_
  refine (am_Y_go 6 (ok := [vp_in (x3 + (1 : Int32)) (h_x h).1]) (g := (786, [some (v_x 20), l1, some (v_r (some 93)), some (v_i x3)], [v_i ((h_x h).2 (Int32.toNatClampNeg (x3 + (1 : Int32)))), v_r (some 93), v_i s0], h)) rfl).trans ?_
  simp only [am_all]
  all_goals exact cj_k Iff.rfl (((am_Y_call (j := 306) (na := 2) (ci := 12) (fl := 0) rfl rfl rfl).trans (cj_d ⟨⟨Nat.le_of_ble_eq_true rfl, Nat.le_of_ble_eq_true rfl, Nat.le_of_ble_eq_true rfl, rfl⟩, Or.inr (Or.inr (show (12 : Nat) < 20 ∧ am_is h (some 93) 12 from ⟨by decide, (la_is Lh (o := 93) rfl)⟩))⟩ Iff.rfl)))

set_option maxRecDepth 100000 in
theorem b_L_law_808 {d : Nat} {Q : Option am_V → am_H → Prop} (h : am_H) (s0 : Int32) (x3 : Int32) (l1 : Option am_V) (Lh : Lay h) : ex_ (d + 1) 0 808 [some (v_x 20), l1, some (v_r (some 93)), some (v_i x3)] [v_i s0] h Q ↔ vp_in (x3 + (1 : Int32)) (h_x h).1 ∧ vp_in (x3 + (2 : Int32)) (h_x h).1 ∧ ex_ d 309 0 [some (v_r (some 93)), some (v_i ((h_x h).2 (Int32.toNatClampNeg (x3 + (1 : Int32))))), some (v_i ((h_x h).2 (Int32.toNatClampNeg (x3 + (2 : Int32))))), none, none, none] [] h (fun r h' => ex_ (d + 1) 0 822 [some (v_x 20), l1, some (v_r (some 93)), some (v_i x3)] (r.toList ++ [v_i s0]) h' Q) := by
  unfold ex_
  refine (am_Y_go 11 (ok := [vp_in (x3 + (1 : Int32)) (h_x h).1, vp_in (x3 + (2 : Int32)) (h_x h).1]) (g := (819, [some (v_x 20), l1, some (v_r (some 93)), some (v_i x3)], [v_i ((h_x h).2 (Int32.toNatClampNeg (x3 + (2 : Int32)))), v_i ((h_x h).2 (Int32.toNatClampNeg (x3 + (1 : Int32)))), v_r (some 93), v_i s0], h)) rfl).trans ?_
  simp only [am_all]
  all_goals exact cj_k Iff.rfl (cj_k Iff.rfl (((am_Y_call (j := 309) (na := 3) (ci := 12) (fl := 0) rfl rfl rfl).trans (cj_d ⟨⟨Nat.le_of_ble_eq_true rfl, Nat.le_of_ble_eq_true rfl, Nat.le_of_ble_eq_true rfl, rfl⟩, Or.inr (Or.inr (show (12 : Nat) < 20 ∧ am_is h (some 93) 12 from ⟨by decide, (la_is Lh (o := 93) rfl)⟩))⟩ Iff.rfl))))

set_option maxRecDepth 100000 in
theorem b_L_law_836 {d : Nat} {Q : Option am_V → am_H → Prop} (h : am_H) (s0 : Int32) (x3 : Int32) (l1 : Option am_V) (Lh : Lay h) : ex_ (d + 1) 0 836 [some (v_x 20), l1, some (v_r (some 93)), some (v_i x3)] [v_i s0] h Q ↔ vp_in (x3 + (1 : Int32)) (h_x h).1 ∧ ex_ d 313 0 [some (v_r (some 93)), some (v_i ((h_x h).2 (Int32.toNatClampNeg (x3 + (1 : Int32))))), none, none, none] [] h (fun r h' => ex_ (d + 1) 0 845 [some (v_x 20), l1, some (v_r (some 93)), some (v_i x3)] (r.toList ++ [v_i s0]) h' Q) := by
  unfold ex_
  refine (am_Y_go 6 (ok := [vp_in (x3 + (1 : Int32)) (h_x h).1]) (g := (842, [some (v_x 20), l1, some (v_r (some 93)), some (v_i x3)], [v_i ((h_x h).2 (Int32.toNatClampNeg (x3 + (1 : Int32)))), v_r (some 93), v_i s0], h)) rfl).trans ?_
  simp only [am_all]
  all_goals exact cj_k Iff.rfl (((am_Y_call (j := 313) (na := 2) (ci := 12) (fl := 0) rfl rfl rfl).trans (cj_d ⟨⟨Nat.le_of_ble_eq_true rfl, Nat.le_of_ble_eq_true rfl, Nat.le_of_ble_eq_true rfl, rfl⟩, Or.inr (Or.inr (show (12 : Nat) < 20 ∧ am_is h (some 93) 12 from ⟨by decide, (la_is Lh (o := 93) rfl)⟩))⟩ Iff.rfl)))

set_option maxRecDepth 100000 in
theorem b_L_law_864 {d : Nat} {Q : Option am_V → am_H → Prop} (h : am_H) (s0 : Int32) (x3 : Int32) (l1 : Option am_V) (Lh : Lay h) : ex_ (d + 1) 0 864 [some (v_x 20), l1, some (v_r (some 93)), some (v_i x3)] [v_i s0] h Q ↔ vp_in (x3 + (1 : Int32)) (h_x h).1 ∧ vp_in (x3 + (2 : Int32)) (h_x h).1 ∧ ex_ d 314 0 [some (v_r (some 93)), some (v_i ((h_x h).2 (Int32.toNatClampNeg (x3 + (1 : Int32))))), some (v_i ((h_x h).2 (Int32.toNatClampNeg (x3 + (2 : Int32))))), none, none] [] h (fun r h' => ex_ (d + 1) 0 878 [some (v_x 20), l1, some (v_r (some 93)), some (v_i x3)] (r.toList ++ [v_i s0]) h' Q) := by
  unfold ex_
  refine (am_Y_go 11 (ok := [vp_in (x3 + (1 : Int32)) (h_x h).1, vp_in (x3 + (2 : Int32)) (h_x h).1]) (g := (875, [some (v_x 20), l1, some (v_r (some 93)), some (v_i x3)], [v_i ((h_x h).2 (Int32.toNatClampNeg (x3 + (2 : Int32)))), v_i ((h_x h).2 (Int32.toNatClampNeg (x3 + (1 : Int32)))), v_r (some 93), v_i s0], h)) rfl).trans ?_
  simp only [am_all]
  all_goals exact cj_k Iff.rfl (cj_k Iff.rfl (((am_Y_call (j := 314) (na := 3) (ci := 12) (fl := 0) rfl rfl rfl).trans (cj_d ⟨⟨Nat.le_of_ble_eq_true rfl, Nat.le_of_ble_eq_true rfl, Nat.le_of_ble_eq_true rfl, rfl⟩, Or.inr (Or.inr (show (12 : Nat) < 20 ∧ am_is h (some 93) 12 from ⟨by decide, (la_is Lh (o := 93) rfl)⟩))⟩ Iff.rfl))))

set_option maxRecDepth 100000 in
theorem b_L_law_897 {d : Nat} {Q : Option am_V → am_H → Prop} (h : am_H) (s0 : Int32) (x3 : Int32) (l1 : Option am_V) (Lh : Lay h) : ex_ (d + 1) 0 897 [some (v_x 20), l1, some (v_r (some 93)), some (v_i x3)] [v_i s0] h Q ↔ vp_in (x3 + (1 : Int32)) (h_x h).1 ∧ vp_in (x3 + (2 : Int32)) (h_x h).1 ∧ ex_ d 317 0 [some (v_r (some 93)), some (v_i ((h_x h).2 (Int32.toNatClampNeg (x3 + (1 : Int32))))), some (v_i ((h_x h).2 (Int32.toNatClampNeg (x3 + (2 : Int32)))))] [] h (fun r h' => ex_ (d + 1) 0 911 [some (v_x 20), l1, some (v_r (some 93)), some (v_i x3)] (r.toList ++ [v_i s0]) h' Q) := by
  unfold ex_
  refine (am_Y_go 11 (ok := [vp_in (x3 + (1 : Int32)) (h_x h).1, vp_in (x3 + (2 : Int32)) (h_x h).1]) (g := (908, [some (v_x 20), l1, some (v_r (some 93)), some (v_i x3)], [v_i ((h_x h).2 (Int32.toNatClampNeg (x3 + (2 : Int32)))), v_i ((h_x h).2 (Int32.toNatClampNeg (x3 + (1 : Int32)))), v_r (some 93), v_i s0], h)) rfl).trans ?_
  simp only [am_all]
  all_goals exact cj_k Iff.rfl (cj_k Iff.rfl (((am_Y_call (j := 317) (na := 3) (ci := 12) (fl := 0) rfl rfl rfl).trans (cj_d ⟨⟨Nat.le_of_ble_eq_true rfl, Nat.le_of_ble_eq_true rfl, Nat.le_of_ble_eq_true rfl, rfl⟩, Or.inr (Or.inr (show (12 : Nat) < 20 ∧ am_is h (some 93) 12 from ⟨by decide, (la_is Lh (o := 93) rfl)⟩))⟩ Iff.rfl))))

set_option maxRecDepth 100000 in
theorem b_L_law_925 {d : Nat} {Q : Option am_V → am_H → Prop} (h : am_H) (s0 : Int32) (x3 : Int32) (l1 : Option am_V) (Lh : Lay h) : ex_ (d + 1) 0 925 [some (v_x 20), l1, some (v_r (some 93)), some (v_i x3)] [v_i s0] h Q ↔ vp_in (x3 + (1 : Int32)) (h_x h).1 ∧ ex_ d 320 0 [some (v_r (some 93)), some (v_i ((h_x h).2 (Int32.toNatClampNeg (x3 + (1 : Int32))))), none] [] h (fun r h' => ex_ (d + 1) 0 934 [some (v_x 20), l1, some (v_r (some 93)), some (v_i x3)] (r.toList ++ [v_i s0]) h' Q) := by
  unfold ex_
  refine (am_Y_go 6 (ok := [vp_in (x3 + (1 : Int32)) (h_x h).1]) (g := (931, [some (v_x 20), l1, some (v_r (some 93)), some (v_i x3)], [v_i ((h_x h).2 (Int32.toNatClampNeg (x3 + (1 : Int32)))), v_r (some 93), v_i s0], h)) rfl).trans ?_
  simp only [am_all]
  all_goals exact cj_k Iff.rfl (((am_Y_call (j := 320) (na := 2) (ci := 12) (fl := 0) rfl rfl rfl).trans (cj_d ⟨⟨Nat.le_of_ble_eq_true rfl, Nat.le_of_ble_eq_true rfl, Nat.le_of_ble_eq_true rfl, rfl⟩, Or.inr (Or.inr (show (12 : Nat) < 20 ∧ am_is h (some 93) 12 from ⟨by decide, (la_is Lh (o := 93) rfl)⟩))⟩ Iff.rfl)))

set_option maxRecDepth 100000 in
theorem b_L_law_948 {d : Nat} {Q : Option am_V → am_H → Prop} (h : am_H) (s0 : Int32) (x3 : Int32) (l1 : Option am_V) (Lh : Lay h) : ex_ (d + 1) 0 948 [some (v_x 20), l1, some (v_r (some 93)), some (v_i x3)] [v_i s0] h Q ↔ vp_in (x3 + (1 : Int32)) (h_x h).1 ∧ ex_ d 321 0 [some (v_r (some 93)), some (v_i ((h_x h).2 (Int32.toNatClampNeg (x3 + (1 : Int32))))), none, none, none, none, none, none, none] [] h (fun r h' => ex_ (d + 1) 0 957 [some (v_x 20), l1, some (v_r (some 93)), some (v_i x3)] (r.toList ++ [v_i s0]) h' Q) := by
  unfold ex_
  refine (am_Y_go 6 (ok := [vp_in (x3 + (1 : Int32)) (h_x h).1]) (g := (954, [some (v_x 20), l1, some (v_r (some 93)), some (v_i x3)], [v_i ((h_x h).2 (Int32.toNatClampNeg (x3 + (1 : Int32)))), v_r (some 93), v_i s0], h)) rfl).trans ?_
  simp only [am_all]
  all_goals exact cj_k Iff.rfl (((am_Y_call (j := 321) (na := 2) (ci := 12) (fl := 0) rfl rfl rfl).trans (cj_d ⟨⟨Nat.le_of_ble_eq_true rfl, Nat.le_of_ble_eq_true rfl, Nat.le_of_ble_eq_true rfl, rfl⟩, Or.inr (Or.inr (show (12 : Nat) < 20 ∧ am_is h (some 93) 12 from ⟨by decide, (la_is Lh (o := 93) rfl)⟩))⟩ Iff.rfl)))

set_option maxRecDepth 100000 in
theorem b_L_law_981 {d : Nat} {Q : Option am_V → am_H → Prop} (h : am_H) (s0 : Int32) (x3 : Int32) (l1 : Option am_V) (Lh : Lay h) : ex_ (d + 1) 0 981 [some (v_x 20), l1, some (v_r (some 93)), some (v_i x3)] [v_i s0] h Q ↔ vp_in (x3 + (1 : Int32)) (h_x h).1 ∧ vp_in (x3 + (2 : Int32)) (h_x h).1 ∧ vp_in (x3 + (3 : Int32)) (h_x h).1 ∧ ex_ d 327 0 [some (v_r (some 93)), some (v_i ((h_x h).2 (Int32.toNatClampNeg (x3 + (1 : Int32))))), some (v_i ((h_x h).2 (Int32.toNatClampNeg (x3 + (2 : Int32))))), some (v_i ((h_x h).2 (Int32.toNatClampNeg (x3 + (3 : Int32)))))] [] h (fun r h' => ex_ (d + 1) 0 1000 [some (v_x 20), l1, some (v_r (some 93)), some (v_i x3)] (r.toList ++ [v_i s0]) h' Q) := by
  unfold ex_
  refine (am_Y_go 16 (ok := [vp_in (x3 + (1 : Int32)) (h_x h).1, vp_in (x3 + (2 : Int32)) (h_x h).1, vp_in (x3 + (3 : Int32)) (h_x h).1]) (g := (997, [some (v_x 20), l1, some (v_r (some 93)), some (v_i x3)], [v_i ((h_x h).2 (Int32.toNatClampNeg (x3 + (3 : Int32)))), v_i ((h_x h).2 (Int32.toNatClampNeg (x3 + (2 : Int32)))), v_i ((h_x h).2 (Int32.toNatClampNeg (x3 + (1 : Int32)))), v_r (some 93), v_i s0], h)) rfl).trans ?_
  simp only [am_all]
  all_goals exact cj_k Iff.rfl (cj_k Iff.rfl (cj_k Iff.rfl (((am_Y_call (j := 327) (na := 4) (ci := 12) (fl := 0) rfl rfl rfl).trans (cj_d ⟨⟨Nat.le_of_ble_eq_true rfl, Nat.le_of_ble_eq_true rfl, Nat.le_of_ble_eq_true rfl, rfl⟩, Or.inr (Or.inr (show (12 : Nat) < 20 ∧ am_is h (some 93) 12 from ⟨by decide, (la_is Lh (o := 93) rfl)⟩))⟩ Iff.rfl)))))

set_option maxRecDepth 100000 in
theorem b_L_law_1019 {d : Nat} {Q : Option am_V → am_H → Prop} (h : am_H) (s0 : Int32) (x3 : Int32) (l1 : Option am_V) (Lh : Lay h) : ex_ (d + 1) 0 1019 [some (v_x 20), l1, some (v_r (some 93)), some (v_i x3)] [v_i s0] h Q ↔ vp_in (x3 + (1 : Int32)) (h_x h).1 ∧ vp_in (x3 + (2 : Int32)) (h_x h).1 ∧ ex_ d 328 0 [some (v_r (some 93)), some (v_i ((h_x h).2 (Int32.toNatClampNeg (x3 + (1 : Int32))))), some (v_i ((h_x h).2 (Int32.toNatClampNeg (x3 + (2 : Int32))))), none, none] [] h (fun r h' => ex_ (d + 1) 0 1033 [some (v_x 20), l1, some (v_r (some 93)), some (v_i x3)] (r.toList ++ [v_i s0]) h' Q) := by
  unfold ex_
  refine (am_Y_go 11 (ok := [vp_in (x3 + (1 : Int32)) (h_x h).1, vp_in (x3 + (2 : Int32)) (h_x h).1]) (g := (1030, [some (v_x 20), l1, some (v_r (some 93)), some (v_i x3)], [v_i ((h_x h).2 (Int32.toNatClampNeg (x3 + (2 : Int32)))), v_i ((h_x h).2 (Int32.toNatClampNeg (x3 + (1 : Int32)))), v_r (some 93), v_i s0], h)) rfl).trans ?_
  simp only [am_all]
  all_goals exact cj_k Iff.rfl (cj_k Iff.rfl (((am_Y_call (j := 328) (na := 3) (ci := 12) (fl := 0) rfl rfl rfl).trans (cj_d ⟨⟨Nat.le_of_ble_eq_true rfl, Nat.le_of_ble_eq_true rfl, Nat.le_of_ble_eq_true rfl, rfl⟩, Or.inr (Or.inr (show (12 : Nat) < 20 ∧ am_is h (some 93) 12 from ⟨by decide, (la_is Lh (o := 93) rfl)⟩))⟩ Iff.rfl))))

set_option maxRecDepth 100000 in
theorem b_L_law_1047 {d : Nat} {Q : Option am_V → am_H → Prop} (h : am_H) (s0 : Int32) (x3 : Int32) (l1 : Option am_V) (Lh : Lay h) : ex_ (d + 1) 0 1047 [some (v_x 20), l1, some (v_r (some 93)), some (v_i x3)] [v_i s0] h Q ↔ vp_in (x3 + (1 : Int32)) (h_x h).1 ∧ ex_ d 329 0 [some (v_r (some 93)), some (v_i ((h_x h).2 (Int32.toNatClampNeg (x3 + (1 : Int32))))), none, none, none, none] [] h (fun r h' => ex_ (d + 1) 0 1056 [some (v_x 20), l1, some (v_r (some 93)), some (v_i x3)] (r.toList ++ [v_i s0]) h' Q) := by
  unfold ex_
  refine (am_Y_go 6 (ok := [vp_in (x3 + (1 : Int32)) (h_x h).1]) (g := (1053, [some (v_x 20), l1, some (v_r (some 93)), some (v_i x3)], [v_i ((h_x h).2 (Int32.toNatClampNeg (x3 + (1 : Int32)))), v_r (some 93), v_i s0], h)) rfl).trans ?_
  simp only [am_all]
  all_goals exact cj_k Iff.rfl (((am_Y_call (j := 329) (na := 2) (ci := 12) (fl := 0) rfl rfl rfl).trans (cj_d ⟨⟨Nat.le_of_ble_eq_true rfl, Nat.le_of_ble_eq_true rfl, Nat.le_of_ble_eq_true rfl, rfl⟩, Or.inr (Or.inr (show (12 : Nat) < 20 ∧ am_is h (some 93) 12 from ⟨by decide, (la_is Lh (o := 93) rfl)⟩))⟩ Iff.rfl)))

set_option maxRecDepth 100000 in
theorem b_L_law_1075 {d : Nat} {Q : Option am_V → am_H → Prop} (h : am_H) (s0 : Int32) (x3 : Int32) (l1 : Option am_V) (Lh : Lay h) : ex_ (d + 1) 0 1075 [some (v_x 20), l1, some (v_r (some 93)), some (v_i x3)] [v_i s0] h Q ↔ vp_in (x3 + (1 : Int32)) (h_x h).1 ∧ vp_in (x3 + (2 : Int32)) (h_x h).1 ∧ ex_ d 337 0 [some (v_r (some 93)), some (v_i ((h_x h).2 (Int32.toNatClampNeg (x3 + (1 : Int32))))), some (v_i ((h_x h).2 (Int32.toNatClampNeg (x3 + (2 : Int32)))))] [] h (fun r h' => ex_ (d + 1) 0 1089 [some (v_x 20), l1, some (v_r (some 93)), some (v_i x3)] (r.toList ++ [v_i s0]) h' Q) := by
  unfold ex_
  refine (am_Y_go 11 (ok := [vp_in (x3 + (1 : Int32)) (h_x h).1, vp_in (x3 + (2 : Int32)) (h_x h).1]) (g := (1086, [some (v_x 20), l1, some (v_r (some 93)), some (v_i x3)], [v_i ((h_x h).2 (Int32.toNatClampNeg (x3 + (2 : Int32)))), v_i ((h_x h).2 (Int32.toNatClampNeg (x3 + (1 : Int32)))), v_r (some 93), v_i s0], h)) rfl).trans ?_
  simp only [am_all]
  all_goals exact cj_k Iff.rfl (cj_k Iff.rfl (((am_Y_call (j := 337) (na := 3) (ci := 12) (fl := 0) rfl rfl rfl).trans (cj_d ⟨⟨Nat.le_of_ble_eq_true rfl, Nat.le_of_ble_eq_true rfl, Nat.le_of_ble_eq_true rfl, rfl⟩, Or.inr (Or.inr (show (12 : Nat) < 20 ∧ am_is h (some 93) 12 from ⟨by decide, (la_is Lh (o := 93) rfl)⟩))⟩ Iff.rfl))))

set_option maxRecDepth 100000 in
theorem b_L_law_1113 {d : Nat} {Q : Option am_V → am_H → Prop} (h : am_H) (s0 : Int32) (x3 : Int32) (l1 : Option am_V) (Lh : Lay h) : ex_ (d + 1) 0 1113 [some (v_x 20), l1, some (v_r (some 93)), some (v_i x3)] [v_i s0] h Q ↔ vp_in (x3 + (1 : Int32)) (h_x h).1 ∧ vp_in (x3 + (2 : Int32)) (h_x h).1 ∧ vp_in (x3 + (3 : Int32)) (h_x h).1 ∧ ex_ d 338 0 [some (v_r (some 93)), some (v_i ((h_x h).2 (Int32.toNatClampNeg (x3 + (1 : Int32))))), some (v_i ((h_x h).2 (Int32.toNatClampNeg (x3 + (2 : Int32))))), some (v_i ((h_x h).2 (Int32.toNatClampNeg (x3 + (3 : Int32)))))] [] h (fun r h' => ex_ (d + 1) 0 1132 [some (v_x 20), l1, some (v_r (some 93)), some (v_i x3)] (r.toList ++ [v_i s0]) h' Q) := by
  unfold ex_
  refine (am_Y_go 16 (ok := [vp_in (x3 + (1 : Int32)) (h_x h).1, vp_in (x3 + (2 : Int32)) (h_x h).1, vp_in (x3 + (3 : Int32)) (h_x h).1]) (g := (1129, [some (v_x 20), l1, some (v_r (some 93)), some (v_i x3)], [v_i ((h_x h).2 (Int32.toNatClampNeg (x3 + (3 : Int32)))), v_i ((h_x h).2 (Int32.toNatClampNeg (x3 + (2 : Int32)))), v_i ((h_x h).2 (Int32.toNatClampNeg (x3 + (1 : Int32)))), v_r (some 93), v_i s0], h)) rfl).trans ?_
  simp only [am_all]
  all_goals exact cj_k Iff.rfl (cj_k Iff.rfl (cj_k Iff.rfl (((am_Y_call (j := 338) (na := 4) (ci := 12) (fl := 0) rfl rfl rfl).trans (cj_d ⟨⟨Nat.le_of_ble_eq_true rfl, Nat.le_of_ble_eq_true rfl, Nat.le_of_ble_eq_true rfl, rfl⟩, Or.inr (Or.inr (show (12 : Nat) < 20 ∧ am_is h (some 93) 12 from ⟨by decide, (la_is Lh (o := 93) rfl)⟩))⟩ Iff.rfl)))))

set_option maxRecDepth 100000 in
theorem b_L_law_1151 {d : Nat} {Q : Option am_V → am_H → Prop} (h : am_H) (s0 : Int32) (x3 : Int32) (l1 : Option am_V) (Lh : Lay h) : ex_ (d + 1) 0 1151 [some (v_x 20), l1, some (v_r (some 93)), some (v_i x3)] [v_i s0] h Q ↔ vp_in (x3 + (1 : Int32)) (h_x h).1 ∧ vp_in (x3 + (2 : Int32)) (h_x h).1 ∧ ex_ d 339 0 [some (v_r (some 93)), some (v_i ((h_x h).2 (Int32.toNatClampNeg (x3 + (1 : Int32))))), some (v_i ((h_x h).2 (Int32.toNatClampNeg (x3 + (2 : Int32))))), none, none] [] h (fun r h' => ex_ (d + 1) 0 1165 [some (v_x 20), l1, some (v_r (some 93)), some (v_i x3)] (r.toList ++ [v_i s0]) h' Q) := by
  unfold ex_
  refine (am_Y_go 11 (ok := [vp_in (x3 + (1 : Int32)) (h_x h).1, vp_in (x3 + (2 : Int32)) (h_x h).1]) (g := (1162, [some (v_x 20), l1, some (v_r (some 93)), some (v_i x3)], [v_i ((h_x h).2 (Int32.toNatClampNeg (x3 + (2 : Int32)))), v_i ((h_x h).2 (Int32.toNatClampNeg (x3 + (1 : Int32)))), v_r (some 93), v_i s0], h)) rfl).trans ?_
  simp only [am_all]
  all_goals exact cj_k Iff.rfl (cj_k Iff.rfl (((am_Y_call (j := 339) (na := 3) (ci := 12) (fl := 0) rfl rfl rfl).trans (cj_d ⟨⟨Nat.le_of_ble_eq_true rfl, Nat.le_of_ble_eq_true rfl, Nat.le_of_ble_eq_true rfl, rfl⟩, Or.inr (Or.inr (show (12 : Nat) < 20 ∧ am_is h (some 93) 12 from ⟨by decide, (la_is Lh (o := 93) rfl)⟩))⟩ Iff.rfl))))

set_option maxRecDepth 100000 in
theorem b_L_law_1174 {d : Nat} {Q : Option am_V → am_H → Prop} (h : am_H) (s0 : Int32) (l0 l1 l3 : Option am_V) (Lh : Lay h) : ex_ (d + 1) 0 1174 [l0, l1, some (v_r (some 93)), l3] [v_i s0] h Q ↔ ex_ d 341 0 [some (v_r (some 93))] [] h (fun r h' => ex_ (d + 1) 0 1178 [l0, l1, some (v_r (some 93)), l3] (r.toList ++ [v_i s0]) h' Q) := by
  unfold ex_
  refine (am_Y_go 1 (ok := []) (g := (1175, [l0, l1, some (v_r (some 93)), l3], [v_r (some 93), v_i s0], h)) rfl).trans ?_
  all_goals exact ((am_Y_call (j := 341) (na := 1) (ci := 12) (fl := 0) rfl rfl rfl).trans (cj_d ⟨⟨Nat.le_of_ble_eq_true rfl, Nat.le_of_ble_eq_true rfl, Nat.le_of_ble_eq_true rfl, rfl⟩, Or.inr (Or.inr (show (12 : Nat) < 20 ∧ am_is h (some 93) 12 from ⟨by decide, (la_is Lh (o := 93) rfl)⟩))⟩ Iff.rfl))

set_option maxRecDepth 100000 in
theorem b_L_law_1187 {d : Nat} {Q : Option am_V → am_H → Prop} (h : am_H) (s0 : Int32) (l0 l1 l3 : Option am_V) (Lh : Lay h) : ex_ (d + 1) 0 1187 [l0, l1, some (v_r (some 93)), l3] [v_i s0] h Q ↔ ex_ d 342 0 [some (v_r (some 93))] [] h (fun r h' => ex_ (d + 1) 0 1191 [l0, l1, some (v_r (some 93)), l3] (r.toList ++ [v_i s0]) h' Q) := by
  unfold ex_
  refine (am_Y_go 1 (ok := []) (g := (1188, [l0, l1, some (v_r (some 93)), l3], [v_r (some 93), v_i s0], h)) rfl).trans ?_
  all_goals exact ((am_Y_call (j := 342) (na := 1) (ci := 12) (fl := 0) rfl rfl rfl).trans (cj_d ⟨⟨Nat.le_of_ble_eq_true rfl, Nat.le_of_ble_eq_true rfl, Nat.le_of_ble_eq_true rfl, rfl⟩, Or.inr (Or.inr (show (12 : Nat) < 20 ∧ am_is h (some 93) 12 from ⟨by decide, (la_is Lh (o := 93) rfl)⟩))⟩ Iff.rfl))

set_option maxRecDepth 100000 in
theorem b_L_law_1210 {d : Nat} {Q : Option am_V → am_H → Prop} (h : am_H) (s0 : Int32) (x3 : Int32) (l1 : Option am_V) (Lh : Lay h) : ex_ (d + 1) 0 1210 [some (v_x 20), l1, some (v_r (some 93)), some (v_i x3)] [v_i s0] h Q ↔ vp_in (x3 + (1 : Int32)) (h_x h).1 ∧ vp_in (x3 + (2 : Int32)) (h_x h).1 ∧ ex_ d 343 0 [some (v_r (some 93)), some (v_i ((h_x h).2 (Int32.toNatClampNeg (x3 + (1 : Int32))))), some (v_i ((h_x h).2 (Int32.toNatClampNeg (x3 + (2 : Int32))))), none] [] h (fun r h' => ex_ (d + 1) 0 1224 [some (v_x 20), l1, some (v_r (some 93)), some (v_i x3)] (r.toList ++ [v_i s0]) h' Q) := by
  unfold ex_
  refine (am_Y_go 11 (ok := [vp_in (x3 + (1 : Int32)) (h_x h).1, vp_in (x3 + (2 : Int32)) (h_x h).1]) (g := (1221, [some (v_x 20), l1, some (v_r (some 93)), some (v_i x3)], [v_i ((h_x h).2 (Int32.toNatClampNeg (x3 + (2 : Int32)))), v_i ((h_x h).2 (Int32.toNatClampNeg (x3 + (1 : Int32)))), v_r (some 93), v_i s0], h)) rfl).trans ?_
  simp only [am_all]
  all_goals exact cj_k Iff.rfl (cj_k Iff.rfl (((am_Y_call (j := 343) (na := 3) (ci := 12) (fl := 0) rfl rfl rfl).trans (cj_d ⟨⟨Nat.le_of_ble_eq_true rfl, Nat.le_of_ble_eq_true rfl, Nat.le_of_ble_eq_true rfl, rfl⟩, Or.inr (Or.inr (show (12 : Nat) < 20 ∧ am_is h (some 93) 12 from ⟨by decide, (la_is Lh (o := 93) rfl)⟩))⟩ Iff.rfl))))

set_option maxRecDepth 100000 in
theorem b_L_law_1238 {d : Nat} {Q : Option am_V → am_H → Prop} (h : am_H) (s0 : Int32) (x3 : Int32) (l1 : Option am_V) (Lh : Lay h) : ex_ (d + 1) 0 1238 [some (v_x 20), l1, some (v_r (some 93)), some (v_i x3)] [v_i s0] h Q ↔ vp_in (x3 + (1 : Int32)) (h_x h).1 ∧ ex_ d 346 0 [some (v_r (some 93)), some (v_i ((h_x h).2 (Int32.toNatClampNeg (x3 + (1 : Int32))))), none] [] h (fun r h' => ex_ (d + 1) 0 1247 [some (v_x 20), l1, some (v_r (some 93)), some (v_i x3)] (r.toList ++ [v_i s0]) h' Q) := by
  unfold ex_
  refine (am_Y_go 6 (ok := [vp_in (x3 + (1 : Int32)) (h_x h).1]) (g := (1244, [some (v_x 20), l1, some (v_r (some 93)), some (v_i x3)], [v_i ((h_x h).2 (Int32.toNatClampNeg (x3 + (1 : Int32)))), v_r (some 93), v_i s0], h)) rfl).trans ?_
  simp only [am_all]
  all_goals exact cj_k Iff.rfl (((am_Y_call (j := 346) (na := 2) (ci := 12) (fl := 0) rfl rfl rfl).trans (cj_d ⟨⟨Nat.le_of_ble_eq_true rfl, Nat.le_of_ble_eq_true rfl, Nat.le_of_ble_eq_true rfl, rfl⟩, Or.inr (Or.inr (show (12 : Nat) < 20 ∧ am_is h (some 93) 12 from ⟨by decide, (la_is Lh (o := 93) rfl)⟩))⟩ Iff.rfl)))

set_option maxRecDepth 100000 in
theorem b_L_law_1266 {d : Nat} {Q : Option am_V → am_H → Prop} (h : am_H) (s0 : Int32) (x3 : Int32) (l1 : Option am_V) (Lh : Lay h) : ex_ (d + 1) 0 1266 [some (v_x 20), l1, some (v_r (some 93)), some (v_i x3)] [v_i s0] h Q ↔ vp_in (x3 + (1 : Int32)) (h_x h).1 ∧ vp_in (x3 + (2 : Int32)) (h_x h).1 ∧ ex_ d 347 0 [some (v_r (some 93)), some (v_i ((h_x h).2 (Int32.toNatClampNeg (x3 + (1 : Int32))))), some (v_i ((h_x h).2 (Int32.toNatClampNeg (x3 + (2 : Int32))))), none] [] h (fun r h' => ex_ (d + 1) 0 1280 [some (v_x 20), l1, some (v_r (some 93)), some (v_i x3)] (r.toList ++ [v_i s0]) h' Q) := by
  unfold ex_
  refine (am_Y_go 11 (ok := [vp_in (x3 + (1 : Int32)) (h_x h).1, vp_in (x3 + (2 : Int32)) (h_x h).1]) (g := (1277, [some (v_x 20), l1, some (v_r (some 93)), some (v_i x3)], [v_i ((h_x h).2 (Int32.toNatClampNeg (x3 + (2 : Int32)))), v_i ((h_x h).2 (Int32.toNatClampNeg (x3 + (1 : Int32)))), v_r (some 93), v_i s0], h)) rfl).trans ?_
  simp only [am_all]
  all_goals exact cj_k Iff.rfl (cj_k Iff.rfl (((am_Y_call (j := 347) (na := 3) (ci := 12) (fl := 0) rfl rfl rfl).trans (cj_d ⟨⟨Nat.le_of_ble_eq_true rfl, Nat.le_of_ble_eq_true rfl, Nat.le_of_ble_eq_true rfl, rfl⟩, Or.inr (Or.inr (show (12 : Nat) < 20 ∧ am_is h (some 93) 12 from ⟨by decide, (la_is Lh (o := 93) rfl)⟩))⟩ Iff.rfl))))

set_option maxRecDepth 100000 in
theorem b_L_law_1294 {d : Nat} {Q : Option am_V → am_H → Prop} (h : am_H) (s0 : Int32) (x3 : Int32) (l1 : Option am_V) (Lh : Lay h) : ex_ (d + 1) 0 1294 [some (v_x 20), l1, some (v_r (some 93)), some (v_i x3)] [v_i s0] h Q ↔ vp_in (x3 + (1 : Int32)) (h_x h).1 ∧ ex_ d 350 0 [some (v_r (some 93)), some (v_i ((h_x h).2 (Int32.toNatClampNeg (x3 + (1 : Int32))))), none] [] h (fun r h' => ex_ (d + 1) 0 1303 [some (v_x 20), l1, some (v_r (some 93)), some (v_i x3)] (r.toList ++ [v_i s0]) h' Q) := by
  unfold ex_
  refine (am_Y_go 6 (ok := [vp_in (x3 + (1 : Int32)) (h_x h).1]) (g := (1300, [some (v_x 20), l1, some (v_r (some 93)), some (v_i x3)], [v_i ((h_x h).2 (Int32.toNatClampNeg (x3 + (1 : Int32)))), v_r (some 93), v_i s0], h)) rfl).trans ?_
  simp only [am_all]
  all_goals exact cj_k Iff.rfl (((am_Y_call (j := 350) (na := 2) (ci := 12) (fl := 0) rfl rfl rfl).trans (cj_d ⟨⟨Nat.le_of_ble_eq_true rfl, Nat.le_of_ble_eq_true rfl, Nat.le_of_ble_eq_true rfl, rfl⟩, Or.inr (Or.inr (show (12 : Nat) < 20 ∧ am_is h (some 93) 12 from ⟨by decide, (la_is Lh (o := 93) rfl)⟩))⟩ Iff.rfl)))

set_option maxRecDepth 100000 in
theorem b_L_law_1312 {d : Nat} {Q : Option am_V → am_H → Prop} (h : am_H) (s0 : Int32) (l0 l1 l3 : Option am_V) (Lh : Lay h) : ex_ (d + 1) 0 1312 [l0, l1, some (v_r (some 93)), l3] [v_i s0] h Q ↔ ex_ d 355 0 [some (v_r (some 93))] [] h (fun r h' => ex_ (d + 1) 0 1316 [l0, l1, some (v_r (some 93)), l3] (r.toList ++ [v_i s0]) h' Q) := by
  unfold ex_
  refine (am_Y_go 1 (ok := []) (g := (1313, [l0, l1, some (v_r (some 93)), l3], [v_r (some 93), v_i s0], h)) rfl).trans ?_
  all_goals exact ((am_Y_call (j := 355) (na := 1) (ci := 12) (fl := 0) rfl rfl rfl).trans (cj_d ⟨⟨Nat.le_of_ble_eq_true rfl, Nat.le_of_ble_eq_true rfl, Nat.le_of_ble_eq_true rfl, rfl⟩, Or.inr (Or.inr (show (12 : Nat) < 20 ∧ am_is h (some 93) 12 from ⟨by decide, (la_is Lh (o := 93) rfl)⟩))⟩ Iff.rfl))

set_option maxRecDepth 100000 in
theorem b_L_law_1330 {d : Nat} {Q : Option am_V → am_H → Prop} (h : am_H) (s0 : Int32) (x3 : Int32) (l1 : Option am_V) (Lh : Lay h) : ex_ (d + 1) 0 1330 [some (v_x 20), l1, some (v_r (some 93)), some (v_i x3)] [v_i s0] h Q ↔ vp_in (x3 + (1 : Int32)) (h_x h).1 ∧ ex_ d 356 0 [some (v_r (some 93)), some (v_i ((h_x h).2 (Int32.toNatClampNeg (x3 + (1 : Int32))))), none, none] [] h (fun r h' => ex_ (d + 1) 0 1339 [some (v_x 20), l1, some (v_r (some 93)), some (v_i x3)] (r.toList ++ [v_i s0]) h' Q) := by
  unfold ex_
  refine (am_Y_go 6 (ok := [vp_in (x3 + (1 : Int32)) (h_x h).1]) (g := (1336, [some (v_x 20), l1, some (v_r (some 93)), some (v_i x3)], [v_i ((h_x h).2 (Int32.toNatClampNeg (x3 + (1 : Int32)))), v_r (some 93), v_i s0], h)) rfl).trans ?_
  simp only [am_all]
  all_goals exact cj_k Iff.rfl (((am_Y_call (j := 356) (na := 2) (ci := 12) (fl := 0) rfl rfl rfl).trans (cj_d ⟨⟨Nat.le_of_ble_eq_true rfl, Nat.le_of_ble_eq_true rfl, Nat.le_of_ble_eq_true rfl, rfl⟩, Or.inr (Or.inr (show (12 : Nat) < 20 ∧ am_is h (some 93) 12 from ⟨by decide, (la_is Lh (o := 93) rfl)⟩))⟩ Iff.rfl)))

set_option maxRecDepth 100000 in
theorem b_L_law_1353 {d : Nat} {Q : Option am_V → am_H → Prop} (h : am_H) (s0 : Int32) (x3 : Int32) (l1 : Option am_V) (Lh : Lay h) : ex_ (d + 1) 0 1353 [some (v_x 20), l1, some (v_r (some 93)), some (v_i x3)] [v_i s0] h Q ↔ vp_in (x3 + (1 : Int32)) (h_x h).1 ∧ ex_ d 359 0 [some (v_r (some 93)), some (v_i ((h_x h).2 (Int32.toNatClampNeg (x3 + (1 : Int32))))), none] [] h (fun r h' => ex_ (d + 1) 0 1362 [some (v_x 20), l1, some (v_r (some 93)), some (v_i x3)] (r.toList ++ [v_i s0]) h' Q) := by
  unfold ex_
  refine (am_Y_go 6 (ok := [vp_in (x3 + (1 : Int32)) (h_x h).1]) (g := (1359, [some (v_x 20), l1, some (v_r (some 93)), some (v_i x3)], [v_i ((h_x h).2 (Int32.toNatClampNeg (x3 + (1 : Int32)))), v_r (some 93), v_i s0], h)) rfl).trans ?_
  simp only [am_all]
  all_goals exact cj_k Iff.rfl (((am_Y_call (j := 359) (na := 2) (ci := 12) (fl := 0) rfl rfl rfl).trans (cj_d ⟨⟨Nat.le_of_ble_eq_true rfl, Nat.le_of_ble_eq_true rfl, Nat.le_of_ble_eq_true rfl, rfl⟩, Or.inr (Or.inr (show (12 : Nat) < 20 ∧ am_is h (some 93) 12 from ⟨by decide, (la_is Lh (o := 93) rfl)⟩))⟩ Iff.rfl)))

set_option maxRecDepth 100000 in
theorem b_L_law_1376 {d : Nat} {Q : Option am_V → am_H → Prop} (h : am_H) (s0 : Int32) (x3 : Int32) (l1 : Option am_V) (Lh : Lay h) : ex_ (d + 1) 0 1376 [some (v_x 20), l1, some (v_r (some 93)), some (v_i x3)] [v_i s0] h Q ↔ vp_in (x3 + (1 : Int32)) (h_x h).1 ∧ ex_ d 361 0 [some (v_r (some 93)), some (v_i ((h_x h).2 (Int32.toNatClampNeg (x3 + (1 : Int32))))), none, none, none, none, none, none, none] [] h (fun r h' => ex_ (d + 1) 0 1385 [some (v_x 20), l1, some (v_r (some 93)), some (v_i x3)] (r.toList ++ [v_i s0]) h' Q) := by
  unfold ex_
  refine (am_Y_go 6 (ok := [vp_in (x3 + (1 : Int32)) (h_x h).1]) (g := (1382, [some (v_x 20), l1, some (v_r (some 93)), some (v_i x3)], [v_i ((h_x h).2 (Int32.toNatClampNeg (x3 + (1 : Int32)))), v_r (some 93), v_i s0], h)) rfl).trans ?_
  simp only [am_all]
  all_goals exact cj_k Iff.rfl (((am_Y_call (j := 361) (na := 2) (ci := 12) (fl := 0) rfl rfl rfl).trans (cj_d ⟨⟨Nat.le_of_ble_eq_true rfl, Nat.le_of_ble_eq_true rfl, Nat.le_of_ble_eq_true rfl, rfl⟩, Or.inr (Or.inr (show (12 : Nat) < 20 ∧ am_is h (some 93) 12 from ⟨by decide, (la_is Lh (o := 93) rfl)⟩))⟩ Iff.rfl)))

set_option maxRecDepth 100000 in
theorem b_L_law_1404 {d : Nat} {Q : Option am_V → am_H → Prop} (h : am_H) (s0 : Int32) (x3 : Int32) (l1 : Option am_V) (Lh : Lay h) : ex_ (d + 1) 0 1404 [some (v_x 20), l1, some (v_r (some 93)), some (v_i x3)] [v_i s0] h Q ↔ vp_in (x3 + (1 : Int32)) (h_x h).1 ∧ vp_in (x3 + (2 : Int32)) (h_x h).1 ∧ ex_ d 366 0 [some (v_r (some 93)), some (v_i ((h_x h).2 (Int32.toNatClampNeg (x3 + (1 : Int32))))), some (v_i ((h_x h).2 (Int32.toNatClampNeg (x3 + (2 : Int32)))))] [] h (fun r h' => ex_ (d + 1) 0 1418 [some (v_x 20), l1, some (v_r (some 93)), some (v_i x3)] (r.toList ++ [v_i s0]) h' Q) := by
  unfold ex_
  refine (am_Y_go 11 (ok := [vp_in (x3 + (1 : Int32)) (h_x h).1, vp_in (x3 + (2 : Int32)) (h_x h).1]) (g := (1415, [some (v_x 20), l1, some (v_r (some 93)), some (v_i x3)], [v_i ((h_x h).2 (Int32.toNatClampNeg (x3 + (2 : Int32)))), v_i ((h_x h).2 (Int32.toNatClampNeg (x3 + (1 : Int32)))), v_r (some 93), v_i s0], h)) rfl).trans ?_
  simp only [am_all]
  all_goals exact cj_k Iff.rfl (cj_k Iff.rfl (((am_Y_call (j := 366) (na := 3) (ci := 12) (fl := 0) rfl rfl rfl).trans (cj_d ⟨⟨Nat.le_of_ble_eq_true rfl, Nat.le_of_ble_eq_true rfl, Nat.le_of_ble_eq_true rfl, rfl⟩, Or.inr (Or.inr (show (12 : Nat) < 20 ∧ am_is h (some 93) 12 from ⟨by decide, (la_is Lh (o := 93) rfl)⟩))⟩ Iff.rfl))))

set_option maxRecDepth 100000 in
theorem b_L_law_1437 {d : Nat} {Q : Option am_V → am_H → Prop} (h : am_H) (s0 : Int32) (x3 : Int32) (l1 : Option am_V) (Lh : Lay h) : ex_ (d + 1) 0 1437 [some (v_x 20), l1, some (v_r (some 93)), some (v_i x3)] [v_i s0] h Q ↔ vp_in (x3 + (1 : Int32)) (h_x h).1 ∧ vp_in (x3 + (2 : Int32)) (h_x h).1 ∧ ex_ d 367 0 [some (v_r (some 93)), some (v_i ((h_x h).2 (Int32.toNatClampNeg (x3 + (1 : Int32))))), some (v_i ((h_x h).2 (Int32.toNatClampNeg (x3 + (2 : Int32)))))] [] h (fun r h' => ex_ (d + 1) 0 1451 [some (v_x 20), l1, some (v_r (some 93)), some (v_i x3)] (r.toList ++ [v_i s0]) h' Q) := by
  unfold ex_
  refine (am_Y_go 11 (ok := [vp_in (x3 + (1 : Int32)) (h_x h).1, vp_in (x3 + (2 : Int32)) (h_x h).1]) (g := (1448, [some (v_x 20), l1, some (v_r (some 93)), some (v_i x3)], [v_i ((h_x h).2 (Int32.toNatClampNeg (x3 + (2 : Int32)))), v_i ((h_x h).2 (Int32.toNatClampNeg (x3 + (1 : Int32)))), v_r (some 93), v_i s0], h)) rfl).trans ?_
  simp only [am_all]
  all_goals exact cj_k Iff.rfl (cj_k Iff.rfl (((am_Y_call (j := 367) (na := 3) (ci := 12) (fl := 0) rfl rfl rfl).trans (cj_d ⟨⟨Nat.le_of_ble_eq_true rfl, Nat.le_of_ble_eq_true rfl, Nat.le_of_ble_eq_true rfl, rfl⟩, Or.inr (Or.inr (show (12 : Nat) < 20 ∧ am_is h (some 93) 12 from ⟨by decide, (la_is Lh (o := 93) rfl)⟩))⟩ Iff.rfl))))

set_option maxRecDepth 100000 in
theorem b_L_law_1475 {d : Nat} {Q : Option am_V → am_H → Prop} (h : am_H) (s0 : Int32) (x3 : Int32) (l1 : Option am_V) (Lh : Lay h) : ex_ (d + 1) 0 1475 [some (v_x 20), l1, some (v_r (some 93)), some (v_i x3)] [v_i s0] h Q ↔ vp_in (x3 + (1 : Int32)) (h_x h).1 ∧ vp_in (x3 + (2 : Int32)) (h_x h).1 ∧ vp_in (x3 + (3 : Int32)) (h_x h).1 ∧ ex_ d 369 0 [some (v_r (some 93)), some (v_i ((h_x h).2 (Int32.toNatClampNeg (x3 + (1 : Int32))))), some (v_i ((h_x h).2 (Int32.toNatClampNeg (x3 + (2 : Int32))))), some (v_i ((h_x h).2 (Int32.toNatClampNeg (x3 + (3 : Int32))))), none] [] h (fun r h' => ex_ (d + 1) 0 1494 [some (v_x 20), l1, some (v_r (some 93)), some (v_i x3)] (r.toList ++ [v_i s0]) h' Q) := by
  unfold ex_
  refine (am_Y_go 16 (ok := [vp_in (x3 + (1 : Int32)) (h_x h).1, vp_in (x3 + (2 : Int32)) (h_x h).1, vp_in (x3 + (3 : Int32)) (h_x h).1]) (g := (1491, [some (v_x 20), l1, some (v_r (some 93)), some (v_i x3)], [v_i ((h_x h).2 (Int32.toNatClampNeg (x3 + (3 : Int32)))), v_i ((h_x h).2 (Int32.toNatClampNeg (x3 + (2 : Int32)))), v_i ((h_x h).2 (Int32.toNatClampNeg (x3 + (1 : Int32)))), v_r (some 93), v_i s0], h)) rfl).trans ?_
  simp only [am_all]
  all_goals exact cj_k Iff.rfl (cj_k Iff.rfl (cj_k Iff.rfl (((am_Y_call (j := 369) (na := 4) (ci := 12) (fl := 0) rfl rfl rfl).trans (cj_d ⟨⟨Nat.le_of_ble_eq_true rfl, Nat.le_of_ble_eq_true rfl, Nat.le_of_ble_eq_true rfl, rfl⟩, Or.inr (Or.inr (show (12 : Nat) < 20 ∧ am_is h (some 93) 12 from ⟨by decide, (la_is Lh (o := 93) rfl)⟩))⟩ Iff.rfl)))))

set_option maxRecDepth 100000 in
theorem b_L_law_1533 {d : Nat} {Q : Option am_V → am_H → Prop} (h : am_H) (s0 : Int64) (x3 : Int32) (l1 : Option am_V) (Lh : Lay h) : ex_ (d + 1) 0 1533 [some (v_x 20), l1, some (v_r (some 93)), some (v_i x3)] [v_l s0] h Q ↔ vp_in (x3 + (1 : Int32)) (h_x h).1 ∧ vp_in (x3 + (2 : Int32)) (h_x h).1 ∧ vp_in (x3 + (3 : Int32)) (h_x h).1 ∧ vp_in (x3 + (4 : Int32)) (h_x h).1 ∧ ex_ d 370 0 [some (v_r (some 93)), some (v_i ((h_x h).2 (Int32.toNatClampNeg (x3 + (1 : Int32))))), some (v_i ((h_x h).2 (Int32.toNatClampNeg (x3 + (2 : Int32))))), some (v_l (((Int32.toInt64 ((h_x h).2 (Int32.toNatClampNeg (x3 + (3 : Int32))))) <<< (((32 : Int32)).toInt64 &&& 63)) ||| ((Int32.toInt64 ((h_x h).2 (Int32.toNatClampNeg (x3 + (4 : Int32))))) &&& (4294967295 : Int64)))), none, none] [] h (fun r h' => ex_ (d + 1) 0 1567 [some (v_x 20), l1, some (v_r (some 93)), some (v_i x3)] (r.toList ++ [v_l s0]) h' Q) := by
  unfold ex_
  refine (am_Y_go 28 (ok := [vp_in (x3 + (1 : Int32)) (h_x h).1, vp_in (x3 + (2 : Int32)) (h_x h).1, vp_in (x3 + (3 : Int32)) (h_x h).1, vp_in (x3 + (4 : Int32)) (h_x h).1]) (g := (1564, [some (v_x 20), l1, some (v_r (some 93)), some (v_i x3)], [v_l (((Int32.toInt64 ((h_x h).2 (Int32.toNatClampNeg (x3 + (3 : Int32))))) <<< (((32 : Int32)).toInt64 &&& 63)) ||| ((Int32.toInt64 ((h_x h).2 (Int32.toNatClampNeg (x3 + (4 : Int32))))) &&& (4294967295 : Int64))), v_i ((h_x h).2 (Int32.toNatClampNeg (x3 + (2 : Int32)))), v_i ((h_x h).2 (Int32.toNatClampNeg (x3 + (1 : Int32)))), v_r (some 93), v_l s0], h)) rfl).trans ?_
  simp only [am_all]
  all_goals exact cj_k Iff.rfl (cj_k Iff.rfl (cj_k Iff.rfl (cj_k Iff.rfl (((am_Y_call (j := 370) (na := 4) (ci := 12) (fl := 0) rfl rfl rfl).trans (cj_d ⟨⟨Nat.le_of_ble_eq_true rfl, Nat.le_of_ble_eq_true rfl, Nat.le_of_ble_eq_true rfl, rfl⟩, Or.inr (Or.inr (show (12 : Nat) < 20 ∧ am_is h (some 93) 12 from ⟨by decide, (la_is Lh (o := 93) rfl)⟩))⟩ Iff.rfl))))))

set_option maxRecDepth 100000 in
theorem b_L_law_1587 {d : Nat} {Q : Option am_V → am_H → Prop} (h : am_H) (s0 : Int32) (x3 : Int32) (l1 : Option am_V) (Lh : Lay h) : ex_ (d + 1) 0 1587 [some (v_x 20), l1, some (v_r (some 93)), some (v_i x3)] [v_i s0] h Q ↔ vp_in (x3 + (1 : Int32)) (h_x h).1 ∧ vp_in (x3 + (2 : Int32)) (h_x h).1 ∧ ex_ d 371 0 [some (v_r (some 93)), some (v_i ((h_x h).2 (Int32.toNatClampNeg (x3 + (1 : Int32))))), some (v_i ((h_x h).2 (Int32.toNatClampNeg (x3 + (2 : Int32))))), none, none, none] [] h (fun r h' => ex_ (d + 1) 0 1601 [some (v_x 20), l1, some (v_r (some 93)), some (v_i x3)] (r.toList ++ [v_i s0]) h' Q) := by
  unfold ex_
  refine (am_Y_go 11 (ok := [vp_in (x3 + (1 : Int32)) (h_x h).1, vp_in (x3 + (2 : Int32)) (h_x h).1]) (g := (1598, [some (v_x 20), l1, some (v_r (some 93)), some (v_i x3)], [v_i ((h_x h).2 (Int32.toNatClampNeg (x3 + (2 : Int32)))), v_i ((h_x h).2 (Int32.toNatClampNeg (x3 + (1 : Int32)))), v_r (some 93), v_i s0], h)) rfl).trans ?_
  simp only [am_all]
  all_goals exact cj_k Iff.rfl (cj_k Iff.rfl (((am_Y_call (j := 371) (na := 3) (ci := 12) (fl := 0) rfl rfl rfl).trans (cj_d ⟨⟨Nat.le_of_ble_eq_true rfl, Nat.le_of_ble_eq_true rfl, Nat.le_of_ble_eq_true rfl, rfl⟩, Or.inr (Or.inr (show (12 : Nat) < 20 ∧ am_is h (some 93) 12 from ⟨by decide, (la_is Lh (o := 93) rfl)⟩))⟩ Iff.rfl))))

set_option maxRecDepth 100000 in
theorem b_L_law_1615 {d : Nat} {Q : Option am_V → am_H → Prop} (h : am_H) (s0 : Int32) (x3 : Int32) (l1 : Option am_V) (Lh : Lay h) : ex_ (d + 1) 0 1615 [some (v_x 20), l1, some (v_r (some 93)), some (v_i x3)] [v_i s0] h Q ↔ vp_in (x3 + (1 : Int32)) (h_x h).1 ∧ ex_ d 372 0 [some (v_r (some 93)), some (v_i ((h_x h).2 (Int32.toNatClampNeg (x3 + (1 : Int32))))), none] [] h (fun r h' => ex_ (d + 1) 0 1624 [some (v_x 20), l1, some (v_r (some 93)), some (v_i x3)] (r.toList ++ [v_i s0]) h' Q) := by
  unfold ex_
  refine (am_Y_go 6 (ok := [vp_in (x3 + (1 : Int32)) (h_x h).1]) (g := (1621, [some (v_x 20), l1, some (v_r (some 93)), some (v_i x3)], [v_i ((h_x h).2 (Int32.toNatClampNeg (x3 + (1 : Int32)))), v_r (some 93), v_i s0], h)) rfl).trans ?_
  simp only [am_all]
  all_goals exact cj_k Iff.rfl (((am_Y_call (j := 372) (na := 2) (ci := 12) (fl := 0) rfl rfl rfl).trans (cj_d ⟨⟨Nat.le_of_ble_eq_true rfl, Nat.le_of_ble_eq_true rfl, Nat.le_of_ble_eq_true rfl, rfl⟩, Or.inr (Or.inr (show (12 : Nat) < 20 ∧ am_is h (some 93) 12 from ⟨by decide, (la_is Lh (o := 93) rfl)⟩))⟩ Iff.rfl)))

set_option maxRecDepth 100000 in
theorem b_L_law_1638 {d : Nat} {Q : Option am_V → am_H → Prop} (h : am_H) (s0 : Int32) (x3 : Int32) (l1 : Option am_V) (Lh : Lay h) : ex_ (d + 1) 0 1638 [some (v_x 20), l1, some (v_r (some 93)), some (v_i x3)] [v_i s0] h Q ↔ vp_in (x3 + (1 : Int32)) (h_x h).1 ∧ ex_ d 373 0 [some (v_r (some 93)), some (v_i ((h_x h).2 (Int32.toNatClampNeg (x3 + (1 : Int32))))), none] [] h (fun r h' => ex_ (d + 1) 0 1647 [some (v_x 20), l1, some (v_r (some 93)), some (v_i x3)] (r.toList ++ [v_i s0]) h' Q) := by
  unfold ex_
  refine (am_Y_go 6 (ok := [vp_in (x3 + (1 : Int32)) (h_x h).1]) (g := (1644, [some (v_x 20), l1, some (v_r (some 93)), some (v_i x3)], [v_i ((h_x h).2 (Int32.toNatClampNeg (x3 + (1 : Int32)))), v_r (some 93), v_i s0], h)) rfl).trans ?_
  simp only [am_all]
  all_goals exact cj_k Iff.rfl (((am_Y_call (j := 373) (na := 2) (ci := 12) (fl := 0) rfl rfl rfl).trans (cj_d ⟨⟨Nat.le_of_ble_eq_true rfl, Nat.le_of_ble_eq_true rfl, Nat.le_of_ble_eq_true rfl, rfl⟩, Or.inr (Or.inr (show (12 : Nat) < 20 ∧ am_is h (some 93) 12 from ⟨by decide, (la_is Lh (o := 93) rfl)⟩))⟩ Iff.rfl)))

set_option maxRecDepth 100000 in
theorem b_L_law_1661 {d : Nat} {Q : Option am_V → am_H → Prop} (h : am_H) (s0 : Int32) (x3 : Int32) (l1 : Option am_V) (Lh : Lay h) : ex_ (d + 1) 0 1661 [some (v_x 20), l1, some (v_r (some 93)), some (v_i x3)] [v_i s0] h Q ↔ vp_in (x3 + (1 : Int32)) (h_x h).1 ∧ ex_ d 375 0 [some (v_r (some 93)), some (v_i ((h_x h).2 (Int32.toNatClampNeg (x3 + (1 : Int32)))))] [] h (fun r h' => ex_ (d + 1) 0 1670 [some (v_x 20), l1, some (v_r (some 93)), some (v_i x3)] (r.toList ++ [v_i s0]) h' Q) := by
  unfold ex_
  refine (am_Y_go 6 (ok := [vp_in (x3 + (1 : Int32)) (h_x h).1]) (g := (1667, [some (v_x 20), l1, some (v_r (some 93)), some (v_i x3)], [v_i ((h_x h).2 (Int32.toNatClampNeg (x3 + (1 : Int32)))), v_r (some 93), v_i s0], h)) rfl).trans ?_
  simp only [am_all]
  all_goals exact cj_k Iff.rfl (((am_Y_call (j := 375) (na := 2) (ci := 12) (fl := 0) rfl rfl rfl).trans (cj_d ⟨⟨Nat.le_of_ble_eq_true rfl, Nat.le_of_ble_eq_true rfl, Nat.le_of_ble_eq_true rfl, rfl⟩, Or.inr (Or.inr (show (12 : Nat) < 20 ∧ am_is h (some 93) 12 from ⟨by decide, (la_is Lh (o := 93) rfl)⟩))⟩ Iff.rfl)))

set_option maxRecDepth 100000 in
theorem b_L_law_298 {d : Nat} {Q : Option am_V → am_H → Prop} (h : am_H) (s0 : Int32) (s1 : Int32) (l0 l1 l2 l3 : Option am_V) : ex_ d 0 298 [l0, l1, l2, l3] [v_i s0, v_i s1] h Q ↔ if s1 = s0 then ex_ d 0 1675 [l0, l1, l2, l3] [] h Q else ex_ d 0 301 [l0, l1, l2, l3] [] h Q := by
  unfold ex_
  refine (am_Y_go 1 (ok := []) (g := (if s1 = s0 then 1675 else 301, [l0, l1, l2, l3], [], h)) rfl).trans ?_
  all_goals exact am_Y_if

set_option maxRecDepth 100000 in
theorem b_L_law_321 {d : Nat} {Q : Option am_V → am_H → Prop} (h : am_H) (s0 : Int32) (s1 : Int32) (l0 l1 l2 l3 : Option am_V) : ex_ d 0 321 [l0, l1, l2, l3] [v_i s0, v_i s1] h Q ↔ if s1 = s0 then ex_ d 0 1675 [l0, l1, l2, l3] [] h Q else ex_ d 0 324 [l0, l1, l2, l3] [] h Q := by
  unfold ex_
  refine (am_Y_go 1 (ok := []) (g := (if s1 = s0 then 1675 else 324, [l0, l1, l2, l3], [], h)) rfl).trans ?_
  all_goals exact am_Y_if

set_option maxRecDepth 100000 in
theorem b_L_law_344 {d : Nat} {Q : Option am_V → am_H → Prop} (h : am_H) (s0 : Int32) (s1 : Int32) (l0 l1 l2 l3 : Option am_V) : ex_ d 0 344 [l0, l1, l2, l3] [v_i s0, v_i s1] h Q ↔ if s1 = s0 then ex_ d 0 1675 [l0, l1, l2, l3] [] h Q else ex_ d 0 347 [l0, l1, l2, l3] [] h Q := by
  unfold ex_
  refine (am_Y_go 1 (ok := []) (g := (if s1 = s0 then 1675 else 347, [l0, l1, l2, l3], [], h)) rfl).trans ?_
  all_goals exact am_Y_if

set_option maxRecDepth 100000 in
theorem b_L_law_377 {d : Nat} {Q : Option am_V → am_H → Prop} (h : am_H) (s0 : Int32) (s1 : Int32) (l0 l1 l2 l3 : Option am_V) : ex_ d 0 377 [l0, l1, l2, l3] [v_i s0, v_i s1] h Q ↔ if s1 = s0 then ex_ d 0 1675 [l0, l1, l2, l3] [] h Q else ex_ d 0 380 [l0, l1, l2, l3] [] h Q := by
  unfold ex_
  refine (am_Y_go 1 (ok := []) (g := (if s1 = s0 then 1675 else 380, [l0, l1, l2, l3], [], h)) rfl).trans ?_
  all_goals exact am_Y_if

set_option maxRecDepth 100000 in
theorem b_L_law_410 {d : Nat} {Q : Option am_V → am_H → Prop} (h : am_H) (s0 : Int32) (s1 : Int32) (l0 l1 l2 l3 : Option am_V) : ex_ d 0 410 [l0, l1, l2, l3] [v_i s0, v_i s1] h Q ↔ if s1 = s0 then ex_ d 0 1675 [l0, l1, l2, l3] [] h Q else ex_ d 0 413 [l0, l1, l2, l3] [] h Q := by
  unfold ex_
  refine (am_Y_go 1 (ok := []) (g := (if s1 = s0 then 1675 else 413, [l0, l1, l2, l3], [], h)) rfl).trans ?_
  all_goals exact am_Y_if

set_option maxRecDepth 100000 in
theorem b_L_law_433 {d : Nat} {Q : Option am_V → am_H → Prop} (h : am_H) (s0 : Int32) (s1 : Int32) (l0 l1 l2 l3 : Option am_V) : ex_ d 0 433 [l0, l1, l2, l3] [v_i s0, v_i s1] h Q ↔ if s1 = s0 then ex_ d 0 1675 [l0, l1, l2, l3] [] h Q else ex_ d 0 436 [l0, l1, l2, l3] [] h Q := by
  unfold ex_
  refine (am_Y_go 1 (ok := []) (g := (if s1 = s0 then 1675 else 436, [l0, l1, l2, l3], [], h)) rfl).trans ?_
  all_goals exact am_Y_if

set_option maxRecDepth 100000 in
theorem b_L_law_466 {d : Nat} {Q : Option am_V → am_H → Prop} (h : am_H) (s0 : Int32) (s1 : Int32) (l0 l1 l2 l3 : Option am_V) : ex_ d 0 466 [l0, l1, l2, l3] [v_i s0, v_i s1] h Q ↔ if s1 = s0 then ex_ d 0 1675 [l0, l1, l2, l3] [] h Q else ex_ d 0 469 [l0, l1, l2, l3] [] h Q := by
  unfold ex_
  refine (am_Y_go 1 (ok := []) (g := (if s1 = s0 then 1675 else 469, [l0, l1, l2, l3], [], h)) rfl).trans ?_
  all_goals exact am_Y_if

set_option maxRecDepth 100000 in
theorem b_L_law_499 {d : Nat} {Q : Option am_V → am_H → Prop} (h : am_H) (s0 : Int32) (s1 : Int32) (l0 l1 l2 l3 : Option am_V) : ex_ d 0 499 [l0, l1, l2, l3] [v_i s0, v_i s1] h Q ↔ if s1 = s0 then ex_ d 0 1675 [l0, l1, l2, l3] [] h Q else ex_ d 0 502 [l0, l1, l2, l3] [] h Q := by
  unfold ex_
  refine (am_Y_go 1 (ok := []) (g := (if s1 = s0 then 1675 else 502, [l0, l1, l2, l3], [], h)) rfl).trans ?_
  all_goals exact am_Y_if

set_option maxRecDepth 100000 in
theorem b_L_law_522 {d : Nat} {Q : Option am_V → am_H → Prop} (h : am_H) (s0 : Int32) (s1 : Int32) (l0 l1 l2 l3 : Option am_V) : ex_ d 0 522 [l0, l1, l2, l3] [v_i s0, v_i s1] h Q ↔ if s1 = s0 then ex_ d 0 1675 [l0, l1, l2, l3] [] h Q else ex_ d 0 525 [l0, l1, l2, l3] [] h Q := by
  unfold ex_
  refine (am_Y_go 1 (ok := []) (g := (if s1 = s0 then 1675 else 525, [l0, l1, l2, l3], [], h)) rfl).trans ?_
  all_goals exact am_Y_if

set_option maxRecDepth 100000 in
theorem b_L_law_545 {d : Nat} {Q : Option am_V → am_H → Prop} (h : am_H) (s0 : Int32) (s1 : Int32) (l0 l1 l2 l3 : Option am_V) : ex_ d 0 545 [l0, l1, l2, l3] [v_i s0, v_i s1] h Q ↔ if s1 = s0 then ex_ d 0 1675 [l0, l1, l2, l3] [] h Q else ex_ d 0 548 [l0, l1, l2, l3] [] h Q := by
  unfold ex_
  refine (am_Y_go 1 (ok := []) (g := (if s1 = s0 then 1675 else 548, [l0, l1, l2, l3], [], h)) rfl).trans ?_
  all_goals exact am_Y_if

set_option maxRecDepth 100000 in
theorem b_L_law_578 {d : Nat} {Q : Option am_V → am_H → Prop} (h : am_H) (s0 : Int32) (s1 : Int32) (l0 l1 l2 l3 : Option am_V) : ex_ d 0 578 [l0, l1, l2, l3] [v_i s0, v_i s1] h Q ↔ if s1 = s0 then ex_ d 0 1675 [l0, l1, l2, l3] [] h Q else ex_ d 0 581 [l0, l1, l2, l3] [] h Q := by
  unfold ex_
  refine (am_Y_go 1 (ok := []) (g := (if s1 = s0 then 1675 else 581, [l0, l1, l2, l3], [], h)) rfl).trans ?_
  all_goals exact am_Y_if

set_option maxRecDepth 100000 in
theorem b_L_law_611 {d : Nat} {Q : Option am_V → am_H → Prop} (h : am_H) (s0 : Int32) (s1 : Int32) (l0 l1 l2 l3 : Option am_V) : ex_ d 0 611 [l0, l1, l2, l3] [v_i s0, v_i s1] h Q ↔ if s1 = s0 then ex_ d 0 1675 [l0, l1, l2, l3] [] h Q else ex_ d 0 614 [l0, l1, l2, l3] [] h Q := by
  unfold ex_
  refine (am_Y_go 1 (ok := []) (g := (if s1 = s0 then 1675 else 614, [l0, l1, l2, l3], [], h)) rfl).trans ?_
  all_goals exact am_Y_if

set_option maxRecDepth 100000 in
theorem b_L_law_644 {d : Nat} {Q : Option am_V → am_H → Prop} (h : am_H) (s0 : Int32) (s1 : Int32) (l0 l1 l2 l3 : Option am_V) : ex_ d 0 644 [l0, l1, l2, l3] [v_i s0, v_i s1] h Q ↔ if s1 = s0 then ex_ d 0 1675 [l0, l1, l2, l3] [] h Q else ex_ d 0 647 [l0, l1, l2, l3] [] h Q := by
  unfold ex_
  refine (am_Y_go 1 (ok := []) (g := (if s1 = s0 then 1675 else 647, [l0, l1, l2, l3], [], h)) rfl).trans ?_
  all_goals exact am_Y_if

set_option maxRecDepth 100000 in
theorem b_L_law_687 {d : Nat} {Q : Option am_V → am_H → Prop} (h : am_H) (s0 : Int32) (s1 : Int32) (l0 l1 l2 l3 : Option am_V) : ex_ d 0 687 [l0, l1, l2, l3] [v_i s0, v_i s1] h Q ↔ if s1 = s0 then ex_ d 0 1675 [l0, l1, l2, l3] [] h Q else ex_ d 0 690 [l0, l1, l2, l3] [] h Q := by
  unfold ex_
  refine (am_Y_go 1 (ok := []) (g := (if s1 = s0 then 1675 else 690, [l0, l1, l2, l3], [], h)) rfl).trans ?_
  all_goals exact am_Y_if

set_option maxRecDepth 100000 in
theorem b_L_law_710 {d : Nat} {Q : Option am_V → am_H → Prop} (h : am_H) (s0 : Int32) (s1 : Int32) (l0 l1 l2 l3 : Option am_V) : ex_ d 0 710 [l0, l1, l2, l3] [v_i s0, v_i s1] h Q ↔ if s1 = s0 then ex_ d 0 1675 [l0, l1, l2, l3] [] h Q else ex_ d 0 713 [l0, l1, l2, l3] [] h Q := by
  unfold ex_
  refine (am_Y_go 1 (ok := []) (g := (if s1 = s0 then 1675 else 713, [l0, l1, l2, l3], [], h)) rfl).trans ?_
  all_goals exact am_Y_if

set_option maxRecDepth 100000 in
theorem b_L_law_733 {d : Nat} {Q : Option am_V → am_H → Prop} (h : am_H) (s0 : Int32) (s1 : Int32) (l0 l1 l2 l3 : Option am_V) : ex_ d 0 733 [l0, l1, l2, l3] [v_i s0, v_i s1] h Q ↔ if s1 = s0 then ex_ d 0 1675 [l0, l1, l2, l3] [] h Q else ex_ d 0 736 [l0, l1, l2, l3] [] h Q := by
  unfold ex_
  refine (am_Y_go 1 (ok := []) (g := (if s1 = s0 then 1675 else 736, [l0, l1, l2, l3], [], h)) rfl).trans ?_
  all_goals exact am_Y_if

set_option maxRecDepth 100000 in
theorem b_L_law_766 {d : Nat} {Q : Option am_V → am_H → Prop} (h : am_H) (s0 : Int32) (s1 : Int32) (l0 l1 l2 l3 : Option am_V) : ex_ d 0 766 [l0, l1, l2, l3] [v_i s0, v_i s1] h Q ↔ if s1 = s0 then ex_ d 0 1675 [l0, l1, l2, l3] [] h Q else ex_ d 0 769 [l0, l1, l2, l3] [] h Q := by
  unfold ex_
  refine (am_Y_go 1 (ok := []) (g := (if s1 = s0 then 1675 else 769, [l0, l1, l2, l3], [], h)) rfl).trans ?_
  all_goals exact am_Y_if

set_option maxRecDepth 100000 in
theorem b_L_law_789 {d : Nat} {Q : Option am_V → am_H → Prop} (h : am_H) (s0 : Int32) (s1 : Int32) (l0 l1 l2 l3 : Option am_V) : ex_ d 0 789 [l0, l1, l2, l3] [v_i s0, v_i s1] h Q ↔ if s1 = s0 then ex_ d 0 1675 [l0, l1, l2, l3] [] h Q else ex_ d 0 792 [l0, l1, l2, l3] [] h Q := by
  unfold ex_
  refine (am_Y_go 1 (ok := []) (g := (if s1 = s0 then 1675 else 792, [l0, l1, l2, l3], [], h)) rfl).trans ?_
  all_goals exact am_Y_if

set_option maxRecDepth 100000 in
theorem b_L_law_822 {d : Nat} {Q : Option am_V → am_H → Prop} (h : am_H) (s0 : Int32) (s1 : Int32) (l0 l1 l2 l3 : Option am_V) : ex_ d 0 822 [l0, l1, l2, l3] [v_i s0, v_i s1] h Q ↔ if s1 = s0 then ex_ d 0 1675 [l0, l1, l2, l3] [] h Q else ex_ d 0 825 [l0, l1, l2, l3] [] h Q := by
  unfold ex_
  refine (am_Y_go 1 (ok := []) (g := (if s1 = s0 then 1675 else 825, [l0, l1, l2, l3], [], h)) rfl).trans ?_
  all_goals exact am_Y_if

set_option maxRecDepth 100000 in
theorem b_L_law_845 {d : Nat} {Q : Option am_V → am_H → Prop} (h : am_H) (s0 : Int32) (s1 : Int32) (l0 l1 l2 l3 : Option am_V) : ex_ d 0 845 [l0, l1, l2, l3] [v_i s0, v_i s1] h Q ↔ if s1 = s0 then ex_ d 0 1675 [l0, l1, l2, l3] [] h Q else ex_ d 0 848 [l0, l1, l2, l3] [] h Q := by
  unfold ex_
  refine (am_Y_go 1 (ok := []) (g := (if s1 = s0 then 1675 else 848, [l0, l1, l2, l3], [], h)) rfl).trans ?_
  all_goals exact am_Y_if

set_option maxRecDepth 100000 in
theorem b_L_law_878 {d : Nat} {Q : Option am_V → am_H → Prop} (h : am_H) (s0 : Int32) (s1 : Int32) (l0 l1 l2 l3 : Option am_V) : ex_ d 0 878 [l0, l1, l2, l3] [v_i s0, v_i s1] h Q ↔ if s1 = s0 then ex_ d 0 1675 [l0, l1, l2, l3] [] h Q else ex_ d 0 881 [l0, l1, l2, l3] [] h Q := by
  unfold ex_
  refine (am_Y_go 1 (ok := []) (g := (if s1 = s0 then 1675 else 881, [l0, l1, l2, l3], [], h)) rfl).trans ?_
  all_goals exact am_Y_if

set_option maxRecDepth 100000 in
theorem b_L_law_911 {d : Nat} {Q : Option am_V → am_H → Prop} (h : am_H) (s0 : Int32) (s1 : Int32) (l0 l1 l2 l3 : Option am_V) : ex_ d 0 911 [l0, l1, l2, l3] [v_i s0, v_i s1] h Q ↔ if s1 = s0 then ex_ d 0 1675 [l0, l1, l2, l3] [] h Q else ex_ d 0 914 [l0, l1, l2, l3] [] h Q := by
  unfold ex_
  refine (am_Y_go 1 (ok := []) (g := (if s1 = s0 then 1675 else 914, [l0, l1, l2, l3], [], h)) rfl).trans ?_
  all_goals exact am_Y_if

set_option maxRecDepth 100000 in
theorem b_L_law_934 {d : Nat} {Q : Option am_V → am_H → Prop} (h : am_H) (s0 : Int32) (s1 : Int32) (l0 l1 l2 l3 : Option am_V) : ex_ d 0 934 [l0, l1, l2, l3] [v_i s0, v_i s1] h Q ↔ if s1 = s0 then ex_ d 0 1675 [l0, l1, l2, l3] [] h Q else ex_ d 0 937 [l0, l1, l2, l3] [] h Q := by
  unfold ex_
  refine (am_Y_go 1 (ok := []) (g := (if s1 = s0 then 1675 else 937, [l0, l1, l2, l3], [], h)) rfl).trans ?_
  all_goals exact am_Y_if

set_option maxRecDepth 100000 in
theorem b_L_law_957 {d : Nat} {Q : Option am_V → am_H → Prop} (h : am_H) (s0 : Int32) (s1 : Int32) (l0 l1 l2 l3 : Option am_V) : ex_ d 0 957 [l0, l1, l2, l3] [v_i s0, v_i s1] h Q ↔ if s1 = s0 then ex_ d 0 1675 [l0, l1, l2, l3] [] h Q else ex_ d 0 960 [l0, l1, l2, l3] [] h Q := by
  unfold ex_
  refine (am_Y_go 1 (ok := []) (g := (if s1 = s0 then 1675 else 960, [l0, l1, l2, l3], [], h)) rfl).trans ?_
  all_goals exact am_Y_if

set_option maxRecDepth 100000 in
theorem b_L_law_1000 {d : Nat} {Q : Option am_V → am_H → Prop} (h : am_H) (s0 : Int32) (s1 : Int32) (l0 l1 l2 l3 : Option am_V) : ex_ d 0 1000 [l0, l1, l2, l3] [v_i s0, v_i s1] h Q ↔ if s1 = s0 then ex_ d 0 1675 [l0, l1, l2, l3] [] h Q else ex_ d 0 1003 [l0, l1, l2, l3] [] h Q := by
  unfold ex_
  refine (am_Y_go 1 (ok := []) (g := (if s1 = s0 then 1675 else 1003, [l0, l1, l2, l3], [], h)) rfl).trans ?_
  all_goals exact am_Y_if

set_option maxRecDepth 100000 in
theorem b_L_law_1033 {d : Nat} {Q : Option am_V → am_H → Prop} (h : am_H) (s0 : Int32) (s1 : Int32) (l0 l1 l2 l3 : Option am_V) : ex_ d 0 1033 [l0, l1, l2, l3] [v_i s0, v_i s1] h Q ↔ if s1 = s0 then ex_ d 0 1675 [l0, l1, l2, l3] [] h Q else ex_ d 0 1036 [l0, l1, l2, l3] [] h Q := by
  unfold ex_
  refine (am_Y_go 1 (ok := []) (g := (if s1 = s0 then 1675 else 1036, [l0, l1, l2, l3], [], h)) rfl).trans ?_
  all_goals exact am_Y_if

set_option maxRecDepth 100000 in
theorem b_L_law_1056 {d : Nat} {Q : Option am_V → am_H → Prop} (h : am_H) (s0 : Int32) (s1 : Int32) (l0 l1 l2 l3 : Option am_V) : ex_ d 0 1056 [l0, l1, l2, l3] [v_i s0, v_i s1] h Q ↔ if s1 = s0 then ex_ d 0 1675 [l0, l1, l2, l3] [] h Q else ex_ d 0 1059 [l0, l1, l2, l3] [] h Q := by
  unfold ex_
  refine (am_Y_go 1 (ok := []) (g := (if s1 = s0 then 1675 else 1059, [l0, l1, l2, l3], [], h)) rfl).trans ?_
  all_goals exact am_Y_if

set_option maxRecDepth 100000 in
theorem b_L_law_1089 {d : Nat} {Q : Option am_V → am_H → Prop} (h : am_H) (s0 : Int32) (s1 : Int32) (l0 l1 l2 l3 : Option am_V) : ex_ d 0 1089 [l0, l1, l2, l3] [v_i s0, v_i s1] h Q ↔ if s1 = s0 then ex_ d 0 1675 [l0, l1, l2, l3] [] h Q else ex_ d 0 1092 [l0, l1, l2, l3] [] h Q := by
  unfold ex_
  refine (am_Y_go 1 (ok := []) (g := (if s1 = s0 then 1675 else 1092, [l0, l1, l2, l3], [], h)) rfl).trans ?_
  all_goals exact am_Y_if

set_option maxRecDepth 100000 in
theorem b_L_law_1132 {d : Nat} {Q : Option am_V → am_H → Prop} (h : am_H) (s0 : Int32) (s1 : Int32) (l0 l1 l2 l3 : Option am_V) : ex_ d 0 1132 [l0, l1, l2, l3] [v_i s0, v_i s1] h Q ↔ if s1 = s0 then ex_ d 0 1675 [l0, l1, l2, l3] [] h Q else ex_ d 0 1135 [l0, l1, l2, l3] [] h Q := by
  unfold ex_
  refine (am_Y_go 1 (ok := []) (g := (if s1 = s0 then 1675 else 1135, [l0, l1, l2, l3], [], h)) rfl).trans ?_
  all_goals exact am_Y_if

set_option maxRecDepth 100000 in
theorem b_L_law_1165 {d : Nat} {Q : Option am_V → am_H → Prop} (h : am_H) (s0 : Int32) (s1 : Int32) (l0 l1 l2 l3 : Option am_V) : ex_ d 0 1165 [l0, l1, l2, l3] [v_i s0, v_i s1] h Q ↔ if s1 = s0 then ex_ d 0 1675 [l0, l1, l2, l3] [] h Q else ex_ d 0 1168 [l0, l1, l2, l3] [] h Q := by
  unfold ex_
  refine (am_Y_go 1 (ok := []) (g := (if s1 = s0 then 1675 else 1168, [l0, l1, l2, l3], [], h)) rfl).trans ?_
  all_goals exact am_Y_if

set_option maxRecDepth 100000 in
theorem b_L_law_1178 {d : Nat} {Q : Option am_V → am_H → Prop} (h : am_H) (s0 : Int32) (s1 : Int32) (l0 l1 l2 l3 : Option am_V) : ex_ d 0 1178 [l0, l1, l2, l3] [v_i s0, v_i s1] h Q ↔ if s1 = s0 then ex_ d 0 1675 [l0, l1, l2, l3] [] h Q else ex_ d 0 1181 [l0, l1, l2, l3] [] h Q := by
  unfold ex_
  refine (am_Y_go 1 (ok := []) (g := (if s1 = s0 then 1675 else 1181, [l0, l1, l2, l3], [], h)) rfl).trans ?_
  all_goals exact am_Y_if

set_option maxRecDepth 100000 in
theorem b_L_law_1191 {d : Nat} {Q : Option am_V → am_H → Prop} (h : am_H) (s0 : Int32) (s1 : Int32) (l0 l1 l2 l3 : Option am_V) : ex_ d 0 1191 [l0, l1, l2, l3] [v_i s0, v_i s1] h Q ↔ if s1 = s0 then ex_ d 0 1675 [l0, l1, l2, l3] [] h Q else ex_ d 0 1194 [l0, l1, l2, l3] [] h Q := by
  unfold ex_
  refine (am_Y_go 1 (ok := []) (g := (if s1 = s0 then 1675 else 1194, [l0, l1, l2, l3], [], h)) rfl).trans ?_
  all_goals exact am_Y_if

set_option maxRecDepth 100000 in
theorem b_L_law_1224 {d : Nat} {Q : Option am_V → am_H → Prop} (h : am_H) (s0 : Int32) (s1 : Int32) (l0 l1 l2 l3 : Option am_V) : ex_ d 0 1224 [l0, l1, l2, l3] [v_i s0, v_i s1] h Q ↔ if s1 = s0 then ex_ d 0 1675 [l0, l1, l2, l3] [] h Q else ex_ d 0 1227 [l0, l1, l2, l3] [] h Q := by
  unfold ex_
  refine (am_Y_go 1 (ok := []) (g := (if s1 = s0 then 1675 else 1227, [l0, l1, l2, l3], [], h)) rfl).trans ?_
  all_goals exact am_Y_if

set_option maxRecDepth 100000 in
theorem b_L_law_1247 {d : Nat} {Q : Option am_V → am_H → Prop} (h : am_H) (s0 : Int32) (s1 : Int32) (l0 l1 l2 l3 : Option am_V) : ex_ d 0 1247 [l0, l1, l2, l3] [v_i s0, v_i s1] h Q ↔ if s1 = s0 then ex_ d 0 1675 [l0, l1, l2, l3] [] h Q else ex_ d 0 1250 [l0, l1, l2, l3] [] h Q := by
  unfold ex_
  refine (am_Y_go 1 (ok := []) (g := (if s1 = s0 then 1675 else 1250, [l0, l1, l2, l3], [], h)) rfl).trans ?_
  all_goals exact am_Y_if

set_option maxRecDepth 100000 in
theorem b_L_law_1280 {d : Nat} {Q : Option am_V → am_H → Prop} (h : am_H) (s0 : Int32) (s1 : Int32) (l0 l1 l2 l3 : Option am_V) : ex_ d 0 1280 [l0, l1, l2, l3] [v_i s0, v_i s1] h Q ↔ if s1 = s0 then ex_ d 0 1675 [l0, l1, l2, l3] [] h Q else ex_ d 0 1283 [l0, l1, l2, l3] [] h Q := by
  unfold ex_
  refine (am_Y_go 1 (ok := []) (g := (if s1 = s0 then 1675 else 1283, [l0, l1, l2, l3], [], h)) rfl).trans ?_
  all_goals exact am_Y_if

set_option maxRecDepth 100000 in
theorem b_L_law_1303 {d : Nat} {Q : Option am_V → am_H → Prop} (h : am_H) (s0 : Int32) (s1 : Int32) (l0 l1 l2 l3 : Option am_V) : ex_ d 0 1303 [l0, l1, l2, l3] [v_i s0, v_i s1] h Q ↔ if s1 = s0 then ex_ d 0 1675 [l0, l1, l2, l3] [] h Q else ex_ d 0 1306 [l0, l1, l2, l3] [] h Q := by
  unfold ex_
  refine (am_Y_go 1 (ok := []) (g := (if s1 = s0 then 1675 else 1306, [l0, l1, l2, l3], [], h)) rfl).trans ?_
  all_goals exact am_Y_if

set_option maxRecDepth 100000 in
theorem b_L_law_1316 {d : Nat} {Q : Option am_V → am_H → Prop} (h : am_H) (s0 : Int32) (s1 : Int32) (l0 l1 l2 l3 : Option am_V) : ex_ d 0 1316 [l0, l1, l2, l3] [v_i s0, v_i s1] h Q ↔ if s1 = s0 then ex_ d 0 1675 [l0, l1, l2, l3] [] h Q else ex_ d 0 1319 [l0, l1, l2, l3] [] h Q := by
  unfold ex_
  refine (am_Y_go 1 (ok := []) (g := (if s1 = s0 then 1675 else 1319, [l0, l1, l2, l3], [], h)) rfl).trans ?_
  all_goals exact am_Y_if

set_option maxRecDepth 100000 in
theorem b_L_law_1339 {d : Nat} {Q : Option am_V → am_H → Prop} (h : am_H) (s0 : Int32) (s1 : Int32) (l0 l1 l2 l3 : Option am_V) : ex_ d 0 1339 [l0, l1, l2, l3] [v_i s0, v_i s1] h Q ↔ if s1 = s0 then ex_ d 0 1675 [l0, l1, l2, l3] [] h Q else ex_ d 0 1342 [l0, l1, l2, l3] [] h Q := by
  unfold ex_
  refine (am_Y_go 1 (ok := []) (g := (if s1 = s0 then 1675 else 1342, [l0, l1, l2, l3], [], h)) rfl).trans ?_
  all_goals exact am_Y_if

set_option maxRecDepth 100000 in
theorem b_L_law_1362 {d : Nat} {Q : Option am_V → am_H → Prop} (h : am_H) (s0 : Int32) (s1 : Int32) (l0 l1 l2 l3 : Option am_V) : ex_ d 0 1362 [l0, l1, l2, l3] [v_i s0, v_i s1] h Q ↔ if s1 = s0 then ex_ d 0 1675 [l0, l1, l2, l3] [] h Q else ex_ d 0 1365 [l0, l1, l2, l3] [] h Q := by
  unfold ex_
  refine (am_Y_go 1 (ok := []) (g := (if s1 = s0 then 1675 else 1365, [l0, l1, l2, l3], [], h)) rfl).trans ?_
  all_goals exact am_Y_if

set_option maxRecDepth 100000 in
theorem b_L_law_1385 {d : Nat} {Q : Option am_V → am_H → Prop} (h : am_H) (s0 : Int32) (s1 : Int32) (l0 l1 l2 l3 : Option am_V) : ex_ d 0 1385 [l0, l1, l2, l3] [v_i s0, v_i s1] h Q ↔ if s1 = s0 then ex_ d 0 1675 [l0, l1, l2, l3] [] h Q else ex_ d 0 1388 [l0, l1, l2, l3] [] h Q := by
  unfold ex_
  refine (am_Y_go 1 (ok := []) (g := (if s1 = s0 then 1675 else 1388, [l0, l1, l2, l3], [], h)) rfl).trans ?_
  all_goals exact am_Y_if

set_option maxRecDepth 100000 in
theorem b_L_law_1418 {d : Nat} {Q : Option am_V → am_H → Prop} (h : am_H) (s0 : Int32) (s1 : Int32) (l0 l1 l2 l3 : Option am_V) : ex_ d 0 1418 [l0, l1, l2, l3] [v_i s0, v_i s1] h Q ↔ if s1 = s0 then ex_ d 0 1675 [l0, l1, l2, l3] [] h Q else ex_ d 0 1421 [l0, l1, l2, l3] [] h Q := by
  unfold ex_
  refine (am_Y_go 1 (ok := []) (g := (if s1 = s0 then 1675 else 1421, [l0, l1, l2, l3], [], h)) rfl).trans ?_
  all_goals exact am_Y_if

set_option maxRecDepth 100000 in
theorem b_L_law_1451 {d : Nat} {Q : Option am_V → am_H → Prop} (h : am_H) (s0 : Int32) (s1 : Int32) (l0 l1 l2 l3 : Option am_V) : ex_ d 0 1451 [l0, l1, l2, l3] [v_i s0, v_i s1] h Q ↔ if s1 = s0 then ex_ d 0 1675 [l0, l1, l2, l3] [] h Q else ex_ d 0 1454 [l0, l1, l2, l3] [] h Q := by
  unfold ex_
  refine (am_Y_go 1 (ok := []) (g := (if s1 = s0 then 1675 else 1454, [l0, l1, l2, l3], [], h)) rfl).trans ?_
  all_goals exact am_Y_if

set_option maxRecDepth 100000 in
theorem b_L_law_1494 {d : Nat} {Q : Option am_V → am_H → Prop} (h : am_H) (s0 : Int32) (s1 : Int32) (l0 l1 l2 l3 : Option am_V) : ex_ d 0 1494 [l0, l1, l2, l3] [v_i s0, v_i s1] h Q ↔ if s1 = s0 then ex_ d 0 1675 [l0, l1, l2, l3] [] h Q else ex_ d 0 1497 [l0, l1, l2, l3] [] h Q := by
  unfold ex_
  refine (am_Y_go 1 (ok := []) (g := (if s1 = s0 then 1675 else 1497, [l0, l1, l2, l3], [], h)) rfl).trans ?_
  all_goals exact am_Y_if

set_option maxRecDepth 100000 in
theorem b_L_law_1567 {d : Nat} {Q : Option am_V → am_H → Prop} (h : am_H) (s0 : Int64) (s1 : Int64) (l0 l1 l2 l3 : Option am_V) : ex_ d 0 1567 [l0, l1, l2, l3] [v_l s0, v_l s1] h Q ↔ if (lg_cmp s1 s0) = 0 then ex_ d 0 1675 [l0, l1, l2, l3] [] h Q else ex_ d 0 1571 [l0, l1, l2, l3] [] h Q := by
  unfold ex_
  refine (am_Y_go 2 (ok := []) (g := (if (lg_cmp s1 s0) = 0 then 1675 else 1571, [l0, l1, l2, l3], [], h)) rfl).trans ?_
  all_goals exact am_Y_if

set_option maxRecDepth 100000 in
theorem b_L_law_1601 {d : Nat} {Q : Option am_V → am_H → Prop} (h : am_H) (s0 : Int32) (s1 : Int32) (l0 l1 l2 l3 : Option am_V) : ex_ d 0 1601 [l0, l1, l2, l3] [v_i s0, v_i s1] h Q ↔ if s1 = s0 then ex_ d 0 1675 [l0, l1, l2, l3] [] h Q else ex_ d 0 1604 [l0, l1, l2, l3] [] h Q := by
  unfold ex_
  refine (am_Y_go 1 (ok := []) (g := (if s1 = s0 then 1675 else 1604, [l0, l1, l2, l3], [], h)) rfl).trans ?_
  all_goals exact am_Y_if

set_option maxRecDepth 100000 in
theorem b_L_law_1624 {d : Nat} {Q : Option am_V → am_H → Prop} (h : am_H) (s0 : Int32) (s1 : Int32) (l0 l1 l2 l3 : Option am_V) : ex_ d 0 1624 [l0, l1, l2, l3] [v_i s0, v_i s1] h Q ↔ if s1 = s0 then ex_ d 0 1675 [l0, l1, l2, l3] [] h Q else ex_ d 0 1627 [l0, l1, l2, l3] [] h Q := by
  unfold ex_
  refine (am_Y_go 1 (ok := []) (g := (if s1 = s0 then 1675 else 1627, [l0, l1, l2, l3], [], h)) rfl).trans ?_
  all_goals exact am_Y_if

set_option maxRecDepth 100000 in
theorem b_L_law_1647 {d : Nat} {Q : Option am_V → am_H → Prop} (h : am_H) (s0 : Int32) (s1 : Int32) (l0 l1 l2 l3 : Option am_V) : ex_ d 0 1647 [l0, l1, l2, l3] [v_i s0, v_i s1] h Q ↔ if s1 = s0 then ex_ d 0 1675 [l0, l1, l2, l3] [] h Q else ex_ d 0 1650 [l0, l1, l2, l3] [] h Q := by
  unfold ex_
  refine (am_Y_go 1 (ok := []) (g := (if s1 = s0 then 1675 else 1650, [l0, l1, l2, l3], [], h)) rfl).trans ?_
  all_goals exact am_Y_if

set_option maxRecDepth 100000 in
theorem b_L_law_1670 {d : Nat} {Q : Option am_V → am_H → Prop} (h : am_H) (s0 : Int32) (s1 : Int32) (l0 l1 l2 l3 : Option am_V) : ex_ d 0 1670 [l0, l1, l2, l3] [v_i s0, v_i s1] h Q ↔ if s1 = s0 then ex_ d 0 1675 [l0, l1, l2, l3] [] h Q else ex_ d 0 1673 [l0, l1, l2, l3] [] h Q := by
  unfold ex_
  refine (am_Y_go 1 (ok := []) (g := (if s1 = s0 then 1675 else 1673, [l0, l1, l2, l3], [], h)) rfl).trans ?_
  all_goals exact am_Y_if

set_option maxRecDepth 100000 in
theorem b_L_law_301 {d : Nat} {Q : Option am_V → am_H → Prop} (h : am_H) (l0 l1 l2 l3 : Option am_V) : ex_ d 0 301 [l0, l1, l2, l3] [] h Q ↔ Q (some (v_i (0 : Int32))) h := by
  unfold ex_
  refine (am_Y_go 1 (ok := []) (g := (302, [l0, l1, l2, l3], [v_i (0 : Int32)], h)) rfl).trans ?_
  all_goals exact ((am_Y_ret rfl rfl rfl).trans (am_rz (show am_fit 1 0 from Or.inl rfl)))

set_option maxRecDepth 100000 in
theorem b_L_law_324 {d : Nat} {Q : Option am_V → am_H → Prop} (h : am_H) (l0 l1 l2 l3 : Option am_V) : ex_ d 0 324 [l0, l1, l2, l3] [] h Q ↔ Q (some (v_i (0 : Int32))) h := by
  unfold ex_
  refine (am_Y_go 1 (ok := []) (g := (325, [l0, l1, l2, l3], [v_i (0 : Int32)], h)) rfl).trans ?_
  all_goals exact ((am_Y_ret rfl rfl rfl).trans (am_rz (show am_fit 1 0 from Or.inl rfl)))

set_option maxRecDepth 100000 in
theorem b_L_law_347 {d : Nat} {Q : Option am_V → am_H → Prop} (h : am_H) (l0 l1 l2 l3 : Option am_V) : ex_ d 0 347 [l0, l1, l2, l3] [] h Q ↔ Q (some (v_i (0 : Int32))) h := by
  unfold ex_
  refine (am_Y_go 1 (ok := []) (g := (348, [l0, l1, l2, l3], [v_i (0 : Int32)], h)) rfl).trans ?_
  all_goals exact ((am_Y_ret rfl rfl rfl).trans (am_rz (show am_fit 1 0 from Or.inl rfl)))

set_option maxRecDepth 100000 in
theorem b_L_law_380 {d : Nat} {Q : Option am_V → am_H → Prop} (h : am_H) (l0 l1 l2 l3 : Option am_V) : ex_ d 0 380 [l0, l1, l2, l3] [] h Q ↔ Q (some (v_i (0 : Int32))) h := by
  unfold ex_
  refine (am_Y_go 1 (ok := []) (g := (381, [l0, l1, l2, l3], [v_i (0 : Int32)], h)) rfl).trans ?_
  all_goals exact ((am_Y_ret rfl rfl rfl).trans (am_rz (show am_fit 1 0 from Or.inl rfl)))

set_option maxRecDepth 100000 in
theorem b_L_law_413 {d : Nat} {Q : Option am_V → am_H → Prop} (h : am_H) (l0 l1 l2 l3 : Option am_V) : ex_ d 0 413 [l0, l1, l2, l3] [] h Q ↔ Q (some (v_i (0 : Int32))) h := by
  unfold ex_
  refine (am_Y_go 1 (ok := []) (g := (414, [l0, l1, l2, l3], [v_i (0 : Int32)], h)) rfl).trans ?_
  all_goals exact ((am_Y_ret rfl rfl rfl).trans (am_rz (show am_fit 1 0 from Or.inl rfl)))

set_option maxRecDepth 100000 in
theorem b_L_law_436 {d : Nat} {Q : Option am_V → am_H → Prop} (h : am_H) (l0 l1 l2 l3 : Option am_V) : ex_ d 0 436 [l0, l1, l2, l3] [] h Q ↔ Q (some (v_i (0 : Int32))) h := by
  unfold ex_
  refine (am_Y_go 1 (ok := []) (g := (437, [l0, l1, l2, l3], [v_i (0 : Int32)], h)) rfl).trans ?_
  all_goals exact ((am_Y_ret rfl rfl rfl).trans (am_rz (show am_fit 1 0 from Or.inl rfl)))

set_option maxRecDepth 100000 in
theorem b_L_law_469 {d : Nat} {Q : Option am_V → am_H → Prop} (h : am_H) (l0 l1 l2 l3 : Option am_V) : ex_ d 0 469 [l0, l1, l2, l3] [] h Q ↔ Q (some (v_i (0 : Int32))) h := by
  unfold ex_
  refine (am_Y_go 1 (ok := []) (g := (470, [l0, l1, l2, l3], [v_i (0 : Int32)], h)) rfl).trans ?_
  all_goals exact ((am_Y_ret rfl rfl rfl).trans (am_rz (show am_fit 1 0 from Or.inl rfl)))

set_option maxRecDepth 100000 in
theorem b_L_law_502 {d : Nat} {Q : Option am_V → am_H → Prop} (h : am_H) (l0 l1 l2 l3 : Option am_V) : ex_ d 0 502 [l0, l1, l2, l3] [] h Q ↔ Q (some (v_i (0 : Int32))) h := by
  unfold ex_
  refine (am_Y_go 1 (ok := []) (g := (503, [l0, l1, l2, l3], [v_i (0 : Int32)], h)) rfl).trans ?_
  all_goals exact ((am_Y_ret rfl rfl rfl).trans (am_rz (show am_fit 1 0 from Or.inl rfl)))

set_option maxRecDepth 100000 in
theorem b_L_law_525 {d : Nat} {Q : Option am_V → am_H → Prop} (h : am_H) (l0 l1 l2 l3 : Option am_V) : ex_ d 0 525 [l0, l1, l2, l3] [] h Q ↔ Q (some (v_i (0 : Int32))) h := by
  unfold ex_
  refine (am_Y_go 1 (ok := []) (g := (526, [l0, l1, l2, l3], [v_i (0 : Int32)], h)) rfl).trans ?_
  all_goals exact ((am_Y_ret rfl rfl rfl).trans (am_rz (show am_fit 1 0 from Or.inl rfl)))

set_option maxRecDepth 100000 in
theorem b_L_law_548 {d : Nat} {Q : Option am_V → am_H → Prop} (h : am_H) (l0 l1 l2 l3 : Option am_V) : ex_ d 0 548 [l0, l1, l2, l3] [] h Q ↔ Q (some (v_i (0 : Int32))) h := by
  unfold ex_
  refine (am_Y_go 1 (ok := []) (g := (549, [l0, l1, l2, l3], [v_i (0 : Int32)], h)) rfl).trans ?_
  all_goals exact ((am_Y_ret rfl rfl rfl).trans (am_rz (show am_fit 1 0 from Or.inl rfl)))

set_option maxRecDepth 100000 in
theorem b_L_law_581 {d : Nat} {Q : Option am_V → am_H → Prop} (h : am_H) (l0 l1 l2 l3 : Option am_V) : ex_ d 0 581 [l0, l1, l2, l3] [] h Q ↔ Q (some (v_i (0 : Int32))) h := by
  unfold ex_
  refine (am_Y_go 1 (ok := []) (g := (582, [l0, l1, l2, l3], [v_i (0 : Int32)], h)) rfl).trans ?_
  all_goals exact ((am_Y_ret rfl rfl rfl).trans (am_rz (show am_fit 1 0 from Or.inl rfl)))

set_option maxRecDepth 100000 in
theorem b_L_law_614 {d : Nat} {Q : Option am_V → am_H → Prop} (h : am_H) (l0 l1 l2 l3 : Option am_V) : ex_ d 0 614 [l0, l1, l2, l3] [] h Q ↔ Q (some (v_i (0 : Int32))) h := by
  unfold ex_
  refine (am_Y_go 1 (ok := []) (g := (615, [l0, l1, l2, l3], [v_i (0 : Int32)], h)) rfl).trans ?_
  all_goals exact ((am_Y_ret rfl rfl rfl).trans (am_rz (show am_fit 1 0 from Or.inl rfl)))

set_option maxRecDepth 100000 in
theorem b_L_law_647 {d : Nat} {Q : Option am_V → am_H → Prop} (h : am_H) (l0 l1 l2 l3 : Option am_V) : ex_ d 0 647 [l0, l1, l2, l3] [] h Q ↔ Q (some (v_i (0 : Int32))) h := by
  unfold ex_
  refine (am_Y_go 1 (ok := []) (g := (648, [l0, l1, l2, l3], [v_i (0 : Int32)], h)) rfl).trans ?_
  all_goals exact ((am_Y_ret rfl rfl rfl).trans (am_rz (show am_fit 1 0 from Or.inl rfl)))

set_option maxRecDepth 100000 in
theorem b_L_law_690 {d : Nat} {Q : Option am_V → am_H → Prop} (h : am_H) (l0 l1 l2 l3 : Option am_V) : ex_ d 0 690 [l0, l1, l2, l3] [] h Q ↔ Q (some (v_i (0 : Int32))) h := by
  unfold ex_
  refine (am_Y_go 1 (ok := []) (g := (691, [l0, l1, l2, l3], [v_i (0 : Int32)], h)) rfl).trans ?_
  all_goals exact ((am_Y_ret rfl rfl rfl).trans (am_rz (show am_fit 1 0 from Or.inl rfl)))

set_option maxRecDepth 100000 in
theorem b_L_law_713 {d : Nat} {Q : Option am_V → am_H → Prop} (h : am_H) (l0 l1 l2 l3 : Option am_V) : ex_ d 0 713 [l0, l1, l2, l3] [] h Q ↔ Q (some (v_i (0 : Int32))) h := by
  unfold ex_
  refine (am_Y_go 1 (ok := []) (g := (714, [l0, l1, l2, l3], [v_i (0 : Int32)], h)) rfl).trans ?_
  all_goals exact ((am_Y_ret rfl rfl rfl).trans (am_rz (show am_fit 1 0 from Or.inl rfl)))

set_option maxRecDepth 100000 in
theorem b_L_law_736 {d : Nat} {Q : Option am_V → am_H → Prop} (h : am_H) (l0 l1 l2 l3 : Option am_V) : ex_ d 0 736 [l0, l1, l2, l3] [] h Q ↔ Q (some (v_i (0 : Int32))) h := by
  unfold ex_
  refine (am_Y_go 1 (ok := []) (g := (737, [l0, l1, l2, l3], [v_i (0 : Int32)], h)) rfl).trans ?_
  all_goals exact ((am_Y_ret rfl rfl rfl).trans (am_rz (show am_fit 1 0 from Or.inl rfl)))

set_option maxRecDepth 100000 in
theorem b_L_law_769 {d : Nat} {Q : Option am_V → am_H → Prop} (h : am_H) (l0 l1 l2 l3 : Option am_V) : ex_ d 0 769 [l0, l1, l2, l3] [] h Q ↔ Q (some (v_i (0 : Int32))) h := by
  unfold ex_
  refine (am_Y_go 1 (ok := []) (g := (770, [l0, l1, l2, l3], [v_i (0 : Int32)], h)) rfl).trans ?_
  all_goals exact ((am_Y_ret rfl rfl rfl).trans (am_rz (show am_fit 1 0 from Or.inl rfl)))

set_option maxRecDepth 100000 in
theorem b_L_law_792 {d : Nat} {Q : Option am_V → am_H → Prop} (h : am_H) (l0 l1 l2 l3 : Option am_V) : ex_ d 0 792 [l0, l1, l2, l3] [] h Q ↔ Q (some (v_i (0 : Int32))) h := by
  unfold ex_
  refine (am_Y_go 1 (ok := []) (g := (793, [l0, l1, l2, l3], [v_i (0 : Int32)], h)) rfl).trans ?_
  all_goals exact ((am_Y_ret rfl rfl rfl).trans (am_rz (show am_fit 1 0 from Or.inl rfl)))

set_option maxRecDepth 100000 in
theorem b_L_law_825 {d : Nat} {Q : Option am_V → am_H → Prop} (h : am_H) (l0 l1 l2 l3 : Option am_V) : ex_ d 0 825 [l0, l1, l2, l3] [] h Q ↔ Q (some (v_i (0 : Int32))) h := by
  unfold ex_
  refine (am_Y_go 1 (ok := []) (g := (826, [l0, l1, l2, l3], [v_i (0 : Int32)], h)) rfl).trans ?_
  all_goals exact ((am_Y_ret rfl rfl rfl).trans (am_rz (show am_fit 1 0 from Or.inl rfl)))

set_option maxRecDepth 100000 in
theorem b_L_law_848 {d : Nat} {Q : Option am_V → am_H → Prop} (h : am_H) (l0 l1 l2 l3 : Option am_V) : ex_ d 0 848 [l0, l1, l2, l3] [] h Q ↔ Q (some (v_i (0 : Int32))) h := by
  unfold ex_
  refine (am_Y_go 1 (ok := []) (g := (849, [l0, l1, l2, l3], [v_i (0 : Int32)], h)) rfl).trans ?_
  all_goals exact ((am_Y_ret rfl rfl rfl).trans (am_rz (show am_fit 1 0 from Or.inl rfl)))

set_option maxRecDepth 100000 in
theorem b_L_law_881 {d : Nat} {Q : Option am_V → am_H → Prop} (h : am_H) (l0 l1 l2 l3 : Option am_V) : ex_ d 0 881 [l0, l1, l2, l3] [] h Q ↔ Q (some (v_i (0 : Int32))) h := by
  unfold ex_
  refine (am_Y_go 1 (ok := []) (g := (882, [l0, l1, l2, l3], [v_i (0 : Int32)], h)) rfl).trans ?_
  all_goals exact ((am_Y_ret rfl rfl rfl).trans (am_rz (show am_fit 1 0 from Or.inl rfl)))

set_option maxRecDepth 100000 in
theorem b_L_law_914 {d : Nat} {Q : Option am_V → am_H → Prop} (h : am_H) (l0 l1 l2 l3 : Option am_V) : ex_ d 0 914 [l0, l1, l2, l3] [] h Q ↔ Q (some (v_i (0 : Int32))) h := by
  unfold ex_
  refine (am_Y_go 1 (ok := []) (g := (915, [l0, l1, l2, l3], [v_i (0 : Int32)], h)) rfl).trans ?_
  all_goals exact ((am_Y_ret rfl rfl rfl).trans (am_rz (show am_fit 1 0 from Or.inl rfl)))

set_option maxRecDepth 100000 in
theorem b_L_law_937 {d : Nat} {Q : Option am_V → am_H → Prop} (h : am_H) (l0 l1 l2 l3 : Option am_V) : ex_ d 0 937 [l0, l1, l2, l3] [] h Q ↔ Q (some (v_i (0 : Int32))) h := by
  unfold ex_
  refine (am_Y_go 1 (ok := []) (g := (938, [l0, l1, l2, l3], [v_i (0 : Int32)], h)) rfl).trans ?_
  all_goals exact ((am_Y_ret rfl rfl rfl).trans (am_rz (show am_fit 1 0 from Or.inl rfl)))

set_option maxRecDepth 100000 in
theorem b_L_law_960 {d : Nat} {Q : Option am_V → am_H → Prop} (h : am_H) (l0 l1 l2 l3 : Option am_V) : ex_ d 0 960 [l0, l1, l2, l3] [] h Q ↔ Q (some (v_i (0 : Int32))) h := by
  unfold ex_
  refine (am_Y_go 1 (ok := []) (g := (961, [l0, l1, l2, l3], [v_i (0 : Int32)], h)) rfl).trans ?_
  all_goals exact ((am_Y_ret rfl rfl rfl).trans (am_rz (show am_fit 1 0 from Or.inl rfl)))

set_option maxRecDepth 100000 in
theorem b_L_law_1003 {d : Nat} {Q : Option am_V → am_H → Prop} (h : am_H) (l0 l1 l2 l3 : Option am_V) : ex_ d 0 1003 [l0, l1, l2, l3] [] h Q ↔ Q (some (v_i (0 : Int32))) h := by
  unfold ex_
  refine (am_Y_go 1 (ok := []) (g := (1004, [l0, l1, l2, l3], [v_i (0 : Int32)], h)) rfl).trans ?_
  all_goals exact ((am_Y_ret rfl rfl rfl).trans (am_rz (show am_fit 1 0 from Or.inl rfl)))

set_option maxRecDepth 100000 in
theorem b_L_law_1036 {d : Nat} {Q : Option am_V → am_H → Prop} (h : am_H) (l0 l1 l2 l3 : Option am_V) : ex_ d 0 1036 [l0, l1, l2, l3] [] h Q ↔ Q (some (v_i (0 : Int32))) h := by
  unfold ex_
  refine (am_Y_go 1 (ok := []) (g := (1037, [l0, l1, l2, l3], [v_i (0 : Int32)], h)) rfl).trans ?_
  all_goals exact ((am_Y_ret rfl rfl rfl).trans (am_rz (show am_fit 1 0 from Or.inl rfl)))

set_option maxRecDepth 100000 in
theorem b_L_law_1059 {d : Nat} {Q : Option am_V → am_H → Prop} (h : am_H) (l0 l1 l2 l3 : Option am_V) : ex_ d 0 1059 [l0, l1, l2, l3] [] h Q ↔ Q (some (v_i (0 : Int32))) h := by
  unfold ex_
  refine (am_Y_go 1 (ok := []) (g := (1060, [l0, l1, l2, l3], [v_i (0 : Int32)], h)) rfl).trans ?_
  all_goals exact ((am_Y_ret rfl rfl rfl).trans (am_rz (show am_fit 1 0 from Or.inl rfl)))

set_option maxRecDepth 100000 in
theorem b_L_law_1092 {d : Nat} {Q : Option am_V → am_H → Prop} (h : am_H) (l0 l1 l2 l3 : Option am_V) : ex_ d 0 1092 [l0, l1, l2, l3] [] h Q ↔ Q (some (v_i (0 : Int32))) h := by
  unfold ex_
  refine (am_Y_go 1 (ok := []) (g := (1093, [l0, l1, l2, l3], [v_i (0 : Int32)], h)) rfl).trans ?_
  all_goals exact ((am_Y_ret rfl rfl rfl).trans (am_rz (show am_fit 1 0 from Or.inl rfl)))

set_option maxRecDepth 100000 in
theorem b_L_law_1135 {d : Nat} {Q : Option am_V → am_H → Prop} (h : am_H) (l0 l1 l2 l3 : Option am_V) : ex_ d 0 1135 [l0, l1, l2, l3] [] h Q ↔ Q (some (v_i (0 : Int32))) h := by
  unfold ex_
  refine (am_Y_go 1 (ok := []) (g := (1136, [l0, l1, l2, l3], [v_i (0 : Int32)], h)) rfl).trans ?_
  all_goals exact ((am_Y_ret rfl rfl rfl).trans (am_rz (show am_fit 1 0 from Or.inl rfl)))

set_option maxRecDepth 100000 in
theorem b_L_law_1168 {d : Nat} {Q : Option am_V → am_H → Prop} (h : am_H) (l0 l1 l2 l3 : Option am_V) : ex_ d 0 1168 [l0, l1, l2, l3] [] h Q ↔ Q (some (v_i (0 : Int32))) h := by
  unfold ex_
  refine (am_Y_go 1 (ok := []) (g := (1169, [l0, l1, l2, l3], [v_i (0 : Int32)], h)) rfl).trans ?_
  all_goals exact ((am_Y_ret rfl rfl rfl).trans (am_rz (show am_fit 1 0 from Or.inl rfl)))

set_option maxRecDepth 100000 in
theorem b_L_law_1181 {d : Nat} {Q : Option am_V → am_H → Prop} (h : am_H) (l0 l1 l2 l3 : Option am_V) : ex_ d 0 1181 [l0, l1, l2, l3] [] h Q ↔ Q (some (v_i (0 : Int32))) h := by
  unfold ex_
  refine (am_Y_go 1 (ok := []) (g := (1182, [l0, l1, l2, l3], [v_i (0 : Int32)], h)) rfl).trans ?_
  all_goals exact ((am_Y_ret rfl rfl rfl).trans (am_rz (show am_fit 1 0 from Or.inl rfl)))

set_option maxRecDepth 100000 in
theorem b_L_law_1194 {d : Nat} {Q : Option am_V → am_H → Prop} (h : am_H) (l0 l1 l2 l3 : Option am_V) : ex_ d 0 1194 [l0, l1, l2, l3] [] h Q ↔ Q (some (v_i (0 : Int32))) h := by
  unfold ex_
  refine (am_Y_go 1 (ok := []) (g := (1195, [l0, l1, l2, l3], [v_i (0 : Int32)], h)) rfl).trans ?_
  all_goals exact ((am_Y_ret rfl rfl rfl).trans (am_rz (show am_fit 1 0 from Or.inl rfl)))

set_option maxRecDepth 100000 in
theorem b_L_law_1227 {d : Nat} {Q : Option am_V → am_H → Prop} (h : am_H) (l0 l1 l2 l3 : Option am_V) : ex_ d 0 1227 [l0, l1, l2, l3] [] h Q ↔ Q (some (v_i (0 : Int32))) h := by
  unfold ex_
  refine (am_Y_go 1 (ok := []) (g := (1228, [l0, l1, l2, l3], [v_i (0 : Int32)], h)) rfl).trans ?_
  all_goals exact ((am_Y_ret rfl rfl rfl).trans (am_rz (show am_fit 1 0 from Or.inl rfl)))

set_option maxRecDepth 100000 in
theorem b_L_law_1250 {d : Nat} {Q : Option am_V → am_H → Prop} (h : am_H) (l0 l1 l2 l3 : Option am_V) : ex_ d 0 1250 [l0, l1, l2, l3] [] h Q ↔ Q (some (v_i (0 : Int32))) h := by
  unfold ex_
  refine (am_Y_go 1 (ok := []) (g := (1251, [l0, l1, l2, l3], [v_i (0 : Int32)], h)) rfl).trans ?_
  all_goals exact ((am_Y_ret rfl rfl rfl).trans (am_rz (show am_fit 1 0 from Or.inl rfl)))

set_option maxRecDepth 100000 in
theorem b_L_law_1283 {d : Nat} {Q : Option am_V → am_H → Prop} (h : am_H) (l0 l1 l2 l3 : Option am_V) : ex_ d 0 1283 [l0, l1, l2, l3] [] h Q ↔ Q (some (v_i (0 : Int32))) h := by
  unfold ex_
  refine (am_Y_go 1 (ok := []) (g := (1284, [l0, l1, l2, l3], [v_i (0 : Int32)], h)) rfl).trans ?_
  all_goals exact ((am_Y_ret rfl rfl rfl).trans (am_rz (show am_fit 1 0 from Or.inl rfl)))

set_option maxRecDepth 100000 in
theorem b_L_law_1306 {d : Nat} {Q : Option am_V → am_H → Prop} (h : am_H) (l0 l1 l2 l3 : Option am_V) : ex_ d 0 1306 [l0, l1, l2, l3] [] h Q ↔ Q (some (v_i (0 : Int32))) h := by
  unfold ex_
  refine (am_Y_go 1 (ok := []) (g := (1307, [l0, l1, l2, l3], [v_i (0 : Int32)], h)) rfl).trans ?_
  all_goals exact ((am_Y_ret rfl rfl rfl).trans (am_rz (show am_fit 1 0 from Or.inl rfl)))

set_option maxRecDepth 100000 in
theorem b_L_law_1319 {d : Nat} {Q : Option am_V → am_H → Prop} (h : am_H) (l0 l1 l2 l3 : Option am_V) : ex_ d 0 1319 [l0, l1, l2, l3] [] h Q ↔ Q (some (v_i (0 : Int32))) h := by
  unfold ex_
  refine (am_Y_go 1 (ok := []) (g := (1320, [l0, l1, l2, l3], [v_i (0 : Int32)], h)) rfl).trans ?_
  all_goals exact ((am_Y_ret rfl rfl rfl).trans (am_rz (show am_fit 1 0 from Or.inl rfl)))

set_option maxRecDepth 100000 in
theorem b_L_law_1342 {d : Nat} {Q : Option am_V → am_H → Prop} (h : am_H) (l0 l1 l2 l3 : Option am_V) : ex_ d 0 1342 [l0, l1, l2, l3] [] h Q ↔ Q (some (v_i (0 : Int32))) h := by
  unfold ex_
  refine (am_Y_go 1 (ok := []) (g := (1343, [l0, l1, l2, l3], [v_i (0 : Int32)], h)) rfl).trans ?_
  all_goals exact ((am_Y_ret rfl rfl rfl).trans (am_rz (show am_fit 1 0 from Or.inl rfl)))

set_option maxRecDepth 100000 in
theorem b_L_law_1365 {d : Nat} {Q : Option am_V → am_H → Prop} (h : am_H) (l0 l1 l2 l3 : Option am_V) : ex_ d 0 1365 [l0, l1, l2, l3] [] h Q ↔ Q (some (v_i (0 : Int32))) h := by
  unfold ex_
  refine (am_Y_go 1 (ok := []) (g := (1366, [l0, l1, l2, l3], [v_i (0 : Int32)], h)) rfl).trans ?_
  all_goals exact ((am_Y_ret rfl rfl rfl).trans (am_rz (show am_fit 1 0 from Or.inl rfl)))

set_option maxRecDepth 100000 in
theorem b_L_law_1388 {d : Nat} {Q : Option am_V → am_H → Prop} (h : am_H) (l0 l1 l2 l3 : Option am_V) : ex_ d 0 1388 [l0, l1, l2, l3] [] h Q ↔ Q (some (v_i (0 : Int32))) h := by
  unfold ex_
  refine (am_Y_go 1 (ok := []) (g := (1389, [l0, l1, l2, l3], [v_i (0 : Int32)], h)) rfl).trans ?_
  all_goals exact ((am_Y_ret rfl rfl rfl).trans (am_rz (show am_fit 1 0 from Or.inl rfl)))

set_option maxRecDepth 100000 in
theorem b_L_law_1421 {d : Nat} {Q : Option am_V → am_H → Prop} (h : am_H) (l0 l1 l2 l3 : Option am_V) : ex_ d 0 1421 [l0, l1, l2, l3] [] h Q ↔ Q (some (v_i (0 : Int32))) h := by
  unfold ex_
  refine (am_Y_go 1 (ok := []) (g := (1422, [l0, l1, l2, l3], [v_i (0 : Int32)], h)) rfl).trans ?_
  all_goals exact ((am_Y_ret rfl rfl rfl).trans (am_rz (show am_fit 1 0 from Or.inl rfl)))

set_option maxRecDepth 100000 in
theorem b_L_law_1454 {d : Nat} {Q : Option am_V → am_H → Prop} (h : am_H) (l0 l1 l2 l3 : Option am_V) : ex_ d 0 1454 [l0, l1, l2, l3] [] h Q ↔ Q (some (v_i (0 : Int32))) h := by
  unfold ex_
  refine (am_Y_go 1 (ok := []) (g := (1455, [l0, l1, l2, l3], [v_i (0 : Int32)], h)) rfl).trans ?_
  all_goals exact ((am_Y_ret rfl rfl rfl).trans (am_rz (show am_fit 1 0 from Or.inl rfl)))

set_option maxRecDepth 100000 in
theorem b_L_law_1497 {d : Nat} {Q : Option am_V → am_H → Prop} (h : am_H) (l0 l1 l2 l3 : Option am_V) : ex_ d 0 1497 [l0, l1, l2, l3] [] h Q ↔ Q (some (v_i (0 : Int32))) h := by
  unfold ex_
  refine (am_Y_go 1 (ok := []) (g := (1498, [l0, l1, l2, l3], [v_i (0 : Int32)], h)) rfl).trans ?_
  all_goals exact ((am_Y_ret rfl rfl rfl).trans (am_rz (show am_fit 1 0 from Or.inl rfl)))

set_option maxRecDepth 100000 in
theorem b_L_law_1571 {d : Nat} {Q : Option am_V → am_H → Prop} (h : am_H) (l0 l1 l2 l3 : Option am_V) : ex_ d 0 1571 [l0, l1, l2, l3] [] h Q ↔ Q (some (v_i (0 : Int32))) h := by
  unfold ex_
  refine (am_Y_go 1 (ok := []) (g := (1572, [l0, l1, l2, l3], [v_i (0 : Int32)], h)) rfl).trans ?_
  all_goals exact ((am_Y_ret rfl rfl rfl).trans (am_rz (show am_fit 1 0 from Or.inl rfl)))

set_option maxRecDepth 100000 in
theorem b_L_law_1604 {d : Nat} {Q : Option am_V → am_H → Prop} (h : am_H) (l0 l1 l2 l3 : Option am_V) : ex_ d 0 1604 [l0, l1, l2, l3] [] h Q ↔ Q (some (v_i (0 : Int32))) h := by
  unfold ex_
  refine (am_Y_go 1 (ok := []) (g := (1605, [l0, l1, l2, l3], [v_i (0 : Int32)], h)) rfl).trans ?_
  all_goals exact ((am_Y_ret rfl rfl rfl).trans (am_rz (show am_fit 1 0 from Or.inl rfl)))

set_option maxRecDepth 100000 in
theorem b_L_law_1627 {d : Nat} {Q : Option am_V → am_H → Prop} (h : am_H) (l0 l1 l2 l3 : Option am_V) : ex_ d 0 1627 [l0, l1, l2, l3] [] h Q ↔ Q (some (v_i (0 : Int32))) h := by
  unfold ex_
  refine (am_Y_go 1 (ok := []) (g := (1628, [l0, l1, l2, l3], [v_i (0 : Int32)], h)) rfl).trans ?_
  all_goals exact ((am_Y_ret rfl rfl rfl).trans (am_rz (show am_fit 1 0 from Or.inl rfl)))

set_option maxRecDepth 100000 in
theorem b_L_law_1650 {d : Nat} {Q : Option am_V → am_H → Prop} (h : am_H) (l0 l1 l2 l3 : Option am_V) : ex_ d 0 1650 [l0, l1, l2, l3] [] h Q ↔ Q (some (v_i (0 : Int32))) h := by
  unfold ex_
  refine (am_Y_go 1 (ok := []) (g := (1651, [l0, l1, l2, l3], [v_i (0 : Int32)], h)) rfl).trans ?_
  all_goals exact ((am_Y_ret rfl rfl rfl).trans (am_rz (show am_fit 1 0 from Or.inl rfl)))

set_option maxRecDepth 100000 in
theorem b_L_law_1673 {d : Nat} {Q : Option am_V → am_H → Prop} (h : am_H) (l0 l1 l2 l3 : Option am_V) : ex_ d 0 1673 [l0, l1, l2, l3] [] h Q ↔ Q (some (v_i (0 : Int32))) h := by
  unfold ex_
  refine (am_Y_go 1 (ok := []) (g := (1674, [l0, l1, l2, l3], [v_i (0 : Int32)], h)) rfl).trans ?_
  all_goals exact ((am_Y_ret rfl rfl rfl).trans (am_rz (show am_fit 1 0 from Or.inl rfl)))
