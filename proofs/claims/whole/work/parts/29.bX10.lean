theorem b_X10_push_0 {d : Nat} {Q : Option am_V → am_H → Prop} (h : am_H) (l1 : Option am_V) (Lh : Lay h) : ex_ d 149 0 [some (v_r (some 51)), l1] [] h Q ↔ if (h_i h 51 7) < 0 then ex_ d 149 39 [some (v_r (some 51)), l1] [] h Q else ex_ d 149 7 [some (v_r (some 51)), l1] [] h Q := by
  unfold ex_
  refine (am_Y_go 3 (ok := [am_is h (some 51) 10]) (g := (if (h_i h 51 7) < 0 then 39 else 7, [some (v_r (some 51)), l1], [], h)) rfl).trans ?_
  simp only [am_all]
  all_goals exact cj_d (la_is Lh (o := 51) rfl) (am_Y_if)

theorem b_X10_push_39 {d : Nat} {Q : Option am_V → am_H → Prop} (h : am_H) (l0 l1 : Option am_V) : ex_ d 149 39 [l0, l1] [] h Q ↔ Q (none) h := by
  unfold ex_
  exact ((am_Y_ret rfl rfl rfl).trans (am_rz rfl))

theorem b_X10_push_7 {d : Nat} {Q : Option am_V → am_H → Prop} (h : am_H) (l1 : Option am_V) (Lh : Lay h) : ex_ d 149 7 [some (v_r (some 51)), l1] [] h Q ↔ if (nI 100) ≤ (h_i h 51 7) then ex_ d 149 39 [some (v_r (some 51)), l1] [] h Q else ex_ d 149 19 [some (v_r (some 51)), l1] [] h Q := by
  have e0 : h_r h 51 6 = some 55 := la_r Lh (q := (51, 6, 55)) (by decide)
  have e1 : h_l h 55 = 100 := (la_l Lh (o := 55) rfl)
  unfold ex_
  refine (am_Y_go 6 (ok := [am_is h (some 51) 10, am_is h (some 51) 10, am_an h ((h_r h 51 6))]) (g := (if (nI (h_l h ((h_r h 51 6).getD 0))) ≤ (h_i h 51 7) then 39 else 19, [some (v_r (some 51)), l1], [], h)) rfl).trans ?_
  simp only [e0, e1, Option.getD_some, am_all]
  all_goals exact cj_d (la_is Lh (o := 51) rfl) (cj_d (la_is Lh (o := 51) rfl) (cj_d (la_an20 Lh (o := 55) rfl) (am_Y_if)))

theorem b_X10_push_19 {d : Nat} {Q : Option am_V → am_H → Prop} (h : am_H) (x1 : Int32) (Lh : Lay h) : ex_ d 149 19 [some (v_r (some 51)), some (v_i x1)] [] h Q ↔ vp_in (h_i h 51 7) 100 ∧ Q (none) (p_i (p_i h 55 (Int32.toNatClampNeg (h_i h 51 7)) x1) 51 7 ((h_i (p_i h 55 (Int32.toNatClampNeg (h_i h 51 7)) x1) 51 7) + (1 : Int32))) := by
  have e0 : h_r h 51 6 = some 55 := la_r Lh (q := (51, 6, 55)) (by decide)
  unfold ex_
  refine (am_Y_go 12 (ok := [am_is h (some 51) 10, am_is h (some 51) 10, am_ar h ((h_r h 51 6)) 20 (h_i h 51 7), am_is h (some 51) 10, am_is h (some 51) 10]) (g := (39, [some (v_r (some 51)), some (v_i x1)], [], (p_i (p_i h ((h_r h 51 6).getD 0) (Int32.toNatClampNeg (h_i h 51 7)) x1) 51 7 ((h_i (p_i h ((h_r h 51 6).getD 0) (Int32.toNatClampNeg (h_i h 51 7)) x1) 51 7) + (1 : Int32))))) rfl).trans ?_
  simp only [e0, Option.getD_some, am_all]
  all_goals exact cj_d (la_is Lh (o := 51) rfl) (cj_d (la_is Lh (o := 51) rfl) (cj_k (la_ar Lh (o := 55) rfl) (cj_d (la_is Lh (o := 51) rfl) (cj_d (la_is Lh (o := 51) rfl) (((am_Y_ret rfl rfl rfl).trans (am_rz rfl)))))))

theorem b_X10_pop_0 {d : Nat} {Q : Option am_V → am_H → Prop} (h : am_H) (Lh : Lay h) : ex_ d 150 0 [some (v_r (some 51))] [] h Q ↔ if (h_i h 51 7) ≤ 0 then ex_ d 150 19 [some (v_r (some 51))] [] h Q else ex_ d 150 7 [some (v_r (some 51))] [] h Q := by
  unfold ex_
  refine (am_Y_go 3 (ok := [am_is h (some 51) 10]) (g := (if (h_i h 51 7) ≤ 0 then 19 else 7, [some (v_r (some 51))], [], h)) rfl).trans ?_
  simp only [am_all]
  all_goals exact cj_d (la_is Lh (o := 51) rfl) (am_Y_if)

theorem b_X10_pop_19 {d : Nat} {Q : Option am_V → am_H → Prop} (h : am_H) (l0 : Option am_V) : ex_ d 150 19 [l0] [] h Q ↔ Q (some (v_i (0 : Int32))) h := by
  unfold ex_
  refine (am_Y_go 1 (ok := []) (g := (20, [l0], [v_i (0 : Int32)], h)) rfl).trans ?_
  all_goals exact ((am_Y_ret rfl rfl rfl).trans (am_r0))

theorem b_X10_pop_7 {d : Nat} {Q : Option am_V → am_H → Prop} (h : am_H) (Lh : Lay h) : ex_ d 150 7 [some (v_r (some 51))] [] h Q ↔ if (h_i h 51 7) ≤ (nI 100) then ex_ d 150 21 [some (v_r (some 51))] [] h Q else ex_ d 150 19 [some (v_r (some 51))] [] h Q := by
  have e0 : h_r h 51 6 = some 55 := la_r Lh (q := (51, 6, 55)) (by decide)
  have e1 : h_l h 55 = 100 := (la_l Lh (o := 55) rfl)
  unfold ex_
  refine (am_Y_go 6 (ok := [am_is h (some 51) 10, am_is h (some 51) 10, am_an h ((h_r h 51 6))]) (g := (if (h_i h 51 7) ≤ (nI (h_l h ((h_r h 51 6).getD 0))) then 21 else 19, [some (v_r (some 51))], [], h)) rfl).trans ?_
  simp only [e0, e1, Option.getD_some, am_all]
  all_goals exact cj_d (la_is Lh (o := 51) rfl) (cj_d (la_is Lh (o := 51) rfl) (cj_d (la_an20 Lh (o := 55) rfl) (am_Y_if)))

theorem b_X10_pop_21 {d : Nat} {Q : Option am_V → am_H → Prop} (h : am_H) (Lh : Lay h) : ex_ d 150 21 [some (v_r (some 51))] [] h Q ↔ vp_in (h_i (p_i h 51 7 ((h_i h 51 7) - (1 : Int32))) 51 7) 100 ∧ Q (some (v_i (h_i (p_i h 51 7 ((h_i h 51 7) - (1 : Int32))) 55 (Int32.toNatClampNeg (h_i (p_i h 51 7 ((h_i h 51 7) - (1 : Int32))) 51 7))))) (p_i h 51 7 ((h_i h 51 7) - (1 : Int32))) := by
  have e0 : h_r h 51 6 = some 55 := la_r Lh (q := (51, 6, 55)) (by decide)
  unfold ex_
  refine (am_Y_go 11 (ok := [am_is h (some 51) 10, am_is h (some 51) 10, am_is h (some 51) 10, am_is h (some 51) 10, am_ar h ((h_r h 51 6)) 20 (h_i (p_i h 51 7 ((h_i h 51 7) - (1 : Int32))) 51 7)]) (g := (40, [some (v_r (some 51))], [v_i (h_i (p_i h 51 7 ((h_i h 51 7) - (1 : Int32))) ((h_r h 51 6).getD 0) (Int32.toNatClampNeg (h_i (p_i h 51 7 ((h_i h 51 7) - (1 : Int32))) 51 7)))], (p_i h 51 7 ((h_i h 51 7) - (1 : Int32))))) rfl).trans ?_
  simp only [e0, Option.getD_some, am_all]
  all_goals exact cj_d (la_is Lh (o := 51) rfl) (cj_d (la_is Lh (o := 51) rfl) (cj_d (la_is Lh (o := 51) rfl) (cj_d (la_is Lh (o := 51) rfl) (cj_k (la_ar Lh (o := 55) rfl) (((am_Y_ret rfl rfl rfl).trans (am_r0)))))))

theorem b_X10_joined_0 {d : Nat} {Q : Option am_V → am_H → Prop} (h : am_H) (x0 : Int32) (l1 l2 l3 l4 : Option am_V) : ex_ d 151 0 [some (v_i x0), l1, l2, l3, l4] [] h Q ↔ if x0 = (42 : Int32) then ex_ d 151 76 [some (v_i x0), l1, l2, l3, l4] [] h Q else if x0 = (43 : Int32) then ex_ d 151 68 [some (v_i x0), l1, l2, l3, l4] [] h Q else if x0 = (45 : Int32) then ex_ d 151 72 [some (v_i x0), l1, l2, l3, l4] [] h Q else if x0 = (60 : Int32) then ex_ d 151 92 [some (v_i x0), l1, l2, l3, l4] [] h Q else if x0 = (61 : Int32) then ex_ d 151 80 [some (v_i x0), l1, l2, l3, l4] [] h Q else if x0 = (62 : Int32) then ex_ d 151 104 [some (v_i x0), l1, l2, l3, l4] [] h Q else if x0 = (216 : Int32) then ex_ d 151 116 [some (v_i x0), l1, l2, l3, l4] [] h Q else ex_ d 151 120 [some (v_i x0), l1, l2, l3, l4] [] h Q := by
  unfold ex_
  refine (am_Y_go 2 (ok := []) (g := (am_sw x0 120 [((42 : Int32), 76), ((43 : Int32), 68), ((45 : Int32), 72), ((60 : Int32), 92), ((61 : Int32), 80), ((62 : Int32), 104), ((216 : Int32), 116)], [some (v_i x0), l1, l2, l3, l4], [], h)) rfl).trans ?_
  all_goals exact (by simp only [am_sw, am_Y_if, am_all])

theorem b_X10_joined_120 {d : Nat} {Q : Option am_V → am_H → Prop} (h : am_H) (x1 : Int64) (x3 : Int64) (l0 l2 l4 : Option am_V) : ex_ d 151 120 [l0, some (v_l x1), l2, some (v_l x3), l4] [] h Q ↔ Q (some (v_l (x1 ||| x3))) h := by
  unfold ex_
  refine (am_Y_go 3 (ok := []) (g := (123, [l0, some (v_l x1), l2, some (v_l x3), l4], [v_l (x1 ||| x3)], h)) rfl).trans ?_
  all_goals exact ((am_Y_ret rfl rfl rfl).trans (am_rz rfl))

theorem b_X10_joined_76 {d : Nat} {Q : Option am_V → am_H → Prop} (h : am_H) (x1 : Int64) (x3 : Int64) (l0 l2 l4 : Option am_V) : ex_ d 151 76 [l0, some (v_l x1), l2, some (v_l x3), l4] [] h Q ↔ Q (some (v_l (x1 * x3))) h := by
  unfold ex_
  refine (am_Y_go 3 (ok := []) (g := (79, [l0, some (v_l x1), l2, some (v_l x3), l4], [v_l (x1 * x3)], h)) rfl).trans ?_
  all_goals exact ((am_Y_ret rfl rfl rfl).trans (am_rz rfl))

theorem b_X10_joined_68 {d : Nat} {Q : Option am_V → am_H → Prop} (h : am_H) (x1 : Int64) (x3 : Int64) (l0 l2 l4 : Option am_V) : ex_ d 151 68 [l0, some (v_l x1), l2, some (v_l x3), l4] [] h Q ↔ Q (some (v_l (x1 + x3))) h := by
  unfold ex_
  refine (am_Y_go 3 (ok := []) (g := (71, [l0, some (v_l x1), l2, some (v_l x3), l4], [v_l (x1 + x3)], h)) rfl).trans ?_
  all_goals exact ((am_Y_ret rfl rfl rfl).trans (am_rz rfl))

theorem b_X10_joined_72 {d : Nat} {Q : Option am_V → am_H → Prop} (h : am_H) (x1 : Int64) (x3 : Int64) (l0 l2 l4 : Option am_V) : ex_ d 151 72 [l0, some (v_l x1), l2, some (v_l x3), l4] [] h Q ↔ Q (some (v_l (x1 - x3))) h := by
  unfold ex_
  refine (am_Y_go 3 (ok := []) (g := (75, [l0, some (v_l x1), l2, some (v_l x3), l4], [v_l (x1 - x3)], h)) rfl).trans ?_
  all_goals exact ((am_Y_ret rfl rfl rfl).trans (am_rz rfl))

theorem b_X10_joined_92 {d : Nat} {Q : Option am_V → am_H → Prop} (h : am_H) (x1 : Int64) (x3 : Int64) (l0 l2 l4 : Option am_V) : ex_ d 151 92 [l0, some (v_l x1), l2, some (v_l x3), l4] [] h Q ↔ if 0 ≤ (lg_cmp x1 x3) then ex_ d 151 102 [l0, some (v_l x1), l2, some (v_l x3), l4] [] h Q else ex_ d 151 98 [l0, some (v_l x1), l2, some (v_l x3), l4] [] h Q := by
  unfold ex_
  refine (am_Y_go 4 (ok := []) (g := (if 0 ≤ (lg_cmp x1 x3) then 102 else 98, [l0, some (v_l x1), l2, some (v_l x3), l4], [], h)) rfl).trans ?_
  all_goals exact am_Y_if

theorem b_X10_joined_80 {d : Nat} {Q : Option am_V → am_H → Prop} (h : am_H) (x1 : Int64) (x3 : Int64) (l0 l2 l4 : Option am_V) : ex_ d 151 80 [l0, some (v_l x1), l2, some (v_l x3), l4] [] h Q ↔ if ¬ (lg_cmp x1 x3) = 0 then ex_ d 151 90 [l0, some (v_l x1), l2, some (v_l x3), l4] [] h Q else ex_ d 151 86 [l0, some (v_l x1), l2, some (v_l x3), l4] [] h Q := by
  unfold ex_
  refine (am_Y_go 4 (ok := []) (g := (if ¬ (lg_cmp x1 x3) = 0 then 90 else 86, [l0, some (v_l x1), l2, some (v_l x3), l4], [], h)) rfl).trans ?_
  all_goals exact am_Y_if

theorem b_X10_joined_104 {d : Nat} {Q : Option am_V → am_H → Prop} (h : am_H) (x1 : Int64) (x3 : Int64) (l0 l2 l4 : Option am_V) : ex_ d 151 104 [l0, some (v_l x1), l2, some (v_l x3), l4] [] h Q ↔ if (lg_cmp x1 x3) ≤ 0 then ex_ d 151 114 [l0, some (v_l x1), l2, some (v_l x3), l4] [] h Q else ex_ d 151 110 [l0, some (v_l x1), l2, some (v_l x3), l4] [] h Q := by
  unfold ex_
  refine (am_Y_go 4 (ok := []) (g := (if (lg_cmp x1 x3) ≤ 0 then 114 else 110, [l0, some (v_l x1), l2, some (v_l x3), l4], [], h)) rfl).trans ?_
  all_goals exact am_Y_if

theorem b_X10_joined_116 {d : Nat} {Q : Option am_V → am_H → Prop} (h : am_H) (x1 : Int64) (x3 : Int64) (l0 l2 l4 : Option am_V) : ex_ d 151 116 [l0, some (v_l x1), l2, some (v_l x3), l4] [] h Q ↔ Q (some (v_l (x1 &&& x3))) h := by
  unfold ex_
  refine (am_Y_go 3 (ok := []) (g := (119, [l0, some (v_l x1), l2, some (v_l x3), l4], [v_l (x1 &&& x3)], h)) rfl).trans ?_
  all_goals exact ((am_Y_ret rfl rfl rfl).trans (am_rz rfl))

theorem b_X10_joined_102 {d : Nat} {Q : Option am_V → am_H → Prop} (h : am_H) (l0 l1 l2 l3 l4 : Option am_V) : ex_ d 151 102 [l0, l1, l2, l3, l4] [] h Q ↔ Q (some (v_l (0 : Int64))) h := by
  unfold ex_
  refine (am_Y_go 1 (ok := []) (g := (103, [l0, l1, l2, l3, l4], [v_l (0 : Int64)], h)) rfl).trans ?_
  all_goals exact ((am_Y_ret rfl rfl rfl).trans (am_rz rfl))

theorem b_X10_joined_98 {d : Nat} {Q : Option am_V → am_H → Prop} (h : am_H) (l0 l1 l2 l3 l4 : Option am_V) : ex_ d 151 98 [l0, l1, l2, l3, l4] [] h Q ↔ Q (some (v_l (1 : Int64))) h := by
  unfold ex_
  refine (am_Y_go 2 (ok := []) (g := (103, [l0, l1, l2, l3, l4], [v_l (1 : Int64)], h)) rfl).trans ?_
  all_goals exact ((am_Y_ret rfl rfl rfl).trans (am_rz rfl))

theorem b_X10_joined_90 {d : Nat} {Q : Option am_V → am_H → Prop} (h : am_H) (l0 l1 l2 l3 l4 : Option am_V) : ex_ d 151 90 [l0, l1, l2, l3, l4] [] h Q ↔ Q (some (v_l (0 : Int64))) h := by
  unfold ex_
  refine (am_Y_go 1 (ok := []) (g := (91, [l0, l1, l2, l3, l4], [v_l (0 : Int64)], h)) rfl).trans ?_
  all_goals exact ((am_Y_ret rfl rfl rfl).trans (am_rz rfl))

theorem b_X10_joined_86 {d : Nat} {Q : Option am_V → am_H → Prop} (h : am_H) (l0 l1 l2 l3 l4 : Option am_V) : ex_ d 151 86 [l0, l1, l2, l3, l4] [] h Q ↔ Q (some (v_l (1 : Int64))) h := by
  unfold ex_
  refine (am_Y_go 2 (ok := []) (g := (91, [l0, l1, l2, l3, l4], [v_l (1 : Int64)], h)) rfl).trans ?_
  all_goals exact ((am_Y_ret rfl rfl rfl).trans (am_rz rfl))

theorem b_X10_joined_114 {d : Nat} {Q : Option am_V → am_H → Prop} (h : am_H) (l0 l1 l2 l3 l4 : Option am_V) : ex_ d 151 114 [l0, l1, l2, l3, l4] [] h Q ↔ Q (some (v_l (0 : Int64))) h := by
  unfold ex_
  refine (am_Y_go 1 (ok := []) (g := (115, [l0, l1, l2, l3, l4], [v_l (0 : Int64)], h)) rfl).trans ?_
  all_goals exact ((am_Y_ret rfl rfl rfl).trans (am_rz rfl))

theorem b_X10_joined_110 {d : Nat} {Q : Option am_V → am_H → Prop} (h : am_H) (l0 l1 l2 l3 l4 : Option am_V) : ex_ d 151 110 [l0, l1, l2, l3, l4] [] h Q ↔ Q (some (v_l (1 : Int64))) h := by
  unfold ex_
  refine (am_Y_go 2 (ok := []) (g := (115, [l0, l1, l2, l3, l4], [v_l (1 : Int64)], h)) rfl).trans ?_
  all_goals exact ((am_Y_ret rfl rfl rfl).trans (am_rz rfl))

theorem b_X10_keep_0 {d : Nat} {Q : Option am_V → am_H → Prop} (h : am_H) (x0 : Int64) (l1 : Option am_V) : ex_ d 152 0 [some (v_l x0), l1] [] h Q ↔ if (lg_cmp x0 (1000000 : Int64)) ≤ 0 then ex_ d 152 11 [some (v_l x0), l1] [] h Q else ex_ d 152 8 [some (v_l x0), l1] [] h Q := by
  unfold ex_
  refine (am_Y_go 4 (ok := []) (g := (if (lg_cmp x0 (1000000 : Int64)) ≤ 0 then 11 else 8, [some (v_l x0), l1], [], h)) rfl).trans ?_
  all_goals exact am_Y_if

theorem b_X10_keep_11 {d : Nat} {Q : Option am_V → am_H → Prop} (h : am_H) (x0 : Int64) (l1 : Option am_V) : ex_ d 152 11 [some (v_l x0), l1] [] h Q ↔ if 0 ≤ (lg_cmp x0 (-1000000 : Int64)) then ex_ d 152 24 [some (v_l x0), l1] [] h Q else ex_ d 152 19 [some (v_l x0), l1] [] h Q := by
  unfold ex_
  refine (am_Y_go 4 (ok := []) (g := (if 0 ≤ (lg_cmp x0 (-1000000 : Int64)) then 24 else 19, [some (v_l x0), l1], [], h)) rfl).trans ?_
  all_goals exact am_Y_if

theorem b_X10_keep_8 {d : Nat} {Q : Option am_V → am_H → Prop} (h : am_H) (l0 l1 : Option am_V) : ex_ d 152 8 [l0, l1] [] h Q ↔ Q (some (v_i (1000000 : Int32))) h := by
  unfold ex_
  refine (am_Y_go 1 (ok := []) (g := (10, [l0, l1], [v_i (1000000 : Int32)], h)) rfl).trans ?_
  all_goals exact ((am_Y_ret rfl rfl rfl).trans (am_r0))

theorem b_X10_keep_24 {d : Nat} {Q : Option am_V → am_H → Prop} (h : am_H) (x0 : Int64) (l1 : Option am_V) : ex_ d 152 24 [some (v_l x0), l1] [] h Q ↔ Q (some (v_i (Int64.toInt32 x0))) h := by
  unfold ex_
  refine (am_Y_go 2 (ok := []) (g := (26, [some (v_l x0), l1], [v_i (Int64.toInt32 x0)], h)) rfl).trans ?_
  all_goals exact ((am_Y_ret rfl rfl rfl).trans (am_r0))

theorem b_X10_keep_19 {d : Nat} {Q : Option am_V → am_H → Prop} (h : am_H) (l0 l1 : Option am_V) : ex_ d 152 19 [l0, l1] [] h Q ↔ Q (some (v_i (-1000000 : Int32))) h := by
  unfold ex_
  refine (am_Y_go 2 (ok := []) (g := (26, [l0, l1], [v_i (-1000000 : Int32)], h)) rfl).trans ?_
  all_goals exact ((am_Y_ret rfl rfl rfl).trans (am_r0))

theorem b_X10_work_0 {d : Nat} {Q : Option am_V → am_H → Prop} (h : am_H) (x1 : Int32) (l0 l2 l3 l4 l5 : Option am_V) : ex_ d 153 0 [l0, some (v_i x1), l2, l3, l4, l5] [] h Q ↔ if x1 = (201 : Int32) then ex_ d 153 117 [l0, some (v_i x1), l2, l3, l4, l5] [] h Q else if x1 = (202 : Int32) then ex_ d 153 192 [l0, some (v_i x1), l2, l3, l4, l5] [] h Q else if x1 = (203 : Int32) then ex_ d 153 84 [l0, some (v_i x1), l2, l3, l4, l5] [] h Q else if x1 = (204 : Int32) then ex_ d 153 95 [l0, some (v_i x1), l2, l3, l4, l5] [] h Q else if x1 = (205 : Int32) then ex_ d 153 192 [l0, some (v_i x1), l2, l3, l4, l5] [] h Q else if x1 = (206 : Int32) then ex_ d 153 128 [l0, some (v_i x1), l2, l3, l4, l5] [] h Q else if x1 = (207 : Int32) then ex_ d 153 192 [l0, some (v_i x1), l2, l3, l4, l5] [] h Q else if x1 = (208 : Int32) then ex_ d 153 192 [l0, some (v_i x1), l2, l3, l4, l5] [] h Q else if x1 = (209 : Int32) then ex_ d 153 163 [l0, some (v_i x1), l2, l3, l4, l5] [] h Q else if x1 = (210 : Int32) then ex_ d 153 192 [l0, some (v_i x1), l2, l3, l4, l5] [] h Q else if x1 = (211 : Int32) then ex_ d 153 192 [l0, some (v_i x1), l2, l3, l4, l5] [] h Q else if x1 = (212 : Int32) then ex_ d 153 192 [l0, some (v_i x1), l2, l3, l4, l5] [] h Q else if x1 = (213 : Int32) then ex_ d 153 106 [l0, some (v_i x1), l2, l3, l4, l5] [] h Q else if x1 = (214 : Int32) then ex_ d 153 139 [l0, some (v_i x1), l2, l3, l4, l5] [] h Q else if x1 = (215 : Int32) then ex_ d 153 192 [l0, some (v_i x1), l2, l3, l4, l5] [] h Q else if x1 = (216 : Int32) then ex_ d 153 192 [l0, some (v_i x1), l2, l3, l4, l5] [] h Q else if x1 = (217 : Int32) then ex_ d 153 150 [l0, some (v_i x1), l2, l3, l4, l5] [] h Q else ex_ d 153 192 [l0, some (v_i x1), l2, l3, l4, l5] [] h Q := by
  unfold ex_
  refine (am_Y_go 2 (ok := []) (g := (am_sw x1 192 [((201 : Int32), 117), ((202 : Int32), 192), ((203 : Int32), 84), ((204 : Int32), 95), ((205 : Int32), 192), ((206 : Int32), 128), ((207 : Int32), 192), ((208 : Int32), 192), ((209 : Int32), 163), ((210 : Int32), 192), ((211 : Int32), 192), ((212 : Int32), 192), ((213 : Int32), 106), ((214 : Int32), 139), ((215 : Int32), 192), ((216 : Int32), 192), ((217 : Int32), 150)], [l0, some (v_i x1), l2, l3, l4, l5], [], h)) rfl).trans ?_
  all_goals exact (by simp only [am_sw, am_Y_if, am_all])

theorem b_X10_work_192 {d : Nat} {Q : Option am_V → am_H → Prop} (h : am_H) (l1 l2 l3 l4 l5 : Option am_V) (Lh : Lay h) : ex_ (d + 1) 153 192 [some (v_r (some 51)), l1, l2, l3, l4, l5] [] h Q ↔ ex_ d 150 0 [some (v_r (some 51))] [] h (fun r h' => ex_ (d + 1) 153 196 [some (v_r (some 51)), l1, l2, l3, l4, l5] (r.toList ++ []) h' Q) := by
  unfold ex_
  refine (am_Y_go 1 (ok := []) (g := (193, [some (v_r (some 51)), l1, l2, l3, l4, l5], [v_r (some 51)], h)) rfl).trans ?_
  all_goals exact ((am_Y_call (j := 150) (na := 1) (ci := 10) (fl := 0) rfl rfl rfl).trans (cj_d ⟨⟨Nat.le_of_ble_eq_true rfl, Nat.le_of_ble_eq_true rfl, Nat.le_of_ble_eq_true rfl, rfl⟩, Or.inr (Or.inr (show (10 : Nat) < 20 ∧ am_is h (some 51) 10 from ⟨by decide, (la_is Lh (o := 51) rfl)⟩))⟩ Iff.rfl))

theorem b_X10_work_117 {d : Nat} {Q : Option am_V → am_H → Prop} (h : am_H) (l1 l2 l3 l4 l5 : Option am_V) (Lh : Lay h) : ex_ (d + 1) 153 117 [some (v_r (some 51)), l1, l2, l3, l4, l5] [] h Q ↔ ex_ d 149 0 [some (v_r (some 51)), some (v_i (h_i h 51 11))] [] h (fun r h' => ex_ (d + 1) 153 125 [some (v_r (some 51)), l1, l2, l3, l4, l5] (r.toList ++ []) h' Q) := by
  unfold ex_
  refine (am_Y_go 3 (ok := [am_is h (some 51) 10]) (g := (122, [some (v_r (some 51)), l1, l2, l3, l4, l5], [v_i (h_i h 51 11), v_r (some 51)], h)) rfl).trans ?_
  simp only [am_all]
  all_goals exact cj_d (la_is Lh (o := 51) rfl) (((am_Y_call (j := 149) (na := 2) (ci := 10) (fl := 0) rfl rfl rfl).trans (cj_d ⟨⟨Nat.le_of_ble_eq_true rfl, Nat.le_of_ble_eq_true rfl, Nat.le_of_ble_eq_true rfl, rfl⟩, Or.inr (Or.inr (show (10 : Nat) < 20 ∧ am_is h (some 51) 10 from ⟨by decide, (la_is Lh (o := 51) rfl)⟩))⟩ Iff.rfl)))

theorem b_X10_work_84 {d : Nat} {Q : Option am_V → am_H → Prop} (h : am_H) (l1 l2 l3 l4 l5 : Option am_V) (Lh : Lay h) : ex_ (d + 1) 153 84 [some (v_r (some 51)), l1, l2, l3, l4, l5] [] h Q ↔ ex_ d 149 0 [some (v_r (some 51)), some (v_i (h_i h 51 8))] [] h (fun r h' => ex_ (d + 1) 153 92 [some (v_r (some 51)), l1, l2, l3, l4, l5] (r.toList ++ []) h' Q) := by
  unfold ex_
  refine (am_Y_go 3 (ok := [am_is h (some 51) 10]) (g := (89, [some (v_r (some 51)), l1, l2, l3, l4, l5], [v_i (h_i h 51 8), v_r (some 51)], h)) rfl).trans ?_
  simp only [am_all]
  all_goals exact cj_d (la_is Lh (o := 51) rfl) (((am_Y_call (j := 149) (na := 2) (ci := 10) (fl := 0) rfl rfl rfl).trans (cj_d ⟨⟨Nat.le_of_ble_eq_true rfl, Nat.le_of_ble_eq_true rfl, Nat.le_of_ble_eq_true rfl, rfl⟩, Or.inr (Or.inr (show (10 : Nat) < 20 ∧ am_is h (some 51) 10 from ⟨by decide, (la_is Lh (o := 51) rfl)⟩))⟩ Iff.rfl)))

theorem b_X10_work_95 {d : Nat} {Q : Option am_V → am_H → Prop} (h : am_H) (l1 l2 l3 l4 l5 : Option am_V) (Lh : Lay h) : ex_ (d + 1) 153 95 [some (v_r (some 51)), l1, l2, l3, l4, l5] [] h Q ↔ ex_ d 149 0 [some (v_r (some 51)), some (v_i (h_i h 51 9))] [] h (fun r h' => ex_ (d + 1) 153 103 [some (v_r (some 51)), l1, l2, l3, l4, l5] (r.toList ++ []) h' Q) := by
  unfold ex_
  refine (am_Y_go 3 (ok := [am_is h (some 51) 10]) (g := (100, [some (v_r (some 51)), l1, l2, l3, l4, l5], [v_i (h_i h 51 9), v_r (some 51)], h)) rfl).trans ?_
  simp only [am_all]
  all_goals exact cj_d (la_is Lh (o := 51) rfl) (((am_Y_call (j := 149) (na := 2) (ci := 10) (fl := 0) rfl rfl rfl).trans (cj_d ⟨⟨Nat.le_of_ble_eq_true rfl, Nat.le_of_ble_eq_true rfl, Nat.le_of_ble_eq_true rfl, rfl⟩, Or.inr (Or.inr (show (10 : Nat) < 20 ∧ am_is h (some 51) 10 from ⟨by decide, (la_is Lh (o := 51) rfl)⟩))⟩ Iff.rfl)))

theorem b_X10_work_128 {d : Nat} {Q : Option am_V → am_H → Prop} (h : am_H) (l1 l2 l3 l4 l5 : Option am_V) (Lh : Lay h) : ex_ (d + 1) 153 128 [some (v_r (some 51)), l1, l2, l3, l4, l5] [] h Q ↔ ex_ d 149 0 [some (v_r (some 51)), some (v_i (h_i h 51 12))] [] h (fun r h' => ex_ (d + 1) 153 136 [some (v_r (some 51)), l1, l2, l3, l4, l5] (r.toList ++ []) h' Q) := by
  unfold ex_
  refine (am_Y_go 3 (ok := [am_is h (some 51) 10]) (g := (133, [some (v_r (some 51)), l1, l2, l3, l4, l5], [v_i (h_i h 51 12), v_r (some 51)], h)) rfl).trans ?_
  simp only [am_all]
  all_goals exact cj_d (la_is Lh (o := 51) rfl) (((am_Y_call (j := 149) (na := 2) (ci := 10) (fl := 0) rfl rfl rfl).trans (cj_d ⟨⟨Nat.le_of_ble_eq_true rfl, Nat.le_of_ble_eq_true rfl, Nat.le_of_ble_eq_true rfl, rfl⟩, Or.inr (Or.inr (show (10 : Nat) < 20 ∧ am_is h (some 51) 10 from ⟨by decide, (la_is Lh (o := 51) rfl)⟩))⟩ Iff.rfl)))

theorem b_X10_work_163 {d : Nat} {Q : Option am_V → am_H → Prop} (h : am_H) (l1 l2 l3 l4 l5 : Option am_V) (Lh : Lay h) : ex_ (d + 1) 153 163 [some (v_r (some 51)), l1, l2, l3, l4, l5] [] h Q ↔ ex_ d 150 0 [some (v_r (some 51))] [] h (fun r h' => ex_ (d + 1) 153 167 [some (v_r (some 51)), l1, l2, l3, l4, l5] (r.toList ++ []) h' Q) := by
  unfold ex_
  refine (am_Y_go 1 (ok := []) (g := (164, [some (v_r (some 51)), l1, l2, l3, l4, l5], [v_r (some 51)], h)) rfl).trans ?_
  all_goals exact ((am_Y_call (j := 150) (na := 1) (ci := 10) (fl := 0) rfl rfl rfl).trans (cj_d ⟨⟨Nat.le_of_ble_eq_true rfl, Nat.le_of_ble_eq_true rfl, Nat.le_of_ble_eq_true rfl, rfl⟩, Or.inr (Or.inr (show (10 : Nat) < 20 ∧ am_is h (some 51) 10 from ⟨by decide, (la_is Lh (o := 51) rfl)⟩))⟩ Iff.rfl))

theorem b_X10_work_106 {d : Nat} {Q : Option am_V → am_H → Prop} (h : am_H) (l1 l2 l3 l4 l5 : Option am_V) (Lh : Lay h) : ex_ (d + 1) 153 106 [some (v_r (some 51)), l1, l2, l3, l4, l5] [] h Q ↔ ex_ d 149 0 [some (v_r (some 51)), some (v_i (h_i h 51 10))] [] h (fun r h' => ex_ (d + 1) 153 114 [some (v_r (some 51)), l1, l2, l3, l4, l5] (r.toList ++ []) h' Q) := by
  unfold ex_
  refine (am_Y_go 3 (ok := [am_is h (some 51) 10]) (g := (111, [some (v_r (some 51)), l1, l2, l3, l4, l5], [v_i (h_i h 51 10), v_r (some 51)], h)) rfl).trans ?_
  simp only [am_all]
  all_goals exact cj_d (la_is Lh (o := 51) rfl) (((am_Y_call (j := 149) (na := 2) (ci := 10) (fl := 0) rfl rfl rfl).trans (cj_d ⟨⟨Nat.le_of_ble_eq_true rfl, Nat.le_of_ble_eq_true rfl, Nat.le_of_ble_eq_true rfl, rfl⟩, Or.inr (Or.inr (show (10 : Nat) < 20 ∧ am_is h (some 51) 10 from ⟨by decide, (la_is Lh (o := 51) rfl)⟩))⟩ Iff.rfl)))

theorem b_X10_work_139 {d : Nat} {Q : Option am_V → am_H → Prop} (h : am_H) (l1 l2 l3 l4 l5 : Option am_V) (Lh : Lay h) : ex_ (d + 1) 153 139 [some (v_r (some 51)), l1, l2, l3, l4, l5] [] h Q ↔ ex_ d 149 0 [some (v_r (some 51)), some (v_i (h_i h 51 13))] [] h (fun r h' => ex_ (d + 1) 153 147 [some (v_r (some 51)), l1, l2, l3, l4, l5] (r.toList ++ []) h' Q) := by
  unfold ex_
  refine (am_Y_go 3 (ok := [am_is h (some 51) 10]) (g := (144, [some (v_r (some 51)), l1, l2, l3, l4, l5], [v_i (h_i h 51 13), v_r (some 51)], h)) rfl).trans ?_
  simp only [am_all]
  all_goals exact cj_d (la_is Lh (o := 51) rfl) (((am_Y_call (j := 149) (na := 2) (ci := 10) (fl := 0) rfl rfl rfl).trans (cj_d ⟨⟨Nat.le_of_ble_eq_true rfl, Nat.le_of_ble_eq_true rfl, Nat.le_of_ble_eq_true rfl, rfl⟩, Or.inr (Or.inr (show (10 : Nat) < 20 ∧ am_is h (some 51) 10 from ⟨by decide, (la_is Lh (o := 51) rfl)⟩))⟩ Iff.rfl)))

theorem b_X10_work_150 {d : Nat} {Q : Option am_V → am_H → Prop} (h : am_H) (l1 l2 l3 l4 l5 : Option am_V) (Lh : Lay h) : ex_ (d + 1) 153 150 [some (v_r (some 51)), l1, l2, l3, l4, l5] [] h Q ↔ ex_ d 150 0 [some (v_r (some 51))] [] h (fun r h' => ex_ (d + 1) 153 156 [some (v_r (some 51)), l1, l2, l3, l4, l5] (r.toList ++ [v_i (1 : Int32), v_r (some 51)]) h' Q) := by
  unfold ex_
  refine (am_Y_go 3 (ok := []) (g := (153, [some (v_r (some 51)), l1, l2, l3, l4, l5], [v_r (some 51), v_i (1 : Int32), v_r (some 51)], h)) rfl).trans ?_
  all_goals exact ((am_Y_call (j := 150) (na := 1) (ci := 10) (fl := 0) rfl rfl rfl).trans (cj_d ⟨⟨Nat.le_of_ble_eq_true rfl, Nat.le_of_ble_eq_true rfl, Nat.le_of_ble_eq_true rfl, rfl⟩, Or.inr (Or.inr (show (10 : Nat) < 20 ∧ am_is h (some 51) 10 from ⟨by decide, (la_is Lh (o := 51) rfl)⟩))⟩ Iff.rfl))

theorem b_X10_work_196 {d : Nat} {Q : Option am_V → am_H → Prop} (h : am_H) (s0 : Int32) (l1 l2 l3 l4 l5 : Option am_V) (Lh : Lay h) : ex_ (d + 1) 153 196 [some (v_r (some 51)), l1, l2, l3, l4, l5] [v_i s0] h Q ↔ ex_ d 150 0 [some (v_r (some 51))] [] h (fun r h' => ex_ (d + 1) 153 202 [some (v_r (some 51)), l1, l2, l3, some (v_i s0), l5] (r.toList ++ []) h' Q) := by
  unfold ex_
  refine (am_Y_go 2 (ok := []) (g := (199, [some (v_r (some 51)), l1, l2, l3, some (v_i s0), l5], [v_r (some 51)], h)) rfl).trans ?_
  all_goals exact ((am_Y_call (j := 150) (na := 1) (ci := 10) (fl := 0) rfl rfl rfl).trans (cj_d ⟨⟨Nat.le_of_ble_eq_true rfl, Nat.le_of_ble_eq_true rfl, Nat.le_of_ble_eq_true rfl, rfl⟩, Or.inr (Or.inr (show (10 : Nat) < 20 ∧ am_is h (some 51) 10 from ⟨by decide, (la_is Lh (o := 51) rfl)⟩))⟩ Iff.rfl))

theorem b_X10_work_125 {d : Nat} {Q : Option am_V → am_H → Prop} (h : am_H) (l0 l1 l2 l3 l4 l5 : Option am_V) : ex_ d 153 125 [l0, l1, l2, l3, l4, l5] [] h Q ↔ Q (none) h := by
  unfold ex_
  refine (am_Y_go 1 (ok := []) (g := (221, [l0, l1, l2, l3, l4, l5], [], h)) rfl).trans ?_
  all_goals exact ((am_Y_ret rfl rfl rfl).trans (am_rz rfl))

theorem b_X10_work_92 {d : Nat} {Q : Option am_V → am_H → Prop} (h : am_H) (l0 l1 l2 l3 l4 l5 : Option am_V) : ex_ d 153 92 [l0, l1, l2, l3, l4, l5] [] h Q ↔ Q (none) h := by
  unfold ex_
  refine (am_Y_go 1 (ok := []) (g := (221, [l0, l1, l2, l3, l4, l5], [], h)) rfl).trans ?_
  all_goals exact ((am_Y_ret rfl rfl rfl).trans (am_rz rfl))

theorem b_X10_work_103 {d : Nat} {Q : Option am_V → am_H → Prop} (h : am_H) (l0 l1 l2 l3 l4 l5 : Option am_V) : ex_ d 153 103 [l0, l1, l2, l3, l4, l5] [] h Q ↔ Q (none) h := by
  unfold ex_
  refine (am_Y_go 1 (ok := []) (g := (221, [l0, l1, l2, l3, l4, l5], [], h)) rfl).trans ?_
  all_goals exact ((am_Y_ret rfl rfl rfl).trans (am_rz rfl))

theorem b_X10_work_136 {d : Nat} {Q : Option am_V → am_H → Prop} (h : am_H) (l0 l1 l2 l3 l4 l5 : Option am_V) : ex_ d 153 136 [l0, l1, l2, l3, l4, l5] [] h Q ↔ Q (none) h := by
  unfold ex_
  refine (am_Y_go 1 (ok := []) (g := (221, [l0, l1, l2, l3, l4, l5], [], h)) rfl).trans ?_
  all_goals exact ((am_Y_ret rfl rfl rfl).trans (am_rz rfl))

theorem b_X10_work_167 {d : Nat} {Q : Option am_V → am_H → Prop} (h : am_H) (s0 : Int32) (l1 l2 l3 l4 l5 : Option am_V) (Lh : Lay h) : ex_ (d + 1) 153 167 [some (v_r (some 51)), l1, l2, l3, l4, l5] [v_i s0] h Q ↔ ex_ d 150 0 [some (v_r (some 51))] [] h (fun r h' => ex_ (d + 1) 153 172 [some (v_r (some 51)), l1, some (v_i s0), l3, l4, l5] (r.toList ++ []) h' Q) := by
  unfold ex_
  refine (am_Y_go 2 (ok := []) (g := (169, [some (v_r (some 51)), l1, some (v_i s0), l3, l4, l5], [v_r (some 51)], h)) rfl).trans ?_
  all_goals exact ((am_Y_call (j := 150) (na := 1) (ci := 10) (fl := 0) rfl rfl rfl).trans (cj_d ⟨⟨Nat.le_of_ble_eq_true rfl, Nat.le_of_ble_eq_true rfl, Nat.le_of_ble_eq_true rfl, rfl⟩, Or.inr (Or.inr (show (10 : Nat) < 20 ∧ am_is h (some 51) 10 from ⟨by decide, (la_is Lh (o := 51) rfl)⟩))⟩ Iff.rfl))

theorem b_X10_work_114 {d : Nat} {Q : Option am_V → am_H → Prop} (h : am_H) (l0 l1 l2 l3 l4 l5 : Option am_V) : ex_ d 153 114 [l0, l1, l2, l3, l4, l5] [] h Q ↔ Q (none) h := by
  unfold ex_
  refine (am_Y_go 1 (ok := []) (g := (221, [l0, l1, l2, l3, l4, l5], [], h)) rfl).trans ?_
  all_goals exact ((am_Y_ret rfl rfl rfl).trans (am_rz rfl))

theorem b_X10_work_147 {d : Nat} {Q : Option am_V → am_H → Prop} (h : am_H) (l0 l1 l2 l3 l4 l5 : Option am_V) : ex_ d 153 147 [l0, l1, l2, l3, l4, l5] [] h Q ↔ Q (none) h := by
  unfold ex_
  refine (am_Y_go 1 (ok := []) (g := (221, [l0, l1, l2, l3, l4, l5], [], h)) rfl).trans ?_
  all_goals exact ((am_Y_ret rfl rfl rfl).trans (am_rz rfl))

theorem b_X10_work_156 {d : Nat} {Q : Option am_V → am_H → Prop} (h : am_H) (s0 : Int32) (s1 : Int32) (l0 l1 l2 l3 l4 l5 : Option am_V) (Lh : Lay h) : ex_ (d + 1) 153 156 [l0, l1, l2, l3, l4, l5] [v_i s0, v_i s1, v_r (some 51)] h Q ↔ ex_ d 149 0 [some (v_r (some 51)), some (v_i (s1 - s0))] [] h (fun r h' => ex_ (d + 1) 153 160 [l0, l1, l2, l3, l4, l5] (r.toList ++ []) h' Q) := by
  unfold ex_
  refine (am_Y_go 1 (ok := []) (g := (157, [l0, l1, l2, l3, l4, l5], [v_i (s1 - s0), v_r (some 51)], h)) rfl).trans ?_
  all_goals exact ((am_Y_call (j := 149) (na := 2) (ci := 10) (fl := 0) rfl rfl rfl).trans (cj_d ⟨⟨Nat.le_of_ble_eq_true rfl, Nat.le_of_ble_eq_true rfl, Nat.le_of_ble_eq_true rfl, rfl⟩, Or.inr (Or.inr (show (10 : Nat) < 20 ∧ am_is h (some 51) 10 from ⟨by decide, (la_is Lh (o := 51) rfl)⟩))⟩ Iff.rfl))

theorem b_X10_work_202 {d : Nat} {Q : Option am_V → am_H → Prop} (h : am_H) (s0 : Int32) (x1 : Int32) (x4 : Int32) (l2 l3 l5 : Option am_V) (Lh : Lay h) : ex_ (d + 1) 153 202 [some (v_r (some 51)), some (v_i x1), l2, l3, some (v_i x4), l5] [v_i s0] h Q ↔ ex_ d 151 0 [some (v_i x1), some (v_l (Int32.toInt64 s0)), none, some (v_l (Int32.toInt64 x4)), none] [] h (fun r h' => ex_ (d + 1) 153 215 [some (v_r (some 51)), some (v_i x1), l2, l3, some (v_i x4), some (v_i s0)] (r.toList ++ [v_r (some 51)]) h' Q) := by
  unfold ex_
  refine (am_Y_go 7 (ok := []) (g := (212, [some (v_r (some 51)), some (v_i x1), l2, l3, some (v_i x4), some (v_i s0)], [v_l (Int32.toInt64 x4), v_l (Int32.toInt64 s0), v_i x1, v_r (some 51)], h)) rfl).trans ?_
  all_goals exact ((am_Y_call (j := 151) (na := 3) (ci := 10) (fl := 2) rfl rfl rfl).trans (cj_d ⟨⟨Nat.le_of_ble_eq_true rfl, Nat.le_of_ble_eq_true rfl, Nat.le_of_ble_eq_true rfl, rfl⟩, Or.inl rfl⟩ Iff.rfl))

theorem b_X10_work_172 {d : Nat} {Q : Option am_V → am_H → Prop} (h : am_H) (s0 : Int32) (l1 l2 l3 l4 l5 : Option am_V) (Lh : Lay h) : ex_ (d + 1) 153 172 [some (v_r (some 51)), l1, l2, l3, l4, l5] [v_i s0] h Q ↔ ex_ d 150 0 [some (v_r (some 51))] [] h (fun r h' => ex_ (d + 1) 153 178 [some (v_r (some 51)), l1, l2, some (v_i s0), l4, l5] (r.toList ++ [v_r (some 51)]) h' Q) := by
  unfold ex_
  refine (am_Y_go 3 (ok := []) (g := (175, [some (v_r (some 51)), l1, l2, some (v_i s0), l4, l5], [v_r (some 51), v_r (some 51)], h)) rfl).trans ?_
  all_goals exact ((am_Y_call (j := 150) (na := 1) (ci := 10) (fl := 0) rfl rfl rfl).trans (cj_d ⟨⟨Nat.le_of_ble_eq_true rfl, Nat.le_of_ble_eq_true rfl, Nat.le_of_ble_eq_true rfl, rfl⟩, Or.inr (Or.inr (show (10 : Nat) < 20 ∧ am_is h (some 51) 10 from ⟨by decide, (la_is Lh (o := 51) rfl)⟩))⟩ Iff.rfl))

theorem b_X10_work_160 {d : Nat} {Q : Option am_V → am_H → Prop} (h : am_H) (l0 l1 l2 l3 l4 l5 : Option am_V) : ex_ d 153 160 [l0, l1, l2, l3, l4, l5] [] h Q ↔ Q (none) h := by
  unfold ex_
  refine (am_Y_go 1 (ok := []) (g := (221, [l0, l1, l2, l3, l4, l5], [], h)) rfl).trans ?_
  all_goals exact ((am_Y_ret rfl rfl rfl).trans (am_rz rfl))

theorem b_X10_work_215 {d : Nat} {Q : Option am_V → am_H → Prop} (h : am_H) (s0 : Int64) (l0 l1 l2 l3 l4 l5 : Option am_V) (Lh : Lay h) : ex_ (d + 1) 153 215 [l0, l1, l2, l3, l4, l5] [v_l s0, v_r (some 51)] h Q ↔ ex_ d 152 0 [some (v_l s0), none] [] h (fun r h' => ex_ (d + 1) 153 218 [l0, l1, l2, l3, l4, l5] (r.toList ++ [v_r (some 51)]) h' Q) := by
  unfold ex_
  exact ((am_Y_call (j := 152) (na := 1) (ci := 10) (fl := 2) rfl rfl rfl).trans (cj_d ⟨⟨Nat.le_of_ble_eq_true rfl, Nat.le_of_ble_eq_true rfl, Nat.le_of_ble_eq_true rfl, rfl⟩, Or.inl rfl⟩ Iff.rfl))

theorem b_X10_work_178 {d : Nat} {Q : Option am_V → am_H → Prop} (h : am_H) (s0 : Int32) (l0 l1 l2 l3 l4 l5 : Option am_V) (Lh : Lay h) : ex_ d 153 178 [l0, l1, l2, l3, l4, l5] [v_i s0, v_r (some 51)] h Q ↔ if s0 = 0 then ex_ d 153 185 [l0, l1, l2, l3, l4, l5] [v_r (some 51)] h Q else ex_ d 153 181 [l0, l1, l2, l3, l4, l5] [v_r (some 51)] h Q := by
  unfold ex_
  refine (am_Y_go 1 (ok := []) (g := (if s0 = 0 then 185 else 181, [l0, l1, l2, l3, l4, l5], [v_r (some 51)], h)) rfl).trans ?_
  all_goals exact am_Y_if

theorem b_X10_work_218 {d : Nat} {Q : Option am_V → am_H → Prop} (h : am_H) (s0 : Int32) (l0 l1 l2 l3 l4 l5 : Option am_V) (Lh : Lay h) : ex_ (d + 1) 153 218 [l0, l1, l2, l3, l4, l5] [v_i s0, v_r (some 51)] h Q ↔ ex_ d 149 0 [some (v_r (some 51)), some (v_i s0)] [] h (fun r h' => ex_ (d + 1) 153 221 [l0, l1, l2, l3, l4, l5] (r.toList ++ []) h' Q) := by
  unfold ex_
  exact ((am_Y_call (j := 149) (na := 2) (ci := 10) (fl := 0) rfl rfl rfl).trans (cj_d ⟨⟨Nat.le_of_ble_eq_true rfl, Nat.le_of_ble_eq_true rfl, Nat.le_of_ble_eq_true rfl, rfl⟩, Or.inr (Or.inr (show (10 : Nat) < 20 ∧ am_is h (some 51) 10 from ⟨by decide, (la_is Lh (o := 51) rfl)⟩))⟩ Iff.rfl))

theorem b_X10_work_185 {d : Nat} {Q : Option am_V → am_H → Prop} (h : am_H) (x2 : Int32) (l0 l1 l3 l4 l5 : Option am_V) (Lh : Lay h) : ex_ (d + 1) 153 185 [l0, l1, some (v_i x2), l3, l4, l5] [v_r (some 51)] h Q ↔ ex_ d 149 0 [some (v_r (some 51)), some (v_i x2)] [] h (fun r h' => ex_ (d + 1) 153 189 [l0, l1, some (v_i x2), l3, l4, l5] (r.toList ++ []) h' Q) := by
  unfold ex_
  refine (am_Y_go 1 (ok := []) (g := (186, [l0, l1, some (v_i x2), l3, l4, l5], [v_i x2, v_r (some 51)], h)) rfl).trans ?_
  all_goals exact ((am_Y_call (j := 149) (na := 2) (ci := 10) (fl := 0) rfl rfl rfl).trans (cj_d ⟨⟨Nat.le_of_ble_eq_true rfl, Nat.le_of_ble_eq_true rfl, Nat.le_of_ble_eq_true rfl, rfl⟩, Or.inr (Or.inr (show (10 : Nat) < 20 ∧ am_is h (some 51) 10 from ⟨by decide, (la_is Lh (o := 51) rfl)⟩))⟩ Iff.rfl))

theorem b_X10_work_181 {d : Nat} {Q : Option am_V → am_H → Prop} (h : am_H) (x3 : Int32) (l0 l1 l2 l4 l5 : Option am_V) (Lh : Lay h) : ex_ (d + 1) 153 181 [l0, l1, l2, some (v_i x3), l4, l5] [v_r (some 51)] h Q ↔ ex_ d 149 0 [some (v_r (some 51)), some (v_i x3)] [] h (fun r h' => ex_ (d + 1) 153 189 [l0, l1, l2, some (v_i x3), l4, l5] (r.toList ++ []) h' Q) := by
  unfold ex_
  refine (am_Y_go 2 (ok := []) (g := (186, [l0, l1, l2, some (v_i x3), l4, l5], [v_i x3, v_r (some 51)], h)) rfl).trans ?_
  all_goals exact ((am_Y_call (j := 149) (na := 2) (ci := 10) (fl := 0) rfl rfl rfl).trans (cj_d ⟨⟨Nat.le_of_ble_eq_true rfl, Nat.le_of_ble_eq_true rfl, Nat.le_of_ble_eq_true rfl, rfl⟩, Or.inr (Or.inr (show (10 : Nat) < 20 ∧ am_is h (some 51) 10 from ⟨by decide, (la_is Lh (o := 51) rfl)⟩))⟩ Iff.rfl))

theorem b_X10_work_221 {d : Nat} {Q : Option am_V → am_H → Prop} (h : am_H) (l0 l1 l2 l3 l4 l5 : Option am_V) : ex_ d 153 221 [l0, l1, l2, l3, l4, l5] [] h Q ↔ Q (none) h := by
  unfold ex_
  exact ((am_Y_ret rfl rfl rfl).trans (am_rz rfl))

theorem b_X10_work_189 {d : Nat} {Q : Option am_V → am_H → Prop} (h : am_H) (l0 l1 l2 l3 l4 l5 : Option am_V) : ex_ d 153 189 [l0, l1, l2, l3, l4, l5] [] h Q ↔ Q (none) h := by
  unfold ex_
  refine (am_Y_go 1 (ok := []) (g := (221, [l0, l1, l2, l3, l4, l5], [], h)) rfl).trans ?_
  all_goals exact ((am_Y_ret rfl rfl rfl).trans (am_rz rfl))

theorem b_X10_run_0 {d : Nat} {Q : Option am_V → am_H → Prop} (h : am_H) (o1 : Nat) (l2 l3 l4 l5 : Option am_V) (Lh : Lay h) {n_o1 : Nat} (A_o1 : y_arr h o1 20 n_o1) : ex_ d 154 0 [some (v_r (some 51)), some (v_r (some o1)), l2, l3, l4, l5] [] h Q ↔ ex_ d 154 13 [some (v_r (some 51)), some (v_r (some o1)), some (v_r (some o1)), some (v_i (nI n_o1)), some (v_i (0 : Int32)), l5] [] (p_i h 51 7 (0 : Int32)) Q := by
  have e0 : h_l h o1 = n_o1 := (lb_l A_o1)
  unfold ex_
  refine (am_Y_go 10 (ok := [am_is h (some 51) 10, am_an h (some o1)]) (g := (13, [some (v_r (some 51)), some (v_r (some o1)), some (v_r (some o1)), some (v_i (nI (h_l h o1))), some (v_i (0 : Int32)), l5], [], (p_i h 51 7 (0 : Int32)))) rfl).trans ?_
  simp only [e0, Option.getD_some, am_all]
  all_goals exact cj_d (la_is Lh (o := 51) rfl) (cj_d (lb_an20 A_o1) (Iff.rfl))

theorem b_X10_run_13 {d : Nat} {Q : Option am_V → am_H → Prop} (h : am_H) (x4 : Int32) (x3 : Int32) (l0 l1 l2 l5 : Option am_V) : ex_ d 154 13 [l0, l1, l2, some (v_i x3), some (v_i x4), l5] [] h Q ↔ if x3 ≤ x4 then ex_ d 154 52 [l0, l1, l2, some (v_i x3), some (v_i x4), l5] [] h Q else ex_ d 154 19 [l0, l1, l2, some (v_i x3), some (v_i x4), l5] [] h Q := by
  unfold ex_
  refine (am_Y_go 3 (ok := []) (g := (if x3 ≤ x4 then 52 else 19, [l0, l1, l2, some (v_i x3), some (v_i x4), l5], [], h)) rfl).trans ?_
  all_goals exact am_Y_if

theorem b_X10_run_52 {d : Nat} {Q : Option am_V → am_H → Prop} (h : am_H) (l1 l2 l3 l4 l5 : Option am_V) (Lh : Lay h) : ex_ (d + 1) 154 52 [some (v_r (some 51)), l1, l2, l3, l4, l5] [] h Q ↔ ex_ d 150 0 [some (v_r (some 51))] [] h (fun r h' => ex_ (d + 1) 154 56 [some (v_r (some 51)), l1, l2, l3, l4, l5] (r.toList ++ []) h' Q) := by
  unfold ex_
  refine (am_Y_go 1 (ok := []) (g := (53, [some (v_r (some 51)), l1, l2, l3, l4, l5], [v_r (some 51)], h)) rfl).trans ?_
  all_goals exact ((am_Y_call (j := 150) (na := 1) (ci := 10) (fl := 0) rfl rfl rfl).trans (cj_d ⟨⟨Nat.le_of_ble_eq_true rfl, Nat.le_of_ble_eq_true rfl, Nat.le_of_ble_eq_true rfl, rfl⟩, Or.inr (Or.inr (show (10 : Nat) < 20 ∧ am_is h (some 51) 10 from ⟨by decide, (la_is Lh (o := 51) rfl)⟩))⟩ Iff.rfl))

theorem b_X10_run_19 {d : Nat} {Q : Option am_V → am_H → Prop} (h : am_H) (x2 : Option Nat) (x4 : Int32) (l0 l1 l3 l5 : Option am_V) : ex_ d 154 19 [l0, l1, some (v_r x2), l3, some (v_i x4), l5] [] h Q ↔ ex_ d 154 22 [l0, l1, some (v_r x2), l3, some (v_i x4), l5] [v_i x4, v_r x2] h Q := by
  unfold ex_
  refine (am_Y_go 2 (ok := []) (g := (22, [l0, l1, some (v_r x2), l3, some (v_i x4), l5], [v_i x4, v_r x2], h)) rfl).trans ?_
  all_goals exact Iff.rfl

theorem b_X10_run_56 {d : Nat} {Q : Option am_V → am_H → Prop} (h : am_H) (s0 : Int32) (l0 l1 l2 l3 l4 l5 : Option am_V) : ex_ d 154 56 [l0, l1, l2, l3, l4, l5] [v_i s0] h Q ↔ Q (some (v_i s0)) h := by
  unfold ex_
  exact ((am_Y_ret rfl rfl rfl).trans (am_r0))

theorem b_X10_run_22 {d : Nat} {Q : Option am_V → am_H → Prop} (h : am_H) (s0 : Int32) (t1 : Nat) (l0 l1 l2 l3 l4 l5 : Option am_V) {n_t1 : Nat} (A_t1 : y_arr h t1 20 n_t1) : ex_ d 154 22 [l0, l1, l2, l3, l4, l5] [v_i s0, v_r (some t1)] h Q ↔ vp_in s0 n_t1 ∧ (if (h_i h t1 (Int32.toNatClampNeg s0)) < 0 then ex_ d 154 39 [l0, l1, l2, l3, l4, some (v_i (h_i h t1 (Int32.toNatClampNeg s0)))] [] h Q else ex_ d 154 30 [l0, l1, l2, l3, l4, some (v_i (h_i h t1 (Int32.toNatClampNeg s0)))] [] h Q) := by
  unfold ex_
  refine (am_Y_go 4 (ok := [am_ar h (some t1) 20 s0]) (g := (if (h_i h t1 (Int32.toNatClampNeg s0)) < 0 then 39 else 30, [l0, l1, l2, l3, l4, some (v_i (h_i h t1 (Int32.toNatClampNeg s0)))], [], h)) rfl).trans ?_
  simp only [am_all]
  all_goals exact cj_k (lb_ar A_t1) (am_Y_if)

theorem b_X10_run_39 {d : Nat} {Q : Option am_V → am_H → Prop} (h : am_H) (x5 : Int32) (l1 l2 l3 l4 : Option am_V) (Lh : Lay h) : ex_ (d + 1) 154 39 [some (v_r (some 51)), l1, l2, l3, l4, some (v_i x5)] [] h Q ↔ ex_ d 153 0 [some (v_r (some 51)), some (v_i (-x5)), none, none, none, none] [] h (fun r h' => ex_ (d + 1) 154 46 [some (v_r (some 51)), l1, l2, l3, l4, some (v_i x5)] (r.toList ++ []) h' Q) := by
  unfold ex_
  refine (am_Y_go 3 (ok := []) (g := (43, [some (v_r (some 51)), l1, l2, l3, l4, some (v_i x5)], [v_i (-x5), v_r (some 51)], h)) rfl).trans ?_
  all_goals exact ((am_Y_call (j := 153) (na := 2) (ci := 10) (fl := 0) rfl rfl rfl).trans (cj_d ⟨⟨Nat.le_of_ble_eq_true rfl, Nat.le_of_ble_eq_true rfl, Nat.le_of_ble_eq_true rfl, rfl⟩, Or.inr (Or.inr (show (10 : Nat) < 20 ∧ am_is h (some 51) 10 from ⟨by decide, (la_is Lh (o := 51) rfl)⟩))⟩ Iff.rfl))

theorem b_X10_run_30 {d : Nat} {Q : Option am_V → am_H → Prop} (h : am_H) (x5 : Int32) (l1 l2 l3 l4 : Option am_V) (Lh : Lay h) : ex_ (d + 1) 154 30 [some (v_r (some 51)), l1, l2, l3, l4, some (v_i x5)] [] h Q ↔ ex_ d 149 0 [some (v_r (some 51)), some (v_i x5)] [] h (fun r h' => ex_ (d + 1) 154 36 [some (v_r (some 51)), l1, l2, l3, l4, some (v_i x5)] (r.toList ++ []) h' Q) := by
  unfold ex_
  refine (am_Y_go 2 (ok := []) (g := (33, [some (v_r (some 51)), l1, l2, l3, l4, some (v_i x5)], [v_i x5, v_r (some 51)], h)) rfl).trans ?_
  all_goals exact ((am_Y_call (j := 149) (na := 2) (ci := 10) (fl := 0) rfl rfl rfl).trans (cj_d ⟨⟨Nat.le_of_ble_eq_true rfl, Nat.le_of_ble_eq_true rfl, Nat.le_of_ble_eq_true rfl, rfl⟩, Or.inr (Or.inr (show (10 : Nat) < 20 ∧ am_is h (some 51) 10 from ⟨by decide, (la_is Lh (o := 51) rfl)⟩))⟩ Iff.rfl))

theorem b_X10_run_46 {d : Nat} {Q : Option am_V → am_H → Prop} (h : am_H) (x4 : Int32) (l0 l1 l2 l3 l5 : Option am_V) : ex_ d 154 46 [l0, l1, l2, l3, some (v_i x4), l5] [] h Q ↔ ex_ d 154 13 [l0, l1, l2, l3, some (v_i (x4 + (1 : Int32))), l5] [] h Q := by
  unfold ex_
  refine (am_Y_go 2 (ok := []) (g := (13, [l0, l1, l2, l3, some (v_i (x4 + (1 : Int32))), l5], [], h)) rfl).trans ?_
  all_goals exact Iff.rfl

theorem b_X10_run_36 {d : Nat} {Q : Option am_V → am_H → Prop} (h : am_H) (x4 : Int32) (l0 l1 l2 l3 l5 : Option am_V) : ex_ d 154 36 [l0, l1, l2, l3, some (v_i x4), l5] [] h Q ↔ ex_ d 154 13 [l0, l1, l2, l3, some (v_i (x4 + (1 : Int32))), l5] [] h Q := by
  unfold ex_
  refine (am_Y_go 3 (ok := []) (g := (13, [l0, l1, l2, l3, some (v_i (x4 + (1 : Int32))), l5], [], h)) rfl).trans ?_
  all_goals exact Iff.rfl

theorem b_X10_trace_0 {d : Nat} {Q : Option am_V → am_H → Prop} (h : am_H) (x1 : Int32) (x2 : Int32) (x3 : Int32) (l4 l5 : Option am_V) (Lh : Lay h) : ex_ d 155 0 [some (v_r (some 51)), some (v_i x1), some (v_i x2), some (v_i x3), l4, l5] [] h Q ↔ ex_ d 155 23 [some (v_r (some 51)), some (v_i x1), some (v_i x2), some (v_i x3), some (v_i (0 : Int32)), l5] [] (p_i (p_i (p_i (p_i h 51 3 (0 : Int32)) 51 10 x1) 51 8 x2) 51 11 x3) Q := by
  unfold ex_
  refine (am_Y_go 14 (ok := [am_is h (some 51) 10, am_is h (some 51) 10, am_is h (some 51) 10, am_is h (some 51) 10]) (g := (23, [some (v_r (some 51)), some (v_i x1), some (v_i x2), some (v_i x3), some (v_i (0 : Int32)), l5], [], (p_i (p_i (p_i (p_i h 51 3 (0 : Int32)) 51 10 x1) 51 8 x2) 51 11 x3))) rfl).trans ?_
  simp only [am_all]
  all_goals exact cj_d (la_is Lh (o := 51) rfl) (cj_d (la_is Lh (o := 51) rfl) (cj_d (la_is Lh (o := 51) rfl) (cj_d (la_is Lh (o := 51) rfl) (Iff.rfl))))

theorem b_X10_trace_23 {d : Nat} {Q : Option am_V → am_H → Prop} (h : am_H) (x4 : Int32) (x1 : Int32) (l2 l3 l5 : Option am_V) (Lh : Lay h) : ex_ (d + 1) 155 23 [some (v_r (some 51)), some (v_i x1), l2, l3, some (v_i x4), l5] [] h Q ↔ ex_ d 9 0 [some (v_r (some 15)), some (v_i x1)] [] h (fun r h' => ex_ (d + 1) 155 33 [some (v_r (some 51)), some (v_i x1), l2, l3, some (v_i x4), l5] (r.toList ++ [v_i x4]) h' Q) := by
  have e0 : h_r h 51 1 = some 15 := la_r Lh (q := (51, 1, 15)) (by decide)
  unfold ex_
  refine (am_Y_go 4 (ok := [am_is h (some 51) 10]) (g := (30, [some (v_r (some 51)), some (v_i x1), l2, l3, some (v_i x4), l5], [v_i x1, v_r ((h_r h 51 1)), v_i x4], h)) rfl).trans ?_
  simp only [e0, Option.getD_some, am_all]
  all_goals exact cj_d (la_is Lh (o := 51) rfl) (((am_Y_call (j := 9) (na := 2) (ci := 6) (fl := 0) rfl rfl rfl).trans (cj_d ⟨⟨Nat.le_of_ble_eq_true rfl, Nat.le_of_ble_eq_true rfl, Nat.le_of_ble_eq_true rfl, rfl⟩, Or.inr (Or.inr (show (6 : Nat) < 20 ∧ am_is h (some 15) 6 from ⟨by decide, (la_is Lh (o := 15) rfl)⟩))⟩ Iff.rfl)))

theorem b_X10_trace_33 {d : Nat} {Q : Option am_V → am_H → Prop} (h : am_H) (s0 : Int32) (s1 : Int32) (l0 l1 l2 l3 l4 l5 : Option am_V) : ex_ d 155 33 [l0, l1, l2, l3, l4, l5] [v_i s0, v_i s1] h Q ↔ if s0 ≤ s1 then ex_ d 155 142 [l0, l1, l2, l3, l4, l5] [] h Q else ex_ d 155 36 [l0, l1, l2, l3, l4, l5] [] h Q := by
  unfold ex_
  refine (am_Y_go 1 (ok := []) (g := (if s0 ≤ s1 then 142 else 36, [l0, l1, l2, l3, l4, l5], [], h)) rfl).trans ?_
  all_goals exact am_Y_if

theorem b_X10_trace_142 {d : Nat} {Q : Option am_V → am_H → Prop} (h : am_H) (l0 l1 l2 l3 l4 l5 : Option am_V) : ex_ d 155 142 [l0, l1, l2, l3, l4, l5] [] h Q ↔ Q (none) h := by
  unfold ex_
  exact ((am_Y_ret rfl rfl rfl).trans (am_rz rfl))

theorem b_X10_trace_36 {d : Nat} {Q : Option am_V → am_H → Prop} (h : am_H) (l1 l2 l3 l4 l5 : Option am_V) (Lh : Lay h) : ex_ d 155 36 [some (v_r (some 51)), l1, l2, l3, l4, l5] [] h Q ↔ if (nI 10) ≤ (h_i h 51 3) then ex_ d 155 142 [some (v_r (some 51)), l1, l2, l3, l4, l5] [] h Q else ex_ d 155 48 [some (v_r (some 51)), l1, l2, l3, l4, l5] [] h Q := by
  have e0 : h_r h 51 2 = some 52 := la_r Lh (q := (51, 2, 52)) (by decide)
  have e1 : h_l h 52 = 10 := (la_l Lh (o := 52) rfl)
  unfold ex_
  refine (am_Y_go 6 (ok := [am_is h (some 51) 10, am_is h (some 51) 10, am_an h ((h_r h 51 2))]) (g := (if (nI (h_l h ((h_r h 51 2).getD 0))) ≤ (h_i h 51 3) then 142 else 48, [some (v_r (some 51)), l1, l2, l3, l4, l5], [], h)) rfl).trans ?_
  simp only [e0, e1, Option.getD_some, am_all]
  all_goals exact cj_d (la_is Lh (o := 51) rfl) (cj_d (la_is Lh (o := 51) rfl) (cj_d (la_an20 Lh (o := 52) rfl) (am_Y_if)))

theorem b_X10_trace_48 {d : Nat} {Q : Option am_V → am_H → Prop} (h : am_H) (x1 : Int32) (x4 : Int32) (l2 l3 l5 : Option am_V) (Lh : Lay h) : ex_ (d + 1) 155 48 [some (v_r (some 51)), some (v_i x1), l2, l3, some (v_i x4), l5] [] h Q ↔ ex_ d 10 0 [some (v_r (some 15)), some (v_i x1), some (v_i x4)] [] h (fun r h' => ex_ (d + 1) 155 59 [some (v_r (some 51)), some (v_i x1), l2, l3, some (v_i x4), l5] (r.toList ++ [v_r (some 51)]) h' Q) := by
  have e0 : h_r h 51 1 = some 15 := la_r Lh (q := (51, 1, 15)) (by decide)
  unfold ex_
  refine (am_Y_go 5 (ok := [am_is h (some 51) 10]) (g := (56, [some (v_r (some 51)), some (v_i x1), l2, l3, some (v_i x4), l5], [v_i x4, v_i x1, v_r ((h_r h 51 1)), v_r (some 51)], h)) rfl).trans ?_
  simp only [e0, Option.getD_some, am_all]
  all_goals exact cj_d (la_is Lh (o := 51) rfl) (((am_Y_call (j := 10) (na := 3) (ci := 6) (fl := 0) rfl rfl rfl).trans (cj_d ⟨⟨Nat.le_of_ble_eq_true rfl, Nat.le_of_ble_eq_true rfl, Nat.le_of_ble_eq_true rfl, rfl⟩, Or.inr (Or.inr (show (6 : Nat) < 20 ∧ am_is h (some 15) 6 from ⟨by decide, (la_is Lh (o := 15) rfl)⟩))⟩ Iff.rfl)))

theorem b_X10_trace_59 {d : Nat} {Q : Option am_V → am_H → Prop} (h : am_H) (s0 : Int32) (x2 : Int32) (l1 l3 l4 l5 : Option am_V) (Lh : Lay h) : ex_ (d + 1) 155 59 [some (v_r (some 51)), l1, some (v_i x2), l3, l4, l5] [v_i s0, v_r (some 51)] h Q ↔ ex_ d 32 0 [some (v_r (some 11)), some (v_i (h_i (p_i h 51 9 s0) 51 9)), some (v_i x2)] [] (p_i h 51 9 s0) (fun r h' => ex_ (d + 1) 155 77 [some (v_r (some 51)), l1, some (v_i x2), l3, l4, l5] (r.toList ++ []) h' Q) := by
  have e0 : h_r h 51 0 = some 10 := la_r Lh (q := (51, 0, 10)) (by decide)
  have e1 : h_r h 10 0 = some 11 := la_r Lh (q := (10, 0, 11)) (by decide)
  unfold ex_
  refine (am_Y_go 7 (ok := [am_is h (some 51) 10, am_is h (some 51) 10, am_is h ((h_r h 51 0)) 2, am_is h (some 51) 10]) (g := (74, [some (v_r (some 51)), l1, some (v_i x2), l3, l4, l5], [v_i x2, v_i (h_i (p_i h 51 9 s0) 51 9), v_r ((h_r h ((h_r h 51 0).getD 0) 0))], (p_i h 51 9 s0))) rfl).trans ?_
  simp only [e0, e1, Option.getD_some, am_all]
  all_goals exact cj_d (la_is Lh (o := 51) rfl) (cj_d (la_is Lh (o := 51) rfl) (cj_d (la_is Lh (o := 10) rfl) (cj_d (la_is Lh (o := 51) rfl) (((am_Y_call (j := 32) (na := 3) (ci := 1) (fl := 0) rfl rfl rfl).trans (cj_d ⟨⟨Nat.le_of_ble_eq_true rfl, Nat.le_of_ble_eq_true rfl, Nat.le_of_ble_eq_true rfl, rfl⟩, Or.inr (Or.inr (show (1 : Nat) < 20 ∧ am_is h (some 11) 1 from ⟨by decide, (la_is Lh (o := 11) rfl)⟩))⟩ Iff.rfl))))))

theorem b_X10_trace_77 {d : Nat} {Q : Option am_V → am_H → Prop} (h : am_H) (s0 : Int32) (l0 l1 l2 l3 l4 l5 : Option am_V) : ex_ d 155 77 [l0, l1, l2, l3, l4, l5] [v_i s0] h Q ↔ if s0 = 0 then ex_ d 155 136 [l0, l1, l2, l3, l4, some (v_i s0)] [] h Q else ex_ d 155 84 [l0, l1, l2, l3, l4, some (v_i s0)] [] h Q := by
  unfold ex_
  refine (am_Y_go 3 (ok := []) (g := (if s0 = 0 then 136 else 84, [l0, l1, l2, l3, l4, some (v_i s0)], [], h)) rfl).trans ?_
  all_goals exact am_Y_if

theorem b_X10_trace_136 {d : Nat} {Q : Option am_V → am_H → Prop} (h : am_H) (x4 : Int32) (l0 l1 l2 l3 l5 : Option am_V) : ex_ d 155 136 [l0, l1, l2, l3, some (v_i x4), l5] [] h Q ↔ ex_ d 155 23 [l0, l1, l2, l3, some (v_i (x4 + (1 : Int32))), l5] [] h Q := by
  unfold ex_
  refine (am_Y_go 2 (ok := []) (g := (23, [l0, l1, l2, l3, some (v_i (x4 + (1 : Int32))), l5], [], h)) rfl).trans ?_
  all_goals exact Iff.rfl

theorem b_X10_trace_84 {d : Nat} {Q : Option am_V → am_H → Prop} (h : am_H) (l1 l2 l3 l4 l5 : Option am_V) (Lh : Lay h) : ex_ d 155 84 [some (v_r (some 51)), l1, l2, l3, l4, l5] [] h Q ↔ if (h_r h 10 2) = none then ex_ d 155 108 [some (v_r (some 51)), l1, l2, l3, l4, l5] [] h Q else ex_ d 155 94 [some (v_r (some 51)), l1, l2, l3, l4, l5] [] h Q := by
  have e0 : h_r h 51 0 = some 10 := la_r Lh (q := (51, 0, 10)) (by decide)
  unfold ex_
  refine (am_Y_go 4 (ok := [am_is h (some 51) 10, am_is h ((h_r h 51 0)) 2]) (g := (if (h_r h ((h_r h 51 0).getD 0) 2) = none then 108 else 94, [some (v_r (some 51)), l1, l2, l3, l4, l5], [], h)) rfl).trans ?_
  simp only [e0, Option.getD_some, am_all]
  all_goals exact cj_d (la_is Lh (o := 51) rfl) (cj_d (la_is Lh (o := 10) rfl) (am_Y_if))

theorem b_X10_trace_108 {d : Nat} {Q : Option am_V → am_H → Prop} (h : am_H) (x4 : Int32) (x5 : Int32) (l1 l2 l3 : Option am_V) (Lh : Lay h) : ex_ d 155 108 [some (v_r (some 51)), l1, l2, l3, some (v_i x4), some (v_i x5)] [] h Q ↔ vp_in (h_i h 51 3) 10 ∧ (if ¬ x5 = (1 : Int32) then ex_ d 155 136 [some (v_r (some 51)), l1, l2, l3, some (v_i x4), some (v_i x5)] [] (p_i (p_i h 52 (Int32.toNatClampNeg (h_i h 51 3)) x4) 51 3 ((h_i (p_i h 52 (Int32.toNatClampNeg (h_i h 51 3)) x4) 51 3) + (1 : Int32))) Q else ex_ d 155 135 [some (v_r (some 51)), l1, l2, l3, some (v_i x4), some (v_i x5)] [] (p_i (p_i h 52 (Int32.toNatClampNeg (h_i h 51 3)) x4) 51 3 ((h_i (p_i h 52 (Int32.toNatClampNeg (h_i h 51 3)) x4) 51 3) + (1 : Int32))) Q) := by
  have e0 : h_r h 51 2 = some 52 := la_r Lh (q := (51, 2, 52)) (by decide)
  unfold ex_
  refine (am_Y_go 15 (ok := [am_is h (some 51) 10, am_is h (some 51) 10, am_ar h ((h_r h 51 2)) 20 (h_i h 51 3), am_is h (some 51) 10, am_is h (some 51) 10]) (g := (if ¬ x5 = (1 : Int32) then 136 else 135, [some (v_r (some 51)), l1, l2, l3, some (v_i x4), some (v_i x5)], [], (p_i (p_i h ((h_r h 51 2).getD 0) (Int32.toNatClampNeg (h_i h 51 3)) x4) 51 3 ((h_i (p_i h ((h_r h 51 2).getD 0) (Int32.toNatClampNeg (h_i h 51 3)) x4) 51 3) + (1 : Int32))))) rfl).trans ?_
  simp only [e0, Option.getD_some, am_all]
  all_goals exact cj_d (la_is Lh (o := 51) rfl) (cj_d (la_is Lh (o := 51) rfl) (cj_k (la_ar Lh (o := 52) rfl) (cj_d (la_is Lh (o := 51) rfl) (cj_d (la_is Lh (o := 51) rfl) (am_Y_if)))))

theorem b_X10_trace_94 {d : Nat} {Q : Option am_V → am_H → Prop} (h : am_H) (l1 l2 l3 l4 l5 : Option am_V) (Lh : Lay h) : ex_ (d + 1) 155 94 [some (v_r (some 51)), l1, l2, l3, l4, l5] [] h Q ↔ ex_ d 154 0 [some (v_r (some 51)), some (v_r (h_r h 10 2)), none, none, none, none] [] h (fun r h' => ex_ (d + 1) 155 105 [some (v_r (some 51)), l1, l2, l3, l4, l5] (r.toList ++ []) h' Q) := by
  have e0 : h_r h 51 0 = some 10 := la_r Lh (q := (51, 0, 10)) (by decide)
  unfold ex_
  refine (am_Y_go 4 (ok := [am_is h (some 51) 10, am_is h ((h_r h 51 0)) 2]) (g := (102, [some (v_r (some 51)), l1, l2, l3, l4, l5], [v_r (h_r h ((h_r h 51 0).getD 0) 2), v_r (some 51)], h)) rfl).trans ?_
  simp only [e0, Option.getD_some, am_all]
  all_goals exact cj_d (la_is Lh (o := 51) rfl) (cj_d (la_is Lh (o := 10) rfl) (((am_Y_call (j := 154) (na := 2) (ci := 10) (fl := 0) rfl rfl rfl).trans (cj_d ⟨⟨Nat.le_of_ble_eq_true rfl, Nat.le_of_ble_eq_true rfl, Nat.le_of_ble_eq_true rfl, rfl⟩, Or.inr (Or.inr (show (10 : Nat) < 20 ∧ am_is h (some 51) 10 from ⟨by decide, (la_is Lh (o := 51) rfl)⟩))⟩ Iff.rfl))))

theorem b_X10_trace_135 {d : Nat} {Q : Option am_V → am_H → Prop} (h : am_H) (l0 l1 l2 l3 l4 l5 : Option am_V) : ex_ d 155 135 [l0, l1, l2, l3, l4, l5] [] h Q ↔ Q (none) h := by
  unfold ex_
  exact ((am_Y_ret rfl rfl rfl).trans (am_rz rfl))

theorem b_X10_trace_105 {d : Nat} {Q : Option am_V → am_H → Prop} (h : am_H) (s0 : Int32) (l0 l1 l2 l3 l4 l5 : Option am_V) : ex_ d 155 105 [l0, l1, l2, l3, l4, l5] [v_i s0] h Q ↔ if s0 = 0 then ex_ d 155 136 [l0, l1, l2, l3, l4, l5] [] h Q else ex_ d 155 108 [l0, l1, l2, l3, l4, l5] [] h Q := by
  unfold ex_
  refine (am_Y_go 1 (ok := []) (g := (if s0 = 0 then 136 else 108, [l0, l1, l2, l3, l4, l5], [], h)) rfl).trans ?_
  all_goals exact am_Y_if

theorem b_X10_passed_0 {d : Nat} {Q : Option am_V → am_H → Prop} (h : am_H) (x1 : Int32) (l0 : Option am_V) : ex_ d 156 0 [l0, some (v_i x1)] [] h Q ↔ if x1 < 0 then ex_ d 156 41 [l0, some (v_i x1)] [] h Q else ex_ d 156 4 [l0, some (v_i x1)] [] h Q := by
  unfold ex_
  refine (am_Y_go 2 (ok := []) (g := (if x1 < 0 then 41 else 4, [l0, some (v_i x1)], [], h)) rfl).trans ?_
  all_goals exact am_Y_if

theorem b_X10_passed_41 {d : Nat} {Q : Option am_V → am_H → Prop} (h : am_H) (l0 l1 : Option am_V) : ex_ d 156 41 [l0, l1] [] h Q ↔ Q (some (v_i (-1 : Int32))) h := by
  unfold ex_
  refine (am_Y_go 1 (ok := []) (g := (42, [l0, l1], [v_i (-1 : Int32)], h)) rfl).trans ?_
  all_goals exact ((am_Y_ret rfl rfl rfl).trans (am_r0))

theorem b_X10_passed_4 {d : Nat} {Q : Option am_V → am_H → Prop} (h : am_H) (x1 : Int32) (Lh : Lay h) : ex_ d 156 4 [some (v_r (some 51)), some (v_i x1)] [] h Q ↔ if (h_i h 51 3) ≤ x1 then ex_ d 156 41 [some (v_r (some 51)), some (v_i x1)] [] h Q else ex_ d 156 12 [some (v_r (some 51)), some (v_i x1)] [] h Q := by
  unfold ex_
  refine (am_Y_go 4 (ok := [am_is h (some 51) 10]) (g := (if (h_i h 51 3) ≤ x1 then 41 else 12, [some (v_r (some 51)), some (v_i x1)], [], h)) rfl).trans ?_
  simp only [am_all]
  all_goals exact cj_d (la_is Lh (o := 51) rfl) (am_Y_if)

theorem b_X10_passed_12 {d : Nat} {Q : Option am_V → am_H → Prop} (h : am_H) (x1 : Int32) (Lh : Lay h) : ex_ d 156 12 [some (v_r (some 51)), some (v_i x1)] [] h Q ↔ if (nI 10) ≤ x1 then ex_ d 156 41 [some (v_r (some 51)), some (v_i x1)] [] h Q else ex_ d 156 21 [some (v_r (some 51)), some (v_i x1)] [] h Q := by
  have e0 : h_r h 51 2 = some 52 := la_r Lh (q := (51, 2, 52)) (by decide)
  have e1 : h_l h 52 = 10 := (la_l Lh (o := 52) rfl)
  unfold ex_
  refine (am_Y_go 5 (ok := [am_is h (some 51) 10, am_an h ((h_r h 51 2))]) (g := (if (nI (h_l h ((h_r h 51 2).getD 0))) ≤ x1 then 41 else 21, [some (v_r (some 51)), some (v_i x1)], [], h)) rfl).trans ?_
  simp only [e0, e1, Option.getD_some, am_all]
  all_goals exact cj_d (la_is Lh (o := 51) rfl) (cj_d (la_an20 Lh (o := 52) rfl) (am_Y_if))

theorem b_X10_passed_21 {d : Nat} {Q : Option am_V → am_H → Prop} (h : am_H) (x1 : Int32) (Lh : Lay h) : ex_ (d + 1) 156 21 [some (v_r (some 51)), some (v_i x1)] [] h Q ↔ vp_in x1 10 ∧ ex_ d 10 0 [some (v_r (some 15)), some (v_i (h_i h 51 10)), some (v_i (h_i h 52 (Int32.toNatClampNeg x1)))] [] h (fun r h' => ex_ (d + 1) 156 38 [some (v_r (some 51)), some (v_i x1)] (r.toList ++ []) h' Q) := by
  have e0 : h_r h 51 1 = some 15 := la_r Lh (q := (51, 1, 15)) (by decide)
  have e1 : h_r h 51 2 = some 52 := la_r Lh (q := (51, 2, 52)) (by decide)
  unfold ex_
  refine (am_Y_go 8 (ok := [am_is h (some 51) 10, am_is h (some 51) 10, am_is h (some 51) 10, am_ar h ((h_r h 51 2)) 20 x1]) (g := (35, [some (v_r (some 51)), some (v_i x1)], [v_i (h_i h ((h_r h 51 2).getD 0) (Int32.toNatClampNeg x1)), v_i (h_i h 51 10), v_r ((h_r h 51 1))], h)) rfl).trans ?_
  simp only [e0, e1, Option.getD_some, am_all]
  all_goals exact cj_d (la_is Lh (o := 51) rfl) (cj_d (la_is Lh (o := 51) rfl) (cj_d (la_is Lh (o := 51) rfl) (cj_k (la_ar Lh (o := 52) rfl) (((am_Y_call (j := 10) (na := 3) (ci := 6) (fl := 0) rfl rfl rfl).trans (cj_d ⟨⟨Nat.le_of_ble_eq_true rfl, Nat.le_of_ble_eq_true rfl, Nat.le_of_ble_eq_true rfl, rfl⟩, Or.inr (Or.inr (show (6 : Nat) < 20 ∧ am_is h (some 15) 6 from ⟨by decide, (la_is Lh (o := 15) rfl)⟩))⟩ Iff.rfl))))))

theorem b_X10_passed_38 {d : Nat} {Q : Option am_V → am_H → Prop} (h : am_H) (s0 : Int32) (l0 l1 : Option am_V) : ex_ d 156 38 [l0, l1] [v_i s0] h Q ↔ Q (some (v_i s0)) h := by
  unfold ex_
  refine (am_Y_go 1 (ok := []) (g := (42, [l0, l1], [v_i s0], h)) rfl).trans ?_
  all_goals exact ((am_Y_ret rfl rfl rfl).trans (am_r0))

theorem b_X10_answer_0 {d : Nat} {Q : Option am_V → am_H → Prop} (h : am_H) (x1 : Int32) (x2 : Int32) (x3 : Int32) (l4 : Option am_V) (Lh : Lay h) : ex_ (d + 1) 157 0 [some (v_r (some 51)), some (v_i x1), some (v_i x2), some (v_i x3), l4] [] h Q ↔ ex_ d 155 0 [some (v_r (some 51)), some (v_i x1), some (v_i x2), some (v_i x3), none, none] [] h (fun r h' => ex_ (d + 1) 157 7 [some (v_r (some 51)), some (v_i x1), some (v_i x2), some (v_i x3), l4] (r.toList ++ []) h' Q) := by
  unfold ex_
  refine (am_Y_go 4 (ok := []) (g := (4, [some (v_r (some 51)), some (v_i x1), some (v_i x2), some (v_i x3), l4], [v_i x3, v_i x2, v_i x1, v_r (some 51)], h)) rfl).trans ?_
  all_goals exact ((am_Y_call (j := 155) (na := 4) (ci := 10) (fl := 0) rfl rfl rfl).trans (cj_d ⟨⟨Nat.le_of_ble_eq_true rfl, Nat.le_of_ble_eq_true rfl, Nat.le_of_ble_eq_true rfl, rfl⟩, Or.inr (Or.inr (show (10 : Nat) < 20 ∧ am_is h (some 51) 10 from ⟨by decide, (la_is Lh (o := 51) rfl)⟩))⟩ Iff.rfl))

theorem b_X10_answer_7 {d : Nat} {Q : Option am_V → am_H → Prop} (h : am_H) (l1 l2 l3 l4 : Option am_V) (Lh : Lay h) : ex_ d 157 7 [some (v_r (some 51)), l1, l2, l3, l4] [] h Q ↔ if ¬ (h_i h 51 3) = 0 then ex_ d 157 17 [some (v_r (some 51)), l1, l2, l3, l4] [] h Q else ex_ d 157 14 [some (v_r (some 51)), l1, l2, l3, l4] [] h Q := by
  unfold ex_
  refine (am_Y_go 3 (ok := [am_is h (some 51) 10]) (g := (if ¬ (h_i h 51 3) = 0 then 17 else 14, [some (v_r (some 51)), l1, l2, l3, l4], [], h)) rfl).trans ?_
  simp only [am_all]
  all_goals exact cj_d (la_is Lh (o := 51) rfl) (am_Y_if)

theorem b_X10_answer_17 {d : Nat} {Q : Option am_V → am_H → Prop} (h : am_H) (l1 l2 l3 l4 : Option am_V) (Lh : Lay h) : ex_ d 157 17 [some (v_r (some 51)), l1, l2, l3, l4] [] h Q ↔ ex_ d 157 38 [some (v_r (some 51)), l1, l2, l3, some (v_i ((if (nI 10) < (h_i (p_i h 51 12 (0 : Int32)) 51 3) then (nI 10) else (h_i (p_i h 51 12 (0 : Int32)) 51 3)) - (1 : Int32)))] [] (p_i h 51 12 (0 : Int32)) Q := by
  have e0 : h_r h 51 2 = some 52 := la_r Lh (q := (51, 2, 52)) (by decide)
  have e1 : h_l h 52 = 10 := (la_l Lh (o := 52) rfl)
  unfold ex_
  refine (am_Y_go 12 (ok := [am_is h (some 51) 10, am_is h (some 51) 10, am_is h (some 51) 10, am_an h ((h_r h 51 2))]) (g := (38, [some (v_r (some 51)), l1, l2, l3, some (v_i ((if (nI (h_l h ((h_r h 51 2).getD 0))) < (h_i (p_i h 51 12 (0 : Int32)) 51 3) then (nI (h_l h ((h_r h 51 2).getD 0))) else (h_i (p_i h 51 12 (0 : Int32)) 51 3)) - (1 : Int32)))], [], (p_i h 51 12 (0 : Int32)))) rfl).trans ?_
  simp only [e0, e1, Option.getD_some, am_all]
  all_goals exact cj_d (la_is Lh (o := 51) rfl) (cj_d (la_is Lh (o := 51) rfl) (cj_d (la_is Lh (o := 51) rfl) (cj_d (la_an20 Lh (o := 52) rfl) (Iff.rfl))))

theorem b_X10_answer_14 {d : Nat} {Q : Option am_V → am_H → Prop} (h : am_H) (l0 l1 l2 l3 l4 : Option am_V) : ex_ d 157 14 [l0, l1, l2, l3, l4] [] h Q ↔ Q (some (v_i (-99000001 : Int32))) h := by
  unfold ex_
  refine (am_Y_go 1 (ok := []) (g := (16, [l0, l1, l2, l3, l4], [v_i (-99000001 : Int32)], h)) rfl).trans ?_
  all_goals exact ((am_Y_ret rfl rfl rfl).trans (am_r0))

theorem b_X10_answer_38 {d : Nat} {Q : Option am_V → am_H → Prop} (h : am_H) (x4 : Int32) (l0 l1 l2 l3 : Option am_V) : ex_ d 157 38 [l0, l1, l2, l3, some (v_i x4)] [] h Q ↔ if x4 < 0 then ex_ d 157 128 [l0, l1, l2, l3, some (v_i x4)] [] h Q else ex_ d 157 43 [l0, l1, l2, l3, some (v_i x4)] [] h Q := by
  unfold ex_
  refine (am_Y_go 2 (ok := []) (g := (if x4 < 0 then 128 else 43, [l0, l1, l2, l3, some (v_i x4)], [], h)) rfl).trans ?_
  all_goals exact am_Y_if

theorem b_X10_answer_128 {d : Nat} {Q : Option am_V → am_H → Prop} (h : am_H) (l1 l2 l3 l4 : Option am_V) (Lh : Lay h) : ex_ d 157 128 [some (v_r (some 51)), l1, l2, l3, l4] [] h Q ↔ Q (some (v_i (h_i h 51 12))) h := by
  unfold ex_
  refine (am_Y_go 2 (ok := [am_is h (some 51) 10]) (g := (132, [some (v_r (some 51)), l1, l2, l3, l4], [v_i (h_i h 51 12)], h)) rfl).trans ?_
  simp only [am_all]
  all_goals exact cj_d (la_is Lh (o := 51) rfl) (((am_Y_ret rfl rfl rfl).trans (am_r0)))

theorem b_X10_answer_43 {d : Nat} {Q : Option am_V → am_H → Prop} (h : am_H) (x4 : Int32) (x1 : Int32) (l2 l3 : Option am_V) (Lh : Lay h) : ex_ (d + 1) 157 43 [some (v_r (some 51)), some (v_i x1), l2, l3, some (v_i x4)] [] h Q ↔ vp_in x4 10 ∧ ex_ d 10 0 [some (v_r (some 15)), some (v_i x1), some (v_i (h_i (p_i h 51 13 (h_i h 52 (Int32.toNatClampNeg x4))) 51 13))] [] (p_i h 51 13 (h_i h 52 (Int32.toNatClampNeg x4))) (fun r h' => ex_ (d + 1) 157 67 [some (v_r (some 51)), some (v_i x1), l2, l3, some (v_i x4)] (r.toList ++ [v_r (some 51)]) h' Q) := by
  have e0 : h_r h 51 2 = some 52 := la_r Lh (q := (51, 2, 52)) (by decide)
  have e1 : h_r h 51 1 = some 15 := la_r Lh (q := (51, 1, 15)) (by decide)
  unfold ex_
  refine (am_Y_go 12 (ok := [am_is h (some 51) 10, am_ar h ((h_r h 51 2)) 20 x4, am_is h (some 51) 10, am_is h (some 51) 10, am_is h (some 51) 10]) (g := (64, [some (v_r (some 51)), some (v_i x1), l2, l3, some (v_i x4)], [v_i (h_i (p_i h 51 13 (h_i h ((h_r h 51 2).getD 0) (Int32.toNatClampNeg x4))) 51 13), v_i x1, v_r ((h_r h 51 1)), v_r (some 51)], (p_i h 51 13 (h_i h ((h_r h 51 2).getD 0) (Int32.toNatClampNeg x4))))) rfl).trans ?_
  simp only [e0, e1, Option.getD_some, am_all]
  all_goals exact cj_d (la_is Lh (o := 51) rfl) (cj_k (la_ar Lh (o := 52) rfl) (cj_d (la_is Lh (o := 51) rfl) (cj_d (la_is Lh (o := 51) rfl) (cj_d (la_is Lh (o := 51) rfl) (((am_Y_call (j := 10) (na := 3) (ci := 6) (fl := 0) rfl rfl rfl).trans (cj_d ⟨⟨Nat.le_of_ble_eq_true rfl, Nat.le_of_ble_eq_true rfl, Nat.le_of_ble_eq_true rfl, rfl⟩, Or.inr (Or.inr (show (6 : Nat) < 20 ∧ am_is h (some 15) 6 from ⟨by decide, (la_is Lh (o := 15) rfl)⟩))⟩ Iff.rfl)))))))

theorem b_X10_answer_67 {d : Nat} {Q : Option am_V → am_H → Prop} (h : am_H) (s0 : Int32) (l1 l2 l3 l4 : Option am_V) (Lh : Lay h) : ex_ d 157 67 [some (v_r (some 51)), l1, l2, l3, l4] [v_i s0, v_r (some 51)] h Q ↔ if (h_r h 10 1) = none then ex_ d 157 81 [some (v_r (some 51)), l1, l2, l3, l4] [v_r (some 51)] (p_i h 51 9 s0) Q else ex_ d 157 108 [some (v_r (some 51)), l1, l2, l3, l4] [v_r (some 51)] (p_i h 51 9 s0) Q := by
  have e0 : h_r h 51 0 = some 10 := la_r Lh (q := (51, 0, 10)) (by decide)
  unfold ex_
  refine (am_Y_go 6 (ok := [am_is h (some 51) 10, am_is h (some 51) 10, am_is h ((h_r h 51 0)) 2]) (g := (if (h_r h ((h_r h 51 0).getD 0) 1) = none then 81 else 108, [some (v_r (some 51)), l1, l2, l3, l4], [v_r (some 51)], (p_i h 51 9 s0))) rfl).trans ?_
  simp only [e0, Option.getD_some, am_all]
  all_goals exact cj_d (la_is Lh (o := 51) rfl) (cj_d (la_is Lh (o := 51) rfl) (cj_d (la_is Lh (o := 10) rfl) (am_Y_if)))

theorem b_X10_answer_81 {d : Nat} {Q : Option am_V → am_H → Prop} (h : am_H) (l1 l2 l3 l4 : Option am_V) (Lh : Lay h) : ex_ (d + 1) 157 81 [some (v_r (some 51)), l1, l2, l3, l4] [v_r (some 51)] h Q ↔ ex_ d 152 0 [some (v_l ((((10 : Int64) * (Int32.toInt64 (h_i h 51 9))) + (Int32.toInt64 (h_i h 51 8))) + (Int32.toInt64 (h_i h 51 12)))), none] [] h (fun r h' => ex_ (d + 1) 157 105 [some (v_r (some 51)), l1, l2, l3, l4] (r.toList ++ [v_r (some 51)]) h' Q) := by
  unfold ex_
  refine (am_Y_go 13 (ok := [am_is h (some 51) 10, am_is h (some 51) 10, am_is h (some 51) 10]) (g := (102, [some (v_r (some 51)), l1, l2, l3, l4], [v_l ((((10 : Int64) * (Int32.toInt64 (h_i h 51 9))) + (Int32.toInt64 (h_i h 51 8))) + (Int32.toInt64 (h_i h 51 12))), v_r (some 51)], h)) rfl).trans ?_
  simp only [am_all]
  all_goals exact cj_d (la_is Lh (o := 51) rfl) (cj_d (la_is Lh (o := 51) rfl) (cj_d (la_is Lh (o := 51) rfl) (((am_Y_call (j := 152) (na := 1) (ci := 10) (fl := 2) rfl rfl rfl).trans (cj_d ⟨⟨Nat.le_of_ble_eq_true rfl, Nat.le_of_ble_eq_true rfl, Nat.le_of_ble_eq_true rfl, rfl⟩, Or.inl rfl⟩ Iff.rfl)))))

theorem b_X10_answer_108 {d : Nat} {Q : Option am_V → am_H → Prop} (h : am_H) (l1 l2 l3 l4 : Option am_V) (Lh : Lay h) : ex_ (d + 1) 157 108 [some (v_r (some 51)), l1, l2, l3, l4] [v_r (some 51)] h Q ↔ ex_ d 154 0 [some (v_r (some 51)), some (v_r (h_r h 10 1)), none, none, none, none] [] h (fun r h' => ex_ (d + 1) 157 119 [some (v_r (some 51)), l1, l2, l3, l4] (r.toList ++ [v_r (some 51)]) h' Q) := by
  have e0 : h_r h 51 0 = some 10 := la_r Lh (q := (51, 0, 10)) (by decide)
  unfold ex_
  refine (am_Y_go 4 (ok := [am_is h (some 51) 10, am_is h ((h_r h 51 0)) 2]) (g := (116, [some (v_r (some 51)), l1, l2, l3, l4], [v_r (h_r h ((h_r h 51 0).getD 0) 1), v_r (some 51), v_r (some 51)], h)) rfl).trans ?_
  simp only [e0, Option.getD_some, am_all]
  all_goals exact cj_d (la_is Lh (o := 51) rfl) (cj_d (la_is Lh (o := 10) rfl) (((am_Y_call (j := 154) (na := 2) (ci := 10) (fl := 0) rfl rfl rfl).trans (cj_d ⟨⟨Nat.le_of_ble_eq_true rfl, Nat.le_of_ble_eq_true rfl, Nat.le_of_ble_eq_true rfl, rfl⟩, Or.inr (Or.inr (show (10 : Nat) < 20 ∧ am_is h (some 51) 10 from ⟨by decide, (la_is Lh (o := 51) rfl)⟩))⟩ Iff.rfl))))

theorem b_X10_answer_105 {d : Nat} {Q : Option am_V → am_H → Prop} (h : am_H) (s0 : Int32) (x4 : Int32) (l0 l1 l2 l3 : Option am_V) (Lh : Lay h) : ex_ d 157 105 [l0, l1, l2, l3, some (v_i x4)] [v_i s0, v_r (some 51)] h Q ↔ ex_ d 157 38 [l0, l1, l2, l3, some (v_i (x4 + (-1 : Int32)))] [] (p_i h 51 12 s0) Q := by
  unfold ex_
  refine (am_Y_go 4 (ok := [am_is h (some 51) 10]) (g := (38, [l0, l1, l2, l3, some (v_i (x4 + (-1 : Int32)))], [], (p_i h 51 12 s0))) rfl).trans ?_
  simp only [am_all]
  all_goals exact cj_d (la_is Lh (o := 51) rfl) (Iff.rfl)

theorem b_X10_answer_119 {d : Nat} {Q : Option am_V → am_H → Prop} (h : am_H) (s0 : Int32) (x4 : Int32) (l0 l1 l2 l3 : Option am_V) (Lh : Lay h) : ex_ d 157 119 [l0, l1, l2, l3, some (v_i x4)] [v_i s0, v_r (some 51)] h Q ↔ ex_ d 157 38 [l0, l1, l2, l3, some (v_i (x4 + (-1 : Int32)))] [] (p_i h 51 12 s0) Q := by
  unfold ex_
  refine (am_Y_go 3 (ok := [am_is h (some 51) 10]) (g := (38, [l0, l1, l2, l3, some (v_i (x4 + (-1 : Int32)))], [], (p_i h 51 12 s0))) rfl).trans ?_
  simp only [am_all]
  all_goals exact cj_d (la_is Lh (o := 51) rfl) (Iff.rfl)

theorem b_X10_mostAlike_0 {d : Nat} {Q : Option am_V → am_H → Prop} (h : am_H) (l0 l1 l2 l3 l4 l5 l6 l7 l8 : Option am_V) : ex_ d 158 0 [l0, l1, l2, l3, l4, l5, l6, l7, l8] [] h Q ↔ ex_ d 158 6 [l0, l1, l2, l3, some (v_i (0 : Int32)), some (v_i (0 : Int32)), l6, l7, l8] [] h Q := by
  unfold ex_
  refine (am_Y_go 4 (ok := []) (g := (6, [l0, l1, l2, l3, some (v_i (0 : Int32)), some (v_i (0 : Int32)), l6, l7, l8], [], h)) rfl).trans ?_
  all_goals exact Iff.rfl

theorem b_X10_mostAlike_6 {d : Nat} {Q : Option am_V → am_H → Prop} (h : am_H) (x5 : Int32) (l0 l1 l2 l3 l4 l6 l7 l8 : Option am_V) : ex_ d 158 6 [l0, l1, l2, l3, l4, some (v_i x5), l6, l7, l8] [] h Q ↔ if (10 : Int32) ≤ x5 then ex_ d 158 56 [l0, l1, l2, l3, l4, some (v_i x5), l6, l7, l8] [] h Q else ex_ d 158 13 [l0, l1, l2, l3, l4, some (v_i x5), l6, l7, l8] [] h Q := by
  unfold ex_
  refine (am_Y_go 3 (ok := []) (g := (if (10 : Int32) ≤ x5 then 56 else 13, [l0, l1, l2, l3, l4, some (v_i x5), l6, l7, l8], [], h)) rfl).trans ?_
  all_goals exact am_Y_if

theorem b_X10_mostAlike_56 {d : Nat} {Q : Option am_V → am_H → Prop} (h : am_H) (l0 l1 l2 l3 l4 l5 l6 l7 l8 : Option am_V) : ex_ d 158 56 [l0, l1, l2, l3, l4, l5, l6, l7, l8] [] h Q ↔ ex_ d 158 62 [l0, l1, l2, l3, l4, some (v_i (0 : Int32)), some (v_i (0 : Int32)), l7, l8] [] h Q := by
  unfold ex_
  refine (am_Y_go 4 (ok := []) (g := (62, [l0, l1, l2, l3, l4, some (v_i (0 : Int32)), some (v_i (0 : Int32)), l7, l8], [], h)) rfl).trans ?_
  all_goals exact Iff.rfl

theorem b_X10_mostAlike_13 {d : Nat} {Q : Option am_V → am_H → Prop} (h : am_H) (x3 : Int32) (x5 : Int32) (l0 l1 l2 l4 l6 l7 l8 : Option am_V) : ex_ d 158 13 [l0, l1, l2, some (v_i x3), l4, some (v_i x5), l6, l7, l8] [] h Q ↔ if ((x3 >>> (x5 &&& 31)) &&& (1 : Int32)) = 0 then ex_ d 158 50 [l0, l1, l2, some (v_i x3), l4, some (v_i x5), l6, l7, l8] [] h Q else ex_ d 158 22 [l0, l1, l2, some (v_i x3), l4, some (v_i x5), l6, l7, l8] [] h Q := by
  unfold ex_
  refine (am_Y_go 6 (ok := []) (g := (if ((x3 >>> (x5 &&& 31)) &&& (1 : Int32)) = 0 then 50 else 22, [l0, l1, l2, some (v_i x3), l4, some (v_i x5), l6, l7, l8], [], h)) rfl).trans ?_
  all_goals exact am_Y_if

theorem b_X10_mostAlike_62 {d : Nat} {Q : Option am_V → am_H → Prop} (h : am_H) (x6 : Int32) (x4 : Int32) (l0 l1 l2 l3 l5 l7 l8 : Option am_V) : ex_ d 158 62 [l0, l1, l2, l3, some (v_i x4), l5, some (v_i x6), l7, l8] [] h Q ↔ if x4 ≤ x6 then ex_ d 158 123 [l0, l1, l2, l3, some (v_i x4), l5, some (v_i x6), l7, l8] [] h Q else ex_ d 158 69 [l0, l1, l2, l3, some (v_i x4), l5, some (v_i x6), l7, l8] [] h Q := by
  unfold ex_
  refine (am_Y_go 3 (ok := []) (g := (if x4 ≤ x6 then 123 else 69, [l0, l1, l2, l3, some (v_i x4), l5, some (v_i x6), l7, l8], [], h)) rfl).trans ?_
  all_goals exact am_Y_if

theorem b_X10_mostAlike_50 {d : Nat} {Q : Option am_V → am_H → Prop} (h : am_H) (x5 : Int32) (l0 l1 l2 l3 l4 l6 l7 l8 : Option am_V) : ex_ d 158 50 [l0, l1, l2, l3, l4, some (v_i x5), l6, l7, l8] [] h Q ↔ ex_ d 158 6 [l0, l1, l2, l3, l4, some (v_i (x5 + (1 : Int32))), l6, l7, l8] [] h Q := by
  unfold ex_
  refine (am_Y_go 2 (ok := []) (g := (6, [l0, l1, l2, l3, l4, some (v_i (x5 + (1 : Int32))), l6, l7, l8], [], h)) rfl).trans ?_
  all_goals exact Iff.rfl

theorem b_X10_mostAlike_22 {d : Nat} {Q : Option am_V → am_H → Prop} (h : am_H) (x4 : Int32) (l1 l2 l3 l5 l6 l7 l8 : Option am_V) (Lh : Lay h) : ex_ d 158 22 [some (v_r (some 51)), l1, l2, l3, some (v_i x4), l5, l6, l7, l8] [] h Q ↔ if (nI 10) ≤ x4 then ex_ d 158 50 [some (v_r (some 51)), l1, l2, l3, some (v_i x4), l5, l6, l7, l8] [] h Q else ex_ d 158 32 [some (v_r (some 51)), l1, l2, l3, some (v_i x4), l5, l6, l7, l8] [] h Q := by
  have e0 : h_r h 51 5 = some 54 := la_r Lh (q := (51, 5, 54)) (by decide)
  have e1 : h_l h 54 = 10 := (la_l Lh (o := 54) rfl)
  unfold ex_
  refine (am_Y_go 5 (ok := [am_is h (some 51) 10, am_an h ((h_r h 51 5))]) (g := (if (nI (h_l h ((h_r h 51 5).getD 0))) ≤ x4 then 50 else 32, [some (v_r (some 51)), l1, l2, l3, some (v_i x4), l5, l6, l7, l8], [], h)) rfl).trans ?_
  simp only [e0, e1, Option.getD_some, am_all]
  all_goals exact cj_d (la_is Lh (o := 51) rfl) (cj_d (la_an20 Lh (o := 54) rfl) (am_Y_if))

theorem b_X10_mostAlike_123 {d : Nat} {Q : Option am_V → am_H → Prop} (h : am_H) (x5 : Int32) (l0 l1 l2 l3 l4 l6 l7 l8 : Option am_V) : ex_ d 158 123 [l0, l1, l2, l3, l4, some (v_i x5), l6, l7, l8] [] h Q ↔ Q (some (v_i x5)) h := by
  unfold ex_
  refine (am_Y_go 1 (ok := []) (g := (125, [l0, l1, l2, l3, l4, some (v_i x5), l6, l7, l8], [v_i x5], h)) rfl).trans ?_
  all_goals exact ((am_Y_ret rfl rfl rfl).trans (am_r0))

theorem b_X10_mostAlike_69 {d : Nat} {Q : Option am_V → am_H → Prop} (h : am_H) (l0 l1 l2 l3 l4 l5 l6 l7 l8 : Option am_V) : ex_ d 158 69 [l0, l1, l2, l3, l4, l5, l6, l7, l8] [] h Q ↔ ex_ d 158 75 [l0, l1, l2, l3, l4, l5, l6, some (v_i (0 : Int32)), some (v_i (0 : Int32))] [] h Q := by
  unfold ex_
  refine (am_Y_go 4 (ok := []) (g := (75, [l0, l1, l2, l3, l4, l5, l6, some (v_i (0 : Int32)), some (v_i (0 : Int32))], [], h)) rfl).trans ?_
  all_goals exact Iff.rfl

theorem b_X10_mostAlike_32 {d : Nat} {Q : Option am_V → am_H → Prop} (h : am_H) (x4 : Int32) (x1 : Int32) (x2 : Int32) (x5 : Int32) (l3 l6 l7 l8 : Option am_V) (Lh : Lay h) : ex_ (d + 1) 158 32 [some (v_r (some 51)), some (v_i x1), some (v_i x2), l3, some (v_i x4), some (v_i x5), l6, l7, l8] [] h Q ↔ ex_ d 157 0 [some (v_r (some 51)), some (v_i x1), some (v_i x2), some (v_i x5), none] [] h (fun r h' => ex_ (d + 1) 158 46 [some (v_r (some 51)), some (v_i x1), some (v_i x2), l3, some (v_i x4), some (v_i x5), l6, l7, l8] (r.toList ++ [v_i x4, v_r (some 54)]) h' Q) := by
  have e0 : h_r h 51 5 = some 54 := la_r Lh (q := (51, 5, 54)) (by decide)
  unfold ex_
  refine (am_Y_go 7 (ok := [am_is h (some 51) 10]) (g := (43, [some (v_r (some 51)), some (v_i x1), some (v_i x2), l3, some (v_i x4), some (v_i x5), l6, l7, l8], [v_i x5, v_i x2, v_i x1, v_r (some 51), v_i x4, v_r ((h_r h 51 5))], h)) rfl).trans ?_
  simp only [e0, Option.getD_some, am_all]
  all_goals exact cj_d (la_is Lh (o := 51) rfl) (((am_Y_call (j := 157) (na := 4) (ci := 10) (fl := 0) rfl rfl rfl).trans (cj_d ⟨⟨Nat.le_of_ble_eq_true rfl, Nat.le_of_ble_eq_true rfl, Nat.le_of_ble_eq_true rfl, rfl⟩, Or.inr (Or.inr (show (10 : Nat) < 20 ∧ am_is h (some 51) 10 from ⟨by decide, (la_is Lh (o := 51) rfl)⟩))⟩ Iff.rfl)))

theorem b_X10_mostAlike_75 {d : Nat} {Q : Option am_V → am_H → Prop} (h : am_H) (x8 : Int32) (x4 : Int32) (l0 l1 l2 l3 l5 l6 l7 : Option am_V) : ex_ d 158 75 [l0, l1, l2, l3, some (v_i x4), l5, l6, l7, some (v_i x8)] [] h Q ↔ if x4 ≤ x8 then ex_ d 158 108 [l0, l1, l2, l3, some (v_i x4), l5, l6, l7, some (v_i x8)] [] h Q else ex_ d 158 82 [l0, l1, l2, l3, some (v_i x4), l5, l6, l7, some (v_i x8)] [] h Q := by
  unfold ex_
  refine (am_Y_go 3 (ok := []) (g := (if x4 ≤ x8 then 108 else 82, [l0, l1, l2, l3, some (v_i x4), l5, l6, l7, some (v_i x8)], [], h)) rfl).trans ?_
  all_goals exact am_Y_if

theorem b_X10_mostAlike_46 {d : Nat} {Q : Option am_V → am_H → Prop} (h : am_H) (s0 : Int32) (s1 : Int32) (t2 : Nat) (x4 : Int32) (x5 : Int32) (l0 l1 l2 l3 l6 l7 l8 : Option am_V) {n_t2 : Nat} (A_t2 : y_arr h t2 20 n_t2) : ex_ d 158 46 [l0, l1, l2, l3, some (v_i x4), some (v_i x5), l6, l7, l8] [v_i s0, v_i s1, v_r (some t2)] h Q ↔ vp_in s1 n_t2 ∧ ex_ d 158 6 [l0, l1, l2, l3, some (v_i (x4 + (1 : Int32))), some (v_i (x5 + (1 : Int32))), l6, l7, l8] [] (p_i h t2 (Int32.toNatClampNeg s1) s0) Q := by
  unfold ex_
  refine (am_Y_go 4 (ok := [am_ar h (some t2) 20 s1]) (g := (6, [l0, l1, l2, l3, some (v_i (x4 + (1 : Int32))), some (v_i (x5 + (1 : Int32))), l6, l7, l8], [], (p_i h t2 (Int32.toNatClampNeg s1) s0))) rfl).trans ?_
  simp only [am_all]
  all_goals exact cj_k (lb_ar A_t2) (Iff.rfl)

theorem b_X10_mostAlike_108 {d : Nat} {Q : Option am_V → am_H → Prop} (h : am_H) (x5 : Int32) (x7 : Int32) (x6 : Int32) (l0 l1 l2 l3 l4 l8 : Option am_V) : ex_ d 158 108 [l0, l1, l2, l3, l4, some (v_i x5), some (v_i x6), some (v_i x7), l8] [] h Q ↔ ex_ d 158 62 [l0, l1, l2, l3, l4, some (v_i (if x5 < x7 then x7 else x5)), some (v_i (x6 + (1 : Int32))), some (v_i x7), l8] [] h Q := by
  unfold ex_
  refine (am_Y_go 6 (ok := []) (g := (62, [l0, l1, l2, l3, l4, some (v_i (if x5 < x7 then x7 else x5)), some (v_i (x6 + (1 : Int32))), some (v_i x7), l8], [], h)) rfl).trans ?_
  all_goals exact Iff.rfl

theorem b_X10_mostAlike_82 {d : Nat} {Q : Option am_V → am_H → Prop} (h : am_H) (x8 : Int32) (x6 : Int32) (l1 l2 l3 l4 l5 l7 : Option am_V) (Lh : Lay h) : ex_ d 158 82 [some (v_r (some 51)), l1, l2, l3, l4, l5, some (v_i x6), l7, some (v_i x8)] [] h Q ↔ vp_in x8 10 ∧ vp_in x6 10 ∧ (if ¬ (h_i h 54 (Int32.toNatClampNeg x8)) = (h_i h 54 (Int32.toNatClampNeg x6)) then ex_ d 158 102 [some (v_r (some 51)), l1, l2, l3, l4, l5, some (v_i x6), l7, some (v_i x8)] [] h Q else ex_ d 158 99 [some (v_r (some 51)), l1, l2, l3, l4, l5, some (v_i x6), l7, some (v_i x8)] [] h Q) := by
  have e0 : h_r h 51 5 = some 54 := la_r Lh (q := (51, 5, 54)) (by decide)
  unfold ex_
  refine (am_Y_go 9 (ok := [am_is h (some 51) 10, am_ar h ((h_r h 51 5)) 20 x8, am_is h (some 51) 10, am_ar h ((h_r h 51 5)) 20 x6]) (g := (if ¬ (h_i h ((h_r h 51 5).getD 0) (Int32.toNatClampNeg x8)) = (h_i h ((h_r h 51 5).getD 0) (Int32.toNatClampNeg x6)) then 102 else 99, [some (v_r (some 51)), l1, l2, l3, l4, l5, some (v_i x6), l7, some (v_i x8)], [], h)) rfl).trans ?_
  simp only [e0, Option.getD_some, am_all]
  all_goals exact cj_d (la_is Lh (o := 51) rfl) (cj_k (la_ar Lh (o := 54) rfl) (cj_d (la_is Lh (o := 51) rfl) (cj_k (la_ar Lh (o := 54) rfl) (am_Y_if))))

theorem b_X10_mostAlike_102 {d : Nat} {Q : Option am_V → am_H → Prop} (h : am_H) (x8 : Int32) (l0 l1 l2 l3 l4 l5 l6 l7 : Option am_V) : ex_ d 158 102 [l0, l1, l2, l3, l4, l5, l6, l7, some (v_i x8)] [] h Q ↔ ex_ d 158 75 [l0, l1, l2, l3, l4, l5, l6, l7, some (v_i (x8 + (1 : Int32)))] [] h Q := by
  unfold ex_
  refine (am_Y_go 2 (ok := []) (g := (75, [l0, l1, l2, l3, l4, l5, l6, l7, some (v_i (x8 + (1 : Int32)))], [], h)) rfl).trans ?_
  all_goals exact Iff.rfl

theorem b_X10_mostAlike_99 {d : Nat} {Q : Option am_V → am_H → Prop} (h : am_H) (x7 : Int32) (x8 : Int32) (l0 l1 l2 l3 l4 l5 l6 : Option am_V) : ex_ d 158 99 [l0, l1, l2, l3, l4, l5, l6, some (v_i x7), some (v_i x8)] [] h Q ↔ ex_ d 158 75 [l0, l1, l2, l3, l4, l5, l6, some (v_i (x7 + (1 : Int32))), some (v_i (x8 + (1 : Int32)))] [] h Q := by
  unfold ex_
  refine (am_Y_go 3 (ok := []) (g := (75, [l0, l1, l2, l3, l4, l5, l6, some (v_i (x7 + (1 : Int32))), some (v_i (x8 + (1 : Int32)))], [], h)) rfl).trans ?_
  all_goals exact Iff.rfl

theorem b_X10_markReached_0 {d : Nat} {Q : Option am_V → am_H → Prop} (h : am_H) (l1 l2 l3 : Option am_V) (Lh : Lay h) : ex_ (d + 1) 159 0 [some (v_r (some 51)), l1, l2, l3] [] h Q ↔ ex_ d 2 0 [some (v_r (some 53)), some (v_i (0 : Int32)), none, none] [] h (fun r h' => ex_ (d + 1) 159 8 [some (v_r (some 51)), l1, l2, l3] (r.toList ++ []) h' Q) := by
  have e0 : h_r h 51 4 = some 53 := la_r Lh (q := (51, 4, 53)) (by decide)
  unfold ex_
  refine (am_Y_go 3 (ok := [am_is h (some 51) 10]) (g := (5, [some (v_r (some 51)), l1, l2, l3], [v_i (0 : Int32), v_r ((h_r h 51 4))], h)) rfl).trans ?_
  simp only [e0, Option.getD_some, am_all]
  all_goals exact cj_d (la_is Lh (o := 51) rfl) (((am_Y_call (j := 2) (na := 2) (ci := 0) (fl := 2) rfl rfl rfl).trans (cj_d ⟨⟨Nat.le_of_ble_eq_true rfl, Nat.le_of_ble_eq_true rfl, Nat.le_of_ble_eq_true rfl, rfl⟩, Or.inl rfl⟩ Iff.rfl)))

theorem b_X10_markReached_8 {d : Nat} {Q : Option am_V → am_H → Prop} (h : am_H) (l0 l1 l2 l3 : Option am_V) : ex_ d 159 8 [l0, l1, l2, l3] [] h Q ↔ ex_ d 159 10 [l0, some (v_i (0 : Int32)), l2, l3] [] h Q := by
  unfold ex_
  refine (am_Y_go 2 (ok := []) (g := (10, [l0, some (v_i (0 : Int32)), l2, l3], [], h)) rfl).trans ?_
  all_goals exact Iff.rfl

theorem b_X10_markReached_10 {d : Nat} {Q : Option am_V → am_H → Prop} (h : am_H) (x1 : Int32) (l2 l3 : Option am_V) (Lh : Lay h) : ex_ d 159 10 [some (v_r (some 51)), some (v_i x1), l2, l3] [] h Q ↔ if (h_i h 11 0) ≤ x1 then ex_ d 159 92 [some (v_r (some 51)), some (v_i x1), l2, l3] [] h Q else ex_ d 159 24 [some (v_r (some 51)), some (v_i x1), l2, l3] [] h Q := by
  have e0 : h_r h 51 0 = some 10 := la_r Lh (q := (51, 0, 10)) (by decide)
  have e1 : h_r h 10 0 = some 11 := la_r Lh (q := (10, 0, 11)) (by decide)
  unfold ex_
  refine (am_Y_go 6 (ok := [am_is h (some 51) 10, am_is h ((h_r h 51 0)) 2, am_is h ((h_r h ((h_r h 51 0).getD 0) 0)) 1]) (g := (if (h_i h ((h_r h ((h_r h 51 0).getD 0) 0).getD 0) 0) ≤ x1 then 92 else 24, [some (v_r (some 51)), some (v_i x1), l2, l3], [], h)) rfl).trans ?_
  simp only [e0, e1, Option.getD_some, am_all]
  all_goals exact cj_d (la_is Lh (o := 51) rfl) (cj_d (la_is Lh (o := 10) rfl) (cj_d (la_is Lh (o := 11) rfl) (am_Y_if)))

theorem b_X10_markReached_92 {d : Nat} {Q : Option am_V → am_H → Prop} (h : am_H) (l0 l1 l2 l3 : Option am_V) : ex_ d 159 92 [l0, l1, l2, l3] [] h Q ↔ Q (none) h := by
  unfold ex_
  exact ((am_Y_ret rfl rfl rfl).trans (am_rz rfl))

theorem b_X10_markReached_24 {d : Nat} {Q : Option am_V → am_H → Prop} (h : am_H) (l0 l1 l2 l3 : Option am_V) : ex_ d 159 24 [l0, l1, l2, l3] [] h Q ↔ ex_ d 159 26 [l0, l1, some (v_i (0 : Int32)), l3] [] h Q := by
  unfold ex_
  refine (am_Y_go 2 (ok := []) (g := (26, [l0, l1, some (v_i (0 : Int32)), l3], [], h)) rfl).trans ?_
  all_goals exact Iff.rfl

theorem b_X10_markReached_26 {d : Nat} {Q : Option am_V → am_H → Prop} (h : am_H) (x2 : Int32) (l0 l1 l3 : Option am_V) : ex_ d 159 26 [l0, l1, some (v_i x2), l3] [] h Q ↔ if (8 : Int32) ≤ x2 then ex_ d 159 86 [l0, l1, some (v_i x2), l3] [] h Q else ex_ d 159 32 [l0, l1, some (v_i x2), l3] [] h Q := by
  unfold ex_
  refine (am_Y_go 3 (ok := []) (g := (if (8 : Int32) ≤ x2 then 86 else 32, [l0, l1, some (v_i x2), l3], [], h)) rfl).trans ?_
  all_goals exact am_Y_if

theorem b_X10_markReached_86 {d : Nat} {Q : Option am_V → am_H → Prop} (h : am_H) (x1 : Int32) (l0 l2 l3 : Option am_V) : ex_ d 159 86 [l0, some (v_i x1), l2, l3] [] h Q ↔ ex_ d 159 10 [l0, some (v_i (x1 + (1 : Int32))), l2, l3] [] h Q := by
  unfold ex_
  refine (am_Y_go 2 (ok := []) (g := (10, [l0, some (v_i (x1 + (1 : Int32))), l2, l3], [], h)) rfl).trans ?_
  all_goals exact Iff.rfl

theorem b_X10_markReached_32 {d : Nat} {Q : Option am_V → am_H → Prop} (h : am_H) (x1 : Int32) (x2 : Int32) (l3 : Option am_V) (Lh : Lay h) : ex_ (d + 1) 159 32 [some (v_r (some 51)), some (v_i x1), some (v_i x2), l3] [] h Q ↔ ex_ d 155 0 [some (v_r (some 51)), some (v_i x1), some (v_i x2), some (v_i (h_i h 11 1)), none, none] [] h (fun r h' => ex_ (d + 1) 159 48 [some (v_r (some 51)), some (v_i x1), some (v_i x2), l3] (r.toList ++ []) h' Q) := by
  have e0 : h_r h 51 0 = some 10 := la_r Lh (q := (51, 0, 10)) (by decide)
  have e1 : h_r h 10 0 = some 11 := la_r Lh (q := (10, 0, 11)) (by decide)
  unfold ex_
  refine (am_Y_go 7 (ok := [am_is h (some 51) 10, am_is h ((h_r h 51 0)) 2, am_is h ((h_r h ((h_r h 51 0).getD 0) 0)) 1]) (g := (45, [some (v_r (some 51)), some (v_i x1), some (v_i x2), l3], [v_i (h_i h ((h_r h ((h_r h 51 0).getD 0) 0).getD 0) 1), v_i x2, v_i x1, v_r (some 51)], h)) rfl).trans ?_
  simp only [e0, e1, Option.getD_some, am_all]
  all_goals exact cj_d (la_is Lh (o := 51) rfl) (cj_d (la_is Lh (o := 10) rfl) (cj_d (la_is Lh (o := 11) rfl) (((am_Y_call (j := 155) (na := 4) (ci := 10) (fl := 0) rfl rfl rfl).trans (cj_d ⟨⟨Nat.le_of_ble_eq_true rfl, Nat.le_of_ble_eq_true rfl, Nat.le_of_ble_eq_true rfl, rfl⟩, Or.inr (Or.inr (show (10 : Nat) < 20 ∧ am_is h (some 51) 10 from ⟨by decide, (la_is Lh (o := 51) rfl)⟩))⟩ Iff.rfl)))))

theorem b_X10_markReached_48 {d : Nat} {Q : Option am_V → am_H → Prop} (h : am_H) (l0 l1 l2 l3 : Option am_V) : ex_ d 159 48 [l0, l1, l2, l3] [] h Q ↔ ex_ d 159 50 [l0, l1, l2, some (v_i (0 : Int32))] [] h Q := by
  unfold ex_
  refine (am_Y_go 2 (ok := []) (g := (50, [l0, l1, l2, some (v_i (0 : Int32))], [], h)) rfl).trans ?_
  all_goals exact Iff.rfl

theorem b_X10_markReached_50 {d : Nat} {Q : Option am_V → am_H → Prop} (h : am_H) (x3 : Int32) (l1 l2 : Option am_V) (Lh : Lay h) : ex_ d 159 50 [some (v_r (some 51)), l1, l2, some (v_i x3)] [] h Q ↔ if (h_i h 51 3) ≤ x3 then ex_ d 159 80 [some (v_r (some 51)), l1, l2, some (v_i x3)] [] h Q else ex_ d 159 58 [some (v_r (some 51)), l1, l2, some (v_i x3)] [] h Q := by
  unfold ex_
  refine (am_Y_go 4 (ok := [am_is h (some 51) 10]) (g := (if (h_i h 51 3) ≤ x3 then 80 else 58, [some (v_r (some 51)), l1, l2, some (v_i x3)], [], h)) rfl).trans ?_
  simp only [am_all]
  all_goals exact cj_d (la_is Lh (o := 51) rfl) (am_Y_if)

theorem b_X10_markReached_80 {d : Nat} {Q : Option am_V → am_H → Prop} (h : am_H) (x2 : Int32) (l0 l1 l3 : Option am_V) : ex_ d 159 80 [l0, l1, some (v_i x2), l3] [] h Q ↔ ex_ d 159 26 [l0, l1, some (v_i (x2 + (1 : Int32))), l3] [] h Q := by
  unfold ex_
  refine (am_Y_go 2 (ok := []) (g := (26, [l0, l1, some (v_i (x2 + (1 : Int32))), l3], [], h)) rfl).trans ?_
  all_goals exact Iff.rfl

theorem b_X10_markReached_58 {d : Nat} {Q : Option am_V → am_H → Prop} (h : am_H) (x2 : Int32) (x3 : Int32) (l1 : Option am_V) (Lh : Lay h) : ex_ (d + 1) 159 58 [some (v_r (some 51)), l1, some (v_i x2), some (v_i x3)] [] h Q ↔ vp_in x2 8 ∧ ex_ d 156 0 [some (v_r (some 51)), some (v_i x3)] [] h (fun r h' => ex_ (d + 1) 159 71 [some (v_r (some 51)), l1, some (v_i x2), some (v_i x3)] (r.toList ++ [v_i (1 : Int32), v_i (h_i h 53 (Int32.toNatClampNeg x2)), v_i x2, v_r (some 53)]) h' Q) := by
  have e0 : h_r h 51 4 = some 53 := la_r Lh (q := (51, 4, 53)) (by decide)
  unfold ex_
  refine (am_Y_go 8 (ok := [am_is h (some 51) 10, am_ar h ((h_r h 51 4)) 20 x2]) (g := (68, [some (v_r (some 51)), l1, some (v_i x2), some (v_i x3)], [v_i x3, v_r (some 51), v_i (1 : Int32), v_i (h_i h ((h_r h 51 4).getD 0) (Int32.toNatClampNeg x2)), v_i x2, v_r ((h_r h 51 4))], h)) rfl).trans ?_
  simp only [e0, Option.getD_some, am_all]
  all_goals exact cj_d (la_is Lh (o := 51) rfl) (cj_k (la_ar Lh (o := 53) rfl) (((am_Y_call (j := 156) (na := 2) (ci := 10) (fl := 0) rfl rfl rfl).trans (cj_d ⟨⟨Nat.le_of_ble_eq_true rfl, Nat.le_of_ble_eq_true rfl, Nat.le_of_ble_eq_true rfl, rfl⟩, Or.inr (Or.inr (show (10 : Nat) < 20 ∧ am_is h (some 51) 10 from ⟨by decide, (la_is Lh (o := 51) rfl)⟩))⟩ Iff.rfl))))

theorem b_X10_markReached_71 {d : Nat} {Q : Option am_V → am_H → Prop} (h : am_H) (s0 : Int32) (s1 : Int32) (s2 : Int32) (s3 : Int32) (t4 : Nat) (x3 : Int32) (l0 l1 l2 : Option am_V) {n_t4 : Nat} (A_t4 : y_arr h t4 20 n_t4) : ex_ d 159 71 [l0, l1, l2, some (v_i x3)] [v_i s0, v_i s1, v_i s2, v_i s3, v_r (some t4)] h Q ↔ vp_in s3 n_t4 ∧ ex_ d 159 50 [l0, l1, l2, some (v_i (x3 + (1 : Int32)))] [] (p_i h t4 (Int32.toNatClampNeg s3) (s2 ||| (s1 <<< (s0 &&& 31)))) Q := by
  unfold ex_
  refine (am_Y_go 5 (ok := [am_ar h (some t4) 20 s3]) (g := (50, [l0, l1, l2, some (v_i (x3 + (1 : Int32)))], [], (p_i h t4 (Int32.toNatClampNeg s3) (s2 ||| (s1 <<< (s0 &&& 31)))))) rfl).trans ?_
  simp only [am_all]
  all_goals exact cj_k (lb_ar A_t4) (Iff.rfl)

theorem b_X10_isDead_0 {d : Nat} {Q : Option am_V → am_H → Prop} (h : am_H) (x1 : Int32) (x2 : Int32) (Lh : Lay h) : ex_ (d + 1) 160 0 [some (v_r (some 51)), some (v_i x1), some (v_i x2)] [] h Q ↔ ex_ d 32 0 [some (v_r (some 11)), some (v_i x1), some (v_i x2)] [] h (fun r h' => ex_ (d + 1) 160 12 [some (v_r (some 51)), some (v_i x1), some (v_i x2)] (r.toList ++ []) h' Q) := by
  have e0 : h_r h 51 0 = some 10 := la_r Lh (q := (51, 0, 10)) (by decide)
  have e1 : h_r h 10 0 = some 11 := la_r Lh (q := (10, 0, 11)) (by decide)
  unfold ex_
  refine (am_Y_go 5 (ok := [am_is h (some 51) 10, am_is h ((h_r h 51 0)) 2]) (g := (9, [some (v_r (some 51)), some (v_i x1), some (v_i x2)], [v_i x2, v_i x1, v_r ((h_r h ((h_r h 51 0).getD 0) 0))], h)) rfl).trans ?_
  simp only [e0, e1, Option.getD_some, am_all]
  all_goals exact cj_d (la_is Lh (o := 51) rfl) (cj_d (la_is Lh (o := 10) rfl) (((am_Y_call (j := 32) (na := 3) (ci := 1) (fl := 0) rfl rfl rfl).trans (cj_d ⟨⟨Nat.le_of_ble_eq_true rfl, Nat.le_of_ble_eq_true rfl, Nat.le_of_ble_eq_true rfl, rfl⟩, Or.inr (Or.inr (show (1 : Nat) < 20 ∧ am_is h (some 11) 1 from ⟨by decide, (la_is Lh (o := 11) rfl)⟩))⟩ Iff.rfl))))

theorem b_X10_isDead_12 {d : Nat} {Q : Option am_V → am_H → Prop} (h : am_H) (s0 : Int32) (l0 l1 l2 : Option am_V) : ex_ d 160 12 [l0, l1, l2] [v_i s0] h Q ↔ if s0 = 0 then ex_ d 160 39 [l0, l1, l2] [] h Q else ex_ d 160 15 [l0, l1, l2] [] h Q := by
  unfold ex_
  refine (am_Y_go 1 (ok := []) (g := (if s0 = 0 then 39 else 15, [l0, l1, l2], [], h)) rfl).trans ?_
  all_goals exact am_Y_if

theorem b_X10_isDead_39 {d : Nat} {Q : Option am_V → am_H → Prop} (h : am_H) (l0 l1 l2 : Option am_V) : ex_ d 160 39 [l0, l1, l2] [] h Q ↔ Q (some (v_i (0 : Int32))) h := by
  unfold ex_
  refine (am_Y_go 1 (ok := []) (g := (40, [l0, l1, l2], [v_i (0 : Int32)], h)) rfl).trans ?_
  all_goals exact ((am_Y_ret rfl rfl rfl).trans (am_rz (show am_fit 1 0 from Or.inl rfl)))

theorem b_X10_isDead_15 {d : Nat} {Q : Option am_V → am_H → Prop} (h : am_H) (x2 : Int32) (l0 l1 : Option am_V) : ex_ (d + 1) 160 15 [l0, l1, some (v_i x2)] [] h Q ↔ ex_ d 31 0 [some (v_i x2)] [] h (fun r h' => ex_ (d + 1) 160 19 [l0, l1, some (v_i x2)] (r.toList ++ []) h' Q) := by
  unfold ex_
  refine (am_Y_go 1 (ok := []) (g := (16, [l0, l1, some (v_i x2)], [v_i x2], h)) rfl).trans ?_
  all_goals exact ((am_Y_call (j := 31) (na := 1) (ci := 11) (fl := 3) rfl rfl rfl).trans (cj_d ⟨⟨Nat.le_of_ble_eq_true rfl, Nat.le_of_ble_eq_true rfl, Nat.le_of_ble_eq_true rfl, rfl⟩, Or.inr (Or.inl rfl)⟩ Iff.rfl))

theorem b_X10_isDead_19 {d : Nat} {Q : Option am_V → am_H → Prop} (h : am_H) (s0 : Int32) (l0 l1 l2 : Option am_V) : ex_ d 160 19 [l0, l1, l2] [v_i s0] h Q ↔ if s0 = 0 then ex_ d 160 39 [l0, l1, l2] [] h Q else ex_ d 160 22 [l0, l1, l2] [] h Q := by
  unfold ex_
  refine (am_Y_go 1 (ok := []) (g := (if s0 = 0 then 39 else 22, [l0, l1, l2], [], h)) rfl).trans ?_
  all_goals exact am_Y_if

theorem b_X10_isDead_22 {d : Nat} {Q : Option am_V → am_H → Prop} (h : am_H) (x2 : Int32) (x1 : Int32) (Lh : Lay h) : ex_ d 160 22 [some (v_r (some 51)), some (v_i x1), some (v_i x2)] [] h Q ↔ vp_in x2 8 ∧ (if ¬ (((h_i h 53 (Int32.toNatClampNeg x2)) >>> (x1 &&& 31)) &&& (1 : Int32)) = 0 then ex_ d 160 39 [some (v_r (some 51)), some (v_i x1), some (v_i x2)] [] h Q else ex_ d 160 35 [some (v_r (some 51)), some (v_i x1), some (v_i x2)] [] h Q) := by
  have e0 : h_r h 51 4 = some 53 := la_r Lh (q := (51, 4, 53)) (by decide)
  unfold ex_
  refine (am_Y_go 9 (ok := [am_is h (some 51) 10, am_ar h ((h_r h 51 4)) 20 x2]) (g := (if ¬ (((h_i h ((h_r h 51 4).getD 0) (Int32.toNatClampNeg x2)) >>> (x1 &&& 31)) &&& (1 : Int32)) = 0 then 39 else 35, [some (v_r (some 51)), some (v_i x1), some (v_i x2)], [], h)) rfl).trans ?_
  simp only [e0, Option.getD_some, am_all]
  all_goals exact cj_d (la_is Lh (o := 51) rfl) (cj_k (la_ar Lh (o := 53) rfl) (am_Y_if))

theorem b_X10_isDead_35 {d : Nat} {Q : Option am_V → am_H → Prop} (h : am_H) (l0 l1 l2 : Option am_V) : ex_ d 160 35 [l0, l1, l2] [] h Q ↔ Q (some (v_i (1 : Int32))) h := by
  unfold ex_
  refine (am_Y_go 2 (ok := []) (g := (40, [l0, l1, l2], [v_i (1 : Int32)], h)) rfl).trans ?_
  all_goals exact ((am_Y_ret rfl rfl rfl).trans (am_rz (show am_fit 1 1 from Or.inr rfl)))
