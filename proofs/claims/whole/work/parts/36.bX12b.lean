theorem b_X12_givenBy_0 {d : Nat} {Q : Option am_V → am_H → Prop} (h : am_H) (x1 : Int32) (l2 l3 l4 : Option am_V) (Lh : Lay h) : ex_ d 267 0 [some (v_r (some 93)), some (v_i x1), l2, l3, l4] [] h Q ↔ vp_in x1 5 ∧ vp_in x1 5 ∧ (if ¬ (h_i h 101 (Int32.toNatClampNeg x1)) = (h_i h 102 (Int32.toNatClampNeg x1)) then ex_ d 267 17 [some (v_r (some 93)), some (v_i x1), l2, l3, l4] [] h Q else ex_ d 267 15 [some (v_r (some 93)), some (v_i x1), l2, l3, l4] [] h Q) := by
  have e0 : h_r h 93 19 = some 101 := la_r Lh (q := (93, 19, 101)) (by decide)
  have e1 : h_r h 93 20 = some 102 := la_r Lh (q := (93, 20, 102)) (by decide)
  unfold ex_
  refine (am_Y_go 9 (ok := [am_is h (some 93) 12, am_ar h ((h_r h 93 19)) 20 x1, am_is h (some 93) 12, am_ar h ((h_r h 93 20)) 20 x1]) (g := (if ¬ (h_i h ((h_r h 93 19).getD 0) (Int32.toNatClampNeg x1)) = (h_i h ((h_r h 93 20).getD 0) (Int32.toNatClampNeg x1)) then 17 else 15, [some (v_r (some 93)), some (v_i x1), l2, l3, l4], [], h)) rfl).trans ?_
  simp only [e0, e1, Option.getD_some, am_all]
  all_goals exact cj_d (la_is Lh (o := 93) rfl) (cj_k (la_ar Lh (o := 101) rfl) (cj_d (la_is Lh (o := 93) rfl) (cj_k (la_ar Lh (o := 102) rfl) (am_Y_if))))

theorem b_X12_givenBy_17 {d : Nat} {Q : Option am_V → am_H → Prop} (h : am_H) (x1 : Int32) (l2 l3 l4 : Option am_V) (Lh : Lay h) : ex_ d 267 17 [some (v_r (some 93)), some (v_i x1), l2, l3, l4] [] h Q ↔ vp_in x1 5 ∧ vp_in (h_i h 101 (Int32.toNatClampNeg x1)) 55 ∧ ex_ d 267 31 [some (v_r (some 93)), some (v_i x1), some (v_i (h_i h 103 (Int32.toNatClampNeg (h_i h 101 (Int32.toNatClampNeg x1))))), some (v_i (0 : Int32)), l4] [] h Q := by
  have e0 : h_r h 93 21 = some 103 := la_r Lh (q := (93, 21, 103)) (by decide)
  have e1 : h_r h 93 19 = some 101 := la_r Lh (q := (93, 19, 101)) (by decide)
  unfold ex_
  refine (am_Y_go 10 (ok := [am_is h (some 93) 12, am_is h (some 93) 12, am_ar h ((h_r h 93 19)) 20 x1, am_ar h ((h_r h 93 21)) 20 (h_i h ((h_r h 93 19).getD 0) (Int32.toNatClampNeg x1))]) (g := (31, [some (v_r (some 93)), some (v_i x1), some (v_i (h_i h ((h_r h 93 21).getD 0) (Int32.toNatClampNeg (h_i h ((h_r h 93 19).getD 0) (Int32.toNatClampNeg x1))))), some (v_i (0 : Int32)), l4], [], h)) rfl).trans ?_
  simp only [e0, e1, Option.getD_some, am_all]
  all_goals exact cj_d (la_is Lh (o := 93) rfl) (cj_d (la_is Lh (o := 93) rfl) (cj_k (la_ar Lh (o := 101) rfl) (cj_k (la_ar Lh (o := 103) rfl) (Iff.rfl))))

theorem b_X12_givenBy_15 {d : Nat} {Q : Option am_V → am_H → Prop} (h : am_H) (l0 l1 l2 l3 l4 : Option am_V) : ex_ d 267 15 [l0, l1, l2, l3, l4] [] h Q ↔ Q (some (v_i (-1 : Int32))) h := by
  unfold ex_
  refine (am_Y_go 1 (ok := []) (g := (16, [l0, l1, l2, l3, l4], [v_i (-1 : Int32)], h)) rfl).trans ?_
  all_goals exact ((am_Y_ret rfl rfl rfl).trans (am_r0))

theorem b_X12_givenBy_31 {d : Nat} {Q : Option am_V → am_H → Prop} (h : am_H) (x3 : Int32) (l1 l2 l4 : Option am_V) (Lh : Lay h) : ex_ d 267 31 [some (v_r (some 93)), l1, l2, some (v_i x3), l4] [] h Q ↔ if (h_i h 93 23) < x3 then ex_ d 267 85 [some (v_r (some 93)), l1, l2, some (v_i x3), l4] [] h Q else ex_ d 267 39 [some (v_r (some 93)), l1, l2, some (v_i x3), l4] [] h Q := by
  unfold ex_
  refine (am_Y_go 4 (ok := [am_is h (some 93) 12]) (g := (if (h_i h 93 23) < x3 then 85 else 39, [some (v_r (some 93)), l1, l2, some (v_i x3), l4], [], h)) rfl).trans ?_
  simp only [am_all]
  all_goals exact cj_d (la_is Lh (o := 93) rfl) (am_Y_if)

theorem b_X12_givenBy_85 {d : Nat} {Q : Option am_V → am_H → Prop} (h : am_H) (x2 : Int32) (l0 l1 l3 l4 : Option am_V) : ex_ d 267 85 [l0, l1, some (v_i x2), l3, l4] [] h Q ↔ Q (some (v_i x2)) h := by
  unfold ex_
  refine (am_Y_go 1 (ok := []) (g := (86, [l0, l1, some (v_i x2), l3, l4], [v_i x2], h)) rfl).trans ?_
  all_goals exact ((am_Y_ret rfl rfl rfl).trans (am_r0))

theorem b_X12_givenBy_39 {d : Nat} {Q : Option am_V → am_H → Prop} (h : am_H) (x3 : Int32) (l1 l2 l4 : Option am_V) (Lh : Lay h) : ex_ d 267 39 [some (v_r (some 93)), l1, l2, some (v_i x3), l4] [] h Q ↔ vp_in x3 5 ∧ ex_ d 267 49 [some (v_r (some 93)), l1, l2, some (v_i x3), some (v_i ((h_i h 101 (Int32.toNatClampNeg x3)) + (1 : Int32)))] [] h Q := by
  have e0 : h_r h 93 19 = some 101 := la_r Lh (q := (93, 19, 101)) (by decide)
  unfold ex_
  refine (am_Y_go 7 (ok := [am_is h (some 93) 12, am_ar h ((h_r h 93 19)) 20 x3]) (g := (49, [some (v_r (some 93)), l1, l2, some (v_i x3), some (v_i ((h_i h ((h_r h 93 19).getD 0) (Int32.toNatClampNeg x3)) + (1 : Int32)))], [], h)) rfl).trans ?_
  simp only [e0, Option.getD_some, am_all]
  all_goals exact cj_d (la_is Lh (o := 93) rfl) (cj_k (la_ar Lh (o := 101) rfl) (Iff.rfl))

theorem b_X12_givenBy_49 {d : Nat} {Q : Option am_V → am_H → Prop} (h : am_H) (x4 : Int32) (x3 : Int32) (l1 l2 : Option am_V) (Lh : Lay h) : ex_ d 267 49 [some (v_r (some 93)), l1, l2, some (v_i x3), some (v_i x4)] [] h Q ↔ vp_in x3 5 ∧ (if (h_i h 102 (Int32.toNatClampNeg x3)) ≤ x4 then ex_ d 267 79 [some (v_r (some 93)), l1, l2, some (v_i x3), some (v_i x4)] [] h Q else ex_ d 267 60 [some (v_r (some 93)), l1, l2, some (v_i x3), some (v_i x4)] [] h Q) := by
  have e0 : h_r h 93 20 = some 102 := la_r Lh (q := (93, 20, 102)) (by decide)
  unfold ex_
  refine (am_Y_go 6 (ok := [am_is h (some 93) 12, am_ar h ((h_r h 93 20)) 20 x3]) (g := (if (h_i h ((h_r h 93 20).getD 0) (Int32.toNatClampNeg x3)) ≤ x4 then 79 else 60, [some (v_r (some 93)), l1, l2, some (v_i x3), some (v_i x4)], [], h)) rfl).trans ?_
  simp only [e0, Option.getD_some, am_all]
  all_goals exact cj_d (la_is Lh (o := 93) rfl) (cj_k (la_ar Lh (o := 102) rfl) (am_Y_if))

theorem b_X12_givenBy_79 {d : Nat} {Q : Option am_V → am_H → Prop} (h : am_H) (x3 : Int32) (l0 l1 l2 l4 : Option am_V) : ex_ d 267 79 [l0, l1, l2, some (v_i x3), l4] [] h Q ↔ ex_ d 267 31 [l0, l1, l2, some (v_i (x3 + (1 : Int32))), l4] [] h Q := by
  unfold ex_
  refine (am_Y_go 2 (ok := []) (g := (31, [l0, l1, l2, some (v_i (x3 + (1 : Int32))), l4], [], h)) rfl).trans ?_
  all_goals exact Iff.rfl

theorem b_X12_givenBy_60 {d : Nat} {Q : Option am_V → am_H → Prop} (h : am_H) (x4 : Int32) (x2 : Int32) (l1 l3 : Option am_V) (Lh : Lay h) : ex_ d 267 60 [some (v_r (some 93)), l1, some (v_i x2), l3, some (v_i x4)] [] h Q ↔ vp_in x4 55 ∧ (if ¬ (h_i h 103 (Int32.toNatClampNeg x4)) = x2 then ex_ d 267 73 [some (v_r (some 93)), l1, some (v_i x2), l3, some (v_i x4)] [] h Q else ex_ d 267 71 [some (v_r (some 93)), l1, some (v_i x2), l3, some (v_i x4)] [] h Q) := by
  have e0 : h_r h 93 21 = some 103 := la_r Lh (q := (93, 21, 103)) (by decide)
  unfold ex_
  refine (am_Y_go 6 (ok := [am_is h (some 93) 12, am_ar h ((h_r h 93 21)) 20 x4]) (g := (if ¬ (h_i h ((h_r h 93 21).getD 0) (Int32.toNatClampNeg x4)) = x2 then 73 else 71, [some (v_r (some 93)), l1, some (v_i x2), l3, some (v_i x4)], [], h)) rfl).trans ?_
  simp only [e0, Option.getD_some, am_all]
  all_goals exact cj_d (la_is Lh (o := 93) rfl) (cj_k (la_ar Lh (o := 103) rfl) (am_Y_if))

theorem b_X12_givenBy_73 {d : Nat} {Q : Option am_V → am_H → Prop} (h : am_H) (x4 : Int32) (l0 l1 l2 l3 : Option am_V) : ex_ d 267 73 [l0, l1, l2, l3, some (v_i x4)] [] h Q ↔ ex_ d 267 49 [l0, l1, l2, l3, some (v_i (x4 + (1 : Int32)))] [] h Q := by
  unfold ex_
  refine (am_Y_go 2 (ok := []) (g := (49, [l0, l1, l2, l3, some (v_i (x4 + (1 : Int32)))], [], h)) rfl).trans ?_
  all_goals exact Iff.rfl

theorem b_X12_givenBy_71 {d : Nat} {Q : Option am_V → am_H → Prop} (h : am_H) (l0 l1 l2 l3 l4 : Option am_V) : ex_ d 267 71 [l0, l1, l2, l3, l4] [] h Q ↔ Q (some (v_i (-1 : Int32))) h := by
  unfold ex_
  refine (am_Y_go 1 (ok := []) (g := (72, [l0, l1, l2, l3, l4], [v_i (-1 : Int32)], h)) rfl).trans ?_
  all_goals exact ((am_Y_ret rfl rfl rfl).trans (am_r0))

theorem b_X12_merges_0 {d : Nat} {Q : Option am_V → am_H → Prop} (h : am_H) (x1 : Int32) (l2 l3 l4 : Option am_V) (Lh : Lay h) : ex_ (d + 1) 268 0 [some (v_r (some 93)), some (v_i x1), l2, l3, l4] [] h Q ↔ vp_in ((11 : Int32) * x1) 121 ∧ vp_in x1 11 ∧ ex_ d 266 0 [some (v_r (some 93)), none, none] [] (p_i (p_i h 99 (Int32.toNatClampNeg ((11 : Int32) * x1)) x1) 98 (Int32.toNatClampNeg x1) (1 : Int32)) (fun r h' => ex_ (d + 1) 268 21 [some (v_r (some 93)), some (v_i x1), l2, l3, l4] (r.toList ++ []) h' Q) := by
  have e0 : h_r h 93 17 = some 99 := la_r Lh (q := (93, 17, 99)) (by decide)
  have e1 : h_r h 93 16 = some 98 := la_r Lh (q := (93, 16, 98)) (by decide)
  unfold ex_
  refine (am_Y_go 13 (ok := [am_is h (some 93) 12, am_ar h ((h_r h 93 17)) 20 ((11 : Int32) * x1), am_is h (some 93) 12, am_ar h ((h_r h 93 16)) 20 x1]) (g := (18, [some (v_r (some 93)), some (v_i x1), l2, l3, l4], [v_r (some 93)], (p_i (p_i h ((h_r h 93 17).getD 0) (Int32.toNatClampNeg ((11 : Int32) * x1)) x1) ((h_r h 93 16).getD 0) (Int32.toNatClampNeg x1) (1 : Int32)))) rfl).trans ?_
  simp only [e0, e1, Option.getD_some, am_all]
  all_goals exact cj_d (la_is Lh (o := 93) rfl) (cj_k (la_ar Lh (o := 99) rfl) (cj_d (la_is Lh (o := 93) rfl) (cj_k (la_ar Lh (o := 98) rfl) (((am_Y_call (j := 266) (na := 1) (ci := 12) (fl := 0) rfl rfl rfl).trans (cj_d ⟨⟨Nat.le_of_ble_eq_true rfl, Nat.le_of_ble_eq_true rfl, Nat.le_of_ble_eq_true rfl, rfl⟩, Or.inr (Or.inr (show (12 : Nat) < 20 ∧ am_is h (some 93) 12 from ⟨by decide, (la_is Lh (o := 93) rfl)⟩))⟩ Iff.rfl))))))

theorem b_X12_merges_21 {d : Nat} {Q : Option am_V → am_H → Prop} (h : am_H) (l0 l1 l2 l3 l4 : Option am_V) : ex_ d 268 21 [l0, l1, l2, l3, l4] [] h Q ↔ ex_ d 268 25 [l0, l1, some (v_i (0 : Int32)), some (v_i (0 : Int32)), l4] [] h Q := by
  unfold ex_
  refine (am_Y_go 4 (ok := []) (g := (25, [l0, l1, some (v_i (0 : Int32)), some (v_i (0 : Int32)), l4], [], h)) rfl).trans ?_
  all_goals exact Iff.rfl

theorem b_X12_merges_25 {d : Nat} {Q : Option am_V → am_H → Prop} (h : am_H) (x3 : Int32) (l1 l2 l4 : Option am_V) (Lh : Lay h) : ex_ d 268 25 [some (v_r (some 93)), l1, l2, some (v_i x3), l4] [] h Q ↔ if (h_i h 93 23) < x3 then ex_ d 268 55 [some (v_r (some 93)), l1, l2, some (v_i x3), l4] [] h Q else ex_ d 268 33 [some (v_r (some 93)), l1, l2, some (v_i x3), l4] [] h Q := by
  unfold ex_
  refine (am_Y_go 4 (ok := [am_is h (some 93) 12]) (g := (if (h_i h 93 23) < x3 then 55 else 33, [some (v_r (some 93)), l1, l2, some (v_i x3), l4], [], h)) rfl).trans ?_
  simp only [am_all]
  all_goals exact cj_d (la_is Lh (o := 93) rfl) (am_Y_if)

theorem b_X12_merges_55 {d : Nat} {Q : Option am_V → am_H → Prop} (h : am_H) (x2 : Int32) (l0 l1 l3 l4 : Option am_V) : ex_ d 268 55 [l0, l1, some (v_i x2), l3, l4] [] h Q ↔ if x2 ≤ 0 then ex_ d 268 203 [l0, l1, some (v_i x2), l3, l4] [] h Q else ex_ d 268 59 [l0, l1, some (v_i x2), l3, l4] [] h Q := by
  unfold ex_
  refine (am_Y_go 2 (ok := []) (g := (if x2 ≤ 0 then 203 else 59, [l0, l1, some (v_i x2), l3, l4], [], h)) rfl).trans ?_
  all_goals exact am_Y_if

theorem b_X12_merges_33 {d : Nat} {Q : Option am_V → am_H → Prop} (h : am_H) (x2 : Int32) (x3 : Int32) (l1 l4 : Option am_V) (Lh : Lay h) : ex_ d 268 33 [some (v_r (some 93)), l1, some (v_i x2), some (v_i x3), l4] [] h Q ↔ vp_in x3 5 ∧ vp_in x3 5 ∧ ex_ d 268 25 [some (v_r (some 93)), l1, some (v_i (x2 + ((h_i h 102 (Int32.toNatClampNeg x3)) - (h_i h 101 (Int32.toNatClampNeg x3))))), some (v_i (x3 + (1 : Int32))), l4] [] h Q := by
  have e0 : h_r h 93 20 = some 102 := la_r Lh (q := (93, 20, 102)) (by decide)
  have e1 : h_r h 93 19 = some 101 := la_r Lh (q := (93, 19, 101)) (by decide)
  unfold ex_
  refine (am_Y_go 14 (ok := [am_is h (some 93) 12, am_ar h ((h_r h 93 20)) 20 x3, am_is h (some 93) 12, am_ar h ((h_r h 93 19)) 20 x3]) (g := (25, [some (v_r (some 93)), l1, some (v_i (x2 + ((h_i h ((h_r h 93 20).getD 0) (Int32.toNatClampNeg x3)) - (h_i h ((h_r h 93 19).getD 0) (Int32.toNatClampNeg x3))))), some (v_i (x3 + (1 : Int32))), l4], [], h)) rfl).trans ?_
  simp only [e0, e1, Option.getD_some, am_all]
  all_goals exact cj_d (la_is Lh (o := 93) rfl) (cj_k (la_ar Lh (o := 102) rfl) (cj_d (la_is Lh (o := 93) rfl) (cj_k (la_ar Lh (o := 101) rfl) (Iff.rfl))))

theorem b_X12_merges_203 {d : Nat} {Q : Option am_V → am_H → Prop} (h : am_H) (l0 l1 l2 l3 l4 : Option am_V) : ex_ d 268 203 [l0, l1, l2, l3, l4] [] h Q ↔ Q (some (v_i (0 : Int32))) h := by
  unfold ex_
  refine (am_Y_go 1 (ok := []) (g := (204, [l0, l1, l2, l3, l4], [v_i (0 : Int32)], h)) rfl).trans ?_
  all_goals exact ((am_Y_ret rfl rfl rfl).trans (am_r0))

theorem b_X12_merges_59 {d : Nat} {Q : Option am_V → am_H → Prop} (h : am_H) (l0 l1 l2 l3 l4 : Option am_V) : ex_ d 268 59 [l0, l1, l2, l3, l4] [] h Q ↔ ex_ d 268 64 [l0, l1, l2, some (v_i (-1 : Int32)), some (v_i (0 : Int32))] [] h Q := by
  unfold ex_
  refine (am_Y_go 4 (ok := []) (g := (64, [l0, l1, l2, some (v_i (-1 : Int32)), some (v_i (0 : Int32))], [], h)) rfl).trans ?_
  all_goals exact Iff.rfl

theorem b_X12_merges_64 {d : Nat} {Q : Option am_V → am_H → Prop} (h : am_H) (x4 : Int32) (l1 l2 l3 : Option am_V) (Lh : Lay h) : ex_ d 268 64 [some (v_r (some 93)), l1, l2, l3, some (v_i x4)] [] h Q ↔ if (h_i h 93 23) < x4 then ex_ d 268 91 [some (v_r (some 93)), l1, l2, l3, some (v_i x4)] [] h Q else ex_ d 268 73 [some (v_r (some 93)), l1, l2, l3, some (v_i x4)] [] h Q := by
  unfold ex_
  refine (am_Y_go 4 (ok := [am_is h (some 93) 12]) (g := (if (h_i h 93 23) < x4 then 91 else 73, [some (v_r (some 93)), l1, l2, l3, some (v_i x4)], [], h)) rfl).trans ?_
  simp only [am_all]
  all_goals exact cj_d (la_is Lh (o := 93) rfl) (am_Y_if)

theorem b_X12_merges_91 {d : Nat} {Q : Option am_V → am_H → Prop} (h : am_H) (x3 : Int32) (l0 l1 l2 l4 : Option am_V) : ex_ d 268 91 [l0, l1, l2, some (v_i x3), l4] [] h Q ↔ if ¬ x3 = (-1 : Int32) then ex_ d 268 105 [l0, l1, l2, some (v_i x3), l4] [] h Q else ex_ d 268 96 [l0, l1, l2, some (v_i x3), l4] [] h Q := by
  unfold ex_
  refine (am_Y_go 3 (ok := []) (g := (if ¬ x3 = (-1 : Int32) then 105 else 96, [l0, l1, l2, some (v_i x3), l4], [], h)) rfl).trans ?_
  all_goals exact am_Y_if

theorem b_X12_merges_73 {d : Nat} {Q : Option am_V → am_H → Prop} (h : am_H) (x3 : Int32) (l0 l1 l2 l4 : Option am_V) : ex_ d 268 73 [l0, l1, l2, some (v_i x3), l4] [] h Q ↔ if ¬ x3 = (-1 : Int32) then ex_ d 268 91 [l0, l1, l2, some (v_i x3), l4] [] h Q else ex_ d 268 78 [l0, l1, l2, some (v_i x3), l4] [] h Q := by
  unfold ex_
  refine (am_Y_go 3 (ok := []) (g := (if ¬ x3 = (-1 : Int32) then 91 else 78, [l0, l1, l2, some (v_i x3), l4], [], h)) rfl).trans ?_
  all_goals exact am_Y_if

theorem b_X12_merges_105 {d : Nat} {Q : Option am_V → am_H → Prop} (h : am_H) (x1 : Int32) (x3 : Int32) (l2 l4 : Option am_V) (Lh : Lay h) : ex_ d 268 105 [some (v_r (some 93)), some (v_i x1), l2, some (v_i x3), l4] [] h Q ↔ vp_in x1 11 ∧ vp_in (((11 : Int32) * x1) + (h_i h 98 (Int32.toNatClampNeg x1))) 121 ∧ vp_in x1 11 ∧ vp_in x1 11 ∧ ex_ d 268 135 [some (v_r (some 93)), some (v_i x1), l2, some (v_i x3), some (v_i (0 : Int32))] [] (p_i (p_i h 99 (Int32.toNatClampNeg (((11 : Int32) * x1) + (h_i h 98 (Int32.toNatClampNeg x1)))) x3) 98 (Int32.toNatClampNeg x1) ((h_i (p_i h 99 (Int32.toNatClampNeg (((11 : Int32) * x1) + (h_i h 98 (Int32.toNatClampNeg x1)))) x3) 98 (Int32.toNatClampNeg x1)) + (1 : Int32))) Q := by
  have e0 : h_r h 93 17 = some 99 := la_r Lh (q := (93, 17, 99)) (by decide)
  have e1 : h_r h 93 16 = some 98 := la_r Lh (q := (93, 16, 98)) (by decide)
  unfold ex_
  refine (am_Y_go 22 (ok := [am_is h (some 93) 12, am_is h (some 93) 12, am_ar h ((h_r h 93 16)) 20 x1, am_ar h ((h_r h 93 17)) 20 (((11 : Int32) * x1) + (h_i h ((h_r h 93 16).getD 0) (Int32.toNatClampNeg x1))), am_is h (some 93) 12, am_ar h ((h_r h 93 16)) 20 x1, am_ar h ((h_r h 93 16)) 20 x1]) (g := (135, [some (v_r (some 93)), some (v_i x1), l2, some (v_i x3), some (v_i (0 : Int32))], [], (p_i (p_i h ((h_r h 93 17).getD 0) (Int32.toNatClampNeg (((11 : Int32) * x1) + (h_i h ((h_r h 93 16).getD 0) (Int32.toNatClampNeg x1)))) x3) ((h_r h 93 16).getD 0) (Int32.toNatClampNeg x1) ((h_i (p_i h ((h_r h 93 17).getD 0) (Int32.toNatClampNeg (((11 : Int32) * x1) + (h_i h ((h_r h 93 16).getD 0) (Int32.toNatClampNeg x1)))) x3) ((h_r h 93 16).getD 0) (Int32.toNatClampNeg x1)) + (1 : Int32))))) rfl).trans ?_
  simp only [e0, e1, Option.getD_some, am_all]
  all_goals exact cj_d (la_is Lh (o := 93) rfl) (cj_d (la_is Lh (o := 93) rfl) (cj_k (la_ar Lh (o := 98) rfl) (cj_k (la_ar Lh (o := 99) rfl) (cj_d (la_is Lh (o := 93) rfl) (cj_k (la_ar Lh (o := 98) rfl) (cj_k (la_ar Lh (o := 98) rfl) (Iff.rfl)))))))

theorem b_X12_merges_96 {d : Nat} {Q : Option am_V → am_H → Prop} (h : am_H) (x1 : Int32) (l2 l3 l4 : Option am_V) (Lh : Lay h) : ex_ d 268 96 [some (v_r (some 93)), some (v_i x1), l2, l3, l4] [] h Q ↔ vp_in x1 11 ∧ Q (some (v_i (1 : Int32))) (p_i h 98 (Int32.toNatClampNeg x1) (0 : Int32)) := by
  have e0 : h_r h 93 16 = some 98 := la_r Lh (q := (93, 16, 98)) (by decide)
  unfold ex_
  refine (am_Y_go 6 (ok := [am_is h (some 93) 12, am_ar h ((h_r h 93 16)) 20 x1]) (g := (104, [some (v_r (some 93)), some (v_i x1), l2, l3, l4], [v_i (1 : Int32)], (p_i h ((h_r h 93 16).getD 0) (Int32.toNatClampNeg x1) (0 : Int32)))) rfl).trans ?_
  simp only [e0, Option.getD_some, am_all]
  all_goals exact cj_d (la_is Lh (o := 93) rfl) (cj_k (la_ar Lh (o := 98) rfl) (((am_Y_ret rfl rfl rfl).trans (am_r0))))

theorem b_X12_merges_78 {d : Nat} {Q : Option am_V → am_H → Prop} (h : am_H) (x4 : Int32) (l1 l2 l3 : Option am_V) (Lh : Lay h) : ex_ (d + 1) 268 78 [some (v_r (some 93)), l1, l2, l3, some (v_i x4)] [] h Q ↔ ex_ d 267 0 [some (v_r (some 93)), some (v_i x4), none, none, none] [] h (fun r h' => ex_ (d + 1) 268 84 [some (v_r (some 93)), l1, l2, l3, some (v_i x4)] (r.toList ++ []) h' Q) := by
  unfold ex_
  refine (am_Y_go 2 (ok := []) (g := (81, [some (v_r (some 93)), l1, l2, l3, some (v_i x4)], [v_i x4, v_r (some 93)], h)) rfl).trans ?_
  all_goals exact ((am_Y_call (j := 267) (na := 2) (ci := 12) (fl := 0) rfl rfl rfl).trans (cj_d ⟨⟨Nat.le_of_ble_eq_true rfl, Nat.le_of_ble_eq_true rfl, Nat.le_of_ble_eq_true rfl, rfl⟩, Or.inr (Or.inr (show (12 : Nat) < 20 ∧ am_is h (some 93) 12 from ⟨by decide, (la_is Lh (o := 93) rfl)⟩))⟩ Iff.rfl))

theorem b_X12_merges_135 {d : Nat} {Q : Option am_V → am_H → Prop} (h : am_H) (x4 : Int32) (l1 l2 l3 : Option am_V) (Lh : Lay h) : ex_ d 268 135 [some (v_r (some 93)), l1, l2, l3, some (v_i x4)] [] h Q ↔ if (h_i h 93 23) < x4 then ex_ d 268 200 [some (v_r (some 93)), l1, l2, l3, some (v_i x4)] [] h Q else ex_ d 268 144 [some (v_r (some 93)), l1, l2, l3, some (v_i x4)] [] h Q := by
  unfold ex_
  refine (am_Y_go 4 (ok := [am_is h (some 93) 12]) (g := (if (h_i h 93 23) < x4 then 200 else 144, [some (v_r (some 93)), l1, l2, l3, some (v_i x4)], [], h)) rfl).trans ?_
  simp only [am_all]
  all_goals exact cj_d (la_is Lh (o := 93) rfl) (am_Y_if)

theorem b_X12_merges_84 {d : Nat} {Q : Option am_V → am_H → Prop} (h : am_H) (s0 : Int32) (x4 : Int32) (l0 l1 l2 l3 : Option am_V) : ex_ d 268 84 [l0, l1, l2, l3, some (v_i x4)] [v_i s0] h Q ↔ ex_ d 268 64 [l0, l1, l2, some (v_i s0), some (v_i (x4 + (1 : Int32)))] [] h Q := by
  unfold ex_
  refine (am_Y_go 3 (ok := []) (g := (64, [l0, l1, l2, some (v_i s0), some (v_i (x4 + (1 : Int32)))], [], h)) rfl).trans ?_
  all_goals exact Iff.rfl

theorem b_X12_merges_200 {d : Nat} {Q : Option am_V → am_H → Prop} (h : am_H) (l0 l1 l2 l3 l4 : Option am_V) : ex_ d 268 200 [l0, l1, l2, l3, l4] [] h Q ↔ ex_ d 268 55 [l0, l1, l2, l3, l4] [] h Q := by
  unfold ex_
  refine (am_Y_go 1 (ok := []) (g := (55, [l0, l1, l2, l3, l4], [], h)) rfl).trans ?_
  all_goals exact Iff.rfl

theorem b_X12_merges_144 {d : Nat} {Q : Option am_V → am_H → Prop} (h : am_H) (x4 : Int32) (l1 l2 l3 : Option am_V) (Lh : Lay h) : ex_ d 268 144 [some (v_r (some 93)), l1, l2, l3, some (v_i x4)] [] h Q ↔ vp_in x4 5 ∧ vp_in x4 5 ∧ (if (h_i h 101 (Int32.toNatClampNeg x4)) = (h_i h 102 (Int32.toNatClampNeg x4)) then ex_ d 268 194 [some (v_r (some 93)), l1, l2, l3, some (v_i x4)] [] h Q else ex_ d 268 161 [some (v_r (some 93)), l1, l2, l3, some (v_i x4)] [] h Q) := by
  have e0 : h_r h 93 19 = some 101 := la_r Lh (q := (93, 19, 101)) (by decide)
  have e1 : h_r h 93 20 = some 102 := la_r Lh (q := (93, 20, 102)) (by decide)
  unfold ex_
  refine (am_Y_go 9 (ok := [am_is h (some 93) 12, am_ar h ((h_r h 93 19)) 20 x4, am_is h (some 93) 12, am_ar h ((h_r h 93 20)) 20 x4]) (g := (if (h_i h ((h_r h 93 19).getD 0) (Int32.toNatClampNeg x4)) = (h_i h ((h_r h 93 20).getD 0) (Int32.toNatClampNeg x4)) then 194 else 161, [some (v_r (some 93)), l1, l2, l3, some (v_i x4)], [], h)) rfl).trans ?_
  simp only [e0, e1, Option.getD_some, am_all]
  all_goals exact cj_d (la_is Lh (o := 93) rfl) (cj_k (la_ar Lh (o := 101) rfl) (cj_d (la_is Lh (o := 93) rfl) (cj_k (la_ar Lh (o := 102) rfl) (am_Y_if))))

theorem b_X12_merges_194 {d : Nat} {Q : Option am_V → am_H → Prop} (h : am_H) (x4 : Int32) (l0 l1 l2 l3 : Option am_V) : ex_ d 268 194 [l0, l1, l2, l3, some (v_i x4)] [] h Q ↔ ex_ d 268 135 [l0, l1, l2, l3, some (v_i (x4 + (1 : Int32)))] [] h Q := by
  unfold ex_
  refine (am_Y_go 2 (ok := []) (g := (135, [l0, l1, l2, l3, some (v_i (x4 + (1 : Int32)))], [], h)) rfl).trans ?_
  all_goals exact Iff.rfl

theorem b_X12_merges_161 {d : Nat} {Q : Option am_V → am_H → Prop} (h : am_H) (x4 : Int32) (x3 : Int32) (l1 l2 : Option am_V) (Lh : Lay h) : ex_ d 268 161 [some (v_r (some 93)), l1, l2, some (v_i x3), some (v_i x4)] [] h Q ↔ vp_in x4 5 ∧ vp_in (h_i h 101 (Int32.toNatClampNeg x4)) 55 ∧ (if (h_i h 103 (Int32.toNatClampNeg (h_i h 101 (Int32.toNatClampNeg x4)))) = x3 then ex_ d 268 180 [some (v_r (some 93)), l1, l2, some (v_i x3), some (v_i x4)] [] h Q else ex_ d 268 177 [some (v_r (some 93)), l1, l2, some (v_i x3), some (v_i x4)] [] h Q) := by
  have e0 : h_r h 93 21 = some 103 := la_r Lh (q := (93, 21, 103)) (by decide)
  have e1 : h_r h 93 19 = some 101 := la_r Lh (q := (93, 19, 101)) (by decide)
  unfold ex_
  refine (am_Y_go 9 (ok := [am_is h (some 93) 12, am_is h (some 93) 12, am_ar h ((h_r h 93 19)) 20 x4, am_ar h ((h_r h 93 21)) 20 (h_i h ((h_r h 93 19).getD 0) (Int32.toNatClampNeg x4))]) (g := (if (h_i h ((h_r h 93 21).getD 0) (Int32.toNatClampNeg (h_i h ((h_r h 93 19).getD 0) (Int32.toNatClampNeg x4)))) = x3 then 180 else 177, [some (v_r (some 93)), l1, l2, some (v_i x3), some (v_i x4)], [], h)) rfl).trans ?_
  simp only [e0, e1, Option.getD_some, am_all]
  all_goals exact cj_d (la_is Lh (o := 93) rfl) (cj_d (la_is Lh (o := 93) rfl) (cj_k (la_ar Lh (o := 101) rfl) (cj_k (la_ar Lh (o := 103) rfl) (am_Y_if))))

theorem b_X12_merges_180 {d : Nat} {Q : Option am_V → am_H → Prop} (h : am_H) (x4 : Int32) (x2 : Int32) (l1 l3 : Option am_V) (Lh : Lay h) : ex_ d 268 180 [some (v_r (some 93)), l1, some (v_i x2), l3, some (v_i x4)] [] h Q ↔ vp_in x4 5 ∧ vp_in x4 5 ∧ ex_ d 268 135 [some (v_r (some 93)), l1, some (v_i (x2 + (-1 : Int32))), l3, some (v_i (x4 + (1 : Int32)))] [] (p_i h 101 (Int32.toNatClampNeg x4) ((h_i h 101 (Int32.toNatClampNeg x4)) + (1 : Int32))) Q := by
  have e0 : h_r h 93 19 = some 101 := la_r Lh (q := (93, 19, 101)) (by decide)
  unfold ex_
  refine (am_Y_go 11 (ok := [am_is h (some 93) 12, am_ar h ((h_r h 93 19)) 20 x4, am_ar h ((h_r h 93 19)) 20 x4]) (g := (135, [some (v_r (some 93)), l1, some (v_i (x2 + (-1 : Int32))), l3, some (v_i (x4 + (1 : Int32)))], [], (p_i h ((h_r h 93 19).getD 0) (Int32.toNatClampNeg x4) ((h_i h ((h_r h 93 19).getD 0) (Int32.toNatClampNeg x4)) + (1 : Int32))))) rfl).trans ?_
  simp only [e0, Option.getD_some, am_all]
  all_goals exact cj_d (la_is Lh (o := 93) rfl) (cj_k (la_ar Lh (o := 101) rfl) (cj_k (la_ar Lh (o := 101) rfl) (Iff.rfl)))

theorem b_X12_merges_177 {d : Nat} {Q : Option am_V → am_H → Prop} (h : am_H) (x4 : Int32) (l0 l1 l2 l3 : Option am_V) : ex_ d 268 177 [l0, l1, l2, l3, some (v_i x4)] [] h Q ↔ ex_ d 268 135 [l0, l1, l2, l3, some (v_i (x4 + (1 : Int32)))] [] h Q := by
  unfold ex_
  refine (am_Y_go 3 (ok := []) (g := (135, [l0, l1, l2, l3, some (v_i (x4 + (1 : Int32)))], [], h)) rfl).trans ?_
  all_goals exact Iff.rfl

theorem b_X12_laysOrder_0 {d : Nat} {Q : Option am_V → am_H → Prop} (h : am_H) (l0 l1 l2 l3 : Option am_V) : ex_ d 269 0 [l0, l1, l2, l3] [] h Q ↔ ex_ d 269 4 [l0, l1, some (v_i (0 : Int32)), some (v_i (0 : Int32))] [] h Q := by
  unfold ex_
  refine (am_Y_go 4 (ok := []) (g := (4, [l0, l1, some (v_i (0 : Int32)), some (v_i (0 : Int32))], [], h)) rfl).trans ?_
  all_goals exact Iff.rfl

theorem b_X12_laysOrder_4 {d : Nat} {Q : Option am_V → am_H → Prop} (h : am_H) (x3 : Int32) (l1 l2 : Option am_V) (Lh : Lay h) : ex_ d 269 4 [some (v_r (some 93)), l1, l2, some (v_i x3)] [] h Q ↔ if (h_i h 93 23) ≤ x3 then ex_ d 269 40 [some (v_r (some 93)), l1, l2, some (v_i x3)] [] h Q else ex_ d 269 12 [some (v_r (some 93)), l1, l2, some (v_i x3)] [] h Q := by
  unfold ex_
  refine (am_Y_go 4 (ok := [am_is h (some 93) 12]) (g := (if (h_i h 93 23) ≤ x3 then 40 else 12, [some (v_r (some 93)), l1, l2, some (v_i x3)], [], h)) rfl).trans ?_
  simp only [am_all]
  all_goals exact cj_d (la_is Lh (o := 93) rfl) (am_Y_if)

theorem b_X12_laysOrder_40 {d : Nat} {Q : Option am_V → am_H → Prop} (h : am_H) (x1 : Int32) (x2 : Int32) (l3 : Option am_V) (Lh : Lay h) : ex_ d 269 40 [some (v_r (some 93)), some (v_i x1), some (v_i x2), l3] [] h Q ↔ vp_in x1 11 ∧ (if x2 = 0 then ex_ d 269 60 [some (v_r (some 93)), some (v_i x1), some (v_i x2), l3] [v_i x1, v_r (some 100)] (p_i h 98 (Int32.toNatClampNeg x1) (0 : Int32)) Q else ex_ d 269 56 [some (v_r (some 93)), some (v_i x1), some (v_i x2), l3] [v_i x1, v_r (some 100)] (p_i h 98 (Int32.toNatClampNeg x1) (0 : Int32)) Q) := by
  have e0 : h_r h 93 16 = some 98 := la_r Lh (q := (93, 16, 98)) (by decide)
  have e1 : h_r h 93 18 = some 100 := la_r Lh (q := (93, 18, 100)) (by decide)
  unfold ex_
  refine (am_Y_go 10 (ok := [am_is h (some 93) 12, am_ar h ((h_r h 93 16)) 20 x1, am_is h (some 93) 12]) (g := (if x2 = 0 then 60 else 56, [some (v_r (some 93)), some (v_i x1), some (v_i x2), l3], [v_i x1, v_r ((h_r h 93 18))], (p_i h ((h_r h 93 16).getD 0) (Int32.toNatClampNeg x1) (0 : Int32)))) rfl).trans ?_
  simp only [e0, e1, Option.getD_some, am_all]
  all_goals exact cj_d (la_is Lh (o := 93) rfl) (cj_k (la_ar Lh (o := 98) rfl) (cj_d (la_is Lh (o := 93) rfl) (am_Y_if)))

theorem b_X12_laysOrder_12 {d : Nat} {Q : Option am_V → am_H → Prop} (h : am_H) (x2 : Int32) (x3 : Int32) (l1 : Option am_V) (Lh : Lay h) : ex_ d 269 12 [some (v_r (some 93)), l1, some (v_i x2), some (v_i x3)] [] h Q ↔ vp_in x3 4 ∧ vp_in (h_i h 104 (Int32.toNatClampNeg x3)) 11 ∧ (if (h_i h 100 (Int32.toNatClampNeg (h_i h 104 (Int32.toNatClampNeg x3)))) = 0 then ex_ d 269 31 [some (v_r (some 93)), l1, some (v_i x2), some (v_i x3)] [v_i x2] h Q else ex_ d 269 27 [some (v_r (some 93)), l1, some (v_i x2), some (v_i x3)] [v_i x2] h Q) := by
  have e0 : h_r h 93 18 = some 100 := la_r Lh (q := (93, 18, 100)) (by decide)
  have e1 : h_r h 93 22 = some 104 := la_r Lh (q := (93, 22, 104)) (by decide)
  unfold ex_
  refine (am_Y_go 9 (ok := [am_is h (some 93) 12, am_is h (some 93) 12, am_ar h ((h_r h 93 22)) 20 x3, am_ar h ((h_r h 93 18)) 20 (h_i h ((h_r h 93 22).getD 0) (Int32.toNatClampNeg x3))]) (g := (if (h_i h ((h_r h 93 18).getD 0) (Int32.toNatClampNeg (h_i h ((h_r h 93 22).getD 0) (Int32.toNatClampNeg x3)))) = 0 then 31 else 27, [some (v_r (some 93)), l1, some (v_i x2), some (v_i x3)], [v_i x2], h)) rfl).trans ?_
  simp only [e0, e1, Option.getD_some, am_all]
  all_goals exact cj_d (la_is Lh (o := 93) rfl) (cj_d (la_is Lh (o := 93) rfl) (cj_k (la_ar Lh (o := 104) rfl) (cj_k (la_ar Lh (o := 100) rfl) (am_Y_if))))

theorem b_X12_laysOrder_60 {d : Nat} {Q : Option am_V → am_H → Prop} (h : am_H) (s0 : Int32) (t1 : Nat) (x1 : Int32) (l2 l3 : Option am_V) (Lh : Lay h) {n_t1 : Nat} (A_t1 : y_arr h t1 20 n_t1) : ex_ (d + 1) 269 60 [some (v_r (some 93)), some (v_i x1), l2, l3] [v_i s0, v_r (some t1)] h Q ↔ ex_ d 268 0 [some (v_r (some 93)), some (v_i x1), none, none, none] [] h (fun r h' => ex_ (d + 1) 269 65 [some (v_r (some 93)), some (v_i x1), l2, l3] (r.toList ++ [v_i s0, v_r (some t1)]) h' Q) := by
  unfold ex_
  refine (am_Y_go 2 (ok := []) (g := (62, [some (v_r (some 93)), some (v_i x1), l2, l3], [v_i x1, v_r (some 93), v_i s0, v_r (some t1)], h)) rfl).trans ?_
  all_goals exact ((am_Y_call (j := 268) (na := 2) (ci := 12) (fl := 0) rfl rfl rfl).trans (cj_d ⟨⟨Nat.le_of_ble_eq_true rfl, Nat.le_of_ble_eq_true rfl, Nat.le_of_ble_eq_true rfl, rfl⟩, Or.inr (Or.inr (show (12 : Nat) < 20 ∧ am_is h (some 93) 12 from ⟨by decide, (la_is Lh (o := 93) rfl)⟩))⟩ Iff.rfl))

theorem b_X12_laysOrder_56 {d : Nat} {Q : Option am_V → am_H → Prop} (h : am_H) (s0 : Int32) (t1 : Nat) (l0 l1 l2 l3 : Option am_V) {n_t1 : Nat} (A_t1 : y_arr h t1 20 n_t1) : ex_ d 269 56 [l0, l1, l2, l3] [v_i s0, v_r (some t1)] h Q ↔ vp_in s0 n_t1 ∧ Q (none) (p_i h t1 (Int32.toNatClampNeg s0) (2 : Int32)) := by
  unfold ex_
  refine (am_Y_go 3 (ok := [am_ar h (some t1) 20 s0]) (g := (66, [l0, l1, l2, l3], [], (p_i h t1 (Int32.toNatClampNeg s0) (2 : Int32)))) rfl).trans ?_
  simp only [am_all]
  all_goals exact cj_k (lb_ar A_t1) (((am_Y_ret rfl rfl rfl).trans (am_rz rfl)))

theorem b_X12_laysOrder_31 {d : Nat} {Q : Option am_V → am_H → Prop} (h : am_H) (s0 : Int32) (x3 : Int32) (l0 l1 l2 : Option am_V) : ex_ d 269 31 [l0, l1, l2, some (v_i x3)] [v_i s0] h Q ↔ ex_ d 269 4 [l0, l1, some (v_i (s0 ||| (0 : Int32))), some (v_i (x3 + (1 : Int32)))] [] h Q := by
  unfold ex_
  refine (am_Y_go 5 (ok := []) (g := (4, [l0, l1, some (v_i (s0 ||| (0 : Int32))), some (v_i (x3 + (1 : Int32)))], [], h)) rfl).trans ?_
  all_goals exact Iff.rfl

theorem b_X12_laysOrder_27 {d : Nat} {Q : Option am_V → am_H → Prop} (h : am_H) (s0 : Int32) (x3 : Int32) (l0 l1 l2 : Option am_V) : ex_ d 269 27 [l0, l1, l2, some (v_i x3)] [v_i s0] h Q ↔ ex_ d 269 4 [l0, l1, some (v_i (s0 ||| (1 : Int32))), some (v_i (x3 + (1 : Int32)))] [] h Q := by
  unfold ex_
  refine (am_Y_go 6 (ok := []) (g := (4, [l0, l1, some (v_i (s0 ||| (1 : Int32))), some (v_i (x3 + (1 : Int32)))], [], h)) rfl).trans ?_
  all_goals exact Iff.rfl

theorem b_X12_laysOrder_65 {d : Nat} {Q : Option am_V → am_H → Prop} (h : am_H) (s0 : Int32) (s1 : Int32) (t2 : Nat) (l0 l1 l2 l3 : Option am_V) {n_t2 : Nat} (A_t2 : y_arr h t2 20 n_t2) : ex_ d 269 65 [l0, l1, l2, l3] [v_i s0, v_i s1, v_r (some t2)] h Q ↔ vp_in s1 n_t2 ∧ Q (none) (p_i h t2 (Int32.toNatClampNeg s1) s0) := by
  unfold ex_
  refine (am_Y_go 1 (ok := [am_ar h (some t2) 20 s1]) (g := (66, [l0, l1, l2, l3], [], (p_i h t2 (Int32.toNatClampNeg s1) s0))) rfl).trans ?_
  simp only [am_all]
  all_goals exact cj_k (lb_ar A_t2) (((am_Y_ret rfl rfl rfl).trans (am_rz rfl)))

theorem b_X12_laysParents_0 {d : Nat} {Q : Option am_V → am_H → Prop} (h : am_H) (x1 : Int32) (l2 : Option am_V) (Lh : Lay h) : ex_ d 270 0 [some (v_r (some 93)), some (v_i x1), l2] [] h Q ↔ vp_in ((8 : Int32) + x1) 7053 ∧ ex_ d 270 15 [some (v_r (some 93)), some (v_i x1), some (v_i (0 : Int32))] [] (p_i h 93 23 (h_i h 94 (Int32.toNatClampNeg ((8 : Int32) + x1)))) Q := by
  have e0 : h_r h 93 1 = some 94 := la_r Lh (q := (93, 1, 94)) (by decide)
  unfold ex_
  refine (am_Y_go 10 (ok := [am_is h (some 93) 12, am_ar h ((h_r h 93 1)) 20 ((8 : Int32) + x1), am_is h (some 93) 12]) (g := (15, [some (v_r (some 93)), some (v_i x1), some (v_i (0 : Int32))], [], (p_i h 93 23 (h_i h ((h_r h 93 1).getD 0) (Int32.toNatClampNeg ((8 : Int32) + x1)))))) rfl).trans ?_
  simp only [e0, Option.getD_some, am_all]
  all_goals exact cj_d (la_is Lh (o := 93) rfl) (cj_k (la_ar Lh (o := 94) rfl) (cj_d (la_is Lh (o := 93) rfl) (Iff.rfl)))

theorem b_X12_laysParents_15 {d : Nat} {Q : Option am_V → am_H → Prop} (h : am_H) (x2 : Int32) (l1 : Option am_V) (Lh : Lay h) : ex_ d 270 15 [some (v_r (some 93)), l1, some (v_i x2)] [] h Q ↔ if (h_i h 93 23) ≤ x2 then ex_ d 270 41 [some (v_r (some 93)), l1, some (v_i x2)] [] h Q else ex_ d 270 23 [some (v_r (some 93)), l1, some (v_i x2)] [] h Q := by
  unfold ex_
  refine (am_Y_go 4 (ok := [am_is h (some 93) 12]) (g := (if (h_i h 93 23) ≤ x2 then 41 else 23, [some (v_r (some 93)), l1, some (v_i x2)], [], h)) rfl).trans ?_
  simp only [am_all]
  all_goals exact cj_d (la_is Lh (o := 93) rfl) (am_Y_if)

theorem b_X12_laysParents_41 {d : Nat} {Q : Option am_V → am_H → Prop} (h : am_H) (l0 l1 l2 : Option am_V) : ex_ d 270 41 [l0, l1, l2] [] h Q ↔ Q (none) h := by
  unfold ex_
  exact ((am_Y_ret rfl rfl rfl).trans (am_rz rfl))

theorem b_X12_laysParents_23 {d : Nat} {Q : Option am_V → am_H → Prop} (h : am_H) (x2 : Int32) (x1 : Int32) (Lh : Lay h) : ex_ (d + 1) 270 23 [some (v_r (some 93)), some (v_i x1), some (v_i x2)] [] h Q ↔ ex_ d 264 0 [some (v_r (some 93)), some (v_i x1), some (v_i x2)] [] h (fun r h' => ex_ (d + 1) 270 34 [some (v_r (some 93)), some (v_i x1), some (v_i x2)] (r.toList ++ [v_i x2, v_r (some 104)]) h' Q) := by
  have e0 : h_r h 93 22 = some 104 := la_r Lh (q := (93, 22, 104)) (by decide)
  unfold ex_
  refine (am_Y_go 6 (ok := [am_is h (some 93) 12]) (g := (31, [some (v_r (some 93)), some (v_i x1), some (v_i x2)], [v_i x2, v_i x1, v_r (some 93), v_i x2, v_r ((h_r h 93 22))], h)) rfl).trans ?_
  simp only [e0, Option.getD_some, am_all]
  all_goals exact cj_d (la_is Lh (o := 93) rfl) (((am_Y_call (j := 264) (na := 3) (ci := 12) (fl := 0) rfl rfl rfl).trans (cj_d ⟨⟨Nat.le_of_ble_eq_true rfl, Nat.le_of_ble_eq_true rfl, Nat.le_of_ble_eq_true rfl, rfl⟩, Or.inr (Or.inr (show (12 : Nat) < 20 ∧ am_is h (some 93) 12 from ⟨by decide, (la_is Lh (o := 93) rfl)⟩))⟩ Iff.rfl)))

theorem b_X12_laysParents_34 {d : Nat} {Q : Option am_V → am_H → Prop} (h : am_H) (s0 : Int32) (s1 : Int32) (t2 : Nat) (x2 : Int32) (l0 l1 : Option am_V) {n_t2 : Nat} (A_t2 : y_arr h t2 20 n_t2) : ex_ d 270 34 [l0, l1, some (v_i x2)] [v_i s0, v_i s1, v_r (some t2)] h Q ↔ vp_in s1 n_t2 ∧ ex_ d 270 15 [l0, l1, some (v_i (x2 + (1 : Int32)))] [] (p_i h t2 (Int32.toNatClampNeg s1) s0) Q := by
  unfold ex_
  refine (am_Y_go 3 (ok := [am_ar h (some t2) 20 s1]) (g := (15, [l0, l1, some (v_i (x2 + (1 : Int32)))], [], (p_i h t2 (Int32.toNatClampNeg s1) s0))) rfl).trans ?_
  simp only [am_all]
  all_goals exact cj_k (lb_ar A_t2) (Iff.rfl)

theorem b_X12_laysOrders_0 {d : Nat} {Q : Option am_V → am_H → Prop} (h : am_H) (l0 l1 : Option am_V) : ex_ d 271 0 [l0, l1] [] h Q ↔ ex_ d 271 2 [l0, some (v_i (0 : Int32))] [] h Q := by
  unfold ex_
  refine (am_Y_go 2 (ok := []) (g := (2, [l0, some (v_i (0 : Int32))], [], h)) rfl).trans ?_
  all_goals exact Iff.rfl

theorem b_X12_laysOrders_2 {d : Nat} {Q : Option am_V → am_H → Prop} (h : am_H) (x1 : Int32) (Lh : Lay h) : ex_ d 271 2 [some (v_r (some 93)), some (v_i x1)] [] h Q ↔ vp_in (1 : Int32) 7053 ∧ (if (h_i h 94 (Int32.toNatClampNeg (1 : Int32))) ≤ x1 then ex_ d 271 28 [some (v_r (some 93)), some (v_i x1)] [] h Q else ex_ d 271 12 [some (v_r (some 93)), some (v_i x1)] [] h Q) := by
  have e0 : h_r h 93 1 = some 94 := la_r Lh (q := (93, 1, 94)) (by decide)
  unfold ex_
  refine (am_Y_go 6 (ok := [am_is h (some 93) 12, am_ar h ((h_r h 93 1)) 20 (1 : Int32)]) (g := (if (h_i h ((h_r h 93 1).getD 0) (Int32.toNatClampNeg (1 : Int32))) ≤ x1 then 28 else 12, [some (v_r (some 93)), some (v_i x1)], [], h)) rfl).trans ?_
  simp only [e0, Option.getD_some, am_all]
  all_goals exact cj_d (la_is Lh (o := 93) rfl) (cj_k (la_ar Lh (o := 94) rfl) (am_Y_if))

theorem b_X12_laysOrders_28 {d : Nat} {Q : Option am_V → am_H → Prop} (h : am_H) (l0 l1 : Option am_V) : ex_ d 271 28 [l0, l1] [] h Q ↔ Q (none) h := by
  unfold ex_
  exact ((am_Y_ret rfl rfl rfl).trans (am_rz rfl))

theorem b_X12_laysOrders_12 {d : Nat} {Q : Option am_V → am_H → Prop} (h : am_H) (x1 : Int32) (Lh : Lay h) : ex_ (d + 1) 271 12 [some (v_r (some 93)), some (v_i x1)] [] h Q ↔ ex_ d 270 0 [some (v_r (some 93)), some (v_i x1), none] [] h (fun r h' => ex_ (d + 1) 271 17 [some (v_r (some 93)), some (v_i x1)] (r.toList ++ []) h' Q) := by
  unfold ex_
  refine (am_Y_go 2 (ok := []) (g := (14, [some (v_r (some 93)), some (v_i x1)], [v_i x1, v_r (some 93)], h)) rfl).trans ?_
  all_goals exact ((am_Y_call (j := 270) (na := 2) (ci := 12) (fl := 0) rfl rfl rfl).trans (cj_d ⟨⟨Nat.le_of_ble_eq_true rfl, Nat.le_of_ble_eq_true rfl, Nat.le_of_ble_eq_true rfl, rfl⟩, Or.inr (Or.inr (show (12 : Nat) < 20 ∧ am_is h (some 93) 12 from ⟨by decide, (la_is Lh (o := 93) rfl)⟩))⟩ Iff.rfl))

theorem b_X12_laysOrders_17 {d : Nat} {Q : Option am_V → am_H → Prop} (h : am_H) (x1 : Int32) (Lh : Lay h) : ex_ (d + 1) 271 17 [some (v_r (some 93)), some (v_i x1)] [] h Q ↔ ex_ d 269 0 [some (v_r (some 93)), some (v_i x1), none, none] [] h (fun r h' => ex_ (d + 1) 271 22 [some (v_r (some 93)), some (v_i x1)] (r.toList ++ []) h' Q) := by
  unfold ex_
  refine (am_Y_go 2 (ok := []) (g := (19, [some (v_r (some 93)), some (v_i x1)], [v_i x1, v_r (some 93)], h)) rfl).trans ?_
  all_goals exact ((am_Y_call (j := 269) (na := 2) (ci := 12) (fl := 0) rfl rfl rfl).trans (cj_d ⟨⟨Nat.le_of_ble_eq_true rfl, Nat.le_of_ble_eq_true rfl, Nat.le_of_ble_eq_true rfl, rfl⟩, Or.inr (Or.inr (show (12 : Nat) < 20 ∧ am_is h (some 93) 12 from ⟨by decide, (la_is Lh (o := 93) rfl)⟩))⟩ Iff.rfl))

theorem b_X12_laysOrders_22 {d : Nat} {Q : Option am_V → am_H → Prop} (h : am_H) (x1 : Int32) (l0 : Option am_V) : ex_ d 271 22 [l0, some (v_i x1)] [] h Q ↔ ex_ d 271 2 [l0, some (v_i (x1 + (1 : Int32)))] [] h Q := by
  unfold ex_
  refine (am_Y_go 2 (ok := []) (g := (2, [l0, some (v_i (x1 + (1 : Int32)))], [], h)) rfl).trans ?_
  all_goals exact Iff.rfl

theorem b_X12_placeIn_0 {d : Nat} {Q : Option am_V → am_H → Prop} (h : am_H) (l0 l1 l2 l3 : Option am_V) : ex_ d 272 0 [l0, l1, l2, l3] [] h Q ↔ ex_ d 272 2 [l0, l1, l2, some (v_i (0 : Int32))] [] h Q := by
  unfold ex_
  refine (am_Y_go 2 (ok := []) (g := (2, [l0, l1, l2, some (v_i (0 : Int32))], [], h)) rfl).trans ?_
  all_goals exact Iff.rfl

theorem b_X12_placeIn_2 {d : Nat} {Q : Option am_V → am_H → Prop} (h : am_H) (x3 : Int32) (x1 : Int32) (l2 : Option am_V) (Lh : Lay h) : ex_ d 272 2 [some (v_r (some 93)), some (v_i x1), l2, some (v_i x3)] [] h Q ↔ vp_in x1 11 ∧ (if (h_i h 98 (Int32.toNatClampNeg x1)) ≤ x3 then ex_ d 272 35 [some (v_r (some 93)), some (v_i x1), l2, some (v_i x3)] [] h Q else ex_ d 272 12 [some (v_r (some 93)), some (v_i x1), l2, some (v_i x3)] [] h Q) := by
  have e0 : h_r h 93 16 = some 98 := la_r Lh (q := (93, 16, 98)) (by decide)
  unfold ex_
  refine (am_Y_go 6 (ok := [am_is h (some 93) 12, am_ar h ((h_r h 93 16)) 20 x1]) (g := (if (h_i h ((h_r h 93 16).getD 0) (Int32.toNatClampNeg x1)) ≤ x3 then 35 else 12, [some (v_r (some 93)), some (v_i x1), l2, some (v_i x3)], [], h)) rfl).trans ?_
  simp only [e0, Option.getD_some, am_all]
  all_goals exact cj_d (la_is Lh (o := 93) rfl) (cj_k (la_ar Lh (o := 98) rfl) (am_Y_if))

theorem b_X12_placeIn_35 {d : Nat} {Q : Option am_V → am_H → Prop} (h : am_H) (l0 l1 l2 l3 : Option am_V) : ex_ d 272 35 [l0, l1, l2, l3] [] h Q ↔ Q (some (v_i (-1 : Int32))) h := by
  unfold ex_
  refine (am_Y_go 1 (ok := []) (g := (36, [l0, l1, l2, l3], [v_i (-1 : Int32)], h)) rfl).trans ?_
  all_goals exact ((am_Y_ret rfl rfl rfl).trans (am_r0))

theorem b_X12_placeIn_12 {d : Nat} {Q : Option am_V → am_H → Prop} (h : am_H) (x1 : Int32) (x3 : Int32) (x2 : Int32) (Lh : Lay h) : ex_ d 272 12 [some (v_r (some 93)), some (v_i x1), some (v_i x2), some (v_i x3)] [] h Q ↔ vp_in (((11 : Int32) * x1) + x3) 121 ∧ (if ¬ (h_i h 99 (Int32.toNatClampNeg (((11 : Int32) * x1) + x3))) = x2 then ex_ d 272 29 [some (v_r (some 93)), some (v_i x1), some (v_i x2), some (v_i x3)] [] h Q else ex_ d 272 27 [some (v_r (some 93)), some (v_i x1), some (v_i x2), some (v_i x3)] [] h Q) := by
  have e0 : h_r h 93 17 = some 99 := la_r Lh (q := (93, 17, 99)) (by decide)
  unfold ex_
  refine (am_Y_go 10 (ok := [am_is h (some 93) 12, am_ar h ((h_r h 93 17)) 20 (((11 : Int32) * x1) + x3)]) (g := (if ¬ (h_i h ((h_r h 93 17).getD 0) (Int32.toNatClampNeg (((11 : Int32) * x1) + x3))) = x2 then 29 else 27, [some (v_r (some 93)), some (v_i x1), some (v_i x2), some (v_i x3)], [], h)) rfl).trans ?_
  simp only [e0, Option.getD_some, am_all]
  all_goals exact cj_d (la_is Lh (o := 93) rfl) (cj_k (la_ar Lh (o := 99) rfl) (am_Y_if))

theorem b_X12_placeIn_29 {d : Nat} {Q : Option am_V → am_H → Prop} (h : am_H) (x3 : Int32) (l0 l1 l2 : Option am_V) : ex_ d 272 29 [l0, l1, l2, some (v_i x3)] [] h Q ↔ ex_ d 272 2 [l0, l1, l2, some (v_i (x3 + (1 : Int32)))] [] h Q := by
  unfold ex_
  refine (am_Y_go 2 (ok := []) (g := (2, [l0, l1, l2, some (v_i (x3 + (1 : Int32)))], [], h)) rfl).trans ?_
  all_goals exact Iff.rfl

theorem b_X12_placeIn_27 {d : Nat} {Q : Option am_V → am_H → Prop} (h : am_H) (x3 : Int32) (l0 l1 l2 : Option am_V) : ex_ d 272 27 [l0, l1, l2, some (v_i x3)] [] h Q ↔ Q (some (v_i x3)) h := by
  unfold ex_
  refine (am_Y_go 1 (ok := []) (g := (28, [l0, l1, l2, some (v_i x3)], [v_i x3], h)) rfl).trans ?_
  all_goals exact ((am_Y_ret rfl rfl rfl).trans (am_r0))

theorem b_X12_statesOf_0 {d : Nat} {Q : Option am_V → am_H → Prop} (h : am_H) (l0 l1 l2 l3 : Option am_V) : ex_ d 273 0 [l0, l1, l2, l3] [] h Q ↔ ex_ d 273 4 [l0, l1, some (v_i (0 : Int32)), some (v_i (0 : Int32))] [] h Q := by
  unfold ex_
  refine (am_Y_go 4 (ok := []) (g := (4, [l0, l1, some (v_i (0 : Int32)), some (v_i (0 : Int32))], [], h)) rfl).trans ?_
  all_goals exact Iff.rfl

theorem b_X12_statesOf_4 {d : Nat} {Q : Option am_V → am_H → Prop} (h : am_H) (x3 : Int32) (l1 l2 : Option am_V) (Lh : Lay h) : ex_ d 273 4 [some (v_r (some 93)), l1, l2, some (v_i x3)] [] h Q ↔ vp_in (1 : Int32) 7053 ∧ (if (h_i h 94 (Int32.toNatClampNeg (1 : Int32))) ≤ x3 then ex_ d 273 40 [some (v_r (some 93)), l1, l2, some (v_i x3)] [] h Q else ex_ d 273 14 [some (v_r (some 93)), l1, l2, some (v_i x3)] [] h Q) := by
  have e0 : h_r h 93 1 = some 94 := la_r Lh (q := (93, 1, 94)) (by decide)
  unfold ex_
  refine (am_Y_go 6 (ok := [am_is h (some 93) 12, am_ar h ((h_r h 93 1)) 20 (1 : Int32)]) (g := (if (h_i h ((h_r h 93 1).getD 0) (Int32.toNatClampNeg (1 : Int32))) ≤ x3 then 40 else 14, [some (v_r (some 93)), l1, l2, some (v_i x3)], [], h)) rfl).trans ?_
  simp only [e0, Option.getD_some, am_all]
  all_goals exact cj_d (la_is Lh (o := 93) rfl) (cj_k (la_ar Lh (o := 94) rfl) (am_Y_if))

theorem b_X12_statesOf_40 {d : Nat} {Q : Option am_V → am_H → Prop} (h : am_H) (x2 : Int32) (l0 l1 l3 : Option am_V) : ex_ d 273 40 [l0, l1, some (v_i x2), l3] [] h Q ↔ Q (some (v_i x2)) h := by
  unfold ex_
  refine (am_Y_go 1 (ok := []) (g := (41, [l0, l1, some (v_i x2), l3], [v_i x2], h)) rfl).trans ?_
  all_goals exact ((am_Y_ret rfl rfl rfl).trans (am_r0))

theorem b_X12_statesOf_14 {d : Nat} {Q : Option am_V → am_H → Prop} (h : am_H) (x2 : Int32) (x3 : Int32) (x1 : Int32) (Lh : Lay h) : ex_ d 273 14 [some (v_r (some 93)), some (v_i x1), some (v_i x2), some (v_i x3)] [] h Q ↔ vp_in x3 11 ∧ (if ¬ (h_i h 100 (Int32.toNatClampNeg x3)) = x1 then ex_ d 273 31 [some (v_r (some 93)), some (v_i x1), some (v_i x2), some (v_i x3)] [v_i x2] h Q else ex_ d 273 25 [some (v_r (some 93)), some (v_i x1), some (v_i x2), some (v_i x3)] [v_i x2] h Q) := by
  have e0 : h_r h 93 18 = some 100 := la_r Lh (q := (93, 18, 100)) (by decide)
  unfold ex_
  refine (am_Y_go 7 (ok := [am_is h (some 93) 12, am_ar h ((h_r h 93 18)) 20 x3]) (g := (if ¬ (h_i h ((h_r h 93 18).getD 0) (Int32.toNatClampNeg x3)) = x1 then 31 else 25, [some (v_r (some 93)), some (v_i x1), some (v_i x2), some (v_i x3)], [v_i x2], h)) rfl).trans ?_
  simp only [e0, Option.getD_some, am_all]
  all_goals exact cj_d (la_is Lh (o := 93) rfl) (cj_k (la_ar Lh (o := 100) rfl) (am_Y_if))

theorem b_X12_statesOf_31 {d : Nat} {Q : Option am_V → am_H → Prop} (h : am_H) (s0 : Int32) (x3 : Int32) (l0 l1 l2 : Option am_V) : ex_ d 273 31 [l0, l1, l2, some (v_i x3)] [v_i s0] h Q ↔ ex_ d 273 4 [l0, l1, some (v_i (s0 ||| (0 : Int32))), some (v_i (x3 + (1 : Int32)))] [] h Q := by
  unfold ex_
  refine (am_Y_go 5 (ok := []) (g := (4, [l0, l1, some (v_i (s0 ||| (0 : Int32))), some (v_i (x3 + (1 : Int32)))], [], h)) rfl).trans ?_
  all_goals exact Iff.rfl

theorem b_X12_statesOf_25 {d : Nat} {Q : Option am_V → am_H → Prop} (h : am_H) (s0 : Int32) (x3 : Int32) (l0 l1 l2 : Option am_V) : ex_ d 273 25 [l0, l1, l2, some (v_i x3)] [v_i s0] h Q ↔ ex_ d 273 4 [l0, l1, some (v_i (s0 ||| ((1 : Int32) <<< (x3 &&& 31)))), some (v_i (x3 + (1 : Int32)))] [] h Q := by
  unfold ex_
  refine (am_Y_go 8 (ok := []) (g := (4, [l0, l1, some (v_i (s0 ||| ((1 : Int32) <<< (x3 &&& 31)))), some (v_i (x3 + (1 : Int32)))], [], h)) rfl).trans ?_
  all_goals exact Iff.rfl

theorem b_X12_bitsOf_0 {d : Nat} {Q : Option am_V → am_H → Prop} (h : am_H) (l0 l1 l2 : Option am_V) : ex_ d 274 0 [l0, l1, l2] [] h Q ↔ ex_ d 274 4 [l0, some (v_i (0 : Int32)), some (v_i (0 : Int32))] [] h Q := by
  unfold ex_
  refine (am_Y_go 4 (ok := []) (g := (4, [l0, some (v_i (0 : Int32)), some (v_i (0 : Int32))], [], h)) rfl).trans ?_
  all_goals exact Iff.rfl

theorem b_X12_bitsOf_4 {d : Nat} {Q : Option am_V → am_H → Prop} (h : am_H) (x2 : Int32) (l0 l1 : Option am_V) : ex_ d 274 4 [l0, l1, some (v_i x2)] [] h Q ↔ if (11 : Int32) ≤ x2 then ex_ d 274 24 [l0, l1, some (v_i x2)] [] h Q else ex_ d 274 10 [l0, l1, some (v_i x2)] [] h Q := by
  unfold ex_
  refine (am_Y_go 3 (ok := []) (g := (if (11 : Int32) ≤ x2 then 24 else 10, [l0, l1, some (v_i x2)], [], h)) rfl).trans ?_
  all_goals exact am_Y_if

theorem b_X12_bitsOf_24 {d : Nat} {Q : Option am_V → am_H → Prop} (h : am_H) (x1 : Int32) (l0 l2 : Option am_V) : ex_ d 274 24 [l0, some (v_i x1), l2] [] h Q ↔ Q (some (v_i x1)) h := by
  unfold ex_
  refine (am_Y_go 1 (ok := []) (g := (25, [l0, some (v_i x1), l2], [v_i x1], h)) rfl).trans ?_
  all_goals exact ((am_Y_ret rfl rfl rfl).trans (am_r0))

theorem b_X12_bitsOf_10 {d : Nat} {Q : Option am_V → am_H → Prop} (h : am_H) (x1 : Int32) (x0 : Int32) (x2 : Int32) : ex_ d 274 10 [some (v_i x0), some (v_i x1), some (v_i x2)] [] h Q ↔ ex_ d 274 4 [some (v_i x0), some (v_i (x1 + ((x0 >>> (x2 &&& 31)) &&& (1 : Int32)))), some (v_i (x2 + (1 : Int32)))] [] h Q := by
  unfold ex_
  refine (am_Y_go 10 (ok := []) (g := (4, [some (v_i x0), some (v_i (x1 + ((x0 >>> (x2 &&& 31)) &&& (1 : Int32)))), some (v_i (x2 + (1 : Int32)))], [], h)) rfl).trans ?_
  all_goals exact Iff.rfl

theorem b_X12_parent_0 {d : Nat} {Q : Option am_V → am_H → Prop} (h : am_H) (x1 : Int32) (l2 : Option am_V) (Lh : Lay h) : ex_ (d + 1) 275 0 [some (v_r (some 93)), some (v_i x1), l2] [] h Q ↔ ex_ d 262 0 [some (v_r (some 93)), some (v_l (Int32.toInt64 x1)), none] [] (p_i h 93 0 (0 : Int32)) (fun r h' => ex_ (d + 1) 275 11 [some (v_r (some 93)), some (v_i x1), l2] (r.toList ++ []) h' Q) := by
  unfold ex_
  refine (am_Y_go 6 (ok := [am_is h (some 93) 12]) (g := (8, [some (v_r (some 93)), some (v_i x1), l2], [v_l (Int32.toInt64 x1), v_r (some 93)], (p_i h 93 0 (0 : Int32)))) rfl).trans ?_
  simp only [am_all]
  all_goals exact cj_d (la_is Lh (o := 93) rfl) (((am_Y_call (j := 262) (na := 2) (ci := 12) (fl := 0) rfl rfl rfl).trans (cj_d ⟨⟨Nat.le_of_ble_eq_true rfl, Nat.le_of_ble_eq_true rfl, Nat.le_of_ble_eq_true rfl, rfl⟩, Or.inr (Or.inr (show (12 : Nat) < 20 ∧ am_is h (some 93) 12 from ⟨by decide, (la_is Lh (o := 93) rfl)⟩))⟩ Iff.rfl)))

theorem b_X12_parent_11 {d : Nat} {Q : Option am_V → am_H → Prop} (h : am_H) (s0 : Int32) (l0 l1 l2 : Option am_V) : ex_ d 275 11 [l0, l1, l2] [v_i s0] h Q ↔ if ¬ s0 = 0 then ex_ d 275 17 [l0, l1, l2] [] h Q else ex_ d 275 14 [l0, l1, l2] [] h Q := by
  unfold ex_
  refine (am_Y_go 1 (ok := []) (g := (if ¬ s0 = 0 then 17 else 14, [l0, l1, l2], [], h)) rfl).trans ?_
  all_goals exact am_Y_if

theorem b_X12_parent_17 {d : Nat} {Q : Option am_V → am_H → Prop} (h : am_H) (x2 : Int32) (l0 l1 : Option am_V) : ex_ d 275 17 [l0, l1, some (v_i x2)] [] h Q ↔ if 0 ≤ x2 then ex_ d 275 24 [l0, l1, some (v_i x2)] [] h Q else ex_ d 275 21 [l0, l1, some (v_i x2)] [] h Q := by
  unfold ex_
  refine (am_Y_go 2 (ok := []) (g := (if 0 ≤ x2 then 24 else 21, [l0, l1, some (v_i x2)], [], h)) rfl).trans ?_
  all_goals exact am_Y_if

theorem b_X12_parent_14 {d : Nat} {Q : Option am_V → am_H → Prop} (h : am_H) (l0 l1 l2 : Option am_V) : ex_ d 275 14 [l0, l1, l2] [] h Q ↔ Q (some (v_i (-2 : Int32))) h := by
  unfold ex_
  refine (am_Y_go 1 (ok := []) (g := (16, [l0, l1, l2], [v_i (-2 : Int32)], h)) rfl).trans ?_
  all_goals exact ((am_Y_ret rfl rfl rfl).trans (am_r0))

theorem b_X12_parent_24 {d : Nat} {Q : Option am_V → am_H → Prop} (h : am_H) (x2 : Int32) (x1 : Int32) (Lh : Lay h) : ex_ d 275 24 [some (v_r (some 93)), some (v_i x1), some (v_i x2)] [] h Q ↔ vp_in ((8 : Int32) + x1) 7053 ∧ (if (h_i h 94 (Int32.toNatClampNeg ((8 : Int32) + x1))) ≤ x2 then ex_ d 275 46 [some (v_r (some 93)), some (v_i x1), some (v_i x2)] [] h Q else ex_ d 275 37 [some (v_r (some 93)), some (v_i x1), some (v_i x2)] [] h Q) := by
  have e0 : h_r h 93 1 = some 94 := la_r Lh (q := (93, 1, 94)) (by decide)
  unfold ex_
  refine (am_Y_go 8 (ok := [am_is h (some 93) 12, am_ar h ((h_r h 93 1)) 20 ((8 : Int32) + x1)]) (g := (if (h_i h ((h_r h 93 1).getD 0) (Int32.toNatClampNeg ((8 : Int32) + x1))) ≤ x2 then 46 else 37, [some (v_r (some 93)), some (v_i x1), some (v_i x2)], [], h)) rfl).trans ?_
  simp only [e0, Option.getD_some, am_all]
  all_goals exact cj_d (la_is Lh (o := 93) rfl) (cj_k (la_ar Lh (o := 94) rfl) (am_Y_if))

theorem b_X12_parent_21 {d : Nat} {Q : Option am_V → am_H → Prop} (h : am_H) (l0 l1 l2 : Option am_V) : ex_ d 275 21 [l0, l1, l2] [] h Q ↔ Q (some (v_i (-3 : Int32))) h := by
  unfold ex_
  refine (am_Y_go 1 (ok := []) (g := (23, [l0, l1, l2], [v_i (-3 : Int32)], h)) rfl).trans ?_
  all_goals exact ((am_Y_ret rfl rfl rfl).trans (am_r0))

theorem b_X12_parent_46 {d : Nat} {Q : Option am_V → am_H → Prop} (h : am_H) (l0 l1 l2 : Option am_V) : ex_ d 275 46 [l0, l1, l2] [] h Q ↔ Q (some (v_i (-1 : Int32))) h := by
  unfold ex_
  refine (am_Y_go 1 (ok := []) (g := (47, [l0, l1, l2], [v_i (-1 : Int32)], h)) rfl).trans ?_
  all_goals exact ((am_Y_ret rfl rfl rfl).trans (am_r0))

theorem b_X12_parent_37 {d : Nat} {Q : Option am_V → am_H → Prop} (h : am_H) (x1 : Int32) (x2 : Int32) (Lh : Lay h) : ex_ (d + 1) 275 37 [some (v_r (some 93)), some (v_i x1), some (v_i x2)] [] h Q ↔ ex_ d 264 0 [some (v_r (some 93)), some (v_i x1), some (v_i x2)] [] h (fun r h' => ex_ (d + 1) 275 43 [some (v_r (some 93)), some (v_i x1), some (v_i x2)] (r.toList ++ []) h' Q) := by
  unfold ex_
  refine (am_Y_go 3 (ok := []) (g := (40, [some (v_r (some 93)), some (v_i x1), some (v_i x2)], [v_i x2, v_i x1, v_r (some 93)], h)) rfl).trans ?_
  all_goals exact ((am_Y_call (j := 264) (na := 3) (ci := 12) (fl := 0) rfl rfl rfl).trans (cj_d ⟨⟨Nat.le_of_ble_eq_true rfl, Nat.le_of_ble_eq_true rfl, Nat.le_of_ble_eq_true rfl, rfl⟩, Or.inr (Or.inr (show (12 : Nat) < 20 ∧ am_is h (some 93) 12 from ⟨by decide, (la_is Lh (o := 93) rfl)⟩))⟩ Iff.rfl))

theorem b_X12_parent_43 {d : Nat} {Q : Option am_V → am_H → Prop} (h : am_H) (s0 : Int32) (l0 l1 l2 : Option am_V) : ex_ d 275 43 [l0, l1, l2] [v_i s0] h Q ↔ Q (some (v_i s0)) h := by
  unfold ex_
  refine (am_Y_go 1 (ok := []) (g := (47, [l0, l1, l2], [v_i s0], h)) rfl).trans ?_
  all_goals exact ((am_Y_ret rfl rfl rfl).trans (am_r0))

theorem b_X12_defines_0 {d : Nat} {Q : Option am_V → am_H → Prop} (h : am_H) (x1 : Int32) (l2 : Option am_V) (Lh : Lay h) : ex_ (d + 1) 276 0 [some (v_r (some 93)), some (v_i x1), l2] [] h Q ↔ ex_ d 262 0 [some (v_r (some 93)), some (v_l (Int32.toInt64 x1)), none] [] (p_i h 93 0 (0 : Int32)) (fun r h' => ex_ (d + 1) 276 11 [some (v_r (some 93)), some (v_i x1), l2] (r.toList ++ []) h' Q) := by
  unfold ex_
  refine (am_Y_go 6 (ok := [am_is h (some 93) 12]) (g := (8, [some (v_r (some 93)), some (v_i x1), l2], [v_l (Int32.toInt64 x1), v_r (some 93)], (p_i h 93 0 (0 : Int32)))) rfl).trans ?_
  simp only [am_all]
  all_goals exact cj_d (la_is Lh (o := 93) rfl) (((am_Y_call (j := 262) (na := 2) (ci := 12) (fl := 0) rfl rfl rfl).trans (cj_d ⟨⟨Nat.le_of_ble_eq_true rfl, Nat.le_of_ble_eq_true rfl, Nat.le_of_ble_eq_true rfl, rfl⟩, Or.inr (Or.inr (show (12 : Nat) < 20 ∧ am_is h (some 93) 12 from ⟨by decide, (la_is Lh (o := 93) rfl)⟩))⟩ Iff.rfl)))

theorem b_X12_defines_11 {d : Nat} {Q : Option am_V → am_H → Prop} (h : am_H) (s0 : Int32) (l0 l1 l2 : Option am_V) : ex_ d 276 11 [l0, l1, l2] [v_i s0] h Q ↔ if s0 = 0 then ex_ d 276 39 [l0, l1, l2] [] h Q else ex_ d 276 14 [l0, l1, l2] [] h Q := by
  unfold ex_
  refine (am_Y_go 1 (ok := []) (g := (if s0 = 0 then 39 else 14, [l0, l1, l2], [], h)) rfl).trans ?_
  all_goals exact am_Y_if

theorem b_X12_defines_39 {d : Nat} {Q : Option am_V → am_H → Prop} (h : am_H) (l0 l1 l2 : Option am_V) : ex_ d 276 39 [l0, l1, l2] [] h Q ↔ Q (some (v_i (-2 : Int32))) h := by
  unfold ex_
  refine (am_Y_go 1 (ok := []) (g := (41, [l0, l1, l2], [v_i (-2 : Int32)], h)) rfl).trans ?_
  all_goals exact ((am_Y_ret rfl rfl rfl).trans (am_r0))

theorem b_X12_defines_14 {d : Nat} {Q : Option am_V → am_H → Prop} (h : am_H) (x2 : Int32) (l0 l1 : Option am_V) : ex_ (d + 1) 276 14 [l0, l1, some (v_i x2)] [] h Q ↔ ex_ d 263 0 [some (v_l (Int32.toInt64 x2)), none] [] h (fun r h' => ex_ (d + 1) 276 19 [l0, l1, some (v_i x2)] (r.toList ++ []) h' Q) := by
  unfold ex_
  refine (am_Y_go 2 (ok := []) (g := (16, [l0, l1, some (v_i x2)], [v_l (Int32.toInt64 x2)], h)) rfl).trans ?_
  all_goals exact ((am_Y_call (j := 263) (na := 1) (ci := 12) (fl := 2) rfl rfl rfl).trans (cj_d ⟨⟨Nat.le_of_ble_eq_true rfl, Nat.le_of_ble_eq_true rfl, Nat.le_of_ble_eq_true rfl, rfl⟩, Or.inl rfl⟩ Iff.rfl))

theorem b_X12_defines_19 {d : Nat} {Q : Option am_V → am_H → Prop} (h : am_H) (s0 : Int32) (l0 l1 l2 : Option am_V) : ex_ d 276 19 [l0, l1, l2] [v_i s0] h Q ↔ if s0 = 0 then ex_ d 276 39 [l0, l1, l2] [] h Q else ex_ d 276 22 [l0, l1, l2] [] h Q := by
  unfold ex_
  refine (am_Y_go 1 (ok := []) (g := (if s0 = 0 then 39 else 22, [l0, l1, l2], [], h)) rfl).trans ?_
  all_goals exact am_Y_if

theorem b_X12_defines_22 {d : Nat} {Q : Option am_V → am_H → Prop} (h : am_H) (x1 : Int32) (x2 : Int32) (Lh : Lay h) : ex_ d 276 22 [some (v_r (some 93)), some (v_i x1), some (v_i x2)] [] h Q ↔ vp_in (((58 : Int32) + ((8 : Int32) * x1)) + x2) 7053 ∧ Q (some (v_i (h_i h 94 (Int32.toNatClampNeg (((58 : Int32) + ((8 : Int32) * x1)) + x2))))) h := by
  have e0 : h_r h 93 1 = some 94 := la_r Lh (q := (93, 1, 94)) (by decide)
  unfold ex_
  refine (am_Y_go 11 (ok := [am_is h (some 93) 12, am_ar h ((h_r h 93 1)) 20 (((58 : Int32) + ((8 : Int32) * x1)) + x2)]) (g := (41, [some (v_r (some 93)), some (v_i x1), some (v_i x2)], [v_i (h_i h ((h_r h 93 1).getD 0) (Int32.toNatClampNeg (((58 : Int32) + ((8 : Int32) * x1)) + x2)))], h)) rfl).trans ?_
  simp only [e0, Option.getD_some, am_all]
  all_goals exact cj_d (la_is Lh (o := 93) rfl) (cj_k (la_ar Lh (o := 94) rfl) (((am_Y_ret rfl rfl rfl).trans (am_r0))))

theorem b_X12_state_0 {d : Nat} {Q : Option am_V → am_H → Prop} (h : am_H) (x1 : Int32) (Lh : Lay h) : ex_ (d + 1) 277 0 [some (v_r (some 93)), some (v_i x1)] [] h Q ↔ ex_ d 262 0 [some (v_r (some 93)), some (v_l (Int32.toInt64 x1)), none] [] (p_i h 93 0 (0 : Int32)) (fun r h' => ex_ (d + 1) 277 11 [some (v_r (some 93)), some (v_i x1)] (r.toList ++ []) h' Q) := by
  unfold ex_
  refine (am_Y_go 6 (ok := [am_is h (some 93) 12]) (g := (8, [some (v_r (some 93)), some (v_i x1)], [v_l (Int32.toInt64 x1), v_r (some 93)], (p_i h 93 0 (0 : Int32)))) rfl).trans ?_
  simp only [am_all]
  all_goals exact cj_d (la_is Lh (o := 93) rfl) (((am_Y_call (j := 262) (na := 2) (ci := 12) (fl := 0) rfl rfl rfl).trans (cj_d ⟨⟨Nat.le_of_ble_eq_true rfl, Nat.le_of_ble_eq_true rfl, Nat.le_of_ble_eq_true rfl, rfl⟩, Or.inr (Or.inr (show (12 : Nat) < 20 ∧ am_is h (some 93) 12 from ⟨by decide, (la_is Lh (o := 93) rfl)⟩))⟩ Iff.rfl)))

theorem b_X12_state_11 {d : Nat} {Q : Option am_V → am_H → Prop} (h : am_H) (s0 : Int32) (l0 l1 : Option am_V) : ex_ d 277 11 [l0, l1] [v_i s0] h Q ↔ if ¬ s0 = 0 then ex_ d 277 17 [l0, l1] [] h Q else ex_ d 277 14 [l0, l1] [] h Q := by
  unfold ex_
  refine (am_Y_go 1 (ok := []) (g := (if ¬ s0 = 0 then 17 else 14, [l0, l1], [], h)) rfl).trans ?_
  all_goals exact am_Y_if

theorem b_X12_state_17 {d : Nat} {Q : Option am_V → am_H → Prop} (h : am_H) (l1 : Option am_V) (Lh : Lay h) : ex_ (d + 1) 277 17 [some (v_r (some 93)), l1] [] h Q ↔ ex_ d 271 0 [some (v_r (some 93)), none] [] h (fun r h' => ex_ (d + 1) 277 21 [some (v_r (some 93)), l1] (r.toList ++ []) h' Q) := by
  unfold ex_
  refine (am_Y_go 1 (ok := []) (g := (18, [some (v_r (some 93)), l1], [v_r (some 93)], h)) rfl).trans ?_
  all_goals exact ((am_Y_call (j := 271) (na := 1) (ci := 12) (fl := 0) rfl rfl rfl).trans (cj_d ⟨⟨Nat.le_of_ble_eq_true rfl, Nat.le_of_ble_eq_true rfl, Nat.le_of_ble_eq_true rfl, rfl⟩, Or.inr (Or.inr (show (12 : Nat) < 20 ∧ am_is h (some 93) 12 from ⟨by decide, (la_is Lh (o := 93) rfl)⟩))⟩ Iff.rfl))

theorem b_X12_state_14 {d : Nat} {Q : Option am_V → am_H → Prop} (h : am_H) (l0 l1 : Option am_V) : ex_ d 277 14 [l0, l1] [] h Q ↔ Q (some (v_i (-2 : Int32))) h := by
  unfold ex_
  refine (am_Y_go 1 (ok := []) (g := (16, [l0, l1], [v_i (-2 : Int32)], h)) rfl).trans ?_
  all_goals exact ((am_Y_ret rfl rfl rfl).trans (am_r0))

theorem b_X12_state_21 {d : Nat} {Q : Option am_V → am_H → Prop} (h : am_H) (x1 : Int32) (Lh : Lay h) : ex_ d 277 21 [some (v_r (some 93)), some (v_i x1)] [] h Q ↔ vp_in x1 11 ∧ Q (some (v_i (h_i h 100 (Int32.toNatClampNeg x1)))) h := by
  have e0 : h_r h 93 18 = some 100 := la_r Lh (q := (93, 18, 100)) (by decide)
  unfold ex_
  refine (am_Y_go 4 (ok := [am_is h (some 93) 12, am_ar h ((h_r h 93 18)) 20 x1]) (g := (27, [some (v_r (some 93)), some (v_i x1)], [v_i (h_i h ((h_r h 93 18).getD 0) (Int32.toNatClampNeg x1))], h)) rfl).trans ?_
  simp only [e0, Option.getD_some, am_all]
  all_goals exact cj_d (la_is Lh (o := 93) rfl) (cj_k (la_ar Lh (o := 100) rfl) (((am_Y_ret rfl rfl rfl).trans (am_r0))))

theorem b_X12_order_0 {d : Nat} {Q : Option am_V → am_H → Prop} (h : am_H) (x1 : Int32) (l2 : Option am_V) (Lh : Lay h) : ex_ (d + 1) 278 0 [some (v_r (some 93)), some (v_i x1), l2] [] h Q ↔ ex_ d 262 0 [some (v_r (some 93)), some (v_l (Int32.toInt64 x1)), none] [] (p_i h 93 0 (0 : Int32)) (fun r h' => ex_ (d + 1) 278 11 [some (v_r (some 93)), some (v_i x1), l2] (r.toList ++ []) h' Q) := by
  unfold ex_
  refine (am_Y_go 6 (ok := [am_is h (some 93) 12]) (g := (8, [some (v_r (some 93)), some (v_i x1), l2], [v_l (Int32.toInt64 x1), v_r (some 93)], (p_i h 93 0 (0 : Int32)))) rfl).trans ?_
  simp only [am_all]
  all_goals exact cj_d (la_is Lh (o := 93) rfl) (((am_Y_call (j := 262) (na := 2) (ci := 12) (fl := 0) rfl rfl rfl).trans (cj_d ⟨⟨Nat.le_of_ble_eq_true rfl, Nat.le_of_ble_eq_true rfl, Nat.le_of_ble_eq_true rfl, rfl⟩, Or.inr (Or.inr (show (12 : Nat) < 20 ∧ am_is h (some 93) 12 from ⟨by decide, (la_is Lh (o := 93) rfl)⟩))⟩ Iff.rfl)))

theorem b_X12_order_11 {d : Nat} {Q : Option am_V → am_H → Prop} (h : am_H) (s0 : Int32) (l0 l1 l2 : Option am_V) : ex_ d 278 11 [l0, l1, l2] [v_i s0] h Q ↔ if ¬ s0 = 0 then ex_ d 278 17 [l0, l1, l2] [] h Q else ex_ d 278 14 [l0, l1, l2] [] h Q := by
  unfold ex_
  refine (am_Y_go 1 (ok := []) (g := (if ¬ s0 = 0 then 17 else 14, [l0, l1, l2], [], h)) rfl).trans ?_
  all_goals exact am_Y_if

theorem b_X12_order_17 {d : Nat} {Q : Option am_V → am_H → Prop} (h : am_H) (x2 : Int32) (l0 l1 : Option am_V) : ex_ d 278 17 [l0, l1, some (v_i x2)] [] h Q ↔ if 0 ≤ x2 then ex_ d 278 24 [l0, l1, some (v_i x2)] [] h Q else ex_ d 278 21 [l0, l1, some (v_i x2)] [] h Q := by
  unfold ex_
  refine (am_Y_go 2 (ok := []) (g := (if 0 ≤ x2 then 24 else 21, [l0, l1, some (v_i x2)], [], h)) rfl).trans ?_
  all_goals exact am_Y_if

theorem b_X12_order_14 {d : Nat} {Q : Option am_V → am_H → Prop} (h : am_H) (l0 l1 l2 : Option am_V) : ex_ d 278 14 [l0, l1, l2] [] h Q ↔ Q (some (v_i (-2 : Int32))) h := by
  unfold ex_
  refine (am_Y_go 1 (ok := []) (g := (16, [l0, l1, l2], [v_i (-2 : Int32)], h)) rfl).trans ?_
  all_goals exact ((am_Y_ret rfl rfl rfl).trans (am_r0))

theorem b_X12_order_24 {d : Nat} {Q : Option am_V → am_H → Prop} (h : am_H) (l1 l2 : Option am_V) (Lh : Lay h) : ex_ (d + 1) 278 24 [some (v_r (some 93)), l1, l2] [] h Q ↔ ex_ d 271 0 [some (v_r (some 93)), none] [] h (fun r h' => ex_ (d + 1) 278 28 [some (v_r (some 93)), l1, l2] (r.toList ++ []) h' Q) := by
  unfold ex_
  refine (am_Y_go 1 (ok := []) (g := (25, [some (v_r (some 93)), l1, l2], [v_r (some 93)], h)) rfl).trans ?_
  all_goals exact ((am_Y_call (j := 271) (na := 1) (ci := 12) (fl := 0) rfl rfl rfl).trans (cj_d ⟨⟨Nat.le_of_ble_eq_true rfl, Nat.le_of_ble_eq_true rfl, Nat.le_of_ble_eq_true rfl, rfl⟩, Or.inr (Or.inr (show (12 : Nat) < 20 ∧ am_is h (some 93) 12 from ⟨by decide, (la_is Lh (o := 93) rfl)⟩))⟩ Iff.rfl))

theorem b_X12_order_21 {d : Nat} {Q : Option am_V → am_H → Prop} (h : am_H) (l0 l1 l2 : Option am_V) : ex_ d 278 21 [l0, l1, l2] [] h Q ↔ Q (some (v_i (-3 : Int32))) h := by
  unfold ex_
  refine (am_Y_go 1 (ok := []) (g := (23, [l0, l1, l2], [v_i (-3 : Int32)], h)) rfl).trans ?_
  all_goals exact ((am_Y_ret rfl rfl rfl).trans (am_r0))

theorem b_X12_order_28 {d : Nat} {Q : Option am_V → am_H → Prop} (h : am_H) (x2 : Int32) (x1 : Int32) (Lh : Lay h) : ex_ d 278 28 [some (v_r (some 93)), some (v_i x1), some (v_i x2)] [] h Q ↔ vp_in x1 11 ∧ (if (h_i h 98 (Int32.toNatClampNeg x1)) ≤ x2 then ex_ d 278 52 [some (v_r (some 93)), some (v_i x1), some (v_i x2)] [] h Q else ex_ d 278 38 [some (v_r (some 93)), some (v_i x1), some (v_i x2)] [] h Q) := by
  have e0 : h_r h 93 16 = some 98 := la_r Lh (q := (93, 16, 98)) (by decide)
  unfold ex_
  refine (am_Y_go 6 (ok := [am_is h (some 93) 12, am_ar h ((h_r h 93 16)) 20 x1]) (g := (if (h_i h ((h_r h 93 16).getD 0) (Int32.toNatClampNeg x1)) ≤ x2 then 52 else 38, [some (v_r (some 93)), some (v_i x1), some (v_i x2)], [], h)) rfl).trans ?_
  simp only [e0, Option.getD_some, am_all]
  all_goals exact cj_d (la_is Lh (o := 93) rfl) (cj_k (la_ar Lh (o := 98) rfl) (am_Y_if))

theorem b_X12_order_52 {d : Nat} {Q : Option am_V → am_H → Prop} (h : am_H) (l0 l1 l2 : Option am_V) : ex_ d 278 52 [l0, l1, l2] [] h Q ↔ Q (some (v_i (-1 : Int32))) h := by
  unfold ex_
  refine (am_Y_go 1 (ok := []) (g := (53, [l0, l1, l2], [v_i (-1 : Int32)], h)) rfl).trans ?_
  all_goals exact ((am_Y_ret rfl rfl rfl).trans (am_r0))

theorem b_X12_order_38 {d : Nat} {Q : Option am_V → am_H → Prop} (h : am_H) (x1 : Int32) (x2 : Int32) (Lh : Lay h) : ex_ d 278 38 [some (v_r (some 93)), some (v_i x1), some (v_i x2)] [] h Q ↔ vp_in (((11 : Int32) * x1) + x2) 121 ∧ Q (some (v_i (h_i h 99 (Int32.toNatClampNeg (((11 : Int32) * x1) + x2))))) h := by
  have e0 : h_r h 93 17 = some 99 := la_r Lh (q := (93, 17, 99)) (by decide)
  unfold ex_
  refine (am_Y_go 9 (ok := [am_is h (some 93) 12, am_ar h ((h_r h 93 17)) 20 (((11 : Int32) * x1) + x2)]) (g := (53, [some (v_r (some 93)), some (v_i x1), some (v_i x2)], [v_i (h_i h ((h_r h 93 17).getD 0) (Int32.toNatClampNeg (((11 : Int32) * x1) + x2)))], h)) rfl).trans ?_
  simp only [e0, Option.getD_some, am_all]
  all_goals exact cj_d (la_is Lh (o := 93) rfl) (cj_k (la_ar Lh (o := 99) rfl) (((am_Y_ret rfl rfl rfl).trans (am_r0))))

theorem b_X12_place_0 {d : Nat} {Q : Option am_V → am_H → Prop} (h : am_H) (x1 : Int32) (l2 : Option am_V) (Lh : Lay h) : ex_ (d + 1) 279 0 [some (v_r (some 93)), some (v_i x1), l2] [] h Q ↔ ex_ d 262 0 [some (v_r (some 93)), some (v_l (Int32.toInt64 x1)), none] [] (p_i h 93 0 (0 : Int32)) (fun r h' => ex_ (d + 1) 279 11 [some (v_r (some 93)), some (v_i x1), l2] (r.toList ++ []) h' Q) := by
  unfold ex_
  refine (am_Y_go 6 (ok := [am_is h (some 93) 12]) (g := (8, [some (v_r (some 93)), some (v_i x1), l2], [v_l (Int32.toInt64 x1), v_r (some 93)], (p_i h 93 0 (0 : Int32)))) rfl).trans ?_
  simp only [am_all]
  all_goals exact cj_d (la_is Lh (o := 93) rfl) (((am_Y_call (j := 262) (na := 2) (ci := 12) (fl := 0) rfl rfl rfl).trans (cj_d ⟨⟨Nat.le_of_ble_eq_true rfl, Nat.le_of_ble_eq_true rfl, Nat.le_of_ble_eq_true rfl, rfl⟩, Or.inr (Or.inr (show (12 : Nat) < 20 ∧ am_is h (some 93) 12 from ⟨by decide, (la_is Lh (o := 93) rfl)⟩))⟩ Iff.rfl)))

theorem b_X12_place_11 {d : Nat} {Q : Option am_V → am_H → Prop} (h : am_H) (s0 : Int32) (l0 l1 l2 : Option am_V) : ex_ d 279 11 [l0, l1, l2] [v_i s0] h Q ↔ if s0 = 0 then ex_ d 279 23 [l0, l1, l2] [] h Q else ex_ d 279 14 [l0, l1, l2] [] h Q := by
  unfold ex_
  refine (am_Y_go 1 (ok := []) (g := (if s0 = 0 then 23 else 14, [l0, l1, l2], [], h)) rfl).trans ?_
  all_goals exact am_Y_if

theorem b_X12_place_23 {d : Nat} {Q : Option am_V → am_H → Prop} (h : am_H) (l0 l1 l2 : Option am_V) : ex_ d 279 23 [l0, l1, l2] [] h Q ↔ Q (some (v_i (-2 : Int32))) h := by
  unfold ex_
  refine (am_Y_go 1 (ok := []) (g := (25, [l0, l1, l2], [v_i (-2 : Int32)], h)) rfl).trans ?_
  all_goals exact ((am_Y_ret rfl rfl rfl).trans (am_r0))

theorem b_X12_place_14 {d : Nat} {Q : Option am_V → am_H → Prop} (h : am_H) (x2 : Int32) (l1 : Option am_V) (Lh : Lay h) : ex_ (d + 1) 279 14 [some (v_r (some 93)), l1, some (v_i x2)] [] h Q ↔ ex_ d 262 0 [some (v_r (some 93)), some (v_l (Int32.toInt64 x2)), none] [] h (fun r h' => ex_ (d + 1) 279 20 [some (v_r (some 93)), l1, some (v_i x2)] (r.toList ++ []) h' Q) := by
  unfold ex_
  refine (am_Y_go 3 (ok := []) (g := (17, [some (v_r (some 93)), l1, some (v_i x2)], [v_l (Int32.toInt64 x2), v_r (some 93)], h)) rfl).trans ?_
  all_goals exact ((am_Y_call (j := 262) (na := 2) (ci := 12) (fl := 0) rfl rfl rfl).trans (cj_d ⟨⟨Nat.le_of_ble_eq_true rfl, Nat.le_of_ble_eq_true rfl, Nat.le_of_ble_eq_true rfl, rfl⟩, Or.inr (Or.inr (show (12 : Nat) < 20 ∧ am_is h (some 93) 12 from ⟨by decide, (la_is Lh (o := 93) rfl)⟩))⟩ Iff.rfl))

theorem b_X12_place_20 {d : Nat} {Q : Option am_V → am_H → Prop} (h : am_H) (s0 : Int32) (l0 l1 l2 : Option am_V) : ex_ d 279 20 [l0, l1, l2] [v_i s0] h Q ↔ if ¬ s0 = 0 then ex_ d 279 26 [l0, l1, l2] [] h Q else ex_ d 279 23 [l0, l1, l2] [] h Q := by
  unfold ex_
  refine (am_Y_go 1 (ok := []) (g := (if ¬ s0 = 0 then 26 else 23, [l0, l1, l2], [], h)) rfl).trans ?_
  all_goals exact am_Y_if

theorem b_X12_place_26 {d : Nat} {Q : Option am_V → am_H → Prop} (h : am_H) (l1 l2 : Option am_V) (Lh : Lay h) : ex_ (d + 1) 279 26 [some (v_r (some 93)), l1, l2] [] h Q ↔ ex_ d 271 0 [some (v_r (some 93)), none] [] h (fun r h' => ex_ (d + 1) 279 30 [some (v_r (some 93)), l1, l2] (r.toList ++ []) h' Q) := by
  unfold ex_
  refine (am_Y_go 1 (ok := []) (g := (27, [some (v_r (some 93)), l1, l2], [v_r (some 93)], h)) rfl).trans ?_
  all_goals exact ((am_Y_call (j := 271) (na := 1) (ci := 12) (fl := 0) rfl rfl rfl).trans (cj_d ⟨⟨Nat.le_of_ble_eq_true rfl, Nat.le_of_ble_eq_true rfl, Nat.le_of_ble_eq_true rfl, rfl⟩, Or.inr (Or.inr (show (12 : Nat) < 20 ∧ am_is h (some 93) 12 from ⟨by decide, (la_is Lh (o := 93) rfl)⟩))⟩ Iff.rfl))

theorem b_X12_place_30 {d : Nat} {Q : Option am_V → am_H → Prop} (h : am_H) (x1 : Int32) (x2 : Int32) (Lh : Lay h) : ex_ (d + 1) 279 30 [some (v_r (some 93)), some (v_i x1), some (v_i x2)] [] h Q ↔ ex_ d 272 0 [some (v_r (some 93)), some (v_i x1), some (v_i x2), none] [] h (fun r h' => ex_ (d + 1) 279 36 [some (v_r (some 93)), some (v_i x1), some (v_i x2)] (r.toList ++ []) h' Q) := by
  unfold ex_
  refine (am_Y_go 3 (ok := []) (g := (33, [some (v_r (some 93)), some (v_i x1), some (v_i x2)], [v_i x2, v_i x1, v_r (some 93)], h)) rfl).trans ?_
  all_goals exact ((am_Y_call (j := 272) (na := 3) (ci := 12) (fl := 0) rfl rfl rfl).trans (cj_d ⟨⟨Nat.le_of_ble_eq_true rfl, Nat.le_of_ble_eq_true rfl, Nat.le_of_ble_eq_true rfl, rfl⟩, Or.inr (Or.inr (show (12 : Nat) < 20 ∧ am_is h (some 93) 12 from ⟨by decide, (la_is Lh (o := 93) rfl)⟩))⟩ Iff.rfl))

theorem b_X12_place_36 {d : Nat} {Q : Option am_V → am_H → Prop} (h : am_H) (s0 : Int32) (l0 l1 l2 : Option am_V) : ex_ d 279 36 [l0, l1, l2] [v_i s0] h Q ↔ Q (some (v_i s0)) h := by
  unfold ex_
  exact ((am_Y_ret rfl rfl rfl).trans (am_r0))

theorem b_X12_aboveOf_0 {d : Nat} {Q : Option am_V → am_H → Prop} (h : am_H) (x1 : Int32) (l0 l2 l3 : Option am_V) : ex_ d 280 0 [l0, some (v_i x1), l2, l3] [] h Q ↔ ex_ d 280 6 [l0, some (v_i x1), some (v_i ((1 : Int32) <<< (x1 &&& 31))), some (v_i (0 : Int32))] [] h Q := by
  unfold ex_
  refine (am_Y_go 6 (ok := []) (g := (6, [l0, some (v_i x1), some (v_i ((1 : Int32) <<< (x1 &&& 31))), some (v_i (0 : Int32))], [], h)) rfl).trans ?_
  all_goals exact Iff.rfl

theorem b_X12_aboveOf_6 {d : Nat} {Q : Option am_V → am_H → Prop} (h : am_H) (x3 : Int32) (x1 : Int32) (l2 : Option am_V) (Lh : Lay h) : ex_ d 280 6 [some (v_r (some 93)), some (v_i x1), l2, some (v_i x3)] [] h Q ↔ vp_in ((8 : Int32) + x1) 7053 ∧ (if (h_i h 94 (Int32.toNatClampNeg ((8 : Int32) + x1))) ≤ x3 then ex_ d 280 38 [some (v_r (some 93)), some (v_i x1), l2, some (v_i x3)] [] h Q else ex_ d 280 19 [some (v_r (some 93)), some (v_i x1), l2, some (v_i x3)] [] h Q) := by
  have e0 : h_r h 93 1 = some 94 := la_r Lh (q := (93, 1, 94)) (by decide)
  unfold ex_
  refine (am_Y_go 8 (ok := [am_is h (some 93) 12, am_ar h ((h_r h 93 1)) 20 ((8 : Int32) + x1)]) (g := (if (h_i h ((h_r h 93 1).getD 0) (Int32.toNatClampNeg ((8 : Int32) + x1))) ≤ x3 then 38 else 19, [some (v_r (some 93)), some (v_i x1), l2, some (v_i x3)], [], h)) rfl).trans ?_
  simp only [e0, Option.getD_some, am_all]
  all_goals exact cj_d (la_is Lh (o := 93) rfl) (cj_k (la_ar Lh (o := 94) rfl) (am_Y_if))

theorem b_X12_aboveOf_38 {d : Nat} {Q : Option am_V → am_H → Prop} (h : am_H) (x2 : Int32) (l0 l1 l3 : Option am_V) : ex_ d 280 38 [l0, l1, some (v_i x2), l3] [] h Q ↔ Q (some (v_i x2)) h := by
  unfold ex_
  refine (am_Y_go 1 (ok := []) (g := (39, [l0, l1, some (v_i x2), l3], [v_i x2], h)) rfl).trans ?_
  all_goals exact ((am_Y_ret rfl rfl rfl).trans (am_r0))

theorem b_X12_aboveOf_19 {d : Nat} {Q : Option am_V → am_H → Prop} (h : am_H) (x2 : Int32) (x1 : Int32) (x3 : Int32) (Lh : Lay h) : ex_ (d + 1) 280 19 [some (v_r (some 93)), some (v_i x1), some (v_i x2), some (v_i x3)] [] h Q ↔ ex_ d 264 0 [some (v_r (some 93)), some (v_i x1), some (v_i x3)] [] h (fun r h' => ex_ (d + 1) 280 27 [some (v_r (some 93)), some (v_i x1), some (v_i x2), some (v_i x3)] (r.toList ++ [v_r (some 93), v_i x2]) h' Q) := by
  unfold ex_
  refine (am_Y_go 5 (ok := []) (g := (24, [some (v_r (some 93)), some (v_i x1), some (v_i x2), some (v_i x3)], [v_i x3, v_i x1, v_r (some 93), v_r (some 93), v_i x2], h)) rfl).trans ?_
  all_goals exact ((am_Y_call (j := 264) (na := 3) (ci := 12) (fl := 0) rfl rfl rfl).trans (cj_d ⟨⟨Nat.le_of_ble_eq_true rfl, Nat.le_of_ble_eq_true rfl, Nat.le_of_ble_eq_true rfl, rfl⟩, Or.inr (Or.inr (show (12 : Nat) < 20 ∧ am_is h (some 93) 12 from ⟨by decide, (la_is Lh (o := 93) rfl)⟩))⟩ Iff.rfl))

theorem b_X12_aboveOf_27 {d : Nat} {Q : Option am_V → am_H → Prop} (h : am_H) (s0 : Int32) (s2 : Int32) (l0 l1 l2 l3 : Option am_V) (Lh : Lay h) : ex_ (d + 1) 280 27 [l0, l1, l2, l3] [v_i s0, v_r (some 93), v_i s2] h Q ↔ ex_ d 280 0 [some (v_r (some 93)), some (v_i s0), none, none] [] h (fun r h' => ex_ (d + 1) 280 30 [l0, l1, l2, l3] (r.toList ++ [v_i s2]) h' Q) := by
  unfold ex_
  exact ((am_Y_call (j := 280) (na := 2) (ci := 12) (fl := 0) rfl rfl rfl).trans (cj_d ⟨⟨Nat.le_of_ble_eq_true rfl, Nat.le_of_ble_eq_true rfl, Nat.le_of_ble_eq_true rfl, rfl⟩, Or.inr (Or.inr (show (12 : Nat) < 20 ∧ am_is h (some 93) 12 from ⟨by decide, (la_is Lh (o := 93) rfl)⟩))⟩ Iff.rfl))

theorem b_X12_aboveOf_30 {d : Nat} {Q : Option am_V → am_H → Prop} (h : am_H) (s0 : Int32) (s1 : Int32) (x3 : Int32) (l0 l1 l2 : Option am_V) : ex_ d 280 30 [l0, l1, l2, some (v_i x3)] [v_i s0, v_i s1] h Q ↔ ex_ d 280 6 [l0, l1, some (v_i (s1 ||| s0)), some (v_i (x3 + (1 : Int32)))] [] h Q := by
  unfold ex_
  refine (am_Y_go 4 (ok := []) (g := (6, [l0, l1, some (v_i (s1 ||| s0)), some (v_i (x3 + (1 : Int32)))], [], h)) rfl).trans ?_
  all_goals exact Iff.rfl

theorem b_X12_above_0 {d : Nat} {Q : Option am_V → am_H → Prop} (h : am_H) (x1 : Int32) (Lh : Lay h) : ex_ (d + 1) 281 0 [some (v_r (some 93)), some (v_i x1)] [] h Q ↔ ex_ d 262 0 [some (v_r (some 93)), some (v_l (Int32.toInt64 x1)), none] [] (p_i h 93 0 (0 : Int32)) (fun r h' => ex_ (d + 1) 281 11 [some (v_r (some 93)), some (v_i x1)] (r.toList ++ []) h' Q) := by
  unfold ex_
  refine (am_Y_go 6 (ok := [am_is h (some 93) 12]) (g := (8, [some (v_r (some 93)), some (v_i x1)], [v_l (Int32.toInt64 x1), v_r (some 93)], (p_i h 93 0 (0 : Int32)))) rfl).trans ?_
  simp only [am_all]
  all_goals exact cj_d (la_is Lh (o := 93) rfl) (((am_Y_call (j := 262) (na := 2) (ci := 12) (fl := 0) rfl rfl rfl).trans (cj_d ⟨⟨Nat.le_of_ble_eq_true rfl, Nat.le_of_ble_eq_true rfl, Nat.le_of_ble_eq_true rfl, rfl⟩, Or.inr (Or.inr (show (12 : Nat) < 20 ∧ am_is h (some 93) 12 from ⟨by decide, (la_is Lh (o := 93) rfl)⟩))⟩ Iff.rfl)))

theorem b_X12_above_11 {d : Nat} {Q : Option am_V → am_H → Prop} (h : am_H) (s0 : Int32) (l0 l1 : Option am_V) : ex_ d 281 11 [l0, l1] [v_i s0] h Q ↔ if s0 = 0 then ex_ d 281 22 [l0, l1] [] h Q else ex_ d 281 14 [l0, l1] [] h Q := by
  unfold ex_
  refine (am_Y_go 1 (ok := []) (g := (if s0 = 0 then 22 else 14, [l0, l1], [], h)) rfl).trans ?_
  all_goals exact am_Y_if

theorem b_X12_above_22 {d : Nat} {Q : Option am_V → am_H → Prop} (h : am_H) (l0 l1 : Option am_V) : ex_ d 281 22 [l0, l1] [] h Q ↔ Q (some (v_i (-2 : Int32))) h := by
  unfold ex_
  refine (am_Y_go 1 (ok := []) (g := (24, [l0, l1], [v_i (-2 : Int32)], h)) rfl).trans ?_
  all_goals exact ((am_Y_ret rfl rfl rfl).trans (am_r0))

theorem b_X12_above_14 {d : Nat} {Q : Option am_V → am_H → Prop} (h : am_H) (x1 : Int32) (Lh : Lay h) : ex_ (d + 1) 281 14 [some (v_r (some 93)), some (v_i x1)] [] h Q ↔ ex_ d 280 0 [some (v_r (some 93)), some (v_i x1), none, none] [] h (fun r h' => ex_ (d + 1) 281 19 [some (v_r (some 93)), some (v_i x1)] (r.toList ++ []) h' Q) := by
  unfold ex_
  refine (am_Y_go 2 (ok := []) (g := (16, [some (v_r (some 93)), some (v_i x1)], [v_i x1, v_r (some 93)], h)) rfl).trans ?_
  all_goals exact ((am_Y_call (j := 280) (na := 2) (ci := 12) (fl := 0) rfl rfl rfl).trans (cj_d ⟨⟨Nat.le_of_ble_eq_true rfl, Nat.le_of_ble_eq_true rfl, Nat.le_of_ble_eq_true rfl, rfl⟩, Or.inr (Or.inr (show (12 : Nat) < 20 ∧ am_is h (some 93) 12 from ⟨by decide, (la_is Lh (o := 93) rfl)⟩))⟩ Iff.rfl))

theorem b_X12_above_19 {d : Nat} {Q : Option am_V → am_H → Prop} (h : am_H) (s0 : Int32) (l0 l1 : Option am_V) : ex_ d 281 19 [l0, l1] [v_i s0] h Q ↔ Q (some (v_i s0)) h := by
  unfold ex_
  refine (am_Y_go 1 (ok := []) (g := (24, [l0, l1], [v_i s0], h)) rfl).trans ?_
  all_goals exact ((am_Y_ret rfl rfl rfl).trans (am_r0))

theorem b_X12_below_0 {d : Nat} {Q : Option am_V → am_H → Prop} (h : am_H) (x1 : Int32) (l2 l3 : Option am_V) (Lh : Lay h) : ex_ (d + 1) 282 0 [some (v_r (some 93)), some (v_i x1), l2, l3] [] h Q ↔ ex_ d 262 0 [some (v_r (some 93)), some (v_l (Int32.toInt64 x1)), none] [] (p_i h 93 0 (0 : Int32)) (fun r h' => ex_ (d + 1) 282 11 [some (v_r (some 93)), some (v_i x1), l2, l3] (r.toList ++ []) h' Q) := by
  unfold ex_
  refine (am_Y_go 6 (ok := [am_is h (some 93) 12]) (g := (8, [some (v_r (some 93)), some (v_i x1), l2, l3], [v_l (Int32.toInt64 x1), v_r (some 93)], (p_i h 93 0 (0 : Int32)))) rfl).trans ?_
  simp only [am_all]
  all_goals exact cj_d (la_is Lh (o := 93) rfl) (((am_Y_call (j := 262) (na := 2) (ci := 12) (fl := 0) rfl rfl rfl).trans (cj_d ⟨⟨Nat.le_of_ble_eq_true rfl, Nat.le_of_ble_eq_true rfl, Nat.le_of_ble_eq_true rfl, rfl⟩, Or.inr (Or.inr (show (12 : Nat) < 20 ∧ am_is h (some 93) 12 from ⟨by decide, (la_is Lh (o := 93) rfl)⟩))⟩ Iff.rfl)))

theorem b_X12_below_11 {d : Nat} {Q : Option am_V → am_H → Prop} (h : am_H) (s0 : Int32) (l0 l1 l2 l3 : Option am_V) : ex_ d 282 11 [l0, l1, l2, l3] [v_i s0] h Q ↔ if ¬ s0 = 0 then ex_ d 282 17 [l0, l1, l2, l3] [] h Q else ex_ d 282 14 [l0, l1, l2, l3] [] h Q := by
  unfold ex_
  refine (am_Y_go 1 (ok := []) (g := (if ¬ s0 = 0 then 17 else 14, [l0, l1, l2, l3], [], h)) rfl).trans ?_
  all_goals exact am_Y_if

theorem b_X12_below_17 {d : Nat} {Q : Option am_V → am_H → Prop} (h : am_H) (l0 l1 l2 l3 : Option am_V) : ex_ d 282 17 [l0, l1, l2, l3] [] h Q ↔ ex_ d 282 21 [l0, l1, some (v_i (0 : Int32)), some (v_i (0 : Int32))] [] h Q := by
  unfold ex_
  refine (am_Y_go 4 (ok := []) (g := (21, [l0, l1, some (v_i (0 : Int32)), some (v_i (0 : Int32))], [], h)) rfl).trans ?_
  all_goals exact Iff.rfl

theorem b_X12_below_14 {d : Nat} {Q : Option am_V → am_H → Prop} (h : am_H) (l0 l1 l2 l3 : Option am_V) : ex_ d 282 14 [l0, l1, l2, l3] [] h Q ↔ Q (some (v_i (-2 : Int32))) h := by
  unfold ex_
  refine (am_Y_go 1 (ok := []) (g := (16, [l0, l1, l2, l3], [v_i (-2 : Int32)], h)) rfl).trans ?_
  all_goals exact ((am_Y_ret rfl rfl rfl).trans (am_r0))

theorem b_X12_below_21 {d : Nat} {Q : Option am_V → am_H → Prop} (h : am_H) (x3 : Int32) (l1 l2 : Option am_V) (Lh : Lay h) : ex_ d 282 21 [some (v_r (some 93)), l1, l2, some (v_i x3)] [] h Q ↔ vp_in (1 : Int32) 7053 ∧ (if (h_i h 94 (Int32.toNatClampNeg (1 : Int32))) ≤ x3 then ex_ d 282 60 [some (v_r (some 93)), l1, l2, some (v_i x3)] [] h Q else ex_ d 282 31 [some (v_r (some 93)), l1, l2, some (v_i x3)] [] h Q) := by
  have e0 : h_r h 93 1 = some 94 := la_r Lh (q := (93, 1, 94)) (by decide)
  unfold ex_
  refine (am_Y_go 6 (ok := [am_is h (some 93) 12, am_ar h ((h_r h 93 1)) 20 (1 : Int32)]) (g := (if (h_i h ((h_r h 93 1).getD 0) (Int32.toNatClampNeg (1 : Int32))) ≤ x3 then 60 else 31, [some (v_r (some 93)), l1, l2, some (v_i x3)], [], h)) rfl).trans ?_
  simp only [e0, Option.getD_some, am_all]
  all_goals exact cj_d (la_is Lh (o := 93) rfl) (cj_k (la_ar Lh (o := 94) rfl) (am_Y_if))

theorem b_X12_below_60 {d : Nat} {Q : Option am_V → am_H → Prop} (h : am_H) (x2 : Int32) (l0 l1 l3 : Option am_V) : ex_ d 282 60 [l0, l1, some (v_i x2), l3] [] h Q ↔ Q (some (v_i x2)) h := by
  unfold ex_
  refine (am_Y_go 1 (ok := []) (g := (61, [l0, l1, some (v_i x2), l3], [v_i x2], h)) rfl).trans ?_
  all_goals exact ((am_Y_ret rfl rfl rfl).trans (am_r0))

theorem b_X12_below_31 {d : Nat} {Q : Option am_V → am_H → Prop} (h : am_H) (x2 : Int32) (x3 : Int32) (l1 : Option am_V) (Lh : Lay h) : ex_ (d + 1) 282 31 [some (v_r (some 93)), l1, some (v_i x2), some (v_i x3)] [] h Q ↔ ex_ d 280 0 [some (v_r (some 93)), some (v_i x3), none, none] [] h (fun r h' => ex_ (d + 1) 282 37 [some (v_r (some 93)), l1, some (v_i x2), some (v_i x3)] (r.toList ++ [v_i x2]) h' Q) := by
  unfold ex_
  refine (am_Y_go 3 (ok := []) (g := (34, [some (v_r (some 93)), l1, some (v_i x2), some (v_i x3)], [v_i x3, v_r (some 93), v_i x2], h)) rfl).trans ?_
  all_goals exact ((am_Y_call (j := 280) (na := 2) (ci := 12) (fl := 0) rfl rfl rfl).trans (cj_d ⟨⟨Nat.le_of_ble_eq_true rfl, Nat.le_of_ble_eq_true rfl, Nat.le_of_ble_eq_true rfl, rfl⟩, Or.inr (Or.inr (show (12 : Nat) < 20 ∧ am_is h (some 93) 12 from ⟨by decide, (la_is Lh (o := 93) rfl)⟩))⟩ Iff.rfl))

theorem b_X12_below_37 {d : Nat} {Q : Option am_V → am_H → Prop} (h : am_H) (s0 : Int32) (s1 : Int32) (x1 : Int32) (l0 l2 l3 : Option am_V) : ex_ (d + 1) 282 37 [l0, some (v_i x1), l2, l3] [v_i s0, v_i s1] h Q ↔ ex_ d 242 0 [some (v_l (Int32.toInt64 s0)), none, some (v_i x1)] [] h (fun r h' => ex_ (d + 1) 282 42 [l0, some (v_i x1), l2, l3] (r.toList ++ [v_i s1]) h' Q) := by
  unfold ex_
  refine (am_Y_go 2 (ok := []) (g := (39, [l0, some (v_i x1), l2, l3], [v_i x1, v_l (Int32.toInt64 s0), v_i s1], h)) rfl).trans ?_
  all_goals exact ((am_Y_call (j := 242) (na := 2) (ci := 12) (fl := 2) rfl rfl rfl).trans (cj_d ⟨⟨Nat.le_of_ble_eq_true rfl, Nat.le_of_ble_eq_true rfl, Nat.le_of_ble_eq_true rfl, rfl⟩, Or.inl rfl⟩ Iff.rfl))

theorem b_X12_below_42 {d : Nat} {Q : Option am_V → am_H → Prop} (h : am_H) (s0 : Int32) (s1 : Int32) (l0 l1 l2 l3 : Option am_V) : ex_ d 282 42 [l0, l1, l2, l3] [v_i s0, v_i s1] h Q ↔ if s0 = 0 then ex_ d 282 51 [l0, l1, l2, l3] [v_i s1] h Q else ex_ d 282 45 [l0, l1, l2, l3] [v_i s1] h Q := by
  unfold ex_
  refine (am_Y_go 1 (ok := []) (g := (if s0 = 0 then 51 else 45, [l0, l1, l2, l3], [v_i s1], h)) rfl).trans ?_
  all_goals exact am_Y_if

theorem b_X12_below_51 {d : Nat} {Q : Option am_V → am_H → Prop} (h : am_H) (s0 : Int32) (x3 : Int32) (l0 l1 l2 : Option am_V) : ex_ d 282 51 [l0, l1, l2, some (v_i x3)] [v_i s0] h Q ↔ ex_ d 282 21 [l0, l1, some (v_i (s0 ||| (0 : Int32))), some (v_i (x3 + (1 : Int32)))] [] h Q := by
  unfold ex_
  refine (am_Y_go 5 (ok := []) (g := (21, [l0, l1, some (v_i (s0 ||| (0 : Int32))), some (v_i (x3 + (1 : Int32)))], [], h)) rfl).trans ?_
  all_goals exact Iff.rfl

theorem b_X12_below_45 {d : Nat} {Q : Option am_V → am_H → Prop} (h : am_H) (s0 : Int32) (x3 : Int32) (l0 l1 l2 : Option am_V) : ex_ d 282 45 [l0, l1, l2, some (v_i x3)] [v_i s0] h Q ↔ ex_ d 282 21 [l0, l1, some (v_i (s0 ||| ((1 : Int32) <<< (x3 &&& 31)))), some (v_i (x3 + (1 : Int32)))] [] h Q := by
  unfold ex_
  refine (am_Y_go 8 (ok := []) (g := (21, [l0, l1, some (v_i (s0 ||| ((1 : Int32) <<< (x3 &&& 31)))), some (v_i (x3 + (1 : Int32)))], [], h)) rfl).trans ?_
  all_goals exact Iff.rfl

theorem b_X12_stores_0 {d : Nat} {Q : Option am_V → am_H → Prop} (h : am_H) (l0 l1 : Option am_V) : ex_ d 283 0 [l0, l1] [] h Q ↔ ex_ d 283 2 [l0, some (v_i (0 : Int32))] [] h Q := by
  unfold ex_
  refine (am_Y_go 2 (ok := []) (g := (2, [l0, some (v_i (0 : Int32))], [], h)) rfl).trans ?_
  all_goals exact Iff.rfl

theorem b_X12_stores_2 {d : Nat} {Q : Option am_V → am_H → Prop} (h : am_H) (x1 : Int32) (l0 : Option am_V) : ex_ d 283 2 [l0, some (v_i x1)] [] h Q ↔ if (131 : Int32) ≤ x1 then ex_ d 283 30 [l0, some (v_i x1)] [] h Q else ex_ d 283 9 [l0, some (v_i x1)] [] h Q := by
  unfold ex_
  refine (am_Y_go 3 (ok := []) (g := (if (131 : Int32) ≤ x1 then 30 else 9, [l0, some (v_i x1)], [], h)) rfl).trans ?_
  all_goals exact am_Y_if

theorem b_X12_stores_30 {d : Nat} {Q : Option am_V → am_H → Prop} (h : am_H) (l0 l1 : Option am_V) : ex_ d 283 30 [l0, l1] [] h Q ↔ Q (none) h := by
  unfold ex_
  exact ((am_Y_ret rfl rfl rfl).trans (am_rz rfl))

theorem b_X12_stores_9 {d : Nat} {Q : Option am_V → am_H → Prop} (h : am_H) (x1 : Int32) (Lh : Lay h) : ex_ d 283 9 [some (v_r (some 93)), some (v_i x1)] [] h Q ↔ vp_in ((8 : Int32) + x1) 7053 ∧ vp_in x1 131 ∧ ex_ d 283 2 [some (v_r (some 93)), some (v_i (x1 + (1 : Int32)))] [] (p_i h 105 (Int32.toNatClampNeg x1) (h_i h 94 (Int32.toNatClampNeg ((8 : Int32) + x1)))) Q := by
  have e0 : h_r h 93 24 = some 105 := la_r Lh (q := (93, 24, 105)) (by decide)
  have e1 : h_r h 93 1 = some 94 := la_r Lh (q := (93, 1, 94)) (by decide)
  unfold ex_
  refine (am_Y_go 12 (ok := [am_is h (some 93) 12, am_is h (some 93) 12, am_ar h ((h_r h 93 1)) 20 ((8 : Int32) + x1), am_ar h ((h_r h 93 24)) 20 x1]) (g := (2, [some (v_r (some 93)), some (v_i (x1 + (1 : Int32)))], [], (p_i h ((h_r h 93 24).getD 0) (Int32.toNatClampNeg x1) (h_i h ((h_r h 93 1).getD 0) (Int32.toNatClampNeg ((8 : Int32) + x1)))))) rfl).trans ?_
  simp only [e0, e1, Option.getD_some, am_all]
  all_goals exact cj_d (la_is Lh (o := 93) rfl) (cj_d (la_is Lh (o := 93) rfl) (cj_k (la_ar Lh (o := 94) rfl) (cj_k (la_ar Lh (o := 105) rfl) (Iff.rfl))))

theorem b_X12_isAgain_0 {d : Nat} {Q : Option am_V → am_H → Prop} (h : am_H) (l0 l1 : Option am_V) : ex_ d 284 0 [l0, l1] [] h Q ↔ ex_ d 284 2 [l0, some (v_i (0 : Int32))] [] h Q := by
  unfold ex_
  refine (am_Y_go 2 (ok := []) (g := (2, [l0, some (v_i (0 : Int32))], [], h)) rfl).trans ?_
  all_goals exact Iff.rfl

theorem b_X12_isAgain_2 {d : Nat} {Q : Option am_V → am_H → Prop} (h : am_H) (x1 : Int32) (l0 : Option am_V) : ex_ d 284 2 [l0, some (v_i x1)] [] h Q ↔ if (131 : Int32) ≤ x1 then ex_ d 284 30 [l0, some (v_i x1)] [] h Q else ex_ d 284 9 [l0, some (v_i x1)] [] h Q := by
  unfold ex_
  refine (am_Y_go 3 (ok := []) (g := (if (131 : Int32) ≤ x1 then 30 else 9, [l0, some (v_i x1)], [], h)) rfl).trans ?_
  all_goals exact am_Y_if

theorem b_X12_isAgain_30 {d : Nat} {Q : Option am_V → am_H → Prop} (h : am_H) (l0 l1 : Option am_V) : ex_ d 284 30 [l0, l1] [] h Q ↔ Q (none) h := by
  unfold ex_
  exact ((am_Y_ret rfl rfl rfl).trans (am_rz rfl))

theorem b_X12_isAgain_9 {d : Nat} {Q : Option am_V → am_H → Prop} (h : am_H) (x1 : Int32) (Lh : Lay h) : ex_ d 284 9 [some (v_r (some 93)), some (v_i x1)] [] h Q ↔ vp_in x1 131 ∧ vp_in ((8 : Int32) + x1) 7053 ∧ ex_ d 284 2 [some (v_r (some 93)), some (v_i (x1 + (1 : Int32)))] [] (p_i h 94 (Int32.toNatClampNeg ((8 : Int32) + x1)) (h_i h 105 (Int32.toNatClampNeg x1))) Q := by
  have e0 : h_r h 93 1 = some 94 := la_r Lh (q := (93, 1, 94)) (by decide)
  have e1 : h_r h 93 24 = some 105 := la_r Lh (q := (93, 24, 105)) (by decide)
  unfold ex_
  refine (am_Y_go 12 (ok := [am_is h (some 93) 12, am_is h (some 93) 12, am_ar h ((h_r h 93 24)) 20 x1, am_ar h ((h_r h 93 1)) 20 ((8 : Int32) + x1)]) (g := (2, [some (v_r (some 93)), some (v_i (x1 + (1 : Int32)))], [], (p_i h ((h_r h 93 1).getD 0) (Int32.toNatClampNeg ((8 : Int32) + x1)) (h_i h ((h_r h 93 24).getD 0) (Int32.toNatClampNeg x1))))) rfl).trans ?_
  simp only [e0, e1, Option.getD_some, am_all]
  all_goals exact cj_d (la_is Lh (o := 93) rfl) (cj_d (la_is Lh (o := 93) rfl) (cj_k (la_ar Lh (o := 105) rfl) (cj_k (la_ar Lh (o := 94) rfl) (Iff.rfl))))

theorem b_X12_notes_0 {d : Nat} {Q : Option am_V → am_H → Prop} (h : am_H) (l1 : Option am_V) (Lh : Lay h) : ex_ d 285 0 [some (v_r (some 93)), l1] [] h Q ↔ vp_in (139 : Int32) 7053 ∧ (if ¬ (h_i h 94 (Int32.toNatClampNeg (139 : Int32))) = (10 : Int32) then ex_ d 285 60 [some (v_r (some 93)), l1] [] h Q else ex_ d 285 13 [some (v_r (some 93)), l1] [] h Q) := by
  have e0 : h_r h 93 1 = some 94 := la_r Lh (q := (93, 1, 94)) (by decide)
  unfold ex_
  refine (am_Y_go 6 (ok := [am_is h (some 93) 12, am_ar h ((h_r h 93 1)) 20 (139 : Int32)]) (g := (if ¬ (h_i h ((h_r h 93 1).getD 0) (Int32.toNatClampNeg (139 : Int32))) = (10 : Int32) then 60 else 13, [some (v_r (some 93)), l1], [], h)) rfl).trans ?_
  simp only [e0, Option.getD_some, am_all]
  all_goals exact cj_d (la_is Lh (o := 93) rfl) (cj_k (la_ar Lh (o := 94) rfl) (am_Y_if))

theorem b_X12_notes_60 {d : Nat} {Q : Option am_V → am_H → Prop} (h : am_H) (l0 l1 : Option am_V) : ex_ d 285 60 [l0, l1] [] h Q ↔ ex_ d 285 62 [l0, some (v_i (0 : Int32))] [] h Q := by
  unfold ex_
  refine (am_Y_go 2 (ok := []) (g := (62, [l0, some (v_i (0 : Int32))], [], h)) rfl).trans ?_
  all_goals exact Iff.rfl

theorem b_X12_notes_13 {d : Nat} {Q : Option am_V → am_H → Prop} (h : am_H) (l0 l1 : Option am_V) : ex_ d 285 13 [l0, l1] [] h Q ↔ ex_ d 285 15 [l0, some (v_i (0 : Int32))] [] h Q := by
  unfold ex_
  refine (am_Y_go 2 (ok := []) (g := (15, [l0, some (v_i (0 : Int32))], [], h)) rfl).trans ?_
  all_goals exact Iff.rfl

theorem b_X12_notes_62 {d : Nat} {Q : Option am_V → am_H → Prop} (h : am_H) (x1 : Int32) (l0 : Option am_V) : ex_ d 285 62 [l0, some (v_i x1)] [] h Q ↔ if (131 : Int32) ≤ x1 then ex_ d 285 104 [l0, some (v_i x1)] [] h Q else ex_ d 285 69 [l0, some (v_i x1)] [] h Q := by
  unfold ex_
  refine (am_Y_go 3 (ok := []) (g := (if (131 : Int32) ≤ x1 then 104 else 69, [l0, some (v_i x1)], [], h)) rfl).trans ?_
  all_goals exact am_Y_if

theorem b_X12_notes_15 {d : Nat} {Q : Option am_V → am_H → Prop} (h : am_H) (x1 : Int32) (l0 : Option am_V) : ex_ d 285 15 [l0, some (v_i x1)] [] h Q ↔ if (1179 : Int32) ≤ x1 then ex_ d 285 48 [l0, some (v_i x1)] [] h Q else ex_ d 285 22 [l0, some (v_i x1)] [] h Q := by
  unfold ex_
  refine (am_Y_go 3 (ok := []) (g := (if (1179 : Int32) ≤ x1 then 48 else 22, [l0, some (v_i x1)], [], h)) rfl).trans ?_
  all_goals exact am_Y_if

theorem b_X12_notes_104 {d : Nat} {Q : Option am_V → am_H → Prop} (h : am_H) (l1 : Option am_V) (Lh : Lay h) : ex_ d 285 104 [some (v_r (some 93)), l1] [] h Q ↔ vp_in (139 : Int32) 7053 ∧ vp_in (139 : Int32) 7053 ∧ Q (none) (p_i h 94 (Int32.toNatClampNeg (139 : Int32)) ((h_i h 94 (Int32.toNatClampNeg (139 : Int32))) + (1 : Int32))) := by
  have e0 : h_r h 93 1 = some 94 := la_r Lh (q := (93, 1, 94)) (by decide)
  unfold ex_
  refine (am_Y_go 8 (ok := [am_is h (some 93) 12, am_ar h ((h_r h 93 1)) 20 (139 : Int32), am_ar h ((h_r h 93 1)) 20 (139 : Int32)]) (g := (116, [some (v_r (some 93)), l1], [], (p_i h ((h_r h 93 1).getD 0) (Int32.toNatClampNeg (139 : Int32)) ((h_i h ((h_r h 93 1).getD 0) (Int32.toNatClampNeg (139 : Int32))) + (1 : Int32))))) rfl).trans ?_
  simp only [e0, Option.getD_some, am_all]
  all_goals exact cj_d (la_is Lh (o := 93) rfl) (cj_k (la_ar Lh (o := 94) rfl) (cj_k (la_ar Lh (o := 94) rfl) (((am_Y_ret rfl rfl rfl).trans (am_rz rfl)))))

theorem b_X12_notes_69 {d : Nat} {Q : Option am_V → am_H → Prop} (h : am_H) (x1 : Int32) (Lh : Lay h) : ex_ d 285 69 [some (v_r (some 93)), some (v_i x1)] [] h Q ↔ vp_in (139 : Int32) 7053 ∧ vp_in x1 131 ∧ vp_in (((140 : Int32) + ((131 : Int32) * (h_i h 94 (Int32.toNatClampNeg (139 : Int32))))) + x1) 7053 ∧ ex_ d 285 62 [some (v_r (some 93)), some (v_i (x1 + (1 : Int32)))] [] (p_i h 94 (Int32.toNatClampNeg (((140 : Int32) + ((131 : Int32) * (h_i h 94 (Int32.toNatClampNeg (139 : Int32))))) + x1)) (h_i h 105 (Int32.toNatClampNeg x1))) Q := by
  have e0 : h_r h 93 1 = some 94 := la_r Lh (q := (93, 1, 94)) (by decide)
  have e1 : h_r h 93 24 = some 105 := la_r Lh (q := (93, 24, 105)) (by decide)
  unfold ex_
  refine (am_Y_go 19 (ok := [am_is h (some 93) 12, am_is h (some 93) 12, am_ar h ((h_r h 93 1)) 20 (139 : Int32), am_is h (some 93) 12, am_ar h ((h_r h 93 24)) 20 x1, am_ar h ((h_r h 93 1)) 20 (((140 : Int32) + ((131 : Int32) * (h_i h ((h_r h 93 1).getD 0) (Int32.toNatClampNeg (139 : Int32))))) + x1)]) (g := (62, [some (v_r (some 93)), some (v_i (x1 + (1 : Int32)))], [], (p_i h ((h_r h 93 1).getD 0) (Int32.toNatClampNeg (((140 : Int32) + ((131 : Int32) * (h_i h ((h_r h 93 1).getD 0) (Int32.toNatClampNeg (139 : Int32))))) + x1)) (h_i h ((h_r h 93 24).getD 0) (Int32.toNatClampNeg x1))))) rfl).trans ?_
  simp only [e0, e1, Option.getD_some, am_all]
  all_goals exact cj_d (la_is Lh (o := 93) rfl) (cj_d (la_is Lh (o := 93) rfl) (cj_k (la_ar Lh (o := 94) rfl) (cj_d (la_is Lh (o := 93) rfl) (cj_k (la_ar Lh (o := 105) rfl) (cj_k (la_ar Lh (o := 94) rfl) (Iff.rfl))))))

theorem b_X12_notes_48 {d : Nat} {Q : Option am_V → am_H → Prop} (h : am_H) (l1 : Option am_V) (Lh : Lay h) : ex_ d 285 48 [some (v_r (some 93)), l1] [] h Q ↔ vp_in (139 : Int32) 7053 ∧ vp_in (139 : Int32) 7053 ∧ ex_ d 285 62 [some (v_r (some 93)), some (v_i (0 : Int32))] [] (p_i h 94 (Int32.toNatClampNeg (139 : Int32)) ((h_i h 94 (Int32.toNatClampNeg (139 : Int32))) - (1 : Int32))) Q := by
  have e0 : h_r h 93 1 = some 94 := la_r Lh (q := (93, 1, 94)) (by decide)
  unfold ex_
  refine (am_Y_go 10 (ok := [am_is h (some 93) 12, am_ar h ((h_r h 93 1)) 20 (139 : Int32), am_ar h ((h_r h 93 1)) 20 (139 : Int32)]) (g := (62, [some (v_r (some 93)), some (v_i (0 : Int32))], [], (p_i h ((h_r h 93 1).getD 0) (Int32.toNatClampNeg (139 : Int32)) ((h_i h ((h_r h 93 1).getD 0) (Int32.toNatClampNeg (139 : Int32))) - (1 : Int32))))) rfl).trans ?_
  simp only [e0, Option.getD_some, am_all]
  all_goals exact cj_d (la_is Lh (o := 93) rfl) (cj_k (la_ar Lh (o := 94) rfl) (cj_k (la_ar Lh (o := 94) rfl) (Iff.rfl)))

theorem b_X12_notes_22 {d : Nat} {Q : Option am_V → am_H → Prop} (h : am_H) (x1 : Int32) (Lh : Lay h) : ex_ d 285 22 [some (v_r (some 93)), some (v_i x1)] [] h Q ↔ vp_in ((271 : Int32) + x1) 7053 ∧ vp_in ((140 : Int32) + x1) 7053 ∧ ex_ d 285 15 [some (v_r (some 93)), some (v_i (x1 + (1 : Int32)))] [] (p_i h 94 (Int32.toNatClampNeg ((140 : Int32) + x1)) (h_i h 94 (Int32.toNatClampNeg ((271 : Int32) + x1)))) Q := by
  have e0 : h_r h 93 1 = some 94 := la_r Lh (q := (93, 1, 94)) (by decide)
  unfold ex_
  refine (am_Y_go 14 (ok := [am_is h (some 93) 12, am_is h (some 93) 12, am_ar h ((h_r h 93 1)) 20 ((271 : Int32) + x1), am_ar h ((h_r h 93 1)) 20 ((140 : Int32) + x1)]) (g := (15, [some (v_r (some 93)), some (v_i (x1 + (1 : Int32)))], [], (p_i h ((h_r h 93 1).getD 0) (Int32.toNatClampNeg ((140 : Int32) + x1)) (h_i h ((h_r h 93 1).getD 0) (Int32.toNatClampNeg ((271 : Int32) + x1)))))) rfl).trans ?_
  simp only [e0, Option.getD_some, am_all]
  all_goals exact cj_d (la_is Lh (o := 93) rfl) (cj_d (la_is Lh (o := 93) rfl) (cj_k (la_ar Lh (o := 94) rfl) (cj_k (la_ar Lh (o := 94) rfl) (Iff.rfl))))

theorem b_X12_whyGive_0 {d : Nat} {Q : Option am_V → am_H → Prop} (h : am_H) (x1 : Int64) (l2 l3 l4 : Option am_V) (Lh : Lay h) : ex_ (d + 1) 286 0 [some (v_r (some 93)), some (v_l x1), l2, l3, l4] [] h Q ↔ ex_ d 262 0 [some (v_r (some 93)), some (v_l x1), none] [] h (fun r h' => ex_ (d + 1) 286 5 [some (v_r (some 93)), some (v_l x1), l2, l3, l4] (r.toList ++ []) h' Q) := by
  unfold ex_
  refine (am_Y_go 2 (ok := []) (g := (2, [some (v_r (some 93)), some (v_l x1), l2, l3, l4], [v_l x1, v_r (some 93)], h)) rfl).trans ?_
  all_goals exact ((am_Y_call (j := 262) (na := 2) (ci := 12) (fl := 0) rfl rfl rfl).trans (cj_d ⟨⟨Nat.le_of_ble_eq_true rfl, Nat.le_of_ble_eq_true rfl, Nat.le_of_ble_eq_true rfl, rfl⟩, Or.inr (Or.inr (show (12 : Nat) < 20 ∧ am_is h (some 93) 12 from ⟨by decide, (la_is Lh (o := 93) rfl)⟩))⟩ Iff.rfl))

theorem b_X12_whyGive_5 {d : Nat} {Q : Option am_V → am_H → Prop} (h : am_H) (s0 : Int32) (l0 l1 l2 l3 l4 : Option am_V) : ex_ d 286 5 [l0, l1, l2, l3, l4] [v_i s0] h Q ↔ if s0 = 0 then ex_ d 286 19 [l0, l1, l2, l3, l4] [] h Q else ex_ d 286 8 [l0, l1, l2, l3, l4] [] h Q := by
  unfold ex_
  refine (am_Y_go 1 (ok := []) (g := (if s0 = 0 then 19 else 8, [l0, l1, l2, l3, l4], [], h)) rfl).trans ?_
  all_goals exact am_Y_if

theorem b_X12_whyGive_19 {d : Nat} {Q : Option am_V → am_H → Prop} (h : am_H) (l0 l1 l2 l3 l4 : Option am_V) : ex_ d 286 19 [l0, l1, l2, l3, l4] [] h Q ↔ Q (some (v_i (1 : Int32))) h := by
  unfold ex_
  refine (am_Y_go 1 (ok := []) (g := (20, [l0, l1, l2, l3, l4], [v_i (1 : Int32)], h)) rfl).trans ?_
  all_goals exact ((am_Y_ret rfl rfl rfl).trans (am_r0))

theorem b_X12_whyGive_8 {d : Nat} {Q : Option am_V → am_H → Prop} (h : am_H) (x3 : Int64) (x1 : Int64) (l0 l2 l4 : Option am_V) : ex_ (d + 1) 286 8 [l0, some (v_l x1), l2, some (v_l x3), l4] [] h Q ↔ ex_ d 229 0 [some (v_l x3), none, some (v_l (0 : Int64)), none, some (v_l (x1 - (1 : Int64))), none] [] h (fun r h' => ex_ (d + 1) 286 16 [l0, some (v_l x1), l2, some (v_l x3), l4] (r.toList ++ []) h' Q) := by
  unfold ex_
  refine (am_Y_go 5 (ok := []) (g := (13, [l0, some (v_l x1), l2, some (v_l x3), l4], [v_l (x1 - (1 : Int64)), v_l (0 : Int64), v_l x3], h)) rfl).trans ?_
  all_goals exact ((am_Y_call (j := 229) (na := 3) (ci := 12) (fl := 2) rfl rfl rfl).trans (cj_d ⟨⟨Nat.le_of_ble_eq_true rfl, Nat.le_of_ble_eq_true rfl, Nat.le_of_ble_eq_true rfl, rfl⟩, Or.inl rfl⟩ Iff.rfl))

theorem b_X12_whyGive_16 {d : Nat} {Q : Option am_V → am_H → Prop} (h : am_H) (s0 : Int32) (l0 l1 l2 l3 l4 : Option am_V) : ex_ d 286 16 [l0, l1, l2, l3, l4] [v_i s0] h Q ↔ if ¬ s0 = 0 then ex_ d 286 21 [l0, l1, l2, l3, l4] [] h Q else ex_ d 286 19 [l0, l1, l2, l3, l4] [] h Q := by
  unfold ex_
  refine (am_Y_go 1 (ok := []) (g := (if ¬ s0 = 0 then 21 else 19, [l0, l1, l2, l3, l4], [], h)) rfl).trans ?_
  all_goals exact am_Y_if

theorem b_X12_whyGive_21 {d : Nat} {Q : Option am_V → am_H → Prop} (h : am_H) (x1 : Int64) (x3 : Int64) (l2 l4 : Option am_V) (Lh : Lay h) : ex_ (d + 1) 286 21 [some (v_r (some 93)), some (v_l x1), l2, some (v_l x3), l4] [] h Q ↔ ex_ d 265 0 [some (v_r (some 93)), some (v_i (Int64.toInt32 x1)), some (v_i (Int64.toInt32 x3)), none] [] h (fun r h' => ex_ (d + 1) 286 29 [some (v_r (some 93)), some (v_l x1), l2, some (v_l x3), l4] (r.toList ++ []) h' Q) := by
  unfold ex_
  refine (am_Y_go 5 (ok := []) (g := (26, [some (v_r (some 93)), some (v_l x1), l2, some (v_l x3), l4], [v_i (Int64.toInt32 x3), v_i (Int64.toInt32 x1), v_r (some 93)], h)) rfl).trans ?_
  all_goals exact ((am_Y_call (j := 265) (na := 3) (ci := 12) (fl := 0) rfl rfl rfl).trans (cj_d ⟨⟨Nat.le_of_ble_eq_true rfl, Nat.le_of_ble_eq_true rfl, Nat.le_of_ble_eq_true rfl, rfl⟩, Or.inr (Or.inr (show (12 : Nat) < 20 ∧ am_is h (some 93) 12 from ⟨by decide, (la_is Lh (o := 93) rfl)⟩))⟩ Iff.rfl))

theorem b_X12_whyGive_29 {d : Nat} {Q : Option am_V → am_H → Prop} (h : am_H) (s0 : Int32) (l0 l1 l2 l3 l4 : Option am_V) : ex_ d 286 29 [l0, l1, l2, l3, l4] [v_i s0] h Q ↔ if ¬ s0 = (-1 : Int32) then ex_ d 286 47 [l0, l1, l2, l3, l4] [] h Q else ex_ d 286 33 [l0, l1, l2, l3, l4] [] h Q := by
  unfold ex_
  refine (am_Y_go 2 (ok := []) (g := (if ¬ s0 = (-1 : Int32) then 47 else 33, [l0, l1, l2, l3, l4], [], h)) rfl).trans ?_
  all_goals exact am_Y_if

theorem b_X12_whyGive_47 {d : Nat} {Q : Option am_V → am_H → Prop} (h : am_H) (l0 l1 l2 l3 l4 : Option am_V) : ex_ d 286 47 [l0, l1, l2, l3, l4] [] h Q ↔ Q (some (v_i (2 : Int32))) h := by
  unfold ex_
  refine (am_Y_go 2 (ok := []) (g := (52, [l0, l1, l2, l3, l4], [v_i (2 : Int32)], h)) rfl).trans ?_
  all_goals exact ((am_Y_ret rfl rfl rfl).trans (am_r0))

theorem b_X12_whyGive_33 {d : Nat} {Q : Option am_V → am_H → Prop} (h : am_H) (x1 : Int64) (l2 l3 l4 : Option am_V) (Lh : Lay h) : ex_ d 286 33 [some (v_r (some 93)), some (v_l x1), l2, l3, l4] [] h Q ↔ vp_in ((8 : Int32) + (Int64.toInt32 x1)) 7053 ∧ (if ¬ (h_i h 94 (Int32.toNatClampNeg ((8 : Int32) + (Int64.toInt32 x1)))) = (4 : Int32) then ex_ d 286 51 [some (v_r (some 93)), some (v_l x1), l2, l3, l4] [] h Q else ex_ d 286 47 [some (v_r (some 93)), some (v_l x1), l2, l3, l4] [] h Q) := by
  have e0 : h_r h 93 1 = some 94 := la_r Lh (q := (93, 1, 94)) (by decide)
  unfold ex_
  refine (am_Y_go 9 (ok := [am_is h (some 93) 12, am_ar h ((h_r h 93 1)) 20 ((8 : Int32) + (Int64.toInt32 x1))]) (g := (if ¬ (h_i h ((h_r h 93 1).getD 0) (Int32.toNatClampNeg ((8 : Int32) + (Int64.toInt32 x1)))) = (4 : Int32) then 51 else 47, [some (v_r (some 93)), some (v_l x1), l2, l3, l4], [], h)) rfl).trans ?_
  simp only [e0, Option.getD_some, am_all]
  all_goals exact cj_d (la_is Lh (o := 93) rfl) (cj_k (la_ar Lh (o := 94) rfl) (am_Y_if))

theorem b_X12_whyGive_51 {d : Nat} {Q : Option am_V → am_H → Prop} (h : am_H) (l0 l1 l2 l3 l4 : Option am_V) : ex_ d 286 51 [l0, l1, l2, l3, l4] [] h Q ↔ Q (some (v_i (0 : Int32))) h := by
  unfold ex_
  refine (am_Y_go 1 (ok := []) (g := (52, [l0, l1, l2, l3, l4], [v_i (0 : Int32)], h)) rfl).trans ?_
  all_goals exact ((am_Y_ret rfl rfl rfl).trans (am_r0))

theorem b_X12_whyTake_0 {d : Nat} {Q : Option am_V → am_H → Prop} (h : am_H) (x1 : Int64) (l2 l3 l4 : Option am_V) (Lh : Lay h) : ex_ (d + 1) 287 0 [some (v_r (some 93)), some (v_l x1), l2, l3, l4] [] h Q ↔ ex_ d 262 0 [some (v_r (some 93)), some (v_l x1), none] [] h (fun r h' => ex_ (d + 1) 287 5 [some (v_r (some 93)), some (v_l x1), l2, l3, l4] (r.toList ++ []) h' Q) := by
  unfold ex_
  refine (am_Y_go 2 (ok := []) (g := (2, [some (v_r (some 93)), some (v_l x1), l2, l3, l4], [v_l x1, v_r (some 93)], h)) rfl).trans ?_
  all_goals exact ((am_Y_call (j := 262) (na := 2) (ci := 12) (fl := 0) rfl rfl rfl).trans (cj_d ⟨⟨Nat.le_of_ble_eq_true rfl, Nat.le_of_ble_eq_true rfl, Nat.le_of_ble_eq_true rfl, rfl⟩, Or.inr (Or.inr (show (12 : Nat) < 20 ∧ am_is h (some 93) 12 from ⟨by decide, (la_is Lh (o := 93) rfl)⟩))⟩ Iff.rfl))

theorem b_X12_whyTake_5 {d : Nat} {Q : Option am_V → am_H → Prop} (h : am_H) (s0 : Int32) (l0 l1 l2 l3 l4 : Option am_V) : ex_ d 287 5 [l0, l1, l2, l3, l4] [v_i s0] h Q ↔ if s0 = 0 then ex_ d 287 16 [l0, l1, l2, l3, l4] [] h Q else ex_ d 287 8 [l0, l1, l2, l3, l4] [] h Q := by
  unfold ex_
  refine (am_Y_go 1 (ok := []) (g := (if s0 = 0 then 16 else 8, [l0, l1, l2, l3, l4], [], h)) rfl).trans ?_
  all_goals exact am_Y_if

theorem b_X12_whyTake_16 {d : Nat} {Q : Option am_V → am_H → Prop} (h : am_H) (l0 l1 l2 l3 l4 : Option am_V) : ex_ d 287 16 [l0, l1, l2, l3, l4] [] h Q ↔ Q (some (v_i (1 : Int32))) h := by
  unfold ex_
  refine (am_Y_go 1 (ok := []) (g := (17, [l0, l1, l2, l3, l4], [v_i (1 : Int32)], h)) rfl).trans ?_
  all_goals exact ((am_Y_ret rfl rfl rfl).trans (am_r0))

theorem b_X12_whyTake_8 {d : Nat} {Q : Option am_V → am_H → Prop} (h : am_H) (x3 : Int64) (l1 l2 l4 : Option am_V) (Lh : Lay h) : ex_ (d + 1) 287 8 [some (v_r (some 93)), l1, l2, some (v_l x3), l4] [] h Q ↔ ex_ d 262 0 [some (v_r (some 93)), some (v_l x3), none] [] h (fun r h' => ex_ (d + 1) 287 13 [some (v_r (some 93)), l1, l2, some (v_l x3), l4] (r.toList ++ []) h' Q) := by
  unfold ex_
  refine (am_Y_go 2 (ok := []) (g := (10, [some (v_r (some 93)), l1, l2, some (v_l x3), l4], [v_l x3, v_r (some 93)], h)) rfl).trans ?_
  all_goals exact ((am_Y_call (j := 262) (na := 2) (ci := 12) (fl := 0) rfl rfl rfl).trans (cj_d ⟨⟨Nat.le_of_ble_eq_true rfl, Nat.le_of_ble_eq_true rfl, Nat.le_of_ble_eq_true rfl, rfl⟩, Or.inr (Or.inr (show (12 : Nat) < 20 ∧ am_is h (some 93) 12 from ⟨by decide, (la_is Lh (o := 93) rfl)⟩))⟩ Iff.rfl))

theorem b_X12_whyTake_13 {d : Nat} {Q : Option am_V → am_H → Prop} (h : am_H) (s0 : Int32) (l0 l1 l2 l3 l4 : Option am_V) : ex_ d 287 13 [l0, l1, l2, l3, l4] [v_i s0] h Q ↔ if ¬ s0 = 0 then ex_ d 287 18 [l0, l1, l2, l3, l4] [] h Q else ex_ d 287 16 [l0, l1, l2, l3, l4] [] h Q := by
  unfold ex_
  refine (am_Y_go 1 (ok := []) (g := (if ¬ s0 = 0 then 18 else 16, [l0, l1, l2, l3, l4], [], h)) rfl).trans ?_
  all_goals exact am_Y_if

theorem b_X12_whyTake_18 {d : Nat} {Q : Option am_V → am_H → Prop} (h : am_H) (x1 : Int64) (x3 : Int64) (l2 l4 : Option am_V) (Lh : Lay h) : ex_ (d + 1) 287 18 [some (v_r (some 93)), some (v_l x1), l2, some (v_l x3), l4] [] h Q ↔ ex_ d 265 0 [some (v_r (some 93)), some (v_i (Int64.toInt32 x1)), some (v_i (Int64.toInt32 x3)), none] [] h (fun r h' => ex_ (d + 1) 287 26 [some (v_r (some 93)), some (v_l x1), l2, some (v_l x3), l4] (r.toList ++ []) h' Q) := by
  unfold ex_
  refine (am_Y_go 5 (ok := []) (g := (23, [some (v_r (some 93)), some (v_l x1), l2, some (v_l x3), l4], [v_i (Int64.toInt32 x3), v_i (Int64.toInt32 x1), v_r (some 93)], h)) rfl).trans ?_
  all_goals exact ((am_Y_call (j := 265) (na := 3) (ci := 12) (fl := 0) rfl rfl rfl).trans (cj_d ⟨⟨Nat.le_of_ble_eq_true rfl, Nat.le_of_ble_eq_true rfl, Nat.le_of_ble_eq_true rfl, rfl⟩, Or.inr (Or.inr (show (12 : Nat) < 20 ∧ am_is h (some 93) 12 from ⟨by decide, (la_is Lh (o := 93) rfl)⟩))⟩ Iff.rfl))

theorem b_X12_whyTake_26 {d : Nat} {Q : Option am_V → am_H → Prop} (h : am_H) (s0 : Int32) (l0 l1 l2 l3 l4 : Option am_V) : ex_ d 287 26 [l0, l1, l2, l3, l4] [v_i s0] h Q ↔ if ¬ s0 = (-1 : Int32) then ex_ d 287 34 [l0, l1, l2, l3, l4] [] h Q else ex_ d 287 30 [l0, l1, l2, l3, l4] [] h Q := by
  unfold ex_
  refine (am_Y_go 2 (ok := []) (g := (if ¬ s0 = (-1 : Int32) then 34 else 30, [l0, l1, l2, l3, l4], [], h)) rfl).trans ?_
  all_goals exact am_Y_if

theorem b_X12_whyTake_34 {d : Nat} {Q : Option am_V → am_H → Prop} (h : am_H) (l0 l1 l2 l3 l4 : Option am_V) : ex_ d 287 34 [l0, l1, l2, l3, l4] [] h Q ↔ Q (some (v_i (0 : Int32))) h := by
  unfold ex_
  refine (am_Y_go 1 (ok := []) (g := (35, [l0, l1, l2, l3, l4], [v_i (0 : Int32)], h)) rfl).trans ?_
  all_goals exact ((am_Y_ret rfl rfl rfl).trans (am_r0))

theorem b_X12_whyTake_30 {d : Nat} {Q : Option am_V → am_H → Prop} (h : am_H) (l0 l1 l2 l3 l4 : Option am_V) : ex_ d 287 30 [l0, l1, l2, l3, l4] [] h Q ↔ Q (some (v_i (2 : Int32))) h := by
  unfold ex_
  refine (am_Y_go 2 (ok := []) (g := (35, [l0, l1, l2, l3, l4], [v_i (2 : Int32)], h)) rfl).trans ?_
  all_goals exact ((am_Y_ret rfl rfl rfl).trans (am_r0))

theorem b_X12_whySwap_0 {d : Nat} {Q : Option am_V → am_H → Prop} (h : am_H) (x1 : Int64) (l2 l3 l4 : Option am_V) (Lh : Lay h) : ex_ (d + 1) 288 0 [some (v_r (some 93)), some (v_l x1), l2, l3, l4] [] h Q ↔ ex_ d 262 0 [some (v_r (some 93)), some (v_l x1), none] [] h (fun r h' => ex_ (d + 1) 288 5 [some (v_r (some 93)), some (v_l x1), l2, l3, l4] (r.toList ++ []) h' Q) := by
  unfold ex_
  refine (am_Y_go 2 (ok := []) (g := (2, [some (v_r (some 93)), some (v_l x1), l2, l3, l4], [v_l x1, v_r (some 93)], h)) rfl).trans ?_
  all_goals exact ((am_Y_call (j := 262) (na := 2) (ci := 12) (fl := 0) rfl rfl rfl).trans (cj_d ⟨⟨Nat.le_of_ble_eq_true rfl, Nat.le_of_ble_eq_true rfl, Nat.le_of_ble_eq_true rfl, rfl⟩, Or.inr (Or.inr (show (12 : Nat) < 20 ∧ am_is h (some 93) 12 from ⟨by decide, (la_is Lh (o := 93) rfl)⟩))⟩ Iff.rfl))

theorem b_X12_whySwap_5 {d : Nat} {Q : Option am_V → am_H → Prop} (h : am_H) (s0 : Int32) (l0 l1 l2 l3 l4 : Option am_V) : ex_ d 288 5 [l0, l1, l2, l3, l4] [v_i s0] h Q ↔ if ¬ s0 = 0 then ex_ d 288 10 [l0, l1, l2, l3, l4] [] h Q else ex_ d 288 8 [l0, l1, l2, l3, l4] [] h Q := by
  unfold ex_
  refine (am_Y_go 1 (ok := []) (g := (if ¬ s0 = 0 then 10 else 8, [l0, l1, l2, l3, l4], [], h)) rfl).trans ?_
  all_goals exact am_Y_if

theorem b_X12_whySwap_10 {d : Nat} {Q : Option am_V → am_H → Prop} (h : am_H) (x3 : Int64) (x1 : Int64) (l2 l4 : Option am_V) (Lh : Lay h) : ex_ (d + 1) 288 10 [some (v_r (some 93)), some (v_l x1), l2, some (v_l x3), l4] [] h Q ↔ vp_in ((8 : Int32) + (Int64.toInt32 x1)) 7053 ∧ ex_ d 229 0 [some (v_l x3), none, some (v_l (0 : Int64)), none, some (v_l (Int32.toInt64 ((h_i h 94 (Int32.toNatClampNeg ((8 : Int32) + (Int64.toInt32 x1)))) - (2 : Int32)))), none] [] h (fun r h' => ex_ (d + 1) 288 28 [some (v_r (some 93)), some (v_l x1), l2, some (v_l x3), l4] (r.toList ++ []) h' Q) := by
  have e0 : h_r h 93 1 = some 94 := la_r Lh (q := (93, 1, 94)) (by decide)
  unfold ex_
  refine (am_Y_go 12 (ok := [am_is h (some 93) 12, am_ar h ((h_r h 93 1)) 20 ((8 : Int32) + (Int64.toInt32 x1))]) (g := (25, [some (v_r (some 93)), some (v_l x1), l2, some (v_l x3), l4], [v_l (Int32.toInt64 ((h_i h ((h_r h 93 1).getD 0) (Int32.toNatClampNeg ((8 : Int32) + (Int64.toInt32 x1)))) - (2 : Int32))), v_l (0 : Int64), v_l x3], h)) rfl).trans ?_
  simp only [e0, Option.getD_some, am_all]
  all_goals exact cj_d (la_is Lh (o := 93) rfl) (cj_k (la_ar Lh (o := 94) rfl) (((am_Y_call (j := 229) (na := 3) (ci := 12) (fl := 2) rfl rfl rfl).trans (cj_d ⟨⟨Nat.le_of_ble_eq_true rfl, Nat.le_of_ble_eq_true rfl, Nat.le_of_ble_eq_true rfl, rfl⟩, Or.inl rfl⟩ Iff.rfl))))

theorem b_X12_whySwap_8 {d : Nat} {Q : Option am_V → am_H → Prop} (h : am_H) (l0 l1 l2 l3 l4 : Option am_V) : ex_ d 288 8 [l0, l1, l2, l3, l4] [] h Q ↔ Q (some (v_i (1 : Int32))) h := by
  unfold ex_
  refine (am_Y_go 1 (ok := []) (g := (9, [l0, l1, l2, l3, l4], [v_i (1 : Int32)], h)) rfl).trans ?_
  all_goals exact ((am_Y_ret rfl rfl rfl).trans (am_r0))

theorem b_X12_whySwap_28 {d : Nat} {Q : Option am_V → am_H → Prop} (h : am_H) (s0 : Int32) (l0 l1 l2 l3 l4 : Option am_V) : ex_ d 288 28 [l0, l1, l2, l3, l4] [v_i s0] h Q ↔ if s0 = 0 then ex_ d 288 35 [l0, l1, l2, l3, l4] [] h Q else ex_ d 288 31 [l0, l1, l2, l3, l4] [] h Q := by
  unfold ex_
  refine (am_Y_go 1 (ok := []) (g := (if s0 = 0 then 35 else 31, [l0, l1, l2, l3, l4], [], h)) rfl).trans ?_
  all_goals exact am_Y_if

theorem b_X12_whySwap_35 {d : Nat} {Q : Option am_V → am_H → Prop} (h : am_H) (l0 l1 l2 l3 l4 : Option am_V) : ex_ d 288 35 [l0, l1, l2, l3, l4] [] h Q ↔ Q (some (v_i (2 : Int32))) h := by
  unfold ex_
  refine (am_Y_go 1 (ok := []) (g := (36, [l0, l1, l2, l3, l4], [v_i (2 : Int32)], h)) rfl).trans ?_
  all_goals exact ((am_Y_ret rfl rfl rfl).trans (am_r0))

theorem b_X12_whySwap_31 {d : Nat} {Q : Option am_V → am_H → Prop} (h : am_H) (l0 l1 l2 l3 l4 : Option am_V) : ex_ d 288 31 [l0, l1, l2, l3, l4] [] h Q ↔ Q (some (v_i (0 : Int32))) h := by
  unfold ex_
  refine (am_Y_go 2 (ok := []) (g := (36, [l0, l1, l2, l3, l4], [v_i (0 : Int32)], h)) rfl).trans ?_
  all_goals exact ((am_Y_ret rfl rfl rfl).trans (am_r0))

theorem b_X12_whyDefine_0 {d : Nat} {Q : Option am_V → am_H → Prop} (h : am_H) (x1 : Int64) (l2 l3 l4 l5 l6 : Option am_V) (Lh : Lay h) : ex_ (d + 1) 289 0 [some (v_r (some 93)), some (v_l x1), l2, l3, l4, l5, l6] [] h Q ↔ ex_ d 262 0 [some (v_r (some 93)), some (v_l x1), none] [] h (fun r h' => ex_ (d + 1) 289 5 [some (v_r (some 93)), some (v_l x1), l2, l3, l4, l5, l6] (r.toList ++ []) h' Q) := by
  unfold ex_
  refine (am_Y_go 2 (ok := []) (g := (2, [some (v_r (some 93)), some (v_l x1), l2, l3, l4, l5, l6], [v_l x1, v_r (some 93)], h)) rfl).trans ?_
  all_goals exact ((am_Y_call (j := 262) (na := 2) (ci := 12) (fl := 0) rfl rfl rfl).trans (cj_d ⟨⟨Nat.le_of_ble_eq_true rfl, Nat.le_of_ble_eq_true rfl, Nat.le_of_ble_eq_true rfl, rfl⟩, Or.inr (Or.inr (show (12 : Nat) < 20 ∧ am_is h (some 93) 12 from ⟨by decide, (la_is Lh (o := 93) rfl)⟩))⟩ Iff.rfl))

theorem b_X12_whyDefine_5 {d : Nat} {Q : Option am_V → am_H → Prop} (h : am_H) (s0 : Int32) (l0 l1 l2 l3 l4 l5 l6 : Option am_V) : ex_ d 289 5 [l0, l1, l2, l3, l4, l5, l6] [v_i s0] h Q ↔ if s0 = 0 then ex_ d 289 27 [l0, l1, l2, l3, l4, l5, l6] [] h Q else ex_ d 289 8 [l0, l1, l2, l3, l4, l5, l6] [] h Q := by
  unfold ex_
  refine (am_Y_go 1 (ok := []) (g := (if s0 = 0 then 27 else 8, [l0, l1, l2, l3, l4, l5, l6], [], h)) rfl).trans ?_
  all_goals exact am_Y_if

theorem b_X12_whyDefine_27 {d : Nat} {Q : Option am_V → am_H → Prop} (h : am_H) (l0 l1 l2 l3 l4 l5 l6 : Option am_V) : ex_ d 289 27 [l0, l1, l2, l3, l4, l5, l6] [] h Q ↔ Q (some (v_i (1 : Int32))) h := by
  unfold ex_
  refine (am_Y_go 1 (ok := []) (g := (28, [l0, l1, l2, l3, l4, l5, l6], [v_i (1 : Int32)], h)) rfl).trans ?_
  all_goals exact ((am_Y_ret rfl rfl rfl).trans (am_r0))

theorem b_X12_whyDefine_8 {d : Nat} {Q : Option am_V → am_H → Prop} (h : am_H) (x3 : Int64) (l0 l1 l2 l4 l5 l6 : Option am_V) : ex_ (d + 1) 289 8 [l0, l1, l2, some (v_l x3), l4, l5, l6] [] h Q ↔ ex_ d 263 0 [some (v_l x3), none] [] h (fun r h' => ex_ (d + 1) 289 12 [l0, l1, l2, some (v_l x3), l4, l5, l6] (r.toList ++ []) h' Q) := by
  unfold ex_
  refine (am_Y_go 1 (ok := []) (g := (9, [l0, l1, l2, some (v_l x3), l4, l5, l6], [v_l x3], h)) rfl).trans ?_
  all_goals exact ((am_Y_call (j := 263) (na := 1) (ci := 12) (fl := 2) rfl rfl rfl).trans (cj_d ⟨⟨Nat.le_of_ble_eq_true rfl, Nat.le_of_ble_eq_true rfl, Nat.le_of_ble_eq_true rfl, rfl⟩, Or.inl rfl⟩ Iff.rfl))

theorem b_X12_whyDefine_12 {d : Nat} {Q : Option am_V → am_H → Prop} (h : am_H) (s0 : Int32) (l0 l1 l2 l3 l4 l5 l6 : Option am_V) : ex_ d 289 12 [l0, l1, l2, l3, l4, l5, l6] [v_i s0] h Q ↔ if s0 = 0 then ex_ d 289 27 [l0, l1, l2, l3, l4, l5, l6] [] h Q else ex_ d 289 15 [l0, l1, l2, l3, l4, l5, l6] [] h Q := by
  unfold ex_
  refine (am_Y_go 1 (ok := []) (g := (if s0 = 0 then 27 else 15, [l0, l1, l2, l3, l4, l5, l6], [], h)) rfl).trans ?_
  all_goals exact am_Y_if

theorem b_X12_whyDefine_15 {d : Nat} {Q : Option am_V → am_H → Prop} (h : am_H) (x5 : Int64) (l0 l1 l2 l3 l4 l6 : Option am_V) : ex_ (d + 1) 289 15 [l0, l1, l2, l3, l4, some (v_l x5), l6] [] h Q ↔ ex_ d 229 0 [some (v_l x5), none, some (v_l (0 : Int64)), none, some (v_l (2 : Int64)), none] [] h (fun r h' => ex_ (d + 1) 289 24 [l0, l1, l2, l3, l4, some (v_l x5), l6] (r.toList ++ []) h' Q) := by
  unfold ex_
  refine (am_Y_go 3 (ok := []) (g := (21, [l0, l1, l2, l3, l4, some (v_l x5), l6], [v_l (2 : Int64), v_l (0 : Int64), v_l x5], h)) rfl).trans ?_
  all_goals exact ((am_Y_call (j := 229) (na := 3) (ci := 12) (fl := 2) rfl rfl rfl).trans (cj_d ⟨⟨Nat.le_of_ble_eq_true rfl, Nat.le_of_ble_eq_true rfl, Nat.le_of_ble_eq_true rfl, rfl⟩, Or.inl rfl⟩ Iff.rfl))

theorem b_X12_whyDefine_24 {d : Nat} {Q : Option am_V → am_H → Prop} (h : am_H) (s0 : Int32) (l0 l1 l2 l3 l4 l5 l6 : Option am_V) : ex_ d 289 24 [l0, l1, l2, l3, l4, l5, l6] [v_i s0] h Q ↔ if ¬ s0 = 0 then ex_ d 289 29 [l0, l1, l2, l3, l4, l5, l6] [] h Q else ex_ d 289 27 [l0, l1, l2, l3, l4, l5, l6] [] h Q := by
  unfold ex_
  refine (am_Y_go 1 (ok := []) (g := (if ¬ s0 = 0 then 29 else 27, [l0, l1, l2, l3, l4, l5, l6], [], h)) rfl).trans ?_
  all_goals exact am_Y_if

theorem b_X12_whyDefine_29 {d : Nat} {Q : Option am_V → am_H → Prop} (h : am_H) (x5 : Int64) (l0 l1 l2 l3 l4 l6 : Option am_V) : ex_ d 289 29 [l0, l1, l2, l3, l4, some (v_l x5), l6] [] h Q ↔ if ¬ (lg_cmp x5 (2 : Int64)) = 0 then ex_ d 289 61 [l0, l1, l2, l3, l4, some (v_l x5), l6] [] h Q else ex_ d 289 38 [l0, l1, l2, l3, l4, some (v_l x5), l6] [] h Q := by
  unfold ex_
  refine (am_Y_go 4 (ok := []) (g := (if ¬ (lg_cmp x5 (2 : Int64)) = 0 then 61 else 38, [l0, l1, l2, l3, l4, some (v_l x5), l6], [], h)) rfl).trans ?_
  all_goals exact am_Y_if

theorem b_X12_whyDefine_61 {d : Nat} {Q : Option am_V → am_H → Prop} (h : am_H) (l0 l1 l2 l3 l4 l5 l6 : Option am_V) : ex_ d 289 61 [l0, l1, l2, l3, l4, l5, l6] [] h Q ↔ Q (some (v_i (0 : Int32))) h := by
  unfold ex_
  refine (am_Y_go 1 (ok := []) (g := (62, [l0, l1, l2, l3, l4, l5, l6], [v_i (0 : Int32)], h)) rfl).trans ?_
  all_goals exact ((am_Y_ret rfl rfl rfl).trans (am_r0))

theorem b_X12_whyDefine_38 {d : Nat} {Q : Option am_V → am_H → Prop} (h : am_H) (x1 : Int64) (x3 : Int64) (l2 l4 l5 l6 : Option am_V) (Lh : Lay h) : ex_ d 289 38 [some (v_r (some 93)), some (v_l x1), l2, some (v_l x3), l4, l5, l6] [] h Q ↔ vp_in (((58 : Int32) + ((8 : Int32) * (Int64.toInt32 x1))) + (Int64.toInt32 x3)) 7053 ∧ (if ¬ (h_i h 94 (Int32.toNatClampNeg (((58 : Int32) + ((8 : Int32) * (Int64.toInt32 x1))) + (Int64.toInt32 x3)))) = 0 then ex_ d 289 61 [some (v_r (some 93)), some (v_l x1), l2, some (v_l x3), l4, l5, l6] [] h Q else ex_ d 289 57 [some (v_r (some 93)), some (v_l x1), l2, some (v_l x3), l4, l5, l6] [] h Q) := by
  have e0 : h_r h 93 1 = some 94 := la_r Lh (q := (93, 1, 94)) (by decide)
  unfold ex_
  refine (am_Y_go 13 (ok := [am_is h (some 93) 12, am_ar h ((h_r h 93 1)) 20 (((58 : Int32) + ((8 : Int32) * (Int64.toInt32 x1))) + (Int64.toInt32 x3))]) (g := (if ¬ (h_i h ((h_r h 93 1).getD 0) (Int32.toNatClampNeg (((58 : Int32) + ((8 : Int32) * (Int64.toInt32 x1))) + (Int64.toInt32 x3)))) = 0 then 61 else 57, [some (v_r (some 93)), some (v_l x1), l2, some (v_l x3), l4, l5, l6], [], h)) rfl).trans ?_
  simp only [e0, Option.getD_some, am_all]
  all_goals exact cj_d (la_is Lh (o := 93) rfl) (cj_k (la_ar Lh (o := 94) rfl) (am_Y_if))

theorem b_X12_whyDefine_57 {d : Nat} {Q : Option am_V → am_H → Prop} (h : am_H) (l0 l1 l2 l3 l4 l5 l6 : Option am_V) : ex_ d 289 57 [l0, l1, l2, l3, l4, l5, l6] [] h Q ↔ Q (some (v_i (2 : Int32))) h := by
  unfold ex_
  refine (am_Y_go 2 (ok := []) (g := (62, [l0, l1, l2, l3, l4, l5, l6], [v_i (2 : Int32)], h)) rfl).trans ?_
  all_goals exact ((am_Y_ret rfl rfl rfl).trans (am_r0))

theorem b_X12_goesGive_0 {d : Nat} {Q : Option am_V → am_H → Prop} (h : am_H) (x1 : Int32) (x2 : Int32) (Lh : Lay h) : ex_ d 290 0 [some (v_r (some 93)), some (v_i x1), some (v_i x2)] [] h Q ↔ vp_in ((8 : Int32) + x1) 7053 ∧ vp_in (((18 : Int32) + ((4 : Int32) * x1)) + (h_i h 94 (Int32.toNatClampNeg ((8 : Int32) + x1)))) 7053 ∧ vp_in ((8 : Int32) + x1) 7053 ∧ vp_in ((8 : Int32) + x1) 7053 ∧ Q (none) (p_i (p_i h 94 (Int32.toNatClampNeg (((18 : Int32) + ((4 : Int32) * x1)) + (h_i h 94 (Int32.toNatClampNeg ((8 : Int32) + x1))))) x2) 94 (Int32.toNatClampNeg ((8 : Int32) + x1)) ((h_i (p_i h 94 (Int32.toNatClampNeg (((18 : Int32) + ((4 : Int32) * x1)) + (h_i h 94 (Int32.toNatClampNeg ((8 : Int32) + x1))))) x2) 94 (Int32.toNatClampNeg ((8 : Int32) + x1))) + (1 : Int32))) := by
  have e0 : h_r h 93 1 = some 94 := la_r Lh (q := (93, 1, 94)) (by decide)
  unfold ex_
  refine (am_Y_go 26 (ok := [am_is h (some 93) 12, am_is h (some 93) 12, am_ar h ((h_r h 93 1)) 20 ((8 : Int32) + x1), am_ar h ((h_r h 93 1)) 20 (((18 : Int32) + ((4 : Int32) * x1)) + (h_i h ((h_r h 93 1).getD 0) (Int32.toNatClampNeg ((8 : Int32) + x1)))), am_is h (some 93) 12, am_ar h ((h_r h 93 1)) 20 ((8 : Int32) + x1), am_ar h ((h_r h 93 1)) 20 ((8 : Int32) + x1)]) (g := (35, [some (v_r (some 93)), some (v_i x1), some (v_i x2)], [], (p_i (p_i h ((h_r h 93 1).getD 0) (Int32.toNatClampNeg (((18 : Int32) + ((4 : Int32) * x1)) + (h_i h ((h_r h 93 1).getD 0) (Int32.toNatClampNeg ((8 : Int32) + x1))))) x2) ((h_r h 93 1).getD 0) (Int32.toNatClampNeg ((8 : Int32) + x1)) ((h_i (p_i h ((h_r h 93 1).getD 0) (Int32.toNatClampNeg (((18 : Int32) + ((4 : Int32) * x1)) + (h_i h ((h_r h 93 1).getD 0) (Int32.toNatClampNeg ((8 : Int32) + x1))))) x2) ((h_r h 93 1).getD 0) (Int32.toNatClampNeg ((8 : Int32) + x1))) + (1 : Int32))))) rfl).trans ?_
  simp only [e0, Option.getD_some, am_all]
  all_goals exact cj_d (la_is Lh (o := 93) rfl) (cj_d (la_is Lh (o := 93) rfl) (cj_k (la_ar Lh (o := 94) rfl) (cj_k (la_ar Lh (o := 94) rfl) (cj_d (la_is Lh (o := 93) rfl) (cj_k (la_ar Lh (o := 94) rfl) (cj_k (la_ar Lh (o := 94) rfl) (((am_Y_ret rfl rfl rfl).trans (am_rz rfl)))))))))

theorem b_X12_goesTake_0 {d : Nat} {Q : Option am_V → am_H → Prop} (h : am_H) (x1 : Int32) (x2 : Int32) (l3 : Option am_V) (Lh : Lay h) : ex_ d 291 0 [some (v_r (some 93)), some (v_i x1), some (v_i x2), l3] [] h Q ↔ vp_in ((8 : Int32) + x1) 7053 ∧ vp_in ((8 : Int32) + x1) 7053 ∧ ex_ d 291 15 [some (v_r (some 93)), some (v_i x1), some (v_i x2), some (v_i x2)] [] (p_i h 94 (Int32.toNatClampNeg ((8 : Int32) + x1)) ((h_i h 94 (Int32.toNatClampNeg ((8 : Int32) + x1))) - (1 : Int32))) Q := by
  have e0 : h_r h 93 1 = some 94 := la_r Lh (q := (93, 1, 94)) (by decide)
  unfold ex_
  refine (am_Y_go 12 (ok := [am_is h (some 93) 12, am_ar h ((h_r h 93 1)) 20 ((8 : Int32) + x1), am_ar h ((h_r h 93 1)) 20 ((8 : Int32) + x1)]) (g := (15, [some (v_r (some 93)), some (v_i x1), some (v_i x2), some (v_i x2)], [], (p_i h ((h_r h 93 1).getD 0) (Int32.toNatClampNeg ((8 : Int32) + x1)) ((h_i h ((h_r h 93 1).getD 0) (Int32.toNatClampNeg ((8 : Int32) + x1))) - (1 : Int32))))) rfl).trans ?_
  simp only [e0, Option.getD_some, am_all]
  all_goals exact cj_d (la_is Lh (o := 93) rfl) (cj_k (la_ar Lh (o := 94) rfl) (cj_k (la_ar Lh (o := 94) rfl) (Iff.rfl)))

theorem b_X12_goesTake_15 {d : Nat} {Q : Option am_V → am_H → Prop} (h : am_H) (x3 : Int32) (l0 l1 l2 : Option am_V) : ex_ d 291 15 [l0, l1, l2, some (v_i x3)] [] h Q ↔ if (4 : Int32) ≤ x3 then ex_ d 291 64 [l0, l1, l2, some (v_i x3)] [] h Q else ex_ d 291 20 [l0, l1, l2, some (v_i x3)] [] h Q := by
  unfold ex_
  refine (am_Y_go 3 (ok := []) (g := (if (4 : Int32) ≤ x3 then 64 else 20, [l0, l1, l2, some (v_i x3)], [], h)) rfl).trans ?_
  all_goals exact am_Y_if

theorem b_X12_goesTake_64 {d : Nat} {Q : Option am_V → am_H → Prop} (h : am_H) (l0 l1 l2 l3 : Option am_V) : ex_ d 291 64 [l0, l1, l2, l3] [] h Q ↔ Q (none) h := by
  unfold ex_
  exact ((am_Y_ret rfl rfl rfl).trans (am_rz rfl))

theorem b_X12_goesTake_20 {d : Nat} {Q : Option am_V → am_H → Prop} (h : am_H) (x1 : Int32) (x3 : Int32) (l2 : Option am_V) (Lh : Lay h) : ex_ d 291 20 [some (v_r (some 93)), some (v_i x1), l2, some (v_i x3)] [] h Q ↔ vp_in ((8 : Int32) + x1) 7053 ∧ (if (h_i h 94 (Int32.toNatClampNeg ((8 : Int32) + x1))) ≤ x3 then ex_ d 291 56 [some (v_r (some 93)), some (v_i x1), l2, some (v_i x3)] [v_i (((18 : Int32) + ((4 : Int32) * x1)) + x3), v_r (some 94)] h Q else ex_ d 291 45 [some (v_r (some 93)), some (v_i x1), l2, some (v_i x3)] [v_i (((18 : Int32) + ((4 : Int32) * x1)) + x3), v_r (some 94)] h Q) := by
  have e0 : h_r h 93 1 = some 94 := la_r Lh (q := (93, 1, 94)) (by decide)
  unfold ex_
  refine (am_Y_go 17 (ok := [am_is h (some 93) 12, am_is h (some 93) 12, am_ar h ((h_r h 93 1)) 20 ((8 : Int32) + x1)]) (g := (if (h_i h ((h_r h 93 1).getD 0) (Int32.toNatClampNeg ((8 : Int32) + x1))) ≤ x3 then 56 else 45, [some (v_r (some 93)), some (v_i x1), l2, some (v_i x3)], [v_i (((18 : Int32) + ((4 : Int32) * x1)) + x3), v_r ((h_r h 93 1))], h)) rfl).trans ?_
  simp only [e0, Option.getD_some, am_all]
  all_goals exact cj_d (la_is Lh (o := 93) rfl) (cj_d (la_is Lh (o := 93) rfl) (cj_k (la_ar Lh (o := 94) rfl) (am_Y_if)))

theorem b_X12_goesTake_56 {d : Nat} {Q : Option am_V → am_H → Prop} (h : am_H) (s0 : Int32) (t1 : Nat) (x3 : Int32) (l0 l1 l2 : Option am_V) {n_t1 : Nat} (A_t1 : y_arr h t1 20 n_t1) : ex_ d 291 56 [l0, l1, l2, some (v_i x3)] [v_i s0, v_r (some t1)] h Q ↔ vp_in s0 n_t1 ∧ ex_ d 291 15 [l0, l1, l2, some (v_i (x3 + (1 : Int32)))] [] (p_i h t1 (Int32.toNatClampNeg s0) (0 : Int32)) Q := by
  unfold ex_
  refine (am_Y_go 4 (ok := [am_ar h (some t1) 20 s0]) (g := (15, [l0, l1, l2, some (v_i (x3 + (1 : Int32)))], [], (p_i h t1 (Int32.toNatClampNeg s0) (0 : Int32)))) rfl).trans ?_
  simp only [am_all]
  all_goals exact cj_k (lb_ar A_t1) (Iff.rfl)

theorem b_X12_goesTake_45 {d : Nat} {Q : Option am_V → am_H → Prop} (h : am_H) (s0 : Int32) (t1 : Nat) (x1 : Int32) (x3 : Int32) (l2 : Option am_V) (Lh : Lay h) {n_t1 : Nat} (A_t1 : y_arr h t1 20 n_t1) : ex_ (d + 1) 291 45 [some (v_r (some 93)), some (v_i x1), l2, some (v_i x3)] [v_i s0, v_r (some t1)] h Q ↔ ex_ d 264 0 [some (v_r (some 93)), some (v_i x1), some (v_i (x3 + (1 : Int32)))] [] h (fun r h' => ex_ (d + 1) 291 53 [some (v_r (some 93)), some (v_i x1), l2, some (v_i x3)] (r.toList ++ [v_i s0, v_r (some t1)]) h' Q) := by
  unfold ex_
  refine (am_Y_go 5 (ok := []) (g := (50, [some (v_r (some 93)), some (v_i x1), l2, some (v_i x3)], [v_i (x3 + (1 : Int32)), v_i x1, v_r (some 93), v_i s0, v_r (some t1)], h)) rfl).trans ?_
  all_goals exact ((am_Y_call (j := 264) (na := 3) (ci := 12) (fl := 0) rfl rfl rfl).trans (cj_d ⟨⟨Nat.le_of_ble_eq_true rfl, Nat.le_of_ble_eq_true rfl, Nat.le_of_ble_eq_true rfl, rfl⟩, Or.inr (Or.inr (show (12 : Nat) < 20 ∧ am_is h (some 93) 12 from ⟨by decide, (la_is Lh (o := 93) rfl)⟩))⟩ Iff.rfl))

theorem b_X12_goesTake_53 {d : Nat} {Q : Option am_V → am_H → Prop} (h : am_H) (s0 : Int32) (s1 : Int32) (t2 : Nat) (x3 : Int32) (l0 l1 l2 : Option am_V) {n_t2 : Nat} (A_t2 : y_arr h t2 20 n_t2) : ex_ d 291 53 [l0, l1, l2, some (v_i x3)] [v_i s0, v_i s1, v_r (some t2)] h Q ↔ vp_in s1 n_t2 ∧ ex_ d 291 15 [l0, l1, l2, some (v_i (x3 + (1 : Int32)))] [] (p_i h t2 (Int32.toNatClampNeg s1) s0) Q := by
  unfold ex_
  refine (am_Y_go 4 (ok := [am_ar h (some t2) 20 s1]) (g := (15, [l0, l1, l2, some (v_i (x3 + (1 : Int32)))], [], (p_i h t2 (Int32.toNatClampNeg s1) s0))) rfl).trans ?_
  simp only [am_all]
  all_goals exact cj_k (lb_ar A_t2) (Iff.rfl)

theorem b_X12_goesSwap_0 {d : Nat} {Q : Option am_V → am_H → Prop} (h : am_H) (x1 : Int32) (x2 : Int32) (l3 : Option am_V) (Lh : Lay h) : ex_ (d + 1) 292 0 [some (v_r (some 93)), some (v_i x1), some (v_i x2), l3] [] h Q ↔ ex_ d 264 0 [some (v_r (some 93)), some (v_i x1), some (v_i x2)] [] h (fun r h' => ex_ (d + 1) 292 6 [some (v_r (some 93)), some (v_i x1), some (v_i x2), l3] (r.toList ++ []) h' Q) := by
  unfold ex_
  refine (am_Y_go 3 (ok := []) (g := (3, [some (v_r (some 93)), some (v_i x1), some (v_i x2), l3], [v_i x2, v_i x1, v_r (some 93)], h)) rfl).trans ?_
  all_goals exact ((am_Y_call (j := 264) (na := 3) (ci := 12) (fl := 0) rfl rfl rfl).trans (cj_d ⟨⟨Nat.le_of_ble_eq_true rfl, Nat.le_of_ble_eq_true rfl, Nat.le_of_ble_eq_true rfl, rfl⟩, Or.inr (Or.inr (show (12 : Nat) < 20 ∧ am_is h (some 93) 12 from ⟨by decide, (la_is Lh (o := 93) rfl)⟩))⟩ Iff.rfl))

theorem b_X12_goesSwap_6 {d : Nat} {Q : Option am_V → am_H → Prop} (h : am_H) (s0 : Int32) (x1 : Int32) (x2 : Int32) (l3 : Option am_V) (Lh : Lay h) : ex_ (d + 1) 292 6 [some (v_r (some 93)), some (v_i x1), some (v_i x2), l3] [v_i s0] h Q ↔ ex_ d 264 0 [some (v_r (some 93)), some (v_i x1), some (v_i (x2 + (1 : Int32)))] [] h (fun r h' => ex_ (d + 1) 292 27 [some (v_r (some 93)), some (v_i x1), some (v_i x2), some (v_i s0)] (r.toList ++ [v_i (((18 : Int32) + ((4 : Int32) * x1)) + x2), v_r (some 94)]) h' Q) := by
  have e0 : h_r h 93 1 = some 94 := la_r Lh (q := (93, 1, 94)) (by decide)
  unfold ex_
  refine (am_Y_go 15 (ok := [am_is h (some 93) 12]) (g := (24, [some (v_r (some 93)), some (v_i x1), some (v_i x2), some (v_i s0)], [v_i (x2 + (1 : Int32)), v_i x1, v_r (some 93), v_i (((18 : Int32) + ((4 : Int32) * x1)) + x2), v_r ((h_r h 93 1))], h)) rfl).trans ?_
  simp only [e0, Option.getD_some, am_all]
  all_goals exact cj_d (la_is Lh (o := 93) rfl) (((am_Y_call (j := 264) (na := 3) (ci := 12) (fl := 0) rfl rfl rfl).trans (cj_d ⟨⟨Nat.le_of_ble_eq_true rfl, Nat.le_of_ble_eq_true rfl, Nat.le_of_ble_eq_true rfl, rfl⟩, Or.inr (Or.inr (show (12 : Nat) < 20 ∧ am_is h (some 93) 12 from ⟨by decide, (la_is Lh (o := 93) rfl)⟩))⟩ Iff.rfl)))

theorem b_X12_goesSwap_27 {d : Nat} {Q : Option am_V → am_H → Prop} (h : am_H) (s0 : Int32) (s1 : Int32) (t2 : Nat) (x1 : Int32) (x2 : Int32) (x3 : Int32) (Lh : Lay h) {n_t2 : Nat} (A_t2 : y_arr h t2 20 n_t2) : ex_ d 292 27 [some (v_r (some 93)), some (v_i x1), some (v_i x2), some (v_i x3)] [v_i s0, v_i s1, v_r (some t2)] h Q ↔ vp_in s1 n_t2 ∧ vp_in ((((18 : Int32) + ((4 : Int32) * x1)) + x2) + (1 : Int32)) 7053 ∧ Q (none) (p_i (p_i h t2 (Int32.toNatClampNeg s1) s0) 94 (Int32.toNatClampNeg ((((18 : Int32) + ((4 : Int32) * x1)) + x2) + (1 : Int32))) x3) := by
  have e0 : h_r h 93 1 = some 94 := la_r Lh (q := (93, 1, 94)) (by decide)
  unfold ex_
  refine (am_Y_go 14 (ok := [am_ar h (some t2) 20 s1, am_is h (some 93) 12, am_ar h ((h_r h 93 1)) 20 ((((18 : Int32) + ((4 : Int32) * x1)) + x2) + (1 : Int32))]) (g := (44, [some (v_r (some 93)), some (v_i x1), some (v_i x2), some (v_i x3)], [], (p_i (p_i h t2 (Int32.toNatClampNeg s1) s0) ((h_r h 93 1).getD 0) (Int32.toNatClampNeg ((((18 : Int32) + ((4 : Int32) * x1)) + x2) + (1 : Int32))) x3))) rfl).trans ?_
  simp only [e0, Option.getD_some, am_all]
  all_goals exact cj_k (lb_ar A_t2) (cj_d (la_is Lh (o := 93) rfl) (cj_k (la_ar Lh (o := 94) rfl) (((am_Y_ret rfl rfl rfl).trans (am_rz rfl)))))

theorem b_X12_endsWith_0 {d : Nat} {Q : Option am_V → am_H → Prop} (h : am_H) (l1 : Option am_V) (Lh : Lay h) : ex_ (d + 1) 293 0 [some (v_r (some 93)), l1] [] h Q ↔ ex_ d 285 0 [some (v_r (some 93)), none] [] h (fun r h' => ex_ (d + 1) 293 4 [some (v_r (some 93)), l1] (r.toList ++ []) h' Q) := by
  unfold ex_
  refine (am_Y_go 1 (ok := []) (g := (1, [some (v_r (some 93)), l1], [v_r (some 93)], h)) rfl).trans ?_
  all_goals exact ((am_Y_call (j := 285) (na := 1) (ci := 12) (fl := 0) rfl rfl rfl).trans (cj_d ⟨⟨Nat.le_of_ble_eq_true rfl, Nat.le_of_ble_eq_true rfl, Nat.le_of_ble_eq_true rfl, rfl⟩, Or.inr (Or.inr (show (12 : Nat) < 20 ∧ am_is h (some 93) 12 from ⟨by decide, (la_is Lh (o := 93) rfl)⟩))⟩ Iff.rfl))

theorem b_X12_endsWith_4 {d : Nat} {Q : Option am_V → am_H → Prop} (h : am_H) (l1 : Option am_V) (Lh : Lay h) : ex_ (d + 1) 293 4 [some (v_r (some 93)), l1] [] h Q ↔ ex_ d 271 0 [some (v_r (some 93)), none] [] h (fun r h' => ex_ (d + 1) 293 8 [some (v_r (some 93)), l1] (r.toList ++ []) h' Q) := by
  unfold ex_
  refine (am_Y_go 1 (ok := []) (g := (5, [some (v_r (some 93)), l1], [v_r (some 93)], h)) rfl).trans ?_
  all_goals exact ((am_Y_call (j := 271) (na := 1) (ci := 12) (fl := 0) rfl rfl rfl).trans (cj_d ⟨⟨Nat.le_of_ble_eq_true rfl, Nat.le_of_ble_eq_true rfl, Nat.le_of_ble_eq_true rfl, rfl⟩, Or.inr (Or.inr (show (12 : Nat) < 20 ∧ am_is h (some 93) 12 from ⟨by decide, (la_is Lh (o := 93) rfl)⟩))⟩ Iff.rfl))

theorem b_X12_endsWith_8 {d : Nat} {Q : Option am_V → am_H → Prop} (h : am_H) (x1 : Int32) (Lh : Lay h) : ex_ d 293 8 [some (v_r (some 93)), some (v_i x1)] [] h Q ↔ vp_in x1 11 ∧ Q (some (v_i (h_i h 100 (Int32.toNatClampNeg x1)))) h := by
  have e0 : h_r h 93 18 = some 100 := la_r Lh (q := (93, 18, 100)) (by decide)
  unfold ex_
  refine (am_Y_go 4 (ok := [am_is h (some 93) 12, am_ar h ((h_r h 93 18)) 20 x1]) (g := (14, [some (v_r (some 93)), some (v_i x1)], [v_i (h_i h ((h_r h 93 18).getD 0) (Int32.toNatClampNeg x1))], h)) rfl).trans ?_
  simp only [e0, Option.getD_some, am_all]
  all_goals exact cj_d (la_is Lh (o := 93) rfl) (cj_k (la_ar Lh (o := 100) rfl) (((am_Y_ret rfl rfl rfl).trans (am_r0))))

theorem b_X12_give_0 {d : Nat} {Q : Option am_V → am_H → Prop} (h : am_H) (x1 : Int32) (x2 : Int32) (l3 : Option am_V) (Lh : Lay h) : ex_ (d + 1) 294 0 [some (v_r (some 93)), some (v_i x1), some (v_i x2), l3] [] h Q ↔ ex_ d 286 0 [some (v_r (some 93)), some (v_l (Int32.toInt64 x1)), none, some (v_l (Int32.toInt64 x2)), none] [] (p_i h 93 0 (0 : Int32)) (fun r h' => ex_ (d + 1) 294 13 [some (v_r (some 93)), some (v_i x1), some (v_i x2), l3] (r.toList ++ []) h' Q) := by
  unfold ex_
  refine (am_Y_go 8 (ok := [am_is h (some 93) 12]) (g := (10, [some (v_r (some 93)), some (v_i x1), some (v_i x2), l3], [v_l (Int32.toInt64 x2), v_l (Int32.toInt64 x1), v_r (some 93)], (p_i h 93 0 (0 : Int32)))) rfl).trans ?_
  simp only [am_all]
  all_goals exact cj_d (la_is Lh (o := 93) rfl) (((am_Y_call (j := 286) (na := 3) (ci := 12) (fl := 0) rfl rfl rfl).trans (cj_d ⟨⟨Nat.le_of_ble_eq_true rfl, Nat.le_of_ble_eq_true rfl, Nat.le_of_ble_eq_true rfl, rfl⟩, Or.inr (Or.inr (show (12 : Nat) < 20 ∧ am_is h (some 93) 12 from ⟨by decide, (la_is Lh (o := 93) rfl)⟩))⟩ Iff.rfl)))

theorem b_X12_give_13 {d : Nat} {Q : Option am_V → am_H → Prop} (h : am_H) (s0 : Int32) (l0 l1 l2 l3 : Option am_V) : ex_ d 294 13 [l0, l1, l2, l3] [v_i s0] h Q ↔ if s0 = 0 then ex_ d 294 23 [l0, l1, l2, some (v_i s0)] [] h Q else ex_ d 294 18 [l0, l1, l2, some (v_i s0)] [] h Q := by
  unfold ex_
  refine (am_Y_go 3 (ok := []) (g := (if s0 = 0 then 23 else 18, [l0, l1, l2, some (v_i s0)], [], h)) rfl).trans ?_
  all_goals exact am_Y_if

theorem b_X12_give_23 {d : Nat} {Q : Option am_V → am_H → Prop} (h : am_H) (l1 l2 l3 : Option am_V) (Lh : Lay h) : ex_ (d + 1) 294 23 [some (v_r (some 93)), l1, l2, l3] [] h Q ↔ ex_ d 283 0 [some (v_r (some 93)), none] [] h (fun r h' => ex_ (d + 1) 294 27 [some (v_r (some 93)), l1, l2, l3] (r.toList ++ []) h' Q) := by
  unfold ex_
  refine (am_Y_go 1 (ok := []) (g := (24, [some (v_r (some 93)), l1, l2, l3], [v_r (some 93)], h)) rfl).trans ?_
  all_goals exact ((am_Y_call (j := 283) (na := 1) (ci := 12) (fl := 0) rfl rfl rfl).trans (cj_d ⟨⟨Nat.le_of_ble_eq_true rfl, Nat.le_of_ble_eq_true rfl, Nat.le_of_ble_eq_true rfl, rfl⟩, Or.inr (Or.inr (show (12 : Nat) < 20 ∧ am_is h (some 93) 12 from ⟨by decide, (la_is Lh (o := 93) rfl)⟩))⟩ Iff.rfl))

theorem b_X12_give_18 {d : Nat} {Q : Option am_V → am_H → Prop} (h : am_H) (x3 : Int32) (l0 l1 l2 : Option am_V) : ex_ d 294 18 [l0, l1, l2, some (v_i x3)] [] h Q ↔ Q (some (v_i ((-10 : Int32) - x3))) h := by
  unfold ex_
  refine (am_Y_go 3 (ok := []) (g := (22, [l0, l1, l2, some (v_i x3)], [v_i ((-10 : Int32) - x3)], h)) rfl).trans ?_
  all_goals exact ((am_Y_ret rfl rfl rfl).trans (am_r0))

theorem b_X12_give_27 {d : Nat} {Q : Option am_V → am_H → Prop} (h : am_H) (x1 : Int32) (x2 : Int32) (l3 : Option am_V) (Lh : Lay h) : ex_ (d + 1) 294 27 [some (v_r (some 93)), some (v_i x1), some (v_i x2), l3] [] h Q ↔ ex_ d 290 0 [some (v_r (some 93)), some (v_i x1), some (v_i x2)] [] h (fun r h' => ex_ (d + 1) 294 33 [some (v_r (some 93)), some (v_i x1), some (v_i x2), l3] (r.toList ++ []) h' Q) := by
  unfold ex_
  refine (am_Y_go 3 (ok := []) (g := (30, [some (v_r (some 93)), some (v_i x1), some (v_i x2), l3], [v_i x2, v_i x1, v_r (some 93)], h)) rfl).trans ?_
  all_goals exact ((am_Y_call (j := 290) (na := 3) (ci := 12) (fl := 0) rfl rfl rfl).trans (cj_d ⟨⟨Nat.le_of_ble_eq_true rfl, Nat.le_of_ble_eq_true rfl, Nat.le_of_ble_eq_true rfl, rfl⟩, Or.inr (Or.inr (show (12 : Nat) < 20 ∧ am_is h (some 93) 12 from ⟨by decide, (la_is Lh (o := 93) rfl)⟩))⟩ Iff.rfl))

theorem b_X12_give_33 {d : Nat} {Q : Option am_V → am_H → Prop} (h : am_H) (x1 : Int32) (l2 l3 : Option am_V) (Lh : Lay h) : ex_ (d + 1) 294 33 [some (v_r (some 93)), some (v_i x1), l2, l3] [] h Q ↔ ex_ d 293 0 [some (v_r (some 93)), some (v_i x1)] [] h (fun r h' => ex_ (d + 1) 294 38 [some (v_r (some 93)), some (v_i x1), l2, l3] (r.toList ++ []) h' Q) := by
  unfold ex_
  refine (am_Y_go 2 (ok := []) (g := (35, [some (v_r (some 93)), some (v_i x1), l2, l3], [v_i x1, v_r (some 93)], h)) rfl).trans ?_
  all_goals exact ((am_Y_call (j := 293) (na := 2) (ci := 12) (fl := 0) rfl rfl rfl).trans (cj_d ⟨⟨Nat.le_of_ble_eq_true rfl, Nat.le_of_ble_eq_true rfl, Nat.le_of_ble_eq_true rfl, rfl⟩, Or.inr (Or.inr (show (12 : Nat) < 20 ∧ am_is h (some 93) 12 from ⟨by decide, (la_is Lh (o := 93) rfl)⟩))⟩ Iff.rfl))

theorem b_X12_give_38 {d : Nat} {Q : Option am_V → am_H → Prop} (h : am_H) (s0 : Int32) (l0 l1 l2 l3 : Option am_V) : ex_ d 294 38 [l0, l1, l2, l3] [v_i s0] h Q ↔ Q (some (v_i s0)) h := by
  unfold ex_
  exact ((am_Y_ret rfl rfl rfl).trans (am_r0))

theorem b_X12_take_0 {d : Nat} {Q : Option am_V → am_H → Prop} (h : am_H) (x1 : Int32) (x2 : Int32) (l3 : Option am_V) (Lh : Lay h) : ex_ (d + 1) 295 0 [some (v_r (some 93)), some (v_i x1), some (v_i x2), l3] [] h Q ↔ ex_ d 287 0 [some (v_r (some 93)), some (v_l (Int32.toInt64 x1)), none, some (v_l (Int32.toInt64 x2)), none] [] (p_i h 93 0 (0 : Int32)) (fun r h' => ex_ (d + 1) 295 13 [some (v_r (some 93)), some (v_i x1), some (v_i x2), l3] (r.toList ++ []) h' Q) := by
  unfold ex_
  refine (am_Y_go 8 (ok := [am_is h (some 93) 12]) (g := (10, [some (v_r (some 93)), some (v_i x1), some (v_i x2), l3], [v_l (Int32.toInt64 x2), v_l (Int32.toInt64 x1), v_r (some 93)], (p_i h 93 0 (0 : Int32)))) rfl).trans ?_
  simp only [am_all]
  all_goals exact cj_d (la_is Lh (o := 93) rfl) (((am_Y_call (j := 287) (na := 3) (ci := 12) (fl := 0) rfl rfl rfl).trans (cj_d ⟨⟨Nat.le_of_ble_eq_true rfl, Nat.le_of_ble_eq_true rfl, Nat.le_of_ble_eq_true rfl, rfl⟩, Or.inr (Or.inr (show (12 : Nat) < 20 ∧ am_is h (some 93) 12 from ⟨by decide, (la_is Lh (o := 93) rfl)⟩))⟩ Iff.rfl)))

theorem b_X12_take_13 {d : Nat} {Q : Option am_V → am_H → Prop} (h : am_H) (s0 : Int32) (l0 l1 l2 l3 : Option am_V) : ex_ d 295 13 [l0, l1, l2, l3] [v_i s0] h Q ↔ if s0 = 0 then ex_ d 295 23 [l0, l1, l2, some (v_i s0)] [] h Q else ex_ d 295 18 [l0, l1, l2, some (v_i s0)] [] h Q := by
  unfold ex_
  refine (am_Y_go 3 (ok := []) (g := (if s0 = 0 then 23 else 18, [l0, l1, l2, some (v_i s0)], [], h)) rfl).trans ?_
  all_goals exact am_Y_if

theorem b_X12_take_23 {d : Nat} {Q : Option am_V → am_H → Prop} (h : am_H) (l1 l2 l3 : Option am_V) (Lh : Lay h) : ex_ (d + 1) 295 23 [some (v_r (some 93)), l1, l2, l3] [] h Q ↔ ex_ d 283 0 [some (v_r (some 93)), none] [] h (fun r h' => ex_ (d + 1) 295 27 [some (v_r (some 93)), l1, l2, l3] (r.toList ++ []) h' Q) := by
  unfold ex_
  refine (am_Y_go 1 (ok := []) (g := (24, [some (v_r (some 93)), l1, l2, l3], [v_r (some 93)], h)) rfl).trans ?_
  all_goals exact ((am_Y_call (j := 283) (na := 1) (ci := 12) (fl := 0) rfl rfl rfl).trans (cj_d ⟨⟨Nat.le_of_ble_eq_true rfl, Nat.le_of_ble_eq_true rfl, Nat.le_of_ble_eq_true rfl, rfl⟩, Or.inr (Or.inr (show (12 : Nat) < 20 ∧ am_is h (some 93) 12 from ⟨by decide, (la_is Lh (o := 93) rfl)⟩))⟩ Iff.rfl))

theorem b_X12_take_18 {d : Nat} {Q : Option am_V → am_H → Prop} (h : am_H) (x3 : Int32) (l0 l1 l2 : Option am_V) : ex_ d 295 18 [l0, l1, l2, some (v_i x3)] [] h Q ↔ Q (some (v_i ((-10 : Int32) - x3))) h := by
  unfold ex_
  refine (am_Y_go 3 (ok := []) (g := (22, [l0, l1, l2, some (v_i x3)], [v_i ((-10 : Int32) - x3)], h)) rfl).trans ?_
  all_goals exact ((am_Y_ret rfl rfl rfl).trans (am_r0))

theorem b_X12_take_27 {d : Nat} {Q : Option am_V → am_H → Prop} (h : am_H) (x1 : Int32) (x2 : Int32) (l3 : Option am_V) (Lh : Lay h) : ex_ (d + 1) 295 27 [some (v_r (some 93)), some (v_i x1), some (v_i x2), l3] [] h Q ↔ ex_ d 265 0 [some (v_r (some 93)), some (v_i x1), some (v_i x2), none] [] h (fun r h' => ex_ (d + 1) 295 35 [some (v_r (some 93)), some (v_i x1), some (v_i x2), l3] (r.toList ++ [v_i x1, v_r (some 93)]) h' Q) := by
  unfold ex_
  refine (am_Y_go 5 (ok := []) (g := (32, [some (v_r (some 93)), some (v_i x1), some (v_i x2), l3], [v_i x2, v_i x1, v_r (some 93), v_i x1, v_r (some 93)], h)) rfl).trans ?_
  all_goals exact ((am_Y_call (j := 265) (na := 3) (ci := 12) (fl := 0) rfl rfl rfl).trans (cj_d ⟨⟨Nat.le_of_ble_eq_true rfl, Nat.le_of_ble_eq_true rfl, Nat.le_of_ble_eq_true rfl, rfl⟩, Or.inr (Or.inr (show (12 : Nat) < 20 ∧ am_is h (some 93) 12 from ⟨by decide, (la_is Lh (o := 93) rfl)⟩))⟩ Iff.rfl))

theorem b_X12_take_35 {d : Nat} {Q : Option am_V → am_H → Prop} (h : am_H) (s0 : Int32) (s1 : Int32) (l0 l1 l2 l3 : Option am_V) (Lh : Lay h) : ex_ (d + 1) 295 35 [l0, l1, l2, l3] [v_i s0, v_i s1, v_r (some 93)] h Q ↔ ex_ d 291 0 [some (v_r (some 93)), some (v_i s1), some (v_i s0), none] [] h (fun r h' => ex_ (d + 1) 295 38 [l0, l1, l2, l3] (r.toList ++ []) h' Q) := by
  unfold ex_
  exact ((am_Y_call (j := 291) (na := 3) (ci := 12) (fl := 0) rfl rfl rfl).trans (cj_d ⟨⟨Nat.le_of_ble_eq_true rfl, Nat.le_of_ble_eq_true rfl, Nat.le_of_ble_eq_true rfl, rfl⟩, Or.inr (Or.inr (show (12 : Nat) < 20 ∧ am_is h (some 93) 12 from ⟨by decide, (la_is Lh (o := 93) rfl)⟩))⟩ Iff.rfl))

theorem b_X12_take_38 {d : Nat} {Q : Option am_V → am_H → Prop} (h : am_H) (x1 : Int32) (l2 l3 : Option am_V) (Lh : Lay h) : ex_ (d + 1) 295 38 [some (v_r (some 93)), some (v_i x1), l2, l3] [] h Q ↔ ex_ d 293 0 [some (v_r (some 93)), some (v_i x1)] [] h (fun r h' => ex_ (d + 1) 295 43 [some (v_r (some 93)), some (v_i x1), l2, l3] (r.toList ++ []) h' Q) := by
  unfold ex_
  refine (am_Y_go 2 (ok := []) (g := (40, [some (v_r (some 93)), some (v_i x1), l2, l3], [v_i x1, v_r (some 93)], h)) rfl).trans ?_
  all_goals exact ((am_Y_call (j := 293) (na := 2) (ci := 12) (fl := 0) rfl rfl rfl).trans (cj_d ⟨⟨Nat.le_of_ble_eq_true rfl, Nat.le_of_ble_eq_true rfl, Nat.le_of_ble_eq_true rfl, rfl⟩, Or.inr (Or.inr (show (12 : Nat) < 20 ∧ am_is h (some 93) 12 from ⟨by decide, (la_is Lh (o := 93) rfl)⟩))⟩ Iff.rfl))

theorem b_X12_take_43 {d : Nat} {Q : Option am_V → am_H → Prop} (h : am_H) (s0 : Int32) (l0 l1 l2 l3 : Option am_V) : ex_ d 295 43 [l0, l1, l2, l3] [v_i s0] h Q ↔ Q (some (v_i s0)) h := by
  unfold ex_
  exact ((am_Y_ret rfl rfl rfl).trans (am_r0))

theorem b_X12_swap_0 {d : Nat} {Q : Option am_V → am_H → Prop} (h : am_H) (x1 : Int32) (x2 : Int32) (l3 : Option am_V) (Lh : Lay h) : ex_ (d + 1) 296 0 [some (v_r (some 93)), some (v_i x1), some (v_i x2), l3] [] h Q ↔ ex_ d 288 0 [some (v_r (some 93)), some (v_l (Int32.toInt64 x1)), none, some (v_l (Int32.toInt64 x2)), none] [] (p_i h 93 0 (0 : Int32)) (fun r h' => ex_ (d + 1) 296 13 [some (v_r (some 93)), some (v_i x1), some (v_i x2), l3] (r.toList ++ []) h' Q) := by
  unfold ex_
  refine (am_Y_go 8 (ok := [am_is h (some 93) 12]) (g := (10, [some (v_r (some 93)), some (v_i x1), some (v_i x2), l3], [v_l (Int32.toInt64 x2), v_l (Int32.toInt64 x1), v_r (some 93)], (p_i h 93 0 (0 : Int32)))) rfl).trans ?_
  simp only [am_all]
  all_goals exact cj_d (la_is Lh (o := 93) rfl) (((am_Y_call (j := 288) (na := 3) (ci := 12) (fl := 0) rfl rfl rfl).trans (cj_d ⟨⟨Nat.le_of_ble_eq_true rfl, Nat.le_of_ble_eq_true rfl, Nat.le_of_ble_eq_true rfl, rfl⟩, Or.inr (Or.inr (show (12 : Nat) < 20 ∧ am_is h (some 93) 12 from ⟨by decide, (la_is Lh (o := 93) rfl)⟩))⟩ Iff.rfl)))

theorem b_X12_swap_13 {d : Nat} {Q : Option am_V → am_H → Prop} (h : am_H) (s0 : Int32) (l0 l1 l2 l3 : Option am_V) : ex_ d 296 13 [l0, l1, l2, l3] [v_i s0] h Q ↔ if s0 = 0 then ex_ d 296 23 [l0, l1, l2, some (v_i s0)] [] h Q else ex_ d 296 18 [l0, l1, l2, some (v_i s0)] [] h Q := by
  unfold ex_
  refine (am_Y_go 3 (ok := []) (g := (if s0 = 0 then 23 else 18, [l0, l1, l2, some (v_i s0)], [], h)) rfl).trans ?_
  all_goals exact am_Y_if

theorem b_X12_swap_23 {d : Nat} {Q : Option am_V → am_H → Prop} (h : am_H) (l1 l2 l3 : Option am_V) (Lh : Lay h) : ex_ (d + 1) 296 23 [some (v_r (some 93)), l1, l2, l3] [] h Q ↔ ex_ d 283 0 [some (v_r (some 93)), none] [] h (fun r h' => ex_ (d + 1) 296 27 [some (v_r (some 93)), l1, l2, l3] (r.toList ++ []) h' Q) := by
  unfold ex_
  refine (am_Y_go 1 (ok := []) (g := (24, [some (v_r (some 93)), l1, l2, l3], [v_r (some 93)], h)) rfl).trans ?_
  all_goals exact ((am_Y_call (j := 283) (na := 1) (ci := 12) (fl := 0) rfl rfl rfl).trans (cj_d ⟨⟨Nat.le_of_ble_eq_true rfl, Nat.le_of_ble_eq_true rfl, Nat.le_of_ble_eq_true rfl, rfl⟩, Or.inr (Or.inr (show (12 : Nat) < 20 ∧ am_is h (some 93) 12 from ⟨by decide, (la_is Lh (o := 93) rfl)⟩))⟩ Iff.rfl))

theorem b_X12_swap_18 {d : Nat} {Q : Option am_V → am_H → Prop} (h : am_H) (x3 : Int32) (l0 l1 l2 : Option am_V) : ex_ d 296 18 [l0, l1, l2, some (v_i x3)] [] h Q ↔ Q (some (v_i ((-10 : Int32) - x3))) h := by
  unfold ex_
  refine (am_Y_go 3 (ok := []) (g := (22, [l0, l1, l2, some (v_i x3)], [v_i ((-10 : Int32) - x3)], h)) rfl).trans ?_
  all_goals exact ((am_Y_ret rfl rfl rfl).trans (am_r0))

theorem b_X12_swap_27 {d : Nat} {Q : Option am_V → am_H → Prop} (h : am_H) (x1 : Int32) (x2 : Int32) (l3 : Option am_V) (Lh : Lay h) : ex_ (d + 1) 296 27 [some (v_r (some 93)), some (v_i x1), some (v_i x2), l3] [] h Q ↔ ex_ d 292 0 [some (v_r (some 93)), some (v_i x1), some (v_i x2), none] [] h (fun r h' => ex_ (d + 1) 296 33 [some (v_r (some 93)), some (v_i x1), some (v_i x2), l3] (r.toList ++ []) h' Q) := by
  unfold ex_
  refine (am_Y_go 3 (ok := []) (g := (30, [some (v_r (some 93)), some (v_i x1), some (v_i x2), l3], [v_i x2, v_i x1, v_r (some 93)], h)) rfl).trans ?_
  all_goals exact ((am_Y_call (j := 292) (na := 3) (ci := 12) (fl := 0) rfl rfl rfl).trans (cj_d ⟨⟨Nat.le_of_ble_eq_true rfl, Nat.le_of_ble_eq_true rfl, Nat.le_of_ble_eq_true rfl, rfl⟩, Or.inr (Or.inr (show (12 : Nat) < 20 ∧ am_is h (some 93) 12 from ⟨by decide, (la_is Lh (o := 93) rfl)⟩))⟩ Iff.rfl))

theorem b_X12_swap_33 {d : Nat} {Q : Option am_V → am_H → Prop} (h : am_H) (x1 : Int32) (l2 l3 : Option am_V) (Lh : Lay h) : ex_ (d + 1) 296 33 [some (v_r (some 93)), some (v_i x1), l2, l3] [] h Q ↔ ex_ d 293 0 [some (v_r (some 93)), some (v_i x1)] [] h (fun r h' => ex_ (d + 1) 296 38 [some (v_r (some 93)), some (v_i x1), l2, l3] (r.toList ++ []) h' Q) := by
  unfold ex_
  refine (am_Y_go 2 (ok := []) (g := (35, [some (v_r (some 93)), some (v_i x1), l2, l3], [v_i x1, v_r (some 93)], h)) rfl).trans ?_
  all_goals exact ((am_Y_call (j := 293) (na := 2) (ci := 12) (fl := 0) rfl rfl rfl).trans (cj_d ⟨⟨Nat.le_of_ble_eq_true rfl, Nat.le_of_ble_eq_true rfl, Nat.le_of_ble_eq_true rfl, rfl⟩, Or.inr (Or.inr (show (12 : Nat) < 20 ∧ am_is h (some 93) 12 from ⟨by decide, (la_is Lh (o := 93) rfl)⟩))⟩ Iff.rfl))

theorem b_X12_swap_38 {d : Nat} {Q : Option am_V → am_H → Prop} (h : am_H) (s0 : Int32) (l0 l1 l2 l3 : Option am_V) : ex_ d 296 38 [l0, l1, l2, l3] [v_i s0] h Q ↔ Q (some (v_i s0)) h := by
  unfold ex_
  exact ((am_Y_ret rfl rfl rfl).trans (am_r0))

theorem b_X12_define_0 {d : Nat} {Q : Option am_V → am_H → Prop} (h : am_H) (x1 : Int32) (x2 : Int32) (x3 : Int32) (l4 : Option am_V) (Lh : Lay h) : ex_ (d + 1) 297 0 [some (v_r (some 93)), some (v_i x1), some (v_i x2), some (v_i x3), l4] [] h Q ↔ ex_ d 289 0 [some (v_r (some 93)), some (v_l (Int32.toInt64 x1)), none, some (v_l (Int32.toInt64 x2)), none, some (v_l (Int32.toInt64 x3)), none] [] (p_i h 93 0 (0 : Int32)) (fun r h' => ex_ (d + 1) 297 15 [some (v_r (some 93)), some (v_i x1), some (v_i x2), some (v_i x3), l4] (r.toList ++ []) h' Q) := by
  unfold ex_
  refine (am_Y_go 10 (ok := [am_is h (some 93) 12]) (g := (12, [some (v_r (some 93)), some (v_i x1), some (v_i x2), some (v_i x3), l4], [v_l (Int32.toInt64 x3), v_l (Int32.toInt64 x2), v_l (Int32.toInt64 x1), v_r (some 93)], (p_i h 93 0 (0 : Int32)))) rfl).trans ?_
  simp only [am_all]
  all_goals exact cj_d (la_is Lh (o := 93) rfl) (((am_Y_call (j := 289) (na := 4) (ci := 12) (fl := 0) rfl rfl rfl).trans (cj_d ⟨⟨Nat.le_of_ble_eq_true rfl, Nat.le_of_ble_eq_true rfl, Nat.le_of_ble_eq_true rfl, rfl⟩, Or.inr (Or.inr (show (12 : Nat) < 20 ∧ am_is h (some 93) 12 from ⟨by decide, (la_is Lh (o := 93) rfl)⟩))⟩ Iff.rfl)))

theorem b_X12_define_15 {d : Nat} {Q : Option am_V → am_H → Prop} (h : am_H) (s0 : Int32) (l0 l1 l2 l3 l4 : Option am_V) : ex_ d 297 15 [l0, l1, l2, l3, l4] [v_i s0] h Q ↔ if s0 = 0 then ex_ d 297 28 [l0, l1, l2, l3, some (v_i s0)] [] h Q else ex_ d 297 22 [l0, l1, l2, l3, some (v_i s0)] [] h Q := by
  unfold ex_
  refine (am_Y_go 3 (ok := []) (g := (if s0 = 0 then 28 else 22, [l0, l1, l2, l3, some (v_i s0)], [], h)) rfl).trans ?_
  all_goals exact am_Y_if

theorem b_X12_define_28 {d : Nat} {Q : Option am_V → am_H → Prop} (h : am_H) (l1 l2 l3 l4 : Option am_V) (Lh : Lay h) : ex_ (d + 1) 297 28 [some (v_r (some 93)), l1, l2, l3, l4] [] h Q ↔ ex_ d 283 0 [some (v_r (some 93)), none] [] h (fun r h' => ex_ (d + 1) 297 32 [some (v_r (some 93)), l1, l2, l3, l4] (r.toList ++ []) h' Q) := by
  unfold ex_
  refine (am_Y_go 1 (ok := []) (g := (29, [some (v_r (some 93)), l1, l2, l3, l4], [v_r (some 93)], h)) rfl).trans ?_
  all_goals exact ((am_Y_call (j := 283) (na := 1) (ci := 12) (fl := 0) rfl rfl rfl).trans (cj_d ⟨⟨Nat.le_of_ble_eq_true rfl, Nat.le_of_ble_eq_true rfl, Nat.le_of_ble_eq_true rfl, rfl⟩, Or.inr (Or.inr (show (12 : Nat) < 20 ∧ am_is h (some 93) 12 from ⟨by decide, (la_is Lh (o := 93) rfl)⟩))⟩ Iff.rfl))

theorem b_X12_define_22 {d : Nat} {Q : Option am_V → am_H → Prop} (h : am_H) (x4 : Int32) (l0 l1 l2 l3 : Option am_V) : ex_ d 297 22 [l0, l1, l2, l3, some (v_i x4)] [] h Q ↔ Q (some (v_i ((-10 : Int32) - x4))) h := by
  unfold ex_
  refine (am_Y_go 3 (ok := []) (g := (27, [l0, l1, l2, l3, some (v_i x4)], [v_i ((-10 : Int32) - x4)], h)) rfl).trans ?_
  all_goals exact ((am_Y_ret rfl rfl rfl).trans (am_r0))

theorem b_X12_define_32 {d : Nat} {Q : Option am_V → am_H → Prop} (h : am_H) (x1 : Int32) (x2 : Int32) (x3 : Int32) (l4 : Option am_V) (Lh : Lay h) : ex_ (d + 1) 297 32 [some (v_r (some 93)), some (v_i x1), some (v_i x2), some (v_i x3), l4] [] h Q ↔ vp_in (((58 : Int32) + ((8 : Int32) * x1)) + x2) 7053 ∧ ex_ d 285 0 [some (v_r (some 93)), none] [] (p_i h 94 (Int32.toNatClampNeg (((58 : Int32) + ((8 : Int32) * x1)) + x2)) ((x3 + (1 : Int32)) - (x3 + (1 : Int32)) / (3 : Int32) * (3 : Int32))) (fun r h' => ex_ (d + 1) 297 55 [some (v_r (some 93)), some (v_i x1), some (v_i x2), some (v_i x3), l4] (r.toList ++ []) h' Q) := by
  have e0 : h_r h 93 1 = some 94 := la_r Lh (q := (93, 1, 94)) (by decide)
  unfold ex_
  refine (am_Y_go 16 (ok := [am_is h (some 93) 12, ¬ (3 : Int32) = 0, am_ar h ((h_r h 93 1)) 20 (((58 : Int32) + ((8 : Int32) * x1)) + x2)]) (g := (52, [some (v_r (some 93)), some (v_i x1), some (v_i x2), some (v_i x3), l4], [v_r (some 93)], (p_i h ((h_r h 93 1).getD 0) (Int32.toNatClampNeg (((58 : Int32) + ((8 : Int32) * x1)) + x2)) ((x3 + (1 : Int32)) - (x3 + (1 : Int32)) / (3 : Int32) * (3 : Int32))))) rfl).trans ?_
  simp only [e0, Option.getD_some, am_all]
  all_goals exact cj_d (la_is Lh (o := 93) rfl) (cj_d (by decide) (cj_k (la_ar Lh (o := 94) rfl) (((am_Y_call (j := 285) (na := 1) (ci := 12) (fl := 0) rfl rfl rfl).trans (cj_d ⟨⟨Nat.le_of_ble_eq_true rfl, Nat.le_of_ble_eq_true rfl, Nat.le_of_ble_eq_true rfl, rfl⟩, Or.inr (Or.inr (show (12 : Nat) < 20 ∧ am_is h (some 93) 12 from ⟨by decide, (la_is Lh (o := 93) rfl)⟩))⟩ Iff.rfl)))))

theorem b_X12_define_55 {d : Nat} {Q : Option am_V → am_H → Prop} (h : am_H) (x1 : Int32) (x2 : Int32) (l3 l4 : Option am_V) (Lh : Lay h) : ex_ d 297 55 [some (v_r (some 93)), some (v_i x1), some (v_i x2), l3, l4] [] h Q ↔ vp_in (((50 : Int32) + ((8 : Int32) * x1)) + x2) 131 ∧ Q (some (v_i (h_i h 105 (Int32.toNatClampNeg (((50 : Int32) + ((8 : Int32) * x1)) + x2))))) h := by
  have e0 : h_r h 93 24 = some 105 := la_r Lh (q := (93, 24, 105)) (by decide)
  unfold ex_
  refine (am_Y_go 10 (ok := [am_is h (some 93) 12, am_ar h ((h_r h 93 24)) 20 (((50 : Int32) + ((8 : Int32) * x1)) + x2)]) (g := (69, [some (v_r (some 93)), some (v_i x1), some (v_i x2), l3, l4], [v_i (h_i h ((h_r h 93 24).getD 0) (Int32.toNatClampNeg (((50 : Int32) + ((8 : Int32) * x1)) + x2)))], h)) rfl).trans ?_
  simp only [e0, Option.getD_some, am_all]
  all_goals exact cj_d (la_is Lh (o := 93) rfl) (cj_k (la_ar Lh (o := 105) rfl) (((am_Y_ret rfl rfl rfl).trans (am_r0))))

theorem b_X12_mood_0 {d : Nat} {Q : Option am_V → am_H → Prop} (h : am_H) (x1 : Int32) (Lh : Lay h) : ex_ (d + 1) 298 0 [some (v_r (some 93)), some (v_i x1)] [] h Q ↔ ex_ d 229 0 [some (v_l (Int32.toInt64 x1)), none, some (v_l (0 : Int64)), none, some (v_l (9 : Int64)), none] [] (p_i h 93 0 (0 : Int32)) (fun r h' => ex_ (d + 1) 298 14 [some (v_r (some 93)), some (v_i x1)] (r.toList ++ []) h' Q) := by
  unfold ex_
  refine (am_Y_go 7 (ok := [am_is h (some 93) 12]) (g := (11, [some (v_r (some 93)), some (v_i x1)], [v_l (9 : Int64), v_l (0 : Int64), v_l (Int32.toInt64 x1)], (p_i h 93 0 (0 : Int32)))) rfl).trans ?_
  simp only [am_all]
  all_goals exact cj_d (la_is Lh (o := 93) rfl) (((am_Y_call (j := 229) (na := 3) (ci := 12) (fl := 2) rfl rfl rfl).trans (cj_d ⟨⟨Nat.le_of_ble_eq_true rfl, Nat.le_of_ble_eq_true rfl, Nat.le_of_ble_eq_true rfl, rfl⟩, Or.inl rfl⟩ Iff.rfl)))

theorem b_X12_mood_14 {d : Nat} {Q : Option am_V → am_H → Prop} (h : am_H) (s0 : Int32) (l0 l1 : Option am_V) : ex_ d 298 14 [l0, l1] [v_i s0] h Q ↔ if ¬ s0 = 0 then ex_ d 298 20 [l0, l1] [] h Q else ex_ d 298 17 [l0, l1] [] h Q := by
  unfold ex_
  refine (am_Y_go 1 (ok := []) (g := (if ¬ s0 = 0 then 20 else 17, [l0, l1], [], h)) rfl).trans ?_
  all_goals exact am_Y_if

theorem b_X12_mood_20 {d : Nat} {Q : Option am_V → am_H → Prop} (h : am_H) (l1 : Option am_V) (Lh : Lay h) : ex_ (d + 1) 298 20 [some (v_r (some 93)), l1] [] h Q ↔ ex_ d 283 0 [some (v_r (some 93)), none] [] h (fun r h' => ex_ (d + 1) 298 24 [some (v_r (some 93)), l1] (r.toList ++ []) h' Q) := by
  unfold ex_
  refine (am_Y_go 1 (ok := []) (g := (21, [some (v_r (some 93)), l1], [v_r (some 93)], h)) rfl).trans ?_
  all_goals exact ((am_Y_call (j := 283) (na := 1) (ci := 12) (fl := 0) rfl rfl rfl).trans (cj_d ⟨⟨Nat.le_of_ble_eq_true rfl, Nat.le_of_ble_eq_true rfl, Nat.le_of_ble_eq_true rfl, rfl⟩, Or.inr (Or.inr (show (12 : Nat) < 20 ∧ am_is h (some 93) 12 from ⟨by decide, (la_is Lh (o := 93) rfl)⟩))⟩ Iff.rfl))

theorem b_X12_mood_17 {d : Nat} {Q : Option am_V → am_H → Prop} (h : am_H) (l0 l1 : Option am_V) : ex_ d 298 17 [l0, l1] [] h Q ↔ Q (some (v_i (-11 : Int32))) h := by
  unfold ex_
  refine (am_Y_go 1 (ok := []) (g := (19, [l0, l1], [v_i (-11 : Int32)], h)) rfl).trans ?_
  all_goals exact ((am_Y_ret rfl rfl rfl).trans (am_r0))

theorem b_X12_mood_24 {d : Nat} {Q : Option am_V → am_H → Prop} (h : am_H) (x1 : Int32) (Lh : Lay h) : ex_ (d + 1) 298 24 [some (v_r (some 93)), some (v_i x1)] [] h Q ↔ vp_in (138 : Int32) 7053 ∧ ex_ d 285 0 [some (v_r (some 93)), none] [] (p_i h 94 (Int32.toNatClampNeg (138 : Int32)) x1) (fun r h' => ex_ (d + 1) 298 37 [some (v_r (some 93)), some (v_i x1)] (r.toList ++ []) h' Q) := by
  have e0 : h_r h 93 1 = some 94 := la_r Lh (q := (93, 1, 94)) (by decide)
  unfold ex_
  refine (am_Y_go 6 (ok := [am_is h (some 93) 12, am_ar h ((h_r h 93 1)) 20 (138 : Int32)]) (g := (34, [some (v_r (some 93)), some (v_i x1)], [v_r (some 93)], (p_i h ((h_r h 93 1).getD 0) (Int32.toNatClampNeg (138 : Int32)) x1))) rfl).trans ?_
  simp only [e0, Option.getD_some, am_all]
  all_goals exact cj_d (la_is Lh (o := 93) rfl) (cj_k (la_ar Lh (o := 94) rfl) (((am_Y_call (j := 285) (na := 1) (ci := 12) (fl := 0) rfl rfl rfl).trans (cj_d ⟨⟨Nat.le_of_ble_eq_true rfl, Nat.le_of_ble_eq_true rfl, Nat.le_of_ble_eq_true rfl, rfl⟩, Or.inr (Or.inr (show (12 : Nat) < 20 ∧ am_is h (some 93) 12 from ⟨by decide, (la_is Lh (o := 93) rfl)⟩))⟩ Iff.rfl))))

theorem b_X12_mood_37 {d : Nat} {Q : Option am_V → am_H → Prop} (h : am_H) (l1 : Option am_V) (Lh : Lay h) : ex_ d 298 37 [some (v_r (some 93)), l1] [] h Q ↔ vp_in (130 : Int32) 131 ∧ Q (some (v_i (h_i h 105 (Int32.toNatClampNeg (130 : Int32))))) h := by
  have e0 : h_r h 93 24 = some 105 := la_r Lh (q := (93, 24, 105)) (by decide)
  unfold ex_
  refine (am_Y_go 4 (ok := [am_is h (some 93) 12, am_ar h ((h_r h 93 24)) 20 (130 : Int32)]) (g := (45, [some (v_r (some 93)), l1], [v_i (h_i h ((h_r h 93 24).getD 0) (Int32.toNatClampNeg (130 : Int32)))], h)) rfl).trans ?_
  simp only [e0, Option.getD_some, am_all]
  all_goals exact cj_d (la_is Lh (o := 93) rfl) (cj_k (la_ar Lh (o := 105) rfl) (((am_Y_ret rfl rfl rfl).trans (am_r0))))

theorem b_X12_undo_0 {d : Nat} {Q : Option am_V → am_H → Prop} (h : am_H) (x1 : Int32) (l2 : Option am_V) (Lh : Lay h) : ex_ (d + 1) 299 0 [some (v_r (some 93)), some (v_i x1), l2] [] h Q ↔ ex_ d 229 0 [some (v_l (Int32.toInt64 x1)), none, some (v_l (1 : Int64)), none, some (v_l (10 : Int64)), none] [] (p_i h 93 0 (0 : Int32)) (fun r h' => ex_ (d + 1) 299 14 [some (v_r (some 93)), some (v_i x1), l2] (r.toList ++ []) h' Q) := by
  unfold ex_
  refine (am_Y_go 7 (ok := [am_is h (some 93) 12]) (g := (11, [some (v_r (some 93)), some (v_i x1), l2], [v_l (10 : Int64), v_l (1 : Int64), v_l (Int32.toInt64 x1)], (p_i h 93 0 (0 : Int32)))) rfl).trans ?_
  simp only [am_all]
  all_goals exact cj_d (la_is Lh (o := 93) rfl) (((am_Y_call (j := 229) (na := 3) (ci := 12) (fl := 2) rfl rfl rfl).trans (cj_d ⟨⟨Nat.le_of_ble_eq_true rfl, Nat.le_of_ble_eq_true rfl, Nat.le_of_ble_eq_true rfl, rfl⟩, Or.inl rfl⟩ Iff.rfl)))

theorem b_X12_undo_14 {d : Nat} {Q : Option am_V → am_H → Prop} (h : am_H) (s0 : Int32) (l0 l1 l2 : Option am_V) : ex_ d 299 14 [l0, l1, l2] [v_i s0] h Q ↔ if s0 = 0 then ex_ d 299 29 [l0, l1, l2] [] h Q else ex_ d 299 17 [l0, l1, l2] [] h Q := by
  unfold ex_
  refine (am_Y_go 1 (ok := []) (g := (if s0 = 0 then 29 else 17, [l0, l1, l2], [], h)) rfl).trans ?_
  all_goals exact am_Y_if

theorem b_X12_undo_29 {d : Nat} {Q : Option am_V → am_H → Prop} (h : am_H) (l0 l1 l2 : Option am_V) : ex_ d 299 29 [l0, l1, l2] [] h Q ↔ Q (some (v_i (-3 : Int32))) h := by
  unfold ex_
  refine (am_Y_go 1 (ok := []) (g := (31, [l0, l1, l2], [v_i (-3 : Int32)], h)) rfl).trans ?_
  all_goals exact ((am_Y_ret rfl rfl rfl).trans (am_r0))

theorem b_X12_undo_17 {d : Nat} {Q : Option am_V → am_H → Prop} (h : am_H) (x1 : Int32) (l2 : Option am_V) (Lh : Lay h) : ex_ d 299 17 [some (v_r (some 93)), some (v_i x1), l2] [] h Q ↔ vp_in (139 : Int32) 7053 ∧ (if x1 ≤ (h_i h 94 (Int32.toNatClampNeg (139 : Int32))) then ex_ d 299 32 [some (v_r (some 93)), some (v_i x1), l2] [] h Q else ex_ d 299 29 [some (v_r (some 93)), some (v_i x1), l2] [] h Q) := by
  have e0 : h_r h 93 1 = some 94 := la_r Lh (q := (93, 1, 94)) (by decide)
  unfold ex_
  refine (am_Y_go 6 (ok := [am_is h (some 93) 12, am_ar h ((h_r h 93 1)) 20 (139 : Int32)]) (g := (if x1 ≤ (h_i h ((h_r h 93 1).getD 0) (Int32.toNatClampNeg (139 : Int32))) then 32 else 29, [some (v_r (some 93)), some (v_i x1), l2], [], h)) rfl).trans ?_
  simp only [e0, Option.getD_some, am_all]
  all_goals exact cj_d (la_is Lh (o := 93) rfl) (cj_k (la_ar Lh (o := 94) rfl) (am_Y_if))

theorem b_X12_undo_32 {d : Nat} {Q : Option am_V → am_H → Prop} (h : am_H) (x1 : Int32) (l2 : Option am_V) (Lh : Lay h) : ex_ d 299 32 [some (v_r (some 93)), some (v_i x1), l2] [] h Q ↔ vp_in (139 : Int32) 7053 ∧ vp_in (139 : Int32) 7053 ∧ ex_ d 299 46 [some (v_r (some 93)), some (v_i x1), some (v_i (0 : Int32))] [] (p_i h 94 (Int32.toNatClampNeg (139 : Int32)) ((h_i h 94 (Int32.toNatClampNeg (139 : Int32))) - x1)) Q := by
  have e0 : h_r h 93 1 = some 94 := la_r Lh (q := (93, 1, 94)) (by decide)
  unfold ex_
  refine (am_Y_go 10 (ok := [am_is h (some 93) 12, am_ar h ((h_r h 93 1)) 20 (139 : Int32), am_ar h ((h_r h 93 1)) 20 (139 : Int32)]) (g := (46, [some (v_r (some 93)), some (v_i x1), some (v_i (0 : Int32))], [], (p_i h ((h_r h 93 1).getD 0) (Int32.toNatClampNeg (139 : Int32)) ((h_i h ((h_r h 93 1).getD 0) (Int32.toNatClampNeg (139 : Int32))) - x1)))) rfl).trans ?_
  simp only [e0, Option.getD_some, am_all]
  all_goals exact cj_d (la_is Lh (o := 93) rfl) (cj_k (la_ar Lh (o := 94) rfl) (cj_k (la_ar Lh (o := 94) rfl) (Iff.rfl)))

theorem b_X12_undo_46 {d : Nat} {Q : Option am_V → am_H → Prop} (h : am_H) (x2 : Int32) (l0 l1 : Option am_V) : ex_ d 299 46 [l0, l1, some (v_i x2)] [] h Q ↔ if (131 : Int32) ≤ x2 then ex_ d 299 91 [l0, l1, some (v_i x2)] [] h Q else ex_ d 299 53 [l0, l1, some (v_i x2)] [] h Q := by
  unfold ex_
  refine (am_Y_go 3 (ok := []) (g := (if (131 : Int32) ≤ x2 then 91 else 53, [l0, l1, some (v_i x2)], [], h)) rfl).trans ?_
  all_goals exact am_Y_if

theorem b_X12_undo_91 {d : Nat} {Q : Option am_V → am_H → Prop} (h : am_H) (l1 l2 : Option am_V) (Lh : Lay h) : ex_ d 299 91 [some (v_r (some 93)), l1, l2] [] h Q ↔ vp_in (139 : Int32) 7053 ∧ Q (some (v_i (h_i h 94 (Int32.toNatClampNeg (139 : Int32))))) h := by
  have e0 : h_r h 93 1 = some 94 := la_r Lh (q := (93, 1, 94)) (by decide)
  unfold ex_
  refine (am_Y_go 4 (ok := [am_is h (some 93) 12, am_ar h ((h_r h 93 1)) 20 (139 : Int32)]) (g := (99, [some (v_r (some 93)), l1, l2], [v_i (h_i h ((h_r h 93 1).getD 0) (Int32.toNatClampNeg (139 : Int32)))], h)) rfl).trans ?_
  simp only [e0, Option.getD_some, am_all]
  all_goals exact cj_d (la_is Lh (o := 93) rfl) (cj_k (la_ar Lh (o := 94) rfl) (((am_Y_ret rfl rfl rfl).trans (am_r0))))

theorem b_X12_undo_53 {d : Nat} {Q : Option am_V → am_H → Prop} (h : am_H) (x2 : Int32) (l1 : Option am_V) (Lh : Lay h) : ex_ d 299 53 [some (v_r (some 93)), l1, some (v_i x2)] [] h Q ↔ vp_in (139 : Int32) 7053 ∧ vp_in (((140 : Int32) + ((131 : Int32) * (h_i h 94 (Int32.toNatClampNeg (139 : Int32))))) + x2) 7053 ∧ vp_in ((8 : Int32) + x2) 7053 ∧ ex_ d 299 46 [some (v_r (some 93)), l1, some (v_i (x2 + (1 : Int32)))] [] (p_i h 94 (Int32.toNatClampNeg ((8 : Int32) + x2)) (h_i h 94 (Int32.toNatClampNeg (((140 : Int32) + ((131 : Int32) * (h_i h 94 (Int32.toNatClampNeg (139 : Int32))))) + x2)))) Q := by
  have e0 : h_r h 93 1 = some 94 := la_r Lh (q := (93, 1, 94)) (by decide)
  unfold ex_
  refine (am_Y_go 21 (ok := [am_is h (some 93) 12, am_is h (some 93) 12, am_is h (some 93) 12, am_ar h ((h_r h 93 1)) 20 (139 : Int32), am_ar h ((h_r h 93 1)) 20 (((140 : Int32) + ((131 : Int32) * (h_i h ((h_r h 93 1).getD 0) (Int32.toNatClampNeg (139 : Int32))))) + x2), am_ar h ((h_r h 93 1)) 20 ((8 : Int32) + x2)]) (g := (46, [some (v_r (some 93)), l1, some (v_i (x2 + (1 : Int32)))], [], (p_i h ((h_r h 93 1).getD 0) (Int32.toNatClampNeg ((8 : Int32) + x2)) (h_i h ((h_r h 93 1).getD 0) (Int32.toNatClampNeg (((140 : Int32) + ((131 : Int32) * (h_i h ((h_r h 93 1).getD 0) (Int32.toNatClampNeg (139 : Int32))))) + x2)))))) rfl).trans ?_
  simp only [e0, Option.getD_some, am_all]
  all_goals exact cj_d (la_is Lh (o := 93) rfl) (cj_d (la_is Lh (o := 93) rfl) (cj_d (la_is Lh (o := 93) rfl) (cj_k (la_ar Lh (o := 94) rfl) (cj_k (la_ar Lh (o := 94) rfl) (cj_k (la_ar Lh (o := 94) rfl) (Iff.rfl))))))

theorem b_X12_whyNot_0 {d : Nat} {Q : Option am_V → am_H → Prop} (h : am_H) (x1 : Int64) (l0 l2 : Option am_V) : ex_ (d + 1) 300 0 [l0, some (v_l x1), l2] [] h Q ↔ ex_ d 229 0 [some (v_l x1), none, some (v_l (10 : Int64)), none, some (v_l (19 : Int64)), none] [] h (fun r h' => ex_ (d + 1) 300 10 [l0, some (v_l x1), l2] (r.toList ++ []) h' Q) := by
  unfold ex_
  refine (am_Y_go 3 (ok := []) (g := (7, [l0, some (v_l x1), l2], [v_l (19 : Int64), v_l (10 : Int64), v_l x1], h)) rfl).trans ?_
  all_goals exact ((am_Y_call (j := 229) (na := 3) (ci := 12) (fl := 2) rfl rfl rfl).trans (cj_d ⟨⟨Nat.le_of_ble_eq_true rfl, Nat.le_of_ble_eq_true rfl, Nat.le_of_ble_eq_true rfl, rfl⟩, Or.inl rfl⟩ Iff.rfl))

theorem b_X12_whyNot_10 {d : Nat} {Q : Option am_V → am_H → Prop} (h : am_H) (s0 : Int32) (l0 l1 l2 : Option am_V) : ex_ d 300 10 [l0, l1, l2] [v_i s0] h Q ↔ if s0 = 0 then ex_ d 300 15 [l0, l1, l2] [] h Q else ex_ d 300 13 [l0, l1, l2] [] h Q := by
  unfold ex_
  refine (am_Y_go 1 (ok := []) (g := (if s0 = 0 then 15 else 13, [l0, l1, l2], [], h)) rfl).trans ?_
  all_goals exact am_Y_if

theorem b_X12_whyNot_15 {d : Nat} {Q : Option am_V → am_H → Prop} (h : am_H) (x1 : Int64) (l0 l2 : Option am_V) : ex_ (d + 1) 300 15 [l0, some (v_l x1), l2] [] h Q ↔ ex_ d 229 0 [some (v_l x1), none, some (v_l (100 : Int64)), none, some (v_l (199 : Int64)), none] [] h (fun r h' => ex_ (d + 1) 300 25 [l0, some (v_l x1), l2] (r.toList ++ []) h' Q) := by
  unfold ex_
  refine (am_Y_go 3 (ok := []) (g := (22, [l0, some (v_l x1), l2], [v_l (199 : Int64), v_l (100 : Int64), v_l x1], h)) rfl).trans ?_
  all_goals exact ((am_Y_call (j := 229) (na := 3) (ci := 12) (fl := 2) rfl rfl rfl).trans (cj_d ⟨⟨Nat.le_of_ble_eq_true rfl, Nat.le_of_ble_eq_true rfl, Nat.le_of_ble_eq_true rfl, rfl⟩, Or.inl rfl⟩ Iff.rfl))

theorem b_X12_whyNot_13 {d : Nat} {Q : Option am_V → am_H → Prop} (h : am_H) (l0 l1 l2 : Option am_V) : ex_ d 300 13 [l0, l1, l2] [] h Q ↔ Q (some (v_i (0 : Int32))) h := by
  unfold ex_
  refine (am_Y_go 1 (ok := []) (g := (14, [l0, l1, l2], [v_i (0 : Int32)], h)) rfl).trans ?_
  all_goals exact ((am_Y_ret rfl rfl rfl).trans (am_r0))

theorem b_X12_whyNot_25 {d : Nat} {Q : Option am_V → am_H → Prop} (h : am_H) (s0 : Int32) (l0 l1 l2 : Option am_V) : ex_ d 300 25 [l0, l1, l2] [v_i s0] h Q ↔ if s0 = 0 then ex_ d 300 47 [l0, l1, l2] [] h Q else ex_ d 300 28 [l0, l1, l2] [] h Q := by
  unfold ex_
  refine (am_Y_go 1 (ok := []) (g := (if s0 = 0 then 47 else 28, [l0, l1, l2], [], h)) rfl).trans ?_
  all_goals exact am_Y_if

theorem b_X12_whyNot_47 {d : Nat} {Q : Option am_V → am_H → Prop} (h : am_H) (x1 : Int64) (l0 l2 : Option am_V) : ex_ (d + 1) 300 47 [l0, some (v_l x1), l2] [] h Q ↔ ex_ d 229 0 [some (v_l x1), none, some (v_l (200 : Int64)), none, some (v_l (299 : Int64)), none] [] h (fun r h' => ex_ (d + 1) 300 57 [l0, some (v_l x1), l2] (r.toList ++ []) h' Q) := by
  unfold ex_
  refine (am_Y_go 3 (ok := []) (g := (54, [l0, some (v_l x1), l2], [v_l (299 : Int64), v_l (200 : Int64), v_l x1], h)) rfl).trans ?_
  all_goals exact ((am_Y_call (j := 229) (na := 3) (ci := 12) (fl := 2) rfl rfl rfl).trans (cj_d ⟨⟨Nat.le_of_ble_eq_true rfl, Nat.le_of_ble_eq_true rfl, Nat.le_of_ble_eq_true rfl, rfl⟩, Or.inl rfl⟩ Iff.rfl))

theorem b_X12_whyNot_28 {d : Nat} {Q : Option am_V → am_H → Prop} (h : am_H) (x1 : Int64) (l2 : Option am_V) (Lh : Lay h) : ex_ (d + 1) 300 28 [some (v_r (some 93)), some (v_l x1), l2] [] h Q ↔ ex_ d 286 0 [some (v_r (some 93)), some (v_l ((x1 - (100 : Int64)) / (10 : Int64))), none, some (v_l (x1 - x1 / (10 : Int64) * (10 : Int64))), none] [] h (fun r h' => ex_ (d + 1) 300 46 [some (v_r (some 93)), some (v_l x1), l2] (r.toList ++ []) h' Q) := by
  unfold ex_
  refine (am_Y_go 9 (ok := [¬ (10 : Int64) = 0, ¬ (10 : Int64) = 0]) (g := (43, [some (v_r (some 93)), some (v_l x1), l2], [v_l (x1 - x1 / (10 : Int64) * (10 : Int64)), v_l ((x1 - (100 : Int64)) / (10 : Int64)), v_r (some 93)], h)) rfl).trans ?_
  simp only [am_all]
  all_goals exact cj_d (by decide) (cj_d (by decide) (((am_Y_call (j := 286) (na := 3) (ci := 12) (fl := 0) rfl rfl rfl).trans (cj_d ⟨⟨Nat.le_of_ble_eq_true rfl, Nat.le_of_ble_eq_true rfl, Nat.le_of_ble_eq_true rfl, rfl⟩, Or.inr (Or.inr (show (12 : Nat) < 20 ∧ am_is h (some 93) 12 from ⟨by decide, (la_is Lh (o := 93) rfl)⟩))⟩ Iff.rfl))))

theorem b_X12_whyNot_57 {d : Nat} {Q : Option am_V → am_H → Prop} (h : am_H) (s0 : Int32) (l0 l1 l2 : Option am_V) : ex_ d 300 57 [l0, l1, l2] [v_i s0] h Q ↔ if s0 = 0 then ex_ d 300 79 [l0, l1, l2] [] h Q else ex_ d 300 60 [l0, l1, l2] [] h Q := by
  unfold ex_
  refine (am_Y_go 1 (ok := []) (g := (if s0 = 0 then 79 else 60, [l0, l1, l2], [], h)) rfl).trans ?_
  all_goals exact am_Y_if

theorem b_X12_whyNot_46 {d : Nat} {Q : Option am_V → am_H → Prop} (h : am_H) (s0 : Int32) (l0 l1 l2 : Option am_V) : ex_ d 300 46 [l0, l1, l2] [v_i s0] h Q ↔ Q (some (v_i s0)) h := by
  unfold ex_
  exact ((am_Y_ret rfl rfl rfl).trans (am_r0))

theorem b_X12_whyNot_79 {d : Nat} {Q : Option am_V → am_H → Prop} (h : am_H) (x1 : Int64) (l0 l2 : Option am_V) : ex_ (d + 1) 300 79 [l0, some (v_l x1), l2] [] h Q ↔ ex_ d 229 0 [some (v_l x1), none, some (v_l (300 : Int64)), none, some (v_l (399 : Int64)), none] [] h (fun r h' => ex_ (d + 1) 300 89 [l0, some (v_l x1), l2] (r.toList ++ []) h' Q) := by
  unfold ex_
  refine (am_Y_go 3 (ok := []) (g := (86, [l0, some (v_l x1), l2], [v_l (399 : Int64), v_l (300 : Int64), v_l x1], h)) rfl).trans ?_
  all_goals exact ((am_Y_call (j := 229) (na := 3) (ci := 12) (fl := 2) rfl rfl rfl).trans (cj_d ⟨⟨Nat.le_of_ble_eq_true rfl, Nat.le_of_ble_eq_true rfl, Nat.le_of_ble_eq_true rfl, rfl⟩, Or.inl rfl⟩ Iff.rfl))

theorem b_X12_whyNot_60 {d : Nat} {Q : Option am_V → am_H → Prop} (h : am_H) (x1 : Int64) (l2 : Option am_V) (Lh : Lay h) : ex_ (d + 1) 300 60 [some (v_r (some 93)), some (v_l x1), l2] [] h Q ↔ ex_ d 287 0 [some (v_r (some 93)), some (v_l ((x1 - (200 : Int64)) / (10 : Int64))), none, some (v_l (x1 - x1 / (10 : Int64) * (10 : Int64))), none] [] h (fun r h' => ex_ (d + 1) 300 78 [some (v_r (some 93)), some (v_l x1), l2] (r.toList ++ []) h' Q) := by
  unfold ex_
  refine (am_Y_go 9 (ok := [¬ (10 : Int64) = 0, ¬ (10 : Int64) = 0]) (g := (75, [some (v_r (some 93)), some (v_l x1), l2], [v_l (x1 - x1 / (10 : Int64) * (10 : Int64)), v_l ((x1 - (200 : Int64)) / (10 : Int64)), v_r (some 93)], h)) rfl).trans ?_
  simp only [am_all]
  all_goals exact cj_d (by decide) (cj_d (by decide) (((am_Y_call (j := 287) (na := 3) (ci := 12) (fl := 0) rfl rfl rfl).trans (cj_d ⟨⟨Nat.le_of_ble_eq_true rfl, Nat.le_of_ble_eq_true rfl, Nat.le_of_ble_eq_true rfl, rfl⟩, Or.inr (Or.inr (show (12 : Nat) < 20 ∧ am_is h (some 93) 12 from ⟨by decide, (la_is Lh (o := 93) rfl)⟩))⟩ Iff.rfl))))

theorem b_X12_whyNot_89 {d : Nat} {Q : Option am_V → am_H → Prop} (h : am_H) (s0 : Int32) (l0 l1 l2 : Option am_V) : ex_ d 300 89 [l0, l1, l2] [v_i s0] h Q ↔ if s0 = 0 then ex_ d 300 111 [l0, l1, l2] [] h Q else ex_ d 300 92 [l0, l1, l2] [] h Q := by
  unfold ex_
  refine (am_Y_go 1 (ok := []) (g := (if s0 = 0 then 111 else 92, [l0, l1, l2], [], h)) rfl).trans ?_
  all_goals exact am_Y_if

theorem b_X12_whyNot_78 {d : Nat} {Q : Option am_V → am_H → Prop} (h : am_H) (s0 : Int32) (l0 l1 l2 : Option am_V) : ex_ d 300 78 [l0, l1, l2] [v_i s0] h Q ↔ Q (some (v_i s0)) h := by
  unfold ex_
  exact ((am_Y_ret rfl rfl rfl).trans (am_r0))

theorem b_X12_whyNot_111 {d : Nat} {Q : Option am_V → am_H → Prop} (h : am_H) (x1 : Int64) (l0 l2 : Option am_V) : ex_ (d + 1) 300 111 [l0, some (v_l x1), l2] [] h Q ↔ ex_ d 229 0 [some (v_l x1), none, some (v_l (1000 : Int64)), none, some (v_l (1299 : Int64)), none] [] h (fun r h' => ex_ (d + 1) 300 121 [l0, some (v_l x1), l2] (r.toList ++ []) h' Q) := by
  unfold ex_
  refine (am_Y_go 3 (ok := []) (g := (118, [l0, some (v_l x1), l2], [v_l (1299 : Int64), v_l (1000 : Int64), v_l x1], h)) rfl).trans ?_
  all_goals exact ((am_Y_call (j := 229) (na := 3) (ci := 12) (fl := 2) rfl rfl rfl).trans (cj_d ⟨⟨Nat.le_of_ble_eq_true rfl, Nat.le_of_ble_eq_true rfl, Nat.le_of_ble_eq_true rfl, rfl⟩, Or.inl rfl⟩ Iff.rfl))

theorem b_X12_whyNot_92 {d : Nat} {Q : Option am_V → am_H → Prop} (h : am_H) (x1 : Int64) (l2 : Option am_V) (Lh : Lay h) : ex_ (d + 1) 300 92 [some (v_r (some 93)), some (v_l x1), l2] [] h Q ↔ ex_ d 288 0 [some (v_r (some 93)), some (v_l ((x1 - (300 : Int64)) / (10 : Int64))), none, some (v_l (x1 - x1 / (10 : Int64) * (10 : Int64))), none] [] h (fun r h' => ex_ (d + 1) 300 110 [some (v_r (some 93)), some (v_l x1), l2] (r.toList ++ []) h' Q) := by
  unfold ex_
  refine (am_Y_go 9 (ok := [¬ (10 : Int64) = 0, ¬ (10 : Int64) = 0]) (g := (107, [some (v_r (some 93)), some (v_l x1), l2], [v_l (x1 - x1 / (10 : Int64) * (10 : Int64)), v_l ((x1 - (300 : Int64)) / (10 : Int64)), v_r (some 93)], h)) rfl).trans ?_
  simp only [am_all]
  all_goals exact cj_d (by decide) (cj_d (by decide) (((am_Y_call (j := 288) (na := 3) (ci := 12) (fl := 0) rfl rfl rfl).trans (cj_d ⟨⟨Nat.le_of_ble_eq_true rfl, Nat.le_of_ble_eq_true rfl, Nat.le_of_ble_eq_true rfl, rfl⟩, Or.inr (Or.inr (show (12 : Nat) < 20 ∧ am_is h (some 93) 12 from ⟨by decide, (la_is Lh (o := 93) rfl)⟩))⟩ Iff.rfl))))

theorem b_X12_whyNot_121 {d : Nat} {Q : Option am_V → am_H → Prop} (h : am_H) (s0 : Int32) (l0 l1 l2 : Option am_V) : ex_ d 300 121 [l0, l1, l2] [v_i s0] h Q ↔ if s0 = 0 then ex_ d 300 154 [l0, l1, l2] [] h Q else ex_ d 300 124 [l0, l1, l2] [] h Q := by
  unfold ex_
  refine (am_Y_go 1 (ok := []) (g := (if s0 = 0 then 154 else 124, [l0, l1, l2], [], h)) rfl).trans ?_
  all_goals exact am_Y_if

theorem b_X12_whyNot_110 {d : Nat} {Q : Option am_V → am_H → Prop} (h : am_H) (s0 : Int32) (l0 l1 l2 : Option am_V) : ex_ d 300 110 [l0, l1, l2] [v_i s0] h Q ↔ Q (some (v_i s0)) h := by
  unfold ex_
  exact ((am_Y_ret rfl rfl rfl).trans (am_r0))

theorem b_X12_whyNot_154 {d : Nat} {Q : Option am_V → am_H → Prop} (h : am_H) (l0 l1 l2 : Option am_V) : ex_ d 300 154 [l0, l1, l2] [] h Q ↔ Q (some (v_i (1 : Int32))) h := by
  unfold ex_
  refine (am_Y_go 1 (ok := []) (g := (155, [l0, l1, l2], [v_i (1 : Int32)], h)) rfl).trans ?_
  all_goals exact ((am_Y_ret rfl rfl rfl).trans (am_r0))

theorem b_X12_whyNot_124 {d : Nat} {Q : Option am_V → am_H → Prop} (h : am_H) (x1 : Int64) (l2 : Option am_V) (Lh : Lay h) : ex_ (d + 1) 300 124 [some (v_r (some 93)), some (v_l x1), l2] [] h Q ↔ ex_ d 289 0 [some (v_r (some 93)), some (v_l (x1 - x1 / (10 : Int64) * (10 : Int64))), none, some (v_l ((x1 / (10 : Int64)) - (x1 / (10 : Int64)) / (10 : Int64) * (10 : Int64))), none, some (v_l ((x1 - (1000 : Int64)) / (100 : Int64))), none] [] h (fun r h' => ex_ (d + 1) 300 151 [some (v_r (some 93)), some (v_l x1), l2] (r.toList ++ []) h' Q) := by
  unfold ex_
  refine (am_Y_go 14 (ok := [¬ (10 : Int64) = 0, ¬ (10 : Int64) = 0, ¬ (10 : Int64) = 0, ¬ (100 : Int64) = 0]) (g := (148, [some (v_r (some 93)), some (v_l x1), l2], [v_l ((x1 - (1000 : Int64)) / (100 : Int64)), v_l ((x1 / (10 : Int64)) - (x1 / (10 : Int64)) / (10 : Int64) * (10 : Int64)), v_l (x1 - x1 / (10 : Int64) * (10 : Int64)), v_r (some 93)], h)) rfl).trans ?_
  simp only [am_all]
  all_goals exact cj_d (by decide) (cj_d (by decide) (cj_d (by decide) (cj_d (by decide) (((am_Y_call (j := 289) (na := 4) (ci := 12) (fl := 0) rfl rfl rfl).trans (cj_d ⟨⟨Nat.le_of_ble_eq_true rfl, Nat.le_of_ble_eq_true rfl, Nat.le_of_ble_eq_true rfl, rfl⟩, Or.inr (Or.inr (show (12 : Nat) < 20 ∧ am_is h (some 93) 12 from ⟨by decide, (la_is Lh (o := 93) rfl)⟩))⟩ Iff.rfl))))))

theorem b_X12_whyNot_151 {d : Nat} {Q : Option am_V → am_H → Prop} (h : am_H) (s0 : Int32) (l0 l1 l2 : Option am_V) : ex_ d 300 151 [l0, l1, l2] [v_i s0] h Q ↔ Q (some (v_i s0)) h := by
  unfold ex_
  refine (am_Y_go 1 (ok := []) (g := (155, [l0, l1, l2], [v_i s0], h)) rfl).trans ?_
  all_goals exact ((am_Y_ret rfl rfl rfl).trans (am_r0))

theorem b_X12_does_0 {d : Nat} {Q : Option am_V → am_H → Prop} (h : am_H) (x1 : Int32) (l0 l2 : Option am_V) : ex_ d 301 0 [l0, some (v_i x1), l2] [] h Q ↔ if (20 : Int32) ≤ x1 then ex_ d 301 29 [l0, some (v_i x1), some (v_i ((x1 / (10 : Int32)) - (x1 / (10 : Int32)) / (10 : Int32) * (10 : Int32)))] [] h Q else ex_ d 301 14 [l0, some (v_i x1), some (v_i ((x1 / (10 : Int32)) - (x1 / (10 : Int32)) / (10 : Int32) * (10 : Int32)))] [] h Q := by
  unfold ex_
  refine (am_Y_go 9 (ok := [¬ (10 : Int32) = 0, ¬ (10 : Int32) = 0]) (g := (if (20 : Int32) ≤ x1 then 29 else 14, [l0, some (v_i x1), some (v_i ((x1 / (10 : Int32)) - (x1 / (10 : Int32)) / (10 : Int32) * (10 : Int32)))], [], h)) rfl).trans ?_
  simp only [am_all]
  all_goals exact cj_d (by decide) (cj_d (by decide) (am_Y_if))

theorem b_X12_does_29 {d : Nat} {Q : Option am_V → am_H → Prop} (h : am_H) (x1 : Int32) (l0 l2 : Option am_V) : ex_ d 301 29 [l0, some (v_i x1), l2] [] h Q ↔ if (200 : Int32) ≤ x1 then ex_ d 301 48 [l0, some (v_i x1), l2] [] h Q else ex_ d 301 36 [l0, some (v_i x1), l2] [] h Q := by
  unfold ex_
  refine (am_Y_go 3 (ok := []) (g := (if (200 : Int32) ≤ x1 then 48 else 36, [l0, some (v_i x1), l2], [], h)) rfl).trans ?_
  all_goals exact am_Y_if

theorem b_X12_does_14 {d : Nat} {Q : Option am_V → am_H → Prop} (h : am_H) (x1 : Int32) (l2 : Option am_V) (Lh : Lay h) : ex_ d 301 14 [some (v_r (some 93)), some (v_i x1), l2] [] h Q ↔ vp_in (138 : Int32) 7053 ∧ Q (none) (p_i h 94 (Int32.toNatClampNeg (138 : Int32)) (x1 - (10 : Int32))) := by
  have e0 : h_r h 93 1 = some 94 := la_r Lh (q := (93, 1, 94)) (by decide)
  unfold ex_
  refine (am_Y_go 8 (ok := [am_is h (some 93) 12, am_ar h ((h_r h 93 1)) 20 (138 : Int32)]) (g := (120, [some (v_r (some 93)), some (v_i x1), l2], [], (p_i h ((h_r h 93 1).getD 0) (Int32.toNatClampNeg (138 : Int32)) (x1 - (10 : Int32))))) rfl).trans ?_
  simp only [e0, Option.getD_some, am_all]
  all_goals exact cj_d (la_is Lh (o := 93) rfl) (cj_k (la_ar Lh (o := 94) rfl) (((am_Y_ret rfl rfl rfl).trans (am_rz rfl))))

theorem b_X12_does_48 {d : Nat} {Q : Option am_V → am_H → Prop} (h : am_H) (x1 : Int32) (l0 l2 : Option am_V) : ex_ d 301 48 [l0, some (v_i x1), l2] [] h Q ↔ if (300 : Int32) ≤ x1 then ex_ d 301 72 [l0, some (v_i x1), l2] [] h Q else ex_ d 301 55 [l0, some (v_i x1), l2] [] h Q := by
  unfold ex_
  refine (am_Y_go 3 (ok := []) (g := (if (300 : Int32) ≤ x1 then 72 else 55, [l0, some (v_i x1), l2], [], h)) rfl).trans ?_
  all_goals exact am_Y_if

theorem b_X12_does_36 {d : Nat} {Q : Option am_V → am_H → Prop} (h : am_H) (x2 : Int32) (x1 : Int32) (Lh : Lay h) : ex_ (d + 1) 301 36 [some (v_r (some 93)), some (v_i x1), some (v_i x2)] [] h Q ↔ ex_ d 290 0 [some (v_r (some 93)), some (v_i x2), some (v_i (x1 - x1 / (10 : Int32) * (10 : Int32)))] [] h (fun r h' => ex_ (d + 1) 301 45 [some (v_r (some 93)), some (v_i x1), some (v_i x2)] (r.toList ++ []) h' Q) := by
  unfold ex_
  refine (am_Y_go 5 (ok := [¬ (10 : Int32) = 0]) (g := (42, [some (v_r (some 93)), some (v_i x1), some (v_i x2)], [v_i (x1 - x1 / (10 : Int32) * (10 : Int32)), v_i x2, v_r (some 93)], h)) rfl).trans ?_
  simp only [am_all]
  all_goals exact cj_d (by decide) (((am_Y_call (j := 290) (na := 3) (ci := 12) (fl := 0) rfl rfl rfl).trans (cj_d ⟨⟨Nat.le_of_ble_eq_true rfl, Nat.le_of_ble_eq_true rfl, Nat.le_of_ble_eq_true rfl, rfl⟩, Or.inr (Or.inr (show (12 : Nat) < 20 ∧ am_is h (some 93) 12 from ⟨by decide, (la_is Lh (o := 93) rfl)⟩))⟩ Iff.rfl)))

theorem b_X12_does_72 {d : Nat} {Q : Option am_V → am_H → Prop} (h : am_H) (x1 : Int32) (l0 l2 : Option am_V) : ex_ d 301 72 [l0, some (v_i x1), l2] [] h Q ↔ if (400 : Int32) ≤ x1 then ex_ d 301 91 [l0, some (v_i x1), l2] [] h Q else ex_ d 301 79 [l0, some (v_i x1), l2] [] h Q := by
  unfold ex_
  refine (am_Y_go 3 (ok := []) (g := (if (400 : Int32) ≤ x1 then 91 else 79, [l0, some (v_i x1), l2], [], h)) rfl).trans ?_
  all_goals exact am_Y_if

theorem b_X12_does_55 {d : Nat} {Q : Option am_V → am_H → Prop} (h : am_H) (x2 : Int32) (x1 : Int32) (Lh : Lay h) : ex_ (d + 1) 301 55 [some (v_r (some 93)), some (v_i x1), some (v_i x2)] [] h Q ↔ ex_ d 265 0 [some (v_r (some 93)), some (v_i x2), some (v_i (x1 - x1 / (10 : Int32) * (10 : Int32))), none] [] h (fun r h' => ex_ (d + 1) 301 66 [some (v_r (some 93)), some (v_i x1), some (v_i x2)] (r.toList ++ [v_i x2, v_r (some 93)]) h' Q) := by
  unfold ex_
  refine (am_Y_go 7 (ok := [¬ (10 : Int32) = 0]) (g := (63, [some (v_r (some 93)), some (v_i x1), some (v_i x2)], [v_i (x1 - x1 / (10 : Int32) * (10 : Int32)), v_i x2, v_r (some 93), v_i x2, v_r (some 93)], h)) rfl).trans ?_
  simp only [am_all]
  all_goals exact cj_d (by decide) (((am_Y_call (j := 265) (na := 3) (ci := 12) (fl := 0) rfl rfl rfl).trans (cj_d ⟨⟨Nat.le_of_ble_eq_true rfl, Nat.le_of_ble_eq_true rfl, Nat.le_of_ble_eq_true rfl, rfl⟩, Or.inr (Or.inr (show (12 : Nat) < 20 ∧ am_is h (some 93) 12 from ⟨by decide, (la_is Lh (o := 93) rfl)⟩))⟩ Iff.rfl)))

theorem b_X12_does_45 {d : Nat} {Q : Option am_V → am_H → Prop} (h : am_H) (l0 l1 l2 : Option am_V) : ex_ d 301 45 [l0, l1, l2] [] h Q ↔ Q (none) h := by
  unfold ex_
  refine (am_Y_go 1 (ok := []) (g := (120, [l0, l1, l2], [], h)) rfl).trans ?_
  all_goals exact ((am_Y_ret rfl rfl rfl).trans (am_rz rfl))

theorem b_X12_does_91 {d : Nat} {Q : Option am_V → am_H → Prop} (h : am_H) (x1 : Int32) (x2 : Int32) (Lh : Lay h) : ex_ d 301 91 [some (v_r (some 93)), some (v_i x1), some (v_i x2)] [] h Q ↔ vp_in (((58 : Int32) + ((8 : Int32) * (x1 - x1 / (10 : Int32) * (10 : Int32)))) + x2) 7053 ∧ Q (none) (p_i h 94 (Int32.toNatClampNeg (((58 : Int32) + ((8 : Int32) * (x1 - x1 / (10 : Int32) * (10 : Int32)))) + x2)) ((((x1 - (1000 : Int32)) / (100 : Int32)) + (1 : Int32)) - (((x1 - (1000 : Int32)) / (100 : Int32)) + (1 : Int32)) / (3 : Int32) * (3 : Int32))) := by
  have e0 : h_r h 93 1 = some 94 := la_r Lh (q := (93, 1, 94)) (by decide)
  unfold ex_
  refine (am_Y_go 21 (ok := [am_is h (some 93) 12, ¬ (10 : Int32) = 0, ¬ (100 : Int32) = 0, ¬ (3 : Int32) = 0, am_ar h ((h_r h 93 1)) 20 (((58 : Int32) + ((8 : Int32) * (x1 - x1 / (10 : Int32) * (10 : Int32)))) + x2)]) (g := (120, [some (v_r (some 93)), some (v_i x1), some (v_i x2)], [], (p_i h ((h_r h 93 1).getD 0) (Int32.toNatClampNeg (((58 : Int32) + ((8 : Int32) * (x1 - x1 / (10 : Int32) * (10 : Int32)))) + x2)) ((((x1 - (1000 : Int32)) / (100 : Int32)) + (1 : Int32)) - (((x1 - (1000 : Int32)) / (100 : Int32)) + (1 : Int32)) / (3 : Int32) * (3 : Int32))))) rfl).trans ?_
  simp only [e0, Option.getD_some, am_all]
  all_goals exact cj_d (la_is Lh (o := 93) rfl) (cj_d (by decide) (cj_d (by decide) (cj_d (by decide) (cj_k (la_ar Lh (o := 94) rfl) (((am_Y_ret rfl rfl rfl).trans (am_rz rfl)))))))

theorem b_X12_does_79 {d : Nat} {Q : Option am_V → am_H → Prop} (h : am_H) (x2 : Int32) (x1 : Int32) (Lh : Lay h) : ex_ (d + 1) 301 79 [some (v_r (some 93)), some (v_i x1), some (v_i x2)] [] h Q ↔ ex_ d 292 0 [some (v_r (some 93)), some (v_i x2), some (v_i (x1 - x1 / (10 : Int32) * (10 : Int32))), none] [] h (fun r h' => ex_ (d + 1) 301 88 [some (v_r (some 93)), some (v_i x1), some (v_i x2)] (r.toList ++ []) h' Q) := by
  unfold ex_
  refine (am_Y_go 5 (ok := [¬ (10 : Int32) = 0]) (g := (85, [some (v_r (some 93)), some (v_i x1), some (v_i x2)], [v_i (x1 - x1 / (10 : Int32) * (10 : Int32)), v_i x2, v_r (some 93)], h)) rfl).trans ?_
  simp only [am_all]
  all_goals exact cj_d (by decide) (((am_Y_call (j := 292) (na := 3) (ci := 12) (fl := 0) rfl rfl rfl).trans (cj_d ⟨⟨Nat.le_of_ble_eq_true rfl, Nat.le_of_ble_eq_true rfl, Nat.le_of_ble_eq_true rfl, rfl⟩, Or.inr (Or.inr (show (12 : Nat) < 20 ∧ am_is h (some 93) 12 from ⟨by decide, (la_is Lh (o := 93) rfl)⟩))⟩ Iff.rfl)))

theorem b_X12_does_66 {d : Nat} {Q : Option am_V → am_H → Prop} (h : am_H) (s0 : Int32) (s1 : Int32) (l0 l1 l2 : Option am_V) (Lh : Lay h) : ex_ (d + 1) 301 66 [l0, l1, l2] [v_i s0, v_i s1, v_r (some 93)] h Q ↔ ex_ d 291 0 [some (v_r (some 93)), some (v_i s1), some (v_i s0), none] [] h (fun r h' => ex_ (d + 1) 301 69 [l0, l1, l2] (r.toList ++ []) h' Q) := by
  unfold ex_
  exact ((am_Y_call (j := 291) (na := 3) (ci := 12) (fl := 0) rfl rfl rfl).trans (cj_d ⟨⟨Nat.le_of_ble_eq_true rfl, Nat.le_of_ble_eq_true rfl, Nat.le_of_ble_eq_true rfl, rfl⟩, Or.inr (Or.inr (show (12 : Nat) < 20 ∧ am_is h (some 93) 12 from ⟨by decide, (la_is Lh (o := 93) rfl)⟩))⟩ Iff.rfl))

theorem b_X12_does_88 {d : Nat} {Q : Option am_V → am_H → Prop} (h : am_H) (l0 l1 l2 : Option am_V) : ex_ d 301 88 [l0, l1, l2] [] h Q ↔ Q (none) h := by
  unfold ex_
  refine (am_Y_go 1 (ok := []) (g := (120, [l0, l1, l2], [], h)) rfl).trans ?_
  all_goals exact ((am_Y_ret rfl rfl rfl).trans (am_rz rfl))

theorem b_X12_does_69 {d : Nat} {Q : Option am_V → am_H → Prop} (h : am_H) (l0 l1 l2 : Option am_V) : ex_ d 301 69 [l0, l1, l2] [] h Q ↔ Q (none) h := by
  unfold ex_
  refine (am_Y_go 1 (ok := []) (g := (120, [l0, l1, l2], [], h)) rfl).trans ?_
  all_goals exact ((am_Y_ret rfl rfl rfl).trans (am_rz rfl))

theorem b_X12_tells_0 {d : Nat} {Q : Option am_V → am_H → Prop} (h : am_H) (l1 l2 : Option am_V) (Lh : Lay h) : ex_ d 302 0 [some (v_r (some 93)), l1, l2] [] h Q ↔ ex_ d 302 7 [some (v_r (some 93)), l1, some (v_i (0 : Int32))] [] (p_i h 93 25 (0 : Int32)) Q := by
  unfold ex_
  refine (am_Y_go 5 (ok := [am_is h (some 93) 12]) (g := (7, [some (v_r (some 93)), l1, some (v_i (0 : Int32))], [], (p_i h 93 25 (0 : Int32)))) rfl).trans ?_
  simp only [am_all]
  all_goals exact cj_d (la_is Lh (o := 93) rfl) (Iff.rfl)

theorem b_X12_tells_7 {d : Nat} {Q : Option am_V → am_H → Prop} (h : am_H) (x2 : Int32) (x1 : Int32) (Lh : Lay h) : ex_ d 302 7 [some (v_r (some 93)), some (v_i x1), some (v_i x2)] [] h Q ↔ vp_in x1 4 ∧ (if (h_i h 116 (Int32.toNatClampNeg x1)) ≤ x2 then ex_ d 302 67 [some (v_r (some 93)), some (v_i x1), some (v_i x2)] [] h Q else ex_ d 302 17 [some (v_r (some 93)), some (v_i x1), some (v_i x2)] [] h Q) := by
  have e0 : h_r h 93 42 = some 116 := la_r Lh (q := (93, 42, 116)) (by decide)
  unfold ex_
  refine (am_Y_go 6 (ok := [am_is h (some 93) 12, am_ar h ((h_r h 93 42)) 20 x1]) (g := (if (h_i h ((h_r h 93 42).getD 0) (Int32.toNatClampNeg x1)) ≤ x2 then 67 else 17, [some (v_r (some 93)), some (v_i x1), some (v_i x2)], [], h)) rfl).trans ?_
  simp only [e0, Option.getD_some, am_all]
  all_goals exact cj_d (la_is Lh (o := 93) rfl) (cj_k (la_ar Lh (o := 116) rfl) (am_Y_if))

theorem b_X12_tells_67 {d : Nat} {Q : Option am_V → am_H → Prop} (h : am_H) (x1 : Int32) (l2 : Option am_V) (Lh : Lay h) : ex_ d 302 67 [some (v_r (some 93)), some (v_i x1), l2] [] h Q ↔ vp_in x1 4 ∧ Q (some (v_i (h_i h 116 (Int32.toNatClampNeg x1)))) h := by
  have e0 : h_r h 93 42 = some 116 := la_r Lh (q := (93, 42, 116)) (by decide)
  unfold ex_
  refine (am_Y_go 4 (ok := [am_is h (some 93) 12, am_ar h ((h_r h 93 42)) 20 x1]) (g := (73, [some (v_r (some 93)), some (v_i x1), l2], [v_i (h_i h ((h_r h 93 42).getD 0) (Int32.toNatClampNeg x1))], h)) rfl).trans ?_
  simp only [e0, Option.getD_some, am_all]
  all_goals exact cj_d (la_is Lh (o := 93) rfl) (cj_k (la_ar Lh (o := 116) rfl) (((am_Y_ret rfl rfl rfl).trans (am_r0))))

theorem b_X12_tells_17 {d : Nat} {Q : Option am_V → am_H → Prop} (h : am_H) (x1 : Int32) (x2 : Int32) (Lh : Lay h) : ex_ (d + 1) 302 17 [some (v_r (some 93)), some (v_i x1), some (v_i x2)] [] h Q ↔ vp_in (((40 : Int32) * x1) + x2) 160 ∧ ex_ d 300 0 [some (v_r (some 93)), some (v_l (h_j h 117 (Int32.toNatClampNeg (((40 : Int32) * x1) + x2)))), none] [] h (fun r h' => ex_ (d + 1) 302 33 [some (v_r (some 93)), some (v_i x1), some (v_i x2)] (r.toList ++ [v_r (some 93)]) h' Q) := by
  have e0 : h_r h 93 43 = some 117 := la_r Lh (q := (93, 43, 117)) (by decide)
  unfold ex_
  refine (am_Y_go 10 (ok := [am_is h (some 93) 12, am_ar h ((h_r h 93 43)) 23 (((40 : Int32) * x1) + x2)]) (g := (30, [some (v_r (some 93)), some (v_i x1), some (v_i x2)], [v_l (h_j h ((h_r h 93 43).getD 0) (Int32.toNatClampNeg (((40 : Int32) * x1) + x2))), v_r (some 93), v_r (some 93)], h)) rfl).trans ?_
  simp only [e0, Option.getD_some, am_all]
  all_goals exact cj_d (la_is Lh (o := 93) rfl) (cj_k (la_ar Lh (o := 117) rfl) (((am_Y_call (j := 300) (na := 2) (ci := 12) (fl := 0) rfl rfl rfl).trans (cj_d ⟨⟨Nat.le_of_ble_eq_true rfl, Nat.le_of_ble_eq_true rfl, Nat.le_of_ble_eq_true rfl, rfl⟩, Or.inr (Or.inr (show (12 : Nat) < 20 ∧ am_is h (some 93) 12 from ⟨by decide, (la_is Lh (o := 93) rfl)⟩))⟩ Iff.rfl))))

theorem b_X12_tells_33 {d : Nat} {Q : Option am_V → am_H → Prop} (h : am_H) (s0 : Int32) (l1 l2 : Option am_V) (Lh : Lay h) : ex_ d 302 33 [some (v_r (some 93)), l1, l2] [v_i s0, v_r (some 93)] h Q ↔ if (h_i (p_i h 93 25 s0) 93 25) = 0 then ex_ d 302 45 [some (v_r (some 93)), l1, l2] [] (p_i h 93 25 s0) Q else ex_ d 302 43 [some (v_r (some 93)), l1, l2] [] (p_i h 93 25 s0) Q := by
  unfold ex_
  refine (am_Y_go 4 (ok := [am_is h (some 93) 12, am_is h (some 93) 12]) (g := (if (h_i (p_i h 93 25 s0) 93 25) = 0 then 45 else 43, [some (v_r (some 93)), l1, l2], [], (p_i h 93 25 s0))) rfl).trans ?_
  simp only [am_all]
  all_goals exact cj_d (la_is Lh (o := 93) rfl) (cj_d (la_is Lh (o := 93) rfl) (am_Y_if))

theorem b_X12_tells_45 {d : Nat} {Q : Option am_V → am_H → Prop} (h : am_H) (x1 : Int32) (x2 : Int32) (Lh : Lay h) : ex_ (d + 1) 302 45 [some (v_r (some 93)), some (v_i x1), some (v_i x2)] [] h Q ↔ vp_in (((40 : Int32) * x1) + x2) 160 ∧ ex_ d 301 0 [some (v_r (some 93)), some (v_i (Int64.toInt32 (h_j h 117 (Int32.toNatClampNeg (((40 : Int32) * x1) + x2))))), none] [] h (fun r h' => ex_ (d + 1) 302 61 [some (v_r (some 93)), some (v_i x1), some (v_i x2)] (r.toList ++ []) h' Q) := by
  have e0 : h_r h 93 43 = some 117 := la_r Lh (q := (93, 43, 117)) (by decide)
  unfold ex_
  refine (am_Y_go 10 (ok := [am_is h (some 93) 12, am_ar h ((h_r h 93 43)) 23 (((40 : Int32) * x1) + x2)]) (g := (58, [some (v_r (some 93)), some (v_i x1), some (v_i x2)], [v_i (Int64.toInt32 (h_j h ((h_r h 93 43).getD 0) (Int32.toNatClampNeg (((40 : Int32) * x1) + x2)))), v_r (some 93)], h)) rfl).trans ?_
  simp only [e0, Option.getD_some, am_all]
  all_goals exact cj_d (la_is Lh (o := 93) rfl) (cj_k (la_ar Lh (o := 117) rfl) (((am_Y_call (j := 301) (na := 2) (ci := 12) (fl := 0) rfl rfl rfl).trans (cj_d ⟨⟨Nat.le_of_ble_eq_true rfl, Nat.le_of_ble_eq_true rfl, Nat.le_of_ble_eq_true rfl, rfl⟩, Or.inr (Or.inr (show (12 : Nat) < 20 ∧ am_is h (some 93) 12 from ⟨by decide, (la_is Lh (o := 93) rfl)⟩))⟩ Iff.rfl))))

theorem b_X12_tells_43 {d : Nat} {Q : Option am_V → am_H → Prop} (h : am_H) (x2 : Int32) (l0 l1 : Option am_V) : ex_ d 302 43 [l0, l1, some (v_i x2)] [] h Q ↔ Q (some (v_i x2)) h := by
  unfold ex_
  refine (am_Y_go 1 (ok := []) (g := (44, [l0, l1, some (v_i x2)], [v_i x2], h)) rfl).trans ?_
  all_goals exact ((am_Y_ret rfl rfl rfl).trans (am_r0))

theorem b_X12_tells_61 {d : Nat} {Q : Option am_V → am_H → Prop} (h : am_H) (x2 : Int32) (l0 l1 : Option am_V) : ex_ d 302 61 [l0, l1, some (v_i x2)] [] h Q ↔ ex_ d 302 7 [l0, l1, some (v_i (x2 + (1 : Int32)))] [] h Q := by
  unfold ex_
  refine (am_Y_go 2 (ok := []) (g := (7, [l0, l1, some (v_i (x2 + (1 : Int32)))], [], h)) rfl).trans ?_
  all_goals exact Iff.rfl

theorem b_X12_noTray_0 {d : Nat} {Q : Option am_V → am_H → Prop} (h : am_H) (x1 : Int32) (l0 : Option am_V) : ex_ (d + 1) 303 0 [l0, some (v_i x1)] [] h Q ↔ ex_ d 229 0 [some (v_l (Int32.toInt64 x1)), none, some (v_l (0 : Int64)), none, some (v_l (3 : Int64)), none] [] h (fun r h' => ex_ (d + 1) 303 9 [l0, some (v_i x1)] (r.toList ++ []) h' Q) := by
  unfold ex_
  refine (am_Y_go 4 (ok := []) (g := (6, [l0, some (v_i x1)], [v_l (3 : Int64), v_l (0 : Int64), v_l (Int32.toInt64 x1)], h)) rfl).trans ?_
  all_goals exact ((am_Y_call (j := 229) (na := 3) (ci := 12) (fl := 2) rfl rfl rfl).trans (cj_d ⟨⟨Nat.le_of_ble_eq_true rfl, Nat.le_of_ble_eq_true rfl, Nat.le_of_ble_eq_true rfl, rfl⟩, Or.inl rfl⟩ Iff.rfl))

theorem b_X12_noTray_9 {d : Nat} {Q : Option am_V → am_H → Prop} (h : am_H) (s0 : Int32) (l0 l1 : Option am_V) : ex_ d 303 9 [l0, l1] [v_i s0] h Q ↔ if ¬ s0 = 0 then ex_ d 303 17 [l0, l1] [] h Q else ex_ d 303 12 [l0, l1] [] h Q := by
  unfold ex_
  refine (am_Y_go 1 (ok := []) (g := (if ¬ s0 = 0 then 17 else 12, [l0, l1], [], h)) rfl).trans ?_
  all_goals exact am_Y_if

theorem b_X12_noTray_17 {d : Nat} {Q : Option am_V → am_H → Prop} (h : am_H) (x1 : Int32) (Lh : Lay h) : ex_ d 303 17 [some (v_r (some 93)), some (v_i x1)] [] h Q ↔ vp_in x1 4 ∧ (if ¬ (h_i h 115 (Int32.toNatClampNeg x1)) = (-1 : Int32) then ex_ d 303 32 [some (v_r (some 93)), some (v_i x1)] [] h Q else ex_ d 303 27 [some (v_r (some 93)), some (v_i x1)] [] h Q) := by
  have e0 : h_r h 93 41 = some 115 := la_r Lh (q := (93, 41, 115)) (by decide)
  unfold ex_
  refine (am_Y_go 6 (ok := [am_is h (some 93) 12, am_ar h ((h_r h 93 41)) 20 x1]) (g := (if ¬ (h_i h ((h_r h 93 41).getD 0) (Int32.toNatClampNeg x1)) = (-1 : Int32) then 32 else 27, [some (v_r (some 93)), some (v_i x1)], [], h)) rfl).trans ?_
  simp only [e0, Option.getD_some, am_all]
  all_goals exact cj_d (la_is Lh (o := 93) rfl) (cj_k (la_ar Lh (o := 115) rfl) (am_Y_if))

theorem b_X12_noTray_12 {d : Nat} {Q : Option am_V → am_H → Prop} (h : am_H) (l0 l1 : Option am_V) : ex_ d 303 12 [l0, l1] [] h Q ↔ Q (some (v_i (-2 : Int32))) h := by
  unfold ex_
  refine (am_Y_go 2 (ok := []) (g := (33, [l0, l1], [v_i (-2 : Int32)], h)) rfl).trans ?_
  all_goals exact ((am_Y_ret rfl rfl rfl).trans (am_r0))

theorem b_X12_noTray_32 {d : Nat} {Q : Option am_V → am_H → Prop} (h : am_H) (l0 l1 : Option am_V) : ex_ d 303 32 [l0, l1] [] h Q ↔ Q (some (v_i (0 : Int32))) h := by
  unfold ex_
  refine (am_Y_go 1 (ok := []) (g := (33, [l0, l1], [v_i (0 : Int32)], h)) rfl).trans ?_
  all_goals exact ((am_Y_ret rfl rfl rfl).trans (am_r0))

theorem b_X12_noTray_27 {d : Nat} {Q : Option am_V → am_H → Prop} (h : am_H) (l0 l1 : Option am_V) : ex_ d 303 27 [l0, l1] [] h Q ↔ Q (some (v_i (-6 : Int32))) h := by
  unfold ex_
  refine (am_Y_go 2 (ok := []) (g := (33, [l0, l1], [v_i (-6 : Int32)], h)) rfl).trans ?_
  all_goals exact ((am_Y_ret rfl rfl rfl).trans (am_r0))
