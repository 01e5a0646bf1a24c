theorem b_J7_fill_53178_0 {d : Nat} {Q : Option am_V → am_H → Prop} (h : am_H) (o0 : Nat) (l1 l2 l3 : Option am_V) {n_o0 : Nat} (A_o0 : y_arr h o0 20 n_o0) : ex_ d 2 0 [some (v_r (some o0)), l1, l2, l3] [] h Q ↔ ex_ d 2 5 [some (v_r (some o0)), l1, some (v_i (0 : Int32)), some (v_i (nI n_o0))] [] h Q := by
  have e0 : h_l h o0 = n_o0 := (lb_l A_o0)
  unfold ex_
  refine (am_Y_go 5 (ok := [am_an h (some o0)]) (g := (5, [some (v_r (some o0)), l1, some (v_i (0 : Int32)), some (v_i (nI (h_l h o0)))], [], h)) rfl).trans ?_
  simp only [e0, Option.getD_some, am_all]
  all_goals exact cj_d (lb_an20 A_o0) (Iff.rfl)

theorem b_J7_fill_53178_5 {d : Nat} {Q : Option am_V → am_H → Prop} (h : am_H) (x2 : Int32) (x3 : Int32) (l0 l1 : Option am_V) : ex_ d 2 5 [l0, l1, some (v_i x2), some (v_i x3)] [] h Q ↔ if x3 ≤ x2 then ex_ d 2 20 [l0, l1, some (v_i x2), some (v_i x3)] [] h Q else ex_ d 2 10 [l0, l1, some (v_i x2), some (v_i x3)] [] h Q := by
  unfold ex_
  refine (am_Y_go 3 (ok := []) (g := (if x3 ≤ x2 then 20 else 10, [l0, l1, some (v_i x2), some (v_i x3)], [], h)) rfl).trans ?_
  all_goals exact am_Y_if

theorem b_J7_fill_53178_20 {d : Nat} {Q : Option am_V → am_H → Prop} (h : am_H) (l0 l1 l2 l3 : Option am_V) : ex_ d 2 20 [l0, l1, l2, l3] [] h Q ↔ Q (none) h := by
  unfold ex_
  exact ((am_Y_ret rfl rfl rfl).trans (am_rz rfl))

theorem b_J7_fill_53178_10 {d : Nat} {Q : Option am_V → am_H → Prop} (h : am_H) (o0 : Nat) (x2 : Int32) (x1 : Int32) (l3 : Option am_V) {n_o0 : Nat} (A_o0 : y_arr h o0 20 n_o0) : ex_ d 2 10 [some (v_r (some o0)), some (v_i x1), some (v_i x2), l3] [] h Q ↔ vp_in x2 n_o0 ∧ ex_ d 2 5 [some (v_r (some o0)), some (v_i x1), some (v_i (x2 + (1 : Int32))), l3] [] (p_i h o0 (Int32.toNatClampNeg x2) x1) Q := by
  unfold ex_
  refine (am_Y_go 6 (ok := [am_ar h (some o0) 20 x2]) (g := (5, [some (v_r (some o0)), some (v_i x1), some (v_i (x2 + (1 : Int32))), l3], [], (p_i h o0 (Int32.toNatClampNeg x2) x1))) rfl).trans ?_
  simp only [am_all]
  all_goals exact cj_k (lb_ar A_o0) (Iff.rfl)

theorem b_J6_bitCount_0f7a4_0 {d : Nat} {Q : Option am_V → am_H → Prop} (h : am_H) (x0 : Int32) : ex_ d 14 0 [some (v_i x0)] [] h Q ↔ Q (some (v_i ((((((((x0 - ((((x0).toUInt32 >>> (((1 : Int32)).toUInt32 &&& Int32.toUInt32 31)).toInt32) &&& (1431655765 : Int32))) &&& (858993459 : Int32)) + (((((x0 - ((((x0).toUInt32 >>> (((1 : Int32)).toUInt32 &&& Int32.toUInt32 31)).toInt32) &&& (1431655765 : Int32)))).toUInt32 >>> (((2 : Int32)).toUInt32 &&& Int32.toUInt32 31)).toInt32) &&& (858993459 : Int32))) + ((((((x0 - ((((x0).toUInt32 >>> (((1 : Int32)).toUInt32 &&& Int32.toUInt32 31)).toInt32) &&& (1431655765 : Int32))) &&& (858993459 : Int32)) + (((((x0 - ((((x0).toUInt32 >>> (((1 : Int32)).toUInt32 &&& Int32.toUInt32 31)).toInt32) &&& (1431655765 : Int32)))).toUInt32 >>> (((2 : Int32)).toUInt32 &&& Int32.toUInt32 31)).toInt32) &&& (858993459 : Int32)))).toUInt32 >>> (((4 : Int32)).toUInt32 &&& Int32.toUInt32 31)).toInt32)) &&& (252645135 : Int32)) + ((((((((x0 - ((((x0).toUInt32 >>> (((1 : Int32)).toUInt32 &&& Int32.toUInt32 31)).toInt32) &&& (1431655765 : Int32))) &&& (858993459 : Int32)) + (((((x0 - ((((x0).toUInt32 >>> (((1 : Int32)).toUInt32 &&& Int32.toUInt32 31)).toInt32) &&& (1431655765 : Int32)))).toUInt32 >>> (((2 : Int32)).toUInt32 &&& Int32.toUInt32 31)).toInt32) &&& (858993459 : Int32))) + ((((((x0 - ((((x0).toUInt32 >>> (((1 : Int32)).toUInt32 &&& Int32.toUInt32 31)).toInt32) &&& (1431655765 : Int32))) &&& (858993459 : Int32)) + (((((x0 - ((((x0).toUInt32 >>> (((1 : Int32)).toUInt32 &&& Int32.toUInt32 31)).toInt32) &&& (1431655765 : Int32)))).toUInt32 >>> (((2 : Int32)).toUInt32 &&& Int32.toUInt32 31)).toInt32) &&& (858993459 : Int32)))).toUInt32 >>> (((4 : Int32)).toUInt32 &&& Int32.toUInt32 31)).toInt32)) &&& (252645135 : Int32))).toUInt32 >>> (((8 : Int32)).toUInt32 &&& Int32.toUInt32 31)).toInt32)) + (((((((((x0 - ((((x0).toUInt32 >>> (((1 : Int32)).toUInt32 &&& Int32.toUInt32 31)).toInt32) &&& (1431655765 : Int32))) &&& (858993459 : Int32)) + (((((x0 - ((((x0).toUInt32 >>> (((1 : Int32)).toUInt32 &&& Int32.toUInt32 31)).toInt32) &&& (1431655765 : Int32)))).toUInt32 >>> (((2 : Int32)).toUInt32 &&& Int32.toUInt32 31)).toInt32) &&& (858993459 : Int32))) + ((((((x0 - ((((x0).toUInt32 >>> (((1 : Int32)).toUInt32 &&& Int32.toUInt32 31)).toInt32) &&& (1431655765 : Int32))) &&& (858993459 : Int32)) + (((((x0 - ((((x0).toUInt32 >>> (((1 : Int32)).toUInt32 &&& Int32.toUInt32 31)).toInt32) &&& (1431655765 : Int32)))).toUInt32 >>> (((2 : Int32)).toUInt32 &&& Int32.toUInt32 31)).toInt32) &&& (858993459 : Int32)))).toUInt32 >>> (((4 : Int32)).toUInt32 &&& Int32.toUInt32 31)).toInt32)) &&& (252645135 : Int32)) + ((((((((x0 - ((((x0).toUInt32 >>> (((1 : Int32)).toUInt32 &&& Int32.toUInt32 31)).toInt32) &&& (1431655765 : Int32))) &&& (858993459 : Int32)) + (((((x0 - ((((x0).toUInt32 >>> (((1 : Int32)).toUInt32 &&& Int32.toUInt32 31)).toInt32) &&& (1431655765 : Int32)))).toUInt32 >>> (((2 : Int32)).toUInt32 &&& Int32.toUInt32 31)).toInt32) &&& (858993459 : Int32))) + ((((((x0 - ((((x0).toUInt32 >>> (((1 : Int32)).toUInt32 &&& Int32.toUInt32 31)).toInt32) &&& (1431655765 : Int32))) &&& (858993459 : Int32)) + (((((x0 - ((((x0).toUInt32 >>> (((1 : Int32)).toUInt32 &&& Int32.toUInt32 31)).toInt32) &&& (1431655765 : Int32)))).toUInt32 >>> (((2 : Int32)).toUInt32 &&& Int32.toUInt32 31)).toInt32) &&& (858993459 : Int32)))).toUInt32 >>> (((4 : Int32)).toUInt32 &&& Int32.toUInt32 31)).toInt32)) &&& (252645135 : Int32))).toUInt32 >>> (((8 : Int32)).toUInt32 &&& Int32.toUInt32 31)).toInt32))).toUInt32 >>> (((16 : Int32)).toUInt32 &&& Int32.toUInt32 31)).toInt32)) &&& (63 : Int32)))) h := by
  unfold ex_
  refine (am_Y_go 41 (ok := []) (g := (52, [some (v_i (((((((x0 - ((((x0).toUInt32 >>> (((1 : Int32)).toUInt32 &&& Int32.toUInt32 31)).toInt32) &&& (1431655765 : Int32))) &&& (858993459 : Int32)) + (((((x0 - ((((x0).toUInt32 >>> (((1 : Int32)).toUInt32 &&& Int32.toUInt32 31)).toInt32) &&& (1431655765 : Int32)))).toUInt32 >>> (((2 : Int32)).toUInt32 &&& Int32.toUInt32 31)).toInt32) &&& (858993459 : Int32))) + ((((((x0 - ((((x0).toUInt32 >>> (((1 : Int32)).toUInt32 &&& Int32.toUInt32 31)).toInt32) &&& (1431655765 : Int32))) &&& (858993459 : Int32)) + (((((x0 - ((((x0).toUInt32 >>> (((1 : Int32)).toUInt32 &&& Int32.toUInt32 31)).toInt32) &&& (1431655765 : Int32)))).toUInt32 >>> (((2 : Int32)).toUInt32 &&& Int32.toUInt32 31)).toInt32) &&& (858993459 : Int32)))).toUInt32 >>> (((4 : Int32)).toUInt32 &&& Int32.toUInt32 31)).toInt32)) &&& (252645135 : Int32)) + ((((((((x0 - ((((x0).toUInt32 >>> (((1 : Int32)).toUInt32 &&& Int32.toUInt32 31)).toInt32) &&& (1431655765 : Int32))) &&& (858993459 : Int32)) + (((((x0 - ((((x0).toUInt32 >>> (((1 : Int32)).toUInt32 &&& Int32.toUInt32 31)).toInt32) &&& (1431655765 : Int32)))).toUInt32 >>> (((2 : Int32)).toUInt32 &&& Int32.toUInt32 31)).toInt32) &&& (858993459 : Int32))) + ((((((x0 - ((((x0).toUInt32 >>> (((1 : Int32)).toUInt32 &&& Int32.toUInt32 31)).toInt32) &&& (1431655765 : Int32))) &&& (858993459 : Int32)) + (((((x0 - ((((x0).toUInt32 >>> (((1 : Int32)).toUInt32 &&& Int32.toUInt32 31)).toInt32) &&& (1431655765 : Int32)))).toUInt32 >>> (((2 : Int32)).toUInt32 &&& Int32.toUInt32 31)).toInt32) &&& (858993459 : Int32)))).toUInt32 >>> (((4 : Int32)).toUInt32 &&& Int32.toUInt32 31)).toInt32)) &&& (252645135 : Int32))).toUInt32 >>> (((8 : Int32)).toUInt32 &&& Int32.toUInt32 31)).toInt32)) + (((((((((x0 - ((((x0).toUInt32 >>> (((1 : Int32)).toUInt32 &&& Int32.toUInt32 31)).toInt32) &&& (1431655765 : Int32))) &&& (858993459 : Int32)) + (((((x0 - ((((x0).toUInt32 >>> (((1 : Int32)).toUInt32 &&& Int32.toUInt32 31)).toInt32) &&& (1431655765 : Int32)))).toUInt32 >>> (((2 : Int32)).toUInt32 &&& Int32.toUInt32 31)).toInt32) &&& (858993459 : Int32))) + ((((((x0 - ((((x0).toUInt32 >>> (((1 : Int32)).toUInt32 &&& Int32.toUInt32 31)).toInt32) &&& (1431655765 : Int32))) &&& (858993459 : Int32)) + (((((x0 - ((((x0).toUInt32 >>> (((1 : Int32)).toUInt32 &&& Int32.toUInt32 31)).toInt32) &&& (1431655765 : Int32)))).toUInt32 >>> (((2 : Int32)).toUInt32 &&& Int32.toUInt32 31)).toInt32) &&& (858993459 : Int32)))).toUInt32 >>> (((4 : Int32)).toUInt32 &&& Int32.toUInt32 31)).toInt32)) &&& (252645135 : Int32)) + ((((((((x0 - ((((x0).toUInt32 >>> (((1 : Int32)).toUInt32 &&& Int32.toUInt32 31)).toInt32) &&& (1431655765 : Int32))) &&& (858993459 : Int32)) + (((((x0 - ((((x0).toUInt32 >>> (((1 : Int32)).toUInt32 &&& Int32.toUInt32 31)).toInt32) &&& (1431655765 : Int32)))).toUInt32 >>> (((2 : Int32)).toUInt32 &&& Int32.toUInt32 31)).toInt32) &&& (858993459 : Int32))) + ((((((x0 - ((((x0).toUInt32 >>> (((1 : Int32)).toUInt32 &&& Int32.toUInt32 31)).toInt32) &&& (1431655765 : Int32))) &&& (858993459 : Int32)) + (((((x0 - ((((x0).toUInt32 >>> (((1 : Int32)).toUInt32 &&& Int32.toUInt32 31)).toInt32) &&& (1431655765 : Int32)))).toUInt32 >>> (((2 : Int32)).toUInt32 &&& Int32.toUInt32 31)).toInt32) &&& (858993459 : Int32)))).toUInt32 >>> (((4 : Int32)).toUInt32 &&& Int32.toUInt32 31)).toInt32)) &&& (252645135 : Int32))).toUInt32 >>> (((8 : Int32)).toUInt32 &&& Int32.toUInt32 31)).toInt32))).toUInt32 >>> (((16 : Int32)).toUInt32 &&& Int32.toUInt32 31)).toInt32)))], [v_i ((((((((x0 - ((((x0).toUInt32 >>> (((1 : Int32)).toUInt32 &&& Int32.toUInt32 31)).toInt32) &&& (1431655765 : Int32))) &&& (858993459 : Int32)) + (((((x0 - ((((x0).toUInt32 >>> (((1 : Int32)).toUInt32 &&& Int32.toUInt32 31)).toInt32) &&& (1431655765 : Int32)))).toUInt32 >>> (((2 : Int32)).toUInt32 &&& Int32.toUInt32 31)).toInt32) &&& (858993459 : Int32))) + ((((((x0 - ((((x0).toUInt32 >>> (((1 : Int32)).toUInt32 &&& Int32.toUInt32 31)).toInt32) &&& (1431655765 : Int32))) &&& (858993459 : Int32)) + (((((x0 - ((((x0).toUInt32 >>> (((1 : Int32)).toUInt32 &&& Int32.toUInt32 31)).toInt32) &&& (1431655765 : Int32)))).toUInt32 >>> (((2 : Int32)).toUInt32 &&& Int32.toUInt32 31)).toInt32) &&& (858993459 : Int32)))).toUInt32 >>> (((4 : Int32)).toUInt32 &&& Int32.toUInt32 31)).toInt32)) &&& (252645135 : Int32)) + ((((((((x0 - ((((x0).toUInt32 >>> (((1 : Int32)).toUInt32 &&& Int32.toUInt32 31)).toInt32) &&& (1431655765 : Int32))) &&& (858993459 : Int32)) + (((((x0 - ((((x0).toUInt32 >>> (((1 : Int32)).toUInt32 &&& Int32.toUInt32 31)).toInt32) &&& (1431655765 : Int32)))).toUInt32 >>> (((2 : Int32)).toUInt32 &&& Int32.toUInt32 31)).toInt32) &&& (858993459 : Int32))) + ((((((x0 - ((((x0).toUInt32 >>> (((1 : Int32)).toUInt32 &&& Int32.toUInt32 31)).toInt32) &&& (1431655765 : Int32))) &&& (858993459 : Int32)) + (((((x0 - ((((x0).toUInt32 >>> (((1 : Int32)).toUInt32 &&& Int32.toUInt32 31)).toInt32) &&& (1431655765 : Int32)))).toUInt32 >>> (((2 : Int32)).toUInt32 &&& Int32.toUInt32 31)).toInt32) &&& (858993459 : Int32)))).toUInt32 >>> (((4 : Int32)).toUInt32 &&& Int32.toUInt32 31)).toInt32)) &&& (252645135 : Int32))).toUInt32 >>> (((8 : Int32)).toUInt32 &&& Int32.toUInt32 31)).toInt32)) + (((((((((x0 - ((((x0).toUInt32 >>> (((1 : Int32)).toUInt32 &&& Int32.toUInt32 31)).toInt32) &&& (1431655765 : Int32))) &&& (858993459 : Int32)) + (((((x0 - ((((x0).toUInt32 >>> (((1 : Int32)).toUInt32 &&& Int32.toUInt32 31)).toInt32) &&& (1431655765 : Int32)))).toUInt32 >>> (((2 : Int32)).toUInt32 &&& Int32.toUInt32 31)).toInt32) &&& (858993459 : Int32))) + ((((((x0 - ((((x0).toUInt32 >>> (((1 : Int32)).toUInt32 &&& Int32.toUInt32 31)).toInt32) &&& (1431655765 : Int32))) &&& (858993459 : Int32)) + (((((x0 - ((((x0).toUInt32 >>> (((1 : Int32)).toUInt32 &&& Int32.toUInt32 31)).toInt32) &&& (1431655765 : Int32)))).toUInt32 >>> (((2 : Int32)).toUInt32 &&& Int32.toUInt32 31)).toInt32) &&& (858993459 : Int32)))).toUInt32 >>> (((4 : Int32)).toUInt32 &&& Int32.toUInt32 31)).toInt32)) &&& (252645135 : Int32)) + ((((((((x0 - ((((x0).toUInt32 >>> (((1 : Int32)).toUInt32 &&& Int32.toUInt32 31)).toInt32) &&& (1431655765 : Int32))) &&& (858993459 : Int32)) + (((((x0 - ((((x0).toUInt32 >>> (((1 : Int32)).toUInt32 &&& Int32.toUInt32 31)).toInt32) &&& (1431655765 : Int32)))).toUInt32 >>> (((2 : Int32)).toUInt32 &&& Int32.toUInt32 31)).toInt32) &&& (858993459 : Int32))) + ((((((x0 - ((((x0).toUInt32 >>> (((1 : Int32)).toUInt32 &&& Int32.toUInt32 31)).toInt32) &&& (1431655765 : Int32))) &&& (858993459 : Int32)) + (((((x0 - ((((x0).toUInt32 >>> (((1 : Int32)).toUInt32 &&& Int32.toUInt32 31)).toInt32) &&& (1431655765 : Int32)))).toUInt32 >>> (((2 : Int32)).toUInt32 &&& Int32.toUInt32 31)).toInt32) &&& (858993459 : Int32)))).toUInt32 >>> (((4 : Int32)).toUInt32 &&& Int32.toUInt32 31)).toInt32)) &&& (252645135 : Int32))).toUInt32 >>> (((8 : Int32)).toUInt32 &&& Int32.toUInt32 31)).toInt32))).toUInt32 >>> (((16 : Int32)).toUInt32 &&& Int32.toUInt32 31)).toInt32)) &&& (63 : Int32))], h)) rfl).trans ?_
  all_goals exact ((am_Y_ret rfl rfl rfl).trans (am_r0))

theorem b_J0_coder_7d493_s0_0 {d : Nat} {Q : Option am_V → am_H → Prop} (h : am_H) (l0 : Option am_V) : ex_ d 84 0 [l0] [] h Q ↔ if (1 : Int32) = 0 then ex_ d 84 13 [l0] [] h Q else ex_ d 84 6 [l0] [] h Q := by
  unfold ex_
  refine (am_Y_go 2 (ok := []) (g := (if (1 : Int32) = 0 then 13 else 6, [l0], [], h)) rfl).trans ?_
  all_goals exact am_Y_if

theorem b_J0_coder_7d493_s0_13 {d : Nat} {Q : Option am_V → am_H → Prop} (h : am_H) (l0 : Option am_V) : ex_ d 84 13 [l0] [] h Q ↔ am_fit 2 (1 : Int32) ∧ Q (some (v_i (1 : Int32))) h := by
  unfold ex_
  refine (am_Y_go 1 (ok := []) (g := (14, [l0], [v_i (1 : Int32)], h)) rfl).trans ?_
  all_goals exact ((am_Y_ret rfl rfl rfl).trans (Iff.rfl))

theorem b_J0_coder_7d493_s0_6 {d : Nat} {Q : Option am_V → am_H → Prop} (h : am_H) : ex_ d 84 6 [some (v_x 0)] [] h Q ↔ am_fit 2 (0 : Int32) ∧ Q (some (v_i (0 : Int32))) h := by
  unfold ex_
  refine (am_Y_go 3 (ok := []) (g := (14, [some (v_x 0)], [v_i (0 : Int32)], h)) rfl).trans ?_
  all_goals exact ((am_Y_ret rfl rfl rfl).trans (Iff.rfl))

theorem b_J0_coder_7d493_s1_0 {d : Nat} {Q : Option am_V → am_H → Prop} (h : am_H) (l0 : Option am_V) : ex_ d 84 0 [l0] [] h Q ↔ if (1 : Int32) = 0 then ex_ d 84 13 [l0] [] h Q else ex_ d 84 6 [l0] [] h Q := by
  unfold ex_
  refine (am_Y_go 2 (ok := []) (g := (if (1 : Int32) = 0 then 13 else 6, [l0], [], h)) rfl).trans ?_
  all_goals exact am_Y_if

theorem b_J0_coder_7d493_s1_13 {d : Nat} {Q : Option am_V → am_H → Prop} (h : am_H) (l0 : Option am_V) : ex_ d 84 13 [l0] [] h Q ↔ am_fit 2 (1 : Int32) ∧ Q (some (v_i (1 : Int32))) h := by
  unfold ex_
  refine (am_Y_go 1 (ok := []) (g := (14, [l0], [v_i (1 : Int32)], h)) rfl).trans ?_
  all_goals exact ((am_Y_ret rfl rfl rfl).trans (Iff.rfl))

theorem b_J0_coder_7d493_s1_6 {d : Nat} {Q : Option am_V → am_H → Prop} (h : am_H) : ex_ d 84 6 [some (v_x 1)] [] h Q ↔ am_fit 2 (0 : Int32) ∧ Q (some (v_i (0 : Int32))) h := by
  unfold ex_
  refine (am_Y_go 3 (ok := []) (g := (14, [some (v_x 1)], [v_i (0 : Int32)], h)) rfl).trans ?_
  all_goals exact ((am_Y_ret rfl rfl rfl).trans (Iff.rfl))

theorem b_J0_coder_7d493_s2_0 {d : Nat} {Q : Option am_V → am_H → Prop} (h : am_H) (l0 : Option am_V) : ex_ d 84 0 [l0] [] h Q ↔ if (1 : Int32) = 0 then ex_ d 84 13 [l0] [] h Q else ex_ d 84 6 [l0] [] h Q := by
  unfold ex_
  refine (am_Y_go 2 (ok := []) (g := (if (1 : Int32) = 0 then 13 else 6, [l0], [], h)) rfl).trans ?_
  all_goals exact am_Y_if

theorem b_J0_coder_7d493_s2_13 {d : Nat} {Q : Option am_V → am_H → Prop} (h : am_H) (l0 : Option am_V) : ex_ d 84 13 [l0] [] h Q ↔ am_fit 2 (1 : Int32) ∧ Q (some (v_i (1 : Int32))) h := by
  unfold ex_
  refine (am_Y_go 1 (ok := []) (g := (14, [l0], [v_i (1 : Int32)], h)) rfl).trans ?_
  all_goals exact ((am_Y_ret rfl rfl rfl).trans (Iff.rfl))

theorem b_J0_coder_7d493_s2_6 {d : Nat} {Q : Option am_V → am_H → Prop} (h : am_H) : ex_ d 84 6 [some (v_x 2)] [] h Q ↔ am_fit 2 (0 : Int32) ∧ Q (some (v_i (0 : Int32))) h := by
  unfold ex_
  refine (am_Y_go 3 (ok := []) (g := (14, [some (v_x 2)], [v_i (0 : Int32)], h)) rfl).trans ?_
  all_goals exact ((am_Y_ret rfl rfl rfl).trans (Iff.rfl))

theorem b_J0_length_8abf5_s0_0 {d : Nat} {Q : Option am_V → am_H → Prop} (h : am_H) : ex_ (d + 1) 85 0 [some (v_x 0)] [] h Q ↔ ex_ d 84 0 [some (v_x 0)] [] h (fun r h' => ex_ (d + 1) 85 9 [some (v_x 0)] (r.toList ++ [v_i (nI (am_byt.getD 0 []).length)]) h' Q) := by
  unfold ex_
  refine (am_Y_go 4 (ok := []) (g := (6, [some (v_x 0)], [v_x 0, v_i (nI (am_byt.getD 0 []).length)], h)) rfl).trans ?_
  all_goals exact ((am_Y_call (j := 84) (na := 1) (ci := 50) (fl := 0) rfl rfl rfl).trans (cj_d ⟨⟨Nat.le_of_ble_eq_true rfl, Nat.le_of_ble_eq_true rfl, Nat.le_of_ble_eq_true rfl, rfl⟩, Or.inr (Or.inr (show (50 : Nat) = 50 ∧ (0 : Nat) < 3 from ⟨rfl, by decide⟩))⟩ Iff.rfl))

theorem b_J0_length_8abf5_s0_9 {d : Nat} {Q : Option am_V → am_H → Prop} (h : am_H) (s0 : Int32) (s1 : Int32) (l0 : Option am_V) : ex_ d 85 9 [l0] [v_i s0, v_i s1] h Q ↔ Q (some (v_i (s1 >>> (s0 &&& 31)))) h := by
  unfold ex_
  refine (am_Y_go 1 (ok := []) (g := (10, [l0], [v_i (s1 >>> (s0 &&& 31))], h)) rfl).trans ?_
  all_goals exact ((am_Y_ret rfl rfl rfl).trans (am_r0))

theorem b_J0_length_8abf5_s1_0 {d : Nat} {Q : Option am_V → am_H → Prop} (h : am_H) : ex_ (d + 1) 85 0 [some (v_x 1)] [] h Q ↔ ex_ d 84 0 [some (v_x 1)] [] h (fun r h' => ex_ (d + 1) 85 9 [some (v_x 1)] (r.toList ++ [v_i (nI (am_byt.getD 1 []).length)]) h' Q) := by
  unfold ex_
  refine (am_Y_go 4 (ok := []) (g := (6, [some (v_x 1)], [v_x 1, v_i (nI (am_byt.getD 1 []).length)], h)) rfl).trans ?_
  all_goals exact ((am_Y_call (j := 84) (na := 1) (ci := 50) (fl := 0) rfl rfl rfl).trans (cj_d ⟨⟨Nat.le_of_ble_eq_true rfl, Nat.le_of_ble_eq_true rfl, Nat.le_of_ble_eq_true rfl, rfl⟩, Or.inr (Or.inr (show (50 : Nat) = 50 ∧ (1 : Nat) < 3 from ⟨rfl, by decide⟩))⟩ Iff.rfl))

theorem b_J0_length_8abf5_s1_9 {d : Nat} {Q : Option am_V → am_H → Prop} (h : am_H) (s0 : Int32) (s1 : Int32) (l0 : Option am_V) : ex_ d 85 9 [l0] [v_i s0, v_i s1] h Q ↔ Q (some (v_i (s1 >>> (s0 &&& 31)))) h := by
  unfold ex_
  refine (am_Y_go 1 (ok := []) (g := (10, [l0], [v_i (s1 >>> (s0 &&& 31))], h)) rfl).trans ?_
  all_goals exact ((am_Y_ret rfl rfl rfl).trans (am_r0))

theorem b_J0_length_8abf5_s2_0 {d : Nat} {Q : Option am_V → am_H → Prop} (h : am_H) : ex_ (d + 1) 85 0 [some (v_x 2)] [] h Q ↔ ex_ d 84 0 [some (v_x 2)] [] h (fun r h' => ex_ (d + 1) 85 9 [some (v_x 2)] (r.toList ++ [v_i (nI (am_byt.getD 2 []).length)]) h' Q) := by
  unfold ex_
  refine (am_Y_go 4 (ok := []) (g := (6, [some (v_x 2)], [v_x 2, v_i (nI (am_byt.getD 2 []).length)], h)) rfl).trans ?_
  all_goals exact ((am_Y_call (j := 84) (na := 1) (ci := 50) (fl := 0) rfl rfl rfl).trans (cj_d ⟨⟨Nat.le_of_ble_eq_true rfl, Nat.le_of_ble_eq_true rfl, Nat.le_of_ble_eq_true rfl, rfl⟩, Or.inr (Or.inr (show (50 : Nat) = 50 ∧ (2 : Nat) < 3 from ⟨rfl, by decide⟩))⟩ Iff.rfl))

theorem b_J0_length_8abf5_s2_9 {d : Nat} {Q : Option am_V → am_H → Prop} (h : am_H) (s0 : Int32) (s1 : Int32) (l0 : Option am_V) : ex_ d 85 9 [l0] [v_i s0, v_i s1] h Q ↔ Q (some (v_i (s1 >>> (s0 &&& 31)))) h := by
  unfold ex_
  refine (am_Y_go 1 (ok := []) (g := (10, [l0], [v_i (s1 >>> (s0 &&& 31))], h)) rfl).trans ?_
  all_goals exact ((am_Y_ret rfl rfl rfl).trans (am_r0))

theorem b_J0_isLatin1_aae02_s0_0 {d : Nat} {Q : Option am_V → am_H → Prop} (h : am_H) (l0 : Option am_V) : ex_ d 86 0 [l0] [] h Q ↔ if (1 : Int32) = 0 then ex_ d 86 17 [l0] [] h Q else ex_ d 86 6 [l0] [] h Q := by
  unfold ex_
  refine (am_Y_go 2 (ok := []) (g := (if (1 : Int32) = 0 then 17 else 6, [l0], [], h)) rfl).trans ?_
  all_goals exact am_Y_if

theorem b_J0_isLatin1_aae02_s0_17 {d : Nat} {Q : Option am_V → am_H → Prop} (h : am_H) (l0 : Option am_V) : ex_ d 86 17 [l0] [] h Q ↔ Q (some (v_i (0 : Int32))) h := by
  unfold ex_
  refine (am_Y_go 1 (ok := []) (g := (18, [l0], [v_i (0 : Int32)], h)) rfl).trans ?_
  all_goals exact ((am_Y_ret rfl rfl rfl).trans (am_rz (show am_fit 1 0 from Or.inl rfl)))

theorem b_J0_isLatin1_aae02_s0_6 {d : Nat} {Q : Option am_V → am_H → Prop} (h : am_H) : ex_ d 86 6 [some (v_x 0)] [] h Q ↔ if ¬ (0 : Int32) = 0 then ex_ d 86 17 [some (v_x 0)] [] h Q else ex_ d 86 13 [some (v_x 0)] [] h Q := by
  unfold ex_
  refine (am_Y_go 3 (ok := []) (g := (if ¬ (0 : Int32) = 0 then 17 else 13, [some (v_x 0)], [], h)) rfl).trans ?_
  all_goals exact am_Y_if

theorem b_J0_isLatin1_aae02_s0_13 {d : Nat} {Q : Option am_V → am_H → Prop} (h : am_H) (l0 : Option am_V) : ex_ d 86 13 [l0] [] h Q ↔ Q (some (v_i (1 : Int32))) h := by
  unfold ex_
  refine (am_Y_go 2 (ok := []) (g := (18, [l0], [v_i (1 : Int32)], h)) rfl).trans ?_
  all_goals exact ((am_Y_ret rfl rfl rfl).trans (am_rz (show am_fit 1 1 from Or.inr rfl)))

theorem b_J0_isLatin1_aae02_s1_0 {d : Nat} {Q : Option am_V → am_H → Prop} (h : am_H) (l0 : Option am_V) : ex_ d 86 0 [l0] [] h Q ↔ if (1 : Int32) = 0 then ex_ d 86 17 [l0] [] h Q else ex_ d 86 6 [l0] [] h Q := by
  unfold ex_
  refine (am_Y_go 2 (ok := []) (g := (if (1 : Int32) = 0 then 17 else 6, [l0], [], h)) rfl).trans ?_
  all_goals exact am_Y_if

theorem b_J0_isLatin1_aae02_s1_17 {d : Nat} {Q : Option am_V → am_H → Prop} (h : am_H) (l0 : Option am_V) : ex_ d 86 17 [l0] [] h Q ↔ Q (some (v_i (0 : Int32))) h := by
  unfold ex_
  refine (am_Y_go 1 (ok := []) (g := (18, [l0], [v_i (0 : Int32)], h)) rfl).trans ?_
  all_goals exact ((am_Y_ret rfl rfl rfl).trans (am_rz (show am_fit 1 0 from Or.inl rfl)))

theorem b_J0_isLatin1_aae02_s1_6 {d : Nat} {Q : Option am_V → am_H → Prop} (h : am_H) : ex_ d 86 6 [some (v_x 1)] [] h Q ↔ if ¬ (0 : Int32) = 0 then ex_ d 86 17 [some (v_x 1)] [] h Q else ex_ d 86 13 [some (v_x 1)] [] h Q := by
  unfold ex_
  refine (am_Y_go 3 (ok := []) (g := (if ¬ (0 : Int32) = 0 then 17 else 13, [some (v_x 1)], [], h)) rfl).trans ?_
  all_goals exact am_Y_if

theorem b_J0_isLatin1_aae02_s1_13 {d : Nat} {Q : Option am_V → am_H → Prop} (h : am_H) (l0 : Option am_V) : ex_ d 86 13 [l0] [] h Q ↔ Q (some (v_i (1 : Int32))) h := by
  unfold ex_
  refine (am_Y_go 2 (ok := []) (g := (18, [l0], [v_i (1 : Int32)], h)) rfl).trans ?_
  all_goals exact ((am_Y_ret rfl rfl rfl).trans (am_rz (show am_fit 1 1 from Or.inr rfl)))

theorem b_J0_isLatin1_aae02_s2_0 {d : Nat} {Q : Option am_V → am_H → Prop} (h : am_H) (l0 : Option am_V) : ex_ d 86 0 [l0] [] h Q ↔ if (1 : Int32) = 0 then ex_ d 86 17 [l0] [] h Q else ex_ d 86 6 [l0] [] h Q := by
  unfold ex_
  refine (am_Y_go 2 (ok := []) (g := (if (1 : Int32) = 0 then 17 else 6, [l0], [], h)) rfl).trans ?_
  all_goals exact am_Y_if

theorem b_J0_isLatin1_aae02_s2_17 {d : Nat} {Q : Option am_V → am_H → Prop} (h : am_H) (l0 : Option am_V) : ex_ d 86 17 [l0] [] h Q ↔ Q (some (v_i (0 : Int32))) h := by
  unfold ex_
  refine (am_Y_go 1 (ok := []) (g := (18, [l0], [v_i (0 : Int32)], h)) rfl).trans ?_
  all_goals exact ((am_Y_ret rfl rfl rfl).trans (am_rz (show am_fit 1 0 from Or.inl rfl)))

theorem b_J0_isLatin1_aae02_s2_6 {d : Nat} {Q : Option am_V → am_H → Prop} (h : am_H) : ex_ d 86 6 [some (v_x 2)] [] h Q ↔ if ¬ (0 : Int32) = 0 then ex_ d 86 17 [some (v_x 2)] [] h Q else ex_ d 86 13 [some (v_x 2)] [] h Q := by
  unfold ex_
  refine (am_Y_go 3 (ok := []) (g := (if ¬ (0 : Int32) = 0 then 17 else 13, [some (v_x 2)], [], h)) rfl).trans ?_
  all_goals exact am_Y_if

theorem b_J0_isLatin1_aae02_s2_13 {d : Nat} {Q : Option am_V → am_H → Prop} (h : am_H) (l0 : Option am_V) : ex_ d 86 13 [l0] [] h Q ↔ Q (some (v_i (1 : Int32))) h := by
  unfold ex_
  refine (am_Y_go 2 (ok := []) (g := (18, [l0], [v_i (1 : Int32)], h)) rfl).trans ?_
  all_goals exact ((am_Y_ret rfl rfl rfl).trans (am_rz (show am_fit 1 1 from Or.inr rfl)))

theorem b_J3_checkIndex_8e157_0 {d : Nat} {Q : Option am_V → am_H → Prop} (h : am_H) (x0 : Int32) (l1 l2 : Option am_V) : ex_ d 87 0 [some (v_i x0), l1, l2] [] h Q ↔ if x0 < 0 then ex_ d 87 9 [some (v_i x0), l1, l2] [] h Q else ex_ d 87 4 [some (v_i x0), l1, l2] [] h Q := by
  unfold ex_
  refine (am_Y_go 2 (ok := []) (g := (if x0 < 0 then 9 else 4, [some (v_i x0), l1, l2], [], h)) rfl).trans ?_
  all_goals exact am_Y_if

theorem b_J3_checkIndex_8e157_9 {d : Nat} {Q : Option am_V → am_H → Prop} (h : am_H) (x2 : Option Nat) (x0 : Int32) (x1 : Int32) : ex_ d 87 9 [some (v_i x0), some (v_i x1), some (v_r x2)] [] h Q ↔ ex_ d 87 12 [some (v_i x0), some (v_i x1), some (v_r x2)] [v_i x1, v_i x0, v_r x2] h Q := by
  unfold ex_
  refine (am_Y_go 3 (ok := []) (g := (12, [some (v_i x0), some (v_i x1), some (v_r x2)], [v_i x1, v_i x0, v_r x2], h)) rfl).trans ?_
  all_goals exact Iff.rfl

theorem b_J3_checkIndex_8e157_4 {d : Nat} {Q : Option am_V → am_H → Prop} (h : am_H) (x0 : Int32) (x1 : Int32) (l2 : Option am_V) : ex_ d 87 4 [some (v_i x0), some (v_i x1), l2] [] h Q ↔ if x0 < x1 then ex_ d 87 16 [some (v_i x0), some (v_i x1), l2] [] h Q else ex_ d 87 9 [some (v_i x0), some (v_i x1), l2] [] h Q := by
  unfold ex_
  refine (am_Y_go 3 (ok := []) (g := (if x0 < x1 then 16 else 9, [some (v_i x0), some (v_i x1), l2], [], h)) rfl).trans ?_
  all_goals exact am_Y_if

theorem b_J3_checkIndex_8e157_12 {d : Nat} {Q : Option am_V → am_H → Prop} (h : am_H) (s0 : Int32) (s1 : Int32) (s2 : Option Nat) (l0 l1 l2 : Option am_V) : ex_ d 87 12 [l0, l1, l2] [v_i s0, v_i s1, v_r s2] h Q ↔ ex_ d 87 12 [l0, l1, l2] [v_i s0, v_i s1, v_r s2] h Q := by
  unfold ex_
  refine (am_Y_go 0 (ok := []) (g := (12, [l0, l1, l2], [v_i s0, v_i s1, v_r s2], h)) rfl).trans ?_
  all_goals exact Iff.rfl

theorem b_J3_checkIndex_8e157_16 {d : Nat} {Q : Option am_V → am_H → Prop} (h : am_H) (x0 : Int32) (l1 l2 : Option am_V) : ex_ d 87 16 [some (v_i x0), l1, l2] [] h Q ↔ Q (some (v_i x0)) h := by
  unfold ex_
  refine (am_Y_go 1 (ok := []) (g := (17, [some (v_i x0), l1, l2], [v_i x0], h)) rfl).trans ?_
  all_goals exact ((am_Y_ret rfl rfl rfl).trans (am_r0))

theorem b_J0_checkIndex_df160_0 {d : Nat} {Q : Option am_V → am_H → Prop} (h : am_H) (x0 : Int32) (x1 : Int32) : ex_ (d + 1) 88 0 [some (v_i x0), some (v_i x1)] [] h Q ↔ ex_ d 87 0 [some (v_i x0), some (v_i x1), some (v_x 30)] [] h (fun r h' => ex_ (d + 1) 88 8 [some (v_i x0), some (v_i x1)] (r.toList ++ []) h' Q) := by
  unfold ex_
  refine (am_Y_go 3 (ok := []) (g := (5, [some (v_i x0), some (v_i x1)], [v_x 30, v_i x1, v_i x0], h)) rfl).trans ?_
  all_goals exact ((am_Y_call (j := 87) (na := 3) (ci := 0) (fl := 2) rfl rfl rfl).trans (cj_d ⟨⟨Nat.le_of_ble_eq_true rfl, Nat.le_of_ble_eq_true rfl, Nat.le_of_ble_eq_true rfl, rfl⟩, Or.inl rfl⟩ Iff.rfl))

theorem b_J0_checkIndex_df160_8 {d : Nat} {Q : Option am_V → am_H → Prop} (h : am_H) (s0 : Int32) (l0 l1 : Option am_V) : ex_ d 88 8 [l0, l1] [v_i s0] h Q ↔ Q (none) h := by
  unfold ex_
  refine (am_Y_go 1 (ok := []) (g := (9, [l0, l1], [], h)) rfl).trans ?_
  all_goals exact ((am_Y_ret rfl rfl rfl).trans (am_rz rfl))

theorem b_J1_charAt_3b067_s0_0 {d : Nat} {Q : Option am_V → am_H → Prop} (h : am_H) (x1 : Int32) : ex_ (d + 1) 89 0 [some (v_x 10), some (v_i x1)] [] h Q ↔ ex_ d 88 0 [some (v_i x1), some (v_i (nI (am_byt.getD 0 []).length))] [] h (fun r h' => ex_ (d + 1) 89 6 [some (v_x 10), some (v_i x1)] (r.toList ++ []) h' Q) := by
  unfold ex_
  refine (am_Y_go 3 (ok := []) (g := (3, [some (v_x 10), some (v_i x1)], [v_i (nI (am_byt.getD 0 []).length), v_i x1], h)) rfl).trans ?_
  all_goals exact ((am_Y_call (j := 88) (na := 2) (ci := 50) (fl := 2) rfl rfl rfl).trans (cj_d ⟨⟨Nat.le_of_ble_eq_true rfl, Nat.le_of_ble_eq_true rfl, Nat.le_of_ble_eq_true rfl, rfl⟩, Or.inl rfl⟩ Iff.rfl))

theorem b_J1_charAt_3b067_s0_6 {d : Nat} {Q : Option am_V → am_H → Prop} (h : am_H) (x1 : Int32) : ex_ d 89 6 [some (v_x 10), some (v_i x1)] [] h Q ↔ vp_in x1 (am_byt.getD 0 []).length ∧ (am_fit 3 (UInt32.toInt32 (Int32.toUInt32 (((am_byt.getD 0 []).getD (Int32.toNatClampNeg x1) 0) &&& (255 : Int32)) % 65536)) ∧ Q (some (v_i (UInt32.toInt32 (Int32.toUInt32 (((am_byt.getD 0 []).getD (Int32.toNatClampNeg x1) 0) &&& (255 : Int32)) % 65536)))) h) := by
  unfold ex_
  refine (am_Y_go 6 (ok := [vp_in x1 (am_byt.getD 0 []).length]) (g := (14, [some (v_x 10), some (v_i x1)], [v_i (UInt32.toInt32 (Int32.toUInt32 (((am_byt.getD 0 []).getD (Int32.toNatClampNeg x1) 0) &&& (255 : Int32)) % 65536))], h)) rfl).trans ?_
  simp only [am_all]
  all_goals exact cj_k Iff.rfl (((am_Y_ret rfl rfl rfl).trans (Iff.rfl)))

theorem b_J1_charAt_3b067_s1_0 {d : Nat} {Q : Option am_V → am_H → Prop} (h : am_H) (x1 : Int32) : ex_ (d + 1) 89 0 [some (v_x 11), some (v_i x1)] [] h Q ↔ ex_ d 88 0 [some (v_i x1), some (v_i (nI (am_byt.getD 1 []).length))] [] h (fun r h' => ex_ (d + 1) 89 6 [some (v_x 11), some (v_i x1)] (r.toList ++ []) h' Q) := by
  unfold ex_
  refine (am_Y_go 3 (ok := []) (g := (3, [some (v_x 11), some (v_i x1)], [v_i (nI (am_byt.getD 1 []).length), v_i x1], h)) rfl).trans ?_
  all_goals exact ((am_Y_call (j := 88) (na := 2) (ci := 50) (fl := 2) rfl rfl rfl).trans (cj_d ⟨⟨Nat.le_of_ble_eq_true rfl, Nat.le_of_ble_eq_true rfl, Nat.le_of_ble_eq_true rfl, rfl⟩, Or.inl rfl⟩ Iff.rfl))

theorem b_J1_charAt_3b067_s1_6 {d : Nat} {Q : Option am_V → am_H → Prop} (h : am_H) (x1 : Int32) : ex_ d 89 6 [some (v_x 11), some (v_i x1)] [] h Q ↔ vp_in x1 (am_byt.getD 1 []).length ∧ (am_fit 3 (UInt32.toInt32 (Int32.toUInt32 (((am_byt.getD 1 []).getD (Int32.toNatClampNeg x1) 0) &&& (255 : Int32)) % 65536)) ∧ Q (some (v_i (UInt32.toInt32 (Int32.toUInt32 (((am_byt.getD 1 []).getD (Int32.toNatClampNeg x1) 0) &&& (255 : Int32)) % 65536)))) h) := by
  unfold ex_
  refine (am_Y_go 6 (ok := [vp_in x1 (am_byt.getD 1 []).length]) (g := (14, [some (v_x 11), some (v_i x1)], [v_i (UInt32.toInt32 (Int32.toUInt32 (((am_byt.getD 1 []).getD (Int32.toNatClampNeg x1) 0) &&& (255 : Int32)) % 65536))], h)) rfl).trans ?_
  simp only [am_all]
  all_goals exact cj_k Iff.rfl (((am_Y_ret rfl rfl rfl).trans (Iff.rfl)))

theorem b_J1_charAt_3b067_s2_0 {d : Nat} {Q : Option am_V → am_H → Prop} (h : am_H) (x1 : Int32) : ex_ (d + 1) 89 0 [some (v_x 12), some (v_i x1)] [] h Q ↔ ex_ d 88 0 [some (v_i x1), some (v_i (nI (am_byt.getD 2 []).length))] [] h (fun r h' => ex_ (d + 1) 89 6 [some (v_x 12), some (v_i x1)] (r.toList ++ []) h' Q) := by
  unfold ex_
  refine (am_Y_go 3 (ok := []) (g := (3, [some (v_x 12), some (v_i x1)], [v_i (nI (am_byt.getD 2 []).length), v_i x1], h)) rfl).trans ?_
  all_goals exact ((am_Y_call (j := 88) (na := 2) (ci := 50) (fl := 2) rfl rfl rfl).trans (cj_d ⟨⟨Nat.le_of_ble_eq_true rfl, Nat.le_of_ble_eq_true rfl, Nat.le_of_ble_eq_true rfl, rfl⟩, Or.inl rfl⟩ Iff.rfl))

theorem b_J1_charAt_3b067_s2_6 {d : Nat} {Q : Option am_V → am_H → Prop} (h : am_H) (x1 : Int32) : ex_ d 89 6 [some (v_x 12), some (v_i x1)] [] h Q ↔ vp_in x1 (am_byt.getD 2 []).length ∧ (am_fit 3 (UInt32.toInt32 (Int32.toUInt32 (((am_byt.getD 2 []).getD (Int32.toNatClampNeg x1) 0) &&& (255 : Int32)) % 65536)) ∧ Q (some (v_i (UInt32.toInt32 (Int32.toUInt32 (((am_byt.getD 2 []).getD (Int32.toNatClampNeg x1) 0) &&& (255 : Int32)) % 65536)))) h) := by
  unfold ex_
  refine (am_Y_go 6 (ok := [vp_in x1 (am_byt.getD 2 []).length]) (g := (14, [some (v_x 12), some (v_i x1)], [v_i (UInt32.toInt32 (Int32.toUInt32 (((am_byt.getD 2 []).getD (Int32.toNatClampNeg x1) 0) &&& (255 : Int32)) % 65536))], h)) rfl).trans ?_
  simp only [am_all]
  all_goals exact cj_k Iff.rfl (((am_Y_ret rfl rfl rfl).trans (Iff.rfl)))

theorem b_J0_charAt_5068e_s0_0 {d : Nat} {Q : Option am_V → am_H → Prop} (h : am_H) (l1 : Option am_V) : ex_ (d + 1) 94 0 [some (v_x 0), l1] [] h Q ↔ ex_ d 86 0 [some (v_x 0)] [] h (fun r h' => ex_ (d + 1) 94 4 [some (v_x 0), l1] (r.toList ++ []) h' Q) := by
  unfold ex_
  refine (am_Y_go 1 (ok := []) (g := (1, [some (v_x 0), l1], [v_x 0], h)) rfl).trans ?_
  all_goals exact ((am_Y_call (j := 86) (na := 1) (ci := 50) (fl := 0) rfl rfl rfl).trans (cj_d ⟨⟨Nat.le_of_ble_eq_true rfl, Nat.le_of_ble_eq_true rfl, Nat.le_of_ble_eq_true rfl, rfl⟩, Or.inr (Or.inr (show (50 : Nat) = 50 ∧ (0 : Nat) < 3 from ⟨rfl, by decide⟩))⟩ Iff.rfl))

theorem b_J0_charAt_5068e_s0_4 {d : Nat} {Q : Option am_V → am_H → Prop} (h : am_H) (s0 : Int32) (l0 l1 : Option am_V) : ex_ d 94 4 [l0, l1] [v_i s0] h Q ↔ if s0 = 0 then ex_ d 94 16 [l0, l1] [] h Q else ex_ d 94 7 [l0, l1] [] h Q := by
  unfold ex_
  refine (am_Y_go 1 (ok := []) (g := (if s0 = 0 then 16 else 7, [l0, l1], [], h)) rfl).trans ?_
  all_goals exact am_Y_if

theorem b_J0_charAt_5068e_s0_16 {d : Nat} {Q : Option am_V → am_H → Prop} (h : am_H) (x1 : Int32) : ex_ (d + 1) 94 16 [some (v_x 0), some (v_i x1)] [] h Q ↔ ex_ d 93 0 [some (v_x 10), some (v_i x1)] [] h (fun r h' => ex_ (d + 1) 94 24 [some (v_x 0), some (v_i x1)] (r.toList ++ []) h' Q) := by
  unfold ex_
  refine (am_Y_go 3 (ok := []) (g := (21, [some (v_x 0), some (v_i x1)], [v_i x1, v_x 10], h)) rfl).trans ?_
  all_goals exact ((am_Y_call (j := 93) (na := 2) (ci := 0) (fl := 2) rfl rfl rfl).trans (cj_d ⟨⟨Nat.le_of_ble_eq_true rfl, Nat.le_of_ble_eq_true rfl, Nat.le_of_ble_eq_true rfl, rfl⟩, Or.inl rfl⟩ Iff.rfl))

theorem b_J0_charAt_5068e_s0_7 {d : Nat} {Q : Option am_V → am_H → Prop} (h : am_H) (x1 : Int32) : ex_ (d + 1) 94 7 [some (v_x 0), some (v_i x1)] [] h Q ↔ ex_ d 89 0 [some (v_x 10), some (v_i x1)] [] h (fun r h' => ex_ (d + 1) 94 15 [some (v_x 0), some (v_i x1)] (r.toList ++ []) h' Q) := by
  unfold ex_
  refine (am_Y_go 3 (ok := []) (g := (12, [some (v_x 0), some (v_i x1)], [v_i x1, v_x 10], h)) rfl).trans ?_
  all_goals exact ((am_Y_call (j := 89) (na := 2) (ci := 0) (fl := 2) rfl rfl rfl).trans (cj_d ⟨⟨Nat.le_of_ble_eq_true rfl, Nat.le_of_ble_eq_true rfl, Nat.le_of_ble_eq_true rfl, rfl⟩, Or.inl rfl⟩ Iff.rfl))

theorem b_J0_charAt_5068e_s0_24 {d : Nat} {Q : Option am_V → am_H → Prop} (h : am_H) (s0 : Int32) (l0 l1 : Option am_V) : ex_ d 94 24 [l0, l1] [v_i s0] h Q ↔ am_fit 3 s0 ∧ Q (some (v_i s0)) h := by
  unfold ex_
  exact ((am_Y_ret rfl rfl rfl).trans (Iff.rfl))

theorem b_J0_charAt_5068e_s0_15 {d : Nat} {Q : Option am_V → am_H → Prop} (h : am_H) (s0 : Int32) (l0 l1 : Option am_V) : ex_ d 94 15 [l0, l1] [v_i s0] h Q ↔ am_fit 3 s0 ∧ Q (some (v_i s0)) h := by
  unfold ex_
  exact ((am_Y_ret rfl rfl rfl).trans (Iff.rfl))

theorem b_J0_charAt_5068e_s1_0 {d : Nat} {Q : Option am_V → am_H → Prop} (h : am_H) (l1 : Option am_V) : ex_ (d + 1) 94 0 [some (v_x 1), l1] [] h Q ↔ ex_ d 86 0 [some (v_x 1)] [] h (fun r h' => ex_ (d + 1) 94 4 [some (v_x 1), l1] (r.toList ++ []) h' Q) := by
  unfold ex_
  refine (am_Y_go 1 (ok := []) (g := (1, [some (v_x 1), l1], [v_x 1], h)) rfl).trans ?_
  all_goals exact ((am_Y_call (j := 86) (na := 1) (ci := 50) (fl := 0) rfl rfl rfl).trans (cj_d ⟨⟨Nat.le_of_ble_eq_true rfl, Nat.le_of_ble_eq_true rfl, Nat.le_of_ble_eq_true rfl, rfl⟩, Or.inr (Or.inr (show (50 : Nat) = 50 ∧ (1 : Nat) < 3 from ⟨rfl, by decide⟩))⟩ Iff.rfl))

theorem b_J0_charAt_5068e_s1_4 {d : Nat} {Q : Option am_V → am_H → Prop} (h : am_H) (s0 : Int32) (l0 l1 : Option am_V) : ex_ d 94 4 [l0, l1] [v_i s0] h Q ↔ if s0 = 0 then ex_ d 94 16 [l0, l1] [] h Q else ex_ d 94 7 [l0, l1] [] h Q := by
  unfold ex_
  refine (am_Y_go 1 (ok := []) (g := (if s0 = 0 then 16 else 7, [l0, l1], [], h)) rfl).trans ?_
  all_goals exact am_Y_if

theorem b_J0_charAt_5068e_s1_16 {d : Nat} {Q : Option am_V → am_H → Prop} (h : am_H) (x1 : Int32) : ex_ (d + 1) 94 16 [some (v_x 1), some (v_i x1)] [] h Q ↔ ex_ d 93 0 [some (v_x 11), some (v_i x1)] [] h (fun r h' => ex_ (d + 1) 94 24 [some (v_x 1), some (v_i x1)] (r.toList ++ []) h' Q) := by
  unfold ex_
  refine (am_Y_go 3 (ok := []) (g := (21, [some (v_x 1), some (v_i x1)], [v_i x1, v_x 11], h)) rfl).trans ?_
  all_goals exact ((am_Y_call (j := 93) (na := 2) (ci := 0) (fl := 2) rfl rfl rfl).trans (cj_d ⟨⟨Nat.le_of_ble_eq_true rfl, Nat.le_of_ble_eq_true rfl, Nat.le_of_ble_eq_true rfl, rfl⟩, Or.inl rfl⟩ Iff.rfl))

theorem b_J0_charAt_5068e_s1_7 {d : Nat} {Q : Option am_V → am_H → Prop} (h : am_H) (x1 : Int32) : ex_ (d + 1) 94 7 [some (v_x 1), some (v_i x1)] [] h Q ↔ ex_ d 89 0 [some (v_x 11), some (v_i x1)] [] h (fun r h' => ex_ (d + 1) 94 15 [some (v_x 1), some (v_i x1)] (r.toList ++ []) h' Q) := by
  unfold ex_
  refine (am_Y_go 3 (ok := []) (g := (12, [some (v_x 1), some (v_i x1)], [v_i x1, v_x 11], h)) rfl).trans ?_
  all_goals exact ((am_Y_call (j := 89) (na := 2) (ci := 0) (fl := 2) rfl rfl rfl).trans (cj_d ⟨⟨Nat.le_of_ble_eq_true rfl, Nat.le_of_ble_eq_true rfl, Nat.le_of_ble_eq_true rfl, rfl⟩, Or.inl rfl⟩ Iff.rfl))

theorem b_J0_charAt_5068e_s1_24 {d : Nat} {Q : Option am_V → am_H → Prop} (h : am_H) (s0 : Int32) (l0 l1 : Option am_V) : ex_ d 94 24 [l0, l1] [v_i s0] h Q ↔ am_fit 3 s0 ∧ Q (some (v_i s0)) h := by
  unfold ex_
  exact ((am_Y_ret rfl rfl rfl).trans (Iff.rfl))

theorem b_J0_charAt_5068e_s1_15 {d : Nat} {Q : Option am_V → am_H → Prop} (h : am_H) (s0 : Int32) (l0 l1 : Option am_V) : ex_ d 94 15 [l0, l1] [v_i s0] h Q ↔ am_fit 3 s0 ∧ Q (some (v_i s0)) h := by
  unfold ex_
  exact ((am_Y_ret rfl rfl rfl).trans (Iff.rfl))

theorem b_J0_charAt_5068e_s2_0 {d : Nat} {Q : Option am_V → am_H → Prop} (h : am_H) (l1 : Option am_V) : ex_ (d + 1) 94 0 [some (v_x 2), l1] [] h Q ↔ ex_ d 86 0 [some (v_x 2)] [] h (fun r h' => ex_ (d + 1) 94 4 [some (v_x 2), l1] (r.toList ++ []) h' Q) := by
  unfold ex_
  refine (am_Y_go 1 (ok := []) (g := (1, [some (v_x 2), l1], [v_x 2], h)) rfl).trans ?_
  all_goals exact ((am_Y_call (j := 86) (na := 1) (ci := 50) (fl := 0) rfl rfl rfl).trans (cj_d ⟨⟨Nat.le_of_ble_eq_true rfl, Nat.le_of_ble_eq_true rfl, Nat.le_of_ble_eq_true rfl, rfl⟩, Or.inr (Or.inr (show (50 : Nat) = 50 ∧ (2 : Nat) < 3 from ⟨rfl, by decide⟩))⟩ Iff.rfl))

theorem b_J0_charAt_5068e_s2_4 {d : Nat} {Q : Option am_V → am_H → Prop} (h : am_H) (s0 : Int32) (l0 l1 : Option am_V) : ex_ d 94 4 [l0, l1] [v_i s0] h Q ↔ if s0 = 0 then ex_ d 94 16 [l0, l1] [] h Q else ex_ d 94 7 [l0, l1] [] h Q := by
  unfold ex_
  refine (am_Y_go 1 (ok := []) (g := (if s0 = 0 then 16 else 7, [l0, l1], [], h)) rfl).trans ?_
  all_goals exact am_Y_if

theorem b_J0_charAt_5068e_s2_16 {d : Nat} {Q : Option am_V → am_H → Prop} (h : am_H) (x1 : Int32) : ex_ (d + 1) 94 16 [some (v_x 2), some (v_i x1)] [] h Q ↔ ex_ d 93 0 [some (v_x 12), some (v_i x1)] [] h (fun r h' => ex_ (d + 1) 94 24 [some (v_x 2), some (v_i x1)] (r.toList ++ []) h' Q) := by
  unfold ex_
  refine (am_Y_go 3 (ok := []) (g := (21, [some (v_x 2), some (v_i x1)], [v_i x1, v_x 12], h)) rfl).trans ?_
  all_goals exact ((am_Y_call (j := 93) (na := 2) (ci := 0) (fl := 2) rfl rfl rfl).trans (cj_d ⟨⟨Nat.le_of_ble_eq_true rfl, Nat.le_of_ble_eq_true rfl, Nat.le_of_ble_eq_true rfl, rfl⟩, Or.inl rfl⟩ Iff.rfl))

theorem b_J0_charAt_5068e_s2_7 {d : Nat} {Q : Option am_V → am_H → Prop} (h : am_H) (x1 : Int32) : ex_ (d + 1) 94 7 [some (v_x 2), some (v_i x1)] [] h Q ↔ ex_ d 89 0 [some (v_x 12), some (v_i x1)] [] h (fun r h' => ex_ (d + 1) 94 15 [some (v_x 2), some (v_i x1)] (r.toList ++ []) h' Q) := by
  unfold ex_
  refine (am_Y_go 3 (ok := []) (g := (12, [some (v_x 2), some (v_i x1)], [v_i x1, v_x 12], h)) rfl).trans ?_
  all_goals exact ((am_Y_call (j := 89) (na := 2) (ci := 0) (fl := 2) rfl rfl rfl).trans (cj_d ⟨⟨Nat.le_of_ble_eq_true rfl, Nat.le_of_ble_eq_true rfl, Nat.le_of_ble_eq_true rfl, rfl⟩, Or.inl rfl⟩ Iff.rfl))

theorem b_J0_charAt_5068e_s2_24 {d : Nat} {Q : Option am_V → am_H → Prop} (h : am_H) (s0 : Int32) (l0 l1 : Option am_V) : ex_ d 94 24 [l0, l1] [v_i s0] h Q ↔ am_fit 3 s0 ∧ Q (some (v_i s0)) h := by
  unfold ex_
  exact ((am_Y_ret rfl rfl rfl).trans (Iff.rfl))

theorem b_J0_charAt_5068e_s2_15 {d : Nat} {Q : Option am_V → am_H → Prop} (h : am_H) (s0 : Int32) (l0 l1 : Option am_V) : ex_ d 94 15 [l0, l1] [v_i s0] h Q ↔ am_fit 3 s0 ∧ Q (some (v_i s0)) h := by
  unfold ex_
  exact ((am_Y_ret rfl rfl rfl).trans (Iff.rfl))

theorem b_J1_canEncode_9a6ad_0 {d : Nat} {Q : Option am_V → am_H → Prop} (h : am_H) (x0 : Int32) : ex_ d 98 0 [some (v_i x0)] [] h Q ↔ if x0 < 0 then ex_ d 98 15 [some (v_i x0)] [] h Q else ex_ d 98 4 [some (v_i x0)] [] h Q := by
  unfold ex_
  refine (am_Y_go 2 (ok := []) (g := (if x0 < 0 then 15 else 4, [some (v_i x0)], [], h)) rfl).trans ?_
  all_goals exact am_Y_if

theorem b_J1_canEncode_9a6ad_15 {d : Nat} {Q : Option am_V → am_H → Prop} (h : am_H) (l0 : Option am_V) : ex_ d 98 15 [l0] [] h Q ↔ Q (some (v_i (0 : Int32))) h := by
  unfold ex_
  refine (am_Y_go 1 (ok := []) (g := (16, [l0], [v_i (0 : Int32)], h)) rfl).trans ?_
  all_goals exact ((am_Y_ret rfl rfl rfl).trans (am_rz (show am_fit 1 0 from Or.inl rfl)))

theorem b_J1_canEncode_9a6ad_4 {d : Nat} {Q : Option am_V → am_H → Prop} (h : am_H) (x0 : Int32) : ex_ d 98 4 [some (v_i x0)] [] h Q ↔ if (255 : Int32) < x0 then ex_ d 98 15 [some (v_i x0)] [] h Q else ex_ d 98 11 [some (v_i x0)] [] h Q := by
  unfold ex_
  refine (am_Y_go 3 (ok := []) (g := (if (255 : Int32) < x0 then 15 else 11, [some (v_i x0)], [], h)) rfl).trans ?_
  all_goals exact am_Y_if

theorem b_J1_canEncode_9a6ad_11 {d : Nat} {Q : Option am_V → am_H → Prop} (h : am_H) (l0 : Option am_V) : ex_ d 98 11 [l0] [] h Q ↔ Q (some (v_i (1 : Int32))) h := by
  unfold ex_
  refine (am_Y_go 2 (ok := []) (g := (16, [l0], [v_i (1 : Int32)], h)) rfl).trans ?_
  all_goals exact ((am_Y_ret rfl rfl rfl).trans (am_rz (show am_fit 1 1 from Or.inr rfl)))

theorem b_J1_indexOfChar_4cfef_s0_0 {d : Nat} {Q : Option am_V → am_H → Prop} (h : am_H) (x1 : Int32) (x2 : Int32) (l0 l3 l4 l5 : Option am_V) : ex_ d 99 0 [l0, some (v_i x1), some (v_i x2), l3, l4, l5] [] h Q ↔ ex_ d 99 7 [l0, some (v_i x1), some (v_i x2), l3, some (v_i (Int8.toInt32 (Int32.toInt8 x1))), some (v_i x2)] [] h Q := by
  unfold ex_
  refine (am_Y_go 5 (ok := []) (g := (7, [l0, some (v_i x1), some (v_i x2), l3, some (v_i (Int8.toInt32 (Int32.toInt8 x1))), some (v_i x2)], [], h)) rfl).trans ?_
  all_goals exact Iff.rfl

theorem b_J1_indexOfChar_4cfef_s0_7 {d : Nat} {Q : Option am_V → am_H → Prop} (h : am_H) (x5 : Int32) (x3 : Int32) (l0 l1 l2 l4 : Option am_V) : ex_ d 99 7 [l0, l1, l2, some (v_i x3), l4, some (v_i x5)] [] h Q ↔ if x3 ≤ x5 then ex_ d 99 31 [l0, l1, l2, some (v_i x3), l4, some (v_i x5)] [] h Q else ex_ d 99 13 [l0, l1, l2, some (v_i x3), l4, some (v_i x5)] [] h Q := by
  unfold ex_
  refine (am_Y_go 3 (ok := []) (g := (if x3 ≤ x5 then 31 else 13, [l0, l1, l2, some (v_i x3), l4, some (v_i x5)], [], h)) rfl).trans ?_
  all_goals exact am_Y_if

theorem b_J1_indexOfChar_4cfef_s0_31 {d : Nat} {Q : Option am_V → am_H → Prop} (h : am_H) (l0 l1 l2 l3 l4 l5 : Option am_V) : ex_ d 99 31 [l0, l1, l2, l3, l4, l5] [] h Q ↔ Q (some (v_i (-1 : Int32))) h := by
  unfold ex_
  refine (am_Y_go 1 (ok := []) (g := (32, [l0, l1, l2, l3, l4, l5], [v_i (-1 : Int32)], h)) rfl).trans ?_
  all_goals exact ((am_Y_ret rfl rfl rfl).trans (am_r0))

theorem b_J1_indexOfChar_4cfef_s0_13 {d : Nat} {Q : Option am_V → am_H → Prop} (h : am_H) (x5 : Int32) (x4 : Int32) (l1 l2 l3 : Option am_V) : ex_ d 99 13 [some (v_x 10), l1, l2, l3, some (v_i x4), some (v_i x5)] [] h Q ↔ vp_in x5 (am_byt.getD 0 []).length ∧ (if ¬ ((am_byt.getD 0 []).getD (Int32.toNatClampNeg x5) 0) = x4 then ex_ d 99 25 [some (v_x 10), l1, l2, l3, some (v_i x4), some (v_i x5)] [] h Q else ex_ d 99 22 [some (v_x 10), l1, l2, l3, some (v_i x4), some (v_i x5)] [] h Q) := by
  unfold ex_
  refine (am_Y_go 5 (ok := [vp_in x5 (am_byt.getD 0 []).length]) (g := (if ¬ ((am_byt.getD 0 []).getD (Int32.toNatClampNeg x5) 0) = x4 then 25 else 22, [some (v_x 10), l1, l2, l3, some (v_i x4), some (v_i x5)], [], h)) rfl).trans ?_
  simp only [am_all]
  all_goals exact cj_k Iff.rfl (am_Y_if)

theorem b_J1_indexOfChar_4cfef_s0_25 {d : Nat} {Q : Option am_V → am_H → Prop} (h : am_H) (x5 : Int32) (l0 l1 l2 l3 l4 : Option am_V) : ex_ d 99 25 [l0, l1, l2, l3, l4, some (v_i x5)] [] h Q ↔ ex_ d 99 7 [l0, l1, l2, l3, l4, some (v_i (x5 + (1 : Int32)))] [] h Q := by
  unfold ex_
  refine (am_Y_go 2 (ok := []) (g := (7, [l0, l1, l2, l3, l4, some (v_i (x5 + (1 : Int32)))], [], h)) rfl).trans ?_
  all_goals exact Iff.rfl

theorem b_J1_indexOfChar_4cfef_s0_22 {d : Nat} {Q : Option am_V → am_H → Prop} (h : am_H) (x5 : Int32) (l0 l1 l2 l3 l4 : Option am_V) : ex_ d 99 22 [l0, l1, l2, l3, l4, some (v_i x5)] [] h Q ↔ Q (some (v_i x5)) h := by
  unfold ex_
  refine (am_Y_go 1 (ok := []) (g := (24, [l0, l1, l2, l3, l4, some (v_i x5)], [v_i x5], h)) rfl).trans ?_
  all_goals exact ((am_Y_ret rfl rfl rfl).trans (am_r0))

theorem b_J1_indexOfChar_4cfef_s1_0 {d : Nat} {Q : Option am_V → am_H → Prop} (h : am_H) (x1 : Int32) (x2 : Int32) (l0 l3 l4 l5 : Option am_V) : ex_ d 99 0 [l0, some (v_i x1), some (v_i x2), l3, l4, l5] [] h Q ↔ ex_ d 99 7 [l0, some (v_i x1), some (v_i x2), l3, some (v_i (Int8.toInt32 (Int32.toInt8 x1))), some (v_i x2)] [] h Q := by
  unfold ex_
  refine (am_Y_go 5 (ok := []) (g := (7, [l0, some (v_i x1), some (v_i x2), l3, some (v_i (Int8.toInt32 (Int32.toInt8 x1))), some (v_i x2)], [], h)) rfl).trans ?_
  all_goals exact Iff.rfl

theorem b_J1_indexOfChar_4cfef_s1_7 {d : Nat} {Q : Option am_V → am_H → Prop} (h : am_H) (x5 : Int32) (x3 : Int32) (l0 l1 l2 l4 : Option am_V) : ex_ d 99 7 [l0, l1, l2, some (v_i x3), l4, some (v_i x5)] [] h Q ↔ if x3 ≤ x5 then ex_ d 99 31 [l0, l1, l2, some (v_i x3), l4, some (v_i x5)] [] h Q else ex_ d 99 13 [l0, l1, l2, some (v_i x3), l4, some (v_i x5)] [] h Q := by
  unfold ex_
  refine (am_Y_go 3 (ok := []) (g := (if x3 ≤ x5 then 31 else 13, [l0, l1, l2, some (v_i x3), l4, some (v_i x5)], [], h)) rfl).trans ?_
  all_goals exact am_Y_if

theorem b_J1_indexOfChar_4cfef_s1_31 {d : Nat} {Q : Option am_V → am_H → Prop} (h : am_H) (l0 l1 l2 l3 l4 l5 : Option am_V) : ex_ d 99 31 [l0, l1, l2, l3, l4, l5] [] h Q ↔ Q (some (v_i (-1 : Int32))) h := by
  unfold ex_
  refine (am_Y_go 1 (ok := []) (g := (32, [l0, l1, l2, l3, l4, l5], [v_i (-1 : Int32)], h)) rfl).trans ?_
  all_goals exact ((am_Y_ret rfl rfl rfl).trans (am_r0))

theorem b_J1_indexOfChar_4cfef_s1_13 {d : Nat} {Q : Option am_V → am_H → Prop} (h : am_H) (x5 : Int32) (x4 : Int32) (l1 l2 l3 : Option am_V) : ex_ d 99 13 [some (v_x 11), l1, l2, l3, some (v_i x4), some (v_i x5)] [] h Q ↔ vp_in x5 (am_byt.getD 1 []).length ∧ (if ¬ ((am_byt.getD 1 []).getD (Int32.toNatClampNeg x5) 0) = x4 then ex_ d 99 25 [some (v_x 11), l1, l2, l3, some (v_i x4), some (v_i x5)] [] h Q else ex_ d 99 22 [some (v_x 11), l1, l2, l3, some (v_i x4), some (v_i x5)] [] h Q) := by
  unfold ex_
  refine (am_Y_go 5 (ok := [vp_in x5 (am_byt.getD 1 []).length]) (g := (if ¬ ((am_byt.getD 1 []).getD (Int32.toNatClampNeg x5) 0) = x4 then 25 else 22, [some (v_x 11), l1, l2, l3, some (v_i x4), some (v_i x5)], [], h)) rfl).trans ?_
  simp only [am_all]
  all_goals exact cj_k Iff.rfl (am_Y_if)

theorem b_J1_indexOfChar_4cfef_s1_25 {d : Nat} {Q : Option am_V → am_H → Prop} (h : am_H) (x5 : Int32) (l0 l1 l2 l3 l4 : Option am_V) : ex_ d 99 25 [l0, l1, l2, l3, l4, some (v_i x5)] [] h Q ↔ ex_ d 99 7 [l0, l1, l2, l3, l4, some (v_i (x5 + (1 : Int32)))] [] h Q := by
  unfold ex_
  refine (am_Y_go 2 (ok := []) (g := (7, [l0, l1, l2, l3, l4, some (v_i (x5 + (1 : Int32)))], [], h)) rfl).trans ?_
  all_goals exact Iff.rfl

theorem b_J1_indexOfChar_4cfef_s1_22 {d : Nat} {Q : Option am_V → am_H → Prop} (h : am_H) (x5 : Int32) (l0 l1 l2 l3 l4 : Option am_V) : ex_ d 99 22 [l0, l1, l2, l3, l4, some (v_i x5)] [] h Q ↔ Q (some (v_i x5)) h := by
  unfold ex_
  refine (am_Y_go 1 (ok := []) (g := (24, [l0, l1, l2, l3, l4, some (v_i x5)], [v_i x5], h)) rfl).trans ?_
  all_goals exact ((am_Y_ret rfl rfl rfl).trans (am_r0))

theorem b_J1_indexOfChar_4cfef_s2_0 {d : Nat} {Q : Option am_V → am_H → Prop} (h : am_H) (x1 : Int32) (x2 : Int32) (l0 l3 l4 l5 : Option am_V) : ex_ d 99 0 [l0, some (v_i x1), some (v_i x2), l3, l4, l5] [] h Q ↔ ex_ d 99 7 [l0, some (v_i x1), some (v_i x2), l3, some (v_i (Int8.toInt32 (Int32.toInt8 x1))), some (v_i x2)] [] h Q := by
  unfold ex_
  refine (am_Y_go 5 (ok := []) (g := (7, [l0, some (v_i x1), some (v_i x2), l3, some (v_i (Int8.toInt32 (Int32.toInt8 x1))), some (v_i x2)], [], h)) rfl).trans ?_
  all_goals exact Iff.rfl

theorem b_J1_indexOfChar_4cfef_s2_7 {d : Nat} {Q : Option am_V → am_H → Prop} (h : am_H) (x5 : Int32) (x3 : Int32) (l0 l1 l2 l4 : Option am_V) : ex_ d 99 7 [l0, l1, l2, some (v_i x3), l4, some (v_i x5)] [] h Q ↔ if x3 ≤ x5 then ex_ d 99 31 [l0, l1, l2, some (v_i x3), l4, some (v_i x5)] [] h Q else ex_ d 99 13 [l0, l1, l2, some (v_i x3), l4, some (v_i x5)] [] h Q := by
  unfold ex_
  refine (am_Y_go 3 (ok := []) (g := (if x3 ≤ x5 then 31 else 13, [l0, l1, l2, some (v_i x3), l4, some (v_i x5)], [], h)) rfl).trans ?_
  all_goals exact am_Y_if

theorem b_J1_indexOfChar_4cfef_s2_31 {d : Nat} {Q : Option am_V → am_H → Prop} (h : am_H) (l0 l1 l2 l3 l4 l5 : Option am_V) : ex_ d 99 31 [l0, l1, l2, l3, l4, l5] [] h Q ↔ Q (some (v_i (-1 : Int32))) h := by
  unfold ex_
  refine (am_Y_go 1 (ok := []) (g := (32, [l0, l1, l2, l3, l4, l5], [v_i (-1 : Int32)], h)) rfl).trans ?_
  all_goals exact ((am_Y_ret rfl rfl rfl).trans (am_r0))

theorem b_J1_indexOfChar_4cfef_s2_13 {d : Nat} {Q : Option am_V → am_H → Prop} (h : am_H) (x5 : Int32) (x4 : Int32) (l1 l2 l3 : Option am_V) : ex_ d 99 13 [some (v_x 12), l1, l2, l3, some (v_i x4), some (v_i x5)] [] h Q ↔ vp_in x5 (am_byt.getD 2 []).length ∧ (if ¬ ((am_byt.getD 2 []).getD (Int32.toNatClampNeg x5) 0) = x4 then ex_ d 99 25 [some (v_x 12), l1, l2, l3, some (v_i x4), some (v_i x5)] [] h Q else ex_ d 99 22 [some (v_x 12), l1, l2, l3, some (v_i x4), some (v_i x5)] [] h Q) := by
  unfold ex_
  refine (am_Y_go 5 (ok := [vp_in x5 (am_byt.getD 2 []).length]) (g := (if ¬ ((am_byt.getD 2 []).getD (Int32.toNatClampNeg x5) 0) = x4 then 25 else 22, [some (v_x 12), l1, l2, l3, some (v_i x4), some (v_i x5)], [], h)) rfl).trans ?_
  simp only [am_all]
  all_goals exact cj_k Iff.rfl (am_Y_if)

theorem b_J1_indexOfChar_4cfef_s2_25 {d : Nat} {Q : Option am_V → am_H → Prop} (h : am_H) (x5 : Int32) (l0 l1 l2 l3 l4 : Option am_V) : ex_ d 99 25 [l0, l1, l2, l3, l4, some (v_i x5)] [] h Q ↔ ex_ d 99 7 [l0, l1, l2, l3, l4, some (v_i (x5 + (1 : Int32)))] [] h Q := by
  unfold ex_
  refine (am_Y_go 2 (ok := []) (g := (7, [l0, l1, l2, l3, l4, some (v_i (x5 + (1 : Int32)))], [], h)) rfl).trans ?_
  all_goals exact Iff.rfl

theorem b_J1_indexOfChar_4cfef_s2_22 {d : Nat} {Q : Option am_V → am_H → Prop} (h : am_H) (x5 : Int32) (l0 l1 l2 l3 l4 : Option am_V) : ex_ d 99 22 [l0, l1, l2, l3, l4, some (v_i x5)] [] h Q ↔ Q (some (v_i x5)) h := by
  unfold ex_
  refine (am_Y_go 1 (ok := []) (g := (24, [l0, l1, l2, l3, l4, some (v_i x5)], [v_i x5], h)) rfl).trans ?_
  all_goals exact ((am_Y_ret rfl rfl rfl).trans (am_r0))

theorem b_J1_indexOf_4cfef_s0_0 {d : Nat} {Q : Option am_V → am_H → Prop} (h : am_H) (x1 : Int32) (l0 l2 l3 : Option am_V) : ex_ (d + 1) 100 0 [l0, some (v_i x1), l2, l3] [] h Q ↔ ex_ d 98 0 [some (v_i x1)] [] h (fun r h' => ex_ (d + 1) 100 4 [l0, some (v_i x1), l2, l3] (r.toList ++ []) h' Q) := by
  unfold ex_
  refine (am_Y_go 1 (ok := []) (g := (1, [l0, some (v_i x1), l2, l3], [v_i x1], h)) rfl).trans ?_
  all_goals exact ((am_Y_call (j := 98) (na := 1) (ci := 0) (fl := 2) rfl rfl rfl).trans (cj_d ⟨⟨Nat.le_of_ble_eq_true rfl, Nat.le_of_ble_eq_true rfl, Nat.le_of_ble_eq_true rfl, rfl⟩, Or.inl rfl⟩ Iff.rfl))

theorem b_J1_indexOf_4cfef_s0_4 {d : Nat} {Q : Option am_V → am_H → Prop} (h : am_H) (s0 : Int32) (l0 l1 l2 l3 : Option am_V) : ex_ d 100 4 [l0, l1, l2, l3] [v_i s0] h Q ↔ if ¬ s0 = 0 then ex_ d 100 9 [l0, l1, l2, l3] [] h Q else ex_ d 100 7 [l0, l1, l2, l3] [] h Q := by
  unfold ex_
  refine (am_Y_go 1 (ok := []) (g := (if ¬ s0 = 0 then 9 else 7, [l0, l1, l2, l3], [], h)) rfl).trans ?_
  all_goals exact am_Y_if

theorem b_J1_indexOf_4cfef_s0_9 {d : Nat} {Q : Option am_V → am_H → Prop} (h : am_H) (x2 : Int32) (x3 : Int32) (l1 : Option am_V) : ex_ d 100 9 [some (v_x 10), l1, some (v_i x2), some (v_i x3)] [] h Q ↔ if (if x2 < (0 : Int32) then (0 : Int32) else x2) < (if (nI (am_byt.getD 0 []).length) < x3 then (nI (am_byt.getD 0 []).length) else x3) then ex_ d 100 29 [some (v_x 10), l1, some (v_i (if x2 < (0 : Int32) then (0 : Int32) else x2)), some (v_i (if (nI (am_byt.getD 0 []).length) < x3 then (nI (am_byt.getD 0 []).length) else x3))] [] h Q else ex_ d 100 27 [some (v_x 10), l1, some (v_i (if x2 < (0 : Int32) then (0 : Int32) else x2)), some (v_i (if (nI (am_byt.getD 0 []).length) < x3 then (nI (am_byt.getD 0 []).length) else x3))] [] h Q := by
  unfold ex_
  refine (am_Y_go 12 (ok := []) (g := (if (if x2 < (0 : Int32) then (0 : Int32) else x2) < (if (nI (am_byt.getD 0 []).length) < x3 then (nI (am_byt.getD 0 []).length) else x3) then 29 else 27, [some (v_x 10), l1, some (v_i (if x2 < (0 : Int32) then (0 : Int32) else x2)), some (v_i (if (nI (am_byt.getD 0 []).length) < x3 then (nI (am_byt.getD 0 []).length) else x3))], [], h)) rfl).trans ?_
  all_goals exact am_Y_if

theorem b_J1_indexOf_4cfef_s0_7 {d : Nat} {Q : Option am_V → am_H → Prop} (h : am_H) (l0 l1 l2 l3 : Option am_V) : ex_ d 100 7 [l0, l1, l2, l3] [] h Q ↔ Q (some (v_i (-1 : Int32))) h := by
  unfold ex_
  refine (am_Y_go 1 (ok := []) (g := (8, [l0, l1, l2, l3], [v_i (-1 : Int32)], h)) rfl).trans ?_
  all_goals exact ((am_Y_ret rfl rfl rfl).trans (am_r0))

theorem b_J1_indexOf_4cfef_s0_29 {d : Nat} {Q : Option am_V → am_H → Prop} (h : am_H) (x1 : Int32) (x2 : Int32) (x3 : Int32) : ex_ (d + 1) 100 29 [some (v_x 10), some (v_i x1), some (v_i x2), some (v_i x3)] [] h Q ↔ ex_ d 99 0 [some (v_x 10), some (v_i x1), some (v_i x2), some (v_i x3), none, none] [] h (fun r h' => ex_ (d + 1) 100 36 [some (v_x 10), some (v_i x1), some (v_i x2), some (v_i x3)] (r.toList ++ []) h' Q) := by
  unfold ex_
  refine (am_Y_go 4 (ok := []) (g := (33, [some (v_x 10), some (v_i x1), some (v_i x2), some (v_i x3)], [v_i x3, v_i x2, v_i x1, v_x 10], h)) rfl).trans ?_
  all_goals exact ((am_Y_call (j := 99) (na := 4) (ci := 0) (fl := 2) rfl rfl rfl).trans (cj_d ⟨⟨Nat.le_of_ble_eq_true rfl, Nat.le_of_ble_eq_true rfl, Nat.le_of_ble_eq_true rfl, rfl⟩, Or.inl rfl⟩ Iff.rfl))

theorem b_J1_indexOf_4cfef_s0_27 {d : Nat} {Q : Option am_V → am_H → Prop} (h : am_H) (l0 l1 l2 l3 : Option am_V) : ex_ d 100 27 [l0, l1, l2, l3] [] h Q ↔ Q (some (v_i (-1 : Int32))) h := by
  unfold ex_
  refine (am_Y_go 1 (ok := []) (g := (28, [l0, l1, l2, l3], [v_i (-1 : Int32)], h)) rfl).trans ?_
  all_goals exact ((am_Y_ret rfl rfl rfl).trans (am_r0))

theorem b_J1_indexOf_4cfef_s0_36 {d : Nat} {Q : Option am_V → am_H → Prop} (h : am_H) (s0 : Int32) (l0 l1 l2 l3 : Option am_V) : ex_ d 100 36 [l0, l1, l2, l3] [v_i s0] h Q ↔ Q (some (v_i s0)) h := by
  unfold ex_
  exact ((am_Y_ret rfl rfl rfl).trans (am_r0))

theorem b_J1_indexOf_4cfef_s1_0 {d : Nat} {Q : Option am_V → am_H → Prop} (h : am_H) (x1 : Int32) (l0 l2 l3 : Option am_V) : ex_ (d + 1) 100 0 [l0, some (v_i x1), l2, l3] [] h Q ↔ ex_ d 98 0 [some (v_i x1)] [] h (fun r h' => ex_ (d + 1) 100 4 [l0, some (v_i x1), l2, l3] (r.toList ++ []) h' Q) := by
  unfold ex_
  refine (am_Y_go 1 (ok := []) (g := (1, [l0, some (v_i x1), l2, l3], [v_i x1], h)) rfl).trans ?_
  all_goals exact ((am_Y_call (j := 98) (na := 1) (ci := 0) (fl := 2) rfl rfl rfl).trans (cj_d ⟨⟨Nat.le_of_ble_eq_true rfl, Nat.le_of_ble_eq_true rfl, Nat.le_of_ble_eq_true rfl, rfl⟩, Or.inl rfl⟩ Iff.rfl))

theorem b_J1_indexOf_4cfef_s1_4 {d : Nat} {Q : Option am_V → am_H → Prop} (h : am_H) (s0 : Int32) (l0 l1 l2 l3 : Option am_V) : ex_ d 100 4 [l0, l1, l2, l3] [v_i s0] h Q ↔ if ¬ s0 = 0 then ex_ d 100 9 [l0, l1, l2, l3] [] h Q else ex_ d 100 7 [l0, l1, l2, l3] [] h Q := by
  unfold ex_
  refine (am_Y_go 1 (ok := []) (g := (if ¬ s0 = 0 then 9 else 7, [l0, l1, l2, l3], [], h)) rfl).trans ?_
  all_goals exact am_Y_if

theorem b_J1_indexOf_4cfef_s1_9 {d : Nat} {Q : Option am_V → am_H → Prop} (h : am_H) (x2 : Int32) (x3 : Int32) (l1 : Option am_V) : ex_ d 100 9 [some (v_x 11), l1, some (v_i x2), some (v_i x3)] [] h Q ↔ if (if x2 < (0 : Int32) then (0 : Int32) else x2) < (if (nI (am_byt.getD 1 []).length) < x3 then (nI (am_byt.getD 1 []).length) else x3) then ex_ d 100 29 [some (v_x 11), l1, some (v_i (if x2 < (0 : Int32) then (0 : Int32) else x2)), some (v_i (if (nI (am_byt.getD 1 []).length) < x3 then (nI (am_byt.getD 1 []).length) else x3))] [] h Q else ex_ d 100 27 [some (v_x 11), l1, some (v_i (if x2 < (0 : Int32) then (0 : Int32) else x2)), some (v_i (if (nI (am_byt.getD 1 []).length) < x3 then (nI (am_byt.getD 1 []).length) else x3))] [] h Q := by
  unfold ex_
  refine (am_Y_go 12 (ok := []) (g := (if (if x2 < (0 : Int32) then (0 : Int32) else x2) < (if (nI (am_byt.getD 1 []).length) < x3 then (nI (am_byt.getD 1 []).length) else x3) then 29 else 27, [some (v_x 11), l1, some (v_i (if x2 < (0 : Int32) then (0 : Int32) else x2)), some (v_i (if (nI (am_byt.getD 1 []).length) < x3 then (nI (am_byt.getD 1 []).length) else x3))], [], h)) rfl).trans ?_
  all_goals exact am_Y_if

theorem b_J1_indexOf_4cfef_s1_7 {d : Nat} {Q : Option am_V → am_H → Prop} (h : am_H) (l0 l1 l2 l3 : Option am_V) : ex_ d 100 7 [l0, l1, l2, l3] [] h Q ↔ Q (some (v_i (-1 : Int32))) h := by
  unfold ex_
  refine (am_Y_go 1 (ok := []) (g := (8, [l0, l1, l2, l3], [v_i (-1 : Int32)], h)) rfl).trans ?_
  all_goals exact ((am_Y_ret rfl rfl rfl).trans (am_r0))

theorem b_J1_indexOf_4cfef_s1_29 {d : Nat} {Q : Option am_V → am_H → Prop} (h : am_H) (x1 : Int32) (x2 : Int32) (x3 : Int32) : ex_ (d + 1) 100 29 [some (v_x 11), some (v_i x1), some (v_i x2), some (v_i x3)] [] h Q ↔ ex_ d 99 0 [some (v_x 11), some (v_i x1), some (v_i x2), some (v_i x3), none, none] [] h (fun r h' => ex_ (d + 1) 100 36 [some (v_x 11), some (v_i x1), some (v_i x2), some (v_i x3)] (r.toList ++ []) h' Q) := by
  unfold ex_
  refine (am_Y_go 4 (ok := []) (g := (33, [some (v_x 11), some (v_i x1), some (v_i x2), some (v_i x3)], [v_i x3, v_i x2, v_i x1, v_x 11], h)) rfl).trans ?_
  all_goals exact ((am_Y_call (j := 99) (na := 4) (ci := 0) (fl := 2) rfl rfl rfl).trans (cj_d ⟨⟨Nat.le_of_ble_eq_true rfl, Nat.le_of_ble_eq_true rfl, Nat.le_of_ble_eq_true rfl, rfl⟩, Or.inl rfl⟩ Iff.rfl))

theorem b_J1_indexOf_4cfef_s1_27 {d : Nat} {Q : Option am_V → am_H → Prop} (h : am_H) (l0 l1 l2 l3 : Option am_V) : ex_ d 100 27 [l0, l1, l2, l3] [] h Q ↔ Q (some (v_i (-1 : Int32))) h := by
  unfold ex_
  refine (am_Y_go 1 (ok := []) (g := (28, [l0, l1, l2, l3], [v_i (-1 : Int32)], h)) rfl).trans ?_
  all_goals exact ((am_Y_ret rfl rfl rfl).trans (am_r0))

theorem b_J1_indexOf_4cfef_s1_36 {d : Nat} {Q : Option am_V → am_H → Prop} (h : am_H) (s0 : Int32) (l0 l1 l2 l3 : Option am_V) : ex_ d 100 36 [l0, l1, l2, l3] [v_i s0] h Q ↔ Q (some (v_i s0)) h := by
  unfold ex_
  exact ((am_Y_ret rfl rfl rfl).trans (am_r0))

theorem b_J1_indexOf_4cfef_s2_0 {d : Nat} {Q : Option am_V → am_H → Prop} (h : am_H) (x1 : Int32) (l0 l2 l3 : Option am_V) : ex_ (d + 1) 100 0 [l0, some (v_i x1), l2, l3] [] h Q ↔ ex_ d 98 0 [some (v_i x1)] [] h (fun r h' => ex_ (d + 1) 100 4 [l0, some (v_i x1), l2, l3] (r.toList ++ []) h' Q) := by
  unfold ex_
  refine (am_Y_go 1 (ok := []) (g := (1, [l0, some (v_i x1), l2, l3], [v_i x1], h)) rfl).trans ?_
  all_goals exact ((am_Y_call (j := 98) (na := 1) (ci := 0) (fl := 2) rfl rfl rfl).trans (cj_d ⟨⟨Nat.le_of_ble_eq_true rfl, Nat.le_of_ble_eq_true rfl, Nat.le_of_ble_eq_true rfl, rfl⟩, Or.inl rfl⟩ Iff.rfl))

theorem b_J1_indexOf_4cfef_s2_4 {d : Nat} {Q : Option am_V → am_H → Prop} (h : am_H) (s0 : Int32) (l0 l1 l2 l3 : Option am_V) : ex_ d 100 4 [l0, l1, l2, l3] [v_i s0] h Q ↔ if ¬ s0 = 0 then ex_ d 100 9 [l0, l1, l2, l3] [] h Q else ex_ d 100 7 [l0, l1, l2, l3] [] h Q := by
  unfold ex_
  refine (am_Y_go 1 (ok := []) (g := (if ¬ s0 = 0 then 9 else 7, [l0, l1, l2, l3], [], h)) rfl).trans ?_
  all_goals exact am_Y_if

theorem b_J1_indexOf_4cfef_s2_9 {d : Nat} {Q : Option am_V → am_H → Prop} (h : am_H) (x2 : Int32) (x3 : Int32) (l1 : Option am_V) : ex_ d 100 9 [some (v_x 12), l1, some (v_i x2), some (v_i x3)] [] h Q ↔ if (if x2 < (0 : Int32) then (0 : Int32) else x2) < (if (nI (am_byt.getD 2 []).length) < x3 then (nI (am_byt.getD 2 []).length) else x3) then ex_ d 100 29 [some (v_x 12), l1, some (v_i (if x2 < (0 : Int32) then (0 : Int32) else x2)), some (v_i (if (nI (am_byt.getD 2 []).length) < x3 then (nI (am_byt.getD 2 []).length) else x3))] [] h Q else ex_ d 100 27 [some (v_x 12), l1, some (v_i (if x2 < (0 : Int32) then (0 : Int32) else x2)), some (v_i (if (nI (am_byt.getD 2 []).length) < x3 then (nI (am_byt.getD 2 []).length) else x3))] [] h Q := by
  unfold ex_
  refine (am_Y_go 12 (ok := []) (g := (if (if x2 < (0 : Int32) then (0 : Int32) else x2) < (if (nI (am_byt.getD 2 []).length) < x3 then (nI (am_byt.getD 2 []).length) else x3) then 29 else 27, [some (v_x 12), l1, some (v_i (if x2 < (0 : Int32) then (0 : Int32) else x2)), some (v_i (if (nI (am_byt.getD 2 []).length) < x3 then (nI (am_byt.getD 2 []).length) else x3))], [], h)) rfl).trans ?_
  all_goals exact am_Y_if

theorem b_J1_indexOf_4cfef_s2_7 {d : Nat} {Q : Option am_V → am_H → Prop} (h : am_H) (l0 l1 l2 l3 : Option am_V) : ex_ d 100 7 [l0, l1, l2, l3] [] h Q ↔ Q (some (v_i (-1 : Int32))) h := by
  unfold ex_
  refine (am_Y_go 1 (ok := []) (g := (8, [l0, l1, l2, l3], [v_i (-1 : Int32)], h)) rfl).trans ?_
  all_goals exact ((am_Y_ret rfl rfl rfl).trans (am_r0))

theorem b_J1_indexOf_4cfef_s2_29 {d : Nat} {Q : Option am_V → am_H → Prop} (h : am_H) (x1 : Int32) (x2 : Int32) (x3 : Int32) : ex_ (d + 1) 100 29 [some (v_x 12), some (v_i x1), some (v_i x2), some (v_i x3)] [] h Q ↔ ex_ d 99 0 [some (v_x 12), some (v_i x1), some (v_i x2), some (v_i x3), none, none] [] h (fun r h' => ex_ (d + 1) 100 36 [some (v_x 12), some (v_i x1), some (v_i x2), some (v_i x3)] (r.toList ++ []) h' Q) := by
  unfold ex_
  refine (am_Y_go 4 (ok := []) (g := (33, [some (v_x 12), some (v_i x1), some (v_i x2), some (v_i x3)], [v_i x3, v_i x2, v_i x1, v_x 12], h)) rfl).trans ?_
  all_goals exact ((am_Y_call (j := 99) (na := 4) (ci := 0) (fl := 2) rfl rfl rfl).trans (cj_d ⟨⟨Nat.le_of_ble_eq_true rfl, Nat.le_of_ble_eq_true rfl, Nat.le_of_ble_eq_true rfl, rfl⟩, Or.inl rfl⟩ Iff.rfl))

theorem b_J1_indexOf_4cfef_s2_27 {d : Nat} {Q : Option am_V → am_H → Prop} (h : am_H) (l0 l1 l2 l3 : Option am_V) : ex_ d 100 27 [l0, l1, l2, l3] [] h Q ↔ Q (some (v_i (-1 : Int32))) h := by
  unfold ex_
  refine (am_Y_go 1 (ok := []) (g := (28, [l0, l1, l2, l3], [v_i (-1 : Int32)], h)) rfl).trans ?_
  all_goals exact ((am_Y_ret rfl rfl rfl).trans (am_r0))

theorem b_J1_indexOf_4cfef_s2_36 {d : Nat} {Q : Option am_V → am_H → Prop} (h : am_H) (s0 : Int32) (l0 l1 l2 l3 : Option am_V) : ex_ d 100 36 [l0, l1, l2, l3] [v_i s0] h Q ↔ Q (some (v_i s0)) h := by
  unfold ex_
  exact ((am_Y_ret rfl rfl rfl).trans (am_r0))

theorem b_J3_checkFromToIndex_8c36e_0 {d : Nat} {Q : Option am_V → am_H → Prop} (h : am_H) (x0 : Int32) (l1 l2 l3 : Option am_V) : ex_ d 101 0 [some (v_i x0), l1, l2, l3] [] h Q ↔ if x0 < 0 then ex_ d 101 14 [some (v_i x0), l1, l2, l3] [] h Q else ex_ d 101 4 [some (v_i x0), l1, l2, l3] [] h Q := by
  unfold ex_
  refine (am_Y_go 2 (ok := []) (g := (if x0 < 0 then 14 else 4, [some (v_i x0), l1, l2, l3], [], h)) rfl).trans ?_
  all_goals exact am_Y_if

theorem b_J3_checkFromToIndex_8c36e_14 {d : Nat} {Q : Option am_V → am_H → Prop} (h : am_H) (x3 : Option Nat) (x0 : Int32) (x1 : Int32) (x2 : Int32) : ex_ d 101 14 [some (v_i x0), some (v_i x1), some (v_i x2), some (v_r x3)] [] h Q ↔ ex_ d 101 18 [some (v_i x0), some (v_i x1), some (v_i x2), some (v_r x3)] [v_i x2, v_i x1, v_i x0, v_r x3] h Q := by
  unfold ex_
  refine (am_Y_go 4 (ok := []) (g := (18, [some (v_i x0), some (v_i x1), some (v_i x2), some (v_r x3)], [v_i x2, v_i x1, v_i x0, v_r x3], h)) rfl).trans ?_
  all_goals exact Iff.rfl

theorem b_J3_checkFromToIndex_8c36e_4 {d : Nat} {Q : Option am_V → am_H → Prop} (h : am_H) (x0 : Int32) (x1 : Int32) (l2 l3 : Option am_V) : ex_ d 101 4 [some (v_i x0), some (v_i x1), l2, l3] [] h Q ↔ if x1 < x0 then ex_ d 101 14 [some (v_i x0), some (v_i x1), l2, l3] [] h Q else ex_ d 101 9 [some (v_i x0), some (v_i x1), l2, l3] [] h Q := by
  unfold ex_
  refine (am_Y_go 3 (ok := []) (g := (if x1 < x0 then 14 else 9, [some (v_i x0), some (v_i x1), l2, l3], [], h)) rfl).trans ?_
  all_goals exact am_Y_if

theorem b_J3_checkFromToIndex_8c36e_18 {d : Nat} {Q : Option am_V → am_H → Prop} (h : am_H) (s0 : Int32) (s1 : Int32) (s2 : Int32) (s3 : Option Nat) (l0 l1 l2 l3 : Option am_V) : ex_ d 101 18 [l0, l1, l2, l3] [v_i s0, v_i s1, v_i s2, v_r s3] h Q ↔ ex_ d 101 18 [l0, l1, l2, l3] [v_i s0, v_i s1, v_i s2, v_r s3] h Q := by
  unfold ex_
  refine (am_Y_go 0 (ok := []) (g := (18, [l0, l1, l2, l3], [v_i s0, v_i s1, v_i s2, v_r s3], h)) rfl).trans ?_
  all_goals exact Iff.rfl

theorem b_J3_checkFromToIndex_8c36e_9 {d : Nat} {Q : Option am_V → am_H → Prop} (h : am_H) (x1 : Int32) (x2 : Int32) (l0 l3 : Option am_V) : ex_ d 101 9 [l0, some (v_i x1), some (v_i x2), l3] [] h Q ↔ if x1 ≤ x2 then ex_ d 101 22 [l0, some (v_i x1), some (v_i x2), l3] [] h Q else ex_ d 101 14 [l0, some (v_i x1), some (v_i x2), l3] [] h Q := by
  unfold ex_
  refine (am_Y_go 3 (ok := []) (g := (if x1 ≤ x2 then 22 else 14, [l0, some (v_i x1), some (v_i x2), l3], [], h)) rfl).trans ?_
  all_goals exact am_Y_if

theorem b_J3_checkFromToIndex_8c36e_22 {d : Nat} {Q : Option am_V → am_H → Prop} (h : am_H) (x0 : Int32) (l1 l2 l3 : Option am_V) : ex_ d 101 22 [some (v_i x0), l1, l2, l3] [] h Q ↔ Q (some (v_i x0)) h := by
  unfold ex_
  refine (am_Y_go 1 (ok := []) (g := (23, [some (v_i x0), l1, l2, l3], [v_i x0], h)) rfl).trans ?_
  all_goals exact ((am_Y_ret rfl rfl rfl).trans (am_r0))

theorem b_J0_checkBoundsBeginEnd_23922_0 {d : Nat} {Q : Option am_V → am_H → Prop} (h : am_H) (x0 : Int32) (x1 : Int32) (x2 : Int32) : ex_ (d + 1) 102 0 [some (v_i x0), some (v_i x1), some (v_i x2)] [] h Q ↔ ex_ d 101 0 [some (v_i x0), some (v_i x1), some (v_i x2), some (v_x 30)] [] h (fun r h' => ex_ (d + 1) 102 9 [some (v_i x0), some (v_i x1), some (v_i x2)] (r.toList ++ []) h' Q) := by
  unfold ex_
  refine (am_Y_go 4 (ok := []) (g := (6, [some (v_i x0), some (v_i x1), some (v_i x2)], [v_x 30, v_i x2, v_i x1, v_i x0], h)) rfl).trans ?_
  all_goals exact ((am_Y_call (j := 101) (na := 4) (ci := 0) (fl := 2) rfl rfl rfl).trans (cj_d ⟨⟨Nat.le_of_ble_eq_true rfl, Nat.le_of_ble_eq_true rfl, Nat.le_of_ble_eq_true rfl, rfl⟩, Or.inl rfl⟩ Iff.rfl))

theorem b_J0_checkBoundsBeginEnd_23922_9 {d : Nat} {Q : Option am_V → am_H → Prop} (h : am_H) (s0 : Int32) (l0 l1 l2 : Option am_V) : ex_ d 102 9 [l0, l1, l2] [v_i s0] h Q ↔ Q (none) h := by
  unfold ex_
  refine (am_Y_go 1 (ok := []) (g := (10, [l0, l1, l2], [], h)) rfl).trans ?_
  all_goals exact ((am_Y_ret rfl rfl rfl).trans (am_rz rfl))

theorem b_J0_indexOf_7cf53_s0_0 {d : Nat} {Q : Option am_V → am_H → Prop} (h : am_H) (l1 l2 : Option am_V) : ex_ (d + 1) 111 0 [some (v_x 0), l1, l2] [] h Q ↔ ex_ d 86 0 [some (v_x 0)] [] h (fun r h' => ex_ (d + 1) 111 4 [some (v_x 0), l1, l2] (r.toList ++ []) h' Q) := by
  unfold ex_
  refine (am_Y_go 1 (ok := []) (g := (1, [some (v_x 0), l1, l2], [v_x 0], h)) rfl).trans ?_
  all_goals exact ((am_Y_call (j := 86) (na := 1) (ci := 50) (fl := 0) rfl rfl rfl).trans (cj_d ⟨⟨Nat.le_of_ble_eq_true rfl, Nat.le_of_ble_eq_true rfl, Nat.le_of_ble_eq_true rfl, rfl⟩, Or.inr (Or.inr (show (50 : Nat) = 50 ∧ (0 : Nat) < 3 from ⟨rfl, by decide⟩))⟩ Iff.rfl))

theorem b_J0_indexOf_7cf53_s0_4 {d : Nat} {Q : Option am_V → am_H → Prop} (h : am_H) (s0 : Int32) (l0 l1 l2 : Option am_V) : ex_ d 111 4 [l0, l1, l2] [v_i s0] h Q ↔ if s0 = 0 then ex_ d 111 23 [l0, l1, l2] [] h Q else ex_ d 111 7 [l0, l1, l2] [] h Q := by
  unfold ex_
  refine (am_Y_go 1 (ok := []) (g := (if s0 = 0 then 23 else 7, [l0, l1, l2], [], h)) rfl).trans ?_
  all_goals exact am_Y_if

theorem b_J0_indexOf_7cf53_s0_23 {d : Nat} {Q : Option am_V → am_H → Prop} (h : am_H) (x1 : Int32) (x2 : Int32) : ex_ (d + 1) 111 23 [some (v_x 0), some (v_i x1), some (v_i x2)] [] h Q ↔ ex_ d 85 0 [some (v_x 0)] [] h (fun r h' => ex_ (d + 1) 111 33 [some (v_x 0), some (v_i x1), some (v_i x2)] (r.toList ++ [v_i x2, v_i x1, v_x 10]) h' Q) := by
  unfold ex_
  refine (am_Y_go 5 (ok := []) (g := (30, [some (v_x 0), some (v_i x1), some (v_i x2)], [v_x 0, v_i x2, v_i x1, v_x 10], h)) rfl).trans ?_
  all_goals exact ((am_Y_call (j := 85) (na := 1) (ci := 50) (fl := 0) rfl rfl rfl).trans (cj_d ⟨⟨Nat.le_of_ble_eq_true rfl, Nat.le_of_ble_eq_true rfl, Nat.le_of_ble_eq_true rfl, rfl⟩, Or.inr (Or.inr (show (50 : Nat) = 50 ∧ (0 : Nat) < 3 from ⟨rfl, by decide⟩))⟩ Iff.rfl))

theorem b_J0_indexOf_7cf53_s0_7 {d : Nat} {Q : Option am_V → am_H → Prop} (h : am_H) (x1 : Int32) (x2 : Int32) : ex_ (d + 1) 111 7 [some (v_x 0), some (v_i x1), some (v_i x2)] [] h Q ↔ ex_ d 85 0 [some (v_x 0)] [] h (fun r h' => ex_ (d + 1) 111 17 [some (v_x 0), some (v_i x1), some (v_i x2)] (r.toList ++ [v_i x2, v_i x1, v_x 10]) h' Q) := by
  unfold ex_
  refine (am_Y_go 5 (ok := []) (g := (14, [some (v_x 0), some (v_i x1), some (v_i x2)], [v_x 0, v_i x2, v_i x1, v_x 10], h)) rfl).trans ?_
  all_goals exact ((am_Y_call (j := 85) (na := 1) (ci := 50) (fl := 0) rfl rfl rfl).trans (cj_d ⟨⟨Nat.le_of_ble_eq_true rfl, Nat.le_of_ble_eq_true rfl, Nat.le_of_ble_eq_true rfl, rfl⟩, Or.inr (Or.inr (show (50 : Nat) = 50 ∧ (0 : Nat) < 3 from ⟨rfl, by decide⟩))⟩ Iff.rfl))

theorem b_J0_indexOf_7cf53_s0_33 {d : Nat} {Q : Option am_V → am_H → Prop} (h : am_H) (s0 : Int32) (s1 : Int32) (s2 : Int32) (l0 l1 l2 : Option am_V) : ex_ (d + 1) 111 33 [l0, l1, l2] [v_i s0, v_i s1, v_i s2, v_x 10] h Q ↔ ex_ d 110 0 [some (v_x 10), some (v_i s2), some (v_i s1), some (v_i s0)] [] h (fun r h' => ex_ (d + 1) 111 36 [l0, l1, l2] (r.toList ++ []) h' Q) := by
  unfold ex_
  exact ((am_Y_call (j := 110) (na := 4) (ci := 0) (fl := 2) rfl rfl rfl).trans (cj_d ⟨⟨Nat.le_of_ble_eq_true rfl, Nat.le_of_ble_eq_true rfl, Nat.le_of_ble_eq_true rfl, rfl⟩, Or.inl rfl⟩ Iff.rfl))

theorem b_J0_indexOf_7cf53_s0_17 {d : Nat} {Q : Option am_V → am_H → Prop} (h : am_H) (s0 : Int32) (s1 : Int32) (s2 : Int32) (l0 l1 l2 : Option am_V) : ex_ (d + 1) 111 17 [l0, l1, l2] [v_i s0, v_i s1, v_i s2, v_x 10] h Q ↔ ex_ d 100 0 [some (v_x 10), some (v_i s2), some (v_i s1), some (v_i s0)] [] h (fun r h' => ex_ (d + 1) 111 20 [l0, l1, l2] (r.toList ++ []) h' Q) := by
  unfold ex_
  exact ((am_Y_call (j := 100) (na := 4) (ci := 0) (fl := 2) rfl rfl rfl).trans (cj_d ⟨⟨Nat.le_of_ble_eq_true rfl, Nat.le_of_ble_eq_true rfl, Nat.le_of_ble_eq_true rfl, rfl⟩, Or.inl rfl⟩ Iff.rfl))

theorem b_J0_indexOf_7cf53_s0_36 {d : Nat} {Q : Option am_V → am_H → Prop} (h : am_H) (s0 : Int32) (l0 l1 l2 : Option am_V) : ex_ d 111 36 [l0, l1, l2] [v_i s0] h Q ↔ Q (some (v_i s0)) h := by
  unfold ex_
  exact ((am_Y_ret rfl rfl rfl).trans (am_r0))

theorem b_J0_indexOf_7cf53_s0_20 {d : Nat} {Q : Option am_V → am_H → Prop} (h : am_H) (s0 : Int32) (l0 l1 l2 : Option am_V) : ex_ d 111 20 [l0, l1, l2] [v_i s0] h Q ↔ Q (some (v_i s0)) h := by
  unfold ex_
  refine (am_Y_go 1 (ok := []) (g := (36, [l0, l1, l2], [v_i s0], h)) rfl).trans ?_
  all_goals exact ((am_Y_ret rfl rfl rfl).trans (am_r0))

theorem b_J0_indexOf_7cf53_s1_0 {d : Nat} {Q : Option am_V → am_H → Prop} (h : am_H) (l1 l2 : Option am_V) : ex_ (d + 1) 111 0 [some (v_x 1), l1, l2] [] h Q ↔ ex_ d 86 0 [some (v_x 1)] [] h (fun r h' => ex_ (d + 1) 111 4 [some (v_x 1), l1, l2] (r.toList ++ []) h' Q) := by
  unfold ex_
  refine (am_Y_go 1 (ok := []) (g := (1, [some (v_x 1), l1, l2], [v_x 1], h)) rfl).trans ?_
  all_goals exact ((am_Y_call (j := 86) (na := 1) (ci := 50) (fl := 0) rfl rfl rfl).trans (cj_d ⟨⟨Nat.le_of_ble_eq_true rfl, Nat.le_of_ble_eq_true rfl, Nat.le_of_ble_eq_true rfl, rfl⟩, Or.inr (Or.inr (show (50 : Nat) = 50 ∧ (1 : Nat) < 3 from ⟨rfl, by decide⟩))⟩ Iff.rfl))

theorem b_J0_indexOf_7cf53_s1_4 {d : Nat} {Q : Option am_V → am_H → Prop} (h : am_H) (s0 : Int32) (l0 l1 l2 : Option am_V) : ex_ d 111 4 [l0, l1, l2] [v_i s0] h Q ↔ if s0 = 0 then ex_ d 111 23 [l0, l1, l2] [] h Q else ex_ d 111 7 [l0, l1, l2] [] h Q := by
  unfold ex_
  refine (am_Y_go 1 (ok := []) (g := (if s0 = 0 then 23 else 7, [l0, l1, l2], [], h)) rfl).trans ?_
  all_goals exact am_Y_if

theorem b_J0_indexOf_7cf53_s1_23 {d : Nat} {Q : Option am_V → am_H → Prop} (h : am_H) (x1 : Int32) (x2 : Int32) : ex_ (d + 1) 111 23 [some (v_x 1), some (v_i x1), some (v_i x2)] [] h Q ↔ ex_ d 85 0 [some (v_x 1)] [] h (fun r h' => ex_ (d + 1) 111 33 [some (v_x 1), some (v_i x1), some (v_i x2)] (r.toList ++ [v_i x2, v_i x1, v_x 11]) h' Q) := by
  unfold ex_
  refine (am_Y_go 5 (ok := []) (g := (30, [some (v_x 1), some (v_i x1), some (v_i x2)], [v_x 1, v_i x2, v_i x1, v_x 11], h)) rfl).trans ?_
  all_goals exact ((am_Y_call (j := 85) (na := 1) (ci := 50) (fl := 0) rfl rfl rfl).trans (cj_d ⟨⟨Nat.le_of_ble_eq_true rfl, Nat.le_of_ble_eq_true rfl, Nat.le_of_ble_eq_true rfl, rfl⟩, Or.inr (Or.inr (show (50 : Nat) = 50 ∧ (1 : Nat) < 3 from ⟨rfl, by decide⟩))⟩ Iff.rfl))

theorem b_J0_indexOf_7cf53_s1_7 {d : Nat} {Q : Option am_V → am_H → Prop} (h : am_H) (x1 : Int32) (x2 : Int32) : ex_ (d + 1) 111 7 [some (v_x 1), some (v_i x1), some (v_i x2)] [] h Q ↔ ex_ d 85 0 [some (v_x 1)] [] h (fun r h' => ex_ (d + 1) 111 17 [some (v_x 1), some (v_i x1), some (v_i x2)] (r.toList ++ [v_i x2, v_i x1, v_x 11]) h' Q) := by
  unfold ex_
  refine (am_Y_go 5 (ok := []) (g := (14, [some (v_x 1), some (v_i x1), some (v_i x2)], [v_x 1, v_i x2, v_i x1, v_x 11], h)) rfl).trans ?_
  all_goals exact ((am_Y_call (j := 85) (na := 1) (ci := 50) (fl := 0) rfl rfl rfl).trans (cj_d ⟨⟨Nat.le_of_ble_eq_true rfl, Nat.le_of_ble_eq_true rfl, Nat.le_of_ble_eq_true rfl, rfl⟩, Or.inr (Or.inr (show (50 : Nat) = 50 ∧ (1 : Nat) < 3 from ⟨rfl, by decide⟩))⟩ Iff.rfl))

theorem b_J0_indexOf_7cf53_s1_33 {d : Nat} {Q : Option am_V → am_H → Prop} (h : am_H) (s0 : Int32) (s1 : Int32) (s2 : Int32) (l0 l1 l2 : Option am_V) : ex_ (d + 1) 111 33 [l0, l1, l2] [v_i s0, v_i s1, v_i s2, v_x 11] h Q ↔ ex_ d 110 0 [some (v_x 11), some (v_i s2), some (v_i s1), some (v_i s0)] [] h (fun r h' => ex_ (d + 1) 111 36 [l0, l1, l2] (r.toList ++ []) h' Q) := by
  unfold ex_
  exact ((am_Y_call (j := 110) (na := 4) (ci := 0) (fl := 2) rfl rfl rfl).trans (cj_d ⟨⟨Nat.le_of_ble_eq_true rfl, Nat.le_of_ble_eq_true rfl, Nat.le_of_ble_eq_true rfl, rfl⟩, Or.inl rfl⟩ Iff.rfl))

theorem b_J0_indexOf_7cf53_s1_17 {d : Nat} {Q : Option am_V → am_H → Prop} (h : am_H) (s0 : Int32) (s1 : Int32) (s2 : Int32) (l0 l1 l2 : Option am_V) : ex_ (d + 1) 111 17 [l0, l1, l2] [v_i s0, v_i s1, v_i s2, v_x 11] h Q ↔ ex_ d 100 0 [some (v_x 11), some (v_i s2), some (v_i s1), some (v_i s0)] [] h (fun r h' => ex_ (d + 1) 111 20 [l0, l1, l2] (r.toList ++ []) h' Q) := by
  unfold ex_
  exact ((am_Y_call (j := 100) (na := 4) (ci := 0) (fl := 2) rfl rfl rfl).trans (cj_d ⟨⟨Nat.le_of_ble_eq_true rfl, Nat.le_of_ble_eq_true rfl, Nat.le_of_ble_eq_true rfl, rfl⟩, Or.inl rfl⟩ Iff.rfl))

theorem b_J0_indexOf_7cf53_s1_36 {d : Nat} {Q : Option am_V → am_H → Prop} (h : am_H) (s0 : Int32) (l0 l1 l2 : Option am_V) : ex_ d 111 36 [l0, l1, l2] [v_i s0] h Q ↔ Q (some (v_i s0)) h := by
  unfold ex_
  exact ((am_Y_ret rfl rfl rfl).trans (am_r0))

theorem b_J0_indexOf_7cf53_s1_20 {d : Nat} {Q : Option am_V → am_H → Prop} (h : am_H) (s0 : Int32) (l0 l1 l2 : Option am_V) : ex_ d 111 20 [l0, l1, l2] [v_i s0] h Q ↔ Q (some (v_i s0)) h := by
  unfold ex_
  refine (am_Y_go 1 (ok := []) (g := (36, [l0, l1, l2], [v_i s0], h)) rfl).trans ?_
  all_goals exact ((am_Y_ret rfl rfl rfl).trans (am_r0))

theorem b_J0_indexOf_7cf53_s2_0 {d : Nat} {Q : Option am_V → am_H → Prop} (h : am_H) (l1 l2 : Option am_V) : ex_ (d + 1) 111 0 [some (v_x 2), l1, l2] [] h Q ↔ ex_ d 86 0 [some (v_x 2)] [] h (fun r h' => ex_ (d + 1) 111 4 [some (v_x 2), l1, l2] (r.toList ++ []) h' Q) := by
  unfold ex_
  refine (am_Y_go 1 (ok := []) (g := (1, [some (v_x 2), l1, l2], [v_x 2], h)) rfl).trans ?_
  all_goals exact ((am_Y_call (j := 86) (na := 1) (ci := 50) (fl := 0) rfl rfl rfl).trans (cj_d ⟨⟨Nat.le_of_ble_eq_true rfl, Nat.le_of_ble_eq_true rfl, Nat.le_of_ble_eq_true rfl, rfl⟩, Or.inr (Or.inr (show (50 : Nat) = 50 ∧ (2 : Nat) < 3 from ⟨rfl, by decide⟩))⟩ Iff.rfl))

theorem b_J0_indexOf_7cf53_s2_4 {d : Nat} {Q : Option am_V → am_H → Prop} (h : am_H) (s0 : Int32) (l0 l1 l2 : Option am_V) : ex_ d 111 4 [l0, l1, l2] [v_i s0] h Q ↔ if s0 = 0 then ex_ d 111 23 [l0, l1, l2] [] h Q else ex_ d 111 7 [l0, l1, l2] [] h Q := by
  unfold ex_
  refine (am_Y_go 1 (ok := []) (g := (if s0 = 0 then 23 else 7, [l0, l1, l2], [], h)) rfl).trans ?_
  all_goals exact am_Y_if

theorem b_J0_indexOf_7cf53_s2_23 {d : Nat} {Q : Option am_V → am_H → Prop} (h : am_H) (x1 : Int32) (x2 : Int32) : ex_ (d + 1) 111 23 [some (v_x 2), some (v_i x1), some (v_i x2)] [] h Q ↔ ex_ d 85 0 [some (v_x 2)] [] h (fun r h' => ex_ (d + 1) 111 33 [some (v_x 2), some (v_i x1), some (v_i x2)] (r.toList ++ [v_i x2, v_i x1, v_x 12]) h' Q) := by
  unfold ex_
  refine (am_Y_go 5 (ok := []) (g := (30, [some (v_x 2), some (v_i x1), some (v_i x2)], [v_x 2, v_i x2, v_i x1, v_x 12], h)) rfl).trans ?_
  all_goals exact ((am_Y_call (j := 85) (na := 1) (ci := 50) (fl := 0) rfl rfl rfl).trans (cj_d ⟨⟨Nat.le_of_ble_eq_true rfl, Nat.le_of_ble_eq_true rfl, Nat.le_of_ble_eq_true rfl, rfl⟩, Or.inr (Or.inr (show (50 : Nat) = 50 ∧ (2 : Nat) < 3 from ⟨rfl, by decide⟩))⟩ Iff.rfl))

theorem b_J0_indexOf_7cf53_s2_7 {d : Nat} {Q : Option am_V → am_H → Prop} (h : am_H) (x1 : Int32) (x2 : Int32) : ex_ (d + 1) 111 7 [some (v_x 2), some (v_i x1), some (v_i x2)] [] h Q ↔ ex_ d 85 0 [some (v_x 2)] [] h (fun r h' => ex_ (d + 1) 111 17 [some (v_x 2), some (v_i x1), some (v_i x2)] (r.toList ++ [v_i x2, v_i x1, v_x 12]) h' Q) := by
  unfold ex_
  refine (am_Y_go 5 (ok := []) (g := (14, [some (v_x 2), some (v_i x1), some (v_i x2)], [v_x 2, v_i x2, v_i x1, v_x 12], h)) rfl).trans ?_
  all_goals exact ((am_Y_call (j := 85) (na := 1) (ci := 50) (fl := 0) rfl rfl rfl).trans (cj_d ⟨⟨Nat.le_of_ble_eq_true rfl, Nat.le_of_ble_eq_true rfl, Nat.le_of_ble_eq_true rfl, rfl⟩, Or.inr (Or.inr (show (50 : Nat) = 50 ∧ (2 : Nat) < 3 from ⟨rfl, by decide⟩))⟩ Iff.rfl))

theorem b_J0_indexOf_7cf53_s2_33 {d : Nat} {Q : Option am_V → am_H → Prop} (h : am_H) (s0 : Int32) (s1 : Int32) (s2 : Int32) (l0 l1 l2 : Option am_V) : ex_ (d + 1) 111 33 [l0, l1, l2] [v_i s0, v_i s1, v_i s2, v_x 12] h Q ↔ ex_ d 110 0 [some (v_x 12), some (v_i s2), some (v_i s1), some (v_i s0)] [] h (fun r h' => ex_ (d + 1) 111 36 [l0, l1, l2] (r.toList ++ []) h' Q) := by
  unfold ex_
  exact ((am_Y_call (j := 110) (na := 4) (ci := 0) (fl := 2) rfl rfl rfl).trans (cj_d ⟨⟨Nat.le_of_ble_eq_true rfl, Nat.le_of_ble_eq_true rfl, Nat.le_of_ble_eq_true rfl, rfl⟩, Or.inl rfl⟩ Iff.rfl))

theorem b_J0_indexOf_7cf53_s2_17 {d : Nat} {Q : Option am_V → am_H → Prop} (h : am_H) (s0 : Int32) (s1 : Int32) (s2 : Int32) (l0 l1 l2 : Option am_V) : ex_ (d + 1) 111 17 [l0, l1, l2] [v_i s0, v_i s1, v_i s2, v_x 12] h Q ↔ ex_ d 100 0 [some (v_x 12), some (v_i s2), some (v_i s1), some (v_i s0)] [] h (fun r h' => ex_ (d + 1) 111 20 [l0, l1, l2] (r.toList ++ []) h' Q) := by
  unfold ex_
  exact ((am_Y_call (j := 100) (na := 4) (ci := 0) (fl := 2) rfl rfl rfl).trans (cj_d ⟨⟨Nat.le_of_ble_eq_true rfl, Nat.le_of_ble_eq_true rfl, Nat.le_of_ble_eq_true rfl, rfl⟩, Or.inl rfl⟩ Iff.rfl))

theorem b_J0_indexOf_7cf53_s2_36 {d : Nat} {Q : Option am_V → am_H → Prop} (h : am_H) (s0 : Int32) (l0 l1 l2 : Option am_V) : ex_ d 111 36 [l0, l1, l2] [v_i s0] h Q ↔ Q (some (v_i s0)) h := by
  unfold ex_
  exact ((am_Y_ret rfl rfl rfl).trans (am_r0))

theorem b_J0_indexOf_7cf53_s2_20 {d : Nat} {Q : Option am_V → am_H → Prop} (h : am_H) (s0 : Int32) (l0 l1 l2 : Option am_V) : ex_ d 111 20 [l0, l1, l2] [v_i s0] h Q ↔ Q (some (v_i s0)) h := by
  unfold ex_
  refine (am_Y_go 1 (ok := []) (g := (36, [l0, l1, l2], [v_i s0], h)) rfl).trans ?_
  all_goals exact ((am_Y_ret rfl rfl rfl).trans (am_r0))

theorem b_J0_indexOf_0f7a4_s0_0 {d : Nat} {Q : Option am_V → am_H → Prop} (h : am_H) (x1 : Int32) : ex_ (d + 1) 112 0 [some (v_x 0), some (v_i x1)] [] h Q ↔ ex_ d 111 0 [some (v_x 0), some (v_i x1), some (v_i (0 : Int32))] [] h (fun r h' => ex_ (d + 1) 112 6 [some (v_x 0), some (v_i x1)] (r.toList ++ []) h' Q) := by
  unfold ex_
  refine (am_Y_go 3 (ok := []) (g := (3, [some (v_x 0), some (v_i x1)], [v_i (0 : Int32), v_i x1, v_x 0], h)) rfl).trans ?_
  all_goals exact ((am_Y_call (j := 111) (na := 3) (ci := 50) (fl := 0) rfl rfl rfl).trans (cj_d ⟨⟨Nat.le_of_ble_eq_true rfl, Nat.le_of_ble_eq_true rfl, Nat.le_of_ble_eq_true rfl, rfl⟩, Or.inr (Or.inr (show (50 : Nat) = 50 ∧ (0 : Nat) < 3 from ⟨rfl, by decide⟩))⟩ Iff.rfl))

theorem b_J0_indexOf_0f7a4_s0_6 {d : Nat} {Q : Option am_V → am_H → Prop} (h : am_H) (s0 : Int32) (l0 l1 : Option am_V) : ex_ d 112 6 [l0, l1] [v_i s0] h Q ↔ Q (some (v_i s0)) h := by
  unfold ex_
  exact ((am_Y_ret rfl rfl rfl).trans (am_r0))

theorem b_J0_indexOf_0f7a4_s1_0 {d : Nat} {Q : Option am_V → am_H → Prop} (h : am_H) (x1 : Int32) : ex_ (d + 1) 112 0 [some (v_x 1), some (v_i x1)] [] h Q ↔ ex_ d 111 0 [some (v_x 1), some (v_i x1), some (v_i (0 : Int32))] [] h (fun r h' => ex_ (d + 1) 112 6 [some (v_x 1), some (v_i x1)] (r.toList ++ []) h' Q) := by
  unfold ex_
  refine (am_Y_go 3 (ok := []) (g := (3, [some (v_x 1), some (v_i x1)], [v_i (0 : Int32), v_i x1, v_x 1], h)) rfl).trans ?_
  all_goals exact ((am_Y_call (j := 111) (na := 3) (ci := 50) (fl := 0) rfl rfl rfl).trans (cj_d ⟨⟨Nat.le_of_ble_eq_true rfl, Nat.le_of_ble_eq_true rfl, Nat.le_of_ble_eq_true rfl, rfl⟩, Or.inr (Or.inr (show (50 : Nat) = 50 ∧ (1 : Nat) < 3 from ⟨rfl, by decide⟩))⟩ Iff.rfl))

theorem b_J0_indexOf_0f7a4_s1_6 {d : Nat} {Q : Option am_V → am_H → Prop} (h : am_H) (s0 : Int32) (l0 l1 : Option am_V) : ex_ d 112 6 [l0, l1] [v_i s0] h Q ↔ Q (some (v_i s0)) h := by
  unfold ex_
  exact ((am_Y_ret rfl rfl rfl).trans (am_r0))

theorem b_J0_indexOf_0f7a4_s2_0 {d : Nat} {Q : Option am_V → am_H → Prop} (h : am_H) (x1 : Int32) : ex_ (d + 1) 112 0 [some (v_x 2), some (v_i x1)] [] h Q ↔ ex_ d 111 0 [some (v_x 2), some (v_i x1), some (v_i (0 : Int32))] [] h (fun r h' => ex_ (d + 1) 112 6 [some (v_x 2), some (v_i x1)] (r.toList ++ []) h' Q) := by
  unfold ex_
  refine (am_Y_go 3 (ok := []) (g := (3, [some (v_x 2), some (v_i x1)], [v_i (0 : Int32), v_i x1, v_x 2], h)) rfl).trans ?_
  all_goals exact ((am_Y_call (j := 111) (na := 3) (ci := 50) (fl := 0) rfl rfl rfl).trans (cj_d ⟨⟨Nat.le_of_ble_eq_true rfl, Nat.le_of_ble_eq_true rfl, Nat.le_of_ble_eq_true rfl, rfl⟩, Or.inr (Or.inr (show (50 : Nat) = 50 ∧ (2 : Nat) < 3 from ⟨rfl, by decide⟩))⟩ Iff.rfl))

theorem b_J0_indexOf_0f7a4_s2_6 {d : Nat} {Q : Option am_V → am_H → Prop} (h : am_H) (s0 : Int32) (l0 l1 : Option am_V) : ex_ d 112 6 [l0, l1] [v_i s0] h Q ↔ Q (some (v_i s0)) h := by
  unfold ex_
  exact ((am_Y_ret rfl rfl rfl).trans (am_r0))

theorem b_J7_copyOf_59c91_0 {d : Nat} {Q : Option am_V → am_H → Prop} (h : am_H) (x1 : Int32) (o0 : Nat) (l2 : Option am_V) {n_o0 : Nat} (A_o0 : y_arr h o0 20 n_o0) : ex_ d 136 0 [some (v_r (some o0)), some (v_i x1), l2] [] h Q ↔ if ¬ x1 = (nI n_o0) then ex_ d 136 14 [some (v_r (some o0)), some (v_i x1), l2] [] h Q else ex_ d 136 6 [some (v_r (some o0)), some (v_i x1), l2] [] h Q := by
  have e0 : h_l h o0 = n_o0 := (lb_l A_o0)
  unfold ex_
  refine (am_Y_go 4 (ok := [am_an h (some o0)]) (g := (if ¬ x1 = (nI (h_l h o0)) then 14 else 6, [some (v_r (some o0)), some (v_i x1), l2], [], h)) rfl).trans ?_
  simp only [e0, Option.getD_some, am_all]
  all_goals exact cj_d (lb_an20 A_o0) (am_Y_if)

theorem b_J7_copyOf_59c91_14 {d : Nat} {Q : Option am_V → am_H → Prop} (h : am_H) (x1 : Int32) (o0 : Nat) (l2 : Option am_V) {n_o0 : Nat} (A_o0 : y_arr h o0 20 n_o0) : ex_ d 136 14 [some (v_r (some o0)), some (v_i x1), l2] [] h Q ↔ ¬ x1 < 0 ∧ Int32.toNatClampNeg x1 ≤ 100000 ∧ ex_ d 136 23 [some (v_r (some o0)), some (v_i x1), some (v_r (some (h_n h)))] [v_r (some o0), v_i (0 : Int32), v_r (some (h_n h)), v_i (0 : Int32), v_r (some o0)] (p_n h 20 (Int32.toNatClampNeg x1)) Q := by
  unfold ex_
  refine (am_Y_go 8 (ok := [¬ x1 < 0, Int32.toNatClampNeg x1 ≤ 100000]) (g := (23, [some (v_r (some o0)), some (v_i x1), some (v_r (some (h_n h)))], [v_r (some o0), v_i (0 : Int32), v_r (some (h_n h)), v_i (0 : Int32), v_r (some o0)], (p_n h 20 (Int32.toNatClampNeg x1)))) rfl).trans ?_
  simp only [am_all]
  all_goals exact cj_k Iff.rfl (cj_k Iff.rfl (Iff.rfl))

theorem b_J7_copyOf_59c91_6 {d : Nat} {Q : Option am_V → am_H → Prop} (h : am_H) (o0 : Nat) (l1 l2 : Option am_V) {n_o0 : Nat} (A_o0 : y_arr h o0 20 n_o0) : ex_ d 136 6 [some (v_r (some o0)), l1, l2] [] h Q ↔ ex_ d 136 7 [some (v_r (some o0)), l1, l2] [v_r (some o0)] h Q := by
  unfold ex_
  refine (am_Y_go 1 (ok := []) (g := (7, [some (v_r (some o0)), l1, l2], [v_r (some o0)], h)) rfl).trans ?_
  all_goals exact Iff.rfl

theorem b_J7_copyOf_59c91_7 {d : Nat} {Q : Option am_V → am_H → Prop} (h : am_H) (t0 : Nat) (l0 l1 l2 : Option am_V) {n_t0 : Nat} (A_t0 : y_arr h t0 20 n_t0) : ex_ d 136 7 [l0, l1, l2] [v_r (some t0)] h Q ↔ ex_ d 136 7 [l0, l1, l2] [v_r (some t0)] h Q := by
  unfold ex_
  refine (am_Y_go 0 (ok := []) (g := (7, [l0, l1, l2], [v_r (some t0)], h)) rfl).trans ?_
  all_goals exact Iff.rfl

theorem b_J7_fill_d0a16_0 {d : Nat} {Q : Option am_V → am_H → Prop} (h : am_H) (o0 : Nat) (l1 l2 l3 l4 : Option am_V) {n_o0 : Nat} (A_o0 : y_arr h o0 23 n_o0) : ex_ d 143 0 [some (v_r (some o0)), l1, l2, l3, l4] [] h Q ↔ ex_ d 143 6 [some (v_r (some o0)), l1, l2, some (v_i (0 : Int32)), some (v_i (nI n_o0))] [] h Q := by
  have e0 : h_l h o0 = n_o0 := (lb_l A_o0)
  unfold ex_
  refine (am_Y_go 5 (ok := [am_an h (some o0)]) (g := (6, [some (v_r (some o0)), l1, l2, some (v_i (0 : Int32)), some (v_i (nI (h_l h o0)))], [], h)) rfl).trans ?_
  simp only [e0, Option.getD_some, am_all]
  all_goals exact cj_d (lb_an23 A_o0) (Iff.rfl)

theorem b_J7_fill_d0a16_6 {d : Nat} {Q : Option am_V → am_H → Prop} (h : am_H) (x3 : Int32) (x4 : Int32) (l0 l1 l2 : Option am_V) : ex_ d 143 6 [l0, l1, l2, some (v_i x3), some (v_i x4)] [] h Q ↔ if x4 ≤ x3 then ex_ d 143 22 [l0, l1, l2, some (v_i x3), some (v_i x4)] [] h Q else ex_ d 143 12 [l0, l1, l2, some (v_i x3), some (v_i x4)] [] h Q := by
  unfold ex_
  refine (am_Y_go 3 (ok := []) (g := (if x4 ≤ x3 then 22 else 12, [l0, l1, l2, some (v_i x3), some (v_i x4)], [], h)) rfl).trans ?_
  all_goals exact am_Y_if

theorem b_J7_fill_d0a16_22 {d : Nat} {Q : Option am_V → am_H → Prop} (h : am_H) (l0 l1 l2 l3 l4 : Option am_V) : ex_ d 143 22 [l0, l1, l2, l3, l4] [] h Q ↔ Q (none) h := by
  unfold ex_
  exact ((am_Y_ret rfl rfl rfl).trans (am_rz rfl))

theorem b_J7_fill_d0a16_12 {d : Nat} {Q : Option am_V → am_H → Prop} (h : am_H) (o0 : Nat) (x3 : Int32) (x1 : Int64) (l2 l4 : Option am_V) {n_o0 : Nat} (A_o0 : y_arr h o0 23 n_o0) : ex_ d 143 12 [some (v_r (some o0)), some (v_l x1), l2, some (v_i x3), l4] [] h Q ↔ vp_in x3 n_o0 ∧ ex_ d 143 6 [some (v_r (some o0)), some (v_l x1), l2, some (v_i (x3 + (1 : Int32))), l4] [] (p_j h o0 (Int32.toNatClampNeg x3) x1) Q := by
  unfold ex_
  refine (am_Y_go 6 (ok := [am_ar h (some o0) 23 x3]) (g := (6, [some (v_r (some o0)), some (v_l x1), l2, some (v_i (x3 + (1 : Int32))), l4], [], (p_j h o0 (Int32.toNatClampNeg x3) x1))) rfl).trans ?_
  simp only [am_all]
  all_goals exact cj_k (lb_ar A_o0) (Iff.rfl)
