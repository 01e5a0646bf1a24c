/-- the small heap at the law's entry -/
def h_0 (L : Nat) (xs : Nat → Int32) : am_H := ((0, 0), fun _ => (0, 0), fun _ _ => 0, fun _ _ => 0, fun _ _ => none, (L, xs))
/-! ===== the law up to its loop ===== -/
def i1 (q : Nat × Nat × Nat × Nat) (h : am_H) : am_H := match q.1 with
  | 0 => p_n h q.2.1 q.2.2.1
  | 1 => p_r h q.2.1 q.2.2.1 (some q.2.2.2)
  | _ => p_i h q.2.1 q.2.2.1 (-1)
def i_fo : List (Nat × Nat × Nat × Nat) → am_H → am_H
  | [], h => h
  | q :: r, h => i_fo r (i1 q h)
def iv (h : am_H) (N : Nat) : Prop := h_n h = N ∧ ∀ o, o < N → h.2.1 o = y_tab.getD o (0, 0)
theorem iv_n {h : am_H} {N k n : Nat} (I : iv h N) (ht : y_tab.getD N (0, 0) = (k, n)) : iv (p_n h k n) (N + 1) := by
  refine ⟨by show h_n h + 1 = N + 1; rw [I.1], fun o ho => ?_⟩
  show am_up h.2.1 (h_n h) (k, n) o = _
  unfold am_up
  by_cases z : o = h_n h
  · rw [if_pos z, z, I.1, ht]
  · rw [if_neg z]
    exact I.2 o (by have := I.1; omega)
theorem iv_r {h : am_H} {N o k : Nat} {v : Option Nat} (I : iv h N) : iv (p_r h o k v) N := I
theorem iv_i {h : am_H} {N o k : Nat} {v : Int32} (I : iv h N) : iv (p_i h o k v) N := I
theorem iv.is {h : am_H} {N o k : Nat} (I : iv h N) (ho : o < N) (hk : (y_tab.getD o (0, 0)).1 = k) : am_is h (some o) k := ⟨o, rfl, by rw [I.1]; exact ho, by unfold h_k; rw [I.2 o ho]; exact hk⟩
theorem iv.ar {h : am_H} {N o k n : Nat} {i : Int32} (I : iv h N) (ho : o < N) (hk : y_tab.getD o (0, 0) = (k, n)) (hi : vp_in i n) : am_ar h (some o) k i := ⟨o, rfl, by rw [I.1]; exact ho, by unfold h_k; rw [I.2 o ho, hk], by unfold h_l; rw [I.2 o ho, hk]; exact hi⟩
def okF : Nat → List (Nat × Nat × Nat × Nat) → Option Nat
  | N, [] => some N
  | N, q :: r => match q.1 with
    | 0 => if y_tab.getD N (0, 0) = (q.2.1, q.2.2.1) then okF (N + 1) r else none
    | _ => okF N r
theorem iv_fo : ∀ (l : List (Nat × Nat × Nat × Nat)) {h : am_H} {N N' : Nat}, okF N l = some N' → iv h N → iv (i_fo l h) N' := by
  intro l
  induction l with
  | nil => intro h N N' e I; cases e; exact I
  | cons q r ih =>
    intro h N N' e I
    obtain ⟨t, a, b, c⟩ := q
    match t, e with
    | 0, e =>
      have e : (if y_tab.getD N (0, 0) = (a, b) then okF (N + 1) r else none) = some N' := e
      by_cases z : y_tab.getD N (0, 0) = (a, b)
      · rw [if_pos z] at e
        exact ih e (iv_n I z)
      · rw [if_neg z] at e; cases e
    | 1, e => exact ih e (iv_r (v := some c) (o := a) (k := b) I)
    | t + 2, e => exact ih e (iv_i (v := -1) (o := a) (k := b) I)
set_option maxRecDepth 100000 in
theorem in_0 {d : Nat} {Q : Option am_V → am_H → Prop} {h : am_H} (I : iv h 0) : ex_ d 0 0 [some (v_x 20), none, none, none] [] h Q ↔ ex_ d 0 4 [some (v_x 20), none, none, none] [v_r (some 0), v_r (some 0)] (i_fo [(0, 11, 19, 0)] h) Q := by
  have R := am_Y_go (byt := am_byt) (P := am_p) 2 (d := d) (k := 0) (Q := Q) (f := (0, [some (v_x 20), none, none, none], [], h)) (ok := []) (g := (4, [some (v_x 20), none, none, none], [v_r (some (h_n h)), v_r (some (h_n h))], p_n h 11 19)) rfl
  rw [I.1] at R
  exact R.trans Iff.rfl
set_option maxRecDepth 100000 in
theorem in_1 {d : Nat} {Q : Option am_V → am_H → Prop} {h : am_H} (I : iv h 1) : ex_ (d + 1) 0 4 [some (v_x 20), none, none, none] [v_r (some 0), v_r (some 0)] h Q ↔ ex_ d 161 0 [some (v_r (some 0)), none] [] h (fun r h' => ex_ (d + 1) 0 7 [some (v_x 20), none, none, none] (r.toList ++ [v_r (some 0)]) h' Q) := (am_Y_call (j := 161) (na := 1) (ci := 11) (fl := 4) rfl rfl rfl).trans (cj_d ⟨⟨Nat.le_of_ble_eq_true rfl, Nat.le_of_ble_eq_true rfl, Nat.le_of_ble_eq_true rfl, rfl⟩, Or.inr (Or.inr (show (11 : Nat) < 20 ∧ am_is h (some 0) 11 from ⟨by decide, iv.is I (by decide) rfl⟩))⟩ Iff.rfl)
set_option maxRecDepth 100000 in
theorem in_2 {d : Nat} {Q : Option am_V → am_H → Prop} {h : am_H} (I : iv h 1) : ex_ d 161 0 [some (v_r (some 0)), none] [] h Q ↔ ex_ d 161 23 [some (v_r (some 0)), none] [v_r (some 2), v_r (some 2), v_r (some 0)] (i_fo [(0, 21, 900, 0), (1, 0, 0, 1), (2, 0, 3, 0), (0, 8, 17, 0)] h) Q := by
  have R := am_Y_go (byt := am_byt) (P := am_p) 12 (d := d) (k := 161) (Q := Q) (f := (0, [some (v_r (some 0)), none], [], h)) (ok := [¬ (some 0) = none, ¬ (900 : Int32) < 0, Int32.toNatClampNeg (900 : Int32) ≤ 100000, am_is (p_n h 21 900) (some 0) 11, am_is (p_r (p_n h 21 900) 0 0 (some (h_n h))) (some 0) 11]) (g := (23, [some (v_r (some 0)), none], [v_r (some (h_n h + 1)), v_r (some (h_n h + 1)), v_r (some 0)], p_n (p_i (p_r (p_n h 21 900) 0 0 (some (h_n h))) 0 3 (-1 : Int32)) 8 17)) rfl
  rw [I.1] at R
  exact R.trans (cj_d (fun z => by cases z) (cj_d (by decide) (cj_d (by decide) (cj_d (iv.is (N := 2) (iv_n I rfl) (by decide) rfl) (cj_d (iv.is (N := 2) (iv_r (iv_n I rfl)) (by decide) rfl) Iff.rfl)))))
set_option maxRecDepth 100000 in
theorem in_3 {d : Nat} {Q : Option am_V → am_H → Prop} {h : am_H} (I : iv h 3) : ex_ (d + 1) 161 23 [some (v_r (some 0)), none] [v_r (some 2), v_r (some 2), v_r (some 0)] h Q ↔ ex_ d 79 0 [some (v_r (some 2))] [] h (fun r h' => ex_ (d + 1) 161 26 [some (v_r (some 0)), none] (r.toList ++ [v_r (some 2), v_r (some 0)]) h' Q) := (am_Y_call (j := 79) (na := 1) (ci := 8) (fl := 5) rfl rfl rfl).trans (cj_d ⟨⟨Nat.le_of_ble_eq_true rfl, Nat.le_of_ble_eq_true rfl, Nat.le_of_ble_eq_true rfl, rfl⟩, Or.inr (Or.inr (show (8 : Nat) < 20 ∧ am_is h (some 2) 8 from ⟨by decide, iv.is I (by decide) rfl⟩))⟩ Iff.rfl)
set_option maxRecDepth 100000 in
theorem in_4 {d : Nat} {Q : Option am_V → am_H → Prop} {h : am_H} (I : iv h 3) : ex_ d 79 0 [some (v_r (some 2))] [] h Q ↔ ex_ d 79 27 [some (v_r (some 2))] [v_r (some 5), v_r (some 5), v_r (some 2)] (i_fo [(0, 20, 901, 0), (1, 2, 2, 3), (0, 20, 901, 0), (1, 2, 3, 4), (0, 1, 5, 0)] h) Q := by
  have R := am_Y_go (byt := am_byt) (P := am_p) 13 (d := d) (k := 79) (Q := Q) (f := (0, [some (v_r (some 2))], [], h)) (ok := [¬ (some 2) = none, ¬ (901 : Int32) < 0, Int32.toNatClampNeg (901 : Int32) ≤ 100000, am_is (p_n h 20 901) (some 2) 8, ¬ (901 : Int32) < 0, Int32.toNatClampNeg (901 : Int32) ≤ 100000, am_is (p_n (p_r (p_n h 20 901) 2 2 (some (h_n h))) 20 901) (some 2) 8]) (g := (27, [some (v_r (some 2))], [v_r (some (h_n h + 2)), v_r (some (h_n h + 2)), v_r (some 2)], p_n (p_r (p_n (p_r (p_n h 20 901) 2 2 (some (h_n h))) 20 901) 2 3 (some (h_n h + 1))) 1 5)) rfl
  rw [I.1] at R
  exact R.trans (cj_d (fun z => by cases z) (cj_d (by decide) (cj_d (by decide) (cj_d (iv.is (N := 4) (iv_n I rfl) (by decide) rfl) (cj_d (by decide) (cj_d (by decide) (cj_d (iv.is (N := 5) (iv_n (iv_r (iv_n I rfl)) rfl) (by decide) rfl) Iff.rfl)))))))
set_option maxRecDepth 100000 in
theorem in_5 {d : Nat} {Q : Option am_V → am_H → Prop} {h : am_H} (I : iv h 6) : ex_ (d + 1) 79 27 [some (v_r (some 2))] [v_r (some 5), v_r (some 5), v_r (some 2)] h Q ↔ ex_ d 26 0 [some (v_r (some 5))] [] h (fun r h' => ex_ (d + 1) 79 30 [some (v_r (some 2))] (r.toList ++ [v_r (some 5), v_r (some 2)]) h' Q) := (am_Y_call (j := 26) (na := 1) (ci := 1) (fl := 5) rfl rfl rfl).trans (cj_d ⟨⟨Nat.le_of_ble_eq_true rfl, Nat.le_of_ble_eq_true rfl, Nat.le_of_ble_eq_true rfl, rfl⟩, Or.inr (Or.inr (show (1 : Nat) < 20 ∧ am_is h (some 5) 1 from ⟨by decide, iv.is I (by decide) rfl⟩))⟩ Iff.rfl)
set_option maxRecDepth 100000 in
theorem in_6 {d : Nat} {Q : Option am_V → am_H → Prop} {h : am_H} (I : iv h 6) : ex_ d 26 0 [some (v_r (some 5))] [] h Q ↔ ex_ d 26 28 [some (v_r (some 5))] [] (i_fo [(0, 20, 10, 0), (1, 5, 2, 6), (0, 20, 40, 0), (1, 5, 3, 7), (0, 20, 80, 0), (1, 5, 4, 8)] h) Q := by
  have R := am_Y_go (byt := am_byt) (P := am_p) 14 (d := d) (k := 26) (Q := Q) (f := (0, [some (v_r (some 5))], [], h)) (ok := [¬ (some 5) = none, ¬ (10 : Int32) < 0, Int32.toNatClampNeg (10 : Int32) ≤ 100000, am_is (p_n h 20 10) (some 5) 1, ¬ (40 : Int32) < 0, Int32.toNatClampNeg (40 : Int32) ≤ 100000, am_is (p_n (p_r (p_n h 20 10) 5 2 (some (h_n h))) 20 40) (some 5) 1, ¬ (80 : Int32) < 0, Int32.toNatClampNeg (80 : Int32) ≤ 100000, am_is (p_n (p_r (p_n (p_r (p_n h 20 10) 5 2 (some (h_n h))) 20 40) 5 3 (some (h_n h + 1))) 20 80) (some 5) 1]) (g := (28, [some (v_r (some 5))], [], p_r (p_n (p_r (p_n (p_r (p_n h 20 10) 5 2 (some (h_n h))) 20 40) 5 3 (some (h_n h + 1))) 20 80) 5 4 (some (h_n h + 2)))) rfl
  rw [I.1] at R
  exact R.trans (cj_d (fun z => by cases z) (cj_d (by decide) (cj_d (by decide) (cj_d (iv.is (N := 7) (iv_n I rfl) (by decide) rfl) (cj_d (by decide) (cj_d (by decide) (cj_d (iv.is (N := 8) (iv_n (iv_r (iv_n I rfl)) rfl) (by decide) rfl) (cj_d (by decide) (cj_d (by decide) (cj_d (iv.is (N := 9) (iv_n (iv_r (iv_n (iv_r (iv_n I rfl)) rfl)) rfl) (by decide) rfl) Iff.rfl))))))))))
set_option maxRecDepth 100000 in
theorem in_7 {d : Nat} {Q : Option am_V → am_H → Prop} {h : am_H} : ex_ d 26 28 [some (v_r (some 5))] [] h Q ↔ Q none h := (am_Y_ret rfl rfl rfl).trans (am_rz rfl)
set_option maxRecDepth 100000 in
theorem in_8 {d : Nat} {Q : Option am_V → am_H → Prop} {h : am_H} (I : iv h 9) : ex_ d 79 30 [some (v_r (some 2))] [v_r (some 5), v_r (some 2)] h Q ↔ ex_ d 79 42 [some (v_r (some 2))] [] (i_fo [(1, 2, 9, 5), (0, 20, 900, 0), (1, 2, 13, 9)] h) Q := by
  have R := am_Y_go (byt := am_byt) (P := am_p) 5 (d := d) (k := 79) (Q := Q) (f := (30, [some (v_r (some 2))], [v_r (some 5), v_r (some 2)], h)) (ok := [am_is h (some 2) 8, ¬ (900 : Int32) < 0, Int32.toNatClampNeg (900 : Int32) ≤ 100000, am_is (p_n (p_r h 2 9 (some 5)) 20 900) (some 2) 8]) (g := (42, [some (v_r (some 2))], [], p_r (p_n (p_r h 2 9 (some 5)) 20 900) 2 13 (some (h_n h)))) rfl
  rw [I.1] at R
  exact R.trans (cj_d (iv.is (N := 9) I (by decide) rfl) (cj_d (by decide) (cj_d (by decide) (cj_d (iv.is (N := 10) (iv_n (iv_r I) rfl) (by decide) rfl) Iff.rfl))))
set_option maxRecDepth 100000 in
theorem in_9 {d : Nat} {Q : Option am_V → am_H → Prop} {h : am_H} : ex_ d 79 42 [some (v_r (some 2))] [] h Q ↔ Q none h := (am_Y_ret rfl rfl rfl).trans (am_rz rfl)
set_option maxRecDepth 100000 in
theorem in_10 {d : Nat} {Q : Option am_V → am_H → Prop} {h : am_H} (I : iv h 10) : ex_ d 161 26 [some (v_r (some 0)), none] [v_r (some 2), v_r (some 0)] h Q ↔ ex_ d 161 34 [some (v_r (some 0)), none] [v_r (some 10), v_r (some 10), v_r (some 0)] (i_fo [(1, 0, 4, 2), (0, 2, 4, 0)] h) Q := by
  have R := am_Y_go (byt := am_byt) (P := am_p) 4 (d := d) (k := 161) (Q := Q) (f := (26, [some (v_r (some 0)), none], [v_r (some 2), v_r (some 0)], h)) (ok := [am_is h (some 0) 11]) (g := (34, [some (v_r (some 0)), none], [v_r (some (h_n h)), v_r (some (h_n h)), v_r (some 0)], p_n (p_r h 0 4 (some 2)) 2 4)) rfl
  rw [I.1] at R
  exact R.trans (cj_d (iv.is (N := 10) I (by decide) rfl) Iff.rfl)
set_option maxRecDepth 100000 in
theorem in_11 {d : Nat} {Q : Option am_V → am_H → Prop} {h : am_H} (I : iv h 11) : ex_ (d + 1) 161 34 [some (v_r (some 0)), none] [v_r (some 10), v_r (some 10), v_r (some 0)] h Q ↔ ex_ d 42 0 [some (v_r (some 10))] [] h (fun r h' => ex_ (d + 1) 161 37 [some (v_r (some 0)), none] (r.toList ++ [v_r (some 10), v_r (some 0)]) h' Q) := (am_Y_call (j := 42) (na := 1) (ci := 2) (fl := 5) rfl rfl rfl).trans (cj_d ⟨⟨Nat.le_of_ble_eq_true rfl, Nat.le_of_ble_eq_true rfl, Nat.le_of_ble_eq_true rfl, rfl⟩, Or.inr (Or.inr (show (2 : Nat) < 20 ∧ am_is h (some 10) 2 from ⟨by decide, iv.is I (by decide) rfl⟩))⟩ Iff.rfl)
set_option maxRecDepth 100000 in
theorem in_12 {d : Nat} {Q : Option am_V → am_H → Prop} {h : am_H} (I : iv h 11) : ex_ d 42 0 [some (v_r (some 10))] [] h Q ↔ ex_ d 42 9 [some (v_r (some 10))] [v_r (some 11), v_r (some 11), v_r (some 10)] (i_fo [(0, 1, 5, 0)] h) Q := by
  have R := am_Y_go (byt := am_byt) (P := am_p) 5 (d := d) (k := 42) (Q := Q) (f := (0, [some (v_r (some 10))], [], h)) (ok := [¬ (some 10) = none]) (g := (9, [some (v_r (some 10))], [v_r (some (h_n h)), v_r (some (h_n h)), v_r (some 10)], p_n h 1 5)) rfl
  rw [I.1] at R
  exact R.trans (cj_d (fun z => by cases z) Iff.rfl)
set_option maxRecDepth 100000 in
theorem in_13 {d : Nat} {Q : Option am_V → am_H → Prop} {h : am_H} (I : iv h 12) : ex_ (d + 1) 42 9 [some (v_r (some 10))] [v_r (some 11), v_r (some 11), v_r (some 10)] h Q ↔ ex_ d 26 0 [some (v_r (some 11))] [] h (fun r h' => ex_ (d + 1) 42 12 [some (v_r (some 10))] (r.toList ++ [v_r (some 11), v_r (some 10)]) h' Q) := (am_Y_call (j := 26) (na := 1) (ci := 1) (fl := 5) rfl rfl rfl).trans (cj_d ⟨⟨Nat.le_of_ble_eq_true rfl, Nat.le_of_ble_eq_true rfl, Nat.le_of_ble_eq_true rfl, rfl⟩, Or.inr (Or.inr (show (1 : Nat) < 20 ∧ am_is h (some 11) 1 from ⟨by decide, iv.is I (by decide) rfl⟩))⟩ Iff.rfl)
set_option maxRecDepth 100000 in
theorem in_14 {d : Nat} {Q : Option am_V → am_H → Prop} {h : am_H} (I : iv h 12) : ex_ d 26 0 [some (v_r (some 11))] [] h Q ↔ ex_ d 26 28 [some (v_r (some 11))] [] (i_fo [(0, 20, 10, 0), (1, 11, 2, 12), (0, 20, 40, 0), (1, 11, 3, 13), (0, 20, 80, 0), (1, 11, 4, 14)] h) Q := by
  have R := am_Y_go (byt := am_byt) (P := am_p) 14 (d := d) (k := 26) (Q := Q) (f := (0, [some (v_r (some 11))], [], h)) (ok := [¬ (some 11) = none, ¬ (10 : Int32) < 0, Int32.toNatClampNeg (10 : Int32) ≤ 100000, am_is (p_n h 20 10) (some 11) 1, ¬ (40 : Int32) < 0, Int32.toNatClampNeg (40 : Int32) ≤ 100000, am_is (p_n (p_r (p_n h 20 10) 11 2 (some (h_n h))) 20 40) (some 11) 1, ¬ (80 : Int32) < 0, Int32.toNatClampNeg (80 : Int32) ≤ 100000, am_is (p_n (p_r (p_n (p_r (p_n h 20 10) 11 2 (some (h_n h))) 20 40) 11 3 (some (h_n h + 1))) 20 80) (some 11) 1]) (g := (28, [some (v_r (some 11))], [], p_r (p_n (p_r (p_n (p_r (p_n h 20 10) 11 2 (some (h_n h))) 20 40) 11 3 (some (h_n h + 1))) 20 80) 11 4 (some (h_n h + 2)))) rfl
  rw [I.1] at R
  exact R.trans (cj_d (fun z => by cases z) (cj_d (by decide) (cj_d (by decide) (cj_d (iv.is (N := 13) (iv_n I rfl) (by decide) rfl) (cj_d (by decide) (cj_d (by decide) (cj_d (iv.is (N := 14) (iv_n (iv_r (iv_n I rfl)) rfl) (by decide) rfl) (cj_d (by decide) (cj_d (by decide) (cj_d (iv.is (N := 15) (iv_n (iv_r (iv_n (iv_r (iv_n I rfl)) rfl)) rfl) (by decide) rfl) Iff.rfl))))))))))
set_option maxRecDepth 100000 in
theorem in_15 {d : Nat} {Q : Option am_V → am_H → Prop} {h : am_H} : ex_ d 26 28 [some (v_r (some 11))] [] h Q ↔ Q none h := (am_Y_ret rfl rfl rfl).trans (am_rz rfl)
set_option maxRecDepth 100000 in
theorem in_16 {d : Nat} {Q : Option am_V → am_H → Prop} {h : am_H} (I : iv h 15) : ex_ d 42 12 [some (v_r (some 10))] [v_r (some 11), v_r (some 10)] h Q ↔ ex_ d 42 15 [some (v_r (some 10))] [] (i_fo [(1, 10, 0, 11)] h) Q := by
  have R := am_Y_go (byt := am_byt) (P := am_p) 1 (d := d) (k := 42) (Q := Q) (f := (12, [some (v_r (some 10))], [v_r (some 11), v_r (some 10)], h)) (ok := [am_is h (some 10) 2]) (g := (15, [some (v_r (some 10))], [], p_r h 10 0 (some 11))) rfl
  exact R.trans (cj_d (iv.is (N := 15) I (by decide) rfl) Iff.rfl)
set_option maxRecDepth 100000 in
theorem in_17 {d : Nat} {Q : Option am_V → am_H → Prop} {h : am_H} : ex_ d 42 15 [some (v_r (some 10))] [] h Q ↔ Q none h := (am_Y_ret rfl rfl rfl).trans (am_rz rfl)
set_option maxRecDepth 100000 in
theorem in_18 {d : Nat} {Q : Option am_V → am_H → Prop} {h : am_H} (I : iv h 15) : ex_ d 161 37 [some (v_r (some 0)), none] [v_r (some 10), v_r (some 0)] h Q ↔ ex_ d 161 45 [some (v_r (some 0)), none] [v_r (some 15), v_r (some 15), v_r (some 0)] (i_fo [(1, 0, 5, 10), (0, 6, 9, 0)] h) Q := by
  have R := am_Y_go (byt := am_byt) (P := am_p) 4 (d := d) (k := 161) (Q := Q) (f := (37, [some (v_r (some 0)), none], [v_r (some 10), v_r (some 0)], h)) (ok := [am_is h (some 0) 11]) (g := (45, [some (v_r (some 0)), none], [v_r (some (h_n h)), v_r (some (h_n h)), v_r (some 0)], p_n (p_r h 0 5 (some 10)) 6 9)) rfl
  rw [I.1] at R
  exact R.trans (cj_d (iv.is (N := 15) I (by decide) rfl) Iff.rfl)
set_option maxRecDepth 100000 in
theorem in_19 {d : Nat} {Q : Option am_V → am_H → Prop} {h : am_H} (I : iv h 16) : ex_ (d + 1) 161 45 [some (v_r (some 0)), none] [v_r (some 15), v_r (some 15), v_r (some 0)] h Q ↔ ex_ d 44 0 [some (v_r (some 15))] [] h (fun r h' => ex_ (d + 1) 161 48 [some (v_r (some 0)), none] (r.toList ++ [v_r (some 15), v_r (some 0)]) h' Q) := (am_Y_call (j := 44) (na := 1) (ci := 6) (fl := 5) rfl rfl rfl).trans (cj_d ⟨⟨Nat.le_of_ble_eq_true rfl, Nat.le_of_ble_eq_true rfl, Nat.le_of_ble_eq_true rfl, rfl⟩, Or.inr (Or.inr (show (6 : Nat) < 20 ∧ am_is h (some 15) 6 from ⟨by decide, iv.is I (by decide) rfl⟩))⟩ Iff.rfl)
set_option maxRecDepth 100000 in
theorem in_20 {d : Nat} {Q : Option am_V → am_H → Prop} {h : am_H} (I : iv h 16) : ex_ d 44 0 [some (v_r (some 15))] [] h Q ↔ ex_ d 44 28 [some (v_r (some 15))] [] (i_fo [(0, 20, 11, 0), (1, 15, 0, 16), (0, 20, 11, 0), (1, 15, 1, 17), (0, 20, 121, 0), (1, 15, 2, 18)] h) Q := by
  have R := am_Y_go (byt := am_byt) (P := am_p) 14 (d := d) (k := 44) (Q := Q) (f := (0, [some (v_r (some 15))], [], h)) (ok := [¬ (some 15) = none, ¬ (11 : Int32) < 0, Int32.toNatClampNeg (11 : Int32) ≤ 100000, am_is (p_n h 20 11) (some 15) 6, ¬ (11 : Int32) < 0, Int32.toNatClampNeg (11 : Int32) ≤ 100000, am_is (p_n (p_r (p_n h 20 11) 15 0 (some (h_n h))) 20 11) (some 15) 6, ¬ (121 : Int32) < 0, Int32.toNatClampNeg (121 : Int32) ≤ 100000, am_is (p_n (p_r (p_n (p_r (p_n h 20 11) 15 0 (some (h_n h))) 20 11) 15 1 (some (h_n h + 1))) 20 121) (some 15) 6]) (g := (28, [some (v_r (some 15))], [], p_r (p_n (p_r (p_n (p_r (p_n h 20 11) 15 0 (some (h_n h))) 20 11) 15 1 (some (h_n h + 1))) 20 121) 15 2 (some (h_n h + 2)))) rfl
  rw [I.1] at R
  exact R.trans (cj_d (fun z => by cases z) (cj_d (by decide) (cj_d (by decide) (cj_d (iv.is (N := 17) (iv_n I rfl) (by decide) rfl) (cj_d (by decide) (cj_d (by decide) (cj_d (iv.is (N := 18) (iv_n (iv_r (iv_n I rfl)) rfl) (by decide) rfl) (cj_d (by decide) (cj_d (by decide) (cj_d (iv.is (N := 19) (iv_n (iv_r (iv_n (iv_r (iv_n I rfl)) rfl)) rfl) (by decide) rfl) Iff.rfl))))))))))
set_option maxRecDepth 100000 in
theorem in_21 {d : Nat} {Q : Option am_V → am_H → Prop} {h : am_H} (I : iv h 19) : ex_ d 44 28 [some (v_r (some 15))] [] h Q ↔ ex_ d 44 50 [some (v_r (some 15))] [] (i_fo [(0, 20, 4, 0), (1, 15, 3, 19), (0, 20, 55, 0), (1, 15, 4, 20), (0, 20, 5, 0), (1, 15, 5, 21)] h) Q := by
  have R := am_Y_go (byt := am_byt) (P := am_p) 12 (d := d) (k := 44) (Q := Q) (f := (28, [some (v_r (some 15))], [], h)) (ok := [¬ (4 : Int32) < 0, Int32.toNatClampNeg (4 : Int32) ≤ 100000, am_is (p_n h 20 4) (some 15) 6, ¬ (55 : Int32) < 0, Int32.toNatClampNeg (55 : Int32) ≤ 100000, am_is (p_n (p_r (p_n h 20 4) 15 3 (some (h_n h))) 20 55) (some 15) 6, ¬ (5 : Int32) < 0, Int32.toNatClampNeg (5 : Int32) ≤ 100000, am_is (p_n (p_r (p_n (p_r (p_n h 20 4) 15 3 (some (h_n h))) 20 55) 15 4 (some (h_n h + 1))) 20 5) (some 15) 6]) (g := (50, [some (v_r (some 15))], [], p_r (p_n (p_r (p_n (p_r (p_n h 20 4) 15 3 (some (h_n h))) 20 55) 15 4 (some (h_n h + 1))) 20 5) 15 5 (some (h_n h + 2)))) rfl
  rw [I.1] at R
  exact R.trans (cj_d (by decide) (cj_d (by decide) (cj_d (iv.is (N := 20) (iv_n I rfl) (by decide) rfl) (cj_d (by decide) (cj_d (by decide) (cj_d (iv.is (N := 21) (iv_n (iv_r (iv_n I rfl)) rfl) (by decide) rfl) (cj_d (by decide) (cj_d (by decide) (cj_d (iv.is (N := 22) (iv_n (iv_r (iv_n (iv_r (iv_n I rfl)) rfl)) rfl) (by decide) rfl) Iff.rfl)))))))))
set_option maxRecDepth 100000 in
theorem in_22 {d : Nat} {Q : Option am_V → am_H → Prop} {h : am_H} (I : iv h 22) : ex_ d 44 50 [some (v_r (some 15))] [] h Q ↔ ex_ d 44 71 [some (v_r (some 15))] [] (i_fo [(0, 20, 5, 0), (1, 15, 6, 22), (0, 20, 5, 0), (1, 15, 7, 23), (0, 20, 5, 0), (1, 15, 8, 24)] h) Q := by
  have R := am_Y_go (byt := am_byt) (P := am_p) 12 (d := d) (k := 44) (Q := Q) (f := (50, [some (v_r (some 15))], [], h)) (ok := [¬ (5 : Int32) < 0, Int32.toNatClampNeg (5 : Int32) ≤ 100000, am_is (p_n h 20 5) (some 15) 6, ¬ (5 : Int32) < 0, Int32.toNatClampNeg (5 : Int32) ≤ 100000, am_is (p_n (p_r (p_n h 20 5) 15 6 (some (h_n h))) 20 5) (some 15) 6, ¬ (5 : Int32) < 0, Int32.toNatClampNeg (5 : Int32) ≤ 100000, am_is (p_n (p_r (p_n (p_r (p_n h 20 5) 15 6 (some (h_n h))) 20 5) 15 7 (some (h_n h + 1))) 20 5) (some 15) 6]) (g := (71, [some (v_r (some 15))], [], p_r (p_n (p_r (p_n (p_r (p_n h 20 5) 15 6 (some (h_n h))) 20 5) 15 7 (some (h_n h + 1))) 20 5) 15 8 (some (h_n h + 2)))) rfl
  rw [I.1] at R
  exact R.trans (cj_d (by decide) (cj_d (by decide) (cj_d (iv.is (N := 23) (iv_n I rfl) (by decide) rfl) (cj_d (by decide) (cj_d (by decide) (cj_d (iv.is (N := 24) (iv_n (iv_r (iv_n I rfl)) rfl) (by decide) rfl) (cj_d (by decide) (cj_d (by decide) (cj_d (iv.is (N := 25) (iv_n (iv_r (iv_n (iv_r (iv_n I rfl)) rfl)) rfl) (by decide) rfl) Iff.rfl)))))))))
set_option maxRecDepth 100000 in
theorem in_23 {d : Nat} {Q : Option am_V → am_H → Prop} {h : am_H} : ex_ d 44 71 [some (v_r (some 15))] [] h Q ↔ Q none h := (am_Y_ret rfl rfl rfl).trans (am_rz rfl)
set_option maxRecDepth 100000 in
theorem in_24 {d : Nat} {Q : Option am_V → am_H → Prop} {h : am_H} (I : iv h 25) : ex_ d 161 48 [some (v_r (some 0)), none] [v_r (some 15), v_r (some 0)] h Q ↔ ex_ d 161 56 [some (v_r (some 0)), none] [v_r (some 25), v_r (some 25), v_r (some 0)] (i_fo [(1, 0, 6, 15), (0, 7, 3, 0)] h) Q := by
  have R := am_Y_go (byt := am_byt) (P := am_p) 4 (d := d) (k := 161) (Q := Q) (f := (48, [some (v_r (some 0)), none], [v_r (some 15), v_r (some 0)], h)) (ok := [am_is h (some 0) 11]) (g := (56, [some (v_r (some 0)), none], [v_r (some (h_n h)), v_r (some (h_n h)), v_r (some 0)], p_n (p_r h 0 6 (some 15)) 7 3)) rfl
  rw [I.1] at R
  exact R.trans (cj_d (iv.is (N := 25) I (by decide) rfl) Iff.rfl)
set_option maxRecDepth 100000 in
theorem in_25 {d : Nat} {Q : Option am_V → am_H → Prop} {h : am_H} (I : iv h 26) : ex_ (d + 1) 161 56 [some (v_r (some 0)), none] [v_r (some 25), v_r (some 25), v_r (some 0)] h Q ↔ ex_ d 75 0 [some (v_r (some 25))] [] h (fun r h' => ex_ (d + 1) 161 59 [some (v_r (some 0)), none] (r.toList ++ [v_r (some 25), v_r (some 0)]) h' Q) := (am_Y_call (j := 75) (na := 1) (ci := 7) (fl := 5) rfl rfl rfl).trans (cj_d ⟨⟨Nat.le_of_ble_eq_true rfl, Nat.le_of_ble_eq_true rfl, Nat.le_of_ble_eq_true rfl, rfl⟩, Or.inr (Or.inr (show (7 : Nat) < 20 ∧ am_is h (some 25) 7 from ⟨by decide, iv.is I (by decide) rfl⟩))⟩ Iff.rfl)
set_option maxRecDepth 100000 in
theorem in_26 {d : Nat} {Q : Option am_V → am_H → Prop} {h : am_H} (I : iv h 26) : ex_ d 75 0 [some (v_r (some 25))] [] h Q ↔ ex_ d 75 13 [some (v_r (some 25))] [] (i_fo [(0, 31, 10, 0), (1, 25, 0, 26)] h) Q := by
  have R := am_Y_go (byt := am_byt) (P := am_p) 6 (d := d) (k := 75) (Q := Q) (f := (0, [some (v_r (some 25))], [], h)) (ok := [¬ (some 25) = none, ¬ (10 : Int32) < 0, Int32.toNatClampNeg (10 : Int32) ≤ 100000, am_is (p_n h 31 10) (some 25) 7]) (g := (13, [some (v_r (some 25))], [], p_r (p_n h 31 10) 25 0 (some (h_n h)))) rfl
  rw [I.1] at R
  exact R.trans (cj_d (fun z => by cases z) (cj_d (by decide) (cj_d (by decide) (cj_d (iv.is (N := 27) (iv_n I rfl) (by decide) rfl) Iff.rfl))))
set_option maxRecDepth 100000 in
theorem in_27 {d : Nat} {Q : Option am_V → am_H → Prop} {h : am_H} : ex_ d 75 13 [some (v_r (some 25))] [] h Q ↔ Q none h := (am_Y_ret rfl rfl rfl).trans (am_rz rfl)
set_option maxRecDepth 100000 in
theorem in_28 {d : Nat} {Q : Option am_V → am_H → Prop} {h : am_H} (I : iv h 27) : ex_ d 161 59 [some (v_r (some 0)), none] [v_r (some 25), v_r (some 0)] h Q ↔ ex_ d 161 67 [some (v_r (some 0)), none] [v_r (some 27), v_r (some 27), v_r (some 0)] (i_fo [(1, 0, 7, 25), (0, 1, 5, 0)] h) Q := by
  have R := am_Y_go (byt := am_byt) (P := am_p) 4 (d := d) (k := 161) (Q := Q) (f := (59, [some (v_r (some 0)), none], [v_r (some 25), v_r (some 0)], h)) (ok := [am_is h (some 0) 11]) (g := (67, [some (v_r (some 0)), none], [v_r (some (h_n h)), v_r (some (h_n h)), v_r (some 0)], p_n (p_r h 0 7 (some 25)) 1 5)) rfl
  rw [I.1] at R
  exact R.trans (cj_d (iv.is (N := 27) I (by decide) rfl) Iff.rfl)
set_option maxRecDepth 100000 in
theorem in_29 {d : Nat} {Q : Option am_V → am_H → Prop} {h : am_H} (I : iv h 28) : ex_ (d + 1) 161 67 [some (v_r (some 0)), none] [v_r (some 27), v_r (some 27), v_r (some 0)] h Q ↔ ex_ d 26 0 [some (v_r (some 27))] [] h (fun r h' => ex_ (d + 1) 161 70 [some (v_r (some 0)), none] (r.toList ++ [v_r (some 27), v_r (some 0)]) h' Q) := (am_Y_call (j := 26) (na := 1) (ci := 1) (fl := 5) rfl rfl rfl).trans (cj_d ⟨⟨Nat.le_of_ble_eq_true rfl, Nat.le_of_ble_eq_true rfl, Nat.le_of_ble_eq_true rfl, rfl⟩, Or.inr (Or.inr (show (1 : Nat) < 20 ∧ am_is h (some 27) 1 from ⟨by decide, iv.is I (by decide) rfl⟩))⟩ Iff.rfl)
set_option maxRecDepth 100000 in
theorem in_30 {d : Nat} {Q : Option am_V → am_H → Prop} {h : am_H} (I : iv h 28) : ex_ d 26 0 [some (v_r (some 27))] [] h Q ↔ ex_ d 26 28 [some (v_r (some 27))] [] (i_fo [(0, 20, 10, 0), (1, 27, 2, 28), (0, 20, 40, 0), (1, 27, 3, 29), (0, 20, 80, 0), (1, 27, 4, 30)] h) Q := by
  have R := am_Y_go (byt := am_byt) (P := am_p) 14 (d := d) (k := 26) (Q := Q) (f := (0, [some (v_r (some 27))], [], h)) (ok := [¬ (some 27) = none, ¬ (10 : Int32) < 0, Int32.toNatClampNeg (10 : Int32) ≤ 100000, am_is (p_n h 20 10) (some 27) 1, ¬ (40 : Int32) < 0, Int32.toNatClampNeg (40 : Int32) ≤ 100000, am_is (p_n (p_r (p_n h 20 10) 27 2 (some (h_n h))) 20 40) (some 27) 1, ¬ (80 : Int32) < 0, Int32.toNatClampNeg (80 : Int32) ≤ 100000, am_is (p_n (p_r (p_n (p_r (p_n h 20 10) 27 2 (some (h_n h))) 20 40) 27 3 (some (h_n h + 1))) 20 80) (some 27) 1]) (g := (28, [some (v_r (some 27))], [], p_r (p_n (p_r (p_n (p_r (p_n h 20 10) 27 2 (some (h_n h))) 20 40) 27 3 (some (h_n h + 1))) 20 80) 27 4 (some (h_n h + 2)))) rfl
  rw [I.1] at R
  exact R.trans (cj_d (fun z => by cases z) (cj_d (by decide) (cj_d (by decide) (cj_d (iv.is (N := 29) (iv_n I rfl) (by decide) rfl) (cj_d (by decide) (cj_d (by decide) (cj_d (iv.is (N := 30) (iv_n (iv_r (iv_n I rfl)) rfl) (by decide) rfl) (cj_d (by decide) (cj_d (by decide) (cj_d (iv.is (N := 31) (iv_n (iv_r (iv_n (iv_r (iv_n I rfl)) rfl)) rfl) (by decide) rfl) Iff.rfl))))))))))
set_option maxRecDepth 100000 in
theorem in_31 {d : Nat} {Q : Option am_V → am_H → Prop} {h : am_H} : ex_ d 26 28 [some (v_r (some 27))] [] h Q ↔ Q none h := (am_Y_ret rfl rfl rfl).trans (am_rz rfl)
set_option maxRecDepth 100000 in
theorem in_32 {d : Nat} {Q : Option am_V → am_H → Prop} {h : am_H} (I : iv h 31) : ex_ d 161 70 [some (v_r (some 0)), none] [v_r (some 27), v_r (some 0)] h Q ↔ ex_ d 161 78 [some (v_r (some 0)), none] [v_r (some 31), v_r (some 31), v_r (some 0)] (i_fo [(1, 0, 8, 27), (0, 6, 9, 0)] h) Q := by
  have R := am_Y_go (byt := am_byt) (P := am_p) 4 (d := d) (k := 161) (Q := Q) (f := (70, [some (v_r (some 0)), none], [v_r (some 27), v_r (some 0)], h)) (ok := [am_is h (some 0) 11]) (g := (78, [some (v_r (some 0)), none], [v_r (some (h_n h)), v_r (some (h_n h)), v_r (some 0)], p_n (p_r h 0 8 (some 27)) 6 9)) rfl
  rw [I.1] at R
  exact R.trans (cj_d (iv.is (N := 31) I (by decide) rfl) Iff.rfl)
set_option maxRecDepth 100000 in
theorem in_33 {d : Nat} {Q : Option am_V → am_H → Prop} {h : am_H} (I : iv h 32) : ex_ (d + 1) 161 78 [some (v_r (some 0)), none] [v_r (some 31), v_r (some 31), v_r (some 0)] h Q ↔ ex_ d 44 0 [some (v_r (some 31))] [] h (fun r h' => ex_ (d + 1) 161 81 [some (v_r (some 0)), none] (r.toList ++ [v_r (some 31), v_r (some 0)]) h' Q) := (am_Y_call (j := 44) (na := 1) (ci := 6) (fl := 5) rfl rfl rfl).trans (cj_d ⟨⟨Nat.le_of_ble_eq_true rfl, Nat.le_of_ble_eq_true rfl, Nat.le_of_ble_eq_true rfl, rfl⟩, Or.inr (Or.inr (show (6 : Nat) < 20 ∧ am_is h (some 31) 6 from ⟨by decide, iv.is I (by decide) rfl⟩))⟩ Iff.rfl)
set_option maxRecDepth 100000 in
theorem in_34 {d : Nat} {Q : Option am_V → am_H → Prop} {h : am_H} (I : iv h 32) : ex_ d 44 0 [some (v_r (some 31))] [] h Q ↔ ex_ d 44 28 [some (v_r (some 31))] [] (i_fo [(0, 20, 11, 0), (1, 31, 0, 32), (0, 20, 11, 0), (1, 31, 1, 33), (0, 20, 121, 0), (1, 31, 2, 34)] h) Q := by
  have R := am_Y_go (byt := am_byt) (P := am_p) 14 (d := d) (k := 44) (Q := Q) (f := (0, [some (v_r (some 31))], [], h)) (ok := [¬ (some 31) = none, ¬ (11 : Int32) < 0, Int32.toNatClampNeg (11 : Int32) ≤ 100000, am_is (p_n h 20 11) (some 31) 6, ¬ (11 : Int32) < 0, Int32.toNatClampNeg (11 : Int32) ≤ 100000, am_is (p_n (p_r (p_n h 20 11) 31 0 (some (h_n h))) 20 11) (some 31) 6, ¬ (121 : Int32) < 0, Int32.toNatClampNeg (121 : Int32) ≤ 100000, am_is (p_n (p_r (p_n (p_r (p_n h 20 11) 31 0 (some (h_n h))) 20 11) 31 1 (some (h_n h + 1))) 20 121) (some 31) 6]) (g := (28, [some (v_r (some 31))], [], p_r (p_n (p_r (p_n (p_r (p_n h 20 11) 31 0 (some (h_n h))) 20 11) 31 1 (some (h_n h + 1))) 20 121) 31 2 (some (h_n h + 2)))) rfl
  rw [I.1] at R
  exact R.trans (cj_d (fun z => by cases z) (cj_d (by decide) (cj_d (by decide) (cj_d (iv.is (N := 33) (iv_n I rfl) (by decide) rfl) (cj_d (by decide) (cj_d (by decide) (cj_d (iv.is (N := 34) (iv_n (iv_r (iv_n I rfl)) rfl) (by decide) rfl) (cj_d (by decide) (cj_d (by decide) (cj_d (iv.is (N := 35) (iv_n (iv_r (iv_n (iv_r (iv_n I rfl)) rfl)) rfl) (by decide) rfl) Iff.rfl))))))))))
set_option maxRecDepth 100000 in
theorem in_35 {d : Nat} {Q : Option am_V → am_H → Prop} {h : am_H} (I : iv h 35) : ex_ d 44 28 [some (v_r (some 31))] [] h Q ↔ ex_ d 44 50 [some (v_r (some 31))] [] (i_fo [(0, 20, 4, 0), (1, 31, 3, 35), (0, 20, 55, 0), (1, 31, 4, 36), (0, 20, 5, 0), (1, 31, 5, 37)] h) Q := by
  have R := am_Y_go (byt := am_byt) (P := am_p) 12 (d := d) (k := 44) (Q := Q) (f := (28, [some (v_r (some 31))], [], h)) (ok := [¬ (4 : Int32) < 0, Int32.toNatClampNeg (4 : Int32) ≤ 100000, am_is (p_n h 20 4) (some 31) 6, ¬ (55 : Int32) < 0, Int32.toNatClampNeg (55 : Int32) ≤ 100000, am_is (p_n (p_r (p_n h 20 4) 31 3 (some (h_n h))) 20 55) (some 31) 6, ¬ (5 : Int32) < 0, Int32.toNatClampNeg (5 : Int32) ≤ 100000, am_is (p_n (p_r (p_n (p_r (p_n h 20 4) 31 3 (some (h_n h))) 20 55) 31 4 (some (h_n h + 1))) 20 5) (some 31) 6]) (g := (50, [some (v_r (some 31))], [], p_r (p_n (p_r (p_n (p_r (p_n h 20 4) 31 3 (some (h_n h))) 20 55) 31 4 (some (h_n h + 1))) 20 5) 31 5 (some (h_n h + 2)))) rfl
  rw [I.1] at R
  exact R.trans (cj_d (by decide) (cj_d (by decide) (cj_d (iv.is (N := 36) (iv_n I rfl) (by decide) rfl) (cj_d (by decide) (cj_d (by decide) (cj_d (iv.is (N := 37) (iv_n (iv_r (iv_n I rfl)) rfl) (by decide) rfl) (cj_d (by decide) (cj_d (by decide) (cj_d (iv.is (N := 38) (iv_n (iv_r (iv_n (iv_r (iv_n I rfl)) rfl)) rfl) (by decide) rfl) Iff.rfl)))))))))
set_option maxRecDepth 100000 in
theorem in_36 {d : Nat} {Q : Option am_V → am_H → Prop} {h : am_H} (I : iv h 38) : ex_ d 44 50 [some (v_r (some 31))] [] h Q ↔ ex_ d 44 71 [some (v_r (some 31))] [] (i_fo [(0, 20, 5, 0), (1, 31, 6, 38), (0, 20, 5, 0), (1, 31, 7, 39), (0, 20, 5, 0), (1, 31, 8, 40)] h) Q := by
  have R := am_Y_go (byt := am_byt) (P := am_p) 12 (d := d) (k := 44) (Q := Q) (f := (50, [some (v_r (some 31))], [], h)) (ok := [¬ (5 : Int32) < 0, Int32.toNatClampNeg (5 : Int32) ≤ 100000, am_is (p_n h 20 5) (some 31) 6, ¬ (5 : Int32) < 0, Int32.toNatClampNeg (5 : Int32) ≤ 100000, am_is (p_n (p_r (p_n h 20 5) 31 6 (some (h_n h))) 20 5) (some 31) 6, ¬ (5 : Int32) < 0, Int32.toNatClampNeg (5 : Int32) ≤ 100000, am_is (p_n (p_r (p_n (p_r (p_n h 20 5) 31 6 (some (h_n h))) 20 5) 31 7 (some (h_n h + 1))) 20 5) (some 31) 6]) (g := (71, [some (v_r (some 31))], [], p_r (p_n (p_r (p_n (p_r (p_n h 20 5) 31 6 (some (h_n h))) 20 5) 31 7 (some (h_n h + 1))) 20 5) 31 8 (some (h_n h + 2)))) rfl
  rw [I.1] at R
  exact R.trans (cj_d (by decide) (cj_d (by decide) (cj_d (iv.is (N := 39) (iv_n I rfl) (by decide) rfl) (cj_d (by decide) (cj_d (by decide) (cj_d (iv.is (N := 40) (iv_n (iv_r (iv_n I rfl)) rfl) (by decide) rfl) (cj_d (by decide) (cj_d (by decide) (cj_d (iv.is (N := 41) (iv_n (iv_r (iv_n (iv_r (iv_n I rfl)) rfl)) rfl) (by decide) rfl) Iff.rfl)))))))))
set_option maxRecDepth 100000 in
theorem in_37 {d : Nat} {Q : Option am_V → am_H → Prop} {h : am_H} : ex_ d 44 71 [some (v_r (some 31))] [] h Q ↔ Q none h := (am_Y_ret rfl rfl rfl).trans (am_rz rfl)
set_option maxRecDepth 100000 in
theorem in_38 {d : Nat} {Q : Option am_V → am_H → Prop} {h : am_H} (I : iv h 41) : ex_ d 161 81 [some (v_r (some 0)), none] [v_r (some 31), v_r (some 0)] h Q ↔ ex_ d 161 90 [some (v_r (some 0)), none] [v_r (some 0), v_r (some 41), v_r (some 41), v_r (some 0)] (i_fo [(1, 0, 9, 31), (0, 0, 9, 0)] h) Q := by
  have R := am_Y_go (byt := am_byt) (P := am_p) 5 (d := d) (k := 161) (Q := Q) (f := (81, [some (v_r (some 0)), none], [v_r (some 31), v_r (some 0)], h)) (ok := [am_is h (some 0) 11]) (g := (90, [some (v_r (some 0)), none], [v_r (some 0), v_r (some (h_n h)), v_r (some (h_n h)), v_r (some 0)], p_n (p_r h 0 9 (some 31)) 0 9)) rfl
  rw [I.1] at R
  exact R.trans (cj_d (iv.is (N := 41) I (by decide) rfl) Iff.rfl)
set_option maxRecDepth 100000 in
theorem in_39 {d : Nat} {Q : Option am_V → am_H → Prop} {h : am_H} (I : iv h 42) (r : h_r h 0 5 = some 10) : ex_ d 161 90 [some (v_r (some 0)), none] [v_r (some 0), v_r (some 41), v_r (some 41), v_r (some 0)] h Q ↔ ex_ d 161 93 [some (v_r (some 0)), none] [v_r (some 10), v_r (some 41), v_r (some 41), v_r (some 0)] h Q := by
  have R := am_Y_go (byt := am_byt) (P := am_p) 1 (d := d) (k := 161) (Q := Q) (f := (90, [some (v_r (some 0)), none], [v_r (some 0), v_r (some 41), v_r (some 41), v_r (some 0)], h)) (ok := [am_is h (some 0) 11]) (g := (93, [some (v_r (some 0)), none], [v_r (h_r h 0 5), v_r (some 41), v_r (some 41), v_r (some 0)], h)) rfl
  rw [r] at R
  exact R.trans (cj_d (iv.is I (by decide) rfl) Iff.rfl)
set_option maxRecDepth 100000 in
theorem in_40 {d : Nat} {Q : Option am_V → am_H → Prop} {h : am_H} (I : iv h 42) (r : h_r h 10 0 = some 11) : ex_ d 161 93 [some (v_r (some 0)), none] [v_r (some 10), v_r (some 41), v_r (some 41), v_r (some 0)] h Q ↔ ex_ d 161 96 [some (v_r (some 0)), none] [v_r (some 11), v_r (some 41), v_r (some 41), v_r (some 0)] h Q := by
  have R := am_Y_go (byt := am_byt) (P := am_p) 1 (d := d) (k := 161) (Q := Q) (f := (93, [some (v_r (some 0)), none], [v_r (some 10), v_r (some 41), v_r (some 41), v_r (some 0)], h)) (ok := [am_is h (some 10) 2]) (g := (96, [some (v_r (some 0)), none], [v_r (h_r h 10 0), v_r (some 41), v_r (some 41), v_r (some 0)], h)) rfl
  rw [r] at R
  exact R.trans (cj_d (iv.is I (by decide) rfl) Iff.rfl)
set_option maxRecDepth 100000 in
theorem in_41 {d : Nat} {Q : Option am_V → am_H → Prop} {h : am_H} (I : iv h 42) : ex_ d 161 96 [some (v_r (some 0)), none] [v_r (some 11), v_r (some 41), v_r (some 41), v_r (some 0)] h Q ↔ ex_ d 161 97 [some (v_r (some 0)), none] [v_r (some 0), v_r (some 11), v_r (some 41), v_r (some 41), v_r (some 0)] (h) Q := by
  have R := am_Y_go (byt := am_byt) (P := am_p) 1 (d := d) (k := 161) (Q := Q) (f := (96, [some (v_r (some 0)), none], [v_r (some 11), v_r (some 41), v_r (some 41), v_r (some 0)], h)) (ok := []) (g := (97, [some (v_r (some 0)), none], [v_r (some 0), v_r (some 11), v_r (some 41), v_r (some 41), v_r (some 0)], h)) rfl
  exact R.trans Iff.rfl
set_option maxRecDepth 100000 in
theorem in_42 {d : Nat} {Q : Option am_V → am_H → Prop} {h : am_H} (I : iv h 42) (r : h_r h 0 6 = some 15) : ex_ d 161 97 [some (v_r (some 0)), none] [v_r (some 0), v_r (some 11), v_r (some 41), v_r (some 41), v_r (some 0)] h Q ↔ ex_ d 161 100 [some (v_r (some 0)), none] [v_r (some 15), v_r (some 11), v_r (some 41), v_r (some 41), v_r (some 0)] h Q := by
  have R := am_Y_go (byt := am_byt) (P := am_p) 1 (d := d) (k := 161) (Q := Q) (f := (97, [some (v_r (some 0)), none], [v_r (some 0), v_r (some 11), v_r (some 41), v_r (some 41), v_r (some 0)], h)) (ok := [am_is h (some 0) 11]) (g := (100, [some (v_r (some 0)), none], [v_r (h_r h 0 6), v_r (some 11), v_r (some 41), v_r (some 41), v_r (some 0)], h)) rfl
  rw [r] at R
  exact R.trans (cj_d (iv.is I (by decide) rfl) Iff.rfl)
set_option maxRecDepth 100000 in
theorem in_43 {d : Nat} {Q : Option am_V → am_H → Prop} {h : am_H} (I : iv h 42) : ex_ (d + 1) 161 100 [some (v_r (some 0)), none] [v_r (some 15), v_r (some 11), v_r (some 41), v_r (some 41), v_r (some 0)] h Q ↔ ex_ d 1 0 [some (v_r (some 41)), some (v_r (some 11)), some (v_r (some 15))] [] h (fun r h' => ex_ (d + 1) 161 103 [some (v_r (some 0)), none] (r.toList ++ [v_r (some 41), v_r (some 0)]) h' Q) := (am_Y_call (j := 1) (na := 3) (ci := 0) (fl := 4) rfl rfl rfl).trans (cj_d ⟨⟨Nat.le_of_ble_eq_true rfl, Nat.le_of_ble_eq_true rfl, Nat.le_of_ble_eq_true rfl, rfl⟩, Or.inr (Or.inr (show (0 : Nat) < 20 ∧ am_is h (some 41) 0 from ⟨by decide, iv.is I (by decide) rfl⟩))⟩ Iff.rfl)
set_option maxRecDepth 100000 in
theorem in_44 {d : Nat} {Q : Option am_V → am_H → Prop} {h : am_H} (I : iv h 42) : ex_ d 1 0 [some (v_r (some 41)), some (v_r (some 11)), some (v_r (some 15))] [] h Q ↔ ex_ d 1 28 [some (v_r (some 41)), some (v_r (some 11)), some (v_r (some 15))] [] (i_fo [(0, 20, 10, 0), (1, 41, 3, 42), (0, 20, 10, 0), (1, 41, 4, 43), (0, 20, 100, 0), (1, 41, 5, 44)] h) Q := by
  have R := am_Y_go (byt := am_byt) (P := am_p) 14 (d := d) (k := 1) (Q := Q) (f := (0, [some (v_r (some 41)), some (v_r (some 11)), some (v_r (some 15))], [], h)) (ok := [¬ (some 41) = none, ¬ (10 : Int32) < 0, Int32.toNatClampNeg (10 : Int32) ≤ 100000, am_is (p_n h 20 10) (some 41) 0, ¬ (10 : Int32) < 0, Int32.toNatClampNeg (10 : Int32) ≤ 100000, am_is (p_n (p_r (p_n h 20 10) 41 3 (some (h_n h))) 20 10) (some 41) 0, ¬ (100 : Int32) < 0, Int32.toNatClampNeg (100 : Int32) ≤ 100000, am_is (p_n (p_r (p_n (p_r (p_n h 20 10) 41 3 (some (h_n h))) 20 10) 41 4 (some (h_n h + 1))) 20 100) (some 41) 0]) (g := (28, [some (v_r (some 41)), some (v_r (some 11)), some (v_r (some 15))], [], p_r (p_n (p_r (p_n (p_r (p_n h 20 10) 41 3 (some (h_n h))) 20 10) 41 4 (some (h_n h + 1))) 20 100) 41 5 (some (h_n h + 2)))) rfl
  rw [I.1] at R
  exact R.trans (cj_d (fun z => by cases z) (cj_d (by decide) (cj_d (by decide) (cj_d (iv.is (N := 43) (iv_n I rfl) (by decide) rfl) (cj_d (by decide) (cj_d (by decide) (cj_d (iv.is (N := 44) (iv_n (iv_r (iv_n I rfl)) rfl) (by decide) rfl) (cj_d (by decide) (cj_d (by decide) (cj_d (iv.is (N := 45) (iv_n (iv_r (iv_n (iv_r (iv_n I rfl)) rfl)) rfl) (by decide) rfl) Iff.rfl))))))))))
set_option maxRecDepth 100000 in
theorem in_45 {d : Nat} {Q : Option am_V → am_H → Prop} {h : am_H} (I : iv h 45) : ex_ d 1 28 [some (v_r (some 41)), some (v_r (some 11)), some (v_r (some 15))] [] h Q ↔ ex_ d 1 50 [some (v_r (some 41)), some (v_r (some 11)), some (v_r (some 15))] [] (i_fo [(0, 20, 10, 0), (1, 41, 6, 45), (0, 20, 1024, 0), (1, 41, 8, 46), (1, 41, 0, 11)] h) Q := by
  have R := am_Y_go (byt := am_byt) (P := am_p) 11 (d := d) (k := 1) (Q := Q) (f := (28, [some (v_r (some 41)), some (v_r (some 11)), some (v_r (some 15))], [], h)) (ok := [¬ (10 : Int32) < 0, Int32.toNatClampNeg (10 : Int32) ≤ 100000, am_is (p_n h 20 10) (some 41) 0, ¬ (1024 : Int32) < 0, Int32.toNatClampNeg (1024 : Int32) ≤ 100000, am_is (p_n (p_r (p_n h 20 10) 41 6 (some (h_n h))) 20 1024) (some 41) 0, am_is (p_r (p_n (p_r (p_n h 20 10) 41 6 (some (h_n h))) 20 1024) 41 8 (some (h_n h + 1))) (some 41) 0]) (g := (50, [some (v_r (some 41)), some (v_r (some 11)), some (v_r (some 15))], [], p_r (p_r (p_n (p_r (p_n h 20 10) 41 6 (some (h_n h))) 20 1024) 41 8 (some (h_n h + 1))) 41 0 (some 11))) rfl
  rw [I.1] at R
  exact R.trans (cj_d (by decide) (cj_d (by decide) (cj_d (iv.is (N := 46) (iv_n I rfl) (by decide) rfl) (cj_d (by decide) (cj_d (by decide) (cj_d (iv.is (N := 47) (iv_n (iv_r (iv_n I rfl)) rfl) (by decide) rfl) (cj_d (iv.is (N := 47) (iv_r (iv_n (iv_r (iv_n I rfl)) rfl)) (by decide) rfl) Iff.rfl)))))))
set_option maxRecDepth 100000 in
theorem in_46 {d : Nat} {Q : Option am_V → am_H → Prop} {h : am_H} (I : iv h 47) : ex_ d 1 50 [some (v_r (some 41)), some (v_r (some 11)), some (v_r (some 15))] [] h Q ↔ ex_ d 1 55 [some (v_r (some 41)), some (v_r (some 11)), some (v_r (some 15))] [] (i_fo [(1, 41, 1, 15)] h) Q := by
  have R := am_Y_go (byt := am_byt) (P := am_p) 3 (d := d) (k := 1) (Q := Q) (f := (50, [some (v_r (some 41)), some (v_r (some 11)), some (v_r (some 15))], [], h)) (ok := [am_is h (some 41) 0]) (g := (55, [some (v_r (some 41)), some (v_r (some 11)), some (v_r (some 15))], [], p_r h 41 1 (some 15))) rfl
  exact R.trans (cj_d (iv.is (N := 47) I (by decide) rfl) Iff.rfl)
set_option maxRecDepth 100000 in
theorem in_47 {d : Nat} {Q : Option am_V → am_H → Prop} {h : am_H} : ex_ d 1 55 [some (v_r (some 41)), some (v_r (some 11)), some (v_r (some 15))] [] h Q ↔ Q none h := (am_Y_ret rfl rfl rfl).trans (am_rz rfl)
set_option maxRecDepth 100000 in
theorem in_48 {d : Nat} {Q : Option am_V → am_H → Prop} {h : am_H} (I : iv h 47) : ex_ d 161 103 [some (v_r (some 0)), none] [v_r (some 41), v_r (some 0)] h Q ↔ ex_ d 161 111 [some (v_r (some 0)), none] [v_r (some 47), v_r (some 47), v_r (some 0)] (i_fo [(1, 0, 10, 41), (0, 5, 3, 0)] h) Q := by
  have R := am_Y_go (byt := am_byt) (P := am_p) 4 (d := d) (k := 161) (Q := Q) (f := (103, [some (v_r (some 0)), none], [v_r (some 41), v_r (some 0)], h)) (ok := [am_is h (some 0) 11]) (g := (111, [some (v_r (some 0)), none], [v_r (some (h_n h)), v_r (some (h_n h)), v_r (some 0)], p_n (p_r h 0 10 (some 41)) 5 3)) rfl
  rw [I.1] at R
  exact R.trans (cj_d (iv.is (N := 47) I (by decide) rfl) Iff.rfl)
set_option maxRecDepth 100000 in
theorem in_49 {d : Nat} {Q : Option am_V → am_H → Prop} {h : am_H} (I : iv h 48) : ex_ (d + 1) 161 111 [some (v_r (some 0)), none] [v_r (some 47), v_r (some 47), v_r (some 0)] h Q ↔ ex_ d 63 0 [some (v_r (some 47))] [] h (fun r h' => ex_ (d + 1) 161 114 [some (v_r (some 0)), none] (r.toList ++ [v_r (some 47), v_r (some 0)]) h' Q) := (am_Y_call (j := 63) (na := 1) (ci := 5) (fl := 5) rfl rfl rfl).trans (cj_d ⟨⟨Nat.le_of_ble_eq_true rfl, Nat.le_of_ble_eq_true rfl, Nat.le_of_ble_eq_true rfl, rfl⟩, Or.inr (Or.inr (show (5 : Nat) < 20 ∧ am_is h (some 47) 5 from ⟨by decide, iv.is I (by decide) rfl⟩))⟩ Iff.rfl)
set_option maxRecDepth 100000 in
theorem in_50 {d : Nat} {Q : Option am_V → am_H → Prop} {h : am_H} (I : iv h 48) : ex_ d 63 0 [some (v_r (some 47))] [] h Q ↔ ex_ d 63 28 [some (v_r (some 47))] [] (i_fo [(0, 20, 10, 0), (1, 47, 0, 48), (0, 20, 100, 0), (1, 47, 1, 49), (0, 20, 10, 0), (1, 47, 2, 50)] h) Q := by
  have R := am_Y_go (byt := am_byt) (P := am_p) 14 (d := d) (k := 63) (Q := Q) (f := (0, [some (v_r (some 47))], [], h)) (ok := [¬ (some 47) = none, ¬ (10 : Int32) < 0, Int32.toNatClampNeg (10 : Int32) ≤ 100000, am_is (p_n h 20 10) (some 47) 5, ¬ (100 : Int32) < 0, Int32.toNatClampNeg (100 : Int32) ≤ 100000, am_is (p_n (p_r (p_n h 20 10) 47 0 (some (h_n h))) 20 100) (some 47) 5, ¬ (10 : Int32) < 0, Int32.toNatClampNeg (10 : Int32) ≤ 100000, am_is (p_n (p_r (p_n (p_r (p_n h 20 10) 47 0 (some (h_n h))) 20 100) 47 1 (some (h_n h + 1))) 20 10) (some 47) 5]) (g := (28, [some (v_r (some 47))], [], p_r (p_n (p_r (p_n (p_r (p_n h 20 10) 47 0 (some (h_n h))) 20 100) 47 1 (some (h_n h + 1))) 20 10) 47 2 (some (h_n h + 2)))) rfl
  rw [I.1] at R
  exact R.trans (cj_d (fun z => by cases z) (cj_d (by decide) (cj_d (by decide) (cj_d (iv.is (N := 49) (iv_n I rfl) (by decide) rfl) (cj_d (by decide) (cj_d (by decide) (cj_d (iv.is (N := 50) (iv_n (iv_r (iv_n I rfl)) rfl) (by decide) rfl) (cj_d (by decide) (cj_d (by decide) (cj_d (iv.is (N := 51) (iv_n (iv_r (iv_n (iv_r (iv_n I rfl)) rfl)) rfl) (by decide) rfl) Iff.rfl))))))))))
set_option maxRecDepth 100000 in
theorem in_51 {d : Nat} {Q : Option am_V → am_H → Prop} {h : am_H} : ex_ d 63 28 [some (v_r (some 47))] [] h Q ↔ Q none h := (am_Y_ret rfl rfl rfl).trans (am_rz rfl)
set_option maxRecDepth 100000 in
theorem in_52 {d : Nat} {Q : Option am_V → am_H → Prop} {h : am_H} (I : iv h 51) : ex_ d 161 114 [some (v_r (some 0)), none] [v_r (some 47), v_r (some 0)] h Q ↔ ex_ d 161 123 [some (v_r (some 0)), none] [v_r (some 0), v_r (some 51), v_r (some 51), v_r (some 0)] (i_fo [(1, 0, 11, 47), (0, 10, 14, 0)] h) Q := by
  have R := am_Y_go (byt := am_byt) (P := am_p) 5 (d := d) (k := 161) (Q := Q) (f := (114, [some (v_r (some 0)), none], [v_r (some 47), v_r (some 0)], h)) (ok := [am_is h (some 0) 11]) (g := (123, [some (v_r (some 0)), none], [v_r (some 0), v_r (some (h_n h)), v_r (some (h_n h)), v_r (some 0)], p_n (p_r h 0 11 (some 47)) 10 14)) rfl
  rw [I.1] at R
  exact R.trans (cj_d (iv.is (N := 51) I (by decide) rfl) Iff.rfl)
set_option maxRecDepth 100000 in
theorem in_53 {d : Nat} {Q : Option am_V → am_H → Prop} {h : am_H} (I : iv h 52) (r : h_r h 0 5 = some 10) : ex_ d 161 123 [some (v_r (some 0)), none] [v_r (some 0), v_r (some 51), v_r (some 51), v_r (some 0)] h Q ↔ ex_ d 161 126 [some (v_r (some 0)), none] [v_r (some 10), v_r (some 51), v_r (some 51), v_r (some 0)] h Q := by
  have R := am_Y_go (byt := am_byt) (P := am_p) 1 (d := d) (k := 161) (Q := Q) (f := (123, [some (v_r (some 0)), none], [v_r (some 0), v_r (some 51), v_r (some 51), v_r (some 0)], h)) (ok := [am_is h (some 0) 11]) (g := (126, [some (v_r (some 0)), none], [v_r (h_r h 0 5), v_r (some 51), v_r (some 51), v_r (some 0)], h)) rfl
  rw [r] at R
  exact R.trans (cj_d (iv.is I (by decide) rfl) Iff.rfl)
set_option maxRecDepth 100000 in
theorem in_54 {d : Nat} {Q : Option am_V → am_H → Prop} {h : am_H} (I : iv h 52) : ex_ d 161 126 [some (v_r (some 0)), none] [v_r (some 10), v_r (some 51), v_r (some 51), v_r (some 0)] h Q ↔ ex_ d 161 127 [some (v_r (some 0)), none] [v_r (some 0), v_r (some 10), v_r (some 51), v_r (some 51), v_r (some 0)] (h) Q := by
  have R := am_Y_go (byt := am_byt) (P := am_p) 1 (d := d) (k := 161) (Q := Q) (f := (126, [some (v_r (some 0)), none], [v_r (some 10), v_r (some 51), v_r (some 51), v_r (some 0)], h)) (ok := []) (g := (127, [some (v_r (some 0)), none], [v_r (some 0), v_r (some 10), v_r (some 51), v_r (some 51), v_r (some 0)], h)) rfl
  exact R.trans Iff.rfl
set_option maxRecDepth 100000 in
theorem in_55 {d : Nat} {Q : Option am_V → am_H → Prop} {h : am_H} (I : iv h 52) (r : h_r h 0 6 = some 15) : ex_ d 161 127 [some (v_r (some 0)), none] [v_r (some 0), v_r (some 10), v_r (some 51), v_r (some 51), v_r (some 0)] h Q ↔ ex_ d 161 130 [some (v_r (some 0)), none] [v_r (some 15), v_r (some 10), v_r (some 51), v_r (some 51), v_r (some 0)] h Q := by
  have R := am_Y_go (byt := am_byt) (P := am_p) 1 (d := d) (k := 161) (Q := Q) (f := (127, [some (v_r (some 0)), none], [v_r (some 0), v_r (some 10), v_r (some 51), v_r (some 51), v_r (some 0)], h)) (ok := [am_is h (some 0) 11]) (g := (130, [some (v_r (some 0)), none], [v_r (h_r h 0 6), v_r (some 10), v_r (some 51), v_r (some 51), v_r (some 0)], h)) rfl
  rw [r] at R
  exact R.trans (cj_d (iv.is I (by decide) rfl) Iff.rfl)
set_option maxRecDepth 100000 in
theorem in_56 {d : Nat} {Q : Option am_V → am_H → Prop} {h : am_H} (I : iv h 52) : ex_ (d + 1) 161 130 [some (v_r (some 0)), none] [v_r (some 15), v_r (some 10), v_r (some 51), v_r (some 51), v_r (some 0)] h Q ↔ ex_ d 148 0 [some (v_r (some 51)), some (v_r (some 10)), some (v_r (some 15))] [] h (fun r h' => ex_ (d + 1) 161 133 [some (v_r (some 0)), none] (r.toList ++ [v_r (some 51), v_r (some 0)]) h' Q) := (am_Y_call (j := 148) (na := 3) (ci := 10) (fl := 4) rfl rfl rfl).trans (cj_d ⟨⟨Nat.le_of_ble_eq_true rfl, Nat.le_of_ble_eq_true rfl, Nat.le_of_ble_eq_true rfl, rfl⟩, Or.inr (Or.inr (show (10 : Nat) < 20 ∧ am_is h (some 51) 10 from ⟨by decide, iv.is I (by decide) rfl⟩))⟩ Iff.rfl)
set_option maxRecDepth 100000 in
theorem in_57 {d : Nat} {Q : Option am_V → am_H → Prop} {h : am_H} (I : iv h 52) : ex_ d 148 0 [some (v_r (some 51)), some (v_r (some 10)), some (v_r (some 15))] [] h Q ↔ ex_ d 148 28 [some (v_r (some 51)), some (v_r (some 10)), some (v_r (some 15))] [] (i_fo [(0, 20, 10, 0), (1, 51, 2, 52), (0, 20, 8, 0), (1, 51, 4, 53), (0, 20, 10, 0), (1, 51, 5, 54)] h) Q := by
  have R := am_Y_go (byt := am_byt) (P := am_p) 14 (d := d) (k := 148) (Q := Q) (f := (0, [some (v_r (some 51)), some (v_r (some 10)), some (v_r (some 15))], [], h)) (ok := [¬ (some 51) = none, ¬ (10 : Int32) < 0, Int32.toNatClampNeg (10 : Int32) ≤ 100000, am_is (p_n h 20 10) (some 51) 10, ¬ (8 : Int32) < 0, Int32.toNatClampNeg (8 : Int32) ≤ 100000, am_is (p_n (p_r (p_n h 20 10) 51 2 (some (h_n h))) 20 8) (some 51) 10, ¬ (10 : Int32) < 0, Int32.toNatClampNeg (10 : Int32) ≤ 100000, am_is (p_n (p_r (p_n (p_r (p_n h 20 10) 51 2 (some (h_n h))) 20 8) 51 4 (some (h_n h + 1))) 20 10) (some 51) 10]) (g := (28, [some (v_r (some 51)), some (v_r (some 10)), some (v_r (some 15))], [], p_r (p_n (p_r (p_n (p_r (p_n h 20 10) 51 2 (some (h_n h))) 20 8) 51 4 (some (h_n h + 1))) 20 10) 51 5 (some (h_n h + 2)))) rfl
  rw [I.1] at R
  exact R.trans (cj_d (fun z => by cases z) (cj_d (by decide) (cj_d (by decide) (cj_d (iv.is (N := 53) (iv_n I rfl) (by decide) rfl) (cj_d (by decide) (cj_d (by decide) (cj_d (iv.is (N := 54) (iv_n (iv_r (iv_n I rfl)) rfl) (by decide) rfl) (cj_d (by decide) (cj_d (by decide) (cj_d (iv.is (N := 55) (iv_n (iv_r (iv_n (iv_r (iv_n I rfl)) rfl)) rfl) (by decide) rfl) Iff.rfl))))))))))
set_option maxRecDepth 100000 in
theorem in_58 {d : Nat} {Q : Option am_V → am_H → Prop} {h : am_H} (I : iv h 55) : ex_ d 148 28 [some (v_r (some 51)), some (v_r (some 10)), some (v_r (some 15))] [] h Q ↔ ex_ d 148 46 [some (v_r (some 51)), some (v_r (some 10)), some (v_r (some 15))] [] (i_fo [(0, 20, 100, 0), (1, 51, 6, 55), (1, 51, 0, 10), (1, 51, 1, 15)] h) Q := by
  have R := am_Y_go (byt := am_byt) (P := am_p) 10 (d := d) (k := 148) (Q := Q) (f := (28, [some (v_r (some 51)), some (v_r (some 10)), some (v_r (some 15))], [], h)) (ok := [¬ (100 : Int32) < 0, Int32.toNatClampNeg (100 : Int32) ≤ 100000, am_is (p_n h 20 100) (some 51) 10, am_is (p_r (p_n h 20 100) 51 6 (some (h_n h))) (some 51) 10, am_is (p_r (p_r (p_n h 20 100) 51 6 (some (h_n h))) 51 0 (some 10)) (some 51) 10]) (g := (46, [some (v_r (some 51)), some (v_r (some 10)), some (v_r (some 15))], [], p_r (p_r (p_r (p_n h 20 100) 51 6 (some (h_n h))) 51 0 (some 10)) 51 1 (some 15))) rfl
  rw [I.1] at R
  exact R.trans (cj_d (by decide) (cj_d (by decide) (cj_d (iv.is (N := 56) (iv_n I rfl) (by decide) rfl) (cj_d (iv.is (N := 56) (iv_r (iv_n I rfl)) (by decide) rfl) (cj_d (iv.is (N := 56) (iv_r (iv_r (iv_n I rfl))) (by decide) rfl) Iff.rfl)))))
set_option maxRecDepth 100000 in
theorem in_59 {d : Nat} {Q : Option am_V → am_H → Prop} {h : am_H} : ex_ d 148 46 [some (v_r (some 51)), some (v_r (some 10)), some (v_r (some 15))] [] h Q ↔ Q none h := (am_Y_ret rfl rfl rfl).trans (am_rz rfl)
set_option maxRecDepth 100000 in
theorem in_60 {d : Nat} {Q : Option am_V → am_H → Prop} {h : am_H} (I : iv h 56) : ex_ d 161 133 [some (v_r (some 0)), none] [v_r (some 51), v_r (some 0)] h Q ↔ ex_ d 161 141 [some (v_r (some 0)), none] [v_r (some 56), v_r (some 56), v_r (some 0)] (i_fo [(1, 0, 12, 51), (0, 4, 5, 0)] h) Q := by
  have R := am_Y_go (byt := am_byt) (P := am_p) 4 (d := d) (k := 161) (Q := Q) (f := (133, [some (v_r (some 0)), none], [v_r (some 51), v_r (some 0)], h)) (ok := [am_is h (some 0) 11]) (g := (141, [some (v_r (some 0)), none], [v_r (some (h_n h)), v_r (some (h_n h)), v_r (some 0)], p_n (p_r h 0 12 (some 51)) 4 5)) rfl
  rw [I.1] at R
  exact R.trans (cj_d (iv.is (N := 56) I (by decide) rfl) Iff.rfl)
set_option maxRecDepth 100000 in
theorem in_61 {d : Nat} {Q : Option am_V → am_H → Prop} {h : am_H} (I : iv h 57) : ex_ (d + 1) 161 141 [some (v_r (some 0)), none] [v_r (some 56), v_r (some 56), v_r (some 0)] h Q ↔ ex_ d 57 0 [some (v_r (some 56))] [] h (fun r h' => ex_ (d + 1) 161 144 [some (v_r (some 0)), none] (r.toList ++ [v_r (some 56), v_r (some 0)]) h' Q) := (am_Y_call (j := 57) (na := 1) (ci := 4) (fl := 5) rfl rfl rfl).trans (cj_d ⟨⟨Nat.le_of_ble_eq_true rfl, Nat.le_of_ble_eq_true rfl, Nat.le_of_ble_eq_true rfl, rfl⟩, Or.inr (Or.inr (show (4 : Nat) < 20 ∧ am_is h (some 56) 4 from ⟨by decide, iv.is I (by decide) rfl⟩))⟩ Iff.rfl)
set_option maxRecDepth 100000 in
theorem in_62 {d : Nat} {Q : Option am_V → am_H → Prop} {h : am_H} (I : iv h 57) : ex_ d 57 0 [some (v_r (some 56))] [] h Q ↔ ex_ d 57 9 [some (v_r (some 56))] [v_r (some 57), v_r (some 57), v_r (some 56)] (i_fo [(0, 6, 9, 0)] h) Q := by
  have R := am_Y_go (byt := am_byt) (P := am_p) 5 (d := d) (k := 57) (Q := Q) (f := (0, [some (v_r (some 56))], [], h)) (ok := [¬ (some 56) = none]) (g := (9, [some (v_r (some 56))], [v_r (some (h_n h)), v_r (some (h_n h)), v_r (some 56)], p_n h 6 9)) rfl
  rw [I.1] at R
  exact R.trans (cj_d (fun z => by cases z) Iff.rfl)
set_option maxRecDepth 100000 in
theorem in_63 {d : Nat} {Q : Option am_V → am_H → Prop} {h : am_H} (I : iv h 58) : ex_ (d + 1) 57 9 [some (v_r (some 56))] [v_r (some 57), v_r (some 57), v_r (some 56)] h Q ↔ ex_ d 44 0 [some (v_r (some 57))] [] h (fun r h' => ex_ (d + 1) 57 12 [some (v_r (some 56))] (r.toList ++ [v_r (some 57), v_r (some 56)]) h' Q) := (am_Y_call (j := 44) (na := 1) (ci := 6) (fl := 5) rfl rfl rfl).trans (cj_d ⟨⟨Nat.le_of_ble_eq_true rfl, Nat.le_of_ble_eq_true rfl, Nat.le_of_ble_eq_true rfl, rfl⟩, Or.inr (Or.inr (show (6 : Nat) < 20 ∧ am_is h (some 57) 6 from ⟨by decide, iv.is I (by decide) rfl⟩))⟩ Iff.rfl)
set_option maxRecDepth 100000 in
theorem in_64 {d : Nat} {Q : Option am_V → am_H → Prop} {h : am_H} (I : iv h 58) : ex_ d 44 0 [some (v_r (some 57))] [] h Q ↔ ex_ d 44 28 [some (v_r (some 57))] [] (i_fo [(0, 20, 11, 0), (1, 57, 0, 58), (0, 20, 11, 0), (1, 57, 1, 59), (0, 20, 121, 0), (1, 57, 2, 60)] h) Q := by
  have R := am_Y_go (byt := am_byt) (P := am_p) 14 (d := d) (k := 44) (Q := Q) (f := (0, [some (v_r (some 57))], [], h)) (ok := [¬ (some 57) = none, ¬ (11 : Int32) < 0, Int32.toNatClampNeg (11 : Int32) ≤ 100000, am_is (p_n h 20 11) (some 57) 6, ¬ (11 : Int32) < 0, Int32.toNatClampNeg (11 : Int32) ≤ 100000, am_is (p_n (p_r (p_n h 20 11) 57 0 (some (h_n h))) 20 11) (some 57) 6, ¬ (121 : Int32) < 0, Int32.toNatClampNeg (121 : Int32) ≤ 100000, am_is (p_n (p_r (p_n (p_r (p_n h 20 11) 57 0 (some (h_n h))) 20 11) 57 1 (some (h_n h + 1))) 20 121) (some 57) 6]) (g := (28, [some (v_r (some 57))], [], p_r (p_n (p_r (p_n (p_r (p_n h 20 11) 57 0 (some (h_n h))) 20 11) 57 1 (some (h_n h + 1))) 20 121) 57 2 (some (h_n h + 2)))) rfl
  rw [I.1] at R
  exact R.trans (cj_d (fun z => by cases z) (cj_d (by decide) (cj_d (by decide) (cj_d (iv.is (N := 59) (iv_n I rfl) (by decide) rfl) (cj_d (by decide) (cj_d (by decide) (cj_d (iv.is (N := 60) (iv_n (iv_r (iv_n I rfl)) rfl) (by decide) rfl) (cj_d (by decide) (cj_d (by decide) (cj_d (iv.is (N := 61) (iv_n (iv_r (iv_n (iv_r (iv_n I rfl)) rfl)) rfl) (by decide) rfl) Iff.rfl))))))))))
set_option maxRecDepth 100000 in
theorem in_65 {d : Nat} {Q : Option am_V → am_H → Prop} {h : am_H} (I : iv h 61) : ex_ d 44 28 [some (v_r (some 57))] [] h Q ↔ ex_ d 44 50 [some (v_r (some 57))] [] (i_fo [(0, 20, 4, 0), (1, 57, 3, 61), (0, 20, 55, 0), (1, 57, 4, 62), (0, 20, 5, 0), (1, 57, 5, 63)] h) Q := by
  have R := am_Y_go (byt := am_byt) (P := am_p) 12 (d := d) (k := 44) (Q := Q) (f := (28, [some (v_r (some 57))], [], h)) (ok := [¬ (4 : Int32) < 0, Int32.toNatClampNeg (4 : Int32) ≤ 100000, am_is (p_n h 20 4) (some 57) 6, ¬ (55 : Int32) < 0, Int32.toNatClampNeg (55 : Int32) ≤ 100000, am_is (p_n (p_r (p_n h 20 4) 57 3 (some (h_n h))) 20 55) (some 57) 6, ¬ (5 : Int32) < 0, Int32.toNatClampNeg (5 : Int32) ≤ 100000, am_is (p_n (p_r (p_n (p_r (p_n h 20 4) 57 3 (some (h_n h))) 20 55) 57 4 (some (h_n h + 1))) 20 5) (some 57) 6]) (g := (50, [some (v_r (some 57))], [], p_r (p_n (p_r (p_n (p_r (p_n h 20 4) 57 3 (some (h_n h))) 20 55) 57 4 (some (h_n h + 1))) 20 5) 57 5 (some (h_n h + 2)))) rfl
  rw [I.1] at R
  exact R.trans (cj_d (by decide) (cj_d (by decide) (cj_d (iv.is (N := 62) (iv_n I rfl) (by decide) rfl) (cj_d (by decide) (cj_d (by decide) (cj_d (iv.is (N := 63) (iv_n (iv_r (iv_n I rfl)) rfl) (by decide) rfl) (cj_d (by decide) (cj_d (by decide) (cj_d (iv.is (N := 64) (iv_n (iv_r (iv_n (iv_r (iv_n I rfl)) rfl)) rfl) (by decide) rfl) Iff.rfl)))))))))
set_option maxRecDepth 100000 in
theorem in_66 {d : Nat} {Q : Option am_V → am_H → Prop} {h : am_H} (I : iv h 64) : ex_ d 44 50 [some (v_r (some 57))] [] h Q ↔ ex_ d 44 71 [some (v_r (some 57))] [] (i_fo [(0, 20, 5, 0), (1, 57, 6, 64), (0, 20, 5, 0), (1, 57, 7, 65), (0, 20, 5, 0), (1, 57, 8, 66)] h) Q := by
  have R := am_Y_go (byt := am_byt) (P := am_p) 12 (d := d) (k := 44) (Q := Q) (f := (50, [some (v_r (some 57))], [], h)) (ok := [¬ (5 : Int32) < 0, Int32.toNatClampNeg (5 : Int32) ≤ 100000, am_is (p_n h 20 5) (some 57) 6, ¬ (5 : Int32) < 0, Int32.toNatClampNeg (5 : Int32) ≤ 100000, am_is (p_n (p_r (p_n h 20 5) 57 6 (some (h_n h))) 20 5) (some 57) 6, ¬ (5 : Int32) < 0, Int32.toNatClampNeg (5 : Int32) ≤ 100000, am_is (p_n (p_r (p_n (p_r (p_n h 20 5) 57 6 (some (h_n h))) 20 5) 57 7 (some (h_n h + 1))) 20 5) (some 57) 6]) (g := (71, [some (v_r (some 57))], [], p_r (p_n (p_r (p_n (p_r (p_n h 20 5) 57 6 (some (h_n h))) 20 5) 57 7 (some (h_n h + 1))) 20 5) 57 8 (some (h_n h + 2)))) rfl
  rw [I.1] at R
  exact R.trans (cj_d (by decide) (cj_d (by decide) (cj_d (iv.is (N := 65) (iv_n I rfl) (by decide) rfl) (cj_d (by decide) (cj_d (by decide) (cj_d (iv.is (N := 66) (iv_n (iv_r (iv_n I rfl)) rfl) (by decide) rfl) (cj_d (by decide) (cj_d (by decide) (cj_d (iv.is (N := 67) (iv_n (iv_r (iv_n (iv_r (iv_n I rfl)) rfl)) rfl) (by decide) rfl) Iff.rfl)))))))))
set_option maxRecDepth 100000 in
theorem in_67 {d : Nat} {Q : Option am_V → am_H → Prop} {h : am_H} : ex_ d 44 71 [some (v_r (some 57))] [] h Q ↔ Q none h := (am_Y_ret rfl rfl rfl).trans (am_rz rfl)
set_option maxRecDepth 100000 in
theorem in_68 {d : Nat} {Q : Option am_V → am_H → Prop} {h : am_H} (I : iv h 67) : ex_ d 57 12 [some (v_r (some 56))] [v_r (some 57), v_r (some 56)] h Q ↔ ex_ d 57 30 [some (v_r (some 56))] [] (i_fo [(1, 56, 0, 57), (0, 20, 10, 0), (1, 56, 1, 67), (0, 20, 3, 0), (1, 56, 2, 68)] h) Q := by
  have R := am_Y_go (byt := am_byt) (P := am_p) 9 (d := d) (k := 57) (Q := Q) (f := (12, [some (v_r (some 56))], [v_r (some 57), v_r (some 56)], h)) (ok := [am_is h (some 56) 4, ¬ (10 : Int32) < 0, Int32.toNatClampNeg (10 : Int32) ≤ 100000, am_is (p_n (p_r h 56 0 (some 57)) 20 10) (some 56) 4, ¬ (3 : Int32) < 0, Int32.toNatClampNeg (3 : Int32) ≤ 100000, am_is (p_n (p_r (p_n (p_r h 56 0 (some 57)) 20 10) 56 1 (some (h_n h))) 20 3) (some 56) 4]) (g := (30, [some (v_r (some 56))], [], p_r (p_n (p_r (p_n (p_r h 56 0 (some 57)) 20 10) 56 1 (some (h_n h))) 20 3) 56 2 (some (h_n h + 1)))) rfl
  rw [I.1] at R
  exact R.trans (cj_d (iv.is (N := 67) I (by decide) rfl) (cj_d (by decide) (cj_d (by decide) (cj_d (iv.is (N := 68) (iv_n (iv_r I) rfl) (by decide) rfl) (cj_d (by decide) (cj_d (by decide) (cj_d (iv.is (N := 69) (iv_n (iv_r (iv_n (iv_r I) rfl)) rfl) (by decide) rfl) Iff.rfl)))))))
set_option maxRecDepth 100000 in
theorem in_69 {d : Nat} {Q : Option am_V → am_H → Prop} {h : am_H} : ex_ d 57 30 [some (v_r (some 56))] [] h Q ↔ Q none h := (am_Y_ret rfl rfl rfl).trans (am_rz rfl)
set_option maxRecDepth 100000 in
theorem in_70 {d : Nat} {Q : Option am_V → am_H → Prop} {h : am_H} (I : iv h 69) : ex_ d 161 144 [some (v_r (some 0)), none] [v_r (some 56), v_r (some 0)] h Q ↔ ex_ d 161 152 [some (v_r (some 0)), none] [v_r (some 69), v_r (some 69), v_r (some 0)] (i_fo [(1, 0, 13, 56), (0, 3, 6, 0)] h) Q := by
  have R := am_Y_go (byt := am_byt) (P := am_p) 4 (d := d) (k := 161) (Q := Q) (f := (144, [some (v_r (some 0)), none], [v_r (some 56), v_r (some 0)], h)) (ok := [am_is h (some 0) 11]) (g := (152, [some (v_r (some 0)), none], [v_r (some (h_n h)), v_r (some (h_n h)), v_r (some 0)], p_n (p_r h 0 13 (some 56)) 3 6)) rfl
  rw [I.1] at R
  exact R.trans (cj_d (iv.is (N := 69) I (by decide) rfl) Iff.rfl)
set_option maxRecDepth 100000 in
theorem in_71 {d : Nat} {Q : Option am_V → am_H → Prop} {h : am_H} (I : iv h 70) : ex_ (d + 1) 161 152 [some (v_r (some 0)), none] [v_r (some 69), v_r (some 69), v_r (some 0)] h Q ↔ ex_ d 45 0 [some (v_r (some 69))] [] h (fun r h' => ex_ (d + 1) 161 155 [some (v_r (some 0)), none] (r.toList ++ [v_r (some 69), v_r (some 0)]) h' Q) := (am_Y_call (j := 45) (na := 1) (ci := 3) (fl := 5) rfl rfl rfl).trans (cj_d ⟨⟨Nat.le_of_ble_eq_true rfl, Nat.le_of_ble_eq_true rfl, Nat.le_of_ble_eq_true rfl, rfl⟩, Or.inr (Or.inr (show (3 : Nat) < 20 ∧ am_is h (some 69) 3 from ⟨by decide, iv.is I (by decide) rfl⟩))⟩ Iff.rfl)
set_option maxRecDepth 100000 in
theorem in_72 {d : Nat} {Q : Option am_V → am_H → Prop} {h : am_H} (I : iv h 70) : ex_ d 45 0 [some (v_r (some 69))] [] h Q ↔ ex_ d 45 9 [some (v_r (some 69))] [v_r (some 70), v_r (some 70), v_r (some 69)] (i_fo [(0, 6, 9, 0)] h) Q := by
  have R := am_Y_go (byt := am_byt) (P := am_p) 5 (d := d) (k := 45) (Q := Q) (f := (0, [some (v_r (some 69))], [], h)) (ok := [¬ (some 69) = none]) (g := (9, [some (v_r (some 69))], [v_r (some (h_n h)), v_r (some (h_n h)), v_r (some 69)], p_n h 6 9)) rfl
  rw [I.1] at R
  exact R.trans (cj_d (fun z => by cases z) Iff.rfl)
set_option maxRecDepth 100000 in
theorem in_73 {d : Nat} {Q : Option am_V → am_H → Prop} {h : am_H} (I : iv h 71) : ex_ (d + 1) 45 9 [some (v_r (some 69))] [v_r (some 70), v_r (some 70), v_r (some 69)] h Q ↔ ex_ d 44 0 [some (v_r (some 70))] [] h (fun r h' => ex_ (d + 1) 45 12 [some (v_r (some 69))] (r.toList ++ [v_r (some 70), v_r (some 69)]) h' Q) := (am_Y_call (j := 44) (na := 1) (ci := 6) (fl := 5) rfl rfl rfl).trans (cj_d ⟨⟨Nat.le_of_ble_eq_true rfl, Nat.le_of_ble_eq_true rfl, Nat.le_of_ble_eq_true rfl, rfl⟩, Or.inr (Or.inr (show (6 : Nat) < 20 ∧ am_is h (some 70) 6 from ⟨by decide, iv.is I (by decide) rfl⟩))⟩ Iff.rfl)
set_option maxRecDepth 100000 in
theorem in_74 {d : Nat} {Q : Option am_V → am_H → Prop} {h : am_H} (I : iv h 71) : ex_ d 44 0 [some (v_r (some 70))] [] h Q ↔ ex_ d 44 28 [some (v_r (some 70))] [] (i_fo [(0, 20, 11, 0), (1, 70, 0, 71), (0, 20, 11, 0), (1, 70, 1, 72), (0, 20, 121, 0), (1, 70, 2, 73)] h) Q := by
  have R := am_Y_go (byt := am_byt) (P := am_p) 14 (d := d) (k := 44) (Q := Q) (f := (0, [some (v_r (some 70))], [], h)) (ok := [¬ (some 70) = none, ¬ (11 : Int32) < 0, Int32.toNatClampNeg (11 : Int32) ≤ 100000, am_is (p_n h 20 11) (some 70) 6, ¬ (11 : Int32) < 0, Int32.toNatClampNeg (11 : Int32) ≤ 100000, am_is (p_n (p_r (p_n h 20 11) 70 0 (some (h_n h))) 20 11) (some 70) 6, ¬ (121 : Int32) < 0, Int32.toNatClampNeg (121 : Int32) ≤ 100000, am_is (p_n (p_r (p_n (p_r (p_n h 20 11) 70 0 (some (h_n h))) 20 11) 70 1 (some (h_n h + 1))) 20 121) (some 70) 6]) (g := (28, [some (v_r (some 70))], [], p_r (p_n (p_r (p_n (p_r (p_n h 20 11) 70 0 (some (h_n h))) 20 11) 70 1 (some (h_n h + 1))) 20 121) 70 2 (some (h_n h + 2)))) rfl
  rw [I.1] at R
  exact R.trans (cj_d (fun z => by cases z) (cj_d (by decide) (cj_d (by decide) (cj_d (iv.is (N := 72) (iv_n I rfl) (by decide) rfl) (cj_d (by decide) (cj_d (by decide) (cj_d (iv.is (N := 73) (iv_n (iv_r (iv_n I rfl)) rfl) (by decide) rfl) (cj_d (by decide) (cj_d (by decide) (cj_d (iv.is (N := 74) (iv_n (iv_r (iv_n (iv_r (iv_n I rfl)) rfl)) rfl) (by decide) rfl) Iff.rfl))))))))))
set_option maxRecDepth 100000 in
theorem in_75 {d : Nat} {Q : Option am_V → am_H → Prop} {h : am_H} (I : iv h 74) : ex_ d 44 28 [some (v_r (some 70))] [] h Q ↔ ex_ d 44 50 [some (v_r (some 70))] [] (i_fo [(0, 20, 4, 0), (1, 70, 3, 74), (0, 20, 55, 0), (1, 70, 4, 75), (0, 20, 5, 0), (1, 70, 5, 76)] h) Q := by
  have R := am_Y_go (byt := am_byt) (P := am_p) 12 (d := d) (k := 44) (Q := Q) (f := (28, [some (v_r (some 70))], [], h)) (ok := [¬ (4 : Int32) < 0, Int32.toNatClampNeg (4 : Int32) ≤ 100000, am_is (p_n h 20 4) (some 70) 6, ¬ (55 : Int32) < 0, Int32.toNatClampNeg (55 : Int32) ≤ 100000, am_is (p_n (p_r (p_n h 20 4) 70 3 (some (h_n h))) 20 55) (some 70) 6, ¬ (5 : Int32) < 0, Int32.toNatClampNeg (5 : Int32) ≤ 100000, am_is (p_n (p_r (p_n (p_r (p_n h 20 4) 70 3 (some (h_n h))) 20 55) 70 4 (some (h_n h + 1))) 20 5) (some 70) 6]) (g := (50, [some (v_r (some 70))], [], p_r (p_n (p_r (p_n (p_r (p_n h 20 4) 70 3 (some (h_n h))) 20 55) 70 4 (some (h_n h + 1))) 20 5) 70 5 (some (h_n h + 2)))) rfl
  rw [I.1] at R
  exact R.trans (cj_d (by decide) (cj_d (by decide) (cj_d (iv.is (N := 75) (iv_n I rfl) (by decide) rfl) (cj_d (by decide) (cj_d (by decide) (cj_d (iv.is (N := 76) (iv_n (iv_r (iv_n I rfl)) rfl) (by decide) rfl) (cj_d (by decide) (cj_d (by decide) (cj_d (iv.is (N := 77) (iv_n (iv_r (iv_n (iv_r (iv_n I rfl)) rfl)) rfl) (by decide) rfl) Iff.rfl)))))))))
set_option maxRecDepth 100000 in
theorem in_76 {d : Nat} {Q : Option am_V → am_H → Prop} {h : am_H} (I : iv h 77) : ex_ d 44 50 [some (v_r (some 70))] [] h Q ↔ ex_ d 44 71 [some (v_r (some 70))] [] (i_fo [(0, 20, 5, 0), (1, 70, 6, 77), (0, 20, 5, 0), (1, 70, 7, 78), (0, 20, 5, 0), (1, 70, 8, 79)] h) Q := by
  have R := am_Y_go (byt := am_byt) (P := am_p) 12 (d := d) (k := 44) (Q := Q) (f := (50, [some (v_r (some 70))], [], h)) (ok := [¬ (5 : Int32) < 0, Int32.toNatClampNeg (5 : Int32) ≤ 100000, am_is (p_n h 20 5) (some 70) 6, ¬ (5 : Int32) < 0, Int32.toNatClampNeg (5 : Int32) ≤ 100000, am_is (p_n (p_r (p_n h 20 5) 70 6 (some (h_n h))) 20 5) (some 70) 6, ¬ (5 : Int32) < 0, Int32.toNatClampNeg (5 : Int32) ≤ 100000, am_is (p_n (p_r (p_n (p_r (p_n h 20 5) 70 6 (some (h_n h))) 20 5) 70 7 (some (h_n h + 1))) 20 5) (some 70) 6]) (g := (71, [some (v_r (some 70))], [], p_r (p_n (p_r (p_n (p_r (p_n h 20 5) 70 6 (some (h_n h))) 20 5) 70 7 (some (h_n h + 1))) 20 5) 70 8 (some (h_n h + 2)))) rfl
  rw [I.1] at R
  exact R.trans (cj_d (by decide) (cj_d (by decide) (cj_d (iv.is (N := 78) (iv_n I rfl) (by decide) rfl) (cj_d (by decide) (cj_d (by decide) (cj_d (iv.is (N := 79) (iv_n (iv_r (iv_n I rfl)) rfl) (by decide) rfl) (cj_d (by decide) (cj_d (by decide) (cj_d (iv.is (N := 80) (iv_n (iv_r (iv_n (iv_r (iv_n I rfl)) rfl)) rfl) (by decide) rfl) Iff.rfl)))))))))
set_option maxRecDepth 100000 in
theorem in_77 {d : Nat} {Q : Option am_V → am_H → Prop} {h : am_H} : ex_ d 44 71 [some (v_r (some 70))] [] h Q ↔ Q none h := (am_Y_ret rfl rfl rfl).trans (am_rz rfl)
set_option maxRecDepth 100000 in
theorem in_78 {d : Nat} {Q : Option am_V → am_H → Prop} {h : am_H} (I : iv h 80) : ex_ d 45 12 [some (v_r (some 69))] [v_r (some 70), v_r (some 69)] h Q ↔ ex_ d 45 29 [some (v_r (some 69))] [] (i_fo [(1, 69, 0, 70), (0, 20, 1024, 0), (1, 69, 1, 80), (2, 69, 5, 0)] h) Q := by
  have R := am_Y_go (byt := am_byt) (P := am_p) 8 (d := d) (k := 45) (Q := Q) (f := (12, [some (v_r (some 69))], [v_r (some 70), v_r (some 69)], h)) (ok := [am_is h (some 69) 3, ¬ (1024 : Int32) < 0, Int32.toNatClampNeg (1024 : Int32) ≤ 100000, am_is (p_n (p_r h 69 0 (some 70)) 20 1024) (some 69) 3, am_is (p_r (p_n (p_r h 69 0 (some 70)) 20 1024) 69 1 (some (h_n h))) (some 69) 3]) (g := (29, [some (v_r (some 69))], [], p_i (p_r (p_n (p_r h 69 0 (some 70)) 20 1024) 69 1 (some (h_n h))) 69 5 (-1 : Int32))) rfl
  rw [I.1] at R
  exact R.trans (cj_d (iv.is (N := 80) I (by decide) rfl) (cj_d (by decide) (cj_d (by decide) (cj_d (iv.is (N := 81) (iv_n (iv_r I) rfl) (by decide) rfl) (cj_d (iv.is (N := 81) (iv_r (iv_n (iv_r I) rfl)) (by decide) rfl) Iff.rfl)))))
set_option maxRecDepth 100000 in
theorem in_79 {d : Nat} {Q : Option am_V → am_H → Prop} {h : am_H} : ex_ d 45 29 [some (v_r (some 69))] [] h Q ↔ Q none h := (am_Y_ret rfl rfl rfl).trans (am_rz rfl)
set_option maxRecDepth 100000 in
theorem in_80 {d : Nat} {Q : Option am_V → am_H → Prop} {h : am_H} (I : iv h 81) : ex_ d 161 155 [some (v_r (some 0)), none] [v_r (some 69), v_r (some 0)] h Q ↔ ex_ d 161 172 [some (v_r (some 0)), none] [] (i_fo [(1, 0, 14, 69), (0, 20, 4, 0), (1, 0, 15, 81), (0, 20, 4, 0), (1, 0, 16, 82)] h) Q := by
  have R := am_Y_go (byt := am_byt) (P := am_p) 9 (d := d) (k := 161) (Q := Q) (f := (155, [some (v_r (some 0)), none], [v_r (some 69), v_r (some 0)], h)) (ok := [am_is h (some 0) 11, ¬ (4 : Int32) < 0, Int32.toNatClampNeg (4 : Int32) ≤ 100000, am_is (p_n (p_r h 0 14 (some 69)) 20 4) (some 0) 11, ¬ (4 : Int32) < 0, Int32.toNatClampNeg (4 : Int32) ≤ 100000, am_is (p_n (p_r (p_n (p_r h 0 14 (some 69)) 20 4) 0 15 (some (h_n h))) 20 4) (some 0) 11]) (g := (172, [some (v_r (some 0)), none], [], p_r (p_n (p_r (p_n (p_r h 0 14 (some 69)) 20 4) 0 15 (some (h_n h))) 20 4) 0 16 (some (h_n h + 1)))) rfl
  rw [I.1] at R
  exact R.trans (cj_d (iv.is (N := 81) I (by decide) rfl) (cj_d (by decide) (cj_d (by decide) (cj_d (iv.is (N := 82) (iv_n (iv_r I) rfl) (by decide) rfl) (cj_d (by decide) (cj_d (by decide) (cj_d (iv.is (N := 83) (iv_n (iv_r (iv_n (iv_r I) rfl)) rfl) (by decide) rfl) Iff.rfl)))))))
set_option maxRecDepth 100000 in
theorem in_81 {d : Nat} {Q : Option am_V → am_H → Prop} {h : am_H} (I : iv h 83) : ex_ d 161 172 [some (v_r (some 0)), none] [] h Q ↔ ex_ d 161 195 [some (v_r (some 0)), some (v_i (0 : Int32))] [] (i_fo [(0, 39, 4, 0), (1, 0, 17, 83), (0, 32, 2, 0), (1, 0, 18, 84)] h) Q := by
  have R := am_Y_go (byt := am_byt) (P := am_p) 13 (d := d) (k := 161) (Q := Q) (f := (172, [some (v_r (some 0)), none], [], h)) (ok := [¬ (4 : Int32) < 0, Int32.toNatClampNeg (4 : Int32) ≤ 100000, am_is (p_n h 39 4) (some 0) 11, ¬ (2 : Int32) < 0, Int32.toNatClampNeg (2 : Int32) ≤ 100000, am_is (p_n (p_r (p_n h 39 4) 0 17 (some (h_n h))) 32 2) (some 0) 11]) (g := (if (4 : Int32) ≤ (0 : Int32) then 214 else 195, [some (v_r (some 0)), some (v_i (0 : Int32))], [], p_r (p_n (p_r (p_n h 39 4) 0 17 (some (h_n h))) 32 2) 0 18 (some (h_n h + 1)))) rfl
  rw [I.1] at R
  rw [if_neg (by decide)] at R
  exact R.trans (cj_d (by decide) (cj_d (by decide) (cj_d (iv.is (N := 84) (iv_n I rfl) (by decide) rfl) (cj_d (by decide) (cj_d (by decide) (cj_d (iv.is (N := 85) (iv_n (iv_r (iv_n I rfl)) rfl) (by decide) rfl) Iff.rfl))))))
set_option maxRecDepth 100000 in
theorem in_82 {d : Nat} {Q : Option am_V → am_H → Prop} {h : am_H} (I : iv h 85) : ex_ d 161 195 [some (v_r (some 0)), some (v_i (0 : Int32))] [] h Q ↔ ex_ d 161 196 [some (v_r (some 0)), some (v_i (0 : Int32))] [v_r (some 0)] (h) Q := by
  have R := am_Y_go (byt := am_byt) (P := am_p) 1 (d := d) (k := 161) (Q := Q) (f := (195, [some (v_r (some 0)), some (v_i (0 : Int32))], [], h)) (ok := []) (g := (196, [some (v_r (some 0)), some (v_i (0 : Int32))], [v_r (some 0)], h)) rfl
  exact R.trans Iff.rfl
set_option maxRecDepth 100000 in
theorem in_83 {d : Nat} {Q : Option am_V → am_H → Prop} {h : am_H} (I : iv h 85) (r : h_r h 0 17 = some 83) : ex_ d 161 196 [some (v_r (some 0)), some (v_i (0 : Int32))] [v_r (some 0)] h Q ↔ ex_ d 161 199 [some (v_r (some 0)), some (v_i (0 : Int32))] [v_r (some 83)] h Q := by
  have R := am_Y_go (byt := am_byt) (P := am_p) 1 (d := d) (k := 161) (Q := Q) (f := (196, [some (v_r (some 0)), some (v_i (0 : Int32))], [v_r (some 0)], h)) (ok := [am_is h (some 0) 11]) (g := (199, [some (v_r (some 0)), some (v_i (0 : Int32))], [v_r (h_r h 0 17)], h)) rfl
  rw [r] at R
  exact R.trans (cj_d (iv.is I (by decide) rfl) Iff.rfl)
set_option maxRecDepth 100000 in
theorem in_84 {d : Nat} {Q : Option am_V → am_H → Prop} {h : am_H} (I : iv h 85) : ex_ d 161 199 [some (v_r (some 0)), some (v_i (0 : Int32))] [v_r (some 83)] h Q ↔ ex_ d 161 204 [some (v_r (some 0)), some (v_i (0 : Int32))] [v_r (some 85), v_r (some 85), v_i (0 : Int32), v_r (some 83)] (i_fo [(0, 9, 3, 0)] h) Q := by
  have R := am_Y_go (byt := am_byt) (P := am_p) 3 (d := d) (k := 161) (Q := Q) (f := (199, [some (v_r (some 0)), some (v_i (0 : Int32))], [v_r (some 83)], h)) (ok := []) (g := (204, [some (v_r (some 0)), some (v_i (0 : Int32))], [v_r (some (h_n h)), v_r (some (h_n h)), v_i (0 : Int32), v_r (some 83)], p_n h 9 3)) rfl
  rw [I.1] at R
  exact R.trans Iff.rfl
set_option maxRecDepth 100000 in
theorem in_85 {d : Nat} {Q : Option am_V → am_H → Prop} {h : am_H} (I : iv h 86) : ex_ (d + 1) 161 204 [some (v_r (some 0)), some (v_i (0 : Int32))] [v_r (some 85), v_r (some 85), v_i (0 : Int32), v_r (some 83)] h Q ↔ ex_ d 141 0 [some (v_r (some 85))] [] h (fun r h' => ex_ (d + 1) 161 207 [some (v_r (some 0)), some (v_i (0 : Int32))] (r.toList ++ [v_r (some 85), v_i (0 : Int32), v_r (some 83)]) h' Q) := (am_Y_call (j := 141) (na := 1) (ci := 9) (fl := 5) rfl rfl rfl).trans (cj_d ⟨⟨Nat.le_of_ble_eq_true rfl, Nat.le_of_ble_eq_true rfl, Nat.le_of_ble_eq_true rfl, rfl⟩, Or.inr (Or.inr (show (9 : Nat) < 20 ∧ am_is h (some 85) 9 from ⟨by decide, iv.is I (by decide) rfl⟩))⟩ Iff.rfl)
set_option maxRecDepth 100000 in
theorem in_86 {d : Nat} {Q : Option am_V → am_H → Prop} {h : am_H} (I : iv h 86) : ex_ d 141 0 [some (v_r (some 85))] [] h Q ↔ ex_ d 141 17 [some (v_r (some 85))] [] (i_fo [(2, 85, 0, 0), (0, 23, 40, 0), (1, 85, 2, 86)] h) Q := by
  have R := am_Y_go (byt := am_byt) (P := am_p) 9 (d := d) (k := 141) (Q := Q) (f := (0, [some (v_r (some 85))], [], h)) (ok := [¬ (some 85) = none, am_is h (some 85) 9, ¬ (40 : Int32) < 0, Int32.toNatClampNeg (40 : Int32) ≤ 100000, am_is (p_n (p_i h 85 0 (-1 : Int32)) 23 40) (some 85) 9]) (g := (17, [some (v_r (some 85))], [], p_r (p_n (p_i h 85 0 (-1 : Int32)) 23 40) 85 2 (some (h_n h)))) rfl
  rw [I.1] at R
  exact R.trans (cj_d (fun z => by cases z) (cj_d (iv.is (N := 86) I (by decide) rfl) (cj_d (by decide) (cj_d (by decide) (cj_d (iv.is (N := 87) (iv_n (iv_i I) rfl) (by decide) rfl) Iff.rfl)))))
set_option maxRecDepth 100000 in
theorem in_87 {d : Nat} {Q : Option am_V → am_H → Prop} {h : am_H} : ex_ d 141 17 [some (v_r (some 85))] [] h Q ↔ Q none h := (am_Y_ret rfl rfl rfl).trans (am_rz rfl)
set_option maxRecDepth 100000 in
theorem in_88 {d : Nat} {Q : Option am_V → am_H → Prop} {h : am_H} (I : iv h 87) : ex_ d 161 207 [some (v_r (some 0)), some (v_i (0 : Int32))] [v_r (some 85), v_i (0 : Int32), v_r (some 83)] h Q ↔ ex_ d 161 195 [some (v_r (some 0)), some (v_i (1 : Int32))] [] (i_fo [(1, 83, 0, 85)] h) Q := by
  have R := am_Y_go (byt := am_byt) (P := am_p) 6 (d := d) (k := 161) (Q := Q) (f := (207, [some (v_r (some 0)), some (v_i (0 : Int32))], [v_r (some 85), v_i (0 : Int32), v_r (some 83)], h)) (ok := [am_is h (some 85) 9, am_ar h (some 83) 39 (0 : Int32)]) (g := (if (4 : Int32) ≤ (1 : Int32) then 214 else 195, [some (v_r (some 0)), some (v_i (1 : Int32))], [], p_r h 83 (Int32.toNatClampNeg (0 : Int32)) (some 85))) rfl
  rw [if_neg (by decide)] at R
  exact R.trans (cj_d (iv.is (N := 87) I (by decide) rfl) (cj_d (iv.ar (N := 87) (n := 4) I (by decide) rfl (vp_in_nI (n := 0) (by omega) (by omega))) Iff.rfl))
set_option maxRecDepth 100000 in
theorem in_89 {d : Nat} {Q : Option am_V → am_H → Prop} {h : am_H} (I : iv h 87) : ex_ d 161 195 [some (v_r (some 0)), some (v_i (1 : Int32))] [] h Q ↔ ex_ d 161 196 [some (v_r (some 0)), some (v_i (1 : Int32))] [v_r (some 0)] (h) Q := by
  have R := am_Y_go (byt := am_byt) (P := am_p) 1 (d := d) (k := 161) (Q := Q) (f := (195, [some (v_r (some 0)), some (v_i (1 : Int32))], [], h)) (ok := []) (g := (196, [some (v_r (some 0)), some (v_i (1 : Int32))], [v_r (some 0)], h)) rfl
  exact R.trans Iff.rfl
set_option maxRecDepth 100000 in
theorem in_90 {d : Nat} {Q : Option am_V → am_H → Prop} {h : am_H} (I : iv h 87) (r : h_r h 0 17 = some 83) : ex_ d 161 196 [some (v_r (some 0)), some (v_i (1 : Int32))] [v_r (some 0)] h Q ↔ ex_ d 161 199 [some (v_r (some 0)), some (v_i (1 : Int32))] [v_r (some 83)] h Q := by
  have R := am_Y_go (byt := am_byt) (P := am_p) 1 (d := d) (k := 161) (Q := Q) (f := (196, [some (v_r (some 0)), some (v_i (1 : Int32))], [v_r (some 0)], h)) (ok := [am_is h (some 0) 11]) (g := (199, [some (v_r (some 0)), some (v_i (1 : Int32))], [v_r (h_r h 0 17)], h)) rfl
  rw [r] at R
  exact R.trans (cj_d (iv.is I (by decide) rfl) Iff.rfl)
set_option maxRecDepth 100000 in
theorem in_91 {d : Nat} {Q : Option am_V → am_H → Prop} {h : am_H} (I : iv h 87) : ex_ d 161 199 [some (v_r (some 0)), some (v_i (1 : Int32))] [v_r (some 83)] h Q ↔ ex_ d 161 204 [some (v_r (some 0)), some (v_i (1 : Int32))] [v_r (some 87), v_r (some 87), v_i (1 : Int32), v_r (some 83)] (i_fo [(0, 9, 3, 0)] h) Q := by
  have R := am_Y_go (byt := am_byt) (P := am_p) 3 (d := d) (k := 161) (Q := Q) (f := (199, [some (v_r (some 0)), some (v_i (1 : Int32))], [v_r (some 83)], h)) (ok := []) (g := (204, [some (v_r (some 0)), some (v_i (1 : Int32))], [v_r (some (h_n h)), v_r (some (h_n h)), v_i (1 : Int32), v_r (some 83)], p_n h 9 3)) rfl
  rw [I.1] at R
  exact R.trans Iff.rfl
set_option maxRecDepth 100000 in
theorem in_92 {d : Nat} {Q : Option am_V → am_H → Prop} {h : am_H} (I : iv h 88) : ex_ (d + 1) 161 204 [some (v_r (some 0)), some (v_i (1 : Int32))] [v_r (some 87), v_r (some 87), v_i (1 : Int32), v_r (some 83)] h Q ↔ ex_ d 141 0 [some (v_r (some 87))] [] h (fun r h' => ex_ (d + 1) 161 207 [some (v_r (some 0)), some (v_i (1 : Int32))] (r.toList ++ [v_r (some 87), v_i (1 : Int32), v_r (some 83)]) h' Q) := (am_Y_call (j := 141) (na := 1) (ci := 9) (fl := 5) rfl rfl rfl).trans (cj_d ⟨⟨Nat.le_of_ble_eq_true rfl, Nat.le_of_ble_eq_true rfl, Nat.le_of_ble_eq_true rfl, rfl⟩, Or.inr (Or.inr (show (9 : Nat) < 20 ∧ am_is h (some 87) 9 from ⟨by decide, iv.is I (by decide) rfl⟩))⟩ Iff.rfl)
set_option maxRecDepth 100000 in
theorem in_93 {d : Nat} {Q : Option am_V → am_H → Prop} {h : am_H} (I : iv h 88) : ex_ d 141 0 [some (v_r (some 87))] [] h Q ↔ ex_ d 141 17 [some (v_r (some 87))] [] (i_fo [(2, 87, 0, 0), (0, 23, 40, 0), (1, 87, 2, 88)] h) Q := by
  have R := am_Y_go (byt := am_byt) (P := am_p) 9 (d := d) (k := 141) (Q := Q) (f := (0, [some (v_r (some 87))], [], h)) (ok := [¬ (some 87) = none, am_is h (some 87) 9, ¬ (40 : Int32) < 0, Int32.toNatClampNeg (40 : Int32) ≤ 100000, am_is (p_n (p_i h 87 0 (-1 : Int32)) 23 40) (some 87) 9]) (g := (17, [some (v_r (some 87))], [], p_r (p_n (p_i h 87 0 (-1 : Int32)) 23 40) 87 2 (some (h_n h)))) rfl
  rw [I.1] at R
  exact R.trans (cj_d (fun z => by cases z) (cj_d (iv.is (N := 88) I (by decide) rfl) (cj_d (by decide) (cj_d (by decide) (cj_d (iv.is (N := 89) (iv_n (iv_i I) rfl) (by decide) rfl) Iff.rfl)))))
set_option maxRecDepth 100000 in
theorem in_94 {d : Nat} {Q : Option am_V → am_H → Prop} {h : am_H} : ex_ d 141 17 [some (v_r (some 87))] [] h Q ↔ Q none h := (am_Y_ret rfl rfl rfl).trans (am_rz rfl)
set_option maxRecDepth 100000 in
theorem in_95 {d : Nat} {Q : Option am_V → am_H → Prop} {h : am_H} (I : iv h 89) : ex_ d 161 207 [some (v_r (some 0)), some (v_i (1 : Int32))] [v_r (some 87), v_i (1 : Int32), v_r (some 83)] h Q ↔ ex_ d 161 195 [some (v_r (some 0)), some (v_i (2 : Int32))] [] (i_fo [(1, 83, 1, 87)] h) Q := by
  have R := am_Y_go (byt := am_byt) (P := am_p) 6 (d := d) (k := 161) (Q := Q) (f := (207, [some (v_r (some 0)), some (v_i (1 : Int32))], [v_r (some 87), v_i (1 : Int32), v_r (some 83)], h)) (ok := [am_is h (some 87) 9, am_ar h (some 83) 39 (1 : Int32)]) (g := (if (4 : Int32) ≤ (2 : Int32) then 214 else 195, [some (v_r (some 0)), some (v_i (2 : Int32))], [], p_r h 83 (Int32.toNatClampNeg (1 : Int32)) (some 87))) rfl
  rw [if_neg (by decide)] at R
  exact R.trans (cj_d (iv.is (N := 89) I (by decide) rfl) (cj_d (iv.ar (N := 89) (n := 4) I (by decide) rfl (vp_in_nI (n := 1) (by omega) (by omega))) Iff.rfl))
set_option maxRecDepth 100000 in
theorem in_96 {d : Nat} {Q : Option am_V → am_H → Prop} {h : am_H} (I : iv h 89) : ex_ d 161 195 [some (v_r (some 0)), some (v_i (2 : Int32))] [] h Q ↔ ex_ d 161 196 [some (v_r (some 0)), some (v_i (2 : Int32))] [v_r (some 0)] (h) Q := by
  have R := am_Y_go (byt := am_byt) (P := am_p) 1 (d := d) (k := 161) (Q := Q) (f := (195, [some (v_r (some 0)), some (v_i (2 : Int32))], [], h)) (ok := []) (g := (196, [some (v_r (some 0)), some (v_i (2 : Int32))], [v_r (some 0)], h)) rfl
  exact R.trans Iff.rfl
set_option maxRecDepth 100000 in
theorem in_97 {d : Nat} {Q : Option am_V → am_H → Prop} {h : am_H} (I : iv h 89) (r : h_r h 0 17 = some 83) : ex_ d 161 196 [some (v_r (some 0)), some (v_i (2 : Int32))] [v_r (some 0)] h Q ↔ ex_ d 161 199 [some (v_r (some 0)), some (v_i (2 : Int32))] [v_r (some 83)] h Q := by
  have R := am_Y_go (byt := am_byt) (P := am_p) 1 (d := d) (k := 161) (Q := Q) (f := (196, [some (v_r (some 0)), some (v_i (2 : Int32))], [v_r (some 0)], h)) (ok := [am_is h (some 0) 11]) (g := (199, [some (v_r (some 0)), some (v_i (2 : Int32))], [v_r (h_r h 0 17)], h)) rfl
  rw [r] at R
  exact R.trans (cj_d (iv.is I (by decide) rfl) Iff.rfl)
set_option maxRecDepth 100000 in
theorem in_98 {d : Nat} {Q : Option am_V → am_H → Prop} {h : am_H} (I : iv h 89) : ex_ d 161 199 [some (v_r (some 0)), some (v_i (2 : Int32))] [v_r (some 83)] h Q ↔ ex_ d 161 204 [some (v_r (some 0)), some (v_i (2 : Int32))] [v_r (some 89), v_r (some 89), v_i (2 : Int32), v_r (some 83)] (i_fo [(0, 9, 3, 0)] h) Q := by
  have R := am_Y_go (byt := am_byt) (P := am_p) 3 (d := d) (k := 161) (Q := Q) (f := (199, [some (v_r (some 0)), some (v_i (2 : Int32))], [v_r (some 83)], h)) (ok := []) (g := (204, [some (v_r (some 0)), some (v_i (2 : Int32))], [v_r (some (h_n h)), v_r (some (h_n h)), v_i (2 : Int32), v_r (some 83)], p_n h 9 3)) rfl
  rw [I.1] at R
  exact R.trans Iff.rfl
set_option maxRecDepth 100000 in
theorem in_99 {d : Nat} {Q : Option am_V → am_H → Prop} {h : am_H} (I : iv h 90) : ex_ (d + 1) 161 204 [some (v_r (some 0)), some (v_i (2 : Int32))] [v_r (some 89), v_r (some 89), v_i (2 : Int32), v_r (some 83)] h Q ↔ ex_ d 141 0 [some (v_r (some 89))] [] h (fun r h' => ex_ (d + 1) 161 207 [some (v_r (some 0)), some (v_i (2 : Int32))] (r.toList ++ [v_r (some 89), v_i (2 : Int32), v_r (some 83)]) h' Q) := (am_Y_call (j := 141) (na := 1) (ci := 9) (fl := 5) rfl rfl rfl).trans (cj_d ⟨⟨Nat.le_of_ble_eq_true rfl, Nat.le_of_ble_eq_true rfl, Nat.le_of_ble_eq_true rfl, rfl⟩, Or.inr (Or.inr (show (9 : Nat) < 20 ∧ am_is h (some 89) 9 from ⟨by decide, iv.is I (by decide) rfl⟩))⟩ Iff.rfl)
set_option maxRecDepth 100000 in
theorem in_100 {d : Nat} {Q : Option am_V → am_H → Prop} {h : am_H} (I : iv h 90) : ex_ d 141 0 [some (v_r (some 89))] [] h Q ↔ ex_ d 141 17 [some (v_r (some 89))] [] (i_fo [(2, 89, 0, 0), (0, 23, 40, 0), (1, 89, 2, 90)] h) Q := by
  have R := am_Y_go (byt := am_byt) (P := am_p) 9 (d := d) (k := 141) (Q := Q) (f := (0, [some (v_r (some 89))], [], h)) (ok := [¬ (some 89) = none, am_is h (some 89) 9, ¬ (40 : Int32) < 0, Int32.toNatClampNeg (40 : Int32) ≤ 100000, am_is (p_n (p_i h 89 0 (-1 : Int32)) 23 40) (some 89) 9]) (g := (17, [some (v_r (some 89))], [], p_r (p_n (p_i h 89 0 (-1 : Int32)) 23 40) 89 2 (some (h_n h)))) rfl
  rw [I.1] at R
  exact R.trans (cj_d (fun z => by cases z) (cj_d (iv.is (N := 90) I (by decide) rfl) (cj_d (by decide) (cj_d (by decide) (cj_d (iv.is (N := 91) (iv_n (iv_i I) rfl) (by decide) rfl) Iff.rfl)))))
set_option maxRecDepth 100000 in
theorem in_101 {d : Nat} {Q : Option am_V → am_H → Prop} {h : am_H} : ex_ d 141 17 [some (v_r (some 89))] [] h Q ↔ Q none h := (am_Y_ret rfl rfl rfl).trans (am_rz rfl)
set_option maxRecDepth 100000 in
theorem in_102 {d : Nat} {Q : Option am_V → am_H → Prop} {h : am_H} (I : iv h 91) : ex_ d 161 207 [some (v_r (some 0)), some (v_i (2 : Int32))] [v_r (some 89), v_i (2 : Int32), v_r (some 83)] h Q ↔ ex_ d 161 195 [some (v_r (some 0)), some (v_i (3 : Int32))] [] (i_fo [(1, 83, 2, 89)] h) Q := by
  have R := am_Y_go (byt := am_byt) (P := am_p) 6 (d := d) (k := 161) (Q := Q) (f := (207, [some (v_r (some 0)), some (v_i (2 : Int32))], [v_r (some 89), v_i (2 : Int32), v_r (some 83)], h)) (ok := [am_is h (some 89) 9, am_ar h (some 83) 39 (2 : Int32)]) (g := (if (4 : Int32) ≤ (3 : Int32) then 214 else 195, [some (v_r (some 0)), some (v_i (3 : Int32))], [], p_r h 83 (Int32.toNatClampNeg (2 : Int32)) (some 89))) rfl
  rw [if_neg (by decide)] at R
  exact R.trans (cj_d (iv.is (N := 91) I (by decide) rfl) (cj_d (iv.ar (N := 91) (n := 4) I (by decide) rfl (vp_in_nI (n := 2) (by omega) (by omega))) Iff.rfl))
set_option maxRecDepth 100000 in
theorem in_103 {d : Nat} {Q : Option am_V → am_H → Prop} {h : am_H} (I : iv h 91) : ex_ d 161 195 [some (v_r (some 0)), some (v_i (3 : Int32))] [] h Q ↔ ex_ d 161 196 [some (v_r (some 0)), some (v_i (3 : Int32))] [v_r (some 0)] (h) Q := by
  have R := am_Y_go (byt := am_byt) (P := am_p) 1 (d := d) (k := 161) (Q := Q) (f := (195, [some (v_r (some 0)), some (v_i (3 : Int32))], [], h)) (ok := []) (g := (196, [some (v_r (some 0)), some (v_i (3 : Int32))], [v_r (some 0)], h)) rfl
  exact R.trans Iff.rfl
set_option maxRecDepth 100000 in
theorem in_104 {d : Nat} {Q : Option am_V → am_H → Prop} {h : am_H} (I : iv h 91) (r : h_r h 0 17 = some 83) : ex_ d 161 196 [some (v_r (some 0)), some (v_i (3 : Int32))] [v_r (some 0)] h Q ↔ ex_ d 161 199 [some (v_r (some 0)), some (v_i (3 : Int32))] [v_r (some 83)] h Q := by
  have R := am_Y_go (byt := am_byt) (P := am_p) 1 (d := d) (k := 161) (Q := Q) (f := (196, [some (v_r (some 0)), some (v_i (3 : Int32))], [v_r (some 0)], h)) (ok := [am_is h (some 0) 11]) (g := (199, [some (v_r (some 0)), some (v_i (3 : Int32))], [v_r (h_r h 0 17)], h)) rfl
  rw [r] at R
  exact R.trans (cj_d (iv.is I (by decide) rfl) Iff.rfl)
set_option maxRecDepth 100000 in
theorem in_105 {d : Nat} {Q : Option am_V → am_H → Prop} {h : am_H} (I : iv h 91) : ex_ d 161 199 [some (v_r (some 0)), some (v_i (3 : Int32))] [v_r (some 83)] h Q ↔ ex_ d 161 204 [some (v_r (some 0)), some (v_i (3 : Int32))] [v_r (some 91), v_r (some 91), v_i (3 : Int32), v_r (some 83)] (i_fo [(0, 9, 3, 0)] h) Q := by
  have R := am_Y_go (byt := am_byt) (P := am_p) 3 (d := d) (k := 161) (Q := Q) (f := (199, [some (v_r (some 0)), some (v_i (3 : Int32))], [v_r (some 83)], h)) (ok := []) (g := (204, [some (v_r (some 0)), some (v_i (3 : Int32))], [v_r (some (h_n h)), v_r (some (h_n h)), v_i (3 : Int32), v_r (some 83)], p_n h 9 3)) rfl
  rw [I.1] at R
  exact R.trans Iff.rfl
set_option maxRecDepth 100000 in
theorem in_106 {d : Nat} {Q : Option am_V → am_H → Prop} {h : am_H} (I : iv h 92) : ex_ (d + 1) 161 204 [some (v_r (some 0)), some (v_i (3 : Int32))] [v_r (some 91), v_r (some 91), v_i (3 : Int32), v_r (some 83)] h Q ↔ ex_ d 141 0 [some (v_r (some 91))] [] h (fun r h' => ex_ (d + 1) 161 207 [some (v_r (some 0)), some (v_i (3 : Int32))] (r.toList ++ [v_r (some 91), v_i (3 : Int32), v_r (some 83)]) h' Q) := (am_Y_call (j := 141) (na := 1) (ci := 9) (fl := 5) rfl rfl rfl).trans (cj_d ⟨⟨Nat.le_of_ble_eq_true rfl, Nat.le_of_ble_eq_true rfl, Nat.le_of_ble_eq_true rfl, rfl⟩, Or.inr (Or.inr (show (9 : Nat) < 20 ∧ am_is h (some 91) 9 from ⟨by decide, iv.is I (by decide) rfl⟩))⟩ Iff.rfl)
set_option maxRecDepth 100000 in
theorem in_107 {d : Nat} {Q : Option am_V → am_H → Prop} {h : am_H} (I : iv h 92) : ex_ d 141 0 [some (v_r (some 91))] [] h Q ↔ ex_ d 141 17 [some (v_r (some 91))] [] (i_fo [(2, 91, 0, 0), (0, 23, 40, 0), (1, 91, 2, 92)] h) Q := by
  have R := am_Y_go (byt := am_byt) (P := am_p) 9 (d := d) (k := 141) (Q := Q) (f := (0, [some (v_r (some 91))], [], h)) (ok := [¬ (some 91) = none, am_is h (some 91) 9, ¬ (40 : Int32) < 0, Int32.toNatClampNeg (40 : Int32) ≤ 100000, am_is (p_n (p_i h 91 0 (-1 : Int32)) 23 40) (some 91) 9]) (g := (17, [some (v_r (some 91))], [], p_r (p_n (p_i h 91 0 (-1 : Int32)) 23 40) 91 2 (some (h_n h)))) rfl
  rw [I.1] at R
  exact R.trans (cj_d (fun z => by cases z) (cj_d (iv.is (N := 92) I (by decide) rfl) (cj_d (by decide) (cj_d (by decide) (cj_d (iv.is (N := 93) (iv_n (iv_i I) rfl) (by decide) rfl) Iff.rfl)))))
set_option maxRecDepth 100000 in
theorem in_108 {d : Nat} {Q : Option am_V → am_H → Prop} {h : am_H} : ex_ d 141 17 [some (v_r (some 91))] [] h Q ↔ Q none h := (am_Y_ret rfl rfl rfl).trans (am_rz rfl)
set_option maxRecDepth 100000 in
theorem in_109 {d : Nat} {Q : Option am_V → am_H → Prop} {h : am_H} (I : iv h 93) : ex_ d 161 207 [some (v_r (some 0)), some (v_i (3 : Int32))] [v_r (some 91), v_i (3 : Int32), v_r (some 83)] h Q ↔ ex_ d 161 214 [some (v_r (some 0)), some (v_i (4 : Int32))] [] (i_fo [(1, 83, 3, 91)] h) Q := by
  have R := am_Y_go (byt := am_byt) (P := am_p) 6 (d := d) (k := 161) (Q := Q) (f := (207, [some (v_r (some 0)), some (v_i (3 : Int32))], [v_r (some 91), v_i (3 : Int32), v_r (some 83)], h)) (ok := [am_is h (some 91) 9, am_ar h (some 83) 39 (3 : Int32)]) (g := (if (4 : Int32) ≤ (4 : Int32) then 214 else 195, [some (v_r (some 0)), some (v_i (4 : Int32))], [], p_r h 83 (Int32.toNatClampNeg (3 : Int32)) (some 91))) rfl
  rw [if_pos (by decide)] at R
  exact R.trans (cj_d (iv.is (N := 93) I (by decide) rfl) (cj_d (iv.ar (N := 93) (n := 4) I (by decide) rfl (vp_in_nI (n := 3) (by omega) (by omega))) Iff.rfl))
set_option maxRecDepth 100000 in
theorem in_110 {d : Nat} {Q : Option am_V → am_H → Prop} {h : am_H} : ex_ d 161 214 [some (v_r (some 0)), some (v_i (4 : Int32))] [] h Q ↔ Q none h := (am_Y_ret rfl rfl rfl).trans (am_rz rfl)
set_option maxRecDepth 100000 in
theorem in_111 {d : Nat} {Q : Option am_V → am_H → Prop} {h : am_H} (I : iv h 93) : ex_ d 0 7 [some (v_x 20), none, none, none] [v_r (some 0)] h Q ↔ ex_ d 0 12 [some (v_x 20), some (v_r (some 0)), none, none] [v_r (some 93), v_r (some 93)] (i_fo [(0, 12, 44, 0)] h) Q := by
  have R := am_Y_go (byt := am_byt) (P := am_p) 3 (d := d) (k := 0) (Q := Q) (f := (7, [some (v_x 20), none, none, none], [v_r (some 0)], h)) (ok := []) (g := (12, [some (v_x 20), some (v_r (some 0)), none, none], [v_r (some (h_n h)), v_r (some (h_n h))], p_n h 12 44)) rfl
  rw [I.1] at R
  exact R.trans Iff.rfl
set_option maxRecDepth 100000 in
theorem in_112 {d : Nat} {Q : Option am_V → am_H → Prop} {h : am_H} (I : iv h 94) : ex_ (d + 1) 0 12 [some (v_x 20), some (v_r (some 0)), none, none] [v_r (some 93), v_r (some 93)] h Q ↔ ex_ d 231 0 [some (v_r (some 93))] [] h (fun r h' => ex_ (d + 1) 0 15 [some (v_x 20), some (v_r (some 0)), none, none] (r.toList ++ [v_r (some 93)]) h' Q) := (am_Y_call (j := 231) (na := 1) (ci := 12) (fl := 4) rfl rfl rfl).trans (cj_d ⟨⟨Nat.le_of_ble_eq_true rfl, Nat.le_of_ble_eq_true rfl, Nat.le_of_ble_eq_true rfl, rfl⟩, Or.inr (Or.inr (show (12 : Nat) < 20 ∧ am_is h (some 93) 12 from ⟨by decide, iv.is I (by decide) rfl⟩))⟩ Iff.rfl)
set_option maxRecDepth 100000 in
theorem in_113 {d : Nat} {Q : Option am_V → am_H → Prop} {h : am_H} (I : iv h 94) : ex_ d 231 0 [some (v_r (some 93))] [] h Q ↔ ex_ d 231 29 [some (v_r (some 93))] [] (i_fo [(0, 20, 7053, 0), (1, 93, 1, 94), (0, 22, 2, 0), (1, 93, 2, 95), (0, 20, 900, 0), (1, 93, 3, 96)] h) Q := by
  have R := am_Y_go (byt := am_byt) (P := am_p) 14 (d := d) (k := 231) (Q := Q) (f := (0, [some (v_r (some 93))], [], h)) (ok := [¬ (some 93) = none, ¬ (7053 : Int32) < 0, Int32.toNatClampNeg (7053 : Int32) ≤ 100000, am_is (p_n h 20 7053) (some 93) 12, ¬ (2 : Int32) < 0, Int32.toNatClampNeg (2 : Int32) ≤ 100000, am_is (p_n (p_r (p_n h 20 7053) 93 1 (some (h_n h))) 22 2) (some 93) 12, ¬ (900 : Int32) < 0, Int32.toNatClampNeg (900 : Int32) ≤ 100000, am_is (p_n (p_r (p_n (p_r (p_n h 20 7053) 93 1 (some (h_n h))) 22 2) 93 2 (some (h_n h + 1))) 20 900) (some 93) 12]) (g := (29, [some (v_r (some 93))], [], p_r (p_n (p_r (p_n (p_r (p_n h 20 7053) 93 1 (some (h_n h))) 22 2) 93 2 (some (h_n h + 1))) 20 900) 93 3 (some (h_n h + 2)))) rfl
  rw [I.1] at R
  exact R.trans (cj_d (fun z => by cases z) (cj_d (by decide) (cj_d (by decide) (cj_d (iv.is (N := 95) (iv_n I rfl) (by decide) rfl) (cj_d (by decide) (cj_d (by decide) (cj_d (iv.is (N := 96) (iv_n (iv_r (iv_n I rfl)) rfl) (by decide) rfl) (cj_d (by decide) (cj_d (by decide) (cj_d (iv.is (N := 97) (iv_n (iv_r (iv_n (iv_r (iv_n I rfl)) rfl)) rfl) (by decide) rfl) Iff.rfl))))))))))
set_option maxRecDepth 100000 in
theorem in_114 {d : Nat} {Q : Option am_V → am_H → Prop} {h : am_H} (I : iv h 97) : ex_ d 231 29 [some (v_r (some 93))] [] h Q ↔ ex_ d 231 51 [some (v_r (some 93))] [] (i_fo [(0, 20, 2351, 0), (1, 93, 4, 97), (2, 93, 14, 0), (0, 20, 11, 0), (1, 93, 16, 98)] h) Q := by
  have R := am_Y_go (byt := am_byt) (P := am_p) 11 (d := d) (k := 231) (Q := Q) (f := (29, [some (v_r (some 93))], [], h)) (ok := [¬ (2351 : Int32) < 0, Int32.toNatClampNeg (2351 : Int32) ≤ 100000, am_is (p_n h 20 2351) (some 93) 12, am_is (p_r (p_n h 20 2351) 93 4 (some (h_n h))) (some 93) 12, ¬ (11 : Int32) < 0, Int32.toNatClampNeg (11 : Int32) ≤ 100000, am_is (p_n (p_i (p_r (p_n h 20 2351) 93 4 (some (h_n h))) 93 14 (-1 : Int32)) 20 11) (some 93) 12]) (g := (51, [some (v_r (some 93))], [], p_r (p_n (p_i (p_r (p_n h 20 2351) 93 4 (some (h_n h))) 93 14 (-1 : Int32)) 20 11) 93 16 (some (h_n h + 1)))) rfl
  rw [I.1] at R
  exact R.trans (cj_d (by decide) (cj_d (by decide) (cj_d (iv.is (N := 98) (iv_n I rfl) (by decide) rfl) (cj_d (iv.is (N := 98) (iv_r (iv_n I rfl)) (by decide) rfl) (cj_d (by decide) (cj_d (by decide) (cj_d (iv.is (N := 99) (iv_n (iv_i (iv_r (iv_n I rfl))) rfl) (by decide) rfl) Iff.rfl)))))))
set_option maxRecDepth 100000 in
theorem in_115 {d : Nat} {Q : Option am_V → am_H → Prop} {h : am_H} (I : iv h 99) : ex_ d 231 51 [some (v_r (some 93))] [] h Q ↔ ex_ d 231 74 [some (v_r (some 93))] [] (i_fo [(0, 20, 121, 0), (1, 93, 17, 99), (0, 20, 11, 0), (1, 93, 18, 100), (0, 20, 5, 0), (1, 93, 19, 101)] h) Q := by
  have R := am_Y_go (byt := am_byt) (P := am_p) 12 (d := d) (k := 231) (Q := Q) (f := (51, [some (v_r (some 93))], [], h)) (ok := [¬ (121 : Int32) < 0, Int32.toNatClampNeg (121 : Int32) ≤ 100000, am_is (p_n h 20 121) (some 93) 12, ¬ (11 : Int32) < 0, Int32.toNatClampNeg (11 : Int32) ≤ 100000, am_is (p_n (p_r (p_n h 20 121) 93 17 (some (h_n h))) 20 11) (some 93) 12, ¬ (5 : Int32) < 0, Int32.toNatClampNeg (5 : Int32) ≤ 100000, am_is (p_n (p_r (p_n (p_r (p_n h 20 121) 93 17 (some (h_n h))) 20 11) 93 18 (some (h_n h + 1))) 20 5) (some 93) 12]) (g := (74, [some (v_r (some 93))], [], p_r (p_n (p_r (p_n (p_r (p_n h 20 121) 93 17 (some (h_n h))) 20 11) 93 18 (some (h_n h + 1))) 20 5) 93 19 (some (h_n h + 2)))) rfl
  rw [I.1] at R
  exact R.trans (cj_d (by decide) (cj_d (by decide) (cj_d (iv.is (N := 100) (iv_n I rfl) (by decide) rfl) (cj_d (by decide) (cj_d (by decide) (cj_d (iv.is (N := 101) (iv_n (iv_r (iv_n I rfl)) rfl) (by decide) rfl) (cj_d (by decide) (cj_d (by decide) (cj_d (iv.is (N := 102) (iv_n (iv_r (iv_n (iv_r (iv_n I rfl)) rfl)) rfl) (by decide) rfl) Iff.rfl)))))))))
set_option maxRecDepth 100000 in
theorem in_116 {d : Nat} {Q : Option am_V → am_H → Prop} {h : am_H} (I : iv h 102) : ex_ d 231 74 [some (v_r (some 93))] [] h Q ↔ ex_ d 231 96 [some (v_r (some 93))] [] (i_fo [(0, 20, 5, 0), (1, 93, 20, 102), (0, 20, 55, 0), (1, 93, 21, 103), (0, 20, 4, 0), (1, 93, 22, 104)] h) Q := by
  have R := am_Y_go (byt := am_byt) (P := am_p) 12 (d := d) (k := 231) (Q := Q) (f := (74, [some (v_r (some 93))], [], h)) (ok := [¬ (5 : Int32) < 0, Int32.toNatClampNeg (5 : Int32) ≤ 100000, am_is (p_n h 20 5) (some 93) 12, ¬ (55 : Int32) < 0, Int32.toNatClampNeg (55 : Int32) ≤ 100000, am_is (p_n (p_r (p_n h 20 5) 93 20 (some (h_n h))) 20 55) (some 93) 12, ¬ (4 : Int32) < 0, Int32.toNatClampNeg (4 : Int32) ≤ 100000, am_is (p_n (p_r (p_n (p_r (p_n h 20 5) 93 20 (some (h_n h))) 20 55) 93 21 (some (h_n h + 1))) 20 4) (some 93) 12]) (g := (96, [some (v_r (some 93))], [], p_r (p_n (p_r (p_n (p_r (p_n h 20 5) 93 20 (some (h_n h))) 20 55) 93 21 (some (h_n h + 1))) 20 4) 93 22 (some (h_n h + 2)))) rfl
  rw [I.1] at R
  exact R.trans (cj_d (by decide) (cj_d (by decide) (cj_d (iv.is (N := 103) (iv_n I rfl) (by decide) rfl) (cj_d (by decide) (cj_d (by decide) (cj_d (iv.is (N := 104) (iv_n (iv_r (iv_n I rfl)) rfl) (by decide) rfl) (cj_d (by decide) (cj_d (by decide) (cj_d (iv.is (N := 105) (iv_n (iv_r (iv_n (iv_r (iv_n I rfl)) rfl)) rfl) (by decide) rfl) Iff.rfl)))))))))
set_option maxRecDepth 100000 in
theorem in_117 {d : Nat} {Q : Option am_V → am_H → Prop} {h : am_H} (I : iv h 105) : ex_ d 231 96 [some (v_r (some 93))] [] h Q ↔ ex_ d 231 121 [some (v_r (some 93))] [] (i_fo [(0, 20, 131, 0), (1, 93, 24, 105), (0, 20, 10, 0), (1, 93, 27, 106), (0, 20, 10, 0), (1, 93, 28, 107)] h) Q := by
  have R := am_Y_go (byt := am_byt) (P := am_p) 12 (d := d) (k := 231) (Q := Q) (f := (96, [some (v_r (some 93))], [], h)) (ok := [¬ (131 : Int32) < 0, Int32.toNatClampNeg (131 : Int32) ≤ 100000, am_is (p_n h 20 131) (some 93) 12, ¬ (10 : Int32) < 0, Int32.toNatClampNeg (10 : Int32) ≤ 100000, am_is (p_n (p_r (p_n h 20 131) 93 24 (some (h_n h))) 20 10) (some 93) 12, ¬ (10 : Int32) < 0, Int32.toNatClampNeg (10 : Int32) ≤ 100000, am_is (p_n (p_r (p_n (p_r (p_n h 20 131) 93 24 (some (h_n h))) 20 10) 93 27 (some (h_n h + 1))) 20 10) (some 93) 12]) (g := (121, [some (v_r (some 93))], [], p_r (p_n (p_r (p_n (p_r (p_n h 20 131) 93 24 (some (h_n h))) 20 10) 93 27 (some (h_n h + 1))) 20 10) 93 28 (some (h_n h + 2)))) rfl
  rw [I.1] at R
  exact R.trans (cj_d (by decide) (cj_d (by decide) (cj_d (iv.is (N := 106) (iv_n I rfl) (by decide) rfl) (cj_d (by decide) (cj_d (by decide) (cj_d (iv.is (N := 107) (iv_n (iv_r (iv_n I rfl)) rfl) (by decide) rfl) (cj_d (by decide) (cj_d (by decide) (cj_d (iv.is (N := 108) (iv_n (iv_r (iv_n (iv_r (iv_n I rfl)) rfl)) rfl) (by decide) rfl) Iff.rfl)))))))))
set_option maxRecDepth 100000 in
theorem in_118 {d : Nat} {Q : Option am_V → am_H → Prop} {h : am_H} (I : iv h 108) : ex_ d 231 121 [some (v_r (some 93))] [] h Q ↔ ex_ d 231 148 [some (v_r (some 93))] [] (i_fo [(0, 20, 1024, 0), (1, 93, 29, 108), (0, 20, 4096, 0), (1, 93, 30, 109), (0, 20, 900, 0), (1, 93, 32, 110)] h) Q := by
  have R := am_Y_go (byt := am_byt) (P := am_p) 12 (d := d) (k := 231) (Q := Q) (f := (121, [some (v_r (some 93))], [], h)) (ok := [¬ (1024 : Int32) < 0, Int32.toNatClampNeg (1024 : Int32) ≤ 100000, am_is (p_n h 20 1024) (some 93) 12, ¬ (4096 : Int32) < 0, Int32.toNatClampNeg (4096 : Int32) ≤ 100000, am_is (p_n (p_r (p_n h 20 1024) 93 29 (some (h_n h))) 20 4096) (some 93) 12, ¬ (900 : Int32) < 0, Int32.toNatClampNeg (900 : Int32) ≤ 100000, am_is (p_n (p_r (p_n (p_r (p_n h 20 1024) 93 29 (some (h_n h))) 20 4096) 93 30 (some (h_n h + 1))) 20 900) (some 93) 12]) (g := (148, [some (v_r (some 93))], [], p_r (p_n (p_r (p_n (p_r (p_n h 20 1024) 93 29 (some (h_n h))) 20 4096) 93 30 (some (h_n h + 1))) 20 900) 93 32 (some (h_n h + 2)))) rfl
  rw [I.1] at R
  exact R.trans (cj_d (by decide) (cj_d (by decide) (cj_d (iv.is (N := 109) (iv_n I rfl) (by decide) rfl) (cj_d (by decide) (cj_d (by decide) (cj_d (iv.is (N := 110) (iv_n (iv_r (iv_n I rfl)) rfl) (by decide) rfl) (cj_d (by decide) (cj_d (by decide) (cj_d (iv.is (N := 111) (iv_n (iv_r (iv_n (iv_r (iv_n I rfl)) rfl)) rfl) (by decide) rfl) Iff.rfl)))))))))
set_option maxRecDepth 100000 in
theorem in_119 {d : Nat} {Q : Option am_V → am_H → Prop} {h : am_H} (I : iv h 111) : ex_ d 231 148 [some (v_r (some 93))] [] h Q ↔ ex_ d 231 171 [some (v_r (some 93))] [] (i_fo [(0, 20, 6, 0), (1, 93, 33, 111), (0, 20, 11, 0), (1, 93, 34, 112), (0, 20, 3, 0), (1, 93, 36, 113)] h) Q := by
  have R := am_Y_go (byt := am_byt) (P := am_p) 12 (d := d) (k := 231) (Q := Q) (f := (148, [some (v_r (some 93))], [], h)) (ok := [¬ (6 : Int32) < 0, Int32.toNatClampNeg (6 : Int32) ≤ 100000, am_is (p_n h 20 6) (some 93) 12, ¬ (11 : Int32) < 0, Int32.toNatClampNeg (11 : Int32) ≤ 100000, am_is (p_n (p_r (p_n h 20 6) 93 33 (some (h_n h))) 20 11) (some 93) 12, ¬ (3 : Int32) < 0, Int32.toNatClampNeg (3 : Int32) ≤ 100000, am_is (p_n (p_r (p_n (p_r (p_n h 20 6) 93 33 (some (h_n h))) 20 11) 93 34 (some (h_n h + 1))) 20 3) (some 93) 12]) (g := (171, [some (v_r (some 93))], [], p_r (p_n (p_r (p_n (p_r (p_n h 20 6) 93 33 (some (h_n h))) 20 11) 93 34 (some (h_n h + 1))) 20 3) 93 36 (some (h_n h + 2)))) rfl
  rw [I.1] at R
  exact R.trans (cj_d (by decide) (cj_d (by decide) (cj_d (iv.is (N := 112) (iv_n I rfl) (by decide) rfl) (cj_d (by decide) (cj_d (by decide) (cj_d (iv.is (N := 113) (iv_n (iv_r (iv_n I rfl)) rfl) (by decide) rfl) (cj_d (by decide) (cj_d (by decide) (cj_d (iv.is (N := 114) (iv_n (iv_r (iv_n (iv_r (iv_n I rfl)) rfl)) rfl) (by decide) rfl) Iff.rfl)))))))))
set_option maxRecDepth 100000 in
theorem in_120 {d : Nat} {Q : Option am_V → am_H → Prop} {h : am_H} (I : iv h 114) : ex_ d 231 171 [some (v_r (some 93))] [] h Q ↔ ex_ d 231 202 [some (v_r (some 93))] [] (i_fo [(0, 20, 10, 0), (1, 93, 38, 114), (0, 20, 4, 0), (2, 115, 0, 0), (2, 115, 1, 0), (2, 115, 2, 0), (2, 115, 3, 0), (1, 93, 41, 115)] h) Q := by
  have R := am_Y_go (byt := am_byt) (P := am_p) 24 (d := d) (k := 231) (Q := Q) (f := (171, [some (v_r (some 93))], [], h)) (ok := [¬ (10 : Int32) < 0, Int32.toNatClampNeg (10 : Int32) ≤ 100000, am_is (p_n h 20 10) (some 93) 12, ¬ (4 : Int32) < 0, Int32.toNatClampNeg (4 : Int32) ≤ 100000, am_ar (p_n (p_r (p_n h 20 10) 93 38 (some (h_n h))) 20 4) (some (h_n h + 1)) 20 (0 : Int32), am_ar (p_i (p_n (p_r (p_n h 20 10) 93 38 (some (h_n h))) 20 4) (h_n h + 1) (Int32.toNatClampNeg (0 : Int32)) (-1 : Int32)) (some (h_n h + 1)) 20 (1 : Int32), am_ar (p_i (p_i (p_n (p_r (p_n h 20 10) 93 38 (some (h_n h))) 20 4) (h_n h + 1) (Int32.toNatClampNeg (0 : Int32)) (-1 : Int32)) (h_n h + 1) (Int32.toNatClampNeg (1 : Int32)) (-1 : Int32)) (some (h_n h + 1)) 20 (2 : Int32), am_ar (p_i (p_i (p_i (p_n (p_r (p_n h 20 10) 93 38 (some (h_n h))) 20 4) (h_n h + 1) (Int32.toNatClampNeg (0 : Int32)) (-1 : Int32)) (h_n h + 1) (Int32.toNatClampNeg (1 : Int32)) (-1 : Int32)) (h_n h + 1) (Int32.toNatClampNeg (2 : Int32)) (-1 : Int32)) (some (h_n h + 1)) 20 (3 : Int32), am_is (p_i (p_i (p_i (p_i (p_n (p_r (p_n h 20 10) 93 38 (some (h_n h))) 20 4) (h_n h + 1) (Int32.toNatClampNeg (0 : Int32)) (-1 : Int32)) (h_n h + 1) (Int32.toNatClampNeg (1 : Int32)) (-1 : Int32)) (h_n h + 1) (Int32.toNatClampNeg (2 : Int32)) (-1 : Int32)) (h_n h + 1) (Int32.toNatClampNeg (3 : Int32)) (-1 : Int32)) (some 93) 12]) (g := (202, [some (v_r (some 93))], [], p_r (p_i (p_i (p_i (p_i (p_n (p_r (p_n h 20 10) 93 38 (some (h_n h))) 20 4) (h_n h + 1) (Int32.toNatClampNeg (0 : Int32)) (-1 : Int32)) (h_n h + 1) (Int32.toNatClampNeg (1 : Int32)) (-1 : Int32)) (h_n h + 1) (Int32.toNatClampNeg (2 : Int32)) (-1 : Int32)) (h_n h + 1) (Int32.toNatClampNeg (3 : Int32)) (-1 : Int32)) 93 41 (some (h_n h + 1)))) rfl
  rw [I.1] at R
  exact R.trans (cj_d (by decide) (cj_d (by decide) (cj_d (iv.is (N := 115) (iv_n I rfl) (by decide) rfl) (cj_d (by decide) (cj_d (by decide) (cj_d (iv.ar (N := 116) (n := 4) (iv_n (iv_r (iv_n I rfl)) rfl) (by decide) rfl (vp_in_nI (n := 0) (by omega) (by omega))) (cj_d (iv.ar (N := 116) (n := 4) (iv_i (iv_n (iv_r (iv_n I rfl)) rfl)) (by decide) rfl (vp_in_nI (n := 1) (by omega) (by omega))) (cj_d (iv.ar (N := 116) (n := 4) (iv_i (iv_i (iv_n (iv_r (iv_n I rfl)) rfl))) (by decide) rfl (vp_in_nI (n := 2) (by omega) (by omega))) (cj_d (iv.ar (N := 116) (n := 4) (iv_i (iv_i (iv_i (iv_n (iv_r (iv_n I rfl)) rfl)))) (by decide) rfl (vp_in_nI (n := 3) (by omega) (by omega))) (cj_d (iv.is (N := 116) (iv_i (iv_i (iv_i (iv_i (iv_n (iv_r (iv_n I rfl)) rfl))))) (by decide) rfl) Iff.rfl))))))))))
set_option maxRecDepth 100000 in
theorem in_121 {d : Nat} {Q : Option am_V → am_H → Prop} {h : am_H} (I : iv h 116) : ex_ d 231 202 [some (v_r (some 93))] [] h Q ↔ ex_ d 231 219 [some (v_r (some 93))] [v_r (some 93)] (i_fo [(0, 20, 4, 0), (1, 93, 42, 116), (0, 23, 160, 0), (1, 93, 43, 117)] h) Q := by
  have R := am_Y_go (byt := am_byt) (P := am_p) 9 (d := d) (k := 231) (Q := Q) (f := (202, [some (v_r (some 93))], [], h)) (ok := [¬ (4 : Int32) < 0, Int32.toNatClampNeg (4 : Int32) ≤ 100000, am_is (p_n h 20 4) (some 93) 12, ¬ (160 : Int32) < 0, Int32.toNatClampNeg (160 : Int32) ≤ 100000, am_is (p_n (p_r (p_n h 20 4) 93 42 (some (h_n h))) 23 160) (some 93) 12]) (g := (219, [some (v_r (some 93))], [v_r (some 93)], p_r (p_n (p_r (p_n h 20 4) 93 42 (some (h_n h))) 23 160) 93 43 (some (h_n h + 1)))) rfl
  rw [I.1] at R
  exact R.trans (cj_d (by decide) (cj_d (by decide) (cj_d (iv.is (N := 117) (iv_n I rfl) (by decide) rfl) (cj_d (by decide) (cj_d (by decide) (cj_d (iv.is (N := 118) (iv_n (iv_r (iv_n I rfl)) rfl) (by decide) rfl) Iff.rfl))))))
set_option maxRecDepth 100000 in
theorem in_122 {d : Nat} {Q : Option am_V → am_H → Prop} {h : am_H} (I : iv h 118) (r : h_r h 93 1 = some 94) : ex_ d 231 219 [some (v_r (some 93))] [v_r (some 93)] h Q ↔ ex_ d 231 222 [some (v_r (some 93))] [v_r (some 94)] h Q := by
  have R := am_Y_go (byt := am_byt) (P := am_p) 1 (d := d) (k := 231) (Q := Q) (f := (219, [some (v_r (some 93))], [v_r (some 93)], h)) (ok := [am_is h (some 93) 12]) (g := (222, [some (v_r (some 93))], [v_r (h_r h 93 1)], h)) rfl
  rw [r] at R
  exact R.trans (cj_d (iv.is I (by decide) rfl) Iff.rfl)
set_option maxRecDepth 100000 in
theorem in_123 {d : Nat} {Q : Option am_V → am_H → Prop} {h : am_H} (I : iv h 118) : ex_ (d + 1) 231 222 [some (v_r (some 93))] [v_r (some 94)] h Q ↔ ex_ d 230 0 [some (v_r (some 94)), none] [] h (fun r h' => ex_ (d + 1) 231 225 [some (v_r (some 93))] (r.toList ++ []) h' Q) := (am_Y_call (j := 230) (na := 1) (ci := 12) (fl := 2) rfl rfl rfl).trans (cj_d ⟨⟨Nat.le_of_ble_eq_true rfl, Nat.le_of_ble_eq_true rfl, Nat.le_of_ble_eq_true rfl, rfl⟩, Or.inl rfl⟩ Iff.rfl)
set_option maxRecDepth 100000 in
theorem in_124 {d : Nat} {Q : Option am_V → am_H → Prop} {h : am_H} : ex_ d 231 225 [some (v_r (some 93))] [] h Q ↔ Q none h := (am_Y_ret rfl rfl rfl).trans (am_rz rfl)
set_option maxRecDepth 100000 in
theorem in_125 {d : Nat} {Q : Option am_V → am_H → Prop} {h : am_H} (I : iv h 118) : ex_ d 0 15 [some (v_x 20), some (v_r (some 0)), none, none] [v_r (some 93)] h Q ↔ ex_ d 0 18 [some (v_x 20), some (v_r (some 0)), some (v_r (some 93)), some (v_i (0 : Int32))] [] (h) Q := by
  have R := am_Y_go (byt := am_byt) (P := am_p) 3 (d := d) (k := 0) (Q := Q) (f := (15, [some (v_x 20), some (v_r (some 0)), none, none], [v_r (some 93)], h)) (ok := []) (g := (18, [some (v_x 20), some (v_r (some 0)), some (v_r (some 93)), some (v_i (0 : Int32))], [], h)) rfl
  exact R.trans Iff.rfl
