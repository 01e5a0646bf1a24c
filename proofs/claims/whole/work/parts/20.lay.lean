/-! ===== where the cells stand: the static ones by number, objects of many by their own ===== -/
def y_tab : List (Nat × Nat) := [(11, 19), (21, 900), (8, 17), (20, 901), (20, 901), (1, 5), (20, 10), (20, 40), (20, 80), (20, 900), (2, 4), (1, 5), (20, 10), (20, 40), (20, 80), (6, 9), (20, 11), (20, 11), (20, 121), (20, 4), (20, 55), (20, 5), (20, 5), (20, 5), (20, 5), (7, 3), (31, 10), (1, 5), (20, 10), (20, 40), (20, 80), (6, 9), (20, 11), (20, 11), (20, 121), (20, 4), (20, 55), (20, 5), (20, 5), (20, 5), (20, 5), (0, 9), (20, 10), (20, 10), (20, 100), (20, 10), (20, 1024), (5, 3), (20, 10), (20, 100), (20, 10), (10, 14), (20, 10), (20, 8), (20, 10), (20, 100), (4, 5), (6, 9), (20, 11), (20, 11), (20, 121), (20, 4), (20, 55), (20, 5), (20, 5), (20, 5), (20, 5), (20, 10), (20, 3), (3, 6), (6, 9), (20, 11), (20, 11), (20, 121), (20, 4), (20, 55), (20, 5), (20, 5), (20, 5), (20, 5), (20, 1024), (20, 4), (20, 4), (39, 4), (32, 2), (9, 3), (23, 40), (9, 3), (23, 40), (9, 3), (23, 40), (9, 3), (23, 40), (12, 44), (20, 7053), (22, 2), (20, 900), (20, 2351), (20, 11), (20, 121), (20, 11), (20, 5), (20, 5), (20, 55), (20, 4), (20, 131), (20, 10), (20, 10), (20, 1024), (20, 4096), (20, 900), (20, 6), (20, 11), (20, 3), (20, 10), (20, 4), (20, 4), (23, 160)]
def y_ref : List (Nat × Nat × Nat) := [(0, 0, 1), (0, 4, 2), (0, 5, 10), (0, 6, 15), (0, 7, 25), (0, 8, 27), (0, 9, 31), (0, 10, 41), (0, 11, 47), (0, 12, 51), (0, 13, 56), (0, 14, 69), (0, 15, 81), (0, 16, 82), (0, 17, 83), (0, 18, 84), (2, 2, 3), (2, 3, 4), (2, 9, 5), (2, 13, 9), (5, 2, 6), (5, 3, 7), (5, 4, 8), (10, 0, 11), (11, 2, 12), (11, 3, 13), (11, 4, 14), (15, 0, 16), (15, 1, 17), (15, 2, 18), (15, 3, 19), (15, 4, 20), (15, 5, 21), (15, 6, 22), (15, 7, 23), (15, 8, 24), (25, 0, 26), (27, 2, 28), (27, 3, 29), (27, 4, 30), (31, 0, 32), (31, 1, 33), (31, 2, 34), (31, 3, 35), (31, 4, 36), (31, 5, 37), (31, 6, 38), (31, 7, 39), (31, 8, 40), (41, 0, 11), (41, 1, 15), (41, 3, 42), (41, 4, 43), (41, 5, 44), (41, 6, 45), (41, 8, 46), (47, 0, 48), (47, 1, 49), (47, 2, 50), (51, 0, 10), (51, 1, 15), (51, 2, 52), (51, 4, 53), (51, 5, 54), (51, 6, 55), (56, 0, 57), (56, 1, 67), (56, 2, 68), (57, 0, 58), (57, 1, 59), (57, 2, 60), (57, 3, 61), (57, 4, 62), (57, 5, 63), (57, 6, 64), (57, 7, 65), (57, 8, 66), (69, 0, 70), (69, 1, 80), (70, 0, 71), (70, 1, 72), (70, 2, 73), (70, 3, 74), (70, 4, 75), (70, 5, 76), (70, 6, 77), (70, 7, 78), (70, 8, 79), (83, 0, 85), (83, 1, 87), (83, 2, 89), (83, 3, 91), (85, 2, 86), (87, 2, 88), (89, 2, 90), (91, 2, 92), (93, 1, 94), (93, 2, 95), (93, 3, 96), (93, 4, 97), (93, 16, 98), (93, 17, 99), (93, 18, 100), (93, 19, 101), (93, 20, 102), (93, 21, 103), (93, 22, 104), (93, 24, 105), (93, 27, 106), (93, 28, 107), (93, 29, 108), (93, 30, 109), (93, 32, 110), (93, 33, 111), (93, 34, 112), (93, 36, 113), (93, 38, 114), (93, 41, 115), (93, 42, 116), (93, 43, 117)]
/-- the cells that the law makes first: 0 is the class's object, 93 the reference's -/
def Lay (h : am_H) : Prop := 118 ≤ h_n h ∧ (∀ o, o < 118 → h.2.1 o = y_tab.getD o (0, 0)) ∧ ∀ q ∈ y_ref, h_r h q.1 q.2.1 = some q.2.2
def y_cells (h : am_H) (o : Nat) (t : List (Nat × Nat)) : Prop := ∀ k, k < t.length → o + k < h_n h ∧ h.2.1 (o + k) = t.getD k (0, 0)
/-- a cell's facts -/
def y_c (h : am_H) (o k n : Nat) : Prop := o < h_n h ∧ h_k h o = k ∧ h_l h o = n
def y_arr (h : am_H) (o k n : Nat) : Prop := y_c h o k n
def y_Facts_t : List (Nat × Nat) := [(1, 5), (20, 10), (20, 40), (20, 80)]
def y_Facts_r : List (Nat × Nat × Nat) := [(0, 2, 1), (0, 3, 2), (0, 4, 3)]
def y_Facts (h : am_H) (o : Nat) : Prop := (∀ k {t : Nat × Nat}, y_Facts_t[k]? = some t → y_c h (o + k) t.1 t.2) ∧ ∀ q ∈ y_Facts_r, h_r h (o + q.1) q.2.1 = some (o + q.2.2)
def y_House_t : List (Nat × Nat) := [(2, 4), (1, 5), (20, 10), (20, 40), (20, 80)]
def y_House_r : List (Nat × Nat × Nat) := [(0, 0, 1), (1, 2, 2), (1, 3, 3), (1, 4, 4)]
def y_House (h : am_H) (o : Nat) : Prop := (∀ k {t : Nat × Nat}, y_House_t[k]? = some t → y_c h (o + k) t.1 t.2) ∧ ∀ q ∈ y_House_r, h_r h (o + q.1) q.2.1 = some (o + q.2.2)
def y_Orders_t : List (Nat × Nat) := [(6, 9), (20, 11), (20, 11), (20, 121), (20, 4), (20, 55), (20, 5), (20, 5), (20, 5), (20, 5)]
def y_Orders_r : List (Nat × Nat × Nat) := [(0, 0, 1), (0, 1, 2), (0, 2, 3), (0, 3, 4), (0, 4, 5), (0, 5, 6), (0, 6, 7), (0, 7, 8), (0, 8, 9)]
def y_Orders (h : am_H) (o : Nat) : Prop := (∀ k {t : Nat × Nat}, y_Orders_t[k]? = some t → y_c h (o + k) t.1 t.2) ∧ ∀ q ∈ y_Orders_r, h_r h (o + q.1) q.2.1 = some (o + q.2.2)
def y_Tray_t : List (Nat × Nat) := [(9, 3), (23, 40)]
def y_Tray_r : List (Nat × Nat × Nat) := [(0, 2, 1)]
def y_Tray (h : am_H) (o : Nat) : Prop := (∀ k {t : Nat × Nat}, y_Tray_t[k]? = some t → y_c h (o + k) t.1 t.2) ∧ ∀ q ∈ y_Tray_r, h_r h (o + q.1) q.2.1 = some (o + q.2.2)
theorem la_c {h : am_H} (Lh : Lay h) {o : Nat} {t : Nat × Nat} (ht : y_tab[o]? = some t) : y_c h o t.1 t.2 := by
  have ho : o < 118 := (List.getElem?_eq_some_iff.mp ht).1
  have e := Lh.2.1 o ho
  rw [List.getD_eq_getElem?_getD, ht] at e
  exact ⟨by have := Lh.1; omega, congrArg Prod.fst e, congrArg Prod.snd e⟩
theorem la_r {h : am_H} (Lh : Lay h) {q : Nat × Nat × Nat} (hq : q ∈ y_ref) : h_r h q.1 q.2.1 = some q.2.2 := Lh.2.2 q hq
theorem lr_is {h : am_H} {o k n : Nat} (c : y_c h o k n) : am_is h (some o) k := ⟨o, rfl, c.1, c.2.1⟩
theorem lr_ar {h : am_H} {o k n : Nat} {i : Int32} (c : y_c h o k n) : am_ar h (some o) k i ↔ vp_in i n := by
  obtain ⟨c1, c2, c3⟩ := c
  constructor
  · rintro ⟨q, hq, -, -, h4⟩
    cases hq
    rw [← c3]
    exact h4
  · intro h4
    exact ⟨o, rfl, c1, c2, by rw [c3]; exact h4⟩
theorem lr_an20 {h : am_H} {o n : Nat} (c : y_c h o 20 n) : am_an h (some o) := ⟨o, rfl, c.1, Or.inl c.2.1⟩
theorem lr_an21 {h : am_H} {o n : Nat} (c : y_c h o 21 n) : am_an h (some o) := ⟨o, rfl, c.1, Or.inr (Or.inl c.2.1)⟩
theorem lr_an23 {h : am_H} {o n : Nat} (c : y_c h o 23 n) : am_an h (some o) := ⟨o, rfl, c.1, Or.inr (Or.inr c.2.1)⟩
theorem lr_l {h : am_H} {o k n : Nat} (c : y_c h o k n) : h_l h o = n := c.2.2
theorem la_is {h : am_H} (Lh : Lay h) {o : Nat} {t : Nat × Nat} (ht : y_tab[o]? = some t) : am_is h (some o) t.1 := lr_is (la_c Lh ht)
theorem la_ar {h : am_H} (Lh : Lay h) {o : Nat} {t : Nat × Nat} {i : Int32} (ht : y_tab[o]? = some t) : am_ar h (some o) t.1 i ↔ vp_in i t.2 := lr_ar (la_c Lh ht)
theorem la_an20 {h : am_H} (Lh : Lay h) {o n : Nat} (ht : y_tab[o]? = some (20, n)) : am_an h (some o) := lr_an20 (la_c Lh ht)
theorem la_an21 {h : am_H} (Lh : Lay h) {o n : Nat} (ht : y_tab[o]? = some (21, n)) : am_an h (some o) := lr_an21 (la_c Lh ht)
theorem la_an23 {h : am_H} (Lh : Lay h) {o n : Nat} (ht : y_tab[o]? = some (23, n)) : am_an h (some o) := lr_an23 (la_c Lh ht)
theorem la_l {h : am_H} (Lh : Lay h) {o : Nat} {t : Nat × Nat} (ht : y_tab[o]? = some t) : h_l h o = t.2 := lr_l (la_c Lh ht)
theorem lb_is {h : am_H} {o k n : Nat} (c : y_arr h o k n) : am_is h (some o) k := lr_is c
theorem lb_ar {h : am_H} {o k n : Nat} {i : Int32} (c : y_arr h o k n) : am_ar h (some o) k i ↔ vp_in i n := lr_ar c
theorem lb_an20 {h : am_H} {o n : Nat} (c : y_arr h o 20 n) : am_an h (some o) := lr_an20 c
theorem lb_an21 {h : am_H} {o n : Nat} (c : y_arr h o 21 n) : am_an h (some o) := lr_an21 c
theorem lb_an23 {h : am_H} {o n : Nat} (c : y_arr h o 23 n) : am_an h (some o) := lr_an23 c
theorem lb_l {h : am_H} {o k n : Nat} (c : y_arr h o k n) : h_l h o = n := lr_l c
theorem pn_is {h : am_H} {k n : Nat} : am_is (p_n h k n) (some (h_n h)) k := ⟨h_n h, rfl, Nat.lt_succ_self _, by simp [h_k, p_n, am_up]⟩
theorem cj_d {p A B : Prop} (hp : p) (h : A ↔ B) : (p ∧ A) ↔ B := ⟨fun x => h.1 x.2, fun x => ⟨hp, h.2 x⟩⟩
theorem cj_k {p c A B : Prop} (hc : p ↔ c) (h : A ↔ B) : (p ∧ A) ↔ (c ∧ B) := ⟨fun x => ⟨hc.1 x.1, h.1 x.2⟩, fun x => ⟨hc.2 x.1, h.2 x.2⟩⟩
theorem am_r0 {x : Int32} {A : Prop} : (am_fit 0 x ∧ A) ↔ A := ⟨fun z => z.2, fun z => ⟨trivial, z⟩⟩
theorem am_rz {p A : Prop} (hp : p) : (p ∧ A) ↔ A := ⟨fun z => z.2, fun z => ⟨hp, z⟩⟩
theorem ex_.mono {d k pc : Nat} {L : am_L} {S : List am_V} {h : am_H} {Q Q' : Option am_V → am_H → Prop} (x : ex_ d k pc L S h Q) (hQ : ∀ r h, Q r h → Q' r h) : ex_ d k pc L S h Q' := am_Y.mono x hQ
theorem ex_.deep {d e k pc : Nat} {L : am_L} {S : List am_V} {h : am_H} {Q : Option am_V → am_H → Prop} (x : ex_ d k pc L S h Q) (hd : d ≤ e) : ex_ e k pc L S h Q := am_Y.deep x hd
